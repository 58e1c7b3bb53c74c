/-! the model's near -/
theorem b_Mo_isCandidate_0 {G : ev_G} {d k n : Nat} {h : ev_H} {R : Option Value → ev_H → Prop} {x1 : Int32} {x2 : Int64}
  (k1 : Ev G (d + 2) k n M_Mo_isCandidate 6 [.ref 102, .int x1, .long x2, ev_unk, .int (0 : Int32), .int (0 : Int32)] [] h R)
  : Ev G (d + 2) k n M_Mo_isCandidate 0 [.ref 102, .int x1, .long x2, ev_unk, ev_unk, ev_unk] [] h R :=
  Ev.go (pc' := 6) (ls' := [.ref 102, .int x1, .long x2, ev_unk, .int (0 : Int32), .int (0 : Int32)]) (st' := []) [.iconst 0, .istore 4, .iconst 0, .istore 5] (by decide +kernel) rfl <|
  k1
theorem b_Mo_isCandidate_6 {G : ev_G} {d k n : Nat} {h : ev_H} {R : Option Value → ev_H → Prop} {x1 : Int32} {x2 : Int64} {x4 : Int32} {x5 : Int32} {f_status_1 : Int32} {f_acts_2 : Int32} {f_marks_3 : Int32} {f_taped_4 : Int32} {f_size_5 : Int32} {f_token_6 : Int32} {f_begin_7 : Int32} {f_end_8 : Int32} {f_faults_9 : Int32} {f_faultPlace_10 : Int32} {f_faultKind_11 : Int32} {f_deep_12 : Int32} {f_value_13 : Int64} {f_broadMany_14 : Int32} {S15 : AS} {c_16 : Nat}
  (a1 : hat h 102 (oC 9 [.ref 103, .int f_status_1, .int f_acts_2, .int f_marks_3, .ref 104, .ref 105, .ref 106, .int f_taped_4, .int f_size_5, .int f_token_6, .int f_begin_7, .int f_end_8, .int f_faults_9, .int f_faultPlace_10, .int f_faultKind_11, .int f_deep_12, .long f_value_13, .ref 107, .ref 108, .ref 109, .ref 116, .int f_broadMany_14, .ref 124, .ref 125]))
  (pr2 : x5 < f_broadMany_14 → x4 = (0 : Int32) → MS h S15)
  (pr3 : x5 < f_broadMany_14 → x4 = (0 : Int32) → sOk S15)
  (pr4 : x5 < f_broadMany_14 → x4 = (0 : Int32) → x1 = nI c_16 ∧ c_16 < sN S15)
  (w5 : ¬ x5 < f_broadMany_14 → narrow .boolean (.int x4) = .int x4)
  (k1 : x5 < f_broadMany_14 → x4 = (0 : Int32) → Ev G (d + 1) 0 0 M_Mo_keyAt 0 [.ref 102, .long ((sCo S15 c_16) ^^^ x2), ev_unk, .int x5, ev_unk, ev_unk] [] h (fun r h1 => Ev G (d + 2) k n M_Mo_isCandidate 33 [.ref 102, .int x1, .long x2, ev_unk, .int x4, .int x5] (r.toList ++ []) h1 R))
  (k2 : x5 < f_broadMany_14 → ¬ x4 = (0 : Int32) → Ev G (d + 2) k n M_Mo_isCandidate 6 [.ref 102, .int x1, .long x2, ev_unk, .int (1 : Int32), .int (x5 + (1 : Int32))] [] h R)
  (k3 : ¬ x5 < f_broadMany_14 → R (some (.int x4)) h)
  : Ev G (d + 2) k n M_Mo_isCandidate 6 [.ref 102, .int x1, .long x2, ev_unk, .int x4, .int x5] [] h R :=
  Ev.go (pc' := 9) (ls' := [.ref 102, .int x1, .long x2, ev_unk, .int x4, .int x5]) (st' := [.ref 102, .int x5]) [.iload 5, .aload_n 0] (by decide +kernel) rfl <|
  Ev.getf f_Mo_295 (by decide +kernel) a1 rfl <|
  Ev.br (i := .if_icmp .ge (47)) (P := x5 < f_broadMany_14) (t := 15) (f := 59) (r := []) (by decide +kernel) rfl (fun c1 =>
    Ev.go (pc' := 17) (ls' := [.ref 102, .int x1, .long x2, ev_unk, .int x4, .int x5]) (st' := [.int x4]) [.iload 4] (by decide +kernel) rfl <|
    Ev.br (i := .ifCond .ne (29)) (P := x4 = (0 : Int32)) (t := 20) (f := 46) (r := []) (by decide +kernel) rfl (fun c2 =>
      Ev.go (pc' := 23) (ls' := [.ref 102, .int x1, .long x2, ev_unk, .int x4, .int x5]) (st' := [.int x1, .ref 102, .ref 102]) [.aload_n 0, .aload_n 0, .iload_n 1] (by decide +kernel) rfl <|
      Ev.cV0 (M' := M_Mo_codeOf) (as := [.int x1]) (rest := [.ref 102]) l_Mo_85 M_Mo_codeOf_ok M_Mo_codeOf_in M_Mo_codeOf_se (by decide +kernel) ⟨_, a1⟩ rfl rfl rfl (Nat.le_of_ble_eq_true rfl) (Nat.le_of_ble_eq_true rfl) (s_Mo_codeOf (pr2 c1 c2) (pr3 c1 c2) (pr4 c1 c2) <| show Ev G (d + 2) _ _ M_Mo_isCandidate 26 [.ref 102, .int x1, .long x2, ev_unk, .int x4, .int x5] [.long (sCo S15 c_16), .ref 102] h R from
        Ev.go (pc' := 30) (ls' := [.ref 102, .int x1, .long x2, ev_unk, .int x4, .int x5]) (st' := [.int x5, .long ((sCo S15 c_16) ^^^ x2), .ref 102]) [.lload_n 2, .lxor, .iload 5] (by decide +kernel) rfl <|
        Ev.cV0 (M' := M_Mo_keyAt) (as := [.long ((sCo S15 c_16) ^^^ x2), .int x5]) (rest := []) l_Mo_298 M_Mo_keyAt_ok M_Mo_keyAt_in M_Mo_keyAt_se (by decide +kernel) ⟨_, a1⟩ rfl rfl rfl (Nat.le_of_ble_eq_true rfl) (Nat.le_of_ble_eq_true rfl) (k1 c1 c2)
      )
    ) (fun c2 =>
      Ev.go (pc' := 6) (ls' := [.ref 102, .int x1, .long x2, ev_unk, .int (1 : Int32), .int (x5 + (1 : Int32))]) (st' := []) [.iconst 1, .goto (4), .istore 4, .iinc 5 (1), .goto (-50)] (by decide +kernel) rfl <|
      (k2 c1 c2)
    )
  ) (fun c1 =>
    Ev.go (pc' := 61) (ls' := [.ref 102, .int x1, .long x2, ev_unk, .int x4, .int x5]) (st' := [.int x4]) [.iload 4] (by decide +kernel) rfl <|
    Ev.ret (r := (some (.int x4))) (Or.inl ⟨_, rfl, by decide +kernel, _, rfl, (w5 c1)⟩) (k3 c1)
  )
theorem b_Mo_isCandidate_33 {G : ev_G} {d k n : Nat} {h : ev_H} {R : Option Value → ev_H → Prop} {x1 : Int32} {x2 : Int64} {x4 : Int32} {x5 : Int32} {y0 : Int64} {f_status_1 : Int32} {f_acts_2 : Int32} {f_marks_3 : Int32} {f_taped_4 : Int32} {f_size_5 : Int32} {f_token_6 : Int32} {f_begin_7 : Int32} {f_end_8 : Int32} {f_faults_9 : Int32} {f_faultPlace_10 : Int32} {f_faultKind_11 : Int32} {f_deep_12 : Int32} {f_value_13 : Int64} {f_broadMany_14 : Int32} {g15 : Nat → Int32} {j16 : Nat}
  (a1 : hat h 102 (oC 9 [.ref 103, .int f_status_1, .int f_acts_2, .int f_marks_3, .ref 104, .ref 105, .ref 106, .int f_taped_4, .int f_size_5, .int f_token_6, .int f_begin_7, .int f_end_8, .int f_faults_9, .int f_faultPlace_10, .int f_faultKind_11, .int f_deep_12, .long f_value_13, .ref 107, .ref 108, .ref 109, .ref 116, .int f_broadMany_14, .ref 124, .ref 125]))
  (a2 : hat h 108 (aI 6 g15))
  (i3 : ev_ix x5 j16 6)
  (k1 : (g15 j16) < (nI (pop y0)) → Ev G (d + 2) k n M_Mo_isCandidate 6 [.ref 102, .int x1, .long x2, ev_unk, .int (0 : Int32), .int (x5 + (1 : Int32))] [] h R)
  (k2 : ¬ (g15 j16) < (nI (pop y0)) → Ev G (d + 2) k n M_Mo_isCandidate 6 [.ref 102, .int x1, .long x2, ev_unk, .int (1 : Int32), .int (x5 + (1 : Int32))] [] h R)
  : Ev G (d + 2) k n M_Mo_isCandidate 33 [.ref 102, .int x1, .long x2, ev_unk, .int x4, .int x5] [.long y0] h R :=
  Ev.cS0 (M' := M_Mo_ones_J) (as := [.long y0]) (rest := []) l_Mo_88 M_Mo_ones_J_ok M_Mo_ones_J_st (by decide +kernel) rfl rfl (Nat.le_of_ble_eq_true rfl) (Nat.le_of_ble_eq_true rfl) (s_Mo_ones_J <| show Ev G (d + 2) _ _ M_Mo_isCandidate 36 [.ref 102, .int x1, .long x2, ev_unk, .int x4, .int x5] [.int (nI (pop y0))] h R from
    Ev.go (pc' := 37) (ls' := [.ref 102, .int x1, .long x2, ev_unk, .int x4, .int x5]) (st' := [.ref 102, .int (nI (pop y0))]) [.aload_n 0] (by decide +kernel) rfl <|
    Ev.getf f_Mo_34 (by decide +kernel) a1 rfl <|
    Ev.go (pc' := 42) (ls' := [.ref 102, .int x1, .long x2, ev_unk, .int x4, .int x5]) (st' := [.int x5, .ref 108, .int (nI (pop y0))]) [.iload 5] (by decide +kernel) rfl <|
    Ev.iald (j := j16) (by decide +kernel) a2 i3 <|
    Ev.br (i := .if_icmp .gt (7)) (P := (g15 j16) < (nI (pop y0))) (t := 50) (f := 46) (r := []) (by decide +kernel) rfl (fun c1 =>
      Ev.go (pc' := 6) (ls' := [.ref 102, .int x1, .long x2, ev_unk, .int (0 : Int32), .int (x5 + (1 : Int32))]) (st' := []) [.iconst 0, .istore 4, .iinc 5 (1), .goto (-50)] (by decide +kernel) rfl <|
      (k1 c1)
    ) (fun c1 =>
      Ev.go (pc' := 6) (ls' := [.ref 102, .int x1, .long x2, ev_unk, .int (1 : Int32), .int (x5 + (1 : Int32))]) (st' := []) [.iconst 1, .goto (4), .istore 4, .iinc 5 (1), .goto (-50)] (by decide +kernel) rfl <|
      (k2 c1)
    )
  )
section S60
variable {G : ev_G} {d : Nat} {h h1 : ev_H} {R : Option Value → ev_H → Prop} {Q : QS} {P : Nat} {W : Nat → Nat}
theorem s_isCand {x : Int64} {c : Nat} {sh : Nat → Nat} {gb : Nat → Int32} (B : BR h Q P W) (w : wOk P W) (mb : hat h 108 (aI 6 gb)) (vb : ∀ i, i < P → gb i = nI (sh i) - 1) (hs : ∀ i, i < P → sh i < 100) (hc : c < sN (qS Q)) (hR : R (some (.int (b2i (anyT (fun i => decide (farN (sCo (qS Q) c ^^^ x) (sumT W i) (W i) < sh i)) P)))) h) : Ev G (d + 2) 0 0 M_Mo_isCandidate 0 [.ref 102, .int (nI c), .long x, ev_unk, ev_unk, ev_unk] [] h R := by
  obtain ⟨H, z, g3, m1, m3, hg⟩ := id B
  have P6 := w.2.1
  refine b_Mo_isCandidate_0 ?_
  refine up0 (P := fun i => Ev G (d + 2) 0 0 M_Mo_isCandidate 6 [.ref 102, .int (nI c), .long x, ev_unk, .int (b2i (anyT (fun i => decide (farN (sCo (qS Q) c ^^^ x) (sumT W i) (W i) < sh i)) i)), .int (nI i)] [] h R) P ?_ ?_
  · intro i hi ih
    have yes : nI i < nI P := nI_lt hi (by omega)
    have f : anyT (fun i => decide (farN (sCo (qS Q) c ^^^ x) (sumT W i) (W i) < sh i)) (i + 1) = (anyT (fun i => decide (farN (sCo (qS Q) c ^^^ x) (sumT W i) (W i) < sh i)) i || decide (farN (sCo (qS Q) c ^^^ x) (sumT W i) (W i) < sh i)) := rfl
    have ws := w.sum hi
    have w24 := w.2.2.1 i hi
    have si := hs i hi
    rw [f] at ih
    refine b_Mo_isCandidate_6 (S15 := qS Q) (c_16 := c) m1 (fun _ _ => H.ms) (fun _ _ => H.ok) (fun _ _ => ⟨rfl, hc⟩) (fun _ => b2i_nb _) (fun _ k => ?_) (fun _ k => ?_) (fun k => absurd yes k)
    · rw [b2i_e0 k] at ih ⊢
      refine s_Mo_keyAt m1 m3 hg w hi ?_
      have fl := farN_le (sCo (qS Q) c ^^^ x) (sumT W i) (W i)
      have lts : gb i < nI (pop (lN (keyN (sCo (qS Q) c ^^^ x) (sumT W i) (W i)))) ↔ sh i ≤ farN (sCo (qS Q) c ^^^ x) (sumT W i) (W i) := by
        rw [pop_key (by omega) (by omega), vb i hi]; exact nI_predlt (by omega) (by omega)
      refine b_Mo_isCandidate_33 (j16 := i) m1 mb (ixn (by omega) (by omega)) (fun k => ?_) (fun k => ?_)
      · rw [lts] at k
        rw [decide_eq_false (by omega)] at ih
        rw [nI_1]; exact ih
      · rw [lts] at k
        rw [decide_eq_true (by omega)] at ih
        rw [nI_1]; exact ih
    · rw [b2i_n0 k] at ih
      rw [nI_1]; exact ih
  · have no := nl_self (n := P) (by omega)
    exact b_Mo_isCandidate_6 (S15 := qS Q) (c_16 := c) m1 (fun _ _ => H.ms) (fun _ _ => H.ok) (fun _ _ => ⟨rfl, hc⟩) (fun _ => b2i_nb _) (fun k => absurd k no) (fun k => absurd k no) (fun _ => hR)
end S60
theorem b_Mo_near_0 {G : ev_G} {d k n : Nat} {h : ev_H} {R : Option Value → ev_H → Prop} {x1 : Int64} {x3 : Int32} {x4 : Int32} {S1 : AS} {v_2 : MG} {z_3 : MP} {S4 : AS} {v_5 : MG} {z_6 : MP} {v_7 : MG} {z_8 : MP}
  (pr1 : MS h S1)
  (r2 : ∃ fs, hat h 102 (oC 9 fs))
  (pr3 : (b2i (numB x1 (sB S1))) = (0 : Int32) → hat h 102 (moC v_2 z_3))
  (r4 : (b2i (numB x1 (sB S1))) = (0 : Int32) → ∃ fs, hat h 102 (oC 9 fs))
  (pr5 : ¬ (b2i (numB x1 (sB S1))) = (0 : Int32) → MS h S4)
  (pr6 : ¬ (b2i (numB x1 (sB S1))) = (0 : Int32) → sOk S4)
  (r7 : ¬ (b2i (numB x1 (sB S1))) = (0 : Int32) → ∃ fs, hat h 102 (oC 9 fs))
  (pr8 : ¬ (b2i (numB x1 (sB S1))) = (0 : Int32) → (b2i (inR x3 (sB S4 + 1))) = (0 : Int32) → hat h 102 (moC v_5 z_6))
  (r9 : ¬ (b2i (numB x1 (sB S1))) = (0 : Int32) → (b2i (inR x3 (sB S4 + 1))) = (0 : Int32) → ∃ fs, hat h 102 (oC 9 fs))
  (pr10 : ¬ (b2i (numB x1 (sB S1))) = (0 : Int32) → ¬ (b2i (inR x3 (sB S4 + 1))) = (0 : Int32) → (b2i (frB x4.toInt64 (0 : Int64) (4 : Int64))) = (0 : Int32) → hat h 102 (moC v_7 z_8))
  (r11 : ¬ (b2i (numB x1 (sB S1))) = (0 : Int32) → ¬ (b2i (inR x3 (sB S4 + 1))) = (0 : Int32) → (b2i (frB x4.toInt64 (0 : Int64) (4 : Int64))) = (0 : Int32) → ∃ fs, hat h 102 (oC 9 fs))
  (r12 : ¬ (b2i (numB x1 (sB S1))) = (0 : Int32) → ¬ (b2i (inR x3 (sB S4 + 1))) = (0 : Int32) → ¬ (b2i (frB x4.toInt64 (0 : Int64) (4 : Int64))) = (0 : Int32) → ∃ fs, hat h 102 (oC 9 fs))
  (k1 : (b2i (numB x1 (sB S1))) = (0 : Int32) → R (some (.int (-1 : Int32))) (hset h 102 (moC (stV v_2 (1 : Int32)) z_3)))
  (k2 : ¬ (b2i (numB x1 (sB S1))) = (0 : Int32) → (b2i (inR x3 (sB S4 + 1))) = (0 : Int32) → R (some (.int (-1 : Int32))) (hset h 102 (moC (stV v_5 (1 : Int32)) z_6)))
  (k3 : ¬ (b2i (numB x1 (sB S1))) = (0 : Int32) → ¬ (b2i (inR x3 (sB S4 + 1))) = (0 : Int32) → (b2i (frB x4.toInt64 (0 : Int64) (4 : Int64))) = (0 : Int32) → R (some (.int (-1 : Int32))) (hset h 102 (moC (stV v_7 (1 : Int32)) z_8)))
  (k4 : ¬ (b2i (numB x1 (sB S1))) = (0 : Int32) → ¬ (b2i (inR x3 (sB S4 + 1))) = (0 : Int32) → ¬ (b2i (frB x4.toInt64 (0 : Int64) (4 : Int64))) = (0 : Int32) → Ev G (d + 2) 0 0 M_Mo_ownParts 0 [.ref 102, ev_unk] [] h (fun r h1 => Ev G (d + 3) k n M_Mo_near 39 [.ref 102, .long x1, ev_unk, .int x3, .int x4, ev_unk, ev_unk, ev_unk, ev_unk, ev_unk, ev_unk, ev_unk] (r.toList ++ []) h1 R))
  : Ev G (d + 3) k n M_Mo_near 0 [.ref 102, .long x1, ev_unk, .int x3, .int x4, ev_unk, ev_unk, ev_unk, ev_unk, ev_unk, ev_unk, ev_unk] [] h R :=
  Ev.go (pc' := 2) (ls' := [.ref 102, .long x1, ev_unk, .int x3, .int x4, ev_unk, ev_unk, ev_unk, ev_unk, ev_unk, ev_unk, ev_unk]) (st' := [.long x1, .ref 102]) [.aload_n 0, .lload_n 1] (by decide +kernel) rfl <|
  Ev.cV0 (M' := M_Mo_isNumber) (as := [.long x1]) (rest := []) l_Mo_267 M_Mo_isNumber_ok M_Mo_isNumber_in M_Mo_isNumber_se (by decide +kernel) r2 rfl rfl rfl (Nat.le_of_ble_eq_true rfl) (Nat.le_of_ble_eq_true rfl) (s_Mo_isNumber pr1 <| show Ev G (d + 3) _ _ M_Mo_near 5 [.ref 102, .long x1, ev_unk, .int x3, .int x4, ev_unk, ev_unk, ev_unk, ev_unk, ev_unk, ev_unk, ev_unk] [.int (b2i (numB x1 (sB S1)))] h R from
    Ev.br (i := .ifCond .eq (24)) (P := (b2i (numB x1 (sB S1))) = (0 : Int32)) (t := 29) (f := 8) (r := []) (by decide +kernel) rfl (fun c1 =>
      Ev.go (pc' := 31) (ls' := [.ref 102, .long x1, ev_unk, .int x3, .int x4, ev_unk, ev_unk, ev_unk, ev_unk, ev_unk, ev_unk, ev_unk]) (st' := [.int (1 : Int32), .ref 102]) [.aload_n 0, .iconst 1] (by decide +kernel) rfl <|
      Ev.cV0 (M' := M_Mo_refuse) (as := [.int (1 : Int32)]) (rest := []) l_Mo_226 M_Mo_refuse_ok M_Mo_refuse_in M_Mo_refuse_se (by decide +kernel) (r4 c1) rfl rfl rfl (Nat.le_of_ble_eq_true rfl) (Nat.le_of_ble_eq_true rfl) (s_Mo_refuse (pr3 c1) <| show Ev G (d + 3) _ _ M_Mo_near 34 [.ref 102, .long x1, ev_unk, .int x3, .int x4, ev_unk, ev_unk, ev_unk, ev_unk, ev_unk, ev_unk, ev_unk] [.int (-1 : Int32)] (hset h 102 (moC (stV v_2 (1 : Int32)) z_3)) R from
        Ev.ret (r := (some (.int (-1 : Int32)))) (Or.inl ⟨_, rfl, by decide +kernel, _, rfl, rfl⟩) (k1 c1)
      )
    ) (fun c1 =>
      Ev.go (pc' := 10) (ls' := [.ref 102, .long x1, ev_unk, .int x3, .int x4, ev_unk, ev_unk, ev_unk, ev_unk, ev_unk, ev_unk, ev_unk]) (st' := [.int x3, .ref 102]) [.aload_n 0, .iload_n 3] (by decide +kernel) rfl <|
      Ev.cV0 (M' := M_Mo_isRadius) (as := [.int x3]) (rest := []) l_Mo_309 M_Mo_isRadius_ok M_Mo_isRadius_in M_Mo_isRadius_se (by decide +kernel) (r7 c1) rfl rfl rfl (Nat.le_of_ble_eq_true rfl) (Nat.le_of_ble_eq_true rfl) (s_Mo_isRadius (pr5 c1) (pr6 c1) <| show Ev G (d + 3) _ _ M_Mo_near 13 [.ref 102, .long x1, ev_unk, .int x3, .int x4, ev_unk, ev_unk, ev_unk, ev_unk, ev_unk, ev_unk, ev_unk] [.int (b2i (inR x3 (sB S4 + 1)))] h R from
        Ev.br (i := .ifCond .eq (16)) (P := (b2i (inR x3 (sB S4 + 1))) = (0 : Int32)) (t := 29) (f := 16) (r := []) (by decide +kernel) rfl (fun c2 =>
          Ev.go (pc' := 31) (ls' := [.ref 102, .long x1, ev_unk, .int x3, .int x4, ev_unk, ev_unk, ev_unk, ev_unk, ev_unk, ev_unk, ev_unk]) (st' := [.int (1 : Int32), .ref 102]) [.aload_n 0, .iconst 1] (by decide +kernel) rfl <|
          Ev.cV0 (M' := M_Mo_refuse) (as := [.int (1 : Int32)]) (rest := []) l_Mo_226 M_Mo_refuse_ok M_Mo_refuse_in M_Mo_refuse_se (by decide +kernel) (r9 c1 c2) rfl rfl rfl (Nat.le_of_ble_eq_true rfl) (Nat.le_of_ble_eq_true rfl) (s_Mo_refuse (pr8 c1 c2) <| show Ev G (d + 3) _ _ M_Mo_near 34 [.ref 102, .long x1, ev_unk, .int x3, .int x4, ev_unk, ev_unk, ev_unk, ev_unk, ev_unk, ev_unk, ev_unk] [.int (-1 : Int32)] (hset h 102 (moC (stV v_5 (1 : Int32)) z_6)) R from
            Ev.ret (r := (some (.int (-1 : Int32)))) (Or.inl ⟨_, rfl, by decide +kernel, _, rfl, rfl⟩) (k2 c1 c2)
          )
        ) (fun c2 =>
          Ev.go (pc' := 20) (ls' := [.ref 102, .long x1, ev_unk, .int x3, .int x4, ev_unk, ev_unk, ev_unk, ev_unk, ev_unk, ev_unk, ev_unk]) (st' := [.long (0 : Int64), .long x4.toInt64]) [.iload 4, .i2l, .lconst 0] (by decide +kernel) rfl <|
          Ev.ldc2 k_Mo_319 (by decide +kernel) <|
          Ev.cS0 (M' := M_Mo_isFrom) (as := [.long x4.toInt64, .long (0 : Int64), .long (4 : Int64)]) (rest := []) l_Mo_172 M_Mo_isFrom_ok M_Mo_isFrom_st (by decide +kernel) rfl rfl (Nat.le_of_ble_eq_true rfl) (Nat.le_of_ble_eq_true rfl) (s_Mo_isFrom <| show Ev G (d + 3) _ _ M_Mo_near 26 [.ref 102, .long x1, ev_unk, .int x3, .int x4, ev_unk, ev_unk, ev_unk, ev_unk, ev_unk, ev_unk, ev_unk] [.int (b2i (frB x4.toInt64 (0 : Int64) (4 : Int64)))] h R from
            Ev.br (i := .ifCond .ne (9)) (P := (b2i (frB x4.toInt64 (0 : Int64) (4 : Int64))) = (0 : Int32)) (t := 29) (f := 35) (r := []) (by decide +kernel) rfl (fun c3 =>
              Ev.go (pc' := 31) (ls' := [.ref 102, .long x1, ev_unk, .int x3, .int x4, ev_unk, ev_unk, ev_unk, ev_unk, ev_unk, ev_unk, ev_unk]) (st' := [.int (1 : Int32), .ref 102]) [.aload_n 0, .iconst 1] (by decide +kernel) rfl <|
              Ev.cV0 (M' := M_Mo_refuse) (as := [.int (1 : Int32)]) (rest := []) l_Mo_226 M_Mo_refuse_ok M_Mo_refuse_in M_Mo_refuse_se (by decide +kernel) (r11 c1 c2 c3) rfl rfl rfl (Nat.le_of_ble_eq_true rfl) (Nat.le_of_ble_eq_true rfl) (s_Mo_refuse (pr10 c1 c2 c3) <| show Ev G (d + 3) _ _ M_Mo_near 34 [.ref 102, .long x1, ev_unk, .int x3, .int x4, ev_unk, ev_unk, ev_unk, ev_unk, ev_unk, ev_unk, ev_unk] [.int (-1 : Int32)] (hset h 102 (moC (stV v_7 (1 : Int32)) z_8)) R from
                Ev.ret (r := (some (.int (-1 : Int32)))) (Or.inl ⟨_, rfl, by decide +kernel, _, rfl, rfl⟩) (k3 c1 c2 c3)
              )
            ) (fun c3 =>
              Ev.go (pc' := 36) (ls' := [.ref 102, .long x1, ev_unk, .int x3, .int x4, ev_unk, ev_unk, ev_unk, ev_unk, ev_unk, ev_unk, ev_unk]) (st' := [.ref 102]) [.aload_n 0] (by decide +kernel) rfl <|
              Ev.cV0 (M' := M_Mo_ownParts) (as := []) (rest := []) l_Mo_312 M_Mo_ownParts_ok M_Mo_ownParts_in M_Mo_ownParts_se (by decide +kernel) (r12 c1 c2 c3) rfl rfl rfl (Nat.le_of_ble_eq_true rfl) (Nat.le_of_ble_eq_true rfl) (k4 c1 c2 c3)
            )
          )
        )
      )
    )
  )
theorem b_Mo_near_39 {G : ev_G} {d k n : Nat} {h : ev_H} {R : Option Value → ev_H → Prop} {x1 : Int64} {x3 : Int32} {x4 : Int32}
  (r1 : ∃ fs, hat h 102 (oC 9 fs))
  (k1 : Ev G (d + 2) 0 0 M_Mo_counting 0 [.ref 102, ev_unk, ev_unk, ev_unk] [] h (fun r h1 => Ev G (d + 3) k n M_Mo_near 43 [.ref 102, .long x1, ev_unk, .int x3, .int x4, ev_unk, ev_unk, ev_unk, ev_unk, ev_unk, ev_unk, ev_unk] (r.toList ++ []) h1 R))
  : Ev G (d + 3) k n M_Mo_near 39 [.ref 102, .long x1, ev_unk, .int x3, .int x4, ev_unk, ev_unk, ev_unk, ev_unk, ev_unk, ev_unk, ev_unk] [] h R :=
  Ev.go (pc' := 40) (ls' := [.ref 102, .long x1, ev_unk, .int x3, .int x4, ev_unk, ev_unk, ev_unk, ev_unk, ev_unk, ev_unk, ev_unk]) (st' := [.ref 102]) [.aload_n 0] (by decide +kernel) rfl <|
  Ev.cV0 (M' := M_Mo_counting) (as := []) (rest := []) l_Mo_248 M_Mo_counting_ok M_Mo_counting_in M_Mo_counting_se (by decide +kernel) r1 rfl rfl rfl (Nat.le_of_ble_eq_true rfl) (Nat.le_of_ble_eq_true rfl) k1
theorem b_Mo_near_43 {G : ev_G} {d k n : Nat} {h : ev_H} {R : Option Value → ev_H → Prop} {x1 : Int64} {x3 : Int32} {x4 : Int32} {y0 : Int64}
  (r1 : ∃ fs, hat h 102 (oC 9 fs))
  (k1 : Ev G (d + 2) 0 0 M_Mo_budgetsOf 0 [.ref 102, .long x1, ev_unk, .int x3, .long y0, ev_unk, ev_unk, ev_unk, ev_unk] [] h (fun r h1 => Ev G (d + 3) k n M_Mo_near 53 [.ref 102, .long x1, ev_unk, .int x3, .int x4, .long y0, ev_unk, ev_unk, ev_unk, ev_unk, ev_unk, ev_unk] (r.toList ++ []) h1 R))
  : Ev G (d + 3) k n M_Mo_near 43 [.ref 102, .long x1, ev_unk, .int x3, .int x4, ev_unk, ev_unk, ev_unk, ev_unk, ev_unk, ev_unk, ev_unk] [.long y0] h R :=
  Ev.go (pc' := 50) (ls' := [.ref 102, .long x1, ev_unk, .int x3, .int x4, .long y0, ev_unk, ev_unk, ev_unk, ev_unk, ev_unk, ev_unk]) (st' := [.long y0, .int x3, .long x1, .ref 102]) [.lstore 5, .aload_n 0, .lload_n 1, .iload_n 3, .lload 5] (by decide +kernel) rfl <|
  Ev.cV0 (M' := M_Mo_budgetsOf) (as := [.long x1, .int x3, .long y0]) (rest := []) l_Mo_315 M_Mo_budgetsOf_ok M_Mo_budgetsOf_in M_Mo_budgetsOf_se (by decide +kernel) r1 rfl rfl rfl (Nat.le_of_ble_eq_true rfl) (Nat.le_of_ble_eq_true rfl) k1
theorem b_Mo_near_53 {G : ev_G} {d k n : Nat} {h : ev_H} {R : Option Value → ev_H → Prop} {x1 : Int64} {x3 : Int32} {x4 : Int32} {x5 : Int64} {y0 : Int32}
  (k1 : Ev G (d + 3) k n M_Mo_near 61 [.ref 102, .long x1, ev_unk, .int x3, .int x4, .long x5, ev_unk, .int y0, .long (0 : Int64), ev_unk, .int (0 : Int32), ev_unk] [] h R)
  : Ev G (d + 3) k n M_Mo_near 53 [.ref 102, .long x1, ev_unk, .int x3, .int x4, .long x5, ev_unk, ev_unk, ev_unk, ev_unk, ev_unk, ev_unk] [.int y0] h R :=
  Ev.go (pc' := 61) (ls' := [.ref 102, .long x1, ev_unk, .int x3, .int x4, .long x5, ev_unk, .int y0, .long (0 : Int64), ev_unk, .int (0 : Int32), ev_unk]) (st' := []) [.istore 7, .lconst 0, .lstore 8, .iconst 0, .istore 10] (by decide +kernel) rfl <|
  k1
theorem b_Mo_near_61 {G : ev_G} {d k n : Nat} {h : ev_H} {R : Option Value → ev_H → Prop} {x1 : Int64} {x3 : Int32} {x4 : Int32} {x5 : Int64} {x7 : Int32} {x8 : Int64} {x10 : Int32} {S1 : AS}
  (pr1 : MS h S1)
  (r2 : ∃ fs, hat h 102 (oC 9 fs))
  (r3 : x10 < (nI (sN S1)) → ¬ (b2i (tbL x5 x10)) = (0 : Int32) → ∃ fs, hat h 102 (oC 9 fs))
  (r4 : ¬ x10 < (nI (sN S1)) → ∃ fs, hat h 102 (oC 9 fs))
  (k1 : x10 < (nI (sN S1)) → (b2i (tbL x5 x10)) = (0 : Int32) → Ev G (d + 3) k n M_Mo_near 61 [.ref 102, .long x1, ev_unk, .int x3, .int x4, .long x5, ev_unk, .int x7, .long (x8 ||| (0 : Int64)), ev_unk, .int (x10 + (1 : Int32)), ev_unk] [] h R)
  (k2 : x10 < (nI (sN S1)) → ¬ (b2i (tbL x5 x10)) = (0 : Int32) → Ev G (d + 2) 0 0 M_Mo_isCandidate 0 [.ref 102, .int x10, .long x1, ev_unk, ev_unk, ev_unk] [] h (fun r h1 => Ev G (d + 3) k n M_Mo_near 89 [.ref 102, .long x1, ev_unk, .int x3, .int x4, .long x5, ev_unk, .int x7, .long x8, ev_unk, .int x10, ev_unk] (r.toList ++ [.long x8]) h1 R))
  (k3 : ¬ x10 < (nI (sN S1)) → Ev G (d + 2) 0 0 M_Mo_nearSet 0 [.ref 102, .long x1, ev_unk, .int x3, ev_unk, ev_unk, ev_unk] [] h (fun r h1 => Ev G (d + 3) k n M_Mo_near 115 [.ref 102, .long x1, ev_unk, .int x3, .int x4, .long x5, ev_unk, .int x7, .long x8, ev_unk, .int x10, ev_unk] (r.toList ++ []) h1 R))
  : Ev G (d + 3) k n M_Mo_near 61 [.ref 102, .long x1, ev_unk, .int x3, .int x4, .long x5, ev_unk, .int x7, .long x8, ev_unk, .int x10, ev_unk] [] h R :=
  Ev.go (pc' := 64) (ls' := [.ref 102, .long x1, ev_unk, .int x3, .int x4, .long x5, ev_unk, .int x7, .long x8, ev_unk, .int x10, ev_unk]) (st' := [.ref 102, .int x10]) [.iload 10, .aload_n 0] (by decide +kernel) rfl <|
  Ev.cV0 (M' := M_Mo_many_0) (as := []) (rest := [.int x10]) l_Mo_71 M_Mo_many_0_ok M_Mo_many_0_in M_Mo_many_0_se (by decide +kernel) r2 rfl rfl rfl (Nat.le_of_ble_eq_true rfl) (Nat.le_of_ble_eq_true rfl) (s_Mo_many_0 pr1 <| show Ev G (d + 3) _ _ M_Mo_near 67 [.ref 102, .long x1, ev_unk, .int x3, .int x4, .long x5, ev_unk, .int x7, .long x8, ev_unk, .int x10, ev_unk] [.int (nI (sN S1)), .int x10] h R from
    Ev.br (i := .if_icmp .ge (42)) (P := x10 < (nI (sN S1))) (t := 70) (f := 109) (r := []) (by decide +kernel) rfl (fun c1 =>
      Ev.go (pc' := 76) (ls' := [.ref 102, .long x1, ev_unk, .int x3, .int x4, .long x5, ev_unk, .int x7, .long x8, ev_unk, .int x10, ev_unk]) (st' := [.int x10, .long x5, .long x8]) [.lload 8, .lload 5, .iload 10] (by decide +kernel) rfl <|
      Ev.cS0 (M' := M_Mo_has) (as := [.long x5, .int x10]) (rest := [.long x8]) l_Mo_271 M_Mo_has_ok M_Mo_has_st (by decide +kernel) rfl rfl (Nat.le_of_ble_eq_true rfl) (Nat.le_of_ble_eq_true rfl) (s_Mo_has <| show Ev G (d + 3) _ _ M_Mo_near 79 [.ref 102, .long x1, ev_unk, .int x3, .int x4, .long x5, ev_unk, .int x7, .long x8, ev_unk, .int x10, ev_unk] [.int (b2i (tbL x5 x10)), .long x8] h R from
        Ev.br (i := .ifCond .eq (20)) (P := (b2i (tbL x5 x10)) = (0 : Int32)) (t := 99) (f := 82) (r := [.long x8]) (by decide +kernel) rfl (fun c2 =>
          Ev.go (pc' := 61) (ls' := [.ref 102, .long x1, ev_unk, .int x3, .int x4, .long x5, ev_unk, .int x7, .long (x8 ||| (0 : Int64)), ev_unk, .int (x10 + (1 : Int32)), ev_unk]) (st' := []) [.lconst 0, .lor, .lstore 8, .iinc 10 (1), .goto (-45)] (by decide +kernel) rfl <|
          (k1 c1 c2)
        ) (fun c2 =>
          Ev.go (pc' := 86) (ls' := [.ref 102, .long x1, ev_unk, .int x3, .int x4, .long x5, ev_unk, .int x7, .long x8, ev_unk, .int x10, ev_unk]) (st' := [.long x1, .int x10, .ref 102, .long x8]) [.aload_n 0, .iload 10, .lload_n 1] (by decide +kernel) rfl <|
          Ev.cV0 (M' := M_Mo_isCandidate) (as := [.int x10, .long x1]) (rest := [.long x8]) l_Mo_321 M_Mo_isCandidate_ok M_Mo_isCandidate_in M_Mo_isCandidate_se (by decide +kernel) (r3 c1 c2) rfl rfl rfl (Nat.le_of_ble_eq_true rfl) (Nat.le_of_ble_eq_true rfl) (k2 c1 c2)
        )
      )
    ) (fun c1 =>
      Ev.go (pc' := 112) (ls' := [.ref 102, .long x1, ev_unk, .int x3, .int x4, .long x5, ev_unk, .int x7, .long x8, ev_unk, .int x10, ev_unk]) (st' := [.int x3, .long x1, .ref 102]) [.aload_n 0, .lload_n 1, .iload_n 3] (by decide +kernel) rfl <|
      Ev.cV0 (M' := M_Mo_nearSet) (as := [.long x1, .int x3]) (rest := []) l_Mo_325 M_Mo_nearSet_ok M_Mo_nearSet_in M_Mo_nearSet_se (by decide +kernel) (r4 c1) rfl rfl rfl (Nat.le_of_ble_eq_true rfl) (Nat.le_of_ble_eq_true rfl) (k3 c1)
    )
  )
theorem b_Mo_near_89 {G : ev_G} {d k n : Nat} {h : ev_H} {R : Option Value → ev_H → Prop} {x1 : Int64} {x3 : Int32} {x4 : Int32} {x5 : Int64} {x7 : Int32} {x8 : Int64} {x10 : Int32} {y0 : Int64} {y1 : Int32}
  (k1 : y1 = (0 : Int32) → Ev G (d + 3) k n M_Mo_near 61 [.ref 102, .long x1, ev_unk, .int x3, .int x4, .long x5, ev_unk, .int x7, .long (y0 ||| (0 : Int64)), ev_unk, .int (x10 + (1 : Int32)), ev_unk] [] h R)
  (k2 : ¬ y1 = (0 : Int32) → Ev G (d + 3) k n M_Mo_near 61 [.ref 102, .long x1, ev_unk, .int x3, .int x4, .long x5, ev_unk, .int x7, .long (y0 ||| ((1 : Int64) <<< (x10.toInt64 &&& 63))), ev_unk, .int (x10 + (1 : Int32)), ev_unk] [] h R)
  : Ev G (d + 3) k n M_Mo_near 89 [.ref 102, .long x1, ev_unk, .int x3, .int x4, .long x5, ev_unk, .int x7, .long x8, ev_unk, .int x10, ev_unk] [.int y1, .long y0] h R :=
  Ev.br (i := .ifCond .eq (10)) (P := y1 = (0 : Int32)) (t := 99) (f := 92) (r := [.long y0]) (by decide +kernel) rfl (fun c1 =>
    Ev.go (pc' := 61) (ls' := [.ref 102, .long x1, ev_unk, .int x3, .int x4, .long x5, ev_unk, .int x7, .long (y0 ||| (0 : Int64)), ev_unk, .int (x10 + (1 : Int32)), ev_unk]) (st' := []) [.lconst 0, .lor, .lstore 8, .iinc 10 (1), .goto (-45)] (by decide +kernel) rfl <|
    (k1 c1)
  ) (fun c1 =>
    Ev.go (pc' := 61) (ls' := [.ref 102, .long x1, ev_unk, .int x3, .int x4, .long x5, ev_unk, .int x7, .long (y0 ||| ((1 : Int64) <<< (x10.toInt64 &&& 63))), ev_unk, .int (x10 + (1 : Int32)), ev_unk]) (st' := []) [.lconst 1, .iload 10, .lshl, .goto (4), .lor, .lstore 8, .iinc 10 (1), .goto (-45)] (by decide +kernel) rfl <|
    (k2 c1)
  )
theorem b_Mo_near_115 {G : ev_G} {d k n : Nat} {h : ev_H} {R : Option Value → ev_H → Prop} {x1 : Int64} {x3 : Int32} {x4 : Int32} {x5 : Int64} {x7 : Int32} {x8 : Int64} {x10 : Int32} {y0 : Int64} {v_1 : MG} {z_2 : MP} {v_3 : MG} {z_4 : MP} {v_5 : MG} {z_6 : MP} {v_7 : MG} {z_8 : MP} {v_9 : MG} {z_10 : MP}
  (pr1 : x4 = (0 : Int32) → hat h 102 (moC v_1 z_2))
  (r2 : x4 = (0 : Int32) → ∃ fs, hat h 102 (oC 9 fs))
  (pr3 : ¬ x4 = (0 : Int32) → x4 = (1 : Int32) → hat h 102 (moC v_3 z_4))
  (r4 : ¬ x4 = (0 : Int32) → x4 = (1 : Int32) → ∃ fs, hat h 102 (oC 9 fs))
  (pr5 : ¬ x4 = (0 : Int32) → ¬ x4 = (1 : Int32) → x4 = (2 : Int32) → hat h 102 (moC v_5 z_6))
  (r6 : ¬ x4 = (0 : Int32) → ¬ x4 = (1 : Int32) → x4 = (2 : Int32) → ∃ fs, hat h 102 (oC 9 fs))
  (pr7 : ¬ x4 = (0 : Int32) → ¬ x4 = (1 : Int32) → ¬ x4 = (2 : Int32) → x4 = (3 : Int32) → hat h 102 (moC v_7 z_8))
  (r8 : ¬ x4 = (0 : Int32) → ¬ x4 = (1 : Int32) → ¬ x4 = (2 : Int32) → x4 = (3 : Int32) → ∃ fs, hat h 102 (oC 9 fs))
  (pr9 : ¬ x4 = (0 : Int32) → ¬ x4 = (1 : Int32) → ¬ x4 = (2 : Int32) → ¬ x4 = (3 : Int32) → hat h 102 (moC v_9 z_10))
  (r10 : ¬ x4 = (0 : Int32) → ¬ x4 = (1 : Int32) → ¬ x4 = (2 : Int32) → ¬ x4 = (3 : Int32) → ∃ fs, hat h 102 (oC 9 fs))
  (k1 : x4 = (0 : Int32) → R (some (.int x7)) (hset h 102 (moC (stV v_1 0) z_2)))
  (k2 : ¬ x4 = (0 : Int32) → x4 = (1 : Int32) → R (some (.int (nI (pop x8)))) (hset h 102 (moC (stV v_3 0) z_4)))
  (k3 : ¬ x4 = (0 : Int32) → ¬ x4 = (1 : Int32) → x4 = (2 : Int32) → R (some (.int (nI (pop y0)))) (hset h 102 (moC (stV v_5 0) z_6)))
  (k4 : ¬ x4 = (0 : Int32) → ¬ x4 = (1 : Int32) → ¬ x4 = (2 : Int32) → x4 = (3 : Int32) → R (some (.int x8.toInt32)) (hset h 102 (moC (stV v_7 0) z_8)))
  (k5 : ¬ x4 = (0 : Int32) → ¬ x4 = (1 : Int32) → ¬ x4 = (2 : Int32) → ¬ x4 = (3 : Int32) → R (some (.int y0.toInt32)) (hset h 102 (moC (stV v_9 0) z_10)))
  : Ev G (d + 3) k n M_Mo_near 115 [.ref 102, .long x1, ev_unk, .int x3, .int x4, .long x5, ev_unk, .int x7, .long x8, ev_unk, .int x10, ev_unk] [.long y0] h R :=
  Ev.go (pc' := 120) (ls' := [.ref 102, .long x1, ev_unk, .int x3, .int x4, .long x5, ev_unk, .int x7, .long x8, ev_unk, .long y0, ev_unk]) (st' := [.int x4, .ref 102]) [.lstore 10, .aload_n 0, .iload 4] (by decide +kernel) rfl <|
  Ev.br (i := .ifCond .ne (8)) (P := x4 = (0 : Int32)) (t := 123) (f := 128) (r := [.ref 102]) (by decide +kernel) rfl (fun c1 =>
    Ev.go (pc' := 170) (ls' := [.ref 102, .long x1, ev_unk, .int x3, .int x4, .long x5, ev_unk, .int x7, .long x8, ev_unk, .long y0, ev_unk]) (st' := [.int x7, .ref 102]) [.iload 7, .goto (45)] (by decide +kernel) rfl <|
    Ev.cV0 (M' := M_Mo_gives_I) (as := [.int x7]) (rest := []) l_Mo_245 M_Mo_gives_I_ok M_Mo_gives_I_in M_Mo_gives_I_se (by decide +kernel) (r2 c1) rfl rfl rfl (Nat.le_of_ble_eq_true rfl) (Nat.le_of_ble_eq_true rfl) (s_Mo_gives_I (pr1 c1) <| show Ev G (d + 3) _ _ M_Mo_near 173 [.ref 102, .long x1, ev_unk, .int x3, .int x4, .long x5, ev_unk, .int x7, .long x8, ev_unk, .long y0, ev_unk] [.int x7] (hset h 102 (moC (stV v_1 0) z_2)) R from
      Ev.ret (r := (some (.int x7))) (Or.inl ⟨_, rfl, by decide +kernel, _, rfl, rfl⟩) (k1 c1)
    )
  ) (fun c1 =>
    Ev.go (pc' := 131) (ls' := [.ref 102, .long x1, ev_unk, .int x3, .int x4, .long x5, ev_unk, .int x7, .long x8, ev_unk, .long y0, ev_unk]) (st' := [.int (1 : Int32), .int x4, .ref 102]) [.iload 4, .iconst 1] (by decide +kernel) rfl <|
    Ev.br (i := .if_icmp .ne (11)) (P := x4 = (1 : Int32)) (t := 134) (f := 142) (r := [.ref 102]) (by decide +kernel) rfl (fun c2 =>
      Ev.go (pc' := 136) (ls' := [.ref 102, .long x1, ev_unk, .int x3, .int x4, .long x5, ev_unk, .int x7, .long x8, ev_unk, .long y0, ev_unk]) (st' := [.long x8, .ref 102]) [.lload 8] (by decide +kernel) rfl <|
      Ev.cS0 (M' := M_Mo_ones_J) (as := [.long x8]) (rest := [.ref 102]) l_Mo_88 M_Mo_ones_J_ok M_Mo_ones_J_st (by decide +kernel) rfl rfl (Nat.le_of_ble_eq_true rfl) (Nat.le_of_ble_eq_true rfl) (s_Mo_ones_J <| show Ev G (d + 3) _ _ M_Mo_near 139 [.ref 102, .long x1, ev_unk, .int x3, .int x4, .long x5, ev_unk, .int x7, .long x8, ev_unk, .long y0, ev_unk] [.int (nI (pop x8)), .ref 102] h R from
        Ev.go (pc' := 170) (ls' := [.ref 102, .long x1, ev_unk, .int x3, .int x4, .long x5, ev_unk, .int x7, .long x8, ev_unk, .long y0, ev_unk]) (st' := [.int (nI (pop x8)), .ref 102]) [.goto (31)] (by decide +kernel) rfl <|
        Ev.cV0 (M' := M_Mo_gives_I) (as := [.int (nI (pop x8))]) (rest := []) l_Mo_245 M_Mo_gives_I_ok M_Mo_gives_I_in M_Mo_gives_I_se (by decide +kernel) (r4 c1 c2) rfl rfl rfl (Nat.le_of_ble_eq_true rfl) (Nat.le_of_ble_eq_true rfl) (s_Mo_gives_I (pr3 c1 c2) <| show Ev G (d + 3) _ _ M_Mo_near 173 [.ref 102, .long x1, ev_unk, .int x3, .int x4, .long x5, ev_unk, .int x7, .long x8, ev_unk, .long y0, ev_unk] [.int (nI (pop x8))] (hset h 102 (moC (stV v_3 0) z_4)) R from
          Ev.ret (r := (some (.int (nI (pop x8))))) (Or.inl ⟨_, rfl, by decide +kernel, _, rfl, rfl⟩) (k2 c1 c2)
        )
      )
    ) (fun c2 =>
      Ev.go (pc' := 145) (ls' := [.ref 102, .long x1, ev_unk, .int x3, .int x4, .long x5, ev_unk, .int x7, .long x8, ev_unk, .long y0, ev_unk]) (st' := [.int (2 : Int32), .int x4, .ref 102]) [.iload 4, .iconst 2] (by decide +kernel) rfl <|
      Ev.br (i := .if_icmp .ne (11)) (P := x4 = (2 : Int32)) (t := 148) (f := 156) (r := [.ref 102]) (by decide +kernel) rfl (fun c3 =>
        Ev.go (pc' := 150) (ls' := [.ref 102, .long x1, ev_unk, .int x3, .int x4, .long x5, ev_unk, .int x7, .long x8, ev_unk, .long y0, ev_unk]) (st' := [.long y0, .ref 102]) [.lload 10] (by decide +kernel) rfl <|
        Ev.cS0 (M' := M_Mo_ones_J) (as := [.long y0]) (rest := [.ref 102]) l_Mo_88 M_Mo_ones_J_ok M_Mo_ones_J_st (by decide +kernel) rfl rfl (Nat.le_of_ble_eq_true rfl) (Nat.le_of_ble_eq_true rfl) (s_Mo_ones_J <| show Ev G (d + 3) _ _ M_Mo_near 153 [.ref 102, .long x1, ev_unk, .int x3, .int x4, .long x5, ev_unk, .int x7, .long x8, ev_unk, .long y0, ev_unk] [.int (nI (pop y0)), .ref 102] h R from
          Ev.go (pc' := 170) (ls' := [.ref 102, .long x1, ev_unk, .int x3, .int x4, .long x5, ev_unk, .int x7, .long x8, ev_unk, .long y0, ev_unk]) (st' := [.int (nI (pop y0)), .ref 102]) [.goto (17)] (by decide +kernel) rfl <|
          Ev.cV0 (M' := M_Mo_gives_I) (as := [.int (nI (pop y0))]) (rest := []) l_Mo_245 M_Mo_gives_I_ok M_Mo_gives_I_in M_Mo_gives_I_se (by decide +kernel) (r6 c1 c2 c3) rfl rfl rfl (Nat.le_of_ble_eq_true rfl) (Nat.le_of_ble_eq_true rfl) (s_Mo_gives_I (pr5 c1 c2 c3) <| show Ev G (d + 3) _ _ M_Mo_near 173 [.ref 102, .long x1, ev_unk, .int x3, .int x4, .long x5, ev_unk, .int x7, .long x8, ev_unk, .long y0, ev_unk] [.int (nI (pop y0))] (hset h 102 (moC (stV v_5 0) z_6)) R from
            Ev.ret (r := (some (.int (nI (pop y0))))) (Or.inl ⟨_, rfl, by decide +kernel, _, rfl, rfl⟩) (k3 c1 c2 c3)
          )
        )
      ) (fun c3 =>
        Ev.go (pc' := 159) (ls' := [.ref 102, .long x1, ev_unk, .int x3, .int x4, .long x5, ev_unk, .int x7, .long x8, ev_unk, .long y0, ev_unk]) (st' := [.int (3 : Int32), .int x4, .ref 102]) [.iload 4, .iconst 3] (by decide +kernel) rfl <|
        Ev.br (i := .if_icmp .ne (8)) (P := x4 = (3 : Int32)) (t := 162) (f := 167) (r := [.ref 102]) (by decide +kernel) rfl (fun c4 =>
          Ev.go (pc' := 170) (ls' := [.ref 102, .long x1, ev_unk, .int x3, .int x4, .long x5, ev_unk, .int x7, .long x8, ev_unk, .long y0, ev_unk]) (st' := [.int x8.toInt32, .ref 102]) [.lload 8, .goto (5), .l2i] (by decide +kernel) rfl <|
          Ev.cV0 (M' := M_Mo_gives_I) (as := [.int x8.toInt32]) (rest := []) l_Mo_245 M_Mo_gives_I_ok M_Mo_gives_I_in M_Mo_gives_I_se (by decide +kernel) (r8 c1 c2 c3 c4) rfl rfl rfl (Nat.le_of_ble_eq_true rfl) (Nat.le_of_ble_eq_true rfl) (s_Mo_gives_I (pr7 c1 c2 c3 c4) <| show Ev G (d + 3) _ _ M_Mo_near 173 [.ref 102, .long x1, ev_unk, .int x3, .int x4, .long x5, ev_unk, .int x7, .long x8, ev_unk, .long y0, ev_unk] [.int x8.toInt32] (hset h 102 (moC (stV v_7 0) z_8)) R from
            Ev.ret (r := (some (.int x8.toInt32))) (Or.inl ⟨_, rfl, by decide +kernel, _, rfl, rfl⟩) (k4 c1 c2 c3 c4)
          )
        ) (fun c4 =>
          Ev.go (pc' := 170) (ls' := [.ref 102, .long x1, ev_unk, .int x3, .int x4, .long x5, ev_unk, .int x7, .long x8, ev_unk, .long y0, ev_unk]) (st' := [.int y0.toInt32, .ref 102]) [.lload 10, .l2i] (by decide +kernel) rfl <|
          Ev.cV0 (M' := M_Mo_gives_I) (as := [.int y0.toInt32]) (rest := []) l_Mo_245 M_Mo_gives_I_ok M_Mo_gives_I_in M_Mo_gives_I_se (by decide +kernel) (r10 c1 c2 c3 c4) rfl rfl rfl (Nat.le_of_ble_eq_true rfl) (Nat.le_of_ble_eq_true rfl) (s_Mo_gives_I (pr9 c1 c2 c3 c4) <| show Ev G (d + 3) _ _ M_Mo_near 173 [.ref 102, .long x1, ev_unk, .int x3, .int x4, .long x5, ev_unk, .int x7, .long x8, ev_unk, .long y0, ev_unk] [.int y0.toInt32] (hset h 102 (moC (stV v_9 0) z_10)) R from
            Ev.ret (r := (some (.int y0.toInt32))) (Or.inl ⟨_, rfl, by decide +kernel, _, rfl, rfl⟩) (k5 c1 c2 c3 c4)
          )
        )
      )
    )
  )
section S60b
variable {G : ev_G} {d : Nat} {h h1 : ev_H} {R : Option Value → ev_H → Prop} {Q : QS}
theorem bShr_le (c : Nat → Nat → Nat) (W : Nat → Nat) (P r i : Nat) : bShr c W P r i ≤ r + 1 := by
  have a := bLf_le c W P r i
  unfold bShr
  split
  · exact a
  · have := bst_le (bF c W P i (bLf c W P r i)) (min (bLf c W P r i) (W i + 1))
    unfold bSh; omega
theorem s_Mo_near2 {x : Int64} {r w : Int32} (H : MR h Q) (hR : ∀ h', Kp h h' 102 126 → MR h' (stQ Q (a_near (qS Q) x r w).2) → R (some (.int (a_near (qS Q) x r w).1)) h') : Ev G (d + 7) 0 0 M_Mo_near 0 [.ref 102, .long x, ev_unk, .int r, .int w, ev_unk, ev_unk, ev_unk, ev_unk, ev_unk, ev_unk, ev_unk] [] h R := by
  obtain ⟨bm, z, m1⟩ := H.2.1
  have hz := H.szN
  have hzB := H.szB
  have f : frB w.toInt64 0 4 = decide (0 ≤ w ∧ w < (5 : Int32)) := fr_dc (b := 4) (by omega)
  refine b_Mo_near_0 (d := d + 4) H.ms ⟨_, m1⟩ (fun c1 => m1) (fun c1 => ⟨_, m1⟩) (fun c1 => H.ms) (fun c1 => H.ok) (fun c1 => ⟨_, m1⟩) (fun c1 c2 => m1) (fun c1 c2 => ⟨_, m1⟩) (fun c1 c2 c3 => m1) (fun c1 c2 c3 => ⟨_, m1⟩) (fun c1 c2 c3 => ⟨_, m1⟩) (fun c1 => H.fin (Kp.refl _ _ _) m1 hR (by unfold a_near; rw [b2i_e0 c1]; rfl)) (fun c1 c2 => H.fin (Kp.refl _ _ _) m1 hR (by unfold a_near; rw [b2i_n0 c1, b2i_e0 c2]; rfl)) (fun c1 c2 c3 => H.fin (Kp.refl _ _ _) m1 hR (by rw [f] at c3; unfold a_near; rw [b2i_n0 c1, b2i_n0 c2, b2i_e0 c3]; rfl)) (fun c1 c2 c3 => ?_)
  rw [f] at c3
  have hr := vN_lt (by omega) (b2i_n0 c2)
  have e : a_near (qS Q) x r w = (if w = 0 then nI (a_co (qS Q) x (vN r)) else if w = 1 then nI (cnt (a_can (qS Q) x (vN r)) 32) else if w = 2 then nI (cnt (a_nr (qS Q) x (vN r)) 32) else if w = 3 then setI (a_can (qS Q) x (vN r)) else setI (a_nr (qS Q) x (vN r)), 0) := by unfold a_near; rw [if_pos (b2i_n0 c1), if_pos (b2i_n0 c2), if_pos (b2i_n0 c3)]
  clear c1 c2 c3
  rw [e] at hR
  clear e
  generalize vN r = rn at hr hR
  obtain ⟨rfl, hr⟩ := hr
  refine (s_Mo_ownParts (d := d) H fun h1 K1 B => ?_).room (by omega) (Nat.le_refl _) (Nat.le_refl _)
  obtain ⟨bm, z, m1⟩ := B.1.2.1
  refine b_Mo_near_39 (d := d + 4) ⟨_, m1⟩ ?_
  refine s_cnt B.1 fun h2 K2 H2 => ?_
  have B2 := B.pile K2 H2
  obtain ⟨bm, z, m1⟩ := H2.2.1
  have hs := H2.sum
  refine b_Mo_near_43 (d := d + 4) ⟨_, m1⟩ ?_
  refine (s_budgetsOf (d := d) B2 H2.wOk (by omega) (by omega) (fun j q => ct_N q) fun h3 K3 B3 C3 => ?_).room (by omega) (Nat.le_refl _) (Nat.le_refl _)
  obtain ⟨g, mg, vg⟩ := C3
  have K := ((K1.wide (lo' := 102) (hi' := 126) (by omega) (by omega)).trans (K2.wide (by omega) (by omega))).trans (K3.wide (by omega) (by omega))
  refine b_Mo_near_53 (d := d + 4) ?_
  obtain ⟨bm, z, m1⟩ := B3.1.2.1
  have H3 := B3.1
  have ac : ∀ j, a_can (qS Q) x rn j = (ctP (qS Q) j && anyT (fun i => decide (farN (sCo (qS Q) j ^^^ x) (sumT (sBr (qS Q)) i) (sBr (qS Q) i) < a_sh (qS Q) x rn i)) (sP (qS Q))) := fun j => rfl
  have L := up_to (P := fun c => Ev G (d + 7) 0 0 M_Mo_near 61 [.ref 102, .long x, ev_unk, .int (nI rn), .int w, .long (setL (ctP (qS Q))), ev_unk, .int (nI (a_co (qS Q) x rn)), .long (setL (fun j => decide (j < c) && a_can (qS Q) x rn j)), ev_unk, .int (nI c), ev_unk] [] h3 R) (N := sN (qS Q)) ?_ ?_ 0 (Nat.zero_le _)
  · rw [← setL_lt0] at L; exact L
  · intro c hc ih
    have tc : tbL (setL (ctP (qS Q))) (nI c) = ctP (qS Q) c := by rw [tbL_n (by omega), lt_setL, decide_eq_true (show c < 32 by omega), Bool.true_and]
    refine b_Mo_near_61 (d := d + 4) (S1 := qS Q) H3.ms ⟨_, m1⟩ (fun _ _ => ⟨_, m1⟩) (fun _ => ⟨_, m1⟩) (fun _ k => ?_) (fun _ k => ?_) (fun k => absurd (nI_lt hc (by omega)) k)
    · rw [tc] at k
      have p : a_can (qS Q) x rn c = false := by rw [ac, b2i_e0 k]; rfl
      rw [l_or0, setL_skip _ p, nI_1]; exact ih
    · rw [tc] at k
      refine (s_isCand (d := d) (sh := a_sh (qS Q) x rn) B3 H3.wOk mg vg (fun i _ => by have := bShr_le (a_c (qS Q) x) (sBr (qS Q)) (sP (qS Q)) rn i; unfold a_sh; omega) hc ?_).room (by omega) (Nat.le_refl _) (Nat.le_refl _)
      refine b_Mo_near_89 (d := d + 4) (fun k2 => ?_) (fun k2 => ?_)
      · have p : a_can (qS Q) x rn c = false := by rw [ac, b2i_e0 k2, Bool.and_false]
        rw [l_or0, setL_skip _ p, nI_1]; exact ih
      · have p : a_can (qS Q) x rn c = true := by rw [ac, b2i_n0 k, b2i_n0 k2]; rfl
        rw [setL_add _ (by omega) p, nI_1]; exact ih
  · have no := nl_self (n := sN (qS Q)) (by omega)
    refine b_Mo_near_61 (d := d + 4) (S1 := qS Q) H3.ms ⟨_, m1⟩ (fun _ _ => ⟨_, m1⟩) (fun _ => ⟨_, m1⟩) (fun k => absurd k no) (fun k => absurd k no) (fun _ => ?_)
    rw [lkP_lt (m := 0) (x := 0) (fun j q => by rw [ac, Bool.and_eq_true] at q; exact ct_N q.1)]
    refine s_Mo_nearSet (d := d) H3 (by omega) fun h4 K4 H4 => ?_
    obtain ⟨bm, z, m1⟩ := H4.2.1
    have KK := K.trans (K4.wide (by omega) (by omega))
    have F : ∀ {v : Int32}, (if w = 0 then nI (a_co (qS Q) x rn) else if w = 1 then nI (cnt (a_can (qS Q) x rn) 32) else if w = 2 then nI (cnt (a_nr (qS Q) x rn) 32) else if w = 3 then setI (a_can (qS Q) x rn) else setI (a_nr (qS Q) x rn)) = v → R (some (.int v)) (hset h4 102 (moC (stV (moQ Q bm) 0) z)) := fun {v} ev => H4.fin (q := (_, 0)) KK m1 hR (by rw [ev])
    refine b_Mo_near_115 (d := d + 4) (fun c1 => m1) (fun c1 => ⟨_, m1⟩) (fun c1 c2 => m1) (fun c1 c2 => ⟨_, m1⟩) (fun c1 c2 c3 => m1) (fun c1 c2 c3 => ⟨_, m1⟩) (fun c1 c2 c3 c4 => m1) (fun c1 c2 c3 c4 => ⟨_, m1⟩) (fun c1 c2 c3 c4 => m1) (fun c1 c2 c3 c4 => ⟨_, m1⟩) (fun c1 => F (by rw [if_pos c1])) (fun c1 c2 => F (by rw [if_neg c1, if_pos c2, pop_setL])) (fun c1 c2 c3 => F (by rw [if_neg c1, if_neg c2, if_pos c3, pop_setL])) (fun c1 c2 c3 c4 => F (by rw [if_neg c1, if_neg c2, if_neg c3, if_pos c4, setL_i])) (fun c1 c2 c3 c4 => F (by rw [if_neg c1, if_neg c2, if_neg c3, if_neg c4, setL_i]))
end S60b
