/-! the model's near -/
theorem b_Mo_isCandidate_0 {G : ev_G} {d k n : Nat} {h : ev_H} {R : Option Value → ev_H → Prop} {x1 : Int32} {x2 : Int64}
  (k1 : Ev G (d + 2) k n M_Mo_isCandidate 6 [.ref 102, .int x1, .long x2, ev_unk, .int (0 : Int32), .int (0 : Int32)] [] h R)
  : Ev G (d + 2) k n M_Mo_isCandidate 0 [.ref 102, .int x1, .long x2, ev_unk, ev_unk, ev_unk] [] h R :=
  Ev.go (pc' := 6) (ls' := [.ref 102, .int x1, .long x2, ev_unk, .int (0 : Int32), .int (0 : Int32)]) (st' := []) [.iconst 0, .istore 4, .iconst 0, .istore 5] (by decide +kernel) rfl <|
  k1
theorem b_Mo_isCandidate_6 {G : ev_G} {d k n : Nat} {h : ev_H} {R : Option Value → ev_H → Prop} {x1 : Int32} {x2 : Int64} {x4 : Int32} {x5 : Int32} {f_status_1 : Int32} {f_acts_2 : Int32} {f_marks_3 : Int32} {f_taped_4 : Int32} {f_size_5 : Int32} {f_token_6 : Int32} {f_begin_7 : Int32} {f_end_8 : Int32} {f_faults_9 : Int32} {f_faultPlace_10 : Int32} {f_faultKind_11 : Int32} {f_deep_12 : Int32} {f_value_13 : Int64} {f_broadMany_14 : Int32} {S15 : AS} {c_16 : Nat}
  (a1 : hat h 102 (oC 9 [.ref 103, .int f_status_1, .int f_acts_2, .int f_marks_3, .ref 104, .ref 105, .ref 106, .int f_taped_4, .int f_size_5, .int f_token_6, .int f_begin_7, .int f_end_8, .int f_faults_9, .int f_faultPlace_10, .int f_faultKind_11, .int f_deep_12, .long f_value_13, .ref 107, .ref 108, .ref 109, .ref 116, .int f_broadMany_14, .ref 124, .ref 125]))
  (pr2 : x5 < f_broadMany_14 → x4 = (0 : Int32) → MS h S15)
  (pr3 : x5 < f_broadMany_14 → x4 = (0 : Int32) → sOk S15)
  (pr4 : x5 < f_broadMany_14 → x4 = (0 : Int32) → x1 = nI c_16 ∧ c_16 < sN S15)
  (w5 : ¬ x5 < f_broadMany_14 → narrow .boolean (.int x4) = .int x4)
  (k1 : x5 < f_broadMany_14 → x4 = (0 : Int32) → Ev G (d + 1) 0 0 M_Mo_keyAt 0 [.ref 102, .long ((sCo S15 c_16) ^^^ x2), ev_unk, .int x5, ev_unk, ev_unk] [] h (fun r h1 => Ev G (d + 2) k n M_Mo_isCandidate 33 [.ref 102, .int x1, .long x2, ev_unk, .int x4, .int x5] (r.toList ++ []) h1 R))
  (k2 : x5 < f_broadMany_14 → ¬ x4 = (0 : Int32) → Ev G (d + 2) k n M_Mo_isCandidate 6 [.ref 102, .int x1, .long x2, ev_unk, .int (1 : Int32), .int (x5 + (1 : Int32))] [] h R)
  (k3 : ¬ x5 < f_broadMany_14 → R (some (.int x4)) h)
  : Ev G (d + 2) k n M_Mo_isCandidate 6 [.ref 102, .int x1, .long x2, ev_unk, .int x4, .int x5] [] h R :=
  Ev.go (pc' := 9) (ls' := [.ref 102, .int x1, .long x2, ev_unk, .int x4, .int x5]) (st' := [.ref 102, .int x5]) [.iload 5, .aload_n 0] (by decide +kernel) rfl <|
  Ev.getf f_Mo_295 (by decide +kernel) a1 rfl <|
  Ev.br (i := .if_icmp .ge (47)) (P := x5 < f_broadMany_14) (t := 15) (f := 59) (r := []) (by decide +kernel) rfl (fun c1 =>
    Ev.go (pc' := 17) (ls' := [.ref 102, .int x1, .long x2, ev_unk, .int x4, .int x5]) (st' := [.int x4]) [.iload 4] (by decide +kernel) rfl <|
    Ev.br (i := .ifCond .ne (29)) (P := x4 = (0 : Int32)) (t := 20) (f := 46) (r := []) (by decide +kernel) rfl (fun c2 =>
      Ev.go (pc' := 23) (ls' := [.ref 102, .int x1, .long x2, ev_unk, .int x4, .int x5]) (st' := [.int x1, .ref 102, .ref 102]) [.aload_n 0, .aload_n 0, .iload_n 1] (by decide +kernel) rfl <|
      Ev.cV0 (M' := M_Mo_codeOf) (as := [.int x1]) (rest := [.ref 102]) l_Mo_85 M_Mo_codeOf_ok M_Mo_codeOf_in M_Mo_codeOf_se (by decide +kernel) ⟨_, a1⟩ rfl rfl rfl (Nat.le_of_ble_eq_true rfl) (Nat.le_of_ble_eq_true rfl) (s_Mo_codeOf (pr2 c1 c2) (pr3 c1 c2) (pr4 c1 c2) <| show Ev G (d + 2) _ _ M_Mo_isCandidate 26 [.ref 102, .int x1, .long x2, ev_unk, .int x4, .int x5] [.long (sCo S15 c_16), .ref 102] h R from
        Ev.go (pc' := 30) (ls' := [.ref 102, .int x1, .long x2, ev_unk, .int x4, .int x5]) (st' := [.int x5, .long ((sCo S15 c_16) ^^^ x2), .ref 102]) [.lload_n 2, .lxor, .iload 5] (by decide +kernel) rfl <|
        Ev.cV0 (M' := M_Mo_keyAt) (as := [.long ((sCo S15 c_16) ^^^ x2), .int x5]) (rest := []) l_Mo_298 M_Mo_keyAt_ok M_Mo_keyAt_in M_Mo_keyAt_se (by decide +kernel) ⟨_, a1⟩ rfl rfl rfl (Nat.le_of_ble_eq_true rfl) (Nat.le_of_ble_eq_true rfl) (k1 c1 c2)
      )
    ) (fun c2 =>
      Ev.go (pc' := 6) (ls' := [.ref 102, .int x1, .long x2, ev_unk, .int (1 : Int32), .int (x5 + (1 : Int32))]) (st' := []) [.iconst 1, .goto (4), .istore 4, .iinc 5 (1), .goto (-50)] (by decide +kernel) rfl <|
      (k2 c1 c2)
    )
  ) (fun c1 =>
    Ev.go (pc' := 61) (ls' := [.ref 102, .int x1, .long x2, ev_unk, .int x4, .int x5]) (st' := [.int x4]) [.iload 4] (by decide +kernel) rfl <|
    Ev.ret (r := (some (.int x4))) (Or.inl ⟨_, rfl, by decide +kernel, _, rfl, (w5 c1)⟩) (k3 c1)
  )
theorem b_Mo_isCandidate_33 {G : ev_G} {d k n : Nat} {h : ev_H} {R : Option Value → ev_H → Prop} {x1 : Int32} {x2 : Int64} {x4 : Int32} {x5 : Int32} {y0 : Int64} {f_status_1 : Int32} {f_acts_2 : Int32} {f_marks_3 : Int32} {f_taped_4 : Int32} {f_size_5 : Int32} {f_token_6 : Int32} {f_begin_7 : Int32} {f_end_8 : Int32} {f_faults_9 : Int32} {f_faultPlace_10 : Int32} {f_faultKind_11 : Int32} {f_deep_12 : Int32} {f_value_13 : Int64} {f_broadMany_14 : Int32} {g15 : Nat → Int32} {j16 : Nat}
  (a1 : hat h 102 (oC 9 [.ref 103, .int f_status_1, .int f_acts_2, .int f_marks_3, .ref 104, .ref 105, .ref 106, .int f_taped_4, .int f_size_5, .int f_token_6, .int f_begin_7, .int f_end_8, .int f_faults_9, .int f_faultPlace_10, .int f_faultKind_11, .int f_deep_12, .long f_value_13, .ref 107, .ref 108, .ref 109, .ref 116, .int f_broadMany_14, .ref 124, .ref 125]))
  (a2 : hat h 108 (aI 6 g15))
  (i3 : ev_ix x5 j16 6)
  (k1 : (g15 j16) < (nI (pop y0)) → Ev G (d + 2) k n M_Mo_isCandidate 6 [.ref 102, .int x1, .long x2, ev_unk, .int (0 : Int32), .int (x5 + (1 : Int32))] [] h R)
  (k2 : ¬ (g15 j16) < (nI (pop y0)) → Ev G (d + 2) k n M_Mo_isCandidate 6 [.ref 102, .int x1, .long x2, ev_unk, .int (1 : Int32), .int (x5 + (1 : Int32))] [] h R)
  : Ev G (d + 2) k n M_Mo_isCandidate 33 [.ref 102, .int x1, .long x2, ev_unk, .int x4, .int x5] [.long y0] h R :=
  Ev.cS0 (M' := M_Mo_ones_J) (as := [.long y0]) (rest := []) l_Mo_88 M_Mo_ones_J_ok M_Mo_ones_J_st (by decide +kernel) rfl rfl (Nat.le_of_ble_eq_true rfl) (Nat.le_of_ble_eq_true rfl) (s_Mo_ones_J <| show Ev G (d + 2) _ _ M_Mo_isCandidate 36 [.ref 102, .int x1, .long x2, ev_unk, .int x4, .int x5] [.int (nI (pop y0))] h R from
    Ev.go (pc' := 37) (ls' := [.ref 102, .int x1, .long x2, ev_unk, .int x4, .int x5]) (st' := [.ref 102, .int (nI (pop y0))]) [.aload_n 0] (by decide +kernel) rfl <|
    Ev.getf f_Mo_34 (by decide +kernel) a1 rfl <|
    Ev.go (pc' := 42) (ls' := [.ref 102, .int x1, .long x2, ev_unk, .int x4, .int x5]) (st' := [.int x5, .ref 108, .int (nI (pop y0))]) [.iload 5] (by decide +kernel) rfl <|
    Ev.iald (j := j16) (by decide +kernel) a2 i3 <|
    Ev.br (i := .if_icmp .gt (7)) (P := (g15 j16) < (nI (pop y0))) (t := 50) (f := 46) (r := []) (by decide +kernel) rfl (fun c1 =>
      Ev.go (pc' := 6) (ls' := [.ref 102, .int x1, .long x2, ev_unk, .int (0 : Int32), .int (x5 + (1 : Int32))]) (st' := []) [.iconst 0, .istore 4, .iinc 5 (1), .goto (-50)] (by decide +kernel) rfl <|
      (k1 c1)
    ) (fun c1 =>
      Ev.go (pc' := 6) (ls' := [.ref 102, .int x1, .long x2, ev_unk, .int (1 : Int32), .int (x5 + (1 : Int32))]) (st' := []) [.iconst 1, .goto (4), .istore 4, .iinc 5 (1), .goto (-50)] (by decide +kernel) rfl <|
      (k2 c1)
    )
  )
section S60
variable {G : ev_G} {d : Nat} {h h1 : ev_H} {R : Option Value → ev_H → Prop} {Q : QS} {P : Nat} {W : Nat → Nat}
theorem s_isCand {x : Int64} {c : Nat} {sh : Nat → Nat} {gb : Nat → Int32} (B : BR h Q P W) (w : wOk P W) (mb : hat h 108 (aI 6 gb)) (vb : ∀ i, i < P → gb i = nI (sh i) - 1) (hs : ∀ i, i < P → sh i < 100) (hc : c < sN (qS Q)) (hR : R (some (.int (b2i (anyT (fun i => decide (farN (sCo (qS Q) c ^^^ x) (sumT W i) (W i) < sh i)) P)))) h) : Ev G (d + 2) 0 0 M_Mo_isCandidate 0 [.ref 102, .int (nI c), .long x, ev_unk, ev_unk, ev_unk] [] h R := by
  obtain ⟨H, z, g3, m1, m3, hg⟩ := id B
  have P6 := w.2.1
  refine b_Mo_isCandidate_0 ?_
  refine up0 (P := fun i => Ev G (d + 2) 0 0 M_Mo_isCandidate 6 [.ref 102, .int (nI c), .long x, ev_unk, .int (b2i (anyT (fun i => decide (farN (sCo (qS Q) c ^^^ x) (sumT W i) (W i) < sh i)) i)), .int (nI i)] [] h R) P ?_ ?_
  · intro i hi ih
    have yes : nI i < nI P := nI_lt hi (by omega)
    have f : anyT (fun i => decide (farN (sCo (qS Q) c ^^^ x) (sumT W i) (W i) < sh i)) (i + 1) = (anyT (fun i => decide (farN (sCo (qS Q) c ^^^ x) (sumT W i) (W i) < sh i)) i || decide (farN (sCo (qS Q) c ^^^ x) (sumT W i) (W i) < sh i)) := rfl
    have ws := w.sum hi
    have w24 := w.2.2.1 i hi
    have si := hs i hi
    rw [f] at ih
    refine b_Mo_isCandidate_6 (S15 := qS Q) (c_16 := c) m1 (fun _ _ => H.ms) (fun _ _ => H.ok) (fun _ _ => ⟨rfl, hc⟩) (fun _ => b2i_nb _) (fun _ k => ?_) (fun _ k => ?_) (fun k => absurd yes k)
    · rw [b2i_e0 k] at ih ⊢
      refine s_Mo_keyAt m1 m3 hg w hi ?_
      have fl := farN_le (sCo (qS Q) c ^^^ x) (sumT W i) (W i)
      have lts : gb i < nI (pop (lN (keyN (sCo (qS Q) c ^^^ x) (sumT W i) (W i)))) ↔ sh i ≤ farN (sCo (qS Q) c ^^^ x) (sumT W i) (W i) := by
        rw [pop_key (by omega) (by omega), vb i hi]; exact nI_predlt (by omega) (by omega)
      refine b_Mo_isCandidate_33 (j16 := i) m1 mb (ixn (by omega) (by omega)) (fun k => ?_) (fun k => ?_)
      · rw [lts] at k
        rw [decide_eq_false (by omega)] at ih
        rw [nI_1]; exact ih
      · rw [lts] at k
        rw [decide_eq_true (by omega)] at ih
        rw [nI_1]; exact ih
    · rw [b2i_n0 k] at ih
      rw [nI_1]; exact ih
  · have no := nl_self (n := P) (by omega)
    exact b_Mo_isCandidate_6 (S15 := qS Q) (c_16 := c) m1 (fun _ _ => H.ms) (fun _ _ => H.ok) (fun _ _ => ⟨rfl, hc⟩) (fun _ => b2i_nb _) (fun k => absurd k no) (fun k => absurd k no) (fun _ => hR)
end S60
