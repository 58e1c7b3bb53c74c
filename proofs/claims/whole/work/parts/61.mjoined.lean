/-! the model's joined -/
theorem b_Mo_joined_0 {G : ev_G} {d k n : Nat} {h : ev_H} {R : Option Value → ev_H → Prop} {x1 : Int32} {S1 : AS} {v_2 : MG} {z_3 : MP}
  (pr1 : MS h S1)
  (pr2 : sOk S1)
  (r3 : ∃ fs, hat h 102 (oC 9 fs))
  (pr4 : (b2i (inR x1 (sB S1 + 1))) = (0 : Int32) → hat h 102 (moC v_2 z_3))
  (r5 : (b2i (inR x1 (sB S1 + 1))) = (0 : Int32) → ∃ fs, hat h 102 (oC 9 fs))
  (r6 : ¬ (b2i (inR x1 (sB S1 + 1))) = (0 : Int32) → ∃ fs, hat h 102 (oC 9 fs))
  (k1 : (b2i (inR x1 (sB S1 + 1))) = (0 : Int32) → R (some (.int (-1 : Int32))) (hset h 102 (moC (stV v_2 (1 : Int32)) z_3)))
  (k2 : ¬ (b2i (inR x1 (sB S1 + 1))) = (0 : Int32) → Ev G (d + 2) 0 0 M_Mo_counting 0 [.ref 102, ev_unk, ev_unk, ev_unk] [] h (fun r h1 => Ev G (d + 3) k n M_Mo_joined 20 [.ref 102, .int x1, .int (0 : Int32), ev_unk, ev_unk, ev_unk] (r.toList ++ []) h1 R))
  : Ev G (d + 3) k n M_Mo_joined 0 [.ref 102, .int x1, ev_unk, ev_unk, ev_unk, ev_unk] [] h R :=
  Ev.go (pc' := 2) (ls' := [.ref 102, .int x1, ev_unk, ev_unk, ev_unk, ev_unk]) (st' := [.int x1, .ref 102]) [.aload_n 0, .iload_n 1] (by decide +kernel) rfl <|
  Ev.cV0 (M' := M_Mo_isRadius) (as := [.int x1]) (rest := []) l_Mo_309 M_Mo_isRadius_ok M_Mo_isRadius_in M_Mo_isRadius_se (by decide +kernel) r3 rfl rfl rfl (Nat.le_of_ble_eq_true rfl) (Nat.le_of_ble_eq_true rfl) (s_Mo_isRadius pr1 pr2 <| show Ev G (d + 3) _ _ M_Mo_joined 5 [.ref 102, .int x1, ev_unk, ev_unk, ev_unk, ev_unk] [.int (b2i (inR x1 (sB S1 + 1)))] h R from
    Ev.br (i := .ifCond .ne (9)) (P := (b2i (inR x1 (sB S1 + 1))) = (0 : Int32)) (t := 8) (f := 14) (r := []) (by decide +kernel) rfl (fun c1 =>
      Ev.go (pc' := 10) (ls' := [.ref 102, .int x1, ev_unk, ev_unk, ev_unk, ev_unk]) (st' := [.int (1 : Int32), .ref 102]) [.aload_n 0, .iconst 1] (by decide +kernel) rfl <|
      Ev.cV0 (M' := M_Mo_refuse) (as := [.int (1 : Int32)]) (rest := []) l_Mo_226 M_Mo_refuse_ok M_Mo_refuse_in M_Mo_refuse_se (by decide +kernel) (r5 c1) rfl rfl rfl (Nat.le_of_ble_eq_true rfl) (Nat.le_of_ble_eq_true rfl) (s_Mo_refuse (pr4 c1) <| show Ev G (d + 3) _ _ M_Mo_joined 13 [.ref 102, .int x1, ev_unk, ev_unk, ev_unk, ev_unk] [.int (-1 : Int32)] (hset h 102 (moC (stV v_2 (1 : Int32)) z_3)) R from
        Ev.ret (r := (some (.int (-1 : Int32)))) (Or.inl ⟨_, rfl, by decide +kernel, _, rfl, rfl⟩) (k1 c1)
      )
    ) (fun c1 =>
      Ev.go (pc' := 17) (ls' := [.ref 102, .int x1, .int (0 : Int32), ev_unk, ev_unk, ev_unk]) (st' := [.ref 102]) [.iconst 0, .istore_n 2, .aload_n 0] (by decide +kernel) rfl <|
      Ev.cV0 (M' := M_Mo_counting) (as := []) (rest := []) l_Mo_248 M_Mo_counting_ok M_Mo_counting_in M_Mo_counting_se (by decide +kernel) (r6 c1) rfl rfl rfl (Nat.le_of_ble_eq_true rfl) (Nat.le_of_ble_eq_true rfl) (k2 c1)
    )
  )
theorem b_Mo_joined_20 {G : ev_G} {d k n : Nat} {h : ev_H} {R : Option Value → ev_H → Prop} {x1 : Int32} {x2 : Int32} {y0 : Int64}
  (r1 : ∃ fs, hat h 102 (oC 9 fs))
  (k1 : Ev G (d + 2) 0 0 M_Mo_ownParts 0 [.ref 102, ev_unk] [] h (fun r h1 => Ev G (d + 3) k n M_Mo_joined 25 [.ref 102, .int x1, .int x2, .long y0, ev_unk, ev_unk] (r.toList ++ []) h1 R))
  : Ev G (d + 3) k n M_Mo_joined 20 [.ref 102, .int x1, .int x2, ev_unk, ev_unk, ev_unk] [.long y0] h R :=
  Ev.go (pc' := 22) (ls' := [.ref 102, .int x1, .int x2, .long y0, ev_unk, ev_unk]) (st' := [.ref 102]) [.lstore_n 3, .aload_n 0] (by decide +kernel) rfl <|
  Ev.cV0 (M' := M_Mo_ownParts) (as := []) (rest := []) l_Mo_312 M_Mo_ownParts_ok M_Mo_ownParts_in M_Mo_ownParts_se (by decide +kernel) r1 rfl rfl rfl (Nat.le_of_ble_eq_true rfl) (Nat.le_of_ble_eq_true rfl) k1
theorem b_Mo_joined_25 {G : ev_G} {d k n : Nat} {h : ev_H} {R : Option Value → ev_H → Prop} {x1 : Int32} {x2 : Int32} {x3 : Int64}
  (k1 : Ev G (d + 3) k n M_Mo_joined 28 [.ref 102, .int x1, .int x2, .long x3, ev_unk, .int (0 : Int32)] [] h R)
  : Ev G (d + 3) k n M_Mo_joined 25 [.ref 102, .int x1, .int x2, .long x3, ev_unk, ev_unk] [] h R :=
  Ev.go (pc' := 28) (ls' := [.ref 102, .int x1, .int x2, .long x3, ev_unk, .int (0 : Int32)]) (st' := []) [.iconst 0, .istore 5] (by decide +kernel) rfl <|
  k1
theorem b_Mo_joined_28 {G : ev_G} {d k n : Nat} {h : ev_H} {R : Option Value → ev_H → Prop} {x1 : Int32} {x2 : Int32} {x3 : Int64} {x5 : Int32} {S1 : AS} {S2 : AS} {c_3 : Nat} {v_4 : MG} {z_5 : MP}
  (pr1 : MS h S1)
  (r2 : ∃ fs, hat h 102 (oC 9 fs))
  (pr3 : x5 < (nI (sN S1)) → ¬ (b2i (tbL x3 x5)) = (0 : Int32) → MS h S2)
  (pr4 : x5 < (nI (sN S1)) → ¬ (b2i (tbL x3 x5)) = (0 : Int32) → sOk S2)
  (pr5 : x5 < (nI (sN S1)) → ¬ (b2i (tbL x3 x5)) = (0 : Int32) → x5 = nI c_3 ∧ c_3 < sN S2)
  (r6 : x5 < (nI (sN S1)) → ¬ (b2i (tbL x3 x5)) = (0 : Int32) → ∃ fs, hat h 102 (oC 9 fs))
  (pr7 : ¬ x5 < (nI (sN S1)) → hat h 102 (moC v_4 z_5))
  (r8 : ¬ x5 < (nI (sN S1)) → ∃ fs, hat h 102 (oC 9 fs))
  (k1 : x5 < (nI (sN S1)) → (b2i (tbL x3 x5)) = (0 : Int32) → Ev G (d + 3) k n M_Mo_joined 28 [.ref 102, .int x1, .int x2, .long x3, ev_unk, .int (x5 + (1 : Int32))] [] h R)
  (k2 : x5 < (nI (sN S1)) → ¬ (b2i (tbL x3 x5)) = (0 : Int32) → Ev G (d + 2) 0 0 M_Mo_budgetsOf 0 [.ref 102, .long (sCo S2 c_3), ev_unk, .int x1, .long ((x3 >>> ((x5 + (1 : Int32)).toInt64 &&& 63)) <<< ((x5 + (1 : Int32)).toInt64 &&& 63)), ev_unk, ev_unk, ev_unk, ev_unk] [] h (fun r h1 => Ev G (d + 3) k n M_Mo_joined 69 [.ref 102, .int x1, .int x2, .long x3, ev_unk, .int x5] (r.toList ++ [.int x2]) h1 R))
  (k3 : ¬ x5 < (nI (sN S1)) → R (some (.int x2)) (hset h 102 (moC (stV v_4 0) z_5)))
  : Ev G (d + 3) k n M_Mo_joined 28 [.ref 102, .int x1, .int x2, .long x3, ev_unk, .int x5] [] h R :=
  Ev.go (pc' := 31) (ls' := [.ref 102, .int x1, .int x2, .long x3, ev_unk, .int x5]) (st' := [.ref 102, .int x5]) [.iload 5, .aload_n 0] (by decide +kernel) rfl <|
  Ev.cV0 (M' := M_Mo_many_0) (as := []) (rest := [.int x5]) l_Mo_71 M_Mo_many_0_ok M_Mo_many_0_in M_Mo_many_0_se (by decide +kernel) r2 rfl rfl rfl (Nat.le_of_ble_eq_true rfl) (Nat.le_of_ble_eq_true rfl) (s_Mo_many_0 pr1 <| show Ev G (d + 3) _ _ M_Mo_joined 34 [.ref 102, .int x1, .int x2, .long x3, ev_unk, .int x5] [.int (nI (sN S1)), .int x5] h R from
    Ev.br (i := .if_icmp .ge (43)) (P := x5 < (nI (sN S1))) (t := 37) (f := 77) (r := []) (by decide +kernel) rfl (fun c1 =>
      Ev.go (pc' := 40) (ls' := [.ref 102, .int x1, .int x2, .long x3, ev_unk, .int x5]) (st' := [.int x5, .long x3]) [.lload_n 3, .iload 5] (by decide +kernel) rfl <|
      Ev.cS0 (M' := M_Mo_has) (as := [.long x3, .int x5]) (rest := []) l_Mo_271 M_Mo_has_ok M_Mo_has_st (by decide +kernel) rfl rfl (Nat.le_of_ble_eq_true rfl) (Nat.le_of_ble_eq_true rfl) (s_Mo_has <| show Ev G (d + 3) _ _ M_Mo_joined 43 [.ref 102, .int x1, .int x2, .long x3, ev_unk, .int x5] [.int (b2i (tbL x3 x5))] h R from
        Ev.br (i := .ifCond .eq (28)) (P := (b2i (tbL x3 x5)) = (0 : Int32)) (t := 71) (f := 46) (r := []) (by decide +kernel) rfl (fun c2 =>
          Ev.go (pc' := 28) (ls' := [.ref 102, .int x1, .int x2, .long x3, ev_unk, .int (x5 + (1 : Int32))]) (st' := []) [.iinc 5 (1), .goto (-46)] (by decide +kernel) rfl <|
          (k1 c1 c2)
        ) (fun c2 =>
          Ev.go (pc' := 51) (ls' := [.ref 102, .int x1, .int x2, .long x3, ev_unk, .int x5]) (st' := [.int x5, .ref 102, .ref 102, .int x2]) [.iload_n 2, .aload_n 0, .aload_n 0, .iload 5] (by decide +kernel) rfl <|
          Ev.cV0 (M' := M_Mo_codeOf) (as := [.int x5]) (rest := [.ref 102, .int x2]) l_Mo_85 M_Mo_codeOf_ok M_Mo_codeOf_in M_Mo_codeOf_se (by decide +kernel) (r6 c1 c2) rfl rfl rfl (Nat.le_of_ble_eq_true rfl) (Nat.le_of_ble_eq_true rfl) (s_Mo_codeOf (pr3 c1 c2) (pr4 c1 c2) (pr5 c1 c2) <| show Ev G (d + 3) _ _ M_Mo_joined 54 [.ref 102, .int x1, .int x2, .long x3, ev_unk, .int x5] [.long (sCo S2 c_3), .ref 102, .int x2] h R from
            Ev.go (pc' := 66) (ls' := [.ref 102, .int x1, .int x2, .long x3, ev_unk, .int x5]) (st' := [.long ((x3 >>> ((x5 + (1 : Int32)).toInt64 &&& 63)) <<< ((x5 + (1 : Int32)).toInt64 &&& 63)), .int x1, .long (sCo S2 c_3), .ref 102, .int x2]) [.iload_n 1, .lload_n 3, .iload 5, .iconst 1, .iadd, .lshr, .iload 5, .iconst 1, .iadd, .lshl] (by decide +kernel) rfl <|
            Ev.cV0 (M' := M_Mo_budgetsOf) (as := [.long (sCo S2 c_3), .int x1, .long ((x3 >>> ((x5 + (1 : Int32)).toInt64 &&& 63)) <<< ((x5 + (1 : Int32)).toInt64 &&& 63))]) (rest := [.int x2]) l_Mo_315 M_Mo_budgetsOf_ok M_Mo_budgetsOf_in M_Mo_budgetsOf_se (by decide +kernel) (r6 c1 c2) rfl rfl rfl (Nat.le_of_ble_eq_true rfl) (Nat.le_of_ble_eq_true rfl) (k2 c1 c2)
          )
        )
      )
    ) (fun c1 =>
      Ev.go (pc' := 79) (ls' := [.ref 102, .int x1, .int x2, .long x3, ev_unk, .int x5]) (st' := [.int x2, .ref 102]) [.aload_n 0, .iload_n 2] (by decide +kernel) rfl <|
      Ev.cV0 (M' := M_Mo_gives_I) (as := [.int x2]) (rest := []) l_Mo_245 M_Mo_gives_I_ok M_Mo_gives_I_in M_Mo_gives_I_se (by decide +kernel) (r8 c1) rfl rfl rfl (Nat.le_of_ble_eq_true rfl) (Nat.le_of_ble_eq_true rfl) (s_Mo_gives_I (pr7 c1) <| show Ev G (d + 3) _ _ M_Mo_joined 82 [.ref 102, .int x1, .int x2, .long x3, ev_unk, .int x5] [.int x2] (hset h 102 (moC (stV v_4 0) z_5)) R from
        Ev.ret (r := (some (.int x2))) (Or.inl ⟨_, rfl, by decide +kernel, _, rfl, rfl⟩) (k3 c1)
      )
    )
  )
theorem b_Mo_joined_69 {G : ev_G} {d k n : Nat} {h : ev_H} {R : Option Value → ev_H → Prop} {x1 : Int32} {x2 : Int32} {x3 : Int64} {x5 : Int32} {y0 : Int32} {y1 : Int32}
  (k1 : Ev G (d + 3) k n M_Mo_joined 28 [.ref 102, .int x1, .int (y0 + y1), .long x3, ev_unk, .int (x5 + (1 : Int32))] [] h R)
  : Ev G (d + 3) k n M_Mo_joined 69 [.ref 102, .int x1, .int x2, .long x3, ev_unk, .int x5] [.int y1, .int y0] h R :=
  Ev.go (pc' := 28) (ls' := [.ref 102, .int x1, .int (y0 + y1), .long x3, ev_unk, .int (x5 + (1 : Int32))]) (st' := []) [.iadd, .istore_n 2, .iinc 5 (1), .goto (-46)] (by decide +kernel) rfl <|
  k1
section S61
variable {G : ev_G} {d : Nat} {h h1 : ev_H} {R : Option Value → ev_H → Prop} {Q : QS}
/-- the codes of a set past one -/
theorem past_eq {p : Nat → Bool} {i : Nat} (hi : i < 32) : (setL p >>> ((nI (i + 1)).toInt64 &&& 63)) <<< ((nI (i + 1)).toInt64 &&& 63) = setL (fun j => p j && decide (i < j)) := l_ext fun j hj => by
  rw [l_shl (i + 1) (by omega) _ hj, lt_setL]
  by_cases c : i + 1 ≤ j
  · rw [decide_eq_true c, Bool.true_and, l_sshr (i + 1) (by omega) _ (by omega), if_pos (by omega), lt_setL, show i + 1 + (j - (i + 1)) = j by omega, decide_eq_true (show i < j by omega), Bool.and_true]
  · rw [decide_eq_false c, Bool.false_and, decide_eq_false (show ¬ i < j by omega), Bool.and_false, Bool.and_false]
theorem s_Mo_joined2 {r : Int32} (H : MR h Q) (hR : ∀ h', Kp h h' 102 126 → MR h' (stQ Q (a_joined (qS Q) r).2) → R (some (.int (a_joined (qS Q) r).1)) h') : Ev G (d + 7) 0 0 M_Mo_joined 0 [.ref 102, .int r, ev_unk, ev_unk, ev_unk, ev_unk] [] h R := by
  obtain ⟨bm, z, m1⟩ := H.2.1
  have hz := H.szN
  have hzB := H.szB
  refine b_Mo_joined_0 (d := d + 4) H.ms H.ok ⟨_, m1⟩ (fun c1 => m1) (fun c1 => ⟨_, m1⟩) (fun c1 => ⟨_, m1⟩) (fun c1 => H.fin (Kp.refl _ _ _) m1 hR (by unfold a_joined; rw [b2i_e0 c1]; rfl)) (fun c1 => ?_)
  have hr := vN_lt (by omega) (b2i_n0 c1)
  have jn : ∀ e, a_jn (qS Q) (vN r) (sN (qS Q) + e) = a_jn (qS Q) (vN r) (sN (qS Q)) := fun e => by
    induction e with
    | zero => rfl
    | succ e ih =>
      have nf : ctP (qS Q) (sN (qS Q) + e) = false := by
        cases t : ctP (qS Q) (sN (qS Q) + e)
        · rfl
        · have := ct_N t; omega
      show a_jn (qS Q) (vN r) (sN (qS Q) + e) + (if ctP (qS Q) (sN (qS Q) + e) then _ else 0) = _
      rw [nf]; exact ih
  have jn := jn (32 - sN (qS Q))
  rw [show sN (qS Q) + (32 - sN (qS Q)) = 32 by omega] at jn
  have e : a_joined (qS Q) r = (nI (a_jn (qS Q) (vN r) (sN (qS Q))), 0) := by unfold a_joined; rw [if_pos (b2i_n0 c1), jn]
  rw [e] at hR
  clear e jn c1
  generalize vN r = rn at hr hR
  obtain ⟨rfl, hr⟩ := hr
  refine s_cnt H fun h1 K1 H1 => ?_
  obtain ⟨bm, z, m1⟩ := H1.2.1
  refine b_Mo_joined_20 (d := d + 4) ⟨_, m1⟩ ?_
  refine (s_Mo_ownParts (d := d) H1 fun h2 K2 B => ?_).room (by omega) (Nat.le_refl _) (Nat.le_refl _)
  refine b_Mo_joined_25 (d := d + 4) ?_
  have K := (K1.wide (lo' := 102) (hi' := 126) (by omega) (by omega)).trans (K2.wide (by omega) (by omega))
  have L := up_to (P := fun i => ∀ h', Kp h h' 102 126 → BR h' Q (sP (qS Q)) (sBr (qS Q)) → Ev G (d + 7) 0 0 M_Mo_joined 28 [.ref 102, .int (nI rn), .int (nI (a_jn (qS Q) rn i)), .long (setL (ctP (qS Q))), ev_unk, .int (nI i)] [] h' R) (N := sN (qS Q)) ?_ ?_ 0 (Nat.zero_le _)
  · exact L h2 K B
  · intro i hi ih h3 K3 B
    have H3 := B.1
    have H := H3
    obtain ⟨bm, z, m1⟩ := H3.2.1
    have hs := H3.sum
    have tc : tbL (setL (ctP (qS Q))) (nI i) = ctP (qS Q) i := by rw [tbL_n (by omega), lt_setL, decide_eq_true (show i < 32 by omega), Bool.true_and]
    have st : a_jn (qS Q) rn (i + 1) = a_jn (qS Q) rn i + if ctP (qS Q) i then bLp (cstN (fun j => ctP (qS Q) j && decide (i < j)) (sCo (qS Q)) (sCo (qS Q) i) (sBr (qS Q))) (sBr (qS Q)) (sP (qS Q)) 0 (rn + 1) else 0 := rfl
    rw [st] at ih
    refine b_Mo_joined_28 (d := d + 4) (c_3 := i) H.ms ⟨_, m1⟩ (fun c1 c2 => H.ms) (fun c1 c2 => H.ok) (fun c1 c2 => ⟨rfl, hi⟩) (fun c1 c2 => ⟨_, m1⟩) (fun c1 => m1) (fun c1 => ⟨_, m1⟩) (fun c1 c2 => ?_) (fun c1 c2 => ?_) (fun c1 => absurd (nI_lt hi (by omega)) c1)
    · rw [tc] at c2
      rw [b2i_e0 c2] at ih
      rw [nI_1]; exact ih h3 K3 B
    · rw [tc] at c2
      rw [b2i_n0 c2] at ih
      rw [nI_1, past_eq (by omega)]
      refine (s_budgetsOf (d := d) B H3.wOk (by omega) (by omega) (fun j q => by rw [Bool.and_eq_true] at q; exact ct_N q.1) fun h4 K4 B4 _ => ?_).room (by omega) (Nat.le_refl _) (Nat.le_refl _)
      refine b_Mo_joined_69 (d := d + 4) ?_
      rw [nI_add, nI_1]
      exact ih h4 (K3.trans (K4.wide (by omega) (by omega))) B4
  · intro h3 K3 B
    have H3 := B.1
    have H := H3
    obtain ⟨bm, z, m1⟩ := H3.2.1
    have no := nl_self (n := sN (qS Q)) (by omega)
    refine b_Mo_joined_28 (d := d + 4) (c_3 := 0) H.ms ⟨_, m1⟩ (fun c1 c2 => H.ms) (fun c1 c2 => H.ok) (fun c1 c2 => absurd c1 no) (fun c1 c2 => ⟨_, m1⟩) (fun c1 => m1) (fun c1 => ⟨_, m1⟩) (fun c1 c2 => absurd c1 no) (fun c1 c2 => absurd c1 no) (fun c1 => H3.fin (q := (nI (a_jn (qS Q) rn (sN (qS Q))), 0)) K3 m1 hR rfl)
end S61
