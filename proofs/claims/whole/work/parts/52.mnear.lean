/-! the model: parts at hand, costs, nearness -/
def BR (h : ev_H) (Q : QS) (P : Nat) (W : Nat → Nat) : Prop := MR h Q ∧ ∃ z g, hat h 102 (moC (moQ Q (nI P)) z) ∧ hat h 107 (aI 6 g) ∧ ∀ i, i < P → g i = nI (W i)
/-- widths that fit -/
def wOk (P : Nat) (W : Nat → Nat) : Prop := 1 ≤ P ∧ P ≤ 6 ∧ (∀ i, i < P → W i ≤ 24) ∧ sumT W P ≤ 48
theorem b_Mo_keyAt_0 {G : ev_G} {d k n : Nat} {h : ev_H} {R : Option Value → ev_H → Prop} {x1 : Int64} {x3 : Int32}
  (k1 : Ev G d k n M_Mo_keyAt 6 [.ref 102, .long x1, ev_unk, .int x3, .int (0 : Int32), .int (0 : Int32)] [] h R)
  : Ev G d k n M_Mo_keyAt 0 [.ref 102, .long x1, ev_unk, .int x3, ev_unk, ev_unk] [] h R :=
  Ev.go (pc' := 6) (ls' := [.ref 102, .long x1, ev_unk, .int x3, .int (0 : Int32), .int (0 : Int32)]) (st' := []) [.iconst 0, .istore 4, .iconst 0, .istore 5] (by decide +kernel) rfl <|
  k1
theorem b_Mo_keyAt_6 {G : ev_G} {d k n : Nat} {h : ev_H} {R : Option Value → ev_H → Prop} {x1 : Int64} {x3 : Int32} {x4 : Int32} {x5 : Int32} {f_status_1 : Int32} {f_acts_2 : Int32} {f_marks_3 : Int32} {f_taped_4 : Int32} {f_size_5 : Int32} {f_token_6 : Int32} {f_begin_7 : Int32} {f_end_8 : Int32} {f_faults_9 : Int32} {f_faultPlace_10 : Int32} {f_faultKind_11 : Int32} {f_deep_12 : Int32} {f_value_13 : Int64} {f_broadMany_14 : Int32} {g15 : Nat → Int32} {j16 : Nat} {j17 : Nat}
  (a1 : hat h 102 (oC 9 [.ref 103, .int f_status_1, .int f_acts_2, .int f_marks_3, .ref 104, .ref 105, .ref 106, .int f_taped_4, .int f_size_5, .int f_token_6, .int f_begin_7, .int f_end_8, .int f_faults_9, .int f_faultPlace_10, .int f_faultKind_11, .int f_deep_12, .long f_value_13, .ref 107, .ref 108, .ref 109, .ref 116, .int f_broadMany_14, .ref 124, .ref 125]))
  (a2 : hat h 107 (aI 6 g15))
  (i3 : x5 < x3 → ev_ix x5 j16 6)
  (i4 : ¬ x5 < x3 → ev_ix x3 j17 6)
  (k1 : x5 < x3 → Ev G d k n M_Mo_keyAt 6 [.ref 102, .long x1, ev_unk, .int x3, .int (x4 + (g15 j16)), .int (x5 + (1 : Int32))] [] h R)
  (k2 : ¬ x5 < x3 → R (some (.long ((x1 >>> (x4.toInt64 &&& 63)) &&& (((1 : Int64) <<< ((g15 j17).toInt64 &&& 63)) - (1 : Int64))))) h)
  : Ev G d k n M_Mo_keyAt 6 [.ref 102, .long x1, ev_unk, .int x3, .int x4, .int x5] [] h R :=
  Ev.go (pc' := 9) (ls' := [.ref 102, .long x1, ev_unk, .int x3, .int x4, .int x5]) (st' := [.int x3, .int x5]) [.iload 5, .iload_n 3] (by decide +kernel) rfl <|
  Ev.br (i := .if_icmp .ge (21)) (P := x5 < x3) (t := 12) (f := 30) (r := []) (by decide +kernel) rfl (fun c1 =>
    Ev.go (pc' := 15) (ls' := [.ref 102, .long x1, ev_unk, .int x3, .int x4, .int x5]) (st' := [.ref 102, .int x4]) [.iload 4, .aload_n 0] (by decide +kernel) rfl <|
    Ev.getf f_Mo_30 (by decide +kernel) a1 rfl <|
    Ev.go (pc' := 20) (ls' := [.ref 102, .long x1, ev_unk, .int x3, .int x4, .int x5]) (st' := [.int x5, .ref 107, .int x4]) [.iload 5] (by decide +kernel) rfl <|
    Ev.iald (j := j16) (by decide +kernel) a2 (i3 c1) <|
    Ev.go (pc' := 6) (ls' := [.ref 102, .long x1, ev_unk, .int x3, .int (x4 + (g15 j16)), .int (x5 + (1 : Int32))]) (st' := []) [.iadd, .istore 4, .iinc 5 (1), .goto (-21)] (by decide +kernel) rfl <|
    (k1 c1)
  ) (fun c1 =>
    Ev.go (pc' := 36) (ls' := [.ref 102, .long x1, ev_unk, .int x3, .int x4, .int x5]) (st' := [.ref 102, .long (1 : Int64), .long (x1 >>> (x4.toInt64 &&& 63))]) [.lload_n 1, .iload 4, .lshr, .lconst 1, .aload_n 0] (by decide +kernel) rfl <|
    Ev.getf f_Mo_30 (by decide +kernel) a1 rfl <|
    Ev.go (pc' := 40) (ls' := [.ref 102, .long x1, ev_unk, .int x3, .int x4, .int x5]) (st' := [.int x3, .ref 107, .long (1 : Int64), .long (x1 >>> (x4.toInt64 &&& 63))]) [.iload_n 3] (by decide +kernel) rfl <|
    Ev.iald (j := j17) (by decide +kernel) a2 (i4 c1) <|
    Ev.go (pc' := 45) (ls' := [.ref 102, .long x1, ev_unk, .int x3, .int x4, .int x5]) (st' := [.long ((x1 >>> (x4.toInt64 &&& 63)) &&& (((1 : Int64) <<< ((g15 j17).toInt64 &&& 63)) - (1 : Int64)))]) [.lshl, .lconst 1, .lsub, .land] (by decide +kernel) rfl <|
    Ev.ret (r := (some (.long ((x1 >>> (x4.toInt64 &&& 63)) &&& (((1 : Int64) <<< ((g15 j17).toInt64 &&& 63)) - (1 : Int64)))))) (Or.inr (Or.inl ⟨_, rfl, by decide +kernel, rfl⟩)) (k2 c1)
  )
theorem b_Mo_ownParts_0 {G : ev_G} {d k n : Nat} {h : ev_H} {R : Option Value → ev_H → Prop} {S1 : AS} {f_status_2 : Int32} {f_acts_3 : Int32} {f_marks_4 : Int32} {f_taped_5 : Int32} {f_size_6 : Int32} {f_token_7 : Int32} {f_begin_8 : Int32} {f_end_9 : Int32} {f_faults_10 : Int32} {f_faultPlace_11 : Int32} {f_faultKind_12 : Int32} {f_deep_13 : Int32} {f_value_14 : Int64} {f_broadMany_15 : Int32}
  (a3 : hat h 102 (oC 9 [.ref 103, .int f_status_2, .int f_acts_3, .int f_marks_4, .ref 104, .ref 105, .ref 106, .int f_taped_5, .int f_size_6, .int f_token_7, .int f_begin_8, .int f_end_9, .int f_faults_10, .int f_faultPlace_11, .int f_faultKind_12, .int f_deep_13, .long f_value_14, .ref 107, .ref 108, .ref 109, .ref 116, .int f_broadMany_15, .ref 124, .ref 125]))
  (pr1 : MS h S1)
  (r2 : ∃ fs, hat h 102 (oC 9 fs))
  (k1 : Ev G (d + 2) k n M_Mo_ownParts 10 [.ref 102, .int (0 : Int32)] [] (hset h 102 (oC 9 [.ref 103, .int f_status_2, .int f_acts_3, .int f_marks_4, .ref 104, .ref 105, .ref 106, .int f_taped_5, .int f_size_6, .int f_token_7, .int f_begin_8, .int f_end_9, .int f_faults_10, .int f_faultPlace_11, .int f_faultKind_12, .int f_deep_13, .long f_value_14, .ref 107, .ref 108, .ref 109, .ref 116, .int (nI (sP S1)), .ref 124, .ref 125])) R)
  : Ev G (d + 2) k n M_Mo_ownParts 0 [.ref 102, ev_unk] [] h R :=
  Ev.go (pc' := 2) (ls' := [.ref 102, ev_unk]) (st' := [.ref 102, .ref 102]) [.aload_n 0, .aload_n 0] (by decide +kernel) rfl <|
  Ev.cV0 (M' := M_Mo_parts) (as := []) (rest := [.ref 102]) l_Mo_75 M_Mo_parts_ok M_Mo_parts_in M_Mo_parts_se (by decide +kernel) r2 rfl rfl rfl (Nat.le_of_ble_eq_true rfl) (Nat.le_of_ble_eq_true rfl) (s_Mo_parts pr1 <| show Ev G (d + 2) _ _ M_Mo_ownParts 5 [.ref 102, ev_unk] [.int (nI (sP S1)), .ref 102] h R from
    Ev.putf f_Mo_295 (by decide +kernel) a3 (Nat.le_of_ble_eq_true rfl) rfl (fun q => nomatch q) <| show Ev G (d + 2) _ _ M_Mo_ownParts 8 [.ref 102, ev_unk] [] (hset h 102 (oC 9 [.ref 103, .int f_status_2, .int f_acts_3, .int f_marks_4, .ref 104, .ref 105, .ref 106, .int f_taped_5, .int f_size_6, .int f_token_7, .int f_begin_8, .int f_end_9, .int f_faults_10, .int f_faultPlace_11, .int f_faultKind_12, .int f_deep_13, .long f_value_14, .ref 107, .ref 108, .ref 109, .ref 116, .int (nI (sP S1)), .ref 124, .ref 125])) R from
    Ev.go (pc' := 10) (ls' := [.ref 102, .int (0 : Int32)]) (st' := []) [.iconst 0, .istore_n 1] (by decide +kernel) rfl <|
    k1
  )
theorem b_Mo_ownParts_10 {G : ev_G} {d k n : Nat} {h : ev_H} {R : Option Value → ev_H → Prop} {x1 : Int32} {f_status_1 : Int32} {f_acts_2 : Int32} {f_marks_3 : Int32} {f_taped_4 : Int32} {f_size_5 : Int32} {f_token_6 : Int32} {f_begin_7 : Int32} {f_end_8 : Int32} {f_faults_9 : Int32} {f_faultPlace_10 : Int32} {f_faultKind_11 : Int32} {f_deep_12 : Int32} {f_value_13 : Int64} {f_broadMany_14 : Int32} {S15 : AS} {p_16 : Nat} {g17 : Nat → Int32} {j18 : Nat}
  (a1 : hat h 102 (oC 9 [.ref 103, .int f_status_1, .int f_acts_2, .int f_marks_3, .ref 104, .ref 105, .ref 106, .int f_taped_4, .int f_size_5, .int f_token_6, .int f_begin_7, .int f_end_8, .int f_faults_9, .int f_faultPlace_10, .int f_faultKind_11, .int f_deep_12, .long f_value_13, .ref 107, .ref 108, .ref 109, .ref 116, .int f_broadMany_14, .ref 124, .ref 125]))
  (a5 : hat h 107 (aI 6 g17))
  (pr2 : x1 < f_broadMany_14 → MS h S15)
  (pr3 : x1 < f_broadMany_14 → sOk S15)
  (pr4 : x1 < f_broadMany_14 → x1 = nI p_16 ∧ p_16 < sP S15)
  (i6 : x1 < f_broadMany_14 → ev_ix x1 j18 6)
  (k1 : x1 < f_broadMany_14 → Ev G (d + 2) k n M_Mo_ownParts 10 [.ref 102, .int (x1 + (1 : Int32))] [] (hset h 107 (aI 6 (upd g17 j18 (nI (sBr S15 p_16))))) R)
  (k2 : ¬ x1 < f_broadMany_14 → R none h)
  : Ev G (d + 2) k n M_Mo_ownParts 10 [.ref 102, .int x1] [] h R :=
  Ev.go (pc' := 12) (ls' := [.ref 102, .int x1]) (st' := [.ref 102, .int x1]) [.iload_n 1, .aload_n 0] (by decide +kernel) rfl <|
  Ev.getf f_Mo_295 (by decide +kernel) a1 rfl <|
  Ev.br (i := .if_icmp .ge (20)) (P := x1 < f_broadMany_14) (t := 18) (f := 35) (r := []) (by decide +kernel) rfl (fun c1 =>
    Ev.go (pc' := 19) (ls' := [.ref 102, .int x1]) (st' := [.ref 102]) [.aload_n 0] (by decide +kernel) rfl <|
    Ev.getf f_Mo_30 (by decide +kernel) a1 rfl <|
    Ev.go (pc' := 25) (ls' := [.ref 102, .int x1]) (st' := [.int x1, .ref 102, .int x1, .ref 107]) [.iload_n 1, .aload_n 0, .iload_n 1] (by decide +kernel) rfl <|
    Ev.cV0 (M' := M_Mo_breadthOf) (as := [.int x1]) (rest := [.int x1, .ref 107]) l_Mo_81 M_Mo_breadthOf_ok M_Mo_breadthOf_in M_Mo_breadthOf_se (by decide +kernel) ⟨_, a1⟩ rfl rfl rfl (Nat.le_of_ble_eq_true rfl) (Nat.le_of_ble_eq_true rfl) (s_Mo_breadthOf (pr2 c1) (pr3 c1) (pr4 c1) <| show Ev G (d + 2) _ _ M_Mo_ownParts 28 [.ref 102, .int x1] [.int (nI (sBr S15 p_16)), .int x1, .ref 107] h R from
      Ev.iast (j := j18) (by decide +kernel) a5 (i6 c1) <| show Ev G (d + 2) _ _ M_Mo_ownParts 29 [.ref 102, .int x1] [] (hset h 107 (aI 6 (upd g17 j18 (nI (sBr S15 p_16))))) R from
      Ev.go (pc' := 10) (ls' := [.ref 102, .int (x1 + (1 : Int32))]) (st' := []) [.iinc 1 (1), .goto (-22)] (by decide +kernel) rfl <|
      (k1 c1)
    )
  ) (fun c1 =>
    Ev.ret (r := none) (Or.inr (Or.inr (Or.inl ⟨rfl, by decide +kernel, rfl⟩))) (k2 c1)
  )
theorem b_Mo_costOf_0 {G : ev_G} {d k n : Nat} {h : ev_H} {R : Option Value → ev_H → Prop} {x1 : Int64} {x3 : Int32} {x4 : Int32} {x5 : Int64}
  (k1 : Ev G (d + 2) k n M_Mo_costOf 6 [.ref 102, .long x1, ev_unk, .int x3, .int x4, .long x5, ev_unk, .int (0 : Int32), .int (0 : Int32)] [] h R)
  : Ev G (d + 2) k n M_Mo_costOf 0 [.ref 102, .long x1, ev_unk, .int x3, .int x4, .long x5, ev_unk, ev_unk, ev_unk] [] h R :=
  Ev.go (pc' := 6) (ls' := [.ref 102, .long x1, ev_unk, .int x3, .int x4, .long x5, ev_unk, .int (0 : Int32), .int (0 : Int32)]) (st' := []) [.iconst 0, .istore 7, .iconst 0, .istore 8] (by decide +kernel) rfl <|
  k1
theorem b_Mo_costOf_6 {G : ev_G} {d k n : Nat} {h : ev_H} {R : Option Value → ev_H → Prop} {x1 : Int64} {x3 : Int32} {x4 : Int32} {x5 : Int64} {x7 : Int32} {x8 : Int32} {S1 : AS} {S2 : AS} {c_3 : Nat}
  (pr1 : MS h S1)
  (r2 : ∃ fs, hat h 102 (oC 9 fs))
  (pr3 : x8 < (nI (sN S1)) → ¬ (b2i (tbL x5 x8)) = (0 : Int32) → MS h S2)
  (pr4 : x8 < (nI (sN S1)) → ¬ (b2i (tbL x5 x8)) = (0 : Int32) → sOk S2)
  (pr5 : x8 < (nI (sN S1)) → ¬ (b2i (tbL x5 x8)) = (0 : Int32) → x8 = nI c_3 ∧ c_3 < sN S2)
  (r6 : x8 < (nI (sN S1)) → ¬ (b2i (tbL x5 x8)) = (0 : Int32) → ∃ fs, hat h 102 (oC 9 fs))
  (k1 : x8 < (nI (sN S1)) → (b2i (tbL x5 x8)) = (0 : Int32) → Ev G (d + 2) k n M_Mo_costOf 6 [.ref 102, .long x1, ev_unk, .int x3, .int x4, .long x5, ev_unk, .int (x7 + (0 : Int32)), .int (x8 + (1 : Int32))] [] h R)
  (k2 : x8 < (nI (sN S1)) → ¬ (b2i (tbL x5 x8)) = (0 : Int32) → Ev G (d + 1) 0 0 M_Mo_keyAt 0 [.ref 102, .long ((sCo S2 c_3) ^^^ x1), ev_unk, .int x3, ev_unk, ev_unk] [] h (fun r h1 => Ev G (d + 2) k n M_Mo_costOf 40 [.ref 102, .long x1, ev_unk, .int x3, .int x4, .long x5, ev_unk, .int x7, .int x8] (r.toList ++ [.int x7]) h1 R))
  (k3 : ¬ x8 < (nI (sN S1)) → R (some (.int x7)) h)
  : Ev G (d + 2) k n M_Mo_costOf 6 [.ref 102, .long x1, ev_unk, .int x3, .int x4, .long x5, ev_unk, .int x7, .int x8] [] h R :=
  Ev.go (pc' := 9) (ls' := [.ref 102, .long x1, ev_unk, .int x3, .int x4, .long x5, ev_unk, .int x7, .int x8]) (st' := [.ref 102, .int x8]) [.iload 8, .aload_n 0] (by decide +kernel) rfl <|
  Ev.cV0 (M' := M_Mo_many_0) (as := []) (rest := [.int x8]) l_Mo_71 M_Mo_many_0_ok M_Mo_many_0_in M_Mo_many_0_se (by decide +kernel) r2 rfl rfl rfl (Nat.le_of_ble_eq_true rfl) (Nat.le_of_ble_eq_true rfl) (s_Mo_many_0 pr1 <| show Ev G (d + 2) _ _ M_Mo_costOf 12 [.ref 102, .long x1, ev_unk, .int x3, .int x4, .long x5, ev_unk, .int x7, .int x8] [.int (nI (sN S1)), .int x8] h R from
    Ev.br (i := .if_icmp .ge (50)) (P := x8 < (nI (sN S1))) (t := 15) (f := 62) (r := []) (by decide +kernel) rfl (fun c1 =>
      Ev.go (pc' := 21) (ls' := [.ref 102, .long x1, ev_unk, .int x3, .int x4, .long x5, ev_unk, .int x7, .int x8]) (st' := [.int x8, .long x5, .int x7]) [.iload 7, .lload 5, .iload 8] (by decide +kernel) rfl <|
      Ev.cS0 (M' := M_Mo_has) (as := [.long x5, .int x8]) (rest := [.int x7]) l_Mo_271 M_Mo_has_ok M_Mo_has_st (by decide +kernel) rfl rfl (Nat.le_of_ble_eq_true rfl) (Nat.le_of_ble_eq_true rfl) (s_Mo_has <| show Ev G (d + 2) _ _ M_Mo_costOf 24 [.ref 102, .long x1, ev_unk, .int x3, .int x4, .long x5, ev_unk, .int x7, .int x8] [.int (b2i (tbL x5 x8)), .int x7] h R from
        Ev.br (i := .ifCond .eq (28)) (P := (b2i (tbL x5 x8)) = (0 : Int32)) (t := 52) (f := 27) (r := [.int x7]) (by decide +kernel) rfl (fun c2 =>
          Ev.go (pc' := 6) (ls' := [.ref 102, .long x1, ev_unk, .int x3, .int x4, .long x5, ev_unk, .int (x7 + (0 : Int32)), .int (x8 + (1 : Int32))]) (st' := []) [.iconst 0, .iadd, .istore 7, .iinc 8 (1), .goto (-53)] (by decide +kernel) rfl <|
          (k1 c1 c2)
        ) (fun c2 =>
          Ev.go (pc' := 31) (ls' := [.ref 102, .long x1, ev_unk, .int x3, .int x4, .long x5, ev_unk, .int x7, .int x8]) (st' := [.int x8, .ref 102, .ref 102, .int x7]) [.aload_n 0, .aload_n 0, .iload 8] (by decide +kernel) rfl <|
          Ev.cV0 (M' := M_Mo_codeOf) (as := [.int x8]) (rest := [.ref 102, .int x7]) l_Mo_85 M_Mo_codeOf_ok M_Mo_codeOf_in M_Mo_codeOf_se (by decide +kernel) (r6 c1 c2) rfl rfl rfl (Nat.le_of_ble_eq_true rfl) (Nat.le_of_ble_eq_true rfl) (s_Mo_codeOf (pr3 c1 c2) (pr4 c1 c2) (pr5 c1 c2) <| show Ev G (d + 2) _ _ M_Mo_costOf 34 [.ref 102, .long x1, ev_unk, .int x3, .int x4, .long x5, ev_unk, .int x7, .int x8] [.long (sCo S2 c_3), .ref 102, .int x7] h R from
            Ev.go (pc' := 37) (ls' := [.ref 102, .long x1, ev_unk, .int x3, .int x4, .long x5, ev_unk, .int x7, .int x8]) (st' := [.int x3, .long ((sCo S2 c_3) ^^^ x1), .ref 102, .int x7]) [.lload_n 1, .lxor, .iload_n 3] (by decide +kernel) rfl <|
            Ev.cV0 (M' := M_Mo_keyAt) (as := [.long ((sCo S2 c_3) ^^^ x1), .int x3]) (rest := [.int x7]) l_Mo_298 M_Mo_keyAt_ok M_Mo_keyAt_in M_Mo_keyAt_se (by decide +kernel) (r6 c1 c2) rfl rfl rfl (Nat.le_of_ble_eq_true rfl) (Nat.le_of_ble_eq_true rfl) (k2 c1 c2)
          )
        )
      )
    ) (fun c1 =>
      Ev.go (pc' := 64) (ls' := [.ref 102, .long x1, ev_unk, .int x3, .int x4, .long x5, ev_unk, .int x7, .int x8]) (st' := [.int x7]) [.iload 7] (by decide +kernel) rfl <|
      Ev.ret (r := (some (.int x7))) (Or.inl ⟨_, rfl, by decide +kernel, _, rfl, rfl⟩) (k3 c1)
    )
  )
theorem b_Mo_costOf_40 {G : ev_G} {d k n : Nat} {h : ev_H} {R : Option Value → ev_H → Prop} {x1 : Int64} {x3 : Int32} {x4 : Int32} {x5 : Int64} {x7 : Int32} {x8 : Int32} {y0 : Int32} {y1 : Int64}
  (k1 : x4 < (nI (pop y1)) → Ev G (d + 2) k n M_Mo_costOf 6 [.ref 102, .long x1, ev_unk, .int x3, .int x4, .long x5, ev_unk, .int (y0 + (0 : Int32)), .int (x8 + (1 : Int32))] [] h R)
  (k2 : ¬ x4 < (nI (pop y1)) → Ev G (d + 2) k n M_Mo_costOf 6 [.ref 102, .long x1, ev_unk, .int x3, .int x4, .long x5, ev_unk, .int (y0 + (1 : Int32)), .int (x8 + (1 : Int32))] [] h R)
  : Ev G (d + 2) k n M_Mo_costOf 40 [.ref 102, .long x1, ev_unk, .int x3, .int x4, .long x5, ev_unk, .int x7, .int x8] [.long y1, .int y0] h R :=
  Ev.cS0 (M' := M_Mo_ones_J) (as := [.long y1]) (rest := [.int y0]) l_Mo_88 M_Mo_ones_J_ok M_Mo_ones_J_st (by decide +kernel) rfl rfl (Nat.le_of_ble_eq_true rfl) (Nat.le_of_ble_eq_true rfl) (s_Mo_ones_J <| show Ev G (d + 2) _ _ M_Mo_costOf 43 [.ref 102, .long x1, ev_unk, .int x3, .int x4, .long x5, ev_unk, .int x7, .int x8] [.int (nI (pop y1)), .int y0] h R from
    Ev.go (pc' := 45) (ls' := [.ref 102, .long x1, ev_unk, .int x3, .int x4, .long x5, ev_unk, .int x7, .int x8]) (st' := [.int x4, .int (nI (pop y1)), .int y0]) [.iload 4] (by decide +kernel) rfl <|
    Ev.br (i := .if_icmp .gt (7)) (P := x4 < (nI (pop y1))) (t := 52) (f := 48) (r := [.int y0]) (by decide +kernel) rfl (fun c1 =>
      Ev.go (pc' := 6) (ls' := [.ref 102, .long x1, ev_unk, .int x3, .int x4, .long x5, ev_unk, .int (y0 + (0 : Int32)), .int (x8 + (1 : Int32))]) (st' := []) [.iconst 0, .iadd, .istore 7, .iinc 8 (1), .goto (-53)] (by decide +kernel) rfl <|
      (k1 c1)
    ) (fun c1 =>
      Ev.go (pc' := 6) (ls' := [.ref 102, .long x1, ev_unk, .int x3, .int x4, .long x5, ev_unk, .int (y0 + (1 : Int32)), .int (x8 + (1 : Int32))]) (st' := []) [.iconst 1, .goto (4), .iadd, .istore 7, .iinc 8 (1), .goto (-53)] (by decide +kernel) rfl <|
      (k2 c1)
    )
  )
theorem b_Mo_cost_0 {G : ev_G} {d k n : Nat} {h : ev_H} {R : Option Value → ev_H → Prop} {x1 : Int64} {x3 : Int32} {x4 : Int32} {S1 : AS} {v_2 : MG} {z_3 : MP} {v_4 : MG} {z_5 : MP} {S6 : AS} {v_7 : MG} {z_8 : MP} {S9 : AS} {p_10 : Nat} {v_11 : MG} {z_12 : MP}
  (pr1 : MS h S1)
  (r2 : ∃ fs, hat h 102 (oC 9 fs))
  (pr3 : (b2i (numB x1 (sB S1))) = (0 : Int32) → hat h 102 (moC v_2 z_3))
  (r4 : (b2i (numB x1 (sB S1))) = (0 : Int32) → ∃ fs, hat h 102 (oC 9 fs))
  (pr5 : ¬ (b2i (numB x1 (sB S1))) = (0 : Int32) → x4 < (-1 : Int32) → hat h 102 (moC v_4 z_5))
  (r6 : ¬ (b2i (numB x1 (sB S1))) = (0 : Int32) → x4 < (-1 : Int32) → ∃ fs, hat h 102 (oC 9 fs))
  (pr7 : ¬ (b2i (numB x1 (sB S1))) = (0 : Int32) → ¬ x4 < (-1 : Int32) → MS h S6)
  (pr8 : ¬ (b2i (numB x1 (sB S1))) = (0 : Int32) → ¬ x4 < (-1 : Int32) → sOk S6)
  (r9 : ¬ (b2i (numB x1 (sB S1))) = (0 : Int32) → ¬ x4 < (-1 : Int32) → ∃ fs, hat h 102 (oC 9 fs))
  (pr10 : ¬ (b2i (numB x1 (sB S1))) = (0 : Int32) → ¬ x4 < (-1 : Int32) → (b2i (inR x3 (sP S6))) = (0 : Int32) → hat h 102 (moC v_7 z_8))
  (r11 : ¬ (b2i (numB x1 (sB S1))) = (0 : Int32) → ¬ x4 < (-1 : Int32) → (b2i (inR x3 (sP S6))) = (0 : Int32) → ∃ fs, hat h 102 (oC 9 fs))
  (pr12 : ¬ (b2i (numB x1 (sB S1))) = (0 : Int32) → ¬ x4 < (-1 : Int32) → ¬ (b2i (inR x3 (sP S6))) = (0 : Int32) → MS h S9)
  (pr13 : ¬ (b2i (numB x1 (sB S1))) = (0 : Int32) → ¬ x4 < (-1 : Int32) → ¬ (b2i (inR x3 (sP S6))) = (0 : Int32) → sOk S9)
  (pr14 : ¬ (b2i (numB x1 (sB S1))) = (0 : Int32) → ¬ x4 < (-1 : Int32) → ¬ (b2i (inR x3 (sP S6))) = (0 : Int32) → x3 = nI p_10 ∧ p_10 < sP S9)
  (r15 : ¬ (b2i (numB x1 (sB S1))) = (0 : Int32) → ¬ x4 < (-1 : Int32) → ¬ (b2i (inR x3 (sP S6))) = (0 : Int32) → ∃ fs, hat h 102 (oC 9 fs))
  (pr16 : ¬ (b2i (numB x1 (sB S1))) = (0 : Int32) → ¬ x4 < (-1 : Int32) → ¬ (b2i (inR x3 (sP S6))) = (0 : Int32) → (nI (sBr S9 p_10)) < x4 → hat h 102 (moC v_11 z_12))
  (r17 : ¬ (b2i (numB x1 (sB S1))) = (0 : Int32) → ¬ x4 < (-1 : Int32) → ¬ (b2i (inR x3 (sP S6))) = (0 : Int32) → (nI (sBr S9 p_10)) < x4 → ∃ fs, hat h 102 (oC 9 fs))
  (r18 : ¬ (b2i (numB x1 (sB S1))) = (0 : Int32) → ¬ x4 < (-1 : Int32) → ¬ (b2i (inR x3 (sP S6))) = (0 : Int32) → ¬ (nI (sBr S9 p_10)) < x4 → ∃ fs, hat h 102 (oC 9 fs))
  (k1 : (b2i (numB x1 (sB S1))) = (0 : Int32) → R (some (.int (-1 : Int32))) (hset h 102 (moC (stV v_2 (1 : Int32)) z_3)))
  (k2 : ¬ (b2i (numB x1 (sB S1))) = (0 : Int32) → x4 < (-1 : Int32) → R (some (.int (-1 : Int32))) (hset h 102 (moC (stV v_4 (1 : Int32)) z_5)))
  (k3 : ¬ (b2i (numB x1 (sB S1))) = (0 : Int32) → ¬ x4 < (-1 : Int32) → (b2i (inR x3 (sP S6))) = (0 : Int32) → R (some (.int (-1 : Int32))) (hset h 102 (moC (stV v_7 (2 : Int32)) z_8)))
  (k4 : ¬ (b2i (numB x1 (sB S1))) = (0 : Int32) → ¬ x4 < (-1 : Int32) → ¬ (b2i (inR x3 (sP S6))) = (0 : Int32) → (nI (sBr S9 p_10)) < x4 → R (some (.int (-1 : Int32))) (hset h 102 (moC (stV v_11 (1 : Int32)) z_12)))
  (k5 : ¬ (b2i (numB x1 (sB S1))) = (0 : Int32) → ¬ x4 < (-1 : Int32) → ¬ (b2i (inR x3 (sP S6))) = (0 : Int32) → ¬ (nI (sBr S9 p_10)) < x4 → Ev G (d + 2) 0 0 M_Mo_ownParts 0 [.ref 102, ev_unk] [] h (fun r h1 => Ev G (d + 3) k n M_Mo_cost 54 [.ref 102, .long x1, ev_unk, .int x3, .int x4] (r.toList ++ []) h1 R))
  : Ev G (d + 3) k n M_Mo_cost 0 [.ref 102, .long x1, ev_unk, .int x3, .int x4] [] h R :=
  Ev.go (pc' := 2) (ls' := [.ref 102, .long x1, ev_unk, .int x3, .int x4]) (st' := [.long x1, .ref 102]) [.aload_n 0, .lload_n 1] (by decide +kernel) rfl <|
  Ev.cV0 (M' := M_Mo_isNumber) (as := [.long x1]) (rest := []) l_Mo_267 M_Mo_isNumber_ok M_Mo_isNumber_in M_Mo_isNumber_se (by decide +kernel) r2 rfl rfl rfl (Nat.le_of_ble_eq_true rfl) (Nat.le_of_ble_eq_true rfl) (s_Mo_isNumber pr1 <| show Ev G (d + 3) _ _ M_Mo_cost 5 [.ref 102, .long x1, ev_unk, .int x3, .int x4] [.int (b2i (numB x1 (sB S1)))] h R from
    Ev.br (i := .ifCond .eq (9)) (P := (b2i (numB x1 (sB S1))) = (0 : Int32)) (t := 14) (f := 8) (r := []) (by decide +kernel) rfl (fun c1 =>
      Ev.go (pc' := 16) (ls' := [.ref 102, .long x1, ev_unk, .int x3, .int x4]) (st' := [.int (1 : Int32), .ref 102]) [.aload_n 0, .iconst 1] (by decide +kernel) rfl <|
      Ev.cV0 (M' := M_Mo_refuse) (as := [.int (1 : Int32)]) (rest := []) l_Mo_226 M_Mo_refuse_ok M_Mo_refuse_in M_Mo_refuse_se (by decide +kernel) (r4 c1) rfl rfl rfl (Nat.le_of_ble_eq_true rfl) (Nat.le_of_ble_eq_true rfl) (s_Mo_refuse (pr3 c1) <| show Ev G (d + 3) _ _ M_Mo_cost 19 [.ref 102, .long x1, ev_unk, .int x3, .int x4] [.int (-1 : Int32)] (hset h 102 (moC (stV v_2 (1 : Int32)) z_3)) R from
        Ev.ret (r := (some (.int (-1 : Int32)))) (Or.inl ⟨_, rfl, by decide +kernel, _, rfl, rfl⟩) (k1 c1)
      )
    ) (fun c1 =>
      Ev.go (pc' := 11) (ls' := [.ref 102, .long x1, ev_unk, .int x3, .int x4]) (st' := [.int (-1 : Int32), .int x4]) [.iload 4, .iconst (-1)] (by decide +kernel) rfl <|
      Ev.br (i := .if_icmp .ge (9)) (P := x4 < (-1 : Int32)) (t := 14) (f := 20) (r := []) (by decide +kernel) rfl (fun c2 =>
        Ev.go (pc' := 16) (ls' := [.ref 102, .long x1, ev_unk, .int x3, .int x4]) (st' := [.int (1 : Int32), .ref 102]) [.aload_n 0, .iconst 1] (by decide +kernel) rfl <|
        Ev.cV0 (M' := M_Mo_refuse) (as := [.int (1 : Int32)]) (rest := []) l_Mo_226 M_Mo_refuse_ok M_Mo_refuse_in M_Mo_refuse_se (by decide +kernel) (r6 c1 c2) rfl rfl rfl (Nat.le_of_ble_eq_true rfl) (Nat.le_of_ble_eq_true rfl) (s_Mo_refuse (pr5 c1 c2) <| show Ev G (d + 3) _ _ M_Mo_cost 19 [.ref 102, .long x1, ev_unk, .int x3, .int x4] [.int (-1 : Int32)] (hset h 102 (moC (stV v_4 (1 : Int32)) z_5)) R from
          Ev.ret (r := (some (.int (-1 : Int32)))) (Or.inl ⟨_, rfl, by decide +kernel, _, rfl, rfl⟩) (k2 c1 c2)
        )
      ) (fun c2 =>
        Ev.go (pc' := 22) (ls' := [.ref 102, .long x1, ev_unk, .int x3, .int x4]) (st' := [.int x3, .ref 102]) [.aload_n 0, .iload_n 3] (by decide +kernel) rfl <|
        Ev.cV0 (M' := M_Mo_isPart) (as := [.int x3]) (rest := []) l_Mo_264 M_Mo_isPart_ok M_Mo_isPart_in M_Mo_isPart_se (by decide +kernel) (r9 c1 c2) rfl rfl rfl (Nat.le_of_ble_eq_true rfl) (Nat.le_of_ble_eq_true rfl) (s_Mo_isPart (pr7 c1 c2) (pr8 c1 c2) <| show Ev G (d + 3) _ _ M_Mo_cost 25 [.ref 102, .long x1, ev_unk, .int x3, .int x4] [.int (b2i (inR x3 (sP S6)))] h R from
          Ev.br (i := .ifCond .ne (9)) (P := (b2i (inR x3 (sP S6))) = (0 : Int32)) (t := 28) (f := 34) (r := []) (by decide +kernel) rfl (fun c3 =>
            Ev.go (pc' := 30) (ls' := [.ref 102, .long x1, ev_unk, .int x3, .int x4]) (st' := [.int (2 : Int32), .ref 102]) [.aload_n 0, .iconst 2] (by decide +kernel) rfl <|
            Ev.cV0 (M' := M_Mo_refuse) (as := [.int (2 : Int32)]) (rest := []) l_Mo_226 M_Mo_refuse_ok M_Mo_refuse_in M_Mo_refuse_se (by decide +kernel) (r11 c1 c2 c3) rfl rfl rfl (Nat.le_of_ble_eq_true rfl) (Nat.le_of_ble_eq_true rfl) (s_Mo_refuse (pr10 c1 c2 c3) <| show Ev G (d + 3) _ _ M_Mo_cost 33 [.ref 102, .long x1, ev_unk, .int x3, .int x4] [.int (-1 : Int32)] (hset h 102 (moC (stV v_7 (2 : Int32)) z_8)) R from
              Ev.ret (r := (some (.int (-1 : Int32)))) (Or.inl ⟨_, rfl, by decide +kernel, _, rfl, rfl⟩) (k3 c1 c2 c3)
            )
          ) (fun c3 =>
            Ev.go (pc' := 38) (ls' := [.ref 102, .long x1, ev_unk, .int x3, .int x4]) (st' := [.int x3, .ref 102, .int x4]) [.iload 4, .aload_n 0, .iload_n 3] (by decide +kernel) rfl <|
            Ev.cV0 (M' := M_Mo_breadthOf) (as := [.int x3]) (rest := [.int x4]) l_Mo_81 M_Mo_breadthOf_ok M_Mo_breadthOf_in M_Mo_breadthOf_se (by decide +kernel) (r15 c1 c2 c3) rfl rfl rfl (Nat.le_of_ble_eq_true rfl) (Nat.le_of_ble_eq_true rfl) (s_Mo_breadthOf (pr12 c1 c2 c3) (pr13 c1 c2 c3) (pr14 c1 c2 c3) <| show Ev G (d + 3) _ _ M_Mo_cost 41 [.ref 102, .long x1, ev_unk, .int x3, .int x4] [.int (nI (sBr S9 p_10)), .int x4] h R from
              Ev.br (i := .if_icmp .le (9)) (P := (nI (sBr S9 p_10)) < x4) (t := 44) (f := 50) (r := []) (by decide +kernel) rfl (fun c4 =>
                Ev.go (pc' := 46) (ls' := [.ref 102, .long x1, ev_unk, .int x3, .int x4]) (st' := [.int (1 : Int32), .ref 102]) [.aload_n 0, .iconst 1] (by decide +kernel) rfl <|
                Ev.cV0 (M' := M_Mo_refuse) (as := [.int (1 : Int32)]) (rest := []) l_Mo_226 M_Mo_refuse_ok M_Mo_refuse_in M_Mo_refuse_se (by decide +kernel) (r17 c1 c2 c3 c4) rfl rfl rfl (Nat.le_of_ble_eq_true rfl) (Nat.le_of_ble_eq_true rfl) (s_Mo_refuse (pr16 c1 c2 c3 c4) <| show Ev G (d + 3) _ _ M_Mo_cost 49 [.ref 102, .long x1, ev_unk, .int x3, .int x4] [.int (-1 : Int32)] (hset h 102 (moC (stV v_11 (1 : Int32)) z_12)) R from
                  Ev.ret (r := (some (.int (-1 : Int32)))) (Or.inl ⟨_, rfl, by decide +kernel, _, rfl, rfl⟩) (k4 c1 c2 c3 c4)
                )
              ) (fun c4 =>
                Ev.go (pc' := 51) (ls' := [.ref 102, .long x1, ev_unk, .int x3, .int x4]) (st' := [.ref 102]) [.aload_n 0] (by decide +kernel) rfl <|
                Ev.cV0 (M' := M_Mo_ownParts) (as := []) (rest := []) l_Mo_312 M_Mo_ownParts_ok M_Mo_ownParts_in M_Mo_ownParts_se (by decide +kernel) (r18 c1 c2 c3 c4) rfl rfl rfl (Nat.le_of_ble_eq_true rfl) (Nat.le_of_ble_eq_true rfl) (k5 c1 c2 c3 c4)
              )
            )
          )
        )
      )
    )
  )
theorem b_Mo_cost_54 {G : ev_G} {d k n : Nat} {h : ev_H} {R : Option Value → ev_H → Prop} {x1 : Int64} {x3 : Int32} {x4 : Int32}
  (r1 : ∃ fs, hat h 102 (oC 9 fs))
  (k1 : Ev G (d + 2) 0 0 M_Mo_counting 0 [.ref 102, ev_unk, ev_unk, ev_unk] [] h (fun r h1 => Ev G (d + 3) k n M_Mo_cost 64 [.ref 102, .long x1, ev_unk, .int x3, .int x4] (r.toList ++ [.int x4, .int x3, .long x1, .ref 102, .ref 102]) h1 R))
  : Ev G (d + 3) k n M_Mo_cost 54 [.ref 102, .long x1, ev_unk, .int x3, .int x4] [] h R :=
  Ev.go (pc' := 61) (ls' := [.ref 102, .long x1, ev_unk, .int x3, .int x4]) (st' := [.ref 102, .int x4, .int x3, .long x1, .ref 102, .ref 102]) [.aload_n 0, .aload_n 0, .lload_n 1, .iload_n 3, .iload 4, .aload_n 0] (by decide +kernel) rfl <|
  Ev.cV0 (M' := M_Mo_counting) (as := []) (rest := [.int x4, .int x3, .long x1, .ref 102, .ref 102]) l_Mo_248 M_Mo_counting_ok M_Mo_counting_in M_Mo_counting_se (by decide +kernel) r1 rfl rfl rfl (Nat.le_of_ble_eq_true rfl) (Nat.le_of_ble_eq_true rfl) k1
theorem b_Mo_cost_64 {G : ev_G} {d k n : Nat} {h : ev_H} {R : Option Value → ev_H → Prop} {x1 : Int64} {x3 : Int32} {x4 : Int32} {y2 : Int64} {y3 : Int32} {y4 : Int32} {y5 : Int64}
  (r1 : ∃ fs, hat h 102 (oC 9 fs))
  (k1 : Ev G (d + 2) 0 0 M_Mo_costOf 0 [.ref 102, .long y2, ev_unk, .int y3, .int y4, .long y5, ev_unk, ev_unk, ev_unk] [] h (fun r h1 => Ev G (d + 3) k n M_Mo_cost 67 [.ref 102, .long x1, ev_unk, .int x3, .int x4] (r.toList ++ [.ref 102]) h1 R))
  : Ev G (d + 3) k n M_Mo_cost 64 [.ref 102, .long x1, ev_unk, .int x3, .int x4] [.long y5, .int y4, .int y3, .long y2, .ref 102, .ref 102] h R :=
  Ev.cV0 (M' := M_Mo_costOf) (as := [.long y2, .int y3, .int y4, .long y5]) (rest := [.ref 102]) l_Mo_301 M_Mo_costOf_ok M_Mo_costOf_in M_Mo_costOf_se (by decide +kernel) r1 rfl rfl rfl (Nat.le_of_ble_eq_true rfl) (Nat.le_of_ble_eq_true rfl) k1
theorem b_Mo_cost_67 {G : ev_G} {d k n : Nat} {h : ev_H} {R : Option Value → ev_H → Prop} {x1 : Int64} {x3 : Int32} {x4 : Int32} {y1 : Int32} {v_1 : MG} {z_2 : MP}
  (pr1 : hat h 102 (moC v_1 z_2))
  (r2 : ∃ fs, hat h 102 (oC 9 fs))
  (k1 : R (some (.int y1)) (hset h 102 (moC (stV v_1 0) z_2)))
  : Ev G (d + 3) k n M_Mo_cost 67 [.ref 102, .long x1, ev_unk, .int x3, .int x4] [.int y1, .ref 102] h R :=
  Ev.cV0 (M' := M_Mo_gives_I) (as := [.int y1]) (rest := []) l_Mo_245 M_Mo_gives_I_ok M_Mo_gives_I_in M_Mo_gives_I_se (by decide +kernel) r2 rfl rfl rfl (Nat.le_of_ble_eq_true rfl) (Nat.le_of_ble_eq_true rfl) (s_Mo_gives_I pr1 <| show Ev G (d + 3) _ _ M_Mo_cost 70 [.ref 102, .long x1, ev_unk, .int x3, .int x4] [.int y1] (hset h 102 (moC (stV v_1 0) z_2)) R from
    Ev.ret (r := (some (.int y1))) (Or.inl ⟨_, rfl, by decide +kernel, _, rfl, rfl⟩) k1
  )
theorem b_Mo_nearSet_0 {G : ev_G} {d k n : Nat} {h : ev_H} {R : Option Value → ev_H → Prop} {x1 : Int64} {x3 : Int32}
  (k1 : Ev G (d + 2) k n M_Mo_nearSet 6 [.ref 102, .long x1, ev_unk, .int x3, .long (0 : Int64), ev_unk, .int (0 : Int32)] [] h R)
  : Ev G (d + 2) k n M_Mo_nearSet 0 [.ref 102, .long x1, ev_unk, .int x3, ev_unk, ev_unk, ev_unk] [] h R :=
  Ev.go (pc' := 6) (ls' := [.ref 102, .long x1, ev_unk, .int x3, .long (0 : Int64), ev_unk, .int (0 : Int32)]) (st' := []) [.lconst 0, .lstore 4, .iconst 0, .istore 6] (by decide +kernel) rfl <|
  k1
theorem b_Mo_nearSet_6 {G : ev_G} {d k n : Nat} {h : ev_H} {R : Option Value → ev_H → Prop} {x1 : Int64} {x3 : Int32} {x4 : Int64} {x6 : Int32} {S1 : AS}
  (pr1 : MS h S1)
  (r2 : ∃ fs, hat h 102 (oC 9 fs))
  (r3 : x6 < (nI (sN S1)) → ∃ fs, hat h 102 (oC 9 fs))
  (k1 : x6 < (nI (sN S1)) → Ev G (d + 1) 0 0 M_Mo_isCounting 0 [.ref 102, .int x6, ev_unk, ev_unk, ev_unk] [] h (fun r h1 => Ev G (d + 2) k n M_Mo_nearSet 23 [.ref 102, .long x1, ev_unk, .int x3, .long x4, ev_unk, .int x6] (r.toList ++ [.long x4]) h1 R))
  (k2 : ¬ x6 < (nI (sN S1)) → R (some (.long x4)) h)
  : Ev G (d + 2) k n M_Mo_nearSet 6 [.ref 102, .long x1, ev_unk, .int x3, .long x4, ev_unk, .int x6] [] h R :=
  Ev.go (pc' := 9) (ls' := [.ref 102, .long x1, ev_unk, .int x3, .long x4, ev_unk, .int x6]) (st' := [.ref 102, .int x6]) [.iload 6, .aload_n 0] (by decide +kernel) rfl <|
  Ev.cV0 (M' := M_Mo_many_0) (as := []) (rest := [.int x6]) l_Mo_71 M_Mo_many_0_ok M_Mo_many_0_in M_Mo_many_0_se (by decide +kernel) r2 rfl rfl rfl (Nat.le_of_ble_eq_true rfl) (Nat.le_of_ble_eq_true rfl) (s_Mo_many_0 pr1 <| show Ev G (d + 2) _ _ M_Mo_nearSet 12 [.ref 102, .long x1, ev_unk, .int x3, .long x4, ev_unk, .int x6] [.int (nI (sN S1)), .int x6] h R from
    Ev.br (i := .if_icmp .ge (46)) (P := x6 < (nI (sN S1))) (t := 15) (f := 58) (r := []) (by decide +kernel) rfl (fun c1 =>
      Ev.go (pc' := 20) (ls' := [.ref 102, .long x1, ev_unk, .int x3, .long x4, ev_unk, .int x6]) (st' := [.int x6, .ref 102, .long x4]) [.lload 4, .aload_n 0, .iload 6] (by decide +kernel) rfl <|
      Ev.cV0 (M' := M_Mo_isCounting) (as := [.int x6]) (rest := [.long x4]) l_Mo_106 M_Mo_isCounting_ok M_Mo_isCounting_in M_Mo_isCounting_se (by decide +kernel) (r3 c1) rfl rfl rfl (Nat.le_of_ble_eq_true rfl) (Nat.le_of_ble_eq_true rfl) (k1 c1)
    ) (fun c1 =>
      Ev.go (pc' := 60) (ls' := [.ref 102, .long x1, ev_unk, .int x3, .long x4, ev_unk, .int x6]) (st' := [.long x4]) [.lload 4] (by decide +kernel) rfl <|
      Ev.ret (r := (some (.long x4))) (Or.inr (Or.inl ⟨_, rfl, by decide +kernel, rfl⟩)) (k2 c1)
    )
  )
theorem b_Mo_nearSet_23 {G : ev_G} {d k n : Nat} {h : ev_H} {R : Option Value → ev_H → Prop} {x1 : Int64} {x3 : Int32} {x4 : Int64} {x6 : Int32} {y0 : Int64} {y1 : Int32} {S1 : AS} {c_2 : Nat}
  (pr1 : ¬ y1 = (0 : Int32) → MS h S1)
  (pr2 : ¬ y1 = (0 : Int32) → sOk S1)
  (pr3 : ¬ y1 = (0 : Int32) → x6 = nI c_2 ∧ c_2 < sN S1)
  (r4 : ¬ y1 = (0 : Int32) → ∃ fs, hat h 102 (oC 9 fs))
  (k1 : y1 = (0 : Int32) → Ev G (d + 2) k n M_Mo_nearSet 6 [.ref 102, .long x1, ev_unk, .int x3, .long (y0 ||| (0 : Int64)), ev_unk, .int (x6 + (1 : Int32))] [] h R)
  (k2 : ¬ y1 = (0 : Int32) → x3 < (nI (pop ((sCo S1 c_2) ^^^ x1))) → Ev G (d + 2) k n M_Mo_nearSet 6 [.ref 102, .long x1, ev_unk, .int x3, .long (y0 ||| (0 : Int64)), ev_unk, .int (x6 + (1 : Int32))] [] h R)
  (k3 : ¬ y1 = (0 : Int32) → ¬ x3 < (nI (pop ((sCo S1 c_2) ^^^ x1))) → Ev G (d + 2) k n M_Mo_nearSet 6 [.ref 102, .long x1, ev_unk, .int x3, .long (y0 ||| ((1 : Int64) <<< (x6.toInt64 &&& 63))), ev_unk, .int (x6 + (1 : Int32))] [] h R)
  : Ev G (d + 2) k n M_Mo_nearSet 23 [.ref 102, .long x1, ev_unk, .int x3, .long x4, ev_unk, .int x6] [.int y1, .long y0] h R :=
  Ev.br (i := .ifCond .eq (25)) (P := y1 = (0 : Int32)) (t := 48) (f := 26) (r := [.long y0]) (by decide +kernel) rfl (fun c1 =>
    Ev.go (pc' := 6) (ls' := [.ref 102, .long x1, ev_unk, .int x3, .long (y0 ||| (0 : Int64)), ev_unk, .int (x6 + (1 : Int32))]) (st' := []) [.lconst 0, .lor, .lstore 4, .iinc 6 (1), .goto (-49)] (by decide +kernel) rfl <|
    (k1 c1)
  ) (fun c1 =>
    Ev.go (pc' := 29) (ls' := [.ref 102, .long x1, ev_unk, .int x3, .long x4, ev_unk, .int x6]) (st' := [.int x6, .ref 102, .long y0]) [.aload_n 0, .iload 6] (by decide +kernel) rfl <|
    Ev.cV0 (M' := M_Mo_codeOf) (as := [.int x6]) (rest := [.long y0]) l_Mo_85 M_Mo_codeOf_ok M_Mo_codeOf_in M_Mo_codeOf_se (by decide +kernel) (r4 c1) rfl rfl rfl (Nat.le_of_ble_eq_true rfl) (Nat.le_of_ble_eq_true rfl) (s_Mo_codeOf (pr1 c1) (pr2 c1) (pr3 c1) <| show Ev G (d + 2) _ _ M_Mo_nearSet 32 [.ref 102, .long x1, ev_unk, .int x3, .long x4, ev_unk, .int x6] [.long (sCo S1 c_2), .long y0] h R from
      Ev.go (pc' := 34) (ls' := [.ref 102, .long x1, ev_unk, .int x3, .long x4, ev_unk, .int x6]) (st' := [.long ((sCo S1 c_2) ^^^ x1), .long y0]) [.lload_n 1, .lxor] (by decide +kernel) rfl <|
      Ev.cS0 (M' := M_Mo_ones_J) (as := [.long ((sCo S1 c_2) ^^^ x1)]) (rest := [.long y0]) l_Mo_88 M_Mo_ones_J_ok M_Mo_ones_J_st (by decide +kernel) rfl rfl (Nat.le_of_ble_eq_true rfl) (Nat.le_of_ble_eq_true rfl) (s_Mo_ones_J <| show Ev G (d + 2) _ _ M_Mo_nearSet 37 [.ref 102, .long x1, ev_unk, .int x3, .long x4, ev_unk, .int x6] [.int (nI (pop ((sCo S1 c_2) ^^^ x1))), .long y0] h R from
        Ev.go (pc' := 38) (ls' := [.ref 102, .long x1, ev_unk, .int x3, .long x4, ev_unk, .int x6]) (st' := [.int x3, .int (nI (pop ((sCo S1 c_2) ^^^ x1))), .long y0]) [.iload_n 3] (by decide +kernel) rfl <|
        Ev.br (i := .if_icmp .gt (10)) (P := x3 < (nI (pop ((sCo S1 c_2) ^^^ x1)))) (t := 48) (f := 41) (r := [.long y0]) (by decide +kernel) rfl (fun c2 =>
          Ev.go (pc' := 6) (ls' := [.ref 102, .long x1, ev_unk, .int x3, .long (y0 ||| (0 : Int64)), ev_unk, .int (x6 + (1 : Int32))]) (st' := []) [.lconst 0, .lor, .lstore 4, .iinc 6 (1), .goto (-49)] (by decide +kernel) rfl <|
          (k2 c1 c2)
        ) (fun c2 =>
          Ev.go (pc' := 6) (ls' := [.ref 102, .long x1, ev_unk, .int x3, .long (y0 ||| ((1 : Int64) <<< (x6.toInt64 &&& 63))), ev_unk, .int (x6 + (1 : Int32))]) (st' := []) [.lconst 1, .iload 6, .lshl, .goto (4), .lor, .lstore 4, .iinc 6 (1), .goto (-49)] (by decide +kernel) rfl <|
          (k3 c1 c2)
        )
      )
    )
  )
section S52
variable {G : ev_G} {d : Nat} {h h1 : ev_H} {R : Option Value → ev_H → Prop} {Q : QS} {P : Nat} {W : Nat → Nat}
theorem wOk.sum (w : wOk P W) {p : Nat} (hp : p < P) : sumT W p + W p ≤ 48 := by
  have : sumT W (p + 1) ≤ sumT W P := sumT_mono W (by omega)
  have e : sumT W (p + 1) = sumT W p + W p := rfl
  have := w.2.2.2
  omega
theorem pop_key {y : Int64} {st w : Nat} (h : st + w ≤ 64) (hw : w ≤ 48) : pop (lN (keyN y st w)) = farN y st w := by
  have kl := keyN_lt y st w
  have p2 : 2 ^ w ≤ 2 ^ 48 := Nat.pow_le_pow_right (by decide) hw
  rw [pop_lN (by omega)]
  have tb : ∀ j, (keyN y st w).testBit j = (decide (j < w) && lt y (st + j)) := fun j => by
    unfold keyN
    rw [Nat.testBit_mod_two_pow, Nat.testBit_div_two_pow]
    rw [← lt_lN y.toBitVec.toNat _ y.toBitVec.isLt, lN_toNat, Nat.add_comm j st]
  have s : cnt (keyN y st w).testBit 64 = cnt (keyN y st w).testBit w + cnt (fun j => (keyN y st w).testBit (w + j)) (64 - w) := by
    have := cnt_split (keyN y st w).testBit w (64 - w)
    rw [show w + (64 - w) = 64 by omega] at this
    exact this
  rw [s, cnt_zero (n := 64 - w) fun k _ => by rw [tb, decide_eq_false (by omega)]; rfl]
  exact cnt_congr fun k hk => by rw [tb, decide_eq_true hk]; rfl
theorem s_Mo_keyAt {v : MG} {z : MP} {g : Nat → Int32} {y : Int64} {p : Nat} (m1 : hat h 102 (moC v z)) (m3 : hat h 107 (aI 6 g)) (hg : ∀ i, i < P → g i = nI (W i)) (w : wOk P W) (hp : p < P) (hR : R (some (.long (lN (keyN y (sumT W p) (W p))))) h) : Ev G d 0 0 M_Mo_keyAt 0 [.ref 102, .long y, ev_unk, .int (nI p), ev_unk, ev_unk] [] h R := by
  have w6 := w.2.1
  have ws := w.sum hp
  have w24 := w.2.2.1 p hp
  refine b_Mo_keyAt_0 ?_
  refine up0 (P := fun i => Ev G d 0 0 M_Mo_keyAt 6 [.ref 102, .long y, ev_unk, .int (nI p), .int (nI (sumT W i)), .int (nI i)] [] h R) p ?_ ?_
  · intro i hi ih
    refine b_Mo_keyAt_6 (j16 := i) (j17 := 0) m1 m3 (fun _ => ixn (by omega) (by omega)) (fun c => absurd (nI_lt hi (by omega)) c) (fun _ => ?_) (fun c => absurd (nI_lt hi (by omega)) c)
    rw [hg i (by omega), nI_add, nI_1]
    exact ih
  · have no := nl_self (n := p) (by omega)
    refine b_Mo_keyAt_6 (j16 := 0) (j17 := p) m1 m3 (fun c => absurd c no) (fun _ => ixn (by omega) (by omega)) (fun c => absurd c no) (fun _ => ?_)
    rw [hg p hp, keyS_eq y (by omega) (by omega) (by omega)]
    exact hR
theorem s_Mo_costOf {x : Int64} {p s : Nat} {q : Nat → Bool} (B : BR h Q P W) (w : wOk P W) (hp : p < P) (hs : s < 100) (hq : ∀ j, q j = true → j < sN (qS Q)) (hR : R (some (.int (nI (cstN q (sCo (qS Q)) x W p s)))) h) : Ev G (d + 2) 0 0 M_Mo_costOf 0 [.ref 102, .long x, ev_unk, .int (nI p), .int (nI s - 1), .long (setL q), ev_unk, ev_unk, ev_unk] [] h R := by
  obtain ⟨H, z, g, m1, m3, hg⟩ := B
  have hz := H.szN
  have w24 := w.2.2.1 p hp
  have ws := w.sum hp
  refine b_Mo_costOf_0 ?_
  have eq : cstN q (sCo (qS Q)) x W p s = cnt (fun j => q j && decide (farN (sCo (qS Q) j ^^^ x) (sumT W p) (W p) + 1 ≤ s)) (sN (qS Q)) := cnt_N hz fun j t => hq j (by rw [Bool.and_eq_true] at t; exact t.1)
  refine up0 (P := fun i => Ev G (d + 2) 0 0 M_Mo_costOf 6 [.ref 102, .long x, ev_unk, .int (nI p), .int (nI s - 1), .long (setL q), ev_unk, .int (nI (cnt (fun j => q j && decide (farN (sCo (qS Q) j ^^^ x) (sumT W p) (W p) + 1 ≤ s)) i)), .int (nI i)] [] h R) (sN (qS Q)) ?_ ?_
  · intro i hi ih
    have f : cnt (fun j => q j && decide (farN (sCo (qS Q) j ^^^ x) (sumT W p) (W p) + 1 ≤ s)) (i + 1) = cnt (fun j => q j && decide (farN (sCo (qS Q) j ^^^ x) (sumT W p) (W p) + 1 ≤ s)) i + if (q i && decide (farN (sCo (qS Q) i ^^^ x) (sumT W p) (W p) + 1 ≤ s)) then 1 else 0 := rfl
    rw [f] at ih
    have tb : tbL (setL q) (nI i) = q i := by rw [tbL_n (by omega), lt_setL, decide_eq_true (show i < 32 by omega), Bool.true_and]
    refine b_Mo_costOf_6 (c_3 := i) H.ms ⟨_, m1⟩ (fun c1 c2 => H.ms) (fun c1 c2 => H.ok) (fun c1 c2 => ⟨rfl, hi⟩) (fun c1 c2 => ⟨_, m1⟩) (fun c1 c2 => ?_) (fun c1 c2 => ?_) (fun c1 => absurd (nI_lt hi (by omega)) c1)
    · rw [tb] at c2
      rw [b2i_e0 c2] at ih
      rw [show (0 : Int32) = nI 0 from rfl, nI_add, nI_1]; exact ih
    · rw [tb] at c2
      rw [b2i_n0 c2] at ih
      refine s_Mo_keyAt m1 m3 hg w hp ?_
      have fl := farN_le (sCo (qS Q) i ^^^ x) (sumT W p) (W p)
      have lts : nI s - 1 < nI (pop (lN (keyN (sCo (qS Q) i ^^^ x) (sumT W p) (W p)))) ↔ s ≤ farN (sCo (qS Q) i ^^^ x) (sumT W p) (W p) := by
        rw [pop_key (by omega) (by omega)]; exact nI_predlt (by omega) (by omega)
      refine b_Mo_costOf_40 (fun c => ?_) (fun c => ?_)
      · rw [lts] at c
        rw [decide_eq_false (show ¬ farN (sCo (qS Q) i ^^^ x) (sumT W p) (W p) + 1 ≤ s by omega)] at ih
        rw [show (0 : Int32) = nI 0 from rfl, nI_add, nI_1]; exact ih
      · rw [lts] at c
        rw [decide_eq_true (show farN (sCo (qS Q) i ^^^ x) (sumT W p) (W p) + 1 ≤ s by omega)] at ih
        rw [nI_1, nI_1]; exact ih
  · have no := nl_self (n := sN (qS Q)) (by omega)
    rw [eq] at hR
    refine b_Mo_costOf_6 (c_3 := 0) H.ms ⟨_, m1⟩ (fun c1 c2 => H.ms) (fun c1 c2 => H.ok) (fun c1 c2 => absurd c1 no) (fun c1 c2 => ⟨_, m1⟩) (fun c1 c2 => absurd c1 no) (fun c1 c2 => absurd c1 no) (fun c1 => hR)
/-- the store's own parts -/
theorem MR.wOk (H : MR h Q) : wOk (sP (qS Q)) (sBr (qS Q)) := ⟨H.ok.2.2.1, H.szP, H.ok.2.2.2.2.2.1, by rw [H.ok.2.2.2.2.2.2.2]; exact H.szB⟩
theorem MX.at107 (X : MX h) (K : Kp h h1 107 108) (g : ∃ g, hat h1 107 (aI 6 g)) : MX h1 := by
  obtain ⟨⟨g1, a1⟩, ⟨g2, a2⟩, -, ⟨g4, a4⟩, a5, a6, a7, a8, ⟨g9, a9⟩, ⟨g10, a10⟩⟩ := X
  exact ⟨⟨_, K.hat a1 (by omega)⟩, ⟨_, K.hat a2 (by omega)⟩, g, ⟨_, K.hat a4 (by omega)⟩, K.hat a5 (by omega), fun i hi => ⟨_, K.hat (a6 i hi).choose_spec (by omega)⟩, K.hat a7 (by omega), fun i hi => ⟨_, K.hat (a8 i hi).choose_spec (by omega)⟩, ⟨_, K.hat a9 (by omega)⟩, ⟨_, K.hat a10 (by omega)⟩⟩
theorem s_Mo_ownParts (H : MR h Q) (hR : ∀ h', Kp h h' 102 108 → BR h' Q (sP (qS Q)) (sBr (qS Q)) → R none h') : Ev G (d + 2) 0 0 M_Mo_ownParts 0 [.ref 102, ev_unk] [] h R := by
  obtain ⟨bm, z, m1⟩ := H.2.1
  have hzP := H.szP
  refine b_Mo_ownParts_0 m1 H.ms ⟨_, m1⟩ ?_
  have K1 : Kp h (hset h 102 (moC (moQ Q (nI (sP (qS Q)))) z)) 102 103 := (Kp.refl h 102 103).set _ (by omega) (by omega)
  have m11 := hat_set m1 (c' := moC (moQ Q (nI (sP (qS Q)))) z)
  have H1 : MR (hset h 102 (moC (moQ Q (nI (sP (qS Q)))) z)) Q := by
    obtain ⟨a, -, ⟨g, m2, sl⟩, t, X, n⟩ := H
    exact ⟨a, ⟨_, z, m11⟩, ⟨g, K1.hat m2 (by omega), sl⟩, K1.hat t (by omega), X.kg K1.g (by omega), n⟩
  have L := up_to (P := fun i => ∀ h2 g, Kp (hset h 102 (moC (moQ Q (nI (sP (qS Q)))) z)) h2 107 108 → hat h2 107 (aI 6 g) → (∀ j, j < i → g j = nI (sBr (qS Q) j)) → Ev G (d + 2) 0 0 M_Mo_ownParts 10 [.ref 102, .int (nI i)] [] h2 R) (N := sP (qS Q)) ?_ ?_ 0 (Nat.zero_le _)
  · obtain ⟨g, m3⟩ := H1.mx.2.2.1
    exact L _ g (Kp.refl _ _ _) m3 fun j hj => absurd hj (Nat.not_lt_zero j)
  · intro i hi ih h2 g K2 m3 hg
    have m12 := K2.hat m11 (by omega)
    have ms2 := H1.ms.kp K2 (by omega)
    have yes : nI i < nI (sP (qS Q)) := nI_lt hi (by omega)
    refine b_Mo_ownParts_10 (S15 := qS Q) (p_16 := i) (j18 := i) m12 m3 (fun _ => ms2) (fun _ => H.ok) (fun _ => ⟨rfl, hi⟩) (fun _ => ixn (by omega) (by omega)) (fun _ => ?_) (fun c => absurd yes c)
    rw [nI_1]
    refine ih _ _ (K2.set _ (by omega) (by omega)) (hat_set m3) fun j hj => ?_
    show (if j = i then _ else g j) = _
    by_cases c : j = i
    · subst c; rw [if_pos rfl]
    · rw [if_neg c]; exact hg j (by omega)
  · intro h2 g K2 m3 hg
    have m12 := K2.hat m11 (by omega)
    have no : ¬ nI (sP (qS Q)) < nI (sP (qS Q)) := nl_self (by omega)
    have ms2 := H1.ms.kp K2 (by omega)
    refine b_Mo_ownParts_10 (S15 := qS Q) (p_16 := 0) (j18 := 0) m12 m3 (fun _ => ms2) (fun _ => H.ok) (fun c => absurd c no) (fun c => absurd c no) (fun c => absurd c no) (fun _ => ?_)
    refine hR h2 ((K1.wide (by omega) (by omega)).trans (K2.wide (by omega) (by omega))) ⟨H1.work (K2.wide (by omega) (by omega)) (K2.2 105 (by have := H1.num; omega) (by omega)) (H1.mx.at107 K2 ⟨_, m3⟩), z, g, m12, m3, hg⟩
/-- the pile may be written to -/
theorem BR.pile (B : BR h Q P W) (K : Kp h h1 104 105) (H : MR h1 Q) : BR h1 Q P W := by
  obtain ⟨-, z, g, m1, m3, hg⟩ := B
  exact ⟨H, z, g, K.hat m1 (by omega), K.hat m3 (by omega), hg⟩
theorem s_Mo_cost2 {x : Int64} {p b : Int32} (H : MR h Q) (hR : ∀ h', Kp h h' 102 126 → MR h' (stQ Q (a_cost (qS Q) x p b).2) → R (some (.int (a_cost (qS Q) x p b).1)) h') : Ev G (d + 7) 0 0 M_Mo_cost 0 [.ref 102, .long x, ev_unk, .int p, .int b] [] h R := by
  obtain ⟨bm, z, m1⟩ := H.2.1
  have hz := H.szN
  have hzP := H.szP
  refine b_Mo_cost_0 (d := d + 4) (p_10 := vN p) H.ms ⟨_, m1⟩ (fun c1 => m1) (fun c1 => ⟨_, m1⟩) (fun c1 c2 => m1) (fun c1 c2 => ⟨_, m1⟩) (fun c1 c2 => H.ms) (fun c1 c2 => H.ok) (fun c1 c2 => ⟨_, m1⟩) (fun c1 c2 c3 => m1) (fun c1 c2 c3 => ⟨_, m1⟩) (fun c1 c2 c3 => H.ms) (fun c1 c2 c3 => H.ok) (fun c1 c2 c3 => vN_lt (by omega) (b2i_n0 c3)) (fun c1 c2 c3 => ⟨_, m1⟩) (fun c1 c2 c3 c4 => m1) (fun c1 c2 c3 c4 => ⟨_, m1⟩) (fun c1 c2 c3 c4 => ⟨_, m1⟩) (fun c1 => H.fin (Kp.refl _ _ _) m1 hR (by unfold a_cost; rw [b2i_e0 c1]; rfl)) (fun c1 c2 => H.fin (Kp.refl _ _ _) m1 hR (by unfold a_cost; rw [b2i_n0 c1, if_pos c2]; rfl)) (fun c1 c2 c3 => H.fin (Kp.refl _ _ _) m1 hR (by unfold a_cost; rw [b2i_n0 c1, if_neg c2, b2i_e0 c3]; rfl)) (fun c1 c2 c3 c4 => H.fin (Kp.refl _ _ _) m1 hR (by unfold a_cost; rw [b2i_n0 c1, if_neg c2, b2i_n0 c3, if_pos c4]; rfl)) (fun c1 c2 c3 c4 => ?_)
  have hp := vN_lt (by omega) (b2i_n0 c3)
  have w24 := H.ok.2.2.2.2.2.1 _ hp.2
  have e : a_cost (qS Q) x p b = (nI (a_c (qS Q) x (vN p) (vN (b + 1))), 0) := by unfold a_cost; rw [b2i_n0 c1, if_neg c2, b2i_n0 c3, if_neg c4]; rfl
  obtain ⟨s, hs, eb⟩ : ∃ s, s < 100 ∧ b + 1 = nI s := by
    have l1 : ¬ b.toInt < -1 := fun z => c2 (Int32.lt_iff_toInt_lt.mpr z)
    have l2 : ¬ (sBr (qS Q) (vN p) : Int) < b.toInt := fun z => c4 (by rw [Int32.lt_iff_toInt_lt, nI_toInt (by omega)]; exact z)
    refine ⟨(b.toInt + 1).toNat, by omega, ?_⟩
    apply Int32.toInt_inj.mp
    rw [nI_toInt (by omega), Int32.toInt_add, show (1 : Int32).toInt = 1 from rfl, Int.bmod_eq_of_le (by omega) (by omega)]
    omega
  have eb' : b = nI s - 1 := by
    rw [← eb, Int32.add_sub_cancel]
  rw [eb, vN_nI (by omega)] at e
  refine (s_Mo_ownParts (d := d) H fun h1 K1 B => ?_).room (by omega) (Nat.le_refl _) (Nat.le_refl _)
  obtain ⟨bm, z, m1⟩ := B.1.2.1
  refine b_Mo_cost_54 (d := d + 4) ⟨_, m1⟩ ?_
  refine s_cnt B.1 fun h2 K2 H2 => ?_
  have B2 := B.pile K2 H2
  obtain ⟨bm, z, m1⟩ := H2.2.1
  refine b_Mo_cost_64 (d := d + 4) ⟨_, m1⟩ ?_
  rw [hp.1, eb']
  refine (s_Mo_costOf (d := d) B2 H2.wOk hp.2 hs (fun j q => ct_N q) ?_).room (by omega) (Nat.le_refl _) (Nat.le_refl _)
  have K := (K1.wide (lo' := 102) (hi' := 126) (by omega) (by omega)).trans (K2.wide (by omega) (by omega))
  refine b_Mo_cost_67 (d := d + 4) m1 ⟨_, m1⟩ ?_
  rw [hp.1, eb'] at e hR
  rw [vN_nI (by omega)] at e
  exact H2.fin K m1 hR e
theorem s_Mo_nearSet {x : Int64} {r : Nat} (H : MR h Q) (hr : r < 2147483648) (hR : ∀ h', Kp h h' 104 105 → MR h' Q → R (some (.long (setL (a_nr (qS Q) x r)))) h') : Ev G (d + 6) 0 0 M_Mo_nearSet 0 [.ref 102, .long x, ev_unk, .int (nI r), ev_unk, ev_unk, ev_unk] [] h R := by
  have hz := H.szN
  refine b_Mo_nearSet_0 (d := d + 4) ?_
  have ni : ∀ j, a_nr (qS Q) x r j = (ctP (qS Q) j && decide (pop (sCo (qS Q) j ^^^ x) ≤ r)) := fun j => by
    unfold a_nr nrP
    cases q : ctP (qS Q) j
    · rw [Bool.and_false, Bool.false_and]
    · rw [decide_eq_true (ct_N q)]; rfl
  have L := up0 (P := fun i => ∀ h', Kp h h' 104 105 → MR h' Q → Ev G (d + 6) 0 0 M_Mo_nearSet 6 [.ref 102, .long x, ev_unk, .int (nI r), .long (setL (fun j => decide (j < i) && a_nr (qS Q) x r j)), ev_unk, .int (nI i)] [] h' R) (sN (qS Q)) ?_ ?_
  · have := L h (Kp.refl _ _ _) H
    rw [← setL_lt0] at this
    exact this
  · intro i hi ih h1 K1 H
    obtain ⟨bm, z, m1⟩ := H.2.1
    refine b_Mo_nearSet_6 (d := d + 4) H.ms ⟨_, m1⟩ (fun c1 => ⟨_, m1⟩) (fun c1 => ?_) (fun c1 => absurd (nI_lt hi (by omega)) c1)
    refine (s_isC (d := d) H hi fun h2 K2 H => ?_).room (by omega) (Nat.le_refl _) (Nat.le_refl _)
    obtain ⟨bm, z, m1⟩ := H.2.1
    have ih := ih h2 (K1.trans K2) H
    have pl := pop_le (sCo (qS Q) i ^^^ x)
    refine b_Mo_nearSet_23 (d := d + 4) (c_2 := i) (fun c1 => H.ms) (fun c1 => H.ok) (fun c1 => ⟨rfl, hi⟩) (fun c1 => ⟨_, m1⟩) (fun c1 => ?_) (fun c1 c2 => ?_) (fun c1 c2 => ?_)
    · have p : a_nr (qS Q) x r i = false := by rw [ni, b2i_e0 c1]; rfl
      rw [l_or0, setL_skip _ p, nI_1]; exact ih
    · have p : a_nr (qS Q) x r i = false := by rw [ni, decide_eq_false (by have := (nI_ltI hr (by omega)).mp c2; omega), Bool.and_false]
      rw [l_or0, setL_skip _ p, nI_1]; exact ih
    · have p : a_nr (qS Q) x r i = true := by rw [ni, b2i_n0 c1, decide_eq_true (by have : ¬ r < pop (sCo (qS Q) i ^^^ x) := fun z => c2 (nI_lt z (by omega)); omega)]; rfl
      rw [setL_add _ (by omega) p, nI_1]; exact ih
  · intro h1 K1 H
    obtain ⟨bm, z, m1⟩ := H.2.1
    refine b_Mo_nearSet_6 (d := d + 4) H.ms ⟨_, m1⟩ (fun c1 => ⟨_, m1⟩) (fun c1 => absurd c1 (nl_self (by omega))) (fun c1 => ?_)
    rw [lkP_lt (m := 0) (x := 0) (fun j q => by rw [ni, Bool.and_eq_true] at q; exact ct_N q.1)]
    exact hR h1 K1 H
end S52
