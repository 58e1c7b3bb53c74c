/-! the model's parted and bestPart -/
theorem b_Mo_isParted_0 {G : ev_G} {d k n : Nat} {h : ev_H} {R : Option Value → ev_H → Prop} {x1 : Int32} {S1 : AS}
  (pr1 : ¬ (b2i (frB x1.toInt64 (1 : Int64) (24 : Int64))) = (0 : Int32) → MS h S1)
  (r2 : ¬ (b2i (frB x1.toInt64 (1 : Int64) (24 : Int64))) = (0 : Int32) → ∃ fs, hat h 102 (oC 9 fs))
  (k1 : (b2i (frB x1.toInt64 (1 : Int64) (24 : Int64))) = (0 : Int32) → R (some (.int (0 : Int32))) h)
  (k2 : ¬ (b2i (frB x1.toInt64 (1 : Int64) (24 : Int64))) = (0 : Int32) → (b2i (frB ((nI (sB S1)) - x1).toInt64 (1 : Int64) (24 : Int64))) = (0 : Int32) → R (some (.int (0 : Int32))) h)
  (k3 : ¬ (b2i (frB x1.toInt64 (1 : Int64) (24 : Int64))) = (0 : Int32) → ¬ (b2i (frB ((nI (sB S1)) - x1).toInt64 (1 : Int64) (24 : Int64))) = (0 : Int32) → R (some (.int (1 : Int32))) h)
  : Ev G (d + 2) k n M_Mo_isParted 0 [.ref 102, .int x1] [] h R :=
  Ev.go (pc' := 3) (ls' := [.ref 102, .int x1]) (st' := [.long (1 : Int64), .long x1.toInt64]) [.iload_n 1, .i2l, .lconst 1] (by decide +kernel) rfl <|
  Ev.ldc2 k_Mo_353 (by decide +kernel) <|
  Ev.cS0 (M' := M_Mo_isFrom) (as := [.long x1.toInt64, .long (1 : Int64), .long (24 : Int64)]) (rest := []) l_Mo_172 M_Mo_isFrom_ok M_Mo_isFrom_st (by decide +kernel) rfl rfl (Nat.le_of_ble_eq_true rfl) (Nat.le_of_ble_eq_true rfl) (s_Mo_isFrom <| show Ev G (d + 2) _ _ M_Mo_isParted 9 [.ref 102, .int x1] [.int (b2i (frB x1.toInt64 (1 : Int64) (24 : Int64)))] h R from
    Ev.br (i := .ifCond .eq (24)) (P := (b2i (frB x1.toInt64 (1 : Int64) (24 : Int64))) = (0 : Int32)) (t := 33) (f := 12) (r := []) (by decide +kernel) rfl (fun c1 =>
      Ev.go (pc' := 34) (ls' := [.ref 102, .int x1]) (st' := [.int (0 : Int32)]) [.iconst 0] (by decide +kernel) rfl <|
      Ev.ret (r := (some (.int (0 : Int32)))) (Or.inl ⟨_, rfl, by decide +kernel, _, rfl, rfl⟩) (k1 c1)
    ) (fun c1 =>
      Ev.go (pc' := 13) (ls' := [.ref 102, .int x1]) (st' := [.ref 102]) [.aload_n 0] (by decide +kernel) rfl <|
      Ev.cV0 (M' := M_Mo_bits) (as := []) (rest := []) l_Mo_78 M_Mo_bits_ok M_Mo_bits_in M_Mo_bits_se (by decide +kernel) (r2 c1) rfl rfl rfl (Nat.le_of_ble_eq_true rfl) (Nat.le_of_ble_eq_true rfl) (s_Mo_bits (pr1 c1) <| show Ev G (d + 2) _ _ M_Mo_isParted 16 [.ref 102, .int x1] [.int (nI (sB S1))] h R from
        Ev.go (pc' := 20) (ls' := [.ref 102, .int x1]) (st' := [.long (1 : Int64), .long ((nI (sB S1)) - x1).toInt64]) [.iload_n 1, .isub, .i2l, .lconst 1] (by decide +kernel) rfl <|
        Ev.ldc2 k_Mo_353 (by decide +kernel) <|
        Ev.cS0 (M' := M_Mo_isFrom) (as := [.long ((nI (sB S1)) - x1).toInt64, .long (1 : Int64), .long (24 : Int64)]) (rest := []) l_Mo_172 M_Mo_isFrom_ok M_Mo_isFrom_st (by decide +kernel) rfl rfl (Nat.le_of_ble_eq_true rfl) (Nat.le_of_ble_eq_true rfl) (s_Mo_isFrom <| show Ev G (d + 2) _ _ M_Mo_isParted 26 [.ref 102, .int x1] [.int (b2i (frB ((nI (sB S1)) - x1).toInt64 (1 : Int64) (24 : Int64)))] h R from
          Ev.br (i := .ifCond .eq (7)) (P := (b2i (frB ((nI (sB S1)) - x1).toInt64 (1 : Int64) (24 : Int64))) = (0 : Int32)) (t := 33) (f := 29) (r := []) (by decide +kernel) rfl (fun c2 =>
            Ev.go (pc' := 34) (ls' := [.ref 102, .int x1]) (st' := [.int (0 : Int32)]) [.iconst 0] (by decide +kernel) rfl <|
            Ev.ret (r := (some (.int (0 : Int32)))) (Or.inl ⟨_, rfl, by decide +kernel, _, rfl, rfl⟩) (k2 c1 c2)
          ) (fun c2 =>
            Ev.go (pc' := 34) (ls' := [.ref 102, .int x1]) (st' := [.int (1 : Int32)]) [.iconst 1, .goto (4)] (by decide +kernel) rfl <|
            Ev.ret (r := (some (.int (1 : Int32)))) (Or.inl ⟨_, rfl, by decide +kernel, _, rfl, rfl⟩) (k3 c1 c2)
          )
        )
      )
    )
  )
theorem b_Mo_partedBy_0 {G : ev_G} {d k n : Nat} {h : ev_H} {R : Option Value → ev_H → Prop} {x1 : Int32} {x2 : Int32}
  (r1 : ∃ fs, hat h 102 (oC 9 fs))
  (k1 : Ev G (d + 1) 0 0 M_Mo_counting 0 [.ref 102, ev_unk, ev_unk, ev_unk] [] h (fun r h1 => Ev G (d + 2) k n M_Mo_partedBy 6 [.ref 102, .int x1, .int x2, .int (0 : Int32), ev_unk, ev_unk, ev_unk] (r.toList ++ []) h1 R))
  : Ev G (d + 2) k n M_Mo_partedBy 0 [.ref 102, .int x1, .int x2, ev_unk, ev_unk, ev_unk, ev_unk] [] h R :=
  Ev.go (pc' := 3) (ls' := [.ref 102, .int x1, .int x2, .int (0 : Int32), ev_unk, ev_unk, ev_unk]) (st' := [.ref 102]) [.iconst 0, .istore_n 3, .aload_n 0] (by decide +kernel) rfl <|
  Ev.cV0 (M' := M_Mo_counting) (as := []) (rest := []) l_Mo_248 M_Mo_counting_ok M_Mo_counting_in M_Mo_counting_se (by decide +kernel) r1 rfl rfl rfl (Nat.le_of_ble_eq_true rfl) (Nat.le_of_ble_eq_true rfl) k1
theorem b_Mo_partedBy_6 {G : ev_G} {d k n : Nat} {h : ev_H} {R : Option Value → ev_H → Prop} {x1 : Int32} {x2 : Int32} {x3 : Int32} {y0 : Int64} {f_status_1 : Int32} {f_acts_2 : Int32} {f_marks_3 : Int32} {f_taped_4 : Int32} {f_size_5 : Int32} {f_token_6 : Int32} {f_begin_7 : Int32} {f_end_8 : Int32} {f_faults_9 : Int32} {f_faultPlace_10 : Int32} {f_faultKind_11 : Int32} {f_deep_12 : Int32} {f_value_13 : Int64} {f_broadMany_14 : Int32} {g15 : Nat → Int32} {S16 : AS}
  (a1 : hat h 102 (oC 9 [.ref 103, .int f_status_1, .int f_acts_2, .int f_marks_3, .ref 104, .ref 105, .ref 106, .int f_taped_4, .int f_size_5, .int f_token_6, .int f_begin_7, .int f_end_8, .int f_faults_9, .int f_faultPlace_10, .int f_faultKind_11, .int f_deep_12, .long f_value_13, .ref 107, .ref 108, .ref 109, .ref 116, .int f_broadMany_14, .ref 124, .ref 125]))
  (a2 : hat h 107 (aI 6 g15))
  (pr3 : MS (hset (hset h 102 (oC 9 [.ref 103, .int f_status_1, .int f_acts_2, .int f_marks_3, .ref 104, .ref 105, .ref 106, .int f_taped_4, .int f_size_5, .int f_token_6, .int f_begin_7, .int f_end_8, .int f_faults_9, .int f_faultPlace_10, .int f_faultKind_11, .int f_deep_12, .long f_value_13, .ref 107, .ref 108, .ref 109, .ref 116, .int (2 : Int32), .ref 124, .ref 125])) 107 (aI 6 (upd g15 0 x1))) S16)
  (k1 : Ev G (d + 2) k n M_Mo_partedBy 35 [.ref 102, .int x1, .int x2, .int x3, .long y0, ev_unk, .int (0 : Int32)] [] (hset (hset (hset h 102 (oC 9 [.ref 103, .int f_status_1, .int f_acts_2, .int f_marks_3, .ref 104, .ref 105, .ref 106, .int f_taped_4, .int f_size_5, .int f_token_6, .int f_begin_7, .int f_end_8, .int f_faults_9, .int f_faultPlace_10, .int f_faultKind_11, .int f_deep_12, .long f_value_13, .ref 107, .ref 108, .ref 109, .ref 116, .int (2 : Int32), .ref 124, .ref 125])) 107 (aI 6 (upd g15 0 x1))) 107 (aI 6 (upd (upd g15 0 x1) 1 ((nI (sB S16)) - x1)))) R)
  : Ev G (d + 2) k n M_Mo_partedBy 6 [.ref 102, .int x1, .int x2, .int x3, ev_unk, ev_unk, ev_unk] [.long y0] h R :=
  Ev.go (pc' := 10) (ls' := [.ref 102, .int x1, .int x2, .int x3, .long y0, ev_unk, ev_unk]) (st' := [.int (2 : Int32), .ref 102]) [.lstore 4, .aload_n 0, .iconst 2] (by decide +kernel) rfl <|
  Ev.putf f_Mo_295 (by decide +kernel) a1 (Nat.le_of_ble_eq_true rfl) rfl (fun q => nomatch q) <| show Ev G (d + 2) _ _ M_Mo_partedBy 13 [.ref 102, .int x1, .int x2, .int x3, .long y0, ev_unk, ev_unk] [] (hset h 102 (oC 9 [.ref 103, .int f_status_1, .int f_acts_2, .int f_marks_3, .ref 104, .ref 105, .ref 106, .int f_taped_4, .int f_size_5, .int f_token_6, .int f_begin_7, .int f_end_8, .int f_faults_9, .int f_faultPlace_10, .int f_faultKind_11, .int f_deep_12, .long f_value_13, .ref 107, .ref 108, .ref 109, .ref 116, .int (2 : Int32), .ref 124, .ref 125])) R from
  Ev.go (pc' := 14) (ls' := [.ref 102, .int x1, .int x2, .int x3, .long y0, ev_unk, ev_unk]) (st' := [.ref 102]) [.aload_n 0] (by decide +kernel) rfl <|
  Ev.getf f_Mo_30 (by decide +kernel) (hat_set a1) rfl <|
  Ev.go (pc' := 19) (ls' := [.ref 102, .int x1, .int x2, .int x3, .long y0, ev_unk, ev_unk]) (st' := [.int x1, .int (0 : Int32), .ref 107]) [.iconst 0, .iload_n 1] (by decide +kernel) rfl <|
  Ev.iast (j := 0) (by decide +kernel) (hat_ne a2 (by decide)) ⟨rfl, by decide, by decide⟩ <| show Ev G (d + 2) _ _ M_Mo_partedBy 20 [.ref 102, .int x1, .int x2, .int x3, .long y0, ev_unk, ev_unk] [] (hset (hset h 102 (oC 9 [.ref 103, .int f_status_1, .int f_acts_2, .int f_marks_3, .ref 104, .ref 105, .ref 106, .int f_taped_4, .int f_size_5, .int f_token_6, .int f_begin_7, .int f_end_8, .int f_faults_9, .int f_faultPlace_10, .int f_faultKind_11, .int f_deep_12, .long f_value_13, .ref 107, .ref 108, .ref 109, .ref 116, .int (2 : Int32), .ref 124, .ref 125])) 107 (aI 6 (upd g15 0 x1))) R from
  Ev.go (pc' := 21) (ls' := [.ref 102, .int x1, .int x2, .int x3, .long y0, ev_unk, ev_unk]) (st' := [.ref 102]) [.aload_n 0] (by decide +kernel) rfl <|
  Ev.getf f_Mo_30 (by decide +kernel) (hat_ne (hat_set a1) (by decide)) rfl <|
  Ev.go (pc' := 26) (ls' := [.ref 102, .int x1, .int x2, .int x3, .long y0, ev_unk, ev_unk]) (st' := [.ref 102, .int (1 : Int32), .ref 107]) [.iconst 1, .aload_n 0] (by decide +kernel) rfl <|
  Ev.cV0 (M' := M_Mo_bits) (as := []) (rest := [.int (1 : Int32), .ref 107]) l_Mo_78 M_Mo_bits_ok M_Mo_bits_in M_Mo_bits_se (by decide +kernel) ⟨_, (hat_ne (hat_set a1) (by decide))⟩ rfl rfl rfl (Nat.le_of_ble_eq_true rfl) (Nat.le_of_ble_eq_true rfl) (s_Mo_bits pr3 <| show Ev G (d + 2) _ _ M_Mo_partedBy 29 [.ref 102, .int x1, .int x2, .int x3, .long y0, ev_unk, ev_unk] [.int (nI (sB S16)), .int (1 : Int32), .ref 107] (hset (hset h 102 (oC 9 [.ref 103, .int f_status_1, .int f_acts_2, .int f_marks_3, .ref 104, .ref 105, .ref 106, .int f_taped_4, .int f_size_5, .int f_token_6, .int f_begin_7, .int f_end_8, .int f_faults_9, .int f_faultPlace_10, .int f_faultKind_11, .int f_deep_12, .long f_value_13, .ref 107, .ref 108, .ref 109, .ref 116, .int (2 : Int32), .ref 124, .ref 125])) 107 (aI 6 (upd g15 0 x1))) R from
    Ev.go (pc' := 31) (ls' := [.ref 102, .int x1, .int x2, .int x3, .long y0, ev_unk, ev_unk]) (st' := [.int ((nI (sB S16)) - x1), .int (1 : Int32), .ref 107]) [.iload_n 1, .isub] (by decide +kernel) rfl <|
    Ev.iast (j := 1) (by decide +kernel) (hat_set (hat_ne a2 (by decide))) ⟨rfl, by decide, by decide⟩ <| show Ev G (d + 2) _ _ M_Mo_partedBy 32 [.ref 102, .int x1, .int x2, .int x3, .long y0, ev_unk, ev_unk] [] (hset (hset (hset h 102 (oC 9 [.ref 103, .int f_status_1, .int f_acts_2, .int f_marks_3, .ref 104, .ref 105, .ref 106, .int f_taped_4, .int f_size_5, .int f_token_6, .int f_begin_7, .int f_end_8, .int f_faults_9, .int f_faultPlace_10, .int f_faultKind_11, .int f_deep_12, .long f_value_13, .ref 107, .ref 108, .ref 109, .ref 116, .int (2 : Int32), .ref 124, .ref 125])) 107 (aI 6 (upd g15 0 x1))) 107 (aI 6 (upd (upd g15 0 x1) 1 ((nI (sB S16)) - x1)))) R from
    Ev.go (pc' := 35) (ls' := [.ref 102, .int x1, .int x2, .int x3, .long y0, ev_unk, .int (0 : Int32)]) (st' := []) [.iconst 0, .istore 6] (by decide +kernel) rfl <|
    k1
  )
theorem b_Mo_partedBy_35 {G : ev_G} {d k n : Nat} {h : ev_H} {R : Option Value → ev_H → Prop} {x1 : Int32} {x2 : Int32} {x3 : Int32} {x4 : Int64} {x6 : Int32} {S1 : AS} {S2 : AS} {c_3 : Nat}
  (pr1 : MS h S1)
  (r2 : ∃ fs, hat h 102 (oC 9 fs))
  (pr3 : x6 < (nI (sN S1)) → ¬ (b2i (tbL x4 x6)) = (0 : Int32) → MS h S2)
  (pr4 : x6 < (nI (sN S1)) → ¬ (b2i (tbL x4 x6)) = (0 : Int32) → sOk S2)
  (pr5 : x6 < (nI (sN S1)) → ¬ (b2i (tbL x4 x6)) = (0 : Int32) → x6 = nI c_3 ∧ c_3 < sN S2)
  (r6 : x6 < (nI (sN S1)) → ¬ (b2i (tbL x4 x6)) = (0 : Int32) → ∃ fs, hat h 102 (oC 9 fs))
  (k1 : x6 < (nI (sN S1)) → (b2i (tbL x4 x6)) = (0 : Int32) → Ev G (d + 2) k n M_Mo_partedBy 35 [.ref 102, .int x1, .int x2, .int (x3 + (0 : Int32)), .long x4, ev_unk, .int (x6 + (1 : Int32))] [] h R)
  (k2 : x6 < (nI (sN S1)) → ¬ (b2i (tbL x4 x6)) = (0 : Int32) → Ev G (d + 1) 0 0 M_Mo_budgetsOf 0 [.ref 102, .long (sCo S2 c_3), ev_unk, .int x2, .long x4, ev_unk, ev_unk, ev_unk, ev_unk] [] h (fun r h1 => Ev G (d + 2) k n M_Mo_partedBy 68 [.ref 102, .int x1, .int x2, .int x3, .long x4, ev_unk, .int x6] (r.toList ++ [.int x3]) h1 R))
  (k3 : ¬ x6 < (nI (sN S1)) → R (some (.int x3)) h)
  : Ev G (d + 2) k n M_Mo_partedBy 35 [.ref 102, .int x1, .int x2, .int x3, .long x4, ev_unk, .int x6] [] h R :=
  Ev.go (pc' := 38) (ls' := [.ref 102, .int x1, .int x2, .int x3, .long x4, ev_unk, .int x6]) (st' := [.ref 102, .int x6]) [.iload 6, .aload_n 0] (by decide +kernel) rfl <|
  Ev.cV0 (M' := M_Mo_many_0) (as := []) (rest := [.int x6]) l_Mo_71 M_Mo_many_0_ok M_Mo_many_0_in M_Mo_many_0_se (by decide +kernel) r2 rfl rfl rfl (Nat.le_of_ble_eq_true rfl) (Nat.le_of_ble_eq_true rfl) (s_Mo_many_0 pr1 <| show Ev G (d + 2) _ _ M_Mo_partedBy 41 [.ref 102, .int x1, .int x2, .int x3, .long x4, ev_unk, .int x6] [.int (nI (sN S1)), .int x6] h R from
    Ev.br (i := .if_icmp .ge (39)) (P := x6 < (nI (sN S1))) (t := 44) (f := 80) (r := []) (by decide +kernel) rfl (fun c1 =>
      Ev.go (pc' := 49) (ls' := [.ref 102, .int x1, .int x2, .int x3, .long x4, ev_unk, .int x6]) (st' := [.int x6, .long x4, .int x3]) [.iload_n 3, .lload 4, .iload 6] (by decide +kernel) rfl <|
      Ev.cS0 (M' := M_Mo_has) (as := [.long x4, .int x6]) (rest := [.int x3]) l_Mo_271 M_Mo_has_ok M_Mo_has_st (by decide +kernel) rfl rfl (Nat.le_of_ble_eq_true rfl) (Nat.le_of_ble_eq_true rfl) (s_Mo_has <| show Ev G (d + 2) _ _ M_Mo_partedBy 52 [.ref 102, .int x1, .int x2, .int x3, .long x4, ev_unk, .int x6] [.int (b2i (tbL x4 x6)), .int x3] h R from
        Ev.br (i := .ifCond .eq (19)) (P := (b2i (tbL x4 x6)) = (0 : Int32)) (t := 71) (f := 55) (r := [.int x3]) (by decide +kernel) rfl (fun c2 =>
          Ev.go (pc' := 35) (ls' := [.ref 102, .int x1, .int x2, .int (x3 + (0 : Int32)), .long x4, ev_unk, .int (x6 + (1 : Int32))]) (st' := []) [.iconst 0, .iadd, .istore_n 3, .iinc 6 (1), .goto (-42)] (by decide +kernel) rfl <|
          (k1 c1 c2)
        ) (fun c2 =>
          Ev.go (pc' := 59) (ls' := [.ref 102, .int x1, .int x2, .int x3, .long x4, ev_unk, .int x6]) (st' := [.int x6, .ref 102, .ref 102, .int x3]) [.aload_n 0, .aload_n 0, .iload 6] (by decide +kernel) rfl <|
          Ev.cV0 (M' := M_Mo_codeOf) (as := [.int x6]) (rest := [.ref 102, .int x3]) l_Mo_85 M_Mo_codeOf_ok M_Mo_codeOf_in M_Mo_codeOf_se (by decide +kernel) (r6 c1 c2) rfl rfl rfl (Nat.le_of_ble_eq_true rfl) (Nat.le_of_ble_eq_true rfl) (s_Mo_codeOf (pr3 c1 c2) (pr4 c1 c2) (pr5 c1 c2) <| show Ev G (d + 2) _ _ M_Mo_partedBy 62 [.ref 102, .int x1, .int x2, .int x3, .long x4, ev_unk, .int x6] [.long (sCo S2 c_3), .ref 102, .int x3] h R from
            Ev.go (pc' := 65) (ls' := [.ref 102, .int x1, .int x2, .int x3, .long x4, ev_unk, .int x6]) (st' := [.long x4, .int x2, .long (sCo S2 c_3), .ref 102, .int x3]) [.iload_n 2, .lload 4] (by decide +kernel) rfl <|
            Ev.cV0 (M' := M_Mo_budgetsOf) (as := [.long (sCo S2 c_3), .int x2, .long x4]) (rest := [.int x3]) l_Mo_315 M_Mo_budgetsOf_ok M_Mo_budgetsOf_in M_Mo_budgetsOf_se (by decide +kernel) (r6 c1 c2) rfl rfl rfl (Nat.le_of_ble_eq_true rfl) (Nat.le_of_ble_eq_true rfl) (k2 c1 c2)
          )
        )
      )
    ) (fun c1 =>
      Ev.go (pc' := 81) (ls' := [.ref 102, .int x1, .int x2, .int x3, .long x4, ev_unk, .int x6]) (st' := [.int x3]) [.iload_n 3] (by decide +kernel) rfl <|
      Ev.ret (r := (some (.int x3))) (Or.inl ⟨_, rfl, by decide +kernel, _, rfl, rfl⟩) (k3 c1)
    )
  )
theorem b_Mo_partedBy_68 {G : ev_G} {d k n : Nat} {h : ev_H} {R : Option Value → ev_H → Prop} {x1 : Int32} {x2 : Int32} {x3 : Int32} {x4 : Int64} {x6 : Int32} {y0 : Int32} {y1 : Int32}
  (k1 : Ev G (d + 2) k n M_Mo_partedBy 35 [.ref 102, .int x1, .int x2, .int (y0 + y1), .long x4, ev_unk, .int (x6 + (1 : Int32))] [] h R)
  : Ev G (d + 2) k n M_Mo_partedBy 68 [.ref 102, .int x1, .int x2, .int x3, .long x4, ev_unk, .int x6] [.int y1, .int y0] h R :=
  Ev.go (pc' := 35) (ls' := [.ref 102, .int x1, .int x2, .int (y0 + y1), .long x4, ev_unk, .int (x6 + (1 : Int32))]) (st' := []) [.goto (4), .iadd, .istore_n 3, .iinc 6 (1), .goto (-42)] (by decide +kernel) rfl <|
  k1
theorem b_Mo_parted_0 {G : ev_G} {d k n : Nat} {h : ev_H} {R : Option Value → ev_H → Prop} {x1 : Int32} {x2 : Int32} {v_1 : MG} {z_2 : MP} {S3 : AS} {v_4 : MG} {z_5 : MP}
  (pr1 : (b2i (frB x1.toInt64 (1 : Int64) (24 : Int64))) = (0 : Int32) → hat h 102 (moC v_1 z_2))
  (r2 : (b2i (frB x1.toInt64 (1 : Int64) (24 : Int64))) = (0 : Int32) → ∃ fs, hat h 102 (oC 9 fs))
  (pr3 : ¬ (b2i (frB x1.toInt64 (1 : Int64) (24 : Int64))) = (0 : Int32) → MS h S3)
  (pr4 : ¬ (b2i (frB x1.toInt64 (1 : Int64) (24 : Int64))) = (0 : Int32) → sOk S3)
  (r5 : ¬ (b2i (frB x1.toInt64 (1 : Int64) (24 : Int64))) = (0 : Int32) → ∃ fs, hat h 102 (oC 9 fs))
  (pr6 : ¬ (b2i (frB x1.toInt64 (1 : Int64) (24 : Int64))) = (0 : Int32) → (b2i (inR x2 (sB S3 + 1))) = (0 : Int32) → hat h 102 (moC v_4 z_5))
  (r7 : ¬ (b2i (frB x1.toInt64 (1 : Int64) (24 : Int64))) = (0 : Int32) → (b2i (inR x2 (sB S3 + 1))) = (0 : Int32) → ∃ fs, hat h 102 (oC 9 fs))
  (r8 : ¬ (b2i (frB x1.toInt64 (1 : Int64) (24 : Int64))) = (0 : Int32) → ¬ (b2i (inR x2 (sB S3 + 1))) = (0 : Int32) → ∃ fs, hat h 102 (oC 9 fs))
  (k1 : (b2i (frB x1.toInt64 (1 : Int64) (24 : Int64))) = (0 : Int32) → R (some (.int (-1 : Int32))) (hset h 102 (moC (stV v_1 (1 : Int32)) z_2)))
  (k2 : ¬ (b2i (frB x1.toInt64 (1 : Int64) (24 : Int64))) = (0 : Int32) → (b2i (inR x2 (sB S3 + 1))) = (0 : Int32) → R (some (.int (-1 : Int32))) (hset h 102 (moC (stV v_4 (1 : Int32)) z_5)))
  (k3 : ¬ (b2i (frB x1.toInt64 (1 : Int64) (24 : Int64))) = (0 : Int32) → ¬ (b2i (inR x2 (sB S3 + 1))) = (0 : Int32) → Ev G (d + 2) 0 0 M_Mo_isParted 0 [.ref 102, .int x1] [] h (fun r h1 => Ev G (d + 3) k n M_Mo_parted 31 [.ref 102, .int x1, .int x2] (r.toList ++ []) h1 R))
  : Ev G (d + 3) k n M_Mo_parted 0 [.ref 102, .int x1, .int x2] [] h R :=
  Ev.go (pc' := 3) (ls' := [.ref 102, .int x1, .int x2]) (st' := [.long (1 : Int64), .long x1.toInt64]) [.iload_n 1, .i2l, .lconst 1] (by decide +kernel) rfl <|
  Ev.ldc2 k_Mo_353 (by decide +kernel) <|
  Ev.cS0 (M' := M_Mo_isFrom) (as := [.long x1.toInt64, .long (1 : Int64), .long (24 : Int64)]) (rest := []) l_Mo_172 M_Mo_isFrom_ok M_Mo_isFrom_st (by decide +kernel) rfl rfl (Nat.le_of_ble_eq_true rfl) (Nat.le_of_ble_eq_true rfl) (s_Mo_isFrom <| show Ev G (d + 3) _ _ M_Mo_parted 9 [.ref 102, .int x1, .int x2] [.int (b2i (frB x1.toInt64 (1 : Int64) (24 : Int64)))] h R from
    Ev.br (i := .ifCond .eq (11)) (P := (b2i (frB x1.toInt64 (1 : Int64) (24 : Int64))) = (0 : Int32)) (t := 20) (f := 12) (r := []) (by decide +kernel) rfl (fun c1 =>
      Ev.go (pc' := 22) (ls' := [.ref 102, .int x1, .int x2]) (st' := [.int (1 : Int32), .ref 102]) [.aload_n 0, .iconst 1] (by decide +kernel) rfl <|
      Ev.cV0 (M' := M_Mo_refuse) (as := [.int (1 : Int32)]) (rest := []) l_Mo_226 M_Mo_refuse_ok M_Mo_refuse_in M_Mo_refuse_se (by decide +kernel) (r2 c1) rfl rfl rfl (Nat.le_of_ble_eq_true rfl) (Nat.le_of_ble_eq_true rfl) (s_Mo_refuse (pr1 c1) <| show Ev G (d + 3) _ _ M_Mo_parted 25 [.ref 102, .int x1, .int x2] [.int (-1 : Int32)] (hset h 102 (moC (stV v_1 (1 : Int32)) z_2)) R from
        Ev.ret (r := (some (.int (-1 : Int32)))) (Or.inl ⟨_, rfl, by decide +kernel, _, rfl, rfl⟩) (k1 c1)
      )
    ) (fun c1 =>
      Ev.go (pc' := 14) (ls' := [.ref 102, .int x1, .int x2]) (st' := [.int x2, .ref 102]) [.aload_n 0, .iload_n 2] (by decide +kernel) rfl <|
      Ev.cV0 (M' := M_Mo_isRadius) (as := [.int x2]) (rest := []) l_Mo_309 M_Mo_isRadius_ok M_Mo_isRadius_in M_Mo_isRadius_se (by decide +kernel) (r5 c1) rfl rfl rfl (Nat.le_of_ble_eq_true rfl) (Nat.le_of_ble_eq_true rfl) (s_Mo_isRadius (pr3 c1) (pr4 c1) <| show Ev G (d + 3) _ _ M_Mo_parted 17 [.ref 102, .int x1, .int x2] [.int (b2i (inR x2 (sB S3 + 1)))] h R from
        Ev.br (i := .ifCond .ne (9)) (P := (b2i (inR x2 (sB S3 + 1))) = (0 : Int32)) (t := 20) (f := 26) (r := []) (by decide +kernel) rfl (fun c2 =>
          Ev.go (pc' := 22) (ls' := [.ref 102, .int x1, .int x2]) (st' := [.int (1 : Int32), .ref 102]) [.aload_n 0, .iconst 1] (by decide +kernel) rfl <|
          Ev.cV0 (M' := M_Mo_refuse) (as := [.int (1 : Int32)]) (rest := []) l_Mo_226 M_Mo_refuse_ok M_Mo_refuse_in M_Mo_refuse_se (by decide +kernel) (r7 c1 c2) rfl rfl rfl (Nat.le_of_ble_eq_true rfl) (Nat.le_of_ble_eq_true rfl) (s_Mo_refuse (pr6 c1 c2) <| show Ev G (d + 3) _ _ M_Mo_parted 25 [.ref 102, .int x1, .int x2] [.int (-1 : Int32)] (hset h 102 (moC (stV v_4 (1 : Int32)) z_5)) R from
            Ev.ret (r := (some (.int (-1 : Int32)))) (Or.inl ⟨_, rfl, by decide +kernel, _, rfl, rfl⟩) (k2 c1 c2)
          )
        ) (fun c2 =>
          Ev.go (pc' := 28) (ls' := [.ref 102, .int x1, .int x2]) (st' := [.int x1, .ref 102]) [.aload_n 0, .iload_n 1] (by decide +kernel) rfl <|
          Ev.cV0 (M' := M_Mo_isParted) (as := [.int x1]) (rest := []) l_Mo_355 M_Mo_isParted_ok M_Mo_isParted_in M_Mo_isParted_se (by decide +kernel) (r8 c1 c2) rfl rfl rfl (Nat.le_of_ble_eq_true rfl) (Nat.le_of_ble_eq_true rfl) (k3 c1 c2)
        )
      )
    )
  )
theorem b_Mo_parted_31 {G : ev_G} {d k n : Nat} {h : ev_H} {R : Option Value → ev_H → Prop} {x1 : Int32} {x2 : Int32} {y0 : Int32} {v_1 : MG} {z_2 : MP}
  (pr1 : y0 = (0 : Int32) → hat h 102 (moC v_1 z_2))
  (r2 : y0 = (0 : Int32) → ∃ fs, hat h 102 (oC 9 fs))
  (r3 : ¬ y0 = (0 : Int32) → ∃ fs, hat h 102 (oC 9 fs))
  (k1 : y0 = (0 : Int32) → R (some (.int (-1 : Int32))) (hset h 102 (moC (stV v_1 (6 : Int32)) z_2)))
  (k2 : ¬ y0 = (0 : Int32) → Ev G (d + 2) 0 0 M_Mo_partedBy 0 [.ref 102, .int x1, .int x2, ev_unk, ev_unk, ev_unk, ev_unk] [] h (fun r h1 => Ev G (d + 3) k n M_Mo_parted 41 [.ref 102, .int x1, .int x2] (r.toList ++ [.ref 102]) h1 R))
  : Ev G (d + 3) k n M_Mo_parted 31 [.ref 102, .int x1, .int x2] [.int y0] h R :=
  Ev.br (i := .ifCond .eq (16)) (P := y0 = (0 : Int32)) (t := 47) (f := 34) (r := []) (by decide +kernel) rfl (fun c1 =>
    Ev.go (pc' := 50) (ls' := [.ref 102, .int x1, .int x2]) (st' := [.int (6 : Int32), .ref 102]) [.aload_n 0, .bipush (6)] (by decide +kernel) rfl <|
    Ev.cV0 (M' := M_Mo_refuse) (as := [.int (6 : Int32)]) (rest := []) l_Mo_226 M_Mo_refuse_ok M_Mo_refuse_in M_Mo_refuse_se (by decide +kernel) (r2 c1) rfl rfl rfl (Nat.le_of_ble_eq_true rfl) (Nat.le_of_ble_eq_true rfl) (s_Mo_refuse (pr1 c1) <| show Ev G (d + 3) _ _ M_Mo_parted 53 [.ref 102, .int x1, .int x2] [.int (-1 : Int32)] (hset h 102 (moC (stV v_1 (6 : Int32)) z_2)) R from
      Ev.ret (r := (some (.int (-1 : Int32)))) (Or.inl ⟨_, rfl, by decide +kernel, _, rfl, rfl⟩) (k1 c1)
    )
  ) (fun c1 =>
    Ev.go (pc' := 38) (ls' := [.ref 102, .int x1, .int x2]) (st' := [.int x2, .int x1, .ref 102, .ref 102]) [.aload_n 0, .aload_n 0, .iload_n 1, .iload_n 2] (by decide +kernel) rfl <|
    Ev.cV0 (M' := M_Mo_partedBy) (as := [.int x1, .int x2]) (rest := [.ref 102]) l_Mo_358 M_Mo_partedBy_ok M_Mo_partedBy_in M_Mo_partedBy_se (by decide +kernel) (r3 c1) rfl rfl rfl (Nat.le_of_ble_eq_true rfl) (Nat.le_of_ble_eq_true rfl) (k2 c1)
  )
theorem b_Mo_parted_41 {G : ev_G} {d k n : Nat} {h : ev_H} {R : Option Value → ev_H → Prop} {x1 : Int32} {x2 : Int32} {y1 : Int32} {v_1 : MG} {z_2 : MP}
  (pr1 : hat h 102 (moC v_1 z_2))
  (r2 : ∃ fs, hat h 102 (oC 9 fs))
  (k1 : R (some (.int y1)) (hset h 102 (moC (stV v_1 0) z_2)))
  : Ev G (d + 3) k n M_Mo_parted 41 [.ref 102, .int x1, .int x2] [.int y1, .ref 102] h R :=
  Ev.cV0 (M' := M_Mo_gives_I) (as := [.int y1]) (rest := []) l_Mo_245 M_Mo_gives_I_ok M_Mo_gives_I_in M_Mo_gives_I_se (by decide +kernel) r2 rfl rfl rfl (Nat.le_of_ble_eq_true rfl) (Nat.le_of_ble_eq_true rfl) (s_Mo_gives_I pr1 <| show Ev G (d + 3) _ _ M_Mo_parted 44 [.ref 102, .int x1, .int x2] [.int y1] (hset h 102 (moC (stV v_1 0) z_2)) R from
    Ev.go (pc' := 53) (ls' := [.ref 102, .int x1, .int x2]) (st' := [.int y1]) [.goto (9)] (by decide +kernel) rfl <|
    Ev.ret (r := (some (.int y1))) (Or.inl ⟨_, rfl, by decide +kernel, _, rfl, rfl⟩) k1
  )
theorem b_Mo_bestPart_0 {G : ev_G} {d k n : Nat} {h : ev_H} {R : Option Value → ev_H → Prop} {x1 : Int32} {S1 : AS} {v_2 : MG} {z_3 : MP}
  (pr1 : MS h S1)
  (pr2 : sOk S1)
  (r3 : ∃ fs, hat h 102 (oC 9 fs))
  (pr4 : (b2i (inR x1 (sB S1 + 1))) = (0 : Int32) → hat h 102 (moC v_2 z_3))
  (r5 : (b2i (inR x1 (sB S1 + 1))) = (0 : Int32) → ∃ fs, hat h 102 (oC 9 fs))
  (k1 : (b2i (inR x1 (sB S1 + 1))) = (0 : Int32) → R (some (.int (-1 : Int32))) (hset h 102 (moC (stV v_2 (1 : Int32)) z_3)))
  (k2 : ¬ (b2i (inR x1 (sB S1 + 1))) = (0 : Int32) → Ev G (d + 3) k n M_Mo_bestPart 21 [.ref 102, .int x1, .int (-1 : Int32), .int (0 : Int32), .int (1 : Int32), ev_unk] [] h R)
  : Ev G (d + 3) k n M_Mo_bestPart 0 [.ref 102, .int x1, ev_unk, ev_unk, ev_unk, ev_unk] [] h R :=
  Ev.go (pc' := 2) (ls' := [.ref 102, .int x1, ev_unk, ev_unk, ev_unk, ev_unk]) (st' := [.int x1, .ref 102]) [.aload_n 0, .iload_n 1] (by decide +kernel) rfl <|
  Ev.cV0 (M' := M_Mo_isRadius) (as := [.int x1]) (rest := []) l_Mo_309 M_Mo_isRadius_ok M_Mo_isRadius_in M_Mo_isRadius_se (by decide +kernel) r3 rfl rfl rfl (Nat.le_of_ble_eq_true rfl) (Nat.le_of_ble_eq_true rfl) (s_Mo_isRadius pr1 pr2 <| show Ev G (d + 3) _ _ M_Mo_bestPart 5 [.ref 102, .int x1, ev_unk, ev_unk, ev_unk, ev_unk] [.int (b2i (inR x1 (sB S1 + 1)))] h R from
    Ev.br (i := .ifCond .ne (9)) (P := (b2i (inR x1 (sB S1 + 1))) = (0 : Int32)) (t := 8) (f := 14) (r := []) (by decide +kernel) rfl (fun c1 =>
      Ev.go (pc' := 10) (ls' := [.ref 102, .int x1, ev_unk, ev_unk, ev_unk, ev_unk]) (st' := [.int (1 : Int32), .ref 102]) [.aload_n 0, .iconst 1] (by decide +kernel) rfl <|
      Ev.cV0 (M' := M_Mo_refuse) (as := [.int (1 : Int32)]) (rest := []) l_Mo_226 M_Mo_refuse_ok M_Mo_refuse_in M_Mo_refuse_se (by decide +kernel) (r5 c1) rfl rfl rfl (Nat.le_of_ble_eq_true rfl) (Nat.le_of_ble_eq_true rfl) (s_Mo_refuse (pr4 c1) <| show Ev G (d + 3) _ _ M_Mo_bestPart 13 [.ref 102, .int x1, ev_unk, ev_unk, ev_unk, ev_unk] [.int (-1 : Int32)] (hset h 102 (moC (stV v_2 (1 : Int32)) z_3)) R from
        Ev.ret (r := (some (.int (-1 : Int32)))) (Or.inl ⟨_, rfl, by decide +kernel, _, rfl, rfl⟩) (k1 c1)
      )
    ) (fun c1 =>
      Ev.go (pc' := 21) (ls' := [.ref 102, .int x1, .int (-1 : Int32), .int (0 : Int32), .int (1 : Int32), ev_unk]) (st' := []) [.iconst (-1), .istore_n 2, .iconst 0, .istore_n 3, .iconst 1, .istore 4] (by decide +kernel) rfl <|
      (k2 c1)
    )
  )
theorem b_Mo_bestPart_21 {G : ev_G} {d k n : Nat} {h : ev_H} {R : Option Value → ev_H → Prop} {x1 : Int32} {x2 : Int32} {x3 : Int32} {x4 : Int32} {v_1 : MG} {z_2 : MP}
  (pr1 : (24 : Int32) < x4 → hat h 102 (moC v_1 z_2))
  (r2 : (24 : Int32) < x4 → ∃ fs, hat h 102 (oC 9 fs))
  (r3 : ¬ (24 : Int32) < x4 → ∃ fs, hat h 102 (oC 9 fs))
  (k1 : (24 : Int32) < x4 → R (some (.int x2)) (hset h 102 (moC (stV v_1 0) z_2)))
  (k2 : ¬ (24 : Int32) < x4 → Ev G (d + 2) 0 0 M_Mo_isParted 0 [.ref 102, .int x4] [] h (fun r h1 => Ev G (d + 3) k n M_Mo_bestPart 34 [.ref 102, .int x1, .int x2, .int x3, .int x4, ev_unk] (r.toList ++ []) h1 R))
  : Ev G (d + 3) k n M_Mo_bestPart 21 [.ref 102, .int x1, .int x2, .int x3, .int x4, ev_unk] [] h R :=
  Ev.go (pc' := 25) (ls' := [.ref 102, .int x1, .int x2, .int x3, .int x4, ev_unk]) (st' := [.int (24 : Int32), .int x4]) [.iload 4, .bipush (24)] (by decide +kernel) rfl <|
  Ev.br (i := .if_icmp .gt (62)) (P := (24 : Int32) < x4) (t := 87) (f := 28) (r := []) (by decide +kernel) rfl (fun c1 =>
    Ev.go (pc' := 89) (ls' := [.ref 102, .int x1, .int x2, .int x3, .int x4, ev_unk]) (st' := [.int x2, .ref 102]) [.aload_n 0, .iload_n 2] (by decide +kernel) rfl <|
    Ev.cV0 (M' := M_Mo_gives_I) (as := [.int x2]) (rest := []) l_Mo_245 M_Mo_gives_I_ok M_Mo_gives_I_in M_Mo_gives_I_se (by decide +kernel) (r2 c1) rfl rfl rfl (Nat.le_of_ble_eq_true rfl) (Nat.le_of_ble_eq_true rfl) (s_Mo_gives_I (pr1 c1) <| show Ev G (d + 3) _ _ M_Mo_bestPart 92 [.ref 102, .int x1, .int x2, .int x3, .int x4, ev_unk] [.int x2] (hset h 102 (moC (stV v_1 0) z_2)) R from
      Ev.ret (r := (some (.int x2))) (Or.inl ⟨_, rfl, by decide +kernel, _, rfl, rfl⟩) (k1 c1)
    )
  ) (fun c1 =>
    Ev.go (pc' := 31) (ls' := [.ref 102, .int x1, .int x2, .int x3, .int x4, ev_unk]) (st' := [.int x4, .ref 102]) [.aload_n 0, .iload 4] (by decide +kernel) rfl <|
    Ev.cV0 (M' := M_Mo_isParted) (as := [.int x4]) (rest := []) l_Mo_355 M_Mo_isParted_ok M_Mo_isParted_in M_Mo_isParted_se (by decide +kernel) (r3 c1) rfl rfl rfl (Nat.le_of_ble_eq_true rfl) (Nat.le_of_ble_eq_true rfl) (k2 c1)
  )
theorem b_Mo_bestPart_34 {G : ev_G} {d k n : Nat} {h : ev_H} {R : Option Value → ev_H → Prop} {x1 : Int32} {x2 : Int32} {x3 : Int32} {x4 : Int32} {y0 : Int32}
  (r1 : y0 = (0 : Int32) → ∃ fs, hat h 102 (oC 9 fs))
  (r2 : ¬ y0 = (0 : Int32) → ∃ fs, hat h 102 (oC 9 fs))
  (k1 : y0 = (0 : Int32) → Ev G (d + 2) 0 0 M_Mo_isParted 0 [.ref 102, .int x4] [] h (fun r h1 => Ev G (d + 3) k n M_Mo_bestPart 58 [.ref 102, .int x1, .int x2, .int x3, .int x4, .int (1000000 : Int32)] (r.toList ++ []) h1 R))
  (k2 : ¬ y0 = (0 : Int32) → Ev G (d + 2) 0 0 M_Mo_partedBy 0 [.ref 102, .int x4, .int x1, ev_unk, ev_unk, ev_unk, ev_unk] [] h (fun r h1 => Ev G (d + 3) k n M_Mo_bestPart 44 [.ref 102, .int x1, .int x2, .int x3, .int x4, ev_unk] (r.toList ++ []) h1 R))
  : Ev G (d + 3) k n M_Mo_bestPart 34 [.ref 102, .int x1, .int x2, .int x3, .int x4, ev_unk] [.int y0] h R :=
  Ev.br (i := .ifCond .eq (13)) (P := y0 = (0 : Int32)) (t := 47) (f := 37) (r := []) (by decide +kernel) rfl (fun c1 =>
    Ev.ldcw k_Mo_305 (by decide +kernel) <|
    Ev.go (pc' := 55) (ls' := [.ref 102, .int x1, .int x2, .int x3, .int x4, .int (1000000 : Int32)]) (st' := [.int x4, .ref 102]) [.istore 5, .aload_n 0, .iload 4] (by decide +kernel) rfl <|
    Ev.cV0 (M' := M_Mo_isParted) (as := [.int x4]) (rest := []) l_Mo_355 M_Mo_isParted_ok M_Mo_isParted_in M_Mo_isParted_se (by decide +kernel) (r1 c1) rfl rfl rfl (Nat.le_of_ble_eq_true rfl) (Nat.le_of_ble_eq_true rfl) (k1 c1)
  ) (fun c1 =>
    Ev.go (pc' := 41) (ls' := [.ref 102, .int x1, .int x2, .int x3, .int x4, ev_unk]) (st' := [.int x1, .int x4, .ref 102]) [.aload_n 0, .iload 4, .iload_n 1] (by decide +kernel) rfl <|
    Ev.cV0 (M' := M_Mo_partedBy) (as := [.int x4, .int x1]) (rest := []) l_Mo_358 M_Mo_partedBy_ok M_Mo_partedBy_in M_Mo_partedBy_se (by decide +kernel) (r2 c1) rfl rfl rfl (Nat.le_of_ble_eq_true rfl) (Nat.le_of_ble_eq_true rfl) (k2 c1)
  )
theorem b_Mo_bestPart_44 {G : ev_G} {d k n : Nat} {h : ev_H} {R : Option Value → ev_H → Prop} {x1 : Int32} {x2 : Int32} {x3 : Int32} {x4 : Int32} {y0 : Int32}
  (r1 : ∃ fs, hat h 102 (oC 9 fs))
  (k1 : Ev G (d + 2) 0 0 M_Mo_isParted 0 [.ref 102, .int x4] [] h (fun r h1 => Ev G (d + 3) k n M_Mo_bestPart 58 [.ref 102, .int x1, .int x2, .int x3, .int x4, .int y0] (r.toList ++ []) h1 R))
  : Ev G (d + 3) k n M_Mo_bestPart 44 [.ref 102, .int x1, .int x2, .int x3, .int x4, ev_unk] [.int y0] h R :=
  Ev.go (pc' := 55) (ls' := [.ref 102, .int x1, .int x2, .int x3, .int x4, .int y0]) (st' := [.int x4, .ref 102]) [.goto (6), .istore 5, .aload_n 0, .iload 4] (by decide +kernel) rfl <|
  Ev.cV0 (M' := M_Mo_isParted) (as := [.int x4]) (rest := []) l_Mo_355 M_Mo_isParted_ok M_Mo_isParted_in M_Mo_isParted_se (by decide +kernel) r1 rfl rfl rfl (Nat.le_of_ble_eq_true rfl) (Nat.le_of_ble_eq_true rfl) k1
theorem b_Mo_bestPart_58 {G : ev_G} {d k n : Nat} {h : ev_H} {R : Option Value → ev_H → Prop} {x1 : Int32} {x2 : Int32} {x3 : Int32} {x4 : Int32} {x5 : Int32} {y0 : Int32}
  (k1 : y0 = (0 : Int32) → Ev G (d + 3) k n M_Mo_bestPart 21 [.ref 102, .int x1, .int x2, .int x3, .int (x4 + (1 : Int32)), ev_unk] [] h R)
  (k2 : ¬ y0 = (0 : Int32) → x2 = (-1 : Int32) → Ev G (d + 3) k n M_Mo_bestPart 21 [.ref 102, .int x1, .int x4, .int x5, .int (x4 + (1 : Int32)), ev_unk] [] h R)
  (k3 : ¬ y0 = (0 : Int32) → ¬ x2 = (-1 : Int32) → x5 < x3 → Ev G (d + 3) k n M_Mo_bestPart 21 [.ref 102, .int x1, .int x4, .int x5, .int (x4 + (1 : Int32)), ev_unk] [] h R)
  (k4 : ¬ y0 = (0 : Int32) → ¬ x2 = (-1 : Int32) → ¬ x5 < x3 → Ev G (d + 3) k n M_Mo_bestPart 21 [.ref 102, .int x1, .int x2, .int x3, .int (x4 + (1 : Int32)), ev_unk] [] h R)
  : Ev G (d + 3) k n M_Mo_bestPart 58 [.ref 102, .int x1, .int x2, .int x3, .int x4, .int x5] [.int y0] h R :=
  Ev.br (i := .ifCond .eq (23)) (P := y0 = (0 : Int32)) (t := 81) (f := 61) (r := []) (by decide +kernel) rfl (fun c1 =>
    Ev.go (pc' := 21) (ls' := [.ref 102, .int x1, .int x2, .int x3, .int (x4 + (1 : Int32)), .int x5]) (st' := []) [.iinc 4 (1), .goto (-63)] (by decide +kernel) rfl <|
    Ev.forget (ls' := [.ref 102, .int x1, .int x2, .int x3, .int (x4 + (1 : Int32)), ev_unk]) ⟨Or.inr rfl, Or.inr rfl, Or.inr rfl, Or.inr rfl, Or.inr rfl, Or.inl rfl, trivial⟩ <|
    (k1 c1)
  ) (fun c1 =>
    Ev.go (pc' := 63) (ls' := [.ref 102, .int x1, .int x2, .int x3, .int x4, .int x5]) (st' := [.int (-1 : Int32), .int x2]) [.iload_n 2, .iconst (-1)] (by decide +kernel) rfl <|
    Ev.br (i := .if_icmp .eq (12)) (P := x2 = (-1 : Int32)) (t := 75) (f := 66) (r := []) (by decide +kernel) rfl (fun c2 =>
      Ev.go (pc' := 21) (ls' := [.ref 102, .int x1, .int x4, .int x5, .int (x4 + (1 : Int32)), .int x5]) (st' := []) [.iload 4, .istore_n 2, .iload 5, .istore_n 3, .iinc 4 (1), .goto (-63)] (by decide +kernel) rfl <|
      Ev.forget (ls' := [.ref 102, .int x1, .int x4, .int x5, .int (x4 + (1 : Int32)), ev_unk]) ⟨Or.inr rfl, Or.inr rfl, Or.inr rfl, Or.inr rfl, Or.inr rfl, Or.inl rfl, trivial⟩ <|
      (k2 c1 c2)
    ) (fun c2 =>
      Ev.go (pc' := 69) (ls' := [.ref 102, .int x1, .int x2, .int x3, .int x4, .int x5]) (st' := [.int x3, .int x5]) [.iload 5, .iload_n 3] (by decide +kernel) rfl <|
      Ev.br (i := .if_icmp .lt (6)) (P := x5 < x3) (t := 75) (f := 72) (r := []) (by decide +kernel) rfl (fun c3 =>
        Ev.go (pc' := 21) (ls' := [.ref 102, .int x1, .int x4, .int x5, .int (x4 + (1 : Int32)), .int x5]) (st' := []) [.iload 4, .istore_n 2, .iload 5, .istore_n 3, .iinc 4 (1), .goto (-63)] (by decide +kernel) rfl <|
        Ev.forget (ls' := [.ref 102, .int x1, .int x4, .int x5, .int (x4 + (1 : Int32)), ev_unk]) ⟨Or.inr rfl, Or.inr rfl, Or.inr rfl, Or.inr rfl, Or.inr rfl, Or.inl rfl, trivial⟩ <|
        (k3 c1 c2 c3)
      ) (fun c3 =>
        Ev.go (pc' := 21) (ls' := [.ref 102, .int x1, .int x2, .int x3, .int (x4 + (1 : Int32)), .int x5]) (st' := []) [.goto (9), .iinc 4 (1), .goto (-63)] (by decide +kernel) rfl <|
        Ev.forget (ls' := [.ref 102, .int x1, .int x2, .int x3, .int (x4 + (1 : Int32)), ev_unk]) ⟨Or.inr rfl, Or.inr rfl, Or.inr rfl, Or.inr rfl, Or.inr rfl, Or.inl rfl, trivial⟩ <|
        (k4 c1 c2 c3)
      )
    )
  )
section S67
variable {G : ev_G} {d : Nat} {h h1 : ev_H} {R : Option Value → ev_H → Prop} {Q : QS}
theorem fr24 : ∀ b, b < 49 → frB (nI b).toInt64 1 24 = decide (1 ≤ b ∧ b ≤ 24) := by decide +kernel
theorem fr24s : ∀ B, B < 49 → ∀ b, b < 25 → frB (nI B - nI b).toInt64 1 24 = decide (b < B ∧ B - b ≤ 24) := by decide +kernel
theorem fr24x (x : Int32) : frB x.toInt64 1 24 = (decide (¬ x < 1) && decide (¬ (24 : Int32) < x)) := by
  have e : (x.toInt64).toInt = x.toInt := Int32.toInt_toInt64 x
  unfold frB
  rw [Bool.eq_iff_iff, Bool.and_eq_true, Bool.and_eq_true, decide_eq_true_iff, decide_eq_true_iff, decide_eq_true_iff, decide_eq_true_iff, Int64.lt_iff_toInt_lt, Int64.lt_iff_toInt_lt, Int32.lt_iff_toInt_lt, Int32.lt_iff_toInt_lt, e]
  exact Iff.rfl
theorem s_Mo_isParted {S : AS} {b : Nat} (H : MS h S) (ok : sOk S) (hb : 1 ≤ b ∧ b ≤ 24) (hR : R (some (.int (b2i (upB S b)))) h) : Ev G (d + 2) 0 0 M_Mo_isParted 0 [.ref 102, .int (nI b)] [] h R := by
  have ⟨v, z, g, m1, m2, sl⟩ := H
  have h48 := ok.2.1
  have f1 : frB (nI b).toInt64 1 24 = true := by rw [fr24 b (by omega)]; exact decide_eq_true hb
  have f2 : frB (nI (sB S) - nI b).toInt64 1 24 = upB S b := fr24s (sB S) (by omega) b (by omega)
  refine b_Mo_isParted_0 (fun _ => H) (fun _ => ⟨_, m1⟩) (fun k => ?_) (fun _ k => ?_) (fun _ k => ?_)
  · rw [f1] at k; exact absurd k (by decide)
  · rw [f2] at k; rw [b2i_e0 k] at hR; exact hR
  · rw [f2] at k; rw [b2i_n0 k] at hR; exact hR
theorem ptN_end {S : AS} {l r : Nat} : ∀ e, ptN S (ctP S) l r (sN S + e) = ptN S (ctP S) l r (sN S)
  | 0 => rfl
  | e + 1 => by
    have nf : ctP S (sN S + e) = false := by
      cases t : ctP S (sN S + e)
      · rfl
      · have := ct_N t; omega
    show ptN S (ctP S) l r (sN S + e) + (if ctP S (sN S + e) then _ else 0) = _
    rw [nf, ptN_end e]; rfl
theorem ptN_32 {S : AS} {l r : Nat} (h : sN S ≤ 32) : ptN S (ctP S) l r 32 = ptN S (ctP S) l r (sN S) := by
  have := ptN_end (S := S) (l := l) (r := r) (32 - sN S)
  rw [show sN S + (32 - sN S) = 32 by omega] at this
  exact this
theorem s_partedBy {b r : Nat} (H : MR h Q) (hb : 1 ≤ b ∧ b ≤ 24) (hu : upB (qS Q) b = true) (hr : r ≤ sB (qS Q)) (hR : ∀ h', Kp h h' 102 126 → MR h' Q → R (some (.int (nI (ptN (qS Q) (ctP (qS Q)) b r 32)))) h') : Ev G (d + 7) 0 0 M_Mo_partedBy 0 [.ref 102, .int (nI b), .int (nI r), ev_unk, ev_unk, ev_unk, ev_unk] [] h R := by
  obtain ⟨bm, z, m1⟩ := H.2.1
  have hz := H.szN
  have hzB := H.szB
  have hu := of_decide_eq_true hu
  rw [ptN_32 hz] at hR
  refine b_Mo_partedBy_0 (d := d + 5) ⟨_, m1⟩ ?_
  refine s_cnt H fun h1 K1 H1 => ?_
  have K1 : Kp h h1 102 126 := K1.wide (by omega) (by omega)
  obtain ⟨bm, z, m1⟩ := H1.2.1
  obtain ⟨g0, m3⟩ := H1.mx.2.2.1
  have Ka : Kp h1 (hset h1 102 (moC (moQ Q (nI 2)) z)) 102 103 := (Kp.refl h1 102 103).set _ (by omega) (by omega)
  have ma := hat_set m1 (c' := moC (moQ Q (nI 2)) z)
  have Ha : MR (hset h1 102 (moC (moQ Q (nI 2)) z)) Q := by
    obtain ⟨a, -, ⟨g, m2, sl⟩, t, X, n⟩ := H1
    exact ⟨a, ⟨_, z, ma⟩, ⟨g, Ka.hat m2 (by omega), sl⟩, Ka.hat t (by omega), X.kg Ka.g (by omega), n⟩
  have m3a := Ka.hat m3 (by omega)
  have Kb : Kp (hset h1 102 (moC (moQ Q (nI 2)) z)) (hset (hset h1 102 (moC (moQ Q (nI 2)) z)) 107 (aI 6 (upd g0 0 (nI b)))) 107 108 := (Kp.refl _ 107 108).set _ (by omega) (by omega)
  have msb := Ha.ms.kp Kb (by omega)
  refine b_Mo_partedBy_6 (d := d + 5) m1 m3 msb ?_
  have Kc : Kp (hset h1 102 (moC (moQ Q (nI 2)) z)) (hset (hset (hset h1 102 (moC (moQ Q (nI 2)) z)) 107 (aI 6 (upd g0 0 (nI b)))) 107 (aI 6 (upd (upd g0 0 (nI b)) 1 (nI (sB (qS Q)) - nI b)))) 107 108 := Kb.set _ (by omega) (by omega)
  have m3c := hat_set (hat_set m3a (c' := aI 6 (upd g0 0 (nI b)))) (c' := aI 6 (upd (upd g0 0 (nI b)) 1 (nI (sB (qS Q)) - nI b)))
  have B : BR (hset (hset (hset h1 102 (moC (moQ Q (nI 2)) z)) 107 (aI 6 (upd g0 0 (nI b)))) 107 (aI 6 (upd (upd g0 0 (nI b)) 1 (nI (sB (qS Q)) - nI b)))) Q 2 (twoW b (sB (qS Q) - b)) := by
    refine ⟨Ha.work (Kc.wide (by omega) (by omega)) (Kc.2 105 (by have := Ha.num; omega) (by omega)) (Ha.mx.at107 Kc ⟨_, m3c⟩), z, _, Kc.hat ma (by omega), m3c, fun i hi => ?_⟩
    rcases (show i = 0 ∨ i = 1 by omega) with rfl | rfl
    · rfl
    · show nI (sB (qS Q)) - nI b = nI (sB (qS Q) - b)
      exact nI_sub (by omega)
  have wo : wOk 2 (twoW b (sB (qS Q) - b)) := by
    refine ⟨by omega, by omega, fun i hi => ?_, ?_⟩
    · rcases (show i = 0 ∨ i = 1 by omega) with rfl | rfl
      · show b ≤ 24; omega
      · show sB (qS Q) - b ≤ 24; omega
    · show 0 + b + (sB (qS Q) - b) ≤ 48; omega
  have ws : sumT (twoW b (sB (qS Q) - b)) 2 = sB (qS Q) := by show 0 + b + (sB (qS Q) - b) = _; omega
  have K : Kp h (hset (hset (hset h1 102 (moC (moQ Q (nI 2)) z)) 107 (aI 6 (upd g0 0 (nI b)))) 107 (aI 6 (upd (upd g0 0 (nI b)) 1 (nI (sB (qS Q)) - nI b)))) 102 126 := (K1.trans (Ka.wide (by omega) (by omega))).trans (Kc.wide (by omega) (by omega))
  have L := up_to (P := fun i => ∀ h', Kp h h' 102 126 → BR h' Q 2 (twoW b (sB (qS Q) - b)) → Ev G (d + 7) 0 0 M_Mo_partedBy 35 [.ref 102, .int (nI b), .int (nI r), .int (nI (ptN (qS Q) (ctP (qS Q)) b r i)), .long (setL (ctP (qS Q))), ev_unk, .int (nI i)] [] h' R) (N := sN (qS Q)) ?_ ?_ 0 (Nat.zero_le _)
  · exact L _ K B
  · intro i hi ih h3 K3 B
    have H3 := B.1
    have H := H3
    obtain ⟨bm, z, m1⟩ := H3.2.1
    have tc : tbL (setL (ctP (qS Q))) (nI i) = ctP (qS Q) i := by rw [tbL_n (by omega), lt_setL, decide_eq_true (show i < 32 by omega), Bool.true_and]
    have st : ptN (qS Q) (ctP (qS Q)) b r (i + 1) = ptN (qS Q) (ctP (qS Q)) b r i + if ctP (qS Q) i then bLp (cstN (ctP (qS Q)) (sCo (qS Q)) (sCo (qS Q) i) (twoW b (sB (qS Q) - b))) (twoW b (sB (qS Q) - b)) 2 0 (r + 1) else 0 := rfl
    rw [st] at ih
    refine b_Mo_partedBy_35 (d := d + 5) (c_3 := i) H.ms ⟨_, m1⟩ (fun c1 c2 => H.ms) (fun c1 c2 => H.ok) (fun c1 c2 => ⟨rfl, hi⟩) (fun c1 c2 => ⟨_, m1⟩) (fun c1 c2 => ?_) (fun c1 c2 => ?_) (fun c1 => absurd (nI_lt hi (by omega)) c1)
    · rw [tc] at c2
      rw [b2i_e0 c2] at ih
      rw [show (0 : Int32) = nI 0 from rfl, nI_add, nI_1]; exact ih h3 K3 B
    · rw [tc] at c2
      rw [b2i_n0 c2] at ih
      refine (s_budgetsOf (d := d) B wo (by omega) (by omega) (fun j q => ct_N q) fun h4 K4 B4 _ => ?_).room (by omega) (Nat.le_refl _) (Nat.le_refl _)
      refine b_Mo_partedBy_68 (d := d + 5) ?_
      rw [nI_add, nI_1]
      exact ih h4 (K3.trans (K4.wide (by omega) (by omega))) B4
  · intro h3 K3 B
    have H3 := B.1
    have H := H3
    obtain ⟨bm, z, m1⟩ := H3.2.1
    have no := nl_self (n := sN (qS Q)) (by omega)
    refine b_Mo_partedBy_35 (d := d + 5) (c_3 := 0) H.ms ⟨_, m1⟩ (fun c1 c2 => H.ms) (fun c1 c2 => H.ok) (fun c1 c2 => absurd c1 no) (fun c1 c2 => ⟨_, m1⟩) (fun c1 c2 => absurd c1 no) (fun c1 c2 => absurd c1 no) (fun c1 => hR h3 K3 H3)
theorem s_Mo_parted2 {b r : Int32} (H : MR h Q) (hR : ∀ h', Kp h h' 102 126 → MR h' (stQ Q (a_parted (qS Q) b r).2) → R (some (.int (a_parted (qS Q) b r).1)) h') : Ev G (d + 8) 0 0 M_Mo_parted 0 [.ref 102, .int b, .int r] [] h R := by
  obtain ⟨bm, z, m1⟩ := H.2.1
  have hzB := H.szB
  have f := fr24x b
  have bad : (b2i (frB b.toInt64 1 24)) = 0 → a_parted (qS Q) b r = (-1, 1) := fun c => by
    rw [f] at c
    have c := b2i_e0 c
    unfold a_parted
    by_cases k : inR r (sB (qS Q) + 1) = true
    · rw [if_pos k]
      by_cases k1 : b < 1
      · rw [if_pos k1]
      · rw [if_neg k1]
        rw [decide_eq_true k1, Bool.true_and] at c
        rw [if_pos (Decidable.of_not_not (of_decide_eq_false c))]
    · rw [if_neg k]
  refine b_Mo_parted_0 (d := d + 5) (fun c1 => m1) (fun c1 => ⟨_, m1⟩) (fun c1 => H.ms) (fun c1 => H.ok) (fun c1 => ⟨_, m1⟩) (fun c1 c2 => m1) (fun c1 c2 => ⟨_, m1⟩) (fun c1 c2 => ⟨_, m1⟩) (fun c1 => H.fin (Kp.refl _ _ _) m1 hR (bad c1)) (fun c1 c2 => H.fin (Kp.refl _ _ _) m1 hR (by unfold a_parted; rw [b2i_e0 c2]; rfl)) (fun c1 c2 => ?_)
  rw [f] at c1
  have c1 := b2i_n0 c1
  rw [Bool.and_eq_true] at c1
  have l1 := of_decide_eq_true c1.1
  have l2 := of_decide_eq_true c1.2
  have vb := le24 l1 l2
  have hr := vN_lt (by omega) (b2i_n0 c2)
  have e : a_parted (qS Q) b r = if upB (qS Q) (vN b) then (nI (ptN (qS Q) (ctP (qS Q)) (vN b) (vN r) 32), 0) else (-1, 6) := by unfold a_parted; rw [if_pos (b2i_n0 c2), if_neg l1, if_neg l2]
  rw [e] at hR
  clear e c1 c2 l1 l2 f bad
  generalize vN r = rn at hr hR
  obtain ⟨rfl, hr⟩ := hr
  generalize vN b = bn at vb hR
  obtain ⟨rfl, vb⟩ := vb
  refine (s_Mo_isParted (d := d) H.ms H.ok vb ?_).room (by omega) (Nat.le_refl _) (Nat.le_refl _)
  refine b_Mo_parted_31 (d := d + 5) (fun c1 => m1) (fun c1 => ⟨_, m1⟩) (fun c1 => ⟨_, m1⟩) (fun c1 => H.fin (Kp.refl _ _ _) m1 hR (by rw [b2i_e0 c1]; rfl)) (fun c1 => ?_)
  have cu := b2i_n0 ‹¬ b2i (upB _ _) = 0›
  rw [if_pos cu] at hR
  refine s_partedBy (d := d) H vb cu (by omega) fun h1 K1 H1 => ?_
  obtain ⟨bm, z, m1⟩ := H1.2.1
  exact b_Mo_parted_41 (d := d + 5) m1 ⟨_, m1⟩ (H1.fin K1 m1 hR rfl)
theorem s_Mo_bestPart2 {r : Int32} (H : MR h Q) (hR : ∀ h', Kp h h' 102 126 → MR h' (stQ Q (a_bestPart (qS Q) r).2) → R (some (.int (a_bestPart (qS Q) r).1)) h') : Ev G (d + 8) 0 0 M_Mo_bestPart 0 [.ref 102, .int r, ev_unk, ev_unk, ev_unk, ev_unk] [] h R := by
  obtain ⟨bm, z, m1⟩ := H.2.1
  have hzB := H.szB
  refine b_Mo_bestPart_0 (d := d + 5) H.ms H.ok ⟨_, m1⟩ (fun c1 => m1) (fun c1 => ⟨_, m1⟩) (fun c1 => H.fin (Kp.refl _ _ _) m1 hR (by unfold a_bestPart; rw [b2i_e0 c1]; rfl)) (fun c1 => ?_)
  have hr := vN_lt (by omega) (b2i_n0 c1)
  have e : a_bestPart (qS Q) r = (oIx (bpO (qS Q) (vN r) 25), 0) := by unfold a_bestPart; rw [if_pos (b2i_n0 c1)]
  rw [e] at hR
  clear e c1
  generalize vN r = rn at hr hR
  obtain ⟨rfl, hr⟩ := hr
  have L := up_to (P := fun b => 1 ≤ b → ∀ h1, Kp h h1 102 126 → MR h1 Q → Ev G (d + 8) 0 0 M_Mo_bestPart 21 [.ref 102, .int (nI rn), .int (oIx (bpO (qS Q) rn b)), .int (oVl (bpO (qS Q) rn b)), .int (nI b), ev_unk] [] h1 R) (N := 25) ?_ ?_
  · exact L 1 (by omega) (by omega) h (Kp.refl _ _ _) H
  · intro b hb ih h1b h1 K1 H
    obtain ⟨bm, z, m1⟩ := H.2.1
    have no : ¬ (24 : Int32) < nI b := nI_nlt (a := 24) (by omega) (by omega)
    have st : bpO (qS Q) rn (b + 1) = if (decide (1 ≤ b) && upB (qS Q) b) then (match bpO (qS Q) rn b with
      | none => some (b, ptN (qS Q) (ctP (qS Q)) b rn 32)
      | some (b', l) => if ptN (qS Q) (ctP (qS Q)) b rn 32 < l then some (b, ptN (qS Q) (ctP (qS Q)) b rn 32) else some (b', l)) else bpO (qS Q) rn b := rfl
    refine b_Mo_bestPart_21 (d := d + 5) (fun _ => m1) (fun _ => ⟨_, m1⟩) (fun _ => ⟨_, m1⟩) (fun c => absurd c no) (fun _ => ?_)
    refine (s_Mo_isParted (d := d) H.ms H.ok ⟨h1b, by omega⟩ ?_).room (by omega) (Nat.le_refl _) (Nat.le_refl _)
    refine b_Mo_bestPart_34 (d := d + 5) (fun _ => ⟨_, m1⟩) (fun _ => ⟨_, m1⟩) (fun c => ?_) (fun c => ?_)
    · have c2 := b2i_e0 c
      refine (s_Mo_isParted (d := d) H.ms H.ok ⟨h1b, by omega⟩ ?_).room (by omega) (Nat.le_refl _) (Nat.le_refl _)
      rw [c2, Bool.and_false] at st
      refine b_Mo_bestPart_58 (d := d + 5) (fun _ => ?_) (fun k => absurd c k) (fun k => absurd c k) (fun k => absurd c k)
      rw [nI_1]
      have ih := ih (by omega) h1 K1 H
      rw [st] at ih
      exact ih
    · have c2 := b2i_n0 c
      rw [c2, decide_eq_true h1b, Bool.and_self, if_pos rfl] at st
      refine s_partedBy (d := d) H ⟨h1b, by omega⟩ c2 (by omega) fun h2 K2 H => ?_
      obtain ⟨bm, z, m1⟩ := H.2.1
      refine b_Mo_bestPart_44 (d := d + 5) ⟨_, m1⟩ ?_
      refine (s_Mo_isParted (d := d) H.ms H.ok ⟨h1b, by omega⟩ ?_).room (by omega) (Nat.le_refl _) (Nat.le_refl _)
      have ih := ih (by omega) h2 (K1.trans K2) H
      have hv := ptN_le (S := qS Q) (p := ctP (qS Q)) (l := b) (r := rn) 32
      cases q : bpO (qS Q) rn b with
      | none =>
        rw [q] at st
        rw [st] at ih
        refine b_Mo_bestPart_58 (d := d + 5) (fun k => absurd k c) (fun _ _ => ?_) (fun _ k => absurd rfl k) (fun _ k => absurd rfl k)
        rw [nI_1]; exact ih
      | some y =>
        obtain ⟨b', l⟩ := y
        rw [q] at st
        have hz := omin_some q
        have hl : l ≤ 32 * 1000000 := by
          have := hz.2
          rw [show l = ptN (qS Q) (ctP (qS Q)) b' rn 32 from this]
          exact ptN_le 32
        have hb' : b' < b := hz.1
        have ne : ¬ oIx (some (b', l)) = -1 := nI_m1 (by omega)
        refine b_Mo_bestPart_58 (d := d + 5) (fun k => absurd k c) (fun _ k => absurd k ne) (fun _ _ k => ?_) (fun _ _ k => ?_)
        · have k : ptN (qS Q) (ctP (qS Q)) b rn 32 < l := (nI_ltI (by omega) (by omega)).mp k
          dsimp only at st
          rw [if_pos k] at st
          rw [st] at ih
          rw [nI_1]; exact ih
        · have k : ¬ ptN (qS Q) (ctP (qS Q)) b rn 32 < l := fun y => k (nI_lt y (by omega))
          dsimp only at st
          rw [if_neg k] at st
          rw [st] at ih
          rw [nI_1]; exact ih
  · intro _ h1 K1 H
    obtain ⟨bm, z, m1⟩ := H.2.1
    have yes : (24 : Int32) < nI 25 := by decide
    exact b_Mo_bestPart_21 (d := d + 5) (fun _ => m1) (fun _ => ⟨_, m1⟩) (fun c => absurd yes c) (fun _ => H.fin K1 m1 hR rfl) (fun c => absurd yes c)
end S67
