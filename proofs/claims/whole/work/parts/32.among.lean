/-! AMONG THEMSELVES: clusters, votes, patterns, spreads, parted -/
theorem b_X_clusters_0 {G : ev_G} {d k n : Nat} {h : ev_H} {R : Option Value → ev_H → Prop} {x1 : Int32} {x2 : Int32} {S1 : AS} {la2 : Int32} {fk3 : Int32} {fp4 : Int32} {la5 : Int32} {fk6 : Int32} {fp7 : Int32} {la8 : Int32} {fk9 : Int32} {fp10 : Int32} {f_latest_11 : Int32} {f_faultKind_12 : Int32} {f_faultPlace_13 : Int32} {S14 : AS}
  (a9 : hat h 0 (oC 8 [.ref 1, .ref 5, .ref 18, .ref 81, .ref 98, .int f_latest_11, .int f_faultKind_12, .int f_faultPlace_13]))
  (pr1 : XO h la2 fk3 fp4)
  (pr2 : StR h 1 S1)
  (pr3 : sOk S1)
  (r4 : ∃ fs, hat h 0 (oC 8 fs))
  (pr5 : (b2i (inR x1 (sB S1 + 1))) = (0 : Int32) → XO h la5 fk6 fp7)
  (r6 : (b2i (inR x1 (sB S1 + 1))) = (0 : Int32) → ∃ fs, hat h 0 (oC 8 fs))
  (pr7 : ¬ (b2i (inR x1 (sB S1 + 1))) = (0 : Int32) → (b2i (decide (0 ≤ x2 ∧ x2 < (3 : Int32)))) = (0 : Int32) → XO h la8 fk9 fp10)
  (r8 : ¬ (b2i (inR x1 (sB S1 + 1))) = (0 : Int32) → (b2i (decide (0 ≤ x2 ∧ x2 < (3 : Int32)))) = (0 : Int32) → ∃ fs, hat h 0 (oC 8 fs))
  (pr10 : ¬ (b2i (inR x1 (sB S1 + 1))) = (0 : Int32) → ¬ (b2i (decide (0 ≤ x2 ∧ x2 < (3 : Int32)))) = (0 : Int32) → StR h 1 S14)
  (pr11 : ¬ (b2i (inR x1 (sB S1 + 1))) = (0 : Int32) → ¬ (b2i (decide (0 ≤ x2 ∧ x2 < (3 : Int32)))) = (0 : Int32) → sOk S14)
  (pr12 : ¬ (b2i (inR x1 (sB S1 + 1))) = (0 : Int32) → ¬ (b2i (decide (0 ≤ x2 ∧ x2 < (3 : Int32)))) = (0 : Int32) → sFl S14 = [] ∨ flOk (sFl S14))
  (r13 : ¬ (b2i (inR x1 (sB S1 + 1))) = (0 : Int32) → ¬ (b2i (decide (0 ≤ x2 ∧ x2 < (3 : Int32)))) = (0 : Int32) → ∃ fs, hat h 1 (oC 6 fs))
  (k1 : (b2i (inR x1 (sB S1 + 1))) = (0 : Int32) → R (some (.int (-1 : Int32))) (xoS h (1 : Int32) fk6 fp7))
  (k2 : ¬ (b2i (inR x1 (sB S1 + 1))) = (0 : Int32) → (b2i (decide (0 ≤ x2 ∧ x2 < (3 : Int32)))) = (0 : Int32) → R (some (.int (-1 : Int32))) (xoS h (1 : Int32) fk9 fp10))
  (k3 : ¬ (b2i (inR x1 (sB S1 + 1))) = (0 : Int32) → ¬ (b2i (decide (0 ≤ x2 ∧ x2 < (3 : Int32)))) = (0 : Int32) → Ev G (d + 6) k n M_X_clusters 42 [.ref 0, .int x1, .int x2, .int (setI (ctP S14)), .int (0 : Int32), .int (0 : Int32), .int (-1 : Int32), .int (0 : Int32), ev_unk] [] h R)
  : Ev G (d + 6) k n M_X_clusters 0 [.ref 0, .int x1, .int x2, ev_unk, ev_unk, ev_unk, ev_unk, ev_unk, ev_unk] [] h R :=
  Ev.go (pc' := 2) (ls' := [.ref 0, .int x1, .int x2, ev_unk, ev_unk, ev_unk, ev_unk, ev_unk, ev_unk]) (st' := [.int x1, .ref 0]) [.aload_n 0, .iload_n 1] (by decide +kernel) rfl <|
  Ev.cV0 (M' := M_X_isRadius) (as := [.int x1]) (rest := []) l_X_192 M_X_isRadius_ok M_X_isRadius_in M_X_isRadius_se (by decide +kernel) r4 rfl rfl rfl (Nat.le_of_ble_eq_true rfl) (Nat.le_of_ble_eq_true rfl) (s_X_isRadius pr1 pr2 pr3 <| show Ev G (d + 6) _ _ M_X_clusters 5 [.ref 0, .int x1, .int x2, ev_unk, ev_unk, ev_unk, ev_unk, ev_unk, ev_unk] [.int (b2i (inR x1 (sB S1 + 1)))] h R from
    Ev.br (i := .ifCond .eq (11)) (P := (b2i (inR x1 (sB S1 + 1))) = (0 : Int32)) (t := 16) (f := 8) (r := []) (by decide +kernel) rfl (fun c1 =>
      Ev.go (pc' := 18) (ls' := [.ref 0, .int x1, .int x2, ev_unk, ev_unk, ev_unk, ev_unk, ev_unk, ev_unk]) (st' := [.int (1 : Int32), .ref 0]) [.aload_n 0, .iconst 1] (by decide +kernel) rfl <|
      Ev.cV0 (M' := M_X_refuse) (as := [.int (1 : Int32)]) (rest := []) l_X_67 M_X_refuse_ok M_X_refuse_in M_X_refuse_se (by decide +kernel) (r6 c1) rfl rfl rfl (Nat.le_of_ble_eq_true rfl) (Nat.le_of_ble_eq_true rfl) (s_X_refuse' (pr5 c1) <| show Ev G (d + 6) _ _ M_X_clusters 21 [.ref 0, .int x1, .int x2, ev_unk, ev_unk, ev_unk, ev_unk, ev_unk, ev_unk] [.int (-1 : Int32)] (xoS h (1 : Int32) fk6 fp7) R from
        Ev.ret (r := (some (.int (-1 : Int32)))) (Or.inl ⟨_, rfl, by decide +kernel, _, rfl, rfl⟩) (k1 c1)
      )
    ) (fun c1 =>
      Ev.go (pc' := 10) (ls' := [.ref 0, .int x1, .int x2, ev_unk, ev_unk, ev_unk, ev_unk, ev_unk, ev_unk]) (st' := [.int (3 : Int32), .int x2]) [.iload_n 2, .iconst 3] (by decide +kernel) rfl <|
      Ev.cS0 (M' := M_X_isBelow) (as := [.int x2, .int (3 : Int32)]) (rest := []) l_X_148 M_X_isBelow_ok M_X_isBelow_st (by decide +kernel) rfl rfl (Nat.le_of_ble_eq_true rfl) (Nat.le_of_ble_eq_true rfl) (s_X_isBelow <| show Ev G (d + 6) _ _ M_X_clusters 13 [.ref 0, .int x1, .int x2, ev_unk, ev_unk, ev_unk, ev_unk, ev_unk, ev_unk] [.int (b2i (decide (0 ≤ x2 ∧ x2 < (3 : Int32))))] h R from
        Ev.br (i := .ifCond .ne (9)) (P := (b2i (decide (0 ≤ x2 ∧ x2 < (3 : Int32)))) = (0 : Int32)) (t := 16) (f := 22) (r := []) (by decide +kernel) rfl (fun c2 =>
          Ev.go (pc' := 18) (ls' := [.ref 0, .int x1, .int x2, ev_unk, ev_unk, ev_unk, ev_unk, ev_unk, ev_unk]) (st' := [.int (1 : Int32), .ref 0]) [.aload_n 0, .iconst 1] (by decide +kernel) rfl <|
          Ev.cV0 (M' := M_X_refuse) (as := [.int (1 : Int32)]) (rest := []) l_X_67 M_X_refuse_ok M_X_refuse_in M_X_refuse_se (by decide +kernel) (r8 c1 c2) rfl rfl rfl (Nat.le_of_ble_eq_true rfl) (Nat.le_of_ble_eq_true rfl) (s_X_refuse' (pr7 c1 c2) <| show Ev G (d + 6) _ _ M_X_clusters 21 [.ref 0, .int x1, .int x2, ev_unk, ev_unk, ev_unk, ev_unk, ev_unk, ev_unk] [.int (-1 : Int32)] (xoS h (1 : Int32) fk9 fp10) R from
            Ev.ret (r := (some (.int (-1 : Int32)))) (Or.inl ⟨_, rfl, by decide +kernel, _, rfl, rfl⟩) (k2 c1 c2)
          )
        ) (fun c2 =>
          Ev.go (pc' := 23) (ls' := [.ref 0, .int x1, .int x2, ev_unk, ev_unk, ev_unk, ev_unk, ev_unk, ev_unk]) (st' := [.ref 0]) [.aload_n 0] (by decide +kernel) rfl <|
          Ev.getf f_X_10 (by decide +kernel) a9 rfl <|
          Ev.cV0 (M' := M_St_counting) (as := []) (rest := []) l_X_96 M_St_counting_ok M_St_counting_in M_St_counting_se (by decide +kernel) (r13 c1 c2) rfl rfl rfl (Nat.le_of_ble_eq_true rfl) (Nat.le_of_ble_eq_true rfl) (s_St_counting (pr10 c1 c2) (pr11 c1 c2) (pr12 c1 c2) <| show Ev G (d + 6) _ _ M_X_clusters 29 [.ref 0, .int x1, .int x2, ev_unk, ev_unk, ev_unk, ev_unk, ev_unk, ev_unk] [.int (setI (ctP S14))] h R from
            Ev.go (pc' := 42) (ls' := [.ref 0, .int x1, .int x2, .int (setI (ctP S14)), .int (0 : Int32), .int (0 : Int32), .int (-1 : Int32), .int (0 : Int32), ev_unk]) (st' := []) [.istore_n 3, .iconst 0, .istore 4, .iconst 0, .istore 5, .iconst (-1), .istore 6, .iconst 0, .istore 7] (by decide +kernel) rfl <|
            (k3 c1 c2)
          )
        )
      )
    )
  )
theorem b_X_clusters_42 {G : ev_G} {d k n : Nat} {h : ev_H} {R : Option Value → ev_H → Prop} {x1 : Int32} {x2 : Int32} {x3 : Int32} {x4 : Int32} {x5 : Int32} {x6 : Int32} {x7 : Int32} {S1 : AS} {la2 : Int32} {fk3 : Int32} {fp4 : Int32} {r_5 : Nat} {c_6 : Nat} {la7 : Int32} {fk8 : Int32} {fp9 : Int32} {la10 : Int32} {fk11 : Int32} {fp12 : Int32} {la13 : Int32} {fk14 : Int32} {fp15 : Int32} {la16 : Int32} {fk17 : Int32} {fp18 : Int32}
  (pr1 : x7 < (32 : Int32) → ¬ (b2i (inI x3 x7)) = (0 : Int32) → XO h la2 fk3 fp4)
  (pr2 : x7 < (32 : Int32) → ¬ (b2i (inI x3 x7)) = (0 : Int32) → StR h 1 S1)
  (pr3 : x7 < (32 : Int32) → ¬ (b2i (inI x3 x7)) = (0 : Int32) → sOk S1)
  (pr4 : x7 < (32 : Int32) → ¬ (b2i (inI x3 x7)) = (0 : Int32) → x7 = nI c_6 ∧ c_6 < sN S1)
  (pr5 : x7 < (32 : Int32) → ¬ (b2i (inI x3 x7)) = (0 : Int32) → x1 = nI r_5 ∧ r_5 < 2147483648)
  (r6 : x7 < (32 : Int32) → ¬ (b2i (inI x3 x7)) = (0 : Int32) → ∃ fs, hat h 0 (oC 8 fs))
  (pr7 : ¬ x7 < (32 : Int32) → x2 = (2 : Int32) → x6 = (-1 : Int32) → XO h la7 fk8 fp9)
  (r8 : ¬ x7 < (32 : Int32) → x2 = (2 : Int32) → x6 = (-1 : Int32) → ∃ fs, hat h 0 (oC 8 fs))
  (pr9 : ¬ x7 < (32 : Int32) → x2 = (2 : Int32) → ¬ x6 = (-1 : Int32) → XO h la10 fk11 fp12)
  (r10 : ¬ x7 < (32 : Int32) → x2 = (2 : Int32) → ¬ x6 = (-1 : Int32) → ∃ fs, hat h 0 (oC 8 fs))
  (pr11 : ¬ x7 < (32 : Int32) → ¬ x2 = (2 : Int32) → x2 = (0 : Int32) → XO h la13 fk14 fp15)
  (r12 : ¬ x7 < (32 : Int32) → ¬ x2 = (2 : Int32) → x2 = (0 : Int32) → ∃ fs, hat h 0 (oC 8 fs))
  (pr13 : ¬ x7 < (32 : Int32) → ¬ x2 = (2 : Int32) → ¬ x2 = (0 : Int32) → XO h la16 fk17 fp18)
  (r14 : ¬ x7 < (32 : Int32) → ¬ x2 = (2 : Int32) → ¬ x2 = (0 : Int32) → ∃ fs, hat h 0 (oC 8 fs))
  (k1 : x7 < (32 : Int32) → (b2i (inI x3 x7)) = (0 : Int32) → Ev G (d + 6) k n M_X_clusters 42 [.ref 0, .int x1, .int x2, .int x3, .int x4, .int x5, .int x6, .int (x7 + (1 : Int32)), ev_unk] [] h R)
  (k2 : x7 < (32 : Int32) → ¬ (b2i (inI x3 x7)) = (0 : Int32) → x5 < (nI (pop32 (cluI S1 x3 c_6 r_5))) → Ev G (d + 6) k n M_X_clusters 42 [.ref 0, .int x1, .int x2, .int (x3 &&& ((cluI S1 x3 c_6 r_5) ^^^ (-1 : Int32))), .int (x4 + (1 : Int32)), .int (nI (pop32 (cluI S1 x3 c_6 r_5))), .int x7, .int (x7 + (1 : Int32)), ev_unk] [] h R)
  (k3 : x7 < (32 : Int32) → ¬ (b2i (inI x3 x7)) = (0 : Int32) → ¬ x5 < (nI (pop32 (cluI S1 x3 c_6 r_5))) → Ev G (d + 6) k n M_X_clusters 42 [.ref 0, .int x1, .int x2, .int (x3 &&& ((cluI S1 x3 c_6 r_5) ^^^ (-1 : Int32))), .int (x4 + (1 : Int32)), .int x5, .int x6, .int (x7 + (1 : Int32)), ev_unk] [] h R)
  (k4 : ¬ x7 < (32 : Int32) → x2 = (2 : Int32) → x6 = (-1 : Int32) → R (some (.int (-1 : Int32))) (xoS h (5 : Int32) fk8 fp9))
  (k5 : ¬ x7 < (32 : Int32) → x2 = (2 : Int32) → ¬ x6 = (-1 : Int32) → R (some (.int x6)) (xoS h 0 fk11 fp12))
  (k6 : ¬ x7 < (32 : Int32) → ¬ x2 = (2 : Int32) → x2 = (0 : Int32) → R (some (.int x4)) (xoS h 0 fk14 fp15))
  (k7 : ¬ x7 < (32 : Int32) → ¬ x2 = (2 : Int32) → ¬ x2 = (0 : Int32) → R (some (.int x5)) (xoS h 0 fk17 fp18))
  : Ev G (d + 6) k n M_X_clusters 42 [.ref 0, .int x1, .int x2, .int x3, .int x4, .int x5, .int x6, .int x7, ev_unk] [] h R :=
  Ev.go (pc' := 46) (ls' := [.ref 0, .int x1, .int x2, .int x3, .int x4, .int x5, .int x6, .int x7, ev_unk]) (st' := [.int (32 : Int32), .int x7]) [.iload 7, .bipush (32)] (by decide +kernel) rfl <|
  Ev.br (i := .if_icmp .ge (59)) (P := x7 < (32 : Int32)) (t := 49) (f := 105) (r := []) (by decide +kernel) rfl (fun c1 =>
    Ev.go (pc' := 52) (ls' := [.ref 0, .int x1, .int x2, .int x3, .int x4, .int x5, .int x6, .int x7, ev_unk]) (st' := [.int x7, .int x3]) [.iload_n 3, .iload 7] (by decide +kernel) rfl <|
    Ev.cS0 (M' := M_X_isIn) (as := [.int x3, .int x7]) (rest := []) l_X_238 M_X_isIn_ok M_X_isIn_st (by decide +kernel) rfl rfl (Nat.le_of_ble_eq_true rfl) (Nat.le_of_ble_eq_true rfl) (s_X_isIn <| show Ev G (d + 6) _ _ M_X_clusters 55 [.ref 0, .int x1, .int x2, .int x3, .int x4, .int x5, .int x6, .int x7, ev_unk] [.int (b2i (inI x3 x7))] h R from
      Ev.br (i := .ifCond .eq (44)) (P := (b2i (inI x3 x7)) = (0 : Int32)) (t := 99) (f := 58) (r := []) (by decide +kernel) rfl (fun c2 =>
        Ev.go (pc' := 42) (ls' := [.ref 0, .int x1, .int x2, .int x3, .int x4, .int x5, .int x6, .int (x7 + (1 : Int32)), ev_unk]) (st' := []) [.iinc 7 (1), .goto (-60)] (by decide +kernel) rfl <|
        (k1 c1 c2)
      ) (fun c2 =>
        Ev.go (pc' := 63) (ls' := [.ref 0, .int x1, .int x2, .int x3, .int x4, .int x5, .int x6, .int x7, ev_unk]) (st' := [.int x1, .int x7, .int x3, .ref 0]) [.aload_n 0, .iload_n 3, .iload 7, .iload_n 1] (by decide +kernel) rfl <|
        Ev.cV0 (M' := M_X_clusterWith) (as := [.int x3, .int x7, .int x1]) (rest := []) l_X_254 M_X_clusterWith_ok M_X_clusterWith_in M_X_clusterWith_se (by decide +kernel) (r6 c1 c2) rfl rfl rfl (Nat.le_of_ble_eq_true rfl) (Nat.le_of_ble_eq_true rfl) (s_X_clusterWith (pr1 c1 c2) (pr2 c1 c2) (pr3 c1 c2) (pr4 c1 c2) (pr5 c1 c2) <| show Ev G (d + 6) _ _ M_X_clusters 66 [.ref 0, .int x1, .int x2, .int x3, .int x4, .int x5, .int x6, .int x7, ev_unk] [.int (cluI S1 x3 c_6 r_5)] h R from
          Ev.go (pc' := 80) (ls' := [.ref 0, .int x1, .int x2, .int (x3 &&& ((cluI S1 x3 c_6 r_5) ^^^ (-1 : Int32))), .int (x4 + (1 : Int32)), .int x5, .int x6, .int x7, .int (cluI S1 x3 c_6 r_5)]) (st' := [.int (cluI S1 x3 c_6 r_5)]) [.istore 8, .iload_n 3, .iload 8, .iconst (-1), .ixor, .iand, .istore_n 3, .iinc 4 (1), .iload 8] (by decide +kernel) rfl <|
          Ev.cS0 (M' := M_JI_bitCount) (as := [.int (cluI S1 x3 c_6 r_5)]) (rest := []) l_X_99 M_JI_bitCount_ok M_JI_bitCount_st (by decide +kernel) rfl rfl (Nat.le_of_ble_eq_true rfl) (Nat.le_of_ble_eq_true rfl) (s_JI_bitCount <| show Ev G (d + 6) _ _ M_X_clusters 83 [.ref 0, .int x1, .int x2, .int (x3 &&& ((cluI S1 x3 c_6 r_5) ^^^ (-1 : Int32))), .int (x4 + (1 : Int32)), .int x5, .int x6, .int x7, .int (cluI S1 x3 c_6 r_5)] [.int (nI (pop32 (cluI S1 x3 c_6 r_5)))] h R from
            Ev.go (pc' := 85) (ls' := [.ref 0, .int x1, .int x2, .int (x3 &&& ((cluI S1 x3 c_6 r_5) ^^^ (-1 : Int32))), .int (x4 + (1 : Int32)), .int x5, .int x6, .int x7, .int (cluI S1 x3 c_6 r_5)]) (st' := [.int x5, .int (nI (pop32 (cluI S1 x3 c_6 r_5)))]) [.iload 5] (by decide +kernel) rfl <|
            Ev.br (i := .if_icmp .le (14)) (P := x5 < (nI (pop32 (cluI S1 x3 c_6 r_5)))) (t := 88) (f := 99) (r := []) (by decide +kernel) rfl (fun c3 =>
              Ev.go (pc' := 90) (ls' := [.ref 0, .int x1, .int x2, .int (x3 &&& ((cluI S1 x3 c_6 r_5) ^^^ (-1 : Int32))), .int (x4 + (1 : Int32)), .int x5, .int x6, .int x7, .int (cluI S1 x3 c_6 r_5)]) (st' := [.int (cluI S1 x3 c_6 r_5)]) [.iload 8] (by decide +kernel) rfl <|
              Ev.cS0 (M' := M_JI_bitCount) (as := [.int (cluI S1 x3 c_6 r_5)]) (rest := []) l_X_99 M_JI_bitCount_ok M_JI_bitCount_st (by decide +kernel) rfl rfl (Nat.le_of_ble_eq_true rfl) (Nat.le_of_ble_eq_true rfl) (s_JI_bitCount <| show Ev G (d + 6) _ _ M_X_clusters 93 [.ref 0, .int x1, .int x2, .int (x3 &&& ((cluI S1 x3 c_6 r_5) ^^^ (-1 : Int32))), .int (x4 + (1 : Int32)), .int x5, .int x6, .int x7, .int (cluI S1 x3 c_6 r_5)] [.int (nI (pop32 (cluI S1 x3 c_6 r_5)))] h R from
                Ev.go (pc' := 42) (ls' := [.ref 0, .int x1, .int x2, .int (x3 &&& ((cluI S1 x3 c_6 r_5) ^^^ (-1 : Int32))), .int (x4 + (1 : Int32)), .int (nI (pop32 (cluI S1 x3 c_6 r_5))), .int x7, .int (x7 + (1 : Int32)), .int (cluI S1 x3 c_6 r_5)]) (st' := []) [.istore 5, .iload 7, .istore 6, .iinc 7 (1), .goto (-60)] (by decide +kernel) rfl <|
                Ev.forget (ls' := [.ref 0, .int x1, .int x2, .int (x3 &&& ((cluI S1 x3 c_6 r_5) ^^^ (-1 : Int32))), .int (x4 + (1 : Int32)), .int (nI (pop32 (cluI S1 x3 c_6 r_5))), .int x7, .int (x7 + (1 : Int32)), ev_unk]) ⟨Or.inr rfl, Or.inr rfl, Or.inr rfl, Or.inr rfl, Or.inr rfl, Or.inr rfl, Or.inr rfl, Or.inr rfl, Or.inl rfl, trivial⟩ <|
                (k2 c1 c2 c3)
              )
            ) (fun c3 =>
              Ev.go (pc' := 42) (ls' := [.ref 0, .int x1, .int x2, .int (x3 &&& ((cluI S1 x3 c_6 r_5) ^^^ (-1 : Int32))), .int (x4 + (1 : Int32)), .int x5, .int x6, .int (x7 + (1 : Int32)), .int (cluI S1 x3 c_6 r_5)]) (st' := []) [.iinc 7 (1), .goto (-60)] (by decide +kernel) rfl <|
              Ev.forget (ls' := [.ref 0, .int x1, .int x2, .int (x3 &&& ((cluI S1 x3 c_6 r_5) ^^^ (-1 : Int32))), .int (x4 + (1 : Int32)), .int x5, .int x6, .int (x7 + (1 : Int32)), ev_unk]) ⟨Or.inr rfl, Or.inr rfl, Or.inr rfl, Or.inr rfl, Or.inr rfl, Or.inr rfl, Or.inr rfl, Or.inr rfl, Or.inl rfl, trivial⟩ <|
              (k3 c1 c2 c3)
            )
          )
        )
      )
    )
  ) (fun c1 =>
    Ev.go (pc' := 107) (ls' := [.ref 0, .int x1, .int x2, .int x3, .int x4, .int x5, .int x6, .int x7, ev_unk]) (st' := [.int (2 : Int32), .int x2]) [.iload_n 2, .iconst 2] (by decide +kernel) rfl <|
    Ev.br (i := .if_icmp .ne (24)) (P := x2 = (2 : Int32)) (t := 110) (f := 131) (r := []) (by decide +kernel) rfl (fun c2 =>
      Ev.go (pc' := 113) (ls' := [.ref 0, .int x1, .int x2, .int x3, .int x4, .int x5, .int x6, .int x7, ev_unk]) (st' := [.int (-1 : Int32), .int x6]) [.iload 6, .iconst (-1)] (by decide +kernel) rfl <|
      Ev.br (i := .if_icmp .ne (11)) (P := x6 = (-1 : Int32)) (t := 116) (f := 124) (r := []) (by decide +kernel) rfl (fun c3 =>
        Ev.go (pc' := 118) (ls' := [.ref 0, .int x1, .int x2, .int x3, .int x4, .int x5, .int x6, .int x7, ev_unk]) (st' := [.int (5 : Int32), .ref 0]) [.aload_n 0, .iconst 5] (by decide +kernel) rfl <|
        Ev.cV0 (M' := M_X_refuse) (as := [.int (5 : Int32)]) (rest := []) l_X_67 M_X_refuse_ok M_X_refuse_in M_X_refuse_se (by decide +kernel) (r8 c1 c2 c3) rfl rfl rfl (Nat.le_of_ble_eq_true rfl) (Nat.le_of_ble_eq_true rfl) (s_X_refuse' (pr7 c1 c2 c3) <| show Ev G (d + 6) _ _ M_X_clusters 121 [.ref 0, .int x1, .int x2, .int x3, .int x4, .int x5, .int x6, .int x7, ev_unk] [.int (-1 : Int32)] (xoS h (5 : Int32) fk8 fp9) R from
          Ev.go (pc' := 130) (ls' := [.ref 0, .int x1, .int x2, .int x3, .int x4, .int x5, .int x6, .int x7, ev_unk]) (st' := [.int (-1 : Int32)]) [.goto (9)] (by decide +kernel) rfl <|
          Ev.ret (r := (some (.int (-1 : Int32)))) (Or.inl ⟨_, rfl, by decide +kernel, _, rfl, rfl⟩) (k4 c1 c2 c3)
        )
      ) (fun c3 =>
        Ev.go (pc' := 127) (ls' := [.ref 0, .int x1, .int x2, .int x3, .int x4, .int x5, .int x6, .int x7, ev_unk]) (st' := [.int x6, .ref 0]) [.aload_n 0, .iload 6] (by decide +kernel) rfl <|
        Ev.cV0 (M' := M_X_answer) (as := [.int x6]) (rest := []) l_X_87 M_X_answer_ok M_X_answer_in M_X_answer_se (by decide +kernel) (r10 c1 c2 c3) rfl rfl rfl (Nat.le_of_ble_eq_true rfl) (Nat.le_of_ble_eq_true rfl) (s_X_answer' (pr9 c1 c2 c3) <| show Ev G (d + 6) _ _ M_X_clusters 130 [.ref 0, .int x1, .int x2, .int x3, .int x4, .int x5, .int x6, .int x7, ev_unk] [.int x6] (xoS h 0 fk11 fp12) R from
          Ev.ret (r := (some (.int x6))) (Or.inl ⟨_, rfl, by decide +kernel, _, rfl, rfl⟩) (k5 c1 c2 c3)
        )
      )
    ) (fun c2 =>
      Ev.go (pc' := 133) (ls' := [.ref 0, .int x1, .int x2, .int x3, .int x4, .int x5, .int x6, .int x7, ev_unk]) (st' := [.int x2, .ref 0]) [.aload_n 0, .iload_n 2] (by decide +kernel) rfl <|
      Ev.br (i := .ifCond .ne (8)) (P := x2 = (0 : Int32)) (t := 136) (f := 141) (r := [.ref 0]) (by decide +kernel) rfl (fun c3 =>
        Ev.go (pc' := 143) (ls' := [.ref 0, .int x1, .int x2, .int x3, .int x4, .int x5, .int x6, .int x7, ev_unk]) (st' := [.int x4, .ref 0]) [.iload 4, .goto (5)] (by decide +kernel) rfl <|
        Ev.cV0 (M' := M_X_answer) (as := [.int x4]) (rest := []) l_X_87 M_X_answer_ok M_X_answer_in M_X_answer_se (by decide +kernel) (r12 c1 c2 c3) rfl rfl rfl (Nat.le_of_ble_eq_true rfl) (Nat.le_of_ble_eq_true rfl) (s_X_answer' (pr11 c1 c2 c3) <| show Ev G (d + 6) _ _ M_X_clusters 146 [.ref 0, .int x1, .int x2, .int x3, .int x4, .int x5, .int x6, .int x7, ev_unk] [.int x4] (xoS h 0 fk14 fp15) R from
          Ev.ret (r := (some (.int x4))) (Or.inl ⟨_, rfl, by decide +kernel, _, rfl, rfl⟩) (k6 c1 c2 c3)
        )
      ) (fun c3 =>
        Ev.go (pc' := 143) (ls' := [.ref 0, .int x1, .int x2, .int x3, .int x4, .int x5, .int x6, .int x7, ev_unk]) (st' := [.int x5, .ref 0]) [.iload 5] (by decide +kernel) rfl <|
        Ev.cV0 (M' := M_X_answer) (as := [.int x5]) (rest := []) l_X_87 M_X_answer_ok M_X_answer_in M_X_answer_se (by decide +kernel) (r14 c1 c2 c3) rfl rfl rfl (Nat.le_of_ble_eq_true rfl) (Nat.le_of_ble_eq_true rfl) (s_X_answer' (pr13 c1 c2 c3) <| show Ev G (d + 6) _ _ M_X_clusters 146 [.ref 0, .int x1, .int x2, .int x3, .int x4, .int x5, .int x6, .int x7, ev_unk] [.int x5] (xoS h 0 fk17 fp18) R from
          Ev.ret (r := (some (.int x5))) (Or.inl ⟨_, rfl, by decide +kernel, _, rfl, rfl⟩) (k7 c1 c2 c3)
        )
      )
    )
  )
theorem b_X_cluster_0 {G : ev_G} {d k n : Nat} {h : ev_H} {R : Option Value → ev_H → Prop} {x1 : Int32} {x2 : Int32} {x3 : Int32} {S1 : AS} {la2 : Int32} {fk3 : Int32} {fp4 : Int32} {la5 : Int32} {fk6 : Int32} {fp7 : Int32} {la8 : Int32} {fk9 : Int32} {fp10 : Int32} {S11 : AS} {la12 : Int32} {fk13 : Int32} {fp14 : Int32} {la15 : Int32} {fk16 : Int32} {fp17 : Int32} {f_latest_18 : Int32} {f_faultKind_19 : Int32} {f_faultPlace_20 : Int32} {S21 : AS} {la22 : Int32} {fk23 : Int32} {fp24 : Int32} {S25 : AS} {la26 : Int32} {fk27 : Int32} {fp28 : Int32} {r_29 : Nat} {c_30 : Nat} {la31 : Int32} {fk32 : Int32} {fp33 : Int32} {la34 : Int32} {fk35 : Int32} {fp36 : Int32} {S37 : AS} {la38 : Int32} {fk39 : Int32} {fp40 : Int32} {la41 : Int32} {fk42 : Int32} {fp43 : Int32}
  (a15 : hat h 0 (oC 8 [.ref 1, .ref 5, .ref 18, .ref 81, .ref 98, .int f_latest_18, .int f_faultKind_19, .int f_faultPlace_20]))
  (pr1 : XO h la2 fk3 fp4)
  (pr2 : StR h 1 S1)
  (pr3 : sOk S1)
  (r4 : ∃ fs, hat h 0 (oC 8 fs))
  (pr5 : (b2i (inR x2 (sB S1 + 1))) = (0 : Int32) → XO h la5 fk6 fp7)
  (r6 : (b2i (inR x2 (sB S1 + 1))) = (0 : Int32) → ∃ fs, hat h 0 (oC 8 fs))
  (pr7 : ¬ (b2i (inR x2 (sB S1 + 1))) = (0 : Int32) → (b2i (decide (0 ≤ x3 ∧ x3 < (3 : Int32)))) = (0 : Int32) → XO h la8 fk9 fp10)
  (r8 : ¬ (b2i (inR x2 (sB S1 + 1))) = (0 : Int32) → (b2i (decide (0 ≤ x3 ∧ x3 < (3 : Int32)))) = (0 : Int32) → ∃ fs, hat h 0 (oC 8 fs))
  (pr9 : ¬ (b2i (inR x2 (sB S1 + 1))) = (0 : Int32) → ¬ (b2i (decide (0 ≤ x3 ∧ x3 < (3 : Int32)))) = (0 : Int32) → XO h la12 fk13 fp14)
  (pr10 : ¬ (b2i (inR x2 (sB S1 + 1))) = (0 : Int32) → ¬ (b2i (decide (0 ≤ x3 ∧ x3 < (3 : Int32)))) = (0 : Int32) → StR h 1 S11)
  (pr11 : ¬ (b2i (inR x2 (sB S1 + 1))) = (0 : Int32) → ¬ (b2i (decide (0 ≤ x3 ∧ x3 < (3 : Int32)))) = (0 : Int32) → sOk S11)
  (r12 : ¬ (b2i (inR x2 (sB S1 + 1))) = (0 : Int32) → ¬ (b2i (decide (0 ≤ x3 ∧ x3 < (3 : Int32)))) = (0 : Int32) → ∃ fs, hat h 0 (oC 8 fs))
  (pr13 : ¬ (b2i (inR x2 (sB S1 + 1))) = (0 : Int32) → ¬ (b2i (decide (0 ≤ x3 ∧ x3 < (3 : Int32)))) = (0 : Int32) → (b2i (inR x1 (sN S11))) = (0 : Int32) → XO h la15 fk16 fp17)
  (r14 : ¬ (b2i (inR x2 (sB S1 + 1))) = (0 : Int32) → ¬ (b2i (decide (0 ≤ x3 ∧ x3 < (3 : Int32)))) = (0 : Int32) → (b2i (inR x1 (sN S11))) = (0 : Int32) → ∃ fs, hat h 0 (oC 8 fs))
  (pr16 : ¬ (b2i (inR x2 (sB S1 + 1))) = (0 : Int32) → ¬ (b2i (decide (0 ≤ x3 ∧ x3 < (3 : Int32)))) = (0 : Int32) → ¬ (b2i (inR x1 (sN S11))) = (0 : Int32) → StR h 1 S21)
  (pr17 : ¬ (b2i (inR x2 (sB S1 + 1))) = (0 : Int32) → ¬ (b2i (decide (0 ≤ x3 ∧ x3 < (3 : Int32)))) = (0 : Int32) → ¬ (b2i (inR x1 (sN S11))) = (0 : Int32) → sOk S21)
  (pr18 : ¬ (b2i (inR x2 (sB S1 + 1))) = (0 : Int32) → ¬ (b2i (decide (0 ≤ x3 ∧ x3 < (3 : Int32)))) = (0 : Int32) → ¬ (b2i (inR x1 (sN S11))) = (0 : Int32) → sFl S21 = [] ∨ flOk (sFl S21))
  (r19 : ¬ (b2i (inR x2 (sB S1 + 1))) = (0 : Int32) → ¬ (b2i (decide (0 ≤ x3 ∧ x3 < (3 : Int32)))) = (0 : Int32) → ¬ (b2i (inR x1 (sN S11))) = (0 : Int32) → ∃ fs, hat h 1 (oC 6 fs))
  (pr20 : ¬ (b2i (inR x2 (sB S1 + 1))) = (0 : Int32) → ¬ (b2i (decide (0 ≤ x3 ∧ x3 < (3 : Int32)))) = (0 : Int32) → ¬ (b2i (inR x1 (sN S11))) = (0 : Int32) → (b2i (inI (setI (ctP S21)) x1)) = (0 : Int32) → XO h la22 fk23 fp24)
  (pr21 : ¬ (b2i (inR x2 (sB S1 + 1))) = (0 : Int32) → ¬ (b2i (decide (0 ≤ x3 ∧ x3 < (3 : Int32)))) = (0 : Int32) → ¬ (b2i (inR x1 (sN S11))) = (0 : Int32) → ¬ (b2i (inI (setI (ctP S21)) x1)) = (0 : Int32) → XO h la26 fk27 fp28)
  (pr22 : ¬ (b2i (inR x2 (sB S1 + 1))) = (0 : Int32) → ¬ (b2i (decide (0 ≤ x3 ∧ x3 < (3 : Int32)))) = (0 : Int32) → ¬ (b2i (inR x1 (sN S11))) = (0 : Int32) → ¬ (b2i (inI (setI (ctP S21)) x1)) = (0 : Int32) → StR h 1 S25)
  (pr23 : ¬ (b2i (inR x2 (sB S1 + 1))) = (0 : Int32) → ¬ (b2i (decide (0 ≤ x3 ∧ x3 < (3 : Int32)))) = (0 : Int32) → ¬ (b2i (inR x1 (sN S11))) = (0 : Int32) → ¬ (b2i (inI (setI (ctP S21)) x1)) = (0 : Int32) → sOk S25)
  (pr24 : ¬ (b2i (inR x2 (sB S1 + 1))) = (0 : Int32) → ¬ (b2i (decide (0 ≤ x3 ∧ x3 < (3 : Int32)))) = (0 : Int32) → ¬ (b2i (inR x1 (sN S11))) = (0 : Int32) → ¬ (b2i (inI (setI (ctP S21)) x1)) = (0 : Int32) → x1 = nI c_30 ∧ c_30 < sN S25)
  (pr25 : ¬ (b2i (inR x2 (sB S1 + 1))) = (0 : Int32) → ¬ (b2i (decide (0 ≤ x3 ∧ x3 < (3 : Int32)))) = (0 : Int32) → ¬ (b2i (inR x1 (sN S11))) = (0 : Int32) → ¬ (b2i (inI (setI (ctP S21)) x1)) = (0 : Int32) → x2 = nI r_29 ∧ r_29 < 2147483648)
  (pr26 : ¬ (b2i (inR x2 (sB S1 + 1))) = (0 : Int32) → ¬ (b2i (decide (0 ≤ x3 ∧ x3 < (3 : Int32)))) = (0 : Int32) → ¬ (b2i (inR x1 (sN S11))) = (0 : Int32) → ¬ (b2i (inI (setI (ctP S21)) x1)) = (0 : Int32) → x3 = (1 : Int32) → XO h la31 fk32 fp33)
  (pr27 : ¬ (b2i (inR x2 (sB S1 + 1))) = (0 : Int32) → ¬ (b2i (decide (0 ≤ x3 ∧ x3 < (3 : Int32)))) = (0 : Int32) → ¬ (b2i (inR x1 (sN S11))) = (0 : Int32) → ¬ (b2i (inI (setI (ctP S21)) x1)) = (0 : Int32) → ¬ x3 = (1 : Int32) → x3 = (0 : Int32) → XO h la34 fk35 fp36)
  (pr28 : ¬ (b2i (inR x2 (sB S1 + 1))) = (0 : Int32) → ¬ (b2i (decide (0 ≤ x3 ∧ x3 < (3 : Int32)))) = (0 : Int32) → ¬ (b2i (inR x1 (sN S11))) = (0 : Int32) → ¬ (b2i (inI (setI (ctP S21)) x1)) = (0 : Int32) → ¬ x3 = (1 : Int32) → ¬ x3 = (0 : Int32) → XO h la38 fk39 fp40)
  (pr29 : ¬ (b2i (inR x2 (sB S1 + 1))) = (0 : Int32) → ¬ (b2i (decide (0 ≤ x3 ∧ x3 < (3 : Int32)))) = (0 : Int32) → ¬ (b2i (inR x1 (sN S11))) = (0 : Int32) → ¬ (b2i (inI (setI (ctP S21)) x1)) = (0 : Int32) → ¬ x3 = (1 : Int32) → ¬ x3 = (0 : Int32) → StR h 1 S37)
  (pr30 : ¬ (b2i (inR x2 (sB S1 + 1))) = (0 : Int32) → ¬ (b2i (decide (0 ≤ x3 ∧ x3 < (3 : Int32)))) = (0 : Int32) → ¬ (b2i (inR x1 (sN S11))) = (0 : Int32) → ¬ (b2i (inI (setI (ctP S21)) x1)) = (0 : Int32) → ¬ x3 = (1 : Int32) → ¬ x3 = (0 : Int32) → sOk S37)
  (pr31 : ¬ (b2i (inR x2 (sB S1 + 1))) = (0 : Int32) → ¬ (b2i (decide (0 ≤ x3 ∧ x3 < (3 : Int32)))) = (0 : Int32) → ¬ (b2i (inR x1 (sN S11))) = (0 : Int32) → ¬ (b2i (inI (setI (ctP S21)) x1)) = (0 : Int32) → ¬ x3 = (1 : Int32) → ¬ x3 = (0 : Int32) → ∀ j, bt (cluI S25 (setI (ctP S21)) c_30 r_29) j = true → j < sN S37)
  (pr32 : ¬ (b2i (inR x2 (sB S1 + 1))) = (0 : Int32) → ¬ (b2i (decide (0 ≤ x3 ∧ x3 < (3 : Int32)))) = (0 : Int32) → ¬ (b2i (inR x1 (sN S11))) = (0 : Int32) → ¬ (b2i (inI (setI (ctP S21)) x1)) = (0 : Int32) → ¬ x3 = (1 : Int32) → ¬ x3 = (0 : Int32) → XO h la41 fk42 fp43)
  (k1 : (b2i (inR x2 (sB S1 + 1))) = (0 : Int32) → R (some (.int (-1 : Int32))) (xoS h (1 : Int32) fk6 fp7))
  (k2 : ¬ (b2i (inR x2 (sB S1 + 1))) = (0 : Int32) → (b2i (decide (0 ≤ x3 ∧ x3 < (3 : Int32)))) = (0 : Int32) → R (some (.int (-1 : Int32))) (xoS h (1 : Int32) fk9 fp10))
  (k3 : ¬ (b2i (inR x2 (sB S1 + 1))) = (0 : Int32) → ¬ (b2i (decide (0 ≤ x3 ∧ x3 < (3 : Int32)))) = (0 : Int32) → (b2i (inR x1 (sN S11))) = (0 : Int32) → R (some (.int (-1 : Int32))) (xoS h (2 : Int32) fk16 fp17))
  (k4 : ¬ (b2i (inR x2 (sB S1 + 1))) = (0 : Int32) → ¬ (b2i (decide (0 ≤ x3 ∧ x3 < (3 : Int32)))) = (0 : Int32) → ¬ (b2i (inR x1 (sN S11))) = (0 : Int32) → (b2i (inI (setI (ctP S21)) x1)) = (0 : Int32) → R (some (.int (-1 : Int32))) (xoS h (6 : Int32) fk23 fp24))
  (k5 : ¬ (b2i (inR x2 (sB S1 + 1))) = (0 : Int32) → ¬ (b2i (decide (0 ≤ x3 ∧ x3 < (3 : Int32)))) = (0 : Int32) → ¬ (b2i (inR x1 (sN S11))) = (0 : Int32) → ¬ (b2i (inI (setI (ctP S21)) x1)) = (0 : Int32) → x3 = (1 : Int32) → R (some (.int (nI (pop32 (cluI S25 (setI (ctP S21)) c_30 r_29))))) (xoS h 0 fk32 fp33))
  (k6 : ¬ (b2i (inR x2 (sB S1 + 1))) = (0 : Int32) → ¬ (b2i (decide (0 ≤ x3 ∧ x3 < (3 : Int32)))) = (0 : Int32) → ¬ (b2i (inR x1 (sN S11))) = (0 : Int32) → ¬ (b2i (inI (setI (ctP S21)) x1)) = (0 : Int32) → ¬ x3 = (1 : Int32) → x3 = (0 : Int32) → R (some (.int (frI (bt (cluI S25 (setI (ctP S21)) c_30 r_29)) 32))) (xoS h 0 fk35 fp36))
  (k7 : ¬ (b2i (inR x2 (sB S1 + 1))) = (0 : Int32) → ¬ (b2i (decide (0 ≤ x3 ∧ x3 < (3 : Int32)))) = (0 : Int32) → ¬ (b2i (inR x1 (sN S11))) = (0 : Int32) → ¬ (b2i (inI (setI (ctP S21)) x1)) = (0 : Int32) → ¬ x3 = (1 : Int32) → ¬ x3 = (0 : Int32) → R (some (.int (oIx (mid S37 (bt (cluI S25 (setI (ctP S21)) c_30 r_29)))))) (xoS h 0 fk42 fp43))
  : Ev G (d + 6) k n M_X_cluster 0 [.ref 0, .int x1, .int x2, .int x3, ev_unk, ev_unk] [] h R :=
  Ev.go (pc' := 2) (ls' := [.ref 0, .int x1, .int x2, .int x3, ev_unk, ev_unk]) (st' := [.int x2, .ref 0]) [.aload_n 0, .iload_n 2] (by decide +kernel) rfl <|
  Ev.cV0 (M' := M_X_isRadius) (as := [.int x2]) (rest := []) l_X_192 M_X_isRadius_ok M_X_isRadius_in M_X_isRadius_se (by decide +kernel) r4 rfl rfl rfl (Nat.le_of_ble_eq_true rfl) (Nat.le_of_ble_eq_true rfl) (s_X_isRadius pr1 pr2 pr3 <| show Ev G (d + 6) _ _ M_X_cluster 5 [.ref 0, .int x1, .int x2, .int x3, ev_unk, ev_unk] [.int (b2i (inR x2 (sB S1 + 1)))] h R from
    Ev.br (i := .ifCond .eq (11)) (P := (b2i (inR x2 (sB S1 + 1))) = (0 : Int32)) (t := 16) (f := 8) (r := []) (by decide +kernel) rfl (fun c1 =>
      Ev.go (pc' := 18) (ls' := [.ref 0, .int x1, .int x2, .int x3, ev_unk, ev_unk]) (st' := [.int (1 : Int32), .ref 0]) [.aload_n 0, .iconst 1] (by decide +kernel) rfl <|
      Ev.cV0 (M' := M_X_refuse) (as := [.int (1 : Int32)]) (rest := []) l_X_67 M_X_refuse_ok M_X_refuse_in M_X_refuse_se (by decide +kernel) (r6 c1) rfl rfl rfl (Nat.le_of_ble_eq_true rfl) (Nat.le_of_ble_eq_true rfl) (s_X_refuse' (pr5 c1) <| show Ev G (d + 6) _ _ M_X_cluster 21 [.ref 0, .int x1, .int x2, .int x3, ev_unk, ev_unk] [.int (-1 : Int32)] (xoS h (1 : Int32) fk6 fp7) R from
        Ev.ret (r := (some (.int (-1 : Int32)))) (Or.inl ⟨_, rfl, by decide +kernel, _, rfl, rfl⟩) (k1 c1)
      )
    ) (fun c1 =>
      Ev.go (pc' := 10) (ls' := [.ref 0, .int x1, .int x2, .int x3, ev_unk, ev_unk]) (st' := [.int (3 : Int32), .int x3]) [.iload_n 3, .iconst 3] (by decide +kernel) rfl <|
      Ev.cS0 (M' := M_X_isBelow) (as := [.int x3, .int (3 : Int32)]) (rest := []) l_X_148 M_X_isBelow_ok M_X_isBelow_st (by decide +kernel) rfl rfl (Nat.le_of_ble_eq_true rfl) (Nat.le_of_ble_eq_true rfl) (s_X_isBelow <| show Ev G (d + 6) _ _ M_X_cluster 13 [.ref 0, .int x1, .int x2, .int x3, ev_unk, ev_unk] [.int (b2i (decide (0 ≤ x3 ∧ x3 < (3 : Int32))))] h R from
        Ev.br (i := .ifCond .ne (9)) (P := (b2i (decide (0 ≤ x3 ∧ x3 < (3 : Int32)))) = (0 : Int32)) (t := 16) (f := 22) (r := []) (by decide +kernel) rfl (fun c2 =>
          Ev.go (pc' := 18) (ls' := [.ref 0, .int x1, .int x2, .int x3, ev_unk, ev_unk]) (st' := [.int (1 : Int32), .ref 0]) [.aload_n 0, .iconst 1] (by decide +kernel) rfl <|
          Ev.cV0 (M' := M_X_refuse) (as := [.int (1 : Int32)]) (rest := []) l_X_67 M_X_refuse_ok M_X_refuse_in M_X_refuse_se (by decide +kernel) (r8 c1 c2) rfl rfl rfl (Nat.le_of_ble_eq_true rfl) (Nat.le_of_ble_eq_true rfl) (s_X_refuse' (pr7 c1 c2) <| show Ev G (d + 6) _ _ M_X_cluster 21 [.ref 0, .int x1, .int x2, .int x3, ev_unk, ev_unk] [.int (-1 : Int32)] (xoS h (1 : Int32) fk9 fp10) R from
            Ev.ret (r := (some (.int (-1 : Int32)))) (Or.inl ⟨_, rfl, by decide +kernel, _, rfl, rfl⟩) (k2 c1 c2)
          )
        ) (fun c2 =>
          Ev.go (pc' := 24) (ls' := [.ref 0, .int x1, .int x2, .int x3, ev_unk, ev_unk]) (st' := [.int x1, .ref 0]) [.aload_n 0, .iload_n 1] (by decide +kernel) rfl <|
          Ev.cV0 (M' := M_X_isCode) (as := [.int x1]) (rest := []) l_X_114 M_X_isCode_ok M_X_isCode_in M_X_isCode_se (by decide +kernel) (r12 c1 c2) rfl rfl rfl (Nat.le_of_ble_eq_true rfl) (Nat.le_of_ble_eq_true rfl) (s_X_isCode (pr9 c1 c2) (pr10 c1 c2) (pr11 c1 c2) <| show Ev G (d + 6) _ _ M_X_cluster 27 [.ref 0, .int x1, .int x2, .int x3, ev_unk, ev_unk] [.int (b2i (inR x1 (sN S11)))] h R from
            Ev.br (i := .ifCond .ne (9)) (P := (b2i (inR x1 (sN S11))) = (0 : Int32)) (t := 30) (f := 36) (r := []) (by decide +kernel) rfl (fun c3 =>
              Ev.go (pc' := 32) (ls' := [.ref 0, .int x1, .int x2, .int x3, ev_unk, ev_unk]) (st' := [.int (2 : Int32), .ref 0]) [.aload_n 0, .iconst 2] (by decide +kernel) rfl <|
              Ev.cV0 (M' := M_X_refuse) (as := [.int (2 : Int32)]) (rest := []) l_X_67 M_X_refuse_ok M_X_refuse_in M_X_refuse_se (by decide +kernel) (r14 c1 c2 c3) rfl rfl rfl (Nat.le_of_ble_eq_true rfl) (Nat.le_of_ble_eq_true rfl) (s_X_refuse' (pr13 c1 c2 c3) <| show Ev G (d + 6) _ _ M_X_cluster 35 [.ref 0, .int x1, .int x2, .int x3, ev_unk, ev_unk] [.int (-1 : Int32)] (xoS h (2 : Int32) fk16 fp17) R from
                Ev.ret (r := (some (.int (-1 : Int32)))) (Or.inl ⟨_, rfl, by decide +kernel, _, rfl, rfl⟩) (k3 c1 c2 c3)
              )
            ) (fun c3 =>
              Ev.go (pc' := 37) (ls' := [.ref 0, .int x1, .int x2, .int x3, ev_unk, ev_unk]) (st' := [.ref 0]) [.aload_n 0] (by decide +kernel) rfl <|
              Ev.getf f_X_10 (by decide +kernel) a15 rfl <|
              Ev.cV0 (M' := M_St_counting) (as := []) (rest := []) l_X_96 M_St_counting_ok M_St_counting_in M_St_counting_se (by decide +kernel) (r19 c1 c2 c3) rfl rfl rfl (Nat.le_of_ble_eq_true rfl) (Nat.le_of_ble_eq_true rfl) (s_St_counting (pr16 c1 c2 c3) (pr17 c1 c2 c3) (pr18 c1 c2 c3) <| show Ev G (d + 6) _ _ M_X_cluster 43 [.ref 0, .int x1, .int x2, .int x3, ev_unk, ev_unk] [.int (setI (ctP S21))] h R from
                Ev.go (pc' := 48) (ls' := [.ref 0, .int x1, .int x2, .int x3, .int (setI (ctP S21)), ev_unk]) (st' := [.int x1, .int (setI (ctP S21))]) [.istore 4, .iload 4, .iload_n 1] (by decide +kernel) rfl <|
                Ev.cS0 (M' := M_X_isIn) (as := [.int (setI (ctP S21)), .int x1]) (rest := []) l_X_238 M_X_isIn_ok M_X_isIn_st (by decide +kernel) rfl rfl (Nat.le_of_ble_eq_true rfl) (Nat.le_of_ble_eq_true rfl) (s_X_isIn <| show Ev G (d + 6) _ _ M_X_cluster 51 [.ref 0, .int x1, .int x2, .int x3, .int (setI (ctP S21)), ev_unk] [.int (b2i (inI (setI (ctP S21)) x1))] h R from
                  Ev.br (i := .ifCond .ne (10)) (P := (b2i (inI (setI (ctP S21)) x1)) = (0 : Int32)) (t := 54) (f := 61) (r := []) (by decide +kernel) rfl (fun c4 =>
                    Ev.go (pc' := 57) (ls' := [.ref 0, .int x1, .int x2, .int x3, .int (setI (ctP S21)), ev_unk]) (st' := [.int (6 : Int32), .ref 0]) [.aload_n 0, .bipush (6)] (by decide +kernel) rfl <|
                    Ev.cV0 (M' := M_X_refuse) (as := [.int (6 : Int32)]) (rest := []) l_X_67 M_X_refuse_ok M_X_refuse_in M_X_refuse_se (by decide +kernel) ⟨_, a15⟩ rfl rfl rfl (Nat.le_of_ble_eq_true rfl) (Nat.le_of_ble_eq_true rfl) (s_X_refuse' (pr20 c1 c2 c3 c4) <| show Ev G (d + 6) _ _ M_X_cluster 60 [.ref 0, .int x1, .int x2, .int x3, .int (setI (ctP S21)), ev_unk] [.int (-1 : Int32)] (xoS h (6 : Int32) fk23 fp24) R from
                      Ev.ret (r := (some (.int (-1 : Int32)))) (Or.inl ⟨_, rfl, by decide +kernel, _, rfl, rfl⟩) (k4 c1 c2 c3 c4)
                    )
                  ) (fun c4 =>
                    Ev.go (pc' := 66) (ls' := [.ref 0, .int x1, .int x2, .int x3, .int (setI (ctP S21)), ev_unk]) (st' := [.int x2, .int x1, .int (setI (ctP S21)), .ref 0]) [.aload_n 0, .iload 4, .iload_n 1, .iload_n 2] (by decide +kernel) rfl <|
                    Ev.cV0 (M' := M_X_clusterWith) (as := [.int (setI (ctP S21)), .int x1, .int x2]) (rest := []) l_X_254 M_X_clusterWith_ok M_X_clusterWith_in M_X_clusterWith_se (by decide +kernel) ⟨_, a15⟩ rfl rfl rfl (Nat.le_of_ble_eq_true rfl) (Nat.le_of_ble_eq_true rfl) (s_X_clusterWith (pr21 c1 c2 c3 c4) (pr22 c1 c2 c3 c4) (pr23 c1 c2 c3 c4) (pr24 c1 c2 c3 c4) (pr25 c1 c2 c3 c4) <| show Ev G (d + 6) _ _ M_X_cluster 69 [.ref 0, .int x1, .int x2, .int x3, .int (setI (ctP S21)), ev_unk] [.int (cluI S25 (setI (ctP S21)) c_30 r_29)] h R from
                      Ev.go (pc' := 73) (ls' := [.ref 0, .int x1, .int x2, .int x3, .int (setI (ctP S21)), .int (cluI S25 (setI (ctP S21)) c_30 r_29)]) (st' := [.int (1 : Int32), .int x3]) [.istore 5, .iload_n 3, .iconst 1] (by decide +kernel) rfl <|
                      Ev.br (i := .if_icmp .ne (13)) (P := x3 = (1 : Int32)) (t := 76) (f := 86) (r := []) (by decide +kernel) rfl (fun c5 =>
                        Ev.go (pc' := 79) (ls' := [.ref 0, .int x1, .int x2, .int x3, .int (setI (ctP S21)), .int (cluI S25 (setI (ctP S21)) c_30 r_29)]) (st' := [.int (cluI S25 (setI (ctP S21)) c_30 r_29), .ref 0]) [.aload_n 0, .iload 5] (by decide +kernel) rfl <|
                        Ev.cS0 (M' := M_JI_bitCount) (as := [.int (cluI S25 (setI (ctP S21)) c_30 r_29)]) (rest := [.ref 0]) l_X_99 M_JI_bitCount_ok M_JI_bitCount_st (by decide +kernel) rfl rfl (Nat.le_of_ble_eq_true rfl) (Nat.le_of_ble_eq_true rfl) (s_JI_bitCount <| show Ev G (d + 6) _ _ M_X_cluster 82 [.ref 0, .int x1, .int x2, .int x3, .int (setI (ctP S21)), .int (cluI S25 (setI (ctP S21)) c_30 r_29)] [.int (nI (pop32 (cluI S25 (setI (ctP S21)) c_30 r_29))), .ref 0] h R from
                          Ev.cV0 (M' := M_X_answer) (as := [.int (nI (pop32 (cluI S25 (setI (ctP S21)) c_30 r_29)))]) (rest := []) l_X_87 M_X_answer_ok M_X_answer_in M_X_answer_se (by decide +kernel) ⟨_, a15⟩ rfl rfl rfl (Nat.le_of_ble_eq_true rfl) (Nat.le_of_ble_eq_true rfl) (s_X_answer' (pr26 c1 c2 c3 c4 c5) <| show Ev G (d + 6) _ _ M_X_cluster 85 [.ref 0, .int x1, .int x2, .int x3, .int (setI (ctP S21)), .int (cluI S25 (setI (ctP S21)) c_30 r_29)] [.int (nI (pop32 (cluI S25 (setI (ctP S21)) c_30 r_29)))] (xoS h 0 fk32 fp33) R from
                            Ev.ret (r := (some (.int (nI (pop32 (cluI S25 (setI (ctP S21)) c_30 r_29)))))) (Or.inl ⟨_, rfl, by decide +kernel, _, rfl, rfl⟩) (k5 c1 c2 c3 c4 c5)
                          )
                        )
                      ) (fun c5 =>
                        Ev.go (pc' := 88) (ls' := [.ref 0, .int x1, .int x2, .int x3, .int (setI (ctP S21)), .int (cluI S25 (setI (ctP S21)) c_30 r_29)]) (st' := [.int x3, .ref 0]) [.aload_n 0, .iload_n 3] (by decide +kernel) rfl <|
                        Ev.br (i := .ifCond .ne (11)) (P := x3 = (0 : Int32)) (t := 91) (f := 99) (r := [.ref 0]) (by decide +kernel) rfl (fun c6 =>
                          Ev.go (pc' := 93) (ls' := [.ref 0, .int x1, .int x2, .int x3, .int (setI (ctP S21)), .int (cluI S25 (setI (ctP S21)) c_30 r_29)]) (st' := [.int (cluI S25 (setI (ctP S21)) c_30 r_29), .ref 0]) [.iload 5] (by decide +kernel) rfl <|
                          Ev.cS0 (M' := M_X_leastOf) (as := [.int (cluI S25 (setI (ctP S21)) c_30 r_29)]) (rest := [.ref 0]) l_X_257 M_X_leastOf_ok M_X_leastOf_st (by decide +kernel) rfl rfl (Nat.le_of_ble_eq_true rfl) (Nat.le_of_ble_eq_true rfl) (s_X_leastOf <| show Ev G (d + 6) _ _ M_X_cluster 96 [.ref 0, .int x1, .int x2, .int x3, .int (setI (ctP S21)), .int (cluI S25 (setI (ctP S21)) c_30 r_29)] [.int (frI (bt (cluI S25 (setI (ctP S21)) c_30 r_29)) 32), .ref 0] h R from
                            Ev.go (pc' := 105) (ls' := [.ref 0, .int x1, .int x2, .int x3, .int (setI (ctP S21)), .int (cluI S25 (setI (ctP S21)) c_30 r_29)]) (st' := [.int (frI (bt (cluI S25 (setI (ctP S21)) c_30 r_29)) 32), .ref 0]) [.goto (9)] (by decide +kernel) rfl <|
                            Ev.cV0 (M' := M_X_answer) (as := [.int (frI (bt (cluI S25 (setI (ctP S21)) c_30 r_29)) 32)]) (rest := []) l_X_87 M_X_answer_ok M_X_answer_in M_X_answer_se (by decide +kernel) ⟨_, a15⟩ rfl rfl rfl (Nat.le_of_ble_eq_true rfl) (Nat.le_of_ble_eq_true rfl) (s_X_answer' (pr27 c1 c2 c3 c4 c5 c6) <| show Ev G (d + 6) _ _ M_X_cluster 108 [.ref 0, .int x1, .int x2, .int x3, .int (setI (ctP S21)), .int (cluI S25 (setI (ctP S21)) c_30 r_29)] [.int (frI (bt (cluI S25 (setI (ctP S21)) c_30 r_29)) 32)] (xoS h 0 fk35 fp36) R from
                              Ev.ret (r := (some (.int (frI (bt (cluI S25 (setI (ctP S21)) c_30 r_29)) 32)))) (Or.inl ⟨_, rfl, by decide +kernel, _, rfl, rfl⟩) (k6 c1 c2 c3 c4 c5 c6)
                            )
                          )
                        ) (fun c6 =>
                          Ev.go (pc' := 102) (ls' := [.ref 0, .int x1, .int x2, .int x3, .int (setI (ctP S21)), .int (cluI S25 (setI (ctP S21)) c_30 r_29)]) (st' := [.int (cluI S25 (setI (ctP S21)) c_30 r_29), .ref 0, .ref 0]) [.aload_n 0, .iload 5] (by decide +kernel) rfl <|
                          Ev.cV0 (M' := M_X_middleOf) (as := [.int (cluI S25 (setI (ctP S21)) c_30 r_29)]) (rest := [.ref 0]) l_X_260 M_X_middleOf_ok M_X_middleOf_in M_X_middleOf_se (by decide +kernel) ⟨_, a15⟩ rfl rfl rfl (Nat.le_of_ble_eq_true rfl) (Nat.le_of_ble_eq_true rfl) (s_X_middleOf (pr28 c1 c2 c3 c4 c5 c6) (pr29 c1 c2 c3 c4 c5 c6) (pr30 c1 c2 c3 c4 c5 c6) (pr31 c1 c2 c3 c4 c5 c6) <| show Ev G (d + 6) _ _ M_X_cluster 105 [.ref 0, .int x1, .int x2, .int x3, .int (setI (ctP S21)), .int (cluI S25 (setI (ctP S21)) c_30 r_29)] [.int (oIx (mid S37 (bt (cluI S25 (setI (ctP S21)) c_30 r_29)))), .ref 0] h R from
                            Ev.cV0 (M' := M_X_answer) (as := [.int (oIx (mid S37 (bt (cluI S25 (setI (ctP S21)) c_30 r_29))))]) (rest := []) l_X_87 M_X_answer_ok M_X_answer_in M_X_answer_se (by decide +kernel) ⟨_, a15⟩ rfl rfl rfl (Nat.le_of_ble_eq_true rfl) (Nat.le_of_ble_eq_true rfl) (s_X_answer' (pr32 c1 c2 c3 c4 c5 c6) <| show Ev G (d + 6) _ _ M_X_cluster 108 [.ref 0, .int x1, .int x2, .int x3, .int (setI (ctP S21)), .int (cluI S25 (setI (ctP S21)) c_30 r_29)] [.int (oIx (mid S37 (bt (cluI S25 (setI (ctP S21)) c_30 r_29))))] (xoS h 0 fk42 fp43) R from
                              Ev.ret (r := (some (.int (oIx (mid S37 (bt (cluI S25 (setI (ctP S21)) c_30 r_29))))))) (Or.inl ⟨_, rfl, by decide +kernel, _, rfl, rfl⟩) (k7 c1 c2 c3 c4 c5 c6)
                            )
                          )
                        )
                      )
                    )
                  )
                )
              )
            )
          )
        )
      )
    )
  )
theorem b_X_vote_0 {G : ev_G} {d k n : Nat} {h : ev_H} {R : Option Value → ev_H → Prop} {x1 : Int32} {f_latest_1 : Int32} {f_faultKind_2 : Int32} {f_faultPlace_3 : Int32} {S4 : AS} {la5 : Int32} {fk6 : Int32} {fp7 : Int32}
  (a1 : hat h 0 (oC 8 [.ref 1, .ref 5, .ref 18, .ref 81, .ref 98, .int f_latest_1, .int f_faultKind_2, .int f_faultPlace_3]))
  (pr2 : StR h 1 S4)
  (pr3 : sOk S4)
  (r4 : ∃ fs, hat h 1 (oC 6 fs))
  (pr5 : ¬ (x1 &&& ((setI (allP S4)) ^^^ (-1 : Int32))) = (0 : Int32) → XO h la5 fk6 fp7)
  (k1 : (x1 &&& ((setI (allP S4)) ^^^ (-1 : Int32))) = (0 : Int32) → Ev G (d + 2) k n M_X_vote 32 [.ref 0, .int x1, .long (0 : Int64), ev_unk, .int (nI (pop32 x1)), .int (0 : Int32)] [] h R)
  (k2 : ¬ (x1 &&& ((setI (allP S4)) ^^^ (-1 : Int32))) = (0 : Int32) → R (some (.long (-1 : Int32).toInt64)) (xoS h (1 : Int32) fk6 fp7))
  : Ev G (d + 2) k n M_X_vote 0 [.ref 0, .int x1, ev_unk, ev_unk, ev_unk, ev_unk] [] h R :=
  Ev.go (pc' := 2) (ls' := [.ref 0, .int x1, ev_unk, ev_unk, ev_unk, ev_unk]) (st' := [.ref 0, .int x1]) [.iload_n 1, .aload_n 0] (by decide +kernel) rfl <|
  Ev.getf f_X_10 (by decide +kernel) a1 rfl <|
  Ev.cV0 (M' := M_St_all) (as := []) (rest := [.int x1]) l_X_263 M_St_all_ok M_St_all_in M_St_all_se (by decide +kernel) r4 rfl rfl rfl (Nat.le_of_ble_eq_true rfl) (Nat.le_of_ble_eq_true rfl) (s_St_all pr2 pr3 <| show Ev G (d + 2) _ _ M_X_vote 8 [.ref 0, .int x1, ev_unk, ev_unk, ev_unk, ev_unk] [.int (setI (allP S4)), .int x1] h R from
    Ev.go (pc' := 11) (ls' := [.ref 0, .int x1, ev_unk, ev_unk, ev_unk, ev_unk]) (st' := [.int (x1 &&& ((setI (allP S4)) ^^^ (-1 : Int32)))]) [.iconst (-1), .ixor, .iand] (by decide +kernel) rfl <|
    Ev.br (i := .ifCond .eq (10)) (P := (x1 &&& ((setI (allP S4)) ^^^ (-1 : Int32))) = (0 : Int32)) (t := 21) (f := 14) (r := []) (by decide +kernel) rfl (fun c1 =>
      Ev.go (pc' := 24) (ls' := [.ref 0, .int x1, .long (0 : Int64), ev_unk, ev_unk, ev_unk]) (st' := [.int x1]) [.lconst 0, .lstore_n 2, .iload_n 1] (by decide +kernel) rfl <|
      Ev.cS0 (M' := M_JI_bitCount) (as := [.int x1]) (rest := []) l_X_99 M_JI_bitCount_ok M_JI_bitCount_st (by decide +kernel) rfl rfl (Nat.le_of_ble_eq_true rfl) (Nat.le_of_ble_eq_true rfl) (s_JI_bitCount <| show Ev G (d + 2) _ _ M_X_vote 27 [.ref 0, .int x1, .long (0 : Int64), ev_unk, ev_unk, ev_unk] [.int (nI (pop32 x1))] h R from
        Ev.go (pc' := 32) (ls' := [.ref 0, .int x1, .long (0 : Int64), ev_unk, .int (nI (pop32 x1)), .int (0 : Int32)]) (st' := []) [.istore 4, .iconst 0, .istore 5] (by decide +kernel) rfl <|
        (k1 c1)
      )
    ) (fun c1 =>
      Ev.go (pc' := 16) (ls' := [.ref 0, .int x1, ev_unk, ev_unk, ev_unk, ev_unk]) (st' := [.int (1 : Int32), .ref 0]) [.aload_n 0, .iconst 1] (by decide +kernel) rfl <|
      Ev.cV0 (M' := M_X_refuse) (as := [.int (1 : Int32)]) (rest := []) l_X_67 M_X_refuse_ok M_X_refuse_in M_X_refuse_se (by decide +kernel) ⟨_, a1⟩ rfl rfl rfl (Nat.le_of_ble_eq_true rfl) (Nat.le_of_ble_eq_true rfl) (s_X_refuse' (pr5 c1) <| show Ev G (d + 2) _ _ M_X_vote 19 [.ref 0, .int x1, ev_unk, ev_unk, ev_unk, ev_unk] [.int (-1 : Int32)] (xoS h (1 : Int32) fk6 fp7) R from
        Ev.go (pc' := 20) (ls' := [.ref 0, .int x1, ev_unk, ev_unk, ev_unk, ev_unk]) (st' := [.long (-1 : Int32).toInt64]) [.i2l] (by decide +kernel) rfl <|
        Ev.ret (r := (some (.long (-1 : Int32).toInt64))) (Or.inr (Or.inl ⟨_, rfl, by decide +kernel, rfl⟩)) (k2 c1)
      )
    )
  )
theorem b_X_vote_32 {G : ev_G} {d k n : Nat} {h : ev_H} {R : Option Value → ev_H → Prop} {x1 : Int32} {x2 : Int64} {x4 : Int32} {x5 : Int32} {f_latest_1 : Int32} {f_faultKind_2 : Int32} {f_faultPlace_3 : Int32} {f_bits_4 : Int32} {f_parts_5 : Int32} {f_size_6 : Int32} {fv7 : Value} {S8 : AS} {b_9 : Nat} {la10 : Int32} {fk11 : Int32} {fp12 : Int32}
  (a1 : hat h 0 (oC 8 [.ref 1, .ref 5, .ref 18, .ref 81, .ref 98, .int f_latest_1, .int f_faultKind_2, .int f_faultPlace_3]))
  (a2 : hat h 1 (oC 6 [.int f_bits_4, .int f_parts_5, .ref 2, .int f_size_6, .ref 3, .ref 4, fv7]))
  (pr3 : x5 < f_bits_4 → StR h 1 S8)
  (pr4 : x5 < f_bits_4 → sOk S8)
  (pr5 : x5 < f_bits_4 → x5 = nI b_9 ∧ b_9 < 64)
  (pr6 : ¬ x5 < f_bits_4 → XO h la10 fk11 fp12)
  (k1 : x5 < f_bits_4 → x4 < ((nI (cnt (fun j => bt x1 j && lt (sCo S8 j) b_9) (sN S8))) * (2 : Int32)) → Ev G (d + 2) k n M_X_vote 32 [.ref 0, .int x1, .long (x2 ||| ((1 : Int64) <<< (x5.toInt64 &&& 63))), ev_unk, .int x4, .int (x5 + (1 : Int32))] [] h R)
  (k2 : x5 < f_bits_4 → ¬ x4 < ((nI (cnt (fun j => bt x1 j && lt (sCo S8 j) b_9) (sN S8))) * (2 : Int32)) → Ev G (d + 2) k n M_X_vote 32 [.ref 0, .int x1, .long x2, ev_unk, .int x4, .int (x5 + (1 : Int32))] [] h R)
  (k3 : ¬ x5 < f_bits_4 → R (some (.long x2)) (xoS h 0 fk11 fp12))
  : Ev G (d + 2) k n M_X_vote 32 [.ref 0, .int x1, .long x2, ev_unk, .int x4, .int x5] [] h R :=
  Ev.go (pc' := 35) (ls' := [.ref 0, .int x1, .long x2, ev_unk, .int x4, .int x5]) (st' := [.ref 0, .int x5]) [.iload 5, .aload_n 0] (by decide +kernel) rfl <|
  Ev.getf f_X_10 (by decide +kernel) a1 rfl <|
  Ev.getf f_X_90 (by decide +kernel) a2 rfl <|
  Ev.br (i := .if_icmp .ge (33)) (P := x5 < f_bits_4) (t := 44) (f := 74) (r := []) (by decide +kernel) rfl (fun c1 =>
    Ev.go (pc' := 45) (ls' := [.ref 0, .int x1, .long x2, ev_unk, .int x4, .int x5]) (st' := [.ref 0]) [.aload_n 0] (by decide +kernel) rfl <|
    Ev.getf f_X_10 (by decide +kernel) a1 rfl <|
    Ev.go (pc' := 51) (ls' := [.ref 0, .int x1, .long x2, ev_unk, .int x4, .int x5]) (st' := [.int x5, .int x1, .ref 1]) [.iload_n 1, .iload 5] (by decide +kernel) rfl <|
    Ev.cV0 (M' := M_St_onesAt) (as := [.int x1, .int x5]) (rest := []) l_X_266 M_St_onesAt_ok M_St_onesAt_in M_St_onesAt_se (by decide +kernel) ⟨_, a2⟩ rfl rfl rfl (Nat.le_of_ble_eq_true rfl) (Nat.le_of_ble_eq_true rfl) (s_St_onesAt' (pr3 c1) (pr4 c1) (pr5 c1) <| show Ev G (d + 2) _ _ M_X_vote 54 [.ref 0, .int x1, .long x2, ev_unk, .int x4, .int x5] [.int (nI (cnt (fun j => bt x1 j && lt (sCo S8 j) b_9) (sN S8)))] h R from
      Ev.go (pc' := 58) (ls' := [.ref 0, .int x1, .long x2, ev_unk, .int x4, .int x5]) (st' := [.int x4, .int ((nI (cnt (fun j => bt x1 j && lt (sCo S8 j) b_9) (sN S8))) * (2 : Int32))]) [.iconst 2, .imul, .iload 4] (by decide +kernel) rfl <|
      Ev.br (i := .if_icmp .le (10)) (P := x4 < ((nI (cnt (fun j => bt x1 j && lt (sCo S8 j) b_9) (sN S8))) * (2 : Int32))) (t := 61) (f := 68) (r := []) (by decide +kernel) rfl (fun c2 =>
        Ev.go (pc' := 32) (ls' := [.ref 0, .int x1, .long (x2 ||| ((1 : Int64) <<< (x5.toInt64 &&& 63))), ev_unk, .int x4, .int (x5 + (1 : Int32))]) (st' := []) [.lload_n 2, .lconst 1, .iload 5, .lshl, .lor, .lstore_n 2, .iinc 5 (1), .goto (-39)] (by decide +kernel) rfl <|
        (k1 c1 c2)
      ) (fun c2 =>
        Ev.go (pc' := 32) (ls' := [.ref 0, .int x1, .long x2, ev_unk, .int x4, .int (x5 + (1 : Int32))]) (st' := []) [.iinc 5 (1), .goto (-39)] (by decide +kernel) rfl <|
        (k2 c1 c2)
      )
    )
  ) (fun c1 =>
    Ev.go (pc' := 76) (ls' := [.ref 0, .int x1, .long x2, ev_unk, .int x4, .int x5]) (st' := [.long x2, .ref 0]) [.aload_n 0, .lload_n 2] (by decide +kernel) rfl <|
    Ev.cV0 (M' := M_X_answerLong) (as := [.long x2]) (rest := []) l_X_122 M_X_answerLong_ok M_X_answerLong_in M_X_answerLong_se (by decide +kernel) ⟨_, a1⟩ rfl rfl rfl (Nat.le_of_ble_eq_true rfl) (Nat.le_of_ble_eq_true rfl) (s_X_answerLong' (pr6 c1) <| show Ev G (d + 2) _ _ M_X_vote 79 [.ref 0, .int x1, .long x2, ev_unk, .int x4, .int x5] [.long x2] (xoS h 0 fk11 fp12) R from
      Ev.ret (r := (some (.long x2))) (Or.inr (Or.inl ⟨_, rfl, by decide +kernel, rfl⟩)) (k3 c1)
    )
  )
theorem b_X_like_0 {G : ev_G} {d k n : Nat} {h : ev_H} {R : Option Value → ev_H → Prop} {x1 : Int64} {x3 : Int64} {S1 : AS} {la2 : Int32} {fk3 : Int32} {fp4 : Int32} {la5 : Int32} {fk6 : Int32} {fp7 : Int32} {S8 : AS} {la9 : Int32} {fk10 : Int32} {fp11 : Int32} {la12 : Int32} {fk13 : Int32} {fp14 : Int32} {f_latest_15 : Int32} {f_faultKind_16 : Int32} {f_faultPlace_17 : Int32} {S18 : AS}
  (a11 : hat h 0 (oC 8 [.ref 1, .ref 5, .ref 18, .ref 81, .ref 98, .int f_latest_15, .int f_faultKind_16, .int f_faultPlace_17]))
  (pr1 : XO h la2 fk3 fp4)
  (pr2 : StR h 1 S1)
  (r3 : ∃ fs, hat h 0 (oC 8 fs))
  (pr4 : (b2i (numB x1 (sB S1))) = (0 : Int32) → XO h la5 fk6 fp7)
  (r5 : (b2i (numB x1 (sB S1))) = (0 : Int32) → ∃ fs, hat h 0 (oC 8 fs))
  (pr6 : ¬ (b2i (numB x1 (sB S1))) = (0 : Int32) → XO h la9 fk10 fp11)
  (pr7 : ¬ (b2i (numB x1 (sB S1))) = (0 : Int32) → StR h 1 S8)
  (r8 : ¬ (b2i (numB x1 (sB S1))) = (0 : Int32) → ∃ fs, hat h 0 (oC 8 fs))
  (pr9 : ¬ (b2i (numB x1 (sB S1))) = (0 : Int32) → (b2i (numB x3 (sB S8))) = (0 : Int32) → XO h la12 fk13 fp14)
  (r10 : ¬ (b2i (numB x1 (sB S1))) = (0 : Int32) → (b2i (numB x3 (sB S8))) = (0 : Int32) → ∃ fs, hat h 0 (oC 8 fs))
  (pr12 : ¬ (b2i (numB x1 (sB S1))) = (0 : Int32) → ¬ (b2i (numB x3 (sB S8))) = (0 : Int32) → StR h 1 S18)
  (pr13 : ¬ (b2i (numB x1 (sB S1))) = (0 : Int32) → ¬ (b2i (numB x3 (sB S8))) = (0 : Int32) → sOk S18)
  (pr14 : ¬ (b2i (numB x1 (sB S1))) = (0 : Int32) → ¬ (b2i (numB x3 (sB S8))) = (0 : Int32) → sFl S18 = [] ∨ flOk (sFl S18))
  (r15 : ¬ (b2i (numB x1 (sB S1))) = (0 : Int32) → ¬ (b2i (numB x3 (sB S8))) = (0 : Int32) → ∃ fs, hat h 1 (oC 6 fs))
  (k1 : (b2i (numB x1 (sB S1))) = (0 : Int32) → R (some (.int (-1 : Int32))) (xoS h (1 : Int32) fk6 fp7))
  (k2 : ¬ (b2i (numB x1 (sB S1))) = (0 : Int32) → (b2i (numB x3 (sB S8))) = (0 : Int32) → R (some (.int (-1 : Int32))) (xoS h (1 : Int32) fk13 fp14))
  (k3 : ¬ (b2i (numB x1 (sB S1))) = (0 : Int32) → ¬ (b2i (numB x3 (sB S8))) = (0 : Int32) → Ev G (d + 6) k n M_X_like 37 [.ref 0, .long x1, ev_unk, .long x3, ev_unk, .int (setI (ctP S18)), .int (0 : Int32), .int (0 : Int32)] [] h R)
  : Ev G (d + 6) k n M_X_like 0 [.ref 0, .long x1, ev_unk, .long x3, ev_unk, ev_unk, ev_unk, ev_unk] [] h R :=
  Ev.go (pc' := 2) (ls' := [.ref 0, .long x1, ev_unk, .long x3, ev_unk, ev_unk, ev_unk, ev_unk]) (st' := [.long x1, .ref 0]) [.aload_n 0, .lload_n 1] (by decide +kernel) rfl <|
  Ev.cV0 (M' := M_X_isNumber) (as := [.long x1]) (rest := []) l_X_140 M_X_isNumber_ok M_X_isNumber_in M_X_isNumber_se (by decide +kernel) r3 rfl rfl rfl (Nat.le_of_ble_eq_true rfl) (Nat.le_of_ble_eq_true rfl) (s_X_isNumber pr1 pr2 <| show Ev G (d + 6) _ _ M_X_like 5 [.ref 0, .long x1, ev_unk, .long x3, ev_unk, ev_unk, ev_unk, ev_unk] [.int (b2i (numB x1 (sB S1)))] h R from
    Ev.br (i := .ifCond .eq (11)) (P := (b2i (numB x1 (sB S1))) = (0 : Int32)) (t := 16) (f := 8) (r := []) (by decide +kernel) rfl (fun c1 =>
      Ev.go (pc' := 18) (ls' := [.ref 0, .long x1, ev_unk, .long x3, ev_unk, ev_unk, ev_unk, ev_unk]) (st' := [.int (1 : Int32), .ref 0]) [.aload_n 0, .iconst 1] (by decide +kernel) rfl <|
      Ev.cV0 (M' := M_X_refuse) (as := [.int (1 : Int32)]) (rest := []) l_X_67 M_X_refuse_ok M_X_refuse_in M_X_refuse_se (by decide +kernel) (r5 c1) rfl rfl rfl (Nat.le_of_ble_eq_true rfl) (Nat.le_of_ble_eq_true rfl) (s_X_refuse' (pr4 c1) <| show Ev G (d + 6) _ _ M_X_like 21 [.ref 0, .long x1, ev_unk, .long x3, ev_unk, ev_unk, ev_unk, ev_unk] [.int (-1 : Int32)] (xoS h (1 : Int32) fk6 fp7) R from
        Ev.ret (r := (some (.int (-1 : Int32)))) (Or.inl ⟨_, rfl, by decide +kernel, _, rfl, rfl⟩) (k1 c1)
      )
    ) (fun c1 =>
      Ev.go (pc' := 10) (ls' := [.ref 0, .long x1, ev_unk, .long x3, ev_unk, ev_unk, ev_unk, ev_unk]) (st' := [.long x3, .ref 0]) [.aload_n 0, .lload_n 3] (by decide +kernel) rfl <|
      Ev.cV0 (M' := M_X_isNumber) (as := [.long x3]) (rest := []) l_X_140 M_X_isNumber_ok M_X_isNumber_in M_X_isNumber_se (by decide +kernel) (r8 c1) rfl rfl rfl (Nat.le_of_ble_eq_true rfl) (Nat.le_of_ble_eq_true rfl) (s_X_isNumber (pr6 c1) (pr7 c1) <| show Ev G (d + 6) _ _ M_X_like 13 [.ref 0, .long x1, ev_unk, .long x3, ev_unk, ev_unk, ev_unk, ev_unk] [.int (b2i (numB x3 (sB S8)))] h R from
        Ev.br (i := .ifCond .ne (9)) (P := (b2i (numB x3 (sB S8))) = (0 : Int32)) (t := 16) (f := 22) (r := []) (by decide +kernel) rfl (fun c2 =>
          Ev.go (pc' := 18) (ls' := [.ref 0, .long x1, ev_unk, .long x3, ev_unk, ev_unk, ev_unk, ev_unk]) (st' := [.int (1 : Int32), .ref 0]) [.aload_n 0, .iconst 1] (by decide +kernel) rfl <|
          Ev.cV0 (M' := M_X_refuse) (as := [.int (1 : Int32)]) (rest := []) l_X_67 M_X_refuse_ok M_X_refuse_in M_X_refuse_se (by decide +kernel) (r10 c1 c2) rfl rfl rfl (Nat.le_of_ble_eq_true rfl) (Nat.le_of_ble_eq_true rfl) (s_X_refuse' (pr9 c1 c2) <| show Ev G (d + 6) _ _ M_X_like 21 [.ref 0, .long x1, ev_unk, .long x3, ev_unk, ev_unk, ev_unk, ev_unk] [.int (-1 : Int32)] (xoS h (1 : Int32) fk13 fp14) R from
            Ev.ret (r := (some (.int (-1 : Int32)))) (Or.inl ⟨_, rfl, by decide +kernel, _, rfl, rfl⟩) (k2 c1 c2)
          )
        ) (fun c2 =>
          Ev.go (pc' := 23) (ls' := [.ref 0, .long x1, ev_unk, .long x3, ev_unk, ev_unk, ev_unk, ev_unk]) (st' := [.ref 0]) [.aload_n 0] (by decide +kernel) rfl <|
          Ev.getf f_X_10 (by decide +kernel) a11 rfl <|
          Ev.cV0 (M' := M_St_counting) (as := []) (rest := []) l_X_96 M_St_counting_ok M_St_counting_in M_St_counting_se (by decide +kernel) (r15 c1 c2) rfl rfl rfl (Nat.le_of_ble_eq_true rfl) (Nat.le_of_ble_eq_true rfl) (s_St_counting (pr12 c1 c2) (pr13 c1 c2) (pr14 c1 c2) <| show Ev G (d + 6) _ _ M_X_like 29 [.ref 0, .long x1, ev_unk, .long x3, ev_unk, ev_unk, ev_unk, ev_unk] [.int (setI (ctP S18))] h R from
            Ev.go (pc' := 37) (ls' := [.ref 0, .long x1, ev_unk, .long x3, ev_unk, .int (setI (ctP S18)), .int (0 : Int32), .int (0 : Int32)]) (st' := []) [.istore 5, .iconst 0, .istore 6, .iconst 0, .istore 7] (by decide +kernel) rfl <|
            (k3 c1 c2)
          )
        )
      )
    )
  )
theorem b_X_like_37 {G : ev_G} {d k n : Nat} {h : ev_H} {R : Option Value → ev_H → Prop} {x1 : Int64} {x3 : Int64} {x5 : Int32} {x6 : Int32} {x7 : Int32} {f_latest_1 : Int32} {f_faultKind_2 : Int32} {f_faultPlace_3 : Int32} {f_bits_4 : Int32} {f_parts_5 : Int32} {f_size_6 : Int32} {fv7 : Value} {g8 : Nat → Int64} {j9 : Nat} {la10 : Int32} {fk11 : Int32} {fp12 : Int32}
  (a1 : hat h 0 (oC 8 [.ref 1, .ref 5, .ref 18, .ref 81, .ref 98, .int f_latest_1, .int f_faultKind_2, .int f_faultPlace_3]))
  (a2 : hat h 1 (oC 6 [.int f_bits_4, .int f_parts_5, .ref 2, .int f_size_6, .ref 3, .ref 4, fv7]))
  (a3 : hat h 3 (aL 32 g8))
  (i4 : x7 < (32 : Int32) → ¬ (b2i (inI x5 x7)) = (0 : Int32) → ev_ix x7 j9 32)
  (pr5 : ¬ x7 < (32 : Int32) → XO h la10 fk11 fp12)
  (r6 : ¬ x7 < (32 : Int32) → ∃ fs, hat h 0 (oC 8 fs))
  (k1 : x7 < (32 : Int32) → (b2i (inI x5 x7)) = (0 : Int32) → Ev G (d + 6) k n M_X_like 37 [.ref 0, .long x1, ev_unk, .long x3, ev_unk, .int x5, .int x6, .int (x7 + (1 : Int32))] [] h R)
  (k2 : x7 < (32 : Int32) → ¬ (b2i (inI x5 x7)) = (0 : Int32) → (((g8 j9) ^^^ x3) &&& x1) = (0 : Int64) → Ev G (d + 6) k n M_X_like 37 [.ref 0, .long x1, ev_unk, .long x3, ev_unk, .int x5, .int (x6 ||| ((1 : Int32) <<< (x7 &&& 31))), .int (x7 + (1 : Int32))] [] h R)
  (k3 : x7 < (32 : Int32) → ¬ (b2i (inI x5 x7)) = (0 : Int32) → ¬ (((g8 j9) ^^^ x3) &&& x1) = (0 : Int64) → Ev G (d + 6) k n M_X_like 37 [.ref 0, .long x1, ev_unk, .long x3, ev_unk, .int x5, .int x6, .int (x7 + (1 : Int32))] [] h R)
  (k4 : ¬ x7 < (32 : Int32) → R (some (.int x6)) (xoS h 0 fk11 fp12))
  : Ev G (d + 6) k n M_X_like 37 [.ref 0, .long x1, ev_unk, .long x3, ev_unk, .int x5, .int x6, .int x7] [] h R :=
  Ev.go (pc' := 41) (ls' := [.ref 0, .long x1, ev_unk, .long x3, ev_unk, .int x5, .int x6, .int x7]) (st' := [.int (32 : Int32), .int x7]) [.iload 7, .bipush (32)] (by decide +kernel) rfl <|
  Ev.br (i := .if_icmp .ge (47)) (P := x7 < (32 : Int32)) (t := 44) (f := 88) (r := []) (by decide +kernel) rfl (fun c1 =>
    Ev.go (pc' := 48) (ls' := [.ref 0, .long x1, ev_unk, .long x3, ev_unk, .int x5, .int x6, .int x7]) (st' := [.int x7, .int x5]) [.iload 5, .iload 7] (by decide +kernel) rfl <|
    Ev.cS0 (M' := M_X_isIn) (as := [.int x5, .int x7]) (rest := []) l_X_238 M_X_isIn_ok M_X_isIn_st (by decide +kernel) rfl rfl (Nat.le_of_ble_eq_true rfl) (Nat.le_of_ble_eq_true rfl) (s_X_isIn <| show Ev G (d + 6) _ _ M_X_like 51 [.ref 0, .long x1, ev_unk, .long x3, ev_unk, .int x5, .int x6, .int x7] [.int (b2i (inI x5 x7))] h R from
      Ev.br (i := .ifCond .eq (31)) (P := (b2i (inI x5 x7)) = (0 : Int32)) (t := 82) (f := 54) (r := []) (by decide +kernel) rfl (fun c2 =>
        Ev.go (pc' := 37) (ls' := [.ref 0, .long x1, ev_unk, .long x3, ev_unk, .int x5, .int x6, .int (x7 + (1 : Int32))]) (st' := []) [.iinc 7 (1), .goto (-48)] (by decide +kernel) rfl <|
        (k1 c1 c2)
      ) (fun c2 =>
        Ev.go (pc' := 55) (ls' := [.ref 0, .long x1, ev_unk, .long x3, ev_unk, .int x5, .int x6, .int x7]) (st' := [.ref 0]) [.aload_n 0] (by decide +kernel) rfl <|
        Ev.getf f_X_10 (by decide +kernel) a1 rfl <|
        Ev.getf f_X_118 (by decide +kernel) a2 rfl <|
        Ev.go (pc' := 63) (ls' := [.ref 0, .long x1, ev_unk, .long x3, ev_unk, .int x5, .int x6, .int x7]) (st' := [.int x7, .ref 3]) [.iload 7] (by decide +kernel) rfl <|
        Ev.lald (j := j9) (by decide +kernel) a3 (i4 c1 c2) <|
        Ev.go (pc' := 69) (ls' := [.ref 0, .long x1, ev_unk, .long x3, ev_unk, .int x5, .int x6, .int x7]) (st' := [.long (0 : Int64), .long (((g8 j9) ^^^ x3) &&& x1)]) [.lload_n 3, .lxor, .lload_n 1, .land, .lconst 0] (by decide +kernel) rfl <|
        Ev.brl (c := .ne) (o := 12) (P := (((g8 j9) ^^^ x3) &&& x1) = (0 : Int64)) (t := 73) (f := 82) (t1 := 82) (by decide +kernel) (by decide +kernel) rfl rfl (fun c3 =>
          Ev.go (pc' := 37) (ls' := [.ref 0, .long x1, ev_unk, .long x3, ev_unk, .int x5, .int (x6 ||| ((1 : Int32) <<< (x7 &&& 31))), .int (x7 + (1 : Int32))]) (st' := []) [.iload 6, .iconst 1, .iload 7, .ishl, .ior, .istore 6, .iinc 7 (1), .goto (-48)] (by decide +kernel) rfl <|
          (k2 c1 c2 c3)
        ) (fun c3 =>
          Ev.go (pc' := 37) (ls' := [.ref 0, .long x1, ev_unk, .long x3, ev_unk, .int x5, .int x6, .int (x7 + (1 : Int32))]) (st' := []) [.iinc 7 (1), .goto (-48)] (by decide +kernel) rfl <|
          (k3 c1 c2 c3)
        )
      )
    )
  ) (fun c1 =>
    Ev.go (pc' := 91) (ls' := [.ref 0, .long x1, ev_unk, .long x3, ev_unk, .int x5, .int x6, .int x7]) (st' := [.int x6, .ref 0]) [.aload_n 0, .iload 6] (by decide +kernel) rfl <|
    Ev.cV0 (M' := M_X_answer) (as := [.int x6]) (rest := []) l_X_87 M_X_answer_ok M_X_answer_in M_X_answer_se (by decide +kernel) (r6 c1) rfl rfl rfl (Nat.le_of_ble_eq_true rfl) (Nat.le_of_ble_eq_true rfl) (s_X_answer' (pr5 c1) <| show Ev G (d + 6) _ _ M_X_like 94 [.ref 0, .long x1, ev_unk, .long x3, ev_unk, .int x5, .int x6, .int x7] [.int x6] (xoS h 0 fk11 fp12) R from
      Ev.ret (r := (some (.int x6))) (Or.inl ⟨_, rfl, by decide +kernel, _, rfl, rfl⟩) (k4 c1)
    )
  )
theorem b_X_ones_0 {G : ev_G} {d k n : Nat} {h : ev_H} {R : Option Value → ev_H → Prop} {x1 : Int32} {S1 : AS} {la2 : Int32} {fk3 : Int32} {fp4 : Int32} {la5 : Int32} {fk6 : Int32} {fp7 : Int32} {f_latest_8 : Int32} {f_faultKind_9 : Int32} {f_faultPlace_10 : Int32} {S11 : AS} {S12 : AS} {b_13 : Nat} {la14 : Int32} {fk15 : Int32} {fp16 : Int32}
  (a7 : hat h 0 (oC 8 [.ref 1, .ref 5, .ref 18, .ref 81, .ref 98, .int f_latest_8, .int f_faultKind_9, .int f_faultPlace_10]))
  (pr1 : XO h la2 fk3 fp4)
  (pr2 : StR h 1 S1)
  (pr3 : sOk S1)
  (r4 : ∃ fs, hat h 0 (oC 8 fs))
  (pr5 : (b2i (inR x1 (sB S1))) = (0 : Int32) → XO h la5 fk6 fp7)
  (r6 : (b2i (inR x1 (sB S1))) = (0 : Int32) → ∃ fs, hat h 0 (oC 8 fs))
  (pr8 : ¬ (b2i (inR x1 (sB S1))) = (0 : Int32) → StR h 1 S11)
  (pr9 : ¬ (b2i (inR x1 (sB S1))) = (0 : Int32) → sOk S11)
  (pr10 : ¬ (b2i (inR x1 (sB S1))) = (0 : Int32) → sFl S11 = [] ∨ flOk (sFl S11))
  (r11 : ¬ (b2i (inR x1 (sB S1))) = (0 : Int32) → ∃ fs, hat h 1 (oC 6 fs))
  (pr12 : ¬ (b2i (inR x1 (sB S1))) = (0 : Int32) → StR h 1 S12)
  (pr13 : ¬ (b2i (inR x1 (sB S1))) = (0 : Int32) → sOk S12)
  (pr14 : ¬ (b2i (inR x1 (sB S1))) = (0 : Int32) → x1 = nI b_13 ∧ b_13 < 64)
  (pr15 : ¬ (b2i (inR x1 (sB S1))) = (0 : Int32) → XO h la14 fk15 fp16)
  (k1 : (b2i (inR x1 (sB S1))) = (0 : Int32) → R (some (.int (-1 : Int32))) (xoS h (1 : Int32) fk6 fp7))
  (k2 : ¬ (b2i (inR x1 (sB S1))) = (0 : Int32) → R (some (.int (nI (cnt (fun j => bt (setI (ctP S11)) j && lt (sCo S12 j) b_13) (sN S12))))) (xoS h 0 fk15 fp16))
  : Ev G (d + 6) k n M_X_ones 0 [.ref 0, .int x1] [] h R :=
  Ev.go (pc' := 2) (ls' := [.ref 0, .int x1]) (st' := [.int x1, .ref 0]) [.aload_n 0, .iload_n 1] (by decide +kernel) rfl <|
  Ev.cV0 (M' := M_X_isBit) (as := [.int x1]) (rest := []) l_X_167 M_X_isBit_ok M_X_isBit_in M_X_isBit_se (by decide +kernel) r4 rfl rfl rfl (Nat.le_of_ble_eq_true rfl) (Nat.le_of_ble_eq_true rfl) (s_X_isBit pr1 pr2 pr3 <| show Ev G (d + 6) _ _ M_X_ones 5 [.ref 0, .int x1] [.int (b2i (inR x1 (sB S1)))] h R from
    Ev.br (i := .ifCond .ne (9)) (P := (b2i (inR x1 (sB S1))) = (0 : Int32)) (t := 8) (f := 14) (r := []) (by decide +kernel) rfl (fun c1 =>
      Ev.go (pc' := 10) (ls' := [.ref 0, .int x1]) (st' := [.int (1 : Int32), .ref 0]) [.aload_n 0, .iconst 1] (by decide +kernel) rfl <|
      Ev.cV0 (M' := M_X_refuse) (as := [.int (1 : Int32)]) (rest := []) l_X_67 M_X_refuse_ok M_X_refuse_in M_X_refuse_se (by decide +kernel) (r6 c1) rfl rfl rfl (Nat.le_of_ble_eq_true rfl) (Nat.le_of_ble_eq_true rfl) (s_X_refuse' (pr5 c1) <| show Ev G (d + 6) _ _ M_X_ones 13 [.ref 0, .int x1] [.int (-1 : Int32)] (xoS h (1 : Int32) fk6 fp7) R from
        Ev.ret (r := (some (.int (-1 : Int32)))) (Or.inl ⟨_, rfl, by decide +kernel, _, rfl, rfl⟩) (k1 c1)
      )
    ) (fun c1 =>
      Ev.go (pc' := 16) (ls' := [.ref 0, .int x1]) (st' := [.ref 0, .ref 0]) [.aload_n 0, .aload_n 0] (by decide +kernel) rfl <|
      Ev.getf f_X_10 (by decide +kernel) a7 rfl <|
      Ev.go (pc' := 20) (ls' := [.ref 0, .int x1]) (st' := [.ref 0, .ref 1, .ref 0]) [.aload_n 0] (by decide +kernel) rfl <|
      Ev.getf f_X_10 (by decide +kernel) a7 rfl <|
      Ev.cV0 (M' := M_St_counting) (as := []) (rest := [.ref 1, .ref 0]) l_X_96 M_St_counting_ok M_St_counting_in M_St_counting_se (by decide +kernel) (r11 c1) rfl rfl rfl (Nat.le_of_ble_eq_true rfl) (Nat.le_of_ble_eq_true rfl) (s_St_counting (pr8 c1) (pr9 c1) (pr10 c1) <| show Ev G (d + 6) _ _ M_X_ones 26 [.ref 0, .int x1] [.int (setI (ctP S11)), .ref 1, .ref 0] h R from
        Ev.go (pc' := 27) (ls' := [.ref 0, .int x1]) (st' := [.int x1, .int (setI (ctP S11)), .ref 1, .ref 0]) [.iload_n 1] (by decide +kernel) rfl <|
        Ev.cV0 (M' := M_St_onesAt) (as := [.int (setI (ctP S11)), .int x1]) (rest := [.ref 0]) l_X_266 M_St_onesAt_ok M_St_onesAt_in M_St_onesAt_se (by decide +kernel) (r11 c1) rfl rfl rfl (Nat.le_of_ble_eq_true rfl) (Nat.le_of_ble_eq_true rfl) (s_St_onesAt' (pr12 c1) (pr13 c1) (pr14 c1) <| show Ev G (d + 6) _ _ M_X_ones 30 [.ref 0, .int x1] [.int (nI (cnt (fun j => bt (setI (ctP S11)) j && lt (sCo S12 j) b_13) (sN S12))), .ref 0] h R from
          Ev.cV0 (M' := M_X_answer) (as := [.int (nI (cnt (fun j => bt (setI (ctP S11)) j && lt (sCo S12 j) b_13) (sN S12)))]) (rest := []) l_X_87 M_X_answer_ok M_X_answer_in M_X_answer_se (by decide +kernel) ⟨_, a7⟩ rfl rfl rfl (Nat.le_of_ble_eq_true rfl) (Nat.le_of_ble_eq_true rfl) (s_X_answer' (pr15 c1) <| show Ev G (d + 6) _ _ M_X_ones 33 [.ref 0, .int x1] [.int (nI (cnt (fun j => bt (setI (ctP S11)) j && lt (sCo S12 j) b_13) (sN S12)))] (xoS h 0 fk15 fp16) R from
            Ev.ret (r := (some (.int (nI (cnt (fun j => bt (setI (ctP S11)) j && lt (sCo S12 j) b_13) (sN S12)))))) (Or.inl ⟨_, rfl, by decide +kernel, _, rfl, rfl⟩) (k2 c1)
          )
        )
      )
    )
  )
theorem b_X_telling_0 {G : ev_G} {d k n : Nat} {h : ev_H} {R : Option Value → ev_H → Prop} {f_latest_1 : Int32} {f_faultKind_2 : Int32} {f_faultPlace_3 : Int32} {S4 : AS}
  (a1 : hat h 0 (oC 8 [.ref 1, .ref 5, .ref 18, .ref 81, .ref 98, .int f_latest_1, .int f_faultKind_2, .int f_faultPlace_3]))
  (pr2 : StR h 1 S4)
  (pr3 : sOk S4)
  (pr4 : sFl S4 = [] ∨ flOk (sFl S4))
  (r5 : ∃ fs, hat h 1 (oC 6 fs))
  (k1 : Ev G (d + 6) k n M_X_telling 23 [.ref 0, .int (setI (ctP S4)), .int (nI (pop32 (setI (ctP S4)))), .int (0 : Int32), .int ((nI (pop32 (setI (ctP S4)))) + (1 : Int32)), .int (0 : Int32), ev_unk] [] h R)
  : Ev G (d + 6) k n M_X_telling 0 [.ref 0, ev_unk, ev_unk, ev_unk, ev_unk, ev_unk, ev_unk] [] h R :=
  Ev.go (pc' := 1) (ls' := [.ref 0, ev_unk, ev_unk, ev_unk, ev_unk, ev_unk, ev_unk]) (st' := [.ref 0]) [.aload_n 0] (by decide +kernel) rfl <|
  Ev.getf f_X_10 (by decide +kernel) a1 rfl <|
  Ev.cV0 (M' := M_St_counting) (as := []) (rest := []) l_X_96 M_St_counting_ok M_St_counting_in M_St_counting_se (by decide +kernel) r5 rfl rfl rfl (Nat.le_of_ble_eq_true rfl) (Nat.le_of_ble_eq_true rfl) (s_St_counting pr2 pr3 pr4 <| show Ev G (d + 6) _ _ M_X_telling 7 [.ref 0, ev_unk, ev_unk, ev_unk, ev_unk, ev_unk, ev_unk] [.int (setI (ctP S4))] h R from
    Ev.go (pc' := 9) (ls' := [.ref 0, .int (setI (ctP S4)), ev_unk, ev_unk, ev_unk, ev_unk, ev_unk]) (st' := [.int (setI (ctP S4))]) [.istore_n 1, .iload_n 1] (by decide +kernel) rfl <|
    Ev.cS0 (M' := M_JI_bitCount) (as := [.int (setI (ctP S4))]) (rest := []) l_X_99 M_JI_bitCount_ok M_JI_bitCount_st (by decide +kernel) rfl rfl (Nat.le_of_ble_eq_true rfl) (Nat.le_of_ble_eq_true rfl) (s_JI_bitCount <| show Ev G (d + 6) _ _ M_X_telling 12 [.ref 0, .int (setI (ctP S4)), ev_unk, ev_unk, ev_unk, ev_unk, ev_unk] [.int (nI (pop32 (setI (ctP S4))))] h R from
      Ev.go (pc' := 23) (ls' := [.ref 0, .int (setI (ctP S4)), .int (nI (pop32 (setI (ctP S4)))), .int (0 : Int32), .int ((nI (pop32 (setI (ctP S4)))) + (1 : Int32)), .int (0 : Int32), ev_unk]) (st' := []) [.istore_n 2, .iconst 0, .istore_n 3, .iload_n 2, .iconst 1, .iadd, .istore 4, .iconst 0, .istore 5] (by decide +kernel) rfl <|
      k1
    )
  )
theorem b_X_telling_23 {G : ev_G} {d k n : Nat} {h : ev_H} {R : Option Value → ev_H → Prop} {x1 : Int32} {x2 : Int32} {x3 : Int32} {x4 : Int32} {x5 : Int32} {f_latest_1 : Int32} {f_faultKind_2 : Int32} {f_faultPlace_3 : Int32} {f_bits_4 : Int32} {f_parts_5 : Int32} {f_size_6 : Int32} {fv7 : Value} {S8 : AS} {b_9 : Nat} {la10 : Int32} {fk11 : Int32} {fp12 : Int32}
  (a1 : hat h 0 (oC 8 [.ref 1, .ref 5, .ref 18, .ref 81, .ref 98, .int f_latest_1, .int f_faultKind_2, .int f_faultPlace_3]))
  (a2 : hat h 1 (oC 6 [.int f_bits_4, .int f_parts_5, .ref 2, .int f_size_6, .ref 3, .ref 4, fv7]))
  (pr3 : x5 < f_bits_4 → StR h 1 S8)
  (pr4 : x5 < f_bits_4 → sOk S8)
  (pr5 : x5 < f_bits_4 → x5 = nI b_9 ∧ b_9 < 64)
  (pr6 : ¬ x5 < f_bits_4 → XO h la10 fk11 fp12)
  (k1 : x5 < f_bits_4 → (if 0 ≤ (x2 - ((2 : Int32) * (nI (cnt (fun j => bt x1 j && lt (sCo S8 j) b_9) (sN S8))))) then (x2 - ((2 : Int32) * (nI (cnt (fun j => bt x1 j && lt (sCo S8 j) b_9) (sN S8))))) else 0 - (x2 - ((2 : Int32) * (nI (cnt (fun j => bt x1 j && lt (sCo S8 j) b_9) (sN S8)))))) < x4 → Ev G (d + 6) k n M_X_telling 23 [.ref 0, .int x1, .int x2, .int x5, .int (if 0 ≤ (x2 - ((2 : Int32) * (nI (cnt (fun j => bt x1 j && lt (sCo S8 j) b_9) (sN S8))))) then (x2 - ((2 : Int32) * (nI (cnt (fun j => bt x1 j && lt (sCo S8 j) b_9) (sN S8))))) else 0 - (x2 - ((2 : Int32) * (nI (cnt (fun j => bt x1 j && lt (sCo S8 j) b_9) (sN S8)))))), .int (x5 + (1 : Int32)), ev_unk] [] h R)
  (k2 : x5 < f_bits_4 → ¬ (if 0 ≤ (x2 - ((2 : Int32) * (nI (cnt (fun j => bt x1 j && lt (sCo S8 j) b_9) (sN S8))))) then (x2 - ((2 : Int32) * (nI (cnt (fun j => bt x1 j && lt (sCo S8 j) b_9) (sN S8))))) else 0 - (x2 - ((2 : Int32) * (nI (cnt (fun j => bt x1 j && lt (sCo S8 j) b_9) (sN S8)))))) < x4 → Ev G (d + 6) k n M_X_telling 23 [.ref 0, .int x1, .int x2, .int x3, .int x4, .int (x5 + (1 : Int32)), ev_unk] [] h R)
  (k3 : ¬ x5 < f_bits_4 → R (some (.int x3)) (xoS h 0 fk11 fp12))
  : Ev G (d + 6) k n M_X_telling 23 [.ref 0, .int x1, .int x2, .int x3, .int x4, .int x5, ev_unk] [] h R :=
  Ev.go (pc' := 26) (ls' := [.ref 0, .int x1, .int x2, .int x3, .int x4, .int x5, ev_unk]) (st' := [.ref 0, .int x5]) [.iload 5, .aload_n 0] (by decide +kernel) rfl <|
  Ev.getf f_X_10 (by decide +kernel) a1 rfl <|
  Ev.getf f_X_90 (by decide +kernel) a2 rfl <|
  Ev.br (i := .if_icmp .ge (42)) (P := x5 < f_bits_4) (t := 35) (f := 74) (r := []) (by decide +kernel) rfl (fun c1 =>
    Ev.go (pc' := 38) (ls' := [.ref 0, .int x1, .int x2, .int x3, .int x4, .int x5, ev_unk]) (st' := [.ref 0, .int (2 : Int32), .int x2]) [.iload_n 2, .iconst 2, .aload_n 0] (by decide +kernel) rfl <|
    Ev.getf f_X_10 (by decide +kernel) a1 rfl <|
    Ev.go (pc' := 44) (ls' := [.ref 0, .int x1, .int x2, .int x3, .int x4, .int x5, ev_unk]) (st' := [.int x5, .int x1, .ref 1, .int (2 : Int32), .int x2]) [.iload_n 1, .iload 5] (by decide +kernel) rfl <|
    Ev.cV0 (M' := M_St_onesAt) (as := [.int x1, .int x5]) (rest := [.int (2 : Int32), .int x2]) l_X_266 M_St_onesAt_ok M_St_onesAt_in M_St_onesAt_se (by decide +kernel) ⟨_, a2⟩ rfl rfl rfl (Nat.le_of_ble_eq_true rfl) (Nat.le_of_ble_eq_true rfl) (s_St_onesAt' (pr3 c1) (pr4 c1) (pr5 c1) <| show Ev G (d + 6) _ _ M_X_telling 47 [.ref 0, .int x1, .int x2, .int x3, .int x4, .int x5, ev_unk] [.int (nI (cnt (fun j => bt x1 j && lt (sCo S8 j) b_9) (sN S8))), .int (2 : Int32), .int x2] h R from
      Ev.go (pc' := 49) (ls' := [.ref 0, .int x1, .int x2, .int x3, .int x4, .int x5, ev_unk]) (st' := [.int (x2 - ((2 : Int32) * (nI (cnt (fun j => bt x1 j && lt (sCo S8 j) b_9) (sN S8)))))]) [.imul, .isub] (by decide +kernel) rfl <|
      Ev.mabs lL_X_269 w_absS w_mathI w_absC (Nat.le_of_ble_eq_true rfl) (by decide +kernel) <|
      Ev.go (pc' := 58) (ls' := [.ref 0, .int x1, .int x2, .int x3, .int x4, .int x5, .int (if 0 ≤ (x2 - ((2 : Int32) * (nI (cnt (fun j => bt x1 j && lt (sCo S8 j) b_9) (sN S8))))) then (x2 - ((2 : Int32) * (nI (cnt (fun j => bt x1 j && lt (sCo S8 j) b_9) (sN S8))))) else 0 - (x2 - ((2 : Int32) * (nI (cnt (fun j => bt x1 j && lt (sCo S8 j) b_9) (sN S8))))))]) (st' := [.int x4, .int (if 0 ≤ (x2 - ((2 : Int32) * (nI (cnt (fun j => bt x1 j && lt (sCo S8 j) b_9) (sN S8))))) then (x2 - ((2 : Int32) * (nI (cnt (fun j => bt x1 j && lt (sCo S8 j) b_9) (sN S8))))) else 0 - (x2 - ((2 : Int32) * (nI (cnt (fun j => bt x1 j && lt (sCo S8 j) b_9) (sN S8))))))]) [.istore 6, .iload 6, .iload 4] (by decide +kernel) rfl <|
      Ev.br (i := .if_icmp .ge (10)) (P := (if 0 ≤ (x2 - ((2 : Int32) * (nI (cnt (fun j => bt x1 j && lt (sCo S8 j) b_9) (sN S8))))) then (x2 - ((2 : Int32) * (nI (cnt (fun j => bt x1 j && lt (sCo S8 j) b_9) (sN S8))))) else 0 - (x2 - ((2 : Int32) * (nI (cnt (fun j => bt x1 j && lt (sCo S8 j) b_9) (sN S8)))))) < x4) (t := 61) (f := 68) (r := []) (by decide +kernel) rfl (fun c2 =>
        Ev.go (pc' := 23) (ls' := [.ref 0, .int x1, .int x2, .int x5, .int (if 0 ≤ (x2 - ((2 : Int32) * (nI (cnt (fun j => bt x1 j && lt (sCo S8 j) b_9) (sN S8))))) then (x2 - ((2 : Int32) * (nI (cnt (fun j => bt x1 j && lt (sCo S8 j) b_9) (sN S8))))) else 0 - (x2 - ((2 : Int32) * (nI (cnt (fun j => bt x1 j && lt (sCo S8 j) b_9) (sN S8)))))), .int (x5 + (1 : Int32)), .int (if 0 ≤ (x2 - ((2 : Int32) * (nI (cnt (fun j => bt x1 j && lt (sCo S8 j) b_9) (sN S8))))) then (x2 - ((2 : Int32) * (nI (cnt (fun j => bt x1 j && lt (sCo S8 j) b_9) (sN S8))))) else 0 - (x2 - ((2 : Int32) * (nI (cnt (fun j => bt x1 j && lt (sCo S8 j) b_9) (sN S8))))))]) (st' := []) [.iload 6, .istore 4, .iload 5, .istore_n 3, .iinc 5 (1), .goto (-48)] (by decide +kernel) rfl <|
        Ev.forget (ls' := [.ref 0, .int x1, .int x2, .int x5, .int (if 0 ≤ (x2 - ((2 : Int32) * (nI (cnt (fun j => bt x1 j && lt (sCo S8 j) b_9) (sN S8))))) then (x2 - ((2 : Int32) * (nI (cnt (fun j => bt x1 j && lt (sCo S8 j) b_9) (sN S8))))) else 0 - (x2 - ((2 : Int32) * (nI (cnt (fun j => bt x1 j && lt (sCo S8 j) b_9) (sN S8)))))), .int (x5 + (1 : Int32)), ev_unk]) ⟨Or.inr rfl, Or.inr rfl, Or.inr rfl, Or.inr rfl, Or.inr rfl, Or.inr rfl, Or.inl rfl, trivial⟩ <|
        (k1 c1 c2)
      ) (fun c2 =>
        Ev.go (pc' := 23) (ls' := [.ref 0, .int x1, .int x2, .int x3, .int x4, .int (x5 + (1 : Int32)), .int (if 0 ≤ (x2 - ((2 : Int32) * (nI (cnt (fun j => bt x1 j && lt (sCo S8 j) b_9) (sN S8))))) then (x2 - ((2 : Int32) * (nI (cnt (fun j => bt x1 j && lt (sCo S8 j) b_9) (sN S8))))) else 0 - (x2 - ((2 : Int32) * (nI (cnt (fun j => bt x1 j && lt (sCo S8 j) b_9) (sN S8))))))]) (st' := []) [.iinc 5 (1), .goto (-48)] (by decide +kernel) rfl <|
        Ev.forget (ls' := [.ref 0, .int x1, .int x2, .int x3, .int x4, .int (x5 + (1 : Int32)), ev_unk]) ⟨Or.inr rfl, Or.inr rfl, Or.inr rfl, Or.inr rfl, Or.inr rfl, Or.inr rfl, Or.inl rfl, trivial⟩ <|
        (k2 c1 c2)
      )
    )
  ) (fun c1 =>
    Ev.go (pc' := 76) (ls' := [.ref 0, .int x1, .int x2, .int x3, .int x4, .int x5, ev_unk]) (st' := [.int x3, .ref 0]) [.aload_n 0, .iload_n 3] (by decide +kernel) rfl <|
    Ev.cV0 (M' := M_X_answer) (as := [.int x3]) (rest := []) l_X_87 M_X_answer_ok M_X_answer_in M_X_answer_se (by decide +kernel) ⟨_, a1⟩ rfl rfl rfl (Nat.le_of_ble_eq_true rfl) (Nat.le_of_ble_eq_true rfl) (s_X_answer' (pr6 c1) <| show Ev G (d + 6) _ _ M_X_telling 79 [.ref 0, .int x1, .int x2, .int x3, .int x4, .int x5, ev_unk] [.int x3] (xoS h 0 fk11 fp12) R from
      Ev.ret (r := (some (.int x3))) (Or.inl ⟨_, rfl, by decide +kernel, _, rfl, rfl⟩) (k3 c1)
    )
  )
theorem b_X_alike_0 {G : ev_G} {d k n : Nat} {h : ev_H} {R : Option Value → ev_H → Prop} {x1 : Int32} {x2 : Int32} {S1 : AS} {la2 : Int32} {fk3 : Int32} {fp4 : Int32} {la5 : Int32} {fk6 : Int32} {fp7 : Int32} {S8 : AS} {la9 : Int32} {fk10 : Int32} {fp11 : Int32} {la12 : Int32} {fk13 : Int32} {fp14 : Int32} {f_latest_15 : Int32} {f_faultKind_16 : Int32} {f_faultPlace_17 : Int32} {S18 : AS}
  (a13 : hat h 0 (oC 8 [.ref 1, .ref 5, .ref 18, .ref 81, .ref 98, .int f_latest_15, .int f_faultKind_16, .int f_faultPlace_17]))
  (pr1 : XO h la2 fk3 fp4)
  (pr2 : StR h 1 S1)
  (pr3 : sOk S1)
  (r4 : ∃ fs, hat h 0 (oC 8 fs))
  (pr5 : (b2i (inR x1 (sB S1))) = (0 : Int32) → XO h la5 fk6 fp7)
  (r6 : (b2i (inR x1 (sB S1))) = (0 : Int32) → ∃ fs, hat h 0 (oC 8 fs))
  (pr7 : ¬ (b2i (inR x1 (sB S1))) = (0 : Int32) → XO h la9 fk10 fp11)
  (pr8 : ¬ (b2i (inR x1 (sB S1))) = (0 : Int32) → StR h 1 S8)
  (pr9 : ¬ (b2i (inR x1 (sB S1))) = (0 : Int32) → sOk S8)
  (r10 : ¬ (b2i (inR x1 (sB S1))) = (0 : Int32) → ∃ fs, hat h 0 (oC 8 fs))
  (pr11 : ¬ (b2i (inR x1 (sB S1))) = (0 : Int32) → (b2i (inR x2 (sB S8))) = (0 : Int32) → XO h la12 fk13 fp14)
  (r12 : ¬ (b2i (inR x1 (sB S1))) = (0 : Int32) → (b2i (inR x2 (sB S8))) = (0 : Int32) → ∃ fs, hat h 0 (oC 8 fs))
  (pr14 : ¬ (b2i (inR x1 (sB S1))) = (0 : Int32) → ¬ (b2i (inR x2 (sB S8))) = (0 : Int32) → StR h 1 S18)
  (pr15 : ¬ (b2i (inR x1 (sB S1))) = (0 : Int32) → ¬ (b2i (inR x2 (sB S8))) = (0 : Int32) → sOk S18)
  (pr16 : ¬ (b2i (inR x1 (sB S1))) = (0 : Int32) → ¬ (b2i (inR x2 (sB S8))) = (0 : Int32) → sFl S18 = [] ∨ flOk (sFl S18))
  (r17 : ¬ (b2i (inR x1 (sB S1))) = (0 : Int32) → ¬ (b2i (inR x2 (sB S8))) = (0 : Int32) → ∃ fs, hat h 1 (oC 6 fs))
  (k1 : (b2i (inR x1 (sB S1))) = (0 : Int32) → R (some (.int (-1 : Int32))) (xoS h (1 : Int32) fk6 fp7))
  (k2 : ¬ (b2i (inR x1 (sB S1))) = (0 : Int32) → (b2i (inR x2 (sB S8))) = (0 : Int32) → R (some (.int (-1 : Int32))) (xoS h (1 : Int32) fk13 fp14))
  (k3 : ¬ (b2i (inR x1 (sB S1))) = (0 : Int32) → ¬ (b2i (inR x2 (sB S8))) = (0 : Int32) → Ev G (d + 6) k n M_X_alike 36 [.ref 0, .int x1, .int x2, .int (setI (ctP S18)), .int (0 : Int32), .int (0 : Int32)] [] h R)
  : Ev G (d + 6) k n M_X_alike 0 [.ref 0, .int x1, .int x2, ev_unk, ev_unk, ev_unk] [] h R :=
  Ev.go (pc' := 2) (ls' := [.ref 0, .int x1, .int x2, ev_unk, ev_unk, ev_unk]) (st' := [.int x1, .ref 0]) [.aload_n 0, .iload_n 1] (by decide +kernel) rfl <|
  Ev.cV0 (M' := M_X_isBit) (as := [.int x1]) (rest := []) l_X_167 M_X_isBit_ok M_X_isBit_in M_X_isBit_se (by decide +kernel) r4 rfl rfl rfl (Nat.le_of_ble_eq_true rfl) (Nat.le_of_ble_eq_true rfl) (s_X_isBit pr1 pr2 pr3 <| show Ev G (d + 6) _ _ M_X_alike 5 [.ref 0, .int x1, .int x2, ev_unk, ev_unk, ev_unk] [.int (b2i (inR x1 (sB S1)))] h R from
    Ev.br (i := .ifCond .eq (11)) (P := (b2i (inR x1 (sB S1))) = (0 : Int32)) (t := 16) (f := 8) (r := []) (by decide +kernel) rfl (fun c1 =>
      Ev.go (pc' := 18) (ls' := [.ref 0, .int x1, .int x2, ev_unk, ev_unk, ev_unk]) (st' := [.int (1 : Int32), .ref 0]) [.aload_n 0, .iconst 1] (by decide +kernel) rfl <|
      Ev.cV0 (M' := M_X_refuse) (as := [.int (1 : Int32)]) (rest := []) l_X_67 M_X_refuse_ok M_X_refuse_in M_X_refuse_se (by decide +kernel) (r6 c1) rfl rfl rfl (Nat.le_of_ble_eq_true rfl) (Nat.le_of_ble_eq_true rfl) (s_X_refuse' (pr5 c1) <| show Ev G (d + 6) _ _ M_X_alike 21 [.ref 0, .int x1, .int x2, ev_unk, ev_unk, ev_unk] [.int (-1 : Int32)] (xoS h (1 : Int32) fk6 fp7) R from
        Ev.ret (r := (some (.int (-1 : Int32)))) (Or.inl ⟨_, rfl, by decide +kernel, _, rfl, rfl⟩) (k1 c1)
      )
    ) (fun c1 =>
      Ev.go (pc' := 10) (ls' := [.ref 0, .int x1, .int x2, ev_unk, ev_unk, ev_unk]) (st' := [.int x2, .ref 0]) [.aload_n 0, .iload_n 2] (by decide +kernel) rfl <|
      Ev.cV0 (M' := M_X_isBit) (as := [.int x2]) (rest := []) l_X_167 M_X_isBit_ok M_X_isBit_in M_X_isBit_se (by decide +kernel) (r10 c1) rfl rfl rfl (Nat.le_of_ble_eq_true rfl) (Nat.le_of_ble_eq_true rfl) (s_X_isBit (pr7 c1) (pr8 c1) (pr9 c1) <| show Ev G (d + 6) _ _ M_X_alike 13 [.ref 0, .int x1, .int x2, ev_unk, ev_unk, ev_unk] [.int (b2i (inR x2 (sB S8)))] h R from
        Ev.br (i := .ifCond .ne (9)) (P := (b2i (inR x2 (sB S8))) = (0 : Int32)) (t := 16) (f := 22) (r := []) (by decide +kernel) rfl (fun c2 =>
          Ev.go (pc' := 18) (ls' := [.ref 0, .int x1, .int x2, ev_unk, ev_unk, ev_unk]) (st' := [.int (1 : Int32), .ref 0]) [.aload_n 0, .iconst 1] (by decide +kernel) rfl <|
          Ev.cV0 (M' := M_X_refuse) (as := [.int (1 : Int32)]) (rest := []) l_X_67 M_X_refuse_ok M_X_refuse_in M_X_refuse_se (by decide +kernel) (r12 c1 c2) rfl rfl rfl (Nat.le_of_ble_eq_true rfl) (Nat.le_of_ble_eq_true rfl) (s_X_refuse' (pr11 c1 c2) <| show Ev G (d + 6) _ _ M_X_alike 21 [.ref 0, .int x1, .int x2, ev_unk, ev_unk, ev_unk] [.int (-1 : Int32)] (xoS h (1 : Int32) fk13 fp14) R from
            Ev.ret (r := (some (.int (-1 : Int32)))) (Or.inl ⟨_, rfl, by decide +kernel, _, rfl, rfl⟩) (k2 c1 c2)
          )
        ) (fun c2 =>
          Ev.go (pc' := 23) (ls' := [.ref 0, .int x1, .int x2, ev_unk, ev_unk, ev_unk]) (st' := [.ref 0]) [.aload_n 0] (by decide +kernel) rfl <|
          Ev.getf f_X_10 (by decide +kernel) a13 rfl <|
          Ev.cV0 (M' := M_St_counting) (as := []) (rest := []) l_X_96 M_St_counting_ok M_St_counting_in M_St_counting_se (by decide +kernel) (r17 c1 c2) rfl rfl rfl (Nat.le_of_ble_eq_true rfl) (Nat.le_of_ble_eq_true rfl) (s_St_counting (pr14 c1 c2) (pr15 c1 c2) (pr16 c1 c2) <| show Ev G (d + 6) _ _ M_X_alike 29 [.ref 0, .int x1, .int x2, ev_unk, ev_unk, ev_unk] [.int (setI (ctP S18))] h R from
            Ev.go (pc' := 36) (ls' := [.ref 0, .int x1, .int x2, .int (setI (ctP S18)), .int (0 : Int32), .int (0 : Int32)]) (st' := []) [.istore_n 3, .iconst 0, .istore 4, .iconst 0, .istore 5] (by decide +kernel) rfl <|
            (k3 c1 c2)
          )
        )
      )
    )
  )
theorem b_X_alike_36 {G : ev_G} {d k n : Nat} {h : ev_H} {R : Option Value → ev_H → Prop} {x1 : Int32} {x2 : Int32} {x3 : Int32} {x4 : Int32} {x5 : Int32} {f_latest_1 : Int32} {f_faultKind_2 : Int32} {f_faultPlace_3 : Int32} {f_bits_4 : Int32} {f_parts_5 : Int32} {f_size_6 : Int32} {fv7 : Value} {g8 : Nat → Int64} {j9 : Nat} {la10 : Int32} {fk11 : Int32} {fp12 : Int32}
  (a1 : hat h 0 (oC 8 [.ref 1, .ref 5, .ref 18, .ref 81, .ref 98, .int f_latest_1, .int f_faultKind_2, .int f_faultPlace_3]))
  (a2 : hat h 1 (oC 6 [.int f_bits_4, .int f_parts_5, .ref 2, .int f_size_6, .ref 3, .ref 4, fv7]))
  (a3 : hat h 3 (aL 32 g8))
  (i4 : x5 < (32 : Int32) → ¬ (b2i (inI x3 x5)) = (0 : Int32) → ev_ix x5 j9 32)
  (pr5 : ¬ x5 < (32 : Int32) → XO h la10 fk11 fp12)
  (r6 : ¬ x5 < (32 : Int32) → ∃ fs, hat h 0 (oC 8 fs))
  (k1 : x5 < (32 : Int32) → (b2i (inI x3 x5)) = (0 : Int32) → Ev G (d + 6) k n M_X_alike 36 [.ref 0, .int x1, .int x2, .int x3, .int x4, .int (x5 + (1 : Int32))] [] h R)
  (k2 : x5 < (32 : Int32) → ¬ (b2i (inI x3 x5)) = (0 : Int32) → (b2i (tbL (g8 j9) x1)) = (b2i (tbL (g8 j9) x2)) → Ev G (d + 6) k n M_X_alike 36 [.ref 0, .int x1, .int x2, .int x3, .int (x4 + (1 : Int32)), .int (x5 + (1 : Int32))] [] h R)
  (k3 : x5 < (32 : Int32) → ¬ (b2i (inI x3 x5)) = (0 : Int32) → ¬ (b2i (tbL (g8 j9) x1)) = (b2i (tbL (g8 j9) x2)) → Ev G (d + 6) k n M_X_alike 36 [.ref 0, .int x1, .int x2, .int x3, .int x4, .int (x5 + (1 : Int32))] [] h R)
  (k4 : ¬ x5 < (32 : Int32) → R (some (.int x4)) (xoS h 0 fk11 fp12))
  : Ev G (d + 6) k n M_X_alike 36 [.ref 0, .int x1, .int x2, .int x3, .int x4, .int x5] [] h R :=
  Ev.go (pc' := 40) (ls' := [.ref 0, .int x1, .int x2, .int x3, .int x4, .int x5]) (st' := [.int (32 : Int32), .int x5]) [.iload 5, .bipush (32)] (by decide +kernel) rfl <|
  Ev.br (i := .if_icmp .ge (52)) (P := x5 < (32 : Int32)) (t := 43) (f := 92) (r := []) (by decide +kernel) rfl (fun c1 =>
    Ev.go (pc' := 46) (ls' := [.ref 0, .int x1, .int x2, .int x3, .int x4, .int x5]) (st' := [.int x5, .int x3]) [.iload_n 3, .iload 5] (by decide +kernel) rfl <|
    Ev.cS0 (M' := M_X_isIn) (as := [.int x3, .int x5]) (rest := []) l_X_238 M_X_isIn_ok M_X_isIn_st (by decide +kernel) rfl rfl (Nat.le_of_ble_eq_true rfl) (Nat.le_of_ble_eq_true rfl) (s_X_isIn <| show Ev G (d + 6) _ _ M_X_alike 49 [.ref 0, .int x1, .int x2, .int x3, .int x4, .int x5] [.int (b2i (inI x3 x5))] h R from
      Ev.br (i := .ifCond .eq (37)) (P := (b2i (inI x3 x5)) = (0 : Int32)) (t := 86) (f := 52) (r := []) (by decide +kernel) rfl (fun c2 =>
        Ev.go (pc' := 36) (ls' := [.ref 0, .int x1, .int x2, .int x3, .int x4, .int (x5 + (1 : Int32))]) (st' := []) [.iinc 5 (1), .goto (-53)] (by decide +kernel) rfl <|
        (k1 c1 c2)
      ) (fun c2 =>
        Ev.go (pc' := 53) (ls' := [.ref 0, .int x1, .int x2, .int x3, .int x4, .int x5]) (st' := [.ref 0]) [.aload_n 0] (by decide +kernel) rfl <|
        Ev.getf f_X_10 (by decide +kernel) a1 rfl <|
        Ev.getf f_X_118 (by decide +kernel) a2 rfl <|
        Ev.go (pc' := 61) (ls' := [.ref 0, .int x1, .int x2, .int x3, .int x4, .int x5]) (st' := [.int x5, .ref 3]) [.iload 5] (by decide +kernel) rfl <|
        Ev.lald (j := j9) (by decide +kernel) a3 (i4 c1 c2) <|
        Ev.go (pc' := 63) (ls' := [.ref 0, .int x1, .int x2, .int x3, .int x4, .int x5]) (st' := [.int x1, .long (g8 j9)]) [.iload_n 1] (by decide +kernel) rfl <|
        Ev.cS0 (M' := M_X_bitOf) (as := [.long (g8 j9), .int x1]) (rest := []) l_X_170 M_X_bitOf_ok M_X_bitOf_st (by decide +kernel) rfl rfl (Nat.le_of_ble_eq_true rfl) (Nat.le_of_ble_eq_true rfl) (s_X_bitOf <| show Ev G (d + 6) _ _ M_X_alike 66 [.ref 0, .int x1, .int x2, .int x3, .int x4, .int x5] [.int (b2i (tbL (g8 j9) x1))] h R from
          Ev.go (pc' := 67) (ls' := [.ref 0, .int x1, .int x2, .int x3, .int x4, .int x5]) (st' := [.ref 0, .int (b2i (tbL (g8 j9) x1))]) [.aload_n 0] (by decide +kernel) rfl <|
          Ev.getf f_X_10 (by decide +kernel) a1 rfl <|
          Ev.getf f_X_118 (by decide +kernel) a2 rfl <|
          Ev.go (pc' := 75) (ls' := [.ref 0, .int x1, .int x2, .int x3, .int x4, .int x5]) (st' := [.int x5, .ref 3, .int (b2i (tbL (g8 j9) x1))]) [.iload 5] (by decide +kernel) rfl <|
          Ev.lald (j := j9) (by decide +kernel) a3 (i4 c1 c2) <|
          Ev.go (pc' := 77) (ls' := [.ref 0, .int x1, .int x2, .int x3, .int x4, .int x5]) (st' := [.int x2, .long (g8 j9), .int (b2i (tbL (g8 j9) x1))]) [.iload_n 2] (by decide +kernel) rfl <|
          Ev.cS0 (M' := M_X_bitOf) (as := [.long (g8 j9), .int x2]) (rest := [.int (b2i (tbL (g8 j9) x1))]) l_X_170 M_X_bitOf_ok M_X_bitOf_st (by decide +kernel) rfl rfl (Nat.le_of_ble_eq_true rfl) (Nat.le_of_ble_eq_true rfl) (s_X_bitOf <| show Ev G (d + 6) _ _ M_X_alike 80 [.ref 0, .int x1, .int x2, .int x3, .int x4, .int x5] [.int (b2i (tbL (g8 j9) x2)), .int (b2i (tbL (g8 j9) x1))] h R from
            Ev.br (i := .if_icmp .ne (6)) (P := (b2i (tbL (g8 j9) x1)) = (b2i (tbL (g8 j9) x2))) (t := 83) (f := 86) (r := []) (by decide +kernel) rfl (fun c3 =>
              Ev.go (pc' := 36) (ls' := [.ref 0, .int x1, .int x2, .int x3, .int (x4 + (1 : Int32)), .int (x5 + (1 : Int32))]) (st' := []) [.iinc 4 (1), .iinc 5 (1), .goto (-53)] (by decide +kernel) rfl <|
              (k2 c1 c2 c3)
            ) (fun c3 =>
              Ev.go (pc' := 36) (ls' := [.ref 0, .int x1, .int x2, .int x3, .int x4, .int (x5 + (1 : Int32))]) (st' := []) [.iinc 5 (1), .goto (-53)] (by decide +kernel) rfl <|
              (k3 c1 c2 c3)
            )
          )
        )
      )
    )
  ) (fun c1 =>
    Ev.go (pc' := 95) (ls' := [.ref 0, .int x1, .int x2, .int x3, .int x4, .int x5]) (st' := [.int x4, .ref 0]) [.aload_n 0, .iload 4] (by decide +kernel) rfl <|
    Ev.cV0 (M' := M_X_answer) (as := [.int x4]) (rest := []) l_X_87 M_X_answer_ok M_X_answer_in M_X_answer_se (by decide +kernel) (r6 c1) rfl rfl rfl (Nat.le_of_ble_eq_true rfl) (Nat.le_of_ble_eq_true rfl) (s_X_answer' (pr5 c1) <| show Ev G (d + 6) _ _ M_X_alike 98 [.ref 0, .int x1, .int x2, .int x3, .int x4, .int x5] [.int x4] (xoS h 0 fk11 fp12) R from
      Ev.ret (r := (some (.int x4))) (Or.inl ⟨_, rfl, by decide +kernel, _, rfl, rfl⟩) (k4 c1)
    )
  )
theorem b_X_spread_0 {G : ev_G} {d k n : Nat} {h : ev_H} {R : Option Value → ev_H → Prop} {x1 : Int32} {x2 : Int32} {la1 : Int32} {fk2 : Int32} {fp3 : Int32} {S4 : AS} {la5 : Int32} {fk6 : Int32} {fp7 : Int32} {la8 : Int32} {fk9 : Int32} {fp10 : Int32} {f_latest_11 : Int32} {f_faultKind_12 : Int32} {f_faultPlace_13 : Int32} {S14 : AS}
  (a9 : hat h 0 (oC 8 [.ref 1, .ref 5, .ref 18, .ref 81, .ref 98, .int f_latest_11, .int f_faultKind_12, .int f_faultPlace_13]))
  (pr1 : (b2i (decide (0 ≤ x2 ∧ x2 < (2 : Int32)))) = (0 : Int32) → XO h la1 fk2 fp3)
  (r2 : (b2i (decide (0 ≤ x2 ∧ x2 < (2 : Int32)))) = (0 : Int32) → ∃ fs, hat h 0 (oC 8 fs))
  (pr3 : ¬ (b2i (decide (0 ≤ x2 ∧ x2 < (2 : Int32)))) = (0 : Int32) → XO h la5 fk6 fp7)
  (pr4 : ¬ (b2i (decide (0 ≤ x2 ∧ x2 < (2 : Int32)))) = (0 : Int32) → StR h 1 S4)
  (pr5 : ¬ (b2i (decide (0 ≤ x2 ∧ x2 < (2 : Int32)))) = (0 : Int32) → sOk S4)
  (r6 : ¬ (b2i (decide (0 ≤ x2 ∧ x2 < (2 : Int32)))) = (0 : Int32) → ∃ fs, hat h 0 (oC 8 fs))
  (pr7 : ¬ (b2i (decide (0 ≤ x2 ∧ x2 < (2 : Int32)))) = (0 : Int32) → (b2i (inR x1 (sP S4))) = (0 : Int32) → XO h la8 fk9 fp10)
  (r8 : ¬ (b2i (decide (0 ≤ x2 ∧ x2 < (2 : Int32)))) = (0 : Int32) → (b2i (inR x1 (sP S4))) = (0 : Int32) → ∃ fs, hat h 0 (oC 8 fs))
  (pr10 : ¬ (b2i (decide (0 ≤ x2 ∧ x2 < (2 : Int32)))) = (0 : Int32) → ¬ (b2i (inR x1 (sP S4))) = (0 : Int32) → StR h 1 S14)
  (pr11 : ¬ (b2i (decide (0 ≤ x2 ∧ x2 < (2 : Int32)))) = (0 : Int32) → ¬ (b2i (inR x1 (sP S4))) = (0 : Int32) → sOk S14)
  (pr12 : ¬ (b2i (decide (0 ≤ x2 ∧ x2 < (2 : Int32)))) = (0 : Int32) → ¬ (b2i (inR x1 (sP S4))) = (0 : Int32) → sFl S14 = [] ∨ flOk (sFl S14))
  (r13 : ¬ (b2i (decide (0 ≤ x2 ∧ x2 < (2 : Int32)))) = (0 : Int32) → ¬ (b2i (inR x1 (sP S4))) = (0 : Int32) → ∃ fs, hat h 1 (oC 6 fs))
  (k1 : (b2i (decide (0 ≤ x2 ∧ x2 < (2 : Int32)))) = (0 : Int32) → R (some (.int (-1 : Int32))) (xoS h (1 : Int32) fk2 fp3))
  (k2 : ¬ (b2i (decide (0 ≤ x2 ∧ x2 < (2 : Int32)))) = (0 : Int32) → (b2i (inR x1 (sP S4))) = (0 : Int32) → R (some (.int (-1 : Int32))) (xoS h (2 : Int32) fk9 fp10))
  (k3 : ¬ (b2i (decide (0 ≤ x2 ∧ x2 < (2 : Int32)))) = (0 : Int32) → ¬ (b2i (inR x1 (sP S4))) = (0 : Int32) → Ev G (d + 6) k n M_X_spread 45 [.ref 0, .int x1, .int x2, .int (setI (ctP S14)), .int (0 : Int32), .int (0 : Int32), .int (0 : Int32), ev_unk] [] h R)
  : Ev G (d + 6) k n M_X_spread 0 [.ref 0, .int x1, .int x2, ev_unk, ev_unk, ev_unk, ev_unk, ev_unk] [] h R :=
  Ev.go (pc' := 2) (ls' := [.ref 0, .int x1, .int x2, ev_unk, ev_unk, ev_unk, ev_unk, ev_unk]) (st' := [.int (2 : Int32), .int x2]) [.iload_n 2, .iconst 2] (by decide +kernel) rfl <|
  Ev.cS0 (M' := M_X_isBelow) (as := [.int x2, .int (2 : Int32)]) (rest := []) l_X_148 M_X_isBelow_ok M_X_isBelow_st (by decide +kernel) rfl rfl (Nat.le_of_ble_eq_true rfl) (Nat.le_of_ble_eq_true rfl) (s_X_isBelow <| show Ev G (d + 6) _ _ M_X_spread 5 [.ref 0, .int x1, .int x2, ev_unk, ev_unk, ev_unk, ev_unk, ev_unk] [.int (b2i (decide (0 ≤ x2 ∧ x2 < (2 : Int32))))] h R from
    Ev.br (i := .ifCond .ne (9)) (P := (b2i (decide (0 ≤ x2 ∧ x2 < (2 : Int32)))) = (0 : Int32)) (t := 8) (f := 14) (r := []) (by decide +kernel) rfl (fun c1 =>
      Ev.go (pc' := 10) (ls' := [.ref 0, .int x1, .int x2, ev_unk, ev_unk, ev_unk, ev_unk, ev_unk]) (st' := [.int (1 : Int32), .ref 0]) [.aload_n 0, .iconst 1] (by decide +kernel) rfl <|
      Ev.cV0 (M' := M_X_refuse) (as := [.int (1 : Int32)]) (rest := []) l_X_67 M_X_refuse_ok M_X_refuse_in M_X_refuse_se (by decide +kernel) (r2 c1) rfl rfl rfl (Nat.le_of_ble_eq_true rfl) (Nat.le_of_ble_eq_true rfl) (s_X_refuse' (pr1 c1) <| show Ev G (d + 6) _ _ M_X_spread 13 [.ref 0, .int x1, .int x2, ev_unk, ev_unk, ev_unk, ev_unk, ev_unk] [.int (-1 : Int32)] (xoS h (1 : Int32) fk2 fp3) R from
        Ev.ret (r := (some (.int (-1 : Int32)))) (Or.inl ⟨_, rfl, by decide +kernel, _, rfl, rfl⟩) (k1 c1)
      )
    ) (fun c1 =>
      Ev.go (pc' := 16) (ls' := [.ref 0, .int x1, .int x2, ev_unk, ev_unk, ev_unk, ev_unk, ev_unk]) (st' := [.int x1, .ref 0]) [.aload_n 0, .iload_n 1] (by decide +kernel) rfl <|
      Ev.cV0 (M' := M_X_isPart) (as := [.int x1]) (rest := []) l_X_130 M_X_isPart_ok M_X_isPart_in M_X_isPart_se (by decide +kernel) (r6 c1) rfl rfl rfl (Nat.le_of_ble_eq_true rfl) (Nat.le_of_ble_eq_true rfl) (s_X_isPart (pr3 c1) (pr4 c1) (pr5 c1) <| show Ev G (d + 6) _ _ M_X_spread 19 [.ref 0, .int x1, .int x2, ev_unk, ev_unk, ev_unk, ev_unk, ev_unk] [.int (b2i (inR x1 (sP S4)))] h R from
        Ev.br (i := .ifCond .ne (9)) (P := (b2i (inR x1 (sP S4))) = (0 : Int32)) (t := 22) (f := 28) (r := []) (by decide +kernel) rfl (fun c2 =>
          Ev.go (pc' := 24) (ls' := [.ref 0, .int x1, .int x2, ev_unk, ev_unk, ev_unk, ev_unk, ev_unk]) (st' := [.int (2 : Int32), .ref 0]) [.aload_n 0, .iconst 2] (by decide +kernel) rfl <|
          Ev.cV0 (M' := M_X_refuse) (as := [.int (2 : Int32)]) (rest := []) l_X_67 M_X_refuse_ok M_X_refuse_in M_X_refuse_se (by decide +kernel) (r8 c1 c2) rfl rfl rfl (Nat.le_of_ble_eq_true rfl) (Nat.le_of_ble_eq_true rfl) (s_X_refuse' (pr7 c1 c2) <| show Ev G (d + 6) _ _ M_X_spread 27 [.ref 0, .int x1, .int x2, ev_unk, ev_unk, ev_unk, ev_unk, ev_unk] [.int (-1 : Int32)] (xoS h (2 : Int32) fk9 fp10) R from
            Ev.ret (r := (some (.int (-1 : Int32)))) (Or.inl ⟨_, rfl, by decide +kernel, _, rfl, rfl⟩) (k2 c1 c2)
          )
        ) (fun c2 =>
          Ev.go (pc' := 29) (ls' := [.ref 0, .int x1, .int x2, ev_unk, ev_unk, ev_unk, ev_unk, ev_unk]) (st' := [.ref 0]) [.aload_n 0] (by decide +kernel) rfl <|
          Ev.getf f_X_10 (by decide +kernel) a9 rfl <|
          Ev.cV0 (M' := M_St_counting) (as := []) (rest := []) l_X_96 M_St_counting_ok M_St_counting_in M_St_counting_se (by decide +kernel) (r13 c1 c2) rfl rfl rfl (Nat.le_of_ble_eq_true rfl) (Nat.le_of_ble_eq_true rfl) (s_St_counting (pr10 c1 c2) (pr11 c1 c2) (pr12 c1 c2) <| show Ev G (d + 6) _ _ M_X_spread 35 [.ref 0, .int x1, .int x2, ev_unk, ev_unk, ev_unk, ev_unk, ev_unk] [.int (setI (ctP S14))] h R from
            Ev.go (pc' := 45) (ls' := [.ref 0, .int x1, .int x2, .int (setI (ctP S14)), .int (0 : Int32), .int (0 : Int32), .int (0 : Int32), ev_unk]) (st' := []) [.istore_n 3, .iconst 0, .istore 4, .iconst 0, .istore 5, .iconst 0, .istore 6] (by decide +kernel) rfl <|
            (k3 c1 c2)
          )
        )
      )
    )
  )
theorem b_X_spread_45 {G : ev_G} {d k n : Nat} {h : ev_H} {R : Option Value → ev_H → Prop} {x1 : Int32} {x2 : Int32} {x3 : Int32} {x4 : Int32} {x5 : Int32} {x6 : Int32} {f_latest_1 : Int32} {f_faultKind_2 : Int32} {f_faultPlace_3 : Int32} {S4 : AS} {c_5 : Nat} {p_6 : Nat} {la7 : Int32} {fk8 : Int32} {fp9 : Int32} {la10 : Int32} {fk11 : Int32} {fp12 : Int32}
  (a1 : hat h 0 (oC 8 [.ref 1, .ref 5, .ref 18, .ref 81, .ref 98, .int f_latest_1, .int f_faultKind_2, .int f_faultPlace_3]))
  (pr2 : x6 < (32 : Int32) → ¬ (b2i (inI x3 x6)) = (0 : Int32) → StR h 1 S4)
  (pr3 : x6 < (32 : Int32) → ¬ (b2i (inI x3 x6)) = (0 : Int32) → sOk S4)
  (pr4 : x6 < (32 : Int32) → ¬ (b2i (inI x3 x6)) = (0 : Int32) → x6 = nI c_5 ∧ c_5 < sN S4)
  (pr5 : x6 < (32 : Int32) → ¬ (b2i (inI x3 x6)) = (0 : Int32) → x1 = nI p_6 ∧ p_6 < sP S4)
  (r6 : x6 < (32 : Int32) → ¬ (b2i (inI x3 x6)) = (0 : Int32) → ∃ fs, hat h 1 (oC 6 fs))
  (pr7 : ¬ x6 < (32 : Int32) → x2 = (0 : Int32) → XO h la7 fk8 fp9)
  (r8 : ¬ x6 < (32 : Int32) → x2 = (0 : Int32) → ∃ fs, hat h 0 (oC 8 fs))
  (pr9 : ¬ x6 < (32 : Int32) → ¬ x2 = (0 : Int32) → XO h la10 fk11 fp12)
  (r10 : ¬ x6 < (32 : Int32) → ¬ x2 = (0 : Int32) → ∃ fs, hat h 0 (oC 8 fs))
  (k1 : x6 < (32 : Int32) → (b2i (inI x3 x6)) = (0 : Int32) → Ev G (d + 6) k n M_X_spread 45 [.ref 0, .int x1, .int x2, .int x3, .int x4, .int x5, .int (x6 + (1 : Int32)), ev_unk] [] h R)
  (k2 : x6 < (32 : Int32) → ¬ (b2i (inI x3 x6)) = (0 : Int32) → Ev G (d + 6) k n M_X_spread 45 [.ref 0, .int x1, .int x2, .int (x3 &&& ((setI (skP S4 (bt x3) c_5 p_6)) ^^^ (-1 : Int32))), .int (x4 + (1 : Int32)), .int (if x5 < (nI (pop32 (setI (skP S4 (bt x3) c_5 p_6)))) then (nI (pop32 (setI (skP S4 (bt x3) c_5 p_6)))) else x5), .int (x6 + (1 : Int32)), ev_unk] [] h R)
  (k3 : ¬ x6 < (32 : Int32) → x2 = (0 : Int32) → R (some (.int x4)) (xoS h 0 fk8 fp9))
  (k4 : ¬ x6 < (32 : Int32) → ¬ x2 = (0 : Int32) → R (some (.int x5)) (xoS h 0 fk11 fp12))
  : Ev G (d + 6) k n M_X_spread 45 [.ref 0, .int x1, .int x2, .int x3, .int x4, .int x5, .int x6, ev_unk] [] h R :=
  Ev.go (pc' := 49) (ls' := [.ref 0, .int x1, .int x2, .int x3, .int x4, .int x5, .int x6, ev_unk]) (st' := [.int (32 : Int32), .int x6]) [.iload 6, .bipush (32)] (by decide +kernel) rfl <|
  Ev.br (i := .if_icmp .ge (53)) (P := x6 < (32 : Int32)) (t := 52) (f := 102) (r := []) (by decide +kernel) rfl (fun c1 =>
    Ev.go (pc' := 55) (ls' := [.ref 0, .int x1, .int x2, .int x3, .int x4, .int x5, .int x6, ev_unk]) (st' := [.int x6, .int x3]) [.iload_n 3, .iload 6] (by decide +kernel) rfl <|
    Ev.cS0 (M' := M_X_isIn) (as := [.int x3, .int x6]) (rest := []) l_X_238 M_X_isIn_ok M_X_isIn_st (by decide +kernel) rfl rfl (Nat.le_of_ble_eq_true rfl) (Nat.le_of_ble_eq_true rfl) (s_X_isIn <| show Ev G (d + 6) _ _ M_X_spread 58 [.ref 0, .int x1, .int x2, .int x3, .int x4, .int x5, .int x6, ev_unk] [.int (b2i (inI x3 x6))] h R from
      Ev.br (i := .ifCond .eq (38)) (P := (b2i (inI x3 x6)) = (0 : Int32)) (t := 96) (f := 61) (r := []) (by decide +kernel) rfl (fun c2 =>
        Ev.go (pc' := 45) (ls' := [.ref 0, .int x1, .int x2, .int x3, .int x4, .int x5, .int (x6 + (1 : Int32)), ev_unk]) (st' := []) [.iinc 6 (1), .goto (-54)] (by decide +kernel) rfl <|
        (k1 c1 c2)
      ) (fun c2 =>
        Ev.go (pc' := 62) (ls' := [.ref 0, .int x1, .int x2, .int x3, .int x4, .int x5, .int x6, ev_unk]) (st' := [.ref 0]) [.aload_n 0] (by decide +kernel) rfl <|
        Ev.getf f_X_10 (by decide +kernel) a1 rfl <|
        Ev.go (pc' := 69) (ls' := [.ref 0, .int x1, .int x2, .int x3, .int x4, .int x5, .int x6, ev_unk]) (st' := [.int x1, .int x6, .int x3, .ref 1]) [.iload_n 3, .iload 6, .iload_n 1] (by decide +kernel) rfl <|
        Ev.cV0 (M' := M_St_sameKey) (as := [.int x3, .int x6, .int x1]) (rest := []) l_X_274 M_St_sameKey_ok M_St_sameKey_in M_St_sameKey_se (by decide +kernel) (r6 c1 c2) rfl rfl rfl (Nat.le_of_ble_eq_true rfl) (Nat.le_of_ble_eq_true rfl) (s_St_sameKey (pr2 c1 c2) (pr3 c1 c2) (pr4 c1 c2) (pr5 c1 c2) <| show Ev G (d + 6) _ _ M_X_spread 72 [.ref 0, .int x1, .int x2, .int x3, .int x4, .int x5, .int x6, ev_unk] [.int (setI (skP S4 (bt x3) c_5 p_6))] h R from
          Ev.go (pc' := 88) (ls' := [.ref 0, .int x1, .int x2, .int (x3 &&& ((setI (skP S4 (bt x3) c_5 p_6)) ^^^ (-1 : Int32))), .int (x4 + (1 : Int32)), .int x5, .int x6, .int (setI (skP S4 (bt x3) c_5 p_6))]) (st' := [.int (setI (skP S4 (bt x3) c_5 p_6)), .int x5]) [.istore 7, .iload_n 3, .iload 7, .iconst (-1), .ixor, .iand, .istore_n 3, .iinc 4 (1), .iload 5, .iload 7] (by decide +kernel) rfl <|
          Ev.cS0 (M' := M_JI_bitCount) (as := [.int (setI (skP S4 (bt x3) c_5 p_6))]) (rest := [.int x5]) l_X_99 M_JI_bitCount_ok M_JI_bitCount_st (by decide +kernel) rfl rfl (Nat.le_of_ble_eq_true rfl) (Nat.le_of_ble_eq_true rfl) (s_JI_bitCount <| show Ev G (d + 6) _ _ M_X_spread 91 [.ref 0, .int x1, .int x2, .int (x3 &&& ((setI (skP S4 (bt x3) c_5 p_6)) ^^^ (-1 : Int32))), .int (x4 + (1 : Int32)), .int x5, .int x6, .int (setI (skP S4 (bt x3) c_5 p_6))] [.int (nI (pop32 (setI (skP S4 (bt x3) c_5 p_6)))), .int x5] h R from
            Ev.mmax lL_X_277 w_maxS w_mathI w_maxC (Nat.le_of_ble_eq_true rfl) (by decide +kernel) <|
            Ev.go (pc' := 45) (ls' := [.ref 0, .int x1, .int x2, .int (x3 &&& ((setI (skP S4 (bt x3) c_5 p_6)) ^^^ (-1 : Int32))), .int (x4 + (1 : Int32)), .int (if x5 < (nI (pop32 (setI (skP S4 (bt x3) c_5 p_6)))) then (nI (pop32 (setI (skP S4 (bt x3) c_5 p_6)))) else x5), .int (x6 + (1 : Int32)), .int (setI (skP S4 (bt x3) c_5 p_6))]) (st' := []) [.istore 5, .iinc 6 (1), .goto (-54)] (by decide +kernel) rfl <|
            Ev.forget (ls' := [.ref 0, .int x1, .int x2, .int (x3 &&& ((setI (skP S4 (bt x3) c_5 p_6)) ^^^ (-1 : Int32))), .int (x4 + (1 : Int32)), .int (if x5 < (nI (pop32 (setI (skP S4 (bt x3) c_5 p_6)))) then (nI (pop32 (setI (skP S4 (bt x3) c_5 p_6)))) else x5), .int (x6 + (1 : Int32)), ev_unk]) ⟨Or.inr rfl, Or.inr rfl, Or.inr rfl, Or.inr rfl, Or.inr rfl, Or.inr rfl, Or.inr rfl, Or.inl rfl, trivial⟩ <|
            (k2 c1 c2)
          )
        )
      )
    )
  ) (fun c1 =>
    Ev.go (pc' := 104) (ls' := [.ref 0, .int x1, .int x2, .int x3, .int x4, .int x5, .int x6, ev_unk]) (st' := [.int x2, .ref 0]) [.aload_n 0, .iload_n 2] (by decide +kernel) rfl <|
    Ev.br (i := .ifCond .ne (8)) (P := x2 = (0 : Int32)) (t := 107) (f := 112) (r := [.ref 0]) (by decide +kernel) rfl (fun c2 =>
      Ev.go (pc' := 114) (ls' := [.ref 0, .int x1, .int x2, .int x3, .int x4, .int x5, .int x6, ev_unk]) (st' := [.int x4, .ref 0]) [.iload 4, .goto (5)] (by decide +kernel) rfl <|
      Ev.cV0 (M' := M_X_answer) (as := [.int x4]) (rest := []) l_X_87 M_X_answer_ok M_X_answer_in M_X_answer_se (by decide +kernel) (r8 c1 c2) rfl rfl rfl (Nat.le_of_ble_eq_true rfl) (Nat.le_of_ble_eq_true rfl) (s_X_answer' (pr7 c1 c2) <| show Ev G (d + 6) _ _ M_X_spread 117 [.ref 0, .int x1, .int x2, .int x3, .int x4, .int x5, .int x6, ev_unk] [.int x4] (xoS h 0 fk8 fp9) R from
        Ev.ret (r := (some (.int x4))) (Or.inl ⟨_, rfl, by decide +kernel, _, rfl, rfl⟩) (k3 c1 c2)
      )
    ) (fun c2 =>
      Ev.go (pc' := 114) (ls' := [.ref 0, .int x1, .int x2, .int x3, .int x4, .int x5, .int x6, ev_unk]) (st' := [.int x5, .ref 0]) [.iload 5] (by decide +kernel) rfl <|
      Ev.cV0 (M' := M_X_answer) (as := [.int x5]) (rest := []) l_X_87 M_X_answer_ok M_X_answer_in M_X_answer_se (by decide +kernel) (r10 c1 c2) rfl rfl rfl (Nat.le_of_ble_eq_true rfl) (Nat.le_of_ble_eq_true rfl) (s_X_answer' (pr9 c1 c2) <| show Ev G (d + 6) _ _ M_X_spread 117 [.ref 0, .int x1, .int x2, .int x3, .int x4, .int x5, .int x6, ev_unk] [.int x5] (xoS h 0 fk11 fp12) R from
        Ev.ret (r := (some (.int x5))) (Or.inl ⟨_, rfl, by decide +kernel, _, rfl, rfl⟩) (k4 c1 c2)
      )
    )
  )
theorem b_X_parted_0 {G : ev_G} {d k n : Nat} {h : ev_H} {R : Option Value → ev_H → Prop} {x1 : Int32} {x2 : Int32} {S1 : AS} {la2 : Int32} {fk3 : Int32} {fp4 : Int32} {la5 : Int32} {fk6 : Int32} {fp7 : Int32} {la8 : Int32} {fk9 : Int32} {fp10 : Int32} {la11 : Int32} {fk12 : Int32} {fp13 : Int32} {f_latest_14 : Int32} {f_faultKind_15 : Int32} {f_faultPlace_16 : Int32} {f_bits_17 : Int32} {f_parts_18 : Int32} {f_size_19 : Int32} {fv20 : Value}
  (a11 : hat h 0 (oC 8 [.ref 1, .ref 5, .ref 18, .ref 81, .ref 98, .int f_latest_14, .int f_faultKind_15, .int f_faultPlace_16]))
  (a12 : hat h 1 (oC 6 [.int f_bits_17, .int f_parts_18, .ref 2, .int f_size_19, .ref 3, .ref 4, fv20]))
  (pr1 : XO h la2 fk3 fp4)
  (pr2 : StR h 1 S1)
  (pr3 : sOk S1)
  (r4 : ∃ fs, hat h 0 (oC 8 fs))
  (pr5 : (b2i (inR x2 (sB S1 + 1))) = (0 : Int32) → XO h la5 fk6 fp7)
  (r6 : (b2i (inR x2 (sB S1 + 1))) = (0 : Int32) → ∃ fs, hat h 0 (oC 8 fs))
  (pr7 : ¬ (b2i (inR x2 (sB S1 + 1))) = (0 : Int32) → x1 < (1 : Int32) → XO h la8 fk9 fp10)
  (r8 : ¬ (b2i (inR x2 (sB S1 + 1))) = (0 : Int32) → x1 < (1 : Int32) → ∃ fs, hat h 0 (oC 8 fs))
  (pr9 : ¬ (b2i (inR x2 (sB S1 + 1))) = (0 : Int32) → ¬ x1 < (1 : Int32) → (24 : Int32) < x1 → XO h la11 fk12 fp13)
  (r10 : ¬ (b2i (inR x2 (sB S1 + 1))) = (0 : Int32) → ¬ x1 < (1 : Int32) → (24 : Int32) < x1 → ∃ fs, hat h 0 (oC 8 fs))
  (k1 : (b2i (inR x2 (sB S1 + 1))) = (0 : Int32) → R (some (.int (-1 : Int32))) (xoS h (1 : Int32) fk6 fp7))
  (k2 : ¬ (b2i (inR x2 (sB S1 + 1))) = (0 : Int32) → x1 < (1 : Int32) → R (some (.int (-1 : Int32))) (xoS h (1 : Int32) fk9 fp10))
  (k3 : ¬ (b2i (inR x2 (sB S1 + 1))) = (0 : Int32) → ¬ x1 < (1 : Int32) → (24 : Int32) < x1 → R (some (.int (-1 : Int32))) (xoS h (1 : Int32) fk12 fp13))
  (k4 : ¬ (b2i (inR x2 (sB S1 + 1))) = (0 : Int32) → ¬ x1 < (1 : Int32) → ¬ (24 : Int32) < x1 → Ev G (d + 5) 0 0 M_X_isUpper 0 [.int (f_bits_17 - x1)] [] h (fun r h1 => Ev G (d + 6) k n M_X_parted 37 [.ref 0, .int x1, .int x2] (r.toList ++ []) h1 R))
  : Ev G (d + 6) k n M_X_parted 0 [.ref 0, .int x1, .int x2] [] h R :=
  Ev.go (pc' := 2) (ls' := [.ref 0, .int x1, .int x2]) (st' := [.int x2, .ref 0]) [.aload_n 0, .iload_n 2] (by decide +kernel) rfl <|
  Ev.cV0 (M' := M_X_isRadius) (as := [.int x2]) (rest := []) l_X_192 M_X_isRadius_ok M_X_isRadius_in M_X_isRadius_se (by decide +kernel) r4 rfl rfl rfl (Nat.le_of_ble_eq_true rfl) (Nat.le_of_ble_eq_true rfl) (s_X_isRadius pr1 pr2 pr3 <| show Ev G (d + 6) _ _ M_X_parted 5 [.ref 0, .int x1, .int x2] [.int (b2i (inR x2 (sB S1 + 1)))] h R from
    Ev.br (i := .ifCond .eq (14)) (P := (b2i (inR x2 (sB S1 + 1))) = (0 : Int32)) (t := 19) (f := 8) (r := []) (by decide +kernel) rfl (fun c1 =>
      Ev.go (pc' := 21) (ls' := [.ref 0, .int x1, .int x2]) (st' := [.int (1 : Int32), .ref 0]) [.aload_n 0, .iconst 1] (by decide +kernel) rfl <|
      Ev.cV0 (M' := M_X_refuse) (as := [.int (1 : Int32)]) (rest := []) l_X_67 M_X_refuse_ok M_X_refuse_in M_X_refuse_se (by decide +kernel) (r6 c1) rfl rfl rfl (Nat.le_of_ble_eq_true rfl) (Nat.le_of_ble_eq_true rfl) (s_X_refuse' (pr5 c1) <| show Ev G (d + 6) _ _ M_X_parted 24 [.ref 0, .int x1, .int x2] [.int (-1 : Int32)] (xoS h (1 : Int32) fk6 fp7) R from
        Ev.ret (r := (some (.int (-1 : Int32)))) (Or.inl ⟨_, rfl, by decide +kernel, _, rfl, rfl⟩) (k1 c1)
      )
    ) (fun c1 =>
      Ev.go (pc' := 10) (ls' := [.ref 0, .int x1, .int x2]) (st' := [.int (1 : Int32), .int x1]) [.iload_n 1, .iconst 1] (by decide +kernel) rfl <|
      Ev.br (i := .if_icmp .lt (9)) (P := x1 < (1 : Int32)) (t := 19) (f := 13) (r := []) (by decide +kernel) rfl (fun c2 =>
        Ev.go (pc' := 21) (ls' := [.ref 0, .int x1, .int x2]) (st' := [.int (1 : Int32), .ref 0]) [.aload_n 0, .iconst 1] (by decide +kernel) rfl <|
        Ev.cV0 (M' := M_X_refuse) (as := [.int (1 : Int32)]) (rest := []) l_X_67 M_X_refuse_ok M_X_refuse_in M_X_refuse_se (by decide +kernel) (r8 c1 c2) rfl rfl rfl (Nat.le_of_ble_eq_true rfl) (Nat.le_of_ble_eq_true rfl) (s_X_refuse' (pr7 c1 c2) <| show Ev G (d + 6) _ _ M_X_parted 24 [.ref 0, .int x1, .int x2] [.int (-1 : Int32)] (xoS h (1 : Int32) fk9 fp10) R from
          Ev.ret (r := (some (.int (-1 : Int32)))) (Or.inl ⟨_, rfl, by decide +kernel, _, rfl, rfl⟩) (k2 c1 c2)
        )
      ) (fun c2 =>
        Ev.go (pc' := 16) (ls' := [.ref 0, .int x1, .int x2]) (st' := [.int (24 : Int32), .int x1]) [.iload_n 1, .bipush (24)] (by decide +kernel) rfl <|
        Ev.br (i := .if_icmp .le (9)) (P := (24 : Int32) < x1) (t := 19) (f := 25) (r := []) (by decide +kernel) rfl (fun c3 =>
          Ev.go (pc' := 21) (ls' := [.ref 0, .int x1, .int x2]) (st' := [.int (1 : Int32), .ref 0]) [.aload_n 0, .iconst 1] (by decide +kernel) rfl <|
          Ev.cV0 (M' := M_X_refuse) (as := [.int (1 : Int32)]) (rest := []) l_X_67 M_X_refuse_ok M_X_refuse_in M_X_refuse_se (by decide +kernel) (r10 c1 c2 c3) rfl rfl rfl (Nat.le_of_ble_eq_true rfl) (Nat.le_of_ble_eq_true rfl) (s_X_refuse' (pr9 c1 c2 c3) <| show Ev G (d + 6) _ _ M_X_parted 24 [.ref 0, .int x1, .int x2] [.int (-1 : Int32)] (xoS h (1 : Int32) fk12 fp13) R from
            Ev.ret (r := (some (.int (-1 : Int32)))) (Or.inl ⟨_, rfl, by decide +kernel, _, rfl, rfl⟩) (k3 c1 c2 c3)
          )
        ) (fun c3 =>
          Ev.go (pc' := 26) (ls' := [.ref 0, .int x1, .int x2]) (st' := [.ref 0]) [.aload_n 0] (by decide +kernel) rfl <|
          Ev.getf f_X_10 (by decide +kernel) a11 rfl <|
          Ev.getf f_X_90 (by decide +kernel) a12 rfl <|
          Ev.go (pc' := 34) (ls' := [.ref 0, .int x1, .int x2]) (st' := [.int (f_bits_17 - x1)]) [.iload_n 1, .isub] (by decide +kernel) rfl <|
          Ev.cS0 (M' := M_X_isUpper) (as := [.int (f_bits_17 - x1)]) (rest := []) l_X_280 M_X_isUpper_ok M_X_isUpper_st (by decide +kernel) rfl rfl (Nat.le_of_ble_eq_true rfl) (Nat.le_of_ble_eq_true rfl) (k4 c1 c2 c3)
        )
      )
    )
  )
theorem b_X_parted_37 {G : ev_G} {d k n : Nat} {h : ev_H} {R : Option Value → ev_H → Prop} {x1 : Int32} {x2 : Int32} {y0 : Int32} {la1 : Int32} {fk2 : Int32} {fp3 : Int32} {f_latest_4 : Int32} {f_faultKind_5 : Int32} {f_faultPlace_6 : Int32} {S7 : AS}
  (a3 : hat h 0 (oC 8 [.ref 1, .ref 5, .ref 18, .ref 81, .ref 98, .int f_latest_4, .int f_faultKind_5, .int f_faultPlace_6]))
  (pr1 : y0 = (0 : Int32) → XO h la1 fk2 fp3)
  (r2 : y0 = (0 : Int32) → ∃ fs, hat h 0 (oC 8 fs))
  (pr4 : ¬ y0 = (0 : Int32) → StR h 1 S7)
  (pr5 : ¬ y0 = (0 : Int32) → sOk S7)
  (pr6 : ¬ y0 = (0 : Int32) → sFl S7 = [] ∨ flOk (sFl S7))
  (r7 : ¬ y0 = (0 : Int32) → ∃ fs, hat h 1 (oC 6 fs))
  (k1 : y0 = (0 : Int32) → R (some (.int (-1 : Int32))) (xoS h (6 : Int32) fk2 fp3))
  (k2 : ¬ y0 = (0 : Int32) → Ev G (d + 5) 0 0 M_X_costParted 0 [.ref 0, .int (setI (ctP S7)), .int x1, .int x2, ev_unk, ev_unk] [] h (fun r h1 => Ev G (d + 6) k n M_X_parted 61 [.ref 0, .int x1, .int x2] (r.toList ++ [.ref 0]) h1 R))
  : Ev G (d + 6) k n M_X_parted 37 [.ref 0, .int x1, .int x2] [.int y0] h R :=
  Ev.br (i := .ifCond .ne (10)) (P := y0 = (0 : Int32)) (t := 40) (f := 47) (r := []) (by decide +kernel) rfl (fun c1 =>
    Ev.go (pc' := 43) (ls' := [.ref 0, .int x1, .int x2]) (st' := [.int (6 : Int32), .ref 0]) [.aload_n 0, .bipush (6)] (by decide +kernel) rfl <|
    Ev.cV0 (M' := M_X_refuse) (as := [.int (6 : Int32)]) (rest := []) l_X_67 M_X_refuse_ok M_X_refuse_in M_X_refuse_se (by decide +kernel) (r2 c1) rfl rfl rfl (Nat.le_of_ble_eq_true rfl) (Nat.le_of_ble_eq_true rfl) (s_X_refuse' (pr1 c1) <| show Ev G (d + 6) _ _ M_X_parted 46 [.ref 0, .int x1, .int x2] [.int (-1 : Int32)] (xoS h (6 : Int32) fk2 fp3) R from
      Ev.ret (r := (some (.int (-1 : Int32)))) (Or.inl ⟨_, rfl, by decide +kernel, _, rfl, rfl⟩) (k1 c1)
    )
  ) (fun c1 =>
    Ev.go (pc' := 50) (ls' := [.ref 0, .int x1, .int x2]) (st' := [.ref 0, .ref 0, .ref 0]) [.aload_n 0, .aload_n 0, .aload_n 0] (by decide +kernel) rfl <|
    Ev.getf f_X_10 (by decide +kernel) a3 rfl <|
    Ev.cV0 (M' := M_St_counting) (as := []) (rest := [.ref 0, .ref 0]) l_X_96 M_St_counting_ok M_St_counting_in M_St_counting_se (by decide +kernel) (r7 c1) rfl rfl rfl (Nat.le_of_ble_eq_true rfl) (Nat.le_of_ble_eq_true rfl) (s_St_counting (pr4 c1) (pr5 c1) (pr6 c1) <| show Ev G (d + 6) _ _ M_X_parted 56 [.ref 0, .int x1, .int x2] [.int (setI (ctP S7)), .ref 0, .ref 0] h R from
      Ev.go (pc' := 58) (ls' := [.ref 0, .int x1, .int x2]) (st' := [.int x2, .int x1, .int (setI (ctP S7)), .ref 0, .ref 0]) [.iload_n 1, .iload_n 2] (by decide +kernel) rfl <|
      Ev.cV0 (M' := M_X_costParted) (as := [.int (setI (ctP S7)), .int x1, .int x2]) (rest := [.ref 0]) l_X_283 M_X_costParted_ok M_X_costParted_in M_X_costParted_se (by decide +kernel) ⟨_, a3⟩ rfl rfl rfl (Nat.le_of_ble_eq_true rfl) (Nat.le_of_ble_eq_true rfl) (k2 c1)
    )
  )
theorem b_X_parted_61 {G : ev_G} {d k n : Nat} {h : ev_H} {R : Option Value → ev_H → Prop} {x1 : Int32} {x2 : Int32} {y1 : Int32} {la1 : Int32} {fk2 : Int32} {fp3 : Int32}
  (pr1 : XO h la1 fk2 fp3)
  (r2 : ∃ fs, hat h 0 (oC 8 fs))
  (k1 : R (some (.int y1)) (xoS h 0 fk2 fp3))
  : Ev G (d + 6) k n M_X_parted 61 [.ref 0, .int x1, .int x2] [.int y1, .ref 0] h R :=
  Ev.cV0 (M' := M_X_answer) (as := [.int y1]) (rest := []) l_X_87 M_X_answer_ok M_X_answer_in M_X_answer_se (by decide +kernel) r2 rfl rfl rfl (Nat.le_of_ble_eq_true rfl) (Nat.le_of_ble_eq_true rfl) (s_X_answer' pr1 <| show Ev G (d + 6) _ _ M_X_parted 64 [.ref 0, .int x1, .int x2] [.int y1] (xoS h 0 fk2 fp3) R from
    Ev.ret (r := (some (.int y1))) (Or.inl ⟨_, rfl, by decide +kernel, _, rfl, rfl⟩) k1
  )
theorem b_X_bestPart_0 {G : ev_G} {d k n : Nat} {h : ev_H} {R : Option Value → ev_H → Prop} {x1 : Int32} {S1 : AS} {la2 : Int32} {fk3 : Int32} {fp4 : Int32} {la5 : Int32} {fk6 : Int32} {fp7 : Int32} {f_latest_8 : Int32} {f_faultKind_9 : Int32} {f_faultPlace_10 : Int32} {S11 : AS}
  (a7 : hat h 0 (oC 8 [.ref 1, .ref 5, .ref 18, .ref 81, .ref 98, .int f_latest_8, .int f_faultKind_9, .int f_faultPlace_10]))
  (pr1 : XO h la2 fk3 fp4)
  (pr2 : StR h 1 S1)
  (pr3 : sOk S1)
  (r4 : ∃ fs, hat h 0 (oC 8 fs))
  (pr5 : (b2i (inR x1 (sB S1 + 1))) = (0 : Int32) → XO h la5 fk6 fp7)
  (r6 : (b2i (inR x1 (sB S1 + 1))) = (0 : Int32) → ∃ fs, hat h 0 (oC 8 fs))
  (pr8 : ¬ (b2i (inR x1 (sB S1 + 1))) = (0 : Int32) → StR h 1 S11)
  (pr9 : ¬ (b2i (inR x1 (sB S1 + 1))) = (0 : Int32) → sOk S11)
  (pr10 : ¬ (b2i (inR x1 (sB S1 + 1))) = (0 : Int32) → sFl S11 = [] ∨ flOk (sFl S11))
  (r11 : ¬ (b2i (inR x1 (sB S1 + 1))) = (0 : Int32) → ∃ fs, hat h 1 (oC 6 fs))
  (k1 : (b2i (inR x1 (sB S1 + 1))) = (0 : Int32) → R (some (.int (-1 : Int32))) (xoS h (1 : Int32) fk6 fp7))
  (k2 : ¬ (b2i (inR x1 (sB S1 + 1))) = (0 : Int32) → Ev G (d + 6) k n M_X_bestPart 30 [.ref 0, .int x1, .int (setI (ctP S11)), .int (-1 : Int32), .int (0 : Int32), .int (1 : Int32), ev_unk] [] h R)
  : Ev G (d + 6) k n M_X_bestPart 0 [.ref 0, .int x1, ev_unk, ev_unk, ev_unk, ev_unk, ev_unk] [] h R :=
  Ev.go (pc' := 2) (ls' := [.ref 0, .int x1, ev_unk, ev_unk, ev_unk, ev_unk, ev_unk]) (st' := [.int x1, .ref 0]) [.aload_n 0, .iload_n 1] (by decide +kernel) rfl <|
  Ev.cV0 (M' := M_X_isRadius) (as := [.int x1]) (rest := []) l_X_192 M_X_isRadius_ok M_X_isRadius_in M_X_isRadius_se (by decide +kernel) r4 rfl rfl rfl (Nat.le_of_ble_eq_true rfl) (Nat.le_of_ble_eq_true rfl) (s_X_isRadius pr1 pr2 pr3 <| show Ev G (d + 6) _ _ M_X_bestPart 5 [.ref 0, .int x1, ev_unk, ev_unk, ev_unk, ev_unk, ev_unk] [.int (b2i (inR x1 (sB S1 + 1)))] h R from
    Ev.br (i := .ifCond .ne (9)) (P := (b2i (inR x1 (sB S1 + 1))) = (0 : Int32)) (t := 8) (f := 14) (r := []) (by decide +kernel) rfl (fun c1 =>
      Ev.go (pc' := 10) (ls' := [.ref 0, .int x1, ev_unk, ev_unk, ev_unk, ev_unk, ev_unk]) (st' := [.int (1 : Int32), .ref 0]) [.aload_n 0, .iconst 1] (by decide +kernel) rfl <|
      Ev.cV0 (M' := M_X_refuse) (as := [.int (1 : Int32)]) (rest := []) l_X_67 M_X_refuse_ok M_X_refuse_in M_X_refuse_se (by decide +kernel) (r6 c1) rfl rfl rfl (Nat.le_of_ble_eq_true rfl) (Nat.le_of_ble_eq_true rfl) (s_X_refuse' (pr5 c1) <| show Ev G (d + 6) _ _ M_X_bestPart 13 [.ref 0, .int x1, ev_unk, ev_unk, ev_unk, ev_unk, ev_unk] [.int (-1 : Int32)] (xoS h (1 : Int32) fk6 fp7) R from
        Ev.ret (r := (some (.int (-1 : Int32)))) (Or.inl ⟨_, rfl, by decide +kernel, _, rfl, rfl⟩) (k1 c1)
      )
    ) (fun c1 =>
      Ev.go (pc' := 15) (ls' := [.ref 0, .int x1, ev_unk, ev_unk, ev_unk, ev_unk, ev_unk]) (st' := [.ref 0]) [.aload_n 0] (by decide +kernel) rfl <|
      Ev.getf f_X_10 (by decide +kernel) a7 rfl <|
      Ev.cV0 (M' := M_St_counting) (as := []) (rest := []) l_X_96 M_St_counting_ok M_St_counting_in M_St_counting_se (by decide +kernel) (r11 c1) rfl rfl rfl (Nat.le_of_ble_eq_true rfl) (Nat.le_of_ble_eq_true rfl) (s_St_counting (pr8 c1) (pr9 c1) (pr10 c1) <| show Ev G (d + 6) _ _ M_X_bestPart 21 [.ref 0, .int x1, ev_unk, ev_unk, ev_unk, ev_unk, ev_unk] [.int (setI (ctP S11))] h R from
        Ev.go (pc' := 30) (ls' := [.ref 0, .int x1, .int (setI (ctP S11)), .int (-1 : Int32), .int (0 : Int32), .int (1 : Int32), ev_unk]) (st' := []) [.istore_n 2, .iconst (-1), .istore_n 3, .iconst 0, .istore 4, .iconst 1, .istore 5] (by decide +kernel) rfl <|
        (k2 c1)
      )
    )
  )
theorem b_X_bestPart_30 {G : ev_G} {d k n : Nat} {h : ev_H} {R : Option Value → ev_H → Prop} {x1 : Int32} {x2 : Int32} {x3 : Int32} {x4 : Int32} {x5 : Int32} {la1 : Int32} {fk2 : Int32} {fp3 : Int32} {f_latest_4 : Int32} {f_faultKind_5 : Int32} {f_faultPlace_6 : Int32} {f_bits_7 : Int32} {f_parts_8 : Int32} {f_size_9 : Int32} {fv10 : Value}
  (a3 : hat h 0 (oC 8 [.ref 1, .ref 5, .ref 18, .ref 81, .ref 98, .int f_latest_4, .int f_faultKind_5, .int f_faultPlace_6]))
  (a4 : hat h 1 (oC 6 [.int f_bits_7, .int f_parts_8, .ref 2, .int f_size_9, .ref 3, .ref 4, fv10]))
  (pr1 : (24 : Int32) < x5 → XO h la1 fk2 fp3)
  (r2 : (24 : Int32) < x5 → ∃ fs, hat h 0 (oC 8 fs))
  (k1 : (24 : Int32) < x5 → R (some (.int x3)) (xoS h 0 fk2 fp3))
  (k2 : ¬ (24 : Int32) < x5 → Ev G (d + 5) 0 0 M_X_isUpper 0 [.int (f_bits_7 - x5)] [] h (fun r h1 => Ev G (d + 6) k n M_X_bestPart 50 [.ref 0, .int x1, .int x2, .int x3, .int x4, .int x5, ev_unk] (r.toList ++ []) h1 R))
  : Ev G (d + 6) k n M_X_bestPart 30 [.ref 0, .int x1, .int x2, .int x3, .int x4, .int x5, ev_unk] [] h R :=
  Ev.go (pc' := 34) (ls' := [.ref 0, .int x1, .int x2, .int x3, .int x4, .int x5, ev_unk]) (st' := [.int (24 : Int32), .int x5]) [.iload 5, .bipush (24)] (by decide +kernel) rfl <|
  Ev.br (i := .if_icmp .gt (54)) (P := (24 : Int32) < x5) (t := 88) (f := 37) (r := []) (by decide +kernel) rfl (fun c1 =>
    Ev.go (pc' := 90) (ls' := [.ref 0, .int x1, .int x2, .int x3, .int x4, .int x5, ev_unk]) (st' := [.int x3, .ref 0]) [.aload_n 0, .iload_n 3] (by decide +kernel) rfl <|
    Ev.cV0 (M' := M_X_answer) (as := [.int x3]) (rest := []) l_X_87 M_X_answer_ok M_X_answer_in M_X_answer_se (by decide +kernel) (r2 c1) rfl rfl rfl (Nat.le_of_ble_eq_true rfl) (Nat.le_of_ble_eq_true rfl) (s_X_answer' (pr1 c1) <| show Ev G (d + 6) _ _ M_X_bestPart 93 [.ref 0, .int x1, .int x2, .int x3, .int x4, .int x5, ev_unk] [.int x3] (xoS h 0 fk2 fp3) R from
      Ev.ret (r := (some (.int x3))) (Or.inl ⟨_, rfl, by decide +kernel, _, rfl, rfl⟩) (k1 c1)
    )
  ) (fun c1 =>
    Ev.go (pc' := 38) (ls' := [.ref 0, .int x1, .int x2, .int x3, .int x4, .int x5, ev_unk]) (st' := [.ref 0]) [.aload_n 0] (by decide +kernel) rfl <|
    Ev.getf f_X_10 (by decide +kernel) a3 rfl <|
    Ev.getf f_X_90 (by decide +kernel) a4 rfl <|
    Ev.go (pc' := 47) (ls' := [.ref 0, .int x1, .int x2, .int x3, .int x4, .int x5, ev_unk]) (st' := [.int (f_bits_7 - x5)]) [.iload 5, .isub] (by decide +kernel) rfl <|
    Ev.cS0 (M' := M_X_isUpper) (as := [.int (f_bits_7 - x5)]) (rest := []) l_X_280 M_X_isUpper_ok M_X_isUpper_st (by decide +kernel) rfl rfl (Nat.le_of_ble_eq_true rfl) (Nat.le_of_ble_eq_true rfl) (k2 c1)
  )
theorem b_X_bestPart_50 {G : ev_G} {d k n : Nat} {h : ev_H} {R : Option Value → ev_H → Prop} {x1 : Int32} {x2 : Int32} {x3 : Int32} {x4 : Int32} {x5 : Int32} {y0 : Int32}
  (r1 : ¬ y0 = (0 : Int32) → ∃ fs, hat h 0 (oC 8 fs))
  (k1 : y0 = (0 : Int32) → Ev G (d + 6) k n M_X_bestPart 30 [.ref 0, .int x1, .int x2, .int x3, .int x4, .int (x5 + (1 : Int32)), ev_unk] [] h R)
  (k2 : ¬ y0 = (0 : Int32) → Ev G (d + 5) 0 0 M_X_costParted 0 [.ref 0, .int x2, .int x5, .int x1, ev_unk, ev_unk] [] h (fun r h1 => Ev G (d + 6) k n M_X_bestPart 61 [.ref 0, .int x1, .int x2, .int x3, .int x4, .int x5, ev_unk] (r.toList ++ []) h1 R))
  : Ev G (d + 6) k n M_X_bestPart 50 [.ref 0, .int x1, .int x2, .int x3, .int x4, .int x5, ev_unk] [.int y0] h R :=
  Ev.br (i := .ifCond .eq (32)) (P := y0 = (0 : Int32)) (t := 82) (f := 53) (r := []) (by decide +kernel) rfl (fun c1 =>
    Ev.go (pc' := 30) (ls' := [.ref 0, .int x1, .int x2, .int x3, .int x4, .int (x5 + (1 : Int32)), ev_unk]) (st' := []) [.iinc 5 (1), .goto (-55)] (by decide +kernel) rfl <|
    (k1 c1)
  ) (fun c1 =>
    Ev.go (pc' := 58) (ls' := [.ref 0, .int x1, .int x2, .int x3, .int x4, .int x5, ev_unk]) (st' := [.int x1, .int x5, .int x2, .ref 0]) [.aload_n 0, .iload_n 2, .iload 5, .iload_n 1] (by decide +kernel) rfl <|
    Ev.cV0 (M' := M_X_costParted) (as := [.int x2, .int x5, .int x1]) (rest := []) l_X_283 M_X_costParted_ok M_X_costParted_in M_X_costParted_se (by decide +kernel) (r1 c1) rfl rfl rfl (Nat.le_of_ble_eq_true rfl) (Nat.le_of_ble_eq_true rfl) (k2 c1)
  )
theorem b_X_bestPart_61 {G : ev_G} {d k n : Nat} {h : ev_H} {R : Option Value → ev_H → Prop} {x1 : Int32} {x2 : Int32} {x3 : Int32} {x4 : Int32} {x5 : Int32} {y0 : Int32}
  (k1 : x3 = (-1 : Int32) → Ev G (d + 6) k n M_X_bestPart 30 [.ref 0, .int x1, .int x2, .int x5, .int y0, .int (x5 + (1 : Int32)), ev_unk] [] h R)
  (k2 : ¬ x3 = (-1 : Int32) → y0 < x4 → Ev G (d + 6) k n M_X_bestPart 30 [.ref 0, .int x1, .int x2, .int x5, .int y0, .int (x5 + (1 : Int32)), ev_unk] [] h R)
  (k3 : ¬ x3 = (-1 : Int32) → ¬ y0 < x4 → Ev G (d + 6) k n M_X_bestPart 30 [.ref 0, .int x1, .int x2, .int x3, .int x4, .int (x5 + (1 : Int32)), ev_unk] [] h R)
  : Ev G (d + 6) k n M_X_bestPart 61 [.ref 0, .int x1, .int x2, .int x3, .int x4, .int x5, ev_unk] [.int y0] h R :=
  Ev.go (pc' := 65) (ls' := [.ref 0, .int x1, .int x2, .int x3, .int x4, .int x5, .int y0]) (st' := [.int (-1 : Int32), .int x3]) [.istore 6, .iload_n 3, .iconst (-1)] (by decide +kernel) rfl <|
  Ev.br (i := .if_icmp .eq (10)) (P := x3 = (-1 : Int32)) (t := 75) (f := 68) (r := []) (by decide +kernel) rfl (fun c1 =>
    Ev.go (pc' := 30) (ls' := [.ref 0, .int x1, .int x2, .int x5, .int y0, .int (x5 + (1 : Int32)), .int y0]) (st' := []) [.iload 6, .istore 4, .iload 5, .istore_n 3, .iinc 5 (1), .goto (-55)] (by decide +kernel) rfl <|
    Ev.forget (ls' := [.ref 0, .int x1, .int x2, .int x5, .int y0, .int (x5 + (1 : Int32)), ev_unk]) ⟨Or.inr rfl, Or.inr rfl, Or.inr rfl, Or.inr rfl, Or.inr rfl, Or.inr rfl, Or.inl rfl, trivial⟩ <|
    (k1 c1)
  ) (fun c1 =>
    Ev.go (pc' := 72) (ls' := [.ref 0, .int x1, .int x2, .int x3, .int x4, .int x5, .int y0]) (st' := [.int x4, .int y0]) [.iload 6, .iload 4] (by decide +kernel) rfl <|
    Ev.br (i := .if_icmp .ge (10)) (P := y0 < x4) (t := 75) (f := 82) (r := []) (by decide +kernel) rfl (fun c2 =>
      Ev.go (pc' := 30) (ls' := [.ref 0, .int x1, .int x2, .int x5, .int y0, .int (x5 + (1 : Int32)), .int y0]) (st' := []) [.iload 6, .istore 4, .iload 5, .istore_n 3, .iinc 5 (1), .goto (-55)] (by decide +kernel) rfl <|
      Ev.forget (ls' := [.ref 0, .int x1, .int x2, .int x5, .int y0, .int (x5 + (1 : Int32)), ev_unk]) ⟨Or.inr rfl, Or.inr rfl, Or.inr rfl, Or.inr rfl, Or.inr rfl, Or.inr rfl, Or.inl rfl, trivial⟩ <|
      (k2 c1 c2)
    ) (fun c2 =>
      Ev.go (pc' := 30) (ls' := [.ref 0, .int x1, .int x2, .int x3, .int x4, .int (x5 + (1 : Int32)), .int y0]) (st' := []) [.iinc 5 (1), .goto (-55)] (by decide +kernel) rfl <|
      Ev.forget (ls' := [.ref 0, .int x1, .int x2, .int x3, .int x4, .int (x5 + (1 : Int32)), ev_unk]) ⟨Or.inr rfl, Or.inr rfl, Or.inr rfl, Or.inr rfl, Or.inr rfl, Or.inr rfl, Or.inl rfl, trivial⟩ <|
      (k3 c1 c2)
    )
  )
/-- gathering all clusters: those left, how many, the most, the greatest -/
def cls1 (S : AS) (r i : Nat) (z : Int32 × Nat × Nat × Int32) : Int32 × Nat × Nat × Int32 := if bt z.1 i then (z.1 &&& (cluI S z.1 i r ^^^ (-1 : Int32)), z.2.1 + 1, if z.2.2.1 < pop32 (cluI S z.1 i r) then pop32 (cluI S z.1 i r) else z.2.2.1, if z.2.2.1 < pop32 (cluI S z.1 i r) then nI i else z.2.2.2) else z
def clsF (S : AS) (r : Nat) : Nat → Int32 × Nat × Nat × Int32
  | 0 => (setI (ctP S), 0, 0, -1)
  | i + 1 => cls1 S r i (clsF S r i)
def a_clusters (S : AS) (r w : Int32) : Int32 × Int32 := if inR r (sB S + 1) then (if decide (0 ≤ w ∧ w < (3 : Int32)) then (if w = 2 then (if (clsF S (vN r) 32).2.2.2 = -1 then (-1, 5) else ((clsF S (vN r) 32).2.2.2, 0)) else if w = 0 then (nI (clsF S (vN r) 32).2.1, 0) else (nI (clsF S (vN r) 32).2.2.1, 0)) else (-1, 1)) else (-1, 1)
def a_own (S : AS) (c r : Int32) : Int32 := cluI S (setI (ctP S)) (vN c) (vN r)
def a_cluster (S : AS) (c r w : Int32) : Int32 × Int32 := if inR r (sB S + 1) then (if decide (0 ≤ w ∧ w < (3 : Int32)) then (if inR c (sN S) then (if ctP S (vN c) then (if w = 1 then (nI (pop32 (a_own S c r)), 0) else if w = 0 then (frI (bt (a_own S c r)) 32, 0) else (oIx (mid S (bt (a_own S c r))), 0)) else (-1, 6)) else (-1, 2)) else (-1, 1)) else (-1, 1)
def vot (S : AS) (set : Int32) : Nat → Int64
  | 0 => 0
  | b + 1 => if pop32 set < cnt (fun j => bt set j && lt (sCo S j) b) (sN S) * 2 then vot S set b ||| ((1 : Int64) <<< ((nI b).toInt64 &&& 63)) else vot S set b
def a_vote (S : AS) (set : Int32) : Int64 × Int32 := if (set &&& (setI (allP S) ^^^ (-1 : Int32))) = 0 then (vot S set (sB S), 0) else (-1, 1)
def lkP (S : AS) (m x : Int64) (j : Nat) : Bool := ctP S j && decide (((sCo S j ^^^ x) &&& m) = 0)
def a_like (S : AS) (m x : Int64) : Int32 × Int32 := if numB m (sB S) then (if numB x (sB S) then (setI (lkP S m x), 0) else (-1, 1)) else (-1, 1)
def on1 (S : AS) (b : Nat) : Nat := cnt (fun j => ctP S j && lt (sCo S j) b) (sN S)
def a_ones (S : AS) (b : Int32) : Int32 × Int32 := if inR b (sB S) then (nI (on1 S (vN b)), 0) else (-1, 1)
def gapN (s c : Nat) : Nat := if 2 * c ≤ s then s - 2 * c else 2 * c - s
def tel (S : AS) (l0 : Nat) : Nat → Nat × Nat
  | 0 => (0, l0)
  | b + 1 => if gapN (cnt (ctP S) 32) (on1 S b) < (tel S l0 b).2 then (b, gapN (cnt (ctP S) 32) (on1 S b)) else tel S l0 b
def a_telling (S : AS) : Int32 × Int32 := (nI (tel S (cnt (ctP S) 32 + 1) (sB S)).1, 0)
def akP (S : AS) (a b : Nat) (j : Nat) : Bool := ctP S j && (lt (sCo S j) a == lt (sCo S j) b)
def a_alike (S : AS) (x y : Int32) : Int32 × Int32 := if inR x (sB S) then (if inR y (sB S) then (nI (cnt (akP S (vN x) (vN y)) 32), 0) else (-1, 1)) else (-1, 1)
def spr1 (S : AS) (q i : Nat) (z : Int32 × Nat × Nat) : Int32 × Nat × Nat := if bt z.1 i then (z.1 &&& (setI (skP S (bt z.1) i q) ^^^ (-1 : Int32)), z.2.1 + 1, max z.2.2 (pop32 (setI (skP S (bt z.1) i q)))) else z
def sprF (S : AS) (q : Nat) : Nat → Int32 × Nat × Nat
  | 0 => (setI (ctP S), 0, 0)
  | i + 1 => spr1 S q i (sprF S q i)
def a_spread (S : AS) (p w : Int32) : Int32 × Int32 := if decide (0 ≤ w ∧ w < (2 : Int32)) then (if inR p (sP S) then (if w = 0 then (nI (sprF S (vN p) 32).2.1, 0) else (nI (sprF S (vN p) 32).2.2, 0)) else (-1, 2)) else (-1, 1)
def upB (S : AS) (b : Nat) : Bool := decide (b < sB S ∧ sB S - b ≤ 24)
def a_parted (S : AS) (b r : Int32) : Int32 × Int32 := if inR r (sB S + 1) then (if b < 1 then (-1, 1) else if 24 < b then (-1, 1) else if upB S (vN b) then (nI (ptN S (ctP S) (vN b) (vN r) 32), 0) else (-1, 6)) else (-1, 1)
def bpO (S : AS) (r n : Nat) : Option (Nat × Nat) := omin (fun b => decide (1 ≤ b) && upB S b) (fun b => ptN S (ctP S) b r 32) n
def a_bestPart (S : AS) (r : Int32) : Int32 × Int32 := if inR r (sB S + 1) then (oIx (bpO S (vN r) 25), 0) else (-1, 1)
theorem clU_in1 {S : AS} {set : Int32} {c r : Nat} (hc : c < sN S) (h32 : sN S ≤ 32) : ∀ i j, bt (clU S set r ((1 : Int32) <<< (nI c &&& 31), (1 : Int32) <<< (nI c &&& 31)) i).1 j = true → j < sN S
  | 0, j, q => by
    have q : bt ((1 : Int32) <<< (nI c &&& 31)) j = true := q
    rw [setI_one (by omega), bt_setI] at q
    simp only [Bool.and_eq_true, decide_eq_true_eq] at q
    omega
  | i + 1, j, q => by
    have ih := clU_in1 (set := set) (r := r) hc h32 i j
    have q : bt (clT S set r (clU S set r ((1 : Int32) <<< (nI c &&& 31), (1 : Int32) <<< (nI c &&& 31)) i)).1 j = true := q
    unfold clT at q
    split at q
    · exact ih q
    · have q : bt (_ ||| _) j = true := q
      rw [b_or, bt_setI] at q
      unfold nrP at q
      simp only [Bool.or_eq_true, Bool.and_eq_true, decide_eq_true_eq] at q
      rcases q with q | q
      · exact ih q
      · exact q.2.1.1
theorem cluI_in {S : AS} {set : Int32} {c r : Nat} (hc : c < sN S) (h32 : sN S ≤ 32) (j : Nat) (h : bt (cluI S set c r) j = true) : j < sN S := clU_in1 hc h32 32 j h
section S32
variable {G : ev_G} {d : Nat} {h h1 h2 : ev_H} {R : Option Value → ev_H → Prop} {Q : QS}
theorem s_X_cluster {c r w : Int32} (H : XR h Q) (hR : ∀ h', Kg h h' 0 102 → XR h' (stQ Q (a_cluster (qS Q) c r w).2) → R (some (.int (a_cluster (qS Q) c r w).1)) h') : Ev G (d + 6) 0 0 M_X_cluster 0 [.ref 0, .int c, .int r, .int w, ev_unk, ev_unk] [] h R := by
  have hzB := H.szB
  have hz := H.szN
  have hx := H.ctx
  have vr : ¬ b2i (inR r (sB (qS Q) + 1)) = 0 → r = nI (vN r) ∧ vN r < 2147483648 := fun z => by have := inR_rad hzB (b2i_n0 z); exact ⟨this.1, by omega⟩
  have vc : ¬ b2i (inR c (sN (qS Q))) = 0 → c = nI (vN c) ∧ vN c < sN (qS Q) := fun z => vN_lt (by omega) (b2i_n0 z)
  have ei : ¬ b2i (inR c (sN (qS Q))) = 0 → inI (setI (ctP (qS Q))) c = ctP (qS Q) (vN c) := fun z => by
    have := vc z
    have q := inI_n (s := setI (ctP (qS Q))) (j := vN c) (by omega)
    rw [← this.1] at q
    rw [q, hx]
  have g : ∀ {v : Int32} {l : Int32}, a_cluster (qS Q) c r w = (v, l) → R (some (.int v)) (xoS h l (qFk Q) (qFp Q)) := fun e => H.fin (Kg.refl _ _ _) hR e
  refine b_X_cluster_0 H.x H.x H.s H.ok ⟨_, H.x⟩ (fun c1 => H.x) (fun c1 => ⟨_, H.x⟩) (fun c1 c2 => H.x) (fun c1 c2 => ⟨_, H.x⟩) (fun c1 c2 => H.x) (fun c1 c2 => H.s) (fun c1 c2 => H.ok) (fun c1 c2 => ⟨_, H.x⟩) (fun c1 c2 c3 => H.x) (fun c1 c2 c3 => ⟨_, H.x⟩) (fun c1 c2 c3 => H.s) (fun c1 c2 c3 => H.ok) (fun c1 c2 c3 => H.fo) (fun c1 c2 c3 => H.s.obj) (fun c1 c2 c3 c4 => H.x) (fun c1 c2 c3 c4 => H.x) (fun c1 c2 c3 c4 => H.s) (fun c1 c2 c3 c4 => H.ok) (fun c1 c2 c3 c4 => vc c3) (fun c1 c2 c3 c4 => vr c1) (fun c1 c2 c3 c4 c5 => H.x) (fun c1 c2 c3 c4 c5 c6 => H.x) (fun c1 c2 c3 c4 c5 c6 => H.x) (fun c1 c2 c3 c4 c5 c6 => H.s) (fun c1 c2 c3 c4 c5 c6 => H.ok) (fun c1 c2 c3 c4 c5 c6 => fun j q => cluI_in (vc c3).2 hz j q) (fun c1 c2 c3 c4 c5 c6 => H.x) (fun c1 => g (by unfold a_cluster; rw [if_neg (b2i_f0 c1)])) (fun c1 c2 => g (by unfold a_cluster; rw [if_pos (b2i_n0 c1), if_neg (b2i_f0 c2)])) (fun c1 c2 c3 => g (by unfold a_cluster; rw [if_pos (b2i_n0 c1), if_pos (b2i_n0 c2), if_neg (b2i_f0 c3)])) (fun c1 c2 c3 c4 => g (by rw [ei c3] at c4; unfold a_cluster; rw [if_pos (b2i_n0 c1), if_pos (b2i_n0 c2), if_pos (b2i_n0 c3), if_neg (b2i_f0 c4)])) (fun c1 c2 c3 c4 c5 => g (by rw [ei c3] at c4; unfold a_cluster; rw [if_pos (b2i_n0 c1), if_pos (b2i_n0 c2), if_pos (b2i_n0 c3), if_pos (b2i_n0 c4), if_pos c5]; rfl)) (fun c1 c2 c3 c4 c5 c6 => g (by rw [ei c3] at c4; unfold a_cluster; rw [if_pos (b2i_n0 c1), if_pos (b2i_n0 c2), if_pos (b2i_n0 c3), if_pos (b2i_n0 c4), if_neg c5, if_pos c6]; rfl)) (fun c1 c2 c3 c4 c5 c6 => g (by rw [ei c3] at c4; unfold a_cluster; rw [if_pos (b2i_n0 c1), if_pos (b2i_n0 c2), if_pos (b2i_n0 c3), if_pos (b2i_n0 c4), if_neg c5, if_neg c6]; rfl))
theorem s_X_clusters {r w : Int32} (H : XR h Q) (hR : ∀ h', Kg h h' 0 102 → XR h' (stQ Q (a_clusters (qS Q) r w).2) → R (some (.int (a_clusters (qS Q) r w).1)) h') : Ev G (d + 6) 0 0 M_X_clusters 0 [.ref 0, .int r, .int w, ev_unk, ev_unk, ev_unk, ev_unk, ev_unk, ev_unk] [] h R := by
  have hzB := H.szB
  have hz := H.szN
  have g : ∀ {v : Int32} {l : Int32}, a_clusters (qS Q) r w = (v, l) → R (some (.int v)) (xoS h l (qFk Q) (qFp Q)) := fun e => H.fin (Kg.refl _ _ _) hR e
  refine b_X_clusters_0 H.x H.x H.s H.ok ⟨_, H.x⟩ (fun c1 => H.x) (fun c1 => ⟨_, H.x⟩) (fun c1 c2 => H.x) (fun c1 c2 => ⟨_, H.x⟩) (fun c1 c2 => H.s) (fun c1 c2 => H.ok) (fun c1 c2 => H.fo) (fun c1 c2 => H.s.obj) (fun c1 => g (by unfold a_clusters; rw [if_neg (b2i_f0 c1)])) (fun c1 c2 => g (by unfold a_clusters; rw [if_pos (b2i_n0 c1), if_neg (b2i_f0 c2)])) (fun c1 c2 => ?_)
  have vr := inR_rad hzB (b2i_n0 c1)
  have e : a_clusters (qS Q) r w = (if w = 2 then (if (clsF (qS Q) (vN r) 32).2.2.2 = -1 then (-1, 5) else ((clsF (qS Q) (vN r) 32).2.2.2, 0)) else if w = 0 then (nI (clsF (qS Q) (vN r) 32).2.1, 0) else (nI (clsF (qS Q) (vN r) 32).2.2.1, 0)) := by unfold a_clusters; rw [if_pos (b2i_n0 c1), if_pos (b2i_n0 c2)]
  rw [e] at g
  have lim : ∀ i, (clsF (qS Q) (vN r) i).2.2.1 ≤ 32 ∧ ∀ j, bt (clsF (qS Q) (vN r) i).1 j = true → j < sN (qS Q) := by
    intro i
    induction i with
    | zero => exact ⟨by show 0 ≤ 32; omega, fun j q => by have q : bt (setI (ctP (qS Q))) j = true := q; rw [H.ctx] at q; exact ctP_lt q⟩
    | succ i ih =>
      show (cls1 (qS Q) (vN r) i (clsF (qS Q) (vN r) i)).2.2.1 ≤ 32 ∧ _
      have hp := pop32_le (cluI (qS Q) (clsF (qS Q) (vN r) i).1 i (vN r))
      refine ⟨?_, fun j q => ?_⟩
      · unfold cls1
        split
        · show (if _ then _ else _) ≤ 32
          split
          · exact hp
          · exact ih.1
        · exact ih.1
      · have q : bt (cls1 (qS Q) (vN r) i (clsF (qS Q) (vN r) i)).1 j = true := q
        unfold cls1 at q
        split at q
        · have q : bt (_ &&& _) j = true := q
          rw [b_and, Bool.and_eq_true] at q
          exact ih.2 j q.1
        · exact ih.2 j q
  have L := up0 (P := fun i => Ev G (d + 6) 0 0 M_X_clusters 42 [.ref 0, .int r, .int w, .int (clsF (qS Q) (vN r) i).1, .int (nI (clsF (qS Q) (vN r) i).2.1), .int (nI (clsF (qS Q) (vN r) i).2.2.1), .int (clsF (qS Q) (vN r) i).2.2.2, .int (nI i), ev_unk] [] h R) 32 ?_ ?_
  · exact L
  · intro i hi ih
    have yes : nI i < (32 : Int32) := nI_lt hi (by decide)
    have st : clsF (qS Q) (vN r) (i + 1) = cls1 (qS Q) (vN r) i (clsF (qS Q) (vN r) i) := rfl
    obtain ⟨lm, lin⟩ := lim i
    revert lm lin st ih
    generalize clsF (qS Q) (vN r) (i + 1) = z'
    generalize clsF (qS Q) (vN r) i = z
    intro ih st lm lin
    subst st
    have hp := pop32_le (cluI (qS Q) z.1 i (vN r))
    refine b_X_clusters_42 (fun c1 c2 => H.x) (fun c1 c2 => H.s) (fun c1 c2 => H.ok) (fun c1 c2 => ⟨rfl, lin i (by have := b2i_n0 c2; rw [inI_n hi] at this; exact this)⟩) (fun c1 c2 => ⟨vr.1, by omega⟩) (fun c1 c2 => ⟨_, H.x⟩) (fun c1 c2 c3 => H.x) (fun c1 c2 c3 => ⟨_, H.x⟩) (fun c1 c2 c3 => H.x) (fun c1 c2 c3 => ⟨_, H.x⟩) (fun c1 c2 c3 => H.x) (fun c1 c2 c3 => ⟨_, H.x⟩) (fun c1 c2 c3 => H.x) (fun c1 c2 c3 => ⟨_, H.x⟩) (fun c1 c2 => ?_) (fun c1 c2 c3 => ?_) (fun c1 c2 c3 => ?_) (fun c1 c2 c3 => absurd yes c1) (fun c1 c2 c3 => absurd yes c1) (fun c1 c2 c3 => absurd yes c1) (fun c1 c2 c3 => absurd yes c1)
    · have c2 := b2i_e0 c2
      rw [inI_n hi] at c2
      unfold cls1 at ih
      rw [if_neg (by rw [c2]; decide)] at ih
      rw [nI_1]; exact ih
    · have c2 := b2i_n0 c2
      rw [inI_n hi] at c2
      have c3 := (nI_ltI (by omega) (by omega)).mp c3
      unfold cls1 at ih
      rw [if_pos c2, if_pos c3, if_pos c3] at ih
      rw [nI_1, nI_1]; exact ih
    · have c2 := b2i_n0 c2
      rw [inI_n hi] at c2
      have c3 : ¬ z.2.2.1 < pop32 (cluI (qS Q) z.1 i (vN r)) := fun q => c3 (nI_lt q (by omega))
      unfold cls1 at ih
      rw [if_pos c2, if_neg c3, if_neg c3] at ih
      rw [nI_1, nI_1]; exact ih
  · have no : ¬ nI 32 < (32 : Int32) := by decide
    revert g
    generalize clsF (qS Q) (vN r) 32 = z
    intro g
    refine b_X_clusters_42 (c_6 := 0) (r_5 := 0) (fun c1 c2 => H.x) (fun c1 c2 => H.s) (fun c1 c2 => H.ok) (fun c1 c2 => absurd c1 no) (fun c1 c2 => absurd c1 no) (fun c1 c2 => ⟨_, H.x⟩) (fun c1 c2 c3 => H.x) (fun c1 c2 c3 => ⟨_, H.x⟩) (fun c1 c2 c3 => H.x) (fun c1 c2 c3 => ⟨_, H.x⟩) (fun c1 c2 c3 => H.x) (fun c1 c2 c3 => ⟨_, H.x⟩) (fun c1 c2 c3 => H.x) (fun c1 c2 c3 => ⟨_, H.x⟩) (fun c1 c2 => absurd c1 no) (fun c1 c2 c3 => absurd c1 no) (fun c1 c2 c3 => absurd c1 no) (fun c1 c2 c3 => g (by rw [if_pos c2, if_pos c3])) (fun c1 c2 c3 => g (by rw [if_pos c2, if_neg c3])) (fun c1 c2 c3 => g (by rw [if_neg c2, if_pos c3])) (fun c1 c2 c3 => g (by rw [if_neg c2, if_neg c3]))
theorem s_X_vote {set : Int32} (H : XR h Q) (hR : ∀ h', Kg h h' 0 102 → XR h' (stQ Q (a_vote (qS Q) set).2) → R (some (.long (a_vote (qS Q) set).1)) h') : Ev G (d + 2) 0 0 M_X_vote 0 [.ref 0, .int set, ev_unk, ev_unk, ev_unk, ev_unk] [] h R := by
  have hzB := H.szB
  have hz := H.szN
  have g : ∀ {v : Int64} {l : Int32}, a_vote (qS Q) set = (v, l) → R (some (.long v)) (xoS h l (qFk Q) (qFp Q)) := fun e => H.finL (Kg.refl _ _ _) hR e
  refine b_X_vote_0 H.x H.s H.ok H.s.obj (fun c1 => H.x) (fun c1 => ?_) (fun c1 => g (by unfold a_vote; rw [if_neg c1]; rfl))
  have e : a_vote (qS Q) set = (vot (qS Q) set (sB (qS Q)), 0) := by unfold a_vote; rw [if_pos c1]
  obtain ⟨brf, tgf, cof, fv, t1, t2, t3, t4, e1, e2, -⟩ := H.s
  have L := up0 (P := fun b => Ev G (d + 2) 0 0 M_X_vote 32 [.ref 0, .int set, .long (vot (qS Q) set b), ev_unk, .int (nI (pop32 set)), .int (nI b)] [] h R) (sB (qS Q)) ?_ ?_
  · exact L
  · intro b hb ih
    have yes : nI b < nI (sB (qS Q)) := nI_lt hb (by omega)
    have st : vot (qS Q) set (b + 1) = if pop32 set < cnt (fun j => bt set j && lt (sCo (qS Q) j) b) (sN (qS Q)) * 2 then vot (qS Q) set b ||| ((1 : Int64) <<< ((nI b).toInt64 &&& 63)) else vot (qS Q) set b := rfl
    rw [st] at ih
    have hc := cnt_le (fun j => bt set j && lt (sCo (qS Q) j) b) (sN (qS Q))
    have u : nI (pop32 set) < nI (cnt (fun j => bt set j && lt (sCo (qS Q) j) b) (sN (qS Q))) * 2 ↔ pop32 set < cnt (fun j => bt set j && lt (sCo (qS Q) j) b) (sN (qS Q)) * 2 := by
      rw [show (2 : Int32) = nI 2 from rfl, nI_mul]
      exact nI_ltI (by have := pop32_le set; omega) (by omega)
    refine b_X_vote_32 H.x t1 (fun c1 => H.s) (fun c1 => H.ok) (fun c1 => ⟨rfl, by omega⟩) (fun c1 => H.x) (fun c1 c2 => ?_) (fun c1 c2 => ?_) (fun c1 => absurd yes c1)
    · rw [if_pos (u.mp c2)] at ih; rw [nI_1]; exact ih
    · rw [if_neg (fun z => c2 (u.mpr z))] at ih; rw [nI_1]; exact ih
  · have no := nl_self (n := sB (qS Q)) (by omega)
    refine b_X_vote_32 (b_9 := 0) H.x t1 (fun c1 => H.s) (fun c1 => H.ok) (fun c1 => absurd c1 no) (fun c1 => H.x) (fun c1 c2 => absurd c1 no) (fun c1 c2 => absurd c1 no) (fun c1 => g e)
theorem s_X_like {m x : Int64} (H : XR h Q) (hR : ∀ h', Kg h h' 0 102 → XR h' (stQ Q (a_like (qS Q) m x).2) → R (some (.int (a_like (qS Q) m x).1)) h') : Ev G (d + 6) 0 0 M_X_like 0 [.ref 0, .long m, ev_unk, .long x, ev_unk, ev_unk, ev_unk, ev_unk] [] h R := by
  have hz := H.szN
  have g : ∀ {v : Int32} {l : Int32}, a_like (qS Q) m x = (v, l) → R (some (.int v)) (xoS h l (qFk Q) (qFp Q)) := fun e => H.fin (Kg.refl _ _ _) hR e
  refine b_X_like_0 H.x H.x H.s ⟨_, H.x⟩ (fun c1 => H.x) (fun c1 => ⟨_, H.x⟩) (fun c1 => H.x) (fun c1 => H.s) (fun c1 => ⟨_, H.x⟩) (fun c1 c2 => H.x) (fun c1 c2 => ⟨_, H.x⟩) (fun c1 c2 => H.s) (fun c1 c2 => H.ok) (fun c1 c2 => H.fo) (fun c1 c2 => H.s.obj) (fun c1 => g (by unfold a_like; rw [if_neg (b2i_f0 c1)])) (fun c1 c2 => g (by unfold a_like; rw [if_pos (b2i_n0 c1), if_neg (b2i_f0 c2)])) (fun c1 c2 => ?_)
  have e : a_like (qS Q) m x = (setI (lkP (qS Q) m x), 0) := by unfold a_like; rw [if_pos (b2i_n0 c1), if_pos (b2i_n0 c2)]
  obtain ⟨brf, tgf, cof, fv, t1, t2, t3, t4, e1, e2, -⟩ := H.s
  have L := up0 (P := fun i => Ev G (d + 6) 0 0 M_X_like 37 [.ref 0, .long m, ev_unk, .long x, ev_unk, .int (setI (ctP (qS Q))), .int (setI (fun j => decide (j < i) && lkP (qS Q) m x j)), .int (nI i)] [] h R) 32 ?_ ?_
  · rw [setI_lt0] at L; exact L
  · intro i hi ih
    have yes : nI i < (32 : Int32) := nI_lt hi (by decide)
    have lk : lkP (qS Q) m x i = (ctP (qS Q) i && decide (((sCo (qS Q) i ^^^ x) &&& m) = 0)) := rfl
    refine b_X_like_37 H.x t1 t3 (fun c1 c2 => ixn hi (by decide)) (fun c1 => H.x) (fun c1 => ⟨_, H.x⟩) (fun c1 c2 => ?_) (fun c1 c2 c3 => ?_) (fun c1 c2 c3 => ?_) (fun c1 => absurd yes c1)
    · have c2 := b2i_e0 c2
      rw [inI_n hi, H.ctx] at c2
      rw [nI_1, setI_skip _ (by rw [lk, c2]; rfl)]; exact ih
    · have c2 := b2i_n0 c2
      rw [inI_n hi, H.ctx] at c2
      rw [(e2 i (ctP_lt c2)).1] at c3
      rw [nI_1, setI_add _ hi (by rw [lk, c2, decide_eq_true c3]; rfl)]; exact ih
    · have c2 := b2i_n0 c2
      rw [inI_n hi, H.ctx] at c2
      rw [(e2 i (ctP_lt c2)).1] at c3
      rw [nI_1, setI_skip _ (by rw [lk, c2, decide_eq_false c3]; rfl)]; exact ih
  · have no : ¬ nI 32 < (32 : Int32) := by decide
    rw [show setI (fun j => decide (j < 32) && lkP (qS Q) m x j) = setI (lkP (qS Q) m x) from setI_congr fun j hj => by rw [decide_eq_true hj]; rfl]
    refine b_X_like_37 (j9 := 0) H.x t1 t3 (fun c1 c2 => absurd c1 no) (fun c1 => H.x) (fun c1 => ⟨_, H.x⟩) (fun c1 c2 => absurd c1 no) (fun c1 c2 c3 => absurd c1 no) (fun c1 c2 c3 => absurd c1 no) (fun c1 => g e)
theorem s_X_ones {b : Int32} (H : XR h Q) (hR : ∀ h', Kg h h' 0 102 → XR h' (stQ Q (a_ones (qS Q) b).2) → R (some (.int (a_ones (qS Q) b).1)) h') : Ev G (d + 6) 0 0 M_X_ones 0 [.ref 0, .int b] [] h R := by
  have hzB := H.szB
  refine b_X_ones_0 H.x H.x H.s H.ok ⟨_, H.x⟩ (fun c1 => H.x) (fun c1 => ⟨_, H.x⟩) (fun c1 => H.s) (fun c1 => H.ok) (fun c1 => H.fo) (fun c1 => H.s.obj) (fun c1 => H.s) (fun c1 => H.ok) (fun c1 => ⟨(vN_lt (by omega) (b2i_n0 c1)).1, by have := (vN_lt (by omega) (b2i_n0 c1)).2; omega⟩) (fun c1 => H.x) (fun c1 => H.fin (Kg.refl _ _ _) hR (by unfold a_ones; rw [if_neg (b2i_f0 c1)])) (fun c1 => H.fin (Kg.refl _ _ _) hR (by unfold a_ones; rw [if_pos (b2i_n0 c1), H.ctx]; rfl))
theorem gap_eq {s c : Nat} (hs : s ≤ 32) (hc : c ≤ 32) : (if 0 ≤ nI s - (2 : Int32) * nI c then nI s - (2 : Int32) * nI c else 0 - (nI s - (2 : Int32) * nI c)) = nI (gapN s c) :=
  (by decide +kernel : ∀ s, s < 33 → ∀ c, c < 33 → (if 0 ≤ nI s - (2 : Int32) * nI c then nI s - (2 : Int32) * nI c else 0 - (nI s - (2 : Int32) * nI c)) = nI (gapN s c)) s (by omega) c (by omega)
theorem tel_le (S : AS) {l0 : Nat} (h0 : l0 ≤ 100) : ∀ b, (tel S l0 b).2 ≤ 100
  | 0 => h0
  | b + 1 => by
    have ih := tel_le S h0 b
    unfold tel
    split
    · show gapN _ _ ≤ 100; omega
    · exact ih
theorem s_X_telling (H : XR h Q) (hR : ∀ h', Kg h h' 0 102 → XR h' (stQ Q (a_telling (qS Q)).2) → R (some (.int (a_telling (qS Q)).1)) h') : Ev G (d + 6) 0 0 M_X_telling 0 [.ref 0, ev_unk, ev_unk, ev_unk, ev_unk, ev_unk, ev_unk] [] h R := by
  have hzB := H.szB
  have hz := H.szN
  have hx := H.ctx
  have hs := cnt_le (ctP (qS Q)) 32
  refine b_X_telling_0 H.x H.s H.ok H.fo H.s.obj ?_
  obtain ⟨brf, tgf, cof, fv, t1, t2, t3, t4, e1, e2, -⟩ := H.s
  have L := up0 (P := fun b => Ev G (d + 6) 0 0 M_X_telling 23 [.ref 0, .int (setI (ctP (qS Q))), .int (nI (cnt (ctP (qS Q)) 32)), .int (nI (tel (qS Q) (cnt (ctP (qS Q)) 32 + 1) b).1), .int (nI (tel (qS Q) (cnt (ctP (qS Q)) 32 + 1) b).2), .int (nI b), ev_unk] [] h R) (sB (qS Q)) ?_ ?_
  · rw [pop32_nr, nI_1]; exact L
  · intro b hb ih
    have yes : nI b < nI (sB (qS Q)) := nI_lt hb (by omega)
    have st : tel (qS Q) (cnt (ctP (qS Q)) 32 + 1) (b + 1) = if gapN (cnt (ctP (qS Q)) 32) (on1 (qS Q) b) < (tel (qS Q) (cnt (ctP (qS Q)) 32 + 1) b).2 then (b, gapN (cnt (ctP (qS Q)) 32) (on1 (qS Q) b)) else tel (qS Q) (cnt (ctP (qS Q)) 32 + 1) b := rfl
    rw [st] at ih
    have hl := tel_le (qS Q) (l0 := cnt (ctP (qS Q)) 32 + 1) (by omega) b
    have ho : on1 (qS Q) b ≤ 32 := Nat.le_trans (cnt_le _ _) hz
    have eg := gap_eq hs ho
    have hg : gapN (cnt (ctP (qS Q)) 32) (on1 (qS Q) b) ≤ 100 := by unfold gapN; split <;> omega
    have eo : cnt (fun j => bt (setI (ctP (qS Q))) j && lt (sCo (qS Q) j) b) (sN (qS Q)) = on1 (qS Q) b := by rw [hx]; rfl
    refine b_X_telling_23 H.x t1 (fun c1 => H.s) (fun c1 => H.ok) (fun c1 => ⟨rfl, by omega⟩) (fun c1 => H.x) (fun c1 c2 => ?_) (fun c1 c2 => ?_) (fun c1 => absurd yes c1)
    · rw [eo, eg] at c2 ⊢
      rw [if_pos ((nI_ltI (by omega) (by omega)).mp c2)] at ih
      rw [nI_1]; exact ih
    · rw [eo, eg] at c2
      rw [if_neg (fun z => c2 (nI_lt z (by omega)))] at ih
      rw [nI_1]; exact ih
  · have no := nl_self (n := sB (qS Q)) (by omega)
    refine b_X_telling_23 (b_9 := 0) H.x t1 (fun c1 => H.s) (fun c1 => H.ok) (fun c1 => absurd c1 no) (fun c1 => H.x) (fun c1 c2 => absurd c1 no) (fun c1 c2 => absurd c1 no) (fun c1 => H.fin (Kg.refl _ _ _) hR rfl)
theorem s_X_alike {x y : Int32} (H : XR h Q) (hR : ∀ h', Kg h h' 0 102 → XR h' (stQ Q (a_alike (qS Q) x y).2) → R (some (.int (a_alike (qS Q) x y).1)) h') : Ev G (d + 6) 0 0 M_X_alike 0 [.ref 0, .int x, .int y, ev_unk, ev_unk, ev_unk] [] h R := by
  have hzB := H.szB
  have hz := H.szN
  have g : ∀ {v : Int32} {l : Int32}, a_alike (qS Q) x y = (v, l) → R (some (.int v)) (xoS h l (qFk Q) (qFp Q)) := fun e => H.fin (Kg.refl _ _ _) hR e
  refine b_X_alike_0 H.x H.x H.s H.ok ⟨_, H.x⟩ (fun c1 => H.x) (fun c1 => ⟨_, H.x⟩) (fun c1 => H.x) (fun c1 => H.s) (fun c1 => H.ok) (fun c1 => ⟨_, H.x⟩) (fun c1 c2 => H.x) (fun c1 c2 => ⟨_, H.x⟩) (fun c1 c2 => H.s) (fun c1 c2 => H.ok) (fun c1 c2 => H.fo) (fun c1 c2 => H.s.obj) (fun c1 => g (by unfold a_alike; rw [if_neg (b2i_f0 c1)])) (fun c1 c2 => g (by unfold a_alike; rw [if_pos (b2i_n0 c1), if_neg (b2i_f0 c2)])) (fun c1 c2 => ?_)
  have e : a_alike (qS Q) x y = (nI (cnt (akP (qS Q) (vN x) (vN y)) 32), 0) := by unfold a_alike; rw [if_pos (b2i_n0 c1), if_pos (b2i_n0 c2)]
  have vx := vN_lt (by omega) (b2i_n0 c1)
  have vy := vN_lt (by omega) (b2i_n0 c2)
  have tx : ∀ z : Int64, tbL z x = lt z (vN x) := fun z => by have q := tbL_n (x := z) (j := vN x) (by omega); rw [← vx.1] at q; exact q
  have ty : ∀ z : Int64, tbL z y = lt z (vN y) := fun z => by have q := tbL_n (x := z) (j := vN y) (by omega); rw [← vy.1] at q; exact q
  obtain ⟨brf, tgf, cof, fv, t1, t2, t3, t4, e1, e2, -⟩ := H.s
  have L := up0 (P := fun i => Ev G (d + 6) 0 0 M_X_alike 36 [.ref 0, .int x, .int y, .int (setI (ctP (qS Q))), .int (nI (cnt (akP (qS Q) (vN x) (vN y)) i)), .int (nI i)] [] h R) 32 ?_ ?_
  · exact L
  · intro i hi ih
    have yes : nI i < (32 : Int32) := nI_lt hi (by decide)
    have st : cnt (akP (qS Q) (vN x) (vN y)) (i + 1) = cnt (akP (qS Q) (vN x) (vN y)) i + if (ctP (qS Q) i && (lt (sCo (qS Q) i) (vN x) == lt (sCo (qS Q) i) (vN y))) then 1 else 0 := rfl
    rw [st] at ih
    refine b_X_alike_36 H.x t1 t3 (fun c1 c2 => ixn hi (by decide)) (fun c1 => H.x) (fun c1 => ⟨_, H.x⟩) (fun c1 c2 => ?_) (fun c1 c2 c3 => ?_) (fun c1 c2 c3 => ?_) (fun c1 => absurd yes c1)
    · have c2 := b2i_e0 c2
      rw [inI_n hi, H.ctx] at c2
      rw [c2] at ih
      rw [nI_1]; exact ih
    · have c2 := b2i_n0 c2
      rw [inI_n hi, H.ctx] at c2
      rw [(e2 i (ctP_lt c2)).1, tx, ty] at c3
      have c3 : lt (sCo (qS Q) i) (vN x) = lt (sCo (qS Q) i) (vN y) := by revert c3; cases lt (sCo (qS Q) i) (vN x) <;> cases lt (sCo (qS Q) i) (vN y) <;> decide
      rw [c2, c3, Bool.true_and, beq_self_eq_true, if_pos rfl] at ih
      rw [nI_1, nI_1]; exact ih
    · have c2 := b2i_n0 c2
      rw [inI_n hi, H.ctx] at c2
      rw [(e2 i (ctP_lt c2)).1, tx, ty] at c3
      have c3 : (lt (sCo (qS Q) i) (vN x) == lt (sCo (qS Q) i) (vN y)) = false := by revert c3; cases lt (sCo (qS Q) i) (vN x) <;> cases lt (sCo (qS Q) i) (vN y) <;> decide
      rw [c2, c3] at ih
      rw [nI_1]; exact ih
  · have no : ¬ nI 32 < (32 : Int32) := by decide
    refine b_X_alike_36 (j9 := 0) H.x t1 t3 (fun c1 c2 => absurd c1 no) (fun c1 => H.x) (fun c1 => ⟨_, H.x⟩) (fun c1 c2 => absurd c1 no) (fun c1 c2 c3 => absurd c1 no) (fun c1 c2 c3 => absurd c1 no) (fun c1 => g e)
theorem s_X_spread {p w : Int32} (H : XR h Q) (hR : ∀ h', Kg h h' 0 102 → XR h' (stQ Q (a_spread (qS Q) p w).2) → R (some (.int (a_spread (qS Q) p w).1)) h') : Ev G (d + 6) 0 0 M_X_spread 0 [.ref 0, .int p, .int w, ev_unk, ev_unk, ev_unk, ev_unk, ev_unk] [] h R := by
  have hzP := H.szP
  have hz := H.szN
  have g : ∀ {v : Int32} {l : Int32}, a_spread (qS Q) p w = (v, l) → R (some (.int v)) (xoS h l (qFk Q) (qFp Q)) := fun e => H.fin (Kg.refl _ _ _) hR e
  refine b_X_spread_0 H.x (fun c1 => H.x) (fun c1 => ⟨_, H.x⟩) (fun c1 => H.x) (fun c1 => H.s) (fun c1 => H.ok) (fun c1 => ⟨_, H.x⟩) (fun c1 c2 => H.x) (fun c1 c2 => ⟨_, H.x⟩) (fun c1 c2 => H.s) (fun c1 c2 => H.ok) (fun c1 c2 => H.fo) (fun c1 c2 => H.s.obj) (fun c1 => g (by unfold a_spread; rw [if_neg (b2i_f0 c1)])) (fun c1 c2 => g (by unfold a_spread; rw [if_pos (b2i_n0 c1), if_neg (b2i_f0 c2)])) (fun c1 c2 => ?_)
  have vp := vN_lt (by omega) (b2i_n0 c2)
  have e : a_spread (qS Q) p w = (if w = 0 then (nI (sprF (qS Q) (vN p) 32).2.1, 0) else (nI (sprF (qS Q) (vN p) 32).2.2, 0)) := by unfold a_spread; rw [if_pos (b2i_n0 c1), if_pos (b2i_n0 c2)]
  rw [e] at g
  have lim : ∀ i, (sprF (qS Q) (vN p) i).2.2 ≤ 32 ∧ ∀ j, bt (sprF (qS Q) (vN p) i).1 j = true → j < sN (qS Q) := by
    intro i
    induction i with
    | zero => exact ⟨by show 0 ≤ 32; omega, fun j q => by have q : bt (setI (ctP (qS Q))) j = true := q; rw [H.ctx] at q; exact ctP_lt q⟩
    | succ i ih =>
      show (spr1 (qS Q) (vN p) i (sprF (qS Q) (vN p) i)).2.2 ≤ 32 ∧ _
      have hp := pop32_le (setI (skP (qS Q) (bt (sprF (qS Q) (vN p) i).1) i (vN p)))
      refine ⟨?_, fun j q => ?_⟩
      · unfold spr1
        split
        · show max _ _ ≤ 32; exact Nat.max_le.mpr ⟨ih.1, hp⟩
        · exact ih.1
      · have q : bt (spr1 (qS Q) (vN p) i (sprF (qS Q) (vN p) i)).1 j = true := q
        unfold spr1 at q
        split at q
        · have q : bt (_ &&& _) j = true := q
          rw [b_and, Bool.and_eq_true] at q
          exact ih.2 j q.1
        · exact ih.2 j q
  have L := up0 (P := fun i => Ev G (d + 6) 0 0 M_X_spread 45 [.ref 0, .int p, .int w, .int (sprF (qS Q) (vN p) i).1, .int (nI (sprF (qS Q) (vN p) i).2.1), .int (nI (sprF (qS Q) (vN p) i).2.2), .int (nI i), ev_unk] [] h R) 32 ?_ ?_
  · exact L
  · intro i hi ih
    have yes : nI i < (32 : Int32) := nI_lt hi (by decide)
    have st : sprF (qS Q) (vN p) (i + 1) = spr1 (qS Q) (vN p) i (sprF (qS Q) (vN p) i) := rfl
    obtain ⟨lm, lin⟩ := lim i
    revert lm lin st ih
    generalize sprF (qS Q) (vN p) (i + 1) = z'
    generalize sprF (qS Q) (vN p) i = z
    intro ih st lm lin
    subst st
    have hp := pop32_le (setI (skP (qS Q) (bt z.1) i (vN p)))
    obtain ⟨brf, tgf, cof, fv, t1, t2, t3, t4, e1, e2, -⟩ := H.s
    refine b_X_spread_45 H.x (fun c1 c2 => H.s) (fun c1 c2 => H.ok) (fun c1 c2 => ⟨rfl, lin i (by have := b2i_n0 c2; rw [inI_n hi] at this; exact this)⟩) (fun c1 c2 => vp) (fun c1 c2 => H.s.obj) (fun c1 c2 => H.x) (fun c1 c2 => ⟨_, H.x⟩) (fun c1 c2 => H.x) (fun c1 c2 => ⟨_, H.x⟩) (fun c1 c2 => ?_) (fun c1 c2 => ?_) (fun c1 c2 => absurd yes c1) (fun c1 c2 => absurd yes c1)
    · have c2 := b2i_e0 c2
      rw [inI_n hi] at c2
      unfold spr1 at ih
      rw [if_neg (by rw [c2]; decide)] at ih
      rw [nI_1]; exact ih
    · have c2 := b2i_n0 c2
      rw [inI_n hi] at c2
      unfold spr1 at ih
      rw [if_pos c2] at ih
      rw [nI_1, nI_1]
      have em : (if nI z.2.2 < nI (pop32 (setI (skP (qS Q) (bt z.1) i (vN p)))) then nI (pop32 (setI (skP (qS Q) (bt z.1) i (vN p)))) else nI z.2.2) = nI (max z.2.2 (pop32 (setI (skP (qS Q) (bt z.1) i (vN p))))) := by
        by_cases q : z.2.2 < pop32 (setI (skP (qS Q) (bt z.1) i (vN p)))
        · rw [if_pos (nI_lt q (by omega)), Nat.max_eq_right (by omega)]
        · rw [if_neg (fun y => q ((nI_ltI (by omega) (by omega)).mp y)), Nat.max_eq_left (by omega)]
      rw [em]; exact ih
  · have no : ¬ nI 32 < (32 : Int32) := by decide
    revert g
    generalize sprF (qS Q) (vN p) 32 = z
    intro g
    obtain ⟨brf, tgf, cof, fv, t1, t2, t3, t4, e1, e2, -⟩ := H.s
    refine b_X_spread_45 (c_5 := 0) (p_6 := 0) H.x (fun c1 c2 => H.s) (fun c1 c2 => H.ok) (fun c1 c2 => absurd c1 no) (fun c1 c2 => absurd c1 no) (fun c1 c2 => H.s.obj) (fun c1 c2 => H.x) (fun c1 c2 => ⟨_, H.x⟩) (fun c1 c2 => H.x) (fun c1 c2 => ⟨_, H.x⟩) (fun c1 c2 => absurd c1 no) (fun c1 c2 => absurd c1 no) (fun c1 c2 => g (by rw [if_pos c2])) (fun c1 c2 => g (by rw [if_neg c2]))
theorem up_eq {B b : Nat} (hB : B ≤ 48) (hb : b ≤ 24) : (inR (nI B - nI b) 25 && !inR (nI B - nI b) 1) = decide (b < B ∧ B - b ≤ 24) :=
  (by decide +kernel : ∀ B, B < 49 → ∀ b, b < 25 → (inR (nI B - nI b) 25 && !inR (nI B - nI b) 1) = decide (b < B ∧ B - b ≤ 24)) B (by omega) b (by omega)
theorem s_upQ {b : Nat} (H : XR h Q) (hb : b ≤ 24) (hR : R (some (.int (b2i (upB (qS Q) b)))) h) : Ev G d 0 0 M_X_isUpper 0 [.int (nI (sB (qS Q)) - nI b)] [] h R := by
  refine s_X_isUpper ?_
  rw [up_eq H.szB hb]; exact hR
theorem s_costQ {bI rI : Int32} {b r : Nat} (H : XR h Q) (hb : bI = nI b ∧ b ≤ 24) (hu : upB (qS Q) b = true) (hr : rI = nI r ∧ r ≤ 48) (hR : ∀ h', Kg h h' 0 102 → XR h' Q → R (some (.int (nI (ptN (qS Q) (ctP (qS Q)) b r 32)))) h') : Ev G (d + 4) 0 0 M_X_costParted 0 [.ref 0, .int (setI (ctP (qS Q))), .int bI, .int rI, ev_unk, ev_unk] [] h R := by
  have hu := of_decide_eq_true hu
  refine s_X_costParted H.x H.s H.ok H.bu (fun j hj => by rw [H.ctx] at hj; exact ctP_lt hj) ⟨hb.1, hb.2, by omega, hu.2⟩ hr fun h' K B => ?_
  rw [H.ctx]
  exact hR h' (K.g.wide (by omega) (by omega)) (H.inBu K B)
theorem le24 {x : Int32} (h0 : ¬ x < 1) (h1 : ¬ (24 : Int32) < x) : x = nI (vN x) ∧ 1 ≤ vN x ∧ vN x ≤ 24 := by
  obtain ⟨j, hj, rfl⟩ := nI_of (x := x) (fun z => h0 (by rw [Int32.lt_iff_toInt_lt] at z ⊢; rw [show (0 : Int32).toInt = 0 from rfl] at z; rw [show (1 : Int32).toInt = 1 from rfl]; omega))
  rw [vN_nI (by omega)]
  refine ⟨rfl, ?_, ?_⟩
  · rcases Nat.lt_or_ge j 1 with z | z
    · exact absurd (nI_lt (b := 1) z (by omega)) h0
    · exact z
  · rcases Nat.lt_or_ge 24 j with z | z
    · exact absurd (nI_lt (a := 24) z hj) h1
    · exact z
theorem s_X_parted {b r : Int32} (H : XR h Q) (hR : ∀ h', Kg h h' 0 102 → XR h' (stQ Q (a_parted (qS Q) b r).2) → R (some (.int (a_parted (qS Q) b r).1)) h') : Ev G (d + 6) 0 0 M_X_parted 0 [.ref 0, .int b, .int r] [] h R := by
  have hzB := H.szB
  have g : ∀ {v : Int32} {l : Int32}, a_parted (qS Q) b r = (v, l) → R (some (.int v)) (xoS h l (qFk Q) (qFp Q)) := fun e => H.fin (Kg.refl _ _ _) hR e
  obtain ⟨brf, tgf, cof, fv, t1, t2, t3, t4, e1, e2, -⟩ := H.s
  refine b_X_parted_0 H.x t1 H.x H.s H.ok ⟨_, H.x⟩ (fun c1 => H.x) (fun c1 => ⟨_, H.x⟩) (fun c1 c2 => H.x) (fun c1 c2 => ⟨_, H.x⟩) (fun c1 c2 c3 => H.x) (fun c1 c2 c3 => ⟨_, H.x⟩) (fun c1 => g (by unfold a_parted; rw [if_neg (b2i_f0 c1)])) (fun c1 c2 => g (by unfold a_parted; rw [if_pos (b2i_n0 c1), if_pos c2])) (fun c1 c2 c3 => g (by unfold a_parted; rw [if_pos (b2i_n0 c1), if_neg c2, if_pos c3])) (fun c1 c2 c3 => ?_)
  have vb := le24 c2 c3
  have vr := inR_rad hzB (b2i_n0 c1)
  have e : a_parted (qS Q) b r = if upB (qS Q) (vN b) then (nI (ptN (qS Q) (ctP (qS Q)) (vN b) (vN r) 32), 0) else (-1, 6) := by unfold a_parted; rw [if_pos (b2i_n0 c1), if_neg c2, if_neg c3]
  have eb : nI (sB (qS Q)) - b = nI (sB (qS Q)) - nI (vN b) := by rw [← vb.1]
  rw [eb]
  refine s_upQ H vb.2.2 ?_
  refine b_X_parted_37 H.x (fun c1 => H.x) (fun c1 => ⟨_, H.x⟩) (fun c1 => H.s) (fun c1 => H.ok) (fun c1 => H.fo) (fun c1 => H.s.obj) (fun c1 => g (by rw [e, if_neg (b2i_f0 c1)])) (fun c1 => ?_)
  have cu := b2i_n0 ‹¬ b2i (upB _ _) = 0›
  rw [e, if_pos cu] at hR
  refine s_costQ H ⟨vb.1, vb.2.2⟩ cu ⟨vr.1, by omega⟩ fun h' K H => ?_
  refine b_X_parted_61 H.x ⟨_, H.x⟩ ?_
  exact H.fin K hR rfl
theorem ptN_le {S : AS} {p : Nat → Bool} {l r : Nat} : ∀ n, ptN S p l r n ≤ n * 1000000
  | 0 => Nat.le_refl _
  | n + 1 => by
    have ih := ptN_le (S := S) (p := p) (l := l) (r := r) n
    show ptN S p l r n + (if p n then _ else 0) ≤ (n + 1) * 1000000
    have : bLp (cstN p (sCo S) (sCo S n) (twoW l (sB S - l))) (twoW l (sB S - l)) 2 0 (r + 1) ≤ 1000000 := bLp_le (cstN_ok _ _ _ _ _) (by omega) 1 0 _ (by omega)
    rw [Nat.succ_mul]
    split
    · exact Nat.add_le_add ih this
    · exact Nat.le_trans ih (Nat.le_add_right _ _)
theorem s_X_bestPart {r : Int32} (H : XR h Q) (hR : ∀ h', Kg h h' 0 102 → XR h' (stQ Q (a_bestPart (qS Q) r).2) → R (some (.int (a_bestPart (qS Q) r).1)) h') : Ev G (d + 6) 0 0 M_X_bestPart 0 [.ref 0, .int r, ev_unk, ev_unk, ev_unk, ev_unk, ev_unk] [] h R := by
  have hzB := H.szB
  have g : ∀ {h1 : ev_H} {v : Int32} {l : Int32}, XR h1 Q → Kg h h1 0 102 → a_bestPart (qS Q) r = (v, l) → R (some (.int v)) (xoS h1 l (qFk Q) (qFp Q)) := fun H K e => H.fin K hR e
  refine b_X_bestPart_0 H.x H.x H.s H.ok ⟨_, H.x⟩ (fun c1 => H.x) (fun c1 => ⟨_, H.x⟩) (fun c1 => H.s) (fun c1 => H.ok) (fun c1 => H.fo) (fun c1 => H.s.obj) (fun c1 => g H (Kg.refl _ _ _) (by unfold a_bestPart; rw [if_neg (b2i_f0 c1)])) (fun c1 => ?_)
  have vr := inR_rad hzB (b2i_n0 c1)
  have e : a_bestPart (qS Q) r = (oIx (bpO (qS Q) (vN r) 25), 0) := by unfold a_bestPart; rw [if_pos (b2i_n0 c1)]
  have L := up_to (P := fun b => 1 ≤ b → ∀ h1, Kg h h1 0 102 → XR h1 Q → Ev G (d + 6) 0 0 M_X_bestPart 30 [.ref 0, .int r, .int (setI (ctP (qS Q))), .int (oIx (bpO (qS Q) (vN r) b)), .int (oVl (bpO (qS Q) (vN r) b)), .int (nI b), ev_unk] [] h1 R) (N := 25) ?_ ?_
  · exact L 1 (by omega) (by omega) h (Kg.refl _ _ _) H
  · intro b hb ih h1b h1 K1 H
    obtain ⟨brf, tgf, cof, fv, t1, t2, t3, t4, e1, e2, -⟩ := H.s
    have no : ¬ (24 : Int32) < nI b := nI_nlt (a := 24) (by omega) (by omega)
    have st : bpO (qS Q) (vN r) (b + 1) = if (decide (1 ≤ b) && upB (qS Q) b) then (match bpO (qS Q) (vN r) b with
      | none => some (b, ptN (qS Q) (ctP (qS Q)) b (vN r) 32)
      | some (b', l) => if ptN (qS Q) (ctP (qS Q)) b (vN r) 32 < l then some (b, ptN (qS Q) (ctP (qS Q)) b (vN r) 32) else some (b', l)) else bpO (qS Q) (vN r) b := rfl
    refine b_X_bestPart_30 H.x t1 (fun c1 => H.x) (fun c1 => ⟨_, H.x⟩) (fun c1 => absurd c1 no) (fun c1 => ?_)
    refine s_upQ H (by omega) ?_
    refine b_X_bestPart_50 (fun c1 => ⟨_, H.x⟩) (fun c1 => ?_) (fun c1 => ?_)
    · have c2 := b2i_e0 c1
      rw [c2, Bool.and_false] at st
      rw [nI_1]
      have ih := ih (by omega) h1 K1 H
      rw [st] at ih
      exact ih
    · have c2 := b2i_n0 c1
      rw [c2, decide_eq_true h1b, Bool.and_self, if_pos rfl] at st
      refine s_costQ H ⟨rfl, by omega⟩ c2 ⟨vr.1, by omega⟩ fun h2 K2 H => ?_
      have ih := ih (by omega) h2 (K1.trans K2) H
      have hv := ptN_le (S := qS Q) (p := ctP (qS Q)) (l := b) (r := vN r) 32
      cases q : bpO (qS Q) (vN r) b with
      | none =>
        rw [q] at st
        rw [st] at ih
        refine b_X_bestPart_61 (fun c1 => by rw [nI_1]; exact ih) (fun c1 c2 => absurd rfl c1) (fun c1 c2 => absurd rfl c1)
      | some z =>
        obtain ⟨b', l⟩ := z
        rw [q] at st
        have hz := omin_some q
        have hl : l ≤ 32 * 1000000 := by
          have := hz.2
          rw [show l = ptN (qS Q) (ctP (qS Q)) b' (vN r) 32 from this]
          exact ptN_le 32
        have hb' : b' < b := hz.1
        have ne : ¬ oIx (some (b', l)) = -1 := nI_m1 (by omega)
        refine b_X_bestPart_61 (fun c1 => absurd c1 ne) (fun c1 c2 => ?_) (fun c1 c2 => ?_)
        · have c2 : ptN (qS Q) (ctP (qS Q)) b (vN r) 32 < l := (nI_ltI (by omega) (by omega)).mp c2
          dsimp only at st
          rw [if_pos c2] at st
          rw [st] at ih
          rw [nI_1]; exact ih
        · have c2 : ¬ ptN (qS Q) (ctP (qS Q)) b (vN r) 32 < l := fun y => c2 (nI_lt y (by omega))
          dsimp only at st
          rw [if_neg c2] at st
          rw [st] at ih
          rw [nI_1]; exact ih
  · intro _ h1 K1 H
    obtain ⟨brf, tgf, cof, fv, t1, t2, t3, t4, e1, e2, -⟩ := H.s
    have yes : (24 : Int32) < nI 25 := by decide
    refine b_X_bestPart_30 H.x t1 (fun c1 => H.x) (fun c1 => ⟨_, H.x⟩) (fun c1 => g H K1 e) (fun c1 => absurd yes c1)
end S32
