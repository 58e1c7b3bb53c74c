/-! RANKED, APART, PAIRS, JOINED, CLOSEST -/
theorem b2i_f0 {b : Bool} (h : b2i b = 0) : ¬ b = true := by rw [b2i_e0 h]; decide
theorem b_X_ranked_0 {G : ev_G} {d k n : Nat} {h : ev_H} {R : Option Value → ev_H → Prop} {x1 : Int64} {x3 : Int32} {S1 : AS} {la2 : Int32} {fk3 : Int32} {fp4 : Int32} {la5 : Int32} {fk6 : Int32} {fp7 : Int32} {la8 : Int32} {fk9 : Int32} {fp10 : Int32} {f_latest_11 : Int32} {f_faultKind_12 : Int32} {f_faultPlace_13 : Int32} {f_bits_14 : Int32} {f_parts_15 : Int32} {f_size_16 : Int32} {fv17 : Value} {S18 : AS}
  (a8 : hat h 0 (oC 8 [.ref 1, .ref 5, .ref 18, .ref 81, .ref 98, .int f_latest_11, .int f_faultKind_12, .int f_faultPlace_13]))
  (a9 : hat h 1 (oC 6 [.int f_bits_14, .int f_parts_15, .ref 2, .int f_size_16, .ref 3, .ref 4, fv17]))
  (pr1 : XO h la2 fk3 fp4)
  (pr2 : StR h 1 S1)
  (r3 : ∃ fs, hat h 0 (oC 8 fs))
  (pr4 : (b2i (numB x1 (sB S1))) = (0 : Int32) → XO h la5 fk6 fp7)
  (r5 : (b2i (numB x1 (sB S1))) = (0 : Int32) → ∃ fs, hat h 0 (oC 8 fs))
  (pr6 : ¬ (b2i (numB x1 (sB S1))) = (0 : Int32) → x3 < (0 : Int32) → XO h la8 fk9 fp10)
  (r7 : ¬ (b2i (numB x1 (sB S1))) = (0 : Int32) → x3 < (0 : Int32) → ∃ fs, hat h 0 (oC 8 fs))
  (pr10 : ¬ (b2i (numB x1 (sB S1))) = (0 : Int32) → ¬ x3 < (0 : Int32) → StR h 1 S18)
  (pr11 : ¬ (b2i (numB x1 (sB S1))) = (0 : Int32) → ¬ x3 < (0 : Int32) → sOk S18)
  (pr12 : ¬ (b2i (numB x1 (sB S1))) = (0 : Int32) → ¬ x3 < (0 : Int32) → sFl S18 = [] ∨ flOk (sFl S18))
  (r13 : ¬ (b2i (numB x1 (sB S1))) = (0 : Int32) → ¬ x3 < (0 : Int32) → ∃ fs, hat h 98 (oC 3 fs))
  (k1 : (b2i (numB x1 (sB S1))) = (0 : Int32) → R (some (.int (-1 : Int32))) (xoS h (1 : Int32) fk6 fp7))
  (k2 : ¬ (b2i (numB x1 (sB S1))) = (0 : Int32) → x3 < (0 : Int32) → R (some (.int (-1 : Int32))) (xoS h (1 : Int32) fk9 fp10))
  (k3 : ¬ (b2i (numB x1 (sB S1))) = (0 : Int32) → ¬ x3 < (0 : Int32) → Ev G (d + 5) 0 0 M_Ra_rank 0 [.ref 98, .ref 3, .int (setI (ctP S18)), .long x1, ev_unk, ev_unk] [] h (fun r h1 => Ev G (d + 6) k n M_X_ranked 40 [.ref 0, .long x1, ev_unk, .int x3] (r.toList ++ []) h1 R))
  : Ev G (d + 6) k n M_X_ranked 0 [.ref 0, .long x1, ev_unk, .int x3] [] h R :=
  Ev.go (pc' := 2) (ls' := [.ref 0, .long x1, ev_unk, .int x3]) (st' := [.long x1, .ref 0]) [.aload_n 0, .lload_n 1] (by decide +kernel) rfl <|
  Ev.cV0 (M' := M_X_isNumber) (as := [.long x1]) (rest := []) l_X_140 M_X_isNumber_ok M_X_isNumber_in M_X_isNumber_se (by decide +kernel) r3 rfl rfl rfl (Nat.le_of_ble_eq_true rfl) (Nat.le_of_ble_eq_true rfl) (s_X_isNumber pr1 pr2 <| show Ev G (d + 6) _ _ M_X_ranked 5 [.ref 0, .long x1, ev_unk, .int x3] [.int (b2i (numB x1 (sB S1)))] h R from
    Ev.br (i := .ifCond .eq (7)) (P := (b2i (numB x1 (sB S1))) = (0 : Int32)) (t := 12) (f := 8) (r := []) (by decide +kernel) rfl (fun c1 =>
      Ev.go (pc' := 14) (ls' := [.ref 0, .long x1, ev_unk, .int x3]) (st' := [.int (1 : Int32), .ref 0]) [.aload_n 0, .iconst 1] (by decide +kernel) rfl <|
      Ev.cV0 (M' := M_X_refuse) (as := [.int (1 : Int32)]) (rest := []) l_X_67 M_X_refuse_ok M_X_refuse_in M_X_refuse_se (by decide +kernel) (r5 c1) rfl rfl rfl (Nat.le_of_ble_eq_true rfl) (Nat.le_of_ble_eq_true rfl) (s_X_refuse' (pr4 c1) <| show Ev G (d + 6) _ _ M_X_ranked 17 [.ref 0, .long x1, ev_unk, .int x3] [.int (-1 : Int32)] (xoS h (1 : Int32) fk6 fp7) R from
        Ev.ret (r := (some (.int (-1 : Int32)))) (Or.inl ⟨_, rfl, by decide +kernel, _, rfl, rfl⟩) (k1 c1)
      )
    ) (fun c1 =>
      Ev.go (pc' := 9) (ls' := [.ref 0, .long x1, ev_unk, .int x3]) (st' := [.int x3]) [.iload_n 3] (by decide +kernel) rfl <|
      Ev.br (i := .ifCond .ge (9)) (P := x3 < (0 : Int32)) (t := 12) (f := 18) (r := []) (by decide +kernel) rfl (fun c2 =>
        Ev.go (pc' := 14) (ls' := [.ref 0, .long x1, ev_unk, .int x3]) (st' := [.int (1 : Int32), .ref 0]) [.aload_n 0, .iconst 1] (by decide +kernel) rfl <|
        Ev.cV0 (M' := M_X_refuse) (as := [.int (1 : Int32)]) (rest := []) l_X_67 M_X_refuse_ok M_X_refuse_in M_X_refuse_se (by decide +kernel) (r7 c1 c2) rfl rfl rfl (Nat.le_of_ble_eq_true rfl) (Nat.le_of_ble_eq_true rfl) (s_X_refuse' (pr6 c1 c2) <| show Ev G (d + 6) _ _ M_X_ranked 17 [.ref 0, .long x1, ev_unk, .int x3] [.int (-1 : Int32)] (xoS h (1 : Int32) fk9 fp10) R from
          Ev.ret (r := (some (.int (-1 : Int32)))) (Or.inl ⟨_, rfl, by decide +kernel, _, rfl, rfl⟩) (k2 c1 c2)
        )
      ) (fun c2 =>
        Ev.go (pc' := 19) (ls' := [.ref 0, .long x1, ev_unk, .int x3]) (st' := [.ref 0]) [.aload_n 0] (by decide +kernel) rfl <|
        Ev.getf f_X_40 (by decide +kernel) a8 rfl <|
        Ev.go (pc' := 23) (ls' := [.ref 0, .long x1, ev_unk, .int x3]) (st' := [.ref 0, .ref 98]) [.aload_n 0] (by decide +kernel) rfl <|
        Ev.getf f_X_10 (by decide +kernel) a8 rfl <|
        Ev.getf f_X_118 (by decide +kernel) a9 rfl <|
        Ev.go (pc' := 30) (ls' := [.ref 0, .long x1, ev_unk, .int x3]) (st' := [.ref 0, .ref 3, .ref 98]) [.aload_n 0] (by decide +kernel) rfl <|
        Ev.getf f_X_10 (by decide +kernel) a8 rfl <|
        Ev.cV0 (M' := M_St_counting) (as := []) (rest := [.ref 3, .ref 98]) l_X_96 M_St_counting_ok M_St_counting_in M_St_counting_se (by decide +kernel) ⟨_, a9⟩ rfl rfl rfl (Nat.le_of_ble_eq_true rfl) (Nat.le_of_ble_eq_true rfl) (s_St_counting (pr10 c1 c2) (pr11 c1 c2) (pr12 c1 c2) <| show Ev G (d + 6) _ _ M_X_ranked 36 [.ref 0, .long x1, ev_unk, .int x3] [.int (setI (ctP S18)), .ref 3, .ref 98] h R from
          Ev.go (pc' := 37) (ls' := [.ref 0, .long x1, ev_unk, .int x3]) (st' := [.long x1, .int (setI (ctP S18)), .ref 3, .ref 98]) [.lload_n 1] (by decide +kernel) rfl <|
          Ev.cV0 (M' := M_Ra_rank) (as := [.ref 3, .int (setI (ctP S18)), .long x1]) (rest := []) l_X_221 M_Ra_rank_ok M_Ra_rank_in M_Ra_rank_se (by decide +kernel) (r13 c1 c2) rfl rfl rfl (Nat.le_of_ble_eq_true rfl) (Nat.le_of_ble_eq_true rfl) (k3 c1 c2)
        )
      )
    )
  )
theorem b_X_ranked_40 {G : ev_G} {d k n : Nat} {h : ev_H} {R : Option Value → ev_H → Prop} {x1 : Int64} {x3 : Int32} {f_latest_1 : Int32} {f_faultKind_2 : Int32} {f_faultPlace_3 : Int32} {f_size_4 : Int32} {g5 : Nat → Int32} {j6 : Nat} {la7 : Int32} {fk8 : Int32} {fp9 : Int32} {la10 : Int32} {fk11 : Int32} {fp12 : Int32}
  (a1 : hat h 0 (oC 8 [.ref 1, .ref 5, .ref 18, .ref 81, .ref 98, .int f_latest_1, .int f_faultKind_2, .int f_faultPlace_3]))
  (a2 : hat h 98 (oC 3 [.ref 99, .ref 100, .ref 101, .int f_size_4]))
  (a3 : hat h 99 (aI 32 g5))
  (i4 : x3 < f_size_4 → ev_ix x3 j6 32)
  (pr5 : x3 < f_size_4 → XO h la7 fk8 fp9)
  (pr6 : ¬ x3 < f_size_4 → XO h la10 fk11 fp12)
  (k1 : x3 < f_size_4 → R (some (.int (g5 j6))) (xoS h 0 fk8 fp9))
  (k2 : ¬ x3 < f_size_4 → R (some (.int (-1 : Int32))) (xoS h (5 : Int32) fk11 fp12))
  : Ev G (d + 6) k n M_X_ranked 40 [.ref 0, .long x1, ev_unk, .int x3] [] h R :=
  Ev.go (pc' := 42) (ls' := [.ref 0, .long x1, ev_unk, .int x3]) (st' := [.ref 0, .int x3]) [.iload_n 3, .aload_n 0] (by decide +kernel) rfl <|
  Ev.getf f_X_40 (by decide +kernel) a1 rfl <|
  Ev.getf f_X_224 (by decide +kernel) a2 rfl <|
  Ev.br (i := .if_icmp .lt (9)) (P := x3 < f_size_4) (t := 57) (f := 51) (r := []) (by decide +kernel) rfl (fun c1 =>
    Ev.go (pc' := 59) (ls' := [.ref 0, .long x1, ev_unk, .int x3]) (st' := [.ref 0, .ref 0]) [.aload_n 0, .aload_n 0] (by decide +kernel) rfl <|
    Ev.getf f_X_40 (by decide +kernel) a1 rfl <|
    Ev.getf f_X_225 (by decide +kernel) a2 rfl <|
    Ev.go (pc' := 66) (ls' := [.ref 0, .long x1, ev_unk, .int x3]) (st' := [.int x3, .ref 99, .ref 0]) [.iload_n 3] (by decide +kernel) rfl <|
    Ev.iald (j := j6) (by decide +kernel) a3 (i4 c1) <|
    Ev.cV0 (M' := M_X_answer) (as := [.int (g5 j6)]) (rest := []) l_X_87 M_X_answer_ok M_X_answer_in M_X_answer_se (by decide +kernel) ⟨_, a1⟩ rfl rfl rfl (Nat.le_of_ble_eq_true rfl) (Nat.le_of_ble_eq_true rfl) (s_X_answer' (pr5 c1) <| show Ev G (d + 6) _ _ M_X_ranked 70 [.ref 0, .long x1, ev_unk, .int x3] [.int (g5 j6)] (xoS h 0 fk8 fp9) R from
      Ev.ret (r := (some (.int (g5 j6)))) (Or.inl ⟨_, rfl, by decide +kernel, _, rfl, rfl⟩) (k1 c1)
    )
  ) (fun c1 =>
    Ev.go (pc' := 53) (ls' := [.ref 0, .long x1, ev_unk, .int x3]) (st' := [.int (5 : Int32), .ref 0]) [.aload_n 0, .iconst 5] (by decide +kernel) rfl <|
    Ev.cV0 (M' := M_X_refuse) (as := [.int (5 : Int32)]) (rest := []) l_X_67 M_X_refuse_ok M_X_refuse_in M_X_refuse_se (by decide +kernel) ⟨_, a1⟩ rfl rfl rfl (Nat.le_of_ble_eq_true rfl) (Nat.le_of_ble_eq_true rfl) (s_X_refuse' (pr6 c1) <| show Ev G (d + 6) _ _ M_X_ranked 56 [.ref 0, .long x1, ev_unk, .int x3] [.int (-1 : Int32)] (xoS h (5 : Int32) fk11 fp12) R from
      Ev.ret (r := (some (.int (-1 : Int32)))) (Or.inl ⟨_, rfl, by decide +kernel, _, rfl, rfl⟩) (k2 c1)
    )
  )
theorem b_X_apart_0 {G : ev_G} {d k n : Nat} {h : ev_H} {R : Option Value → ev_H → Prop} {x1 : Int64} {x3 : Int32} {x4 : Int32} {x5 : Int32} {S1 : AS} {la2 : Int32} {fk3 : Int32} {fp4 : Int32} {la5 : Int32} {fk6 : Int32} {fp7 : Int32} {S8 : AS} {la9 : Int32} {fk10 : Int32} {fp11 : Int32} {la12 : Int32} {fk13 : Int32} {fp14 : Int32} {la15 : Int32} {fk16 : Int32} {fp17 : Int32} {la18 : Int32} {fk19 : Int32} {fp20 : Int32} {la21 : Int32} {fk22 : Int32} {fp23 : Int32} {f_latest_24 : Int32} {f_faultKind_25 : Int32} {f_faultPlace_26 : Int32} {f_bits_27 : Int32} {f_parts_28 : Int32} {f_size_29 : Int32} {fv30 : Value} {S31 : AS} {S32 : AS} {r_33 : Nat}
  (a18 : hat h 0 (oC 8 [.ref 1, .ref 5, .ref 18, .ref 81, .ref 98, .int f_latest_24, .int f_faultKind_25, .int f_faultPlace_26]))
  (a19 : hat h 1 (oC 6 [.int f_bits_27, .int f_parts_28, .ref 2, .int f_size_29, .ref 3, .ref 4, fv30]))
  (pr1 : XO h la2 fk3 fp4)
  (pr2 : StR h 1 S1)
  (r3 : ∃ fs, hat h 0 (oC 8 fs))
  (pr4 : (b2i (numB x1 (sB S1))) = (0 : Int32) → XO h la5 fk6 fp7)
  (r5 : (b2i (numB x1 (sB S1))) = (0 : Int32) → ∃ fs, hat h 0 (oC 8 fs))
  (pr6 : ¬ (b2i (numB x1 (sB S1))) = (0 : Int32) → XO h la9 fk10 fp11)
  (pr7 : ¬ (b2i (numB x1 (sB S1))) = (0 : Int32) → StR h 1 S8)
  (pr8 : ¬ (b2i (numB x1 (sB S1))) = (0 : Int32) → sOk S8)
  (r9 : ¬ (b2i (numB x1 (sB S1))) = (0 : Int32) → ∃ fs, hat h 0 (oC 8 fs))
  (pr10 : ¬ (b2i (numB x1 (sB S1))) = (0 : Int32) → (b2i (inR x3 (sB S8 + 1))) = (0 : Int32) → XO h la12 fk13 fp14)
  (r11 : ¬ (b2i (numB x1 (sB S1))) = (0 : Int32) → (b2i (inR x3 (sB S8 + 1))) = (0 : Int32) → ∃ fs, hat h 0 (oC 8 fs))
  (pr12 : ¬ (b2i (numB x1 (sB S1))) = (0 : Int32) → ¬ (b2i (inR x3 (sB S8 + 1))) = (0 : Int32) → x4 < (1 : Int32) → XO h la15 fk16 fp17)
  (r13 : ¬ (b2i (numB x1 (sB S1))) = (0 : Int32) → ¬ (b2i (inR x3 (sB S8 + 1))) = (0 : Int32) → x4 < (1 : Int32) → ∃ fs, hat h 0 (oC 8 fs))
  (pr14 : ¬ (b2i (numB x1 (sB S1))) = (0 : Int32) → ¬ (b2i (inR x3 (sB S8 + 1))) = (0 : Int32) → ¬ x4 < (1 : Int32) → (32 : Int32) < x4 → XO h la18 fk19 fp20)
  (r15 : ¬ (b2i (numB x1 (sB S1))) = (0 : Int32) → ¬ (b2i (inR x3 (sB S8 + 1))) = (0 : Int32) → ¬ x4 < (1 : Int32) → (32 : Int32) < x4 → ∃ fs, hat h 0 (oC 8 fs))
  (pr16 : ¬ (b2i (numB x1 (sB S1))) = (0 : Int32) → ¬ (b2i (inR x3 (sB S8 + 1))) = (0 : Int32) → ¬ x4 < (1 : Int32) → ¬ (32 : Int32) < x4 → x5 < (0 : Int32) → XO h la21 fk22 fp23)
  (r17 : ¬ (b2i (numB x1 (sB S1))) = (0 : Int32) → ¬ (b2i (inR x3 (sB S8 + 1))) = (0 : Int32) → ¬ x4 < (1 : Int32) → ¬ (32 : Int32) < x4 → x5 < (0 : Int32) → ∃ fs, hat h 0 (oC 8 fs))
  (pr20 : ¬ (b2i (numB x1 (sB S1))) = (0 : Int32) → ¬ (b2i (inR x3 (sB S8 + 1))) = (0 : Int32) → ¬ x4 < (1 : Int32) → ¬ (32 : Int32) < x4 → ¬ x5 < (0 : Int32) → StR h 1 S31)
  (pr21 : ¬ (b2i (numB x1 (sB S1))) = (0 : Int32) → ¬ (b2i (inR x3 (sB S8 + 1))) = (0 : Int32) → ¬ x4 < (1 : Int32) → ¬ (32 : Int32) < x4 → ¬ x5 < (0 : Int32) → sOk S31)
  (pr22 : ¬ (b2i (numB x1 (sB S1))) = (0 : Int32) → ¬ (b2i (inR x3 (sB S8 + 1))) = (0 : Int32) → ¬ x4 < (1 : Int32) → ¬ (32 : Int32) < x4 → ¬ x5 < (0 : Int32) → sFl S31 = [] ∨ flOk (sFl S31))
  (pr23 : ¬ (b2i (numB x1 (sB S1))) = (0 : Int32) → ¬ (b2i (inR x3 (sB S8 + 1))) = (0 : Int32) → ¬ x4 < (1 : Int32) → ¬ (32 : Int32) < x4 → ¬ x5 < (0 : Int32) → StR h 1 S32)
  (pr24 : ¬ (b2i (numB x1 (sB S1))) = (0 : Int32) → ¬ (b2i (inR x3 (sB S8 + 1))) = (0 : Int32) → ¬ x4 < (1 : Int32) → ¬ (32 : Int32) < x4 → ¬ x5 < (0 : Int32) → sOk S32)
  (pr25 : ¬ (b2i (numB x1 (sB S1))) = (0 : Int32) → ¬ (b2i (inR x3 (sB S8 + 1))) = (0 : Int32) → ¬ x4 < (1 : Int32) → ¬ (32 : Int32) < x4 → ¬ x5 < (0 : Int32) → x3 = nI r_33 ∧ r_33 < 2147483648)
  (r26 : ¬ (b2i (numB x1 (sB S1))) = (0 : Int32) → ¬ (b2i (inR x3 (sB S8 + 1))) = (0 : Int32) → ¬ x4 < (1 : Int32) → ¬ (32 : Int32) < x4 → ¬ x5 < (0 : Int32) → ∃ fs, hat h 98 (oC 3 fs))
  (k1 : (b2i (numB x1 (sB S1))) = (0 : Int32) → R (some (.int (-1 : Int32))) (xoS h (1 : Int32) fk6 fp7))
  (k2 : ¬ (b2i (numB x1 (sB S1))) = (0 : Int32) → (b2i (inR x3 (sB S8 + 1))) = (0 : Int32) → R (some (.int (-1 : Int32))) (xoS h (1 : Int32) fk13 fp14))
  (k3 : ¬ (b2i (numB x1 (sB S1))) = (0 : Int32) → ¬ (b2i (inR x3 (sB S8 + 1))) = (0 : Int32) → x4 < (1 : Int32) → R (some (.int (-1 : Int32))) (xoS h (1 : Int32) fk16 fp17))
  (k4 : ¬ (b2i (numB x1 (sB S1))) = (0 : Int32) → ¬ (b2i (inR x3 (sB S8 + 1))) = (0 : Int32) → ¬ x4 < (1 : Int32) → (32 : Int32) < x4 → R (some (.int (-1 : Int32))) (xoS h (1 : Int32) fk19 fp20))
  (k5 : ¬ (b2i (numB x1 (sB S1))) = (0 : Int32) → ¬ (b2i (inR x3 (sB S8 + 1))) = (0 : Int32) → ¬ x4 < (1 : Int32) → ¬ (32 : Int32) < x4 → x5 < (0 : Int32) → R (some (.int (-1 : Int32))) (xoS h (1 : Int32) fk22 fp23))
  (k6 : ¬ (b2i (numB x1 (sB S1))) = (0 : Int32) → ¬ (b2i (inR x3 (sB S8 + 1))) = (0 : Int32) → ¬ x4 < (1 : Int32) → ¬ (32 : Int32) < x4 → ¬ x5 < (0 : Int32) → Ev G (d + 5) 0 0 M_Ra_rank 0 [.ref 98, .ref 3, .int (setI (nrP S32 (bt (setI (ctP S31))) x1 r_33)), .long x1, ev_unk, ev_unk] [] h (fun r h1 => Ev G (d + 6) k n M_X_apart 71 [.ref 0, .long x1, ev_unk, .int x3, .int x4, .int x5] (r.toList ++ []) h1 R))
  : Ev G (d + 6) k n M_X_apart 0 [.ref 0, .long x1, ev_unk, .int x3, .int x4, .int x5] [] h R :=
  Ev.go (pc' := 2) (ls' := [.ref 0, .long x1, ev_unk, .int x3, .int x4, .int x5]) (st' := [.long x1, .ref 0]) [.aload_n 0, .lload_n 1] (by decide +kernel) rfl <|
  Ev.cV0 (M' := M_X_isNumber) (as := [.long x1]) (rest := []) l_X_140 M_X_isNumber_ok M_X_isNumber_in M_X_isNumber_se (by decide +kernel) r3 rfl rfl rfl (Nat.le_of_ble_eq_true rfl) (Nat.le_of_ble_eq_true rfl) (s_X_isNumber pr1 pr2 <| show Ev G (d + 6) _ _ M_X_apart 5 [.ref 0, .long x1, ev_unk, .int x3, .int x4, .int x5] [.int (b2i (numB x1 (sB S1)))] h R from
    Ev.br (i := .ifCond .eq (29)) (P := (b2i (numB x1 (sB S1))) = (0 : Int32)) (t := 34) (f := 8) (r := []) (by decide +kernel) rfl (fun c1 =>
      Ev.go (pc' := 36) (ls' := [.ref 0, .long x1, ev_unk, .int x3, .int x4, .int x5]) (st' := [.int (1 : Int32), .ref 0]) [.aload_n 0, .iconst 1] (by decide +kernel) rfl <|
      Ev.cV0 (M' := M_X_refuse) (as := [.int (1 : Int32)]) (rest := []) l_X_67 M_X_refuse_ok M_X_refuse_in M_X_refuse_se (by decide +kernel) (r5 c1) rfl rfl rfl (Nat.le_of_ble_eq_true rfl) (Nat.le_of_ble_eq_true rfl) (s_X_refuse' (pr4 c1) <| show Ev G (d + 6) _ _ M_X_apart 39 [.ref 0, .long x1, ev_unk, .int x3, .int x4, .int x5] [.int (-1 : Int32)] (xoS h (1 : Int32) fk6 fp7) R from
        Ev.ret (r := (some (.int (-1 : Int32)))) (Or.inl ⟨_, rfl, by decide +kernel, _, rfl, rfl⟩) (k1 c1)
      )
    ) (fun c1 =>
      Ev.go (pc' := 10) (ls' := [.ref 0, .long x1, ev_unk, .int x3, .int x4, .int x5]) (st' := [.int x3, .ref 0]) [.aload_n 0, .iload_n 3] (by decide +kernel) rfl <|
      Ev.cV0 (M' := M_X_isRadius) (as := [.int x3]) (rest := []) l_X_192 M_X_isRadius_ok M_X_isRadius_in M_X_isRadius_se (by decide +kernel) (r9 c1) rfl rfl rfl (Nat.le_of_ble_eq_true rfl) (Nat.le_of_ble_eq_true rfl) (s_X_isRadius (pr6 c1) (pr7 c1) (pr8 c1) <| show Ev G (d + 6) _ _ M_X_apart 13 [.ref 0, .long x1, ev_unk, .int x3, .int x4, .int x5] [.int (b2i (inR x3 (sB S8 + 1)))] h R from
        Ev.br (i := .ifCond .eq (21)) (P := (b2i (inR x3 (sB S8 + 1))) = (0 : Int32)) (t := 34) (f := 16) (r := []) (by decide +kernel) rfl (fun c2 =>
          Ev.go (pc' := 36) (ls' := [.ref 0, .long x1, ev_unk, .int x3, .int x4, .int x5]) (st' := [.int (1 : Int32), .ref 0]) [.aload_n 0, .iconst 1] (by decide +kernel) rfl <|
          Ev.cV0 (M' := M_X_refuse) (as := [.int (1 : Int32)]) (rest := []) l_X_67 M_X_refuse_ok M_X_refuse_in M_X_refuse_se (by decide +kernel) (r11 c1 c2) rfl rfl rfl (Nat.le_of_ble_eq_true rfl) (Nat.le_of_ble_eq_true rfl) (s_X_refuse' (pr10 c1 c2) <| show Ev G (d + 6) _ _ M_X_apart 39 [.ref 0, .long x1, ev_unk, .int x3, .int x4, .int x5] [.int (-1 : Int32)] (xoS h (1 : Int32) fk13 fp14) R from
            Ev.ret (r := (some (.int (-1 : Int32)))) (Or.inl ⟨_, rfl, by decide +kernel, _, rfl, rfl⟩) (k2 c1 c2)
          )
        ) (fun c2 =>
          Ev.go (pc' := 19) (ls' := [.ref 0, .long x1, ev_unk, .int x3, .int x4, .int x5]) (st' := [.int (1 : Int32), .int x4]) [.iload 4, .iconst 1] (by decide +kernel) rfl <|
          Ev.br (i := .if_icmp .lt (15)) (P := x4 < (1 : Int32)) (t := 34) (f := 22) (r := []) (by decide +kernel) rfl (fun c3 =>
            Ev.go (pc' := 36) (ls' := [.ref 0, .long x1, ev_unk, .int x3, .int x4, .int x5]) (st' := [.int (1 : Int32), .ref 0]) [.aload_n 0, .iconst 1] (by decide +kernel) rfl <|
            Ev.cV0 (M' := M_X_refuse) (as := [.int (1 : Int32)]) (rest := []) l_X_67 M_X_refuse_ok M_X_refuse_in M_X_refuse_se (by decide +kernel) (r13 c1 c2 c3) rfl rfl rfl (Nat.le_of_ble_eq_true rfl) (Nat.le_of_ble_eq_true rfl) (s_X_refuse' (pr12 c1 c2 c3) <| show Ev G (d + 6) _ _ M_X_apart 39 [.ref 0, .long x1, ev_unk, .int x3, .int x4, .int x5] [.int (-1 : Int32)] (xoS h (1 : Int32) fk16 fp17) R from
              Ev.ret (r := (some (.int (-1 : Int32)))) (Or.inl ⟨_, rfl, by decide +kernel, _, rfl, rfl⟩) (k3 c1 c2 c3)
            )
          ) (fun c3 =>
            Ev.go (pc' := 26) (ls' := [.ref 0, .long x1, ev_unk, .int x3, .int x4, .int x5]) (st' := [.int (32 : Int32), .int x4]) [.iload 4, .bipush (32)] (by decide +kernel) rfl <|
            Ev.br (i := .if_icmp .gt (8)) (P := (32 : Int32) < x4) (t := 34) (f := 29) (r := []) (by decide +kernel) rfl (fun c4 =>
              Ev.go (pc' := 36) (ls' := [.ref 0, .long x1, ev_unk, .int x3, .int x4, .int x5]) (st' := [.int (1 : Int32), .ref 0]) [.aload_n 0, .iconst 1] (by decide +kernel) rfl <|
              Ev.cV0 (M' := M_X_refuse) (as := [.int (1 : Int32)]) (rest := []) l_X_67 M_X_refuse_ok M_X_refuse_in M_X_refuse_se (by decide +kernel) (r15 c1 c2 c3 c4) rfl rfl rfl (Nat.le_of_ble_eq_true rfl) (Nat.le_of_ble_eq_true rfl) (s_X_refuse' (pr14 c1 c2 c3 c4) <| show Ev G (d + 6) _ _ M_X_apart 39 [.ref 0, .long x1, ev_unk, .int x3, .int x4, .int x5] [.int (-1 : Int32)] (xoS h (1 : Int32) fk19 fp20) R from
                Ev.ret (r := (some (.int (-1 : Int32)))) (Or.inl ⟨_, rfl, by decide +kernel, _, rfl, rfl⟩) (k4 c1 c2 c3 c4)
              )
            ) (fun c4 =>
              Ev.go (pc' := 31) (ls' := [.ref 0, .long x1, ev_unk, .int x3, .int x4, .int x5]) (st' := [.int x5]) [.iload 5] (by decide +kernel) rfl <|
              Ev.br (i := .ifCond .ge (9)) (P := x5 < (0 : Int32)) (t := 34) (f := 40) (r := []) (by decide +kernel) rfl (fun c5 =>
                Ev.go (pc' := 36) (ls' := [.ref 0, .long x1, ev_unk, .int x3, .int x4, .int x5]) (st' := [.int (1 : Int32), .ref 0]) [.aload_n 0, .iconst 1] (by decide +kernel) rfl <|
                Ev.cV0 (M' := M_X_refuse) (as := [.int (1 : Int32)]) (rest := []) l_X_67 M_X_refuse_ok M_X_refuse_in M_X_refuse_se (by decide +kernel) (r17 c1 c2 c3 c4 c5) rfl rfl rfl (Nat.le_of_ble_eq_true rfl) (Nat.le_of_ble_eq_true rfl) (s_X_refuse' (pr16 c1 c2 c3 c4 c5) <| show Ev G (d + 6) _ _ M_X_apart 39 [.ref 0, .long x1, ev_unk, .int x3, .int x4, .int x5] [.int (-1 : Int32)] (xoS h (1 : Int32) fk22 fp23) R from
                  Ev.ret (r := (some (.int (-1 : Int32)))) (Or.inl ⟨_, rfl, by decide +kernel, _, rfl, rfl⟩) (k5 c1 c2 c3 c4 c5)
                )
              ) (fun c5 =>
                Ev.go (pc' := 41) (ls' := [.ref 0, .long x1, ev_unk, .int x3, .int x4, .int x5]) (st' := [.ref 0]) [.aload_n 0] (by decide +kernel) rfl <|
                Ev.getf f_X_40 (by decide +kernel) a18 rfl <|
                Ev.go (pc' := 45) (ls' := [.ref 0, .long x1, ev_unk, .int x3, .int x4, .int x5]) (st' := [.ref 0, .ref 98]) [.aload_n 0] (by decide +kernel) rfl <|
                Ev.getf f_X_10 (by decide +kernel) a18 rfl <|
                Ev.getf f_X_118 (by decide +kernel) a19 rfl <|
                Ev.go (pc' := 52) (ls' := [.ref 0, .long x1, ev_unk, .int x3, .int x4, .int x5]) (st' := [.ref 0, .ref 3, .ref 98]) [.aload_n 0] (by decide +kernel) rfl <|
                Ev.getf f_X_10 (by decide +kernel) a18 rfl <|
                Ev.go (pc' := 56) (ls' := [.ref 0, .long x1, ev_unk, .int x3, .int x4, .int x5]) (st' := [.ref 0, .ref 1, .ref 3, .ref 98]) [.aload_n 0] (by decide +kernel) rfl <|
                Ev.getf f_X_10 (by decide +kernel) a18 rfl <|
                Ev.cV0 (M' := M_St_counting) (as := []) (rest := [.ref 1, .ref 3, .ref 98]) l_X_96 M_St_counting_ok M_St_counting_in M_St_counting_se (by decide +kernel) ⟨_, a19⟩ rfl rfl rfl (Nat.le_of_ble_eq_true rfl) (Nat.le_of_ble_eq_true rfl) (s_St_counting (pr20 c1 c2 c3 c4 c5) (pr21 c1 c2 c3 c4 c5) (pr22 c1 c2 c3 c4 c5) <| show Ev G (d + 6) _ _ M_X_apart 62 [.ref 0, .long x1, ev_unk, .int x3, .int x4, .int x5] [.int (setI (ctP S31)), .ref 1, .ref 3, .ref 98] h R from
                  Ev.go (pc' := 64) (ls' := [.ref 0, .long x1, ev_unk, .int x3, .int x4, .int x5]) (st' := [.int x3, .long x1, .int (setI (ctP S31)), .ref 1, .ref 3, .ref 98]) [.lload_n 1, .iload_n 3] (by decide +kernel) rfl <|
                  Ev.cV0 (M' := M_St_within) (as := [.int (setI (ctP S31)), .long x1, .int x3]) (rest := [.ref 3, .ref 98]) l_X_217 M_St_within_ok M_St_within_in M_St_within_se (by decide +kernel) ⟨_, a19⟩ rfl rfl rfl (Nat.le_of_ble_eq_true rfl) (Nat.le_of_ble_eq_true rfl) (s_St_within' (pr23 c1 c2 c3 c4 c5) (pr24 c1 c2 c3 c4 c5) (pr25 c1 c2 c3 c4 c5) <| show Ev G (d + 6) _ _ M_X_apart 67 [.ref 0, .long x1, ev_unk, .int x3, .int x4, .int x5] [.int (setI (nrP S32 (bt (setI (ctP S31))) x1 r_33)), .ref 3, .ref 98] h R from
                    Ev.go (pc' := 68) (ls' := [.ref 0, .long x1, ev_unk, .int x3, .int x4, .int x5]) (st' := [.long x1, .int (setI (nrP S32 (bt (setI (ctP S31))) x1 r_33)), .ref 3, .ref 98]) [.lload_n 1] (by decide +kernel) rfl <|
                    Ev.cV0 (M' := M_Ra_rank) (as := [.ref 3, .int (setI (nrP S32 (bt (setI (ctP S31))) x1 r_33)), .long x1]) (rest := []) l_X_221 M_Ra_rank_ok M_Ra_rank_in M_Ra_rank_se (by decide +kernel) (r26 c1 c2 c3 c4 c5) rfl rfl rfl (Nat.le_of_ble_eq_true rfl) (Nat.le_of_ble_eq_true rfl) (k6 c1 c2 c3 c4 c5)
                  )
                )
              )
            )
          )
        )
      )
    )
  )
theorem b_X_apart_71 {G : ev_G} {d k n : Nat} {h : ev_H} {R : Option Value → ev_H → Prop} {x1 : Int64} {x3 : Int32} {x4 : Int32} {x5 : Int32} {f_latest_1 : Int32} {f_faultKind_2 : Int32} {f_faultPlace_3 : Int32} {f_size_4 : Int32} {f_bits_5 : Int32} {f_parts_6 : Int32} {f_size_7 : Int32} {fv8 : Value} {la9 : Int32} {fk10 : Int32} {fp11 : Int32} {la12 : Int32} {fk13 : Int32} {fp14 : Int32}
  (a1 : hat h 0 (oC 8 [.ref 1, .ref 5, .ref 18, .ref 81, .ref 98, .int f_latest_1, .int f_faultKind_2, .int f_faultPlace_3]))
  (a2 : hat h 98 (oC 3 [.ref 99, .ref 100, .ref 101, .int f_size_4]))
  (a3 : hat h 1 (oC 6 [.int f_bits_5, .int f_parts_6, .ref 2, .int f_size_7, .ref 3, .ref 4, fv8]))
  (pr4 : x5 < x4 → ¬ x5 < f_size_4 → XO h la9 fk10 fp11)
  (pr5 : ¬ x5 < x4 → XO h la12 fk13 fp14)
  (r6 : ¬ x5 < x4 → ∃ fs, hat h 0 (oC 8 fs))
  (k1 : x5 < x4 → x5 < f_size_4 → Ev G (d + 5) 0 0 M_Ra_takenApart 0 [.ref 98, .ref 3, .int x5, ev_unk, ev_unk, ev_unk, ev_unk] [] h (fun r h1 => Ev G (d + 6) k n M_X_apart 113 [.ref 0, .long x1, ev_unk, .int x3, .int x4, .int x5] (r.toList ++ [.ref 0]) h1 R))
  (k2 : x5 < x4 → ¬ x5 < f_size_4 → R (some (.int (-1 : Int32))) (xoS h (5 : Int32) fk10 fp11))
  (k3 : ¬ x5 < x4 → R (some (.int (-1 : Int32))) (xoS h (5 : Int32) fk13 fp14))
  : Ev G (d + 6) k n M_X_apart 71 [.ref 0, .long x1, ev_unk, .int x3, .int x4, .int x5] [] h R :=
  Ev.go (pc' := 75) (ls' := [.ref 0, .long x1, ev_unk, .int x3, .int x4, .int x5]) (st' := [.int x4, .int x5]) [.iload 5, .iload 4] (by decide +kernel) rfl <|
  Ev.br (i := .if_icmp .ge (15)) (P := x5 < x4) (t := 78) (f := 90) (r := []) (by decide +kernel) rfl (fun c1 =>
    Ev.go (pc' := 81) (ls' := [.ref 0, .long x1, ev_unk, .int x3, .int x4, .int x5]) (st' := [.ref 0, .int x5]) [.iload 5, .aload_n 0] (by decide +kernel) rfl <|
    Ev.getf f_X_40 (by decide +kernel) a1 rfl <|
    Ev.getf f_X_224 (by decide +kernel) a2 rfl <|
    Ev.br (i := .if_icmp .lt (9)) (P := x5 < f_size_4) (t := 96) (f := 90) (r := []) (by decide +kernel) rfl (fun c2 =>
      Ev.go (pc' := 98) (ls' := [.ref 0, .long x1, ev_unk, .int x3, .int x4, .int x5]) (st' := [.ref 0, .ref 0]) [.aload_n 0, .aload_n 0] (by decide +kernel) rfl <|
      Ev.getf f_X_40 (by decide +kernel) a1 rfl <|
      Ev.go (pc' := 102) (ls' := [.ref 0, .long x1, ev_unk, .int x3, .int x4, .int x5]) (st' := [.ref 0, .ref 98, .ref 0]) [.aload_n 0] (by decide +kernel) rfl <|
      Ev.getf f_X_10 (by decide +kernel) a1 rfl <|
      Ev.getf f_X_118 (by decide +kernel) a3 rfl <|
      Ev.go (pc' := 110) (ls' := [.ref 0, .long x1, ev_unk, .int x3, .int x4, .int x5]) (st' := [.int x5, .ref 3, .ref 98, .ref 0]) [.iload 5] (by decide +kernel) rfl <|
      Ev.cV0 (M' := M_Ra_takenApart) (as := [.ref 3, .int x5]) (rest := [.ref 0]) l_X_234 M_Ra_takenApart_ok M_Ra_takenApart_in M_Ra_takenApart_se (by decide +kernel) ⟨_, a2⟩ rfl rfl rfl (Nat.le_of_ble_eq_true rfl) (Nat.le_of_ble_eq_true rfl) (k1 c1 c2)
    ) (fun c2 =>
      Ev.go (pc' := 92) (ls' := [.ref 0, .long x1, ev_unk, .int x3, .int x4, .int x5]) (st' := [.int (5 : Int32), .ref 0]) [.aload_n 0, .iconst 5] (by decide +kernel) rfl <|
      Ev.cV0 (M' := M_X_refuse) (as := [.int (5 : Int32)]) (rest := []) l_X_67 M_X_refuse_ok M_X_refuse_in M_X_refuse_se (by decide +kernel) ⟨_, a1⟩ rfl rfl rfl (Nat.le_of_ble_eq_true rfl) (Nat.le_of_ble_eq_true rfl) (s_X_refuse' (pr4 c1 c2) <| show Ev G (d + 6) _ _ M_X_apart 95 [.ref 0, .long x1, ev_unk, .int x3, .int x4, .int x5] [.int (-1 : Int32)] (xoS h (5 : Int32) fk10 fp11) R from
        Ev.ret (r := (some (.int (-1 : Int32)))) (Or.inl ⟨_, rfl, by decide +kernel, _, rfl, rfl⟩) (k2 c1 c2)
      )
    )
  ) (fun c1 =>
    Ev.go (pc' := 92) (ls' := [.ref 0, .long x1, ev_unk, .int x3, .int x4, .int x5]) (st' := [.int (5 : Int32), .ref 0]) [.aload_n 0, .iconst 5] (by decide +kernel) rfl <|
    Ev.cV0 (M' := M_X_refuse) (as := [.int (5 : Int32)]) (rest := []) l_X_67 M_X_refuse_ok M_X_refuse_in M_X_refuse_se (by decide +kernel) (r6 c1) rfl rfl rfl (Nat.le_of_ble_eq_true rfl) (Nat.le_of_ble_eq_true rfl) (s_X_refuse' (pr5 c1) <| show Ev G (d + 6) _ _ M_X_apart 95 [.ref 0, .long x1, ev_unk, .int x3, .int x4, .int x5] [.int (-1 : Int32)] (xoS h (5 : Int32) fk13 fp14) R from
      Ev.ret (r := (some (.int (-1 : Int32)))) (Or.inl ⟨_, rfl, by decide +kernel, _, rfl, rfl⟩) (k3 c1)
    )
  )
theorem b_X_apart_113 {G : ev_G} {d k n : Nat} {h : ev_H} {R : Option Value → ev_H → Prop} {x1 : Int64} {x3 : Int32} {x4 : Int32} {x5 : Int32} {y1 : Int32} {la1 : Int32} {fk2 : Int32} {fp3 : Int32}
  (pr1 : XO h la1 fk2 fp3)
  (r2 : ∃ fs, hat h 0 (oC 8 fs))
  (k1 : R (some (.int y1)) (xoS h 0 fk2 fp3))
  : Ev G (d + 6) k n M_X_apart 113 [.ref 0, .long x1, ev_unk, .int x3, .int x4, .int x5] [.int y1, .ref 0] h R :=
  Ev.cV0 (M' := M_X_answer) (as := [.int y1]) (rest := []) l_X_87 M_X_answer_ok M_X_answer_in M_X_answer_se (by decide +kernel) r2 rfl rfl rfl (Nat.le_of_ble_eq_true rfl) (Nat.le_of_ble_eq_true rfl) (s_X_answer' pr1 <| show Ev G (d + 6) _ _ M_X_apart 116 [.ref 0, .long x1, ev_unk, .int x3, .int x4, .int x5] [.int y1] (xoS h 0 fk2 fp3) R from
    Ev.ret (r := (some (.int y1))) (Or.inl ⟨_, rfl, by decide +kernel, _, rfl, rfl⟩) k1
  )
theorem b_X_pairs_0 {G : ev_G} {d k n : Nat} {h : ev_H} {R : Option Value → ev_H → Prop} {x1 : Int32} {S1 : AS} {la2 : Int32} {fk3 : Int32} {fp4 : Int32} {la5 : Int32} {fk6 : Int32} {fp7 : Int32} {f_latest_8 : Int32} {f_faultKind_9 : Int32} {f_faultPlace_10 : Int32} {S11 : AS}
  (a7 : hat h 0 (oC 8 [.ref 1, .ref 5, .ref 18, .ref 81, .ref 98, .int f_latest_8, .int f_faultKind_9, .int f_faultPlace_10]))
  (pr1 : XO h la2 fk3 fp4)
  (pr2 : StR h 1 S1)
  (pr3 : sOk S1)
  (r4 : ∃ fs, hat h 0 (oC 8 fs))
  (pr5 : (b2i (inR x1 (sB S1 + 1))) = (0 : Int32) → XO h la5 fk6 fp7)
  (r6 : (b2i (inR x1 (sB S1 + 1))) = (0 : Int32) → ∃ fs, hat h 0 (oC 8 fs))
  (pr8 : ¬ (b2i (inR x1 (sB S1 + 1))) = (0 : Int32) → StR h 1 S11)
  (pr9 : ¬ (b2i (inR x1 (sB S1 + 1))) = (0 : Int32) → sOk S11)
  (pr10 : ¬ (b2i (inR x1 (sB S1 + 1))) = (0 : Int32) → sFl S11 = [] ∨ flOk (sFl S11))
  (r11 : ¬ (b2i (inR x1 (sB S1 + 1))) = (0 : Int32) → ∃ fs, hat h 1 (oC 6 fs))
  (k1 : (b2i (inR x1 (sB S1 + 1))) = (0 : Int32) → R (some (.int (-1 : Int32))) (xoS h (1 : Int32) fk6 fp7))
  (k2 : ¬ (b2i (inR x1 (sB S1 + 1))) = (0 : Int32) → Ev G (d + 6) k n M_X_pairs 27 [.ref 0, .int x1, .int (setI (ctP S11)), .int (0 : Int32), .int (0 : Int32)] [] h R)
  : Ev G (d + 6) k n M_X_pairs 0 [.ref 0, .int x1, ev_unk, ev_unk, ev_unk] [] h R :=
  Ev.go (pc' := 2) (ls' := [.ref 0, .int x1, ev_unk, ev_unk, ev_unk]) (st' := [.int x1, .ref 0]) [.aload_n 0, .iload_n 1] (by decide +kernel) rfl <|
  Ev.cV0 (M' := M_X_isRadius) (as := [.int x1]) (rest := []) l_X_192 M_X_isRadius_ok M_X_isRadius_in M_X_isRadius_se (by decide +kernel) r4 rfl rfl rfl (Nat.le_of_ble_eq_true rfl) (Nat.le_of_ble_eq_true rfl) (s_X_isRadius pr1 pr2 pr3 <| show Ev G (d + 6) _ _ M_X_pairs 5 [.ref 0, .int x1, ev_unk, ev_unk, ev_unk] [.int (b2i (inR x1 (sB S1 + 1)))] h R from
    Ev.br (i := .ifCond .ne (9)) (P := (b2i (inR x1 (sB S1 + 1))) = (0 : Int32)) (t := 8) (f := 14) (r := []) (by decide +kernel) rfl (fun c1 =>
      Ev.go (pc' := 10) (ls' := [.ref 0, .int x1, ev_unk, ev_unk, ev_unk]) (st' := [.int (1 : Int32), .ref 0]) [.aload_n 0, .iconst 1] (by decide +kernel) rfl <|
      Ev.cV0 (M' := M_X_refuse) (as := [.int (1 : Int32)]) (rest := []) l_X_67 M_X_refuse_ok M_X_refuse_in M_X_refuse_se (by decide +kernel) (r6 c1) rfl rfl rfl (Nat.le_of_ble_eq_true rfl) (Nat.le_of_ble_eq_true rfl) (s_X_refuse' (pr5 c1) <| show Ev G (d + 6) _ _ M_X_pairs 13 [.ref 0, .int x1, ev_unk, ev_unk, ev_unk] [.int (-1 : Int32)] (xoS h (1 : Int32) fk6 fp7) R from
        Ev.ret (r := (some (.int (-1 : Int32)))) (Or.inl ⟨_, rfl, by decide +kernel, _, rfl, rfl⟩) (k1 c1)
      )
    ) (fun c1 =>
      Ev.go (pc' := 15) (ls' := [.ref 0, .int x1, ev_unk, ev_unk, ev_unk]) (st' := [.ref 0]) [.aload_n 0] (by decide +kernel) rfl <|
      Ev.getf f_X_10 (by decide +kernel) a7 rfl <|
      Ev.cV0 (M' := M_St_counting) (as := []) (rest := []) l_X_96 M_St_counting_ok M_St_counting_in M_St_counting_se (by decide +kernel) (r11 c1) rfl rfl rfl (Nat.le_of_ble_eq_true rfl) (Nat.le_of_ble_eq_true rfl) (s_St_counting (pr8 c1) (pr9 c1) (pr10 c1) <| show Ev G (d + 6) _ _ M_X_pairs 21 [.ref 0, .int x1, ev_unk, ev_unk, ev_unk] [.int (setI (ctP S11))] h R from
        Ev.go (pc' := 27) (ls' := [.ref 0, .int x1, .int (setI (ctP S11)), .int (0 : Int32), .int (0 : Int32)]) (st' := []) [.istore_n 2, .iconst 0, .istore_n 3, .iconst 0, .istore 4] (by decide +kernel) rfl <|
        (k2 c1)
      )
    )
  )
theorem b_X_pairs_27 {G : ev_G} {d k n : Nat} {h : ev_H} {R : Option Value → ev_H → Prop} {x1 : Int32} {x2 : Int32} {x3 : Int32} {x4 : Int32} {f_latest_1 : Int32} {f_faultKind_2 : Int32} {f_faultPlace_3 : Int32} {f_bits_4 : Int32} {f_parts_5 : Int32} {f_size_6 : Int32} {fv7 : Value} {g8 : Nat → Int64} {j9 : Nat} {S10 : AS} {r_11 : Nat} {la12 : Int32} {fk13 : Int32} {fp14 : Int32}
  (a1 : hat h 0 (oC 8 [.ref 1, .ref 5, .ref 18, .ref 81, .ref 98, .int f_latest_1, .int f_faultKind_2, .int f_faultPlace_3]))
  (a2 : hat h 1 (oC 6 [.int f_bits_4, .int f_parts_5, .ref 2, .int f_size_6, .ref 3, .ref 4, fv7]))
  (a3 : hat h 3 (aL 32 g8))
  (i4 : x4 < (32 : Int32) → ¬ (b2i (inI x2 x4)) = (0 : Int32) → ev_ix x4 j9 32)
  (pr5 : x4 < (32 : Int32) → ¬ (b2i (inI x2 x4)) = (0 : Int32) → StR h 1 S10)
  (pr6 : x4 < (32 : Int32) → ¬ (b2i (inI x2 x4)) = (0 : Int32) → sOk S10)
  (pr7 : x4 < (32 : Int32) → ¬ (b2i (inI x2 x4)) = (0 : Int32) → x1 = nI r_11 ∧ r_11 < 2147483648)
  (pr8 : ¬ x4 < (32 : Int32) → XO h la12 fk13 fp14)
  (r9 : ¬ x4 < (32 : Int32) → ∃ fs, hat h 0 (oC 8 fs))
  (k1 : x4 < (32 : Int32) → (b2i (inI x2 x4)) = (0 : Int32) → Ev G (d + 6) k n M_X_pairs 27 [.ref 0, .int x1, .int x2, .int x3, .int (x4 + (1 : Int32))] [] h R)
  (k2 : x4 < (32 : Int32) → ¬ (b2i (inI x2 x4)) = (0 : Int32) → Ev G (d + 6) k n M_X_pairs 27 [.ref 0, .int x1, .int x2, .int (x3 + (nI (pop32 (setI (nrP S10 (bt (x2 &&& ((-2 : Int32) <<< (x4 &&& 31)))) (g8 j9) r_11))))), .int (x4 + (1 : Int32))] [] h R)
  (k3 : ¬ x4 < (32 : Int32) → R (some (.int x3)) (xoS h 0 fk13 fp14))
  : Ev G (d + 6) k n M_X_pairs 27 [.ref 0, .int x1, .int x2, .int x3, .int x4] [] h R :=
  Ev.go (pc' := 31) (ls' := [.ref 0, .int x1, .int x2, .int x3, .int x4]) (st' := [.int (32 : Int32), .int x4]) [.iload 4, .bipush (32)] (by decide +kernel) rfl <|
  Ev.br (i := .if_icmp .ge (49)) (P := x4 < (32 : Int32)) (t := 34) (f := 80) (r := []) (by decide +kernel) rfl (fun c1 =>
    Ev.go (pc' := 37) (ls' := [.ref 0, .int x1, .int x2, .int x3, .int x4]) (st' := [.int x4, .int x2]) [.iload_n 2, .iload 4] (by decide +kernel) rfl <|
    Ev.cS0 (M' := M_X_isIn) (as := [.int x2, .int x4]) (rest := []) l_X_238 M_X_isIn_ok M_X_isIn_st (by decide +kernel) rfl rfl (Nat.le_of_ble_eq_true rfl) (Nat.le_of_ble_eq_true rfl) (s_X_isIn <| show Ev G (d + 6) _ _ M_X_pairs 40 [.ref 0, .int x1, .int x2, .int x3, .int x4] [.int (b2i (inI x2 x4))] h R from
      Ev.br (i := .ifCond .eq (34)) (P := (b2i (inI x2 x4)) = (0 : Int32)) (t := 74) (f := 43) (r := []) (by decide +kernel) rfl (fun c2 =>
        Ev.go (pc' := 27) (ls' := [.ref 0, .int x1, .int x2, .int x3, .int (x4 + (1 : Int32))]) (st' := []) [.iinc 4 (1), .goto (-50)] (by decide +kernel) rfl <|
        (k1 c1 c2)
      ) (fun c2 =>
        Ev.go (pc' := 45) (ls' := [.ref 0, .int x1, .int x2, .int x3, .int x4]) (st' := [.ref 0, .int x3]) [.iload_n 3, .aload_n 0] (by decide +kernel) rfl <|
        Ev.getf f_X_10 (by decide +kernel) a1 rfl <|
        Ev.go (pc' := 51) (ls' := [.ref 0, .int x1, .int x2, .int x3, .int x4]) (st' := [.int x4, .int x2, .ref 1, .int x3]) [.iload_n 2, .iload 4] (by decide +kernel) rfl <|
        Ev.cS0 (M' := M_X_above) (as := [.int x4]) (rest := [.int x2, .ref 1, .int x3]) l_X_241 M_X_above_ok M_X_above_st (by decide +kernel) rfl rfl (Nat.le_of_ble_eq_true rfl) (Nat.le_of_ble_eq_true rfl) (s_X_above <| show Ev G (d + 6) _ _ M_X_pairs 54 [.ref 0, .int x1, .int x2, .int x3, .int x4] [.int ((-2 : Int32) <<< (x4 &&& 31)), .int x2, .ref 1, .int x3] h R from
          Ev.go (pc' := 56) (ls' := [.ref 0, .int x1, .int x2, .int x3, .int x4]) (st' := [.ref 0, .int (x2 &&& ((-2 : Int32) <<< (x4 &&& 31))), .ref 1, .int x3]) [.iand, .aload_n 0] (by decide +kernel) rfl <|
          Ev.getf f_X_10 (by decide +kernel) a1 rfl <|
          Ev.getf f_X_118 (by decide +kernel) a2 rfl <|
          Ev.go (pc' := 64) (ls' := [.ref 0, .int x1, .int x2, .int x3, .int x4]) (st' := [.int x4, .ref 3, .int (x2 &&& ((-2 : Int32) <<< (x4 &&& 31))), .ref 1, .int x3]) [.iload 4] (by decide +kernel) rfl <|
          Ev.lald (j := j9) (by decide +kernel) a3 (i4 c1 c2) <|
          Ev.go (pc' := 66) (ls' := [.ref 0, .int x1, .int x2, .int x3, .int x4]) (st' := [.int x1, .long (g8 j9), .int (x2 &&& ((-2 : Int32) <<< (x4 &&& 31))), .ref 1, .int x3]) [.iload_n 1] (by decide +kernel) rfl <|
          Ev.cV0 (M' := M_St_within) (as := [.int (x2 &&& ((-2 : Int32) <<< (x4 &&& 31))), .long (g8 j9), .int x1]) (rest := [.int x3]) l_X_217 M_St_within_ok M_St_within_in M_St_within_se (by decide +kernel) ⟨_, a2⟩ rfl rfl rfl (Nat.le_of_ble_eq_true rfl) (Nat.le_of_ble_eq_true rfl) (s_St_within' (pr5 c1 c2) (pr6 c1 c2) (pr7 c1 c2) <| show Ev G (d + 6) _ _ M_X_pairs 69 [.ref 0, .int x1, .int x2, .int x3, .int x4] [.int (setI (nrP S10 (bt (x2 &&& ((-2 : Int32) <<< (x4 &&& 31)))) (g8 j9) r_11)), .int x3] h R from
            Ev.cS0 (M' := M_JI_bitCount) (as := [.int (setI (nrP S10 (bt (x2 &&& ((-2 : Int32) <<< (x4 &&& 31)))) (g8 j9) r_11))]) (rest := [.int x3]) l_X_99 M_JI_bitCount_ok M_JI_bitCount_st (by decide +kernel) rfl rfl (Nat.le_of_ble_eq_true rfl) (Nat.le_of_ble_eq_true rfl) (s_JI_bitCount <| show Ev G (d + 6) _ _ M_X_pairs 72 [.ref 0, .int x1, .int x2, .int x3, .int x4] [.int (nI (pop32 (setI (nrP S10 (bt (x2 &&& ((-2 : Int32) <<< (x4 &&& 31)))) (g8 j9) r_11)))), .int x3] h R from
              Ev.go (pc' := 27) (ls' := [.ref 0, .int x1, .int x2, .int (x3 + (nI (pop32 (setI (nrP S10 (bt (x2 &&& ((-2 : Int32) <<< (x4 &&& 31)))) (g8 j9) r_11))))), .int (x4 + (1 : Int32))]) (st' := []) [.iadd, .istore_n 3, .iinc 4 (1), .goto (-50)] (by decide +kernel) rfl <|
              (k2 c1 c2)
            )
          )
        )
      )
    )
  ) (fun c1 =>
    Ev.go (pc' := 82) (ls' := [.ref 0, .int x1, .int x2, .int x3, .int x4]) (st' := [.int x3, .ref 0]) [.aload_n 0, .iload_n 3] (by decide +kernel) rfl <|
    Ev.cV0 (M' := M_X_answer) (as := [.int x3]) (rest := []) l_X_87 M_X_answer_ok M_X_answer_in M_X_answer_se (by decide +kernel) (r9 c1) rfl rfl rfl (Nat.le_of_ble_eq_true rfl) (Nat.le_of_ble_eq_true rfl) (s_X_answer' (pr8 c1) <| show Ev G (d + 6) _ _ M_X_pairs 85 [.ref 0, .int x1, .int x2, .int x3, .int x4] [.int x3] (xoS h 0 fk13 fp14) R from
      Ev.ret (r := (some (.int x3))) (Or.inl ⟨_, rfl, by decide +kernel, _, rfl, rfl⟩) (k3 c1)
    )
  )
theorem b_X_pair_0 {G : ev_G} {d k n : Nat} {h : ev_H} {R : Option Value → ev_H → Prop} {x1 : Int32} {x2 : Int32} {x3 : Int32} {S1 : AS} {la2 : Int32} {fk3 : Int32} {fp4 : Int32} {la5 : Int32} {fk6 : Int32} {fp7 : Int32} {la8 : Int32} {fk9 : Int32} {fp10 : Int32} {la11 : Int32} {fk12 : Int32} {fp13 : Int32} {f_latest_14 : Int32} {f_faultKind_15 : Int32} {f_faultPlace_16 : Int32} {S17 : AS} {S18 : AS} {la19 : Int32} {fk20 : Int32} {fp21 : Int32} {r_22 : Nat} {k_23 : Nat} {la24 : Int32} {fk25 : Int32} {fp26 : Int32} {q_27 : Nat} {la28 : Int32} {fk29 : Int32} {fp30 : Int32}
  (a11 : hat h 0 (oC 8 [.ref 1, .ref 5, .ref 18, .ref 81, .ref 98, .int f_latest_14, .int f_faultKind_15, .int f_faultPlace_16]))
  (pr1 : XO h la2 fk3 fp4)
  (pr2 : StR h 1 S1)
  (pr3 : sOk S1)
  (r4 : ∃ fs, hat h 0 (oC 8 fs))
  (pr5 : (b2i (inR x1 (sB S1 + 1))) = (0 : Int32) → XO h la5 fk6 fp7)
  (r6 : (b2i (inR x1 (sB S1 + 1))) = (0 : Int32) → ∃ fs, hat h 0 (oC 8 fs))
  (pr7 : ¬ (b2i (inR x1 (sB S1 + 1))) = (0 : Int32) → x2 < (0 : Int32) → XO h la8 fk9 fp10)
  (r8 : ¬ (b2i (inR x1 (sB S1 + 1))) = (0 : Int32) → x2 < (0 : Int32) → ∃ fs, hat h 0 (oC 8 fs))
  (pr9 : ¬ (b2i (inR x1 (sB S1 + 1))) = (0 : Int32) → ¬ x2 < (0 : Int32) → (b2i (decide (0 ≤ x3 ∧ x3 < (3 : Int32)))) = (0 : Int32) → XO h la11 fk12 fp13)
  (r10 : ¬ (b2i (inR x1 (sB S1 + 1))) = (0 : Int32) → ¬ x2 < (0 : Int32) → (b2i (decide (0 ≤ x3 ∧ x3 < (3 : Int32)))) = (0 : Int32) → ∃ fs, hat h 0 (oC 8 fs))
  (pr12 : ¬ (b2i (inR x1 (sB S1 + 1))) = (0 : Int32) → ¬ x2 < (0 : Int32) → ¬ (b2i (decide (0 ≤ x3 ∧ x3 < (3 : Int32)))) = (0 : Int32) → StR h 1 S17)
  (pr13 : ¬ (b2i (inR x1 (sB S1 + 1))) = (0 : Int32) → ¬ x2 < (0 : Int32) → ¬ (b2i (decide (0 ≤ x3 ∧ x3 < (3 : Int32)))) = (0 : Int32) → sOk S17)
  (pr14 : ¬ (b2i (inR x1 (sB S1 + 1))) = (0 : Int32) → ¬ x2 < (0 : Int32) → ¬ (b2i (decide (0 ≤ x3 ∧ x3 < (3 : Int32)))) = (0 : Int32) → sFl S17 = [] ∨ flOk (sFl S17))
  (r15 : ¬ (b2i (inR x1 (sB S1 + 1))) = (0 : Int32) → ¬ x2 < (0 : Int32) → ¬ (b2i (decide (0 ≤ x3 ∧ x3 < (3 : Int32)))) = (0 : Int32) → ∃ fs, hat h 1 (oC 6 fs))
  (pr16 : ¬ (b2i (inR x1 (sB S1 + 1))) = (0 : Int32) → ¬ x2 < (0 : Int32) → ¬ (b2i (decide (0 ≤ x3 ∧ x3 < (3 : Int32)))) = (0 : Int32) → XO h la19 fk20 fp21)
  (pr17 : ¬ (b2i (inR x1 (sB S1 + 1))) = (0 : Int32) → ¬ x2 < (0 : Int32) → ¬ (b2i (decide (0 ≤ x3 ∧ x3 < (3 : Int32)))) = (0 : Int32) → StR h 1 S18)
  (pr18 : ¬ (b2i (inR x1 (sB S1 + 1))) = (0 : Int32) → ¬ x2 < (0 : Int32) → ¬ (b2i (decide (0 ≤ x3 ∧ x3 < (3 : Int32)))) = (0 : Int32) → sOk S18)
  (pr19 : ¬ (b2i (inR x1 (sB S1 + 1))) = (0 : Int32) → ¬ x2 < (0 : Int32) → ¬ (b2i (decide (0 ≤ x3 ∧ x3 < (3 : Int32)))) = (0 : Int32) → ∀ j, bt (setI (ctP S17)) j = true → j < sN S18)
  (pr20 : ¬ (b2i (inR x1 (sB S1 + 1))) = (0 : Int32) → ¬ x2 < (0 : Int32) → ¬ (b2i (decide (0 ≤ x3 ∧ x3 < (3 : Int32)))) = (0 : Int32) → x1 = nI r_22 ∧ r_22 < 2147483648)
  (pr21 : ¬ (b2i (inR x1 (sB S1 + 1))) = (0 : Int32) → ¬ x2 < (0 : Int32) → ¬ (b2i (decide (0 ≤ x3 ∧ x3 < (3 : Int32)))) = (0 : Int32) → x2 = nI k_23 ∧ k_23 < 2147483648)
  (pr22 : ¬ (b2i (inR x1 (sB S1 + 1))) = (0 : Int32) → ¬ x2 < (0 : Int32) → ¬ (b2i (decide (0 ≤ x3 ∧ x3 < (3 : Int32)))) = (0 : Int32) → (if nthT (prP S18 (bt (setI (ctP S17))) r_22) k_23 < 1024 then nI (twF S18 (nthT (prP S18 (bt (setI (ctP S17))) r_22) k_23) * 1024 + nthT (prP S18 (bt (setI (ctP S17))) r_22) k_23) else -1) = (-1 : Int32) → XO h la24 fk25 fp26)
  (pr23 : ¬ (b2i (inR x1 (sB S1 + 1))) = (0 : Int32) → ¬ x2 < (0 : Int32) → ¬ (b2i (decide (0 ≤ x3 ∧ x3 < (3 : Int32)))) = (0 : Int32) → ¬ (if nthT (prP S18 (bt (setI (ctP S17))) r_22) k_23 < 1024 then nI (twF S18 (nthT (prP S18 (bt (setI (ctP S17))) r_22) k_23) * 1024 + nthT (prP S18 (bt (setI (ctP S17))) r_22) k_23) else -1) = (-1 : Int32) → (if nthT (prP S18 (bt (setI (ctP S17))) r_22) k_23 < 1024 then nI (twF S18 (nthT (prP S18 (bt (setI (ctP S17))) r_22) k_23) * 1024 + nthT (prP S18 (bt (setI (ctP S17))) r_22) k_23) else -1) = nI q_27 ∧ q_27 < 2147483648)
  (pr24 : ¬ (b2i (inR x1 (sB S1 + 1))) = (0 : Int32) → ¬ x2 < (0 : Int32) → ¬ (b2i (decide (0 ≤ x3 ∧ x3 < (3 : Int32)))) = (0 : Int32) → ¬ (if nthT (prP S18 (bt (setI (ctP S17))) r_22) k_23 < 1024 then nI (twF S18 (nthT (prP S18 (bt (setI (ctP S17))) r_22) k_23) * 1024 + nthT (prP S18 (bt (setI (ctP S17))) r_22) k_23) else -1) = (-1 : Int32) → XO h la28 fk29 fp30)
  (k1 : (b2i (inR x1 (sB S1 + 1))) = (0 : Int32) → R (some (.int (-1 : Int32))) (xoS h (1 : Int32) fk6 fp7))
  (k2 : ¬ (b2i (inR x1 (sB S1 + 1))) = (0 : Int32) → x2 < (0 : Int32) → R (some (.int (-1 : Int32))) (xoS h (1 : Int32) fk9 fp10))
  (k3 : ¬ (b2i (inR x1 (sB S1 + 1))) = (0 : Int32) → ¬ x2 < (0 : Int32) → (b2i (decide (0 ≤ x3 ∧ x3 < (3 : Int32)))) = (0 : Int32) → R (some (.int (-1 : Int32))) (xoS h (1 : Int32) fk12 fp13))
  (k4 : ¬ (b2i (inR x1 (sB S1 + 1))) = (0 : Int32) → ¬ x2 < (0 : Int32) → ¬ (b2i (decide (0 ≤ x3 ∧ x3 < (3 : Int32)))) = (0 : Int32) → (if nthT (prP S18 (bt (setI (ctP S17))) r_22) k_23 < 1024 then nI (twF S18 (nthT (prP S18 (bt (setI (ctP S17))) r_22) k_23) * 1024 + nthT (prP S18 (bt (setI (ctP S17))) r_22) k_23) else -1) = (-1 : Int32) → R (some (.int (-1 : Int32))) (xoS h (5 : Int32) fk25 fp26))
  (k5 : ¬ (b2i (inR x1 (sB S1 + 1))) = (0 : Int32) → ¬ x2 < (0 : Int32) → ¬ (b2i (decide (0 ≤ x3 ∧ x3 < (3 : Int32)))) = (0 : Int32) → ¬ (if nthT (prP S18 (bt (setI (ctP S17))) r_22) k_23 < 1024 then nI (twF S18 (nthT (prP S18 (bt (setI (ctP S17))) r_22) k_23) * 1024 + nthT (prP S18 (bt (setI (ctP S17))) r_22) k_23) else -1) = (-1 : Int32) → R (some (.int (nI (opN q_27 x3)))) (xoS h 0 fk29 fp30))
  : Ev G (d + 6) k n M_X_pair 0 [.ref 0, .int x1, .int x2, .int x3, ev_unk] [] h R :=
  Ev.go (pc' := 2) (ls' := [.ref 0, .int x1, .int x2, .int x3, ev_unk]) (st' := [.int x1, .ref 0]) [.aload_n 0, .iload_n 1] (by decide +kernel) rfl <|
  Ev.cV0 (M' := M_X_isRadius) (as := [.int x1]) (rest := []) l_X_192 M_X_isRadius_ok M_X_isRadius_in M_X_isRadius_se (by decide +kernel) r4 rfl rfl rfl (Nat.le_of_ble_eq_true rfl) (Nat.le_of_ble_eq_true rfl) (s_X_isRadius pr1 pr2 pr3 <| show Ev G (d + 6) _ _ M_X_pair 5 [.ref 0, .int x1, .int x2, .int x3, ev_unk] [.int (b2i (inR x1 (sB S1 + 1)))] h R from
    Ev.br (i := .ifCond .eq (15)) (P := (b2i (inR x1 (sB S1 + 1))) = (0 : Int32)) (t := 20) (f := 8) (r := []) (by decide +kernel) rfl (fun c1 =>
      Ev.go (pc' := 22) (ls' := [.ref 0, .int x1, .int x2, .int x3, ev_unk]) (st' := [.int (1 : Int32), .ref 0]) [.aload_n 0, .iconst 1] (by decide +kernel) rfl <|
      Ev.cV0 (M' := M_X_refuse) (as := [.int (1 : Int32)]) (rest := []) l_X_67 M_X_refuse_ok M_X_refuse_in M_X_refuse_se (by decide +kernel) (r6 c1) rfl rfl rfl (Nat.le_of_ble_eq_true rfl) (Nat.le_of_ble_eq_true rfl) (s_X_refuse' (pr5 c1) <| show Ev G (d + 6) _ _ M_X_pair 25 [.ref 0, .int x1, .int x2, .int x3, ev_unk] [.int (-1 : Int32)] (xoS h (1 : Int32) fk6 fp7) R from
        Ev.ret (r := (some (.int (-1 : Int32)))) (Or.inl ⟨_, rfl, by decide +kernel, _, rfl, rfl⟩) (k1 c1)
      )
    ) (fun c1 =>
      Ev.go (pc' := 9) (ls' := [.ref 0, .int x1, .int x2, .int x3, ev_unk]) (st' := [.int x2]) [.iload_n 2] (by decide +kernel) rfl <|
      Ev.br (i := .ifCond .lt (11)) (P := x2 < (0 : Int32)) (t := 20) (f := 12) (r := []) (by decide +kernel) rfl (fun c2 =>
        Ev.go (pc' := 22) (ls' := [.ref 0, .int x1, .int x2, .int x3, ev_unk]) (st' := [.int (1 : Int32), .ref 0]) [.aload_n 0, .iconst 1] (by decide +kernel) rfl <|
        Ev.cV0 (M' := M_X_refuse) (as := [.int (1 : Int32)]) (rest := []) l_X_67 M_X_refuse_ok M_X_refuse_in M_X_refuse_se (by decide +kernel) (r8 c1 c2) rfl rfl rfl (Nat.le_of_ble_eq_true rfl) (Nat.le_of_ble_eq_true rfl) (s_X_refuse' (pr7 c1 c2) <| show Ev G (d + 6) _ _ M_X_pair 25 [.ref 0, .int x1, .int x2, .int x3, ev_unk] [.int (-1 : Int32)] (xoS h (1 : Int32) fk9 fp10) R from
          Ev.ret (r := (some (.int (-1 : Int32)))) (Or.inl ⟨_, rfl, by decide +kernel, _, rfl, rfl⟩) (k2 c1 c2)
        )
      ) (fun c2 =>
        Ev.go (pc' := 14) (ls' := [.ref 0, .int x1, .int x2, .int x3, ev_unk]) (st' := [.int (3 : Int32), .int x3]) [.iload_n 3, .iconst 3] (by decide +kernel) rfl <|
        Ev.cS0 (M' := M_X_isBelow) (as := [.int x3, .int (3 : Int32)]) (rest := []) l_X_148 M_X_isBelow_ok M_X_isBelow_st (by decide +kernel) rfl rfl (Nat.le_of_ble_eq_true rfl) (Nat.le_of_ble_eq_true rfl) (s_X_isBelow <| show Ev G (d + 6) _ _ M_X_pair 17 [.ref 0, .int x1, .int x2, .int x3, ev_unk] [.int (b2i (decide (0 ≤ x3 ∧ x3 < (3 : Int32))))] h R from
          Ev.br (i := .ifCond .ne (9)) (P := (b2i (decide (0 ≤ x3 ∧ x3 < (3 : Int32)))) = (0 : Int32)) (t := 20) (f := 26) (r := []) (by decide +kernel) rfl (fun c3 =>
            Ev.go (pc' := 22) (ls' := [.ref 0, .int x1, .int x2, .int x3, ev_unk]) (st' := [.int (1 : Int32), .ref 0]) [.aload_n 0, .iconst 1] (by decide +kernel) rfl <|
            Ev.cV0 (M' := M_X_refuse) (as := [.int (1 : Int32)]) (rest := []) l_X_67 M_X_refuse_ok M_X_refuse_in M_X_refuse_se (by decide +kernel) (r10 c1 c2 c3) rfl rfl rfl (Nat.le_of_ble_eq_true rfl) (Nat.le_of_ble_eq_true rfl) (s_X_refuse' (pr9 c1 c2 c3) <| show Ev G (d + 6) _ _ M_X_pair 25 [.ref 0, .int x1, .int x2, .int x3, ev_unk] [.int (-1 : Int32)] (xoS h (1 : Int32) fk12 fp13) R from
              Ev.ret (r := (some (.int (-1 : Int32)))) (Or.inl ⟨_, rfl, by decide +kernel, _, rfl, rfl⟩) (k3 c1 c2 c3)
            )
          ) (fun c3 =>
            Ev.go (pc' := 28) (ls' := [.ref 0, .int x1, .int x2, .int x3, ev_unk]) (st' := [.ref 0, .ref 0]) [.aload_n 0, .aload_n 0] (by decide +kernel) rfl <|
            Ev.getf f_X_10 (by decide +kernel) a11 rfl <|
            Ev.cV0 (M' := M_St_counting) (as := []) (rest := [.ref 0]) l_X_96 M_St_counting_ok M_St_counting_in M_St_counting_se (by decide +kernel) (r15 c1 c2 c3) rfl rfl rfl (Nat.le_of_ble_eq_true rfl) (Nat.le_of_ble_eq_true rfl) (s_St_counting (pr12 c1 c2 c3) (pr13 c1 c2 c3) (pr14 c1 c2 c3) <| show Ev G (d + 6) _ _ M_X_pair 34 [.ref 0, .int x1, .int x2, .int x3, ev_unk] [.int (setI (ctP S17)), .ref 0] h R from
              Ev.go (pc' := 36) (ls' := [.ref 0, .int x1, .int x2, .int x3, ev_unk]) (st' := [.int x2, .int x1, .int (setI (ctP S17)), .ref 0]) [.iload_n 1, .iload_n 2] (by decide +kernel) rfl <|
              Ev.cV0 (M' := M_X_pairAt) (as := [.int (setI (ctP S17)), .int x1, .int x2]) (rest := []) l_X_244 M_X_pairAt_ok M_X_pairAt_in M_X_pairAt_se (by decide +kernel) ⟨_, a11⟩ rfl rfl rfl (Nat.le_of_ble_eq_true rfl) (Nat.le_of_ble_eq_true rfl) (s_X_pairAt (pr16 c1 c2 c3) (pr17 c1 c2 c3) (pr18 c1 c2 c3) (pr19 c1 c2 c3) (pr20 c1 c2 c3) (pr21 c1 c2 c3) <| show Ev G (d + 6) _ _ M_X_pair 39 [.ref 0, .int x1, .int x2, .int x3, ev_unk] [.int (if nthT (prP S18 (bt (setI (ctP S17))) r_22) k_23 < 1024 then nI (twF S18 (nthT (prP S18 (bt (setI (ctP S17))) r_22) k_23) * 1024 + nthT (prP S18 (bt (setI (ctP S17))) r_22) k_23) else -1)] h R from
                Ev.go (pc' := 44) (ls' := [.ref 0, .int x1, .int x2, .int x3, .int (if nthT (prP S18 (bt (setI (ctP S17))) r_22) k_23 < 1024 then nI (twF S18 (nthT (prP S18 (bt (setI (ctP S17))) r_22) k_23) * 1024 + nthT (prP S18 (bt (setI (ctP S17))) r_22) k_23) else -1)]) (st' := [.int (-1 : Int32), .int (if nthT (prP S18 (bt (setI (ctP S17))) r_22) k_23 < 1024 then nI (twF S18 (nthT (prP S18 (bt (setI (ctP S17))) r_22) k_23) * 1024 + nthT (prP S18 (bt (setI (ctP S17))) r_22) k_23) else -1)]) [.istore 4, .iload 4, .iconst (-1)] (by decide +kernel) rfl <|
                Ev.br (i := .if_icmp .ne (9)) (P := (if nthT (prP S18 (bt (setI (ctP S17))) r_22) k_23 < 1024 then nI (twF S18 (nthT (prP S18 (bt (setI (ctP S17))) r_22) k_23) * 1024 + nthT (prP S18 (bt (setI (ctP S17))) r_22) k_23) else -1) = (-1 : Int32)) (t := 47) (f := 53) (r := []) (by decide +kernel) rfl (fun c4 =>
                  Ev.go (pc' := 49) (ls' := [.ref 0, .int x1, .int x2, .int x3, .int (if nthT (prP S18 (bt (setI (ctP S17))) r_22) k_23 < 1024 then nI (twF S18 (nthT (prP S18 (bt (setI (ctP S17))) r_22) k_23) * 1024 + nthT (prP S18 (bt (setI (ctP S17))) r_22) k_23) else -1)]) (st' := [.int (5 : Int32), .ref 0]) [.aload_n 0, .iconst 5] (by decide +kernel) rfl <|
                  Ev.cV0 (M' := M_X_refuse) (as := [.int (5 : Int32)]) (rest := []) l_X_67 M_X_refuse_ok M_X_refuse_in M_X_refuse_se (by decide +kernel) ⟨_, a11⟩ rfl rfl rfl (Nat.le_of_ble_eq_true rfl) (Nat.le_of_ble_eq_true rfl) (s_X_refuse' (pr22 c1 c2 c3 c4) <| show Ev G (d + 6) _ _ M_X_pair 52 [.ref 0, .int x1, .int x2, .int x3, .int (if nthT (prP S18 (bt (setI (ctP S17))) r_22) k_23 < 1024 then nI (twF S18 (nthT (prP S18 (bt (setI (ctP S17))) r_22) k_23) * 1024 + nthT (prP S18 (bt (setI (ctP S17))) r_22) k_23) else -1)] [.int (-1 : Int32)] (xoS h (5 : Int32) fk25 fp26) R from
                    Ev.ret (r := (some (.int (-1 : Int32)))) (Or.inl ⟨_, rfl, by decide +kernel, _, rfl, rfl⟩) (k4 c1 c2 c3 c4)
                  )
                ) (fun c4 =>
                  Ev.go (pc' := 57) (ls' := [.ref 0, .int x1, .int x2, .int x3, .int (if nthT (prP S18 (bt (setI (ctP S17))) r_22) k_23 < 1024 then nI (twF S18 (nthT (prP S18 (bt (setI (ctP S17))) r_22) k_23) * 1024 + nthT (prP S18 (bt (setI (ctP S17))) r_22) k_23) else -1)]) (st' := [.int x3, .int (if nthT (prP S18 (bt (setI (ctP S17))) r_22) k_23 < 1024 then nI (twF S18 (nthT (prP S18 (bt (setI (ctP S17))) r_22) k_23) * 1024 + nthT (prP S18 (bt (setI (ctP S17))) r_22) k_23) else -1), .ref 0]) [.aload_n 0, .iload 4, .iload_n 3] (by decide +kernel) rfl <|
                  Ev.cS0 (M' := M_X_ofPacked) (as := [.int (if nthT (prP S18 (bt (setI (ctP S17))) r_22) k_23 < 1024 then nI (twF S18 (nthT (prP S18 (bt (setI (ctP S17))) r_22) k_23) * 1024 + nthT (prP S18 (bt (setI (ctP S17))) r_22) k_23) else -1), .int x3]) (rest := [.ref 0]) l_X_248 M_X_ofPacked_ok M_X_ofPacked_st (by decide +kernel) rfl rfl (Nat.le_of_ble_eq_true rfl) (Nat.le_of_ble_eq_true rfl) (s_X_ofPacked (pr23 c1 c2 c3 c4) <| show Ev G (d + 6) _ _ M_X_pair 60 [.ref 0, .int x1, .int x2, .int x3, .int (if nthT (prP S18 (bt (setI (ctP S17))) r_22) k_23 < 1024 then nI (twF S18 (nthT (prP S18 (bt (setI (ctP S17))) r_22) k_23) * 1024 + nthT (prP S18 (bt (setI (ctP S17))) r_22) k_23) else -1)] [.int (nI (opN q_27 x3)), .ref 0] h R from
                    Ev.cV0 (M' := M_X_answer) (as := [.int (nI (opN q_27 x3))]) (rest := []) l_X_87 M_X_answer_ok M_X_answer_in M_X_answer_se (by decide +kernel) ⟨_, a11⟩ rfl rfl rfl (Nat.le_of_ble_eq_true rfl) (Nat.le_of_ble_eq_true rfl) (s_X_answer' (pr24 c1 c2 c3 c4) <| show Ev G (d + 6) _ _ M_X_pair 63 [.ref 0, .int x1, .int x2, .int x3, .int (if nthT (prP S18 (bt (setI (ctP S17))) r_22) k_23 < 1024 then nI (twF S18 (nthT (prP S18 (bt (setI (ctP S17))) r_22) k_23) * 1024 + nthT (prP S18 (bt (setI (ctP S17))) r_22) k_23) else -1)] [.int (nI (opN q_27 x3))] (xoS h 0 fk29 fp30) R from
                      Ev.ret (r := (some (.int (nI (opN q_27 x3))))) (Or.inl ⟨_, rfl, by decide +kernel, _, rfl, rfl⟩) (k5 c1 c2 c3 c4)
                    )
                  )
                )
              )
            )
          )
        )
      )
    )
  )
theorem b_X_joined_0 {G : ev_G} {d k n : Nat} {h : ev_H} {R : Option Value → ev_H → Prop} {x1 : Int32} {S1 : AS} {la2 : Int32} {fk3 : Int32} {fp4 : Int32} {la5 : Int32} {fk6 : Int32} {fp7 : Int32} {f_latest_8 : Int32} {f_faultKind_9 : Int32} {f_faultPlace_10 : Int32} {S11 : AS}
  (a7 : hat h 0 (oC 8 [.ref 1, .ref 5, .ref 18, .ref 81, .ref 98, .int f_latest_8, .int f_faultKind_9, .int f_faultPlace_10]))
  (pr1 : XO h la2 fk3 fp4)
  (pr2 : StR h 1 S1)
  (pr3 : sOk S1)
  (r4 : ∃ fs, hat h 0 (oC 8 fs))
  (pr5 : (b2i (inR x1 (sB S1 + 1))) = (0 : Int32) → XO h la5 fk6 fp7)
  (r6 : (b2i (inR x1 (sB S1 + 1))) = (0 : Int32) → ∃ fs, hat h 0 (oC 8 fs))
  (pr8 : ¬ (b2i (inR x1 (sB S1 + 1))) = (0 : Int32) → StR h 1 S11)
  (pr9 : ¬ (b2i (inR x1 (sB S1 + 1))) = (0 : Int32) → sOk S11)
  (pr10 : ¬ (b2i (inR x1 (sB S1 + 1))) = (0 : Int32) → sFl S11 = [] ∨ flOk (sFl S11))
  (r11 : ¬ (b2i (inR x1 (sB S1 + 1))) = (0 : Int32) → ∃ fs, hat h 1 (oC 6 fs))
  (r12 : ¬ (b2i (inR x1 (sB S1 + 1))) = (0 : Int32) → ∃ fs, hat h 81 (oC 0 fs))
  (k1 : (b2i (inR x1 (sB S1 + 1))) = (0 : Int32) → R (some (.int (-1 : Int32))) (xoS h (1 : Int32) fk6 fp7))
  (k2 : ¬ (b2i (inR x1 (sB S1 + 1))) = (0 : Int32) → Ev G (d + 5) 0 0 M_Bu_partLike 0 [.ref 81, .ref 1] [] h (fun r h1 => Ev G (d + 6) k n M_X_joined 35 [.ref 0, .int x1, .int (setI (ctP S11)), .int (0 : Int32), ev_unk] (r.toList ++ []) h1 R))
  : Ev G (d + 6) k n M_X_joined 0 [.ref 0, .int x1, ev_unk, ev_unk, ev_unk] [] h R :=
  Ev.go (pc' := 2) (ls' := [.ref 0, .int x1, ev_unk, ev_unk, ev_unk]) (st' := [.int x1, .ref 0]) [.aload_n 0, .iload_n 1] (by decide +kernel) rfl <|
  Ev.cV0 (M' := M_X_isRadius) (as := [.int x1]) (rest := []) l_X_192 M_X_isRadius_ok M_X_isRadius_in M_X_isRadius_se (by decide +kernel) r4 rfl rfl rfl (Nat.le_of_ble_eq_true rfl) (Nat.le_of_ble_eq_true rfl) (s_X_isRadius pr1 pr2 pr3 <| show Ev G (d + 6) _ _ M_X_joined 5 [.ref 0, .int x1, ev_unk, ev_unk, ev_unk] [.int (b2i (inR x1 (sB S1 + 1)))] h R from
    Ev.br (i := .ifCond .ne (9)) (P := (b2i (inR x1 (sB S1 + 1))) = (0 : Int32)) (t := 8) (f := 14) (r := []) (by decide +kernel) rfl (fun c1 =>
      Ev.go (pc' := 10) (ls' := [.ref 0, .int x1, ev_unk, ev_unk, ev_unk]) (st' := [.int (1 : Int32), .ref 0]) [.aload_n 0, .iconst 1] (by decide +kernel) rfl <|
      Ev.cV0 (M' := M_X_refuse) (as := [.int (1 : Int32)]) (rest := []) l_X_67 M_X_refuse_ok M_X_refuse_in M_X_refuse_se (by decide +kernel) (r6 c1) rfl rfl rfl (Nat.le_of_ble_eq_true rfl) (Nat.le_of_ble_eq_true rfl) (s_X_refuse' (pr5 c1) <| show Ev G (d + 6) _ _ M_X_joined 13 [.ref 0, .int x1, ev_unk, ev_unk, ev_unk] [.int (-1 : Int32)] (xoS h (1 : Int32) fk6 fp7) R from
        Ev.ret (r := (some (.int (-1 : Int32)))) (Or.inl ⟨_, rfl, by decide +kernel, _, rfl, rfl⟩) (k1 c1)
      )
    ) (fun c1 =>
      Ev.go (pc' := 15) (ls' := [.ref 0, .int x1, ev_unk, ev_unk, ev_unk]) (st' := [.ref 0]) [.aload_n 0] (by decide +kernel) rfl <|
      Ev.getf f_X_10 (by decide +kernel) a7 rfl <|
      Ev.cV0 (M' := M_St_counting) (as := []) (rest := []) l_X_96 M_St_counting_ok M_St_counting_in M_St_counting_se (by decide +kernel) (r11 c1) rfl rfl rfl (Nat.le_of_ble_eq_true rfl) (Nat.le_of_ble_eq_true rfl) (s_St_counting (pr8 c1) (pr9 c1) (pr10 c1) <| show Ev G (d + 6) _ _ M_X_joined 21 [.ref 0, .int x1, ev_unk, ev_unk, ev_unk] [.int (setI (ctP S11))] h R from
        Ev.go (pc' := 25) (ls' := [.ref 0, .int x1, .int (setI (ctP S11)), .int (0 : Int32), ev_unk]) (st' := [.ref 0]) [.istore_n 2, .iconst 0, .istore_n 3, .aload_n 0] (by decide +kernel) rfl <|
        Ev.getf f_X_33 (by decide +kernel) a7 rfl <|
        Ev.go (pc' := 29) (ls' := [.ref 0, .int x1, .int (setI (ctP S11)), .int (0 : Int32), ev_unk]) (st' := [.ref 0, .ref 81]) [.aload_n 0] (by decide +kernel) rfl <|
        Ev.getf f_X_10 (by decide +kernel) a7 rfl <|
        Ev.cV0 (M' := M_Bu_partLike) (as := [.ref 1]) (rest := []) l_X_195 M_Bu_partLike_ok M_Bu_partLike_in M_Bu_partLike_se (by decide +kernel) (r12 c1) rfl rfl rfl (Nat.le_of_ble_eq_true rfl) (Nat.le_of_ble_eq_true rfl) (k2 c1)
      )
    )
  )
theorem b_X_joined_35 {G : ev_G} {d k n : Nat} {h : ev_H} {R : Option Value → ev_H → Prop} {x1 : Int32} {x2 : Int32} {x3 : Int32}
  (k1 : Ev G (d + 6) k n M_X_joined 38 [.ref 0, .int x1, .int x2, .int x3, .int (0 : Int32)] [] h R)
  : Ev G (d + 6) k n M_X_joined 35 [.ref 0, .int x1, .int x2, .int x3, ev_unk] [] h R :=
  Ev.go (pc' := 38) (ls' := [.ref 0, .int x1, .int x2, .int x3, .int (0 : Int32)]) (st' := []) [.iconst 0, .istore 4] (by decide +kernel) rfl <|
  k1
theorem b_X_joined_38 {G : ev_G} {d k n : Nat} {h : ev_H} {R : Option Value → ev_H → Prop} {x1 : Int32} {x2 : Int32} {x3 : Int32} {x4 : Int32} {f_latest_1 : Int32} {f_faultKind_2 : Int32} {f_faultPlace_3 : Int32} {f_bits_4 : Int32} {f_parts_5 : Int32} {f_size_6 : Int32} {fv7 : Value} {g8 : Nat → Int64} {j9 : Nat} {la10 : Int32} {fk11 : Int32} {fp12 : Int32}
  (a1 : hat h 0 (oC 8 [.ref 1, .ref 5, .ref 18, .ref 81, .ref 98, .int f_latest_1, .int f_faultKind_2, .int f_faultPlace_3]))
  (a2 : hat h 1 (oC 6 [.int f_bits_4, .int f_parts_5, .ref 2, .int f_size_6, .ref 3, .ref 4, fv7]))
  (a3 : hat h 3 (aL 32 g8))
  (i4 : x4 < (32 : Int32) → ¬ (b2i (inI x2 x4)) = (0 : Int32) → ev_ix x4 j9 32)
  (r5 : x4 < (32 : Int32) → ¬ (b2i (inI x2 x4)) = (0 : Int32) → ∃ fs, hat h 81 (oC 0 fs))
  (pr6 : ¬ x4 < (32 : Int32) → XO h la10 fk11 fp12)
  (r7 : ¬ x4 < (32 : Int32) → ∃ fs, hat h 0 (oC 8 fs))
  (k1 : x4 < (32 : Int32) → (b2i (inI x2 x4)) = (0 : Int32) → Ev G (d + 6) k n M_X_joined 38 [.ref 0, .int x1, .int x2, .int x3, .int (x4 + (1 : Int32))] [] h R)
  (k2 : x4 < (32 : Int32) → ¬ (b2i (inI x2 x4)) = (0 : Int32) → Ev G (d + 5) 0 0 M_Bu_plan 0 [.ref 81, .ref 3, .int (x2 &&& ((-2 : Int32) <<< (x4 &&& 31))), .long (g8 j9), ev_unk, .int x1] [] h (fun r h1 => Ev G (d + 6) k n M_X_joined 87 [.ref 0, .int x1, .int x2, .int x3, .int x4] (r.toList ++ [.int x3]) h1 R))
  (k3 : ¬ x4 < (32 : Int32) → R (some (.int x3)) (xoS h 0 fk11 fp12))
  : Ev G (d + 6) k n M_X_joined 38 [.ref 0, .int x1, .int x2, .int x3, .int x4] [] h R :=
  Ev.go (pc' := 42) (ls' := [.ref 0, .int x1, .int x2, .int x3, .int x4]) (st' := [.int (32 : Int32), .int x4]) [.iload 4, .bipush (32)] (by decide +kernel) rfl <|
  Ev.br (i := .if_icmp .ge (53)) (P := x4 < (32 : Int32)) (t := 45) (f := 95) (r := []) (by decide +kernel) rfl (fun c1 =>
    Ev.go (pc' := 48) (ls' := [.ref 0, .int x1, .int x2, .int x3, .int x4]) (st' := [.int x4, .int x2]) [.iload_n 2, .iload 4] (by decide +kernel) rfl <|
    Ev.cS0 (M' := M_X_isIn) (as := [.int x2, .int x4]) (rest := []) l_X_238 M_X_isIn_ok M_X_isIn_st (by decide +kernel) rfl rfl (Nat.le_of_ble_eq_true rfl) (Nat.le_of_ble_eq_true rfl) (s_X_isIn <| show Ev G (d + 6) _ _ M_X_joined 51 [.ref 0, .int x1, .int x2, .int x3, .int x4] [.int (b2i (inI x2 x4))] h R from
      Ev.br (i := .ifCond .eq (38)) (P := (b2i (inI x2 x4)) = (0 : Int32)) (t := 89) (f := 54) (r := []) (by decide +kernel) rfl (fun c2 =>
        Ev.go (pc' := 38) (ls' := [.ref 0, .int x1, .int x2, .int x3, .int (x4 + (1 : Int32))]) (st' := []) [.iinc 4 (1), .goto (-54)] (by decide +kernel) rfl <|
        (k1 c1 c2)
      ) (fun c2 =>
        Ev.go (pc' := 56) (ls' := [.ref 0, .int x1, .int x2, .int x3, .int x4]) (st' := [.ref 0, .int x3]) [.iload_n 3, .aload_n 0] (by decide +kernel) rfl <|
        Ev.getf f_X_33 (by decide +kernel) a1 rfl <|
        Ev.go (pc' := 60) (ls' := [.ref 0, .int x1, .int x2, .int x3, .int x4]) (st' := [.ref 0, .ref 81, .int x3]) [.aload_n 0] (by decide +kernel) rfl <|
        Ev.getf f_X_10 (by decide +kernel) a1 rfl <|
        Ev.getf f_X_118 (by decide +kernel) a2 rfl <|
        Ev.go (pc' := 69) (ls' := [.ref 0, .int x1, .int x2, .int x3, .int x4]) (st' := [.int x4, .int x2, .ref 3, .ref 81, .int x3]) [.iload_n 2, .iload 4] (by decide +kernel) rfl <|
        Ev.cS0 (M' := M_X_above) (as := [.int x4]) (rest := [.int x2, .ref 3, .ref 81, .int x3]) l_X_241 M_X_above_ok M_X_above_st (by decide +kernel) rfl rfl (Nat.le_of_ble_eq_true rfl) (Nat.le_of_ble_eq_true rfl) (s_X_above <| show Ev G (d + 6) _ _ M_X_joined 72 [.ref 0, .int x1, .int x2, .int x3, .int x4] [.int ((-2 : Int32) <<< (x4 &&& 31)), .int x2, .ref 3, .ref 81, .int x3] h R from
          Ev.go (pc' := 74) (ls' := [.ref 0, .int x1, .int x2, .int x3, .int x4]) (st' := [.ref 0, .int (x2 &&& ((-2 : Int32) <<< (x4 &&& 31))), .ref 3, .ref 81, .int x3]) [.iand, .aload_n 0] (by decide +kernel) rfl <|
          Ev.getf f_X_10 (by decide +kernel) a1 rfl <|
          Ev.getf f_X_118 (by decide +kernel) a2 rfl <|
          Ev.go (pc' := 82) (ls' := [.ref 0, .int x1, .int x2, .int x3, .int x4]) (st' := [.int x4, .ref 3, .int (x2 &&& ((-2 : Int32) <<< (x4 &&& 31))), .ref 3, .ref 81, .int x3]) [.iload 4] (by decide +kernel) rfl <|
          Ev.lald (j := j9) (by decide +kernel) a3 (i4 c1 c2) <|
          Ev.go (pc' := 84) (ls' := [.ref 0, .int x1, .int x2, .int x3, .int x4]) (st' := [.int x1, .long (g8 j9), .int (x2 &&& ((-2 : Int32) <<< (x4 &&& 31))), .ref 3, .ref 81, .int x3]) [.iload_n 1] (by decide +kernel) rfl <|
          Ev.cV0 (M' := M_Bu_plan) (as := [.ref 3, .int (x2 &&& ((-2 : Int32) <<< (x4 &&& 31))), .long (g8 j9), .int x1]) (rest := [.int x3]) l_X_198 M_Bu_plan_ok M_Bu_plan_in M_Bu_plan_se (by decide +kernel) (r5 c1 c2) rfl rfl rfl (Nat.le_of_ble_eq_true rfl) (Nat.le_of_ble_eq_true rfl) (k2 c1 c2)
        )
      )
    )
  ) (fun c1 =>
    Ev.go (pc' := 97) (ls' := [.ref 0, .int x1, .int x2, .int x3, .int x4]) (st' := [.int x3, .ref 0]) [.aload_n 0, .iload_n 3] (by decide +kernel) rfl <|
    Ev.cV0 (M' := M_X_answer) (as := [.int x3]) (rest := []) l_X_87 M_X_answer_ok M_X_answer_in M_X_answer_se (by decide +kernel) (r7 c1) rfl rfl rfl (Nat.le_of_ble_eq_true rfl) (Nat.le_of_ble_eq_true rfl) (s_X_answer' (pr6 c1) <| show Ev G (d + 6) _ _ M_X_joined 100 [.ref 0, .int x1, .int x2, .int x3, .int x4] [.int x3] (xoS h 0 fk11 fp12) R from
      Ev.ret (r := (some (.int x3))) (Or.inl ⟨_, rfl, by decide +kernel, _, rfl, rfl⟩) (k3 c1)
    )
  )
theorem b_X_joined_87 {G : ev_G} {d k n : Nat} {h : ev_H} {R : Option Value → ev_H → Prop} {x1 : Int32} {x2 : Int32} {x3 : Int32} {x4 : Int32} {y0 : Int32} {y1 : Int32}
  (k1 : Ev G (d + 6) k n M_X_joined 38 [.ref 0, .int x1, .int x2, .int (y0 + y1), .int (x4 + (1 : Int32))] [] h R)
  : Ev G (d + 6) k n M_X_joined 87 [.ref 0, .int x1, .int x2, .int x3, .int x4] [.int y1, .int y0] h R :=
  Ev.go (pc' := 38) (ls' := [.ref 0, .int x1, .int x2, .int (y0 + y1), .int (x4 + (1 : Int32))]) (st' := []) [.iadd, .istore_n 3, .iinc 4 (1), .goto (-54)] (by decide +kernel) rfl <|
  k1
theorem b_X_closest_0 {G : ev_G} {d k n : Nat} {h : ev_H} {R : Option Value → ev_H → Prop} {x1 : Int32} {la1 : Int32} {fk2 : Int32} {fp3 : Int32} {f_latest_4 : Int32} {f_faultKind_5 : Int32} {f_faultPlace_6 : Int32} {S7 : AS} {S8 : AS} {la9 : Int32} {fk10 : Int32} {fp11 : Int32} {la12 : Int32} {fk13 : Int32} {fp14 : Int32} {q_15 : Nat} {la16 : Int32} {fk17 : Int32} {fp18 : Int32}
  (a3 : hat h 0 (oC 8 [.ref 1, .ref 5, .ref 18, .ref 81, .ref 98, .int f_latest_4, .int f_faultKind_5, .int f_faultPlace_6]))
  (pr1 : (b2i (decide (0 ≤ x1 ∧ x1 < (3 : Int32)))) = (0 : Int32) → XO h la1 fk2 fp3)
  (r2 : (b2i (decide (0 ≤ x1 ∧ x1 < (3 : Int32)))) = (0 : Int32) → ∃ fs, hat h 0 (oC 8 fs))
  (pr4 : ¬ (b2i (decide (0 ≤ x1 ∧ x1 < (3 : Int32)))) = (0 : Int32) → StR h 1 S7)
  (pr5 : ¬ (b2i (decide (0 ≤ x1 ∧ x1 < (3 : Int32)))) = (0 : Int32) → sOk S7)
  (pr6 : ¬ (b2i (decide (0 ≤ x1 ∧ x1 < (3 : Int32)))) = (0 : Int32) → sFl S7 = [] ∨ flOk (sFl S7))
  (r7 : ¬ (b2i (decide (0 ≤ x1 ∧ x1 < (3 : Int32)))) = (0 : Int32) → ∃ fs, hat h 1 (oC 6 fs))
  (pr8 : ¬ (b2i (decide (0 ≤ x1 ∧ x1 < (3 : Int32)))) = (0 : Int32) → XO h la9 fk10 fp11)
  (pr9 : ¬ (b2i (decide (0 ≤ x1 ∧ x1 < (3 : Int32)))) = (0 : Int32) → StR h 1 S8)
  (pr10 : ¬ (b2i (decide (0 ≤ x1 ∧ x1 < (3 : Int32)))) = (0 : Int32) → sOk S8)
  (pr11 : ¬ (b2i (decide (0 ≤ x1 ∧ x1 < (3 : Int32)))) = (0 : Int32) → ∀ j, bt (setI (ctP S7)) j = true → j < sN S8)
  (pr12 : ¬ (b2i (decide (0 ≤ x1 ∧ x1 < (3 : Int32)))) = (0 : Int32) → (cloN (clo S8 (bt (setI (ctP S7))))) = (-1 : Int32) → XO h la12 fk13 fp14)
  (pr13 : ¬ (b2i (decide (0 ≤ x1 ∧ x1 < (3 : Int32)))) = (0 : Int32) → ¬ (cloN (clo S8 (bt (setI (ctP S7))))) = (-1 : Int32) → (cloN (clo S8 (bt (setI (ctP S7))))) = nI q_15 ∧ q_15 < 2147483648)
  (pr14 : ¬ (b2i (decide (0 ≤ x1 ∧ x1 < (3 : Int32)))) = (0 : Int32) → ¬ (cloN (clo S8 (bt (setI (ctP S7))))) = (-1 : Int32) → XO h la16 fk17 fp18)
  (k1 : (b2i (decide (0 ≤ x1 ∧ x1 < (3 : Int32)))) = (0 : Int32) → R (some (.int (-1 : Int32))) (xoS h (1 : Int32) fk2 fp3))
  (k2 : ¬ (b2i (decide (0 ≤ x1 ∧ x1 < (3 : Int32)))) = (0 : Int32) → (cloN (clo S8 (bt (setI (ctP S7))))) = (-1 : Int32) → R (some (.int (-1 : Int32))) (xoS h (5 : Int32) fk13 fp14))
  (k3 : ¬ (b2i (decide (0 ≤ x1 ∧ x1 < (3 : Int32)))) = (0 : Int32) → ¬ (cloN (clo S8 (bt (setI (ctP S7))))) = (-1 : Int32) → R (some (.int (nI (opN q_15 x1)))) (xoS h 0 fk17 fp18))
  : Ev G (d + 6) k n M_X_closest 0 [.ref 0, .int x1, ev_unk] [] h R :=
  Ev.go (pc' := 2) (ls' := [.ref 0, .int x1, ev_unk]) (st' := [.int (3 : Int32), .int x1]) [.iload_n 1, .iconst 3] (by decide +kernel) rfl <|
  Ev.cS0 (M' := M_X_isBelow) (as := [.int x1, .int (3 : Int32)]) (rest := []) l_X_148 M_X_isBelow_ok M_X_isBelow_st (by decide +kernel) rfl rfl (Nat.le_of_ble_eq_true rfl) (Nat.le_of_ble_eq_true rfl) (s_X_isBelow <| show Ev G (d + 6) _ _ M_X_closest 5 [.ref 0, .int x1, ev_unk] [.int (b2i (decide (0 ≤ x1 ∧ x1 < (3 : Int32))))] h R from
    Ev.br (i := .ifCond .ne (9)) (P := (b2i (decide (0 ≤ x1 ∧ x1 < (3 : Int32)))) = (0 : Int32)) (t := 8) (f := 14) (r := []) (by decide +kernel) rfl (fun c1 =>
      Ev.go (pc' := 10) (ls' := [.ref 0, .int x1, ev_unk]) (st' := [.int (1 : Int32), .ref 0]) [.aload_n 0, .iconst 1] (by decide +kernel) rfl <|
      Ev.cV0 (M' := M_X_refuse) (as := [.int (1 : Int32)]) (rest := []) l_X_67 M_X_refuse_ok M_X_refuse_in M_X_refuse_se (by decide +kernel) (r2 c1) rfl rfl rfl (Nat.le_of_ble_eq_true rfl) (Nat.le_of_ble_eq_true rfl) (s_X_refuse' (pr1 c1) <| show Ev G (d + 6) _ _ M_X_closest 13 [.ref 0, .int x1, ev_unk] [.int (-1 : Int32)] (xoS h (1 : Int32) fk2 fp3) R from
        Ev.ret (r := (some (.int (-1 : Int32)))) (Or.inl ⟨_, rfl, by decide +kernel, _, rfl, rfl⟩) (k1 c1)
      )
    ) (fun c1 =>
      Ev.go (pc' := 16) (ls' := [.ref 0, .int x1, ev_unk]) (st' := [.ref 0, .ref 0]) [.aload_n 0, .aload_n 0] (by decide +kernel) rfl <|
      Ev.getf f_X_10 (by decide +kernel) a3 rfl <|
      Ev.cV0 (M' := M_St_counting) (as := []) (rest := [.ref 0]) l_X_96 M_St_counting_ok M_St_counting_in M_St_counting_se (by decide +kernel) (r7 c1) rfl rfl rfl (Nat.le_of_ble_eq_true rfl) (Nat.le_of_ble_eq_true rfl) (s_St_counting (pr4 c1) (pr5 c1) (pr6 c1) <| show Ev G (d + 6) _ _ M_X_closest 22 [.ref 0, .int x1, ev_unk] [.int (setI (ctP S7)), .ref 0] h R from
        Ev.cV0 (M' := M_X_closestPair) (as := [.int (setI (ctP S7))]) (rest := []) l_X_251 M_X_closestPair_ok M_X_closestPair_in M_X_closestPair_se (by decide +kernel) ⟨_, a3⟩ rfl rfl rfl (Nat.le_of_ble_eq_true rfl) (Nat.le_of_ble_eq_true rfl) (s_X_closestPair (pr8 c1) (pr9 c1) (pr10 c1) (pr11 c1) <| show Ev G (d + 6) _ _ M_X_closest 25 [.ref 0, .int x1, ev_unk] [.int (cloN (clo S8 (bt (setI (ctP S7)))))] h R from
          Ev.go (pc' := 28) (ls' := [.ref 0, .int x1, .int (cloN (clo S8 (bt (setI (ctP S7)))))]) (st' := [.int (-1 : Int32), .int (cloN (clo S8 (bt (setI (ctP S7)))))]) [.istore_n 2, .iload_n 2, .iconst (-1)] (by decide +kernel) rfl <|
          Ev.br (i := .if_icmp .ne (9)) (P := (cloN (clo S8 (bt (setI (ctP S7))))) = (-1 : Int32)) (t := 31) (f := 37) (r := []) (by decide +kernel) rfl (fun c2 =>
            Ev.go (pc' := 33) (ls' := [.ref 0, .int x1, .int (cloN (clo S8 (bt (setI (ctP S7)))))]) (st' := [.int (5 : Int32), .ref 0]) [.aload_n 0, .iconst 5] (by decide +kernel) rfl <|
            Ev.cV0 (M' := M_X_refuse) (as := [.int (5 : Int32)]) (rest := []) l_X_67 M_X_refuse_ok M_X_refuse_in M_X_refuse_se (by decide +kernel) ⟨_, a3⟩ rfl rfl rfl (Nat.le_of_ble_eq_true rfl) (Nat.le_of_ble_eq_true rfl) (s_X_refuse' (pr12 c1 c2) <| show Ev G (d + 6) _ _ M_X_closest 36 [.ref 0, .int x1, .int (cloN (clo S8 (bt (setI (ctP S7)))))] [.int (-1 : Int32)] (xoS h (5 : Int32) fk13 fp14) R from
              Ev.ret (r := (some (.int (-1 : Int32)))) (Or.inl ⟨_, rfl, by decide +kernel, _, rfl, rfl⟩) (k2 c1 c2)
            )
          ) (fun c2 =>
            Ev.go (pc' := 40) (ls' := [.ref 0, .int x1, .int (cloN (clo S8 (bt (setI (ctP S7)))))]) (st' := [.int x1, .int (cloN (clo S8 (bt (setI (ctP S7))))), .ref 0]) [.aload_n 0, .iload_n 2, .iload_n 1] (by decide +kernel) rfl <|
            Ev.cS0 (M' := M_X_ofPacked) (as := [.int (cloN (clo S8 (bt (setI (ctP S7))))), .int x1]) (rest := [.ref 0]) l_X_248 M_X_ofPacked_ok M_X_ofPacked_st (by decide +kernel) rfl rfl (Nat.le_of_ble_eq_true rfl) (Nat.le_of_ble_eq_true rfl) (s_X_ofPacked (pr13 c1 c2) <| show Ev G (d + 6) _ _ M_X_closest 43 [.ref 0, .int x1, .int (cloN (clo S8 (bt (setI (ctP S7)))))] [.int (nI (opN q_15 x1)), .ref 0] h R from
              Ev.cV0 (M' := M_X_answer) (as := [.int (nI (opN q_15 x1))]) (rest := []) l_X_87 M_X_answer_ok M_X_answer_in M_X_answer_se (by decide +kernel) ⟨_, a3⟩ rfl rfl rfl (Nat.le_of_ble_eq_true rfl) (Nat.le_of_ble_eq_true rfl) (s_X_answer' (pr14 c1 c2) <| show Ev G (d + 6) _ _ M_X_closest 46 [.ref 0, .int x1, .int (cloN (clo S8 (bt (setI (ctP S7)))))] [.int (nI (opN q_15 x1))] (xoS h 0 fk17 fp18) R from
                Ev.ret (r := (some (.int (nI (opN q_15 x1))))) (Or.inl ⟨_, rfl, by decide +kernel, _, rfl, rfl⟩) (k3 c1 c2)
              )
            )
          )
        )
      )
    )
  )
def a_far1 (S : AS) (x : Int64) (j : Nat) : Nat := pop (sCo S j ^^^ x)
def a_rk (S : AS) (p : Nat → Bool) (x : Int64) : Nat × (Nat → Nat) × (Nat → Nat) := rkS p (a_far1 S x) 32
def a_ranked (S : AS) (x : Int64) (k : Int32) : Int32 × Int32 := if numB x (sB S) then (if k < 0 then (-1, 1) else if k < nI (a_rk S (ctP S) x).1 then (nI ((a_rk S (ctP S) x).2.1 (vN k)), 0) else (-1, 5)) else (-1, 1)
def a_D (S : AS) (o : Nat → Nat) (i j : Nat) : Nat := pop (sCo S (o i) ^^^ sCo S (o j))
def a_apart (S : AS) (x : Int64) (r k i : Int32) : Int32 × Int32 := if numB x (sB S) then (if inR r (sB S + 1) then (if k < 1 then (-1, 1) else if 32 < k then (-1, 1) else if i < 0 then (-1, 1) else if i < k then (if i < nI (a_rk S (a_nr S x (vN r)) x).1 then (nI ((a_rk S (a_nr S x (vN r)) x).2.1 (tkG (a_D S (a_rk S (a_nr S x (vN r)) x).2.1) (a_rk S (a_nr S x (vN r)) x).1 (vN i)).1), 0) else (-1, 5)) else (-1, 5)) else (-1, 1)) else (-1, 1)
def a_pairs (S : AS) (r : Int32) : Int32 × Int32 := if inR r (sB S + 1) then (nI (cnt (prP S (ctP S) (vN r)) 1024), 0) else (-1, 1)
def a_nth (S : AS) (r i : Int32) : Nat := nthT (prP S (ctP S) (vN r)) (vN i)
def a_pair (S : AS) (r i w : Int32) : Int32 × Int32 := if inR r (sB S + 1) then (if i < 0 then (-1, 1) else if decide (0 ≤ w ∧ w < (3 : Int32)) then (if a_nth S r i < 1024 then (nI (opN (twF S (a_nth S r i) * 1024 + a_nth S r i) w), 0) else (-1, 5)) else (-1, 1)) else (-1, 1)
def a_jn (S : AS) (r n : Nat) : Nat := sumT (fun i => if ctP S i then bLp (cstN (fun j => ctP S j && decide (i < j)) (sCo S) (sCo S i) (sBr S)) (sBr S) (sP S) 0 (r + 1) else 0) n
def a_joined (S : AS) (r : Int32) : Int32 × Int32 := if inR r (sB S + 1) then (nI (a_jn S (vN r) 32), 0) else (-1, 1)
def a_closest (S : AS) (w : Int32) : Int32 × Int32 := if decide (0 ≤ w ∧ w < (3 : Int32)) then (match clo S (ctP S) with
  | none => (-1, 5)
  | some q => (nI (opN (q.2 * 1024 + q.1) w), 0)) else (-1, 1)
theorem rkS_congr {p : Nat → Bool} {f g : Nat → Nat} (h : ∀ j, p j = true → f j = g j) : ∀ m, rkS p f m = rkS p g m
  | 0 => rfl
  | m + 1 => by
    have ih := rkS_congr h m
    unfold rkS
    cases q : p m
    · rw [ih]; rfl
    · rw [ih, h m q]
theorem rkS_p (p : Nat → Bool) (far : Nat → Nat) : ∀ m j, j < (rkS p far m).1 → p ((rkS p far m).2.1 j) = true
  | 0, j, h => absurd h (Nat.not_lt_zero j)
  | m + 1, j, h => by
    have ih := rkS_p p far m
    have e : rkS p far (m + 1) = if p m then ((rkS p far m).1 + 1, insF (rkS p far m).2.1 (ipos (rkS p far m).2.2 (far m) (rkS p far m).1) m, insF (rkS p far m).2.2 (ipos (rkS p far m).2.2 (far m) (rkS p far m).1) (far m)) else rkS p far m := rfl
    rw [e] at h ⊢
    cases q : p m
    · rw [q] at h
      simp only [Bool.false_eq_true, if_false] at h ⊢
      exact ih j h
    · rw [q] at h
      simp only [if_true] at h ⊢
      have hk := ipos_le (rkS p far m).2.2 (far m) (rkS p far m).1
      unfold insF
      by_cases c1 : j < ipos (rkS p far m).2.2 (far m) (rkS p far m).1
      · rw [if_pos c1]; exact ih j (by omega)
      · by_cases c2 : j = ipos (rkS p far m).2.2 (far m) (rkS p far m).1
        · rw [if_neg c1, if_pos c2]; exact q
        · rw [if_neg c1, if_neg c2]; exact ih (j - 1) (by omega)
theorem amx_congr {f g : Nat → Nat} : ∀ {n : Nat}, (∀ j, j ≤ n → f j = g j) → amx f n = amx g n
  | 0, _ => rfl
  | n + 1, h => by
    have ih := amx_congr (f := f) (g := g) (n := n) fun j hj => h j (by omega)
    have := amx_le g n
    unfold amx
    rw [ih, h (n + 1) (Nat.le_refl _), h (amx g n) (by omega)]
theorem tkG_congr {D E : Nat → Nat → Nat} {n : Nat} (hn : 0 < n) (h : ∀ i j, i < n → j < n → D i j = E i j) : ∀ i, (tkG D n i).1 = (tkG E n i).1 ∧ ∀ j, j < n → (tkG D n i).2 j = (tkG E n i).2 j
  | 0 => ⟨rfl, fun _ _ => rfl⟩
  | i + 1 => by
    obtain ⟨a, b⟩ := tkG_congr hn h i
    have hl := tkG_lt E hn i
    have e : ∀ j, j < n → min ((tkG D n i).2 j) (D j (tkG D n i).1) = min ((tkG E n i).2 j) (E j (tkG E n i).1) := fun j hj => by rw [b j hj, a, h j _ hj hl]
    exact ⟨amx_congr fun j hj => e j (by omega), e⟩
theorem bt_nr {S : AS} {p : Nat → Bool} {x : Int64} {r : Nat} (h : sN S ≤ 32) : bt (setI (nrP S p x r)) = nrP S p x r := by
  funext j
  rw [bt_setI]
  by_cases c : j < 32
  · rw [decide_eq_true c]; rfl
  · rw [decide_eq_false c]; unfold nrP; rw [decide_eq_false (by omega)]; rfl
theorem nrP_lt {S : AS} {p : Nat → Bool} {x : Int64} {r j : Nat} (h : nrP S p x r j = true) : j < sN S := by
  unfold nrP at h; simp only [Bool.and_eq_true, decide_eq_true_eq] at h; exact h.1.1
section S31
variable {G : ev_G} {d : Nat} {h h1 h2 : ev_H} {R : Option Value → ev_H → Prop} {Q : QS}
theorem s_rankQ {x : Int64} {p : Nat → Bool} (H : XR h Q) (hp : bt (setI p) = p) (hs : ∀ j, p j = true → j < sN (qS Q)) {cof : Nat → Int64} (t3 : hat h 3 (aL 32 cof)) (ec : ∀ j, j < sN (qS Q) → cof j = sCo (qS Q) j) (hR : ∀ h', Kg h h' 0 102 → XR h' Q → RaR h' (a_rk (qS Q) p x).1 (a_rk (qS Q) p x).2.1 (a_rk (qS Q) p x).2.2 → R none h') : Ev G (d + 2) 0 0 M_Ra_rank 0 [.ref 98, .ref 3, .int (setI p), .long x, ev_unk, ev_unk] [] h R := by
  obtain ⟨n0, o0, fr0, B⟩ := H.ra
  refine s_Ra_rank B t3 (by omega) fun h' K B' => ?_
  rw [hp, rkS_congr (g := a_far1 (qS Q) x) (fun j q => by rw [ec j (hs j q)]; rfl)] at B'
  exact hR h' (K.g.wide (by omega) (by omega)) (H.inRa (K.wide (by omega) (by omega)) ⟨_, _, _, B'⟩) B'
theorem s_X_ranked {x : Int64} {k : Int32} (H : XR h Q) (hR : ∀ h', Kg h h' 0 102 → XR h' (stQ Q (a_ranked (qS Q) x k).2) → R (some (.int (a_ranked (qS Q) x k).1)) h') : Ev G (d + 6) 0 0 M_X_ranked 0 [.ref 0, .long x, ev_unk, .int k] [] h R := by
  obtain ⟨brf, tgf, cof, fv, t1, t2, t3, t4, e1, e2, -⟩ := H.s
  refine b_X_ranked_0 H.x t1 H.x H.s ⟨_, H.x⟩ (fun c1 => H.x) (fun c1 => ⟨_, H.x⟩) (fun c1 c2 => H.x) (fun c1 c2 => ⟨_, H.x⟩) (fun c1 c2 => H.s) (fun c1 c2 => H.ok) (fun c1 c2 => H.fo) (fun c1 c2 => H.ra.obj) (fun c1 => H.fin (Kg.refl _ _ _) hR (by unfold a_ranked; rw [if_neg (b2i_f0 c1)])) (fun c1 c2 => H.fin (Kg.refl _ _ _) hR (by unfold a_ranked; rw [if_pos (b2i_n0 c1), if_pos c2])) (fun c1 c2 => ?_)
  refine s_rankQ H H.ctx (fun j q => ctP_lt q) t3 (fun j q => (e2 j q).1) fun h1 K1 H B => ?_
  have hn := B.1
  obtain ⟨b1, go, gf, gg, b2, b3, b4, b5, b6⟩ := B
  have vk : k < nI (a_rk (qS Q) (ctP (qS Q)) x).1 → k = nI (vN k) ∧ vN k < (a_rk (qS Q) (ctP (qS Q)) x).1 := fun z => vN_lt (by omega) (inR_of (by omega) c2 z)
  refine b_X_ranked_40 H.x b2 b3 (fun c1 => ⟨(vk c1).1, by have := (vk c1).2; omega, by decide⟩) (fun c1 => H.x) (fun c1 => H.x) (fun c1 => H.fin K1 hR (by rw [(b6 _ (vk ‹k < _›).2).1]; unfold a_ranked; rw [if_pos (b2i_n0 ‹¬ b2i _ = 0›), if_neg ‹¬ k < 0›, if_pos ‹k < nI _›])) (fun c1 => H.fin K1 hR (by unfold a_ranked; rw [if_pos (b2i_n0 ‹¬ b2i _ = 0›), if_neg ‹¬ k < 0›, if_neg ‹¬ k < nI _›]))
theorem s_X_apart {x : Int64} {r k i : Int32} (H : XR h Q) (hR : ∀ h', Kg h h' 0 102 → XR h' (stQ Q (a_apart (qS Q) x r k i).2) → R (some (.int (a_apart (qS Q) x r k i).1)) h') : Ev G (d + 6) 0 0 M_X_apart 0 [.ref 0, .long x, ev_unk, .int r, .int k, .int i] [] h R := by
  have hzB := H.szB
  have hz := H.szN
  obtain ⟨brf, tgf, cof, fv, t1, t2, t3, t4, e1, e2, -⟩ := H.s
  have rr : ¬ b2i (inR r (sB (qS Q) + 1)) = 0 → r = nI (vN r) ∧ vN r < 2147483648 := fun z => by have := inR_rad hzB (b2i_n0 z); exact ⟨this.1, by omega⟩
  refine b_X_apart_0 H.x t1 H.x H.s ⟨_, H.x⟩ (fun c1 => H.x) (fun c1 => ⟨_, H.x⟩) (fun c1 => H.x) (fun c1 => H.s) (fun c1 => H.ok) (fun c1 => ⟨_, H.x⟩) (fun c1 c2 => H.x) (fun c1 c2 => ⟨_, H.x⟩) (fun c1 c2 c3 => H.x) (fun c1 c2 c3 => ⟨_, H.x⟩) (fun c1 c2 c3 c4 => H.x) (fun c1 c2 c3 c4 => ⟨_, H.x⟩) (fun c1 c2 c3 c4 c5 => H.x) (fun c1 c2 c3 c4 c5 => ⟨_, H.x⟩) (fun c1 c2 c3 c4 c5 => H.s) (fun c1 c2 c3 c4 c5 => H.ok) (fun c1 c2 c3 c4 c5 => H.fo) (fun c1 c2 c3 c4 c5 => H.s) (fun c1 c2 c3 c4 c5 => H.ok) (fun c1 c2 c3 c4 c5 => rr c2) (fun c1 c2 c3 c4 c5 => H.ra.obj) (fun c1 => H.fin (Kg.refl _ _ _) hR (by unfold a_apart; rw [if_neg (b2i_f0 c1)])) (fun c1 c2 => H.fin (Kg.refl _ _ _) hR (by unfold a_apart; rw [if_pos (b2i_n0 c1), if_neg (b2i_f0 c2)])) (fun c1 c2 c3 => H.fin (Kg.refl _ _ _) hR (by unfold a_apart; rw [if_pos (b2i_n0 c1), if_pos (b2i_n0 c2), if_pos c3])) (fun c1 c2 c3 c4 => H.fin (Kg.refl _ _ _) hR (by unfold a_apart; rw [if_pos (b2i_n0 c1), if_pos (b2i_n0 c2), if_neg c3, if_pos c4])) (fun c1 c2 c3 c4 c5 => H.fin (Kg.refl _ _ _) hR (by unfold a_apart; rw [if_pos (b2i_n0 c1), if_pos (b2i_n0 c2), if_neg c3, if_neg c4, if_pos c5])) (fun c1 c2 c3 c4 c5 => ?_)
  have e : a_apart (qS Q) x r k i = if i < k then (if i < nI (a_rk (qS Q) (a_nr (qS Q) x (vN r)) x).1 then (nI ((a_rk (qS Q) (a_nr (qS Q) x (vN r)) x).2.1 (tkG (a_D (qS Q) (a_rk (qS Q) (a_nr (qS Q) x (vN r)) x).2.1) (a_rk (qS Q) (a_nr (qS Q) x (vN r)) x).1 (vN i)).1), 0) else (-1, 5)) else (-1, 5) := by unfold a_apart; rw [if_pos (b2i_n0 c1), if_pos (b2i_n0 c2), if_neg c3, if_neg c4, if_neg c5]
  rw [e] at hR
  rw [H.ctx, show nrP (qS Q) (ctP (qS Q)) x (vN r) = a_nr (qS Q) x (vN r) from rfl]
  have i0 := c5
  refine s_rankQ H (p := a_nr (qS Q) x (vN r)) (bt_nr hz) (fun j q => nrP_lt q) t3 (fun j q => (e2 j q).1) fun h1 K1 H B => ?_
  have hn := B.1
  obtain ⟨brf, tgf, cof, fv, t1, t2, t3, t4, e1, e2, -⟩ := H.s
  have B0 := B
  obtain ⟨b1, go, gf, gg, b2, b3, b4, b5, b6⟩ := B
  have vi : i < nI (a_rk (qS Q) (a_nr (qS Q) x (vN r)) x).1 → i = nI (vN i) ∧ vN i < (a_rk (qS Q) (a_nr (qS Q) x (vN r)) x).1 := fun z => vN_lt (by omega) (inR_of (by omega) i0 z)
  have ho : ∀ j, j < (a_rk (qS Q) (a_nr (qS Q) x (vN r)) x).1 → (a_rk (qS Q) (a_nr (qS Q) x (vN r)) x).2.1 j < sN (qS Q) := fun j hj => nrP_lt (rkS_p _ _ 32 j hj)
  refine b_X_apart_71 H.x b2 t1 (fun c1 c2 => H.x) (fun c1 => H.x) (fun c1 => ⟨_, H.x⟩) (fun c1 c2 => ?_) (fun c1 c2 => H.fin K1 hR (by rw [if_pos c1, if_neg c2])) (fun c1 => H.fin K1 hR (by rw [if_neg c1]))
  have vi := vi c2
  refine s_Ra_takenApart B0 (by omega) (fun j hj => by have := ho j hj; show (a_rk (qS Q) (a_nr (qS Q) x (vN r)) x).2.1 j < 32; omega) t3 (by omega) ⟨vi.1, by omega⟩ fun h2 K2 B2 => ?_
  have H : XR h2 Q := H.inRa (K2.wide (by omega) (by omega)) ⟨_, _, _, B2⟩
  refine b_X_apart_113 H.x ⟨_, H.x⟩ ?_
  refine H.fin (K1.trans (K2.g.wide (by omega) (by omega))) hR ?_
  rw [if_pos c1, if_pos c2]
  have q := (tkG_congr (n := (a_rk (qS Q) (a_nr (qS Q) x (vN r)) x).1) (D := fun i j => pop (cof ((a_rk (qS Q) (a_nr (qS Q) x (vN r)) x).2.1 i) ^^^ cof ((a_rk (qS Q) (a_nr (qS Q) x (vN r)) x).2.1 j))) (E := a_D (qS Q) (a_rk (qS Q) (a_nr (qS Q) x (vN r)) x).2.1) (by omega) (fun a b ha hb => by unfold a_D; show pop (_ ^^^ _) = _; rw [(e2 _ (ho a ha)).1, (e2 _ (ho b hb)).1]) (vN i)).1
  rw [← q]
theorem and_above {p : Nat → Bool} {i : Nat} (hi : i < 32) (hp : bt (setI p) = p) : bt (setI p &&& ((-2 : Int32) <<< (nI i &&& 31))) = fun j => p j && decide (i < j) := by
  funext j
  rw [b_and, hp]
  by_cases c : j < 32
  · rw [bt_above hi c]
  · have : p j = false := by rw [← hp]; exact b_big (by omega)
    rw [this]; rfl
theorem s_X_pairs {r : Int32} (H : XR h Q) (hR : ∀ h', Kg h h' 0 102 → XR h' (stQ Q (a_pairs (qS Q) r).2) → R (some (.int (a_pairs (qS Q) r).1)) h') : Ev G (d + 6) 0 0 M_X_pairs 0 [.ref 0, .int r, ev_unk, ev_unk, ev_unk] [] h R := by
  have hzB := H.szB
  have hz := H.szN
  refine b_X_pairs_0 H.x H.x H.s H.ok ⟨_, H.x⟩ (fun c1 => H.x) (fun c1 => ⟨_, H.x⟩) (fun c1 => H.s) (fun c1 => H.ok) (fun c1 => H.fo) (fun c1 => H.s.obj) (fun c1 => H.fin (Kg.refl _ _ _) hR (by unfold a_pairs; rw [if_neg (b2i_f0 c1)])) (fun c1 => ?_)
  have vr := inR_rad hzB (b2i_n0 c1)
  have e : a_pairs (qS Q) r = (nI (cnt (prP (qS Q) (ctP (qS Q)) (vN r)) 1024), 0) := by unfold a_pairs; rw [if_pos (b2i_n0 c1)]
  rw [e] at hR
  obtain ⟨brf, tgf, cof, fv, t1, t2, t3, t4, e1, e2, -⟩ := H.s
  have L := up0 (P := fun i => Ev G (d + 6) 0 0 M_X_pairs 27 [.ref 0, .int r, .int (setI (ctP (qS Q))), .int (nI (cnt (prP (qS Q) (ctP (qS Q)) (vN r)) (32 * i))), .int (nI i)] [] h R) 32 ?_ ?_
  · exact L
  · intro i hi ih
    have yes : nI i < (32 : Int32) := nI_lt hi (by decide)
    have sp : cnt (prP (qS Q) (ctP (qS Q)) (vN r)) (32 * (i + 1)) = cnt (prP (qS Q) (ctP (qS Q)) (vN r)) (32 * i) + cnt (fun j => prP (qS Q) (ctP (qS Q)) (vN r) (32 * i + j)) 32 := by rw [Nat.mul_succ, cnt_split]
    rw [sp] at ih
    refine b_X_pairs_27 H.x t1 t3 (fun c1 c2 => ixn hi (by decide)) (fun c1 c2 => H.s) (fun c1 c2 => H.ok) (fun c1 c2 => ⟨vr.1, by omega⟩) (fun c1 => H.x) (fun c1 => ⟨_, H.x⟩) (fun c1 c2 => ?_) (fun c1 c2 => ?_) (fun c1 => absurd yes c1)
    · have c2 := b2i_e0 c2
      rw [inI_n hi, H.ctx] at c2
      rw [cnt_zero (p := fun j => prP (qS Q) (ctP (qS Q)) (vN r) (32 * i + j)) (fun j hj => by show prP _ _ _ _ = false; rw [prP_at _ _ _ hj, c2]; simp), Nat.add_zero] at ih
      rw [nI_1]; exact ih
    · have c2 := b2i_n0 c2
      rw [inI_n hi, H.ctx] at c2
      rw [pop32_nr, and_above hi H.ctx, (e2 i (ctP_lt c2)).1, nI_1, nI_add]
      have ec : cnt (fun j => prP (qS Q) (ctP (qS Q)) (vN r) (32 * i + j)) 32 = cnt (nrP (qS Q) (fun j => ctP (qS Q) j && decide (i < j)) (sCo (qS Q) i) (vN r)) 32 := cnt_congr fun j hj => by
        show prP _ _ _ _ = (decide (j < sN (qS Q)) && (ctP (qS Q) j && decide (i < j)) && decide (pop (sCo (qS Q) j ^^^ sCo (qS Q) i) ≤ vN r))
        rw [prP_at _ _ _ hj, c2, Int64.xor_comm (sCo (qS Q) i)]
        cases q : ctP (qS Q) j
        · simp
        · rw [decide_eq_true (ctP_lt q)]; simp
      rw [ec] at ih
      exact ih
  · have no : ¬ nI 32 < (32 : Int32) := by decide
    refine b_X_pairs_27 (S10 := qS Q) (r_11 := 0) (j9 := 0) H.x t1 t3 (fun c1 c2 => absurd c1 no) (fun c1 c2 => H.s) (fun c1 c2 => H.ok) (fun c1 c2 => absurd c1 no) (fun c1 => H.x) (fun c1 => ⟨_, H.x⟩) (fun c1 c2 => absurd c1 no) (fun c1 c2 => absurd c1 no) (fun c1 => H.fin (Kg.refl _ _ _) hR rfl)
theorem opN_q {S : AS} {t : Nat} (ht : t < 1024) : twF S t * 1024 + t < 2147483648 := by
  have := pop_le (sCo S (t / 32) ^^^ sCo S (t % 32))
  unfold twF; omega
theorem nI_m1 {t : Nat} (ht : t < 2147483648) : ¬ nI t = -1 := fun z => by
  have : (nI t).toInt = (-1 : Int32).toInt := by rw [z]
  rw [nI_toInt ht, show (-1 : Int32).toInt = -1 from rfl] at this
  omega
theorem s_X_pair {r i w : Int32} (H : XR h Q) (hR : ∀ h', Kg h h' 0 102 → XR h' (stQ Q (a_pair (qS Q) r i w).2) → R (some (.int (a_pair (qS Q) r i w).1)) h') : Ev G (d + 6) 0 0 M_X_pair 0 [.ref 0, .int r, .int i, .int w, ev_unk] [] h R := by
  have hzB := H.szB
  have rr : ¬ b2i (inR r (sB (qS Q) + 1)) = 0 → r = nI (vN r) ∧ vN r < 2147483648 := fun z => by have := inR_rad hzB (b2i_n0 z); exact ⟨this.1, by omega⟩
  have vi : ¬ i < 0 → i = nI (vN i) ∧ vN i < 2147483648 := fun z => by
    obtain ⟨j, hj, rfl⟩ := nI_of z
    rw [vN_nI (by omega)]; exact ⟨rfl, hj⟩
  have hs : ∀ j, bt (setI (ctP (qS Q))) j = true → j < sN (qS Q) := fun j q => by rw [H.ctx] at q; exact ctP_lt q
  have en : nthT (prP (qS Q) (bt (setI (ctP (qS Q)))) (vN r)) (vN i) = a_nth (qS Q) r i := by rw [H.ctx]; rfl
  refine b_X_pair_0 (q_27 := twF (qS Q) (a_nth (qS Q) r i) * 1024 + a_nth (qS Q) r i) H.x H.x H.s H.ok ⟨_, H.x⟩ (fun c1 => H.x) (fun c1 => ⟨_, H.x⟩) (fun c1 c2 => H.x) (fun c1 c2 => ⟨_, H.x⟩) (fun c1 c2 c3 => H.x) (fun c1 c2 c3 => ⟨_, H.x⟩) (fun c1 c2 c3 => H.s) (fun c1 c2 c3 => H.ok) (fun c1 c2 c3 => H.fo) (fun c1 c2 c3 => H.s.obj) (fun c1 c2 c3 => H.x) (fun c1 c2 c3 => H.s) (fun c1 c2 c3 => H.ok) (fun c1 c2 c3 => hs) (fun c1 c2 c3 => rr c1) (fun c1 c2 c3 => vi c2) (fun c1 c2 c3 c4 => H.x) (fun c1 c2 c3 c4 => ?_) (fun c1 c2 c3 c4 => H.x) (fun c1 => H.fin (Kg.refl _ _ _) hR (by unfold a_pair; rw [if_neg (b2i_f0 c1)])) (fun c1 c2 => H.fin (Kg.refl _ _ _) hR (by unfold a_pair; rw [if_pos (b2i_n0 c1), if_pos c2])) (fun c1 c2 c3 => H.fin (Kg.refl _ _ _) hR (by unfold a_pair; rw [if_pos (b2i_n0 c1), if_neg c2, if_neg (b2i_f0 c3)])) (fun c1 c2 c3 c4 => ?_) (fun c1 c2 c3 c4 => ?_)
  · rw [en] at c4 ⊢
    by_cases q : a_nth (qS Q) r i < 1024
    · rw [if_pos q]; exact ⟨rfl, opN_q q⟩
    · rw [if_neg q] at c4; exact absurd rfl c4
  · rw [en] at c4
    refine H.fin (Kg.refl _ _ _) hR ?_
    unfold a_pair; rw [if_pos (b2i_n0 c1), if_neg c2, if_pos (b2i_n0 c3), if_neg (fun q => ?_)]
    rw [if_pos q] at c4
    exact nI_m1 (opN_q q) c4
  · rw [en] at c4
    refine H.fin (Kg.refl _ _ _) hR ?_
    unfold a_pair; rw [if_pos (b2i_n0 c1), if_neg c2, if_pos (b2i_n0 c3), if_pos]
    rcases Nat.lt_or_ge (a_nth (qS Q) r i) 1024 with q | q
    · exact q
    · rw [if_neg (by omega)] at c4; exact absurd rfl c4
theorem omin_some {q : Nat → Bool} {v : Nat → Nat} {n : Nat} {z : Nat × Nat} (h : omin q v n = some z) : z.1 < n ∧ z.2 = v z.1 := by
  obtain ⟨b, l⟩ := z
  have := omin_at h
  exact ⟨this.1, this.2.2⟩
theorem s_X_closest {w : Int32} (H : XR h Q) (hR : ∀ h', Kg h h' 0 102 → XR h' (stQ Q (a_closest (qS Q) w).2) → R (some (.int (a_closest (qS Q) w).1)) h') : Ev G (d + 6) 0 0 M_X_closest 0 [.ref 0, .int w, ev_unk] [] h R := by
  have hs : ∀ j, bt (setI (ctP (qS Q))) j = true → j < sN (qS Q) := fun j q => by rw [H.ctx] at q; exact ctP_lt q
  have g : ∀ {v : Int32} {l : Int32}, a_closest (qS Q) w = (v, l) → R (some (.int v)) (xoS h l (qFk Q) (qFp Q)) := fun e => H.fin (Kg.refl _ _ _) hR e
  unfold a_closest at g
  have hx := H.ctx
  cases q : clo (qS Q) (ctP (qS Q)) with
  | none =>
    rw [q] at g
    have ec : cloN (clo (qS Q) (bt (setI (ctP (qS Q))))) = -1 := by rw [hx, q]; rfl
    refine b_X_closest_0 (q_15 := 0) H.x (fun c1 => H.x) (fun c1 => ⟨_, H.x⟩) (fun c1 => H.s) (fun c1 => H.ok) (fun c1 => H.fo) (fun c1 => H.s.obj) (fun c1 => H.x) (fun c1 => H.s) (fun c1 => H.ok) (fun c1 => hs) (fun c1 c2 => H.x) (fun c1 c2 => absurd ec c2) (fun c1 c2 => H.x) (fun c1 => g (by rw [if_neg (b2i_f0 c1)])) (fun c1 c2 => g (by rw [if_pos (b2i_n0 c1)])) (fun c1 c2 => absurd ec c2)
  | some z =>
    rw [q] at g
    have ec : cloN (clo (qS Q) (bt (setI (ctP (qS Q))))) = nI (z.2 * 1024 + z.1) := by rw [hx, q]; rfl
    have hl : z.2 * 1024 + z.1 < 2147483648 := by
      have := omin_some q
      rw [this.2]; exact opN_q this.1
    have ne : ¬ cloN (clo (qS Q) (bt (setI (ctP (qS Q))))) = -1 := by rw [ec]; exact nI_m1 hl
    refine b_X_closest_0 (q_15 := z.2 * 1024 + z.1) H.x (fun c1 => H.x) (fun c1 => ⟨_, H.x⟩) (fun c1 => H.s) (fun c1 => H.ok) (fun c1 => H.fo) (fun c1 => H.s.obj) (fun c1 => H.x) (fun c1 => H.s) (fun c1 => H.ok) (fun c1 => hs) (fun c1 c2 => H.x) (fun c1 c2 => ⟨ec, hl⟩) (fun c1 c2 => H.x) (fun c1 => g (by rw [if_neg (b2i_f0 c1)])) (fun c1 c2 => absurd c2 ne) (fun c1 c2 => g (by rw [if_pos (b2i_n0 c1)]))
theorem s_X_joined {r : Int32} (H : XR h Q) (hR : ∀ h', Kg h h' 0 102 → XR h' (stQ Q (a_joined (qS Q) r).2) → R (some (.int (a_joined (qS Q) r).1)) h') : Ev G (d + 6) 0 0 M_X_joined 0 [.ref 0, .int r, ev_unk, ev_unk, ev_unk] [] h R := by
  have hzB := H.szB
  have hz := H.szN
  have o8 := H.ok.2.2.2.2.2.2.2
  refine b_X_joined_0 H.x H.x H.s H.ok ⟨_, H.x⟩ (fun c1 => H.x) (fun c1 => ⟨_, H.x⟩) (fun c1 => H.s) (fun c1 => H.ok) (fun c1 => H.fo) (fun c1 => H.s.obj) (fun c1 => H.bu.obj) (fun c1 => H.fin (Kg.refl _ _ _) hR (by unfold a_joined; rw [if_neg (b2i_f0 c1)])) (fun c1 => ?_)
  have vr := inR_rad hzB (b2i_n0 c1)
  have e : a_joined (qS Q) r = (nI (a_jn (qS Q) (vN r) 32), 0) := by unfold a_joined; rw [if_pos (b2i_n0 c1)]
  rw [e] at hR
  refine s_partQ H fun h1 K1 H1 B1 => b_X_joined_35 ?_
  have L := up0 (P := fun i => ∀ h1, Kg h h1 0 102 → XR h1 Q → (∃ c kc r lo, BuP h1 (sP (qS Q)) (sBr (qS Q)) c kc r lo) → Ev G (d + 6) 0 0 M_X_joined 38 [.ref 0, .int r, .int (setI (ctP (qS Q))), .int (nI (a_jn (qS Q) (vN r) i)), .int (nI i)] [] h1 R) 32 ?_ ?_
  · exact L h1 K1 H1 ⟨_, _, _, _, B1 (fun _ _ => 0) 0⟩
  · intro i hi ih h1 K1 H B1
    obtain ⟨brf, tgf, cof, fv, t1, t2, t3, t4, e1, e2, -⟩ := H.s
    obtain ⟨c0, kc0, r0, lo0, B1⟩ := B1
    have yes : nI i < (32 : Int32) := nI_lt hi (by decide)
    have st : a_jn (qS Q) (vN r) (i + 1) = a_jn (qS Q) (vN r) i + if ctP (qS Q) i then bLp (cstN (fun j => ctP (qS Q) j && decide (i < j)) (sCo (qS Q)) (sCo (qS Q) i) (sBr (qS Q))) (sBr (qS Q)) (sP (qS Q)) 0 (vN r + 1) else 0 := rfl
    rw [st] at ih
    refine b_X_joined_38 H.x t1 t3 (fun c1 c2 => ixn hi (by decide)) (fun c1 c2 => H.bu.obj) (fun c1 => H.x) (fun c1 => ⟨_, H.x⟩) (fun c1 c2 => ?_) (fun c1 c2 => ?_) (fun c1 => absurd yes c1)
    · have c2 := b2i_e0 c2
      rw [inI_n hi, H.ctx] at c2
      rw [c2] at ih
      rw [nI_1]; exact ih h1 K1 H ⟨_, _, _, _, B1⟩
    · have c2 := b2i_n0 c2
      rw [inI_n hi, H.ctx] at c2
      rw [(e2 i (ctP_lt c2)).1]
      have hx := H.ctx
      refine s_X_plan B1 H.s (fun j hj => ?_) (by rw [o8]; exact hzB) ⟨vr.1, by omega⟩ fun h2 K2 B2 _ => b_X_joined_87 ?_
      · rw [and_above hi hx, Bool.and_eq_true] at hj
        exact ctP_lt hj.1
      rw [if_pos c2] at ih
      rw [and_above hi hx, nI_add, nI_1]
      exact ih h2 (K1.trans (K2.g.wide (by omega) (by omega))) (H.inBu (K2.wide (by omega) (by omega)) ⟨_, _, _, _, _, _, B2⟩) ⟨_, _, _, _, B2⟩
  · intro h1 K1 H B1
    obtain ⟨brf, tgf, cof, fv, t1, t2, t3, t4, e1, e2, -⟩ := H.s
    have no : ¬ nI 32 < (32 : Int32) := by decide
    refine b_X_joined_38 (j9 := 0) H.x t1 t3 (fun c1 c2 => absurd c1 no) (fun c1 c2 => H.bu.obj) (fun c1 => H.x) (fun c1 => ⟨_, H.x⟩) (fun c1 c2 => absurd c1 no) (fun c1 c2 => absurd c1 no) (fun c1 => H.fin K1 hR rfl)
end S31
