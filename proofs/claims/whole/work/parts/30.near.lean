/-! BY A NUMBER AND A RADIUS: budgets -/
theorem b_X_budget_0 {G : ev_G} {d k n : Nat} {h : ev_H} {R : Option Value → ev_H → Prop} {x1 : Int64} {x3 : Int32} {x4 : Int32} {S1 : AS} {la2 : Int32} {fk3 : Int32} {fp4 : Int32} {la5 : Int32} {fk6 : Int32} {fp7 : Int32} {S8 : AS} {la9 : Int32} {fk10 : Int32} {fp11 : Int32} {la12 : Int32} {fk13 : Int32} {fp14 : Int32} {S15 : AS} {la16 : Int32} {fk17 : Int32} {fp18 : Int32} {la19 : Int32} {fk20 : Int32} {fp21 : Int32} {f_latest_22 : Int32} {f_faultKind_23 : Int32} {f_faultPlace_24 : Int32}
  (a18 : hat h 0 (oC 8 [.ref 1, .ref 5, .ref 18, .ref 81, .ref 98, .int f_latest_22, .int f_faultKind_23, .int f_faultPlace_24]))
  (pr1 : XO h la2 fk3 fp4)
  (pr2 : StR h 1 S1)
  (r3 : ∃ fs, hat h 0 (oC 8 fs))
  (pr4 : (b2i (numB x1 (sB S1))) = (0 : Int32) → XO h la5 fk6 fp7)
  (r5 : (b2i (numB x1 (sB S1))) = (0 : Int32) → ∃ fs, hat h 0 (oC 8 fs))
  (pr6 : ¬ (b2i (numB x1 (sB S1))) = (0 : Int32) → XO h la9 fk10 fp11)
  (pr7 : ¬ (b2i (numB x1 (sB S1))) = (0 : Int32) → StR h 1 S8)
  (pr8 : ¬ (b2i (numB x1 (sB S1))) = (0 : Int32) → sOk S8)
  (r9 : ¬ (b2i (numB x1 (sB S1))) = (0 : Int32) → ∃ fs, hat h 0 (oC 8 fs))
  (pr10 : ¬ (b2i (numB x1 (sB S1))) = (0 : Int32) → (b2i (inR x3 (sB S8 + 1))) = (0 : Int32) → XO h la12 fk13 fp14)
  (r11 : ¬ (b2i (numB x1 (sB S1))) = (0 : Int32) → (b2i (inR x3 (sB S8 + 1))) = (0 : Int32) → ∃ fs, hat h 0 (oC 8 fs))
  (pr12 : ¬ (b2i (numB x1 (sB S1))) = (0 : Int32) → ¬ (b2i (inR x3 (sB S8 + 1))) = (0 : Int32) → XO h la16 fk17 fp18)
  (pr13 : ¬ (b2i (numB x1 (sB S1))) = (0 : Int32) → ¬ (b2i (inR x3 (sB S8 + 1))) = (0 : Int32) → StR h 1 S15)
  (pr14 : ¬ (b2i (numB x1 (sB S1))) = (0 : Int32) → ¬ (b2i (inR x3 (sB S8 + 1))) = (0 : Int32) → sOk S15)
  (r15 : ¬ (b2i (numB x1 (sB S1))) = (0 : Int32) → ¬ (b2i (inR x3 (sB S8 + 1))) = (0 : Int32) → ∃ fs, hat h 0 (oC 8 fs))
  (pr16 : ¬ (b2i (numB x1 (sB S1))) = (0 : Int32) → ¬ (b2i (inR x3 (sB S8 + 1))) = (0 : Int32) → (b2i (inR x4 (sP S15))) = (0 : Int32) → XO h la19 fk20 fp21)
  (r17 : ¬ (b2i (numB x1 (sB S1))) = (0 : Int32) → ¬ (b2i (inR x3 (sB S8 + 1))) = (0 : Int32) → (b2i (inR x4 (sP S15))) = (0 : Int32) → ∃ fs, hat h 0 (oC 8 fs))
  (r19 : ¬ (b2i (numB x1 (sB S1))) = (0 : Int32) → ¬ (b2i (inR x3 (sB S8 + 1))) = (0 : Int32) → ¬ (b2i (inR x4 (sP S15))) = (0 : Int32) → ∃ fs, hat h 81 (oC 0 fs))
  (k1 : (b2i (numB x1 (sB S1))) = (0 : Int32) → R (some (.int (-1 : Int32))) (xoS h (1 : Int32) fk6 fp7))
  (k2 : ¬ (b2i (numB x1 (sB S1))) = (0 : Int32) → (b2i (inR x3 (sB S8 + 1))) = (0 : Int32) → R (some (.int (-1 : Int32))) (xoS h (1 : Int32) fk13 fp14))
  (k3 : ¬ (b2i (numB x1 (sB S1))) = (0 : Int32) → ¬ (b2i (inR x3 (sB S8 + 1))) = (0 : Int32) → (b2i (inR x4 (sP S15))) = (0 : Int32) → R (some (.int (-1 : Int32))) (xoS h (2 : Int32) fk20 fp21))
  (k4 : ¬ (b2i (numB x1 (sB S1))) = (0 : Int32) → ¬ (b2i (inR x3 (sB S8 + 1))) = (0 : Int32) → ¬ (b2i (inR x4 (sP S15))) = (0 : Int32) → Ev G (d + 5) 0 0 M_Bu_partLike 0 [.ref 81, .ref 1] [] h (fun r h1 => Ev G (d + 6) k n M_X_budget 48 [.ref 0, .long x1, ev_unk, .int x3, .int x4] (r.toList ++ []) h1 R))
  : Ev G (d + 6) k n M_X_budget 0 [.ref 0, .long x1, ev_unk, .int x3, .int x4] [] h R :=
  Ev.go (pc' := 2) (ls' := [.ref 0, .long x1, ev_unk, .int x3, .int x4]) (st' := [.long x1, .ref 0]) [.aload_n 0, .lload_n 1] (by decide +kernel) rfl <|
  Ev.cV0 (M' := M_X_isNumber) (as := [.long x1]) (rest := []) l_X_140 M_X_isNumber_ok M_X_isNumber_in M_X_isNumber_se (by decide +kernel) r3 rfl rfl rfl (Nat.le_of_ble_eq_true rfl) (Nat.le_of_ble_eq_true rfl) (s_X_isNumber pr1 pr2 <| show Ev G (d + 6) _ _ M_X_budget 5 [.ref 0, .long x1, ev_unk, .int x3, .int x4] [.int (b2i (numB x1 (sB S1)))] h R from
    Ev.br (i := .ifCond .eq (11)) (P := (b2i (numB x1 (sB S1))) = (0 : Int32)) (t := 16) (f := 8) (r := []) (by decide +kernel) rfl (fun c1 =>
      Ev.go (pc' := 18) (ls' := [.ref 0, .long x1, ev_unk, .int x3, .int x4]) (st' := [.int (1 : Int32), .ref 0]) [.aload_n 0, .iconst 1] (by decide +kernel) rfl <|
      Ev.cV0 (M' := M_X_refuse) (as := [.int (1 : Int32)]) (rest := []) l_X_67 M_X_refuse_ok M_X_refuse_in M_X_refuse_se (by decide +kernel) (r5 c1) rfl rfl rfl (Nat.le_of_ble_eq_true rfl) (Nat.le_of_ble_eq_true rfl) (s_X_refuse' (pr4 c1) <| show Ev G (d + 6) _ _ M_X_budget 21 [.ref 0, .long x1, ev_unk, .int x3, .int x4] [.int (-1 : Int32)] (xoS h (1 : Int32) fk6 fp7) R from
        Ev.ret (r := (some (.int (-1 : Int32)))) (Or.inl ⟨_, rfl, by decide +kernel, _, rfl, rfl⟩) (k1 c1)
      )
    ) (fun c1 =>
      Ev.go (pc' := 10) (ls' := [.ref 0, .long x1, ev_unk, .int x3, .int x4]) (st' := [.int x3, .ref 0]) [.aload_n 0, .iload_n 3] (by decide +kernel) rfl <|
      Ev.cV0 (M' := M_X_isRadius) (as := [.int x3]) (rest := []) l_X_192 M_X_isRadius_ok M_X_isRadius_in M_X_isRadius_se (by decide +kernel) (r9 c1) rfl rfl rfl (Nat.le_of_ble_eq_true rfl) (Nat.le_of_ble_eq_true rfl) (s_X_isRadius (pr6 c1) (pr7 c1) (pr8 c1) <| show Ev G (d + 6) _ _ M_X_budget 13 [.ref 0, .long x1, ev_unk, .int x3, .int x4] [.int (b2i (inR x3 (sB S8 + 1)))] h R from
        Ev.br (i := .ifCond .ne (9)) (P := (b2i (inR x3 (sB S8 + 1))) = (0 : Int32)) (t := 16) (f := 22) (r := []) (by decide +kernel) rfl (fun c2 =>
          Ev.go (pc' := 18) (ls' := [.ref 0, .long x1, ev_unk, .int x3, .int x4]) (st' := [.int (1 : Int32), .ref 0]) [.aload_n 0, .iconst 1] (by decide +kernel) rfl <|
          Ev.cV0 (M' := M_X_refuse) (as := [.int (1 : Int32)]) (rest := []) l_X_67 M_X_refuse_ok M_X_refuse_in M_X_refuse_se (by decide +kernel) (r11 c1 c2) rfl rfl rfl (Nat.le_of_ble_eq_true rfl) (Nat.le_of_ble_eq_true rfl) (s_X_refuse' (pr10 c1 c2) <| show Ev G (d + 6) _ _ M_X_budget 21 [.ref 0, .long x1, ev_unk, .int x3, .int x4] [.int (-1 : Int32)] (xoS h (1 : Int32) fk13 fp14) R from
            Ev.ret (r := (some (.int (-1 : Int32)))) (Or.inl ⟨_, rfl, by decide +kernel, _, rfl, rfl⟩) (k2 c1 c2)
          )
        ) (fun c2 =>
          Ev.go (pc' := 25) (ls' := [.ref 0, .long x1, ev_unk, .int x3, .int x4]) (st' := [.int x4, .ref 0]) [.aload_n 0, .iload 4] (by decide +kernel) rfl <|
          Ev.cV0 (M' := M_X_isPart) (as := [.int x4]) (rest := []) l_X_130 M_X_isPart_ok M_X_isPart_in M_X_isPart_se (by decide +kernel) (r15 c1 c2) rfl rfl rfl (Nat.le_of_ble_eq_true rfl) (Nat.le_of_ble_eq_true rfl) (s_X_isPart (pr12 c1 c2) (pr13 c1 c2) (pr14 c1 c2) <| show Ev G (d + 6) _ _ M_X_budget 28 [.ref 0, .long x1, ev_unk, .int x3, .int x4] [.int (b2i (inR x4 (sP S15)))] h R from
            Ev.br (i := .ifCond .ne (9)) (P := (b2i (inR x4 (sP S15))) = (0 : Int32)) (t := 31) (f := 37) (r := []) (by decide +kernel) rfl (fun c3 =>
              Ev.go (pc' := 33) (ls' := [.ref 0, .long x1, ev_unk, .int x3, .int x4]) (st' := [.int (2 : Int32), .ref 0]) [.aload_n 0, .iconst 2] (by decide +kernel) rfl <|
              Ev.cV0 (M' := M_X_refuse) (as := [.int (2 : Int32)]) (rest := []) l_X_67 M_X_refuse_ok M_X_refuse_in M_X_refuse_se (by decide +kernel) (r17 c1 c2 c3) rfl rfl rfl (Nat.le_of_ble_eq_true rfl) (Nat.le_of_ble_eq_true rfl) (s_X_refuse' (pr16 c1 c2 c3) <| show Ev G (d + 6) _ _ M_X_budget 36 [.ref 0, .long x1, ev_unk, .int x3, .int x4] [.int (-1 : Int32)] (xoS h (2 : Int32) fk20 fp21) R from
                Ev.ret (r := (some (.int (-1 : Int32)))) (Or.inl ⟨_, rfl, by decide +kernel, _, rfl, rfl⟩) (k3 c1 c2 c3)
              )
            ) (fun c3 =>
              Ev.go (pc' := 38) (ls' := [.ref 0, .long x1, ev_unk, .int x3, .int x4]) (st' := [.ref 0]) [.aload_n 0] (by decide +kernel) rfl <|
              Ev.getf f_X_33 (by decide +kernel) a18 rfl <|
              Ev.go (pc' := 42) (ls' := [.ref 0, .long x1, ev_unk, .int x3, .int x4]) (st' := [.ref 0, .ref 81]) [.aload_n 0] (by decide +kernel) rfl <|
              Ev.getf f_X_10 (by decide +kernel) a18 rfl <|
              Ev.cV0 (M' := M_Bu_partLike) (as := [.ref 1]) (rest := []) l_X_195 M_Bu_partLike_ok M_Bu_partLike_in M_Bu_partLike_se (by decide +kernel) (r19 c1 c2 c3) rfl rfl rfl (Nat.le_of_ble_eq_true rfl) (Nat.le_of_ble_eq_true rfl) (k4 c1 c2 c3)
            )
          )
        )
      )
    )
  )
theorem b_X_budget_48 {G : ev_G} {d k n : Nat} {h : ev_H} {R : Option Value → ev_H → Prop} {x1 : Int64} {x3 : Int32} {x4 : Int32} {f_latest_1 : Int32} {f_faultKind_2 : Int32} {f_faultPlace_3 : Int32} {f_bits_4 : Int32} {f_parts_5 : Int32} {f_size_6 : Int32} {fv7 : Value} {S8 : AS}
  (a1 : hat h 0 (oC 8 [.ref 1, .ref 5, .ref 18, .ref 81, .ref 98, .int f_latest_1, .int f_faultKind_2, .int f_faultPlace_3]))
  (a2 : hat h 1 (oC 6 [.int f_bits_4, .int f_parts_5, .ref 2, .int f_size_6, .ref 3, .ref 4, fv7]))
  (pr3 : StR h 1 S8)
  (pr4 : sOk S8)
  (pr5 : sFl S8 = [] ∨ flOk (sFl S8))
  (r6 : ∃ fs, hat h 81 (oC 0 fs))
  (k1 : Ev G (d + 5) 0 0 M_Bu_plan 0 [.ref 81, .ref 3, .int (setI (ctP S8)), .long x1, ev_unk, .int x3] [] h (fun r h1 => Ev G (d + 6) k n M_X_budget 71 [.ref 0, .long x1, ev_unk, .int x3, .int x4] (r.toList ++ []) h1 R))
  : Ev G (d + 6) k n M_X_budget 48 [.ref 0, .long x1, ev_unk, .int x3, .int x4] [] h R :=
  Ev.go (pc' := 49) (ls' := [.ref 0, .long x1, ev_unk, .int x3, .int x4]) (st' := [.ref 0]) [.aload_n 0] (by decide +kernel) rfl <|
  Ev.getf f_X_33 (by decide +kernel) a1 rfl <|
  Ev.go (pc' := 53) (ls' := [.ref 0, .long x1, ev_unk, .int x3, .int x4]) (st' := [.ref 0, .ref 81]) [.aload_n 0] (by decide +kernel) rfl <|
  Ev.getf f_X_10 (by decide +kernel) a1 rfl <|
  Ev.getf f_X_118 (by decide +kernel) a2 rfl <|
  Ev.go (pc' := 60) (ls' := [.ref 0, .long x1, ev_unk, .int x3, .int x4]) (st' := [.ref 0, .ref 3, .ref 81]) [.aload_n 0] (by decide +kernel) rfl <|
  Ev.getf f_X_10 (by decide +kernel) a1 rfl <|
  Ev.cV0 (M' := M_St_counting) (as := []) (rest := [.ref 3, .ref 81]) l_X_96 M_St_counting_ok M_St_counting_in M_St_counting_se (by decide +kernel) ⟨_, a2⟩ rfl rfl rfl (Nat.le_of_ble_eq_true rfl) (Nat.le_of_ble_eq_true rfl) (s_St_counting pr3 pr4 pr5 <| show Ev G (d + 6) _ _ M_X_budget 66 [.ref 0, .long x1, ev_unk, .int x3, .int x4] [.int (setI (ctP S8)), .ref 3, .ref 81] h R from
    Ev.go (pc' := 68) (ls' := [.ref 0, .long x1, ev_unk, .int x3, .int x4]) (st' := [.int x3, .long x1, .int (setI (ctP S8)), .ref 3, .ref 81]) [.lload_n 1, .iload_n 3] (by decide +kernel) rfl <|
    Ev.cV0 (M' := M_Bu_plan) (as := [.ref 3, .int (setI (ctP S8)), .long x1, .int x3]) (rest := []) l_X_198 M_Bu_plan_ok M_Bu_plan_in M_Bu_plan_se (by decide +kernel) r6 rfl rfl rfl (Nat.le_of_ble_eq_true rfl) (Nat.le_of_ble_eq_true rfl) k1
  )
theorem b_X_budget_71 {G : ev_G} {d k n : Nat} {h : ev_H} {R : Option Value → ev_H → Prop} {x1 : Int64} {x3 : Int32} {x4 : Int32} {y0 : Int32} {f_latest_1 : Int32} {f_faultKind_2 : Int32} {f_faultPlace_3 : Int32} {f_parts_4 : Int32} {g5 : Nat → Int32} {j6 : Nat} {la7 : Int32} {fk8 : Int32} {fp9 : Int32}
  (a1 : hat h 0 (oC 8 [.ref 1, .ref 5, .ref 18, .ref 81, .ref 98, .int f_latest_1, .int f_faultKind_2, .int f_faultPlace_3]))
  (a2 : hat h 81 (oC 0 [.ref 82, .int f_parts_4, .ref 83, .ref 90, .ref 97]))
  (a3 : hat h 97 (aI 6 g5))
  (i4 : ev_ix x4 j6 6)
  (pr5 : XO h la7 fk8 fp9)
  (k1 : R (some (.int (g5 j6))) (xoS h 0 fk8 fp9))
  : Ev G (d + 6) k n M_X_budget 71 [.ref 0, .long x1, ev_unk, .int x3, .int x4] [.int y0] h R :=
  Ev.go (pc' := 74) (ls' := [.ref 0, .long x1, ev_unk, .int x3, .int x4]) (st' := [.ref 0, .ref 0]) [.pop, .aload_n 0, .aload_n 0] (by decide +kernel) rfl <|
  Ev.getf f_X_33 (by decide +kernel) a1 rfl <|
  Ev.getf f_X_202 (by decide +kernel) a2 rfl <|
  Ev.go (pc' := 82) (ls' := [.ref 0, .long x1, ev_unk, .int x3, .int x4]) (st' := [.int x4, .ref 97, .ref 0]) [.iload 4] (by decide +kernel) rfl <|
  Ev.iald (j := j6) (by decide +kernel) a3 i4 <|
  Ev.cV0 (M' := M_X_answer) (as := [.int (g5 j6)]) (rest := []) l_X_87 M_X_answer_ok M_X_answer_in M_X_answer_se (by decide +kernel) ⟨_, a1⟩ rfl rfl rfl (Nat.le_of_ble_eq_true rfl) (Nat.le_of_ble_eq_true rfl) (s_X_answer' pr5 <| show Ev G (d + 6) _ _ M_X_budget 86 [.ref 0, .long x1, ev_unk, .int x3, .int x4] [.int (g5 j6)] (xoS h 0 fk8 fp9) R from
    Ev.ret (r := (some (.int (g5 j6)))) (Or.inl ⟨_, rfl, by decide +kernel, _, rfl, rfl⟩) k1
  )
theorem b_X_cost_0 {G : ev_G} {d k n : Nat} {h : ev_H} {R : Option Value → ev_H → Prop} {x1 : Int64} {x3 : Int32} {x4 : Int32} {S1 : AS} {la2 : Int32} {fk3 : Int32} {fp4 : Int32} {la5 : Int32} {fk6 : Int32} {fp7 : Int32} {la8 : Int32} {fk9 : Int32} {fp10 : Int32} {S11 : AS} {la12 : Int32} {fk13 : Int32} {fp14 : Int32} {f_latest_15 : Int32} {f_faultKind_16 : Int32} {f_faultPlace_17 : Int32} {f_bits_18 : Int32} {f_parts_19 : Int32} {f_size_20 : Int32} {fv21 : Value} {g22 : Nat → Int32} {j23 : Nat} {la24 : Int32} {fk25 : Int32} {fp26 : Int32}
  (a12 : hat h 0 (oC 8 [.ref 1, .ref 5, .ref 18, .ref 81, .ref 98, .int f_latest_15, .int f_faultKind_16, .int f_faultPlace_17]))
  (a13 : hat h 1 (oC 6 [.int f_bits_18, .int f_parts_19, .ref 2, .int f_size_20, .ref 3, .ref 4, fv21]))
  (a14 : hat h 2 (aI 6 g22))
  (pr1 : XO h la2 fk3 fp4)
  (pr2 : StR h 1 S1)
  (r3 : ∃ fs, hat h 0 (oC 8 fs))
  (pr4 : (b2i (numB x1 (sB S1))) = (0 : Int32) → XO h la5 fk6 fp7)
  (r5 : (b2i (numB x1 (sB S1))) = (0 : Int32) → ∃ fs, hat h 0 (oC 8 fs))
  (pr6 : ¬ (b2i (numB x1 (sB S1))) = (0 : Int32) → x4 < (-1 : Int32) → XO h la8 fk9 fp10)
  (r7 : ¬ (b2i (numB x1 (sB S1))) = (0 : Int32) → x4 < (-1 : Int32) → ∃ fs, hat h 0 (oC 8 fs))
  (pr8 : ¬ (b2i (numB x1 (sB S1))) = (0 : Int32) → ¬ x4 < (-1 : Int32) → XO h la12 fk13 fp14)
  (pr9 : ¬ (b2i (numB x1 (sB S1))) = (0 : Int32) → ¬ x4 < (-1 : Int32) → StR h 1 S11)
  (pr10 : ¬ (b2i (numB x1 (sB S1))) = (0 : Int32) → ¬ x4 < (-1 : Int32) → sOk S11)
  (r11 : ¬ (b2i (numB x1 (sB S1))) = (0 : Int32) → ¬ x4 < (-1 : Int32) → ∃ fs, hat h 0 (oC 8 fs))
  (i15 : ¬ (b2i (numB x1 (sB S1))) = (0 : Int32) → ¬ x4 < (-1 : Int32) → ¬ (b2i (inR x3 (sP S11))) = (0 : Int32) → ev_ix x3 j23 6)
  (pr16 : ¬ (b2i (numB x1 (sB S1))) = (0 : Int32) → ¬ x4 < (-1 : Int32) → ¬ (b2i (inR x3 (sP S11))) = (0 : Int32) → (g22 j23) < x4 → XO h la24 fk25 fp26)
  (k1 : (b2i (numB x1 (sB S1))) = (0 : Int32) → R (some (.int (-1 : Int32))) (xoS h (1 : Int32) fk6 fp7))
  (k2 : ¬ (b2i (numB x1 (sB S1))) = (0 : Int32) → x4 < (-1 : Int32) → R (some (.int (-1 : Int32))) (xoS h (1 : Int32) fk9 fp10))
  (k3 : ¬ (b2i (numB x1 (sB S1))) = (0 : Int32) → ¬ x4 < (-1 : Int32) → (b2i (inR x3 (sP S11))) = (0 : Int32) → Ev G (d + 6) k n M_X_cost 42 [.ref 0, .long x1, ev_unk, .int x3, .int x4] [] h R)
  (k4 : ¬ (b2i (numB x1 (sB S1))) = (0 : Int32) → ¬ x4 < (-1 : Int32) → ¬ (b2i (inR x3 (sP S11))) = (0 : Int32) → (g22 j23) < x4 → R (some (.int (-1 : Int32))) (xoS h (1 : Int32) fk25 fp26))
  (k5 : ¬ (b2i (numB x1 (sB S1))) = (0 : Int32) → ¬ x4 < (-1 : Int32) → ¬ (b2i (inR x3 (sP S11))) = (0 : Int32) → ¬ (g22 j23) < x4 → Ev G (d + 6) k n M_X_cost 42 [.ref 0, .long x1, ev_unk, .int x3, .int x4] [] h R)
  : Ev G (d + 6) k n M_X_cost 0 [.ref 0, .long x1, ev_unk, .int x3, .int x4] [] h R :=
  Ev.go (pc' := 2) (ls' := [.ref 0, .long x1, ev_unk, .int x3, .int x4]) (st' := [.long x1, .ref 0]) [.aload_n 0, .lload_n 1] (by decide +kernel) rfl <|
  Ev.cV0 (M' := M_X_isNumber) (as := [.long x1]) (rest := []) l_X_140 M_X_isNumber_ok M_X_isNumber_in M_X_isNumber_se (by decide +kernel) r3 rfl rfl rfl (Nat.le_of_ble_eq_true rfl) (Nat.le_of_ble_eq_true rfl) (s_X_isNumber pr1 pr2 <| show Ev G (d + 6) _ _ M_X_cost 5 [.ref 0, .long x1, ev_unk, .int x3, .int x4] [.int (b2i (numB x1 (sB S1)))] h R from
    Ev.br (i := .ifCond .eq (31)) (P := (b2i (numB x1 (sB S1))) = (0 : Int32)) (t := 36) (f := 8) (r := []) (by decide +kernel) rfl (fun c1 =>
      Ev.go (pc' := 38) (ls' := [.ref 0, .long x1, ev_unk, .int x3, .int x4]) (st' := [.int (1 : Int32), .ref 0]) [.aload_n 0, .iconst 1] (by decide +kernel) rfl <|
      Ev.cV0 (M' := M_X_refuse) (as := [.int (1 : Int32)]) (rest := []) l_X_67 M_X_refuse_ok M_X_refuse_in M_X_refuse_se (by decide +kernel) (r5 c1) rfl rfl rfl (Nat.le_of_ble_eq_true rfl) (Nat.le_of_ble_eq_true rfl) (s_X_refuse' (pr4 c1) <| show Ev G (d + 6) _ _ M_X_cost 41 [.ref 0, .long x1, ev_unk, .int x3, .int x4] [.int (-1 : Int32)] (xoS h (1 : Int32) fk6 fp7) R from
        Ev.ret (r := (some (.int (-1 : Int32)))) (Or.inl ⟨_, rfl, by decide +kernel, _, rfl, rfl⟩) (k1 c1)
      )
    ) (fun c1 =>
      Ev.go (pc' := 11) (ls' := [.ref 0, .long x1, ev_unk, .int x3, .int x4]) (st' := [.int (-1 : Int32), .int x4]) [.iload 4, .iconst (-1)] (by decide +kernel) rfl <|
      Ev.br (i := .if_icmp .lt (25)) (P := x4 < (-1 : Int32)) (t := 36) (f := 14) (r := []) (by decide +kernel) rfl (fun c2 =>
        Ev.go (pc' := 38) (ls' := [.ref 0, .long x1, ev_unk, .int x3, .int x4]) (st' := [.int (1 : Int32), .ref 0]) [.aload_n 0, .iconst 1] (by decide +kernel) rfl <|
        Ev.cV0 (M' := M_X_refuse) (as := [.int (1 : Int32)]) (rest := []) l_X_67 M_X_refuse_ok M_X_refuse_in M_X_refuse_se (by decide +kernel) (r7 c1 c2) rfl rfl rfl (Nat.le_of_ble_eq_true rfl) (Nat.le_of_ble_eq_true rfl) (s_X_refuse' (pr6 c1 c2) <| show Ev G (d + 6) _ _ M_X_cost 41 [.ref 0, .long x1, ev_unk, .int x3, .int x4] [.int (-1 : Int32)] (xoS h (1 : Int32) fk9 fp10) R from
          Ev.ret (r := (some (.int (-1 : Int32)))) (Or.inl ⟨_, rfl, by decide +kernel, _, rfl, rfl⟩) (k2 c1 c2)
        )
      ) (fun c2 =>
        Ev.go (pc' := 16) (ls' := [.ref 0, .long x1, ev_unk, .int x3, .int x4]) (st' := [.int x3, .ref 0]) [.aload_n 0, .iload_n 3] (by decide +kernel) rfl <|
        Ev.cV0 (M' := M_X_isPart) (as := [.int x3]) (rest := []) l_X_130 M_X_isPart_ok M_X_isPart_in M_X_isPart_se (by decide +kernel) (r11 c1 c2) rfl rfl rfl (Nat.le_of_ble_eq_true rfl) (Nat.le_of_ble_eq_true rfl) (s_X_isPart (pr8 c1 c2) (pr9 c1 c2) (pr10 c1 c2) <| show Ev G (d + 6) _ _ M_X_cost 19 [.ref 0, .long x1, ev_unk, .int x3, .int x4] [.int (b2i (inR x3 (sP S11)))] h R from
          Ev.br (i := .ifCond .eq (23)) (P := (b2i (inR x3 (sP S11))) = (0 : Int32)) (t := 42) (f := 22) (r := []) (by decide +kernel) rfl (fun c3 =>
            (k3 c1 c2 c3)
          ) (fun c3 =>
            Ev.go (pc' := 25) (ls' := [.ref 0, .long x1, ev_unk, .int x3, .int x4]) (st' := [.ref 0, .int x4]) [.iload 4, .aload_n 0] (by decide +kernel) rfl <|
            Ev.getf f_X_10 (by decide +kernel) a12 rfl <|
            Ev.getf f_X_133 (by decide +kernel) a13 rfl <|
            Ev.go (pc' := 32) (ls' := [.ref 0, .long x1, ev_unk, .int x3, .int x4]) (st' := [.int x3, .ref 2, .int x4]) [.iload_n 3] (by decide +kernel) rfl <|
            Ev.iald (j := j23) (by decide +kernel) a14 (i15 c1 c2 c3) <|
            Ev.br (i := .if_icmp .le (9)) (P := (g22 j23) < x4) (t := 36) (f := 42) (r := []) (by decide +kernel) rfl (fun c4 =>
              Ev.go (pc' := 38) (ls' := [.ref 0, .long x1, ev_unk, .int x3, .int x4]) (st' := [.int (1 : Int32), .ref 0]) [.aload_n 0, .iconst 1] (by decide +kernel) rfl <|
              Ev.cV0 (M' := M_X_refuse) (as := [.int (1 : Int32)]) (rest := []) l_X_67 M_X_refuse_ok M_X_refuse_in M_X_refuse_se (by decide +kernel) ⟨_, a12⟩ rfl rfl rfl (Nat.le_of_ble_eq_true rfl) (Nat.le_of_ble_eq_true rfl) (s_X_refuse' (pr16 c1 c2 c3 c4) <| show Ev G (d + 6) _ _ M_X_cost 41 [.ref 0, .long x1, ev_unk, .int x3, .int x4] [.int (-1 : Int32)] (xoS h (1 : Int32) fk25 fp26) R from
                Ev.ret (r := (some (.int (-1 : Int32)))) (Or.inl ⟨_, rfl, by decide +kernel, _, rfl, rfl⟩) (k4 c1 c2 c3 c4)
              )
            ) (fun c4 =>
              (k5 c1 c2 c3 c4)
            )
          )
        )
      )
    )
  )
theorem b_X_cost_42 {G : ev_G} {d k n : Nat} {h : ev_H} {R : Option Value → ev_H → Prop} {x1 : Int64} {x3 : Int32} {x4 : Int32} {S1 : AS} {la2 : Int32} {fk3 : Int32} {fp4 : Int32} {la5 : Int32} {fk6 : Int32} {fp7 : Int32} {f_latest_8 : Int32} {f_faultKind_9 : Int32} {f_faultPlace_10 : Int32}
  (a7 : hat h 0 (oC 8 [.ref 1, .ref 5, .ref 18, .ref 81, .ref 98, .int f_latest_8, .int f_faultKind_9, .int f_faultPlace_10]))
  (pr1 : XO h la2 fk3 fp4)
  (pr2 : StR h 1 S1)
  (pr3 : sOk S1)
  (r4 : ∃ fs, hat h 0 (oC 8 fs))
  (pr5 : (b2i (inR x3 (sP S1))) = (0 : Int32) → XO h la5 fk6 fp7)
  (r6 : (b2i (inR x3 (sP S1))) = (0 : Int32) → ∃ fs, hat h 0 (oC 8 fs))
  (r8 : ¬ (b2i (inR x3 (sP S1))) = (0 : Int32) → ∃ fs, hat h 81 (oC 0 fs))
  (k1 : (b2i (inR x3 (sP S1))) = (0 : Int32) → R (some (.int (-1 : Int32))) (xoS h (2 : Int32) fk6 fp7))
  (k2 : ¬ (b2i (inR x3 (sP S1))) = (0 : Int32) → Ev G (d + 5) 0 0 M_Bu_partLike 0 [.ref 81, .ref 1] [] h (fun r h1 => Ev G (d + 6) k n M_X_cost 67 [.ref 0, .long x1, ev_unk, .int x3, .int x4] (r.toList ++ []) h1 R))
  : Ev G (d + 6) k n M_X_cost 42 [.ref 0, .long x1, ev_unk, .int x3, .int x4] [] h R :=
  Ev.go (pc' := 44) (ls' := [.ref 0, .long x1, ev_unk, .int x3, .int x4]) (st' := [.int x3, .ref 0]) [.aload_n 0, .iload_n 3] (by decide +kernel) rfl <|
  Ev.cV0 (M' := M_X_isPart) (as := [.int x3]) (rest := []) l_X_130 M_X_isPart_ok M_X_isPart_in M_X_isPart_se (by decide +kernel) r4 rfl rfl rfl (Nat.le_of_ble_eq_true rfl) (Nat.le_of_ble_eq_true rfl) (s_X_isPart pr1 pr2 pr3 <| show Ev G (d + 6) _ _ M_X_cost 47 [.ref 0, .long x1, ev_unk, .int x3, .int x4] [.int (b2i (inR x3 (sP S1)))] h R from
    Ev.br (i := .ifCond .ne (9)) (P := (b2i (inR x3 (sP S1))) = (0 : Int32)) (t := 50) (f := 56) (r := []) (by decide +kernel) rfl (fun c1 =>
      Ev.go (pc' := 52) (ls' := [.ref 0, .long x1, ev_unk, .int x3, .int x4]) (st' := [.int (2 : Int32), .ref 0]) [.aload_n 0, .iconst 2] (by decide +kernel) rfl <|
      Ev.cV0 (M' := M_X_refuse) (as := [.int (2 : Int32)]) (rest := []) l_X_67 M_X_refuse_ok M_X_refuse_in M_X_refuse_se (by decide +kernel) (r6 c1) rfl rfl rfl (Nat.le_of_ble_eq_true rfl) (Nat.le_of_ble_eq_true rfl) (s_X_refuse' (pr5 c1) <| show Ev G (d + 6) _ _ M_X_cost 55 [.ref 0, .long x1, ev_unk, .int x3, .int x4] [.int (-1 : Int32)] (xoS h (2 : Int32) fk6 fp7) R from
        Ev.ret (r := (some (.int (-1 : Int32)))) (Or.inl ⟨_, rfl, by decide +kernel, _, rfl, rfl⟩) (k1 c1)
      )
    ) (fun c1 =>
      Ev.go (pc' := 57) (ls' := [.ref 0, .long x1, ev_unk, .int x3, .int x4]) (st' := [.ref 0]) [.aload_n 0] (by decide +kernel) rfl <|
      Ev.getf f_X_33 (by decide +kernel) a7 rfl <|
      Ev.go (pc' := 61) (ls' := [.ref 0, .long x1, ev_unk, .int x3, .int x4]) (st' := [.ref 0, .ref 81]) [.aload_n 0] (by decide +kernel) rfl <|
      Ev.getf f_X_10 (by decide +kernel) a7 rfl <|
      Ev.cV0 (M' := M_Bu_partLike) (as := [.ref 1]) (rest := []) l_X_195 M_Bu_partLike_ok M_Bu_partLike_in M_Bu_partLike_se (by decide +kernel) (r8 c1) rfl rfl rfl (Nat.le_of_ble_eq_true rfl) (Nat.le_of_ble_eq_true rfl) (k2 c1)
    )
  )
theorem b_X_cost_67 {G : ev_G} {d k n : Nat} {h : ev_H} {R : Option Value → ev_H → Prop} {x1 : Int64} {x3 : Int32} {x4 : Int32} {f_latest_1 : Int32} {f_faultKind_2 : Int32} {f_faultPlace_3 : Int32} {f_bits_4 : Int32} {f_parts_5 : Int32} {f_size_6 : Int32} {fv7 : Value} {S8 : AS}
  (a1 : hat h 0 (oC 8 [.ref 1, .ref 5, .ref 18, .ref 81, .ref 98, .int f_latest_1, .int f_faultKind_2, .int f_faultPlace_3]))
  (a2 : hat h 1 (oC 6 [.int f_bits_4, .int f_parts_5, .ref 2, .int f_size_6, .ref 3, .ref 4, fv7]))
  (pr3 : StR h 1 S8)
  (pr4 : sOk S8)
  (pr5 : sFl S8 = [] ∨ flOk (sFl S8))
  (r6 : ∃ fs, hat h 81 (oC 0 fs))
  (k1 : Ev G (d + 5) 0 0 M_Bu_weigh 0 [.ref 81, .ref 3, .int (setI (ctP S8)), .long x1, ev_unk, ev_unk, ev_unk, ev_unk, ev_unk, ev_unk, ev_unk] [] h (fun r h1 => Ev G (d + 6) k n M_X_cost 89 [.ref 0, .long x1, ev_unk, .int x3, .int x4] (r.toList ++ []) h1 R))
  : Ev G (d + 6) k n M_X_cost 67 [.ref 0, .long x1, ev_unk, .int x3, .int x4] [] h R :=
  Ev.go (pc' := 68) (ls' := [.ref 0, .long x1, ev_unk, .int x3, .int x4]) (st' := [.ref 0]) [.aload_n 0] (by decide +kernel) rfl <|
  Ev.getf f_X_33 (by decide +kernel) a1 rfl <|
  Ev.go (pc' := 72) (ls' := [.ref 0, .long x1, ev_unk, .int x3, .int x4]) (st' := [.ref 0, .ref 81]) [.aload_n 0] (by decide +kernel) rfl <|
  Ev.getf f_X_10 (by decide +kernel) a1 rfl <|
  Ev.getf f_X_118 (by decide +kernel) a2 rfl <|
  Ev.go (pc' := 79) (ls' := [.ref 0, .long x1, ev_unk, .int x3, .int x4]) (st' := [.ref 0, .ref 3, .ref 81]) [.aload_n 0] (by decide +kernel) rfl <|
  Ev.getf f_X_10 (by decide +kernel) a1 rfl <|
  Ev.cV0 (M' := M_St_counting) (as := []) (rest := [.ref 3, .ref 81]) l_X_96 M_St_counting_ok M_St_counting_in M_St_counting_se (by decide +kernel) ⟨_, a2⟩ rfl rfl rfl (Nat.le_of_ble_eq_true rfl) (Nat.le_of_ble_eq_true rfl) (s_St_counting pr3 pr4 pr5 <| show Ev G (d + 6) _ _ M_X_cost 85 [.ref 0, .long x1, ev_unk, .int x3, .int x4] [.int (setI (ctP S8)), .ref 3, .ref 81] h R from
    Ev.go (pc' := 86) (ls' := [.ref 0, .long x1, ev_unk, .int x3, .int x4]) (st' := [.long x1, .int (setI (ctP S8)), .ref 3, .ref 81]) [.lload_n 1] (by decide +kernel) rfl <|
    Ev.cV0 (M' := M_Bu_weigh) (as := [.ref 3, .int (setI (ctP S8)), .long x1]) (rest := []) l_X_205 M_Bu_weigh_ok M_Bu_weigh_in M_Bu_weigh_se (by decide +kernel) r6 rfl rfl rfl (Nat.le_of_ble_eq_true rfl) (Nat.le_of_ble_eq_true rfl) k1
  )
theorem b_X_cost_89 {G : ev_G} {d k n : Nat} {h : ev_H} {R : Option Value → ev_H → Prop} {x1 : Int64} {x3 : Int32} {x4 : Int32} {f_latest_1 : Int32} {f_faultKind_2 : Int32} {f_faultPlace_3 : Int32} {f_parts_4 : Int32} {j5 : Nat} {g6 : Nat → Int32} {j7 : Nat} {la8 : Int32} {fk9 : Int32} {fp10 : Int32}
  (a1 : hat h 0 (oC 8 [.ref 1, .ref 5, .ref 18, .ref 81, .ref 98, .int f_latest_1, .int f_faultKind_2, .int f_faultPlace_3]))
  (a2 : hat h 81 (oC 0 [.ref 82, .int f_parts_4, .ref 83, .ref 90, .ref 97]))
  (a3 : hat h 83 (aG 6 (fun i => if i < 6 then some (83 + 1 + i) else none)))
  (a5 : hat h (83 + 1 + j5) (aI 26 g6))
  (i4 : ev_ix x3 j5 6)
  (i6 : ev_ix (x4 + (1 : Int32)) j7 26)
  (pr7 : XO h la8 fk9 fp10)
  (k1 : R (some (.int (g6 j7))) (xoS h 0 fk9 fp10))
  : Ev G (d + 6) k n M_X_cost 89 [.ref 0, .long x1, ev_unk, .int x3, .int x4] [] h R :=
  Ev.go (pc' := 91) (ls' := [.ref 0, .long x1, ev_unk, .int x3, .int x4]) (st' := [.ref 0, .ref 0]) [.aload_n 0, .aload_n 0] (by decide +kernel) rfl <|
  Ev.getf f_X_33 (by decide +kernel) a1 rfl <|
  Ev.getf f_X_209 (by decide +kernel) a2 rfl <|
  Ev.go (pc' := 98) (ls' := [.ref 0, .long x1, ev_unk, .int x3, .int x4]) (st' := [.int x3, .ref 83, .ref 0]) [.iload_n 3] (by decide +kernel) rfl <|
  Ev.gald (j := j5) (b := 83 + 1 + j5) (by decide +kernel) a3 i4 (if_pos (show j5 < 6 from (i4).2.1)) <|
  Ev.go (pc' := 103) (ls' := [.ref 0, .long x1, ev_unk, .int x3, .int x4]) (st' := [.int (x4 + (1 : Int32)), .ref (83 + 1 + j5), .ref 0]) [.iload 4, .iconst 1, .iadd] (by decide +kernel) rfl <|
  Ev.iald (j := j7) (by decide +kernel) a5 i6 <|
  Ev.cV0 (M' := M_X_answer) (as := [.int (g6 j7)]) (rest := []) l_X_87 M_X_answer_ok M_X_answer_in M_X_answer_se (by decide +kernel) ⟨_, a1⟩ rfl rfl rfl (Nat.le_of_ble_eq_true rfl) (Nat.le_of_ble_eq_true rfl) (s_X_answer' pr7 <| show Ev G (d + 6) _ _ M_X_cost 107 [.ref 0, .long x1, ev_unk, .int x3, .int x4] [.int (g6 j7)] (xoS h 0 fk9 fp10) R from
    Ev.ret (r := (some (.int (g6 j7)))) (Or.inl ⟨_, rfl, by decide +kernel, _, rfl, rfl⟩) k1
  )
theorem b_X_near_0 {G : ev_G} {d k n : Nat} {h : ev_H} {R : Option Value → ev_H → Prop} {x1 : Int64} {x3 : Int32} {x4 : Int32} {S1 : AS} {la2 : Int32} {fk3 : Int32} {fp4 : Int32} {la5 : Int32} {fk6 : Int32} {fp7 : Int32} {S8 : AS} {la9 : Int32} {fk10 : Int32} {fp11 : Int32} {la12 : Int32} {fk13 : Int32} {fp14 : Int32} {la15 : Int32} {fk16 : Int32} {fp17 : Int32} {f_latest_18 : Int32} {f_faultKind_19 : Int32} {f_faultPlace_20 : Int32} {S21 : AS}
  (a14 : hat h 0 (oC 8 [.ref 1, .ref 5, .ref 18, .ref 81, .ref 98, .int f_latest_18, .int f_faultKind_19, .int f_faultPlace_20]))
  (pr1 : XO h la2 fk3 fp4)
  (pr2 : StR h 1 S1)
  (r3 : ∃ fs, hat h 0 (oC 8 fs))
  (pr4 : (b2i (numB x1 (sB S1))) = (0 : Int32) → XO h la5 fk6 fp7)
  (r5 : (b2i (numB x1 (sB S1))) = (0 : Int32) → ∃ fs, hat h 0 (oC 8 fs))
  (pr6 : ¬ (b2i (numB x1 (sB S1))) = (0 : Int32) → XO h la9 fk10 fp11)
  (pr7 : ¬ (b2i (numB x1 (sB S1))) = (0 : Int32) → StR h 1 S8)
  (pr8 : ¬ (b2i (numB x1 (sB S1))) = (0 : Int32) → sOk S8)
  (r9 : ¬ (b2i (numB x1 (sB S1))) = (0 : Int32) → ∃ fs, hat h 0 (oC 8 fs))
  (pr10 : ¬ (b2i (numB x1 (sB S1))) = (0 : Int32) → (b2i (inR x3 (sB S8 + 1))) = (0 : Int32) → XO h la12 fk13 fp14)
  (r11 : ¬ (b2i (numB x1 (sB S1))) = (0 : Int32) → (b2i (inR x3 (sB S8 + 1))) = (0 : Int32) → ∃ fs, hat h 0 (oC 8 fs))
  (pr12 : ¬ (b2i (numB x1 (sB S1))) = (0 : Int32) → ¬ (b2i (inR x3 (sB S8 + 1))) = (0 : Int32) → (b2i (decide (0 ≤ x4 ∧ x4 < (5 : Int32)))) = (0 : Int32) → XO h la15 fk16 fp17)
  (r13 : ¬ (b2i (numB x1 (sB S1))) = (0 : Int32) → ¬ (b2i (inR x3 (sB S8 + 1))) = (0 : Int32) → (b2i (decide (0 ≤ x4 ∧ x4 < (5 : Int32)))) = (0 : Int32) → ∃ fs, hat h 0 (oC 8 fs))
  (pr15 : ¬ (b2i (numB x1 (sB S1))) = (0 : Int32) → ¬ (b2i (inR x3 (sB S8 + 1))) = (0 : Int32) → ¬ (b2i (decide (0 ≤ x4 ∧ x4 < (5 : Int32)))) = (0 : Int32) → StR h 1 S21)
  (pr16 : ¬ (b2i (numB x1 (sB S1))) = (0 : Int32) → ¬ (b2i (inR x3 (sB S8 + 1))) = (0 : Int32) → ¬ (b2i (decide (0 ≤ x4 ∧ x4 < (5 : Int32)))) = (0 : Int32) → sOk S21)
  (pr17 : ¬ (b2i (numB x1 (sB S1))) = (0 : Int32) → ¬ (b2i (inR x3 (sB S8 + 1))) = (0 : Int32) → ¬ (b2i (decide (0 ≤ x4 ∧ x4 < (5 : Int32)))) = (0 : Int32) → sFl S21 = [] ∨ flOk (sFl S21))
  (r18 : ¬ (b2i (numB x1 (sB S1))) = (0 : Int32) → ¬ (b2i (inR x3 (sB S8 + 1))) = (0 : Int32) → ¬ (b2i (decide (0 ≤ x4 ∧ x4 < (5 : Int32)))) = (0 : Int32) → ∃ fs, hat h 1 (oC 6 fs))
  (r19 : ¬ (b2i (numB x1 (sB S1))) = (0 : Int32) → ¬ (b2i (inR x3 (sB S8 + 1))) = (0 : Int32) → ¬ (b2i (decide (0 ≤ x4 ∧ x4 < (5 : Int32)))) = (0 : Int32) → ∃ fs, hat h 81 (oC 0 fs))
  (k1 : (b2i (numB x1 (sB S1))) = (0 : Int32) → R (some (.int (-1 : Int32))) (xoS h (1 : Int32) fk6 fp7))
  (k2 : ¬ (b2i (numB x1 (sB S1))) = (0 : Int32) → (b2i (inR x3 (sB S8 + 1))) = (0 : Int32) → R (some (.int (-1 : Int32))) (xoS h (1 : Int32) fk13 fp14))
  (k3 : ¬ (b2i (numB x1 (sB S1))) = (0 : Int32) → ¬ (b2i (inR x3 (sB S8 + 1))) = (0 : Int32) → (b2i (decide (0 ≤ x4 ∧ x4 < (5 : Int32)))) = (0 : Int32) → R (some (.int (-1 : Int32))) (xoS h (1 : Int32) fk16 fp17))
  (k4 : ¬ (b2i (numB x1 (sB S1))) = (0 : Int32) → ¬ (b2i (inR x3 (sB S8 + 1))) = (0 : Int32) → ¬ (b2i (decide (0 ≤ x4 ∧ x4 < (5 : Int32)))) = (0 : Int32) → Ev G (d + 5) 0 0 M_Bu_partLike 0 [.ref 81, .ref 1] [] h (fun r h1 => Ev G (d + 6) k n M_X_near 51 [.ref 0, .long x1, ev_unk, .int x3, .int x4, .int (setI (ctP S21)), ev_unk, ev_unk, ev_unk] (r.toList ++ []) h1 R))
  : Ev G (d + 6) k n M_X_near 0 [.ref 0, .long x1, ev_unk, .int x3, .int x4, ev_unk, ev_unk, ev_unk, ev_unk] [] h R :=
  Ev.go (pc' := 2) (ls' := [.ref 0, .long x1, ev_unk, .int x3, .int x4, ev_unk, ev_unk, ev_unk, ev_unk]) (st' := [.long x1, .ref 0]) [.aload_n 0, .lload_n 1] (by decide +kernel) rfl <|
  Ev.cV0 (M' := M_X_isNumber) (as := [.long x1]) (rest := []) l_X_140 M_X_isNumber_ok M_X_isNumber_in M_X_isNumber_se (by decide +kernel) r3 rfl rfl rfl (Nat.le_of_ble_eq_true rfl) (Nat.le_of_ble_eq_true rfl) (s_X_isNumber pr1 pr2 <| show Ev G (d + 6) _ _ M_X_near 5 [.ref 0, .long x1, ev_unk, .int x3, .int x4, ev_unk, ev_unk, ev_unk, ev_unk] [.int (b2i (numB x1 (sB S1)))] h R from
    Ev.br (i := .ifCond .eq (20)) (P := (b2i (numB x1 (sB S1))) = (0 : Int32)) (t := 25) (f := 8) (r := []) (by decide +kernel) rfl (fun c1 =>
      Ev.go (pc' := 27) (ls' := [.ref 0, .long x1, ev_unk, .int x3, .int x4, ev_unk, ev_unk, ev_unk, ev_unk]) (st' := [.int (1 : Int32), .ref 0]) [.aload_n 0, .iconst 1] (by decide +kernel) rfl <|
      Ev.cV0 (M' := M_X_refuse) (as := [.int (1 : Int32)]) (rest := []) l_X_67 M_X_refuse_ok M_X_refuse_in M_X_refuse_se (by decide +kernel) (r5 c1) rfl rfl rfl (Nat.le_of_ble_eq_true rfl) (Nat.le_of_ble_eq_true rfl) (s_X_refuse' (pr4 c1) <| show Ev G (d + 6) _ _ M_X_near 30 [.ref 0, .long x1, ev_unk, .int x3, .int x4, ev_unk, ev_unk, ev_unk, ev_unk] [.int (-1 : Int32)] (xoS h (1 : Int32) fk6 fp7) R from
        Ev.ret (r := (some (.int (-1 : Int32)))) (Or.inl ⟨_, rfl, by decide +kernel, _, rfl, rfl⟩) (k1 c1)
      )
    ) (fun c1 =>
      Ev.go (pc' := 10) (ls' := [.ref 0, .long x1, ev_unk, .int x3, .int x4, ev_unk, ev_unk, ev_unk, ev_unk]) (st' := [.int x3, .ref 0]) [.aload_n 0, .iload_n 3] (by decide +kernel) rfl <|
      Ev.cV0 (M' := M_X_isRadius) (as := [.int x3]) (rest := []) l_X_192 M_X_isRadius_ok M_X_isRadius_in M_X_isRadius_se (by decide +kernel) (r9 c1) rfl rfl rfl (Nat.le_of_ble_eq_true rfl) (Nat.le_of_ble_eq_true rfl) (s_X_isRadius (pr6 c1) (pr7 c1) (pr8 c1) <| show Ev G (d + 6) _ _ M_X_near 13 [.ref 0, .long x1, ev_unk, .int x3, .int x4, ev_unk, ev_unk, ev_unk, ev_unk] [.int (b2i (inR x3 (sB S8 + 1)))] h R from
        Ev.br (i := .ifCond .eq (12)) (P := (b2i (inR x3 (sB S8 + 1))) = (0 : Int32)) (t := 25) (f := 16) (r := []) (by decide +kernel) rfl (fun c2 =>
          Ev.go (pc' := 27) (ls' := [.ref 0, .long x1, ev_unk, .int x3, .int x4, ev_unk, ev_unk, ev_unk, ev_unk]) (st' := [.int (1 : Int32), .ref 0]) [.aload_n 0, .iconst 1] (by decide +kernel) rfl <|
          Ev.cV0 (M' := M_X_refuse) (as := [.int (1 : Int32)]) (rest := []) l_X_67 M_X_refuse_ok M_X_refuse_in M_X_refuse_se (by decide +kernel) (r11 c1 c2) rfl rfl rfl (Nat.le_of_ble_eq_true rfl) (Nat.le_of_ble_eq_true rfl) (s_X_refuse' (pr10 c1 c2) <| show Ev G (d + 6) _ _ M_X_near 30 [.ref 0, .long x1, ev_unk, .int x3, .int x4, ev_unk, ev_unk, ev_unk, ev_unk] [.int (-1 : Int32)] (xoS h (1 : Int32) fk13 fp14) R from
            Ev.ret (r := (some (.int (-1 : Int32)))) (Or.inl ⟨_, rfl, by decide +kernel, _, rfl, rfl⟩) (k2 c1 c2)
          )
        ) (fun c2 =>
          Ev.go (pc' := 19) (ls' := [.ref 0, .long x1, ev_unk, .int x3, .int x4, ev_unk, ev_unk, ev_unk, ev_unk]) (st' := [.int (5 : Int32), .int x4]) [.iload 4, .iconst 5] (by decide +kernel) rfl <|
          Ev.cS0 (M' := M_X_isBelow) (as := [.int x4, .int (5 : Int32)]) (rest := []) l_X_148 M_X_isBelow_ok M_X_isBelow_st (by decide +kernel) rfl rfl (Nat.le_of_ble_eq_true rfl) (Nat.le_of_ble_eq_true rfl) (s_X_isBelow <| show Ev G (d + 6) _ _ M_X_near 22 [.ref 0, .long x1, ev_unk, .int x3, .int x4, ev_unk, ev_unk, ev_unk, ev_unk] [.int (b2i (decide (0 ≤ x4 ∧ x4 < (5 : Int32))))] h R from
            Ev.br (i := .ifCond .ne (9)) (P := (b2i (decide (0 ≤ x4 ∧ x4 < (5 : Int32)))) = (0 : Int32)) (t := 25) (f := 31) (r := []) (by decide +kernel) rfl (fun c3 =>
              Ev.go (pc' := 27) (ls' := [.ref 0, .long x1, ev_unk, .int x3, .int x4, ev_unk, ev_unk, ev_unk, ev_unk]) (st' := [.int (1 : Int32), .ref 0]) [.aload_n 0, .iconst 1] (by decide +kernel) rfl <|
              Ev.cV0 (M' := M_X_refuse) (as := [.int (1 : Int32)]) (rest := []) l_X_67 M_X_refuse_ok M_X_refuse_in M_X_refuse_se (by decide +kernel) (r13 c1 c2 c3) rfl rfl rfl (Nat.le_of_ble_eq_true rfl) (Nat.le_of_ble_eq_true rfl) (s_X_refuse' (pr12 c1 c2 c3) <| show Ev G (d + 6) _ _ M_X_near 30 [.ref 0, .long x1, ev_unk, .int x3, .int x4, ev_unk, ev_unk, ev_unk, ev_unk] [.int (-1 : Int32)] (xoS h (1 : Int32) fk16 fp17) R from
                Ev.ret (r := (some (.int (-1 : Int32)))) (Or.inl ⟨_, rfl, by decide +kernel, _, rfl, rfl⟩) (k3 c1 c2 c3)
              )
            ) (fun c3 =>
              Ev.go (pc' := 32) (ls' := [.ref 0, .long x1, ev_unk, .int x3, .int x4, ev_unk, ev_unk, ev_unk, ev_unk]) (st' := [.ref 0]) [.aload_n 0] (by decide +kernel) rfl <|
              Ev.getf f_X_10 (by decide +kernel) a14 rfl <|
              Ev.cV0 (M' := M_St_counting) (as := []) (rest := []) l_X_96 M_St_counting_ok M_St_counting_in M_St_counting_se (by decide +kernel) (r18 c1 c2 c3) rfl rfl rfl (Nat.le_of_ble_eq_true rfl) (Nat.le_of_ble_eq_true rfl) (s_St_counting (pr15 c1 c2 c3) (pr16 c1 c2 c3) (pr17 c1 c2 c3) <| show Ev G (d + 6) _ _ M_X_near 38 [.ref 0, .long x1, ev_unk, .int x3, .int x4, ev_unk, ev_unk, ev_unk, ev_unk] [.int (setI (ctP S21))] h R from
                Ev.go (pc' := 41) (ls' := [.ref 0, .long x1, ev_unk, .int x3, .int x4, .int (setI (ctP S21)), ev_unk, ev_unk, ev_unk]) (st' := [.ref 0]) [.istore 5, .aload_n 0] (by decide +kernel) rfl <|
                Ev.getf f_X_33 (by decide +kernel) a14 rfl <|
                Ev.go (pc' := 45) (ls' := [.ref 0, .long x1, ev_unk, .int x3, .int x4, .int (setI (ctP S21)), ev_unk, ev_unk, ev_unk]) (st' := [.ref 0, .ref 81]) [.aload_n 0] (by decide +kernel) rfl <|
                Ev.getf f_X_10 (by decide +kernel) a14 rfl <|
                Ev.cV0 (M' := M_Bu_partLike) (as := [.ref 1]) (rest := []) l_X_195 M_Bu_partLike_ok M_Bu_partLike_in M_Bu_partLike_se (by decide +kernel) (r19 c1 c2 c3) rfl rfl rfl (Nat.le_of_ble_eq_true rfl) (Nat.le_of_ble_eq_true rfl) (k4 c1 c2 c3)
              )
            )
          )
        )
      )
    )
  )
theorem b_X_near_51 {G : ev_G} {d k n : Nat} {h : ev_H} {R : Option Value → ev_H → Prop} {x1 : Int64} {x3 : Int32} {x4 : Int32} {x5 : Int32} {f_latest_1 : Int32} {f_faultKind_2 : Int32} {f_faultPlace_3 : Int32} {f_bits_4 : Int32} {f_parts_5 : Int32} {f_size_6 : Int32} {fv7 : Value}
  (a1 : hat h 0 (oC 8 [.ref 1, .ref 5, .ref 18, .ref 81, .ref 98, .int f_latest_1, .int f_faultKind_2, .int f_faultPlace_3]))
  (a2 : hat h 1 (oC 6 [.int f_bits_4, .int f_parts_5, .ref 2, .int f_size_6, .ref 3, .ref 4, fv7]))
  (r3 : ∃ fs, hat h 81 (oC 0 fs))
  (k1 : Ev G (d + 5) 0 0 M_Bu_plan 0 [.ref 81, .ref 3, .int x5, .long x1, ev_unk, .int x3] [] h (fun r h1 => Ev G (d + 6) k n M_X_near 69 [.ref 0, .long x1, ev_unk, .int x3, .int x4, .int x5, ev_unk, ev_unk, ev_unk] (r.toList ++ []) h1 R))
  : Ev G (d + 6) k n M_X_near 51 [.ref 0, .long x1, ev_unk, .int x3, .int x4, .int x5, ev_unk, ev_unk, ev_unk] [] h R :=
  Ev.go (pc' := 52) (ls' := [.ref 0, .long x1, ev_unk, .int x3, .int x4, .int x5, ev_unk, ev_unk, ev_unk]) (st' := [.ref 0]) [.aload_n 0] (by decide +kernel) rfl <|
  Ev.getf f_X_33 (by decide +kernel) a1 rfl <|
  Ev.go (pc' := 56) (ls' := [.ref 0, .long x1, ev_unk, .int x3, .int x4, .int x5, ev_unk, ev_unk, ev_unk]) (st' := [.ref 0, .ref 81]) [.aload_n 0] (by decide +kernel) rfl <|
  Ev.getf f_X_10 (by decide +kernel) a1 rfl <|
  Ev.getf f_X_118 (by decide +kernel) a2 rfl <|
  Ev.go (pc' := 66) (ls' := [.ref 0, .long x1, ev_unk, .int x3, .int x4, .int x5, ev_unk, ev_unk, ev_unk]) (st' := [.int x3, .long x1, .int x5, .ref 3, .ref 81]) [.iload 5, .lload_n 1, .iload_n 3] (by decide +kernel) rfl <|
  Ev.cV0 (M' := M_Bu_plan) (as := [.ref 3, .int x5, .long x1, .int x3]) (rest := []) l_X_198 M_Bu_plan_ok M_Bu_plan_in M_Bu_plan_se (by decide +kernel) r3 rfl rfl rfl (Nat.le_of_ble_eq_true rfl) (Nat.le_of_ble_eq_true rfl) k1
theorem b_X_near_69 {G : ev_G} {d k n : Nat} {h : ev_H} {R : Option Value → ev_H → Prop} {x1 : Int64} {x3 : Int32} {x4 : Int32} {x5 : Int32} {y0 : Int32} {f_latest_1 : Int32} {f_faultKind_2 : Int32} {f_faultPlace_3 : Int32} {f_bits_4 : Int32} {f_parts_5 : Int32} {f_size_6 : Int32} {fv7 : Value}
  (a1 : hat h 0 (oC 8 [.ref 1, .ref 5, .ref 18, .ref 81, .ref 98, .int f_latest_1, .int f_faultKind_2, .int f_faultPlace_3]))
  (a2 : hat h 1 (oC 6 [.int f_bits_4, .int f_parts_5, .ref 2, .int f_size_6, .ref 3, .ref 4, fv7]))
  (r3 : ∃ fs, hat h 81 (oC 0 fs))
  (k1 : Ev G (d + 5) 0 0 M_Bu_candidates 0 [.ref 81, .ref 3, .int x5, .long x1, ev_unk, ev_unk, ev_unk, ev_unk, ev_unk, ev_unk, ev_unk] [] h (fun r h1 => Ev G (d + 6) k n M_X_near 88 [.ref 0, .long x1, ev_unk, .int x3, .int x4, .int x5, .int y0, ev_unk, ev_unk] (r.toList ++ []) h1 R))
  : Ev G (d + 6) k n M_X_near 69 [.ref 0, .long x1, ev_unk, .int x3, .int x4, .int x5, ev_unk, ev_unk, ev_unk] [.int y0] h R :=
  Ev.go (pc' := 72) (ls' := [.ref 0, .long x1, ev_unk, .int x3, .int x4, .int x5, .int y0, ev_unk, ev_unk]) (st' := [.ref 0]) [.istore 6, .aload_n 0] (by decide +kernel) rfl <|
  Ev.getf f_X_33 (by decide +kernel) a1 rfl <|
  Ev.go (pc' := 76) (ls' := [.ref 0, .long x1, ev_unk, .int x3, .int x4, .int x5, .int y0, ev_unk, ev_unk]) (st' := [.ref 0, .ref 81]) [.aload_n 0] (by decide +kernel) rfl <|
  Ev.getf f_X_10 (by decide +kernel) a1 rfl <|
  Ev.getf f_X_118 (by decide +kernel) a2 rfl <|
  Ev.go (pc' := 85) (ls' := [.ref 0, .long x1, ev_unk, .int x3, .int x4, .int x5, .int y0, ev_unk, ev_unk]) (st' := [.long x1, .int x5, .ref 3, .ref 81]) [.iload 5, .lload_n 1] (by decide +kernel) rfl <|
  Ev.cV0 (M' := M_Bu_candidates) (as := [.ref 3, .int x5, .long x1]) (rest := []) l_X_213 M_Bu_candidates_ok M_Bu_candidates_in M_Bu_candidates_se (by decide +kernel) r3 rfl rfl rfl (Nat.le_of_ble_eq_true rfl) (Nat.le_of_ble_eq_true rfl) k1
theorem b_X_near_88 {G : ev_G} {d k n : Nat} {h : ev_H} {R : Option Value → ev_H → Prop} {x1 : Int64} {x3 : Int32} {x4 : Int32} {x5 : Int32} {x6 : Int32} {y0 : Int32} {f_latest_1 : Int32} {f_faultKind_2 : Int32} {f_faultPlace_3 : Int32} {S4 : AS} {r_5 : Nat} {la6 : Int32} {fk7 : Int32} {fp8 : Int32} {la9 : Int32} {fk10 : Int32} {fp11 : Int32} {la12 : Int32} {fk13 : Int32} {fp14 : Int32} {la15 : Int32} {fk16 : Int32} {fp17 : Int32} {la18 : Int32} {fk19 : Int32} {fp20 : Int32}
  (a1 : hat h 0 (oC 8 [.ref 1, .ref 5, .ref 18, .ref 81, .ref 98, .int f_latest_1, .int f_faultKind_2, .int f_faultPlace_3]))
  (pr2 : StR h 1 S4)
  (pr3 : sOk S4)
  (pr4 : x3 = nI r_5 ∧ r_5 < 2147483648)
  (r5 : ∃ fs, hat h 1 (oC 6 fs))
  (pr6 : x4 = (0 : Int32) → XO h la6 fk7 fp8)
  (pr7 : x4 = (1 : Int32) → XO h la9 fk10 fp11)
  (pr8 : x4 = (2 : Int32) → XO h la12 fk13 fp14)
  (pr9 : x4 = (3 : Int32) → XO h la15 fk16 fp17)
  (pr10 : ¬ x4 = (0 : Int32) → ¬ x4 = (1 : Int32) → ¬ x4 = (2 : Int32) → ¬ x4 = (3 : Int32) → XO h la18 fk19 fp20)
  (k1 : x4 = (0 : Int32) → R (some (.int x6)) (xoS h 0 fk7 fp8))
  (k2 : x4 = (1 : Int32) → R (some (.int (nI (pop32 y0)))) (xoS h 0 fk10 fp11))
  (k3 : x4 = (2 : Int32) → R (some (.int (nI (pop32 (setI (nrP S4 (bt x5) x1 r_5)))))) (xoS h 0 fk13 fp14))
  (k4 : x4 = (3 : Int32) → R (some (.int y0)) (xoS h 0 fk16 fp17))
  (k5 : ¬ x4 = (0 : Int32) → ¬ x4 = (1 : Int32) → ¬ x4 = (2 : Int32) → ¬ x4 = (3 : Int32) → R (some (.int (setI (nrP S4 (bt x5) x1 r_5)))) (xoS h 0 fk19 fp20))
  : Ev G (d + 6) k n M_X_near 88 [.ref 0, .long x1, ev_unk, .int x3, .int x4, .int x5, .int x6, ev_unk, ev_unk] [.int y0] h R :=
  Ev.go (pc' := 91) (ls' := [.ref 0, .long x1, ev_unk, .int x3, .int x4, .int x5, .int x6, .int y0, ev_unk]) (st' := [.ref 0]) [.istore 7, .aload_n 0] (by decide +kernel) rfl <|
  Ev.getf f_X_10 (by decide +kernel) a1 rfl <|
  Ev.go (pc' := 98) (ls' := [.ref 0, .long x1, ev_unk, .int x3, .int x4, .int x5, .int x6, .int y0, ev_unk]) (st' := [.int x3, .long x1, .int x5, .ref 1]) [.iload 5, .lload_n 1, .iload_n 3] (by decide +kernel) rfl <|
  Ev.cV0 (M' := M_St_within) (as := [.int x5, .long x1, .int x3]) (rest := []) l_X_217 M_St_within_ok M_St_within_in M_St_within_se (by decide +kernel) r5 rfl rfl rfl (Nat.le_of_ble_eq_true rfl) (Nat.le_of_ble_eq_true rfl) (s_St_within' pr2 pr3 pr4 <| show Ev G (d + 6) _ _ M_X_near 101 [.ref 0, .long x1, ev_unk, .int x3, .int x4, .int x5, .int x6, .int y0, ev_unk] [.int (setI (nrP S4 (bt x5) x1 r_5))] h R from
    Ev.go (pc' := 105) (ls' := [.ref 0, .long x1, ev_unk, .int x3, .int x4, .int x5, .int x6, .int y0, .int (setI (nrP S4 (bt x5) x1 r_5))]) (st' := [.int x4]) [.istore 8, .iload 4] (by decide +kernel) rfl <|
    if c1_0 : x4 = (0 : Int32) then Ev.tsw (t := 136) (off := 31) (o := 65) (lo := 0) (hi := 3) (offs := #[31, 38, 48, 58]) (len := 31) (by decide +kernel) (by rw [c1_0]; decide) (by rw [c1_0]; decide) (by rw [c1_0]; decide) rfl <|
      Ev.go (pc' := 139) (ls' := [.ref 0, .long x1, ev_unk, .int x3, .int x4, .int x5, .int x6, .int y0, .int (setI (nrP S4 (bt x5) x1 r_5))]) (st' := [.int x6, .ref 0]) [.aload_n 0, .iload 6] (by decide +kernel) rfl <|
      Ev.cV0 (M' := M_X_answer) (as := [.int x6]) (rest := []) l_X_87 M_X_answer_ok M_X_answer_in M_X_answer_se (by decide +kernel) ⟨_, a1⟩ rfl rfl rfl (Nat.le_of_ble_eq_true rfl) (Nat.le_of_ble_eq_true rfl) (s_X_answer' (pr6 c1_0) <| show Ev G (d + 6) _ _ M_X_near 142 [.ref 0, .long x1, ev_unk, .int x3, .int x4, .int x5, .int x6, .int y0, .int (setI (nrP S4 (bt x5) x1 r_5))] [.int x6] (xoS h 0 fk7 fp8) R from
        Ev.ret (r := (some (.int x6))) (Or.inl ⟨_, rfl, by decide +kernel, _, rfl, rfl⟩) (k1 c1_0)
      )
    else
    if c1_1 : x4 = (1 : Int32) then Ev.tsw (t := 143) (off := 38) (o := 65) (lo := 0) (hi := 3) (offs := #[31, 38, 48, 58]) (len := 31) (by decide +kernel) (by rw [c1_1]; decide) (by rw [c1_1]; decide) (by rw [c1_1]; decide) rfl <|
      Ev.go (pc' := 146) (ls' := [.ref 0, .long x1, ev_unk, .int x3, .int x4, .int x5, .int x6, .int y0, .int (setI (nrP S4 (bt x5) x1 r_5))]) (st' := [.int y0, .ref 0]) [.aload_n 0, .iload 7] (by decide +kernel) rfl <|
      Ev.cS0 (M' := M_JI_bitCount) (as := [.int y0]) (rest := [.ref 0]) l_X_99 M_JI_bitCount_ok M_JI_bitCount_st (by decide +kernel) rfl rfl (Nat.le_of_ble_eq_true rfl) (Nat.le_of_ble_eq_true rfl) (s_JI_bitCount <| show Ev G (d + 6) _ _ M_X_near 149 [.ref 0, .long x1, ev_unk, .int x3, .int x4, .int x5, .int x6, .int y0, .int (setI (nrP S4 (bt x5) x1 r_5))] [.int (nI (pop32 y0)), .ref 0] h R from
        Ev.cV0 (M' := M_X_answer) (as := [.int (nI (pop32 y0))]) (rest := []) l_X_87 M_X_answer_ok M_X_answer_in M_X_answer_se (by decide +kernel) ⟨_, a1⟩ rfl rfl rfl (Nat.le_of_ble_eq_true rfl) (Nat.le_of_ble_eq_true rfl) (s_X_answer' (pr7 c1_1) <| show Ev G (d + 6) _ _ M_X_near 152 [.ref 0, .long x1, ev_unk, .int x3, .int x4, .int x5, .int x6, .int y0, .int (setI (nrP S4 (bt x5) x1 r_5))] [.int (nI (pop32 y0))] (xoS h 0 fk10 fp11) R from
          Ev.ret (r := (some (.int (nI (pop32 y0))))) (Or.inl ⟨_, rfl, by decide +kernel, _, rfl, rfl⟩) (k2 c1_1)
        )
      )
    else
    if c1_2 : x4 = (2 : Int32) then Ev.tsw (t := 153) (off := 48) (o := 65) (lo := 0) (hi := 3) (offs := #[31, 38, 48, 58]) (len := 31) (by decide +kernel) (by rw [c1_2]; decide) (by rw [c1_2]; decide) (by rw [c1_2]; decide) rfl <|
      Ev.go (pc' := 156) (ls' := [.ref 0, .long x1, ev_unk, .int x3, .int x4, .int x5, .int x6, .int y0, .int (setI (nrP S4 (bt x5) x1 r_5))]) (st' := [.int (setI (nrP S4 (bt x5) x1 r_5)), .ref 0]) [.aload_n 0, .iload 8] (by decide +kernel) rfl <|
      Ev.cS0 (M' := M_JI_bitCount) (as := [.int (setI (nrP S4 (bt x5) x1 r_5))]) (rest := [.ref 0]) l_X_99 M_JI_bitCount_ok M_JI_bitCount_st (by decide +kernel) rfl rfl (Nat.le_of_ble_eq_true rfl) (Nat.le_of_ble_eq_true rfl) (s_JI_bitCount <| show Ev G (d + 6) _ _ M_X_near 159 [.ref 0, .long x1, ev_unk, .int x3, .int x4, .int x5, .int x6, .int y0, .int (setI (nrP S4 (bt x5) x1 r_5))] [.int (nI (pop32 (setI (nrP S4 (bt x5) x1 r_5)))), .ref 0] h R from
        Ev.cV0 (M' := M_X_answer) (as := [.int (nI (pop32 (setI (nrP S4 (bt x5) x1 r_5))))]) (rest := []) l_X_87 M_X_answer_ok M_X_answer_in M_X_answer_se (by decide +kernel) ⟨_, a1⟩ rfl rfl rfl (Nat.le_of_ble_eq_true rfl) (Nat.le_of_ble_eq_true rfl) (s_X_answer' (pr8 c1_2) <| show Ev G (d + 6) _ _ M_X_near 162 [.ref 0, .long x1, ev_unk, .int x3, .int x4, .int x5, .int x6, .int y0, .int (setI (nrP S4 (bt x5) x1 r_5))] [.int (nI (pop32 (setI (nrP S4 (bt x5) x1 r_5))))] (xoS h 0 fk13 fp14) R from
          Ev.ret (r := (some (.int (nI (pop32 (setI (nrP S4 (bt x5) x1 r_5))))))) (Or.inl ⟨_, rfl, by decide +kernel, _, rfl, rfl⟩) (k3 c1_2)
        )
      )
    else
    if c1_3 : x4 = (3 : Int32) then Ev.tsw (t := 163) (off := 58) (o := 65) (lo := 0) (hi := 3) (offs := #[31, 38, 48, 58]) (len := 31) (by decide +kernel) (by rw [c1_3]; decide) (by rw [c1_3]; decide) (by rw [c1_3]; decide) rfl <|
      Ev.go (pc' := 166) (ls' := [.ref 0, .long x1, ev_unk, .int x3, .int x4, .int x5, .int x6, .int y0, .int (setI (nrP S4 (bt x5) x1 r_5))]) (st' := [.int y0, .ref 0]) [.aload_n 0, .iload 7] (by decide +kernel) rfl <|
      Ev.cV0 (M' := M_X_answer) (as := [.int y0]) (rest := []) l_X_87 M_X_answer_ok M_X_answer_in M_X_answer_se (by decide +kernel) ⟨_, a1⟩ rfl rfl rfl (Nat.le_of_ble_eq_true rfl) (Nat.le_of_ble_eq_true rfl) (s_X_answer' (pr9 c1_3) <| show Ev G (d + 6) _ _ M_X_near 169 [.ref 0, .long x1, ev_unk, .int x3, .int x4, .int x5, .int x6, .int y0, .int (setI (nrP S4 (bt x5) x1 r_5))] [.int y0] (xoS h 0 fk16 fp17) R from
        Ev.ret (r := (some (.int y0))) (Or.inl ⟨_, rfl, by decide +kernel, _, rfl, rfl⟩) (k4 c1_3)
      )
    else
    Ev.tswd (t := 170) (o := 65) (lo := 0) (hi := 3) (offs := #[31, 38, 48, 58]) (len := 31) (by decide +kernel) (by have qc1_0 := ne_i (v := 0) (0 : Int32) (by decide) c1_0; have qc1_1 := ne_i (v := 1) (1 : Int32) (by decide) c1_1; have qc1_2 := ne_i (v := 2) (2 : Int32) (by decide) c1_2; have qc1_3 := ne_i (v := 3) (3 : Int32) (by decide) c1_3; omega) rfl <|
      Ev.go (pc' := 173) (ls' := [.ref 0, .long x1, ev_unk, .int x3, .int x4, .int x5, .int x6, .int y0, .int (setI (nrP S4 (bt x5) x1 r_5))]) (st' := [.int (setI (nrP S4 (bt x5) x1 r_5)), .ref 0]) [.aload_n 0, .iload 8] (by decide +kernel) rfl <|
      Ev.cV0 (M' := M_X_answer) (as := [.int (setI (nrP S4 (bt x5) x1 r_5))]) (rest := []) l_X_87 M_X_answer_ok M_X_answer_in M_X_answer_se (by decide +kernel) ⟨_, a1⟩ rfl rfl rfl (Nat.le_of_ble_eq_true rfl) (Nat.le_of_ble_eq_true rfl) (s_X_answer' (pr10 c1_0 c1_1 c1_2 c1_3) <| show Ev G (d + 6) _ _ M_X_near 176 [.ref 0, .long x1, ev_unk, .int x3, .int x4, .int x5, .int x6, .int y0, .int (setI (nrP S4 (bt x5) x1 r_5))] [.int (setI (nrP S4 (bt x5) x1 r_5))] (xoS h 0 fk19 fp20) R from
        Ev.ret (r := (some (.int (setI (nrP S4 (bt x5) x1 r_5))))) (Or.inl ⟨_, rfl, by decide +kernel, _, rfl, rfl⟩) (k5 c1_0 c1_1 c1_2 c1_3)
      )
    
  )
theorem b_X_grown_0 {G : ev_G} {d k n : Nat} {h : ev_H} {R : Option Value → ev_H → Prop} {x1 : Int64} {x3 : Int32} {x4 : Int32} {S1 : AS} {la2 : Int32} {fk3 : Int32} {fp4 : Int32} {la5 : Int32} {fk6 : Int32} {fp7 : Int32} {la8 : Int32} {fk9 : Int32} {fp10 : Int32} {la11 : Int32} {fk12 : Int32} {fp13 : Int32} {f_latest_14 : Int32} {f_faultKind_15 : Int32} {f_faultPlace_16 : Int32} {S17 : AS} {la18 : Int32} {fk19 : Int32} {fp20 : Int32}
  (a10 : hat h 0 (oC 8 [.ref 1, .ref 5, .ref 18, .ref 81, .ref 98, .int f_latest_14, .int f_faultKind_15, .int f_faultPlace_16]))
  (pr1 : XO h la2 fk3 fp4)
  (pr2 : StR h 1 S1)
  (r3 : ∃ fs, hat h 0 (oC 8 fs))
  (pr4 : (b2i (numB x1 (sB S1))) = (0 : Int32) → XO h la5 fk6 fp7)
  (r5 : (b2i (numB x1 (sB S1))) = (0 : Int32) → ∃ fs, hat h 0 (oC 8 fs))
  (pr6 : ¬ (b2i (numB x1 (sB S1))) = (0 : Int32) → x3 < (1 : Int32) → XO h la8 fk9 fp10)
  (r7 : ¬ (b2i (numB x1 (sB S1))) = (0 : Int32) → x3 < (1 : Int32) → ∃ fs, hat h 0 (oC 8 fs))
  (pr8 : ¬ (b2i (numB x1 (sB S1))) = (0 : Int32) → ¬ x3 < (1 : Int32) → (b2i (decide (0 ≤ x4 ∧ x4 < (2 : Int32)))) = (0 : Int32) → XO h la11 fk12 fp13)
  (r9 : ¬ (b2i (numB x1 (sB S1))) = (0 : Int32) → ¬ x3 < (1 : Int32) → (b2i (decide (0 ≤ x4 ∧ x4 < (2 : Int32)))) = (0 : Int32) → ∃ fs, hat h 0 (oC 8 fs))
  (pr11 : ¬ (b2i (numB x1 (sB S1))) = (0 : Int32) → ¬ x3 < (1 : Int32) → ¬ (b2i (decide (0 ≤ x4 ∧ x4 < (2 : Int32)))) = (0 : Int32) → StR h 1 S17)
  (pr12 : ¬ (b2i (numB x1 (sB S1))) = (0 : Int32) → ¬ x3 < (1 : Int32) → ¬ (b2i (decide (0 ≤ x4 ∧ x4 < (2 : Int32)))) = (0 : Int32) → sOk S17)
  (pr13 : ¬ (b2i (numB x1 (sB S1))) = (0 : Int32) → ¬ x3 < (1 : Int32) → ¬ (b2i (decide (0 ≤ x4 ∧ x4 < (2 : Int32)))) = (0 : Int32) → sFl S17 = [] ∨ flOk (sFl S17))
  (r14 : ¬ (b2i (numB x1 (sB S1))) = (0 : Int32) → ¬ x3 < (1 : Int32) → ¬ (b2i (decide (0 ≤ x4 ∧ x4 < (2 : Int32)))) = (0 : Int32) → ∃ fs, hat h 1 (oC 6 fs))
  (pr15 : ¬ (b2i (numB x1 (sB S1))) = (0 : Int32) → ¬ x3 < (1 : Int32) → ¬ (b2i (decide (0 ≤ x4 ∧ x4 < (2 : Int32)))) = (0 : Int32) → (nI (pop32 (setI (ctP S17)))) < x3 → XO h la18 fk19 fp20)
  (r16 : ¬ (b2i (numB x1 (sB S1))) = (0 : Int32) → ¬ x3 < (1 : Int32) → ¬ (b2i (decide (0 ≤ x4 ∧ x4 < (2 : Int32)))) = (0 : Int32) → ¬ (nI (pop32 (setI (ctP S17)))) < x3 → ∃ fs, hat h 81 (oC 0 fs))
  (k1 : (b2i (numB x1 (sB S1))) = (0 : Int32) → R (some (.int (-1 : Int32))) (xoS h (1 : Int32) fk6 fp7))
  (k2 : ¬ (b2i (numB x1 (sB S1))) = (0 : Int32) → x3 < (1 : Int32) → R (some (.int (-1 : Int32))) (xoS h (1 : Int32) fk9 fp10))
  (k3 : ¬ (b2i (numB x1 (sB S1))) = (0 : Int32) → ¬ x3 < (1 : Int32) → (b2i (decide (0 ≤ x4 ∧ x4 < (2 : Int32)))) = (0 : Int32) → R (some (.int (-1 : Int32))) (xoS h (1 : Int32) fk12 fp13))
  (k4 : ¬ (b2i (numB x1 (sB S1))) = (0 : Int32) → ¬ x3 < (1 : Int32) → ¬ (b2i (decide (0 ≤ x4 ∧ x4 < (2 : Int32)))) = (0 : Int32) → (nI (pop32 (setI (ctP S17)))) < x3 → R (some (.int (-1 : Int32))) (xoS h (6 : Int32) fk19 fp20))
  (k5 : ¬ (b2i (numB x1 (sB S1))) = (0 : Int32) → ¬ x3 < (1 : Int32) → ¬ (b2i (decide (0 ≤ x4 ∧ x4 < (2 : Int32)))) = (0 : Int32) → ¬ (nI (pop32 (setI (ctP S17)))) < x3 → Ev G (d + 5) 0 0 M_Bu_partLike 0 [.ref 81, .ref 1] [] h (fun r h1 => Ev G (d + 6) k n M_X_grown 64 [.ref 0, .long x1, ev_unk, .int x3, .int x4, .int (setI (ctP S17)), ev_unk, ev_unk] (r.toList ++ []) h1 R))
  : Ev G (d + 6) k n M_X_grown 0 [.ref 0, .long x1, ev_unk, .int x3, .int x4, ev_unk, ev_unk, ev_unk] [] h R :=
  Ev.go (pc' := 2) (ls' := [.ref 0, .long x1, ev_unk, .int x3, .int x4, ev_unk, ev_unk, ev_unk]) (st' := [.long x1, .ref 0]) [.aload_n 0, .lload_n 1] (by decide +kernel) rfl <|
  Ev.cV0 (M' := M_X_isNumber) (as := [.long x1]) (rest := []) l_X_140 M_X_isNumber_ok M_X_isNumber_in M_X_isNumber_se (by decide +kernel) r3 rfl rfl rfl (Nat.le_of_ble_eq_true rfl) (Nat.le_of_ble_eq_true rfl) (s_X_isNumber pr1 pr2 <| show Ev G (d + 6) _ _ M_X_grown 5 [.ref 0, .long x1, ev_unk, .int x3, .int x4, ev_unk, ev_unk, ev_unk] [.int (b2i (numB x1 (sB S1)))] h R from
    Ev.br (i := .ifCond .eq (17)) (P := (b2i (numB x1 (sB S1))) = (0 : Int32)) (t := 22) (f := 8) (r := []) (by decide +kernel) rfl (fun c1 =>
      Ev.go (pc' := 24) (ls' := [.ref 0, .long x1, ev_unk, .int x3, .int x4, ev_unk, ev_unk, ev_unk]) (st' := [.int (1 : Int32), .ref 0]) [.aload_n 0, .iconst 1] (by decide +kernel) rfl <|
      Ev.cV0 (M' := M_X_refuse) (as := [.int (1 : Int32)]) (rest := []) l_X_67 M_X_refuse_ok M_X_refuse_in M_X_refuse_se (by decide +kernel) (r5 c1) rfl rfl rfl (Nat.le_of_ble_eq_true rfl) (Nat.le_of_ble_eq_true rfl) (s_X_refuse' (pr4 c1) <| show Ev G (d + 6) _ _ M_X_grown 27 [.ref 0, .long x1, ev_unk, .int x3, .int x4, ev_unk, ev_unk, ev_unk] [.int (-1 : Int32)] (xoS h (1 : Int32) fk6 fp7) R from
        Ev.ret (r := (some (.int (-1 : Int32)))) (Or.inl ⟨_, rfl, by decide +kernel, _, rfl, rfl⟩) (k1 c1)
      )
    ) (fun c1 =>
      Ev.go (pc' := 10) (ls' := [.ref 0, .long x1, ev_unk, .int x3, .int x4, ev_unk, ev_unk, ev_unk]) (st' := [.int (1 : Int32), .int x3]) [.iload_n 3, .iconst 1] (by decide +kernel) rfl <|
      Ev.br (i := .if_icmp .lt (12)) (P := x3 < (1 : Int32)) (t := 22) (f := 13) (r := []) (by decide +kernel) rfl (fun c2 =>
        Ev.go (pc' := 24) (ls' := [.ref 0, .long x1, ev_unk, .int x3, .int x4, ev_unk, ev_unk, ev_unk]) (st' := [.int (1 : Int32), .ref 0]) [.aload_n 0, .iconst 1] (by decide +kernel) rfl <|
        Ev.cV0 (M' := M_X_refuse) (as := [.int (1 : Int32)]) (rest := []) l_X_67 M_X_refuse_ok M_X_refuse_in M_X_refuse_se (by decide +kernel) (r7 c1 c2) rfl rfl rfl (Nat.le_of_ble_eq_true rfl) (Nat.le_of_ble_eq_true rfl) (s_X_refuse' (pr6 c1 c2) <| show Ev G (d + 6) _ _ M_X_grown 27 [.ref 0, .long x1, ev_unk, .int x3, .int x4, ev_unk, ev_unk, ev_unk] [.int (-1 : Int32)] (xoS h (1 : Int32) fk9 fp10) R from
          Ev.ret (r := (some (.int (-1 : Int32)))) (Or.inl ⟨_, rfl, by decide +kernel, _, rfl, rfl⟩) (k2 c1 c2)
        )
      ) (fun c2 =>
        Ev.go (pc' := 16) (ls' := [.ref 0, .long x1, ev_unk, .int x3, .int x4, ev_unk, ev_unk, ev_unk]) (st' := [.int (2 : Int32), .int x4]) [.iload 4, .iconst 2] (by decide +kernel) rfl <|
        Ev.cS0 (M' := M_X_isBelow) (as := [.int x4, .int (2 : Int32)]) (rest := []) l_X_148 M_X_isBelow_ok M_X_isBelow_st (by decide +kernel) rfl rfl (Nat.le_of_ble_eq_true rfl) (Nat.le_of_ble_eq_true rfl) (s_X_isBelow <| show Ev G (d + 6) _ _ M_X_grown 19 [.ref 0, .long x1, ev_unk, .int x3, .int x4, ev_unk, ev_unk, ev_unk] [.int (b2i (decide (0 ≤ x4 ∧ x4 < (2 : Int32))))] h R from
          Ev.br (i := .ifCond .ne (9)) (P := (b2i (decide (0 ≤ x4 ∧ x4 < (2 : Int32)))) = (0 : Int32)) (t := 22) (f := 28) (r := []) (by decide +kernel) rfl (fun c3 =>
            Ev.go (pc' := 24) (ls' := [.ref 0, .long x1, ev_unk, .int x3, .int x4, ev_unk, ev_unk, ev_unk]) (st' := [.int (1 : Int32), .ref 0]) [.aload_n 0, .iconst 1] (by decide +kernel) rfl <|
            Ev.cV0 (M' := M_X_refuse) (as := [.int (1 : Int32)]) (rest := []) l_X_67 M_X_refuse_ok M_X_refuse_in M_X_refuse_se (by decide +kernel) (r9 c1 c2 c3) rfl rfl rfl (Nat.le_of_ble_eq_true rfl) (Nat.le_of_ble_eq_true rfl) (s_X_refuse' (pr8 c1 c2 c3) <| show Ev G (d + 6) _ _ M_X_grown 27 [.ref 0, .long x1, ev_unk, .int x3, .int x4, ev_unk, ev_unk, ev_unk] [.int (-1 : Int32)] (xoS h (1 : Int32) fk12 fp13) R from
              Ev.ret (r := (some (.int (-1 : Int32)))) (Or.inl ⟨_, rfl, by decide +kernel, _, rfl, rfl⟩) (k3 c1 c2 c3)
            )
          ) (fun c3 =>
            Ev.go (pc' := 29) (ls' := [.ref 0, .long x1, ev_unk, .int x3, .int x4, ev_unk, ev_unk, ev_unk]) (st' := [.ref 0]) [.aload_n 0] (by decide +kernel) rfl <|
            Ev.getf f_X_10 (by decide +kernel) a10 rfl <|
            Ev.cV0 (M' := M_St_counting) (as := []) (rest := []) l_X_96 M_St_counting_ok M_St_counting_in M_St_counting_se (by decide +kernel) (r14 c1 c2 c3) rfl rfl rfl (Nat.le_of_ble_eq_true rfl) (Nat.le_of_ble_eq_true rfl) (s_St_counting (pr11 c1 c2 c3) (pr12 c1 c2 c3) (pr13 c1 c2 c3) <| show Ev G (d + 6) _ _ M_X_grown 35 [.ref 0, .long x1, ev_unk, .int x3, .int x4, ev_unk, ev_unk, ev_unk] [.int (setI (ctP S17))] h R from
              Ev.go (pc' := 39) (ls' := [.ref 0, .long x1, ev_unk, .int x3, .int x4, .int (setI (ctP S17)), ev_unk, ev_unk]) (st' := [.int (setI (ctP S17))]) [.istore 5, .iload 5] (by decide +kernel) rfl <|
              Ev.cS0 (M' := M_JI_bitCount) (as := [.int (setI (ctP S17))]) (rest := []) l_X_99 M_JI_bitCount_ok M_JI_bitCount_st (by decide +kernel) rfl rfl (Nat.le_of_ble_eq_true rfl) (Nat.le_of_ble_eq_true rfl) (s_JI_bitCount <| show Ev G (d + 6) _ _ M_X_grown 42 [.ref 0, .long x1, ev_unk, .int x3, .int x4, .int (setI (ctP S17)), ev_unk, ev_unk] [.int (nI (pop32 (setI (ctP S17))))] h R from
                Ev.go (pc' := 43) (ls' := [.ref 0, .long x1, ev_unk, .int x3, .int x4, .int (setI (ctP S17)), ev_unk, ev_unk]) (st' := [.int x3, .int (nI (pop32 (setI (ctP S17))))]) [.iload_n 3] (by decide +kernel) rfl <|
                Ev.br (i := .if_icmp .ge (10)) (P := (nI (pop32 (setI (ctP S17)))) < x3) (t := 46) (f := 53) (r := []) (by decide +kernel) rfl (fun c4 =>
                  Ev.go (pc' := 49) (ls' := [.ref 0, .long x1, ev_unk, .int x3, .int x4, .int (setI (ctP S17)), ev_unk, ev_unk]) (st' := [.int (6 : Int32), .ref 0]) [.aload_n 0, .bipush (6)] (by decide +kernel) rfl <|
                  Ev.cV0 (M' := M_X_refuse) (as := [.int (6 : Int32)]) (rest := []) l_X_67 M_X_refuse_ok M_X_refuse_in M_X_refuse_se (by decide +kernel) ⟨_, a10⟩ rfl rfl rfl (Nat.le_of_ble_eq_true rfl) (Nat.le_of_ble_eq_true rfl) (s_X_refuse' (pr15 c1 c2 c3 c4) <| show Ev G (d + 6) _ _ M_X_grown 52 [.ref 0, .long x1, ev_unk, .int x3, .int x4, .int (setI (ctP S17)), ev_unk, ev_unk] [.int (-1 : Int32)] (xoS h (6 : Int32) fk19 fp20) R from
                    Ev.ret (r := (some (.int (-1 : Int32)))) (Or.inl ⟨_, rfl, by decide +kernel, _, rfl, rfl⟩) (k4 c1 c2 c3 c4)
                  )
                ) (fun c4 =>
                  Ev.go (pc' := 54) (ls' := [.ref 0, .long x1, ev_unk, .int x3, .int x4, .int (setI (ctP S17)), ev_unk, ev_unk]) (st' := [.ref 0]) [.aload_n 0] (by decide +kernel) rfl <|
                  Ev.getf f_X_33 (by decide +kernel) a10 rfl <|
                  Ev.go (pc' := 58) (ls' := [.ref 0, .long x1, ev_unk, .int x3, .int x4, .int (setI (ctP S17)), ev_unk, ev_unk]) (st' := [.ref 0, .ref 81]) [.aload_n 0] (by decide +kernel) rfl <|
                  Ev.getf f_X_10 (by decide +kernel) a10 rfl <|
                  Ev.cV0 (M' := M_Bu_partLike) (as := [.ref 1]) (rest := []) l_X_195 M_Bu_partLike_ok M_Bu_partLike_in M_Bu_partLike_se (by decide +kernel) (r16 c1 c2 c3 c4) rfl rfl rfl (Nat.le_of_ble_eq_true rfl) (Nat.le_of_ble_eq_true rfl) (k5 c1 c2 c3 c4)
                )
              )
            )
          )
        )
      )
    )
  )
theorem b_X_grown_64 {G : ev_G} {d k n : Nat} {h : ev_H} {R : Option Value → ev_H → Prop} {x1 : Int64} {x3 : Int32} {x4 : Int32} {x5 : Int32} {f_latest_1 : Int32} {f_faultKind_2 : Int32} {f_faultPlace_3 : Int32} {f_bits_4 : Int32} {f_parts_5 : Int32} {f_size_6 : Int32} {fv7 : Value}
  (a1 : hat h 0 (oC 8 [.ref 1, .ref 5, .ref 18, .ref 81, .ref 98, .int f_latest_1, .int f_faultKind_2, .int f_faultPlace_3]))
  (a2 : hat h 1 (oC 6 [.int f_bits_4, .int f_parts_5, .ref 2, .int f_size_6, .ref 3, .ref 4, fv7]))
  (r3 : ∃ fs, hat h 81 (oC 0 fs))
  (k1 : Ev G (d + 5) 0 0 M_Bu_weigh 0 [.ref 81, .ref 3, .int x5, .long x1, ev_unk, ev_unk, ev_unk, ev_unk, ev_unk, ev_unk, ev_unk] [] h (fun r h1 => Ev G (d + 6) k n M_X_grown 81 [.ref 0, .long x1, ev_unk, .int x3, .int x4, .int x5, ev_unk, ev_unk] (r.toList ++ []) h1 R))
  : Ev G (d + 6) k n M_X_grown 64 [.ref 0, .long x1, ev_unk, .int x3, .int x4, .int x5, ev_unk, ev_unk] [] h R :=
  Ev.go (pc' := 65) (ls' := [.ref 0, .long x1, ev_unk, .int x3, .int x4, .int x5, ev_unk, ev_unk]) (st' := [.ref 0]) [.aload_n 0] (by decide +kernel) rfl <|
  Ev.getf f_X_33 (by decide +kernel) a1 rfl <|
  Ev.go (pc' := 69) (ls' := [.ref 0, .long x1, ev_unk, .int x3, .int x4, .int x5, ev_unk, ev_unk]) (st' := [.ref 0, .ref 81]) [.aload_n 0] (by decide +kernel) rfl <|
  Ev.getf f_X_10 (by decide +kernel) a1 rfl <|
  Ev.getf f_X_118 (by decide +kernel) a2 rfl <|
  Ev.go (pc' := 78) (ls' := [.ref 0, .long x1, ev_unk, .int x3, .int x4, .int x5, ev_unk, ev_unk]) (st' := [.long x1, .int x5, .ref 3, .ref 81]) [.iload 5, .lload_n 1] (by decide +kernel) rfl <|
  Ev.cV0 (M' := M_Bu_weigh) (as := [.ref 3, .int x5, .long x1]) (rest := []) l_X_205 M_Bu_weigh_ok M_Bu_weigh_in M_Bu_weigh_se (by decide +kernel) r3 rfl rfl rfl (Nat.le_of_ble_eq_true rfl) (Nat.le_of_ble_eq_true rfl) k1
theorem b_X_grown_81 {G : ev_G} {d k n : Nat} {h : ev_H} {R : Option Value → ev_H → Prop} {x1 : Int64} {x3 : Int32} {x4 : Int32} {x5 : Int32} {f_latest_1 : Int32} {f_faultKind_2 : Int32} {f_faultPlace_3 : Int32} {f_bits_4 : Int32} {f_parts_5 : Int32} {f_size_6 : Int32} {fv7 : Value}
  (a1 : hat h 0 (oC 8 [.ref 1, .ref 5, .ref 18, .ref 81, .ref 98, .int f_latest_1, .int f_faultKind_2, .int f_faultPlace_3]))
  (a2 : hat h 1 (oC 6 [.int f_bits_4, .int f_parts_5, .ref 2, .int f_size_6, .ref 3, .ref 4, fv7]))
  (r3 : ∃ fs, hat h 81 (oC 0 fs))
  (k1 : Ev G (d + 5) 0 0 M_Bu_tabulate 0 [.ref 81, .int f_bits_4, ev_unk, ev_unk, ev_unk] [] h (fun r h1 => Ev G (d + 6) k n M_X_grown 95 [.ref 0, .long x1, ev_unk, .int x3, .int x4, .int x5, ev_unk, ev_unk] (r.toList ++ []) h1 R))
  : Ev G (d + 6) k n M_X_grown 81 [.ref 0, .long x1, ev_unk, .int x3, .int x4, .int x5, ev_unk, ev_unk] [] h R :=
  Ev.go (pc' := 82) (ls' := [.ref 0, .long x1, ev_unk, .int x3, .int x4, .int x5, ev_unk, ev_unk]) (st' := [.ref 0]) [.aload_n 0] (by decide +kernel) rfl <|
  Ev.getf f_X_33 (by decide +kernel) a1 rfl <|
  Ev.go (pc' := 86) (ls' := [.ref 0, .long x1, ev_unk, .int x3, .int x4, .int x5, ev_unk, ev_unk]) (st' := [.ref 0, .ref 81]) [.aload_n 0] (by decide +kernel) rfl <|
  Ev.getf f_X_10 (by decide +kernel) a1 rfl <|
  Ev.getf f_X_90 (by decide +kernel) a2 rfl <|
  Ev.cV0 (M' := M_Bu_tabulate) (as := [.int f_bits_4]) (rest := []) l_X_228 M_Bu_tabulate_ok M_Bu_tabulate_in M_Bu_tabulate_se (by decide +kernel) r3 rfl rfl rfl (Nat.le_of_ble_eq_true rfl) (Nat.le_of_ble_eq_true rfl) k1
theorem b_X_grown_95 {G : ev_G} {d k n : Nat} {h : ev_H} {R : Option Value → ev_H → Prop} {x1 : Int64} {x3 : Int32} {x4 : Int32} {x5 : Int32} {f_latest_1 : Int32} {f_faultKind_2 : Int32} {f_faultPlace_3 : Int32}
  (a1 : hat h 0 (oC 8 [.ref 1, .ref 5, .ref 18, .ref 81, .ref 98, .int f_latest_1, .int f_faultKind_2, .int f_faultPlace_3]))
  (r2 : ∃ fs, hat h 81 (oC 0 fs))
  (k1 : Ev G (d + 5) 0 0 M_Bu_choose 0 [.ref 81, .int (0 : Int32), ev_unk, ev_unk, ev_unk, ev_unk] [] h (fun r h1 => Ev G (d + 6) k n M_X_grown 107 [.ref 0, .long x1, ev_unk, .int x3, .int x4, .int x5, .int (0 : Int32), ev_unk] (r.toList ++ []) h1 R))
  : Ev G (d + 6) k n M_X_grown 95 [.ref 0, .long x1, ev_unk, .int x3, .int x4, .int x5, ev_unk, ev_unk] [] h R :=
  Ev.go (pc' := 99) (ls' := [.ref 0, .long x1, ev_unk, .int x3, .int x4, .int x5, .int (0 : Int32), ev_unk]) (st' := [.ref 0]) [.iconst 0, .istore 6, .aload_n 0] (by decide +kernel) rfl <|
  Ev.getf f_X_33 (by decide +kernel) a1 rfl <|
  Ev.go (pc' := 104) (ls' := [.ref 0, .long x1, ev_unk, .int x3, .int x4, .int x5, .int (0 : Int32), ev_unk]) (st' := [.int (0 : Int32), .ref 81]) [.iload 6] (by decide +kernel) rfl <|
  Ev.cV0 (M' := M_Bu_choose) (as := [.int (0 : Int32)]) (rest := []) l_X_231 M_Bu_choose_ok M_Bu_choose_in M_Bu_choose_se (by decide +kernel) r2 rfl rfl rfl (Nat.le_of_ble_eq_true rfl) (Nat.le_of_ble_eq_true rfl) k1
theorem b_X_grown_107 {G : ev_G} {d k n : Nat} {h : ev_H} {R : Option Value → ev_H → Prop} {x1 : Int64} {x3 : Int32} {x4 : Int32} {x5 : Int32} {x6 : Int32} {y0 : Int32}
  (k1 : Ev G (d + 6) k n M_X_grown 109 [.ref 0, .long x1, ev_unk, .int x3, .int x4, .int x5, .int x6, .int y0] [] h R)
  : Ev G (d + 6) k n M_X_grown 107 [.ref 0, .long x1, ev_unk, .int x3, .int x4, .int x5, .int x6, ev_unk] [.int y0] h R :=
  Ev.go (pc' := 109) (ls' := [.ref 0, .long x1, ev_unk, .int x3, .int x4, .int x5, .int x6, .int y0]) (st' := []) [.istore 7] (by decide +kernel) rfl <|
  k1
theorem b_X_grown_109 {G : ev_G} {d k n : Nat} {h : ev_H} {R : Option Value → ev_H → Prop} {x1 : Int64} {x3 : Int32} {x4 : Int32} {x5 : Int32} {x6 : Int32} {x7 : Int32} {f_latest_1 : Int32} {f_faultKind_2 : Int32} {f_faultPlace_3 : Int32} {f_bits_4 : Int32} {f_parts_5 : Int32} {f_size_6 : Int32} {fv7 : Value} {S8 : AS} {r_9 : Nat} {la10 : Int32} {fk11 : Int32} {fp12 : Int32} {la13 : Int32} {fk14 : Int32} {fp15 : Int32} {la16 : Int32} {fk17 : Int32} {fp18 : Int32} {la19 : Int32} {fk20 : Int32} {fp21 : Int32}
  (a1 : hat h 0 (oC 8 [.ref 1, .ref 5, .ref 18, .ref 81, .ref 98, .int f_latest_1, .int f_faultKind_2, .int f_faultPlace_3]))
  (a2 : hat h 1 (oC 6 [.int f_bits_4, .int f_parts_5, .ref 2, .int f_size_6, .ref 3, .ref 4, fv7]))
  (pr3 : x6 < f_bits_4 → StR h 1 S8)
  (pr4 : x6 < f_bits_4 → sOk S8)
  (pr5 : x6 < f_bits_4 → x6 = nI r_9 ∧ r_9 < 2147483648)
  (r6 : x6 < f_bits_4 → (nI (pop32 (setI (nrP S8 (bt x5) x1 r_9)))) < x3 → ∃ fs, hat h 81 (oC 0 fs))
  (pr7 : x6 < f_bits_4 → ¬ (nI (pop32 (setI (nrP S8 (bt x5) x1 r_9)))) < x3 → x4 = (0 : Int32) → XO h la10 fk11 fp12)
  (pr8 : x6 < f_bits_4 → ¬ (nI (pop32 (setI (nrP S8 (bt x5) x1 r_9)))) < x3 → ¬ x4 = (0 : Int32) → XO h la13 fk14 fp15)
  (pr9 : ¬ x6 < f_bits_4 → x4 = (0 : Int32) → XO h la16 fk17 fp18)
  (pr10 : ¬ x6 < f_bits_4 → ¬ x4 = (0 : Int32) → XO h la19 fk20 fp21)
  (k1 : x6 < f_bits_4 → (nI (pop32 (setI (nrP S8 (bt x5) x1 r_9)))) < x3 → Ev G (d + 5) 0 0 M_Bu_choose 0 [.ref 81, .int (x6 + (1 : Int32)), ev_unk, ev_unk, ev_unk, ev_unk] [] h (fun r h1 => Ev G (d + 6) k n M_X_grown 154 [.ref 0, .long x1, ev_unk, .int x3, .int x4, .int x5, .int (x6 + (1 : Int32)), .int x7] (r.toList ++ [.int x7]) h1 R))
  (k2 : x6 < f_bits_4 → ¬ (nI (pop32 (setI (nrP S8 (bt x5) x1 r_9)))) < x3 → x4 = (0 : Int32) → R (some (.int x6)) (xoS h 0 fk11 fp12))
  (k3 : x6 < f_bits_4 → ¬ (nI (pop32 (setI (nrP S8 (bt x5) x1 r_9)))) < x3 → ¬ x4 = (0 : Int32) → R (some (.int x7)) (xoS h 0 fk14 fp15))
  (k4 : ¬ x6 < f_bits_4 → x4 = (0 : Int32) → R (some (.int x6)) (xoS h 0 fk17 fp18))
  (k5 : ¬ x6 < f_bits_4 → ¬ x4 = (0 : Int32) → R (some (.int x7)) (xoS h 0 fk20 fp21))
  : Ev G (d + 6) k n M_X_grown 109 [.ref 0, .long x1, ev_unk, .int x3, .int x4, .int x5, .int x6, .int x7] [] h R :=
  Ev.go (pc' := 112) (ls' := [.ref 0, .long x1, ev_unk, .int x3, .int x4, .int x5, .int x6, .int x7]) (st' := [.ref 0, .int x6]) [.iload 6, .aload_n 0] (by decide +kernel) rfl <|
  Ev.getf f_X_10 (by decide +kernel) a1 rfl <|
  Ev.getf f_X_90 (by decide +kernel) a2 rfl <|
  Ev.br (i := .if_icmp .ge (42)) (P := x6 < f_bits_4) (t := 121) (f := 160) (r := []) (by decide +kernel) rfl (fun c1 =>
    Ev.go (pc' := 122) (ls' := [.ref 0, .long x1, ev_unk, .int x3, .int x4, .int x5, .int x6, .int x7]) (st' := [.ref 0]) [.aload_n 0] (by decide +kernel) rfl <|
    Ev.getf f_X_10 (by decide +kernel) a1 rfl <|
    Ev.go (pc' := 130) (ls' := [.ref 0, .long x1, ev_unk, .int x3, .int x4, .int x5, .int x6, .int x7]) (st' := [.int x6, .long x1, .int x5, .ref 1]) [.iload 5, .lload_n 1, .iload 6] (by decide +kernel) rfl <|
    Ev.cV0 (M' := M_St_within) (as := [.int x5, .long x1, .int x6]) (rest := []) l_X_217 M_St_within_ok M_St_within_in M_St_within_se (by decide +kernel) ⟨_, a2⟩ rfl rfl rfl (Nat.le_of_ble_eq_true rfl) (Nat.le_of_ble_eq_true rfl) (s_St_within' (pr3 c1) (pr4 c1) (pr5 c1) <| show Ev G (d + 6) _ _ M_X_grown 133 [.ref 0, .long x1, ev_unk, .int x3, .int x4, .int x5, .int x6, .int x7] [.int (setI (nrP S8 (bt x5) x1 r_9))] h R from
      Ev.cS0 (M' := M_JI_bitCount) (as := [.int (setI (nrP S8 (bt x5) x1 r_9))]) (rest := []) l_X_99 M_JI_bitCount_ok M_JI_bitCount_st (by decide +kernel) rfl rfl (Nat.le_of_ble_eq_true rfl) (Nat.le_of_ble_eq_true rfl) (s_JI_bitCount <| show Ev G (d + 6) _ _ M_X_grown 136 [.ref 0, .long x1, ev_unk, .int x3, .int x4, .int x5, .int x6, .int x7] [.int (nI (pop32 (setI (nrP S8 (bt x5) x1 r_9))))] h R from
        Ev.go (pc' := 137) (ls' := [.ref 0, .long x1, ev_unk, .int x3, .int x4, .int x5, .int x6, .int x7]) (st' := [.int x3, .int (nI (pop32 (setI (nrP S8 (bt x5) x1 r_9))))]) [.iload_n 3] (by decide +kernel) rfl <|
        Ev.br (i := .if_icmp .ge (23)) (P := (nI (pop32 (setI (nrP S8 (bt x5) x1 r_9)))) < x3) (t := 140) (f := 160) (r := []) (by decide +kernel) rfl (fun c2 =>
          Ev.go (pc' := 146) (ls' := [.ref 0, .long x1, ev_unk, .int x3, .int x4, .int x5, .int (x6 + (1 : Int32)), .int x7]) (st' := [.ref 0, .int x7]) [.iinc 6 (1), .iload 7, .aload_n 0] (by decide +kernel) rfl <|
          Ev.getf f_X_33 (by decide +kernel) a1 rfl <|
          Ev.go (pc' := 151) (ls' := [.ref 0, .long x1, ev_unk, .int x3, .int x4, .int x5, .int (x6 + (1 : Int32)), .int x7]) (st' := [.int (x6 + (1 : Int32)), .ref 81, .int x7]) [.iload 6] (by decide +kernel) rfl <|
          Ev.cV0 (M' := M_Bu_choose) (as := [.int (x6 + (1 : Int32))]) (rest := [.int x7]) l_X_231 M_Bu_choose_ok M_Bu_choose_in M_Bu_choose_se (by decide +kernel) (r6 c1 c2) rfl rfl rfl (Nat.le_of_ble_eq_true rfl) (Nat.le_of_ble_eq_true rfl) (k1 c1 c2)
        ) (fun c2 =>
          Ev.go (pc' := 163) (ls' := [.ref 0, .long x1, ev_unk, .int x3, .int x4, .int x5, .int x6, .int x7]) (st' := [.int x4, .ref 0]) [.aload_n 0, .iload 4] (by decide +kernel) rfl <|
          Ev.br (i := .ifCond .ne (8)) (P := x4 = (0 : Int32)) (t := 166) (f := 171) (r := [.ref 0]) (by decide +kernel) rfl (fun c3 =>
            Ev.go (pc' := 173) (ls' := [.ref 0, .long x1, ev_unk, .int x3, .int x4, .int x5, .int x6, .int x7]) (st' := [.int x6, .ref 0]) [.iload 6, .goto (5)] (by decide +kernel) rfl <|
            Ev.cV0 (M' := M_X_answer) (as := [.int x6]) (rest := []) l_X_87 M_X_answer_ok M_X_answer_in M_X_answer_se (by decide +kernel) ⟨_, a1⟩ rfl rfl rfl (Nat.le_of_ble_eq_true rfl) (Nat.le_of_ble_eq_true rfl) (s_X_answer' (pr7 c1 c2 c3) <| show Ev G (d + 6) _ _ M_X_grown 176 [.ref 0, .long x1, ev_unk, .int x3, .int x4, .int x5, .int x6, .int x7] [.int x6] (xoS h 0 fk11 fp12) R from
              Ev.ret (r := (some (.int x6))) (Or.inl ⟨_, rfl, by decide +kernel, _, rfl, rfl⟩) (k2 c1 c2 c3)
            )
          ) (fun c3 =>
            Ev.go (pc' := 173) (ls' := [.ref 0, .long x1, ev_unk, .int x3, .int x4, .int x5, .int x6, .int x7]) (st' := [.int x7, .ref 0]) [.iload 7] (by decide +kernel) rfl <|
            Ev.cV0 (M' := M_X_answer) (as := [.int x7]) (rest := []) l_X_87 M_X_answer_ok M_X_answer_in M_X_answer_se (by decide +kernel) ⟨_, a1⟩ rfl rfl rfl (Nat.le_of_ble_eq_true rfl) (Nat.le_of_ble_eq_true rfl) (s_X_answer' (pr8 c1 c2 c3) <| show Ev G (d + 6) _ _ M_X_grown 176 [.ref 0, .long x1, ev_unk, .int x3, .int x4, .int x5, .int x6, .int x7] [.int x7] (xoS h 0 fk14 fp15) R from
              Ev.ret (r := (some (.int x7))) (Or.inl ⟨_, rfl, by decide +kernel, _, rfl, rfl⟩) (k3 c1 c2 c3)
            )
          )
        )
      )
    )
  ) (fun c1 =>
    Ev.go (pc' := 163) (ls' := [.ref 0, .long x1, ev_unk, .int x3, .int x4, .int x5, .int x6, .int x7]) (st' := [.int x4, .ref 0]) [.aload_n 0, .iload 4] (by decide +kernel) rfl <|
    Ev.br (i := .ifCond .ne (8)) (P := x4 = (0 : Int32)) (t := 166) (f := 171) (r := [.ref 0]) (by decide +kernel) rfl (fun c2 =>
      Ev.go (pc' := 173) (ls' := [.ref 0, .long x1, ev_unk, .int x3, .int x4, .int x5, .int x6, .int x7]) (st' := [.int x6, .ref 0]) [.iload 6, .goto (5)] (by decide +kernel) rfl <|
      Ev.cV0 (M' := M_X_answer) (as := [.int x6]) (rest := []) l_X_87 M_X_answer_ok M_X_answer_in M_X_answer_se (by decide +kernel) ⟨_, a1⟩ rfl rfl rfl (Nat.le_of_ble_eq_true rfl) (Nat.le_of_ble_eq_true rfl) (s_X_answer' (pr9 c1 c2) <| show Ev G (d + 6) _ _ M_X_grown 176 [.ref 0, .long x1, ev_unk, .int x3, .int x4, .int x5, .int x6, .int x7] [.int x6] (xoS h 0 fk17 fp18) R from
        Ev.ret (r := (some (.int x6))) (Or.inl ⟨_, rfl, by decide +kernel, _, rfl, rfl⟩) (k4 c1 c2)
      )
    ) (fun c2 =>
      Ev.go (pc' := 173) (ls' := [.ref 0, .long x1, ev_unk, .int x3, .int x4, .int x5, .int x6, .int x7]) (st' := [.int x7, .ref 0]) [.iload 7] (by decide +kernel) rfl <|
      Ev.cV0 (M' := M_X_answer) (as := [.int x7]) (rest := []) l_X_87 M_X_answer_ok M_X_answer_in M_X_answer_se (by decide +kernel) ⟨_, a1⟩ rfl rfl rfl (Nat.le_of_ble_eq_true rfl) (Nat.le_of_ble_eq_true rfl) (s_X_answer' (pr10 c1 c2) <| show Ev G (d + 6) _ _ M_X_grown 176 [.ref 0, .long x1, ev_unk, .int x3, .int x4, .int x5, .int x6, .int x7] [.int x7] (xoS h 0 fk20 fp21) R from
        Ev.ret (r := (some (.int x7))) (Or.inl ⟨_, rfl, by decide +kernel, _, rfl, rfl⟩) (k5 c1 c2)
      )
    )
  )
theorem b_X_grown_154 {G : ev_G} {d k n : Nat} {h : ev_H} {R : Option Value → ev_H → Prop} {x1 : Int64} {x3 : Int32} {x4 : Int32} {x5 : Int32} {x6 : Int32} {x7 : Int32} {y0 : Int32} {y1 : Int32}
  (k1 : Ev G (d + 6) k n M_X_grown 109 [.ref 0, .long x1, ev_unk, .int x3, .int x4, .int x5, .int x6, .int (y0 + y1)] [] h R)
  : Ev G (d + 6) k n M_X_grown 154 [.ref 0, .long x1, ev_unk, .int x3, .int x4, .int x5, .int x6, .int x7] [.int y1, .int y0] h R :=
  Ev.go (pc' := 109) (ls' := [.ref 0, .long x1, ev_unk, .int x3, .int x4, .int x5, .int x6, .int (y0 + y1)]) (st' := []) [.iadd, .istore 7, .goto (-48)] (by decide +kernel) rfl <|
  k1
def a_c (S : AS) (x : Int64) : Nat → Nat → Nat := cstN (ctP S) (sCo S) x (sBr S)
def a_sh (S : AS) (x : Int64) (r : Nat) : Nat → Nat := bShr (a_c S x) (sBr S) (sP S) r
def a_co (S : AS) (x : Int64) (r : Nat) : Nat := bLp (a_c S x) (sBr S) (sP S) 0 (r + 1)
def a_can (S : AS) (x : Int64) (r : Nat) : Nat → Bool := canP (ctP S) (sCo S) x (sBr S) (a_sh S x r) (sP S)
def a_nr (S : AS) (x : Int64) (r : Nat) : Nat → Bool := nrP S (ctP S) x r
def a_budget (S : AS) (x : Int64) (r p : Int32) : Int32 × Int32 := if numB x (sB S) then (if inR r (sB S + 1) then (if inR p (sP S) then (nI (a_sh S x (vN r) (vN p)) - 1, 0) else (-1, 2)) else (-1, 1)) else (-1, 1)
def a_cost (S : AS) (x : Int64) (p b : Int32) : Int32 × Int32 := if numB x (sB S) then (if b < -1 then (-1, 1) else if inR p (sP S) then (if nI (sBr S (vN p)) < b then (-1, 1) else (nI (a_c S x (vN p) (vN (b + 1))), 0)) else (-1, 2)) else (-1, 1)
def a_near (S : AS) (x : Int64) (r w : Int32) : Int32 × Int32 := if numB x (sB S) then (if inR r (sB S + 1) then (if decide (0 ≤ w ∧ w < (5 : Int32)) then (if w = 0 then nI (a_co S x (vN r)) else if w = 1 then nI (cnt (a_can S x (vN r)) 32) else if w = 2 then nI (cnt (a_nr S x (vN r)) 32) else if w = 3 then setI (a_can S x (vN r)) else setI (a_nr S x (vN r)), 0) else (-1, 1)) else (-1, 1)) else (-1, 1)
def a_grR (S : AS) (x : Int64) (k : Nat) : Nat := fst (fun r => decide (k ≤ cnt (a_nr S x r) 32)) (sB S)
def a_grown (S : AS) (x : Int64) (k w : Int32) : Int32 × Int32 := if numB x (sB S) then (if k < 1 then (-1, 1) else if decide (0 ≤ w ∧ w < (2 : Int32)) then (if nI (cnt (ctP S) 32) < k then (-1, 6) else (if w = 0 then nI (a_grR S x (vN k)) else nI (sumT (a_co S x) (a_grR S x (vN k) + 1)), 0)) else (-1, 1)) else (-1, 1)
theorem ctP_lt {S : AS} {j : Nat} (h : ctP S j = true) : j < sN S := by
  unfold ctP at h; rw [Bool.and_eq_true, decide_eq_true_iff] at h; exact h.1
theorem bt_ct {S : AS} (h : sN S ≤ 32) : bt (setI (ctP S)) = ctP S := by
  funext j
  rw [bt_setI]
  by_cases c : j < 32
  · rw [decide_eq_true c]; rfl
  · rw [decide_eq_false c]
    cases q : ctP S j
    · rfl
    · exact absurd (ctP_lt q) (by omega)
theorem pop32_nr (p : Nat → Bool) : pop32 (setI p) = cnt p 32 := pop32_setI p
section S30
variable {G : ev_G} {d : Nat} {h h1 h2 : ev_H} {R : Option Value → ev_H → Prop} {Q : QS}
theorem XR.ctx (H : XR h Q) : bt (setI (ctP (qS Q))) = ctP (qS Q) := bt_ct H.szN
theorem s_partQ (H : XR h Q) (hR : ∀ h1, Kg h h1 0 102 → XR h1 Q → (∀ c' r', BuP h1 (sP (qS Q)) (sBr (qS Q)) c' 0 r' (sP (qS Q))) → R none h1) : Ev G (d + 1) 0 0 M_Bu_partLike 0 [.ref 81, .ref 1] [] h R := by
  obtain ⟨P, W, c, kc, r, lo, B⟩ := H.bu
  exact s_Bu_partLike B H.s H.ok (by omega) fun h1 K b => hR h1 (K.g.wide (by omega) (by omega)) (H.inBu (K.wide (by omega) (by omega)) ⟨_, _, _, _, _, _, b (fun _ _ => 0) 0⟩) b
theorem s_planQ {x : Int64} {rI : Int32} {r : Nat} {lo kc r0 : Nat} {c0 : Nat → Nat → Nat} (H : XR h Q) (B : BuP h (sP (qS Q)) (sBr (qS Q)) c0 kc r0 lo) (hr : rI = nI r ∧ r ≤ 48) (hR : ∀ h', Kg h h' 0 102 → XR h' Q → BuP h' (sP (qS Q)) (sBr (qS Q)) (a_c (qS Q) x) (sP (qS Q)) r 1 → BuC h' (sP (qS Q)) (a_sh (qS Q) x r) (sP (qS Q)) → R (some (.int (nI (a_co (qS Q) x r)))) h') : Ev G (d + 3) 0 0 M_Bu_plan 0 [.ref 81, .ref 3, .int (setI (ctP (qS Q))), .long x, ev_unk, .int rI] [] h R := by
  refine s_X_plan B H.s (fun j hj => ?_) (by rw [H.ok.2.2.2.2.2.2.2]; exact H.szB) hr fun h' K B' C => ?_
  · rw [H.ctx] at hj; exact ctP_lt hj
  · rw [H.ctx] at B' C ⊢
    exact hR h' (K.g.wide (by omega) (by omega)) (H.inBu (K.wide (by omega) (by omega)) ⟨_, _, _, _, _, _, B'⟩) B' C
theorem inR_rad {r : Int32} {b : Nat} (hb : b ≤ 48) (h : inR r (b + 1) = true) : r = nI (vN r) ∧ vN r ≤ b := by
  have := vN_lt (by omega) h
  exact ⟨this.1, by omega⟩
theorem s_X_budget {x : Int64} {r p : Int32} (H : XR h Q) (hR : ∀ h', Kg h h' 0 102 → XR h' (stQ Q (a_budget (qS Q) x r p).2) → R (some (.int (a_budget (qS Q) x r p).1)) h') : Ev G (d + 6) 0 0 M_X_budget 0 [.ref 0, .long x, ev_unk, .int r, .int p] [] h R := by
  have hz := H.szP
  have hzB := H.szB
  refine b_X_budget_0 H.x H.x H.s ⟨_, H.x⟩ (fun c1 => H.x) (fun c1 => ⟨_, H.x⟩) (fun c1 => H.x) (fun c1 => H.s) (fun c1 => H.ok) (fun c1 => ⟨_, H.x⟩) (fun c1 c2 => H.x) (fun c1 c2 => ⟨_, H.x⟩) (fun c1 c2 => H.x) (fun c1 c2 => H.s) (fun c1 c2 => H.ok) (fun c1 c2 => ⟨_, H.x⟩) (fun c1 c2 c3 => H.x) (fun c1 c2 c3 => ⟨_, H.x⟩) (fun c1 c2 c3 => H.bu.obj) (fun c1 => H.fin (Kg.refl _ _ _) hR (by unfold a_budget; rw [(b2i_e0 c1)]; rfl)) (fun c1 c2 => H.fin (Kg.refl _ _ _) hR (by unfold a_budget; rw [(b2i_n0 c1), (b2i_e0 c2)]; rfl)) (fun c1 c2 c3 => H.fin (Kg.refl _ _ _) hR (by unfold a_budget; rw [(b2i_n0 c1), (b2i_n0 c2), (b2i_e0 c3)]; rfl)) (fun c1 c2 c3 => ?_)
  have vr := inR_rad hzB (b2i_n0 c2)
  have vp := vN_lt (by omega) (b2i_n0 c3)
  have e : a_budget (qS Q) x r p = (nI (a_sh (qS Q) x (vN r) (vN p)) - 1, 0) := by unfold a_budget; rw [b2i_n0 c1, b2i_n0 c2, b2i_n0 c3]; rfl
  rw [e] at hR
  refine s_partQ H fun h1 K1 H B => ?_
  obtain ⟨brf, tgf, cof, fv, t1, t2, t3, t4, e1, e2, -⟩ := H.s
  refine b_X_budget_48 H.x t1 H.s H.ok H.fo H.bu.obj ?_
  refine s_planQ H (B (fun _ _ => 0) 0) ⟨vr.1, by omega⟩ fun h2 K2 H B C => ?_
  obtain ⟨ch, g97, hch⟩ := C
  refine b_X_budget_71 H.x B.2.2.2.1 g97 (ixv (b2i_n0 c3) hz (by decide)) H.x ?_
  exact H.fin (K1.trans K2) hR (by rw [hch _ vp.2])
theorem succ_of {x : Int32} {w : Nat} (h : ¬ x < -1) (h2 : ¬ nI w < x) (hw : w ≤ 24) : ∃ s, s ≤ w + 1 ∧ x + 1 = nI s := by
  have m1 : (-1 : Int32).toInt = -1 := rfl
  by_cases c : x = -1
  · subst c; exact ⟨0, by omega, rfl⟩
  · have : ¬ x < 0 := fun z => by
      rw [Int32.lt_iff_toInt_lt] at z h
      rw [m1] at h
      rw [show (0 : Int32).toInt = 0 from rfl] at z
      exact c (Int32.toInt_inj.mp (by rw [m1]; omega))
    obtain ⟨j, hj, rfl⟩ := nI_of this
    have : ¬ w < j := fun z => h2 (nI_lt z hj)
    exact ⟨j + 1, by omega, nI_1 j⟩
theorem s_X_cost {x : Int64} {p b : Int32} (H : XR h Q) (hR : ∀ h', Kg h h' 0 102 → XR h' (stQ Q (a_cost (qS Q) x p b).2) → R (some (.int (a_cost (qS Q) x p b).1)) h') : Ev G (d + 6) 0 0 M_X_cost 0 [.ref 0, .long x, ev_unk, .int p, .int b] [] h R := by
  have hz := H.szP
  have hzB := H.szB
  have o6 := H.ok.2.2.2.2.2.1
  obtain ⟨brf, tgf, cof, fv, t1, t2, t3, t4, e1, e2, -⟩ := H.s
  have g2 : numB x (sB (qS Q)) = true → ¬ b < -1 → (inR p (sP (qS Q)) = true → ¬ nI (sBr (qS Q) (vN p)) < b) → Ev G (d + 6) 0 0 M_X_cost 42 [.ref 0, .long x, ev_unk, .int p, .int b] [] h R := by
    intro w1 w2 w3
    refine b_X_cost_42 H.x H.x H.s H.ok ⟨_, H.x⟩ (fun c1 => H.x) (fun c1 => ⟨_, H.x⟩) (fun c1 => H.bu.obj) (fun c1 => H.fin (Kg.refl _ _ _) hR (by unfold a_cost; rw [w1, (b2i_e0 c1), if_neg w2]; rfl)) (fun c1 => ?_)
    have cp := b2i_n0 c1
    have vp := vN_lt (by omega) cp
    obtain ⟨s, hs, es⟩ := succ_of w2 (w3 cp) (o6 _ vp.2)
    have e : a_cost (qS Q) x p b = (nI (a_c (qS Q) x (vN p) s), 0) := by unfold a_cost; rw [if_pos w1, if_neg w2, if_pos cp, if_neg (w3 cp), es, vN_nI (by have := o6 _ vp.2; omega)]
    rw [e] at hR
    clear t1 t2 t3 t4 e1 e2
    refine s_partQ H fun h1 K1 H B => ?_
    obtain ⟨brf, tgf, cof, fv, t1, t2, t3, t4, e1, e2, -⟩ := H.s
    refine b_X_cost_67 H.x t1 H.s H.ok H.fo H.bu.obj ?_
    refine s_Bu_weigh (B (cstN (bt (setI (ctP (qS Q)))) cof x (sBr (qS Q))) 0) rfl (by rw [H.ok.2.2.2.2.2.2.2]; exact H.szB) t3 (by omega) fun h2 K2 B => ?_
    have H2 : XR h2 Q := H.inBu (K2.wide (by omega) (by omega)) ⟨_, _, _, _, _, _, B⟩
    have ec : cstN (bt (setI (ctP (qS Q)))) cof x (sBr (qS Q)) = a_c (qS Q) x := by
      rw [H.ctx]
      exact cstN_congr (fun j q => (e2 j (ctP_lt q)).1) x _
    rw [ec] at B
    have H := H2
    obtain ⟨gr, hgr, hval⟩ := B.2.2.2.2.2.2.2.1 (vN p) (by omega)
    refine b_X_cost_89 H.x B.2.2.2.1 B.2.2.2.2.2.1 hgr (ixv cp hz (by decide)) ⟨es, by have := o6 _ vp.2; omega, by decide⟩ H.x ?_
    refine H.fin (K1.trans (K2.g.wide (by omega) (by omega))) hR ?_
    rw [hval vp.2 s hs]
  refine b_X_cost_0 H.x t1 t2 H.x H.s ⟨_, H.x⟩ (fun c1 => H.x) (fun c1 => ⟨_, H.x⟩) (fun c1 c2 => H.x) (fun c1 c2 => ⟨_, H.x⟩) (fun c1 c2 => H.x) (fun c1 c2 => H.s) (fun c1 c2 => H.ok) (fun c1 c2 => ⟨_, H.x⟩) (fun c1 c2 c3 => ixv (b2i_n0 c3) hz (by decide)) (fun c1 c2 c3 c4 => H.x) (fun c1 => H.fin (Kg.refl _ _ _) hR (by unfold a_cost; rw [(b2i_e0 c1)]; rfl)) (fun c1 c2 => H.fin (Kg.refl _ _ _) hR (by unfold a_cost; rw [(b2i_n0 c1), if_pos c2]; rfl)) (fun c1 c2 c3 => g2 (b2i_n0 c1) c2 (fun z => by rw [(b2i_e0 c3)] at z; cases z)) (fun c1 c2 c3 c4 => H.fin (Kg.refl _ _ _) hR (by unfold a_cost; rw [if_pos (b2i_n0 c1), if_neg c2, if_pos (b2i_n0 c3), if_pos (by rw [← e1 _ (vN_lt (by omega) (b2i_n0 c3)).2]; exact c4)])) (fun c1 c2 c3 c4 => g2 (b2i_n0 c1) c2 (fun z => by rw [← e1 _ (vN_lt (by omega) z).2]; exact c4))
theorem setI_can {p : Nat → Bool} {co co' : Nat → Int64} {x : Int64} {W sh : Nat → Nat} {P : Nat} (hp : ∀ j, p j = true → co j = co' j) : canP p co x W sh P = canP p co' x W sh P := by
  funext j
  unfold canP
  cases q : p j
  · rfl
  · rw [hp j q]
theorem a_sh_le (S : AS) (x : Int64) {r : Nat} (hr : r ≤ 48) (i : Nat) : a_sh S x r i ≤ 49 := by
  unfold a_sh bShr
  have := bLf_le (a_c S x) (sBr S) (sP S) r i
  split
  · omega
  · refine Nat.le_trans (bst_le _ _) ?_
    omega
theorem s_X_near {x : Int64} {r w : Int32} (H : XR h Q) (hR : ∀ h', Kg h h' 0 102 → XR h' (stQ Q (a_near (qS Q) x r w).2) → R (some (.int (a_near (qS Q) x r w).1)) h') : Ev G (d + 6) 0 0 M_X_near 0 [.ref 0, .long x, ev_unk, .int r, .int w, ev_unk, ev_unk, ev_unk, ev_unk] [] h R := by
  have hzB := H.szB
  refine b_X_near_0 H.x H.x H.s ⟨_, H.x⟩ (fun c1 => H.x) (fun c1 => ⟨_, H.x⟩) (fun c1 => H.x) (fun c1 => H.s) (fun c1 => H.ok) (fun c1 => ⟨_, H.x⟩) (fun c1 c2 => H.x) (fun c1 c2 => ⟨_, H.x⟩) (fun c1 c2 c3 => H.x) (fun c1 c2 c3 => ⟨_, H.x⟩) (fun c1 c2 c3 => H.s) (fun c1 c2 c3 => H.ok) (fun c1 c2 c3 => H.fo) (fun c1 c2 c3 => H.s.obj) (fun c1 c2 c3 => H.bu.obj) (fun c1 => H.fin (Kg.refl _ _ _) hR (by unfold a_near; rw [(b2i_e0 c1)]; rfl)) (fun c1 c2 => H.fin (Kg.refl _ _ _) hR (by unfold a_near; rw [(b2i_n0 c1), (b2i_e0 c2)]; rfl)) (fun c1 c2 c3 => H.fin (Kg.refl _ _ _) hR (by unfold a_near; rw [(b2i_n0 c1), (b2i_n0 c2), (b2i_e0 c3)]; rfl)) (fun c1 c2 c3 => ?_)
  have vr := inR_rad hzB (b2i_n0 c2)
  have e : a_near (qS Q) x r w = (if w = 0 then nI (a_co (qS Q) x (vN r)) else if w = 1 then nI (cnt (a_can (qS Q) x (vN r)) 32) else if w = 2 then nI (cnt (a_nr (qS Q) x (vN r)) 32) else if w = 3 then setI (a_can (qS Q) x (vN r)) else setI (a_nr (qS Q) x (vN r)), 0) := by unfold a_near; rw [b2i_n0 c1, b2i_n0 c2, b2i_n0 c3]; rfl
  rw [e] at hR
  refine s_partQ H fun h1 K1 H B => ?_
  obtain ⟨brf, tgf, cof, fv, t1, t2, t3, t4, e1, e2, -⟩ := H.s
  refine b_X_near_51 H.x t1 H.bu.obj ?_
  refine s_planQ H (B (fun _ _ => 0) 0) ⟨vr.1, by omega⟩ fun h2 K2 H B C => ?_
  obtain ⟨brf, tgf, cof, fv, t1, t2, t3, t4, e1, e2, -⟩ := H.s
  refine b_X_near_69 H.x t1 H.bu.obj ?_
  refine s_Bu_candidates B C (fun i _ => a_sh_le _ _ (by omega) i) (by rw [H.ok.2.2.2.2.2.2.2]; exact H.szB) t3 ?_
  rw [H.ctx, setI_can (co' := sCo (qS Q)) (fun j q => (e2 j (ctP_lt q)).1)]
  refine b_X_near_88 H.x H.s H.ok ⟨vr.1, by omega⟩ H.s.obj (fun c1 => H.x) (fun c1 => H.x) (fun c1 => H.x) (fun c1 => H.x) (fun c1 c2 c3 c4 => H.x) (fun c1 => H.fin (K1.trans K2) hR (by rw [if_pos c1])) (fun c1 => H.fin (K1.trans K2) hR (by subst c1; rw [pop32_nr]; rfl)) (fun c1 => H.fin (K1.trans K2) hR (by subst c1; rw [pop32_nr, H.ctx]; rfl)) (fun c1 => H.fin (K1.trans K2) hR (by subst c1; rfl)) (fun c1 c2 c3 c4 => H.fin (K1.trans K2) hR (by rw [if_neg c1, if_neg c2, if_neg c3, if_neg c4, H.ctx]; rfl))
theorem BuP.narrow {P : Nat} {W : Nat → Nat} {c : Nat → Nat → Nat} {kc r r' lo : Nat} (B : BuP h P W c kc r lo) (hr : r' ≤ r) : BuP h P W c kc r' lo := by
  obtain ⟨a1, a2, a3, a4, a5, a6, a7, a8, a9, a10⟩ := B
  refine ⟨a1, a2, a3, a4, a5, a6, a7, a8, fun i hi => ?_, a10⟩
  obtain ⟨g, hg, hv⟩ := a9 i hi
  exact ⟨g, hg, fun h1 h2 s hs => hv h1 h2 s (by omega)⟩
theorem BuP.ch {P : Nat} {W : Nat → Nat} {c : Nat → Nat → Nat} {kc r lo : Nat} (B : BuP h P W c kc r lo) (K : Kp h h1 97 98) (t : ∃ ch, hat h1 97 (aI 6 ch)) : BuP h1 P W c kc r lo := by
  obtain ⟨a1, a2, a3, a4, ⟨brf, a5, a5'⟩, a6, a7, a8, a9, a10⟩ := B
  refine ⟨a1, a2, a3, K.hat a4 (by omega), ⟨brf, K.hat a5 (by omega), a5'⟩, K.hat a6 (by omega), K.hat a7 (by omega), fun i hi => ?_, fun i hi => ?_, t⟩
  · obtain ⟨g, hg, hv⟩ := a8 i hi
    exact ⟨g, K.hat hg (by omega), hv⟩
  · obtain ⟨g, hg, hv⟩ := a9 i hi
    exact ⟨g, K.hat hg (by omega), hv⟩
theorem s_X_grown {x : Int64} {kI w : Int32} (H : XR h Q) (hR : ∀ h', Kg h h' 0 102 → XR h' (stQ Q (a_grown (qS Q) x kI w).2) → R (some (.int (a_grown (qS Q) x kI w).1)) h') : Ev G (d + 6) 0 0 M_X_grown 0 [.ref 0, .long x, ev_unk, .int kI, .int w, ev_unk, ev_unk, ev_unk] [] h R := by
  have hzB := H.szB
  refine b_X_grown_0 H.x H.x H.s ⟨_, H.x⟩ (fun c1 => H.x) (fun c1 => ⟨_, H.x⟩) (fun c1 c2 => H.x) (fun c1 c2 => ⟨_, H.x⟩) (fun c1 c2 c3 => H.x) (fun c1 c2 c3 => ⟨_, H.x⟩) (fun c1 c2 c3 => H.s) (fun c1 c2 c3 => H.ok) (fun c1 c2 c3 => H.fo) (fun c1 c2 c3 => H.s.obj) (fun c1 c2 c3 c4 => H.x) (fun c1 c2 c3 c4 => H.bu.obj) (fun c1 => H.fin (Kg.refl _ _ _) hR (by unfold a_grown; rw [(b2i_e0 c1)]; rfl)) (fun c1 c2 => H.fin (Kg.refl _ _ _) hR (by unfold a_grown; rw [(b2i_n0 c1), if_pos c2]; rfl)) (fun c1 c2 c3 => H.fin (Kg.refl _ _ _) hR (by unfold a_grown; rw [(b2i_n0 c1), if_neg c2, (b2i_e0 c3)]; rfl)) (fun c1 c2 c3 c4 => H.fin (Kg.refl _ _ _) hR (by rw [pop32_nr] at c4; unfold a_grown; rw [(b2i_n0 c1), if_neg c2, (b2i_n0 c3), if_pos c4]; rfl)) (fun c1 c2 c3 c4 => ?_)
  rw [pop32_nr] at c4
  obtain ⟨kk, hk, rfl⟩ := nI_of (x := kI) (fun z => c2 (by rw [Int32.lt_iff_toInt_lt] at z ⊢; rw [show (0 : Int32).toInt = 0 from rfl] at z; rw [show (1 : Int32).toInt = 1 from rfl]; omega))
  have e : a_grown (qS Q) x (nI kk) w = (if w = 0 then nI (a_grR (qS Q) x kk) else nI (sumT (a_co (qS Q) x) (a_grR (qS Q) x kk + 1)), 0) := by unfold a_grown; rw [b2i_n0 c1, if_neg c2, b2i_n0 c3, if_neg c4, vN_nI (by omega)]; rfl
  rw [e] at hR
  refine s_partQ H fun h1 K1 H B => ?_
  obtain ⟨brf, tgf, cof, fv, t1, t2, t3, t4, e1, e2, -⟩ := H.s
  refine b_X_grown_64 H.x t1 H.bu.obj ?_
  refine s_Bu_weigh (B (cstN (bt (setI (ctP (qS Q)))) cof x (sBr (qS Q))) (sB (qS Q))) rfl (by rw [H.ok.2.2.2.2.2.2.2]; exact H.szB) t3 (by omega) fun h2 K2 B => ?_
  have H2 : XR h2 Q := H.inBu (K2.wide (by omega) (by omega)) ⟨_, _, _, _, _, _, B⟩
  have ec : cstN (bt (setI (ctP (qS Q)))) cof x (sBr (qS Q)) = a_c (qS Q) x := by
    rw [H.ctx]
    exact cstN_congr (fun j q => (e2 j (ctP_lt q)).1) x _
  rw [ec] at B
  have H := H2
  have K2 : Kg h h2 0 102 := K1.trans (K2.g.wide (by omega) (by omega))
  obtain ⟨brf, tgf, cof, fv, t1, t2, t3, t4, e1, e2, -⟩ := H.s
  refine b_X_grown_81 H.x t1 H.bu.obj ?_
  have cok : cOk (a_c (qS Q) x) (sP (qS Q)) := cstN_ok _ _ _ _ _
  refine s_Bu_tabulate B cok ⟨rfl, hzB⟩ fun h3 K3 B1 B2 => ?_
  have H3 : XR h3 Q := H.inBu (K3.wide (by omega) (by omega)) ⟨_, _, _, _, _, _, B1⟩
  have H := H3
  have K3 : Kg h h3 0 102 := K2.trans (K3.g.wide (by omega) (by omega))
  clear B
  refine b_X_grown_95 H.x H.bu.obj ?_
  have CH : ∀ {h3 : ev_H} {rI : Int32} {r : Nat} {pc : Nat} {ls st : List Value}, XR h3 Q → BuP h3 (sP (qS Q)) (sBr (qS Q)) (a_c (qS Q) x) (sP (qS Q)) (sB (qS Q)) 1 → BuP h3 (sP (qS Q)) (sBr (qS Q)) (a_c (qS Q) x) (sP (qS Q)) (sB (qS Q)) (min 1 (sP (qS Q) - 1)) → Kg h h3 0 102 → rI = nI r → r ≤ sB (qS Q) → (∀ h4, Kg h h4 0 102 → XR h4 Q → BuP h4 (sP (qS Q)) (sBr (qS Q)) (a_c (qS Q) x) (sP (qS Q)) (sB (qS Q)) 1 → BuP h4 (sP (qS Q)) (sBr (qS Q)) (a_c (qS Q) x) (sP (qS Q)) (sB (qS Q)) (min 1 (sP (qS Q) - 1)) → Ev G (d + 6) 0 0 M_X_grown pc ls ([.int (nI (a_co (qS Q) x r))] ++ st) h4 R) → Ev G (d + 5) 0 0 M_Bu_choose 0 [.ref 81, .int rI, ev_unk, ev_unk, ev_unk, ev_unk] [] h3 (fun r h1 => Ev G (d + 6) 0 0 M_X_grown pc ls (r.toList ++ st) h1 R) := by
    intro h3 rI r pc ls st H B1 B2 K3 er hr hk
    refine s_Bu_choose (B1.narrow hr) (B2.narrow hr) cok ⟨er, by omega⟩ fun h4 K4 B4 C4 => ?_
    obtain ⟨ch, g97, -⟩ := C4
    exact hk h4 (K3.trans (K4.g.wide (by omega) (by omega))) (H.inBu (K4.wide (by omega) (by omega)) ⟨_, _, _, _, _, _, B4⟩) (B1.ch K4 ⟨_, g97⟩) (B2.ch K4 ⟨_, g97⟩)
  refine CH (r := 0) H B1 B2 K3 rfl (by omega) fun h4 K4 H4 B1 B2 => ?_
  refine b_X_grown_107 ?_
  have g9 : a_grR (qS Q) x kk ≤ sB (qS Q) := fst_le _ _
  have L := up_to (P := fun r => ∀ h4, Kg h h4 0 102 → XR h4 Q → BuP h4 (sP (qS Q)) (sBr (qS Q)) (a_c (qS Q) x) (sP (qS Q)) (sB (qS Q)) 1 → BuP h4 (sP (qS Q)) (sBr (qS Q)) (a_c (qS Q) x) (sP (qS Q)) (sB (qS Q)) (min 1 (sP (qS Q) - 1)) → Ev G (d + 6) 0 0 M_X_grown 109 [.ref 0, .long x, ev_unk, .int (nI kk), .int w, .int (setI (ctP (qS Q))), .int (nI r), .int (nI (sumT (a_co (qS Q) x) (r + 1)))] [] h4 R) (N := a_grR (qS Q) x kk) ?_ ?_
  · have := L 0 (Nat.zero_le _) h4 K4 H4 B1 B2
    rw [show sumT (a_co (qS Q) x) (0 + 1) = a_co (qS Q) x 0 from Nat.zero_add _] at this
    exact this
  · intro r hr ih h4 K4 H B1 B2
    obtain ⟨brf, tgf, cof, fv, t1, t2, t3, t4, e1, e2, -⟩ := H.s
    have yes : nI r < nI (sB (qS Q)) := nI_lt (by omega) (by omega)
    have no := fst_no _ _ r hr
    have no : ¬ kk ≤ cnt (a_nr (qS Q) x r) 32 := of_decide_eq_false no
    have lt1 : nI (pop32 (setI (nrP (qS Q) (bt (setI (ctP (qS Q)))) x r))) < nI kk := by rw [pop32_nr, H.ctx]; exact nI_lt (by show cnt (a_nr (qS Q) x r) 32 < kk; omega) hk
    refine b_X_grown_109 H.x t1 (fun c1 => H.s) (fun c1 => H.ok) (fun c1 => ⟨rfl, by omega⟩) (fun c1 c2 => H.bu.obj) (fun c1 c2 c3 => H.x) (fun c1 c2 c3 => H.x) (fun c1 c2 => H.x) (fun c1 c2 => H.x) (fun c1 c2 => ?_) (fun c1 c2 c3 => absurd lt1 c2) (fun c1 c2 c3 => absurd lt1 c2) (fun c1 c2 => absurd yes c1) (fun c1 c2 => absurd yes c1)
    refine CH (r := r + 1) H B1 B2 K4 (nI_1 r) (by omega) fun h5 K5 H5 B1 B2 => ?_
    refine b_X_grown_154 ?_
    have := ih h5 K5 H5 B1 B2
    rw [nI_1, nI_add]
    exact this
  · intro h4 K4 H B1 B2
    obtain ⟨brf, tgf, cof, fv, t1, t2, t3, t4, e1, e2, -⟩ := H.s
    have yes : a_grR (qS Q) x kk < sB (qS Q) → ¬ nI (pop32 (setI (nrP (qS Q) (bt (setI (ctP (qS Q)))) x (a_grR (qS Q) x kk)))) < nI kk := fun z => by
      have q := of_decide_eq_true (fst_yes _ _ z)
      rw [pop32_nr, H.ctx]
      exact nI_nlt q (by have := cnt_le (a_nr (qS Q) x (a_grR (qS Q) x kk)) 32; show cnt (a_nr (qS Q) x (a_grR (qS Q) x kk)) 32 < _; omega)
    refine b_X_grown_109 H.x t1 (fun c1 => H.s) (fun c1 => H.ok) (fun c1 => ⟨rfl, by omega⟩) (fun c1 c2 => H.bu.obj) (fun c1 c2 c3 => H.x) (fun c1 c2 c3 => H.x) (fun c1 c2 => H.x) (fun c1 c2 => H.x) (fun c1 c2 => absurd c2 (yes ((nI_ltI (by omega) (by omega)).mp c1))) (fun c1 c2 c3 => H.fin K4 hR (by rw [if_pos c3])) (fun c1 c2 c3 => H.fin K4 hR (by rw [if_neg c3])) (fun c1 c2 => H.fin K4 hR (by rw [if_pos c2])) (fun c1 c2 => H.fin K4 hR (by rw [if_neg c2]))
end S30
