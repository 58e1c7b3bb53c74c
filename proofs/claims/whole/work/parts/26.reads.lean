/-! THE CALLS THAT READ -/
theorem b_X_tagOf_0 {G : ev_G} {d k n : Nat} {h : ev_H} {R : Option Value → ev_H → Prop} {x1 : Int32} {S1 : AS} {la2 : Int32} {fk3 : Int32} {fp4 : Int32} {la5 : Int32} {fk6 : Int32} {fp7 : Int32} {f_latest_8 : Int32} {f_faultKind_9 : Int32} {f_faultPlace_10 : Int32} {f_bits_11 : Int32} {f_parts_12 : Int32} {f_size_13 : Int32} {fv14 : Value} {g15 : Nat → Int32} {j16 : Nat} {la17 : Int32} {fk18 : Int32} {fp19 : Int32}
  (a7 : hat h 0 (oC 8 [.ref 1, .ref 5, .ref 18, .ref 81, .ref 98, .int f_latest_8, .int f_faultKind_9, .int f_faultPlace_10]))
  (a8 : hat h 1 (oC 6 [.int f_bits_11, .int f_parts_12, .ref 2, .int f_size_13, .ref 3, .ref 4, fv14]))
  (a9 : hat h 4 (aI 32 g15))
  (pr1 : XO h la2 fk3 fp4)
  (pr2 : StR h 1 S1)
  (pr3 : sOk S1)
  (r4 : ∃ fs, hat h 0 (oC 8 fs))
  (pr5 : (b2i (inR x1 (sN S1))) = (0 : Int32) → XO h la5 fk6 fp7)
  (r6 : (b2i (inR x1 (sN S1))) = (0 : Int32) → ∃ fs, hat h 0 (oC 8 fs))
  (i10 : ¬ (b2i (inR x1 (sN S1))) = (0 : Int32) → ev_ix x1 j16 32)
  (pr11 : ¬ (b2i (inR x1 (sN S1))) = (0 : Int32) → XO h la17 fk18 fp19)
  (k1 : (b2i (inR x1 (sN S1))) = (0 : Int32) → R (some (.int (-1 : Int32))) (xoS h (2 : Int32) fk6 fp7))
  (k2 : ¬ (b2i (inR x1 (sN S1))) = (0 : Int32) → R (some (.int (g15 j16))) (xoS h 0 fk18 fp19))
  : Ev G (d + 1) k n M_X_tagOf 0 [.ref 0, .int x1] [] h R :=
  Ev.go (pc' := 2) (ls' := [.ref 0, .int x1]) (st' := [.int x1, .ref 0]) [.aload_n 0, .iload_n 1] (by decide +kernel) rfl <|
  Ev.cV0 (M' := M_X_isCode) (as := [.int x1]) (rest := []) l_X_114 M_X_isCode_ok M_X_isCode_in M_X_isCode_se (by decide +kernel) r4 rfl rfl rfl (Nat.le_of_ble_eq_true rfl) (Nat.le_of_ble_eq_true rfl) (s_X_isCode pr1 pr2 pr3 <| show Ev G (d + 1) _ _ M_X_tagOf 5 [.ref 0, .int x1] [.int (b2i (inR x1 (sN S1)))] h R from
    Ev.br (i := .ifCond .ne (9)) (P := (b2i (inR x1 (sN S1))) = (0 : Int32)) (t := 8) (f := 14) (r := []) (by decide +kernel) rfl (fun c1 =>
      Ev.go (pc' := 10) (ls' := [.ref 0, .int x1]) (st' := [.int (2 : Int32), .ref 0]) [.aload_n 0, .iconst 2] (by decide +kernel) rfl <|
      Ev.cV0 (M' := M_X_refuse) (as := [.int (2 : Int32)]) (rest := []) l_X_67 M_X_refuse_ok M_X_refuse_in M_X_refuse_se (by decide +kernel) (r6 c1) rfl rfl rfl (Nat.le_of_ble_eq_true rfl) (Nat.le_of_ble_eq_true rfl) (s_X_refuse' (pr5 c1) <| show Ev G (d + 1) _ _ M_X_tagOf 13 [.ref 0, .int x1] [.int (-1 : Int32)] (xoS h (2 : Int32) fk6 fp7) R from
        Ev.ret (r := (some (.int (-1 : Int32)))) (Or.inl ⟨_, rfl, by decide +kernel, _, rfl, rfl⟩) (k1 c1)
      )
    ) (fun c1 =>
      Ev.go (pc' := 16) (ls' := [.ref 0, .int x1]) (st' := [.ref 0, .ref 0]) [.aload_n 0, .aload_n 0] (by decide +kernel) rfl <|
      Ev.getf f_X_10 (by decide +kernel) a7 rfl <|
      Ev.getf f_X_126 (by decide +kernel) a8 rfl <|
      Ev.go (pc' := 23) (ls' := [.ref 0, .int x1]) (st' := [.int x1, .ref 4, .ref 0]) [.iload_n 1] (by decide +kernel) rfl <|
      Ev.iald (j := j16) (by decide +kernel) a9 (i10 c1) <|
      Ev.cV0 (M' := M_X_answer) (as := [.int (g15 j16)]) (rest := []) l_X_87 M_X_answer_ok M_X_answer_in M_X_answer_se (by decide +kernel) ⟨_, a7⟩ rfl rfl rfl (Nat.le_of_ble_eq_true rfl) (Nat.le_of_ble_eq_true rfl) (s_X_answer' (pr11 c1) <| show Ev G (d + 1) _ _ M_X_tagOf 27 [.ref 0, .int x1] [.int (g15 j16)] (xoS h 0 fk18 fp19) R from
        Ev.ret (r := (some (.int (g15 j16)))) (Or.inl ⟨_, rfl, by decide +kernel, _, rfl, rfl⟩) (k2 c1)
      )
    )
  )
theorem b_X_breadth_0 {G : ev_G} {d k n : Nat} {h : ev_H} {R : Option Value → ev_H → Prop} {x1 : Int32} {S1 : AS} {la2 : Int32} {fk3 : Int32} {fp4 : Int32} {la5 : Int32} {fk6 : Int32} {fp7 : Int32} {f_latest_8 : Int32} {f_faultKind_9 : Int32} {f_faultPlace_10 : Int32} {f_bits_11 : Int32} {f_parts_12 : Int32} {f_size_13 : Int32} {fv14 : Value} {g15 : Nat → Int32} {j16 : Nat} {la17 : Int32} {fk18 : Int32} {fp19 : Int32}
  (a7 : hat h 0 (oC 8 [.ref 1, .ref 5, .ref 18, .ref 81, .ref 98, .int f_latest_8, .int f_faultKind_9, .int f_faultPlace_10]))
  (a8 : hat h 1 (oC 6 [.int f_bits_11, .int f_parts_12, .ref 2, .int f_size_13, .ref 3, .ref 4, fv14]))
  (a9 : hat h 2 (aI 6 g15))
  (pr1 : XO h la2 fk3 fp4)
  (pr2 : StR h 1 S1)
  (pr3 : sOk S1)
  (r4 : ∃ fs, hat h 0 (oC 8 fs))
  (pr5 : (b2i (inR x1 (sP S1))) = (0 : Int32) → XO h la5 fk6 fp7)
  (r6 : (b2i (inR x1 (sP S1))) = (0 : Int32) → ∃ fs, hat h 0 (oC 8 fs))
  (i10 : ¬ (b2i (inR x1 (sP S1))) = (0 : Int32) → ev_ix x1 j16 6)
  (pr11 : ¬ (b2i (inR x1 (sP S1))) = (0 : Int32) → XO h la17 fk18 fp19)
  (k1 : (b2i (inR x1 (sP S1))) = (0 : Int32) → R (some (.int (-1 : Int32))) (xoS h (2 : Int32) fk6 fp7))
  (k2 : ¬ (b2i (inR x1 (sP S1))) = (0 : Int32) → R (some (.int (g15 j16))) (xoS h 0 fk18 fp19))
  : Ev G (d + 1) k n M_X_breadth 0 [.ref 0, .int x1] [] h R :=
  Ev.go (pc' := 2) (ls' := [.ref 0, .int x1]) (st' := [.int x1, .ref 0]) [.aload_n 0, .iload_n 1] (by decide +kernel) rfl <|
  Ev.cV0 (M' := M_X_isPart) (as := [.int x1]) (rest := []) l_X_130 M_X_isPart_ok M_X_isPart_in M_X_isPart_se (by decide +kernel) r4 rfl rfl rfl (Nat.le_of_ble_eq_true rfl) (Nat.le_of_ble_eq_true rfl) (s_X_isPart pr1 pr2 pr3 <| show Ev G (d + 1) _ _ M_X_breadth 5 [.ref 0, .int x1] [.int (b2i (inR x1 (sP S1)))] h R from
    Ev.br (i := .ifCond .ne (9)) (P := (b2i (inR x1 (sP S1))) = (0 : Int32)) (t := 8) (f := 14) (r := []) (by decide +kernel) rfl (fun c1 =>
      Ev.go (pc' := 10) (ls' := [.ref 0, .int x1]) (st' := [.int (2 : Int32), .ref 0]) [.aload_n 0, .iconst 2] (by decide +kernel) rfl <|
      Ev.cV0 (M' := M_X_refuse) (as := [.int (2 : Int32)]) (rest := []) l_X_67 M_X_refuse_ok M_X_refuse_in M_X_refuse_se (by decide +kernel) (r6 c1) rfl rfl rfl (Nat.le_of_ble_eq_true rfl) (Nat.le_of_ble_eq_true rfl) (s_X_refuse' (pr5 c1) <| show Ev G (d + 1) _ _ M_X_breadth 13 [.ref 0, .int x1] [.int (-1 : Int32)] (xoS h (2 : Int32) fk6 fp7) R from
        Ev.ret (r := (some (.int (-1 : Int32)))) (Or.inl ⟨_, rfl, by decide +kernel, _, rfl, rfl⟩) (k1 c1)
      )
    ) (fun c1 =>
      Ev.go (pc' := 16) (ls' := [.ref 0, .int x1]) (st' := [.ref 0, .ref 0]) [.aload_n 0, .aload_n 0] (by decide +kernel) rfl <|
      Ev.getf f_X_10 (by decide +kernel) a7 rfl <|
      Ev.getf f_X_133 (by decide +kernel) a8 rfl <|
      Ev.go (pc' := 23) (ls' := [.ref 0, .int x1]) (st' := [.int x1, .ref 2, .ref 0]) [.iload_n 1] (by decide +kernel) rfl <|
      Ev.iald (j := j16) (by decide +kernel) a9 (i10 c1) <|
      Ev.cV0 (M' := M_X_answer) (as := [.int (g15 j16)]) (rest := []) l_X_87 M_X_answer_ok M_X_answer_in M_X_answer_se (by decide +kernel) ⟨_, a7⟩ rfl rfl rfl (Nat.le_of_ble_eq_true rfl) (Nat.le_of_ble_eq_true rfl) (s_X_answer' (pr11 c1) <| show Ev G (d + 1) _ _ M_X_breadth 27 [.ref 0, .int x1] [.int (g15 j16)] (xoS h 0 fk18 fp19) R from
        Ev.ret (r := (some (.int (g15 j16)))) (Or.inl ⟨_, rfl, by decide +kernel, _, rfl, rfl⟩) (k2 c1)
      )
    )
  )
theorem b_X_key_0 {G : ev_G} {d k n : Nat} {h : ev_H} {R : Option Value → ev_H → Prop} {x1 : Int32} {x2 : Int32} {S1 : AS} {la2 : Int32} {fk3 : Int32} {fp4 : Int32} {la5 : Int32} {fk6 : Int32} {fp7 : Int32} {S8 : AS} {la9 : Int32} {fk10 : Int32} {fp11 : Int32} {la12 : Int32} {fk13 : Int32} {fp14 : Int32} {f_latest_15 : Int32} {f_faultKind_16 : Int32} {f_faultPlace_17 : Int32} {S18 : AS} {c_19 : Nat} {p_20 : Nat} {la21 : Int32} {fk22 : Int32} {fp23 : Int32}
  (a13 : hat h 0 (oC 8 [.ref 1, .ref 5, .ref 18, .ref 81, .ref 98, .int f_latest_15, .int f_faultKind_16, .int f_faultPlace_17]))
  (pr1 : XO h la2 fk3 fp4)
  (pr2 : StR h 1 S1)
  (pr3 : sOk S1)
  (r4 : ∃ fs, hat h 0 (oC 8 fs))
  (pr5 : (b2i (inR x1 (sN S1))) = (0 : Int32) → XO h la5 fk6 fp7)
  (r6 : (b2i (inR x1 (sN S1))) = (0 : Int32) → ∃ fs, hat h 0 (oC 8 fs))
  (pr7 : ¬ (b2i (inR x1 (sN S1))) = (0 : Int32) → XO h la9 fk10 fp11)
  (pr8 : ¬ (b2i (inR x1 (sN S1))) = (0 : Int32) → StR h 1 S8)
  (pr9 : ¬ (b2i (inR x1 (sN S1))) = (0 : Int32) → sOk S8)
  (r10 : ¬ (b2i (inR x1 (sN S1))) = (0 : Int32) → ∃ fs, hat h 0 (oC 8 fs))
  (pr11 : ¬ (b2i (inR x1 (sN S1))) = (0 : Int32) → (b2i (inR x2 (sP S8))) = (0 : Int32) → XO h la12 fk13 fp14)
  (r12 : ¬ (b2i (inR x1 (sN S1))) = (0 : Int32) → (b2i (inR x2 (sP S8))) = (0 : Int32) → ∃ fs, hat h 0 (oC 8 fs))
  (pr14 : ¬ (b2i (inR x1 (sN S1))) = (0 : Int32) → ¬ (b2i (inR x2 (sP S8))) = (0 : Int32) → StR h 1 S18)
  (pr15 : ¬ (b2i (inR x1 (sN S1))) = (0 : Int32) → ¬ (b2i (inR x2 (sP S8))) = (0 : Int32) → sOk S18)
  (pr16 : ¬ (b2i (inR x1 (sN S1))) = (0 : Int32) → ¬ (b2i (inR x2 (sP S8))) = (0 : Int32) → x1 = nI c_19 ∧ c_19 < sN S18)
  (pr17 : ¬ (b2i (inR x1 (sN S1))) = (0 : Int32) → ¬ (b2i (inR x2 (sP S8))) = (0 : Int32) → x2 = nI p_20 ∧ p_20 < sP S18)
  (r18 : ¬ (b2i (inR x1 (sN S1))) = (0 : Int32) → ¬ (b2i (inR x2 (sP S8))) = (0 : Int32) → ∃ fs, hat h 1 (oC 6 fs))
  (pr19 : ¬ (b2i (inR x1 (sN S1))) = (0 : Int32) → ¬ (b2i (inR x2 (sP S8))) = (0 : Int32) → XO h la21 fk22 fp23)
  (k1 : (b2i (inR x1 (sN S1))) = (0 : Int32) → R (some (.int (-1 : Int32))) (xoS h (2 : Int32) fk6 fp7))
  (k2 : ¬ (b2i (inR x1 (sN S1))) = (0 : Int32) → (b2i (inR x2 (sP S8))) = (0 : Int32) → R (some (.int (-1 : Int32))) (xoS h (2 : Int32) fk13 fp14))
  (k3 : ¬ (b2i (inR x1 (sN S1))) = (0 : Int32) → ¬ (b2i (inR x2 (sP S8))) = (0 : Int32) → R (some (.int (nI (keyN (sCo S18 c_19) (stt S18 p_20) (sBr S18 p_20))))) (xoS h 0 fk22 fp23))
  : Ev G (d + 1) k n M_X_key 0 [.ref 0, .int x1, .int x2] [] h R :=
  Ev.go (pc' := 2) (ls' := [.ref 0, .int x1, .int x2]) (st' := [.int x1, .ref 0]) [.aload_n 0, .iload_n 1] (by decide +kernel) rfl <|
  Ev.cV0 (M' := M_X_isCode) (as := [.int x1]) (rest := []) l_X_114 M_X_isCode_ok M_X_isCode_in M_X_isCode_se (by decide +kernel) r4 rfl rfl rfl (Nat.le_of_ble_eq_true rfl) (Nat.le_of_ble_eq_true rfl) (s_X_isCode pr1 pr2 pr3 <| show Ev G (d + 1) _ _ M_X_key 5 [.ref 0, .int x1, .int x2] [.int (b2i (inR x1 (sN S1)))] h R from
    Ev.br (i := .ifCond .eq (11)) (P := (b2i (inR x1 (sN S1))) = (0 : Int32)) (t := 16) (f := 8) (r := []) (by decide +kernel) rfl (fun c1 =>
      Ev.go (pc' := 18) (ls' := [.ref 0, .int x1, .int x2]) (st' := [.int (2 : Int32), .ref 0]) [.aload_n 0, .iconst 2] (by decide +kernel) rfl <|
      Ev.cV0 (M' := M_X_refuse) (as := [.int (2 : Int32)]) (rest := []) l_X_67 M_X_refuse_ok M_X_refuse_in M_X_refuse_se (by decide +kernel) (r6 c1) rfl rfl rfl (Nat.le_of_ble_eq_true rfl) (Nat.le_of_ble_eq_true rfl) (s_X_refuse' (pr5 c1) <| show Ev G (d + 1) _ _ M_X_key 21 [.ref 0, .int x1, .int x2] [.int (-1 : Int32)] (xoS h (2 : Int32) fk6 fp7) R from
        Ev.ret (r := (some (.int (-1 : Int32)))) (Or.inl ⟨_, rfl, by decide +kernel, _, rfl, rfl⟩) (k1 c1)
      )
    ) (fun c1 =>
      Ev.go (pc' := 10) (ls' := [.ref 0, .int x1, .int x2]) (st' := [.int x2, .ref 0]) [.aload_n 0, .iload_n 2] (by decide +kernel) rfl <|
      Ev.cV0 (M' := M_X_isPart) (as := [.int x2]) (rest := []) l_X_130 M_X_isPart_ok M_X_isPart_in M_X_isPart_se (by decide +kernel) (r10 c1) rfl rfl rfl (Nat.le_of_ble_eq_true rfl) (Nat.le_of_ble_eq_true rfl) (s_X_isPart (pr7 c1) (pr8 c1) (pr9 c1) <| show Ev G (d + 1) _ _ M_X_key 13 [.ref 0, .int x1, .int x2] [.int (b2i (inR x2 (sP S8)))] h R from
        Ev.br (i := .ifCond .ne (9)) (P := (b2i (inR x2 (sP S8))) = (0 : Int32)) (t := 16) (f := 22) (r := []) (by decide +kernel) rfl (fun c2 =>
          Ev.go (pc' := 18) (ls' := [.ref 0, .int x1, .int x2]) (st' := [.int (2 : Int32), .ref 0]) [.aload_n 0, .iconst 2] (by decide +kernel) rfl <|
          Ev.cV0 (M' := M_X_refuse) (as := [.int (2 : Int32)]) (rest := []) l_X_67 M_X_refuse_ok M_X_refuse_in M_X_refuse_se (by decide +kernel) (r12 c1 c2) rfl rfl rfl (Nat.le_of_ble_eq_true rfl) (Nat.le_of_ble_eq_true rfl) (s_X_refuse' (pr11 c1 c2) <| show Ev G (d + 1) _ _ M_X_key 21 [.ref 0, .int x1, .int x2] [.int (-1 : Int32)] (xoS h (2 : Int32) fk13 fp14) R from
            Ev.ret (r := (some (.int (-1 : Int32)))) (Or.inl ⟨_, rfl, by decide +kernel, _, rfl, rfl⟩) (k2 c1 c2)
          )
        ) (fun c2 =>
          Ev.go (pc' := 24) (ls' := [.ref 0, .int x1, .int x2]) (st' := [.ref 0, .ref 0]) [.aload_n 0, .aload_n 0] (by decide +kernel) rfl <|
          Ev.getf f_X_10 (by decide +kernel) a13 rfl <|
          Ev.go (pc' := 29) (ls' := [.ref 0, .int x1, .int x2]) (st' := [.int x2, .int x1, .ref 1, .ref 0]) [.iload_n 1, .iload_n 2] (by decide +kernel) rfl <|
          Ev.cV0 (M' := M_St_keyOf) (as := [.int x1, .int x2]) (rest := [.ref 0]) l_X_136 M_St_keyOf_ok M_St_keyOf_in M_St_keyOf_se (by decide +kernel) (r18 c1 c2) rfl rfl rfl (Nat.le_of_ble_eq_true rfl) (Nat.le_of_ble_eq_true rfl) (s_St_keyOf' (pr14 c1 c2) (pr15 c1 c2) (pr16 c1 c2) (pr17 c1 c2) <| show Ev G (d + 1) _ _ M_X_key 32 [.ref 0, .int x1, .int x2] [.int (nI (keyN (sCo S18 c_19) (stt S18 p_20) (sBr S18 p_20))), .ref 0] h R from
            Ev.cV0 (M' := M_X_answer) (as := [.int (nI (keyN (sCo S18 c_19) (stt S18 p_20) (sBr S18 p_20)))]) (rest := []) l_X_87 M_X_answer_ok M_X_answer_in M_X_answer_se (by decide +kernel) ⟨_, a13⟩ rfl rfl rfl (Nat.le_of_ble_eq_true rfl) (Nat.le_of_ble_eq_true rfl) (s_X_answer' (pr19 c1 c2) <| show Ev G (d + 1) _ _ M_X_key 35 [.ref 0, .int x1, .int x2] [.int (nI (keyN (sCo S18 c_19) (stt S18 p_20) (sBr S18 p_20)))] (xoS h 0 fk22 fp23) R from
              Ev.ret (r := (some (.int (nI (keyN (sCo S18 c_19) (stt S18 p_20) (sBr S18 p_20)))))) (Or.inl ⟨_, rfl, by decide +kernel, _, rfl, rfl⟩) (k3 c1 c2)
            )
          )
        )
      )
    )
  )
theorem b_X_far_0 {G : ev_G} {d k n : Nat} {h : ev_H} {R : Option Value → ev_H → Prop} {x1 : Int32} {x2 : Int64} {S1 : AS} {la2 : Int32} {fk3 : Int32} {fp4 : Int32} {la5 : Int32} {fk6 : Int32} {fp7 : Int32} {S8 : AS} {la9 : Int32} {fk10 : Int32} {fp11 : Int32} {la12 : Int32} {fk13 : Int32} {fp14 : Int32} {f_latest_15 : Int32} {f_faultKind_16 : Int32} {f_faultPlace_17 : Int32} {f_bits_18 : Int32} {f_parts_19 : Int32} {f_size_20 : Int32} {fv21 : Value} {g22 : Nat → Int64} {j23 : Nat} {la24 : Int32} {fk25 : Int32} {fp26 : Int32}
  (a12 : hat h 0 (oC 8 [.ref 1, .ref 5, .ref 18, .ref 81, .ref 98, .int f_latest_15, .int f_faultKind_16, .int f_faultPlace_17]))
  (a13 : hat h 1 (oC 6 [.int f_bits_18, .int f_parts_19, .ref 2, .int f_size_20, .ref 3, .ref 4, fv21]))
  (a14 : hat h 3 (aL 32 g22))
  (pr1 : XO h la2 fk3 fp4)
  (pr2 : StR h 1 S1)
  (r3 : ∃ fs, hat h 0 (oC 8 fs))
  (pr4 : (b2i (numB x2 (sB S1))) = (0 : Int32) → XO h la5 fk6 fp7)
  (r5 : (b2i (numB x2 (sB S1))) = (0 : Int32) → ∃ fs, hat h 0 (oC 8 fs))
  (pr6 : ¬ (b2i (numB x2 (sB S1))) = (0 : Int32) → XO h la9 fk10 fp11)
  (pr7 : ¬ (b2i (numB x2 (sB S1))) = (0 : Int32) → StR h 1 S8)
  (pr8 : ¬ (b2i (numB x2 (sB S1))) = (0 : Int32) → sOk S8)
  (r9 : ¬ (b2i (numB x2 (sB S1))) = (0 : Int32) → ∃ fs, hat h 0 (oC 8 fs))
  (pr10 : ¬ (b2i (numB x2 (sB S1))) = (0 : Int32) → (b2i (inR x1 (sN S8))) = (0 : Int32) → XO h la12 fk13 fp14)
  (r11 : ¬ (b2i (numB x2 (sB S1))) = (0 : Int32) → (b2i (inR x1 (sN S8))) = (0 : Int32) → ∃ fs, hat h 0 (oC 8 fs))
  (i15 : ¬ (b2i (numB x2 (sB S1))) = (0 : Int32) → ¬ (b2i (inR x1 (sN S8))) = (0 : Int32) → ev_ix x1 j23 32)
  (pr16 : ¬ (b2i (numB x2 (sB S1))) = (0 : Int32) → ¬ (b2i (inR x1 (sN S8))) = (0 : Int32) → XO h la24 fk25 fp26)
  (k1 : (b2i (numB x2 (sB S1))) = (0 : Int32) → R (some (.int (-1 : Int32))) (xoS h (1 : Int32) fk6 fp7))
  (k2 : ¬ (b2i (numB x2 (sB S1))) = (0 : Int32) → (b2i (inR x1 (sN S8))) = (0 : Int32) → R (some (.int (-1 : Int32))) (xoS h (2 : Int32) fk13 fp14))
  (k3 : ¬ (b2i (numB x2 (sB S1))) = (0 : Int32) → ¬ (b2i (inR x1 (sN S8))) = (0 : Int32) → R (some (.int (nI (pop ((g22 j23) ^^^ x2))))) (xoS h 0 fk25 fp26))
  : Ev G (d + 2) k n M_X_far 0 [.ref 0, .int x1, .long x2, ev_unk] [] h R :=
  Ev.go (pc' := 2) (ls' := [.ref 0, .int x1, .long x2, ev_unk]) (st' := [.long x2, .ref 0]) [.aload_n 0, .lload_n 2] (by decide +kernel) rfl <|
  Ev.cV0 (M' := M_X_isNumber) (as := [.long x2]) (rest := []) l_X_140 M_X_isNumber_ok M_X_isNumber_in M_X_isNumber_se (by decide +kernel) r3 rfl rfl rfl (Nat.le_of_ble_eq_true rfl) (Nat.le_of_ble_eq_true rfl) (s_X_isNumber pr1 pr2 <| show Ev G (d + 2) _ _ M_X_far 5 [.ref 0, .int x1, .long x2, ev_unk] [.int (b2i (numB x2 (sB S1)))] h R from
    Ev.br (i := .ifCond .ne (9)) (P := (b2i (numB x2 (sB S1))) = (0 : Int32)) (t := 8) (f := 14) (r := []) (by decide +kernel) rfl (fun c1 =>
      Ev.go (pc' := 10) (ls' := [.ref 0, .int x1, .long x2, ev_unk]) (st' := [.int (1 : Int32), .ref 0]) [.aload_n 0, .iconst 1] (by decide +kernel) rfl <|
      Ev.cV0 (M' := M_X_refuse) (as := [.int (1 : Int32)]) (rest := []) l_X_67 M_X_refuse_ok M_X_refuse_in M_X_refuse_se (by decide +kernel) (r5 c1) rfl rfl rfl (Nat.le_of_ble_eq_true rfl) (Nat.le_of_ble_eq_true rfl) (s_X_refuse' (pr4 c1) <| show Ev G (d + 2) _ _ M_X_far 13 [.ref 0, .int x1, .long x2, ev_unk] [.int (-1 : Int32)] (xoS h (1 : Int32) fk6 fp7) R from
        Ev.ret (r := (some (.int (-1 : Int32)))) (Or.inl ⟨_, rfl, by decide +kernel, _, rfl, rfl⟩) (k1 c1)
      )
    ) (fun c1 =>
      Ev.go (pc' := 16) (ls' := [.ref 0, .int x1, .long x2, ev_unk]) (st' := [.int x1, .ref 0]) [.aload_n 0, .iload_n 1] (by decide +kernel) rfl <|
      Ev.cV0 (M' := M_X_isCode) (as := [.int x1]) (rest := []) l_X_114 M_X_isCode_ok M_X_isCode_in M_X_isCode_se (by decide +kernel) (r9 c1) rfl rfl rfl (Nat.le_of_ble_eq_true rfl) (Nat.le_of_ble_eq_true rfl) (s_X_isCode (pr6 c1) (pr7 c1) (pr8 c1) <| show Ev G (d + 2) _ _ M_X_far 19 [.ref 0, .int x1, .long x2, ev_unk] [.int (b2i (inR x1 (sN S8)))] h R from
        Ev.br (i := .ifCond .ne (9)) (P := (b2i (inR x1 (sN S8))) = (0 : Int32)) (t := 22) (f := 28) (r := []) (by decide +kernel) rfl (fun c2 =>
          Ev.go (pc' := 24) (ls' := [.ref 0, .int x1, .long x2, ev_unk]) (st' := [.int (2 : Int32), .ref 0]) [.aload_n 0, .iconst 2] (by decide +kernel) rfl <|
          Ev.cV0 (M' := M_X_refuse) (as := [.int (2 : Int32)]) (rest := []) l_X_67 M_X_refuse_ok M_X_refuse_in M_X_refuse_se (by decide +kernel) (r11 c1 c2) rfl rfl rfl (Nat.le_of_ble_eq_true rfl) (Nat.le_of_ble_eq_true rfl) (s_X_refuse' (pr10 c1 c2) <| show Ev G (d + 2) _ _ M_X_far 27 [.ref 0, .int x1, .long x2, ev_unk] [.int (-1 : Int32)] (xoS h (2 : Int32) fk13 fp14) R from
            Ev.ret (r := (some (.int (-1 : Int32)))) (Or.inl ⟨_, rfl, by decide +kernel, _, rfl, rfl⟩) (k2 c1 c2)
          )
        ) (fun c2 =>
          Ev.go (pc' := 30) (ls' := [.ref 0, .int x1, .long x2, ev_unk]) (st' := [.ref 0, .ref 0]) [.aload_n 0, .aload_n 0] (by decide +kernel) rfl <|
          Ev.getf f_X_10 (by decide +kernel) a12 rfl <|
          Ev.getf f_X_118 (by decide +kernel) a13 rfl <|
          Ev.go (pc' := 37) (ls' := [.ref 0, .int x1, .long x2, ev_unk]) (st' := [.int x1, .ref 3, .ref 0]) [.iload_n 1] (by decide +kernel) rfl <|
          Ev.lald (j := j23) (by decide +kernel) a14 (i15 c1 c2) <|
          Ev.go (pc' := 39) (ls' := [.ref 0, .int x1, .long x2, ev_unk]) (st' := [.long x2, .long (g22 j23), .ref 0]) [.lload_n 2] (by decide +kernel) rfl <|
          Ev.cS0 (M' := M_X_unlike) (as := [.long (g22 j23), .long x2]) (rest := [.ref 0]) l_X_144 M_X_unlike_ok M_X_unlike_st (by decide +kernel) rfl rfl (Nat.le_of_ble_eq_true rfl) (Nat.le_of_ble_eq_true rfl) (s_X_unlike <| show Ev G (d + 2) _ _ M_X_far 42 [.ref 0, .int x1, .long x2, ev_unk] [.int (nI (pop ((g22 j23) ^^^ x2))), .ref 0] h R from
            Ev.cV0 (M' := M_X_answer) (as := [.int (nI (pop ((g22 j23) ^^^ x2)))]) (rest := []) l_X_87 M_X_answer_ok M_X_answer_in M_X_answer_se (by decide +kernel) ⟨_, a12⟩ rfl rfl rfl (Nat.le_of_ble_eq_true rfl) (Nat.le_of_ble_eq_true rfl) (s_X_answer' (pr16 c1 c2) <| show Ev G (d + 2) _ _ M_X_far 45 [.ref 0, .int x1, .long x2, ev_unk] [.int (nI (pop ((g22 j23) ^^^ x2)))] (xoS h 0 fk25 fp26) R from
              Ev.ret (r := (some (.int (nI (pop ((g22 j23) ^^^ x2)))))) (Or.inl ⟨_, rfl, by decide +kernel, _, rfl, rfl⟩) (k3 c1 c2)
            )
          )
        )
      )
    )
  )
theorem b_X_measure_0 {G : ev_G} {d k n : Nat} {h : ev_H} {R : Option Value → ev_H → Prop} {x1 : Int32} {x2 : Int32} {x3 : Int32} {la1 : Int32} {fk2 : Int32} {fp3 : Int32} {S4 : AS} {la5 : Int32} {fk6 : Int32} {fp7 : Int32} {la8 : Int32} {fk9 : Int32} {fp10 : Int32} {S11 : AS} {la12 : Int32} {fk13 : Int32} {fp14 : Int32} {la15 : Int32} {fk16 : Int32} {fp17 : Int32} {f_latest_18 : Int32} {f_faultKind_19 : Int32} {f_faultPlace_20 : Int32} {f_bits_21 : Int32} {f_parts_22 : Int32} {f_size_23 : Int32} {fv24 : Value} {g25 : Nat → Int64} {j26 : Nat} {j27 : Nat} {la28 : Int32} {fk29 : Int32} {fp30 : Int32}
  (a15 : hat h 0 (oC 8 [.ref 1, .ref 5, .ref 18, .ref 81, .ref 98, .int f_latest_18, .int f_faultKind_19, .int f_faultPlace_20]))
  (a16 : hat h 1 (oC 6 [.int f_bits_21, .int f_parts_22, .ref 2, .int f_size_23, .ref 3, .ref 4, fv24]))
  (a17 : hat h 3 (aL 32 g25))
  (pr1 : (b2i (decide (0 ≤ x3 ∧ x3 < (4 : Int32)))) = (0 : Int32) → XO h la1 fk2 fp3)
  (r2 : (b2i (decide (0 ≤ x3 ∧ x3 < (4 : Int32)))) = (0 : Int32) → ∃ fs, hat h 0 (oC 8 fs))
  (pr3 : ¬ (b2i (decide (0 ≤ x3 ∧ x3 < (4 : Int32)))) = (0 : Int32) → XO h la5 fk6 fp7)
  (pr4 : ¬ (b2i (decide (0 ≤ x3 ∧ x3 < (4 : Int32)))) = (0 : Int32) → StR h 1 S4)
  (pr5 : ¬ (b2i (decide (0 ≤ x3 ∧ x3 < (4 : Int32)))) = (0 : Int32) → sOk S4)
  (r6 : ¬ (b2i (decide (0 ≤ x3 ∧ x3 < (4 : Int32)))) = (0 : Int32) → ∃ fs, hat h 0 (oC 8 fs))
  (pr7 : ¬ (b2i (decide (0 ≤ x3 ∧ x3 < (4 : Int32)))) = (0 : Int32) → (b2i (inR x1 (sN S4))) = (0 : Int32) → XO h la8 fk9 fp10)
  (r8 : ¬ (b2i (decide (0 ≤ x3 ∧ x3 < (4 : Int32)))) = (0 : Int32) → (b2i (inR x1 (sN S4))) = (0 : Int32) → ∃ fs, hat h 0 (oC 8 fs))
  (pr9 : ¬ (b2i (decide (0 ≤ x3 ∧ x3 < (4 : Int32)))) = (0 : Int32) → ¬ (b2i (inR x1 (sN S4))) = (0 : Int32) → XO h la12 fk13 fp14)
  (pr10 : ¬ (b2i (decide (0 ≤ x3 ∧ x3 < (4 : Int32)))) = (0 : Int32) → ¬ (b2i (inR x1 (sN S4))) = (0 : Int32) → StR h 1 S11)
  (pr11 : ¬ (b2i (decide (0 ≤ x3 ∧ x3 < (4 : Int32)))) = (0 : Int32) → ¬ (b2i (inR x1 (sN S4))) = (0 : Int32) → sOk S11)
  (r12 : ¬ (b2i (decide (0 ≤ x3 ∧ x3 < (4 : Int32)))) = (0 : Int32) → ¬ (b2i (inR x1 (sN S4))) = (0 : Int32) → ∃ fs, hat h 0 (oC 8 fs))
  (pr13 : ¬ (b2i (decide (0 ≤ x3 ∧ x3 < (4 : Int32)))) = (0 : Int32) → ¬ (b2i (inR x1 (sN S4))) = (0 : Int32) → (b2i (inR x2 (sN S11))) = (0 : Int32) → XO h la15 fk16 fp17)
  (r14 : ¬ (b2i (decide (0 ≤ x3 ∧ x3 < (4 : Int32)))) = (0 : Int32) → ¬ (b2i (inR x1 (sN S4))) = (0 : Int32) → (b2i (inR x2 (sN S11))) = (0 : Int32) → ∃ fs, hat h 0 (oC 8 fs))
  (i18 : ¬ (b2i (decide (0 ≤ x3 ∧ x3 < (4 : Int32)))) = (0 : Int32) → ¬ (b2i (inR x1 (sN S4))) = (0 : Int32) → ¬ (b2i (inR x2 (sN S11))) = (0 : Int32) → ev_ix x1 j26 32)
  (i19 : ¬ (b2i (decide (0 ≤ x3 ∧ x3 < (4 : Int32)))) = (0 : Int32) → ¬ (b2i (inR x1 (sN S4))) = (0 : Int32) → ¬ (b2i (inR x2 (sN S11))) = (0 : Int32) → ev_ix x2 j27 32)
  (pr20 : ¬ (b2i (decide (0 ≤ x3 ∧ x3 < (4 : Int32)))) = (0 : Int32) → ¬ (b2i (inR x1 (sN S4))) = (0 : Int32) → ¬ (b2i (inR x2 (sN S11))) = (0 : Int32) → XO h la28 fk29 fp30)
  (k1 : (b2i (decide (0 ≤ x3 ∧ x3 < (4 : Int32)))) = (0 : Int32) → R (some (.int (-1 : Int32))) (xoS h (1 : Int32) fk2 fp3))
  (k2 : ¬ (b2i (decide (0 ≤ x3 ∧ x3 < (4 : Int32)))) = (0 : Int32) → (b2i (inR x1 (sN S4))) = (0 : Int32) → R (some (.int (-1 : Int32))) (xoS h (2 : Int32) fk9 fp10))
  (k3 : ¬ (b2i (decide (0 ≤ x3 ∧ x3 < (4 : Int32)))) = (0 : Int32) → ¬ (b2i (inR x1 (sN S4))) = (0 : Int32) → (b2i (inR x2 (sN S11))) = (0 : Int32) → R (some (.int (-1 : Int32))) (xoS h (2 : Int32) fk16 fp17))
  (k4 : ¬ (b2i (decide (0 ≤ x3 ∧ x3 < (4 : Int32)))) = (0 : Int32) → ¬ (b2i (inR x1 (sN S4))) = (0 : Int32) → ¬ (b2i (inR x2 (sN S11))) = (0 : Int32) → R (some (.int (nI (mesN ((g25 j26) ^^^ (g25 j27)) x3)))) (xoS h 0 fk29 fp30))
  : Ev G (d + 3) k n M_X_measure 0 [.ref 0, .int x1, .int x2, .int x3] [] h R :=
  Ev.go (pc' := 2) (ls' := [.ref 0, .int x1, .int x2, .int x3]) (st' := [.int (4 : Int32), .int x3]) [.iload_n 3, .iconst 4] (by decide +kernel) rfl <|
  Ev.cS0 (M' := M_X_isBelow) (as := [.int x3, .int (4 : Int32)]) (rest := []) l_X_148 M_X_isBelow_ok M_X_isBelow_st (by decide +kernel) rfl rfl (Nat.le_of_ble_eq_true rfl) (Nat.le_of_ble_eq_true rfl) (s_X_isBelow <| show Ev G (d + 3) _ _ M_X_measure 5 [.ref 0, .int x1, .int x2, .int x3] [.int (b2i (decide (0 ≤ x3 ∧ x3 < (4 : Int32))))] h R from
    Ev.br (i := .ifCond .ne (9)) (P := (b2i (decide (0 ≤ x3 ∧ x3 < (4 : Int32)))) = (0 : Int32)) (t := 8) (f := 14) (r := []) (by decide +kernel) rfl (fun c1 =>
      Ev.go (pc' := 10) (ls' := [.ref 0, .int x1, .int x2, .int x3]) (st' := [.int (1 : Int32), .ref 0]) [.aload_n 0, .iconst 1] (by decide +kernel) rfl <|
      Ev.cV0 (M' := M_X_refuse) (as := [.int (1 : Int32)]) (rest := []) l_X_67 M_X_refuse_ok M_X_refuse_in M_X_refuse_se (by decide +kernel) (r2 c1) rfl rfl rfl (Nat.le_of_ble_eq_true rfl) (Nat.le_of_ble_eq_true rfl) (s_X_refuse' (pr1 c1) <| show Ev G (d + 3) _ _ M_X_measure 13 [.ref 0, .int x1, .int x2, .int x3] [.int (-1 : Int32)] (xoS h (1 : Int32) fk2 fp3) R from
        Ev.ret (r := (some (.int (-1 : Int32)))) (Or.inl ⟨_, rfl, by decide +kernel, _, rfl, rfl⟩) (k1 c1)
      )
    ) (fun c1 =>
      Ev.go (pc' := 16) (ls' := [.ref 0, .int x1, .int x2, .int x3]) (st' := [.int x1, .ref 0]) [.aload_n 0, .iload_n 1] (by decide +kernel) rfl <|
      Ev.cV0 (M' := M_X_isCode) (as := [.int x1]) (rest := []) l_X_114 M_X_isCode_ok M_X_isCode_in M_X_isCode_se (by decide +kernel) (r6 c1) rfl rfl rfl (Nat.le_of_ble_eq_true rfl) (Nat.le_of_ble_eq_true rfl) (s_X_isCode (pr3 c1) (pr4 c1) (pr5 c1) <| show Ev G (d + 3) _ _ M_X_measure 19 [.ref 0, .int x1, .int x2, .int x3] [.int (b2i (inR x1 (sN S4)))] h R from
        Ev.br (i := .ifCond .eq (11)) (P := (b2i (inR x1 (sN S4))) = (0 : Int32)) (t := 30) (f := 22) (r := []) (by decide +kernel) rfl (fun c2 =>
          Ev.go (pc' := 32) (ls' := [.ref 0, .int x1, .int x2, .int x3]) (st' := [.int (2 : Int32), .ref 0]) [.aload_n 0, .iconst 2] (by decide +kernel) rfl <|
          Ev.cV0 (M' := M_X_refuse) (as := [.int (2 : Int32)]) (rest := []) l_X_67 M_X_refuse_ok M_X_refuse_in M_X_refuse_se (by decide +kernel) (r8 c1 c2) rfl rfl rfl (Nat.le_of_ble_eq_true rfl) (Nat.le_of_ble_eq_true rfl) (s_X_refuse' (pr7 c1 c2) <| show Ev G (d + 3) _ _ M_X_measure 35 [.ref 0, .int x1, .int x2, .int x3] [.int (-1 : Int32)] (xoS h (2 : Int32) fk9 fp10) R from
            Ev.ret (r := (some (.int (-1 : Int32)))) (Or.inl ⟨_, rfl, by decide +kernel, _, rfl, rfl⟩) (k2 c1 c2)
          )
        ) (fun c2 =>
          Ev.go (pc' := 24) (ls' := [.ref 0, .int x1, .int x2, .int x3]) (st' := [.int x2, .ref 0]) [.aload_n 0, .iload_n 2] (by decide +kernel) rfl <|
          Ev.cV0 (M' := M_X_isCode) (as := [.int x2]) (rest := []) l_X_114 M_X_isCode_ok M_X_isCode_in M_X_isCode_se (by decide +kernel) (r12 c1 c2) rfl rfl rfl (Nat.le_of_ble_eq_true rfl) (Nat.le_of_ble_eq_true rfl) (s_X_isCode (pr9 c1 c2) (pr10 c1 c2) (pr11 c1 c2) <| show Ev G (d + 3) _ _ M_X_measure 27 [.ref 0, .int x1, .int x2, .int x3] [.int (b2i (inR x2 (sN S11)))] h R from
            Ev.br (i := .ifCond .ne (9)) (P := (b2i (inR x2 (sN S11))) = (0 : Int32)) (t := 30) (f := 36) (r := []) (by decide +kernel) rfl (fun c3 =>
              Ev.go (pc' := 32) (ls' := [.ref 0, .int x1, .int x2, .int x3]) (st' := [.int (2 : Int32), .ref 0]) [.aload_n 0, .iconst 2] (by decide +kernel) rfl <|
              Ev.cV0 (M' := M_X_refuse) (as := [.int (2 : Int32)]) (rest := []) l_X_67 M_X_refuse_ok M_X_refuse_in M_X_refuse_se (by decide +kernel) (r14 c1 c2 c3) rfl rfl rfl (Nat.le_of_ble_eq_true rfl) (Nat.le_of_ble_eq_true rfl) (s_X_refuse' (pr13 c1 c2 c3) <| show Ev G (d + 3) _ _ M_X_measure 35 [.ref 0, .int x1, .int x2, .int x3] [.int (-1 : Int32)] (xoS h (2 : Int32) fk16 fp17) R from
                Ev.ret (r := (some (.int (-1 : Int32)))) (Or.inl ⟨_, rfl, by decide +kernel, _, rfl, rfl⟩) (k3 c1 c2 c3)
              )
            ) (fun c3 =>
              Ev.go (pc' := 38) (ls' := [.ref 0, .int x1, .int x2, .int x3]) (st' := [.ref 0, .ref 0]) [.aload_n 0, .aload_n 0] (by decide +kernel) rfl <|
              Ev.getf f_X_10 (by decide +kernel) a15 rfl <|
              Ev.getf f_X_118 (by decide +kernel) a16 rfl <|
              Ev.go (pc' := 45) (ls' := [.ref 0, .int x1, .int x2, .int x3]) (st' := [.int x1, .ref 3, .ref 0]) [.iload_n 1] (by decide +kernel) rfl <|
              Ev.lald (j := j26) (by decide +kernel) a17 (i18 c1 c2 c3) <|
              Ev.go (pc' := 47) (ls' := [.ref 0, .int x1, .int x2, .int x3]) (st' := [.ref 0, .long (g25 j26), .ref 0]) [.aload_n 0] (by decide +kernel) rfl <|
              Ev.getf f_X_10 (by decide +kernel) a15 rfl <|
              Ev.getf f_X_118 (by decide +kernel) a16 rfl <|
              Ev.go (pc' := 54) (ls' := [.ref 0, .int x1, .int x2, .int x3]) (st' := [.int x2, .ref 3, .long (g25 j26), .ref 0]) [.iload_n 2] (by decide +kernel) rfl <|
              Ev.lald (j := j27) (by decide +kernel) a17 (i19 c1 c2 c3) <|
              Ev.go (pc' := 57) (ls' := [.ref 0, .int x1, .int x2, .int x3]) (st' := [.int x3, .long ((g25 j26) ^^^ (g25 j27)), .ref 0]) [.lxor, .iload_n 3] (by decide +kernel) rfl <|
              Ev.cS0 (M' := M_X_measureOf) (as := [.long ((g25 j26) ^^^ (g25 j27)), .int x3]) (rest := [.ref 0]) l_X_152 M_X_measureOf_ok M_X_measureOf_st (by decide +kernel) rfl rfl (Nat.le_of_ble_eq_true rfl) (Nat.le_of_ble_eq_true rfl) (s_X_measureOf <| show Ev G (d + 3) _ _ M_X_measure 60 [.ref 0, .int x1, .int x2, .int x3] [.int (nI (mesN ((g25 j26) ^^^ (g25 j27)) x3)), .ref 0] h R from
                Ev.cV0 (M' := M_X_answer) (as := [.int (nI (mesN ((g25 j26) ^^^ (g25 j27)) x3))]) (rest := []) l_X_87 M_X_answer_ok M_X_answer_in M_X_answer_se (by decide +kernel) ⟨_, a15⟩ rfl rfl rfl (Nat.le_of_ble_eq_true rfl) (Nat.le_of_ble_eq_true rfl) (s_X_answer' (pr20 c1 c2 c3) <| show Ev G (d + 3) _ _ M_X_measure 63 [.ref 0, .int x1, .int x2, .int x3] [.int (nI (mesN ((g25 j26) ^^^ (g25 j27)) x3))] (xoS h 0 fk29 fp30) R from
                  Ev.ret (r := (some (.int (nI (mesN ((g25 j26) ^^^ (g25 j27)) x3))))) (Or.inl ⟨_, rfl, by decide +kernel, _, rfl, rfl⟩) (k4 c1 c2 c3)
                )
              )
            )
          )
        )
      )
    )
  )
theorem b_X_find_0 {G : ev_G} {d k n : Nat} {h : ev_H} {R : Option Value → ev_H → Prop} {x1 : Int64} {S1 : AS} {la2 : Int32} {fk3 : Int32} {fp4 : Int32} {la5 : Int32} {fk6 : Int32} {fp7 : Int32} {f_latest_8 : Int32} {f_faultKind_9 : Int32} {f_faultPlace_10 : Int32} {S11 : AS} {la12 : Int32} {fk13 : Int32} {fp14 : Int32} {la15 : Int32} {fk16 : Int32} {fp17 : Int32}
  (a6 : hat h 0 (oC 8 [.ref 1, .ref 5, .ref 18, .ref 81, .ref 98, .int f_latest_8, .int f_faultKind_9, .int f_faultPlace_10]))
  (pr1 : XO h la2 fk3 fp4)
  (pr2 : StR h 1 S1)
  (r3 : ∃ fs, hat h 0 (oC 8 fs))
  (pr4 : (b2i (numB x1 (sB S1))) = (0 : Int32) → XO h la5 fk6 fp7)
  (r5 : (b2i (numB x1 (sB S1))) = (0 : Int32) → ∃ fs, hat h 0 (oC 8 fs))
  (pr7 : ¬ (b2i (numB x1 (sB S1))) = (0 : Int32) → StR h 1 S11)
  (pr8 : ¬ (b2i (numB x1 (sB S1))) = (0 : Int32) → sOk S11)
  (r9 : ¬ (b2i (numB x1 (sB S1))) = (0 : Int32) → ∃ fs, hat h 1 (oC 6 fs))
  (pr10 : ¬ (b2i (numB x1 (sB S1))) = (0 : Int32) → (frI (whP S11 x1) (sN S11)) = (-1 : Int32) → XO h la12 fk13 fp14)
  (pr11 : ¬ (b2i (numB x1 (sB S1))) = (0 : Int32) → ¬ (frI (whP S11 x1) (sN S11)) = (-1 : Int32) → XO h la15 fk16 fp17)
  (k1 : (b2i (numB x1 (sB S1))) = (0 : Int32) → R (some (.int (-1 : Int32))) (xoS h (1 : Int32) fk6 fp7))
  (k2 : ¬ (b2i (numB x1 (sB S1))) = (0 : Int32) → (frI (whP S11 x1) (sN S11)) = (-1 : Int32) → R (some (.int (-1 : Int32))) (xoS h (5 : Int32) fk13 fp14))
  (k3 : ¬ (b2i (numB x1 (sB S1))) = (0 : Int32) → ¬ (frI (whP S11 x1) (sN S11)) = (-1 : Int32) → R (some (.int (frI (whP S11 x1) (sN S11)))) (xoS h 0 fk16 fp17))
  : Ev G (d + 1) k n M_X_find 0 [.ref 0, .long x1, ev_unk, ev_unk] [] h R :=
  Ev.go (pc' := 2) (ls' := [.ref 0, .long x1, ev_unk, ev_unk]) (st' := [.long x1, .ref 0]) [.aload_n 0, .lload_n 1] (by decide +kernel) rfl <|
  Ev.cV0 (M' := M_X_isNumber) (as := [.long x1]) (rest := []) l_X_140 M_X_isNumber_ok M_X_isNumber_in M_X_isNumber_se (by decide +kernel) r3 rfl rfl rfl (Nat.le_of_ble_eq_true rfl) (Nat.le_of_ble_eq_true rfl) (s_X_isNumber pr1 pr2 <| show Ev G (d + 1) _ _ M_X_find 5 [.ref 0, .long x1, ev_unk, ev_unk] [.int (b2i (numB x1 (sB S1)))] h R from
    Ev.br (i := .ifCond .ne (9)) (P := (b2i (numB x1 (sB S1))) = (0 : Int32)) (t := 8) (f := 14) (r := []) (by decide +kernel) rfl (fun c1 =>
      Ev.go (pc' := 10) (ls' := [.ref 0, .long x1, ev_unk, ev_unk]) (st' := [.int (1 : Int32), .ref 0]) [.aload_n 0, .iconst 1] (by decide +kernel) rfl <|
      Ev.cV0 (M' := M_X_refuse) (as := [.int (1 : Int32)]) (rest := []) l_X_67 M_X_refuse_ok M_X_refuse_in M_X_refuse_se (by decide +kernel) (r5 c1) rfl rfl rfl (Nat.le_of_ble_eq_true rfl) (Nat.le_of_ble_eq_true rfl) (s_X_refuse' (pr4 c1) <| show Ev G (d + 1) _ _ M_X_find 13 [.ref 0, .long x1, ev_unk, ev_unk] [.int (-1 : Int32)] (xoS h (1 : Int32) fk6 fp7) R from
        Ev.ret (r := (some (.int (-1 : Int32)))) (Or.inl ⟨_, rfl, by decide +kernel, _, rfl, rfl⟩) (k1 c1)
      )
    ) (fun c1 =>
      Ev.go (pc' := 15) (ls' := [.ref 0, .long x1, ev_unk, ev_unk]) (st' := [.ref 0]) [.aload_n 0] (by decide +kernel) rfl <|
      Ev.getf f_X_10 (by decide +kernel) a6 rfl <|
      Ev.go (pc' := 19) (ls' := [.ref 0, .long x1, ev_unk, ev_unk]) (st' := [.long x1, .ref 1]) [.lload_n 1] (by decide +kernel) rfl <|
      Ev.cV0 (M' := M_St_whereIs) (as := [.long x1]) (rest := []) l_X_156 M_St_whereIs_ok M_St_whereIs_in M_St_whereIs_se (by decide +kernel) (r9 c1) rfl rfl rfl (Nat.le_of_ble_eq_true rfl) (Nat.le_of_ble_eq_true rfl) (s_St_whereIs (pr7 c1) (pr8 c1) <| show Ev G (d + 1) _ _ M_X_find 22 [.ref 0, .long x1, ev_unk, ev_unk] [.int (frI (whP S11 x1) (sN S11))] h R from
        Ev.go (pc' := 25) (ls' := [.ref 0, .long x1, ev_unk, .int (frI (whP S11 x1) (sN S11))]) (st' := [.int (-1 : Int32), .int (frI (whP S11 x1) (sN S11))]) [.istore_n 3, .iload_n 3, .iconst (-1)] (by decide +kernel) rfl <|
        Ev.br (i := .if_icmp .ne (9)) (P := (frI (whP S11 x1) (sN S11)) = (-1 : Int32)) (t := 28) (f := 34) (r := []) (by decide +kernel) rfl (fun c2 =>
          Ev.go (pc' := 30) (ls' := [.ref 0, .long x1, ev_unk, .int (frI (whP S11 x1) (sN S11))]) (st' := [.int (5 : Int32), .ref 0]) [.aload_n 0, .iconst 5] (by decide +kernel) rfl <|
          Ev.cV0 (M' := M_X_refuse) (as := [.int (5 : Int32)]) (rest := []) l_X_67 M_X_refuse_ok M_X_refuse_in M_X_refuse_se (by decide +kernel) ⟨_, a6⟩ rfl rfl rfl (Nat.le_of_ble_eq_true rfl) (Nat.le_of_ble_eq_true rfl) (s_X_refuse' (pr10 c1 c2) <| show Ev G (d + 1) _ _ M_X_find 33 [.ref 0, .long x1, ev_unk, .int (frI (whP S11 x1) (sN S11))] [.int (-1 : Int32)] (xoS h (5 : Int32) fk13 fp14) R from
            Ev.ret (r := (some (.int (-1 : Int32)))) (Or.inl ⟨_, rfl, by decide +kernel, _, rfl, rfl⟩) (k2 c1 c2)
          )
        ) (fun c2 =>
          Ev.go (pc' := 36) (ls' := [.ref 0, .long x1, ev_unk, .int (frI (whP S11 x1) (sN S11))]) (st' := [.int (frI (whP S11 x1) (sN S11)), .ref 0]) [.aload_n 0, .iload_n 3] (by decide +kernel) rfl <|
          Ev.cV0 (M' := M_X_answer) (as := [.int (frI (whP S11 x1) (sN S11))]) (rest := []) l_X_87 M_X_answer_ok M_X_answer_in M_X_answer_se (by decide +kernel) ⟨_, a6⟩ rfl rfl rfl (Nat.le_of_ble_eq_true rfl) (Nat.le_of_ble_eq_true rfl) (s_X_answer' (pr11 c1 c2) <| show Ev G (d + 1) _ _ M_X_find 39 [.ref 0, .long x1, ev_unk, .int (frI (whP S11 x1) (sN S11))] [.int (frI (whP S11 x1) (sN S11))] (xoS h 0 fk16 fp17) R from
            Ev.ret (r := (some (.int (frI (whP S11 x1) (sN S11))))) (Or.inl ⟨_, rfl, by decide +kernel, _, rfl, rfl⟩) (k3 c1 c2)
          )
        )
      )
    )
  )
theorem b_X_fault_0 {G : ev_G} {d k n : Nat} {h : ev_H} {R : Option Value → ev_H → Prop} {x1 : Int32} {f_latest_1 : Int32} {f_faultKind_2 : Int32} {f_faultPlace_3 : Int32}
  (a1 : hat h 0 (oC 8 [.ref 1, .ref 5, .ref 18, .ref 81, .ref 98, .int f_latest_1, .int f_faultKind_2, .int f_faultPlace_3]))
  (k1 : x1 = (0 : Int32) → R (some (.int f_faultKind_2)) h)
  (k2 : ¬ x1 = (0 : Int32) → x1 = (1 : Int32) → R (some (.int f_faultPlace_3)) h)
  (k3 : ¬ x1 = (0 : Int32) → ¬ x1 = (1 : Int32) → R (some (.int (-1 : Int32))) h)
  : Ev G d k n M_X_fault 0 [.ref 0, .int x1] [] h R :=
  Ev.go (pc' := 1) (ls' := [.ref 0, .int x1]) (st' := [.int x1]) [.iload_n 1] (by decide +kernel) rfl <|
  Ev.br (i := .ifCond .ne (8)) (P := x1 = (0 : Int32)) (t := 4) (f := 9) (r := []) (by decide +kernel) rfl (fun c1 =>
    Ev.go (pc' := 5) (ls' := [.ref 0, .int x1]) (st' := [.ref 0]) [.aload_n 0] (by decide +kernel) rfl <|
    Ev.getf f_X_48 (by decide +kernel) a1 rfl <|
    Ev.ret (r := (some (.int f_faultKind_2))) (Or.inl ⟨_, rfl, by decide +kernel, _, rfl, rfl⟩) (k1 c1)
  ) (fun c1 =>
    Ev.go (pc' := 11) (ls' := [.ref 0, .int x1]) (st' := [.int (1 : Int32), .int x1]) [.iload_n 1, .iconst 1] (by decide +kernel) rfl <|
    Ev.br (i := .if_icmp .ne (10)) (P := x1 = (1 : Int32)) (t := 14) (f := 21) (r := []) (by decide +kernel) rfl (fun c2 =>
      Ev.go (pc' := 15) (ls' := [.ref 0, .int x1]) (st' := [.ref 0]) [.aload_n 0] (by decide +kernel) rfl <|
      Ev.getf f_X_51 (by decide +kernel) a1 rfl <|
      Ev.go (pc' := 22) (ls' := [.ref 0, .int x1]) (st' := [.int f_faultPlace_3]) [.goto (4)] (by decide +kernel) rfl <|
      Ev.ret (r := (some (.int f_faultPlace_3))) (Or.inl ⟨_, rfl, by decide +kernel, _, rfl, rfl⟩) (k2 c1 c2)
    ) (fun c2 =>
      Ev.go (pc' := 22) (ls' := [.ref 0, .int x1]) (st' := [.int (-1 : Int32)]) [.iconst (-1)] (by decide +kernel) rfl <|
      Ev.ret (r := (some (.int (-1 : Int32)))) (Or.inl ⟨_, rfl, by decide +kernel, _, rfl, rfl⟩) (k3 c1 c2)
    )
  )
theorem b_X_many_0n {G : ev_G} {d k n : Nat} {h : ev_H} {R : Option Value → ev_H → Prop} {x1 : Int32} {f_latest_1 : Int32} {f_faultKind_2 : Int32} {f_faultPlace_3 : Int32} {f_bits_4 : Int32} {f_parts_5 : Int32} {f_size_6 : Int32} {la7 : Int32} {fk8 : Int32} {fp9 : Int32} {la10 : Int32} {fk11 : Int32} {fp12 : Int32} {la13 : Int32} {fk14 : Int32} {fp15 : Int32} {S16 : AS} {la17 : Int32} {fk18 : Int32} {fp19 : Int32} {S20 : AS} {la21 : Int32} {fk22 : Int32} {fp23 : Int32} {f_first_24 : Int32} {f_kept_25 : Int32} {f_marked_26 : Int32} {la27 : Int32} {fk28 : Int32} {fp29 : Int32} {la30 : Int32} {fk31 : Int32} {fp32 : Int32} {la33 : Int32} {fk34 : Int32} {fp35 : Int32} {la36 : Int32} {fk37 : Int32} {fp38 : Int32}
  (a1 : hat h 0 (oC 8 [.ref 1, .ref 5, .ref 18, .ref 81, .ref 98, .int f_latest_1, .int f_faultKind_2, .int f_faultPlace_3]))
  (a2 : hat h 1 (oC 6 [.int f_bits_4, .int f_parts_5, .ref 2, .int f_size_6, .ref 3, .ref 4, .null]))
  (a16 : hat h 18 (oC 2 [.ref 19, .ref 20, .int f_first_24, .int f_kept_25, .int f_marked_26]))
  (pr3 : x1 = (0 : Int32) → XO h la7 fk8 fp9)
  (pr4 : x1 = (1 : Int32) → XO h la10 fk11 fp12)
  (pr5 : x1 = (2 : Int32) → XO h la13 fk14 fp15)
  (pr6 : x1 = (3 : Int32) → StR h 1 S16)
  (pr7 : x1 = (3 : Int32) → sOk S16)
  (pr8 : x1 = (3 : Int32) → sFl S16 = [] ∨ flOk (sFl S16))
  (r9 : x1 = (3 : Int32) → ∃ fs, hat h 1 (oC 6 fs))
  (pr10 : x1 = (3 : Int32) → XO h la17 fk18 fp19)
  (pr11 : x1 = (4 : Int32) → StR h 1 S20)
  (pr12 : x1 = (4 : Int32) → sOk S20)
  (pr13 : x1 = (4 : Int32) → sFl S20 = [] ∨ flOk (sFl S20))
  (r14 : x1 = (4 : Int32) → ∃ fs, hat h 1 (oC 6 fs))
  (pr15 : x1 = (4 : Int32) → XO h la21 fk22 fp23)
  (pr17 : x1 = (5 : Int32) → XO h la27 fk28 fp29)
  (pr18 : x1 = (6 : Int32) → XO h la30 fk31 fp32)
  (pr19 : x1 = (7 : Int32) → XO h la33 fk34 fp35)
  (pr20 : ¬ x1 = (0 : Int32) → ¬ x1 = (1 : Int32) → ¬ x1 = (2 : Int32) → ¬ x1 = (3 : Int32) → ¬ x1 = (4 : Int32) → ¬ x1 = (5 : Int32) → ¬ x1 = (6 : Int32) → ¬ x1 = (7 : Int32) → XO h la36 fk37 fp38)
  (r21 : ¬ x1 = (0 : Int32) → ¬ x1 = (1 : Int32) → ¬ x1 = (2 : Int32) → ¬ x1 = (3 : Int32) → ¬ x1 = (4 : Int32) → ¬ x1 = (5 : Int32) → ¬ x1 = (6 : Int32) → ¬ x1 = (7 : Int32) → ∃ fs, hat h 0 (oC 8 fs))
  (k1 : x1 = (0 : Int32) → R (some (.int f_bits_4)) (xoS h 0 fk8 fp9))
  (k2 : x1 = (1 : Int32) → R (some (.int f_parts_5)) (xoS h 0 fk11 fp12))
  (k3 : x1 = (2 : Int32) → R (some (.int f_size_6)) (xoS h 0 fk14 fp15))
  (k4 : x1 = (3 : Int32) → R (some (.int (nI (pop32 (setI (ctP S16)))))) (xoS h 0 fk18 fp19))
  (k5 : x1 = (4 : Int32) → R (some (.int (setI (ctP S20)))) (xoS h 0 fk22 fp23))
  (k6 : x1 = (5 : Int32) → R (some (.int f_kept_25)) (xoS h 0 fk28 fp29))
  (k7 : x1 = (6 : Int32) → R (some (.int f_marked_26)) (xoS h 0 fk31 fp32))
  (k8 : x1 = (7 : Int32) → R (some (.int (0 : Int32))) (xoS h 0 fk34 fp35))
  (k9 : ¬ x1 = (0 : Int32) → ¬ x1 = (1 : Int32) → ¬ x1 = (2 : Int32) → ¬ x1 = (3 : Int32) → ¬ x1 = (4 : Int32) → ¬ x1 = (5 : Int32) → ¬ x1 = (6 : Int32) → ¬ x1 = (7 : Int32) → R (some (.int (-1 : Int32))) (xoS h (1 : Int32) fk37 fp38))
  : Ev G (d + 6) k n M_X_many 0 [.ref 0, .int x1] [] h R :=
  Ev.go (pc' := 1) (ls' := [.ref 0, .int x1]) (st' := [.int x1]) [.iload_n 1] (by decide +kernel) rfl <|
  if c1_0 : x1 = (0 : Int32) then Ev.tsw (t := 48) (off := 47) (o := 154) (lo := 0) (hi := 7) (offs := #[47, 59, 71, 83, 98, 110, 122, 134]) (len := 47) (by decide +kernel) (by rw [c1_0]; decide) (by rw [c1_0]; decide) (by rw [c1_0]; decide) rfl <|
    Ev.go (pc' := 50) (ls' := [.ref 0, .int x1]) (st' := [.ref 0, .ref 0]) [.aload_n 0, .aload_n 0] (by decide +kernel) rfl <|
    Ev.getf f_X_10 (by decide +kernel) a1 rfl <|
    Ev.getf f_X_90 (by decide +kernel) a2 rfl <|
    Ev.cV0 (M' := M_X_answer) (as := [.int f_bits_4]) (rest := []) l_X_87 M_X_answer_ok M_X_answer_in M_X_answer_se (by decide +kernel) ⟨_, a1⟩ rfl rfl rfl (Nat.le_of_ble_eq_true rfl) (Nat.le_of_ble_eq_true rfl) (s_X_answer' (pr3 c1_0) <| show Ev G (d + 6) _ _ M_X_many 59 [.ref 0, .int x1] [.int f_bits_4] (xoS h 0 fk8 fp9) R from
      Ev.ret (r := (some (.int f_bits_4))) (Or.inl ⟨_, rfl, by decide +kernel, _, rfl, rfl⟩) (k1 c1_0)
    )
  else
  if c1_1 : x1 = (1 : Int32) then Ev.tsw (t := 60) (off := 59) (o := 154) (lo := 0) (hi := 7) (offs := #[47, 59, 71, 83, 98, 110, 122, 134]) (len := 47) (by decide +kernel) (by rw [c1_1]; decide) (by rw [c1_1]; decide) (by rw [c1_1]; decide) rfl <|
    Ev.go (pc' := 62) (ls' := [.ref 0, .int x1]) (st' := [.ref 0, .ref 0]) [.aload_n 0, .aload_n 0] (by decide +kernel) rfl <|
    Ev.getf f_X_10 (by decide +kernel) a1 rfl <|
    Ev.getf f_X_93 (by decide +kernel) a2 rfl <|
    Ev.cV0 (M' := M_X_answer) (as := [.int f_parts_5]) (rest := []) l_X_87 M_X_answer_ok M_X_answer_in M_X_answer_se (by decide +kernel) ⟨_, a1⟩ rfl rfl rfl (Nat.le_of_ble_eq_true rfl) (Nat.le_of_ble_eq_true rfl) (s_X_answer' (pr4 c1_1) <| show Ev G (d + 6) _ _ M_X_many 71 [.ref 0, .int x1] [.int f_parts_5] (xoS h 0 fk11 fp12) R from
      Ev.ret (r := (some (.int f_parts_5))) (Or.inl ⟨_, rfl, by decide +kernel, _, rfl, rfl⟩) (k2 c1_1)
    )
  else
  if c1_2 : x1 = (2 : Int32) then Ev.tsw (t := 72) (off := 71) (o := 154) (lo := 0) (hi := 7) (offs := #[47, 59, 71, 83, 98, 110, 122, 134]) (len := 47) (by decide +kernel) (by rw [c1_2]; decide) (by rw [c1_2]; decide) (by rw [c1_2]; decide) rfl <|
    Ev.go (pc' := 74) (ls' := [.ref 0, .int x1]) (st' := [.ref 0, .ref 0]) [.aload_n 0, .aload_n 0] (by decide +kernel) rfl <|
    Ev.getf f_X_10 (by decide +kernel) a1 rfl <|
    Ev.getf f_X_86 (by decide +kernel) a2 rfl <|
    Ev.cV0 (M' := M_X_answer) (as := [.int f_size_6]) (rest := []) l_X_87 M_X_answer_ok M_X_answer_in M_X_answer_se (by decide +kernel) ⟨_, a1⟩ rfl rfl rfl (Nat.le_of_ble_eq_true rfl) (Nat.le_of_ble_eq_true rfl) (s_X_answer' (pr5 c1_2) <| show Ev G (d + 6) _ _ M_X_many 83 [.ref 0, .int x1] [.int f_size_6] (xoS h 0 fk14 fp15) R from
      Ev.ret (r := (some (.int f_size_6))) (Or.inl ⟨_, rfl, by decide +kernel, _, rfl, rfl⟩) (k3 c1_2)
    )
  else
  if c1_3 : x1 = (3 : Int32) then Ev.tsw (t := 84) (off := 83) (o := 154) (lo := 0) (hi := 7) (offs := #[47, 59, 71, 83, 98, 110, 122, 134]) (len := 47) (by decide +kernel) (by rw [c1_3]; decide) (by rw [c1_3]; decide) (by rw [c1_3]; decide) rfl <|
    Ev.go (pc' := 86) (ls' := [.ref 0, .int x1]) (st' := [.ref 0, .ref 0]) [.aload_n 0, .aload_n 0] (by decide +kernel) rfl <|
    Ev.getf f_X_10 (by decide +kernel) a1 rfl <|
    Ev.cV0 (M' := M_St_counting) (as := []) (rest := [.ref 0]) l_X_96 M_St_counting_ok M_St_counting_in M_St_counting_se (by decide +kernel) (r9 c1_3) rfl rfl rfl (Nat.le_of_ble_eq_true rfl) (Nat.le_of_ble_eq_true rfl) (s_St_counting (pr6 c1_3) (pr7 c1_3) (pr8 c1_3) <| show Ev G (d + 6) _ _ M_X_many 92 [.ref 0, .int x1] [.int (setI (ctP S16)), .ref 0] h R from
      Ev.cS0 (M' := M_JI_bitCount) (as := [.int (setI (ctP S16))]) (rest := [.ref 0]) l_X_99 M_JI_bitCount_ok M_JI_bitCount_st (by decide +kernel) rfl rfl (Nat.le_of_ble_eq_true rfl) (Nat.le_of_ble_eq_true rfl) (s_JI_bitCount <| show Ev G (d + 6) _ _ M_X_many 95 [.ref 0, .int x1] [.int (nI (pop32 (setI (ctP S16)))), .ref 0] h R from
        Ev.cV0 (M' := M_X_answer) (as := [.int (nI (pop32 (setI (ctP S16))))]) (rest := []) l_X_87 M_X_answer_ok M_X_answer_in M_X_answer_se (by decide +kernel) ⟨_, a1⟩ rfl rfl rfl (Nat.le_of_ble_eq_true rfl) (Nat.le_of_ble_eq_true rfl) (s_X_answer' (pr10 c1_3) <| show Ev G (d + 6) _ _ M_X_many 98 [.ref 0, .int x1] [.int (nI (pop32 (setI (ctP S16))))] (xoS h 0 fk18 fp19) R from
          Ev.ret (r := (some (.int (nI (pop32 (setI (ctP S16))))))) (Or.inl ⟨_, rfl, by decide +kernel, _, rfl, rfl⟩) (k4 c1_3)
        )
      )
    )
  else
  if c1_4 : x1 = (4 : Int32) then Ev.tsw (t := 99) (off := 98) (o := 154) (lo := 0) (hi := 7) (offs := #[47, 59, 71, 83, 98, 110, 122, 134]) (len := 47) (by decide +kernel) (by rw [c1_4]; decide) (by rw [c1_4]; decide) (by rw [c1_4]; decide) rfl <|
    Ev.go (pc' := 101) (ls' := [.ref 0, .int x1]) (st' := [.ref 0, .ref 0]) [.aload_n 0, .aload_n 0] (by decide +kernel) rfl <|
    Ev.getf f_X_10 (by decide +kernel) a1 rfl <|
    Ev.cV0 (M' := M_St_counting) (as := []) (rest := [.ref 0]) l_X_96 M_St_counting_ok M_St_counting_in M_St_counting_se (by decide +kernel) (r14 c1_4) rfl rfl rfl (Nat.le_of_ble_eq_true rfl) (Nat.le_of_ble_eq_true rfl) (s_St_counting (pr11 c1_4) (pr12 c1_4) (pr13 c1_4) <| show Ev G (d + 6) _ _ M_X_many 107 [.ref 0, .int x1] [.int (setI (ctP S20)), .ref 0] h R from
      Ev.cV0 (M' := M_X_answer) (as := [.int (setI (ctP S20))]) (rest := []) l_X_87 M_X_answer_ok M_X_answer_in M_X_answer_se (by decide +kernel) ⟨_, a1⟩ rfl rfl rfl (Nat.le_of_ble_eq_true rfl) (Nat.le_of_ble_eq_true rfl) (s_X_answer' (pr15 c1_4) <| show Ev G (d + 6) _ _ M_X_many 110 [.ref 0, .int x1] [.int (setI (ctP S20))] (xoS h 0 fk22 fp23) R from
        Ev.ret (r := (some (.int (setI (ctP S20))))) (Or.inl ⟨_, rfl, by decide +kernel, _, rfl, rfl⟩) (k5 c1_4)
      )
    )
  else
  if c1_5 : x1 = (5 : Int32) then Ev.tsw (t := 111) (off := 110) (o := 154) (lo := 0) (hi := 7) (offs := #[47, 59, 71, 83, 98, 110, 122, 134]) (len := 47) (by decide +kernel) (by rw [c1_5]; decide) (by rw [c1_5]; decide) (by rw [c1_5]; decide) rfl <|
    Ev.go (pc' := 113) (ls' := [.ref 0, .int x1]) (st' := [.ref 0, .ref 0]) [.aload_n 0, .aload_n 0] (by decide +kernel) rfl <|
    Ev.getf f_X_26 (by decide +kernel) a1 rfl <|
    Ev.getf f_X_104 (by decide +kernel) a16 rfl <|
    Ev.cV0 (M' := M_X_answer) (as := [.int f_kept_25]) (rest := []) l_X_87 M_X_answer_ok M_X_answer_in M_X_answer_se (by decide +kernel) ⟨_, a1⟩ rfl rfl rfl (Nat.le_of_ble_eq_true rfl) (Nat.le_of_ble_eq_true rfl) (s_X_answer' (pr17 c1_5) <| show Ev G (d + 6) _ _ M_X_many 122 [.ref 0, .int x1] [.int f_kept_25] (xoS h 0 fk28 fp29) R from
      Ev.ret (r := (some (.int f_kept_25))) (Or.inl ⟨_, rfl, by decide +kernel, _, rfl, rfl⟩) (k6 c1_5)
    )
  else
  if c1_6 : x1 = (6 : Int32) then Ev.tsw (t := 123) (off := 122) (o := 154) (lo := 0) (hi := 7) (offs := #[47, 59, 71, 83, 98, 110, 122, 134]) (len := 47) (by decide +kernel) (by rw [c1_6]; decide) (by rw [c1_6]; decide) (by rw [c1_6]; decide) rfl <|
    Ev.go (pc' := 125) (ls' := [.ref 0, .int x1]) (st' := [.ref 0, .ref 0]) [.aload_n 0, .aload_n 0] (by decide +kernel) rfl <|
    Ev.getf f_X_26 (by decide +kernel) a1 rfl <|
    Ev.getf f_X_107 (by decide +kernel) a16 rfl <|
    Ev.cV0 (M' := M_X_answer) (as := [.int f_marked_26]) (rest := []) l_X_87 M_X_answer_ok M_X_answer_in M_X_answer_se (by decide +kernel) ⟨_, a1⟩ rfl rfl rfl (Nat.le_of_ble_eq_true rfl) (Nat.le_of_ble_eq_true rfl) (s_X_answer' (pr18 c1_6) <| show Ev G (d + 6) _ _ M_X_many 134 [.ref 0, .int x1] [.int f_marked_26] (xoS h 0 fk31 fp32) R from
      Ev.ret (r := (some (.int f_marked_26))) (Or.inl ⟨_, rfl, by decide +kernel, _, rfl, rfl⟩) (k7 c1_6)
    )
  else
  if c1_7 : x1 = (7 : Int32) then Ev.tsw (t := 135) (off := 134) (o := 154) (lo := 0) (hi := 7) (offs := #[47, 59, 71, 83, 98, 110, 122, 134]) (len := 47) (by decide +kernel) (by rw [c1_7]; decide) (by rw [c1_7]; decide) (by rw [c1_7]; decide) rfl <|
    Ev.go (pc' := 137) (ls' := [.ref 0, .int x1]) (st' := [.ref 0, .ref 0]) [.aload_n 0, .aload_n 0] (by decide +kernel) rfl <|
    Ev.getf f_X_10 (by decide +kernel) a1 rfl <|
    Ev.getf f_X_110 (by decide +kernel) a2 rfl <|
    Ev.nnN (o := 7) (by decide +kernel) <|
    Ev.go (pc' := 151) (ls' := [.ref 0, .int x1]) (st' := [.int (0 : Int32), .ref 0]) [.iconst 0, .goto (4)] (by decide +kernel) rfl <|
    Ev.cV0 (M' := M_X_answer) (as := [.int (0 : Int32)]) (rest := []) l_X_87 M_X_answer_ok M_X_answer_in M_X_answer_se (by decide +kernel) ⟨_, a1⟩ rfl rfl rfl (Nat.le_of_ble_eq_true rfl) (Nat.le_of_ble_eq_true rfl) (s_X_answer' (pr19 c1_7) <| show Ev G (d + 6) _ _ M_X_many 154 [.ref 0, .int x1] [.int (0 : Int32)] (xoS h 0 fk34 fp35) R from
      Ev.ret (r := (some (.int (0 : Int32)))) (Or.inl ⟨_, rfl, by decide +kernel, _, rfl, rfl⟩) (k8 c1_7)
    )
  else
  Ev.tswd (t := 155) (o := 154) (lo := 0) (hi := 7) (offs := #[47, 59, 71, 83, 98, 110, 122, 134]) (len := 47) (by decide +kernel) (by have qc1_0 := ne_i (v := 0) (0 : Int32) (by decide) c1_0; have qc1_1 := ne_i (v := 1) (1 : Int32) (by decide) c1_1; have qc1_2 := ne_i (v := 2) (2 : Int32) (by decide) c1_2; have qc1_3 := ne_i (v := 3) (3 : Int32) (by decide) c1_3; have qc1_4 := ne_i (v := 4) (4 : Int32) (by decide) c1_4; have qc1_5 := ne_i (v := 5) (5 : Int32) (by decide) c1_5; have qc1_6 := ne_i (v := 6) (6 : Int32) (by decide) c1_6; have qc1_7 := ne_i (v := 7) (7 : Int32) (by decide) c1_7; omega) rfl <|
    Ev.go (pc' := 157) (ls' := [.ref 0, .int x1]) (st' := [.int (1 : Int32), .ref 0]) [.aload_n 0, .iconst 1] (by decide +kernel) rfl <|
    Ev.cV0 (M' := M_X_refuse) (as := [.int (1 : Int32)]) (rest := []) l_X_67 M_X_refuse_ok M_X_refuse_in M_X_refuse_se (by decide +kernel) (r21 c1_0 c1_1 c1_2 c1_3 c1_4 c1_5 c1_6 c1_7) rfl rfl rfl (Nat.le_of_ble_eq_true rfl) (Nat.le_of_ble_eq_true rfl) (s_X_refuse' (pr20 c1_0 c1_1 c1_2 c1_3 c1_4 c1_5 c1_6 c1_7) <| show Ev G (d + 6) _ _ M_X_many 160 [.ref 0, .int x1] [.int (-1 : Int32)] (xoS h (1 : Int32) fk37 fp38) R from
      Ev.ret (r := (some (.int (-1 : Int32)))) (Or.inl ⟨_, rfl, by decide +kernel, _, rfl, rfl⟩) (k9 c1_0 c1_1 c1_2 c1_3 c1_4 c1_5 c1_6 c1_7)
    )
  
theorem b_X_many_0r {G : ev_G} {d k n : Nat} {h : ev_H} {R : Option Value → ev_H → Prop} {x1 : Int32} {f_latest_1 : Int32} {f_faultKind_2 : Int32} {f_faultPlace_3 : Int32} {f_bits_4 : Int32} {f_parts_5 : Int32} {f_size_6 : Int32} {ff7 : Nat} {la8 : Int32} {fk9 : Int32} {fp10 : Int32} {la11 : Int32} {fk12 : Int32} {fp13 : Int32} {la14 : Int32} {fk15 : Int32} {fp16 : Int32} {S17 : AS} {la18 : Int32} {fk19 : Int32} {fp20 : Int32} {S21 : AS} {la22 : Int32} {fk23 : Int32} {fp24 : Int32} {f_first_25 : Int32} {f_kept_26 : Int32} {f_marked_27 : Int32} {la28 : Int32} {fk29 : Int32} {fp30 : Int32} {la31 : Int32} {fk32 : Int32} {fp33 : Int32} {la34 : Int32} {fk35 : Int32} {fp36 : Int32} {la37 : Int32} {fk38 : Int32} {fp39 : Int32}
  (a1 : hat h 0 (oC 8 [.ref 1, .ref 5, .ref 18, .ref 81, .ref 98, .int f_latest_1, .int f_faultKind_2, .int f_faultPlace_3]))
  (a2 : hat h 1 (oC 6 [.int f_bits_4, .int f_parts_5, .ref 2, .int f_size_6, .ref 3, .ref 4, .ref ff7]))
  (a16 : hat h 18 (oC 2 [.ref 19, .ref 20, .int f_first_25, .int f_kept_26, .int f_marked_27]))
  (pr3 : x1 = (0 : Int32) → XO h la8 fk9 fp10)
  (pr4 : x1 = (1 : Int32) → XO h la11 fk12 fp13)
  (pr5 : x1 = (2 : Int32) → XO h la14 fk15 fp16)
  (pr6 : x1 = (3 : Int32) → StR h 1 S17)
  (pr7 : x1 = (3 : Int32) → sOk S17)
  (pr8 : x1 = (3 : Int32) → sFl S17 = [] ∨ flOk (sFl S17))
  (r9 : x1 = (3 : Int32) → ∃ fs, hat h 1 (oC 6 fs))
  (pr10 : x1 = (3 : Int32) → XO h la18 fk19 fp20)
  (pr11 : x1 = (4 : Int32) → StR h 1 S21)
  (pr12 : x1 = (4 : Int32) → sOk S21)
  (pr13 : x1 = (4 : Int32) → sFl S21 = [] ∨ flOk (sFl S21))
  (r14 : x1 = (4 : Int32) → ∃ fs, hat h 1 (oC 6 fs))
  (pr15 : x1 = (4 : Int32) → XO h la22 fk23 fp24)
  (pr17 : x1 = (5 : Int32) → XO h la28 fk29 fp30)
  (pr18 : x1 = (6 : Int32) → XO h la31 fk32 fp33)
  (pr19 : x1 = (7 : Int32) → XO h la34 fk35 fp36)
  (pr20 : ¬ x1 = (0 : Int32) → ¬ x1 = (1 : Int32) → ¬ x1 = (2 : Int32) → ¬ x1 = (3 : Int32) → ¬ x1 = (4 : Int32) → ¬ x1 = (5 : Int32) → ¬ x1 = (6 : Int32) → ¬ x1 = (7 : Int32) → XO h la37 fk38 fp39)
  (r21 : ¬ x1 = (0 : Int32) → ¬ x1 = (1 : Int32) → ¬ x1 = (2 : Int32) → ¬ x1 = (3 : Int32) → ¬ x1 = (4 : Int32) → ¬ x1 = (5 : Int32) → ¬ x1 = (6 : Int32) → ¬ x1 = (7 : Int32) → ∃ fs, hat h 0 (oC 8 fs))
  (k1 : x1 = (0 : Int32) → R (some (.int f_bits_4)) (xoS h 0 fk9 fp10))
  (k2 : x1 = (1 : Int32) → R (some (.int f_parts_5)) (xoS h 0 fk12 fp13))
  (k3 : x1 = (2 : Int32) → R (some (.int f_size_6)) (xoS h 0 fk15 fp16))
  (k4 : x1 = (3 : Int32) → R (some (.int (nI (pop32 (setI (ctP S17)))))) (xoS h 0 fk19 fp20))
  (k5 : x1 = (4 : Int32) → R (some (.int (setI (ctP S21)))) (xoS h 0 fk23 fp24))
  (k6 : x1 = (5 : Int32) → R (some (.int f_kept_26)) (xoS h 0 fk29 fp30))
  (k7 : x1 = (6 : Int32) → R (some (.int f_marked_27)) (xoS h 0 fk32 fp33))
  (k8 : x1 = (7 : Int32) → R (some (.int (1 : Int32))) (xoS h 0 fk35 fp36))
  (k9 : ¬ x1 = (0 : Int32) → ¬ x1 = (1 : Int32) → ¬ x1 = (2 : Int32) → ¬ x1 = (3 : Int32) → ¬ x1 = (4 : Int32) → ¬ x1 = (5 : Int32) → ¬ x1 = (6 : Int32) → ¬ x1 = (7 : Int32) → R (some (.int (-1 : Int32))) (xoS h (1 : Int32) fk38 fp39))
  : Ev G (d + 6) k n M_X_many 0 [.ref 0, .int x1] [] h R :=
  Ev.go (pc' := 1) (ls' := [.ref 0, .int x1]) (st' := [.int x1]) [.iload_n 1] (by decide +kernel) rfl <|
  if c1_0 : x1 = (0 : Int32) then Ev.tsw (t := 48) (off := 47) (o := 154) (lo := 0) (hi := 7) (offs := #[47, 59, 71, 83, 98, 110, 122, 134]) (len := 47) (by decide +kernel) (by rw [c1_0]; decide) (by rw [c1_0]; decide) (by rw [c1_0]; decide) rfl <|
    Ev.go (pc' := 50) (ls' := [.ref 0, .int x1]) (st' := [.ref 0, .ref 0]) [.aload_n 0, .aload_n 0] (by decide +kernel) rfl <|
    Ev.getf f_X_10 (by decide +kernel) a1 rfl <|
    Ev.getf f_X_90 (by decide +kernel) a2 rfl <|
    Ev.cV0 (M' := M_X_answer) (as := [.int f_bits_4]) (rest := []) l_X_87 M_X_answer_ok M_X_answer_in M_X_answer_se (by decide +kernel) ⟨_, a1⟩ rfl rfl rfl (Nat.le_of_ble_eq_true rfl) (Nat.le_of_ble_eq_true rfl) (s_X_answer' (pr3 c1_0) <| show Ev G (d + 6) _ _ M_X_many 59 [.ref 0, .int x1] [.int f_bits_4] (xoS h 0 fk9 fp10) R from
      Ev.ret (r := (some (.int f_bits_4))) (Or.inl ⟨_, rfl, by decide +kernel, _, rfl, rfl⟩) (k1 c1_0)
    )
  else
  if c1_1 : x1 = (1 : Int32) then Ev.tsw (t := 60) (off := 59) (o := 154) (lo := 0) (hi := 7) (offs := #[47, 59, 71, 83, 98, 110, 122, 134]) (len := 47) (by decide +kernel) (by rw [c1_1]; decide) (by rw [c1_1]; decide) (by rw [c1_1]; decide) rfl <|
    Ev.go (pc' := 62) (ls' := [.ref 0, .int x1]) (st' := [.ref 0, .ref 0]) [.aload_n 0, .aload_n 0] (by decide +kernel) rfl <|
    Ev.getf f_X_10 (by decide +kernel) a1 rfl <|
    Ev.getf f_X_93 (by decide +kernel) a2 rfl <|
    Ev.cV0 (M' := M_X_answer) (as := [.int f_parts_5]) (rest := []) l_X_87 M_X_answer_ok M_X_answer_in M_X_answer_se (by decide +kernel) ⟨_, a1⟩ rfl rfl rfl (Nat.le_of_ble_eq_true rfl) (Nat.le_of_ble_eq_true rfl) (s_X_answer' (pr4 c1_1) <| show Ev G (d + 6) _ _ M_X_many 71 [.ref 0, .int x1] [.int f_parts_5] (xoS h 0 fk12 fp13) R from
      Ev.ret (r := (some (.int f_parts_5))) (Or.inl ⟨_, rfl, by decide +kernel, _, rfl, rfl⟩) (k2 c1_1)
    )
  else
  if c1_2 : x1 = (2 : Int32) then Ev.tsw (t := 72) (off := 71) (o := 154) (lo := 0) (hi := 7) (offs := #[47, 59, 71, 83, 98, 110, 122, 134]) (len := 47) (by decide +kernel) (by rw [c1_2]; decide) (by rw [c1_2]; decide) (by rw [c1_2]; decide) rfl <|
    Ev.go (pc' := 74) (ls' := [.ref 0, .int x1]) (st' := [.ref 0, .ref 0]) [.aload_n 0, .aload_n 0] (by decide +kernel) rfl <|
    Ev.getf f_X_10 (by decide +kernel) a1 rfl <|
    Ev.getf f_X_86 (by decide +kernel) a2 rfl <|
    Ev.cV0 (M' := M_X_answer) (as := [.int f_size_6]) (rest := []) l_X_87 M_X_answer_ok M_X_answer_in M_X_answer_se (by decide +kernel) ⟨_, a1⟩ rfl rfl rfl (Nat.le_of_ble_eq_true rfl) (Nat.le_of_ble_eq_true rfl) (s_X_answer' (pr5 c1_2) <| show Ev G (d + 6) _ _ M_X_many 83 [.ref 0, .int x1] [.int f_size_6] (xoS h 0 fk15 fp16) R from
      Ev.ret (r := (some (.int f_size_6))) (Or.inl ⟨_, rfl, by decide +kernel, _, rfl, rfl⟩) (k3 c1_2)
    )
  else
  if c1_3 : x1 = (3 : Int32) then Ev.tsw (t := 84) (off := 83) (o := 154) (lo := 0) (hi := 7) (offs := #[47, 59, 71, 83, 98, 110, 122, 134]) (len := 47) (by decide +kernel) (by rw [c1_3]; decide) (by rw [c1_3]; decide) (by rw [c1_3]; decide) rfl <|
    Ev.go (pc' := 86) (ls' := [.ref 0, .int x1]) (st' := [.ref 0, .ref 0]) [.aload_n 0, .aload_n 0] (by decide +kernel) rfl <|
    Ev.getf f_X_10 (by decide +kernel) a1 rfl <|
    Ev.cV0 (M' := M_St_counting) (as := []) (rest := [.ref 0]) l_X_96 M_St_counting_ok M_St_counting_in M_St_counting_se (by decide +kernel) (r9 c1_3) rfl rfl rfl (Nat.le_of_ble_eq_true rfl) (Nat.le_of_ble_eq_true rfl) (s_St_counting (pr6 c1_3) (pr7 c1_3) (pr8 c1_3) <| show Ev G (d + 6) _ _ M_X_many 92 [.ref 0, .int x1] [.int (setI (ctP S17)), .ref 0] h R from
      Ev.cS0 (M' := M_JI_bitCount) (as := [.int (setI (ctP S17))]) (rest := [.ref 0]) l_X_99 M_JI_bitCount_ok M_JI_bitCount_st (by decide +kernel) rfl rfl (Nat.le_of_ble_eq_true rfl) (Nat.le_of_ble_eq_true rfl) (s_JI_bitCount <| show Ev G (d + 6) _ _ M_X_many 95 [.ref 0, .int x1] [.int (nI (pop32 (setI (ctP S17)))), .ref 0] h R from
        Ev.cV0 (M' := M_X_answer) (as := [.int (nI (pop32 (setI (ctP S17))))]) (rest := []) l_X_87 M_X_answer_ok M_X_answer_in M_X_answer_se (by decide +kernel) ⟨_, a1⟩ rfl rfl rfl (Nat.le_of_ble_eq_true rfl) (Nat.le_of_ble_eq_true rfl) (s_X_answer' (pr10 c1_3) <| show Ev G (d + 6) _ _ M_X_many 98 [.ref 0, .int x1] [.int (nI (pop32 (setI (ctP S17))))] (xoS h 0 fk19 fp20) R from
          Ev.ret (r := (some (.int (nI (pop32 (setI (ctP S17))))))) (Or.inl ⟨_, rfl, by decide +kernel, _, rfl, rfl⟩) (k4 c1_3)
        )
      )
    )
  else
  if c1_4 : x1 = (4 : Int32) then Ev.tsw (t := 99) (off := 98) (o := 154) (lo := 0) (hi := 7) (offs := #[47, 59, 71, 83, 98, 110, 122, 134]) (len := 47) (by decide +kernel) (by rw [c1_4]; decide) (by rw [c1_4]; decide) (by rw [c1_4]; decide) rfl <|
    Ev.go (pc' := 101) (ls' := [.ref 0, .int x1]) (st' := [.ref 0, .ref 0]) [.aload_n 0, .aload_n 0] (by decide +kernel) rfl <|
    Ev.getf f_X_10 (by decide +kernel) a1 rfl <|
    Ev.cV0 (M' := M_St_counting) (as := []) (rest := [.ref 0]) l_X_96 M_St_counting_ok M_St_counting_in M_St_counting_se (by decide +kernel) (r14 c1_4) rfl rfl rfl (Nat.le_of_ble_eq_true rfl) (Nat.le_of_ble_eq_true rfl) (s_St_counting (pr11 c1_4) (pr12 c1_4) (pr13 c1_4) <| show Ev G (d + 6) _ _ M_X_many 107 [.ref 0, .int x1] [.int (setI (ctP S21)), .ref 0] h R from
      Ev.cV0 (M' := M_X_answer) (as := [.int (setI (ctP S21))]) (rest := []) l_X_87 M_X_answer_ok M_X_answer_in M_X_answer_se (by decide +kernel) ⟨_, a1⟩ rfl rfl rfl (Nat.le_of_ble_eq_true rfl) (Nat.le_of_ble_eq_true rfl) (s_X_answer' (pr15 c1_4) <| show Ev G (d + 6) _ _ M_X_many 110 [.ref 0, .int x1] [.int (setI (ctP S21))] (xoS h 0 fk23 fp24) R from
        Ev.ret (r := (some (.int (setI (ctP S21))))) (Or.inl ⟨_, rfl, by decide +kernel, _, rfl, rfl⟩) (k5 c1_4)
      )
    )
  else
  if c1_5 : x1 = (5 : Int32) then Ev.tsw (t := 111) (off := 110) (o := 154) (lo := 0) (hi := 7) (offs := #[47, 59, 71, 83, 98, 110, 122, 134]) (len := 47) (by decide +kernel) (by rw [c1_5]; decide) (by rw [c1_5]; decide) (by rw [c1_5]; decide) rfl <|
    Ev.go (pc' := 113) (ls' := [.ref 0, .int x1]) (st' := [.ref 0, .ref 0]) [.aload_n 0, .aload_n 0] (by decide +kernel) rfl <|
    Ev.getf f_X_26 (by decide +kernel) a1 rfl <|
    Ev.getf f_X_104 (by decide +kernel) a16 rfl <|
    Ev.cV0 (M' := M_X_answer) (as := [.int f_kept_26]) (rest := []) l_X_87 M_X_answer_ok M_X_answer_in M_X_answer_se (by decide +kernel) ⟨_, a1⟩ rfl rfl rfl (Nat.le_of_ble_eq_true rfl) (Nat.le_of_ble_eq_true rfl) (s_X_answer' (pr17 c1_5) <| show Ev G (d + 6) _ _ M_X_many 122 [.ref 0, .int x1] [.int f_kept_26] (xoS h 0 fk29 fp30) R from
      Ev.ret (r := (some (.int f_kept_26))) (Or.inl ⟨_, rfl, by decide +kernel, _, rfl, rfl⟩) (k6 c1_5)
    )
  else
  if c1_6 : x1 = (6 : Int32) then Ev.tsw (t := 123) (off := 122) (o := 154) (lo := 0) (hi := 7) (offs := #[47, 59, 71, 83, 98, 110, 122, 134]) (len := 47) (by decide +kernel) (by rw [c1_6]; decide) (by rw [c1_6]; decide) (by rw [c1_6]; decide) rfl <|
    Ev.go (pc' := 125) (ls' := [.ref 0, .int x1]) (st' := [.ref 0, .ref 0]) [.aload_n 0, .aload_n 0] (by decide +kernel) rfl <|
    Ev.getf f_X_26 (by decide +kernel) a1 rfl <|
    Ev.getf f_X_107 (by decide +kernel) a16 rfl <|
    Ev.cV0 (M' := M_X_answer) (as := [.int f_marked_27]) (rest := []) l_X_87 M_X_answer_ok M_X_answer_in M_X_answer_se (by decide +kernel) ⟨_, a1⟩ rfl rfl rfl (Nat.le_of_ble_eq_true rfl) (Nat.le_of_ble_eq_true rfl) (s_X_answer' (pr18 c1_6) <| show Ev G (d + 6) _ _ M_X_many 134 [.ref 0, .int x1] [.int f_marked_27] (xoS h 0 fk32 fp33) R from
      Ev.ret (r := (some (.int f_marked_27))) (Or.inl ⟨_, rfl, by decide +kernel, _, rfl, rfl⟩) (k7 c1_6)
    )
  else
  if c1_7 : x1 = (7 : Int32) then Ev.tsw (t := 135) (off := 134) (o := 154) (lo := 0) (hi := 7) (offs := #[47, 59, 71, 83, 98, 110, 122, 134]) (len := 47) (by decide +kernel) (by rw [c1_7]; decide) (by rw [c1_7]; decide) (by rw [c1_7]; decide) rfl <|
    Ev.go (pc' := 137) (ls' := [.ref 0, .int x1]) (st' := [.ref 0, .ref 0]) [.aload_n 0, .aload_n 0] (by decide +kernel) rfl <|
    Ev.getf f_X_10 (by decide +kernel) a1 rfl <|
    Ev.getf f_X_110 (by decide +kernel) a2 rfl <|
    Ev.nnR (t := 150) (o := 7) (by decide +kernel) rfl <|
    Ev.go (pc' := 151) (ls' := [.ref 0, .int x1]) (st' := [.int (1 : Int32), .ref 0]) [.iconst 1] (by decide +kernel) rfl <|
    Ev.cV0 (M' := M_X_answer) (as := [.int (1 : Int32)]) (rest := []) l_X_87 M_X_answer_ok M_X_answer_in M_X_answer_se (by decide +kernel) ⟨_, a1⟩ rfl rfl rfl (Nat.le_of_ble_eq_true rfl) (Nat.le_of_ble_eq_true rfl) (s_X_answer' (pr19 c1_7) <| show Ev G (d + 6) _ _ M_X_many 154 [.ref 0, .int x1] [.int (1 : Int32)] (xoS h 0 fk35 fp36) R from
      Ev.ret (r := (some (.int (1 : Int32)))) (Or.inl ⟨_, rfl, by decide +kernel, _, rfl, rfl⟩) (k8 c1_7)
    )
  else
  Ev.tswd (t := 155) (o := 154) (lo := 0) (hi := 7) (offs := #[47, 59, 71, 83, 98, 110, 122, 134]) (len := 47) (by decide +kernel) (by have qc1_0 := ne_i (v := 0) (0 : Int32) (by decide) c1_0; have qc1_1 := ne_i (v := 1) (1 : Int32) (by decide) c1_1; have qc1_2 := ne_i (v := 2) (2 : Int32) (by decide) c1_2; have qc1_3 := ne_i (v := 3) (3 : Int32) (by decide) c1_3; have qc1_4 := ne_i (v := 4) (4 : Int32) (by decide) c1_4; have qc1_5 := ne_i (v := 5) (5 : Int32) (by decide) c1_5; have qc1_6 := ne_i (v := 6) (6 : Int32) (by decide) c1_6; have qc1_7 := ne_i (v := 7) (7 : Int32) (by decide) c1_7; omega) rfl <|
    Ev.go (pc' := 157) (ls' := [.ref 0, .int x1]) (st' := [.int (1 : Int32), .ref 0]) [.aload_n 0, .iconst 1] (by decide +kernel) rfl <|
    Ev.cV0 (M' := M_X_refuse) (as := [.int (1 : Int32)]) (rest := []) l_X_67 M_X_refuse_ok M_X_refuse_in M_X_refuse_se (by decide +kernel) (r21 c1_0 c1_1 c1_2 c1_3 c1_4 c1_5 c1_6 c1_7) rfl rfl rfl (Nat.le_of_ble_eq_true rfl) (Nat.le_of_ble_eq_true rfl) (s_X_refuse' (pr20 c1_0 c1_1 c1_2 c1_3 c1_4 c1_5 c1_6 c1_7) <| show Ev G (d + 6) _ _ M_X_many 160 [.ref 0, .int x1] [.int (-1 : Int32)] (xoS h (1 : Int32) fk38 fp39) R from
      Ev.ret (r := (some (.int (-1 : Int32)))) (Or.inl ⟨_, rfl, by decide +kernel, _, rfl, rfl⟩) (k9 c1_0 c1_1 c1_2 c1_3 c1_4 c1_5 c1_6 c1_7)
    )
  
section S26
variable {G : ev_G} {d : Nat} {h : ev_H} {R : Option Value → ev_H → Prop} {Q : QS}
def a_code (S : AS) (x : Int32) : Int64 × Int32 := if inR x (sN S) then (sCo S (vN x), 0) else (-1, 2)
def a_tagOf (S : AS) (x : Int32) : Int32 × Int32 := if inR x (sN S) then (nI (sTg S (vN x)), 0) else (-1, 2)
def a_breadth (S : AS) (x : Int32) : Int32 × Int32 := if inR x (sP S) then (nI (sBr S (vN x)), 0) else (-1, 2)
def a_key (S : AS) (x y : Int32) : Int32 × Int32 := if inR x (sN S) && inR y (sP S) then (nI (keyN (sCo S (vN x)) (stt S (vN y)) (sBr S (vN y))), 0) else (-1, 2)
def a_far (S : AS) (x : Int32) (y : Int64) : Int32 × Int32 := if numB y (sB S) then (if inR x (sN S) then (nI (pop (sCo S (vN x) ^^^ y)), 0) else (-1, 2)) else (-1, 1)
def a_measure (S : AS) (x y m : Int32) : Int32 × Int32 := if decide (0 ≤ m ∧ m < (4 : Int32)) then (if inR x (sN S) && inR y (sN S) then (nI (mesN (sCo S (vN x) ^^^ sCo S (vN y)) m), 0) else (-1, 2)) else (-1, 1)
def a_find (S : AS) (y : Int64) : Int32 × Int32 := if numB y (sB S) then (if frI (whP S y) (sN S) = -1 then (-1, 5) else (frI (whP S y) (sN S), 0)) else (-1, 1)
def a_fault (Q : QS) (x : Int32) : Int32 := if x = 0 then qFk Q else if x = 1 then qFp Q else -1
def a_many (Q : QS) (x : Int32) : Int32 × Int32 := if x = 0 then (nI (sB (qS Q)), 0) else if x = 1 then (nI (sP (qS Q)), 0) else if x = 2 then (nI (sN (qS Q)), 0) else if x = 3 then (nI (pop32 (setI (ctP (qS Q)))), 0) else if x = 4 then (setI (ctP (qS Q)), 0) else if x = 5 then (nI (qKn Q), 0) else if x = 6 then (nI (qMn Q), 0) else if x = 7 then (if (sFl (qS Q)).isEmpty then 0 else 1, 0) else (-1, 1)
theorem s_X_code2 {x : Int32} (H : XR h Q) (hR : ∀ h', Kg h h' 0 102 → XR h' (stQ Q (a_code (qS Q) x).2) → R (some (.long (a_code (qS Q) x).1)) h') : Ev G (d + 1) 0 0 M_X_code 0 [.ref 0, .int x] [] h R := by
  refine s_X_code H.x H.s H.ok (fun c => ?_) (fun j hj e => ?_)
  · exact H.finL (Kg.refl _ _ _) hR (by unfold a_code; rw [c]; rfl)
  · subst e
    have hz := H.szN
    exact H.finL (Kg.refl _ _ _) hR (by unfold a_code; rw [inR_nI (by omega), decide_eq_true hj, vN_nI (by omega)]; rfl)
theorem s_X_tagOf {x : Int32} (H : XR h Q) (hR : ∀ h', Kg h h' 0 102 → XR h' (stQ Q (a_tagOf (qS Q) x).2) → R (some (.int (a_tagOf (qS Q) x).1)) h') : Ev G (d + 1) 0 0 M_X_tagOf 0 [.ref 0, .int x] [] h R := by
  have hz := H.szN
  obtain ⟨brf, tgf, cof, fv, t1, t2, t3, t4, e1, e2, -⟩ := H.s
  refine b_X_tagOf_0 H.x t1 t4 H.x H.s H.ok ⟨_, H.x⟩ (fun c1 => H.x) (fun c1 => ⟨_, H.x⟩) (fun c1 => ixv (b2i_n0 c1) hz (by decide)) (fun c1 => H.x) (fun c1 => H.fin (Kg.refl _ _ _) hR (by unfold a_tagOf; rw [(b2i_e0 c1)]; rfl)) (fun c1 => H.fin (Kg.refl _ _ _) hR (by unfold a_tagOf; rw [if_pos (b2i_n0 c1), (e2 _ (vN_lt (by omega) (b2i_n0 c1)).2).2]))
theorem s_X_breadth {x : Int32} (H : XR h Q) (hR : ∀ h', Kg h h' 0 102 → XR h' (stQ Q (a_breadth (qS Q) x).2) → R (some (.int (a_breadth (qS Q) x).1)) h') : Ev G (d + 1) 0 0 M_X_breadth 0 [.ref 0, .int x] [] h R := by
  have hz := H.szP
  obtain ⟨brf, tgf, cof, fv, t1, t2, t3, t4, e1, e2, -⟩ := H.s
  refine b_X_breadth_0 H.x t1 t2 H.x H.s H.ok ⟨_, H.x⟩ (fun c1 => H.x) (fun c1 => ⟨_, H.x⟩) (fun c1 => ixv (b2i_n0 c1) hz (by decide)) (fun c1 => H.x) (fun c1 => H.fin (Kg.refl _ _ _) hR (by unfold a_breadth; rw [(b2i_e0 c1)]; rfl)) (fun c1 => H.fin (Kg.refl _ _ _) hR (by unfold a_breadth; rw [if_pos (b2i_n0 c1), e1 _ (vN_lt (by omega) (b2i_n0 c1)).2]))
theorem s_X_key {x y : Int32} (H : XR h Q) (hR : ∀ h', Kg h h' 0 102 → XR h' (stQ Q (a_key (qS Q) x y).2) → R (some (.int (a_key (qS Q) x y).1)) h') : Ev G (d + 1) 0 0 M_X_key 0 [.ref 0, .int x, .int y] [] h R := by
  have hz := H.szN
  have hz2 := H.szP
  obtain ⟨brf, tgf, cof, fv, t1, t2, t3, t4, e1, e2, -⟩ := H.s
  refine b_X_key_0 H.x H.x H.s H.ok ⟨_, H.x⟩ (fun c1 => H.x) (fun c1 => ⟨_, H.x⟩) (fun c1 => H.x) (fun c1 => H.s) (fun c1 => H.ok) (fun c1 => ⟨_, H.x⟩) (fun c1 c2 => H.x) (fun c1 c2 => ⟨_, H.x⟩) (fun c1 c2 => H.s) (fun c1 c2 => H.ok) (fun c1 c2 => vN_lt (by omega) (b2i_n0 c1)) (fun c1 c2 => vN_lt (by omega) (b2i_n0 c2)) (fun c1 c2 => H.s.obj) (fun c1 c2 => H.x) (fun c1 => H.fin (Kg.refl _ _ _) hR (by unfold a_key; simp [b2i_e0 c1])) (fun c1 c2 => H.fin (Kg.refl _ _ _) hR (by unfold a_key; simp [b2i_n0 c1, b2i_e0 c2])) (fun c1 c2 => H.fin (Kg.refl _ _ _) hR (by unfold a_key; simp [b2i_n0 c1, b2i_n0 c2]))
theorem s_X_far {x : Int32} {y : Int64} (H : XR h Q) (hR : ∀ h', Kg h h' 0 102 → XR h' (stQ Q (a_far (qS Q) x y).2) → R (some (.int (a_far (qS Q) x y).1)) h') : Ev G (d + 2) 0 0 M_X_far 0 [.ref 0, .int x, .long y, ev_unk] [] h R := by
  have hz := H.szN
  obtain ⟨brf, tgf, cof, fv, t1, t2, t3, t4, e1, e2, -⟩ := H.s
  refine b_X_far_0 H.x t1 t3 H.x H.s ⟨_, H.x⟩ (fun c1 => H.x) (fun c1 => ⟨_, H.x⟩) (fun c1 => H.x) (fun c1 => H.s) (fun c1 => H.ok) (fun c1 => ⟨_, H.x⟩) (fun c1 c2 => H.x) (fun c1 c2 => ⟨_, H.x⟩) (fun c1 c2 => ixv (b2i_n0 c2) hz (by decide)) (fun c1 c2 => H.x) (fun c1 => H.fin (Kg.refl _ _ _) hR (by unfold a_far; simp [b2i_e0 c1])) (fun c1 c2 => H.fin (Kg.refl _ _ _) hR (by unfold a_far; simp [b2i_n0 c1, b2i_e0 c2])) (fun c1 c2 => H.fin (Kg.refl _ _ _) hR (by unfold a_far; rw [(e2 _ (vN_lt (by omega) (b2i_n0 c2)).2).1]; simp [b2i_n0 c1, b2i_n0 c2]))
theorem s_X_measure {x y m : Int32} (H : XR h Q) (hR : ∀ h', Kg h h' 0 102 → XR h' (stQ Q (a_measure (qS Q) x y m).2) → R (some (.int (a_measure (qS Q) x y m).1)) h') : Ev G (d + 3) 0 0 M_X_measure 0 [.ref 0, .int x, .int y, .int m] [] h R := by
  have hz := H.szN
  obtain ⟨brf, tgf, cof, fv, t1, t2, t3, t4, e1, e2, -⟩ := H.s
  refine b_X_measure_0 H.x t1 t3 (fun c1 => H.x) (fun c1 => ⟨_, H.x⟩) (fun c1 => H.x) (fun c1 => H.s) (fun c1 => H.ok) (fun c1 => ⟨_, H.x⟩) (fun c1 c2 => H.x) (fun c1 c2 => ⟨_, H.x⟩) (fun c1 c2 => H.x) (fun c1 c2 => H.s) (fun c1 c2 => H.ok) (fun c1 c2 => ⟨_, H.x⟩) (fun c1 c2 c3 => H.x) (fun c1 c2 c3 => ⟨_, H.x⟩) (fun c1 c2 c3 => ixv (b2i_n0 c2) hz (by decide)) (fun c1 c2 c3 => ixv (b2i_n0 c3) hz (by decide)) (fun c1 c2 c3 => H.x) (fun c1 => H.fin (Kg.refl _ _ _) hR (by unfold a_measure; rw [(b2i_e0 c1)]; rfl)) (fun c1 c2 => H.fin (Kg.refl _ _ _) hR (by unfold a_measure; rw [(b2i_n0 c1), (b2i_e0 c2)]; rfl)) (fun c1 c2 c3 => H.fin (Kg.refl _ _ _) hR (by unfold a_measure; rw [(b2i_n0 c1), (b2i_n0 c2), (b2i_e0 c3)]; rfl)) (fun c1 c2 c3 => H.fin (Kg.refl _ _ _) hR (by unfold a_measure; rw [(e2 _ (vN_lt (by omega) (b2i_n0 c2)).2).1, (e2 _ (vN_lt (by omega) (b2i_n0 c3)).2).1, if_pos (b2i_n0 c1), (b2i_n0 c2), (b2i_n0 c3)]; rfl))
theorem s_X_find {y : Int64} (H : XR h Q) (hR : ∀ h', Kg h h' 0 102 → XR h' (stQ Q (a_find (qS Q) y).2) → R (some (.int (a_find (qS Q) y).1)) h') : Ev G (d + 1) 0 0 M_X_find 0 [.ref 0, .long y, ev_unk, ev_unk] [] h R := by
  obtain ⟨brf, tgf, cof, fv, t1, t2, t3, t4, e1, e2, -⟩ := H.s
  refine b_X_find_0 H.x H.x H.s ⟨_, H.x⟩ (fun c1 => H.x) (fun c1 => ⟨_, H.x⟩) (fun c1 => H.s) (fun c1 => H.ok) (fun c1 => H.s.obj) (fun c1 c2 => H.x) (fun c1 c2 => H.x) (fun c1 => H.fin (Kg.refl _ _ _) hR (by unfold a_find; simp only [b2i_e0 c1, if_true, if_false]; try rfl)) (fun c1 c2 => H.fin (Kg.refl _ _ _) hR (by unfold a_find; simp only [b2i_n0 c1, c2, if_true, if_false]; try rfl)) (fun c1 c2 => H.fin (Kg.refl _ _ _) hR (by unfold a_find; simp only [b2i_n0 c1, c2, if_true, if_false]; try rfl))
theorem s_X_fault {x : Int32} (H : XR h Q) (hR : R (some (.int (a_fault Q x))) h) : Ev G d 0 0 M_X_fault 0 [.ref 0, .int x] [] h R := by
  refine b_X_fault_0 H.x (fun c1 => by unfold a_fault at hR; simp only [c1, if_true, if_false] at hR; exact hR) (fun c1 c2 => by unfold a_fault at hR; simp only [c1, c2, if_true, if_false] at hR; exact hR) (fun c1 c2 => by unfold a_fault at hR; simp only [c1, c2, if_true, if_false] at hR; exact hR)
theorem s_X_many {x : Int32} (H : XR h Q) (hR : ∀ h', Kg h h' 0 102 → XR h' (stQ Q (a_many Q x).2) → R (some (.int (a_many Q x).1)) h') : Ev G (d + 6) 0 0 M_X_many 0 [.ref 0, .int x] [] h R := by
  obtain ⟨brf, tgf, cof, fv, t1, t2, t3, t4, e1, e2, hv⟩ := H.s
  obtain ⟨first, ga, gm, l1, l2, l3, g1, -⟩ := H.hist
  have g : ∀ {v : Int32} {l : Int32}, a_many Q x = (v, l) → R (some (.int v)) (xoS h l (qFk Q) (qFp Q)) := fun e => H.fin (Kg.refl _ _ _) hR e
  rcases hv with ⟨hn, rfl⟩ | ⟨hn, f, rfl, -, hF⟩
  · have em : (sFl (qS Q)).isEmpty = true := by rw [hn]; rfl
    refine b_X_many_0n H.x t1 g1 (fun c1 => H.x) (fun c1 => H.x) (fun c1 => H.x) (fun c1 => H.s) (fun c1 => H.ok) (fun c1 => H.fo) (fun c1 => H.s.obj) (fun c1 => H.x) (fun c1 => H.s) (fun c1 => H.ok) (fun c1 => H.fo) (fun c1 => H.s.obj) (fun c1 => H.x) (fun c1 => H.x) (fun c1 => H.x) (fun c1 => H.x) (fun c1 c2 c3 c4 c5 c6 c7 c8 => H.x) (fun c1 c2 c3 c4 c5 c6 c7 c8 => ⟨_, H.x⟩) (fun c1 => g (by subst c1; unfold a_many; rfl)) (fun c1 => g (by subst c1; unfold a_many; rfl)) (fun c1 => g (by subst c1; unfold a_many; rfl)) (fun c1 => g (by subst c1; unfold a_many; rfl)) (fun c1 => g (by subst c1; unfold a_many; rfl)) (fun c1 => g (by subst c1; unfold a_many; rfl)) (fun c1 => g (by subst c1; unfold a_many; rfl)) (fun c1 => g (by subst c1; unfold a_many; rw [em]; rfl)) (fun c1 c2 c3 c4 c5 c6 c7 c8 => g (by unfold a_many; rw [if_neg c1, if_neg c2, if_neg c3, if_neg c4, if_neg c5, if_neg c6, if_neg c7, if_neg c8]))
  · have em : (sFl (qS Q)).isEmpty = false := by cases q : sFl (qS Q) <;> simp_all
    refine b_X_many_0r H.x t1 g1 (fun c1 => H.x) (fun c1 => H.x) (fun c1 => H.x) (fun c1 => H.s) (fun c1 => H.ok) (fun c1 => H.fo) (fun c1 => H.s.obj) (fun c1 => H.x) (fun c1 => H.s) (fun c1 => H.ok) (fun c1 => H.fo) (fun c1 => H.s.obj) (fun c1 => H.x) (fun c1 => H.x) (fun c1 => H.x) (fun c1 => H.x) (fun c1 c2 c3 c4 c5 c6 c7 c8 => H.x) (fun c1 c2 c3 c4 c5 c6 c7 c8 => ⟨_, H.x⟩) (fun c1 => g (by subst c1; unfold a_many; rfl)) (fun c1 => g (by subst c1; unfold a_many; rfl)) (fun c1 => g (by subst c1; unfold a_many; rfl)) (fun c1 => g (by subst c1; unfold a_many; rfl)) (fun c1 => g (by subst c1; unfold a_many; rfl)) (fun c1 => g (by subst c1; unfold a_many; rfl)) (fun c1 => g (by subst c1; unfold a_many; rfl)) (fun c1 => g (by subst c1; unfold a_many; rw [em]; rfl)) (fun c1 c2 c3 c4 c5 c6 c7 c8 => g (by unfold a_many; rw [if_neg c1, if_neg c2, if_neg c3, if_neg c4, if_neg c5, if_neg c6, if_neg c7, if_neg c8]))
end S26
