/-! ACTS -/
theorem b_X_add_0 {G : ev_G} {d k n : Nat} {h : ev_H} {R : Option Value → ev_H → Prop} {x1 : Int64} {S1 : AS} {la2 : Int32} {fk3 : Int32} {fp4 : Int32} {la5 : Int32} {fk6 : Int32} {fp7 : Int32} {f_latest_8 : Int32} {f_faultKind_9 : Int32} {f_faultPlace_10 : Int32} {f_bits_11 : Int32} {f_parts_12 : Int32} {f_size_13 : Int32} {fv14 : Value} {S15 : AS} {la16 : Int32} {fk17 : Int32} {fp18 : Int32} {la19 : Int32} {fk20 : Int32} {fp21 : Int32}
  (a6 : hat h 0 (oC 8 [.ref 1, .ref 5, .ref 18, .ref 81, .ref 98, .int f_latest_8, .int f_faultKind_9, .int f_faultPlace_10]))
  (a7 : hat h 1 (oC 6 [.int f_bits_11, .int f_parts_12, .ref 2, .int f_size_13, .ref 3, .ref 4, fv14]))
  (pr1 : XO h la2 fk3 fp4)
  (pr2 : StR h 1 S1)
  (r3 : ∃ fs, hat h 0 (oC 8 fs))
  (pr4 : (b2i (numB x1 (sB S1))) = (0 : Int32) → XO h la5 fk6 fp7)
  (r5 : (b2i (numB x1 (sB S1))) = (0 : Int32) → ∃ fs, hat h 0 (oC 8 fs))
  (pr8 : ¬ (b2i (numB x1 (sB S1))) = (0 : Int32) → f_size_13 < (32 : Int32) → StR h 1 S15)
  (pr9 : ¬ (b2i (numB x1 (sB S1))) = (0 : Int32) → f_size_13 < (32 : Int32) → sOk S15)
  (r10 : ¬ (b2i (numB x1 (sB S1))) = (0 : Int32) → f_size_13 < (32 : Int32) → (frI (whP S15 x1) (sN S15)) = (-1 : Int32) → ∃ fs, hat h 18 (oC 2 fs))
  (pr11 : ¬ (b2i (numB x1 (sB S1))) = (0 : Int32) → f_size_13 < (32 : Int32) → ¬ (frI (whP S15 x1) (sN S15)) = (-1 : Int32) → XO h la16 fk17 fp18)
  (pr12 : ¬ (b2i (numB x1 (sB S1))) = (0 : Int32) → ¬ f_size_13 < (32 : Int32) → XO h la19 fk20 fp21)
  (k1 : (b2i (numB x1 (sB S1))) = (0 : Int32) → R (some (.int (-1 : Int32))) (xoS h (1 : Int32) fk6 fp7))
  (k2 : ¬ (b2i (numB x1 (sB S1))) = (0 : Int32) → f_size_13 < (32 : Int32) → (frI (whP S15 x1) (sN S15)) = (-1 : Int32) → Ev G d 0 0 M_Hi_keep 0 [.ref 18, .ref 1] [] h (fun r h1 => Ev G (d + 1) k n M_X_add 61 [.ref 0, .long x1, ev_unk] (r.toList ++ []) h1 R))
  (k3 : ¬ (b2i (numB x1 (sB S1))) = (0 : Int32) → f_size_13 < (32 : Int32) → ¬ (frI (whP S15 x1) (sN S15)) = (-1 : Int32) → R (some (.int (-1 : Int32))) (xoS h (4 : Int32) fk17 fp18))
  (k4 : ¬ (b2i (numB x1 (sB S1))) = (0 : Int32) → ¬ f_size_13 < (32 : Int32) → R (some (.int (-1 : Int32))) (xoS h (3 : Int32) fk20 fp21))
  : Ev G (d + 1) k n M_X_add 0 [.ref 0, .long x1, ev_unk] [] h R :=
  Ev.go (pc' := 2) (ls' := [.ref 0, .long x1, ev_unk]) (st' := [.long x1, .ref 0]) [.aload_n 0, .lload_n 1] (by decide +kernel) rfl <|
  Ev.cV0 (M' := M_X_isNumber) (as := [.long x1]) (rest := []) l_X_140 M_X_isNumber_ok M_X_isNumber_in M_X_isNumber_se (by decide +kernel) r3 rfl rfl rfl (Nat.le_of_ble_eq_true rfl) (Nat.le_of_ble_eq_true rfl) (s_X_isNumber pr1 pr2 <| show Ev G (d + 1) _ _ M_X_add 5 [.ref 0, .long x1, ev_unk] [.int (b2i (numB x1 (sB S1)))] h R from
    Ev.br (i := .ifCond .ne (9)) (P := (b2i (numB x1 (sB S1))) = (0 : Int32)) (t := 8) (f := 14) (r := []) (by decide +kernel) rfl (fun c1 =>
      Ev.go (pc' := 10) (ls' := [.ref 0, .long x1, ev_unk]) (st' := [.int (1 : Int32), .ref 0]) [.aload_n 0, .iconst 1] (by decide +kernel) rfl <|
      Ev.cV0 (M' := M_X_refuse) (as := [.int (1 : Int32)]) (rest := []) l_X_67 M_X_refuse_ok M_X_refuse_in M_X_refuse_se (by decide +kernel) (r5 c1) rfl rfl rfl (Nat.le_of_ble_eq_true rfl) (Nat.le_of_ble_eq_true rfl) (s_X_refuse' (pr4 c1) <| show Ev G (d + 1) _ _ M_X_add 13 [.ref 0, .long x1, ev_unk] [.int (-1 : Int32)] (xoS h (1 : Int32) fk6 fp7) R from
        Ev.ret (r := (some (.int (-1 : Int32)))) (Or.inl ⟨_, rfl, by decide +kernel, _, rfl, rfl⟩) (k1 c1)
      )
    ) (fun c1 =>
      Ev.go (pc' := 15) (ls' := [.ref 0, .long x1, ev_unk]) (st' := [.ref 0]) [.aload_n 0] (by decide +kernel) rfl <|
      Ev.getf f_X_10 (by decide +kernel) a6 rfl <|
      Ev.getf f_X_86 (by decide +kernel) a7 rfl <|
      Ev.go (pc' := 23) (ls' := [.ref 0, .long x1, ev_unk]) (st' := [.int (32 : Int32), .int f_size_13]) [.bipush (32)] (by decide +kernel) rfl <|
      Ev.br (i := .if_icmp .lt (9)) (P := f_size_13 < (32 : Int32)) (t := 32) (f := 26) (r := []) (by decide +kernel) rfl (fun c2 =>
        Ev.go (pc' := 33) (ls' := [.ref 0, .long x1, ev_unk]) (st' := [.ref 0]) [.aload_n 0] (by decide +kernel) rfl <|
        Ev.getf f_X_10 (by decide +kernel) a6 rfl <|
        Ev.go (pc' := 37) (ls' := [.ref 0, .long x1, ev_unk]) (st' := [.long x1, .ref 1]) [.lload_n 1] (by decide +kernel) rfl <|
        Ev.cV0 (M' := M_St_whereIs) (as := [.long x1]) (rest := []) l_X_156 M_St_whereIs_ok M_St_whereIs_in M_St_whereIs_se (by decide +kernel) ⟨_, a7⟩ rfl rfl rfl (Nat.le_of_ble_eq_true rfl) (Nat.le_of_ble_eq_true rfl) (s_St_whereIs (pr8 c1 c2) (pr9 c1 c2) <| show Ev G (d + 1) _ _ M_X_add 40 [.ref 0, .long x1, ev_unk] [.int (frI (whP S15 x1) (sN S15))] h R from
          Ev.go (pc' := 41) (ls' := [.ref 0, .long x1, ev_unk]) (st' := [.int (-1 : Int32), .int (frI (whP S15 x1) (sN S15))]) [.iconst (-1)] (by decide +kernel) rfl <|
          Ev.br (i := .if_icmp .eq (9)) (P := (frI (whP S15 x1) (sN S15)) = (-1 : Int32)) (t := 50) (f := 44) (r := []) (by decide +kernel) rfl (fun c3 =>
            Ev.go (pc' := 51) (ls' := [.ref 0, .long x1, ev_unk]) (st' := [.ref 0]) [.aload_n 0] (by decide +kernel) rfl <|
            Ev.getf f_X_26 (by decide +kernel) a6 rfl <|
            Ev.go (pc' := 55) (ls' := [.ref 0, .long x1, ev_unk]) (st' := [.ref 0, .ref 18]) [.aload_n 0] (by decide +kernel) rfl <|
            Ev.getf f_X_10 (by decide +kernel) a6 rfl <|
            Ev.cV0 (M' := M_Hi_keep) (as := [.ref 1]) (rest := []) l_X_78 M_Hi_keep_ok M_Hi_keep_in M_Hi_keep_se (by decide +kernel) (r10 c1 c2 c3) rfl rfl rfl (Nat.le_of_ble_eq_true rfl) (Nat.le_of_ble_eq_true rfl) (k2 c1 c2 c3)
          ) (fun c3 =>
            Ev.go (pc' := 46) (ls' := [.ref 0, .long x1, ev_unk]) (st' := [.int (4 : Int32), .ref 0]) [.aload_n 0, .iconst 4] (by decide +kernel) rfl <|
            Ev.cV0 (M' := M_X_refuse) (as := [.int (4 : Int32)]) (rest := []) l_X_67 M_X_refuse_ok M_X_refuse_in M_X_refuse_se (by decide +kernel) ⟨_, a6⟩ rfl rfl rfl (Nat.le_of_ble_eq_true rfl) (Nat.le_of_ble_eq_true rfl) (s_X_refuse' (pr11 c1 c2 c3) <| show Ev G (d + 1) _ _ M_X_add 49 [.ref 0, .long x1, ev_unk] [.int (-1 : Int32)] (xoS h (4 : Int32) fk17 fp18) R from
              Ev.ret (r := (some (.int (-1 : Int32)))) (Or.inl ⟨_, rfl, by decide +kernel, _, rfl, rfl⟩) (k3 c1 c2 c3)
            )
          )
        )
      ) (fun c2 =>
        Ev.go (pc' := 28) (ls' := [.ref 0, .long x1, ev_unk]) (st' := [.int (3 : Int32), .ref 0]) [.aload_n 0, .iconst 3] (by decide +kernel) rfl <|
        Ev.cV0 (M' := M_X_refuse) (as := [.int (3 : Int32)]) (rest := []) l_X_67 M_X_refuse_ok M_X_refuse_in M_X_refuse_se (by decide +kernel) ⟨_, a6⟩ rfl rfl rfl (Nat.le_of_ble_eq_true rfl) (Nat.le_of_ble_eq_true rfl) (s_X_refuse' (pr12 c1 c2) <| show Ev G (d + 1) _ _ M_X_add 31 [.ref 0, .long x1, ev_unk] [.int (-1 : Int32)] (xoS h (3 : Int32) fk20 fp21) R from
          Ev.ret (r := (some (.int (-1 : Int32)))) (Or.inl ⟨_, rfl, by decide +kernel, _, rfl, rfl⟩) (k4 c1 c2)
        )
      )
    )
  )
theorem b_X_add_61 {G : ev_G} {d k n : Nat} {h : ev_H} {R : Option Value → ev_H → Prop} {x1 : Int64} {f_latest_1 : Int32} {f_faultKind_2 : Int32} {f_faultPlace_3 : Int32}
  (a1 : hat h 0 (oC 8 [.ref 1, .ref 5, .ref 18, .ref 81, .ref 98, .int f_latest_1, .int f_faultKind_2, .int f_faultPlace_3]))
  (r2 : ∃ fs, hat h 1 (oC 6 fs))
  (k1 : Ev G d 0 0 M_St_append 0 [.ref 1, .long x1, ev_unk, .int (0 : Int32)] [] h (fun r h1 => Ev G (d + 1) k n M_X_add 70 [.ref 0, .long x1, ev_unk] (r.toList ++ []) h1 R))
  : Ev G (d + 1) k n M_X_add 61 [.ref 0, .long x1, ev_unk] [] h R :=
  Ev.go (pc' := 62) (ls' := [.ref 0, .long x1, ev_unk]) (st' := [.ref 0]) [.aload_n 0] (by decide +kernel) rfl <|
  Ev.getf f_X_10 (by decide +kernel) a1 rfl <|
  Ev.go (pc' := 67) (ls' := [.ref 0, .long x1, ev_unk]) (st' := [.int (0 : Int32), .long x1, .ref 1]) [.lload_n 1, .iconst 0] (by decide +kernel) rfl <|
  Ev.cV0 (M' := M_St_append) (as := [.long x1, .int (0 : Int32)]) (rest := []) l_X_160 M_St_append_ok M_St_append_in M_St_append_se (by decide +kernel) r2 rfl rfl rfl (Nat.le_of_ble_eq_true rfl) (Nat.le_of_ble_eq_true rfl) k1
theorem b_X_add_70 {G : ev_G} {d k n : Nat} {h : ev_H} {R : Option Value → ev_H → Prop} {x1 : Int64} {f_latest_1 : Int32} {f_faultKind_2 : Int32} {f_faultPlace_3 : Int32} {f_bits_4 : Int32} {f_parts_5 : Int32} {f_size_6 : Int32} {fv7 : Value} {la8 : Int32} {fk9 : Int32} {fp10 : Int32}
  (a1 : hat h 0 (oC 8 [.ref 1, .ref 5, .ref 18, .ref 81, .ref 98, .int f_latest_1, .int f_faultKind_2, .int f_faultPlace_3]))
  (a2 : hat h 1 (oC 6 [.int f_bits_4, .int f_parts_5, .ref 2, .int f_size_6, .ref 3, .ref 4, fv7]))
  (pr3 : XO h la8 fk9 fp10)
  (k1 : R (some (.int (f_size_6 - (1 : Int32)))) (xoS h 0 fk9 fp10))
  : Ev G (d + 1) k n M_X_add 70 [.ref 0, .long x1, ev_unk] [] h R :=
  Ev.go (pc' := 72) (ls' := [.ref 0, .long x1, ev_unk]) (st' := [.ref 0, .ref 0]) [.aload_n 0, .aload_n 0] (by decide +kernel) rfl <|
  Ev.getf f_X_10 (by decide +kernel) a1 rfl <|
  Ev.getf f_X_86 (by decide +kernel) a2 rfl <|
  Ev.go (pc' := 80) (ls' := [.ref 0, .long x1, ev_unk]) (st' := [.int (f_size_6 - (1 : Int32)), .ref 0]) [.iconst 1, .isub] (by decide +kernel) rfl <|
  Ev.cV0 (M' := M_X_answer) (as := [.int (f_size_6 - (1 : Int32))]) (rest := []) l_X_87 M_X_answer_ok M_X_answer_in M_X_answer_se (by decide +kernel) ⟨_, a1⟩ rfl rfl rfl (Nat.le_of_ble_eq_true rfl) (Nat.le_of_ble_eq_true rfl) (s_X_answer' pr3 <| show Ev G (d + 1) _ _ M_X_add 83 [.ref 0, .long x1, ev_unk] [.int (f_size_6 - (1 : Int32))] (xoS h 0 fk9 fp10) R from
    Ev.ret (r := (some (.int (f_size_6 - (1 : Int32))))) (Or.inl ⟨_, rfl, by decide +kernel, _, rfl, rfl⟩) k1
  )
theorem b_X_strike_0 {G : ev_G} {d k n : Nat} {h : ev_H} {R : Option Value → ev_H → Prop} {x1 : Int32} {S1 : AS} {la2 : Int32} {fk3 : Int32} {fp4 : Int32} {la5 : Int32} {fk6 : Int32} {fp7 : Int32} {f_latest_8 : Int32} {f_faultKind_9 : Int32} {f_faultPlace_10 : Int32}
  (a7 : hat h 0 (oC 8 [.ref 1, .ref 5, .ref 18, .ref 81, .ref 98, .int f_latest_8, .int f_faultKind_9, .int f_faultPlace_10]))
  (pr1 : XO h la2 fk3 fp4)
  (pr2 : StR h 1 S1)
  (pr3 : sOk S1)
  (r4 : ∃ fs, hat h 0 (oC 8 fs))
  (pr5 : (b2i (inR x1 (sN S1))) = (0 : Int32) → XO h la5 fk6 fp7)
  (r6 : (b2i (inR x1 (sN S1))) = (0 : Int32) → ∃ fs, hat h 0 (oC 8 fs))
  (r8 : ¬ (b2i (inR x1 (sN S1))) = (0 : Int32) → ∃ fs, hat h 18 (oC 2 fs))
  (k1 : (b2i (inR x1 (sN S1))) = (0 : Int32) → R (some (.int (-1 : Int32))) (xoS h (2 : Int32) fk6 fp7))
  (k2 : ¬ (b2i (inR x1 (sN S1))) = (0 : Int32) → Ev G d 0 0 M_Hi_keep 0 [.ref 18, .ref 1] [] h (fun r h1 => Ev G (d + 1) k n M_X_strike 25 [.ref 0, .int x1] (r.toList ++ []) h1 R))
  : Ev G (d + 1) k n M_X_strike 0 [.ref 0, .int x1] [] h R :=
  Ev.go (pc' := 2) (ls' := [.ref 0, .int x1]) (st' := [.int x1, .ref 0]) [.aload_n 0, .iload_n 1] (by decide +kernel) rfl <|
  Ev.cV0 (M' := M_X_isCode) (as := [.int x1]) (rest := []) l_X_114 M_X_isCode_ok M_X_isCode_in M_X_isCode_se (by decide +kernel) r4 rfl rfl rfl (Nat.le_of_ble_eq_true rfl) (Nat.le_of_ble_eq_true rfl) (s_X_isCode pr1 pr2 pr3 <| show Ev G (d + 1) _ _ M_X_strike 5 [.ref 0, .int x1] [.int (b2i (inR x1 (sN S1)))] h R from
    Ev.br (i := .ifCond .ne (9)) (P := (b2i (inR x1 (sN S1))) = (0 : Int32)) (t := 8) (f := 14) (r := []) (by decide +kernel) rfl (fun c1 =>
      Ev.go (pc' := 10) (ls' := [.ref 0, .int x1]) (st' := [.int (2 : Int32), .ref 0]) [.aload_n 0, .iconst 2] (by decide +kernel) rfl <|
      Ev.cV0 (M' := M_X_refuse) (as := [.int (2 : Int32)]) (rest := []) l_X_67 M_X_refuse_ok M_X_refuse_in M_X_refuse_se (by decide +kernel) (r6 c1) rfl rfl rfl (Nat.le_of_ble_eq_true rfl) (Nat.le_of_ble_eq_true rfl) (s_X_refuse' (pr5 c1) <| show Ev G (d + 1) _ _ M_X_strike 13 [.ref 0, .int x1] [.int (-1 : Int32)] (xoS h (2 : Int32) fk6 fp7) R from
        Ev.ret (r := (some (.int (-1 : Int32)))) (Or.inl ⟨_, rfl, by decide +kernel, _, rfl, rfl⟩) (k1 c1)
      )
    ) (fun c1 =>
      Ev.go (pc' := 15) (ls' := [.ref 0, .int x1]) (st' := [.ref 0]) [.aload_n 0] (by decide +kernel) rfl <|
      Ev.getf f_X_26 (by decide +kernel) a7 rfl <|
      Ev.go (pc' := 19) (ls' := [.ref 0, .int x1]) (st' := [.ref 0, .ref 18]) [.aload_n 0] (by decide +kernel) rfl <|
      Ev.getf f_X_10 (by decide +kernel) a7 rfl <|
      Ev.cV0 (M' := M_Hi_keep) (as := [.ref 1]) (rest := []) l_X_78 M_Hi_keep_ok M_Hi_keep_in M_Hi_keep_se (by decide +kernel) (r8 c1) rfl rfl rfl (Nat.le_of_ble_eq_true rfl) (Nat.le_of_ble_eq_true rfl) (k2 c1)
    )
  )
theorem b_X_strike_25 {G : ev_G} {d k n : Nat} {h : ev_H} {R : Option Value → ev_H → Prop} {x1 : Int32} {f_latest_1 : Int32} {f_faultKind_2 : Int32} {f_faultPlace_3 : Int32}
  (a1 : hat h 0 (oC 8 [.ref 1, .ref 5, .ref 18, .ref 81, .ref 98, .int f_latest_1, .int f_faultKind_2, .int f_faultPlace_3]))
  (r2 : ∃ fs, hat h 1 (oC 6 fs))
  (k1 : Ev G d 0 0 M_St_drop 0 [.ref 1, .int x1, ev_unk] [] h (fun r h1 => Ev G (d + 1) k n M_X_strike 33 [.ref 0, .int x1] (r.toList ++ []) h1 R))
  : Ev G (d + 1) k n M_X_strike 25 [.ref 0, .int x1] [] h R :=
  Ev.go (pc' := 26) (ls' := [.ref 0, .int x1]) (st' := [.ref 0]) [.aload_n 0] (by decide +kernel) rfl <|
  Ev.getf f_X_10 (by decide +kernel) a1 rfl <|
  Ev.go (pc' := 30) (ls' := [.ref 0, .int x1]) (st' := [.int x1, .ref 1]) [.iload_n 1] (by decide +kernel) rfl <|
  Ev.cV0 (M' := M_St_drop) (as := [.int x1]) (rest := []) l_X_164 M_St_drop_ok M_St_drop_in M_St_drop_se (by decide +kernel) r2 rfl rfl rfl (Nat.le_of_ble_eq_true rfl) (Nat.le_of_ble_eq_true rfl) k1
theorem b_X_strike_33 {G : ev_G} {d k n : Nat} {h : ev_H} {R : Option Value → ev_H → Prop} {x1 : Int32} {f_latest_1 : Int32} {f_faultKind_2 : Int32} {f_faultPlace_3 : Int32} {f_bits_4 : Int32} {f_parts_5 : Int32} {f_size_6 : Int32} {fv7 : Value} {la8 : Int32} {fk9 : Int32} {fp10 : Int32}
  (a1 : hat h 0 (oC 8 [.ref 1, .ref 5, .ref 18, .ref 81, .ref 98, .int f_latest_1, .int f_faultKind_2, .int f_faultPlace_3]))
  (a2 : hat h 1 (oC 6 [.int f_bits_4, .int f_parts_5, .ref 2, .int f_size_6, .ref 3, .ref 4, fv7]))
  (pr3 : XO h la8 fk9 fp10)
  (k1 : R (some (.int f_size_6)) (xoS h 0 fk9 fp10))
  : Ev G (d + 1) k n M_X_strike 33 [.ref 0, .int x1] [] h R :=
  Ev.go (pc' := 35) (ls' := [.ref 0, .int x1]) (st' := [.ref 0, .ref 0]) [.aload_n 0, .aload_n 0] (by decide +kernel) rfl <|
  Ev.getf f_X_10 (by decide +kernel) a1 rfl <|
  Ev.getf f_X_86 (by decide +kernel) a2 rfl <|
  Ev.cV0 (M' := M_X_answer) (as := [.int f_size_6]) (rest := []) l_X_87 M_X_answer_ok M_X_answer_in M_X_answer_se (by decide +kernel) ⟨_, a1⟩ rfl rfl rfl (Nat.le_of_ble_eq_true rfl) (Nat.le_of_ble_eq_true rfl) (s_X_answer' pr3 <| show Ev G (d + 1) _ _ M_X_strike 44 [.ref 0, .int x1] [.int f_size_6] (xoS h 0 fk9 fp10) R from
    Ev.ret (r := (some (.int f_size_6))) (Or.inl ⟨_, rfl, by decide +kernel, _, rfl, rfl⟩) k1
  )
theorem b_X_swap_0 {G : ev_G} {d k n : Nat} {h : ev_H} {R : Option Value → ev_H → Prop} {x1 : Int32} {x2 : Int32} {S1 : AS} {la2 : Int32} {fk3 : Int32} {fp4 : Int32} {la5 : Int32} {fk6 : Int32} {fp7 : Int32} {S8 : AS} {la9 : Int32} {fk10 : Int32} {fp11 : Int32} {la12 : Int32} {fk13 : Int32} {fp14 : Int32} {la15 : Int32} {fk16 : Int32} {fp17 : Int32} {f_latest_18 : Int32} {f_faultKind_19 : Int32} {f_faultPlace_20 : Int32}
  (a15 : hat h 0 (oC 8 [.ref 1, .ref 5, .ref 18, .ref 81, .ref 98, .int f_latest_18, .int f_faultKind_19, .int f_faultPlace_20]))
  (pr1 : XO h la2 fk3 fp4)
  (pr2 : StR h 1 S1)
  (pr3 : sOk S1)
  (r4 : ∃ fs, hat h 0 (oC 8 fs))
  (pr5 : (b2i (inR x1 (sB S1))) = (0 : Int32) → XO h la5 fk6 fp7)
  (r6 : (b2i (inR x1 (sB S1))) = (0 : Int32) → ∃ fs, hat h 0 (oC 8 fs))
  (pr7 : ¬ (b2i (inR x1 (sB S1))) = (0 : Int32) → XO h la9 fk10 fp11)
  (pr8 : ¬ (b2i (inR x1 (sB S1))) = (0 : Int32) → StR h 1 S8)
  (pr9 : ¬ (b2i (inR x1 (sB S1))) = (0 : Int32) → sOk S8)
  (r10 : ¬ (b2i (inR x1 (sB S1))) = (0 : Int32) → ∃ fs, hat h 0 (oC 8 fs))
  (pr11 : ¬ (b2i (inR x1 (sB S1))) = (0 : Int32) → (b2i (inR x2 (sB S8))) = (0 : Int32) → XO h la12 fk13 fp14)
  (r12 : ¬ (b2i (inR x1 (sB S1))) = (0 : Int32) → (b2i (inR x2 (sB S8))) = (0 : Int32) → ∃ fs, hat h 0 (oC 8 fs))
  (pr13 : ¬ (b2i (inR x1 (sB S1))) = (0 : Int32) → ¬ (b2i (inR x2 (sB S8))) = (0 : Int32) → x1 = x2 → XO h la15 fk16 fp17)
  (r14 : ¬ (b2i (inR x1 (sB S1))) = (0 : Int32) → ¬ (b2i (inR x2 (sB S8))) = (0 : Int32) → x1 = x2 → ∃ fs, hat h 0 (oC 8 fs))
  (r16 : ¬ (b2i (inR x1 (sB S1))) = (0 : Int32) → ¬ (b2i (inR x2 (sB S8))) = (0 : Int32) → ¬ x1 = x2 → ∃ fs, hat h 18 (oC 2 fs))
  (k1 : (b2i (inR x1 (sB S1))) = (0 : Int32) → R (some (.int (-1 : Int32))) (xoS h (1 : Int32) fk6 fp7))
  (k2 : ¬ (b2i (inR x1 (sB S1))) = (0 : Int32) → (b2i (inR x2 (sB S8))) = (0 : Int32) → R (some (.int (-1 : Int32))) (xoS h (1 : Int32) fk13 fp14))
  (k3 : ¬ (b2i (inR x1 (sB S1))) = (0 : Int32) → ¬ (b2i (inR x2 (sB S8))) = (0 : Int32) → x1 = x2 → R (some (.int (-1 : Int32))) (xoS h (4 : Int32) fk16 fp17))
  (k4 : ¬ (b2i (inR x1 (sB S1))) = (0 : Int32) → ¬ (b2i (inR x2 (sB S8))) = (0 : Int32) → ¬ x1 = x2 → Ev G d 0 0 M_Hi_keep 0 [.ref 18, .ref 1] [] h (fun r h1 => Ev G (d + 1) k n M_X_swap 44 [.ref 0, .int x1, .int x2] (r.toList ++ []) h1 R))
  : Ev G (d + 1) k n M_X_swap 0 [.ref 0, .int x1, .int x2] [] h R :=
  Ev.go (pc' := 2) (ls' := [.ref 0, .int x1, .int x2]) (st' := [.int x1, .ref 0]) [.aload_n 0, .iload_n 1] (by decide +kernel) rfl <|
  Ev.cV0 (M' := M_X_isBit) (as := [.int x1]) (rest := []) l_X_167 M_X_isBit_ok M_X_isBit_in M_X_isBit_se (by decide +kernel) r4 rfl rfl rfl (Nat.le_of_ble_eq_true rfl) (Nat.le_of_ble_eq_true rfl) (s_X_isBit pr1 pr2 pr3 <| show Ev G (d + 1) _ _ M_X_swap 5 [.ref 0, .int x1, .int x2] [.int (b2i (inR x1 (sB S1)))] h R from
    Ev.br (i := .ifCond .eq (11)) (P := (b2i (inR x1 (sB S1))) = (0 : Int32)) (t := 16) (f := 8) (r := []) (by decide +kernel) rfl (fun c1 =>
      Ev.go (pc' := 18) (ls' := [.ref 0, .int x1, .int x2]) (st' := [.int (1 : Int32), .ref 0]) [.aload_n 0, .iconst 1] (by decide +kernel) rfl <|
      Ev.cV0 (M' := M_X_refuse) (as := [.int (1 : Int32)]) (rest := []) l_X_67 M_X_refuse_ok M_X_refuse_in M_X_refuse_se (by decide +kernel) (r6 c1) rfl rfl rfl (Nat.le_of_ble_eq_true rfl) (Nat.le_of_ble_eq_true rfl) (s_X_refuse' (pr5 c1) <| show Ev G (d + 1) _ _ M_X_swap 21 [.ref 0, .int x1, .int x2] [.int (-1 : Int32)] (xoS h (1 : Int32) fk6 fp7) R from
        Ev.ret (r := (some (.int (-1 : Int32)))) (Or.inl ⟨_, rfl, by decide +kernel, _, rfl, rfl⟩) (k1 c1)
      )
    ) (fun c1 =>
      Ev.go (pc' := 10) (ls' := [.ref 0, .int x1, .int x2]) (st' := [.int x2, .ref 0]) [.aload_n 0, .iload_n 2] (by decide +kernel) rfl <|
      Ev.cV0 (M' := M_X_isBit) (as := [.int x2]) (rest := []) l_X_167 M_X_isBit_ok M_X_isBit_in M_X_isBit_se (by decide +kernel) (r10 c1) rfl rfl rfl (Nat.le_of_ble_eq_true rfl) (Nat.le_of_ble_eq_true rfl) (s_X_isBit (pr7 c1) (pr8 c1) (pr9 c1) <| show Ev G (d + 1) _ _ M_X_swap 13 [.ref 0, .int x1, .int x2] [.int (b2i (inR x2 (sB S8)))] h R from
        Ev.br (i := .ifCond .ne (9)) (P := (b2i (inR x2 (sB S8))) = (0 : Int32)) (t := 16) (f := 22) (r := []) (by decide +kernel) rfl (fun c2 =>
          Ev.go (pc' := 18) (ls' := [.ref 0, .int x1, .int x2]) (st' := [.int (1 : Int32), .ref 0]) [.aload_n 0, .iconst 1] (by decide +kernel) rfl <|
          Ev.cV0 (M' := M_X_refuse) (as := [.int (1 : Int32)]) (rest := []) l_X_67 M_X_refuse_ok M_X_refuse_in M_X_refuse_se (by decide +kernel) (r12 c1 c2) rfl rfl rfl (Nat.le_of_ble_eq_true rfl) (Nat.le_of_ble_eq_true rfl) (s_X_refuse' (pr11 c1 c2) <| show Ev G (d + 1) _ _ M_X_swap 21 [.ref 0, .int x1, .int x2] [.int (-1 : Int32)] (xoS h (1 : Int32) fk13 fp14) R from
            Ev.ret (r := (some (.int (-1 : Int32)))) (Or.inl ⟨_, rfl, by decide +kernel, _, rfl, rfl⟩) (k2 c1 c2)
          )
        ) (fun c2 =>
          Ev.go (pc' := 24) (ls' := [.ref 0, .int x1, .int x2]) (st' := [.int x2, .int x1]) [.iload_n 1, .iload_n 2] (by decide +kernel) rfl <|
          Ev.br (i := .if_icmp .ne (9)) (P := x1 = x2) (t := 27) (f := 33) (r := []) (by decide +kernel) rfl (fun c3 =>
            Ev.go (pc' := 29) (ls' := [.ref 0, .int x1, .int x2]) (st' := [.int (4 : Int32), .ref 0]) [.aload_n 0, .iconst 4] (by decide +kernel) rfl <|
            Ev.cV0 (M' := M_X_refuse) (as := [.int (4 : Int32)]) (rest := []) l_X_67 M_X_refuse_ok M_X_refuse_in M_X_refuse_se (by decide +kernel) (r14 c1 c2 c3) rfl rfl rfl (Nat.le_of_ble_eq_true rfl) (Nat.le_of_ble_eq_true rfl) (s_X_refuse' (pr13 c1 c2 c3) <| show Ev G (d + 1) _ _ M_X_swap 32 [.ref 0, .int x1, .int x2] [.int (-1 : Int32)] (xoS h (4 : Int32) fk16 fp17) R from
              Ev.ret (r := (some (.int (-1 : Int32)))) (Or.inl ⟨_, rfl, by decide +kernel, _, rfl, rfl⟩) (k3 c1 c2 c3)
            )
          ) (fun c3 =>
            Ev.go (pc' := 34) (ls' := [.ref 0, .int x1, .int x2]) (st' := [.ref 0]) [.aload_n 0] (by decide +kernel) rfl <|
            Ev.getf f_X_26 (by decide +kernel) a15 rfl <|
            Ev.go (pc' := 38) (ls' := [.ref 0, .int x1, .int x2]) (st' := [.ref 0, .ref 18]) [.aload_n 0] (by decide +kernel) rfl <|
            Ev.getf f_X_10 (by decide +kernel) a15 rfl <|
            Ev.cV0 (M' := M_Hi_keep) (as := [.ref 1]) (rest := []) l_X_78 M_Hi_keep_ok M_Hi_keep_in M_Hi_keep_se (by decide +kernel) (r16 c1 c2 c3) rfl rfl rfl (Nat.le_of_ble_eq_true rfl) (Nat.le_of_ble_eq_true rfl) (k4 c1 c2 c3)
          )
        )
      )
    )
  )
theorem b_X_swap_44 {G : ev_G} {d k n : Nat} {h : ev_H} {R : Option Value → ev_H → Prop} {x1 : Int32} {x2 : Int32} {f_latest_1 : Int32} {f_faultKind_2 : Int32} {f_faultPlace_3 : Int32}
  (a1 : hat h 0 (oC 8 [.ref 1, .ref 5, .ref 18, .ref 81, .ref 98, .int f_latest_1, .int f_faultKind_2, .int f_faultPlace_3]))
  (r2 : ∃ fs, hat h 1 (oC 6 fs))
  (k1 : Ev G d 0 0 M_St_exchange 0 [.ref 1, .int x1, .int x2, ev_unk, ev_unk] [] h (fun r h1 => Ev G (d + 1) k n M_X_swap 54 [.ref 0, .int x1, .int x2] (r.toList ++ [.ref 0]) h1 R))
  : Ev G (d + 1) k n M_X_swap 44 [.ref 0, .int x1, .int x2] [] h R :=
  Ev.go (pc' := 46) (ls' := [.ref 0, .int x1, .int x2]) (st' := [.ref 0, .ref 0]) [.aload_n 0, .aload_n 0] (by decide +kernel) rfl <|
  Ev.getf f_X_10 (by decide +kernel) a1 rfl <|
  Ev.go (pc' := 51) (ls' := [.ref 0, .int x1, .int x2]) (st' := [.int x2, .int x1, .ref 1, .ref 0]) [.iload_n 1, .iload_n 2] (by decide +kernel) rfl <|
  Ev.cV0 (M' := M_St_exchange) (as := [.int x1, .int x2]) (rest := [.ref 0]) l_X_173 M_St_exchange_ok M_St_exchange_in M_St_exchange_se (by decide +kernel) r2 rfl rfl rfl (Nat.le_of_ble_eq_true rfl) (Nat.le_of_ble_eq_true rfl) k1
theorem b_X_swap_54 {G : ev_G} {d k n : Nat} {h : ev_H} {R : Option Value → ev_H → Prop} {x1 : Int32} {x2 : Int32} {y1 : Int32} {la1 : Int32} {fk2 : Int32} {fp3 : Int32}
  (pr1 : XO h la1 fk2 fp3)
  (r2 : ∃ fs, hat h 0 (oC 8 fs))
  (k1 : R (some (.int y1)) (xoS h 0 fk2 fp3))
  : Ev G (d + 1) k n M_X_swap 54 [.ref 0, .int x1, .int x2] [.int y1, .ref 0] h R :=
  Ev.cV0 (M' := M_X_answer) (as := [.int y1]) (rest := []) l_X_87 M_X_answer_ok M_X_answer_in M_X_answer_se (by decide +kernel) r2 rfl rfl rfl (Nat.le_of_ble_eq_true rfl) (Nat.le_of_ble_eq_true rfl) (s_X_answer' pr1 <| show Ev G (d + 1) _ _ M_X_swap 57 [.ref 0, .int x1, .int x2] [.int y1] (xoS h 0 fk2 fp3) R from
    Ev.ret (r := (some (.int y1))) (Or.inl ⟨_, rfl, by decide +kernel, _, rfl, rfl⟩) k1
  )
theorem b_X_split_0 {G : ev_G} {d k n : Nat} {h : ev_H} {R : Option Value → ev_H → Prop} {x1 : Int32} {x2 : Int32} {la1 : Int32} {fk2 : Int32} {fp3 : Int32} {S4 : AS} {la5 : Int32} {fk6 : Int32} {fp7 : Int32} {f_latest_8 : Int32} {f_faultKind_9 : Int32} {f_faultPlace_10 : Int32} {f_bits_11 : Int32} {f_parts_12 : Int32} {f_size_13 : Int32} {fv14 : Value} {g15 : Nat → Int32} {j16 : Nat} {la17 : Int32} {fk18 : Int32} {fp19 : Int32}
  (a7 : hat h 0 (oC 8 [.ref 1, .ref 5, .ref 18, .ref 81, .ref 98, .int f_latest_8, .int f_faultKind_9, .int f_faultPlace_10]))
  (a8 : hat h 1 (oC 6 [.int f_bits_11, .int f_parts_12, .ref 2, .int f_size_13, .ref 3, .ref 4, fv14]))
  (a9 : hat h 2 (aI 6 g15))
  (pr1 : x2 < (1 : Int32) → XO h la1 fk2 fp3)
  (r2 : x2 < (1 : Int32) → ∃ fs, hat h 0 (oC 8 fs))
  (pr3 : ¬ x2 < (1 : Int32) → XO h la5 fk6 fp7)
  (pr4 : ¬ x2 < (1 : Int32) → StR h 1 S4)
  (pr5 : ¬ x2 < (1 : Int32) → sOk S4)
  (r6 : ¬ x2 < (1 : Int32) → ∃ fs, hat h 0 (oC 8 fs))
  (i10 : ¬ x2 < (1 : Int32) → ¬ (b2i (inR x1 (sP S4))) = (0 : Int32) → ev_ix x1 j16 6)
  (pr11 : ¬ x2 < (1 : Int32) → ¬ (b2i (inR x1 (sP S4))) = (0 : Int32) → ¬ x2 < (g15 j16) → XO h la17 fk18 fp19)
  (k1 : x2 < (1 : Int32) → R (some (.int (-1 : Int32))) (xoS h (1 : Int32) fk2 fp3))
  (k2 : ¬ x2 < (1 : Int32) → (b2i (inR x1 (sP S4))) = (0 : Int32) → Ev G (d + 1) k n M_X_split 32 [.ref 0, .int x1, .int x2] [] h R)
  (k3 : ¬ x2 < (1 : Int32) → ¬ (b2i (inR x1 (sP S4))) = (0 : Int32) → x2 < (g15 j16) → Ev G (d + 1) k n M_X_split 32 [.ref 0, .int x1, .int x2] [] h R)
  (k4 : ¬ x2 < (1 : Int32) → ¬ (b2i (inR x1 (sP S4))) = (0 : Int32) → ¬ x2 < (g15 j16) → R (some (.int (-1 : Int32))) (xoS h (1 : Int32) fk18 fp19))
  : Ev G (d + 1) k n M_X_split 0 [.ref 0, .int x1, .int x2] [] h R :=
  Ev.go (pc' := 2) (ls' := [.ref 0, .int x1, .int x2]) (st' := [.int (1 : Int32), .int x2]) [.iload_n 2, .iconst 1] (by decide +kernel) rfl <|
  Ev.br (i := .if_icmp .lt (24)) (P := x2 < (1 : Int32)) (t := 26) (f := 5) (r := []) (by decide +kernel) rfl (fun c1 =>
    Ev.go (pc' := 28) (ls' := [.ref 0, .int x1, .int x2]) (st' := [.int (1 : Int32), .ref 0]) [.aload_n 0, .iconst 1] (by decide +kernel) rfl <|
    Ev.cV0 (M' := M_X_refuse) (as := [.int (1 : Int32)]) (rest := []) l_X_67 M_X_refuse_ok M_X_refuse_in M_X_refuse_se (by decide +kernel) (r2 c1) rfl rfl rfl (Nat.le_of_ble_eq_true rfl) (Nat.le_of_ble_eq_true rfl) (s_X_refuse' (pr1 c1) <| show Ev G (d + 1) _ _ M_X_split 31 [.ref 0, .int x1, .int x2] [.int (-1 : Int32)] (xoS h (1 : Int32) fk2 fp3) R from
      Ev.ret (r := (some (.int (-1 : Int32)))) (Or.inl ⟨_, rfl, by decide +kernel, _, rfl, rfl⟩) (k1 c1)
    )
  ) (fun c1 =>
    Ev.go (pc' := 7) (ls' := [.ref 0, .int x1, .int x2]) (st' := [.int x1, .ref 0]) [.aload_n 0, .iload_n 1] (by decide +kernel) rfl <|
    Ev.cV0 (M' := M_X_isPart) (as := [.int x1]) (rest := []) l_X_130 M_X_isPart_ok M_X_isPart_in M_X_isPart_se (by decide +kernel) (r6 c1) rfl rfl rfl (Nat.le_of_ble_eq_true rfl) (Nat.le_of_ble_eq_true rfl) (s_X_isPart (pr3 c1) (pr4 c1) (pr5 c1) <| show Ev G (d + 1) _ _ M_X_split 10 [.ref 0, .int x1, .int x2] [.int (b2i (inR x1 (sP S4)))] h R from
      Ev.br (i := .ifCond .eq (22)) (P := (b2i (inR x1 (sP S4))) = (0 : Int32)) (t := 32) (f := 13) (r := []) (by decide +kernel) rfl (fun c2 =>
        (k2 c1 c2)
      ) (fun c2 =>
        Ev.go (pc' := 15) (ls' := [.ref 0, .int x1, .int x2]) (st' := [.ref 0, .int x2]) [.iload_n 2, .aload_n 0] (by decide +kernel) rfl <|
        Ev.getf f_X_10 (by decide +kernel) a7 rfl <|
        Ev.getf f_X_133 (by decide +kernel) a8 rfl <|
        Ev.go (pc' := 22) (ls' := [.ref 0, .int x1, .int x2]) (st' := [.int x1, .ref 2, .int x2]) [.iload_n 1] (by decide +kernel) rfl <|
        Ev.iald (j := j16) (by decide +kernel) a9 (i10 c1 c2) <|
        Ev.br (i := .if_icmp .lt (9)) (P := x2 < (g15 j16)) (t := 32) (f := 26) (r := []) (by decide +kernel) rfl (fun c3 =>
          (k3 c1 c2 c3)
        ) (fun c3 =>
          Ev.go (pc' := 28) (ls' := [.ref 0, .int x1, .int x2]) (st' := [.int (1 : Int32), .ref 0]) [.aload_n 0, .iconst 1] (by decide +kernel) rfl <|
          Ev.cV0 (M' := M_X_refuse) (as := [.int (1 : Int32)]) (rest := []) l_X_67 M_X_refuse_ok M_X_refuse_in M_X_refuse_se (by decide +kernel) ⟨_, a7⟩ rfl rfl rfl (Nat.le_of_ble_eq_true rfl) (Nat.le_of_ble_eq_true rfl) (s_X_refuse' (pr11 c1 c2 c3) <| show Ev G (d + 1) _ _ M_X_split 31 [.ref 0, .int x1, .int x2] [.int (-1 : Int32)] (xoS h (1 : Int32) fk18 fp19) R from
            Ev.ret (r := (some (.int (-1 : Int32)))) (Or.inl ⟨_, rfl, by decide +kernel, _, rfl, rfl⟩) (k4 c1 c2 c3)
          )
        )
      )
    )
  )
theorem b_X_split_32 {G : ev_G} {d k n : Nat} {h : ev_H} {R : Option Value → ev_H → Prop} {x1 : Int32} {x2 : Int32} {S1 : AS} {la2 : Int32} {fk3 : Int32} {fp4 : Int32} {la5 : Int32} {fk6 : Int32} {fp7 : Int32} {f_latest_8 : Int32} {f_faultKind_9 : Int32} {f_faultPlace_10 : Int32} {f_bits_11 : Int32} {f_parts_12 : Int32} {f_size_13 : Int32} {fv14 : Value} {la15 : Int32} {fk16 : Int32} {fp17 : Int32}
  (a7 : hat h 0 (oC 8 [.ref 1, .ref 5, .ref 18, .ref 81, .ref 98, .int f_latest_8, .int f_faultKind_9, .int f_faultPlace_10]))
  (a8 : hat h 1 (oC 6 [.int f_bits_11, .int f_parts_12, .ref 2, .int f_size_13, .ref 3, .ref 4, fv14]))
  (pr1 : XO h la2 fk3 fp4)
  (pr2 : StR h 1 S1)
  (pr3 : sOk S1)
  (r4 : ∃ fs, hat h 0 (oC 8 fs))
  (pr5 : (b2i (inR x1 (sP S1))) = (0 : Int32) → XO h la5 fk6 fp7)
  (r6 : (b2i (inR x1 (sP S1))) = (0 : Int32) → ∃ fs, hat h 0 (oC 8 fs))
  (r9 : ¬ (b2i (inR x1 (sP S1))) = (0 : Int32) → f_parts_12 < (6 : Int32) → ∃ fs, hat h 18 (oC 2 fs))
  (pr10 : ¬ (b2i (inR x1 (sP S1))) = (0 : Int32) → ¬ f_parts_12 < (6 : Int32) → XO h la15 fk16 fp17)
  (k1 : (b2i (inR x1 (sP S1))) = (0 : Int32) → R (some (.int (-1 : Int32))) (xoS h (2 : Int32) fk6 fp7))
  (k2 : ¬ (b2i (inR x1 (sP S1))) = (0 : Int32) → f_parts_12 < (6 : Int32) → Ev G d 0 0 M_Hi_keep 0 [.ref 18, .ref 1] [] h (fun r h1 => Ev G (d + 1) k n M_X_split 75 [.ref 0, .int x1, .int x2] (r.toList ++ []) h1 R))
  (k3 : ¬ (b2i (inR x1 (sP S1))) = (0 : Int32) → ¬ f_parts_12 < (6 : Int32) → R (some (.int (-1 : Int32))) (xoS h (3 : Int32) fk16 fp17))
  : Ev G (d + 1) k n M_X_split 32 [.ref 0, .int x1, .int x2] [] h R :=
  Ev.go (pc' := 34) (ls' := [.ref 0, .int x1, .int x2]) (st' := [.int x1, .ref 0]) [.aload_n 0, .iload_n 1] (by decide +kernel) rfl <|
  Ev.cV0 (M' := M_X_isPart) (as := [.int x1]) (rest := []) l_X_130 M_X_isPart_ok M_X_isPart_in M_X_isPart_se (by decide +kernel) r4 rfl rfl rfl (Nat.le_of_ble_eq_true rfl) (Nat.le_of_ble_eq_true rfl) (s_X_isPart pr1 pr2 pr3 <| show Ev G (d + 1) _ _ M_X_split 37 [.ref 0, .int x1, .int x2] [.int (b2i (inR x1 (sP S1)))] h R from
    Ev.br (i := .ifCond .ne (9)) (P := (b2i (inR x1 (sP S1))) = (0 : Int32)) (t := 40) (f := 46) (r := []) (by decide +kernel) rfl (fun c1 =>
      Ev.go (pc' := 42) (ls' := [.ref 0, .int x1, .int x2]) (st' := [.int (2 : Int32), .ref 0]) [.aload_n 0, .iconst 2] (by decide +kernel) rfl <|
      Ev.cV0 (M' := M_X_refuse) (as := [.int (2 : Int32)]) (rest := []) l_X_67 M_X_refuse_ok M_X_refuse_in M_X_refuse_se (by decide +kernel) (r6 c1) rfl rfl rfl (Nat.le_of_ble_eq_true rfl) (Nat.le_of_ble_eq_true rfl) (s_X_refuse' (pr5 c1) <| show Ev G (d + 1) _ _ M_X_split 45 [.ref 0, .int x1, .int x2] [.int (-1 : Int32)] (xoS h (2 : Int32) fk6 fp7) R from
        Ev.ret (r := (some (.int (-1 : Int32)))) (Or.inl ⟨_, rfl, by decide +kernel, _, rfl, rfl⟩) (k1 c1)
      )
    ) (fun c1 =>
      Ev.go (pc' := 47) (ls' := [.ref 0, .int x1, .int x2]) (st' := [.ref 0]) [.aload_n 0] (by decide +kernel) rfl <|
      Ev.getf f_X_10 (by decide +kernel) a7 rfl <|
      Ev.getf f_X_93 (by decide +kernel) a8 rfl <|
      Ev.go (pc' := 55) (ls' := [.ref 0, .int x1, .int x2]) (st' := [.int (6 : Int32), .int f_parts_12]) [.bipush (6)] (by decide +kernel) rfl <|
      Ev.br (i := .if_icmp .lt (9)) (P := f_parts_12 < (6 : Int32)) (t := 64) (f := 58) (r := []) (by decide +kernel) rfl (fun c2 =>
        Ev.go (pc' := 65) (ls' := [.ref 0, .int x1, .int x2]) (st' := [.ref 0]) [.aload_n 0] (by decide +kernel) rfl <|
        Ev.getf f_X_26 (by decide +kernel) a7 rfl <|
        Ev.go (pc' := 69) (ls' := [.ref 0, .int x1, .int x2]) (st' := [.ref 0, .ref 18]) [.aload_n 0] (by decide +kernel) rfl <|
        Ev.getf f_X_10 (by decide +kernel) a7 rfl <|
        Ev.cV0 (M' := M_Hi_keep) (as := [.ref 1]) (rest := []) l_X_78 M_Hi_keep_ok M_Hi_keep_in M_Hi_keep_se (by decide +kernel) (r9 c1 c2) rfl rfl rfl (Nat.le_of_ble_eq_true rfl) (Nat.le_of_ble_eq_true rfl) (k2 c1 c2)
      ) (fun c2 =>
        Ev.go (pc' := 60) (ls' := [.ref 0, .int x1, .int x2]) (st' := [.int (3 : Int32), .ref 0]) [.aload_n 0, .iconst 3] (by decide +kernel) rfl <|
        Ev.cV0 (M' := M_X_refuse) (as := [.int (3 : Int32)]) (rest := []) l_X_67 M_X_refuse_ok M_X_refuse_in M_X_refuse_se (by decide +kernel) ⟨_, a7⟩ rfl rfl rfl (Nat.le_of_ble_eq_true rfl) (Nat.le_of_ble_eq_true rfl) (s_X_refuse' (pr10 c1 c2) <| show Ev G (d + 1) _ _ M_X_split 63 [.ref 0, .int x1, .int x2] [.int (-1 : Int32)] (xoS h (3 : Int32) fk16 fp17) R from
          Ev.ret (r := (some (.int (-1 : Int32)))) (Or.inl ⟨_, rfl, by decide +kernel, _, rfl, rfl⟩) (k3 c1 c2)
        )
      )
    )
  )
theorem b_X_split_75 {G : ev_G} {d k n : Nat} {h : ev_H} {R : Option Value → ev_H → Prop} {x1 : Int32} {x2 : Int32} {f_latest_1 : Int32} {f_faultKind_2 : Int32} {f_faultPlace_3 : Int32}
  (a1 : hat h 0 (oC 8 [.ref 1, .ref 5, .ref 18, .ref 81, .ref 98, .int f_latest_1, .int f_faultKind_2, .int f_faultPlace_3]))
  (r2 : ∃ fs, hat h 1 (oC 6 fs))
  (k1 : Ev G d 0 0 M_St_cutPart 0 [.ref 1, .int x1, .int x2, ev_unk] [] h (fun r h1 => Ev G (d + 1) k n M_X_split 84 [.ref 0, .int x1, .int x2] (r.toList ++ []) h1 R))
  : Ev G (d + 1) k n M_X_split 75 [.ref 0, .int x1, .int x2] [] h R :=
  Ev.go (pc' := 76) (ls' := [.ref 0, .int x1, .int x2]) (st' := [.ref 0]) [.aload_n 0] (by decide +kernel) rfl <|
  Ev.getf f_X_10 (by decide +kernel) a1 rfl <|
  Ev.go (pc' := 81) (ls' := [.ref 0, .int x1, .int x2]) (st' := [.int x2, .int x1, .ref 1]) [.iload_n 1, .iload_n 2] (by decide +kernel) rfl <|
  Ev.cV0 (M' := M_St_cutPart) (as := [.int x1, .int x2]) (rest := []) l_X_176 M_St_cutPart_ok M_St_cutPart_in M_St_cutPart_se (by decide +kernel) r2 rfl rfl rfl (Nat.le_of_ble_eq_true rfl) (Nat.le_of_ble_eq_true rfl) k1
theorem b_X_split_84 {G : ev_G} {d k n : Nat} {h : ev_H} {R : Option Value → ev_H → Prop} {x1 : Int32} {x2 : Int32} {f_latest_1 : Int32} {f_faultKind_2 : Int32} {f_faultPlace_3 : Int32} {f_bits_4 : Int32} {f_parts_5 : Int32} {f_size_6 : Int32} {fv7 : Value} {la8 : Int32} {fk9 : Int32} {fp10 : Int32}
  (a1 : hat h 0 (oC 8 [.ref 1, .ref 5, .ref 18, .ref 81, .ref 98, .int f_latest_1, .int f_faultKind_2, .int f_faultPlace_3]))
  (a2 : hat h 1 (oC 6 [.int f_bits_4, .int f_parts_5, .ref 2, .int f_size_6, .ref 3, .ref 4, fv7]))
  (pr3 : XO h la8 fk9 fp10)
  (k1 : R (some (.int f_parts_5)) (xoS h 0 fk9 fp10))
  : Ev G (d + 1) k n M_X_split 84 [.ref 0, .int x1, .int x2] [] h R :=
  Ev.go (pc' := 86) (ls' := [.ref 0, .int x1, .int x2]) (st' := [.ref 0, .ref 0]) [.aload_n 0, .aload_n 0] (by decide +kernel) rfl <|
  Ev.getf f_X_10 (by decide +kernel) a1 rfl <|
  Ev.getf f_X_93 (by decide +kernel) a2 rfl <|
  Ev.cV0 (M' := M_X_answer) (as := [.int f_parts_5]) (rest := []) l_X_87 M_X_answer_ok M_X_answer_in M_X_answer_se (by decide +kernel) ⟨_, a1⟩ rfl rfl rfl (Nat.le_of_ble_eq_true rfl) (Nat.le_of_ble_eq_true rfl) (s_X_answer' pr3 <| show Ev G (d + 1) _ _ M_X_split 95 [.ref 0, .int x1, .int x2] [.int f_parts_5] (xoS h 0 fk9 fp10) R from
    Ev.ret (r := (some (.int f_parts_5))) (Or.inl ⟨_, rfl, by decide +kernel, _, rfl, rfl⟩) k1
  )
theorem b_X_merge_0 {G : ev_G} {d k n : Nat} {h : ev_H} {R : Option Value → ev_H → Prop} {x1 : Int32} {S1 : AS} {la2 : Int32} {fk3 : Int32} {fp4 : Int32} {la5 : Int32} {fk6 : Int32} {fp7 : Int32} {S8 : AS} {la9 : Int32} {fk10 : Int32} {fp11 : Int32} {la12 : Int32} {fk13 : Int32} {fp14 : Int32} {f_latest_15 : Int32} {f_faultKind_16 : Int32} {f_faultPlace_17 : Int32} {f_bits_18 : Int32} {f_parts_19 : Int32} {f_size_20 : Int32} {fv21 : Value} {g22 : Nat → Int32} {j23 : Nat} {j24 : Nat} {la25 : Int32} {fk26 : Int32} {fp27 : Int32}
  (a13 : hat h 0 (oC 8 [.ref 1, .ref 5, .ref 18, .ref 81, .ref 98, .int f_latest_15, .int f_faultKind_16, .int f_faultPlace_17]))
  (a14 : hat h 1 (oC 6 [.int f_bits_18, .int f_parts_19, .ref 2, .int f_size_20, .ref 3, .ref 4, fv21]))
  (a15 : hat h 2 (aI 6 g22))
  (pr1 : XO h la2 fk3 fp4)
  (pr2 : StR h 1 S1)
  (pr3 : sOk S1)
  (r4 : ∃ fs, hat h 0 (oC 8 fs))
  (pr5 : (b2i (inR x1 (sP S1))) = (0 : Int32) → XO h la5 fk6 fp7)
  (r6 : (b2i (inR x1 (sP S1))) = (0 : Int32) → ∃ fs, hat h 0 (oC 8 fs))
  (pr7 : ¬ (b2i (inR x1 (sP S1))) = (0 : Int32) → XO h la9 fk10 fp11)
  (pr8 : ¬ (b2i (inR x1 (sP S1))) = (0 : Int32) → StR h 1 S8)
  (pr9 : ¬ (b2i (inR x1 (sP S1))) = (0 : Int32) → sOk S8)
  (r10 : ¬ (b2i (inR x1 (sP S1))) = (0 : Int32) → ∃ fs, hat h 0 (oC 8 fs))
  (pr11 : ¬ (b2i (inR x1 (sP S1))) = (0 : Int32) → (b2i (inR (x1 + (1 : Int32)) (sP S8))) = (0 : Int32) → XO h la12 fk13 fp14)
  (r12 : ¬ (b2i (inR x1 (sP S1))) = (0 : Int32) → (b2i (inR (x1 + (1 : Int32)) (sP S8))) = (0 : Int32) → ∃ fs, hat h 0 (oC 8 fs))
  (i16 : ¬ (b2i (inR x1 (sP S1))) = (0 : Int32) → ¬ (b2i (inR (x1 + (1 : Int32)) (sP S8))) = (0 : Int32) → ev_ix x1 j23 6)
  (i17 : ¬ (b2i (inR x1 (sP S1))) = (0 : Int32) → ¬ (b2i (inR (x1 + (1 : Int32)) (sP S8))) = (0 : Int32) → ev_ix (x1 + (1 : Int32)) j24 6)
  (pr18 : ¬ (b2i (inR x1 (sP S1))) = (0 : Int32) → ¬ (b2i (inR (x1 + (1 : Int32)) (sP S8))) = (0 : Int32) → (24 : Int32) < ((g22 j23) + (g22 j24)) → XO h la25 fk26 fp27)
  (r19 : ¬ (b2i (inR x1 (sP S1))) = (0 : Int32) → ¬ (b2i (inR (x1 + (1 : Int32)) (sP S8))) = (0 : Int32) → ¬ (24 : Int32) < ((g22 j23) + (g22 j24)) → ∃ fs, hat h 18 (oC 2 fs))
  (k1 : (b2i (inR x1 (sP S1))) = (0 : Int32) → R (some (.int (-1 : Int32))) (xoS h (2 : Int32) fk6 fp7))
  (k2 : ¬ (b2i (inR x1 (sP S1))) = (0 : Int32) → (b2i (inR (x1 + (1 : Int32)) (sP S8))) = (0 : Int32) → R (some (.int (-1 : Int32))) (xoS h (2 : Int32) fk13 fp14))
  (k3 : ¬ (b2i (inR x1 (sP S1))) = (0 : Int32) → ¬ (b2i (inR (x1 + (1 : Int32)) (sP S8))) = (0 : Int32) → (24 : Int32) < ((g22 j23) + (g22 j24)) → R (some (.int (-1 : Int32))) (xoS h (6 : Int32) fk26 fp27))
  (k4 : ¬ (b2i (inR x1 (sP S1))) = (0 : Int32) → ¬ (b2i (inR (x1 + (1 : Int32)) (sP S8))) = (0 : Int32) → ¬ (24 : Int32) < ((g22 j23) + (g22 j24)) → Ev G d 0 0 M_Hi_keep 0 [.ref 18, .ref 1] [] h (fun r h1 => Ev G (d + 1) k n M_X_merge 68 [.ref 0, .int x1] (r.toList ++ []) h1 R))
  : Ev G (d + 1) k n M_X_merge 0 [.ref 0, .int x1] [] h R :=
  Ev.go (pc' := 2) (ls' := [.ref 0, .int x1]) (st' := [.int x1, .ref 0]) [.aload_n 0, .iload_n 1] (by decide +kernel) rfl <|
  Ev.cV0 (M' := M_X_isPart) (as := [.int x1]) (rest := []) l_X_130 M_X_isPart_ok M_X_isPart_in M_X_isPart_se (by decide +kernel) r4 rfl rfl rfl (Nat.le_of_ble_eq_true rfl) (Nat.le_of_ble_eq_true rfl) (s_X_isPart pr1 pr2 pr3 <| show Ev G (d + 1) _ _ M_X_merge 5 [.ref 0, .int x1] [.int (b2i (inR x1 (sP S1)))] h R from
    Ev.br (i := .ifCond .eq (13)) (P := (b2i (inR x1 (sP S1))) = (0 : Int32)) (t := 18) (f := 8) (r := []) (by decide +kernel) rfl (fun c1 =>
      Ev.go (pc' := 20) (ls' := [.ref 0, .int x1]) (st' := [.int (2 : Int32), .ref 0]) [.aload_n 0, .iconst 2] (by decide +kernel) rfl <|
      Ev.cV0 (M' := M_X_refuse) (as := [.int (2 : Int32)]) (rest := []) l_X_67 M_X_refuse_ok M_X_refuse_in M_X_refuse_se (by decide +kernel) (r6 c1) rfl rfl rfl (Nat.le_of_ble_eq_true rfl) (Nat.le_of_ble_eq_true rfl) (s_X_refuse' (pr5 c1) <| show Ev G (d + 1) _ _ M_X_merge 23 [.ref 0, .int x1] [.int (-1 : Int32)] (xoS h (2 : Int32) fk6 fp7) R from
        Ev.ret (r := (some (.int (-1 : Int32)))) (Or.inl ⟨_, rfl, by decide +kernel, _, rfl, rfl⟩) (k1 c1)
      )
    ) (fun c1 =>
      Ev.go (pc' := 12) (ls' := [.ref 0, .int x1]) (st' := [.int (x1 + (1 : Int32)), .ref 0]) [.aload_n 0, .iload_n 1, .iconst 1, .iadd] (by decide +kernel) rfl <|
      Ev.cV0 (M' := M_X_isPart) (as := [.int (x1 + (1 : Int32))]) (rest := []) l_X_130 M_X_isPart_ok M_X_isPart_in M_X_isPart_se (by decide +kernel) (r10 c1) rfl rfl rfl (Nat.le_of_ble_eq_true rfl) (Nat.le_of_ble_eq_true rfl) (s_X_isPart (pr7 c1) (pr8 c1) (pr9 c1) <| show Ev G (d + 1) _ _ M_X_merge 15 [.ref 0, .int x1] [.int (b2i (inR (x1 + (1 : Int32)) (sP S8)))] h R from
        Ev.br (i := .ifCond .ne (9)) (P := (b2i (inR (x1 + (1 : Int32)) (sP S8))) = (0 : Int32)) (t := 18) (f := 24) (r := []) (by decide +kernel) rfl (fun c2 =>
          Ev.go (pc' := 20) (ls' := [.ref 0, .int x1]) (st' := [.int (2 : Int32), .ref 0]) [.aload_n 0, .iconst 2] (by decide +kernel) rfl <|
          Ev.cV0 (M' := M_X_refuse) (as := [.int (2 : Int32)]) (rest := []) l_X_67 M_X_refuse_ok M_X_refuse_in M_X_refuse_se (by decide +kernel) (r12 c1 c2) rfl rfl rfl (Nat.le_of_ble_eq_true rfl) (Nat.le_of_ble_eq_true rfl) (s_X_refuse' (pr11 c1 c2) <| show Ev G (d + 1) _ _ M_X_merge 23 [.ref 0, .int x1] [.int (-1 : Int32)] (xoS h (2 : Int32) fk13 fp14) R from
            Ev.ret (r := (some (.int (-1 : Int32)))) (Or.inl ⟨_, rfl, by decide +kernel, _, rfl, rfl⟩) (k2 c1 c2)
          )
        ) (fun c2 =>
          Ev.go (pc' := 25) (ls' := [.ref 0, .int x1]) (st' := [.ref 0]) [.aload_n 0] (by decide +kernel) rfl <|
          Ev.getf f_X_10 (by decide +kernel) a13 rfl <|
          Ev.getf f_X_133 (by decide +kernel) a14 rfl <|
          Ev.go (pc' := 32) (ls' := [.ref 0, .int x1]) (st' := [.int x1, .ref 2]) [.iload_n 1] (by decide +kernel) rfl <|
          Ev.iald (j := j23) (by decide +kernel) a15 (i16 c1 c2) <|
          Ev.go (pc' := 34) (ls' := [.ref 0, .int x1]) (st' := [.ref 0, .int (g22 j23)]) [.aload_n 0] (by decide +kernel) rfl <|
          Ev.getf f_X_10 (by decide +kernel) a13 rfl <|
          Ev.getf f_X_133 (by decide +kernel) a14 rfl <|
          Ev.go (pc' := 43) (ls' := [.ref 0, .int x1]) (st' := [.int (x1 + (1 : Int32)), .ref 2, .int (g22 j23)]) [.iload_n 1, .iconst 1, .iadd] (by decide +kernel) rfl <|
          Ev.iald (j := j24) (by decide +kernel) a15 (i17 c1 c2) <|
          Ev.go (pc' := 47) (ls' := [.ref 0, .int x1]) (st' := [.int (24 : Int32), .int ((g22 j23) + (g22 j24))]) [.iadd, .bipush (24)] (by decide +kernel) rfl <|
          Ev.br (i := .if_icmp .le (10)) (P := (24 : Int32) < ((g22 j23) + (g22 j24))) (t := 50) (f := 57) (r := []) (by decide +kernel) rfl (fun c3 =>
            Ev.go (pc' := 53) (ls' := [.ref 0, .int x1]) (st' := [.int (6 : Int32), .ref 0]) [.aload_n 0, .bipush (6)] (by decide +kernel) rfl <|
            Ev.cV0 (M' := M_X_refuse) (as := [.int (6 : Int32)]) (rest := []) l_X_67 M_X_refuse_ok M_X_refuse_in M_X_refuse_se (by decide +kernel) ⟨_, a13⟩ rfl rfl rfl (Nat.le_of_ble_eq_true rfl) (Nat.le_of_ble_eq_true rfl) (s_X_refuse' (pr18 c1 c2 c3) <| show Ev G (d + 1) _ _ M_X_merge 56 [.ref 0, .int x1] [.int (-1 : Int32)] (xoS h (6 : Int32) fk26 fp27) R from
              Ev.ret (r := (some (.int (-1 : Int32)))) (Or.inl ⟨_, rfl, by decide +kernel, _, rfl, rfl⟩) (k3 c1 c2 c3)
            )
          ) (fun c3 =>
            Ev.go (pc' := 58) (ls' := [.ref 0, .int x1]) (st' := [.ref 0]) [.aload_n 0] (by decide +kernel) rfl <|
            Ev.getf f_X_26 (by decide +kernel) a13 rfl <|
            Ev.go (pc' := 62) (ls' := [.ref 0, .int x1]) (st' := [.ref 0, .ref 18]) [.aload_n 0] (by decide +kernel) rfl <|
            Ev.getf f_X_10 (by decide +kernel) a13 rfl <|
            Ev.cV0 (M' := M_Hi_keep) (as := [.ref 1]) (rest := []) l_X_78 M_Hi_keep_ok M_Hi_keep_in M_Hi_keep_se (by decide +kernel) (r19 c1 c2 c3) rfl rfl rfl (Nat.le_of_ble_eq_true rfl) (Nat.le_of_ble_eq_true rfl) (k4 c1 c2 c3)
          )
        )
      )
    )
  )
theorem b_X_merge_68 {G : ev_G} {d k n : Nat} {h : ev_H} {R : Option Value → ev_H → Prop} {x1 : Int32} {f_latest_1 : Int32} {f_faultKind_2 : Int32} {f_faultPlace_3 : Int32}
  (a1 : hat h 0 (oC 8 [.ref 1, .ref 5, .ref 18, .ref 81, .ref 98, .int f_latest_1, .int f_faultKind_2, .int f_faultPlace_3]))
  (r2 : ∃ fs, hat h 1 (oC 6 fs))
  (k1 : Ev G d 0 0 M_St_joinPart 0 [.ref 1, .int x1, ev_unk] [] h (fun r h1 => Ev G (d + 1) k n M_X_merge 76 [.ref 0, .int x1] (r.toList ++ []) h1 R))
  : Ev G (d + 1) k n M_X_merge 68 [.ref 0, .int x1] [] h R :=
  Ev.go (pc' := 69) (ls' := [.ref 0, .int x1]) (st' := [.ref 0]) [.aload_n 0] (by decide +kernel) rfl <|
  Ev.getf f_X_10 (by decide +kernel) a1 rfl <|
  Ev.go (pc' := 73) (ls' := [.ref 0, .int x1]) (st' := [.int x1, .ref 1]) [.iload_n 1] (by decide +kernel) rfl <|
  Ev.cV0 (M' := M_St_joinPart) (as := [.int x1]) (rest := []) l_X_180 M_St_joinPart_ok M_St_joinPart_in M_St_joinPart_se (by decide +kernel) r2 rfl rfl rfl (Nat.le_of_ble_eq_true rfl) (Nat.le_of_ble_eq_true rfl) k1
theorem b_X_merge_76 {G : ev_G} {d k n : Nat} {h : ev_H} {R : Option Value → ev_H → Prop} {x1 : Int32} {f_latest_1 : Int32} {f_faultKind_2 : Int32} {f_faultPlace_3 : Int32} {f_bits_4 : Int32} {f_parts_5 : Int32} {f_size_6 : Int32} {fv7 : Value} {la8 : Int32} {fk9 : Int32} {fp10 : Int32}
  (a1 : hat h 0 (oC 8 [.ref 1, .ref 5, .ref 18, .ref 81, .ref 98, .int f_latest_1, .int f_faultKind_2, .int f_faultPlace_3]))
  (a2 : hat h 1 (oC 6 [.int f_bits_4, .int f_parts_5, .ref 2, .int f_size_6, .ref 3, .ref 4, fv7]))
  (pr3 : XO h la8 fk9 fp10)
  (k1 : R (some (.int f_parts_5)) (xoS h 0 fk9 fp10))
  : Ev G (d + 1) k n M_X_merge 76 [.ref 0, .int x1] [] h R :=
  Ev.go (pc' := 78) (ls' := [.ref 0, .int x1]) (st' := [.ref 0, .ref 0]) [.aload_n 0, .aload_n 0] (by decide +kernel) rfl <|
  Ev.getf f_X_10 (by decide +kernel) a1 rfl <|
  Ev.getf f_X_93 (by decide +kernel) a2 rfl <|
  Ev.cV0 (M' := M_X_answer) (as := [.int f_parts_5]) (rest := []) l_X_87 M_X_answer_ok M_X_answer_in M_X_answer_se (by decide +kernel) ⟨_, a1⟩ rfl rfl rfl (Nat.le_of_ble_eq_true rfl) (Nat.le_of_ble_eq_true rfl) (s_X_answer' pr3 <| show Ev G (d + 1) _ _ M_X_merge 87 [.ref 0, .int x1] [.int f_parts_5] (xoS h 0 fk9 fp10) R from
    Ev.ret (r := (some (.int f_parts_5))) (Or.inl ⟨_, rfl, by decide +kernel, _, rfl, rfl⟩) k1
  )
def keepQ (Q : QS) : QS := (qS Q, (min (qKn Q + 1) 12, keepA (qKn Q) (qKa Q) (qS Q)), Q.2.2)
def a_add (Q : QS) (y : Int64) : Int32 × QS := if numB y (sB (qS Q)) then (if sN (qS Q) < 32 then (if frI (whP (qS Q) y) (sN (qS Q)) = -1 then (nI (sN (qS Q)), actQ Q (apS (qS Q) y 0)) else (-1, stQ Q 4)) else (-1, stQ Q 3)) else (-1, stQ Q 1)
def a_strike (Q : QS) (x : Int32) : Int32 × QS := if inR x (sN (qS Q)) then (nI (sN (qS Q) - 1), actQ Q (drS (qS Q) (vN x))) else (-1, stQ Q 2)
def a_turn (S : AS) (x b : Int32) : Int64 := sCo S (vN x) ^^^ ((1 : Int64) <<< ((nI (vN b)).toInt64 &&& 63))
def a_flip (Q : QS) (x b : Int32) : Int32 × QS := if inR b (sB (qS Q)) then (if inR x (sN (qS Q)) then (if frI (whP (qS Q) (a_turn (qS Q) x b)) (sN (qS Q)) = -1 then (b2i (lt (a_turn (qS Q) x b) (vN b)), actQ Q (flS (qS Q) (vN x) (a_turn (qS Q) x b))) else (-1, stQ Q 4)) else (-1, stQ Q 2)) else (-1, stQ Q 1)
def a_swap (Q : QS) (x y : Int32) : Int32 × QS := if inR x (sB (qS Q)) && inR y (sB (qS Q)) then (if x = y then (-1, stQ Q 4) else (nI (exN (qS Q) (vN x) (vN y)), actQ Q (exS (qS Q) (vN x) (vN y)))) else (-1, stQ Q 1)
def a_tag (Q : QS) (x t : Int32) : Int32 × QS := if inR t 10 then (if inR x (sN (qS Q)) then (if sTg (qS Q) (vN x) = vN t then (-1, stQ Q 4) else (nI (sTg (qS Q) (vN x)), actQ Q (tgS (qS Q) (vN x) (vN t)))) else (-1, stQ Q 2)) else (-1, stQ Q 1)
def a_split (Q : QS) (x w : Int32) : Int32 × QS := if w < 1 then (-1, stQ Q 1) else if inR x (sP (qS Q)) then (if w < nI (sBr (qS Q) (vN x)) then (if sP (qS Q) < 6 then (nI (sP (qS Q) + 1), actQ Q (cutS (qS Q) (vN x) (vN w))) else (-1, stQ Q 3)) else (-1, stQ Q 1)) else (-1, stQ Q 2)
def a_merge (Q : QS) (x : Int32) : Int32 × QS := if inR x (sP (qS Q)) && decide (vN x + 1 < sP (qS Q)) then (if sBr (qS Q) (vN x) + sBr (qS Q) (vN x + 1) ≤ 24 then (nI (sP (qS Q) - 1), actQ Q (joinS (qS Q) (vN x))) else (-1, stQ Q 6)) else (-1, stQ Q 2)
def a_open (Q : QS) : Int32 × QS := if (sFl (qS Q)).isEmpty then (-1, stQ Q 5) else (0, actQ Q (opS (qS Q)))
def undoQ (Q : QS) : QS := (qKa Q (qKn Q - 1), (qKn Q - 1, qKa Q), Q.2.2.1, Q.2.2.2.1, (0, Q.2.2.2.2.2))
def a_undo (Q : QS) : Int32 × QS := if qKn Q = 0 then (-1, stQ Q 5) else (nI (qKn Q - 1), undoQ Q)
def markQ (Q : QS) : QS := (qS Q, Q.2.1, (qMn Q + 1, fun i => if i = qMn Q then qS Q else qMa Q i), Q.2.2.2.1, (0, Q.2.2.2.2.2))
def a_mark (Q : QS) : Int32 × QS := if qMn Q < 3 then (nI (qMn Q + 1), markQ Q) else (-1, stQ Q 3)
def backQ (Q : QS) : QS := (qMa Q (qMn Q - 1), (0, qKa Q), (qMn Q - 1, qMa Q), Q.2.2.2.1, (0, Q.2.2.2.2.2))
def a_back (Q : QS) : Int32 × QS := if qMn Q = 0 then (-1, stQ Q 5) else (nI (qMn Q - 1), backQ Q)
section S28
variable {G : ev_G} {d : Nat} {h h1 h2 : ev_H} {R : Option Value → ev_H → Prop} {Q : QS}
theorem XR.finQ (H : XR h1 Q) (K : Kg h h1 0 102) {q : Int32 × QS} (hR : ∀ h', Kg h h' 0 102 → XR h' q.2 → R (some (.int q.1)) h') {v l : Int32} (e : q = (v, stQ Q l)) : R (some (.int v)) (xoS h1 l (qFk Q) (qFp Q)) := by
  subst e
  exact hR _ (K.trans ((xoS_kp h1 l (qFk Q) (qFp Q)).g.wide (by omega) (by omega))) (H.xo l)
theorem XR.store (H : XR h1 Q) (K2 : Kp h1 h2 1 5) {S' : AS} (st : StR h2 1 S') (gd : sGd S') : XR h2 (S', Q.2) := ⟨⟨gd, H.1.2⟩, H.x.kg K2.g (by omega), st, H.hist.kg K2.g (by omega) (by omega), H.ta.kg K2.g (by omega), H.bu.kg K2.g (by omega), H.ra.kg K2.g (by omega), H.re.kg K2.g (by omega), H.sp.kg K2.g (by omega), H.st.kg K2.g (by omega) (by omega), Nat.le_trans H.num K2.g.1⟩
theorem s_keepQ (H : XR h Q) (hR : ∀ h1, Kg h h1 0 102 → XR h1 (keepQ Q) → R none h1) : Ev G (d + 2) 0 0 M_Hi_keep 0 [.ref 18, .ref 1] [] h R :=
  s_Hi_keep H.hist H.s H.ok fun h1 K hi1 => hR h1 (K.g.wide (by omega) (by omega)) ⟨⟨H.gd, keepA_gd H.1.2.1 H.gd H.1.2.2.2.1, H.1.2.2.1, by show min (qKn Q + 1) 12 ≤ 12; omega, H.1.2.2.2.2⟩, H.x.kg K.g (by omega), H.s.kg K.g (by omega) (by omega), hi1, H.ta.kg K.g (by omega), H.bu.kg K.g (by omega), H.ra.kg K.g (by omega), H.re.kg K.g (by omega), H.sp.kg K.g (by omega), H.st.kg K.g (by omega) (by omega), Nat.le_trans H.num K.g.1⟩
theorem s_X_add {y : Int64} (H : XR h Q) (hR : ∀ h', Kg h h' 0 102 → XR h' (a_add Q y).2 → R (some (.int (a_add Q y).1)) h') : Ev G (d + 3) 0 0 M_X_add 0 [.ref 0, .long y, ev_unk] [] h R := by
  have hz := H.szN
  have g : ∀ {v l : Int32}, a_add Q y = (v, stQ Q l) → R (some (.int v)) (xoS h l (qFk Q) (qFp Q)) := fun e => H.finQ (Kg.refl _ _ _) hR e
  obtain ⟨brf, tgf, cof, fv, t1, t2, t3, t4, e1, e2, -⟩ := H.s
  have u : nI (sN (qS Q)) < 32 ↔ sN (qS Q) < 32 := nI_ltI (b := 32) (by omega) (by omega)
  refine b_X_add_0 H.x t1 H.x H.s ⟨_, H.x⟩ (fun c1 => H.x) (fun c1 => ⟨_, H.x⟩) (fun c1 c2 => H.s) (fun c1 c2 => H.ok) (fun c1 c2 c3 => H.hist.obj) (fun c1 c2 c3 => H.x) (fun c1 c2 => H.x) (fun c1 => g (by unfold a_add; rw [(b2i_e0 c1)]; rfl)) (fun c1 c2 c3 => ?_) (fun c1 c2 c3 => g (by unfold a_add; rw [if_pos (b2i_n0 c1), if_pos (u.mp (c2)), if_neg (c3)])) (fun c1 c2 => g (by unfold a_add; rw [if_pos (b2i_n0 c1), if_neg (fun z => (c2) (u.mpr z))]))
  have gd := H.gd.ap (u.mp c2) (b2i_n0 c1) c3
  have e : a_add Q y = (nI (sN (qS Q)), actQ Q (apS (qS Q) y 0)) := by unfold a_add; rw [if_pos (b2i_n0 c1), if_pos (u.mp c2), if_pos c3]
  rw [e] at hR
  have en : sN (apS (qS Q) y 0) = sN (qS Q) + 1 := by unfold apS; rw [if_pos (u.mp c2)]; rfl
  clear g t1 t2 t3 t4
  refine s_keepQ H fun h1 K1 H => ?_
  obtain ⟨brf, tgf, cof, fv, t1, t2, t3, t4, e1, e2, -⟩ := H.s
  refine b_X_add_61 H.x H.s.obj ?_
  refine s_St_append H.s H.ok (by omega) (t := 0) rfl fun h2 K2 st => ?_
  have H : XR h2 (apS (qS Q) y 0, (keepQ Q).2) := H.store K2 st gd
  obtain ⟨brf, tgf, cof, fv, t1, t2, t3, t4, e1, e2, -⟩ := H.s
  refine b_X_add_70 H.x t1 H.x ?_
  refine H.finQ (l := 0) (K1.trans (K2.g.wide (by omega) (by omega))) hR ?_
  show _ = (nI (sN (apS (qS Q) y 0)) - 1, _)
  rw [en, nI_pred]; rfl
theorem s_X_strike {x : Int32} (H : XR h Q) (hR : ∀ h', Kg h h' 0 102 → XR h' (a_strike Q x).2 → R (some (.int (a_strike Q x).1)) h') : Ev G (d + 3) 0 0 M_X_strike 0 [.ref 0, .int x] [] h R := by
  have hz := H.szN
  have g : ∀ {v l : Int32}, a_strike Q x = (v, stQ Q l) → R (some (.int v)) (xoS h l (qFk Q) (qFp Q)) := fun e => H.finQ (Kg.refl _ _ _) hR e
  refine b_X_strike_0 H.x H.x H.s H.ok ⟨_, H.x⟩ (fun c1 => H.x) (fun c1 => ⟨_, H.x⟩) (fun c1 => H.hist.obj) (fun c1 => g (by unfold a_strike; rw [(b2i_e0 c1)]; rfl)) (fun c1 => ?_)
  have c := b2i_n0 c1
  have vx := vN_lt (by omega) c
  have e : a_strike Q x = (nI (sN (qS Q) - 1), actQ Q (drS (qS Q) (vN x))) := by unfold a_strike; rw [if_pos c]
  rw [e] at hR
  clear g
  have gd := H.gd.dr vx.2
  refine s_keepQ H fun h1 K1 H => ?_
  obtain ⟨brf, tgf, cof, fv, t1, t2, t3, t4, e1, e2, -⟩ := H.s
  refine b_X_strike_25 H.x H.s.obj ?_
  refine s_St_drop H.s H.ok (by omega) vx fun h2 K2 st => ?_
  have H : XR h2 (drS (qS Q) (vN x), (keepQ Q).2) := H.store K2 st gd
  obtain ⟨brf, tgf, cof, fv, t1, t2, t3, t4, e1, e2, -⟩ := H.s
  refine b_X_strike_33 H.x t1 H.x ?_
  exact H.finQ (l := 0) (K1.trans (K2.g.wide (by omega) (by omega))) hR rfl
theorem s_X_swap {x y : Int32} (H : XR h Q) (hR : ∀ h', Kg h h' 0 102 → XR h' (a_swap Q x y).2 → R (some (.int (a_swap Q x y).1)) h') : Ev G (d + 3) 0 0 M_X_swap 0 [.ref 0, .int x, .int y] [] h R := by
  have hz := H.szB
  have g : ∀ {v l : Int32}, a_swap Q x y = (v, stQ Q l) → R (some (.int v)) (xoS h l (qFk Q) (qFp Q)) := fun e => H.finQ (Kg.refl _ _ _) hR e
  refine b_X_swap_0 H.x H.x H.s H.ok ⟨_, H.x⟩ (fun c1 => H.x) (fun c1 => ⟨_, H.x⟩) (fun c1 => H.x) (fun c1 => H.s) (fun c1 => H.ok) (fun c1 => ⟨_, H.x⟩) (fun c1 c2 => H.x) (fun c1 c2 => ⟨_, H.x⟩) (fun c1 c2 c3 => H.x) (fun c1 c2 c3 => ⟨_, H.x⟩) (fun c1 c2 c3 => H.hist.obj) (fun c1 => g (by unfold a_swap; rw [(b2i_e0 c1)]; rfl)) (fun c1 c2 => g (by unfold a_swap; rw [(b2i_n0 c1), (b2i_e0 c2)]; rfl)) (fun c1 c2 c3 => g (by unfold a_swap; rw [(b2i_n0 c1), (b2i_n0 c2)]; simp only [Bool.and_self, if_true, if_pos c3])) (fun c1 c2 c3 => ?_)
  have vx := vN_lt (by omega) (b2i_n0 c1)
  have vy := vN_lt (by omega) (b2i_n0 c2)
  have e : a_swap Q x y = (nI (exN (qS Q) (vN x) (vN y)), actQ Q (exS (qS Q) (vN x) (vN y))) := by unfold a_swap; rw [b2i_n0 c1, b2i_n0 c2]; simp only [Bool.and_self, if_true, if_neg c3]
  rw [e] at hR
  clear g
  have gd := H.gd.ex vx.2 vy.2
  refine s_keepQ H fun h1 K1 H => ?_
  obtain ⟨brf, tgf, cof, fv, t1, t2, t3, t4, e1, e2, -⟩ := H.s
  refine b_X_swap_44 H.x H.s.obj ?_
  refine s_St_exchange H.s H.ok (by omega) ⟨vx.1, by have := vx.2; omega⟩ ⟨vy.1, by have := vy.2; omega⟩ fun h2 K2 st => ?_
  have H : XR h2 (exS (qS Q) (vN x) (vN y), (keepQ Q).2) := H.store K2 st gd
  refine b_X_swap_54 H.x ⟨_, H.x⟩ ?_
  exact H.finQ (l := 0) (K1.trans (K2.g.wide (by omega) (by omega))) hR rfl
theorem s_X_merge {x : Int32} (H : XR h Q) (hR : ∀ h', Kg h h' 0 102 → XR h' (a_merge Q x).2 → R (some (.int (a_merge Q x).1)) h') : Ev G (d + 3) 0 0 M_X_merge 0 [.ref 0, .int x] [] h R := by
  have hz := H.szP
  have o6 := H.ok.2.2.2.2.2.1
  have g : ∀ {v l : Int32}, a_merge Q x = (v, stQ Q l) → R (some (.int v)) (xoS h l (qFk Q) (qFp Q)) := fun e => H.finQ (Kg.refl _ _ _) hR e
  obtain ⟨brf, tgf, cof, fv, t1, t2, t3, t4, e1, e2, -⟩ := H.s
  have p1 : ∀ {x : Int32}, inR x (sP (qS Q)) = true → x + 1 = nI (vN x + 1) ∧ (inR (x + 1) (sP (qS Q)) = decide (vN x + 1 < sP (qS Q))) := fun {x} c => by
    have vx := vN_lt (by omega) c
    have : x + 1 = nI (vN x + 1) := by conv => lhs; rw [vx.1]
                                       exact nI_1 _
    refine ⟨this, ?_⟩
    rw [this, inR_nI (by have := vx.2; omega)]
  have sm : ∀ {x : Int32}, inR x (sP (qS Q)) = true → vN x + 1 < sP (qS Q) → ((24 : Int32) < brf (vN x) + brf (vN x + 1) ↔ ¬ sBr (qS Q) (vN x) + sBr (qS Q) (vN x + 1) ≤ 24) := fun {x} c c2 => by
    rw [e1 _ (by omega), e1 _ c2, nI_add, show (24 : Int32) = nI 24 from rfl, nI_ltI (by omega) (by have := o6 (vN x) (by omega); have := o6 (vN x + 1) c2; omega)]
    omega
  refine b_X_merge_0 H.x t1 t2 H.x H.s H.ok ⟨_, H.x⟩ (fun c1 => H.x) (fun c1 => ⟨_, H.x⟩) (fun c1 => H.x) (fun c1 => H.s) (fun c1 => H.ok) (fun c1 => ⟨_, H.x⟩) (fun c1 c2 => H.x) (fun c1 c2 => ⟨_, H.x⟩) (fun c1 c2 => ixv (b2i_n0 c1) hz (by decide)) (fun c1 c2 => ⟨(p1 (b2i_n0 c1)).1, by have := (b2i_n0 c2); rw [(p1 (b2i_n0 c1)).2, decide_eq_true_iff] at this; omega, by decide⟩) (fun c1 c2 c3 => H.x) (fun c1 c2 c3 => H.hist.obj) (fun c1 => g (by unfold a_merge; rw [(b2i_e0 c1)]; rfl)) (fun c1 c2 => g (by have := (b2i_e0 c2); rw [(p1 (b2i_n0 c1)).2] at this; unfold a_merge; rw [(b2i_n0 c1), this]; rfl)) (fun c1 c2 c3 => g (by have := (b2i_n0 c2); rw [(p1 (b2i_n0 c1)).2] at this; unfold a_merge; rw [(b2i_n0 c1), this]; exact if_neg ((sm (b2i_n0 c1) (of_decide_eq_true this)).mp (c3)))) (fun c1 c2 c3 => ?_)
  have c := b2i_n0 c1
  have vx := vN_lt (by omega) c
  have c2 := b2i_n0 c2
  rw [(p1 c).2] at c2
  have c3 : sBr (qS Q) (vN x) + sBr (qS Q) (vN x + 1) ≤ 24 := Nat.le_of_not_lt fun z => c3 ((sm c (of_decide_eq_true c2)).mpr (by omega))
  have e : a_merge Q x = (nI (sP (qS Q) - 1), actQ Q (joinS (qS Q) (vN x))) := by unfold a_merge; rw [c, c2]; exact if_pos c3
  rw [e] at hR
  clear g t1 t2 t3 t4 p1 sm
  have gd := H.gd.join (of_decide_eq_true c2) c3
  refine s_keepQ H fun h1 K1 H => ?_
  obtain ⟨brf, tgf, cof, fv, t1, t2, t3, t4, e1, e2, -⟩ := H.s
  refine b_X_merge_68 H.x H.s.obj ?_
  refine s_St_joinPart H.s H.ok (by omega) ⟨vx.1, of_decide_eq_true c2⟩ fun h2 K2 st => ?_
  have H : XR h2 (joinS (qS Q) (vN x), (keepQ Q).2) := H.store K2 st gd
  obtain ⟨brf, tgf, cof, fv, t1, t2, t3, t4, e1, e2, -⟩ := H.s
  refine b_X_merge_76 H.x t1 H.x ?_
  exact H.finQ (l := 0) (K1.trans (K2.g.wide (by omega) (by omega))) hR rfl
theorem s_X_split {x w : Int32} (H : XR h Q) (hR : ∀ h', Kg h h' 0 102 → XR h' (a_split Q x w).2 → R (some (.int (a_split Q x w).1)) h') : Ev G (d + 3) 0 0 M_X_split 0 [.ref 0, .int x, .int w] [] h R := by
  have hz := H.szP
  have o6 := H.ok.2.2.2.2.2.1
  have g : ∀ {v l : Int32}, a_split Q x w = (v, stQ Q l) → R (some (.int v)) (xoS h l (qFk Q) (qFp Q)) := fun e => H.finQ (Kg.refl _ _ _) hR e
  obtain ⟨brf, tgf, cof, fv, t1, t2, t3, t4, e1, e2, -⟩ := H.s
  have g2 : ∀ (c1 : ¬ w < 1) (c2 : inR x (sP (qS Q)) = true → w < nI (sBr (qS Q) (vN x))), Ev G (d + 3) 0 0 M_X_split 32 [.ref 0, .int x, .int w] [] h R := by
    intro w1 w2
    have u : nI (sP (qS Q)) < 6 ↔ sP (qS Q) < 6 := nI_ltI (b := 6) (by omega) (by omega)
    refine b_X_split_32 H.x t1 H.x H.s H.ok ⟨_, H.x⟩ (fun c1 => H.x) (fun c1 => ⟨_, H.x⟩) (fun c1 c2 => H.hist.obj) (fun c1 c2 => H.x) (fun c1 => g (by unfold a_split; rw [if_neg w1, (b2i_e0 c1)]; rfl)) (fun c1 c2 => ?_) (fun c1 c2 => g (by unfold a_split; rw [if_neg w1, if_pos (b2i_n0 c1), if_pos (w2 (b2i_n0 c1)), if_neg (fun z => (c2) (u.mpr z))]))
    have c := b2i_n0 c1
    have vx := vN_lt (by omega) c
    obtain ⟨j, hj, rfl⟩ := nI_of (x := w) (fun z => w1 (by rw [Int32.lt_iff_toInt_lt] at z ⊢; rw [show (0 : Int32).toInt = 0 from rfl] at z; rw [show (1 : Int32).toInt = 1 from rfl]; omega))
    have hw : j < sBr (qS Q) (vN x) := (nI_ltI hj (by have := o6 _ vx.2; omega)).mp (w2 c)
    have h24 := o6 _ vx.2
    have e : a_split Q x (nI j) = (nI (sP (qS Q) + 1), actQ Q (cutS (qS Q) (vN x) j)) := by unfold a_split; rw [if_neg w1, if_pos c, if_pos (w2 c), if_pos (u.mp c2), vN_nI (by omega)]
    rw [e] at hR
    have gd := H.gd.cut vx.2 (by have := u.mp c2; omega) (Nat.le_of_lt hw)
    clear g t1 t2 t3 t4
    refine s_keepQ H fun h1 K1 H => ?_
    obtain ⟨brf, tgf, cof, fv, t1, t2, t3, t4, e1, e2, -⟩ := H.s
    refine b_X_split_75 H.x H.s.obj ?_
    refine s_St_cutPart H.s H.ok (by omega) vx (by have := u.mp c2; show sP (qS Q) ≤ 5; omega) ⟨rfl, Nat.le_of_lt hw⟩ fun h2 K2 st => ?_
    have H : XR h2 (cutS (qS Q) (vN x) j, (keepQ Q).2) := H.store K2 st gd
    obtain ⟨brf, tgf, cof, fv, t1, t2, t3, t4, e1, e2, -⟩ := H.s
    refine b_X_split_84 H.x t1 H.x ?_
    exact H.finQ (l := 0) (K1.trans (K2.g.wide (by omega) (by omega))) hR rfl
  refine b_X_split_0 H.x t1 t2 (fun c1 => H.x) (fun c1 => ⟨_, H.x⟩) (fun c1 => H.x) (fun c1 => H.s) (fun c1 => H.ok) (fun c1 => ⟨_, H.x⟩) (fun c1 c2 => ixv (b2i_n0 c2) hz (by decide)) (fun c1 c2 c3 => H.x) (fun c1 => g (by unfold a_split; rw [if_pos c1])) (fun c1 c2 => g2 c1 (fun z => by rw [(b2i_e0 c2)] at z; cases z)) (fun c1 c2 c3 => g2 c1 (fun z => by rw [← e1 _ (vN_lt (by omega) z).2]; exact c3)) (fun c1 c2 c3 => g (by unfold a_split; rw [if_neg c1, if_pos (b2i_n0 c2), if_neg (by rw [← e1 _ (vN_lt (by omega) (b2i_n0 c2)).2]; exact c3)]))
end S28
