/-! the model's reader: the parts of a text -/
theorem b_Mo_theParts_0 {G : ev_G} {d k n : Nat} {h : ev_H} {R : Option Value → ev_H → Prop} 
  (r1 : ∃ fs, hat h 102 (oC 9 fs))
  (k1 : Ev G (d + 2) 0 0 M_Mo_puts 0 [.ref 102, .int (1 : Int32), .long (0 : Int64), ev_unk] [] h (fun r h1 => Ev G (d + 3) k n M_Mo_theParts 8 [.ref 102, .int (0 : Int32)] (r.toList ++ []) h1 R))
  : Ev G (d + 3) k n M_Mo_theParts 0 [.ref 102, ev_unk] [] h R :=
  Ev.go (pc' := 5) (ls' := [.ref 102, .int (0 : Int32)]) (st' := [.long (0 : Int64), .int (1 : Int32), .ref 102]) [.iconst 0, .istore_n 1, .aload_n 0, .iconst 1, .lconst 0] (by decide +kernel) rfl <|
  Ev.cV0 (M' := M_Mo_puts) (as := [.int (1 : Int32), .long (0 : Int64)]) (rest := []) l_Mo_60 M_Mo_puts_ok M_Mo_puts_in M_Mo_puts_se (by decide +kernel) r1 rfl rfl rfl (Nat.le_of_ble_eq_true rfl) (Nat.le_of_ble_eq_true rfl) k1
theorem b_Mo_theParts_8 {G : ev_G} {d k n : Nat} {h : ev_H} {R : Option Value → ev_H → Prop} {x1 : Int32} {v_1 : MG} {L2 : Nat} {T3 : Tk} {dp4 : Int32} {y_5 : Int64} {B6 : Nat → Nat} {f_status_7 : Int32} {f_acts_8 : Int32} {f_marks_9 : Int32} {f_taped_10 : Int32} {f_size_11 : Int32} {f_token_12 : Int32} {f_begin_13 : Int32} {f_end_14 : Int32} {f_faults_15 : Int32} {f_faultPlace_16 : Int32} {f_faultKind_17 : Int32} {f_deep_18 : Int32} {f_value_19 : Int64} {f_broadMany_20 : Int32} {v_21 : MG} {L22 : Nat} {T23 : Tk} {dp24 : Int32} {y_25 : Int64} {k_26 : Nat}
  (a5 : hat (hset h 102 (moC v_1 (pzM L2 (nx B6 L2 T3) dp4 y_5))) 102 (oC 9 [.ref 103, .int f_status_7, .int f_acts_8, .int f_marks_9, .ref 104, .ref 105, .ref 106, .int f_taped_10, .int f_size_11, .int f_token_12, .int f_begin_13, .int f_end_14, .int f_faults_15, .int f_faultPlace_16, .int f_faultKind_17, .int f_deep_18, .long f_value_19, .ref 107, .ref 108, .ref 109, .ref 116, .int f_broadMany_20, .ref 124, .ref 125]))
  (pr1 : hat h 102 (moC v_1 (pzM L2 T3 dp4 y_5)))
  (pr2 : TxM h B6 L2)
  (pr3 : T3.2.2 ≤ L2)
  (r4 : ∃ fs, hat h 102 (oC 9 fs))
  (pr6 : ¬ f_token_12 = (3 : Int32) → hat (hset h 102 (moC v_1 (pzM L2 (nx B6 L2 T3) dp4 y_5))) 102 (moC v_21 (pzM L22 T23 dp24 y_25)))
  (pr7 : ¬ f_token_12 = (3 : Int32) → (2 : Int32) = nI k_26)
  (k1 : f_token_12 = (3 : Int32) → Ev G (d + 3) k n M_Mo_theParts 26 [.ref 102, .int x1] [] (hset h 102 (moC v_1 (pzM L2 (nx B6 L2 T3) dp4 y_5))) R)
  (k2 : ¬ f_token_12 = (3 : Int32) → R (some (.int (0 : Int32))) (hset (hset h 102 (moC v_1 (pzM L2 (nx B6 L2 T3) dp4 y_5))) 102 (bdC v_21 L22 T23 k_26 dp24 y_25)))
  : Ev G (d + 3) k n M_Mo_theParts 8 [.ref 102, .int x1] [] h R :=
  Ev.go (pc' := 9) (ls' := [.ref 102, .int x1]) (st' := [.ref 102]) [.aload_n 0] (by decide +kernel) rfl <|
  Ev.cV0 (M' := M_Mo_ahead) (as := []) (rest := []) l_Mo_151 M_Mo_ahead_ok M_Mo_ahead_in M_Mo_ahead_se (by decide +kernel) r4 rfl rfl rfl (Nat.le_of_ble_eq_true rfl) (Nat.le_of_ble_eq_true rfl) (s_ahT pr1 pr2 pr3 <| show Ev G (d + 3) _ _ M_Mo_theParts 12 [.ref 102, .int x1] [] (hset h 102 (moC v_1 (pzM L2 (nx B6 L2 T3) dp4 y_5))) R from
    Ev.go (pc' := 13) (ls' := [.ref 102, .int x1]) (st' := [.ref 102]) [.aload_n 0] (by decide +kernel) rfl <|
    Ev.getf f_Mo_128 (by decide +kernel) a5 rfl <|
    Ev.go (pc' := 17) (ls' := [.ref 102, .int x1]) (st' := [.int (3 : Int32), .int f_token_12]) [.iconst 3] (by decide +kernel) rfl <|
    Ev.br (i := .if_icmp .eq (9)) (P := f_token_12 = (3 : Int32)) (t := 26) (f := 20) (r := []) (by decide +kernel) rfl (fun c1 =>
      (k1 c1)
    ) (fun c1 =>
      Ev.go (pc' := 22) (ls' := [.ref 102, .int x1]) (st' := [.int (2 : Int32), .ref 102]) [.aload_n 0, .iconst 2] (by decide +kernel) rfl <|
      Ev.cV0 (M' := M_Mo_fails) (as := [.int (2 : Int32)]) (rest := []) l_Mo_161 M_Mo_fails_ok M_Mo_fails_in M_Mo_fails_se (by decide +kernel) ⟨_, a5⟩ rfl rfl rfl (Nat.le_of_ble_eq_true rfl) (Nat.le_of_ble_eq_true rfl) (s_Mo_fails (pr6 c1) (pr7 c1) <| show Ev G (d + 3) _ _ M_Mo_theParts 25 [.ref 102, .int x1] [.int (0 : Int32)] (hset (hset h 102 (moC v_1 (pzM L2 (nx B6 L2 T3) dp4 y_5))) 102 (bdC v_21 L22 T23 k_26 dp24 y_25)) R from
        Ev.ret (r := (some (.int (0 : Int32)))) (Or.inl ⟨_, rfl, by decide +kernel, _, rfl, rfl⟩) (k2 c1)
      )
    )
  )
theorem b_Mo_theParts_26 {G : ev_G} {d k n : Nat} {h : ev_H} {R : Option Value → ev_H → Prop} {x1 : Int32} {f_status_1 : Int32} {f_acts_2 : Int32} {f_marks_3 : Int32} {f_taped_4 : Int32} {f_size_5 : Int32} {f_token_6 : Int32} {f_begin_7 : Int32} {f_end_8 : Int32} {f_faults_9 : Int32} {f_faultPlace_10 : Int32} {f_faultKind_11 : Int32} {f_deep_12 : Int32} {f_value_13 : Int64} {f_broadMany_14 : Int32} {v_15 : MG} {L16 : Nat} {T17 : Tk} {dp18 : Int32} {y_19 : Int64} {B20 : Nat → Nat} {c_21 : Nat} {v_22 : MG} {L23 : Nat} {T24 : Tk} {dp25 : Int32} {y_26 : Int64} {k_27 : Nat} {S28 : AS} {v_29 : MG} {L30 : Nat} {T31 : Tk} {dp32 : Int32} {y_33 : Int64} {k_34 : Nat} {v_35 : MG} {L36 : Nat} {T37 : Tk} {dp38 : Int32} {y_39 : Int64} {B40 : Nat → Nat}
  (a1 : hat h 102 (oC 9 [.ref 103, .int f_status_1, .int f_acts_2, .int f_marks_3, .ref 104, .ref 105, .ref 106, .int f_taped_4, .int f_size_5, .int f_token_6, .int f_begin_7, .int f_end_8, .int f_faults_9, .int f_faultPlace_10, .int f_faultKind_11, .int f_deep_12, .long f_value_13, .ref 107, .ref 108, .ref 109, .ref 116, .int f_broadMany_14, .ref 124, .ref 125]))
  (pr2 : ¬ f_token_6 = (3 : Int32) → hat h 102 (moC v_15 (pzM L16 T17 dp18 y_19)))
  (pr3 : ¬ f_token_6 = (3 : Int32) → TxM h B20 L16)
  (pr4 : ¬ f_token_6 = (3 : Int32) → TkOk B20 L16 T17)
  (pr5 : ¬ f_token_6 = (3 : Int32) → (59 : Int32) = nI c_21 ∧ sgnB c_21 = true)
  (pr6 : ¬ f_token_6 = (3 : Int32) → (b2i (decide (T17.1 = c_21))) = (0 : Int32) → hat h 102 (moC v_22 (pzM L23 T24 dp25 y_26)))
  (pr7 : ¬ f_token_6 = (3 : Int32) → (b2i (decide (T17.1 = c_21))) = (0 : Int32) → (2 : Int32) = nI k_27)
  (pr8 : ¬ f_token_6 = (3 : Int32) → ¬ (b2i (decide (T17.1 = c_21))) = (0 : Int32) → MS h S28)
  (pr9 : ¬ f_token_6 = (3 : Int32) → ¬ (b2i (decide (T17.1 = c_21))) = (0 : Int32) → x1 < (nI (sB S28)) → hat h 102 (moC v_29 (pzM L30 T31 dp32 y_33)))
  (pr10 : ¬ f_token_6 = (3 : Int32) → ¬ (b2i (decide (T17.1 = c_21))) = (0 : Int32) → x1 < (nI (sB S28)) → (4 : Int32) = nI k_34)
  (pr11 : ¬ f_token_6 = (3 : Int32) → ¬ (b2i (decide (T17.1 = c_21))) = (0 : Int32) → ¬ x1 < (nI (sB S28)) → hat h 102 (moC v_35 (pzM L36 T37 dp38 y_39)))
  (pr12 : ¬ f_token_6 = (3 : Int32) → ¬ (b2i (decide (T17.1 = c_21))) = (0 : Int32) → ¬ x1 < (nI (sB S28)) → TxM h B40 L36)
  (pr13 : ¬ f_token_6 = (3 : Int32) → ¬ (b2i (decide (T17.1 = c_21))) = (0 : Int32) → ¬ x1 < (nI (sB S28)) → T37.2.2 ≤ L36)
  (k1 : f_token_6 = (3 : Int32) → Ev G (d + 2) 0 0 M_Mo_isNumberHere 0 [.ref 102, .int (1 : Int32), .int (24 : Int32), ev_unk] [] h (fun r h1 => Ev G (d + 3) k n M_Mo_theParts 41 [.ref 102, .int x1] (r.toList ++ []) h1 R))
  (k2 : ¬ f_token_6 = (3 : Int32) → (b2i (decide (T17.1 = c_21))) = (0 : Int32) → R (some (.int (0 : Int32))) (hset h 102 (bdC v_22 L23 T24 k_27 dp25 y_26)))
  (k3 : ¬ f_token_6 = (3 : Int32) → ¬ (b2i (decide (T17.1 = c_21))) = (0 : Int32) → x1 < (nI (sB S28)) → R (some (.int (0 : Int32))) (hset h 102 (bdC v_29 L30 T31 k_34 dp32 y_33)))
  (k4 : ¬ f_token_6 = (3 : Int32) → ¬ (b2i (decide (T17.1 = c_21))) = (0 : Int32) → ¬ x1 < (nI (sB S28)) → R (some (.int (1 : Int32))) (hset h 102 (moC v_35 (pzM L36 (nx B40 L36 T37) dp38 y_39))))
  : Ev G (d + 3) k n M_Mo_theParts 26 [.ref 102, .int x1] [] h R :=
  Ev.go (pc' := 27) (ls' := [.ref 102, .int x1]) (st' := [.ref 102]) [.aload_n 0] (by decide +kernel) rfl <|
  Ev.getf f_Mo_128 (by decide +kernel) a1 rfl <|
  Ev.go (pc' := 31) (ls' := [.ref 102, .int x1]) (st' := [.int (3 : Int32), .int f_token_6]) [.iconst 3] (by decide +kernel) rfl <|
  Ev.br (i := .if_icmp .ne (85)) (P := f_token_6 = (3 : Int32)) (t := 34) (f := 116) (r := []) (by decide +kernel) rfl (fun c1 =>
    Ev.go (pc' := 38) (ls' := [.ref 102, .int x1]) (st' := [.int (24 : Int32), .int (1 : Int32), .ref 102]) [.aload_n 0, .iconst 1, .bipush (24)] (by decide +kernel) rfl <|
    Ev.cV0 (M' := M_Mo_isNumberHere) (as := [.int (1 : Int32), .int (24 : Int32)]) (rest := []) l_Mo_197 M_Mo_isNumberHere_ok M_Mo_isNumberHere_in M_Mo_isNumberHere_se (by decide +kernel) ⟨_, a1⟩ rfl rfl rfl (Nat.le_of_ble_eq_true rfl) (Nat.le_of_ble_eq_true rfl) (k1 c1)
  ) (fun c1 =>
    Ev.go (pc' := 119) (ls' := [.ref 102, .int x1]) (st' := [.int (59 : Int32), .ref 102]) [.aload_n 0, .bipush (59)] (by decide +kernel) rfl <|
    Ev.cV0 (M' := M_Mo_isSign) (as := [.int (59 : Int32)]) (rest := []) l_Mo_154 M_Mo_isSign_ok M_Mo_isSign_in M_Mo_isSign_se (by decide +kernel) ⟨_, a1⟩ rfl rfl rfl (Nat.le_of_ble_eq_true rfl) (Nat.le_of_ble_eq_true rfl) (s_Mo_isSign (pr2 c1) (pr3 c1) (pr4 c1) (pr5 c1) <| show Ev G (d + 3) _ _ M_Mo_theParts 122 [.ref 102, .int x1] [.int (b2i (decide (T17.1 = c_21)))] h R from
      Ev.br (i := .ifCond .ne (9)) (P := (b2i (decide (T17.1 = c_21))) = (0 : Int32)) (t := 125) (f := 131) (r := []) (by decide +kernel) rfl (fun c2 =>
        Ev.go (pc' := 127) (ls' := [.ref 102, .int x1]) (st' := [.int (2 : Int32), .ref 102]) [.aload_n 0, .iconst 2] (by decide +kernel) rfl <|
        Ev.cV0 (M' := M_Mo_fails) (as := [.int (2 : Int32)]) (rest := []) l_Mo_161 M_Mo_fails_ok M_Mo_fails_in M_Mo_fails_se (by decide +kernel) ⟨_, a1⟩ rfl rfl rfl (Nat.le_of_ble_eq_true rfl) (Nat.le_of_ble_eq_true rfl) (s_Mo_fails (pr6 c1 c2) (pr7 c1 c2) <| show Ev G (d + 3) _ _ M_Mo_theParts 130 [.ref 102, .int x1] [.int (0 : Int32)] (hset h 102 (bdC v_22 L23 T24 k_27 dp25 y_26)) R from
          Ev.ret (r := (some (.int (0 : Int32)))) (Or.inl ⟨_, rfl, by decide +kernel, _, rfl, rfl⟩) (k2 c1 c2)
        )
      ) (fun c2 =>
        Ev.go (pc' := 133) (ls' := [.ref 102, .int x1]) (st' := [.ref 102, .int x1]) [.iload_n 1, .aload_n 0] (by decide +kernel) rfl <|
        Ev.cV0 (M' := M_Mo_bits) (as := []) (rest := [.int x1]) l_Mo_78 M_Mo_bits_ok M_Mo_bits_in M_Mo_bits_se (by decide +kernel) ⟨_, a1⟩ rfl rfl rfl (Nat.le_of_ble_eq_true rfl) (Nat.le_of_ble_eq_true rfl) (s_Mo_bits (pr8 c1 c2) <| show Ev G (d + 3) _ _ M_Mo_theParts 136 [.ref 102, .int x1] [.int (nI (sB S28)), .int x1] h R from
          Ev.br (i := .if_icmp .ge (11)) (P := x1 < (nI (sB S28))) (t := 139) (f := 147) (r := []) (by decide +kernel) rfl (fun c3 =>
            Ev.go (pc' := 141) (ls' := [.ref 102, .int x1]) (st' := [.int (4 : Int32), .ref 102]) [.aload_n 0, .iconst 4] (by decide +kernel) rfl <|
            Ev.cV0 (M' := M_Mo_fails) (as := [.int (4 : Int32)]) (rest := []) l_Mo_161 M_Mo_fails_ok M_Mo_fails_in M_Mo_fails_se (by decide +kernel) ⟨_, a1⟩ rfl rfl rfl (Nat.le_of_ble_eq_true rfl) (Nat.le_of_ble_eq_true rfl) (s_Mo_fails (pr9 c1 c2 c3) (pr10 c1 c2 c3) <| show Ev G (d + 3) _ _ M_Mo_theParts 144 [.ref 102, .int x1] [.int (0 : Int32)] (hset h 102 (bdC v_29 L30 T31 k_34 dp32 y_33)) R from
              Ev.go (pc' := 151) (ls' := [.ref 102, .int x1]) (st' := [.int (0 : Int32)]) [.goto (7)] (by decide +kernel) rfl <|
              Ev.ret (r := (some (.int (0 : Int32)))) (Or.inl ⟨_, rfl, by decide +kernel, _, rfl, rfl⟩) (k3 c1 c2 c3)
            )
          ) (fun c3 =>
            Ev.go (pc' := 148) (ls' := [.ref 102, .int x1]) (st' := [.ref 102]) [.aload_n 0] (by decide +kernel) rfl <|
            Ev.cV0 (M' := M_Mo_takes) (as := []) (rest := []) l_Mo_157 M_Mo_takes_ok M_Mo_takes_in M_Mo_takes_se (by decide +kernel) ⟨_, a1⟩ rfl rfl rfl (Nat.le_of_ble_eq_true rfl) (Nat.le_of_ble_eq_true rfl) (s_Mo_takes (pr11 c1 c2 c3) (pr12 c1 c2 c3) (pr13 c1 c2 c3) <| show Ev G (d + 3) _ _ M_Mo_theParts 151 [.ref 102, .int x1] [.int (1 : Int32)] (hset h 102 (moC v_35 (pzM L36 (nx B40 L36 T37) dp38 y_39))) R from
              Ev.ret (r := (some (.int (1 : Int32)))) (Or.inl ⟨_, rfl, by decide +kernel, _, rfl, rfl⟩) (k4 c1 c2 c3)
            )
          )
        )
      )
    )
  )
theorem b_Mo_theParts_41 {G : ev_G} {d k n : Nat} {h : ev_H} {R : Option Value → ev_H → Prop} {x1 : Int32} {y0 : Int32} {S1 : AS} {v_2 : MG} {L3 : Nat} {T4 : Tk} {dp5 : Int32} {y_6 : Int64} {k_7 : Nat} {f_status_8 : Int32} {f_acts_9 : Int32} {f_marks_10 : Int32} {f_taped_11 : Int32} {f_size_12 : Int32} {f_token_13 : Int32} {f_begin_14 : Int32} {f_end_15 : Int32} {f_faults_16 : Int32} {f_faultPlace_17 : Int32} {f_faultKind_18 : Int32} {f_deep_19 : Int32} {f_value_20 : Int64} {f_broadMany_21 : Int32} {S22 : AS} {v_23 : MG} {L24 : Nat} {T25 : Tk} {dp26 : Int32} {y_27 : Int64} {k_28 : Nat} {S29 : AS}
  (a6 : hat h 102 (oC 9 [.ref 103, .int f_status_8, .int f_acts_9, .int f_marks_10, .ref 104, .ref 105, .ref 106, .int f_taped_11, .int f_size_12, .int f_token_13, .int f_begin_14, .int f_end_15, .int f_faults_16, .int f_faultPlace_17, .int f_faultKind_18, .int f_deep_19, .long f_value_20, .ref 107, .ref 108, .ref 109, .ref 116, .int f_broadMany_21, .ref 124, .ref 125]))
  (pr1 : ¬ y0 = (0 : Int32) → MS h S1)
  (r2 : ¬ y0 = (0 : Int32) → ∃ fs, hat h 102 (oC 9 fs))
  (pr3 : ¬ y0 = (0 : Int32) → (nI (sP S1)) = (6 : Int32) → hat h 102 (moC v_2 (pzM L3 T4 dp5 y_6)))
  (pr4 : ¬ y0 = (0 : Int32) → (nI (sP S1)) = (6 : Int32) → (4 : Int32) = nI k_7)
  (r5 : ¬ y0 = (0 : Int32) → (nI (sP S1)) = (6 : Int32) → ∃ fs, hat h 102 (oC 9 fs))
  (pr7 : ¬ y0 = (0 : Int32) → ¬ (nI (sP S1)) = (6 : Int32) → MS h S22)
  (pr8 : ¬ y0 = (0 : Int32) → ¬ (nI (sP S1)) = (6 : Int32) → (nI (sB S22)).toInt64 < (x1.toInt64 + f_value_20) → hat h 102 (moC v_23 (pzM L24 T25 dp26 y_27)))
  (pr9 : ¬ y0 = (0 : Int32) → ¬ (nI (sP S1)) = (6 : Int32) → (nI (sB S22)).toInt64 < (x1.toInt64 + f_value_20) → (4 : Int32) = nI k_28)
  (pr10 : ¬ y0 = (0 : Int32) → ¬ (nI (sP S1)) = (6 : Int32) → ¬ (nI (sB S22)).toInt64 < (x1.toInt64 + f_value_20) → MS h S29)
  (k1 : y0 = (0 : Int32) → R (some (.int (0 : Int32))) h)
  (k2 : ¬ y0 = (0 : Int32) → (nI (sP S1)) = (6 : Int32) → R (some (.int (0 : Int32))) (hset h 102 (bdC v_2 L3 T4 k_7 dp5 y_6)))
  (k3 : ¬ y0 = (0 : Int32) → ¬ (nI (sP S1)) = (6 : Int32) → (nI (sB S22)).toInt64 < (x1.toInt64 + f_value_20) → R (some (.int (0 : Int32))) (hset h 102 (bdC v_23 L24 T25 k_28 dp26 y_27)))
  (k4 : ¬ y0 = (0 : Int32) → ¬ (nI (sP S1)) = (6 : Int32) → ¬ (nI (sB S22)).toInt64 < (x1.toInt64 + f_value_20) → Ev G (d + 2) 0 0 M_Mo_puts 0 [.ref 102, .int ((4 : Int32) + (nI (sP S29))), .long f_value_20, ev_unk] [] h (fun r h1 => Ev G (d + 3) k n M_Mo_theParts 91 [.ref 102, .int x1] (r.toList ++ []) h1 R))
  : Ev G (d + 3) k n M_Mo_theParts 41 [.ref 102, .int x1] [.int y0] h R :=
  Ev.br (i := .ifCond .ne (5)) (P := y0 = (0 : Int32)) (t := 44) (f := 46) (r := []) (by decide +kernel) rfl (fun c1 =>
    Ev.go (pc' := 45) (ls' := [.ref 102, .int x1]) (st' := [.int (0 : Int32)]) [.iconst 0] (by decide +kernel) rfl <|
    Ev.ret (r := (some (.int (0 : Int32)))) (Or.inl ⟨_, rfl, by decide +kernel, _, rfl, rfl⟩) (k1 c1)
  ) (fun c1 =>
    Ev.go (pc' := 47) (ls' := [.ref 102, .int x1]) (st' := [.ref 102]) [.aload_n 0] (by decide +kernel) rfl <|
    Ev.cV0 (M' := M_Mo_parts) (as := []) (rest := []) l_Mo_75 M_Mo_parts_ok M_Mo_parts_in M_Mo_parts_se (by decide +kernel) (r2 c1) rfl rfl rfl (Nat.le_of_ble_eq_true rfl) (Nat.le_of_ble_eq_true rfl) (s_Mo_parts (pr1 c1) <| show Ev G (d + 3) _ _ M_Mo_theParts 50 [.ref 102, .int x1] [.int (nI (sP S1))] h R from
      Ev.go (pc' := 52) (ls' := [.ref 102, .int x1]) (st' := [.int (6 : Int32), .int (nI (sP S1))]) [.bipush (6)] (by decide +kernel) rfl <|
      Ev.br (i := .if_icmp .eq (19)) (P := (nI (sP S1)) = (6 : Int32)) (t := 71) (f := 55) (r := []) (by decide +kernel) rfl (fun c2 =>
        Ev.go (pc' := 73) (ls' := [.ref 102, .int x1]) (st' := [.int (4 : Int32), .ref 102]) [.aload_n 0, .iconst 4] (by decide +kernel) rfl <|
        Ev.cV0 (M' := M_Mo_fails) (as := [.int (4 : Int32)]) (rest := []) l_Mo_161 M_Mo_fails_ok M_Mo_fails_in M_Mo_fails_se (by decide +kernel) (r5 c1 c2) rfl rfl rfl (Nat.le_of_ble_eq_true rfl) (Nat.le_of_ble_eq_true rfl) (s_Mo_fails (pr3 c1 c2) (pr4 c1 c2) <| show Ev G (d + 3) _ _ M_Mo_theParts 76 [.ref 102, .int x1] [.int (0 : Int32)] (hset h 102 (bdC v_2 L3 T4 k_7 dp5 y_6)) R from
          Ev.ret (r := (some (.int (0 : Int32)))) (Or.inl ⟨_, rfl, by decide +kernel, _, rfl, rfl⟩) (k2 c1 c2)
        )
      ) (fun c2 =>
        Ev.go (pc' := 58) (ls' := [.ref 102, .int x1]) (st' := [.ref 102, .long x1.toInt64]) [.iload_n 1, .i2l, .aload_n 0] (by decide +kernel) rfl <|
        Ev.getf f_Mo_164 (by decide +kernel) a6 rfl <|
        Ev.go (pc' := 63) (ls' := [.ref 102, .int x1]) (st' := [.ref 102, .long (x1.toInt64 + f_value_20)]) [.ladd, .aload_n 0] (by decide +kernel) rfl <|
        Ev.cV0 (M' := M_Mo_bits) (as := []) (rest := [.long (x1.toInt64 + f_value_20)]) l_Mo_78 M_Mo_bits_ok M_Mo_bits_in M_Mo_bits_se (by decide +kernel) ⟨_, a6⟩ rfl rfl rfl (Nat.le_of_ble_eq_true rfl) (Nat.le_of_ble_eq_true rfl) (s_Mo_bits (pr7 c1 c2) <| show Ev G (d + 3) _ _ M_Mo_theParts 66 [.ref 102, .int x1] [.int (nI (sB S22)), .long (x1.toInt64 + f_value_20)] h R from
          Ev.go (pc' := 67) (ls' := [.ref 102, .int x1]) (st' := [.long (nI (sB S22)).toInt64, .long (x1.toInt64 + f_value_20)]) [.i2l] (by decide +kernel) rfl <|
          Ev.brl (c := .le) (o := 9) (P := (nI (sB S22)).toInt64 < (x1.toInt64 + f_value_20)) (t := 71) (f := 77) (t1 := 77) (by decide +kernel) (by decide +kernel) rfl rfl (fun c3 =>
            Ev.go (pc' := 73) (ls' := [.ref 102, .int x1]) (st' := [.int (4 : Int32), .ref 102]) [.aload_n 0, .iconst 4] (by decide +kernel) rfl <|
            Ev.cV0 (M' := M_Mo_fails) (as := [.int (4 : Int32)]) (rest := []) l_Mo_161 M_Mo_fails_ok M_Mo_fails_in M_Mo_fails_se (by decide +kernel) ⟨_, a6⟩ rfl rfl rfl (Nat.le_of_ble_eq_true rfl) (Nat.le_of_ble_eq_true rfl) (s_Mo_fails (pr8 c1 c2 c3) (pr9 c1 c2 c3) <| show Ev G (d + 3) _ _ M_Mo_theParts 76 [.ref 102, .int x1] [.int (0 : Int32)] (hset h 102 (bdC v_23 L24 T25 k_28 dp26 y_27)) R from
              Ev.ret (r := (some (.int (0 : Int32)))) (Or.inl ⟨_, rfl, by decide +kernel, _, rfl, rfl⟩) (k3 c1 c2 c3)
            )
          ) (fun c3 =>
            Ev.go (pc' := 80) (ls' := [.ref 102, .int x1]) (st' := [.ref 102, .int (4 : Int32), .ref 102]) [.aload_n 0, .iconst 4, .aload_n 0] (by decide +kernel) rfl <|
            Ev.cV0 (M' := M_Mo_parts) (as := []) (rest := [.int (4 : Int32), .ref 102]) l_Mo_75 M_Mo_parts_ok M_Mo_parts_in M_Mo_parts_se (by decide +kernel) ⟨_, a6⟩ rfl rfl rfl (Nat.le_of_ble_eq_true rfl) (Nat.le_of_ble_eq_true rfl) (s_Mo_parts (pr10 c1 c2 c3) <| show Ev G (d + 3) _ _ M_Mo_theParts 83 [.ref 102, .int x1] [.int (nI (sP S29)), .int (4 : Int32), .ref 102] h R from
              Ev.go (pc' := 85) (ls' := [.ref 102, .int x1]) (st' := [.ref 102, .int ((4 : Int32) + (nI (sP S29))), .ref 102]) [.iadd, .aload_n 0] (by decide +kernel) rfl <|
              Ev.getf f_Mo_164 (by decide +kernel) a6 rfl <|
              Ev.cV0 (M' := M_Mo_puts) (as := [.int ((4 : Int32) + (nI (sP S29))), .long f_value_20]) (rest := []) l_Mo_60 M_Mo_puts_ok M_Mo_puts_in M_Mo_puts_se (by decide +kernel) ⟨_, a6⟩ rfl rfl rfl (Nat.le_of_ble_eq_true rfl) (Nat.le_of_ble_eq_true rfl) (k4 c1 c2 c3)
            )
          )
        )
      )
    )
  )
theorem b_Mo_theParts_91 {G : ev_G} {d k n : Nat} {h : ev_H} {R : Option Value → ev_H → Prop} {x1 : Int32} {f_status_1 : Int32} {f_acts_2 : Int32} {f_marks_3 : Int32} {f_taped_4 : Int32} {f_size_5 : Int32} {f_token_6 : Int32} {f_begin_7 : Int32} {f_end_8 : Int32} {f_faults_9 : Int32} {f_faultPlace_10 : Int32} {f_faultKind_11 : Int32} {f_deep_12 : Int32} {f_value_13 : Int64} {f_broadMany_14 : Int32} {g15 : Nat → Int64} {v_16 : MG} {L17 : Nat} {T18 : Tk} {dp19 : Int32} {y_20 : Int64} {B21 : Nat → Nat}
  (a1 : hat h 102 (oC 9 [.ref 103, .int f_status_1, .int f_acts_2, .int f_marks_3, .ref 104, .ref 105, .ref 106, .int f_taped_4, .int f_size_5, .int f_token_6, .int f_begin_7, .int f_end_8, .int f_faults_9, .int f_faultPlace_10, .int f_faultKind_11, .int f_deep_12, .long f_value_13, .ref 107, .ref 108, .ref 109, .ref 116, .int f_broadMany_14, .ref 124, .ref 125]))
  (a2 : hat h 103 (aL 9758 g15))
  (pr3 : hat (hset h 103 (aL 9758 (vp_updL g15 1 ((g15 1) + (1 : Int64))))) 102 (moC v_16 (pzM L17 T18 dp19 y_20)))
  (pr4 : TxM (hset h 103 (aL 9758 (vp_updL g15 1 ((g15 1) + (1 : Int64))))) B21 L17)
  (pr5 : T18.2.2 ≤ L17)
  (k1 : Ev G (d + 3) k n M_Mo_theParts 26 [.ref 102, .int (x1 + f_value_13.toInt32)] [] (hset (hset h 103 (aL 9758 (vp_updL g15 1 ((g15 1) + (1 : Int64))))) 102 (moC v_16 (pzM L17 (nx B21 L17 T18) dp19 y_20))) R)
  : Ev G (d + 3) k n M_Mo_theParts 91 [.ref 102, .int x1] [] h R :=
  Ev.go (pc' := 92) (ls' := [.ref 102, .int x1]) (st' := [.ref 102]) [.aload_n 0] (by decide +kernel) rfl <|
  Ev.getf f_Mo_7 (by decide +kernel) a1 rfl <|
  Ev.go (pc' := 97) (ls' := [.ref 102, .int x1]) (st' := [.int (1 : Int32), .ref 103, .int (1 : Int32), .ref 103]) [.iconst 1, .dup2] (by decide +kernel) rfl <|
  Ev.lald (j := 1) (by decide +kernel) a2 ⟨rfl, by decide, by decide⟩ <|
  Ev.go (pc' := 100) (ls' := [.ref 102, .int x1]) (st' := [.long ((g15 1) + (1 : Int64)), .int (1 : Int32), .ref 103]) [.lconst 1, .ladd] (by decide +kernel) rfl <|
  Ev.last (j := 1) (by decide +kernel) a2 ⟨rfl, by decide, by decide⟩ <| show Ev G (d + 3) _ _ M_Mo_theParts 101 [.ref 102, .int x1] [] (hset h 103 (aL 9758 (vp_updL g15 1 ((g15 1) + (1 : Int64))))) R from
  Ev.go (pc' := 103) (ls' := [.ref 102, .int x1]) (st' := [.ref 102, .int x1]) [.iload_n 1, .aload_n 0] (by decide +kernel) rfl <|
  Ev.getf f_Mo_164 (by decide +kernel) (hat_ne a1 (by decide)) rfl <|
  Ev.go (pc' := 110) (ls' := [.ref 102, .int (x1 + f_value_13.toInt32)]) (st' := [.ref 102]) [.l2i, .iadd, .istore_n 1, .aload_n 0] (by decide +kernel) rfl <|
  Ev.cV0 (M' := M_Mo_ahead) (as := []) (rest := []) l_Mo_151 M_Mo_ahead_ok M_Mo_ahead_in M_Mo_ahead_se (by decide +kernel) ⟨_, (hat_ne a1 (by decide))⟩ rfl rfl rfl (Nat.le_of_ble_eq_true rfl) (Nat.le_of_ble_eq_true rfl) (s_ahT pr3 pr4 pr5 <| show Ev G (d + 3) _ _ M_Mo_theParts 113 [.ref 102, .int (x1 + f_value_13.toInt32)] [] (hset (hset h 103 (aL 9758 (vp_updL g15 1 ((g15 1) + (1 : Int64))))) 102 (moC v_16 (pzM L17 (nx B21 L17 T18) dp19 y_20))) R from
    Ev.go (pc' := 26) (ls' := [.ref 102, .int (x1 + f_value_13.toInt32)]) (st' := []) [.goto (-87)] (by decide +kernel) rfl <|
    k1
  )
section S78
variable {G : ev_G} {d : Nat} {h h1 : ev_H} {R : Option Value → ev_H → Prop} {B : Nat → Nat} {L : Nat} {v : MG} {T : Tk} {dp : Int32} {y : Int64} {S : AS} {g g' g0 : Nat → Int64}
theorem pNum_hi {hi : Nat} (hh : hi ≤ 24) : (¬ (pNum B T 1 24).1 = 0 → (pNum B T 1 hi).1 = (pNum B T 1 24).1) ∧ ((pNum B T 1 24).1 = 0 → pNum B T 1 hi = if hi < (pNum B T 1 24).2 then (4, 0) else (0, (pNum B T 1 24).2)) := by
  unfold pNum
  by_cases c1 : T.1 = 48
  · rw [if_pos c1, if_pos c1]
    by_cases c2 : 8 < T.2.2 - T.2.1
    · rw [if_pos c2, if_pos c2]
      exact ⟨fun _ => rfl, fun z => absurd z (by show ¬ 3 = 0; omega)⟩
    · rw [if_neg c2, if_neg c2]
      by_cases c3 : dvN B T.2.1 (T.2.2 - T.2.1) < 1
      · rw [if_pos c3, if_pos c3]
        exact ⟨fun _ => rfl, fun z => absurd z (by show ¬ 4 = 0; omega)⟩
      · rw [if_neg c3, if_neg c3]
        by_cases c4 : 24 < dvN B T.2.1 (T.2.2 - T.2.1)
        · rw [if_pos c4, if_pos (by omega)]
          exact ⟨fun _ => rfl, fun z => absurd z (by show ¬ 4 = 0; omega)⟩
        · rw [if_neg c4]
          exact ⟨fun z => absurd rfl z, fun _ => rfl⟩
  · rw [if_neg c1, if_neg c1]
    exact ⟨fun _ => rfl, fun z => absurd z (by show ¬ 2 = 0; omega)⟩
theorem ptHi_le (k l : Nat) : ptHi k l ≤ 24 := by unfold ptHi; split <;> omega
theorem GZ.part {k x : Nat} {br : Nat → Nat} (Z : GZ g0 g (setP S k br)) (hk : k < 6) (e1 : g' 1 = lN (k + 1)) (e4 : g' (4 + k) = lN x) (eo : ∀ q, q ≠ 1 → q ≠ 4 + k → g' q = g q) (n32 : sN S ≤ 32) : GZ g0 g' (setP S (k + 1) (updN br k x)) := by
  obtain ⟨⟨a0, a1, a2, a3, a4, a5, a6⟩, b, q⟩ := Z
  refine ⟨⟨(eo 0 (by omega) (by omega)).trans a0, e1, (eo 2 (by omega) (by omega)).trans a2, (eo 3 (by omega) (by omega)).trans a3, fun i hi => ?_, fun i hi => ?_, fun i hi => ?_⟩, fun i hi hi2 => ?_, fun k hk => ?_⟩
  · have hi : i < k + 1 := hi
    show g' (0 + 4 + i) = lN (if i = k then x else br i)
    by_cases w : i = k
    · subst w
      rw [if_pos rfl, show 0 + 4 + i = 4 + i by omega]; exact e4
    · rw [if_neg w, eo _ (by omega) (by omega)]
      exact a4 i (by show i < k; omega)
  · have hi : i < sN S := hi
    rw [eo _ (by omega) (by omega), eo _ (by omega) (by omega)]; exact a5 i hi
  · rw [eo _ (by omega) (by omega)]; exact a6 i hi
  · rw [eo _ (by omega) (by omega)]; exact b i hi hi2
  · rw [eo _ (by omega) (by omega)]; exact q k hk
theorem s_theParts (m1 : hat h 102 (moC v (pzM L T dp y))) (m2 : hat h 103 (aL 9758 g)) (X : TxM h B L) (HT : TkOk B L T) (gd : sGd S) (Z : GZ g0 g S) (hR : ∀ h', LoM h h' v L g0 (pParts B L T S) → R (some (.int (b2i (decide ((pParts B L T S).1 = 0))))) h') : Ev G (d + 4) 0 0 M_Mo_theParts 0 [.ref 102, ev_unk] [] h R := by
  have o1 := gd.1.2.1
  have n32 := gd.1.2.2.2.2.1
  unfold pParts at hR
  have LP : ∀ (n k sum l : Nat) (br : Nat → Nat) (T1 : Tk) (h1 : ev_H) (g1 : Nat → Int64) (dp1 : Int32) (y1 : Int64), k + n = 7 → k ≤ 6 → sum + l = sB S → (k = 0 → T1.1 = 48) → Kp h h1 102 104 → hat h1 102 (moC v (pzM L T1 dp1 y1)) → hat h1 103 (aL 9758 g1) → TkOk B L T1 → GZ g0 g1 (setP S k br) → (∀ h', LoM h h' v L g0 (pPEnd B L S (pPtL B L n T1 br k l)) → R (some (.int (b2i (decide ((pPEnd B L S (pPtL B L n T1 br k l)).1 = 0))))) h') → Ev G (d + 4) 0 0 M_Mo_theParts 26 [.ref 102, .int (nI sum)] [] h1 R := by
    intro n
    induction n with
    | zero => intro k sum l br T1 h1 g1 dp1 y1 e1 e2; omega
    | succ n ih =>
      intro k sum l br T1 h1 g1 dp1 y1 hn hk hs h48 K m1 m2 HT Z hr
      have X := X.kg K.g (by omega)
      have n1 := nx_ok HT
      have u3 : nI (kdM T1.1) = 3 ↔ T1.1 = 48 := by rw [show (3 : Int32) = nI 3 from rfl, kd_I (by omega), kd_3]
      have H1 := Z.ms m1 m2
      have us : nI sum < nI (sB S) ↔ sum < sB S := nI_ltI (by omega) (by omega)
      have e : pPtL B L (n + 1) T1 br k l = if k = 0 ∨ T1.1 = 48 then (if (pNum B T1 1 (ptHi k l)).1 = 0 then pPtL B L n (nx B L T1) (updN br k (pNum B T1 1 (ptHi k l)).2) (k + 1) (l - (pNum B T1 1 (ptHi k l)).2) else ((pNum B T1 1 (ptHi k l)).1, T1, br, k, l)) else (0, T1, br, k, l) := rfl
      refine b_Mo_theParts_26 (d := d + 1) (c_21 := 59) (S28 := setP S k br) m1 (fun _ => m1) (fun _ => X) (fun _ => HT) (fun _ => ⟨rfl, by decide⟩) (fun _ _ => m1) (fun _ _ => rfl) (fun _ _ => H1) (fun _ _ _ => m1) (fun _ _ _ => rfl) (fun _ _ _ => m1) (fun _ _ _ => X) (fun _ _ _ => HT.2.2.1) (fun c => ?_) (fun c c2 => ?_) (fun c c2 c3 => ?_) (fun c c2 c3 => ?_)
      · have c := u3.mp c
        rw [if_pos (Or.inr c)] at e
        obtain ⟨f1, f2⟩ := pNum_hi (B := B) (T := T1) (ptHi_le k l)
        refine s_num (d := d + 2) (lo := 1) (hi := 24) m1 X HT ⟨rfl, by omega⟩ ⟨rfl, by omega⟩ (fun c2 => ?_) (fun c2 y2 => ?_)
        · have f2 := f2 c2
          have pf := (pNum_f (B := B) (T := T1) 1 24).2 c2
          generalize (pNum B T1 1 24).2 = x at f2 pf ⊢
          have mB := hat_set m1 (c' := moC v (pzM L T1 dp1 (lN x)))
          have m2B := hat_ne (b := 102) (c' := moC v (pzM L T1 dp1 (lN x))) m2 (by omega)
          have KB := K.set (k := 102) (moC v (pzM L T1 dp1 (lN x))) (by omega) (by omega)
          have XB := X.set (c := moC v (pzM L T1 dp1 (lN x)))
          generalize hset h1 102 (moC v (pzM L T1 dp1 (lN x))) = h2 at mB m2B KB XB
          have HB := Z.ms mB m2B
          have over : ptHi k l < x → R (some (.int (0 : Int32))) (hset h2 102 (bdC v L T1 4 dp1 (lN x))) := by
            intro lt
            rw [if_pos lt] at f2
            rw [f2] at e
            have e : pPtL B L (n + 1) T1 br k l = (4, T1, br, k, l) := e
            rw [e] at hr
            have e2 : pPEnd B L S (4, T1, br, k, l) = (4, T1, S) := by unfold pPEnd; rw [if_neg (by show ¬ 4 = 0; omega)]
            rw [e2] at hr
            exact hr _ (LoM.bad (by show ¬ 4 = 0; omega) ⟨KB.set _ (by omega) (by omega), ⟨_, _, hat_set mB⟩, _, hat_ne m2B (by omega), Z.2.2⟩)
          have u6 : nI (sP (setP S k br)) = 6 ↔ k = 6 := nI_eq (b := 6) (show k < _ by omega) (by omega)
          have uv : (nI (sB (setP S k br))).toInt64 < (nI sum).toInt64 + (pzM L T1 dp1 (lN x)).2.2.2.2.2.2 ↔ sB S < sum + x := by
            show (nI (sB S)).toInt64 < (nI sum).toInt64 + lN x ↔ _
            have ea : lN sum + lN x = lN (sum + x) := (Int64.ofNat_add sum x).symm
            rw [nI_l (by omega), nI_l (by omega), ea, Int64.lt_iff_toInt_lt, lN_toInt (by omega), lN_toInt (by omega)]; omega
          refine b_Mo_theParts_41 (d := d + 1) (S1 := setP S k br) (S22 := setP S k br) (S29 := setP S k br) mB (fun _ => HB) (fun _ => ⟨_, mB⟩) (fun _ _ => mB) (fun _ _ => rfl) (fun _ _ => ⟨_, mB⟩) (fun _ _ => HB) (fun _ _ _ => mB) (fun _ _ _ => rfl) (fun _ _ _ => HB) (fun k => absurd k (by decide)) (fun _ q => ?_) (fun _ q q2 => ?_) (fun _ q q2 => ?_)
          · have q := u6.mp q
            refine over ?_
            unfold ptHi; rw [if_neg (by omega)]; omega
          · have q := uv.mp q2
            refine over ?_
            unfold ptHi; split <;> omega
          · have q : ¬ k = 6 := fun z => q (u6.mpr z)
            have q2 : ¬ sB S < sum + x := fun z => q2 (uv.mpr z)
            have nlt : ¬ ptHi k l < x := by unfold ptHi; rw [if_pos (by omega)]; omega
            rw [if_neg nlt] at f2
            rw [f2] at e
            have e : pPtL B L (n + 1) T1 br k l = pPtL B L n (nx B L T1) (updN br k x) (k + 1) (l - x) := e
            rw [e] at hr
            refine s_Mo_puts (j := 4 + k) mB m2B ⟨nI_add 4 k, by omega, by omega⟩ ?_
            have m2C := hat_set m2B (c' := aL 9758 (vp_updL g1 (4 + k) (lN x)))
            have mC : hat (hset h2 103 (aL 9758 (vp_updL g1 (4 + k) (lN x)))) 102 (moC v (pzM L T1 dp1 (lN x))) := hat_ne mB (by omega)
            have mC2 : hat (hset (hset h2 103 (aL 9758 (vp_updL g1 (4 + k) (lN x)))) 103 (aL 9758 (vp_updL (vp_updL g1 (4 + k) (lN x)) 1 (vp_updL g1 (4 + k) (lN x) 1 + 1)))) 102 (moC v (pzM L T1 dp1 (lN x))) := hat_ne mC (by omega)
            refine b_Mo_theParts_91 (d := d + 1) mC m2C mC2 XB.set3.set3 HT.2.2.1 ?_
            have g1k : vp_updL g1 (4 + k) (lN x) 1 = lN k := (if_neg (by omega)).trans Z.1.2.1
            rw [g1k, lN_1]
            have ex : (pzM L T1 dp1 (lN x)).2.2.2.2.2.2.toInt32 = nI x := lN_i x
            rw [ex, nI_add, hset_hset]
            refine ih (k + 1) (sum + x) (l - x) _ (nx B L T1) _ _ dp1 (lN x) (by omega) (by omega) (by omega) (fun z => by omega) ((KB.set (k := 103) _ (by omega) (by omega)).set (k := 102) _ (by omega) (by omega)) (hat_set (hat_ne mB (by omega))) (hat_ne (hat_set m2B) (by omega)) n1 (Z.part (by omega) rfl ?_ (fun q' z1 z4 => ?_) n32) hr
            · show (if 4 + k = 1 then _ else if 4 + k = 4 + k then _ else _) = _
              rw [if_neg (by omega), if_pos rfl]
            · show (if q' = 1 then _ else if q' = 4 + k then _ else _) = _
              rw [if_neg z1, if_neg z4]
        · have f1 := f1 c2
          rw [if_neg (by rw [f1]; exact c2), f1] at e
          rw [e] at hr
          have e2 : pPEnd B L S ((pNum B T1 1 24).1, T1, br, k, l) = ((pNum B T1 1 24).1, T1, S) := by unfold pPEnd; rw [if_neg c2]
          rw [e2] at hr
          have mB := hat_set m1 (c' := bdC v L T1 (pNum B T1 1 24).1 dp1 y2)
          have r := hr _ (LoM.bad c2 ⟨K.set _ (by omega) (by omega), ⟨_, _, mB⟩, _, hat_ne m2 (by omega), Z.2.2⟩)
          rw [show (pNum B T1 1 24).1 = ((pNum B T1 1 24).1, T1, S).1 from rfl] at c2
          rw [decide_eq_false c2] at r
          exact b_Mo_theParts_41 (d := d + 1) (S1 := S) (v_2 := v) (L3 := L) (T4 := T1) (dp5 := dp1) (y_6 := y1) (k_7 := 0) (S22 := S) (v_23 := v) (L24 := L) (T25 := T1) (dp26 := dp1) (y_27 := y1) (k_28 := 0) (S29 := S) mB (fun k => absurd rfl k) (fun k => absurd rfl k) (fun k => absurd rfl k) (fun k => absurd rfl k) (fun k => absurd rfl k) (fun k => absurd rfl k) (fun k => absurd rfl k) (fun k => absurd rfl k) (fun k => absurd rfl k) (fun _ => r) (fun k => absurd rfl k) (fun k => absurd rfl k) (fun k => absurd rfl k)
      · have c : ¬ T1.1 = 48 := fun z => c (u3.mpr z)
        have c2 := of_decide_eq_false (b2i_e0 c2)
        rw [if_neg (fun z => z.elim (fun z => c (h48 z)) c)] at e
        rw [e] at hr
        have e2 : pPEnd B L S (0, T1, br, k, l) = (2, T1, setP S k br) := by
          unfold pPEnd pSign
          rw [if_pos rfl, if_neg (fun z => c2 z.1), if_neg c2]
        rw [e2] at hr
        exact hr _ (LoM.bad (by show ¬ 2 = 0; omega) ⟨K.set _ (by omega) (by omega), ⟨_, _, hat_set m1⟩, _, hat_ne m2 (by omega), Z.2.2⟩)
      · have c : ¬ T1.1 = 48 := fun z => c (u3.mpr z)
        have c2 := of_decide_eq_true (b2i_n0 c2)
        have c3 := us.mp c3
        rw [if_neg (fun z => z.elim (fun z => c (h48 z)) c)] at e
        rw [e] at hr
        have e2 : pPEnd B L S (0, T1, br, k, l) = (4, T1, S) := by
          unfold pPEnd
          rw [if_pos rfl, if_pos ⟨c2, by show 0 < l; omega⟩]
        rw [e2] at hr
        exact hr _ (LoM.bad (by show ¬ 4 = 0; omega) ⟨K.set _ (by omega) (by omega), ⟨_, _, hat_set m1⟩, _, hat_ne m2 (by omega), Z.2.2⟩)
      · have c : ¬ T1.1 = 48 := fun z => c (u3.mpr z)
        have c2 := of_decide_eq_true (b2i_n0 c2)
        have c3 : ¬ sum < sB S := fun z => c3 (us.mpr z)
        rw [if_neg (fun z => z.elim (fun z => c (h48 z)) c)] at e
        rw [e] at hr
        have e2 : pPEnd B L S (0, T1, br, k, l) = (0, nx B L T1, setP S k br) := by
          unfold pPEnd pSign
          rw [if_pos rfl, if_neg (fun z => by have z2 : 0 < l := z.2; omega), if_pos c2]
        rw [e2] at hr
        exact hr _ ⟨fun _ => ⟨K.set _ (by omega) (by omega), ⟨_, _, hat_set m1⟩, _, hat_ne m2 (by omega), Z⟩, fun z => absurd rfl z⟩
  have n1 := nx_ok HT
  refine b_Mo_theParts_0 (d := d + 1) ⟨_, m1⟩ ?_
  refine s_Mo_puts (j := 1) m1 m2 (ixn (j := 1) (by omega) (by omega)) ?_
  have m2A := hat_set m2 (c' := aL 9758 (vp_updL g 1 0))
  have mA : hat (hset h 103 (aL 9758 (vp_updL g 1 0))) 102 (moC v (pzM L T dp y)) := hat_ne m1 (by omega)
  have KA : Kp h (hset h 103 (aL 9758 (vp_updL g 1 0))) 102 104 := (Kp.refl h 102 104).set _ (by omega) (by omega)
  have XA := X.set3 (c := aL 9758 (vp_updL g 1 0))
  have ZA : GZ g0 (vp_updL g 1 0) (setP S 0 (sBr S)) := by
    obtain ⟨⟨a0, a1, a2, a3, a4, a5, a6⟩, b, q⟩ := Z
    have o : ∀ k, k ≠ 1 → vp_updL g 1 0 k = g k := fun k z => if_neg z
    refine ⟨⟨(o 0 (by omega)).trans a0, rfl, (o 2 (by omega)).trans a2, (o 3 (by omega)).trans a3, fun i hi => absurd hi (Nat.not_lt_zero i), fun i hi => ?_, fun i hi => ?_⟩, fun i hi hi2 => ?_, fun k hk => ?_⟩
    · rw [o _ (by omega), o _ (by omega)]; exact a5 i hi
    · rw [o _ (by omega)]; exact a6 i hi
    · rw [o _ (by omega)]; exact b i hi hi2
    · rw [o _ (by omega)]; exact q k hk
  show Ev G (d + 4) 0 0 M_Mo_theParts 8 [.ref 102, .int (0 : Int32)] [] (hset h 103 (aL 9758 (vp_updL g 1 0))) R
  generalize hset h 103 (aL 9758 (vp_updL g 1 0)) = h2 at m2A mA KA XA
  have mB := hat_set mA (c' := moC v (pzM L (nx B L T) dp y))
  have u3 : nI (kdM (nx B L T).1) = 3 ↔ (nx B L T).1 = 48 := by rw [show (3 : Int32) = nI 3 from rfl, kd_I (by omega), kd_3]
  refine b_Mo_theParts_8 (d := d + 1) mB mA XA HT.2.2.1 ⟨_, mA⟩ (fun _ => mB) (fun _ => rfl) (fun c => ?_) (fun c => ?_)
  · exact LP 7 0 0 (sB S) (sBr S) (nx B L T) _ _ dp y rfl (by omega) (by omega) (fun _ => u3.mp c) (KA.set _ (by omega) (by omega)) mB (hat_ne m2A (by omega)) n1 ZA hR
  · have c : ¬ (nx B L T).1 = 48 := fun z => c (u3.mpr z)
    have e0 : pNum B (nx B L T) 1 (ptHi 0 (sB S)) = (2, 0) := by unfold pNum; rw [if_neg c]
    have e1 : pPtL B L 7 (nx B L T) (sBr S) 0 (sB S) = (2, nx B L T, sBr S, 0, sB S) := by
      show (if 0 = 0 ∨ (nx B L T).1 = 48 then (if (pNum B (nx B L T) 1 (ptHi 0 (sB S))).1 = 0 then _ else ((pNum B (nx B L T) 1 (ptHi 0 (sB S))).1, nx B L T, sBr S, 0, sB S)) else _) = _
      rw [if_pos (Or.inl rfl), e0, if_neg (by show ¬ 2 = 0; omega)]
    have e2 : pPEnd B L S (pPtL B L 7 (nx B L T) (sBr S) 0 (sB S)) = (2, nx B L T, S) := by rw [e1]; unfold pPEnd; rw [if_neg (by show ¬ 2 = 0; omega)]
    rw [e2] at hR
    rw [hset_hset]
    exact hR _ (LoM.bad (by show ¬ 2 = 0; omega) ⟨KA.set _ (by omega) (by omega), ⟨_, _, hat_set mA⟩, _, hat_ne m2A (by omega), ZA.2.2⟩)
end S78
