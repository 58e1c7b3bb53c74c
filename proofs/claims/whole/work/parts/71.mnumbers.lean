/-! the model's reader: what is taken, numbers, binaries, depth -/
theorem b_Mo_takes_0 {G : ev_G} {d k n : Nat} {h : ev_H} {R : Option Value → ev_H → Prop} {v_1 : MG} {L2 : Nat} {T3 : Tk} {dp4 : Int32} {y_5 : Int64} {B6 : Nat → Nat}
  (pr1 : hat h 102 (moC v_1 (pzM L2 T3 dp4 y_5)))
  (pr2 : TxM h B6 L2)
  (pr3 : T3.2.2 ≤ L2)
  (r4 : ∃ fs, hat h 102 (oC 9 fs))
  (k1 : R (some (.int (1 : Int32))) (hset h 102 (moC v_1 (pzM L2 (nx B6 L2 T3) dp4 y_5))))
  : Ev G (d + 2) k n M_Mo_takes 0 [.ref 102] [] h R :=
  Ev.go (pc' := 1) (ls' := [.ref 102]) (st' := [.ref 102]) [.aload_n 0] (by decide +kernel) rfl <|
  Ev.cV0 (M' := M_Mo_ahead) (as := []) (rest := []) l_Mo_151 M_Mo_ahead_ok M_Mo_ahead_in M_Mo_ahead_se (by decide +kernel) r4 rfl rfl rfl (Nat.le_of_ble_eq_true rfl) (Nat.le_of_ble_eq_true rfl) (s_ahT pr1 pr2 pr3 <| show Ev G (d + 2) _ _ M_Mo_takes 4 [.ref 102] [] (hset h 102 (moC v_1 (pzM L2 (nx B6 L2 T3) dp4 y_5))) R from
    Ev.go (pc' := 5) (ls' := [.ref 102]) (st' := [.int (1 : Int32)]) [.iconst 1] (by decide +kernel) rfl <|
    Ev.ret (r := (some (.int (1 : Int32)))) (Or.inl ⟨_, rfl, by decide +kernel, _, rfl, rfl⟩) k1
  )
section S71
variable {G : ev_G} {d : Nat} {h : ev_H} {R : Option Value → ev_H → Prop} {B : Nat → Nat} {L : Nat} {v : MG} {T : Tk} {dp : Int32} {y : Int64}
theorem s_Mo_takes (m1 : hat h 102 (moC v (pzM L T dp y))) (X : TxM h B L) (he : T.2.2 ≤ L) (hR : R (some (.int (1 : Int32))) (hset h 102 (moC v (pzM L (nx B L T) dp y)))) : Ev G (d + 2) 0 0 M_Mo_takes 0 [.ref 102] [] h R := b_Mo_takes_0 m1 X he ⟨_, m1⟩ hR
end S71
theorem b_Mo_takesSign_0 {G : ev_G} {d k n : Nat} {h : ev_H} {R : Option Value → ev_H → Prop} {x1 : Int32} {v_1 : MG} {L2 : Nat} {T3 : Tk} {dp4 : Int32} {y_5 : Int64} {B6 : Nat → Nat} {c_7 : Nat} {v_8 : MG} {L9 : Nat} {T10 : Tk} {dp11 : Int32} {y_12 : Int64} {k_13 : Nat} {v_14 : MG} {L15 : Nat} {T16 : Tk} {dp17 : Int32} {y_18 : Int64} {B19 : Nat → Nat}
  (pr1 : hat h 102 (moC v_1 (pzM L2 T3 dp4 y_5)))
  (pr2 : TxM h B6 L2)
  (pr3 : TkOk B6 L2 T3)
  (pr4 : x1 = nI c_7 ∧ sgnB c_7 = true)
  (r5 : ∃ fs, hat h 102 (oC 9 fs))
  (pr6 : (b2i (decide (T3.1 = c_7))) = (0 : Int32) → hat h 102 (moC v_8 (pzM L9 T10 dp11 y_12)))
  (pr7 : (b2i (decide (T3.1 = c_7))) = (0 : Int32) → (2 : Int32) = nI k_13)
  (r8 : (b2i (decide (T3.1 = c_7))) = (0 : Int32) → ∃ fs, hat h 102 (oC 9 fs))
  (pr9 : ¬ (b2i (decide (T3.1 = c_7))) = (0 : Int32) → hat h 102 (moC v_14 (pzM L15 T16 dp17 y_18)))
  (pr10 : ¬ (b2i (decide (T3.1 = c_7))) = (0 : Int32) → TxM h B19 L15)
  (pr11 : ¬ (b2i (decide (T3.1 = c_7))) = (0 : Int32) → T16.2.2 ≤ L15)
  (r12 : ¬ (b2i (decide (T3.1 = c_7))) = (0 : Int32) → ∃ fs, hat h 102 (oC 9 fs))
  (k1 : (b2i (decide (T3.1 = c_7))) = (0 : Int32) → R (some (.int (0 : Int32))) (hset h 102 (bdC v_8 L9 T10 k_13 dp11 y_12)))
  (k2 : ¬ (b2i (decide (T3.1 = c_7))) = (0 : Int32) → R (some (.int (1 : Int32))) (hset h 102 (moC v_14 (pzM L15 (nx B19 L15 T16) dp17 y_18))))
  : Ev G (d + 3) k n M_Mo_takesSign 0 [.ref 102, .int x1] [] h R :=
  Ev.go (pc' := 2) (ls' := [.ref 102, .int x1]) (st' := [.int x1, .ref 102]) [.aload_n 0, .iload_n 1] (by decide +kernel) rfl <|
  Ev.cV0 (M' := M_Mo_isSign) (as := [.int x1]) (rest := []) l_Mo_154 M_Mo_isSign_ok M_Mo_isSign_in M_Mo_isSign_se (by decide +kernel) r5 rfl rfl rfl (Nat.le_of_ble_eq_true rfl) (Nat.le_of_ble_eq_true rfl) (s_Mo_isSign pr1 pr2 pr3 pr4 <| show Ev G (d + 3) _ _ M_Mo_takesSign 5 [.ref 102, .int x1] [.int (b2i (decide (T3.1 = c_7)))] h R from
    Ev.br (i := .ifCond .eq (10)) (P := (b2i (decide (T3.1 = c_7))) = (0 : Int32)) (t := 15) (f := 8) (r := []) (by decide +kernel) rfl (fun c1 =>
      Ev.go (pc' := 17) (ls' := [.ref 102, .int x1]) (st' := [.int (2 : Int32), .ref 102]) [.aload_n 0, .iconst 2] (by decide +kernel) rfl <|
      Ev.cV0 (M' := M_Mo_fails) (as := [.int (2 : Int32)]) (rest := []) l_Mo_161 M_Mo_fails_ok M_Mo_fails_in M_Mo_fails_se (by decide +kernel) (r8 c1) rfl rfl rfl (Nat.le_of_ble_eq_true rfl) (Nat.le_of_ble_eq_true rfl) (s_Mo_fails (pr6 c1) (pr7 c1) <| show Ev G (d + 3) _ _ M_Mo_takesSign 20 [.ref 102, .int x1] [.int (0 : Int32)] (hset h 102 (bdC v_8 L9 T10 k_13 dp11 y_12)) R from
        Ev.ret (r := (some (.int (0 : Int32)))) (Or.inl ⟨_, rfl, by decide +kernel, _, rfl, rfl⟩) (k1 c1)
      )
    ) (fun c1 =>
      Ev.go (pc' := 9) (ls' := [.ref 102, .int x1]) (st' := [.ref 102]) [.aload_n 0] (by decide +kernel) rfl <|
      Ev.cV0 (M' := M_Mo_takes) (as := []) (rest := []) l_Mo_157 M_Mo_takes_ok M_Mo_takes_in M_Mo_takes_se (by decide +kernel) (r12 c1) rfl rfl rfl (Nat.le_of_ble_eq_true rfl) (Nat.le_of_ble_eq_true rfl) (s_Mo_takes (pr9 c1) (pr10 c1) (pr11 c1) <| show Ev G (d + 3) _ _ M_Mo_takesSign 12 [.ref 102, .int x1] [.int (1 : Int32)] (hset h 102 (moC v_14 (pzM L15 (nx B19 L15 T16) dp17 y_18))) R from
        Ev.go (pc' := 20) (ls' := [.ref 102, .int x1]) (st' := [.int (1 : Int32)]) [.goto (8)] (by decide +kernel) rfl <|
        Ev.ret (r := (some (.int (1 : Int32)))) (Or.inl ⟨_, rfl, by decide +kernel, _, rfl, rfl⟩) (k2 c1)
      )
    )
  )
theorem b_Mo_isNumberHere_0 {G : ev_G} {d k n : Nat} {h : ev_H} {R : Option Value → ev_H → Prop} {x1 : Int32} {x2 : Int32} {f_status_1 : Int32} {f_acts_2 : Int32} {f_marks_3 : Int32} {f_taped_4 : Int32} {f_size_5 : Int32} {f_token_6 : Int32} {f_begin_7 : Int32} {f_end_8 : Int32} {f_faults_9 : Int32} {f_faultPlace_10 : Int32} {f_faultKind_11 : Int32} {f_deep_12 : Int32} {f_value_13 : Int64} {f_broadMany_14 : Int32} {v_15 : MG} {L16 : Nat} {T17 : Tk} {dp18 : Int32} {y_19 : Int64} {k_20 : Nat} {v_21 : MG} {L22 : Nat} {T23 : Tk} {dp24 : Int32} {y_25 : Int64} {k_26 : Nat}
  (a1 : hat h 102 (oC 9 [.ref 103, .int f_status_1, .int f_acts_2, .int f_marks_3, .ref 104, .ref 105, .ref 106, .int f_taped_4, .int f_size_5, .int f_token_6, .int f_begin_7, .int f_end_8, .int f_faults_9, .int f_faultPlace_10, .int f_faultKind_11, .int f_deep_12, .long f_value_13, .ref 107, .ref 108, .ref 109, .ref 116, .int f_broadMany_14, .ref 124, .ref 125]))
  (pr2 : f_token_6 = (3 : Int32) → (8 : Int32) < (f_end_8 - f_begin_7) → hat h 102 (moC v_15 (pzM L16 T17 dp18 y_19)))
  (pr3 : f_token_6 = (3 : Int32) → (8 : Int32) < (f_end_8 - f_begin_7) → (3 : Int32) = nI k_20)
  (pr4 : ¬ f_token_6 = (3 : Int32) → hat h 102 (moC v_21 (pzM L22 T23 dp24 y_25)))
  (pr5 : ¬ f_token_6 = (3 : Int32) → (2 : Int32) = nI k_26)
  (k1 : f_token_6 = (3 : Int32) → (8 : Int32) < (f_end_8 - f_begin_7) → R (some (.int (0 : Int32))) (hset h 102 (bdC v_15 L16 T17 k_20 dp18 y_19)))
  (k2 : f_token_6 = (3 : Int32) → ¬ (8 : Int32) < (f_end_8 - f_begin_7) → Ev G (d + 1) k n M_Mo_isNumberHere 44 [.ref 102, .int x1, .int x2, .int f_begin_7] [] (hset h 102 (oC 9 [.ref 103, .int f_status_1, .int f_acts_2, .int f_marks_3, .ref 104, .ref 105, .ref 106, .int f_taped_4, .int f_size_5, .int f_token_6, .int f_begin_7, .int f_end_8, .int f_faults_9, .int f_faultPlace_10, .int f_faultKind_11, .int f_deep_12, .long (0 : Int64), .ref 107, .ref 108, .ref 109, .ref 116, .int f_broadMany_14, .ref 124, .ref 125])) R)
  (k3 : ¬ f_token_6 = (3 : Int32) → R (some (.int (0 : Int32))) (hset h 102 (bdC v_21 L22 T23 k_26 dp24 y_25)))
  : Ev G (d + 1) k n M_Mo_isNumberHere 0 [.ref 102, .int x1, .int x2, ev_unk] [] h R :=
  Ev.go (pc' := 1) (ls' := [.ref 102, .int x1, .int x2, ev_unk]) (st' := [.ref 102]) [.aload_n 0] (by decide +kernel) rfl <|
  Ev.getf f_Mo_128 (by decide +kernel) a1 rfl <|
  Ev.go (pc' := 5) (ls' := [.ref 102, .int x1, .int x2, ev_unk]) (st' := [.int (3 : Int32), .int f_token_6]) [.iconst 3] (by decide +kernel) rfl <|
  Ev.br (i := .if_icmp .eq (9)) (P := f_token_6 = (3 : Int32)) (t := 14) (f := 8) (r := []) (by decide +kernel) rfl (fun c1 =>
    Ev.go (pc' := 15) (ls' := [.ref 102, .int x1, .int x2, ev_unk]) (st' := [.ref 102]) [.aload_n 0] (by decide +kernel) rfl <|
    Ev.getf f_Mo_119 (by decide +kernel) a1 rfl <|
    Ev.go (pc' := 19) (ls' := [.ref 102, .int x1, .int x2, ev_unk]) (st' := [.ref 102, .int f_end_8]) [.aload_n 0] (by decide +kernel) rfl <|
    Ev.getf f_Mo_125 (by decide +kernel) a1 rfl <|
    Ev.go (pc' := 25) (ls' := [.ref 102, .int x1, .int x2, ev_unk]) (st' := [.int (8 : Int32), .int (f_end_8 - f_begin_7)]) [.isub, .bipush (8)] (by decide +kernel) rfl <|
    Ev.br (i := .if_icmp .le (9)) (P := (8 : Int32) < (f_end_8 - f_begin_7)) (t := 28) (f := 34) (r := []) (by decide +kernel) rfl (fun c2 =>
      Ev.go (pc' := 30) (ls' := [.ref 102, .int x1, .int x2, ev_unk]) (st' := [.int (3 : Int32), .ref 102]) [.aload_n 0, .iconst 3] (by decide +kernel) rfl <|
      Ev.cV0 (M' := M_Mo_fails) (as := [.int (3 : Int32)]) (rest := []) l_Mo_161 M_Mo_fails_ok M_Mo_fails_in M_Mo_fails_se (by decide +kernel) ⟨_, a1⟩ rfl rfl rfl (Nat.le_of_ble_eq_true rfl) (Nat.le_of_ble_eq_true rfl) (s_Mo_fails (pr2 c1 c2) (pr3 c1 c2) <| show Ev G (d + 1) _ _ M_Mo_isNumberHere 33 [.ref 102, .int x1, .int x2, ev_unk] [.int (0 : Int32)] (hset h 102 (bdC v_15 L16 T17 k_20 dp18 y_19)) R from
        Ev.ret (r := (some (.int (0 : Int32)))) (Or.inl ⟨_, rfl, by decide +kernel, _, rfl, rfl⟩) (k1 c1 c2)
      )
    ) (fun c2 =>
      Ev.go (pc' := 36) (ls' := [.ref 102, .int x1, .int x2, ev_unk]) (st' := [.long (0 : Int64), .ref 102]) [.aload_n 0, .lconst 0] (by decide +kernel) rfl <|
      Ev.putf f_Mo_164 (by decide +kernel) a1 (Nat.le_of_ble_eq_true rfl) rfl (fun q => nomatch q) <| show Ev G (d + 1) _ _ M_Mo_isNumberHere 39 [.ref 102, .int x1, .int x2, ev_unk] [] (hset h 102 (oC 9 [.ref 103, .int f_status_1, .int f_acts_2, .int f_marks_3, .ref 104, .ref 105, .ref 106, .int f_taped_4, .int f_size_5, .int f_token_6, .int f_begin_7, .int f_end_8, .int f_faults_9, .int f_faultPlace_10, .int f_faultKind_11, .int f_deep_12, .long (0 : Int64), .ref 107, .ref 108, .ref 109, .ref 116, .int f_broadMany_14, .ref 124, .ref 125])) R from
      Ev.go (pc' := 40) (ls' := [.ref 102, .int x1, .int x2, ev_unk]) (st' := [.ref 102]) [.aload_n 0] (by decide +kernel) rfl <|
      Ev.getf f_Mo_125 (by decide +kernel) (hat_set a1) rfl <|
      Ev.go (pc' := 44) (ls' := [.ref 102, .int x1, .int x2, .int f_begin_7]) (st' := []) [.istore_n 3] (by decide +kernel) rfl <|
      (k2 c1 c2)
    )
  ) (fun c1 =>
    Ev.go (pc' := 10) (ls' := [.ref 102, .int x1, .int x2, ev_unk]) (st' := [.int (2 : Int32), .ref 102]) [.aload_n 0, .iconst 2] (by decide +kernel) rfl <|
    Ev.cV0 (M' := M_Mo_fails) (as := [.int (2 : Int32)]) (rest := []) l_Mo_161 M_Mo_fails_ok M_Mo_fails_in M_Mo_fails_se (by decide +kernel) ⟨_, a1⟩ rfl rfl rfl (Nat.le_of_ble_eq_true rfl) (Nat.le_of_ble_eq_true rfl) (s_Mo_fails (pr4 c1) (pr5 c1) <| show Ev G (d + 1) _ _ M_Mo_isNumberHere 13 [.ref 102, .int x1, .int x2, ev_unk] [.int (0 : Int32)] (hset h 102 (bdC v_21 L22 T23 k_26 dp24 y_25)) R from
      Ev.ret (r := (some (.int (0 : Int32)))) (Or.inl ⟨_, rfl, by decide +kernel, _, rfl, rfl⟩) (k3 c1)
    )
  )
theorem b_Mo_isNumberHere_44 {G : ev_G} {d k n : Nat} {h : ev_H} {R : Option Value → ev_H → Prop} {x1 : Int32} {x2 : Int32} {x3 : Int32} {f_status_1 : Int32} {f_acts_2 : Int32} {f_marks_3 : Int32} {f_taped_4 : Int32} {f_size_5 : Int32} {f_token_6 : Int32} {f_begin_7 : Int32} {f_end_8 : Int32} {f_faults_9 : Int32} {f_faultPlace_10 : Int32} {f_faultKind_11 : Int32} {f_deep_12 : Int32} {f_value_13 : Int64} {f_broadMany_14 : Int32} {v_15 : MG} {z_16 : MP} {B17 : Nat → Nat} {L18 : Nat} {j_19 : Nat} {v_20 : MG} {L21 : Nat} {T22 : Tk} {dp23 : Int32} {y_24 : Int64} {k_25 : Nat}
  (a1 : hat h 102 (oC 9 [.ref 103, .int f_status_1, .int f_acts_2, .int f_marks_3, .ref 104, .ref 105, .ref 106, .int f_taped_4, .int f_size_5, .int f_token_6, .int f_begin_7, .int f_end_8, .int f_faults_9, .int f_faultPlace_10, .int f_faultKind_11, .int f_deep_12, .long f_value_13, .ref 107, .ref 108, .ref 109, .ref 116, .int f_broadMany_14, .ref 124, .ref 125]))
  (pr2 : x3 < f_end_8 → hat h 102 (moC v_15 z_16))
  (pr3 : x3 < f_end_8 → z_16.1 = nI L18)
  (pr4 : x3 < f_end_8 → TxM h B17 L18)
  (pr5 : x3 < f_end_8 → x3 = nI j_19 ∧ j_19 < 2147483648)
  (pr6 : ¬ x3 < f_end_8 → (b2i (frB f_value_13 x1.toInt64 x2.toInt64)) = (0 : Int32) → hat h 102 (moC v_20 (pzM L21 T22 dp23 y_24)))
  (pr7 : ¬ x3 < f_end_8 → (b2i (frB f_value_13 x1.toInt64 x2.toInt64)) = (0 : Int32) → (4 : Int32) = nI k_25)
  (k1 : x3 < f_end_8 → Ev G (d + 1) k n M_Mo_isNumberHere 44 [.ref 102, .int x1, .int x2, .int (x3 + (1 : Int32))] [] (hset h 102 (oC 9 [.ref 103, .int f_status_1, .int f_acts_2, .int f_marks_3, .ref 104, .ref 105, .ref 106, .int f_taped_4, .int f_size_5, .int f_token_6, .int f_begin_7, .int f_end_8, .int f_faults_9, .int f_faultPlace_10, .int f_faultKind_11, .int f_deep_12, .long ((((10 : Int64) * f_value_13) + (chM B17 L18 j_19).toInt64) - (48 : Int64)), .ref 107, .ref 108, .ref 109, .ref 116, .int f_broadMany_14, .ref 124, .ref 125])) R)
  (k2 : ¬ x3 < f_end_8 → (b2i (frB f_value_13 x1.toInt64 x2.toInt64)) = (0 : Int32) → (0 : Int32) = (0 : Int32) → R (some (.int (0 : Int32))) (hset h 102 (bdC v_20 L21 T22 k_25 dp23 y_24)))
  (k3 : ¬ x3 < f_end_8 → (b2i (frB f_value_13 x1.toInt64 x2.toInt64)) = (0 : Int32) → ¬ (0 : Int32) = (0 : Int32) → R (some (.int (1 : Int32))) (hset h 102 (bdC v_20 L21 T22 k_25 dp23 y_24)))
  (k4 : ¬ x3 < f_end_8 → ¬ (b2i (frB f_value_13 x1.toInt64 x2.toInt64)) = (0 : Int32) → R (some (.int (1 : Int32))) h)
  : Ev G (d + 1) k n M_Mo_isNumberHere 44 [.ref 102, .int x1, .int x2, .int x3] [] h R :=
  Ev.go (pc' := 46) (ls' := [.ref 102, .int x1, .int x2, .int x3]) (st' := [.ref 102, .int x3]) [.iload_n 3, .aload_n 0] (by decide +kernel) rfl <|
  Ev.getf f_Mo_119 (by decide +kernel) a1 rfl <|
  Ev.br (i := .if_icmp .ge (32)) (P := x3 < f_end_8) (t := 52) (f := 81) (r := []) (by decide +kernel) rfl (fun c1 =>
    Ev.go (pc' := 53) (ls' := [.ref 102, .int x1, .int x2, .int x3]) (st' := [.ref 102]) [.aload_n 0] (by decide +kernel) rfl <|
    Ev.ldc2 k_Mo_168 (by decide +kernel) <|
    Ev.go (pc' := 57) (ls' := [.ref 102, .int x1, .int x2, .int x3]) (st' := [.ref 102, .long (10 : Int64), .ref 102]) [.aload_n 0] (by decide +kernel) rfl <|
    Ev.getf f_Mo_164 (by decide +kernel) a1 rfl <|
    Ev.go (pc' := 63) (ls' := [.ref 102, .int x1, .int x2, .int x3]) (st' := [.int x3, .ref 102, .long ((10 : Int64) * f_value_13), .ref 102]) [.lmul, .aload_n 0, .iload_n 3] (by decide +kernel) rfl <|
    Ev.cV0 (M' := M_Mo_byteAt) (as := [.int x3]) (rest := [.long ((10 : Int64) * f_value_13), .ref 102]) l_Mo_122 M_Mo_byteAt_ok M_Mo_byteAt_in M_Mo_byteAt_se (by decide +kernel) ⟨_, a1⟩ rfl rfl rfl (Nat.le_of_ble_eq_true rfl) (Nat.le_of_ble_eq_true rfl) (s_Mo_byteAt (pr2 c1) (pr3 c1) (pr4 c1) (pr5 c1) <| show Ev G (d + 1) _ _ M_Mo_isNumberHere 66 [.ref 102, .int x1, .int x2, .int x3] [.int (chM B17 L18 j_19), .long ((10 : Int64) * f_value_13), .ref 102] h R from
      Ev.go (pc' := 68) (ls' := [.ref 102, .int x1, .int x2, .int x3]) (st' := [.long (((10 : Int64) * f_value_13) + (chM B17 L18 j_19).toInt64), .ref 102]) [.i2l, .ladd] (by decide +kernel) rfl <|
      Ev.ldc2 k_Mo_170 (by decide +kernel) <|
      Ev.go (pc' := 72) (ls' := [.ref 102, .int x1, .int x2, .int x3]) (st' := [.long ((((10 : Int64) * f_value_13) + (chM B17 L18 j_19).toInt64) - (48 : Int64)), .ref 102]) [.lsub] (by decide +kernel) rfl <|
      Ev.putf f_Mo_164 (by decide +kernel) a1 (Nat.le_of_ble_eq_true rfl) rfl (fun q => nomatch q) <| show Ev G (d + 1) _ _ M_Mo_isNumberHere 75 [.ref 102, .int x1, .int x2, .int x3] [] (hset h 102 (oC 9 [.ref 103, .int f_status_1, .int f_acts_2, .int f_marks_3, .ref 104, .ref 105, .ref 106, .int f_taped_4, .int f_size_5, .int f_token_6, .int f_begin_7, .int f_end_8, .int f_faults_9, .int f_faultPlace_10, .int f_faultKind_11, .int f_deep_12, .long ((((10 : Int64) * f_value_13) + (chM B17 L18 j_19).toInt64) - (48 : Int64)), .ref 107, .ref 108, .ref 109, .ref 116, .int f_broadMany_14, .ref 124, .ref 125])) R from
      Ev.go (pc' := 44) (ls' := [.ref 102, .int x1, .int x2, .int (x3 + (1 : Int32))]) (st' := []) [.iinc 3 (1), .goto (-34)] (by decide +kernel) rfl <|
      (k1 c1)
    )
  ) (fun c1 =>
    Ev.go (pc' := 82) (ls' := [.ref 102, .int x1, .int x2, .int x3]) (st' := [.ref 102]) [.aload_n 0] (by decide +kernel) rfl <|
    Ev.getf f_Mo_164 (by decide +kernel) a1 rfl <|
    Ev.go (pc' := 89) (ls' := [.ref 102, .int x1, .int x2, .int x3]) (st' := [.long x2.toInt64, .long x1.toInt64, .long f_value_13]) [.iload_n 1, .i2l, .iload_n 2, .i2l] (by decide +kernel) rfl <|
    Ev.cS0 (M' := M_Mo_isFrom) (as := [.long f_value_13, .long x1.toInt64, .long x2.toInt64]) (rest := []) l_Mo_172 M_Mo_isFrom_ok M_Mo_isFrom_st (by decide +kernel) rfl rfl (Nat.le_of_ble_eq_true rfl) (Nat.le_of_ble_eq_true rfl) (s_Mo_isFrom <| show Ev G (d + 1) _ _ M_Mo_isNumberHere 92 [.ref 102, .int x1, .int x2, .int x3] [.int (b2i (frB f_value_13 x1.toInt64 x2.toInt64))] h R from
      Ev.br (i := .ifCond .ne (11)) (P := (b2i (frB f_value_13 x1.toInt64 x2.toInt64)) = (0 : Int32)) (t := 95) (f := 103) (r := []) (by decide +kernel) rfl (fun c2 =>
        Ev.go (pc' := 97) (ls' := [.ref 102, .int x1, .int x2, .int x3]) (st' := [.int (4 : Int32), .ref 102]) [.aload_n 0, .iconst 4] (by decide +kernel) rfl <|
        Ev.cV0 (M' := M_Mo_fails) (as := [.int (4 : Int32)]) (rest := []) l_Mo_161 M_Mo_fails_ok M_Mo_fails_in M_Mo_fails_se (by decide +kernel) ⟨_, a1⟩ rfl rfl rfl (Nat.le_of_ble_eq_true rfl) (Nat.le_of_ble_eq_true rfl) (s_Mo_fails (pr6 c1 c2) (pr7 c1 c2) <| show Ev G (d + 1) _ _ M_Mo_isNumberHere 100 [.ref 102, .int x1, .int x2, .int x3] [.int (0 : Int32)] (hset h 102 (bdC v_20 L21 T22 k_25 dp23 y_24)) R from
          Ev.br (i := .ifCond .eq (7)) (P := (0 : Int32) = (0 : Int32)) (t := 107) (f := 103) (r := []) (by decide +kernel) rfl (fun c3 =>
            Ev.go (pc' := 108) (ls' := [.ref 102, .int x1, .int x2, .int x3]) (st' := [.int (0 : Int32)]) [.iconst 0] (by decide +kernel) rfl <|
            Ev.ret (r := (some (.int (0 : Int32)))) (Or.inl ⟨_, rfl, by decide +kernel, _, rfl, rfl⟩) (k2 c1 c2 c3)
          ) (fun c3 =>
            Ev.go (pc' := 108) (ls' := [.ref 102, .int x1, .int x2, .int x3]) (st' := [.int (1 : Int32)]) [.iconst 1, .goto (4)] (by decide +kernel) rfl <|
            Ev.ret (r := (some (.int (1 : Int32)))) (Or.inl ⟨_, rfl, by decide +kernel, _, rfl, rfl⟩) (k3 c1 c2 c3)
          )
        )
      ) (fun c2 =>
        Ev.go (pc' := 108) (ls' := [.ref 102, .int x1, .int x2, .int x3]) (st' := [.int (1 : Int32)]) [.iconst 1, .goto (4)] (by decide +kernel) rfl <|
        Ev.ret (r := (some (.int (1 : Int32)))) (Or.inl ⟨_, rfl, by decide +kernel, _, rfl, rfl⟩) (k4 c1 c2)
      )
    )
  )
theorem b_Mo_isBinaryHere_0 {G : ev_G} {d k n : Nat} {h : ev_H} {R : Option Value → ev_H → Prop} {f_status_1 : Int32} {f_acts_2 : Int32} {f_marks_3 : Int32} {f_taped_4 : Int32} {f_size_5 : Int32} {f_token_6 : Int32} {f_begin_7 : Int32} {f_end_8 : Int32} {f_faults_9 : Int32} {f_faultPlace_10 : Int32} {f_faultKind_11 : Int32} {f_deep_12 : Int32} {f_value_13 : Int64} {f_broadMany_14 : Int32} {S15 : AS} {v_16 : MG} {L17 : Nat} {T18 : Tk} {dp19 : Int32} {y_20 : Int64} {k_21 : Nat} {v_22 : MG} {L23 : Nat} {T24 : Tk} {dp25 : Int32} {y_26 : Int64} {k_27 : Nat}
  (a1 : hat h 102 (oC 9 [.ref 103, .int f_status_1, .int f_acts_2, .int f_marks_3, .ref 104, .ref 105, .ref 106, .int f_taped_4, .int f_size_5, .int f_token_6, .int f_begin_7, .int f_end_8, .int f_faults_9, .int f_faultPlace_10, .int f_faultKind_11, .int f_deep_12, .long f_value_13, .ref 107, .ref 108, .ref 109, .ref 116, .int f_broadMany_14, .ref 124, .ref 125]))
  (pr2 : f_token_6 = (3 : Int32) → MS h S15)
  (pr3 : f_token_6 = (3 : Int32) → ¬ (f_end_8 - f_begin_7) = (nI (sB S15)) → hat h 102 (moC v_16 (pzM L17 T18 dp19 y_20)))
  (pr4 : f_token_6 = (3 : Int32) → ¬ (f_end_8 - f_begin_7) = (nI (sB S15)) → (3 : Int32) = nI k_21)
  (pr5 : ¬ f_token_6 = (3 : Int32) → hat h 102 (moC v_22 (pzM L23 T24 dp25 y_26)))
  (pr6 : ¬ f_token_6 = (3 : Int32) → (2 : Int32) = nI k_27)
  (k1 : f_token_6 = (3 : Int32) → (f_end_8 - f_begin_7) = (nI (sB S15)) → Ev G (d + 2) k n M_Mo_isBinaryHere 46 [.ref 102, .int f_begin_7] [] (hset h 102 (oC 9 [.ref 103, .int f_status_1, .int f_acts_2, .int f_marks_3, .ref 104, .ref 105, .ref 106, .int f_taped_4, .int f_size_5, .int f_token_6, .int f_begin_7, .int f_end_8, .int f_faults_9, .int f_faultPlace_10, .int f_faultKind_11, .int f_deep_12, .long (0 : Int64), .ref 107, .ref 108, .ref 109, .ref 116, .int f_broadMany_14, .ref 124, .ref 125])) R)
  (k2 : f_token_6 = (3 : Int32) → ¬ (f_end_8 - f_begin_7) = (nI (sB S15)) → R (some (.int (0 : Int32))) (hset h 102 (bdC v_16 L17 T18 k_21 dp19 y_20)))
  (k3 : ¬ f_token_6 = (3 : Int32) → R (some (.int (0 : Int32))) (hset h 102 (bdC v_22 L23 T24 k_27 dp25 y_26)))
  : Ev G (d + 2) k n M_Mo_isBinaryHere 0 [.ref 102, ev_unk] [] h R :=
  Ev.go (pc' := 1) (ls' := [.ref 102, ev_unk]) (st' := [.ref 102]) [.aload_n 0] (by decide +kernel) rfl <|
  Ev.getf f_Mo_128 (by decide +kernel) a1 rfl <|
  Ev.go (pc' := 5) (ls' := [.ref 102, ev_unk]) (st' := [.int (3 : Int32), .int f_token_6]) [.iconst 3] (by decide +kernel) rfl <|
  Ev.br (i := .if_icmp .eq (9)) (P := f_token_6 = (3 : Int32)) (t := 14) (f := 8) (r := []) (by decide +kernel) rfl (fun c1 =>
    Ev.go (pc' := 15) (ls' := [.ref 102, ev_unk]) (st' := [.ref 102]) [.aload_n 0] (by decide +kernel) rfl <|
    Ev.getf f_Mo_119 (by decide +kernel) a1 rfl <|
    Ev.go (pc' := 19) (ls' := [.ref 102, ev_unk]) (st' := [.ref 102, .int f_end_8]) [.aload_n 0] (by decide +kernel) rfl <|
    Ev.getf f_Mo_125 (by decide +kernel) a1 rfl <|
    Ev.go (pc' := 24) (ls' := [.ref 102, ev_unk]) (st' := [.ref 102, .int (f_end_8 - f_begin_7)]) [.isub, .aload_n 0] (by decide +kernel) rfl <|
    Ev.cV0 (M' := M_Mo_bits) (as := []) (rest := [.int (f_end_8 - f_begin_7)]) l_Mo_78 M_Mo_bits_ok M_Mo_bits_in M_Mo_bits_se (by decide +kernel) ⟨_, a1⟩ rfl rfl rfl (Nat.le_of_ble_eq_true rfl) (Nat.le_of_ble_eq_true rfl) (s_Mo_bits (pr2 c1) <| show Ev G (d + 2) _ _ M_Mo_isBinaryHere 27 [.ref 102, ev_unk] [.int (nI (sB S15)), .int (f_end_8 - f_begin_7)] h R from
      Ev.br (i := .if_icmp .eq (9)) (P := (f_end_8 - f_begin_7) = (nI (sB S15))) (t := 36) (f := 30) (r := []) (by decide +kernel) rfl (fun c2 =>
        Ev.go (pc' := 38) (ls' := [.ref 102, ev_unk]) (st' := [.long (0 : Int64), .ref 102]) [.aload_n 0, .lconst 0] (by decide +kernel) rfl <|
        Ev.putf f_Mo_164 (by decide +kernel) a1 (Nat.le_of_ble_eq_true rfl) rfl (fun q => nomatch q) <| show Ev G (d + 2) _ _ M_Mo_isBinaryHere 41 [.ref 102, ev_unk] [] (hset h 102 (oC 9 [.ref 103, .int f_status_1, .int f_acts_2, .int f_marks_3, .ref 104, .ref 105, .ref 106, .int f_taped_4, .int f_size_5, .int f_token_6, .int f_begin_7, .int f_end_8, .int f_faults_9, .int f_faultPlace_10, .int f_faultKind_11, .int f_deep_12, .long (0 : Int64), .ref 107, .ref 108, .ref 109, .ref 116, .int f_broadMany_14, .ref 124, .ref 125])) R from
        Ev.go (pc' := 42) (ls' := [.ref 102, ev_unk]) (st' := [.ref 102]) [.aload_n 0] (by decide +kernel) rfl <|
        Ev.getf f_Mo_125 (by decide +kernel) (hat_set a1) rfl <|
        Ev.go (pc' := 46) (ls' := [.ref 102, .int f_begin_7]) (st' := []) [.istore_n 1] (by decide +kernel) rfl <|
        (k1 c1 c2)
      ) (fun c2 =>
        Ev.go (pc' := 32) (ls' := [.ref 102, ev_unk]) (st' := [.int (3 : Int32), .ref 102]) [.aload_n 0, .iconst 3] (by decide +kernel) rfl <|
        Ev.cV0 (M' := M_Mo_fails) (as := [.int (3 : Int32)]) (rest := []) l_Mo_161 M_Mo_fails_ok M_Mo_fails_in M_Mo_fails_se (by decide +kernel) ⟨_, a1⟩ rfl rfl rfl (Nat.le_of_ble_eq_true rfl) (Nat.le_of_ble_eq_true rfl) (s_Mo_fails (pr3 c1 c2) (pr4 c1 c2) <| show Ev G (d + 2) _ _ M_Mo_isBinaryHere 35 [.ref 102, ev_unk] [.int (0 : Int32)] (hset h 102 (bdC v_16 L17 T18 k_21 dp19 y_20)) R from
          Ev.ret (r := (some (.int (0 : Int32)))) (Or.inl ⟨_, rfl, by decide +kernel, _, rfl, rfl⟩) (k2 c1 c2)
        )
      )
    )
  ) (fun c1 =>
    Ev.go (pc' := 10) (ls' := [.ref 102, ev_unk]) (st' := [.int (2 : Int32), .ref 102]) [.aload_n 0, .iconst 2] (by decide +kernel) rfl <|
    Ev.cV0 (M' := M_Mo_fails) (as := [.int (2 : Int32)]) (rest := []) l_Mo_161 M_Mo_fails_ok M_Mo_fails_in M_Mo_fails_se (by decide +kernel) ⟨_, a1⟩ rfl rfl rfl (Nat.le_of_ble_eq_true rfl) (Nat.le_of_ble_eq_true rfl) (s_Mo_fails (pr5 c1) (pr6 c1) <| show Ev G (d + 2) _ _ M_Mo_isBinaryHere 13 [.ref 102, ev_unk] [.int (0 : Int32)] (hset h 102 (bdC v_22 L23 T24 k_27 dp25 y_26)) R from
      Ev.ret (r := (some (.int (0 : Int32)))) (Or.inl ⟨_, rfl, by decide +kernel, _, rfl, rfl⟩) (k3 c1)
    )
  )
theorem b_Mo_isBinaryHere_46 {G : ev_G} {d k n : Nat} {h : ev_H} {R : Option Value → ev_H → Prop} {x1 : Int32} {f_status_1 : Int32} {f_acts_2 : Int32} {f_marks_3 : Int32} {f_taped_4 : Int32} {f_size_5 : Int32} {f_token_6 : Int32} {f_begin_7 : Int32} {f_end_8 : Int32} {f_faults_9 : Int32} {f_faultPlace_10 : Int32} {f_faultKind_11 : Int32} {f_deep_12 : Int32} {f_value_13 : Int64} {f_broadMany_14 : Int32} {v_15 : MG} {z_16 : MP} {B17 : Nat → Nat} {L18 : Nat} {j_19 : Nat} {v_20 : MG} {L21 : Nat} {T22 : Tk} {dp23 : Int32} {y_24 : Int64} {k_25 : Nat} {v_26 : MG} {z_27 : MP} {B28 : Nat → Nat} {L29 : Nat} {j_30 : Nat}
  (a1 : hat h 102 (oC 9 [.ref 103, .int f_status_1, .int f_acts_2, .int f_marks_3, .ref 104, .ref 105, .ref 106, .int f_taped_4, .int f_size_5, .int f_token_6, .int f_begin_7, .int f_end_8, .int f_faults_9, .int f_faultPlace_10, .int f_faultKind_11, .int f_deep_12, .long f_value_13, .ref 107, .ref 108, .ref 109, .ref 116, .int f_broadMany_14, .ref 124, .ref 125]))
  (pr2 : x1 < f_end_8 → hat h 102 (moC v_15 z_16))
  (pr3 : x1 < f_end_8 → z_16.1 = nI L18)
  (pr4 : x1 < f_end_8 → TxM h B17 L18)
  (pr5 : x1 < f_end_8 → x1 = nI j_19 ∧ j_19 < 2147483648)
  (pr6 : x1 < f_end_8 → (49 : Int32) < (chM B17 L18 j_19) → hat h 102 (moC v_20 (pzM L21 T22 dp23 y_24)))
  (pr7 : x1 < f_end_8 → (49 : Int32) < (chM B17 L18 j_19) → (3 : Int32) = nI k_25)
  (pr8 : x1 < f_end_8 → ¬ (49 : Int32) < (chM B17 L18 j_19) → hat h 102 (moC v_26 z_27))
  (pr9 : x1 < f_end_8 → ¬ (49 : Int32) < (chM B17 L18 j_19) → z_27.1 = nI L29)
  (pr10 : x1 < f_end_8 → ¬ (49 : Int32) < (chM B17 L18 j_19) → TxM h B28 L29)
  (pr11 : x1 < f_end_8 → ¬ (49 : Int32) < (chM B17 L18 j_19) → x1 = nI j_30 ∧ j_30 < 2147483648)
  (k1 : x1 < f_end_8 → (49 : Int32) < (chM B17 L18 j_19) → R (some (.int (0 : Int32))) (hset h 102 (bdC v_20 L21 T22 k_25 dp23 y_24)))
  (k2 : x1 < f_end_8 → ¬ (49 : Int32) < (chM B17 L18 j_19) → Ev G (d + 2) k n M_Mo_isBinaryHere 46 [.ref 102, .int (x1 + (1 : Int32))] [] (hset h 102 (oC 9 [.ref 103, .int f_status_1, .int f_acts_2, .int f_marks_3, .ref 104, .ref 105, .ref 106, .int f_taped_4, .int f_size_5, .int f_token_6, .int f_begin_7, .int f_end_8, .int f_faults_9, .int f_faultPlace_10, .int f_faultKind_11, .int f_deep_12, .long ((((2 : Int64) * f_value_13) + (chM B28 L29 j_30).toInt64) - (48 : Int64)), .ref 107, .ref 108, .ref 109, .ref 116, .int f_broadMany_14, .ref 124, .ref 125])) R)
  (k3 : ¬ x1 < f_end_8 → R (some (.int (1 : Int32))) h)
  : Ev G (d + 2) k n M_Mo_isBinaryHere 46 [.ref 102, .int x1] [] h R :=
  Ev.go (pc' := 48) (ls' := [.ref 102, .int x1]) (st' := [.ref 102, .int x1]) [.iload_n 1, .aload_n 0] (by decide +kernel) rfl <|
  Ev.getf f_Mo_119 (by decide +kernel) a1 rfl <|
  Ev.br (i := .if_icmp .ge (48)) (P := x1 < f_end_8) (t := 54) (f := 99) (r := []) (by decide +kernel) rfl (fun c1 =>
    Ev.go (pc' := 56) (ls' := [.ref 102, .int x1]) (st' := [.int x1, .ref 102]) [.aload_n 0, .iload_n 1] (by decide +kernel) rfl <|
    Ev.cV0 (M' := M_Mo_byteAt) (as := [.int x1]) (rest := []) l_Mo_122 M_Mo_byteAt_ok M_Mo_byteAt_in M_Mo_byteAt_se (by decide +kernel) ⟨_, a1⟩ rfl rfl rfl (Nat.le_of_ble_eq_true rfl) (Nat.le_of_ble_eq_true rfl) (s_Mo_byteAt (pr2 c1) (pr3 c1) (pr4 c1) (pr5 c1) <| show Ev G (d + 2) _ _ M_Mo_isBinaryHere 59 [.ref 102, .int x1] [.int (chM B17 L18 j_19)] h R from
      Ev.go (pc' := 61) (ls' := [.ref 102, .int x1]) (st' := [.int (49 : Int32), .int (chM B17 L18 j_19)]) [.bipush (49)] (by decide +kernel) rfl <|
      Ev.br (i := .if_icmp .le (9)) (P := (49 : Int32) < (chM B17 L18 j_19)) (t := 64) (f := 70) (r := []) (by decide +kernel) rfl (fun c2 =>
        Ev.go (pc' := 66) (ls' := [.ref 102, .int x1]) (st' := [.int (3 : Int32), .ref 102]) [.aload_n 0, .iconst 3] (by decide +kernel) rfl <|
        Ev.cV0 (M' := M_Mo_fails) (as := [.int (3 : Int32)]) (rest := []) l_Mo_161 M_Mo_fails_ok M_Mo_fails_in M_Mo_fails_se (by decide +kernel) ⟨_, a1⟩ rfl rfl rfl (Nat.le_of_ble_eq_true rfl) (Nat.le_of_ble_eq_true rfl) (s_Mo_fails (pr6 c1 c2) (pr7 c1 c2) <| show Ev G (d + 2) _ _ M_Mo_isBinaryHere 69 [.ref 102, .int x1] [.int (0 : Int32)] (hset h 102 (bdC v_20 L21 T22 k_25 dp23 y_24)) R from
          Ev.ret (r := (some (.int (0 : Int32)))) (Or.inl ⟨_, rfl, by decide +kernel, _, rfl, rfl⟩) (k1 c1 c2)
        )
      ) (fun c2 =>
        Ev.go (pc' := 71) (ls' := [.ref 102, .int x1]) (st' := [.ref 102]) [.aload_n 0] (by decide +kernel) rfl <|
        Ev.ldc2 k_Mo_58 (by decide +kernel) <|
        Ev.go (pc' := 75) (ls' := [.ref 102, .int x1]) (st' := [.ref 102, .long (2 : Int64), .ref 102]) [.aload_n 0] (by decide +kernel) rfl <|
        Ev.getf f_Mo_164 (by decide +kernel) a1 rfl <|
        Ev.go (pc' := 81) (ls' := [.ref 102, .int x1]) (st' := [.int x1, .ref 102, .long ((2 : Int64) * f_value_13), .ref 102]) [.lmul, .aload_n 0, .iload_n 1] (by decide +kernel) rfl <|
        Ev.cV0 (M' := M_Mo_byteAt) (as := [.int x1]) (rest := [.long ((2 : Int64) * f_value_13), .ref 102]) l_Mo_122 M_Mo_byteAt_ok M_Mo_byteAt_in M_Mo_byteAt_se (by decide +kernel) ⟨_, a1⟩ rfl rfl rfl (Nat.le_of_ble_eq_true rfl) (Nat.le_of_ble_eq_true rfl) (s_Mo_byteAt (pr8 c1 c2) (pr9 c1 c2) (pr10 c1 c2) (pr11 c1 c2) <| show Ev G (d + 2) _ _ M_Mo_isBinaryHere 84 [.ref 102, .int x1] [.int (chM B28 L29 j_30), .long ((2 : Int64) * f_value_13), .ref 102] h R from
          Ev.go (pc' := 86) (ls' := [.ref 102, .int x1]) (st' := [.long (((2 : Int64) * f_value_13) + (chM B28 L29 j_30).toInt64), .ref 102]) [.i2l, .ladd] (by decide +kernel) rfl <|
          Ev.ldc2 k_Mo_170 (by decide +kernel) <|
          Ev.go (pc' := 90) (ls' := [.ref 102, .int x1]) (st' := [.long ((((2 : Int64) * f_value_13) + (chM B28 L29 j_30).toInt64) - (48 : Int64)), .ref 102]) [.lsub] (by decide +kernel) rfl <|
          Ev.putf f_Mo_164 (by decide +kernel) a1 (Nat.le_of_ble_eq_true rfl) rfl (fun q => nomatch q) <| show Ev G (d + 2) _ _ M_Mo_isBinaryHere 93 [.ref 102, .int x1] [] (hset h 102 (oC 9 [.ref 103, .int f_status_1, .int f_acts_2, .int f_marks_3, .ref 104, .ref 105, .ref 106, .int f_taped_4, .int f_size_5, .int f_token_6, .int f_begin_7, .int f_end_8, .int f_faults_9, .int f_faultPlace_10, .int f_faultKind_11, .int f_deep_12, .long ((((2 : Int64) * f_value_13) + (chM B28 L29 j_30).toInt64) - (48 : Int64)), .ref 107, .ref 108, .ref 109, .ref 116, .int f_broadMany_14, .ref 124, .ref 125])) R from
          Ev.go (pc' := 46) (ls' := [.ref 102, .int (x1 + (1 : Int32))]) (st' := []) [.iinc 1 (1), .goto (-50)] (by decide +kernel) rfl <|
          (k2 c1 c2)
        )
      )
    )
  ) (fun c1 =>
    Ev.go (pc' := 100) (ls' := [.ref 102, .int x1]) (st' := [.int (1 : Int32)]) [.iconst 1] (by decide +kernel) rfl <|
    Ev.ret (r := (some (.int (1 : Int32)))) (Or.inl ⟨_, rfl, by decide +kernel, _, rfl, rfl⟩) (k3 c1)
  )
theorem b_Mo_sinks_0 {G : ev_G} {d k n : Nat} {h : ev_H} {R : Option Value → ev_H → Prop} {f_status_1 : Int32} {f_acts_2 : Int32} {f_marks_3 : Int32} {f_taped_4 : Int32} {f_size_5 : Int32} {f_token_6 : Int32} {f_begin_7 : Int32} {f_end_8 : Int32} {f_faults_9 : Int32} {f_faultPlace_10 : Int32} {f_faultKind_11 : Int32} {f_deep_12 : Int32} {f_value_13 : Int64} {f_broadMany_14 : Int32} {v_15 : MG} {L16 : Nat} {T17 : Tk} {dp18 : Int32} {y_19 : Int64} {k_20 : Nat} {v_21 : MG} {L22 : Nat} {T23 : Tk} {dp24 : Int32} {y_25 : Int64} {B26 : Nat → Nat}
  (a1 : hat h 102 (oC 9 [.ref 103, .int f_status_1, .int f_acts_2, .int f_marks_3, .ref 104, .ref 105, .ref 106, .int f_taped_4, .int f_size_5, .int f_token_6, .int f_begin_7, .int f_end_8, .int f_faults_9, .int f_faultPlace_10, .int f_faultKind_11, .int f_deep_12, .long f_value_13, .ref 107, .ref 108, .ref 109, .ref 116, .int f_broadMany_14, .ref 124, .ref 125]))
  (pr2 : f_deep_12 = (6 : Int32) → hat h 102 (moC v_15 (pzM L16 T17 dp18 y_19)))
  (pr3 : f_deep_12 = (6 : Int32) → (6 : Int32) = nI k_20)
  (pr4 : ¬ f_deep_12 = (6 : Int32) → hat (hset h 102 (oC 9 [.ref 103, .int f_status_1, .int f_acts_2, .int f_marks_3, .ref 104, .ref 105, .ref 106, .int f_taped_4, .int f_size_5, .int f_token_6, .int f_begin_7, .int f_end_8, .int f_faults_9, .int f_faultPlace_10, .int f_faultKind_11, .int (f_deep_12 + (1 : Int32)), .long f_value_13, .ref 107, .ref 108, .ref 109, .ref 116, .int f_broadMany_14, .ref 124, .ref 125])) 102 (moC v_21 (pzM L22 T23 dp24 y_25)))
  (pr5 : ¬ f_deep_12 = (6 : Int32) → TxM (hset h 102 (oC 9 [.ref 103, .int f_status_1, .int f_acts_2, .int f_marks_3, .ref 104, .ref 105, .ref 106, .int f_taped_4, .int f_size_5, .int f_token_6, .int f_begin_7, .int f_end_8, .int f_faults_9, .int f_faultPlace_10, .int f_faultKind_11, .int (f_deep_12 + (1 : Int32)), .long f_value_13, .ref 107, .ref 108, .ref 109, .ref 116, .int f_broadMany_14, .ref 124, .ref 125])) B26 L22)
  (pr6 : ¬ f_deep_12 = (6 : Int32) → T23.2.2 ≤ L22)
  (k1 : f_deep_12 = (6 : Int32) → R (some (.int (0 : Int32))) (hset h 102 (bdC v_15 L16 T17 k_20 dp18 y_19)))
  (k2 : ¬ f_deep_12 = (6 : Int32) → R (some (.int (1 : Int32))) (hset (hset h 102 (oC 9 [.ref 103, .int f_status_1, .int f_acts_2, .int f_marks_3, .ref 104, .ref 105, .ref 106, .int f_taped_4, .int f_size_5, .int f_token_6, .int f_begin_7, .int f_end_8, .int f_faults_9, .int f_faultPlace_10, .int f_faultKind_11, .int (f_deep_12 + (1 : Int32)), .long f_value_13, .ref 107, .ref 108, .ref 109, .ref 116, .int f_broadMany_14, .ref 124, .ref 125])) 102 (moC v_21 (pzM L22 (nx B26 L22 T23) dp24 y_25))))
  : Ev G (d + 3) k n M_Mo_sinks 0 [.ref 102] [] h R :=
  Ev.go (pc' := 1) (ls' := [.ref 102]) (st' := [.ref 102]) [.aload_n 0] (by decide +kernel) rfl <|
  Ev.getf f_Mo_176 (by decide +kernel) a1 rfl <|
  Ev.go (pc' := 6) (ls' := [.ref 102]) (st' := [.int (6 : Int32), .int f_deep_12]) [.bipush (6)] (by decide +kernel) rfl <|
  Ev.br (i := .if_icmp .ne (10)) (P := f_deep_12 = (6 : Int32)) (t := 9) (f := 16) (r := []) (by decide +kernel) rfl (fun c1 =>
    Ev.go (pc' := 12) (ls' := [.ref 102]) (st' := [.int (6 : Int32), .ref 102]) [.aload_n 0, .bipush (6)] (by decide +kernel) rfl <|
    Ev.cV0 (M' := M_Mo_fails) (as := [.int (6 : Int32)]) (rest := []) l_Mo_161 M_Mo_fails_ok M_Mo_fails_in M_Mo_fails_se (by decide +kernel) ⟨_, a1⟩ rfl rfl rfl (Nat.le_of_ble_eq_true rfl) (Nat.le_of_ble_eq_true rfl) (s_Mo_fails (pr2 c1) (pr3 c1) <| show Ev G (d + 3) _ _ M_Mo_sinks 15 [.ref 102] [.int (0 : Int32)] (hset h 102 (bdC v_15 L16 T17 k_20 dp18 y_19)) R from
      Ev.ret (r := (some (.int (0 : Int32)))) (Or.inl ⟨_, rfl, by decide +kernel, _, rfl, rfl⟩) (k1 c1)
    )
  ) (fun c1 =>
    Ev.go (pc' := 18) (ls' := [.ref 102]) (st' := [.ref 102, .ref 102]) [.aload_n 0, .dup] (by decide +kernel) rfl <|
    Ev.getf f_Mo_176 (by decide +kernel) a1 rfl <|
    Ev.go (pc' := 23) (ls' := [.ref 102]) (st' := [.int (f_deep_12 + (1 : Int32)), .ref 102]) [.iconst 1, .iadd] (by decide +kernel) rfl <|
    Ev.putf f_Mo_176 (by decide +kernel) a1 (Nat.le_of_ble_eq_true rfl) rfl (fun q => nomatch q) <| show Ev G (d + 3) _ _ M_Mo_sinks 26 [.ref 102] [] (hset h 102 (oC 9 [.ref 103, .int f_status_1, .int f_acts_2, .int f_marks_3, .ref 104, .ref 105, .ref 106, .int f_taped_4, .int f_size_5, .int f_token_6, .int f_begin_7, .int f_end_8, .int f_faults_9, .int f_faultPlace_10, .int f_faultKind_11, .int (f_deep_12 + (1 : Int32)), .long f_value_13, .ref 107, .ref 108, .ref 109, .ref 116, .int f_broadMany_14, .ref 124, .ref 125])) R from
    Ev.go (pc' := 27) (ls' := [.ref 102]) (st' := [.ref 102]) [.aload_n 0] (by decide +kernel) rfl <|
    Ev.cV0 (M' := M_Mo_takes) (as := []) (rest := []) l_Mo_157 M_Mo_takes_ok M_Mo_takes_in M_Mo_takes_se (by decide +kernel) ⟨_, (hat_set a1)⟩ rfl rfl rfl (Nat.le_of_ble_eq_true rfl) (Nat.le_of_ble_eq_true rfl) (s_Mo_takes (pr4 c1) (pr5 c1) (pr6 c1) <| show Ev G (d + 3) _ _ M_Mo_sinks 30 [.ref 102] [.int (1 : Int32)] (hset (hset h 102 (oC 9 [.ref 103, .int f_status_1, .int f_acts_2, .int f_marks_3, .ref 104, .ref 105, .ref 106, .int f_taped_4, .int f_size_5, .int f_token_6, .int f_begin_7, .int f_end_8, .int f_faults_9, .int f_faultPlace_10, .int f_faultKind_11, .int (f_deep_12 + (1 : Int32)), .long f_value_13, .ref 107, .ref 108, .ref 109, .ref 116, .int f_broadMany_14, .ref 124, .ref 125])) 102 (moC v_21 (pzM L22 (nx B26 L22 T23) dp24 y_25))) R from
      Ev.ret (r := (some (.int (1 : Int32)))) (Or.inl ⟨_, rfl, by decide +kernel, _, rfl, rfl⟩) (k2 c1)
    )
  )
theorem b_Mo_emitsNot_0 {G : ev_G} {d k n : Nat} {h : ev_H} {R : Option Value → ev_H → Prop} {v_1 : MG} {z_2 : MP} {g_3 : Nat → Int64} {t_4 : Nat} {v_5 : MG} {L6 : Nat} {T7 : Tk} {dp8 : Int32} {y_9 : Int64}
  (pr1 : hat h 102 (moC v_1 z_2))
  (pr2 : hat h 103 (aL 9758 g_3))
  (pr3 : g_3 3 = lN t_4 ∧ t_4 < 500)
  (r4 : ∃ fs, hat h 102 (oC 9 fs))
  (pr5 : hat (hset h 103 (aL 9758 (emF g_3 t_4 (10 : Int32) (0 : Int64)))) 102 (moC v_5 (pzM L6 T7 dp8 y_9)))
  (r6 : ∃ fs, hat (hset h 103 (aL 9758 (emF g_3 t_4 (10 : Int32) (0 : Int64)))) 102 (oC 9 fs))
  (k1 : R (some (.int (1 : Int32))) (hset (hset h 103 (aL 9758 (emF g_3 t_4 (10 : Int32) (0 : Int64)))) 102 (moC v_5 (pzM L6 T7 (dp8 - 1) y_9))))
  : Ev G (d + 2) k n M_Mo_emitsNot 0 [.ref 102] [] h R :=
  Ev.go (pc' := 4) (ls' := [.ref 102]) (st' := [.long (0 : Int64), .int (10 : Int32), .ref 102]) [.aload_n 0, .bipush (10), .lconst 0] (by decide +kernel) rfl <|
  Ev.cV0 (M' := M_Mo_emits) (as := [.int (10 : Int32), .long (0 : Int64)]) (rest := []) l_Mo_179 M_Mo_emits_ok M_Mo_emits_in M_Mo_emits_se (by decide +kernel) r4 rfl rfl rfl (Nat.le_of_ble_eq_true rfl) (Nat.le_of_ble_eq_true rfl) (s_Mo_emits pr1 pr2 pr3 <| show Ev G (d + 2) _ _ M_Mo_emitsNot 7 [.ref 102] [] (hset h 103 (aL 9758 (emF g_3 t_4 (10 : Int32) (0 : Int64)))) R from
    Ev.go (pc' := 8) (ls' := [.ref 102]) (st' := [.ref 102]) [.aload_n 0] (by decide +kernel) rfl <|
    Ev.cV0 (M' := M_Mo_rises) (as := []) (rest := []) l_Mo_182 M_Mo_rises_ok M_Mo_rises_in M_Mo_rises_se (by decide +kernel) r6 rfl rfl rfl (Nat.le_of_ble_eq_true rfl) (Nat.le_of_ble_eq_true rfl) (s_Mo_rises pr5 <| show Ev G (d + 2) _ _ M_Mo_emitsNot 11 [.ref 102] [.int (1 : Int32)] (hset (hset h 103 (aL 9758 (emF g_3 t_4 (10 : Int32) (0 : Int64)))) 102 (moC v_5 (pzM L6 T7 (dp8 - 1) y_9))) R from
      Ev.ret (r := (some (.int (1 : Int32)))) (Or.inl ⟨_, rfl, by decide +kernel, _, rfl, rfl⟩) k1
    )
  )
section S71b
variable {G : ev_G} {d : Nat} {h : ev_H} {R : Option Value → ev_H → Prop} {B : Nat → Nat} {L : Nat} {v : MG} {T : Tk} {dp : Int32} {y : Int64}
theorem s_Mo_takesSign {c : Nat} {x : Int32} (m1 : hat h 102 (moC v (pzM L T dp y))) (X : TxM h B L) (HT : TkOk B L T) (hc : x = nI c ∧ sgnB c = true) (hR1 : T.1 = c → R (some (.int (1 : Int32))) (hset h 102 (moC v (pzM L (nx B L T) dp y)))) (hR2 : ¬ T.1 = c → R (some (.int (0 : Int32))) (hset h 102 (bdC v L T 2 dp y))) : Ev G (d + 3) 0 0 M_Mo_takesSign 0 [.ref 102, .int x] [] h R := by
  refine b_Mo_takesSign_0 m1 X HT hc ⟨_, m1⟩ (fun c1 => m1) (fun c1 => rfl) (fun c1 => ⟨_, m1⟩) (fun c1 => m1) (fun c1 => X) (fun c1 => HT.2.2.1) (fun c1 => ⟨_, m1⟩) (fun c1 => ?_) (fun c1 => ?_)
  · exact hR2 (of_decide_eq_false (b2i_e0 c1))
  · exact hR1 (of_decide_eq_true (b2i_n0 c1))
theorem dig_l {a b : Nat} (hb : 48 ≤ b ∧ b < 256) (k : Int64) (j : Nat) (hk : k = lN j) : k * lN a + (nI b).toInt64 - (48 : Int64) = lN (a * j + (b - 48)) := by
  subst hk
  have e1 : lN j * lN a = lN (j * a) := (Int64.ofNat_mul j a).symm
  have e2 : lN (j * a) + lN b = lN (j * a + b) := (Int64.ofNat_add (j * a) b).symm
  rw [nI_l (by omega), show (48 : Int64) = lN 48 from rfl, e1, e2, lN_sub' (by omega), Nat.mul_comm j a, show a * j + b - 48 = a * j + (b - 48) by omega]
theorem fr_n {v a b : Nat} (hv : v < 2147483648) (ha : a < 2147483648) (hb : b < 2147483648) : frB (lN v) (nI a).toInt64 (nI b).toInt64 = decide (a ≤ v ∧ v ≤ b) := by
  rw [nI_l ha, nI_l hb]
  unfold frB
  rw [Bool.eq_iff_iff, Bool.and_eq_true, decide_eq_true_iff, decide_eq_true_iff, decide_eq_true_iff, Int64.lt_iff_toInt_lt, Int64.lt_iff_toInt_lt, lN_toInt (by omega), lN_toInt (by omega), lN_toInt (by omega)]
  omega
theorem s_num {lo hi : Nat} {loI hiI : Int32} (m1 : hat h 102 (moC v (pzM L T dp y))) (X : TxM h B L) (HT : TkOk B L T) (hl : loI = nI lo ∧ lo < 2147483648) (hh : hiI = nI hi ∧ hi < 2147483648) (hR1 : (pNum B T lo hi).1 = 0 → R (some (.int (1 : Int32))) (hset h 102 (moC v (pzM L T dp (lN (pNum B T lo hi).2))))) (hR2 : ¬ (pNum B T lo hi).1 = 0 → ∀ y', R (some (.int (0 : Int32))) (hset h 102 (bdC v L T (pNum B T lo hi).1 dp y'))) : Ev G (d + 1) 0 0 M_Mo_isNumberHere 0 [.ref 102, .int loI, .int hiI, ev_unk] [] h R := by
  obtain ⟨rfl, hl⟩ := hl
  obtain ⟨rfl, hh⟩ := hh
  have hL := X.1
  have hle := HT.2.1
  have hleL := HT.2.2.1
  have u3 : nI (kdM T.1) = 3 ↔ T.1 = 48 := by rw [show (3 : Int32) = nI 3 from rfl, kd_I (by omega), kd_3]
  have sub : nI T.2.2 - nI T.2.1 = nI (T.2.2 - T.2.1) := nI_sub hle
  have u8 : (8 : Int32) < nI (T.2.2 - T.2.1) ↔ 8 < T.2.2 - T.2.1 := nI_ltI (a := 8) (by omega) (by omega)
  unfold pNum at hR1 hR2
  refine b_Mo_isNumberHere_0 m1 (fun _ _ => m1) (fun _ _ => rfl) (fun _ => m1) (fun _ => rfl) (fun c c2 => ?_) (fun c c2 => ?_) (fun c => ?_)
  · have c := u3.mp c
    have c2 : (8 : Int32) < nI T.2.2 - nI T.2.1 := c2
    rw [sub, u8] at c2
    rw [if_pos c, if_pos c2] at hR2
    exact hR2 (by show ¬ 3 = 0; omega) y
  · have c := u3.mp c
    have c2 : ¬ (8 : Int32) < nI T.2.2 - nI T.2.1 := c2
    rw [sub, u8] at c2
    rw [if_pos c, if_neg c2] at hR1 hR2
    obtain ⟨dl, -, dg⟩ := HT.2.2.2.1 c
    have dg : ∀ i, T.2.1 + i < T.2.2 → dgtB (B (T.2.1 + i)) = true := fun i hi => dg _ (by omega) hi
    have vb : ∀ i, T.2.1 + i ≤ T.2.2 → dvN B T.2.1 i < 10 ^ 8 := fun i hi => Nat.lt_of_lt_of_le (dvN_lt i fun k hk => dg k (by omega)) (Nat.pow_le_pow_right (by omega) (by omega))
    have LP := up0 (P := fun i => Ev G (d + 1) 0 0 M_Mo_isNumberHere 44 [.ref 102, .int (nI lo), .int (nI hi), .int (nI (T.2.1 + i))] [] (hset h 102 (moC v (pzM L T dp (lN (dvN B T.2.1 i))))) R) (T.2.2 - T.2.1) ?_ ?_
    · exact LP
    · intro i hij ih
      have m1 := hat_set m1 (c' := moC v (pzM L T dp (lN (dvN B T.2.1 i))))
      have X1 := X.set (c := moC v (pzM L T dp (lN (dvN B T.2.1 i))))
      have yes : nI (T.2.1 + i) < nI T.2.2 := nI_lt (by omega) (by omega)
      have q := of_decide_eq_true (dg i (by omega))
      refine b_Mo_isNumberHere_44 (dp23 := dp) (y_24 := y) (k_25 := 0) (L21 := L) (T22 := T) (v_20 := v) m1 (fun _ => m1) (fun _ => rfl) (fun _ => X1) (fun _ => ⟨rfl, by omega⟩) (fun k => absurd yes k) (fun k => absurd yes k) (fun _ => ?_) (fun k => absurd yes k) (fun k => absurd yes k) (fun k => absurd yes k)
      rw [hset_hset, nI_1]
      have ech : chM B L (T.2.1 + i) = nI (B (T.2.1 + i)) := if_pos (by omega)
      rw [ech]
      have e := dig_l (a := dvN B T.2.1 i) (b := B (T.2.1 + i)) (by omega) 10 10 rfl
      have e2 : ∀ w : Int64, w = lN (dvN B T.2.1 i * 10 + (B (T.2.1 + i) - 48)) → Ev G (d + 1) 0 0 M_Mo_isNumberHere 44 [.ref 102, .int (nI lo), .int (nI hi), .int (nI (T.2.1 + i + 1))] [] (hset h 102 (moC v (pzM L T dp w))) R := fun w ew => by subst ew; exact ih
      exact e2 _ e
    · have e1 : T.2.1 + (T.2.2 - T.2.1) = T.2.2 := by omega
      rw [e1]
      have m1' := hat_set m1 (c' := moC v (pzM L T dp (lN (dvN B T.2.1 (T.2.2 - T.2.1)))))
      have no := nl_self (n := T.2.2) (by omega)
      have vv := vb (T.2.2 - T.2.1) (by omega)
      have fb := fr_n (v := dvN B T.2.1 (T.2.2 - T.2.1)) (by omega) hl hh
      refine b_Mo_isNumberHere_44 (v_15 := v) (z_16 := pzM L T dp y) (B17 := B) (L18 := L) (j_19 := 0) m1' (fun k => absurd k no) (fun k => absurd k no) (fun k => absurd k no) (fun k => absurd k no) (fun _ _ => m1') (fun _ _ => rfl) (fun k => absurd k no) (fun _ k _ => ?_) (fun _ _ k => absurd rfl k) (fun _ k => ?_)
      · have k : b2i (frB (lN (dvN B T.2.1 (T.2.2 - T.2.1))) (nI lo).toInt64 (nI hi).toInt64) = 0 := k
        rw [fb] at k
        have k := of_decide_eq_false (b2i_e0 k)
        rw [hset_hset]
        by_cases a : dvN B T.2.1 (T.2.2 - T.2.1) < lo
        · rw [if_pos a] at hR2
          exact hR2 (by show ¬ 4 = 0; omega) _
        · rw [if_neg a, if_pos (by omega)] at hR2
          exact hR2 (by show ¬ 4 = 0; omega) _
      · have k : ¬ b2i (frB (lN (dvN B T.2.1 (T.2.2 - T.2.1))) (nI lo).toInt64 (nI hi).toInt64) = 0 := k
        rw [fb] at k
        have k := of_decide_eq_true (b2i_n0 k)
        rw [if_neg (by omega), if_neg (by omega)] at hR1
        exact hR1 rfl
  · have c : ¬ nI (kdM T.1) = 3 := c
    rw [if_neg (fun z => c (u3.mpr z))] at hR2
    exact hR2 (by show ¬ 2 = 0; omega) y
theorem s_bin {S : AS} (m1 : hat h 102 (moC v (pzM L T dp y))) (X : TxM h B L) (HT : TkOk B L T) (H : MS h S) (hb : sB S ≤ 48) (hR1 : (pBin B T (sB S)).1 = 0 → R (some (.int (1 : Int32))) (hset h 102 (moC v (pzM L T dp (pBin B T (sB S)).2)))) (hR2 : ¬ (pBin B T (sB S)).1 = 0 → ∀ y', R (some (.int (0 : Int32))) (hset h 102 (bdC v L T (pBin B T (sB S)).1 dp y'))) : Ev G (d + 2) 0 0 M_Mo_isBinaryHere 0 [.ref 102, ev_unk] [] h R := by
  have hL := X.1
  have hle := HT.2.1
  have hleL := HT.2.2.1
  have u3 : nI (kdM T.1) = 3 ↔ T.1 = 48 := by rw [show (3 : Int32) = nI 3 from rfl, kd_I (by omega), kd_3]
  have sub : nI T.2.2 - nI T.2.1 = nI (T.2.2 - T.2.1) := nI_sub hle
  have ub : nI (T.2.2 - T.2.1) = nI (sB S) ↔ T.2.2 - T.2.1 = sB S := nI_eq (by omega) (by omega)
  unfold pBin at hR1 hR2
  refine b_Mo_isBinaryHere_0 m1 (fun _ => H) (fun _ _ => m1) (fun _ _ => rfl) (fun _ => m1) (fun _ => rfl) (fun c c2 => ?_) (fun c c2 => ?_) (fun c => ?_)
  · have c := u3.mp c
    have c2 : nI T.2.2 - nI T.2.1 = nI (sB S) := c2
    rw [sub, ub] at c2
    rw [if_pos c, if_pos c2] at hR1 hR2
    obtain ⟨dl, -, dg⟩ := HT.2.2.2.1 c
    have dg : ∀ i, T.2.1 + i < T.2.2 → dgtB (B (T.2.1 + i)) = true := fun i hi => dg _ (by omega) hi
    have LP := up0 (P := fun i => (∀ k, k < i → B (T.2.1 + k) ≤ 49) → Ev G (d + 2) 0 0 M_Mo_isBinaryHere 46 [.ref 102, .int (nI (T.2.1 + i))] [] (hset h 102 (moC v (pzM L T dp (lN (bvN B T.2.1 i))))) R) (sB S) ?_ ?_
    · exact LP fun k hk => absurd hk (Nat.not_lt_zero k)
    · intro i hi ih hno
      have m1 := hat_set m1 (c' := moC v (pzM L T dp (lN (bvN B T.2.1 i))))
      have X1 := X.set (c := moC v (pzM L T dp (lN (bvN B T.2.1 i))))
      have yes : nI (T.2.1 + i) < nI T.2.2 := nI_lt (by omega) (by omega)
      have q := of_decide_eq_true (dg i (by omega))
      have ech : chM B L (T.2.1 + i) = nI (B (T.2.1 + i)) := if_pos (by omega)
      have u49 : (49 : Int32) < chM B L (T.2.1 + i) ↔ 49 < B (T.2.1 + i) := by rw [ech]; exact nI_ltI (a := 49) (by omega) (by omega)
      refine b_Mo_isBinaryHere_46 m1 (fun _ => m1) (fun _ => rfl) (fun _ => X1) (fun _ => ⟨rfl, by omega⟩) (fun _ _ => m1) (fun _ _ => rfl) (fun _ _ => m1) (fun _ _ => rfl) (fun _ _ => X1) (fun _ _ => ⟨rfl, by omega⟩) (fun _ k => ?_) (fun _ k => ?_) (fun k => absurd yes k)
      · rw [hset_hset]
        have k := u49.mp k
        rw [if_neg (fun z => by have := z i hi; omega)] at hR2
        exact hR2 (by show ¬ 3 = 0; omega) _
      · have k : ¬ 49 < B (T.2.1 + i) := fun z => k (u49.mpr z)
        rw [hset_hset, nI_1, ech]
        have e := dig_l (a := bvN B T.2.1 i) (b := B (T.2.1 + i)) (by omega) 2 2 rfl
        have e2 : ∀ w : Int64, w = lN (bvN B T.2.1 i * 2 + (B (T.2.1 + i) - 48)) → Ev G (d + 2) 0 0 M_Mo_isBinaryHere 46 [.ref 102, .int (nI (T.2.1 + i + 1))] [] (hset h 102 (moC v (pzM L T dp w))) R := fun w ew => by
          subst ew
          refine ih fun q hq => ?_
          by_cases e : q = i
          · subst e; omega
          · exact hno q (by omega)
        exact e2 _ e
    · intro hno
      have e1 : T.2.1 + sB S = T.2.2 := by omega
      rw [e1]
      have m1' := hat_set m1 (c' := moC v (pzM L T dp (lN (bvN B T.2.1 (sB S)))))
      have no := nl_self (n := T.2.2) (by omega)
      refine b_Mo_isBinaryHere_46 (v_15 := v) (z_16 := pzM L T dp y) (B17 := B) (L18 := L) (j_19 := 0) (v_20 := v) (L21 := L) (T22 := T) (dp23 := dp) (y_24 := y) (k_25 := 0) (v_26 := v) (z_27 := pzM L T dp y) (B28 := B) (L29 := L) (j_30 := 0) m1' (fun k => absurd k no) (fun k => absurd k no) (fun k => absurd k no) (fun k => absurd k no) (fun k => absurd k no) (fun k => absurd k no) (fun k => absurd k no) (fun k => absurd k no) (fun k => absurd k no) (fun k => absurd k no) (fun k => absurd k no) (fun k => absurd k no) (fun _ => ?_)
      rw [if_pos hno] at hR1
      exact hR1 rfl
  · have c := u3.mp c
    have c2 : ¬ nI T.2.2 - nI T.2.1 = nI (sB S) := c2
    rw [sub, ub] at c2
    rw [if_pos c, if_neg c2] at hR2
    exact hR2 (by show ¬ 3 = 0; omega) y
  · have c : ¬ nI (kdM T.1) = 3 := c
    rw [if_neg (fun z => c (u3.mpr z))] at hR2
    exact hR2 (by show ¬ 2 = 0; omega) y
theorem s_sinks {w : Nat} (m1 : hat h 102 (moC v (pzM L T (nI w) y))) (X : TxM h B L) (HT : TkOk B L T) (hw : w ≤ 6) (hR1 : w < 6 → R (some (.int (1 : Int32))) (hset h 102 (moC v (pzM L (nx B L T) (nI (w + 1)) y)))) (hR2 : w = 6 → R (some (.int (0 : Int32))) (hset h 102 (bdC v L T 6 (nI w) y))) : Ev G (d + 3) 0 0 M_Mo_sinks 0 [.ref 102] [] h R := by
  have u6 : nI w = 6 ↔ w = 6 := nI_eq (b := 6) (by omega) (by omega)
  refine b_Mo_sinks_0 m1 (fun _ => m1) (fun _ => rfl) (fun _ => hat_set (c' := moC v (pzM L T (nI w + 1) y)) m1) (fun _ => X.set) (fun _ => HT.2.2.1) (fun c => ?_) (fun c => ?_)
  · exact hR2 (u6.mp c)
  · rw [hset_hset, nI_1]
    exact hR1 (by have : ¬ w = 6 := fun z => c (u6.mpr z); omega)
end S71b
section S70b
variable {G : ev_G} {d : Nat} {h : ev_H} {R : Option Value → ev_H → Prop} {L : Nat} {v : MG} {T : Tk} {dp : Int32} {y : Int64}
theorem s_emitsNot {g : Nat → Int64} {t : Nat} (m1 : hat h 102 (moC v (pzM L T dp y))) (m2 : hat h 103 (aL 9758 g)) (e : g 3 = lN t ∧ t < 500) (hR : R (some (.int (1 : Int32))) (hset (hset h 103 (aL 9758 (emF g t 10 0))) 102 (moC v (pzM L T (dp - 1) y)))) : Ev G (d + 2) 0 0 M_Mo_emitsNot 0 [.ref 102] [] h R :=
  b_Mo_emitsNot_0 m1 m2 e ⟨_, m1⟩ (hat_ne m1 (by omega)) ⟨_, hat_ne m1 (by omega)⟩ hR
end S70b
