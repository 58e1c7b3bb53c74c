/-! the model's reader: bits, codes, filters, lines -/
theorem b_Mo_halves_0 {G : ev_G} {d k n : Nat} {h : ev_H} {R : Option Value → ev_H → Prop} 
  (r1 : ∃ fs, hat h 102 (oC 9 fs))
  (k1 : Ev G d 0 0 M_Mo_puts 0 [.ref 102, .int (1 : Int32), .long (2 : Int64), ev_unk] [] h (fun r h1 => Ev G (d + 1) k n M_Mo_halves 8 [.ref 102] (r.toList ++ []) h1 R))
  : Ev G (d + 1) k n M_Mo_halves 0 [.ref 102] [] h R :=
  Ev.go (pc' := 2) (ls' := [.ref 102]) (st' := [.int (1 : Int32), .ref 102]) [.aload_n 0, .iconst 1] (by decide +kernel) rfl <|
  Ev.ldc2 k_Mo_58 (by decide +kernel) <|
  Ev.cV0 (M' := M_Mo_puts) (as := [.int (1 : Int32), .long (2 : Int64)]) (rest := []) l_Mo_60 M_Mo_puts_ok M_Mo_puts_in M_Mo_puts_se (by decide +kernel) r1 rfl rfl rfl (Nat.le_of_ble_eq_true rfl) (Nat.le_of_ble_eq_true rfl) k1
theorem b_Mo_halves_8 {G : ev_G} {d k n : Nat} {h : ev_H} {R : Option Value → ev_H → Prop} {v_1 : MG} {z_2 : MP} {g_3 : Nat → Int64} {j_4 : Nat}
  (pr1 : hat h 102 (moC v_1 z_2))
  (pr2 : hat h 103 (aL 9758 g_3))
  (pr3 : ev_ix (0 : Int32) j_4 9758)
  (r4 : ∃ fs, hat h 102 (oC 9 fs))
  (k1 : Ev G d 0 0 M_Mo_puts 0 [.ref 102, .int (5 : Int32), .long ((g_3 j_4) / (2 : Int64)), ev_unk] [] h (fun r h1 => Ev G (d + 1) k n M_Mo_halves 22 [.ref 102] (r.toList ++ []) h1 R))
  : Ev G (d + 1) k n M_Mo_halves 8 [.ref 102] [] h R :=
  Ev.go (pc' := 12) (ls' := [.ref 102]) (st' := [.int (0 : Int32), .ref 102, .int (5 : Int32), .ref 102]) [.aload_n 0, .iconst 5, .aload_n 0, .iconst 0] (by decide +kernel) rfl <|
  Ev.cV0 (M' := M_Mo_of) (as := [.int (0 : Int32)]) (rest := [.int (5 : Int32), .ref 102]) l_Mo_64 M_Mo_of_ok M_Mo_of_in M_Mo_of_se (by decide +kernel) r4 rfl rfl rfl (Nat.le_of_ble_eq_true rfl) (Nat.le_of_ble_eq_true rfl) (s_Mo_of pr1 pr2 pr3 <| show Ev G (d + 1) _ _ M_Mo_halves 15 [.ref 102] [.long (g_3 j_4), .int (5 : Int32), .ref 102] h R from
    Ev.ldc2 k_Mo_58 (by decide +kernel) <|
    Ev.ldiv (by decide +kernel) (by decide) <|
    Ev.cV0 (M' := M_Mo_puts) (as := [.int (5 : Int32), .long ((g_3 j_4) / (2 : Int64))]) (rest := []) l_Mo_60 M_Mo_puts_ok M_Mo_puts_in M_Mo_puts_se (by decide +kernel) r4 rfl rfl rfl (Nat.le_of_ble_eq_true rfl) (Nat.le_of_ble_eq_true rfl) k1
  )
theorem b_Mo_halves_22 {G : ev_G} {d k n : Nat} {h : ev_H} {R : Option Value → ev_H → Prop} {v_1 : MG} {z_2 : MP} {g_3 : Nat → Int64} {j_4 : Nat} {v_5 : MG} {z_6 : MP} {g_7 : Nat → Int64} {j_8 : Nat}
  (pr1 : hat h 102 (moC v_1 z_2))
  (pr2 : hat h 103 (aL 9758 g_3))
  (pr3 : ev_ix (0 : Int32) j_4 9758)
  (r4 : ∃ fs, hat h 102 (oC 9 fs))
  (pr5 : hat h 102 (moC v_5 z_6))
  (pr6 : hat h 103 (aL 9758 g_7))
  (pr7 : ev_ix (5 : Int32) j_8 9758)
  (k1 : Ev G d 0 0 M_Mo_puts 0 [.ref 102, .int (4 : Int32), .long ((g_3 j_4) - (g_7 j_8)), ev_unk] [] h (fun r h1 => Ev G (d + 1) k n M_Mo_halves 38 [.ref 102] (r.toList ++ []) h1 R))
  : Ev G (d + 1) k n M_Mo_halves 22 [.ref 102] [] h R :=
  Ev.go (pc' := 26) (ls' := [.ref 102]) (st' := [.int (0 : Int32), .ref 102, .int (4 : Int32), .ref 102]) [.aload_n 0, .iconst 4, .aload_n 0, .iconst 0] (by decide +kernel) rfl <|
  Ev.cV0 (M' := M_Mo_of) (as := [.int (0 : Int32)]) (rest := [.int (4 : Int32), .ref 102]) l_Mo_64 M_Mo_of_ok M_Mo_of_in M_Mo_of_se (by decide +kernel) r4 rfl rfl rfl (Nat.le_of_ble_eq_true rfl) (Nat.le_of_ble_eq_true rfl) (s_Mo_of pr1 pr2 pr3 <| show Ev G (d + 1) _ _ M_Mo_halves 29 [.ref 102] [.long (g_3 j_4), .int (4 : Int32), .ref 102] h R from
    Ev.go (pc' := 31) (ls' := [.ref 102]) (st' := [.int (5 : Int32), .ref 102, .long (g_3 j_4), .int (4 : Int32), .ref 102]) [.aload_n 0, .iconst 5] (by decide +kernel) rfl <|
    Ev.cV0 (M' := M_Mo_of) (as := [.int (5 : Int32)]) (rest := [.long (g_3 j_4), .int (4 : Int32), .ref 102]) l_Mo_64 M_Mo_of_ok M_Mo_of_in M_Mo_of_se (by decide +kernel) r4 rfl rfl rfl (Nat.le_of_ble_eq_true rfl) (Nat.le_of_ble_eq_true rfl) (s_Mo_of pr5 pr6 pr7 <| show Ev G (d + 1) _ _ M_Mo_halves 34 [.ref 102] [.long (g_7 j_8), .long (g_3 j_4), .int (4 : Int32), .ref 102] h R from
      Ev.go (pc' := 35) (ls' := [.ref 102]) (st' := [.long ((g_3 j_4) - (g_7 j_8)), .int (4 : Int32), .ref 102]) [.lsub] (by decide +kernel) rfl <|
      Ev.cV0 (M' := M_Mo_puts) (as := [.int (4 : Int32), .long ((g_3 j_4) - (g_7 j_8))]) (rest := []) l_Mo_60 M_Mo_puts_ok M_Mo_puts_in M_Mo_puts_se (by decide +kernel) r4 rfl rfl rfl (Nat.le_of_ble_eq_true rfl) (Nat.le_of_ble_eq_true rfl) k1
    )
  )
theorem b_Mo_halves_38 {G : ev_G} {d k n : Nat} {h : ev_H} {R : Option Value → ev_H → Prop} 
  (k1 : R none h)
  : Ev G (d + 1) k n M_Mo_halves 38 [.ref 102] [] h R :=
  Ev.ret (r := none) (Or.inr (Or.inr (Or.inl ⟨rfl, by decide +kernel, rfl⟩))) k1
theorem b_Mo_begins_0 {G : ev_G} {d k n : Nat} {h : ev_H} {R : Option Value → ev_H → Prop} {x1 : Int32}
  (k1 : Ev G (d + 1) k n M_Mo_begins 2 [.ref 102, .int x1, .int (0 : Int32)] [] h R)
  : Ev G (d + 1) k n M_Mo_begins 0 [.ref 102, .int x1, ev_unk] [] h R :=
  Ev.go (pc' := 2) (ls' := [.ref 102, .int x1, .int (0 : Int32)]) (st' := []) [.iconst 0, .istore_n 2] (by decide +kernel) rfl <|
  k1
theorem b_Mo_begins_2 {G : ev_G} {d k n : Nat} {h : ev_H} {R : Option Value → ev_H → Prop} {x1 : Int32} {x2 : Int32}
  (r1 : x2 < (574 : Int32) → ∃ fs, hat h 102 (oC 9 fs))
  (r2 : ¬ x2 < (574 : Int32) → ∃ fs, hat h 102 (oC 9 fs))
  (k1 : x2 < (574 : Int32) → Ev G d 0 0 M_Mo_puts 0 [.ref 102, .int x2, .long (0 : Int64), ev_unk] [] h (fun r h1 => Ev G (d + 1) k n M_Mo_begins 15 [.ref 102, .int x1, .int x2] (r.toList ++ []) h1 R))
  (k2 : ¬ x2 < (574 : Int32) → Ev G d 0 0 M_Mo_puts 0 [.ref 102, .int (0 : Int32), .long x1.toInt64, ev_unk] [] h (fun r h1 => Ev G (d + 1) k n M_Mo_begins 28 [.ref 102, .int x1, .int x2] (r.toList ++ []) h1 R))
  : Ev G (d + 1) k n M_Mo_begins 2 [.ref 102, .int x1, .int x2] [] h R :=
  Ev.go (pc' := 6) (ls' := [.ref 102, .int x1, .int x2]) (st' := [.int (574 : Int32), .int x2]) [.iload_n 2, .sipush (574)] (by decide +kernel) rfl <|
  Ev.br (i := .if_icmp .ge (15)) (P := x2 < (574 : Int32)) (t := 9) (f := 21) (r := []) (by decide +kernel) rfl (fun c1 =>
    Ev.go (pc' := 12) (ls' := [.ref 102, .int x1, .int x2]) (st' := [.long (0 : Int64), .int x2, .ref 102]) [.aload_n 0, .iload_n 2, .lconst 0] (by decide +kernel) rfl <|
    Ev.cV0 (M' := M_Mo_puts) (as := [.int x2, .long (0 : Int64)]) (rest := []) l_Mo_60 M_Mo_puts_ok M_Mo_puts_in M_Mo_puts_se (by decide +kernel) (r1 c1) rfl rfl rfl (Nat.le_of_ble_eq_true rfl) (Nat.le_of_ble_eq_true rfl) (k1 c1)
  ) (fun c1 =>
    Ev.go (pc' := 25) (ls' := [.ref 102, .int x1, .int x2]) (st' := [.long x1.toInt64, .int (0 : Int32), .ref 102]) [.aload_n 0, .iconst 0, .iload_n 1, .i2l] (by decide +kernel) rfl <|
    Ev.cV0 (M' := M_Mo_puts) (as := [.int (0 : Int32), .long x1.toInt64]) (rest := []) l_Mo_60 M_Mo_puts_ok M_Mo_puts_in M_Mo_puts_se (by decide +kernel) (r2 c1) rfl rfl rfl (Nat.le_of_ble_eq_true rfl) (Nat.le_of_ble_eq_true rfl) (k2 c1)
  )
theorem b_Mo_begins_15 {G : ev_G} {d k n : Nat} {h : ev_H} {R : Option Value → ev_H → Prop} {x1 : Int32} {x2 : Int32}
  (k1 : Ev G (d + 1) k n M_Mo_begins 2 [.ref 102, .int x1, .int (x2 + (1 : Int32))] [] h R)
  : Ev G (d + 1) k n M_Mo_begins 15 [.ref 102, .int x1, .int x2] [] h R :=
  Ev.go (pc' := 2) (ls' := [.ref 102, .int x1, .int (x2 + (1 : Int32))]) (st' := []) [.iinc 2 (1), .goto (-16)] (by decide +kernel) rfl <|
  k1
theorem b_Mo_begins_28 {G : ev_G} {d k n : Nat} {h : ev_H} {R : Option Value → ev_H → Prop} {x1 : Int32} {x2 : Int32}
  (r1 : ∃ fs, hat h 102 (oC 9 fs))
  (k1 : Ev G d 0 0 M_Mo_halves 0 [.ref 102] [] h (fun r h1 => Ev G (d + 1) k n M_Mo_begins 32 [.ref 102, .int x1, .int x2] (r.toList ++ []) h1 R))
  : Ev G (d + 1) k n M_Mo_begins 28 [.ref 102, .int x1, .int x2] [] h R :=
  Ev.go (pc' := 29) (ls' := [.ref 102, .int x1, .int x2]) (st' := [.ref 102]) [.aload_n 0] (by decide +kernel) rfl <|
  Ev.cV0 (M' := M_Mo_halves) (as := []) (rest := []) l_Mo_68 M_Mo_halves_ok M_Mo_halves_in M_Mo_halves_se (by decide +kernel) r1 rfl rfl rfl (Nat.le_of_ble_eq_true rfl) (Nat.le_of_ble_eq_true rfl) k1
theorem b_Mo_begins_32 {G : ev_G} {d k n : Nat} {h : ev_H} {R : Option Value → ev_H → Prop} {x1 : Int32} {x2 : Int32}
  (k1 : R none h)
  : Ev G (d + 1) k n M_Mo_begins 32 [.ref 102, .int x1, .int x2] [] h R :=
  Ev.ret (r := none) (Or.inr (Or.inr (Or.inl ⟨rfl, by decide +kernel, rfl⟩))) k1
theorem b_Mo_theBits_0 {G : ev_G} {d k n : Nat} {h : ev_H} {R : Option Value → ev_H → Prop} {v_1 : MG} {L2 : Nat} {T3 : Tk} {dp4 : Int32} {y_5 : Int64} {B6 : Nat → Nat}
  (pr1 : hat h 102 (moC v_1 (pzM L2 T3 dp4 y_5)))
  (pr2 : TxM h B6 L2)
  (pr3 : T3.2.2 ≤ L2)
  (r4 : ∃ fs, hat h 102 (oC 9 fs))
  (r5 : ∃ fs, hat (hset h 102 (moC v_1 (pzM L2 (nx B6 L2 T3) dp4 y_5))) 102 (oC 9 fs))
  (k1 : Ev G (d + 1) 0 0 M_Mo_isNumberHere 0 [.ref 102, .int (4 : Int32), .int (48 : Int32), ev_unk] [] (hset h 102 (moC v_1 (pzM L2 (nx B6 L2 T3) dp4 y_5))) (fun r h1 => Ev G (d + 2) k n M_Mo_theBits 11 [.ref 102] (r.toList ++ []) h1 R))
  : Ev G (d + 2) k n M_Mo_theBits 0 [.ref 102] [] h R :=
  Ev.go (pc' := 1) (ls' := [.ref 102]) (st' := [.ref 102]) [.aload_n 0] (by decide +kernel) rfl <|
  Ev.cV0 (M' := M_Mo_ahead) (as := []) (rest := []) l_Mo_151 M_Mo_ahead_ok M_Mo_ahead_in M_Mo_ahead_se (by decide +kernel) r4 rfl rfl rfl (Nat.le_of_ble_eq_true rfl) (Nat.le_of_ble_eq_true rfl) (s_ahT pr1 pr2 pr3 <| show Ev G (d + 2) _ _ M_Mo_theBits 4 [.ref 102] [] (hset h 102 (moC v_1 (pzM L2 (nx B6 L2 T3) dp4 y_5))) R from
    Ev.go (pc' := 8) (ls' := [.ref 102]) (st' := [.int (48 : Int32), .int (4 : Int32), .ref 102]) [.aload_n 0, .iconst 4, .bipush (48)] (by decide +kernel) rfl <|
    Ev.cV0 (M' := M_Mo_isNumberHere) (as := [.int (4 : Int32), .int (48 : Int32)]) (rest := []) l_Mo_197 M_Mo_isNumberHere_ok M_Mo_isNumberHere_in M_Mo_isNumberHere_se (by decide +kernel) r5 rfl rfl rfl (Nat.le_of_ble_eq_true rfl) (Nat.le_of_ble_eq_true rfl) k1
  )
theorem b_Mo_theBits_11 {G : ev_G} {d k n : Nat} {h : ev_H} {R : Option Value → ev_H → Prop} {y0 : Int32} {f_status_1 : Int32} {f_acts_2 : Int32} {f_marks_3 : Int32} {f_taped_4 : Int32} {f_size_5 : Int32} {f_token_6 : Int32} {f_begin_7 : Int32} {f_end_8 : Int32} {f_faults_9 : Int32} {f_faultPlace_10 : Int32} {f_faultKind_11 : Int32} {f_deep_12 : Int32} {f_value_13 : Int64} {f_broadMany_14 : Int32}
  (a1 : hat h 102 (oC 9 [.ref 103, .int f_status_1, .int f_acts_2, .int f_marks_3, .ref 104, .ref 105, .ref 106, .int f_taped_4, .int f_size_5, .int f_token_6, .int f_begin_7, .int f_end_8, .int f_faults_9, .int f_faultPlace_10, .int f_faultKind_11, .int f_deep_12, .long f_value_13, .ref 107, .ref 108, .ref 109, .ref 116, .int f_broadMany_14, .ref 124, .ref 125]))
  (k1 : y0 = (0 : Int32) → R (some (.int (0 : Int32))) h)
  (k2 : ¬ y0 = (0 : Int32) → Ev G (d + 1) 0 0 M_Mo_puts 0 [.ref 102, .int (0 : Int32), .long f_value_13, ev_unk] [] h (fun r h1 => Ev G (d + 2) k n M_Mo_theBits 25 [.ref 102] (r.toList ++ []) h1 R))
  : Ev G (d + 2) k n M_Mo_theBits 11 [.ref 102] [.int y0] h R :=
  Ev.br (i := .ifCond .ne (5)) (P := y0 = (0 : Int32)) (t := 14) (f := 16) (r := []) (by decide +kernel) rfl (fun c1 =>
    Ev.go (pc' := 15) (ls' := [.ref 102]) (st' := [.int (0 : Int32)]) [.iconst 0] (by decide +kernel) rfl <|
    Ev.ret (r := (some (.int (0 : Int32)))) (Or.inl ⟨_, rfl, by decide +kernel, _, rfl, rfl⟩) (k1 c1)
  ) (fun c1 =>
    Ev.go (pc' := 19) (ls' := [.ref 102]) (st' := [.ref 102, .int (0 : Int32), .ref 102]) [.aload_n 0, .iconst 0, .aload_n 0] (by decide +kernel) rfl <|
    Ev.getf f_Mo_164 (by decide +kernel) a1 rfl <|
    Ev.cV0 (M' := M_Mo_puts) (as := [.int (0 : Int32), .long f_value_13]) (rest := []) l_Mo_60 M_Mo_puts_ok M_Mo_puts_in M_Mo_puts_se (by decide +kernel) ⟨_, a1⟩ rfl rfl rfl (Nat.le_of_ble_eq_true rfl) (Nat.le_of_ble_eq_true rfl) (k2 c1)
  )
theorem b_Mo_theBits_25 {G : ev_G} {d k n : Nat} {h : ev_H} {R : Option Value → ev_H → Prop} 
  (r1 : ∃ fs, hat h 102 (oC 9 fs))
  (k1 : Ev G (d + 1) 0 0 M_Mo_halves 0 [.ref 102] [] h (fun r h1 => Ev G (d + 2) k n M_Mo_theBits 29 [.ref 102] (r.toList ++ []) h1 R))
  : Ev G (d + 2) k n M_Mo_theBits 25 [.ref 102] [] h R :=
  Ev.go (pc' := 26) (ls' := [.ref 102]) (st' := [.ref 102]) [.aload_n 0] (by decide +kernel) rfl <|
  Ev.cV0 (M' := M_Mo_halves) (as := []) (rest := []) l_Mo_68 M_Mo_halves_ok M_Mo_halves_in M_Mo_halves_se (by decide +kernel) r1 rfl rfl rfl (Nat.le_of_ble_eq_true rfl) (Nat.le_of_ble_eq_true rfl) k1
theorem b_Mo_theBits_29 {G : ev_G} {d k n : Nat} {h : ev_H} {R : Option Value → ev_H → Prop} {v_1 : MG} {L2 : Nat} {T3 : Tk} {dp4 : Int32} {y_5 : Int64} {B6 : Nat → Nat}
  (pr1 : hat h 102 (moC v_1 (pzM L2 T3 dp4 y_5)))
  (pr2 : TxM h B6 L2)
  (pr3 : T3.2.2 ≤ L2)
  (r4 : ∃ fs, hat h 102 (oC 9 fs))
  (r5 : ∃ fs, hat (hset h 102 (moC v_1 (pzM L2 (nx B6 L2 T3) dp4 y_5))) 102 (oC 9 fs))
  (k1 : Ev G (d + 1) 0 0 M_Mo_takesSign 0 [.ref 102, .int (59 : Int32)] [] (hset h 102 (moC v_1 (pzM L2 (nx B6 L2 T3) dp4 y_5))) (fun r h1 => Ev G (d + 2) k n M_Mo_theBits 39 [.ref 102] (r.toList ++ []) h1 R))
  : Ev G (d + 2) k n M_Mo_theBits 29 [.ref 102] [] h R :=
  Ev.go (pc' := 30) (ls' := [.ref 102]) (st' := [.ref 102]) [.aload_n 0] (by decide +kernel) rfl <|
  Ev.cV0 (M' := M_Mo_ahead) (as := []) (rest := []) l_Mo_151 M_Mo_ahead_ok M_Mo_ahead_in M_Mo_ahead_se (by decide +kernel) r4 rfl rfl rfl (Nat.le_of_ble_eq_true rfl) (Nat.le_of_ble_eq_true rfl) (s_ahT pr1 pr2 pr3 <| show Ev G (d + 2) _ _ M_Mo_theBits 33 [.ref 102] [] (hset h 102 (moC v_1 (pzM L2 (nx B6 L2 T3) dp4 y_5))) R from
    Ev.go (pc' := 36) (ls' := [.ref 102]) (st' := [.int (59 : Int32), .ref 102]) [.aload_n 0, .bipush (59)] (by decide +kernel) rfl <|
    Ev.cV0 (M' := M_Mo_takesSign) (as := [.int (59 : Int32)]) (rest := []) l_Mo_210 M_Mo_takesSign_ok M_Mo_takesSign_in M_Mo_takesSign_se (by decide +kernel) r5 rfl rfl rfl (Nat.le_of_ble_eq_true rfl) (Nat.le_of_ble_eq_true rfl) k1
  )
theorem b_Mo_theBits_39 {G : ev_G} {d k n : Nat} {h : ev_H} {R : Option Value → ev_H → Prop} {y0 : Int32}
  (w1 : narrow .boolean (.int y0) = .int y0)
  (k1 : R (some (.int y0)) h)
  : Ev G (d + 2) k n M_Mo_theBits 39 [.ref 102] [.int y0] h R :=
  Ev.ret (r := (some (.int y0))) (Or.inl ⟨_, rfl, by decide +kernel, _, rfl, w1⟩) k1
theorem b_Mo_aCode_0 {G : ev_G} {d k n : Nat} {h : ev_H} {R : Option Value → ev_H → Prop} {S1 : AS} {v_2 : MG} {L3 : Nat} {T4 : Tk} {dp5 : Int32} {y_6 : Int64} {k_7 : Nat} {v_8 : MG} {L9 : Nat} {T10 : Tk} {dp11 : Int32} {y_12 : Int64} {B13 : Nat → Nat}
  (pr1 : MS h S1)
  (r2 : ∃ fs, hat h 102 (oC 9 fs))
  (pr3 : (nI (sN S1)) = (32 : Int32) → hat h 102 (moC v_2 (pzM L3 T4 dp5 y_6)))
  (pr4 : (nI (sN S1)) = (32 : Int32) → (6 : Int32) = nI k_7)
  (r5 : (nI (sN S1)) = (32 : Int32) → ∃ fs, hat h 102 (oC 9 fs))
  (pr6 : ¬ (nI (sN S1)) = (32 : Int32) → hat h 102 (moC v_8 (pzM L9 T10 dp11 y_12)))
  (pr7 : ¬ (nI (sN S1)) = (32 : Int32) → TxM h B13 L9)
  (pr8 : ¬ (nI (sN S1)) = (32 : Int32) → T10.2.2 ≤ L9)
  (r9 : ¬ (nI (sN S1)) = (32 : Int32) → ∃ fs, hat h 102 (oC 9 fs))
  (r10 : ¬ (nI (sN S1)) = (32 : Int32) → ∃ fs, hat (hset h 102 (moC v_8 (pzM L9 (nx B13 L9 T10) dp11 y_12))) 102 (oC 9 fs))
  (k1 : (nI (sN S1)) = (32 : Int32) → R (some (.int (0 : Int32))) (hset h 102 (bdC v_2 L3 T4 k_7 dp5 y_6)))
  (k2 : ¬ (nI (sN S1)) = (32 : Int32) → Ev G (d + 4) 0 0 M_Mo_isBinaryHere 0 [.ref 102, ev_unk] [] (hset h 102 (moC v_8 (pzM L9 (nx B13 L9 T10) dp11 y_12))) (fun r h1 => Ev G (d + 5) k n M_Mo_aCode 24 [.ref 102, ev_unk] (r.toList ++ []) h1 R))
  : Ev G (d + 5) k n M_Mo_aCode 0 [.ref 102, ev_unk] [] h R :=
  Ev.go (pc' := 1) (ls' := [.ref 102, ev_unk]) (st' := [.ref 102]) [.aload_n 0] (by decide +kernel) rfl <|
  Ev.cV0 (M' := M_Mo_many_0) (as := []) (rest := []) l_Mo_71 M_Mo_many_0_ok M_Mo_many_0_in M_Mo_many_0_se (by decide +kernel) r2 rfl rfl rfl (Nat.le_of_ble_eq_true rfl) (Nat.le_of_ble_eq_true rfl) (s_Mo_many_0 pr1 <| show Ev G (d + 5) _ _ M_Mo_aCode 4 [.ref 102, ev_unk] [.int (nI (sN S1))] h R from
    Ev.go (pc' := 6) (ls' := [.ref 102, ev_unk]) (st' := [.int (32 : Int32), .int (nI (sN S1))]) [.bipush (32)] (by decide +kernel) rfl <|
    Ev.br (i := .if_icmp .ne (10)) (P := (nI (sN S1)) = (32 : Int32)) (t := 9) (f := 16) (r := []) (by decide +kernel) rfl (fun c1 =>
      Ev.go (pc' := 12) (ls' := [.ref 102, ev_unk]) (st' := [.int (6 : Int32), .ref 102]) [.aload_n 0, .bipush (6)] (by decide +kernel) rfl <|
      Ev.cV0 (M' := M_Mo_fails) (as := [.int (6 : Int32)]) (rest := []) l_Mo_161 M_Mo_fails_ok M_Mo_fails_in M_Mo_fails_se (by decide +kernel) (r5 c1) rfl rfl rfl (Nat.le_of_ble_eq_true rfl) (Nat.le_of_ble_eq_true rfl) (s_Mo_fails (pr3 c1) (pr4 c1) <| show Ev G (d + 5) _ _ M_Mo_aCode 15 [.ref 102, ev_unk] [.int (0 : Int32)] (hset h 102 (bdC v_2 L3 T4 k_7 dp5 y_6)) R from
        Ev.ret (r := (some (.int (0 : Int32)))) (Or.inl ⟨_, rfl, by decide +kernel, _, rfl, rfl⟩) (k1 c1)
      )
    ) (fun c1 =>
      Ev.go (pc' := 17) (ls' := [.ref 102, ev_unk]) (st' := [.ref 102]) [.aload_n 0] (by decide +kernel) rfl <|
      Ev.cV0 (M' := M_Mo_ahead) (as := []) (rest := []) l_Mo_151 M_Mo_ahead_ok M_Mo_ahead_in M_Mo_ahead_se (by decide +kernel) (r9 c1) rfl rfl rfl (Nat.le_of_ble_eq_true rfl) (Nat.le_of_ble_eq_true rfl) (s_ahT (pr6 c1) (pr7 c1) (pr8 c1) <| show Ev G (d + 5) _ _ M_Mo_aCode 20 [.ref 102, ev_unk] [] (hset h 102 (moC v_8 (pzM L9 (nx B13 L9 T10) dp11 y_12))) R from
        Ev.go (pc' := 21) (ls' := [.ref 102, ev_unk]) (st' := [.ref 102]) [.aload_n 0] (by decide +kernel) rfl <|
        Ev.cV0 (M' := M_Mo_isBinaryHere) (as := []) (rest := []) l_Mo_194 M_Mo_isBinaryHere_ok M_Mo_isBinaryHere_in M_Mo_isBinaryHere_se (by decide +kernel) (r10 c1) rfl rfl rfl (Nat.le_of_ble_eq_true rfl) (Nat.le_of_ble_eq_true rfl) (k2 c1)
      )
    )
  )
theorem b_Mo_aCode_24 {G : ev_G} {d k n : Nat} {h : ev_H} {R : Option Value → ev_H → Prop} {y0 : Int32} {f_status_1 : Int32} {f_acts_2 : Int32} {f_marks_3 : Int32} {f_taped_4 : Int32} {f_size_5 : Int32} {f_token_6 : Int32} {f_begin_7 : Int32} {f_end_8 : Int32} {f_faults_9 : Int32} {f_faultPlace_10 : Int32} {f_faultKind_11 : Int32} {f_deep_12 : Int32} {f_value_13 : Int64} {f_broadMany_14 : Int32} {S15 : AS} {S16 : AS} {v_17 : MG} {L18 : Nat} {T19 : Tk} {dp20 : Int32} {y_21 : Int64} {k_22 : Nat}
  (a1 : hat h 102 (oC 9 [.ref 103, .int f_status_1, .int f_acts_2, .int f_marks_3, .ref 104, .ref 105, .ref 106, .int f_taped_4, .int f_size_5, .int f_token_6, .int f_begin_7, .int f_end_8, .int f_faults_9, .int f_faultPlace_10, .int f_faultKind_11, .int f_deep_12, .long f_value_13, .ref 107, .ref 108, .ref 109, .ref 116, .int f_broadMany_14, .ref 124, .ref 125]))
  (pr2 : ¬ y0 = (0 : Int32) → MS h S15)
  (pr3 : ¬ y0 = (0 : Int32) → sOk S15)
  (pr4 : ¬ y0 = (0 : Int32) → (frI (whP S15 f_value_13) (sN S15)) = (-1 : Int32) → MS h S16)
  (pr5 : ¬ y0 = (0 : Int32) → ¬ (frI (whP S15 f_value_13) (sN S15)) = (-1 : Int32) → hat h 102 (moC v_17 (pzM L18 T19 dp20 y_21)))
  (pr6 : ¬ y0 = (0 : Int32) → ¬ (frI (whP S15 f_value_13) (sN S15)) = (-1 : Int32) → (5 : Int32) = nI k_22)
  (k1 : y0 = (0 : Int32) → R (some (.int (0 : Int32))) h)
  (k2 : ¬ y0 = (0 : Int32) → (frI (whP S15 f_value_13) (sN S15)) = (-1 : Int32) → Ev G (d + 4) 0 0 M_Mo_puts 0 [.ref 102, .int ((10 : Int32) + (nI (sN S16))), .long f_value_13, ev_unk] [] h (fun r h1 => Ev G (d + 5) k n M_Mo_aCode 64 [.ref 102, .int (nI (sN S16))] (r.toList ++ []) h1 R))
  (k3 : ¬ y0 = (0 : Int32) → ¬ (frI (whP S15 f_value_13) (sN S15)) = (-1 : Int32) → R (some (.int (0 : Int32))) (hset h 102 (bdC v_17 L18 T19 k_22 dp20 y_21)))
  : Ev G (d + 5) k n M_Mo_aCode 24 [.ref 102, ev_unk] [.int y0] h R :=
  Ev.br (i := .ifCond .ne (5)) (P := y0 = (0 : Int32)) (t := 27) (f := 29) (r := []) (by decide +kernel) rfl (fun c1 =>
    Ev.go (pc' := 28) (ls' := [.ref 102, ev_unk]) (st' := [.int (0 : Int32)]) [.iconst 0] (by decide +kernel) rfl <|
    Ev.ret (r := (some (.int (0 : Int32)))) (Or.inl ⟨_, rfl, by decide +kernel, _, rfl, rfl⟩) (k1 c1)
  ) (fun c1 =>
    Ev.go (pc' := 31) (ls' := [.ref 102, ev_unk]) (st' := [.ref 102, .ref 102]) [.aload_n 0, .aload_n 0] (by decide +kernel) rfl <|
    Ev.getf f_Mo_164 (by decide +kernel) a1 rfl <|
    Ev.cV0 (M' := M_Mo_found) (as := [.long f_value_13]) (rest := []) l_Mo_217 M_Mo_found_ok M_Mo_found_in M_Mo_found_se (by decide +kernel) ⟨_, a1⟩ rfl rfl rfl (Nat.le_of_ble_eq_true rfl) (Nat.le_of_ble_eq_true rfl) (s_Mo_found (pr2 c1) (pr3 c1) <| show Ev G (d + 5) _ _ M_Mo_aCode 37 [.ref 102, ev_unk] [.int (frI (whP S15 f_value_13) (sN S15))] h R from
      Ev.go (pc' := 38) (ls' := [.ref 102, ev_unk]) (st' := [.int (-1 : Int32), .int (frI (whP S15 f_value_13) (sN S15))]) [.iconst (-1)] (by decide +kernel) rfl <|
      Ev.br (i := .if_icmp .eq (9)) (P := (frI (whP S15 f_value_13) (sN S15)) = (-1 : Int32)) (t := 47) (f := 41) (r := []) (by decide +kernel) rfl (fun c2 =>
        Ev.go (pc' := 48) (ls' := [.ref 102, ev_unk]) (st' := [.ref 102]) [.aload_n 0] (by decide +kernel) rfl <|
        Ev.cV0 (M' := M_Mo_many_0) (as := []) (rest := []) l_Mo_71 M_Mo_many_0_ok M_Mo_many_0_in M_Mo_many_0_se (by decide +kernel) ⟨_, a1⟩ rfl rfl rfl (Nat.le_of_ble_eq_true rfl) (Nat.le_of_ble_eq_true rfl) (s_Mo_many_0 (pr4 c1 c2) <| show Ev G (d + 5) _ _ M_Mo_aCode 51 [.ref 102, ev_unk] [.int (nI (sN S16))] h R from
          Ev.go (pc' := 58) (ls' := [.ref 102, .int (nI (sN S16))]) (st' := [.ref 102, .int ((10 : Int32) + (nI (sN S16))), .ref 102]) [.istore_n 1, .aload_n 0, .bipush (10), .iload_n 1, .iadd, .aload_n 0] (by decide +kernel) rfl <|
          Ev.getf f_Mo_164 (by decide +kernel) a1 rfl <|
          Ev.cV0 (M' := M_Mo_puts) (as := [.int ((10 : Int32) + (nI (sN S16))), .long f_value_13]) (rest := []) l_Mo_60 M_Mo_puts_ok M_Mo_puts_in M_Mo_puts_se (by decide +kernel) ⟨_, a1⟩ rfl rfl rfl (Nat.le_of_ble_eq_true rfl) (Nat.le_of_ble_eq_true rfl) (k2 c1 c2)
        )
      ) (fun c2 =>
        Ev.go (pc' := 43) (ls' := [.ref 102, ev_unk]) (st' := [.int (5 : Int32), .ref 102]) [.aload_n 0, .iconst 5] (by decide +kernel) rfl <|
        Ev.cV0 (M' := M_Mo_fails) (as := [.int (5 : Int32)]) (rest := []) l_Mo_161 M_Mo_fails_ok M_Mo_fails_in M_Mo_fails_se (by decide +kernel) ⟨_, a1⟩ rfl rfl rfl (Nat.le_of_ble_eq_true rfl) (Nat.le_of_ble_eq_true rfl) (s_Mo_fails (pr5 c1 c2) (pr6 c1 c2) <| show Ev G (d + 5) _ _ M_Mo_aCode 46 [.ref 102, ev_unk] [.int (0 : Int32)] (hset h 102 (bdC v_17 L18 T19 k_22 dp20 y_21)) R from
          Ev.ret (r := (some (.int (0 : Int32)))) (Or.inl ⟨_, rfl, by decide +kernel, _, rfl, rfl⟩) (k3 c1 c2)
        )
      )
    )
  )
theorem b_Mo_aCode_64 {G : ev_G} {d k n : Nat} {h : ev_H} {R : Option Value → ev_H → Prop} {x1 : Int32} {v_1 : MG} {L2 : Nat} {T3 : Tk} {dp4 : Int32} {y_5 : Int64} {B6 : Nat → Nat} {v_7 : MG} {L8 : Nat} {T9 : Tk} {dp10 : Int32} {y_11 : Int64} {B12 : Nat → Nat} {v_13 : MG} {L14 : Nat} {T15 : Tk} {dp16 : Int32} {y_17 : Int64} {B18 : Nat → Nat}
  (pr1 : hat h 102 (moC v_1 (pzM L2 T3 dp4 y_5)))
  (pr2 : TxM h B6 L2)
  (pr3 : T3.2.2 ≤ L2)
  (r4 : ∃ fs, hat h 102 (oC 9 fs))
  (pr5 : hat (hset h 102 (moC v_1 (pzM L2 (nx B6 L2 T3) dp4 y_5))) 102 (moC v_7 (pzM L8 T9 dp10 y_11)))
  (pr6 : TxM (hset h 102 (moC v_1 (pzM L2 (nx B6 L2 T3) dp4 y_5))) B12 L8)
  (pr7 : TkOk B12 L8 T9)
  (r8 : ∃ fs, hat (hset h 102 (moC v_1 (pzM L2 (nx B6 L2 T3) dp4 y_5))) 102 (oC 9 fs))
  (pr9 : (keM B12 T9) = (3 : Int32) → hat (hset h 102 (moC v_1 (pzM L2 (nx B6 L2 T3) dp4 y_5))) 102 (moC v_13 (pzM L14 T15 dp16 y_17)))
  (pr10 : (keM B12 T9) = (3 : Int32) → TxM (hset h 102 (moC v_1 (pzM L2 (nx B6 L2 T3) dp4 y_5))) B18 L14)
  (pr11 : (keM B12 T9) = (3 : Int32) → T15.2.2 ≤ L14)
  (r12 : (keM B12 T9) = (3 : Int32) → ∃ fs, hat (hset h 102 (moC v_1 (pzM L2 (nx B6 L2 T3) dp4 y_5))) 102 (oC 9 fs))
  (r13 : (keM B12 T9) = (3 : Int32) → ∃ fs, hat (hset (hset h 102 (moC v_1 (pzM L2 (nx B6 L2 T3) dp4 y_5))) 102 (moC v_13 (pzM L14 (nx B18 L14 T15) dp16 y_17))) 102 (oC 9 fs))
  (r14 : ¬ (keM B12 T9) = (3 : Int32) → ∃ fs, hat (hset h 102 (moC v_1 (pzM L2 (nx B6 L2 T3) dp4 y_5))) 102 (oC 9 fs))
  (k1 : (keM B12 T9) = (3 : Int32) → Ev G (d + 4) 0 0 M_Mo_isNumberHere 0 [.ref 102, .int (0 : Int32), .int (9 : Int32), ev_unk] [] (hset (hset h 102 (moC v_1 (pzM L2 (nx B6 L2 T3) dp4 y_5))) 102 (moC v_13 (pzM L14 (nx B18 L14 T15) dp16 y_17))) (fun r h1 => Ev G (d + 5) k n M_Mo_aCode 87 [.ref 102, .int x1] (r.toList ++ []) h1 R))
  (k2 : ¬ (keM B12 T9) = (3 : Int32) → Ev G (d + 4) 0 0 M_Mo_puts 0 [.ref 102, .int (2 : Int32), .long (x1.toInt64 + (1 : Int64)), ev_unk] [] (hset h 102 (moC v_1 (pzM L2 (nx B6 L2 T3) dp4 y_5))) (fun r h1 => Ev G (d + 5) k n M_Mo_aCode 117 [.ref 102, .int x1] (r.toList ++ []) h1 R))
  : Ev G (d + 5) k n M_Mo_aCode 64 [.ref 102, .int x1] [] h R :=
  Ev.go (pc' := 65) (ls' := [.ref 102, .int x1]) (st' := [.ref 102]) [.aload_n 0] (by decide +kernel) rfl <|
  Ev.cV0 (M' := M_Mo_ahead) (as := []) (rest := []) l_Mo_151 M_Mo_ahead_ok M_Mo_ahead_in M_Mo_ahead_se (by decide +kernel) r4 rfl rfl rfl (Nat.le_of_ble_eq_true rfl) (Nat.le_of_ble_eq_true rfl) (s_ahT pr1 pr2 pr3 <| show Ev G (d + 5) _ _ M_Mo_aCode 68 [.ref 102, .int x1] [] (hset h 102 (moC v_1 (pzM L2 (nx B6 L2 T3) dp4 y_5))) R from
    Ev.go (pc' := 69) (ls' := [.ref 102, .int x1]) (st' := [.ref 102]) [.aload_n 0] (by decide +kernel) rfl <|
    Ev.cV0 (M' := M_Mo_key_0) (as := []) (rest := []) l_Mo_188 M_Mo_key_0_ok M_Mo_key_0_in M_Mo_key_0_se (by decide +kernel) r8 rfl rfl rfl (Nat.le_of_ble_eq_true rfl) (Nat.le_of_ble_eq_true rfl) (s_Mo_key_0 pr5 pr6 pr7 <| show Ev G (d + 5) _ _ M_Mo_aCode 72 [.ref 102, .int x1] [.int (keM B12 T9)] (hset h 102 (moC v_1 (pzM L2 (nx B6 L2 T3) dp4 y_5))) R from
      Ev.go (pc' := 73) (ls' := [.ref 102, .int x1]) (st' := [.int (3 : Int32), .int (keM B12 T9)]) [.iconst 3] (by decide +kernel) rfl <|
      Ev.br (i := .if_icmp .ne (35)) (P := (keM B12 T9) = (3 : Int32)) (t := 76) (f := 108) (r := []) (by decide +kernel) rfl (fun c1 =>
        Ev.go (pc' := 77) (ls' := [.ref 102, .int x1]) (st' := [.ref 102]) [.aload_n 0] (by decide +kernel) rfl <|
        Ev.cV0 (M' := M_Mo_ahead) (as := []) (rest := []) l_Mo_151 M_Mo_ahead_ok M_Mo_ahead_in M_Mo_ahead_se (by decide +kernel) (r12 c1) rfl rfl rfl (Nat.le_of_ble_eq_true rfl) (Nat.le_of_ble_eq_true rfl) (s_ahT (pr9 c1) (pr10 c1) (pr11 c1) <| show Ev G (d + 5) _ _ M_Mo_aCode 80 [.ref 102, .int x1] [] (hset (hset h 102 (moC v_1 (pzM L2 (nx B6 L2 T3) dp4 y_5))) 102 (moC v_13 (pzM L14 (nx B18 L14 T15) dp16 y_17))) R from
          Ev.go (pc' := 84) (ls' := [.ref 102, .int x1]) (st' := [.int (9 : Int32), .int (0 : Int32), .ref 102]) [.aload_n 0, .iconst 0, .bipush (9)] (by decide +kernel) rfl <|
          Ev.cV0 (M' := M_Mo_isNumberHere) (as := [.int (0 : Int32), .int (9 : Int32)]) (rest := []) l_Mo_197 M_Mo_isNumberHere_ok M_Mo_isNumberHere_in M_Mo_isNumberHere_se (by decide +kernel) (r13 c1) rfl rfl rfl (Nat.le_of_ble_eq_true rfl) (Nat.le_of_ble_eq_true rfl) (k1 c1)
        )
      ) (fun c1 =>
        Ev.go (pc' := 114) (ls' := [.ref 102, .int x1]) (st' := [.long (x1.toInt64 + (1 : Int64)), .int (2 : Int32), .ref 102]) [.aload_n 0, .iconst 2, .iload_n 1, .i2l, .lconst 1, .ladd] (by decide +kernel) rfl <|
        Ev.cV0 (M' := M_Mo_puts) (as := [.int (2 : Int32), .long (x1.toInt64 + (1 : Int64))]) (rest := []) l_Mo_60 M_Mo_puts_ok M_Mo_puts_in M_Mo_puts_se (by decide +kernel) (r14 c1) rfl rfl rfl (Nat.le_of_ble_eq_true rfl) (Nat.le_of_ble_eq_true rfl) (k2 c1)
      )
    )
  )
theorem b_Mo_aCode_87 {G : ev_G} {d k n : Nat} {h : ev_H} {R : Option Value → ev_H → Prop} {x1 : Int32} {y0 : Int32} {f_status_1 : Int32} {f_acts_2 : Int32} {f_marks_3 : Int32} {f_taped_4 : Int32} {f_size_5 : Int32} {f_token_6 : Int32} {f_begin_7 : Int32} {f_end_8 : Int32} {f_faults_9 : Int32} {f_faultPlace_10 : Int32} {f_faultKind_11 : Int32} {f_deep_12 : Int32} {f_value_13 : Int64} {f_broadMany_14 : Int32}
  (a1 : hat h 102 (oC 9 [.ref 103, .int f_status_1, .int f_acts_2, .int f_marks_3, .ref 104, .ref 105, .ref 106, .int f_taped_4, .int f_size_5, .int f_token_6, .int f_begin_7, .int f_end_8, .int f_faults_9, .int f_faultPlace_10, .int f_faultKind_11, .int f_deep_12, .long f_value_13, .ref 107, .ref 108, .ref 109, .ref 116, .int f_broadMany_14, .ref 124, .ref 125]))
  (k1 : y0 = (0 : Int32) → R (some (.int (0 : Int32))) h)
  (k2 : ¬ y0 = (0 : Int32) → Ev G (d + 4) 0 0 M_Mo_puts 0 [.ref 102, .int ((42 : Int32) + x1), .long f_value_13, ev_unk] [] h (fun r h1 => Ev G (d + 5) k n M_Mo_aCode 104 [.ref 102, .int x1] (r.toList ++ []) h1 R))
  : Ev G (d + 5) k n M_Mo_aCode 87 [.ref 102, .int x1] [.int y0] h R :=
  Ev.br (i := .ifCond .ne (5)) (P := y0 = (0 : Int32)) (t := 90) (f := 92) (r := []) (by decide +kernel) rfl (fun c1 =>
    Ev.go (pc' := 91) (ls' := [.ref 102, .int x1]) (st' := [.int (0 : Int32)]) [.iconst 0] (by decide +kernel) rfl <|
    Ev.ret (r := (some (.int (0 : Int32)))) (Or.inl ⟨_, rfl, by decide +kernel, _, rfl, rfl⟩) (k1 c1)
  ) (fun c1 =>
    Ev.go (pc' := 98) (ls' := [.ref 102, .int x1]) (st' := [.ref 102, .int ((42 : Int32) + x1), .ref 102]) [.aload_n 0, .bipush (42), .iload_n 1, .iadd, .aload_n 0] (by decide +kernel) rfl <|
    Ev.getf f_Mo_164 (by decide +kernel) a1 rfl <|
    Ev.cV0 (M' := M_Mo_puts) (as := [.int ((42 : Int32) + x1), .long f_value_13]) (rest := []) l_Mo_60 M_Mo_puts_ok M_Mo_puts_in M_Mo_puts_se (by decide +kernel) ⟨_, a1⟩ rfl rfl rfl (Nat.le_of_ble_eq_true rfl) (Nat.le_of_ble_eq_true rfl) (k2 c1)
  )
theorem b_Mo_aCode_104 {G : ev_G} {d k n : Nat} {h : ev_H} {R : Option Value → ev_H → Prop} {x1 : Int32} {v_1 : MG} {L2 : Nat} {T3 : Tk} {dp4 : Int32} {y_5 : Int64} {B6 : Nat → Nat}
  (pr1 : hat h 102 (moC v_1 (pzM L2 T3 dp4 y_5)))
  (pr2 : TxM h B6 L2)
  (pr3 : T3.2.2 ≤ L2)
  (r4 : ∃ fs, hat h 102 (oC 9 fs))
  (r5 : ∃ fs, hat (hset h 102 (moC v_1 (pzM L2 (nx B6 L2 T3) dp4 y_5))) 102 (oC 9 fs))
  (k1 : Ev G (d + 4) 0 0 M_Mo_puts 0 [.ref 102, .int (2 : Int32), .long (x1.toInt64 + (1 : Int64)), ev_unk] [] (hset h 102 (moC v_1 (pzM L2 (nx B6 L2 T3) dp4 y_5))) (fun r h1 => Ev G (d + 5) k n M_Mo_aCode 117 [.ref 102, .int x1] (r.toList ++ []) h1 R))
  : Ev G (d + 5) k n M_Mo_aCode 104 [.ref 102, .int x1] [] h R :=
  Ev.go (pc' := 105) (ls' := [.ref 102, .int x1]) (st' := [.ref 102]) [.aload_n 0] (by decide +kernel) rfl <|
  Ev.cV0 (M' := M_Mo_ahead) (as := []) (rest := []) l_Mo_151 M_Mo_ahead_ok M_Mo_ahead_in M_Mo_ahead_se (by decide +kernel) r4 rfl rfl rfl (Nat.le_of_ble_eq_true rfl) (Nat.le_of_ble_eq_true rfl) (s_ahT pr1 pr2 pr3 <| show Ev G (d + 5) _ _ M_Mo_aCode 108 [.ref 102, .int x1] [] (hset h 102 (moC v_1 (pzM L2 (nx B6 L2 T3) dp4 y_5))) R from
    Ev.go (pc' := 114) (ls' := [.ref 102, .int x1]) (st' := [.long (x1.toInt64 + (1 : Int64)), .int (2 : Int32), .ref 102]) [.aload_n 0, .iconst 2, .iload_n 1, .i2l, .lconst 1, .ladd] (by decide +kernel) rfl <|
    Ev.cV0 (M' := M_Mo_puts) (as := [.int (2 : Int32), .long (x1.toInt64 + (1 : Int64))]) (rest := []) l_Mo_60 M_Mo_puts_ok M_Mo_puts_in M_Mo_puts_se (by decide +kernel) r5 rfl rfl rfl (Nat.le_of_ble_eq_true rfl) (Nat.le_of_ble_eq_true rfl) k1
  )
theorem b_Mo_aCode_117 {G : ev_G} {d k n : Nat} {h : ev_H} {R : Option Value → ev_H → Prop} {x1 : Int32}
  (k1 : R (some (.int (1 : Int32))) h)
  : Ev G (d + 5) k n M_Mo_aCode 117 [.ref 102, .int x1] [] h R :=
  Ev.go (pc' := 118) (ls' := [.ref 102, .int x1]) (st' := [.int (1 : Int32)]) [.iconst 1] (by decide +kernel) rfl <|
  Ev.ret (r := (some (.int (1 : Int32)))) (Or.inl ⟨_, rfl, by decide +kernel, _, rfl, rfl⟩) k1
theorem b_Mo_aFilter_0 {G : ev_G} {d k n : Nat} {h : ev_H} {R : Option Value → ev_H → Prop} {v_1 : MG} {z_2 : MP} {g_3 : Nat → Int64} {j_4 : Nat} {v_5 : MG} {L6 : Nat} {T7 : Tk} {dp8 : Int32} {y_9 : Int64} {k_10 : Nat} {v_11 : MG} {L12 : Nat} {T13 : Tk} {dp14 : Int32} {y_15 : Int64} {B16 : Nat → Nat} {f_status_17 : Int32} {f_acts_18 : Int32} {f_marks_19 : Int32} {f_taped_20 : Int32} {f_size_21 : Int32} {f_token_22 : Int32} {f_begin_23 : Int32} {f_end_24 : Int32} {f_faults_25 : Int32} {f_faultPlace_26 : Int32} {f_faultKind_27 : Int32} {f_deep_28 : Int32} {f_value_29 : Int64} {f_broadMany_30 : Int32}
  (a12 : ¬ (0 : Int64) < (g_3 j_4) → hat (hset h 102 (moC v_11 (pzM L12 (nx B16 L12 T13) dp14 y_15))) 102 (oC 9 [.ref 103, .int f_status_17, .int f_acts_18, .int f_marks_19, .ref 104, .ref 105, .ref 106, .int f_taped_20, .int f_size_21, .int f_token_22, .int f_begin_23, .int f_end_24, .int f_faults_25, .int f_faultPlace_26, .int f_faultKind_27, .int f_deep_28, .long f_value_29, .ref 107, .ref 108, .ref 109, .ref 116, .int f_broadMany_30, .ref 124, .ref 125]))
  (pr1 : hat h 102 (moC v_1 z_2))
  (pr2 : hat h 103 (aL 9758 g_3))
  (pr3 : ev_ix (3 : Int32) j_4 9758)
  (r4 : ∃ fs, hat h 102 (oC 9 fs))
  (pr5 : (0 : Int64) < (g_3 j_4) → hat h 102 (moC v_5 (pzM L6 T7 dp8 y_9)))
  (pr6 : (0 : Int64) < (g_3 j_4) → (5 : Int32) = nI k_10)
  (r7 : (0 : Int64) < (g_3 j_4) → ∃ fs, hat h 102 (oC 9 fs))
  (pr8 : ¬ (0 : Int64) < (g_3 j_4) → hat h 102 (moC v_11 (pzM L12 T13 dp14 y_15)))
  (pr9 : ¬ (0 : Int64) < (g_3 j_4) → TxM h B16 L12)
  (pr10 : ¬ (0 : Int64) < (g_3 j_4) → T13.2.2 ≤ L12)
  (r11 : ¬ (0 : Int64) < (g_3 j_4) → ∃ fs, hat h 102 (oC 9 fs))
  (k1 : (0 : Int64) < (g_3 j_4) → R (some (.int (0 : Int32))) (hset h 102 (bdC v_5 L6 T7 k_10 dp8 y_9)))
  (k2 : ¬ (0 : Int64) < (g_3 j_4) → Ev G (d + 1) 0 0 M_Mo_test 0 [.ref 102] [] (hset (hset h 102 (moC v_11 (pzM L12 (nx B16 L12 T13) dp14 y_15))) 102 (oC 9 [.ref 103, .int f_status_17, .int f_acts_18, .int f_marks_19, .ref 104, .ref 105, .ref 106, .int f_taped_20, .int f_size_21, .int f_token_22, .int f_begin_23, .int f_end_24, .int f_faults_25, .int f_faultPlace_26, .int f_faultKind_27, .int (0 : Int32), .long f_value_29, .ref 107, .ref 108, .ref 109, .ref 116, .int f_broadMany_30, .ref 124, .ref 125])) (fun r h1 => Ev G (d + 2) k n M_Mo_aFilter 29 [.ref 102] (r.toList ++ []) h1 R))
  : Ev G (d + 2) k n M_Mo_aFilter 0 [.ref 102] [] h R :=
  Ev.go (pc' := 2) (ls' := [.ref 102]) (st' := [.int (3 : Int32), .ref 102]) [.aload_n 0, .iconst 3] (by decide +kernel) rfl <|
  Ev.cV0 (M' := M_Mo_of) (as := [.int (3 : Int32)]) (rest := []) l_Mo_64 M_Mo_of_ok M_Mo_of_in M_Mo_of_se (by decide +kernel) r4 rfl rfl rfl (Nat.le_of_ble_eq_true rfl) (Nat.le_of_ble_eq_true rfl) (s_Mo_of pr1 pr2 pr3 <| show Ev G (d + 2) _ _ M_Mo_aFilter 5 [.ref 102] [.long (g_3 j_4)] h R from
    Ev.go (pc' := 6) (ls' := [.ref 102]) (st' := [.long (0 : Int64), .long (g_3 j_4)]) [.lconst 0] (by decide +kernel) rfl <|
    Ev.brl (c := .le) (o := 9) (P := (0 : Int64) < (g_3 j_4)) (t := 10) (f := 16) (t1 := 16) (by decide +kernel) (by decide +kernel) rfl rfl (fun c1 =>
      Ev.go (pc' := 12) (ls' := [.ref 102]) (st' := [.int (5 : Int32), .ref 102]) [.aload_n 0, .iconst 5] (by decide +kernel) rfl <|
      Ev.cV0 (M' := M_Mo_fails) (as := [.int (5 : Int32)]) (rest := []) l_Mo_161 M_Mo_fails_ok M_Mo_fails_in M_Mo_fails_se (by decide +kernel) (r7 c1) rfl rfl rfl (Nat.le_of_ble_eq_true rfl) (Nat.le_of_ble_eq_true rfl) (s_Mo_fails (pr5 c1) (pr6 c1) <| show Ev G (d + 2) _ _ M_Mo_aFilter 15 [.ref 102] [.int (0 : Int32)] (hset h 102 (bdC v_5 L6 T7 k_10 dp8 y_9)) R from
        Ev.ret (r := (some (.int (0 : Int32)))) (Or.inl ⟨_, rfl, by decide +kernel, _, rfl, rfl⟩) (k1 c1)
      )
    ) (fun c1 =>
      Ev.go (pc' := 17) (ls' := [.ref 102]) (st' := [.ref 102]) [.aload_n 0] (by decide +kernel) rfl <|
      Ev.cV0 (M' := M_Mo_ahead) (as := []) (rest := []) l_Mo_151 M_Mo_ahead_ok M_Mo_ahead_in M_Mo_ahead_se (by decide +kernel) (r11 c1) rfl rfl rfl (Nat.le_of_ble_eq_true rfl) (Nat.le_of_ble_eq_true rfl) (s_ahT (pr8 c1) (pr9 c1) (pr10 c1) <| show Ev G (d + 2) _ _ M_Mo_aFilter 20 [.ref 102] [] (hset h 102 (moC v_11 (pzM L12 (nx B16 L12 T13) dp14 y_15))) R from
        Ev.go (pc' := 22) (ls' := [.ref 102]) (st' := [.int (0 : Int32), .ref 102]) [.aload_n 0, .iconst 0] (by decide +kernel) rfl <|
        Ev.putf f_Mo_176 (by decide +kernel) (a12 c1) (Nat.le_of_ble_eq_true rfl) rfl (fun q => nomatch q) <| show Ev G (d + 2) _ _ M_Mo_aFilter 25 [.ref 102] [] (hset (hset h 102 (moC v_11 (pzM L12 (nx B16 L12 T13) dp14 y_15))) 102 (oC 9 [.ref 103, .int f_status_17, .int f_acts_18, .int f_marks_19, .ref 104, .ref 105, .ref 106, .int f_taped_20, .int f_size_21, .int f_token_22, .int f_begin_23, .int f_end_24, .int f_faults_25, .int f_faultPlace_26, .int f_faultKind_27, .int (0 : Int32), .long f_value_29, .ref 107, .ref 108, .ref 109, .ref 116, .int f_broadMany_30, .ref 124, .ref 125])) R from
        Ev.go (pc' := 26) (ls' := [.ref 102]) (st' := [.ref 102]) [.aload_n 0] (by decide +kernel) rfl <|
        Ev.cV0 (M' := M_Mo_test) (as := []) (rest := []) l_Mo_207 M_Mo_test_ok M_Mo_test_in M_Mo_test_se (by decide +kernel) ⟨_, (hat_set (a12 c1))⟩ rfl rfl rfl (Nat.le_of_ble_eq_true rfl) (Nat.le_of_ble_eq_true rfl) (k2 c1)
      )
    )
  )
theorem b_Mo_aFilter_29 {G : ev_G} {d k n : Nat} {h : ev_H} {R : Option Value → ev_H → Prop} {y0 : Int32}
  (w1 : narrow .boolean (.int y0) = .int y0)
  (k1 : R (some (.int y0)) h)
  : Ev G (d + 2) k n M_Mo_aFilter 29 [.ref 102] [.int y0] h R :=
  Ev.ret (r := (some (.int y0))) (Or.inl ⟨_, rfl, by decide +kernel, _, rfl, w1⟩) k1
theorem b_Mo_aLine_0 {G : ev_G} {d k n : Nat} {h : ev_H} {R : Option Value → ev_H → Prop} {v_1 : MG} {L2 : Nat} {T3 : Tk} {dp4 : Int32} {y_5 : Int64} {B6 : Nat → Nat} {v_7 : MG} {L8 : Nat} {T9 : Tk} {dp10 : Int32} {y_11 : Int64} {k_12 : Nat}
  (pr1 : hat h 102 (moC v_1 (pzM L2 T3 dp4 y_5)))
  (pr2 : TxM h B6 L2)
  (pr3 : TkOk B6 L2 T3)
  (r4 : ∃ fs, hat h 102 (oC 9 fs))
  (r5 : (keM B6 T3) = (2 : Int32) → ∃ fs, hat h 102 (oC 9 fs))
  (r6 : ¬ (keM B6 T3) = (2 : Int32) → (keM B6 T3) = (4 : Int32) → ∃ fs, hat h 102 (oC 9 fs))
  (pr7 : ¬ (keM B6 T3) = (2 : Int32) → ¬ (keM B6 T3) = (4 : Int32) → hat h 102 (moC v_7 (pzM L8 T9 dp10 y_11)))
  (pr8 : ¬ (keM B6 T3) = (2 : Int32) → ¬ (keM B6 T3) = (4 : Int32) → (2 : Int32) = nI k_12)
  (r9 : ¬ (keM B6 T3) = (2 : Int32) → ¬ (keM B6 T3) = (4 : Int32) → ∃ fs, hat h 102 (oC 9 fs))
  (r10 : ¬ (keM B6 T3) = (2 : Int32) → ¬ (keM B6 T3) = (4 : Int32) → ¬ (0 : Int32) = (0 : Int32) → ∃ fs, hat (hset h 102 (bdC v_7 L8 T9 k_12 dp10 y_11)) 102 (oC 9 fs))
  (k1 : (keM B6 T3) = (2 : Int32) → Ev G (d + 4) 0 0 M_Mo_aCode 0 [.ref 102, ev_unk] [] h (fun r h1 => Ev G (d + 5) k n M_Mo_aLine 14 [.ref 102, .int (keM B6 T3), ev_unk] (r.toList ++ []) h1 R))
  (k2 : ¬ (keM B6 T3) = (2 : Int32) → (keM B6 T3) = (4 : Int32) → Ev G (d + 4) 0 0 M_Mo_aFilter 0 [.ref 102] [] h (fun r h1 => Ev G (d + 5) k n M_Mo_aLine 26 [.ref 102, .int (keM B6 T3), ev_unk] (r.toList ++ []) h1 R))
  (k3 : ¬ (keM B6 T3) = (2 : Int32) → ¬ (keM B6 T3) = (4 : Int32) → (0 : Int32) = (0 : Int32) → R (some (.int (0 : Int32))) (hset h 102 (bdC v_7 L8 T9 k_12 dp10 y_11)))
  (k4 : ¬ (keM B6 T3) = (2 : Int32) → ¬ (keM B6 T3) = (4 : Int32) → ¬ (0 : Int32) = (0 : Int32) → Ev G (d + 4) 0 0 M_Mo_takesSign 0 [.ref 102, .int (59 : Int32)] [] (hset h 102 (bdC v_7 L8 T9 k_12 dp10 y_11)) (fun r h1 => Ev G (d + 5) k n M_Mo_aLine 45 [.ref 102, .int (keM B6 T3), .int (0 : Int32)] (r.toList ++ []) h1 R))
  : Ev G (d + 5) k n M_Mo_aLine 0 [.ref 102, ev_unk, ev_unk] [] h R :=
  Ev.go (pc' := 1) (ls' := [.ref 102, ev_unk, ev_unk]) (st' := [.ref 102]) [.aload_n 0] (by decide +kernel) rfl <|
  Ev.cV0 (M' := M_Mo_key_0) (as := []) (rest := []) l_Mo_188 M_Mo_key_0_ok M_Mo_key_0_in M_Mo_key_0_se (by decide +kernel) r4 rfl rfl rfl (Nat.le_of_ble_eq_true rfl) (Nat.le_of_ble_eq_true rfl) (s_Mo_key_0 pr1 pr2 pr3 <| show Ev G (d + 5) _ _ M_Mo_aLine 4 [.ref 102, ev_unk, ev_unk] [.int (keM B6 T3)] h R from
    Ev.go (pc' := 7) (ls' := [.ref 102, .int (keM B6 T3), ev_unk]) (st' := [.int (2 : Int32), .int (keM B6 T3)]) [.istore_n 1, .iload_n 1, .iconst 2] (by decide +kernel) rfl <|
    Ev.br (i := .if_icmp .ne (10)) (P := (keM B6 T3) = (2 : Int32)) (t := 10) (f := 17) (r := []) (by decide +kernel) rfl (fun c1 =>
      Ev.go (pc' := 11) (ls' := [.ref 102, .int (keM B6 T3), ev_unk]) (st' := [.ref 102]) [.aload_n 0] (by decide +kernel) rfl <|
      Ev.cV0 (M' := M_Mo_aCode) (as := []) (rest := []) l_Mo_220 M_Mo_aCode_ok M_Mo_aCode_in M_Mo_aCode_se (by decide +kernel) (r5 c1) rfl rfl rfl (Nat.le_of_ble_eq_true rfl) (Nat.le_of_ble_eq_true rfl) (k1 c1)
    ) (fun c1 =>
      Ev.go (pc' := 19) (ls' := [.ref 102, .int (keM B6 T3), ev_unk]) (st' := [.int (4 : Int32), .int (keM B6 T3)]) [.iload_n 1, .iconst 4] (by decide +kernel) rfl <|
      Ev.br (i := .if_icmp .ne (10)) (P := (keM B6 T3) = (4 : Int32)) (t := 22) (f := 29) (r := []) (by decide +kernel) rfl (fun c2 =>
        Ev.go (pc' := 23) (ls' := [.ref 102, .int (keM B6 T3), ev_unk]) (st' := [.ref 102]) [.aload_n 0] (by decide +kernel) rfl <|
        Ev.cV0 (M' := M_Mo_aFilter) (as := []) (rest := []) l_Mo_223 M_Mo_aFilter_ok M_Mo_aFilter_in M_Mo_aFilter_se (by decide +kernel) (r6 c1 c2) rfl rfl rfl (Nat.le_of_ble_eq_true rfl) (Nat.le_of_ble_eq_true rfl) (k2 c1 c2)
      ) (fun c2 =>
        Ev.go (pc' := 31) (ls' := [.ref 102, .int (keM B6 T3), ev_unk]) (st' := [.int (2 : Int32), .ref 102]) [.aload_n 0, .iconst 2] (by decide +kernel) rfl <|
        Ev.cV0 (M' := M_Mo_fails) (as := [.int (2 : Int32)]) (rest := []) l_Mo_161 M_Mo_fails_ok M_Mo_fails_in M_Mo_fails_se (by decide +kernel) (r9 c1 c2) rfl rfl rfl (Nat.le_of_ble_eq_true rfl) (Nat.le_of_ble_eq_true rfl) (s_Mo_fails (pr7 c1 c2) (pr8 c1 c2) <| show Ev G (d + 5) _ _ M_Mo_aLine 34 [.ref 102, .int (keM B6 T3), ev_unk] [.int (0 : Int32)] (hset h 102 (bdC v_7 L8 T9 k_12 dp10 y_11)) R from
          Ev.go (pc' := 36) (ls' := [.ref 102, .int (keM B6 T3), .int (0 : Int32)]) (st' := [.int (0 : Int32)]) [.istore_n 2, .iload_n 2] (by decide +kernel) rfl <|
          Ev.br (i := .ifCond .eq (16)) (P := (0 : Int32) = (0 : Int32)) (t := 52) (f := 39) (r := []) (by decide +kernel) rfl (fun c3 =>
            Ev.go (pc' := 53) (ls' := [.ref 102, .int (keM B6 T3), .int (0 : Int32)]) (st' := [.int (0 : Int32)]) [.iconst 0] (by decide +kernel) rfl <|
            Ev.ret (r := (some (.int (0 : Int32)))) (Or.inl ⟨_, rfl, by decide +kernel, _, rfl, rfl⟩) (k3 c1 c2 c3)
          ) (fun c3 =>
            Ev.go (pc' := 42) (ls' := [.ref 102, .int (keM B6 T3), .int (0 : Int32)]) (st' := [.int (59 : Int32), .ref 102]) [.aload_n 0, .bipush (59)] (by decide +kernel) rfl <|
            Ev.cV0 (M' := M_Mo_takesSign) (as := [.int (59 : Int32)]) (rest := []) l_Mo_210 M_Mo_takesSign_ok M_Mo_takesSign_in M_Mo_takesSign_se (by decide +kernel) (r10 c1 c2 c3) rfl rfl rfl (Nat.le_of_ble_eq_true rfl) (Nat.le_of_ble_eq_true rfl) (k4 c1 c2 c3)
          )
        )
      )
    )
  )
theorem b_Mo_aLine_14 {G : ev_G} {d k n : Nat} {h : ev_H} {R : Option Value → ev_H → Prop} {x1 : Int32} {y0 : Int32}
  (r1 : ¬ y0 = (0 : Int32) → ∃ fs, hat h 102 (oC 9 fs))
  (k1 : y0 = (0 : Int32) → R (some (.int (0 : Int32))) h)
  (k2 : ¬ y0 = (0 : Int32) → Ev G (d + 4) 0 0 M_Mo_takesSign 0 [.ref 102, .int (59 : Int32)] [] h (fun r h1 => Ev G (d + 5) k n M_Mo_aLine 45 [.ref 102, .int x1, .int y0] (r.toList ++ []) h1 R))
  : Ev G (d + 5) k n M_Mo_aLine 14 [.ref 102, .int x1, ev_unk] [.int y0] h R :=
  Ev.go (pc' := 36) (ls' := [.ref 102, .int x1, .int y0]) (st' := [.int y0]) [.goto (20), .istore_n 2, .iload_n 2] (by decide +kernel) rfl <|
  Ev.br (i := .ifCond .eq (16)) (P := y0 = (0 : Int32)) (t := 52) (f := 39) (r := []) (by decide +kernel) rfl (fun c1 =>
    Ev.go (pc' := 53) (ls' := [.ref 102, .int x1, .int y0]) (st' := [.int (0 : Int32)]) [.iconst 0] (by decide +kernel) rfl <|
    Ev.ret (r := (some (.int (0 : Int32)))) (Or.inl ⟨_, rfl, by decide +kernel, _, rfl, rfl⟩) (k1 c1)
  ) (fun c1 =>
    Ev.go (pc' := 42) (ls' := [.ref 102, .int x1, .int y0]) (st' := [.int (59 : Int32), .ref 102]) [.aload_n 0, .bipush (59)] (by decide +kernel) rfl <|
    Ev.cV0 (M' := M_Mo_takesSign) (as := [.int (59 : Int32)]) (rest := []) l_Mo_210 M_Mo_takesSign_ok M_Mo_takesSign_in M_Mo_takesSign_se (by decide +kernel) (r1 c1) rfl rfl rfl (Nat.le_of_ble_eq_true rfl) (Nat.le_of_ble_eq_true rfl) (k2 c1)
  )
theorem b_Mo_aLine_26 {G : ev_G} {d k n : Nat} {h : ev_H} {R : Option Value → ev_H → Prop} {x1 : Int32} {y0 : Int32}
  (r1 : ¬ y0 = (0 : Int32) → ∃ fs, hat h 102 (oC 9 fs))
  (k1 : y0 = (0 : Int32) → R (some (.int (0 : Int32))) h)
  (k2 : ¬ y0 = (0 : Int32) → Ev G (d + 4) 0 0 M_Mo_takesSign 0 [.ref 102, .int (59 : Int32)] [] h (fun r h1 => Ev G (d + 5) k n M_Mo_aLine 45 [.ref 102, .int x1, .int y0] (r.toList ++ []) h1 R))
  : Ev G (d + 5) k n M_Mo_aLine 26 [.ref 102, .int x1, ev_unk] [.int y0] h R :=
  Ev.go (pc' := 36) (ls' := [.ref 102, .int x1, .int y0]) (st' := [.int y0]) [.goto (8), .istore_n 2, .iload_n 2] (by decide +kernel) rfl <|
  Ev.br (i := .ifCond .eq (16)) (P := y0 = (0 : Int32)) (t := 52) (f := 39) (r := []) (by decide +kernel) rfl (fun c1 =>
    Ev.go (pc' := 53) (ls' := [.ref 102, .int x1, .int y0]) (st' := [.int (0 : Int32)]) [.iconst 0] (by decide +kernel) rfl <|
    Ev.ret (r := (some (.int (0 : Int32)))) (Or.inl ⟨_, rfl, by decide +kernel, _, rfl, rfl⟩) (k1 c1)
  ) (fun c1 =>
    Ev.go (pc' := 42) (ls' := [.ref 102, .int x1, .int y0]) (st' := [.int (59 : Int32), .ref 102]) [.aload_n 0, .bipush (59)] (by decide +kernel) rfl <|
    Ev.cV0 (M' := M_Mo_takesSign) (as := [.int (59 : Int32)]) (rest := []) l_Mo_210 M_Mo_takesSign_ok M_Mo_takesSign_in M_Mo_takesSign_se (by decide +kernel) (r1 c1) rfl rfl rfl (Nat.le_of_ble_eq_true rfl) (Nat.le_of_ble_eq_true rfl) (k2 c1)
  )
theorem b_Mo_aLine_45 {G : ev_G} {d k n : Nat} {h : ev_H} {R : Option Value → ev_H → Prop} {x1 : Int32} {x2 : Int32} {y0 : Int32}
  (k1 : y0 = (0 : Int32) → R (some (.int (0 : Int32))) h)
  (k2 : ¬ y0 = (0 : Int32) → R (some (.int (1 : Int32))) h)
  : Ev G (d + 5) k n M_Mo_aLine 45 [.ref 102, .int x1, .int x2] [.int y0] h R :=
  Ev.br (i := .ifCond .eq (7)) (P := y0 = (0 : Int32)) (t := 52) (f := 48) (r := []) (by decide +kernel) rfl (fun c1 =>
    Ev.go (pc' := 53) (ls' := [.ref 102, .int x1, .int x2]) (st' := [.int (0 : Int32)]) [.iconst 0] (by decide +kernel) rfl <|
    Ev.ret (r := (some (.int (0 : Int32)))) (Or.inl ⟨_, rfl, by decide +kernel, _, rfl, rfl⟩) (k1 c1)
  ) (fun c1 =>
    Ev.go (pc' := 53) (ls' := [.ref 102, .int x1, .int x2]) (st' := [.int (1 : Int32)]) [.iconst 1, .goto (4)] (by decide +kernel) rfl <|
    Ev.ret (r := (some (.int (1 : Int32)))) (Or.inl ⟨_, rfl, by decide +kernel, _, rfl, rfl⟩) (k2 c1)
  )
def GoL (h h' : ev_H) (v : MG) (L : Nat) (T : Tk) (S : AS) (g0 : Nat → Int64) : Prop := Kp h h' 102 104 ∧ (∃ dp y, hat h' 102 (moC v (pzM L T dp y))) ∧ ∃ g', hat h' 103 (aL 9758 g') ∧ GZ g0 g' S
def LoM (h h' : ev_H) (v : MG) (L : Nat) (g0 : Nat → Int64) (r : LR) : Prop := (r.1 = 0 → GoL h h' v L r.2.1 r.2.2 g0) ∧ (¬ r.1 = 0 → BaM h h' v L r.2.1 r.1 g0)
def qTag (B : Nat → Nat) (L : Nat) (S : AS) (y : Int64) (T : Tk) : LR := if wdB B T 5 then (if (pNum B (nx B L T) 0 9).1 = 0 then (0, nx B L (nx B L T), apS S y (pNum B (nx B L T) 0 9).2) else ((pNum B (nx B L T) 0 9).1, nx B L T, S)) else (0, T, apS S y 0)
def qCode (B : Nat → Nat) (L : Nat) (T : Tk) (S : AS) : LR := if sN S < 32 then (if (pBin B (nx B L T) (sB S)).1 = 0 then (if frI (whP S (pBin B (nx B L T) (sB S)).2) (sN S) = -1 then qTag B L S (pBin B (nx B L T) (sB S)).2 (nx B L (nx B L T)) else (5, nx B L T, S)) else ((pBin B (nx B L T) (sB S)).1, nx B L T, S)) else (6, T, S)
def qFilt (B : Nat → Nat) (L : Nat) (T : Tk) (S : AS) : LR := if (sFl S).isEmpty then ((pTest B L S 6 (nx B L T)).1, (pTest B L S 6 (nx B L T)).2.1, setF S (pTest B L S 6 (nx B L T)).2.2) else (5, T, S)
def sgnR (B : Nat → Nat) (L : Nat) (r : LR) : LR := if r.1 = 0 then pSign B L 59 r.2.1 r.2.2 else r
section S76
variable {G : ev_G} {d : Nat} {h h1 : ev_H} {R : Option Value → ev_H → Prop} {B : Nat → Nat} {L : Nat} {v : MG} {T : Tk} {dp : Int32} {y : Int64} {S : AS} {g g0 : Nat → Int64}
theorem sgn_code : (pCode B L T S).1 = (sgnR B L (qCode B L T S)).1 ∧ (pCode B L T S).2.1 = (sgnR B L (qCode B L T S)).2.1 ∧ ((pCode B L T S).1 = 0 → (pCode B L T S).2.2 = (sgnR B L (qCode B L T S)).2.2) := by
  have e : pCode B L T S = sgnR B L (qCode B L T S) := by
    unfold pCode qCode
    split
    · split
      · split
        · unfold pTag qTag
          split
          · split
            · rfl
            · next c => unfold sgnR; rw [if_neg c]
          · rfl
        · unfold sgnR; rw [if_neg (by show ¬ 5 = 0; omega)]
      · next c => unfold sgnR; rw [if_neg c]
    · unfold sgnR; rw [if_neg (by show ¬ 6 = 0; omega)]
  rw [e]; exact ⟨rfl, rfl, fun _ => rfl⟩
theorem sgn_filt : (pFilt B L T S).1 = (sgnR B L (qFilt B L T S)).1 ∧ (pFilt B L T S).2.1 = (sgnR B L (qFilt B L T S)).2.1 ∧ ((pFilt B L T S).1 = 0 → (pFilt B L T S).2.2 = (sgnR B L (qFilt B L T S)).2.2) := by
  unfold pFilt qFilt
  split
  · split
    · next c => unfold sgnR; rw [if_pos c]; exact ⟨rfl, rfl, fun _ => rfl⟩
    · next c => unfold sgnR; rw [if_neg c]; exact ⟨rfl, rfl, fun z => absurd z c⟩
  · unfold sgnR; rw [if_neg (by show ¬ 5 = 0; omega)]; exact ⟨rfl, rfl, fun _ => rfl⟩
theorem LoM.eq {h h' : ev_H} {r r' : LR} (H : LoM h h' v L g0 r) (e1 : r'.1 = r.1) (e2 : r'.2.1 = r.2.1) (e3 : r'.1 = 0 → r'.2.2 = r.2.2) : LoM h h' v L g0 r' := by
  refine ⟨fun z => ?_, fun z => ?_⟩
  · rw [e2, e3 z]; exact H.1 (by rw [← e1]; exact z)
  · rw [e2, e1]; exact H.2 (by rw [← e1]; exact z)
theorem LoM.bad {h h' : ev_H} {r : LR} (b : ¬ r.1 = 0) (H : BaM h h' v L r.2.1 r.1 g0) : LoM h h' v L g0 r := ⟨fun z => absurd z b, fun _ => H⟩
theorem div2_l : ∀ b, b < 49 → lN b / (2 : Int64) = lN (b / 2) := by decide +kernel
theorem s_halves {z : MP} (m1 : hat h 102 (moC v z)) (m2 : hat h 103 (aL 9758 g)) (e0 : g 0 = lN (sB S)) (hb : sB S ≤ 48) (e2 : g 2 = lN (sN S)) (e3 : g 3 = lN (clTot (sFl S))) (ec : ∀ i, i < sN S → g (0 + 10 + i) = sCo S i ∧ g (0 + 42 + i) = lN (sTg S i)) (ef : ∀ i, i < clTot (sFl S) → g (0 + 74 + i) = (clC (sFl S)).getD i 0) (ez : ∀ i, sN S ≤ i → i < 32 → g (42 + i) = 0) (eo : ∀ k, 574 ≤ k → g k = g0 k) (hR : ∀ h' g', Kp h h' 103 104 → hat h' 103 (aL 9758 g') → GZ g0 g' (halS S) → R none h') : Ev G (d + 1) 0 0 M_Mo_halves 0 [.ref 102] [] h R := by
  refine b_Mo_halves_0 ⟨_, m1⟩ ?_
  refine s_Mo_puts (j := 1) m1 m2 (ixn (j := 1) (by omega) (by omega)) ?_
  have ma := hat_set m2 (c' := aL 9758 (vp_updL g 1 2))
  have Ka : Kp h (hset h 103 (aL 9758 (vp_updL g 1 2))) 103 104 := (Kp.refl h 103 104).set _ (by omega) (by omega)
  have a0 : vp_updL g 1 2 0 = lN (sB S) := (if_neg (by omega)).trans e0
  have m1a := Ka.hat m1 (by omega)
  refine b_Mo_halves_8 (j_4 := 0) m1a ma (ixn (j := 0) (by omega) (by omega)) ⟨_, m1a⟩ ?_
  rw [a0, div2_l _ (by omega)]
  refine s_Mo_puts (j := 5) m1a ma (ixn (j := 5) (by omega) (by omega)) ?_
  rw [hset_hset]
  have mb := hat_set m2 (c' := aL 9758 (vp_updL (vp_updL g 1 2) 5 (lN (sB S / 2))))
  have Kb : Kp h (hset h 103 (aL 9758 (vp_updL (vp_updL g 1 2) 5 (lN (sB S / 2))))) 103 104 := (Kp.refl h 103 104).set _ (by omega) (by omega)
  have b0 : vp_updL (vp_updL g 1 2) 5 (lN (sB S / 2)) 0 = lN (sB S) := (if_neg (by omega)).trans a0
  have b5 : vp_updL (vp_updL g 1 2) 5 (lN (sB S / 2)) 5 = lN (sB S / 2) := if_pos rfl
  have m1b := Kb.hat m1 (by omega)
  refine b_Mo_halves_22 (j_4 := 0) (j_8 := 5) m1b mb (ixn (j := 0) (by omega) (by omega)) ⟨_, m1b⟩ m1b mb (ixn (j := 5) (by omega) (by omega)) ?_
  rw [b0, b5, lN_sub' (by omega)]
  refine s_Mo_puts (j := 4) m1b mb (ixn (j := 4) (by omega) (by omega)) ?_
  rw [hset_hset]
  refine b_Mo_halves_38 (hR _ _ ((Kp.refl h 103 104).set _ (by omega) (by omega)) (hat_set m2) ?_)
  have o : ∀ k, k ≠ 1 → k ≠ 4 → k ≠ 5 → vp_updL (vp_updL (vp_updL g 1 2) 5 (lN (sB S / 2))) 4 (lN (sB S - sB S / 2)) k = g k := fun k q1 q4 q5 => by
    unfold vp_updL
    show (if k = 4 then _ else if k = 5 then _ else if k = 1 then _ else _) = _
    rw [if_neg q4, if_neg q5, if_neg q1]
  refine ⟨⟨(o 0 (by omega) (by omega) (by omega)).trans e0, rfl, (o 2 (by omega) (by omega) (by omega)).trans e2, (o 3 (by omega) (by omega) (by omega)).trans e3, fun i hi => ?_, fun i hi => ?_, fun i hi => ?_⟩, fun i hi hi2 => ?_, fun k hk => ?_⟩
  · have hi : i < 2 := hi
    rcases (show i = 0 ∨ i = 1 by omega) with rfl | rfl <;> rfl
  · rw [o _ (by omega) (by omega) (by omega), o _ (by omega) (by omega) (by omega)]; exact ec i hi
  · rw [o _ (by omega) (by omega) (by omega)]; exact ef i hi
  · rw [o _ (by omega) (by omega) (by omega)]; exact ez i hi hi2
  · rw [o _ (by omega) (by omega) (by omega)]; exact eo k hk
theorem s_begins {z : MP} (m1 : hat h 102 (moC v z)) (m2 : hat h 103 (aL 9758 g)) (hR : ∀ h' g', Kp h h' 103 104 → hat h' 103 (aL 9758 g') → GZ g g' (halS emS) → R none h') : Ev G (d + 2) 0 0 M_Mo_begins 0 [.ref 102, .int (16 : Int32), ev_unk] [] h R := by
  refine b_Mo_begins_0 (d := d + 1) ?_
  have LP := up0 (P := fun i => ∀ h' g', Kp h h' 103 104 → hat h' 103 (aL 9758 g') → (∀ k, g' k = if k < i then 0 else g k) → Ev G (d + 2) 0 0 M_Mo_begins 2 [.ref 102, .int (16 : Int32), .int (nI i)] [] h' R) 574 ?_ ?_
  · exact LP h g (Kp.refl _ _ _) m2 fun k => by rw [if_neg (by omega)]
  · intro i hi ih h' g' K m2 e
    have yes : nI i < (574 : Int32) := nI_lt (b := 574) hi (by omega)
    have m1 := K.hat m1 (by omega)
    refine b_Mo_begins_2 (d := d + 1) (fun _ => ⟨_, m1⟩) (fun k => absurd yes k) (fun _ => ?_) (fun k => absurd yes k)
    refine s_Mo_puts (j := i) m1 m2 (ixn (by omega) (by omega)) (b_Mo_begins_15 (d := d + 1) ?_)
    rw [nI_1]
    refine ih _ _ (K.set _ (by omega) (by omega)) (hat_set m2) fun k => ?_
    show (if k = i then 0 else g' k) = _
    by_cases c : k = i
    · rw [if_pos c, if_pos (by omega)]
    · rw [if_neg c, e]
      by_cases c2 : k < i
      · rw [if_pos c2, if_pos (by omega)]
      · rw [if_neg c2, if_neg (by omega)]
  · intro h' g' K m2 e
    have no : ¬ nI 574 < (574 : Int32) := by decide
    have m1 := K.hat m1 (by omega)
    refine b_Mo_begins_2 (d := d + 1) (fun k => absurd k no) (fun _ => ⟨_, m1⟩) (fun k => absurd k no) (fun _ => ?_)
    refine s_Mo_puts (j := 0) m1 m2 (ixn (j := 0) (by omega) (by omega)) ?_
    have Kc := K.set (k := 103) (aL 9758 (vp_updL g' 0 (16 : Int32).toInt64)) (by omega) (by omega)
    have m1c := hat_ne (b := 103) (c' := aL 9758 (vp_updL g' 0 (16 : Int32).toInt64)) m1 (by omega)
    refine b_Mo_begins_28 (d := d + 1) ⟨_, m1c⟩ ?_
    have o : ∀ k, k ≠ 0 → k < 574 → vp_updL g' 0 (16 : Int32).toInt64 k = 0 := fun k q1 q2 => by
      show (if k = 0 then _ else g' k) = 0
      rw [if_neg q1, e, if_pos q2]
    refine s_halves (d := d) (S := emS) (g0 := g) m1c (hat_set m2) rfl (by decide) ((o 2 (by omega) (by omega)).trans rfl) ((o 3 (by omega) (by omega)).trans rfl) (fun i hi => absurd hi (Nat.not_lt_zero i)) (fun i hi => absurd hi (Nat.not_lt_zero i)) (fun i _ hi => o _ (by omega) (by omega)) (fun k hk => ?_) fun h2 g2 K2 m22 Z2 => ?_
    · show (if k = 0 then _ else g' k) = _
      rw [if_neg (by omega), e, if_neg (by omega)]
    · exact b_Mo_begins_32 (d := d + 1) (hR h2 g2 (Kc.trans K2) m22 Z2)
/-- the bits of a text -/
theorem s_theBits (m1 : hat h 102 (moC v (pzM L T dp y))) (m2 : hat h 103 (aL 9758 g)) (X : TxM h B L) (HT : TkOk B L T) (Z : GZ g0 g (halS emS)) (hR : ∀ h', ((pBits B L T emS).1 = 0 → GoL h h' v L (pBits B L T emS).2.1 (halS (pBits B L T emS).2.2) g0) → (¬ (pBits B L T emS).1 = 0 → BaM h h' v L (pBits B L T emS).2.1 (pBits B L T emS).1 g0) → R (some (.int (b2i (decide ((pBits B L T emS).1 = 0))))) h') : Ev G (d + 4) 0 0 M_Mo_theBits 0 [.ref 102] [] h R := by
  have n1 := nx_ok HT
  have n2 := nx_ok n1
  have mA := hat_set m1 (c' := moC v (pzM L (nx B L T) dp y))
  refine b_Mo_theBits_0 (d := d + 2) m1 X HT.2.2.1 ⟨_, m1⟩ ⟨_, mA⟩ ?_
  unfold pBits at hR
  refine s_num (d := d + 2) (lo := 4) (hi := 48) mA X.set n1 ⟨rfl, by omega⟩ ⟨rfl, by omega⟩ (fun c => ?_) (fun c y' => ?_)
  · rw [if_pos c] at hR
    rw [hset_hset]
    have pf := (pNum_f (B := B) (T := nx B L T) 4 48).2 c
    generalize (pNum B (nx B L T) 4 48).2 = b at hR pf ⊢
    have mB := hat_set m1 (c' := moC v (pzM L (nx B L T) dp (lN b)))
    have m2B := hat_ne (b := 102) (c' := moC v (pzM L (nx B L T) dp (lN b))) m2 (by omega)
    have KB : Kp h (hset h 102 (moC v (pzM L (nx B L T) dp (lN b)))) 102 104 := (Kp.refl h 102 104).set _ (by omega) (by omega)
    generalize hset h 102 (moC v (pzM L (nx B L T) dp (lN b))) = h2 at mB m2B KB
    refine b_Mo_theBits_11 (d := d + 2) mB (fun k => absurd k (by decide)) (fun _ => ?_)
    refine s_Mo_puts (j := 0) mB m2B (ixn (j := 0) (by omega) (by omega)) ?_
    have KC := KB.set (k := 103) (aL 9758 (vp_updL g 0 (lN b))) (by omega) (by omega)
    have mC := hat_ne (b := 103) (c' := aL 9758 (vp_updL g 0 (lN b))) mB (by omega)
    have m2C := hat_set m2B (c' := aL 9758 (vp_updL g 0 (lN b)))
    refine b_Mo_theBits_25 (d := d + 2) ⟨_, mC⟩ ?_
    have o : ∀ k, k ≠ 0 → vp_updL g 0 (lN b) k = g k := fun k q => if_neg q
    refine s_halves (d := d + 2) (S := setB emS b) (g0 := g0) mC m2C rfl (by show b ≤ 48; omega) ((o 2 (by omega)).trans Z.1.2.2.1) ((o 3 (by omega)).trans Z.1.2.2.2.1) (fun i hi => absurd hi (Nat.not_lt_zero i)) (fun i hi => absurd hi (Nat.not_lt_zero i)) (fun i hi hi2 => (o _ (by omega)).trans (Z.2.1 i hi hi2)) (fun k hk => (o _ (by omega)).trans (Z.2.2 k hk)) fun h4 g4 K4 m24 Z4 => ?_
    have K4w := KC.trans (K4.wide (lo' := 102) (hi' := 104) (by omega) (by omega))
    have m14 := K4.hat mC (by omega)
    have X4 := X.kg K4w.g (by omega)
    have mD := hat_set m14 (c' := moC v (pzM L (nx B L (nx B L T)) dp (lN b)))
    refine b_Mo_theBits_29 (d := d + 2) m14 X4 n1.2.2.1 ⟨_, m14⟩ ⟨_, mD⟩ ?_
    unfold pSign at hR
    refine s_Mo_takesSign (d := d) (c := 59) mD X4.set n2 ⟨rfl, by decide⟩ (fun c3 => ?_) (fun c3 => ?_)
    · rw [if_pos c3] at hR
      rw [hset_hset]
      refine b_Mo_theBits_39 (d := d + 2) rfl ?_
      exact hR _ (fun _ => ⟨K4w.set _ (by omega) (by omega), ⟨_, _, hat_set m14⟩, _, hat_ne m24 (by omega), Z4⟩) (fun z => absurd rfl z)
    · rw [if_neg c3] at hR
      rw [hset_hset]
      refine b_Mo_theBits_39 (d := d + 2) rfl ?_
      exact hR _ (fun z => absurd z (by show ¬ 2 = 0; omega)) (fun _ => ⟨K4w.set _ (by omega) (by omega), ⟨_, _, hat_set m14⟩, _, hat_ne m24 (by omega), Z4.2.2⟩)
  · rw [if_neg c] at hR
    rw [hset_hset]
    have r := hR _ (fun z => absurd z c) (fun _ => ⟨(Kp.refl h 102 104).set (k := 102) (bdC v L (nx B L T) (pNum B (nx B L T) 4 48).1 dp y') (by omega) (by omega), ⟨_, _, hat_set m1⟩, _, hat_ne m2 (by omega), Z.2.2⟩)
    rw [show (pNum B (nx B L T) 4 48).1 = ((pNum B (nx B L T) 4 48).1, nx B L T, emS).1 from rfl] at c
    rw [decide_eq_false c] at r
    exact b_Mo_theBits_11 (d := d + 2) (hat_set m1 (c' := bdC v L (nx B L T) (pNum B (nx B L T) 4 48).1 dp y')) (fun _ => r) (fun k => absurd rfl k)
end S76
