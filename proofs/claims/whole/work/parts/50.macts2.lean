/-! the model's acts -/
theorem b_Mo_open_0 {G : ev_G} {d k n : Nat} {h : ev_H} {R : Option Value → ev_H → Prop} {v_1 : MG} {z_2 : MP} {g_3 : Nat → Int64} {j_4 : Nat} {v_5 : MG} {z_6 : MP}
  (pr1 : hat h 102 (moC v_1 z_2))
  (pr2 : hat h 103 (aL 9758 g_3))
  (pr3 : ev_ix (3 : Int32) j_4 9758)
  (r4 : ∃ fs, hat h 102 (oC 9 fs))
  (pr5 : (g_3 j_4) = (0 : Int64) → hat h 102 (moC v_5 z_6))
  (r6 : (g_3 j_4) = (0 : Int64) → ∃ fs, hat h 102 (oC 9 fs))
  (r7 : ¬ (g_3 j_4) = (0 : Int64) → ∃ fs, hat h 102 (oC 9 fs))
  (k1 : (g_3 j_4) = (0 : Int64) → R (some (.int (-1 : Int32))) (hset h 102 (moC (stV v_5 (5 : Int32)) z_6)))
  (k2 : ¬ (g_3 j_4) = (0 : Int64) → Ev G d 0 0 M_Mo_acted 0 [.ref 102, .int (0 : Int32), ev_unk] [] h (fun r h1 => Ev G (d + 1) k n M_Mo_open 21 [.ref 102] (r.toList ++ []) h1 R))
  : Ev G (d + 1) k n M_Mo_open 0 [.ref 102] [] h R :=
  Ev.go (pc' := 2) (ls' := [.ref 102]) (st' := [.int (3 : Int32), .ref 102]) [.aload_n 0, .iconst 3] (by decide +kernel) rfl <|
  Ev.cV0 (M' := M_Mo_of) (as := [.int (3 : Int32)]) (rest := []) l_Mo_64 M_Mo_of_ok M_Mo_of_in M_Mo_of_se (by decide +kernel) r4 rfl rfl rfl (Nat.le_of_ble_eq_true rfl) (Nat.le_of_ble_eq_true rfl) (s_Mo_of pr1 pr2 pr3 <| show Ev G (d + 1) _ _ M_Mo_open 5 [.ref 102] [.long (g_3 j_4)] h R from
    Ev.go (pc' := 6) (ls' := [.ref 102]) (st' := [.long (0 : Int64), .long (g_3 j_4)]) [.lconst 0] (by decide +kernel) rfl <|
    Ev.brl (c := .ne) (o := 9) (P := (g_3 j_4) = (0 : Int64)) (t := 10) (f := 16) (t1 := 16) (by decide +kernel) (by decide +kernel) rfl rfl (fun c1 =>
      Ev.go (pc' := 12) (ls' := [.ref 102]) (st' := [.int (5 : Int32), .ref 102]) [.aload_n 0, .iconst 5] (by decide +kernel) rfl <|
      Ev.cV0 (M' := M_Mo_refuse) (as := [.int (5 : Int32)]) (rest := []) l_Mo_226 M_Mo_refuse_ok M_Mo_refuse_in M_Mo_refuse_se (by decide +kernel) (r6 c1) rfl rfl rfl (Nat.le_of_ble_eq_true rfl) (Nat.le_of_ble_eq_true rfl) (s_Mo_refuse (pr5 c1) <| show Ev G (d + 1) _ _ M_Mo_open 15 [.ref 102] [.int (-1 : Int32)] (hset h 102 (moC (stV v_5 (5 : Int32)) z_6)) R from
        Ev.ret (r := (some (.int (-1 : Int32)))) (Or.inl ⟨_, rfl, by decide +kernel, _, rfl, rfl⟩) (k1 c1)
      )
    ) (fun c1 =>
      Ev.go (pc' := 18) (ls' := [.ref 102]) (st' := [.int (0 : Int32), .ref 102]) [.aload_n 0, .iconst 0] (by decide +kernel) rfl <|
      Ev.cV0 (M' := M_Mo_acted) (as := [.int (0 : Int32)]) (rest := []) l_Mo_242 M_Mo_acted_ok M_Mo_acted_in M_Mo_acted_se (by decide +kernel) (r7 c1) rfl rfl rfl (Nat.le_of_ble_eq_true rfl) (Nat.le_of_ble_eq_true rfl) (k2 c1)
    )
  )
theorem b_Mo_open_21 {G : ev_G} {d k n : Nat} {h : ev_H} {R : Option Value → ev_H → Prop} 
  (r1 : ∃ fs, hat h 102 (oC 9 fs))
  (k1 : Ev G d 0 0 M_Mo_puts 0 [.ref 102, .int (3 : Int32), .long (0 : Int64), ev_unk] [] h (fun r h1 => Ev G (d + 1) k n M_Mo_open 27 [.ref 102] (r.toList ++ []) h1 R))
  : Ev G (d + 1) k n M_Mo_open 21 [.ref 102] [] h R :=
  Ev.go (pc' := 24) (ls' := [.ref 102]) (st' := [.long (0 : Int64), .int (3 : Int32), .ref 102]) [.aload_n 0, .iconst 3, .lconst 0] (by decide +kernel) rfl <|
  Ev.cV0 (M' := M_Mo_puts) (as := [.int (3 : Int32), .long (0 : Int64)]) (rest := []) l_Mo_60 M_Mo_puts_ok M_Mo_puts_in M_Mo_puts_se (by decide +kernel) r1 rfl rfl rfl (Nat.le_of_ble_eq_true rfl) (Nat.le_of_ble_eq_true rfl) k1
theorem b_Mo_open_27 {G : ev_G} {d k n : Nat} {h : ev_H} {R : Option Value → ev_H → Prop} {v_1 : MG} {z_2 : MP}
  (pr1 : hat h 102 (moC v_1 z_2))
  (r2 : ∃ fs, hat h 102 (oC 9 fs))
  (k1 : R (some (.int (0 : Int32))) (hset h 102 (moC (stV v_1 0) z_2)))
  : Ev G (d + 1) k n M_Mo_open 27 [.ref 102] [] h R :=
  Ev.go (pc' := 29) (ls' := [.ref 102]) (st' := [.int (0 : Int32), .ref 102]) [.aload_n 0, .iconst 0] (by decide +kernel) rfl <|
  Ev.cV0 (M' := M_Mo_gives_I) (as := [.int (0 : Int32)]) (rest := []) l_Mo_245 M_Mo_gives_I_ok M_Mo_gives_I_in M_Mo_gives_I_se (by decide +kernel) r2 rfl rfl rfl (Nat.le_of_ble_eq_true rfl) (Nat.le_of_ble_eq_true rfl) (s_Mo_gives_I pr1 <| show Ev G (d + 1) _ _ M_Mo_open 32 [.ref 102] [.int (0 : Int32)] (hset h 102 (moC (stV v_1 0) z_2)) R from
    Ev.ret (r := (some (.int (0 : Int32)))) (Or.inl ⟨_, rfl, by decide +kernel, _, rfl, rfl⟩) k1
  )
theorem b_Mo_undo_0 {G : ev_G} {d k n : Nat} {h : ev_H} {R : Option Value → ev_H → Prop} {f_status_1 : Int32} {f_acts_2 : Int32} {f_marks_3 : Int32} {f_taped_4 : Int32} {f_size_5 : Int32} {f_token_6 : Int32} {f_begin_7 : Int32} {f_end_8 : Int32} {f_faults_9 : Int32} {f_faultPlace_10 : Int32} {f_faultKind_11 : Int32} {f_deep_12 : Int32} {f_value_13 : Int64} {f_broadMany_14 : Int32} {v_15 : MG} {z_16 : MP}
  (a1 : hat h 102 (oC 9 [.ref 103, .int f_status_1, .int f_acts_2, .int f_marks_3, .ref 104, .ref 105, .ref 106, .int f_taped_4, .int f_size_5, .int f_token_6, .int f_begin_7, .int f_end_8, .int f_faults_9, .int f_faultPlace_10, .int f_faultKind_11, .int f_deep_12, .long f_value_13, .ref 107, .ref 108, .ref 109, .ref 116, .int f_broadMany_14, .ref 124, .ref 125]))
  (pr2 : f_acts_2 = (0 : Int32) → hat h 102 (moC v_15 z_16))
  (k1 : f_acts_2 = (0 : Int32) → R (some (.int (-1 : Int32))) (hset h 102 (moC (stV v_15 (5 : Int32)) z_16)))
  (k2 : ¬ f_acts_2 = (0 : Int32) → Ev G d 0 0 M_Mo_copies 0 [.ref 102, .int ((1148 : Int32) + ((574 : Int32) * (f_acts_2 - (1 : Int32)))), .int (0 : Int32), ev_unk] [] (hset h 102 (oC 9 [.ref 103, .int f_status_1, .int (f_acts_2 - (1 : Int32)), .int f_marks_3, .ref 104, .ref 105, .ref 106, .int f_taped_4, .int f_size_5, .int f_token_6, .int f_begin_7, .int f_end_8, .int f_faults_9, .int f_faultPlace_10, .int f_faultKind_11, .int f_deep_12, .long f_value_13, .ref 107, .ref 108, .ref 109, .ref 116, .int f_broadMany_14, .ref 124, .ref 125])) (fun r h1 => Ev G (d + 1) k n M_Mo_undo 40 [.ref 102] (r.toList ++ []) h1 R))
  : Ev G (d + 1) k n M_Mo_undo 0 [.ref 102] [] h R :=
  Ev.go (pc' := 1) (ls' := [.ref 102]) (st' := [.ref 102]) [.aload_n 0] (by decide +kernel) rfl <|
  Ev.getf f_Mo_252 (by decide +kernel) a1 rfl <|
  Ev.br (i := .ifCond .ne (9)) (P := f_acts_2 = (0 : Int32)) (t := 7) (f := 13) (r := []) (by decide +kernel) rfl (fun c1 =>
    Ev.go (pc' := 9) (ls' := [.ref 102]) (st' := [.int (5 : Int32), .ref 102]) [.aload_n 0, .iconst 5] (by decide +kernel) rfl <|
    Ev.cV0 (M' := M_Mo_refuse) (as := [.int (5 : Int32)]) (rest := []) l_Mo_226 M_Mo_refuse_ok M_Mo_refuse_in M_Mo_refuse_se (by decide +kernel) ⟨_, a1⟩ rfl rfl rfl (Nat.le_of_ble_eq_true rfl) (Nat.le_of_ble_eq_true rfl) (s_Mo_refuse (pr2 c1) <| show Ev G (d + 1) _ _ M_Mo_undo 12 [.ref 102] [.int (-1 : Int32)] (hset h 102 (moC (stV v_15 (5 : Int32)) z_16)) R from
      Ev.ret (r := (some (.int (-1 : Int32)))) (Or.inl ⟨_, rfl, by decide +kernel, _, rfl, rfl⟩) (k1 c1)
    )
  ) (fun c1 =>
    Ev.go (pc' := 15) (ls' := [.ref 102]) (st' := [.ref 102, .ref 102]) [.aload_n 0, .dup] (by decide +kernel) rfl <|
    Ev.getf f_Mo_252 (by decide +kernel) a1 rfl <|
    Ev.go (pc' := 20) (ls' := [.ref 102]) (st' := [.int (f_acts_2 - (1 : Int32)), .ref 102]) [.iconst 1, .isub] (by decide +kernel) rfl <|
    Ev.putf f_Mo_252 (by decide +kernel) a1 (Nat.le_of_ble_eq_true rfl) rfl (fun q => nomatch q) <| show Ev G (d + 1) _ _ M_Mo_undo 23 [.ref 102] [] (hset h 102 (oC 9 [.ref 103, .int f_status_1, .int (f_acts_2 - (1 : Int32)), .int f_marks_3, .ref 104, .ref 105, .ref 106, .int f_taped_4, .int f_size_5, .int f_token_6, .int f_begin_7, .int f_end_8, .int f_faults_9, .int f_faultPlace_10, .int f_faultKind_11, .int f_deep_12, .long f_value_13, .ref 107, .ref 108, .ref 109, .ref 116, .int f_broadMany_14, .ref 124, .ref 125])) R from
    Ev.go (pc' := 31) (ls' := [.ref 102]) (st' := [.ref 102, .int (574 : Int32), .int (1148 : Int32), .ref 102]) [.aload_n 0, .sipush (1148), .sipush (574), .aload_n 0] (by decide +kernel) rfl <|
    Ev.getf f_Mo_252 (by decide +kernel) (hat_set a1) rfl <|
    Ev.go (pc' := 37) (ls' := [.ref 102]) (st' := [.int (0 : Int32), .int ((1148 : Int32) + ((574 : Int32) * (f_acts_2 - (1 : Int32)))), .ref 102]) [.imul, .iadd, .iconst 0] (by decide +kernel) rfl <|
    Ev.cV0 (M' := M_Mo_copies) (as := [.int ((1148 : Int32) + ((574 : Int32) * (f_acts_2 - (1 : Int32)))), .int (0 : Int32)]) (rest := []) l_Mo_229 M_Mo_copies_ok M_Mo_copies_in M_Mo_copies_se (by decide +kernel) ⟨_, (hat_set a1)⟩ rfl rfl rfl (Nat.le_of_ble_eq_true rfl) (Nat.le_of_ble_eq_true rfl) (k2 c1)
  )
theorem b_Mo_undo_40 {G : ev_G} {d k n : Nat} {h : ev_H} {R : Option Value → ev_H → Prop} {f_status_1 : Int32} {f_acts_2 : Int32} {f_marks_3 : Int32} {f_taped_4 : Int32} {f_size_5 : Int32} {f_token_6 : Int32} {f_begin_7 : Int32} {f_end_8 : Int32} {f_faults_9 : Int32} {f_faultPlace_10 : Int32} {f_faultKind_11 : Int32} {f_deep_12 : Int32} {f_value_13 : Int64} {f_broadMany_14 : Int32} {v_15 : MG} {z_16 : MP}
  (a1 : hat h 102 (oC 9 [.ref 103, .int f_status_1, .int f_acts_2, .int f_marks_3, .ref 104, .ref 105, .ref 106, .int f_taped_4, .int f_size_5, .int f_token_6, .int f_begin_7, .int f_end_8, .int f_faults_9, .int f_faultPlace_10, .int f_faultKind_11, .int f_deep_12, .long f_value_13, .ref 107, .ref 108, .ref 109, .ref 116, .int f_broadMany_14, .ref 124, .ref 125]))
  (pr2 : hat h 102 (moC v_15 z_16))
  (k1 : R (some (.int f_acts_2)) (hset h 102 (moC (stV v_15 0) z_16)))
  : Ev G (d + 1) k n M_Mo_undo 40 [.ref 102] [] h R :=
  Ev.go (pc' := 42) (ls' := [.ref 102]) (st' := [.ref 102, .ref 102]) [.aload_n 0, .aload_n 0] (by decide +kernel) rfl <|
  Ev.getf f_Mo_252 (by decide +kernel) a1 rfl <|
  Ev.cV0 (M' := M_Mo_gives_I) (as := [.int f_acts_2]) (rest := []) l_Mo_245 M_Mo_gives_I_ok M_Mo_gives_I_in M_Mo_gives_I_se (by decide +kernel) ⟨_, a1⟩ rfl rfl rfl (Nat.le_of_ble_eq_true rfl) (Nat.le_of_ble_eq_true rfl) (s_Mo_gives_I pr2 <| show Ev G (d + 1) _ _ M_Mo_undo 48 [.ref 102] [.int f_acts_2] (hset h 102 (moC (stV v_15 0) z_16)) R from
    Ev.ret (r := (some (.int f_acts_2))) (Or.inl ⟨_, rfl, by decide +kernel, _, rfl, rfl⟩) k1
  )
theorem b_Mo_mark_0 {G : ev_G} {d k n : Nat} {h : ev_H} {R : Option Value → ev_H → Prop} {f_status_1 : Int32} {f_acts_2 : Int32} {f_marks_3 : Int32} {f_taped_4 : Int32} {f_size_5 : Int32} {f_token_6 : Int32} {f_begin_7 : Int32} {f_end_8 : Int32} {f_faults_9 : Int32} {f_faultPlace_10 : Int32} {f_faultKind_11 : Int32} {f_deep_12 : Int32} {f_value_13 : Int64} {f_broadMany_14 : Int32} {v_15 : MG} {z_16 : MP}
  (a1 : hat h 102 (oC 9 [.ref 103, .int f_status_1, .int f_acts_2, .int f_marks_3, .ref 104, .ref 105, .ref 106, .int f_taped_4, .int f_size_5, .int f_token_6, .int f_begin_7, .int f_end_8, .int f_faults_9, .int f_faultPlace_10, .int f_faultKind_11, .int f_deep_12, .long f_value_13, .ref 107, .ref 108, .ref 109, .ref 116, .int f_broadMany_14, .ref 124, .ref 125]))
  (pr2 : f_marks_3 = (3 : Int32) → hat h 102 (moC v_15 z_16))
  (k1 : f_marks_3 = (3 : Int32) → R (some (.int (-1 : Int32))) (hset h 102 (moC (stV v_15 (3 : Int32)) z_16)))
  (k2 : ¬ f_marks_3 = (3 : Int32) → Ev G d 0 0 M_Mo_copies 0 [.ref 102, .int (0 : Int32), .int ((8036 : Int32) + ((574 : Int32) * f_marks_3)), ev_unk] [] h (fun r h1 => Ev G (d + 1) k n M_Mo_mark 31 [.ref 102] (r.toList ++ []) h1 R))
  : Ev G (d + 1) k n M_Mo_mark 0 [.ref 102] [] h R :=
  Ev.go (pc' := 1) (ls' := [.ref 102]) (st' := [.ref 102]) [.aload_n 0] (by decide +kernel) rfl <|
  Ev.getf f_Mo_255 (by decide +kernel) a1 rfl <|
  Ev.go (pc' := 5) (ls' := [.ref 102]) (st' := [.int (3 : Int32), .int f_marks_3]) [.iconst 3] (by decide +kernel) rfl <|
  Ev.br (i := .if_icmp .ne (9)) (P := f_marks_3 = (3 : Int32)) (t := 8) (f := 14) (r := []) (by decide +kernel) rfl (fun c1 =>
    Ev.go (pc' := 10) (ls' := [.ref 102]) (st' := [.int (3 : Int32), .ref 102]) [.aload_n 0, .iconst 3] (by decide +kernel) rfl <|
    Ev.cV0 (M' := M_Mo_refuse) (as := [.int (3 : Int32)]) (rest := []) l_Mo_226 M_Mo_refuse_ok M_Mo_refuse_in M_Mo_refuse_se (by decide +kernel) ⟨_, a1⟩ rfl rfl rfl (Nat.le_of_ble_eq_true rfl) (Nat.le_of_ble_eq_true rfl) (s_Mo_refuse (pr2 c1) <| show Ev G (d + 1) _ _ M_Mo_mark 13 [.ref 102] [.int (-1 : Int32)] (hset h 102 (moC (stV v_15 (3 : Int32)) z_16)) R from
      Ev.ret (r := (some (.int (-1 : Int32)))) (Or.inl ⟨_, rfl, by decide +kernel, _, rfl, rfl⟩) (k1 c1)
    )
  ) (fun c1 =>
    Ev.go (pc' := 23) (ls' := [.ref 102]) (st' := [.ref 102, .int (574 : Int32), .int (8036 : Int32), .int (0 : Int32), .ref 102]) [.aload_n 0, .iconst 0, .sipush (8036), .sipush (574), .aload_n 0] (by decide +kernel) rfl <|
    Ev.getf f_Mo_255 (by decide +kernel) a1 rfl <|
    Ev.go (pc' := 28) (ls' := [.ref 102]) (st' := [.int ((8036 : Int32) + ((574 : Int32) * f_marks_3)), .int (0 : Int32), .ref 102]) [.imul, .iadd] (by decide +kernel) rfl <|
    Ev.cV0 (M' := M_Mo_copies) (as := [.int (0 : Int32), .int ((8036 : Int32) + ((574 : Int32) * f_marks_3))]) (rest := []) l_Mo_229 M_Mo_copies_ok M_Mo_copies_in M_Mo_copies_se (by decide +kernel) ⟨_, a1⟩ rfl rfl rfl (Nat.le_of_ble_eq_true rfl) (Nat.le_of_ble_eq_true rfl) (k2 c1)
  )
theorem b_Mo_mark_31 {G : ev_G} {d k n : Nat} {h : ev_H} {R : Option Value → ev_H → Prop} {f_status_1 : Int32} {f_acts_2 : Int32} {f_marks_3 : Int32} {f_taped_4 : Int32} {f_size_5 : Int32} {f_token_6 : Int32} {f_begin_7 : Int32} {f_end_8 : Int32} {f_faults_9 : Int32} {f_faultPlace_10 : Int32} {f_faultKind_11 : Int32} {f_deep_12 : Int32} {f_value_13 : Int64} {f_broadMany_14 : Int32} {v_15 : MG} {z_16 : MP}
  (a1 : hat h 102 (oC 9 [.ref 103, .int f_status_1, .int f_acts_2, .int f_marks_3, .ref 104, .ref 105, .ref 106, .int f_taped_4, .int f_size_5, .int f_token_6, .int f_begin_7, .int f_end_8, .int f_faults_9, .int f_faultPlace_10, .int f_faultKind_11, .int f_deep_12, .long f_value_13, .ref 107, .ref 108, .ref 109, .ref 116, .int f_broadMany_14, .ref 124, .ref 125]))
  (pr2 : hat (hset h 102 (oC 9 [.ref 103, .int f_status_1, .int f_acts_2, .int (f_marks_3 + (1 : Int32)), .ref 104, .ref 105, .ref 106, .int f_taped_4, .int f_size_5, .int f_token_6, .int f_begin_7, .int f_end_8, .int f_faults_9, .int f_faultPlace_10, .int f_faultKind_11, .int f_deep_12, .long f_value_13, .ref 107, .ref 108, .ref 109, .ref 116, .int f_broadMany_14, .ref 124, .ref 125])) 102 (moC v_15 z_16))
  (k1 : R (some (.int (f_marks_3 + (1 : Int32)))) (hset (hset h 102 (oC 9 [.ref 103, .int f_status_1, .int f_acts_2, .int (f_marks_3 + (1 : Int32)), .ref 104, .ref 105, .ref 106, .int f_taped_4, .int f_size_5, .int f_token_6, .int f_begin_7, .int f_end_8, .int f_faults_9, .int f_faultPlace_10, .int f_faultKind_11, .int f_deep_12, .long f_value_13, .ref 107, .ref 108, .ref 109, .ref 116, .int f_broadMany_14, .ref 124, .ref 125])) 102 (moC (stV v_15 0) z_16)))
  : Ev G (d + 1) k n M_Mo_mark 31 [.ref 102] [] h R :=
  Ev.go (pc' := 33) (ls' := [.ref 102]) (st' := [.ref 102, .ref 102]) [.aload_n 0, .dup] (by decide +kernel) rfl <|
  Ev.getf f_Mo_255 (by decide +kernel) a1 rfl <|
  Ev.go (pc' := 38) (ls' := [.ref 102]) (st' := [.int (f_marks_3 + (1 : Int32)), .ref 102]) [.iconst 1, .iadd] (by decide +kernel) rfl <|
  Ev.putf f_Mo_255 (by decide +kernel) a1 (Nat.le_of_ble_eq_true rfl) rfl (fun q => nomatch q) <| show Ev G (d + 1) _ _ M_Mo_mark 41 [.ref 102] [] (hset h 102 (oC 9 [.ref 103, .int f_status_1, .int f_acts_2, .int (f_marks_3 + (1 : Int32)), .ref 104, .ref 105, .ref 106, .int f_taped_4, .int f_size_5, .int f_token_6, .int f_begin_7, .int f_end_8, .int f_faults_9, .int f_faultPlace_10, .int f_faultKind_11, .int f_deep_12, .long f_value_13, .ref 107, .ref 108, .ref 109, .ref 116, .int f_broadMany_14, .ref 124, .ref 125])) R from
  Ev.go (pc' := 43) (ls' := [.ref 102]) (st' := [.ref 102, .ref 102]) [.aload_n 0, .aload_n 0] (by decide +kernel) rfl <|
  Ev.getf f_Mo_255 (by decide +kernel) (hat_set a1) rfl <|
  Ev.cV0 (M' := M_Mo_gives_I) (as := [.int (f_marks_3 + (1 : Int32))]) (rest := []) l_Mo_245 M_Mo_gives_I_ok M_Mo_gives_I_in M_Mo_gives_I_se (by decide +kernel) ⟨_, (hat_set a1)⟩ rfl rfl rfl (Nat.le_of_ble_eq_true rfl) (Nat.le_of_ble_eq_true rfl) (s_Mo_gives_I pr2 <| show Ev G (d + 1) _ _ M_Mo_mark 49 [.ref 102] [.int (f_marks_3 + (1 : Int32))] (hset (hset h 102 (oC 9 [.ref 103, .int f_status_1, .int f_acts_2, .int (f_marks_3 + (1 : Int32)), .ref 104, .ref 105, .ref 106, .int f_taped_4, .int f_size_5, .int f_token_6, .int f_begin_7, .int f_end_8, .int f_faults_9, .int f_faultPlace_10, .int f_faultKind_11, .int f_deep_12, .long f_value_13, .ref 107, .ref 108, .ref 109, .ref 116, .int f_broadMany_14, .ref 124, .ref 125])) 102 (moC (stV v_15 0) z_16)) R from
    Ev.ret (r := (some (.int (f_marks_3 + (1 : Int32))))) (Or.inl ⟨_, rfl, by decide +kernel, _, rfl, rfl⟩) k1
  )
theorem b_Mo_back_0 {G : ev_G} {d k n : Nat} {h : ev_H} {R : Option Value → ev_H → Prop} {f_status_1 : Int32} {f_acts_2 : Int32} {f_marks_3 : Int32} {f_taped_4 : Int32} {f_size_5 : Int32} {f_token_6 : Int32} {f_begin_7 : Int32} {f_end_8 : Int32} {f_faults_9 : Int32} {f_faultPlace_10 : Int32} {f_faultKind_11 : Int32} {f_deep_12 : Int32} {f_value_13 : Int64} {f_broadMany_14 : Int32} {v_15 : MG} {z_16 : MP}
  (a1 : hat h 102 (oC 9 [.ref 103, .int f_status_1, .int f_acts_2, .int f_marks_3, .ref 104, .ref 105, .ref 106, .int f_taped_4, .int f_size_5, .int f_token_6, .int f_begin_7, .int f_end_8, .int f_faults_9, .int f_faultPlace_10, .int f_faultKind_11, .int f_deep_12, .long f_value_13, .ref 107, .ref 108, .ref 109, .ref 116, .int f_broadMany_14, .ref 124, .ref 125]))
  (pr2 : f_marks_3 = (0 : Int32) → hat h 102 (moC v_15 z_16))
  (k1 : f_marks_3 = (0 : Int32) → R (some (.int (-1 : Int32))) (hset h 102 (moC (stV v_15 (5 : Int32)) z_16)))
  (k2 : ¬ f_marks_3 = (0 : Int32) → Ev G d 0 0 M_Mo_copies 0 [.ref 102, .int ((8036 : Int32) + ((574 : Int32) * (f_marks_3 - (1 : Int32)))), .int (0 : Int32), ev_unk] [] (hset h 102 (oC 9 [.ref 103, .int f_status_1, .int f_acts_2, .int (f_marks_3 - (1 : Int32)), .ref 104, .ref 105, .ref 106, .int f_taped_4, .int f_size_5, .int f_token_6, .int f_begin_7, .int f_end_8, .int f_faults_9, .int f_faultPlace_10, .int f_faultKind_11, .int f_deep_12, .long f_value_13, .ref 107, .ref 108, .ref 109, .ref 116, .int f_broadMany_14, .ref 124, .ref 125])) (fun r h1 => Ev G (d + 1) k n M_Mo_back 40 [.ref 102] (r.toList ++ []) h1 R))
  : Ev G (d + 1) k n M_Mo_back 0 [.ref 102] [] h R :=
  Ev.go (pc' := 1) (ls' := [.ref 102]) (st' := [.ref 102]) [.aload_n 0] (by decide +kernel) rfl <|
  Ev.getf f_Mo_255 (by decide +kernel) a1 rfl <|
  Ev.br (i := .ifCond .ne (9)) (P := f_marks_3 = (0 : Int32)) (t := 7) (f := 13) (r := []) (by decide +kernel) rfl (fun c1 =>
    Ev.go (pc' := 9) (ls' := [.ref 102]) (st' := [.int (5 : Int32), .ref 102]) [.aload_n 0, .iconst 5] (by decide +kernel) rfl <|
    Ev.cV0 (M' := M_Mo_refuse) (as := [.int (5 : Int32)]) (rest := []) l_Mo_226 M_Mo_refuse_ok M_Mo_refuse_in M_Mo_refuse_se (by decide +kernel) ⟨_, a1⟩ rfl rfl rfl (Nat.le_of_ble_eq_true rfl) (Nat.le_of_ble_eq_true rfl) (s_Mo_refuse (pr2 c1) <| show Ev G (d + 1) _ _ M_Mo_back 12 [.ref 102] [.int (-1 : Int32)] (hset h 102 (moC (stV v_15 (5 : Int32)) z_16)) R from
      Ev.ret (r := (some (.int (-1 : Int32)))) (Or.inl ⟨_, rfl, by decide +kernel, _, rfl, rfl⟩) (k1 c1)
    )
  ) (fun c1 =>
    Ev.go (pc' := 15) (ls' := [.ref 102]) (st' := [.ref 102, .ref 102]) [.aload_n 0, .dup] (by decide +kernel) rfl <|
    Ev.getf f_Mo_255 (by decide +kernel) a1 rfl <|
    Ev.go (pc' := 20) (ls' := [.ref 102]) (st' := [.int (f_marks_3 - (1 : Int32)), .ref 102]) [.iconst 1, .isub] (by decide +kernel) rfl <|
    Ev.putf f_Mo_255 (by decide +kernel) a1 (Nat.le_of_ble_eq_true rfl) rfl (fun q => nomatch q) <| show Ev G (d + 1) _ _ M_Mo_back 23 [.ref 102] [] (hset h 102 (oC 9 [.ref 103, .int f_status_1, .int f_acts_2, .int (f_marks_3 - (1 : Int32)), .ref 104, .ref 105, .ref 106, .int f_taped_4, .int f_size_5, .int f_token_6, .int f_begin_7, .int f_end_8, .int f_faults_9, .int f_faultPlace_10, .int f_faultKind_11, .int f_deep_12, .long f_value_13, .ref 107, .ref 108, .ref 109, .ref 116, .int f_broadMany_14, .ref 124, .ref 125])) R from
    Ev.go (pc' := 31) (ls' := [.ref 102]) (st' := [.ref 102, .int (574 : Int32), .int (8036 : Int32), .ref 102]) [.aload_n 0, .sipush (8036), .sipush (574), .aload_n 0] (by decide +kernel) rfl <|
    Ev.getf f_Mo_255 (by decide +kernel) (hat_set a1) rfl <|
    Ev.go (pc' := 37) (ls' := [.ref 102]) (st' := [.int (0 : Int32), .int ((8036 : Int32) + ((574 : Int32) * (f_marks_3 - (1 : Int32)))), .ref 102]) [.imul, .iadd, .iconst 0] (by decide +kernel) rfl <|
    Ev.cV0 (M' := M_Mo_copies) (as := [.int ((8036 : Int32) + ((574 : Int32) * (f_marks_3 - (1 : Int32)))), .int (0 : Int32)]) (rest := []) l_Mo_229 M_Mo_copies_ok M_Mo_copies_in M_Mo_copies_se (by decide +kernel) ⟨_, (hat_set a1)⟩ rfl rfl rfl (Nat.le_of_ble_eq_true rfl) (Nat.le_of_ble_eq_true rfl) (k2 c1)
  )
theorem b_Mo_back_40 {G : ev_G} {d k n : Nat} {h : ev_H} {R : Option Value → ev_H → Prop} {f_status_1 : Int32} {f_acts_2 : Int32} {f_marks_3 : Int32} {f_taped_4 : Int32} {f_size_5 : Int32} {f_token_6 : Int32} {f_begin_7 : Int32} {f_end_8 : Int32} {f_faults_9 : Int32} {f_faultPlace_10 : Int32} {f_faultKind_11 : Int32} {f_deep_12 : Int32} {f_value_13 : Int64} {f_broadMany_14 : Int32} {v_15 : MG} {z_16 : MP}
  (a1 : hat h 102 (oC 9 [.ref 103, .int f_status_1, .int f_acts_2, .int f_marks_3, .ref 104, .ref 105, .ref 106, .int f_taped_4, .int f_size_5, .int f_token_6, .int f_begin_7, .int f_end_8, .int f_faults_9, .int f_faultPlace_10, .int f_faultKind_11, .int f_deep_12, .long f_value_13, .ref 107, .ref 108, .ref 109, .ref 116, .int f_broadMany_14, .ref 124, .ref 125]))
  (pr2 : hat (hset h 102 (oC 9 [.ref 103, .int f_status_1, .int (0 : Int32), .int f_marks_3, .ref 104, .ref 105, .ref 106, .int f_taped_4, .int f_size_5, .int f_token_6, .int f_begin_7, .int f_end_8, .int f_faults_9, .int f_faultPlace_10, .int f_faultKind_11, .int f_deep_12, .long f_value_13, .ref 107, .ref 108, .ref 109, .ref 116, .int f_broadMany_14, .ref 124, .ref 125])) 102 (moC v_15 z_16))
  (k1 : R (some (.int f_marks_3)) (hset (hset h 102 (oC 9 [.ref 103, .int f_status_1, .int (0 : Int32), .int f_marks_3, .ref 104, .ref 105, .ref 106, .int f_taped_4, .int f_size_5, .int f_token_6, .int f_begin_7, .int f_end_8, .int f_faults_9, .int f_faultPlace_10, .int f_faultKind_11, .int f_deep_12, .long f_value_13, .ref 107, .ref 108, .ref 109, .ref 116, .int f_broadMany_14, .ref 124, .ref 125])) 102 (moC (stV v_15 0) z_16)))
  : Ev G (d + 1) k n M_Mo_back 40 [.ref 102] [] h R :=
  Ev.go (pc' := 42) (ls' := [.ref 102]) (st' := [.int (0 : Int32), .ref 102]) [.aload_n 0, .iconst 0] (by decide +kernel) rfl <|
  Ev.putf f_Mo_252 (by decide +kernel) a1 (Nat.le_of_ble_eq_true rfl) rfl (fun q => nomatch q) <| show Ev G (d + 1) _ _ M_Mo_back 45 [.ref 102] [] (hset h 102 (oC 9 [.ref 103, .int f_status_1, .int (0 : Int32), .int f_marks_3, .ref 104, .ref 105, .ref 106, .int f_taped_4, .int f_size_5, .int f_token_6, .int f_begin_7, .int f_end_8, .int f_faults_9, .int f_faultPlace_10, .int f_faultKind_11, .int f_deep_12, .long f_value_13, .ref 107, .ref 108, .ref 109, .ref 116, .int f_broadMany_14, .ref 124, .ref 125])) R from
  Ev.go (pc' := 47) (ls' := [.ref 102]) (st' := [.ref 102, .ref 102]) [.aload_n 0, .aload_n 0] (by decide +kernel) rfl <|
  Ev.getf f_Mo_255 (by decide +kernel) (hat_set a1) rfl <|
  Ev.cV0 (M' := M_Mo_gives_I) (as := [.int f_marks_3]) (rest := []) l_Mo_245 M_Mo_gives_I_ok M_Mo_gives_I_in M_Mo_gives_I_se (by decide +kernel) ⟨_, (hat_set a1)⟩ rfl rfl rfl (Nat.le_of_ble_eq_true rfl) (Nat.le_of_ble_eq_true rfl) (s_Mo_gives_I pr2 <| show Ev G (d + 1) _ _ M_Mo_back 53 [.ref 102] [.int f_marks_3] (hset (hset h 102 (oC 9 [.ref 103, .int f_status_1, .int (0 : Int32), .int f_marks_3, .ref 104, .ref 105, .ref 106, .int f_taped_4, .int f_size_5, .int f_token_6, .int f_begin_7, .int f_end_8, .int f_faults_9, .int f_faultPlace_10, .int f_faultKind_11, .int f_deep_12, .long f_value_13, .ref 107, .ref 108, .ref 109, .ref 116, .int f_broadMany_14, .ref 124, .ref 125])) 102 (moC (stV v_15 0) z_16)) R from
    Ev.ret (r := (some (.int f_marks_3))) (Or.inl ⟨_, rfl, by decide +kernel, _, rfl, rfl⟩) k1
  )
theorem b_Mo_tag_0 {G : ev_G} {d k n : Nat} {h : ev_H} {R : Option Value → ev_H → Prop} {x1 : Int32} {x2 : Int32} {v_1 : MG} {z_2 : MP} {S3 : AS} {v_4 : MG} {z_5 : MP} {v_6 : MG} {z_7 : MP} {g_8 : Nat → Int64} {j_9 : Nat} {v_10 : MG} {z_11 : MP}
  (pr1 : (b2i (frB x2.toInt64 (0 : Int64) (9 : Int64))) = (0 : Int32) → hat h 102 (moC v_1 z_2))
  (r2 : (b2i (frB x2.toInt64 (0 : Int64) (9 : Int64))) = (0 : Int32) → ∃ fs, hat h 102 (oC 9 fs))
  (pr3 : ¬ (b2i (frB x2.toInt64 (0 : Int64) (9 : Int64))) = (0 : Int32) → MS h S3)
  (pr4 : ¬ (b2i (frB x2.toInt64 (0 : Int64) (9 : Int64))) = (0 : Int32) → sOk S3)
  (r5 : ¬ (b2i (frB x2.toInt64 (0 : Int64) (9 : Int64))) = (0 : Int32) → ∃ fs, hat h 102 (oC 9 fs))
  (pr6 : ¬ (b2i (frB x2.toInt64 (0 : Int64) (9 : Int64))) = (0 : Int32) → (b2i (inR x1 (sN S3))) = (0 : Int32) → hat h 102 (moC v_4 z_5))
  (r7 : ¬ (b2i (frB x2.toInt64 (0 : Int64) (9 : Int64))) = (0 : Int32) → (b2i (inR x1 (sN S3))) = (0 : Int32) → ∃ fs, hat h 102 (oC 9 fs))
  (pr8 : ¬ (b2i (frB x2.toInt64 (0 : Int64) (9 : Int64))) = (0 : Int32) → ¬ (b2i (inR x1 (sN S3))) = (0 : Int32) → hat h 102 (moC v_6 z_7))
  (pr9 : ¬ (b2i (frB x2.toInt64 (0 : Int64) (9 : Int64))) = (0 : Int32) → ¬ (b2i (inR x1 (sN S3))) = (0 : Int32) → hat h 103 (aL 9758 g_8))
  (pr10 : ¬ (b2i (frB x2.toInt64 (0 : Int64) (9 : Int64))) = (0 : Int32) → ¬ (b2i (inR x1 (sN S3))) = (0 : Int32) → ev_ix ((42 : Int32) + x1) j_9 9758)
  (r11 : ¬ (b2i (frB x2.toInt64 (0 : Int64) (9 : Int64))) = (0 : Int32) → ¬ (b2i (inR x1 (sN S3))) = (0 : Int32) → ∃ fs, hat h 102 (oC 9 fs))
  (pr12 : ¬ (b2i (frB x2.toInt64 (0 : Int64) (9 : Int64))) = (0 : Int32) → ¬ (b2i (inR x1 (sN S3))) = (0 : Int32) → (g_8 j_9).toInt32 = x2 → hat h 102 (moC v_10 z_11))
  (r13 : ¬ (b2i (frB x2.toInt64 (0 : Int64) (9 : Int64))) = (0 : Int32) → ¬ (b2i (inR x1 (sN S3))) = (0 : Int32) → (g_8 j_9).toInt32 = x2 → ∃ fs, hat h 102 (oC 9 fs))
  (r14 : ¬ (b2i (frB x2.toInt64 (0 : Int64) (9 : Int64))) = (0 : Int32) → ¬ (b2i (inR x1 (sN S3))) = (0 : Int32) → ¬ (g_8 j_9).toInt32 = x2 → ∃ fs, hat h 102 (oC 9 fs))
  (k1 : (b2i (frB x2.toInt64 (0 : Int64) (9 : Int64))) = (0 : Int32) → R (some (.int (-1 : Int32))) (hset h 102 (moC (stV v_1 (1 : Int32)) z_2)))
  (k2 : ¬ (b2i (frB x2.toInt64 (0 : Int64) (9 : Int64))) = (0 : Int32) → (b2i (inR x1 (sN S3))) = (0 : Int32) → R (some (.int (-1 : Int32))) (hset h 102 (moC (stV v_4 (2 : Int32)) z_5)))
  (k3 : ¬ (b2i (frB x2.toInt64 (0 : Int64) (9 : Int64))) = (0 : Int32) → ¬ (b2i (inR x1 (sN S3))) = (0 : Int32) → (g_8 j_9).toInt32 = x2 → R (some (.int (-1 : Int32))) (hset h 102 (moC (stV v_10 (4 : Int32)) z_11)))
  (k4 : ¬ (b2i (frB x2.toInt64 (0 : Int64) (9 : Int64))) = (0 : Int32) → ¬ (b2i (inR x1 (sN S3))) = (0 : Int32) → ¬ (g_8 j_9).toInt32 = x2 → Ev G (d + 2) 0 0 M_Mo_acted 0 [.ref 102, .int (0 : Int32), ev_unk] [] h (fun r h1 => Ev G (d + 3) k n M_Mo_tag 58 [.ref 102, .int x1, .int x2, .int (g_8 j_9).toInt32] (r.toList ++ []) h1 R))
  : Ev G (d + 3) k n M_Mo_tag 0 [.ref 102, .int x1, .int x2, ev_unk] [] h R :=
  Ev.go (pc' := 3) (ls' := [.ref 102, .int x1, .int x2, ev_unk]) (st' := [.long (0 : Int64), .long x2.toInt64]) [.iload_n 2, .i2l, .lconst 0] (by decide +kernel) rfl <|
  Ev.ldc2 k_Mo_293 (by decide +kernel) <|
  Ev.cS0 (M' := M_Mo_isFrom) (as := [.long x2.toInt64, .long (0 : Int64), .long (9 : Int64)]) (rest := []) l_Mo_172 M_Mo_isFrom_ok M_Mo_isFrom_st (by decide +kernel) rfl rfl (Nat.le_of_ble_eq_true rfl) (Nat.le_of_ble_eq_true rfl) (s_Mo_isFrom <| show Ev G (d + 3) _ _ M_Mo_tag 9 [.ref 102, .int x1, .int x2, ev_unk] [.int (b2i (frB x2.toInt64 (0 : Int64) (9 : Int64)))] h R from
    Ev.br (i := .ifCond .ne (9)) (P := (b2i (frB x2.toInt64 (0 : Int64) (9 : Int64))) = (0 : Int32)) (t := 12) (f := 18) (r := []) (by decide +kernel) rfl (fun c1 =>
      Ev.go (pc' := 14) (ls' := [.ref 102, .int x1, .int x2, ev_unk]) (st' := [.int (1 : Int32), .ref 102]) [.aload_n 0, .iconst 1] (by decide +kernel) rfl <|
      Ev.cV0 (M' := M_Mo_refuse) (as := [.int (1 : Int32)]) (rest := []) l_Mo_226 M_Mo_refuse_ok M_Mo_refuse_in M_Mo_refuse_se (by decide +kernel) (r2 c1) rfl rfl rfl (Nat.le_of_ble_eq_true rfl) (Nat.le_of_ble_eq_true rfl) (s_Mo_refuse (pr1 c1) <| show Ev G (d + 3) _ _ M_Mo_tag 17 [.ref 102, .int x1, .int x2, ev_unk] [.int (-1 : Int32)] (hset h 102 (moC (stV v_1 (1 : Int32)) z_2)) R from
        Ev.ret (r := (some (.int (-1 : Int32)))) (Or.inl ⟨_, rfl, by decide +kernel, _, rfl, rfl⟩) (k1 c1)
      )
    ) (fun c1 =>
      Ev.go (pc' := 20) (ls' := [.ref 102, .int x1, .int x2, ev_unk]) (st' := [.int x1, .ref 102]) [.aload_n 0, .iload_n 1] (by decide +kernel) rfl <|
      Ev.cV0 (M' := M_Mo_isCode) (as := [.int x1]) (rest := []) l_Mo_258 M_Mo_isCode_ok M_Mo_isCode_in M_Mo_isCode_se (by decide +kernel) (r5 c1) rfl rfl rfl (Nat.le_of_ble_eq_true rfl) (Nat.le_of_ble_eq_true rfl) (s_Mo_isCode (pr3 c1) (pr4 c1) <| show Ev G (d + 3) _ _ M_Mo_tag 23 [.ref 102, .int x1, .int x2, ev_unk] [.int (b2i (inR x1 (sN S3)))] h R from
        Ev.br (i := .ifCond .ne (9)) (P := (b2i (inR x1 (sN S3))) = (0 : Int32)) (t := 26) (f := 32) (r := []) (by decide +kernel) rfl (fun c2 =>
          Ev.go (pc' := 28) (ls' := [.ref 102, .int x1, .int x2, ev_unk]) (st' := [.int (2 : Int32), .ref 102]) [.aload_n 0, .iconst 2] (by decide +kernel) rfl <|
          Ev.cV0 (M' := M_Mo_refuse) (as := [.int (2 : Int32)]) (rest := []) l_Mo_226 M_Mo_refuse_ok M_Mo_refuse_in M_Mo_refuse_se (by decide +kernel) (r7 c1 c2) rfl rfl rfl (Nat.le_of_ble_eq_true rfl) (Nat.le_of_ble_eq_true rfl) (s_Mo_refuse (pr6 c1 c2) <| show Ev G (d + 3) _ _ M_Mo_tag 31 [.ref 102, .int x1, .int x2, ev_unk] [.int (-1 : Int32)] (hset h 102 (moC (stV v_4 (2 : Int32)) z_5)) R from
            Ev.ret (r := (some (.int (-1 : Int32)))) (Or.inl ⟨_, rfl, by decide +kernel, _, rfl, rfl⟩) (k2 c1 c2)
          )
        ) (fun c2 =>
          Ev.go (pc' := 37) (ls' := [.ref 102, .int x1, .int x2, ev_unk]) (st' := [.int ((42 : Int32) + x1), .ref 102]) [.aload_n 0, .bipush (42), .iload_n 1, .iadd] (by decide +kernel) rfl <|
          Ev.cV0 (M' := M_Mo_of) (as := [.int ((42 : Int32) + x1)]) (rest := []) l_Mo_64 M_Mo_of_ok M_Mo_of_in M_Mo_of_se (by decide +kernel) (r11 c1 c2) rfl rfl rfl (Nat.le_of_ble_eq_true rfl) (Nat.le_of_ble_eq_true rfl) (s_Mo_of (pr8 c1 c2) (pr9 c1 c2) (pr10 c1 c2) <| show Ev G (d + 3) _ _ M_Mo_tag 40 [.ref 102, .int x1, .int x2, ev_unk] [.long (g_8 j_9)] h R from
            Ev.go (pc' := 44) (ls' := [.ref 102, .int x1, .int x2, .int (g_8 j_9).toInt32]) (st' := [.int x2, .int (g_8 j_9).toInt32]) [.l2i, .istore_n 3, .iload_n 3, .iload_n 2] (by decide +kernel) rfl <|
            Ev.br (i := .if_icmp .ne (9)) (P := (g_8 j_9).toInt32 = x2) (t := 47) (f := 53) (r := []) (by decide +kernel) rfl (fun c3 =>
              Ev.go (pc' := 49) (ls' := [.ref 102, .int x1, .int x2, .int (g_8 j_9).toInt32]) (st' := [.int (4 : Int32), .ref 102]) [.aload_n 0, .iconst 4] (by decide +kernel) rfl <|
              Ev.cV0 (M' := M_Mo_refuse) (as := [.int (4 : Int32)]) (rest := []) l_Mo_226 M_Mo_refuse_ok M_Mo_refuse_in M_Mo_refuse_se (by decide +kernel) (r13 c1 c2 c3) rfl rfl rfl (Nat.le_of_ble_eq_true rfl) (Nat.le_of_ble_eq_true rfl) (s_Mo_refuse (pr12 c1 c2 c3) <| show Ev G (d + 3) _ _ M_Mo_tag 52 [.ref 102, .int x1, .int x2, .int (g_8 j_9).toInt32] [.int (-1 : Int32)] (hset h 102 (moC (stV v_10 (4 : Int32)) z_11)) R from
                Ev.ret (r := (some (.int (-1 : Int32)))) (Or.inl ⟨_, rfl, by decide +kernel, _, rfl, rfl⟩) (k3 c1 c2 c3)
              )
            ) (fun c3 =>
              Ev.go (pc' := 55) (ls' := [.ref 102, .int x1, .int x2, .int (g_8 j_9).toInt32]) (st' := [.int (0 : Int32), .ref 102]) [.aload_n 0, .iconst 0] (by decide +kernel) rfl <|
              Ev.cV0 (M' := M_Mo_acted) (as := [.int (0 : Int32)]) (rest := []) l_Mo_242 M_Mo_acted_ok M_Mo_acted_in M_Mo_acted_se (by decide +kernel) (r14 c1 c2 c3) rfl rfl rfl (Nat.le_of_ble_eq_true rfl) (Nat.le_of_ble_eq_true rfl) (k4 c1 c2 c3)
            )
          )
        )
      )
    )
  )
theorem b_Mo_tag_58 {G : ev_G} {d k n : Nat} {h : ev_H} {R : Option Value → ev_H → Prop} {x1 : Int32} {x2 : Int32} {x3 : Int32}
  (r1 : ∃ fs, hat h 102 (oC 9 fs))
  (k1 : Ev G (d + 2) 0 0 M_Mo_puts 0 [.ref 102, .int ((42 : Int32) + x1), .long x2.toInt64, ev_unk] [] h (fun r h1 => Ev G (d + 3) k n M_Mo_tag 68 [.ref 102, .int x1, .int x2, .int x3] (r.toList ++ []) h1 R))
  : Ev G (d + 3) k n M_Mo_tag 58 [.ref 102, .int x1, .int x2, .int x3] [] h R :=
  Ev.go (pc' := 65) (ls' := [.ref 102, .int x1, .int x2, .int x3]) (st' := [.long x2.toInt64, .int ((42 : Int32) + x1), .ref 102]) [.aload_n 0, .bipush (42), .iload_n 1, .iadd, .iload_n 2, .i2l] (by decide +kernel) rfl <|
  Ev.cV0 (M' := M_Mo_puts) (as := [.int ((42 : Int32) + x1), .long x2.toInt64]) (rest := []) l_Mo_60 M_Mo_puts_ok M_Mo_puts_in M_Mo_puts_se (by decide +kernel) r1 rfl rfl rfl (Nat.le_of_ble_eq_true rfl) (Nat.le_of_ble_eq_true rfl) k1
theorem b_Mo_tag_68 {G : ev_G} {d k n : Nat} {h : ev_H} {R : Option Value → ev_H → Prop} {x1 : Int32} {x2 : Int32} {x3 : Int32} {v_1 : MG} {z_2 : MP}
  (pr1 : hat h 102 (moC v_1 z_2))
  (r2 : ∃ fs, hat h 102 (oC 9 fs))
  (k1 : R (some (.int x3)) (hset h 102 (moC (stV v_1 0) z_2)))
  : Ev G (d + 3) k n M_Mo_tag 68 [.ref 102, .int x1, .int x2, .int x3] [] h R :=
  Ev.go (pc' := 70) (ls' := [.ref 102, .int x1, .int x2, .int x3]) (st' := [.int x3, .ref 102]) [.aload_n 0, .iload_n 3] (by decide +kernel) rfl <|
  Ev.cV0 (M' := M_Mo_gives_I) (as := [.int x3]) (rest := []) l_Mo_245 M_Mo_gives_I_ok M_Mo_gives_I_in M_Mo_gives_I_se (by decide +kernel) r2 rfl rfl rfl (Nat.le_of_ble_eq_true rfl) (Nat.le_of_ble_eq_true rfl) (s_Mo_gives_I pr1 <| show Ev G (d + 3) _ _ M_Mo_tag 73 [.ref 102, .int x1, .int x2, .int x3] [.int x3] (hset h 102 (moC (stV v_1 0) z_2)) R from
    Ev.ret (r := (some (.int x3))) (Or.inl ⟨_, rfl, by decide +kernel, _, rfl, rfl⟩) k1
  )
theorem b_Mo_flip_0 {G : ev_G} {d k n : Nat} {h : ev_H} {R : Option Value → ev_H → Prop} {x1 : Int32} {x2 : Int32} {S1 : AS} {v_2 : MG} {z_3 : MP} {S4 : AS} {v_5 : MG} {z_6 : MP} {S7 : AS} {c_8 : Nat} {S9 : AS} {v_10 : MG} {z_11 : MP}
  (pr1 : MS h S1)
  (pr2 : sOk S1)
  (r3 : ∃ fs, hat h 102 (oC 9 fs))
  (pr4 : (b2i (inR x2 (sB S1))) = (0 : Int32) → hat h 102 (moC v_2 z_3))
  (r5 : (b2i (inR x2 (sB S1))) = (0 : Int32) → ∃ fs, hat h 102 (oC 9 fs))
  (pr6 : ¬ (b2i (inR x2 (sB S1))) = (0 : Int32) → MS h S4)
  (pr7 : ¬ (b2i (inR x2 (sB S1))) = (0 : Int32) → sOk S4)
  (r8 : ¬ (b2i (inR x2 (sB S1))) = (0 : Int32) → ∃ fs, hat h 102 (oC 9 fs))
  (pr9 : ¬ (b2i (inR x2 (sB S1))) = (0 : Int32) → (b2i (inR x1 (sN S4))) = (0 : Int32) → hat h 102 (moC v_5 z_6))
  (r10 : ¬ (b2i (inR x2 (sB S1))) = (0 : Int32) → (b2i (inR x1 (sN S4))) = (0 : Int32) → ∃ fs, hat h 102 (oC 9 fs))
  (pr11 : ¬ (b2i (inR x2 (sB S1))) = (0 : Int32) → ¬ (b2i (inR x1 (sN S4))) = (0 : Int32) → MS h S7)
  (pr12 : ¬ (b2i (inR x2 (sB S1))) = (0 : Int32) → ¬ (b2i (inR x1 (sN S4))) = (0 : Int32) → sOk S7)
  (pr13 : ¬ (b2i (inR x2 (sB S1))) = (0 : Int32) → ¬ (b2i (inR x1 (sN S4))) = (0 : Int32) → x1 = nI c_8 ∧ c_8 < sN S7)
  (r14 : ¬ (b2i (inR x2 (sB S1))) = (0 : Int32) → ¬ (b2i (inR x1 (sN S4))) = (0 : Int32) → ∃ fs, hat h 102 (oC 9 fs))
  (pr15 : ¬ (b2i (inR x2 (sB S1))) = (0 : Int32) → ¬ (b2i (inR x1 (sN S4))) = (0 : Int32) → MS h S9)
  (pr16 : ¬ (b2i (inR x2 (sB S1))) = (0 : Int32) → ¬ (b2i (inR x1 (sN S4))) = (0 : Int32) → sOk S9)
  (r17 : ¬ (b2i (inR x2 (sB S1))) = (0 : Int32) → ¬ (b2i (inR x1 (sN S4))) = (0 : Int32) → (frI (whP S9 ((sCo S7 c_8) ^^^ ((1 : Int64) <<< (x2.toInt64 &&& 63)))) (sN S9)) = (-1 : Int32) → ∃ fs, hat h 102 (oC 9 fs))
  (pr18 : ¬ (b2i (inR x2 (sB S1))) = (0 : Int32) → ¬ (b2i (inR x1 (sN S4))) = (0 : Int32) → ¬ (frI (whP S9 ((sCo S7 c_8) ^^^ ((1 : Int64) <<< (x2.toInt64 &&& 63)))) (sN S9)) = (-1 : Int32) → hat h 102 (moC v_10 z_11))
  (r19 : ¬ (b2i (inR x2 (sB S1))) = (0 : Int32) → ¬ (b2i (inR x1 (sN S4))) = (0 : Int32) → ¬ (frI (whP S9 ((sCo S7 c_8) ^^^ ((1 : Int64) <<< (x2.toInt64 &&& 63)))) (sN S9)) = (-1 : Int32) → ∃ fs, hat h 102 (oC 9 fs))
  (k1 : (b2i (inR x2 (sB S1))) = (0 : Int32) → R (some (.int (-1 : Int32))) (hset h 102 (moC (stV v_2 (1 : Int32)) z_3)))
  (k2 : ¬ (b2i (inR x2 (sB S1))) = (0 : Int32) → (b2i (inR x1 (sN S4))) = (0 : Int32) → R (some (.int (-1 : Int32))) (hset h 102 (moC (stV v_5 (2 : Int32)) z_6)))
  (k3 : ¬ (b2i (inR x2 (sB S1))) = (0 : Int32) → ¬ (b2i (inR x1 (sN S4))) = (0 : Int32) → (frI (whP S9 ((sCo S7 c_8) ^^^ ((1 : Int64) <<< (x2.toInt64 &&& 63)))) (sN S9)) = (-1 : Int32) → Ev G (d + 2) 0 0 M_Mo_acted 0 [.ref 102, .int (0 : Int32), ev_unk] [] h (fun r h1 => Ev G (d + 3) k n M_Mo_flip 58 [.ref 102, .int x1, .int x2, .long ((sCo S7 c_8) ^^^ ((1 : Int64) <<< (x2.toInt64 &&& 63))), ev_unk] (r.toList ++ []) h1 R))
  (k4 : ¬ (b2i (inR x2 (sB S1))) = (0 : Int32) → ¬ (b2i (inR x1 (sN S4))) = (0 : Int32) → ¬ (frI (whP S9 ((sCo S7 c_8) ^^^ ((1 : Int64) <<< (x2.toInt64 &&& 63)))) (sN S9)) = (-1 : Int32) → R (some (.int (-1 : Int32))) (hset h 102 (moC (stV v_10 (4 : Int32)) z_11)))
  : Ev G (d + 3) k n M_Mo_flip 0 [.ref 102, .int x1, .int x2, ev_unk, ev_unk] [] h R :=
  Ev.go (pc' := 2) (ls' := [.ref 102, .int x1, .int x2, ev_unk, ev_unk]) (st' := [.int x2, .ref 102]) [.aload_n 0, .iload_n 2] (by decide +kernel) rfl <|
  Ev.cV0 (M' := M_Mo_isBit) (as := [.int x2]) (rest := []) l_Mo_290 M_Mo_isBit_ok M_Mo_isBit_in M_Mo_isBit_se (by decide +kernel) r3 rfl rfl rfl (Nat.le_of_ble_eq_true rfl) (Nat.le_of_ble_eq_true rfl) (s_Mo_isBit pr1 pr2 <| show Ev G (d + 3) _ _ M_Mo_flip 5 [.ref 102, .int x1, .int x2, ev_unk, ev_unk] [.int (b2i (inR x2 (sB S1)))] h R from
    Ev.br (i := .ifCond .ne (9)) (P := (b2i (inR x2 (sB S1))) = (0 : Int32)) (t := 8) (f := 14) (r := []) (by decide +kernel) rfl (fun c1 =>
      Ev.go (pc' := 10) (ls' := [.ref 102, .int x1, .int x2, ev_unk, ev_unk]) (st' := [.int (1 : Int32), .ref 102]) [.aload_n 0, .iconst 1] (by decide +kernel) rfl <|
      Ev.cV0 (M' := M_Mo_refuse) (as := [.int (1 : Int32)]) (rest := []) l_Mo_226 M_Mo_refuse_ok M_Mo_refuse_in M_Mo_refuse_se (by decide +kernel) (r5 c1) rfl rfl rfl (Nat.le_of_ble_eq_true rfl) (Nat.le_of_ble_eq_true rfl) (s_Mo_refuse (pr4 c1) <| show Ev G (d + 3) _ _ M_Mo_flip 13 [.ref 102, .int x1, .int x2, ev_unk, ev_unk] [.int (-1 : Int32)] (hset h 102 (moC (stV v_2 (1 : Int32)) z_3)) R from
        Ev.ret (r := (some (.int (-1 : Int32)))) (Or.inl ⟨_, rfl, by decide +kernel, _, rfl, rfl⟩) (k1 c1)
      )
    ) (fun c1 =>
      Ev.go (pc' := 16) (ls' := [.ref 102, .int x1, .int x2, ev_unk, ev_unk]) (st' := [.int x1, .ref 102]) [.aload_n 0, .iload_n 1] (by decide +kernel) rfl <|
      Ev.cV0 (M' := M_Mo_isCode) (as := [.int x1]) (rest := []) l_Mo_258 M_Mo_isCode_ok M_Mo_isCode_in M_Mo_isCode_se (by decide +kernel) (r8 c1) rfl rfl rfl (Nat.le_of_ble_eq_true rfl) (Nat.le_of_ble_eq_true rfl) (s_Mo_isCode (pr6 c1) (pr7 c1) <| show Ev G (d + 3) _ _ M_Mo_flip 19 [.ref 102, .int x1, .int x2, ev_unk, ev_unk] [.int (b2i (inR x1 (sN S4)))] h R from
        Ev.br (i := .ifCond .ne (9)) (P := (b2i (inR x1 (sN S4))) = (0 : Int32)) (t := 22) (f := 28) (r := []) (by decide +kernel) rfl (fun c2 =>
          Ev.go (pc' := 24) (ls' := [.ref 102, .int x1, .int x2, ev_unk, ev_unk]) (st' := [.int (2 : Int32), .ref 102]) [.aload_n 0, .iconst 2] (by decide +kernel) rfl <|
          Ev.cV0 (M' := M_Mo_refuse) (as := [.int (2 : Int32)]) (rest := []) l_Mo_226 M_Mo_refuse_ok M_Mo_refuse_in M_Mo_refuse_se (by decide +kernel) (r10 c1 c2) rfl rfl rfl (Nat.le_of_ble_eq_true rfl) (Nat.le_of_ble_eq_true rfl) (s_Mo_refuse (pr9 c1 c2) <| show Ev G (d + 3) _ _ M_Mo_flip 27 [.ref 102, .int x1, .int x2, ev_unk, ev_unk] [.int (-1 : Int32)] (hset h 102 (moC (stV v_5 (2 : Int32)) z_6)) R from
            Ev.ret (r := (some (.int (-1 : Int32)))) (Or.inl ⟨_, rfl, by decide +kernel, _, rfl, rfl⟩) (k2 c1 c2)
          )
        ) (fun c2 =>
          Ev.go (pc' := 30) (ls' := [.ref 102, .int x1, .int x2, ev_unk, ev_unk]) (st' := [.int x1, .ref 102]) [.aload_n 0, .iload_n 1] (by decide +kernel) rfl <|
          Ev.cV0 (M' := M_Mo_codeOf) (as := [.int x1]) (rest := []) l_Mo_85 M_Mo_codeOf_ok M_Mo_codeOf_in M_Mo_codeOf_se (by decide +kernel) (r14 c1 c2) rfl rfl rfl (Nat.le_of_ble_eq_true rfl) (Nat.le_of_ble_eq_true rfl) (s_Mo_codeOf (pr11 c1 c2) (pr12 c1 c2) (pr13 c1 c2) <| show Ev G (d + 3) _ _ M_Mo_flip 33 [.ref 102, .int x1, .int x2, ev_unk, ev_unk] [.long (sCo S7 c_8)] h R from
            Ev.go (pc' := 40) (ls' := [.ref 102, .int x1, .int x2, .long ((sCo S7 c_8) ^^^ ((1 : Int64) <<< (x2.toInt64 &&& 63))), ev_unk]) (st' := [.long ((sCo S7 c_8) ^^^ ((1 : Int64) <<< (x2.toInt64 &&& 63))), .ref 102]) [.lconst 1, .iload_n 2, .lshl, .lxor, .lstore_n 3, .aload_n 0, .lload_n 3] (by decide +kernel) rfl <|
            Ev.cV0 (M' := M_Mo_found) (as := [.long ((sCo S7 c_8) ^^^ ((1 : Int64) <<< (x2.toInt64 &&& 63)))]) (rest := []) l_Mo_217 M_Mo_found_ok M_Mo_found_in M_Mo_found_se (by decide +kernel) (r14 c1 c2) rfl rfl rfl (Nat.le_of_ble_eq_true rfl) (Nat.le_of_ble_eq_true rfl) (s_Mo_found (pr15 c1 c2) (pr16 c1 c2) <| show Ev G (d + 3) _ _ M_Mo_flip 43 [.ref 102, .int x1, .int x2, .long ((sCo S7 c_8) ^^^ ((1 : Int64) <<< (x2.toInt64 &&& 63))), ev_unk] [.int (frI (whP S9 ((sCo S7 c_8) ^^^ ((1 : Int64) <<< (x2.toInt64 &&& 63)))) (sN S9))] h R from
              Ev.go (pc' := 44) (ls' := [.ref 102, .int x1, .int x2, .long ((sCo S7 c_8) ^^^ ((1 : Int64) <<< (x2.toInt64 &&& 63))), ev_unk]) (st' := [.int (-1 : Int32), .int (frI (whP S9 ((sCo S7 c_8) ^^^ ((1 : Int64) <<< (x2.toInt64 &&& 63)))) (sN S9))]) [.iconst (-1)] (by decide +kernel) rfl <|
              Ev.br (i := .if_icmp .eq (9)) (P := (frI (whP S9 ((sCo S7 c_8) ^^^ ((1 : Int64) <<< (x2.toInt64 &&& 63)))) (sN S9)) = (-1 : Int32)) (t := 53) (f := 47) (r := []) (by decide +kernel) rfl (fun c3 =>
                Ev.go (pc' := 55) (ls' := [.ref 102, .int x1, .int x2, .long ((sCo S7 c_8) ^^^ ((1 : Int64) <<< (x2.toInt64 &&& 63))), ev_unk]) (st' := [.int (0 : Int32), .ref 102]) [.aload_n 0, .iconst 0] (by decide +kernel) rfl <|
                Ev.cV0 (M' := M_Mo_acted) (as := [.int (0 : Int32)]) (rest := []) l_Mo_242 M_Mo_acted_ok M_Mo_acted_in M_Mo_acted_se (by decide +kernel) (r17 c1 c2 c3) rfl rfl rfl (Nat.le_of_ble_eq_true rfl) (Nat.le_of_ble_eq_true rfl) (k3 c1 c2 c3)
              ) (fun c3 =>
                Ev.go (pc' := 49) (ls' := [.ref 102, .int x1, .int x2, .long ((sCo S7 c_8) ^^^ ((1 : Int64) <<< (x2.toInt64 &&& 63))), ev_unk]) (st' := [.int (4 : Int32), .ref 102]) [.aload_n 0, .iconst 4] (by decide +kernel) rfl <|
                Ev.cV0 (M' := M_Mo_refuse) (as := [.int (4 : Int32)]) (rest := []) l_Mo_226 M_Mo_refuse_ok M_Mo_refuse_in M_Mo_refuse_se (by decide +kernel) (r19 c1 c2 c3) rfl rfl rfl (Nat.le_of_ble_eq_true rfl) (Nat.le_of_ble_eq_true rfl) (s_Mo_refuse (pr18 c1 c2 c3) <| show Ev G (d + 3) _ _ M_Mo_flip 52 [.ref 102, .int x1, .int x2, .long ((sCo S7 c_8) ^^^ ((1 : Int64) <<< (x2.toInt64 &&& 63))), ev_unk] [.int (-1 : Int32)] (hset h 102 (moC (stV v_10 (4 : Int32)) z_11)) R from
                  Ev.ret (r := (some (.int (-1 : Int32)))) (Or.inl ⟨_, rfl, by decide +kernel, _, rfl, rfl⟩) (k4 c1 c2 c3)
                )
              )
            )
          )
        )
      )
    )
  )
theorem b_Mo_flip_58 {G : ev_G} {d k n : Nat} {h : ev_H} {R : Option Value → ev_H → Prop} {x1 : Int32} {x2 : Int32} {x3 : Int64}
  (r1 : ∃ fs, hat h 102 (oC 9 fs))
  (k1 : Ev G (d + 2) 0 0 M_Mo_puts 0 [.ref 102, .int ((10 : Int32) + x1), .long x3, ev_unk] [] h (fun r h1 => Ev G (d + 3) k n M_Mo_flip 67 [.ref 102, .int x1, .int x2, .long x3, ev_unk] (r.toList ++ []) h1 R))
  : Ev G (d + 3) k n M_Mo_flip 58 [.ref 102, .int x1, .int x2, .long x3, ev_unk] [] h R :=
  Ev.go (pc' := 64) (ls' := [.ref 102, .int x1, .int x2, .long x3, ev_unk]) (st' := [.long x3, .int ((10 : Int32) + x1), .ref 102]) [.aload_n 0, .bipush (10), .iload_n 1, .iadd, .lload_n 3] (by decide +kernel) rfl <|
  Ev.cV0 (M' := M_Mo_puts) (as := [.int ((10 : Int32) + x1), .long x3]) (rest := []) l_Mo_60 M_Mo_puts_ok M_Mo_puts_in M_Mo_puts_se (by decide +kernel) r1 rfl rfl rfl (Nat.le_of_ble_eq_true rfl) (Nat.le_of_ble_eq_true rfl) k1
theorem b_Mo_flip_67 {G : ev_G} {d k n : Nat} {h : ev_H} {R : Option Value → ev_H → Prop} {x1 : Int32} {x2 : Int32} {x3 : Int64} {v_1 : MG} {z_2 : MP}
  (pr1 : hat h 102 (moC v_1 z_2))
  (r2 : ∃ fs, hat h 102 (oC 9 fs))
  (k1 : R (some (.int ((x3 >>> (x2.toInt64 &&& 63)) &&& (1 : Int64)).toInt32)) (hset h 102 (moC (stV v_1 0) z_2)))
  : Ev G (d + 3) k n M_Mo_flip 67 [.ref 102, .int x1, .int x2, .long x3, ev_unk] [] h R :=
  Ev.go (pc' := 74) (ls' := [.ref 102, .int x1, .int x2, .long x3, ev_unk]) (st' := [.int ((x3 >>> (x2.toInt64 &&& 63)) &&& (1 : Int64)).toInt32, .ref 102]) [.aload_n 0, .lload_n 3, .iload_n 2, .lshr, .lconst 1, .land, .l2i] (by decide +kernel) rfl <|
  Ev.cV0 (M' := M_Mo_gives_I) (as := [.int ((x3 >>> (x2.toInt64 &&& 63)) &&& (1 : Int64)).toInt32]) (rest := []) l_Mo_245 M_Mo_gives_I_ok M_Mo_gives_I_in M_Mo_gives_I_se (by decide +kernel) r2 rfl rfl rfl (Nat.le_of_ble_eq_true rfl) (Nat.le_of_ble_eq_true rfl) (s_Mo_gives_I pr1 <| show Ev G (d + 3) _ _ M_Mo_flip 77 [.ref 102, .int x1, .int x2, .long x3, ev_unk] [.int ((x3 >>> (x2.toInt64 &&& 63)) &&& (1 : Int64)).toInt32] (hset h 102 (moC (stV v_1 0) z_2)) R from
    Ev.ret (r := (some (.int ((x3 >>> (x2.toInt64 &&& 63)) &&& (1 : Int64)).toInt32))) (Or.inl ⟨_, rfl, by decide +kernel, _, rfl, rfl⟩) k1
  )
theorem b_Mo_add_0 {G : ev_G} {d k n : Nat} {h : ev_H} {R : Option Value → ev_H → Prop} {x1 : Int64} {S1 : AS} {v_2 : MG} {z_3 : MP} {S4 : AS} {v_5 : MG} {z_6 : MP} {S7 : AS} {v_8 : MG} {z_9 : MP}
  (pr1 : MS h S1)
  (r2 : ∃ fs, hat h 102 (oC 9 fs))
  (pr3 : (b2i (numB x1 (sB S1))) = (0 : Int32) → hat h 102 (moC v_2 z_3))
  (r4 : (b2i (numB x1 (sB S1))) = (0 : Int32) → ∃ fs, hat h 102 (oC 9 fs))
  (pr5 : ¬ (b2i (numB x1 (sB S1))) = (0 : Int32) → MS h S4)
  (r6 : ¬ (b2i (numB x1 (sB S1))) = (0 : Int32) → ∃ fs, hat h 102 (oC 9 fs))
  (pr7 : ¬ (b2i (numB x1 (sB S1))) = (0 : Int32) → (nI (sN S4)) = (32 : Int32) → hat h 102 (moC v_5 z_6))
  (r8 : ¬ (b2i (numB x1 (sB S1))) = (0 : Int32) → (nI (sN S4)) = (32 : Int32) → ∃ fs, hat h 102 (oC 9 fs))
  (pr9 : ¬ (b2i (numB x1 (sB S1))) = (0 : Int32) → ¬ (nI (sN S4)) = (32 : Int32) → MS h S7)
  (pr10 : ¬ (b2i (numB x1 (sB S1))) = (0 : Int32) → ¬ (nI (sN S4)) = (32 : Int32) → sOk S7)
  (r11 : ¬ (b2i (numB x1 (sB S1))) = (0 : Int32) → ¬ (nI (sN S4)) = (32 : Int32) → ∃ fs, hat h 102 (oC 9 fs))
  (r12 : ¬ (b2i (numB x1 (sB S1))) = (0 : Int32) → ¬ (nI (sN S4)) = (32 : Int32) → (frI (whP S7 x1) (sN S7)) = (-1 : Int32) → ∃ fs, hat h 102 (oC 9 fs))
  (pr13 : ¬ (b2i (numB x1 (sB S1))) = (0 : Int32) → ¬ (nI (sN S4)) = (32 : Int32) → ¬ (frI (whP S7 x1) (sN S7)) = (-1 : Int32) → hat h 102 (moC v_8 z_9))
  (r14 : ¬ (b2i (numB x1 (sB S1))) = (0 : Int32) → ¬ (nI (sN S4)) = (32 : Int32) → ¬ (frI (whP S7 x1) (sN S7)) = (-1 : Int32) → ∃ fs, hat h 102 (oC 9 fs))
  (k1 : (b2i (numB x1 (sB S1))) = (0 : Int32) → R (some (.int (-1 : Int32))) (hset h 102 (moC (stV v_2 (1 : Int32)) z_3)))
  (k2 : ¬ (b2i (numB x1 (sB S1))) = (0 : Int32) → (nI (sN S4)) = (32 : Int32) → R (some (.int (-1 : Int32))) (hset h 102 (moC (stV v_5 (3 : Int32)) z_6)))
  (k3 : ¬ (b2i (numB x1 (sB S1))) = (0 : Int32) → ¬ (nI (sN S4)) = (32 : Int32) → (frI (whP S7 x1) (sN S7)) = (-1 : Int32) → Ev G (d + 2) 0 0 M_Mo_acted 0 [.ref 102, .int (0 : Int32), ev_unk] [] h (fun r h1 => Ev G (d + 3) k n M_Mo_add 49 [.ref 102, .long x1, ev_unk] (r.toList ++ []) h1 R))
  (k4 : ¬ (b2i (numB x1 (sB S1))) = (0 : Int32) → ¬ (nI (sN S4)) = (32 : Int32) → ¬ (frI (whP S7 x1) (sN S7)) = (-1 : Int32) → R (some (.int (-1 : Int32))) (hset h 102 (moC (stV v_8 (4 : Int32)) z_9)))
  : Ev G (d + 3) k n M_Mo_add 0 [.ref 102, .long x1, ev_unk] [] h R :=
  Ev.go (pc' := 2) (ls' := [.ref 102, .long x1, ev_unk]) (st' := [.long x1, .ref 102]) [.aload_n 0, .lload_n 1] (by decide +kernel) rfl <|
  Ev.cV0 (M' := M_Mo_isNumber) (as := [.long x1]) (rest := []) l_Mo_267 M_Mo_isNumber_ok M_Mo_isNumber_in M_Mo_isNumber_se (by decide +kernel) r2 rfl rfl rfl (Nat.le_of_ble_eq_true rfl) (Nat.le_of_ble_eq_true rfl) (s_Mo_isNumber pr1 <| show Ev G (d + 3) _ _ M_Mo_add 5 [.ref 102, .long x1, ev_unk] [.int (b2i (numB x1 (sB S1)))] h R from
    Ev.br (i := .ifCond .ne (9)) (P := (b2i (numB x1 (sB S1))) = (0 : Int32)) (t := 8) (f := 14) (r := []) (by decide +kernel) rfl (fun c1 =>
      Ev.go (pc' := 10) (ls' := [.ref 102, .long x1, ev_unk]) (st' := [.int (1 : Int32), .ref 102]) [.aload_n 0, .iconst 1] (by decide +kernel) rfl <|
      Ev.cV0 (M' := M_Mo_refuse) (as := [.int (1 : Int32)]) (rest := []) l_Mo_226 M_Mo_refuse_ok M_Mo_refuse_in M_Mo_refuse_se (by decide +kernel) (r4 c1) rfl rfl rfl (Nat.le_of_ble_eq_true rfl) (Nat.le_of_ble_eq_true rfl) (s_Mo_refuse (pr3 c1) <| show Ev G (d + 3) _ _ M_Mo_add 13 [.ref 102, .long x1, ev_unk] [.int (-1 : Int32)] (hset h 102 (moC (stV v_2 (1 : Int32)) z_3)) R from
        Ev.ret (r := (some (.int (-1 : Int32)))) (Or.inl ⟨_, rfl, by decide +kernel, _, rfl, rfl⟩) (k1 c1)
      )
    ) (fun c1 =>
      Ev.go (pc' := 15) (ls' := [.ref 102, .long x1, ev_unk]) (st' := [.ref 102]) [.aload_n 0] (by decide +kernel) rfl <|
      Ev.cV0 (M' := M_Mo_many_0) (as := []) (rest := []) l_Mo_71 M_Mo_many_0_ok M_Mo_many_0_in M_Mo_many_0_se (by decide +kernel) (r6 c1) rfl rfl rfl (Nat.le_of_ble_eq_true rfl) (Nat.le_of_ble_eq_true rfl) (s_Mo_many_0 (pr5 c1) <| show Ev G (d + 3) _ _ M_Mo_add 18 [.ref 102, .long x1, ev_unk] [.int (nI (sN S4))] h R from
        Ev.go (pc' := 20) (ls' := [.ref 102, .long x1, ev_unk]) (st' := [.int (32 : Int32), .int (nI (sN S4))]) [.bipush (32)] (by decide +kernel) rfl <|
        Ev.br (i := .if_icmp .ne (9)) (P := (nI (sN S4)) = (32 : Int32)) (t := 23) (f := 29) (r := []) (by decide +kernel) rfl (fun c2 =>
          Ev.go (pc' := 25) (ls' := [.ref 102, .long x1, ev_unk]) (st' := [.int (3 : Int32), .ref 102]) [.aload_n 0, .iconst 3] (by decide +kernel) rfl <|
          Ev.cV0 (M' := M_Mo_refuse) (as := [.int (3 : Int32)]) (rest := []) l_Mo_226 M_Mo_refuse_ok M_Mo_refuse_in M_Mo_refuse_se (by decide +kernel) (r8 c1 c2) rfl rfl rfl (Nat.le_of_ble_eq_true rfl) (Nat.le_of_ble_eq_true rfl) (s_Mo_refuse (pr7 c1 c2) <| show Ev G (d + 3) _ _ M_Mo_add 28 [.ref 102, .long x1, ev_unk] [.int (-1 : Int32)] (hset h 102 (moC (stV v_5 (3 : Int32)) z_6)) R from
            Ev.ret (r := (some (.int (-1 : Int32)))) (Or.inl ⟨_, rfl, by decide +kernel, _, rfl, rfl⟩) (k2 c1 c2)
          )
        ) (fun c2 =>
          Ev.go (pc' := 31) (ls' := [.ref 102, .long x1, ev_unk]) (st' := [.long x1, .ref 102]) [.aload_n 0, .lload_n 1] (by decide +kernel) rfl <|
          Ev.cV0 (M' := M_Mo_found) (as := [.long x1]) (rest := []) l_Mo_217 M_Mo_found_ok M_Mo_found_in M_Mo_found_se (by decide +kernel) (r11 c1 c2) rfl rfl rfl (Nat.le_of_ble_eq_true rfl) (Nat.le_of_ble_eq_true rfl) (s_Mo_found (pr9 c1 c2) (pr10 c1 c2) <| show Ev G (d + 3) _ _ M_Mo_add 34 [.ref 102, .long x1, ev_unk] [.int (frI (whP S7 x1) (sN S7))] h R from
            Ev.go (pc' := 35) (ls' := [.ref 102, .long x1, ev_unk]) (st' := [.int (-1 : Int32), .int (frI (whP S7 x1) (sN S7))]) [.iconst (-1)] (by decide +kernel) rfl <|
            Ev.br (i := .if_icmp .eq (9)) (P := (frI (whP S7 x1) (sN S7)) = (-1 : Int32)) (t := 44) (f := 38) (r := []) (by decide +kernel) rfl (fun c3 =>
              Ev.go (pc' := 46) (ls' := [.ref 102, .long x1, ev_unk]) (st' := [.int (0 : Int32), .ref 102]) [.aload_n 0, .iconst 0] (by decide +kernel) rfl <|
              Ev.cV0 (M' := M_Mo_acted) (as := [.int (0 : Int32)]) (rest := []) l_Mo_242 M_Mo_acted_ok M_Mo_acted_in M_Mo_acted_se (by decide +kernel) (r12 c1 c2 c3) rfl rfl rfl (Nat.le_of_ble_eq_true rfl) (Nat.le_of_ble_eq_true rfl) (k3 c1 c2 c3)
            ) (fun c3 =>
              Ev.go (pc' := 40) (ls' := [.ref 102, .long x1, ev_unk]) (st' := [.int (4 : Int32), .ref 102]) [.aload_n 0, .iconst 4] (by decide +kernel) rfl <|
              Ev.cV0 (M' := M_Mo_refuse) (as := [.int (4 : Int32)]) (rest := []) l_Mo_226 M_Mo_refuse_ok M_Mo_refuse_in M_Mo_refuse_se (by decide +kernel) (r14 c1 c2 c3) rfl rfl rfl (Nat.le_of_ble_eq_true rfl) (Nat.le_of_ble_eq_true rfl) (s_Mo_refuse (pr13 c1 c2 c3) <| show Ev G (d + 3) _ _ M_Mo_add 43 [.ref 102, .long x1, ev_unk] [.int (-1 : Int32)] (hset h 102 (moC (stV v_8 (4 : Int32)) z_9)) R from
                Ev.ret (r := (some (.int (-1 : Int32)))) (Or.inl ⟨_, rfl, by decide +kernel, _, rfl, rfl⟩) (k4 c1 c2 c3)
              )
            )
          )
        )
      )
    )
  )
theorem b_Mo_add_49 {G : ev_G} {d k n : Nat} {h : ev_H} {R : Option Value → ev_H → Prop} {x1 : Int64} {S1 : AS}
  (pr1 : MS h S1)
  (r2 : ∃ fs, hat h 102 (oC 9 fs))
  (k1 : Ev G (d + 2) 0 0 M_Mo_puts 0 [.ref 102, .int ((10 : Int32) + (nI (sN S1))), .long x1, ev_unk] [] h (fun r h1 => Ev G (d + 3) k n M_Mo_add 61 [.ref 102, .long x1, ev_unk] (r.toList ++ []) h1 R))
  : Ev G (d + 3) k n M_Mo_add 49 [.ref 102, .long x1, ev_unk] [] h R :=
  Ev.go (pc' := 53) (ls' := [.ref 102, .long x1, ev_unk]) (st' := [.ref 102, .int (10 : Int32), .ref 102]) [.aload_n 0, .bipush (10), .aload_n 0] (by decide +kernel) rfl <|
  Ev.cV0 (M' := M_Mo_many_0) (as := []) (rest := [.int (10 : Int32), .ref 102]) l_Mo_71 M_Mo_many_0_ok M_Mo_many_0_in M_Mo_many_0_se (by decide +kernel) r2 rfl rfl rfl (Nat.le_of_ble_eq_true rfl) (Nat.le_of_ble_eq_true rfl) (s_Mo_many_0 pr1 <| show Ev G (d + 3) _ _ M_Mo_add 56 [.ref 102, .long x1, ev_unk] [.int (nI (sN S1)), .int (10 : Int32), .ref 102] h R from
    Ev.go (pc' := 58) (ls' := [.ref 102, .long x1, ev_unk]) (st' := [.long x1, .int ((10 : Int32) + (nI (sN S1))), .ref 102]) [.iadd, .lload_n 1] (by decide +kernel) rfl <|
    Ev.cV0 (M' := M_Mo_puts) (as := [.int ((10 : Int32) + (nI (sN S1))), .long x1]) (rest := []) l_Mo_60 M_Mo_puts_ok M_Mo_puts_in M_Mo_puts_se (by decide +kernel) r2 rfl rfl rfl (Nat.le_of_ble_eq_true rfl) (Nat.le_of_ble_eq_true rfl) k1
  )
theorem b_Mo_add_61 {G : ev_G} {d k n : Nat} {h : ev_H} {R : Option Value → ev_H → Prop} {x1 : Int64} {S1 : AS}
  (pr1 : MS h S1)
  (r2 : ∃ fs, hat h 102 (oC 9 fs))
  (k1 : Ev G (d + 2) 0 0 M_Mo_puts 0 [.ref 102, .int ((42 : Int32) + (nI (sN S1))), .long (0 : Int64), ev_unk] [] h (fun r h1 => Ev G (d + 3) k n M_Mo_add 73 [.ref 102, .long x1, ev_unk] (r.toList ++ []) h1 R))
  : Ev G (d + 3) k n M_Mo_add 61 [.ref 102, .long x1, ev_unk] [] h R :=
  Ev.go (pc' := 65) (ls' := [.ref 102, .long x1, ev_unk]) (st' := [.ref 102, .int (42 : Int32), .ref 102]) [.aload_n 0, .bipush (42), .aload_n 0] (by decide +kernel) rfl <|
  Ev.cV0 (M' := M_Mo_many_0) (as := []) (rest := [.int (42 : Int32), .ref 102]) l_Mo_71 M_Mo_many_0_ok M_Mo_many_0_in M_Mo_many_0_se (by decide +kernel) r2 rfl rfl rfl (Nat.le_of_ble_eq_true rfl) (Nat.le_of_ble_eq_true rfl) (s_Mo_many_0 pr1 <| show Ev G (d + 3) _ _ M_Mo_add 68 [.ref 102, .long x1, ev_unk] [.int (nI (sN S1)), .int (42 : Int32), .ref 102] h R from
    Ev.go (pc' := 70) (ls' := [.ref 102, .long x1, ev_unk]) (st' := [.long (0 : Int64), .int ((42 : Int32) + (nI (sN S1))), .ref 102]) [.iadd, .lconst 0] (by decide +kernel) rfl <|
    Ev.cV0 (M' := M_Mo_puts) (as := [.int ((42 : Int32) + (nI (sN S1))), .long (0 : Int64)]) (rest := []) l_Mo_60 M_Mo_puts_ok M_Mo_puts_in M_Mo_puts_se (by decide +kernel) r2 rfl rfl rfl (Nat.le_of_ble_eq_true rfl) (Nat.le_of_ble_eq_true rfl) k1
  )
theorem b_Mo_add_73 {G : ev_G} {d k n : Nat} {h : ev_H} {R : Option Value → ev_H → Prop} {x1 : Int64} {f_status_1 : Int32} {f_acts_2 : Int32} {f_marks_3 : Int32} {f_taped_4 : Int32} {f_size_5 : Int32} {f_token_6 : Int32} {f_begin_7 : Int32} {f_end_8 : Int32} {f_faults_9 : Int32} {f_faultPlace_10 : Int32} {f_faultKind_11 : Int32} {f_deep_12 : Int32} {f_value_13 : Int64} {f_broadMany_14 : Int32} {g15 : Nat → Int64} {S16 : AS} {v_17 : MG} {z_18 : MP}
  (a1 : hat h 102 (oC 9 [.ref 103, .int f_status_1, .int f_acts_2, .int f_marks_3, .ref 104, .ref 105, .ref 106, .int f_taped_4, .int f_size_5, .int f_token_6, .int f_begin_7, .int f_end_8, .int f_faults_9, .int f_faultPlace_10, .int f_faultKind_11, .int f_deep_12, .long f_value_13, .ref 107, .ref 108, .ref 109, .ref 116, .int f_broadMany_14, .ref 124, .ref 125]))
  (a2 : hat h 103 (aL 9758 g15))
  (pr3 : MS (hset h 103 (aL 9758 (vp_updL g15 2 ((g15 2) + (1 : Int64))))) S16)
  (pr4 : hat (hset h 103 (aL 9758 (vp_updL g15 2 ((g15 2) + (1 : Int64))))) 102 (moC v_17 z_18))
  (k1 : R (some (.int ((nI (sN S16)) - (1 : Int32)))) (hset (hset h 103 (aL 9758 (vp_updL g15 2 ((g15 2) + (1 : Int64))))) 102 (moC (stV v_17 0) z_18)))
  : Ev G (d + 3) k n M_Mo_add 73 [.ref 102, .long x1, ev_unk] [] h R :=
  Ev.go (pc' := 74) (ls' := [.ref 102, .long x1, ev_unk]) (st' := [.ref 102]) [.aload_n 0] (by decide +kernel) rfl <|
  Ev.getf f_Mo_7 (by decide +kernel) a1 rfl <|
  Ev.go (pc' := 79) (ls' := [.ref 102, .long x1, ev_unk]) (st' := [.int (2 : Int32), .ref 103, .int (2 : Int32), .ref 103]) [.iconst 2, .dup2] (by decide +kernel) rfl <|
  Ev.lald (j := 2) (by decide +kernel) a2 ⟨rfl, by decide, by decide⟩ <|
  Ev.go (pc' := 82) (ls' := [.ref 102, .long x1, ev_unk]) (st' := [.long ((g15 2) + (1 : Int64)), .int (2 : Int32), .ref 103]) [.lconst 1, .ladd] (by decide +kernel) rfl <|
  Ev.last (j := 2) (by decide +kernel) a2 ⟨rfl, by decide, by decide⟩ <| show Ev G (d + 3) _ _ M_Mo_add 83 [.ref 102, .long x1, ev_unk] [] (hset h 103 (aL 9758 (vp_updL g15 2 ((g15 2) + (1 : Int64))))) R from
  Ev.go (pc' := 85) (ls' := [.ref 102, .long x1, ev_unk]) (st' := [.ref 102, .ref 102]) [.aload_n 0, .aload_n 0] (by decide +kernel) rfl <|
  Ev.cV0 (M' := M_Mo_many_0) (as := []) (rest := [.ref 102]) l_Mo_71 M_Mo_many_0_ok M_Mo_many_0_in M_Mo_many_0_se (by decide +kernel) ⟨_, (hat_ne a1 (by decide))⟩ rfl rfl rfl (Nat.le_of_ble_eq_true rfl) (Nat.le_of_ble_eq_true rfl) (s_Mo_many_0 pr3 <| show Ev G (d + 3) _ _ M_Mo_add 88 [.ref 102, .long x1, ev_unk] [.int (nI (sN S16)), .ref 102] (hset h 103 (aL 9758 (vp_updL g15 2 ((g15 2) + (1 : Int64))))) R from
    Ev.go (pc' := 90) (ls' := [.ref 102, .long x1, ev_unk]) (st' := [.int ((nI (sN S16)) - (1 : Int32)), .ref 102]) [.iconst 1, .isub] (by decide +kernel) rfl <|
    Ev.cV0 (M' := M_Mo_gives_I) (as := [.int ((nI (sN S16)) - (1 : Int32))]) (rest := []) l_Mo_245 M_Mo_gives_I_ok M_Mo_gives_I_in M_Mo_gives_I_se (by decide +kernel) ⟨_, (hat_ne a1 (by decide))⟩ rfl rfl rfl (Nat.le_of_ble_eq_true rfl) (Nat.le_of_ble_eq_true rfl) (s_Mo_gives_I pr4 <| show Ev G (d + 3) _ _ M_Mo_add 93 [.ref 102, .long x1, ev_unk] [.int ((nI (sN S16)) - (1 : Int32))] (hset (hset h 103 (aL 9758 (vp_updL g15 2 ((g15 2) + (1 : Int64))))) 102 (moC (stV v_17 0) z_18)) R from
      Ev.ret (r := (some (.int ((nI (sN S16)) - (1 : Int32))))) (Or.inl ⟨_, rfl, by decide +kernel, _, rfl, rfl⟩) k1
    )
  )
section S50
variable {G : ev_G} {d : Nat} {h h1 : ev_H} {R : Option Value → ev_H → Prop} {Q : QS} {g g' : Nat → Int64} {S : AS}
theorem MR.finQ (H : MR h1 Q) (K : Kp h h1 102 126) {v l : Int32} {q : Int32 × QS} {bm : Int32} {z : MP} (m1 : hat h1 102 (moC (moQ Q bm) z)) (hR : ∀ h', Kp h h' 102 126 → MR h' q.2 → R (some (.int q.1)) h') (e : q = (v, stQ Q l)) : R (some (.int v)) (hset h1 102 (moC (stV (moQ Q bm) l) z)) := by
  subst e
  exact hR _ (K.set _ (by omega) (by omega)) (H.st m1 l)
/-- the store at hand was written to -/
theorem MR.edit {S' : AS} (H : MR h Q) (K : Kp h h1 103 104) (m2 : hat h1 103 (aL 9758 g')) (sl : SlR g' 0 S') (same : ∀ k, 574 ≤ k → g' k = g k) (slo : SlQ g Q) (gd : sGd S') : MR h1 (S', Q.2) := by
  obtain ⟨bm, z, m1⟩ := H.2.1
  refine H.set3 (K.wide (by omega) (by omega)) ⟨gd, H.1.2⟩ ⟨bm, z, K.hat m1 (by omega)⟩ ⟨g', m2, sl, fun i hi => ?_, fun i hi => ?_⟩ rfl
  · have := H.1.2.2.2.1
    have hi : i < qKn Q := hi
    exact (slo.2.1 i hi).mv (H.1.2.1 i hi) fun k _ => same _ (by omega)
  · have hi : i < qMn Q := hi
    exact (slo.2.2 i hi).mv (H.1.2.2.1 i hi) fun k _ => same _ (by omega)
theorem s_act (H : MR h Q) (hR : ∀ h', Kp h h' 102 104 → MR h' (keepQ Q) → R none h') : Ev G (d + 1) 0 0 M_Mo_acted 0 [.ref 102, .int (0 : Int32), ev_unk] [] h R := by
  obtain ⟨g, m2, sl⟩ := H.2.2.1
  exact s_Mo_acted (p := 0) H ⟨rfl, Or.inl rfl⟩ H.gd m2 sl sl.1 hR
theorem s_Mo_open2 (H : MR h Q) (hR : ∀ h', Kp h h' 102 126 → MR h' (a_open Q).2 → R (some (.int (a_open Q).1)) h') : Ev G (d + 2) 0 0 M_Mo_open 0 [.ref 102] [] h R := by
  obtain ⟨bm, z, m1⟩ := H.2.1
  obtain ⟨g, m2, sl⟩ := H.2.2.1
  obtain ⟨e3, e500⟩ := H.fl3 sl.1
  have em : g 3 = 0 ↔ (sFl (qS Q)).isEmpty = true := by
    rw [e3]
    cases q : sFl (qS Q) with
    | nil => exact ⟨fun _ => rfl, fun _ => rfl⟩
    | cons a r =>
      have := clTot_pos (fl := sFl (qS Q)) (by rw [q]; intro z; cases z)
      rw [← q]
      exact ⟨fun z => absurd ((lN_eq (b := 0) (by omega) (by omega)).mp z) (by omega), fun z => by rw [q] at z; cases z⟩
  refine b_Mo_open_0 (d := d + 1) (j_4 := 3) m1 m2 ⟨rfl, by omega, by omega⟩ ⟨_, m1⟩ (fun c1 => m1) (fun c1 => ⟨_, m1⟩) (fun c1 => ⟨_, m1⟩) (fun c1 => H.finQ (Kp.refl _ _ _) m1 hR (by unfold a_open; rw [if_pos (em.mp c1)])) (fun c1 => ?_)
  have e : a_open Q = (0, actQ Q (opS (qS Q))) := by unfold a_open; rw [if_neg (fun z => c1 (em.mpr z))]
  refine s_act H fun h1 K1 H1 => ?_
  obtain ⟨bm, z, m1⟩ := H1.2.1
  obtain ⟨g, m2, sl⟩ := H1.2.2.1
  refine b_Mo_open_21 (d := d + 1) ⟨_, m1⟩ ?_
  refine s_Mo_puts (j := 3) m1 m2 ⟨rfl, by omega, by omega⟩ ?_
  have K2 : Kp h1 (hset h1 103 (aL 9758 (vp_updL g 3 0))) 103 104 := (Kp.refl h1 103 104).set _ (by omega) (by omega)
  have s' : SlR (vp_updL g 3 0) 0 (opS (qS Q)) := by
    obtain ⟨a0, a1, a2, a3, a4, a5, a6⟩ := sl.1
    exact ⟨a0, a1, a2, rfl, fun i hi => (if_neg (by omega)).trans (a4 i hi), fun i hi => ⟨(if_neg (by omega)).trans (a5 i hi).1, (if_neg (by omega)).trans (a5 i hi).2⟩, fun i hi => absurd hi (Nat.not_lt_zero i)⟩
  have H2 := H1.edit K2 (hat_set m2) s' (fun k hk => if_neg (by omega)) sl H1.gd.op
  have m12 := K2.hat m1 (by omega)
  refine b_Mo_open_27 (d := d + 1) m12 ⟨_, m12⟩ ?_
  exact H2.finQ (K1.wide (by omega) (by omega) |>.trans (K2.wide (by omega) (by omega))) m12 hR e
theorem s_Mo_undo2 (H : MR h Q) (hR : ∀ h', Kp h h' 102 126 → MR h' (a_undo Q).2 → R (some (.int (a_undo Q).1)) h') : Ev G (d + 1) 0 0 M_Mo_undo 0 [.ref 102] [] h R := by
  obtain ⟨bm, z, m1⟩ := H.2.1
  obtain ⟨g, m2, sl⟩ := H.2.2.1
  have kn12 := H.1.2.2.2.1
  refine b_Mo_undo_0 m1 (fun c1 => m1) (fun c1 => H.finQ (Kp.refl _ _ _) m1 hR (by unfold a_undo; rw [if_pos ((nI_eq (b := 0) (by omega) (by omega)).mp c1)])) (fun c1 => ?_)
  have c : qKn Q ≠ 0 := fun z => c1 (by show nI (qKn Q) = _; rw [z]; rfl)
  have e : a_undo Q = (nI (qKn Q - 1), undoQ Q) := by unfold a_undo; rw [if_neg c]
  obtain ⟨kn, ek⟩ : ∃ kn, qKn Q = kn + 1 := ⟨qKn Q - 1, by omega⟩
  have ei : (moQ Q bm).2.1 - 1 = nI kn := by show nI (qKn Q) - 1 = _; rw [ek, nI_pred]
  rw [ei, act_ix (by omega)]
  have K1 : Kp h (hset h 102 (moC (qL Q, nI kn, nI (qMn Q), nI (qTn Q), qFp Q, qFk Q, bm) z)) 102 104 := (Kp.refl h 102 104).set _ (by omega) (by omega)
  refine s_Mo_copies (f := 1148 + 574 * kn) (t := 0) (v := (qL Q, nI kn, nI (qMn Q), nI (qTn Q), qFp Q, qFk Q, bm)) (z := z) (hat_set m1) (hat_ne m2 (by omega)) rfl rfl (by omega) (by omega) (by omega) fun h1 K2 m22 => ?_
  have m12 := K2.hat (hat_set (c' := moC (qL Q, nI kn, nI (qMn Q), nI (qTn Q), qFp Q, qFk Q, bm) z) m1) (by omega)
  have KK := K1.trans (K2.wide (by omega) (by omega))
  have H2 : MR h1 (qKa Q kn, (kn, qKa Q), Q.2.2) := H.set3 KK ⟨H.1.2.1 kn (by omega), fun i hi => H.1.2.1 i (by have hi : i < kn := hi; omega), H.1.2.2.1, by show kn ≤ 12; omega, H.1.2.2.2.2⟩ ⟨bm, z, m12⟩ ⟨_, m22, (sl.2.1 kn (by omega)).cp (H.1.2.1 kn (by omega)), fun i hi => (sl.2.1 i (by have hi : i < kn := hi; omega)).cpo (H.1.2.1 i (by have hi : i < kn := hi; omega)) (by omega), fun i hi => (sl.2.2 i hi).cpo (H.1.2.2.1 i hi) (by omega)⟩ rfl
  refine b_Mo_undo_40 m12 m12 ?_
  refine H2.finQ (KK.wide (by omega) (by omega)) m12 hR ?_
  rw [e]
  unfold undoQ
  rw [ek]
  rfl
theorem s_Mo_mark2 (H : MR h Q) (hR : ∀ h', Kp h h' 102 126 → MR h' (a_mark Q).2 → R (some (.int (a_mark Q).1)) h') : Ev G (d + 1) 0 0 M_Mo_mark 0 [.ref 102] [] h R := by
  obtain ⟨bm, z, m1⟩ := H.2.1
  obtain ⟨g, m2, sl⟩ := H.2.2.1
  have mn3 := H.1.2.2.2.2.1
  have kn12 := H.1.2.2.2.1
  refine b_Mo_mark_0 m1 (fun c1 => m1) (fun c1 => H.finQ (Kp.refl _ _ _) m1 hR (by unfold a_mark; rw [if_neg (by have := (nI_eq (b := 3) (by omega) (by omega)).mp c1; omega)])) (fun c1 => ?_)
  have c : qMn Q < 3 := by
    have : qMn Q ≠ 3 := fun z => c1 (by show nI (qMn Q) = _; rw [z]; rfl)
    omega
  have e : a_mark Q = (nI (qMn Q + 1), markQ Q) := by unfold a_mark; rw [if_pos c]
  have ei : (8036 : Int32) + (574 : Int32) * (moQ Q bm).2.2.1 = nI (8036 + 574 * qMn Q) := by
    show (8036 : Int32) + (574 : Int32) * nI (qMn Q) = _
    rw [show (574 : Int32) = nI 574 from rfl, nI_mul]; exact nI_add 8036 _
  rw [ei]
  refine s_Mo_copies (f := 0) (t := 8036 + 574 * qMn Q) m1 m2 rfl rfl (by omega) (by omega) (by omega) fun h1 K2 m22 => ?_
  have m12 := K2.hat m1 (by omega)
  refine b_Mo_mark_31 (v_15 := (qL Q, nI (qKn Q), nI (qMn Q) + 1, nI (qTn Q), qFp Q, qFk Q, bm)) (z_16 := z) m12 (hat_set m12) ?_
  show R (some (.int (nI (qMn Q) + 1))) (hset (hset h1 102 (moC (qL Q, nI (qKn Q), nI (qMn Q) + 1, nI (qTn Q), qFp Q, qFk Q, bm) z)) 102 (moC (stV (qL Q, nI (qKn Q), nI (qMn Q) + 1, nI (qTn Q), qFp Q, qFk Q, bm) 0) z))
  rw [nI_1]
  have KK : Kp h (hset h1 102 (moC (qL Q, nI (qKn Q), nI (qMn Q + 1), nI (qTn Q), qFp Q, qFk Q, bm) z)) 102 104 := (K2.wide (by omega) (by omega)).set _ (by omega) (by omega)
  have m13 := hat_set m12 (c' := moC (qL Q, nI (qKn Q), nI (qMn Q + 1), nI (qTn Q), qFp Q, qFk Q, bm) z)
  have H2 : MR (hset h1 102 (moC (qL Q, nI (qKn Q), nI (qMn Q + 1), nI (qTn Q), qFp Q, qFk Q, bm) z)) (qS Q, Q.2.1, (qMn Q + 1, fun i => if i = qMn Q then qS Q else qMa Q i), Q.2.2.2) := by
    refine H.set3 KK ⟨H.1.1, H.1.2.1, fun i hi => ?_, kn12, by show qMn Q + 1 ≤ 3; omega, H.1.2.2.2.2.2⟩ ⟨bm, z, m13⟩ ⟨_, hat_ne m22 (by omega), sl.1.cpo H.gd (by omega), fun i hi => (sl.2.1 i hi).cpo (H.1.2.1 i hi) (by have hi : i < qKn Q := hi; omega), fun i hi => ?_⟩ rfl
    · show sGd (if i = qMn Q then qS Q else qMa Q i)
      have hi : i < qMn Q + 1 := hi
      split
      · exact H.gd
      · exact H.1.2.2.1 i (by omega)
    · have hi : i < qMn Q + 1 := hi
      show SlR _ _ (if i = qMn Q then qS Q else qMa Q i)
      by_cases c : i = qMn Q
      · rw [if_pos c, c]
        exact sl.1.cp H.gd
      · rw [if_neg c]
        exact (sl.2.2 i (by omega)).cpo (H.1.2.2.1 i (by omega)) (by omega)
  exact H2.finQ (KK.wide (by omega) (by omega)) m13 hR (by rw [e]; rfl)
theorem s_Mo_back2 (H : MR h Q) (hR : ∀ h', Kp h h' 102 126 → MR h' (a_back Q).2 → R (some (.int (a_back Q).1)) h') : Ev G (d + 1) 0 0 M_Mo_back 0 [.ref 102] [] h R := by
  obtain ⟨bm, z, m1⟩ := H.2.1
  obtain ⟨g, m2, sl⟩ := H.2.2.1
  have mn3 := H.1.2.2.2.2.1
  refine b_Mo_back_0 m1 (fun c1 => m1) (fun c1 => H.finQ (Kp.refl _ _ _) m1 hR (by unfold a_back; rw [if_pos ((nI_eq (b := 0) (by omega) (by omega)).mp c1)])) (fun c1 => ?_)
  have c : qMn Q ≠ 0 := fun z => c1 (by show nI (qMn Q) = _; rw [z]; rfl)
  have e : a_back Q = (nI (qMn Q - 1), backQ Q) := by unfold a_back; rw [if_neg c]
  obtain ⟨mn, ek⟩ : ∃ mn, qMn Q = mn + 1 := ⟨qMn Q - 1, by omega⟩
  have ei : (moQ Q bm).2.2.1 - 1 = nI mn := by show nI (qMn Q) - 1 = _; rw [ek, nI_pred]
  have ea : (8036 : Int32) + (574 : Int32) * nI mn = nI (8036 + 574 * mn) := by rw [show (574 : Int32) = nI 574 from rfl, nI_mul]; exact nI_add 8036 _
  rw [ei, ea]
  have K1 : Kp h (hset h 102 (moC (qL Q, nI (qKn Q), nI mn, nI (qTn Q), qFp Q, qFk Q, bm) z)) 102 104 := (Kp.refl h 102 104).set _ (by omega) (by omega)
  refine s_Mo_copies (f := 8036 + 574 * mn) (t := 0) (v := (qL Q, nI (qKn Q), nI mn, nI (qTn Q), qFp Q, qFk Q, bm)) (z := z) (hat_set m1) (hat_ne m2 (by omega)) rfl rfl (by omega) (by omega) (by omega) fun h1 K2 m22 => ?_
  have m12 := K2.hat (hat_set (c' := moC (qL Q, nI (qKn Q), nI mn, nI (qTn Q), qFp Q, qFk Q, bm) z) m1) (by omega)
  refine b_Mo_back_40 (v_15 := (qL Q, nI 0, nI mn, nI (qTn Q), qFp Q, qFk Q, bm)) (z_16 := z) m12 (hat_set m12) ?_
  have m13 := hat_set m12 (c' := moC (qL Q, nI 0, nI mn, nI (qTn Q), qFp Q, qFk Q, bm) z)
  have KK : Kp h (hset h1 102 (moC (qL Q, nI 0, nI mn, nI (qTn Q), qFp Q, qFk Q, bm) z)) 102 104 := (K1.trans (K2.wide (by omega) (by omega))).set _ (by omega) (by omega)
  have H2 : MR (hset h1 102 (moC (qL Q, nI 0, nI mn, nI (qTn Q), qFp Q, qFk Q, bm) z)) (qMa Q mn, (0, qKa Q), (mn, qMa Q), Q.2.2.2) := H.set3 KK ⟨H.1.2.2.1 mn (by omega), fun i hi => absurd hi (Nat.not_lt_zero i), fun i hi => H.1.2.2.1 i (by have hi : i < mn := hi; omega), Nat.zero_le _, by show mn ≤ 3; omega, H.1.2.2.2.2.2⟩ ⟨bm, z, m13⟩ ⟨_, hat_ne m22 (by omega), (sl.2.2 mn (by omega)).cp (H.1.2.2.1 mn (by omega)), fun i hi => absurd hi (Nat.not_lt_zero i), fun i hi => (sl.2.2 i (by have hi : i < mn := hi; omega)).cpo (H.1.2.2.1 i (by have hi : i < mn := hi; omega)) (by omega)⟩ rfl
  refine H2.finQ (KK.wide (by omega) (by omega)) m13 hR ?_
  rw [e]
  unfold backQ
  rw [ek]
  rfl
theorem sl_tag {c t' : Nat} (gd : sGd S) (H : SlR g 0 S) (hc : c < sN S) : SlR (vp_updL g (42 + c) (lN t')) 0 (tgS S c t') := by
  have p6 := gd.1.2.2.2.1
  have n32 := gd.1.2.2.2.2.1
  obtain ⟨a0, a1, a2, a3, a4, a5, a6⟩ := H
  refine ⟨(if_neg (by omega)).trans a0, (if_neg (by omega)).trans a1, (if_neg (by omega)).trans a2, (if_neg (by omega)).trans a3, fun i hi => ?_, fun i hi => ?_, fun i hi => (if_neg (by omega)).trans (a6 i hi)⟩
  · have hi : i < sP S := hi
    exact (if_neg (by omega)).trans (a4 i hi)
  · have hi : i < sN S := hi
    refine ⟨(if_neg (by omega)).trans (a5 i hi).1, ?_⟩
    show (if 0 + 42 + i = 42 + c then lN t' else g (0 + 42 + i)) = lN (if i = c then t' else sTg S i)
    by_cases q : i = c
    · rw [if_pos (by omega), if_pos q]
    · rw [if_neg (by omega), if_neg q]; exact (a5 i hi).2
theorem sl_code {c : Nat} {y : Int64} (gd : sGd S) (H : SlR g 0 S) (hc : c < sN S) : SlR (vp_updL g (10 + c) y) 0 (flS S c y) := by
  have p6 := gd.1.2.2.2.1
  have n32 := gd.1.2.2.2.2.1
  obtain ⟨a0, a1, a2, a3, a4, a5, a6⟩ := H
  refine ⟨(if_neg (by omega)).trans a0, (if_neg (by omega)).trans a1, (if_neg (by omega)).trans a2, (if_neg (by omega)).trans a3, fun i hi => ?_, fun i hi => ?_, fun i hi => (if_neg (by omega)).trans (a6 i hi)⟩
  · have hi : i < sP S := hi
    exact (if_neg (by omega)).trans (a4 i hi)
  · have hi : i < sN S := hi
    refine ⟨?_, (if_neg (by omega)).trans (a5 i hi).2⟩
    show (if 0 + 10 + i = 10 + c then y else g (0 + 10 + i)) = (if i = c then y else sCo S i)
    by_cases q : i = c
    · rw [if_pos (by omega), if_pos q]
    · rw [if_neg (by omega), if_neg q]; exact (a5 i hi).1
theorem sl_add {y : Int64} (gd : sGd S) (H : SlR g 0 S) (hn : sN S < 32) : SlR (vp_updL (vp_updL (vp_updL g (10 + sN S) y) (42 + sN S) 0) 2 (lN (sN S + 1))) 0 (apS S y 0) := by
  have p6 := gd.1.2.2.2.1
  obtain ⟨a0, a1, a2, a3, a4, a5, a6⟩ := H
  have e : apS S y 0 = mkS (sB S) (sP S) (sN S + 1) (sBr S) (fun i => if i = sN S then y else sCo S i) (fun i => if i = sN S then 0 else sTg S i) (sFl S) := if_pos hn
  rw [e]
  have u : ∀ k, k ≠ 2 → k ≠ 42 + sN S → k ≠ 10 + sN S → vp_updL (vp_updL (vp_updL g (10 + sN S) y) (42 + sN S) 0) 2 (lN (sN S + 1)) k = g k := fun k h1 h2 h3 => (if_neg h1).trans ((if_neg h2).trans (if_neg h3))
  refine ⟨(u _ (by omega) (by omega) (by omega)).trans a0, (u _ (by omega) (by omega) (by omega)).trans a1, rfl, (u _ (by omega) (by omega) (by omega)).trans a3, fun i hi => ?_, fun i hi => ?_, fun i hi => (u _ (by omega) (by omega) (by omega)).trans (a6 i hi)⟩
  · have hi : i < sP S := hi
    exact (u _ (by omega) (by omega) (by omega)).trans (a4 i hi)
  · have hi : i < sN S + 1 := hi
    by_cases q : i = sN S
    · subst q
      refine ⟨?_, ?_⟩
      · show _ = (if sN S = sN S then y else _)
        rw [if_pos rfl]
        exact (if_neg (by omega)).trans ((if_neg (by omega)).trans (if_pos (by omega)))
      · show _ = lN (if sN S = sN S then 0 else _)
        rw [if_pos rfl]
        exact (if_neg (by omega)).trans (if_pos (by omega))
    · refine ⟨?_, ?_⟩
      · show _ = (if i = sN S then y else _)
        rw [if_neg q]
        exact (u _ (by omega) (by omega) (by omega)).trans (a5 i (by omega)).1
      · show _ = lN (if i = sN S then 0 else _)
        rw [if_neg q]
        exact (u _ (by omega) (by omega) (by omega)).trans (a5 i (by omega)).2
theorem s_Mo_tag2 {x t : Int32} (H : MR h Q) (hR : ∀ h', Kp h h' 102 126 → MR h' (a_tag Q x t).2 → R (some (.int (a_tag Q x t).1)) h') : Ev G (d + 3) 0 0 M_Mo_tag 0 [.ref 102, .int x, .int t, ev_unk] [] h R := by
  obtain ⟨bm, z, m1⟩ := H.2.1
  obtain ⟨g, m2, sl⟩ := H.2.2.1
  have hz := H.szN
  have f : frB t.toInt64 0 9 = inR t 10 := fr_in (b := 9) (by omega)
  have gt : ∀ {c : Nat}, c < sN (qS Q) → (g (42 + c)).toInt32 = nI (sTg (qS Q) c) := fun {c} hc => by have := (sl.1.2.2.2.2.2.1 c hc).2; rw [Nat.zero_add] at this; rw [this, lN_i]
  refine b_Mo_tag_0 (g_8 := g) (j_9 := 42 + vN x) (fun c1 => m1) (fun c1 => ⟨_, m1⟩) (fun c1 => H.ms) (fun c1 => H.ok) (fun c1 => ⟨_, m1⟩) (fun c1 c2 => m1) (fun c1 c2 => ⟨_, m1⟩) (fun c1 c2 => m1) (fun c1 c2 => m2) (fun c1 c2 => (by have q := vN_lt (by omega) (b2i_n0 c2); rw [q.1, vN_nI (by omega)]; exact ⟨nI_add 42 _, by omega, by omega⟩)) (fun c1 c2 => ⟨_, m1⟩) (fun c1 c2 c3 => m1) (fun c1 c2 c3 => ⟨_, m1⟩) (fun c1 c2 c3 => ⟨_, m1⟩) (fun c1 => H.finQ (Kp.refl _ _ _) m1 hR (by rw [f] at c1; unfold a_tag; rw [b2i_e0 c1]; rfl)) (fun c1 c2 => H.finQ (Kp.refl _ _ _) m1 hR (by rw [f] at c1; unfold a_tag; rw [b2i_n0 c1, b2i_e0 c2]; rfl)) (fun c1 c2 c3 => ?_) (fun c1 c2 c3 => ?_)
  · rw [f] at c1
    have hx := vN_lt (by omega) (b2i_n0 c2)
    have ht := vN_lt (by omega) (b2i_n0 c1)
    have t9 := H.ok.2.2.2.2.2.2.1 _ hx.2
    rw [gt hx.2, ht.1] at c3
    have c3 := (nI_eq (by omega) (by omega)).mp c3
    exact H.finQ (Kp.refl _ _ _) m1 hR (by unfold a_tag; rw [b2i_n0 c1, b2i_n0 c2, if_pos c3]; rfl)
  · rw [f] at c1
    have hx := vN_lt (by omega) (b2i_n0 c2)
    have ht := vN_lt (by omega) (b2i_n0 c1)
    rw [gt hx.2] at c3 ⊢
    have c3 : ¬ sTg (qS Q) (vN x) = vN t := fun z => c3 (by rw [z, ← ht.1])
    have e : a_tag Q x t = (nI (sTg (qS Q) (vN x)), actQ Q (tgS (qS Q) (vN x) (vN t))) := by unfold a_tag; rw [b2i_n0 c1, b2i_n0 c2, if_neg c3]; rfl
    refine s_act H fun h1 K1 H1 => ?_
    obtain ⟨bm, z, m1⟩ := H1.2.1
    obtain ⟨g, m2, sl⟩ := H1.2.2.1
    refine b_Mo_tag_58 ⟨_, m1⟩ ?_
    have tl : t.toInt64 = lN (vN t) := by rw [ht.1, nI_l (by omega), vN_nI (by omega)]
    rw [tl]
    refine s_Mo_puts (j := 42 + vN x) m1 m2 (by rw [hx.1, vN_nI (by omega)]; exact ⟨nI_add 42 _, by omega, by omega⟩) ?_
    have K2 : Kp h1 (hset h1 103 (aL 9758 (vp_updL g (42 + vN x) (lN (vN t))))) 103 104 := (Kp.refl h1 103 104).set _ (by omega) (by omega)
    have H2 := H1.edit K2 (hat_set m2) (sl_tag H1.gd sl.1 hx.2) (fun k hk => if_neg (by omega)) sl (H1.gd.tg (c := vN x) (t := vN t) (by omega))
    have m12 := K2.hat m1 (by omega)
    refine b_Mo_tag_68 m12 ⟨_, m12⟩ ?_
    exact H2.finQ (K1.wide (by omega) (by omega) |>.trans (K2.wide (by omega) (by omega))) m12 hR e
theorem s_Mo_flip2 {x b : Int32} (H : MR h Q) (hR : ∀ h', Kp h h' 102 126 → MR h' (a_flip Q x b).2 → R (some (.int (a_flip Q x b).1)) h') : Ev G (d + 3) 0 0 M_Mo_flip 0 [.ref 102, .int x, .int b, ev_unk, ev_unk] [] h R := by
  obtain ⟨bm, z, m1⟩ := H.2.1
  have hz := H.szN
  have hzB := H.szB
  have eb : ∀ (i : inR b (sB (qS Q)) = true), b = nI (vN b) ∧ vN b < sB (qS Q) := fun i => vN_lt (by omega) i
  have et : ∀ (i : inR b (sB (qS Q)) = true), sCo (qS Q) (vN x) ^^^ ((1 : Int64) <<< (b.toInt64 &&& 63)) = a_turn (qS Q) x b := fun i => by unfold a_turn; rw [← (eb i).1]
  refine b_Mo_flip_0 (c_8 := vN x) H.ms H.ok ⟨_, m1⟩ (fun c1 => m1) (fun c1 => ⟨_, m1⟩) (fun c1 => H.ms) (fun c1 => H.ok) (fun c1 => ⟨_, m1⟩) (fun c1 c2 => m1) (fun c1 c2 => ⟨_, m1⟩) (fun c1 c2 => H.ms) (fun c1 c2 => H.ok) (fun c1 c2 => vN_lt (by omega) (b2i_n0 c2)) (fun c1 c2 => ⟨_, m1⟩) (fun c1 c2 => H.ms) (fun c1 c2 => H.ok) (fun c1 c2 c3 => ⟨_, m1⟩) (fun c1 c2 c3 => m1) (fun c1 c2 c3 => ⟨_, m1⟩) (fun c1 => H.finQ (Kp.refl _ _ _) m1 hR (by unfold a_flip; rw [b2i_e0 c1]; rfl)) (fun c1 c2 => H.finQ (Kp.refl _ _ _) m1 hR (by unfold a_flip; rw [b2i_n0 c1, b2i_e0 c2]; rfl)) (fun c1 c2 c3 => ?_) (fun c1 c2 c3 => H.finQ (Kp.refl _ _ _) m1 hR (by rw [et (b2i_n0 c1)] at c3; unfold a_flip; rw [b2i_n0 c1, b2i_n0 c2, if_neg c3]; rfl))
  rw [et (b2i_n0 c1)] at c3 ⊢
  have hx := vN_lt (by omega) (b2i_n0 c2)
  have hb := eb (b2i_n0 c1)
  have e : a_flip Q x b = (b2i (lt (a_turn (qS Q) x b) (vN b)), actQ Q (flS (qS Q) (vN x) (a_turn (qS Q) x b))) := by unfold a_flip; rw [b2i_n0 c1, b2i_n0 c2, if_pos c3]; rfl
  refine s_act H fun h1 K1 H1 => ?_
  obtain ⟨bm, z, m1⟩ := H1.2.1
  obtain ⟨g, m2, sl⟩ := H1.2.2.1
  refine b_Mo_flip_58 ⟨_, m1⟩ ?_
  refine s_Mo_puts (j := 10 + vN x) m1 m2 (by rw [hx.1, vN_nI (by omega)]; exact ⟨nI_add 10 _, by omega, by omega⟩) ?_
  have K2 : Kp h1 (hset h1 103 (aL 9758 (vp_updL g (10 + vN x) (a_turn (qS Q) x b)))) 103 104 := (Kp.refl h1 103 104).set _ (by omega) (by omega)
  have H2 := H1.edit K2 (hat_set m2) (sl_code H1.gd sl.1 hx.2) (fun k hk => if_neg (by omega)) sl (H1.gd.fp (c := vN x) (y := a_turn (qS Q) x b) (numB_xor (by have hB := H.szB; show sB (qS Q) ≤ _; omega) (H.gd.2.2.2 _ hx.2) (numB_one (by have hB := H.szB; show sB (qS Q) ≤ _; omega) hb.2)) c3)
  have m12 := K2.hat m1 (by omega)
  refine b_Mo_flip_67 m12 ⟨_, m12⟩ ?_
  refine H2.finQ (K1.wide (by omega) (by omega) |>.trans (K2.wide (by omega) (by omega))) m12 hR ?_
  rw [e, has_eqL, b2l_i, hb.1, tbL_n (by omega), vN_nI (by omega)]
  rfl
theorem sl_x1 {y : Int64} (gd : sGd S) (H : SlR g 0 S) (hn : sN S < 32) : SlR (vp_updL g (10 + sN S) y) 0 S := by
  have p6 := gd.1.2.2.2.1
  obtain ⟨a0, a1, a2, a3, a4, a5, a6⟩ := H
  exact ⟨(if_neg (by omega)).trans a0, (if_neg (by omega)).trans a1, (if_neg (by omega)).trans a2, (if_neg (by omega)).trans a3, fun i hi => (if_neg (by omega)).trans (a4 i hi), fun i hi => ⟨(if_neg (by omega)).trans (a5 i hi).1, (if_neg (by omega)).trans (a5 i hi).2⟩, fun i hi => (if_neg (by omega)).trans (a6 i hi)⟩
theorem s_Mo_add2 {y : Int64} (H : MR h Q) (hR : ∀ h', Kp h h' 102 126 → MR h' (a_add Q y).2 → R (some (.int (a_add Q y).1)) h') : Ev G (d + 3) 0 0 M_Mo_add 0 [.ref 102, .long y, ev_unk] [] h R := by
  obtain ⟨bm, z, m1⟩ := H.2.1
  have hz := H.szN
  have n32 : ¬ nI (sN (qS Q)) = 32 → sN (qS Q) < 32 := fun c => by
    have : sN (qS Q) ≠ 32 := fun z => c (by rw [z]; rfl)
    omega
  refine b_Mo_add_0 H.ms ⟨_, m1⟩ (fun c1 => m1) (fun c1 => ⟨_, m1⟩) (fun c1 => H.ms) (fun c1 => ⟨_, m1⟩) (fun c1 c2 => m1) (fun c1 c2 => ⟨_, m1⟩) (fun c1 c2 => H.ms) (fun c1 c2 => H.ok) (fun c1 c2 => ⟨_, m1⟩) (fun c1 c2 c3 => ⟨_, m1⟩) (fun c1 c2 c3 => m1) (fun c1 c2 c3 => ⟨_, m1⟩) (fun c1 => H.finQ (Kp.refl _ _ _) m1 hR (by unfold a_add; rw [b2i_e0 c1]; rfl)) (fun c1 c2 => H.finQ (Kp.refl _ _ _) m1 hR (by unfold a_add; rw [b2i_n0 c1, if_neg (show ¬ sN (qS Q) < 32 by have := (nI_eq (b := 32) (by omega) (by omega)).mp c2; omega)]; rfl)) (fun c1 c2 c3 => ?_) (fun c1 c2 c3 => H.finQ (Kp.refl _ _ _) m1 hR (by unfold a_add; rw [b2i_n0 c1, if_pos (n32 c2), if_neg c3]; rfl))
  have n32 := n32 c2
  have e : a_add Q y = (nI (sN (qS Q)), actQ Q (apS (qS Q) y 0)) := by unfold a_add; rw [b2i_n0 c1, if_pos n32, if_pos c3]; rfl
  have gd := H.gd.ap n32 (b2i_n0 c1) c3
  refine s_act H fun h1 K1 H1 => ?_
  have ms := H1.ms
  obtain ⟨bm, z, m1⟩ := H1.2.1
  obtain ⟨g, m2, sl⟩ := H1.2.2.1
  refine b_Mo_add_49 ms ⟨_, m1⟩ ?_
  refine s_Mo_puts (j := 10 + sN (qS Q)) m1 m2 ⟨nI_add 10 _, by omega, by omega⟩ ?_
  have K2 : Kp h1 (hset h1 103 (aL 9758 (vp_updL g (10 + sN (qS Q)) y))) 103 104 := (Kp.refl h1 103 104).set _ (by omega) (by omega)
  have m12 := K2.hat m1 (by omega)
  have m22 := hat_set m2 (c' := aL 9758 (vp_updL g (10 + sN (qS Q)) y))
  refine b_Mo_add_61 (S1 := qS Q) ⟨_, _, _, m12, m22, sl_x1 H1.gd sl.1 n32⟩ ⟨_, m12⟩ ?_
  refine s_Mo_puts (j := 42 + sN (qS Q)) m12 m22 ⟨nI_add 42 _, by omega, by omega⟩ ?_
  have K3 := K2.set (k := 103) (aL 9758 (vp_updL (vp_updL g (10 + sN (qS Q)) y) (42 + sN (qS Q)) 0)) (by omega) (by omega)
  have m13 := K3.hat m1 (by omega)
  have m23 := hat_set m22 (c' := aL 9758 (vp_updL (vp_updL g (10 + sN (qS Q)) y) (42 + sN (qS Q)) 0))
  have e2 : vp_updL (vp_updL g (10 + sN (qS Q)) y) (42 + sN (qS Q)) 0 2 + (1 : Int64) = lN (sN (qS Q) + 1) := by
    have a : vp_updL (vp_updL g (10 + sN (qS Q)) y) (42 + sN (qS Q)) 0 2 = lN (sN (qS Q)) := (if_neg (by omega)).trans ((if_neg (by omega)).trans sl.1.2.2.1)
    rw [a, lN_1]
  have K4 := K3.set (k := 103) (aL 9758 (vp_updL (vp_updL (vp_updL g (10 + sN (qS Q)) y) (42 + sN (qS Q)) 0) 2 (lN (sN (qS Q) + 1)))) (by omega) (by omega)
  have m24 := hat_set m23 (c' := aL 9758 (vp_updL (vp_updL (vp_updL g (10 + sN (qS Q)) y) (42 + sN (qS Q)) 0) 2 (lN (sN (qS Q) + 1))))
  have H2 := H1.edit K4 m24 (sl_add H1.gd sl.1 n32) (fun k hk => (if_neg (by omega)).trans ((if_neg (by omega)).trans (if_neg (by omega)))) sl gd
  have m14 := K4.hat m1 (by omega)
  have ep : nI (sN (apS (qS Q) y 0)) - (1 : Int32) = nI (sN (qS Q)) := by
    have : sN (apS (qS Q) y 0) = sN (qS Q) + 1 := by unfold apS; rw [if_pos n32]; rfl
    rw [this, nI_pred]
  have fin := H2.finQ (K1.wide (by omega) (by omega) |>.trans (K4.wide (by omega) (by omega))) m14 hR e
  refine b_Mo_add_73 (S16 := apS (qS Q) y 0) (v_17 := moQ (keepQ Q) bm) (z_18 := z) m13 m23 ?_ ?_ ?_
  · rw [e2]; exact H2.ms
  · rw [e2]; exact m14
  · rw [e2, ep]; exact fin
end S50
