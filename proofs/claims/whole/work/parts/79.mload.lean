/-! the model's load -/
theorem b_Mo_load_0 {G : ev_G} {d k n : Nat} {h : ev_H} {R : Option Value → ev_H → Prop} {x1 : Int32} {f_status_1 : Int32} {f_acts_2 : Int32} {f_marks_3 : Int32} {f_taped_4 : Int32} {f_size_5 : Int32} {f_token_6 : Int32} {f_begin_7 : Int32} {f_end_8 : Int32} {f_faults_9 : Int32} {f_faultPlace_10 : Int32} {f_faultKind_11 : Int32} {f_deep_12 : Int32} {f_value_13 : Int64} {f_broadMany_14 : Int32} {v_15 : MG} {z_16 : MP}
  (a1 : hat h 102 (oC 9 [.ref 103, .int f_status_1, .int f_acts_2, .int f_marks_3, .ref 104, .ref 105, .ref 106, .int f_taped_4, .int f_size_5, .int f_token_6, .int f_begin_7, .int f_end_8, .int f_faults_9, .int f_faultPlace_10, .int f_faultKind_11, .int f_deep_12, .long f_value_13, .ref 107, .ref 108, .ref 109, .ref 116, .int f_broadMany_14, .ref 124, .ref 125]))
  (pr2 : (b2i (frB x1.toInt64 (0 : Int64) f_taped_4.toInt64)) = (0 : Int32) → hat h 102 (moC v_15 z_16))
  (k1 : (b2i (frB x1.toInt64 (0 : Int64) f_taped_4.toInt64)) = (0 : Int32) → R (some (.int (-1 : Int32))) (hset h 102 (moC (stV v_15 (1 : Int32)) z_16)))
  (k2 : ¬ (b2i (frB x1.toInt64 (0 : Int64) f_taped_4.toInt64)) = (0 : Int32) → Ev G (d + 5) k n M_Mo_load 27 [.ref 102, .int x1, .int (0 : Int32)] [] (hset h 102 (oC 9 [.ref 103, .int f_status_1, .int f_acts_2, .int f_marks_3, .ref 104, .ref 105, .ref 106, .int f_taped_4, .int x1, .int f_token_6, .int f_begin_7, .int f_end_8, .int f_faults_9, .int f_faultPlace_10, .int f_faultKind_11, .int f_deep_12, .long f_value_13, .ref 107, .ref 108, .ref 109, .ref 116, .int f_broadMany_14, .ref 124, .ref 125])) R)
  : Ev G (d + 5) k n M_Mo_load 0 [.ref 102, .int x1, ev_unk] [] h R :=
  Ev.go (pc' := 4) (ls' := [.ref 102, .int x1, ev_unk]) (st' := [.ref 102, .long (0 : Int64), .long x1.toInt64]) [.iload_n 1, .i2l, .lconst 0, .aload_n 0] (by decide +kernel) rfl <|
  Ev.getf f_Mo_110 (by decide +kernel) a1 rfl <|
  Ev.go (pc' := 8) (ls' := [.ref 102, .int x1, ev_unk]) (st' := [.long f_taped_4.toInt64, .long (0 : Int64), .long x1.toInt64]) [.i2l] (by decide +kernel) rfl <|
  Ev.cS0 (M' := M_Mo_isFrom) (as := [.long x1.toInt64, .long (0 : Int64), .long f_taped_4.toInt64]) (rest := []) l_Mo_172 M_Mo_isFrom_ok M_Mo_isFrom_st (by decide +kernel) rfl rfl (Nat.le_of_ble_eq_true rfl) (Nat.le_of_ble_eq_true rfl) (s_Mo_isFrom <| show Ev G (d + 5) _ _ M_Mo_load 11 [.ref 102, .int x1, ev_unk] [.int (b2i (frB x1.toInt64 (0 : Int64) f_taped_4.toInt64))] h R from
    Ev.br (i := .ifCond .ne (9)) (P := (b2i (frB x1.toInt64 (0 : Int64) f_taped_4.toInt64)) = (0 : Int32)) (t := 14) (f := 20) (r := []) (by decide +kernel) rfl (fun c1 =>
      Ev.go (pc' := 16) (ls' := [.ref 102, .int x1, ev_unk]) (st' := [.int (1 : Int32), .ref 102]) [.aload_n 0, .iconst 1] (by decide +kernel) rfl <|
      Ev.cV0 (M' := M_Mo_refuse) (as := [.int (1 : Int32)]) (rest := []) l_Mo_226 M_Mo_refuse_ok M_Mo_refuse_in M_Mo_refuse_se (by decide +kernel) ⟨_, a1⟩ rfl rfl rfl (Nat.le_of_ble_eq_true rfl) (Nat.le_of_ble_eq_true rfl) (s_Mo_refuse (pr2 c1) <| show Ev G (d + 5) _ _ M_Mo_load 19 [.ref 102, .int x1, ev_unk] [.int (-1 : Int32)] (hset h 102 (moC (stV v_15 (1 : Int32)) z_16)) R from
        Ev.ret (r := (some (.int (-1 : Int32)))) (Or.inl ⟨_, rfl, by decide +kernel, _, rfl, rfl⟩) (k1 c1)
      )
    ) (fun c1 =>
      Ev.go (pc' := 22) (ls' := [.ref 102, .int x1, ev_unk]) (st' := [.int x1, .ref 102]) [.aload_n 0, .iload_n 1] (by decide +kernel) rfl <|
      Ev.putf f_Mo_116 (by decide +kernel) a1 (Nat.le_of_ble_eq_true rfl) rfl (fun q => nomatch q) <| show Ev G (d + 5) _ _ M_Mo_load 25 [.ref 102, .int x1, ev_unk] [] (hset h 102 (oC 9 [.ref 103, .int f_status_1, .int f_acts_2, .int f_marks_3, .ref 104, .ref 105, .ref 106, .int f_taped_4, .int x1, .int f_token_6, .int f_begin_7, .int f_end_8, .int f_faults_9, .int f_faultPlace_10, .int f_faultKind_11, .int f_deep_12, .long f_value_13, .ref 107, .ref 108, .ref 109, .ref 116, .int f_broadMany_14, .ref 124, .ref 125])) R from
      Ev.go (pc' := 27) (ls' := [.ref 102, .int x1, .int (0 : Int32)]) (st' := []) [.iconst 0, .istore_n 2] (by decide +kernel) rfl <|
      (k2 c1)
    )
  )
theorem b_Mo_load_27 {G : ev_G} {d k n : Nat} {h : ev_H} {R : Option Value → ev_H → Prop} {x1 : Int32} {x2 : Int32} {f_status_1 : Int32} {f_acts_2 : Int32} {f_marks_3 : Int32} {f_taped_4 : Int32} {f_size_5 : Int32} {f_token_6 : Int32} {f_begin_7 : Int32} {f_end_8 : Int32} {f_faults_9 : Int32} {f_faultPlace_10 : Int32} {f_faultKind_11 : Int32} {f_deep_12 : Int32} {f_value_13 : Int64} {f_broadMany_14 : Int32} {g15 : Nat → Int32} {j16 : Nat} {g17 : Nat → Int32}
  (a1 : hat h 102 (oC 9 [.ref 103, .int f_status_1, .int f_acts_2, .int f_marks_3, .ref 104, .ref 105, .ref 106, .int f_taped_4, .int f_size_5, .int f_token_6, .int f_begin_7, .int f_end_8, .int f_faults_9, .int f_faultPlace_10, .int f_faultKind_11, .int f_deep_12, .long f_value_13, .ref 107, .ref 108, .ref 109, .ref 116, .int f_broadMany_14, .ref 124, .ref 125]))
  (a2 : hat h 105 (aB 900 g15))
  (a4 : hat h 106 (aB 900 g17))
  (i3 : x2 < x1 → ev_ix x2 j16 900)
  (k1 : x2 < x1 → Ev G (d + 5) k n M_Mo_load 27 [.ref 102, .int x1, .int (x2 + (1 : Int32))] [] (hset h 106 (aB 900 (upd g17 j16 (vp_nar .byte (g15 j16))))) R)
  (k2 : ¬ x2 < x1 → Ev G (d + 4) 0 0 M_Mo_copies 0 [.ref 102, .int (0 : Int32), .int (574 : Int32), ev_unk] [] (hset (hset (hset (hset h 102 (oC 9 [.ref 103, .int f_status_1, .int f_acts_2, .int f_marks_3, .ref 104, .ref 105, .ref 106, .int (0 : Int32), .int f_size_5, .int f_token_6, .int f_begin_7, .int f_end_8, .int f_faults_9, .int f_faultPlace_10, .int f_faultKind_11, .int f_deep_12, .long f_value_13, .ref 107, .ref 108, .ref 109, .ref 116, .int f_broadMany_14, .ref 124, .ref 125])) 102 (oC 9 [.ref 103, .int f_status_1, .int f_acts_2, .int f_marks_3, .ref 104, .ref 105, .ref 106, .int (0 : Int32), .int f_size_5, .int f_token_6, .int f_begin_7, .int f_end_8, .int (0 : Int32), .int f_faultPlace_10, .int f_faultKind_11, .int f_deep_12, .long f_value_13, .ref 107, .ref 108, .ref 109, .ref 116, .int f_broadMany_14, .ref 124, .ref 125])) 102 (oC 9 [.ref 103, .int f_status_1, .int f_acts_2, .int f_marks_3, .ref 104, .ref 105, .ref 106, .int (0 : Int32), .int f_size_5, .int f_token_6, .int f_begin_7, .int f_end_8, .int (0 : Int32), .int (-1 : Int32), .int f_faultKind_11, .int f_deep_12, .long f_value_13, .ref 107, .ref 108, .ref 109, .ref 116, .int f_broadMany_14, .ref 124, .ref 125])) 102 (oC 9 [.ref 103, .int f_status_1, .int f_acts_2, .int f_marks_3, .ref 104, .ref 105, .ref 106, .int (0 : Int32), .int f_size_5, .int f_token_6, .int f_begin_7, .int (0 : Int32), .int (0 : Int32), .int (-1 : Int32), .int f_faultKind_11, .int f_deep_12, .long f_value_13, .ref 107, .ref 108, .ref 109, .ref 116, .int f_broadMany_14, .ref 124, .ref 125])) (fun r h1 => Ev G (d + 5) k n M_Mo_load 78 [.ref 102, .int x1, .int x2] (r.toList ++ []) h1 R))
  : Ev G (d + 5) k n M_Mo_load 27 [.ref 102, .int x1, .int x2] [] h R :=
  Ev.go (pc' := 29) (ls' := [.ref 102, .int x1, .int x2]) (st' := [.int x1, .int x2]) [.iload_n 2, .iload_n 1] (by decide +kernel) rfl <|
  Ev.br (i := .if_icmp .ge (21)) (P := x2 < x1) (t := 32) (f := 50) (r := []) (by decide +kernel) rfl (fun c1 =>
    Ev.go (pc' := 33) (ls' := [.ref 102, .int x1, .int x2]) (st' := [.ref 102]) [.aload_n 0] (by decide +kernel) rfl <|
    Ev.getf f_Mo_20 (by decide +kernel) a1 rfl <|
    Ev.go (pc' := 38) (ls' := [.ref 102, .int x1, .int x2]) (st' := [.ref 102, .int x2, .ref 106]) [.iload_n 2, .aload_n 0] (by decide +kernel) rfl <|
    Ev.getf f_Mo_16 (by decide +kernel) a1 rfl <|
    Ev.go (pc' := 42) (ls' := [.ref 102, .int x1, .int x2]) (st' := [.int x2, .ref 105, .int x2, .ref 106]) [.iload_n 2] (by decide +kernel) rfl <|
    Ev.bald (j := j16) (by decide +kernel) a2 (i3 c1) <|
    Ev.bast (j := j16) (by decide +kernel) a4 (i3 c1) <| show Ev G (d + 5) _ _ M_Mo_load 44 [.ref 102, .int x1, .int x2] [] (hset h 106 (aB 900 (upd g17 j16 (vp_nar .byte (g15 j16))))) R from
    Ev.go (pc' := 27) (ls' := [.ref 102, .int x1, .int (x2 + (1 : Int32))]) (st' := []) [.iinc 2 (1), .goto (-20)] (by decide +kernel) rfl <|
    (k1 c1)
  ) (fun c1 =>
    Ev.go (pc' := 52) (ls' := [.ref 102, .int x1, .int x2]) (st' := [.int (0 : Int32), .ref 102]) [.aload_n 0, .iconst 0] (by decide +kernel) rfl <|
    Ev.putf f_Mo_110 (by decide +kernel) a1 (Nat.le_of_ble_eq_true rfl) rfl (fun q => nomatch q) <| show Ev G (d + 5) _ _ M_Mo_load 55 [.ref 102, .int x1, .int x2] [] (hset h 102 (oC 9 [.ref 103, .int f_status_1, .int f_acts_2, .int f_marks_3, .ref 104, .ref 105, .ref 106, .int (0 : Int32), .int f_size_5, .int f_token_6, .int f_begin_7, .int f_end_8, .int f_faults_9, .int f_faultPlace_10, .int f_faultKind_11, .int f_deep_12, .long f_value_13, .ref 107, .ref 108, .ref 109, .ref 116, .int f_broadMany_14, .ref 124, .ref 125])) R from
    Ev.go (pc' := 57) (ls' := [.ref 102, .int x1, .int x2]) (st' := [.int (0 : Int32), .ref 102]) [.aload_n 0, .iconst 0] (by decide +kernel) rfl <|
    Ev.putf f_Mo_148 (by decide +kernel) (hat_set a1) (Nat.le_of_ble_eq_true rfl) rfl (fun q => nomatch q) <| show Ev G (d + 5) _ _ M_Mo_load 60 [.ref 102, .int x1, .int x2] [] (hset (hset h 102 (oC 9 [.ref 103, .int f_status_1, .int f_acts_2, .int f_marks_3, .ref 104, .ref 105, .ref 106, .int (0 : Int32), .int f_size_5, .int f_token_6, .int f_begin_7, .int f_end_8, .int f_faults_9, .int f_faultPlace_10, .int f_faultKind_11, .int f_deep_12, .long f_value_13, .ref 107, .ref 108, .ref 109, .ref 116, .int f_broadMany_14, .ref 124, .ref 125])) 102 (oC 9 [.ref 103, .int f_status_1, .int f_acts_2, .int f_marks_3, .ref 104, .ref 105, .ref 106, .int (0 : Int32), .int f_size_5, .int f_token_6, .int f_begin_7, .int f_end_8, .int (0 : Int32), .int f_faultPlace_10, .int f_faultKind_11, .int f_deep_12, .long f_value_13, .ref 107, .ref 108, .ref 109, .ref 116, .int f_broadMany_14, .ref 124, .ref 125])) R from
    Ev.go (pc' := 62) (ls' := [.ref 102, .int x1, .int x2]) (st' := [.int (-1 : Int32), .ref 102]) [.aload_n 0, .iconst (-1)] (by decide +kernel) rfl <|
    Ev.putf f_Mo_23 (by decide +kernel) (hat_set (hat_set a1)) (Nat.le_of_ble_eq_true rfl) rfl (fun q => nomatch q) <| show Ev G (d + 5) _ _ M_Mo_load 65 [.ref 102, .int x1, .int x2] [] (hset (hset (hset h 102 (oC 9 [.ref 103, .int f_status_1, .int f_acts_2, .int f_marks_3, .ref 104, .ref 105, .ref 106, .int (0 : Int32), .int f_size_5, .int f_token_6, .int f_begin_7, .int f_end_8, .int f_faults_9, .int f_faultPlace_10, .int f_faultKind_11, .int f_deep_12, .long f_value_13, .ref 107, .ref 108, .ref 109, .ref 116, .int f_broadMany_14, .ref 124, .ref 125])) 102 (oC 9 [.ref 103, .int f_status_1, .int f_acts_2, .int f_marks_3, .ref 104, .ref 105, .ref 106, .int (0 : Int32), .int f_size_5, .int f_token_6, .int f_begin_7, .int f_end_8, .int (0 : Int32), .int f_faultPlace_10, .int f_faultKind_11, .int f_deep_12, .long f_value_13, .ref 107, .ref 108, .ref 109, .ref 116, .int f_broadMany_14, .ref 124, .ref 125])) 102 (oC 9 [.ref 103, .int f_status_1, .int f_acts_2, .int f_marks_3, .ref 104, .ref 105, .ref 106, .int (0 : Int32), .int f_size_5, .int f_token_6, .int f_begin_7, .int f_end_8, .int (0 : Int32), .int (-1 : Int32), .int f_faultKind_11, .int f_deep_12, .long f_value_13, .ref 107, .ref 108, .ref 109, .ref 116, .int f_broadMany_14, .ref 124, .ref 125])) R from
    Ev.go (pc' := 67) (ls' := [.ref 102, .int x1, .int x2]) (st' := [.int (0 : Int32), .ref 102]) [.aload_n 0, .iconst 0] (by decide +kernel) rfl <|
    Ev.putf f_Mo_119 (by decide +kernel) (hat_set (hat_set (hat_set a1))) (Nat.le_of_ble_eq_true rfl) rfl (fun q => nomatch q) <| show Ev G (d + 5) _ _ M_Mo_load 70 [.ref 102, .int x1, .int x2] [] (hset (hset (hset (hset h 102 (oC 9 [.ref 103, .int f_status_1, .int f_acts_2, .int f_marks_3, .ref 104, .ref 105, .ref 106, .int (0 : Int32), .int f_size_5, .int f_token_6, .int f_begin_7, .int f_end_8, .int f_faults_9, .int f_faultPlace_10, .int f_faultKind_11, .int f_deep_12, .long f_value_13, .ref 107, .ref 108, .ref 109, .ref 116, .int f_broadMany_14, .ref 124, .ref 125])) 102 (oC 9 [.ref 103, .int f_status_1, .int f_acts_2, .int f_marks_3, .ref 104, .ref 105, .ref 106, .int (0 : Int32), .int f_size_5, .int f_token_6, .int f_begin_7, .int f_end_8, .int (0 : Int32), .int f_faultPlace_10, .int f_faultKind_11, .int f_deep_12, .long f_value_13, .ref 107, .ref 108, .ref 109, .ref 116, .int f_broadMany_14, .ref 124, .ref 125])) 102 (oC 9 [.ref 103, .int f_status_1, .int f_acts_2, .int f_marks_3, .ref 104, .ref 105, .ref 106, .int (0 : Int32), .int f_size_5, .int f_token_6, .int f_begin_7, .int f_end_8, .int (0 : Int32), .int (-1 : Int32), .int f_faultKind_11, .int f_deep_12, .long f_value_13, .ref 107, .ref 108, .ref 109, .ref 116, .int f_broadMany_14, .ref 124, .ref 125])) 102 (oC 9 [.ref 103, .int f_status_1, .int f_acts_2, .int f_marks_3, .ref 104, .ref 105, .ref 106, .int (0 : Int32), .int f_size_5, .int f_token_6, .int f_begin_7, .int (0 : Int32), .int (0 : Int32), .int (-1 : Int32), .int f_faultKind_11, .int f_deep_12, .long f_value_13, .ref 107, .ref 108, .ref 109, .ref 116, .int f_broadMany_14, .ref 124, .ref 125])) R from
    Ev.go (pc' := 75) (ls' := [.ref 102, .int x1, .int x2]) (st' := [.int (574 : Int32), .int (0 : Int32), .ref 102]) [.aload_n 0, .iconst 0, .sipush (574)] (by decide +kernel) rfl <|
    Ev.cV0 (M' := M_Mo_copies) (as := [.int (0 : Int32), .int (574 : Int32)]) (rest := []) l_Mo_229 M_Mo_copies_ok M_Mo_copies_in M_Mo_copies_se (by decide +kernel) ⟨_, (hat_set (hat_set (hat_set (hat_set a1))))⟩ rfl rfl rfl (Nat.le_of_ble_eq_true rfl) (Nat.le_of_ble_eq_true rfl) (k2 c1)
  )
theorem b_Mo_load_78 {G : ev_G} {d k n : Nat} {h : ev_H} {R : Option Value → ev_H → Prop} {x1 : Int32} {x2 : Int32}
  (r1 : ∃ fs, hat h 102 (oC 9 fs))
  (k1 : Ev G (d + 4) 0 0 M_Mo_begins 0 [.ref 102, .int (16 : Int32), ev_unk] [] h (fun r h1 => Ev G (d + 5) k n M_Mo_load 84 [.ref 102, .int x1, .int x2] (r.toList ++ []) h1 R))
  : Ev G (d + 5) k n M_Mo_load 78 [.ref 102, .int x1, .int x2] [] h R :=
  Ev.go (pc' := 81) (ls' := [.ref 102, .int x1, .int x2]) (st' := [.int (16 : Int32), .ref 102]) [.aload_n 0, .bipush (16)] (by decide +kernel) rfl <|
  Ev.cV0 (M' := M_Mo_begins) (as := [.int (16 : Int32)]) (rest := []) l_Mo_51 M_Mo_begins_ok M_Mo_begins_in M_Mo_begins_se (by decide +kernel) r1 rfl rfl rfl (Nat.le_of_ble_eq_true rfl) (Nat.le_of_ble_eq_true rfl) k1
theorem b_Mo_load_84 {G : ev_G} {d k n : Nat} {h : ev_H} {R : Option Value → ev_H → Prop} {x1 : Int32} {x2 : Int32} {v_1 : MG} {z_2 : MP} {B3 : Nat → Nat} {L4 : Nat} {e_5 : Nat} {v_6 : MG} {L7 : Nat} {T8 : Tk} {dp9 : Int32} {y_10 : Int64} {B11 : Nat → Nat}
  (pr1 : hat h 102 (moC v_1 z_2))
  (pr2 : z_2.1 = nI L4)
  (pr3 : TxM h B3 L4)
  (pr4 : z_2.2.2.2.1 = nI e_5)
  (pr5 : e_5 ≤ L4)
  (r6 : ∃ fs, hat h 102 (oC 9 fs))
  (pr7 : hat (hset h 102 (moC v_1 (z_2.1, nI (kdM (tok B3 L4 e_5).1), nI (tok B3 L4 e_5).2.1, nI (tok B3 L4 e_5).2.2, z_2.2.2.2.2))) 102 (moC v_6 (pzM L7 T8 dp9 y_10)))
  (pr8 : TxM (hset h 102 (moC v_1 (z_2.1, nI (kdM (tok B3 L4 e_5).1), nI (tok B3 L4 e_5).2.1, nI (tok B3 L4 e_5).2.2, z_2.2.2.2.2))) B11 L7)
  (pr9 : TkOk B11 L7 T8)
  (r10 : ∃ fs, hat (hset h 102 (moC v_1 (z_2.1, nI (kdM (tok B3 L4 e_5).1), nI (tok B3 L4 e_5).2.1, nI (tok B3 L4 e_5).2.2, z_2.2.2.2.2))) 102 (oC 9 fs))
  (r11 : (keM B11 T8) = (0 : Int32) → ∃ fs, hat (hset h 102 (moC v_1 (z_2.1, nI (kdM (tok B3 L4 e_5).1), nI (tok B3 L4 e_5).2.1, nI (tok B3 L4 e_5).2.2, z_2.2.2.2.2))) 102 (oC 9 fs))
  (k1 : (keM B11 T8) = (0 : Int32) → Ev G (d + 4) 0 0 M_Mo_theBits 0 [.ref 102] [] (hset h 102 (moC v_1 (z_2.1, nI (kdM (tok B3 L4 e_5).1), nI (tok B3 L4 e_5).2.1, nI (tok B3 L4 e_5).2.2, z_2.2.2.2.2))) (fun r h1 => Ev G (d + 5) k n M_Mo_load 99 [.ref 102, .int x1, .int x2] (r.toList ++ []) h1 R))
  (k2 : ¬ (keM B11 T8) = (0 : Int32) → Ev G (d + 5) k n M_Mo_load 107 [.ref 102, .int x1, .int x2] [.int (1 : Int32)] (hset h 102 (moC v_1 (z_2.1, nI (kdM (tok B3 L4 e_5).1), nI (tok B3 L4 e_5).2.1, nI (tok B3 L4 e_5).2.2, z_2.2.2.2.2))) R)
  : Ev G (d + 5) k n M_Mo_load 84 [.ref 102, .int x1, .int x2] [] h R :=
  Ev.go (pc' := 85) (ls' := [.ref 102, .int x1, .int x2]) (st' := [.ref 102]) [.aload_n 0] (by decide +kernel) rfl <|
  Ev.cV0 (M' := M_Mo_ahead) (as := []) (rest := []) l_Mo_151 M_Mo_ahead_ok M_Mo_ahead_in M_Mo_ahead_se (by decide +kernel) r6 rfl rfl rfl (Nat.le_of_ble_eq_true rfl) (Nat.le_of_ble_eq_true rfl) (s_Mo_ahead pr1 pr2 pr3 pr4 pr5 <| show Ev G (d + 5) _ _ M_Mo_load 88 [.ref 102, .int x1, .int x2] [] (hset h 102 (moC v_1 (z_2.1, nI (kdM (tok B3 L4 e_5).1), nI (tok B3 L4 e_5).2.1, nI (tok B3 L4 e_5).2.2, z_2.2.2.2.2))) R from
    Ev.go (pc' := 89) (ls' := [.ref 102, .int x1, .int x2]) (st' := [.ref 102]) [.aload_n 0] (by decide +kernel) rfl <|
    Ev.cV0 (M' := M_Mo_key_0) (as := []) (rest := []) l_Mo_188 M_Mo_key_0_ok M_Mo_key_0_in M_Mo_key_0_se (by decide +kernel) r10 rfl rfl rfl (Nat.le_of_ble_eq_true rfl) (Nat.le_of_ble_eq_true rfl) (s_Mo_key_0 pr7 pr8 pr9 <| show Ev G (d + 5) _ _ M_Mo_load 92 [.ref 102, .int x1, .int x2] [.int (keM B11 T8)] (hset h 102 (moC v_1 (z_2.1, nI (kdM (tok B3 L4 e_5).1), nI (tok B3 L4 e_5).2.1, nI (tok B3 L4 e_5).2.2, z_2.2.2.2.2))) R from
      Ev.br (i := .ifCond .ne (10)) (P := (keM B11 T8) = (0 : Int32)) (t := 95) (f := 102) (r := []) (by decide +kernel) rfl (fun c1 =>
        Ev.go (pc' := 96) (ls' := [.ref 102, .int x1, .int x2]) (st' := [.ref 102]) [.aload_n 0] (by decide +kernel) rfl <|
        Ev.cV0 (M' := M_Mo_theBits) (as := []) (rest := []) l_Mo_233 M_Mo_theBits_ok M_Mo_theBits_in M_Mo_theBits_se (by decide +kernel) (r11 c1) rfl rfl rfl (Nat.le_of_ble_eq_true rfl) (Nat.le_of_ble_eq_true rfl) (k1 c1)
      ) (fun c1 =>
        Ev.go (pc' := 107) (ls' := [.ref 102, .int x1, .int x2]) (st' := [.int (1 : Int32)]) [.iconst 1, .goto (4)] (by decide +kernel) rfl <|
        (k2 c1)
      )
    )
  )
theorem b_Mo_load_99 {G : ev_G} {d k n : Nat} {h : ev_H} {R : Option Value → ev_H → Prop} {x1 : Int32} {x2 : Int32} {y0 : Int32}
  (k1 : y0 = (0 : Int32) → Ev G (d + 5) k n M_Mo_load 107 [.ref 102, .int x1, .int x2] [.int (0 : Int32)] h R)
  (k2 : ¬ y0 = (0 : Int32) → Ev G (d + 5) k n M_Mo_load 107 [.ref 102, .int x1, .int x2] [.int (1 : Int32)] h R)
  : Ev G (d + 5) k n M_Mo_load 99 [.ref 102, .int x1, .int x2] [.int y0] h R :=
  Ev.br (i := .ifCond .eq (7)) (P := y0 = (0 : Int32)) (t := 106) (f := 102) (r := []) (by decide +kernel) rfl (fun c1 =>
    Ev.go (pc' := 107) (ls' := [.ref 102, .int x1, .int x2]) (st' := [.int (0 : Int32)]) [.iconst 0] (by decide +kernel) rfl <|
    (k1 c1)
  ) (fun c1 =>
    Ev.go (pc' := 107) (ls' := [.ref 102, .int x1, .int x2]) (st' := [.int (1 : Int32)]) [.iconst 1, .goto (4)] (by decide +kernel) rfl <|
    (k2 c1)
  )
theorem b_Mo_load_107 {G : ev_G} {d k n : Nat} {h : ev_H} {R : Option Value → ev_H → Prop} {x1 : Int32} {x2 : Int32} {y0 : Int32} {v_1 : MG} {L2 : Nat} {T3 : Tk} {dp4 : Int32} {y_5 : Int64} {B6 : Nat → Nat}
  (pr1 : ¬ y0 = (0 : Int32) → hat h 102 (moC v_1 (pzM L2 T3 dp4 y_5)))
  (pr2 : ¬ y0 = (0 : Int32) → TxM h B6 L2)
  (pr3 : ¬ y0 = (0 : Int32) → TkOk B6 L2 T3)
  (r4 : ¬ y0 = (0 : Int32) → ∃ fs, hat h 102 (oC 9 fs))
  (r5 : ¬ y0 = (0 : Int32) → (keM B6 T3) = (1 : Int32) → ∃ fs, hat h 102 (oC 9 fs))
  (k1 : y0 = (0 : Int32) → Ev G (d + 5) k n M_Mo_load 133 [.ref 102, .int x1, .int (0 : Int32)] [] h R)
  (k2 : ¬ y0 = (0 : Int32) → (keM B6 T3) = (1 : Int32) → Ev G (d + 4) 0 0 M_Mo_theParts 0 [.ref 102, ev_unk] [] h (fun r h1 => Ev G (d + 5) k n M_Mo_load 124 [.ref 102, .int x1, .int y0] (r.toList ++ []) h1 R))
  (k3 : ¬ y0 = (0 : Int32) → ¬ (keM B6 T3) = (1 : Int32) → Ev G (d + 5) k n M_Mo_load 133 [.ref 102, .int x1, .int (1 : Int32)] [] h R)
  : Ev G (d + 5) k n M_Mo_load 107 [.ref 102, .int x1, .int x2] [.int y0] h R :=
  Ev.go (pc' := 109) (ls' := [.ref 102, .int x1, .int y0]) (st' := [.int y0]) [.istore_n 2, .iload_n 2] (by decide +kernel) rfl <|
  Ev.br (i := .ifCond .eq (22)) (P := y0 = (0 : Int32)) (t := 131) (f := 112) (r := []) (by decide +kernel) rfl (fun c1 =>
    Ev.go (pc' := 133) (ls' := [.ref 102, .int x1, .int (0 : Int32)]) (st' := []) [.iconst 0, .istore_n 2] (by decide +kernel) rfl <|
    (k1 c1)
  ) (fun c1 =>
    Ev.go (pc' := 113) (ls' := [.ref 102, .int x1, .int y0]) (st' := [.ref 102]) [.aload_n 0] (by decide +kernel) rfl <|
    Ev.cV0 (M' := M_Mo_key_0) (as := []) (rest := []) l_Mo_188 M_Mo_key_0_ok M_Mo_key_0_in M_Mo_key_0_se (by decide +kernel) (r4 c1) rfl rfl rfl (Nat.le_of_ble_eq_true rfl) (Nat.le_of_ble_eq_true rfl) (s_Mo_key_0 (pr1 c1) (pr2 c1) (pr3 c1) <| show Ev G (d + 5) _ _ M_Mo_load 116 [.ref 102, .int x1, .int y0] [.int (keM B6 T3)] h R from
      Ev.go (pc' := 117) (ls' := [.ref 102, .int x1, .int y0]) (st' := [.int (1 : Int32), .int (keM B6 T3)]) [.iconst 1] (by decide +kernel) rfl <|
      Ev.br (i := .if_icmp .ne (10)) (P := (keM B6 T3) = (1 : Int32)) (t := 120) (f := 127) (r := []) (by decide +kernel) rfl (fun c2 =>
        Ev.go (pc' := 121) (ls' := [.ref 102, .int x1, .int y0]) (st' := [.ref 102]) [.aload_n 0] (by decide +kernel) rfl <|
        Ev.cV0 (M' := M_Mo_theParts) (as := []) (rest := []) l_Mo_236 M_Mo_theParts_ok M_Mo_theParts_in M_Mo_theParts_se (by decide +kernel) (r5 c1 c2) rfl rfl rfl (Nat.le_of_ble_eq_true rfl) (Nat.le_of_ble_eq_true rfl) (k2 c1 c2)
      ) (fun c2 =>
        Ev.go (pc' := 133) (ls' := [.ref 102, .int x1, .int (1 : Int32)]) (st' := []) [.iconst 1, .goto (4), .istore_n 2] (by decide +kernel) rfl <|
        (k3 c1 c2)
      )
    )
  )
theorem b_Mo_load_124 {G : ev_G} {d k n : Nat} {h : ev_H} {R : Option Value → ev_H → Prop} {x1 : Int32} {x2 : Int32} {y0 : Int32}
  (k1 : y0 = (0 : Int32) → Ev G (d + 5) k n M_Mo_load 133 [.ref 102, .int x1, .int (0 : Int32)] [] h R)
  (k2 : ¬ y0 = (0 : Int32) → Ev G (d + 5) k n M_Mo_load 133 [.ref 102, .int x1, .int (1 : Int32)] [] h R)
  : Ev G (d + 5) k n M_Mo_load 124 [.ref 102, .int x1, .int x2] [.int y0] h R :=
  Ev.br (i := .ifCond .eq (7)) (P := y0 = (0 : Int32)) (t := 131) (f := 127) (r := []) (by decide +kernel) rfl (fun c1 =>
    Ev.go (pc' := 133) (ls' := [.ref 102, .int x1, .int (0 : Int32)]) (st' := []) [.iconst 0, .istore_n 2] (by decide +kernel) rfl <|
    (k1 c1)
  ) (fun c1 =>
    Ev.go (pc' := 133) (ls' := [.ref 102, .int x1, .int (1 : Int32)]) (st' := []) [.iconst 1, .goto (4), .istore_n 2] (by decide +kernel) rfl <|
    (k2 c1)
  )
theorem b_Mo_load_133 {G : ev_G} {d k n : Nat} {h : ev_H} {R : Option Value → ev_H → Prop} {x1 : Int32} {x2 : Int32} {f_status_1 : Int32} {f_acts_2 : Int32} {f_marks_3 : Int32} {f_taped_4 : Int32} {f_size_5 : Int32} {f_token_6 : Int32} {f_begin_7 : Int32} {f_end_8 : Int32} {f_faults_9 : Int32} {f_faultPlace_10 : Int32} {f_faultKind_11 : Int32} {f_deep_12 : Int32} {f_value_13 : Int64} {f_broadMany_14 : Int32}
  (a1 : hat h 102 (oC 9 [.ref 103, .int f_status_1, .int f_acts_2, .int f_marks_3, .ref 104, .ref 105, .ref 106, .int f_taped_4, .int f_size_5, .int f_token_6, .int f_begin_7, .int f_end_8, .int f_faults_9, .int f_faultPlace_10, .int f_faultKind_11, .int f_deep_12, .long f_value_13, .ref 107, .ref 108, .ref 109, .ref 116, .int f_broadMany_14, .ref 124, .ref 125]))
  (k1 : x2 = (0 : Int32) → Ev G (d + 5) k n M_Mo_load 152 [.ref 102, .int x1, .int x2] [] h R)
  (k2 : ¬ x2 = (0 : Int32) → f_token_6 = (0 : Int32) → Ev G (d + 5) k n M_Mo_load 152 [.ref 102, .int x1, .int x2] [] h R)
  (k3 : ¬ x2 = (0 : Int32) → ¬ f_token_6 = (0 : Int32) → Ev G (d + 4) 0 0 M_Mo_aLine 0 [.ref 102, ev_unk, ev_unk] [] h (fun r h1 => Ev G (d + 5) k n M_Mo_load 148 [.ref 102, .int x1, .int x2] (r.toList ++ []) h1 R))
  : Ev G (d + 5) k n M_Mo_load 133 [.ref 102, .int x1, .int x2] [] h R :=
  Ev.go (pc' := 134) (ls' := [.ref 102, .int x1, .int x2]) (st' := [.int x2]) [.iload_n 2] (by decide +kernel) rfl <|
  Ev.br (i := .ifCond .eq (18)) (P := x2 = (0 : Int32)) (t := 152) (f := 137) (r := []) (by decide +kernel) rfl (fun c1 =>
    (k1 c1)
  ) (fun c1 =>
    Ev.go (pc' := 138) (ls' := [.ref 102, .int x1, .int x2]) (st' := [.ref 102]) [.aload_n 0] (by decide +kernel) rfl <|
    Ev.getf f_Mo_128 (by decide +kernel) a1 rfl <|
    Ev.br (i := .ifCond .eq (11)) (P := f_token_6 = (0 : Int32)) (t := 152) (f := 144) (r := []) (by decide +kernel) rfl (fun c2 =>
      (k2 c1 c2)
    ) (fun c2 =>
      Ev.go (pc' := 145) (ls' := [.ref 102, .int x1, .int x2]) (st' := [.ref 102]) [.aload_n 0] (by decide +kernel) rfl <|
      Ev.cV0 (M' := M_Mo_aLine) (as := []) (rest := []) l_Mo_239 M_Mo_aLine_ok M_Mo_aLine_in M_Mo_aLine_se (by decide +kernel) ⟨_, a1⟩ rfl rfl rfl (Nat.le_of_ble_eq_true rfl) (Nat.le_of_ble_eq_true rfl) (k3 c1 c2)
    )
  )
theorem b_Mo_load_148 {G : ev_G} {d k n : Nat} {h : ev_H} {R : Option Value → ev_H → Prop} {x1 : Int32} {x2 : Int32} {y0 : Int32}
  (k1 : Ev G (d + 5) k n M_Mo_load 133 [.ref 102, .int x1, .int y0] [] h R)
  : Ev G (d + 5) k n M_Mo_load 148 [.ref 102, .int x1, .int x2] [.int y0] h R :=
  Ev.go (pc' := 133) (ls' := [.ref 102, .int x1, .int y0]) (st' := []) [.istore_n 2, .goto (-16)] (by decide +kernel) rfl <|
  k1
theorem b_Mo_load_152 {G : ev_G} {d k n : Nat} {h : ev_H} {R : Option Value → ev_H → Prop} {x1 : Int32} {x2 : Int32} {f_status_1 : Int32} {f_acts_2 : Int32} {f_marks_3 : Int32} {f_taped_4 : Int32} {f_size_5 : Int32} {f_token_6 : Int32} {f_begin_7 : Int32} {f_end_8 : Int32} {f_faults_9 : Int32} {f_faultPlace_10 : Int32} {f_faultKind_11 : Int32} {f_deep_12 : Int32} {f_value_13 : Int64} {f_broadMany_14 : Int32}
  (a1 : hat h 102 (oC 9 [.ref 103, .int f_status_1, .int f_acts_2, .int f_marks_3, .ref 104, .ref 105, .ref 106, .int f_taped_4, .int f_size_5, .int f_token_6, .int f_begin_7, .int f_end_8, .int f_faults_9, .int f_faultPlace_10, .int f_faultKind_11, .int f_deep_12, .long f_value_13, .ref 107, .ref 108, .ref 109, .ref 116, .int f_broadMany_14, .ref 124, .ref 125]))
  (k1 : (0 : Int32) < f_faults_9 → Ev G (d + 4) 0 0 M_Mo_copies 0 [.ref 102, .int (574 : Int32), .int (0 : Int32), ev_unk] [] (hset h 102 (oC 9 [.ref 103, .int f_status_1, .int f_acts_2, .int f_marks_3, .ref 104, .ref 105, .ref 106, .int f_taped_4, .int f_size_5, .int f_token_6, .int f_begin_7, .int f_end_8, .int f_faults_9, .int f_faultPlace_10, .int f_faults_9, .int f_deep_12, .long f_value_13, .ref 107, .ref 108, .ref 109, .ref 116, .int f_broadMany_14, .ref 124, .ref 125])) (fun r h1 => Ev G (d + 5) k n M_Mo_load 175 [.ref 102, .int x1, .int x2] (r.toList ++ []) h1 R))
  (k2 : ¬ (0 : Int32) < f_faults_9 → Ev G (d + 4) 0 0 M_Mo_acted 0 [.ref 102, .int (574 : Int32), ev_unk] [] (hset h 102 (oC 9 [.ref 103, .int f_status_1, .int f_acts_2, .int f_marks_3, .ref 104, .ref 105, .ref 106, .int f_taped_4, .int f_size_5, .int f_token_6, .int f_begin_7, .int f_end_8, .int f_faults_9, .int f_faultPlace_10, .int f_faults_9, .int f_deep_12, .long f_value_13, .ref 107, .ref 108, .ref 109, .ref 116, .int f_broadMany_14, .ref 124, .ref 125])) (fun r h1 => Ev G (d + 5) k n M_Mo_load 189 [.ref 102, .int x1, .int x2] (r.toList ++ []) h1 R))
  : Ev G (d + 5) k n M_Mo_load 152 [.ref 102, .int x1, .int x2] [] h R :=
  Ev.go (pc' := 154) (ls' := [.ref 102, .int x1, .int x2]) (st' := [.ref 102, .ref 102]) [.aload_n 0, .aload_n 0] (by decide +kernel) rfl <|
  Ev.getf f_Mo_148 (by decide +kernel) a1 rfl <|
  Ev.putf f_Mo_27 (by decide +kernel) a1 (Nat.le_of_ble_eq_true rfl) rfl (fun q => nomatch q) <| show Ev G (d + 5) _ _ M_Mo_load 160 [.ref 102, .int x1, .int x2] [] (hset h 102 (oC 9 [.ref 103, .int f_status_1, .int f_acts_2, .int f_marks_3, .ref 104, .ref 105, .ref 106, .int f_taped_4, .int f_size_5, .int f_token_6, .int f_begin_7, .int f_end_8, .int f_faults_9, .int f_faultPlace_10, .int f_faults_9, .int f_deep_12, .long f_value_13, .ref 107, .ref 108, .ref 109, .ref 116, .int f_broadMany_14, .ref 124, .ref 125])) R from
  Ev.go (pc' := 161) (ls' := [.ref 102, .int x1, .int x2]) (st' := [.ref 102]) [.aload_n 0] (by decide +kernel) rfl <|
  Ev.getf f_Mo_148 (by decide +kernel) (hat_set a1) rfl <|
  Ev.br (i := .ifCond .le (18)) (P := (0 : Int32) < f_faults_9) (t := 167) (f := 182) (r := []) (by decide +kernel) rfl (fun c1 =>
    Ev.go (pc' := 172) (ls' := [.ref 102, .int x1, .int x2]) (st' := [.int (0 : Int32), .int (574 : Int32), .ref 102]) [.aload_n 0, .sipush (574), .iconst 0] (by decide +kernel) rfl <|
    Ev.cV0 (M' := M_Mo_copies) (as := [.int (574 : Int32), .int (0 : Int32)]) (rest := []) l_Mo_229 M_Mo_copies_ok M_Mo_copies_in M_Mo_copies_se (by decide +kernel) ⟨_, (hat_set a1)⟩ rfl rfl rfl (Nat.le_of_ble_eq_true rfl) (Nat.le_of_ble_eq_true rfl) (k1 c1)
  ) (fun c1 =>
    Ev.go (pc' := 186) (ls' := [.ref 102, .int x1, .int x2]) (st' := [.int (574 : Int32), .ref 102]) [.aload_n 0, .sipush (574)] (by decide +kernel) rfl <|
    Ev.cV0 (M' := M_Mo_acted) (as := [.int (574 : Int32)]) (rest := []) l_Mo_242 M_Mo_acted_ok M_Mo_acted_in M_Mo_acted_se (by decide +kernel) ⟨_, (hat_set a1)⟩ rfl rfl rfl (Nat.le_of_ble_eq_true rfl) (Nat.le_of_ble_eq_true rfl) (k2 c1)
  )
theorem b_Mo_load_175 {G : ev_G} {d k n : Nat} {h : ev_H} {R : Option Value → ev_H → Prop} {x1 : Int32} {x2 : Int32} {v_1 : MG} {z_2 : MP}
  (pr1 : hat h 102 (moC v_1 z_2))
  (r2 : ∃ fs, hat h 102 (oC 9 fs))
  (k1 : R (some (.int (-1 : Int32))) (hset h 102 (moC (stV v_1 (9 : Int32)) z_2)))
  : Ev G (d + 5) k n M_Mo_load 175 [.ref 102, .int x1, .int x2] [] h R :=
  Ev.go (pc' := 178) (ls' := [.ref 102, .int x1, .int x2]) (st' := [.int (9 : Int32), .ref 102]) [.aload_n 0, .bipush (9)] (by decide +kernel) rfl <|
  Ev.cV0 (M' := M_Mo_refuse) (as := [.int (9 : Int32)]) (rest := []) l_Mo_226 M_Mo_refuse_ok M_Mo_refuse_in M_Mo_refuse_se (by decide +kernel) r2 rfl rfl rfl (Nat.le_of_ble_eq_true rfl) (Nat.le_of_ble_eq_true rfl) (s_Mo_refuse pr1 <| show Ev G (d + 5) _ _ M_Mo_load 181 [.ref 102, .int x1, .int x2] [.int (-1 : Int32)] (hset h 102 (moC (stV v_1 (9 : Int32)) z_2)) R from
    Ev.ret (r := (some (.int (-1 : Int32)))) (Or.inl ⟨_, rfl, by decide +kernel, _, rfl, rfl⟩) k1
  )
theorem b_Mo_load_189 {G : ev_G} {d k n : Nat} {h : ev_H} {R : Option Value → ev_H → Prop} {x1 : Int32} {x2 : Int32} {S1 : AS} {v_2 : MG} {z_3 : MP}
  (pr1 : MS h S1)
  (r2 : ∃ fs, hat h 102 (oC 9 fs))
  (pr3 : hat h 102 (moC v_2 z_3))
  (k1 : R (some (.int (nI (sN S1)))) (hset h 102 (moC (stV v_2 0) z_3)))
  : Ev G (d + 5) k n M_Mo_load 189 [.ref 102, .int x1, .int x2] [] h R :=
  Ev.go (pc' := 191) (ls' := [.ref 102, .int x1, .int x2]) (st' := [.ref 102, .ref 102]) [.aload_n 0, .aload_n 0] (by decide +kernel) rfl <|
  Ev.cV0 (M' := M_Mo_many_0) (as := []) (rest := [.ref 102]) l_Mo_71 M_Mo_many_0_ok M_Mo_many_0_in M_Mo_many_0_se (by decide +kernel) r2 rfl rfl rfl (Nat.le_of_ble_eq_true rfl) (Nat.le_of_ble_eq_true rfl) (s_Mo_many_0 pr1 <| show Ev G (d + 5) _ _ M_Mo_load 194 [.ref 102, .int x1, .int x2] [.int (nI (sN S1)), .ref 102] h R from
    Ev.cV0 (M' := M_Mo_gives_I) (as := [.int (nI (sN S1))]) (rest := []) l_Mo_245 M_Mo_gives_I_ok M_Mo_gives_I_in M_Mo_gives_I_se (by decide +kernel) r2 rfl rfl rfl (Nat.le_of_ble_eq_true rfl) (Nat.le_of_ble_eq_true rfl) (s_Mo_gives_I pr3 <| show Ev G (d + 5) _ _ M_Mo_load 197 [.ref 102, .int x1, .int x2] [.int (nI (sN S1))] (hset h 102 (moC (stV v_2 0) z_3)) R from
      Ev.ret (r := (some (.int (nI (sN S1))))) (Or.inl ⟨_, rfl, by decide +kernel, _, rfl, rfl⟩) k1
    )
  )
section S79
variable {G : ev_G} {d : Nat} {h h1 h2 : ev_H} {R : Option Value → ev_H → Prop} {Q : QS} {B : Nat → Nat} {L : Nat} {T : Tk} {S : AS} {v : MG}
theorem nar_sb : ∀ b, b < 256 → vp_nar .byte (sb b) = sb b := by decide +kernel
theorem GoL.tr {g0 : Nat → Int64} (K : Kp h h1 102 104) (H : GoL h1 h2 v L T S g0) : GoL h h2 v L T S g0 := ⟨K.trans H.1, H.2⟩
theorem BaM.tr {g0 : Nat → Int64} {k : Nat} (K : Kp h h1 102 104) (H : BaM h1 h2 v L T k g0) : BaM h h2 v L T k g0 := ⟨K.trans H.1, H.2⟩
theorem MX.at106 (X : MX h) (K : Kg h h1 102 107) (g : ∃ g, hat h1 106 (aB 900 g)) (g4 : ∃ g, hat h1 104 (aL 300 g)) : MX h1 := by
  obtain ⟨-, -, ⟨g3, a3⟩, ⟨g5, a4⟩, a5, a6, a7, a8, ⟨g9, a9⟩, ⟨g10, a10⟩⟩ := X
  exact ⟨g4, g, ⟨_, K.hat a3 (by omega)⟩, ⟨_, K.hat a4 (by omega)⟩, K.hat a5 (by omega), fun i hi => ⟨_, K.hat (a6 i hi).choose_spec (by omega)⟩, K.hat a7 (by omega), fun i hi => ⟨_, K.hat (a8 i hi).choose_spec (by omega)⟩, ⟨_, K.hat a9 (by omega)⟩, ⟨_, K.hat a10 (by omega)⟩⟩
theorem MR.tx (H : MR h Q) : ∀ k, k < qTn Q → qTg Q k = sb (ubT Q k) ∧ ubT Q k < 256 := fun k hk => by
  obtain ⟨b, hb, e⟩ := H.1.2.2.2.2.2.2 k hk
  have e : qTg Q k = sb b := e
  have eu : ubT Q k = b := by unfold ubT; rw [e, sb_255 hb, vN_nI (by omega)]
  rw [eu]; exact ⟨e, hb⟩
theorem pFault_bad {r : LR} (c : ¬ r.1 = 0) : pFault r = if r.2.1.1 = 1 then 1 else r.1 := if_neg c
theorem s_Mo_load2 {n : Int32} (H : MR h Q) (hR : ∀ h', Kp h h' 102 126 → MR h' (a_load Q n).2 → R (some (.int (a_load Q n).1)) h') : Ev G (d + 29) 0 0 M_Mo_load 0 [.ref 102, .int n, ev_unk] [] h R := by
  obtain ⟨bm, z, m1⟩ := H.2.1
  obtain ⟨g, m2, sl⟩ := H.2.2.1
  have t105 := H.2.2.2.1
  have X0 := H.mx
  have num := H.num
  have tn9 := H.1.2.2.2.2.2.1
  have kn12 := H.1.2.2.2.1
  have mn3 := H.1.2.2.2.2.1
  have fr : frB n.toInt64 0 (nI (qTn Q)).toInt64 = decide (0 ≤ n ∧ n < nI (qTn Q + 1)) := by rw [nI_l (by omega)]; exact fr_dc (by omega)
  have z0 : (0 : Int32).toInt = 0 := rfl
  refine b_Mo_load_0 (d := d + 24) m1 (fun _ => m1) (fun c => ?_) (fun c => ?_)
  · have c : b2i (frB n.toInt64 0 (nI (qTn Q)).toInt64) = 0 := c
    rw [fr] at c
    have c := of_decide_eq_false (b2i_e0 c)
    have e : a_load Q n = (-1, stQ Q 1) := by
      unfold a_load
      by_cases q : n < 0
      · rw [if_pos q]
      · rw [if_neg q, if_pos]
        rw [Int32.lt_iff_toInt_lt, z0] at q
        rw [Int32.le_iff_toInt_le, Int32.lt_iff_toInt_lt, nI_toInt (by omega), z0] at c
        rw [Int32.lt_iff_toInt_lt, nI_toInt (by omega)]
        omega
    rw [e] at hR
    exact hR _ ((Kp.refl h 102 126).set _ (by omega) (by omega)) (H.st m1 1)
  · have c : ¬ b2i (frB n.toInt64 0 (nI (qTn Q)).toInt64) = 0 := c
    rw [fr] at c
    have c := of_decide_eq_true (b2i_n0 c)
    rw [Int32.le_iff_toInt_le, Int32.lt_iff_toInt_lt, nI_toInt (by omega), z0] at c
    obtain ⟨nn, hnn, rfl⟩ := nI_of (x := n) (fun z => by rw [Int32.lt_iff_toInt_lt, z0] at z; omega)
    rw [nI_toInt hnn] at c
    have hn : nn ≤ qTn Q := by omega
    have e : a_load Q (nI nn) = if pFault (pRead (ubT Q) nn) = 0 then (nI (sN (pRead (ubT Q) nn).2.2), okQ Q (nI nn)) else (-1, badQ Q (nI nn)) := by
      unfold a_load a_rd
      have h0 : ¬ nI nn < (0 : Int32) := nI_nlt (a := nn) (b := 0) (Nat.zero_le _) (by omega)
      rw [if_neg h0, if_neg (nI_nlt hn (by omega)), vN_nI (by omega)]
    have eo : okQ Q (nI nn) = ((pRead (ubT Q) nn).2.2, (min (qKn Q + 1) 12, keepA (qKn Q) (qKa Q) (qS Q)), Q.2.2.1, (0, qTg Q), (0, 0, -1)) := by unfold okQ a_rd; rw [vN_nI (by omega)]
    have eb : badQ Q (nI nn) = (qS Q, Q.2.1, Q.2.2.1, (0, qTg Q), (9, nI (pFault (pRead (ubT Q) nn)), nI (pRead (ubT Q) nn).2.1.2.1)) := by unfold badQ a_rd; rw [vN_nI (by omega)]
    rw [e, eo, eb] at hR
    clear e eo eb c fr
    have tb := H.tx
    have pf := pRead_f (B := ubT Q) (L := nn) (by omega)
    revert hR tb pf
    generalize ubT Q = B
    intro hR tb pf
    -- the whole from the end of the reading on
    have E : ∀ (h3 h5 : ev_H) (g0 : Nat → Int64) (x2 : Int32), Kp h h3 102 107 → (∀ k, 574 ≤ k → g0 k = cpL g 0 574 k) → (∃ q, hat h3 106 (aB 900 q)) → (∃ q, hat h3 104 (aL 300 q)) → hat h3 105 (aB 900 (qTg Q)) → ((pRead B nn).1 = 0 → GoL h3 h5 (qL Q, nI (qKn Q), nI (qMn Q), 0, -1, qFk Q, bm) nn (pRead B nn).2.1 (pRead B nn).2.2 g0) → (¬ (pRead B nn).1 = 0 → BaM h3 h5 (qL Q, nI (qKn Q), nI (qMn Q), 0, -1, qFk Q, bm) nn (pRead B nn).2.1 (pRead B nn).1 g0) → Ev G (d + 29) 0 0 M_Mo_load 152 [.ref 102, .int (nI nn), .int x2] [] h5 R := by
      intro h3 h5 g0 x2 K3 eg0 t6 t4 t5 good bad
      -- the slots as they were
      have old : ∀ (g5 : Nat → Int64), (∀ k, 574 ≤ k → g5 k = g0 k) → (∀ i, i < qKn Q → SlR g5 (1148 + 574 * i) (qKa Q i)) ∧ (∀ i, i < qMn Q → SlR g5 (8036 + 574 * i) (qMa Q i)) ∧ SlR g5 574 (qS Q) := by
        intro g5 e5
        have big : ∀ k, 1148 ≤ k → g5 k = g k := fun k hk => by
          rw [e5 k (by omega), eg0 k (by omega)]
          unfold cpL; rw [if_neg (by omega)]
        refine ⟨fun i hi => (sl.2.1 i hi).mv (H.1.2.1 i hi) fun k hk => big _ (by omega), fun i hi => (sl.2.2 i hi).mv (H.1.2.2.1 i hi) fun k hk => big _ (by omega), sl.1.mv H.gd fun k hk => ?_⟩
        rw [e5 _ (by omega), eg0 _ (by omega)]
        unfold cpL
        rw [if_pos (by omega), Nat.add_sub_cancel_left]
      by_cases c : (pRead B nn).1 = 0
      · obtain ⟨K5, ⟨dp, y, m15⟩, g5, m25, Z5⟩ := good c
        have gd5 := pf.2.2 c
        have pf0 : pFault (pRead B nn) = 0 := pFault_0.mpr c
        rw [if_pos pf0] at hR
        clear good bad
        revert hR gd5 m15 Z5
        generalize (pRead B nn).2.2 = S5
        generalize (pRead B nn).2.1 = T5
        intro hR m15 Z5 gd5
        refine b_Mo_load_152 (d := d + 24) m15 (fun k => absurd k (by show ¬ (0 : Int32) < 0; decide)) (fun _ => ?_)
        have m16 := hat_set m15 (c' := moC (qL Q, nI (qKn Q), nI (qMn Q), 0, -1, 0, bm) (pzM nn T5 dp y))
        have K6 : Kp h3 (hset h5 102 (moC (qL Q, nI (qKn Q), nI (qMn Q), 0, -1, 0, bm) (pzM nn T5 dp y))) 102 104 := K5.set _ (by omega) (by omega)
        have m26 := hat_ne (b := 102) (c' := moC (qL Q, nI (qKn Q), nI (qMn Q), 0, -1, 0, bm) (pzM nn T5 dp y)) m25 (by omega)
        obtain ⟨oa, om, os⟩ := old g5 Z5.2.2
        have KK : Kp h (hset h5 102 (moC (qL Q, nI (qKn Q), nI (qMn Q), 0, -1, 0, bm) (pzM nn T5 dp y))) 102 107 := K3.trans (K6.wide (by omega) (by omega))
        have H6 : MR (hset h5 102 (moC (qL Q, nI (qKn Q), nI (qMn Q), 0, -1, 0, bm) (pzM nn T5 dp y))) (S5, Q.2.1, Q.2.2.1, (0, qTg Q), (qL Q, 0, -1)) := by
          refine ⟨⟨gd5, H.1.2.1, H.1.2.2.1, H.1.2.2.2.1, H.1.2.2.2.2.1, Nat.zero_le _, fun k hk => absurd hk (Nat.not_lt_zero k)⟩, ⟨bm, _, m16⟩, ⟨g5, m26, Z5.1, oa, om⟩, K6.hat t5 (by omega), X0.at106 KK.g ⟨_, K6.hat t6.choose_spec (by omega)⟩ ⟨_, K6.hat t4.choose_spec (by omega)⟩, ?_⟩
          rw [KK.1]; exact num
        refine s_Mo_acted (d := d + 27) (p := 574) H6 ⟨rfl, Or.inr rfl⟩ H.gd m26 ⟨Z5.1, oa, om⟩ os fun h7 K7 H7 => ?_
        obtain ⟨bm7, z7, m17⟩ := H7.2.1
        refine b_Mo_load_189 (d := d + 24) H7.ms ⟨_, m17⟩ m17 ?_
        exact hR _ ((KK.wide (lo' := 102) (hi' := 126) (by omega) (by omega)).trans ((K7.wide (by omega) (by omega)).set _ (by omega) (by omega))) (H7.st m17 0)
      · obtain ⟨K5, ⟨dp, y, m15⟩, g5, m25, e5⟩ := bad c
        have f6 := pf.2.1
        have pfb : pFault (pRead B nn) = if (pRead B nn).2.1.1 = 1 then 1 else (pRead B nn).1 := pFault_bad c
        have pf1 : ¬ pFault (pRead B nn) = 0 := fun w => c (pFault_0.mp w)
        have pf6 := pFault_6 f6
        rw [if_neg pf1] at hR
        unfold bdC at m15
        rw [← pfb] at m15
        clear good bad
        revert hR m15 pf1 pf6
        generalize pFault (pRead B nn) = f
        generalize (pRead B nn).2.1 = T5
        intro hR m15 pf1 pf6
        have pos : (0 : Int32) < nI f := nI_lt (a := 0) (by omega) (by omega)
        have m15 : hat h5 102 (moC (qL Q, nI (qKn Q), nI (qMn Q), 0, nI T5.2.1, qFk Q, bm) (nI nn, nI (kdM T5.1), nI T5.2.1, nI T5.2.2, nI f, dp, y)) := m15
        refine b_Mo_load_152 (d := d + 24) m15 (fun _ => ?_) (fun k => absurd pos k)
        have m16 := hat_set m15 (c' := moC (qL Q, nI (qKn Q), nI (qMn Q), 0, nI T5.2.1, nI f, bm) (nI nn, nI (kdM T5.1), nI T5.2.1, nI T5.2.2, nI f, dp, y))
        have m26 := hat_ne (b := 102) (c' := moC (qL Q, nI (qKn Q), nI (qMn Q), 0, nI T5.2.1, nI f, bm) (nI nn, nI (kdM T5.1), nI T5.2.1, nI T5.2.2, nI f, dp, y)) m25 (by omega)
        have K6 : Kp h3 (hset h5 102 (moC (qL Q, nI (qKn Q), nI (qMn Q), 0, nI T5.2.1, nI f, bm) (nI nn, nI (kdM T5.1), nI T5.2.1, nI T5.2.2, nI f, dp, y))) 102 104 := K5.set _ (by omega) (by omega)
        refine s_Mo_copies (d := d + 28) (f := 574) (t := 0) m16 m26 rfl rfl (by omega) (by omega) (by omega) fun h7 K7 m27 => ?_
        have m17 := K7.hat m16 (by omega)
        have K7 : Kp h3 h7 102 104 := K6.trans (K7.wide (by omega) (by omega))
        obtain ⟨oa, om, os⟩ := old g5 e5
        have KK : Kp h h7 102 107 := K3.trans (K7.wide (by omega) (by omega))
        refine b_Mo_load_175 (d := d + 24) m17 ⟨_, m17⟩ ?_
        refine hR _ ((KK.wide (by omega) (by omega)).set _ (by omega) (by omega)) ?_
        have K8 : Kp h3 (hset h7 102 (moC (stV (qL Q, nI (qKn Q), nI (qMn Q), 0, nI T5.2.1, nI f, bm) 9) (nI nn, nI (kdM T5.1), nI T5.2.1, nI T5.2.2, nI f, dp, y))) 102 104 := K7.set _ (by omega) (by omega)
        have KK8 := KK.set (k := 102) (moC (stV (qL Q, nI (qKn Q), nI (qMn Q), 0, nI T5.2.1, nI f, bm) 9) (nI nn, nI (kdM T5.1), nI T5.2.1, nI T5.2.2, nI f, dp, y)) (by omega) (by omega)
        refine ⟨⟨H.gd, H.1.2.1, H.1.2.2.1, H.1.2.2.2.1, H.1.2.2.2.2.1, Nat.zero_le _, fun k hk => absurd hk (Nat.not_lt_zero k)⟩, ⟨bm, _, hat_set m17⟩, ⟨_, hat_ne m27 (by omega), os.cp H.gd, fun i hi => (oa i hi).cpo (H.1.2.1 i hi) (by omega), fun i hi => (om i hi).cpo (H.1.2.2.1 i hi) (by omega)⟩, K8.hat t5 (by omega), X0.at106 KK8.g ⟨_, K8.hat t6.choose_spec (by omega)⟩ ⟨_, K8.hat t4.choose_spec (by omega)⟩, ?_⟩
        show 126 ≤ h7.1
        rw [KK.1]; exact num
    clear hR
    -- the text
    have TX := up0 (P := fun i => ∀ (h2 : ev_H) (q : Nat → Int32), Kp h h2 102 107 → hat h2 102 (moC (moQ Q bm) (nI nn, z.2)) → hat h2 103 (aL 9758 g) → hat h2 105 (aB 900 (qTg Q)) → (∃ q, hat h2 104 (aL 300 q)) → hat h2 106 (aB 900 q) → (∀ k, k < i → q k = sb (B k)) → Ev G (d + 29) 0 0 M_Mo_load 27 [.ref 102, .int (nI nn), .int (nI i)] [] h2 R) nn ?_ ?_
    · obtain ⟨q, m6⟩ := X0.2.1
      obtain ⟨q4, m4⟩ := X0.1
      exact TX _ q ((Kp.refl h 102 107).set _ (by omega) (by omega)) (hat_set m1) (hat_ne m2 (by omega)) (hat_ne t105 (by omega)) ⟨q4, hat_ne m4 (by omega)⟩ (hat_ne m6 (by omega)) fun k hk => absurd hk (Nat.not_lt_zero k)
    · intro i hi ih h2 q K m1 m2 m5 m4 m6 eq
      have yes : nI i < nI nn := nI_lt hi (by omega)
      refine b_Mo_load_27 (d := d + 24) (j16 := i) m1 m5 m6 (fun _ => ixn (by omega) (by omega)) (fun _ => ?_) (fun k => absurd yes k)
      obtain ⟨t1, t2⟩ := tb i (by omega)
      rw [t1, nar_sb _ t2, nI_1]
      refine ih _ _ (K.set _ (by omega) (by omega)) (hat_ne m1 (by omega)) (hat_ne m2 (by omega)) (hat_ne m5 (by omega)) ⟨_, hat_ne m4.choose_spec (by omega)⟩ (hat_set m6) fun k hk => ?_
      show (if k = i then sb (B i) else q k) = _
      by_cases w : k = i
      · subst w; rw [if_pos rfl]
      · rw [if_neg w]; exact eq k (by omega)
    · intro h2 q K m1 m2 m5 m4 m6 eq
      have no := nl_self (n := nn) (by omega)
      refine b_Mo_load_27 (d := d + 24) (j16 := 0) m1 m5 m6 (fun k => absurd k no) (fun k => absurd k no) (fun _ => ?_)
      rw [hset_hset, hset_hset, hset_hset]
      have m1a := hat_set m1 (c' := moC (qL Q, nI (qKn Q), nI (qMn Q), 0, -1, qFk Q, bm) (nI nn, z.2.1, z.2.2.1, 0, 0, z.2.2.2.2.2.1, z.2.2.2.2.2.2))
      have m2a := hat_ne (b := 102) (c' := moC (qL Q, nI (qKn Q), nI (qMn Q), 0, -1, qFk Q, bm) (nI nn, z.2.1, z.2.2.1, 0, 0, z.2.2.2.2.2.1, z.2.2.2.2.2.2)) m2 (by omega)
      have Ka := K.set (k := 102) (moC (qL Q, nI (qKn Q), nI (qMn Q), 0, -1, qFk Q, bm) (nI nn, z.2.1, z.2.2.1, 0, 0, z.2.2.2.2.2.1, z.2.2.2.2.2.2)) (by omega) (by omega)
      have m5a := hat_ne (b := 102) (c' := moC (qL Q, nI (qKn Q), nI (qMn Q), 0, -1, qFk Q, bm) (nI nn, z.2.1, z.2.2.1, 0, 0, z.2.2.2.2.2.1, z.2.2.2.2.2.2)) m5 (by omega)
      have m4a := hat_ne (b := 102) (c' := moC (qL Q, nI (qKn Q), nI (qMn Q), 0, -1, qFk Q, bm) (nI nn, z.2.1, z.2.2.1, 0, 0, z.2.2.2.2.2.1, z.2.2.2.2.2.2)) m4.choose_spec (by omega)
      have m6a := hat_ne (b := 102) (c' := moC (qL Q, nI (qKn Q), nI (qMn Q), 0, -1, qFk Q, bm) (nI nn, z.2.1, z.2.2.1, 0, 0, z.2.2.2.2.2.1, z.2.2.2.2.2.2)) m6 (by omega)
      refine s_Mo_copies (d := d + 28) (f := 0) (t := 574) m1a m2a rfl rfl (by omega) (by omega) (by omega) fun h3 K3 m23 => ?_
      have K3h := Ka.trans (K3.wide (lo' := 102) (hi' := 107) (by omega) (by omega))
      have m13 := K3.hat m1a (by omega)
      have m53 := K3.hat m5a (by omega)
      have m43 := K3.hat m4a (by omega)
      have m63 := K3.hat m6a (by omega)
      have XT3 : TxM h3 B nn := ⟨by omega, q, m63, fun k hk => ⟨eq k hk, (tb k (by omega)).2⟩⟩
      refine b_Mo_load_78 (d := d + 24) ⟨_, m13⟩ ?_
      refine s_begins (d := d + 26) m13 m23 fun h4 g4 K4 m24 Z4 => ?_
      have m14 := K4.hat m13 (by omega)
      have X4 := XT3.kg K4.g (by omega)
      have K4 : Kp h3 h4 102 104 := K4.wide (by omega) (by omega)
      have t0 := tok_ok B (L := nn) (e := 0) (by omega)
      have E := fun h5 x2 => E h3 h5 (cpL g 0 574) x2 K3h (fun _ _ => rfl) ⟨_, m63⟩ ⟨_, m43⟩ m53
      obtain ⟨q1, q2, q3, q4, q5, q6⟩ := pR2_f (B := B) (L := nn) (by omega)
      -- line by line
      have LL : ∀ (m : Nat) (T : Tk) (S : AS) (h5 : ev_H) (g5 : Nat → Int64) (dp : Int32) (y : Int64), 901 ≤ T.2.1 + m → Kp h3 h5 102 104 → hat h5 102 (moC (qL Q, nI (qKn Q), nI (qMn Q), 0, -1, qFk Q, bm) (pzM nn T dp y)) → hat h5 103 (aL 9758 g5) → TkOk B nn T → sGd S → GZ (cpL g 0 574) g5 S → (∀ h6 x2, ((pLns B nn m T S).1 = 0 → GoL h3 h6 (qL Q, nI (qKn Q), nI (qMn Q), 0, -1, qFk Q, bm) nn (pLns B nn m T S).2.1 (pLns B nn m T S).2.2 (cpL g 0 574)) → (¬ (pLns B nn m T S).1 = 0 → BaM h3 h6 (qL Q, nI (qKn Q), nI (qMn Q), 0, -1, qFk Q, bm) nn (pLns B nn m T S).2.1 (pLns B nn m T S).1 (cpL g 0 574)) → Ev G (d + 29) 0 0 M_Mo_load 152 [.ref 102, .int (nI nn), .int x2] [] h6 R) → Ev G (d + 29) 0 0 M_Mo_load 133 [.ref 102, .int (nI nn), .int 1] [] h5 R := by
        intro m
        induction m with
        | zero =>
          intro T S h5 g5 dp y hm K5 m15 m25 HT gd Z hr
          have := HT.2.1
          have := HT.2.2.1
          omega
        | succ m ih =>
          intro T S h5 g5 dp y hm K5 m15 m25 HT gd Z hr
          have e : pLns B nn (m + 1) T S = if T.1 = 0 then (0, T, S) else if (pLine B nn T S).1 = 0 then pLns B nn m (pLine B nn T S).2.1 (pLine B nn T S).2.2 else pLine B nn T S := rfl
          rw [e] at hr
          have u0 : nI (kdM T.1) = 0 ↔ T.1 = 0 := by rw [show (0 : Int32) = nI 0 from rfl, kd_I (by omega), kd_0]
          refine b_Mo_load_133 (d := d + 24) m15 (fun k => absurd k (by decide)) (fun _ k => ?_) (fun _ k => ?_)
          · have k := u0.mp k
            rw [if_pos k] at hr
            exact hr h5 1 (fun _ => ⟨K5, ⟨_, _, m15⟩, _, m25, Z⟩) (fun w => absurd rfl w)
          · have k : ¬ T.1 = 0 := fun w => k (u0.mpr w)
            rw [if_neg k] at hr
            have lg := pLine_LG (B := B) (L := nn) HT (by omega) gd
            refine s_aLine (d := d) m15 m25 (XT3.kg K5.g (by omega)) HT gd Z fun h6 P6 => b_Mo_load_148 (d := d + 24) ?_
            by_cases c0 : (pLine B nn T S).1 = 0
            · rw [if_pos c0] at hr
              obtain ⟨K6, ⟨dp6, y6, m16⟩, g6, m26, Z6⟩ := P6.1 c0
              obtain ⟨l1, l2⟩ := lg.2.2.2 c0
              rw [decide_eq_true c0]
              exact ih _ _ h6 g6 dp6 y6 (by omega) (K5.trans K6) m16 m26 lg.1 l1 Z6 hr
            · rw [if_neg c0] at hr
              have P := BaM.tr K5 (P6.2 c0)
              obtain ⟨-, ⟨dp6, y6, m16⟩, -⟩ := id P
              rw [decide_eq_false c0]
              exact b_Mo_load_133 (d := d + 24) m16 (fun _ => hr h6 0 (fun w => absurd w c0) (fun _ => P)) (fun w => absurd rfl w) (fun w => absurd rfl w)
      -- from the parts on
      have M133 : ∀ (h5 : ev_H) (x2 : Int32), ((pR2 B nn).1 = 0 → x2 = 1 ∧ GoL h3 h5 (qL Q, nI (qKn Q), nI (qMn Q), 0, -1, qFk Q, bm) nn (pR2 B nn).2.1 (pR2 B nn).2.2 (cpL g 0 574)) → (¬ (pR2 B nn).1 = 0 → x2 = 0 ∧ BaM h3 h5 (qL Q, nI (qKn Q), nI (qMn Q), 0, -1, qFk Q, bm) nn (pR2 B nn).2.1 (pR2 B nn).1 (cpL g 0 574)) → Ev G (d + 29) 0 0 M_Mo_load 133 [.ref 102, .int (nI nn), .int x2] [] h5 R := by
        intro h5 x2 good bad
        by_cases c : (pR2 B nn).1 = 0
        · obtain ⟨rfl, K5, ⟨dp, y, m15⟩, g5, m25, Z5⟩ := good c
          have e : pRead B nn = pLns B nn 901 (pR2 B nn).2.1 (pR2 B nn).2.2 := by unfold pRead; rw [if_pos c]
          rw [e] at E
          exact LL 901 _ _ h5 g5 dp y (by omega) K5 m15 m25 q1 (q3 c).1 Z5 E
        · obtain ⟨rfl, P⟩ := bad c
          have e : pRead B nn = pR2 B nn := by unfold pRead; rw [if_neg c]
          rw [e] at E
          obtain ⟨-, ⟨dp6, y6, m16⟩, -⟩ := id P
          exact b_Mo_load_133 (d := d + 24) m16 (fun _ => E h5 0 (fun w => absurd w c) (fun _ => P)) (fun w => absurd rfl w) (fun w => absurd rfl w)
      have M107 : ∀ (h5 : ev_H) (x2 y0 : Int32), ((pR1 B nn).1 = 0 → y0 = 1 ∧ GoL h3 h5 (qL Q, nI (qKn Q), nI (qMn Q), 0, -1, qFk Q, bm) nn (pR1 B nn).2.1 (halS (pR1 B nn).2.2) (cpL g 0 574)) → (¬ (pR1 B nn).1 = 0 → y0 = 0 ∧ BaM h3 h5 (qL Q, nI (qKn Q), nI (qMn Q), 0, -1, qFk Q, bm) nn (pR1 B nn).2.1 (pR1 B nn).1 (cpL g 0 574)) → Ev G (d + 29) 0 0 M_Mo_load 107 [.ref 102, .int (nI nn), .int x2] [.int y0] h5 R := by
        intro h5 x2 y0 good bad
        by_cases c : (pR1 B nn).1 = 0
        · obtain ⟨rfl, K5, ⟨dp, y, m15⟩, g5, m25, Z5⟩ := good c
          have X5 := XT3.kg K5.g (by omega)
          have u1 : keM B (pR1 B nn).2.1 = 1 ↔ wdB B (pR1 B nn).2.1 1 = true := ke_eq (m := 1) (by omega)
          have e : pR2 B nn = if wdB B (pR1 B nn).2.1 1 then pParts B nn (pR1 B nn).2.1 (halS (pR1 B nn).2.2) else (0, (pR1 B nn).2.1, halS (pR1 B nn).2.2) := by unfold pR2; rw [if_pos c]
          refine b_Mo_load_107 (d := d + 24) (fun _ => m15) (fun _ => X5) (fun _ => q4) (fun _ => ⟨_, m15⟩) (fun _ _ => ⟨_, m15⟩) (fun k => absurd k (by decide)) (fun _ k => ?_) (fun _ k => ?_)
          · rw [if_pos (u1.mp k)] at e
            refine s_theParts (d := d + 24) m15 m25 X5 q4 (q6 c).1 Z5 fun h6 P6 => ?_
            rw [e] at M133
            by_cases c2 : (pParts B nn (pR1 B nn).2.1 (halS (pR1 B nn).2.2)).1 = 0
            · rw [decide_eq_true c2]
              exact b_Mo_load_124 (d := d + 24) (fun k => absurd k (by decide)) (fun _ => M133 h6 1 (fun w => ⟨rfl, GoL.tr K5 (P6.1 w)⟩) (fun w => absurd c2 w))
            · rw [decide_eq_false c2]
              exact b_Mo_load_124 (d := d + 24) (fun _ => M133 h6 0 (fun w => absurd w c2) (fun w => ⟨rfl, BaM.tr K5 (P6.2 w)⟩)) (fun k => absurd rfl k)
          · rw [if_neg (fun w => k (u1.mpr w))] at e
            rw [e] at M133
            exact M133 h5 1 (fun _ => ⟨rfl, K5, ⟨dp, y, m15⟩, g5, m25, Z5⟩) (fun w => absurd rfl w)
        · obtain ⟨rfl, P⟩ := bad c
          have e : pR2 B nn = pR1 B nn := by unfold pR2; rw [if_neg c]
          rw [e] at M133
          exact b_Mo_load_107 (d := d + 24) (v_1 := (qL Q, nI (qKn Q), nI (qMn Q), 0, -1, qFk Q, bm)) (L2 := nn) (T3 := tok B nn 0) (dp4 := 0) (y_5 := 0) (B6 := B) (fun k => absurd rfl k) (fun k => absurd rfl k) (fun k => absurd rfl k) (fun k => absurd rfl k) (fun k => absurd rfl k) (fun _ => M133 h5 0 (fun w => absurd w c) (fun _ => ⟨rfl, P⟩)) (fun k => absurd rfl k) (fun k => absurd rfl k)
      have u0 : keM B (tok B nn 0) = 0 ↔ wdB B (tok B nn 0) 0 = true := ke_eq (m := 0) (by omega)
      have m1t := hat_set m14 (c' := moC (qL Q, nI (qKn Q), nI (qMn Q), 0, -1, qFk Q, bm) (pzM nn (tok B nn 0) z.2.2.2.2.2.1 z.2.2.2.2.2.2))
      have m2t := hat_ne (b := 102) (c' := moC (qL Q, nI (qKn Q), nI (qMn Q), 0, -1, qFk Q, bm) (pzM nn (tok B nn 0) z.2.2.2.2.2.1 z.2.2.2.2.2.2)) m24 (by omega)
      have K5 : Kp h3 (hset h4 102 (moC (qL Q, nI (qKn Q), nI (qMn Q), 0, -1, qFk Q, bm) (pzM nn (tok B nn 0) z.2.2.2.2.2.1 z.2.2.2.2.2.2))) 102 104 := K4.set _ (by omega) (by omega)
      refine b_Mo_load_84 (d := d + 24) (e_5 := 0) m14 rfl X4 rfl (by omega) ⟨_, m14⟩ m1t X4.set t0 ⟨_, m1t⟩ (fun _ => ⟨_, m1t⟩) (fun k => ?_) (fun k => ?_)
      · have k := u0.mp k
        have e : pR1 B nn = pBits B nn (tok B nn 0) emS := by unfold pR1; rw [if_pos k]
        rw [e] at M107
        refine s_theBits (d := d + 24) m1t m2t X4.set t0 Z4 fun h6 good bad => ?_
        by_cases c2 : (pBits B nn (tok B nn 0) emS).1 = 0
        · rw [decide_eq_true c2]
          exact b_Mo_load_99 (d := d + 24) (fun k => absurd k (by decide)) (fun _ => M107 h6 _ 1 (fun w => ⟨rfl, GoL.tr K5 (good w)⟩) (fun w => absurd c2 w))
        · rw [decide_eq_false c2]
          exact b_Mo_load_99 (d := d + 24) (fun _ => M107 h6 _ 0 (fun w => absurd w c2) (fun w => ⟨rfl, BaM.tr K5 (bad w)⟩)) (fun k => absurd rfl k)
      · have e : pR1 B nn = (0, tok B nn 0, emS) := by unfold pR1; rw [if_neg (fun w => k (u0.mpr w))]
        rw [e] at M107
        exact M107 _ _ 1 (fun _ => ⟨rfl, K5, ⟨_, _, m1t⟩, _, m2t, Z4⟩) (fun w => absurd rfl w)
end S79
