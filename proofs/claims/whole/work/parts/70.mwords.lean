/-! the model's reader: words, signs, faults, numbers, what is emitted -/
def fpV (v : MG) (p : Int32) : MG := (v.1, v.2.1, v.2.2.1, v.2.2.2.1, p, v.2.2.2.2.2)
def bdC (v : MG) (L : Nat) (T : Tk) (k : Nat) (dp : Int32) (y : Int64) : ev_C := moC (fpV v (nI T.2.1)) (nI L, nI (kdM T.1), nI T.2.1, nI T.2.2, nI (if T.1 = 1 then 1 else k), dp, y)
def emF (g : Nat → Int64) (t : Nat) (w : Int32) (m : Int64) : Nat → Int64 := vp_updL (vp_updL g (74 + t) ((m <<< ((4 : Int32).toInt64 &&& 63)) ||| w.toInt64)) 3 (lN (t + 1))
def kwL (m : Nat) : Nat := [0, 1, 2, 5, 3, 8, 7, 6, 9, 10, 11, 12, 13].getD m 0
def kwS (m : Nat) : Nat := [1, 6, 12, 17, 21, 28, 32, 36, 39, 44, 51, 55, 59, 63].getD m 0
def keM (B : Nat → Nat) (T : Tk) : Int32 := frI (fun m => wdB B T (kwL m)) 13
theorem b_Mo_key_0_0 {G : ev_G} {d k n : Nat} {h : ev_H} {R : Option Value → ev_H → Prop} {f_status_1 : Int32} {f_acts_2 : Int32} {f_marks_3 : Int32} {f_taped_4 : Int32} {f_size_5 : Int32} {f_token_6 : Int32} {f_begin_7 : Int32} {f_end_8 : Int32} {f_faults_9 : Int32} {f_faultPlace_10 : Int32} {f_faultKind_11 : Int32} {f_deep_12 : Int32} {f_value_13 : Int64} {f_broadMany_14 : Int32}
  (a1 : hat h 102 (oC 9 [.ref 103, .int f_status_1, .int f_acts_2, .int f_marks_3, .ref 104, .ref 105, .ref 106, .int f_taped_4, .int f_size_5, .int f_token_6, .int f_begin_7, .int f_end_8, .int f_faults_9, .int f_faultPlace_10, .int f_faultKind_11, .int f_deep_12, .long f_value_13, .ref 107, .ref 108, .ref 109, .ref 116, .int f_broadMany_14, .ref 124, .ref 125]))
  (k1 : f_token_6 = (2 : Int32) → Ev G (d + 4) k n M_Mo_key_0 14 [.ref 102, .int (0 : Int32), .int (1 : Int32), ev_unk, ev_unk, ev_unk] [] h R)
  (k2 : ¬ f_token_6 = (2 : Int32) → R (some (.int (-1 : Int32))) h)
  : Ev G (d + 4) k n M_Mo_key_0 0 [.ref 102, ev_unk, ev_unk, ev_unk, ev_unk, ev_unk] [] h R :=
  Ev.go (pc' := 1) (ls' := [.ref 102, ev_unk, ev_unk, ev_unk, ev_unk, ev_unk]) (st' := [.ref 102]) [.aload_n 0] (by decide +kernel) rfl <|
  Ev.getf f_Mo_128 (by decide +kernel) a1 rfl <|
  Ev.go (pc' := 5) (ls' := [.ref 102, ev_unk, ev_unk, ev_unk, ev_unk, ev_unk]) (st' := [.int (2 : Int32), .int f_token_6]) [.iconst 2] (by decide +kernel) rfl <|
  Ev.br (i := .if_icmp .eq (5)) (P := f_token_6 = (2 : Int32)) (t := 10) (f := 8) (r := []) (by decide +kernel) rfl (fun c1 =>
    Ev.go (pc' := 14) (ls' := [.ref 102, .int (0 : Int32), .int (1 : Int32), ev_unk, ev_unk, ev_unk]) (st' := []) [.iconst 0, .istore_n 1, .iconst 1, .istore_n 2] (by decide +kernel) rfl <|
    (k1 c1)
  ) (fun c1 =>
    Ev.go (pc' := 9) (ls' := [.ref 102, ev_unk, ev_unk, ev_unk, ev_unk, ev_unk]) (st' := [.int (-1 : Int32)]) [.iconst (-1)] (by decide +kernel) rfl <|
    Ev.ret (r := (some (.int (-1 : Int32)))) (Or.inl ⟨_, rfl, by decide +kernel, _, rfl, rfl⟩) (k2 c1)
  )
theorem b_Mo_key_0_14 {G : ev_G} {d k n : Nat} {h : ev_H} {R : Option Value → ev_H → Prop} {x1 : Int32} {x2 : Int32}
  (k1 : x2 < (nI (ev_len.getD 14 0)) → Ev G (d + 4) k n M_Mo_key_0 25 [.ref 102, .int x1, .int x2, .int x2, ev_unk, ev_unk] [] h R)
  (k2 : ¬ x2 < (nI (ev_len.getD 14 0)) → R (some (.int (-1 : Int32))) h)
  : Ev G (d + 4) k n M_Mo_key_0 14 [.ref 102, .int x1, .int x2, ev_unk, ev_unk, ev_unk] [] h R :=
  Ev.go (pc' := 15) (ls' := [.ref 102, .int x1, .int x2, ev_unk, ev_unk, ev_unk]) (st' := [.int x2]) [.iload_n 2] (by decide +kernel) rfl <|
  Ev.ldcS (i := 14) rfl (by decide +kernel) <|
  Ev.sLen (i := 14) lL_Mo_139 (by decide) (Nat.le_of_ble_eq_true rfl) (by decide +kernel) <|
  Ev.br (i := .if_icmp .ge (113)) (P := x2 < (nI (ev_len.getD 14 0))) (t := 23) (f := 133) (r := []) (by decide +kernel) rfl (fun c1 =>
    Ev.go (pc' := 25) (ls' := [.ref 102, .int x1, .int x2, .int x2, ev_unk, ev_unk]) (st' := []) [.iload_n 2, .istore_n 3] (by decide +kernel) rfl <|
    (k1 c1)
  ) (fun c1 =>
    Ev.go (pc' := 134) (ls' := [.ref 102, .int x1, .int x2, ev_unk, ev_unk, ev_unk]) (st' := [.int (-1 : Int32)]) [.iconst (-1)] (by decide +kernel) rfl <|
    Ev.ret (r := (some (.int (-1 : Int32)))) (Or.inl ⟨_, rfl, by decide +kernel, _, rfl, rfl⟩) (k2 c1)
  )
theorem b_Mo_key_0_25 {G : ev_G} {d k n : Nat} {h : ev_H} {R : Option Value → ev_H → Prop} {x1 : Int32} {x2 : Int32} {x3 : Int32} {j1 : Nat} {f_status_2 : Int32} {f_acts_3 : Int32} {f_marks_4 : Int32} {f_taped_5 : Int32} {f_size_6 : Int32} {f_token_7 : Int32} {f_begin_8 : Int32} {f_end_9 : Int32} {f_faults_10 : Int32} {f_faultPlace_11 : Int32} {f_faultKind_12 : Int32} {f_deep_13 : Int32} {f_value_14 : Int64} {f_broadMany_15 : Int32}
  (a2 : hat h 102 (oC 9 [.ref 103, .int f_status_2, .int f_acts_3, .int f_marks_4, .ref 104, .ref 105, .ref 106, .int f_taped_5, .int f_size_6, .int f_token_7, .int f_begin_8, .int f_end_9, .int f_faults_10, .int f_faultPlace_11, .int f_faultKind_12, .int f_deep_13, .long f_value_14, .ref 107, .ref 108, .ref 109, .ref 116, .int f_broadMany_15, .ref 124, .ref 125]))
  (i1 : ev_ix x3 j1 (ev_len.getD 14 0))
  (k1 : (ev_chr 14 j1) = (32 : Int32) → (x3 - x2) = (f_end_9 - f_begin_8) → Ev G (d + 4) k n M_Mo_key_0 67 [.ref 102, .int x1, .int x2, .int x3, .int (1 : Int32), .int (0 : Int32)] [] h R)
  (k2 : (ev_chr 14 j1) = (32 : Int32) → ¬ (x3 - x2) = (f_end_9 - f_begin_8) → Ev G (d + 4) k n M_Mo_key_0 67 [.ref 102, .int x1, .int x2, .int x3, .int (0 : Int32), .int (0 : Int32)] [] h R)
  (k3 : ¬ (ev_chr 14 j1) = (32 : Int32) → Ev G (d + 4) k n M_Mo_key_0 25 [.ref 102, .int x1, .int x2, .int (x3 + (1 : Int32)), ev_unk, ev_unk] [] h R)
  : Ev G (d + 4) k n M_Mo_key_0 25 [.ref 102, .int x1, .int x2, .int x3, ev_unk, ev_unk] [] h R :=
  Ev.ldcS (i := 14) rfl (by decide +kernel) <|
  Ev.go (pc' := 28) (ls' := [.ref 102, .int x1, .int x2, .int x3, ev_unk, ev_unk]) (st' := [.int x3, .ref (ev_big + 14)]) [.iload_n 3] (by decide +kernel) rfl <|
  Ev.sChr (i := 14) (j := j1) lL_Mo_144 (by decide) i1 (Nat.le_of_ble_eq_true rfl) (by decide +kernel) <|
  Ev.go (pc' := 33) (ls' := [.ref 102, .int x1, .int x2, .int x3, ev_unk, ev_unk]) (st' := [.int (32 : Int32), .int (ev_chr 14 j1)]) [.bipush (32)] (by decide +kernel) rfl <|
  Ev.br (i := .if_icmp .eq (9)) (P := (ev_chr 14 j1) = (32 : Int32)) (t := 42) (f := 36) (r := []) (by decide +kernel) rfl (fun c1 =>
    Ev.go (pc' := 46) (ls' := [.ref 102, .int x1, .int x2, .int x3, ev_unk, ev_unk]) (st' := [.ref 102, .int (x3 - x2)]) [.iload_n 3, .iload_n 2, .isub, .aload_n 0] (by decide +kernel) rfl <|
    Ev.getf f_Mo_119 (by decide +kernel) a2 rfl <|
    Ev.go (pc' := 50) (ls' := [.ref 102, .int x1, .int x2, .int x3, ev_unk, ev_unk]) (st' := [.ref 102, .int f_end_9, .int (x3 - x2)]) [.aload_n 0] (by decide +kernel) rfl <|
    Ev.getf f_Mo_125 (by decide +kernel) a2 rfl <|
    Ev.go (pc' := 54) (ls' := [.ref 102, .int x1, .int x2, .int x3, ev_unk, ev_unk]) (st' := [.int (f_end_9 - f_begin_8), .int (x3 - x2)]) [.isub] (by decide +kernel) rfl <|
    Ev.br (i := .if_icmp .ne (7)) (P := (x3 - x2) = (f_end_9 - f_begin_8)) (t := 57) (f := 61) (r := []) (by decide +kernel) rfl (fun c2 =>
      Ev.go (pc' := 67) (ls' := [.ref 102, .int x1, .int x2, .int x3, .int (1 : Int32), .int (0 : Int32)]) (st' := []) [.iconst 1, .goto (4), .istore 4, .iconst 0, .istore 5] (by decide +kernel) rfl <|
      (k1 c1 c2)
    ) (fun c2 =>
      Ev.go (pc' := 67) (ls' := [.ref 102, .int x1, .int x2, .int x3, .int (0 : Int32), .int (0 : Int32)]) (st' := []) [.iconst 0, .istore 4, .iconst 0, .istore 5] (by decide +kernel) rfl <|
      (k2 c1 c2)
    )
  ) (fun c1 =>
    Ev.go (pc' := 25) (ls' := [.ref 102, .int x1, .int x2, .int (x3 + (1 : Int32)), ev_unk, ev_unk]) (st' := []) [.iinc 3 (1), .goto (-14)] (by decide +kernel) rfl <|
    (k3 c1)
  )
theorem b_Mo_key_0_67 {G : ev_G} {d k n : Nat} {h : ev_H} {R : Option Value → ev_H → Prop} {x1 : Int32} {x2 : Int32} {x3 : Int32} {x4 : Int32} {x5 : Int32} {j1 : Nat} {f_status_2 : Int32} {f_acts_3 : Int32} {f_marks_4 : Int32} {f_taped_5 : Int32} {f_size_6 : Int32} {f_token_7 : Int32} {f_begin_8 : Int32} {f_end_9 : Int32} {f_faults_10 : Int32} {f_faultPlace_11 : Int32} {f_faultKind_12 : Int32} {f_deep_13 : Int32} {f_value_14 : Int64} {f_broadMany_15 : Int32} {v_16 : MG} {z_17 : MP} {B18 : Nat → Nat} {L19 : Nat} {j_20 : Nat}
  (a2 : hat h 102 (oC 9 [.ref 103, .int f_status_2, .int f_acts_3, .int f_marks_4, .ref 104, .ref 105, .ref 106, .int f_taped_5, .int f_size_6, .int f_token_7, .int f_begin_8, .int f_end_9, .int f_faults_10, .int f_faultPlace_11, .int f_faultKind_12, .int f_deep_13, .long f_value_14, .ref 107, .ref 108, .ref 109, .ref 116, .int f_broadMany_15, .ref 124, .ref 125]))
  (i1 : x5 < (x3 - x2) → ¬ x4 = (0 : Int32) → ev_ix (x2 + x5) j1 (ev_len.getD 14 0))
  (pr3 : x5 < (x3 - x2) → ¬ x4 = (0 : Int32) → hat h 102 (moC v_16 z_17))
  (pr4 : x5 < (x3 - x2) → ¬ x4 = (0 : Int32) → z_17.1 = nI L19)
  (pr5 : x5 < (x3 - x2) → ¬ x4 = (0 : Int32) → TxM h B18 L19)
  (pr6 : x5 < (x3 - x2) → ¬ x4 = (0 : Int32) → (f_begin_8 + x5) = nI j_20 ∧ j_20 < 2147483648)
  (k1 : x5 < (x3 - x2) → x4 = (0 : Int32) → x4 = (0 : Int32) → Ev G (d + 4) k n M_Mo_key_0 14 [.ref 102, .int (x1 + (1 : Int32)), .int (x3 + (1 : Int32)), ev_unk, ev_unk, ev_unk] [] h R)
  (k2 : x5 < (x3 - x2) → x4 = (0 : Int32) → ¬ x4 = (0 : Int32) → R (some (.int x1)) h)
  (k3 : x5 < (x3 - x2) → ¬ x4 = (0 : Int32) → (ev_chr 14 j1) = (chM B18 L19 j_20) → Ev G (d + 4) k n M_Mo_key_0 67 [.ref 102, .int x1, .int x2, .int x3, .int (1 : Int32), .int (x5 + (1 : Int32))] [] h R)
  (k4 : x5 < (x3 - x2) → ¬ x4 = (0 : Int32) → ¬ (ev_chr 14 j1) = (chM B18 L19 j_20) → Ev G (d + 4) k n M_Mo_key_0 67 [.ref 102, .int x1, .int x2, .int x3, .int (0 : Int32), .int (x5 + (1 : Int32))] [] h R)
  (k5 : ¬ x5 < (x3 - x2) → x4 = (0 : Int32) → Ev G (d + 4) k n M_Mo_key_0 14 [.ref 102, .int (x1 + (1 : Int32)), .int (x3 + (1 : Int32)), ev_unk, ev_unk, ev_unk] [] h R)
  (k6 : ¬ x5 < (x3 - x2) → ¬ x4 = (0 : Int32) → R (some (.int x1)) h)
  : Ev G (d + 4) k n M_Mo_key_0 67 [.ref 102, .int x1, .int x2, .int x3, .int x4, .int x5] [] h R :=
  Ev.go (pc' := 72) (ls' := [.ref 102, .int x1, .int x2, .int x3, .int x4, .int x5]) (st' := [.int (x3 - x2), .int x5]) [.iload 5, .iload_n 3, .iload_n 2, .isub] (by decide +kernel) rfl <|
  Ev.br (i := .if_icmp .ge (44)) (P := x5 < (x3 - x2)) (t := 75) (f := 116) (r := []) (by decide +kernel) rfl (fun c1 =>
    Ev.go (pc' := 77) (ls' := [.ref 102, .int x1, .int x2, .int x3, .int x4, .int x5]) (st' := [.int x4]) [.iload 4] (by decide +kernel) rfl <|
    Ev.br (i := .ifCond .eq (39)) (P := x4 = (0 : Int32)) (t := 116) (f := 80) (r := []) (by decide +kernel) rfl (fun c2 =>
      Ev.go (pc' := 118) (ls' := [.ref 102, .int x1, .int x2, .int x3, .int x4, .int x5]) (st' := [.int x4]) [.iload 4] (by decide +kernel) rfl <|
      Ev.br (i := .ifCond .eq (5)) (P := x4 = (0 : Int32)) (t := 123) (f := 121) (r := []) (by decide +kernel) rfl (fun c3 =>
        Ev.go (pc' := 14) (ls' := [.ref 102, .int (x1 + (1 : Int32)), .int (x3 + (1 : Int32)), .int x3, .int x4, .int x5]) (st' := []) [.iinc 1 (1), .iload_n 3, .iconst 1, .iadd, .istore_n 2, .goto (-116)] (by decide +kernel) rfl <|
        Ev.forget (ls' := [.ref 102, .int (x1 + (1 : Int32)), .int (x3 + (1 : Int32)), ev_unk, ev_unk, ev_unk]) ⟨Or.inr rfl, Or.inr rfl, Or.inr rfl, Or.inl rfl, Or.inl rfl, Or.inl rfl, trivial⟩ <|
        (k1 c1 c2 c3)
      ) (fun c3 =>
        Ev.go (pc' := 122) (ls' := [.ref 102, .int x1, .int x2, .int x3, .int x4, .int x5]) (st' := [.int x1]) [.iload_n 1] (by decide +kernel) rfl <|
        Ev.ret (r := (some (.int x1))) (Or.inl ⟨_, rfl, by decide +kernel, _, rfl, rfl⟩) (k2 c1 c2 c3)
      )
    ) (fun c2 =>
      Ev.ldcS (i := 14) rfl (by decide +kernel) <|
      Ev.go (pc' := 86) (ls' := [.ref 102, .int x1, .int x2, .int x3, .int x4, .int x5]) (st' := [.int (x2 + x5), .ref (ev_big + 14)]) [.iload_n 2, .iload 5, .iadd] (by decide +kernel) rfl <|
      Ev.sChr (i := 14) (j := j1) lL_Mo_144 (by decide) (i1 c1 c2) (Nat.le_of_ble_eq_true rfl) (by decide +kernel) <|
      Ev.go (pc' := 91) (ls' := [.ref 102, .int x1, .int x2, .int x3, .int x4, .int x5]) (st' := [.ref 102, .ref 102, .int (ev_chr 14 j1)]) [.aload_n 0, .aload_n 0] (by decide +kernel) rfl <|
      Ev.getf f_Mo_125 (by decide +kernel) a2 rfl <|
      Ev.go (pc' := 97) (ls' := [.ref 102, .int x1, .int x2, .int x3, .int x4, .int x5]) (st' := [.int (f_begin_8 + x5), .ref 102, .int (ev_chr 14 j1)]) [.iload 5, .iadd] (by decide +kernel) rfl <|
      Ev.cV0 (M' := M_Mo_byteAt) (as := [.int (f_begin_8 + x5)]) (rest := [.int (ev_chr 14 j1)]) l_Mo_122 M_Mo_byteAt_ok M_Mo_byteAt_in M_Mo_byteAt_se (by decide +kernel) ⟨_, a2⟩ rfl rfl rfl (Nat.le_of_ble_eq_true rfl) (Nat.le_of_ble_eq_true rfl) (s_Mo_byteAt (pr3 c1 c2) (pr4 c1 c2) (pr5 c1 c2) (pr6 c1 c2) <| show Ev G (d + 4) _ _ M_Mo_key_0 100 [.ref 102, .int x1, .int x2, .int x3, .int x4, .int x5] [.int (chM B18 L19 j_20), .int (ev_chr 14 j1)] h R from
        Ev.br (i := .if_icmp .ne (7)) (P := (ev_chr 14 j1) = (chM B18 L19 j_20)) (t := 103) (f := 107) (r := []) (by decide +kernel) rfl (fun c3 =>
          Ev.go (pc' := 67) (ls' := [.ref 102, .int x1, .int x2, .int x3, .int (1 : Int32), .int (x5 + (1 : Int32))]) (st' := []) [.iconst 1, .goto (4), .istore 4, .iinc 5 (1), .goto (-46)] (by decide +kernel) rfl <|
          (k3 c1 c2 c3)
        ) (fun c3 =>
          Ev.go (pc' := 67) (ls' := [.ref 102, .int x1, .int x2, .int x3, .int (0 : Int32), .int (x5 + (1 : Int32))]) (st' := []) [.iconst 0, .istore 4, .iinc 5 (1), .goto (-46)] (by decide +kernel) rfl <|
          (k4 c1 c2 c3)
        )
      )
    )
  ) (fun c1 =>
    Ev.go (pc' := 118) (ls' := [.ref 102, .int x1, .int x2, .int x3, .int x4, .int x5]) (st' := [.int x4]) [.iload 4] (by decide +kernel) rfl <|
    Ev.br (i := .ifCond .eq (5)) (P := x4 = (0 : Int32)) (t := 123) (f := 121) (r := []) (by decide +kernel) rfl (fun c2 =>
      Ev.go (pc' := 14) (ls' := [.ref 102, .int (x1 + (1 : Int32)), .int (x3 + (1 : Int32)), .int x3, .int x4, .int x5]) (st' := []) [.iinc 1 (1), .iload_n 3, .iconst 1, .iadd, .istore_n 2, .goto (-116)] (by decide +kernel) rfl <|
      Ev.forget (ls' := [.ref 102, .int (x1 + (1 : Int32)), .int (x3 + (1 : Int32)), ev_unk, ev_unk, ev_unk]) ⟨Or.inr rfl, Or.inr rfl, Or.inr rfl, Or.inl rfl, Or.inl rfl, Or.inl rfl, trivial⟩ <|
      (k5 c1 c2)
    ) (fun c2 =>
      Ev.go (pc' := 122) (ls' := [.ref 102, .int x1, .int x2, .int x3, .int x4, .int x5]) (st' := [.int x1]) [.iload_n 1] (by decide +kernel) rfl <|
      Ev.ret (r := (some (.int x1))) (Or.inl ⟨_, rfl, by decide +kernel, _, rfl, rfl⟩) (k6 c1 c2)
    )
  )
theorem b_Mo_fails_0 {G : ev_G} {d k n : Nat} {h : ev_H} {R : Option Value → ev_H → Prop} {x1 : Int32} {f_status_1 : Int32} {f_acts_2 : Int32} {f_marks_3 : Int32} {f_taped_4 : Int32} {f_size_5 : Int32} {f_token_6 : Int32} {f_begin_7 : Int32} {f_end_8 : Int32} {f_faults_9 : Int32} {f_faultPlace_10 : Int32} {f_faultKind_11 : Int32} {f_deep_12 : Int32} {f_value_13 : Int64} {f_broadMany_14 : Int32}
  (a1 : hat h 102 (oC 9 [.ref 103, .int f_status_1, .int f_acts_2, .int f_marks_3, .ref 104, .ref 105, .ref 106, .int f_taped_4, .int f_size_5, .int f_token_6, .int f_begin_7, .int f_end_8, .int f_faults_9, .int f_faultPlace_10, .int f_faultKind_11, .int f_deep_12, .long f_value_13, .ref 107, .ref 108, .ref 109, .ref 116, .int f_broadMany_14, .ref 124, .ref 125]))
  (k1 : f_faults_9 = (0 : Int32) → f_token_6 = (1 : Int32) → R (some (.int (0 : Int32))) (hset (hset h 102 (oC 9 [.ref 103, .int f_status_1, .int f_acts_2, .int f_marks_3, .ref 104, .ref 105, .ref 106, .int f_taped_4, .int f_size_5, .int f_token_6, .int f_begin_7, .int f_end_8, .int (1 : Int32), .int f_faultPlace_10, .int f_faultKind_11, .int f_deep_12, .long f_value_13, .ref 107, .ref 108, .ref 109, .ref 116, .int f_broadMany_14, .ref 124, .ref 125])) 102 (oC 9 [.ref 103, .int f_status_1, .int f_acts_2, .int f_marks_3, .ref 104, .ref 105, .ref 106, .int f_taped_4, .int f_size_5, .int f_token_6, .int f_begin_7, .int f_end_8, .int (1 : Int32), .int f_begin_7, .int f_faultKind_11, .int f_deep_12, .long f_value_13, .ref 107, .ref 108, .ref 109, .ref 116, .int f_broadMany_14, .ref 124, .ref 125])))
  (k2 : f_faults_9 = (0 : Int32) → ¬ f_token_6 = (1 : Int32) → R (some (.int (0 : Int32))) (hset (hset h 102 (oC 9 [.ref 103, .int f_status_1, .int f_acts_2, .int f_marks_3, .ref 104, .ref 105, .ref 106, .int f_taped_4, .int f_size_5, .int f_token_6, .int f_begin_7, .int f_end_8, .int x1, .int f_faultPlace_10, .int f_faultKind_11, .int f_deep_12, .long f_value_13, .ref 107, .ref 108, .ref 109, .ref 116, .int f_broadMany_14, .ref 124, .ref 125])) 102 (oC 9 [.ref 103, .int f_status_1, .int f_acts_2, .int f_marks_3, .ref 104, .ref 105, .ref 106, .int f_taped_4, .int f_size_5, .int f_token_6, .int f_begin_7, .int f_end_8, .int x1, .int f_begin_7, .int f_faultKind_11, .int f_deep_12, .long f_value_13, .ref 107, .ref 108, .ref 109, .ref 116, .int f_broadMany_14, .ref 124, .ref 125])))
  (k3 : ¬ f_faults_9 = (0 : Int32) → R (some (.int (0 : Int32))) h)
  : Ev G d k n M_Mo_fails 0 [.ref 102, .int x1] [] h R :=
  Ev.go (pc' := 1) (ls' := [.ref 102, .int x1]) (st' := [.ref 102]) [.aload_n 0] (by decide +kernel) rfl <|
  Ev.getf f_Mo_148 (by decide +kernel) a1 rfl <|
  Ev.br (i := .ifCond .ne (28)) (P := f_faults_9 = (0 : Int32)) (t := 7) (f := 32) (r := []) (by decide +kernel) rfl (fun c1 =>
    Ev.go (pc' := 9) (ls' := [.ref 102, .int x1]) (st' := [.ref 102, .ref 102]) [.aload_n 0, .aload_n 0] (by decide +kernel) rfl <|
    Ev.getf f_Mo_128 (by decide +kernel) a1 rfl <|
    Ev.go (pc' := 13) (ls' := [.ref 102, .int x1]) (st' := [.int (1 : Int32), .int f_token_6, .ref 102]) [.iconst 1] (by decide +kernel) rfl <|
    Ev.br (i := .if_icmp .ne (7)) (P := f_token_6 = (1 : Int32)) (t := 16) (f := 20) (r := [.ref 102]) (by decide +kernel) rfl (fun c2 =>
      Ev.go (pc' := 21) (ls' := [.ref 102, .int x1]) (st' := [.int (1 : Int32), .ref 102]) [.iconst 1, .goto (4)] (by decide +kernel) rfl <|
      Ev.putf f_Mo_148 (by decide +kernel) a1 (Nat.le_of_ble_eq_true rfl) rfl (fun q => nomatch q) <| show Ev G d _ _ M_Mo_fails 24 [.ref 102, .int x1] [] (hset h 102 (oC 9 [.ref 103, .int f_status_1, .int f_acts_2, .int f_marks_3, .ref 104, .ref 105, .ref 106, .int f_taped_4, .int f_size_5, .int f_token_6, .int f_begin_7, .int f_end_8, .int (1 : Int32), .int f_faultPlace_10, .int f_faultKind_11, .int f_deep_12, .long f_value_13, .ref 107, .ref 108, .ref 109, .ref 116, .int f_broadMany_14, .ref 124, .ref 125])) R from
      Ev.go (pc' := 26) (ls' := [.ref 102, .int x1]) (st' := [.ref 102, .ref 102]) [.aload_n 0, .aload_n 0] (by decide +kernel) rfl <|
      Ev.getf f_Mo_125 (by decide +kernel) (hat_set a1) rfl <|
      Ev.putf f_Mo_23 (by decide +kernel) (hat_set a1) (Nat.le_of_ble_eq_true rfl) rfl (fun q => nomatch q) <| show Ev G d _ _ M_Mo_fails 32 [.ref 102, .int x1] [] (hset (hset h 102 (oC 9 [.ref 103, .int f_status_1, .int f_acts_2, .int f_marks_3, .ref 104, .ref 105, .ref 106, .int f_taped_4, .int f_size_5, .int f_token_6, .int f_begin_7, .int f_end_8, .int (1 : Int32), .int f_faultPlace_10, .int f_faultKind_11, .int f_deep_12, .long f_value_13, .ref 107, .ref 108, .ref 109, .ref 116, .int f_broadMany_14, .ref 124, .ref 125])) 102 (oC 9 [.ref 103, .int f_status_1, .int f_acts_2, .int f_marks_3, .ref 104, .ref 105, .ref 106, .int f_taped_4, .int f_size_5, .int f_token_6, .int f_begin_7, .int f_end_8, .int (1 : Int32), .int f_begin_7, .int f_faultKind_11, .int f_deep_12, .long f_value_13, .ref 107, .ref 108, .ref 109, .ref 116, .int f_broadMany_14, .ref 124, .ref 125])) R from
      Ev.go (pc' := 33) (ls' := [.ref 102, .int x1]) (st' := [.int (0 : Int32)]) [.iconst 0] (by decide +kernel) rfl <|
      Ev.ret (r := (some (.int (0 : Int32)))) (Or.inl ⟨_, rfl, by decide +kernel, _, rfl, rfl⟩) (k1 c1 c2)
    ) (fun c2 =>
      Ev.go (pc' := 21) (ls' := [.ref 102, .int x1]) (st' := [.int x1, .ref 102]) [.iload_n 1] (by decide +kernel) rfl <|
      Ev.putf f_Mo_148 (by decide +kernel) a1 (Nat.le_of_ble_eq_true rfl) rfl (fun q => nomatch q) <| show Ev G d _ _ M_Mo_fails 24 [.ref 102, .int x1] [] (hset h 102 (oC 9 [.ref 103, .int f_status_1, .int f_acts_2, .int f_marks_3, .ref 104, .ref 105, .ref 106, .int f_taped_4, .int f_size_5, .int f_token_6, .int f_begin_7, .int f_end_8, .int x1, .int f_faultPlace_10, .int f_faultKind_11, .int f_deep_12, .long f_value_13, .ref 107, .ref 108, .ref 109, .ref 116, .int f_broadMany_14, .ref 124, .ref 125])) R from
      Ev.go (pc' := 26) (ls' := [.ref 102, .int x1]) (st' := [.ref 102, .ref 102]) [.aload_n 0, .aload_n 0] (by decide +kernel) rfl <|
      Ev.getf f_Mo_125 (by decide +kernel) (hat_set a1) rfl <|
      Ev.putf f_Mo_23 (by decide +kernel) (hat_set a1) (Nat.le_of_ble_eq_true rfl) rfl (fun q => nomatch q) <| show Ev G d _ _ M_Mo_fails 32 [.ref 102, .int x1] [] (hset (hset h 102 (oC 9 [.ref 103, .int f_status_1, .int f_acts_2, .int f_marks_3, .ref 104, .ref 105, .ref 106, .int f_taped_4, .int f_size_5, .int f_token_6, .int f_begin_7, .int f_end_8, .int x1, .int f_faultPlace_10, .int f_faultKind_11, .int f_deep_12, .long f_value_13, .ref 107, .ref 108, .ref 109, .ref 116, .int f_broadMany_14, .ref 124, .ref 125])) 102 (oC 9 [.ref 103, .int f_status_1, .int f_acts_2, .int f_marks_3, .ref 104, .ref 105, .ref 106, .int f_taped_4, .int f_size_5, .int f_token_6, .int f_begin_7, .int f_end_8, .int x1, .int f_begin_7, .int f_faultKind_11, .int f_deep_12, .long f_value_13, .ref 107, .ref 108, .ref 109, .ref 116, .int f_broadMany_14, .ref 124, .ref 125])) R from
      Ev.go (pc' := 33) (ls' := [.ref 102, .int x1]) (st' := [.int (0 : Int32)]) [.iconst 0] (by decide +kernel) rfl <|
      Ev.ret (r := (some (.int (0 : Int32)))) (Or.inl ⟨_, rfl, by decide +kernel, _, rfl, rfl⟩) (k2 c1 c2)
    )
  ) (fun c1 =>
    Ev.go (pc' := 33) (ls' := [.ref 102, .int x1]) (st' := [.int (0 : Int32)]) [.iconst 0] (by decide +kernel) rfl <|
    Ev.ret (r := (some (.int (0 : Int32)))) (Or.inl ⟨_, rfl, by decide +kernel, _, rfl, rfl⟩) (k3 c1)
  )
theorem b_Mo_isSign_0 {G : ev_G} {d k n : Nat} {h : ev_H} {R : Option Value → ev_H → Prop} {x1 : Int32} {f_status_1 : Int32} {f_acts_2 : Int32} {f_marks_3 : Int32} {f_taped_4 : Int32} {f_size_5 : Int32} {f_token_6 : Int32} {f_begin_7 : Int32} {f_end_8 : Int32} {f_faults_9 : Int32} {f_faultPlace_10 : Int32} {f_faultKind_11 : Int32} {f_deep_12 : Int32} {f_value_13 : Int64} {f_broadMany_14 : Int32} {v_15 : MG} {z_16 : MP} {B17 : Nat → Nat} {L18 : Nat} {j_19 : Nat}
  (a1 : hat h 102 (oC 9 [.ref 103, .int f_status_1, .int f_acts_2, .int f_marks_3, .ref 104, .ref 105, .ref 106, .int f_taped_4, .int f_size_5, .int f_token_6, .int f_begin_7, .int f_end_8, .int f_faults_9, .int f_faultPlace_10, .int f_faultKind_11, .int f_deep_12, .long f_value_13, .ref 107, .ref 108, .ref 109, .ref 116, .int f_broadMany_14, .ref 124, .ref 125]))
  (pr2 : f_token_6 = (4 : Int32) → hat h 102 (moC v_15 z_16))
  (pr3 : f_token_6 = (4 : Int32) → z_16.1 = nI L18)
  (pr4 : f_token_6 = (4 : Int32) → TxM h B17 L18)
  (pr5 : f_token_6 = (4 : Int32) → f_begin_7 = nI j_19 ∧ j_19 < 2147483648)
  (k1 : f_token_6 = (4 : Int32) → (chM B17 L18 j_19) = x1 → R (some (.int (1 : Int32))) h)
  (k2 : f_token_6 = (4 : Int32) → ¬ (chM B17 L18 j_19) = x1 → R (some (.int (0 : Int32))) h)
  (k3 : ¬ f_token_6 = (4 : Int32) → R (some (.int (0 : Int32))) h)
  : Ev G (d + 1) k n M_Mo_isSign 0 [.ref 102, .int x1] [] h R :=
  Ev.go (pc' := 1) (ls' := [.ref 102, .int x1]) (st' := [.ref 102]) [.aload_n 0] (by decide +kernel) rfl <|
  Ev.getf f_Mo_128 (by decide +kernel) a1 rfl <|
  Ev.go (pc' := 5) (ls' := [.ref 102, .int x1]) (st' := [.int (4 : Int32), .int f_token_6]) [.iconst 4] (by decide +kernel) rfl <|
  Ev.br (i := .if_icmp .ne (19)) (P := f_token_6 = (4 : Int32)) (t := 8) (f := 24) (r := []) (by decide +kernel) rfl (fun c1 =>
    Ev.go (pc' := 10) (ls' := [.ref 102, .int x1]) (st' := [.ref 102, .ref 102]) [.aload_n 0, .aload_n 0] (by decide +kernel) rfl <|
    Ev.getf f_Mo_125 (by decide +kernel) a1 rfl <|
    Ev.cV0 (M' := M_Mo_byteAt) (as := [.int f_begin_7]) (rest := []) l_Mo_122 M_Mo_byteAt_ok M_Mo_byteAt_in M_Mo_byteAt_se (by decide +kernel) ⟨_, a1⟩ rfl rfl rfl (Nat.le_of_ble_eq_true rfl) (Nat.le_of_ble_eq_true rfl) (s_Mo_byteAt (pr2 c1) (pr3 c1) (pr4 c1) (pr5 c1) <| show Ev G (d + 1) _ _ M_Mo_isSign 16 [.ref 102, .int x1] [.int (chM B17 L18 j_19)] h R from
      Ev.go (pc' := 17) (ls' := [.ref 102, .int x1]) (st' := [.int x1, .int (chM B17 L18 j_19)]) [.iload_n 1] (by decide +kernel) rfl <|
      Ev.br (i := .if_icmp .ne (7)) (P := (chM B17 L18 j_19) = x1) (t := 20) (f := 24) (r := []) (by decide +kernel) rfl (fun c2 =>
        Ev.go (pc' := 25) (ls' := [.ref 102, .int x1]) (st' := [.int (1 : Int32)]) [.iconst 1, .goto (4)] (by decide +kernel) rfl <|
        Ev.ret (r := (some (.int (1 : Int32)))) (Or.inl ⟨_, rfl, by decide +kernel, _, rfl, rfl⟩) (k1 c1 c2)
      ) (fun c2 =>
        Ev.go (pc' := 25) (ls' := [.ref 102, .int x1]) (st' := [.int (0 : Int32)]) [.iconst 0] (by decide +kernel) rfl <|
        Ev.ret (r := (some (.int (0 : Int32)))) (Or.inl ⟨_, rfl, by decide +kernel, _, rfl, rfl⟩) (k2 c1 c2)
      )
    )
  ) (fun c1 =>
    Ev.go (pc' := 25) (ls' := [.ref 102, .int x1]) (st' := [.int (0 : Int32)]) [.iconst 0] (by decide +kernel) rfl <|
    Ev.ret (r := (some (.int (0 : Int32)))) (Or.inl ⟨_, rfl, by decide +kernel, _, rfl, rfl⟩) (k3 c1)
  )
theorem b_Mo_rises_0 {G : ev_G} {d k n : Nat} {h : ev_H} {R : Option Value → ev_H → Prop} {f_status_1 : Int32} {f_acts_2 : Int32} {f_marks_3 : Int32} {f_taped_4 : Int32} {f_size_5 : Int32} {f_token_6 : Int32} {f_begin_7 : Int32} {f_end_8 : Int32} {f_faults_9 : Int32} {f_faultPlace_10 : Int32} {f_faultKind_11 : Int32} {f_deep_12 : Int32} {f_value_13 : Int64} {f_broadMany_14 : Int32}
  (a1 : hat h 102 (oC 9 [.ref 103, .int f_status_1, .int f_acts_2, .int f_marks_3, .ref 104, .ref 105, .ref 106, .int f_taped_4, .int f_size_5, .int f_token_6, .int f_begin_7, .int f_end_8, .int f_faults_9, .int f_faultPlace_10, .int f_faultKind_11, .int f_deep_12, .long f_value_13, .ref 107, .ref 108, .ref 109, .ref 116, .int f_broadMany_14, .ref 124, .ref 125]))
  (k1 : R (some (.int (1 : Int32))) (hset h 102 (oC 9 [.ref 103, .int f_status_1, .int f_acts_2, .int f_marks_3, .ref 104, .ref 105, .ref 106, .int f_taped_4, .int f_size_5, .int f_token_6, .int f_begin_7, .int f_end_8, .int f_faults_9, .int f_faultPlace_10, .int f_faultKind_11, .int (f_deep_12 - (1 : Int32)), .long f_value_13, .ref 107, .ref 108, .ref 109, .ref 116, .int f_broadMany_14, .ref 124, .ref 125])))
  : Ev G d k n M_Mo_rises 0 [.ref 102] [] h R :=
  Ev.go (pc' := 2) (ls' := [.ref 102]) (st' := [.ref 102, .ref 102]) [.aload_n 0, .dup] (by decide +kernel) rfl <|
  Ev.getf f_Mo_176 (by decide +kernel) a1 rfl <|
  Ev.go (pc' := 7) (ls' := [.ref 102]) (st' := [.int (f_deep_12 - (1 : Int32)), .ref 102]) [.iconst 1, .isub] (by decide +kernel) rfl <|
  Ev.putf f_Mo_176 (by decide +kernel) a1 (Nat.le_of_ble_eq_true rfl) rfl (fun q => nomatch q) <| show Ev G d _ _ M_Mo_rises 10 [.ref 102] [] (hset h 102 (oC 9 [.ref 103, .int f_status_1, .int f_acts_2, .int f_marks_3, .ref 104, .ref 105, .ref 106, .int f_taped_4, .int f_size_5, .int f_token_6, .int f_begin_7, .int f_end_8, .int f_faults_9, .int f_faultPlace_10, .int f_faultKind_11, .int (f_deep_12 - (1 : Int32)), .long f_value_13, .ref 107, .ref 108, .ref 109, .ref 116, .int f_broadMany_14, .ref 124, .ref 125])) R from
  Ev.go (pc' := 11) (ls' := [.ref 102]) (st' := [.int (1 : Int32)]) [.iconst 1] (by decide +kernel) rfl <|
  Ev.ret (r := (some (.int (1 : Int32)))) (Or.inl ⟨_, rfl, by decide +kernel, _, rfl, rfl⟩) k1
theorem b_Mo_emits_0 {G : ev_G} {d k n : Nat} {h : ev_H} {R : Option Value → ev_H → Prop} {x1 : Int32} {x2 : Int64} {v_1 : MG} {z_2 : MP} {g_3 : Nat → Int64} {j_4 : Nat}
  (pr1 : hat h 102 (moC v_1 z_2))
  (pr2 : hat h 103 (aL 9758 g_3))
  (pr3 : ev_ix (3 : Int32) j_4 9758)
  (r4 : ∃ fs, hat h 102 (oC 9 fs))
  (k1 : Ev G d 0 0 M_Mo_puts 0 [.ref 102, .int ((74 : Int32) + (g_3 j_4).toInt32), .long ((x2 <<< ((4 : Int32).toInt64 &&& 63)) ||| x1.toInt64), ev_unk] [] h (fun r h1 => Ev G (d + 1) k n M_Mo_emits 19 [.ref 102, .int x1, .long x2, ev_unk] (r.toList ++ []) h1 R))
  : Ev G (d + 1) k n M_Mo_emits 0 [.ref 102, .int x1, .long x2, ev_unk] [] h R :=
  Ev.go (pc' := 5) (ls' := [.ref 102, .int x1, .long x2, ev_unk]) (st' := [.int (3 : Int32), .ref 102, .int (74 : Int32), .ref 102]) [.aload_n 0, .bipush (74), .aload_n 0, .iconst 3] (by decide +kernel) rfl <|
  Ev.cV0 (M' := M_Mo_of) (as := [.int (3 : Int32)]) (rest := [.int (74 : Int32), .ref 102]) l_Mo_64 M_Mo_of_ok M_Mo_of_in M_Mo_of_se (by decide +kernel) r4 rfl rfl rfl (Nat.le_of_ble_eq_true rfl) (Nat.le_of_ble_eq_true rfl) (s_Mo_of pr1 pr2 pr3 <| show Ev G (d + 1) _ _ M_Mo_emits 8 [.ref 102, .int x1, .long x2, ev_unk] [.long (g_3 j_4), .int (74 : Int32), .ref 102] h R from
    Ev.go (pc' := 16) (ls' := [.ref 102, .int x1, .long x2, ev_unk]) (st' := [.long ((x2 <<< ((4 : Int32).toInt64 &&& 63)) ||| x1.toInt64), .int ((74 : Int32) + (g_3 j_4).toInt32), .ref 102]) [.l2i, .iadd, .lload_n 2, .iconst 4, .lshl, .iload_n 1, .i2l, .lor] (by decide +kernel) rfl <|
    Ev.cV0 (M' := M_Mo_puts) (as := [.int ((74 : Int32) + (g_3 j_4).toInt32), .long ((x2 <<< ((4 : Int32).toInt64 &&& 63)) ||| x1.toInt64)]) (rest := []) l_Mo_60 M_Mo_puts_ok M_Mo_puts_in M_Mo_puts_se (by decide +kernel) r4 rfl rfl rfl (Nat.le_of_ble_eq_true rfl) (Nat.le_of_ble_eq_true rfl) k1
  )
theorem b_Mo_emits_19 {G : ev_G} {d k n : Nat} {h : ev_H} {R : Option Value → ev_H → Prop} {x1 : Int32} {x2 : Int64} {f_status_1 : Int32} {f_acts_2 : Int32} {f_marks_3 : Int32} {f_taped_4 : Int32} {f_size_5 : Int32} {f_token_6 : Int32} {f_begin_7 : Int32} {f_end_8 : Int32} {f_faults_9 : Int32} {f_faultPlace_10 : Int32} {f_faultKind_11 : Int32} {f_deep_12 : Int32} {f_value_13 : Int64} {f_broadMany_14 : Int32} {g15 : Nat → Int64}
  (a1 : hat h 102 (oC 9 [.ref 103, .int f_status_1, .int f_acts_2, .int f_marks_3, .ref 104, .ref 105, .ref 106, .int f_taped_4, .int f_size_5, .int f_token_6, .int f_begin_7, .int f_end_8, .int f_faults_9, .int f_faultPlace_10, .int f_faultKind_11, .int f_deep_12, .long f_value_13, .ref 107, .ref 108, .ref 109, .ref 116, .int f_broadMany_14, .ref 124, .ref 125]))
  (a2 : hat h 103 (aL 9758 g15))
  (k1 : R none (hset h 103 (aL 9758 (vp_updL g15 3 ((g15 3) + (1 : Int64))))))
  : Ev G (d + 1) k n M_Mo_emits 19 [.ref 102, .int x1, .long x2, ev_unk] [] h R :=
  Ev.go (pc' := 20) (ls' := [.ref 102, .int x1, .long x2, ev_unk]) (st' := [.ref 102]) [.aload_n 0] (by decide +kernel) rfl <|
  Ev.getf f_Mo_7 (by decide +kernel) a1 rfl <|
  Ev.go (pc' := 25) (ls' := [.ref 102, .int x1, .long x2, ev_unk]) (st' := [.int (3 : Int32), .ref 103, .int (3 : Int32), .ref 103]) [.iconst 3, .dup2] (by decide +kernel) rfl <|
  Ev.lald (j := 3) (by decide +kernel) a2 ⟨rfl, by decide, by decide⟩ <|
  Ev.go (pc' := 28) (ls' := [.ref 102, .int x1, .long x2, ev_unk]) (st' := [.long ((g15 3) + (1 : Int64)), .int (3 : Int32), .ref 103]) [.lconst 1, .ladd] (by decide +kernel) rfl <|
  Ev.last (j := 3) (by decide +kernel) a2 ⟨rfl, by decide, by decide⟩ <| show Ev G (d + 1) _ _ M_Mo_emits 29 [.ref 102, .int x1, .long x2, ev_unk] [] (hset h 103 (aL 9758 (vp_updL g15 3 ((g15 3) + (1 : Int64))))) R from
  Ev.ret (r := none) (Or.inr (Or.inr (Or.inl ⟨rfl, by decide +kernel, rfl⟩))) k1
theorem kd_1 (k : Nat) : kdM k = 1 ↔ k = 1 := by unfold kdM; split; omega; split; omega; split; omega; split <;> omega
theorem kd_2 (k : Nat) : kdM k = 2 ↔ k = 97 := by unfold kdM; split; omega; split; omega; split; omega; split <;> omega
theorem kd_3 (k : Nat) : kdM k = 3 ↔ k = 48 := by unfold kdM; split; omega; split; omega; split; omega; split <;> omega
theorem kd_4 (k : Nat) : kdM k = 4 ↔ k ≠ 0 ∧ k ≠ 1 ∧ k ≠ 97 ∧ k ≠ 48 := by unfold kdM; split; omega; split; omega; split; omega; split <;> omega
theorem kd_0 (k : Nat) : kdM k = 0 ↔ k = 0 := by unfold kdM; split; omega; split; omega; split; omega; split <;> omega
theorem kd_le (k : Nat) : kdM k ≤ 4 := by unfold kdM; split; omega; split; omega; split; omega; split <;> omega
theorem kd_I {k c : Nat} (hc : c ≤ 4) : nI (kdM k) = nI c ↔ kdM k = c := nI_eq (by have := kd_le k; omega) (by omega)
theorem kw_f : ∀ m, m < 13 → kwL m < 15 ∧ kwS (m + 1) = kwS m + ev_len.getD (kwL m) 0 + 1 ∧ kwS m + ev_len.getD (kwL m) 0 < ev_len.getD 14 0 ∧ ev_chr 14 (kwS m + ev_len.getD (kwL m) 0) = 32 ∧ ∀ j, j < ev_len.getD (kwL m) 0 → ev_chr 14 (kwS m + j) = ev_chr (kwL m) j ∧ ¬ ev_chr 14 (kwS m + j) = 32 := by decide +kernel
theorem kw_14 : kwS 13 = ev_len.getD 14 0 ∧ ev_len.getD 14 0 < 100 := by decide +kernel
theorem kw_one : ∀ m, m < 13 → ∀ m', m' < 13 → m ≠ m' → ¬ (ev_len.getD (kwL m) 0 = ev_len.getD (kwL m') 0 ∧ ∀ j, j < ev_len.getD (kwL m) 0 → chN (kwL m) j = chN (kwL m') j) := by decide +kernel
theorem ke_eq {B : Nat → Nat} {T : Tk} {m : Nat} (hm : m < 13) : keM B T = nI m ↔ wdB B T (kwL m) = true := by
  unfold keM frI
  constructor
  · intro h
    by_cases c : fst (fun m => wdB B T (kwL m)) 13 < 13
    · rw [if_pos c] at h
      have e := (nI_eq (by omega) (by omega)).mp h
      have y := fst_yes _ _ c
      rw [e] at y; exact y
    · rw [if_neg c] at h
      exact absurd h.symm (nI_m1 (by omega))
  · intro h
    have le : fst (fun m => wdB B T (kwL m)) 13 ≤ m := Nat.le_of_not_lt fun z => by
      have := fst_no (fun m => wdB B T (kwL m)) 13 m z
      rw [h] at this; cases this
    have y : wdB B T (kwL (fst (fun m => wdB B T (kwL m)) 13)) = true := fst_yes (fun m => wdB B T (kwL m)) 13 (by omega)
    rw [if_pos (by omega)]
    by_cases e : fst (fun m => wdB B T (kwL m)) 13 = m
    · rw [e]
    · have w1 := wd_f h
      have w2 := wd_f y
      refine absurd ⟨by omega, fun j hj => ?_⟩ (kw_one _ (by omega) m hm e)
      rw [← w1.2.2 j (by omega), ← w2.2.2 j hj]
section S70
variable {G : ev_G} {d : Nat} {h : ev_H} {R : Option Value → ev_H → Prop} {B : Nat → Nat} {L : Nat} {v : MG} {T : Tk} {dp : Int32} {y : Int64}
theorem s_Mo_key_0 (m1 : hat h 102 (moC v (pzM L T dp y))) (X : TxM h B L) (HT : TkOk B L T) (hR : R (some (.int (keM B T))) h) : Ev G (d + 4) 0 0 M_Mo_key_0 0 [.ref 102, ev_unk, ev_unk, ev_unk, ev_unk, ev_unk] [] h R := by
  have hL := X.1
  have hle := HT.2.1
  have hleL := HT.2.2.1
  obtain ⟨k13, k14⟩ := kw_14
  refine b_Mo_key_0_0 m1 (fun c => ?_) (fun c => ?_)
  · have c : nI (kdM T.1) = nI 2 := c
    rw [kd_I (by omega), kd_2] at c
    refine up0 (P := fun m => (∀ m', m' < m → wdB B T (kwL m') = false) → Ev G (d + 4) 0 0 M_Mo_key_0 14 [.ref 102, .int (nI m), .int (nI (kwS m)), ev_unk, ev_unk, ev_unk] [] h R) 13 ?_ ?_ (fun m' hm' => absurd hm' (Nat.not_lt_zero m'))
    · intro m hm ih hno
      obtain ⟨f1, f2, f3, f4, f5⟩ := kw_f m hm
      have hl := ev_len_lt f1
      revert f2 f3 f4 f5 hl
      generalize el : ev_len.getD (kwL m) 0 = len
      intro f2 f3 f4 f5 hl
      have nxt : wdB B T (kwL m) = false → ∀ x5, Ev G (d + 4) 0 0 M_Mo_key_0 67 [.ref 102, .int (nI m), .int (nI (kwS m)), .int (nI (kwS m + len)), .int 0, .int x5] [] h R := by
        intro w x5
        have go : Ev G (d + 4) 0 0 M_Mo_key_0 14 [.ref 102, .int (nI m + 1), .int (nI (kwS m + len) + 1), ev_unk, ev_unk, ev_unk] [] h R := by
          rw [nI_1, nI_1, ← f2]
          refine ih fun m' hm' => ?_
          by_cases e : m' = m
          · subst e; exact w
          · exact hno m' (by omega)
        exact b_Mo_key_0_67 (j1 := 0) (j_20 := 0) (v_16 := v) (z_17 := pzM L T dp y) (B18 := B) (L19 := L) m1 (fun _ k => absurd rfl k) (fun _ k => absurd rfl k) (fun _ k => absurd rfl k) (fun _ k => absurd rfl k) (fun _ k => absurd rfl k) (fun _ _ _ => go) (fun _ k k2 => absurd k k2) (fun _ k => absurd rfl k) (fun _ k => absurd rfl k) (fun _ _ => go) (fun _ k => absurd rfl k)
      refine b_Mo_key_0_14 (fun _ => ?_) (fun k => absurd (nI_lt (by omega) (by omega)) k)
      have Q := up0 (P := fun j => Ev G (d + 4) 0 0 M_Mo_key_0 25 [.ref 102, .int (nI m), .int (nI (kwS m)), .int (nI (kwS m + j)), ev_unk, ev_unk] [] h R) len ?_ ?_
      · exact Q
      · intro j hj ihj
        obtain ⟨g1, g2⟩ := f5 j hj
        refine b_Mo_key_0_25 (j1 := kwS m + j) m1 (ixn (by omega) (by omega)) (fun k => absurd k g2) (fun k => absurd k g2) (fun _ => ?_)
        rw [nI_1]; exact ihj
      · refine b_Mo_key_0_25 (j1 := kwS m + len) m1 (ixn (by omega) (by omega)) (fun _ k => ?_) (fun _ k => ?_) (fun k => absurd f4 k)
        · have k : nI (kwS m + len) - nI (kwS m) = nI T.2.2 - nI T.2.1 := k
          rw [nI_sub (by omega), nI_sub hle, nI_eq (by omega) (by omega), Nat.add_sub_cancel_left] at k
          have I := up0 (P := fun i => (∀ q, q < i → B (T.2.1 + q) = chN (kwL m) q) → Ev G (d + 4) 0 0 M_Mo_key_0 67 [.ref 102, .int (nI m), .int (nI (kwS m)), .int (nI (kwS m + len)), .int 1, .int (nI i)] [] h R) len ?_ ?_
          · exact I fun q hq => absurd hq (Nat.not_lt_zero q)
          · intro i hi ihi hq
            have yes : nI i < nI (kwS m + len) - nI (kwS m) := by rw [nI_sub (by omega), Nat.add_sub_cancel_left]; exact nI_lt hi (by omega)
            have ix : nI (kwS m) + nI i = nI (kwS m + i) := nI_add _ _
            have ix2 : nI T.2.1 + nI i = nI (T.2.1 + i) := nI_add _ _
            obtain ⟨g1, g2⟩ := f5 i hi
            obtain ⟨e1, e2⟩ := chr_ok (kwL m) f1 i (by omega)
            have ec : ev_chr 14 (kwS m + i) = chM B L (T.2.1 + i) ↔ B (T.2.1 + i) = chN (kwL m) i := by
              rw [g1, e1]
              constructor
              · intro z
                exact ((ch_eq (fun q => X.b q) (by omega)).mp z.symm).2
              · intro z
                exact ((ch_eq (fun q => X.b q) (by omega)).mpr ⟨by omega, z⟩).symm
            refine b_Mo_key_0_67 (j1 := kwS m + i) m1 (fun _ _ => ⟨ix, by omega, by omega⟩) (fun _ _ => m1) (fun _ _ => rfl) (fun _ _ => X) (fun _ _ => ⟨ix2, by omega⟩) (fun _ k => absurd k (by decide)) (fun _ k => absurd k (by decide)) (fun _ _ k => ?_) (fun _ _ k => ?_) (fun k => absurd yes k) (fun k => absurd yes k)
            · rw [nI_1]
              refine ihi fun q hqi => ?_
              by_cases e : q = i
              · subst e; exact ec.mp k
              · exact hq q (by omega)
            · refine nxt ?_ _
              cases w : wdB B T (kwL m)
              · rfl
              · exact absurd (ec.mpr ((wd_f w).2.2 i (by omega))) k
          · intro hq
            have no : ¬ nI len < nI (kwS m + len) - nI (kwS m) := by rw [nI_sub (by omega), Nat.add_sub_cancel_left]; exact nl_self (by omega)
            refine b_Mo_key_0_67 (j1 := 0) (j_20 := 0) (v_16 := v) (z_17 := pzM L T dp y) (B18 := B) (L19 := L) m1 (fun k => absurd k no) (fun k => absurd k no) (fun k => absurd k no) (fun k => absurd k no) (fun k => absurd k no) (fun k => absurd k no) (fun k => absurd k no) (fun k => absurd k no) (fun k => absurd k no) (fun _ k => absurd k (by decide)) (fun _ _ => ?_)
            have w : wdB B T (kwL m) = true := decide_eq_true ⟨c, by omega, fun j hj => hq j (by omega)⟩
            rw [(ke_eq hm).mpr w] at hR
            exact hR
        · have k : ¬ nI (kwS m + len) - nI (kwS m) = nI T.2.2 - nI T.2.1 := k
          rw [nI_sub (by omega), nI_sub hle, nI_eq (by omega) (by omega), Nat.add_sub_cancel_left] at k
          refine nxt ?_ _
          cases w : wdB B T (kwL m)
          · rfl
          · have := (wd_f w).2.1; omega
    · intro hno
      refine b_Mo_key_0_14 (fun k => ?_) (fun _ => ?_)
      · rw [k13] at k
        exact absurd k (nl_self (by omega))
      · have : keM B T = -1 := by
          unfold keM frI
          rw [fst_none (p := fun m => wdB B T (kwL m)) (n := 13) hno, if_neg (Nat.lt_irrefl _)]
        rw [this] at hR; exact hR
  · have c : ¬ nI (kdM T.1) = nI 2 := c
    rw [kd_I (by omega), kd_2] at c
    have : keM B T = -1 := by
      unfold keM frI
      rw [fst_none (p := fun m => wdB B T (kwL m)) (n := 13) (fun j hj => by
        cases w : wdB B T (kwL j)
        · rfl
        · exact absurd (wd_f w).1 c), if_neg (Nat.lt_irrefl _)]
    rw [this] at hR; exact hR
theorem s_Mo_fails {k : Nat} {x : Int32} (m1 : hat h 102 (moC v (pzM L T dp y))) (hk : x = nI k) (hR : R (some (.int (0 : Int32))) (hset h 102 (bdC v L T k dp y))) : Ev G d 0 0 M_Mo_fails 0 [.ref 102, .int x] [] h R := by
  subst hk
  unfold bdC at hR
  refine b_Mo_fails_0 m1 (fun _ c => ?_) (fun _ c => ?_) (fun c => absurd rfl c)
  · have c : nI (kdM T.1) = nI 1 := c
    rw [kd_I (by omega), kd_1] at c
    rw [if_pos c] at hR
    rw [hset_hset]; exact hR
  · have c : ¬ nI (kdM T.1) = nI 1 := c
    rw [kd_I (by omega), kd_1] at c
    rw [if_neg c] at hR
    rw [hset_hset]; exact hR
theorem s_Mo_isSign {c : Nat} {x : Int32} (m1 : hat h 102 (moC v (pzM L T dp y))) (X : TxM h B L) (HT : TkOk B L T) (hc : x = nI c ∧ sgnB c = true) (hR : R (some (.int (b2i (decide (T.1 = c))))) h) : Ev G (d + 1) 0 0 M_Mo_isSign 0 [.ref 102, .int x] [] h R := by
  obtain ⟨rfl, sc⟩ := hc
  have hL := X.1
  have hs := of_decide_eq_true sc
  have u : nI (kdM T.1) = 4 ↔ T.1 ≠ 0 ∧ T.1 ≠ 1 ∧ T.1 ≠ 97 ∧ T.1 ≠ 48 := by rw [show (4 : Int32) = nI 4 from rfl, kd_I (by omega), kd_4]
  have ec : ∀ q : nI (kdM T.1) = 4, chM B L T.2.1 = nI c ↔ T.1 = c := fun q => by
    have q := u.mp q
    have s1 := HT.2.2.2.2.2.2.2.2 q.1 q.2.1 q.2.2.1 q.2.2.2
    obtain ⟨s2, s3⟩ := HT.2.2.2.2.2.2.1 s1
    have l1 := HT.2.2.1
    rw [ch_eq (fun q => X.b q) (by omega), s3]
    exact ⟨fun z => z.2, fun z => ⟨by omega, z⟩⟩
  refine b_Mo_isSign_0 m1 (fun _ => m1) (fun _ => rfl) (fun _ => X) (fun _ => ⟨rfl, by have := HT.2.1; have := HT.2.2.1; show T.2.1 < _; omega⟩) (fun q k => ?_) (fun q k => ?_) (fun q => ?_)
  · rw [decide_eq_true ((ec q).mp k)] at hR; exact hR
  · rw [decide_eq_false (fun z => k ((ec q).mpr z))] at hR; exact hR
  · have q : ¬ nI (kdM T.1) = 4 := q
    rw [decide_eq_false (fun z => q (u.mpr (by omega)))] at hR; exact hR
theorem s_Mo_rises (m1 : hat h 102 (moC v (pzM L T dp y))) (hR : R (some (.int (1 : Int32))) (hset h 102 (moC v (pzM L T (dp - 1) y)))) : Ev G d 0 0 M_Mo_rises 0 [.ref 102] [] h R := b_Mo_rises_0 m1 hR
theorem s_Mo_emits {z : MP} {g : Nat → Int64} {t : Nat} {w : Int32} {m : Int64} (m1 : hat h 102 (moC v z)) (m2 : hat h 103 (aL 9758 g)) (e : g 3 = lN t ∧ t < 500) (hR : R none (hset h 103 (aL 9758 (emF g t w m)))) : Ev G (d + 1) 0 0 M_Mo_emits 0 [.ref 102, .int w, .long m, ev_unk] [] h R := by
  obtain ⟨e, ht⟩ := e
  refine b_Mo_emits_0 m1 m2 (ixn (j := 3) (by omega) (by omega)) ⟨_, m1⟩ ?_
  rw [e, lN_i]
  refine s_Mo_puts (j := 74 + t) m1 m2 ⟨nI_add 74 t, by omega, by omega⟩ ?_
  refine b_Mo_emits_19 (hat_ne m1 (by omega)) (hat_set m2) ?_
  rw [hset_hset]
  have : vp_updL g (74 + t) ((m <<< ((4 : Int32).toInt64 &&& 63)) ||| w.toInt64) 3 = lN t := (if_neg (by omega)).trans e
  rw [this, lN_1]
  exact hR
theorem s_ahT (m1 : hat h 102 (moC v (pzM L T dp y))) (X : TxM h B L) (he : T.2.2 ≤ L) (hR : R none (hset h 102 (moC v (pzM L (nx B L T) dp y)))) : Ev G (d + 1) 0 0 M_Mo_ahead 0 [.ref 102, ev_unk] [] h R := s_Mo_ahead m1 rfl X rfl he hR
end S70
