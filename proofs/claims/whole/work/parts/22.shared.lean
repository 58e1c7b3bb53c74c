/-! WHAT THE CALLS SHARE -/
theorem b_X_leastOf_0 {G : ev_G} {d k n : Nat} {h : ev_H} {R : Option Value → ev_H → Prop} {x0 : Int32}
  (k1 : Ev G (d + 1) k n M_X_leastOf 2 [.int x0, .int (0 : Int32)] [] h R)
  : Ev G (d + 1) k n M_X_leastOf 0 [.int x0, ev_unk] [] h R :=
  Ev.go (pc' := 2) (ls' := [.int x0, .int (0 : Int32)]) (st' := []) [.iconst 0, .istore_n 1] (by decide +kernel) rfl <|
  k1
theorem b_X_leastOf_2 {G : ev_G} {d k n : Nat} {h : ev_H} {R : Option Value → ev_H → Prop} {x0 : Int32} {x1 : Int32}
  (k1 : x1 < (32 : Int32) → (b2i (inI x0 x1)) = (0 : Int32) → Ev G (d + 1) k n M_X_leastOf 2 [.int x0, .int (x1 + (1 : Int32))] [] h R)
  (k2 : x1 < (32 : Int32) → ¬ (b2i (inI x0 x1)) = (0 : Int32) → R (some (.int x1)) h)
  (k3 : ¬ x1 < (32 : Int32) → R (some (.int (-1 : Int32))) h)
  : Ev G (d + 1) k n M_X_leastOf 2 [.int x0, .int x1] [] h R :=
  Ev.go (pc' := 5) (ls' := [.int x0, .int x1]) (st' := [.int (32 : Int32), .int x1]) [.iload_n 1, .bipush (32)] (by decide +kernel) rfl <|
  Ev.br (i := .if_icmp .ge (19)) (P := x1 < (32 : Int32)) (t := 8) (f := 24) (r := []) (by decide +kernel) rfl (fun c1 =>
    Ev.go (pc' := 10) (ls' := [.int x0, .int x1]) (st' := [.int x1, .int x0]) [.iload_n 0, .iload_n 1] (by decide +kernel) rfl <|
    Ev.cS0 (M' := M_X_isIn) (as := [.int x0, .int x1]) (rest := []) l_X_238 M_X_isIn_ok M_X_isIn_st (by decide +kernel) rfl rfl (Nat.le_of_ble_eq_true rfl) (Nat.le_of_ble_eq_true rfl) (s_X_isIn <| show Ev G (d + 1) _ _ M_X_leastOf 13 [.int x0, .int x1] [.int (b2i (inI x0 x1))] h R from
      Ev.br (i := .ifCond .eq (5)) (P := (b2i (inI x0 x1)) = (0 : Int32)) (t := 18) (f := 16) (r := []) (by decide +kernel) rfl (fun c2 =>
        Ev.go (pc' := 2) (ls' := [.int x0, .int (x1 + (1 : Int32))]) (st' := []) [.iinc 1 (1), .goto (-19)] (by decide +kernel) rfl <|
        (k1 c1 c2)
      ) (fun c2 =>
        Ev.go (pc' := 17) (ls' := [.int x0, .int x1]) (st' := [.int x1]) [.iload_n 1] (by decide +kernel) rfl <|
        Ev.ret (r := (some (.int x1))) (Or.inl ⟨_, rfl, by decide +kernel, _, rfl, rfl⟩) (k2 c1 c2)
      )
    )
  ) (fun c1 =>
    Ev.go (pc' := 25) (ls' := [.int x0, .int x1]) (st' := [.int (-1 : Int32)]) [.iconst (-1)] (by decide +kernel) rfl <|
    Ev.ret (r := (some (.int (-1 : Int32)))) (Or.inl ⟨_, rfl, by decide +kernel, _, rfl, rfl⟩) (k3 c1)
  )
theorem b_X_reachOf_0 {G : ev_G} {d k n : Nat} {h : ev_H} {R : Option Value → ev_H → Prop} {x0 : Int64}
  (k1 : Ev G (d + 1) k n M_X_reachOf 9 [.long x0, ev_unk, .int (48 : Int32), .int (47 : Int32), .int (0 : Int32)] [] h R)
  : Ev G (d + 1) k n M_X_reachOf 0 [.long x0, ev_unk, ev_unk, ev_unk, ev_unk] [] h R :=
  Ev.go (pc' := 9) (ls' := [.long x0, ev_unk, .int (48 : Int32), .int (47 : Int32), .int (0 : Int32)]) (st' := []) [.bipush (48), .istore_n 2, .bipush (47), .istore_n 3, .iconst 0, .istore 4] (by decide +kernel) rfl <|
  k1
theorem b_X_reachOf_9 {G : ev_G} {d k n : Nat} {h : ev_H} {R : Option Value → ev_H → Prop} {x0 : Int64} {x2 : Int32} {x3 : Int32} {x4 : Int32}
  (k1 : x4 < (48 : Int32) → (b2i (tbL x0 x4)) = (1 : Int32) → Ev G (d + 1) k n M_X_reachOf 9 [.long x0, ev_unk, .int (if x4 < x2 then x4 else x2), .int x4, .int (x4 + (1 : Int32))] [] h R)
  (k2 : x4 < (48 : Int32) → ¬ (b2i (tbL x0 x4)) = (1 : Int32) → Ev G (d + 1) k n M_X_reachOf 9 [.long x0, ev_unk, .int x2, .int x3, .int (x4 + (1 : Int32))] [] h R)
  (k3 : ¬ x4 < (48 : Int32) → R (some (.int ((x3 - x2) + (1 : Int32)))) h)
  : Ev G (d + 1) k n M_X_reachOf 9 [.long x0, ev_unk, .int x2, .int x3, .int x4] [] h R :=
  Ev.go (pc' := 13) (ls' := [.long x0, ev_unk, .int x2, .int x3, .int x4]) (st' := [.int (48 : Int32), .int x4]) [.iload 4, .bipush (48)] (by decide +kernel) rfl <|
  Ev.br (i := .if_icmp .ge (29)) (P := x4 < (48 : Int32)) (t := 16) (f := 42) (r := []) (by decide +kernel) rfl (fun c1 =>
    Ev.go (pc' := 19) (ls' := [.long x0, ev_unk, .int x2, .int x3, .int x4]) (st' := [.int x4, .long x0]) [.lload_n 0, .iload 4] (by decide +kernel) rfl <|
    Ev.cS0 (M' := M_X_bitOf) (as := [.long x0, .int x4]) (rest := []) l_X_170 M_X_bitOf_ok M_X_bitOf_st (by decide +kernel) rfl rfl (Nat.le_of_ble_eq_true rfl) (Nat.le_of_ble_eq_true rfl) (s_X_bitOf <| show Ev G (d + 1) _ _ M_X_reachOf 22 [.long x0, ev_unk, .int x2, .int x3, .int x4] [.int (b2i (tbL x0 x4))] h R from
      Ev.go (pc' := 23) (ls' := [.long x0, ev_unk, .int x2, .int x3, .int x4]) (st' := [.int (1 : Int32), .int (b2i (tbL x0 x4))]) [.iconst 1] (by decide +kernel) rfl <|
      Ev.br (i := .if_icmp .ne (13)) (P := (b2i (tbL x0 x4)) = (1 : Int32)) (t := 26) (f := 36) (r := []) (by decide +kernel) rfl (fun c2 =>
        Ev.go (pc' := 29) (ls' := [.long x0, ev_unk, .int x2, .int x3, .int x4]) (st' := [.int x4, .int x2]) [.iload_n 2, .iload 4] (by decide +kernel) rfl <|
        Ev.mmin lL_X_298 w_minS w_mathI w_minC (Nat.le_of_ble_eq_true rfl) (by decide +kernel) <|
        Ev.go (pc' := 9) (ls' := [.long x0, ev_unk, .int (if x4 < x2 then x4 else x2), .int x4, .int (x4 + (1 : Int32))]) (st' := []) [.istore_n 2, .iload 4, .istore_n 3, .iinc 4 (1), .goto (-30)] (by decide +kernel) rfl <|
        (k1 c1 c2)
      ) (fun c2 =>
        Ev.go (pc' := 9) (ls' := [.long x0, ev_unk, .int x2, .int x3, .int (x4 + (1 : Int32))]) (st' := []) [.iinc 4 (1), .goto (-30)] (by decide +kernel) rfl <|
        (k2 c1 c2)
      )
    )
  ) (fun c1 =>
    Ev.go (pc' := 47) (ls' := [.long x0, ev_unk, .int x2, .int x3, .int x4]) (st' := [.int ((x3 - x2) + (1 : Int32))]) [.iload_n 3, .iload_n 2, .isub, .iconst 1, .iadd] (by decide +kernel) rfl <|
    Ev.ret (r := (some (.int ((x3 - x2) + (1 : Int32))))) (Or.inl ⟨_, rfl, by decide +kernel, _, rfl, rfl⟩) (k3 c1)
  )
theorem b_X_longestRun_0 {G : ev_G} {d k n : Nat} {h : ev_H} {R : Option Value → ev_H → Prop} {x0 : Int64}
  (k1 : Ev G (d + 1) k n M_X_longestRun 7 [.long x0, ev_unk, .int (0 : Int32), .int (0 : Int32), .int (0 : Int32)] [] h R)
  : Ev G (d + 1) k n M_X_longestRun 0 [.long x0, ev_unk, ev_unk, ev_unk, ev_unk] [] h R :=
  Ev.go (pc' := 7) (ls' := [.long x0, ev_unk, .int (0 : Int32), .int (0 : Int32), .int (0 : Int32)]) (st' := []) [.iconst 0, .istore_n 2, .iconst 0, .istore_n 3, .iconst 0, .istore 4] (by decide +kernel) rfl <|
  k1
theorem b_X_longestRun_7 {G : ev_G} {d k n : Nat} {h : ev_H} {R : Option Value → ev_H → Prop} {x0 : Int64} {x2 : Int32} {x3 : Int32} {x4 : Int32}
  (k1 : x4 < (48 : Int32) → (b2i (tbL x0 x4)) = (1 : Int32) → Ev G (d + 1) k n M_X_longestRun 7 [.long x0, ev_unk, .int (if x2 < (x3 + (1 : Int32)) then (x3 + (1 : Int32)) else x2), .int (x3 + (1 : Int32)), .int (x4 + (1 : Int32))] [] h R)
  (k2 : x4 < (48 : Int32) → ¬ (b2i (tbL x0 x4)) = (1 : Int32) → Ev G (d + 1) k n M_X_longestRun 7 [.long x0, ev_unk, .int (if x2 < (0 : Int32) then (0 : Int32) else x2), .int (0 : Int32), .int (x4 + (1 : Int32))] [] h R)
  (k3 : ¬ x4 < (48 : Int32) → R (some (.int x2)) h)
  : Ev G (d + 1) k n M_X_longestRun 7 [.long x0, ev_unk, .int x2, .int x3, .int x4] [] h R :=
  Ev.go (pc' := 11) (ls' := [.long x0, ev_unk, .int x2, .int x3, .int x4]) (st' := [.int (48 : Int32), .int x4]) [.iload 4, .bipush (48)] (by decide +kernel) rfl <|
  Ev.br (i := .if_icmp .ge (33)) (P := x4 < (48 : Int32)) (t := 14) (f := 44) (r := []) (by decide +kernel) rfl (fun c1 =>
    Ev.go (pc' := 17) (ls' := [.long x0, ev_unk, .int x2, .int x3, .int x4]) (st' := [.int x4, .long x0]) [.lload_n 0, .iload 4] (by decide +kernel) rfl <|
    Ev.cS0 (M' := M_X_bitOf) (as := [.long x0, .int x4]) (rest := []) l_X_170 M_X_bitOf_ok M_X_bitOf_st (by decide +kernel) rfl rfl (Nat.le_of_ble_eq_true rfl) (Nat.le_of_ble_eq_true rfl) (s_X_bitOf <| show Ev G (d + 1) _ _ M_X_longestRun 20 [.long x0, ev_unk, .int x2, .int x3, .int x4] [.int (b2i (tbL x0 x4))] h R from
      Ev.go (pc' := 21) (ls' := [.long x0, ev_unk, .int x2, .int x3, .int x4]) (st' := [.int (1 : Int32), .int (b2i (tbL x0 x4))]) [.iconst 1] (by decide +kernel) rfl <|
      Ev.br (i := .if_icmp .ne (9)) (P := (b2i (tbL x0 x4)) = (1 : Int32)) (t := 24) (f := 30) (r := []) (by decide +kernel) rfl (fun c2 =>
        Ev.go (pc' := 34) (ls' := [.long x0, ev_unk, .int x2, .int (x3 + (1 : Int32)), .int x4]) (st' := [.int (x3 + (1 : Int32)), .int x2]) [.iload_n 3, .iconst 1, .iadd, .goto (4), .istore_n 3, .iload_n 2, .iload_n 3] (by decide +kernel) rfl <|
        Ev.mmax lL_X_277 w_maxS w_mathI w_maxC (Nat.le_of_ble_eq_true rfl) (by decide +kernel) <|
        Ev.go (pc' := 7) (ls' := [.long x0, ev_unk, .int (if x2 < (x3 + (1 : Int32)) then (x3 + (1 : Int32)) else x2), .int (x3 + (1 : Int32)), .int (x4 + (1 : Int32))]) (st' := []) [.istore_n 2, .iinc 4 (1), .goto (-34)] (by decide +kernel) rfl <|
        (k1 c1 c2)
      ) (fun c2 =>
        Ev.go (pc' := 34) (ls' := [.long x0, ev_unk, .int x2, .int (0 : Int32), .int x4]) (st' := [.int (0 : Int32), .int x2]) [.iconst 0, .istore_n 3, .iload_n 2, .iload_n 3] (by decide +kernel) rfl <|
        Ev.mmax lL_X_277 w_maxS w_mathI w_maxC (Nat.le_of_ble_eq_true rfl) (by decide +kernel) <|
        Ev.go (pc' := 7) (ls' := [.long x0, ev_unk, .int (if x2 < (0 : Int32) then (0 : Int32) else x2), .int (0 : Int32), .int (x4 + (1 : Int32))]) (st' := []) [.istore_n 2, .iinc 4 (1), .goto (-34)] (by decide +kernel) rfl <|
        (k2 c1 c2)
      )
    )
  ) (fun c1 =>
    Ev.go (pc' := 45) (ls' := [.long x0, ev_unk, .int x2, .int x3, .int x4]) (st' := [.int x2]) [.iload_n 2] (by decide +kernel) rfl <|
    Ev.ret (r := (some (.int x2))) (Or.inl ⟨_, rfl, by decide +kernel, _, rfl, rfl⟩) (k3 c1)
  )
theorem b_X_ofPacked_0 {G : ev_G} {d k n : Nat} {h : ev_H} {R : Option Value → ev_H → Prop} {x0 : Int32} {x1 : Int32}
  (k1 : x1 = (2 : Int32) → R (some (.int (x0 >>> ((10 : Int32) &&& 31)))) h)
  (k2 : ¬ x1 = (2 : Int32) → x1 = (0 : Int32) → R (some (.int ((x0 >>> ((5 : Int32) &&& 31)) &&& (31 : Int32)))) h)
  (k3 : ¬ x1 = (2 : Int32) → ¬ x1 = (0 : Int32) → R (some (.int (x0 &&& (31 : Int32)))) h)
  : Ev G d k n M_X_ofPacked 0 [.int x0, .int x1] [] h R :=
  Ev.go (pc' := 2) (ls' := [.int x0, .int x1]) (st' := [.int (2 : Int32), .int x1]) [.iload_n 1, .iconst 2] (by decide +kernel) rfl <|
  Ev.br (i := .if_icmp .ne (8)) (P := x1 = (2 : Int32)) (t := 5) (f := 10) (r := []) (by decide +kernel) rfl (fun c1 =>
    Ev.go (pc' := 9) (ls' := [.int x0, .int x1]) (st' := [.int (x0 >>> ((10 : Int32) &&& 31))]) [.iload_n 0, .bipush (10), .ishr] (by decide +kernel) rfl <|
    Ev.ret (r := (some (.int (x0 >>> ((10 : Int32) &&& 31))))) (Or.inl ⟨_, rfl, by decide +kernel, _, rfl, rfl⟩) (k1 c1)
  ) (fun c1 =>
    Ev.go (pc' := 11) (ls' := [.int x0, .int x1]) (st' := [.int x1]) [.iload_n 1] (by decide +kernel) rfl <|
    Ev.br (i := .ifCond .ne (12)) (P := x1 = (0 : Int32)) (t := 14) (f := 23) (r := []) (by decide +kernel) rfl (fun c2 =>
      Ev.go (pc' := 27) (ls' := [.int x0, .int x1]) (st' := [.int ((x0 >>> ((5 : Int32) &&& 31)) &&& (31 : Int32))]) [.iload_n 0, .iconst 5, .ishr, .bipush (31), .iand, .goto (7)] (by decide +kernel) rfl <|
      Ev.ret (r := (some (.int ((x0 >>> ((5 : Int32) &&& 31)) &&& (31 : Int32))))) (Or.inl ⟨_, rfl, by decide +kernel, _, rfl, rfl⟩) (k2 c1 c2)
    ) (fun c2 =>
      Ev.go (pc' := 27) (ls' := [.int x0, .int x1]) (st' := [.int (x0 &&& (31 : Int32))]) [.iload_n 0, .bipush (31), .iand] (by decide +kernel) rfl <|
      Ev.ret (r := (some (.int (x0 &&& (31 : Int32))))) (Or.inl ⟨_, rfl, by decide +kernel, _, rfl, rfl⟩) (k3 c1 c2)
    )
  )
theorem b_X_isNumber_0 {G : ev_G} {d k n : Nat} {h : ev_H} {R : Option Value → ev_H → Prop} {x1 : Int64} {f_latest_1 : Int32} {f_faultKind_2 : Int32} {f_faultPlace_3 : Int32} {f_bits_4 : Int32} {f_parts_5 : Int32} {f_size_6 : Int32} {fv7 : Value}
  (a1 : hat h 0 (oC 8 [.ref 1, .ref 5, .ref 18, .ref 81, .ref 98, .int f_latest_1, .int f_faultKind_2, .int f_faultPlace_3]))
  (a2 : hat h 1 (oC 6 [.int f_bits_4, .int f_parts_5, .ref 2, .int f_size_6, .ref 3, .ref 4, fv7]))
  (k1 : x1 < (0 : Int64) → R (some (.int (0 : Int32))) h)
  (k2 : ¬ x1 < (0 : Int64) → (x1 >>> (f_bits_4.toInt64 &&& 63)) = (0 : Int64) → R (some (.int (1 : Int32))) h)
  (k3 : ¬ x1 < (0 : Int64) → ¬ (x1 >>> (f_bits_4.toInt64 &&& 63)) = (0 : Int64) → R (some (.int (0 : Int32))) h)
  : Ev G d k n M_X_isNumber 0 [.ref 0, .long x1, ev_unk] [] h R :=
  Ev.go (pc' := 2) (ls' := [.ref 0, .long x1, ev_unk]) (st' := [.long (0 : Int64), .long x1]) [.lload_n 1, .lconst 0] (by decide +kernel) rfl <|
  Ev.brl (c := .lt) (o := 21) (P := x1 < (0 : Int64)) (t := 24) (f := 6) (t1 := 24) (by decide +kernel) (by decide +kernel) rfl rfl (fun c1 =>
    Ev.go (pc' := 25) (ls' := [.ref 0, .long x1, ev_unk]) (st' := [.int (0 : Int32)]) [.iconst 0] (by decide +kernel) rfl <|
    Ev.ret (r := (some (.int (0 : Int32)))) (Or.inl ⟨_, rfl, by decide +kernel, _, rfl, rfl⟩) (k1 c1)
  ) (fun c1 =>
    Ev.go (pc' := 8) (ls' := [.ref 0, .long x1, ev_unk]) (st' := [.ref 0, .long x1]) [.lload_n 1, .aload_n 0] (by decide +kernel) rfl <|
    Ev.getf f_X_10 (by decide +kernel) a1 rfl <|
    Ev.getf f_X_90 (by decide +kernel) a2 rfl <|
    Ev.go (pc' := 16) (ls' := [.ref 0, .long x1, ev_unk]) (st' := [.long (0 : Int64), .long (x1 >>> (f_bits_4.toInt64 &&& 63))]) [.lshr, .lconst 0] (by decide +kernel) rfl <|
    Ev.brl (c := .ne) (o := 7) (P := (x1 >>> (f_bits_4.toInt64 &&& 63)) = (0 : Int64)) (t := 20) (f := 24) (t1 := 24) (by decide +kernel) (by decide +kernel) rfl rfl (fun c2 =>
      Ev.go (pc' := 25) (ls' := [.ref 0, .long x1, ev_unk]) (st' := [.int (1 : Int32)]) [.iconst 1, .goto (4)] (by decide +kernel) rfl <|
      Ev.ret (r := (some (.int (1 : Int32)))) (Or.inl ⟨_, rfl, by decide +kernel, _, rfl, rfl⟩) (k2 c1 c2)
    ) (fun c2 =>
      Ev.go (pc' := 25) (ls' := [.ref 0, .long x1, ev_unk]) (st' := [.int (0 : Int32)]) [.iconst 0] (by decide +kernel) rfl <|
      Ev.ret (r := (some (.int (0 : Int32)))) (Or.inl ⟨_, rfl, by decide +kernel, _, rfl, rfl⟩) (k3 c1 c2)
    )
  )
theorem b_X_isRadius_0 {G : ev_G} {d k n : Nat} {h : ev_H} {R : Option Value → ev_H → Prop} {x1 : Int32} {f_latest_1 : Int32} {f_faultKind_2 : Int32} {f_faultPlace_3 : Int32} {f_bits_4 : Int32} {f_parts_5 : Int32} {f_size_6 : Int32} {fv7 : Value}
  (a1 : hat h 0 (oC 8 [.ref 1, .ref 5, .ref 18, .ref 81, .ref 98, .int f_latest_1, .int f_faultKind_2, .int f_faultPlace_3]))
  (a2 : hat h 1 (oC 6 [.int f_bits_4, .int f_parts_5, .ref 2, .int f_size_6, .ref 3, .ref 4, fv7]))
  (k1 : x1 < (0 : Int32) → R (some (.int (0 : Int32))) h)
  (k2 : ¬ x1 < (0 : Int32) → f_bits_4 < x1 → R (some (.int (0 : Int32))) h)
  (k3 : ¬ x1 < (0 : Int32) → ¬ f_bits_4 < x1 → R (some (.int (1 : Int32))) h)
  : Ev G d k n M_X_isRadius 0 [.ref 0, .int x1] [] h R :=
  Ev.go (pc' := 1) (ls' := [.ref 0, .int x1]) (st' := [.int x1]) [.iload_n 1] (by decide +kernel) rfl <|
  Ev.br (i := .ifCond .lt (18)) (P := x1 < (0 : Int32)) (t := 19) (f := 4) (r := []) (by decide +kernel) rfl (fun c1 =>
    Ev.go (pc' := 20) (ls' := [.ref 0, .int x1]) (st' := [.int (0 : Int32)]) [.iconst 0] (by decide +kernel) rfl <|
    Ev.ret (r := (some (.int (0 : Int32)))) (Or.inl ⟨_, rfl, by decide +kernel, _, rfl, rfl⟩) (k1 c1)
  ) (fun c1 =>
    Ev.go (pc' := 6) (ls' := [.ref 0, .int x1]) (st' := [.ref 0, .int x1]) [.iload_n 1, .aload_n 0] (by decide +kernel) rfl <|
    Ev.getf f_X_10 (by decide +kernel) a1 rfl <|
    Ev.getf f_X_90 (by decide +kernel) a2 rfl <|
    Ev.br (i := .if_icmp .gt (7)) (P := f_bits_4 < x1) (t := 19) (f := 15) (r := []) (by decide +kernel) rfl (fun c2 =>
      Ev.go (pc' := 20) (ls' := [.ref 0, .int x1]) (st' := [.int (0 : Int32)]) [.iconst 0] (by decide +kernel) rfl <|
      Ev.ret (r := (some (.int (0 : Int32)))) (Or.inl ⟨_, rfl, by decide +kernel, _, rfl, rfl⟩) (k2 c1 c2)
    ) (fun c2 =>
      Ev.go (pc' := 20) (ls' := [.ref 0, .int x1]) (st' := [.int (1 : Int32)]) [.iconst 1, .goto (4)] (by decide +kernel) rfl <|
      Ev.ret (r := (some (.int (1 : Int32)))) (Or.inl ⟨_, rfl, by decide +kernel, _, rfl, rfl⟩) (k3 c1 c2)
    )
  )
theorem b_X_isBit_0 {G : ev_G} {d k n : Nat} {h : ev_H} {R : Option Value → ev_H → Prop} {x1 : Int32} {f_latest_1 : Int32} {f_faultKind_2 : Int32} {f_faultPlace_3 : Int32} {f_bits_4 : Int32} {f_parts_5 : Int32} {f_size_6 : Int32} {fv7 : Value}
  (a1 : hat h 0 (oC 8 [.ref 1, .ref 5, .ref 18, .ref 81, .ref 98, .int f_latest_1, .int f_faultKind_2, .int f_faultPlace_3]))
  (a2 : hat h 1 (oC 6 [.int f_bits_4, .int f_parts_5, .ref 2, .int f_size_6, .ref 3, .ref 4, fv7]))
  (k1 : x1 < (0 : Int32) → R (some (.int (0 : Int32))) h)
  (k2 : ¬ x1 < (0 : Int32) → x1 < f_bits_4 → R (some (.int (1 : Int32))) h)
  (k3 : ¬ x1 < (0 : Int32) → ¬ x1 < f_bits_4 → R (some (.int (0 : Int32))) h)
  : Ev G d k n M_X_isBit 0 [.ref 0, .int x1] [] h R :=
  Ev.go (pc' := 1) (ls' := [.ref 0, .int x1]) (st' := [.int x1]) [.iload_n 1] (by decide +kernel) rfl <|
  Ev.br (i := .ifCond .lt (18)) (P := x1 < (0 : Int32)) (t := 19) (f := 4) (r := []) (by decide +kernel) rfl (fun c1 =>
    Ev.go (pc' := 20) (ls' := [.ref 0, .int x1]) (st' := [.int (0 : Int32)]) [.iconst 0] (by decide +kernel) rfl <|
    Ev.ret (r := (some (.int (0 : Int32)))) (Or.inl ⟨_, rfl, by decide +kernel, _, rfl, rfl⟩) (k1 c1)
  ) (fun c1 =>
    Ev.go (pc' := 6) (ls' := [.ref 0, .int x1]) (st' := [.ref 0, .int x1]) [.iload_n 1, .aload_n 0] (by decide +kernel) rfl <|
    Ev.getf f_X_10 (by decide +kernel) a1 rfl <|
    Ev.getf f_X_90 (by decide +kernel) a2 rfl <|
    Ev.br (i := .if_icmp .ge (7)) (P := x1 < f_bits_4) (t := 15) (f := 19) (r := []) (by decide +kernel) rfl (fun c2 =>
      Ev.go (pc' := 20) (ls' := [.ref 0, .int x1]) (st' := [.int (1 : Int32)]) [.iconst 1, .goto (4)] (by decide +kernel) rfl <|
      Ev.ret (r := (some (.int (1 : Int32)))) (Or.inl ⟨_, rfl, by decide +kernel, _, rfl, rfl⟩) (k2 c1 c2)
    ) (fun c2 =>
      Ev.go (pc' := 20) (ls' := [.ref 0, .int x1]) (st' := [.int (0 : Int32)]) [.iconst 0] (by decide +kernel) rfl <|
      Ev.ret (r := (some (.int (0 : Int32)))) (Or.inl ⟨_, rfl, by decide +kernel, _, rfl, rfl⟩) (k3 c1 c2)
    )
  )
theorem b_X_isCode_0 {G : ev_G} {d k n : Nat} {h : ev_H} {R : Option Value → ev_H → Prop} {x1 : Int32} {f_latest_1 : Int32} {f_faultKind_2 : Int32} {f_faultPlace_3 : Int32} {f_bits_4 : Int32} {f_parts_5 : Int32} {f_size_6 : Int32} {fv7 : Value}
  (a1 : hat h 0 (oC 8 [.ref 1, .ref 5, .ref 18, .ref 81, .ref 98, .int f_latest_1, .int f_faultKind_2, .int f_faultPlace_3]))
  (a2 : hat h 1 (oC 6 [.int f_bits_4, .int f_parts_5, .ref 2, .int f_size_6, .ref 3, .ref 4, fv7]))
  (k1 : x1 < (0 : Int32) → R (some (.int (0 : Int32))) h)
  (k2 : ¬ x1 < (0 : Int32) → x1 < f_size_6 → R (some (.int (1 : Int32))) h)
  (k3 : ¬ x1 < (0 : Int32) → ¬ x1 < f_size_6 → R (some (.int (0 : Int32))) h)
  : Ev G d k n M_X_isCode 0 [.ref 0, .int x1] [] h R :=
  Ev.go (pc' := 1) (ls' := [.ref 0, .int x1]) (st' := [.int x1]) [.iload_n 1] (by decide +kernel) rfl <|
  Ev.br (i := .ifCond .lt (18)) (P := x1 < (0 : Int32)) (t := 19) (f := 4) (r := []) (by decide +kernel) rfl (fun c1 =>
    Ev.go (pc' := 20) (ls' := [.ref 0, .int x1]) (st' := [.int (0 : Int32)]) [.iconst 0] (by decide +kernel) rfl <|
    Ev.ret (r := (some (.int (0 : Int32)))) (Or.inl ⟨_, rfl, by decide +kernel, _, rfl, rfl⟩) (k1 c1)
  ) (fun c1 =>
    Ev.go (pc' := 6) (ls' := [.ref 0, .int x1]) (st' := [.ref 0, .int x1]) [.iload_n 1, .aload_n 0] (by decide +kernel) rfl <|
    Ev.getf f_X_10 (by decide +kernel) a1 rfl <|
    Ev.getf f_X_86 (by decide +kernel) a2 rfl <|
    Ev.br (i := .if_icmp .ge (7)) (P := x1 < f_size_6) (t := 15) (f := 19) (r := []) (by decide +kernel) rfl (fun c2 =>
      Ev.go (pc' := 20) (ls' := [.ref 0, .int x1]) (st' := [.int (1 : Int32)]) [.iconst 1, .goto (4)] (by decide +kernel) rfl <|
      Ev.ret (r := (some (.int (1 : Int32)))) (Or.inl ⟨_, rfl, by decide +kernel, _, rfl, rfl⟩) (k2 c1 c2)
    ) (fun c2 =>
      Ev.go (pc' := 20) (ls' := [.ref 0, .int x1]) (st' := [.int (0 : Int32)]) [.iconst 0] (by decide +kernel) rfl <|
      Ev.ret (r := (some (.int (0 : Int32)))) (Or.inl ⟨_, rfl, by decide +kernel, _, rfl, rfl⟩) (k3 c1 c2)
    )
  )
theorem b_X_isPart_0 {G : ev_G} {d k n : Nat} {h : ev_H} {R : Option Value → ev_H → Prop} {x1 : Int32} {f_latest_1 : Int32} {f_faultKind_2 : Int32} {f_faultPlace_3 : Int32} {f_bits_4 : Int32} {f_parts_5 : Int32} {f_size_6 : Int32} {fv7 : Value}
  (a1 : hat h 0 (oC 8 [.ref 1, .ref 5, .ref 18, .ref 81, .ref 98, .int f_latest_1, .int f_faultKind_2, .int f_faultPlace_3]))
  (a2 : hat h 1 (oC 6 [.int f_bits_4, .int f_parts_5, .ref 2, .int f_size_6, .ref 3, .ref 4, fv7]))
  (k1 : x1 < (0 : Int32) → R (some (.int (0 : Int32))) h)
  (k2 : ¬ x1 < (0 : Int32) → x1 < f_parts_5 → R (some (.int (1 : Int32))) h)
  (k3 : ¬ x1 < (0 : Int32) → ¬ x1 < f_parts_5 → R (some (.int (0 : Int32))) h)
  : Ev G d k n M_X_isPart 0 [.ref 0, .int x1] [] h R :=
  Ev.go (pc' := 1) (ls' := [.ref 0, .int x1]) (st' := [.int x1]) [.iload_n 1] (by decide +kernel) rfl <|
  Ev.br (i := .ifCond .lt (18)) (P := x1 < (0 : Int32)) (t := 19) (f := 4) (r := []) (by decide +kernel) rfl (fun c1 =>
    Ev.go (pc' := 20) (ls' := [.ref 0, .int x1]) (st' := [.int (0 : Int32)]) [.iconst 0] (by decide +kernel) rfl <|
    Ev.ret (r := (some (.int (0 : Int32)))) (Or.inl ⟨_, rfl, by decide +kernel, _, rfl, rfl⟩) (k1 c1)
  ) (fun c1 =>
    Ev.go (pc' := 6) (ls' := [.ref 0, .int x1]) (st' := [.ref 0, .int x1]) [.iload_n 1, .aload_n 0] (by decide +kernel) rfl <|
    Ev.getf f_X_10 (by decide +kernel) a1 rfl <|
    Ev.getf f_X_93 (by decide +kernel) a2 rfl <|
    Ev.br (i := .if_icmp .ge (7)) (P := x1 < f_parts_5) (t := 15) (f := 19) (r := []) (by decide +kernel) rfl (fun c2 =>
      Ev.go (pc' := 20) (ls' := [.ref 0, .int x1]) (st' := [.int (1 : Int32)]) [.iconst 1, .goto (4)] (by decide +kernel) rfl <|
      Ev.ret (r := (some (.int (1 : Int32)))) (Or.inl ⟨_, rfl, by decide +kernel, _, rfl, rfl⟩) (k2 c1 c2)
    ) (fun c2 =>
      Ev.go (pc' := 20) (ls' := [.ref 0, .int x1]) (st' := [.int (0 : Int32)]) [.iconst 0] (by decide +kernel) rfl <|
      Ev.ret (r := (some (.int (0 : Int32)))) (Or.inl ⟨_, rfl, by decide +kernel, _, rfl, rfl⟩) (k3 c1 c2)
    )
  )
theorem b_X_packPair_0 {G : ev_G} {d k n : Nat} {h : ev_H} {R : Option Value → ev_H → Prop} {x1 : Int32} {x2 : Int32} {f_latest_1 : Int32} {f_faultKind_2 : Int32} {f_faultPlace_3 : Int32} {f_bits_4 : Int32} {f_parts_5 : Int32} {f_size_6 : Int32} {fv7 : Value} {g8 : Nat → Int64} {j9 : Nat} {j10 : Nat}
  (a1 : hat h 0 (oC 8 [.ref 1, .ref 5, .ref 18, .ref 81, .ref 98, .int f_latest_1, .int f_faultKind_2, .int f_faultPlace_3]))
  (a2 : hat h 1 (oC 6 [.int f_bits_4, .int f_parts_5, .ref 2, .int f_size_6, .ref 3, .ref 4, fv7]))
  (a3 : hat h 3 (aL 32 g8))
  (i4 : ev_ix x1 j9 32)
  (i5 : ev_ix x2 j10 32)
  (k1 : R (some (.int ((((nI (pop ((g8 j9) ^^^ (g8 j10)))) <<< ((10 : Int32) &&& 31)) ||| (x1 <<< ((5 : Int32) &&& 31))) ||| x2))) h)
  : Ev G (d + 2) k n M_X_packPair 0 [.ref 0, .int x1, .int x2] [] h R :=
  Ev.go (pc' := 1) (ls' := [.ref 0, .int x1, .int x2]) (st' := [.ref 0]) [.aload_n 0] (by decide +kernel) rfl <|
  Ev.getf f_X_10 (by decide +kernel) a1 rfl <|
  Ev.getf f_X_118 (by decide +kernel) a2 rfl <|
  Ev.go (pc' := 8) (ls' := [.ref 0, .int x1, .int x2]) (st' := [.int x1, .ref 3]) [.iload_n 1] (by decide +kernel) rfl <|
  Ev.lald (j := j9) (by decide +kernel) a3 i4 <|
  Ev.go (pc' := 10) (ls' := [.ref 0, .int x1, .int x2]) (st' := [.ref 0, .long (g8 j9)]) [.aload_n 0] (by decide +kernel) rfl <|
  Ev.getf f_X_10 (by decide +kernel) a1 rfl <|
  Ev.getf f_X_118 (by decide +kernel) a2 rfl <|
  Ev.go (pc' := 17) (ls' := [.ref 0, .int x1, .int x2]) (st' := [.int x2, .ref 3, .long (g8 j9)]) [.iload_n 2] (by decide +kernel) rfl <|
  Ev.lald (j := j10) (by decide +kernel) a3 i5 <|
  Ev.cS0 (M' := M_X_unlike) (as := [.long (g8 j9), .long (g8 j10)]) (rest := []) l_X_144 M_X_unlike_ok M_X_unlike_st (by decide +kernel) rfl rfl (Nat.le_of_ble_eq_true rfl) (Nat.le_of_ble_eq_true rfl) (s_X_unlike <| show Ev G (d + 2) _ _ M_X_packPair 21 [.ref 0, .int x1, .int x2] [.int (nI (pop ((g8 j9) ^^^ (g8 j10))))] h R from
    Ev.go (pc' := 30) (ls' := [.ref 0, .int x1, .int x2]) (st' := [.int ((((nI (pop ((g8 j9) ^^^ (g8 j10)))) <<< ((10 : Int32) &&& 31)) ||| (x1 <<< ((5 : Int32) &&& 31))) ||| x2)]) [.bipush (10), .ishl, .iload_n 1, .iconst 5, .ishl, .ior, .iload_n 2, .ior] (by decide +kernel) rfl <|
    Ev.ret (r := (some (.int ((((nI (pop ((g8 j9) ^^^ (g8 j10)))) <<< ((10 : Int32) &&& 31)) ||| (x1 <<< ((5 : Int32) &&& 31))) ||| x2)))) (Or.inl ⟨_, rfl, by decide +kernel, _, rfl, rfl⟩) k1
  )
def inR (x : Int32) (n : Nat) : Bool := decide (0 ≤ x.toInt ∧ x.toInt < (n : Int))
theorem inR_yes {x : Int32} {n : Nat} (hn : n < 2147483648) (h : inR x n = true) : ∃ j, j < n ∧ x = nI j := by
  have h := of_decide_eq_true h
  refine ⟨x.toInt.toNat, by omega, ?_⟩
  apply Int32.toInt_inj.mp
  rw [nI_toInt (by omega)]; omega
theorem inR_nI {j n : Nat} (hj : j < 2147483648) : inR (nI j) n = decide (j < n) := by
  unfold inR; rw [nI_toInt hj]; exact decide_eq_decide.mpr (by omega)
theorem inR_of {x : Int32} {n : Nat} (hn : n < 2147483648) (h0 : ¬ x < 0) (h1 : x < nI n) : inR x n = true := by
  rw [Int32.lt_iff_toInt_lt] at h0 h1
  rw [nI_toInt hn] at h1
  exact decide_eq_true ⟨Int.not_lt.mp h0, h1⟩
theorem inR_no1 {x : Int32} {n : Nat} (h0 : x < 0) : inR x n = false := by
  rw [Int32.lt_iff_toInt_lt] at h0
  have h0 : x.toInt < 0 := h0
  exact decide_eq_false (by omega)
theorem inR_no2 {x : Int32} {n : Nat} (hn : n < 2147483648) (h1 : ¬ x < nI n) : inR x n = false := by
  rw [Int32.lt_iff_toInt_lt, nI_toInt hn] at h1
  exact decide_eq_false (by omega)
def numB (x : Int64) (b : Nat) : Bool := decide (¬ x < 0) && decide (x >>> ((nI b).toInt64 &&& 63) = 0)
def XO (h : ev_H) (lt fk fp : Int32) : Prop := hat h 0 (oC 8 [.ref 1, .ref 5, .ref 18, .ref 81, .ref 98, .int lt, .int fk, .int fp])
/-- the last, and 1; 0 if there is none -/
def hiB (p : Nat → Bool) : Nat → Nat
  | 0 => 0
  | n + 1 => if p n then n + 1 else hiB p n
theorem hiB_le (p : Nat → Bool) : ∀ n, hiB p n ≤ n
  | 0 => Nat.le_refl _
  | n + 1 => by
    have := hiB_le p n
    show (if p n then n + 1 else hiB p n) ≤ n + 1
    split <;> omega
theorem hiB_0 {p : Nat → Bool} : ∀ {n : Nat}, hiB p n = 0 ↔ fst p n = n
  | 0 => ⟨fun _ => rfl, fun _ => rfl⟩
  | n + 1 => by
    have ih := hiB_0 (p := p) (n := n)
    have hl := fst_le p n
    show (if p n then n + 1 else hiB p n) = 0 ↔ (if fst p n < n then fst p n else if p n then n else n + 1) = n + 1
    cases q : p n
    · by_cases c : fst p n < n
      · simp [c]; omega
      · simp [c]; omega
    · by_cases c : fst p n < n
      · simp [c]; omega
      · simp [c]
theorem hiB_of {p : Nat → Bool} {k : Nat} (hp : p k = true) : ∀ {n : Nat}, k < n → k < hiB p n
  | 0, h => absurd h (Nat.not_lt_zero k)
  | n + 1, h => by
    show k < if p n then n + 1 else hiB p n
    by_cases e : k = n
    · subst e; rw [hp]; simp
    · have := hiB_of (p := p) hp (n := n) (by omega)
      split <;> omega
def rchN (x : Int64) : Nat := hiB (lt x) 48 - fst (lt x) 48
def rnN (p : Nat → Bool) : Nat → Nat
  | 0 => 0
  | n + 1 => if p n then rnN p n + 1 else 0
theorem rnN_le (p : Nat → Bool) : ∀ n, rnN p n ≤ n
  | 0 => Nat.le_refl _
  | n + 1 => by
    have := rnN_le p n
    show (if p n then rnN p n + 1 else 0) ≤ n + 1
    split <;> omega
def mxN (p : Nat → Bool) : Nat → Nat
  | 0 => 0
  | n + 1 => max (mxN p n) (rnN p (n + 1))
theorem mxN_le (p : Nat → Bool) : ∀ n, mxN p n ≤ n
  | 0 => Nat.le_refl _
  | n + 1 => by
    have := mxN_le p n
    have := rnN_le p (n + 1)
    show max (mxN p n) (rnN p (n + 1)) ≤ n + 1
    omega
theorem i_shN (n : Nat) {k : Nat} (hk : k < 32) : nI n <<< (nI k &&& 31) = nI (n * 2 ^ k) := by
  apply Int32.toBitVec_inj.1
  show BitVec.ofNat 32 n <<< ((nI k &&& 31).toBitVec.smod 32) = BitVec.ofNat 32 (n * 2 ^ k)
  rw [BitVec.shiftLeft_eq', s_l k hk]
  apply BitVec.eq_of_toNat_eq
  rw [BitVec.toNat_shiftLeft, BitVec.toNat_ofNat, BitVec.toNat_ofNat, Nat.shiftLeft_eq, Nat.mod_mul_mod]
theorem i_orN (a b : Nat) : nI a ||| nI b = nI (a ||| b) := by
  apply Int32.toBitVec_inj.1
  show BitVec.ofNat 32 a ||| BitVec.ofNat 32 b = BitVec.ofNat 32 (a ||| b)
  apply BitVec.eq_of_getLsbD_eq
  intro i hi
  simp [hi]
theorem i_sarN {a k : Nat} (ha : a < 2147483648) (hk : k < 32) : nI a >>> (nI k &&& 31) = nI (a / 2 ^ k) := by
  apply b_ext; intro i hi
  have := Nat.div_le_self a (2 ^ k)
  rw [b_sshr k hk _ hi, bt_nI _ _ (by omega), bt_nI _ _ (by omega), bt_nI _ _ (by omega), Nat.testBit_div_two_pow]
  by_cases q : k + i < 32
  · rw [if_pos q, Nat.add_comm]
  · rw [if_neg q, Nat.testBit_lt_two_pow (show a < 2 ^ 31 by omega), Nat.testBit_lt_two_pow]
    exact Nat.lt_of_lt_of_le (show a < 2 ^ 31 by omega) (Nat.pow_le_pow_right (by decide) (by omega))
/-- two packed -/
def pkN (f i j : Nat) : Nat := f * 1024 + i * 32 + j
theorem pkN_eq {f i j : Nat} (hi : i < 32) (hj : j < 32) : ((nI f <<< ((10 : Int32) &&& 31)) ||| (nI i <<< ((5 : Int32) &&& 31))) ||| nI j = nI (pkN f i j) := by
  rw [show (10 : Int32) = nI 10 from rfl, show (5 : Int32) = nI 5 from rfl, i_shN _ (by decide), i_shN _ (by decide), i_orN, i_orN]
  congr 1
  have e1 : f * 2 ^ 10 ||| i * 2 ^ 5 = 2 ^ 5 * (f * 32 + i) := by
    rw [Nat.mul_comm f, ← Nat.two_pow_add_eq_or_of_lt (show i * 2 ^ 5 < 2 ^ 10 by omega) f]; omega
  rw [e1, ← Nat.two_pow_add_eq_or_of_lt (show j < 2 ^ 5 by omega)]
  unfold pkN; omega
section S22
variable {G : ev_G} {d : Nat} {h : ev_H} {R : Option Value → ev_H → Prop} {S : AS} {lt0 fk fp : Int32}
theorem s_X_leastOf {set : Int32} (hR : R (some (.int (frI (bt set) 32))) h) : Ev G (d + 1) 0 0 M_X_leastOf 0 [.int set, ev_unk] [] h R := by
  refine b_X_leastOf_0 ?_
  have := up0 (P := fun i => (∀ j, j < i → bt set j = false) → Ev G (d + 1) 0 0 M_X_leastOf 2 [.int set, .int (nI i)] [] h R) 32 ?_ ?_
  · exact this (fun j hj => by omega)
  · intro i hi ih hn
    have hl : nI i < (32 : Int32) := nI_lt hi (by decide)
    refine b_X_leastOf_2 (fun _ c => ?_) (fun _ c => ?_) (fun c => absurd hl c)
    · rw [inI_n hi] at c
      rw [nI_1]
      refine ih fun j hj => ?_
      by_cases e : j = i
      · subst e; exact b2i_e0 c
      · exact hn j (by omega)
    · rw [inI_n hi] at c
      rw [frI, fst_eq hi (b2i_n0 c) hn, if_pos hi] at hR; exact hR
  · intro hn
    refine b_X_leastOf_2 (fun c => absurd c (by decide)) (fun c => absurd c (by decide)) (fun _ => ?_)
    rw [frI, fst_none hn, if_neg (Nat.lt_irrefl _)] at hR; exact hR
theorem s_X_isUpper {x : Int32} (hR : R (some (.int (b2i (inR x 25 && !inR x 1)))) h) : Ev G d 0 0 M_X_isUpper 0 [.int x] [] h R := by
  refine b_X_isUpper_0 (fun q => ?_) (fun q q2 => ?_) (fun q q2 => ?_)
  all_goals rw [Int32.lt_iff_toInt_lt] at q
  all_goals have e1 : (1 : Int32).toInt = 1 := rfl
  all_goals have e24 : (24 : Int32).toInt = 24 := rfl
  all_goals rw [e1] at q
  · have : (inR x 25 && !inR x 1) = false := by
      unfold inR
      by_cases c : 0 ≤ x.toInt
      · rw [decide_eq_true (p := 0 ≤ x.toInt ∧ x.toInt < ((1 : Nat) : Int)) ⟨c, by omega⟩]; simp
      · rw [decide_eq_false (p := 0 ≤ x.toInt ∧ x.toInt < ((25 : Nat) : Int)) (by omega)]; simp
    rw [this] at hR; exact hR
  · rw [Int32.lt_iff_toInt_lt, e24] at q2
    have : (inR x 25 && !inR x 1) = false := by
      unfold inR
      rw [decide_eq_false (p := 0 ≤ x.toInt ∧ x.toInt < ((25 : Nat) : Int)) (by omega)]; simp
    rw [this] at hR; exact hR
  · rw [Int32.lt_iff_toInt_lt, e24] at q2
    have : (inR x 25 && !inR x 1) = true := by
      unfold inR
      rw [decide_eq_true (p := 0 ≤ x.toInt ∧ x.toInt < ((25 : Nat) : Int)) (by omega), decide_eq_false (p := 0 ≤ x.toInt ∧ x.toInt < ((1 : Nat) : Int)) (by omega)]; rfl
    rw [this] at hR; exact hR
theorem s_X_isNumber {x : Int64} (hX : XO h lt0 fk fp) (hS : StR h 1 S) (hR : R (some (.int (b2i (numB x (sB S))))) h) : Ev G d 0 0 M_X_isNumber 0 [.ref 0, .long x, ev_unk] [] h R := by
  obtain ⟨brf, tgf, cof, fv, t1, -⟩ := hS
  refine b_X_isNumber_0 hX t1 (fun q => ?_) (fun q q2 => ?_) (fun q q2 => ?_)
  · unfold numB at hR; rw [decide_eq_false (p := ¬ x < 0) (fun z => z q)] at hR; exact hR
  · unfold numB at hR; rw [decide_eq_true (p := ¬ x < 0) q, decide_eq_true q2] at hR; exact hR
  · unfold numB at hR; rw [decide_eq_true (p := ¬ x < 0) q, decide_eq_false q2] at hR; exact hR
theorem s_X_isRadius {x : Int32} (hX : XO h lt0 fk fp) (hS : StR h 1 S) (ok : sOk S) (hR : R (some (.int (b2i (inR x (sB S + 1))))) h) : Ev G d 0 0 M_X_isRadius 0 [.ref 0, .int x] [] h R := by
  have h48 := ok.2.1
  obtain ⟨brf, tgf, cof, fv, t1, -⟩ := hS
  refine b_X_isRadius_0 hX t1 (fun q => ?_) (fun q q2 => ?_) (fun q q2 => ?_)
  · rw [inR_no1 q] at hR; exact hR
  · rw [Int32.lt_iff_toInt_lt, nI_toInt (by omega)] at q2
    have : inR x (sB S + 1) = false := decide_eq_false (by omega)
    rw [this] at hR; exact hR
  · rw [Int32.lt_iff_toInt_lt] at q
    rw [Int32.lt_iff_toInt_lt, nI_toInt (by omega)] at q2
    have q : ¬ x.toInt < 0 := q
    have : inR x (sB S + 1) = true := decide_eq_true (by omega)
    rw [this] at hR; exact hR
theorem s_X_isBit {x : Int32} (hX : XO h lt0 fk fp) (hS : StR h 1 S) (ok : sOk S) (hR : R (some (.int (b2i (inR x (sB S))))) h) : Ev G d 0 0 M_X_isBit 0 [.ref 0, .int x] [] h R := by
  have h48 := ok.2.1
  obtain ⟨brf, tgf, cof, fv, t1, -⟩ := hS
  refine b_X_isBit_0 hX t1 (fun q => ?_) (fun q q2 => ?_) (fun q q2 => ?_)
  · rw [inR_no1 q] at hR; exact hR
  · rw [inR_of (by omega) q q2] at hR; exact hR
  · rw [inR_no2 (by omega) q2] at hR; exact hR
theorem s_X_isCode {x : Int32} (hX : XO h lt0 fk fp) (hS : StR h 1 S) (ok : sOk S) (hR : R (some (.int (b2i (inR x (sN S))))) h) : Ev G d 0 0 M_X_isCode 0 [.ref 0, .int x] [] h R := by
  have h48 := ok.2.2.2.2.1
  obtain ⟨brf, tgf, cof, fv, t1, -⟩ := hS
  refine b_X_isCode_0 hX t1 (fun q => ?_) (fun q q2 => ?_) (fun q q2 => ?_)
  · rw [inR_no1 q] at hR; exact hR
  · rw [inR_of (by omega) q q2] at hR; exact hR
  · rw [inR_no2 (by omega) q2] at hR; exact hR
theorem s_X_isPart {x : Int32} (hX : XO h lt0 fk fp) (hS : StR h 1 S) (ok : sOk S) (hR : R (some (.int (b2i (inR x (sP S))))) h) : Ev G d 0 0 M_X_isPart 0 [.ref 0, .int x] [] h R := by
  have h48 := ok.2.2.2.1
  obtain ⟨brf, tgf, cof, fv, t1, -⟩ := hS
  refine b_X_isPart_0 hX t1 (fun q => ?_) (fun q q2 => ?_) (fun q q2 => ?_)
  · rw [inR_no1 q] at hR; exact hR
  · rw [inR_of (by omega) q q2] at hR; exact hR
  · rw [inR_no2 (by omega) q2] at hR; exact hR
theorem s_X_packPair {i j : Nat} {iI jI : Int32} (hX : XO h lt0 fk fp) (hS : StR h 1 S) (ok : sOk S) (hi : iI = nI i ∧ i < sN S) (hj : jI = nI j ∧ j < sN S) (hR : R (some (.int (nI (pkN (pop (sCo S i ^^^ sCo S j)) i j)))) h) : Ev G (d + 2) 0 0 M_X_packPair 0 [.ref 0, .int iI, .int jI] [] h R := by
  have h48 := ok.2.2.2.2.1
  obtain ⟨rfl, hi⟩ := hi
  obtain ⟨rfl, hj⟩ := hj
  obtain ⟨brf, tgf, cof, fv, t1, t2, t3, t4, e1, e2, -⟩ := hS
  refine b_X_packPair_0 hX t1 t3 (ixn (by omega) (by decide)) (ixn (by omega) (by decide)) ?_
  rw [pkN_eq (by omega) (by omega), (e2 i hi).1, (e2 j hj).1]; exact hR
def opN (q : Nat) (w : Int32) : Nat := if w = 2 then q / 1024 else if w = 0 then q / 32 % 32 else q % 32
theorem s_X_ofPacked {q : Nat} {w qI : Int32} (hq : qI = nI q ∧ q < 2147483648) (hR : R (some (.int (nI (opN q w)))) h) : Ev G d 0 0 M_X_ofPacked 0 [.int qI, .int w] [] h R := by
  obtain ⟨rfl, hq⟩ := hq
  refine b_X_ofPacked_0 (fun c => ?_) (fun c c2 => ?_) (fun c c2 => ?_)
  · unfold opN at hR; rw [if_pos c] at hR
    rw [show (10 : Int32) = nI 10 from rfl, i_sarN hq (by decide)]; exact hR
  · unfold opN at hR; rw [if_neg c, if_pos c2] at hR
    rw [show (5 : Int32) = nI 5 from rfl, i_sarN hq (by decide), show (31 : Int32) = nI 31 from rfl, i_andN, show 31 = 2 ^ 5 - 1 from rfl, Nat.and_two_pow_sub_one_eq_mod]; exact hR
  · unfold opN at hR; rw [if_neg c, if_neg c2] at hR
    rw [show (31 : Int32) = nI 31 from rfl, i_andN, show 31 = 2 ^ 5 - 1 from rfl, Nat.and_two_pow_sub_one_eq_mod]; exact hR
theorem s_X_reachOf {x : Int64} (hR : R (some (.int (nI (rchN x)))) h) : Ev G (d + 1) 0 0 M_X_reachOf 0 [.long x, ev_unk, ev_unk, ev_unk, ev_unk] [] h R := by
  refine b_X_reachOf_0 ?_
  have L := up0 (P := fun i => Ev G (d + 1) 0 0 M_X_reachOf 9 [.long x, ev_unk, .int (nI (if fst (lt x) i < i then fst (lt x) i else 48)), .int (nI (if hiB (lt x) i = 0 then 47 else hiB (lt x) i - 1)), .int (nI i)] [] h R) 48 ?_ ?_
  · exact L
  · intro i hi ih
    have yes : nI i < (48 : Int32) := nI_lt hi (by decide)
    have f1 : fst (lt x) (i + 1) = if fst (lt x) i < i then fst (lt x) i else if lt x i then i else i + 1 := rfl
    have f2 : hiB (lt x) (i + 1) = if lt x i then i + 1 else hiB (lt x) i := rfl
    refine b_X_reachOf_9 (fun _ q => ?_) (fun _ q => ?_) (fun q => absurd yes q)
    · rw [tbL_n (by omega), b2i_1] at q
      rw [nI_1]
      rw [f2, q] at ih
      have e1 : (if nI i < nI (if fst (lt x) i < i then fst (lt x) i else 48) then nI i else nI (if fst (lt x) i < i then fst (lt x) i else 48)) = nI (if fst (lt x) (i + 1) < i + 1 then fst (lt x) (i + 1) else 48) := by
        rw [f1, q]
        by_cases c : fst (lt x) i < i
        · simp only [if_pos c]; rw [if_neg (nI_nlt (by omega) (by omega)), if_pos (by omega)]
        · simp only [if_neg c, if_true]; rw [if_pos (nI_lt hi (by decide)), if_pos (by omega)]
      rw [e1]
      simpa using ih
    · rw [tbL_n (by omega), b2i_1] at q
      have q : lt x i = false := by cases z : lt x i <;> simp_all
      rw [nI_1]
      rw [f2, f1, q] at ih
      have e1 : (if (if fst (lt x) i < i then fst (lt x) i else i + 1) < i + 1 then (if fst (lt x) i < i then fst (lt x) i else i + 1) else 48) = (if fst (lt x) i < i then fst (lt x) i else 48) := by
        by_cases c : fst (lt x) i < i
        · simp only [if_pos c]; rw [if_pos (by omega)]
        · simp only [if_neg c]; rw [if_neg (by omega)]
      simp only [Bool.false_eq_true, if_false] at ih
      rw [e1] at ih
      exact ih
  · refine b_X_reachOf_9 (fun q => absurd q (by decide)) (fun q => absurd q (by decide)) (fun _ => ?_)
    have h1 := hiB_0 (p := lt x) (n := 48)
    have h2 := hiB_le (lt x) 48
    have h3 := fst_le (lt x) 48
    unfold rchN at hR
    by_cases c : hiB (lt x) 48 = 0
    · rw [if_pos c, if_neg (by have := h1.mp c; omega)]
      rw [c, Nat.zero_sub] at hR
      exact hR
    · have c2 : fst (lt x) 48 < 48 := by
        rcases Nat.lt_or_ge (fst (lt x) 48) 48 with z | z
        · exact z
        · exact absurd (h1.mpr (by omega)) c
      rw [if_neg c, if_pos c2]
      have hh : fst (lt x) 48 < hiB (lt x) 48 := by
        rcases Nat.lt_or_ge (fst (lt x) 48) (hiB (lt x) 48) with z | z
        · exact z
        · exact absurd (hiB_of (fst_yes (lt x) 48 c2) c2) (by omega)
      rw [nI_sub (by omega), nI_1, show hiB (lt x) 48 - 1 - fst (lt x) 48 + 1 = hiB (lt x) 48 - fst (lt x) 48 by omega]
      exact hR
theorem s_X_longestRun {x : Int64} (hR : R (some (.int (nI (mxN (lt x) 48)))) h) : Ev G (d + 1) 0 0 M_X_longestRun 0 [.long x, ev_unk, ev_unk, ev_unk, ev_unk] [] h R := by
  refine b_X_longestRun_0 ?_
  have L := up0 (P := fun i => Ev G (d + 1) 0 0 M_X_longestRun 7 [.long x, ev_unk, .int (nI (mxN (lt x) i)), .int (nI (rnN (lt x) i)), .int (nI i)] [] h R) 48 ?_ ?_
  · exact L
  · intro i hi ih
    have yes : nI i < (48 : Int32) := nI_lt hi (by decide)
    have f1 : mxN (lt x) (i + 1) = max (mxN (lt x) i) (rnN (lt x) (i + 1)) := rfl
    have f2 : rnN (lt x) (i + 1) = if lt x i then rnN (lt x) i + 1 else 0 := rfl
    have b1 := mxN_le (lt x) i
    have b2 := rnN_le (lt x) i
    have mx : ∀ r, r ≤ 49 → (if nI (mxN (lt x) i) < nI r then nI r else nI (mxN (lt x) i)) = nI (max (mxN (lt x) i) r) := fun r hr => by
      by_cases c : mxN (lt x) i < r
      · rw [if_pos (nI_lt c (by omega)), Nat.max_eq_right (by omega)]
      · rw [if_neg (fun z => c ((nI_ltI (by omega) (by omega)).mp z)), Nat.max_eq_left (by omega)]
    refine b_X_longestRun_7 (fun _ q => ?_) (fun _ q => ?_) (fun q => absurd yes q)
    · rw [tbL_n (by omega), b2i_1] at q
      rw [f2, if_pos q] at f1
      rw [f1, f2, if_pos q] at ih
      rw [nI_1, nI_1, mx _ (by omega)]; exact ih
    · rw [tbL_n (by omega), b2i_1] at q
      rw [f2, if_neg q] at f1
      rw [f1, f2, if_neg q] at ih
      rw [nI_1, show (0 : Int32) = nI 0 from rfl, mx _ (by omega)]; exact ih
  · exact b_X_longestRun_7 (fun q => absurd q (by decide)) (fun q => absurd q (by decide)) (fun _ => hR)
def mesN (x : Int64) (m : Int32) : Nat := if m = 0 then pop x else if m = 1 then pop (x &&& ((x <<< ((1 : Int32).toInt64 &&& 63)) ^^^ (-1 : Int64))) else if m = 2 then rchN x else mxN (lt x) 48
end S22
theorem b_X_measureOf_0 {G : ev_G} {d k n : Nat} {h : ev_H} {R : Option Value → ev_H → Prop} {x0 : Int64} {x2 : Int32}
  (k1 : x2 = (0 : Int32) → R (some (.int (nI (pop x0)))) h)
  (k2 : x2 = (1 : Int32) → R (some (.int (nI (pop (x0 &&& ((x0 <<< ((1 : Int32).toInt64 &&& 63)) ^^^ (-1 : Int64))))))) h)
  (k3 : x2 = (2 : Int32) → R (some (.int (nI (rchN x0)))) h)
  (k4 : ¬ x2 = (0 : Int32) → ¬ x2 = (1 : Int32) → ¬ x2 = (2 : Int32) → R (some (.int (nI (mxN (lt x0) 48)))) h)
  : Ev G (d + 2) k n M_X_measureOf 0 [.long x0, ev_unk, .int x2] [] h R :=
  Ev.go (pc' := 1) (ls' := [.long x0, ev_unk, .int x2]) (st' := [.int x2]) [.iload_n 2] (by decide +kernel) rfl <|
  if c1_0 : x2 = (0 : Int32) then Ev.tsw (t := 28) (off := 27) (o := 50) (lo := 0) (hi := 2) (offs := #[27, 32, 45]) (len := 27) (by decide +kernel) (by rw [c1_0]; decide) (by rw [c1_0]; decide) (by rw [c1_0]; decide) rfl <|
    Ev.go (pc' := 29) (ls' := [.long x0, ev_unk, .int x2]) (st' := [.long x0]) [.lload_n 0] (by decide +kernel) rfl <|
    Ev.cS0 (M' := M_JL_bitCount) (as := [.long x0]) (rest := []) l_X_286 M_JL_bitCount_ok M_JL_bitCount_st (by decide +kernel) rfl rfl (Nat.le_of_ble_eq_true rfl) (Nat.le_of_ble_eq_true rfl) (s_JL_bitCount <| show Ev G (d + 2) _ _ M_X_measureOf 32 [.long x0, ev_unk, .int x2] [.int (nI (pop x0))] h R from
      Ev.ret (r := (some (.int (nI (pop x0))))) (Or.inl ⟨_, rfl, by decide +kernel, _, rfl, rfl⟩) (k1 c1_0)
    )
  else
  if c1_1 : x2 = (1 : Int32) then Ev.tsw (t := 33) (off := 32) (o := 50) (lo := 0) (hi := 2) (offs := #[27, 32, 45]) (len := 27) (by decide +kernel) (by rw [c1_1]; decide) (by rw [c1_1]; decide) (by rw [c1_1]; decide) rfl <|
    Ev.go (pc' := 37) (ls' := [.long x0, ev_unk, .int x2]) (st' := [.long (x0 <<< ((1 : Int32).toInt64 &&& 63)), .long x0]) [.lload_n 0, .lload_n 0, .iconst 1, .lshl] (by decide +kernel) rfl <|
    Ev.ldc2 k_X_290 (by decide +kernel) <|
    Ev.go (pc' := 42) (ls' := [.long x0, ev_unk, .int x2]) (st' := [.long (x0 &&& ((x0 <<< ((1 : Int32).toInt64 &&& 63)) ^^^ (-1 : Int64)))]) [.lxor, .land] (by decide +kernel) rfl <|
    Ev.cS0 (M' := M_JL_bitCount) (as := [.long (x0 &&& ((x0 <<< ((1 : Int32).toInt64 &&& 63)) ^^^ (-1 : Int64)))]) (rest := []) l_X_286 M_JL_bitCount_ok M_JL_bitCount_st (by decide +kernel) rfl rfl (Nat.le_of_ble_eq_true rfl) (Nat.le_of_ble_eq_true rfl) (s_JL_bitCount <| show Ev G (d + 2) _ _ M_X_measureOf 45 [.long x0, ev_unk, .int x2] [.int (nI (pop (x0 &&& ((x0 <<< ((1 : Int32).toInt64 &&& 63)) ^^^ (-1 : Int64)))))] h R from
      Ev.ret (r := (some (.int (nI (pop (x0 &&& ((x0 <<< ((1 : Int32).toInt64 &&& 63)) ^^^ (-1 : Int64)))))))) (Or.inl ⟨_, rfl, by decide +kernel, _, rfl, rfl⟩) (k2 c1_1)
    )
  else
  if c1_2 : x2 = (2 : Int32) then Ev.tsw (t := 46) (off := 45) (o := 50) (lo := 0) (hi := 2) (offs := #[27, 32, 45]) (len := 27) (by decide +kernel) (by rw [c1_2]; decide) (by rw [c1_2]; decide) (by rw [c1_2]; decide) rfl <|
    Ev.go (pc' := 47) (ls' := [.long x0, ev_unk, .int x2]) (st' := [.long x0]) [.lload_n 0] (by decide +kernel) rfl <|
    Ev.cS0 (M' := M_X_reachOf) (as := [.long x0]) (rest := []) l_X_292 M_X_reachOf_ok M_X_reachOf_st (by decide +kernel) rfl rfl (Nat.le_of_ble_eq_true rfl) (Nat.le_of_ble_eq_true rfl) (s_X_reachOf <| show Ev G (d + 2) _ _ M_X_measureOf 50 [.long x0, ev_unk, .int x2] [.int (nI (rchN x0))] h R from
      Ev.ret (r := (some (.int (nI (rchN x0))))) (Or.inl ⟨_, rfl, by decide +kernel, _, rfl, rfl⟩) (k3 c1_2)
    )
  else
  Ev.tswd (t := 51) (o := 50) (lo := 0) (hi := 2) (offs := #[27, 32, 45]) (len := 27) (by decide +kernel) (by have qc1_0 := ne_i (v := 0) (0 : Int32) (by decide) c1_0; have qc1_1 := ne_i (v := 1) (1 : Int32) (by decide) c1_1; have qc1_2 := ne_i (v := 2) (2 : Int32) (by decide) c1_2; omega) rfl <|
    Ev.go (pc' := 52) (ls' := [.long x0, ev_unk, .int x2]) (st' := [.long x0]) [.lload_n 0] (by decide +kernel) rfl <|
    Ev.cS0 (M' := M_X_longestRun) (as := [.long x0]) (rest := []) l_X_295 M_X_longestRun_ok M_X_longestRun_st (by decide +kernel) rfl rfl (Nat.le_of_ble_eq_true rfl) (Nat.le_of_ble_eq_true rfl) (s_X_longestRun <| show Ev G (d + 2) _ _ M_X_measureOf 55 [.long x0, ev_unk, .int x2] [.int (nI (mxN (lt x0) 48))] h R from
      Ev.ret (r := (some (.int (nI (mxN (lt x0) 48))))) (Or.inl ⟨_, rfl, by decide +kernel, _, rfl, rfl⟩) (k4 c1_0 c1_1 c1_2)
    )
  
section S22
variable {G : ev_G} {d : Nat} {h : ev_H} {R : Option Value → ev_H → Prop} {S : AS} {lt0 fk fp : Int32}
theorem s_X_measureOf {x : Int64} {m : Int32} (hR : R (some (.int (nI (mesN x m)))) h) : Ev G (d + 2) 0 0 M_X_measureOf 0 [.long x, ev_unk, .int m] [] h R := by
  unfold mesN at hR
  refine b_X_measureOf_0 (fun q => ?_) (fun q => ?_) (fun q => ?_) (fun q q2 q3 => ?_)
  · subst q; exact hR
  · subst q; exact hR
  · subst q; exact hR
  · rw [if_neg q, if_neg q2, if_neg q3] at hR; exact hR
end S22
