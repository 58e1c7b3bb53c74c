/-! THE READER: bits, parts, codes, the filter's line -/
theorem b_Re_readBits_0 {G : ev_G} {d k n : Nat} {h : ev_H} {R : Option Value → ev_H → Prop} 
  (r1 : ∃ fs, hat h 5 (oC 4 fs))
  (k1 : Ev G d 0 0 M_Re_next 0 [.ref 5, ev_unk, ev_unk, ev_unk, ev_unk, ev_unk, ev_unk, ev_unk] [] h (fun r h1 => Ev G (d + 1) k n M_Re_readBits 4 [.ref 5, ev_unk] (r.toList ++ []) h1 R))
  : Ev G (d + 1) k n M_Re_readBits 0 [.ref 5, ev_unk] [] h R :=
  Ev.go (pc' := 1) (ls' := [.ref 5, ev_unk]) (st' := [.ref 5]) [.aload_n 0] (by decide +kernel) rfl <|
  Ev.cV0 (M' := M_Re_next) (as := []) (rest := []) l_Re_61 M_Re_next_ok M_Re_next_in M_Re_next_se (by decide +kernel) r1 rfl rfl rfl (Nat.le_of_ble_eq_true rfl) (Nat.le_of_ble_eq_true rfl) k1
theorem b_Re_readBits_4 {G : ev_G} {d k n : Nat} {h : ev_H} {R : Option Value → ev_H → Prop} {L1 : Nat} {T2 : Tk} {B3 : Nat → Nat} {lo4 : Nat} {hi5 : Nat} {f_length_6 : Int32} {f_kind_7 : Int32} {f_start_8 : Int32} {f_end_9 : Int32} {f_bits_10 : Int32} {f_parts_11 : Int32} {f_size_12 : Int32} {fv13 : Value}
  (a7 : hat h 5 (oC 4 [.ref 6, .ref 12, .ref 14, .ref 13, .int f_length_6, .int f_kind_7, .int f_start_8, .int f_end_9]))
  (a8 : hat h 14 (oC 6 [.int f_bits_10, .int f_parts_11, .ref 15, .int f_size_12, .ref 16, .ref 17, fv13]))
  (pr1 : ReB h L1 T2)
  (pr2 : TxB h B3 L1)
  (pr3 : TkOk B3 L1 T2)
  (pr4 : (4 : Int32) = nI lo4 ∧ lo4 < 2147483648)
  (pr5 : (48 : Int32) = nI hi5 ∧ hi5 < 2147483648)
  (r6 : ∃ fs, hat h 5 (oC 4 fs))
  (k1 : (nA (pNum B3 T2 lo4 hi5)) < (0 : Int32) → R (some (.int (-(nA (pNum B3 T2 lo4 hi5))))) h)
  (k2 : ¬ (nA (pNum B3 T2 lo4 hi5)) < (0 : Int32) → Ev G d 0 0 M_Re_next 0 [.ref 5, ev_unk, ev_unk, ev_unk, ev_unk, ev_unk, ev_unk, ev_unk] [] (hset h 14 (oC 6 [.int (nA (pNum B3 T2 lo4 hi5)), .int f_parts_11, .ref 15, .int f_size_12, .ref 16, .ref 17, fv13])) (fun r h1 => Ev G (d + 1) k n M_Re_readBits 31 [.ref 5, .int (nA (pNum B3 T2 lo4 hi5))] (r.toList ++ []) h1 R))
  : Ev G (d + 1) k n M_Re_readBits 4 [.ref 5, ev_unk] [] h R :=
  Ev.go (pc' := 8) (ls' := [.ref 5, ev_unk]) (st' := [.int (48 : Int32), .int (4 : Int32), .ref 5]) [.aload_n 0, .iconst 4, .bipush (48)] (by decide +kernel) rfl <|
  Ev.cV0 (M' := M_Re_number) (as := [.int (4 : Int32), .int (48 : Int32)]) (rest := []) l_Re_112 M_Re_number_ok M_Re_number_in M_Re_number_se (by decide +kernel) r6 rfl rfl rfl (Nat.le_of_ble_eq_true rfl) (Nat.le_of_ble_eq_true rfl) (s_Re_number pr1 pr2 pr3 pr4 pr5 <| show Ev G (d + 1) _ _ M_Re_readBits 11 [.ref 5, ev_unk] [.int (nA (pNum B3 T2 lo4 hi5))] h R from
    Ev.go (pc' := 13) (ls' := [.ref 5, .int (nA (pNum B3 T2 lo4 hi5))]) (st' := [.int (nA (pNum B3 T2 lo4 hi5))]) [.istore_n 1, .iload_n 1] (by decide +kernel) rfl <|
    Ev.br (i := .ifCond .ge (6)) (P := (nA (pNum B3 T2 lo4 hi5)) < (0 : Int32)) (t := 16) (f := 19) (r := []) (by decide +kernel) rfl (fun c1 =>
      Ev.go (pc' := 18) (ls' := [.ref 5, .int (nA (pNum B3 T2 lo4 hi5))]) (st' := [.int (-(nA (pNum B3 T2 lo4 hi5)))]) [.iload_n 1, .ineg] (by decide +kernel) rfl <|
      Ev.ret (r := (some (.int (-(nA (pNum B3 T2 lo4 hi5)))))) (Or.inl ⟨_, rfl, by decide +kernel, _, rfl, rfl⟩) (k1 c1)
    ) (fun c1 =>
      Ev.go (pc' := 20) (ls' := [.ref 5, .int (nA (pNum B3 T2 lo4 hi5))]) (st' := [.ref 5]) [.aload_n 0] (by decide +kernel) rfl <|
      Ev.getf f_Re_28 (by decide +kernel) a7 rfl <|
      Ev.go (pc' := 24) (ls' := [.ref 5, .int (nA (pNum B3 T2 lo4 hi5))]) (st' := [.int (nA (pNum B3 T2 lo4 hi5)), .ref 14]) [.iload_n 1] (by decide +kernel) rfl <|
      Ev.putf f_Re_108 (by decide +kernel) a8 (Nat.le_of_ble_eq_true rfl) rfl (fun q => nomatch q) <| show Ev G (d + 1) _ _ M_Re_readBits 27 [.ref 5, .int (nA (pNum B3 T2 lo4 hi5))] [] (hset h 14 (oC 6 [.int (nA (pNum B3 T2 lo4 hi5)), .int f_parts_11, .ref 15, .int f_size_12, .ref 16, .ref 17, fv13])) R from
      Ev.go (pc' := 28) (ls' := [.ref 5, .int (nA (pNum B3 T2 lo4 hi5))]) (st' := [.ref 5]) [.aload_n 0] (by decide +kernel) rfl <|
      Ev.cV0 (M' := M_Re_next) (as := []) (rest := []) l_Re_61 M_Re_next_ok M_Re_next_in M_Re_next_se (by decide +kernel) ⟨_, (hat_ne a7 (by decide))⟩ rfl rfl rfl (Nat.le_of_ble_eq_true rfl) (Nat.le_of_ble_eq_true rfl) (k2 c1)
    )
  )
theorem b_Re_readBits_31 {G : ev_G} {d k n : Nat} {h : ev_H} {R : Option Value → ev_H → Prop} {x1 : Int32}
  (r1 : ∃ fs, hat h 5 (oC 4 fs))
  (k1 : Ev G d 0 0 M_Re_sign 0 [.ref 5, .int (59 : Int32)] [] h (fun r h1 => Ev G (d + 1) k n M_Re_readBits 37 [.ref 5, .int x1] (r.toList ++ []) h1 R))
  : Ev G (d + 1) k n M_Re_readBits 31 [.ref 5, .int x1] [] h R :=
  Ev.go (pc' := 34) (ls' := [.ref 5, .int x1]) (st' := [.int (59 : Int32), .ref 5]) [.aload_n 0, .bipush (59)] (by decide +kernel) rfl <|
  Ev.cV0 (M' := M_Re_sign) (as := [.int (59 : Int32)]) (rest := []) l_Re_115 M_Re_sign_ok M_Re_sign_in M_Re_sign_se (by decide +kernel) r1 rfl rfl rfl (Nat.le_of_ble_eq_true rfl) (Nat.le_of_ble_eq_true rfl) k1
theorem b_Re_readBits_37 {G : ev_G} {d k n : Nat} {h : ev_H} {R : Option Value → ev_H → Prop} {x1 : Int32} {y0 : Int32}
  (k1 : R (some (.int y0)) h)
  : Ev G (d + 1) k n M_Re_readBits 37 [.ref 5, .int x1] [.int y0] h R :=
  Ev.ret (r := (some (.int y0))) (Or.inl ⟨_, rfl, by decide +kernel, _, rfl, rfl⟩) k1
theorem b_Re_readParts_0 {G : ev_G} {d k n : Nat} {h : ev_H} {R : Option Value → ev_H → Prop} 
  (r1 : ∃ fs, hat h 5 (oC 4 fs))
  (k1 : Ev G d 0 0 M_Re_next 0 [.ref 5, ev_unk, ev_unk, ev_unk, ev_unk, ev_unk, ev_unk, ev_unk] [] h (fun r h1 => Ev G (d + 1) k n M_Re_readParts 4 [.ref 5, ev_unk, ev_unk, ev_unk] (r.toList ++ []) h1 R))
  : Ev G (d + 1) k n M_Re_readParts 0 [.ref 5, ev_unk, ev_unk, ev_unk] [] h R :=
  Ev.go (pc' := 1) (ls' := [.ref 5, ev_unk, ev_unk, ev_unk]) (st' := [.ref 5]) [.aload_n 0] (by decide +kernel) rfl <|
  Ev.cV0 (M' := M_Re_next) (as := []) (rest := []) l_Re_61 M_Re_next_ok M_Re_next_in M_Re_next_se (by decide +kernel) r1 rfl rfl rfl (Nat.le_of_ble_eq_true rfl) (Nat.le_of_ble_eq_true rfl) k1
theorem b_Re_readParts_4 {G : ev_G} {d k n : Nat} {h : ev_H} {R : Option Value → ev_H → Prop} {f_length_1 : Int32} {f_kind_2 : Int32} {f_start_3 : Int32} {f_end_4 : Int32} {f_bits_5 : Int32} {f_parts_6 : Int32} {f_size_7 : Int32} {fv8 : Value}
  (a1 : hat h 5 (oC 4 [.ref 6, .ref 12, .ref 14, .ref 13, .int f_length_1, .int f_kind_2, .int f_start_3, .int f_end_4]))
  (a2 : hat h 14 (oC 6 [.int f_bits_5, .int f_parts_6, .ref 15, .int f_size_7, .ref 16, .ref 17, fv8]))
  (k1 : Ev G (d + 1) k n M_Re_readParts 14 [.ref 5, .int f_bits_5, .int (0 : Int32), ev_unk] [] h R)
  : Ev G (d + 1) k n M_Re_readParts 4 [.ref 5, ev_unk, ev_unk, ev_unk] [] h R :=
  Ev.go (pc' := 5) (ls' := [.ref 5, ev_unk, ev_unk, ev_unk]) (st' := [.ref 5]) [.aload_n 0] (by decide +kernel) rfl <|
  Ev.getf f_Re_28 (by decide +kernel) a1 rfl <|
  Ev.getf f_Re_108 (by decide +kernel) a2 rfl <|
  Ev.go (pc' := 14) (ls' := [.ref 5, .int f_bits_5, .int (0 : Int32), ev_unk]) (st' := []) [.istore_n 1, .iconst 0, .istore_n 2] (by decide +kernel) rfl <|
  k1
theorem b_Re_readParts_14 {G : ev_G} {d k n : Nat} {h : ev_H} {R : Option Value → ev_H → Prop} {x1 : Int32} {x2 : Int32} {f_length_1 : Int32} {f_kind_2 : Int32} {f_start_3 : Int32} {f_end_4 : Int32}
  (a1 : hat h 5 (oC 4 [.ref 6, .ref 12, .ref 14, .ref 13, .int f_length_1, .int f_kind_2, .int f_start_3, .int f_end_4]))
  (k1 : x2 = (0 : Int32) → x2 < (6 : Int32) → Ev G (d + 1) k n M_Re_readParts 51 [.ref 5, .int x1, .int x2, ev_unk] [.int (if (24 : Int32) < x1 then (24 : Int32) else x1), .int (1 : Int32), .ref 5] h R)
  (k2 : x2 = (0 : Int32) → ¬ x2 < (6 : Int32) → Ev G (d + 1) k n M_Re_readParts 51 [.ref 5, .int x1, .int x2, ev_unk] [.int (0 : Int32), .int (1 : Int32), .ref 5] h R)
  (k3 : ¬ x2 = (0 : Int32) → (6 : Int32) < x2 → Ev G (d + 1) k n M_Re_readParts 86 [.ref 5, .int x1, .int x2, ev_unk] [] h R)
  (k4 : ¬ x2 = (0 : Int32) → ¬ (6 : Int32) < x2 → f_kind_2 = (48 : Int32) → x2 < (6 : Int32) → Ev G (d + 1) k n M_Re_readParts 51 [.ref 5, .int x1, .int x2, ev_unk] [.int (if (24 : Int32) < x1 then (24 : Int32) else x1), .int (1 : Int32), .ref 5] h R)
  (k5 : ¬ x2 = (0 : Int32) → ¬ (6 : Int32) < x2 → f_kind_2 = (48 : Int32) → ¬ x2 < (6 : Int32) → Ev G (d + 1) k n M_Re_readParts 51 [.ref 5, .int x1, .int x2, ev_unk] [.int (0 : Int32), .int (1 : Int32), .ref 5] h R)
  (k6 : ¬ x2 = (0 : Int32) → ¬ (6 : Int32) < x2 → ¬ f_kind_2 = (48 : Int32) → Ev G (d + 1) k n M_Re_readParts 86 [.ref 5, .int x1, .int x2, ev_unk] [] h R)
  : Ev G (d + 1) k n M_Re_readParts 14 [.ref 5, .int x1, .int x2, ev_unk] [] h R :=
  Ev.go (pc' := 15) (ls' := [.ref 5, .int x1, .int x2, ev_unk]) (st' := [.int x2]) [.iload_n 2] (by decide +kernel) rfl <|
  Ev.br (i := .ifCond .eq (18)) (P := x2 = (0 : Int32)) (t := 33) (f := 18) (r := []) (by decide +kernel) rfl (fun c1 =>
    Ev.go (pc' := 38) (ls' := [.ref 5, .int x1, .int x2, ev_unk]) (st' := [.int (6 : Int32), .int x2, .int (1 : Int32), .ref 5]) [.aload_n 0, .iconst 1, .iload_n 2, .bipush (6)] (by decide +kernel) rfl <|
    Ev.br (i := .if_icmp .ge (12)) (P := x2 < (6 : Int32)) (t := 41) (f := 50) (r := [.int (1 : Int32), .ref 5]) (by decide +kernel) rfl (fun c2 =>
      Ev.go (pc' := 44) (ls' := [.ref 5, .int x1, .int x2, ev_unk]) (st' := [.int (24 : Int32), .int x1, .int (1 : Int32), .ref 5]) [.iload_n 1, .bipush (24)] (by decide +kernel) rfl <|
      Ev.mmin lL_Re_52 w_minS w_mathI w_minC (Nat.le_of_ble_eq_true rfl) (by decide +kernel) <|
      Ev.go (pc' := 51) (ls' := [.ref 5, .int x1, .int x2, ev_unk]) (st' := [.int (if (24 : Int32) < x1 then (24 : Int32) else x1), .int (1 : Int32), .ref 5]) [.goto (4)] (by decide +kernel) rfl <|
      (k1 c1 c2)
    ) (fun c2 =>
      Ev.go (pc' := 51) (ls' := [.ref 5, .int x1, .int x2, ev_unk]) (st' := [.int (0 : Int32), .int (1 : Int32), .ref 5]) [.iconst 0] (by decide +kernel) rfl <|
      (k2 c1 c2)
    )
  ) (fun c1 =>
    Ev.go (pc' := 21) (ls' := [.ref 5, .int x1, .int x2, ev_unk]) (st' := [.int (6 : Int32), .int x2]) [.iload_n 2, .bipush (6)] (by decide +kernel) rfl <|
    Ev.br (i := .if_icmp .gt (65)) (P := (6 : Int32) < x2) (t := 86) (f := 24) (r := []) (by decide +kernel) rfl (fun c2 =>
      (k3 c1 c2)
    ) (fun c2 =>
      Ev.go (pc' := 25) (ls' := [.ref 5, .int x1, .int x2, ev_unk]) (st' := [.ref 5]) [.aload_n 0] (by decide +kernel) rfl <|
      Ev.getf f_Re_43 (by decide +kernel) a1 rfl <|
      Ev.go (pc' := 30) (ls' := [.ref 5, .int x1, .int x2, ev_unk]) (st' := [.int (48 : Int32), .int f_kind_2]) [.bipush (48)] (by decide +kernel) rfl <|
      Ev.br (i := .if_icmp .ne (56)) (P := f_kind_2 = (48 : Int32)) (t := 33) (f := 86) (r := []) (by decide +kernel) rfl (fun c3 =>
        Ev.go (pc' := 38) (ls' := [.ref 5, .int x1, .int x2, ev_unk]) (st' := [.int (6 : Int32), .int x2, .int (1 : Int32), .ref 5]) [.aload_n 0, .iconst 1, .iload_n 2, .bipush (6)] (by decide +kernel) rfl <|
        Ev.br (i := .if_icmp .ge (12)) (P := x2 < (6 : Int32)) (t := 41) (f := 50) (r := [.int (1 : Int32), .ref 5]) (by decide +kernel) rfl (fun c4 =>
          Ev.go (pc' := 44) (ls' := [.ref 5, .int x1, .int x2, ev_unk]) (st' := [.int (24 : Int32), .int x1, .int (1 : Int32), .ref 5]) [.iload_n 1, .bipush (24)] (by decide +kernel) rfl <|
          Ev.mmin lL_Re_52 w_minS w_mathI w_minC (Nat.le_of_ble_eq_true rfl) (by decide +kernel) <|
          Ev.go (pc' := 51) (ls' := [.ref 5, .int x1, .int x2, ev_unk]) (st' := [.int (if (24 : Int32) < x1 then (24 : Int32) else x1), .int (1 : Int32), .ref 5]) [.goto (4)] (by decide +kernel) rfl <|
          (k4 c1 c2 c3 c4)
        ) (fun c4 =>
          Ev.go (pc' := 51) (ls' := [.ref 5, .int x1, .int x2, ev_unk]) (st' := [.int (0 : Int32), .int (1 : Int32), .ref 5]) [.iconst 0] (by decide +kernel) rfl <|
          (k5 c1 c2 c3 c4)
        )
      ) (fun c3 =>
        (k6 c1 c2 c3)
      )
    )
  )
theorem b_Re_readParts_51 {G : ev_G} {d k n : Nat} {h : ev_H} {R : Option Value → ev_H → Prop} {x1 : Int32} {x2 : Int32} {y1 : Int32} {y2 : Int32} {L1 : Nat} {T2 : Tk} {B3 : Nat → Nat} {lo4 : Nat} {hi5 : Nat} {f_length_6 : Int32} {f_kind_7 : Int32} {f_start_8 : Int32} {f_end_9 : Int32} {f_bits_10 : Int32} {f_parts_11 : Int32} {f_size_12 : Int32} {fv13 : Value} {g14 : Nat → Int32} {j15 : Nat}
  (a7 : hat h 5 (oC 4 [.ref 6, .ref 12, .ref 14, .ref 13, .int f_length_6, .int f_kind_7, .int f_start_8, .int f_end_9]))
  (a8 : hat h 14 (oC 6 [.int f_bits_10, .int f_parts_11, .ref 15, .int f_size_12, .ref 16, .ref 17, fv13]))
  (a9 : hat h 15 (aI 6 g14))
  (pr1 : ReB h L1 T2)
  (pr2 : TxB h B3 L1)
  (pr3 : TkOk B3 L1 T2)
  (pr4 : y1 = nI lo4 ∧ lo4 < 2147483648)
  (pr5 : y2 = nI hi5 ∧ hi5 < 2147483648)
  (r6 : ∃ fs, hat h 5 (oC 4 fs))
  (i10 : ¬ (nA (pNum B3 T2 lo4 hi5)) < (0 : Int32) → ev_ix x2 j15 6)
  (k1 : (nA (pNum B3 T2 lo4 hi5)) < (0 : Int32) → R (some (.int (-(nA (pNum B3 T2 lo4 hi5))))) h)
  (k2 : ¬ (nA (pNum B3 T2 lo4 hi5)) < (0 : Int32) → Ev G d 0 0 M_Re_next 0 [.ref 5, ev_unk, ev_unk, ev_unk, ev_unk, ev_unk, ev_unk, ev_unk] [] (hset h 15 (aI 6 (upd g14 j15 (nA (pNum B3 T2 lo4 hi5))))) (fun r h1 => Ev G (d + 1) k n M_Re_readParts 83 [.ref 5, .int (x1 - (nA (pNum B3 T2 lo4 hi5))), .int (x2 + (1 : Int32)), .int (nA (pNum B3 T2 lo4 hi5))] (r.toList ++ []) h1 R))
  : Ev G (d + 1) k n M_Re_readParts 51 [.ref 5, .int x1, .int x2, ev_unk] [.int y2, .int y1, .ref 5] h R :=
  Ev.cV0 (M' := M_Re_number) (as := [.int y1, .int y2]) (rest := []) l_Re_112 M_Re_number_ok M_Re_number_in M_Re_number_se (by decide +kernel) r6 rfl rfl rfl (Nat.le_of_ble_eq_true rfl) (Nat.le_of_ble_eq_true rfl) (s_Re_number pr1 pr2 pr3 pr4 pr5 <| show Ev G (d + 1) _ _ M_Re_readParts 54 [.ref 5, .int x1, .int x2, ev_unk] [.int (nA (pNum B3 T2 lo4 hi5))] h R from
    Ev.go (pc' := 56) (ls' := [.ref 5, .int x1, .int x2, .int (nA (pNum B3 T2 lo4 hi5))]) (st' := [.int (nA (pNum B3 T2 lo4 hi5))]) [.istore_n 3, .iload_n 3] (by decide +kernel) rfl <|
    Ev.br (i := .ifCond .ge (6)) (P := (nA (pNum B3 T2 lo4 hi5)) < (0 : Int32)) (t := 59) (f := 62) (r := []) (by decide +kernel) rfl (fun c1 =>
      Ev.go (pc' := 61) (ls' := [.ref 5, .int x1, .int x2, .int (nA (pNum B3 T2 lo4 hi5))]) (st' := [.int (-(nA (pNum B3 T2 lo4 hi5)))]) [.iload_n 3, .ineg] (by decide +kernel) rfl <|
      Ev.ret (r := (some (.int (-(nA (pNum B3 T2 lo4 hi5)))))) (Or.inl ⟨_, rfl, by decide +kernel, _, rfl, rfl⟩) (k1 c1)
    ) (fun c1 =>
      Ev.go (pc' := 63) (ls' := [.ref 5, .int x1, .int x2, .int (nA (pNum B3 T2 lo4 hi5))]) (st' := [.ref 5]) [.aload_n 0] (by decide +kernel) rfl <|
      Ev.getf f_Re_28 (by decide +kernel) a7 rfl <|
      Ev.getf f_Re_118 (by decide +kernel) a8 rfl <|
      Ev.go (pc' := 71) (ls' := [.ref 5, .int x1, .int x2, .int (nA (pNum B3 T2 lo4 hi5))]) (st' := [.int (nA (pNum B3 T2 lo4 hi5)), .int x2, .ref 15]) [.iload_n 2, .iload_n 3] (by decide +kernel) rfl <|
      Ev.iast (j := j15) (by decide +kernel) a9 (i10 c1) <| show Ev G (d + 1) _ _ M_Re_readParts 72 [.ref 5, .int x1, .int x2, .int (nA (pNum B3 T2 lo4 hi5))] [] (hset h 15 (aI 6 (upd g14 j15 (nA (pNum B3 T2 lo4 hi5))))) R from
      Ev.go (pc' := 80) (ls' := [.ref 5, .int (x1 - (nA (pNum B3 T2 lo4 hi5))), .int (x2 + (1 : Int32)), .int (nA (pNum B3 T2 lo4 hi5))]) (st' := [.ref 5]) [.iinc 2 (1), .iload_n 1, .iload_n 3, .isub, .istore_n 1, .aload_n 0] (by decide +kernel) rfl <|
      Ev.cV0 (M' := M_Re_next) (as := []) (rest := []) l_Re_61 M_Re_next_ok M_Re_next_in M_Re_next_se (by decide +kernel) ⟨_, (hat_ne a7 (by decide))⟩ rfl rfl rfl (Nat.le_of_ble_eq_true rfl) (Nat.le_of_ble_eq_true rfl) (k2 c1)
    )
  )
theorem b_Re_readParts_83 {G : ev_G} {d k n : Nat} {h : ev_H} {R : Option Value → ev_H → Prop} {x1 : Int32} {x2 : Int32} {x3 : Int32}
  (k1 : Ev G (d + 1) k n M_Re_readParts 14 [.ref 5, .int x1, .int x2, ev_unk] [] h R)
  : Ev G (d + 1) k n M_Re_readParts 83 [.ref 5, .int x1, .int x2, .int x3] [] h R :=
  Ev.go (pc' := 14) (ls' := [.ref 5, .int x1, .int x2, .int x3]) (st' := []) [.goto (-69)] (by decide +kernel) rfl <|
  Ev.forget (ls' := [.ref 5, .int x1, .int x2, ev_unk]) ⟨Or.inr rfl, Or.inr rfl, Or.inr rfl, Or.inl rfl, trivial⟩ <|
  k1
theorem b_Re_readParts_86 {G : ev_G} {d k n : Nat} {h : ev_H} {R : Option Value → ev_H → Prop} {x1 : Int32} {x2 : Int32} {f_length_1 : Int32} {f_kind_2 : Int32} {f_start_3 : Int32} {f_end_4 : Int32} {f_bits_5 : Int32} {f_parts_6 : Int32} {f_size_7 : Int32} {fv8 : Value}
  (a1 : hat h 5 (oC 4 [.ref 6, .ref 12, .ref 14, .ref 13, .int f_length_1, .int f_kind_2, .int f_start_3, .int f_end_4]))
  (a2 : hat h 14 (oC 6 [.int f_bits_5, .int f_parts_6, .ref 15, .int f_size_7, .ref 16, .ref 17, fv8]))
  (k1 : f_kind_2 = (59 : Int32) → (0 : Int32) < x1 → R (some (.int (4 : Int32))) (hset h 14 (oC 6 [.int f_bits_5, .int x2, .ref 15, .int f_size_7, .ref 16, .ref 17, fv8])))
  (k2 : f_kind_2 = (59 : Int32) → ¬ (0 : Int32) < x1 → Ev G d 0 0 M_Re_sign 0 [.ref 5, .int (59 : Int32)] [] (hset h 14 (oC 6 [.int f_bits_5, .int x2, .ref 15, .int f_size_7, .ref 16, .ref 17, fv8])) (fun r h1 => Ev G (d + 1) k n M_Re_readParts 115 [.ref 5, .int x1, .int x2, ev_unk] (r.toList ++ []) h1 R))
  (k3 : ¬ f_kind_2 = (59 : Int32) → Ev G d 0 0 M_Re_sign 0 [.ref 5, .int (59 : Int32)] [] (hset h 14 (oC 6 [.int f_bits_5, .int x2, .ref 15, .int f_size_7, .ref 16, .ref 17, fv8])) (fun r h1 => Ev G (d + 1) k n M_Re_readParts 115 [.ref 5, .int x1, .int x2, ev_unk] (r.toList ++ []) h1 R))
  : Ev G (d + 1) k n M_Re_readParts 86 [.ref 5, .int x1, .int x2, ev_unk] [] h R :=
  Ev.go (pc' := 87) (ls' := [.ref 5, .int x1, .int x2, ev_unk]) (st' := [.ref 5]) [.aload_n 0] (by decide +kernel) rfl <|
  Ev.getf f_Re_28 (by decide +kernel) a1 rfl <|
  Ev.go (pc' := 91) (ls' := [.ref 5, .int x1, .int x2, ev_unk]) (st' := [.int x2, .ref 14]) [.iload_n 2] (by decide +kernel) rfl <|
  Ev.putf f_Re_122 (by decide +kernel) a2 (Nat.le_of_ble_eq_true rfl) rfl (fun q => nomatch q) <| show Ev G (d + 1) _ _ M_Re_readParts 94 [.ref 5, .int x1, .int x2, ev_unk] [] (hset h 14 (oC 6 [.int f_bits_5, .int x2, .ref 15, .int f_size_7, .ref 16, .ref 17, fv8])) R from
  Ev.go (pc' := 95) (ls' := [.ref 5, .int x1, .int x2, ev_unk]) (st' := [.ref 5]) [.aload_n 0] (by decide +kernel) rfl <|
  Ev.getf f_Re_43 (by decide +kernel) (hat_ne a1 (by decide)) rfl <|
  Ev.go (pc' := 100) (ls' := [.ref 5, .int x1, .int x2, ev_unk]) (st' := [.int (59 : Int32), .int f_kind_2]) [.bipush (59)] (by decide +kernel) rfl <|
  Ev.br (i := .if_icmp .ne (9)) (P := f_kind_2 = (59 : Int32)) (t := 103) (f := 109) (r := []) (by decide +kernel) rfl (fun c1 =>
    Ev.go (pc' := 104) (ls' := [.ref 5, .int x1, .int x2, ev_unk]) (st' := [.int x1]) [.iload_n 1] (by decide +kernel) rfl <|
    Ev.br (i := .ifCond .le (5)) (P := (0 : Int32) < x1) (t := 107) (f := 109) (r := []) (by decide +kernel) rfl (fun c2 =>
      Ev.go (pc' := 108) (ls' := [.ref 5, .int x1, .int x2, ev_unk]) (st' := [.int (4 : Int32)]) [.iconst 4] (by decide +kernel) rfl <|
      Ev.ret (r := (some (.int (4 : Int32)))) (Or.inl ⟨_, rfl, by decide +kernel, _, rfl, rfl⟩) (k1 c1 c2)
    ) (fun c2 =>
      Ev.go (pc' := 112) (ls' := [.ref 5, .int x1, .int x2, ev_unk]) (st' := [.int (59 : Int32), .ref 5]) [.aload_n 0, .bipush (59)] (by decide +kernel) rfl <|
      Ev.cV0 (M' := M_Re_sign) (as := [.int (59 : Int32)]) (rest := []) l_Re_115 M_Re_sign_ok M_Re_sign_in M_Re_sign_se (by decide +kernel) ⟨_, (hat_ne a1 (by decide))⟩ rfl rfl rfl (Nat.le_of_ble_eq_true rfl) (Nat.le_of_ble_eq_true rfl) (k2 c1 c2)
    )
  ) (fun c1 =>
    Ev.go (pc' := 112) (ls' := [.ref 5, .int x1, .int x2, ev_unk]) (st' := [.int (59 : Int32), .ref 5]) [.aload_n 0, .bipush (59)] (by decide +kernel) rfl <|
    Ev.cV0 (M' := M_Re_sign) (as := [.int (59 : Int32)]) (rest := []) l_Re_115 M_Re_sign_ok M_Re_sign_in M_Re_sign_se (by decide +kernel) ⟨_, (hat_ne a1 (by decide))⟩ rfl rfl rfl (Nat.le_of_ble_eq_true rfl) (Nat.le_of_ble_eq_true rfl) (k3 c1)
  )
theorem b_Re_readParts_115 {G : ev_G} {d k n : Nat} {h : ev_H} {R : Option Value → ev_H → Prop} {x1 : Int32} {x2 : Int32} {y0 : Int32}
  (k1 : R (some (.int y0)) h)
  : Ev G (d + 1) k n M_Re_readParts 115 [.ref 5, .int x1, .int x2, ev_unk] [.int y0] h R :=
  Ev.ret (r := (some (.int y0))) (Or.inl ⟨_, rfl, by decide +kernel, _, rfl, rfl⟩) k1
theorem b_Re_readCode_0 {G : ev_G} {d k n : Nat} {h : ev_H} {R : Option Value → ev_H → Prop} {f_length_1 : Int32} {f_kind_2 : Int32} {f_start_3 : Int32} {f_end_4 : Int32} {f_bits_5 : Int32} {f_parts_6 : Int32} {f_size_7 : Int32} {fv8 : Value}
  (a1 : hat h 5 (oC 4 [.ref 6, .ref 12, .ref 14, .ref 13, .int f_length_1, .int f_kind_2, .int f_start_3, .int f_end_4]))
  (a2 : hat h 14 (oC 6 [.int f_bits_5, .int f_parts_6, .ref 15, .int f_size_7, .ref 16, .ref 17, fv8]))
  (k1 : f_size_7 < (32 : Int32) → Ev G (d + 4) 0 0 M_Re_next 0 [.ref 5, ev_unk, ev_unk, ev_unk, ev_unk, ev_unk, ev_unk, ev_unk] [] h (fun r h1 => Ev G (d + 5) k n M_Re_readCode 19 [.ref 5, ev_unk, ev_unk, ev_unk] (r.toList ++ []) h1 R))
  (k2 : ¬ f_size_7 < (32 : Int32) → R (some (.int (6 : Int32))) h)
  : Ev G (d + 5) k n M_Re_readCode 0 [.ref 5, ev_unk, ev_unk, ev_unk] [] h R :=
  Ev.go (pc' := 1) (ls' := [.ref 5, ev_unk, ev_unk, ev_unk]) (st' := [.ref 5]) [.aload_n 0] (by decide +kernel) rfl <|
  Ev.getf f_Re_28 (by decide +kernel) a1 rfl <|
  Ev.getf f_Re_124 (by decide +kernel) a2 rfl <|
  Ev.go (pc' := 9) (ls' := [.ref 5, ev_unk, ev_unk, ev_unk]) (st' := [.int (32 : Int32), .int f_size_7]) [.bipush (32)] (by decide +kernel) rfl <|
  Ev.br (i := .if_icmp .lt (6)) (P := f_size_7 < (32 : Int32)) (t := 15) (f := 12) (r := []) (by decide +kernel) rfl (fun c1 =>
    Ev.go (pc' := 16) (ls' := [.ref 5, ev_unk, ev_unk, ev_unk]) (st' := [.ref 5]) [.aload_n 0] (by decide +kernel) rfl <|
    Ev.cV0 (M' := M_Re_next) (as := []) (rest := []) l_Re_61 M_Re_next_ok M_Re_next_in M_Re_next_se (by decide +kernel) ⟨_, a1⟩ rfl rfl rfl (Nat.le_of_ble_eq_true rfl) (Nat.le_of_ble_eq_true rfl) (k1 c1)
  ) (fun c1 =>
    Ev.go (pc' := 14) (ls' := [.ref 5, ev_unk, ev_unk, ev_unk]) (st' := [.int (6 : Int32)]) [.bipush (6)] (by decide +kernel) rfl <|
    Ev.ret (r := (some (.int (6 : Int32)))) (Or.inl ⟨_, rfl, by decide +kernel, _, rfl, rfl⟩) (k2 c1)
  )
theorem b_Re_readCode_19 {G : ev_G} {d k n : Nat} {h : ev_H} {R : Option Value → ev_H → Prop} {L1 : Nat} {T2 : Tk} {B3 : Nat → Nat} {S4 : AS} {f_length_5 : Int32} {f_kind_6 : Int32} {f_start_7 : Int32} {f_end_8 : Int32} {S9 : AS}
  (a7 : hat h 5 (oC 4 [.ref 6, .ref 12, .ref 14, .ref 13, .int f_length_5, .int f_kind_6, .int f_start_7, .int f_end_8]))
  (pr1 : ReB h L1 T2)
  (pr2 : TxB h B3 L1)
  (pr3 : TkOk B3 L1 T2)
  (pr4 : StR h 14 S4)
  (pr5 : sB S4 ≤ 48)
  (r6 : ∃ fs, hat h 5 (oC 4 fs))
  (pr8 : ¬ (bA (pBin B3 T2 (sB S4))) < (0 : Int64) → StR h 14 S9)
  (pr9 : ¬ (bA (pBin B3 T2 (sB S4))) < (0 : Int64) → sOk S9)
  (r10 : ¬ (bA (pBin B3 T2 (sB S4))) < (0 : Int64) → ∃ fs, hat h 14 (oC 6 fs))
  (k1 : (bA (pBin B3 T2 (sB S4))) < (0 : Int64) → R (some (.int (-(bA (pBin B3 T2 (sB S4)))).toInt32)) h)
  (k2 : ¬ (bA (pBin B3 T2 (sB S4))) < (0 : Int64) → (frI (whP S9 (bA (pBin B3 T2 (sB S4)))) (sN S9)) = (-1 : Int32) → Ev G (d + 4) 0 0 M_Re_next 0 [.ref 5, ev_unk, ev_unk, ev_unk, ev_unk, ev_unk, ev_unk, ev_unk] [] h (fun r h1 => Ev G (d + 5) k n M_Re_readCode 52 [.ref 5, .long (bA (pBin B3 T2 (sB S4))), ev_unk, ev_unk] (r.toList ++ []) h1 R))
  (k3 : ¬ (bA (pBin B3 T2 (sB S4))) < (0 : Int64) → ¬ (frI (whP S9 (bA (pBin B3 T2 (sB S4)))) (sN S9)) = (-1 : Int32) → R (some (.int (5 : Int32))) h)
  : Ev G (d + 5) k n M_Re_readCode 19 [.ref 5, ev_unk, ev_unk, ev_unk] [] h R :=
  Ev.go (pc' := 20) (ls' := [.ref 5, ev_unk, ev_unk, ev_unk]) (st' := [.ref 5]) [.aload_n 0] (by decide +kernel) rfl <|
  Ev.cV0 (M' := M_Re_binary) (as := []) (rest := []) l_Re_127 M_Re_binary_ok M_Re_binary_in M_Re_binary_se (by decide +kernel) r6 rfl rfl rfl (Nat.le_of_ble_eq_true rfl) (Nat.le_of_ble_eq_true rfl) (s_Re_binary pr1 pr2 pr3 pr4 pr5 <| show Ev G (d + 5) _ _ M_Re_readCode 23 [.ref 5, ev_unk, ev_unk, ev_unk] [.long (bA (pBin B3 T2 (sB S4)))] h R from
    Ev.go (pc' := 26) (ls' := [.ref 5, .long (bA (pBin B3 T2 (sB S4))), ev_unk, ev_unk]) (st' := [.long (0 : Int64), .long (bA (pBin B3 T2 (sB S4)))]) [.lstore_n 1, .lload_n 1, .lconst 0] (by decide +kernel) rfl <|
    Ev.brl (c := .ge) (o := 7) (P := (bA (pBin B3 T2 (sB S4))) < (0 : Int64)) (t := 30) (f := 34) (t1 := 34) (by decide +kernel) (by decide +kernel) rfl rfl (fun c1 =>
      Ev.go (pc' := 33) (ls' := [.ref 5, .long (bA (pBin B3 T2 (sB S4))), ev_unk, ev_unk]) (st' := [.int (-(bA (pBin B3 T2 (sB S4)))).toInt32]) [.lload_n 1, .lneg, .l2i] (by decide +kernel) rfl <|
      Ev.ret (r := (some (.int (-(bA (pBin B3 T2 (sB S4)))).toInt32))) (Or.inl ⟨_, rfl, by decide +kernel, _, rfl, rfl⟩) (k1 c1)
    ) (fun c1 =>
      Ev.go (pc' := 35) (ls' := [.ref 5, .long (bA (pBin B3 T2 (sB S4))), ev_unk, ev_unk]) (st' := [.ref 5]) [.aload_n 0] (by decide +kernel) rfl <|
      Ev.getf f_Re_28 (by decide +kernel) a7 rfl <|
      Ev.go (pc' := 39) (ls' := [.ref 5, .long (bA (pBin B3 T2 (sB S4))), ev_unk, ev_unk]) (st' := [.long (bA (pBin B3 T2 (sB S4))), .ref 14]) [.lload_n 1] (by decide +kernel) rfl <|
      Ev.cV0 (M' := M_St_whereIs) (as := [.long (bA (pBin B3 T2 (sB S4)))]) (rest := []) l_Re_131 M_St_whereIs_ok M_St_whereIs_in M_St_whereIs_se (by decide +kernel) (r10 c1) rfl rfl rfl (Nat.le_of_ble_eq_true rfl) (Nat.le_of_ble_eq_true rfl) (s_St_whereIs (pr8 c1) (pr9 c1) <| show Ev G (d + 5) _ _ M_Re_readCode 42 [.ref 5, .long (bA (pBin B3 T2 (sB S4))), ev_unk, ev_unk] [.int (frI (whP S9 (bA (pBin B3 T2 (sB S4)))) (sN S9))] h R from
        Ev.go (pc' := 43) (ls' := [.ref 5, .long (bA (pBin B3 T2 (sB S4))), ev_unk, ev_unk]) (st' := [.int (-1 : Int32), .int (frI (whP S9 (bA (pBin B3 T2 (sB S4)))) (sN S9))]) [.iconst (-1)] (by decide +kernel) rfl <|
        Ev.br (i := .if_icmp .eq (5)) (P := (frI (whP S9 (bA (pBin B3 T2 (sB S4)))) (sN S9)) = (-1 : Int32)) (t := 48) (f := 46) (r := []) (by decide +kernel) rfl (fun c2 =>
          Ev.go (pc' := 49) (ls' := [.ref 5, .long (bA (pBin B3 T2 (sB S4))), ev_unk, ev_unk]) (st' := [.ref 5]) [.aload_n 0] (by decide +kernel) rfl <|
          Ev.cV0 (M' := M_Re_next) (as := []) (rest := []) l_Re_61 M_Re_next_ok M_Re_next_in M_Re_next_se (by decide +kernel) ⟨_, a7⟩ rfl rfl rfl (Nat.le_of_ble_eq_true rfl) (Nat.le_of_ble_eq_true rfl) (k2 c1 c2)
        ) (fun c2 =>
          Ev.go (pc' := 47) (ls' := [.ref 5, .long (bA (pBin B3 T2 (sB S4))), ev_unk, ev_unk]) (st' := [.int (5 : Int32)]) [.iconst 5] (by decide +kernel) rfl <|
          Ev.ret (r := (some (.int (5 : Int32)))) (Or.inl ⟨_, rfl, by decide +kernel, _, rfl, rfl⟩) (k3 c1 c2)
        )
      )
    )
  )
theorem b_Re_readCode_52 {G : ev_G} {d k n : Nat} {h : ev_H} {R : Option Value → ev_H → Prop} {x1 : Int64} {L1 : Nat} {T2 : Tk} {B3 : Nat → Nat}
  (pr1 : 5 < 15)
  (pr2 : ReB h L1 T2)
  (pr3 : TxB h B3 L1)
  (pr4 : TkOk B3 L1 T2)
  (r5 : ∃ fs, hat h 5 (oC 4 fs))
  (r6 : ¬ (b2i (wdB B3 T2 5)) = (0 : Int32) → ∃ fs, hat h 5 (oC 4 fs))
  (k1 : (b2i (wdB B3 T2 5)) = (0 : Int32) → Ev G (d + 5) k n M_Re_readCode 86 [.ref 5, .long x1, ev_unk, .int (0 : Int32)] [] h R)
  (k2 : ¬ (b2i (wdB B3 T2 5)) = (0 : Int32) → Ev G (d + 4) 0 0 M_Re_next 0 [.ref 5, ev_unk, ev_unk, ev_unk, ev_unk, ev_unk, ev_unk, ev_unk] [] h (fun r h1 => Ev G (d + 5) k n M_Re_readCode 67 [.ref 5, .long x1, ev_unk, .int (0 : Int32)] (r.toList ++ []) h1 R))
  : Ev G (d + 5) k n M_Re_readCode 52 [.ref 5, .long x1, ev_unk, ev_unk] [] h R :=
  Ev.go (pc' := 55) (ls' := [.ref 5, .long x1, ev_unk, .int (0 : Int32)]) (st' := [.ref 5]) [.iconst 0, .istore_n 3, .aload_n 0] (by decide +kernel) rfl <|
  Ev.ldcS (i := 5) rfl (by decide +kernel) <|
  Ev.cV0 (M' := M_Re_isWord) (as := [.ref (ev_big + 5)]) (rest := []) l_Re_66 M_Re_isWord_ok M_Re_isWord_in M_Re_isWord_se (by decide +kernel) r5 rfl rfl rfl (Nat.le_of_ble_eq_true rfl) (Nat.le_of_ble_eq_true rfl) (s_Re_isWord pr1 pr2 pr3 pr4 <| show Ev G (d + 5) _ _ M_Re_readCode 60 [.ref 5, .long x1, ev_unk, .int (0 : Int32)] [.int (b2i (wdB B3 T2 5))] h R from
    Ev.br (i := .ifCond .eq (26)) (P := (b2i (wdB B3 T2 5)) = (0 : Int32)) (t := 86) (f := 63) (r := []) (by decide +kernel) rfl (fun c1 =>
      (k1 c1)
    ) (fun c1 =>
      Ev.go (pc' := 64) (ls' := [.ref 5, .long x1, ev_unk, .int (0 : Int32)]) (st' := [.ref 5]) [.aload_n 0] (by decide +kernel) rfl <|
      Ev.cV0 (M' := M_Re_next) (as := []) (rest := []) l_Re_61 M_Re_next_ok M_Re_next_in M_Re_next_se (by decide +kernel) (r6 c1) rfl rfl rfl (Nat.le_of_ble_eq_true rfl) (Nat.le_of_ble_eq_true rfl) (k2 c1)
    )
  )
theorem b_Re_readCode_67 {G : ev_G} {d k n : Nat} {h : ev_H} {R : Option Value → ev_H → Prop} {x1 : Int64} {x3 : Int32} {L1 : Nat} {T2 : Tk} {B3 : Nat → Nat} {lo4 : Nat} {hi5 : Nat}
  (pr1 : ReB h L1 T2)
  (pr2 : TxB h B3 L1)
  (pr3 : TkOk B3 L1 T2)
  (pr4 : (0 : Int32) = nI lo4 ∧ lo4 < 2147483648)
  (pr5 : (9 : Int32) = nI hi5 ∧ hi5 < 2147483648)
  (r6 : ∃ fs, hat h 5 (oC 4 fs))
  (r7 : ¬ (nA (pNum B3 T2 lo4 hi5)) < (0 : Int32) → ∃ fs, hat h 5 (oC 4 fs))
  (k1 : (nA (pNum B3 T2 lo4 hi5)) < (0 : Int32) → R (some (.int (-(nA (pNum B3 T2 lo4 hi5))))) h)
  (k2 : ¬ (nA (pNum B3 T2 lo4 hi5)) < (0 : Int32) → Ev G (d + 4) 0 0 M_Re_next 0 [.ref 5, ev_unk, ev_unk, ev_unk, ev_unk, ev_unk, ev_unk, ev_unk] [] h (fun r h1 => Ev G (d + 5) k n M_Re_readCode 86 [.ref 5, .long x1, ev_unk, .int (nA (pNum B3 T2 lo4 hi5))] (r.toList ++ []) h1 R))
  : Ev G (d + 5) k n M_Re_readCode 67 [.ref 5, .long x1, ev_unk, .int x3] [] h R :=
  Ev.go (pc' := 71) (ls' := [.ref 5, .long x1, ev_unk, .int x3]) (st' := [.int (9 : Int32), .int (0 : Int32), .ref 5]) [.aload_n 0, .iconst 0, .bipush (9)] (by decide +kernel) rfl <|
  Ev.cV0 (M' := M_Re_number) (as := [.int (0 : Int32), .int (9 : Int32)]) (rest := []) l_Re_112 M_Re_number_ok M_Re_number_in M_Re_number_se (by decide +kernel) r6 rfl rfl rfl (Nat.le_of_ble_eq_true rfl) (Nat.le_of_ble_eq_true rfl) (s_Re_number pr1 pr2 pr3 pr4 pr5 <| show Ev G (d + 5) _ _ M_Re_readCode 74 [.ref 5, .long x1, ev_unk, .int x3] [.int (nA (pNum B3 T2 lo4 hi5))] h R from
    Ev.go (pc' := 76) (ls' := [.ref 5, .long x1, ev_unk, .int (nA (pNum B3 T2 lo4 hi5))]) (st' := [.int (nA (pNum B3 T2 lo4 hi5))]) [.istore_n 3, .iload_n 3] (by decide +kernel) rfl <|
    Ev.br (i := .ifCond .ge (6)) (P := (nA (pNum B3 T2 lo4 hi5)) < (0 : Int32)) (t := 79) (f := 82) (r := []) (by decide +kernel) rfl (fun c1 =>
      Ev.go (pc' := 81) (ls' := [.ref 5, .long x1, ev_unk, .int (nA (pNum B3 T2 lo4 hi5))]) (st' := [.int (-(nA (pNum B3 T2 lo4 hi5)))]) [.iload_n 3, .ineg] (by decide +kernel) rfl <|
      Ev.ret (r := (some (.int (-(nA (pNum B3 T2 lo4 hi5)))))) (Or.inl ⟨_, rfl, by decide +kernel, _, rfl, rfl⟩) (k1 c1)
    ) (fun c1 =>
      Ev.go (pc' := 83) (ls' := [.ref 5, .long x1, ev_unk, .int (nA (pNum B3 T2 lo4 hi5))]) (st' := [.ref 5]) [.aload_n 0] (by decide +kernel) rfl <|
      Ev.cV0 (M' := M_Re_next) (as := []) (rest := []) l_Re_61 M_Re_next_ok M_Re_next_in M_Re_next_se (by decide +kernel) (r7 c1) rfl rfl rfl (Nat.le_of_ble_eq_true rfl) (Nat.le_of_ble_eq_true rfl) (k2 c1)
    )
  )
theorem b_Re_readCode_86 {G : ev_G} {d k n : Nat} {h : ev_H} {R : Option Value → ev_H → Prop} {x1 : Int64} {x3 : Int32} {f_length_1 : Int32} {f_kind_2 : Int32} {f_start_3 : Int32} {f_end_4 : Int32}
  (a1 : hat h 5 (oC 4 [.ref 6, .ref 12, .ref 14, .ref 13, .int f_length_1, .int f_kind_2, .int f_start_3, .int f_end_4]))
  (r2 : ∃ fs, hat h 14 (oC 6 fs))
  (k1 : Ev G (d + 4) 0 0 M_St_append 0 [.ref 14, .long x1, ev_unk, .int x3] [] h (fun r h1 => Ev G (d + 5) k n M_Re_readCode 95 [.ref 5, .long x1, ev_unk, .int x3] (r.toList ++ []) h1 R))
  : Ev G (d + 5) k n M_Re_readCode 86 [.ref 5, .long x1, ev_unk, .int x3] [] h R :=
  Ev.go (pc' := 87) (ls' := [.ref 5, .long x1, ev_unk, .int x3]) (st' := [.ref 5]) [.aload_n 0] (by decide +kernel) rfl <|
  Ev.getf f_Re_28 (by decide +kernel) a1 rfl <|
  Ev.go (pc' := 92) (ls' := [.ref 5, .long x1, ev_unk, .int x3]) (st' := [.int x3, .long x1, .ref 14]) [.lload_n 1, .iload_n 3] (by decide +kernel) rfl <|
  Ev.cV0 (M' := M_St_append) (as := [.long x1, .int x3]) (rest := []) l_Re_137 M_St_append_ok M_St_append_in M_St_append_se (by decide +kernel) r2 rfl rfl rfl (Nat.le_of_ble_eq_true rfl) (Nat.le_of_ble_eq_true rfl) k1
theorem b_Re_readCode_95 {G : ev_G} {d k n : Nat} {h : ev_H} {R : Option Value → ev_H → Prop} {x1 : Int64} {x3 : Int32}
  (r1 : ∃ fs, hat h 5 (oC 4 fs))
  (k1 : Ev G (d + 4) 0 0 M_Re_sign 0 [.ref 5, .int (59 : Int32)] [] h (fun r h1 => Ev G (d + 5) k n M_Re_readCode 101 [.ref 5, .long x1, ev_unk, .int x3] (r.toList ++ []) h1 R))
  : Ev G (d + 5) k n M_Re_readCode 95 [.ref 5, .long x1, ev_unk, .int x3] [] h R :=
  Ev.go (pc' := 98) (ls' := [.ref 5, .long x1, ev_unk, .int x3]) (st' := [.int (59 : Int32), .ref 5]) [.aload_n 0, .bipush (59)] (by decide +kernel) rfl <|
  Ev.cV0 (M' := M_Re_sign) (as := [.int (59 : Int32)]) (rest := []) l_Re_115 M_Re_sign_ok M_Re_sign_in M_Re_sign_se (by decide +kernel) r1 rfl rfl rfl (Nat.le_of_ble_eq_true rfl) (Nat.le_of_ble_eq_true rfl) k1
theorem b_Re_readCode_101 {G : ev_G} {d k n : Nat} {h : ev_H} {R : Option Value → ev_H → Prop} {x1 : Int64} {x3 : Int32} {y0 : Int32}
  (k1 : R (some (.int y0)) h)
  : Ev G (d + 5) k n M_Re_readCode 101 [.ref 5, .long x1, ev_unk, .int x3] [.int y0] h R :=
  Ev.ret (r := (some (.int y0))) (Or.inl ⟨_, rfl, by decide +kernel, _, rfl, rfl⟩) k1
abbrev LR : Type := Nat × Tk × AS
def setB (S : AS) (v : Nat) : AS := mkS v (sP S) (sN S) (sBr S) (sCo S) (sTg S) (sFl S)
def setP (S : AS) (k : Nat) (br : Nat → Nat) : AS := mkS (sB S) k (sN S) br (sCo S) (sTg S) (sFl S)
def setF (S : AS) (fl : List AStp) : AS := mkS (sB S) (sP S) (sN S) (sBr S) (sCo S) (sTg S) fl
def pSign (B : Nat → Nat) (L : Nat) (c : Nat) (T : Tk) (S : AS) : LR := if T.1 = c then (0, nx B L T, S) else (2, T, S)
def pBits (B : Nat → Nat) (L : Nat) (T : Tk) (S : AS) : LR := if (pNum B (nx B L T) 4 48).1 = 0 then pSign B L 59 (nx B L (nx B L T)) (setB S (pNum B (nx B L T) 4 48).2) else ((pNum B (nx B L T) 4 48).1, nx B L T, S)
def updN (f : Nat → Nat) (k v : Nat) : Nat → Nat := fun i => if i = k then v else f i
def ptHi (k l : Nat) : Nat := if k < 6 then min l 24 else 0
def pPtL (B : Nat → Nat) (L : Nat) : Nat → Tk → (Nat → Nat) → Nat → Nat → Nat × Tk × (Nat → Nat) × Nat × Nat
  | 0, T, br, k, l => (0, T, br, k, l)
  | n + 1, T, br, k, l => if k = 0 ∨ T.1 = 48 then (if (pNum B T 1 (ptHi k l)).1 = 0 then pPtL B L n (nx B L T) (updN br k (pNum B T 1 (ptHi k l)).2) (k + 1) (l - (pNum B T 1 (ptHi k l)).2) else ((pNum B T 1 (ptHi k l)).1, T, br, k, l)) else (0, T, br, k, l)
def pPEnd (B : Nat → Nat) (L : Nat) (S : AS) (r : Nat × Tk × (Nat → Nat) × Nat × Nat) : LR := if r.1 = 0 then (if r.2.1.1 = 59 ∧ 0 < r.2.2.2.2 then (4, r.2.1, S) else pSign B L 59 r.2.1 (setP S r.2.2.2.1 r.2.2.1)) else (r.1, r.2.1, S)
def pParts (B : Nat → Nat) (L : Nat) (T : Tk) (S : AS) : LR := pPEnd B L S (pPtL B L 7 (nx B L T) (sBr S) 0 (sB S))
def pTag (B : Nat → Nat) (L : Nat) (S : AS) (y : Int64) (T : Tk) : LR := if wdB B T 5 then (if (pNum B (nx B L T) 0 9).1 = 0 then pSign B L 59 (nx B L (nx B L T)) (apS S y (pNum B (nx B L T) 0 9).2) else ((pNum B (nx B L T) 0 9).1, nx B L T, S)) else pSign B L 59 T (apS S y 0)
def pCode (B : Nat → Nat) (L : Nat) (T : Tk) (S : AS) : LR := if sN S < 32 then (if (pBin B (nx B L T) (sB S)).1 = 0 then (if frI (whP S (pBin B (nx B L T) (sB S)).2) (sN S) = -1 then pTag B L S (pBin B (nx B L T) (sB S)).2 (nx B L (nx B L T)) else (5, nx B L T, S)) else ((pBin B (nx B L T) (sB S)).1, nx B L T, S)) else (6, T, S)
def pFilt (B : Nat → Nat) (L : Nat) (T : Tk) (S : AS) : LR := if (sFl S).isEmpty then (if (pTest B L S 6 (nx B L T)).1 = 0 then pSign B L 59 (pTest B L S 6 (nx B L T)).2.1 (setF S (pTest B L S 6 (nx B L T)).2.2) else ((pTest B L S 6 (nx B L T)).1, (pTest B L S 6 (nx B L T)).2.1, S)) else (5, T, S)
section P39
variable {B : Nat → Nat} {L : Nat} {T : Tk} {S : AS}
/-- what a line's reader comes to -/
def LG (B : Nat → Nat) (L : Nat) (T : Tk) (r : LR) : Prop := TkOk B L r.2.1 ∧ T.2.1 ≤ r.2.1.2.1 ∧ r.1 ≤ 6 ∧ (r.1 = 0 → sGd r.2.2 ∧ T.2.1 + 1 ≤ r.2.1.2.1)
theorem pSign_LG {c : Nat} {T0 : Tk} (h : TkOk B L T) (h0 : T0.2.1 ≤ T.2.1) (hc : c ≠ 0) (g : sGd S) : LG B L T0 (pSign B L c T S) := by
  unfold pSign
  split
  · next q =>
    have := h.2.2.2.2.2.2.2.1 (by omega)
    have := nx_ge B L T
    exact ⟨nx_ok h, by show T0.2.1 ≤ (nx B L T).2.1; omega, by show 0 ≤ 6; omega, fun _ => ⟨g, by show T0.2.1 + 1 ≤ (nx B L T).2.1; omega⟩⟩
  · exact ⟨h, h0, by show 2 ≤ 6; omega, fun z => absurd z (by show ¬ 2 = 0; omega)⟩
theorem sGd.apt {S : AS} (H : sGd S) {y : Int64} {t : Nat} (hn : sN S < 32) (hy : numB y (sB S) = true) (ht : t ≤ 9) (hw : frI (whP S y) (sN S) = -1) : sGd (apS S y t) := by
  have g := (H.ap hn hy hw).tg (c := sN S) (t := t) ht
  have e0 : apS S y 0 = mkS (sB S) (sP S) (sN S + 1) (sBr S) (fun i => if i = sN S then y else sCo S i) (fun i => if i = sN S then 0 else sTg S i) (sFl S) := if_pos hn
  have e1 : apS S y t = mkS (sB S) (sP S) (sN S + 1) (sBr S) (fun i => if i = sN S then y else sCo S i) (fun i => if i = sN S then t else sTg S i) (sFl S) := if_pos hn
  rw [e1]
  rw [e0] at g
  have e2 : (fun i => if i = sN S then t else sTg S i) = (fun i => if i = sN S then t else if i = sN S then 0 else sTg S i) := by
    funext i
    by_cases c : i = sN S
    · rw [if_pos c, if_pos c]
    · rw [if_neg c, if_neg c, if_neg c]
  rw [e2]
  exact g
theorem pTag_LG {T0 : Tk} {y : Int64} (h : TkOk B L T) (h0 : T0.2.1 ≤ T.2.1) (g : sGd S) (hn : sN S < 32) (hy : numB y (sB S) = true) (hw : frI (whP S y) (sN S) = -1) : LG B L T0 (pTag B L S y T) := by
  have n1 := nx_ok h
  have s1 := nx_s h
  have s2 := nx_s n1
  have pf := pNum_f (B := B) (T := nx B L T) 0 9
  unfold pTag
  split
  · split
    · next c => exact pSign_LG (nx_ok n1) (by omega) (by omega) (g.apt hn hy (pf.2 c).2.2.1 hw)
    · next c => exact ⟨n1, by show T0.2.1 ≤ (nx B L T).2.1; omega, by have := pf.1; show (pNum B (nx B L T) 0 9).1 ≤ 6; omega, fun z => absurd z c⟩
  · exact pSign_LG h h0 (by omega) (g.apt hn hy (by omega) hw)
theorem pCode_LG (h : TkOk B L T) (g : sGd S) : LG B L T (pCode B L T S) := by
  have n1 := nx_ok h
  have s1 := nx_s h
  have s2 := nx_s n1
  have pf := pBin_f (B := B) (T := nx B L T) (b := sB S) g.1.2.1
  unfold pCode
  split
  · next hn =>
    split
    · next c =>
      split
      · next cw => exact pTag_LG (nx_ok n1) (by omega) g hn (pf.2 c).2.1 cw
      · exact ⟨n1, s1, by show 5 ≤ 6; omega, fun z => absurd z (by show ¬ 5 = 0; omega)⟩
    · next c => exact ⟨n1, s1, by have := pf.1; show (pBin B (nx B L T) (sB S)).1 ≤ 6; omega, fun z => absurd z c⟩
  · exact ⟨h, Nat.le_refl _, by show 6 ≤ 6; omega, fun z => absurd z (by show ¬ 6 = 0; omega)⟩
theorem dpP_take (fl : List AStp) : ∀ i, i ≤ fl.length → dpP fl i = dpR (fl.take i) 0
  | 0, _ => rfl
  | i + 1, hi => by
    have ih := dpP_take fl i (by omega)
    have hg : fl[i]? = some fl[i] := List.getElem?_eq_getElem (by omega)
    show (match fl[i]? with
      | some s => dp1 s (dpP fl i)
      | none => dpP fl i) = _
    rw [hg, List.take_add_one, hg, dpR_app, ← ih]
    rfl
theorem okR_at {M : Nat} : ∀ (fl : List AStp) (d : Nat), okR M fl d → ∀ (i : Nat) (s : AStp), fl[i]? = some s → stG s ∧ (s.1 = 0 → 1 ≤ dpR (fl.take i) d) ∧ (s.1 = 1 ∨ s.1 = 2 → 2 ≤ dpR (fl.take i) d) ∧ dpR (fl.take i) d ≤ M
  | [], _, _, i, s, h => by simp at h
  | a :: l, d, ⟨h1, h2, h3, h4, h5⟩, 0, s, h => by
    simp at h; subst h; exact ⟨h1, h2, h3, h4⟩
  | a :: l, d, ⟨h1, h2, h3, h4, h5⟩, i + 1, s, h => by
    have := okR_at l (dp1 a d) h5 i s (by simpa using h)
    simpa [dpR] using this
theorem flGd_of {M : Nat} {fl : List AStp} (hM : M ≤ 30) (h : Sg M fl) (hl : fl.length < 300) (hc : clTot fl ≤ 500) : flGd fl := by
  obtain ⟨h1, h2⟩ := h 0
  rw [Nat.zero_add] at h1
  refine ⟨⟨by omega, fun i s hi => ?_, ?_⟩, hl, hc, fun s hs => ?_⟩
  · have hil : i < fl.length := (List.getElem?_eq_some_iff.mp hi).1
    obtain ⟨a, b, c, d⟩ := okR_at fl 0 h1 i s hi
    rw [dpP_take fl i (by omega)]
    exact ⟨a.1, b, c, by omega⟩
  · rw [dpP_take fl _ (Nat.le_refl _), List.take_length]; exact h2
  · obtain ⟨i, hi, e⟩ := List.mem_iff_getElem.mp hs
    obtain ⟨a, -⟩ := okR_at fl 0 h1 i s (by rw [List.getElem?_eq_getElem hi, e])
    exact a.2
theorem pFilt_LG (h : TkOk B L T) (hw : wdB B T 3 = true) (hL : L ≤ 900) (g : sGd S) : LG B L T (pFilt B L T S) := by
  have n1 := nx_ok h
  have s1 := nx_s h
  obtain ⟨a1, a2, a3, a4⟩ := pTest_GI (B := B) (L := L) g.1 6 _ n1
  unfold pFilt
  split
  · split
    · next c =>
      obtain ⟨b1, b2, b3, b4⟩ := a4 c
      have l1 := a1.2.1
      have l2 := a1.2.2.1
      have wf := wd_f hw
      have w6 : ev_len.getD 3 0 = 6 := by decide
      have g1 := nx_ge B L T
      have fg : flGd (pTest B L S 6 (nx B L T)).2.2 := flGd_of (by omega) b4 (by omega) (by omega)
      exact pSign_LG a1 (by omega) (by omega) ⟨g.1, Or.inr fg, g.2.2⟩
    · next c => exact ⟨a1, by show T.2.1 ≤ (pTest B L S 6 (nx B L T)).2.1.2.1; omega, a3, fun z => absurd z c⟩
  · exact ⟨h, Nat.le_refl _, by show 5 ≤ 6; omega, fun z => absurd z (by show ¬ 5 = 0; omega)⟩
/-- what the breadths come to -/
theorem pPtL_f {b : Nat} : ∀ (n : Nat) (T : Tk) (br : Nat → Nat) (k l : Nat), TkOk B L T → k + n = 7 → k ≤ 6 → sumT br k + l = b → (∀ i, i < k → br i ≤ 24) → TkOk B L (pPtL B L n T br k l).2.1 ∧ T.2.1 ≤ (pPtL B L n T br k l).2.1.2.1 ∧ (pPtL B L n T br k l).1 ≤ 4 ∧ ((pPtL B L n T br k l).1 = 0 → 1 ≤ (pPtL B L n T br k l).2.2.2.1 ∧ (pPtL B L n T br k l).2.2.2.1 ≤ 6 ∧ sumT (pPtL B L n T br k l).2.2.1 (pPtL B L n T br k l).2.2.2.1 + (pPtL B L n T br k l).2.2.2.2 = b ∧ ∀ i, i < (pPtL B L n T br k l).2.2.2.1 → (pPtL B L n T br k l).2.2.1 i ≤ 24)
  | 0, T, br, k, l, h, hk, h6, hs, hb => absurd hk (by omega)
  | n + 1, T, br, k, l, h, hk, h6, hs, hb => by
    have pf := pNum_f (B := B) (T := T) 1 (ptHi k l)
    unfold pPtL
    split
    · next c =>
      split
      · next c2 =>
        obtain ⟨p1, p2, p3, p4⟩ := pf.2 c2
        have kh : k < 6 := by
          rcases Nat.lt_or_ge k 6 with z | z
          · exact z
          · unfold ptHi at p3; rw [if_neg (by omega)] at p3; unfold ptHi at p2; rw [if_neg (by omega)] at p2; omega
        have e : ptHi k l = min l 24 := if_pos kh
        rw [e] at p2 p3 ⊢
        have lo : (pNum B T 1 (min l 24)).2 ≤ l := by omega
        have hi : (pNum B T 1 (min l 24)).2 ≤ 24 := by omega
        have s1 := nx_s h
        obtain ⟨q1, q2, q3, q4⟩ := pPtL_f (b := b) n (nx B L T) (updN br k (pNum B T 1 (min l 24)).2) (k + 1) (l - (pNum B T 1 (min l 24)).2) (nx_ok h) (by omega) (by omega) (by
          show sumT (updN br k _) k + updN br k _ k + _ = b
          rw [sumT_congr (f := updN br k (pNum B T 1 (min l 24)).2) (g := br) (fun i hi => if_neg (by omega))]
          show sumT br k + (if k = k then _ else _) + _ = b
          rw [if_pos rfl]; omega) (fun i hi' => by
          show (if i = k then _ else br i) ≤ 24
          by_cases z : i = k
          · rw [if_pos z]; exact hi
          · rw [if_neg z]; exact hb i (by omega))
        exact ⟨q1, by omega, q3, q4⟩
      · next c2 => exact ⟨h, Nat.le_refl _, pf.1, fun z => absurd z c2⟩
    · next c => exact ⟨h, Nat.le_refl _, by show 0 ≤ 4; omega, fun _ => ⟨by show 1 ≤ k; omega, h6, hs, hb⟩⟩
theorem pParts_LG (h : TkOk B L T) (g : sGd S) (hN : sN S = 0) (hF : sFl S = []) : LG B L T (pParts B L T S) ∧ ((pParts B L T S).1 = 0 → sN (pParts B L T S).2.2 = 0 ∧ sFl (pParts B L T S).2.2 = []) := by
  have n1 := nx_ok h
  have s1 := nx_s h
  obtain ⟨q1, q2, q3, q4⟩ := pPtL_f (B := B) (L := L) (b := sB S) 7 (nx B L T) (sBr S) 0 (sB S) n1 (by omega) (by omega) (Nat.zero_add _) (fun i hi => absurd hi (Nat.not_lt_zero i))
  unfold pParts
  generalize pPtL B L 7 (nx B L T) (sBr S) 0 (sB S) = r at q1 q2 q3 q4
  unfold pPEnd
  split
  · next c =>
    obtain ⟨a1, a2, a3, a4⟩ := q4 c
    split
    · exact ⟨⟨q1, by show T.2.1 ≤ r.2.1.2.1; omega, by show 4 ≤ 6; omega, fun z => absurd z (by show ¬ 4 = 0; omega)⟩, fun z => absurd z (by show ¬ 4 = 0; omega)⟩
    · next c2 =>
      by_cases c3 : r.2.1.1 = 59
      · have l0 : r.2.2.2.2 = 0 := by omega
        obtain ⟨⟨o1, o2, o3, o4, o5, o6, o7, o8⟩, f, dd, nb⟩ := g
        refine ⟨pSign_LG q1 (by omega) (by omega) ⟨⟨o1, o2, a1, a2, o5, a4, o7, by show sumT r.2.2.1 r.2.2.2.1 = sB S; omega⟩, f, dd, nb⟩, fun _ => ?_⟩
        unfold pSign; rw [if_pos c3]; exact ⟨hN, hF⟩
      · unfold pSign; rw [if_neg c3]
        exact ⟨⟨q1, by show T.2.1 ≤ r.2.1.2.1; omega, by show 2 ≤ 6; omega, fun z => absurd z (by show ¬ 2 = 0; omega)⟩, fun z => absurd z (by show ¬ 2 = 0; omega)⟩
  · next c => exact ⟨⟨q1, by show T.2.1 ≤ r.2.1.2.1; omega, by show r.1 ≤ 6; omega, fun z => absurd z c⟩, fun z => absurd z c⟩
end P39
section S39
variable {G : ev_G} {d k n : Nat} {h : ev_H} {R : Option Value → ev_H → Prop} {B : Nat → Nat} {L : Nat} {T : Tk} {S : AS}
theorem StR.congr {a : Nat} {S' : AS} (H : StR h a S) (e1 : sB S' = sB S) (e2 : sP S' = sP S) (e3 : sN S' = sN S) (e4 : ∀ i, i < sP S → sBr S' i = sBr S i) (e5 : ∀ i, i < sN S → sCo S' i = sCo S i ∧ sTg S' i = sTg S i) (e6 : sFl S' = sFl S) : StR h a S' := by
  obtain ⟨brf, tgf, cof, fv, t1, t2, t3, t4, q1, q2, F⟩ := H
  refine ⟨brf, tgf, cof, fv, by rw [e1, e2, e3]; exact t1, t2, t3, t4, fun i hi => ?_, fun i hi => ?_, by rw [e6]; exact F⟩
  · rw [e2] at hi; rw [e4 i hi]; exact q1 i hi
  · rw [e3] at hi; rw [(e5 i hi).1, (e5 i hi).2]; exact q2 i hi
/-- the reader's cells changed, and none of the tape's -/
def Kr (h h' : ev_H) : Prop := h.1 ≤ h'.1 ∧ ∀ b, b < h.1 → (b < 5 ∨ (12 ≤ b ∧ b < 14) ∨ 18 ≤ b) → h'.2 b = h.2 b
theorem Kr.refl (h : ev_H) : Kr h h := ⟨Nat.le_refl _, fun _ _ _ => rfl⟩
theorem Kr.trans {h1 h2 h3 : ev_H} (a : Kr h1 h2) (b : Kr h2 h3) : Kr h1 h3 := ⟨Nat.le_trans a.1 b.1, fun x hx q => (b.2 x (Nat.lt_of_lt_of_le hx a.1) q).trans (a.2 x hx q)⟩
theorem Kg.r {h h' : ev_H} {lo hi : Nat} (K : Kg h h' lo hi) (q : (5 ≤ lo ∧ hi ≤ 12) ∨ (14 ≤ lo ∧ hi ≤ 18) ∨ h.1 ≤ lo) : Kr h h' := ⟨K.1, fun b hb z => K.2 b hb (by omega)⟩
theorem Kp.r {h h' : ev_H} {lo hi : Nat} (K : Kp h h' lo hi) (q : (5 ≤ lo ∧ hi ≤ 12) ∨ (14 ≤ lo ∧ hi ≤ 18)) : Kr h h' := K.g.r (by omega)
theorem Kr.hat {h h' : ev_H} (K : Kr h h') {b : Nat} {c : ev_C} (H : hat h b c) (q : b < 5 ∨ (12 ≤ b ∧ b < 14) ∨ 18 ≤ b) : hat h' b c := ⟨Nat.lt_of_lt_of_le H.1 K.1, (K.2 b H.1 q).trans H.2⟩
theorem Kr.tx {h h' : ev_H} (K : Kr h h') (X : TxB h B L) : TxB h' B L := by
  obtain ⟨a, g, b, c⟩ := X
  exact ⟨a, g, K.hat b (by omega), c⟩
theorem Kr.g {h h' : ev_H} (K : Kr h h') : Kg h h' 5 18 := ⟨K.1, fun b hb z => K.2 b hb (by omega)⟩
def LnR (h h' : ev_H) (L : Nat) (r : LR) : Prop := Kr h h' ∧ ReB h' L r.2.1 ∧ SpX h' ∧ (∃ S', sB S' ≤ 48 ∧ StR h' 14 S') ∧ (r.1 = 0 → StR h' 14 r.2.2)
theorem LnR.after {h0 h1 h2 : ev_H} {r : LR} (K : Kr h0 h1) (H : LnR h1 h2 L r) : LnR h0 h2 L r := ⟨K.trans H.1, H.2⟩
theorem LnR.fault {f : Nat} (HB : ReB h L T) (hx : SpX h) (HS : StR h 14 S) (hb : sB S ≤ 48) (hf : ¬ f = 0) : LnR h h L (f, T, S) := ⟨Kr.refl h, HB, hx, ⟨S, hb, HS⟩, fun z => absurd z hf⟩
theorem s_signL {c : Nat} {cI : Int32} (HB : ReB h L T) (HX : TxB h B L) (HT : TkOk B L T) (HS : StR h 14 S) (hb : sB S ≤ 48) (hx : SpX h) (hc : cI = nI c ∧ c < 100) (hR : ∀ h', LnR h h' L (pSign B L c T S) → h'.1 = h.1 → R (some (.int (nI (pSign B L c T S).1))) h') : Ev G (d + 5) 0 0 M_Re_sign 0 [.ref 5, .int cI] [] h R := by
  unfold pSign at hR
  refine s_Re_sign HB HX HT hc (fun q h' K HB' => ?_) (fun q => ?_)
  · rw [if_pos q] at hR
    exact hR h' ⟨K.r (by omega), HB', hx.kg K.g (by omega), ⟨S, hb, HS.kp K (by omega) (by omega)⟩, fun _ => HS.kp K (by omega) (by omega)⟩ K.1
  · rw [if_neg q] at hR
    exact hR h (LnR.fault HB hx HS hb (by omega)) rfl
theorem s_Re_readBits (HB : ReB h L T) (HX : TxB h B L) (HT : TkOk B L T) (HS : StR h 14 S) (hb : sB S ≤ 48) (hx : SpX h) (hR : ∀ h', LnR h h' L (pBits B L T S) → h'.1 = h.1 → R (some (.int (nI (pBits B L T S).1))) h') : Ev G (d + 6) 0 0 M_Re_readBits 0 [.ref 5, ev_unk] [] h R := by
  have n1 := nx_ok HT
  unfold pBits at hR
  refine b_Re_readBits_0 ⟨_, HB⟩ ?_
  refine s_Re_nx HB HX HT.2.2.1 fun h1 K1 HB => ?_
  have HX := HX.kg K1.g (by omega)
  have HS := HS.kp K1 (by omega) (by omega)
  have hx := hx.kg K1.g (by omega)
  have HT := n1
  have HS0 := HS
  obtain ⟨brf, tgf, cof, fv, t1, t2, t3, t4, e1, e2, F⟩ := HS0
  have na := nA_neg (pNum_c (B := B) (T := nx B L T) 4 48) (pNum_v (by omega))
  refine b_Re_readBits_4 (lo4 := 4) (hi5 := 48) HB t1 HB HX HT ⟨rfl, by omega⟩ ⟨rfl, by omega⟩ ⟨_, HB⟩ (fun c1 => ?_) (fun c1 => ?_)
  · have c1 := na.1.mp c1
    rw [if_neg c1] at hR
    rw [na.2.1 c1]
    exact hR h1 ((LnR.fault HB hx HS hb c1).after (K1.r (by omega))) K1.1
  · have c1 : (pNum B (nx B L T) 4 48).1 = 0 := by
      by_cases z : (pNum B (nx B L T) 4 48).1 = 0
      · exact z
      · exact absurd (na.1.mpr z) c1
    rw [if_pos c1] at hR
    rw [na.2.2 c1]
    have K2 := (Kp.refl h1 14 18).set (k := 14) (oC 6 [.int (nI (pNum B (nx B L T) 4 48).2), .int (nI (sP S)), .ref (14 + 1), .int (nI (sN S)), .ref (14 + 2), .ref (14 + 3), fv]) (by omega) (by omega)
    have HS2 : StR (hset h1 14 (oC 6 [.int (nI (pNum B (nx B L T) 4 48).2), .int (nI (sP S)), .ref (14 + 1), .int (nI (sN S)), .ref (14 + 2), .ref (14 + 3), fv])) 14 (setB S (pNum B (nx B L T) 4 48).2) := ⟨brf, tgf, cof, fv, hat_set t1, hat_ne t2 (by omega), hat_ne t3 (by omega), hat_ne t4 (by omega), e1, e2, F.kg K2.g (by omega)⟩
    refine s_Re_nx (HB.kg K2.g (by omega)) (HX.kg K2.g (by omega)) HT.2.2.1 fun h3 K3 HB => ?_
    have K3r : Kr h h3 := ((K1.r (by omega)).trans (K2.r (by omega))).trans (K3.r (by omega))
    refine b_Re_readBits_31 ⟨_, HB⟩ ?_
    refine s_signL (c := 59) HB ((HX.kg K2.g (by omega)).kg K3.g (by omega)) (nx_ok n1) (HS2.kp K3 (by omega) (by omega)) (((pNum_f (B := B) (T := nx B L T) 4 48).2 c1).2.2.1) ((hx.kg K2.g (by omega)).kg K3.g (by omega)) ⟨rfl, by omega⟩ fun h4 H4 n4 => b_Re_readBits_37 ?_
    exact hR h4 (H4.after K3r) (by rw [n4, K3.1, K2.1, K1.1])
theorem s_Re_readCode (HB : ReB h L T) (HX : TxB h B L) (HT : TkOk B L T) (HS : StR h 14 S) (g : sGd S) (hx : SpX h) (hR : ∀ h', LnR h h' L (pCode B L T S) → h'.1 = h.1 → R (some (.int (nI (pCode B L T S).1))) h') : Ev G (d + 6) 0 0 M_Re_readCode 0 [.ref 5, ev_unk, ev_unk, ev_unk] [] h R := by
  have ok := g.1
  have hb := ok.2.1
  have n1 := nx_ok HT
  have hz := ok.2.2.2.2.1
  have u : nI (sN S) < 32 ↔ sN S < 32 := nI_ltI (b := 32) (by omega) (by omega)
  have HS0 := HS
  obtain ⟨brf, tgf, cof, fv, t1, t2, t3, t4, e1, e2, F⟩ := HS0
  unfold pCode at hR
  show Ev G ((d + 1) + 5) 0 0 M_Re_readCode 0 [.ref 5, ev_unk, ev_unk, ev_unk] [] h R
  refine b_Re_readCode_0 HB t1 (fun c1 => ?_) (fun c1 => ?_)
  · have c1 := u.mp c1
    rw [if_pos c1] at hR
    clear t1 t2 t3 t4
    refine s_Re_nx HB HX HT.2.2.1 fun h1 K1 HB => ?_
    have HX := HX.kg K1.g (by omega)
    have HS := HS.kp K1 (by omega) (by omega)
    have hx := hx.kg K1.g (by omega)
    have HT := n1
    have HSb := ok.2.1
    have ba := bA_neg (B := B) (T := nx B L T) ok.2.1
    have hw : ∀ z : Prop, z → z := fun _ z => z
    refine b_Re_readCode_19 (S9 := S) HB HB HX HT HS HSb ⟨_, HB⟩ (fun c1 => HS) (fun c1 => ok) (fun c1 => HS.obj) (fun c1 => ?_) (fun c1 c2 => ?_) (fun c1 c2 => ?_)
    · have c2 := ba.1.mp ‹_ < (0 : Int64)›
      rw [if_neg c2] at hR
      rw [ba.2.1 c2]
      exact hR h1 ((LnR.fault HB hx HS hb c2).after (K1.r (by omega))) K1.1
    · have c1' : (pBin B (nx B L T) (sB S)).1 = 0 := by
        by_cases z : (pBin B (nx B L T) (sB S)).1 = 0
        · exact z
        · exact absurd (ba.1.mpr z) ‹¬ _ < (0 : Int64)›
      rw [if_pos c1'] at hR
      rw [ba.2.2 c1'] at *
      rw [if_pos c2] at hR
      have bn := ((pBin_f (B := B) (T := nx B L T) ok.2.1).2 c1').2.1
      generalize (pBin B (nx B L T) (sB S)).2 = y at bn c2 hR
      refine s_Re_nx HB HX HT.2.2.1 fun h2 K2 HB => ?_
      have HX := HX.kg K2.g (by omega)
      have HS := HS.kp K2 (by omega) (by omega)
      have hx := hx.kg K2.g (by omega)
      have HT := nx_ok n1
      have Kr2 : Kr h h2 := (K1.r (by omega)).trans (K2.r (by omega))
      have en : h2.1 = h.1 := K2.1.trans K1.1
      unfold pTag at hR
      have fin : ∀ (h3 : ev_H) (T3 : Tk) (t : Nat), Kr h h3 → h3.1 = h.1 → ReB h3 L T3 → TxB h3 B L → TkOk B L T3 → StR h3 14 S → SpX h3 → (∀ h', LnR h h' L (pSign B L 59 T3 (apS S y t)) → h'.1 = h.1 → R (some (.int (nI (pSign B L 59 T3 (apS S y t)).1))) h') → Ev G (d + 1 + 5) 0 0 M_Re_readCode 86 [.ref 5, .long y, ev_unk, .int (nI t)] [] h3 R := by
        intro h3 T3 t Kr3 en3 HB HX HT HS hx hR
        refine b_Re_readCode_86 HB HS.obj ?_
        refine s_St_append HS ok (by omega) rfl fun h4 K4 HS4 => ?_
        have HB := HB.kg K4.g (by omega)
        have HX := HX.kg K4.g (by omega)
        have hx := hx.kg K4.g (by omega)
        have hb4 : sB (apS S y t) ≤ 48 := by unfold apS; split <;> exact hb
        refine b_Re_readCode_95 ⟨_, HB⟩ ?_
        refine s_signL (c := 59) HB HX HT HS4 hb4 hx ⟨rfl, by omega⟩ fun h5 H5 n5 => b_Re_readCode_101 ?_
        exact hR h5 (H5.after (Kr3.trans (K4.r (by omega)))) (by rw [n5, K4.1, en3])
      refine b_Re_readCode_52 (by decide) HB HX HT ⟨_, HB⟩ (fun c1 => ⟨_, HB⟩) (fun c1 => ?_) (fun c1 => ?_)
      · rw [if_neg (b2i_f0 ‹b2i _ = 0›)] at hR
        exact fin h2 _ 0 Kr2 en HB HX HT HS hx hR
      · rw [if_pos (b2i_n0 ‹¬ b2i _ = 0›)] at hR
        have n2 := nx_ok n1
        refine s_Re_nx HB HX HT.2.2.1 fun h3 K3 HB => ?_
        have HX := HX.kg K3.g (by omega)
        have HS := HS.kp K3 (by omega) (by omega)
        have hx := hx.kg K3.g (by omega)
        have HT := nx_ok n2
        have Kr3 : Kr h h3 := Kr2.trans (K3.r (by omega))
        have en3 : h3.1 = h.1 := K3.1.trans en
        have na := nA_neg (pNum_c (B := B) (T := nx B L (nx B L (nx B L T))) 0 9) (pNum_v (by omega))
        refine b_Re_readCode_67 (lo4 := 0) (hi5 := 9) HB HX HT ⟨rfl, by omega⟩ ⟨rfl, by omega⟩ ⟨_, HB⟩ (fun c1 => ⟨_, HB⟩) (fun c1 => ?_) (fun c1 => ?_)
        · have c5 := na.1.mp ‹_ < (0 : Int32)›
          rw [if_neg c5] at hR
          rw [na.2.1 c5]
          exact hR h3 ((LnR.fault HB hx HS hb c5).after Kr3) en3
        · have c5 : (pNum B (nx B L (nx B L (nx B L T))) 0 9).1 = 0 := by
            by_cases z : (pNum B (nx B L (nx B L (nx B L T))) 0 9).1 = 0
            · exact z
            · exact absurd (na.1.mpr z) ‹¬ _ < (0 : Int32)›
          rw [if_pos c5] at hR
          rw [na.2.2 c5]
          refine s_Re_nx HB HX HT.2.2.1 fun h4 K4 HB => ?_
          exact fin h4 _ _ (Kr3.trans (K4.r (by omega))) (K4.1.trans en3) HB (HX.kg K4.g (by omega)) (nx_ok HT) (HS.kp K4 (by omega) (by omega)) (hx.kg K4.g (by omega)) hR
    · have c1' : (pBin B (nx B L T) (sB S)).1 = 0 := by
        by_cases z : (pBin B (nx B L T) (sB S)).1 = 0
        · exact z
        · exact absurd (ba.1.mpr z) ‹¬ _ < (0 : Int64)›
      rw [if_pos c1'] at hR
      rw [ba.2.2 c1'] at c2
      rw [if_neg c2] at hR
      exact hR h1 ((LnR.fault HB hx HS hb (by omega)).after (K1.r (by omega))) K1.1
  · rw [if_neg (fun z => c1 (u.mpr z))] at hR
    exact hR h (LnR.fault HB hx HS hb (by omega)) rfl
theorem s_Re_readParts (HB : ReB h L T) (HX : TxB h B L) (HT : TkOk B L T) (HS : StR h 14 S) (g : sGd S) (hx : SpX h) (hR : ∀ h', LnR h h' L (pParts B L T S) → h'.1 = h.1 → R (some (.int (nI (pParts B L T S).1))) h') : Ev G (d + 6) 0 0 M_Re_readParts 0 [.ref 5, ev_unk, ev_unk, ev_unk] [] h R := by
  have ok := g.1
  have o1 := ok.1
  have o2 := ok.2.1
  have n1 := nx_ok HT
  unfold pParts at hR
  refine b_Re_readParts_0 ⟨_, HB⟩ ?_
  refine s_Re_nx HB HX HT.2.2.1 fun h1 K1 HB => ?_
  have HX := HX.kg K1.g (by omega)
  have HS := HS.kp K1 (by omega) (by omega)
  have hx := hx.kg K1.g (by omega)
  have K1r : Kr h h1 := K1.r (by omega)
  have en1 := K1.1
  obtain ⟨brf, tgf, cof, fv, t1, t2, t3, t4, e1, e2, F⟩ := HS
  refine b_Re_readParts_4 HB t1 ?_
  -- the store with its breadths under way
  have loop : ∀ (n : Nat) (T1 : Tk) (br : Nat → Nat) (k l : Nat) (h2 : ev_H) (gb : Nat → Int32), k + n = 7 → k ≤ 6 → l ≤ 48 → TkOk B L T1 → Kr h h2 → h2.1 = h.1 → ReB h2 L T1 → TxB h2 B L → SpX h2 → hat h2 14 (oC 6 [.int (nI (sB S)), .int (nI (sP S)), .ref (14 + 1), .int (nI (sN S)), .ref (14 + 2), .ref (14 + 3), fv]) → hat h2 (14 + 1) (aI 6 gb) → hat h2 (14 + 2) (aL 32 cof) → hat h2 (14 + 3) (aI 32 tgf) → FvR h2 fv (sFl S) → (∀ i, i < k → gb i = nI (br i)) → (∀ h', LnR h h' L (pPEnd B L S (pPtL B L n T1 br k l)) → h'.1 = h.1 → R (some (.int (nI (pPEnd B L S (pPtL B L n T1 br k l)).1))) h') → Ev G (d + 6) 0 0 M_Re_readParts 14 [.ref 5, .int (nI l), .int (nI k), ev_unk] [] h2 R := by
    intro n
    induction n with
    | zero => exact fun T1 br k l h2 gb hk h6 => absurd hk (by omega)
    | succ n ih =>
      intro T1 br k l h2 gb hk h6 hl HT Kr2 en HB HX hx t1 t2 t3 t4 F hgb hR
      have any : ∃ S', sB S' ≤ 48 ∧ StR h2 14 S' := ⟨(sB S, sP S, sN S, fun i => vN (gb i), cof, fun i => vN (tgf i), sFl S), o2, gb, tgf, cof, fv, t1, t2, t3, t4, fun i _ => i_vN _, fun i _ => ⟨rfl, i_vN _⟩, F⟩
      have k97 := HT.1
      have u48 : nI T1.1 = 48 ↔ T1.1 = 48 := nI_eq (b := 48) (by omega) (by omega)
      have ux : nI k = 0 ↔ k = 0 := nI_eq (b := 0) (by omega) (by omega)
      have u6 : nI k < 6 ↔ k < 6 := nI_ltI (b := 6) (by omega) (by omega)
      have u6' : 6 < nI k ↔ 6 < k := nI_ltI (a := 6) (by omega) (by omega)
      have est : pPtL B L (n + 1) T1 br k l = if k = 0 ∨ T1.1 = 48 then (if (pNum B T1 1 (ptHi k l)).1 = 0 then pPtL B L n (nx B L T1) (updN br k (pNum B T1 1 (ptHi k l)).2) (k + 1) (l - (pNum B T1 1 (ptHi k l)).2) else ((pNum B T1 1 (ptHi k l)).1, T1, br, k, l)) else (0, T1, br, k, l) := rfl
      rw [est] at hR
      have go51 : (k = 0 ∨ T1.1 = 48) → ∀ y : Int32, y = nI (ptHi k l) → Ev G (d + 6) 0 0 M_Re_readParts 51 [.ref 5, .int (nI l), .int (nI k), ev_unk] [.int y, .int (1 : Int32), .ref 5] h2 R := by
        intro c y ey
        subst ey
        rw [if_pos c] at hR
        have hh : ptHi k l ≤ 24 := by unfold ptHi; split <;> omega
        have pf := pNum_f (B := B) (T := T1) 1 (ptHi k l)
        have na := nA_neg (pNum_c (B := B) (T := T1) 1 (ptHi k l)) (pNum_v (by omega))
        have cut : (pNum B T1 1 (ptHi k l)).1 = 0 → k < 6 ∧ (pNum B T1 1 (ptHi k l)).2 ≤ l := fun c2 => by
          obtain ⟨p1, p2, p3, p4⟩ := pf.2 c2
          rcases Nat.lt_or_ge k 6 with z | z
          · have e : ptHi k l = min l 24 := if_pos z
            rw [e] at p3; omega
          · have e : ptHi k l = 0 := if_neg (by omega)
            rw [e] at p2 p3; omega
        have p0 : ¬ nA (pNum B T1 1 (ptHi k l)) < 0 → (pNum B T1 1 (ptHi k l)).1 = 0 := fun c2 => by
          by_cases z : (pNum B T1 1 (ptHi k l)).1 = 0
          · exact z
          · exact absurd (na.1.mpr z) c2
        refine b_Re_readParts_51 (j15 := k) (lo4 := 1) (hi5 := ptHi k l) HB t1 t2 HB HX HT ⟨rfl, by omega⟩ ⟨rfl, by omega⟩ ⟨_, HB⟩ (fun c1 => ixn (by have := cut (p0 ‹_›); omega) (by decide)) (fun c1 => ?_) (fun c1 => ?_)
        · have c2 := na.1.mp ‹_›
          rw [if_neg c2] at hR
          rw [na.2.1 c2]
          have em : pPEnd B L S ((pNum B T1 1 (ptHi k l)).1, T1, br, k, l) = ((pNum B T1 1 (ptHi k l)).1, T1, S) := if_neg c2
          rw [em] at hR
          exact hR h2 ⟨Kr2, HB, hx, any, fun z => absurd z c2⟩ en
        · have c2 := p0 ‹_›
          rw [if_pos c2] at hR
          rw [na.2.2 c2]
          obtain ⟨k6, vl⟩ := cut c2
          have K3 := (Kp.refl h2 14 18).set (k := 14 + 1) (aI 6 (upd gb k (nI (pNum B T1 1 (ptHi k l)).2))) (by omega) (by omega)
          refine s_Re_nx (HB.kg K3.g (by omega)) (HX.kg K3.g (by omega)) HT.2.2.1 fun h4 K4 HB => b_Re_readParts_83 ?_
          rw [nI_sub vl, nI_1]
          refine ih (nx B L T1) _ (k + 1) _ h4 (upd gb k (nI (pNum B T1 1 (ptHi k l)).2)) (by omega) (by omega) (by omega) (nx_ok HT) ((Kr2.trans (K3.r (by omega))).trans (K4.r (by omega))) (by rw [K4.1, K3.1, en]) HB ((HX.kg K3.g (by omega)).kg K4.g (by omega)) ((hx.kg K3.g (by omega)).kg K4.g (by omega)) (K4.hat (hat_ne t1 (by omega)) (by omega)) (K4.hat (hat_set t2) (by omega)) (K4.hat (hat_ne t3 (by omega)) (by omega)) (K4.hat (hat_ne t4 (by omega)) (by omega)) ((F.kg K3.g (by omega)).kg K4.g (by omega)) (fun i hi => ?_) hR
          show upd gb k _ i = nI (if i = k then _ else br i)
          unfold upd
          by_cases z : i = k
          · rw [if_pos z, if_pos z]
          · rw [if_neg z, if_neg z]; exact hgb i (by omega)
      have hmin : (if (24 : Int32) < nI l then (24 : Int32) else nI l) = nI (min l 24) := by
        have u24 : (24 : Int32) < nI l ↔ 24 < l := nI_ltI (a := 24) (by omega) (by omega)
        by_cases z : 24 < l
        · rw [if_pos (u24.mpr z), Nat.min_eq_right (by omega)]; rfl
        · rw [if_neg (fun y => z (u24.mp y)), Nat.min_eq_left (by omega)]
      refine b_Re_readParts_14 HB (fun c1 c2 => ?_) (fun c1 c2 => absurd (by rw [c1]; decide) c2) (fun c1 c2 => absurd (u6'.mp c2) (by omega)) (fun c1 c2 c3 c4 => ?_) (fun c1 c2 c3 c4 => ?_) (fun c1 c2 c3 => ?_)
      · exact go51 (Or.inl (ux.mp c1)) _ (by rw [hmin]; unfold ptHi; rw [if_pos (u6.mp c2)])
      · exact go51 (Or.inr (u48.mp c3)) _ (by rw [hmin]; unfold ptHi; rw [if_pos (u6.mp c4)])
      · exact go51 (Or.inr (u48.mp c3)) _ (by unfold ptHi; rw [if_neg (fun z => c4 (u6.mpr z))]; rfl)
      · rw [if_neg (fun z => z.elim (fun y => c1 (ux.mpr y)) (fun y => c3 (u48.mpr y)))] at hR
        have k1 : k ≠ 0 := fun z => c1 (ux.mpr z)
        have em : pPEnd B L S (0, T1, br, k, l) = if T1.1 = 59 ∧ 0 < l then (4, T1, S) else pSign B L 59 T1 (setP S k br) := if_pos rfl
        rw [em] at hR
        have u59 : nI T1.1 = 59 ↔ T1.1 = 59 := nI_eq (b := 59) (by omega) (by omega)
        have u0 : 0 < nI l ↔ 0 < l := nI_ltI (a := 0) (by omega) (by omega)
        have K3 := (Kp.refl h2 14 18).set (k := 14) (oC 6 [.int (nI (sB S)), .int (nI k), .ref (14 + 1), .int (nI (sN S)), .ref (14 + 2), .ref (14 + 3), fv]) (by omega) (by omega)
        have HS3 : StR (hset h2 14 (oC 6 [.int (nI (sB S)), .int (nI k), .ref (14 + 1), .int (nI (sN S)), .ref (14 + 2), .ref (14 + 3), fv])) 14 (setP S k br) := ⟨gb, tgf, cof, fv, hat_set t1, hat_ne t2 (by omega), hat_ne t3 (by omega), hat_ne t4 (by omega), hgb, e2, F.kg K3.g (by omega)⟩
        have HB3 := HB.kg K3.g (by omega)
        have HX3 := HX.kg K3.g (by omega)
        have hx3 := hx.kg K3.g (by omega)
        have Kr3 := Kr2.trans (K3.r (by omega))
        have sg : ¬ (T1.1 = 59 ∧ 0 < l) → Ev G (d + 5) 0 0 M_Re_sign 0 [.ref 5, .int (59 : Int32)] [] (hset h2 14 (oC 6 [.int (nI (sB S)), .int (nI k), .ref (14 + 1), .int (nI (sN S)), .ref (14 + 2), .ref (14 + 3), fv])) (fun r h1 => Ev G (d + 6) 0 0 M_Re_readParts 115 [.ref 5, .int (nI l), .int (nI k), ev_unk] (r.toList ++ []) h1 R) := fun z => by
          rw [if_neg z] at hR
          refine s_signL (c := 59) HB3 HX3 HT HS3 o2 hx3 ⟨rfl, by omega⟩ fun h4 H4 n4 => b_Re_readParts_115 ?_
          exact hR h4 (H4.after Kr3) (by rw [n4, K3.1, en])
        refine b_Re_readParts_86 HB t1 (fun c1 c2 => ?_) (fun c1 c2 => sg fun z => c2 (u0.mpr z.2)) (fun c1 => sg fun z => c1 (u59.mpr z.1))
        rename_i q5 q6
        rw [if_pos ⟨u59.mp c1, u0.mp c2⟩] at hR
        exact hR _ ⟨Kr3, HB3, hx3, ⟨setP S k br, o2, HS3⟩, fun z => absurd z (by show ¬ 4 = 0; omega)⟩ (by rw [K3.1, en])
  exact loop 7 (nx B L T) (sBr S) 0 (sB S) h1 brf (by omega) (by omega) o2 n1 K1r en1 HB HX hx t1 t2 t3 t4 F (fun i hi => absurd hi (Nat.not_lt_zero i)) hR
end S39
