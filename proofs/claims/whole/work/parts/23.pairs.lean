/-! PAIRS, CLUSTERS -/
theorem b_X_pairAt_0 {G : ev_G} {d k n : Nat} {h : ev_H} {R : Option Value → ev_H → Prop} {x1 : Int32} {x2 : Int32} {x3 : Int32}
  (k1 : Ev G (d + 3) k n M_X_pairAt 6 [.ref 0, .int x1, .int x2, .int x3, .int (0 : Int32), .int (0 : Int32), ev_unk, ev_unk] [] h R)
  : Ev G (d + 3) k n M_X_pairAt 0 [.ref 0, .int x1, .int x2, .int x3, ev_unk, ev_unk, ev_unk, ev_unk] [] h R :=
  Ev.go (pc' := 6) (ls' := [.ref 0, .int x1, .int x2, .int x3, .int (0 : Int32), .int (0 : Int32), ev_unk, ev_unk]) (st' := []) [.iconst 0, .istore 4, .iconst 0, .istore 5] (by decide +kernel) rfl <|
  k1
theorem b_X_pairAt_6 {G : ev_G} {d k n : Nat} {h : ev_H} {R : Option Value → ev_H → Prop} {x1 : Int32} {x2 : Int32} {x3 : Int32} {x4 : Int32} {x5 : Int32} {f_latest_1 : Int32} {f_faultKind_2 : Int32} {f_faultPlace_3 : Int32} {f_bits_4 : Int32} {f_parts_5 : Int32} {f_size_6 : Int32} {fv7 : Value} {g8 : Nat → Int64} {j9 : Nat} {S10 : AS} {r_11 : Nat}
  (a1 : hat h 0 (oC 8 [.ref 1, .ref 5, .ref 18, .ref 81, .ref 98, .int f_latest_1, .int f_faultKind_2, .int f_faultPlace_3]))
  (a2 : hat h 1 (oC 6 [.int f_bits_4, .int f_parts_5, .ref 2, .int f_size_6, .ref 3, .ref 4, fv7]))
  (a3 : hat h 3 (aL 32 g8))
  (i4 : x5 < (32 : Int32) → ¬ (b2i (inI x1 x5)) = (0 : Int32) → ev_ix x5 j9 32)
  (pr5 : x5 < (32 : Int32) → ¬ (b2i (inI x1 x5)) = (0 : Int32) → StR h 1 S10)
  (pr6 : x5 < (32 : Int32) → ¬ (b2i (inI x1 x5)) = (0 : Int32) → sOk S10)
  (pr7 : x5 < (32 : Int32) → ¬ (b2i (inI x1 x5)) = (0 : Int32) → x2 = nI r_11 ∧ r_11 < 2147483648)
  (k1 : x5 < (32 : Int32) → (b2i (inI x1 x5)) = (0 : Int32) → Ev G (d + 3) k n M_X_pairAt 59 [.ref 0, .int x1, .int x2, .int x3, .int x4, .int x5, .int (0 : Int32), .int (x5 + (1 : Int32))] [] h R)
  (k2 : x5 < (32 : Int32) → ¬ (b2i (inI x1 x5)) = (0 : Int32) → Ev G (d + 3) k n M_X_pairAt 59 [.ref 0, .int x1, .int x2, .int x3, .int x4, .int x5, .int (setI (nrP S10 (bt (x1 &&& ((-2 : Int32) <<< (x5 &&& 31)))) (g8 j9) r_11)), .int (x5 + (1 : Int32))] [] h R)
  (k3 : ¬ x5 < (32 : Int32) → R (some (.int (-1 : Int32))) h)
  : Ev G (d + 3) k n M_X_pairAt 6 [.ref 0, .int x1, .int x2, .int x3, .int x4, .int x5, ev_unk, ev_unk] [] h R :=
  Ev.go (pc' := 10) (ls' := [.ref 0, .int x1, .int x2, .int x3, .int x4, .int x5, ev_unk, ev_unk]) (st' := [.int (32 : Int32), .int x5]) [.iload 5, .bipush (32)] (by decide +kernel) rfl <|
  Ev.br (i := .if_icmp .ge (96)) (P := x5 < (32 : Int32)) (t := 13) (f := 106) (r := []) (by decide +kernel) rfl (fun c1 =>
    Ev.go (pc' := 16) (ls' := [.ref 0, .int x1, .int x2, .int x3, .int x4, .int x5, ev_unk, ev_unk]) (st' := [.int x5, .int x1]) [.iload_n 1, .iload 5] (by decide +kernel) rfl <|
    Ev.cS0 (M' := M_X_isIn) (as := [.int x1, .int x5]) (rest := []) l_X_238 M_X_isIn_ok M_X_isIn_st (by decide +kernel) rfl rfl (Nat.le_of_ble_eq_true rfl) (Nat.le_of_ble_eq_true rfl) (s_X_isIn <| show Ev G (d + 3) _ _ M_X_pairAt 19 [.ref 0, .int x1, .int x2, .int x3, .int x4, .int x5, ev_unk, ev_unk] [.int (b2i (inI x1 x5))] h R from
      Ev.br (i := .ifCond .eq (31)) (P := (b2i (inI x1 x5)) = (0 : Int32)) (t := 50) (f := 22) (r := []) (by decide +kernel) rfl (fun c2 =>
        Ev.go (pc' := 59) (ls' := [.ref 0, .int x1, .int x2, .int x3, .int x4, .int x5, .int (0 : Int32), .int (x5 + (1 : Int32))]) (st' := []) [.iconst 0, .istore 6, .iload 5, .iconst 1, .iadd, .istore 7] (by decide +kernel) rfl <|
        (k1 c1 c2)
      ) (fun c2 =>
        Ev.go (pc' := 23) (ls' := [.ref 0, .int x1, .int x2, .int x3, .int x4, .int x5, ev_unk, ev_unk]) (st' := [.ref 0]) [.aload_n 0] (by decide +kernel) rfl <|
        Ev.getf f_X_10 (by decide +kernel) a1 rfl <|
        Ev.go (pc' := 29) (ls' := [.ref 0, .int x1, .int x2, .int x3, .int x4, .int x5, ev_unk, ev_unk]) (st' := [.int x5, .int x1, .ref 1]) [.iload_n 1, .iload 5] (by decide +kernel) rfl <|
        Ev.cS0 (M' := M_X_above) (as := [.int x5]) (rest := [.int x1, .ref 1]) l_X_241 M_X_above_ok M_X_above_st (by decide +kernel) rfl rfl (Nat.le_of_ble_eq_true rfl) (Nat.le_of_ble_eq_true rfl) (s_X_above <| show Ev G (d + 3) _ _ M_X_pairAt 32 [.ref 0, .int x1, .int x2, .int x3, .int x4, .int x5, ev_unk, ev_unk] [.int ((-2 : Int32) <<< (x5 &&& 31)), .int x1, .ref 1] h R from
          Ev.go (pc' := 34) (ls' := [.ref 0, .int x1, .int x2, .int x3, .int x4, .int x5, ev_unk, ev_unk]) (st' := [.ref 0, .int (x1 &&& ((-2 : Int32) <<< (x5 &&& 31))), .ref 1]) [.iand, .aload_n 0] (by decide +kernel) rfl <|
          Ev.getf f_X_10 (by decide +kernel) a1 rfl <|
          Ev.getf f_X_118 (by decide +kernel) a2 rfl <|
          Ev.go (pc' := 42) (ls' := [.ref 0, .int x1, .int x2, .int x3, .int x4, .int x5, ev_unk, ev_unk]) (st' := [.int x5, .ref 3, .int (x1 &&& ((-2 : Int32) <<< (x5 &&& 31))), .ref 1]) [.iload 5] (by decide +kernel) rfl <|
          Ev.lald (j := j9) (by decide +kernel) a3 (i4 c1 c2) <|
          Ev.go (pc' := 44) (ls' := [.ref 0, .int x1, .int x2, .int x3, .int x4, .int x5, ev_unk, ev_unk]) (st' := [.int x2, .long (g8 j9), .int (x1 &&& ((-2 : Int32) <<< (x5 &&& 31))), .ref 1]) [.iload_n 2] (by decide +kernel) rfl <|
          Ev.cV0 (M' := M_St_within) (as := [.int (x1 &&& ((-2 : Int32) <<< (x5 &&& 31))), .long (g8 j9), .int x2]) (rest := []) l_X_217 M_St_within_ok M_St_within_in M_St_within_se (by decide +kernel) ⟨_, a2⟩ rfl rfl rfl (Nat.le_of_ble_eq_true rfl) (Nat.le_of_ble_eq_true rfl) (s_St_within' (pr5 c1 c2) (pr6 c1 c2) (pr7 c1 c2) <| show Ev G (d + 3) _ _ M_X_pairAt 47 [.ref 0, .int x1, .int x2, .int x3, .int x4, .int x5, ev_unk, ev_unk] [.int (setI (nrP S10 (bt (x1 &&& ((-2 : Int32) <<< (x5 &&& 31)))) (g8 j9) r_11))] h R from
            Ev.go (pc' := 59) (ls' := [.ref 0, .int x1, .int x2, .int x3, .int x4, .int x5, .int (setI (nrP S10 (bt (x1 &&& ((-2 : Int32) <<< (x5 &&& 31)))) (g8 j9) r_11)), .int (x5 + (1 : Int32))]) (st' := []) [.goto (4), .istore 6, .iload 5, .iconst 1, .iadd, .istore 7] (by decide +kernel) rfl <|
            (k2 c1 c2)
          )
        )
      )
    )
  ) (fun c1 =>
    Ev.go (pc' := 107) (ls' := [.ref 0, .int x1, .int x2, .int x3, .int x4, .int x5, ev_unk, ev_unk]) (st' := [.int (-1 : Int32)]) [.iconst (-1)] (by decide +kernel) rfl <|
    Ev.ret (r := (some (.int (-1 : Int32)))) (Or.inl ⟨_, rfl, by decide +kernel, _, rfl, rfl⟩) (k3 c1)
  )
theorem b_X_pairAt_59 {G : ev_G} {d k n : Nat} {h : ev_H} {R : Option Value → ev_H → Prop} {x1 : Int32} {x2 : Int32} {x3 : Int32} {x4 : Int32} {x5 : Int32} {x6 : Int32} {x7 : Int32} {S1 : AS} {la2 : Int32} {fk3 : Int32} {fp4 : Int32} {i_5 : Nat} {j_6 : Nat}
  (pr1 : x7 < (32 : Int32) → ¬ (b2i (inI x6 x7)) = (0 : Int32) → x4 = x3 → XO h la2 fk3 fp4)
  (pr2 : x7 < (32 : Int32) → ¬ (b2i (inI x6 x7)) = (0 : Int32) → x4 = x3 → StR h 1 S1)
  (pr3 : x7 < (32 : Int32) → ¬ (b2i (inI x6 x7)) = (0 : Int32) → x4 = x3 → sOk S1)
  (pr4 : x7 < (32 : Int32) → ¬ (b2i (inI x6 x7)) = (0 : Int32) → x4 = x3 → x5 = nI i_5 ∧ i_5 < sN S1)
  (pr5 : x7 < (32 : Int32) → ¬ (b2i (inI x6 x7)) = (0 : Int32) → x4 = x3 → x7 = nI j_6 ∧ j_6 < sN S1)
  (r6 : x7 < (32 : Int32) → ¬ (b2i (inI x6 x7)) = (0 : Int32) → x4 = x3 → ∃ fs, hat h 0 (oC 8 fs))
  (k1 : x7 < (32 : Int32) → (b2i (inI x6 x7)) = (0 : Int32) → Ev G (d + 3) k n M_X_pairAt 59 [.ref 0, .int x1, .int x2, .int x3, .int x4, .int x5, .int x6, .int (x7 + (1 : Int32))] [] h R)
  (k2 : x7 < (32 : Int32) → ¬ (b2i (inI x6 x7)) = (0 : Int32) → x4 = x3 → R (some (.int (nI (pkN (pop (sCo S1 i_5 ^^^ sCo S1 j_6)) i_5 j_6)))) h)
  (k3 : x7 < (32 : Int32) → ¬ (b2i (inI x6 x7)) = (0 : Int32) → ¬ x4 = x3 → Ev G (d + 3) k n M_X_pairAt 59 [.ref 0, .int x1, .int x2, .int x3, .int (x4 + (1 : Int32)), .int x5, .int x6, .int (x7 + (1 : Int32))] [] h R)
  (k4 : ¬ x7 < (32 : Int32) → Ev G (d + 3) k n M_X_pairAt 6 [.ref 0, .int x1, .int x2, .int x3, .int x4, .int (x5 + (1 : Int32)), ev_unk, ev_unk] [] h R)
  : Ev G (d + 3) k n M_X_pairAt 59 [.ref 0, .int x1, .int x2, .int x3, .int x4, .int x5, .int x6, .int x7] [] h R :=
  Ev.go (pc' := 63) (ls' := [.ref 0, .int x1, .int x2, .int x3, .int x4, .int x5, .int x6, .int x7]) (st' := [.int (32 : Int32), .int x7]) [.iload 7, .bipush (32)] (by decide +kernel) rfl <|
  Ev.br (i := .if_icmp .ge (37)) (P := x7 < (32 : Int32)) (t := 66) (f := 100) (r := []) (by decide +kernel) rfl (fun c1 =>
    Ev.go (pc' := 70) (ls' := [.ref 0, .int x1, .int x2, .int x3, .int x4, .int x5, .int x6, .int x7]) (st' := [.int x7, .int x6]) [.iload 6, .iload 7] (by decide +kernel) rfl <|
    Ev.cS0 (M' := M_X_isIn) (as := [.int x6, .int x7]) (rest := []) l_X_238 M_X_isIn_ok M_X_isIn_st (by decide +kernel) rfl rfl (Nat.le_of_ble_eq_true rfl) (Nat.le_of_ble_eq_true rfl) (s_X_isIn <| show Ev G (d + 3) _ _ M_X_pairAt 73 [.ref 0, .int x1, .int x2, .int x3, .int x4, .int x5, .int x6, .int x7] [.int (b2i (inI x6 x7))] h R from
      Ev.br (i := .ifCond .eq (21)) (P := (b2i (inI x6 x7)) = (0 : Int32)) (t := 94) (f := 76) (r := []) (by decide +kernel) rfl (fun c2 =>
        Ev.go (pc' := 59) (ls' := [.ref 0, .int x1, .int x2, .int x3, .int x4, .int x5, .int x6, .int (x7 + (1 : Int32))]) (st' := []) [.iinc 7 (1), .goto (-38)] (by decide +kernel) rfl <|
        (k1 c1 c2)
      ) (fun c2 =>
        Ev.go (pc' := 79) (ls' := [.ref 0, .int x1, .int x2, .int x3, .int x4, .int x5, .int x6, .int x7]) (st' := [.int x3, .int x4]) [.iload 4, .iload_n 3] (by decide +kernel) rfl <|
        Ev.br (i := .if_icmp .ne (12)) (P := x4 = x3) (t := 82) (f := 91) (r := []) (by decide +kernel) rfl (fun c3 =>
          Ev.go (pc' := 87) (ls' := [.ref 0, .int x1, .int x2, .int x3, .int x4, .int x5, .int x6, .int x7]) (st' := [.int x7, .int x5, .ref 0]) [.aload_n 0, .iload 5, .iload 7] (by decide +kernel) rfl <|
          Ev.cV0 (M' := M_X_packPair) (as := [.int x5, .int x7]) (rest := []) l_X_301 M_X_packPair_ok M_X_packPair_in M_X_packPair_se (by decide +kernel) (r6 c1 c2 c3) rfl rfl rfl (Nat.le_of_ble_eq_true rfl) (Nat.le_of_ble_eq_true rfl) (s_X_packPair (pr1 c1 c2 c3) (pr2 c1 c2 c3) (pr3 c1 c2 c3) (pr4 c1 c2 c3) (pr5 c1 c2 c3) <| show Ev G (d + 3) _ _ M_X_pairAt 90 [.ref 0, .int x1, .int x2, .int x3, .int x4, .int x5, .int x6, .int x7] [.int (nI (pkN (pop (sCo S1 i_5 ^^^ sCo S1 j_6)) i_5 j_6))] h R from
            Ev.ret (r := (some (.int (nI (pkN (pop (sCo S1 i_5 ^^^ sCo S1 j_6)) i_5 j_6))))) (Or.inl ⟨_, rfl, by decide +kernel, _, rfl, rfl⟩) (k2 c1 c2 c3)
          )
        ) (fun c3 =>
          Ev.go (pc' := 59) (ls' := [.ref 0, .int x1, .int x2, .int x3, .int (x4 + (1 : Int32)), .int x5, .int x6, .int (x7 + (1 : Int32))]) (st' := []) [.iinc 4 (1), .iinc 7 (1), .goto (-38)] (by decide +kernel) rfl <|
          (k3 c1 c2 c3)
        )
      )
    )
  ) (fun c1 =>
    Ev.go (pc' := 6) (ls' := [.ref 0, .int x1, .int x2, .int x3, .int x4, .int (x5 + (1 : Int32)), .int x6, .int x7]) (st' := []) [.iinc 5 (1), .goto (-97)] (by decide +kernel) rfl <|
    Ev.forget (ls' := [.ref 0, .int x1, .int x2, .int x3, .int x4, .int (x5 + (1 : Int32)), ev_unk, ev_unk]) ⟨Or.inr rfl, Or.inr rfl, Or.inr rfl, Or.inr rfl, Or.inr rfl, Or.inr rfl, Or.inl rfl, Or.inl rfl, trivial⟩ <|
    (k4 c1)
  )
theorem b_X_closestPair_0 {G : ev_G} {d k n : Nat} {h : ev_H} {R : Option Value → ev_H → Prop} {x1 : Int32}
  (k1 : Ev G (d + 3) k n M_X_closestPair 4 [.ref 0, .int x1, .int (-1 : Int32), .int (0 : Int32), ev_unk, ev_unk] [] h R)
  : Ev G (d + 3) k n M_X_closestPair 0 [.ref 0, .int x1, ev_unk, ev_unk, ev_unk, ev_unk] [] h R :=
  Ev.go (pc' := 4) (ls' := [.ref 0, .int x1, .int (-1 : Int32), .int (0 : Int32), ev_unk, ev_unk]) (st' := []) [.iconst (-1), .istore_n 2, .iconst 0, .istore_n 3] (by decide +kernel) rfl <|
  k1
theorem b_X_closestPair_4 {G : ev_G} {d k n : Nat} {h : ev_H} {R : Option Value → ev_H → Prop} {x1 : Int32} {x2 : Int32} {x3 : Int32}
  (k1 : x3 < (32 : Int32) → Ev G (d + 3) k n M_X_closestPair 15 [.ref 0, .int x1, .int x2, .int x3, .int (x3 + (1 : Int32)), ev_unk] [] h R)
  (k2 : ¬ x3 < (32 : Int32) → R (some (.int x2)) h)
  : Ev G (d + 3) k n M_X_closestPair 4 [.ref 0, .int x1, .int x2, .int x3, ev_unk, ev_unk] [] h R :=
  Ev.go (pc' := 7) (ls' := [.ref 0, .int x1, .int x2, .int x3, ev_unk, ev_unk]) (st' := [.int (32 : Int32), .int x3]) [.iload_n 3, .bipush (32)] (by decide +kernel) rfl <|
  Ev.br (i := .if_icmp .ge (70)) (P := x3 < (32 : Int32)) (t := 10) (f := 77) (r := []) (by decide +kernel) rfl (fun c1 =>
    Ev.go (pc' := 15) (ls' := [.ref 0, .int x1, .int x2, .int x3, .int (x3 + (1 : Int32)), ev_unk]) (st' := []) [.iload_n 3, .iconst 1, .iadd, .istore 4] (by decide +kernel) rfl <|
    (k1 c1)
  ) (fun c1 =>
    Ev.go (pc' := 78) (ls' := [.ref 0, .int x1, .int x2, .int x3, ev_unk, ev_unk]) (st' := [.int x2]) [.iload_n 2] (by decide +kernel) rfl <|
    Ev.ret (r := (some (.int x2))) (Or.inl ⟨_, rfl, by decide +kernel, _, rfl, rfl⟩) (k2 c1)
  )
theorem b_X_closestPair_15 {G : ev_G} {d k n : Nat} {h : ev_H} {R : Option Value → ev_H → Prop} {x1 : Int32} {x2 : Int32} {x3 : Int32} {x4 : Int32} {S1 : AS} {la2 : Int32} {fk3 : Int32} {fp4 : Int32} {i_5 : Nat} {j_6 : Nat}
  (pr1 : x4 < (32 : Int32) → ¬ (b2i (inI x1 x3)) = (0 : Int32) → ¬ (b2i (inI x1 x4)) = (0 : Int32) → XO h la2 fk3 fp4)
  (pr2 : x4 < (32 : Int32) → ¬ (b2i (inI x1 x3)) = (0 : Int32) → ¬ (b2i (inI x1 x4)) = (0 : Int32) → StR h 1 S1)
  (pr3 : x4 < (32 : Int32) → ¬ (b2i (inI x1 x3)) = (0 : Int32) → ¬ (b2i (inI x1 x4)) = (0 : Int32) → sOk S1)
  (pr4 : x4 < (32 : Int32) → ¬ (b2i (inI x1 x3)) = (0 : Int32) → ¬ (b2i (inI x1 x4)) = (0 : Int32) → x3 = nI i_5 ∧ i_5 < sN S1)
  (pr5 : x4 < (32 : Int32) → ¬ (b2i (inI x1 x3)) = (0 : Int32) → ¬ (b2i (inI x1 x4)) = (0 : Int32) → x4 = nI j_6 ∧ j_6 < sN S1)
  (r6 : x4 < (32 : Int32) → ¬ (b2i (inI x1 x3)) = (0 : Int32) → ¬ (b2i (inI x1 x4)) = (0 : Int32) → ∃ fs, hat h 0 (oC 8 fs))
  (k1 : x4 < (32 : Int32) → (b2i (inI x1 x3)) = (0 : Int32) → Ev G (d + 3) k n M_X_closestPair 15 [.ref 0, .int x1, .int x2, .int x3, .int (x4 + (1 : Int32)), ev_unk] [] h R)
  (k2 : x4 < (32 : Int32) → ¬ (b2i (inI x1 x3)) = (0 : Int32) → (b2i (inI x1 x4)) = (0 : Int32) → Ev G (d + 3) k n M_X_closestPair 15 [.ref 0, .int x1, .int x2, .int x3, .int (x4 + (1 : Int32)), ev_unk] [] h R)
  (k3 : x4 < (32 : Int32) → ¬ (b2i (inI x1 x3)) = (0 : Int32) → ¬ (b2i (inI x1 x4)) = (0 : Int32) → x2 = (-1 : Int32) → Ev G (d + 3) k n M_X_closestPair 15 [.ref 0, .int x1, .int (nI (pkN (pop (sCo S1 i_5 ^^^ sCo S1 j_6)) i_5 j_6)), .int x3, .int (x4 + (1 : Int32)), ev_unk] [] h R)
  (k4 : x4 < (32 : Int32) → ¬ (b2i (inI x1 x3)) = (0 : Int32) → ¬ (b2i (inI x1 x4)) = (0 : Int32) → ¬ x2 = (-1 : Int32) → Ev G (d + 3) k n M_X_closestPair 15 [.ref 0, .int x1, .int (if (nI (pkN (pop (sCo S1 i_5 ^^^ sCo S1 j_6)) i_5 j_6)) < x2 then (nI (pkN (pop (sCo S1 i_5 ^^^ sCo S1 j_6)) i_5 j_6)) else x2), .int x3, .int (x4 + (1 : Int32)), ev_unk] [] h R)
  (k5 : ¬ x4 < (32 : Int32) → Ev G (d + 3) k n M_X_closestPair 4 [.ref 0, .int x1, .int x2, .int (x3 + (1 : Int32)), ev_unk, ev_unk] [] h R)
  : Ev G (d + 3) k n M_X_closestPair 15 [.ref 0, .int x1, .int x2, .int x3, .int x4, ev_unk] [] h R :=
  Ev.go (pc' := 19) (ls' := [.ref 0, .int x1, .int x2, .int x3, .int x4, ev_unk]) (st' := [.int (32 : Int32), .int x4]) [.iload 4, .bipush (32)] (by decide +kernel) rfl <|
  Ev.br (i := .if_icmp .ge (52)) (P := x4 < (32 : Int32)) (t := 22) (f := 71) (r := []) (by decide +kernel) rfl (fun c1 =>
    Ev.go (pc' := 24) (ls' := [.ref 0, .int x1, .int x2, .int x3, .int x4, ev_unk]) (st' := [.int x3, .int x1]) [.iload_n 1, .iload_n 3] (by decide +kernel) rfl <|
    Ev.cS0 (M' := M_X_isIn) (as := [.int x1, .int x3]) (rest := []) l_X_238 M_X_isIn_ok M_X_isIn_st (by decide +kernel) rfl rfl (Nat.le_of_ble_eq_true rfl) (Nat.le_of_ble_eq_true rfl) (s_X_isIn <| show Ev G (d + 3) _ _ M_X_closestPair 27 [.ref 0, .int x1, .int x2, .int x3, .int x4, ev_unk] [.int (b2i (inI x1 x3))] h R from
      Ev.br (i := .ifCond .eq (38)) (P := (b2i (inI x1 x3)) = (0 : Int32)) (t := 65) (f := 30) (r := []) (by decide +kernel) rfl (fun c2 =>
        Ev.go (pc' := 15) (ls' := [.ref 0, .int x1, .int x2, .int x3, .int (x4 + (1 : Int32)), ev_unk]) (st' := []) [.iinc 4 (1), .goto (-53)] (by decide +kernel) rfl <|
        (k1 c1 c2)
      ) (fun c2 =>
        Ev.go (pc' := 33) (ls' := [.ref 0, .int x1, .int x2, .int x3, .int x4, ev_unk]) (st' := [.int x4, .int x1]) [.iload_n 1, .iload 4] (by decide +kernel) rfl <|
        Ev.cS0 (M' := M_X_isIn) (as := [.int x1, .int x4]) (rest := []) l_X_238 M_X_isIn_ok M_X_isIn_st (by decide +kernel) rfl rfl (Nat.le_of_ble_eq_true rfl) (Nat.le_of_ble_eq_true rfl) (s_X_isIn <| show Ev G (d + 3) _ _ M_X_closestPair 36 [.ref 0, .int x1, .int x2, .int x3, .int x4, ev_unk] [.int (b2i (inI x1 x4))] h R from
          Ev.br (i := .ifCond .eq (29)) (P := (b2i (inI x1 x4)) = (0 : Int32)) (t := 65) (f := 39) (r := []) (by decide +kernel) rfl (fun c3 =>
            Ev.go (pc' := 15) (ls' := [.ref 0, .int x1, .int x2, .int x3, .int (x4 + (1 : Int32)), ev_unk]) (st' := []) [.iinc 4 (1), .goto (-53)] (by decide +kernel) rfl <|
            (k2 c1 c2 c3)
          ) (fun c3 =>
            Ev.go (pc' := 43) (ls' := [.ref 0, .int x1, .int x2, .int x3, .int x4, ev_unk]) (st' := [.int x4, .int x3, .ref 0]) [.aload_n 0, .iload_n 3, .iload 4] (by decide +kernel) rfl <|
            Ev.cV0 (M' := M_X_packPair) (as := [.int x3, .int x4]) (rest := []) l_X_301 M_X_packPair_ok M_X_packPair_in M_X_packPair_se (by decide +kernel) (r6 c1 c2 c3) rfl rfl rfl (Nat.le_of_ble_eq_true rfl) (Nat.le_of_ble_eq_true rfl) (s_X_packPair (pr1 c1 c2 c3) (pr2 c1 c2 c3) (pr3 c1 c2 c3) (pr4 c1 c2 c3) (pr5 c1 c2 c3) <| show Ev G (d + 3) _ _ M_X_closestPair 46 [.ref 0, .int x1, .int x2, .int x3, .int x4, ev_unk] [.int (nI (pkN (pop (sCo S1 i_5 ^^^ sCo S1 j_6)) i_5 j_6))] h R from
              Ev.go (pc' := 50) (ls' := [.ref 0, .int x1, .int x2, .int x3, .int x4, .int (nI (pkN (pop (sCo S1 i_5 ^^^ sCo S1 j_6)) i_5 j_6))]) (st' := [.int (-1 : Int32), .int x2]) [.istore 5, .iload_n 2, .iconst (-1)] (by decide +kernel) rfl <|
              Ev.br (i := .if_icmp .ne (8)) (P := x2 = (-1 : Int32)) (t := 53) (f := 58) (r := []) (by decide +kernel) rfl (fun c4 =>
                Ev.go (pc' := 15) (ls' := [.ref 0, .int x1, .int (nI (pkN (pop (sCo S1 i_5 ^^^ sCo S1 j_6)) i_5 j_6)), .int x3, .int (x4 + (1 : Int32)), .int (nI (pkN (pop (sCo S1 i_5 ^^^ sCo S1 j_6)) i_5 j_6))]) (st' := []) [.iload 5, .goto (9), .istore_n 2, .iinc 4 (1), .goto (-53)] (by decide +kernel) rfl <|
                Ev.forget (ls' := [.ref 0, .int x1, .int (nI (pkN (pop (sCo S1 i_5 ^^^ sCo S1 j_6)) i_5 j_6)), .int x3, .int (x4 + (1 : Int32)), ev_unk]) ⟨Or.inr rfl, Or.inr rfl, Or.inr rfl, Or.inr rfl, Or.inr rfl, Or.inl rfl, trivial⟩ <|
                (k3 c1 c2 c3 c4)
              ) (fun c4 =>
                Ev.go (pc' := 61) (ls' := [.ref 0, .int x1, .int x2, .int x3, .int x4, .int (nI (pkN (pop (sCo S1 i_5 ^^^ sCo S1 j_6)) i_5 j_6))]) (st' := [.int (nI (pkN (pop (sCo S1 i_5 ^^^ sCo S1 j_6)) i_5 j_6)), .int x2]) [.iload_n 2, .iload 5] (by decide +kernel) rfl <|
                Ev.mmin lL_X_298 w_minS w_mathI w_minC (Nat.le_of_ble_eq_true rfl) (by decide +kernel) <|
                Ev.go (pc' := 15) (ls' := [.ref 0, .int x1, .int (if (nI (pkN (pop (sCo S1 i_5 ^^^ sCo S1 j_6)) i_5 j_6)) < x2 then (nI (pkN (pop (sCo S1 i_5 ^^^ sCo S1 j_6)) i_5 j_6)) else x2), .int x3, .int (x4 + (1 : Int32)), .int (nI (pkN (pop (sCo S1 i_5 ^^^ sCo S1 j_6)) i_5 j_6))]) (st' := []) [.istore_n 2, .iinc 4 (1), .goto (-53)] (by decide +kernel) rfl <|
                Ev.forget (ls' := [.ref 0, .int x1, .int (if (nI (pkN (pop (sCo S1 i_5 ^^^ sCo S1 j_6)) i_5 j_6)) < x2 then (nI (pkN (pop (sCo S1 i_5 ^^^ sCo S1 j_6)) i_5 j_6)) else x2), .int x3, .int (x4 + (1 : Int32)), ev_unk]) ⟨Or.inr rfl, Or.inr rfl, Or.inr rfl, Or.inr rfl, Or.inr rfl, Or.inl rfl, trivial⟩ <|
                (k4 c1 c2 c3 c4)
              )
            )
          )
        )
      )
    )
  ) (fun c1 =>
    Ev.go (pc' := 4) (ls' := [.ref 0, .int x1, .int x2, .int (x3 + (1 : Int32)), .int x4, ev_unk]) (st' := []) [.iinc 3 (1), .goto (-70)] (by decide +kernel) rfl <|
    Ev.forget (ls' := [.ref 0, .int x1, .int x2, .int (x3 + (1 : Int32)), ev_unk, ev_unk]) ⟨Or.inr rfl, Or.inr rfl, Or.inr rfl, Or.inr rfl, Or.inl rfl, Or.inr rfl, trivial⟩ <|
    (k5 c1)
  )
theorem b_X_clusterWith_0 {G : ev_G} {d k n : Nat} {h : ev_H} {R : Option Value → ev_H → Prop} {x1 : Int32} {x2 : Int32} {x3 : Int32}
  (k1 : Ev G (d + 3) k n M_X_clusterWith 12 [.ref 0, .int x1, .int x2, .int x3, .int ((1 : Int32) <<< (x2 &&& 31)), .int ((1 : Int32) <<< (x2 &&& 31)), .int (0 : Int32), ev_unk, ev_unk] [] h R)
  : Ev G (d + 3) k n M_X_clusterWith 0 [.ref 0, .int x1, .int x2, .int x3, ev_unk, ev_unk, ev_unk, ev_unk, ev_unk] [] h R :=
  Ev.go (pc' := 12) (ls' := [.ref 0, .int x1, .int x2, .int x3, .int ((1 : Int32) <<< (x2 &&& 31)), .int ((1 : Int32) <<< (x2 &&& 31)), .int (0 : Int32), ev_unk, ev_unk]) (st' := []) [.iconst 1, .iload_n 2, .ishl, .istore 4, .iload 4, .istore 5, .iconst 0, .istore 6] (by decide +kernel) rfl <|
  k1
theorem b_X_clusterWith_12 {G : ev_G} {d k n : Nat} {h : ev_H} {R : Option Value → ev_H → Prop} {x1 : Int32} {x2 : Int32} {x3 : Int32} {x4 : Int32} {x5 : Int32} {x6 : Int32} {f_latest_1 : Int32} {f_faultKind_2 : Int32} {f_faultPlace_3 : Int32} {f_bits_4 : Int32} {f_parts_5 : Int32} {f_size_6 : Int32} {fv7 : Value} {g8 : Nat → Int64} {j9 : Nat} {S10 : AS} {r_11 : Nat}
  (a1 : hat h 0 (oC 8 [.ref 1, .ref 5, .ref 18, .ref 81, .ref 98, .int f_latest_1, .int f_faultKind_2, .int f_faultPlace_3]))
  (a2 : hat h 1 (oC 6 [.int f_bits_4, .int f_parts_5, .ref 2, .int f_size_6, .ref 3, .ref 4, fv7]))
  (a3 : hat h 3 (aL 32 g8))
  (i4 : x6 < (32 : Int32) → ¬ x5 = (0 : Int32) → ev_ix (frI (bt x5) 32) j9 32)
  (pr5 : x6 < (32 : Int32) → ¬ x5 = (0 : Int32) → StR h 1 S10)
  (pr6 : x6 < (32 : Int32) → ¬ x5 = (0 : Int32) → sOk S10)
  (pr7 : x6 < (32 : Int32) → ¬ x5 = (0 : Int32) → x3 = nI r_11 ∧ r_11 < 2147483648)
  (k1 : x6 < (32 : Int32) → x5 = (0 : Int32) → R (some (.int x4)) h)
  (k2 : x6 < (32 : Int32) → ¬ x5 = (0 : Int32) → Ev G (d + 3) k n M_X_clusterWith 12 [.ref 0, .int x1, .int x2, .int x3, .int (x4 ||| (setI (nrP S10 (bt (x1 &&& (x4 ^^^ (-1 : Int32)))) (g8 j9) r_11))), .int ((x5 &&& (((1 : Int32) <<< ((frI (bt x5) 32) &&& 31)) ^^^ (-1 : Int32))) ||| (setI (nrP S10 (bt (x1 &&& (x4 ^^^ (-1 : Int32)))) (g8 j9) r_11))), .int (x6 + (1 : Int32)), ev_unk, ev_unk] [] h R)
  (k3 : ¬ x6 < (32 : Int32) → R (some (.int x4)) h)
  : Ev G (d + 3) k n M_X_clusterWith 12 [.ref 0, .int x1, .int x2, .int x3, .int x4, .int x5, .int x6, ev_unk, ev_unk] [] h R :=
  Ev.go (pc' := 16) (ls' := [.ref 0, .int x1, .int x2, .int x3, .int x4, .int x5, .int x6, ev_unk, ev_unk]) (st' := [.int (32 : Int32), .int x6]) [.iload 6, .bipush (32)] (by decide +kernel) rfl <|
  Ev.br (i := .if_icmp .ge (68)) (P := x6 < (32 : Int32)) (t := 19) (f := 84) (r := []) (by decide +kernel) rfl (fun c1 =>
    Ev.go (pc' := 21) (ls' := [.ref 0, .int x1, .int x2, .int x3, .int x4, .int x5, .int x6, ev_unk, ev_unk]) (st' := [.int x5]) [.iload 5] (by decide +kernel) rfl <|
    Ev.br (i := .ifCond .eq (63)) (P := x5 = (0 : Int32)) (t := 84) (f := 24) (r := []) (by decide +kernel) rfl (fun c2 =>
      Ev.go (pc' := 86) (ls' := [.ref 0, .int x1, .int x2, .int x3, .int x4, .int x5, .int x6, ev_unk, ev_unk]) (st' := [.int x4]) [.iload 4] (by decide +kernel) rfl <|
      Ev.ret (r := (some (.int x4))) (Or.inl ⟨_, rfl, by decide +kernel, _, rfl, rfl⟩) (k1 c1 c2)
    ) (fun c2 =>
      Ev.go (pc' := 26) (ls' := [.ref 0, .int x1, .int x2, .int x3, .int x4, .int x5, .int x6, ev_unk, ev_unk]) (st' := [.int x5]) [.iload 5] (by decide +kernel) rfl <|
      Ev.cS0 (M' := M_X_leastOf) (as := [.int x5]) (rest := []) l_X_257 M_X_leastOf_ok M_X_leastOf_st (by decide +kernel) rfl rfl (Nat.le_of_ble_eq_true rfl) (Nat.le_of_ble_eq_true rfl) (s_X_leastOf <| show Ev G (d + 3) _ _ M_X_clusterWith 29 [.ref 0, .int x1, .int x2, .int x3, .int x4, .int x5, .int x6, ev_unk, ev_unk] [.int (frI (bt x5) 32)] h R from
        Ev.go (pc' := 32) (ls' := [.ref 0, .int x1, .int x2, .int x3, .int x4, .int x5, .int x6, .int (frI (bt x5) 32), ev_unk]) (st' := [.ref 0]) [.istore 7, .aload_n 0] (by decide +kernel) rfl <|
        Ev.getf f_X_10 (by decide +kernel) a1 rfl <|
        Ev.go (pc' := 42) (ls' := [.ref 0, .int x1, .int x2, .int x3, .int x4, .int x5, .int x6, .int (frI (bt x5) 32), ev_unk]) (st' := [.ref 0, .int (x1 &&& (x4 ^^^ (-1 : Int32))), .ref 1]) [.iload_n 1, .iload 4, .iconst (-1), .ixor, .iand, .aload_n 0] (by decide +kernel) rfl <|
        Ev.getf f_X_10 (by decide +kernel) a1 rfl <|
        Ev.getf f_X_118 (by decide +kernel) a2 rfl <|
        Ev.go (pc' := 50) (ls' := [.ref 0, .int x1, .int x2, .int x3, .int x4, .int x5, .int x6, .int (frI (bt x5) 32), ev_unk]) (st' := [.int (frI (bt x5) 32), .ref 3, .int (x1 &&& (x4 ^^^ (-1 : Int32))), .ref 1]) [.iload 7] (by decide +kernel) rfl <|
        Ev.lald (j := j9) (by decide +kernel) a3 (i4 c1 c2) <|
        Ev.go (pc' := 52) (ls' := [.ref 0, .int x1, .int x2, .int x3, .int x4, .int x5, .int x6, .int (frI (bt x5) 32), ev_unk]) (st' := [.int x3, .long (g8 j9), .int (x1 &&& (x4 ^^^ (-1 : Int32))), .ref 1]) [.iload_n 3] (by decide +kernel) rfl <|
        Ev.cV0 (M' := M_St_within) (as := [.int (x1 &&& (x4 ^^^ (-1 : Int32))), .long (g8 j9), .int x3]) (rest := []) l_X_217 M_St_within_ok M_St_within_in M_St_within_se (by decide +kernel) ⟨_, a2⟩ rfl rfl rfl (Nat.le_of_ble_eq_true rfl) (Nat.le_of_ble_eq_true rfl) (s_St_within' (pr5 c1 c2) (pr6 c1 c2) (pr7 c1 c2) <| show Ev G (d + 3) _ _ M_X_clusterWith 55 [.ref 0, .int x1, .int x2, .int x3, .int x4, .int x5, .int x6, .int (frI (bt x5) 32), ev_unk] [.int (setI (nrP S10 (bt (x1 &&& (x4 ^^^ (-1 : Int32)))) (g8 j9) r_11))] h R from
          Ev.go (pc' := 12) (ls' := [.ref 0, .int x1, .int x2, .int x3, .int (x4 ||| (setI (nrP S10 (bt (x1 &&& (x4 ^^^ (-1 : Int32)))) (g8 j9) r_11))), .int ((x5 &&& (((1 : Int32) <<< ((frI (bt x5) 32) &&& 31)) ^^^ (-1 : Int32))) ||| (setI (nrP S10 (bt (x1 &&& (x4 ^^^ (-1 : Int32)))) (g8 j9) r_11))), .int (x6 + (1 : Int32)), .int (frI (bt x5) 32), .int (setI (nrP S10 (bt (x1 &&& (x4 ^^^ (-1 : Int32)))) (g8 j9) r_11))]) (st' := []) [.istore 8, .iload 4, .iload 8, .ior, .istore 4, .iload 5, .iconst 1, .iload 7, .ishl, .iconst (-1), .ixor, .iand, .iload 8, .ior, .istore 5, .iinc 6 (1), .goto (-69)] (by decide +kernel) rfl <|
          Ev.forget (ls' := [.ref 0, .int x1, .int x2, .int x3, .int (x4 ||| (setI (nrP S10 (bt (x1 &&& (x4 ^^^ (-1 : Int32)))) (g8 j9) r_11))), .int ((x5 &&& (((1 : Int32) <<< ((frI (bt x5) 32) &&& 31)) ^^^ (-1 : Int32))) ||| (setI (nrP S10 (bt (x1 &&& (x4 ^^^ (-1 : Int32)))) (g8 j9) r_11))), .int (x6 + (1 : Int32)), ev_unk, ev_unk]) ⟨Or.inr rfl, Or.inr rfl, Or.inr rfl, Or.inr rfl, Or.inr rfl, Or.inr rfl, Or.inr rfl, Or.inl rfl, Or.inl rfl, trivial⟩ <|
          (k2 c1 c2)
        )
      )
    )
  ) (fun c1 =>
    Ev.go (pc' := 86) (ls' := [.ref 0, .int x1, .int x2, .int x3, .int x4, .int x5, .int x6, ev_unk, ev_unk]) (st' := [.int x4]) [.iload 4] (by decide +kernel) rfl <|
    Ev.ret (r := (some (.int x4))) (Or.inl ⟨_, rfl, by decide +kernel, _, rfl, rfl⟩) (k3 c1)
  )
theorem b_X_middleOf_0 {G : ev_G} {d k n : Nat} {h : ev_H} {R : Option Value → ev_H → Prop} {x1 : Int32}
  (k1 : Ev G (d + 3) k n M_X_middleOf 7 [.ref 0, .int x1, .int (-1 : Int32), .int (0 : Int32), .int (0 : Int32), ev_unk] [] h R)
  : Ev G (d + 3) k n M_X_middleOf 0 [.ref 0, .int x1, ev_unk, ev_unk, ev_unk, ev_unk] [] h R :=
  Ev.go (pc' := 7) (ls' := [.ref 0, .int x1, .int (-1 : Int32), .int (0 : Int32), .int (0 : Int32), ev_unk]) (st' := []) [.iconst (-1), .istore_n 2, .iconst 0, .istore_n 3, .iconst 0, .istore 4] (by decide +kernel) rfl <|
  k1
theorem b_X_middleOf_7 {G : ev_G} {d k n : Nat} {h : ev_H} {R : Option Value → ev_H → Prop} {x1 : Int32} {x2 : Int32} {x3 : Int32} {x4 : Int32} {f_latest_1 : Int32} {f_faultKind_2 : Int32} {f_faultPlace_3 : Int32} {f_bits_4 : Int32} {f_parts_5 : Int32} {f_size_6 : Int32} {fv7 : Value} {g8 : Nat → Int64} {j9 : Nat} {S10 : AS}
  (a1 : hat h 0 (oC 8 [.ref 1, .ref 5, .ref 18, .ref 81, .ref 98, .int f_latest_1, .int f_faultKind_2, .int f_faultPlace_3]))
  (a2 : hat h 1 (oC 6 [.int f_bits_4, .int f_parts_5, .ref 2, .int f_size_6, .ref 3, .ref 4, fv7]))
  (a3 : hat h 3 (aL 32 g8))
  (i4 : x4 < (32 : Int32) → ¬ (b2i (inI x1 x4)) = (0 : Int32) → ev_ix x4 j9 32)
  (pr5 : x4 < (32 : Int32) → ¬ (b2i (inI x1 x4)) = (0 : Int32) → StR h 1 S10)
  (pr6 : x4 < (32 : Int32) → ¬ (b2i (inI x1 x4)) = (0 : Int32) → sOk S10)
  (k1 : x4 < (32 : Int32) → (b2i (inI x1 x4)) = (0 : Int32) → Ev G (d + 3) k n M_X_middleOf 7 [.ref 0, .int x1, .int x2, .int x3, .int (x4 + (1 : Int32)), ev_unk] [] h R)
  (k2 : x4 < (32 : Int32) → ¬ (b2i (inI x1 x4)) = (0 : Int32) → x2 = (-1 : Int32) → Ev G (d + 3) k n M_X_middleOf 7 [.ref 0, .int x1, .int x4, .int (nI (sumT (fun j => if bt x1 j then pop (sCo S10 j ^^^ (g8 j9)) else 0) (sN S10))), .int (x4 + (1 : Int32)), ev_unk] [] h R)
  (k3 : x4 < (32 : Int32) → ¬ (b2i (inI x1 x4)) = (0 : Int32) → ¬ x2 = (-1 : Int32) → (nI (sumT (fun j => if bt x1 j then pop (sCo S10 j ^^^ (g8 j9)) else 0) (sN S10))) < x3 → Ev G (d + 3) k n M_X_middleOf 7 [.ref 0, .int x1, .int x4, .int (nI (sumT (fun j => if bt x1 j then pop (sCo S10 j ^^^ (g8 j9)) else 0) (sN S10))), .int (x4 + (1 : Int32)), ev_unk] [] h R)
  (k4 : x4 < (32 : Int32) → ¬ (b2i (inI x1 x4)) = (0 : Int32) → ¬ x2 = (-1 : Int32) → ¬ (nI (sumT (fun j => if bt x1 j then pop (sCo S10 j ^^^ (g8 j9)) else 0) (sN S10))) < x3 → Ev G (d + 3) k n M_X_middleOf 7 [.ref 0, .int x1, .int x2, .int x3, .int (x4 + (1 : Int32)), ev_unk] [] h R)
  (k5 : ¬ x4 < (32 : Int32) → R (some (.int x2)) h)
  : Ev G (d + 3) k n M_X_middleOf 7 [.ref 0, .int x1, .int x2, .int x3, .int x4, ev_unk] [] h R :=
  Ev.go (pc' := 11) (ls' := [.ref 0, .int x1, .int x2, .int x3, .int x4, ev_unk]) (st' := [.int (32 : Int32), .int x4]) [.iload 4, .bipush (32)] (by decide +kernel) rfl <|
  Ev.br (i := .if_icmp .ge (55)) (P := x4 < (32 : Int32)) (t := 14) (f := 66) (r := []) (by decide +kernel) rfl (fun c1 =>
    Ev.go (pc' := 17) (ls' := [.ref 0, .int x1, .int x2, .int x3, .int x4, ev_unk]) (st' := [.int x4, .int x1]) [.iload_n 1, .iload 4] (by decide +kernel) rfl <|
    Ev.cS0 (M' := M_X_isIn) (as := [.int x1, .int x4]) (rest := []) l_X_238 M_X_isIn_ok M_X_isIn_st (by decide +kernel) rfl rfl (Nat.le_of_ble_eq_true rfl) (Nat.le_of_ble_eq_true rfl) (s_X_isIn <| show Ev G (d + 3) _ _ M_X_middleOf 20 [.ref 0, .int x1, .int x2, .int x3, .int x4, ev_unk] [.int (b2i (inI x1 x4))] h R from
      Ev.br (i := .ifCond .eq (40)) (P := (b2i (inI x1 x4)) = (0 : Int32)) (t := 60) (f := 23) (r := []) (by decide +kernel) rfl (fun c2 =>
        Ev.go (pc' := 7) (ls' := [.ref 0, .int x1, .int x2, .int x3, .int (x4 + (1 : Int32)), ev_unk]) (st' := []) [.iinc 4 (1), .goto (-56)] (by decide +kernel) rfl <|
        (k1 c1 c2)
      ) (fun c2 =>
        Ev.go (pc' := 24) (ls' := [.ref 0, .int x1, .int x2, .int x3, .int x4, ev_unk]) (st' := [.ref 0]) [.aload_n 0] (by decide +kernel) rfl <|
        Ev.getf f_X_10 (by decide +kernel) a1 rfl <|
        Ev.go (pc' := 29) (ls' := [.ref 0, .int x1, .int x2, .int x3, .int x4, ev_unk]) (st' := [.ref 0, .int x1, .ref 1]) [.iload_n 1, .aload_n 0] (by decide +kernel) rfl <|
        Ev.getf f_X_10 (by decide +kernel) a1 rfl <|
        Ev.getf f_X_118 (by decide +kernel) a2 rfl <|
        Ev.go (pc' := 37) (ls' := [.ref 0, .int x1, .int x2, .int x3, .int x4, ev_unk]) (st' := [.int x4, .ref 3, .int x1, .ref 1]) [.iload 4] (by decide +kernel) rfl <|
        Ev.lald (j := j9) (by decide +kernel) a3 (i4 c1 c2) <|
        Ev.cV0 (M' := M_St_farFromAll) (as := [.int x1, .long (g8 j9)]) (rest := []) l_X_304 M_St_farFromAll_ok M_St_farFromAll_in M_St_farFromAll_se (by decide +kernel) ⟨_, a2⟩ rfl rfl rfl (Nat.le_of_ble_eq_true rfl) (Nat.le_of_ble_eq_true rfl) (s_St_farFromAll (pr5 c1 c2) (pr6 c1 c2) <| show Ev G (d + 3) _ _ M_X_middleOf 41 [.ref 0, .int x1, .int x2, .int x3, .int x4, ev_unk] [.int (nI (sumT (fun j => if bt x1 j then pop (sCo S10 j ^^^ (g8 j9)) else 0) (sN S10)))] h R from
          Ev.go (pc' := 45) (ls' := [.ref 0, .int x1, .int x2, .int x3, .int x4, .int (nI (sumT (fun j => if bt x1 j then pop (sCo S10 j ^^^ (g8 j9)) else 0) (sN S10)))]) (st' := [.int (-1 : Int32), .int x2]) [.istore 5, .iload_n 2, .iconst (-1)] (by decide +kernel) rfl <|
          Ev.br (i := .if_icmp .eq (9)) (P := x2 = (-1 : Int32)) (t := 54) (f := 48) (r := []) (by decide +kernel) rfl (fun c3 =>
            Ev.go (pc' := 7) (ls' := [.ref 0, .int x1, .int x4, .int (nI (sumT (fun j => if bt x1 j then pop (sCo S10 j ^^^ (g8 j9)) else 0) (sN S10))), .int (x4 + (1 : Int32)), .int (nI (sumT (fun j => if bt x1 j then pop (sCo S10 j ^^^ (g8 j9)) else 0) (sN S10)))]) (st' := []) [.iload 5, .istore_n 3, .iload 4, .istore_n 2, .iinc 4 (1), .goto (-56)] (by decide +kernel) rfl <|
            Ev.forget (ls' := [.ref 0, .int x1, .int x4, .int (nI (sumT (fun j => if bt x1 j then pop (sCo S10 j ^^^ (g8 j9)) else 0) (sN S10))), .int (x4 + (1 : Int32)), ev_unk]) ⟨Or.inr rfl, Or.inr rfl, Or.inr rfl, Or.inr rfl, Or.inr rfl, Or.inl rfl, trivial⟩ <|
            (k2 c1 c2 c3)
          ) (fun c3 =>
            Ev.go (pc' := 51) (ls' := [.ref 0, .int x1, .int x2, .int x3, .int x4, .int (nI (sumT (fun j => if bt x1 j then pop (sCo S10 j ^^^ (g8 j9)) else 0) (sN S10)))]) (st' := [.int x3, .int (nI (sumT (fun j => if bt x1 j then pop (sCo S10 j ^^^ (g8 j9)) else 0) (sN S10)))]) [.iload 5, .iload_n 3] (by decide +kernel) rfl <|
            Ev.br (i := .if_icmp .ge (9)) (P := (nI (sumT (fun j => if bt x1 j then pop (sCo S10 j ^^^ (g8 j9)) else 0) (sN S10))) < x3) (t := 54) (f := 60) (r := []) (by decide +kernel) rfl (fun c4 =>
              Ev.go (pc' := 7) (ls' := [.ref 0, .int x1, .int x4, .int (nI (sumT (fun j => if bt x1 j then pop (sCo S10 j ^^^ (g8 j9)) else 0) (sN S10))), .int (x4 + (1 : Int32)), .int (nI (sumT (fun j => if bt x1 j then pop (sCo S10 j ^^^ (g8 j9)) else 0) (sN S10)))]) (st' := []) [.iload 5, .istore_n 3, .iload 4, .istore_n 2, .iinc 4 (1), .goto (-56)] (by decide +kernel) rfl <|
              Ev.forget (ls' := [.ref 0, .int x1, .int x4, .int (nI (sumT (fun j => if bt x1 j then pop (sCo S10 j ^^^ (g8 j9)) else 0) (sN S10))), .int (x4 + (1 : Int32)), ev_unk]) ⟨Or.inr rfl, Or.inr rfl, Or.inr rfl, Or.inr rfl, Or.inr rfl, Or.inl rfl, trivial⟩ <|
              (k3 c1 c2 c3 c4)
            ) (fun c4 =>
              Ev.go (pc' := 7) (ls' := [.ref 0, .int x1, .int x2, .int x3, .int (x4 + (1 : Int32)), .int (nI (sumT (fun j => if bt x1 j then pop (sCo S10 j ^^^ (g8 j9)) else 0) (sN S10)))]) (st' := []) [.iinc 4 (1), .goto (-56)] (by decide +kernel) rfl <|
              Ev.forget (ls' := [.ref 0, .int x1, .int x2, .int x3, .int (x4 + (1 : Int32)), ev_unk]) ⟨Or.inr rfl, Or.inr rfl, Or.inr rfl, Or.inr rfl, Or.inr rfl, Or.inl rfl, trivial⟩ <|
              (k4 c1 c2 c3 c4)
            )
          )
        )
      )
    )
  ) (fun c1 =>
    Ev.go (pc' := 67) (ls' := [.ref 0, .int x1, .int x2, .int x3, .int x4, ev_unk]) (st' := [.int x2]) [.iload_n 2] (by decide +kernel) rfl <|
    Ev.ret (r := (some (.int x2))) (Or.inl ⟨_, rfl, by decide +kernel, _, rfl, rfl⟩) (k5 c1)
  )
theorem b_X_costParted_0 {G : ev_G} {d k n : Nat} {h : ev_H} {R : Option Value → ev_H → Prop} {x1 : Int32} {x2 : Int32} {x3 : Int32} {f_latest_1 : Int32} {f_faultKind_2 : Int32} {f_faultPlace_3 : Int32} {f_bits_4 : Int32} {f_parts_5 : Int32} {f_size_6 : Int32} {fv7 : Value}
  (a1 : hat h 0 (oC 8 [.ref 1, .ref 5, .ref 18, .ref 81, .ref 98, .int f_latest_1, .int f_faultKind_2, .int f_faultPlace_3]))
  (a2 : hat h 1 (oC 6 [.int f_bits_4, .int f_parts_5, .ref 2, .int f_size_6, .ref 3, .ref 4, fv7]))
  (r3 : ∃ fs, hat h 81 (oC 0 fs))
  (k1 : Ev G d 0 0 M_Bu_partInTwo 0 [.ref 81, .int x2, .int (f_bits_4 - x2)] [] h (fun r h1 => Ev G (d + 1) k n M_X_costParted 20 [.ref 0, .int x1, .int x2, .int x3, .int (0 : Int32), ev_unk] (r.toList ++ []) h1 R))
  : Ev G (d + 1) k n M_X_costParted 0 [.ref 0, .int x1, .int x2, .int x3, ev_unk, ev_unk] [] h R :=
  Ev.go (pc' := 4) (ls' := [.ref 0, .int x1, .int x2, .int x3, .int (0 : Int32), ev_unk]) (st' := [.ref 0]) [.iconst 0, .istore 4, .aload_n 0] (by decide +kernel) rfl <|
  Ev.getf f_X_33 (by decide +kernel) a1 rfl <|
  Ev.go (pc' := 9) (ls' := [.ref 0, .int x1, .int x2, .int x3, .int (0 : Int32), ev_unk]) (st' := [.ref 0, .int x2, .ref 81]) [.iload_n 2, .aload_n 0] (by decide +kernel) rfl <|
  Ev.getf f_X_10 (by decide +kernel) a1 rfl <|
  Ev.getf f_X_90 (by decide +kernel) a2 rfl <|
  Ev.go (pc' := 17) (ls' := [.ref 0, .int x1, .int x2, .int x3, .int (0 : Int32), ev_unk]) (st' := [.int (f_bits_4 - x2), .int x2, .ref 81]) [.iload_n 2, .isub] (by decide +kernel) rfl <|
  Ev.cV0 (M' := M_Bu_partInTwo) (as := [.int x2, .int (f_bits_4 - x2)]) (rest := []) l_X_308 M_Bu_partInTwo_ok M_Bu_partInTwo_in M_Bu_partInTwo_se (by decide +kernel) r3 rfl rfl rfl (Nat.le_of_ble_eq_true rfl) (Nat.le_of_ble_eq_true rfl) k1
theorem b_X_costParted_20 {G : ev_G} {d k n : Nat} {h : ev_H} {R : Option Value → ev_H → Prop} {x1 : Int32} {x2 : Int32} {x3 : Int32} {x4 : Int32}
  (k1 : Ev G (d + 1) k n M_X_costParted 23 [.ref 0, .int x1, .int x2, .int x3, .int x4, .int (0 : Int32)] [] h R)
  : Ev G (d + 1) k n M_X_costParted 20 [.ref 0, .int x1, .int x2, .int x3, .int x4, ev_unk] [] h R :=
  Ev.go (pc' := 23) (ls' := [.ref 0, .int x1, .int x2, .int x3, .int x4, .int (0 : Int32)]) (st' := []) [.iconst 0, .istore 5] (by decide +kernel) rfl <|
  k1
theorem b_X_costParted_23 {G : ev_G} {d k n : Nat} {h : ev_H} {R : Option Value → ev_H → Prop} {x1 : Int32} {x2 : Int32} {x3 : Int32} {x4 : Int32} {x5 : Int32} {f_latest_1 : Int32} {f_faultKind_2 : Int32} {f_faultPlace_3 : Int32} {f_bits_4 : Int32} {f_parts_5 : Int32} {f_size_6 : Int32} {fv7 : Value} {g8 : Nat → Int64} {j9 : Nat}
  (a1 : hat h 0 (oC 8 [.ref 1, .ref 5, .ref 18, .ref 81, .ref 98, .int f_latest_1, .int f_faultKind_2, .int f_faultPlace_3]))
  (a2 : hat h 1 (oC 6 [.int f_bits_4, .int f_parts_5, .ref 2, .int f_size_6, .ref 3, .ref 4, fv7]))
  (a3 : hat h 3 (aL 32 g8))
  (i4 : x5 < (32 : Int32) → ¬ (b2i (inI x1 x5)) = (0 : Int32) → ev_ix x5 j9 32)
  (r5 : x5 < (32 : Int32) → ¬ (b2i (inI x1 x5)) = (0 : Int32) → ∃ fs, hat h 81 (oC 0 fs))
  (k1 : x5 < (32 : Int32) → (b2i (inI x1 x5)) = (0 : Int32) → Ev G (d + 1) k n M_X_costParted 23 [.ref 0, .int x1, .int x2, .int x3, .int x4, .int (x5 + (1 : Int32))] [] h R)
  (k2 : x5 < (32 : Int32) → ¬ (b2i (inI x1 x5)) = (0 : Int32) → Ev G d 0 0 M_Bu_plan 0 [.ref 81, .ref 3, .int x1, .long (g8 j9), ev_unk, .int x3] [] h (fun r h1 => Ev G (d + 1) k n M_X_costParted 67 [.ref 0, .int x1, .int x2, .int x3, .int x4, .int x5] (r.toList ++ [.int x4]) h1 R))
  (k3 : ¬ x5 < (32 : Int32) → R (some (.int x4)) h)
  : Ev G (d + 1) k n M_X_costParted 23 [.ref 0, .int x1, .int x2, .int x3, .int x4, .int x5] [] h R :=
  Ev.go (pc' := 27) (ls' := [.ref 0, .int x1, .int x2, .int x3, .int x4, .int x5]) (st' := [.int (32 : Int32), .int x5]) [.iload 5, .bipush (32)] (by decide +kernel) rfl <|
  Ev.br (i := .if_icmp .ge (49)) (P := x5 < (32 : Int32)) (t := 30) (f := 76) (r := []) (by decide +kernel) rfl (fun c1 =>
    Ev.go (pc' := 33) (ls' := [.ref 0, .int x1, .int x2, .int x3, .int x4, .int x5]) (st' := [.int x5, .int x1]) [.iload_n 1, .iload 5] (by decide +kernel) rfl <|
    Ev.cS0 (M' := M_X_isIn) (as := [.int x1, .int x5]) (rest := []) l_X_238 M_X_isIn_ok M_X_isIn_st (by decide +kernel) rfl rfl (Nat.le_of_ble_eq_true rfl) (Nat.le_of_ble_eq_true rfl) (s_X_isIn <| show Ev G (d + 1) _ _ M_X_costParted 36 [.ref 0, .int x1, .int x2, .int x3, .int x4, .int x5] [.int (b2i (inI x1 x5))] h R from
      Ev.br (i := .ifCond .eq (34)) (P := (b2i (inI x1 x5)) = (0 : Int32)) (t := 70) (f := 39) (r := []) (by decide +kernel) rfl (fun c2 =>
        Ev.go (pc' := 23) (ls' := [.ref 0, .int x1, .int x2, .int x3, .int x4, .int (x5 + (1 : Int32))]) (st' := []) [.iinc 5 (1), .goto (-50)] (by decide +kernel) rfl <|
        (k1 c1 c2)
      ) (fun c2 =>
        Ev.go (pc' := 42) (ls' := [.ref 0, .int x1, .int x2, .int x3, .int x4, .int x5]) (st' := [.ref 0, .int x4]) [.iload 4, .aload_n 0] (by decide +kernel) rfl <|
        Ev.getf f_X_33 (by decide +kernel) a1 rfl <|
        Ev.go (pc' := 46) (ls' := [.ref 0, .int x1, .int x2, .int x3, .int x4, .int x5]) (st' := [.ref 0, .ref 81, .int x4]) [.aload_n 0] (by decide +kernel) rfl <|
        Ev.getf f_X_10 (by decide +kernel) a1 rfl <|
        Ev.getf f_X_118 (by decide +kernel) a2 rfl <|
        Ev.go (pc' := 54) (ls' := [.ref 0, .int x1, .int x2, .int x3, .int x4, .int x5]) (st' := [.ref 0, .int x1, .ref 3, .ref 81, .int x4]) [.iload_n 1, .aload_n 0] (by decide +kernel) rfl <|
        Ev.getf f_X_10 (by decide +kernel) a1 rfl <|
        Ev.getf f_X_118 (by decide +kernel) a2 rfl <|
        Ev.go (pc' := 62) (ls' := [.ref 0, .int x1, .int x2, .int x3, .int x4, .int x5]) (st' := [.int x5, .ref 3, .int x1, .ref 3, .ref 81, .int x4]) [.iload 5] (by decide +kernel) rfl <|
        Ev.lald (j := j9) (by decide +kernel) a3 (i4 c1 c2) <|
        Ev.go (pc' := 64) (ls' := [.ref 0, .int x1, .int x2, .int x3, .int x4, .int x5]) (st' := [.int x3, .long (g8 j9), .int x1, .ref 3, .ref 81, .int x4]) [.iload_n 3] (by decide +kernel) rfl <|
        Ev.cV0 (M' := M_Bu_plan) (as := [.ref 3, .int x1, .long (g8 j9), .int x3]) (rest := [.int x4]) l_X_198 M_Bu_plan_ok M_Bu_plan_in M_Bu_plan_se (by decide +kernel) (r5 c1 c2) rfl rfl rfl (Nat.le_of_ble_eq_true rfl) (Nat.le_of_ble_eq_true rfl) (k2 c1 c2)
      )
    )
  ) (fun c1 =>
    Ev.go (pc' := 78) (ls' := [.ref 0, .int x1, .int x2, .int x3, .int x4, .int x5]) (st' := [.int x4]) [.iload 4] (by decide +kernel) rfl <|
    Ev.ret (r := (some (.int x4))) (Or.inl ⟨_, rfl, by decide +kernel, _, rfl, rfl⟩) (k3 c1)
  )
theorem b_X_costParted_67 {G : ev_G} {d k n : Nat} {h : ev_H} {R : Option Value → ev_H → Prop} {x1 : Int32} {x2 : Int32} {x3 : Int32} {x4 : Int32} {x5 : Int32} {y0 : Int32} {y1 : Int32}
  (k1 : Ev G (d + 1) k n M_X_costParted 23 [.ref 0, .int x1, .int x2, .int x3, .int (y0 + y1), .int (x5 + (1 : Int32))] [] h R)
  : Ev G (d + 1) k n M_X_costParted 67 [.ref 0, .int x1, .int x2, .int x3, .int x4, .int x5] [.int y1, .int y0] h R :=
  Ev.go (pc' := 23) (ls' := [.ref 0, .int x1, .int x2, .int x3, .int (y0 + y1), .int (x5 + (1 : Int32))]) (st' := []) [.iadd, .istore 4, .iinc 5 (1), .goto (-50)] (by decide +kernel) rfl <|
  k1
def nthT (q : Nat → Bool) (k : Nat) : Nat := fst (fun t => q t && decide (cnt q t = k)) 1024
theorem cnt_mono_n (q : Nat → Bool) {m n : Nat} (h : m ≤ n) : cnt q m ≤ cnt q n := by
  obtain ⟨e, rfl⟩ : ∃ e, n = m + e := ⟨n - m, by omega⟩
  rw [cnt_split]; omega
theorem cnt_skip {q : Nat → Bool} {m n : Nat} (h : m ≤ n) (hq : ∀ t, m ≤ t → t < n → q t = false) : cnt q n = cnt q m := by
  obtain ⟨e, rfl⟩ : ∃ e, n = m + e := ⟨n - m, by omega⟩
  rw [cnt_split, cnt_zero fun k hk => hq (m + k) (by omega) (by omega), Nat.add_zero]
theorem nthT_hit {q : Nat → Bool} {k t : Nat} (ht : t < 1024) (hq : q t = true) (hc : cnt q t = k) : nthT q k = t := by
  refine fst_eq ht ?_ fun j hj => ?_
  · show (q t && decide (cnt q t = k)) = true; rw [hq, decide_eq_true hc]; rfl
  · show (q j && decide (cnt q j = k)) = false
    cases e : q j
    · rfl
    · have h1 : cnt q (j + 1) = cnt q j + 1 := by show cnt q j + (if q j then 1 else 0) = _; rw [e]; rfl
      have h2 := cnt_mono_n q (m := j + 1) (n := t) (by omega)
      rw [decide_eq_false (by omega)]; rfl
theorem nthT_none {q : Nat → Bool} {k : Nat} (hc : cnt q 1024 ≤ k) : nthT q k = 1024 := by
  refine fst_none fun j hj => ?_
  show (q j && decide (cnt q j = k)) = false
  cases e : q j
  · rfl
  · have h1 : cnt q (j + 1) = cnt q j + 1 := by show cnt q j + (if q j then 1 else 0) = _; rw [e]; rfl
    have h2 := cnt_mono_n q (m := j + 1) (n := 1024) (by omega)
    rw [decide_eq_false (by omega)]; rfl
/-- two codes of a set, the first ahead of the second, not farther than r; at 32 i + j -/
def prP (S : AS) (p : Nat → Bool) (r : Nat) (t : Nat) : Bool := decide (t / 32 < t % 32) && (p (t / 32) && p (t % 32)) && decide (pop (sCo S (t / 32) ^^^ sCo S (t % 32)) ≤ r)
theorem prP_at (S : AS) (p : Nat → Bool) (r : Nat) {i j : Nat} (hj : j < 32) : prP S p r (32 * i + j) = (decide (i < j) && (p i && p j) && decide (pop (sCo S i ^^^ sCo S j) ≤ r)) := by
  unfold prP
  rw [show (32 * i + j) / 32 = i by omega, show (32 * i + j) % 32 = j by omega]
theorem bt_above {i j : Nat} (hi : i < 32) (hj : j < 32) : bt ((-2 : Int32) <<< (nI i &&& 31)) j = decide (i < j) := by
  rw [b_shl i hi _ hj]
  have : ∀ k, k < 32 → bt (-2) k = decide (0 < k) := by decide +kernel
  by_cases c : i ≤ j
  · rw [this _ (by omega), decide_eq_true c, Bool.true_and]; exact decide_eq_decide.mpr (by omega)
  · rw [decide_eq_false c, Bool.false_and, decide_eq_false (by omega)]
/-- the first with the least value -/
def omin (q : Nat → Bool) (v : Nat → Nat) : Nat → Option (Nat × Nat)
  | 0 => none
  | i + 1 => if q i then (match omin q v i with
    | none => some (i, v i)
    | some (b, l) => if v i < l then some (i, v i) else some (b, l)) else omin q v i
theorem omin_at {q : Nat → Bool} {v : Nat → Nat} : ∀ {n b l : Nat}, omin q v n = some (b, l) → b < n ∧ q b = true ∧ l = v b
  | 0, b, l, h => by cases h
  | n + 1, b, l, h => by
    have e : omin q v (n + 1) = if q n then (match omin q v n with
      | none => some (n, v n)
      | some (b, l) => if v n < l then some (n, v n) else some (b, l)) else omin q v n := rfl
    rw [e] at h
    cases hq : q n
    · rw [hq] at h
      have := omin_at (n := n) h
      exact ⟨by omega, this.2⟩
    · rw [hq] at h
      cases ho : omin q v n with
      | none => rw [ho] at h; cases h; exact ⟨by omega, hq, rfl⟩
      | some bl =>
        obtain ⟨b', l'⟩ := bl
        rw [ho] at h
        have := omin_at (n := n) ho
        simp only [if_true] at h
        by_cases c : v n < l'
        · rw [if_pos c] at h; cases h; exact ⟨by omega, hq, rfl⟩
        · rw [if_neg c] at h; cases h; exact ⟨by omega, this.2⟩
def twP (p : Nat → Bool) (t : Nat) : Bool := decide (t / 32 < t % 32) && (p (t / 32) && p (t % 32))
def twF (S : AS) (t : Nat) : Nat := pop (sCo S (t / 32) ^^^ sCo S (t % 32))
def clo (S : AS) (p : Nat → Bool) : Option (Nat × Nat) := omin (twP p) (twF S) 1024
def cloN (o : Option (Nat × Nat)) : Int32 := match o with
  | none => -1
  | some (t, f) => nI (f * 1024 + t)
/-- one turn of gathering a cluster -/
def clT (S : AS) (set : Int32) (r : Nat) (m : Int32 × Int32) : Int32 × Int32 := if m.2 = 0 then m else (m.1 ||| setI (nrP S (bt (set &&& (m.1 ^^^ (-1 : Int32)))) (sCo S (fst (bt m.2) 32)) r), (m.2 &&& (((1 : Int32) <<< (nI (fst (bt m.2) 32) &&& 31)) ^^^ (-1 : Int32))) ||| setI (nrP S (bt (set &&& (m.1 ^^^ (-1 : Int32)))) (sCo S (fst (bt m.2) 32)) r))
def clU (S : AS) (set : Int32) (r : Nat) (m : Int32 × Int32) : Nat → Int32 × Int32
  | 0 => m
  | i + 1 => clT S set r (clU S set r m i)
def cluI (S : AS) (set : Int32) (c r : Nat) : Int32 := (clU S set r ((1 : Int32) <<< (nI c &&& 31), (1 : Int32) <<< (nI c &&& 31)) 32).1
theorem clU_zero {S : AS} {set : Int32} {r : Nat} {m : Int32 × Int32} {i : Nat} (h : (clU S set r m i).2 = 0) : ∀ k, i ≤ k → clU S set r m k = clU S set r m i
  | 0, hk => by have : i = 0 := by omega
                subst this; rfl
  | k + 1, hk => by
    by_cases e : i = k + 1
    · rw [e]
    · have ih := clU_zero h k (by omega)
      show clT S set r (clU S set r m k) = _
      rw [ih]; unfold clT; rw [if_pos h]
def midS (S : AS) (p : Nat → Bool) (i : Nat) : Nat := sumT (fun j => if p j then pop (sCo S j ^^^ sCo S i) else 0) (sN S)
def mid (S : AS) (p : Nat → Bool) : Option (Nat × Nat) := omin p (midS S p) 32
def oIx (o : Option (Nat × Nat)) : Int32 := match o with
  | none => -1
  | some (b, _) => nI b
def oVl (o : Option (Nat × Nat)) : Int32 := match o with
  | none => 0
  | some (_, l) => nI l
theorem omin_step (q : Nat → Bool) (v : Nat → Nat) (n : Nat) : omin q v (n + 1) = if q n then (match omin q v n with
      | none => some (n, v n)
      | some (b, l) => if v n < l then some (n, v n) else some (b, l)) else omin q v n := rfl
section S23
variable {G : ev_G} {d : Nat} {h : ev_H} {R : Option Value → ev_H → Prop} {S : AS} {lt0 fk fp : Int32}
theorem s_X_pairAt {set rI kI : Int32} {r k : Nat} (hX : XO h lt0 fk fp) (hS : StR h 1 S) (ok : sOk S) (hs : ∀ j, bt set j = true → j < sN S) (hr : rI = nI r ∧ r < 2147483648) (hk : kI = nI k ∧ k < 2147483648) (hR : R (some (.int (if nthT (prP S (bt set) r) k < 1024 then nI (twF S (nthT (prP S (bt set) r) k) * 1024 + nthT (prP S (bt set) r) k) else -1))) h) : Ev G (d + 3) 0 0 M_X_pairAt 0 [.ref 0, .int set, .int rI, .int kI, ev_unk, ev_unk, ev_unk, ev_unk] [] h R := by
  obtain ⟨rfl, hk⟩ := hk
  have hS0 := hS
  have h48 := ok.2.2.2.2.1
  obtain ⟨brf, tgf, cof, fv, t1, t2, t3, t4, e1, e2, -⟩ := hS
  refine b_X_pairAt_0 ?_
  have L := up0 (P := fun i => cnt (prP S (bt set) r) (32 * i) ≤ k → Ev G (d + 3) 0 0 M_X_pairAt 6 [.ref 0, .int set, .int rI, .int (nI k), .int (nI (cnt (prP S (bt set) r) (32 * i))), .int (nI i), ev_unk, ev_unk] [] h R) 32 ?_ ?_
  · exact L (Nat.zero_le _)
  · intro i hi ih hle
    have yes : nI i < (32 : Int32) := nI_lt hi (by decide)
    have low : ∀ t, 32 * i ≤ t → t < 32 * i + (i + 1) → prP S (bt set) r t = false := fun t q1 q2 => by
      obtain ⟨j, rfl⟩ : ∃ j, t = 32 * i + j := ⟨t - 32 * i, by omega⟩
      rw [prP_at S _ r (by omega), decide_eq_false (by omega : ¬ i < j)]; rfl
    -- the second loop, for what is told of the others
    have M : ∀ oth : Nat → Bool, (∀ j, i < j → j < 32 → oth j = prP S (bt set) r (32 * i + j)) → Ev G (d + 3) 0 0 M_X_pairAt 59 [.ref 0, .int set, .int rI, .int (nI k), .int (nI (cnt (prP S (bt set) r) (32 * i))), .int (nI i), .int (setI oth), .int (nI (i + 1))] [] h R := by
      intro oth ho
      have L2 := up_to (P := fun j => i < j → cnt (prP S (bt set) r) (32 * i + j) ≤ k → Ev G (d + 3) 0 0 M_X_pairAt 59 [.ref 0, .int set, .int rI, .int (nI k), .int (nI (cnt (prP S (bt set) r) (32 * i + j))), .int (nI i), .int (setI oth), .int (nI j)] [] h R) (N := 32) ?_ ?_
      · have := L2 (i + 1) (by omega) (by omega)
        rw [cnt_skip (by omega) low] at this
        exact this hle
      · intro j hj ih2 hij hle2
        have yj : nI j < (32 : Int32) := nI_lt hj (by decide)
        have st : cnt (prP S (bt set) r) (32 * i + (j + 1)) = cnt (prP S (bt set) r) (32 * i + j) + if prP S (bt set) r (32 * i + j) then 1 else 0 := rfl
        have inn : prP S (bt set) r (32 * i + j) = true → i < sN S ∧ j < sN S := fun q => by
          rw [prP_at S _ r hj] at q
          simp only [Bool.and_eq_true] at q
          exact ⟨hs i q.1.2.1, hs j q.1.2.2⟩
        have tr : ¬ b2i (inI (setI oth) (nI j)) = 0 → prP S (bt set) r (32 * i + j) = true := fun q => by
          rw [inI_n hj, bt_setI, decide_eq_true hj, Bool.true_and, ho j hij hj] at q; exact b2i_n0 q
        refine b_X_pairAt_59 (S1 := S) (i_5 := i) (j_6 := j) (fun _ _ _ => hX) (fun _ _ _ => hS0) (fun _ _ _ => ok) (fun _ q _ => ⟨rfl, (inn (tr q)).1⟩) (fun _ q _ => ⟨rfl, (inn (tr q)).2⟩) (fun _ _ _ => ⟨_, hX⟩) (fun _ q => ?_) (fun _ q q2 => ?_) (fun _ q q2 => ?_) (fun q => absurd yj q)
        · rw [inI_n hj, bt_setI, decide_eq_true hj, Bool.true_and, ho j hij hj] at q
          rw [st, b2i_e0 q] at ih2
          rw [nI_1]; exact ih2 (by omega) hle2
        · have hb := cnt_le (prP S (bt set) r) (32 * i + j)
          have q2 := (nI_eq (by omega) hk).mp q2
          rw [nthT_hit (by omega) (tr q) q2, if_pos (by omega)] at hR
          have e : pkN (pop (sCo S i ^^^ sCo S j)) i j = twF S (32 * i + j) * 1024 + (32 * i + j) := by
            unfold pkN twF
            rw [show (32 * i + j) / 32 = i by omega, show (32 * i + j) % 32 = j by omega]; omega
          rw [e]; exact hR
        · have hb := cnt_le (prP S (bt set) r) (32 * i + j)
          have q2 : ¬ cnt (prP S (bt set) r) (32 * i + j) = k := fun z => q2 (by rw [z])
          rw [st, tr q] at ih2
          rw [nI_1, nI_1]; exact ih2 (by omega) (by show _ + 1 ≤ k; omega)
      · intro hij hle2
        refine b_X_pairAt_59 (S1 := S) (i_5 := 0) (j_6 := 0) (la2 := 0) (fk3 := 0) (fp4 := 0) (fun q => absurd q (by decide)) (fun q => absurd q (by decide)) (fun q => absurd q (by decide)) (fun q => absurd q (by decide)) (fun q => absurd q (by decide)) (fun q => absurd q (by decide)) (fun q => absurd q (by decide)) (fun q => absurd q (by decide)) (fun q => absurd q (by decide)) (fun _ => ?_)
        rw [nI_1]; exact ih hle2
    refine b_X_pairAt_6 (j9 := i) hX t1 t3 (fun _ _ => ixn hi (by decide)) (fun _ _ => hS0) (fun _ _ => ok) (fun _ _ => hr) (fun _ q => ?_) (fun _ q => ?_) (fun q => absurd yes q)
    · rw [inI_n hi] at q
      have q := b2i_e0 q
      rw [nI_1, setI_0]
      exact M _ fun j q1 q2 => by rw [prP_at S _ r q2, q]; simp
    · rw [inI_n hi] at q
      have q := b2i_n0 q
      rw [nI_1]
      refine M _ fun j q1 q2 => ?_
      rw [prP_at S _ r q2, q, (e2 i (hs i q)).1]
      unfold nrP
      rw [b_and, bt_above hi q2, Int64.xor_comm (sCo S j)]
      cases w : bt set j
      · simp
      · rw [decide_eq_true (hs j w)]; simp
  · intro hle
    rw [nthT_none (by exact hle), if_neg (by omega)] at hR
    exact b_X_pairAt_6 (j9 := 0) hX t1 t3 (fun q => absurd q (by decide)) (fun q => absurd q (by decide)) (fun q => absurd q (by decide)) (S10 := S) (fun _ _ => hr) (fun q => absurd q (by decide)) (fun q => absurd q (by decide)) (fun _ => hR)
theorem s_X_middleOf {set : Int32} (hX : XO h lt0 fk fp) (hS : StR h 1 S) (ok : sOk S) (hs : ∀ j, bt set j = true → j < sN S) (hR : R (some (.int (oIx (mid S (bt set))))) h) : Ev G (d + 3) 0 0 M_X_middleOf 0 [.ref 0, .int set, ev_unk, ev_unk, ev_unk, ev_unk] [] h R := by
  have hS0 := hS
  have h48 := ok.2.2.2.2.1
  obtain ⟨brf, tgf, cof, fv, t1, t2, t3, t4, e1, e2, -⟩ := hS
  have bd : ∀ i, midS S (bt set) i ≤ 32 * 64 := fun i => by
    have := sumT_le (f := fun j => if bt set j then pop (sCo S j ^^^ sCo S i) else 0) (c := 64) (n := sN S) fun k _ => by
      show (if bt set k then pop (sCo S k ^^^ sCo S i) else 0) ≤ 64
      have := pop_le (sCo S k ^^^ sCo S i)
      split <;> omega
    exact Nat.le_trans this (Nat.mul_le_mul_right 64 h48)
  refine b_X_middleOf_0 ?_
  have L := up0 (P := fun i => Ev G (d + 3) 0 0 M_X_middleOf 7 [.ref 0, .int set, .int (oIx (omin (bt set) (midS S (bt set)) i)), .int (oVl (omin (bt set) (midS S (bt set)) i)), .int (nI i), ev_unk] [] h R) 32 ?_ ?_
  · exact L
  · intro i hi ih
    have yes : nI i < (32 : Int32) := nI_lt hi (by decide)
    have st := omin_step (bt set) (midS S (bt set)) i
    refine b_X_middleOf_7 (j9 := i) (S10 := S) hX t1 t3 (fun _ _ => ixn hi (by decide)) (fun _ _ => hS0) (fun _ _ => ok) (fun _ q => ?_) (fun _ q q2 => ?_) (fun _ q q2 q3 => ?_) (fun _ q q2 q3 => ?_) (fun q => absurd yes q)
    · rw [inI_n hi] at q
      rw [st, b2i_e0 q] at ih
      rw [nI_1]; exact ih
    · rw [inI_n hi] at q
      have q := b2i_n0 q
      rw [(e2 i (hs i q)).1, nI_1]
      rw [st, q] at ih
      cases ho : omin (bt set) (midS S (bt set)) i with
      | none => rw [ho] at ih; exact ih
      | some bl =>
        obtain ⟨b, l⟩ := bl
        rw [ho] at q2
        have hb := omin_at ho
        exact absurd q2 (fun z => by
          have z : nI b = -1 := z
          have z2 := congrArg Int32.toInt z
          rw [nI_toInt (by omega)] at z2
          have : ((-1 : Int32)).toInt = -1 := rfl
          omega)
    · rw [inI_n hi] at q
      have q := b2i_n0 q
      rw [(e2 i (hs i q)).1] at q3 ⊢
      rw [nI_1]
      rw [st, q] at ih
      cases ho : omin (bt set) (midS S (bt set)) i with
      | none => rw [ho] at ih; exact ih
      | some bl =>
        obtain ⟨b, l⟩ := bl
        rw [ho] at ih q3
        have hb := omin_at ho
        have b1 := bd i
        have b2 := bd b
        have q3 : midS S (bt set) i < l := (nI_ltI (a := midS S (bt set) i) (by omega) (by omega)).mp q3
        simp only [if_true, if_pos q3] at ih
        exact ih
    · rw [inI_n hi] at q
      have q := b2i_n0 q
      rw [(e2 i (hs i q)).1] at q3
      rw [nI_1]
      rw [st, q] at ih
      cases ho : omin (bt set) (midS S (bt set)) i with
      | none => rw [ho] at q2; exact absurd rfl q2
      | some bl =>
        obtain ⟨b, l⟩ := bl
        rw [ho] at ih q3
        have hb := omin_at ho
        have b1 := bd i
        have b2 := bd b
        have q3 : ¬ midS S (bt set) i < l := fun z => q3 (nI_lt (a := midS S (bt set) i) z (by omega))
        simp only [if_true, if_neg q3] at ih
        exact ih
  · exact b_X_middleOf_7 (j9 := 0) (S10 := S) hX t1 t3 (fun q => absurd q (by decide)) (fun q => absurd q (by decide)) (fun q => absurd q (by decide)) (fun q => absurd q (by decide)) (fun q => absurd q (by decide)) (fun q => absurd q (by decide)) (fun q => absurd q (by decide)) (fun _ => hR)
theorem bt_lt32 {x : Int32} {j : Nat} (h : bt x j = true) : j < 32 := by
  rcases Nat.lt_or_ge j 32 with z | z
  · exact z
  · rw [b_big z] at h; cases h
theorem fst_some {x : Int32} (hx : ¬ x = 0) : fst (bt x) 32 < 32 := by
  rcases Nat.lt_or_ge (fst (bt x) 32) 32 with z | z
  · exact z
  · refine absurd (b_ext fun i hi => ?_) hx
    rw [fst_no (bt x) 32 i (by omega), b_0]
theorem clU_in {set : Int32} {c r : Nat} (hc : c < sN S) (h32 : sN S ≤ 32) : ∀ i j, bt (clU S set r ((1 : Int32) <<< (nI c &&& 31), (1 : Int32) <<< (nI c &&& 31)) i).2 j = true → j < sN S
  | 0, j, q => by
    have q : bt ((1 : Int32) <<< (nI c &&& 31)) j = true := q
    rw [setI_one (by omega), bt_setI] at q
    simp only [Bool.and_eq_true, decide_eq_true_eq] at q
    omega
  | i + 1, j, q => by
    have ih := clU_in (set := set) (r := r) hc h32 i j
    have q : bt (clT S set r (clU S set r ((1 : Int32) <<< (nI c &&& 31), (1 : Int32) <<< (nI c &&& 31)) i)).2 j = true := q
    unfold clT at q
    split at q
    · exact ih q
    · have q : bt (_ ||| _) j = true := q
      rw [b_or, b_and, bt_setI] at q
      unfold nrP at q
      simp only [Bool.or_eq_true, Bool.and_eq_true, decide_eq_true_eq] at q
      rcases q with q | q
      · exact ih q.1
      · exact q.2.1.1
theorem s_X_clusterWith {set rI cI : Int32} {r c : Nat} (hX : XO h lt0 fk fp) (hS : StR h 1 S) (ok : sOk S) (hc : cI = nI c ∧ c < sN S) (hr : rI = nI r ∧ r < 2147483648) (hR : R (some (.int (cluI S set c r))) h) : Ev G (d + 3) 0 0 M_X_clusterWith 0 [.ref 0, .int set, .int cI, .int rI, ev_unk, ev_unk, ev_unk, ev_unk, ev_unk] [] h R := by
  obtain ⟨rfl, hc⟩ := hc
  have hS0 := hS
  have h48 := ok.2.2.2.2.1
  obtain ⟨brf, tgf, cof, fv, t1, t2, t3, t4, e1, e2, -⟩ := hS
  refine b_X_clusterWith_0 ?_
  have hin := clU_in (set := set) (r := r) hc h48
  have hz := fun i (q : (clU S set r ((1 : Int32) <<< (nI c &&& 31), (1 : Int32) <<< (nI c &&& 31)) i).2 = 0) (hi : i ≤ 32) => clU_zero q 32 hi
  unfold cluI at hR
  have L := up0 (P := fun i => Ev G (d + 3) 0 0 M_X_clusterWith 12 [.ref 0, .int set, .int (nI c), .int rI, .int (clU S set r ((1 : Int32) <<< (nI c &&& 31), (1 : Int32) <<< (nI c &&& 31)) i).1, .int (clU S set r ((1 : Int32) <<< (nI c &&& 31), (1 : Int32) <<< (nI c &&& 31)) i).2, .int (nI i), ev_unk, ev_unk] [] h R) 32 ?_ ?_
  · exact L
  · intro i hi ih
    have yes : nI i < (32 : Int32) := nI_lt hi (by decide)
    have st : clU S set r ((1 : Int32) <<< (nI c &&& 31), (1 : Int32) <<< (nI c &&& 31)) (i + 1) = clT S set r (clU S set r ((1 : Int32) <<< (nI c &&& 31), (1 : Int32) <<< (nI c &&& 31)) i) := rfl
    have hini := hin i
    have hzi := fun q => hz i q (by omega)
    rw [st] at ih
    revert ih hini hzi
    generalize clU S set r ((1 : Int32) <<< (nI c &&& 31), (1 : Int32) <<< (nI c &&& 31)) i = m
    intro ih hini hzi
    refine b_X_clusterWith_12 (j9 := fst (bt m.2) 32) (S10 := S) (r_11 := r) hX t1 t3 (fun _ q => ?_) (fun _ _ => hS0) (fun _ _ => ok) (fun _ _ => hr) (fun _ q => ?_) (fun _ q => ?_) (fun q => absurd yes q)
    · have := fst_some q
      unfold frI; rw [if_pos this]; exact ixn this (by decide)
    · rw [hzi q] at hR; exact hR
    · have hf := fst_some q
      have hb := hini _ (fst_yes (bt m.2) 32 hf)
      rw [nI_1, (e2 _ hb).1]
      unfold clT at ih
      rw [if_neg q] at ih
      have ef : frI (bt m.2) 32 = nI (fst (bt m.2) 32) := by unfold frI; rw [if_pos hf]
      rw [ef]; exact ih
  · exact b_X_clusterWith_12 (j9 := 0) (S10 := S) (r_11 := r) hX t1 t3 (fun q => absurd q (by decide)) (fun q => absurd q (by decide)) (fun q => absurd q (by decide)) (fun q => absurd q (by decide)) (fun q => absurd q (by decide)) (fun q => absurd q (by decide)) (fun _ => hR)
theorem omin_skip {q : Nat → Bool} {v : Nat → Nat} {m : Nat} : ∀ {n : Nat}, m ≤ n → (∀ t, m ≤ t → t < n → q t = false) → omin q v n = omin q v m
  | 0, h, _ => by have : m = 0 := by omega
                  subst this; rfl
  | n + 1, h, hq => by
    by_cases e : m = n + 1
    · rw [e]
    · rw [omin_step, hq n (by omega) (by omega)]
      exact omin_skip (by omega) fun t a b => hq t a (by omega)
theorem s_X_closestPair {set : Int32} (hX : XO h lt0 fk fp) (hS : StR h 1 S) (ok : sOk S) (hs : ∀ j, bt set j = true → j < sN S) (hR : R (some (.int (cloN (clo S (bt set))))) h) : Ev G (d + 3) 0 0 M_X_closestPair 0 [.ref 0, .int set, ev_unk, ev_unk, ev_unk, ev_unk] [] h R := by
  have hS0 := hS
  have bd : ∀ t, twF S t ≤ 64 := fun t => pop_le _
  refine b_X_closestPair_0 ?_
  have L := up0 (P := fun i => Ev G (d + 3) 0 0 M_X_closestPair 4 [.ref 0, .int set, .int (cloN (omin (twP (bt set)) (twF S) (32 * i))), .int (nI i), ev_unk, ev_unk] [] h R) 32 ?_ ?_
  · exact L
  · intro i hi ih
    have yes : nI i < (32 : Int32) := nI_lt hi (by decide)
    refine b_X_closestPair_4 (fun _ => ?_) (fun q => absurd yes q)
    have tw : ∀ j, j < 32 → twP (bt set) (32 * i + j) = (decide (i < j) && (bt set i && bt set j)) := fun j hj => by
      unfold twP
      rw [show (32 * i + j) / 32 = i by omega, show (32 * i + j) % 32 = j by omega]
    have low : ∀ t, 32 * i ≤ t → t < 32 * i + (i + 1) → twP (bt set) t = false := fun t q1 q2 => by
      obtain ⟨j, rfl⟩ : ∃ j, t = 32 * i + j := ⟨t - 32 * i, by omega⟩
      rw [tw _ (by omega), decide_eq_false (by omega : ¬ i < j)]; rfl
    have L2 := up_to (P := fun j => i < j → Ev G (d + 3) 0 0 M_X_closestPair 15 [.ref 0, .int set, .int (cloN (omin (twP (bt set)) (twF S) (32 * i + j))), .int (nI i), .int (nI j), ev_unk] [] h R) (N := 32) ?_ ?_
    · have := L2 (i + 1) (by omega) (by omega)
      rw [omin_skip (by omega) low] at this
      rw [nI_1]; exact this
    · intro j hj ih2 hij
      have yj : nI j < (32 : Int32) := nI_lt hj (by decide)
      have st := omin_step (twP (bt set)) (twF S) (32 * i + j)
      have e : pkN (pop (sCo S i ^^^ sCo S j)) i j = twF S (32 * i + j) * 1024 + (32 * i + j) := by
        unfold pkN twF
        rw [show (32 * i + j) / 32 = i by omega, show (32 * i + j) % 32 = j by omega]; omega
      have t1 : ¬ b2i (inI set (nI i)) = 0 → bt set i = true := fun q => by rw [inI_n hi] at q; exact b2i_n0 q
      have t2 : ¬ b2i (inI set (nI j)) = 0 → bt set j = true := fun q => by rw [inI_n hj] at q; exact b2i_n0 q
      have b1 := bd (32 * i + j)
      refine b_X_closestPair_15 (S1 := S) (i_5 := i) (j_6 := j) (fun _ _ _ => hX) (fun _ _ _ => hS0) (fun _ _ _ => ok) (fun _ q _ => ⟨rfl, hs i (t1 q)⟩) (fun _ _ q => ⟨rfl, hs j (t2 q)⟩) (fun _ _ _ => ⟨_, hX⟩) (fun _ q => ?_) (fun _ q q2 => ?_) (fun _ q q2 q3 => ?_) (fun _ q q2 q3 => ?_) (fun q => absurd yj q)
      · rw [inI_n hi] at q
        rw [tw j hj, b2i_e0 q] at st
        simp only [Bool.false_and, Bool.and_false, Bool.false_eq_true, if_false] at st
        rw [nI_1, ← st]; exact ih2 (by omega)
      · rw [inI_n hj] at q2
        rw [tw j hj, b2i_e0 q2] at st
        simp only [Bool.and_false, Bool.false_eq_true, if_false] at st
        rw [nI_1, ← st]; exact ih2 (by omega)
      · rw [tw j hj, t1 q, t2 q2, decide_eq_true hij] at st
        rw [nI_1, e]
        cases ho : omin (twP (bt set)) (twF S) (32 * i + j) with
        | none =>
          rw [ho] at st
          have ih2 := ih2 (by omega)
          rw [show 32 * i + (j + 1) = 32 * i + j + 1 from rfl, st] at ih2
          exact ih2
        | some bl =>
          obtain ⟨b, l⟩ := bl
          rw [ho] at q3
          have hb := omin_at ho
          have b2 := bd b
          refine absurd q3 (fun z => ?_)
          have z : nI (l * 1024 + b) = -1 := z
          have z2 := congrArg Int32.toInt z
          rw [nI_toInt (by omega)] at z2
          have : ((-1 : Int32)).toInt = -1 := rfl
          omega
      · rw [tw j hj, t1 q, t2 q2, decide_eq_true hij] at st
        rw [nI_1, e]
        have ih2 := ih2 (by omega)
        rw [show 32 * i + (j + 1) = 32 * i + j + 1 from rfl, st] at ih2
        cases ho : omin (twP (bt set)) (twF S) (32 * i + j) with
        | none => rw [ho] at q3; exact absurd rfl q3
        | some bl =>
          obtain ⟨b, l⟩ := bl
          rw [ho] at ih2
          have hb := omin_at ho
          have b2 := bd b
          have em : (if nI (twF S (32 * i + j) * 1024 + (32 * i + j)) < cloN (some (b, l)) then nI (twF S (32 * i + j) * 1024 + (32 * i + j)) else cloN (some (b, l))) = cloN (if twF S (32 * i + j) < l then some (32 * i + j, twF S (32 * i + j)) else some (b, l)) := by
            by_cases c : twF S (32 * i + j) < l
            · rw [if_pos c]
              exact if_pos (nI_lt (show twF S (32 * i + j) * 1024 + (32 * i + j) < l * 1024 + b by omega) (by omega))
            · rw [if_neg c]
              exact if_neg (nI_nlt (show l * 1024 + b ≤ twF S (32 * i + j) * 1024 + (32 * i + j) by omega) (by omega))
          rw [em]
          simpa using ih2
    · intro hij
      refine b_X_closestPair_15 (S1 := S) (i_5 := 0) (j_6 := 0) (la2 := 0) (fk3 := 0) (fp4 := 0) (fun q => absurd q (by decide)) (fun q => absurd q (by decide)) (fun q => absurd q (by decide)) (fun q => absurd q (by decide)) (fun q => absurd q (by decide)) (fun q => absurd q (by decide)) (fun q => absurd q (by decide)) (fun q => absurd q (by decide)) (fun q => absurd q (by decide)) (fun q => absurd q (by decide)) (fun _ => ?_)
      rw [nI_1]; exact ih
  · exact b_X_closestPair_4 (fun q => absurd q (by decide)) (fun _ => hR)
def BuX (h : ev_H) : Prop := ∃ P W c kc r lo, BuP h P W c kc r lo
theorem cstN_congr {p : Nat → Bool} {co co' : Nat → Int64} (hp : ∀ j, p j = true → co j = co' j) (x : Int64) (W : Nat → Nat) : cstN p co x W = cstN p co' x W := by
  funext i s
  refine cnt_congr fun k _ => ?_
  cases q : p k
  · rfl
  · rw [hp k q]
theorem s_X_plan {set rI : Int32} {x : Int64} {r P : Nat} {W : Nat → Nat} {kc r0 lo : Nat} {c0 : Nat → Nat → Nat} (B : BuP h P W c0 kc r0 lo) (hS : StR h 1 S) (hs : ∀ j, bt set j = true → j < sN S) (hW : sumT W P ≤ 48) (hr : rI = nI r ∧ r ≤ 48) (hR : ∀ h', Kp h h' 84 98 → BuP h' P W (cstN (bt set) (sCo S) x W) P r 1 → BuC h' P (bShr (cstN (bt set) (sCo S) x W) W P r) P → R (some (.int (nI (bLp (cstN (bt set) (sCo S) x W) W P 0 (r + 1))))) h') : Ev G (d + 3) 0 0 M_Bu_plan 0 [.ref 81, .ref 3, .int set, .long x, ev_unk, .int rI] [] h R := by
  obtain ⟨brf, tgf, cof, fv, t1, t2, t3, t4, e1, e2, -⟩ := hS
  exact s_Bu_plan B (cstN_congr (fun j q => ((e2 j (hs j q)).1).symm) x W) hW t3 (by omega) hr hR
def ptN (S : AS) (p : Nat → Bool) (l r n : Nat) : Nat := sumT (fun i => if p i then bLp (cstN p (sCo S) (sCo S i) (twoW l (sB S - l))) (twoW l (sB S - l)) 2 0 (r + 1) else 0) n
theorem s_X_costParted {set rI lI : Int32} {r l : Nat} (hX : XO h lt0 fk fp) (hS : StR h 1 S) (ok : sOk S) (hB : BuX h) (hs : ∀ j, bt set j = true → j < sN S) (hl : lI = nI l ∧ l ≤ 24 ∧ l ≤ sB S ∧ sB S - l ≤ 24) (hr : rI = nI r ∧ r ≤ 48) (hR : ∀ h', Kp h h' 81 98 → BuX h' → R (some (.int (nI (ptN S (bt set) l r 32)))) h') : Ev G (d + 4) 0 0 M_X_costParted 0 [.ref 0, .int set, .int lI, .int rI, ev_unk, ev_unk] [] h R := by
  obtain ⟨rfl, l1, l2, l3⟩ := hl
  have hS0 := hS
  have h48 := ok.2.1
  obtain ⟨brf, tgf, cof, fv, t1, t2, t3, t4, e1, e2, -⟩ := hS
  obtain ⟨P0, W0, c0, kc0, r0, lo0, B0⟩ := hB
  refine b_X_costParted_0 hX t1 B0.obj ?_
  rw [nI_sub l2]
  refine s_Bu_partInTwo B0 ⟨rfl, l1⟩ ⟨rfl, l3⟩ fun h1 K1 B1 => b_X_costParted_20 ?_
  have L := up0 (P := fun i => ∀ h', Kp h h' 81 98 → (∃ c kc r lo, BuP h' 2 (twoW l (sB S - l)) c kc r lo) → Ev G (d + 4) 0 0 M_X_costParted 23 [.ref 0, .int set, .int (nI l), .int rI, .int (nI (ptN S (bt set) l r i)), .int (nI i)] [] h' R) 32 ?_ ?_
  · exact L h1 (K1.wide (by omega) (by omega)) ⟨_, _, _, _, B1 (fun _ _ => 0) 0⟩
  · intro i hi ih h' K B
    have yes : nI i < (32 : Int32) := nI_lt hi (by decide)
    obtain ⟨c, kc, rr, lo, B⟩ := B
    have st : ptN S (bt set) l r (i + 1) = ptN S (bt set) l r i + if bt set i then bLp (cstN (bt set) (sCo S) (sCo S i) (twoW l (sB S - l))) (twoW l (sB S - l)) 2 0 (r + 1) else 0 := rfl
    refine b_X_costParted_23 (j9 := i) (K.hat hX (by omega)) (K.hat t1 (by omega)) (K.hat t3 (by omega)) (fun _ _ => ixn hi (by decide)) (fun _ _ => B.obj) (fun _ q => ?_) (fun _ q => ?_) (fun q => absurd yes q)
    · rw [inI_n hi] at q
      rw [st, b2i_e0 q] at ih
      rw [nI_1]; exact ih h' K ⟨c, kc, rr, lo, B⟩
    · rw [inI_n hi] at q
      have q := b2i_n0 q
      rw [(e2 i (hs i q)).1]
      have hW : sumT (twoW l (sB S - l)) 2 ≤ 48 := by show 0 + l + (sB S - l) ≤ 48; omega
      refine s_X_plan B (hS0.kp K (by omega) (by omega)) hs hW hr fun h2 K2 B2 _ => b_X_costParted_67 ?_
      rw [st, if_pos q] at ih
      rw [nI_add, nI_1]
      exact ih h2 (K.trans (K2.wide (by omega) (by omega))) ⟨_, _, _, _, B2⟩
  · intro h' K B
    obtain ⟨c, kc, rr, lo, B⟩ := B
    exact b_X_costParted_23 (j9 := 0) (K.hat hX (by omega)) (K.hat t1 (by omega)) (K.hat t3 (by omega)) (fun q => absurd q (by decide)) (fun q => absurd q (by decide)) (fun q => absurd q (by decide)) (fun q => absurd q (by decide)) (fun _ => hR h' K ⟨_, _, _, _, _, _, B⟩)
end S23
