/-! the model: telling, vote -/
theorem b_Mo_telling_0 {G : ev_G} {d k n : Nat} {h : ev_H} {R : Option Value → ev_H → Prop} 
  (r1 : ∃ fs, hat h 102 (oC 9 fs))
  (k1 : Ev G (d + 2) 0 0 M_Mo_counting 0 [.ref 102, ev_unk, ev_unk, ev_unk] [] h (fun r h1 => Ev G (d + 3) k n M_Mo_telling 4 [.ref 102, ev_unk, ev_unk, ev_unk, ev_unk, ev_unk, ev_unk] (r.toList ++ []) h1 R))
  : Ev G (d + 3) k n M_Mo_telling 0 [.ref 102, ev_unk, ev_unk, ev_unk, ev_unk, ev_unk, ev_unk] [] h R :=
  Ev.go (pc' := 1) (ls' := [.ref 102, ev_unk, ev_unk, ev_unk, ev_unk, ev_unk, ev_unk]) (st' := [.ref 102]) [.aload_n 0] (by decide +kernel) rfl <|
  Ev.cV0 (M' := M_Mo_counting) (as := []) (rest := []) l_Mo_248 M_Mo_counting_ok M_Mo_counting_in M_Mo_counting_se (by decide +kernel) r1 rfl rfl rfl (Nat.le_of_ble_eq_true rfl) (Nat.le_of_ble_eq_true rfl) k1
theorem b_Mo_telling_4 {G : ev_G} {d k n : Nat} {h : ev_H} {R : Option Value → ev_H → Prop} {y0 : Int64}
  (k1 : Ev G (d + 3) k n M_Mo_telling 14 [.ref 102, .long y0, ev_unk, .int (0 : Int32), .int (33 : Int32), .int (0 : Int32), ev_unk] [] h R)
  : Ev G (d + 3) k n M_Mo_telling 4 [.ref 102, ev_unk, ev_unk, ev_unk, ev_unk, ev_unk, ev_unk] [.long y0] h R :=
  Ev.go (pc' := 14) (ls' := [.ref 102, .long y0, ev_unk, .int (0 : Int32), .int (33 : Int32), .int (0 : Int32), ev_unk]) (st' := []) [.lstore_n 1, .iconst 0, .istore_n 3, .bipush (33), .istore 4, .iconst 0, .istore 5] (by decide +kernel) rfl <|
  k1
theorem b_Mo_telling_14 {G : ev_G} {d k n : Nat} {h : ev_H} {R : Option Value → ev_H → Prop} {x1 : Int64} {x3 : Int32} {x4 : Int32} {x5 : Int32} {S1 : AS} {S2 : AS} {b_3 : Nat} {v_4 : MG} {z_5 : MP}
  (pr1 : MS h S1)
  (r2 : ∃ fs, hat h 102 (oC 9 fs))
  (pr3 : x5 < (nI (sB S1)) → MS h S2)
  (pr4 : x5 < (nI (sB S1)) → sOk S2)
  (pr5 : x5 < (nI (sB S1)) → x5 = nI b_3 ∧ b_3 < 64)
  (r6 : x5 < (nI (sB S1)) → ∃ fs, hat h 102 (oC 9 fs))
  (pr7 : ¬ x5 < (nI (sB S1)) → hat h 102 (moC v_4 z_5))
  (r8 : ¬ x5 < (nI (sB S1)) → ∃ fs, hat h 102 (oC 9 fs))
  (k1 : x5 < (nI (sB S1)) → (((2 : Int32) * (nI (cnt (fun j => lt x1 j && lt (sCo S2 j) b_3) (sN S2)))) - (nI (pop x1))) < (0 : Int32) → (-(((2 : Int32) * (nI (cnt (fun j => lt x1 j && lt (sCo S2 j) b_3) (sN S2)))) - (nI (pop x1)))) < x4 → Ev G (d + 3) k n M_Mo_telling 14 [.ref 102, .long x1, ev_unk, .int x5, .int (-(((2 : Int32) * (nI (cnt (fun j => lt x1 j && lt (sCo S2 j) b_3) (sN S2)))) - (nI (pop x1)))), .int (x5 + (1 : Int32)), ev_unk] [] h R)
  (k2 : x5 < (nI (sB S1)) → (((2 : Int32) * (nI (cnt (fun j => lt x1 j && lt (sCo S2 j) b_3) (sN S2)))) - (nI (pop x1))) < (0 : Int32) → ¬ (-(((2 : Int32) * (nI (cnt (fun j => lt x1 j && lt (sCo S2 j) b_3) (sN S2)))) - (nI (pop x1)))) < x4 → Ev G (d + 3) k n M_Mo_telling 14 [.ref 102, .long x1, ev_unk, .int x3, .int x4, .int (x5 + (1 : Int32)), ev_unk] [] h R)
  (k3 : x5 < (nI (sB S1)) → ¬ (((2 : Int32) * (nI (cnt (fun j => lt x1 j && lt (sCo S2 j) b_3) (sN S2)))) - (nI (pop x1))) < (0 : Int32) → (((2 : Int32) * (nI (cnt (fun j => lt x1 j && lt (sCo S2 j) b_3) (sN S2)))) - (nI (pop x1))) < x4 → Ev G (d + 3) k n M_Mo_telling 14 [.ref 102, .long x1, ev_unk, .int x5, .int (((2 : Int32) * (nI (cnt (fun j => lt x1 j && lt (sCo S2 j) b_3) (sN S2)))) - (nI (pop x1))), .int (x5 + (1 : Int32)), ev_unk] [] h R)
  (k4 : x5 < (nI (sB S1)) → ¬ (((2 : Int32) * (nI (cnt (fun j => lt x1 j && lt (sCo S2 j) b_3) (sN S2)))) - (nI (pop x1))) < (0 : Int32) → ¬ (((2 : Int32) * (nI (cnt (fun j => lt x1 j && lt (sCo S2 j) b_3) (sN S2)))) - (nI (pop x1))) < x4 → Ev G (d + 3) k n M_Mo_telling 14 [.ref 102, .long x1, ev_unk, .int x3, .int x4, .int (x5 + (1 : Int32)), ev_unk] [] h R)
  (k5 : ¬ x5 < (nI (sB S1)) → R (some (.int x3)) (hset h 102 (moC (stV v_4 0) z_5)))
  : Ev G (d + 3) k n M_Mo_telling 14 [.ref 102, .long x1, ev_unk, .int x3, .int x4, .int x5, ev_unk] [] h R :=
  Ev.go (pc' := 17) (ls' := [.ref 102, .long x1, ev_unk, .int x3, .int x4, .int x5, ev_unk]) (st' := [.ref 102, .int x5]) [.iload 5, .aload_n 0] (by decide +kernel) rfl <|
  Ev.cV0 (M' := M_Mo_bits) (as := []) (rest := [.int x5]) l_Mo_78 M_Mo_bits_ok M_Mo_bits_in M_Mo_bits_se (by decide +kernel) r2 rfl rfl rfl (Nat.le_of_ble_eq_true rfl) (Nat.le_of_ble_eq_true rfl) (s_Mo_bits pr1 <| show Ev G (d + 3) _ _ M_Mo_telling 20 [.ref 102, .long x1, ev_unk, .int x3, .int x4, .int x5, ev_unk] [.int (nI (sB S1)), .int x5] h R from
    Ev.br (i := .if_icmp .ge (57)) (P := x5 < (nI (sB S1))) (t := 23) (f := 77) (r := []) (by decide +kernel) rfl (fun c1 =>
      Ev.go (pc' := 28) (ls' := [.ref 102, .long x1, ev_unk, .int x3, .int x4, .int x5, ev_unk]) (st' := [.long x1, .int x5, .ref 102, .int (2 : Int32)]) [.iconst 2, .aload_n 0, .iload 5, .lload_n 1] (by decide +kernel) rfl <|
      Ev.cV0 (M' := M_Mo_onesAt) (as := [.int x5, .long x1]) (rest := [.int (2 : Int32)]) l_Mo_349 M_Mo_onesAt_ok M_Mo_onesAt_in M_Mo_onesAt_se (by decide +kernel) (r6 c1) rfl rfl rfl (Nat.le_of_ble_eq_true rfl) (Nat.le_of_ble_eq_true rfl) (s_Mo_onesAt (pr3 c1) (pr4 c1) (pr5 c1) <| show Ev G (d + 3) _ _ M_Mo_telling 31 [.ref 102, .long x1, ev_unk, .int x3, .int x4, .int x5, ev_unk] [.int (nI (cnt (fun j => lt x1 j && lt (sCo S2 j) b_3) (sN S2))), .int (2 : Int32)] h R from
        Ev.go (pc' := 33) (ls' := [.ref 102, .long x1, ev_unk, .int x3, .int x4, .int x5, ev_unk]) (st' := [.long x1, .int ((2 : Int32) * (nI (cnt (fun j => lt x1 j && lt (sCo S2 j) b_3) (sN S2))))]) [.imul, .lload_n 1] (by decide +kernel) rfl <|
        Ev.cS0 (M' := M_Mo_ones_J) (as := [.long x1]) (rest := [.int ((2 : Int32) * (nI (cnt (fun j => lt x1 j && lt (sCo S2 j) b_3) (sN S2))))]) l_Mo_88 M_Mo_ones_J_ok M_Mo_ones_J_st (by decide +kernel) rfl rfl (Nat.le_of_ble_eq_true rfl) (Nat.le_of_ble_eq_true rfl) (s_Mo_ones_J <| show Ev G (d + 3) _ _ M_Mo_telling 36 [.ref 102, .long x1, ev_unk, .int x3, .int x4, .int x5, ev_unk] [.int (nI (pop x1)), .int ((2 : Int32) * (nI (cnt (fun j => lt x1 j && lt (sCo S2 j) b_3) (sN S2))))] h R from
          Ev.go (pc' := 41) (ls' := [.ref 102, .long x1, ev_unk, .int x3, .int x4, .int x5, .int (((2 : Int32) * (nI (cnt (fun j => lt x1 j && lt (sCo S2 j) b_3) (sN S2)))) - (nI (pop x1)))]) (st' := [.int (((2 : Int32) * (nI (cnt (fun j => lt x1 j && lt (sCo S2 j) b_3) (sN S2)))) - (nI (pop x1)))]) [.isub, .istore 6, .iload 6] (by decide +kernel) rfl <|
          Ev.br (i := .ifCond .ge (9)) (P := (((2 : Int32) * (nI (cnt (fun j => lt x1 j && lt (sCo S2 j) b_3) (sN S2)))) - (nI (pop x1))) < (0 : Int32)) (t := 44) (f := 50) (r := []) (by decide +kernel) rfl (fun c2 =>
            Ev.go (pc' := 58) (ls' := [.ref 102, .long x1, ev_unk, .int x3, .int x4, .int x5, .int (-(((2 : Int32) * (nI (cnt (fun j => lt x1 j && lt (sCo S2 j) b_3) (sN S2)))) - (nI (pop x1))))]) (st' := [.int x4, .int (-(((2 : Int32) * (nI (cnt (fun j => lt x1 j && lt (sCo S2 j) b_3) (sN S2)))) - (nI (pop x1))))]) [.iload 6, .ineg, .goto (5), .istore 6, .iload 6, .iload 4] (by decide +kernel) rfl <|
            Ev.br (i := .if_icmp .lt (6)) (P := (-(((2 : Int32) * (nI (cnt (fun j => lt x1 j && lt (sCo S2 j) b_3) (sN S2)))) - (nI (pop x1)))) < x4) (t := 64) (f := 61) (r := []) (by decide +kernel) rfl (fun c3 =>
              Ev.go (pc' := 14) (ls' := [.ref 102, .long x1, ev_unk, .int x5, .int (-(((2 : Int32) * (nI (cnt (fun j => lt x1 j && lt (sCo S2 j) b_3) (sN S2)))) - (nI (pop x1)))), .int (x5 + (1 : Int32)), .int (-(((2 : Int32) * (nI (cnt (fun j => lt x1 j && lt (sCo S2 j) b_3) (sN S2)))) - (nI (pop x1))))]) (st' := []) [.iload 5, .istore_n 3, .iload 6, .istore 4, .iinc 5 (1), .goto (-60)] (by decide +kernel) rfl <|
              Ev.forget (ls' := [.ref 102, .long x1, ev_unk, .int x5, .int (-(((2 : Int32) * (nI (cnt (fun j => lt x1 j && lt (sCo S2 j) b_3) (sN S2)))) - (nI (pop x1)))), .int (x5 + (1 : Int32)), ev_unk]) ⟨Or.inr rfl, Or.inr rfl, Or.inr rfl, Or.inr rfl, Or.inr rfl, Or.inr rfl, Or.inl rfl, trivial⟩ <|
              (k1 c1 c2 c3)
            ) (fun c3 =>
              Ev.go (pc' := 14) (ls' := [.ref 102, .long x1, ev_unk, .int x3, .int x4, .int (x5 + (1 : Int32)), .int (-(((2 : Int32) * (nI (cnt (fun j => lt x1 j && lt (sCo S2 j) b_3) (sN S2)))) - (nI (pop x1))))]) (st' := []) [.goto (10), .iinc 5 (1), .goto (-60)] (by decide +kernel) rfl <|
              Ev.forget (ls' := [.ref 102, .long x1, ev_unk, .int x3, .int x4, .int (x5 + (1 : Int32)), ev_unk]) ⟨Or.inr rfl, Or.inr rfl, Or.inr rfl, Or.inr rfl, Or.inr rfl, Or.inr rfl, Or.inl rfl, trivial⟩ <|
              (k2 c1 c2 c3)
            )
          ) (fun c2 =>
            Ev.go (pc' := 58) (ls' := [.ref 102, .long x1, ev_unk, .int x3, .int x4, .int x5, .int (((2 : Int32) * (nI (cnt (fun j => lt x1 j && lt (sCo S2 j) b_3) (sN S2)))) - (nI (pop x1)))]) (st' := [.int x4, .int (((2 : Int32) * (nI (cnt (fun j => lt x1 j && lt (sCo S2 j) b_3) (sN S2)))) - (nI (pop x1)))]) [.iload 6, .istore 6, .iload 6, .iload 4] (by decide +kernel) rfl <|
            Ev.br (i := .if_icmp .lt (6)) (P := (((2 : Int32) * (nI (cnt (fun j => lt x1 j && lt (sCo S2 j) b_3) (sN S2)))) - (nI (pop x1))) < x4) (t := 64) (f := 61) (r := []) (by decide +kernel) rfl (fun c3 =>
              Ev.go (pc' := 14) (ls' := [.ref 102, .long x1, ev_unk, .int x5, .int (((2 : Int32) * (nI (cnt (fun j => lt x1 j && lt (sCo S2 j) b_3) (sN S2)))) - (nI (pop x1))), .int (x5 + (1 : Int32)), .int (((2 : Int32) * (nI (cnt (fun j => lt x1 j && lt (sCo S2 j) b_3) (sN S2)))) - (nI (pop x1)))]) (st' := []) [.iload 5, .istore_n 3, .iload 6, .istore 4, .iinc 5 (1), .goto (-60)] (by decide +kernel) rfl <|
              Ev.forget (ls' := [.ref 102, .long x1, ev_unk, .int x5, .int (((2 : Int32) * (nI (cnt (fun j => lt x1 j && lt (sCo S2 j) b_3) (sN S2)))) - (nI (pop x1))), .int (x5 + (1 : Int32)), ev_unk]) ⟨Or.inr rfl, Or.inr rfl, Or.inr rfl, Or.inr rfl, Or.inr rfl, Or.inr rfl, Or.inl rfl, trivial⟩ <|
              (k3 c1 c2 c3)
            ) (fun c3 =>
              Ev.go (pc' := 14) (ls' := [.ref 102, .long x1, ev_unk, .int x3, .int x4, .int (x5 + (1 : Int32)), .int (((2 : Int32) * (nI (cnt (fun j => lt x1 j && lt (sCo S2 j) b_3) (sN S2)))) - (nI (pop x1)))]) (st' := []) [.goto (10), .iinc 5 (1), .goto (-60)] (by decide +kernel) rfl <|
              Ev.forget (ls' := [.ref 102, .long x1, ev_unk, .int x3, .int x4, .int (x5 + (1 : Int32)), ev_unk]) ⟨Or.inr rfl, Or.inr rfl, Or.inr rfl, Or.inr rfl, Or.inr rfl, Or.inr rfl, Or.inl rfl, trivial⟩ <|
              (k4 c1 c2 c3)
            )
          )
        )
      )
    ) (fun c1 =>
      Ev.go (pc' := 79) (ls' := [.ref 102, .long x1, ev_unk, .int x3, .int x4, .int x5, ev_unk]) (st' := [.int x3, .ref 102]) [.aload_n 0, .iload_n 3] (by decide +kernel) rfl <|
      Ev.cV0 (M' := M_Mo_gives_I) (as := [.int x3]) (rest := []) l_Mo_245 M_Mo_gives_I_ok M_Mo_gives_I_in M_Mo_gives_I_se (by decide +kernel) (r8 c1) rfl rfl rfl (Nat.le_of_ble_eq_true rfl) (Nat.le_of_ble_eq_true rfl) (s_Mo_gives_I (pr7 c1) <| show Ev G (d + 3) _ _ M_Mo_telling 82 [.ref 102, .long x1, ev_unk, .int x3, .int x4, .int x5, ev_unk] [.int x3] (hset h 102 (moC (stV v_4 0) z_5)) R from
        Ev.ret (r := (some (.int x3))) (Or.inl ⟨_, rfl, by decide +kernel, _, rfl, rfl⟩) (k5 c1)
      )
    )
  )
theorem b_Mo_vote_0 {G : ev_G} {d k n : Nat} {h : ev_H} {R : Option Value → ev_H → Prop} {x1 : Int32} {S1 : AS} {v_2 : MG} {z_3 : MP}
  (pr1 : MS h S1)
  (r2 : ∃ fs, hat h 102 (oC 9 fs))
  (pr3 : ¬ ((x1.toInt64 &&& (4294967295 : Int64)) >>> ((nI (sN S1)).toInt64 &&& 63)) = (0 : Int64) → hat h 102 (moC v_2 z_3))
  (r4 : ¬ ((x1.toInt64 &&& (4294967295 : Int64)) >>> ((nI (sN S1)).toInt64 &&& 63)) = (0 : Int64) → ∃ fs, hat h 102 (oC 9 fs))
  (k1 : ((x1.toInt64 &&& (4294967295 : Int64)) >>> ((nI (sN S1)).toInt64 &&& 63)) = (0 : Int64) → Ev G (d + 2) k n M_Mo_vote 31 [.ref 102, .int x1, .long (x1.toInt64 &&& (4294967295 : Int64)), ev_unk, .long (0 : Int64), ev_unk, .int (0 : Int32), ev_unk, ev_unk] [] h R)
  (k2 : ¬ ((x1.toInt64 &&& (4294967295 : Int64)) >>> ((nI (sN S1)).toInt64 &&& 63)) = (0 : Int64) → R (some (.long (-1 : Int32).toInt64)) (hset h 102 (moC (stV v_2 (1 : Int32)) z_3)))
  : Ev G (d + 2) k n M_Mo_vote 0 [.ref 102, .int x1, ev_unk, ev_unk, ev_unk, ev_unk, ev_unk, ev_unk, ev_unk] [] h R :=
  Ev.go (pc' := 2) (ls' := [.ref 102, .int x1, ev_unk, ev_unk, ev_unk, ev_unk, ev_unk, ev_unk, ev_unk]) (st' := [.long x1.toInt64]) [.iload_n 1, .i2l] (by decide +kernel) rfl <|
  Ev.ldc2 k_Mo_347 (by decide +kernel) <|
  Ev.go (pc' := 9) (ls' := [.ref 102, .int x1, .long (x1.toInt64 &&& (4294967295 : Int64)), ev_unk, ev_unk, ev_unk, ev_unk, ev_unk, ev_unk]) (st' := [.ref 102, .long (x1.toInt64 &&& (4294967295 : Int64))]) [.land, .lstore_n 2, .lload_n 2, .aload_n 0] (by decide +kernel) rfl <|
  Ev.cV0 (M' := M_Mo_many_0) (as := []) (rest := [.long (x1.toInt64 &&& (4294967295 : Int64))]) l_Mo_71 M_Mo_many_0_ok M_Mo_many_0_in M_Mo_many_0_se (by decide +kernel) r2 rfl rfl rfl (Nat.le_of_ble_eq_true rfl) (Nat.le_of_ble_eq_true rfl) (s_Mo_many_0 pr1 <| show Ev G (d + 2) _ _ M_Mo_vote 12 [.ref 102, .int x1, .long (x1.toInt64 &&& (4294967295 : Int64)), ev_unk, ev_unk, ev_unk, ev_unk, ev_unk, ev_unk] [.int (nI (sN S1)), .long (x1.toInt64 &&& (4294967295 : Int64))] h R from
    Ev.go (pc' := 14) (ls' := [.ref 102, .int x1, .long (x1.toInt64 &&& (4294967295 : Int64)), ev_unk, ev_unk, ev_unk, ev_unk, ev_unk, ev_unk]) (st' := [.long (0 : Int64), .long ((x1.toInt64 &&& (4294967295 : Int64)) >>> ((nI (sN S1)).toInt64 &&& 63))]) [.lshr, .lconst 0] (by decide +kernel) rfl <|
    Ev.brl (c := .eq) (o := 10) (P := ((x1.toInt64 &&& (4294967295 : Int64)) >>> ((nI (sN S1)).toInt64 &&& 63)) = (0 : Int64)) (t := 25) (f := 18) (t1 := 25) (by decide +kernel) (by decide +kernel) rfl rfl (fun c1 =>
      Ev.go (pc' := 31) (ls' := [.ref 102, .int x1, .long (x1.toInt64 &&& (4294967295 : Int64)), ev_unk, .long (0 : Int64), ev_unk, .int (0 : Int32), ev_unk, ev_unk]) (st' := []) [.lconst 0, .lstore 4, .iconst 0, .istore 6] (by decide +kernel) rfl <|
      (k1 c1)
    ) (fun c1 =>
      Ev.go (pc' := 20) (ls' := [.ref 102, .int x1, .long (x1.toInt64 &&& (4294967295 : Int64)), ev_unk, ev_unk, ev_unk, ev_unk, ev_unk, ev_unk]) (st' := [.int (1 : Int32), .ref 102]) [.aload_n 0, .iconst 1] (by decide +kernel) rfl <|
      Ev.cV0 (M' := M_Mo_refuse) (as := [.int (1 : Int32)]) (rest := []) l_Mo_226 M_Mo_refuse_ok M_Mo_refuse_in M_Mo_refuse_se (by decide +kernel) (r4 c1) rfl rfl rfl (Nat.le_of_ble_eq_true rfl) (Nat.le_of_ble_eq_true rfl) (s_Mo_refuse (pr3 c1) <| show Ev G (d + 2) _ _ M_Mo_vote 23 [.ref 102, .int x1, .long (x1.toInt64 &&& (4294967295 : Int64)), ev_unk, ev_unk, ev_unk, ev_unk, ev_unk, ev_unk] [.int (-1 : Int32)] (hset h 102 (moC (stV v_2 (1 : Int32)) z_3)) R from
        Ev.go (pc' := 24) (ls' := [.ref 102, .int x1, .long (x1.toInt64 &&& (4294967295 : Int64)), ev_unk, ev_unk, ev_unk, ev_unk, ev_unk, ev_unk]) (st' := [.long (-1 : Int32).toInt64]) [.i2l] (by decide +kernel) rfl <|
        Ev.ret (r := (some (.long (-1 : Int32).toInt64))) (Or.inr (Or.inl ⟨_, rfl, by decide +kernel, rfl⟩)) (k2 c1)
      )
    )
  )
theorem b_Mo_vote_31 {G : ev_G} {d k n : Nat} {h : ev_H} {R : Option Value → ev_H → Prop} {x1 : Int32} {x2 : Int64} {x4 : Int64} {x6 : Int32} {S1 : AS} {v_2 : MG} {z_3 : MP}
  (pr1 : MS h S1)
  (r2 : ∃ fs, hat h 102 (oC 9 fs))
  (pr3 : ¬ x6 < (nI (sB S1)) → hat h 102 (moC v_2 z_3))
  (r4 : ¬ x6 < (nI (sB S1)) → ∃ fs, hat h 102 (oC 9 fs))
  (k1 : x6 < (nI (sB S1)) → Ev G (d + 2) k n M_Mo_vote 46 [.ref 102, .int x1, .long x2, ev_unk, .long x4, ev_unk, .int x6, .int (0 : Int32), .int (0 : Int32)] [] h R)
  (k2 : ¬ x6 < (nI (sB S1)) → R (some (.long x4)) (hset h 102 (moC (stV v_2 0) z_3)))
  : Ev G (d + 2) k n M_Mo_vote 31 [.ref 102, .int x1, .long x2, ev_unk, .long x4, ev_unk, .int x6, ev_unk, ev_unk] [] h R :=
  Ev.go (pc' := 34) (ls' := [.ref 102, .int x1, .long x2, ev_unk, .long x4, ev_unk, .int x6, ev_unk, ev_unk]) (st' := [.ref 102, .int x6]) [.iload 6, .aload_n 0] (by decide +kernel) rfl <|
  Ev.cV0 (M' := M_Mo_bits) (as := []) (rest := [.int x6]) l_Mo_78 M_Mo_bits_ok M_Mo_bits_in M_Mo_bits_se (by decide +kernel) r2 rfl rfl rfl (Nat.le_of_ble_eq_true rfl) (Nat.le_of_ble_eq_true rfl) (s_Mo_bits pr1 <| show Ev G (d + 2) _ _ M_Mo_vote 37 [.ref 102, .int x1, .long x2, ev_unk, .long x4, ev_unk, .int x6, ev_unk, ev_unk] [.int (nI (sB S1)), .int x6] h R from
    Ev.br (i := .if_icmp .ge (85)) (P := x6 < (nI (sB S1))) (t := 40) (f := 122) (r := []) (by decide +kernel) rfl (fun c1 =>
      Ev.go (pc' := 46) (ls' := [.ref 102, .int x1, .long x2, ev_unk, .long x4, ev_unk, .int x6, .int (0 : Int32), .int (0 : Int32)]) (st' := []) [.iconst 0, .istore 7, .iconst 0, .istore 8] (by decide +kernel) rfl <|
      (k1 c1)
    ) (fun c1 =>
      Ev.go (pc' := 125) (ls' := [.ref 102, .int x1, .long x2, ev_unk, .long x4, ev_unk, .int x6, ev_unk, ev_unk]) (st' := [.long x4, .ref 102]) [.aload_n 0, .lload 4] (by decide +kernel) rfl <|
      Ev.cV0 (M' := M_Mo_gives_J) (as := [.long x4]) (rest := []) l_Mo_261 M_Mo_gives_J_ok M_Mo_gives_J_in M_Mo_gives_J_se (by decide +kernel) (r4 c1) rfl rfl rfl (Nat.le_of_ble_eq_true rfl) (Nat.le_of_ble_eq_true rfl) (s_Mo_gives_J (pr3 c1) <| show Ev G (d + 2) _ _ M_Mo_vote 128 [.ref 102, .int x1, .long x2, ev_unk, .long x4, ev_unk, .int x6, ev_unk, ev_unk] [.long x4] (hset h 102 (moC (stV v_2 0) z_3)) R from
        Ev.ret (r := (some (.long x4))) (Or.inr (Or.inl ⟨_, rfl, by decide +kernel, rfl⟩)) (k2 c1)
      )
    )
  )
theorem b_Mo_vote_46 {G : ev_G} {d k n : Nat} {h : ev_H} {R : Option Value → ev_H → Prop} {x1 : Int32} {x2 : Int64} {x4 : Int64} {x6 : Int32} {x7 : Int32} {x8 : Int32} {S1 : AS} {S2 : AS} {c_3 : Nat}
  (pr1 : MS h S1)
  (r2 : ∃ fs, hat h 102 (oC 9 fs))
  (pr3 : x8 < (nI (sN S1)) → ¬ (b2i (tbL x2 x8)) = (0 : Int32) → MS h S2)
  (pr4 : x8 < (nI (sN S1)) → ¬ (b2i (tbL x2 x8)) = (0 : Int32) → sOk S2)
  (pr5 : x8 < (nI (sN S1)) → ¬ (b2i (tbL x2 x8)) = (0 : Int32) → x8 = nI c_3 ∧ c_3 < sN S2)
  (r6 : x8 < (nI (sN S1)) → ¬ (b2i (tbL x2 x8)) = (0 : Int32) → ∃ fs, hat h 102 (oC 9 fs))
  (k1 : x8 < (nI (sN S1)) → (b2i (tbL x2 x8)) = (0 : Int32) → Ev G (d + 2) k n M_Mo_vote 46 [.ref 102, .int x1, .long x2, ev_unk, .long x4, ev_unk, .int x6, .int (x7 + (0 : Int32)), .int (x8 + (1 : Int32))] [] h R)
  (k2 : x8 < (nI (sN S1)) → ¬ (b2i (tbL x2 x8)) = (0 : Int32) → (b2i (tbL (sCo S2 c_3) x6)) = (0 : Int32) → Ev G (d + 2) k n M_Mo_vote 46 [.ref 102, .int x1, .long x2, ev_unk, .long x4, ev_unk, .int x6, .int (x7 + (-1 : Int32)), .int (x8 + (1 : Int32))] [] h R)
  (k3 : x8 < (nI (sN S1)) → ¬ (b2i (tbL x2 x8)) = (0 : Int32) → ¬ (b2i (tbL (sCo S2 c_3) x6)) = (0 : Int32) → Ev G (d + 2) k n M_Mo_vote 46 [.ref 102, .int x1, .long x2, ev_unk, .long x4, ev_unk, .int x6, .int (x7 + (1 : Int32)), .int (x8 + (1 : Int32))] [] h R)
  (k4 : ¬ x8 < (nI (sN S1)) → (0 : Int32) < x7 → Ev G (d + 2) k n M_Mo_vote 31 [.ref 102, .int x1, .long x2, ev_unk, .long (x4 ||| ((1 : Int64) <<< (x6.toInt64 &&& 63))), ev_unk, .int (x6 + (1 : Int32)), ev_unk, ev_unk] [] h R)
  (k5 : ¬ x8 < (nI (sN S1)) → ¬ (0 : Int32) < x7 → Ev G (d + 2) k n M_Mo_vote 31 [.ref 102, .int x1, .long x2, ev_unk, .long (x4 ||| (0 : Int64)), ev_unk, .int (x6 + (1 : Int32)), ev_unk, ev_unk] [] h R)
  : Ev G (d + 2) k n M_Mo_vote 46 [.ref 102, .int x1, .long x2, ev_unk, .long x4, ev_unk, .int x6, .int x7, .int x8] [] h R :=
  Ev.go (pc' := 49) (ls' := [.ref 102, .int x1, .long x2, ev_unk, .long x4, ev_unk, .int x6, .int x7, .int x8]) (st' := [.ref 102, .int x8]) [.iload 8, .aload_n 0] (by decide +kernel) rfl <|
  Ev.cV0 (M' := M_Mo_many_0) (as := []) (rest := [.int x8]) l_Mo_71 M_Mo_many_0_ok M_Mo_many_0_in M_Mo_many_0_se (by decide +kernel) r2 rfl rfl rfl (Nat.le_of_ble_eq_true rfl) (Nat.le_of_ble_eq_true rfl) (s_Mo_many_0 pr1 <| show Ev G (d + 2) _ _ M_Mo_vote 52 [.ref 102, .int x1, .long x2, ev_unk, .long x4, ev_unk, .int x6, .int x7, .int x8] [.int (nI (sN S1)), .int x8] h R from
    Ev.br (i := .if_icmp .ge (46)) (P := x8 < (nI (sN S1))) (t := 55) (f := 98) (r := []) (by decide +kernel) rfl (fun c1 =>
      Ev.go (pc' := 60) (ls' := [.ref 102, .int x1, .long x2, ev_unk, .long x4, ev_unk, .int x6, .int x7, .int x8]) (st' := [.int x8, .long x2, .int x7]) [.iload 7, .lload_n 2, .iload 8] (by decide +kernel) rfl <|
      Ev.cS0 (M' := M_Mo_has) (as := [.long x2, .int x8]) (rest := [.int x7]) l_Mo_271 M_Mo_has_ok M_Mo_has_st (by decide +kernel) rfl rfl (Nat.le_of_ble_eq_true rfl) (Nat.le_of_ble_eq_true rfl) (s_Mo_has <| show Ev G (d + 2) _ _ M_Mo_vote 63 [.ref 102, .int x1, .long x2, ev_unk, .long x4, ev_unk, .int x6, .int x7, .int x8] [.int (b2i (tbL x2 x8)), .int x7] h R from
        Ev.br (i := .ifCond .eq (25)) (P := (b2i (tbL x2 x8)) = (0 : Int32)) (t := 88) (f := 66) (r := [.int x7]) (by decide +kernel) rfl (fun c2 =>
          Ev.go (pc' := 46) (ls' := [.ref 102, .int x1, .long x2, ev_unk, .long x4, ev_unk, .int x6, .int (x7 + (0 : Int32)), .int (x8 + (1 : Int32))]) (st' := []) [.iconst 0, .iadd, .istore 7, .iinc 8 (1), .goto (-49)] (by decide +kernel) rfl <|
          (k1 c1 c2)
        ) (fun c2 =>
          Ev.go (pc' := 69) (ls' := [.ref 102, .int x1, .long x2, ev_unk, .long x4, ev_unk, .int x6, .int x7, .int x8]) (st' := [.int x8, .ref 102, .int x7]) [.aload_n 0, .iload 8] (by decide +kernel) rfl <|
          Ev.cV0 (M' := M_Mo_codeOf) (as := [.int x8]) (rest := [.int x7]) l_Mo_85 M_Mo_codeOf_ok M_Mo_codeOf_in M_Mo_codeOf_se (by decide +kernel) (r6 c1 c2) rfl rfl rfl (Nat.le_of_ble_eq_true rfl) (Nat.le_of_ble_eq_true rfl) (s_Mo_codeOf (pr3 c1 c2) (pr4 c1 c2) (pr5 c1 c2) <| show Ev G (d + 2) _ _ M_Mo_vote 72 [.ref 102, .int x1, .long x2, ev_unk, .long x4, ev_unk, .int x6, .int x7, .int x8] [.long (sCo S2 c_3), .int x7] h R from
            Ev.go (pc' := 74) (ls' := [.ref 102, .int x1, .long x2, ev_unk, .long x4, ev_unk, .int x6, .int x7, .int x8]) (st' := [.int x6, .long (sCo S2 c_3), .int x7]) [.iload 6] (by decide +kernel) rfl <|
            Ev.cS0 (M' := M_Mo_has) (as := [.long (sCo S2 c_3), .int x6]) (rest := [.int x7]) l_Mo_271 M_Mo_has_ok M_Mo_has_st (by decide +kernel) rfl rfl (Nat.le_of_ble_eq_true rfl) (Nat.le_of_ble_eq_true rfl) (s_Mo_has <| show Ev G (d + 2) _ _ M_Mo_vote 77 [.ref 102, .int x1, .long x2, ev_unk, .long x4, ev_unk, .int x6, .int x7, .int x8] [.int (b2i (tbL (sCo S2 c_3) x6)), .int x7] h R from
              Ev.br (i := .ifCond .eq (7)) (P := (b2i (tbL (sCo S2 c_3) x6)) = (0 : Int32)) (t := 84) (f := 80) (r := [.int x7]) (by decide +kernel) rfl (fun c3 =>
                Ev.go (pc' := 46) (ls' := [.ref 102, .int x1, .long x2, ev_unk, .long x4, ev_unk, .int x6, .int (x7 + (-1 : Int32)), .int (x8 + (1 : Int32))]) (st' := []) [.iconst (-1), .goto (4), .iadd, .istore 7, .iinc 8 (1), .goto (-49)] (by decide +kernel) rfl <|
                (k2 c1 c2 c3)
              ) (fun c3 =>
                Ev.go (pc' := 46) (ls' := [.ref 102, .int x1, .long x2, ev_unk, .long x4, ev_unk, .int x6, .int (x7 + (1 : Int32)), .int (x8 + (1 : Int32))]) (st' := []) [.iconst 1, .goto (8), .iadd, .istore 7, .iinc 8 (1), .goto (-49)] (by decide +kernel) rfl <|
                (k3 c1 c2 c3)
              )
            )
          )
        )
      )
    ) (fun c1 =>
      Ev.go (pc' := 102) (ls' := [.ref 102, .int x1, .long x2, ev_unk, .long x4, ev_unk, .int x6, .int x7, .int x8]) (st' := [.int x7, .long x4]) [.lload 4, .iload 7] (by decide +kernel) rfl <|
      Ev.br (i := .ifCond .le (10)) (P := (0 : Int32) < x7) (t := 105) (f := 112) (r := [.long x4]) (by decide +kernel) rfl (fun c2 =>
        Ev.go (pc' := 31) (ls' := [.ref 102, .int x1, .long x2, ev_unk, .long (x4 ||| ((1 : Int64) <<< (x6.toInt64 &&& 63))), ev_unk, .int (x6 + (1 : Int32)), .int x7, .int x8]) (st' := []) [.lconst 1, .iload 6, .lshl, .goto (4), .lor, .lstore 4, .iinc 6 (1), .goto (-88)] (by decide +kernel) rfl <|
        Ev.forget (ls' := [.ref 102, .int x1, .long x2, ev_unk, .long (x4 ||| ((1 : Int64) <<< (x6.toInt64 &&& 63))), ev_unk, .int (x6 + (1 : Int32)), ev_unk, ev_unk]) ⟨Or.inr rfl, Or.inr rfl, Or.inr rfl, Or.inr rfl, Or.inr rfl, Or.inr rfl, Or.inr rfl, Or.inl rfl, Or.inl rfl, trivial⟩ <|
        (k4 c1 c2)
      ) (fun c2 =>
        Ev.go (pc' := 31) (ls' := [.ref 102, .int x1, .long x2, ev_unk, .long (x4 ||| (0 : Int64)), ev_unk, .int (x6 + (1 : Int32)), .int x7, .int x8]) (st' := []) [.lconst 0, .lor, .lstore 4, .iinc 6 (1), .goto (-88)] (by decide +kernel) rfl <|
        Ev.forget (ls' := [.ref 102, .int x1, .long x2, ev_unk, .long (x4 ||| (0 : Int64)), ev_unk, .int (x6 + (1 : Int32)), ev_unk, ev_unk]) ⟨Or.inr rfl, Or.inr rfl, Or.inr rfl, Or.inr rfl, Or.inr rfl, Or.inr rfl, Or.inr rfl, Or.inl rfl, Or.inl rfl, trivial⟩ <|
        (k5 c1 c2)
      )
    )
  )
section S47
variable {G : ev_G} {d : Nat} {h : ev_H} {R : Option Value → ev_H → Prop} {Q : QS}
theorem tel_any (S : AS) {l0 l1 : Nat} (h0 : gapN (cnt (ctP S) 32) (on1 S 0) < l0) (h1 : gapN (cnt (ctP S) 32) (on1 S 0) < l1) : ∀ n, tel S l0 (n + 1) = tel S l1 (n + 1)
  | 0 => by
    show (if _ then _ else _) = (if _ then _ else _)
    rw [if_pos (show gapN (cnt (ctP S) 32) (on1 S 0) < (tel S l0 0).2 from h0), if_pos (show gapN (cnt (ctP S) 32) (on1 S 0) < (tel S l1 0).2 from h1)]
  | n + 1 => by
    have ih := tel_any S h0 h1 n
    show (if _ then _ else _) = (if _ then _ else _)
    rw [ih]
theorem on1_le (S : AS) (h : sN S ≤ 32) (b : Nat) : on1 S b ≤ cnt (ctP S) 32 := by
  rw [cnt_N h fun j q => ct_N q]
  exact cnt_mono fun k _ q => by rw [Bool.and_eq_true] at q; exact q.1
theorem gap_le {s c : Nat} (h : c ≤ s) : gapN s c ≤ s := by
  unfold gapN; split <;> omega
theorem i_negsub (a b : Int32) : -(a - b) = b - a := Int32.neg_sub
theorem neg_lt0 : ∀ k, k < 100 → 0 < k → -(nI k) < 0 := by decide +kernel
theorem neg_nlt0 : ∀ k, k < 100 → ¬ (0 : Int32) < -(nI k) := by decide +kernel
/-- twice the ones less all, and its size -/
theorem off_gap {s c : Nat} (hs : s ≤ 32) (hc : c ≤ s) : ((2 : Int32) * nI c - nI s < 0 → -((2 : Int32) * nI c - nI s) = nI (gapN s c)) ∧ (¬ (2 : Int32) * nI c - nI s < 0 → (2 : Int32) * nI c - nI s = nI (gapN s c)) := by
  rw [show (2 : Int32) = nI 2 from rfl, nI_mul]
  unfold gapN
  by_cases q : 2 * c < s
  · rw [if_pos (by omega)]
    have e : -(nI (2 * c) - nI s) = nI (s - 2 * c) := by rw [i_negsub, nI_sub (by omega)]
    refine ⟨fun _ => e, fun z => absurd ?_ z⟩
    have e2 : nI (2 * c) - nI s = -(nI (s - 2 * c)) := by rw [← e, Int32.neg_neg]
    rw [e2]
    exact neg_lt0 _ (by omega) (by omega)
  · rw [nI_sub (by omega)]
    refine ⟨fun z => absurd z (nI_pos (by omega)), fun _ => ?_⟩
    by_cases q2 : 2 * c ≤ s
    · rw [if_pos q2]; congr 1; omega
    · rw [if_neg q2]
theorem s_Mo_telling2 (H : MR h Q) (hR : ∀ h', Kp h h' 102 126 → MR h' (stQ Q (a_telling (qS Q)).2) → R (some (.int (a_telling (qS Q)).1)) h') : Ev G (d + 7) 0 0 M_Mo_telling 0 [.ref 102, ev_unk, ev_unk, ev_unk, ev_unk, ev_unk, ev_unk] [] h R := by
  obtain ⟨bm, z, m1⟩ := H.2.1
  have hz := H.szN
  have hzB := H.szB
  have hB4 : 4 ≤ sB (qS Q) := H.ok.1
  refine b_Mo_telling_0 (d := d + 4) ⟨_, m1⟩ ?_
  refine s_cnt H fun h1 K1 H => ?_
  refine b_Mo_telling_4 (d := d + 4) ?_
  obtain ⟨bm, z, m1⟩ := H.2.1
  have cs := cnt_le (ctP (qS Q)) 32
  have g0 := gap_le (on1_le (qS Q) hz 0)
  have L := up0 (P := fun b => Ev G (d + 7) 0 0 M_Mo_telling 14 [.ref 102, .long (setL (ctP (qS Q))), ev_unk, .int (nI (tel (qS Q) 33 b).1), .int (nI (tel (qS Q) 33 b).2), .int (nI b), ev_unk] [] h1 R) (sB (qS Q)) ?_ ?_
  · exact L
  · intro b hb ih
    have st : tel (qS Q) 33 (b + 1) = if gapN (cnt (ctP (qS Q)) 32) (on1 (qS Q) b) < (tel (qS Q) 33 b).2 then (b, gapN (cnt (ctP (qS Q)) 32) (on1 (qS Q) b)) else tel (qS Q) 33 b := rfl
    rw [st] at ih
    have tl := tel_le (qS Q) (l0 := 33) (by omega) b
    have ol := on1_le (qS Q) hz b
    have gl := gap_le ol
    obtain ⟨o1, o2⟩ := off_gap cs ol
    have eo : cnt (fun j => lt (setL (ctP (qS Q))) j && lt (sCo (qS Q) j) b) (sN (qS Q)) = on1 (qS Q) b := cnt_congr fun k hk => by rw [lt_setL, decide_eq_true (show k < 32 by omega), Bool.true_and]
    have es : pop (setL (ctP (qS Q))) = cnt (ctP (qS Q)) 32 := pop_setL _
    have lts : nI (gapN (cnt (ctP (qS Q)) 32) (on1 (qS Q) b)) < nI (tel (qS Q) 33 b).2 ↔ gapN (cnt (ctP (qS Q)) 32) (on1 (qS Q) b) < (tel (qS Q) 33 b).2 := nI_ltI (by omega) (by omega)
    refine b_Mo_telling_14 (d := d + 4) (b_3 := b) H.ms ⟨_, m1⟩ (fun c1 => H.ms) (fun c1 => H.ok) (fun c1 => ⟨rfl, by omega⟩) (fun c1 => ⟨_, m1⟩) (fun c1 => m1) (fun c1 => ⟨_, m1⟩) (fun c1 c2 c3 => ?_) (fun c1 c2 c3 => ?_) (fun c1 c2 c3 => ?_) (fun c1 c2 c3 => ?_) (fun c1 => absurd (nI_lt hb (by omega)) c1)
    · rw [es, eo] at c2 c3
      rw [es, eo, o1 c2, nI_1]; rw [o1 c2] at c3
      rw [if_pos (lts.mp c3)] at ih; exact ih
    · rw [es, eo] at c2 c3
      rw [nI_1]; rw [o1 c2] at c3
      rw [if_neg (fun z => c3 (lts.mpr z))] at ih; exact ih
    · rw [es, eo] at c2 c3
      rw [es, eo, o2 c2, nI_1]; rw [o2 c2] at c3
      rw [if_pos (lts.mp c3)] at ih; exact ih
    · rw [es, eo] at c2 c3
      rw [nI_1]; rw [o2 c2] at c3
      rw [if_neg (fun z => c3 (lts.mpr z))] at ih; exact ih
  · refine b_Mo_telling_14 (d := d + 4) (b_3 := 0) H.ms ⟨_, m1⟩ (fun c1 => H.ms) (fun c1 => H.ok) (fun c1 => absurd c1 (nl_self (by omega))) (fun c1 => ⟨_, m1⟩) (fun c1 => m1) (fun c1 => ⟨_, m1⟩) (fun c1 c2 c3 => absurd c1 (nl_self (by omega))) (fun c1 c2 c3 => absurd c1 (nl_self (by omega))) (fun c1 c2 c3 => absurd c1 (nl_self (by omega))) (fun c1 c2 c3 => absurd c1 (nl_self (by omega))) (fun c1 => ?_)
    refine H.fin (K1.wide (by omega) (by omega)) m1 hR ?_
    obtain ⟨n, en⟩ : ∃ n, sB (qS Q) = n + 1 := ⟨sB (qS Q) - 1, by omega⟩
    unfold a_telling
    rw [en, tel_any (qS Q) (l0 := 33) (l1 := cnt (ctP (qS Q)) 32 + 1) (by omega) (by omega)]
theorem l_i64 (x : Int32) {j : Nat} (hj : j < 32) : lt x.toInt64 j = bt x j := by
  unfold lt bt
  rw [Int32.toBitVec_toInt64, BitVec.getLsbD_signExtend]
  simp [hj, show j < 64 by omega]
theorem own_eq (x : Int32) : x.toInt64 &&& (4294967295 : Int64) = setL (bt x) := l_ext fun j hj => by
  have m : ∀ j, j < 64 → lt 4294967295 j = decide (j < 32) := by decide +kernel
  rw [l_and, lt_setL, m j hj]
  by_cases c : j < 32
  · rw [l_i64 x c, Bool.and_comm]
  · rw [decide_eq_false c, Bool.and_false, Bool.false_and]
theorem own_in {x : Int32} {n : Nat} (hn : n ≤ 32) : ((x.toInt64 &&& (4294967295 : Int64)) >>> ((nI n).toInt64 &&& 63)) = (0 : Int64) ↔ (∀ j, j < 32 → bt x j = true → j < n) := by
  rw [own_eq]
  constructor
  · intro h j hj q
    refine Nat.lt_of_not_le fun c => ?_
    have := congrArg (fun y => lt y (j - n)) h
    have this : lt (setL (bt x) >>> ((nI n).toInt64 &&& 63)) (j - n) = lt 0 (j - n) := this
    rw [l_sshr n (by omega) _ (by omega), if_pos (by omega), l_0, lt_setL, show n + (j - n) = j by omega, decide_eq_true hj, q] at this
    exact absurd this (by decide)
  · intro h
    refine l_ext fun j hj => ?_
    rw [l_sshr n (by omega) _ hj, l_0, lt_setL, lt_setL]
    split
    · cases q : (decide (n + j < 32) && bt x (n + j))
      · rfl
      · rw [Bool.and_eq_true, decide_eq_true_iff] at q
        have := h _ q.1 q.2
        omega
    · rfl
theorem own_in2 {S : AS} {x : Int32} : (x &&& (setI (allP S) ^^^ (-1 : Int32))) = 0 ↔ (∀ j, j < 32 → bt x j = true → j < sN S) := by
  rw [setI_not]
  constructor
  · intro h j hj q
    have := congrArg (fun y => bt y j) h
    have this : bt (x &&& setI (fun j => !allP S j)) j = bt 0 j := this
    rw [b_and, bt_setI, q, decide_eq_true hj, setI_0, bt_setI, Bool.and_false] at this
    have e : allP S j = true := by
      cases w : allP S j
      · rw [w] at this; exact absurd this (by decide)
      · rfl
    exact of_decide_eq_true e
  · intro h
    refine b_ext fun j hj => ?_
    rw [b_and, bt_setI, setI_0, bt_setI, Bool.and_false]
    cases q : bt x j
    · rfl
    · have e : allP S j = true := decide_eq_true (h j hj q)
      rw [e]; simp
theorem i_inc (a b : Int32) : a - b + 1 = (a + 1) - b := by
  rw [Int32.sub_eq_add_neg, Int32.sub_eq_add_neg, Int32.add_assoc, Int32.add_comm (-b) 1, ← Int32.add_assoc]
theorem i_dec (a b : Int32) : a - b + (-1) = a - (b + 1) := by
  rw [Int32.sub_eq_add_neg, Int32.sub_eq_add_neg, Int32.neg_add, Int32.sub_eq_add_neg, Int32.add_assoc]
theorem i_pos {a b : Nat} (ha : a ≤ 32) (hb : b ≤ 32) : (0 : Int32) < nI a - nI b ↔ b < a := by
  by_cases c : b < a
  · rw [nI_sub (by omega)]
    exact ⟨fun _ => c, fun _ => nI_lt (a := 0) (by omega) (by omega)⟩
  · have e : nI a - nI b = -(nI (b - a)) := by rw [← nI_sub (by omega), i_negsub]
    rw [e]
    exact ⟨fun z => absurd z (neg_nlt0 _ (by omega)), fun z => absurd z c⟩
theorem cnt_two (p q : Nat → Bool) : ∀ n, cnt p n = cnt (fun j => p j && q j) n + cnt (fun j => p j && !q j) n
  | 0 => rfl
  | n + 1 => by
    show cnt p n + (if p n then 1 else 0) = (cnt _ n + if (p n && q n) then 1 else 0) + (cnt _ n + if (p n && !q n) then 1 else 0)
    rw [cnt_two p q n]
    cases p n <;> cases q n <;> simp <;> omega
theorem s_Mo_vote2 {set : Int32} (H : MR h Q) (hR : ∀ h', Kp h h' 102 126 → MR h' (stQ Q (a_vote (qS Q) set).2) → R (some (.long (a_vote (qS Q) set).1)) h') : Ev G (d + 2) 0 0 M_Mo_vote 0 [.ref 102, .int set, ev_unk, ev_unk, ev_unk, ev_unk, ev_unk, ev_unk, ev_unk] [] h R := by
  obtain ⟨bm, z, m1⟩ := H.2.1
  have hz := H.szN
  have hzB := H.szB
  refine b_Mo_vote_0 H.ms ⟨_, m1⟩ (fun c1 => m1) (fun c1 => ⟨_, m1⟩) (fun c1 => ?_) (fun c1 => H.finL (Kp.refl _ _ _) m1 hR (by rw [own_in hz, ← own_in2] at c1; unfold a_vote; rw [if_neg c1]; rfl))
  rw [own_in hz] at c1
  rw [own_eq]
  have e : a_vote (qS Q) set = (vot (qS Q) set (sB (qS Q)), 0) := by unfold a_vote; rw [if_pos (own_in2.mpr c1)]
  have pN : pop32 set = cnt (bt set) (sN (qS Q)) := by
    have := cnt_N (p := fun j => decide (j < 32) && bt set j) hz (fun j q => by rw [Bool.and_eq_true, decide_eq_true_iff] at q; exact c1 j q.1 q.2)
    rw [cnt_congr (q := bt set) (n := 32) (fun k hk => by rw [decide_eq_true hk, Bool.true_and]), cnt_congr (q := bt set) (n := sN (qS Q)) (fun k hk => by rw [decide_eq_true (show k < 32 by omega), Bool.true_and])] at this
    exact this
  have L := up0 (P := fun b => Ev G (d + 2) 0 0 M_Mo_vote 31 [.ref 102, .int set, .long (setL (bt set)), ev_unk, .long (vot (qS Q) set b), ev_unk, .int (nI b), ev_unk, ev_unk] [] h R) (sB (qS Q)) ?_ ?_
  · exact L
  · intro b hb ih
    have st : vot (qS Q) set (b + 1) = if pop32 set < cnt (fun j => bt set j && lt (sCo (qS Q) j) b) (sN (qS Q)) * 2 then vot (qS Q) set b ||| ((1 : Int64) <<< ((nI b).toInt64 &&& 63)) else vot (qS Q) set b := rfl
    rw [st] at ih
    refine b_Mo_vote_31 H.ms ⟨_, m1⟩ (fun c1 => m1) (fun c1 => ⟨_, m1⟩) (fun c1 => ?_) (fun c1 => absurd (nI_lt hb (by omega)) c1)
    have t2 := cnt_two (bt set) (fun j => lt (sCo (qS Q) j) b) (sN (qS Q))
    have l1 := cnt_le (fun j => bt set j && lt (sCo (qS Q) j) b) (sN (qS Q))
    have l2 := cnt_le (fun j => bt set j && !lt (sCo (qS Q) j) b) (sN (qS Q))
    have L2 := up0 (P := fun i => Ev G (d + 2) 0 0 M_Mo_vote 46 [.ref 102, .int set, .long (setL (bt set)), ev_unk, .long (vot (qS Q) set b), ev_unk, .int (nI b), .int (nI (cnt (fun j => bt set j && lt (sCo (qS Q) j) b) i) - nI (cnt (fun j => bt set j && !lt (sCo (qS Q) j) b) i)), .int (nI i)] [] h R) (sN (qS Q)) ?_ ?_
    · have z : nI (cnt (fun j => bt set j && lt (sCo (qS Q) j) b) 0) - nI (cnt (fun j => bt set j && !lt (sCo (qS Q) j) b) 0) = 0 := Int32.sub_self _
      rw [z] at L2
      exact L2
    · intro i hi ih2
      have f1 : cnt (fun j => bt set j && lt (sCo (qS Q) j) b) (i + 1) = cnt (fun j => bt set j && lt (sCo (qS Q) j) b) i + if (bt set i && lt (sCo (qS Q) i) b) then 1 else 0 := rfl
      have f2 : cnt (fun j => bt set j && !lt (sCo (qS Q) j) b) (i + 1) = cnt (fun j => bt set j && !lt (sCo (qS Q) j) b) i + if (bt set i && !lt (sCo (qS Q) i) b) then 1 else 0 := rfl
      rw [f1, f2] at ih2
      have tb : tbL (setL (bt set)) (nI i) = bt set i := by rw [tbL_n (by omega), lt_setL, decide_eq_true (show i < 32 by omega), Bool.true_and]
      refine b_Mo_vote_46 (c_3 := i) H.ms ⟨_, m1⟩ (fun c1 c2 => H.ms) (fun c1 c2 => H.ok) (fun c1 c2 => ⟨rfl, hi⟩) (fun c1 c2 => ⟨_, m1⟩) (fun c1 c2 => ?_) (fun c1 c2 c3 => ?_) (fun c1 c2 c3 => ?_) (fun c1 c2 => absurd (nI_lt hi (by omega)) c1) (fun c1 c2 => absurd (nI_lt hi (by omega)) c1)
      · rw [tb] at c2
        rw [b2i_e0 c2] at ih2
        rw [show ∀ a : Int32, a + 0 = a from fun a => Int32.add_zero a, nI_1]; exact ih2
      · rw [tb] at c2
        rw [tbL_n (by omega)] at c3
        rw [b2i_n0 c2, b2i_e0 c3] at ih2
        rw [i_dec, nI_1, nI_1]; exact ih2
      · rw [tb] at c2
        rw [tbL_n (by omega)] at c3
        rw [b2i_n0 c2, b2i_n0 c3] at ih2
        rw [i_inc, nI_1, nI_1]; exact ih2
    · have no := nl_self (n := sN (qS Q)) (by omega)
      refine b_Mo_vote_46 (c_3 := 0) H.ms ⟨_, m1⟩ (fun c1 c2 => H.ms) (fun c1 c2 => H.ok) (fun c1 c2 => absurd c1 no) (fun c1 c2 => ⟨_, m1⟩) (fun c1 c2 => absurd c1 no) (fun c1 c2 c3 => absurd c1 no) (fun c1 c2 c3 => absurd c1 no) (fun c1 c2 => ?_) (fun c1 c2 => ?_)
      · rw [i_pos (by omega) (by omega)] at c2
        rw [if_pos (by omega)] at ih
        rw [nI_1]; exact ih
      · rw [i_pos (by omega) (by omega)] at c2
        rw [if_neg (by omega)] at ih
        rw [l_or0, nI_1]; exact ih
  · refine b_Mo_vote_31 H.ms ⟨_, m1⟩ (fun c1 => m1) (fun c1 => ⟨_, m1⟩) (fun c1 => absurd c1 (nl_self (by omega))) (fun c1 => H.finL (Kp.refl _ _ _) m1 hR e)
end S47
