/-! the model's grown -/
theorem b_Mo_grown_0 {G : ev_G} {d k n : Nat} {h : ev_H} {R : Option Value → ev_H → Prop} {x1 : Int64} {x3 : Int32} {x4 : Int32} {S1 : AS} {v_2 : MG} {z_3 : MP} {v_4 : MG} {z_5 : MP} {v_6 : MG} {z_7 : MP}
  (pr1 : MS h S1)
  (r2 : ∃ fs, hat h 102 (oC 9 fs))
  (pr3 : (b2i (numB x1 (sB S1))) = (0 : Int32) → hat h 102 (moC v_2 z_3))
  (r4 : (b2i (numB x1 (sB S1))) = (0 : Int32) → ∃ fs, hat h 102 (oC 9 fs))
  (pr5 : ¬ (b2i (numB x1 (sB S1))) = (0 : Int32) → x3 < (1 : Int32) → hat h 102 (moC v_4 z_5))
  (r6 : ¬ (b2i (numB x1 (sB S1))) = (0 : Int32) → x3 < (1 : Int32) → ∃ fs, hat h 102 (oC 9 fs))
  (pr7 : ¬ (b2i (numB x1 (sB S1))) = (0 : Int32) → ¬ x3 < (1 : Int32) → (b2i (frB x4.toInt64 (0 : Int64) (1 : Int64))) = (0 : Int32) → hat h 102 (moC v_6 z_7))
  (r8 : ¬ (b2i (numB x1 (sB S1))) = (0 : Int32) → ¬ x3 < (1 : Int32) → (b2i (frB x4.toInt64 (0 : Int64) (1 : Int64))) = (0 : Int32) → ∃ fs, hat h 102 (oC 9 fs))
  (r9 : ¬ (b2i (numB x1 (sB S1))) = (0 : Int32) → ¬ x3 < (1 : Int32) → ¬ (b2i (frB x4.toInt64 (0 : Int64) (1 : Int64))) = (0 : Int32) → ∃ fs, hat h 102 (oC 9 fs))
  (k1 : (b2i (numB x1 (sB S1))) = (0 : Int32) → R (some (.int (-1 : Int32))) (hset h 102 (moC (stV v_2 (1 : Int32)) z_3)))
  (k2 : ¬ (b2i (numB x1 (sB S1))) = (0 : Int32) → x3 < (1 : Int32) → R (some (.int (-1 : Int32))) (hset h 102 (moC (stV v_4 (1 : Int32)) z_5)))
  (k3 : ¬ (b2i (numB x1 (sB S1))) = (0 : Int32) → ¬ x3 < (1 : Int32) → (b2i (frB x4.toInt64 (0 : Int64) (1 : Int64))) = (0 : Int32) → R (some (.int (-1 : Int32))) (hset h 102 (moC (stV v_6 (1 : Int32)) z_7)))
  (k4 : ¬ (b2i (numB x1 (sB S1))) = (0 : Int32) → ¬ x3 < (1 : Int32) → ¬ (b2i (frB x4.toInt64 (0 : Int64) (1 : Int64))) = (0 : Int32) → Ev G (d + 2) 0 0 M_Mo_counting 0 [.ref 102, ev_unk, ev_unk, ev_unk] [] h (fun r h1 => Ev G (d + 3) k n M_Mo_grown 34 [.ref 102, .long x1, ev_unk, .int x3, .int x4, ev_unk, ev_unk, ev_unk, ev_unk] (r.toList ++ []) h1 R))
  : Ev G (d + 3) k n M_Mo_grown 0 [.ref 102, .long x1, ev_unk, .int x3, .int x4, ev_unk, ev_unk, ev_unk, ev_unk] [] h R :=
  Ev.go (pc' := 2) (ls' := [.ref 102, .long x1, ev_unk, .int x3, .int x4, ev_unk, ev_unk, ev_unk, ev_unk]) (st' := [.long x1, .ref 102]) [.aload_n 0, .lload_n 1] (by decide +kernel) rfl <|
  Ev.cV0 (M' := M_Mo_isNumber) (as := [.long x1]) (rest := []) l_Mo_267 M_Mo_isNumber_ok M_Mo_isNumber_in M_Mo_isNumber_se (by decide +kernel) r2 rfl rfl rfl (Nat.le_of_ble_eq_true rfl) (Nat.le_of_ble_eq_true rfl) (s_Mo_isNumber pr1 <| show Ev G (d + 3) _ _ M_Mo_grown 5 [.ref 102, .long x1, ev_unk, .int x3, .int x4, ev_unk, ev_unk, ev_unk, ev_unk] [.int (b2i (numB x1 (sB S1)))] h R from
    Ev.br (i := .ifCond .eq (19)) (P := (b2i (numB x1 (sB S1))) = (0 : Int32)) (t := 24) (f := 8) (r := []) (by decide +kernel) rfl (fun c1 =>
      Ev.go (pc' := 26) (ls' := [.ref 102, .long x1, ev_unk, .int x3, .int x4, ev_unk, ev_unk, ev_unk, ev_unk]) (st' := [.int (1 : Int32), .ref 102]) [.aload_n 0, .iconst 1] (by decide +kernel) rfl <|
      Ev.cV0 (M' := M_Mo_refuse) (as := [.int (1 : Int32)]) (rest := []) l_Mo_226 M_Mo_refuse_ok M_Mo_refuse_in M_Mo_refuse_se (by decide +kernel) (r4 c1) rfl rfl rfl (Nat.le_of_ble_eq_true rfl) (Nat.le_of_ble_eq_true rfl) (s_Mo_refuse (pr3 c1) <| show Ev G (d + 3) _ _ M_Mo_grown 29 [.ref 102, .long x1, ev_unk, .int x3, .int x4, ev_unk, ev_unk, ev_unk, ev_unk] [.int (-1 : Int32)] (hset h 102 (moC (stV v_2 (1 : Int32)) z_3)) R from
        Ev.ret (r := (some (.int (-1 : Int32)))) (Or.inl ⟨_, rfl, by decide +kernel, _, rfl, rfl⟩) (k1 c1)
      )
    ) (fun c1 =>
      Ev.go (pc' := 10) (ls' := [.ref 102, .long x1, ev_unk, .int x3, .int x4, ev_unk, ev_unk, ev_unk, ev_unk]) (st' := [.int (1 : Int32), .int x3]) [.iload_n 3, .iconst 1] (by decide +kernel) rfl <|
      Ev.br (i := .if_icmp .lt (14)) (P := x3 < (1 : Int32)) (t := 24) (f := 13) (r := []) (by decide +kernel) rfl (fun c2 =>
        Ev.go (pc' := 26) (ls' := [.ref 102, .long x1, ev_unk, .int x3, .int x4, ev_unk, ev_unk, ev_unk, ev_unk]) (st' := [.int (1 : Int32), .ref 102]) [.aload_n 0, .iconst 1] (by decide +kernel) rfl <|
        Ev.cV0 (M' := M_Mo_refuse) (as := [.int (1 : Int32)]) (rest := []) l_Mo_226 M_Mo_refuse_ok M_Mo_refuse_in M_Mo_refuse_se (by decide +kernel) (r6 c1 c2) rfl rfl rfl (Nat.le_of_ble_eq_true rfl) (Nat.le_of_ble_eq_true rfl) (s_Mo_refuse (pr5 c1 c2) <| show Ev G (d + 3) _ _ M_Mo_grown 29 [.ref 102, .long x1, ev_unk, .int x3, .int x4, ev_unk, ev_unk, ev_unk, ev_unk] [.int (-1 : Int32)] (hset h 102 (moC (stV v_4 (1 : Int32)) z_5)) R from
          Ev.ret (r := (some (.int (-1 : Int32)))) (Or.inl ⟨_, rfl, by decide +kernel, _, rfl, rfl⟩) (k2 c1 c2)
        )
      ) (fun c2 =>
        Ev.go (pc' := 18) (ls' := [.ref 102, .long x1, ev_unk, .int x3, .int x4, ev_unk, ev_unk, ev_unk, ev_unk]) (st' := [.long (1 : Int64), .long (0 : Int64), .long x4.toInt64]) [.iload 4, .i2l, .lconst 0, .lconst 1] (by decide +kernel) rfl <|
        Ev.cS0 (M' := M_Mo_isFrom) (as := [.long x4.toInt64, .long (0 : Int64), .long (1 : Int64)]) (rest := []) l_Mo_172 M_Mo_isFrom_ok M_Mo_isFrom_st (by decide +kernel) rfl rfl (Nat.le_of_ble_eq_true rfl) (Nat.le_of_ble_eq_true rfl) (s_Mo_isFrom <| show Ev G (d + 3) _ _ M_Mo_grown 21 [.ref 102, .long x1, ev_unk, .int x3, .int x4, ev_unk, ev_unk, ev_unk, ev_unk] [.int (b2i (frB x4.toInt64 (0 : Int64) (1 : Int64)))] h R from
          Ev.br (i := .ifCond .ne (9)) (P := (b2i (frB x4.toInt64 (0 : Int64) (1 : Int64))) = (0 : Int32)) (t := 24) (f := 30) (r := []) (by decide +kernel) rfl (fun c3 =>
            Ev.go (pc' := 26) (ls' := [.ref 102, .long x1, ev_unk, .int x3, .int x4, ev_unk, ev_unk, ev_unk, ev_unk]) (st' := [.int (1 : Int32), .ref 102]) [.aload_n 0, .iconst 1] (by decide +kernel) rfl <|
            Ev.cV0 (M' := M_Mo_refuse) (as := [.int (1 : Int32)]) (rest := []) l_Mo_226 M_Mo_refuse_ok M_Mo_refuse_in M_Mo_refuse_se (by decide +kernel) (r8 c1 c2 c3) rfl rfl rfl (Nat.le_of_ble_eq_true rfl) (Nat.le_of_ble_eq_true rfl) (s_Mo_refuse (pr7 c1 c2 c3) <| show Ev G (d + 3) _ _ M_Mo_grown 29 [.ref 102, .long x1, ev_unk, .int x3, .int x4, ev_unk, ev_unk, ev_unk, ev_unk] [.int (-1 : Int32)] (hset h 102 (moC (stV v_6 (1 : Int32)) z_7)) R from
              Ev.ret (r := (some (.int (-1 : Int32)))) (Or.inl ⟨_, rfl, by decide +kernel, _, rfl, rfl⟩) (k3 c1 c2 c3)
            )
          ) (fun c3 =>
            Ev.go (pc' := 31) (ls' := [.ref 102, .long x1, ev_unk, .int x3, .int x4, ev_unk, ev_unk, ev_unk, ev_unk]) (st' := [.ref 102]) [.aload_n 0] (by decide +kernel) rfl <|
            Ev.cV0 (M' := M_Mo_counting) (as := []) (rest := []) l_Mo_248 M_Mo_counting_ok M_Mo_counting_in M_Mo_counting_se (by decide +kernel) (r9 c1 c2 c3) rfl rfl rfl (Nat.le_of_ble_eq_true rfl) (Nat.le_of_ble_eq_true rfl) (k4 c1 c2 c3)
          )
        )
      )
    )
  )
theorem b_Mo_grown_34 {G : ev_G} {d k n : Nat} {h : ev_H} {R : Option Value → ev_H → Prop} {x1 : Int64} {x3 : Int32} {x4 : Int32} {y0 : Int64} {v_1 : MG} {z_2 : MP}
  (pr1 : (nI (pop y0)) < x3 → hat h 102 (moC v_1 z_2))
  (r2 : (nI (pop y0)) < x3 → ∃ fs, hat h 102 (oC 9 fs))
  (r3 : ¬ (nI (pop y0)) < x3 → ∃ fs, hat h 102 (oC 9 fs))
  (k1 : (nI (pop y0)) < x3 → R (some (.int (-1 : Int32))) (hset h 102 (moC (stV v_1 (6 : Int32)) z_2)))
  (k2 : ¬ (nI (pop y0)) < x3 → Ev G (d + 2) 0 0 M_Mo_ownParts 0 [.ref 102, ev_unk] [] h (fun r h1 => Ev G (d + 3) k n M_Mo_grown 56 [.ref 102, .long x1, ev_unk, .int x3, .int x4, .long y0, ev_unk, ev_unk, ev_unk] (r.toList ++ []) h1 R))
  : Ev G (d + 3) k n M_Mo_grown 34 [.ref 102, .long x1, ev_unk, .int x3, .int x4, ev_unk, ev_unk, ev_unk, ev_unk] [.long y0] h R :=
  Ev.go (pc' := 38) (ls' := [.ref 102, .long x1, ev_unk, .int x3, .int x4, .long y0, ev_unk, ev_unk, ev_unk]) (st' := [.long y0]) [.lstore 5, .lload 5] (by decide +kernel) rfl <|
  Ev.cS0 (M' := M_Mo_ones_J) (as := [.long y0]) (rest := []) l_Mo_88 M_Mo_ones_J_ok M_Mo_ones_J_st (by decide +kernel) rfl rfl (Nat.le_of_ble_eq_true rfl) (Nat.le_of_ble_eq_true rfl) (s_Mo_ones_J <| show Ev G (d + 3) _ _ M_Mo_grown 41 [.ref 102, .long x1, ev_unk, .int x3, .int x4, .long y0, ev_unk, ev_unk, ev_unk] [.int (nI (pop y0))] h R from
    Ev.go (pc' := 42) (ls' := [.ref 102, .long x1, ev_unk, .int x3, .int x4, .long y0, ev_unk, ev_unk, ev_unk]) (st' := [.int x3, .int (nI (pop y0))]) [.iload_n 3] (by decide +kernel) rfl <|
    Ev.br (i := .if_icmp .ge (10)) (P := (nI (pop y0)) < x3) (t := 45) (f := 52) (r := []) (by decide +kernel) rfl (fun c1 =>
      Ev.go (pc' := 48) (ls' := [.ref 102, .long x1, ev_unk, .int x3, .int x4, .long y0, ev_unk, ev_unk, ev_unk]) (st' := [.int (6 : Int32), .ref 102]) [.aload_n 0, .bipush (6)] (by decide +kernel) rfl <|
      Ev.cV0 (M' := M_Mo_refuse) (as := [.int (6 : Int32)]) (rest := []) l_Mo_226 M_Mo_refuse_ok M_Mo_refuse_in M_Mo_refuse_se (by decide +kernel) (r2 c1) rfl rfl rfl (Nat.le_of_ble_eq_true rfl) (Nat.le_of_ble_eq_true rfl) (s_Mo_refuse (pr1 c1) <| show Ev G (d + 3) _ _ M_Mo_grown 51 [.ref 102, .long x1, ev_unk, .int x3, .int x4, .long y0, ev_unk, ev_unk, ev_unk] [.int (-1 : Int32)] (hset h 102 (moC (stV v_1 (6 : Int32)) z_2)) R from
        Ev.ret (r := (some (.int (-1 : Int32)))) (Or.inl ⟨_, rfl, by decide +kernel, _, rfl, rfl⟩) (k1 c1)
      )
    ) (fun c1 =>
      Ev.go (pc' := 53) (ls' := [.ref 102, .long x1, ev_unk, .int x3, .int x4, .long y0, ev_unk, ev_unk, ev_unk]) (st' := [.ref 102]) [.aload_n 0] (by decide +kernel) rfl <|
      Ev.cV0 (M' := M_Mo_ownParts) (as := []) (rest := []) l_Mo_312 M_Mo_ownParts_ok M_Mo_ownParts_in M_Mo_ownParts_se (by decide +kernel) (r3 c1) rfl rfl rfl (Nat.le_of_ble_eq_true rfl) (Nat.le_of_ble_eq_true rfl) (k2 c1)
    )
  )
theorem b_Mo_grown_56 {G : ev_G} {d k n : Nat} {h : ev_H} {R : Option Value → ev_H → Prop} {x1 : Int64} {x3 : Int32} {x4 : Int32} {x5 : Int64}
  (r1 : ∃ fs, hat h 102 (oC 9 fs))
  (k1 : Ev G (d + 2) 0 0 M_Mo_budgetsOf 0 [.ref 102, .long x1, ev_unk, .int (0 : Int32), .long x5, ev_unk, ev_unk, ev_unk, ev_unk] [] h (fun r h1 => Ev G (d + 3) k n M_Mo_grown 67 [.ref 102, .long x1, ev_unk, .int x3, .int x4, .long x5, ev_unk, .int (0 : Int32), ev_unk] (r.toList ++ []) h1 R))
  : Ev G (d + 3) k n M_Mo_grown 56 [.ref 102, .long x1, ev_unk, .int x3, .int x4, .long x5, ev_unk, ev_unk, ev_unk] [] h R :=
  Ev.go (pc' := 64) (ls' := [.ref 102, .long x1, ev_unk, .int x3, .int x4, .long x5, ev_unk, .int (0 : Int32), ev_unk]) (st' := [.long x5, .int (0 : Int32), .long x1, .ref 102]) [.iconst 0, .istore 7, .aload_n 0, .lload_n 1, .iconst 0, .lload 5] (by decide +kernel) rfl <|
  Ev.cV0 (M' := M_Mo_budgetsOf) (as := [.long x1, .int (0 : Int32), .long x5]) (rest := []) l_Mo_315 M_Mo_budgetsOf_ok M_Mo_budgetsOf_in M_Mo_budgetsOf_se (by decide +kernel) r1 rfl rfl rfl (Nat.le_of_ble_eq_true rfl) (Nat.le_of_ble_eq_true rfl) k1
theorem b_Mo_grown_67 {G : ev_G} {d k n : Nat} {h : ev_H} {R : Option Value → ev_H → Prop} {x1 : Int64} {x3 : Int32} {x4 : Int32} {x5 : Int64} {x7 : Int32} {y0 : Int32}
  (k1 : Ev G (d + 3) k n M_Mo_grown 69 [.ref 102, .long x1, ev_unk, .int x3, .int x4, .long x5, ev_unk, .int x7, .int y0] [] h R)
  : Ev G (d + 3) k n M_Mo_grown 67 [.ref 102, .long x1, ev_unk, .int x3, .int x4, .long x5, ev_unk, .int x7, ev_unk] [.int y0] h R :=
  Ev.go (pc' := 69) (ls' := [.ref 102, .long x1, ev_unk, .int x3, .int x4, .long x5, ev_unk, .int x7, .int y0]) (st' := []) [.istore 8] (by decide +kernel) rfl <|
  k1
theorem b_Mo_grown_69 {G : ev_G} {d k n : Nat} {h : ev_H} {R : Option Value → ev_H → Prop} {x1 : Int64} {x3 : Int32} {x4 : Int32} {x5 : Int64} {x7 : Int32} {x8 : Int32}
  (r1 : ∃ fs, hat h 102 (oC 9 fs))
  (k1 : Ev G (d + 2) 0 0 M_Mo_nearSet 0 [.ref 102, .long x1, ev_unk, .int x7, ev_unk, ev_unk, ev_unk] [] h (fun r h1 => Ev G (d + 3) k n M_Mo_grown 76 [.ref 102, .long x1, ev_unk, .int x3, .int x4, .long x5, ev_unk, .int x7, .int x8] (r.toList ++ []) h1 R))
  : Ev G (d + 3) k n M_Mo_grown 69 [.ref 102, .long x1, ev_unk, .int x3, .int x4, .long x5, ev_unk, .int x7, .int x8] [] h R :=
  Ev.go (pc' := 73) (ls' := [.ref 102, .long x1, ev_unk, .int x3, .int x4, .long x5, ev_unk, .int x7, .int x8]) (st' := [.int x7, .long x1, .ref 102]) [.aload_n 0, .lload_n 1, .iload 7] (by decide +kernel) rfl <|
  Ev.cV0 (M' := M_Mo_nearSet) (as := [.long x1, .int x7]) (rest := []) l_Mo_325 M_Mo_nearSet_ok M_Mo_nearSet_in M_Mo_nearSet_se (by decide +kernel) r1 rfl rfl rfl (Nat.le_of_ble_eq_true rfl) (Nat.le_of_ble_eq_true rfl) k1
theorem b_Mo_grown_76 {G : ev_G} {d k n : Nat} {h : ev_H} {R : Option Value → ev_H → Prop} {x1 : Int64} {x3 : Int32} {x4 : Int32} {x5 : Int64} {x7 : Int32} {x8 : Int32} {y0 : Int64} {v_1 : MG} {z_2 : MP} {v_3 : MG} {z_4 : MP}
  (r1 : (nI (pop y0)) < x3 → ∃ fs, hat h 102 (oC 9 fs))
  (pr2 : ¬ (nI (pop y0)) < x3 → x4 = (0 : Int32) → hat h 102 (moC v_1 z_2))
  (r3 : ¬ (nI (pop y0)) < x3 → x4 = (0 : Int32) → ∃ fs, hat h 102 (oC 9 fs))
  (pr4 : ¬ (nI (pop y0)) < x3 → ¬ x4 = (0 : Int32) → hat h 102 (moC v_3 z_4))
  (r5 : ¬ (nI (pop y0)) < x3 → ¬ x4 = (0 : Int32) → ∃ fs, hat h 102 (oC 9 fs))
  (k1 : (nI (pop y0)) < x3 → Ev G (d + 2) 0 0 M_Mo_budgetsOf 0 [.ref 102, .long x1, ev_unk, .int (x7 + (1 : Int32)), .long x5, ev_unk, ev_unk, ev_unk, ev_unk] [] h (fun r h1 => Ev G (d + 3) k n M_Mo_grown 97 [.ref 102, .long x1, ev_unk, .int x3, .int x4, .long x5, ev_unk, .int (x7 + (1 : Int32)), .int x8] (r.toList ++ [.int x8]) h1 R))
  (k2 : ¬ (nI (pop y0)) < x3 → x4 = (0 : Int32) → R (some (.int x7)) (hset h 102 (moC (stV v_1 0) z_2)))
  (k3 : ¬ (nI (pop y0)) < x3 → ¬ x4 = (0 : Int32) → R (some (.int x8)) (hset h 102 (moC (stV v_3 0) z_4)))
  : Ev G (d + 3) k n M_Mo_grown 76 [.ref 102, .long x1, ev_unk, .int x3, .int x4, .long x5, ev_unk, .int x7, .int x8] [.long y0] h R :=
  Ev.cS0 (M' := M_Mo_ones_J) (as := [.long y0]) (rest := []) l_Mo_88 M_Mo_ones_J_ok M_Mo_ones_J_st (by decide +kernel) rfl rfl (Nat.le_of_ble_eq_true rfl) (Nat.le_of_ble_eq_true rfl) (s_Mo_ones_J <| show Ev G (d + 3) _ _ M_Mo_grown 79 [.ref 102, .long x1, ev_unk, .int x3, .int x4, .long x5, ev_unk, .int x7, .int x8] [.int (nI (pop y0))] h R from
    Ev.go (pc' := 80) (ls' := [.ref 102, .long x1, ev_unk, .int x3, .int x4, .long x5, ev_unk, .int x7, .int x8]) (st' := [.int x3, .int (nI (pop y0))]) [.iload_n 3] (by decide +kernel) rfl <|
    Ev.br (i := .if_icmp .ge (23)) (P := (nI (pop y0)) < x3) (t := 83) (f := 103) (r := []) (by decide +kernel) rfl (fun c1 =>
      Ev.go (pc' := 94) (ls' := [.ref 102, .long x1, ev_unk, .int x3, .int x4, .long x5, ev_unk, .int (x7 + (1 : Int32)), .int x8]) (st' := [.long x5, .int (x7 + (1 : Int32)), .long x1, .ref 102, .int x8]) [.iinc 7 (1), .iload 8, .aload_n 0, .lload_n 1, .iload 7, .lload 5] (by decide +kernel) rfl <|
      Ev.cV0 (M' := M_Mo_budgetsOf) (as := [.long x1, .int (x7 + (1 : Int32)), .long x5]) (rest := [.int x8]) l_Mo_315 M_Mo_budgetsOf_ok M_Mo_budgetsOf_in M_Mo_budgetsOf_se (by decide +kernel) (r1 c1) rfl rfl rfl (Nat.le_of_ble_eq_true rfl) (Nat.le_of_ble_eq_true rfl) (k1 c1)
    ) (fun c1 =>
      Ev.go (pc' := 106) (ls' := [.ref 102, .long x1, ev_unk, .int x3, .int x4, .long x5, ev_unk, .int x7, .int x8]) (st' := [.int x4, .ref 102]) [.aload_n 0, .iload 4] (by decide +kernel) rfl <|
      Ev.br (i := .ifCond .ne (8)) (P := x4 = (0 : Int32)) (t := 109) (f := 114) (r := [.ref 102]) (by decide +kernel) rfl (fun c2 =>
        Ev.go (pc' := 116) (ls' := [.ref 102, .long x1, ev_unk, .int x3, .int x4, .long x5, ev_unk, .int x7, .int x8]) (st' := [.int x7, .ref 102]) [.iload 7, .goto (5)] (by decide +kernel) rfl <|
        Ev.cV0 (M' := M_Mo_gives_I) (as := [.int x7]) (rest := []) l_Mo_245 M_Mo_gives_I_ok M_Mo_gives_I_in M_Mo_gives_I_se (by decide +kernel) (r3 c1 c2) rfl rfl rfl (Nat.le_of_ble_eq_true rfl) (Nat.le_of_ble_eq_true rfl) (s_Mo_gives_I (pr2 c1 c2) <| show Ev G (d + 3) _ _ M_Mo_grown 119 [.ref 102, .long x1, ev_unk, .int x3, .int x4, .long x5, ev_unk, .int x7, .int x8] [.int x7] (hset h 102 (moC (stV v_1 0) z_2)) R from
          Ev.ret (r := (some (.int x7))) (Or.inl ⟨_, rfl, by decide +kernel, _, rfl, rfl⟩) (k2 c1 c2)
        )
      ) (fun c2 =>
        Ev.go (pc' := 116) (ls' := [.ref 102, .long x1, ev_unk, .int x3, .int x4, .long x5, ev_unk, .int x7, .int x8]) (st' := [.int x8, .ref 102]) [.iload 8] (by decide +kernel) rfl <|
        Ev.cV0 (M' := M_Mo_gives_I) (as := [.int x8]) (rest := []) l_Mo_245 M_Mo_gives_I_ok M_Mo_gives_I_in M_Mo_gives_I_se (by decide +kernel) (r5 c1 c2) rfl rfl rfl (Nat.le_of_ble_eq_true rfl) (Nat.le_of_ble_eq_true rfl) (s_Mo_gives_I (pr4 c1 c2) <| show Ev G (d + 3) _ _ M_Mo_grown 119 [.ref 102, .long x1, ev_unk, .int x3, .int x4, .long x5, ev_unk, .int x7, .int x8] [.int x8] (hset h 102 (moC (stV v_3 0) z_4)) R from
          Ev.ret (r := (some (.int x8))) (Or.inl ⟨_, rfl, by decide +kernel, _, rfl, rfl⟩) (k3 c1 c2)
        )
      )
    )
  )
theorem b_Mo_grown_97 {G : ev_G} {d k n : Nat} {h : ev_H} {R : Option Value → ev_H → Prop} {x1 : Int64} {x3 : Int32} {x4 : Int32} {x5 : Int64} {x7 : Int32} {x8 : Int32} {y0 : Int32} {y1 : Int32}
  (k1 : Ev G (d + 3) k n M_Mo_grown 69 [.ref 102, .long x1, ev_unk, .int x3, .int x4, .long x5, ev_unk, .int x7, .int (y0 + y1)] [] h R)
  : Ev G (d + 3) k n M_Mo_grown 97 [.ref 102, .long x1, ev_unk, .int x3, .int x4, .long x5, ev_unk, .int x7, .int x8] [.int y1, .int y0] h R :=
  Ev.go (pc' := 69) (ls' := [.ref 102, .long x1, ev_unk, .int x3, .int x4, .long x5, ev_unk, .int x7, .int (y0 + y1)]) (st' := []) [.iadd, .istore 8, .goto (-31)] (by decide +kernel) rfl <|
  k1
section S64
variable {G : ev_G} {d : Nat} {h h1 : ev_H} {R : Option Value → ev_H → Prop} {Q : QS}
theorem s_Mo_grown2 {x : Int64} {kI w : Int32} (H : MR h Q) (hR : ∀ h', Kp h h' 102 126 → MR h' (stQ Q (a_grown (qS Q) x kI w).2) → R (some (.int (a_grown (qS Q) x kI w).1)) h') : Ev G (d + 7) 0 0 M_Mo_grown 0 [.ref 102, .long x, ev_unk, .int kI, .int w, ev_unk, ev_unk, ev_unk, ev_unk] [] h R := by
  obtain ⟨bm, z, m1⟩ := H.2.1
  have hz := H.szN
  have hzB := H.szB
  have f : frB w.toInt64 0 1 = decide (0 ≤ w ∧ w < (2 : Int32)) := fr_dc (b := 1) (by omega)
  refine b_Mo_grown_0 (d := d + 4) H.ms ⟨_, m1⟩ (fun c1 => m1) (fun c1 => ⟨_, m1⟩) (fun c1 c2 => m1) (fun c1 c2 => ⟨_, m1⟩) (fun c1 c2 c3 => m1) (fun c1 c2 c3 => ⟨_, m1⟩) (fun c1 c2 c3 => ⟨_, m1⟩) (fun c1 => H.fin (Kp.refl _ _ _) m1 hR (by unfold a_grown; rw [b2i_e0 c1]; rfl)) (fun c1 c2 => H.fin (Kp.refl _ _ _) m1 hR (by unfold a_grown; rw [b2i_n0 c1, if_pos c2]; rfl)) (fun c1 c2 c3 => H.fin (Kp.refl _ _ _) m1 hR (by rw [f] at c3; unfold a_grown; rw [b2i_n0 c1, if_neg c2, b2i_e0 c3]; rfl)) (fun c1 c2 c3 => ?_)
  rw [f] at c3
  obtain ⟨kk, hk, rfl⟩ := nI_of (x := kI) (fun z => c2 (by rw [Int32.lt_iff_toInt_lt] at z ⊢; rw [show (0 : Int32).toInt = 0 from rfl] at z; rw [show (1 : Int32).toInt = 1 from rfl]; omega))
  refine s_cnt H fun h1 K1 H1 => ?_
  obtain ⟨bm, z, m1⟩ := H1.2.1
  have K1 : Kp h h1 102 126 := K1.wide (by omega) (by omega)
  have e : a_grown (qS Q) x (nI kk) w = if nI (cnt (ctP (qS Q)) 32) < nI kk then (-1, 6) else (if w = 0 then nI (a_grR (qS Q) x kk) else nI (sumT (a_co (qS Q) x) (a_grR (qS Q) x kk + 1)), 0) := by unfold a_grown; rw [b2i_n0 c1, if_neg c2, b2i_n0 c3, vN_nI (by omega)]; rfl
  rw [e] at hR
  have nx : numB x (sB (qS Q)) = true := b2i_n0 c1
  clear e c1 c2 c3
  refine b_Mo_grown_34 (d := d + 4) (fun c1 => m1) (fun c1 => ⟨_, m1⟩) (fun c1 => ⟨_, m1⟩) (fun c1 => H1.fin K1 m1 hR (by rw [pop_setL] at c1; rw [if_pos c1])) (fun c1 => ?_)
  rw [pop_setL] at c1
  rw [if_neg c1] at hR
  have enough : kk ≤ cnt (ctP (qS Q)) 32 := Nat.le_of_not_lt fun y => c1 (nI_lt y hk)
  refine (s_Mo_ownParts (d := d) H1 fun h2 K2 B => ?_).room (by omega) (Nat.le_refl _) (Nat.le_refl _)
  obtain ⟨bm, z, m1⟩ := B.1.2.1
  refine b_Mo_grown_56 (d := d + 4) ⟨_, m1⟩ ?_
  have hs := H.sum
  have g9 : a_grR (qS Q) x kk ≤ sB (qS Q) := fst_le _ _
  have full : kk ≤ cnt (a_nr (qS Q) x (a_grR (qS Q) x kk)) 32 := by
    by_cases c : a_grR (qS Q) x kk < sB (qS Q)
    · exact of_decide_eq_true (fst_yes (fun r => decide (kk ≤ cnt (a_nr (qS Q) x r) 32)) _ c)
    · have c : a_grR (qS Q) x kk = sB (qS Q) := by omega
      rw [c]
      refine Nat.le_trans enough (cnt_mono fun j _ q => ?_)
      unfold a_nr nrP
      have hj := ct_N q
      rw [q, decide_eq_true hj, decide_eq_true (pop_num hzB (numB_xor (by omega) (H.gd.2.2.2 j hj) nx))]; rfl
  refine (s_budgetsOf (d := d) (r := 0) B B.1.wOk (by omega) (by omega) (fun j q => ct_N q) fun h3 K3 B3 _ => ?_).room (by omega) (Nat.le_refl _) (Nat.le_refl _)
  refine b_Mo_grown_67 (d := d + 4) ?_
  have K3 : Kp h h3 102 126 := (K1.trans (K2.wide (by omega) (by omega))).trans (K3.wide (by omega) (by omega))
  have L := up_to (P := fun r => ∀ h4, Kp h h4 102 126 → BR h4 Q (sP (qS Q)) (sBr (qS Q)) → Ev G (d + 7) 0 0 M_Mo_grown 69 [.ref 102, .long x, ev_unk, .int (nI kk), .int w, .long (setL (ctP (qS Q))), ev_unk, .int (nI r), .int (nI (sumT (a_co (qS Q) x) (r + 1)))] [] h4 R) (N := a_grR (qS Q) x kk) ?_ ?_
  · have := L 0 (Nat.zero_le _) h3 K3 B3
    rw [show sumT (a_co (qS Q) x) (0 + 1) = a_co (qS Q) x 0 from Nat.zero_add _] at this
    exact this
  · intro r hr ih h4 K4 B
    obtain ⟨bm, z, m1⟩ := B.1.2.1
    refine b_Mo_grown_69 (d := d + 4) ⟨_, m1⟩ ?_
    refine s_Mo_nearSet (d := d) B.1 (by omega) fun h5 K5 H5 => ?_
    have B5 := B.pile K5 H5
    have K5 : Kp h h5 102 126 := K4.trans (K5.wide (by omega) (by omega))
    obtain ⟨bm, z, m1⟩ := H5.2.1
    have no : ¬ kk ≤ cnt (a_nr (qS Q) x r) 32 := of_decide_eq_false (fst_no (fun r => decide (kk ≤ cnt (a_nr (qS Q) x r) 32)) _ r hr)
    have lt1 : nI (pop (setL (a_nr (qS Q) x r))) < nI kk := by rw [pop_setL]; exact nI_lt (by omega) hk
    refine b_Mo_grown_76 (d := d + 4) (fun c1 => ⟨_, m1⟩) (fun c1 c2 => m1) (fun c1 c2 => ⟨_, m1⟩) (fun c1 c2 => m1) (fun c1 c2 => ⟨_, m1⟩) (fun c1 => ?_) (fun c1 c2 => absurd lt1 c1) (fun c1 c2 => absurd lt1 c1)
    rw [nI_1]
    refine (s_budgetsOf (d := d) B5 H5.wOk (by omega) (by omega) (fun j q => ct_N q) fun h6 K6 B6 _ => ?_).room (by omega) (Nat.le_refl _) (Nat.le_refl _)
    refine b_Mo_grown_97 (d := d + 4) ?_
    rw [nI_add]
    exact ih h6 (K5.trans (K6.wide (by omega) (by omega))) B6
  · intro h4 K4 B
    obtain ⟨bm, z, m1⟩ := B.1.2.1
    refine b_Mo_grown_69 (d := d + 4) ⟨_, m1⟩ ?_
    refine s_Mo_nearSet (d := d) B.1 (by omega) fun h5 K5 H5 => ?_
    have K5 : Kp h h5 102 126 := K4.trans (K5.wide (by omega) (by omega))
    obtain ⟨bm, z, m1⟩ := H5.2.1
    have no : ¬ nI (pop (setL (a_nr (qS Q) x (a_grR (qS Q) x kk)))) < nI kk := by
      rw [pop_setL]
      exact nI_nlt full (by have := cnt_le (a_nr (qS Q) x (a_grR (qS Q) x kk)) 32; omega)
    refine b_Mo_grown_76 (d := d + 4) (fun c1 => ⟨_, m1⟩) (fun c1 c2 => m1) (fun c1 c2 => ⟨_, m1⟩) (fun c1 c2 => m1) (fun c1 c2 => ⟨_, m1⟩) (fun c1 => absurd c1 no) (fun c1 c2 => H5.fin K5 m1 hR (by rw [if_pos c2])) (fun c1 c2 => H5.fin K5 m1 hR (by rw [if_neg c2]))
end S64
