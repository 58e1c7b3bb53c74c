/-! the model's acts that run through -/
theorem b_Mo_swap_0 {G : ev_G} {d k n : Nat} {h : ev_H} {R : Option Value → ev_H → Prop} {x1 : Int32} {x2 : Int32} {S1 : AS} {v_2 : MG} {z_3 : MP} {S4 : AS} {v_5 : MG} {z_6 : MP} {v_7 : MG} {z_8 : MP}
  (pr1 : MS h S1)
  (pr2 : sOk S1)
  (r3 : ∃ fs, hat h 102 (oC 9 fs))
  (pr4 : (b2i (inR x1 (sB S1))) = (0 : Int32) → hat h 102 (moC v_2 z_3))
  (r5 : (b2i (inR x1 (sB S1))) = (0 : Int32) → ∃ fs, hat h 102 (oC 9 fs))
  (pr6 : ¬ (b2i (inR x1 (sB S1))) = (0 : Int32) → MS h S4)
  (pr7 : ¬ (b2i (inR x1 (sB S1))) = (0 : Int32) → sOk S4)
  (r8 : ¬ (b2i (inR x1 (sB S1))) = (0 : Int32) → ∃ fs, hat h 102 (oC 9 fs))
  (pr9 : ¬ (b2i (inR x1 (sB S1))) = (0 : Int32) → (b2i (inR x2 (sB S4))) = (0 : Int32) → hat h 102 (moC v_5 z_6))
  (r10 : ¬ (b2i (inR x1 (sB S1))) = (0 : Int32) → (b2i (inR x2 (sB S4))) = (0 : Int32) → ∃ fs, hat h 102 (oC 9 fs))
  (pr11 : ¬ (b2i (inR x1 (sB S1))) = (0 : Int32) → ¬ (b2i (inR x2 (sB S4))) = (0 : Int32) → x1 = x2 → hat h 102 (moC v_7 z_8))
  (r12 : ¬ (b2i (inR x1 (sB S1))) = (0 : Int32) → ¬ (b2i (inR x2 (sB S4))) = (0 : Int32) → x1 = x2 → ∃ fs, hat h 102 (oC 9 fs))
  (r13 : ¬ (b2i (inR x1 (sB S1))) = (0 : Int32) → ¬ (b2i (inR x2 (sB S4))) = (0 : Int32) → ¬ x1 = x2 → ∃ fs, hat h 102 (oC 9 fs))
  (k1 : (b2i (inR x1 (sB S1))) = (0 : Int32) → R (some (.int (-1 : Int32))) (hset h 102 (moC (stV v_2 (1 : Int32)) z_3)))
  (k2 : ¬ (b2i (inR x1 (sB S1))) = (0 : Int32) → (b2i (inR x2 (sB S4))) = (0 : Int32) → R (some (.int (-1 : Int32))) (hset h 102 (moC (stV v_5 (1 : Int32)) z_6)))
  (k3 : ¬ (b2i (inR x1 (sB S1))) = (0 : Int32) → ¬ (b2i (inR x2 (sB S4))) = (0 : Int32) → x1 = x2 → R (some (.int (-1 : Int32))) (hset h 102 (moC (stV v_7 (4 : Int32)) z_8)))
  (k4 : ¬ (b2i (inR x1 (sB S1))) = (0 : Int32) → ¬ (b2i (inR x2 (sB S4))) = (0 : Int32) → ¬ x1 = x2 → Ev G (d + 2) 0 0 M_Mo_acted 0 [.ref 102, .int (0 : Int32), ev_unk] [] h (fun r h1 => Ev G (d + 3) k n M_Mo_swap 38 [.ref 102, .int x1, .int x2, ev_unk, ev_unk] (r.toList ++ []) h1 R))
  : Ev G (d + 3) k n M_Mo_swap 0 [.ref 102, .int x1, .int x2, ev_unk, ev_unk] [] h R :=
  Ev.go (pc' := 2) (ls' := [.ref 102, .int x1, .int x2, ev_unk, ev_unk]) (st' := [.int x1, .ref 102]) [.aload_n 0, .iload_n 1] (by decide +kernel) rfl <|
  Ev.cV0 (M' := M_Mo_isBit) (as := [.int x1]) (rest := []) l_Mo_290 M_Mo_isBit_ok M_Mo_isBit_in M_Mo_isBit_se (by decide +kernel) r3 rfl rfl rfl (Nat.le_of_ble_eq_true rfl) (Nat.le_of_ble_eq_true rfl) (s_Mo_isBit pr1 pr2 <| show Ev G (d + 3) _ _ M_Mo_swap 5 [.ref 102, .int x1, .int x2, ev_unk, ev_unk] [.int (b2i (inR x1 (sB S1)))] h R from
    Ev.br (i := .ifCond .eq (11)) (P := (b2i (inR x1 (sB S1))) = (0 : Int32)) (t := 16) (f := 8) (r := []) (by decide +kernel) rfl (fun c1 =>
      Ev.go (pc' := 18) (ls' := [.ref 102, .int x1, .int x2, ev_unk, ev_unk]) (st' := [.int (1 : Int32), .ref 102]) [.aload_n 0, .iconst 1] (by decide +kernel) rfl <|
      Ev.cV0 (M' := M_Mo_refuse) (as := [.int (1 : Int32)]) (rest := []) l_Mo_226 M_Mo_refuse_ok M_Mo_refuse_in M_Mo_refuse_se (by decide +kernel) (r5 c1) rfl rfl rfl (Nat.le_of_ble_eq_true rfl) (Nat.le_of_ble_eq_true rfl) (s_Mo_refuse (pr4 c1) <| show Ev G (d + 3) _ _ M_Mo_swap 21 [.ref 102, .int x1, .int x2, ev_unk, ev_unk] [.int (-1 : Int32)] (hset h 102 (moC (stV v_2 (1 : Int32)) z_3)) R from
        Ev.ret (r := (some (.int (-1 : Int32)))) (Or.inl ⟨_, rfl, by decide +kernel, _, rfl, rfl⟩) (k1 c1)
      )
    ) (fun c1 =>
      Ev.go (pc' := 10) (ls' := [.ref 102, .int x1, .int x2, ev_unk, ev_unk]) (st' := [.int x2, .ref 102]) [.aload_n 0, .iload_n 2] (by decide +kernel) rfl <|
      Ev.cV0 (M' := M_Mo_isBit) (as := [.int x2]) (rest := []) l_Mo_290 M_Mo_isBit_ok M_Mo_isBit_in M_Mo_isBit_se (by decide +kernel) (r8 c1) rfl rfl rfl (Nat.le_of_ble_eq_true rfl) (Nat.le_of_ble_eq_true rfl) (s_Mo_isBit (pr6 c1) (pr7 c1) <| show Ev G (d + 3) _ _ M_Mo_swap 13 [.ref 102, .int x1, .int x2, ev_unk, ev_unk] [.int (b2i (inR x2 (sB S4)))] h R from
        Ev.br (i := .ifCond .ne (9)) (P := (b2i (inR x2 (sB S4))) = (0 : Int32)) (t := 16) (f := 22) (r := []) (by decide +kernel) rfl (fun c2 =>
          Ev.go (pc' := 18) (ls' := [.ref 102, .int x1, .int x2, ev_unk, ev_unk]) (st' := [.int (1 : Int32), .ref 102]) [.aload_n 0, .iconst 1] (by decide +kernel) rfl <|
          Ev.cV0 (M' := M_Mo_refuse) (as := [.int (1 : Int32)]) (rest := []) l_Mo_226 M_Mo_refuse_ok M_Mo_refuse_in M_Mo_refuse_se (by decide +kernel) (r10 c1 c2) rfl rfl rfl (Nat.le_of_ble_eq_true rfl) (Nat.le_of_ble_eq_true rfl) (s_Mo_refuse (pr9 c1 c2) <| show Ev G (d + 3) _ _ M_Mo_swap 21 [.ref 102, .int x1, .int x2, ev_unk, ev_unk] [.int (-1 : Int32)] (hset h 102 (moC (stV v_5 (1 : Int32)) z_6)) R from
            Ev.ret (r := (some (.int (-1 : Int32)))) (Or.inl ⟨_, rfl, by decide +kernel, _, rfl, rfl⟩) (k2 c1 c2)
          )
        ) (fun c2 =>
          Ev.go (pc' := 24) (ls' := [.ref 102, .int x1, .int x2, ev_unk, ev_unk]) (st' := [.int x2, .int x1]) [.iload_n 1, .iload_n 2] (by decide +kernel) rfl <|
          Ev.br (i := .if_icmp .ne (9)) (P := x1 = x2) (t := 27) (f := 33) (r := []) (by decide +kernel) rfl (fun c3 =>
            Ev.go (pc' := 29) (ls' := [.ref 102, .int x1, .int x2, ev_unk, ev_unk]) (st' := [.int (4 : Int32), .ref 102]) [.aload_n 0, .iconst 4] (by decide +kernel) rfl <|
            Ev.cV0 (M' := M_Mo_refuse) (as := [.int (4 : Int32)]) (rest := []) l_Mo_226 M_Mo_refuse_ok M_Mo_refuse_in M_Mo_refuse_se (by decide +kernel) (r12 c1 c2 c3) rfl rfl rfl (Nat.le_of_ble_eq_true rfl) (Nat.le_of_ble_eq_true rfl) (s_Mo_refuse (pr11 c1 c2 c3) <| show Ev G (d + 3) _ _ M_Mo_swap 32 [.ref 102, .int x1, .int x2, ev_unk, ev_unk] [.int (-1 : Int32)] (hset h 102 (moC (stV v_7 (4 : Int32)) z_8)) R from
              Ev.ret (r := (some (.int (-1 : Int32)))) (Or.inl ⟨_, rfl, by decide +kernel, _, rfl, rfl⟩) (k3 c1 c2 c3)
            )
          ) (fun c3 =>
            Ev.go (pc' := 35) (ls' := [.ref 102, .int x1, .int x2, ev_unk, ev_unk]) (st' := [.int (0 : Int32), .ref 102]) [.aload_n 0, .iconst 0] (by decide +kernel) rfl <|
            Ev.cV0 (M' := M_Mo_acted) (as := [.int (0 : Int32)]) (rest := []) l_Mo_242 M_Mo_acted_ok M_Mo_acted_in M_Mo_acted_se (by decide +kernel) (r13 c1 c2 c3) rfl rfl rfl (Nat.le_of_ble_eq_true rfl) (Nat.le_of_ble_eq_true rfl) (k4 c1 c2 c3)
          )
        )
      )
    )
  )
theorem b_Mo_swap_38 {G : ev_G} {d k n : Nat} {h : ev_H} {R : Option Value → ev_H → Prop} {x1 : Int32} {x2 : Int32}
  (k1 : Ev G (d + 3) k n M_Mo_swap 43 [.ref 102, .int x1, .int x2, .int (0 : Int32), .int (0 : Int32)] [] h R)
  : Ev G (d + 3) k n M_Mo_swap 38 [.ref 102, .int x1, .int x2, ev_unk, ev_unk] [] h R :=
  Ev.go (pc' := 43) (ls' := [.ref 102, .int x1, .int x2, .int (0 : Int32), .int (0 : Int32)]) (st' := []) [.iconst 0, .istore_n 3, .iconst 0, .istore 4] (by decide +kernel) rfl <|
  k1
theorem b_Mo_swap_43 {G : ev_G} {d k n : Nat} {h : ev_H} {R : Option Value → ev_H → Prop} {x1 : Int32} {x2 : Int32} {x3 : Int32} {x4 : Int32} {S1 : AS} {S2 : AS} {c_3 : Nat} {S4 : AS} {c_5 : Nat} {S6 : AS} {c_7 : Nat} {v_8 : MG} {z_9 : MP}
  (pr1 : MS h S1)
  (r2 : ∃ fs, hat h 102 (oC 9 fs))
  (pr3 : x4 < (nI (sN S1)) → MS h S2)
  (pr4 : x4 < (nI (sN S1)) → sOk S2)
  (pr5 : x4 < (nI (sN S1)) → x4 = nI c_3 ∧ c_3 < sN S2)
  (r6 : x4 < (nI (sN S1)) → ∃ fs, hat h 102 (oC 9 fs))
  (pr7 : x4 < (nI (sN S1)) → MS h S4)
  (pr8 : x4 < (nI (sN S1)) → sOk S4)
  (pr9 : x4 < (nI (sN S1)) → x4 = nI c_5 ∧ c_5 < sN S4)
  (pr10 : x4 < (nI (sN S1)) → ¬ (b2i (tbL (sCo S2 c_3) x1)) = (b2i (tbL (sCo S4 c_5) x2)) → MS h S6)
  (pr11 : x4 < (nI (sN S1)) → ¬ (b2i (tbL (sCo S2 c_3) x1)) = (b2i (tbL (sCo S4 c_5) x2)) → sOk S6)
  (pr12 : x4 < (nI (sN S1)) → ¬ (b2i (tbL (sCo S2 c_3) x1)) = (b2i (tbL (sCo S4 c_5) x2)) → x4 = nI c_7 ∧ c_7 < sN S6)
  (r13 : x4 < (nI (sN S1)) → ¬ (b2i (tbL (sCo S2 c_3) x1)) = (b2i (tbL (sCo S4 c_5) x2)) → ∃ fs, hat h 102 (oC 9 fs))
  (pr14 : ¬ x4 < (nI (sN S1)) → hat h 102 (moC v_8 z_9))
  (r15 : ¬ x4 < (nI (sN S1)) → ∃ fs, hat h 102 (oC 9 fs))
  (k1 : x4 < (nI (sN S1)) → (b2i (tbL (sCo S2 c_3) x1)) = (b2i (tbL (sCo S4 c_5) x2)) → Ev G (d + 3) k n M_Mo_swap 43 [.ref 102, .int x1, .int x2, .int x3, .int (x4 + (1 : Int32))] [] h R)
  (k2 : x4 < (nI (sN S1)) → ¬ (b2i (tbL (sCo S2 c_3) x1)) = (b2i (tbL (sCo S4 c_5) x2)) → Ev G (d + 2) 0 0 M_Mo_puts 0 [.ref 102, .int ((10 : Int32) + x4), .long ((sCo S6 c_7) ^^^ (((1 : Int64) <<< (x1.toInt64 &&& 63)) ||| ((1 : Int64) <<< (x2.toInt64 &&& 63)))), ev_unk] [] h (fun r h1 => Ev G (d + 3) k n M_Mo_swap 101 [.ref 102, .int x1, .int x2, .int x3, .int x4] (r.toList ++ []) h1 R))
  (k3 : ¬ x4 < (nI (sN S1)) → R (some (.int x3)) (hset h 102 (moC (stV v_8 0) z_9)))
  : Ev G (d + 3) k n M_Mo_swap 43 [.ref 102, .int x1, .int x2, .int x3, .int x4] [] h R :=
  Ev.go (pc' := 46) (ls' := [.ref 102, .int x1, .int x2, .int x3, .int x4]) (st' := [.ref 102, .int x4]) [.iload 4, .aload_n 0] (by decide +kernel) rfl <|
  Ev.cV0 (M' := M_Mo_many_0) (as := []) (rest := [.int x4]) l_Mo_71 M_Mo_many_0_ok M_Mo_many_0_in M_Mo_many_0_se (by decide +kernel) r2 rfl rfl rfl (Nat.le_of_ble_eq_true rfl) (Nat.le_of_ble_eq_true rfl) (s_Mo_many_0 pr1 <| show Ev G (d + 3) _ _ M_Mo_swap 49 [.ref 102, .int x1, .int x2, .int x3, .int x4] [.int (nI (sN S1)), .int x4] h R from
    Ev.br (i := .if_icmp .ge (61)) (P := x4 < (nI (sN S1))) (t := 52) (f := 110) (r := []) (by decide +kernel) rfl (fun c1 =>
      Ev.go (pc' := 55) (ls' := [.ref 102, .int x1, .int x2, .int x3, .int x4]) (st' := [.int x4, .ref 102]) [.aload_n 0, .iload 4] (by decide +kernel) rfl <|
      Ev.cV0 (M' := M_Mo_codeOf) (as := [.int x4]) (rest := []) l_Mo_85 M_Mo_codeOf_ok M_Mo_codeOf_in M_Mo_codeOf_se (by decide +kernel) (r6 c1) rfl rfl rfl (Nat.le_of_ble_eq_true rfl) (Nat.le_of_ble_eq_true rfl) (s_Mo_codeOf (pr3 c1) (pr4 c1) (pr5 c1) <| show Ev G (d + 3) _ _ M_Mo_swap 58 [.ref 102, .int x1, .int x2, .int x3, .int x4] [.long (sCo S2 c_3)] h R from
        Ev.go (pc' := 59) (ls' := [.ref 102, .int x1, .int x2, .int x3, .int x4]) (st' := [.int x1, .long (sCo S2 c_3)]) [.iload_n 1] (by decide +kernel) rfl <|
        Ev.cS0 (M' := M_Mo_has) (as := [.long (sCo S2 c_3), .int x1]) (rest := []) l_Mo_271 M_Mo_has_ok M_Mo_has_st (by decide +kernel) rfl rfl (Nat.le_of_ble_eq_true rfl) (Nat.le_of_ble_eq_true rfl) (s_Mo_has <| show Ev G (d + 3) _ _ M_Mo_swap 62 [.ref 102, .int x1, .int x2, .int x3, .int x4] [.int (b2i (tbL (sCo S2 c_3) x1))] h R from
          Ev.go (pc' := 65) (ls' := [.ref 102, .int x1, .int x2, .int x3, .int x4]) (st' := [.int x4, .ref 102, .int (b2i (tbL (sCo S2 c_3) x1))]) [.aload_n 0, .iload 4] (by decide +kernel) rfl <|
          Ev.cV0 (M' := M_Mo_codeOf) (as := [.int x4]) (rest := [.int (b2i (tbL (sCo S2 c_3) x1))]) l_Mo_85 M_Mo_codeOf_ok M_Mo_codeOf_in M_Mo_codeOf_se (by decide +kernel) (r6 c1) rfl rfl rfl (Nat.le_of_ble_eq_true rfl) (Nat.le_of_ble_eq_true rfl) (s_Mo_codeOf (pr7 c1) (pr8 c1) (pr9 c1) <| show Ev G (d + 3) _ _ M_Mo_swap 68 [.ref 102, .int x1, .int x2, .int x3, .int x4] [.long (sCo S4 c_5), .int (b2i (tbL (sCo S2 c_3) x1))] h R from
            Ev.go (pc' := 69) (ls' := [.ref 102, .int x1, .int x2, .int x3, .int x4]) (st' := [.int x2, .long (sCo S4 c_5), .int (b2i (tbL (sCo S2 c_3) x1))]) [.iload_n 2] (by decide +kernel) rfl <|
            Ev.cS0 (M' := M_Mo_has) (as := [.long (sCo S4 c_5), .int x2]) (rest := [.int (b2i (tbL (sCo S2 c_3) x1))]) l_Mo_271 M_Mo_has_ok M_Mo_has_st (by decide +kernel) rfl rfl (Nat.le_of_ble_eq_true rfl) (Nat.le_of_ble_eq_true rfl) (s_Mo_has <| show Ev G (d + 3) _ _ M_Mo_swap 72 [.ref 102, .int x1, .int x2, .int x3, .int x4] [.int (b2i (tbL (sCo S4 c_5) x2)), .int (b2i (tbL (sCo S2 c_3) x1))] h R from
              Ev.br (i := .if_icmp .ne (6)) (P := (b2i (tbL (sCo S2 c_3) x1)) = (b2i (tbL (sCo S4 c_5) x2))) (t := 75) (f := 78) (r := []) (by decide +kernel) rfl (fun c2 =>
                Ev.go (pc' := 43) (ls' := [.ref 102, .int x1, .int x2, .int x3, .int (x4 + (1 : Int32))]) (st' := []) [.goto (29), .iinc 4 (1), .goto (-64)] (by decide +kernel) rfl <|
                (k1 c1 c2)
              ) (fun c2 =>
                Ev.go (pc' := 87) (ls' := [.ref 102, .int x1, .int x2, .int x3, .int x4]) (st' := [.int x4, .ref 102, .int ((10 : Int32) + x4), .ref 102]) [.aload_n 0, .bipush (10), .iload 4, .iadd, .aload_n 0, .iload 4] (by decide +kernel) rfl <|
                Ev.cV0 (M' := M_Mo_codeOf) (as := [.int x4]) (rest := [.int ((10 : Int32) + x4), .ref 102]) l_Mo_85 M_Mo_codeOf_ok M_Mo_codeOf_in M_Mo_codeOf_se (by decide +kernel) (r13 c1 c2) rfl rfl rfl (Nat.le_of_ble_eq_true rfl) (Nat.le_of_ble_eq_true rfl) (s_Mo_codeOf (pr10 c1 c2) (pr11 c1 c2) (pr12 c1 c2) <| show Ev G (d + 3) _ _ M_Mo_swap 90 [.ref 102, .int x1, .int x2, .int x3, .int x4] [.long (sCo S6 c_7), .int ((10 : Int32) + x4), .ref 102] h R from
                  Ev.go (pc' := 98) (ls' := [.ref 102, .int x1, .int x2, .int x3, .int x4]) (st' := [.long ((sCo S6 c_7) ^^^ (((1 : Int64) <<< (x1.toInt64 &&& 63)) ||| ((1 : Int64) <<< (x2.toInt64 &&& 63)))), .int ((10 : Int32) + x4), .ref 102]) [.lconst 1, .iload_n 1, .lshl, .lconst 1, .iload_n 2, .lshl, .lor, .lxor] (by decide +kernel) rfl <|
                  Ev.cV0 (M' := M_Mo_puts) (as := [.int ((10 : Int32) + x4), .long ((sCo S6 c_7) ^^^ (((1 : Int64) <<< (x1.toInt64 &&& 63)) ||| ((1 : Int64) <<< (x2.toInt64 &&& 63))))]) (rest := []) l_Mo_60 M_Mo_puts_ok M_Mo_puts_in M_Mo_puts_se (by decide +kernel) (r13 c1 c2) rfl rfl rfl (Nat.le_of_ble_eq_true rfl) (Nat.le_of_ble_eq_true rfl) (k2 c1 c2)
                )
              )
            )
          )
        )
      )
    ) (fun c1 =>
      Ev.go (pc' := 112) (ls' := [.ref 102, .int x1, .int x2, .int x3, .int x4]) (st' := [.int x3, .ref 102]) [.aload_n 0, .iload_n 3] (by decide +kernel) rfl <|
      Ev.cV0 (M' := M_Mo_gives_I) (as := [.int x3]) (rest := []) l_Mo_245 M_Mo_gives_I_ok M_Mo_gives_I_in M_Mo_gives_I_se (by decide +kernel) (r15 c1) rfl rfl rfl (Nat.le_of_ble_eq_true rfl) (Nat.le_of_ble_eq_true rfl) (s_Mo_gives_I (pr14 c1) <| show Ev G (d + 3) _ _ M_Mo_swap 115 [.ref 102, .int x1, .int x2, .int x3, .int x4] [.int x3] (hset h 102 (moC (stV v_8 0) z_9)) R from
        Ev.ret (r := (some (.int x3))) (Or.inl ⟨_, rfl, by decide +kernel, _, rfl, rfl⟩) (k3 c1)
      )
    )
  )
theorem b_Mo_swap_101 {G : ev_G} {d k n : Nat} {h : ev_H} {R : Option Value → ev_H → Prop} {x1 : Int32} {x2 : Int32} {x3 : Int32} {x4 : Int32}
  (k1 : Ev G (d + 3) k n M_Mo_swap 43 [.ref 102, .int x1, .int x2, .int (x3 + (1 : Int32)), .int (x4 + (1 : Int32))] [] h R)
  : Ev G (d + 3) k n M_Mo_swap 101 [.ref 102, .int x1, .int x2, .int x3, .int x4] [] h R :=
  Ev.go (pc' := 43) (ls' := [.ref 102, .int x1, .int x2, .int (x3 + (1 : Int32)), .int (x4 + (1 : Int32))]) (st' := []) [.iinc 3 (1), .iinc 4 (1), .goto (-64)] (by decide +kernel) rfl <|
  k1
theorem b_Mo_strike_0 {G : ev_G} {d k n : Nat} {h : ev_H} {R : Option Value → ev_H → Prop} {x1 : Int32} {S1 : AS} {v_2 : MG} {z_3 : MP}
  (pr1 : MS h S1)
  (pr2 : sOk S1)
  (r3 : ∃ fs, hat h 102 (oC 9 fs))
  (pr4 : (b2i (inR x1 (sN S1))) = (0 : Int32) → hat h 102 (moC v_2 z_3))
  (r5 : (b2i (inR x1 (sN S1))) = (0 : Int32) → ∃ fs, hat h 102 (oC 9 fs))
  (r6 : ¬ (b2i (inR x1 (sN S1))) = (0 : Int32) → ∃ fs, hat h 102 (oC 9 fs))
  (k1 : (b2i (inR x1 (sN S1))) = (0 : Int32) → R (some (.int (-1 : Int32))) (hset h 102 (moC (stV v_2 (2 : Int32)) z_3)))
  (k2 : ¬ (b2i (inR x1 (sN S1))) = (0 : Int32) → Ev G (d + 2) 0 0 M_Mo_acted 0 [.ref 102, .int (0 : Int32), ev_unk] [] h (fun r h1 => Ev G (d + 3) k n M_Mo_strike 19 [.ref 102, .int x1, ev_unk] (r.toList ++ []) h1 R))
  : Ev G (d + 3) k n M_Mo_strike 0 [.ref 102, .int x1, ev_unk] [] h R :=
  Ev.go (pc' := 2) (ls' := [.ref 102, .int x1, ev_unk]) (st' := [.int x1, .ref 102]) [.aload_n 0, .iload_n 1] (by decide +kernel) rfl <|
  Ev.cV0 (M' := M_Mo_isCode) (as := [.int x1]) (rest := []) l_Mo_258 M_Mo_isCode_ok M_Mo_isCode_in M_Mo_isCode_se (by decide +kernel) r3 rfl rfl rfl (Nat.le_of_ble_eq_true rfl) (Nat.le_of_ble_eq_true rfl) (s_Mo_isCode pr1 pr2 <| show Ev G (d + 3) _ _ M_Mo_strike 5 [.ref 102, .int x1, ev_unk] [.int (b2i (inR x1 (sN S1)))] h R from
    Ev.br (i := .ifCond .ne (9)) (P := (b2i (inR x1 (sN S1))) = (0 : Int32)) (t := 8) (f := 14) (r := []) (by decide +kernel) rfl (fun c1 =>
      Ev.go (pc' := 10) (ls' := [.ref 102, .int x1, ev_unk]) (st' := [.int (2 : Int32), .ref 102]) [.aload_n 0, .iconst 2] (by decide +kernel) rfl <|
      Ev.cV0 (M' := M_Mo_refuse) (as := [.int (2 : Int32)]) (rest := []) l_Mo_226 M_Mo_refuse_ok M_Mo_refuse_in M_Mo_refuse_se (by decide +kernel) (r5 c1) rfl rfl rfl (Nat.le_of_ble_eq_true rfl) (Nat.le_of_ble_eq_true rfl) (s_Mo_refuse (pr4 c1) <| show Ev G (d + 3) _ _ M_Mo_strike 13 [.ref 102, .int x1, ev_unk] [.int (-1 : Int32)] (hset h 102 (moC (stV v_2 (2 : Int32)) z_3)) R from
        Ev.ret (r := (some (.int (-1 : Int32)))) (Or.inl ⟨_, rfl, by decide +kernel, _, rfl, rfl⟩) (k1 c1)
      )
    ) (fun c1 =>
      Ev.go (pc' := 16) (ls' := [.ref 102, .int x1, ev_unk]) (st' := [.int (0 : Int32), .ref 102]) [.aload_n 0, .iconst 0] (by decide +kernel) rfl <|
      Ev.cV0 (M' := M_Mo_acted) (as := [.int (0 : Int32)]) (rest := []) l_Mo_242 M_Mo_acted_ok M_Mo_acted_in M_Mo_acted_se (by decide +kernel) (r6 c1) rfl rfl rfl (Nat.le_of_ble_eq_true rfl) (Nat.le_of_ble_eq_true rfl) (k2 c1)
    )
  )
theorem b_Mo_strike_19 {G : ev_G} {d k n : Nat} {h : ev_H} {R : Option Value → ev_H → Prop} {x1 : Int32} {f_status_1 : Int32} {f_acts_2 : Int32} {f_marks_3 : Int32} {f_taped_4 : Int32} {f_size_5 : Int32} {f_token_6 : Int32} {f_begin_7 : Int32} {f_end_8 : Int32} {f_faults_9 : Int32} {f_faultPlace_10 : Int32} {f_faultKind_11 : Int32} {f_deep_12 : Int32} {f_value_13 : Int64} {f_broadMany_14 : Int32} {g15 : Nat → Int64}
  (a1 : hat h 102 (oC 9 [.ref 103, .int f_status_1, .int f_acts_2, .int f_marks_3, .ref 104, .ref 105, .ref 106, .int f_taped_4, .int f_size_5, .int f_token_6, .int f_begin_7, .int f_end_8, .int f_faults_9, .int f_faultPlace_10, .int f_faultKind_11, .int f_deep_12, .long f_value_13, .ref 107, .ref 108, .ref 109, .ref 116, .int f_broadMany_14, .ref 124, .ref 125]))
  (a2 : hat h 103 (aL 9758 g15))
  (k1 : Ev G (d + 3) k n M_Mo_strike 31 [.ref 102, .int x1, .int x1] [] (hset h 103 (aL 9758 (vp_updL g15 2 ((g15 2) - (1 : Int64))))) R)
  : Ev G (d + 3) k n M_Mo_strike 19 [.ref 102, .int x1, ev_unk] [] h R :=
  Ev.go (pc' := 20) (ls' := [.ref 102, .int x1, ev_unk]) (st' := [.ref 102]) [.aload_n 0] (by decide +kernel) rfl <|
  Ev.getf f_Mo_7 (by decide +kernel) a1 rfl <|
  Ev.go (pc' := 25) (ls' := [.ref 102, .int x1, ev_unk]) (st' := [.int (2 : Int32), .ref 103, .int (2 : Int32), .ref 103]) [.iconst 2, .dup2] (by decide +kernel) rfl <|
  Ev.lald (j := 2) (by decide +kernel) a2 ⟨rfl, by decide, by decide⟩ <|
  Ev.go (pc' := 28) (ls' := [.ref 102, .int x1, ev_unk]) (st' := [.long ((g15 2) - (1 : Int64)), .int (2 : Int32), .ref 103]) [.lconst 1, .lsub] (by decide +kernel) rfl <|
  Ev.last (j := 2) (by decide +kernel) a2 ⟨rfl, by decide, by decide⟩ <| show Ev G (d + 3) _ _ M_Mo_strike 29 [.ref 102, .int x1, ev_unk] [] (hset h 103 (aL 9758 (vp_updL g15 2 ((g15 2) - (1 : Int64))))) R from
  Ev.go (pc' := 31) (ls' := [.ref 102, .int x1, .int x1]) (st' := []) [.iload_n 1, .istore_n 2] (by decide +kernel) rfl <|
  k1
theorem b_Mo_strike_31 {G : ev_G} {d k n : Nat} {h : ev_H} {R : Option Value → ev_H → Prop} {x1 : Int32} {x2 : Int32} {S1 : AS} {v_2 : MG} {z_3 : MP} {g_4 : Nat → Int64} {j_5 : Nat} {S6 : AS} {v_7 : MG} {z_8 : MP}
  (pr1 : MS h S1)
  (r2 : ∃ fs, hat h 102 (oC 9 fs))
  (pr3 : x2 < (nI (sN S1)) → hat h 102 (moC v_2 z_3))
  (pr4 : x2 < (nI (sN S1)) → hat h 103 (aL 9758 g_4))
  (pr5 : x2 < (nI (sN S1)) → ev_ix (((10 : Int32) + x2) + (1 : Int32)) j_5 9758)
  (r6 : x2 < (nI (sN S1)) → ∃ fs, hat h 102 (oC 9 fs))
  (pr7 : ¬ x2 < (nI (sN S1)) → MS h S6)
  (r8 : ¬ x2 < (nI (sN S1)) → ∃ fs, hat h 102 (oC 9 fs))
  (pr9 : ¬ x2 < (nI (sN S1)) → hat h 102 (moC v_7 z_8))
  (k1 : x2 < (nI (sN S1)) → Ev G (d + 2) 0 0 M_Mo_puts 0 [.ref 102, .int ((10 : Int32) + x2), .long (g_4 j_5), ev_unk] [] h (fun r h1 => Ev G (d + 3) k n M_Mo_strike 57 [.ref 102, .int x1, .int x2] (r.toList ++ []) h1 R))
  (k2 : ¬ x2 < (nI (sN S1)) → R (some (.int (nI (sN S6)))) (hset h 102 (moC (stV v_7 0) z_8)))
  : Ev G (d + 3) k n M_Mo_strike 31 [.ref 102, .int x1, .int x2] [] h R :=
  Ev.go (pc' := 33) (ls' := [.ref 102, .int x1, .int x2]) (st' := [.ref 102, .int x2]) [.iload_n 2, .aload_n 0] (by decide +kernel) rfl <|
  Ev.cV0 (M' := M_Mo_many_0) (as := []) (rest := [.int x2]) l_Mo_71 M_Mo_many_0_ok M_Mo_many_0_in M_Mo_many_0_se (by decide +kernel) r2 rfl rfl rfl (Nat.le_of_ble_eq_true rfl) (Nat.le_of_ble_eq_true rfl) (s_Mo_many_0 pr1 <| show Ev G (d + 3) _ _ M_Mo_strike 36 [.ref 102, .int x1, .int x2] [.int (nI (sN S1)), .int x2] h R from
    Ev.br (i := .if_icmp .ge (45)) (P := x2 < (nI (sN S1))) (t := 39) (f := 81) (r := []) (by decide +kernel) rfl (fun c1 =>
      Ev.go (pc' := 51) (ls' := [.ref 102, .int x1, .int x2]) (st' := [.int (((10 : Int32) + x2) + (1 : Int32)), .ref 102, .int ((10 : Int32) + x2), .ref 102]) [.aload_n 0, .bipush (10), .iload_n 2, .iadd, .aload_n 0, .bipush (10), .iload_n 2, .iadd, .iconst 1, .iadd] (by decide +kernel) rfl <|
      Ev.cV0 (M' := M_Mo_of) (as := [.int (((10 : Int32) + x2) + (1 : Int32))]) (rest := [.int ((10 : Int32) + x2), .ref 102]) l_Mo_64 M_Mo_of_ok M_Mo_of_in M_Mo_of_se (by decide +kernel) (r6 c1) rfl rfl rfl (Nat.le_of_ble_eq_true rfl) (Nat.le_of_ble_eq_true rfl) (s_Mo_of (pr3 c1) (pr4 c1) (pr5 c1) <| show Ev G (d + 3) _ _ M_Mo_strike 54 [.ref 102, .int x1, .int x2] [.long (g_4 j_5), .int ((10 : Int32) + x2), .ref 102] h R from
        Ev.cV0 (M' := M_Mo_puts) (as := [.int ((10 : Int32) + x2), .long (g_4 j_5)]) (rest := []) l_Mo_60 M_Mo_puts_ok M_Mo_puts_in M_Mo_puts_se (by decide +kernel) (r6 c1) rfl rfl rfl (Nat.le_of_ble_eq_true rfl) (Nat.le_of_ble_eq_true rfl) (k1 c1)
      )
    ) (fun c1 =>
      Ev.go (pc' := 83) (ls' := [.ref 102, .int x1, .int x2]) (st' := [.ref 102, .ref 102]) [.aload_n 0, .aload_n 0] (by decide +kernel) rfl <|
      Ev.cV0 (M' := M_Mo_many_0) (as := []) (rest := [.ref 102]) l_Mo_71 M_Mo_many_0_ok M_Mo_many_0_in M_Mo_many_0_se (by decide +kernel) (r8 c1) rfl rfl rfl (Nat.le_of_ble_eq_true rfl) (Nat.le_of_ble_eq_true rfl) (s_Mo_many_0 (pr7 c1) <| show Ev G (d + 3) _ _ M_Mo_strike 86 [.ref 102, .int x1, .int x2] [.int (nI (sN S6)), .ref 102] h R from
        Ev.cV0 (M' := M_Mo_gives_I) (as := [.int (nI (sN S6))]) (rest := []) l_Mo_245 M_Mo_gives_I_ok M_Mo_gives_I_in M_Mo_gives_I_se (by decide +kernel) (r8 c1) rfl rfl rfl (Nat.le_of_ble_eq_true rfl) (Nat.le_of_ble_eq_true rfl) (s_Mo_gives_I (pr9 c1) <| show Ev G (d + 3) _ _ M_Mo_strike 89 [.ref 102, .int x1, .int x2] [.int (nI (sN S6))] (hset h 102 (moC (stV v_7 0) z_8)) R from
          Ev.ret (r := (some (.int (nI (sN S6))))) (Or.inl ⟨_, rfl, by decide +kernel, _, rfl, rfl⟩) (k2 c1)
        )
      )
    )
  )
theorem b_Mo_strike_57 {G : ev_G} {d k n : Nat} {h : ev_H} {R : Option Value → ev_H → Prop} {x1 : Int32} {x2 : Int32} {v_1 : MG} {z_2 : MP} {g_3 : Nat → Int64} {j_4 : Nat}
  (pr1 : hat h 102 (moC v_1 z_2))
  (pr2 : hat h 103 (aL 9758 g_3))
  (pr3 : ev_ix (((42 : Int32) + x2) + (1 : Int32)) j_4 9758)
  (r4 : ∃ fs, hat h 102 (oC 9 fs))
  (k1 : Ev G (d + 2) 0 0 M_Mo_puts 0 [.ref 102, .int ((42 : Int32) + x2), .long (g_3 j_4), ev_unk] [] h (fun r h1 => Ev G (d + 3) k n M_Mo_strike 75 [.ref 102, .int x1, .int x2] (r.toList ++ []) h1 R))
  : Ev G (d + 3) k n M_Mo_strike 57 [.ref 102, .int x1, .int x2] [] h R :=
  Ev.go (pc' := 69) (ls' := [.ref 102, .int x1, .int x2]) (st' := [.int (((42 : Int32) + x2) + (1 : Int32)), .ref 102, .int ((42 : Int32) + x2), .ref 102]) [.aload_n 0, .bipush (42), .iload_n 2, .iadd, .aload_n 0, .bipush (42), .iload_n 2, .iadd, .iconst 1, .iadd] (by decide +kernel) rfl <|
  Ev.cV0 (M' := M_Mo_of) (as := [.int (((42 : Int32) + x2) + (1 : Int32))]) (rest := [.int ((42 : Int32) + x2), .ref 102]) l_Mo_64 M_Mo_of_ok M_Mo_of_in M_Mo_of_se (by decide +kernel) r4 rfl rfl rfl (Nat.le_of_ble_eq_true rfl) (Nat.le_of_ble_eq_true rfl) (s_Mo_of pr1 pr2 pr3 <| show Ev G (d + 3) _ _ M_Mo_strike 72 [.ref 102, .int x1, .int x2] [.long (g_3 j_4), .int ((42 : Int32) + x2), .ref 102] h R from
    Ev.cV0 (M' := M_Mo_puts) (as := [.int ((42 : Int32) + x2), .long (g_3 j_4)]) (rest := []) l_Mo_60 M_Mo_puts_ok M_Mo_puts_in M_Mo_puts_se (by decide +kernel) r4 rfl rfl rfl (Nat.le_of_ble_eq_true rfl) (Nat.le_of_ble_eq_true rfl) k1
  )
theorem b_Mo_strike_75 {G : ev_G} {d k n : Nat} {h : ev_H} {R : Option Value → ev_H → Prop} {x1 : Int32} {x2 : Int32}
  (k1 : Ev G (d + 3) k n M_Mo_strike 31 [.ref 102, .int x1, .int (x2 + (1 : Int32))] [] h R)
  : Ev G (d + 3) k n M_Mo_strike 75 [.ref 102, .int x1, .int x2] [] h R :=
  Ev.go (pc' := 31) (ls' := [.ref 102, .int x1, .int (x2 + (1 : Int32))]) (st' := []) [.iinc 2 (1), .goto (-47)] (by decide +kernel) rfl <|
  k1
theorem b_Mo_split_0 {G : ev_G} {d k n : Nat} {h : ev_H} {R : Option Value → ev_H → Prop} {x1 : Int32} {x2 : Int32} {v_1 : MG} {z_2 : MP} {S3 : AS} {v_4 : MG} {z_5 : MP} {S6 : AS} {p_7 : Nat} {S8 : AS} {v_9 : MG} {z_10 : MP} {v_11 : MG} {z_12 : MP}
  (pr1 : x2 < (1 : Int32) → hat h 102 (moC v_1 z_2))
  (r2 : x2 < (1 : Int32) → ∃ fs, hat h 102 (oC 9 fs))
  (pr3 : ¬ x2 < (1 : Int32) → MS h S3)
  (pr4 : ¬ x2 < (1 : Int32) → sOk S3)
  (r5 : ¬ x2 < (1 : Int32) → ∃ fs, hat h 102 (oC 9 fs))
  (pr6 : ¬ x2 < (1 : Int32) → (b2i (inR x1 (sP S3))) = (0 : Int32) → hat h 102 (moC v_4 z_5))
  (r7 : ¬ x2 < (1 : Int32) → (b2i (inR x1 (sP S3))) = (0 : Int32) → ∃ fs, hat h 102 (oC 9 fs))
  (pr8 : ¬ x2 < (1 : Int32) → ¬ (b2i (inR x1 (sP S3))) = (0 : Int32) → MS h S6)
  (pr9 : ¬ x2 < (1 : Int32) → ¬ (b2i (inR x1 (sP S3))) = (0 : Int32) → sOk S6)
  (pr10 : ¬ x2 < (1 : Int32) → ¬ (b2i (inR x1 (sP S3))) = (0 : Int32) → x1 = nI p_7 ∧ p_7 < sP S6)
  (r11 : ¬ x2 < (1 : Int32) → ¬ (b2i (inR x1 (sP S3))) = (0 : Int32) → ∃ fs, hat h 102 (oC 9 fs))
  (pr12 : ¬ x2 < (1 : Int32) → ¬ (b2i (inR x1 (sP S3))) = (0 : Int32) → x2 < (nI (sBr S6 p_7)) → MS h S8)
  (r13 : ¬ x2 < (1 : Int32) → ¬ (b2i (inR x1 (sP S3))) = (0 : Int32) → x2 < (nI (sBr S6 p_7)) → ∃ fs, hat h 102 (oC 9 fs))
  (pr14 : ¬ x2 < (1 : Int32) → ¬ (b2i (inR x1 (sP S3))) = (0 : Int32) → x2 < (nI (sBr S6 p_7)) → (nI (sP S8)) = (6 : Int32) → hat h 102 (moC v_9 z_10))
  (r15 : ¬ x2 < (1 : Int32) → ¬ (b2i (inR x1 (sP S3))) = (0 : Int32) → x2 < (nI (sBr S6 p_7)) → (nI (sP S8)) = (6 : Int32) → ∃ fs, hat h 102 (oC 9 fs))
  (r16 : ¬ x2 < (1 : Int32) → ¬ (b2i (inR x1 (sP S3))) = (0 : Int32) → x2 < (nI (sBr S6 p_7)) → ¬ (nI (sP S8)) = (6 : Int32) → ∃ fs, hat h 102 (oC 9 fs))
  (pr17 : ¬ x2 < (1 : Int32) → ¬ (b2i (inR x1 (sP S3))) = (0 : Int32) → ¬ x2 < (nI (sBr S6 p_7)) → hat h 102 (moC v_11 z_12))
  (r18 : ¬ x2 < (1 : Int32) → ¬ (b2i (inR x1 (sP S3))) = (0 : Int32) → ¬ x2 < (nI (sBr S6 p_7)) → ∃ fs, hat h 102 (oC 9 fs))
  (k1 : x2 < (1 : Int32) → R (some (.int (-1 : Int32))) (hset h 102 (moC (stV v_1 (1 : Int32)) z_2)))
  (k2 : ¬ x2 < (1 : Int32) → (b2i (inR x1 (sP S3))) = (0 : Int32) → R (some (.int (-1 : Int32))) (hset h 102 (moC (stV v_4 (2 : Int32)) z_5)))
  (k3 : ¬ x2 < (1 : Int32) → ¬ (b2i (inR x1 (sP S3))) = (0 : Int32) → x2 < (nI (sBr S6 p_7)) → (nI (sP S8)) = (6 : Int32) → R (some (.int (-1 : Int32))) (hset h 102 (moC (stV v_9 (3 : Int32)) z_10)))
  (k4 : ¬ x2 < (1 : Int32) → ¬ (b2i (inR x1 (sP S3))) = (0 : Int32) → x2 < (nI (sBr S6 p_7)) → ¬ (nI (sP S8)) = (6 : Int32) → Ev G (d + 2) 0 0 M_Mo_acted 0 [.ref 102, .int (0 : Int32), ev_unk] [] h (fun r h1 => Ev G (d + 3) k n M_Mo_split 60 [.ref 102, .int x1, .int x2, ev_unk] (r.toList ++ []) h1 R))
  (k5 : ¬ x2 < (1 : Int32) → ¬ (b2i (inR x1 (sP S3))) = (0 : Int32) → ¬ x2 < (nI (sBr S6 p_7)) → R (some (.int (-1 : Int32))) (hset h 102 (moC (stV v_11 (1 : Int32)) z_12)))
  : Ev G (d + 3) k n M_Mo_split 0 [.ref 102, .int x1, .int x2, ev_unk] [] h R :=
  Ev.go (pc' := 2) (ls' := [.ref 102, .int x1, .int x2, ev_unk]) (st' := [.int (1 : Int32), .int x2]) [.iload_n 2, .iconst 1] (by decide +kernel) rfl <|
  Ev.br (i := .if_icmp .ge (9)) (P := x2 < (1 : Int32)) (t := 5) (f := 11) (r := []) (by decide +kernel) rfl (fun c1 =>
    Ev.go (pc' := 7) (ls' := [.ref 102, .int x1, .int x2, ev_unk]) (st' := [.int (1 : Int32), .ref 102]) [.aload_n 0, .iconst 1] (by decide +kernel) rfl <|
    Ev.cV0 (M' := M_Mo_refuse) (as := [.int (1 : Int32)]) (rest := []) l_Mo_226 M_Mo_refuse_ok M_Mo_refuse_in M_Mo_refuse_se (by decide +kernel) (r2 c1) rfl rfl rfl (Nat.le_of_ble_eq_true rfl) (Nat.le_of_ble_eq_true rfl) (s_Mo_refuse (pr1 c1) <| show Ev G (d + 3) _ _ M_Mo_split 10 [.ref 102, .int x1, .int x2, ev_unk] [.int (-1 : Int32)] (hset h 102 (moC (stV v_1 (1 : Int32)) z_2)) R from
      Ev.ret (r := (some (.int (-1 : Int32)))) (Or.inl ⟨_, rfl, by decide +kernel, _, rfl, rfl⟩) (k1 c1)
    )
  ) (fun c1 =>
    Ev.go (pc' := 13) (ls' := [.ref 102, .int x1, .int x2, ev_unk]) (st' := [.int x1, .ref 102]) [.aload_n 0, .iload_n 1] (by decide +kernel) rfl <|
    Ev.cV0 (M' := M_Mo_isPart) (as := [.int x1]) (rest := []) l_Mo_264 M_Mo_isPart_ok M_Mo_isPart_in M_Mo_isPart_se (by decide +kernel) (r5 c1) rfl rfl rfl (Nat.le_of_ble_eq_true rfl) (Nat.le_of_ble_eq_true rfl) (s_Mo_isPart (pr3 c1) (pr4 c1) <| show Ev G (d + 3) _ _ M_Mo_split 16 [.ref 102, .int x1, .int x2, ev_unk] [.int (b2i (inR x1 (sP S3)))] h R from
      Ev.br (i := .ifCond .ne (9)) (P := (b2i (inR x1 (sP S3))) = (0 : Int32)) (t := 19) (f := 25) (r := []) (by decide +kernel) rfl (fun c2 =>
        Ev.go (pc' := 21) (ls' := [.ref 102, .int x1, .int x2, ev_unk]) (st' := [.int (2 : Int32), .ref 102]) [.aload_n 0, .iconst 2] (by decide +kernel) rfl <|
        Ev.cV0 (M' := M_Mo_refuse) (as := [.int (2 : Int32)]) (rest := []) l_Mo_226 M_Mo_refuse_ok M_Mo_refuse_in M_Mo_refuse_se (by decide +kernel) (r7 c1 c2) rfl rfl rfl (Nat.le_of_ble_eq_true rfl) (Nat.le_of_ble_eq_true rfl) (s_Mo_refuse (pr6 c1 c2) <| show Ev G (d + 3) _ _ M_Mo_split 24 [.ref 102, .int x1, .int x2, ev_unk] [.int (-1 : Int32)] (hset h 102 (moC (stV v_4 (2 : Int32)) z_5)) R from
          Ev.ret (r := (some (.int (-1 : Int32)))) (Or.inl ⟨_, rfl, by decide +kernel, _, rfl, rfl⟩) (k2 c1 c2)
        )
      ) (fun c2 =>
        Ev.go (pc' := 28) (ls' := [.ref 102, .int x1, .int x2, ev_unk]) (st' := [.int x1, .ref 102, .int x2]) [.iload_n 2, .aload_n 0, .iload_n 1] (by decide +kernel) rfl <|
        Ev.cV0 (M' := M_Mo_breadthOf) (as := [.int x1]) (rest := [.int x2]) l_Mo_81 M_Mo_breadthOf_ok M_Mo_breadthOf_in M_Mo_breadthOf_se (by decide +kernel) (r11 c1 c2) rfl rfl rfl (Nat.le_of_ble_eq_true rfl) (Nat.le_of_ble_eq_true rfl) (s_Mo_breadthOf (pr8 c1 c2) (pr9 c1 c2) (pr10 c1 c2) <| show Ev G (d + 3) _ _ M_Mo_split 31 [.ref 102, .int x1, .int x2, ev_unk] [.int (nI (sBr S6 p_7)), .int x2] h R from
          Ev.br (i := .if_icmp .lt (9)) (P := x2 < (nI (sBr S6 p_7))) (t := 40) (f := 34) (r := []) (by decide +kernel) rfl (fun c3 =>
            Ev.go (pc' := 41) (ls' := [.ref 102, .int x1, .int x2, ev_unk]) (st' := [.ref 102]) [.aload_n 0] (by decide +kernel) rfl <|
            Ev.cV0 (M' := M_Mo_parts) (as := []) (rest := []) l_Mo_75 M_Mo_parts_ok M_Mo_parts_in M_Mo_parts_se (by decide +kernel) (r13 c1 c2 c3) rfl rfl rfl (Nat.le_of_ble_eq_true rfl) (Nat.le_of_ble_eq_true rfl) (s_Mo_parts (pr12 c1 c2 c3) <| show Ev G (d + 3) _ _ M_Mo_split 44 [.ref 102, .int x1, .int x2, ev_unk] [.int (nI (sP S8))] h R from
              Ev.go (pc' := 46) (ls' := [.ref 102, .int x1, .int x2, ev_unk]) (st' := [.int (6 : Int32), .int (nI (sP S8))]) [.bipush (6)] (by decide +kernel) rfl <|
              Ev.br (i := .if_icmp .ne (9)) (P := (nI (sP S8)) = (6 : Int32)) (t := 49) (f := 55) (r := []) (by decide +kernel) rfl (fun c4 =>
                Ev.go (pc' := 51) (ls' := [.ref 102, .int x1, .int x2, ev_unk]) (st' := [.int (3 : Int32), .ref 102]) [.aload_n 0, .iconst 3] (by decide +kernel) rfl <|
                Ev.cV0 (M' := M_Mo_refuse) (as := [.int (3 : Int32)]) (rest := []) l_Mo_226 M_Mo_refuse_ok M_Mo_refuse_in M_Mo_refuse_se (by decide +kernel) (r15 c1 c2 c3 c4) rfl rfl rfl (Nat.le_of_ble_eq_true rfl) (Nat.le_of_ble_eq_true rfl) (s_Mo_refuse (pr14 c1 c2 c3 c4) <| show Ev G (d + 3) _ _ M_Mo_split 54 [.ref 102, .int x1, .int x2, ev_unk] [.int (-1 : Int32)] (hset h 102 (moC (stV v_9 (3 : Int32)) z_10)) R from
                  Ev.ret (r := (some (.int (-1 : Int32)))) (Or.inl ⟨_, rfl, by decide +kernel, _, rfl, rfl⟩) (k3 c1 c2 c3 c4)
                )
              ) (fun c4 =>
                Ev.go (pc' := 57) (ls' := [.ref 102, .int x1, .int x2, ev_unk]) (st' := [.int (0 : Int32), .ref 102]) [.aload_n 0, .iconst 0] (by decide +kernel) rfl <|
                Ev.cV0 (M' := M_Mo_acted) (as := [.int (0 : Int32)]) (rest := []) l_Mo_242 M_Mo_acted_ok M_Mo_acted_in M_Mo_acted_se (by decide +kernel) (r16 c1 c2 c3 c4) rfl rfl rfl (Nat.le_of_ble_eq_true rfl) (Nat.le_of_ble_eq_true rfl) (k4 c1 c2 c3 c4)
              )
            )
          ) (fun c3 =>
            Ev.go (pc' := 36) (ls' := [.ref 102, .int x1, .int x2, ev_unk]) (st' := [.int (1 : Int32), .ref 102]) [.aload_n 0, .iconst 1] (by decide +kernel) rfl <|
            Ev.cV0 (M' := M_Mo_refuse) (as := [.int (1 : Int32)]) (rest := []) l_Mo_226 M_Mo_refuse_ok M_Mo_refuse_in M_Mo_refuse_se (by decide +kernel) (r18 c1 c2 c3) rfl rfl rfl (Nat.le_of_ble_eq_true rfl) (Nat.le_of_ble_eq_true rfl) (s_Mo_refuse (pr17 c1 c2 c3) <| show Ev G (d + 3) _ _ M_Mo_split 39 [.ref 102, .int x1, .int x2, ev_unk] [.int (-1 : Int32)] (hset h 102 (moC (stV v_11 (1 : Int32)) z_12)) R from
              Ev.ret (r := (some (.int (-1 : Int32)))) (Or.inl ⟨_, rfl, by decide +kernel, _, rfl, rfl⟩) (k5 c1 c2 c3)
            )
          )
        )
      )
    )
  )
theorem b_Mo_split_60 {G : ev_G} {d k n : Nat} {h : ev_H} {R : Option Value → ev_H → Prop} {x1 : Int32} {x2 : Int32} {S1 : AS}
  (pr1 : MS h S1)
  (r2 : ∃ fs, hat h 102 (oC 9 fs))
  (k1 : Ev G (d + 3) k n M_Mo_split 65 [.ref 102, .int x1, .int x2, .int (nI (sP S1))] [] h R)
  : Ev G (d + 3) k n M_Mo_split 60 [.ref 102, .int x1, .int x2, ev_unk] [] h R :=
  Ev.go (pc' := 61) (ls' := [.ref 102, .int x1, .int x2, ev_unk]) (st' := [.ref 102]) [.aload_n 0] (by decide +kernel) rfl <|
  Ev.cV0 (M' := M_Mo_parts) (as := []) (rest := []) l_Mo_75 M_Mo_parts_ok M_Mo_parts_in M_Mo_parts_se (by decide +kernel) r2 rfl rfl rfl (Nat.le_of_ble_eq_true rfl) (Nat.le_of_ble_eq_true rfl) (s_Mo_parts pr1 <| show Ev G (d + 3) _ _ M_Mo_split 64 [.ref 102, .int x1, .int x2, ev_unk] [.int (nI (sP S1))] h R from
    Ev.go (pc' := 65) (ls' := [.ref 102, .int x1, .int x2, .int (nI (sP S1))]) (st' := []) [.istore_n 3] (by decide +kernel) rfl <|
    k1
  )
theorem b_Mo_split_65 {G : ev_G} {d k n : Nat} {h : ev_H} {R : Option Value → ev_H → Prop} {x1 : Int32} {x2 : Int32} {x3 : Int32} {v_1 : MG} {z_2 : MP} {g_3 : Nat → Int64} {j_4 : Nat}
  (pr1 : x1 < x3 → hat h 102 (moC v_1 z_2))
  (pr2 : x1 < x3 → hat h 103 (aL 9758 g_3))
  (pr3 : x1 < x3 → ev_ix (((4 : Int32) + x3) - (1 : Int32)) j_4 9758)
  (r4 : x1 < x3 → ∃ fs, hat h 102 (oC 9 fs))
  (r5 : ¬ x1 < x3 → ∃ fs, hat h 102 (oC 9 fs))
  (k1 : x1 < x3 → Ev G (d + 2) 0 0 M_Mo_puts 0 [.ref 102, .int ((4 : Int32) + x3), .long (g_3 j_4), ev_unk] [] h (fun r h1 => Ev G (d + 3) k n M_Mo_split 86 [.ref 102, .int x1, .int x2, .int x3] (r.toList ++ []) h1 R))
  (k2 : ¬ x1 < x3 → Ev G (d + 2) 0 0 M_Mo_puts 0 [.ref 102, .int ((4 : Int32) + x1), .long x2.toInt64, ev_unk] [] h (fun r h1 => Ev G (d + 3) k n M_Mo_split 101 [.ref 102, .int x1, .int x2, .int x3] (r.toList ++ []) h1 R))
  : Ev G (d + 3) k n M_Mo_split 65 [.ref 102, .int x1, .int x2, .int x3] [] h R :=
  Ev.go (pc' := 67) (ls' := [.ref 102, .int x1, .int x2, .int x3]) (st' := [.int x1, .int x3]) [.iload_n 3, .iload_n 1] (by decide +kernel) rfl <|
  Ev.br (i := .if_icmp .le (25)) (P := x1 < x3) (t := 70) (f := 92) (r := []) (by decide +kernel) rfl (fun c1 =>
    Ev.go (pc' := 80) (ls' := [.ref 102, .int x1, .int x2, .int x3]) (st' := [.int (((4 : Int32) + x3) - (1 : Int32)), .ref 102, .int ((4 : Int32) + x3), .ref 102]) [.aload_n 0, .iconst 4, .iload_n 3, .iadd, .aload_n 0, .iconst 4, .iload_n 3, .iadd, .iconst 1, .isub] (by decide +kernel) rfl <|
    Ev.cV0 (M' := M_Mo_of) (as := [.int (((4 : Int32) + x3) - (1 : Int32))]) (rest := [.int ((4 : Int32) + x3), .ref 102]) l_Mo_64 M_Mo_of_ok M_Mo_of_in M_Mo_of_se (by decide +kernel) (r4 c1) rfl rfl rfl (Nat.le_of_ble_eq_true rfl) (Nat.le_of_ble_eq_true rfl) (s_Mo_of (pr1 c1) (pr2 c1) (pr3 c1) <| show Ev G (d + 3) _ _ M_Mo_split 83 [.ref 102, .int x1, .int x2, .int x3] [.long (g_3 j_4), .int ((4 : Int32) + x3), .ref 102] h R from
      Ev.cV0 (M' := M_Mo_puts) (as := [.int ((4 : Int32) + x3), .long (g_3 j_4)]) (rest := []) l_Mo_60 M_Mo_puts_ok M_Mo_puts_in M_Mo_puts_se (by decide +kernel) (r4 c1) rfl rfl rfl (Nat.le_of_ble_eq_true rfl) (Nat.le_of_ble_eq_true rfl) (k1 c1)
    )
  ) (fun c1 =>
    Ev.go (pc' := 98) (ls' := [.ref 102, .int x1, .int x2, .int x3]) (st' := [.long x2.toInt64, .int ((4 : Int32) + x1), .ref 102]) [.aload_n 0, .iconst 4, .iload_n 1, .iadd, .iload_n 2, .i2l] (by decide +kernel) rfl <|
    Ev.cV0 (M' := M_Mo_puts) (as := [.int ((4 : Int32) + x1), .long x2.toInt64]) (rest := []) l_Mo_60 M_Mo_puts_ok M_Mo_puts_in M_Mo_puts_se (by decide +kernel) (r5 c1) rfl rfl rfl (Nat.le_of_ble_eq_true rfl) (Nat.le_of_ble_eq_true rfl) (k2 c1)
  )
theorem b_Mo_split_86 {G : ev_G} {d k n : Nat} {h : ev_H} {R : Option Value → ev_H → Prop} {x1 : Int32} {x2 : Int32} {x3 : Int32}
  (k1 : Ev G (d + 3) k n M_Mo_split 65 [.ref 102, .int x1, .int x2, .int (x3 + (-1 : Int32))] [] h R)
  : Ev G (d + 3) k n M_Mo_split 86 [.ref 102, .int x1, .int x2, .int x3] [] h R :=
  Ev.go (pc' := 65) (ls' := [.ref 102, .int x1, .int x2, .int (x3 + (-1 : Int32))]) (st' := []) [.iinc 3 (-1), .goto (-24)] (by decide +kernel) rfl <|
  k1
theorem b_Mo_split_101 {G : ev_G} {d k n : Nat} {h : ev_H} {R : Option Value → ev_H → Prop} {x1 : Int32} {x2 : Int32} {x3 : Int32} {v_1 : MG} {z_2 : MP} {g_3 : Nat → Int64} {j_4 : Nat}
  (pr1 : hat h 102 (moC v_1 z_2))
  (pr2 : hat h 103 (aL 9758 g_3))
  (pr3 : ev_ix (((4 : Int32) + x1) + (1 : Int32)) j_4 9758)
  (r4 : ∃ fs, hat h 102 (oC 9 fs))
  (k1 : Ev G (d + 2) 0 0 M_Mo_puts 0 [.ref 102, .int (((4 : Int32) + x1) + (1 : Int32)), .long ((g_3 j_4) - x2.toInt64), ev_unk] [] h (fun r h1 => Ev G (d + 3) k n M_Mo_split 122 [.ref 102, .int x1, .int x2, .int x3] (r.toList ++ []) h1 R))
  : Ev G (d + 3) k n M_Mo_split 101 [.ref 102, .int x1, .int x2, .int x3] [] h R :=
  Ev.go (pc' := 113) (ls' := [.ref 102, .int x1, .int x2, .int x3]) (st' := [.int (((4 : Int32) + x1) + (1 : Int32)), .ref 102, .int (((4 : Int32) + x1) + (1 : Int32)), .ref 102]) [.aload_n 0, .iconst 4, .iload_n 1, .iadd, .iconst 1, .iadd, .aload_n 0, .iconst 4, .iload_n 1, .iadd, .iconst 1, .iadd] (by decide +kernel) rfl <|
  Ev.cV0 (M' := M_Mo_of) (as := [.int (((4 : Int32) + x1) + (1 : Int32))]) (rest := [.int (((4 : Int32) + x1) + (1 : Int32)), .ref 102]) l_Mo_64 M_Mo_of_ok M_Mo_of_in M_Mo_of_se (by decide +kernel) r4 rfl rfl rfl (Nat.le_of_ble_eq_true rfl) (Nat.le_of_ble_eq_true rfl) (s_Mo_of pr1 pr2 pr3 <| show Ev G (d + 3) _ _ M_Mo_split 116 [.ref 102, .int x1, .int x2, .int x3] [.long (g_3 j_4), .int (((4 : Int32) + x1) + (1 : Int32)), .ref 102] h R from
    Ev.go (pc' := 119) (ls' := [.ref 102, .int x1, .int x2, .int x3]) (st' := [.long ((g_3 j_4) - x2.toInt64), .int (((4 : Int32) + x1) + (1 : Int32)), .ref 102]) [.iload_n 2, .i2l, .lsub] (by decide +kernel) rfl <|
    Ev.cV0 (M' := M_Mo_puts) (as := [.int (((4 : Int32) + x1) + (1 : Int32)), .long ((g_3 j_4) - x2.toInt64)]) (rest := []) l_Mo_60 M_Mo_puts_ok M_Mo_puts_in M_Mo_puts_se (by decide +kernel) r4 rfl rfl rfl (Nat.le_of_ble_eq_true rfl) (Nat.le_of_ble_eq_true rfl) k1
  )
theorem b_Mo_split_122 {G : ev_G} {d k n : Nat} {h : ev_H} {R : Option Value → ev_H → Prop} {x1 : Int32} {x2 : Int32} {x3 : Int32} {f_status_1 : Int32} {f_acts_2 : Int32} {f_marks_3 : Int32} {f_taped_4 : Int32} {f_size_5 : Int32} {f_token_6 : Int32} {f_begin_7 : Int32} {f_end_8 : Int32} {f_faults_9 : Int32} {f_faultPlace_10 : Int32} {f_faultKind_11 : Int32} {f_deep_12 : Int32} {f_value_13 : Int64} {f_broadMany_14 : Int32} {g15 : Nat → Int64} {S16 : AS} {v_17 : MG} {z_18 : MP}
  (a1 : hat h 102 (oC 9 [.ref 103, .int f_status_1, .int f_acts_2, .int f_marks_3, .ref 104, .ref 105, .ref 106, .int f_taped_4, .int f_size_5, .int f_token_6, .int f_begin_7, .int f_end_8, .int f_faults_9, .int f_faultPlace_10, .int f_faultKind_11, .int f_deep_12, .long f_value_13, .ref 107, .ref 108, .ref 109, .ref 116, .int f_broadMany_14, .ref 124, .ref 125]))
  (a2 : hat h 103 (aL 9758 g15))
  (pr3 : MS (hset h 103 (aL 9758 (vp_updL g15 1 ((g15 1) + (1 : Int64))))) S16)
  (pr4 : hat (hset h 103 (aL 9758 (vp_updL g15 1 ((g15 1) + (1 : Int64))))) 102 (moC v_17 z_18))
  (k1 : R (some (.int (nI (sP S16)))) (hset (hset h 103 (aL 9758 (vp_updL g15 1 ((g15 1) + (1 : Int64))))) 102 (moC (stV v_17 0) z_18)))
  : Ev G (d + 3) k n M_Mo_split 122 [.ref 102, .int x1, .int x2, .int x3] [] h R :=
  Ev.go (pc' := 123) (ls' := [.ref 102, .int x1, .int x2, .int x3]) (st' := [.ref 102]) [.aload_n 0] (by decide +kernel) rfl <|
  Ev.getf f_Mo_7 (by decide +kernel) a1 rfl <|
  Ev.go (pc' := 128) (ls' := [.ref 102, .int x1, .int x2, .int x3]) (st' := [.int (1 : Int32), .ref 103, .int (1 : Int32), .ref 103]) [.iconst 1, .dup2] (by decide +kernel) rfl <|
  Ev.lald (j := 1) (by decide +kernel) a2 ⟨rfl, by decide, by decide⟩ <|
  Ev.go (pc' := 131) (ls' := [.ref 102, .int x1, .int x2, .int x3]) (st' := [.long ((g15 1) + (1 : Int64)), .int (1 : Int32), .ref 103]) [.lconst 1, .ladd] (by decide +kernel) rfl <|
  Ev.last (j := 1) (by decide +kernel) a2 ⟨rfl, by decide, by decide⟩ <| show Ev G (d + 3) _ _ M_Mo_split 132 [.ref 102, .int x1, .int x2, .int x3] [] (hset h 103 (aL 9758 (vp_updL g15 1 ((g15 1) + (1 : Int64))))) R from
  Ev.go (pc' := 134) (ls' := [.ref 102, .int x1, .int x2, .int x3]) (st' := [.ref 102, .ref 102]) [.aload_n 0, .aload_n 0] (by decide +kernel) rfl <|
  Ev.cV0 (M' := M_Mo_parts) (as := []) (rest := [.ref 102]) l_Mo_75 M_Mo_parts_ok M_Mo_parts_in M_Mo_parts_se (by decide +kernel) ⟨_, (hat_ne a1 (by decide))⟩ rfl rfl rfl (Nat.le_of_ble_eq_true rfl) (Nat.le_of_ble_eq_true rfl) (s_Mo_parts pr3 <| show Ev G (d + 3) _ _ M_Mo_split 137 [.ref 102, .int x1, .int x2, .int x3] [.int (nI (sP S16)), .ref 102] (hset h 103 (aL 9758 (vp_updL g15 1 ((g15 1) + (1 : Int64))))) R from
    Ev.cV0 (M' := M_Mo_gives_I) (as := [.int (nI (sP S16))]) (rest := []) l_Mo_245 M_Mo_gives_I_ok M_Mo_gives_I_in M_Mo_gives_I_se (by decide +kernel) ⟨_, (hat_ne a1 (by decide))⟩ rfl rfl rfl (Nat.le_of_ble_eq_true rfl) (Nat.le_of_ble_eq_true rfl) (s_Mo_gives_I pr4 <| show Ev G (d + 3) _ _ M_Mo_split 140 [.ref 102, .int x1, .int x2, .int x3] [.int (nI (sP S16))] (hset (hset h 103 (aL 9758 (vp_updL g15 1 ((g15 1) + (1 : Int64))))) 102 (moC (stV v_17 0) z_18)) R from
      Ev.ret (r := (some (.int (nI (sP S16))))) (Or.inl ⟨_, rfl, by decide +kernel, _, rfl, rfl⟩) k1
    )
  )
theorem b_Mo_merge_0 {G : ev_G} {d k n : Nat} {h : ev_H} {R : Option Value → ev_H → Prop} {x1 : Int32} {S1 : AS} {v_2 : MG} {z_3 : MP} {S4 : AS} {v_5 : MG} {z_6 : MP} {S7 : AS} {p_8 : Nat} {S9 : AS} {p_10 : Nat} {v_11 : MG} {z_12 : MP}
  (pr1 : MS h S1)
  (pr2 : sOk S1)
  (r3 : ∃ fs, hat h 102 (oC 9 fs))
  (pr4 : (b2i (inR x1 (sP S1))) = (0 : Int32) → hat h 102 (moC v_2 z_3))
  (r5 : (b2i (inR x1 (sP S1))) = (0 : Int32) → ∃ fs, hat h 102 (oC 9 fs))
  (pr6 : ¬ (b2i (inR x1 (sP S1))) = (0 : Int32) → MS h S4)
  (r7 : ¬ (b2i (inR x1 (sP S1))) = (0 : Int32) → ∃ fs, hat h 102 (oC 9 fs))
  (pr8 : ¬ (b2i (inR x1 (sP S1))) = (0 : Int32) → (x1 + (1 : Int32)) = (nI (sP S4)) → hat h 102 (moC v_5 z_6))
  (r9 : ¬ (b2i (inR x1 (sP S1))) = (0 : Int32) → (x1 + (1 : Int32)) = (nI (sP S4)) → ∃ fs, hat h 102 (oC 9 fs))
  (pr10 : ¬ (b2i (inR x1 (sP S1))) = (0 : Int32) → ¬ (x1 + (1 : Int32)) = (nI (sP S4)) → MS h S7)
  (pr11 : ¬ (b2i (inR x1 (sP S1))) = (0 : Int32) → ¬ (x1 + (1 : Int32)) = (nI (sP S4)) → sOk S7)
  (pr12 : ¬ (b2i (inR x1 (sP S1))) = (0 : Int32) → ¬ (x1 + (1 : Int32)) = (nI (sP S4)) → x1 = nI p_8 ∧ p_8 < sP S7)
  (r13 : ¬ (b2i (inR x1 (sP S1))) = (0 : Int32) → ¬ (x1 + (1 : Int32)) = (nI (sP S4)) → ∃ fs, hat h 102 (oC 9 fs))
  (pr14 : ¬ (b2i (inR x1 (sP S1))) = (0 : Int32) → ¬ (x1 + (1 : Int32)) = (nI (sP S4)) → MS h S9)
  (pr15 : ¬ (b2i (inR x1 (sP S1))) = (0 : Int32) → ¬ (x1 + (1 : Int32)) = (nI (sP S4)) → sOk S9)
  (pr16 : ¬ (b2i (inR x1 (sP S1))) = (0 : Int32) → ¬ (x1 + (1 : Int32)) = (nI (sP S4)) → (x1 + (1 : Int32)) = nI p_10 ∧ p_10 < sP S9)
  (pr17 : ¬ (b2i (inR x1 (sP S1))) = (0 : Int32) → ¬ (x1 + (1 : Int32)) = (nI (sP S4)) → (24 : Int32) < ((nI (sBr S7 p_8)) + (nI (sBr S9 p_10))) → hat h 102 (moC v_11 z_12))
  (r18 : ¬ (b2i (inR x1 (sP S1))) = (0 : Int32) → ¬ (x1 + (1 : Int32)) = (nI (sP S4)) → (24 : Int32) < ((nI (sBr S7 p_8)) + (nI (sBr S9 p_10))) → ∃ fs, hat h 102 (oC 9 fs))
  (r19 : ¬ (b2i (inR x1 (sP S1))) = (0 : Int32) → ¬ (x1 + (1 : Int32)) = (nI (sP S4)) → ¬ (24 : Int32) < ((nI (sBr S7 p_8)) + (nI (sBr S9 p_10))) → ∃ fs, hat h 102 (oC 9 fs))
  (k1 : (b2i (inR x1 (sP S1))) = (0 : Int32) → R (some (.int (-1 : Int32))) (hset h 102 (moC (stV v_2 (2 : Int32)) z_3)))
  (k2 : ¬ (b2i (inR x1 (sP S1))) = (0 : Int32) → (x1 + (1 : Int32)) = (nI (sP S4)) → R (some (.int (-1 : Int32))) (hset h 102 (moC (stV v_5 (2 : Int32)) z_6)))
  (k3 : ¬ (b2i (inR x1 (sP S1))) = (0 : Int32) → ¬ (x1 + (1 : Int32)) = (nI (sP S4)) → (24 : Int32) < ((nI (sBr S7 p_8)) + (nI (sBr S9 p_10))) → R (some (.int (-1 : Int32))) (hset h 102 (moC (stV v_11 (6 : Int32)) z_12)))
  (k4 : ¬ (b2i (inR x1 (sP S1))) = (0 : Int32) → ¬ (x1 + (1 : Int32)) = (nI (sP S4)) → ¬ (24 : Int32) < ((nI (sBr S7 p_8)) + (nI (sBr S9 p_10))) → Ev G (d + 2) 0 0 M_Mo_acted 0 [.ref 102, .int (0 : Int32), ev_unk] [] h (fun r h1 => Ev G (d + 3) k n M_Mo_merge 56 [.ref 102, .int x1, .int ((nI (sBr S7 p_8)) + (nI (sBr S9 p_10))), ev_unk] (r.toList ++ []) h1 R))
  : Ev G (d + 3) k n M_Mo_merge 0 [.ref 102, .int x1, ev_unk, ev_unk] [] h R :=
  Ev.go (pc' := 2) (ls' := [.ref 102, .int x1, ev_unk, ev_unk]) (st' := [.int x1, .ref 102]) [.aload_n 0, .iload_n 1] (by decide +kernel) rfl <|
  Ev.cV0 (M' := M_Mo_isPart) (as := [.int x1]) (rest := []) l_Mo_264 M_Mo_isPart_ok M_Mo_isPart_in M_Mo_isPart_se (by decide +kernel) r3 rfl rfl rfl (Nat.le_of_ble_eq_true rfl) (Nat.le_of_ble_eq_true rfl) (s_Mo_isPart pr1 pr2 <| show Ev G (d + 3) _ _ M_Mo_merge 5 [.ref 102, .int x1, ev_unk, ev_unk] [.int (b2i (inR x1 (sP S1)))] h R from
    Ev.br (i := .ifCond .eq (13)) (P := (b2i (inR x1 (sP S1))) = (0 : Int32)) (t := 18) (f := 8) (r := []) (by decide +kernel) rfl (fun c1 =>
      Ev.go (pc' := 20) (ls' := [.ref 102, .int x1, ev_unk, ev_unk]) (st' := [.int (2 : Int32), .ref 102]) [.aload_n 0, .iconst 2] (by decide +kernel) rfl <|
      Ev.cV0 (M' := M_Mo_refuse) (as := [.int (2 : Int32)]) (rest := []) l_Mo_226 M_Mo_refuse_ok M_Mo_refuse_in M_Mo_refuse_se (by decide +kernel) (r5 c1) rfl rfl rfl (Nat.le_of_ble_eq_true rfl) (Nat.le_of_ble_eq_true rfl) (s_Mo_refuse (pr4 c1) <| show Ev G (d + 3) _ _ M_Mo_merge 23 [.ref 102, .int x1, ev_unk, ev_unk] [.int (-1 : Int32)] (hset h 102 (moC (stV v_2 (2 : Int32)) z_3)) R from
        Ev.ret (r := (some (.int (-1 : Int32)))) (Or.inl ⟨_, rfl, by decide +kernel, _, rfl, rfl⟩) (k1 c1)
      )
    ) (fun c1 =>
      Ev.go (pc' := 12) (ls' := [.ref 102, .int x1, ev_unk, ev_unk]) (st' := [.ref 102, .int (x1 + (1 : Int32))]) [.iload_n 1, .iconst 1, .iadd, .aload_n 0] (by decide +kernel) rfl <|
      Ev.cV0 (M' := M_Mo_parts) (as := []) (rest := [.int (x1 + (1 : Int32))]) l_Mo_75 M_Mo_parts_ok M_Mo_parts_in M_Mo_parts_se (by decide +kernel) (r7 c1) rfl rfl rfl (Nat.le_of_ble_eq_true rfl) (Nat.le_of_ble_eq_true rfl) (s_Mo_parts (pr6 c1) <| show Ev G (d + 3) _ _ M_Mo_merge 15 [.ref 102, .int x1, ev_unk, ev_unk] [.int (nI (sP S4)), .int (x1 + (1 : Int32))] h R from
        Ev.br (i := .if_icmp .ne (9)) (P := (x1 + (1 : Int32)) = (nI (sP S4))) (t := 18) (f := 24) (r := []) (by decide +kernel) rfl (fun c2 =>
          Ev.go (pc' := 20) (ls' := [.ref 102, .int x1, ev_unk, ev_unk]) (st' := [.int (2 : Int32), .ref 102]) [.aload_n 0, .iconst 2] (by decide +kernel) rfl <|
          Ev.cV0 (M' := M_Mo_refuse) (as := [.int (2 : Int32)]) (rest := []) l_Mo_226 M_Mo_refuse_ok M_Mo_refuse_in M_Mo_refuse_se (by decide +kernel) (r9 c1 c2) rfl rfl rfl (Nat.le_of_ble_eq_true rfl) (Nat.le_of_ble_eq_true rfl) (s_Mo_refuse (pr8 c1 c2) <| show Ev G (d + 3) _ _ M_Mo_merge 23 [.ref 102, .int x1, ev_unk, ev_unk] [.int (-1 : Int32)] (hset h 102 (moC (stV v_5 (2 : Int32)) z_6)) R from
            Ev.ret (r := (some (.int (-1 : Int32)))) (Or.inl ⟨_, rfl, by decide +kernel, _, rfl, rfl⟩) (k2 c1 c2)
          )
        ) (fun c2 =>
          Ev.go (pc' := 26) (ls' := [.ref 102, .int x1, ev_unk, ev_unk]) (st' := [.int x1, .ref 102]) [.aload_n 0, .iload_n 1] (by decide +kernel) rfl <|
          Ev.cV0 (M' := M_Mo_breadthOf) (as := [.int x1]) (rest := []) l_Mo_81 M_Mo_breadthOf_ok M_Mo_breadthOf_in M_Mo_breadthOf_se (by decide +kernel) (r13 c1 c2) rfl rfl rfl (Nat.le_of_ble_eq_true rfl) (Nat.le_of_ble_eq_true rfl) (s_Mo_breadthOf (pr10 c1 c2) (pr11 c1 c2) (pr12 c1 c2) <| show Ev G (d + 3) _ _ M_Mo_merge 29 [.ref 102, .int x1, ev_unk, ev_unk] [.int (nI (sBr S7 p_8))] h R from
            Ev.go (pc' := 33) (ls' := [.ref 102, .int x1, ev_unk, ev_unk]) (st' := [.int (x1 + (1 : Int32)), .ref 102, .int (nI (sBr S7 p_8))]) [.aload_n 0, .iload_n 1, .iconst 1, .iadd] (by decide +kernel) rfl <|
            Ev.cV0 (M' := M_Mo_breadthOf) (as := [.int (x1 + (1 : Int32))]) (rest := [.int (nI (sBr S7 p_8))]) l_Mo_81 M_Mo_breadthOf_ok M_Mo_breadthOf_in M_Mo_breadthOf_se (by decide +kernel) (r13 c1 c2) rfl rfl rfl (Nat.le_of_ble_eq_true rfl) (Nat.le_of_ble_eq_true rfl) (s_Mo_breadthOf (pr14 c1 c2) (pr15 c1 c2) (pr16 c1 c2) <| show Ev G (d + 3) _ _ M_Mo_merge 36 [.ref 102, .int x1, ev_unk, ev_unk] [.int (nI (sBr S9 p_10)), .int (nI (sBr S7 p_8))] h R from
              Ev.go (pc' := 41) (ls' := [.ref 102, .int x1, .int ((nI (sBr S7 p_8)) + (nI (sBr S9 p_10))), ev_unk]) (st' := [.int (24 : Int32), .int ((nI (sBr S7 p_8)) + (nI (sBr S9 p_10)))]) [.iadd, .istore_n 2, .iload_n 2, .bipush (24)] (by decide +kernel) rfl <|
              Ev.br (i := .if_icmp .le (10)) (P := (24 : Int32) < ((nI (sBr S7 p_8)) + (nI (sBr S9 p_10)))) (t := 44) (f := 51) (r := []) (by decide +kernel) rfl (fun c3 =>
                Ev.go (pc' := 47) (ls' := [.ref 102, .int x1, .int ((nI (sBr S7 p_8)) + (nI (sBr S9 p_10))), ev_unk]) (st' := [.int (6 : Int32), .ref 102]) [.aload_n 0, .bipush (6)] (by decide +kernel) rfl <|
                Ev.cV0 (M' := M_Mo_refuse) (as := [.int (6 : Int32)]) (rest := []) l_Mo_226 M_Mo_refuse_ok M_Mo_refuse_in M_Mo_refuse_se (by decide +kernel) (r18 c1 c2 c3) rfl rfl rfl (Nat.le_of_ble_eq_true rfl) (Nat.le_of_ble_eq_true rfl) (s_Mo_refuse (pr17 c1 c2 c3) <| show Ev G (d + 3) _ _ M_Mo_merge 50 [.ref 102, .int x1, .int ((nI (sBr S7 p_8)) + (nI (sBr S9 p_10))), ev_unk] [.int (-1 : Int32)] (hset h 102 (moC (stV v_11 (6 : Int32)) z_12)) R from
                  Ev.ret (r := (some (.int (-1 : Int32)))) (Or.inl ⟨_, rfl, by decide +kernel, _, rfl, rfl⟩) (k3 c1 c2 c3)
                )
              ) (fun c3 =>
                Ev.go (pc' := 53) (ls' := [.ref 102, .int x1, .int ((nI (sBr S7 p_8)) + (nI (sBr S9 p_10))), ev_unk]) (st' := [.int (0 : Int32), .ref 102]) [.aload_n 0, .iconst 0] (by decide +kernel) rfl <|
                Ev.cV0 (M' := M_Mo_acted) (as := [.int (0 : Int32)]) (rest := []) l_Mo_242 M_Mo_acted_ok M_Mo_acted_in M_Mo_acted_se (by decide +kernel) (r19 c1 c2 c3) rfl rfl rfl (Nat.le_of_ble_eq_true rfl) (Nat.le_of_ble_eq_true rfl) (k4 c1 c2 c3)
              )
            )
          )
        )
      )
    )
  )
theorem b_Mo_merge_56 {G : ev_G} {d k n : Nat} {h : ev_H} {R : Option Value → ev_H → Prop} {x1 : Int32} {x2 : Int32}
  (r1 : ∃ fs, hat h 102 (oC 9 fs))
  (k1 : Ev G (d + 2) 0 0 M_Mo_puts 0 [.ref 102, .int ((4 : Int32) + x1), .long x2.toInt64, ev_unk] [] h (fun r h1 => Ev G (d + 3) k n M_Mo_merge 65 [.ref 102, .int x1, .int x2, ev_unk] (r.toList ++ []) h1 R))
  : Ev G (d + 3) k n M_Mo_merge 56 [.ref 102, .int x1, .int x2, ev_unk] [] h R :=
  Ev.go (pc' := 62) (ls' := [.ref 102, .int x1, .int x2, ev_unk]) (st' := [.long x2.toInt64, .int ((4 : Int32) + x1), .ref 102]) [.aload_n 0, .iconst 4, .iload_n 1, .iadd, .iload_n 2, .i2l] (by decide +kernel) rfl <|
  Ev.cV0 (M' := M_Mo_puts) (as := [.int ((4 : Int32) + x1), .long x2.toInt64]) (rest := []) l_Mo_60 M_Mo_puts_ok M_Mo_puts_in M_Mo_puts_se (by decide +kernel) r1 rfl rfl rfl (Nat.le_of_ble_eq_true rfl) (Nat.le_of_ble_eq_true rfl) k1
theorem b_Mo_merge_65 {G : ev_G} {d k n : Nat} {h : ev_H} {R : Option Value → ev_H → Prop} {x1 : Int32} {x2 : Int32} {f_status_1 : Int32} {f_acts_2 : Int32} {f_marks_3 : Int32} {f_taped_4 : Int32} {f_size_5 : Int32} {f_token_6 : Int32} {f_begin_7 : Int32} {f_end_8 : Int32} {f_faults_9 : Int32} {f_faultPlace_10 : Int32} {f_faultKind_11 : Int32} {f_deep_12 : Int32} {f_value_13 : Int64} {f_broadMany_14 : Int32} {g15 : Nat → Int64}
  (a1 : hat h 102 (oC 9 [.ref 103, .int f_status_1, .int f_acts_2, .int f_marks_3, .ref 104, .ref 105, .ref 106, .int f_taped_4, .int f_size_5, .int f_token_6, .int f_begin_7, .int f_end_8, .int f_faults_9, .int f_faultPlace_10, .int f_faultKind_11, .int f_deep_12, .long f_value_13, .ref 107, .ref 108, .ref 109, .ref 116, .int f_broadMany_14, .ref 124, .ref 125]))
  (a2 : hat h 103 (aL 9758 g15))
  (k1 : Ev G (d + 3) k n M_Mo_merge 79 [.ref 102, .int x1, .int x2, .int (x1 + (1 : Int32))] [] (hset h 103 (aL 9758 (vp_updL g15 1 ((g15 1) - (1 : Int64))))) R)
  : Ev G (d + 3) k n M_Mo_merge 65 [.ref 102, .int x1, .int x2, ev_unk] [] h R :=
  Ev.go (pc' := 66) (ls' := [.ref 102, .int x1, .int x2, ev_unk]) (st' := [.ref 102]) [.aload_n 0] (by decide +kernel) rfl <|
  Ev.getf f_Mo_7 (by decide +kernel) a1 rfl <|
  Ev.go (pc' := 71) (ls' := [.ref 102, .int x1, .int x2, ev_unk]) (st' := [.int (1 : Int32), .ref 103, .int (1 : Int32), .ref 103]) [.iconst 1, .dup2] (by decide +kernel) rfl <|
  Ev.lald (j := 1) (by decide +kernel) a2 ⟨rfl, by decide, by decide⟩ <|
  Ev.go (pc' := 74) (ls' := [.ref 102, .int x1, .int x2, ev_unk]) (st' := [.long ((g15 1) - (1 : Int64)), .int (1 : Int32), .ref 103]) [.lconst 1, .lsub] (by decide +kernel) rfl <|
  Ev.last (j := 1) (by decide +kernel) a2 ⟨rfl, by decide, by decide⟩ <| show Ev G (d + 3) _ _ M_Mo_merge 75 [.ref 102, .int x1, .int x2, ev_unk] [] (hset h 103 (aL 9758 (vp_updL g15 1 ((g15 1) - (1 : Int64))))) R from
  Ev.go (pc' := 79) (ls' := [.ref 102, .int x1, .int x2, .int (x1 + (1 : Int32))]) (st' := []) [.iload_n 1, .iconst 1, .iadd, .istore_n 3] (by decide +kernel) rfl <|
  k1
theorem b_Mo_merge_79 {G : ev_G} {d k n : Nat} {h : ev_H} {R : Option Value → ev_H → Prop} {x1 : Int32} {x2 : Int32} {x3 : Int32} {S1 : AS} {v_2 : MG} {z_3 : MP} {g_4 : Nat → Int64} {j_5 : Nat} {S6 : AS} {v_7 : MG} {z_8 : MP}
  (pr1 : MS h S1)
  (r2 : ∃ fs, hat h 102 (oC 9 fs))
  (pr3 : x3 < (nI (sP S1)) → hat h 102 (moC v_2 z_3))
  (pr4 : x3 < (nI (sP S1)) → hat h 103 (aL 9758 g_4))
  (pr5 : x3 < (nI (sP S1)) → ev_ix (((4 : Int32) + x3) + (1 : Int32)) j_5 9758)
  (r6 : x3 < (nI (sP S1)) → ∃ fs, hat h 102 (oC 9 fs))
  (pr7 : ¬ x3 < (nI (sP S1)) → MS h S6)
  (r8 : ¬ x3 < (nI (sP S1)) → ∃ fs, hat h 102 (oC 9 fs))
  (pr9 : ¬ x3 < (nI (sP S1)) → hat h 102 (moC v_7 z_8))
  (k1 : x3 < (nI (sP S1)) → Ev G (d + 2) 0 0 M_Mo_puts 0 [.ref 102, .int ((4 : Int32) + x3), .long (g_4 j_5), ev_unk] [] h (fun r h1 => Ev G (d + 3) k n M_Mo_merge 103 [.ref 102, .int x1, .int x2, .int x3] (r.toList ++ []) h1 R))
  (k2 : ¬ x3 < (nI (sP S1)) → R (some (.int (nI (sP S6)))) (hset h 102 (moC (stV v_7 0) z_8)))
  : Ev G (d + 3) k n M_Mo_merge 79 [.ref 102, .int x1, .int x2, .int x3] [] h R :=
  Ev.go (pc' := 81) (ls' := [.ref 102, .int x1, .int x2, .int x3]) (st' := [.ref 102, .int x3]) [.iload_n 3, .aload_n 0] (by decide +kernel) rfl <|
  Ev.cV0 (M' := M_Mo_parts) (as := []) (rest := [.int x3]) l_Mo_75 M_Mo_parts_ok M_Mo_parts_in M_Mo_parts_se (by decide +kernel) r2 rfl rfl rfl (Nat.le_of_ble_eq_true rfl) (Nat.le_of_ble_eq_true rfl) (s_Mo_parts pr1 <| show Ev G (d + 3) _ _ M_Mo_merge 84 [.ref 102, .int x1, .int x2, .int x3] [.int (nI (sP S1)), .int x3] h R from
    Ev.br (i := .if_icmp .ge (25)) (P := x3 < (nI (sP S1))) (t := 87) (f := 109) (r := []) (by decide +kernel) rfl (fun c1 =>
      Ev.go (pc' := 97) (ls' := [.ref 102, .int x1, .int x2, .int x3]) (st' := [.int (((4 : Int32) + x3) + (1 : Int32)), .ref 102, .int ((4 : Int32) + x3), .ref 102]) [.aload_n 0, .iconst 4, .iload_n 3, .iadd, .aload_n 0, .iconst 4, .iload_n 3, .iadd, .iconst 1, .iadd] (by decide +kernel) rfl <|
      Ev.cV0 (M' := M_Mo_of) (as := [.int (((4 : Int32) + x3) + (1 : Int32))]) (rest := [.int ((4 : Int32) + x3), .ref 102]) l_Mo_64 M_Mo_of_ok M_Mo_of_in M_Mo_of_se (by decide +kernel) (r6 c1) rfl rfl rfl (Nat.le_of_ble_eq_true rfl) (Nat.le_of_ble_eq_true rfl) (s_Mo_of (pr3 c1) (pr4 c1) (pr5 c1) <| show Ev G (d + 3) _ _ M_Mo_merge 100 [.ref 102, .int x1, .int x2, .int x3] [.long (g_4 j_5), .int ((4 : Int32) + x3), .ref 102] h R from
        Ev.cV0 (M' := M_Mo_puts) (as := [.int ((4 : Int32) + x3), .long (g_4 j_5)]) (rest := []) l_Mo_60 M_Mo_puts_ok M_Mo_puts_in M_Mo_puts_se (by decide +kernel) (r6 c1) rfl rfl rfl (Nat.le_of_ble_eq_true rfl) (Nat.le_of_ble_eq_true rfl) (k1 c1)
      )
    ) (fun c1 =>
      Ev.go (pc' := 111) (ls' := [.ref 102, .int x1, .int x2, .int x3]) (st' := [.ref 102, .ref 102]) [.aload_n 0, .aload_n 0] (by decide +kernel) rfl <|
      Ev.cV0 (M' := M_Mo_parts) (as := []) (rest := [.ref 102]) l_Mo_75 M_Mo_parts_ok M_Mo_parts_in M_Mo_parts_se (by decide +kernel) (r8 c1) rfl rfl rfl (Nat.le_of_ble_eq_true rfl) (Nat.le_of_ble_eq_true rfl) (s_Mo_parts (pr7 c1) <| show Ev G (d + 3) _ _ M_Mo_merge 114 [.ref 102, .int x1, .int x2, .int x3] [.int (nI (sP S6)), .ref 102] h R from
        Ev.cV0 (M' := M_Mo_gives_I) (as := [.int (nI (sP S6))]) (rest := []) l_Mo_245 M_Mo_gives_I_ok M_Mo_gives_I_in M_Mo_gives_I_se (by decide +kernel) (r8 c1) rfl rfl rfl (Nat.le_of_ble_eq_true rfl) (Nat.le_of_ble_eq_true rfl) (s_Mo_gives_I (pr9 c1) <| show Ev G (d + 3) _ _ M_Mo_merge 117 [.ref 102, .int x1, .int x2, .int x3] [.int (nI (sP S6))] (hset h 102 (moC (stV v_7 0) z_8)) R from
          Ev.ret (r := (some (.int (nI (sP S6))))) (Or.inl ⟨_, rfl, by decide +kernel, _, rfl, rfl⟩) (k2 c1)
        )
      )
    )
  )
theorem b_Mo_merge_103 {G : ev_G} {d k n : Nat} {h : ev_H} {R : Option Value → ev_H → Prop} {x1 : Int32} {x2 : Int32} {x3 : Int32}
  (k1 : Ev G (d + 3) k n M_Mo_merge 79 [.ref 102, .int x1, .int x2, .int (x3 + (1 : Int32))] [] h R)
  : Ev G (d + 3) k n M_Mo_merge 103 [.ref 102, .int x1, .int x2, .int x3] [] h R :=
  Ev.go (pc' := 79) (ls' := [.ref 102, .int x1, .int x2, .int (x3 + (1 : Int32))]) (st' := []) [.iinc 3 (1), .goto (-27)] (by decide +kernel) rfl <|
  k1
section S51
variable {G : ev_G} {d : Nat} {h h1 : ev_H} {R : Option Value → ev_H → Prop} {Q : QS} {g g' : Nat → Int64} {S : AS}
def wC (S : AS) (co : Nat → Int64) : AS := mkS (sB S) (sP S) (sN S) (sBr S) co (sTg S) (sFl S)
theorem SlR.cod {co co' : Nat → Int64} (H : SlR g 0 (wC S co)) (e : ∀ j, j < sN S → co' j = co j) : SlR g 0 (wC S co') := by
  obtain ⟨a0, a1, a2, a3, a4, a5, a6⟩ := H
  exact ⟨a0, a1, a2, a3, a4, fun i hi => ⟨(a5 i hi).1.trans (e i hi).symm, (a5 i hi).2⟩, a6⟩
theorem SlR.put {co : Nat → Int64} {c : Nat} {y : Int64} (p6 : sP S ≤ 6) (n32 : sN S ≤ 32) (H : SlR g 0 (wC S co)) (hc : c < 32) : SlR (vp_updL g (10 + c) y) 0 (wC S (fun j => if j = c then y else co j)) := by
  obtain ⟨a0, a1, a2, a3, a4, a5, a6⟩ := H
  refine ⟨(if_neg (by omega)).trans a0, (if_neg (by omega)).trans a1, (if_neg (by omega)).trans a2, (if_neg (by omega)).trans a3, fun i hi => ?_, fun i hi => ?_, fun i hi => (if_neg (by omega)).trans (a6 i hi)⟩
  · have hi : i < sP S := hi
    exact (if_neg (by omega)).trans (a4 i hi)
  · have hi : i < sN S := hi
    refine ⟨?_, (if_neg (by omega)).trans (a5 i hi).2⟩
    show (if 0 + 10 + i = 10 + c then y else g (0 + 10 + i)) = (if i = c then y else co i)
    by_cases q : i = c
    · rw [if_pos (by omega), if_pos q]
    · rw [if_neg (by omega), if_neg q]; exact (a5 i hi).1
theorem s_Mo_swap2 {x y : Int32} (H : MR h Q) (hR : ∀ h', Kp h h' 102 126 → MR h' (a_swap Q x y).2 → R (some (.int (a_swap Q x y).1)) h') : Ev G (d + 3) 0 0 M_Mo_swap 0 [.ref 102, .int x, .int y, ev_unk, ev_unk] [] h R := by
  obtain ⟨bm, z, m1⟩ := H.2.1
  have hz := H.szN
  have hzB := H.szB
  have hzP := H.szP
  refine b_Mo_swap_0 H.ms H.ok ⟨_, m1⟩ (fun c1 => m1) (fun c1 => ⟨_, m1⟩) (fun c1 => H.ms) (fun c1 => H.ok) (fun c1 => ⟨_, m1⟩) (fun c1 c2 => m1) (fun c1 c2 => ⟨_, m1⟩) (fun c1 c2 c3 => m1) (fun c1 c2 c3 => ⟨_, m1⟩) (fun c1 c2 c3 => ⟨_, m1⟩) (fun c1 => H.finQ (Kp.refl _ _ _) m1 hR (by unfold a_swap; rw [b2i_e0 c1]; rfl)) (fun c1 c2 => H.finQ (Kp.refl _ _ _) m1 hR (by unfold a_swap; rw [b2i_n0 c1, b2i_e0 c2]; rfl)) (fun c1 c2 c3 => H.finQ (Kp.refl _ _ _) m1 hR (by unfold a_swap; rw [b2i_n0 c1, b2i_n0 c2, if_pos c3]; rfl)) (fun c1 c2 c3 => ?_)
  have hx := vN_lt (by omega) (b2i_n0 c1)
  have hy := vN_lt (by omega) (b2i_n0 c2)
  have e : a_swap Q x y = (nI (exN (qS Q) (vN x) (vN y)), actQ Q (exS (qS Q) (vN x) (vN y))) := by unfold a_swap; rw [b2i_n0 c1, b2i_n0 c2, if_neg c3]; rfl
  clear c1 c2 c3
  refine s_act H fun h1 K1 H1 => ?_
  obtain ⟨bm, z, m1⟩ := H1.2.1
  obtain ⟨g, m2, sl⟩ := H1.2.2.1
  refine b_Mo_swap_38 ?_
  have gd := H.gd.ex hx.2 hy.2
  generalize vN x = b at hx e gd
  generalize vN y = o at hy e gd
  obtain ⟨rfl, hb⟩ := hx
  obtain ⟨rfl, ho⟩ := hy
  have L := up_to (P := fun i => ∀ h2 g2, Kp h1 h2 103 104 → hat h2 103 (aL 9758 g2) → SlR g2 0 (wC (qS Q) (fun j => if j < i then exC (sCo (qS Q) j) b o else sCo (qS Q) j)) → (∀ k, 574 ≤ k → g2 k = g k) → Ev G (d + 3) 0 0 M_Mo_swap 43 [.ref 102, .int (nI b), .int (nI o), .int (nI (cnt (fun j => lt (sCo (qS Q) j) b != lt (sCo (qS Q) j) o) i)), .int (nI i)] [] h2 R) (N := sN (qS Q)) ?_ ?_ 0 (Nat.zero_le _)
  · exact L h1 g (Kp.refl _ _ _) m2 (SlR.cod (co := sCo (qS Q)) sl.1 fun j _ => if_neg (Nat.not_lt_zero j)) fun _ _ => rfl
  · intro i hi ih h2 g2 K2 m22 s2 sm
    have m12 := K2.hat m1 (by omega)
    have ms2 : MS h2 (wC (qS Q) (fun j => if j < i then exC (sCo (qS Q) j) b o else sCo (qS Q) j)) := ⟨_, _, _, m12, m22, s2⟩
    have ok2 : sOk (wC (qS Q) (fun j => if j < i then exC (sCo (qS Q) j) b o else sCo (qS Q) j)) := H.ok
    have ei : sCo (wC (qS Q) (fun j => if j < i then exC (sCo (qS Q) j) b o else sCo (qS Q) j)) i = sCo (qS Q) i := if_neg (Nat.lt_irrefl i)
    have f : cnt (fun j => lt (sCo (qS Q) j) b != lt (sCo (qS Q) j) o) (i + 1) = cnt (fun j => lt (sCo (qS Q) j) b != lt (sCo (qS Q) j) o) i + if (lt (sCo (qS Q) i) b != lt (sCo (qS Q) i) o) then 1 else 0 := rfl
    rw [f] at ih
    have step : ∀ y, exC (sCo (qS Q) i) b o = y → ∀ j, (if j < i + 1 then exC (sCo (qS Q) j) b o else sCo (qS Q) j) = (if j = i then y else if j < i then exC (sCo (qS Q) j) b o else sCo (qS Q) j) := fun y ey j => by
      by_cases c : j = i
      · subst c; rw [if_pos (by omega), if_pos rfl, ey]
      · rw [if_neg c]
        by_cases c2 : j < i
        · rw [if_pos c2, if_pos (by omega)]
        · rw [if_neg c2, if_neg (by omega)]
    refine b_Mo_swap_43 (S1 := wC (qS Q) (fun j => if j < i then exC (sCo (qS Q) j) b o else sCo (qS Q) j)) (c_3 := i) (c_5 := i) (c_7 := i) ms2 ⟨_, m12⟩ (fun _ => ms2) (fun _ => ok2) (fun _ => ⟨rfl, hi⟩) (fun _ => ⟨_, m12⟩) (fun _ => ms2) (fun _ => ok2) (fun _ => ⟨rfl, hi⟩) (fun _ _ => ms2) (fun _ _ => ok2) (fun _ _ => ⟨rfl, hi⟩) (fun _ _ => ⟨_, m12⟩) (fun _ => m12) (fun _ => ⟨_, m12⟩) (fun c1 c2 => ?_) (fun c1 c2 => ?_) (fun c1 => absurd (nI_lt hi (by omega)) c1)
    · rw [ei, tbL_n (by omega), tbL_n (by omega)] at c2
      have c2 : lt (sCo (qS Q) i) b = lt (sCo (qS Q) i) o := by revert c2; cases lt (sCo (qS Q) i) b <;> cases lt (sCo (qS Q) i) o <;> decide
      have ex : exC (sCo (qS Q) i) b o = sCo (qS Q) i := if_pos c2
      rw [c2] at ih
      have nb : (lt (sCo (qS Q) i) o != lt (sCo (qS Q) i) o) = false := by cases lt (sCo (qS Q) i) o <;> rfl
      rw [nb] at ih
      rw [nI_1]
      refine ih h2 g2 K2 m22 (s2.cod fun j hj => ?_) sm
      rw [step _ ex j]
      by_cases c : j = i
      · subst c; rw [if_pos rfl, if_neg (Nat.lt_irrefl _)]
      · rw [if_neg c]
    · rw [ei, tbL_n (by omega), tbL_n (by omega)] at c2
      rw [ei]
      have c2 : ¬ lt (sCo (qS Q) i) b = lt (sCo (qS Q) i) o := fun z => c2 (by rw [z])
      have ex : exC (sCo (qS Q) i) b o = sCo (qS Q) i ^^^ (((1 : Int64) <<< ((nI b).toInt64 &&& 63)) ||| ((1 : Int64) <<< ((nI o).toInt64 &&& 63))) := if_neg c2
      have nb : (lt (sCo (qS Q) i) b != lt (sCo (qS Q) i) o) = true := by revert c2; cases lt (sCo (qS Q) i) b <;> cases lt (sCo (qS Q) i) o <;> decide
      rw [nb] at ih
      refine s_Mo_puts (j := 10 + i) m12 m22 ⟨nI_add 10 i, by omega, by omega⟩ ?_
      refine b_Mo_swap_101 ?_
      rw [nI_1, nI_1]
      refine ih _ _ (K2.set _ (by omega) (by omega)) (hat_set m22) ((s2.put hzP hz (by omega)).cod fun j hj => ?_) fun k hk => (if_neg (by omega)).trans (sm k hk)
      exact step _ ex j
  · intro h2 g2 K2 m22 s2 sm
    have m12 := K2.hat m1 (by omega)
    have s3 : SlR g2 0 (exS (qS Q) b o) := SlR.cod (co' := fun j => exC (sCo (qS Q) j) b o) s2 fun j hj => (if_pos hj).symm
    have H2 := H1.edit K2 m22 s3 sm sl gd
    have ms2 := H2.ms
    have no : ¬ nI (sN (qS Q)) < nI (sN (exS (qS Q) b o)) := nl_self (n := sN (qS Q)) (by omega)
    refine b_Mo_swap_43 (S1 := exS (qS Q) b o) (S2 := qS Q) (S4 := qS Q) (S6 := qS Q) (c_3 := 0) (c_5 := 0) (c_7 := 0) ms2 ⟨_, m12⟩ (fun c => absurd c no) (fun c => absurd c no) (fun c => absurd c no) (fun c => absurd c no) (fun c => absurd c no) (fun c => absurd c no) (fun c => absurd c no) (fun c => absurd c no) (fun c => absurd c no) (fun c => absurd c no) (fun c => absurd c no) (fun _ => m12) (fun _ => ⟨_, m12⟩) (fun c => absurd c no) (fun c => absurd c no) (fun _ => ?_)
    exact H2.finQ (K1.wide (by omega) (by omega) |>.trans (K2.wide (by omega) (by omega))) m12 hR e
/-- a code struck: what the cells hold on the way -/
def stI' (S : AS) (c i : Nat) : AS := mkS (sB S) (sP S) (sN S - 1) (sBr S) (fun j => if c ≤ j ∧ j < i then sCo S (j + 1) else sCo S j) (fun j => if c ≤ j ∧ j < i then sTg S (j + 1) else sTg S j) (sFl S)
theorem s_Mo_strike2 {x : Int32} (H : MR h Q) (hR : ∀ h', Kp h h' 102 126 → MR h' (a_strike Q x).2 → R (some (.int (a_strike Q x).1)) h') : Ev G (d + 3) 0 0 M_Mo_strike 0 [.ref 102, .int x, ev_unk] [] h R := by
  obtain ⟨bm, z, m1⟩ := H.2.1
  have hz := H.szN
  have hzP := H.szP
  refine b_Mo_strike_0 H.ms H.ok ⟨_, m1⟩ (fun c1 => m1) (fun c1 => ⟨_, m1⟩) (fun c1 => ⟨_, m1⟩) (fun c1 => H.finQ (Kp.refl _ _ _) m1 hR (by unfold a_strike; rw [b2i_e0 c1]; rfl)) (fun c1 => ?_)
  have hx := vN_lt (by omega) (b2i_n0 c1)
  have e : a_strike Q x = (nI (sN (qS Q) - 1), actQ Q (drS (qS Q) (vN x))) := by unfold a_strike; rw [if_pos (b2i_n0 c1)]
  have gd := H.gd.dr hx.2
  generalize vN x = c at hx e gd
  obtain ⟨rfl, hc⟩ := hx
  refine s_act H fun h1 K1 H1 => ?_
  obtain ⟨bm, z, m1⟩ := H1.2.1
  obtain ⟨g, m2, sl⟩ := H1.2.2.1
  have sl0 : SlR g 0 (qS Q) := sl.1
  obtain ⟨a0, a1, a2, a3, a4, a5, a6⟩ := sl0
  obtain ⟨N, eN⟩ : ∃ N, sN (qS Q) = N + 1 := ⟨sN (qS Q) - 1, by omega⟩
  have a5 : ∀ j, j < N + 1 → g (10 + j) = sCo (qS Q) j ∧ g (42 + j) = lN (sTg (qS Q) j) := fun j hj => by
    have := a5 j (show j < sN (qS Q) by omega)
    rw [Nat.zero_add, Nat.zero_add] at this; exact this
  have a4 : ∀ j, j < sP (qS Q) → g (0 + 4 + j) = lN (sBr (qS Q) j) := a4
  refine b_Mo_strike_19 m1 m2 ?_
  have a2' : g 2 = lN (N + 1) := by rw [← eN]; exact a2
  rw [show g 2 - (1 : Int64) = lN N by rw [a2']; exact lN_sub' (a := N + 1) (b := 1) (by omega)]
  have K2 : Kp h1 (hset h1 103 (aL 9758 (vp_updL g 2 (lN N)))) 103 104 := (Kp.refl h1 103 104).set _ (by omega) (by omega)
  -- the raw state: everything but the codes and tags that moved stays
  have sli : ∀ (i : Nat) (g2 : Nat → Int64), (∀ j, j < N + 1 → g2 (10 + j) = (if c ≤ j ∧ j < i then sCo (qS Q) (j + 1) else sCo (qS Q) j) ∧ g2 (42 + j) = lN (if c ≤ j ∧ j < i then sTg (qS Q) (j + 1) else sTg (qS Q) j)) → g2 2 = lN N → (∀ k, k ≠ 2 → (k < 10 ∨ 74 ≤ k) → g2 k = g k) → SlR g2 0 (stI' (qS Q) c i) := by
    intro i g2 r1 r2 r3
    refine ⟨(r3 _ (by omega) (by omega)).trans a0, (r3 _ (by omega) (by omega)).trans a1, ?_, (r3 _ (by omega) (by omega)).trans a3, fun j hj => ?_, fun j hj => ?_, fun j hj => (r3 _ (by omega) (by omega)).trans (a6 j hj)⟩
    · show g2 (0 + 2) = lN (sN (qS Q) - 1)
      rw [eN]; exact r2
    · have hj : j < sP (qS Q) := hj
      exact (r3 _ (by omega) (by omega)).trans (a4 j hj)
    · have hj : j < sN (qS Q) - 1 := hj
      rw [Nat.zero_add, Nat.zero_add]
      exact r1 j (by omega)
  have nS : ∀ i, sN (stI' (qS Q) c i) = N := fun i => by show sN (qS Q) - 1 = N; omega
  have L := up_to (P := fun i => c ≤ i → ∀ h2 g2, Kp h1 h2 103 104 → hat h2 103 (aL 9758 g2) → (∀ j, j < N + 1 → g2 (10 + j) = (if c ≤ j ∧ j < i then sCo (qS Q) (j + 1) else sCo (qS Q) j) ∧ g2 (42 + j) = lN (if c ≤ j ∧ j < i then sTg (qS Q) (j + 1) else sTg (qS Q) j)) → g2 2 = lN N → (∀ k, k ≠ 2 → (k < 10 ∨ 74 ≤ k) → g2 k = g k) → Ev G (d + 3) 0 0 M_Mo_strike 31 [.ref 102, .int (nI c), .int (nI i)] [] h2 R) (N := N) ?_ ?_ c (by omega)
  · refine L (Nat.le_refl _) _ _ K2 (hat_set m2) (fun j hj => ?_) rfl fun k hk _ => if_neg hk
    rw [if_neg (by omega), if_neg (by omega)]
    exact ⟨(if_neg (by omega)).trans (a5 j hj).1, (if_neg (by omega)).trans (a5 j hj).2⟩
  · intro i hi ih hci h2 g2 K2 m22 r1 r2 r3
    have m12 := K2.hat m1 (by omega)
    have ms2 : MS h2 (stI' (qS Q) c i) := ⟨_, _, _, m12, m22, sli i g2 r1 r2 r3⟩
    have yes : nI i < nI (sN (stI' (qS Q) c i)) := by rw [nS]; exact nI_lt hi (by omega)
    have i10 : ∀ k : Nat, (nI (k : Nat) + nI i) + (1 : Int32) = nI (k + i + 1) := fun k => by rw [nI_add, nI_1]
    refine b_Mo_strike_31 (S1 := stI' (qS Q) c i) (g_4 := g2) (j_5 := 10 + i + 1) ms2 ⟨_, m12⟩ (fun _ => m12) (fun _ => m22) (fun _ => ⟨i10 10, by omega, by omega⟩) (fun _ => ⟨_, m12⟩) (fun _ => ms2) (fun _ => ⟨_, m12⟩) (fun _ => m12) (fun _ => ?_) (fun z => absurd yes z)
    refine s_Mo_puts (j := 10 + i) m12 m22 ⟨nI_add 10 i, by omega, by omega⟩ ?_
    have m13 := hat_ne (b := 103) (c' := aL 9758 (vp_updL g2 (10 + i) (g2 (10 + i + 1)))) m12 (by omega)
    have m23 := hat_set m22 (c' := aL 9758 (vp_updL g2 (10 + i) (g2 (10 + i + 1))))
    refine b_Mo_strike_57 (j_4 := 42 + i + 1) m13 m23 ⟨i10 42, by omega, by omega⟩ ⟨_, m13⟩ ?_
    have e42 : vp_updL g2 (10 + i) (g2 (10 + i + 1)) (42 + i + 1) = g2 (42 + i + 1) := if_neg (by omega)
    rw [e42]
    refine s_Mo_puts (j := 42 + i) m13 m23 ⟨nI_add 42 i, by omega, by omega⟩ ?_
    refine b_Mo_strike_75 ?_
    rw [nI_1]
    have q := r1 (i + 1) (by omega)
    rw [if_neg (by omega), if_neg (by omega)] at q
    refine ih (by omega) _ _ ((K2.set _ (by omega) (by omega)).set _ (by omega) (by omega)) (hat_set m23) (fun j hj => ?_) ((if_neg (by omega)).trans ((if_neg (by omega)).trans r2)) fun k hk hk2 => (if_neg (by omega)).trans ((if_neg (by omega)).trans (r3 k hk hk2))
    by_cases w : j = i
    · subst w
      rw [if_pos ⟨hci, by omega⟩, if_pos ⟨hci, by omega⟩]
      exact ⟨(if_neg (by omega)).trans ((if_pos rfl).trans q.1), (if_pos rfl).trans q.2⟩
    · have r := r1 j hj
      have eq : (c ≤ j ∧ j < i + 1) ↔ (c ≤ j ∧ j < i) := by omega
      simp only [eq]
      exact ⟨(if_neg (by omega)).trans ((if_neg (by omega)).trans r.1), (if_neg (by omega)).trans ((if_neg (by omega)).trans r.2)⟩
  · intro _ h2 g2 K2 m22 r1 r2 r3
    have m12 := K2.hat m1 (by omega)
    have s3 := sli N g2 r1 r2 r3
    have s4 : SlR g2 0 (drS (qS Q) c) := by
      obtain ⟨b0, b1, b2, b3, b4, b5, b6⟩ := s3
      refine ⟨b0, b1, b2, b3, b4, fun j hj => ?_, b6⟩
      have hj : j < sN (qS Q) - 1 := hj
      have q := b5 j hj
      have q : g2 (0 + 10 + j) = (if c ≤ j ∧ j < N then sCo (qS Q) (j + 1) else sCo (qS Q) j) ∧ g2 (0 + 42 + j) = lN (if c ≤ j ∧ j < N then sTg (qS Q) (j + 1) else sTg (qS Q) j) := q
      show g2 (0 + 10 + j) = (if j < c then sCo (qS Q) j else sCo (qS Q) (j + 1)) ∧ g2 (0 + 42 + j) = lN (if j < c then sTg (qS Q) j else sTg (qS Q) (j + 1))
      by_cases w : j < c
      · rw [if_neg (by omega), if_neg (by omega)] at q
        rw [if_pos w, if_pos w]; exact q
      · rw [if_pos (by omega), if_pos (by omega)] at q
        rw [if_neg w, if_neg w]; exact q
    have H2 := H1.edit K2 m22 s4 (fun k hk => r3 k (by omega) (Or.inr (by omega))) sl gd
    have ms2 := H2.ms
    have nS2 : sN (drS (qS Q) c) = N := by show sN (qS Q) - 1 = N; omega
    have no : ¬ nI N < nI (sN (drS (qS Q) c)) := by rw [nS2]; exact nl_self (by omega)
    refine b_Mo_strike_31 (S1 := drS (qS Q) c) (g_4 := g2) (j_5 := 0) ms2 ⟨_, m12⟩ (fun _ => m12) (fun _ => m22) (fun z => absurd z no) (fun _ => ⟨_, m12⟩) (fun _ => ms2) (fun _ => ⟨_, m12⟩) (fun _ => m12) (fun z => absurd z no) (fun _ => ?_)
    exact H2.finQ (K1.wide (by omega) (by omega) |>.trans (K2.wide (by omega) (by omega))) m12 hR e
theorem nI4 (p : Nat) : (4 : Int32) + nI p = nI (4 + p) := nI_add 4 p
theorem s_Mo_split2 {x w : Int32} (H : MR h Q) (hR : ∀ h', Kp h h' 102 126 → MR h' (a_split Q x w).2 → R (some (.int (a_split Q x w).1)) h') : Ev G (d + 3) 0 0 M_Mo_split 0 [.ref 102, .int x, .int w, ev_unk] [] h R := by
  obtain ⟨bm, z, m1⟩ := H.2.1
  have hz := H.szN
  have hzP := H.szP
  have p6 : ¬ nI (sP (qS Q)) = 6 → sP (qS Q) < 6 := fun c => by
    have : sP (qS Q) ≠ 6 := fun z => c (by rw [z]; rfl)
    omega
  refine b_Mo_split_0 (p_7 := vN x) (fun c1 => m1) (fun c1 => ⟨_, m1⟩) (fun c1 => H.ms) (fun c1 => H.ok) (fun c1 => ⟨_, m1⟩) (fun c1 c2 => m1) (fun c1 c2 => ⟨_, m1⟩) (fun c1 c2 => H.ms) (fun c1 c2 => H.ok) (fun c1 c2 => vN_lt (by omega) (b2i_n0 c2)) (fun c1 c2 => ⟨_, m1⟩) (fun c1 c2 c3 => H.ms) (fun c1 c2 c3 => ⟨_, m1⟩) (fun c1 c2 c3 c4 => m1) (fun c1 c2 c3 c4 => ⟨_, m1⟩) (fun c1 c2 c3 c4 => ⟨_, m1⟩) (fun c1 c2 c3 => m1) (fun c1 c2 c3 => ⟨_, m1⟩) (fun c1 => H.finQ (Kp.refl _ _ _) m1 hR (by unfold a_split; rw [if_pos c1])) (fun c1 c2 => H.finQ (Kp.refl _ _ _) m1 hR (by unfold a_split; rw [if_neg c1, b2i_e0 c2]; rfl)) (fun c1 c2 c3 c4 => H.finQ (Kp.refl _ _ _) m1 hR (by unfold a_split; rw [if_neg c1, b2i_n0 c2, if_pos c3, if_neg (show ¬ sP (qS Q) < 6 by have := (nI_eq (b := 6) (by omega) (by omega)).mp c4; omega)]; rfl)) (fun c1 c2 c3 c4 => ?_) (fun c1 c2 c3 => H.finQ (Kp.refl _ _ _) m1 hR (by unfold a_split; rw [if_neg c1, b2i_n0 c2, if_neg c3]; rfl))
  have hx := vN_lt (by omega) (b2i_n0 c2)
  have p6 := p6 c4
  have e : a_split Q x w = (nI (sP (qS Q) + 1), actQ Q (cutS (qS Q) (vN x) (vN w))) := by unfold a_split; rw [if_neg c1, b2i_n0 c2, if_pos c3, if_pos p6]; rfl
  have w24 := H.ok.2.2.2.2.2.1 _ hx.2
  obtain ⟨wn, hwn, rfl⟩ : ∃ k : Nat, k < 2147483648 ∧ w = nI k := nI_of (fun z => c1 (Int32.lt_trans z (by decide)))
  rw [vN_nI (by omega)] at e
  have hw : wn < sBr (qS Q) (vN x) := (nI_ltI (by omega) (by omega)).mp c3
  have gd := H.gd.cut hx.2 (by omega) (Nat.le_of_lt hw)
  clear c1 c2 c3 c4
  generalize vN x = c at hx e gd hw w24
  obtain ⟨rfl, hc⟩ := hx
  refine s_act H fun h1 K1 H1 => ?_
  have ms1 := H1.ms
  obtain ⟨bm, z, m1⟩ := H1.2.1
  obtain ⟨g, m2, sl⟩ := H1.2.2.1
  refine b_Mo_split_60 ms1 ⟨_, m1⟩ ?_
  obtain ⟨a0, a1, a2, a3, a4, a5, a6⟩ := (show SlR g 0 (qS Q) from sl.1)
  -- the breadths above move one up
  have L : ∀ (m p : Nat) (h2 : ev_H) (g2 : Nat → Int64), p = c + m → p ≤ sP (qS Q) → Kp h1 h2 103 104 → hat h2 103 (aL 9758 g2) → (∀ k, g2 k = if 4 + p < k ∧ k ≤ 4 + sP (qS Q) then g (k - 1) else g k) → Ev G (d + 3) 0 0 M_Mo_split 65 [.ref 102, .int (nI c), .int (nI wn), .int (nI p)] [] h2 R := by
    intro m
    induction m with
    | zero =>
      intro p h2 g2 ep hp K2 m22 r
      obtain rfl : p = c := by omega
      have m12 := K2.hat m1 (by omega)
      have no := nl_self (n := p) (by omega)
      refine b_Mo_split_65 (g_3 := g2) (j_4 := 0) (fun _ => m12) (fun _ => m22) (fun z => absurd z no) (fun _ => ⟨_, m12⟩) (fun _ => ⟨_, m12⟩) (fun z => absurd z no) (fun _ => ?_)
      rw [nI_l hwn]
      refine s_Mo_puts (j := 4 + p) m12 m22 ⟨nI_add 4 p, by omega, by omega⟩ ?_
      have m13 := hat_ne (b := 103) (c' := aL 9758 (vp_updL g2 (4 + p) (lN wn))) m12 (by omega)
      have m23 := hat_set m22 (c' := aL 9758 (vp_updL g2 (4 + p) (lN wn)))
      refine b_Mo_split_101 (j_4 := 4 + p + 1) m13 m23 ⟨by rw [nI4 p, nI_1], by omega, by omega⟩ ⟨_, m13⟩ ?_
      have e5 : vp_updL g2 (4 + p) (lN wn) (4 + p + 1) - (nI wn).toInt64 = lN (sBr (qS Q) p - wn) := by
        have a : vp_updL g2 (4 + p) (lN wn) (4 + p + 1) = g2 (4 + p + 1) := if_neg (by omega)
        have b := a4 p hc
        rw [Nat.zero_add] at b
        rw [a, r, if_pos (by omega), show 4 + p + 1 - 1 = 4 + p by omega, b, nI_l hwn]
        exact lN_sub' (by omega)
      rw [e5]
      refine s_Mo_puts (j := 4 + p + 1) m13 m23 ⟨by rw [nI4 p, nI_1], by omega, by omega⟩ ?_
      have K3 := (K2.set (k := 103) (aL 9758 (vp_updL g2 (4 + p) (lN wn))) (by omega) (by omega)).set (k := 103) (aL 9758 (vp_updL (vp_updL g2 (4 + p) (lN wn)) (4 + p + 1) (lN (sBr (qS Q) p - wn)))) (by omega) (by omega)
      have m24 := hat_set m23 (c' := aL 9758 (vp_updL (vp_updL g2 (4 + p) (lN wn)) (4 + p + 1) (lN (sBr (qS Q) p - wn))))
      have m14 := K3.hat m1 (by omega)
      have e1 : vp_updL (vp_updL g2 (4 + p) (lN wn)) (4 + p + 1) (lN (sBr (qS Q) p - wn)) 1 + (1 : Int64) = lN (sP (qS Q) + 1) := by
        have a : vp_updL (vp_updL g2 (4 + p) (lN wn)) (4 + p + 1) (lN (sBr (qS Q) p - wn)) 1 = lN (sP (qS Q)) := (if_neg (by omega)).trans ((if_neg (by omega)).trans ((r 1).trans ((if_neg (by omega)).trans a1)))
        rw [a, lN_1]
      have K4 := K3.set (k := 103) (aL 9758 (vp_updL (vp_updL (vp_updL g2 (4 + p) (lN wn)) (4 + p + 1) (lN (sBr (qS Q) p - wn))) 1 (lN (sP (qS Q) + 1)))) (by omega) (by omega)
      have m25 := hat_set m24 (c' := aL 9758 (vp_updL (vp_updL (vp_updL g2 (4 + p) (lN wn)) (4 + p + 1) (lN (sBr (qS Q) p - wn))) 1 (lN (sP (qS Q) + 1))))
      have u : ∀ k, k ≠ 1 → k ≠ 4 + p + 1 → k ≠ 4 + p → vp_updL (vp_updL (vp_updL g2 (4 + p) (lN wn)) (4 + p + 1) (lN (sBr (qS Q) p - wn))) 1 (lN (sP (qS Q) + 1)) k = g2 k := fun k h1 h2 h3 => (if_neg h1).trans ((if_neg h2).trans (if_neg h3))
      have uo : ∀ k, k ≠ 1 → (k < 4 ∨ 10 ≤ k) → vp_updL (vp_updL (vp_updL g2 (4 + p) (lN wn)) (4 + p + 1) (lN (sBr (qS Q) p - wn))) 1 (lN (sP (qS Q) + 1)) k = g k := fun k h1 h2 => (u k h1 (by omega) (by omega)).trans ((r k).trans (if_neg (by omega)))
      have s3 : SlR (vp_updL (vp_updL (vp_updL g2 (4 + p) (lN wn)) (4 + p + 1) (lN (sBr (qS Q) p - wn))) 1 (lN (sP (qS Q) + 1))) 0 (cutS (qS Q) p wn) := by
        refine ⟨(uo _ (by omega) (by omega)).trans a0, rfl, (uo _ (by omega) (by omega)).trans a2, (uo _ (by omega) (by omega)).trans a3, fun i hi => ?_, fun i hi => ?_, fun i hi => (uo _ (by omega) (by omega)).trans (a6 i hi)⟩
        · have hi : i < sP (qS Q) + 1 := hi
          show _ = lN (if i < p then sBr (qS Q) i else if i = p then wn else if i = p + 1 then sBr (qS Q) p - wn else sBr (qS Q) (i - 1))
          by_cases q1 : i < p
          · rw [if_pos q1]
            exact (u _ (by omega) (by omega) (by omega)).trans ((r _).trans ((if_neg (by omega)).trans (a4 i (by omega))))
          · rw [if_neg q1]
            by_cases q2 : i = p
            · rw [if_pos q2]
              exact (if_neg (by omega)).trans ((if_neg (by omega)).trans (if_pos (by omega)))
            · rw [if_neg q2]
              by_cases q3 : i = p + 1
              · rw [if_pos q3]
                exact (if_neg (by omega)).trans (if_pos (by omega))
              · rw [if_neg q3]
                have b := a4 (i - 1) (by omega)
                rw [show 0 + 4 + (i - 1) = 0 + 4 + i - 1 by omega] at b
                exact (u _ (by omega) (by omega) (by omega)).trans ((r _).trans ((if_pos (by omega)).trans b))
        · have hi : i < sN (qS Q) := hi
          exact ⟨(uo _ (by omega) (by omega)).trans (a5 i hi).1, (uo _ (by omega) (by omega)).trans (a5 i hi).2⟩
      have H2 := H1.edit K4 m25 s3 (fun k hk => uo k (by omega) (by omega)) sl gd
      have m15 := K4.hat m1 (by omega)
      have fin := H2.finQ (K1.wide (by omega) (by omega) |>.trans (K4.wide (by omega) (by omega))) m15 hR e
      refine b_Mo_split_122 (S16 := cutS (qS Q) p wn) (v_17 := moQ (keepQ Q) bm) (z_18 := z) m14 m24 ?_ ?_ ?_
      · rw [e1]; exact H2.ms
      · rw [e1]; exact m15
      · rw [e1]; exact fin
    | succ m ih =>
      intro p h2 g2 ep hp K2 m22 r
      have m12 := K2.hat m1 (by omega)
      obtain ⟨p', rfl⟩ : ∃ p', p = p' + 1 := ⟨p - 1, by omega⟩
      have yes : nI c < nI (p' + 1) := nI_lt (by omega) (by omega)
      refine b_Mo_split_65 (g_3 := g2) (j_4 := 4 + p') (fun _ => m12) (fun _ => m22) (fun _ => ⟨by rw [nI4 (p' + 1)]; exact nI_pred (4 + p'), by omega, by omega⟩) (fun _ => ⟨_, m12⟩) (fun _ => ⟨_, m12⟩) (fun _ => ?_) (fun z => absurd yes z)
      refine s_Mo_puts (j := 4 + (p' + 1)) m12 m22 ⟨nI_add 4 _, by omega, by omega⟩ ?_
      refine b_Mo_split_86 ?_
      rw [nI_dec]
      refine ih p' _ _ (by omega) (by omega) (K2.set _ (by omega) (by omega)) (hat_set m22) fun k => ?_
      show (if k = 4 + (p' + 1) then g2 (4 + p') else g2 k) = _
      by_cases q : k = 4 + (p' + 1)
      · rw [if_pos q, r, if_neg (by omega), if_pos (by omega)]; congr 1; omega
      · rw [if_neg q, r]
        by_cases q2 : 4 + (p' + 1) < k ∧ k ≤ 4 + sP (qS Q)
        · rw [if_pos q2, if_pos (by omega)]
        · rw [if_neg q2, if_neg (by omega)]
  exact L (sP (qS Q) - c) (sP (qS Q)) h1 g (by omega) (Nat.le_refl _) (Kp.refl _ _ _) m2 fun k => by rw [if_neg (by omega)]
theorem s_Mo_merge2 {x : Int32} (H : MR h Q) (hR : ∀ h', Kp h h' 102 126 → MR h' (a_merge Q x).2 → R (some (.int (a_merge Q x).1)) h') : Ev G (d + 3) 0 0 M_Mo_merge 0 [.ref 102, .int x, ev_unk, ev_unk] [] h R := by
  obtain ⟨bm, z, m1⟩ := H.2.1
  have hz := H.szN
  have hzP := H.szP
  have br24 := H.ok.2.2.2.2.2.1
  have np : ∀ (i : inR x (sP (qS Q)) = true), x + 1 = nI (vN x + 1) := fun i => by rw [(vN_lt (by omega) i).1, vN_nI (by have := (vN_lt (by omega) i).2; omega), nI_1]
  have nq : ∀ (i : inR x (sP (qS Q)) = true), ¬ x + 1 = nI (sP (qS Q)) → vN x + 1 < sP (qS Q) := fun i c => by
    have a := (vN_lt (by omega) i).2
    have : vN x + 1 ≠ sP (qS Q) := fun z => c (by rw [np i, z])
    omega
  refine b_Mo_merge_0 (p_8 := vN x) (p_10 := vN x + 1) H.ms H.ok ⟨_, m1⟩ (fun c1 => m1) (fun c1 => ⟨_, m1⟩) (fun c1 => H.ms) (fun c1 => ⟨_, m1⟩) (fun c1 c2 => m1) (fun c1 c2 => ⟨_, m1⟩) (fun c1 c2 => H.ms) (fun c1 c2 => H.ok) (fun c1 c2 => vN_lt (by omega) (b2i_n0 c1)) (fun c1 c2 => ⟨_, m1⟩) (fun c1 c2 => H.ms) (fun c1 c2 => H.ok) (fun c1 c2 => ⟨np (b2i_n0 c1), nq (b2i_n0 c1) c2⟩) (fun c1 c2 c3 => m1) (fun c1 c2 c3 => ⟨_, m1⟩) (fun c1 c2 c3 => ⟨_, m1⟩) (fun c1 => H.finQ (Kp.refl _ _ _) m1 hR (by unfold a_merge; rw [b2i_e0 c1]; rfl)) (fun c1 c2 => H.finQ (Kp.refl _ _ _) m1 hR (by rw [np (b2i_n0 c1)] at c2; unfold a_merge; rw [b2i_n0 c1, decide_eq_false (p := vN x + 1 < sP (qS Q)) (by have := (nI_eq (by have := (vN_lt (by omega) (b2i_n0 c1)).2; omega) (by omega)).mp c2; omega)]; rfl)) (fun c1 c2 c3 => ?_) (fun c1 c2 c3 => ?_)
  · have a := (vN_lt (by omega) (b2i_n0 c1)).2
    have b := nq (b2i_n0 c1) c2
    rw [nI_add] at c3
    have := br24 _ a
    have := br24 _ b
    have c3 := (nI_ltI (a := 24) (by omega) (by omega)).mp c3
    exact H.finQ (Kp.refl _ _ _) m1 hR (by unfold a_merge; rw [b2i_n0 c1, decide_eq_true (p := vN x + 1 < sP (qS Q)) b, if_neg (show ¬ _ ≤ 24 by omega)]; rfl)
  have a := (vN_lt (by omega) (b2i_n0 c1))
  have b := nq (b2i_n0 c1) c2
  have w1 := br24 _ a.2
  have w2 := br24 _ b
  rw [nI_add] at c3 ⊢
  have c3 : sBr (qS Q) (vN x) + sBr (qS Q) (vN x + 1) ≤ 24 := Nat.le_of_not_lt fun z => c3 (nI_lt (a := 24) z (by omega))
  have e : a_merge Q x = (nI (sP (qS Q) - 1), actQ Q (joinS (qS Q) (vN x))) := by unfold a_merge; rw [b2i_n0 c1, decide_eq_true (p := vN x + 1 < sP (qS Q)) b, if_pos c3]; rfl
  have gd := H.gd.join b c3
  clear c1 c2 np nq
  generalize vN x = c at a b e gd w1 w2 c3
  obtain ⟨rfl, hc⟩ := a
  refine s_act H fun h1 K1 H1 => ?_
  obtain ⟨bm, z, m1⟩ := H1.2.1
  obtain ⟨g, m2, sl⟩ := H1.2.2.1
  obtain ⟨a0, a1, a2, a3, a4, a5, a6⟩ := (show SlR g 0 (qS Q) from sl.1)
  obtain ⟨P, eP⟩ : ∃ P, sP (qS Q) = P + 1 := ⟨sP (qS Q) - 1, by omega⟩
  refine b_Mo_merge_56 ⟨_, m1⟩ ?_
  rw [nI_l (by omega)]
  refine s_Mo_puts (j := 4 + c) m1 m2 ⟨nI_add 4 c, by omega, by omega⟩ ?_
  have K2 : Kp h1 (hset h1 103 (aL 9758 (vp_updL g (4 + c) (lN (sBr (qS Q) c + sBr (qS Q) (c + 1)))))) 103 104 := (Kp.refl h1 103 104).set _ (by omega) (by omega)
  have m12 := K2.hat m1 (by omega)
  have m22 := hat_set m2 (c' := aL 9758 (vp_updL g (4 + c) (lN (sBr (qS Q) c + sBr (qS Q) (c + 1)))))
  refine b_Mo_merge_65 m12 m22 ?_
  have e1 : vp_updL g (4 + c) (lN (sBr (qS Q) c + sBr (qS Q) (c + 1))) 1 - (1 : Int64) = lN P := by
    have q : vp_updL g (4 + c) (lN (sBr (qS Q) c + sBr (qS Q) (c + 1))) 1 = lN (P + 1) := (if_neg (by omega)).trans (by rw [← eP]; exact a1)
    rw [q]; exact lN_sub' (a := P + 1) (b := 1) (by omega)
  rw [e1, nI_1]
  have K3 := K2.set (k := 103) (aL 9758 (vp_updL (vp_updL g (4 + c) (lN (sBr (qS Q) c + sBr (qS Q) (c + 1)))) 1 (lN P))) (by omega) (by omega)
  have m23 := hat_set m22 (c' := aL 9758 (vp_updL (vp_updL g (4 + c) (lN (sBr (qS Q) c + sBr (qS Q) (c + 1)))) 1 (lN P)))
  -- what stands at i
  have sli : ∀ (i : Nat) (g2 : Nat → Int64), (∀ j, j < P + 1 → g2 (4 + j) = lN (if j < c then sBr (qS Q) j else if j = c then sBr (qS Q) c + sBr (qS Q) (c + 1) else if j < i then sBr (qS Q) (j + 1) else sBr (qS Q) j)) → g2 1 = lN P → (∀ k, k ≠ 1 → (k < 4 ∨ 10 ≤ k) → g2 k = g k) → SlR g2 0 (mkS (sB (qS Q)) P (sN (qS Q)) (fun j => if j < c then sBr (qS Q) j else if j = c then sBr (qS Q) c + sBr (qS Q) (c + 1) else if j < i then sBr (qS Q) (j + 1) else sBr (qS Q) j) (sCo (qS Q)) (sTg (qS Q)) (sFl (qS Q))) := by
    intro i g2 r1 r2 r3
    refine ⟨(r3 _ (by omega) (by omega)).trans a0, r2, (r3 _ (by omega) (by omega)).trans a2, (r3 _ (by omega) (by omega)).trans a3, fun j hj => ?_, fun j hj => ?_, fun j hj => (r3 _ (by omega) (by omega)).trans (a6 j hj)⟩
    · have hj : j < P := hj
      rw [Nat.zero_add]
      exact r1 j (by omega)
    · have hj : j < sN (qS Q) := hj
      exact ⟨(r3 _ (by omega) (by omega)).trans (a5 j hj).1, (r3 _ (by omega) (by omega)).trans (a5 j hj).2⟩
  have L := up_to (P := fun i => c + 1 ≤ i → ∀ h2 g2, Kp h1 h2 103 104 → hat h2 103 (aL 9758 g2) → (∀ j, j < P + 1 → g2 (4 + j) = lN (if j < c then sBr (qS Q) j else if j = c then sBr (qS Q) c + sBr (qS Q) (c + 1) else if j < i then sBr (qS Q) (j + 1) else sBr (qS Q) j)) → g2 1 = lN P → (∀ k, k ≠ 1 → (k < 4 ∨ 10 ≤ k) → g2 k = g k) → Ev G (d + 3) 0 0 M_Mo_merge 79 [.ref 102, .int (nI c), .int (nI (sBr (qS Q) c + sBr (qS Q) (c + 1))), .int (nI i)] [] h2 R) (N := P) ?_ ?_ (c + 1) (by omega)
  · refine L (Nat.le_refl _) _ _ K3 m23 (fun j hj => ?_) rfl fun k hk hk2 => (if_neg (by omega)).trans (if_neg (by omega))
    have q := a4 j (by omega)
    rw [Nat.zero_add] at q
    by_cases q1 : j < c
    · rw [if_pos q1]; exact (if_neg (by omega)).trans ((if_neg (by omega)).trans q)
    · rw [if_neg q1]
      by_cases q2 : j = c
      · rw [if_pos q2]; exact (if_neg (by omega)).trans (if_pos (by omega))
      · rw [if_neg q2, if_neg (by omega)]; exact (if_neg (by omega)).trans ((if_neg (by omega)).trans q)
  · intro i hi ih hci h2 g2 K2 m22 r1 r2 r3
    have m12 := K2.hat m1 (by omega)
    have ms2 : MS h2 _ := ⟨_, _, _, m12, m22, sli i g2 r1 r2 r3⟩
    have yes : nI i < nI P := nI_lt hi (by omega)
    refine b_Mo_merge_79 (g_4 := g2) (j_5 := 4 + i + 1) ms2 ⟨_, m12⟩ (fun _ => m12) (fun _ => m22) (fun _ => ⟨by rw [nI4 i, nI_1], by omega, by omega⟩) (fun _ => ⟨_, m12⟩) (fun _ => ms2) (fun _ => ⟨_, m12⟩) (fun _ => m12) (fun _ => ?_) (fun z => absurd yes z)
    refine s_Mo_puts (j := 4 + i) m12 m22 ⟨nI_add 4 i, by omega, by omega⟩ ?_
    refine b_Mo_merge_103 ?_
    rw [nI_1]
    have q := r1 (i + 1) (by omega)
    rw [if_neg (by omega), if_neg (by omega), if_neg (by omega)] at q
    refine ih (by omega) _ _ (K2.set _ (by omega) (by omega)) (hat_set m22) (fun j hj => ?_) ((if_neg (by omega)).trans r2) fun k hk hk2 => (if_neg (by omega)).trans (r3 k hk hk2)
    by_cases w : j = i
    · subst w
      rw [if_neg (by omega), if_neg (by omega), if_pos (by omega)]
      exact (if_pos rfl).trans q
    · have eq : j < i + 1 ↔ j < i := by omega
      simp only [eq]
      exact (if_neg (by omega)).trans (r1 j hj)
  · intro _ h2 g2 K2 m22 r1 r2 r3
    have m12 := K2.hat m1 (by omega)
    have s3 := sli P g2 r1 r2 r3
    have s4 : SlR g2 0 (joinS (qS Q) c) := by
      obtain ⟨b0, b1, b2, b3, b4, b5, b6⟩ := s3
      refine ⟨b0, ?_, b2, b3, fun j hj => ?_, b5, b6⟩
      · show g2 (0 + 1) = lN (sP (qS Q) - 1)
        rw [eP]; exact r2
      · have hj : j < sP (qS Q) - 1 := hj
        have q := r1 j (by omega)
        rw [Nat.zero_add]
        show g2 (4 + j) = lN (if j < c then sBr (qS Q) j else if j = c then sBr (qS Q) c + sBr (qS Q) (c + 1) else sBr (qS Q) (j + 1))
        have w : j < P := by omega
        simp only [w, if_true] at q
        exact q
    have H2 := H1.edit K2 m22 s4 (fun k hk => r3 k (by omega) (Or.inr (by omega))) sl gd
    have ms2 := H2.ms
    have no : ¬ nI P < nI (sP (joinS (qS Q) c)) := by
      show ¬ nI P < nI (sP (qS Q) - 1)
      rw [eP]; exact nl_self (n := P) (by omega)
    refine b_Mo_merge_79 (S1 := joinS (qS Q) c) (g_4 := g2) (j_5 := 0) ms2 ⟨_, m12⟩ (fun _ => m12) (fun _ => m22) (fun z => absurd z no) (fun _ => ⟨_, m12⟩) (fun _ => ms2) (fun _ => ⟨_, m12⟩) (fun _ => m12) (fun z => absurd z no) (fun _ => ?_)
    exact H2.finQ (K1.wide (by omega) (by omega) |>.trans (K2.wide (by omega) (by omega))) m12 hR e
end S51
