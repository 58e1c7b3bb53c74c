/-! THE READER: filters -/
theorem b_Re_valueKind_0 {G : ev_G} {d k n : Nat} {h : ev_H} {R : Option Value → ev_H → Prop} {L1 : Nat} {T2 : Tk} {B3 : Nat → Nat} {L4 : Nat} {T5 : Tk} {B6 : Nat → Nat} {L7 : Nat} {T8 : Tk} {B9 : Nat → Nat} {L10 : Nat} {T11 : Tk} {B12 : Nat → Nat} {L13 : Nat} {T14 : Tk} {B15 : Nat → Nat} {L16 : Nat} {T17 : Tk} {B18 : Nat → Nat}
  (pr1 : 9 < 15)
  (pr2 : ReB h L1 T2)
  (pr3 : TxB h B3 L1)
  (pr4 : TkOk B3 L1 T2)
  (r5 : ∃ fs, hat h 5 (oC 4 fs))
  (pr6 : (b2i (wdB B3 T2 9)) = (0 : Int32) → 5 < 15)
  (pr7 : (b2i (wdB B3 T2 9)) = (0 : Int32) → ReB h L4 T5)
  (pr8 : (b2i (wdB B3 T2 9)) = (0 : Int32) → TxB h B6 L4)
  (pr9 : (b2i (wdB B3 T2 9)) = (0 : Int32) → TkOk B6 L4 T5)
  (r10 : (b2i (wdB B3 T2 9)) = (0 : Int32) → ∃ fs, hat h 5 (oC 4 fs))
  (pr11 : (b2i (wdB B3 T2 9)) = (0 : Int32) → (b2i (wdB B6 T5 5)) = (0 : Int32) → 10 < 15)
  (pr12 : (b2i (wdB B3 T2 9)) = (0 : Int32) → (b2i (wdB B6 T5 5)) = (0 : Int32) → ReB h L7 T8)
  (pr13 : (b2i (wdB B3 T2 9)) = (0 : Int32) → (b2i (wdB B6 T5 5)) = (0 : Int32) → TxB h B9 L7)
  (pr14 : (b2i (wdB B3 T2 9)) = (0 : Int32) → (b2i (wdB B6 T5 5)) = (0 : Int32) → TkOk B9 L7 T8)
  (r15 : (b2i (wdB B3 T2 9)) = (0 : Int32) → (b2i (wdB B6 T5 5)) = (0 : Int32) → ∃ fs, hat h 5 (oC 4 fs))
  (pr16 : (b2i (wdB B3 T2 9)) = (0 : Int32) → (b2i (wdB B6 T5 5)) = (0 : Int32) → (b2i (wdB B9 T8 10)) = (0 : Int32) → 11 < 15)
  (pr17 : (b2i (wdB B3 T2 9)) = (0 : Int32) → (b2i (wdB B6 T5 5)) = (0 : Int32) → (b2i (wdB B9 T8 10)) = (0 : Int32) → ReB h L10 T11)
  (pr18 : (b2i (wdB B3 T2 9)) = (0 : Int32) → (b2i (wdB B6 T5 5)) = (0 : Int32) → (b2i (wdB B9 T8 10)) = (0 : Int32) → TxB h B12 L10)
  (pr19 : (b2i (wdB B3 T2 9)) = (0 : Int32) → (b2i (wdB B6 T5 5)) = (0 : Int32) → (b2i (wdB B9 T8 10)) = (0 : Int32) → TkOk B12 L10 T11)
  (r20 : (b2i (wdB B3 T2 9)) = (0 : Int32) → (b2i (wdB B6 T5 5)) = (0 : Int32) → (b2i (wdB B9 T8 10)) = (0 : Int32) → ∃ fs, hat h 5 (oC 4 fs))
  (pr21 : (b2i (wdB B3 T2 9)) = (0 : Int32) → (b2i (wdB B6 T5 5)) = (0 : Int32) → (b2i (wdB B9 T8 10)) = (0 : Int32) → (b2i (wdB B12 T11 11)) = (0 : Int32) → 12 < 15)
  (pr22 : (b2i (wdB B3 T2 9)) = (0 : Int32) → (b2i (wdB B6 T5 5)) = (0 : Int32) → (b2i (wdB B9 T8 10)) = (0 : Int32) → (b2i (wdB B12 T11 11)) = (0 : Int32) → ReB h L13 T14)
  (pr23 : (b2i (wdB B3 T2 9)) = (0 : Int32) → (b2i (wdB B6 T5 5)) = (0 : Int32) → (b2i (wdB B9 T8 10)) = (0 : Int32) → (b2i (wdB B12 T11 11)) = (0 : Int32) → TxB h B15 L13)
  (pr24 : (b2i (wdB B3 T2 9)) = (0 : Int32) → (b2i (wdB B6 T5 5)) = (0 : Int32) → (b2i (wdB B9 T8 10)) = (0 : Int32) → (b2i (wdB B12 T11 11)) = (0 : Int32) → TkOk B15 L13 T14)
  (r25 : (b2i (wdB B3 T2 9)) = (0 : Int32) → (b2i (wdB B6 T5 5)) = (0 : Int32) → (b2i (wdB B9 T8 10)) = (0 : Int32) → (b2i (wdB B12 T11 11)) = (0 : Int32) → ∃ fs, hat h 5 (oC 4 fs))
  (pr26 : (b2i (wdB B3 T2 9)) = (0 : Int32) → (b2i (wdB B6 T5 5)) = (0 : Int32) → (b2i (wdB B9 T8 10)) = (0 : Int32) → (b2i (wdB B12 T11 11)) = (0 : Int32) → (b2i (wdB B15 T14 12)) = (0 : Int32) → 13 < 15)
  (pr27 : (b2i (wdB B3 T2 9)) = (0 : Int32) → (b2i (wdB B6 T5 5)) = (0 : Int32) → (b2i (wdB B9 T8 10)) = (0 : Int32) → (b2i (wdB B12 T11 11)) = (0 : Int32) → (b2i (wdB B15 T14 12)) = (0 : Int32) → ReB h L16 T17)
  (pr28 : (b2i (wdB B3 T2 9)) = (0 : Int32) → (b2i (wdB B6 T5 5)) = (0 : Int32) → (b2i (wdB B9 T8 10)) = (0 : Int32) → (b2i (wdB B12 T11 11)) = (0 : Int32) → (b2i (wdB B15 T14 12)) = (0 : Int32) → TxB h B18 L16)
  (pr29 : (b2i (wdB B3 T2 9)) = (0 : Int32) → (b2i (wdB B6 T5 5)) = (0 : Int32) → (b2i (wdB B9 T8 10)) = (0 : Int32) → (b2i (wdB B12 T11 11)) = (0 : Int32) → (b2i (wdB B15 T14 12)) = (0 : Int32) → TkOk B18 L16 T17)
  (r30 : (b2i (wdB B3 T2 9)) = (0 : Int32) → (b2i (wdB B6 T5 5)) = (0 : Int32) → (b2i (wdB B9 T8 10)) = (0 : Int32) → (b2i (wdB B12 T11 11)) = (0 : Int32) → (b2i (wdB B15 T14 12)) = (0 : Int32) → ∃ fs, hat h 5 (oC 4 fs))
  (k1 : (b2i (wdB B3 T2 9)) = (0 : Int32) → (b2i (wdB B6 T5 5)) = (0 : Int32) → (b2i (wdB B9 T8 10)) = (0 : Int32) → (b2i (wdB B12 T11 11)) = (0 : Int32) → (b2i (wdB B15 T14 12)) = (0 : Int32) → (b2i (wdB B18 T17 13)) = (0 : Int32) → R (some (.int (-1 : Int32))) h)
  (k2 : (b2i (wdB B3 T2 9)) = (0 : Int32) → (b2i (wdB B6 T5 5)) = (0 : Int32) → (b2i (wdB B9 T8 10)) = (0 : Int32) → (b2i (wdB B12 T11 11)) = (0 : Int32) → (b2i (wdB B15 T14 12)) = (0 : Int32) → ¬ (b2i (wdB B18 T17 13)) = (0 : Int32) → R (some (.int (8 : Int32))) h)
  (k3 : (b2i (wdB B3 T2 9)) = (0 : Int32) → (b2i (wdB B6 T5 5)) = (0 : Int32) → (b2i (wdB B9 T8 10)) = (0 : Int32) → (b2i (wdB B12 T11 11)) = (0 : Int32) → ¬ (b2i (wdB B15 T14 12)) = (0 : Int32) → R (some (.int (7 : Int32))) h)
  (k4 : (b2i (wdB B3 T2 9)) = (0 : Int32) → (b2i (wdB B6 T5 5)) = (0 : Int32) → (b2i (wdB B9 T8 10)) = (0 : Int32) → ¬ (b2i (wdB B12 T11 11)) = (0 : Int32) → R (some (.int (6 : Int32))) h)
  (k5 : (b2i (wdB B3 T2 9)) = (0 : Int32) → (b2i (wdB B6 T5 5)) = (0 : Int32) → ¬ (b2i (wdB B9 T8 10)) = (0 : Int32) → R (some (.int (5 : Int32))) h)
  (k6 : (b2i (wdB B3 T2 9)) = (0 : Int32) → ¬ (b2i (wdB B6 T5 5)) = (0 : Int32) → R (some (.int (4 : Int32))) h)
  (k7 : ¬ (b2i (wdB B3 T2 9)) = (0 : Int32) → R (some (.int (3 : Int32))) h)
  : Ev G (d + 5) k n M_Re_valueKind 0 [.ref 5] [] h R :=
  Ev.go (pc' := 1) (ls' := [.ref 5]) (st' := [.ref 5]) [.aload_n 0] (by decide +kernel) rfl <|
  Ev.ldcS (i := 9) rfl (by decide +kernel) <|
  Ev.cV0 (M' := M_Re_isWord) (as := [.ref (ev_big + 9)]) (rest := []) l_Re_66 M_Re_isWord_ok M_Re_isWord_in M_Re_isWord_se (by decide +kernel) r5 rfl rfl rfl (Nat.le_of_ble_eq_true rfl) (Nat.le_of_ble_eq_true rfl) (s_Re_isWord pr1 pr2 pr3 pr4 <| show Ev G (d + 5) _ _ M_Re_valueKind 6 [.ref 5] [.int (b2i (wdB B3 T2 9))] h R from
    Ev.br (i := .ifCond .eq (5)) (P := (b2i (wdB B3 T2 9)) = (0 : Int32)) (t := 11) (f := 9) (r := []) (by decide +kernel) rfl (fun c1 =>
      Ev.go (pc' := 12) (ls' := [.ref 5]) (st' := [.ref 5]) [.aload_n 0] (by decide +kernel) rfl <|
      Ev.ldcS (i := 5) rfl (by decide +kernel) <|
      Ev.cV0 (M' := M_Re_isWord) (as := [.ref (ev_big + 5)]) (rest := []) l_Re_66 M_Re_isWord_ok M_Re_isWord_in M_Re_isWord_se (by decide +kernel) (r10 c1) rfl rfl rfl (Nat.le_of_ble_eq_true rfl) (Nat.le_of_ble_eq_true rfl) (s_Re_isWord (pr6 c1) (pr7 c1) (pr8 c1) (pr9 c1) <| show Ev G (d + 5) _ _ M_Re_valueKind 17 [.ref 5] [.int (b2i (wdB B6 T5 5))] h R from
        Ev.br (i := .ifCond .eq (5)) (P := (b2i (wdB B6 T5 5)) = (0 : Int32)) (t := 22) (f := 20) (r := []) (by decide +kernel) rfl (fun c2 =>
          Ev.go (pc' := 23) (ls' := [.ref 5]) (st' := [.ref 5]) [.aload_n 0] (by decide +kernel) rfl <|
          Ev.ldcS (i := 10) rfl (by decide +kernel) <|
          Ev.cV0 (M' := M_Re_isWord) (as := [.ref (ev_big + 10)]) (rest := []) l_Re_66 M_Re_isWord_ok M_Re_isWord_in M_Re_isWord_se (by decide +kernel) (r15 c1 c2) rfl rfl rfl (Nat.le_of_ble_eq_true rfl) (Nat.le_of_ble_eq_true rfl) (s_Re_isWord (pr11 c1 c2) (pr12 c1 c2) (pr13 c1 c2) (pr14 c1 c2) <| show Ev G (d + 5) _ _ M_Re_valueKind 28 [.ref 5] [.int (b2i (wdB B9 T8 10))] h R from
            Ev.br (i := .ifCond .eq (5)) (P := (b2i (wdB B9 T8 10)) = (0 : Int32)) (t := 33) (f := 31) (r := []) (by decide +kernel) rfl (fun c3 =>
              Ev.go (pc' := 34) (ls' := [.ref 5]) (st' := [.ref 5]) [.aload_n 0] (by decide +kernel) rfl <|
              Ev.ldcS (i := 11) rfl (by decide +kernel) <|
              Ev.cV0 (M' := M_Re_isWord) (as := [.ref (ev_big + 11)]) (rest := []) l_Re_66 M_Re_isWord_ok M_Re_isWord_in M_Re_isWord_se (by decide +kernel) (r20 c1 c2 c3) rfl rfl rfl (Nat.le_of_ble_eq_true rfl) (Nat.le_of_ble_eq_true rfl) (s_Re_isWord (pr16 c1 c2 c3) (pr17 c1 c2 c3) (pr18 c1 c2 c3) (pr19 c1 c2 c3) <| show Ev G (d + 5) _ _ M_Re_valueKind 39 [.ref 5] [.int (b2i (wdB B12 T11 11))] h R from
                Ev.br (i := .ifCond .eq (6)) (P := (b2i (wdB B12 T11 11)) = (0 : Int32)) (t := 45) (f := 42) (r := []) (by decide +kernel) rfl (fun c4 =>
                  Ev.go (pc' := 46) (ls' := [.ref 5]) (st' := [.ref 5]) [.aload_n 0] (by decide +kernel) rfl <|
                  Ev.ldcS (i := 12) rfl (by decide +kernel) <|
                  Ev.cV0 (M' := M_Re_isWord) (as := [.ref (ev_big + 12)]) (rest := []) l_Re_66 M_Re_isWord_ok M_Re_isWord_in M_Re_isWord_se (by decide +kernel) (r25 c1 c2 c3 c4) rfl rfl rfl (Nat.le_of_ble_eq_true rfl) (Nat.le_of_ble_eq_true rfl) (s_Re_isWord (pr21 c1 c2 c3 c4) (pr22 c1 c2 c3 c4) (pr23 c1 c2 c3 c4) (pr24 c1 c2 c3 c4) <| show Ev G (d + 5) _ _ M_Re_valueKind 51 [.ref 5] [.int (b2i (wdB B15 T14 12))] h R from
                    Ev.br (i := .ifCond .eq (6)) (P := (b2i (wdB B15 T14 12)) = (0 : Int32)) (t := 57) (f := 54) (r := []) (by decide +kernel) rfl (fun c5 =>
                      Ev.go (pc' := 58) (ls' := [.ref 5]) (st' := [.ref 5]) [.aload_n 0] (by decide +kernel) rfl <|
                      Ev.ldcS (i := 13) rfl (by decide +kernel) <|
                      Ev.cV0 (M' := M_Re_isWord) (as := [.ref (ev_big + 13)]) (rest := []) l_Re_66 M_Re_isWord_ok M_Re_isWord_in M_Re_isWord_se (by decide +kernel) (r30 c1 c2 c3 c4 c5) rfl rfl rfl (Nat.le_of_ble_eq_true rfl) (Nat.le_of_ble_eq_true rfl) (s_Re_isWord (pr26 c1 c2 c3 c4 c5) (pr27 c1 c2 c3 c4 c5) (pr28 c1 c2 c3 c4 c5) (pr29 c1 c2 c3 c4 c5) <| show Ev G (d + 5) _ _ M_Re_valueKind 63 [.ref 5] [.int (b2i (wdB B18 T17 13))] h R from
                        Ev.br (i := .ifCond .eq (8)) (P := (b2i (wdB B18 T17 13)) = (0 : Int32)) (t := 71) (f := 66) (r := []) (by decide +kernel) rfl (fun c6 =>
                          Ev.go (pc' := 72) (ls' := [.ref 5]) (st' := [.int (-1 : Int32)]) [.iconst (-1)] (by decide +kernel) rfl <|
                          Ev.ret (r := (some (.int (-1 : Int32)))) (Or.inl ⟨_, rfl, by decide +kernel, _, rfl, rfl⟩) (k1 c1 c2 c3 c4 c5 c6)
                        ) (fun c6 =>
                          Ev.go (pc' := 72) (ls' := [.ref 5]) (st' := [.int (8 : Int32)]) [.bipush (8), .goto (4)] (by decide +kernel) rfl <|
                          Ev.ret (r := (some (.int (8 : Int32)))) (Or.inl ⟨_, rfl, by decide +kernel, _, rfl, rfl⟩) (k2 c1 c2 c3 c4 c5 c6)
                        )
                      )
                    ) (fun c5 =>
                      Ev.go (pc' := 56) (ls' := [.ref 5]) (st' := [.int (7 : Int32)]) [.bipush (7)] (by decide +kernel) rfl <|
                      Ev.ret (r := (some (.int (7 : Int32)))) (Or.inl ⟨_, rfl, by decide +kernel, _, rfl, rfl⟩) (k3 c1 c2 c3 c4 c5)
                    )
                  )
                ) (fun c4 =>
                  Ev.go (pc' := 44) (ls' := [.ref 5]) (st' := [.int (6 : Int32)]) [.bipush (6)] (by decide +kernel) rfl <|
                  Ev.ret (r := (some (.int (6 : Int32)))) (Or.inl ⟨_, rfl, by decide +kernel, _, rfl, rfl⟩) (k4 c1 c2 c3 c4)
                )
              )
            ) (fun c3 =>
              Ev.go (pc' := 32) (ls' := [.ref 5]) (st' := [.int (5 : Int32)]) [.iconst 5] (by decide +kernel) rfl <|
              Ev.ret (r := (some (.int (5 : Int32)))) (Or.inl ⟨_, rfl, by decide +kernel, _, rfl, rfl⟩) (k5 c1 c2 c3)
            )
          )
        ) (fun c2 =>
          Ev.go (pc' := 21) (ls' := [.ref 5]) (st' := [.int (4 : Int32)]) [.iconst 4] (by decide +kernel) rfl <|
          Ev.ret (r := (some (.int (4 : Int32)))) (Or.inl ⟨_, rfl, by decide +kernel, _, rfl, rfl⟩) (k6 c1 c2)
        )
      )
    ) (fun c1 =>
      Ev.go (pc' := 10) (ls' := [.ref 5]) (st' := [.int (3 : Int32)]) [.iconst 3] (by decide +kernel) rfl <|
      Ev.ret (r := (some (.int (3 : Int32)))) (Or.inl ⟨_, rfl, by decide +kernel, _, rfl, rfl⟩) (k7 c1)
    )
  )
theorem b_Re_readComparison_0 {G : ev_G} {d k n : Nat} {h : ev_H} {R : Option Value → ev_H → Prop} {x1 : Int32}
  (r1 : ¬ x1 = (-1 : Int32) → ∃ fs, hat h 5 (oC 4 fs))
  (k1 : x1 = (-1 : Int32) → R (some (.int (2 : Int32))) h)
  (k2 : ¬ x1 = (-1 : Int32) → Ev G d 0 0 M_Re_next 0 [.ref 5, ev_unk, ev_unk, ev_unk, ev_unk, ev_unk, ev_unk, ev_unk] [] h (fun r h1 => Ev G (d + 1) k n M_Re_readComparison 11 [.ref 5, .int x1, ev_unk, ev_unk, ev_unk, ev_unk, ev_unk] (r.toList ++ []) h1 R))
  : Ev G (d + 1) k n M_Re_readComparison 0 [.ref 5, .int x1, ev_unk, ev_unk, ev_unk, ev_unk, ev_unk] [] h R :=
  Ev.go (pc' := 2) (ls' := [.ref 5, .int x1, ev_unk, ev_unk, ev_unk, ev_unk, ev_unk]) (st' := [.int (-1 : Int32), .int x1]) [.iload_n 1, .iconst (-1)] (by decide +kernel) rfl <|
  Ev.br (i := .if_icmp .ne (5)) (P := x1 = (-1 : Int32)) (t := 5) (f := 7) (r := []) (by decide +kernel) rfl (fun c1 =>
    Ev.go (pc' := 6) (ls' := [.ref 5, .int x1, ev_unk, ev_unk, ev_unk, ev_unk, ev_unk]) (st' := [.int (2 : Int32)]) [.iconst 2] (by decide +kernel) rfl <|
    Ev.ret (r := (some (.int (2 : Int32)))) (Or.inl ⟨_, rfl, by decide +kernel, _, rfl, rfl⟩) (k1 c1)
  ) (fun c1 =>
    Ev.go (pc' := 8) (ls' := [.ref 5, .int x1, ev_unk, ev_unk, ev_unk, ev_unk, ev_unk]) (st' := [.ref 5]) [.aload_n 0] (by decide +kernel) rfl <|
    Ev.cV0 (M' := M_Re_next) (as := []) (rest := []) l_Re_61 M_Re_next_ok M_Re_next_in M_Re_next_se (by decide +kernel) (r1 c1) rfl rfl rfl (Nat.le_of_ble_eq_true rfl) (Nat.le_of_ble_eq_true rfl) (k2 c1)
  )
theorem b_Re_readComparison_11 {G : ev_G} {d k n : Nat} {h : ev_H} {R : Option Value → ev_H → Prop} {x1 : Int32}
  (k1 : x1 = (6 : Int32) → Ev G (d + 1) k n M_Re_readComparison 25 [.ref 5, .int x1, .int (0 : Int32), ev_unk, ev_unk, ev_unk, ev_unk] [] h R)
  (k2 : ¬ x1 = (6 : Int32) → x1 = (7 : Int32) → Ev G (d + 1) k n M_Re_readComparison 25 [.ref 5, .int x1, .int (0 : Int32), ev_unk, ev_unk, ev_unk, ev_unk] [] h R)
  (k3 : ¬ x1 = (6 : Int32) → ¬ x1 = (7 : Int32) → Ev G (d + 1) k n M_Re_readComparison 67 [.ref 5, .int x1, .int (0 : Int32), ev_unk, ev_unk, ev_unk, ev_unk] [] h R)
  : Ev G (d + 1) k n M_Re_readComparison 11 [.ref 5, .int x1, ev_unk, ev_unk, ev_unk, ev_unk, ev_unk] [] h R :=
  Ev.go (pc' := 16) (ls' := [.ref 5, .int x1, .int (0 : Int32), ev_unk, ev_unk, ev_unk, ev_unk]) (st' := [.int (6 : Int32), .int x1]) [.iconst 0, .istore_n 2, .iload_n 1, .bipush (6)] (by decide +kernel) rfl <|
  Ev.br (i := .if_icmp .eq (9)) (P := x1 = (6 : Int32)) (t := 25) (f := 19) (r := []) (by decide +kernel) rfl (fun c1 =>
    (k1 c1)
  ) (fun c1 =>
    Ev.go (pc' := 22) (ls' := [.ref 5, .int x1, .int (0 : Int32), ev_unk, ev_unk, ev_unk, ev_unk]) (st' := [.int (7 : Int32), .int x1]) [.iload_n 1, .bipush (7)] (by decide +kernel) rfl <|
    Ev.br (i := .if_icmp .ne (45)) (P := x1 = (7 : Int32)) (t := 25) (f := 67) (r := []) (by decide +kernel) rfl (fun c2 =>
      (k2 c1 c2)
    ) (fun c2 =>
      (k3 c1 c2)
    )
  )
theorem b_Re_readComparison_25 {G : ev_G} {d k n : Nat} {h : ev_H} {R : Option Value → ev_H → Prop} {x1 : Int32} {x2 : Int32} {f_length_1 : Int32} {f_kind_2 : Int32} {f_start_3 : Int32} {f_end_4 : Int32} {f_bits_5 : Int32} {f_parts_6 : Int32} {f_size_7 : Int32} {fv8 : Value} {L9 : Nat} {T10 : Tk} {B11 : Nat → Nat} {lo12 : Nat} {hi13 : Nat} {L14 : Nat} {T15 : Tk} {B16 : Nat → Nat} {lo17 : Nat} {hi18 : Nat}
  (a1 : hat h 5 (oC 4 [.ref 6, .ref 12, .ref 14, .ref 13, .int f_length_1, .int f_kind_2, .int f_start_3, .int f_end_4]))
  (a2 : hat h 14 (oC 6 [.int f_bits_5, .int f_parts_6, .ref 15, .int f_size_7, .ref 16, .ref 17, fv8]))
  (pr3 : x1 = (6 : Int32) → ReB h L9 T10)
  (pr4 : x1 = (6 : Int32) → TxB h B11 L9)
  (pr5 : x1 = (6 : Int32) → TkOk B11 L9 T10)
  (pr6 : x1 = (6 : Int32) → (0 : Int32) = nI lo12 ∧ lo12 < 2147483648)
  (pr7 : x1 = (6 : Int32) → (f_bits_5 - (1 : Int32)) = nI hi13 ∧ hi13 < 2147483648)
  (pr8 : ¬ x1 = (6 : Int32) → ReB h L14 T15)
  (pr9 : ¬ x1 = (6 : Int32) → TxB h B16 L14)
  (pr10 : ¬ x1 = (6 : Int32) → TkOk B16 L14 T15)
  (pr11 : ¬ x1 = (6 : Int32) → (0 : Int32) = nI lo17 ∧ lo17 < 2147483648)
  (pr12 : ¬ x1 = (6 : Int32) → (f_parts_6 - (1 : Int32)) = nI hi18 ∧ hi18 < 2147483648)
  (k1 : x1 = (6 : Int32) → (nA (pNum B11 T10 lo12 hi13)) < (0 : Int32) → R (some (.int (-(nA (pNum B11 T10 lo12 hi13))))) h)
  (k2 : x1 = (6 : Int32) → ¬ (nA (pNum B11 T10 lo12 hi13)) < (0 : Int32) → Ev G d 0 0 M_Re_next 0 [.ref 5, ev_unk, ev_unk, ev_unk, ev_unk, ev_unk, ev_unk, ev_unk] [] h (fun r h1 => Ev G (d + 1) k n M_Re_readComparison 67 [.ref 5, .int x1, .int (nA (pNum B11 T10 lo12 hi13)), ev_unk, ev_unk, ev_unk, ev_unk] (r.toList ++ []) h1 R))
  (k3 : ¬ x1 = (6 : Int32) → (nA (pNum B16 T15 lo17 hi18)) < (0 : Int32) → R (some (.int (-(nA (pNum B16 T15 lo17 hi18))))) h)
  (k4 : ¬ x1 = (6 : Int32) → ¬ (nA (pNum B16 T15 lo17 hi18)) < (0 : Int32) → Ev G d 0 0 M_Re_next 0 [.ref 5, ev_unk, ev_unk, ev_unk, ev_unk, ev_unk, ev_unk, ev_unk] [] h (fun r h1 => Ev G (d + 1) k n M_Re_readComparison 67 [.ref 5, .int x1, .int (nA (pNum B16 T15 lo17 hi18)), ev_unk, ev_unk, ev_unk, ev_unk] (r.toList ++ []) h1 R))
  : Ev G (d + 1) k n M_Re_readComparison 25 [.ref 5, .int x1, .int x2, ev_unk, ev_unk, ev_unk, ev_unk] [] h R :=
  Ev.go (pc' := 30) (ls' := [.ref 5, .int x1, .int x2, ev_unk, ev_unk, ev_unk, ev_unk]) (st' := [.int (6 : Int32), .int x1, .int (0 : Int32), .ref 5]) [.aload_n 0, .iconst 0, .iload_n 1, .bipush (6)] (by decide +kernel) rfl <|
  Ev.br (i := .if_icmp .ne (13)) (P := x1 = (6 : Int32)) (t := 33) (f := 43) (r := [.int (0 : Int32), .ref 5]) (by decide +kernel) rfl (fun c1 =>
    Ev.go (pc' := 34) (ls' := [.ref 5, .int x1, .int x2, ev_unk, ev_unk, ev_unk, ev_unk]) (st' := [.ref 5, .int (0 : Int32), .ref 5]) [.aload_n 0] (by decide +kernel) rfl <|
    Ev.getf f_Re_28 (by decide +kernel) a1 rfl <|
    Ev.getf f_Re_108 (by decide +kernel) a2 rfl <|
    Ev.go (pc' := 52) (ls' := [.ref 5, .int x1, .int x2, ev_unk, ev_unk, ev_unk, ev_unk]) (st' := [.int (f_bits_5 - (1 : Int32)), .int (0 : Int32), .ref 5]) [.goto (10), .iconst 1, .isub] (by decide +kernel) rfl <|
    Ev.cV0 (M' := M_Re_number) (as := [.int (0 : Int32), .int (f_bits_5 - (1 : Int32))]) (rest := []) l_Re_112 M_Re_number_ok M_Re_number_in M_Re_number_se (by decide +kernel) ⟨_, a1⟩ rfl rfl rfl (Nat.le_of_ble_eq_true rfl) (Nat.le_of_ble_eq_true rfl) (s_Re_number (pr3 c1) (pr4 c1) (pr5 c1) (pr6 c1) (pr7 c1) <| show Ev G (d + 1) _ _ M_Re_readComparison 55 [.ref 5, .int x1, .int x2, ev_unk, ev_unk, ev_unk, ev_unk] [.int (nA (pNum B11 T10 lo12 hi13))] h R from
      Ev.go (pc' := 57) (ls' := [.ref 5, .int x1, .int (nA (pNum B11 T10 lo12 hi13)), ev_unk, ev_unk, ev_unk, ev_unk]) (st' := [.int (nA (pNum B11 T10 lo12 hi13))]) [.istore_n 2, .iload_n 2] (by decide +kernel) rfl <|
      Ev.br (i := .ifCond .ge (6)) (P := (nA (pNum B11 T10 lo12 hi13)) < (0 : Int32)) (t := 60) (f := 63) (r := []) (by decide +kernel) rfl (fun c2 =>
        Ev.go (pc' := 62) (ls' := [.ref 5, .int x1, .int (nA (pNum B11 T10 lo12 hi13)), ev_unk, ev_unk, ev_unk, ev_unk]) (st' := [.int (-(nA (pNum B11 T10 lo12 hi13)))]) [.iload_n 2, .ineg] (by decide +kernel) rfl <|
        Ev.ret (r := (some (.int (-(nA (pNum B11 T10 lo12 hi13)))))) (Or.inl ⟨_, rfl, by decide +kernel, _, rfl, rfl⟩) (k1 c1 c2)
      ) (fun c2 =>
        Ev.go (pc' := 64) (ls' := [.ref 5, .int x1, .int (nA (pNum B11 T10 lo12 hi13)), ev_unk, ev_unk, ev_unk, ev_unk]) (st' := [.ref 5]) [.aload_n 0] (by decide +kernel) rfl <|
        Ev.cV0 (M' := M_Re_next) (as := []) (rest := []) l_Re_61 M_Re_next_ok M_Re_next_in M_Re_next_se (by decide +kernel) ⟨_, a1⟩ rfl rfl rfl (Nat.le_of_ble_eq_true rfl) (Nat.le_of_ble_eq_true rfl) (k2 c1 c2)
      )
    )
  ) (fun c1 =>
    Ev.go (pc' := 44) (ls' := [.ref 5, .int x1, .int x2, ev_unk, ev_unk, ev_unk, ev_unk]) (st' := [.ref 5, .int (0 : Int32), .ref 5]) [.aload_n 0] (by decide +kernel) rfl <|
    Ev.getf f_Re_28 (by decide +kernel) a1 rfl <|
    Ev.getf f_Re_122 (by decide +kernel) a2 rfl <|
    Ev.go (pc' := 52) (ls' := [.ref 5, .int x1, .int x2, ev_unk, ev_unk, ev_unk, ev_unk]) (st' := [.int (f_parts_6 - (1 : Int32)), .int (0 : Int32), .ref 5]) [.iconst 1, .isub] (by decide +kernel) rfl <|
    Ev.cV0 (M' := M_Re_number) (as := [.int (0 : Int32), .int (f_parts_6 - (1 : Int32))]) (rest := []) l_Re_112 M_Re_number_ok M_Re_number_in M_Re_number_se (by decide +kernel) ⟨_, a1⟩ rfl rfl rfl (Nat.le_of_ble_eq_true rfl) (Nat.le_of_ble_eq_true rfl) (s_Re_number (pr8 c1) (pr9 c1) (pr10 c1) (pr11 c1) (pr12 c1) <| show Ev G (d + 1) _ _ M_Re_readComparison 55 [.ref 5, .int x1, .int x2, ev_unk, ev_unk, ev_unk, ev_unk] [.int (nA (pNum B16 T15 lo17 hi18))] h R from
      Ev.go (pc' := 57) (ls' := [.ref 5, .int x1, .int (nA (pNum B16 T15 lo17 hi18)), ev_unk, ev_unk, ev_unk, ev_unk]) (st' := [.int (nA (pNum B16 T15 lo17 hi18))]) [.istore_n 2, .iload_n 2] (by decide +kernel) rfl <|
      Ev.br (i := .ifCond .ge (6)) (P := (nA (pNum B16 T15 lo17 hi18)) < (0 : Int32)) (t := 60) (f := 63) (r := []) (by decide +kernel) rfl (fun c2 =>
        Ev.go (pc' := 62) (ls' := [.ref 5, .int x1, .int (nA (pNum B16 T15 lo17 hi18)), ev_unk, ev_unk, ev_unk, ev_unk]) (st' := [.int (-(nA (pNum B16 T15 lo17 hi18)))]) [.iload_n 2, .ineg] (by decide +kernel) rfl <|
        Ev.ret (r := (some (.int (-(nA (pNum B16 T15 lo17 hi18)))))) (Or.inl ⟨_, rfl, by decide +kernel, _, rfl, rfl⟩) (k3 c1 c2)
      ) (fun c2 =>
        Ev.go (pc' := 64) (ls' := [.ref 5, .int x1, .int (nA (pNum B16 T15 lo17 hi18)), ev_unk, ev_unk, ev_unk, ev_unk]) (st' := [.ref 5]) [.aload_n 0] (by decide +kernel) rfl <|
        Ev.cV0 (M' := M_Re_next) (as := []) (rest := []) l_Re_61 M_Re_next_ok M_Re_next_in M_Re_next_se (by decide +kernel) ⟨_, a1⟩ rfl rfl rfl (Nat.le_of_ble_eq_true rfl) (Nat.le_of_ble_eq_true rfl) (k4 c1 c2)
      )
    )
  )
theorem b_Re_readComparison_67 {G : ev_G} {d k n : Nat} {h : ev_H} {R : Option Value → ev_H → Prop} {x1 : Int32} {x2 : Int32} {L1 : Nat} {T2 : Tk} {B3 : Nat → Nat} {S4 : AS}
  (pr1 : x1 = (8 : Int32) → ReB h L1 T2)
  (pr2 : x1 = (8 : Int32) → TxB h B3 L1)
  (pr3 : x1 = (8 : Int32) → TkOk B3 L1 T2)
  (pr4 : x1 = (8 : Int32) → StR h 14 S4)
  (pr5 : x1 = (8 : Int32) → sB S4 ≤ 48)
  (r6 : x1 = (8 : Int32) → ∃ fs, hat h 5 (oC 4 fs))
  (r7 : x1 = (8 : Int32) → ¬ (bA (pBin B3 T2 (sB S4))) < (0 : Int64) → ∃ fs, hat h 5 (oC 4 fs))
  (k1 : x1 = (8 : Int32) → (bA (pBin B3 T2 (sB S4))) < (0 : Int64) → R (some (.int (-(bA (pBin B3 T2 (sB S4)))).toInt32)) h)
  (k2 : x1 = (8 : Int32) → ¬ (bA (pBin B3 T2 (sB S4))) < (0 : Int64) → Ev G d 0 0 M_Re_next 0 [.ref 5, ev_unk, ev_unk, ev_unk, ev_unk, ev_unk, ev_unk, ev_unk] [] h (fun r h1 => Ev G (d + 1) k n M_Re_readComparison 94 [.ref 5, .int x1, .int x2, .long (bA (pBin B3 T2 (sB S4))), ev_unk, ev_unk, ev_unk] (r.toList ++ []) h1 R))
  (k3 : ¬ x1 = (8 : Int32) → Ev G (d + 1) k n M_Re_readComparison 94 [.ref 5, .int x1, .int x2, .long (0 : Int64), ev_unk, ev_unk, ev_unk] [] h R)
  : Ev G (d + 1) k n M_Re_readComparison 67 [.ref 5, .int x1, .int x2, ev_unk, ev_unk, ev_unk, ev_unk] [] h R :=
  Ev.go (pc' := 72) (ls' := [.ref 5, .int x1, .int x2, .long (0 : Int64), ev_unk, ev_unk, ev_unk]) (st' := [.int (8 : Int32), .int x1]) [.lconst 0, .lstore_n 3, .iload_n 1, .bipush (8)] (by decide +kernel) rfl <|
  Ev.br (i := .if_icmp .ne (22)) (P := x1 = (8 : Int32)) (t := 75) (f := 94) (r := []) (by decide +kernel) rfl (fun c1 =>
    Ev.go (pc' := 76) (ls' := [.ref 5, .int x1, .int x2, .long (0 : Int64), ev_unk, ev_unk, ev_unk]) (st' := [.ref 5]) [.aload_n 0] (by decide +kernel) rfl <|
    Ev.cV0 (M' := M_Re_binary) (as := []) (rest := []) l_Re_127 M_Re_binary_ok M_Re_binary_in M_Re_binary_se (by decide +kernel) (r6 c1) rfl rfl rfl (Nat.le_of_ble_eq_true rfl) (Nat.le_of_ble_eq_true rfl) (s_Re_binary (pr1 c1) (pr2 c1) (pr3 c1) (pr4 c1) (pr5 c1) <| show Ev G (d + 1) _ _ M_Re_readComparison 79 [.ref 5, .int x1, .int x2, .long (0 : Int64), ev_unk, ev_unk, ev_unk] [.long (bA (pBin B3 T2 (sB S4)))] h R from
      Ev.go (pc' := 82) (ls' := [.ref 5, .int x1, .int x2, .long (bA (pBin B3 T2 (sB S4))), ev_unk, ev_unk, ev_unk]) (st' := [.long (0 : Int64), .long (bA (pBin B3 T2 (sB S4)))]) [.lstore_n 3, .lload_n 3, .lconst 0] (by decide +kernel) rfl <|
      Ev.brl (c := .ge) (o := 7) (P := (bA (pBin B3 T2 (sB S4))) < (0 : Int64)) (t := 86) (f := 90) (t1 := 90) (by decide +kernel) (by decide +kernel) rfl rfl (fun c2 =>
        Ev.go (pc' := 89) (ls' := [.ref 5, .int x1, .int x2, .long (bA (pBin B3 T2 (sB S4))), ev_unk, ev_unk, ev_unk]) (st' := [.int (-(bA (pBin B3 T2 (sB S4)))).toInt32]) [.lload_n 3, .lneg, .l2i] (by decide +kernel) rfl <|
        Ev.ret (r := (some (.int (-(bA (pBin B3 T2 (sB S4)))).toInt32))) (Or.inl ⟨_, rfl, by decide +kernel, _, rfl, rfl⟩) (k1 c1 c2)
      ) (fun c2 =>
        Ev.go (pc' := 91) (ls' := [.ref 5, .int x1, .int x2, .long (bA (pBin B3 T2 (sB S4))), ev_unk, ev_unk, ev_unk]) (st' := [.ref 5]) [.aload_n 0] (by decide +kernel) rfl <|
        Ev.cV0 (M' := M_Re_next) (as := []) (rest := []) l_Re_61 M_Re_next_ok M_Re_next_in M_Re_next_se (by decide +kernel) (r7 c1 c2) rfl rfl rfl (Nat.le_of_ble_eq_true rfl) (Nat.le_of_ble_eq_true rfl) (k2 c1 c2)
      )
    )
  ) (fun c1 =>
    (k3 c1)
  )
theorem b_Re_readComparison_94 {G : ev_G} {d k n : Nat} {h : ev_H} {R : Option Value → ev_H → Prop} {x1 : Int32} {x2 : Int32} {x3 : Int64} {f_length_1 : Int32} {f_kind_2 : Int32} {f_start_3 : Int32} {f_end_4 : Int32}
  (a1 : hat h 5 (oC 4 [.ref 6, .ref 12, .ref 14, .ref 13, .int f_length_1, .int f_kind_2, .int f_start_3, .int f_end_4]))
  (k1 : f_kind_2 = (60 : Int32) → Ev G d 0 0 M_Re_next 0 [.ref 5, ev_unk, ev_unk, ev_unk, ev_unk, ev_unk, ev_unk, ev_unk] [] h (fun r h1 => Ev G (d + 1) k n M_Re_readComparison 127 [.ref 5, .int x1, .int x2, .long x3, ev_unk, .int f_kind_2, ev_unk] (r.toList ++ []) h1 R))
  (k2 : ¬ f_kind_2 = (60 : Int32) → f_kind_2 = (61 : Int32) → Ev G d 0 0 M_Re_next 0 [.ref 5, ev_unk, ev_unk, ev_unk, ev_unk, ev_unk, ev_unk, ev_unk] [] h (fun r h1 => Ev G (d + 1) k n M_Re_readComparison 127 [.ref 5, .int x1, .int x2, .long x3, ev_unk, .int f_kind_2, ev_unk] (r.toList ++ []) h1 R))
  (k3 : ¬ f_kind_2 = (60 : Int32) → ¬ f_kind_2 = (61 : Int32) → f_kind_2 = (62 : Int32) → Ev G d 0 0 M_Re_next 0 [.ref 5, ev_unk, ev_unk, ev_unk, ev_unk, ev_unk, ev_unk, ev_unk] [] h (fun r h1 => Ev G (d + 1) k n M_Re_readComparison 127 [.ref 5, .int x1, .int x2, .long x3, ev_unk, .int f_kind_2, ev_unk] (r.toList ++ []) h1 R))
  (k4 : ¬ f_kind_2 = (60 : Int32) → ¬ f_kind_2 = (61 : Int32) → ¬ f_kind_2 = (62 : Int32) → R (some (.int (2 : Int32))) h)
  : Ev G (d + 1) k n M_Re_readComparison 94 [.ref 5, .int x1, .int x2, .long x3, ev_unk, ev_unk, ev_unk] [] h R :=
  Ev.go (pc' := 95) (ls' := [.ref 5, .int x1, .int x2, .long x3, ev_unk, ev_unk, ev_unk]) (st' := [.ref 5]) [.aload_n 0] (by decide +kernel) rfl <|
  Ev.getf f_Re_43 (by decide +kernel) a1 rfl <|
  Ev.go (pc' := 104) (ls' := [.ref 5, .int x1, .int x2, .long x3, ev_unk, .int f_kind_2, ev_unk]) (st' := [.int (60 : Int32), .int f_kind_2]) [.istore 5, .iload 5, .bipush (60)] (by decide +kernel) rfl <|
  Ev.br (i := .if_icmp .eq (19)) (P := f_kind_2 = (60 : Int32)) (t := 123) (f := 107) (r := []) (by decide +kernel) rfl (fun c1 =>
    Ev.go (pc' := 124) (ls' := [.ref 5, .int x1, .int x2, .long x3, ev_unk, .int f_kind_2, ev_unk]) (st' := [.ref 5]) [.aload_n 0] (by decide +kernel) rfl <|
    Ev.cV0 (M' := M_Re_next) (as := []) (rest := []) l_Re_61 M_Re_next_ok M_Re_next_in M_Re_next_se (by decide +kernel) ⟨_, a1⟩ rfl rfl rfl (Nat.le_of_ble_eq_true rfl) (Nat.le_of_ble_eq_true rfl) (k1 c1)
  ) (fun c1 =>
    Ev.go (pc' := 111) (ls' := [.ref 5, .int x1, .int x2, .long x3, ev_unk, .int f_kind_2, ev_unk]) (st' := [.int (61 : Int32), .int f_kind_2]) [.iload 5, .bipush (61)] (by decide +kernel) rfl <|
    Ev.br (i := .if_icmp .eq (12)) (P := f_kind_2 = (61 : Int32)) (t := 123) (f := 114) (r := []) (by decide +kernel) rfl (fun c2 =>
      Ev.go (pc' := 124) (ls' := [.ref 5, .int x1, .int x2, .long x3, ev_unk, .int f_kind_2, ev_unk]) (st' := [.ref 5]) [.aload_n 0] (by decide +kernel) rfl <|
      Ev.cV0 (M' := M_Re_next) (as := []) (rest := []) l_Re_61 M_Re_next_ok M_Re_next_in M_Re_next_se (by decide +kernel) ⟨_, a1⟩ rfl rfl rfl (Nat.le_of_ble_eq_true rfl) (Nat.le_of_ble_eq_true rfl) (k2 c1 c2)
    ) (fun c2 =>
      Ev.go (pc' := 118) (ls' := [.ref 5, .int x1, .int x2, .long x3, ev_unk, .int f_kind_2, ev_unk]) (st' := [.int (62 : Int32), .int f_kind_2]) [.iload 5, .bipush (62)] (by decide +kernel) rfl <|
      Ev.br (i := .if_icmp .eq (5)) (P := f_kind_2 = (62 : Int32)) (t := 123) (f := 121) (r := []) (by decide +kernel) rfl (fun c3 =>
        Ev.go (pc' := 124) (ls' := [.ref 5, .int x1, .int x2, .long x3, ev_unk, .int f_kind_2, ev_unk]) (st' := [.ref 5]) [.aload_n 0] (by decide +kernel) rfl <|
        Ev.cV0 (M' := M_Re_next) (as := []) (rest := []) l_Re_61 M_Re_next_ok M_Re_next_in M_Re_next_se (by decide +kernel) ⟨_, a1⟩ rfl rfl rfl (Nat.le_of_ble_eq_true rfl) (Nat.le_of_ble_eq_true rfl) (k3 c1 c2 c3)
      ) (fun c3 =>
        Ev.go (pc' := 122) (ls' := [.ref 5, .int x1, .int x2, .long x3, ev_unk, .int f_kind_2, ev_unk]) (st' := [.int (2 : Int32)]) [.iconst 2] (by decide +kernel) rfl <|
        Ev.ret (r := (some (.int (2 : Int32)))) (Or.inl ⟨_, rfl, by decide +kernel, _, rfl, rfl⟩) (k4 c1 c2 c3)
      )
    )
  )
theorem b_Re_readComparison_127 {G : ev_G} {d k n : Nat} {h : ev_H} {R : Option Value → ev_H → Prop} {x1 : Int32} {x2 : Int32} {x3 : Int64} {x5 : Int32} {L1 : Nat} {T2 : Tk} {B3 : Nat → Nat} {lo4 : Nat} {hi5 : Nat}
  (pr1 : ReB h L1 T2)
  (pr2 : TxB h B3 L1)
  (pr3 : TkOk B3 L1 T2)
  (pr4 : (0 : Int32) = nI lo4 ∧ lo4 < 2147483648)
  (pr5 : (99999999 : Int32) = nI hi5 ∧ hi5 < 2147483648)
  (r6 : ∃ fs, hat h 5 (oC 4 fs))
  (r7 : ¬ (nA (pNum B3 T2 lo4 hi5)) < (0 : Int32) → ∃ fs, hat h 5 (oC 4 fs))
  (k1 : (nA (pNum B3 T2 lo4 hi5)) < (0 : Int32) → R (some (.int (-(nA (pNum B3 T2 lo4 hi5))))) h)
  (k2 : ¬ (nA (pNum B3 T2 lo4 hi5)) < (0 : Int32) → Ev G d 0 0 M_Re_next 0 [.ref 5, ev_unk, ev_unk, ev_unk, ev_unk, ev_unk, ev_unk, ev_unk] [] h (fun r h1 => Ev G (d + 1) k n M_Re_readComparison 149 [.ref 5, .int x1, .int x2, .long x3, ev_unk, .int x5, .int (nA (pNum B3 T2 lo4 hi5))] (r.toList ++ []) h1 R))
  : Ev G (d + 1) k n M_Re_readComparison 127 [.ref 5, .int x1, .int x2, .long x3, ev_unk, .int x5, ev_unk] [] h R :=
  Ev.go (pc' := 129) (ls' := [.ref 5, .int x1, .int x2, .long x3, ev_unk, .int x5, ev_unk]) (st' := [.int (0 : Int32), .ref 5]) [.aload_n 0, .iconst 0] (by decide +kernel) rfl <|
  Ev.ldc k_Re_175 (by decide +kernel) <|
  Ev.cV0 (M' := M_Re_number) (as := [.int (0 : Int32), .int (99999999 : Int32)]) (rest := []) l_Re_112 M_Re_number_ok M_Re_number_in M_Re_number_se (by decide +kernel) r6 rfl rfl rfl (Nat.le_of_ble_eq_true rfl) (Nat.le_of_ble_eq_true rfl) (s_Re_number pr1 pr2 pr3 pr4 pr5 <| show Ev G (d + 1) _ _ M_Re_readComparison 134 [.ref 5, .int x1, .int x2, .long x3, ev_unk, .int x5, ev_unk] [.int (nA (pNum B3 T2 lo4 hi5))] h R from
    Ev.go (pc' := 138) (ls' := [.ref 5, .int x1, .int x2, .long x3, ev_unk, .int x5, .int (nA (pNum B3 T2 lo4 hi5))]) (st' := [.int (nA (pNum B3 T2 lo4 hi5))]) [.istore 6, .iload 6] (by decide +kernel) rfl <|
    Ev.br (i := .ifCond .ge (7)) (P := (nA (pNum B3 T2 lo4 hi5)) < (0 : Int32)) (t := 141) (f := 145) (r := []) (by decide +kernel) rfl (fun c1 =>
      Ev.go (pc' := 144) (ls' := [.ref 5, .int x1, .int x2, .long x3, ev_unk, .int x5, .int (nA (pNum B3 T2 lo4 hi5))]) (st' := [.int (-(nA (pNum B3 T2 lo4 hi5)))]) [.iload 6, .ineg] (by decide +kernel) rfl <|
      Ev.ret (r := (some (.int (-(nA (pNum B3 T2 lo4 hi5)))))) (Or.inl ⟨_, rfl, by decide +kernel, _, rfl, rfl⟩) (k1 c1)
    ) (fun c1 =>
      Ev.go (pc' := 146) (ls' := [.ref 5, .int x1, .int x2, .long x3, ev_unk, .int x5, .int (nA (pNum B3 T2 lo4 hi5))]) (st' := [.ref 5]) [.aload_n 0] (by decide +kernel) rfl <|
      Ev.cV0 (M' := M_Re_next) (as := []) (rest := []) l_Re_61 M_Re_next_ok M_Re_next_in M_Re_next_se (by decide +kernel) (r7 c1) rfl rfl rfl (Nat.le_of_ble_eq_true rfl) (Nat.le_of_ble_eq_true rfl) (k2 c1)
    )
  )
theorem b_Re_readComparison_149 {G : ev_G} {d k n : Nat} {h : ev_H} {R : Option Value → ev_H → Prop} {x1 : Int32} {x2 : Int32} {x3 : Int64} {x5 : Int32} {x6 : Int32} {f_length_1 : Int32} {f_kind_2 : Int32} {f_start_3 : Int32} {f_end_4 : Int32}
  (a1 : hat h 5 (oC 4 [.ref 6, .ref 12, .ref 14, .ref 13, .int f_length_1, .int f_kind_2, .int f_start_3, .int f_end_4]))
  (r2 : ∃ fs, hat h 6 (oC 5 fs))
  (k1 : Ev G d 0 0 M_Sp_put 0 [.ref 6, .int x1, .int x5, .int x2, .int x6, .long x3, ev_unk] [] h (fun r h1 => Ev G (d + 1) k n M_Re_readComparison 163 [.ref 5, .int x1, .int x2, .long x3, ev_unk, .int x5, .int x6] (r.toList ++ []) h1 R))
  : Ev G (d + 1) k n M_Re_readComparison 149 [.ref 5, .int x1, .int x2, .long x3, ev_unk, .int x5, .int x6] [] h R :=
  Ev.go (pc' := 150) (ls' := [.ref 5, .int x1, .int x2, .long x3, ev_unk, .int x5, .int x6]) (st' := [.ref 5]) [.aload_n 0] (by decide +kernel) rfl <|
  Ev.getf f_Re_12 (by decide +kernel) a1 rfl <|
  Ev.go (pc' := 160) (ls' := [.ref 5, .int x1, .int x2, .long x3, ev_unk, .int x5, .int x6]) (st' := [.long x3, .int x6, .int x2, .int x5, .int x1, .ref 6]) [.iload_n 1, .iload 5, .iload_n 2, .iload 6, .lload_n 3] (by decide +kernel) rfl <|
  Ev.cV0 (M' := M_Sp_put) (as := [.int x1, .int x5, .int x2, .int x6, .long x3]) (rest := []) l_Re_176 M_Sp_put_ok M_Sp_put_in M_Sp_put_se (by decide +kernel) r2 rfl rfl rfl (Nat.le_of_ble_eq_true rfl) (Nat.le_of_ble_eq_true rfl) k1
theorem b_Re_readComparison_163 {G : ev_G} {d k n : Nat} {h : ev_H} {R : Option Value → ev_H → Prop} {x1 : Int32} {x2 : Int32} {x3 : Int64} {x5 : Int32} {x6 : Int32}
  (k1 : R (some (.int (0 : Int32))) h)
  : Ev G (d + 1) k n M_Re_readComparison 163 [.ref 5, .int x1, .int x2, .long x3, ev_unk, .int x5, .int x6] [] h R :=
  Ev.go (pc' := 164) (ls' := [.ref 5, .int x1, .int x2, .long x3, ev_unk, .int x5, .int x6]) (st' := [.int (0 : Int32)]) [.iconst 0] (by decide +kernel) rfl <|
  Ev.ret (r := (some (.int (0 : Int32)))) (Or.inl ⟨_, rfl, by decide +kernel, _, rfl, rfl⟩) k1
theorem SpX.obj {h : ev_H} (H : SpX h) : ∃ fs, hat h 6 (oC 5 fs) := by
  obtain ⟨fl, -, ks, ss, ps, bs, frs, f0, -⟩ := H; exact ⟨_, f0⟩
theorem SpR.x {h : ev_H} {fl : List AStp} (H : SpR h fl) (hl : fl.length ≤ 300) : SpX h := ⟨fl, hl, H⟩
theorem i_vN (x : Int32) : x = nI (vN x) := Int32.toBitVec_inj.1 (by show x.toBitVec = BitVec.ofNat 32 x.toBitVec.toNat; simp)
def vA (v : Nat) : Int32 := if v = 0 then -1 else nI v
theorem pNum_c {B : Nat → Nat} {T : Tk} (lo hi : Nat) : (pNum B T lo hi).1 = 0 ∨ (pNum B T lo hi).1 = 2 ∨ (pNum B T lo hi).1 = 3 ∨ (pNum B T lo hi).1 = 4 := by
  unfold pNum
  split
  · split
    · exact Or.inr (Or.inr (Or.inl rfl))
    · split
      · exact Or.inr (Or.inr (Or.inr rfl))
      · split
        · exact Or.inr (Or.inr (Or.inr rfl))
        · exact Or.inl rfl
  · exact Or.inr (Or.inl rfl)
theorem nA_neg {p : Nat × Nat} (hp : p.1 = 0 ∨ p.1 = 2 ∨ p.1 = 3 ∨ p.1 = 4) (hv : p.2 < 2147483648) : (nA p < 0 ↔ ¬ p.1 = 0) ∧ (¬ p.1 = 0 → -(nA p) = nI p.1) ∧ (p.1 = 0 → nA p = nI p.2) := by
  obtain ⟨a, b⟩ := p
  rcases hp with rfl | rfl | rfl | rfl
  · exact ⟨⟨fun z => absurd z (nI_pos hv), fun z => absurd rfl z⟩, fun z => absurd rfl z, fun _ => rfl⟩
  · exact ⟨⟨fun _ => (by show ¬ 2 = 0; omega), fun _ => by show (-2 : Int32) < 0; decide⟩, fun _ => by show -(-2 : Int32) = nI 2; decide, fun z => absurd z (by show ¬ 2 = 0; omega)⟩
  · exact ⟨⟨fun _ => (by show ¬ 3 = 0; omega), fun _ => by show (-3 : Int32) < 0; decide⟩, fun _ => by show -(-3 : Int32) = nI 3; decide, fun z => absurd z (by show ¬ 3 = 0; omega)⟩
  · exact ⟨⟨fun _ => (by show ¬ 4 = 0; omega), fun _ => by show (-4 : Int32) < 0; decide⟩, fun _ => by show -(-4 : Int32) = nI 4; decide, fun z => absurd z (by show ¬ 4 = 0; omega)⟩
theorem pNum_v {B : Nat → Nat} {T : Tk} {lo hi : Nat} (hh : hi < 2147483648) : (pNum B T lo hi).2 < 2147483648 := by
  have := pNum_f (B := B) (T := T) lo hi
  rcases pNum_c (B := B) (T := T) lo hi with z | z
  · have := (this.2 z).2.2.1; omega
  · revert z
    unfold pNum
    split
    · split
      · intro _; show 0 < 2147483648; omega
      · split
        · intro _; show 0 < 2147483648; omega
        · split
          · intro _; show 0 < 2147483648; omega
          · intro z; exact absurd z (by show ¬ (0 = 2 ∨ 0 = 3 ∨ 0 = 4); omega)
    · intro _; show 0 < 2147483648; omega
theorem bA_neg {B : Nat → Nat} {T : Tk} {b : Nat} (hb : b ≤ 48) : (bA (pBin B T b) < 0 ↔ ¬ (pBin B T b).1 = 0) ∧ (¬ (pBin B T b).1 = 0 → (-(bA (pBin B T b))).toInt32 = nI (pBin B T b).1) ∧ ((pBin B T b).1 = 0 → bA (pBin B T b) = (pBin B T b).2) := by
  have pf := pBin_f (B := B) (T := T) hb
  unfold pBin at pf ⊢
  split
  · split
    · split
      · next c1 c2 c3 =>
        refine ⟨⟨fun z => ?_, fun z => absurd rfl z⟩, fun z => absurd rfl z, fun _ => rfl⟩
        rw [if_pos c1, if_pos c2, if_pos c3] at pf
        have nb := (pf.2 rfl).2.1
        have := (numB_iff (by omega)).mp nb 63 (by omega)
        have z : lN (bvN B T.2.1 b) < 0 := z
        rw [neg_bit, this] at z
        cases z
      · exact ⟨⟨fun _ => (by show ¬ 3 = 0; omega), fun _ => by show (-3 : Int64) < 0; decide⟩, fun _ => by show (-(-3 : Int64)).toInt32 = nI 3; decide, fun z => absurd z (by show ¬ 3 = 0; omega)⟩
    · exact ⟨⟨fun _ => (by show ¬ 3 = 0; omega), fun _ => by show (-3 : Int64) < 0; decide⟩, fun _ => by show (-(-3 : Int64)).toInt32 = nI 3; decide, fun z => absurd z (by show ¬ 3 = 0; omega)⟩
  · exact ⟨⟨fun _ => (by show ¬ 2 = 0; omega), fun _ => by show (-2 : Int64) < 0; decide⟩, fun _ => by show (-(-2 : Int64)).toInt32 = nI 2; decide, fun z => absurd z (by show ¬ 2 = 0; omega)⟩
section S37
variable {G : ev_G} {d : Nat} {h : ev_H} {R : Option Value → ev_H → Prop} {B : Nat → Nat} {L : Nat} {T : Tk} {S : AS}
theorem s_Re_nx (H : ReB h L T) (X : TxB h B L) (he : T.2.2 ≤ L) (hR : ∀ h', Kp h h' 5 6 → ReB h' L (nx B L T) → R none h') : Ev G (d + 4) 0 0 M_Re_next 0 [.ref 5, ev_unk, ev_unk, ev_unk, ev_unk, ev_unk, ev_unk, ev_unk] [] h R := s_Re_next H X he hR
theorem s_Sp_putX {k s p b : Int32} {fr : Int64} (hS : SpX h) (hR : ∀ h', Kp h h' 6 12 → SpX h' → R none h') : Ev G d 0 0 M_Sp_put 0 [.ref 6, .int k, .int s, .int p, .int b, .long fr, ev_unk] [] h R := by
  obtain ⟨fl, hl, hS⟩ := hS
  by_cases c : fl.length < 300
  · exact s_Sp_put hS c (st := (vN k, vN s, vN p, vN b, fr)) ⟨i_vN k, i_vN s, i_vN p, i_vN b, rfl⟩ fun h' K st => hR h' K ⟨_, by rw [List.length_append]; show fl.length + 1 ≤ 300; omega, st⟩
  · have hS0 := hS
    obtain ⟨ks, ss, ps, bs, frs, f0, f1, f2, f3, f4, f5, hst⟩ := hS
    have no : ¬ nI fl.length < 300 := nI_nlt (b := 300) (by omega) (by omega)
    exact b_Sp_put_0 (j3 := 0) f0 f1 f2 f3 f4 f5 (fun q => absurd q no) (fun q => absurd q no) (fun _ => hR h (Kp.refl _ _ _) ⟨fl, hl, hS0⟩)
theorem s_Sp_joinX {k : Int32} (hS : SpX h) (hR : ∀ h', Kp h h' 6 12 → SpX h' → R none h') : Ev G (d + 1) 0 0 M_Sp_join 0 [.ref 6, .int k] [] h R := by
  refine b_Sp_join_0 hS.obj (s_Sp_putX hS fun h' K st => ?_)
  exact b_Sp_join_9 (hR h' K st)
theorem s_Re_valueKind (HB : ReB h L T) (HX : TxB h B L) (HT : TkOk B L T) (hR : R (some (.int (vA (vkN B T)))) h) : Ev G (d + 5) 0 0 M_Re_valueKind 0 [.ref 5] [] h R := by
  unfold vA vkN at hR
  refine b_Re_valueKind_0 (by decide) HB HX HT ⟨_, HB⟩ (fun c1 => by decide) (fun c1 => HB) (fun c1 => HX) (fun c1 => HT) (fun c1 => ⟨_, HB⟩) (fun c1 c2 => by decide) (fun c1 c2 => HB) (fun c1 c2 => HX) (fun c1 c2 => HT) (fun c1 c2 => ⟨_, HB⟩) (fun c1 c2 c3 => by decide) (fun c1 c2 c3 => HB) (fun c1 c2 c3 => HX) (fun c1 c2 c3 => HT) (fun c1 c2 c3 => ⟨_, HB⟩) (fun c1 c2 c3 c4 => by decide) (fun c1 c2 c3 c4 => HB) (fun c1 c2 c3 c4 => HX) (fun c1 c2 c3 c4 => HT) (fun c1 c2 c3 c4 => ⟨_, HB⟩) (fun c1 c2 c3 c4 c5 => by decide) (fun c1 c2 c3 c4 c5 => HB) (fun c1 c2 c3 c4 c5 => HX) (fun c1 c2 c3 c4 c5 => HT) (fun c1 c2 c3 c4 c5 => ⟨_, HB⟩) (fun c1 c2 c3 c4 c5 c6 => by simp only [b2i_e0 c1, b2i_e0 c2, b2i_e0 c3, b2i_e0 c4, b2i_e0 c5, b2i_e0 c6, if_true, if_false, Bool.false_eq_true] at hR; exact hR) (fun c1 c2 c3 c4 c5 c6 => by simp only [b2i_e0 c1, b2i_e0 c2, b2i_e0 c3, b2i_e0 c4, b2i_e0 c5, b2i_n0 c6, if_true, if_false, Bool.false_eq_true] at hR; exact hR) (fun c1 c2 c3 c4 c5 => by simp only [b2i_e0 c1, b2i_e0 c2, b2i_e0 c3, b2i_e0 c4, b2i_n0 c5, if_true, if_false, Bool.false_eq_true] at hR; exact hR) (fun c1 c2 c3 c4 => by simp only [b2i_e0 c1, b2i_e0 c2, b2i_e0 c3, b2i_n0 c4, if_true, if_false, Bool.false_eq_true] at hR; exact hR) (fun c1 c2 c3 => by simp only [b2i_e0 c1, b2i_e0 c2, b2i_n0 c3, if_true, if_false, Bool.false_eq_true] at hR; exact hR) (fun c1 c2 => by simp only [b2i_e0 c1, b2i_n0 c2, if_true, if_false, Bool.false_eq_true] at hR; exact hR) (fun c1 => by simp only [b2i_n0 c1, if_true, if_false, Bool.false_eq_true] at hR; exact hR)
theorem s_Re_readComparison {fl : List AStp} (HB : ReB h L T) (HX : TxB h B L) (HT : TkOk B L T) (HS : StR h 14 S) (ok : sOk S) (HP : SpR h fl) (hl : 3 * fl.length ≤ T.2.1) (hR : ∀ h', Kp h h' 5 12 → ReB h' L (pCmp B L S T).2.1 → SpX h' → ((pCmp B L S T).1 = 0 → SpR h' (fl ++ (pCmp B L S T).2.2)) → R (some (.int (nI (pCmp B L S T).1))) h') : Ev G (d + 5) 0 0 M_Re_readComparison 0 [.ref 5, .int (vA (vkN B T)), ev_unk, ev_unk, ev_unk, ev_unk, ev_unk] [] h R := by
  have h900 := HX.1
  have le0 := HT.2.1
  have le1 := HT.2.2.1
  have o1 := ok.2.1
  have o2 := ok.2.2.2.1
  have o3 := ok.2.2.1
  have o4 := ok.1
  have hx0 : SpX h := HP.x (by omega)
  by_cases cv : vkN B T = 0
  · have e : pCmp B L S T = (2, T, []) := by unfold pCmp; rw [if_pos cv]
    rw [e] at hR
    rw [show vA (vkN B T) = -1 by unfold vA; rw [if_pos cv]]
    refine b_Re_readComparison_0 (fun c1 => ⟨_, HB⟩) (fun c1 => hR h (Kp.refl _ _ _) HB hx0 (fun z => absurd z (by show ¬ 2 = 0; omega))) (fun c1 => absurd rfl c1)
  obtain ⟨w1, w2, w3, w4⟩ := vk_f cv
  have e : pCmp B L S T = pCmpV B L S (vkN B T) (nx B L T) := by unfold pCmp; rw [if_neg cv]
  rw [e] at hR
  rw [show vA (vkN B T) = nI (vkN B T) by unfold vA; rw [if_neg cv]]
  clear e
  generalize vkN B T = v at cv w3 w4 hR
  have vq : ∀ k : Nat, k < 100 → (nI v = nI k ↔ v = k) := fun k hk => nI_eq (by omega) (by omega)
  -- from the sign on
  have KE : ∀ (h3 : ev_H) (T3 : Tk) (p : Nat) (fr : Int64), Kp h h3 5 6 → ReB h3 L T3 → TkOk B L T3 → T.2.1 + 3 ≤ T3.2.1 → p < 48 → (∀ h', Kp h h' 5 12 → ReB h' L (pEnd B L v p fr T3).2.1 → SpX h' → ((pEnd B L v p fr T3).1 = 0 → SpR h' (fl ++ (pEnd B L v p fr T3).2.2)) → R (some (.int (nI (pEnd B L v p fr T3).1))) h') → Ev G (d + 5) 0 0 M_Re_readComparison 94 [.ref 5, .int (nI v), .int (nI p), .long fr, ev_unk, ev_unk, ev_unk] [] h3 R := by
    intro h3 T3 p fr K3 HB HT h31 hp hR
    have HX := HX.kg K3.g (by omega)
    have HP := HP.kg K3.g (by omega)
    have K3w : Kp h h3 5 12 := K3.wide (by omega) (by omega)
    have k97 := HT.1
    have uk : ∀ k : Nat, k < 100 → (nI T3.1 = nI k ↔ T3.1 = k) := fun k hk => nI_eq (by omega) (by omega)
    have rest : (T3.1 = 60 ∨ T3.1 = 61 ∨ T3.1 = 62) → Ev G (d + 4) 0 0 M_Re_next 0 [.ref 5, ev_unk, ev_unk, ev_unk, ev_unk, ev_unk, ev_unk, ev_unk] [] h3 (fun r h1 => Ev G (d + 5) 0 0 M_Re_readComparison 127 [.ref 5, .int (nI v), .int (nI p), .long fr, ev_unk, .int (nI T3.1), ev_unk] (r.toList ++ []) h1 R) := by
      intro c
      have et : pEnd B L v p fr T3 = (if (pNum B (nx B L T3) 0 99999999).1 = 0 then (0, nx B L (nx B L T3), [(v, T3.1, p, (pNum B (nx B L T3) 0 99999999).2, fr)]) else ((pNum B (nx B L T3) 0 99999999).1, nx B L T3, [])) := by unfold pEnd; rw [if_pos c]
      rw [et] at hR
      have g3 := nx_ge B L T3
      have n3 := nx_ok HT
      have e3 := HT.2.2.2.2.2.2.2.1 (by omega)
      refine s_Re_nx HB HX HT.2.2.1 fun h4 K4 HB => ?_
      have HX := HX.kg K4.g (by omega)
      have HP := HP.kg K4.g (by omega)
      have hx : SpX h4 := HP.x (by omega)
      have K4w : Kp h h4 5 12 := K3w.trans (K4.wide (by omega) (by omega))
      have HT := n3
      have na := nA_neg (pNum_c (B := B) (T := nx B L T3) 0 99999999) (pNum_v (by omega))
      refine b_Re_readComparison_127 (lo4 := 0) (hi5 := 99999999) HB HX HT ⟨rfl, by omega⟩ ⟨rfl, by omega⟩ ⟨_, HB⟩ (fun c1 => ⟨_, HB⟩) (fun c1 => ?_) (fun c1 => ?_)
      · have c1 := na.1.mp c1
        rw [if_neg c1] at hR
        rw [na.2.1 c1]
        exact hR h4 K4w HB hx (fun z => absurd z c1)
      · have c1 : (pNum B (nx B L T3) 0 99999999).1 = 0 := by
          by_cases z : (pNum B (nx B L T3) 0 99999999).1 = 0
          · exact z
          · exact absurd (na.1.mpr z) c1
        rw [if_pos c1] at hR
        rw [na.2.2 c1]
        have k48 := ((pNum_f (B := B) (T := nx B L T3) 0 99999999).2 c1).1
        have e4 := (n3.2.2.2.1 k48).1
        have g4 := nx_ge B L (nx B L T3)
        have n4 := nx_ok n3
        refine s_Re_nx HB HX n3.2.2.1 fun h5 K5 HB => ?_
        have HP := HP.kg K5.g (by omega)
        have hx : SpX h5 := HP.x (by omega)
        have K5w : Kp h h5 5 12 := K4w.trans (K5.wide (by omega) (by omega))
        have le4 := n4.2.1
        have le5 := n4.2.2.1
        refine b_Re_readComparison_149 HB hx.obj ?_
        refine s_Sp_put HP (by omega) (st := (v, T3.1, p, (pNum B (nx B L T3) 0 99999999).2, fr)) ⟨rfl, rfl, rfl, rfl, rfl⟩ fun h6 K6 P6 => b_Re_readComparison_163 ?_
        exact hR h6 (K5w.trans (K6.wide (by omega) (by omega))) (HB.kg K6.g (by omega)) (P6.x (by rw [List.length_append]; show fl.length + 1 ≤ 300; omega)) (fun _ => P6)
    refine b_Re_readComparison_94 HB (fun c1 => rest (Or.inl ((uk 60 (by decide)).mp c1))) (fun c1 c2 => rest (Or.inr (Or.inl ((uk 61 (by decide)).mp c2)))) (fun c1 c2 c3 => rest (Or.inr (Or.inr ((uk 62 (by decide)).mp c3)))) (fun c1 c2 c3 => ?_)
    have et : pEnd B L v p fr T3 = (2, T3, []) := by
      unfold pEnd; rw [if_neg]
      rintro (z | z | z)
      · exact c1 ((uk 60 (by decide)).mpr z)
      · exact c2 ((uk 61 (by decide)).mpr z)
      · exact c3 ((uk 62 (by decide)).mpr z)
    rw [et] at hR
    exact hR h3 K3w HB (HP.x (by omega)) (fun z => absurd z (by show ¬ 2 = 0; omega))
  -- the number of far
  have KM : ∀ (h2 : ev_H) (T2 : Tk) (p : Nat), Kp h h2 5 6 → ReB h2 L T2 → TkOk B L T2 → T.2.1 + 3 ≤ T2.2.1 → p < 48 → (∀ h', Kp h h' 5 12 → ReB h' L (pMid B L S v p T2).2.1 → SpX h' → ((pMid B L S v p T2).1 = 0 → SpR h' (fl ++ (pMid B L S v p T2).2.2)) → R (some (.int (nI (pMid B L S v p T2).1))) h') → Ev G (d + 5) 0 0 M_Re_readComparison 67 [.ref 5, .int (nI v), .int (nI p), ev_unk, ev_unk, ev_unk, ev_unk] [] h2 R := by
    intro h2 T2 p K2 HB HT h21 hp hR
    have HX := HX.kg K2.g (by omega)
    have HS := HS.kp K2 (by omega) (by omega)
    have HP := HP.kg K2.g (by omega)
    have K2w : Kp h h2 5 12 := K2.wide (by omega) (by omega)
    have HSb := o1
    by_cases c8 : v = 8
    · have ef : pFr B S v T2 = pBin B T2 (sB S) := by unfold pFr; rw [if_pos c8]
      have em : pMid B L S v p T2 = if (pBin B T2 (sB S)).1 = 0 then pEnd B L v p (pBin B T2 (sB S)).2 (nx B L T2) else ((pBin B T2 (sB S)).1, T2, []) := by unfold pMid nx8; rw [ef, if_pos c8]
      rw [em] at hR
      have ba := bA_neg (B := B) (T := T2) o1
      refine b_Re_readComparison_67 (fun c1 => HB) (fun c1 => HX) (fun c1 => HT) (fun c1 => HS) (fun c1 => HSb) (fun c1 => ⟨_, HB⟩) (fun c1 c2 => ⟨_, HB⟩) (fun c1 c2 => ?_) (fun c1 c2 => ?_) (fun c1 => absurd ((vq 8 (by decide)).mpr c8) c1)
      · have c2 := ba.1.mp c2
        rw [if_neg c2] at hR
        rw [ba.2.1 c2]
        exact hR h2 K2w HB (HP.x (by omega)) (fun z => absurd z c2)
      · have c2 : (pBin B T2 (sB S)).1 = 0 := by
          by_cases z : (pBin B T2 (sB S)).1 = 0
          · exact z
          · exact absurd (ba.1.mpr z) c2
        rw [if_pos c2] at hR
        rw [ba.2.2 c2]
        refine s_Re_nx HB HX HT.2.2.1 fun h3 K3 HB => ?_
        exact KE h3 (nx B L T2) p _ (K2.trans K3) HB (nx_ok HT) (by have := nx_s HT; omega) hp hR
    · have ef : pFr B S v T2 = (0, 0) := by unfold pFr; rw [if_neg c8]
      have em : pMid B L S v p T2 = pEnd B L v p 0 T2 := by unfold pMid nx8; rw [ef, if_neg c8]; exact if_pos rfl
      rw [em] at hR
      refine b_Re_readComparison_67 (fun c1 => HB) (fun c1 => HX) (fun c1 => HT) (fun c1 => HS) (fun c1 => HSb) (fun c1 => ⟨_, HB⟩) (fun c1 c2 => ⟨_, HB⟩) (fun c1 c2 => absurd ((vq 8 (by decide)).mp c1) c8) (fun c1 c2 => absurd ((vq 8 (by decide)).mp c1) c8) (fun c1 => ?_)
      exact KE h2 T2 p 0 K2 HB HT h21 hp hR
  have n1 := nx_ok HT
  have g1 := nx_ge B L T
  refine b_Re_readComparison_0 (fun c1 => ⟨_, HB⟩) (fun c1 => absurd c1 (nI_m1 (by omega))) (fun c1 => ?_)
  refine s_Re_nx HB HX HT.2.2.1 fun h1 K1 HB => ?_
  have HX := HX.kg K1.g (by omega)
  have HS := HS.kp K1 (by omega) (by omega)
  have HP := HP.kg K1.g (by omega)
  have HT := n1
  have hx : SpX h1 := HP.x (by omega)
  have K1w : Kp h h1 5 12 := K1.wide (by omega) (by omega)
  have KN : ∀ hi : Nat, hi < 48 → pPl B S v (nx B L T) = pNum B (nx B L T) 0 hi → (v = 6 ∨ v = 7) → ((nA (pNum B (nx B L T) 0 hi) < 0) → R (some (.int (-(nA (pNum B (nx B L T) 0 hi))))) h1) ∧ (¬ (nA (pNum B (nx B L T) 0 hi) < 0) → Ev G (d + 4) 0 0 M_Re_next 0 [.ref 5, ev_unk, ev_unk, ev_unk, ev_unk, ev_unk, ev_unk, ev_unk] [] h1 (fun r h1 => Ev G (d + 5) 0 0 M_Re_readComparison 67 [.ref 5, .int (nI v), .int (nA (pNum B (nx B L T) 0 hi)), ev_unk, ev_unk, ev_unk, ev_unk] (r.toList ++ []) h1 R)) := by
    intro hi hh ep cv
    have em : pCmpV B L S v (nx B L T) = if (pNum B (nx B L T) 0 hi).1 = 0 then pMid B L S v (pNum B (nx B L T) 0 hi).2 (nx B L (nx B L T)) else ((pNum B (nx B L T) 0 hi).1, nx B L T, []) := by unfold pCmpV nx67; rw [ep, if_pos cv]
    rw [em] at hR
    have na := nA_neg (pNum_c (B := B) (T := nx B L T) 0 hi) (pNum_v (by omega))
    refine ⟨fun c2 => ?_, fun c2 => ?_⟩
    · have c2 := na.1.mp c2
      rw [if_neg c2] at hR
      rw [na.2.1 c2]
      exact hR h1 K1w HB hx (fun z => absurd z c2)
    · have c2 : (pNum B (nx B L T) 0 hi).1 = 0 := by
        by_cases z : (pNum B (nx B L T) 0 hi).1 = 0
        · exact z
        · exact absurd (na.1.mpr z) c2
      rw [if_pos c2] at hR
      rw [na.2.2 c2]
      have lim := ((pNum_f (B := B) (T := nx B L T) 0 hi).2 c2).2.2.1
      refine s_Re_nx HB HX HT.2.2.1 fun h2 K2 HB => ?_
      exact KM h2 (nx B L (nx B L T)) _ (K1.trans K2) HB (nx_ok n1) (by have := nx_s n1; omega) (by omega) hR
  have go25 : (v = 6 ∨ v = 7) → Ev G (d + 5) 0 0 M_Re_readComparison 25 [.ref 5, .int (nI v), .int (0 : Int32), ev_unk, ev_unk, ev_unk, ev_unk] [] h1 R := by
    intro cv
    obtain ⟨brf, tgf, cof, fv, t1, t2, t3, t4, e1, e2, -⟩ := HS
    have eB : nI (sB S) - 1 = nI (sB S - 1) := nI_sub (b := 1) (by omega)
    have eP : nI (sP S) - 1 = nI (sP S - 1) := nI_sub (b := 1) (by omega)
    by_cases c6 : v = 6
    · obtain ⟨q1, q2⟩ := KN (sB S - 1) (by omega) (by unfold pPl; rw [if_pos c6]) cv
      have y6 := (vq 6 (by decide)).mpr c6
      refine b_Re_readComparison_25 (lo12 := 0) (hi13 := sB S - 1) (lo17 := 0) (hi18 := 0) HB t1 (fun c1 => HB) (fun c1 => HX) (fun c1 => HT) (fun c1 => ⟨rfl, by omega⟩) (fun c1 => ⟨eB, by omega⟩) (fun c1 => HB) (fun c1 => HX) (fun c1 => HT) (fun c1 => ⟨rfl, by omega⟩) (fun c1 => absurd y6 c1) (fun c1 c2 => q1 c2) (fun c1 c2 => q2 c2) (fun c1 c2 => absurd y6 c1) (fun c1 c2 => absurd y6 c1)
    · obtain ⟨q1, q2⟩ := KN (sP S - 1) (by omega) (by unfold pPl; rw [if_neg c6, if_pos (cv.resolve_left c6)]) cv
      have n6 : ¬ nI v = 6 := fun z => c6 ((vq 6 (by decide)).mp z)
      refine b_Re_readComparison_25 (lo12 := 0) (hi13 := 0) (lo17 := 0) (hi18 := sP S - 1) HB t1 (fun c1 => HB) (fun c1 => HX) (fun c1 => HT) (fun c1 => ⟨rfl, by omega⟩) (fun c1 => absurd c1 n6) (fun c1 => HB) (fun c1 => HX) (fun c1 => HT) (fun c1 => ⟨rfl, by omega⟩) (fun c1 => ⟨eP, by omega⟩) (fun c1 c2 => absurd c1 n6) (fun c1 c2 => absurd c1 n6) (fun c1 c2 => q1 c2) (fun c1 c2 => q2 c2)
  refine b_Re_readComparison_11 (fun c => go25 (Or.inl ((vq 6 (by decide)).mp c))) (fun _ c => go25 (Or.inr ((vq 7 (by decide)).mp c))) (fun c c2 => ?_)
  have c6 : ¬ v = 6 := fun z => c ((vq 6 (by decide)).mpr z)
  have c7 : ¬ v = 7 := fun z => c2 ((vq 7 (by decide)).mpr z)
  have em : pCmpV B L S v (nx B L T) = pMid B L S v 0 (nx B L T) := by
    have ep : pPl B S v (nx B L T) = (0, 0) := by unfold pPl; rw [if_neg c6, if_neg c7]
    unfold pCmpV nx67; rw [ep, if_neg (show ¬ (v = 6 ∨ v = 7) from fun z => z.elim c6 c7)]; exact if_pos rfl
  rw [em] at hR
  exact KM h1 (nx B L T) 0 K1 HB n1 (by omega) (by omega) hR
end S37
