/-! the model's reader: a value of a comparison -/
theorem b_Mo_valueHere_0 {G : ev_G} {d k n : Nat} {h : ev_H} {R : Option Value → ev_H → Prop} {v_1 : MG} {L2 : Nat} {T3 : Tk} {dp4 : Int32} {y_5 : Int64} {B6 : Nat → Nat} {v_7 : MG} {L8 : Nat} {T9 : Tk} {dp10 : Int32} {y_11 : Int64} {k_12 : Nat}
  (pr1 : hat h 102 (moC v_1 (pzM L2 T3 dp4 y_5)))
  (pr2 : TxM h B6 L2)
  (pr3 : TkOk B6 L2 T3)
  (r4 : ∃ fs, hat h 102 (oC 9 fs))
  (pr5 : ¬ (keM B6 T3) = (8 : Int32) → ¬ (keM B6 T3) = (3 : Int32) → ¬ (keM B6 T3) = (9 : Int32) → ¬ (keM B6 T3) = (10 : Int32) → ¬ (keM B6 T3) = (11 : Int32) → ¬ (keM B6 T3) = (12 : Int32) → hat h 102 (moC v_7 (pzM L8 T9 dp10 y_11)))
  (pr6 : ¬ (keM B6 T3) = (8 : Int32) → ¬ (keM B6 T3) = (3 : Int32) → ¬ (keM B6 T3) = (9 : Int32) → ¬ (keM B6 T3) = (10 : Int32) → ¬ (keM B6 T3) = (11 : Int32) → ¬ (keM B6 T3) = (12 : Int32) → (2 : Int32) = nI k_12)
  (r7 : ¬ (keM B6 T3) = (8 : Int32) → ¬ (keM B6 T3) = (3 : Int32) → ¬ (keM B6 T3) = (9 : Int32) → ¬ (keM B6 T3) = (10 : Int32) → ¬ (keM B6 T3) = (11 : Int32) → ¬ (keM B6 T3) = (12 : Int32) → ∃ fs, hat h 102 (oC 9 fs))
  (k1 : (keM B6 T3) = (8 : Int32) → Ev G (d + 5) k n M_Mo_valueHere 22 [.ref 102, .int (keM B6 T3), ev_unk] [] h R)
  (k2 : ¬ (keM B6 T3) = (8 : Int32) → (keM B6 T3) = (3 : Int32) → Ev G (d + 5) k n M_Mo_valueHere 22 [.ref 102, .int (keM B6 T3), ev_unk] [] h R)
  (k3 : ¬ (keM B6 T3) = (8 : Int32) → ¬ (keM B6 T3) = (3 : Int32) → (keM B6 T3) = (9 : Int32) → Ev G (d + 5) k n M_Mo_valueHere 22 [.ref 102, .int (keM B6 T3), ev_unk] [] h R)
  (k4 : ¬ (keM B6 T3) = (8 : Int32) → ¬ (keM B6 T3) = (3 : Int32) → ¬ (keM B6 T3) = (9 : Int32) → (keM B6 T3) = (10 : Int32) → Ev G (d + 5) k n M_Mo_valueHere 76 [.ref 102, .int (keM B6 T3), ev_unk] [] h R)
  (k5 : ¬ (keM B6 T3) = (8 : Int32) → ¬ (keM B6 T3) = (3 : Int32) → ¬ (keM B6 T3) = (9 : Int32) → ¬ (keM B6 T3) = (10 : Int32) → (keM B6 T3) = (11 : Int32) → Ev G (d + 5) k n M_Mo_valueHere 76 [.ref 102, .int (keM B6 T3), ev_unk] [] h R)
  (k6 : ¬ (keM B6 T3) = (8 : Int32) → ¬ (keM B6 T3) = (3 : Int32) → ¬ (keM B6 T3) = (9 : Int32) → ¬ (keM B6 T3) = (10 : Int32) → ¬ (keM B6 T3) = (11 : Int32) → (keM B6 T3) = (12 : Int32) → Ev G (d + 5) k n M_Mo_valueHere 76 [.ref 102, .int (keM B6 T3), ev_unk] [] h R)
  (k7 : ¬ (keM B6 T3) = (8 : Int32) → ¬ (keM B6 T3) = (3 : Int32) → ¬ (keM B6 T3) = (9 : Int32) → ¬ (keM B6 T3) = (10 : Int32) → ¬ (keM B6 T3) = (11 : Int32) → ¬ (keM B6 T3) = (12 : Int32) → R (some (.int (0 : Int32))) (hset h 102 (bdC v_7 L8 T9 k_12 dp10 y_11)))
  : Ev G (d + 5) k n M_Mo_valueHere 0 [.ref 102, ev_unk, ev_unk] [] h R :=
  Ev.go (pc' := 1) (ls' := [.ref 102, ev_unk, ev_unk]) (st' := [.ref 102]) [.aload_n 0] (by decide +kernel) rfl <|
  Ev.cV0 (M' := M_Mo_key_0) (as := []) (rest := []) l_Mo_188 M_Mo_key_0_ok M_Mo_key_0_in M_Mo_key_0_se (by decide +kernel) r4 rfl rfl rfl (Nat.le_of_ble_eq_true rfl) (Nat.le_of_ble_eq_true rfl) (s_Mo_key_0 pr1 pr2 pr3 <| show Ev G (d + 5) _ _ M_Mo_valueHere 4 [.ref 102, ev_unk, ev_unk] [.int (keM B6 T3)] h R from
    Ev.go (pc' := 8) (ls' := [.ref 102, .int (keM B6 T3), ev_unk]) (st' := [.int (8 : Int32), .int (keM B6 T3)]) [.istore_n 1, .iload_n 1, .bipush (8)] (by decide +kernel) rfl <|
    Ev.br (i := .if_icmp .eq (14)) (P := (keM B6 T3) = (8 : Int32)) (t := 22) (f := 11) (r := []) (by decide +kernel) rfl (fun c1 =>
      (k1 c1)
    ) (fun c1 =>
      Ev.go (pc' := 13) (ls' := [.ref 102, .int (keM B6 T3), ev_unk]) (st' := [.int (3 : Int32), .int (keM B6 T3)]) [.iload_n 1, .iconst 3] (by decide +kernel) rfl <|
      Ev.br (i := .if_icmp .eq (9)) (P := (keM B6 T3) = (3 : Int32)) (t := 22) (f := 16) (r := []) (by decide +kernel) rfl (fun c2 =>
        (k2 c1 c2)
      ) (fun c2 =>
        Ev.go (pc' := 19) (ls' := [.ref 102, .int (keM B6 T3), ev_unk]) (st' := [.int (9 : Int32), .int (keM B6 T3)]) [.iload_n 1, .bipush (9)] (by decide +kernel) rfl <|
        Ev.br (i := .if_icmp .ne (33)) (P := (keM B6 T3) = (9 : Int32)) (t := 22) (f := 52) (r := []) (by decide +kernel) rfl (fun c3 =>
          (k3 c1 c2 c3)
        ) (fun c3 =>
          Ev.go (pc' := 55) (ls' := [.ref 102, .int (keM B6 T3), ev_unk]) (st' := [.int (10 : Int32), .int (keM B6 T3)]) [.iload_n 1, .bipush (10)] (by decide +kernel) rfl <|
          Ev.br (i := .if_icmp .eq (21)) (P := (keM B6 T3) = (10 : Int32)) (t := 76) (f := 58) (r := []) (by decide +kernel) rfl (fun c4 =>
            (k4 c1 c2 c3 c4)
          ) (fun c4 =>
            Ev.go (pc' := 61) (ls' := [.ref 102, .int (keM B6 T3), ev_unk]) (st' := [.int (11 : Int32), .int (keM B6 T3)]) [.iload_n 1, .bipush (11)] (by decide +kernel) rfl <|
            Ev.br (i := .if_icmp .eq (15)) (P := (keM B6 T3) = (11 : Int32)) (t := 76) (f := 64) (r := []) (by decide +kernel) rfl (fun c5 =>
              (k5 c1 c2 c3 c4 c5)
            ) (fun c5 =>
              Ev.go (pc' := 67) (ls' := [.ref 102, .int (keM B6 T3), ev_unk]) (st' := [.int (12 : Int32), .int (keM B6 T3)]) [.iload_n 1, .bipush (12)] (by decide +kernel) rfl <|
              Ev.br (i := .if_icmp .eq (9)) (P := (keM B6 T3) = (12 : Int32)) (t := 76) (f := 70) (r := []) (by decide +kernel) rfl (fun c6 =>
                (k6 c1 c2 c3 c4 c5 c6)
              ) (fun c6 =>
                Ev.go (pc' := 72) (ls' := [.ref 102, .int (keM B6 T3), ev_unk]) (st' := [.int (2 : Int32), .ref 102]) [.aload_n 0, .iconst 2] (by decide +kernel) rfl <|
                Ev.cV0 (M' := M_Mo_fails) (as := [.int (2 : Int32)]) (rest := []) l_Mo_161 M_Mo_fails_ok M_Mo_fails_in M_Mo_fails_se (by decide +kernel) (r7 c1 c2 c3 c4 c5 c6) rfl rfl rfl (Nat.le_of_ble_eq_true rfl) (Nat.le_of_ble_eq_true rfl) (s_Mo_fails (pr5 c1 c2 c3 c4 c5 c6) (pr6 c1 c2 c3 c4 c5 c6) <| show Ev G (d + 5) _ _ M_Mo_valueHere 75 [.ref 102, .int (keM B6 T3), ev_unk] [.int (0 : Int32)] (hset h 102 (bdC v_7 L8 T9 k_12 dp10 y_11)) R from
                  Ev.ret (r := (some (.int (0 : Int32)))) (Or.inl ⟨_, rfl, by decide +kernel, _, rfl, rfl⟩) (k7 c1 c2 c3 c4 c5 c6)
                )
              )
            )
          )
        )
      )
    )
  )
theorem b_Mo_valueHere_22 {G : ev_G} {d k n : Nat} {h : ev_H} {R : Option Value → ev_H → Prop} {x1 : Int32} {v_1 : MG} {z_2 : MP} {g_3 : Nat → Int64} {t_4 : Nat} {v_5 : MG} {L6 : Nat} {T7 : Tk} {dp8 : Int32} {y_9 : Int64} {B10 : Nat → Nat} {v_11 : MG} {z_12 : MP} {g_13 : Nat → Int64} {t_14 : Nat} {v_15 : MG} {L16 : Nat} {T17 : Tk} {dp18 : Int32} {y_19 : Int64} {B20 : Nat → Nat} {v_21 : MG} {z_22 : MP} {g_23 : Nat → Int64} {t_24 : Nat} {v_25 : MG} {L26 : Nat} {T27 : Tk} {dp28 : Int32} {y_29 : Int64} {B30 : Nat → Nat}
  (pr1 : x1 = (8 : Int32) → hat h 102 (moC v_1 z_2))
  (pr2 : x1 = (8 : Int32) → hat h 103 (aL 9758 g_3))
  (pr3 : x1 = (8 : Int32) → g_3 3 = lN t_4 ∧ t_4 < 500)
  (r4 : x1 = (8 : Int32) → ∃ fs, hat h 102 (oC 9 fs))
  (pr5 : x1 = (8 : Int32) → hat (hset h 103 (aL 9758 (emF g_3 t_4 (0 : Int32) (0 : Int64)))) 102 (moC v_5 (pzM L6 T7 dp8 y_9)))
  (pr6 : x1 = (8 : Int32) → TxM (hset h 103 (aL 9758 (emF g_3 t_4 (0 : Int32) (0 : Int64)))) B10 L6)
  (pr7 : x1 = (8 : Int32) → T7.2.2 ≤ L6)
  (r8 : x1 = (8 : Int32) → ∃ fs, hat (hset h 103 (aL 9758 (emF g_3 t_4 (0 : Int32) (0 : Int64)))) 102 (oC 9 fs))
  (pr9 : ¬ x1 = (8 : Int32) → x1 = (3 : Int32) → hat h 102 (moC v_11 z_12))
  (pr10 : ¬ x1 = (8 : Int32) → x1 = (3 : Int32) → hat h 103 (aL 9758 g_13))
  (pr11 : ¬ x1 = (8 : Int32) → x1 = (3 : Int32) → g_13 3 = lN t_14 ∧ t_14 < 500)
  (r12 : ¬ x1 = (8 : Int32) → x1 = (3 : Int32) → ∃ fs, hat h 102 (oC 9 fs))
  (pr13 : ¬ x1 = (8 : Int32) → x1 = (3 : Int32) → hat (hset h 103 (aL 9758 (emF g_13 t_14 (1 : Int32) (0 : Int64)))) 102 (moC v_15 (pzM L16 T17 dp18 y_19)))
  (pr14 : ¬ x1 = (8 : Int32) → x1 = (3 : Int32) → TxM (hset h 103 (aL 9758 (emF g_13 t_14 (1 : Int32) (0 : Int64)))) B20 L16)
  (pr15 : ¬ x1 = (8 : Int32) → x1 = (3 : Int32) → T17.2.2 ≤ L16)
  (r16 : ¬ x1 = (8 : Int32) → x1 = (3 : Int32) → ∃ fs, hat (hset h 103 (aL 9758 (emF g_13 t_14 (1 : Int32) (0 : Int64)))) 102 (oC 9 fs))
  (pr17 : ¬ x1 = (8 : Int32) → ¬ x1 = (3 : Int32) → hat h 102 (moC v_21 z_22))
  (pr18 : ¬ x1 = (8 : Int32) → ¬ x1 = (3 : Int32) → hat h 103 (aL 9758 g_23))
  (pr19 : ¬ x1 = (8 : Int32) → ¬ x1 = (3 : Int32) → g_23 3 = lN t_24 ∧ t_24 < 500)
  (r20 : ¬ x1 = (8 : Int32) → ¬ x1 = (3 : Int32) → ∃ fs, hat h 102 (oC 9 fs))
  (pr21 : ¬ x1 = (8 : Int32) → ¬ x1 = (3 : Int32) → hat (hset h 103 (aL 9758 (emF g_23 t_24 (2 : Int32) (0 : Int64)))) 102 (moC v_25 (pzM L26 T27 dp28 y_29)))
  (pr22 : ¬ x1 = (8 : Int32) → ¬ x1 = (3 : Int32) → TxM (hset h 103 (aL 9758 (emF g_23 t_24 (2 : Int32) (0 : Int64)))) B30 L26)
  (pr23 : ¬ x1 = (8 : Int32) → ¬ x1 = (3 : Int32) → T27.2.2 ≤ L26)
  (r24 : ¬ x1 = (8 : Int32) → ¬ x1 = (3 : Int32) → ∃ fs, hat (hset h 103 (aL 9758 (emF g_23 t_24 (2 : Int32) (0 : Int64)))) 102 (oC 9 fs))
  (k1 : x1 = (8 : Int32) → R (some (.int (1 : Int32))) (hset (hset h 103 (aL 9758 (emF g_3 t_4 (0 : Int32) (0 : Int64)))) 102 (moC v_5 (pzM L6 (nx B10 L6 T7) dp8 y_9))))
  (k2 : ¬ x1 = (8 : Int32) → x1 = (3 : Int32) → R (some (.int (1 : Int32))) (hset (hset h 103 (aL 9758 (emF g_13 t_14 (1 : Int32) (0 : Int64)))) 102 (moC v_15 (pzM L16 (nx B20 L16 T17) dp18 y_19))))
  (k3 : ¬ x1 = (8 : Int32) → ¬ x1 = (3 : Int32) → R (some (.int (1 : Int32))) (hset (hset h 103 (aL 9758 (emF g_23 t_24 (2 : Int32) (0 : Int64)))) 102 (moC v_25 (pzM L26 (nx B30 L26 T27) dp28 y_29))))
  : Ev G (d + 5) k n M_Mo_valueHere 22 [.ref 102, .int x1, ev_unk] [] h R :=
  Ev.go (pc' := 26) (ls' := [.ref 102, .int x1, ev_unk]) (st' := [.int (8 : Int32), .int x1, .ref 102]) [.aload_n 0, .iload_n 1, .bipush (8)] (by decide +kernel) rfl <|
  Ev.br (i := .if_icmp .ne (7)) (P := x1 = (8 : Int32)) (t := 29) (f := 33) (r := [.ref 102]) (by decide +kernel) rfl (fun c1 =>
    Ev.go (pc' := 44) (ls' := [.ref 102, .int x1, ev_unk]) (st' := [.long (0 : Int64), .int (0 : Int32), .ref 102]) [.iconst 0, .goto (13), .lconst 0] (by decide +kernel) rfl <|
    Ev.cV0 (M' := M_Mo_emits) (as := [.int (0 : Int32), .long (0 : Int64)]) (rest := []) l_Mo_179 M_Mo_emits_ok M_Mo_emits_in M_Mo_emits_se (by decide +kernel) (r4 c1) rfl rfl rfl (Nat.le_of_ble_eq_true rfl) (Nat.le_of_ble_eq_true rfl) (s_Mo_emits (pr1 c1) (pr2 c1) (pr3 c1) <| show Ev G (d + 5) _ _ M_Mo_valueHere 47 [.ref 102, .int x1, ev_unk] [] (hset h 103 (aL 9758 (emF g_3 t_4 (0 : Int32) (0 : Int64)))) R from
      Ev.go (pc' := 48) (ls' := [.ref 102, .int x1, ev_unk]) (st' := [.ref 102]) [.aload_n 0] (by decide +kernel) rfl <|
      Ev.cV0 (M' := M_Mo_takes) (as := []) (rest := []) l_Mo_157 M_Mo_takes_ok M_Mo_takes_in M_Mo_takes_se (by decide +kernel) (r8 c1) rfl rfl rfl (Nat.le_of_ble_eq_true rfl) (Nat.le_of_ble_eq_true rfl) (s_Mo_takes (pr5 c1) (pr6 c1) (pr7 c1) <| show Ev G (d + 5) _ _ M_Mo_valueHere 51 [.ref 102, .int x1, ev_unk] [.int (1 : Int32)] (hset (hset h 103 (aL 9758 (emF g_3 t_4 (0 : Int32) (0 : Int64)))) 102 (moC v_5 (pzM L6 (nx B10 L6 T7) dp8 y_9))) R from
        Ev.ret (r := (some (.int (1 : Int32)))) (Or.inl ⟨_, rfl, by decide +kernel, _, rfl, rfl⟩) (k1 c1)
      )
    )
  ) (fun c1 =>
    Ev.go (pc' := 35) (ls' := [.ref 102, .int x1, ev_unk]) (st' := [.int (3 : Int32), .int x1, .ref 102]) [.iload_n 1, .iconst 3] (by decide +kernel) rfl <|
    Ev.br (i := .if_icmp .ne (7)) (P := x1 = (3 : Int32)) (t := 38) (f := 42) (r := [.ref 102]) (by decide +kernel) rfl (fun c2 =>
      Ev.go (pc' := 44) (ls' := [.ref 102, .int x1, ev_unk]) (st' := [.long (0 : Int64), .int (1 : Int32), .ref 102]) [.iconst 1, .goto (4), .lconst 0] (by decide +kernel) rfl <|
      Ev.cV0 (M' := M_Mo_emits) (as := [.int (1 : Int32), .long (0 : Int64)]) (rest := []) l_Mo_179 M_Mo_emits_ok M_Mo_emits_in M_Mo_emits_se (by decide +kernel) (r12 c1 c2) rfl rfl rfl (Nat.le_of_ble_eq_true rfl) (Nat.le_of_ble_eq_true rfl) (s_Mo_emits (pr9 c1 c2) (pr10 c1 c2) (pr11 c1 c2) <| show Ev G (d + 5) _ _ M_Mo_valueHere 47 [.ref 102, .int x1, ev_unk] [] (hset h 103 (aL 9758 (emF g_13 t_14 (1 : Int32) (0 : Int64)))) R from
        Ev.go (pc' := 48) (ls' := [.ref 102, .int x1, ev_unk]) (st' := [.ref 102]) [.aload_n 0] (by decide +kernel) rfl <|
        Ev.cV0 (M' := M_Mo_takes) (as := []) (rest := []) l_Mo_157 M_Mo_takes_ok M_Mo_takes_in M_Mo_takes_se (by decide +kernel) (r16 c1 c2) rfl rfl rfl (Nat.le_of_ble_eq_true rfl) (Nat.le_of_ble_eq_true rfl) (s_Mo_takes (pr13 c1 c2) (pr14 c1 c2) (pr15 c1 c2) <| show Ev G (d + 5) _ _ M_Mo_valueHere 51 [.ref 102, .int x1, ev_unk] [.int (1 : Int32)] (hset (hset h 103 (aL 9758 (emF g_13 t_14 (1 : Int32) (0 : Int64)))) 102 (moC v_15 (pzM L16 (nx B20 L16 T17) dp18 y_19))) R from
          Ev.ret (r := (some (.int (1 : Int32)))) (Or.inl ⟨_, rfl, by decide +kernel, _, rfl, rfl⟩) (k2 c1 c2)
        )
      )
    ) (fun c2 =>
      Ev.go (pc' := 44) (ls' := [.ref 102, .int x1, ev_unk]) (st' := [.long (0 : Int64), .int (2 : Int32), .ref 102]) [.iconst 2, .lconst 0] (by decide +kernel) rfl <|
      Ev.cV0 (M' := M_Mo_emits) (as := [.int (2 : Int32), .long (0 : Int64)]) (rest := []) l_Mo_179 M_Mo_emits_ok M_Mo_emits_in M_Mo_emits_se (by decide +kernel) (r20 c1 c2) rfl rfl rfl (Nat.le_of_ble_eq_true rfl) (Nat.le_of_ble_eq_true rfl) (s_Mo_emits (pr17 c1 c2) (pr18 c1 c2) (pr19 c1 c2) <| show Ev G (d + 5) _ _ M_Mo_valueHere 47 [.ref 102, .int x1, ev_unk] [] (hset h 103 (aL 9758 (emF g_23 t_24 (2 : Int32) (0 : Int64)))) R from
        Ev.go (pc' := 48) (ls' := [.ref 102, .int x1, ev_unk]) (st' := [.ref 102]) [.aload_n 0] (by decide +kernel) rfl <|
        Ev.cV0 (M' := M_Mo_takes) (as := []) (rest := []) l_Mo_157 M_Mo_takes_ok M_Mo_takes_in M_Mo_takes_se (by decide +kernel) (r24 c1 c2) rfl rfl rfl (Nat.le_of_ble_eq_true rfl) (Nat.le_of_ble_eq_true rfl) (s_Mo_takes (pr21 c1 c2) (pr22 c1 c2) (pr23 c1 c2) <| show Ev G (d + 5) _ _ M_Mo_valueHere 51 [.ref 102, .int x1, ev_unk] [.int (1 : Int32)] (hset (hset h 103 (aL 9758 (emF g_23 t_24 (2 : Int32) (0 : Int64)))) 102 (moC v_25 (pzM L26 (nx B30 L26 T27) dp28 y_29))) R from
          Ev.ret (r := (some (.int (1 : Int32)))) (Or.inl ⟨_, rfl, by decide +kernel, _, rfl, rfl⟩) (k3 c1 c2)
        )
      )
    )
  )
theorem b_Mo_valueHere_76 {G : ev_G} {d k n : Nat} {h : ev_H} {R : Option Value → ev_H → Prop} {x1 : Int32} {v_1 : MG} {L2 : Nat} {T3 : Tk} {dp4 : Int32} {y_5 : Int64} {B6 : Nat → Nat} {S7 : AS} {S8 : AS}
  (pr1 : hat h 102 (moC v_1 (pzM L2 T3 dp4 y_5)))
  (pr2 : TxM h B6 L2)
  (pr3 : T3.2.2 ≤ L2)
  (r4 : ∃ fs, hat h 102 (oC 9 fs))
  (r5 : x1 = (12 : Int32) → ∃ fs, hat (hset h 102 (moC v_1 (pzM L2 (nx B6 L2 T3) dp4 y_5))) 102 (oC 9 fs))
  (pr6 : ¬ x1 = (12 : Int32) → x1 = (10 : Int32) → MS (hset h 102 (moC v_1 (pzM L2 (nx B6 L2 T3) dp4 y_5))) S7)
  (r7 : ¬ x1 = (12 : Int32) → x1 = (10 : Int32) → ∃ fs, hat (hset h 102 (moC v_1 (pzM L2 (nx B6 L2 T3) dp4 y_5))) 102 (oC 9 fs))
  (pr8 : ¬ x1 = (12 : Int32) → ¬ x1 = (10 : Int32) → MS (hset h 102 (moC v_1 (pzM L2 (nx B6 L2 T3) dp4 y_5))) S8)
  (r9 : ¬ x1 = (12 : Int32) → ¬ x1 = (10 : Int32) → ∃ fs, hat (hset h 102 (moC v_1 (pzM L2 (nx B6 L2 T3) dp4 y_5))) 102 (oC 9 fs))
  (k1 : x1 = (12 : Int32) → Ev G (d + 4) 0 0 M_Mo_isBinaryHere 0 [.ref 102, ev_unk] [] (hset h 102 (moC v_1 (pzM L2 (nx B6 L2 T3) dp4 y_5))) (fun r h1 => Ev G (d + 5) k n M_Mo_valueHere 90 [.ref 102, .int x1, ev_unk] (r.toList ++ []) h1 R))
  (k2 : ¬ x1 = (12 : Int32) → x1 = (10 : Int32) → Ev G (d + 4) 0 0 M_Mo_isNumberHere 0 [.ref 102, .int (0 : Int32), .int ((nI (sB S7)) - (1 : Int32)), ev_unk] [] (hset h 102 (moC v_1 (pzM L2 (nx B6 L2 T3) dp4 y_5))) (fun r h1 => Ev G (d + 5) k n M_Mo_valueHere 119 [.ref 102, .int x1, ev_unk] (r.toList ++ []) h1 R))
  (k3 : ¬ x1 = (12 : Int32) → ¬ x1 = (10 : Int32) → Ev G (d + 4) 0 0 M_Mo_isNumberHere 0 [.ref 102, .int (0 : Int32), .int ((nI (sP S8)) - (1 : Int32)), ev_unk] [] (hset h 102 (moC v_1 (pzM L2 (nx B6 L2 T3) dp4 y_5))) (fun r h1 => Ev G (d + 5) k n M_Mo_valueHere 119 [.ref 102, .int x1, ev_unk] (r.toList ++ []) h1 R))
  : Ev G (d + 5) k n M_Mo_valueHere 76 [.ref 102, .int x1, ev_unk] [] h R :=
  Ev.go (pc' := 77) (ls' := [.ref 102, .int x1, ev_unk]) (st' := [.ref 102]) [.aload_n 0] (by decide +kernel) rfl <|
  Ev.cV0 (M' := M_Mo_ahead) (as := []) (rest := []) l_Mo_151 M_Mo_ahead_ok M_Mo_ahead_in M_Mo_ahead_se (by decide +kernel) r4 rfl rfl rfl (Nat.le_of_ble_eq_true rfl) (Nat.le_of_ble_eq_true rfl) (s_ahT pr1 pr2 pr3 <| show Ev G (d + 5) _ _ M_Mo_valueHere 80 [.ref 102, .int x1, ev_unk] [] (hset h 102 (moC v_1 (pzM L2 (nx B6 L2 T3) dp4 y_5))) R from
    Ev.go (pc' := 83) (ls' := [.ref 102, .int x1, ev_unk]) (st' := [.int (12 : Int32), .int x1]) [.iload_n 1, .bipush (12)] (by decide +kernel) rfl <|
    Ev.br (i := .if_icmp .ne (10)) (P := x1 = (12 : Int32)) (t := 86) (f := 93) (r := []) (by decide +kernel) rfl (fun c1 =>
      Ev.go (pc' := 87) (ls' := [.ref 102, .int x1, ev_unk]) (st' := [.ref 102]) [.aload_n 0] (by decide +kernel) rfl <|
      Ev.cV0 (M' := M_Mo_isBinaryHere) (as := []) (rest := []) l_Mo_194 M_Mo_isBinaryHere_ok M_Mo_isBinaryHere_in M_Mo_isBinaryHere_se (by decide +kernel) (r5 c1) rfl rfl rfl (Nat.le_of_ble_eq_true rfl) (Nat.le_of_ble_eq_true rfl) (k1 c1)
    ) (fun c1 =>
      Ev.go (pc' := 98) (ls' := [.ref 102, .int x1, ev_unk]) (st' := [.int (10 : Int32), .int x1, .int (0 : Int32), .ref 102]) [.aload_n 0, .iconst 0, .iload_n 1, .bipush (10)] (by decide +kernel) rfl <|
      Ev.br (i := .if_icmp .ne (12)) (P := x1 = (10 : Int32)) (t := 101) (f := 110) (r := [.int (0 : Int32), .ref 102]) (by decide +kernel) rfl (fun c2 =>
        Ev.go (pc' := 102) (ls' := [.ref 102, .int x1, ev_unk]) (st' := [.ref 102, .int (0 : Int32), .ref 102]) [.aload_n 0] (by decide +kernel) rfl <|
        Ev.cV0 (M' := M_Mo_bits) (as := []) (rest := [.int (0 : Int32), .ref 102]) l_Mo_78 M_Mo_bits_ok M_Mo_bits_in M_Mo_bits_se (by decide +kernel) (r7 c1 c2) rfl rfl rfl (Nat.le_of_ble_eq_true rfl) (Nat.le_of_ble_eq_true rfl) (s_Mo_bits (pr6 c1 c2) <| show Ev G (d + 5) _ _ M_Mo_valueHere 105 [.ref 102, .int x1, ev_unk] [.int (nI (sB S7)), .int (0 : Int32), .ref 102] (hset h 102 (moC v_1 (pzM L2 (nx B6 L2 T3) dp4 y_5))) R from
          Ev.go (pc' := 116) (ls' := [.ref 102, .int x1, ev_unk]) (st' := [.int ((nI (sB S7)) - (1 : Int32)), .int (0 : Int32), .ref 102]) [.iconst 1, .isub, .goto (9)] (by decide +kernel) rfl <|
          Ev.cV0 (M' := M_Mo_isNumberHere) (as := [.int (0 : Int32), .int ((nI (sB S7)) - (1 : Int32))]) (rest := []) l_Mo_197 M_Mo_isNumberHere_ok M_Mo_isNumberHere_in M_Mo_isNumberHere_se (by decide +kernel) (r7 c1 c2) rfl rfl rfl (Nat.le_of_ble_eq_true rfl) (Nat.le_of_ble_eq_true rfl) (k2 c1 c2)
        )
      ) (fun c2 =>
        Ev.go (pc' := 111) (ls' := [.ref 102, .int x1, ev_unk]) (st' := [.ref 102, .int (0 : Int32), .ref 102]) [.aload_n 0] (by decide +kernel) rfl <|
        Ev.cV0 (M' := M_Mo_parts) (as := []) (rest := [.int (0 : Int32), .ref 102]) l_Mo_75 M_Mo_parts_ok M_Mo_parts_in M_Mo_parts_se (by decide +kernel) (r9 c1 c2) rfl rfl rfl (Nat.le_of_ble_eq_true rfl) (Nat.le_of_ble_eq_true rfl) (s_Mo_parts (pr8 c1 c2) <| show Ev G (d + 5) _ _ M_Mo_valueHere 114 [.ref 102, .int x1, ev_unk] [.int (nI (sP S8)), .int (0 : Int32), .ref 102] (hset h 102 (moC v_1 (pzM L2 (nx B6 L2 T3) dp4 y_5))) R from
          Ev.go (pc' := 116) (ls' := [.ref 102, .int x1, ev_unk]) (st' := [.int ((nI (sP S8)) - (1 : Int32)), .int (0 : Int32), .ref 102]) [.iconst 1, .isub] (by decide +kernel) rfl <|
          Ev.cV0 (M' := M_Mo_isNumberHere) (as := [.int (0 : Int32), .int ((nI (sP S8)) - (1 : Int32))]) (rest := []) l_Mo_197 M_Mo_isNumberHere_ok M_Mo_isNumberHere_in M_Mo_isNumberHere_se (by decide +kernel) (r9 c1 c2) rfl rfl rfl (Nat.le_of_ble_eq_true rfl) (Nat.le_of_ble_eq_true rfl) (k3 c1 c2)
        )
      )
    )
  )
theorem b_Mo_valueHere_90 {G : ev_G} {d k n : Nat} {h : ev_H} {R : Option Value → ev_H → Prop} {x1 : Int32} {y0 : Int32}
  (k1 : Ev G (d + 5) k n M_Mo_valueHere 119 [.ref 102, .int x1, ev_unk] [.int y0] h R)
  : Ev G (d + 5) k n M_Mo_valueHere 90 [.ref 102, .int x1, ev_unk] [.int y0] h R :=
  Ev.go (pc' := 119) (ls' := [.ref 102, .int x1, ev_unk]) (st' := [.int y0]) [.goto (29)] (by decide +kernel) rfl <|
  k1
theorem b_Mo_valueHere_119 {G : ev_G} {d k n : Nat} {h : ev_H} {R : Option Value → ev_H → Prop} {x1 : Int32} {y0 : Int32} {f_status_1 : Int32} {f_acts_2 : Int32} {f_marks_3 : Int32} {f_taped_4 : Int32} {f_size_5 : Int32} {f_token_6 : Int32} {f_begin_7 : Int32} {f_end_8 : Int32} {f_faults_9 : Int32} {f_faultPlace_10 : Int32} {f_faultKind_11 : Int32} {f_deep_12 : Int32} {f_value_13 : Int64} {f_broadMany_14 : Int32} {v_15 : MG} {z_16 : MP} {g_17 : Nat → Int64} {t_18 : Nat} {v_19 : MG} {L20 : Nat} {T21 : Tk} {dp22 : Int32} {y_23 : Int64} {B24 : Nat → Nat} {v_25 : MG} {z_26 : MP} {g_27 : Nat → Int64} {t_28 : Nat} {v_29 : MG} {L30 : Nat} {T31 : Tk} {dp32 : Int32} {y_33 : Int64} {B34 : Nat → Nat} {v_35 : MG} {z_36 : MP} {g_37 : Nat → Int64} {t_38 : Nat} {v_39 : MG} {L40 : Nat} {T41 : Tk} {dp42 : Int32} {y_43 : Int64} {B44 : Nat → Nat}
  (a1 : hat h 102 (oC 9 [.ref 103, .int f_status_1, .int f_acts_2, .int f_marks_3, .ref 104, .ref 105, .ref 106, .int f_taped_4, .int f_size_5, .int f_token_6, .int f_begin_7, .int f_end_8, .int f_faults_9, .int f_faultPlace_10, .int f_faultKind_11, .int f_deep_12, .long f_value_13, .ref 107, .ref 108, .ref 109, .ref 116, .int f_broadMany_14, .ref 124, .ref 125]))
  (pr2 : ¬ y0 = (0 : Int32) → x1 = (12 : Int32) → hat h 102 (moC v_15 z_16))
  (pr3 : ¬ y0 = (0 : Int32) → x1 = (12 : Int32) → hat h 103 (aL 9758 g_17))
  (pr4 : ¬ y0 = (0 : Int32) → x1 = (12 : Int32) → g_17 3 = lN t_18 ∧ t_18 < 500)
  (pr5 : ¬ y0 = (0 : Int32) → x1 = (12 : Int32) → hat (hset h 103 (aL 9758 (emF g_17 t_18 (5 : Int32) f_value_13))) 102 (moC v_19 (pzM L20 T21 dp22 y_23)))
  (pr6 : ¬ y0 = (0 : Int32) → x1 = (12 : Int32) → TxM (hset h 103 (aL 9758 (emF g_17 t_18 (5 : Int32) f_value_13))) B24 L20)
  (pr7 : ¬ y0 = (0 : Int32) → x1 = (12 : Int32) → T21.2.2 ≤ L20)
  (r8 : ¬ y0 = (0 : Int32) → x1 = (12 : Int32) → ∃ fs, hat (hset h 103 (aL 9758 (emF g_17 t_18 (5 : Int32) f_value_13))) 102 (oC 9 fs))
  (pr9 : ¬ y0 = (0 : Int32) → ¬ x1 = (12 : Int32) → x1 = (10 : Int32) → hat h 102 (moC v_25 z_26))
  (pr10 : ¬ y0 = (0 : Int32) → ¬ x1 = (12 : Int32) → x1 = (10 : Int32) → hat h 103 (aL 9758 g_27))
  (pr11 : ¬ y0 = (0 : Int32) → ¬ x1 = (12 : Int32) → x1 = (10 : Int32) → g_27 3 = lN t_28 ∧ t_28 < 500)
  (pr12 : ¬ y0 = (0 : Int32) → ¬ x1 = (12 : Int32) → x1 = (10 : Int32) → hat (hset h 103 (aL 9758 (emF g_27 t_28 (3 : Int32) f_value_13))) 102 (moC v_29 (pzM L30 T31 dp32 y_33)))
  (pr13 : ¬ y0 = (0 : Int32) → ¬ x1 = (12 : Int32) → x1 = (10 : Int32) → TxM (hset h 103 (aL 9758 (emF g_27 t_28 (3 : Int32) f_value_13))) B34 L30)
  (pr14 : ¬ y0 = (0 : Int32) → ¬ x1 = (12 : Int32) → x1 = (10 : Int32) → T31.2.2 ≤ L30)
  (r15 : ¬ y0 = (0 : Int32) → ¬ x1 = (12 : Int32) → x1 = (10 : Int32) → ∃ fs, hat (hset h 103 (aL 9758 (emF g_27 t_28 (3 : Int32) f_value_13))) 102 (oC 9 fs))
  (pr16 : ¬ y0 = (0 : Int32) → ¬ x1 = (12 : Int32) → ¬ x1 = (10 : Int32) → hat h 102 (moC v_35 z_36))
  (pr17 : ¬ y0 = (0 : Int32) → ¬ x1 = (12 : Int32) → ¬ x1 = (10 : Int32) → hat h 103 (aL 9758 g_37))
  (pr18 : ¬ y0 = (0 : Int32) → ¬ x1 = (12 : Int32) → ¬ x1 = (10 : Int32) → g_37 3 = lN t_38 ∧ t_38 < 500)
  (pr19 : ¬ y0 = (0 : Int32) → ¬ x1 = (12 : Int32) → ¬ x1 = (10 : Int32) → hat (hset h 103 (aL 9758 (emF g_37 t_38 (4 : Int32) f_value_13))) 102 (moC v_39 (pzM L40 T41 dp42 y_43)))
  (pr20 : ¬ y0 = (0 : Int32) → ¬ x1 = (12 : Int32) → ¬ x1 = (10 : Int32) → TxM (hset h 103 (aL 9758 (emF g_37 t_38 (4 : Int32) f_value_13))) B44 L40)
  (pr21 : ¬ y0 = (0 : Int32) → ¬ x1 = (12 : Int32) → ¬ x1 = (10 : Int32) → T41.2.2 ≤ L40)
  (r22 : ¬ y0 = (0 : Int32) → ¬ x1 = (12 : Int32) → ¬ x1 = (10 : Int32) → ∃ fs, hat (hset h 103 (aL 9758 (emF g_37 t_38 (4 : Int32) f_value_13))) 102 (oC 9 fs))
  (k1 : y0 = (0 : Int32) → R (some (.int (0 : Int32))) h)
  (k2 : ¬ y0 = (0 : Int32) → x1 = (12 : Int32) → R (some (.int (1 : Int32))) (hset (hset h 103 (aL 9758 (emF g_17 t_18 (5 : Int32) f_value_13))) 102 (moC v_19 (pzM L20 (nx B24 L20 T21) dp22 y_23))))
  (k3 : ¬ y0 = (0 : Int32) → ¬ x1 = (12 : Int32) → x1 = (10 : Int32) → R (some (.int (1 : Int32))) (hset (hset h 103 (aL 9758 (emF g_27 t_28 (3 : Int32) f_value_13))) 102 (moC v_29 (pzM L30 (nx B34 L30 T31) dp32 y_33))))
  (k4 : ¬ y0 = (0 : Int32) → ¬ x1 = (12 : Int32) → ¬ x1 = (10 : Int32) → R (some (.int (1 : Int32))) (hset (hset h 103 (aL 9758 (emF g_37 t_38 (4 : Int32) f_value_13))) 102 (moC v_39 (pzM L40 (nx B44 L40 T41) dp42 y_43))))
  : Ev G (d + 5) k n M_Mo_valueHere 119 [.ref 102, .int x1, ev_unk] [.int y0] h R :=
  Ev.go (pc' := 121) (ls' := [.ref 102, .int x1, .int y0]) (st' := [.int y0]) [.istore_n 2, .iload_n 2] (by decide +kernel) rfl <|
  Ev.br (i := .ifCond .ne (5)) (P := y0 = (0 : Int32)) (t := 124) (f := 126) (r := []) (by decide +kernel) rfl (fun c1 =>
    Ev.go (pc' := 125) (ls' := [.ref 102, .int x1, .int y0]) (st' := [.int (0 : Int32)]) [.iconst 0] (by decide +kernel) rfl <|
    Ev.ret (r := (some (.int (0 : Int32)))) (Or.inl ⟨_, rfl, by decide +kernel, _, rfl, rfl⟩) (k1 c1)
  ) (fun c1 =>
    Ev.go (pc' := 130) (ls' := [.ref 102, .int x1, .int y0]) (st' := [.int (12 : Int32), .int x1, .ref 102]) [.aload_n 0, .iload_n 1, .bipush (12)] (by decide +kernel) rfl <|
    Ev.br (i := .if_icmp .ne (7)) (P := x1 = (12 : Int32)) (t := 133) (f := 137) (r := [.ref 102]) (by decide +kernel) rfl (fun c2 =>
      Ev.go (pc' := 149) (ls' := [.ref 102, .int x1, .int y0]) (st' := [.ref 102, .int (5 : Int32), .ref 102]) [.iconst 5, .goto (14), .aload_n 0] (by decide +kernel) rfl <|
      Ev.getf f_Mo_164 (by decide +kernel) a1 rfl <|
      Ev.cV0 (M' := M_Mo_emits) (as := [.int (5 : Int32), .long f_value_13]) (rest := []) l_Mo_179 M_Mo_emits_ok M_Mo_emits_in M_Mo_emits_se (by decide +kernel) ⟨_, a1⟩ rfl rfl rfl (Nat.le_of_ble_eq_true rfl) (Nat.le_of_ble_eq_true rfl) (s_Mo_emits (pr2 c1 c2) (pr3 c1 c2) (pr4 c1 c2) <| show Ev G (d + 5) _ _ M_Mo_valueHere 155 [.ref 102, .int x1, .int y0] [] (hset h 103 (aL 9758 (emF g_17 t_18 (5 : Int32) f_value_13))) R from
        Ev.go (pc' := 156) (ls' := [.ref 102, .int x1, .int y0]) (st' := [.ref 102]) [.aload_n 0] (by decide +kernel) rfl <|
        Ev.cV0 (M' := M_Mo_takes) (as := []) (rest := []) l_Mo_157 M_Mo_takes_ok M_Mo_takes_in M_Mo_takes_se (by decide +kernel) (r8 c1 c2) rfl rfl rfl (Nat.le_of_ble_eq_true rfl) (Nat.le_of_ble_eq_true rfl) (s_Mo_takes (pr5 c1 c2) (pr6 c1 c2) (pr7 c1 c2) <| show Ev G (d + 5) _ _ M_Mo_valueHere 159 [.ref 102, .int x1, .int y0] [.int (1 : Int32)] (hset (hset h 103 (aL 9758 (emF g_17 t_18 (5 : Int32) f_value_13))) 102 (moC v_19 (pzM L20 (nx B24 L20 T21) dp22 y_23))) R from
          Ev.ret (r := (some (.int (1 : Int32)))) (Or.inl ⟨_, rfl, by decide +kernel, _, rfl, rfl⟩) (k2 c1 c2)
        )
      )
    ) (fun c2 =>
      Ev.go (pc' := 140) (ls' := [.ref 102, .int x1, .int y0]) (st' := [.int (10 : Int32), .int x1, .ref 102]) [.iload_n 1, .bipush (10)] (by decide +kernel) rfl <|
      Ev.br (i := .if_icmp .ne (7)) (P := x1 = (10 : Int32)) (t := 143) (f := 147) (r := [.ref 102]) (by decide +kernel) rfl (fun c3 =>
        Ev.go (pc' := 149) (ls' := [.ref 102, .int x1, .int y0]) (st' := [.ref 102, .int (3 : Int32), .ref 102]) [.iconst 3, .goto (4), .aload_n 0] (by decide +kernel) rfl <|
        Ev.getf f_Mo_164 (by decide +kernel) a1 rfl <|
        Ev.cV0 (M' := M_Mo_emits) (as := [.int (3 : Int32), .long f_value_13]) (rest := []) l_Mo_179 M_Mo_emits_ok M_Mo_emits_in M_Mo_emits_se (by decide +kernel) ⟨_, a1⟩ rfl rfl rfl (Nat.le_of_ble_eq_true rfl) (Nat.le_of_ble_eq_true rfl) (s_Mo_emits (pr9 c1 c2 c3) (pr10 c1 c2 c3) (pr11 c1 c2 c3) <| show Ev G (d + 5) _ _ M_Mo_valueHere 155 [.ref 102, .int x1, .int y0] [] (hset h 103 (aL 9758 (emF g_27 t_28 (3 : Int32) f_value_13))) R from
          Ev.go (pc' := 156) (ls' := [.ref 102, .int x1, .int y0]) (st' := [.ref 102]) [.aload_n 0] (by decide +kernel) rfl <|
          Ev.cV0 (M' := M_Mo_takes) (as := []) (rest := []) l_Mo_157 M_Mo_takes_ok M_Mo_takes_in M_Mo_takes_se (by decide +kernel) (r15 c1 c2 c3) rfl rfl rfl (Nat.le_of_ble_eq_true rfl) (Nat.le_of_ble_eq_true rfl) (s_Mo_takes (pr12 c1 c2 c3) (pr13 c1 c2 c3) (pr14 c1 c2 c3) <| show Ev G (d + 5) _ _ M_Mo_valueHere 159 [.ref 102, .int x1, .int y0] [.int (1 : Int32)] (hset (hset h 103 (aL 9758 (emF g_27 t_28 (3 : Int32) f_value_13))) 102 (moC v_29 (pzM L30 (nx B34 L30 T31) dp32 y_33))) R from
            Ev.ret (r := (some (.int (1 : Int32)))) (Or.inl ⟨_, rfl, by decide +kernel, _, rfl, rfl⟩) (k3 c1 c2 c3)
          )
        )
      ) (fun c3 =>
        Ev.go (pc' := 149) (ls' := [.ref 102, .int x1, .int y0]) (st' := [.ref 102, .int (4 : Int32), .ref 102]) [.iconst 4, .aload_n 0] (by decide +kernel) rfl <|
        Ev.getf f_Mo_164 (by decide +kernel) a1 rfl <|
        Ev.cV0 (M' := M_Mo_emits) (as := [.int (4 : Int32), .long f_value_13]) (rest := []) l_Mo_179 M_Mo_emits_ok M_Mo_emits_in M_Mo_emits_se (by decide +kernel) ⟨_, a1⟩ rfl rfl rfl (Nat.le_of_ble_eq_true rfl) (Nat.le_of_ble_eq_true rfl) (s_Mo_emits (pr16 c1 c2 c3) (pr17 c1 c2 c3) (pr18 c1 c2 c3) <| show Ev G (d + 5) _ _ M_Mo_valueHere 155 [.ref 102, .int x1, .int y0] [] (hset h 103 (aL 9758 (emF g_37 t_38 (4 : Int32) f_value_13))) R from
          Ev.go (pc' := 156) (ls' := [.ref 102, .int x1, .int y0]) (st' := [.ref 102]) [.aload_n 0] (by decide +kernel) rfl <|
          Ev.cV0 (M' := M_Mo_takes) (as := []) (rest := []) l_Mo_157 M_Mo_takes_ok M_Mo_takes_in M_Mo_takes_se (by decide +kernel) (r22 c1 c2 c3) rfl rfl rfl (Nat.le_of_ble_eq_true rfl) (Nat.le_of_ble_eq_true rfl) (s_Mo_takes (pr19 c1 c2 c3) (pr20 c1 c2 c3) (pr21 c1 c2 c3) <| show Ev G (d + 5) _ _ M_Mo_valueHere 159 [.ref 102, .int x1, .int y0] [.int (1 : Int32)] (hset (hset h 103 (aL 9758 (emF g_37 t_38 (4 : Int32) f_value_13))) 102 (moC v_39 (pzM L40 (nx B44 L40 T41) dp42 y_43))) R from
            Ev.ret (r := (some (.int (1 : Int32)))) (Or.inl ⟨_, rfl, by decide +kernel, _, rfl, rfl⟩) (k4 c1 c2 c3)
          )
        )
      )
    )
  )
def muV (k p : Nat) (fr : Int64) : Int64 := if k = 8 then fr else if k = 6 ∨ k = 7 then lN p else 0
section S72
variable {G : ev_G} {d : Nat} {h : ev_H} {R : Option Value → ev_H → Prop} {B : Nat → Nat} {L : Nat} {v : MG} {T : Tk} {dp : Int32} {y : Int64} {S : AS} {g : Nat → Int64} {t : Nat}
theorem b1_narrow : narrow .boolean (.int (1 : Int32)) = .int (1 : Int32) := rfl
theorem b0_narrow : narrow .boolean (.int (0 : Int32)) = .int (0 : Int32) := rfl
theorem s_value (m1 : hat h 102 (moC v (pzM L T dp y))) (m2 : hat h 103 (aL 9758 g)) (X : TxM h B L) (HT : TkOk B L T) (sl : SlR g 0 S) (ok : sOk S) (e : g 3 = lN t ∧ t < 500) (h0 : vkN B T = 0 → R (some (.int (0 : Int32))) (hset h 102 (bdC v L T 2 dp y))) (h1 : vkN B T ≠ 0 → ¬ (pPl B S (vkN B T) (nx B L T)).1 = 0 → ∀ h' y', Kp h h' 102 103 → hat h' 102 (bdC v L (nx B L T) (pPl B S (vkN B T) (nx B L T)).1 dp y') → R (some (.int (0 : Int32))) h') (h2 : vkN B T ≠ 0 → (pPl B S (vkN B T) (nx B L T)).1 = 0 → ¬ (pFr B S (vkN B T) (nx67 B L (vkN B T) (nx B L T))).1 = 0 → ∀ h' y', Kp h h' 102 103 → hat h' 102 (bdC v L (nx67 B L (vkN B T) (nx B L T)) (pFr B S (vkN B T) (nx67 B L (vkN B T) (nx B L T))).1 dp y') → R (some (.int (0 : Int32))) h') (h3 : vkN B T ≠ 0 → (pPl B S (vkN B T) (nx B L T)).1 = 0 → (pFr B S (vkN B T) (nx67 B L (vkN B T) (nx B L T))).1 = 0 → ∀ h' y', Kp h h' 102 104 → hat h' 102 (moC v (pzM L (nx8 B L (vkN B T) (nx67 B L (vkN B T) (nx B L T))) dp y')) → hat h' 103 (aL 9758 (emF g t (nI (vkN B T - 3)) (muV (vkN B T) (pPl B S (vkN B T) (nx B L T)).2 (pFr B S (vkN B T) (nx67 B L (vkN B T) (nx B L T))).2))) → R (some (.int (1 : Int32))) h') : Ev G (d + 5) 0 0 M_Mo_valueHere 0 [.ref 102, ev_unk, ev_unk] [] h R := by
  have o1 := ok.2.1
  have o2 := ok.2.2.2.1
  have o3 := ok.2.2.1
  have o4 := ok.1
  have n1 := nx_ok HT
  have u : ∀ m, m < 13 → (keM B T = nI m ↔ wdB B T (kwL m) = true) := fun m hm => ke_eq hm
  have u8 : keM B T = 8 ↔ wdB B T 9 = true := u 8 (by omega)
  have u3 : keM B T = 3 ↔ wdB B T 5 = true := u 3 (by omega)
  have u9 : keM B T = 9 ↔ wdB B T 10 = true := u 9 (by omega)
  have u10 : keM B T = 10 ↔ wdB B T 11 = true := u 10 (by omega)
  have u11 : keM B T = 11 ↔ wdB B T 12 = true := u 11 (by omega)
  have u12 : keM B T = 12 ↔ wdB B T 13 = true := u 12 (by omega)
  have nf : ∀ {i : Nat} {c : Int32}, (keM B T = c ↔ wdB B T i = true) → ¬ keM B T = c → ¬ wdB B T i = true := fun q k z => k (q.mpr z)
  have A22 : ∀ (x : Int32) (w : Nat), (x = 8 ∧ w = 0) ∨ (x = 3 ∧ w = 1) ∨ (x = 9 ∧ w = 2) → vkN B T = w + 3 → Ev G (d + 5) 0 0 M_Mo_valueHere 22 [.ref 102, .int x, ev_unk] [] h R := by
    intro x w hx hv
    rw [hv] at h3
    have ek : pPl B S (w + 3) (nx B L T) = (0, 0) := by unfold pPl; rw [if_neg (by omega), if_neg (by omega)]
    have ef : ∀ T', pFr B S (w + 3) T' = (0, 0) := fun T' => by unfold pFr; rw [if_neg (by omega)]
    have e67 : nx67 B L (w + 3) (nx B L T) = nx B L T := by unfold nx67; rw [if_neg (by omega)]
    have e8 : nx8 B L (w + 3) (nx B L T) = nx B L T := by unfold nx8; rw [if_neg (by omega)]
    have em : ∀ p fr, muV (w + 3) p fr = 0 := fun p fr => by unfold muV; rw [if_neg (by omega), if_neg (by omega)]
    rw [ek, e67, ef, e8, em, Nat.add_sub_cancel] at h3
    have fin : R (some (.int (1 : Int32))) (hset (hset h 103 (aL 9758 (emF g t (nI w) 0))) 102 (moC v (pzM L (nx B L T) dp y))) := by
      have mh := hat_ne (c' := aL 9758 (emF g t (nI w) 0)) (b := 103) m1 (by omega)
      exact h3 (by omega) rfl rfl _ y (((Kp.refl h 102 104).set (k := 103) _ (by omega) (by omega)).set (k := 102) _ (by omega) (by omega)) (hat_set mh) (hat_ne (hat_set m2) (by omega))
    have mh : ∀ w : Int32, hat (hset h 103 (aL 9758 (emF g t w 0))) 102 (moC v (pzM L T dp y)) := fun w => hat_ne m1 (by omega)
    refine b_Mo_valueHere_22 (fun _ => m1) (fun _ => m2) (fun _ => e) (fun _ => ⟨_, m1⟩) (fun _ => mh 0) (fun _ => X.set3) (fun _ => HT.2.2.1) (fun _ => ⟨_, mh 0⟩) (fun _ _ => m1) (fun _ _ => m2) (fun _ _ => e) (fun _ _ => ⟨_, m1⟩) (fun _ _ => mh 1) (fun _ _ => X.set3) (fun _ _ => HT.2.2.1) (fun _ _ => ⟨_, mh 1⟩) (fun _ _ => m1) (fun _ _ => m2) (fun _ _ => e) (fun _ _ => ⟨_, m1⟩) (fun _ _ => mh 2) (fun _ _ => X.set3) (fun _ _ => HT.2.2.1) (fun _ _ => ⟨_, mh 2⟩) (fun k => ?_) (fun k k2 => ?_) (fun k k2 => ?_)
    · rcases hx with ⟨rfl, rfl⟩ | ⟨rfl, rfl⟩ | ⟨rfl, rfl⟩
      · exact fin
      · exact absurd k (by decide)
      · exact absurd k (by decide)
    · rcases hx with ⟨rfl, rfl⟩ | ⟨rfl, rfl⟩ | ⟨rfl, rfl⟩
      · exact absurd rfl k
      · exact fin
      · exact absurd k2 (by decide)
    · rcases hx with ⟨rfl, rfl⟩ | ⟨rfl, rfl⟩ | ⟨rfl, rfl⟩
      · exact absurd rfl k
      · exact absurd rfl k2
      · exact fin
  -- after the number, or the binary
  have A119 : ∀ (x : Int32) (w : Nat) (h5 : ev_H) (T1 : Tk) (q : Int64), (x = 10 ∧ w = 3) ∨ (x = 11 ∧ w = 4) ∨ (x = 12 ∧ w = 5) → Kp h h5 102 103 → hat h5 102 (moC v (pzM L T1 dp q)) → TkOk B L T1 → (∀ h' y', Kp h h' 102 104 → hat h' 102 (moC v (pzM L (nx B L T1) dp y')) → hat h' 103 (aL 9758 (emF g t (nI w) q)) → R (some (.int (1 : Int32))) h') → Ev G (d + 5) 0 0 M_Mo_valueHere 119 [.ref 102, .int x, ev_unk] [.int 1] h5 R := by
    intro x w h5 T1 q hx K m1 HT go
    have X := X.kg K.g (by omega)
    have m2 := K.hat m2 (by omega)
    have fin : R (some (.int (1 : Int32))) (hset (hset h5 103 (aL 9758 (emF g t (nI w) q))) 102 (moC v (pzM L (nx B L T1) dp q))) := by
      have mh := hat_ne (c' := aL 9758 (emF g t (nI w) q)) (b := 103) m1 (by omega)
      exact go _ q (((K.wide (by omega) (by omega)).set (k := 103) _ (by omega) (by omega)).set (k := 102) _ (by omega) (by omega)) (hat_set mh) (hat_ne (hat_set m2) (by omega))
    have mh : ∀ w : Int32, hat (hset h5 103 (aL 9758 (emF g t w q))) 102 (moC v (pzM L T1 dp q)) := fun w => hat_ne m1 (by omega)
    refine b_Mo_valueHere_119 m1 (fun _ _ => m1) (fun _ _ => m2) (fun _ _ => e) (fun _ _ => mh 5) (fun _ _ => X.set3) (fun _ _ => HT.2.2.1) (fun _ _ => ⟨_, mh 5⟩) (fun _ _ _ => m1) (fun _ _ _ => m2) (fun _ _ _ => e) (fun _ _ _ => mh 3) (fun _ _ _ => X.set3) (fun _ _ _ => HT.2.2.1) (fun _ _ _ => ⟨_, mh 3⟩) (fun _ _ _ => m1) (fun _ _ _ => m2) (fun _ _ _ => e) (fun _ _ _ => mh 4) (fun _ _ _ => X.set3) (fun _ _ _ => HT.2.2.1) (fun _ _ _ => ⟨_, mh 4⟩) (fun k => absurd k (by decide)) (fun _ k => ?_) (fun _ k k2 => ?_) (fun _ k k2 => ?_)
    · rcases hx with ⟨rfl, rfl⟩ | ⟨rfl, rfl⟩ | ⟨rfl, rfl⟩
      · exact absurd k (by decide)
      · exact absurd k (by decide)
      · exact fin
    · rcases hx with ⟨rfl, rfl⟩ | ⟨rfl, rfl⟩ | ⟨rfl, rfl⟩
      · exact fin
      · exact absurd k2 (by decide)
      · exact absurd rfl k
    · rcases hx with ⟨rfl, rfl⟩ | ⟨rfl, rfl⟩ | ⟨rfl, rfl⟩
      · exact absurd rfl k2
      · exact fin
      · exact absurd rfl k
  -- no value
  have B119 : ∀ (x : Int32) (h5 : ev_H), hat h5 102 (moC (fpV v 0) (pzM L T dp y)) ∨ (∃ T1 k y', hat h5 102 (bdC v L T1 k dp y')) → R (some (.int (0 : Int32))) h5 → Ev G (d + 5) 0 0 M_Mo_valueHere 119 [.ref 102, .int x, ev_unk] [.int 0] h5 R := by
    intro x h5 hh r
    have : ∃ v' z', hat h5 102 (moC v' z') := by
      rcases hh with m | ⟨T1, k, y', m⟩
      · exact ⟨_, _, m⟩
      · exact ⟨_, _, m⟩
    obtain ⟨v', z', m⟩ := this
    refine b_Mo_valueHere_119 (v_15 := v) (z_16 := pzM L T dp y) (g_17 := g) (t_18 := 0) (v_19 := v) (L20 := L) (T21 := T) (dp22 := dp) (y_23 := y) (B24 := B) (v_25 := v) (z_26 := pzM L T dp y) (g_27 := g) (t_28 := 0) (v_29 := v) (L30 := L) (T31 := T) (dp32 := dp) (y_33 := y) (B34 := B) (v_35 := v) (z_36 := pzM L T dp y) (g_37 := g) (t_38 := 0) (v_39 := v) (L40 := L) (T41 := T) (dp42 := dp) (y_43 := y) (B44 := B) m (fun k => absurd rfl k) (fun k => absurd rfl k) (fun k => absurd rfl k) (fun k => absurd rfl k) (fun k => absurd rfl k) (fun k => absurd rfl k) (fun k => absurd rfl k) (fun k => absurd rfl k) (fun k => absurd rfl k) (fun k => absurd rfl k) (fun k => absurd rfl k) (fun k => absurd rfl k) (fun k => absurd rfl k) (fun k => absurd rfl k) (fun k => absurd rfl k) (fun k => absurd rfl k) (fun k => absurd rfl k) (fun k => absurd rfl k) (fun k => absurd rfl k) (fun k => absurd rfl k) (fun k => absurd rfl k) (fun _ => r) (fun k => absurd rfl k) (fun k => absurd rfl k) (fun k => absurd rfl k)
  have KA : Kp h (hset h 102 (moC v (pzM L (nx B L T) dp y))) 102 103 := (Kp.refl h 102 103).set _ (by omega) (by omega)
  have mA := hat_set m1 (c' := moC v (pzM L (nx B L T) dp y))
  have HA : MS (hset h 102 (moC v (pzM L (nx B L T) dp y))) S := ⟨_, _, g, mA, KA.hat m2 (by omega), sl⟩
  have XA : TxM (hset h 102 (moC v (pzM L (nx B L T) dp y))) B L := X.set
  -- bit, key
  have A76 : ∀ (x : Int32) (k hi : Nat), (x = 10 ∧ k = 6 ∧ hi = sB S - 1) ∨ (x = 11 ∧ k = 7 ∧ hi = sP S - 1) → vkN B T = k → Ev G (d + 5) 0 0 M_Mo_valueHere 76 [.ref 102, .int x, ev_unk] [] h R := by
    intro x k hi hx hv
    rw [hv] at h1 h2 h3
    have k67 : k = 6 ∨ k = 7 := by omega
    have ek : pPl B S k (nx B L T) = pNum B (nx B L T) 0 hi := by
      unfold pPl
      rcases hx with ⟨-, rfl, rfl⟩ | ⟨-, rfl, rfl⟩
      · rw [if_pos rfl]
      · rw [if_neg (by omega), if_pos rfl]
    have ef : ∀ T', pFr B S k T' = (0, 0) := fun T' => by unfold pFr; rw [if_neg (by omega)]
    have e67 : nx67 B L k (nx B L T) = nx B L (nx B L T) := by unfold nx67; rw [if_pos k67]
    have e8 : ∀ T', nx8 B L k T' = T' := fun T' => by unfold nx8; rw [if_neg (by omega)]
    have em : ∀ p fr, muV k p fr = lN p := fun p fr => by unfold muV; rw [if_neg (by omega), if_pos k67]
    rw [ek] at h1
    rw [ek, e67, ef, e8, em] at h3
    have hb : hi < 2147483648 := by omega
    have num : Ev G (d + 4) 0 0 M_Mo_isNumberHere 0 [.ref 102, .int (0 : Int32), .int (nI hi), ev_unk] [] (hset h 102 (moC v (pzM L (nx B L T) dp y))) (fun r h1 => Ev G (d + 5) 0 0 M_Mo_valueHere 119 [.ref 102, .int x, ev_unk] (r.toList ++ []) h1 R) := by
      refine s_num (d := d + 3) (lo := 0) (hi := hi) mA XA n1 ⟨rfl, by omega⟩ ⟨rfl, hb⟩ (fun c => ?_) (fun c y' => ?_)
      · rw [hset_hset]
        refine A119 x (k - 3) _ (nx B L T) _ ?_ ((Kp.refl h 102 103).set _ (by omega) (by omega)) (hat_set m1) n1 (h3 (by omega) c rfl)
        rcases hx with ⟨rfl, rfl, -⟩ | ⟨rfl, rfl, -⟩
        · exact Or.inl ⟨rfl, rfl⟩
        · exact Or.inr (Or.inl ⟨rfl, rfl⟩)
      · rw [hset_hset]
        exact B119 x _ (Or.inr ⟨_, _, _, hat_set m1⟩) (h1 (by omega) c _ y' ((Kp.refl h 102 103).set _ (by omega) (by omega)) (hat_set m1))
    refine b_Mo_valueHere_76 (S7 := S) (S8 := S) m1 X HT.2.2.1 ⟨_, m1⟩ (fun _ => ⟨_, mA⟩) (fun _ _ => HA) (fun _ _ => ⟨_, mA⟩) (fun _ _ => HA) (fun _ _ => ⟨_, mA⟩) (fun k => ?_) (fun _ k => ?_) (fun _ k => ?_)
    · rcases hx with ⟨rfl, -⟩ | ⟨rfl, -⟩ <;> exact absurd k (by decide)
    · rcases hx with ⟨rfl, -, rfl⟩ | ⟨rfl, -⟩
      · rw [show nI (sB S) - 1 = nI (sB S - 1) from nI_sub (b := 1) (by omega)]; exact num
      · exact absurd k (by decide)
    · rcases hx with ⟨rfl, -⟩ | ⟨rfl, -, rfl⟩
      · exact absurd rfl k
      · rw [show nI (sP S) - 1 = nI (sP S - 1) from nI_sub (b := 1) (by omega)]; exact num
  refine b_Mo_valueHere_0 m1 X HT ⟨_, m1⟩ (fun _ _ _ _ _ _ => m1) (fun _ _ _ _ _ _ => rfl) (fun _ _ _ _ _ _ => ⟨_, m1⟩) (fun c => ?_) (fun c c2 => ?_) (fun c c2 c3 => ?_) (fun c c2 c3 c4 => ?_) (fun c c2 c3 c4 c5 => ?_) (fun c c2 c3 c4 c5 c6 => ?_) (fun c c2 c3 c4 c5 c6 => ?_)
  · rw [c]
    exact A22 8 0 (Or.inl ⟨rfl, rfl⟩) (by unfold vkN; rw [if_pos (u8.mp c)])
  · rw [c2]
    exact A22 3 1 (Or.inr (Or.inl ⟨rfl, rfl⟩)) (by unfold vkN; rw [if_neg (nf u8 c), if_pos (u3.mp c2)])
  · rw [c3]
    exact A22 9 2 (Or.inr (Or.inr ⟨rfl, rfl⟩)) (by unfold vkN; rw [if_neg (nf u8 c), if_neg (nf u3 c2), if_pos (u9.mp c3)])
  · rw [c4]
    exact A76 10 6 _ (Or.inl ⟨rfl, rfl, rfl⟩) (by unfold vkN; rw [if_neg (nf u8 c), if_neg (nf u3 c2), if_neg (nf u9 c3), if_pos (u10.mp c4)])
  · rw [c5]
    exact A76 11 7 _ (Or.inr ⟨rfl, rfl, rfl⟩) (by unfold vkN; rw [if_neg (nf u8 c), if_neg (nf u3 c2), if_neg (nf u9 c3), if_neg (nf u10 c4), if_pos (u11.mp c5)])
  · have hv : vkN B T = 8 := by unfold vkN; rw [if_neg (nf u8 c), if_neg (nf u3 c2), if_neg (nf u9 c3), if_neg (nf u10 c4), if_neg (nf u11 c5), if_pos (u12.mp c6)]
    rw [c6]
    rw [hv] at h1 h2 h3
    have ek : pPl B S 8 (nx B L T) = (0, 0) := by unfold pPl; rw [if_neg (by omega), if_neg (by omega)]
    have ef : ∀ T', pFr B S 8 T' = pBin B T' (sB S) := fun T' => by unfold pFr; rw [if_pos rfl]
    have e67 : nx67 B L 8 (nx B L T) = nx B L T := by unfold nx67; rw [if_neg (by omega)]
    have e8 : ∀ T', nx8 B L 8 T' = nx B L T' := fun T' => by unfold nx8; rw [if_pos rfl]
    have em : ∀ p fr, muV 8 p fr = fr := fun p fr => by unfold muV; rw [if_pos rfl]
    rw [ek, e67, ef] at h2
    rw [ek, e67, ef, e8, em] at h3
    refine b_Mo_valueHere_76 (S7 := S) (S8 := S) m1 X HT.2.2.1 ⟨_, m1⟩ (fun _ => ⟨_, mA⟩) (fun _ _ => HA) (fun _ _ => ⟨_, mA⟩) (fun _ _ => HA) (fun _ _ => ⟨_, mA⟩) (fun _ => ?_) (fun k => absurd rfl k) (fun k => absurd rfl k)
    refine s_bin (d := d + 2) mA XA n1 HA o1 (fun c => ?_) (fun c y' => ?_)
    · rw [hset_hset]
      exact b_Mo_valueHere_90 (A119 12 5 _ (nx B L T) _ (Or.inr (Or.inr ⟨rfl, rfl⟩)) ((Kp.refl h 102 103).set _ (by omega) (by omega)) (hat_set m1) n1 (h3 (by omega) rfl c))
    · rw [hset_hset]
      exact b_Mo_valueHere_90 (B119 12 _ (Or.inr ⟨_, _, _, hat_set m1⟩) (h2 (by omega) rfl c _ y' ((Kp.refl h 102 103).set _ (by omega) (by omega)) (hat_set m1)))
  · exact h0 (by unfold vkN; rw [if_neg (nf u8 c), if_neg (nf u3 c2), if_neg (nf u9 c3), if_neg (nf u10 c4), if_neg (nf u11 c5), if_neg (nf u12 c6)])
end S72
