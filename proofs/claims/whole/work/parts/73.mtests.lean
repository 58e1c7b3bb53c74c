/-! the model's reader: tests, sides, facts -/
theorem b_Mo_fact_0 {G : ev_G} {d k n : Nat} {h : ev_H} {R : Option Value → ev_H → Prop} {v_1 : MG} {L2 : Nat} {T3 : Tk} {dp4 : Int32} {y_5 : Int64} {B6 : Nat → Nat} {v_7 : MG} {L8 : Nat} {T9 : Tk} {dp10 : Int32} {y_11 : Int64} {B12 : Nat → Nat} {c_13 : Nat}
  (pr1 : hat h 102 (moC v_1 (pzM L2 T3 dp4 y_5)))
  (pr2 : TxM h B6 L2)
  (pr3 : TkOk B6 L2 T3)
  (r4 : ∃ fs, hat h 102 (oC 9 fs))
  (r5 : (keM B6 T3) = (5 : Int32) → ∃ fs, hat h 102 (oC 9 fs))
  (pr6 : ¬ (keM B6 T3) = (5 : Int32) → hat h 102 (moC v_7 (pzM L8 T9 dp10 y_11)))
  (pr7 : ¬ (keM B6 T3) = (5 : Int32) → TxM h B12 L8)
  (pr8 : ¬ (keM B6 T3) = (5 : Int32) → TkOk B12 L8 T9)
  (pr9 : ¬ (keM B6 T3) = (5 : Int32) → (91 : Int32) = nI c_13 ∧ sgnB c_13 = true)
  (r10 : ¬ (keM B6 T3) = (5 : Int32) → ∃ fs, hat h 102 (oC 9 fs))
  (r11 : ¬ (keM B6 T3) = (5 : Int32) → (b2i (decide (T9.1 = c_13))) = (0 : Int32) → ∃ fs, hat h 102 (oC 9 fs))
  (r12 : ¬ (keM B6 T3) = (5 : Int32) → ¬ (b2i (decide (T9.1 = c_13))) = (0 : Int32) → ∃ fs, hat h 102 (oC 9 fs))
  (k1 : (keM B6 T3) = (5 : Int32) → Ev G (d + 4) 0 0 M_Mo_sinks 0 [.ref 102] [] h (fun r h1 => Ev G (d + 5) k n M_Mo_fact 12 [.ref 102, ev_unk] (r.toList ++ []) h1 R))
  (k2 : ¬ (keM B6 T3) = (5 : Int32) → (b2i (decide (T9.1 = c_13))) = (0 : Int32) → Ev G (d + 4) 0 0 M_Mo_valueHere 0 [.ref 102, ev_unk, ev_unk] [] h (fun r h1 => Ev G (d + 5) k n M_Mo_fact 84 [.ref 102, ev_unk] (r.toList ++ []) h1 R))
  (k3 : ¬ (keM B6 T3) = (5 : Int32) → ¬ (b2i (decide (T9.1 = c_13))) = (0 : Int32) → Ev G (d + 4) 0 0 M_Mo_sinks 0 [.ref 102] [] h (fun r h1 => Ev G (d + 5) k n M_Mo_fact 48 [.ref 102, ev_unk] (r.toList ++ []) h1 R))
  : Ev G (d + 5) k n M_Mo_fact 0 [.ref 102, ev_unk] [] h R :=
  Ev.go (pc' := 1) (ls' := [.ref 102, ev_unk]) (st' := [.ref 102]) [.aload_n 0] (by decide +kernel) rfl <|
  Ev.cV0 (M' := M_Mo_key_0) (as := []) (rest := []) l_Mo_188 M_Mo_key_0_ok M_Mo_key_0_in M_Mo_key_0_se (by decide +kernel) r4 rfl rfl rfl (Nat.le_of_ble_eq_true rfl) (Nat.le_of_ble_eq_true rfl) (s_Mo_key_0 pr1 pr2 pr3 <| show Ev G (d + 5) _ _ M_Mo_fact 4 [.ref 102, ev_unk] [.int (keM B6 T3)] h R from
    Ev.go (pc' := 5) (ls' := [.ref 102, ev_unk]) (st' := [.int (5 : Int32), .int (keM B6 T3)]) [.iconst 5] (by decide +kernel) rfl <|
    Ev.br (i := .if_icmp .ne (30)) (P := (keM B6 T3) = (5 : Int32)) (t := 8) (f := 35) (r := []) (by decide +kernel) rfl (fun c1 =>
      Ev.go (pc' := 9) (ls' := [.ref 102, ev_unk]) (st' := [.ref 102]) [.aload_n 0] (by decide +kernel) rfl <|
      Ev.cV0 (M' := M_Mo_sinks) (as := []) (rest := []) l_Mo_201 M_Mo_sinks_ok M_Mo_sinks_in M_Mo_sinks_se (by decide +kernel) (r5 c1) rfl rfl rfl (Nat.le_of_ble_eq_true rfl) (Nat.le_of_ble_eq_true rfl) (k1 c1)
    ) (fun c1 =>
      Ev.go (pc' := 38) (ls' := [.ref 102, ev_unk]) (st' := [.int (91 : Int32), .ref 102]) [.aload_n 0, .bipush (91)] (by decide +kernel) rfl <|
      Ev.cV0 (M' := M_Mo_isSign) (as := [.int (91 : Int32)]) (rest := []) l_Mo_154 M_Mo_isSign_ok M_Mo_isSign_in M_Mo_isSign_se (by decide +kernel) (r10 c1) rfl rfl rfl (Nat.le_of_ble_eq_true rfl) (Nat.le_of_ble_eq_true rfl) (s_Mo_isSign (pr6 c1) (pr7 c1) (pr8 c1) (pr9 c1) <| show Ev G (d + 5) _ _ M_Mo_fact 41 [.ref 102, ev_unk] [.int (b2i (decide (T9.1 = c_13)))] h R from
        Ev.br (i := .ifCond .eq (39)) (P := (b2i (decide (T9.1 = c_13))) = (0 : Int32)) (t := 80) (f := 44) (r := []) (by decide +kernel) rfl (fun c2 =>
          Ev.go (pc' := 81) (ls' := [.ref 102, ev_unk]) (st' := [.ref 102]) [.aload_n 0] (by decide +kernel) rfl <|
          Ev.cV0 (M' := M_Mo_valueHere) (as := []) (rest := []) l_Mo_213 M_Mo_valueHere_ok M_Mo_valueHere_in M_Mo_valueHere_se (by decide +kernel) (r11 c1 c2) rfl rfl rfl (Nat.le_of_ble_eq_true rfl) (Nat.le_of_ble_eq_true rfl) (k2 c1 c2)
        ) (fun c2 =>
          Ev.go (pc' := 45) (ls' := [.ref 102, ev_unk]) (st' := [.ref 102]) [.aload_n 0] (by decide +kernel) rfl <|
          Ev.cV0 (M' := M_Mo_sinks) (as := []) (rest := []) l_Mo_201 M_Mo_sinks_ok M_Mo_sinks_in M_Mo_sinks_se (by decide +kernel) (r12 c1 c2) rfl rfl rfl (Nat.le_of_ble_eq_true rfl) (Nat.le_of_ble_eq_true rfl) (k3 c1 c2)
        )
      )
    )
  )
theorem b_Mo_fact_12 {G : ev_G} {d k n : Nat} {h : ev_H} {R : Option Value → ev_H → Prop} {y0 : Int32}
  (r1 : ¬ y0 = (0 : Int32) → ∃ fs, hat h 102 (oC 9 fs))
  (k1 : y0 = (0 : Int32) → R (some (.int (0 : Int32))) h)
  (k2 : ¬ y0 = (0 : Int32) → Ev G (d + 4) 0 0 M_Mo_fact 0 [.ref 102, ev_unk] [] h (fun r h1 => Ev G (d + 5) k n M_Mo_fact 19 [.ref 102, ev_unk] (r.toList ++ []) h1 R))
  : Ev G (d + 5) k n M_Mo_fact 12 [.ref 102, ev_unk] [.int y0] h R :=
  Ev.br (i := .ifCond .eq (21)) (P := y0 = (0 : Int32)) (t := 33) (f := 15) (r := []) (by decide +kernel) rfl (fun c1 =>
    Ev.go (pc' := 34) (ls' := [.ref 102, ev_unk]) (st' := [.int (0 : Int32)]) [.iconst 0] (by decide +kernel) rfl <|
    Ev.ret (r := (some (.int (0 : Int32)))) (Or.inl ⟨_, rfl, by decide +kernel, _, rfl, rfl⟩) (k1 c1)
  ) (fun c1 =>
    Ev.go (pc' := 16) (ls' := [.ref 102, ev_unk]) (st' := [.ref 102]) [.aload_n 0] (by decide +kernel) rfl <|
    Ev.cV0 (M' := M_Mo_fact) (as := []) (rest := []) l_Mo_191 M_Mo_fact_ok M_Mo_fact_in M_Mo_fact_se (by decide +kernel) (r1 c1) rfl rfl rfl (Nat.le_of_ble_eq_true rfl) (Nat.le_of_ble_eq_true rfl) (k2 c1)
  )
theorem b_Mo_fact_19 {G : ev_G} {d k n : Nat} {h : ev_H} {R : Option Value → ev_H → Prop} {y0 : Int32} {v_1 : MG} {z_2 : MP} {g_3 : Nat → Int64} {t_4 : Nat} {L5 : Nat} {T6 : Tk} {dp7 : Int32} {y_8 : Int64}
  (pr1 : ¬ y0 = (0 : Int32) → hat h 102 (moC v_1 (pzM L5 T6 dp7 y_8)))
  (pr2 : ¬ y0 = (0 : Int32) → hat h 103 (aL 9758 g_3))
  (pr3 : ¬ y0 = (0 : Int32) → g_3 3 = lN t_4 ∧ t_4 < 500)
  (r4 : ¬ y0 = (0 : Int32) → ∃ fs, hat h 102 (oC 9 fs))
  (k1 : y0 = (0 : Int32) → R (some (.int (0 : Int32))) h)
  (k2 : ¬ y0 = (0 : Int32) → (1 : Int32) = (0 : Int32) → R (some (.int (0 : Int32))) (hset (hset h 103 (aL 9758 (emF g_3 t_4 10 0))) 102 (moC v_1 (pzM L5 T6 (dp7 - 1) y_8))))
  (k3 : ¬ y0 = (0 : Int32) → ¬ (1 : Int32) = (0 : Int32) → R (some (.int (1 : Int32))) (hset (hset h 103 (aL 9758 (emF g_3 t_4 10 0))) 102 (moC v_1 (pzM L5 T6 (dp7 - 1) y_8))))
  : Ev G (d + 5) k n M_Mo_fact 19 [.ref 102, ev_unk] [.int y0] h R :=
  Ev.br (i := .ifCond .eq (14)) (P := y0 = (0 : Int32)) (t := 33) (f := 22) (r := []) (by decide +kernel) rfl (fun c1 =>
    Ev.go (pc' := 34) (ls' := [.ref 102, ev_unk]) (st' := [.int (0 : Int32)]) [.iconst 0] (by decide +kernel) rfl <|
    Ev.ret (r := (some (.int (0 : Int32)))) (Or.inl ⟨_, rfl, by decide +kernel, _, rfl, rfl⟩) (k1 c1)
  ) (fun c1 =>
    Ev.go (pc' := 23) (ls' := [.ref 102, ev_unk]) (st' := [.ref 102]) [.aload_n 0] (by decide +kernel) rfl <|
    Ev.cV0 (M' := M_Mo_emitsNot) (as := []) (rest := []) l_Mo_204 M_Mo_emitsNot_ok M_Mo_emitsNot_in M_Mo_emitsNot_se (by decide +kernel) (r4 c1) rfl rfl rfl (Nat.le_of_ble_eq_true rfl) (Nat.le_of_ble_eq_true rfl) (s_emitsNot (pr1 c1) (pr2 c1) (pr3 c1) <| show Ev G (d + 5) _ _ M_Mo_fact 26 [.ref 102, ev_unk] [.int (1 : Int32)] (hset (hset h 103 (aL 9758 (emF g_3 t_4 10 0))) 102 (moC v_1 (pzM L5 T6 (dp7 - 1) y_8))) R from
      Ev.br (i := .ifCond .eq (7)) (P := (1 : Int32) = (0 : Int32)) (t := 33) (f := 29) (r := []) (by decide +kernel) rfl (fun c2 =>
        Ev.go (pc' := 34) (ls' := [.ref 102, ev_unk]) (st' := [.int (0 : Int32)]) [.iconst 0] (by decide +kernel) rfl <|
        Ev.ret (r := (some (.int (0 : Int32)))) (Or.inl ⟨_, rfl, by decide +kernel, _, rfl, rfl⟩) (k2 c1 c2)
      ) (fun c2 =>
        Ev.go (pc' := 34) (ls' := [.ref 102, ev_unk]) (st' := [.int (1 : Int32)]) [.iconst 1, .goto (4)] (by decide +kernel) rfl <|
        Ev.ret (r := (some (.int (1 : Int32)))) (Or.inl ⟨_, rfl, by decide +kernel, _, rfl, rfl⟩) (k3 c1 c2)
      )
    )
  )
theorem b_Mo_fact_48 {G : ev_G} {d k n : Nat} {h : ev_H} {R : Option Value → ev_H → Prop} {y0 : Int32}
  (r1 : ¬ y0 = (0 : Int32) → ∃ fs, hat h 102 (oC 9 fs))
  (k1 : y0 = (0 : Int32) → R (some (.int (0 : Int32))) h)
  (k2 : ¬ y0 = (0 : Int32) → Ev G (d + 4) 0 0 M_Mo_test 0 [.ref 102] [] h (fun r h1 => Ev G (d + 5) k n M_Mo_fact 55 [.ref 102, ev_unk] (r.toList ++ []) h1 R))
  : Ev G (d + 5) k n M_Mo_fact 48 [.ref 102, ev_unk] [.int y0] h R :=
  Ev.br (i := .ifCond .eq (30)) (P := y0 = (0 : Int32)) (t := 78) (f := 51) (r := []) (by decide +kernel) rfl (fun c1 =>
    Ev.go (pc' := 79) (ls' := [.ref 102, ev_unk]) (st' := [.int (0 : Int32)]) [.iconst 0] (by decide +kernel) rfl <|
    Ev.ret (r := (some (.int (0 : Int32)))) (Or.inl ⟨_, rfl, by decide +kernel, _, rfl, rfl⟩) (k1 c1)
  ) (fun c1 =>
    Ev.go (pc' := 52) (ls' := [.ref 102, ev_unk]) (st' := [.ref 102]) [.aload_n 0] (by decide +kernel) rfl <|
    Ev.cV0 (M' := M_Mo_test) (as := []) (rest := []) l_Mo_207 M_Mo_test_ok M_Mo_test_in M_Mo_test_se (by decide +kernel) (r1 c1) rfl rfl rfl (Nat.le_of_ble_eq_true rfl) (Nat.le_of_ble_eq_true rfl) (k2 c1)
  )
theorem b_Mo_fact_55 {G : ev_G} {d k n : Nat} {h : ev_H} {R : Option Value → ev_H → Prop} {y0 : Int32}
  (r1 : ¬ y0 = (0 : Int32) → ∃ fs, hat h 102 (oC 9 fs))
  (k1 : y0 = (0 : Int32) → R (some (.int (0 : Int32))) h)
  (k2 : ¬ y0 = (0 : Int32) → Ev G (d + 4) 0 0 M_Mo_takesSign 0 [.ref 102, .int (93 : Int32)] [] h (fun r h1 => Ev G (d + 5) k n M_Mo_fact 64 [.ref 102, ev_unk] (r.toList ++ []) h1 R))
  : Ev G (d + 5) k n M_Mo_fact 55 [.ref 102, ev_unk] [.int y0] h R :=
  Ev.br (i := .ifCond .eq (23)) (P := y0 = (0 : Int32)) (t := 78) (f := 58) (r := []) (by decide +kernel) rfl (fun c1 =>
    Ev.go (pc' := 79) (ls' := [.ref 102, ev_unk]) (st' := [.int (0 : Int32)]) [.iconst 0] (by decide +kernel) rfl <|
    Ev.ret (r := (some (.int (0 : Int32)))) (Or.inl ⟨_, rfl, by decide +kernel, _, rfl, rfl⟩) (k1 c1)
  ) (fun c1 =>
    Ev.go (pc' := 61) (ls' := [.ref 102, ev_unk]) (st' := [.int (93 : Int32), .ref 102]) [.aload_n 0, .bipush (93)] (by decide +kernel) rfl <|
    Ev.cV0 (M' := M_Mo_takesSign) (as := [.int (93 : Int32)]) (rest := []) l_Mo_210 M_Mo_takesSign_ok M_Mo_takesSign_in M_Mo_takesSign_se (by decide +kernel) (r1 c1) rfl rfl rfl (Nat.le_of_ble_eq_true rfl) (Nat.le_of_ble_eq_true rfl) (k2 c1)
  )
theorem b_Mo_fact_64 {G : ev_G} {d k n : Nat} {h : ev_H} {R : Option Value → ev_H → Prop} {y0 : Int32} {v_1 : MG} {L2 : Nat} {T3 : Tk} {dp4 : Int32} {y_5 : Int64}
  (pr1 : ¬ y0 = (0 : Int32) → hat h 102 (moC v_1 (pzM L2 T3 dp4 y_5)))
  (r2 : ¬ y0 = (0 : Int32) → ∃ fs, hat h 102 (oC 9 fs))
  (k1 : y0 = (0 : Int32) → R (some (.int (0 : Int32))) h)
  (k2 : ¬ y0 = (0 : Int32) → (1 : Int32) = (0 : Int32) → R (some (.int (0 : Int32))) (hset h 102 (moC v_1 (pzM L2 T3 (dp4 - 1) y_5))))
  (k3 : ¬ y0 = (0 : Int32) → ¬ (1 : Int32) = (0 : Int32) → R (some (.int (1 : Int32))) (hset h 102 (moC v_1 (pzM L2 T3 (dp4 - 1) y_5))))
  : Ev G (d + 5) k n M_Mo_fact 64 [.ref 102, ev_unk] [.int y0] h R :=
  Ev.br (i := .ifCond .eq (14)) (P := y0 = (0 : Int32)) (t := 78) (f := 67) (r := []) (by decide +kernel) rfl (fun c1 =>
    Ev.go (pc' := 79) (ls' := [.ref 102, ev_unk]) (st' := [.int (0 : Int32)]) [.iconst 0] (by decide +kernel) rfl <|
    Ev.ret (r := (some (.int (0 : Int32)))) (Or.inl ⟨_, rfl, by decide +kernel, _, rfl, rfl⟩) (k1 c1)
  ) (fun c1 =>
    Ev.go (pc' := 68) (ls' := [.ref 102, ev_unk]) (st' := [.ref 102]) [.aload_n 0] (by decide +kernel) rfl <|
    Ev.cV0 (M' := M_Mo_rises) (as := []) (rest := []) l_Mo_182 M_Mo_rises_ok M_Mo_rises_in M_Mo_rises_se (by decide +kernel) (r2 c1) rfl rfl rfl (Nat.le_of_ble_eq_true rfl) (Nat.le_of_ble_eq_true rfl) (s_Mo_rises (pr1 c1) <| show Ev G (d + 5) _ _ M_Mo_fact 71 [.ref 102, ev_unk] [.int (1 : Int32)] (hset h 102 (moC v_1 (pzM L2 T3 (dp4 - 1) y_5))) R from
      Ev.br (i := .ifCond .eq (7)) (P := (1 : Int32) = (0 : Int32)) (t := 78) (f := 74) (r := []) (by decide +kernel) rfl (fun c2 =>
        Ev.go (pc' := 79) (ls' := [.ref 102, ev_unk]) (st' := [.int (0 : Int32)]) [.iconst 0] (by decide +kernel) rfl <|
        Ev.ret (r := (some (.int (0 : Int32)))) (Or.inl ⟨_, rfl, by decide +kernel, _, rfl, rfl⟩) (k2 c1 c2)
      ) (fun c2 =>
        Ev.go (pc' := 79) (ls' := [.ref 102, ev_unk]) (st' := [.int (1 : Int32)]) [.iconst 1, .goto (4)] (by decide +kernel) rfl <|
        Ev.ret (r := (some (.int (1 : Int32)))) (Or.inl ⟨_, rfl, by decide +kernel, _, rfl, rfl⟩) (k3 c1 c2)
      )
    )
  )
theorem b_Mo_fact_84 {G : ev_G} {d k n : Nat} {h : ev_H} {R : Option Value → ev_H → Prop} {y0 : Int32} {v_1 : MG} {L2 : Nat} {T3 : Tk} {dp4 : Int32} {y_5 : Int64} {B6 : Nat → Nat} {c_7 : Nat} {v_8 : MG} {L9 : Nat} {T10 : Tk} {dp11 : Int32} {y_12 : Int64} {B13 : Nat → Nat} {c_14 : Nat} {v_15 : MG} {L16 : Nat} {T17 : Tk} {dp18 : Int32} {y_19 : Int64} {B20 : Nat → Nat} {c_21 : Nat}
  (pr1 : ¬ y0 = (0 : Int32) → hat h 102 (moC v_1 (pzM L2 T3 dp4 y_5)))
  (pr2 : ¬ y0 = (0 : Int32) → TxM h B6 L2)
  (pr3 : ¬ y0 = (0 : Int32) → TkOk B6 L2 T3)
  (pr4 : ¬ y0 = (0 : Int32) → (60 : Int32) = nI c_7 ∧ sgnB c_7 = true)
  (r5 : ¬ y0 = (0 : Int32) → ∃ fs, hat h 102 (oC 9 fs))
  (pr6 : ¬ y0 = (0 : Int32) → (b2i (decide (T3.1 = c_7))) = (0 : Int32) → hat h 102 (moC v_8 (pzM L9 T10 dp11 y_12)))
  (pr7 : ¬ y0 = (0 : Int32) → (b2i (decide (T3.1 = c_7))) = (0 : Int32) → TxM h B13 L9)
  (pr8 : ¬ y0 = (0 : Int32) → (b2i (decide (T3.1 = c_7))) = (0 : Int32) → TkOk B13 L9 T10)
  (pr9 : ¬ y0 = (0 : Int32) → (b2i (decide (T3.1 = c_7))) = (0 : Int32) → (61 : Int32) = nI c_14 ∧ sgnB c_14 = true)
  (r10 : ¬ y0 = (0 : Int32) → (b2i (decide (T3.1 = c_7))) = (0 : Int32) → ∃ fs, hat h 102 (oC 9 fs))
  (pr11 : ¬ y0 = (0 : Int32) → (b2i (decide (T3.1 = c_7))) = (0 : Int32) → (b2i (decide (T10.1 = c_14))) = (0 : Int32) → hat h 102 (moC v_15 (pzM L16 T17 dp18 y_19)))
  (pr12 : ¬ y0 = (0 : Int32) → (b2i (decide (T3.1 = c_7))) = (0 : Int32) → (b2i (decide (T10.1 = c_14))) = (0 : Int32) → TxM h B20 L16)
  (pr13 : ¬ y0 = (0 : Int32) → (b2i (decide (T3.1 = c_7))) = (0 : Int32) → (b2i (decide (T10.1 = c_14))) = (0 : Int32) → TkOk B20 L16 T17)
  (pr14 : ¬ y0 = (0 : Int32) → (b2i (decide (T3.1 = c_7))) = (0 : Int32) → (b2i (decide (T10.1 = c_14))) = (0 : Int32) → (62 : Int32) = nI c_21 ∧ sgnB c_21 = true)
  (r15 : ¬ y0 = (0 : Int32) → (b2i (decide (T3.1 = c_7))) = (0 : Int32) → (b2i (decide (T10.1 = c_14))) = (0 : Int32) → ∃ fs, hat h 102 (oC 9 fs))
  (k1 : y0 = (0 : Int32) → R (some (.int (0 : Int32))) h)
  (k2 : ¬ y0 = (0 : Int32) → (b2i (decide (T3.1 = c_7))) = (0 : Int32) → (b2i (decide (T10.1 = c_14))) = (0 : Int32) → (b2i (decide (T17.1 = c_21))) = (0 : Int32) → Ev G (d + 5) k n M_Mo_fact 132 [.ref 102, ev_unk] [.int (-1 : Int32)] h R)
  (k3 : ¬ y0 = (0 : Int32) → (b2i (decide (T3.1 = c_7))) = (0 : Int32) → (b2i (decide (T10.1 = c_14))) = (0 : Int32) → ¬ (b2i (decide (T17.1 = c_21))) = (0 : Int32) → Ev G (d + 5) k n M_Mo_fact 132 [.ref 102, ev_unk] [.int (9 : Int32)] h R)
  (k4 : ¬ y0 = (0 : Int32) → (b2i (decide (T3.1 = c_7))) = (0 : Int32) → ¬ (b2i (decide (T10.1 = c_14))) = (0 : Int32) → Ev G (d + 5) k n M_Mo_fact 132 [.ref 102, ev_unk] [.int (8 : Int32)] h R)
  (k5 : ¬ y0 = (0 : Int32) → ¬ (b2i (decide (T3.1 = c_7))) = (0 : Int32) → Ev G (d + 5) k n M_Mo_fact 132 [.ref 102, ev_unk] [.int (7 : Int32)] h R)
  : Ev G (d + 5) k n M_Mo_fact 84 [.ref 102, ev_unk] [.int y0] h R :=
  Ev.br (i := .ifCond .ne (5)) (P := y0 = (0 : Int32)) (t := 87) (f := 89) (r := []) (by decide +kernel) rfl (fun c1 =>
    Ev.go (pc' := 88) (ls' := [.ref 102, ev_unk]) (st' := [.int (0 : Int32)]) [.iconst 0] (by decide +kernel) rfl <|
    Ev.ret (r := (some (.int (0 : Int32)))) (Or.inl ⟨_, rfl, by decide +kernel, _, rfl, rfl⟩) (k1 c1)
  ) (fun c1 =>
    Ev.go (pc' := 92) (ls' := [.ref 102, ev_unk]) (st' := [.int (60 : Int32), .ref 102]) [.aload_n 0, .bipush (60)] (by decide +kernel) rfl <|
    Ev.cV0 (M' := M_Mo_isSign) (as := [.int (60 : Int32)]) (rest := []) l_Mo_154 M_Mo_isSign_ok M_Mo_isSign_in M_Mo_isSign_se (by decide +kernel) (r5 c1) rfl rfl rfl (Nat.le_of_ble_eq_true rfl) (Nat.le_of_ble_eq_true rfl) (s_Mo_isSign (pr1 c1) (pr2 c1) (pr3 c1) (pr4 c1) <| show Ev G (d + 5) _ _ M_Mo_fact 95 [.ref 102, ev_unk] [.int (b2i (decide (T3.1 = c_7)))] h R from
      Ev.br (i := .ifCond .eq (8)) (P := (b2i (decide (T3.1 = c_7))) = (0 : Int32)) (t := 103) (f := 98) (r := []) (by decide +kernel) rfl (fun c2 =>
        Ev.go (pc' := 106) (ls' := [.ref 102, ev_unk]) (st' := [.int (61 : Int32), .ref 102]) [.aload_n 0, .bipush (61)] (by decide +kernel) rfl <|
        Ev.cV0 (M' := M_Mo_isSign) (as := [.int (61 : Int32)]) (rest := []) l_Mo_154 M_Mo_isSign_ok M_Mo_isSign_in M_Mo_isSign_se (by decide +kernel) (r10 c1 c2) rfl rfl rfl (Nat.le_of_ble_eq_true rfl) (Nat.le_of_ble_eq_true rfl) (s_Mo_isSign (pr6 c1 c2) (pr7 c1 c2) (pr8 c1 c2) (pr9 c1 c2) <| show Ev G (d + 5) _ _ M_Mo_fact 109 [.ref 102, ev_unk] [.int (b2i (decide (T10.1 = c_14)))] h R from
          Ev.br (i := .ifCond .eq (8)) (P := (b2i (decide (T10.1 = c_14))) = (0 : Int32)) (t := 117) (f := 112) (r := []) (by decide +kernel) rfl (fun c3 =>
            Ev.go (pc' := 120) (ls' := [.ref 102, ev_unk]) (st' := [.int (62 : Int32), .ref 102]) [.aload_n 0, .bipush (62)] (by decide +kernel) rfl <|
            Ev.cV0 (M' := M_Mo_isSign) (as := [.int (62 : Int32)]) (rest := []) l_Mo_154 M_Mo_isSign_ok M_Mo_isSign_in M_Mo_isSign_se (by decide +kernel) (r15 c1 c2 c3) rfl rfl rfl (Nat.le_of_ble_eq_true rfl) (Nat.le_of_ble_eq_true rfl) (s_Mo_isSign (pr11 c1 c2 c3) (pr12 c1 c2 c3) (pr13 c1 c2 c3) (pr14 c1 c2 c3) <| show Ev G (d + 5) _ _ M_Mo_fact 123 [.ref 102, ev_unk] [.int (b2i (decide (T17.1 = c_21)))] h R from
              Ev.br (i := .ifCond .eq (8)) (P := (b2i (decide (T17.1 = c_21))) = (0 : Int32)) (t := 131) (f := 126) (r := []) (by decide +kernel) rfl (fun c4 =>
                Ev.go (pc' := 132) (ls' := [.ref 102, ev_unk]) (st' := [.int (-1 : Int32)]) [.iconst (-1)] (by decide +kernel) rfl <|
                (k2 c1 c2 c3 c4)
              ) (fun c4 =>
                Ev.go (pc' := 132) (ls' := [.ref 102, ev_unk]) (st' := [.int (9 : Int32)]) [.bipush (9), .goto (4)] (by decide +kernel) rfl <|
                (k3 c1 c2 c3 c4)
              )
            )
          ) (fun c3 =>
            Ev.go (pc' := 132) (ls' := [.ref 102, ev_unk]) (st' := [.int (8 : Int32)]) [.bipush (8), .goto (18)] (by decide +kernel) rfl <|
            (k4 c1 c2 c3)
          )
        )
      ) (fun c2 =>
        Ev.go (pc' := 132) (ls' := [.ref 102, ev_unk]) (st' := [.int (7 : Int32)]) [.bipush (7), .goto (32)] (by decide +kernel) rfl <|
        (k5 c1 c2)
      )
    )
  )
theorem b_Mo_fact_132 {G : ev_G} {d k n : Nat} {h : ev_H} {R : Option Value → ev_H → Prop} {y0 : Int32} {v_1 : MG} {L2 : Nat} {T3 : Tk} {dp4 : Int32} {y_5 : Int64} {k_6 : Nat} {v_7 : MG} {L8 : Nat} {T9 : Tk} {dp10 : Int32} {y_11 : Int64} {B12 : Nat → Nat}
  (pr1 : y0 = (-1 : Int32) → hat h 102 (moC v_1 (pzM L2 T3 dp4 y_5)))
  (pr2 : y0 = (-1 : Int32) → (2 : Int32) = nI k_6)
  (r3 : y0 = (-1 : Int32) → ∃ fs, hat h 102 (oC 9 fs))
  (pr4 : ¬ y0 = (-1 : Int32) → hat h 102 (moC v_7 (pzM L8 T9 dp10 y_11)))
  (pr5 : ¬ y0 = (-1 : Int32) → TxM h B12 L8)
  (pr6 : ¬ y0 = (-1 : Int32) → T9.2.2 ≤ L8)
  (r7 : ¬ y0 = (-1 : Int32) → ∃ fs, hat h 102 (oC 9 fs))
  (r8 : ¬ y0 = (-1 : Int32) → ∃ fs, hat (hset h 102 (moC v_7 (pzM L8 (nx B12 L8 T9) dp10 y_11))) 102 (oC 9 fs))
  (k1 : y0 = (-1 : Int32) → R (some (.int (0 : Int32))) (hset h 102 (bdC v_1 L2 T3 k_6 dp4 y_5)))
  (k2 : ¬ y0 = (-1 : Int32) → Ev G (d + 4) 0 0 M_Mo_isNumberHere 0 [.ref 102, .int (0 : Int32), .int (99999999 : Int32), ev_unk] [] (hset h 102 (moC v_7 (pzM L8 (nx B12 L8 T9) dp10 y_11))) (fun r h1 => Ev G (d + 5) k n M_Mo_fact 155 [.ref 102, .int y0] (r.toList ++ []) h1 R))
  : Ev G (d + 5) k n M_Mo_fact 132 [.ref 102, ev_unk] [.int y0] h R :=
  Ev.go (pc' := 135) (ls' := [.ref 102, .int y0]) (st' := [.int (-1 : Int32), .int y0]) [.istore_n 1, .iload_n 1, .iconst (-1)] (by decide +kernel) rfl <|
  Ev.br (i := .if_icmp .ne (9)) (P := y0 = (-1 : Int32)) (t := 138) (f := 144) (r := []) (by decide +kernel) rfl (fun c1 =>
    Ev.go (pc' := 140) (ls' := [.ref 102, .int y0]) (st' := [.int (2 : Int32), .ref 102]) [.aload_n 0, .iconst 2] (by decide +kernel) rfl <|
    Ev.cV0 (M' := M_Mo_fails) (as := [.int (2 : Int32)]) (rest := []) l_Mo_161 M_Mo_fails_ok M_Mo_fails_in M_Mo_fails_se (by decide +kernel) (r3 c1) rfl rfl rfl (Nat.le_of_ble_eq_true rfl) (Nat.le_of_ble_eq_true rfl) (s_Mo_fails (pr1 c1) (pr2 c1) <| show Ev G (d + 5) _ _ M_Mo_fact 143 [.ref 102, .int y0] [.int (0 : Int32)] (hset h 102 (bdC v_1 L2 T3 k_6 dp4 y_5)) R from
      Ev.ret (r := (some (.int (0 : Int32)))) (Or.inl ⟨_, rfl, by decide +kernel, _, rfl, rfl⟩) (k1 c1)
    )
  ) (fun c1 =>
    Ev.go (pc' := 145) (ls' := [.ref 102, .int y0]) (st' := [.ref 102]) [.aload_n 0] (by decide +kernel) rfl <|
    Ev.cV0 (M' := M_Mo_ahead) (as := []) (rest := []) l_Mo_151 M_Mo_ahead_ok M_Mo_ahead_in M_Mo_ahead_se (by decide +kernel) (r7 c1) rfl rfl rfl (Nat.le_of_ble_eq_true rfl) (Nat.le_of_ble_eq_true rfl) (s_ahT (pr4 c1) (pr5 c1) (pr6 c1) <| show Ev G (d + 5) _ _ M_Mo_fact 148 [.ref 102, .int y0] [] (hset h 102 (moC v_7 (pzM L8 (nx B12 L8 T9) dp10 y_11))) R from
      Ev.go (pc' := 150) (ls' := [.ref 102, .int y0]) (st' := [.int (0 : Int32), .ref 102]) [.aload_n 0, .iconst 0] (by decide +kernel) rfl <|
      Ev.ldc k_Mo_216 (by decide +kernel) <|
      Ev.cV0 (M' := M_Mo_isNumberHere) (as := [.int (0 : Int32), .int (99999999 : Int32)]) (rest := []) l_Mo_197 M_Mo_isNumberHere_ok M_Mo_isNumberHere_in M_Mo_isNumberHere_se (by decide +kernel) (r8 c1) rfl rfl rfl (Nat.le_of_ble_eq_true rfl) (Nat.le_of_ble_eq_true rfl) (k2 c1)
    )
  )
theorem b_Mo_fact_155 {G : ev_G} {d k n : Nat} {h : ev_H} {R : Option Value → ev_H → Prop} {x1 : Int32} {y0 : Int32} {f_status_1 : Int32} {f_acts_2 : Int32} {f_marks_3 : Int32} {f_taped_4 : Int32} {f_size_5 : Int32} {f_token_6 : Int32} {f_begin_7 : Int32} {f_end_8 : Int32} {f_faults_9 : Int32} {f_faultPlace_10 : Int32} {f_faultKind_11 : Int32} {f_deep_12 : Int32} {f_value_13 : Int64} {f_broadMany_14 : Int32} {v_15 : MG} {z_16 : MP} {g_17 : Nat → Int64} {t_18 : Nat} {v_19 : MG} {z_20 : MP} {g_21 : Nat → Int64} {t_22 : Nat} {v_23 : MG} {L24 : Nat} {T25 : Tk} {dp26 : Int32} {y_27 : Int64} {B28 : Nat → Nat}
  (a1 : hat h 102 (oC 9 [.ref 103, .int f_status_1, .int f_acts_2, .int f_marks_3, .ref 104, .ref 105, .ref 106, .int f_taped_4, .int f_size_5, .int f_token_6, .int f_begin_7, .int f_end_8, .int f_faults_9, .int f_faultPlace_10, .int f_faultKind_11, .int f_deep_12, .long f_value_13, .ref 107, .ref 108, .ref 109, .ref 116, .int f_broadMany_14, .ref 124, .ref 125]))
  (pr2 : ¬ y0 = (0 : Int32) → hat h 102 (moC v_15 z_16))
  (pr3 : ¬ y0 = (0 : Int32) → hat h 103 (aL 9758 g_17))
  (pr4 : ¬ y0 = (0 : Int32) → g_17 3 = lN t_18 ∧ t_18 < 500)
  (pr5 : ¬ y0 = (0 : Int32) → hat (hset h 103 (aL 9758 (emF g_17 t_18 (6 : Int32) f_value_13))) 102 (moC v_19 z_20))
  (pr6 : ¬ y0 = (0 : Int32) → hat (hset h 103 (aL 9758 (emF g_17 t_18 (6 : Int32) f_value_13))) 103 (aL 9758 g_21))
  (pr7 : ¬ y0 = (0 : Int32) → g_21 3 = lN t_22 ∧ t_22 < 500)
  (r8 : ¬ y0 = (0 : Int32) → ∃ fs, hat (hset h 103 (aL 9758 (emF g_17 t_18 (6 : Int32) f_value_13))) 102 (oC 9 fs))
  (pr9 : ¬ y0 = (0 : Int32) → hat (hset (hset h 103 (aL 9758 (emF g_17 t_18 (6 : Int32) f_value_13))) 103 (aL 9758 (emF g_21 t_22 x1 (0 : Int64)))) 102 (moC v_23 (pzM L24 T25 dp26 y_27)))
  (pr10 : ¬ y0 = (0 : Int32) → TxM (hset (hset h 103 (aL 9758 (emF g_17 t_18 (6 : Int32) f_value_13))) 103 (aL 9758 (emF g_21 t_22 x1 (0 : Int64)))) B28 L24)
  (pr11 : ¬ y0 = (0 : Int32) → T25.2.2 ≤ L24)
  (r12 : ¬ y0 = (0 : Int32) → ∃ fs, hat (hset (hset h 103 (aL 9758 (emF g_17 t_18 (6 : Int32) f_value_13))) 103 (aL 9758 (emF g_21 t_22 x1 (0 : Int64)))) 102 (oC 9 fs))
  (k1 : y0 = (0 : Int32) → R (some (.int (0 : Int32))) h)
  (k2 : ¬ y0 = (0 : Int32) → R (some (.int (1 : Int32))) (hset (hset (hset h 103 (aL 9758 (emF g_17 t_18 (6 : Int32) f_value_13))) 103 (aL 9758 (emF g_21 t_22 x1 (0 : Int64)))) 102 (moC v_23 (pzM L24 (nx B28 L24 T25) dp26 y_27))))
  : Ev G (d + 5) k n M_Mo_fact 155 [.ref 102, .int x1] [.int y0] h R :=
  Ev.br (i := .ifCond .ne (5)) (P := y0 = (0 : Int32)) (t := 158) (f := 160) (r := []) (by decide +kernel) rfl (fun c1 =>
    Ev.go (pc' := 159) (ls' := [.ref 102, .int x1]) (st' := [.int (0 : Int32)]) [.iconst 0] (by decide +kernel) rfl <|
    Ev.ret (r := (some (.int (0 : Int32)))) (Or.inl ⟨_, rfl, by decide +kernel, _, rfl, rfl⟩) (k1 c1)
  ) (fun c1 =>
    Ev.go (pc' := 164) (ls' := [.ref 102, .int x1]) (st' := [.ref 102, .int (6 : Int32), .ref 102]) [.aload_n 0, .bipush (6), .aload_n 0] (by decide +kernel) rfl <|
    Ev.getf f_Mo_164 (by decide +kernel) a1 rfl <|
    Ev.cV0 (M' := M_Mo_emits) (as := [.int (6 : Int32), .long f_value_13]) (rest := []) l_Mo_179 M_Mo_emits_ok M_Mo_emits_in M_Mo_emits_se (by decide +kernel) ⟨_, a1⟩ rfl rfl rfl (Nat.le_of_ble_eq_true rfl) (Nat.le_of_ble_eq_true rfl) (s_Mo_emits (pr2 c1) (pr3 c1) (pr4 c1) <| show Ev G (d + 5) _ _ M_Mo_fact 170 [.ref 102, .int x1] [] (hset h 103 (aL 9758 (emF g_17 t_18 (6 : Int32) f_value_13))) R from
      Ev.go (pc' := 173) (ls' := [.ref 102, .int x1]) (st' := [.long (0 : Int64), .int x1, .ref 102]) [.aload_n 0, .iload_n 1, .lconst 0] (by decide +kernel) rfl <|
      Ev.cV0 (M' := M_Mo_emits) (as := [.int x1, .long (0 : Int64)]) (rest := []) l_Mo_179 M_Mo_emits_ok M_Mo_emits_in M_Mo_emits_se (by decide +kernel) (r8 c1) rfl rfl rfl (Nat.le_of_ble_eq_true rfl) (Nat.le_of_ble_eq_true rfl) (s_Mo_emits (pr5 c1) (pr6 c1) (pr7 c1) <| show Ev G (d + 5) _ _ M_Mo_fact 176 [.ref 102, .int x1] [] (hset (hset h 103 (aL 9758 (emF g_17 t_18 (6 : Int32) f_value_13))) 103 (aL 9758 (emF g_21 t_22 x1 (0 : Int64)))) R from
        Ev.go (pc' := 177) (ls' := [.ref 102, .int x1]) (st' := [.ref 102]) [.aload_n 0] (by decide +kernel) rfl <|
        Ev.cV0 (M' := M_Mo_takes) (as := []) (rest := []) l_Mo_157 M_Mo_takes_ok M_Mo_takes_in M_Mo_takes_se (by decide +kernel) (r12 c1) rfl rfl rfl (Nat.le_of_ble_eq_true rfl) (Nat.le_of_ble_eq_true rfl) (s_Mo_takes (pr9 c1) (pr10 c1) (pr11 c1) <| show Ev G (d + 5) _ _ M_Mo_fact 180 [.ref 102, .int x1] [.int (1 : Int32)] (hset (hset (hset h 103 (aL 9758 (emF g_17 t_18 (6 : Int32) f_value_13))) 103 (aL 9758 (emF g_21 t_22 x1 (0 : Int64)))) 102 (moC v_23 (pzM L24 (nx B28 L24 T25) dp26 y_27))) R from
          Ev.ret (r := (some (.int (1 : Int32)))) (Or.inl ⟨_, rfl, by decide +kernel, _, rfl, rfl⟩) (k2 c1)
        )
      )
    )
  )
theorem b_Mo_side_0 {G : ev_G} {d k n : Nat} {h : ev_H} {R : Option Value → ev_H → Prop} 
  (r1 : ∃ fs, hat h 102 (oC 9 fs))
  (k1 : Ev G (d + 4) 0 0 M_Mo_fact 0 [.ref 102, ev_unk] [] h (fun r h1 => Ev G (d + 5) k n M_Mo_side 4 [.ref 102] (r.toList ++ []) h1 R))
  : Ev G (d + 5) k n M_Mo_side 0 [.ref 102] [] h R :=
  Ev.go (pc' := 1) (ls' := [.ref 102]) (st' := [.ref 102]) [.aload_n 0] (by decide +kernel) rfl <|
  Ev.cV0 (M' := M_Mo_fact) (as := []) (rest := []) l_Mo_191 M_Mo_fact_ok M_Mo_fact_in M_Mo_fact_se (by decide +kernel) r1 rfl rfl rfl (Nat.le_of_ble_eq_true rfl) (Nat.le_of_ble_eq_true rfl) k1
theorem b_Mo_side_4 {G : ev_G} {d k n : Nat} {h : ev_H} {R : Option Value → ev_H → Prop} {y0 : Int32}
  (k1 : y0 = (0 : Int32) → R (some (.int (0 : Int32))) h)
  (k2 : ¬ y0 = (0 : Int32) → Ev G (d + 5) k n M_Mo_side 9 [.ref 102] [] h R)
  : Ev G (d + 5) k n M_Mo_side 4 [.ref 102] [.int y0] h R :=
  Ev.br (i := .ifCond .ne (5)) (P := y0 = (0 : Int32)) (t := 7) (f := 9) (r := []) (by decide +kernel) rfl (fun c1 =>
    Ev.go (pc' := 8) (ls' := [.ref 102]) (st' := [.int (0 : Int32)]) [.iconst 0] (by decide +kernel) rfl <|
    Ev.ret (r := (some (.int (0 : Int32)))) (Or.inl ⟨_, rfl, by decide +kernel, _, rfl, rfl⟩) (k1 c1)
  ) (fun c1 =>
    (k2 c1)
  )
theorem b_Mo_side_9 {G : ev_G} {d k n : Nat} {h : ev_H} {R : Option Value → ev_H → Prop} {v_1 : MG} {L2 : Nat} {T3 : Tk} {dp4 : Int32} {y_5 : Int64} {B6 : Nat → Nat} {v_7 : MG} {L8 : Nat} {T9 : Tk} {dp10 : Int32} {y_11 : Int64} {B12 : Nat → Nat}
  (pr1 : hat h 102 (moC v_1 (pzM L2 T3 dp4 y_5)))
  (pr2 : TxM h B6 L2)
  (pr3 : TkOk B6 L2 T3)
  (r4 : ∃ fs, hat h 102 (oC 9 fs))
  (pr5 : (keM B6 T3) = (6 : Int32) → hat h 102 (moC v_7 (pzM L8 T9 dp10 y_11)))
  (pr6 : (keM B6 T3) = (6 : Int32) → TxM h B12 L8)
  (pr7 : (keM B6 T3) = (6 : Int32) → T9.2.2 ≤ L8)
  (r8 : (keM B6 T3) = (6 : Int32) → ∃ fs, hat h 102 (oC 9 fs))
  (r9 : (keM B6 T3) = (6 : Int32) → ∃ fs, hat (hset h 102 (moC v_7 (pzM L8 (nx B12 L8 T9) dp10 y_11))) 102 (oC 9 fs))
  (k1 : (keM B6 T3) = (6 : Int32) → Ev G (d + 4) 0 0 M_Mo_fact 0 [.ref 102, ev_unk] [] (hset h 102 (moC v_7 (pzM L8 (nx B12 L8 T9) dp10 y_11))) (fun r h1 => Ev G (d + 5) k n M_Mo_side 26 [.ref 102] (r.toList ++ []) h1 R))
  (k2 : ¬ (keM B6 T3) = (6 : Int32) → R (some (.int (1 : Int32))) h)
  : Ev G (d + 5) k n M_Mo_side 9 [.ref 102] [] h R :=
  Ev.go (pc' := 10) (ls' := [.ref 102]) (st' := [.ref 102]) [.aload_n 0] (by decide +kernel) rfl <|
  Ev.cV0 (M' := M_Mo_key_0) (as := []) (rest := []) l_Mo_188 M_Mo_key_0_ok M_Mo_key_0_in M_Mo_key_0_se (by decide +kernel) r4 rfl rfl rfl (Nat.le_of_ble_eq_true rfl) (Nat.le_of_ble_eq_true rfl) (s_Mo_key_0 pr1 pr2 pr3 <| show Ev G (d + 5) _ _ M_Mo_side 13 [.ref 102] [.int (keM B6 T3)] h R from
    Ev.go (pc' := 15) (ls' := [.ref 102]) (st' := [.int (6 : Int32), .int (keM B6 T3)]) [.bipush (6)] (by decide +kernel) rfl <|
    Ev.br (i := .if_icmp .ne (26)) (P := (keM B6 T3) = (6 : Int32)) (t := 18) (f := 41) (r := []) (by decide +kernel) rfl (fun c1 =>
      Ev.go (pc' := 19) (ls' := [.ref 102]) (st' := [.ref 102]) [.aload_n 0] (by decide +kernel) rfl <|
      Ev.cV0 (M' := M_Mo_ahead) (as := []) (rest := []) l_Mo_151 M_Mo_ahead_ok M_Mo_ahead_in M_Mo_ahead_se (by decide +kernel) (r8 c1) rfl rfl rfl (Nat.le_of_ble_eq_true rfl) (Nat.le_of_ble_eq_true rfl) (s_ahT (pr5 c1) (pr6 c1) (pr7 c1) <| show Ev G (d + 5) _ _ M_Mo_side 22 [.ref 102] [] (hset h 102 (moC v_7 (pzM L8 (nx B12 L8 T9) dp10 y_11))) R from
        Ev.go (pc' := 23) (ls' := [.ref 102]) (st' := [.ref 102]) [.aload_n 0] (by decide +kernel) rfl <|
        Ev.cV0 (M' := M_Mo_fact) (as := []) (rest := []) l_Mo_191 M_Mo_fact_ok M_Mo_fact_in M_Mo_fact_se (by decide +kernel) (r9 c1) rfl rfl rfl (Nat.le_of_ble_eq_true rfl) (Nat.le_of_ble_eq_true rfl) (k1 c1)
      )
    ) (fun c1 =>
      Ev.go (pc' := 42) (ls' := [.ref 102]) (st' := [.int (1 : Int32)]) [.iconst 1] (by decide +kernel) rfl <|
      Ev.ret (r := (some (.int (1 : Int32)))) (Or.inl ⟨_, rfl, by decide +kernel, _, rfl, rfl⟩) (k2 c1)
    )
  )
theorem b_Mo_side_26 {G : ev_G} {d k n : Nat} {h : ev_H} {R : Option Value → ev_H → Prop} {y0 : Int32} {v_1 : MG} {z_2 : MP} {g_3 : Nat → Int64} {t_4 : Nat}
  (pr1 : ¬ y0 = (0 : Int32) → hat h 102 (moC v_1 z_2))
  (pr2 : ¬ y0 = (0 : Int32) → hat h 103 (aL 9758 g_3))
  (pr3 : ¬ y0 = (0 : Int32) → g_3 3 = lN t_4 ∧ t_4 < 500)
  (r4 : ¬ y0 = (0 : Int32) → ∃ fs, hat h 102 (oC 9 fs))
  (k1 : y0 = (0 : Int32) → R (some (.int (0 : Int32))) h)
  (k2 : ¬ y0 = (0 : Int32) → Ev G (d + 5) k n M_Mo_side 9 [.ref 102] [] (hset h 103 (aL 9758 (emF g_3 t_4 (11 : Int32) (0 : Int64)))) R)
  : Ev G (d + 5) k n M_Mo_side 26 [.ref 102] [.int y0] h R :=
  Ev.br (i := .ifCond .ne (5)) (P := y0 = (0 : Int32)) (t := 29) (f := 31) (r := []) (by decide +kernel) rfl (fun c1 =>
    Ev.go (pc' := 30) (ls' := [.ref 102]) (st' := [.int (0 : Int32)]) [.iconst 0] (by decide +kernel) rfl <|
    Ev.ret (r := (some (.int (0 : Int32)))) (Or.inl ⟨_, rfl, by decide +kernel, _, rfl, rfl⟩) (k1 c1)
  ) (fun c1 =>
    Ev.go (pc' := 35) (ls' := [.ref 102]) (st' := [.long (0 : Int64), .int (11 : Int32), .ref 102]) [.aload_n 0, .bipush (11), .lconst 0] (by decide +kernel) rfl <|
    Ev.cV0 (M' := M_Mo_emits) (as := [.int (11 : Int32), .long (0 : Int64)]) (rest := []) l_Mo_179 M_Mo_emits_ok M_Mo_emits_in M_Mo_emits_se (by decide +kernel) (r4 c1) rfl rfl rfl (Nat.le_of_ble_eq_true rfl) (Nat.le_of_ble_eq_true rfl) (s_Mo_emits (pr1 c1) (pr2 c1) (pr3 c1) <| show Ev G (d + 5) _ _ M_Mo_side 38 [.ref 102] [] (hset h 103 (aL 9758 (emF g_3 t_4 (11 : Int32) (0 : Int64)))) R from
      Ev.go (pc' := 9) (ls' := [.ref 102]) (st' := []) [.goto (-29)] (by decide +kernel) rfl <|
      (k2 c1)
    )
  )
theorem b_Mo_test_0 {G : ev_G} {d k n : Nat} {h : ev_H} {R : Option Value → ev_H → Prop} 
  (r1 : ∃ fs, hat h 102 (oC 9 fs))
  (k1 : Ev G (d + 4) 0 0 M_Mo_side 0 [.ref 102] [] h (fun r h1 => Ev G (d + 5) k n M_Mo_test 4 [.ref 102] (r.toList ++ []) h1 R))
  : Ev G (d + 5) k n M_Mo_test 0 [.ref 102] [] h R :=
  Ev.go (pc' := 1) (ls' := [.ref 102]) (st' := [.ref 102]) [.aload_n 0] (by decide +kernel) rfl <|
  Ev.cV0 (M' := M_Mo_side) (as := []) (rest := []) l_Mo_185 M_Mo_side_ok M_Mo_side_in M_Mo_side_se (by decide +kernel) r1 rfl rfl rfl (Nat.le_of_ble_eq_true rfl) (Nat.le_of_ble_eq_true rfl) k1
theorem b_Mo_test_4 {G : ev_G} {d k n : Nat} {h : ev_H} {R : Option Value → ev_H → Prop} {y0 : Int32}
  (k1 : y0 = (0 : Int32) → R (some (.int (0 : Int32))) h)
  (k2 : ¬ y0 = (0 : Int32) → Ev G (d + 5) k n M_Mo_test 9 [.ref 102] [] h R)
  : Ev G (d + 5) k n M_Mo_test 4 [.ref 102] [.int y0] h R :=
  Ev.br (i := .ifCond .ne (5)) (P := y0 = (0 : Int32)) (t := 7) (f := 9) (r := []) (by decide +kernel) rfl (fun c1 =>
    Ev.go (pc' := 8) (ls' := [.ref 102]) (st' := [.int (0 : Int32)]) [.iconst 0] (by decide +kernel) rfl <|
    Ev.ret (r := (some (.int (0 : Int32)))) (Or.inl ⟨_, rfl, by decide +kernel, _, rfl, rfl⟩) (k1 c1)
  ) (fun c1 =>
    (k2 c1)
  )
theorem b_Mo_test_9 {G : ev_G} {d k n : Nat} {h : ev_H} {R : Option Value → ev_H → Prop} {v_1 : MG} {L2 : Nat} {T3 : Tk} {dp4 : Int32} {y_5 : Int64} {B6 : Nat → Nat} {v_7 : MG} {L8 : Nat} {T9 : Tk} {dp10 : Int32} {y_11 : Int64} {B12 : Nat → Nat}
  (pr1 : hat h 102 (moC v_1 (pzM L2 T3 dp4 y_5)))
  (pr2 : TxM h B6 L2)
  (pr3 : TkOk B6 L2 T3)
  (r4 : ∃ fs, hat h 102 (oC 9 fs))
  (pr5 : (keM B6 T3) = (7 : Int32) → hat h 102 (moC v_7 (pzM L8 T9 dp10 y_11)))
  (pr6 : (keM B6 T3) = (7 : Int32) → TxM h B12 L8)
  (pr7 : (keM B6 T3) = (7 : Int32) → T9.2.2 ≤ L8)
  (r8 : (keM B6 T3) = (7 : Int32) → ∃ fs, hat h 102 (oC 9 fs))
  (r9 : (keM B6 T3) = (7 : Int32) → ∃ fs, hat (hset h 102 (moC v_7 (pzM L8 (nx B12 L8 T9) dp10 y_11))) 102 (oC 9 fs))
  (k1 : (keM B6 T3) = (7 : Int32) → Ev G (d + 4) 0 0 M_Mo_side 0 [.ref 102] [] (hset h 102 (moC v_7 (pzM L8 (nx B12 L8 T9) dp10 y_11))) (fun r h1 => Ev G (d + 5) k n M_Mo_test 26 [.ref 102] (r.toList ++ []) h1 R))
  (k2 : ¬ (keM B6 T3) = (7 : Int32) → R (some (.int (1 : Int32))) h)
  : Ev G (d + 5) k n M_Mo_test 9 [.ref 102] [] h R :=
  Ev.go (pc' := 10) (ls' := [.ref 102]) (st' := [.ref 102]) [.aload_n 0] (by decide +kernel) rfl <|
  Ev.cV0 (M' := M_Mo_key_0) (as := []) (rest := []) l_Mo_188 M_Mo_key_0_ok M_Mo_key_0_in M_Mo_key_0_se (by decide +kernel) r4 rfl rfl rfl (Nat.le_of_ble_eq_true rfl) (Nat.le_of_ble_eq_true rfl) (s_Mo_key_0 pr1 pr2 pr3 <| show Ev G (d + 5) _ _ M_Mo_test 13 [.ref 102] [.int (keM B6 T3)] h R from
    Ev.go (pc' := 15) (ls' := [.ref 102]) (st' := [.int (7 : Int32), .int (keM B6 T3)]) [.bipush (7)] (by decide +kernel) rfl <|
    Ev.br (i := .if_icmp .ne (26)) (P := (keM B6 T3) = (7 : Int32)) (t := 18) (f := 41) (r := []) (by decide +kernel) rfl (fun c1 =>
      Ev.go (pc' := 19) (ls' := [.ref 102]) (st' := [.ref 102]) [.aload_n 0] (by decide +kernel) rfl <|
      Ev.cV0 (M' := M_Mo_ahead) (as := []) (rest := []) l_Mo_151 M_Mo_ahead_ok M_Mo_ahead_in M_Mo_ahead_se (by decide +kernel) (r8 c1) rfl rfl rfl (Nat.le_of_ble_eq_true rfl) (Nat.le_of_ble_eq_true rfl) (s_ahT (pr5 c1) (pr6 c1) (pr7 c1) <| show Ev G (d + 5) _ _ M_Mo_test 22 [.ref 102] [] (hset h 102 (moC v_7 (pzM L8 (nx B12 L8 T9) dp10 y_11))) R from
        Ev.go (pc' := 23) (ls' := [.ref 102]) (st' := [.ref 102]) [.aload_n 0] (by decide +kernel) rfl <|
        Ev.cV0 (M' := M_Mo_side) (as := []) (rest := []) l_Mo_185 M_Mo_side_ok M_Mo_side_in M_Mo_side_se (by decide +kernel) (r9 c1) rfl rfl rfl (Nat.le_of_ble_eq_true rfl) (Nat.le_of_ble_eq_true rfl) (k1 c1)
      )
    ) (fun c1 =>
      Ev.go (pc' := 42) (ls' := [.ref 102]) (st' := [.int (1 : Int32)]) [.iconst 1] (by decide +kernel) rfl <|
      Ev.ret (r := (some (.int (1 : Int32)))) (Or.inl ⟨_, rfl, by decide +kernel, _, rfl, rfl⟩) (k2 c1)
    )
  )
theorem b_Mo_test_26 {G : ev_G} {d k n : Nat} {h : ev_H} {R : Option Value → ev_H → Prop} {y0 : Int32} {v_1 : MG} {z_2 : MP} {g_3 : Nat → Int64} {t_4 : Nat}
  (pr1 : ¬ y0 = (0 : Int32) → hat h 102 (moC v_1 z_2))
  (pr2 : ¬ y0 = (0 : Int32) → hat h 103 (aL 9758 g_3))
  (pr3 : ¬ y0 = (0 : Int32) → g_3 3 = lN t_4 ∧ t_4 < 500)
  (r4 : ¬ y0 = (0 : Int32) → ∃ fs, hat h 102 (oC 9 fs))
  (k1 : y0 = (0 : Int32) → R (some (.int (0 : Int32))) h)
  (k2 : ¬ y0 = (0 : Int32) → Ev G (d + 5) k n M_Mo_test 9 [.ref 102] [] (hset h 103 (aL 9758 (emF g_3 t_4 (12 : Int32) (0 : Int64)))) R)
  : Ev G (d + 5) k n M_Mo_test 26 [.ref 102] [.int y0] h R :=
  Ev.br (i := .ifCond .ne (5)) (P := y0 = (0 : Int32)) (t := 29) (f := 31) (r := []) (by decide +kernel) rfl (fun c1 =>
    Ev.go (pc' := 30) (ls' := [.ref 102]) (st' := [.int (0 : Int32)]) [.iconst 0] (by decide +kernel) rfl <|
    Ev.ret (r := (some (.int (0 : Int32)))) (Or.inl ⟨_, rfl, by decide +kernel, _, rfl, rfl⟩) (k1 c1)
  ) (fun c1 =>
    Ev.go (pc' := 35) (ls' := [.ref 102]) (st' := [.long (0 : Int64), .int (12 : Int32), .ref 102]) [.aload_n 0, .bipush (12), .lconst 0] (by decide +kernel) rfl <|
    Ev.cV0 (M' := M_Mo_emits) (as := [.int (12 : Int32), .long (0 : Int64)]) (rest := []) l_Mo_179 M_Mo_emits_ok M_Mo_emits_in M_Mo_emits_se (by decide +kernel) (r4 c1) rfl rfl rfl (Nat.le_of_ble_eq_true rfl) (Nat.le_of_ble_eq_true rfl) (s_Mo_emits (pr1 c1) (pr2 c1) (pr3 c1) <| show Ev G (d + 5) _ _ M_Mo_test 38 [.ref 102] [] (hset h 103 (aL 9758 (emF g_3 t_4 (12 : Int32) (0 : Int64)))) R from
      Ev.go (pc' := 9) (ls' := [.ref 102]) (st' := []) [.goto (-29)] (by decide +kernel) rfl <|
      (k2 c1)
    )
  )
/-- the cells hold the store under way; what lies past them is as it was -/
def GZ (g0 g : Nat → Int64) (S : AS) : Prop := SlR g 0 S ∧ (∀ i, sN S ≤ i → i < 32 → g (42 + i) = 0) ∧ ∀ k, 574 ≤ k → g k = g0 k
def GoM (h h' : ev_H) (v : MG) (L : Nat) (T : Tk) (dp : Int32) (S : AS) (g0 : Nat → Int64) : Prop := Kp h h' 102 104 ∧ (∃ y, hat h' 102 (moC v (pzM L T dp y))) ∧ ∃ g', hat h' 103 (aL 9758 g') ∧ GZ g0 g' S
def BaM (h h' : ev_H) (v : MG) (L : Nat) (T : Tk) (k : Nat) (g0 : Nat → Int64) : Prop := Kp h h' 102 104 ∧ (∃ dp y, hat h' 102 (bdC v L T k dp y)) ∧ ∃ g', hat h' 103 (aL 9758 g') ∧ ∀ k, 574 ≤ k → g' k = g0 k
def PoM (h h' : ev_H) (v : MG) (L : Nat) (dp : Int32) (g0 : Nat → Int64) (S : AS) (r : PR) : Prop := (r.1 = 0 → GoM h h' v L r.2.1 dp (setF S (sFl S ++ r.2.2)) g0) ∧ (¬ r.1 = 0 → BaM h h' v L r.2.1 r.1 g0)
def RdM (G : ev_G) (B : Nat → Nat) (L : Nat) (S0 : AS) (D : Nat) (M : ev_M) (ls : List Value) (w : Nat) (f : Tk → PR) : Prop := ∀ (d : Nat) (h : ev_H) (v : MG) (T : Tk) (S : AS) (g g0 : Nat → Int64) (y : Int64) (R : Option Value → ev_H → Prop), hat h 102 (moC v (pzM L T (nI w) y)) → hat h 103 (aL 9758 g) → TxM h B L → TkOk B L T → sOk S → GZ g0 g S → sB S = sB S0 → sP S = sP S0 → 2 * clTot (sFl S) ≤ T.2.1 → (∀ h', PoM h h' v L (nI w) g0 S (f T) → R (some (.int (b2i (decide ((f T).1 = 0))))) h') → Ev G (d + D) 0 0 M 0 ls [] h R
theorem clC_len : ∀ fl : List AStp, (clC fl).length = clTot fl
  | [] => rfl
  | s :: r => by rw [clC_cons, clTot_cons, List.length_append, cl1_len, clC_len r]
theorem clC_app (a b : List AStp) : clC (a ++ b) = clC a ++ clC b := by unfold clC; rw [List.flatMap_append]
theorem emF_3 (g : Nat → Int64) (t : Nat) (w : Int32) (m : Int64) : emF g t w m 3 = lN (t + 1) := by
  unfold emF vp_updL
  exact if_pos rfl
theorem gd_l {a b : List Int64} {i : Nat} (h : i < a.length) : (a ++ b).getD i 0 = a.getD i 0 := by rw [List.getD_eq_getElem?_getD, List.getD_eq_getElem?_getD, List.getElem?_append_left h]
theorem gd_r {a b : List Int64} {i : Nat} (h : a.length ≤ i) : (a ++ b).getD i 0 = b.getD (i - a.length) 0 := by rw [List.getD_eq_getElem?_getD, List.getD_eq_getElem?_getD, List.getElem?_append_right h]
theorem emF_t (g : Nat → Int64) (t : Nat) (w : Int32) (m : Int64) : emF g t w m (74 + t) = (m <<< ((4 : Int32).toInt64 &&& 63)) ||| w.toInt64 := by
  unfold emF vp_updL
  show (if 74 + t = 3 then _ else if 74 + t = 74 + t then _ else _) = _
  rw [if_neg (by omega), if_pos rfl]
theorem emF_o (g : Nat → Int64) (t : Nat) (w : Int32) (m : Int64) {k : Nat} (h3 : k ≠ 3) (h : k ≠ 74 + t) : emF g t w m k = g k := by
  unfold emF vp_updL
  show (if k = 3 then _ else if k = 74 + t then _ else _) = _
  rw [if_neg h3, if_neg h]
theorem em_cel {q w : Nat} (hq : q < 2 ^ 59) (hw : w < 16) : (lN q <<< ((4 : Int32).toInt64 &&& 63)) ||| (nI w).toInt64 = cel (lN q) w := by
  have h1 : lN q <<< ((4 : Int32).toInt64 &&& 63) = lN (q * 2 ^ 4) := l_shN q (k := 4) (by decide)
  have e := Nat.two_pow_add_eq_or_of_lt (i := 4) (show w < 2 ^ 4 by omega) q
  rw [h1, nI_l (by omega), l_orN]
  unfold cel
  rw [lN_bv (by omega)]
  have e2 : q * 2 ^ 4 ||| w = q * 16 + w := by rw [Nat.mul_comm] at e; rw [← e, Nat.mul_comm]
  rw [e2]
section S73
variable {G : ev_G} {B : Nat → Nat} {L : Nat} {S S0 : AS} {g0 g g' : Nat → Int64}
theorem GZ.e3 (Z : GZ g0 g S) : g 3 = lN (clTot (sFl S)) := Z.1.2.2.2.1
theorem GZ.add {s : AStp} (Z : GZ g0 g S) (hc : clTot (sFl S) + clN s ≤ 500) (e3 : g' 3 = lN (clTot (sFl S) + clN s)) (ec : ∀ i, i < clN s → g' (74 + (clTot (sFl S) + i)) = (cl1 s).getD i 0) (eo : ∀ k, k ≠ 3 → (k < 74 + clTot (sFl S) ∨ 574 ≤ k) → g' k = g k) (ok : sOk S) : GZ g0 g' (setF S (sFl S ++ [s])) := by
  obtain ⟨⟨a0, a1, a2, a3, a4, a5, a6⟩, b, c⟩ := Z
  have p6 := ok.2.2.2.1
  have n32 := ok.2.2.2.2.1
  have tot : clTot (sFl S ++ [s]) = clTot (sFl S) + clN s := by rw [clTot_app, clTot_cons]; rfl
  refine ⟨⟨(eo 0 (by omega) (Or.inl (by omega))).trans a0, (eo 1 (by omega) (Or.inl (by omega))).trans a1, (eo 2 (by omega) (Or.inl (by omega))).trans a2, ?_, fun i hi => ?_, fun i hi => ?_, fun i hi => ?_⟩, fun i hi hi2 => ?_, fun k hk => ?_⟩
  · show g' 3 = lN (clTot (sFl S ++ [s])); rw [tot]; exact e3
  · have hi : i < sP S := hi
    rw [eo _ (by omega) (Or.inl (by omega))]; exact a4 i hi
  · have hi : i < sN S := hi
    rw [eo _ (by omega) (Or.inl (by omega)), eo _ (by omega) (Or.inl (by omega))]; exact a5 i hi
  · have hi : i < clTot (sFl S ++ [s]) := hi
    rw [tot] at hi
    show g' (0 + 74 + i) = (clC (sFl S ++ [s])).getD i 0
    have e1 : clC [s] = cl1 s := by rw [clC_cons]; exact List.append_nil _
    rw [clC_app, e1]
    have len := clC_len (sFl S)
    by_cases q : i < clTot (sFl S)
    · rw [eo _ (by omega) (Or.inl (by omega)), a6 i q, gd_l (by omega)]
    · have := ec (i - clTot (sFl S)) (by omega)
      rw [show 74 + (clTot (sFl S) + (i - clTot (sFl S))) = 0 + 74 + i by omega] at this
      rw [this, gd_r (by omega), len]
  · have hi : sN S ≤ i := hi
    rw [eo _ (by omega) (Or.inl (by omega))]; exact b i hi hi2
  · rw [eo k (by omega) (Or.inr hk)]; exact c k hk
/-- not, and, or -/
theorem GZ.join {k : Nat} (Z : GZ g0 g S) (hc : clTot (sFl S) + 1 ≤ 500) (hk : k ≤ 2) (ok : sOk S) : GZ g0 (emF g (clTot (sFl S)) (nI (10 + k)) 0) (setF S (sFl S ++ [jn k])) := by
  have n1 : clN (jn k) = 1 := if_pos hk
  refine Z.add (by omega) (by rw [n1]; exact emF_3 _ _ _ _) (fun i hi => ?_) (fun q h3 hq => emF_o _ _ _ _ h3 (by omega)) ok
  rw [n1] at hi
  have : i = 0 := by omega
  subst this
  rw [Nat.add_zero, emF_t]
  have := em_cel (q := 0) (w := 10 + k) (by omega) (by omega)
  rw [show (0 : Int64) = lN 0 from rfl, this]
  rcases (show k = 0 ∨ k = 1 ∨ k = 2 by omega) with rfl | rfl | rfl <;> rfl
/-- a comparison -/
theorem GZ.cmp {k sg p b : Nat} {fr : Int64} {q : Nat} (Z : GZ g0 g S) (hc : clTot (sFl S) + 3 ≤ 500) (hk : 3 ≤ k ∧ k ≤ 8) (hs : sg = 60 ∨ sg = 61 ∨ sg = 62) (hp : p < 100) (hb : b < 100000000) (hf : fr = lN q ∧ q < 2 ^ 48) (ok : sOk S) : GZ g0 (emF (emF (emF g (clTot (sFl S)) (nI (k - 3)) (muV k p fr)) (clTot (sFl S) + 1) 6 (lN b)) (clTot (sFl S) + 2) (nI (sg - 53)) 0) (setF S (sFl S ++ [(k, sg, p, b, fr)])) := by
  have n3 : clN (k, sg, p, b, fr) = 3 := if_neg (by show ¬ k ≤ 2; omega)
  refine Z.add (by omega) (by rw [n3]; exact emF_3 _ _ _ _) (fun i hi => ?_) (fun q h3 hq => ?_) ok
  · rw [n3] at hi
    have e1 : cl1 (k, sg, p, b, fr) = [cel (if k = 8 then fr else if k = 6 ∨ k = 7 then lN p else 0) (k - 3), cel (lN b) 6, cel 0 (sg - 53)] := by
      unfold cl1
      rw [if_neg (by show ¬ k = 0; omega), if_neg (by show ¬ k = 1; omega), if_neg (by show ¬ k = 2; omega)]
    rw [e1]
    rcases (show i = 0 ∨ i = 1 ∨ i = 2 by omega) with rfl | rfl | rfl
    · rw [emF_o _ _ _ _ (by omega) (by omega), emF_o _ _ _ _ (by omega) (by omega), Nat.add_zero, emF_t]
      have mu : ∃ q, muV k p fr = lN q ∧ q < 2 ^ 59 := by
        unfold muV
        split
        · exact ⟨q, hf.1, by omega⟩
        · split
          · exact ⟨p, rfl, by omega⟩
          · exact ⟨0, rfl, by omega⟩
      obtain ⟨q2, m1, m2⟩ := mu
      show _ = cel (muV k p fr) (k - 3)
      rw [m1]
      exact em_cel m2 (by omega)
    · rw [emF_o _ _ _ _ (by omega) (by omega), emF_t]
      exact em_cel (q := b) (w := 6) (by omega) (by omega)
    · rw [emF_t]
      exact em_cel (q := 0) (w := sg - 53) (by omega) (by omega)
  · rw [emF_o _ _ _ _ h3 (by omega), emF_o _ _ _ _ h3 (by omega), emF_o _ _ _ _ h3 (by omega)]
theorem GZ.ms {h : ev_H} {v : MG} {z : MP} (Z : GZ g0 g S) (m1 : hat h 102 (moC v z)) (m2 : hat h 103 (aL 9758 g)) : MS h S := ⟨_, _, _, m1, m2, Z.1⟩
theorem PoM.bad {h h' : ev_H} {v : MG} {dp : Int32} {r : PR} (b : ¬ r.1 = 0) (H : BaM h h' v L r.2.1 r.1 g0) : PoM h h' v L dp g0 S r := ⟨fun z => absurd z b, fun _ => H⟩
theorem BaM.mk1 {h h' : ev_H} {v : MG} {T : Tk} {k : Nat} {dp : Int32} {y : Int64} (Z : GZ g0 g S) (K : Kp h h' 102 104) (m1 : hat h' 102 (bdC v L T k dp y)) (m2 : hat h' 103 (aL 9758 g)) : BaM h h' v L T k g0 := ⟨K, ⟨_, _, m1⟩, g, m2, Z.2.2⟩
theorem pPl_S {v : Nat} {T : Tk} (hB : sB S = sB S0) (hP : sP S = sP S0) : pPl B S v T = pPl B S0 v T := by unfold pPl; rw [hB, hP]
theorem pFr_S {v : Nat} {T : Tk} (hB : sB S = sB S0) : pFr B S v T = pFr B S0 v T := by unfold pFr; rw [hB]
theorem s_factCmp {d w : Nat} {h : ev_H} {v : MG} {T : Tk} {y : Int64} {R : Option Value → ev_H → Prop} (m1 : hat h 102 (moC v (pzM L T (nI w) y))) (m2 : hat h 103 (aL 9758 g)) (X : TxM h B L) (HT : TkOk B L T) (ok : sOk S) (Z : GZ g0 g S) (hB : sB S = sB S0) (hP : sP S = sP S0) (hl : 2 * clTot (sFl S) ≤ T.2.1) (hR : ∀ h', PoM h h' v L (nI w) g0 S (pCmp B L S0 T) → R (some (.int (b2i (decide ((pCmp B L S0 T).1 = 0))))) h') : Ev G (d + 5) 0 0 M_Mo_valueHere 0 [.ref 102, ev_unk, ev_unk] [] h (fun r h1 => Ev G (d + 6) 0 0 M_Mo_fact 84 [.ref 102, ev_unk] (r.toList ++ []) h1 R) := by
  have h900 := X.1
  have le1 := HT.2.1
  have le2 := HT.2.2.1
  have o1 := ok.2.1
  have o2 := ok.2.2.2.1
  have n1 := nx_ok HT
  -- the end when there is no value
  have bad : ∀ (h5 : ev_H) (T' : Tk) (k : Nat) (dp : Int32) (y' : Int64), hat h5 102 (bdC v L T' k dp y') → R (some (.int (0 : Int32))) h5 → Ev G (d + 6) 0 0 M_Mo_fact 84 [.ref 102, ev_unk] [.int 0] h5 R := by
    intro h5 T' k dp y' m r
    exact b_Mo_fact_84 (d := d + 1) (v_1 := v) (L2 := L) (T3 := T) (dp4 := dp) (y_5 := y) (B6 := B) (c_7 := 0) (v_8 := v) (L9 := L) (T10 := T) (dp11 := dp) (y_12 := y) (B13 := B) (c_14 := 0) (v_15 := v) (L16 := L) (T17 := T) (dp18 := dp) (y_19 := y) (B20 := B) (c_21 := 0) (fun k => absurd rfl k) (fun k => absurd rfl k) (fun k => absurd rfl k) (fun k => absurd rfl k) (fun k => absurd rfl k) (fun k => absurd rfl k) (fun k => absurd rfl k) (fun k => absurd rfl k) (fun k => absurd rfl k) (fun k => absurd rfl k) (fun k => absurd rfl k) (fun k => absurd rfl k) (fun k => absurd rfl k) (fun k => absurd rfl k) (fun k => absurd rfl k) (fun _ => r) (fun k => absurd rfl k) (fun k => absurd rfl k) (fun k => absurd rfl k) (fun k => absurd rfl k)
  refine s_value (d := d) m1 m2 X HT Z.1 ok ⟨Z.e3, by omega⟩ (fun v0 => ?_) (fun v0 c1 h5 y' K m => ?_) (fun v0 c1 c2 h5 y' K m => ?_) (fun v0 c1 c2 h5 y' K m1 m2 => ?_)
  · have e : pCmp B L S0 T = (2, T, []) := by unfold pCmp; rw [if_pos v0]
    rw [e] at hR
    have m := hat_set m1 (c' := bdC v L T 2 (nI w) y)
    exact bad _ _ _ _ _ m (hR _ (PoM.bad (by show ¬ 2 = 0; omega) (BaM.mk1 Z ((Kp.refl h 102 104).set _ (by omega) (by omega)) m (hat_ne m2 (by omega)))))
  · rw [pPl_S hB hP] at c1 m
    have e : pCmp B L S0 T = ((pPl B S0 (vkN B T) (nx B L T)).1, nx B L T, []) := by unfold pCmp pCmpV; rw [if_neg v0, if_neg c1]
    rw [e] at hR
    have r := hR h5 (PoM.bad c1 (BaM.mk1 Z (K.wide (by omega) (by omega)) m (K.hat m2 (by omega))))
    rw [show (pPl B S0 (vkN B T) (nx B L T)).1 = ((pPl B S0 (vkN B T) (nx B L T)).1, nx B L T, ([] : List AStp)).1 from rfl] at c1
    rw [decide_eq_false c1] at r
    exact bad _ _ _ _ _ m r
  · rw [pPl_S hB hP] at c1
    rw [pFr_S hB] at c2 m
    have e : pCmp B L S0 T = ((pFr B S0 (vkN B T) (nx67 B L (vkN B T) (nx B L T))).1, nx67 B L (vkN B T) (nx B L T), []) := by unfold pCmp pCmpV pMid; rw [if_neg v0, if_pos c1, if_neg c2]
    rw [e] at hR
    have r := hR h5 (PoM.bad c2 (BaM.mk1 Z (K.wide (by omega) (by omega)) m (K.hat m2 (by omega))))
    rw [show (pFr B S0 (vkN B T) (nx67 B L (vkN B T) (nx B L T))).1 = ((pFr B S0 (vkN B T) (nx67 B L (vkN B T) (nx B L T))).1, nx67 B L (vkN B T) (nx B L T), ([] : List AStp)).1 from rfl] at c2
    rw [decide_eq_false c2] at r
    exact bad _ _ _ _ _ m r
  · rw [pPl_S hB hP] at c1 m2
    rw [pFr_S hB] at c2 m2
    have vf := vk_f v0
    have e : pCmp B L S0 T = pEnd B L (vkN B T) (pPl B S0 (vkN B T) (nx B L T)).2 (pFr B S0 (vkN B T) (nx67 B L (vkN B T) (nx B L T))).2 (nx8 B L (vkN B T) (nx67 B L (vkN B T) (nx B L T))) := by unfold pCmp pCmpV pMid; rw [if_neg v0, if_pos c1, if_pos c2]
    rw [e] at hR
    have t2 : TkOk B L (nx67 B L (vkN B T) (nx B L T)) := by unfold nx67; split; exact nx_ok n1; exact n1
    have t3 : TkOk B L (nx8 B L (vkN B T) (nx67 B L (vkN B T) (nx B L T))) := by unfold nx8; split; exact nx_ok t2; exact t2
    have np : (pPl B S0 (vkN B T) (nx B L T)).2 < 100 := by
      rw [← pPl_S hB hP] at c1 ⊢
      revert c1
      unfold pPl
      have f1 := pNum_f (B := B) (T := nx B L T) 0 (sB S - 1)
      have f2 := pNum_f (B := B) (T := nx B L T) 0 (sP S - 1)
      split
      · intro c; have := (f1.2 c).2.2.1; omega
      split
      · intro c; have := (f2.2 c).2.2.1; omega
      · intro _; show 0 < 100; omega
    have nf : ∃ q, (pFr B S0 (vkN B T) (nx67 B L (vkN B T) (nx B L T))).2 = lN q ∧ q < 2 ^ 48 := by
      rw [← pFr_S hB] at c2 ⊢
      revert c2
      unfold pFr
      have f1 := pBin_f (B := B) (T := nx67 B L (vkN B T) (nx B L T)) (b := sB S) o1
      split
      · intro c
        obtain ⟨q1, q2, q3, q4, q5⟩ := f1.2 c
        have := bvN_lt (sB S) q4
        have := Nat.pow_le_pow_right (n := 2) (by omega) o1
        exact ⟨_, q5, by omega⟩
      · intro _; exact ⟨0, rfl, by omega⟩
    obtain ⟨q, hq1, hq2⟩ := nf
    revert hR m1 m2 t3 np hq1
    generalize (pPl B S0 (vkN B T) (nx B L T)).2 = p
    generalize (pFr B S0 (vkN B T) (nx67 B L (vkN B T) (nx B L T))).2 = fr
    generalize nx8 B L (vkN B T) (nx67 B L (vkN B T) (nx B L T)) = T3
    generalize vkN B T = vk at vf
    intro hR m1 m2 t3 np hq1
    clear e c1 c2 t2 v0
    have X := X.kg K.g (by omega)
    have n3 := nx_ok t3
    -- from the sign on
    have S132 : ∀ (x : Int32) (sg : Nat), (sg = 60 ∨ sg = 61 ∨ sg = 62) → T3.1 = sg → x = nI (sg - 53) → Ev G (d + 6) 0 0 M_Mo_fact 132 [.ref 102, ev_unk] [.int x] h5 R := by
      intro x sg hs hT hx
      have ne : ¬ x = -1 := by rw [hx]; exact nI_m1 (by omega)
      have e : pEnd B L vk p fr T3 = if (pNum B (nx B L T3) 0 99999999).1 = 0 then (0, nx B L (nx B L T3), [(vk, sg, p, (pNum B (nx B L T3) 0 99999999).2, fr)]) else ((pNum B (nx B L T3) 0 99999999).1, nx B L T3, []) := by
        unfold pEnd; rw [if_pos (by rw [hT]; exact hs), hT]
      rw [e] at hR
      have mA := hat_set m1 (c' := moC v (pzM L (nx B L T3) (nI w) y'))
      refine b_Mo_fact_132 (d := d + 1) (v_1 := v) (L2 := L) (T3 := T3) (dp4 := nI w) (y_5 := y') (k_6 := 2) (fun k => absurd k ne) (fun k => absurd k ne) (fun k => absurd k ne) (fun _ => m1) (fun _ => X) (fun _ => t3.2.2.1) (fun _ => ⟨_, m1⟩) (fun _ => ⟨_, mA⟩) (fun k => absurd k ne) (fun _ => ?_)
      refine s_num (d := d + 4) (lo := 0) (hi := 99999999) mA X.set n3 ⟨rfl, by omega⟩ ⟨rfl, by omega⟩ (fun c => ?_) (fun c y2 => ?_)
      · rw [if_pos c] at hR
        rw [hset_hset]
        have hb := ((pNum_f (B := B) (T := nx B L T3) 0 99999999).2 c).2.2.1
        generalize (pNum B (nx B L T3) 0 99999999).2 = b at hR hb ⊢
        have m1B := hat_set m1 (c' := moC v (pzM L (nx B L T3) (nI w) (lN b)))
        have m2B := hat_ne (b := 102) (c' := moC v (pzM L (nx B L T3) (nI w) (lN b))) m2 (by omega)
        have KB : Kp h (hset h5 102 (moC v (pzM L (nx B L T3) (nI w) (lN b)))) 102 104 := K.set _ (by omega) (by omega)
        have XB := X.set (c := moC v (pzM L (nx B L T3) (nI w) (lN b)))
        generalize hset h5 102 (moC v (pzM L (nx B L T3) (nI w) (lN b))) = h6 at m1B m2B KB XB
        refine b_Mo_fact_155 (d := d + 1) m1B (fun _ => m1B) (fun _ => m2B) (fun _ => ⟨emF_3 _ _ _ _, by omega⟩) (fun _ => hat_ne m1B (by omega)) (fun _ => hat_set m2B) (fun _ => ⟨emF_3 _ _ _ _, by omega⟩) (fun _ => ⟨_, hat_ne m1B (by omega)⟩) (fun _ => hat_ne (hat_ne m1B (by omega)) (by omega)) (fun _ => XB.set3.set3) (fun _ => n3.2.2.1) (fun _ => ⟨_, hat_ne (hat_ne m1B (by omega)) (by omega)⟩) (fun k => absurd k (by decide)) (fun _ => ?_)
        rw [hset_hset]
        refine hR _ ⟨fun _ => ⟨(KB.set (k := 103) _ (by omega) (by omega)).set (k := 102) _ (by omega) (by omega), ⟨_, hat_set (hat_ne m1B (by omega))⟩, _, hat_ne (hat_set m2B) (by omega), ?_⟩, fun z => absurd rfl z⟩
        rw [hx]
        exact Z.cmp (by omega) ⟨vf.2.2.1, vf.2.2.2⟩ hs np (by omega) ⟨hq1, hq2⟩ ok
      · rw [if_neg c] at hR
        rw [hset_hset]
        have mB := hat_set m1 (c' := bdC v L (nx B L T3) (pNum B (nx B L T3) 0 99999999).1 (nI w) y2)
        have KB := K.set (k := 102) (bdC v L (nx B L T3) (pNum B (nx B L T3) 0 99999999).1 (nI w) y2) (by omega) (by omega)
        have r := hR _ (PoM.bad c ⟨KB, ⟨_, _, mB⟩, _, hat_ne m2 (by omega), fun k hk => by rw [emF_o _ _ _ _ (by omega) (by omega)]; exact Z.2.2 k hk⟩)
        rw [show (pNum B (nx B L T3) 0 99999999).1 = ((pNum B (nx B L T3) 0 99999999).1, nx B L T3, ([] : List AStp)).1 from rfl] at c
        rw [decide_eq_false c] at r
        exact b_Mo_fact_155 (d := d + 1) (v_15 := v) (z_16 := pzM L T (nI w) y) (g_17 := g) (t_18 := 0) (v_19 := v) (z_20 := pzM L T (nI w) y) (g_21 := g) (t_22 := 0) (v_23 := v) (L24 := L) (T25 := T) (dp26 := nI w) (y_27 := y) (B28 := B) mB (fun k => absurd rfl k) (fun k => absurd rfl k) (fun k => absurd rfl k) (fun k => absurd rfl k) (fun k => absurd rfl k) (fun k => absurd rfl k) (fun k => absurd rfl k) (fun k => absurd rfl k) (fun k => absurd rfl k) (fun k => absurd rfl k) (fun k => absurd rfl k) (fun _ => r) (fun k => absurd rfl k)
    refine b_Mo_fact_84 (d := d + 1) (c_7 := 60) (c_14 := 61) (c_21 := 62) (fun _ => m1) (fun _ => X) (fun _ => t3) (fun _ => ⟨rfl, by decide⟩) (fun _ => ⟨_, m1⟩) (fun _ _ => m1) (fun _ _ => X) (fun _ _ => t3) (fun _ _ => ⟨rfl, by decide⟩) (fun _ _ => ⟨_, m1⟩) (fun _ _ _ => m1) (fun _ _ _ => X) (fun _ _ _ => t3) (fun _ _ _ => ⟨rfl, by decide⟩) (fun _ _ _ => ⟨_, m1⟩) (fun k => absurd k (by decide)) (fun _ k1 k2 k3 => ?_) (fun _ k1 k2 k3 => ?_) (fun _ k1 k2 => ?_) (fun _ k1 => ?_)
    · have k1 := of_decide_eq_false (b2i_e0 k1)
      have k2 := of_decide_eq_false (b2i_e0 k2)
      have k3 := of_decide_eq_false (b2i_e0 k3)
      have e : pEnd B L vk p fr T3 = (2, T3, []) := by unfold pEnd; rw [if_neg (by omega)]
      rw [e] at hR
      have mB := hat_set m1 (c' := bdC v L T3 2 (nI w) y')
      refine b_Mo_fact_132 (d := d + 1) (v_7 := v) (L8 := L) (T9 := T3) (dp10 := nI w) (y_11 := y') (B12 := B) (fun _ => m1) (fun _ => rfl) (fun _ => ⟨_, m1⟩) (fun k => absurd rfl k) (fun k => absurd rfl k) (fun k => absurd rfl k) (fun k => absurd rfl k) (fun k => absurd rfl k) (fun _ => ?_) (fun k => absurd rfl k)
      exact hR _ (PoM.bad (by show ¬ 2 = 0; omega) ⟨K.set _ (by omega) (by omega), ⟨_, _, mB⟩, _, hat_ne m2 (by omega), fun k hk => by rw [emF_o _ _ _ _ (by omega) (by omega)]; exact Z.2.2 k hk⟩)
    · exact S132 9 62 (by omega) (of_decide_eq_true (b2i_n0 k3)) rfl
    · exact S132 8 61 (by omega) (of_decide_eq_true (b2i_n0 k2)) rfl
    · exact S132 7 60 (by omega) (of_decide_eq_true (b2i_n0 k1)) rfl
end S73
