/-! the model's budget -/
theorem b_Mo_budget_0 {G : ev_G} {d k n : Nat} {h : ev_H} {R : Option Value → ev_H → Prop} {x1 : Int64} {x3 : Int32} {x4 : Int32} {S1 : AS} {v_2 : MG} {z_3 : MP} {S4 : AS} {v_5 : MG} {z_6 : MP} {S7 : AS} {v_8 : MG} {z_9 : MP}
  (pr1 : MS h S1)
  (r2 : ∃ fs, hat h 102 (oC 9 fs))
  (pr3 : (b2i (numB x1 (sB S1))) = (0 : Int32) → hat h 102 (moC v_2 z_3))
  (r4 : (b2i (numB x1 (sB S1))) = (0 : Int32) → ∃ fs, hat h 102 (oC 9 fs))
  (pr5 : ¬ (b2i (numB x1 (sB S1))) = (0 : Int32) → MS h S4)
  (pr6 : ¬ (b2i (numB x1 (sB S1))) = (0 : Int32) → sOk S4)
  (r7 : ¬ (b2i (numB x1 (sB S1))) = (0 : Int32) → ∃ fs, hat h 102 (oC 9 fs))
  (pr8 : ¬ (b2i (numB x1 (sB S1))) = (0 : Int32) → (b2i (inR x3 (sB S4 + 1))) = (0 : Int32) → hat h 102 (moC v_5 z_6))
  (r9 : ¬ (b2i (numB x1 (sB S1))) = (0 : Int32) → (b2i (inR x3 (sB S4 + 1))) = (0 : Int32) → ∃ fs, hat h 102 (oC 9 fs))
  (pr10 : ¬ (b2i (numB x1 (sB S1))) = (0 : Int32) → ¬ (b2i (inR x3 (sB S4 + 1))) = (0 : Int32) → MS h S7)
  (pr11 : ¬ (b2i (numB x1 (sB S1))) = (0 : Int32) → ¬ (b2i (inR x3 (sB S4 + 1))) = (0 : Int32) → sOk S7)
  (r12 : ¬ (b2i (numB x1 (sB S1))) = (0 : Int32) → ¬ (b2i (inR x3 (sB S4 + 1))) = (0 : Int32) → ∃ fs, hat h 102 (oC 9 fs))
  (pr13 : ¬ (b2i (numB x1 (sB S1))) = (0 : Int32) → ¬ (b2i (inR x3 (sB S4 + 1))) = (0 : Int32) → (b2i (inR x4 (sP S7))) = (0 : Int32) → hat h 102 (moC v_8 z_9))
  (r14 : ¬ (b2i (numB x1 (sB S1))) = (0 : Int32) → ¬ (b2i (inR x3 (sB S4 + 1))) = (0 : Int32) → (b2i (inR x4 (sP S7))) = (0 : Int32) → ∃ fs, hat h 102 (oC 9 fs))
  (r15 : ¬ (b2i (numB x1 (sB S1))) = (0 : Int32) → ¬ (b2i (inR x3 (sB S4 + 1))) = (0 : Int32) → ¬ (b2i (inR x4 (sP S7))) = (0 : Int32) → ∃ fs, hat h 102 (oC 9 fs))
  (k1 : (b2i (numB x1 (sB S1))) = (0 : Int32) → R (some (.int (-1 : Int32))) (hset h 102 (moC (stV v_2 (1 : Int32)) z_3)))
  (k2 : ¬ (b2i (numB x1 (sB S1))) = (0 : Int32) → (b2i (inR x3 (sB S4 + 1))) = (0 : Int32) → R (some (.int (-1 : Int32))) (hset h 102 (moC (stV v_5 (1 : Int32)) z_6)))
  (k3 : ¬ (b2i (numB x1 (sB S1))) = (0 : Int32) → ¬ (b2i (inR x3 (sB S4 + 1))) = (0 : Int32) → (b2i (inR x4 (sP S7))) = (0 : Int32) → R (some (.int (-1 : Int32))) (hset h 102 (moC (stV v_8 (2 : Int32)) z_9)))
  (k4 : ¬ (b2i (numB x1 (sB S1))) = (0 : Int32) → ¬ (b2i (inR x3 (sB S4 + 1))) = (0 : Int32) → ¬ (b2i (inR x4 (sP S7))) = (0 : Int32) → Ev G (d + 2) 0 0 M_Mo_ownParts 0 [.ref 102, ev_unk] [] h (fun r h1 => Ev G (d + 3) k n M_Mo_budget 41 [.ref 102, .long x1, ev_unk, .int x3, .int x4] (r.toList ++ []) h1 R))
  : Ev G (d + 3) k n M_Mo_budget 0 [.ref 102, .long x1, ev_unk, .int x3, .int x4] [] h R :=
  Ev.go (pc' := 2) (ls' := [.ref 102, .long x1, ev_unk, .int x3, .int x4]) (st' := [.long x1, .ref 102]) [.aload_n 0, .lload_n 1] (by decide +kernel) rfl <|
  Ev.cV0 (M' := M_Mo_isNumber) (as := [.long x1]) (rest := []) l_Mo_267 M_Mo_isNumber_ok M_Mo_isNumber_in M_Mo_isNumber_se (by decide +kernel) r2 rfl rfl rfl (Nat.le_of_ble_eq_true rfl) (Nat.le_of_ble_eq_true rfl) (s_Mo_isNumber pr1 <| show Ev G (d + 3) _ _ M_Mo_budget 5 [.ref 102, .long x1, ev_unk, .int x3, .int x4] [.int (b2i (numB x1 (sB S1)))] h R from
    Ev.br (i := .ifCond .eq (11)) (P := (b2i (numB x1 (sB S1))) = (0 : Int32)) (t := 16) (f := 8) (r := []) (by decide +kernel) rfl (fun c1 =>
      Ev.go (pc' := 18) (ls' := [.ref 102, .long x1, ev_unk, .int x3, .int x4]) (st' := [.int (1 : Int32), .ref 102]) [.aload_n 0, .iconst 1] (by decide +kernel) rfl <|
      Ev.cV0 (M' := M_Mo_refuse) (as := [.int (1 : Int32)]) (rest := []) l_Mo_226 M_Mo_refuse_ok M_Mo_refuse_in M_Mo_refuse_se (by decide +kernel) (r4 c1) rfl rfl rfl (Nat.le_of_ble_eq_true rfl) (Nat.le_of_ble_eq_true rfl) (s_Mo_refuse (pr3 c1) <| show Ev G (d + 3) _ _ M_Mo_budget 21 [.ref 102, .long x1, ev_unk, .int x3, .int x4] [.int (-1 : Int32)] (hset h 102 (moC (stV v_2 (1 : Int32)) z_3)) R from
        Ev.ret (r := (some (.int (-1 : Int32)))) (Or.inl ⟨_, rfl, by decide +kernel, _, rfl, rfl⟩) (k1 c1)
      )
    ) (fun c1 =>
      Ev.go (pc' := 10) (ls' := [.ref 102, .long x1, ev_unk, .int x3, .int x4]) (st' := [.int x3, .ref 102]) [.aload_n 0, .iload_n 3] (by decide +kernel) rfl <|
      Ev.cV0 (M' := M_Mo_isRadius) (as := [.int x3]) (rest := []) l_Mo_309 M_Mo_isRadius_ok M_Mo_isRadius_in M_Mo_isRadius_se (by decide +kernel) (r7 c1) rfl rfl rfl (Nat.le_of_ble_eq_true rfl) (Nat.le_of_ble_eq_true rfl) (s_Mo_isRadius (pr5 c1) (pr6 c1) <| show Ev G (d + 3) _ _ M_Mo_budget 13 [.ref 102, .long x1, ev_unk, .int x3, .int x4] [.int (b2i (inR x3 (sB S4 + 1)))] h R from
        Ev.br (i := .ifCond .ne (9)) (P := (b2i (inR x3 (sB S4 + 1))) = (0 : Int32)) (t := 16) (f := 22) (r := []) (by decide +kernel) rfl (fun c2 =>
          Ev.go (pc' := 18) (ls' := [.ref 102, .long x1, ev_unk, .int x3, .int x4]) (st' := [.int (1 : Int32), .ref 102]) [.aload_n 0, .iconst 1] (by decide +kernel) rfl <|
          Ev.cV0 (M' := M_Mo_refuse) (as := [.int (1 : Int32)]) (rest := []) l_Mo_226 M_Mo_refuse_ok M_Mo_refuse_in M_Mo_refuse_se (by decide +kernel) (r9 c1 c2) rfl rfl rfl (Nat.le_of_ble_eq_true rfl) (Nat.le_of_ble_eq_true rfl) (s_Mo_refuse (pr8 c1 c2) <| show Ev G (d + 3) _ _ M_Mo_budget 21 [.ref 102, .long x1, ev_unk, .int x3, .int x4] [.int (-1 : Int32)] (hset h 102 (moC (stV v_5 (1 : Int32)) z_6)) R from
            Ev.ret (r := (some (.int (-1 : Int32)))) (Or.inl ⟨_, rfl, by decide +kernel, _, rfl, rfl⟩) (k2 c1 c2)
          )
        ) (fun c2 =>
          Ev.go (pc' := 25) (ls' := [.ref 102, .long x1, ev_unk, .int x3, .int x4]) (st' := [.int x4, .ref 102]) [.aload_n 0, .iload 4] (by decide +kernel) rfl <|
          Ev.cV0 (M' := M_Mo_isPart) (as := [.int x4]) (rest := []) l_Mo_264 M_Mo_isPart_ok M_Mo_isPart_in M_Mo_isPart_se (by decide +kernel) (r12 c1 c2) rfl rfl rfl (Nat.le_of_ble_eq_true rfl) (Nat.le_of_ble_eq_true rfl) (s_Mo_isPart (pr10 c1 c2) (pr11 c1 c2) <| show Ev G (d + 3) _ _ M_Mo_budget 28 [.ref 102, .long x1, ev_unk, .int x3, .int x4] [.int (b2i (inR x4 (sP S7)))] h R from
            Ev.br (i := .ifCond .ne (9)) (P := (b2i (inR x4 (sP S7))) = (0 : Int32)) (t := 31) (f := 37) (r := []) (by decide +kernel) rfl (fun c3 =>
              Ev.go (pc' := 33) (ls' := [.ref 102, .long x1, ev_unk, .int x3, .int x4]) (st' := [.int (2 : Int32), .ref 102]) [.aload_n 0, .iconst 2] (by decide +kernel) rfl <|
              Ev.cV0 (M' := M_Mo_refuse) (as := [.int (2 : Int32)]) (rest := []) l_Mo_226 M_Mo_refuse_ok M_Mo_refuse_in M_Mo_refuse_se (by decide +kernel) (r14 c1 c2 c3) rfl rfl rfl (Nat.le_of_ble_eq_true rfl) (Nat.le_of_ble_eq_true rfl) (s_Mo_refuse (pr13 c1 c2 c3) <| show Ev G (d + 3) _ _ M_Mo_budget 36 [.ref 102, .long x1, ev_unk, .int x3, .int x4] [.int (-1 : Int32)] (hset h 102 (moC (stV v_8 (2 : Int32)) z_9)) R from
                Ev.ret (r := (some (.int (-1 : Int32)))) (Or.inl ⟨_, rfl, by decide +kernel, _, rfl, rfl⟩) (k3 c1 c2 c3)
              )
            ) (fun c3 =>
              Ev.go (pc' := 38) (ls' := [.ref 102, .long x1, ev_unk, .int x3, .int x4]) (st' := [.ref 102]) [.aload_n 0] (by decide +kernel) rfl <|
              Ev.cV0 (M' := M_Mo_ownParts) (as := []) (rest := []) l_Mo_312 M_Mo_ownParts_ok M_Mo_ownParts_in M_Mo_ownParts_se (by decide +kernel) (r15 c1 c2 c3) rfl rfl rfl (Nat.le_of_ble_eq_true rfl) (Nat.le_of_ble_eq_true rfl) (k4 c1 c2 c3)
            )
          )
        )
      )
    )
  )
theorem b_Mo_budget_41 {G : ev_G} {d k n : Nat} {h : ev_H} {R : Option Value → ev_H → Prop} {x1 : Int64} {x3 : Int32} {x4 : Int32}
  (r1 : ∃ fs, hat h 102 (oC 9 fs))
  (k1 : Ev G (d + 2) 0 0 M_Mo_counting 0 [.ref 102, ev_unk, ev_unk, ev_unk] [] h (fun r h1 => Ev G (d + 3) k n M_Mo_budget 48 [.ref 102, .long x1, ev_unk, .int x3, .int x4] (r.toList ++ [.int x3, .long x1, .ref 102]) h1 R))
  : Ev G (d + 3) k n M_Mo_budget 41 [.ref 102, .long x1, ev_unk, .int x3, .int x4] [] h R :=
  Ev.go (pc' := 45) (ls' := [.ref 102, .long x1, ev_unk, .int x3, .int x4]) (st' := [.ref 102, .int x3, .long x1, .ref 102]) [.aload_n 0, .lload_n 1, .iload_n 3, .aload_n 0] (by decide +kernel) rfl <|
  Ev.cV0 (M' := M_Mo_counting) (as := []) (rest := [.int x3, .long x1, .ref 102]) l_Mo_248 M_Mo_counting_ok M_Mo_counting_in M_Mo_counting_se (by decide +kernel) r1 rfl rfl rfl (Nat.le_of_ble_eq_true rfl) (Nat.le_of_ble_eq_true rfl) k1
theorem b_Mo_budget_48 {G : ev_G} {d k n : Nat} {h : ev_H} {R : Option Value → ev_H → Prop} {x1 : Int64} {x3 : Int32} {x4 : Int32} {y1 : Int64} {y2 : Int32} {y3 : Int64}
  (r1 : ∃ fs, hat h 102 (oC 9 fs))
  (k1 : Ev G (d + 2) 0 0 M_Mo_budgetsOf 0 [.ref 102, .long y1, ev_unk, .int y2, .long y3, ev_unk, ev_unk, ev_unk, ev_unk] [] h (fun r h1 => Ev G (d + 3) k n M_Mo_budget 51 [.ref 102, .long x1, ev_unk, .int x3, .int x4] (r.toList ++ []) h1 R))
  : Ev G (d + 3) k n M_Mo_budget 48 [.ref 102, .long x1, ev_unk, .int x3, .int x4] [.long y3, .int y2, .long y1, .ref 102] h R :=
  Ev.cV0 (M' := M_Mo_budgetsOf) (as := [.long y1, .int y2, .long y3]) (rest := []) l_Mo_315 M_Mo_budgetsOf_ok M_Mo_budgetsOf_in M_Mo_budgetsOf_se (by decide +kernel) r1 rfl rfl rfl (Nat.le_of_ble_eq_true rfl) (Nat.le_of_ble_eq_true rfl) k1
theorem b_Mo_budget_51 {G : ev_G} {d k n : Nat} {h : ev_H} {R : Option Value → ev_H → Prop} {x1 : Int64} {x3 : Int32} {x4 : Int32} {y0 : Int32} {f_status_1 : Int32} {f_acts_2 : Int32} {f_marks_3 : Int32} {f_taped_4 : Int32} {f_size_5 : Int32} {f_token_6 : Int32} {f_begin_7 : Int32} {f_end_8 : Int32} {f_faults_9 : Int32} {f_faultPlace_10 : Int32} {f_faultKind_11 : Int32} {f_deep_12 : Int32} {f_value_13 : Int64} {f_broadMany_14 : Int32} {g15 : Nat → Int32} {j16 : Nat} {v_17 : MG} {z_18 : MP}
  (a1 : hat h 102 (oC 9 [.ref 103, .int f_status_1, .int f_acts_2, .int f_marks_3, .ref 104, .ref 105, .ref 106, .int f_taped_4, .int f_size_5, .int f_token_6, .int f_begin_7, .int f_end_8, .int f_faults_9, .int f_faultPlace_10, .int f_faultKind_11, .int f_deep_12, .long f_value_13, .ref 107, .ref 108, .ref 109, .ref 116, .int f_broadMany_14, .ref 124, .ref 125]))
  (a2 : hat h 108 (aI 6 g15))
  (i3 : ev_ix x4 j16 6)
  (pr4 : hat h 102 (moC v_17 z_18))
  (k1 : R (some (.int (g15 j16))) (hset h 102 (moC (stV v_17 0) z_18)))
  : Ev G (d + 3) k n M_Mo_budget 51 [.ref 102, .long x1, ev_unk, .int x3, .int x4] [.int y0] h R :=
  Ev.go (pc' := 54) (ls' := [.ref 102, .long x1, ev_unk, .int x3, .int x4]) (st' := [.ref 102, .ref 102]) [.pop, .aload_n 0, .aload_n 0] (by decide +kernel) rfl <|
  Ev.getf f_Mo_34 (by decide +kernel) a1 rfl <|
  Ev.go (pc' := 59) (ls' := [.ref 102, .long x1, ev_unk, .int x3, .int x4]) (st' := [.int x4, .ref 108, .ref 102]) [.iload 4] (by decide +kernel) rfl <|
  Ev.iald (j := j16) (by decide +kernel) a2 i3 <|
  Ev.cV0 (M' := M_Mo_gives_I) (as := [.int (g15 j16)]) (rest := []) l_Mo_245 M_Mo_gives_I_ok M_Mo_gives_I_in M_Mo_gives_I_se (by decide +kernel) ⟨_, a1⟩ rfl rfl rfl (Nat.le_of_ble_eq_true rfl) (Nat.le_of_ble_eq_true rfl) (s_Mo_gives_I pr4 <| show Ev G (d + 3) _ _ M_Mo_budget 63 [.ref 102, .long x1, ev_unk, .int x3, .int x4] [.int (g15 j16)] (hset h 102 (moC (stV v_17 0) z_18)) R from
    Ev.ret (r := (some (.int (g15 j16)))) (Or.inl ⟨_, rfl, by decide +kernel, _, rfl, rfl⟩) k1
  )
section S59
variable {G : ev_G} {d : Nat} {h : ev_H} {R : Option Value → ev_H → Prop} {Q : QS}
theorem MR.sum (H : MR h Q) : sumT (sBr (qS Q)) (sP (qS Q)) = sB (qS Q) := H.ok.2.2.2.2.2.2.2
theorem s_Mo_budget2 {x : Int64} {r p : Int32} (H : MR h Q) (hR : ∀ h', Kp h h' 102 126 → MR h' (stQ Q (a_budget (qS Q) x r p).2) → R (some (.int (a_budget (qS Q) x r p).1)) h') : Ev G (d + 7) 0 0 M_Mo_budget 0 [.ref 102, .long x, ev_unk, .int r, .int p] [] h R := by
  obtain ⟨bm, z, m1⟩ := H.2.1
  have hzB := H.szB
  have hzP := H.szP
  refine b_Mo_budget_0 (d := d + 4) H.ms ⟨_, m1⟩ (fun c1 => m1) (fun c1 => ⟨_, m1⟩) (fun c1 => H.ms) (fun c1 => H.ok) (fun c1 => ⟨_, m1⟩) (fun c1 c2 => m1) (fun c1 c2 => ⟨_, m1⟩) (fun c1 c2 => H.ms) (fun c1 c2 => H.ok) (fun c1 c2 => ⟨_, m1⟩) (fun c1 c2 c3 => m1) (fun c1 c2 c3 => ⟨_, m1⟩) (fun c1 c2 c3 => ⟨_, m1⟩) (fun c1 => H.fin (Kp.refl _ _ _) m1 hR (by unfold a_budget; rw [b2i_e0 c1]; rfl)) (fun c1 c2 => H.fin (Kp.refl _ _ _) m1 hR (by unfold a_budget; rw [b2i_n0 c1, b2i_e0 c2]; rfl)) (fun c1 c2 c3 => H.fin (Kp.refl _ _ _) m1 hR (by unfold a_budget; rw [b2i_n0 c1, b2i_n0 c2, b2i_e0 c3]; rfl)) (fun c1 c2 c3 => ?_)
  have hr := vN_lt (by omega) (b2i_n0 c2)
  have hp := vN_lt (by omega) (b2i_n0 c3)
  have e : a_budget (qS Q) x r p = (nI (a_sh (qS Q) x (vN r) (vN p)) - 1, 0) := by unfold a_budget; rw [if_pos (b2i_n0 c1), if_pos (b2i_n0 c2), if_pos (b2i_n0 c3)]
  refine (s_Mo_ownParts (d := d) H fun h1 K1 B => ?_).room (by omega) (Nat.le_refl _) (Nat.le_refl _)
  obtain ⟨bm, z, m1⟩ := B.1.2.1
  refine b_Mo_budget_41 (d := d + 4) ⟨_, m1⟩ ?_
  refine s_cnt B.1 fun h2 K2 H2 => ?_
  have B2 := B.pile K2 H2
  obtain ⟨bm, z, m1⟩ := H2.2.1
  refine b_Mo_budget_48 (d := d + 4) ⟨_, m1⟩ ?_
  rw [hr.1]
  have hs := H2.sum
  refine (s_budgetsOf (d := d) B2 H2.wOk (by omega) (by omega) (fun j q => ct_N q) fun h3 K3 B3 C3 => ?_).room (by omega) (Nat.le_refl _) (Nat.le_refl _)
  obtain ⟨g, mg, vg⟩ := C3
  obtain ⟨bm, z, m1⟩ := B3.1.2.1
  have K := ((K1.wide (lo' := 102) (hi' := 126) (by omega) (by omega)).trans (K2.wide (by omega) (by omega))).trans (K3.wide (by omega) (by omega))
  refine b_Mo_budget_51 (d := d + 4) (j16 := vN p) m1 mg (by rw [hp.1, vN_nI (by omega)]; exact ixn (by omega) (by omega)) m1 ?_
  rw [vg _ hp.2]
  exact B3.1.fin K m1 hR (by rw [e]; rfl)
end S59
