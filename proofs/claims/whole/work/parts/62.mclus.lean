/-! the model's clusters, parts of it -/
theorem b_Mo_leastIn_0 {G : ev_G} {d k n : Nat} {h : ev_H} {R : Option Value → ev_H → Prop} {x0 : Int64}
  (k1 : Ev G (d + 1) k n M_Mo_leastIn 2 [.long x0, ev_unk, .int (0 : Int32)] [] h R)
  : Ev G (d + 1) k n M_Mo_leastIn 0 [.long x0, ev_unk, ev_unk] [] h R :=
  Ev.go (pc' := 2) (ls' := [.long x0, ev_unk, .int (0 : Int32)]) (st' := []) [.iconst 0, .istore_n 2] (by decide +kernel) rfl <|
  k1
theorem b_Mo_leastIn_2 {G : ev_G} {d k n : Nat} {h : ev_H} {R : Option Value → ev_H → Prop} {x0 : Int64} {x2 : Int32}
  (k1 : (b2i (tbL x0 x2)) = (0 : Int32) → Ev G (d + 1) k n M_Mo_leastIn 2 [.long x0, ev_unk, .int (x2 + (1 : Int32))] [] h R)
  (k2 : ¬ (b2i (tbL x0 x2)) = (0 : Int32) → R (some (.int x2)) h)
  : Ev G (d + 1) k n M_Mo_leastIn 2 [.long x0, ev_unk, .int x2] [] h R :=
  Ev.go (pc' := 4) (ls' := [.long x0, ev_unk, .int x2]) (st' := [.int x2, .long x0]) [.lload_n 0, .iload_n 2] (by decide +kernel) rfl <|
  Ev.cS0 (M' := M_Mo_has) (as := [.long x0, .int x2]) (rest := []) l_Mo_271 M_Mo_has_ok M_Mo_has_st (by decide +kernel) rfl rfl (Nat.le_of_ble_eq_true rfl) (Nat.le_of_ble_eq_true rfl) (s_Mo_has <| show Ev G (d + 1) _ _ M_Mo_leastIn 7 [.long x0, ev_unk, .int x2] [.int (b2i (tbL x0 x2))] h R from
    Ev.br (i := .ifCond .ne (9)) (P := (b2i (tbL x0 x2)) = (0 : Int32)) (t := 10) (f := 16) (r := []) (by decide +kernel) rfl (fun c1 =>
      Ev.go (pc' := 2) (ls' := [.long x0, ev_unk, .int (x2 + (1 : Int32))]) (st' := []) [.iinc 2 (1), .goto (-11)] (by decide +kernel) rfl <|
      (k1 c1)
    ) (fun c1 =>
      Ev.go (pc' := 17) (ls' := [.long x0, ev_unk, .int x2]) (st' := [.int x2]) [.iload_n 2] (by decide +kernel) rfl <|
      Ev.ret (r := (some (.int x2))) (Or.inl ⟨_, rfl, by decide +kernel, _, rfl, rfl⟩) (k2 c1)
    )
  )
theorem b_Mo_middle_0 {G : ev_G} {d k n : Nat} {h : ev_H} {R : Option Value → ev_H → Prop} {x1 : Int64}
  (k1 : Ev G (d + 2) k n M_Mo_middle 8 [.ref 102, .long x1, ev_unk, .int (-1 : Int32), .int (0 : Int32), .int (0 : Int32), ev_unk, ev_unk] [] h R)
  : Ev G (d + 2) k n M_Mo_middle 0 [.ref 102, .long x1, ev_unk, ev_unk, ev_unk, ev_unk, ev_unk, ev_unk] [] h R :=
  Ev.go (pc' := 8) (ls' := [.ref 102, .long x1, ev_unk, .int (-1 : Int32), .int (0 : Int32), .int (0 : Int32), ev_unk, ev_unk]) (st' := []) [.iconst (-1), .istore_n 3, .iconst 0, .istore 4, .iconst 0, .istore 5] (by decide +kernel) rfl <|
  k1
theorem b_Mo_middle_8 {G : ev_G} {d k n : Nat} {h : ev_H} {R : Option Value → ev_H → Prop} {x1 : Int64} {x3 : Int32} {x4 : Int32} {x5 : Int32} {S1 : AS}
  (pr1 : MS h S1)
  (r2 : ∃ fs, hat h 102 (oC 9 fs))
  (k1 : x5 < (nI (sN S1)) → Ev G (d + 2) k n M_Mo_middle 23 [.ref 102, .long x1, ev_unk, .int x3, .int x4, .int x5, .int (0 : Int32), .int (0 : Int32)] [] h R)
  (k2 : ¬ x5 < (nI (sN S1)) → R (some (.int x3)) h)
  : Ev G (d + 2) k n M_Mo_middle 8 [.ref 102, .long x1, ev_unk, .int x3, .int x4, .int x5, ev_unk, ev_unk] [] h R :=
  Ev.go (pc' := 11) (ls' := [.ref 102, .long x1, ev_unk, .int x3, .int x4, .int x5, ev_unk, ev_unk]) (st' := [.ref 102, .int x5]) [.iload 5, .aload_n 0] (by decide +kernel) rfl <|
  Ev.cV0 (M' := M_Mo_many_0) (as := []) (rest := [.int x5]) l_Mo_71 M_Mo_many_0_ok M_Mo_many_0_in M_Mo_many_0_se (by decide +kernel) r2 rfl rfl rfl (Nat.le_of_ble_eq_true rfl) (Nat.le_of_ble_eq_true rfl) (s_Mo_many_0 pr1 <| show Ev G (d + 2) _ _ M_Mo_middle 14 [.ref 102, .long x1, ev_unk, .int x3, .int x4, .int x5, ev_unk, ev_unk] [.int (nI (sN S1)), .int x5] h R from
    Ev.br (i := .if_icmp .ge (95)) (P := x5 < (nI (sN S1))) (t := 17) (f := 109) (r := []) (by decide +kernel) rfl (fun c1 =>
      Ev.go (pc' := 23) (ls' := [.ref 102, .long x1, ev_unk, .int x3, .int x4, .int x5, .int (0 : Int32), .int (0 : Int32)]) (st' := []) [.iconst 0, .istore 6, .iconst 0, .istore 7] (by decide +kernel) rfl <|
      (k1 c1)
    ) (fun c1 =>
      Ev.go (pc' := 110) (ls' := [.ref 102, .long x1, ev_unk, .int x3, .int x4, .int x5, ev_unk, ev_unk]) (st' := [.int x3]) [.iload_n 3] (by decide +kernel) rfl <|
      Ev.ret (r := (some (.int x3))) (Or.inl ⟨_, rfl, by decide +kernel, _, rfl, rfl⟩) (k2 c1)
    )
  )
theorem b_Mo_middle_23 {G : ev_G} {d k n : Nat} {h : ev_H} {R : Option Value → ev_H → Prop} {x1 : Int64} {x3 : Int32} {x4 : Int32} {x5 : Int32} {x6 : Int32} {x7 : Int32} {S1 : AS} {S2 : AS} {c_3 : Nat} {S4 : AS} {c_5 : Nat}
  (pr1 : MS h S1)
  (r2 : ∃ fs, hat h 102 (oC 9 fs))
  (pr3 : x7 < (nI (sN S1)) → ¬ (b2i (tbL x1 x7)) = (0 : Int32) → MS h S2)
  (pr4 : x7 < (nI (sN S1)) → ¬ (b2i (tbL x1 x7)) = (0 : Int32) → sOk S2)
  (pr5 : x7 < (nI (sN S1)) → ¬ (b2i (tbL x1 x7)) = (0 : Int32) → x5 = nI c_3 ∧ c_3 < sN S2)
  (r6 : x7 < (nI (sN S1)) → ¬ (b2i (tbL x1 x7)) = (0 : Int32) → ∃ fs, hat h 102 (oC 9 fs))
  (pr7 : x7 < (nI (sN S1)) → ¬ (b2i (tbL x1 x7)) = (0 : Int32) → MS h S4)
  (pr8 : x7 < (nI (sN S1)) → ¬ (b2i (tbL x1 x7)) = (0 : Int32) → sOk S4)
  (pr9 : x7 < (nI (sN S1)) → ¬ (b2i (tbL x1 x7)) = (0 : Int32) → x7 = nI c_5 ∧ c_5 < sN S4)
  (k1 : x7 < (nI (sN S1)) → (b2i (tbL x1 x7)) = (0 : Int32) → Ev G (d + 2) k n M_Mo_middle 23 [.ref 102, .long x1, ev_unk, .int x3, .int x4, .int x5, .int (x6 + (0 : Int32)), .int (x7 + (1 : Int32))] [] h R)
  (k2 : x7 < (nI (sN S1)) → ¬ (b2i (tbL x1 x7)) = (0 : Int32) → Ev G (d + 2) k n M_Mo_middle 23 [.ref 102, .long x1, ev_unk, .int x3, .int x4, .int x5, .int (x6 + (nI (pop ((sCo S2 c_3) ^^^ (sCo S4 c_5))))), .int (x7 + (1 : Int32))] [] h R)
  (k3 : ¬ x7 < (nI (sN S1)) → (b2i (tbL x1 x5)) = (0 : Int32) → Ev G (d + 2) k n M_Mo_middle 8 [.ref 102, .long x1, ev_unk, .int x3, .int x4, .int (x5 + (1 : Int32)), ev_unk, ev_unk] [] h R)
  (k4 : ¬ x7 < (nI (sN S1)) → ¬ (b2i (tbL x1 x5)) = (0 : Int32) → x3 = (-1 : Int32) → Ev G (d + 2) k n M_Mo_middle 8 [.ref 102, .long x1, ev_unk, .int x5, .int x6, .int (x5 + (1 : Int32)), ev_unk, ev_unk] [] h R)
  (k5 : ¬ x7 < (nI (sN S1)) → ¬ (b2i (tbL x1 x5)) = (0 : Int32) → ¬ x3 = (-1 : Int32) → x6 < x4 → Ev G (d + 2) k n M_Mo_middle 8 [.ref 102, .long x1, ev_unk, .int x5, .int x6, .int (x5 + (1 : Int32)), ev_unk, ev_unk] [] h R)
  (k6 : ¬ x7 < (nI (sN S1)) → ¬ (b2i (tbL x1 x5)) = (0 : Int32) → ¬ x3 = (-1 : Int32) → ¬ x6 < x4 → Ev G (d + 2) k n M_Mo_middle 8 [.ref 102, .long x1, ev_unk, .int x3, .int x4, .int (x5 + (1 : Int32)), ev_unk, ev_unk] [] h R)
  : Ev G (d + 2) k n M_Mo_middle 23 [.ref 102, .long x1, ev_unk, .int x3, .int x4, .int x5, .int x6, .int x7] [] h R :=
  Ev.go (pc' := 26) (ls' := [.ref 102, .long x1, ev_unk, .int x3, .int x4, .int x5, .int x6, .int x7]) (st' := [.ref 102, .int x7]) [.iload 7, .aload_n 0] (by decide +kernel) rfl <|
  Ev.cV0 (M' := M_Mo_many_0) (as := []) (rest := [.int x7]) l_Mo_71 M_Mo_many_0_ok M_Mo_many_0_in M_Mo_many_0_se (by decide +kernel) r2 rfl rfl rfl (Nat.le_of_ble_eq_true rfl) (Nat.le_of_ble_eq_true rfl) (s_Mo_many_0 pr1 <| show Ev G (d + 2) _ _ M_Mo_middle 29 [.ref 102, .long x1, ev_unk, .int x3, .int x4, .int x5, .int x6, .int x7] [.int (nI (sN S1)), .int x7] h R from
    Ev.br (i := .if_icmp .ge (43)) (P := x7 < (nI (sN S1))) (t := 32) (f := 72) (r := []) (by decide +kernel) rfl (fun c1 =>
      Ev.go (pc' := 37) (ls' := [.ref 102, .long x1, ev_unk, .int x3, .int x4, .int x5, .int x6, .int x7]) (st' := [.int x7, .long x1, .int x6]) [.iload 6, .lload_n 1, .iload 7] (by decide +kernel) rfl <|
      Ev.cS0 (M' := M_Mo_has) (as := [.long x1, .int x7]) (rest := [.int x6]) l_Mo_271 M_Mo_has_ok M_Mo_has_st (by decide +kernel) rfl rfl (Nat.le_of_ble_eq_true rfl) (Nat.le_of_ble_eq_true rfl) (s_Mo_has <| show Ev G (d + 2) _ _ M_Mo_middle 40 [.ref 102, .long x1, ev_unk, .int x3, .int x4, .int x5, .int x6, .int x7] [.int (b2i (tbL x1 x7)), .int x6] h R from
        Ev.br (i := .ifCond .eq (22)) (P := (b2i (tbL x1 x7)) = (0 : Int32)) (t := 62) (f := 43) (r := [.int x6]) (by decide +kernel) rfl (fun c2 =>
          Ev.go (pc' := 23) (ls' := [.ref 102, .long x1, ev_unk, .int x3, .int x4, .int x5, .int (x6 + (0 : Int32)), .int (x7 + (1 : Int32))]) (st' := []) [.iconst 0, .iadd, .istore 6, .iinc 7 (1), .goto (-46)] (by decide +kernel) rfl <|
          (k1 c1 c2)
        ) (fun c2 =>
          Ev.go (pc' := 46) (ls' := [.ref 102, .long x1, ev_unk, .int x3, .int x4, .int x5, .int x6, .int x7]) (st' := [.int x5, .ref 102, .int x6]) [.aload_n 0, .iload 5] (by decide +kernel) rfl <|
          Ev.cV0 (M' := M_Mo_codeOf) (as := [.int x5]) (rest := [.int x6]) l_Mo_85 M_Mo_codeOf_ok M_Mo_codeOf_in M_Mo_codeOf_se (by decide +kernel) (r6 c1 c2) rfl rfl rfl (Nat.le_of_ble_eq_true rfl) (Nat.le_of_ble_eq_true rfl) (s_Mo_codeOf (pr3 c1 c2) (pr4 c1 c2) (pr5 c1 c2) <| show Ev G (d + 2) _ _ M_Mo_middle 49 [.ref 102, .long x1, ev_unk, .int x3, .int x4, .int x5, .int x6, .int x7] [.long (sCo S2 c_3), .int x6] h R from
            Ev.go (pc' := 52) (ls' := [.ref 102, .long x1, ev_unk, .int x3, .int x4, .int x5, .int x6, .int x7]) (st' := [.int x7, .ref 102, .long (sCo S2 c_3), .int x6]) [.aload_n 0, .iload 7] (by decide +kernel) rfl <|
            Ev.cV0 (M' := M_Mo_codeOf) (as := [.int x7]) (rest := [.long (sCo S2 c_3), .int x6]) l_Mo_85 M_Mo_codeOf_ok M_Mo_codeOf_in M_Mo_codeOf_se (by decide +kernel) (r6 c1 c2) rfl rfl rfl (Nat.le_of_ble_eq_true rfl) (Nat.le_of_ble_eq_true rfl) (s_Mo_codeOf (pr7 c1 c2) (pr8 c1 c2) (pr9 c1 c2) <| show Ev G (d + 2) _ _ M_Mo_middle 55 [.ref 102, .long x1, ev_unk, .int x3, .int x4, .int x5, .int x6, .int x7] [.long (sCo S4 c_5), .long (sCo S2 c_3), .int x6] h R from
              Ev.go (pc' := 56) (ls' := [.ref 102, .long x1, ev_unk, .int x3, .int x4, .int x5, .int x6, .int x7]) (st' := [.long ((sCo S2 c_3) ^^^ (sCo S4 c_5)), .int x6]) [.lxor] (by decide +kernel) rfl <|
              Ev.cS0 (M' := M_Mo_ones_J) (as := [.long ((sCo S2 c_3) ^^^ (sCo S4 c_5))]) (rest := [.int x6]) l_Mo_88 M_Mo_ones_J_ok M_Mo_ones_J_st (by decide +kernel) rfl rfl (Nat.le_of_ble_eq_true rfl) (Nat.le_of_ble_eq_true rfl) (s_Mo_ones_J <| show Ev G (d + 2) _ _ M_Mo_middle 59 [.ref 102, .long x1, ev_unk, .int x3, .int x4, .int x5, .int x6, .int x7] [.int (nI (pop ((sCo S2 c_3) ^^^ (sCo S4 c_5)))), .int x6] h R from
                Ev.go (pc' := 23) (ls' := [.ref 102, .long x1, ev_unk, .int x3, .int x4, .int x5, .int (x6 + (nI (pop ((sCo S2 c_3) ^^^ (sCo S4 c_5))))), .int (x7 + (1 : Int32))]) (st' := []) [.goto (4), .iadd, .istore 6, .iinc 7 (1), .goto (-46)] (by decide +kernel) rfl <|
                (k2 c1 c2)
              )
            )
          )
        )
      )
    ) (fun c1 =>
      Ev.go (pc' := 75) (ls' := [.ref 102, .long x1, ev_unk, .int x3, .int x4, .int x5, .int x6, .int x7]) (st' := [.int x5, .long x1]) [.lload_n 1, .iload 5] (by decide +kernel) rfl <|
      Ev.cS0 (M' := M_Mo_has) (as := [.long x1, .int x5]) (rest := []) l_Mo_271 M_Mo_has_ok M_Mo_has_st (by decide +kernel) rfl rfl (Nat.le_of_ble_eq_true rfl) (Nat.le_of_ble_eq_true rfl) (s_Mo_has <| show Ev G (d + 2) _ _ M_Mo_middle 78 [.ref 102, .long x1, ev_unk, .int x3, .int x4, .int x5, .int x6, .int x7] [.int (b2i (tbL x1 x5))] h R from
        Ev.br (i := .ifCond .eq (25)) (P := (b2i (tbL x1 x5)) = (0 : Int32)) (t := 103) (f := 81) (r := []) (by decide +kernel) rfl (fun c2 =>
          Ev.go (pc' := 8) (ls' := [.ref 102, .long x1, ev_unk, .int x3, .int x4, .int (x5 + (1 : Int32)), .int x6, .int x7]) (st' := []) [.iinc 5 (1), .goto (-98)] (by decide +kernel) rfl <|
          Ev.forget (ls' := [.ref 102, .long x1, ev_unk, .int x3, .int x4, .int (x5 + (1 : Int32)), ev_unk, ev_unk]) ⟨Or.inr rfl, Or.inr rfl, Or.inr rfl, Or.inr rfl, Or.inr rfl, Or.inr rfl, Or.inl rfl, Or.inl rfl, trivial⟩ <|
          (k3 c1 c2)
        ) (fun c2 =>
          Ev.go (pc' := 83) (ls' := [.ref 102, .long x1, ev_unk, .int x3, .int x4, .int x5, .int x6, .int x7]) (st' := [.int (-1 : Int32), .int x3]) [.iload_n 3, .iconst (-1)] (by decide +kernel) rfl <|
          Ev.br (i := .if_icmp .eq (13)) (P := x3 = (-1 : Int32)) (t := 96) (f := 86) (r := []) (by decide +kernel) rfl (fun c3 =>
            Ev.go (pc' := 8) (ls' := [.ref 102, .long x1, ev_unk, .int x5, .int x6, .int (x5 + (1 : Int32)), .int x6, .int x7]) (st' := []) [.iload 5, .istore_n 3, .iload 6, .istore 4, .iinc 5 (1), .goto (-98)] (by decide +kernel) rfl <|
            Ev.forget (ls' := [.ref 102, .long x1, ev_unk, .int x5, .int x6, .int (x5 + (1 : Int32)), ev_unk, ev_unk]) ⟨Or.inr rfl, Or.inr rfl, Or.inr rfl, Or.inr rfl, Or.inr rfl, Or.inr rfl, Or.inl rfl, Or.inl rfl, trivial⟩ <|
            (k4 c1 c2 c3)
          ) (fun c3 =>
            Ev.go (pc' := 90) (ls' := [.ref 102, .long x1, ev_unk, .int x3, .int x4, .int x5, .int x6, .int x7]) (st' := [.int x4, .int x6]) [.iload 6, .iload 4] (by decide +kernel) rfl <|
            Ev.br (i := .if_icmp .lt (6)) (P := x6 < x4) (t := 96) (f := 93) (r := []) (by decide +kernel) rfl (fun c4 =>
              Ev.go (pc' := 8) (ls' := [.ref 102, .long x1, ev_unk, .int x5, .int x6, .int (x5 + (1 : Int32)), .int x6, .int x7]) (st' := []) [.iload 5, .istore_n 3, .iload 6, .istore 4, .iinc 5 (1), .goto (-98)] (by decide +kernel) rfl <|
              Ev.forget (ls' := [.ref 102, .long x1, ev_unk, .int x5, .int x6, .int (x5 + (1 : Int32)), ev_unk, ev_unk]) ⟨Or.inr rfl, Or.inr rfl, Or.inr rfl, Or.inr rfl, Or.inr rfl, Or.inr rfl, Or.inl rfl, Or.inl rfl, trivial⟩ <|
              (k5 c1 c2 c3 c4)
            ) (fun c4 =>
              Ev.go (pc' := 8) (ls' := [.ref 102, .long x1, ev_unk, .int x3, .int x4, .int (x5 + (1 : Int32)), .int x6, .int x7]) (st' := []) [.goto (10), .iinc 5 (1), .goto (-98)] (by decide +kernel) rfl <|
              Ev.forget (ls' := [.ref 102, .long x1, ev_unk, .int x3, .int x4, .int (x5 + (1 : Int32)), ev_unk, ev_unk]) ⟨Or.inr rfl, Or.inr rfl, Or.inr rfl, Or.inr rfl, Or.inr rfl, Or.inr rfl, Or.inl rfl, Or.inl rfl, trivial⟩ <|
              (k6 c1 c2 c3 c4)
            )
          )
        )
      )
    )
  )
section S62
variable {G : ev_G} {d : Nat} {h : ev_H} {R : Option Value → ev_H → Prop}
theorem s_leastIn {p : Nat → Bool} {c : Nat} (hc : c < 32) (hp : p c = true) (hR : R (some (.int (nI (fst p 32)))) h) : Ev G (d + 1) 0 0 M_Mo_leastIn 0 [.long (setL p), ev_unk, ev_unk] [] h R := by
  have lt : fst p 32 ≤ c := Nat.le_of_not_lt fun z => by rw [fst_no p 32 c z] at hp; exact absurd hp (by decide)
  have yes := fst_yes p 32 (by omega)
  have tb : ∀ i, i < 32 → tbL (setL p) (nI i) = p i := fun i hi => by rw [tbL_n (by omega), lt_setL, decide_eq_true hi, Bool.true_and]
  refine b_Mo_leastIn_0 ?_
  refine up_to (P := fun i => Ev G (d + 1) 0 0 M_Mo_leastIn 2 [.long (setL p), ev_unk, .int (nI i)] [] h R) (N := fst p 32) ?_ ?_ 0 (Nat.zero_le _)
  · intro i hi ih
    refine b_Mo_leastIn_2 (fun _ => ?_) (fun k => ?_)
    · rw [nI_1]; exact ih
    · rw [tb i (by omega), fst_no p 32 i hi] at k
      exact absurd rfl k
  · refine b_Mo_leastIn_2 (fun k => ?_) (fun _ => hR)
    rw [tb _ (by omega), yes] at k
    exact absurd k (by decide)
end S62
