/-! the model's middle of a cluster -/
theorem b_Mo_middle_0 {G : ev_G} {d k n : Nat} {h : ev_H} {R : Option Value → ev_H → Prop} {x1 : Int64}
  (k1 : Ev G (d + 2) k n M_Mo_middle 8 [.ref 102, .long x1, ev_unk, .int (-1 : Int32), .int (0 : Int32), .int (0 : Int32), ev_unk, ev_unk] [] h R)
  : Ev G (d + 2) k n M_Mo_middle 0 [.ref 102, .long x1, ev_unk, ev_unk, ev_unk, ev_unk, ev_unk, ev_unk] [] h R :=
  Ev.go (pc' := 8) (ls' := [.ref 102, .long x1, ev_unk, .int (-1 : Int32), .int (0 : Int32), .int (0 : Int32), ev_unk, ev_unk]) (st' := []) [.iconst (-1), .istore_n 3, .iconst 0, .istore 4, .iconst 0, .istore 5] (by decide +kernel) rfl <|
  k1
theorem b_Mo_middle_8 {G : ev_G} {d k n : Nat} {h : ev_H} {R : Option Value → ev_H → Prop} {x1 : Int64} {x3 : Int32} {x4 : Int32} {x5 : Int32} {S1 : AS}
  (pr1 : MS h S1)
  (r2 : ∃ fs, hat h 102 (oC 9 fs))
  (k1 : x5 < (nI (sN S1)) → Ev G (d + 2) k n M_Mo_middle 23 [.ref 102, .long x1, ev_unk, .int x3, .int x4, .int x5, .int (0 : Int32), .int (0 : Int32)] [] h R)
  (k2 : ¬ x5 < (nI (sN S1)) → R (some (.int x3)) h)
  : Ev G (d + 2) k n M_Mo_middle 8 [.ref 102, .long x1, ev_unk, .int x3, .int x4, .int x5, ev_unk, ev_unk] [] h R :=
  Ev.go (pc' := 11) (ls' := [.ref 102, .long x1, ev_unk, .int x3, .int x4, .int x5, ev_unk, ev_unk]) (st' := [.ref 102, .int x5]) [.iload 5, .aload_n 0] (by decide +kernel) rfl <|
  Ev.cV0 (M' := M_Mo_many_0) (as := []) (rest := [.int x5]) l_Mo_71 M_Mo_many_0_ok M_Mo_many_0_in M_Mo_many_0_se (by decide +kernel) r2 rfl rfl rfl (Nat.le_of_ble_eq_true rfl) (Nat.le_of_ble_eq_true rfl) (s_Mo_many_0 pr1 <| show Ev G (d + 2) _ _ M_Mo_middle 14 [.ref 102, .long x1, ev_unk, .int x3, .int x4, .int x5, ev_unk, ev_unk] [.int (nI (sN S1)), .int x5] h R from
    Ev.br (i := .if_icmp .ge (95)) (P := x5 < (nI (sN S1))) (t := 17) (f := 109) (r := []) (by decide +kernel) rfl (fun c1 =>
      Ev.go (pc' := 23) (ls' := [.ref 102, .long x1, ev_unk, .int x3, .int x4, .int x5, .int (0 : Int32), .int (0 : Int32)]) (st' := []) [.iconst 0, .istore 6, .iconst 0, .istore 7] (by decide +kernel) rfl <|
      (k1 c1)
    ) (fun c1 =>
      Ev.go (pc' := 110) (ls' := [.ref 102, .long x1, ev_unk, .int x3, .int x4, .int x5, ev_unk, ev_unk]) (st' := [.int x3]) [.iload_n 3] (by decide +kernel) rfl <|
      Ev.ret (r := (some (.int x3))) (Or.inl ⟨_, rfl, by decide +kernel, _, rfl, rfl⟩) (k2 c1)
    )
  )
theorem b_Mo_middle_23 {G : ev_G} {d k n : Nat} {h : ev_H} {R : Option Value → ev_H → Prop} {x1 : Int64} {x3 : Int32} {x4 : Int32} {x5 : Int32} {x6 : Int32} {x7 : Int32} {S1 : AS} {S2 : AS} {c_3 : Nat} {S4 : AS} {c_5 : Nat}
  (pr1 : MS h S1)
  (r2 : ∃ fs, hat h 102 (oC 9 fs))
  (pr3 : x7 < (nI (sN S1)) → ¬ (b2i (tbL x1 x7)) = (0 : Int32) → MS h S2)
  (pr4 : x7 < (nI (sN S1)) → ¬ (b2i (tbL x1 x7)) = (0 : Int32) → sOk S2)
  (pr5 : x7 < (nI (sN S1)) → ¬ (b2i (tbL x1 x7)) = (0 : Int32) → x5 = nI c_3 ∧ c_3 < sN S2)
  (r6 : x7 < (nI (sN S1)) → ¬ (b2i (tbL x1 x7)) = (0 : Int32) → ∃ fs, hat h 102 (oC 9 fs))
  (pr7 : x7 < (nI (sN S1)) → ¬ (b2i (tbL x1 x7)) = (0 : Int32) → MS h S4)
  (pr8 : x7 < (nI (sN S1)) → ¬ (b2i (tbL x1 x7)) = (0 : Int32) → sOk S4)
  (pr9 : x7 < (nI (sN S1)) → ¬ (b2i (tbL x1 x7)) = (0 : Int32) → x7 = nI c_5 ∧ c_5 < sN S4)
  (k1 : x7 < (nI (sN S1)) → (b2i (tbL x1 x7)) = (0 : Int32) → Ev G (d + 2) k n M_Mo_middle 23 [.ref 102, .long x1, ev_unk, .int x3, .int x4, .int x5, .int (x6 + (0 : Int32)), .int (x7 + (1 : Int32))] [] h R)
  (k2 : x7 < (nI (sN S1)) → ¬ (b2i (tbL x1 x7)) = (0 : Int32) → Ev G (d + 2) k n M_Mo_middle 23 [.ref 102, .long x1, ev_unk, .int x3, .int x4, .int x5, .int (x6 + (nI (pop ((sCo S2 c_3) ^^^ (sCo S4 c_5))))), .int (x7 + (1 : Int32))] [] h R)
  (k3 : ¬ x7 < (nI (sN S1)) → (b2i (tbL x1 x5)) = (0 : Int32) → Ev G (d + 2) k n M_Mo_middle 8 [.ref 102, .long x1, ev_unk, .int x3, .int x4, .int (x5 + (1 : Int32)), ev_unk, ev_unk] [] h R)
  (k4 : ¬ x7 < (nI (sN S1)) → ¬ (b2i (tbL x1 x5)) = (0 : Int32) → x3 = (-1 : Int32) → Ev G (d + 2) k n M_Mo_middle 8 [.ref 102, .long x1, ev_unk, .int x5, .int x6, .int (x5 + (1 : Int32)), ev_unk, ev_unk] [] h R)
  (k5 : ¬ x7 < (nI (sN S1)) → ¬ (b2i (tbL x1 x5)) = (0 : Int32) → ¬ x3 = (-1 : Int32) → x6 < x4 → Ev G (d + 2) k n M_Mo_middle 8 [.ref 102, .long x1, ev_unk, .int x5, .int x6, .int (x5 + (1 : Int32)), ev_unk, ev_unk] [] h R)
  (k6 : ¬ x7 < (nI (sN S1)) → ¬ (b2i (tbL x1 x5)) = (0 : Int32) → ¬ x3 = (-1 : Int32) → ¬ x6 < x4 → Ev G (d + 2) k n M_Mo_middle 8 [.ref 102, .long x1, ev_unk, .int x3, .int x4, .int (x5 + (1 : Int32)), ev_unk, ev_unk] [] h R)
  : Ev G (d + 2) k n M_Mo_middle 23 [.ref 102, .long x1, ev_unk, .int x3, .int x4, .int x5, .int x6, .int x7] [] h R :=
  Ev.go (pc' := 26) (ls' := [.ref 102, .long x1, ev_unk, .int x3, .int x4, .int x5, .int x6, .int x7]) (st' := [.ref 102, .int x7]) [.iload 7, .aload_n 0] (by decide +kernel) rfl <|
  Ev.cV0 (M' := M_Mo_many_0) (as := []) (rest := [.int x7]) l_Mo_71 M_Mo_many_0_ok M_Mo_many_0_in M_Mo_many_0_se (by decide +kernel) r2 rfl rfl rfl (Nat.le_of_ble_eq_true rfl) (Nat.le_of_ble_eq_true rfl) (s_Mo_many_0 pr1 <| show Ev G (d + 2) _ _ M_Mo_middle 29 [.ref 102, .long x1, ev_unk, .int x3, .int x4, .int x5, .int x6, .int x7] [.int (nI (sN S1)), .int x7] h R from
    Ev.br (i := .if_icmp .ge (43)) (P := x7 < (nI (sN S1))) (t := 32) (f := 72) (r := []) (by decide +kernel) rfl (fun c1 =>
      Ev.go (pc' := 37) (ls' := [.ref 102, .long x1, ev_unk, .int x3, .int x4, .int x5, .int x6, .int x7]) (st' := [.int x7, .long x1, .int x6]) [.iload 6, .lload_n 1, .iload 7] (by decide +kernel) rfl <|
      Ev.cS0 (M' := M_Mo_has) (as := [.long x1, .int x7]) (rest := [.int x6]) l_Mo_271 M_Mo_has_ok M_Mo_has_st (by decide +kernel) rfl rfl (Nat.le_of_ble_eq_true rfl) (Nat.le_of_ble_eq_true rfl) (s_Mo_has <| show Ev G (d + 2) _ _ M_Mo_middle 40 [.ref 102, .long x1, ev_unk, .int x3, .int x4, .int x5, .int x6, .int x7] [.int (b2i (tbL x1 x7)), .int x6] h R from
        Ev.br (i := .ifCond .eq (22)) (P := (b2i (tbL x1 x7)) = (0 : Int32)) (t := 62) (f := 43) (r := [.int x6]) (by decide +kernel) rfl (fun c2 =>
          Ev.go (pc' := 23) (ls' := [.ref 102, .long x1, ev_unk, .int x3, .int x4, .int x5, .int (x6 + (0 : Int32)), .int (x7 + (1 : Int32))]) (st' := []) [.iconst 0, .iadd, .istore 6, .iinc 7 (1), .goto (-46)] (by decide +kernel) rfl <|
          (k1 c1 c2)
        ) (fun c2 =>
          Ev.go (pc' := 46) (ls' := [.ref 102, .long x1, ev_unk, .int x3, .int x4, .int x5, .int x6, .int x7]) (st' := [.int x5, .ref 102, .int x6]) [.aload_n 0, .iload 5] (by decide +kernel) rfl <|
          Ev.cV0 (M' := M_Mo_codeOf) (as := [.int x5]) (rest := [.int x6]) l_Mo_85 M_Mo_codeOf_ok M_Mo_codeOf_in M_Mo_codeOf_se (by decide +kernel) (r6 c1 c2) rfl rfl rfl (Nat.le_of_ble_eq_true rfl) (Nat.le_of_ble_eq_true rfl) (s_Mo_codeOf (pr3 c1 c2) (pr4 c1 c2) (pr5 c1 c2) <| show Ev G (d + 2) _ _ M_Mo_middle 49 [.ref 102, .long x1, ev_unk, .int x3, .int x4, .int x5, .int x6, .int x7] [.long (sCo S2 c_3), .int x6] h R from
            Ev.go (pc' := 52) (ls' := [.ref 102, .long x1, ev_unk, .int x3, .int x4, .int x5, .int x6, .int x7]) (st' := [.int x7, .ref 102, .long (sCo S2 c_3), .int x6]) [.aload_n 0, .iload 7] (by decide +kernel) rfl <|
            Ev.cV0 (M' := M_Mo_codeOf) (as := [.int x7]) (rest := [.long (sCo S2 c_3), .int x6]) l_Mo_85 M_Mo_codeOf_ok M_Mo_codeOf_in M_Mo_codeOf_se (by decide +kernel) (r6 c1 c2) rfl rfl rfl (Nat.le_of_ble_eq_true rfl) (Nat.le_of_ble_eq_true rfl) (s_Mo_codeOf (pr7 c1 c2) (pr8 c1 c2) (pr9 c1 c2) <| show Ev G (d + 2) _ _ M_Mo_middle 55 [.ref 102, .long x1, ev_unk, .int x3, .int x4, .int x5, .int x6, .int x7] [.long (sCo S4 c_5), .long (sCo S2 c_3), .int x6] h R from
              Ev.go (pc' := 56) (ls' := [.ref 102, .long x1, ev_unk, .int x3, .int x4, .int x5, .int x6, .int x7]) (st' := [.long ((sCo S2 c_3) ^^^ (sCo S4 c_5)), .int x6]) [.lxor] (by decide +kernel) rfl <|
              Ev.cS0 (M' := M_Mo_ones_J) (as := [.long ((sCo S2 c_3) ^^^ (sCo S4 c_5))]) (rest := [.int x6]) l_Mo_88 M_Mo_ones_J_ok M_Mo_ones_J_st (by decide +kernel) rfl rfl (Nat.le_of_ble_eq_true rfl) (Nat.le_of_ble_eq_true rfl) (s_Mo_ones_J <| show Ev G (d + 2) _ _ M_Mo_middle 59 [.ref 102, .long x1, ev_unk, .int x3, .int x4, .int x5, .int x6, .int x7] [.int (nI (pop ((sCo S2 c_3) ^^^ (sCo S4 c_5)))), .int x6] h R from
                Ev.go (pc' := 23) (ls' := [.ref 102, .long x1, ev_unk, .int x3, .int x4, .int x5, .int (x6 + (nI (pop ((sCo S2 c_3) ^^^ (sCo S4 c_5))))), .int (x7 + (1 : Int32))]) (st' := []) [.goto (4), .iadd, .istore 6, .iinc 7 (1), .goto (-46)] (by decide +kernel) rfl <|
                (k2 c1 c2)
              )
            )
          )
        )
      )
    ) (fun c1 =>
      Ev.go (pc' := 75) (ls' := [.ref 102, .long x1, ev_unk, .int x3, .int x4, .int x5, .int x6, .int x7]) (st' := [.int x5, .long x1]) [.lload_n 1, .iload 5] (by decide +kernel) rfl <|
      Ev.cS0 (M' := M_Mo_has) (as := [.long x1, .int x5]) (rest := []) l_Mo_271 M_Mo_has_ok M_Mo_has_st (by decide +kernel) rfl rfl (Nat.le_of_ble_eq_true rfl) (Nat.le_of_ble_eq_true rfl) (s_Mo_has <| show Ev G (d + 2) _ _ M_Mo_middle 78 [.ref 102, .long x1, ev_unk, .int x3, .int x4, .int x5, .int x6, .int x7] [.int (b2i (tbL x1 x5))] h R from
        Ev.br (i := .ifCond .eq (25)) (P := (b2i (tbL x1 x5)) = (0 : Int32)) (t := 103) (f := 81) (r := []) (by decide +kernel) rfl (fun c2 =>
          Ev.go (pc' := 8) (ls' := [.ref 102, .long x1, ev_unk, .int x3, .int x4, .int (x5 + (1 : Int32)), .int x6, .int x7]) (st' := []) [.iinc 5 (1), .goto (-98)] (by decide +kernel) rfl <|
          Ev.forget (ls' := [.ref 102, .long x1, ev_unk, .int x3, .int x4, .int (x5 + (1 : Int32)), ev_unk, ev_unk]) ⟨Or.inr rfl, Or.inr rfl, Or.inr rfl, Or.inr rfl, Or.inr rfl, Or.inr rfl, Or.inl rfl, Or.inl rfl, trivial⟩ <|
          (k3 c1 c2)
        ) (fun c2 =>
          Ev.go (pc' := 83) (ls' := [.ref 102, .long x1, ev_unk, .int x3, .int x4, .int x5, .int x6, .int x7]) (st' := [.int (-1 : Int32), .int x3]) [.iload_n 3, .iconst (-1)] (by decide +kernel) rfl <|
          Ev.br (i := .if_icmp .eq (13)) (P := x3 = (-1 : Int32)) (t := 96) (f := 86) (r := []) (by decide +kernel) rfl (fun c3 =>
            Ev.go (pc' := 8) (ls' := [.ref 102, .long x1, ev_unk, .int x5, .int x6, .int (x5 + (1 : Int32)), .int x6, .int x7]) (st' := []) [.iload 5, .istore_n 3, .iload 6, .istore 4, .iinc 5 (1), .goto (-98)] (by decide +kernel) rfl <|
            Ev.forget (ls' := [.ref 102, .long x1, ev_unk, .int x5, .int x6, .int (x5 + (1 : Int32)), ev_unk, ev_unk]) ⟨Or.inr rfl, Or.inr rfl, Or.inr rfl, Or.inr rfl, Or.inr rfl, Or.inr rfl, Or.inl rfl, Or.inl rfl, trivial⟩ <|
            (k4 c1 c2 c3)
          ) (fun c3 =>
            Ev.go (pc' := 90) (ls' := [.ref 102, .long x1, ev_unk, .int x3, .int x4, .int x5, .int x6, .int x7]) (st' := [.int x4, .int x6]) [.iload 6, .iload 4] (by decide +kernel) rfl <|
            Ev.br (i := .if_icmp .lt (6)) (P := x6 < x4) (t := 96) (f := 93) (r := []) (by decide +kernel) rfl (fun c4 =>
              Ev.go (pc' := 8) (ls' := [.ref 102, .long x1, ev_unk, .int x5, .int x6, .int (x5 + (1 : Int32)), .int x6, .int x7]) (st' := []) [.iload 5, .istore_n 3, .iload 6, .istore 4, .iinc 5 (1), .goto (-98)] (by decide +kernel) rfl <|
              Ev.forget (ls' := [.ref 102, .long x1, ev_unk, .int x5, .int x6, .int (x5 + (1 : Int32)), ev_unk, ev_unk]) ⟨Or.inr rfl, Or.inr rfl, Or.inr rfl, Or.inr rfl, Or.inr rfl, Or.inr rfl, Or.inl rfl, Or.inl rfl, trivial⟩ <|
              (k5 c1 c2 c3 c4)
            ) (fun c4 =>
              Ev.go (pc' := 8) (ls' := [.ref 102, .long x1, ev_unk, .int x3, .int x4, .int (x5 + (1 : Int32)), .int x6, .int x7]) (st' := []) [.goto (10), .iinc 5 (1), .goto (-98)] (by decide +kernel) rfl <|
              Ev.forget (ls' := [.ref 102, .long x1, ev_unk, .int x3, .int x4, .int (x5 + (1 : Int32)), ev_unk, ev_unk]) ⟨Or.inr rfl, Or.inr rfl, Or.inr rfl, Or.inr rfl, Or.inr rfl, Or.inr rfl, Or.inl rfl, Or.inl rfl, trivial⟩ <|
              (k6 c1 c2 c3 c4)
            )
          )
        )
      )
    )
  )
section S63
variable {G : ev_G} {d : Nat} {h : ev_H} {R : Option Value → ev_H → Prop} {S : AS}
def o4 (o : Option (Nat × Nat)) : Int32 := match o with
  | none => 0
  | some (_, v) => nI v
theorem s_Mo_middle {p : Nat → Bool} (H : MS h S) (ok : sOk S) (hp : ∀ j, p j = true → j < sN S) (hR : R (some (.int (oIx (mid S p)))) h) : Ev G (d + 2) 0 0 M_Mo_middle 0 [.ref 102, .long (setL p), ev_unk, ev_unk, ev_unk, ev_unk, ev_unk, ev_unk] [] h R := by
  have ⟨v, z, g, m1, m2, sl⟩ := H
  have n32 := ok.2.2.2.2.1
  have tb : ∀ i, i < sN S → tbL (setL p) (nI i) = p i := fun i hi => by rw [tbL_n (by omega), lt_setL, decide_eq_true (show i < 32 by omega), Bool.true_and]
  have em : mid S p = omin p (midS S p) (sN S) := omin_skip (by omega) fun t h1 h2 => by cases q : p t; rfl; exact absurd (hp t q) (by omega)
  rw [em] at hR
  have bd : ∀ i n, n ≤ 32 → sumT (fun j => if p j then pop (sCo S j ^^^ sCo S i) else 0) n ≤ n * 64 := fun i n hn => sumT_le fun k _ => by
    have := pop_le (sCo S k ^^^ sCo S i)
    split <;> omega
  refine b_Mo_middle_0 ?_
  refine up_to (P := fun i => Ev G (d + 2) 0 0 M_Mo_middle 8 [.ref 102, .long (setL p), ev_unk, .int (oIx (omin p (midS S p) i)), .int (o4 (omin p (midS S p) i)), .int (nI i), ev_unk, ev_unk] [] h R) (N := sN S) ?_ ?_ 0 (Nat.zero_le _)
  · intro i hi ih
    refine b_Mo_middle_8 H ⟨_, m1⟩ (fun _ => ?_) (fun k => absurd (nI_lt hi (by omega)) k)
    refine up_to (P := fun e => Ev G (d + 2) 0 0 M_Mo_middle 23 [.ref 102, .long (setL p), ev_unk, .int (oIx (omin p (midS S p) i)), .int (o4 (omin p (midS S p) i)), .int (nI i), .int (nI (sumT (fun j => if p j then pop (sCo S j ^^^ sCo S i) else 0) e)), .int (nI e)] [] h R) (N := sN S) ?_ ?_ 0 (Nat.zero_le _)
    · intro e he ih2
      have f : sumT (fun j => if p j then pop (sCo S j ^^^ sCo S i) else 0) (e + 1) = sumT (fun j => if p j then pop (sCo S j ^^^ sCo S i) else 0) e + (if p e then pop (sCo S e ^^^ sCo S i) else 0) := rfl
      rw [f] at ih2
      have xc : sCo S i ^^^ sCo S e = sCo S e ^^^ sCo S i := l_ext fun j _ => by rw [l_xor, l_xor, Bool.xor_comm]
      refine b_Mo_middle_23 (c_3 := i) (c_5 := e) H ⟨_, m1⟩ (fun c1 c2 => H) (fun c1 c2 => ok) (fun c1 c2 => ⟨rfl, hi⟩) (fun c1 c2 => ⟨_, m1⟩) (fun c1 c2 => H) (fun c1 c2 => ok) (fun c1 c2 => ⟨rfl, he⟩) (fun c1 c2 => ?_) (fun c1 c2 => ?_) (fun c1 c2 => absurd (nI_lt he (by omega)) c1) (fun c1 c2 c3 => absurd (nI_lt he (by omega)) c1) (fun c1 c2 c3 c4 => absurd (nI_lt he (by omega)) c1) (fun c1 c2 c3 c4 => absurd (nI_lt he (by omega)) c1)
      · rw [tb e he] at c2
        rw [b2i_e0 c2] at ih2
        rw [show (0 : Int32) = nI 0 from rfl, nI_add, nI_1]; exact ih2
      · rw [tb e he] at c2
        rw [b2i_n0 c2] at ih2
        rw [xc, nI_add, nI_1]; exact ih2
    · have no := nl_self (n := sN S) (by omega)
      have ms : sumT (fun j => if p j then pop (sCo S j ^^^ sCo S i) else 0) (sN S) = midS S p i := rfl
      have b1 := bd i (sN S) n32
      rw [ms] at b1 ⊢
      have st : omin p (midS S p) (i + 1) = if p i then (match omin p (midS S p) i with
        | none => some (i, midS S p i)
        | some (b, l) => if midS S p i < l then some (i, midS S p i) else some (b, l)) else omin p (midS S p) i := rfl
      rw [st] at ih
      have at' : ∀ b l, omin p (midS S p) i = some (b, l) → b < i ∧ l ≤ 2048 := fun b l e => by
        obtain ⟨q1, q2, q3⟩ := omin_at e
        refine ⟨q1, ?_⟩
        have := bd b (sN S) n32
        rw [q3]; unfold midS; omega
      revert ih at'
      generalize omin p (midS S p) i = o
      intro ih at'
      refine b_Mo_middle_23 (c_3 := i) (c_5 := 0) H ⟨_, m1⟩ (fun c1 c2 => H) (fun c1 c2 => ok) (fun c1 c2 => ⟨rfl, hi⟩) (fun c1 c2 => ⟨_, m1⟩) (fun c1 c2 => H) (fun c1 c2 => ok) (fun c1 c2 => absurd c1 no) (fun c1 c2 => absurd c1 no) (fun c1 c2 => absurd c1 no) (fun c1 c2 => ?_) (fun c1 c2 c3 => ?_) (fun c1 c2 c3 c4 => ?_) (fun c1 c2 c3 c4 => ?_)
      · rw [tb i hi] at c2
        rw [b2i_e0 c2] at ih
        rw [nI_1]; exact ih
      · rw [tb i hi] at c2
        rw [b2i_n0 c2] at ih
        rw [nI_1]
        cases o with
        | none => exact ih
        | some q => exact absurd c3 (nI_m1 (by have := (at' q.1 q.2 rfl).1; omega))
      · rw [tb i hi] at c2
        rw [b2i_n0 c2] at ih
        rw [nI_1]
        cases o with
        | none => exact ih
        | some q =>
          obtain ⟨b, l⟩ := q
          have := (at' b l rfl).2
          have lt : midS S p i < l := (nI_ltI (by omega) (by omega)).mp c4
          have ih : Ev G (d + 2) 0 0 M_Mo_middle 8 [.ref 102, .long (setL p), ev_unk, .int (oIx (if midS S p i < l then some (i, midS S p i) else some (b, l))), .int (o4 (if midS S p i < l then some (i, midS S p i) else some (b, l))), .int (nI (i + 1)), ev_unk, ev_unk] [] h R := ih
          rw [if_pos lt] at ih
          exact ih
      · rw [tb i hi] at c2
        rw [b2i_n0 c2] at ih
        rw [nI_1]
        cases o with
        | none => exact absurd rfl c3
        | some q =>
          obtain ⟨b, l⟩ := q
          have := (at' b l rfl).2
          have lt : ¬ midS S p i < l := fun y => c4 (nI_lt y (by omega))
          have ih : Ev G (d + 2) 0 0 M_Mo_middle 8 [.ref 102, .long (setL p), ev_unk, .int (oIx (if midS S p i < l then some (i, midS S p i) else some (b, l))), .int (o4 (if midS S p i < l then some (i, midS S p i) else some (b, l))), .int (nI (i + 1)), ev_unk, ev_unk] [] h R := ih
          rw [if_neg lt] at ih
          exact ih
  · exact b_Mo_middle_8 H ⟨_, m1⟩ (fun k => absurd k (nl_self (by omega))) (fun _ => hR)
end S63
