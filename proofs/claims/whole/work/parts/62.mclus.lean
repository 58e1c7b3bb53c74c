/-! the model's clusters, parts of it -/
theorem b_Mo_leastIn_0 {G : ev_G} {d k n : Nat} {h : ev_H} {R : Option Value → ev_H → Prop} {x0 : Int64}
  (k1 : Ev G (d + 1) k n M_Mo_leastIn 2 [.long x0, ev_unk, .int (0 : Int32)] [] h R)
  : Ev G (d + 1) k n M_Mo_leastIn 0 [.long x0, ev_unk, ev_unk] [] h R :=
  Ev.go (pc' := 2) (ls' := [.long x0, ev_unk, .int (0 : Int32)]) (st' := []) [.iconst 0, .istore_n 2] (by decide +kernel) rfl <|
  k1
theorem b_Mo_leastIn_2 {G : ev_G} {d k n : Nat} {h : ev_H} {R : Option Value → ev_H → Prop} {x0 : Int64} {x2 : Int32}
  (k1 : (b2i (tbL x0 x2)) = (0 : Int32) → Ev G (d + 1) k n M_Mo_leastIn 2 [.long x0, ev_unk, .int (x2 + (1 : Int32))] [] h R)
  (k2 : ¬ (b2i (tbL x0 x2)) = (0 : Int32) → R (some (.int x2)) h)
  : Ev G (d + 1) k n M_Mo_leastIn 2 [.long x0, ev_unk, .int x2] [] h R :=
  Ev.go (pc' := 4) (ls' := [.long x0, ev_unk, .int x2]) (st' := [.int x2, .long x0]) [.lload_n 0, .iload_n 2] (by decide +kernel) rfl <|
  Ev.cS0 (M' := M_Mo_has) (as := [.long x0, .int x2]) (rest := []) l_Mo_271 M_Mo_has_ok M_Mo_has_st (by decide +kernel) rfl rfl (Nat.le_of_ble_eq_true rfl) (Nat.le_of_ble_eq_true rfl) (s_Mo_has <| show Ev G (d + 1) _ _ M_Mo_leastIn 7 [.long x0, ev_unk, .int x2] [.int (b2i (tbL x0 x2))] h R from
    Ev.br (i := .ifCond .ne (9)) (P := (b2i (tbL x0 x2)) = (0 : Int32)) (t := 10) (f := 16) (r := []) (by decide +kernel) rfl (fun c1 =>
      Ev.go (pc' := 2) (ls' := [.long x0, ev_unk, .int (x2 + (1 : Int32))]) (st' := []) [.iinc 2 (1), .goto (-11)] (by decide +kernel) rfl <|
      (k1 c1)
    ) (fun c1 =>
      Ev.go (pc' := 17) (ls' := [.long x0, ev_unk, .int x2]) (st' := [.int x2]) [.iload_n 2] (by decide +kernel) rfl <|
      Ev.ret (r := (some (.int x2))) (Or.inl ⟨_, rfl, by decide +kernel, _, rfl, rfl⟩) (k2 c1)
    )
  )

section S62
variable {G : ev_G} {d : Nat} {h : ev_H} {R : Option Value → ev_H → Prop}
theorem s_leastIn {p : Nat → Bool} {c : Nat} (hc : c < 32) (hp : p c = true) (hR : R (some (.int (nI (fst p 32)))) h) : Ev G (d + 1) 0 0 M_Mo_leastIn 0 [.long (setL p), ev_unk, ev_unk] [] h R := by
  have lt : fst p 32 ≤ c := Nat.le_of_not_lt fun z => by rw [fst_no p 32 c z] at hp; exact absurd hp (by decide)
  have yes := fst_yes p 32 (by omega)
  have tb : ∀ i, i < 32 → tbL (setL p) (nI i) = p i := fun i hi => by rw [tbL_n (by omega), lt_setL, decide_eq_true hi, Bool.true_and]
  refine b_Mo_leastIn_0 ?_
  refine up_to (P := fun i => Ev G (d + 1) 0 0 M_Mo_leastIn 2 [.long (setL p), ev_unk, .int (nI i)] [] h R) (N := fst p 32) ?_ ?_ 0 (Nat.zero_le _)
  · intro i hi ih
    refine b_Mo_leastIn_2 (fun _ => ?_) (fun k => ?_)
    · rw [nI_1]; exact ih
    · rw [tb i (by omega), fst_no p 32 i hi] at k
      exact absurd rfl k
  · refine b_Mo_leastIn_2 (fun k => ?_) (fun _ => hR)
    rw [tb _ (by omega), yes] at k
    exact absurd k (by decide)
end S62
