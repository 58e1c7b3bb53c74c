/-! the model's apart -/
theorem cnt_z {p : Nat → Bool} : ∀ {n : Nat}, cnt p n = 0 → ∀ j, j < n → p j = false
  | 0, _, j, h => absurd h (Nat.not_lt_zero j)
  | n + 1, h, j, hj => by
    have e : cnt p (n + 1) = cnt p n + if p n then 1 else 0 := rfl
    cases q : p n
    · rw [q] at e; simp only [Bool.false_eq_true, if_false] at e
      by_cases c : j = n
      · subst c; exact q
      · exact cnt_z (n := n) (by omega) j (by omega)
    · rw [q] at e; simp only [if_true] at e; omega
theorem pop_z {x y : Int64} (h : pop (x ^^^ y) = 0) : x = y := l_ext fun i hi => by
  have := cnt_z h i hi
  rw [l_xor] at this
  revert this
  cases lt x i <;> cases lt y i <;> decide
theorem amx_iff {f g : Nat → Nat} : ∀ {n : Nat}, (∀ i j, i ≤ n → j ≤ n → (f i < f j ↔ g i < g j)) → amx f n = amx g n
  | 0, _ => rfl
  | n + 1, h => by
    have ih := amx_iff (f := f) (g := g) (n := n) fun i j hi hj => h i j (by omega) (by omega)
    have l := amx_le g n
    have k := h (amx g n) (n + 1) (by omega) (Nat.le_refl _)
    show (if f (amx f n) < f (n + 1) then n + 1 else amx f n) = (if g (amx g n) < g (n + 1) then n + 1 else amx g n)
    rw [ih]
    by_cases c : f (amx g n) < f (n + 1)
    · rw [if_pos c, if_pos (k.mp c)]
    · rw [if_neg c, if_neg (fun y => c (k.mpr y))]
/-- the model's gap, and 1 -/
def aaN (g : Nat) : Nat := if g = 0 then 0 else min 48 g + 1
theorem aa_le (g : Nat) : aaN g ≤ 49 := by unfold aaN; split <;> omega
theorem aa_min : ∀ D, D < 65 → 1 ≤ D → ∀ g, g < 50 → (if nI D < nI (aaN g) - 1 then nI D else nI (aaN g) - 1) = nI (aaN (min g D)) - 1 := by decide +kernel
theorem aa_neg : ∀ a, a < 60 → (if (-1 : Int32) < nI a - 1 then (-1 : Int32) else nI a - 1) = nI 0 - 1 := by decide +kernel
theorem aa_lt : ∀ a, a < 60 → ∀ b, b < 60 → (nI a - 1 < nI b - 1 ↔ a < b) := by decide +kernel
theorem fr32x (x : Int32) : frB x.toInt64 1 32 = (decide (¬ x < 1) && decide (¬ (32 : Int32) < x)) := by
  have e : (x.toInt64).toInt = x.toInt := Int32.toInt_toInt64 x
  unfold frB
  rw [Bool.eq_iff_iff, Bool.and_eq_true, Bool.and_eq_true, decide_eq_true_iff, decide_eq_true_iff, decide_eq_true_iff, decide_eq_true_iff, Int64.lt_iff_toInt_lt, Int64.lt_iff_toInt_lt, Int32.lt_iff_toInt_lt, Int32.lt_iff_toInt_lt, e]
  exact Iff.rfl
/-- the running greatest, and 1 -/
def moN (f : Nat → Nat) (z : Nat) : Nat := if z = 0 then 0 else f (amx f (z - 1))
theorem moN_le {f : Nat → Nat} (hf : ∀ z, f z ≤ 50) (z : Nat) : moN f z ≤ 50 := by unfold moN; split; omega; exact hf _
theorem amx_at (f : Nat → Nat) : ∀ z, amx f z = (if moN f z < f z then z else amx f (z - 1)) ∧ moN f (z + 1) = (if moN f z < f z then f z else moN f z)
  | 0 => by
    refine ⟨?_, ?_⟩
    · show 0 = if _ then 0 else 0
      split <;> rfl
    · show f 0 = if 0 < f 0 then f 0 else 0
      split <;> omega
  | z + 1 => by
    have e : amx f (z + 1) = if f (amx f z) < f (z + 1) then z + 1 else amx f z := rfl
    have m : moN f (z + 1) = f (amx f z) := rfl
    have m2 : moN f (z + 1 + 1) = f (amx f (z + 1)) := rfl
    rw [m, m2, e, Nat.add_sub_cancel]
    refine ⟨rfl, ?_⟩
    split <;> rfl
theorem b_Mo_apart_0 {G : ev_G} {d k n : Nat} {h : ev_H} {R : Option Value → ev_H → Prop} {x1 : Int64} {x3 : Int32} {x4 : Int32} {x5 : Int32} {S1 : AS} {v_2 : MG} {z_3 : MP} {S4 : AS} {v_5 : MG} {z_6 : MP} {v_7 : MG} {z_8 : MP} {v_9 : MG} {z_10 : MP}
  (pr1 : MS h S1)
  (r2 : ∃ fs, hat h 102 (oC 9 fs))
  (pr3 : (b2i (numB x1 (sB S1))) = (0 : Int32) → hat h 102 (moC v_2 z_3))
  (r4 : (b2i (numB x1 (sB S1))) = (0 : Int32) → ∃ fs, hat h 102 (oC 9 fs))
  (pr5 : ¬ (b2i (numB x1 (sB S1))) = (0 : Int32) → MS h S4)
  (pr6 : ¬ (b2i (numB x1 (sB S1))) = (0 : Int32) → sOk S4)
  (r7 : ¬ (b2i (numB x1 (sB S1))) = (0 : Int32) → ∃ fs, hat h 102 (oC 9 fs))
  (pr8 : ¬ (b2i (numB x1 (sB S1))) = (0 : Int32) → (b2i (inR x3 (sB S4 + 1))) = (0 : Int32) → hat h 102 (moC v_5 z_6))
  (r9 : ¬ (b2i (numB x1 (sB S1))) = (0 : Int32) → (b2i (inR x3 (sB S4 + 1))) = (0 : Int32) → ∃ fs, hat h 102 (oC 9 fs))
  (pr10 : ¬ (b2i (numB x1 (sB S1))) = (0 : Int32) → ¬ (b2i (inR x3 (sB S4 + 1))) = (0 : Int32) → (b2i (frB x4.toInt64 (1 : Int64) (32 : Int64))) = (0 : Int32) → hat h 102 (moC v_7 z_8))
  (r11 : ¬ (b2i (numB x1 (sB S1))) = (0 : Int32) → ¬ (b2i (inR x3 (sB S4 + 1))) = (0 : Int32) → (b2i (frB x4.toInt64 (1 : Int64) (32 : Int64))) = (0 : Int32) → ∃ fs, hat h 102 (oC 9 fs))
  (pr12 : ¬ (b2i (numB x1 (sB S1))) = (0 : Int32) → ¬ (b2i (inR x3 (sB S4 + 1))) = (0 : Int32) → ¬ (b2i (frB x4.toInt64 (1 : Int64) (32 : Int64))) = (0 : Int32) → x5 < (0 : Int32) → hat h 102 (moC v_9 z_10))
  (r13 : ¬ (b2i (numB x1 (sB S1))) = (0 : Int32) → ¬ (b2i (inR x3 (sB S4 + 1))) = (0 : Int32) → ¬ (b2i (frB x4.toInt64 (1 : Int64) (32 : Int64))) = (0 : Int32) → x5 < (0 : Int32) → ∃ fs, hat h 102 (oC 9 fs))
  (r14 : ¬ (b2i (numB x1 (sB S1))) = (0 : Int32) → ¬ (b2i (inR x3 (sB S4 + 1))) = (0 : Int32) → ¬ (b2i (frB x4.toInt64 (1 : Int64) (32 : Int64))) = (0 : Int32) → ¬ x5 < (0 : Int32) → ∃ fs, hat h 102 (oC 9 fs))
  (k1 : (b2i (numB x1 (sB S1))) = (0 : Int32) → R (some (.int (-1 : Int32))) (hset h 102 (moC (stV v_2 (1 : Int32)) z_3)))
  (k2 : ¬ (b2i (numB x1 (sB S1))) = (0 : Int32) → (b2i (inR x3 (sB S4 + 1))) = (0 : Int32) → R (some (.int (-1 : Int32))) (hset h 102 (moC (stV v_5 (1 : Int32)) z_6)))
  (k3 : ¬ (b2i (numB x1 (sB S1))) = (0 : Int32) → ¬ (b2i (inR x3 (sB S4 + 1))) = (0 : Int32) → (b2i (frB x4.toInt64 (1 : Int64) (32 : Int64))) = (0 : Int32) → R (some (.int (-1 : Int32))) (hset h 102 (moC (stV v_7 (1 : Int32)) z_8)))
  (k4 : ¬ (b2i (numB x1 (sB S1))) = (0 : Int32) → ¬ (b2i (inR x3 (sB S4 + 1))) = (0 : Int32) → ¬ (b2i (frB x4.toInt64 (1 : Int64) (32 : Int64))) = (0 : Int32) → x5 < (0 : Int32) → R (some (.int (-1 : Int32))) (hset h 102 (moC (stV v_9 (1 : Int32)) z_10)))
  (k5 : ¬ (b2i (numB x1 (sB S1))) = (0 : Int32) → ¬ (b2i (inR x3 (sB S4 + 1))) = (0 : Int32) → ¬ (b2i (frB x4.toInt64 (1 : Int64) (32 : Int64))) = (0 : Int32) → ¬ x5 < (0 : Int32) → Ev G (d + 2) 0 0 M_Mo_nearSet 0 [.ref 102, .long x1, ev_unk, .int x3, ev_unk, ev_unk, ev_unk] [] h (fun r h1 => Ev G (d + 3) k n M_Mo_apart 48 [.ref 102, .long x1, ev_unk, .int x3, .int x4, .int x5, ev_unk, ev_unk, ev_unk, ev_unk, ev_unk, ev_unk, ev_unk] (r.toList ++ [.long x1, .ref 102]) h1 R))
  : Ev G (d + 3) k n M_Mo_apart 0 [.ref 102, .long x1, ev_unk, .int x3, .int x4, .int x5, ev_unk, ev_unk, ev_unk, ev_unk, ev_unk, ev_unk, ev_unk] [] h R :=
  Ev.go (pc' := 2) (ls' := [.ref 102, .long x1, ev_unk, .int x3, .int x4, .int x5, ev_unk, ev_unk, ev_unk, ev_unk, ev_unk, ev_unk, ev_unk]) (st' := [.long x1, .ref 102]) [.aload_n 0, .lload_n 1] (by decide +kernel) rfl <|
  Ev.cV0 (M' := M_Mo_isNumber) (as := [.long x1]) (rest := []) l_Mo_267 M_Mo_isNumber_ok M_Mo_isNumber_in M_Mo_isNumber_se (by decide +kernel) r2 rfl rfl rfl (Nat.le_of_ble_eq_true rfl) (Nat.le_of_ble_eq_true rfl) (s_Mo_isNumber pr1 <| show Ev G (d + 3) _ _ M_Mo_apart 5 [.ref 102, .long x1, ev_unk, .int x3, .int x4, .int x5, ev_unk, ev_unk, ev_unk, ev_unk, ev_unk, ev_unk, ev_unk] [.int (b2i (numB x1 (sB S1)))] h R from
    Ev.br (i := .ifCond .eq (29)) (P := (b2i (numB x1 (sB S1))) = (0 : Int32)) (t := 34) (f := 8) (r := []) (by decide +kernel) rfl (fun c1 =>
      Ev.go (pc' := 36) (ls' := [.ref 102, .long x1, ev_unk, .int x3, .int x4, .int x5, ev_unk, ev_unk, ev_unk, ev_unk, ev_unk, ev_unk, ev_unk]) (st' := [.int (1 : Int32), .ref 102]) [.aload_n 0, .iconst 1] (by decide +kernel) rfl <|
      Ev.cV0 (M' := M_Mo_refuse) (as := [.int (1 : Int32)]) (rest := []) l_Mo_226 M_Mo_refuse_ok M_Mo_refuse_in M_Mo_refuse_se (by decide +kernel) (r4 c1) rfl rfl rfl (Nat.le_of_ble_eq_true rfl) (Nat.le_of_ble_eq_true rfl) (s_Mo_refuse (pr3 c1) <| show Ev G (d + 3) _ _ M_Mo_apart 39 [.ref 102, .long x1, ev_unk, .int x3, .int x4, .int x5, ev_unk, ev_unk, ev_unk, ev_unk, ev_unk, ev_unk, ev_unk] [.int (-1 : Int32)] (hset h 102 (moC (stV v_2 (1 : Int32)) z_3)) R from
        Ev.ret (r := (some (.int (-1 : Int32)))) (Or.inl ⟨_, rfl, by decide +kernel, _, rfl, rfl⟩) (k1 c1)
      )
    ) (fun c1 =>
      Ev.go (pc' := 10) (ls' := [.ref 102, .long x1, ev_unk, .int x3, .int x4, .int x5, ev_unk, ev_unk, ev_unk, ev_unk, ev_unk, ev_unk, ev_unk]) (st' := [.int x3, .ref 102]) [.aload_n 0, .iload_n 3] (by decide +kernel) rfl <|
      Ev.cV0 (M' := M_Mo_isRadius) (as := [.int x3]) (rest := []) l_Mo_309 M_Mo_isRadius_ok M_Mo_isRadius_in M_Mo_isRadius_se (by decide +kernel) (r7 c1) rfl rfl rfl (Nat.le_of_ble_eq_true rfl) (Nat.le_of_ble_eq_true rfl) (s_Mo_isRadius (pr5 c1) (pr6 c1) <| show Ev G (d + 3) _ _ M_Mo_apart 13 [.ref 102, .long x1, ev_unk, .int x3, .int x4, .int x5, ev_unk, ev_unk, ev_unk, ev_unk, ev_unk, ev_unk, ev_unk] [.int (b2i (inR x3 (sB S4 + 1)))] h R from
        Ev.br (i := .ifCond .eq (21)) (P := (b2i (inR x3 (sB S4 + 1))) = (0 : Int32)) (t := 34) (f := 16) (r := []) (by decide +kernel) rfl (fun c2 =>
          Ev.go (pc' := 36) (ls' := [.ref 102, .long x1, ev_unk, .int x3, .int x4, .int x5, ev_unk, ev_unk, ev_unk, ev_unk, ev_unk, ev_unk, ev_unk]) (st' := [.int (1 : Int32), .ref 102]) [.aload_n 0, .iconst 1] (by decide +kernel) rfl <|
          Ev.cV0 (M' := M_Mo_refuse) (as := [.int (1 : Int32)]) (rest := []) l_Mo_226 M_Mo_refuse_ok M_Mo_refuse_in M_Mo_refuse_se (by decide +kernel) (r9 c1 c2) rfl rfl rfl (Nat.le_of_ble_eq_true rfl) (Nat.le_of_ble_eq_true rfl) (s_Mo_refuse (pr8 c1 c2) <| show Ev G (d + 3) _ _ M_Mo_apart 39 [.ref 102, .long x1, ev_unk, .int x3, .int x4, .int x5, ev_unk, ev_unk, ev_unk, ev_unk, ev_unk, ev_unk, ev_unk] [.int (-1 : Int32)] (hset h 102 (moC (stV v_5 (1 : Int32)) z_6)) R from
            Ev.ret (r := (some (.int (-1 : Int32)))) (Or.inl ⟨_, rfl, by decide +kernel, _, rfl, rfl⟩) (k2 c1 c2)
          )
        ) (fun c2 =>
          Ev.go (pc' := 20) (ls' := [.ref 102, .long x1, ev_unk, .int x3, .int x4, .int x5, ev_unk, ev_unk, ev_unk, ev_unk, ev_unk, ev_unk, ev_unk]) (st' := [.long (1 : Int64), .long x4.toInt64]) [.iload 4, .i2l, .lconst 1] (by decide +kernel) rfl <|
          Ev.ldc2 k_Mo_332 (by decide +kernel) <|
          Ev.cS0 (M' := M_Mo_isFrom) (as := [.long x4.toInt64, .long (1 : Int64), .long (32 : Int64)]) (rest := []) l_Mo_172 M_Mo_isFrom_ok M_Mo_isFrom_st (by decide +kernel) rfl rfl (Nat.le_of_ble_eq_true rfl) (Nat.le_of_ble_eq_true rfl) (s_Mo_isFrom <| show Ev G (d + 3) _ _ M_Mo_apart 26 [.ref 102, .long x1, ev_unk, .int x3, .int x4, .int x5, ev_unk, ev_unk, ev_unk, ev_unk, ev_unk, ev_unk, ev_unk] [.int (b2i (frB x4.toInt64 (1 : Int64) (32 : Int64)))] h R from
            Ev.br (i := .ifCond .eq (8)) (P := (b2i (frB x4.toInt64 (1 : Int64) (32 : Int64))) = (0 : Int32)) (t := 34) (f := 29) (r := []) (by decide +kernel) rfl (fun c3 =>
              Ev.go (pc' := 36) (ls' := [.ref 102, .long x1, ev_unk, .int x3, .int x4, .int x5, ev_unk, ev_unk, ev_unk, ev_unk, ev_unk, ev_unk, ev_unk]) (st' := [.int (1 : Int32), .ref 102]) [.aload_n 0, .iconst 1] (by decide +kernel) rfl <|
              Ev.cV0 (M' := M_Mo_refuse) (as := [.int (1 : Int32)]) (rest := []) l_Mo_226 M_Mo_refuse_ok M_Mo_refuse_in M_Mo_refuse_se (by decide +kernel) (r11 c1 c2 c3) rfl rfl rfl (Nat.le_of_ble_eq_true rfl) (Nat.le_of_ble_eq_true rfl) (s_Mo_refuse (pr10 c1 c2 c3) <| show Ev G (d + 3) _ _ M_Mo_apart 39 [.ref 102, .long x1, ev_unk, .int x3, .int x4, .int x5, ev_unk, ev_unk, ev_unk, ev_unk, ev_unk, ev_unk, ev_unk] [.int (-1 : Int32)] (hset h 102 (moC (stV v_7 (1 : Int32)) z_8)) R from
                Ev.ret (r := (some (.int (-1 : Int32)))) (Or.inl ⟨_, rfl, by decide +kernel, _, rfl, rfl⟩) (k3 c1 c2 c3)
              )
            ) (fun c3 =>
              Ev.go (pc' := 31) (ls' := [.ref 102, .long x1, ev_unk, .int x3, .int x4, .int x5, ev_unk, ev_unk, ev_unk, ev_unk, ev_unk, ev_unk, ev_unk]) (st' := [.int x5]) [.iload 5] (by decide +kernel) rfl <|
              Ev.br (i := .ifCond .ge (9)) (P := x5 < (0 : Int32)) (t := 34) (f := 40) (r := []) (by decide +kernel) rfl (fun c4 =>
                Ev.go (pc' := 36) (ls' := [.ref 102, .long x1, ev_unk, .int x3, .int x4, .int x5, ev_unk, ev_unk, ev_unk, ev_unk, ev_unk, ev_unk, ev_unk]) (st' := [.int (1 : Int32), .ref 102]) [.aload_n 0, .iconst 1] (by decide +kernel) rfl <|
                Ev.cV0 (M' := M_Mo_refuse) (as := [.int (1 : Int32)]) (rest := []) l_Mo_226 M_Mo_refuse_ok M_Mo_refuse_in M_Mo_refuse_se (by decide +kernel) (r13 c1 c2 c3 c4) rfl rfl rfl (Nat.le_of_ble_eq_true rfl) (Nat.le_of_ble_eq_true rfl) (s_Mo_refuse (pr12 c1 c2 c3 c4) <| show Ev G (d + 3) _ _ M_Mo_apart 39 [.ref 102, .long x1, ev_unk, .int x3, .int x4, .int x5, ev_unk, ev_unk, ev_unk, ev_unk, ev_unk, ev_unk, ev_unk] [.int (-1 : Int32)] (hset h 102 (moC (stV v_9 (1 : Int32)) z_10)) R from
                  Ev.ret (r := (some (.int (-1 : Int32)))) (Or.inl ⟨_, rfl, by decide +kernel, _, rfl, rfl⟩) (k4 c1 c2 c3 c4)
                )
              ) (fun c4 =>
                Ev.go (pc' := 45) (ls' := [.ref 102, .long x1, ev_unk, .int x3, .int x4, .int x5, ev_unk, ev_unk, ev_unk, ev_unk, ev_unk, ev_unk, ev_unk]) (st' := [.int x3, .long x1, .ref 102, .long x1, .ref 102]) [.aload_n 0, .lload_n 1, .aload_n 0, .lload_n 1, .iload_n 3] (by decide +kernel) rfl <|
                Ev.cV0 (M' := M_Mo_nearSet) (as := [.long x1, .int x3]) (rest := [.long x1, .ref 102]) l_Mo_325 M_Mo_nearSet_ok M_Mo_nearSet_in M_Mo_nearSet_se (by decide +kernel) (r14 c1 c2 c3 c4) rfl rfl rfl (Nat.le_of_ble_eq_true rfl) (Nat.le_of_ble_eq_true rfl) (k5 c1 c2 c3 c4)
              )
            )
          )
        )
      )
    )
  )
theorem b_Mo_apart_48 {G : ev_G} {d k n : Nat} {h : ev_H} {R : Option Value → ev_H → Prop} {x1 : Int64} {x3 : Int32} {x4 : Int32} {x5 : Int32} {y1 : Int64} {y2 : Int64}
  (r1 : ∃ fs, hat h 102 (oC 9 fs))
  (k1 : Ev G (d + 2) 0 0 M_Mo_ranks 0 [.ref 102, .long y1, ev_unk, .long y2, ev_unk, ev_unk, ev_unk, ev_unk] [] h (fun r h1 => Ev G (d + 3) k n M_Mo_apart 51 [.ref 102, .long x1, ev_unk, .int x3, .int x4, .int x5, ev_unk, ev_unk, ev_unk, ev_unk, ev_unk, ev_unk, ev_unk] (r.toList ++ []) h1 R))
  : Ev G (d + 3) k n M_Mo_apart 48 [.ref 102, .long x1, ev_unk, .int x3, .int x4, .int x5, ev_unk, ev_unk, ev_unk, ev_unk, ev_unk, ev_unk, ev_unk] [.long y2, .long y1, .ref 102] h R :=
  Ev.cV0 (M' := M_Mo_ranks) (as := [.long y1, .long y2]) (rest := []) l_Mo_328 M_Mo_ranks_ok M_Mo_ranks_in M_Mo_ranks_se (by decide +kernel) r1 rfl rfl rfl (Nat.le_of_ble_eq_true rfl) (Nat.le_of_ble_eq_true rfl) k1
theorem b_Mo_apart_51 {G : ev_G} {d k n : Nat} {h : ev_H} {R : Option Value → ev_H → Prop} {x1 : Int64} {x3 : Int32} {x4 : Int32} {x5 : Int32} {y0 : Int32}
  (k1 : Ev G (d + 3) k n M_Mo_apart 56 [.ref 102, .long x1, ev_unk, .int x3, .int x4, .int x5, .int y0, .int (0 : Int32), ev_unk, ev_unk, ev_unk, ev_unk, ev_unk] [] h R)
  : Ev G (d + 3) k n M_Mo_apart 51 [.ref 102, .long x1, ev_unk, .int x3, .int x4, .int x5, ev_unk, ev_unk, ev_unk, ev_unk, ev_unk, ev_unk, ev_unk] [.int y0] h R :=
  Ev.go (pc' := 56) (ls' := [.ref 102, .long x1, ev_unk, .int x3, .int x4, .int x5, .int y0, .int (0 : Int32), ev_unk, ev_unk, ev_unk, ev_unk, ev_unk]) (st' := []) [.istore 6, .iconst 0, .istore 7] (by decide +kernel) rfl <|
  k1
theorem b_Mo_apart_56 {G : ev_G} {d k n : Nat} {h : ev_H} {R : Option Value → ev_H → Prop} {x1 : Int64} {x3 : Int32} {x4 : Int32} {x5 : Int32} {x6 : Int32} {x7 : Int32}
  (k1 : x7 < x6 → x7 < x4 → Ev G (d + 3) k n M_Mo_apart 79 [.ref 102, .long x1, ev_unk, .int x3, .int x4, .int x5, .int x6, .int x7, .int (0 : Int32), .int (-1 : Int32), .int (0 : Int32), ev_unk, ev_unk] [] h R)
  (k2 : x7 < x6 → ¬ x7 < x4 → Ev G (d + 3) k n M_Mo_apart 213 [.ref 102, .long x1, ev_unk, .int x3, .int x4, .int x5, .int x6, .int x7, ev_unk, ev_unk, ev_unk, ev_unk, ev_unk] [] h R)
  (k3 : ¬ x7 < x6 → Ev G (d + 3) k n M_Mo_apart 213 [.ref 102, .long x1, ev_unk, .int x3, .int x4, .int x5, .int x6, .int x7, ev_unk, ev_unk, ev_unk, ev_unk, ev_unk] [] h R)
  : Ev G (d + 3) k n M_Mo_apart 56 [.ref 102, .long x1, ev_unk, .int x3, .int x4, .int x5, .int x6, .int x7, ev_unk, ev_unk, ev_unk, ev_unk, ev_unk] [] h R :=
  Ev.go (pc' := 60) (ls' := [.ref 102, .long x1, ev_unk, .int x3, .int x4, .int x5, .int x6, .int x7, ev_unk, ev_unk, ev_unk, ev_unk, ev_unk]) (st' := [.int x6, .int x7]) [.iload 7, .iload 6] (by decide +kernel) rfl <|
  Ev.br (i := .if_icmp .ge (153)) (P := x7 < x6) (t := 63) (f := 213) (r := []) (by decide +kernel) rfl (fun c1 =>
    Ev.go (pc' := 67) (ls' := [.ref 102, .long x1, ev_unk, .int x3, .int x4, .int x5, .int x6, .int x7, ev_unk, ev_unk, ev_unk, ev_unk, ev_unk]) (st' := [.int x4, .int x7]) [.iload 7, .iload 4] (by decide +kernel) rfl <|
    Ev.br (i := .if_icmp .ge (146)) (P := x7 < x4) (t := 70) (f := 213) (r := []) (by decide +kernel) rfl (fun c2 =>
      Ev.go (pc' := 79) (ls' := [.ref 102, .long x1, ev_unk, .int x3, .int x4, .int x5, .int x6, .int x7, .int (0 : Int32), .int (-1 : Int32), .int (0 : Int32), ev_unk, ev_unk]) (st' := []) [.iconst 0, .istore 8, .iconst (-1), .istore 9, .iconst 0, .istore 10] (by decide +kernel) rfl <|
      (k1 c1 c2)
    ) (fun c2 =>
      (k2 c1 c2)
    )
  ) (fun c1 =>
    (k3 c1)
  )
theorem b_Mo_apart_79 {G : ev_G} {d k n : Nat} {h : ev_H} {R : Option Value → ev_H → Prop} {x1 : Int64} {x3 : Int32} {x4 : Int32} {x5 : Int32} {x6 : Int32} {x7 : Int32} {x8 : Int32} {x9 : Int32} {x10 : Int32} {f_status_1 : Int32} {f_acts_2 : Int32} {f_marks_3 : Int32} {f_taped_4 : Int32} {f_size_5 : Int32} {f_token_6 : Int32} {f_begin_7 : Int32} {f_end_8 : Int32} {f_faults_9 : Int32} {f_faultPlace_10 : Int32} {f_faultKind_11 : Int32} {f_deep_12 : Int32} {f_value_13 : Int64} {f_broadMany_14 : Int32} {g15 : Nat → Int32} {j16 : Nat} {g17 : Nat → Int32} {j18 : Nat}
  (a1 : hat h 102 (oC 9 [.ref 103, .int f_status_1, .int f_acts_2, .int f_marks_3, .ref 104, .ref 105, .ref 106, .int f_taped_4, .int f_size_5, .int f_token_6, .int f_begin_7, .int f_end_8, .int f_faults_9, .int f_faultPlace_10, .int f_faultKind_11, .int f_deep_12, .long f_value_13, .ref 107, .ref 108, .ref 109, .ref 116, .int f_broadMany_14, .ref 124, .ref 125]))
  (a2 : hat h 124 (aI 32 g15))
  (a4 : hat h 125 (aI 32 g17))
  (i3 : ¬ x10 < x6 → ev_ix x8 j16 32)
  (i5 : ¬ x10 < x6 → ev_ix x7 j18 32)
  (k1 : x10 < x6 → x7 = (0 : Int32) → Ev G (d + 3) k n M_Mo_apart 102 [.ref 102, .long x1, ev_unk, .int x3, .int x4, .int x5, .int x6, .int x7, .int x8, .int x9, .int x10, .int (0 : Int32), .int (0 : Int32)] [] h R)
  (k2 : x10 < x6 → ¬ x7 = (0 : Int32) → Ev G (d + 3) k n M_Mo_apart 102 [.ref 102, .long x1, ev_unk, .int x3, .int x4, .int x5, .int x6, .int x7, .int x8, .int x9, .int x10, .int (48 : Int32), .int (0 : Int32)] [] h R)
  (k3 : ¬ x10 < x6 → Ev G (d + 3) k n M_Mo_apart 56 [.ref 102, .long x1, ev_unk, .int x3, .int x4, .int x5, .int x6, .int (x7 + (1 : Int32)), ev_unk, ev_unk, ev_unk, ev_unk, ev_unk] [] (hset h 125 (aI 32 (upd g17 j18 (g15 j16)))) R)
  : Ev G (d + 3) k n M_Mo_apart 79 [.ref 102, .long x1, ev_unk, .int x3, .int x4, .int x5, .int x6, .int x7, .int x8, .int x9, .int x10, ev_unk, ev_unk] [] h R :=
  Ev.go (pc' := 83) (ls' := [.ref 102, .long x1, ev_unk, .int x3, .int x4, .int x5, .int x6, .int x7, .int x8, .int x9, .int x10, ev_unk, ev_unk]) (st' := [.int x6, .int x10]) [.iload 10, .iload 6] (by decide +kernel) rfl <|
  Ev.br (i := .if_icmp .ge (110)) (P := x10 < x6) (t := 86) (f := 193) (r := []) (by decide +kernel) rfl (fun c1 =>
    Ev.go (pc' := 88) (ls' := [.ref 102, .long x1, ev_unk, .int x3, .int x4, .int x5, .int x6, .int x7, .int x8, .int x9, .int x10, ev_unk, ev_unk]) (st' := [.int x7]) [.iload 7] (by decide +kernel) rfl <|
    Ev.br (i := .ifCond .ne (7)) (P := x7 = (0 : Int32)) (t := 91) (f := 95) (r := []) (by decide +kernel) rfl (fun c2 =>
      Ev.go (pc' := 102) (ls' := [.ref 102, .long x1, ev_unk, .int x3, .int x4, .int x5, .int x6, .int x7, .int x8, .int x9, .int x10, .int (0 : Int32), .int (0 : Int32)]) (st' := []) [.iconst 0, .goto (5), .istore 11, .iconst 0, .istore 12] (by decide +kernel) rfl <|
      (k1 c1 c2)
    ) (fun c2 =>
      Ev.go (pc' := 102) (ls' := [.ref 102, .long x1, ev_unk, .int x3, .int x4, .int x5, .int x6, .int x7, .int x8, .int x9, .int x10, .int (48 : Int32), .int (0 : Int32)]) (st' := []) [.bipush (48), .istore 11, .iconst 0, .istore 12] (by decide +kernel) rfl <|
      (k2 c1 c2)
    )
  ) (fun c1 =>
    Ev.go (pc' := 194) (ls' := [.ref 102, .long x1, ev_unk, .int x3, .int x4, .int x5, .int x6, .int x7, .int x8, .int x9, .int x10, ev_unk, ev_unk]) (st' := [.ref 102]) [.aload_n 0] (by decide +kernel) rfl <|
    Ev.getf f_Mo_48 (by decide +kernel) a1 rfl <|
    Ev.go (pc' := 200) (ls' := [.ref 102, .long x1, ev_unk, .int x3, .int x4, .int x5, .int x6, .int x7, .int x8, .int x9, .int x10, ev_unk, ev_unk]) (st' := [.ref 102, .int x7, .ref 125]) [.iload 7, .aload_n 0] (by decide +kernel) rfl <|
    Ev.getf f_Mo_45 (by decide +kernel) a1 rfl <|
    Ev.go (pc' := 205) (ls' := [.ref 102, .long x1, ev_unk, .int x3, .int x4, .int x5, .int x6, .int x7, .int x8, .int x9, .int x10, ev_unk, ev_unk]) (st' := [.int x8, .ref 124, .int x7, .ref 125]) [.iload 8] (by decide +kernel) rfl <|
    Ev.iald (j := j16) (by decide +kernel) a2 (i3 c1) <|
    Ev.iast (j := j18) (by decide +kernel) a4 (i5 c1) <| show Ev G (d + 3) _ _ M_Mo_apart 207 [.ref 102, .long x1, ev_unk, .int x3, .int x4, .int x5, .int x6, .int x7, .int x8, .int x9, .int x10, ev_unk, ev_unk] [] (hset h 125 (aI 32 (upd g17 j18 (g15 j16)))) R from
    Ev.go (pc' := 56) (ls' := [.ref 102, .long x1, ev_unk, .int x3, .int x4, .int x5, .int x6, .int (x7 + (1 : Int32)), .int x8, .int x9, .int x10, ev_unk, ev_unk]) (st' := []) [.iinc 7 (1), .goto (-154)] (by decide +kernel) rfl <|
    Ev.forget (ls' := [.ref 102, .long x1, ev_unk, .int x3, .int x4, .int x5, .int x6, .int (x7 + (1 : Int32)), ev_unk, ev_unk, ev_unk, ev_unk, ev_unk]) ⟨Or.inr rfl, Or.inr rfl, Or.inr rfl, Or.inr rfl, Or.inr rfl, Or.inr rfl, Or.inr rfl, Or.inr rfl, Or.inl rfl, Or.inl rfl, Or.inl rfl, Or.inr rfl, Or.inr rfl, trivial⟩ <|
    (k3 c1)
  )
theorem b_Mo_apart_102 {G : ev_G} {d k n : Nat} {h : ev_H} {R : Option Value → ev_H → Prop} {x1 : Int64} {x3 : Int32} {x4 : Int32} {x5 : Int32} {x6 : Int32} {x7 : Int32} {x8 : Int32} {x9 : Int32} {x10 : Int32} {x11 : Int32} {x12 : Int32} {f_status_1 : Int32} {f_acts_2 : Int32} {f_marks_3 : Int32} {f_taped_4 : Int32} {f_size_5 : Int32} {f_token_6 : Int32} {f_begin_7 : Int32} {f_end_8 : Int32} {f_faults_9 : Int32} {f_faultPlace_10 : Int32} {f_faultKind_11 : Int32} {f_deep_12 : Int32} {f_value_13 : Int64} {f_broadMany_14 : Int32} {g15 : Nat → Int32} {j16 : Nat} {g17 : Nat → Int32} {j18 : Nat} {S19 : AS} {c_20 : Nat} {S21 : AS} {c_22 : Nat}
  (a1 : hat h 102 (oC 9 [.ref 103, .int f_status_1, .int f_acts_2, .int f_marks_3, .ref 104, .ref 105, .ref 106, .int f_taped_4, .int f_size_5, .int f_token_6, .int f_begin_7, .int f_end_8, .int f_faults_9, .int f_faultPlace_10, .int f_faultKind_11, .int f_deep_12, .long f_value_13, .ref 107, .ref 108, .ref 109, .ref 116, .int f_broadMany_14, .ref 124, .ref 125]))
  (a2 : hat h 125 (aI 32 g15))
  (a4 : hat h 124 (aI 32 g17))
  (i3 : x12 < x7 → ev_ix x12 j16 32)
  (i5 : x12 < x7 → ev_ix x10 j18 32)
  (i6 : x12 < x7 → ¬ (g15 j16) = (g17 j18) → ev_ix x12 j16 32)
  (pr7 : x12 < x7 → ¬ (g15 j16) = (g17 j18) → MS h S19)
  (pr8 : x12 < x7 → ¬ (g15 j16) = (g17 j18) → sOk S19)
  (pr9 : x12 < x7 → ¬ (g15 j16) = (g17 j18) → (g15 j16) = nI c_20 ∧ c_20 < sN S19)
  (i10 : x12 < x7 → ¬ (g15 j16) = (g17 j18) → ev_ix x10 j18 32)
  (pr11 : x12 < x7 → ¬ (g15 j16) = (g17 j18) → MS h S21)
  (pr12 : x12 < x7 → ¬ (g15 j16) = (g17 j18) → sOk S21)
  (pr13 : x12 < x7 → ¬ (g15 j16) = (g17 j18) → (g17 j18) = nI c_22 ∧ c_22 < sN S21)
  (k1 : x12 < x7 → (g15 j16) = (g17 j18) → Ev G (d + 3) k n M_Mo_apart 102 [.ref 102, .long x1, ev_unk, .int x3, .int x4, .int x5, .int x6, .int x7, .int x8, .int x9, .int x10, .int (if (-1 : Int32) < x11 then (-1 : Int32) else x11), .int (x12 + (1 : Int32))] [] h R)
  (k2 : x12 < x7 → ¬ (g15 j16) = (g17 j18) → Ev G (d + 3) k n M_Mo_apart 102 [.ref 102, .long x1, ev_unk, .int x3, .int x4, .int x5, .int x6, .int x7, .int x8, .int x9, .int x10, .int (if (nI (pop ((sCo S19 c_20) ^^^ (sCo S21 c_22)))) < x11 then (nI (pop ((sCo S19 c_20) ^^^ (sCo S21 c_22)))) else x11), .int (x12 + (1 : Int32))] [] h R)
  (k3 : ¬ x12 < x7 → x9 < x11 → Ev G (d + 3) k n M_Mo_apart 79 [.ref 102, .long x1, ev_unk, .int x3, .int x4, .int x5, .int x6, .int x7, .int x10, .int x11, .int (x10 + (1 : Int32)), ev_unk, ev_unk] [] h R)
  (k4 : ¬ x12 < x7 → ¬ x9 < x11 → Ev G (d + 3) k n M_Mo_apart 79 [.ref 102, .long x1, ev_unk, .int x3, .int x4, .int x5, .int x6, .int x7, .int x8, .int x9, .int (x10 + (1 : Int32)), ev_unk, ev_unk] [] h R)
  : Ev G (d + 3) k n M_Mo_apart 102 [.ref 102, .long x1, ev_unk, .int x3, .int x4, .int x5, .int x6, .int x7, .int x8, .int x9, .int x10, .int x11, .int x12] [] h R :=
  Ev.go (pc' := 106) (ls' := [.ref 102, .long x1, ev_unk, .int x3, .int x4, .int x5, .int x6, .int x7, .int x8, .int x9, .int x10, .int x11, .int x12]) (st' := [.int x7, .int x12]) [.iload 12, .iload 7] (by decide +kernel) rfl <|
  Ev.br (i := .if_icmp .ge (63)) (P := x12 < x7) (t := 109) (f := 169) (r := []) (by decide +kernel) rfl (fun c1 =>
    Ev.go (pc' := 112) (ls' := [.ref 102, .long x1, ev_unk, .int x3, .int x4, .int x5, .int x6, .int x7, .int x8, .int x9, .int x10, .int x11, .int x12]) (st' := [.ref 102, .int x11]) [.iload 11, .aload_n 0] (by decide +kernel) rfl <|
    Ev.getf f_Mo_48 (by decide +kernel) a1 rfl <|
    Ev.go (pc' := 117) (ls' := [.ref 102, .long x1, ev_unk, .int x3, .int x4, .int x5, .int x6, .int x7, .int x8, .int x9, .int x10, .int x11, .int x12]) (st' := [.int x12, .ref 125, .int x11]) [.iload 12] (by decide +kernel) rfl <|
    Ev.iald (j := j16) (by decide +kernel) a2 (i3 c1) <|
    Ev.go (pc' := 119) (ls' := [.ref 102, .long x1, ev_unk, .int x3, .int x4, .int x5, .int x6, .int x7, .int x8, .int x9, .int x10, .int x11, .int x12]) (st' := [.ref 102, .int (g15 j16), .int x11]) [.aload_n 0] (by decide +kernel) rfl <|
    Ev.getf f_Mo_45 (by decide +kernel) a1 rfl <|
    Ev.go (pc' := 124) (ls' := [.ref 102, .long x1, ev_unk, .int x3, .int x4, .int x5, .int x6, .int x7, .int x8, .int x9, .int x10, .int x11, .int x12]) (st' := [.int x10, .ref 124, .int (g15 j16), .int x11]) [.iload 10] (by decide +kernel) rfl <|
    Ev.iald (j := j18) (by decide +kernel) a4 (i5 c1) <|
    Ev.br (i := .if_icmp .ne (7)) (P := (g15 j16) = (g17 j18)) (t := 128) (f := 132) (r := [.int x11]) (by decide +kernel) rfl (fun c2 =>
      Ev.go (pc' := 158) (ls' := [.ref 102, .long x1, ev_unk, .int x3, .int x4, .int x5, .int x6, .int x7, .int x8, .int x9, .int x10, .int x11, .int x12]) (st' := [.int (-1 : Int32), .int x11]) [.iconst (-1), .goto (29)] (by decide +kernel) rfl <|
      Ev.mmin lL_Mo_306 w_minS w_mathI w_minC (Nat.le_of_ble_eq_true rfl) (by decide +kernel) <|
      Ev.go (pc' := 102) (ls' := [.ref 102, .long x1, ev_unk, .int x3, .int x4, .int x5, .int x6, .int x7, .int x8, .int x9, .int x10, .int (if (-1 : Int32) < x11 then (-1 : Int32) else x11), .int (x12 + (1 : Int32))]) (st' := []) [.istore 11, .iinc 12 (1), .goto (-64)] (by decide +kernel) rfl <|
      (k1 c1 c2)
    ) (fun c2 =>
      Ev.go (pc' := 134) (ls' := [.ref 102, .long x1, ev_unk, .int x3, .int x4, .int x5, .int x6, .int x7, .int x8, .int x9, .int x10, .int x11, .int x12]) (st' := [.ref 102, .ref 102, .int x11]) [.aload_n 0, .aload_n 0] (by decide +kernel) rfl <|
      Ev.getf f_Mo_48 (by decide +kernel) a1 rfl <|
      Ev.go (pc' := 139) (ls' := [.ref 102, .long x1, ev_unk, .int x3, .int x4, .int x5, .int x6, .int x7, .int x8, .int x9, .int x10, .int x11, .int x12]) (st' := [.int x12, .ref 125, .ref 102, .int x11]) [.iload 12] (by decide +kernel) rfl <|
      Ev.iald (j := j16) (by decide +kernel) a2 (i6 c1 c2) <|
      Ev.cV0 (M' := M_Mo_codeOf) (as := [.int (g15 j16)]) (rest := [.int x11]) l_Mo_85 M_Mo_codeOf_ok M_Mo_codeOf_in M_Mo_codeOf_se (by decide +kernel) ⟨_, a1⟩ rfl rfl rfl (Nat.le_of_ble_eq_true rfl) (Nat.le_of_ble_eq_true rfl) (s_Mo_codeOf (pr7 c1 c2) (pr8 c1 c2) (pr9 c1 c2) <| show Ev G (d + 3) _ _ M_Mo_apart 143 [.ref 102, .long x1, ev_unk, .int x3, .int x4, .int x5, .int x6, .int x7, .int x8, .int x9, .int x10, .int x11, .int x12] [.long (sCo S19 c_20), .int x11] h R from
        Ev.go (pc' := 145) (ls' := [.ref 102, .long x1, ev_unk, .int x3, .int x4, .int x5, .int x6, .int x7, .int x8, .int x9, .int x10, .int x11, .int x12]) (st' := [.ref 102, .ref 102, .long (sCo S19 c_20), .int x11]) [.aload_n 0, .aload_n 0] (by decide +kernel) rfl <|
        Ev.getf f_Mo_45 (by decide +kernel) a1 rfl <|
        Ev.go (pc' := 150) (ls' := [.ref 102, .long x1, ev_unk, .int x3, .int x4, .int x5, .int x6, .int x7, .int x8, .int x9, .int x10, .int x11, .int x12]) (st' := [.int x10, .ref 124, .ref 102, .long (sCo S19 c_20), .int x11]) [.iload 10] (by decide +kernel) rfl <|
        Ev.iald (j := j18) (by decide +kernel) a4 (i10 c1 c2) <|
        Ev.cV0 (M' := M_Mo_codeOf) (as := [.int (g17 j18)]) (rest := [.long (sCo S19 c_20), .int x11]) l_Mo_85 M_Mo_codeOf_ok M_Mo_codeOf_in M_Mo_codeOf_se (by decide +kernel) ⟨_, a1⟩ rfl rfl rfl (Nat.le_of_ble_eq_true rfl) (Nat.le_of_ble_eq_true rfl) (s_Mo_codeOf (pr11 c1 c2) (pr12 c1 c2) (pr13 c1 c2) <| show Ev G (d + 3) _ _ M_Mo_apart 154 [.ref 102, .long x1, ev_unk, .int x3, .int x4, .int x5, .int x6, .int x7, .int x8, .int x9, .int x10, .int x11, .int x12] [.long (sCo S21 c_22), .long (sCo S19 c_20), .int x11] h R from
          Ev.go (pc' := 155) (ls' := [.ref 102, .long x1, ev_unk, .int x3, .int x4, .int x5, .int x6, .int x7, .int x8, .int x9, .int x10, .int x11, .int x12]) (st' := [.long ((sCo S19 c_20) ^^^ (sCo S21 c_22)), .int x11]) [.lxor] (by decide +kernel) rfl <|
          Ev.cS0 (M' := M_Mo_ones_J) (as := [.long ((sCo S19 c_20) ^^^ (sCo S21 c_22))]) (rest := [.int x11]) l_Mo_88 M_Mo_ones_J_ok M_Mo_ones_J_st (by decide +kernel) rfl rfl (Nat.le_of_ble_eq_true rfl) (Nat.le_of_ble_eq_true rfl) (s_Mo_ones_J <| show Ev G (d + 3) _ _ M_Mo_apart 158 [.ref 102, .long x1, ev_unk, .int x3, .int x4, .int x5, .int x6, .int x7, .int x8, .int x9, .int x10, .int x11, .int x12] [.int (nI (pop ((sCo S19 c_20) ^^^ (sCo S21 c_22)))), .int x11] h R from
            Ev.mmin lL_Mo_306 w_minS w_mathI w_minC (Nat.le_of_ble_eq_true rfl) (by decide +kernel) <|
            Ev.go (pc' := 102) (ls' := [.ref 102, .long x1, ev_unk, .int x3, .int x4, .int x5, .int x6, .int x7, .int x8, .int x9, .int x10, .int (if (nI (pop ((sCo S19 c_20) ^^^ (sCo S21 c_22)))) < x11 then (nI (pop ((sCo S19 c_20) ^^^ (sCo S21 c_22)))) else x11), .int (x12 + (1 : Int32))]) (st' := []) [.istore 11, .iinc 12 (1), .goto (-64)] (by decide +kernel) rfl <|
            (k2 c1 c2)
          )
        )
      )
    )
  ) (fun c1 =>
    Ev.go (pc' := 173) (ls' := [.ref 102, .long x1, ev_unk, .int x3, .int x4, .int x5, .int x6, .int x7, .int x8, .int x9, .int x10, .int x11, .int x12]) (st' := [.int x9, .int x11]) [.iload 11, .iload 9] (by decide +kernel) rfl <|
    Ev.br (i := .if_icmp .gt (6)) (P := x9 < x11) (t := 179) (f := 176) (r := []) (by decide +kernel) rfl (fun c2 =>
      Ev.go (pc' := 79) (ls' := [.ref 102, .long x1, ev_unk, .int x3, .int x4, .int x5, .int x6, .int x7, .int x10, .int x11, .int (x10 + (1 : Int32)), .int x11, .int x12]) (st' := []) [.iload 11, .istore 9, .iload 10, .istore 8, .iinc 10 (1), .goto (-111)] (by decide +kernel) rfl <|
      Ev.forget (ls' := [.ref 102, .long x1, ev_unk, .int x3, .int x4, .int x5, .int x6, .int x7, .int x10, .int x11, .int (x10 + (1 : Int32)), ev_unk, ev_unk]) ⟨Or.inr rfl, Or.inr rfl, Or.inr rfl, Or.inr rfl, Or.inr rfl, Or.inr rfl, Or.inr rfl, Or.inr rfl, Or.inr rfl, Or.inr rfl, Or.inr rfl, Or.inl rfl, Or.inl rfl, trivial⟩ <|
      (k3 c1 c2)
    ) (fun c2 =>
      Ev.go (pc' := 79) (ls' := [.ref 102, .long x1, ev_unk, .int x3, .int x4, .int x5, .int x6, .int x7, .int x8, .int x9, .int (x10 + (1 : Int32)), .int x11, .int x12]) (st' := []) [.goto (11), .iinc 10 (1), .goto (-111)] (by decide +kernel) rfl <|
      Ev.forget (ls' := [.ref 102, .long x1, ev_unk, .int x3, .int x4, .int x5, .int x6, .int x7, .int x8, .int x9, .int (x10 + (1 : Int32)), ev_unk, ev_unk]) ⟨Or.inr rfl, Or.inr rfl, Or.inr rfl, Or.inr rfl, Or.inr rfl, Or.inr rfl, Or.inr rfl, Or.inr rfl, Or.inr rfl, Or.inr rfl, Or.inr rfl, Or.inl rfl, Or.inl rfl, trivial⟩ <|
      (k4 c1 c2)
    )
  )
theorem b_Mo_apart_213 {G : ev_G} {d k n : Nat} {h : ev_H} {R : Option Value → ev_H → Prop} {x1 : Int64} {x3 : Int32} {x4 : Int32} {x5 : Int32} {x6 : Int32} {x7 : Int32} {f_status_1 : Int32} {f_acts_2 : Int32} {f_marks_3 : Int32} {f_taped_4 : Int32} {f_size_5 : Int32} {f_token_6 : Int32} {f_begin_7 : Int32} {f_end_8 : Int32} {f_faults_9 : Int32} {f_faultPlace_10 : Int32} {f_faultKind_11 : Int32} {f_deep_12 : Int32} {f_value_13 : Int64} {f_broadMany_14 : Int32} {g15 : Nat → Int32} {j16 : Nat} {v_17 : MG} {z_18 : MP} {v_19 : MG} {z_20 : MP}
  (a1 : hat h 102 (oC 9 [.ref 103, .int f_status_1, .int f_acts_2, .int f_marks_3, .ref 104, .ref 105, .ref 106, .int f_taped_4, .int f_size_5, .int f_token_6, .int f_begin_7, .int f_end_8, .int f_faults_9, .int f_faultPlace_10, .int f_faultKind_11, .int f_deep_12, .long f_value_13, .ref 107, .ref 108, .ref 109, .ref 116, .int f_broadMany_14, .ref 124, .ref 125]))
  (a2 : hat h 125 (aI 32 g15))
  (i3 : x5 < x7 → ev_ix x5 j16 32)
  (pr4 : x5 < x7 → hat h 102 (moC v_17 z_18))
  (pr5 : ¬ x5 < x7 → hat h 102 (moC v_19 z_20))
  (r6 : ¬ x5 < x7 → ∃ fs, hat h 102 (oC 9 fs))
  (k1 : x5 < x7 → R (some (.int (g15 j16))) (hset h 102 (moC (stV v_17 0) z_18)))
  (k2 : ¬ x5 < x7 → R (some (.int (-1 : Int32))) (hset h 102 (moC (stV v_19 (5 : Int32)) z_20)))
  : Ev G (d + 3) k n M_Mo_apart 213 [.ref 102, .long x1, ev_unk, .int x3, .int x4, .int x5, .int x6, .int x7, ev_unk, ev_unk, ev_unk, ev_unk, ev_unk] [] h R :=
  Ev.go (pc' := 217) (ls' := [.ref 102, .long x1, ev_unk, .int x3, .int x4, .int x5, .int x6, .int x7, ev_unk, ev_unk, ev_unk, ev_unk, ev_unk]) (st' := [.int x7, .int x5]) [.iload 5, .iload 7] (by decide +kernel) rfl <|
  Ev.br (i := .if_icmp .ge (17)) (P := x5 < x7) (t := 220) (f := 234) (r := []) (by decide +kernel) rfl (fun c1 =>
    Ev.go (pc' := 222) (ls' := [.ref 102, .long x1, ev_unk, .int x3, .int x4, .int x5, .int x6, .int x7, ev_unk, ev_unk, ev_unk, ev_unk, ev_unk]) (st' := [.ref 102, .ref 102]) [.aload_n 0, .aload_n 0] (by decide +kernel) rfl <|
    Ev.getf f_Mo_48 (by decide +kernel) a1 rfl <|
    Ev.go (pc' := 227) (ls' := [.ref 102, .long x1, ev_unk, .int x3, .int x4, .int x5, .int x6, .int x7, ev_unk, ev_unk, ev_unk, ev_unk, ev_unk]) (st' := [.int x5, .ref 125, .ref 102]) [.iload 5] (by decide +kernel) rfl <|
    Ev.iald (j := j16) (by decide +kernel) a2 (i3 c1) <|
    Ev.cV0 (M' := M_Mo_gives_I) (as := [.int (g15 j16)]) (rest := []) l_Mo_245 M_Mo_gives_I_ok M_Mo_gives_I_in M_Mo_gives_I_se (by decide +kernel) ⟨_, a1⟩ rfl rfl rfl (Nat.le_of_ble_eq_true rfl) (Nat.le_of_ble_eq_true rfl) (s_Mo_gives_I (pr4 c1) <| show Ev G (d + 3) _ _ M_Mo_apart 231 [.ref 102, .long x1, ev_unk, .int x3, .int x4, .int x5, .int x6, .int x7, ev_unk, ev_unk, ev_unk, ev_unk, ev_unk] [.int (g15 j16)] (hset h 102 (moC (stV v_17 0) z_18)) R from
      Ev.go (pc' := 239) (ls' := [.ref 102, .long x1, ev_unk, .int x3, .int x4, .int x5, .int x6, .int x7, ev_unk, ev_unk, ev_unk, ev_unk, ev_unk]) (st' := [.int (g15 j16)]) [.goto (8)] (by decide +kernel) rfl <|
      Ev.ret (r := (some (.int (g15 j16)))) (Or.inl ⟨_, rfl, by decide +kernel, _, rfl, rfl⟩) (k1 c1)
    )
  ) (fun c1 =>
    Ev.go (pc' := 236) (ls' := [.ref 102, .long x1, ev_unk, .int x3, .int x4, .int x5, .int x6, .int x7, ev_unk, ev_unk, ev_unk, ev_unk, ev_unk]) (st' := [.int (5 : Int32), .ref 102]) [.aload_n 0, .iconst 5] (by decide +kernel) rfl <|
    Ev.cV0 (M' := M_Mo_refuse) (as := [.int (5 : Int32)]) (rest := []) l_Mo_226 M_Mo_refuse_ok M_Mo_refuse_in M_Mo_refuse_se (by decide +kernel) (r6 c1) rfl rfl rfl (Nat.le_of_ble_eq_true rfl) (Nat.le_of_ble_eq_true rfl) (s_Mo_refuse (pr5 c1) <| show Ev G (d + 3) _ _ M_Mo_apart 239 [.ref 102, .long x1, ev_unk, .int x3, .int x4, .int x5, .int x6, .int x7, ev_unk, ev_unk, ev_unk, ev_unk, ev_unk] [.int (-1 : Int32)] (hset h 102 (moC (stV v_19 (5 : Int32)) z_20)) R from
      Ev.ret (r := (some (.int (-1 : Int32)))) (Or.inl ⟨_, rfl, by decide +kernel, _, rfl, rfl⟩) (k2 c1)
    )
  )
section S68
variable {G : ev_G} {d : Nat} {h h1 : ev_H} {R : Option Value → ev_H → Prop} {Q : QS}
theorem MX.at125 (X : MX h) (K : Kp h h1 125 126) (g : ∃ g, hat h1 125 (aI 32 g)) : MX h1 := by
  obtain ⟨⟨g1, a1⟩, ⟨g2, a2⟩, ⟨g3, a3⟩, ⟨g4, a4⟩, a5, a6, a7, a8, ⟨g9, a9⟩, -⟩ := X
  exact ⟨⟨_, K.hat a1 (by omega)⟩, ⟨_, K.hat a2 (by omega)⟩, ⟨_, K.hat a3 (by omega)⟩, ⟨_, K.hat a4 (by omega)⟩, K.hat a5 (by omega), fun i hi => ⟨_, K.hat (a6 i hi).choose_spec (by omega)⟩, K.hat a7 (by omega), fun i hi => ⟨_, K.hat (a8 i hi).choose_spec (by omega)⟩, ⟨_, K.hat a9 (by omega)⟩, g⟩
theorem MR.at125 (H : MR h Q) (K : Kp h h1 125 126) (g : ∃ g, hat h1 125 (aI 32 g)) : MR h1 Q := H.work (K.wide (by omega) (by omega)) (K.2 105 (by have := H.num; omega) (by omega)) (H.mx.at125 K g)
theorem s_apartL {x : Int64} {rI : Int32} {n kk ii : Nat} {o : Nat → Nat} {g : Nat → Int32} (H : MR h Q) (hn : n ≤ 32) (ho : ∀ j, j < n → o j < sN (qS Q)) (hd : ∀ i j, i < n → j < n → o i = o j → i = j) (m124 : hat h 124 (aI 32 g)) (hg : ∀ j, j < n → g j = nI (o j)) (hk : kk ≤ 32) (hi : ii < 2147483648) (hR1 : ii < min n kk → ∀ h', Kp h h' 125 126 → MR h' Q → ∀ bm z, hat h' 102 (moC (moQ Q bm) z) → R (some (.int (nI (o (tkG (a_D (qS Q) o) n ii).1)))) (hset h' 102 (moC (stV (moQ Q bm) 0) z))) (hR2 : ¬ ii < min n kk → ∀ h', Kp h h' 125 126 → MR h' Q → ∀ bm z, hat h' 102 (moC (moQ Q bm) z) → R (some (.int (-1 : Int32))) (hset h' 102 (moC (stV (moQ Q bm) 5) z))) : Ev G (d + 7) 0 0 M_Mo_apart 56 [.ref 102, .long x, ev_unk, .int rI, .int (nI kk), .int (nI ii), .int (nI n), .int (nI 0), ev_unk, ev_unk, ev_unk, ev_unk, ev_unk] [] h R := by
  have hz := H.szN
  have hzB := H.szB
  have codes := H.gd.2.2
  have D48 : ∀ i j, i < n → j < n → a_D (qS Q) o i j ≤ 48 := fun i j h1 h2 => Nat.le_trans (pop_num hzB (numB_xor (by omega) (codes.2 _ (ho i h1)) (codes.2 _ (ho j h2)))) hzB
  have D0 : ∀ i j, i < n → j < n → i ≠ j → 1 ≤ a_D (qS Q) o i j := fun i j h1 h2 ne => Nat.pos_of_ne_zero fun y => by
    have e := pop_z y
    have lo := ho i h1
    have lo2 := ho j h2
    rcases Nat.lt_trichotomy (o i) (o j) with c | c | c
    · exact codes.1 _ _ c lo2 e
    · exact ne (hd i j h1 h2 c)
    · exact codes.1 _ _ c lo e.symm
  have DD : ∀ i, a_D (qS Q) o i i = 0 := fun i => by
    unfold a_D
    rw [Int64.xor_self]; exact cnt_zero fun k _ => l_0 k
  have D64 : ∀ i j, a_D (qS Q) o i j ≤ 64 := fun i j => pop_le _
  have Dc : ∀ i j, a_D (qS Q) o i j = pop (sCo (qS Q) (o j) ^^^ sCo (qS Q) (o i)) := fun i j => by unfold a_D; rw [Int64.xor_comm]
  revert hR1 D48 D0 DD D64 Dc
  generalize a_D (qS Q) o = D
  intro hR1 D48 D0 DD D64 Dc
  have main := up_to (P := fun m => ∀ h' g', Kp h h' 125 126 → MR h' Q → hat h' 124 (aI 32 g) → hat h' 125 (aI 32 g') → (∀ t, t < m → g' t = nI (o (tkG D n t).1)) → Ev G (d + 7) 0 0 M_Mo_apart 56 [.ref 102, .long x, ev_unk, .int rI, .int (nI kk), .int (nI ii), .int (nI n), .int (nI m), ev_unk, ev_unk, ev_unk, ev_unk, ev_unk] [] h' R) (N := min n kk) ?_ ?_ 0 (Nat.zero_le _)
  · obtain ⟨g', m125⟩ := H.mx.2.2.2.2.2.2.2.2.2
    exact main h g' (Kp.refl _ _ _) H m124 m125 fun t ht => absurd ht (Nat.not_lt_zero t)
  · intro m hm ih h1 g' K1 H m4 m5 hg'
    obtain ⟨bm, z, m1⟩ := H.2.1
    have mn : m < n := by omega
    have n0 : 0 < n := by omega
    have TL := fun t => tkG_lt D n0 t
    refine b_Mo_apart_56 (d := d + 4) (fun _ _ => ?_) (fun _ k => absurd (nI_lt (by omega) (by omega)) k) (fun k => absurd (nI_lt mn (by omega)) k)
    -- the value that is scanned
    have hf : ∀ w, (if m = 0 then 1 else aaN ((tkG D n m).2 w)) ≤ 50 := fun w => by split; omega; have := aa_le ((tkG D n m).2 w); omega
    have am : amx (fun w => if m = 0 then 1 else aaN ((tkG D n m).2 w)) (n - 1) = (tkG D n m).1 := by
      cases m with
      | zero =>
        have : ∀ q, amx (fun w => if (0 : Nat) = 0 then 1 else aaN ((tkG D n 0).2 w)) q = 0 := fun q => by
          induction q with
          | zero => rfl
          | succ q ihq => show (if (1 : Nat) < 1 then q + 1 else amx _ q) = 0; rw [if_neg (by omega)]; exact ihq
        rw [this]; rfl
      | succ m =>
        show _ = amx (tkG D n (m + 1)).2 (n - 1)
        have le48 : ∀ j, j < n → (tkG D n (m + 1)).2 j ≤ 48 := fun j hj => Nat.le_trans (Nat.min_le_right _ _) (D48 j _ hj (TL m))
        refine amx_iff fun i j hi hj => ?_
        have a := le48 i (by omega)
        have b := le48 j (by omega)
        show (if m + 1 = 0 then 1 else aaN _) < (if m + 1 = 0 then 1 else aaN _) ↔ _
        rw [if_neg (by omega), if_neg (by omega)]
        unfold aaN
        split <;> split <;> omega
    have fz : ∀ w, (if m = 0 then 1 else aaN ((tkG D n m).2 w)) = (fun w => if m = 0 then 1 else aaN ((tkG D n m).2 w)) w := fun w => rfl
    have f0 : m = 0 → ∀ w, (fun w => if m = 0 then 1 else aaN ((tkG D n m).2 w)) w = 1 := fun y w => if_pos y
    have fm : m ≠ 0 → ∀ w, (fun w => if m = 0 then 1 else aaN ((tkG D n m).2 w)) w = aaN ((tkG D n m).2 w) := fun y w => if_neg y
    revert hf am f0 fm
    clear fz
    generalize (fun w => if m = 0 then 1 else aaN ((tkG D n m).2 w)) = f
    intro hf am f0 fm
    have hf : ∀ w, f w ≤ 50 := fun w => by
      by_cases y : m = 0
      · rw [f0 y]; omega
      · rw [fm y]; have := aa_le ((tkG D n m).2 w); omega
    have Z := up_to (P := fun w => Ev G (d + 7) 0 0 M_Mo_apart 79 [.ref 102, .long x, ev_unk, .int rI, .int (nI kk), .int (nI ii), .int (nI n), .int (nI m), .int (nI (amx f (w - 1))), .int (nI (moN f w) - 1), .int (nI w), ev_unk, ev_unk] [] h1 R) (N := n) ?_ ?_ 0 (Nat.zero_le _)
    · exact Z
    · intro w hw ihz
      have yes : nI w < nI n := nI_lt hw (by omega)
      obtain ⟨st1, st2⟩ := amx_at f w
      have ml := moN_le hf w
      have hfw := hf w
      -- the end of the inner loop
      have fin : Ev G (d + 7) 0 0 M_Mo_apart 102 [.ref 102, .long x, ev_unk, .int rI, .int (nI kk), .int (nI ii), .int (nI n), .int (nI m), .int (nI (amx f (w - 1))), .int (nI (moN f w) - 1), .int (nI w), .int (nI (f w) - 1), .int (nI m)] [] h1 R := by
        have no := nl_self (n := m) (by omega)
        rw [Nat.add_sub_cancel, st1, st2] at ihz
        refine b_Mo_apart_102 (d := d + 4) (j16 := 0) (j18 := 0) (S19 := qS Q) (S21 := qS Q) (c_20 := 0) (c_22 := 0) m1 m5 m4 (fun k => absurd k no) (fun k => absurd k no) (fun k => absurd k no) (fun k => absurd k no) (fun k => absurd k no) (fun k => absurd k no) (fun k => absurd k no) (fun k => absurd k no) (fun k => absurd k no) (fun k => absurd k no) (fun k => absurd k no) (fun k => absurd k no) (fun _ k => ?_) (fun _ k => ?_)
        · have k := (aa_lt _ (by omega) _ (by omega)).mp k
          rw [if_pos k, if_pos k] at ihz
          rw [nI_1]; exact ihz
        · have k : ¬ moN f w < f w := fun y => k ((aa_lt _ (by omega) _ (by omega)).mpr y)
          rw [if_neg k, if_neg k] at ihz
          rw [nI_1]; exact ihz
      refine b_Mo_apart_79 (d := d + 4) (j16 := 0) (j18 := 0) m1 m4 m5 (fun k => absurd yes k) (fun k => absurd yes k) (fun _ k => ?_) (fun _ k => ?_) (fun k => absurd yes k)
      · have k0 : m = 0 := (nI_eq (b := 0) (by omega) (by omega)).mp k
        rw [f0 k0, k0] at fin
        rw [k0]; exact fin
      · have k0 : m ≠ 0 := fun y => k (by rw [y]; rfl)
        have I := up_to (P := fun t => Ev G (d + 7) 0 0 M_Mo_apart 102 [.ref 102, .long x, ev_unk, .int rI, .int (nI kk), .int (nI ii), .int (nI n), .int (nI m), .int (nI (amx f (w - 1))), .int (nI (moN f w) - 1), .int (nI w), .int (nI (aaN ((tkG D n t).2 w)) - 1), .int (nI t)] [] h1 R) (N := m) ?_ ?_ 0 (Nat.zero_le _)
        · have e48 : (48 : Int32) = nI (aaN ((tkG D n 0).2 w)) - 1 := by show (48 : Int32) = nI (aaN 49) - 1; decide +kernel
          rw [e48]; exact I
        · intro t ht iht
          have ty : nI t < nI m := nI_lt ht (by omega)
          have st : (tkG D n (t + 1)).2 w = min ((tkG D n t).2 w) (D w (tkG D n t).1) := rfl
          have le := tkG_le D n t w
          have tl := TL t
          have Dx := Dc w (tkG D n t).1
          have D6 := D64 w (tkG D n t).1
          have Dn := D0 w (tkG D n t).1 hw tl
          have Dz := DD w
          have hgt := hg' t ht
          rw [st] at iht
          revert iht le tl Dx D6 Dn hgt
          generalize (tkG D n t).1 = T
          generalize (tkG D n t).2 w = gm
          intro iht le tl Dx D6 Dn hgt
          have oT := ho T tl
          have ow := ho w hw
          have hgw := hg w hw
          refine b_Mo_apart_102 (d := d + 4) (j16 := t) (j18 := w) (c_20 := o T) (c_22 := o w) m1 m5 m4 (fun _ => ixn (by omega) (by omega)) (fun _ => ixn (by omega) (by omega)) (fun _ _ => ixn (by omega) (by omega)) (fun _ _ => H.ms) (fun _ _ => H.ok) (fun _ _ => ⟨hgt, oT⟩) (fun _ _ => ixn (by omega) (by omega)) (fun _ _ => H.ms) (fun _ _ => H.ok) (fun _ _ => ⟨hgw, ow⟩) (fun _ k => ?_) (fun _ k => ?_) (fun k => absurd ty k) (fun k => absurd ty k)
          · rw [hgt, hgw] at k
            have k := hd T w tl hw ((nI_eq (by omega) (by omega)).mp k)
            subst k
            rw [Dz, Nat.min_zero] at iht
            rw [nI_1, aa_neg _ (by have := aa_le gm; omega)]
            exact iht
          · rw [hgt, hgw] at k
            have k : w ≠ T := fun y => k (by rw [y])
            have := Dn k
            rw [← Dx, nI_1, aa_min _ (by omega) this _ (by omega)]
            exact iht
        · rw [fm k0] at fin; exact fin
    · have no := nl_self (n := n) (by omega)
      rw [am]
      have tl := TL m
      refine b_Mo_apart_79 (d := d + 4) (j16 := (tkG D n m).1) (j18 := m) m1 m4 m5 (fun _ => ixn (by omega) (by omega)) (fun _ => ixn (by omega) (by omega)) (fun k => absurd k no) (fun k => absurd k no) (fun _ => ?_)
      rw [nI_1, hg _ tl]
      have K5 : Kp h1 (hset h1 125 (aI 32 (upd g' m (nI (o (tkG D n m).1))))) 125 126 := (Kp.refl h1 _ _).set _ (by omega) (by omega)
      have m55 := hat_set m5 (c' := aI 32 (upd g' m (nI (o (tkG D n m).1))))
      refine ih _ _ (K1.trans K5) (H.at125 K5 ⟨_, m55⟩) (K5.hat m4 (by omega)) m55 fun t ht => ?_
      show (if t = m then _ else g' t) = _
      by_cases c : t = m
      · subst c; rw [if_pos rfl]
      · rw [if_neg c]; exact hg' t (by omega)
  · intro h1 g' K1 H m4 m5 hg'
    obtain ⟨bm, z, m1⟩ := H.2.1
    have last : Ev G (d + 7) 0 0 M_Mo_apart 213 [.ref 102, .long x, ev_unk, .int rI, .int (nI kk), .int (nI ii), .int (nI n), .int (nI (min n kk)), ev_unk, ev_unk, ev_unk, ev_unk, ev_unk] [] h1 R := by
      refine b_Mo_apart_213 (d := d + 4) (j16 := ii) m1 m5 (fun k => ?_) (fun _ => m1) (fun _ => m1) (fun _ => ⟨_, m1⟩) (fun k => ?_) (fun k => ?_)
      · have := (nI_ltI (by omega) (by omega)).mp k
        exact ixn (by omega) (by omega)
      · have k := (nI_ltI (by omega) (by omega)).mp k
        rw [hg' ii k]
        exact hR1 k h1 K1 H bm z m1
      · have k : ¬ ii < min n kk := fun y => k (nI_lt y (by omega))
        exact hR2 k h1 K1 H bm z m1
    refine b_Mo_apart_56 (d := d + 4) (fun k1 k2 => ?_) (fun _ _ => last) (fun _ => last)
    have k1 := (nI_ltI (by omega) (by omega)).mp k1
    have k2 := (nI_ltI (by omega) (by omega)).mp k2
    omega
theorem s_Mo_apart2 {x : Int64} {r k i : Int32} (H : MR h Q) (hR : ∀ h', Kp h h' 102 126 → MR h' (stQ Q (a_apart (qS Q) x r k i).2) → R (some (.int (a_apart (qS Q) x r k i).1)) h') : Ev G (d + 7) 0 0 M_Mo_apart 0 [.ref 102, .long x, ev_unk, .int r, .int k, .int i, ev_unk, ev_unk, ev_unk, ev_unk, ev_unk, ev_unk, ev_unk] [] h R := by
  obtain ⟨bm, z, m1⟩ := H.2.1
  have hz := H.szN
  have hzB := H.szB
  have f := fr32x k
  have bad : numB x (sB (qS Q)) = true → inR r (sB (qS Q) + 1) = true → (b2i (frB k.toInt64 1 32)) = 0 → a_apart (qS Q) x r k i = (-1, 1) := fun a b c => by
    rw [f] at c
    have c := b2i_e0 c
    unfold a_apart
    rw [if_pos a, if_pos b]
    by_cases k1 : k < 1
    · rw [if_pos k1]
    · rw [if_neg k1]
      rw [decide_eq_true k1, Bool.true_and] at c
      rw [if_pos (Decidable.of_not_not (of_decide_eq_false c))]
  refine b_Mo_apart_0 (d := d + 4) H.ms ⟨_, m1⟩ (fun c1 => m1) (fun c1 => ⟨_, m1⟩) (fun c1 => H.ms) (fun c1 => H.ok) (fun c1 => ⟨_, m1⟩) (fun c1 c2 => m1) (fun c1 c2 => ⟨_, m1⟩) (fun c1 c2 c3 => m1) (fun c1 c2 c3 => ⟨_, m1⟩) (fun c1 c2 c3 c4 => m1) (fun c1 c2 c3 c4 => ⟨_, m1⟩) (fun c1 c2 c3 c4 => ⟨_, m1⟩) (fun c1 => H.fin (Kp.refl _ _ _) m1 hR (by unfold a_apart; rw [b2i_e0 c1]; rfl)) (fun c1 c2 => H.fin (Kp.refl _ _ _) m1 hR (by unfold a_apart; rw [b2i_n0 c1, b2i_e0 c2]; rfl)) (fun c1 c2 c3 => H.fin (Kp.refl _ _ _) m1 hR (bad (b2i_n0 c1) (b2i_n0 c2) c3)) (fun c1 c2 c3 c4 => H.fin (Kp.refl _ _ _) m1 hR (by rw [f] at c3; have c3 := b2i_n0 c3; rw [Bool.and_eq_true] at c3; unfold a_apart; rw [if_pos (b2i_n0 c1), if_pos (b2i_n0 c2), if_neg (of_decide_eq_true c3.1), if_neg (of_decide_eq_true c3.2), if_pos c4])) (fun c1 c2 c3 c4 => ?_)
  rw [f] at c3
  have c3 := b2i_n0 c3
  rw [Bool.and_eq_true] at c3
  have l1 := of_decide_eq_true c3.1
  have l2 := of_decide_eq_true c3.2
  have nx := b2i_n0 c1
  have hr := vN_lt (by omega) (b2i_n0 c2)
  have e : a_apart (qS Q) x r k i = if i < k then (if i < nI (a_rk (qS Q) (a_nr (qS Q) x (vN r)) x).1 then (nI ((a_rk (qS Q) (a_nr (qS Q) x (vN r)) x).2.1 (tkG (a_D (qS Q) (a_rk (qS Q) (a_nr (qS Q) x (vN r)) x).2.1) (a_rk (qS Q) (a_nr (qS Q) x (vN r)) x).1 (vN i)).1), 0) else (-1, 5)) else (-1, 5) := by unfold a_apart; rw [if_pos nx, if_pos (b2i_n0 c2), if_neg l1, if_neg l2, if_neg c4]
  rw [e] at hR
  obtain ⟨kk, hkk, rfl⟩ : ∃ kk, kk ≤ 32 ∧ k = nI kk := by
    obtain ⟨j, hj, rfl⟩ := nI_of (x := k) (fun z => l1 (by rw [Int32.lt_iff_toInt_lt] at z ⊢; rw [show (0 : Int32).toInt = 0 from rfl] at z; rw [show (1 : Int32).toInt = 1 from rfl]; omega))
    refine ⟨j, ?_, rfl⟩
    rcases Nat.lt_or_ge 32 j with z | z
    · exact absurd (nI_lt (a := 32) z hj) l2
    · exact z
  obtain ⟨ii, hii, rfl⟩ := nI_of (x := i) c4
  rw [vN_nI (by omega)] at hR
  clear e bad f c1 c2 c3 l1 l2 c4
  generalize vN r = rn at hr hR
  obtain ⟨rfl, hr⟩ := hr
  refine s_Mo_nearSet (d := d) H (by omega) fun h1 K1 H1 => ?_
  have K1 : Kp h h1 102 126 := K1.wide (by omega) (by omega)
  obtain ⟨bm, z, m1⟩ := H1.2.1
  refine b_Mo_apart_48 (d := d + 4) ⟨_, m1⟩ ?_
  have inN : ∀ j, a_nr (qS Q) x rn j = true → j < sN (qS Q) := fun j q => nrP_lt q
  refine (s_Mo_ranks (d := d) H1 nx inN fun h2 g K2 H2 m4 hg => ?_).room (by omega) (Nat.le_refl _) (Nat.le_refl _)
  have K2 : Kp h h2 102 126 := K1.trans (K2.wide (by omega) (by omega))
  refine b_Mo_apart_51 (d := d + 4) ?_
  have en := (rkS_enum (p := a_nr (qS Q) x rn) (far := a_far1 (qS Q) x) (m := 32) (by omega)).1
  have n32 : (a_rk (qS Q) (a_nr (qS Q) x rn) x).1 ≤ 32 := by
    have := rkS_n (a_nr (qS Q) x rn) (a_far1 (qS Q) x) 32
    have l := cnt_le (a_nr (qS Q) x rn) 32
    show (rkS _ _ 32).1 ≤ 32
    omega
  have ef : a_rk (qS Q) (a_nr (qS Q) x rn) x = rkS (a_nr (qS Q) x rn) (a_far1 (qS Q) x) 32 := rfl
  rw [← ef] at en
  revert hR hg en n32
  clear ef
  generalize (a_rk (qS Q) (a_nr (qS Q) x rn) x).1 = n
  generalize (a_rk (qS Q) (a_nr (qS Q) x rn) x).2.1 = o
  intro hR hg en n32
  have lt_iff : nI ii < nI kk ↔ ii < kk := nI_ltI (by omega) (by omega)
  have lt_iff2 : nI ii < nI n ↔ ii < n := nI_ltI (by omega) (by omega)
  refine s_apartL (d := d) H2 n32 (fun j hj => inN _ (en.1 j hj).2) (fun i j hi hj q => ?_) m4 hg hkk hii (fun lt h3 K3 H3 bm z m1 => ?_) (fun nl h3 K3 H3 bm z m1 => ?_)
  · rcases Nat.lt_trichotomy i j with c | c | c
    · have := en.2 i j c hj; rw [q] at this; omega
    · exact c
    · have := en.2 j i c hi; rw [q] at this; omega
  · refine H3.fin (K2.trans (K3.wide (by omega) (by omega))) m1 hR ?_
    rw [if_pos (lt_iff.mpr (by omega)), if_pos (lt_iff2.mpr (by omega))]
  · refine H3.fin (K2.trans (K3.wide (by omega) (by omega))) m1 hR ?_
    by_cases a : ii < kk
    · rw [if_pos (lt_iff.mpr a), if_neg (fun y => nl (by have := lt_iff2.mp y; omega))]
    · rw [if_neg (fun y => a (lt_iff.mp y))]
end S68
