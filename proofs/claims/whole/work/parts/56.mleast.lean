/-! the model's least costs are the class's -/
/-- a running least, from a million on -/
def mnC (f : Nat → Nat) : Nat → Nat
  | 0 => 1000000
  | k + 1 => min (mnC f k) (f k)
def mLt (c : Nat → Nat → Nat) (W : Nat → Nat) (P : Nat) : Nat → Nat → Nat
  | 0, s => if s = 0 then 0 else 1000000
  | t + 1, s => mnC (fun b => c (P - (t + 1)) b + mLt c W P t (s - b)) (min s (W (P - (t + 1)) + 1) + 1)
theorem mnC_le (f : Nat → Nat) : ∀ k, mnC f k ≤ 1000000
  | 0 => Nat.le_refl _
  | k + 1 => by
    have := mnC_le f k
    show min (mnC f k) (f k) ≤ 1000000
    omega
theorem mnC_at (f : Nat → Nat) : ∀ k j, j < k → mnC f k ≤ f j
  | 0, j, h => absurd h (Nat.not_lt_zero j)
  | k + 1, j, h => by
    show min (mnC f k) (f k) ≤ f j
    by_cases c : j = k
    · subst c; omega
    · have := mnC_at f k j (by omega); omega
theorem mnC_ge {f : Nat → Nat} {v : Nat} (hv : v ≤ 1000000) : ∀ k, (∀ j, j < k → v ≤ f j) → v ≤ mnC f k
  | 0, _ => hv
  | k + 1, h => by
    have := mnC_ge hv k fun j hj => h j (by omega)
    have := h k (by omega)
    show v ≤ min (mnC f k) (f k)
    omega
theorem bst_first {f : Nat → Nat} : ∀ {n j : Nat}, j < bst f n → f (bst f n) < f j
  | 0, j, h => absurd h (Nat.not_lt_zero j)
  | n + 1, j, h => by
    have e : bst f (n + 1) = if f (n + 1) < f (bst f n) then n + 1 else bst f n := rfl
    rw [e] at h ⊢
    by_cases c : f (n + 1) < f (bst f n)
    · rw [if_pos c] at h ⊢
      have := bst_min f n j (by omega)
      omega
    · rw [if_neg c] at h ⊢
      exact bst_first h
theorem mLt_eq {c : Nat → Nat → Nat} {W : Nat → Nat} {P : Nat} (hc : cOk c P) : ∀ t s, t < P → mLt c W P (t + 1) s = bLp c W P (P - (t + 1)) s
  | 0, s, h => by
    have cb := (hc (P - 1) (by omega)).2
    rw [bLp_last]
    show mnC (fun b => c (P - 1) b + (if s - b = 0 then 0 else 1000000)) (min s (W (P - 1) + 1) + 1) = _
    by_cases q : s ≤ W (P - 1) + 1
    · rw [if_pos q, Nat.min_eq_left q]
      apply Nat.le_antisymm
      · have := mnC_at (fun b => c (P - 1) b + (if s - b = 0 then 0 else 1000000)) (s + 1) s (by omega)
        have e : (if s - s = 0 then 0 else 1000000) = 0 := if_pos (Nat.sub_self s)
        simp only [e] at this
        exact this
      · refine mnC_ge (by have := cb s; omega) _ fun j hj => ?_
        show c (P - 1) s ≤ c (P - 1) j + (if s - j = 0 then 0 else 1000000)
        by_cases w : j = s
        · subst w; omega
        · rw [if_neg (by omega)]; have := cb s; omega
    · rw [if_neg q]
      apply Nat.le_antisymm (mnC_le _ _)
      refine mnC_ge (Nat.le_refl _) _ fun j hj => ?_
      show 1000000 ≤ c (P - 1) j + (if s - j = 0 then 0 else 1000000)
      rw [if_neg (by omega)]; omega
  | t + 1, s, h => by
    have hi : P - (t + 1 + 1) + 1 < P := by omega
    have ih : ∀ s, mLt c W P (t + 1) s = bLp c W P (P - (t + 1 + 1) + 1) s := fun s => by
      rw [mLt_eq hc t s (by omega), show P - (t + 1) = P - (t + 1 + 1) + 1 by omega]
    have e : mLt c W P (t + 1 + 1) s = mnC (bF c W P (P - (t + 1 + 1)) s) (min s (W (P - (t + 1 + 1)) + 1) + 1) := by
      show mnC (fun b => c (P - (t + 1 + 1)) b + mLt c W P (t + 1) (s - b)) _ = _
      congr 1
      funext b
      rw [ih]; rfl
    rw [e, bLp_step hi]
    have le := bLp_le (W := W) hc (by omega) (t + 1) (P - (t + 1 + 1)) s (by omega)
    rw [bLp_step hi] at le
    apply Nat.le_antisymm
    · exact mnC_at _ _ _ (by have := bst_le (bF c W P (P - (t + 1 + 1)) s) (min s (W (P - (t + 1 + 1)) + 1)); unfold bSh; omega)
    · refine mnC_ge le _ fun j hj => ?_
      exact bst_min _ _ j (by omega)
