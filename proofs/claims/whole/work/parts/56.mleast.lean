/-! the model's least costs are the class's -/
/-- a running least, from a million on -/
def mnC (f : Nat → Nat) : Nat → Nat
  | 0 => 1000000
  | k + 1 => min (mnC f k) (f k)
def mLt (c : Nat → Nat → Nat) (W : Nat → Nat) (P : Nat) : Nat → Nat → Nat
  | 0, s => if s = 0 then 0 else 1000000
  | t + 1, s => mnC (fun b => c (P - (t + 1)) b + mLt c W P t (s - b)) (min s (W (P - (t + 1)) + 1) + 1)
theorem mnC_le (f : Nat → Nat) : ∀ k, mnC f k ≤ 1000000
  | 0 => Nat.le_refl _
  | k + 1 => by
    have := mnC_le f k
    show min (mnC f k) (f k) ≤ 1000000
    omega
theorem mnC_at (f : Nat → Nat) : ∀ k j, j < k → mnC f k ≤ f j
  | 0, j, h => absurd h (Nat.not_lt_zero j)
  | k + 1, j, h => by
    show min (mnC f k) (f k) ≤ f j
    by_cases c : j = k
    · subst c; omega
    · have := mnC_at f k j (by omega); omega
theorem mnC_ge {f : Nat → Nat} {v : Nat} (hv : v ≤ 1000000) : ∀ k, (∀ j, j < k → v ≤ f j) → v ≤ mnC f k
  | 0, _ => hv
  | k + 1, h => by
    have := mnC_ge hv k fun j hj => h j (by omega)
    have := h k (by omega)
    show v ≤ min (mnC f k) (f k)
    omega
theorem bst_first {f : Nat → Nat} : ∀ {n j : Nat}, j < bst f n → f (bst f n) < f j
  | 0, j, h => absurd h (Nat.not_lt_zero j)
  | n + 1, j, h => by
    have e : bst f (n + 1) = if f (n + 1) < f (bst f n) then n + 1 else bst f n := rfl
    rw [e] at h ⊢
    by_cases c : f (n + 1) < f (bst f n)
    · rw [if_pos c] at h ⊢
      have := bst_min f n j (by omega)
      omega
    · rw [if_neg c] at h ⊢
      exact bst_first h
theorem mLt_eq {c : Nat → Nat → Nat} {W : Nat → Nat} {P : Nat} (hc : cOk c P) : ∀ t s, t < P → mLt c W P (t + 1) s = bLp c W P (P - (t + 1)) s
  | 0, s, h => by
    have cb := (hc (P - 1) (by omega)).2
    rw [bLp_last]
    show mnC (fun b => c (P - 1) b + (if s - b = 0 then 0 else 1000000)) (min s (W (P - 1) + 1) + 1) = _
    by_cases q : s ≤ W (P - 1) + 1
    · rw [if_pos q, Nat.min_eq_left q]
      apply Nat.le_antisymm
      · have := mnC_at (fun b => c (P - 1) b + (if s - b = 0 then 0 else 1000000)) (s + 1) s (by omega)
        have e : (if s - s = 0 then 0 else 1000000) = 0 := if_pos (Nat.sub_self s)
        simp only [e] at this
        exact this
      · refine mnC_ge (by have := cb s; omega) _ fun j hj => ?_
        show c (P - 1) s ≤ c (P - 1) j + (if s - j = 0 then 0 else 1000000)
        by_cases w : j = s
        · subst w; omega
        · rw [if_neg (by omega)]; have := cb s; omega
    · rw [if_neg q]
      apply Nat.le_antisymm (mnC_le _ _)
      refine mnC_ge (Nat.le_refl _) _ fun j hj => ?_
      show 1000000 ≤ c (P - 1) j + (if s - j = 0 then 0 else 1000000)
      rw [if_neg (by omega)]; omega
  | t + 1, s, h => by
    have hi : P - (t + 1 + 1) + 1 < P := by omega
    have ih : ∀ s, mLt c W P (t + 1) s = bLp c W P (P - (t + 1 + 1) + 1) s := fun s => by
      rw [mLt_eq hc t s (by omega), show P - (t + 1) = P - (t + 1 + 1) + 1 by omega]
    have e : mLt c W P (t + 1 + 1) s = mnC (bF c W P (P - (t + 1 + 1)) s) (min s (W (P - (t + 1 + 1)) + 1) + 1) := by
      show mnC (fun b => c (P - (t + 1 + 1)) b + mLt c W P (t + 1) (s - b)) _ = _
      congr 1
      funext b
      rw [ih]; rfl
    rw [e, bLp_step hi]
    have le := bLp_le (W := W) hc (by omega) (t + 1) (P - (t + 1 + 1)) s (by omega)
    rw [bLp_step hi] at le
    apply Nat.le_antisymm
    · exact mnC_at _ _ _ (by have := bst_le (bF c W P (P - (t + 1 + 1)) s) (min s (W (P - (t + 1 + 1)) + 1)); unfold bSh; omega)
    · refine mnC_ge le _ fun j hj => ?_
      exact bst_min _ _ j (by omega)
/-- how much the last t parts can take -/
def cpT (W : Nat → Nat) (P : Nat) : Nat → Nat
  | 0 => 0
  | t + 1 => cpT W P t + (W (P - (t + 1)) + 1)
theorem bLp_feas {c : Nat → Nat → Nat} {W : Nat → Nat} {P : Nat} (hc : cOk c P) : ∀ t s, t < P → s ≤ cpT W P (t + 1) → bLp c W P (P - (t + 1)) s ≤ 32 * (t + 1)
  | 0, s, h, hs => by
    have e : cpT W P (0 + 1) = 0 + (W (P - 1) + 1) := rfl
    rw [bLp_last, if_pos (by omega)]
    have := (hc (P - 1) (by omega)).2 s
    omega
  | t + 1, s, h, hs => by
    have e : cpT W P (t + 1 + 1) = cpT W P (t + 1) + (W (P - (t + 1 + 1)) + 1) := rfl
    have hi : P - (t + 1 + 1) + 1 < P := by omega
    rw [bLp_step hi]
    have m := bst_min (bF c W P (P - (t + 1 + 1)) s) (min s (W (P - (t + 1 + 1)) + 1)) (min s (W (P - (t + 1 + 1)) + 1)) (Nat.le_refl _)
    have f : bF c W P (P - (t + 1 + 1)) s (min s (W (P - (t + 1 + 1)) + 1)) ≤ 32 * (t + 1 + 1) := by
      unfold bF
      have a := (hc (P - (t + 1 + 1)) (by omega)).2 (min s (W (P - (t + 1 + 1)) + 1))
      have b := bLp_feas (W := W) hc t (s - min s (W (P - (t + 1 + 1)) + 1)) (by omega) (by omega)
      rw [show P - (t + 1) = P - (t + 1 + 1) + 1 by omega] at b
      omega
    unfold bSh
    omega
theorem bLp_inf {c : Nat → Nat → Nat} {W : Nat → Nat} {P : Nat} : ∀ t s, t < P → cpT W P (t + 1) < s → 1000000 ≤ bLp c W P (P - (t + 1)) s
  | 0, s, h, hs => by
    have e : cpT W P (0 + 1) = 0 + (W (P - 1) + 1) := rfl
    rw [bLp_last, if_neg (by omega)]
    exact Nat.le_refl _
  | t + 1, s, h, hs => by
    have e : cpT W P (t + 1 + 1) = cpT W P (t + 1) + (W (P - (t + 1 + 1)) + 1) := rfl
    have hi : P - (t + 1 + 1) + 1 < P := by omega
    rw [bLp_step hi]
    have l := bst_le (bF c W P (P - (t + 1 + 1)) s) (min s (W (P - (t + 1 + 1)) + 1))
    unfold bSh bF
    unfold bF at l
    have b := bLp_inf (c := c) (W := W) (P := P) t (s - bst (fun sh => c (P - (t + 1 + 1)) sh + bLp c W P (P - (t + 1 + 1) + 1) (s - sh)) (min s (W (P - (t + 1 + 1)) + 1))) (by omega) (by omega)
    rw [show P - (t + 1) = P - (t + 1 + 1) + 1 by omega] at b
    omega
/-- what is left never is more than the parts to come can take -/
theorem bLf_fits {c : Nat → Nat → Nat} {W : Nat → Nat} {P r : Nat} (hc : cOk c P) (hP : P ≤ 6) (hr : r + 1 ≤ cpT W P P) : ∀ i, i < P → bLf c W P r i ≤ cpT W P (P - i)
  | 0, _ => hr
  | i + 1, h => by
    have ih := bLf_fits hc hP hr i (by omega)
    have a := bLp_feas (W := W) hc (P - i - 1) (bLf c W P r i) (by omega) (by rw [show P - i - 1 + 1 = P - i by omega]; exact ih)
    rw [show P - (P - i - 1 + 1) = i by omega, bLp_step h] at a
    have e : bLf c W P r (i + 1) = bLf c W P r i - bSh c W P i (bLf c W P r i) := rfl
    rw [e]
    refine Nat.le_of_not_lt fun z => ?_
    have b := bLp_inf (c := c) (W := W) (P := P) (P - (i + 1) - 1) _ (by omega) (by rw [show P - (i + 1) - 1 + 1 = P - (i + 1) by omega]; exact z)
    rw [show P - (P - (i + 1) - 1 + 1) = i + 1 by omega] at b
    have f : bF c W P i (bLf c W P r i) (bSh c W P i (bLf c W P r i)) = c i (bSh c W P i (bLf c W P r i)) + bLp c W P (i + 1) (bLf c W P r i - bSh c W P i (bLf c W P r i)) := rfl
    rw [f] at a
    have : 32 * (P - i - 1 + 1) ≤ 192 := by omega
    omega
theorem cpT_sum {W : Nat → Nat} {P : Nat} : ∀ t, t ≤ P → cpT W P t + sumT W (P - t) = sumT W P + t
  | 0, _ => by show 0 + sumT W (P - 0) = _; rw [Nat.sub_zero]; omega
  | t + 1, h => by
    have ih := cpT_sum (W := W) (P := P) t (by omega)
    have e : sumT W (P - t) = sumT W (P - (t + 1)) + W (P - (t + 1)) := by
      rw [show P - t = (P - (t + 1)) + 1 by omega]; rfl
    show cpT W P t + (W (P - (t + 1)) + 1) + sumT W (P - (t + 1)) = _
    omega
/-- the model's first budget that gives the least cost is the class's share -/
theorem first_sh {c : Nat → Nat → Nat} {W : Nat → Nat} {P r i : Nat} (hc : cOk c P) (hP : P ≤ 6) (hr : r + 1 ≤ cpT W P P) (hi : i < P) : c i (bShr c W P r i) + mLt c W P (P - (i + 1)) (bLf c W P r i - bShr c W P r i) = bLp c W P i (bLf c W P r i) ∧ bShr c W P r i ≤ min (bLf c W P r i) (W i + 1) ∧ ∀ j, j < bShr c W P r i → c i j + mLt c W P (P - (i + 1)) (bLf c W P r i - j) ≠ bLp c W P i (bLf c W P r i) := by
  have fit := bLf_fits hc hP hr i hi
  by_cases l : i + 1 = P
  · have sh : bShr c W P r i = bLf c W P r i := if_pos l
    have iP : i = P - 1 := by omega
    have e1 : cpT W P (P - i) = 0 + (W (P - 1) + 1) := by rw [show P - i = 0 + 1 by omega]; rfl
    rw [e1] at fit
    have eW : W i = W (P - 1) := congrArg W iP
    rw [sh]
    have z : ∀ s, mLt c W P (P - (i + 1)) s = if s = 0 then 0 else 1000000 := fun s => by rw [show P - (i + 1) = 0 by omega]; rfl
    have bl : bLp c W P i (bLf c W P r i) = c i (bLf c W P r i) := by
      have := bLp_last (c := c) (W := W) (P := P) (s := bLf c W P r i)
      rw [← iP] at this
      rw [← eW] at fit
      rw [this, if_pos (by omega)]
    have cb := (hc i hi).2 (bLf c W P r i)
    refine ⟨by rw [z, if_pos (by omega), bl]; rfl, by omega, fun j hj => ?_⟩
    rw [z, if_neg (by omega), bl]
    omega
  · have sh : bShr c W P r i = bSh c W P i (bLf c W P r i) := if_neg l
    rw [sh]
    have z : ∀ s, mLt c W P (P - (i + 1)) s = bLp c W P (i + 1) s := fun s => by
      rw [show P - (i + 1) = (P - (i + 1) - 1) + 1 by omega, mLt_eq hc _ s (by omega)]
      congr 1; omega
    have st := bLp_step (c := c) (W := W) (P := P) (i := i) (s := bLf c W P r i) (show i + 1 < P by omega)
    refine ⟨by rw [z, st]; rfl, bst_le _ _, fun j hj => ?_⟩
    rw [z, st]
    exact Nat.ne_of_gt (bst_first hj)
