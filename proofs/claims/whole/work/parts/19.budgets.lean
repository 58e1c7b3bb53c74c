/-! BUDGETS -/
theorem aI_inj {N M : Nat} {f g : Nat → Int32} (h : aI N f = aI M g) : f = g := by unfold aI at h; simp_all
def bst (f : Nat → Nat) : Nat → Nat
  | 0 => 0
  | n + 1 => if f (n + 1) < f (bst f n) then n + 1 else bst f n
theorem bst_le (f : Nat → Nat) : ∀ n, bst f n ≤ n
  | 0 => Nat.le_refl _
  | n + 1 => by
    have := bst_le f n
    show (if f (n + 1) < f (bst f n) then n + 1 else bst f n) ≤ n + 1
    split <;> omega
theorem bst_min (f : Nat → Nat) : ∀ n i, i ≤ n → f (bst f n) ≤ f i
  | 0, i, hi => by have : i = 0 := by omega
                   subst this; exact Nat.le_refl _
  | n + 1, i, hi => by
    have ih := bst_min f n
    show f (if f (n + 1) < f (bst f n) then n + 1 else bst f n) ≤ f i
    by_cases e : i = n + 1
    · subst e; split <;> omega
    · have := ih i (by omega)
      split <;> omega
/-- the least cost of the last t + 1 parts, with shares that are s together -/
def bL (c : Nat → Nat → Nat) (W : Nat → Nat) (last : Nat) : Nat → Nat → Nat
  | 0, s => if s ≤ W last + 1 then c last s else 1000000
  | t + 1, s => c (last - (t + 1)) (bst (fun sh => c (last - (t + 1)) sh + bL c W last t (s - sh)) (min s (W (last - (t + 1)) + 1))) + bL c W last t (s - bst (fun sh => c (last - (t + 1)) sh + bL c W last t (s - sh)) (min s (W (last - (t + 1)) + 1)))
def bLp (c : Nat → Nat → Nat) (W : Nat → Nat) (P i s : Nat) : Nat := bL c W (P - 1) (P - 1 - i) s
def bF (c : Nat → Nat → Nat) (W : Nat → Nat) (P i s sh : Nat) : Nat := c i sh + bLp c W P (i + 1) (s - sh)
def bSh (c : Nat → Nat → Nat) (W : Nat → Nat) (P i s : Nat) : Nat := bst (bF c W P i s) (min s (W i + 1))
theorem bLp_step {c : Nat → Nat → Nat} {W : Nat → Nat} {P i s : Nat} (h : i + 1 < P) : bLp c W P i s = bF c W P i s (bSh c W P i s) := by
  unfold bLp bSh bF
  have e : P - 1 - i = (P - 1 - (i + 1)) + 1 := by omega
  rw [e]
  show c (P - 1 - ((P - 1 - (i + 1)) + 1)) _ + _ = _
  have e2 : P - 1 - ((P - 1 - (i + 1)) + 1) = i := by omega
  rw [e2]; rfl
theorem bLp_last {c : Nat → Nat → Nat} {W : Nat → Nat} {P s : Nat} : bLp c W P (P - 1) s = if s ≤ W (P - 1) + 1 then c (P - 1) s else 1000000 := by
  unfold bLp; rw [Nat.sub_self]; rfl
def cOk (c : Nat → Nat → Nat) (P : Nat) : Prop := ∀ i, i < P → c i 0 = 0 ∧ ∀ s, c i s ≤ 32
theorem bLp_le {c : Nat → Nat → Nat} {W : Nat → Nat} {P : Nat} (hc : cOk c P) (hP : 0 < P) : ∀ t i s, i + t + 1 = P → bLp c W P i s ≤ 1000000
  | 0, i, s, e => by
    have : i = P - 1 := by omega
    subst this
    rw [bLp_last]; split
    · have := (hc (P - 1) (by omega)).2 s; omega
    · omega
  | t + 1, i, s, e => by
    rw [bLp_step (by omega)]
    have h1 := bst_min (bF c W P i s) (min s (W i + 1)) 0 (by omega)
    have h2 : bF c W P i s 0 = bLp c W P (i + 1) s := by unfold bF; rw [(hc i (by omega)).1]; simp
    have h3 := bLp_le (W := W) hc hP t (i + 1) s (by omega)
    unfold bSh; omega
theorem bF_le {c : Nat → Nat → Nat} {W : Nat → Nat} {P i s sh : Nat} (hc : cOk c P) (h : i + 1 < P) : bF c W P i s sh ≤ 1000032 := by
  have := (hc i (by omega)).2 sh
  have := bLp_le (W := W) hc (by omega) (P - 1 - (i + 1)) (i + 1) (s - sh) (by omega)
  unfold bF; omega
/-- how the shares are left over, part by part -/
def bLf (c : Nat → Nat → Nat) (W : Nat → Nat) (P r : Nat) : Nat → Nat
  | 0 => r + 1
  | i + 1 => bLf c W P r i - bSh c W P i (bLf c W P r i)
def bShr (c : Nat → Nat → Nat) (W : Nat → Nat) (P r i : Nat) : Nat := if i + 1 = P then bLf c W P r i else bSh c W P i (bLf c W P r i)
theorem bLf_le (c : Nat → Nat → Nat) (W : Nat → Nat) (P r : Nat) : ∀ i, bLf c W P r i ≤ r + 1
  | 0 => Nat.le_refl _
  | i + 1 => by
    have := bLf_le c W P r i
    show bLf c W P r i - _ ≤ _; omega
/-- the budgets' cells: costs are known of the parts below kc, least costs of the parts from lo on -/
def BuP (h : ev_H) (P : Nat) (W : Nat → Nat) (c : Nat → Nat → Nat) (kc r lo : Nat) : Prop := 1 ≤ P ∧ P ≤ 6 ∧ (∀ i, i < P → W i ≤ 24) ∧ hat h 81 (oC 0 [.ref 82, .int (nI P), .ref 83, .ref 90, .ref 97]) ∧ (∃ brf, hat h 82 (aI 6 brf) ∧ ∀ i, i < P → brf i = nI (W i)) ∧ hat h 83 (aG 6 (fun i => if i < 6 then some (83 + 1 + i) else none)) ∧ hat h 90 (aG 6 (fun i => if i < 6 then some (90 + 1 + i) else none)) ∧ (∀ i, i < 6 → ∃ g, hat h (83 + 1 + i) (aI 26 g) ∧ (i < kc → ∀ s, s ≤ W i + 1 → g s = nI (c i s))) ∧ (∀ i, i < 6 → ∃ g, hat h (90 + 1 + i) (aI 50 g) ∧ (lo ≤ i → i < P → ∀ s, s ≤ r + 1 → g s = nI (bLp c W P i s))) ∧ ∃ ch, hat h 97 (aI 6 ch)
theorem BuP.kg {h h1 : ev_H} {P : Nat} {W : Nat → Nat} {c : Nat → Nat → Nat} {kc r lo l1 h2 : Nat} (B : BuP h P W c kc r lo) (K : Kg h h1 l1 h2) (q : h2 ≤ 81 ∨ 98 ≤ l1) : BuP h1 P W c kc r lo := by
  obtain ⟨b1, b2, b3, b4, ⟨brf, b5, b5'⟩, b6, b7, b8, b9, ch, b10⟩ := B
  refine ⟨b1, b2, b3, K.hat b4 (by omega), ⟨brf, K.hat b5 (by omega), b5'⟩, K.hat b6 (by omega), K.hat b7 (by omega), fun i hi => ?_, fun i hi => ?_, ch, K.hat b10 (by omega)⟩
  · obtain ⟨g, t, v⟩ := b8 i hi; exact ⟨g, K.hat t (by omega), v⟩
  · obtain ⟨g, t, v⟩ := b9 i hi; exact ⟨g, K.hat t (by omega), v⟩
/-- nothing is known any more -/
theorem BuP.none {h : ev_H} {P : Nat} {W : Nat → Nat} {c c' : Nat → Nat → Nat} {kc r r' lo : Nat} (B : BuP h P W c kc r lo) : BuP h P W c' 0 r' P := by
  obtain ⟨b1, b2, b3, b4, b5, b6, b7, b8, b9, b10⟩ := B
  refine ⟨b1, b2, b3, b4, b5, b6, b7, fun i hi => ?_, fun i hi => ?_, b10⟩
  · obtain ⟨g, t, v⟩ := b8 i hi; exact ⟨g, t, fun q => absurd q (Nat.not_lt_zero i)⟩
  · obtain ⟨g, t, v⟩ := b9 i hi; exact ⟨g, t, fun q q2 => absurd q2 (by omega)⟩
theorem b_JA_fill_0 {G : ev_G} {d k n : Nat} {h : ev_H} {R : Option Value → ev_H → Prop} {x0 : Nat} {x1 : Int32} {N1 : Nat} {g2 : Nat → Int32}
  (a1 : hat h x0 (aI N1 g2))
  (k1 : Ev G d k n M_JA_fill 5 [.ref x0, .int x1, .int (0 : Int32), .int (nI N1)] [] h R)
  : Ev G d k n M_JA_fill 0 [.ref x0, .int x1, ev_unk, ev_unk] [] h R :=
  Ev.go (pc' := 3) (ls' := [.ref x0, .int x1, .int (0 : Int32), ev_unk]) (st' := [.ref x0]) [.iconst 0, .istore_n 2, .aload_n 0] (by decide +kernel) rfl <|
  Ev.alen (by decide +kernel) a1 (by decide) <|
  Ev.go (pc' := 5) (ls' := [.ref x0, .int x1, .int (0 : Int32), .int (nI N1)]) (st' := []) [.istore_n 3] (by decide +kernel) rfl <|
  k1
theorem b_JA_fill_5 {G : ev_G} {d k n : Nat} {h : ev_H} {R : Option Value → ev_H → Prop} {x0 : Nat} {x1 : Int32} {x2 : Int32} {x3 : Int32} {N1 : Nat} {g2 : Nat → Int32} {j3 : Nat}
  (a1 : hat h x0 (aI N1 g2))
  (i2 : x2 < x3 → ev_ix x2 j3 N1)
  (k1 : x2 < x3 → Ev G d k n M_JA_fill 5 [.ref x0, .int x1, .int (x2 + (1 : Int32)), .int x3] [] (hset h x0 (aI N1 (upd g2 j3 x1))) R)
  (k2 : ¬ x2 < x3 → R none h)
  : Ev G d k n M_JA_fill 5 [.ref x0, .int x1, .int x2, .int x3] [] h R :=
  Ev.go (pc' := 7) (ls' := [.ref x0, .int x1, .int x2, .int x3]) (st' := [.int x3, .int x2]) [.iload_n 2, .iload_n 3] (by decide +kernel) rfl <|
  Ev.br (i := .if_icmp .ge (13)) (P := x2 < x3) (t := 10) (f := 20) (r := []) (by decide +kernel) rfl (fun c1 =>
    Ev.go (pc' := 13) (ls' := [.ref x0, .int x1, .int x2, .int x3]) (st' := [.int x1, .int x2, .ref x0]) [.aload_n 0, .iload_n 2, .iload_n 1] (by decide +kernel) rfl <|
    Ev.iast (j := j3) (by decide +kernel) a1 (i2 c1) <| show Ev G d _ _ M_JA_fill 14 [.ref x0, .int x1, .int x2, .int x3] [] (hset h x0 (aI N1 (upd g2 j3 x1))) R from
    Ev.go (pc' := 5) (ls' := [.ref x0, .int x1, .int (x2 + (1 : Int32)), .int x3]) (st' := []) [.iinc 2 (1), .goto (-12)] (by decide +kernel) rfl <|
    (k1 c1)
  ) (fun c1 =>
    Ev.ret (r := none) (Or.inr (Or.inr (Or.inl ⟨rfl, by decide +kernel, rfl⟩))) (k2 c1)
  )
theorem b_Bu_costWith_0 {G : ev_G} {d k n : Nat} {h : ev_H} {R : Option Value → ev_H → Prop} {x1 : Int32} {x2 : Int32} {x3 : Int32} {f_parts_1 : Int32} {j2 : Nat} {g3 : Nat → Int32} {j4 : Nat} {j5 : Nat} {g6 : Nat → Int32} {j7 : Nat}
  (a1 : hat h 81 (oC 0 [.ref 82, .int f_parts_1, .ref 83, .ref 90, .ref 97]))
  (a2 : hat h 83 (aG 6 (fun i => if i < 6 then some (83 + 1 + i) else none)))
  (a4 : hat h (83 + 1 + j2) (aI 26 g3))
  (a6 : hat h 90 (aG 6 (fun i => if i < 6 then some (90 + 1 + i) else none)))
  (a8 : hat h (90 + 1 + j5) (aI 50 g6))
  (i3 : ev_ix x1 j2 6)
  (i5 : ev_ix x2 j4 26)
  (i7 : ev_ix (x1 + (1 : Int32)) j5 6)
  (i9 : ev_ix (x3 - x2) j7 50)
  (k1 : R (some (.int ((g3 j4) + (g6 j7)))) h)
  : Ev G d k n M_Bu_costWith 0 [.ref 81, .int x1, .int x2, .int x3] [] h R :=
  Ev.go (pc' := 1) (ls' := [.ref 81, .int x1, .int x2, .int x3]) (st' := [.ref 81]) [.aload_n 0] (by decide +kernel) rfl <|
  Ev.getf f_Bu_21 (by decide +kernel) a1 rfl <|
  Ev.go (pc' := 5) (ls' := [.ref 81, .int x1, .int x2, .int x3]) (st' := [.int x1, .ref 83]) [.iload_n 1] (by decide +kernel) rfl <|
  Ev.gald (j := j2) (b := 83 + 1 + j2) (by decide +kernel) a2 i3 (if_pos (show j2 < 6 from (i3).2.1)) <|
  Ev.go (pc' := 7) (ls' := [.ref 81, .int x1, .int x2, .int x3]) (st' := [.int x2, .ref (83 + 1 + j2)]) [.iload_n 2] (by decide +kernel) rfl <|
  Ev.iald (j := j4) (by decide +kernel) a4 i5 <|
  Ev.go (pc' := 9) (ls' := [.ref 81, .int x1, .int x2, .int x3]) (st' := [.ref 81, .int (g3 j4)]) [.aload_n 0] (by decide +kernel) rfl <|
  Ev.getf f_Bu_24 (by decide +kernel) a1 rfl <|
  Ev.go (pc' := 15) (ls' := [.ref 81, .int x1, .int x2, .int x3]) (st' := [.int (x1 + (1 : Int32)), .ref 90, .int (g3 j4)]) [.iload_n 1, .iconst 1, .iadd] (by decide +kernel) rfl <|
  Ev.gald (j := j5) (b := 90 + 1 + j5) (by decide +kernel) a6 i7 (if_pos (show j5 < 6 from (i7).2.1)) <|
  Ev.go (pc' := 19) (ls' := [.ref 81, .int x1, .int x2, .int x3]) (st' := [.int (x3 - x2), .ref (90 + 1 + j5), .int (g3 j4)]) [.iload_n 3, .iload_n 2, .isub] (by decide +kernel) rfl <|
  Ev.iald (j := j7) (by decide +kernel) a8 i9 <|
  Ev.go (pc' := 21) (ls' := [.ref 81, .int x1, .int x2, .int x3]) (st' := [.int ((g3 j4) + (g6 j7))]) [.iadd] (by decide +kernel) rfl <|
  Ev.ret (r := (some (.int ((g3 j4) + (g6 j7))))) (Or.inl ⟨_, rfl, by decide +kernel, _, rfl, rfl⟩) k1
theorem b_Bu_cheapestShare_0 {G : ev_G} {d k n : Nat} {h : ev_H} {R : Option Value → ev_H → Prop} {x1 : Int32} {x2 : Int32}
  (r1 : ∃ fs, hat h 81 (oC 0 fs))
  (k1 : Ev G d 0 0 M_Bu_costWith 0 [.ref 81, .int x1, .int (0 : Int32), .int x2] [] h (fun r h1 => Ev G (d + 1) k n M_Bu_cheapestShare 9 [.ref 81, .int x1, .int x2, .int (0 : Int32), ev_unk, ev_unk, ev_unk] (r.toList ++ []) h1 R))
  : Ev G (d + 1) k n M_Bu_cheapestShare 0 [.ref 81, .int x1, .int x2, ev_unk, ev_unk, ev_unk, ev_unk] [] h R :=
  Ev.go (pc' := 6) (ls' := [.ref 81, .int x1, .int x2, .int (0 : Int32), ev_unk, ev_unk, ev_unk]) (st' := [.int x2, .int (0 : Int32), .int x1, .ref 81]) [.iconst 0, .istore_n 3, .aload_n 0, .iload_n 1, .iconst 0, .iload_n 2] (by decide +kernel) rfl <|
  Ev.cV0 (M' := M_Bu_costWith) (as := [.int x1, .int (0 : Int32), .int x2]) (rest := []) l_Bu_73 M_Bu_costWith_ok M_Bu_costWith_in M_Bu_costWith_se (by decide +kernel) r1 rfl rfl rfl (Nat.le_of_ble_eq_true rfl) (Nat.le_of_ble_eq_true rfl) k1
theorem b_Bu_cheapestShare_9 {G : ev_G} {d k n : Nat} {h : ev_H} {R : Option Value → ev_H → Prop} {x1 : Int32} {x2 : Int32} {x3 : Int32} {y0 : Int32}
  (k1 : Ev G (d + 1) k n M_Bu_cheapestShare 14 [.ref 81, .int x1, .int x2, .int x3, .int y0, .int (1 : Int32), ev_unk] [] h R)
  : Ev G (d + 1) k n M_Bu_cheapestShare 9 [.ref 81, .int x1, .int x2, .int x3, ev_unk, ev_unk, ev_unk] [.int y0] h R :=
  Ev.go (pc' := 14) (ls' := [.ref 81, .int x1, .int x2, .int x3, .int y0, .int (1 : Int32), ev_unk]) (st' := []) [.istore 4, .iconst 1, .istore 5] (by decide +kernel) rfl <|
  k1
theorem b_Bu_cheapestShare_14 {G : ev_G} {d k n : Nat} {h : ev_H} {R : Option Value → ev_H → Prop} {x1 : Int32} {x2 : Int32} {x3 : Int32} {x4 : Int32} {x5 : Int32} {f_parts_1 : Int32} {g2 : Nat → Int32} {j3 : Nat}
  (a1 : hat h 81 (oC 0 [.ref 82, .int f_parts_1, .ref 83, .ref 90, .ref 97]))
  (a2 : hat h 82 (aI 6 g2))
  (i3 : ev_ix x1 j3 6)
  (k1 : (if ((g2 j3) + (1 : Int32)) < x2 then ((g2 j3) + (1 : Int32)) else x2) < x5 → R (some (.int x3)) h)
  (k2 : ¬ (if ((g2 j3) + (1 : Int32)) < x2 then ((g2 j3) + (1 : Int32)) else x2) < x5 → Ev G d 0 0 M_Bu_costWith 0 [.ref 81, .int x1, .int x5, .int x2] [] h (fun r h1 => Ev G (d + 1) k n M_Bu_cheapestShare 39 [.ref 81, .int x1, .int x2, .int x3, .int x4, .int x5, ev_unk] (r.toList ++ []) h1 R))
  : Ev G (d + 1) k n M_Bu_cheapestShare 14 [.ref 81, .int x1, .int x2, .int x3, .int x4, .int x5, ev_unk] [] h R :=
  Ev.go (pc' := 18) (ls' := [.ref 81, .int x1, .int x2, .int x3, .int x4, .int x5, ev_unk]) (st' := [.ref 81, .int x2, .int x5]) [.iload 5, .iload_n 2, .aload_n 0] (by decide +kernel) rfl <|
  Ev.getf f_Bu_9 (by decide +kernel) a1 rfl <|
  Ev.go (pc' := 22) (ls' := [.ref 81, .int x1, .int x2, .int x3, .int x4, .int x5, ev_unk]) (st' := [.int x1, .ref 82, .int x2, .int x5]) [.iload_n 1] (by decide +kernel) rfl <|
  Ev.iald (j := j3) (by decide +kernel) a2 i3 <|
  Ev.go (pc' := 25) (ls' := [.ref 81, .int x1, .int x2, .int x3, .int x4, .int x5, ev_unk]) (st' := [.int ((g2 j3) + (1 : Int32)), .int x2, .int x5]) [.iconst 1, .iadd] (by decide +kernel) rfl <|
  Ev.mmin lL_Bu_77 w_minS w_mathI w_minC (Nat.le_of_ble_eq_true rfl) (by decide +kernel) <|
  Ev.br (i := .if_icmp .gt (33)) (P := (if ((g2 j3) + (1 : Int32)) < x2 then ((g2 j3) + (1 : Int32)) else x2) < x5) (t := 61) (f := 31) (r := []) (by decide +kernel) rfl (fun c1 =>
    Ev.go (pc' := 62) (ls' := [.ref 81, .int x1, .int x2, .int x3, .int x4, .int x5, ev_unk]) (st' := [.int x3]) [.iload_n 3] (by decide +kernel) rfl <|
    Ev.ret (r := (some (.int x3))) (Or.inl ⟨_, rfl, by decide +kernel, _, rfl, rfl⟩) (k1 c1)
  ) (fun c1 =>
    Ev.go (pc' := 36) (ls' := [.ref 81, .int x1, .int x2, .int x3, .int x4, .int x5, ev_unk]) (st' := [.int x2, .int x5, .int x1, .ref 81]) [.aload_n 0, .iload_n 1, .iload 5, .iload_n 2] (by decide +kernel) rfl <|
    Ev.cV0 (M' := M_Bu_costWith) (as := [.int x1, .int x5, .int x2]) (rest := []) l_Bu_73 M_Bu_costWith_ok M_Bu_costWith_in M_Bu_costWith_se (by decide +kernel) ⟨_, a1⟩ rfl rfl rfl (Nat.le_of_ble_eq_true rfl) (Nat.le_of_ble_eq_true rfl) (k2 c1)
  )
theorem b_Bu_cheapestShare_39 {G : ev_G} {d k n : Nat} {h : ev_H} {R : Option Value → ev_H → Prop} {x1 : Int32} {x2 : Int32} {x3 : Int32} {x4 : Int32} {x5 : Int32} {y0 : Int32}
  (k1 : y0 < x4 → Ev G (d + 1) k n M_Bu_cheapestShare 14 [.ref 81, .int x1, .int x2, .int x5, .int y0, .int (x5 + (1 : Int32)), ev_unk] [] h R)
  (k2 : ¬ y0 < x4 → Ev G (d + 1) k n M_Bu_cheapestShare 14 [.ref 81, .int x1, .int x2, .int x3, .int x4, .int (x5 + (1 : Int32)), ev_unk] [] h R)
  : Ev G (d + 1) k n M_Bu_cheapestShare 39 [.ref 81, .int x1, .int x2, .int x3, .int x4, .int x5, ev_unk] [.int y0] h R :=
  Ev.go (pc' := 45) (ls' := [.ref 81, .int x1, .int x2, .int x3, .int x4, .int x5, .int y0]) (st' := [.int x4, .int y0]) [.istore 6, .iload 6, .iload 4] (by decide +kernel) rfl <|
  Ev.br (i := .if_icmp .ge (10)) (P := y0 < x4) (t := 48) (f := 55) (r := []) (by decide +kernel) rfl (fun c1 =>
    Ev.go (pc' := 14) (ls' := [.ref 81, .int x1, .int x2, .int x5, .int y0, .int (x5 + (1 : Int32)), .int y0]) (st' := []) [.iload 6, .istore 4, .iload 5, .istore_n 3, .iinc 5 (1), .goto (-44)] (by decide +kernel) rfl <|
    Ev.forget (ls' := [.ref 81, .int x1, .int x2, .int x5, .int y0, .int (x5 + (1 : Int32)), ev_unk]) ⟨Or.inr rfl, Or.inr rfl, Or.inr rfl, Or.inr rfl, Or.inr rfl, Or.inr rfl, Or.inl rfl, trivial⟩ <|
    (k1 c1)
  ) (fun c1 =>
    Ev.go (pc' := 14) (ls' := [.ref 81, .int x1, .int x2, .int x3, .int x4, .int (x5 + (1 : Int32)), .int y0]) (st' := []) [.iinc 5 (1), .goto (-44)] (by decide +kernel) rfl <|
    Ev.forget (ls' := [.ref 81, .int x1, .int x2, .int x3, .int x4, .int (x5 + (1 : Int32)), ev_unk]) ⟨Or.inr rfl, Or.inr rfl, Or.inr rfl, Or.inr rfl, Or.inr rfl, Or.inr rfl, Or.inl rfl, trivial⟩ <|
    (k2 c1)
  )
theorem b_Bu_partLike_0 {G : ev_G} {d k n : Nat} {h : ev_H} {R : Option Value → ev_H → Prop} {x1 : Nat} {f_bits_1 : Int32} {f_parts_2 : Int32} {f_size_3 : Int32} {fv4 : Value} {f_parts_5 : Int32} {g6 : Nat → Int32} {g7 : Nat → Int32}
  (a1 : hat h x1 (oC 6 [.int f_bits_1, .int f_parts_2, .ref (x1 + 1), .int f_size_3, .ref (x1 + 2), .ref (x1 + 3), fv4]))
  (a2 : hat h 81 (oC 0 [.ref 82, .int f_parts_5, .ref 83, .ref 90, .ref 97]))
  (a4 : hat h (x1 + 1) (aI 6 g6))
  (a6 : hat h 82 (aI 6 g7))
  (e3 : x1 ≠ 81)
  (e5 : (x1 + 1) ≠ 81)
  (e7 : x1 ≠ 82)
  (e8 : (x1 + 1) ≠ 82)
  (k1 : R none (hset (hset h 81 (oC 0 [.ref 82, .int f_parts_2, .ref 83, .ref 90, .ref 97])) 82 (aI 6 (va_cpy g6 g7 0 0 6))))
  : Ev G (d + 1) k n M_Bu_partLike 0 [.ref 81, .ref x1] [] h R :=
  Ev.go (pc' := 2) (ls' := [.ref 81, .ref x1]) (st' := [.ref x1, .ref 81]) [.aload_n 0, .aload_n 1] (by decide +kernel) rfl <|
  Ev.getf f_Bu_30 (by decide +kernel) a1 rfl <|
  Ev.putf f_Bu_15 (by decide +kernel) a2 (Nat.le_of_ble_eq_true rfl) rfl (fun q => nomatch q) <| show Ev G (d + 1) _ _ M_Bu_partLike 8 [.ref 81, .ref x1] [] (hset h 81 (oC 0 [.ref 82, .int f_parts_2, .ref 83, .ref 90, .ref 97])) R from
  Ev.go (pc' := 9) (ls' := [.ref 81, .ref x1]) (st' := [.ref x1]) [.aload_n 1] (by decide +kernel) rfl <|
  Ev.getf f_Bu_33 (by decide +kernel) (hat_ne a1 e3) rfl <|
  Ev.go (pc' := 14) (ls' := [.ref 81, .ref x1]) (st' := [.ref 81, .int (0 : Int32), .ref (x1 + 1)]) [.iconst 0, .aload_n 0] (by decide +kernel) rfl <|
  Ev.getf f_Bu_9 (by decide +kernel) (hat_set a2) rfl <|
  Ev.go (pc' := 20) (ls' := [.ref 81, .ref x1]) (st' := [.int (6 : Int32), .int (0 : Int32), .ref 82, .int (0 : Int32), .ref (x1 + 1)]) [.iconst 0, .bipush (6)] (by decide +kernel) rfl <|
  Ev.acpyI (sp := 0) (dp := 0) (cn := 6) lL_Bu_34 w_cpN w_cpS w_sysI (by decide +kernel) (hat_ne a4 e5) (hat_ne a6 (by decide)) rfl rfl rfl (by decide) (by decide) (by decide) (by decide) (Nat.le_of_ble_eq_true rfl) <| show Ev G (d + 1) _ _ M_Bu_partLike 23 [.ref 81, .ref x1] [] (hset (hset h 81 (oC 0 [.ref 82, .int f_parts_2, .ref 83, .ref 90, .ref 97])) 82 (aI 6 (va_cpy g6 g7 0 0 6))) R from
  Ev.ret (r := none) (Or.inr (Or.inr (Or.inl ⟨rfl, by decide +kernel, rfl⟩))) k1
theorem b_Bu_partInTwo_0 {G : ev_G} {d k n : Nat} {h : ev_H} {R : Option Value → ev_H → Prop} {x1 : Int32} {x2 : Int32} {f_parts_1 : Int32} {g2 : Nat → Int32}
  (a1 : hat h 81 (oC 0 [.ref 82, .int f_parts_1, .ref 83, .ref 90, .ref 97]))
  (a2 : hat h 82 (aI 6 g2))
  (k1 : R none (hset (hset (hset h 81 (oC 0 [.ref 82, .int (2 : Int32), .ref 83, .ref 90, .ref 97])) 82 (aI 6 (upd g2 0 x1))) 82 (aI 6 (upd (upd g2 0 x1) 1 x2))))
  : Ev G d k n M_Bu_partInTwo 0 [.ref 81, .int x1, .int x2] [] h R :=
  Ev.go (pc' := 2) (ls' := [.ref 81, .int x1, .int x2]) (st' := [.int (2 : Int32), .ref 81]) [.aload_n 0, .iconst 2] (by decide +kernel) rfl <|
  Ev.putf f_Bu_15 (by decide +kernel) a1 (Nat.le_of_ble_eq_true rfl) rfl (fun q => nomatch q) <| show Ev G d _ _ M_Bu_partInTwo 5 [.ref 81, .int x1, .int x2] [] (hset h 81 (oC 0 [.ref 82, .int (2 : Int32), .ref 83, .ref 90, .ref 97])) R from
  Ev.go (pc' := 6) (ls' := [.ref 81, .int x1, .int x2]) (st' := [.ref 81]) [.aload_n 0] (by decide +kernel) rfl <|
  Ev.getf f_Bu_9 (by decide +kernel) (hat_set a1) rfl <|
  Ev.go (pc' := 11) (ls' := [.ref 81, .int x1, .int x2]) (st' := [.int x1, .int (0 : Int32), .ref 82]) [.iconst 0, .iload_n 1] (by decide +kernel) rfl <|
  Ev.iast (j := 0) (by decide +kernel) (hat_ne a2 (by decide)) ⟨rfl, by decide, by decide⟩ <| show Ev G d _ _ M_Bu_partInTwo 12 [.ref 81, .int x1, .int x2] [] (hset (hset h 81 (oC 0 [.ref 82, .int (2 : Int32), .ref 83, .ref 90, .ref 97])) 82 (aI 6 (upd g2 0 x1))) R from
  Ev.go (pc' := 13) (ls' := [.ref 81, .int x1, .int x2]) (st' := [.ref 81]) [.aload_n 0] (by decide +kernel) rfl <|
  Ev.getf f_Bu_9 (by decide +kernel) (hat_ne (hat_set a1) (by decide)) rfl <|
  Ev.go (pc' := 18) (ls' := [.ref 81, .int x1, .int x2]) (st' := [.int x2, .int (1 : Int32), .ref 82]) [.iconst 1, .iload_n 2] (by decide +kernel) rfl <|
  Ev.iast (j := 1) (by decide +kernel) (hat_set (hat_ne a2 (by decide))) ⟨rfl, by decide, by decide⟩ <| show Ev G d _ _ M_Bu_partInTwo 19 [.ref 81, .int x1, .int x2] [] (hset (hset (hset h 81 (oC 0 [.ref 82, .int (2 : Int32), .ref 83, .ref 90, .ref 97])) 82 (aI 6 (upd g2 0 x1))) 82 (aI 6 (upd (upd g2 0 x1) 1 x2))) R from
  Ev.ret (r := none) (Or.inr (Or.inr (Or.inl ⟨rfl, by decide +kernel, rfl⟩))) k1
section S19
variable {G : ev_G} {d : Nat} {h : ev_H} {R : Option Value → ev_H → Prop} {S : AS}
theorem s_JA_fill {a N : Nat} {g : Nat → Int32} {v : Int32} (ha : hat h a (aI N g)) (hN : N < 2147483648) (hR : ∀ h' g', Kp h h' a (a + 1) → hat h' a (aI N g') → (∀ i, i < N → g' i = v) → R none h') : Ev G d 0 0 M_JA_fill 0 [.ref a, .int v, ev_unk, ev_unk] [] h R := by
  refine b_JA_fill_0 ha ?_
  have L := up0 (P := fun i => ∀ h' g', Kp h h' a (a + 1) → hat h' a (aI N g') → (∀ j, j < i → g' j = v) → Ev G d 0 0 M_JA_fill 5 [.ref a, .int v, .int (nI i), .int (nI N)] [] h' R) N ?_ ?_
  · exact L h g (Kp.refl _ _ _) ha (fun j q => absurd q (Nat.not_lt_zero j))
  · intro i hi ih h' g' K t e
    refine b_JA_fill_5 (j3 := i) t (fun _ => ixn hi hN) (fun _ => ?_) (fun q => absurd (nI_lt hi (by omega)) q)
    rw [nI_1]
    refine ih _ _ (K.set _ (by omega) (by omega)) ⟨t.1, hset_eq _ _ _⟩ fun j hj => ?_
    by_cases ej : j = i
    · subst ej; simp only [upd, if_true]
    · simp only [upd, if_neg ej]; exact e j (by omega)
  · intro h' g' K t e
    exact b_JA_fill_5 (j3 := 0) t (fun q => absurd q (nl_self (by omega))) (fun q => absurd q (nl_self (by omega))) (fun _ => hR h' g' K t e)
variable {P : Nat} {W : Nat → Nat} {c : Nat → Nat → Nat} {kc r lo : Nat}
theorem s_Bu_costWith {p sh s : Nat} {pI shI sI : Int32} (B : BuP h P W c kc r lo) (hp : pI = nI p ∧ p + 1 < P ∧ p < kc ∧ lo ≤ p + 1) (hsh : shI = nI sh ∧ sh ≤ W p + 1 ∧ sh ≤ s) (hs : sI = nI s ∧ s ≤ r + 1) (hr : r ≤ 48) (hR : R (some (.int (nI (bF c W P p s sh)))) h) : Ev G d 0 0 M_Bu_costWith 0 [.ref 81, .int pI, .int shI, .int sI] [] h R := by
  obtain ⟨rfl, p1, p2, p3⟩ := hp
  obtain ⟨rfl, s1, s2⟩ := hsh
  obtain ⟨rfl, s3⟩ := hs
  obtain ⟨b1, b2, b3, b4, ⟨brf, b5, b5'⟩, b6, b7, b8, b9, ch, b10⟩ := B
  obtain ⟨g, t, v⟩ := b8 p (by omega)
  obtain ⟨g', t', v'⟩ := b9 (p + 1) (by omega)
  have hw := b3 p (by omega)
  refine b_Bu_costWith_0 (j2 := p) (j4 := sh) (j5 := p + 1) (j7 := s - sh) b4 b6 t b7 t' (ixn (by omega) (by decide)) (ixn (by omega) (by decide)) (by rw [nI_1]; exact ixn (by omega) (by decide)) (by rw [nI_sub s2]; exact ixn (by omega) (by decide)) ?_
  rw [v p2 sh s1, v' p3 p1 (s - sh) (by omega), nI_add]
  exact hR
theorem s_Bu_cheapestShare {p s : Nat} {pI sI : Int32} (B : BuP h P W c kc r lo) (hc : cOk c P) (hp : pI = nI p ∧ p + 1 < P ∧ p < kc ∧ lo ≤ p + 1) (hs : sI = nI s ∧ s ≤ r + 1) (hr : r ≤ 48) (hR : R (some (.int (nI (bSh c W P p s)))) h) : Ev G (d + 1) 0 0 M_Bu_cheapestShare 0 [.ref 81, .int pI, .int sI, ev_unk, ev_unk, ev_unk, ev_unk] [] h R := by
  have B0 := B
  obtain ⟨rfl, p1, p2, p3⟩ := hp
  obtain ⟨rfl, s3⟩ := hs
  obtain ⟨b1, b2, b3, b4, ⟨brf, b5, b5'⟩, b6, b7, b8, b9, ch, b10⟩ := B
  have hw := b3 p (by omega)
  refine b_Bu_cheapestShare_0 ⟨_, b4⟩ (s_Bu_costWith B0 ⟨rfl, p1, p2, p3⟩ ⟨(show (0 : Int32) = nI 0 from rfl), by omega, by omega⟩ ⟨rfl, s3⟩ hr ?_)
  refine b_Bu_cheapestShare_9 ?_
  have em : (if brf p + 1 < nI s then brf p + 1 else nI s) = nI (min s (W p + 1)) := by
    rw [b5' p (by omega), nI_1]
    by_cases q : W p + 1 < s
    · rw [if_pos (nI_lt q (by omega)), Nat.min_eq_right (by omega)]
    · rw [if_neg (fun z => q ((nI_ltI (by omega) (by omega)).mp z)), Nat.min_eq_left (by omega)]
  have L := up0 (P := fun i => Ev G (d + 1) 0 0 M_Bu_cheapestShare 14 [.ref 81, .int (nI p), .int (nI s), .int (nI (bst (bF c W P p s) i)), .int (nI (bF c W P p s (bst (bF c W P p s) i))), .int (nI (i + 1)), ev_unk] [] h R) (min s (W p + 1)) ?_ ?_
  · exact L
  · intro i hi ih
    refine b_Bu_cheapestShare_14 (j3 := p) b4 b5 (ixn (by omega) (by decide)) (fun q => ?_) (fun _ => ?_)
    · rw [em] at q; exact absurd q (nI_nlt (by omega) (by omega))
    · refine s_Bu_costWith B0 ⟨rfl, p1, p2, p3⟩ ⟨rfl, by omega, by omega⟩ ⟨rfl, s3⟩ hr ?_
      have f1 : bF c W P p s (i + 1) ≤ 1000032 := bF_le hc p1
      have f2 : bF c W P p s (bst (bF c W P p s) i) ≤ 1000032 := bF_le hc p1
      have st : bst (bF c W P p s) (i + 1) = if bF c W P p s (i + 1) < bF c W P p s (bst (bF c W P p s) i) then i + 1 else bst (bF c W P p s) i := rfl
      refine b_Bu_cheapestShare_39 (fun q => ?_) (fun q => ?_)
      · have q := (nI_ltI (by omega) (by omega)).mp q
        rw [if_pos q] at st; rw [st] at ih; rw [nI_1]; exact ih
      · have q : ¬ bF c W P p s (i + 1) < bF c W P p s (bst (bF c W P p s) i) := fun z => q (nI_lt z (by omega))
        rw [if_neg q] at st; rw [st] at ih; rw [nI_1]; exact ih
  · refine b_Bu_cheapestShare_14 (j3 := p) b4 b5 (ixn (by omega) (by decide)) (fun q => hR) (fun q => absurd ?_ q)
    rw [em]; exact nI_lt (by omega) (by omega)
theorem s_Bu_partLike {P0 : Nat} {W0 : Nat → Nat} {a : Nat} (B : BuP h P0 W0 c kc r lo) (hS : StR h a S) (ok : sOk S) (ha : a + 4 ≤ 81) (hR : ∀ h', Kp h h' 81 83 → (∀ c' r', BuP h' (sP S) (sBr S) c' 0 r' (sP S)) → R none h') : Ev G (d + 1) 0 0 M_Bu_partLike 0 [.ref 81, .ref a] [] h R := by
  obtain ⟨b1, b2, b3, b4, ⟨brf, b5, b5'⟩, b6, b7, b8, b9, ch, b10⟩ := B
  obtain ⟨brg, tgg, cog, gv, u1, u2, u3, u4, v1, v2, E⟩ := hS
  have K := (((Kp.refl h 81 83).set (k := 81) (oC 0 [.ref 82, .int (nI (sP S)), .ref 83, .ref 90, .ref 97]) (by omega) (by omega)).set (k := 82) (aI 6 (va_cpy brg brf 0 0 6)) (by omega) (by omega))
  have h6 := ok.2.2.2.1
  refine b_Bu_partLike_0 u1 b4 u2 b5 (by omega) (by omega) (by omega) (by omega) (hR _ K fun c' r' => ⟨ok.2.2.1, h6, ok.2.2.2.2.2.1, hat_ne ⟨b4.1, hset_eq _ _ _⟩ (by omega), ⟨_, ⟨b5.1, hset_eq _ _ _⟩, fun i hi => ?_⟩, K.hat b6 (by omega), K.hat b7 (by omega), fun i hi => ?_, fun i hi => ?_, ch, K.hat b10 (by omega)⟩)
  · unfold va_cpy; rw [if_pos (by omega), Nat.zero_add, Nat.sub_zero]; exact v1 i hi
  · obtain ⟨g, t, v⟩ := b8 i hi; exact ⟨g, K.hat t (by omega), fun q => absurd q (Nat.not_lt_zero i)⟩
  · obtain ⟨g, t, v⟩ := b9 i hi; exact ⟨g, K.hat t (by omega), fun q q2 => absurd q2 (by omega)⟩
def twoW (a b : Nat) : Nat → Nat := fun i => if i = 0 then a else b
theorem s_Bu_partInTwo {P0 : Nat} {W0 : Nat → Nat} {x y : Nat} {xI yI : Int32} (B : BuP h P0 W0 c kc r lo) (hx : xI = nI x ∧ x ≤ 24) (hy : yI = nI y ∧ y ≤ 24) (hR : ∀ h', Kp h h' 81 83 → (∀ c' r', BuP h' 2 (twoW x y) c' 0 r' 2) → R none h') : Ev G d 0 0 M_Bu_partInTwo 0 [.ref 81, .int xI, .int yI] [] h R := by
  obtain ⟨rfl, hx⟩ := hx
  obtain ⟨rfl, hy⟩ := hy
  obtain ⟨b1, b2, b3, b4, ⟨brf, b5, b5'⟩, b6, b7, b8, b9, ch, b10⟩ := B
  have K := ((((Kp.refl h 81 83).set (k := 81) (oC 0 [.ref 82, .int 2, .ref 83, .ref 90, .ref 97]) (by omega) (by omega)).set (k := 82) (aI 6 (upd brf 0 (nI x))) (by omega) (by omega)).set (k := 82) (aI 6 (upd (upd brf 0 (nI x)) 1 (nI y))) (by omega) (by omega))
  refine b_Bu_partInTwo_0 b4 b5 (hR _ K fun c' r' => ⟨by omega, by omega, fun i hi => ?_, hat_ne (hat_ne ⟨b4.1, hset_eq _ _ _⟩ (by omega)) (by omega), ⟨_, ⟨b5.1, hset_eq _ _ _⟩, fun i hi => ?_⟩, K.hat b6 (by omega), K.hat b7 (by omega), fun i hi => ?_, fun i hi => ?_, ch, K.hat b10 (by omega)⟩)
  · unfold twoW; split <;> omega
  · have : i = 0 ∨ i = 1 := by omega
    rcases this with rfl | rfl <;> rfl
  · obtain ⟨g, t, v⟩ := b8 i hi; exact ⟨g, K.hat t (by omega), fun q => absurd q (Nat.not_lt_zero i)⟩
  · obtain ⟨g, t, v⟩ := b9 i hi; exact ⟨g, K.hat t (by omega), fun q q2 => absurd q2 (by omega)⟩
end S19
theorem b_Bu_tabulate_0 {G : ev_G} {d k n : Nat} {h : ev_H} {R : Option Value → ev_H → Prop} {x1 : Int32} {f_parts_1 : Int32}
  (a1 : hat h 81 (oC 0 [.ref 82, .int f_parts_1, .ref 83, .ref 90, .ref 97]))
  (k1 : Ev G (d + 1) k n M_Bu_tabulate 9 [.ref 81, .int x1, .int (f_parts_1 - (1 : Int32)), .int (0 : Int32), ev_unk] [] h R)
  : Ev G (d + 1) k n M_Bu_tabulate 0 [.ref 81, .int x1, ev_unk, ev_unk, ev_unk] [] h R :=
  Ev.go (pc' := 1) (ls' := [.ref 81, .int x1, ev_unk, ev_unk, ev_unk]) (st' := [.ref 81]) [.aload_n 0] (by decide +kernel) rfl <|
  Ev.getf f_Bu_15 (by decide +kernel) a1 rfl <|
  Ev.go (pc' := 9) (ls' := [.ref 81, .int x1, .int (f_parts_1 - (1 : Int32)), .int (0 : Int32), ev_unk]) (st' := []) [.iconst 1, .isub, .istore_n 2, .iconst 0, .istore_n 3] (by decide +kernel) rfl <|
  k1
theorem b_Bu_tabulate_9 {G : ev_G} {d k n : Nat} {h : ev_H} {R : Option Value → ev_H → Prop} {x1 : Int32} {x2 : Int32} {x3 : Int32} {f_parts_1 : Int32} {j2 : Nat} {g3 : Nat → Int32} {g4 : Nat → Int32} {j5 : Nat} {g6 : Nat → Int32}
  (a1 : hat h 81 (oC 0 [.ref 82, .int f_parts_1, .ref 83, .ref 90, .ref 97]))
  (a2 : hat h 90 (aG 6 (fun i => if i < 6 then some (90 + 1 + i) else none)))
  (a4 : hat h 82 (aI 6 g3))
  (a5 : hat h (90 + 1 + j2) (aI 50 g4))
  (a10 : hat h 83 (aG 6 (fun i => if i < 6 then some (83 + 1 + i) else none)))
  (a12 : hat h (83 + 1 + j2) (aI 26 g6))
  (i3 : ¬ (x1 + (1 : Int32)) < x3 → ev_ix x2 j2 6)
  (i6 : ¬ (x1 + (1 : Int32)) < x3 → ((g3 j2) + (1 : Int32)) < x3 → ev_ix x3 j5 50)
  (e7 : ¬ (x1 + (1 : Int32)) < x3 → ((g3 j2) + (1 : Int32)) < x3 → 81 ≠ (90 + 1 + j2))
  (e8 : ¬ (x1 + (1 : Int32)) < x3 → ((g3 j2) + (1 : Int32)) < x3 → 90 ≠ (90 + 1 + j2))
  (e9 : ¬ (x1 + (1 : Int32)) < x3 → ((g3 j2) + (1 : Int32)) < x3 → 82 ≠ (90 + 1 + j2))
  (i11 : ¬ (x1 + (1 : Int32)) < x3 → ¬ ((g3 j2) + (1 : Int32)) < x3 → ev_ix x2 j2 6)
  (i13 : ¬ (x1 + (1 : Int32)) < x3 → ¬ ((g3 j2) + (1 : Int32)) < x3 → ev_ix x3 j5 26)
  (i14 : ¬ (x1 + (1 : Int32)) < x3 → ¬ ((g3 j2) + (1 : Int32)) < x3 → ev_ix x3 j5 50)
  (e15 : ¬ (x1 + (1 : Int32)) < x3 → ¬ ((g3 j2) + (1 : Int32)) < x3 → 81 ≠ (90 + 1 + j2))
  (e16 : ¬ (x1 + (1 : Int32)) < x3 → ¬ ((g3 j2) + (1 : Int32)) < x3 → 90 ≠ (90 + 1 + j2))
  (e17 : ¬ (x1 + (1 : Int32)) < x3 → ¬ ((g3 j2) + (1 : Int32)) < x3 → 82 ≠ (90 + 1 + j2))
  (e18 : ¬ (x1 + (1 : Int32)) < x3 → ¬ ((g3 j2) + (1 : Int32)) < x3 → 83 ≠ (90 + 1 + j2))
  (e19 : ¬ (x1 + (1 : Int32)) < x3 → ¬ ((g3 j2) + (1 : Int32)) < x3 → (83 + 1 + j2) ≠ (90 + 1 + j2))
  (k1 : (x1 + (1 : Int32)) < x3 → Ev G (d + 1) k n M_Bu_tabulate 59 [.ref 81, .int x1, .int x2, .int (x2 - (1 : Int32)), ev_unk] [] h R)
  (k2 : ¬ (x1 + (1 : Int32)) < x3 → ((g3 j2) + (1 : Int32)) < x3 → Ev G (d + 1) k n M_Bu_tabulate 9 [.ref 81, .int x1, .int x2, .int (x3 + (1 : Int32)), ev_unk] [] (hset h (90 + 1 + j2) (aI 50 (upd g4 j5 (1000000 : Int32)))) R)
  (k3 : ¬ (x1 + (1 : Int32)) < x3 → ¬ ((g3 j2) + (1 : Int32)) < x3 → Ev G (d + 1) k n M_Bu_tabulate 9 [.ref 81, .int x1, .int x2, .int (x3 + (1 : Int32)), ev_unk] [] (hset h (90 + 1 + j2) (aI 50 (upd g4 j5 (g6 j5)))) R)
  : Ev G (d + 1) k n M_Bu_tabulate 9 [.ref 81, .int x1, .int x2, .int x3, ev_unk] [] h R :=
  Ev.go (pc' := 13) (ls' := [.ref 81, .int x1, .int x2, .int x3, ev_unk]) (st' := [.int (x1 + (1 : Int32)), .int x3]) [.iload_n 3, .iload_n 1, .iconst 1, .iadd] (by decide +kernel) rfl <|
  Ev.br (i := .if_icmp .gt (42)) (P := (x1 + (1 : Int32)) < x3) (t := 55) (f := 16) (r := []) (by decide +kernel) rfl (fun c1 =>
    Ev.go (pc' := 59) (ls' := [.ref 81, .int x1, .int x2, .int (x2 - (1 : Int32)), ev_unk]) (st' := []) [.iload_n 2, .iconst 1, .isub, .istore_n 3] (by decide +kernel) rfl <|
    (k1 c1)
  ) (fun c1 =>
    Ev.go (pc' := 17) (ls' := [.ref 81, .int x1, .int x2, .int x3, ev_unk]) (st' := [.ref 81]) [.aload_n 0] (by decide +kernel) rfl <|
    Ev.getf f_Bu_24 (by decide +kernel) a1 rfl <|
    Ev.go (pc' := 21) (ls' := [.ref 81, .int x1, .int x2, .int x3, ev_unk]) (st' := [.int x2, .ref 90]) [.iload_n 2] (by decide +kernel) rfl <|
    Ev.gald (j := j2) (b := 90 + 1 + j2) (by decide +kernel) a2 (i3 c1) (if_pos (show j2 < 6 from ((i3 c1)).2.1)) <|
    Ev.go (pc' := 25) (ls' := [.ref 81, .int x1, .int x2, .int x3, ev_unk]) (st' := [.ref 81, .int x3, .int x3, .ref (90 + 1 + j2)]) [.iload_n 3, .iload_n 3, .aload_n 0] (by decide +kernel) rfl <|
    Ev.getf f_Bu_9 (by decide +kernel) a1 rfl <|
    Ev.go (pc' := 29) (ls' := [.ref 81, .int x1, .int x2, .int x3, ev_unk]) (st' := [.int x2, .ref 82, .int x3, .int x3, .ref (90 + 1 + j2)]) [.iload_n 2] (by decide +kernel) rfl <|
    Ev.iald (j := j2) (by decide +kernel) a4 (i3 c1) <|
    Ev.go (pc' := 32) (ls' := [.ref 81, .int x1, .int x2, .int x3, ev_unk]) (st' := [.int ((g3 j2) + (1 : Int32)), .int x3, .int x3, .ref (90 + 1 + j2)]) [.iconst 1, .iadd] (by decide +kernel) rfl <|
    Ev.br (i := .if_icmp .gt (14)) (P := ((g3 j2) + (1 : Int32)) < x3) (t := 46) (f := 35) (r := [.int x3, .ref (90 + 1 + j2)]) (by decide +kernel) rfl (fun c2 =>
      Ev.ldc k_Bu_68 (by decide +kernel) <|
      Ev.iast (j := j5) (by decide +kernel) a5 (i6 c1 c2) <| show Ev G (d + 1) _ _ M_Bu_tabulate 49 [.ref 81, .int x1, .int x2, .int x3, ev_unk] [] (hset h (90 + 1 + j2) (aI 50 (upd g4 j5 (1000000 : Int32)))) R from
      Ev.go (pc' := 9) (ls' := [.ref 81, .int x1, .int x2, .int (x3 + (1 : Int32)), ev_unk]) (st' := []) [.iinc 3 (1), .goto (-43)] (by decide +kernel) rfl <|
      (k2 c1 c2)
    ) (fun c2 =>
      Ev.go (pc' := 36) (ls' := [.ref 81, .int x1, .int x2, .int x3, ev_unk]) (st' := [.ref 81, .int x3, .ref (90 + 1 + j2)]) [.aload_n 0] (by decide +kernel) rfl <|
      Ev.getf f_Bu_21 (by decide +kernel) a1 rfl <|
      Ev.go (pc' := 40) (ls' := [.ref 81, .int x1, .int x2, .int x3, ev_unk]) (st' := [.int x2, .ref 83, .int x3, .ref (90 + 1 + j2)]) [.iload_n 2] (by decide +kernel) rfl <|
      Ev.gald (j := j2) (b := 83 + 1 + j2) (by decide +kernel) a10 (i11 c1 c2) (if_pos (show j2 < 6 from ((i11 c1 c2)).2.1)) <|
      Ev.go (pc' := 42) (ls' := [.ref 81, .int x1, .int x2, .int x3, ev_unk]) (st' := [.int x3, .ref (83 + 1 + j2), .int x3, .ref (90 + 1 + j2)]) [.iload_n 3] (by decide +kernel) rfl <|
      Ev.iald (j := j5) (by decide +kernel) a12 (i13 c1 c2) <|
      Ev.go (pc' := 48) (ls' := [.ref 81, .int x1, .int x2, .int x3, ev_unk]) (st' := [.int (g6 j5), .int x3, .ref (90 + 1 + j2)]) [.goto (5)] (by decide +kernel) rfl <|
      Ev.iast (j := j5) (by decide +kernel) a5 (i14 c1 c2) <| show Ev G (d + 1) _ _ M_Bu_tabulate 49 [.ref 81, .int x1, .int x2, .int x3, ev_unk] [] (hset h (90 + 1 + j2) (aI 50 (upd g4 j5 (g6 j5)))) R from
      Ev.go (pc' := 9) (ls' := [.ref 81, .int x1, .int x2, .int (x3 + (1 : Int32)), ev_unk]) (st' := []) [.iinc 3 (1), .goto (-43)] (by decide +kernel) rfl <|
      (k3 c1 c2)
    )
  )
theorem b_Bu_tabulate_59 {G : ev_G} {d k n : Nat} {h : ev_H} {R : Option Value → ev_H → Prop} {x1 : Int32} {x2 : Int32} {x3 : Int32}
  (k1 : (0 : Int32) < x3 → Ev G (d + 1) k n M_Bu_tabulate 66 [.ref 81, .int x1, .int x2, .int x3, .int (0 : Int32)] [] h R)
  (k2 : ¬ (0 : Int32) < x3 → R none h)
  : Ev G (d + 1) k n M_Bu_tabulate 59 [.ref 81, .int x1, .int x2, .int x3, ev_unk] [] h R :=
  Ev.go (pc' := 60) (ls' := [.ref 81, .int x1, .int x2, .int x3, ev_unk]) (st' := [.int x3]) [.iload_n 3] (by decide +kernel) rfl <|
  Ev.br (i := .ifCond .le (49)) (P := (0 : Int32) < x3) (t := 63) (f := 109) (r := []) (by decide +kernel) rfl (fun c1 =>
    Ev.go (pc' := 66) (ls' := [.ref 81, .int x1, .int x2, .int x3, .int (0 : Int32)]) (st' := []) [.iconst 0, .istore 4] (by decide +kernel) rfl <|
    (k1 c1)
  ) (fun c1 =>
    Ev.ret (r := none) (Or.inr (Or.inr (Or.inl ⟨rfl, by decide +kernel, rfl⟩))) (k2 c1)
  )
theorem b_Bu_tabulate_66 {G : ev_G} {d k n : Nat} {h : ev_H} {R : Option Value → ev_H → Prop} {x1 : Int32} {x2 : Int32} {x3 : Int32} {x4 : Int32} {f_parts_1 : Int32} {j2 : Nat}
  (a1 : hat h 81 (oC 0 [.ref 82, .int f_parts_1, .ref 83, .ref 90, .ref 97]))
  (a2 : hat h 90 (aG 6 (fun i => if i < 6 then some (90 + 1 + i) else none)))
  (i3 : ¬ (x1 + (1 : Int32)) < x4 → ev_ix x3 j2 6)
  (k1 : (x1 + (1 : Int32)) < x4 → Ev G (d + 1) k n M_Bu_tabulate 59 [.ref 81, .int x1, .int x2, .int (x3 + (-1 : Int32)), ev_unk] [] h R)
  (k2 : ¬ (x1 + (1 : Int32)) < x4 → Ev G d 0 0 M_Bu_cheapestShare 0 [.ref 81, .int x3, .int x4, ev_unk, ev_unk, ev_unk, ev_unk] [] h (fun r h1 => Ev G (d + 1) k n M_Bu_tabulate 91 [.ref 81, .int x1, .int x2, .int x3, .int x4] (r.toList ++ [.int x3, .ref 81, .int x4, .ref (90 + 1 + j2)]) h1 R))
  : Ev G (d + 1) k n M_Bu_tabulate 66 [.ref 81, .int x1, .int x2, .int x3, .int x4] [] h R :=
  Ev.go (pc' := 71) (ls' := [.ref 81, .int x1, .int x2, .int x3, .int x4]) (st' := [.int (x1 + (1 : Int32)), .int x4]) [.iload 4, .iload_n 1, .iconst 1, .iadd] (by decide +kernel) rfl <|
  Ev.br (i := .if_icmp .gt (32)) (P := (x1 + (1 : Int32)) < x4) (t := 103) (f := 74) (r := []) (by decide +kernel) rfl (fun c1 =>
    Ev.go (pc' := 59) (ls' := [.ref 81, .int x1, .int x2, .int (x3 + (-1 : Int32)), .int x4]) (st' := []) [.iinc 3 (-1), .goto (-47)] (by decide +kernel) rfl <|
    Ev.forget (ls' := [.ref 81, .int x1, .int x2, .int (x3 + (-1 : Int32)), ev_unk]) ⟨Or.inr rfl, Or.inr rfl, Or.inr rfl, Or.inr rfl, Or.inl rfl, trivial⟩ <|
    (k1 c1)
  ) (fun c1 =>
    Ev.go (pc' := 75) (ls' := [.ref 81, .int x1, .int x2, .int x3, .int x4]) (st' := [.ref 81]) [.aload_n 0] (by decide +kernel) rfl <|
    Ev.getf f_Bu_24 (by decide +kernel) a1 rfl <|
    Ev.go (pc' := 79) (ls' := [.ref 81, .int x1, .int x2, .int x3, .int x4]) (st' := [.int x3, .ref 90]) [.iload_n 3] (by decide +kernel) rfl <|
    Ev.gald (j := j2) (b := 90 + 1 + j2) (by decide +kernel) a2 (i3 c1) (if_pos (show j2 < 6 from ((i3 c1)).2.1)) <|
    Ev.go (pc' := 88) (ls' := [.ref 81, .int x1, .int x2, .int x3, .int x4]) (st' := [.int x4, .int x3, .ref 81, .int x3, .ref 81, .int x4, .ref (90 + 1 + j2)]) [.iload 4, .aload_n 0, .iload_n 3, .aload_n 0, .iload_n 3, .iload 4] (by decide +kernel) rfl <|
    Ev.cV0 (M' := M_Bu_cheapestShare) (as := [.int x3, .int x4]) (rest := [.int x3, .ref 81, .int x4, .ref (90 + 1 + j2)]) l_Bu_69 M_Bu_cheapestShare_ok M_Bu_cheapestShare_in M_Bu_cheapestShare_se (by decide +kernel) ⟨_, a1⟩ rfl rfl rfl (Nat.le_of_ble_eq_true rfl) (Nat.le_of_ble_eq_true rfl) (k2 c1)
  )
theorem b_Bu_tabulate_91 {G : ev_G} {d k n : Nat} {h : ev_H} {R : Option Value → ev_H → Prop} {x1 : Int32} {x2 : Int32} {x3 : Int32} {x4 : Int32} {y0 : Nat} {y1 : Int32} {y3 : Int32} {y4 : Int32}
  (r1 : ∃ fs, hat h 81 (oC 0 fs))
  (k1 : Ev G d 0 0 M_Bu_costWith 0 [.ref 81, .int y3, .int y4, .int x4] [] h (fun r h1 => Ev G (d + 1) k n M_Bu_tabulate 96 [.ref 81, .int x1, .int x2, .int x3, .int x4] (r.toList ++ [.int y1, .ref y0]) h1 R))
  : Ev G (d + 1) k n M_Bu_tabulate 91 [.ref 81, .int x1, .int x2, .int x3, .int x4] [.int y4, .int y3, .ref 81, .int y1, .ref y0] h R :=
  Ev.go (pc' := 93) (ls' := [.ref 81, .int x1, .int x2, .int x3, .int x4]) (st' := [.int x4, .int y4, .int y3, .ref 81, .int y1, .ref y0]) [.iload 4] (by decide +kernel) rfl <|
  Ev.cV0 (M' := M_Bu_costWith) (as := [.int y3, .int y4, .int x4]) (rest := [.int y1, .ref y0]) l_Bu_73 M_Bu_costWith_ok M_Bu_costWith_in M_Bu_costWith_se (by decide +kernel) r1 rfl rfl rfl (Nat.le_of_ble_eq_true rfl) (Nat.le_of_ble_eq_true rfl) k1
theorem b_Bu_tabulate_96 {G : ev_G} {d k n : Nat} {h : ev_H} {R : Option Value → ev_H → Prop} {x1 : Int32} {x2 : Int32} {x3 : Int32} {x4 : Int32} {y0 : Nat} {y1 : Int32} {y2 : Int32} {g1 : Nat → Int32} {j2 : Nat}
  (a1 : hat h y0 (aI 50 g1))
  (i2 : ev_ix y1 j2 50)
  (k1 : Ev G (d + 1) k n M_Bu_tabulate 66 [.ref 81, .int x1, .int x2, .int x3, .int (x4 + (1 : Int32))] [] (hset h y0 (aI 50 (upd g1 j2 y2))) R)
  : Ev G (d + 1) k n M_Bu_tabulate 96 [.ref 81, .int x1, .int x2, .int x3, .int x4] [.int y2, .int y1, .ref y0] h R :=
  Ev.iast (j := j2) (by decide +kernel) a1 i2 <| show Ev G (d + 1) _ _ M_Bu_tabulate 97 [.ref 81, .int x1, .int x2, .int x3, .int x4] [] (hset h y0 (aI 50 (upd g1 j2 y2))) R from
  Ev.go (pc' := 66) (ls' := [.ref 81, .int x1, .int x2, .int x3, .int (x4 + (1 : Int32))]) (st' := []) [.iinc 4 (1), .goto (-34)] (by decide +kernel) rfl <|
  k1
theorem b_Bu_choose_0 {G : ev_G} {d k n : Nat} {h : ev_H} {R : Option Value → ev_H → Prop} {x1 : Int32}
  (k1 : Ev G (d + 1) k n M_Bu_choose 9 [.ref 81, .int x1, .int (x1 + (1 : Int32)), .int (0 : Int32), .int (0 : Int32), ev_unk] [] h R)
  : Ev G (d + 1) k n M_Bu_choose 0 [.ref 81, .int x1, ev_unk, ev_unk, ev_unk, ev_unk] [] h R :=
  Ev.go (pc' := 9) (ls' := [.ref 81, .int x1, .int (x1 + (1 : Int32)), .int (0 : Int32), .int (0 : Int32), ev_unk]) (st' := []) [.iload_n 1, .iconst 1, .iadd, .istore_n 2, .iconst 0, .istore_n 3, .iconst 0, .istore 4] (by decide +kernel) rfl <|
  k1
theorem b_Bu_choose_9 {G : ev_G} {d k n : Nat} {h : ev_H} {R : Option Value → ev_H → Prop} {x1 : Int32} {x2 : Int32} {x3 : Int32} {x4 : Int32} {f_parts_1 : Int32} {g2 : Nat → Int32} {j3 : Nat} {g4 : Nat → Int32} {j5 : Nat}
  (a1 : hat h 81 (oC 0 [.ref 82, .int f_parts_1, .ref 83, .ref 90, .ref 97]))
  (a2 : hat h 97 (aI 6 g2))
  (a4 : hat h 90 (aG 6 (fun i => if i < 6 then some (90 + 1 + i) else none)))
  (a5 : hat h (90 + 1 + j3) (aI 50 g4))
  (i3 : ¬ (x4 + (1 : Int32)) < f_parts_1 → ev_ix (f_parts_1 - (1 : Int32)) j3 6)
  (e6 : ¬ (x4 + (1 : Int32)) < f_parts_1 → (90 + 1 + j3) ≠ 97)
  (i7 : ¬ (x4 + (1 : Int32)) < f_parts_1 → ev_ix x2 j5 50)
  (k1 : (x4 + (1 : Int32)) < f_parts_1 → Ev G d 0 0 M_Bu_cheapestShare 0 [.ref 81, .int x4, .int x2, ev_unk, ev_unk, ev_unk, ev_unk] [] h (fun r h1 => Ev G (d + 1) k n M_Bu_choose 27 [.ref 81, .int x1, .int x2, .int x3, .int x4, ev_unk] (r.toList ++ []) h1 R))
  (k2 : ¬ (x4 + (1 : Int32)) < f_parts_1 → R (some (.int (x3 + (g4 j5)))) (hset h 97 (aI 6 (upd g2 j3 (x2 - (1 : Int32))))))
  : Ev G (d + 1) k n M_Bu_choose 9 [.ref 81, .int x1, .int x2, .int x3, .int x4, ev_unk] [] h R :=
  Ev.go (pc' := 14) (ls' := [.ref 81, .int x1, .int x2, .int x3, .int x4, ev_unk]) (st' := [.ref 81, .int (x4 + (1 : Int32))]) [.iload 4, .iconst 1, .iadd, .aload_n 0] (by decide +kernel) rfl <|
  Ev.getf f_Bu_15 (by decide +kernel) a1 rfl <|
  Ev.br (i := .if_icmp .ge (47)) (P := (x4 + (1 : Int32)) < f_parts_1) (t := 20) (f := 64) (r := []) (by decide +kernel) rfl (fun c1 =>
    Ev.go (pc' := 24) (ls' := [.ref 81, .int x1, .int x2, .int x3, .int x4, ev_unk]) (st' := [.int x2, .int x4, .ref 81]) [.aload_n 0, .iload 4, .iload_n 2] (by decide +kernel) rfl <|
    Ev.cV0 (M' := M_Bu_cheapestShare) (as := [.int x4, .int x2]) (rest := []) l_Bu_69 M_Bu_cheapestShare_ok M_Bu_cheapestShare_in M_Bu_cheapestShare_se (by decide +kernel) ⟨_, a1⟩ rfl rfl rfl (Nat.le_of_ble_eq_true rfl) (Nat.le_of_ble_eq_true rfl) (k1 c1)
  ) (fun c1 =>
    Ev.go (pc' := 65) (ls' := [.ref 81, .int x1, .int x2, .int x3, .int x4, ev_unk]) (st' := [.ref 81]) [.aload_n 0] (by decide +kernel) rfl <|
    Ev.getf f_Bu_27 (by decide +kernel) a1 rfl <|
    Ev.go (pc' := 69) (ls' := [.ref 81, .int x1, .int x2, .int x3, .int x4, ev_unk]) (st' := [.ref 81, .ref 97]) [.aload_n 0] (by decide +kernel) rfl <|
    Ev.getf f_Bu_15 (by decide +kernel) a1 rfl <|
    Ev.go (pc' := 77) (ls' := [.ref 81, .int x1, .int x2, .int x3, .int x4, ev_unk]) (st' := [.int (x2 - (1 : Int32)), .int (f_parts_1 - (1 : Int32)), .ref 97]) [.iconst 1, .isub, .iload_n 2, .iconst 1, .isub] (by decide +kernel) rfl <|
    Ev.iast (j := j3) (by decide +kernel) a2 (i3 c1) <| show Ev G (d + 1) _ _ M_Bu_choose 78 [.ref 81, .int x1, .int x2, .int x3, .int x4, ev_unk] [] (hset h 97 (aI 6 (upd g2 j3 (x2 - (1 : Int32))))) R from
    Ev.go (pc' := 80) (ls' := [.ref 81, .int x1, .int x2, .int x3, .int x4, ev_unk]) (st' := [.ref 81, .int x3]) [.iload_n 3, .aload_n 0] (by decide +kernel) rfl <|
    Ev.getf f_Bu_24 (by decide +kernel) (hat_ne a1 (by decide)) rfl <|
    Ev.go (pc' := 84) (ls' := [.ref 81, .int x1, .int x2, .int x3, .int x4, ev_unk]) (st' := [.ref 81, .ref 90, .int x3]) [.aload_n 0] (by decide +kernel) rfl <|
    Ev.getf f_Bu_15 (by decide +kernel) (hat_ne a1 (by decide)) rfl <|
    Ev.go (pc' := 89) (ls' := [.ref 81, .int x1, .int x2, .int x3, .int x4, ev_unk]) (st' := [.int (f_parts_1 - (1 : Int32)), .ref 90, .int x3]) [.iconst 1, .isub] (by decide +kernel) rfl <|
    Ev.gald (j := j3) (b := 90 + 1 + j3) (by decide +kernel) (hat_ne a4 (by decide)) (i3 c1) (if_pos (show j3 < 6 from ((i3 c1)).2.1)) <|
    Ev.go (pc' := 91) (ls' := [.ref 81, .int x1, .int x2, .int x3, .int x4, ev_unk]) (st' := [.int x2, .ref (90 + 1 + j3), .int x3]) [.iload_n 2] (by decide +kernel) rfl <|
    Ev.iald (j := j5) (by decide +kernel) (hat_ne a5 (e6 c1)) (i7 c1) <|
    Ev.go (pc' := 93) (ls' := [.ref 81, .int x1, .int x2, .int x3, .int x4, ev_unk]) (st' := [.int (x3 + (g4 j5))]) [.iadd] (by decide +kernel) rfl <|
    Ev.ret (r := (some (.int (x3 + (g4 j5))))) (Or.inl ⟨_, rfl, by decide +kernel, _, rfl, rfl⟩) (k2 c1)
  )
theorem b_Bu_choose_27 {G : ev_G} {d k n : Nat} {h : ev_H} {R : Option Value → ev_H → Prop} {x1 : Int32} {x2 : Int32} {x3 : Int32} {x4 : Int32} {y0 : Int32} {f_parts_1 : Int32} {g2 : Nat → Int32} {j3 : Nat} {g4 : Nat → Int32} {j5 : Nat}
  (a1 : hat h 81 (oC 0 [.ref 82, .int f_parts_1, .ref 83, .ref 90, .ref 97]))
  (a2 : hat h 97 (aI 6 g2))
  (a4 : hat h 83 (aG 6 (fun i => if i < 6 then some (83 + 1 + i) else none)))
  (a5 : hat h (83 + 1 + j3) (aI 26 g4))
  (i3 : ev_ix x4 j3 6)
  (e6 : (83 + 1 + j3) ≠ 97)
  (i7 : ev_ix y0 j5 26)
  (k1 : Ev G (d + 1) k n M_Bu_choose 9 [.ref 81, .int x1, .int (x2 - y0), .int (x3 + (g4 j5)), .int (x4 + (1 : Int32)), ev_unk] [] (hset h 97 (aI 6 (upd g2 j3 (y0 - (1 : Int32))))) R)
  : Ev G (d + 1) k n M_Bu_choose 27 [.ref 81, .int x1, .int x2, .int x3, .int x4, ev_unk] [.int y0] h R :=
  Ev.go (pc' := 30) (ls' := [.ref 81, .int x1, .int x2, .int x3, .int x4, .int y0]) (st' := [.ref 81]) [.istore 5, .aload_n 0] (by decide +kernel) rfl <|
  Ev.getf f_Bu_27 (by decide +kernel) a1 rfl <|
  Ev.go (pc' := 39) (ls' := [.ref 81, .int x1, .int x2, .int x3, .int x4, .int y0]) (st' := [.int (y0 - (1 : Int32)), .int x4, .ref 97]) [.iload 4, .iload 5, .iconst 1, .isub] (by decide +kernel) rfl <|
  Ev.iast (j := j3) (by decide +kernel) a2 i3 <| show Ev G (d + 1) _ _ M_Bu_choose 40 [.ref 81, .int x1, .int x2, .int x3, .int x4, .int y0] [] (hset h 97 (aI 6 (upd g2 j3 (y0 - (1 : Int32))))) R from
  Ev.go (pc' := 42) (ls' := [.ref 81, .int x1, .int x2, .int x3, .int x4, .int y0]) (st' := [.ref 81, .int x3]) [.iload_n 3, .aload_n 0] (by decide +kernel) rfl <|
  Ev.getf f_Bu_21 (by decide +kernel) (hat_ne a1 (by decide)) rfl <|
  Ev.go (pc' := 47) (ls' := [.ref 81, .int x1, .int x2, .int x3, .int x4, .int y0]) (st' := [.int x4, .ref 83, .int x3]) [.iload 4] (by decide +kernel) rfl <|
  Ev.gald (j := j3) (b := 83 + 1 + j3) (by decide +kernel) (hat_ne a4 (by decide)) i3 (if_pos (show j3 < 6 from (i3).2.1)) <|
  Ev.go (pc' := 50) (ls' := [.ref 81, .int x1, .int x2, .int x3, .int x4, .int y0]) (st' := [.int y0, .ref (83 + 1 + j3), .int x3]) [.iload 5] (by decide +kernel) rfl <|
  Ev.iald (j := j5) (by decide +kernel) (hat_ne a5 e6) i7 <|
  Ev.go (pc' := 9) (ls' := [.ref 81, .int x1, .int (x2 - y0), .int (x3 + (g4 j5)), .int (x4 + (1 : Int32)), .int y0]) (st' := []) [.iadd, .istore_n 3, .iload_n 2, .iload 5, .isub, .istore_n 2, .iinc 4 (1), .goto (-52)] (by decide +kernel) rfl <|
  Ev.forget (ls' := [.ref 81, .int x1, .int (x2 - y0), .int (x3 + (g4 j5)), .int (x4 + (1 : Int32)), ev_unk]) ⟨Or.inr rfl, Or.inr rfl, Or.inr rfl, Or.inr rfl, Or.inr rfl, Or.inl rfl, trivial⟩ <|
  k1
section S19
variable {G : ev_G} {d : Nat} {h : ev_H} {R : Option Value → ev_H → Prop} {S : AS}
variable {P : Nat} {W : Nat → Nat} {c : Nat → Nat → Nat} {kc r lo : Nat}
theorem BuP.obj (B : BuP h P W c kc r lo) : ∃ fs, hat h 81 (oC 0 fs) := ⟨_, B.2.2.2.1⟩
/-- one row of least costs is filled up to m -/
def BuQ (h : ev_H) (P : Nat) (W : Nat → Nat) (c : Nat → Nat → Nat) (kc r lo i m : Nat) : Prop := BuP h P W c kc r lo ∧ ∃ g, hat h (90 + 1 + i) (aI 50 g) ∧ ∀ s, s < m → g s = nI (bLp c W P i s)
theorem BuQ.put {i m : Nat} (Q : BuQ h P W c kc r (i + 1) i m) (hi : i < P) {g : Nat → Int32} (hg : hat h (90 + 1 + i) (aI 50 g)) {x : Int32} (hx : x = nI (bLp c W P i m)) : BuQ (hset h (90 + 1 + i) (aI 50 (upd g m x))) P W c kc r (i + 1) i (m + 1) := by
  obtain ⟨⟨b1, b2, b3, b4, ⟨brf, b5, b5'⟩, b6, b7, b8, b9, ch, b10⟩, g0, t0, v0⟩ := Q
  have eg : g0 = g := by
    have := t0.2.symm.trans hg.2
    exact aI_inj this
  subst eg
  have K := (Kp.refl h (90 + 1 + i) (90 + 1 + i + 1)).set (k := 90 + 1 + i) (aI 50 (upd g0 m x)) (by omega) (by omega)
  refine ⟨⟨b1, b2, b3, K.hat b4 (by omega), ⟨brf, K.hat b5 (by omega), b5'⟩, K.hat b6 (by omega), K.hat b7 (by omega), fun j hj => ?_, fun j hj => ?_, ch, K.hat b10 (by omega)⟩, _, ⟨t0.1, hset_eq _ _ _⟩, fun s hs => ?_⟩
  · obtain ⟨g, t, v⟩ := b8 j hj; exact ⟨g, K.hat t (by omega), v⟩
  · by_cases e : j = i
    · subst e; exact ⟨_, ⟨t0.1, hset_eq _ _ _⟩, fun q => absurd q (by omega)⟩
    · obtain ⟨g, t, v⟩ := b9 j hj; exact ⟨g, K.hat t (by omega), v⟩
  · by_cases e : s = m
    · subst e; simp only [upd, if_true]; exact hx
    · simp only [upd, if_neg e]; exact v0 s (by omega)
theorem BuQ.full {i : Nat} (Q : BuQ h P W c kc r (i + 1) i (r + 2)) : BuP h P W c kc r i := by
  obtain ⟨⟨b1, b2, b3, b4, b5, b6, b7, b8, b9, b10⟩, g0, t0, v0⟩ := Q
  refine ⟨b1, b2, b3, b4, b5, b6, b7, b8, fun j hj => ?_, b10⟩
  by_cases e : j = i
  · subst e; exact ⟨g0, t0, fun _ _ s hs => v0 s (by omega)⟩
  · obtain ⟨g, t, v⟩ := b9 j hj; exact ⟨g, t, fun q => v (by omega)⟩
theorem BuQ.start {i : Nat} (B : BuP h P W c kc r (i + 1)) (hi : i < 6) : BuQ h P W c kc r (i + 1) i 0 := by
  obtain ⟨g, t, v⟩ := B.2.2.2.2.2.2.2.2.1 i hi
  exact ⟨B, g, t, fun s q => absurd q (Nat.not_lt_zero s)⟩
theorem s_Bu_tabulate {rI : Int32} (B : BuP h P W c P r P) (hc : cOk c P) (hr : rI = nI r ∧ r ≤ 48) (hR : ∀ h', Kp h h' 91 97 → BuP h' P W c P r 1 → BuP h' P W c P r (min 1 (P - 1)) → R none h') : Ev G (d + 2) 0 0 M_Bu_tabulate 0 [.ref 81, .int rI, ev_unk, ev_unk, ev_unk] [] h R := by
  obtain ⟨rfl, hr⟩ := hr
  have b1 := B.1
  have b2 := B.2.1
  refine b_Bu_tabulate_0 B.2.2.2.1 ?_
  rw [show nI P - 1 = nI (P - 1) from nI_sub (b := 1) b1]
  -- the other rows
  have L2 : ∀ i, i + 1 < P → ∀ h', Kp h h' 91 97 → BuP h' P W c P r (i + 1) → (i = 0 → BuP h' P W c P r (min 1 (P - 1))) → Ev G (d + 2) 0 0 M_Bu_tabulate 59 [.ref 81, .int (nI r), .int (nI (P - 1)), .int (nI i), ev_unk] [] h' R := by
    intro i
    induction i with
    | zero =>
      intro hi h' K B' q
      exact b_Bu_tabulate_59 (fun z => absurd z (by decide)) (fun _ => hR h' K B' (q rfl))
    | succ i ih =>
      intro hi h' K B' _
      have pos : (0 : Int32) < nI (i + 1) := nI_lt (a := 0) (by omega) (by omega)
      refine b_Bu_tabulate_59 (fun _ => ?_) (fun z => absurd pos z)
      have L3 := up0 (P := fun m => ∀ h', Kp h h' 91 97 → BuQ h' P W c P r (i + 1 + 1) (i + 1) m → Ev G (d + 2) 0 0 M_Bu_tabulate 66 [.ref 81, .int (nI r), .int (nI (P - 1)), .int (nI (i + 1)), .int (nI m)] [] h' R) (r + 2) ?_ ?_
      · exact L3 h' K (BuQ.start B' (by omega))
      · intro m hm ih2 h' K Q
        have no : ¬ nI r + 1 < nI m := by rw [nI_1]; exact nI_nlt (by omega) (by omega)
        refine b_Bu_tabulate_66 (j2 := i + 1) Q.1.2.2.2.1 Q.1.2.2.2.2.2.2.1 (fun _ => ixn (by omega) (by decide)) (fun q => absurd q no) (fun _ => ?_)
        refine s_Bu_cheapestShare Q.1 hc ⟨rfl, by omega, by omega, by omega⟩ ⟨rfl, by omega⟩ hr ?_
        have hb := bst_le (bF c W P (i + 1) m) (min m (W (i + 1) + 1))
        refine b_Bu_tabulate_91 (y3 := nI (i + 1)) (y1 := nI m) (y0 := 90 + 1 + (i + 1)) Q.1.obj (s_Bu_costWith Q.1 ⟨rfl, by omega, by omega, by omega⟩ ⟨rfl, by unfold bSh; omega, by unfold bSh; omega⟩ ⟨rfl, by omega⟩ hr ?_)
        obtain ⟨g, t, v⟩ := Q.2
        refine b_Bu_tabulate_96 (j2 := m) t (ixn (by omega) (by decide)) ?_
        rw [nI_1]
        refine ih2 _ (K.set _ (by omega) (by omega)) (BuQ.put Q (by omega) t ?_)
        rw [bLp_step (by omega)]
      · intro h' K Q
        have yes : nI r + 1 < nI (r + 2) := by rw [nI_1]; exact nI_lt (by omega) (by omega)
        refine b_Bu_tabulate_66 (j2 := 0) Q.1.2.2.2.1 Q.1.2.2.2.2.2.2.1 (fun q => absurd yes q) (fun _ => ?_) (fun q => absurd yes q)
        rw [nI_dec]
        exact ih (by omega) h' K Q.full (fun e => by subst e; rw [Nat.min_eq_left (by omega)]; exact Q.full)
  -- the last row
  have L1 := up0 (P := fun m => ∀ h', Kp h h' 91 97 → BuQ h' P W c P r (P - 1 + 1) (P - 1) m → Ev G (d + 2) 0 0 M_Bu_tabulate 9 [.ref 81, .int (nI r), .int (nI (P - 1)), .int (nI m), ev_unk] [] h' R) (r + 2) ?_ ?_
  · exact L1 h (Kp.refl _ _ _) (BuQ.start (by rw [Nat.sub_add_cancel b1]; exact B) (by omega))
  · intro m hm ih h' K Q
    have no : ¬ nI r + 1 < nI m := by rw [nI_1]; exact nI_nlt (by omega) (by omega)
    have Q0 := Q
    obtain ⟨⟨_, _, c3, c4, ⟨brf, c5, c5'⟩, c6, c7, c8, c9, ch, c10⟩, g, t, v⟩ := Q
    obtain ⟨gc, tc, vc⟩ := c8 (P - 1) (by omega)
    have hw := c3 (P - 1) (by omega)
    have ew : brf (P - 1) + 1 = nI (W (P - 1) + 1) := by rw [c5' _ (by omega), nI_1]
    refine b_Bu_tabulate_9 (j2 := P - 1) (j5 := m) c4 c7 c5 t c6 tc (fun _ => ixn (by omega) (by decide)) (fun _ _ => ixn (by omega) (by decide)) (fun _ _ => by omega) (fun _ _ => by omega) (fun _ _ => by omega) (fun _ _ => ixn (by omega) (by decide)) (fun _ q => ?_) (fun _ _ => ixn (by omega) (by decide)) (fun _ _ => by omega) (fun _ _ => by omega) (fun _ _ => by omega) (fun _ _ => by omega) (fun _ _ => by omega) (fun q => absurd q no) (fun _ q => ?_) (fun _ q => ?_)
    · rw [ew] at q
      have q : m ≤ W (P - 1) + 1 := Nat.le_of_not_lt fun z => q (nI_lt z (by omega))
      exact ixn (by omega) (by decide)
    · rw [ew] at q
      have q := (nI_ltI (by omega) (by omega)).mp q
      rw [nI_1]
      refine ih _ (K.set _ (by omega) (by omega)) (BuQ.put Q0 (by omega) t ?_)
      rw [bLp_last, if_neg (by omega)]; rfl
    · rw [ew] at q
      have q : m ≤ W (P - 1) + 1 := Nat.le_of_not_lt fun z => q (nI_lt z (by omega))
      rw [nI_1]
      refine ih _ (K.set _ (by omega) (by omega)) (BuQ.put Q0 (by omega) t ?_)
      rw [bLp_last, if_pos q]; exact vc (by omega) m q
  · intro h' K Q
    have yes : nI r + 1 < nI (r + 2) := by rw [nI_1]; exact nI_lt (by omega) (by omega)
    have Q0 := Q
    obtain ⟨⟨_, _, c3, c4, ⟨brf, c5, c5'⟩, c6, c7, c8, c9, ch, c10⟩, g, t, v⟩ := Q
    obtain ⟨gc, tc, vc⟩ := c8 (P - 1) (by omega)
    refine b_Bu_tabulate_9 (j2 := P - 1) (j5 := 0) c4 c7 c5 t c6 tc (fun q => absurd yes q) (fun q => absurd yes q) (fun q => absurd yes q) (fun q => absurd yes q) (fun q => absurd yes q) (fun q => absurd yes q) (fun q => absurd yes q) (fun q => absurd yes q) (fun q => absurd yes q) (fun q => absurd yes q) (fun q => absurd yes q) (fun q => absurd yes q) (fun q => absurd yes q) (fun _ => ?_) (fun q => absurd yes q) (fun q => absurd yes q)
    have F := Q0.full
    by_cases e : P = 1
    · have e2 : nI (P - 1) - 1 = (-1 : Int32) := by rw [e]; rfl
      rw [e2]
      refine b_Bu_tabulate_59 (fun z => absurd z (by decide)) (fun _ => hR h' K ?_ ?_)
      · have := Q0.1; rw [e] at this ⊢; exact this
      · rw [e] at F ⊢; exact F
    · rw [show nI (P - 1) - 1 = nI (P - 1 - 1) from nI_sub (b := 1) (by omega)]
      refine L2 (P - 1 - 1) (by omega) h' K (by rw [show P - 1 - 1 + 1 = P - 1 by omega]; exact F) fun z => ?_
      rw [show min 1 (P - 1) = P - 1 by omega]; exact F
/-- the budgets that are chosen -/
def BuC (h : ev_H) (P : Nat) (sh : Nat → Nat) (m : Nat) : Prop := ∃ ch, hat h 97 (aI 6 ch) ∧ ∀ i, i < m → ch i = nI (sh i) - 1
theorem s_Bu_choose {rI : Int32} (B1 : BuP h P W c P r 1) (B2 : BuP h P W c P r (min 1 (P - 1))) (hc : cOk c P) (hr : rI = nI r ∧ r ≤ 48) (hR : ∀ h', Kp h h' 97 98 → BuP h' P W c P r 1 → BuC h' P (bShr c W P r) P → R (some (.int (nI (bLp c W P 0 (r + 1))))) h') : Ev G (d + 2) 0 0 M_Bu_choose 0 [.ref 81, .int rI, ev_unk, ev_unk, ev_unk, ev_unk] [] h R := by
  obtain ⟨rfl, hr⟩ := hr
  have b1 := B1.1
  have b2 := B1.2.1
  have b3 := B1.2.2.1
  refine b_Bu_choose_0 ?_
  rw [nI_1]
  have B3 : BuP h P W c P r (P - 1) := by
    by_cases e : P = 1
    · rw [e] at B2 ⊢; exact B2
    · obtain ⟨x1, x2, x3, x4, x5, x6, x7, x8, x9, x10⟩ := B1
      refine ⟨x1, x2, x3, x4, x5, x6, x7, x8, fun i hi => ?_, x10⟩
      obtain ⟨g, t, v⟩ := x9 i hi
      exact ⟨g, t, fun q => v (by omega)⟩
  have L := up0 (P := fun i => ∀ h' cst, Kp h h' 97 98 → BuC h' P (bShr c W P r) i → cst + bLp c W P i (bLf c W P r i) = bLp c W P 0 (r + 1) → Ev G (d + 2) 0 0 M_Bu_choose 9 [.ref 81, .int (nI r), .int (nI (bLf c W P r i)), .int (nI cst), .int (nI i), ev_unk] [] h' R) (P - 1) ?_ ?_
  · refine L h 0 (Kp.refl _ _ _) ?_ (Nat.zero_add _)
    obtain ⟨ch, x⟩ := B1.2.2.2.2.2.2.2.2.2
    exact ⟨ch, x, fun i q => absurd q (Nat.not_lt_zero i)⟩
  · intro i hi ih h' cst K C e
    have B' : BuP h' P W c P r 1 := by
      obtain ⟨x1, x2, x3, x4, ⟨brf, x5, x5'⟩, x6, x7, x8, x9, ch, x10⟩ := B1
      obtain ⟨ch', y, _⟩ := C
      refine ⟨x1, x2, x3, K.hat x4 (by omega), ⟨brf, K.hat x5 (by omega), x5'⟩, K.hat x6 (by omega), K.hat x7 (by omega), fun j hj => ?_, fun j hj => ?_, ch', y⟩
      · obtain ⟨g, t, v⟩ := x8 j hj; exact ⟨g, K.hat t (by omega), v⟩
      · obtain ⟨g, t, v⟩ := x9 j hj; exact ⟨g, K.hat t (by omega), v⟩
    have yes : nI i + 1 < nI P := by rw [nI_1]; exact nI_lt (by omega) (by omega)
    obtain ⟨ch, y, z⟩ := C
    obtain ⟨gl, tl, vl⟩ := B'.2.2.2.2.2.2.2.2.1 0 (by omega)
    refine b_Bu_choose_9 (j3 := 0) (j5 := 0) B'.2.2.2.1 y B'.2.2.2.2.2.2.1 tl (fun q => absurd yes q) (fun q => absurd yes q) (fun q => absurd yes q) (fun _ => ?_) (fun q => absurd yes q)
    have hlf := bLf_le c W P r i
    refine s_Bu_cheapestShare B' hc ⟨rfl, by omega, by omega, by omega⟩ ⟨rfl, hlf⟩ hr ?_
    obtain ⟨gc, tc, vc⟩ := B'.2.2.2.2.2.2.2.1 i (by omega)
    have hb := bst_le (bF c W P i (bLf c W P r i)) (min (bLf c W P r i) (W i + 1))
    have hw := b3 i (by omega)
    have hsh : bSh c W P i (bLf c W P r i) ≤ bLf c W P r i ∧ bSh c W P i (bLf c W P r i) ≤ W i + 1 := by unfold bSh; omega
    refine b_Bu_choose_27 (j3 := i) (j5 := bSh c W P i (bLf c W P r i)) B'.2.2.2.1 y B'.2.2.2.2.2.1 tc (ixn (by omega) (by decide)) (by omega) (ixn (by omega) (by decide)) ?_
    rw [vc (by omega) _ hsh.2, nI_add, nI_1, nI_sub hsh.1]
    refine ih _ _ (K.set _ (by omega) (by omega)) ⟨_, ⟨y.1, hset_eq _ _ _⟩, fun j hj => ?_⟩ ?_
    · by_cases ej : j = i
      · subst ej; simp only [upd, if_true]; unfold bShr; rw [if_neg (by omega)]
      · simp only [upd, if_neg ej]; exact z j (by omega)
    · rw [bLp_step (by omega)] at e
      unfold bF at e
      show cst + c i _ + bLp c W P (i + 1) (bLf c W P r i - bSh c W P i (bLf c W P r i)) = _
      omega
  · intro h' cst K C e
    have no : ¬ nI (P - 1) + 1 < nI P := by rw [nI_1, Nat.sub_add_cancel b1]; exact nl_self (by omega)
    obtain ⟨ch, y, z⟩ := C
    have B' : BuP h' P W c P r (P - 1) := by
      obtain ⟨x1, x2, x3, x4, ⟨brf, x5, x5'⟩, x6, x7, x8, x9, ch0, x10⟩ := B3
      refine ⟨x1, x2, x3, K.hat x4 (by omega), ⟨brf, K.hat x5 (by omega), x5'⟩, K.hat x6 (by omega), K.hat x7 (by omega), fun j hj => ?_, fun j hj => ?_, ch, y⟩
      · obtain ⟨g, t, v⟩ := x8 j hj; exact ⟨g, K.hat t (by omega), v⟩
      · obtain ⟨g, t, v⟩ := x9 j hj; exact ⟨g, K.hat t (by omega), v⟩
    obtain ⟨gl, tl, vl⟩ := B'.2.2.2.2.2.2.2.2.1 (P - 1) (by omega)
    have hlf := bLf_le c W P r (P - 1)
    refine b_Bu_choose_9 (j3 := P - 1) (j5 := bLf c W P r (P - 1)) B'.2.2.2.1 y B'.2.2.2.2.2.2.1 tl (fun _ => by rw [show nI P - 1 = nI (P - 1) from nI_sub (b := 1) b1]; exact ixn (by omega) (by decide)) (fun _ => by omega) (fun _ => ixn (by omega) (by decide)) (fun q => absurd q no) (fun _ => ?_)
    rw [vl (Nat.le_refl _) (by omega) _ hlf, nI_add, e]
    have K2 := (Kp.refl h' 97 98).set (k := 97) (aI 6 (upd ch (P - 1) (nI (bLf c W P r (P - 1)) - 1))) (by omega) (by omega)
    refine hR _ (K.trans K2) ?_ ⟨_, ⟨y.1, hset_eq _ _ _⟩, fun j hj => ?_⟩
    · obtain ⟨x1, x2, x3, x4, ⟨brf, x5, x5'⟩, x6, x7, x8, x9, ch0, x10⟩ := B1
      have K3 := K.trans K2
      refine ⟨x1, x2, x3, K3.hat x4 (by omega), ⟨brf, K3.hat x5 (by omega), x5'⟩, K3.hat x6 (by omega), K3.hat x7 (by omega), fun j hj => ?_, fun j hj => ?_, _, ⟨y.1, hset_eq _ _ _⟩⟩
      · obtain ⟨g, t, v⟩ := x8 j hj; exact ⟨g, K3.hat t (by omega), v⟩
      · obtain ⟨g, t, v⟩ := x9 j hj; exact ⟨g, K3.hat t (by omega), v⟩
    · by_cases ej : j = P - 1
      · subst ej; simp only [upd, if_true]; unfold bShr; rw [if_pos (by omega)]
      · simp only [upd, if_neg ej]; exact z j (by omega)
end S19
