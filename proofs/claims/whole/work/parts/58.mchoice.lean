/-! the model's budgets chosen -/
section S58
variable {G : ev_G} {d : Nat} {h h1 : ev_H} {R : Option Value → ev_H → Prop} {Q : QS} {P : Nat} {W : Nat → Nat}
theorem MX.at108 (X : MX h) (K : Kp h h1 108 109) (g : ∃ g, hat h1 108 (aI 6 g)) : MX h1 := by
  obtain ⟨⟨g1, a1⟩, ⟨g2, a2⟩, ⟨g3, a3⟩, -, a5, a6, a7, a8, ⟨g9, a9⟩, ⟨g10, a10⟩⟩ := X
  exact ⟨⟨_, K.hat a1 (by omega)⟩, ⟨_, K.hat a2 (by omega)⟩, ⟨_, K.hat a3 (by omega)⟩, g, K.hat a5 (by omega), fun i hi => ⟨_, K.hat (a6 i hi).choose_spec (by omega)⟩, K.hat a7 (by omega), fun i hi => ⟨_, K.hat (a8 i hi).choose_spec (by omega)⟩, ⟨_, K.hat a9 (by omega)⟩, ⟨_, K.hat a10 (by omega)⟩⟩
theorem BR.at108 (B : BR h Q P W) (K : Kp h h1 108 109) (g : ∃ g, hat h1 108 (aI 6 g)) : BR h1 Q P W := by
  obtain ⟨H, z, g3, m1, m3, hg⟩ := B
  exact ⟨H.work (K.wide (by omega) (by omega)) (K.2 105 (by have := H.num; omega) (by omega)) (H.mx.at108 K g), z, g3, K.hat m1 (by omega), K.hat m3 (by omega), hg⟩
/-- the budgets stand chosen -/
def CH (h : ev_H) (c : Nat → Nat → Nat) (W : Nat → Nat) (P r k : Nat) : Prop := ∃ g, hat h 108 (aI 6 g) ∧ ∀ i, i < k → g i = nI (bShr c W P r i) - 1
def lfN (c : Nat → Nat → Nat) (W : Nat → Nat) (P r p : Nat) : Nat := if p < P then bLf c W P r p else 0
theorem s_choice {x : Int64} {r : Nat} {q : Nat → Bool} {c : Nat → Nat → Nat} (B : BR h Q P W) (w : wOk P W) (hr : r ≤ 48) (hrs : r ≤ sumT W P) (hc : cOk c P) (C : CT h W c P) (L : LT h W c P r P) (hR : ∀ h', Kp h h' 108 109 → BR h' Q P W → CH h' c W P r P → R (some (.int (nI (bLp c W P 0 (r + 1))))) h') : Ev G (d + 3) 0 0 M_Mo_budgetsOf 241 [.ref 102, .long x, ev_unk, .int (nI r), .long (setL q), ev_unk, .int (nI (r + 1)), .int (nI 0), ev_unk] [] h R := by
  have P1 := w.1
  have P6 := w.2.1
  have cap : r + 1 ≤ cpT W P P := by
    have := cpT_sum (W := W) (P := P) P (Nat.le_refl _)
    rw [Nat.sub_self] at this
    have e : sumT W 0 = 0 := rfl
    omega
  have mb : ∀ i, i < P → ∀ s, mLt c W P (P - i) s = bLp c W P i s := fun i hi s => by
    rw [show P - i = (P - i - 1) + 1 by omega, mLt_eq hc _ s (by omega)]
    congr 1; omega
  have A := up_to (P := fun p => ∀ h', Kp h h' 108 109 → BR h' Q P W → CH h' c W P r p → Ev G (d + 3) 0 0 M_Mo_budgetsOf 241 [.ref 102, .long x, ev_unk, .int (nI r), .long (setL q), ev_unk, .int (nI (lfN c W P r p)), .int (nI p), ev_unk] [] h' R) (N := P) ?_ ?_ 0 (Nat.zero_le _)
  · obtain ⟨g, mg⟩ := B.1.mx.2.2.2.1
    have := A h (Kp.refl _ _ _) B ⟨g, mg, fun i hi => absurd hi (Nat.not_lt_zero i)⟩
    have e : lfN c W P r 0 = r + 1 := if_pos (by omega)
    rw [e] at this
    exact this
  · intro p hp ih h1 K1 B CHp
    obtain ⟨H, z, g3, m1, m3, -⟩ := id B
    obtain ⟨g0, mg0⟩ := H.mx.2.2.2.2.2.2.2.1 0 (by omega)
    have w24 := w.2.2.1 p hp
    have yes : nI p < nI P := nI_lt hp (by omega)
    refine b_Mo_budgetsOf_241 (d := d + 2) (j16 := 0) m1 H.mx.2.2.2.2.2.2.1 mg0 (fun k => absurd yes k) (fun _ => ?_) (fun k => absurd yes k)
    obtain ⟨f1, f2, f3⟩ := first_sh (r := r) hc P6 cap hp
    have lf : lfN c W P r p = bLf c W P r p := if_pos hp
    have ll := bLf_le c W P r p
    rw [lf]
    obtain ⟨gc, mc, vc⟩ := C p hp
    obtain ⟨gl, ml, vl⟩ := L (P - p) (by omega)
    obtain ⟨gn, mn, vn⟩ := L (P - (p + 1)) (by omega)
    rw [show P - (P - p) = p by omega] at ml
    rw [show P - (P - (p + 1)) = p + 1 by omega] at mn
    have mc := K1.hat mc (by omega)
    have ml := K1.hat ml (by omega)
    have mn := K1.hat mn (by omega)
    obtain ⟨gb, mgb, vb⟩ := CHp
    have gs : ∀ b, b ≤ bShr c W P r p → (gc b + gn (bLf c W P r p - b) = gl (bLf c W P r p) ↔ b = bShr c W P r p) := fun b hb => by
      have cb := (hc p hp).2 b
      have lb := mLt_le (P := P) (W := W) (c := c) (P - (p + 1)) (bLf c W P r p - b)
      have lb2 := mLt_le (P := P) (W := W) (c := c) (P - p) (bLf c W P r p)
      rw [vc b (by omega), vn _ (by omega), vl _ (by omega), nI_add, nI_eq (by omega) (by omega), mb p hp]
      constructor
      · intro k
        refine Nat.le_antisymm hb (Nat.le_of_not_lt fun y => f3 b y k)
      · rintro rfl; exact f1
    have Lb := up_to (P := fun b => Ev G (d + 3) 0 0 M_Mo_budgetsOf 253 [.ref 102, .long x, ev_unk, .int (nI r), .long (setL q), ev_unk, .int (nI (bLf c W P r p)), .int (nI p), .int (nI b)] [] h1 R) (N := bShr c W P r p) ?_ ?_ 0 (Nat.zero_le _)
    · exact Lb
    · intro b hb ihb
      refine b_Mo_budgetsOf_253 (d := d + 2) (j15 := p) (j17 := b) (j18 := p + 1) (j20 := bLf c W P r p - b) (j22 := bLf c W P r p) m1 H.mx.2.2.2.2.1 mc H.mx.2.2.2.2.2.2.1 mn ml mgb (ixn (by omega) (by omega)) (ixn (by omega) (by omega)) ⟨nI_1 p, by omega, by omega⟩ ⟨nI_sub (by omega), by omega, by omega⟩ (ixn (by omega) (by omega)) (ixn (by omega) (by omega)) (fun _ => ixn (by omega) (by omega)) (fun _ => by omega) (fun _ => by omega) (fun _ => by omega) (fun k => absurd ((gs b (by omega)).mp k) (by omega)) (fun _ => ?_)
      rw [nI_1]; exact ihb
    · refine b_Mo_budgetsOf_253 (d := d + 2) (j15 := p) (j17 := bShr c W P r p) (j18 := p + 1) (j20 := bLf c W P r p - bShr c W P r p) (j22 := bLf c W P r p) m1 H.mx.2.2.2.2.1 mc H.mx.2.2.2.2.2.2.1 mn ml mgb (ixn (by omega) (by omega)) (ixn (by omega) (by omega)) ⟨nI_1 p, by omega, by omega⟩ ⟨nI_sub (by omega), by omega, by omega⟩ (ixn (by omega) (by omega)) (ixn (by omega) (by omega)) (fun _ => ixn (by omega) (by omega)) (fun _ => by omega) (fun _ => by omega) (fun _ => by omega) (fun _ => ?_) (fun k => absurd ((gs _ (Nat.le_refl _)).mpr rfl) k)
      rw [nI_sub (by omega), nI_1]
      have K5 : Kp h1 (hset h1 108 (aI 6 (upd gb p (nI (bShr c W P r p) - 1)))) 108 109 := (Kp.refl h1 _ _).set _ (by omega) (by omega)
      have m5 := hat_set mgb (c' := aI 6 (upd gb p (nI (bShr c W P r p) - 1)))
      have nx : bLf c W P r p - bShr c W P r p = lfN c W P r (p + 1) := by
        unfold lfN
        by_cases k : p + 1 < P
        · rw [if_pos k]
          have : bShr c W P r p = bSh c W P p (bLf c W P r p) := if_neg (by omega)
          rw [this]; rfl
        · rw [if_neg k]
          have : bShr c W P r p = bLf c W P r p := if_pos (by omega)
          rw [this, Nat.sub_self]
      rw [nx]
      refine ih _ (K1.trans K5) (B.at108 K5 ⟨_, m5⟩) ⟨_, m5, fun i hi => ?_⟩
      show (if i = p then _ else gb i) = _
      by_cases k : i = p
      · subst k; rw [if_pos rfl]
      · rw [if_neg k]; exact vb i (by omega)
  · intro h1 K1 B CHp
    obtain ⟨H, z, g3, m1, m3, -⟩ := id B
    obtain ⟨gl, ml, vl⟩ := L P (Nat.le_refl _)
    rw [Nat.sub_self] at ml
    have no := nl_self (n := P) (by omega)
    have ix : ev_ix (nI r + (1 : Int32)) (r + 1) 56 := ⟨nI_1 r, by omega, by omega⟩
    refine b_Mo_budgetsOf_241 (d := d + 2) (j16 := r + 1) m1 H.mx.2.2.2.2.2.2.1 (K1.hat ml (by omega)) (fun _ => ix) (fun k => absurd k no) (fun _ => ?_)
    have e := mb 0 (by omega) (r + 1)
    rw [Nat.sub_zero] at e
    rw [vl (r + 1) (Nat.le_refl _), e]
    exact hR h1 K1 B CHp
/-- the budgets of the least cost, and that cost -/
theorem s_budgetsOf {x : Int64} {r : Nat} {q : Nat → Bool} (B : BR h Q P W) (w : wOk P W) (hr : r ≤ 48) (hrs : r ≤ sumT W P) (hq : ∀ j, q j = true → j < sN (qS Q)) (hR : ∀ h', Kp h h' 108 124 → BR h' Q P W → CH h' (cstN q (sCo (qS Q)) x W) W P r P → R (some (.int (nI (bLp (cstN q (sCo (qS Q)) x W) W P 0 (r + 1))))) h') : Ev G (d + 3) 0 0 M_Mo_budgetsOf 0 [.ref 102, .long x, ev_unk, .int (nI r), .long (setL q), ev_unk, ev_unk, ev_unk, ev_unk] [] h R := by
  have hc := cstN_ok q (sCo (qS Q)) x W P
  refine s_costs B w hq fun h1 K1 B C => ?_
  refine s_least0 B w hr C fun h2 K2 B C L => ?_
  refine s_leasts B w hr hc C L fun h3 K3 B C L => ?_
  refine s_choice B w hr hrs hc C L fun h4 K4 B CH => ?_
  exact hR h4 ((((K1.wide (by omega) (by omega)).trans (K2.wide (by omega) (by omega))).trans (K3.wide (by omega) (by omega))).trans (K4.wide (by omega) (by omega))) B CH
end S58
