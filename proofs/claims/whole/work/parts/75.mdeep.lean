/-! the model's reader: facts within one another -/
section S75
variable {G : ev_G} {B : Nat → Nat} {L : Nat} {S S0 : AS} {g0 g g' : Nat → Int64}
theorem pFact_ok (ok : sOk S0) (m : Nat) : GI B L (2 * m + 1) (pFact B L S0 m) := pFact_GI ok m
theorem s_Mo_fact (ok0 : sOk S0) : ∀ m, m ≤ 6 → RdM G B L S0 (6 + 3 * m) M_Mo_fact [.ref 102, ev_unk] (6 - m) (pFact B L S0 m) := by
  intro m
  induction m with
  | zero =>
    intro _ d h v T S g g0 y R m1 m2 X HT ok Z hB hP hl hR
    show Ev G (d + 6) 0 0 M_Mo_fact 0 [.ref 102, ev_unk] [] h R
    have e : pFact B L S0 0 T = if wdB B T 8 then (6, T, []) else if T.1 = 91 then (6, T, []) else pCmp B L S0 T := rfl
    have u5 : keM B T = 5 ↔ wdB B T 8 = true := ke_eq (m := 5) (by omega)
    have mB := hat_set m1 (c' := bdC v L T 6 (nI 6) y)
    have bad : R (some (.int (b2i (decide ((6 : Nat) = 0))))) (hset h 102 (bdC v L T 6 (nI 6) y)) → R (some (.int (0 : Int32))) (hset h 102 (bdC v L T 6 (nI 6) y)) := fun z => z
    have po : ∀ r : PR, r = (6, T, []) → PoM h (hset h 102 (bdC v L T 6 (nI 6) y)) v L (nI (6 - 0)) g0 S r := fun r er => by
      subst er
      exact PoM.bad (by show ¬ 6 = 0; omega) (BaM.mk1 Z ((Kp.refl h 102 104).set _ (by omega) (by omega)) mB (hat_ne m2 (by omega)))
    refine b_Mo_fact_0 (d := d + 1) (c_13 := 91) m1 X HT ⟨_, m1⟩ (fun _ => ⟨_, m1⟩) (fun _ => m1) (fun _ => X) (fun _ => HT) (fun _ => ⟨rfl, by decide⟩) (fun _ => ⟨_, m1⟩) (fun _ _ => ⟨_, m1⟩) (fun _ _ => ⟨_, m1⟩) (fun c => ?_) (fun c c2 => ?_) (fun c c2 => ?_)
    · have c := u5.mp c
      rw [if_pos c] at e
      have r := hR _ (po _ e)
      rw [e] at r
      refine s_sinks (d := d + 2) (w := 6) m1 X HT (by omega) (fun k => absurd k (by omega)) (fun _ => ?_)
      exact b_Mo_fact_12 (d := d + 1) (fun k => absurd rfl k) (fun _ => r) (fun k => absurd rfl k)
    · have c : ¬ wdB B T 8 = true := fun z => c (u5.mpr z)
      have c2 := of_decide_eq_false (b2i_e0 c2)
      rw [if_neg c, if_neg c2] at e
      rw [e] at hR
      exact s_factCmp (d := d) m1 m2 X HT ok Z hB hP hl hR
    · have c : ¬ wdB B T 8 = true := fun z => c (u5.mpr z)
      have c2 := of_decide_eq_true (b2i_n0 c2)
      rw [if_neg c, if_pos c2] at e
      have r := hR _ (po _ e)
      rw [e] at r
      refine s_sinks (d := d + 2) (w := 6) m1 X HT (by omega) (fun k => absurd k (by omega)) (fun _ => ?_)
      exact b_Mo_fact_48 (d := d + 1) (fun k => absurd rfl k) (fun _ => r) (fun k => absurd rfl k)
  | succ m ih =>
    intro hm d h v T S g g0 y R m1 m2 X HT ok Z hB hP hl hR
    have ih := ih (by omega)
    have ihT : RdM G B L S0 (6 + 3 * m + 1 + 1) M_Mo_test [.ref 102] (6 - m) (pSd B L (pSd B L (pFact B L S0 m) 7 1) 6 2) := s_Mo_test (s_Mo_side ih (pFact_GI ok0 m) (by omega)) (pSide_GI ok0 m) (by omega)
    have h900 := X.1
    have le1 := HT.2.1
    have le2 := HT.2.2.1
    have n1 := nx_ok HT
    have g1 := nx_s HT
    rw [show d + (6 + 3 * (m + 1)) = (d + 3 + 3 * m) + 6 by omega]
    have e : pFact B L S0 (m + 1) T = if wdB B T 8 then pNot (pFact B L S0 m (nx B L T)) else if T.1 = 91 then pClose B L (pSd B L (pSd B L (pFact B L S0 m) 7 1) 6 2 (nx B L T)) else pCmp B L S0 T := rfl
    have u5 : keM B T = 5 ↔ wdB B T 8 = true := ke_eq (m := 5) (by omega)
    have w1 : 6 - (m + 1) + 1 = 6 - m := by omega
    have w2 : nI (6 - m) - 1 = nI (6 - (m + 1)) := (nI_sub (a := 6 - m) (b := 1) (by omega)).trans (by rw [show 6 - m - 1 = 6 - (m + 1) by omega])
    have mA := hat_set m1 (c' := moC v (pzM L (nx B L T) (nI (6 - m)) y))
    have KA : Kp h (hset h 102 (moC v (pzM L (nx B L T) (nI (6 - m)) y))) 102 104 := (Kp.refl h 102 104).set _ (by omega) (by omega)
    have m2A := hat_ne (b := 102) (c' := moC v (pzM L (nx B L T) (nI (6 - m)) y)) m2 (by omega)
    have XA := X.set (c := moC v (pzM L (nx B L T) (nI (6 - m)) y))
    refine b_Mo_fact_0 (d := d + 3 + 3 * m + 1) (c_13 := 91) m1 X HT ⟨_, m1⟩ (fun _ => ⟨_, m1⟩) (fun _ => m1) (fun _ => X) (fun _ => HT) (fun _ => ⟨rfl, by decide⟩) (fun _ => ⟨_, m1⟩) (fun _ _ => ⟨_, m1⟩) (fun _ _ => ⟨_, m1⟩) (fun c => ?_) (fun c c2 => ?_) (fun c c2 => ?_)
    · have c := u5.mp c
      rw [if_pos c] at e
      rw [e] at hR
      refine s_sinks (d := d + 3 + 3 * m + 2) m1 X HT (by omega) (fun _ => ?_) (fun k => absurd k (by omega))
      rw [w1]
      generalize hset h 102 (moC v (pzM L (nx B L T) (nI (6 - m)) y)) = h2 at mA KA m2A XA
      refine b_Mo_fact_12 (d := d + 3 + 3 * m + 1) (fun _ => ⟨_, mA⟩) (fun k => absurd k (by decide)) (fun _ => ?_)
      obtain ⟨a1, a2, a3, a4⟩ := pFact_GI (B := B) (L := L) ok0 m _ n1
      refine (ih d h2 v (nx B L T) S g g0 y _ mA m2A XA n1 ok Z hB hP (by omega) fun h3 P3 => ?_).room (by omega) (Nat.le_refl _) (Nat.le_refl _)
      by_cases c0 : (pFact B L S0 m (nx B L T)).1 = 0
      · obtain ⟨b1, b2, b3, b4⟩ := a4 c0
        obtain ⟨K3, ⟨y3, m13⟩, g3, m23, Z3⟩ := P3.1 c0
        have l1 := a1.2.1
        have l2 := a1.2.2.1
        have tb : 2 * clTot (sFl S ++ (pFact B L S0 m (nx B L T)).2.2) ≤ (pFact B L S0 m (nx B L T)).2.1.2.1 + 1 := by rw [clTot_app]; omega
        have K3 := KA.trans K3
        rw [c0]
        refine b_Mo_fact_19 (d := d + 3 + 3 * m + 1) (g_3 := g3) (z_2 := pzM L T (nI 0) y) (t_4 := clTot (sFl S ++ (pFact B L S0 m (nx B L T)).2.2)) (fun _ => m13) (fun _ => m23) (fun _ => ⟨Z3.e3, by omega⟩) (fun _ => ⟨_, m13⟩) (fun k => absurd k (by decide)) (fun _ k => absurd k (by decide)) (fun _ _ => ?_)
        rw [w2]
        have Z4 := Z3.join (k := 0) (by show clTot (sFl S ++ (pFact B L S0 m (nx B L T)).2.2) + 1 ≤ 500; omega) (by omega) ok
        have Z4 : GZ g0 (emF g3 (clTot (sFl S ++ (pFact B L S0 m (nx B L T)).2.2)) 10 0) (setF S ((sFl S ++ (pFact B L S0 m (nx B L T)).2.2) ++ [jn 0])) := Z4
        rw [List.append_assoc] at Z4
        have r := hR (hset (hset h3 103 (aL 9758 (emF g3 (clTot (sFl S ++ (pFact B L S0 m (nx B L T)).2.2)) 10 0))) 102 (moC v (pzM L (pFact B L S0 m (nx B L T)).2.1 (nI (6 - (m + 1))) y3))) ⟨fun _ => ⟨(K3.set (k := 103) _ (by omega) (by omega)).set (k := 102) _ (by omega) (by omega), ⟨_, hat_set (hat_ne m13 (by omega))⟩, _, hat_ne (hat_set m23) (by omega), Z4⟩, fun z => absurd c0 z⟩
        have ep : (pNot (pFact B L S0 m (nx B L T))).1 = 0 := c0
        rw [ep] at r
        exact r
      · have ep : ¬ (pNot (pFact B L S0 m (nx B L T))).1 = 0 := c0
        obtain ⟨K3, p1, p2⟩ := P3.2 c0
        have r := hR h3 (PoM.bad ep ⟨KA.trans K3, p1, p2⟩)
        rw [decide_eq_false ep] at r
        rw [decide_eq_false c0]
        exact b_Mo_fact_19 (d := d + 3 + 3 * m + 1) (v_1 := v) (z_2 := pzM L T (nI 0) y) (g_3 := g) (t_4 := 0) (L5 := L) (T6 := T) (dp7 := nI 0) (y_8 := y) (fun k => absurd rfl k) (fun k => absurd rfl k) (fun k => absurd rfl k) (fun k => absurd rfl k) (fun _ => r) (fun k => absurd rfl k) (fun k => absurd rfl k)
    · have c : ¬ wdB B T 8 = true := fun z => c (u5.mpr z)
      have c2 := of_decide_eq_false (b2i_e0 c2)
      rw [if_neg c, if_neg c2] at e
      rw [e] at hR
      exact s_factCmp (d := d + 3 + 3 * m) m1 m2 X HT ok Z hB hP hl hR
    · have c : ¬ wdB B T 8 = true := fun z => c (u5.mpr z)
      have c2 := of_decide_eq_true (b2i_n0 c2)
      rw [if_neg c, if_pos c2] at e
      rw [e] at hR
      refine s_sinks (d := d + 3 + 3 * m + 2) m1 X HT (by omega) (fun _ => ?_) (fun k => absurd k (by omega))
      rw [w1]
      generalize hset h 102 (moC v (pzM L (nx B L T) (nI (6 - m)) y)) = h2 at mA KA m2A XA
      refine b_Mo_fact_48 (d := d + 3 + 3 * m + 1) (fun _ => ⟨_, mA⟩) (fun k => absurd k (by decide)) (fun _ => ?_)
      obtain ⟨a1, a2, a3, a4⟩ := pTest_GI (B := B) (L := L) ok0 m _ n1
      change TkOk B L (pSd B L (pSd B L (pFact B L S0 m) 7 1) 6 2 (nx B L T)).2.1 at a1
      refine (ihT d h2 v (nx B L T) S g g0 y _ mA m2A XA n1 ok Z hB hP (by omega) fun h3 P3 => ?_).room (by omega) (Nat.le_refl _) (Nat.le_refl _)
      generalize pSd B L (pSd B L (pFact B L S0 m) 7 1) 6 2 (nx B L T) = r at a1 hR P3 ⊢
      unfold pClose at hR
      by_cases c0 : r.1 = 0
      · obtain ⟨K3, ⟨y3, m13⟩, g3, m23, Z3⟩ := P3.1 c0
        have K3 := KA.trans K3
        have X3 := X.kg K3.g (by omega)
        rw [if_pos c0] at hR
        rw [c0]
        refine b_Mo_fact_55 (d := d + 3 + 3 * m + 1) (fun _ => ⟨_, m13⟩) (fun k => absurd k (by decide)) (fun _ => ?_)
        refine s_Mo_takesSign (d := d + 3 + 3 * m + 2) (c := 93) m13 X3 a1 ⟨rfl, by decide⟩ (fun c3 => ?_) (fun c3 => ?_)
        · rw [if_pos c3] at hR
          have mD := hat_set m13 (c' := moC v (pzM L (nx B L r.2.1) (nI (6 - m)) y3))
          refine b_Mo_fact_64 (d := d + 3 + 3 * m + 1) (fun _ => mD) (fun _ => ⟨_, mD⟩) (fun k => absurd k (by decide)) (fun _ k => absurd k (by decide)) (fun _ _ => ?_)
          rw [hset_hset, w2]
          exact hR _ ⟨fun _ => ⟨K3.set _ (by omega) (by omega), ⟨_, hat_set m13⟩, _, hat_ne m23 (by omega), Z3⟩, fun z => absurd rfl z⟩
        · rw [if_neg c3] at hR
          have mB := hat_set m13 (c' := bdC v L r.2.1 2 (nI (6 - m)) y3)
          refine b_Mo_fact_64 (d := d + 3 + 3 * m + 1) (v_1 := v) (L2 := L) (T3 := T) (dp4 := nI 0) (y_5 := y) (fun k => absurd rfl k) (fun k => absurd rfl k) (fun _ => ?_) (fun k => absurd rfl k) (fun k => absurd rfl k)
          exact hR _ (PoM.bad (by show ¬ 2 = 0; omega) ⟨K3.set _ (by omega) (by omega), ⟨_, _, mB⟩, _, hat_ne m23 (by omega), Z3.2.2⟩)
      · rw [if_neg c0] at hR
        obtain ⟨K3, p1, p2⟩ := P3.2 c0
        have q := hR h3 (PoM.bad c0 ⟨KA.trans K3, p1, p2⟩)
        rw [decide_eq_false c0] at q ⊢
        exact b_Mo_fact_55 (d := d + 3 + 3 * m + 1) (fun k => absurd rfl k) (fun _ => q) (fun k => absurd rfl k)
theorem s_Mo_test6 (ok0 : sOk S0) : RdM G B L S0 26 M_Mo_test [.ref 102] 0 (pTest B L S0 6) := s_Mo_test (s_Mo_side (s_Mo_fact ok0 6 (by omega)) (pFact_GI ok0 6) (by omega)) (pSide_GI ok0 6) (by omega)
end S75
