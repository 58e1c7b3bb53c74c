/-! the model's reader: sides, tests, facts within one another -/
section S74
variable {G : ev_G} {B : Nat → Nat} {L : Nat} {S S0 : AS} {g0 g g' : Nat → Int64}
/-- the room that a joined piece takes in the text -/
theorem lp_room {f : Tk → PR} {N w : Nat} {T : Tk} (hG : GI B L N f) (h : TkOk B L T) (hw : w = 7 ∨ w = 6) (c : wdB B T w = true) (c2 : (f (nx B L T)).1 = 0) : T.2.1 + 2 * clTot (f (nx B L T)).2.2 + 2 ≤ (f (nx B L T)).2.1.2.1 ∧ T.2.1 + 2 ≤ (nx B L T).2.1 := by
  have n1 := nx_ok h
  have g1 := nx_ge B L T
  have wf := wd_f c
  obtain ⟨a1, a2, a3, a4⟩ := hG _ n1
  obtain ⟨b1, b2, b3, b4⟩ := a4 c2
  have lw : T.2.1 + 2 ≤ T.2.2 := by
    rcases hw with rfl | rfl
    · have := wd_len 7 (by decide) (by decide); omega
    · have := wd_len6; omega
  have gap : (nx B L T).1 = 97 → T.2.2 + 1 ≤ (nx B L T).2.1 := fun z => by
    obtain ⟨l1, l2, -⟩ := n1.2.2.2.2.1 z
    rcases Nat.lt_or_ge T.2.2 (nx B L T).2.1 with y | y
    · exact y
    · have e : (nx B L T).2.1 = T.2.2 := by omega
      have lt := (h.2.2.2.2.1 wf.1).2.2 (by have := n1.2.2.1; omega)
      have := l2 _ (Nat.le_refl _) l1
      rw [e, lt] at this
      cases this
  unfold kEx at b3
  refine ⟨?_, by omega⟩
  rcases b1 with z | z
  · rw [if_pos z] at b3; omega
  · have := gap z
    split at b3 <;> omega
theorem s_Mo_side {D w : Nat} {f : Tk → PR} {N : Nat} (hf : RdM G B L S0 D M_Mo_fact [.ref 102, ev_unk] w f) (hG : GI B L N f) (hD : 5 ≤ D) : RdM G B L S0 (D + 1) M_Mo_side [.ref 102] w (pSd B L f 7 1) := by
  intro d h v T S g g0 y R m1 m2 X HT ok Z hB hP hl hR
  obtain ⟨D, rfl⟩ : ∃ D', D = D' + 4 := ⟨D - 4, by omega⟩
  show Ev G ((d + D) + 5) 0 0 M_Mo_side 0 [.ref 102] [] h R
  have h900 := X.1
  obtain ⟨a1, a2, a3, a4⟩ := hG _ HT
  have loop : ∀ (n : Nat) (h1 : ev_H) (T1 : Tk) (acc : List AStp) (g1 : Nat → Int64) (y1 : Int64), Kp h h1 102 104 → hat h1 102 (moC v (pzM L T1 (nI w) y1)) → hat h1 103 (aL 9758 g1) → TkOk B L T1 → GZ g0 g1 (setF S (sFl S ++ acc)) → 1800 ≤ T1.2.1 + 2 * n → 2 * clTot (sFl S ++ acc) ≤ T1.2.1 + 1 → (∀ h', PoM h h' v L (nI w) g0 S (pLp B L f 7 1 n T1 acc) → R (some (.int (b2i (decide ((pLp B L f 7 1 n T1 acc).1 = 0))))) h') → Ev G (d + D + 5) 0 0 M_Mo_side 9 [.ref 102] [] h1 R := by
    intro n
    induction n with
    | zero =>
      intro h1 T1 acc g1 y1 K m1 m2 HT Z hn hl hr
      have := HT.2.1
      have := HT.2.2.1
      omega
    | succ n ih =>
      intro h1 T1 acc g1 y1 K m1 m2 HT Z hn hl hr
      have X := X.kg K.g (by omega)
      have n1 := nx_ok HT
      have le1 := HT.2.1
      have le2 := HT.2.2.1
      have e : pLp B L f 7 1 (n + 1) T1 acc = if wdB B T1 7 then (if (f (nx B L T1)).1 = 0 then pLp B L f 7 1 n (f (nx B L T1)).2.1 (acc ++ ((f (nx B L T1)).2.2 ++ [jn 1])) else f (nx B L T1)) else (0, T1, acc) := rfl
      rw [e] at hr
      have u6 : keM B T1 = 6 ↔ wdB B T1 7 = true := ke_eq (m := 6) (by omega)
      have mA := hat_set m1 (c' := moC v (pzM L (nx B L T1) (nI w) y1))
      refine b_Mo_side_9 (d := d + D) m1 X HT ⟨_, m1⟩ (fun _ => m1) (fun _ => X) (fun _ => HT.2.2.1) (fun _ => ⟨_, m1⟩) (fun _ => ⟨_, mA⟩) (fun c => ?_) (fun c => ?_)
      · have c := u6.mp c
        rw [if_pos c] at hr
        have KA := K.set (k := 102) (moC v (pzM L (nx B L T1) (nI w) y1)) (by omega) (by omega)
        have m2A := hat_ne (b := 102) (c' := moC v (pzM L (nx B L T1) (nI w) y1)) m2 (by omega)
        have XA := X.set (c := moC v (pzM L (nx B L T1) (nI w) y1))
        generalize hset h1 102 (moC v (pzM L (nx B L T1) (nI w) y1)) = h2 at mA KA m2A XA
        have lwn : T1.2.1 + 2 ≤ (nx B L T1).2.1 := by
          have := wd_len 7 (by decide) (by decide)
          have wf := wd_f c
          have := nx_ge B L T1
          omega
        refine hf d h2 v (nx B L T1) (setF S (sFl S ++ acc)) g1 g0 y1 _ mA m2A XA n1 ok Z hB hP (by show 2 * clTot (sFl S ++ acc) ≤ _; omega) fun h3 P3 => ?_
        by_cases c0 : (f (nx B L T1)).1 = 0
        · rw [if_pos c0] at hr
          obtain ⟨K3, ⟨y3, m13⟩, g3, m23, Z3⟩ := P3.1 c0
          obtain ⟨r1, r2⟩ := lp_room hG HT (Or.inl rfl) c c0
          obtain ⟨b1, b2, b3, b4⟩ := hG _ n1
          have K3 := KA.trans K3
          have Z3 : GZ g0 g3 (setF S ((sFl S ++ acc) ++ (f (nx B L T1)).2.2)) := Z3
          have tb : 2 * clTot ((sFl S ++ acc) ++ (f (nx B L T1)).2.2) + 2 ≤ (f (nx B L T1)).2.1.2.1 + 1 := by rw [clTot_app]; omega
          have l3 := b1.2.1
          have l4 := b1.2.2.1
          rw [c0]
          refine b_Mo_side_26 (d := d + D) (g_3 := g3) (t_4 := clTot ((sFl S ++ acc) ++ (f (nx B L T1)).2.2)) (fun _ => m13) (fun _ => m23) (fun _ => ⟨Z3.e3, by omega⟩) (fun _ => ⟨_, m13⟩) (fun k => absurd k (by decide)) (fun _ => ?_)
          have Z4 := Z3.join (k := 1) (by show clTot ((sFl S ++ acc) ++ (f (nx B L T1)).2.2) + 1 ≤ 500; omega) (by omega) ok
          have Z4 : GZ g0 (emF g3 (clTot ((sFl S ++ acc) ++ (f (nx B L T1)).2.2)) 11 0) (setF S (((sFl S ++ acc) ++ (f (nx B L T1)).2.2) ++ [jn 1])) := Z4
          have ea : ((sFl S ++ acc) ++ (f (nx B L T1)).2.2) ++ [jn 1] = sFl S ++ (acc ++ ((f (nx B L T1)).2.2 ++ [jn 1])) := by rw [List.append_assoc, List.append_assoc]
          have tb2 : 2 * clTot (((sFl S ++ acc) ++ (f (nx B L T1)).2.2) ++ [jn 1]) ≤ (f (nx B L T1)).2.1.2.1 + 1 := by rw [clTot_app, clTot_jn (by omega)]; omega
          rw [ea] at Z4 tb2
          exact ih _ _ _ _ y3 (K3.set (k := 103) _ (by omega) (by omega)) (hat_ne m13 (by omega)) (hat_set m23) b1 Z4 (by omega) tb2 hr
        · rw [if_neg c0] at hr
          obtain ⟨K3, p1, p2⟩ := P3.2 c0
          have r := hr h3 (PoM.bad c0 ⟨KA.trans K3, p1, p2⟩)
          rw [decide_eq_false c0] at r ⊢
          exact b_Mo_side_26 (d := d + D) (v_1 := v) (z_2 := pzM L T1 (nI w) y1) (g_3 := g1) (t_4 := 0) (fun k => absurd rfl k) (fun k => absurd rfl k) (fun k => absurd rfl k) (fun k => absurd rfl k) (fun _ => r) (fun k => absurd rfl k)
      · have c : ¬ wdB B T1 7 = true := fun z => c (u6.mpr z)
        rw [if_neg c] at hr
        exact hr h1 ⟨fun _ => ⟨K, ⟨_, m1⟩, _, m2, Z⟩, fun z => absurd rfl z⟩
  refine b_Mo_side_0 (d := d + D) ⟨_, m1⟩ ?_
  refine hf d h v T S g g0 y _ m1 m2 X HT ok Z hB hP hl fun h1 P1 => ?_
  by_cases c0 : (f T).1 = 0
  · have e : pSd B L f 7 1 T = pLp B L f 7 1 900 (f T).2.1 (f T).2.2 := by unfold pSd; rw [if_pos c0]
    rw [e] at hR
    obtain ⟨b1, b2, b3, b4⟩ := a4 c0
    obtain ⟨K1, ⟨y1, m11⟩, g1, m21, Z1⟩ := P1.1 c0
    rw [c0]
    refine b_Mo_side_4 (d := d + D) (fun k => absurd k (by decide)) (fun _ => ?_)
    exact loop 900 h1 _ _ g1 y1 K1 m11 m21 a1 Z1 (by omega) (by rw [clTot_app]; omega) hR
  · have e : pSd B L f 7 1 T = f T := by unfold pSd; rw [if_neg c0]
    rw [e] at hR
    have r := hR h1 (PoM.bad c0 (P1.2 c0))
    rw [decide_eq_false c0] at r ⊢
    exact b_Mo_side_4 (d := d + D) (fun _ => r) (fun k => absurd rfl k)
theorem s_Mo_test {D w : Nat} {f : Tk → PR} {N : Nat} (hf : RdM G B L S0 D M_Mo_side [.ref 102] w f) (hG : GI B L N f) (hD : 5 ≤ D) : RdM G B L S0 (D + 1) M_Mo_test [.ref 102] w (pSd B L f 6 2) := by
  intro d h v T S g g0 y R m1 m2 X HT ok Z hB hP hl hR
  obtain ⟨D, rfl⟩ : ∃ D', D = D' + 4 := ⟨D - 4, by omega⟩
  show Ev G ((d + D) + 5) 0 0 M_Mo_test 0 [.ref 102] [] h R
  have h900 := X.1
  obtain ⟨a1, a2, a3, a4⟩ := hG _ HT
  have loop : ∀ (n : Nat) (h1 : ev_H) (T1 : Tk) (acc : List AStp) (g1 : Nat → Int64) (y1 : Int64), Kp h h1 102 104 → hat h1 102 (moC v (pzM L T1 (nI w) y1)) → hat h1 103 (aL 9758 g1) → TkOk B L T1 → GZ g0 g1 (setF S (sFl S ++ acc)) → 1800 ≤ T1.2.1 + 2 * n → 2 * clTot (sFl S ++ acc) ≤ T1.2.1 + 1 → (∀ h', PoM h h' v L (nI w) g0 S (pLp B L f 6 2 n T1 acc) → R (some (.int (b2i (decide ((pLp B L f 6 2 n T1 acc).1 = 0))))) h') → Ev G (d + D + 5) 0 0 M_Mo_test 9 [.ref 102] [] h1 R := by
    intro n
    induction n with
    | zero =>
      intro h1 T1 acc g1 y1 K m1 m2 HT Z hn hl hr
      have := HT.2.1
      have := HT.2.2.1
      omega
    | succ n ih =>
      intro h1 T1 acc g1 y1 K m1 m2 HT Z hn hl hr
      have X := X.kg K.g (by omega)
      have n1 := nx_ok HT
      have le1 := HT.2.1
      have le2 := HT.2.2.1
      have e : pLp B L f 6 2 (n + 1) T1 acc = if wdB B T1 6 then (if (f (nx B L T1)).1 = 0 then pLp B L f 6 2 n (f (nx B L T1)).2.1 (acc ++ ((f (nx B L T1)).2.2 ++ [jn 2])) else f (nx B L T1)) else (0, T1, acc) := rfl
      rw [e] at hr
      have u7 : keM B T1 = 7 ↔ wdB B T1 6 = true := ke_eq (m := 7) (by omega)
      have mA := hat_set m1 (c' := moC v (pzM L (nx B L T1) (nI w) y1))
      refine b_Mo_test_9 (d := d + D) m1 X HT ⟨_, m1⟩ (fun _ => m1) (fun _ => X) (fun _ => HT.2.2.1) (fun _ => ⟨_, m1⟩) (fun _ => ⟨_, mA⟩) (fun c => ?_) (fun c => ?_)
      · have c := u7.mp c
        rw [if_pos c] at hr
        have KA := K.set (k := 102) (moC v (pzM L (nx B L T1) (nI w) y1)) (by omega) (by omega)
        have m2A := hat_ne (b := 102) (c' := moC v (pzM L (nx B L T1) (nI w) y1)) m2 (by omega)
        have XA := X.set (c := moC v (pzM L (nx B L T1) (nI w) y1))
        generalize hset h1 102 (moC v (pzM L (nx B L T1) (nI w) y1)) = h2 at mA KA m2A XA
        have lwn : T1.2.1 + 2 ≤ (nx B L T1).2.1 := by
          have := wd_len6
          have wf := wd_f c
          have := nx_ge B L T1
          omega
        refine hf d h2 v (nx B L T1) (setF S (sFl S ++ acc)) g1 g0 y1 _ mA m2A XA n1 ok Z hB hP (by show 2 * clTot (sFl S ++ acc) ≤ _; omega) fun h3 P3 => ?_
        by_cases c0 : (f (nx B L T1)).1 = 0
        · rw [if_pos c0] at hr
          obtain ⟨K3, ⟨y3, m13⟩, g3, m23, Z3⟩ := P3.1 c0
          obtain ⟨r1, r2⟩ := lp_room hG HT (Or.inr rfl) c c0
          obtain ⟨b1, b2, b3, b4⟩ := hG _ n1
          have K3 := KA.trans K3
          have Z3 : GZ g0 g3 (setF S ((sFl S ++ acc) ++ (f (nx B L T1)).2.2)) := Z3
          have tb : 2 * clTot ((sFl S ++ acc) ++ (f (nx B L T1)).2.2) + 2 ≤ (f (nx B L T1)).2.1.2.1 + 1 := by rw [clTot_app]; omega
          have l3 := b1.2.1
          have l4 := b1.2.2.1
          rw [c0]
          refine b_Mo_test_26 (d := d + D) (g_3 := g3) (t_4 := clTot ((sFl S ++ acc) ++ (f (nx B L T1)).2.2)) (fun _ => m13) (fun _ => m23) (fun _ => ⟨Z3.e3, by omega⟩) (fun _ => ⟨_, m13⟩) (fun k => absurd k (by decide)) (fun _ => ?_)
          have Z4 := Z3.join (k := 2) (by show clTot ((sFl S ++ acc) ++ (f (nx B L T1)).2.2) + 1 ≤ 500; omega) (by omega) ok
          have Z4 : GZ g0 (emF g3 (clTot ((sFl S ++ acc) ++ (f (nx B L T1)).2.2)) 12 0) (setF S (((sFl S ++ acc) ++ (f (nx B L T1)).2.2) ++ [jn 2])) := Z4
          have ea : ((sFl S ++ acc) ++ (f (nx B L T1)).2.2) ++ [jn 2] = sFl S ++ (acc ++ ((f (nx B L T1)).2.2 ++ [jn 2])) := by rw [List.append_assoc, List.append_assoc]
          have tb2 : 2 * clTot (((sFl S ++ acc) ++ (f (nx B L T1)).2.2) ++ [jn 2]) ≤ (f (nx B L T1)).2.1.2.1 + 1 := by rw [clTot_app, clTot_jn (by omega)]; omega
          rw [ea] at Z4 tb2
          exact ih _ _ _ _ y3 (K3.set (k := 103) _ (by omega) (by omega)) (hat_ne m13 (by omega)) (hat_set m23) b1 Z4 (by omega) tb2 hr
        · rw [if_neg c0] at hr
          obtain ⟨K3, p1, p2⟩ := P3.2 c0
          have r := hr h3 (PoM.bad c0 ⟨KA.trans K3, p1, p2⟩)
          rw [decide_eq_false c0] at r ⊢
          exact b_Mo_test_26 (d := d + D) (v_1 := v) (z_2 := pzM L T1 (nI w) y1) (g_3 := g1) (t_4 := 0) (fun k => absurd rfl k) (fun k => absurd rfl k) (fun k => absurd rfl k) (fun k => absurd rfl k) (fun _ => r) (fun k => absurd rfl k)
      · have c : ¬ wdB B T1 6 = true := fun z => c (u7.mpr z)
        rw [if_neg c] at hr
        exact hr h1 ⟨fun _ => ⟨K, ⟨_, m1⟩, _, m2, Z⟩, fun z => absurd rfl z⟩
  refine b_Mo_test_0 (d := d + D) ⟨_, m1⟩ ?_
  refine hf d h v T S g g0 y _ m1 m2 X HT ok Z hB hP hl fun h1 P1 => ?_
  by_cases c0 : (f T).1 = 0
  · have e : pSd B L f 6 2 T = pLp B L f 6 2 900 (f T).2.1 (f T).2.2 := by unfold pSd; rw [if_pos c0]
    rw [e] at hR
    obtain ⟨b1, b2, b3, b4⟩ := a4 c0
    obtain ⟨K1, ⟨y1, m11⟩, g1, m21, Z1⟩ := P1.1 c0
    rw [c0]
    refine b_Mo_test_4 (d := d + D) (fun k => absurd k (by decide)) (fun _ => ?_)
    exact loop 900 h1 _ _ g1 y1 K1 m11 m21 a1 Z1 (by omega) (by rw [clTot_app]; omega) hR
  · have e : pSd B L f 6 2 T = f T := by unfold pSd; rw [if_neg c0]
    rw [e] at hR
    have r := hR h1 (PoM.bad c0 (P1.2 c0))
    rw [decide_eq_false c0] at r ⊢
    exact b_Mo_test_4 (d := d + D) (fun _ => r) (fun k => absurd rfl k)
end S74
