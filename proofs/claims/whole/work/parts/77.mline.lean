/-! the model's reader: codes, filters, a line -/
section S77
variable {G : ev_G} {d : Nat} {h h1 : ev_H} {R : Option Value → ev_H → Prop} {B : Nat → Nat} {L : Nat} {v : MG} {T : Tk} {dp : Int32} {y : Int64} {S : AS} {g g' g0 : Nat → Int64}
theorem GZ.code {c : Int64} {t : Nat} (Z : GZ g0 g S) (hn : sN S < 32) (h6 : sP S ≤ 6) (e2 : g' 2 = lN (sN S + 1)) (e10 : g' (10 + sN S) = c) (e42 : g' (42 + sN S) = lN t) (eo : ∀ k, k ≠ 2 → k ≠ 10 + sN S → k ≠ 42 + sN S → g' k = g k) : GZ g0 g' (apS S c t) := by
  obtain ⟨⟨a0, a1, a2, a3, a4, a5, a6⟩, b, q⟩ := Z
  have e : apS S c t = mkS (sB S) (sP S) (sN S + 1) (sBr S) (fun i => if i = sN S then c else sCo S i) (fun i => if i = sN S then t else sTg S i) (sFl S) := if_pos hn
  rw [e]
  refine ⟨⟨(eo 0 (by omega) (by omega) (by omega)).trans a0, (eo 1 (by omega) (by omega) (by omega)).trans a1, e2, (eo 3 (by omega) (by omega) (by omega)).trans a3, fun i hi => ?_, fun i hi => ?_, fun i hi => ?_⟩, fun i hi hi2 => ?_, fun k hk => ?_⟩
  · have hi : i < sP S := hi
    rw [eo _ (by omega) (by omega) (by omega)]; exact a4 i hi
  · have hi : i < sN S + 1 := hi
    show g' (0 + 10 + i) = (if i = sN S then c else sCo S i) ∧ g' (0 + 42 + i) = lN (if i = sN S then t else sTg S i)
    by_cases w : i = sN S
    · subst w
      rw [if_pos rfl, if_pos rfl, show 0 + 10 + sN S = 10 + sN S by omega, show 0 + 42 + sN S = 42 + sN S by omega]
      exact ⟨e10, e42⟩
    · rw [if_neg w, if_neg w, eo _ (by omega) (by omega) (by omega), eo _ (by omega) (by omega) (by omega)]
      exact a5 i (by omega)
  · have hi : i < clTot (sFl S) := hi
    rw [eo _ (by omega) (by omega) (by omega)]; exact a6 i hi
  · have hi : sN S + 1 ≤ i := hi
    rw [eo _ (by omega) (by omega) (by omega)]; exact b i (by omega) hi2
  · rw [eo _ (by omega) (by omega) (by omega)]; exact q k hk
theorem s_aCode (m1 : hat h 102 (moC v (pzM L T dp y))) (m2 : hat h 103 (aL 9758 g)) (X : TxM h B L) (HT : TkOk B L T) (gd : sGd S) (Z : GZ g0 g S) (hR : ∀ h', LoM h h' v L g0 (qCode B L T S) → R (some (.int (b2i (decide ((qCode B L T S).1 = 0))))) h') : Ev G (d + 5) 0 0 M_Mo_aCode 0 [.ref 102, ev_unk] [] h R := by
  have n1 := nx_ok HT
  have n2 := nx_ok n1
  have n3 := nx_ok n2
  have n4 := nx_ok n3
  have n32 := gd.1.2.2.2.2.1
  have o1 := gd.1.2.1
  have o6 := gd.1.2.2.2.1
  have u32 : nI (sN S) = 32 ↔ sN S = 32 := nI_eq (b := 32) (by omega) (by omega)
  have mA := hat_set m1 (c' := moC v (pzM L (nx B L T) dp y))
  have HA : MS (hset h 102 (moC v (pzM L (nx B L T) dp y))) S := Z.ms mA (hat_ne m2 (by omega))
  refine b_Mo_aCode_0 (Z.ms m1 m2) ⟨_, m1⟩ (fun _ => m1) (fun _ => rfl) (fun _ => ⟨_, m1⟩) (fun _ => m1) (fun _ => X) (fun _ => HT.2.2.1) (fun _ => ⟨_, m1⟩) (fun _ => ⟨_, mA⟩) (fun c => ?_) (fun c => ?_)
  · have c := u32.mp c
    have e : qCode B L T S = (6, T, S) := by unfold qCode; rw [if_neg (by omega)]
    rw [e] at hR
    exact hR _ (LoM.bad (by show ¬ 6 = 0; omega) ⟨(Kp.refl h 102 104).set _ (by omega) (by omega), ⟨_, _, hat_set m1⟩, _, hat_ne m2 (by omega), Z.2.2⟩)
  · have hn : sN S < 32 := by have : ¬ sN S = 32 := fun z => c (u32.mpr z); omega
    have e : qCode B L T S = (if (pBin B (nx B L T) (sB S)).1 = 0 then (if frI (whP S (pBin B (nx B L T) (sB S)).2) (sN S) = -1 then qTag B L S (pBin B (nx B L T) (sB S)).2 (nx B L (nx B L T)) else (5, nx B L T, S)) else ((pBin B (nx B L T) (sB S)).1, nx B L T, S)) := by unfold qCode; rw [if_pos hn]
    rw [e] at hR
    clear e c u32
    refine s_bin (d := d + 2) mA X.set n1 HA o1 (fun c => ?_) (fun c y' => ?_)
    · rw [if_pos c] at hR
      rw [hset_hset]
      generalize (pBin B (nx B L T) (sB S)).2 = code at hR ⊢
      have mB := hat_set m1 (c' := moC v (pzM L (nx B L T) dp code))
      have m2B := hat_ne (b := 102) (c' := moC v (pzM L (nx B L T) dp code)) m2 (by omega)
      have KB : Kp h (hset h 102 (moC v (pzM L (nx B L T) dp code))) 102 104 := (Kp.refl h 102 104).set _ (by omega) (by omega)
      have XB := X.set (c := moC v (pzM L (nx B L T) dp code))
      generalize hset h 102 (moC v (pzM L (nx B L T) dp code)) = h2 at mB m2B KB XB
      have HB := Z.ms mB m2B
      refine b_Mo_aCode_24 mB (fun _ => HB) (fun _ => gd.1) (fun _ _ => HB) (fun _ _ => mB) (fun _ _ => rfl) (fun k => absurd k (by decide)) (fun _ cw => ?_) (fun _ cw => ?_)
      · have cw : frI (whP S code) (sN S) = -1 := cw
        rw [if_pos cw] at hR
        refine s_Mo_puts (j := 10 + sN S) mB m2B ⟨nI_add 10 _, by omega, by omega⟩ ?_
        have mC : hat (hset h2 103 (aL 9758 (vp_updL g (10 + sN S) code))) 102 (moC v (pzM L (nx B L T) dp code)) := hat_ne mB (by omega)
        have m2C := hat_set m2B (c' := aL 9758 (vp_updL g (10 + sN S) code))
        have KC := KB.set (k := 103) (aL 9758 (vp_updL g (10 + sN S) code)) (by omega) (by omega)
        have XC := XB.set3 (c := aL 9758 (vp_updL g (10 + sN S) code))
        show Ev G (d + 5) 0 0 M_Mo_aCode 64 [.ref 102, .int (nI (sN S))] [] (hset h2 103 (aL 9758 (vp_updL g (10 + sN S) code))) R
        generalize hset h2 103 (aL 9758 (vp_updL g (10 + sN S) code)) = h3 at mC m2C KC XC
        have u3 : keM B (nx B L (nx B L T)) = 3 ↔ wdB B (nx B L (nx B L T)) 5 = true := ke_eq (m := 3) (by omega)
        have mD := hat_set mC (c' := moC v (pzM L (nx B L (nx B L T)) dp code))
        have XD := XC.set (c := moC v (pzM L (nx B L (nx B L T)) dp code))
        have eM : (nI (sN S)).toInt64 + (1 : Int64) = lN (sN S + 1) := by rw [nI_l (by omega), lN_1]
        refine b_Mo_aCode_64 mC XC n1.2.2.1 ⟨_, mC⟩ mD XD n2 ⟨_, mD⟩ (fun _ => mD) (fun _ => XD) (fun _ => n2.2.2.1) (fun _ => ⟨_, mD⟩) (fun _ => ⟨_, hat_set mD⟩) (fun _ => ⟨_, mD⟩) (fun k => ?_) (fun k => ?_)
        · have k := u3.mp k
          have e : qTag B L S code (nx B L (nx B L T)) = if (pNum B (nx B L (nx B L (nx B L T))) 0 9).1 = 0 then (0, nx B L (nx B L (nx B L (nx B L T))), apS S code (pNum B (nx B L (nx B L (nx B L T))) 0 9).2) else ((pNum B (nx B L (nx B L (nx B L T))) 0 9).1, nx B L (nx B L (nx B L T)), S) := by unfold qTag; rw [if_pos k]
          rw [e] at hR
          rw [hset_hset]
          have mE := hat_set mC (c' := moC v (pzM L (nx B L (nx B L (nx B L T))) dp code))
          refine s_num (d := d + 3) (lo := 0) (hi := 9) mE XC.set n3 ⟨rfl, by omega⟩ ⟨rfl, by omega⟩ (fun c2 => ?_) (fun c2 y2 => ?_)
          · rw [if_pos c2] at hR
            rw [hset_hset]
            generalize (pNum B (nx B L (nx B L (nx B L T))) 0 9).2 = tg at hR ⊢
            have mF := hat_set mC (c' := moC v (pzM L (nx B L (nx B L (nx B L T))) dp (lN tg)))
            have m2F := hat_ne (b := 102) (c' := moC v (pzM L (nx B L (nx B L (nx B L T))) dp (lN tg))) m2C (by omega)
            have KF := KC.set (k := 102) (moC v (pzM L (nx B L (nx B L (nx B L T))) dp (lN tg))) (by omega) (by omega)
            have XF := XC.set (c := moC v (pzM L (nx B L (nx B L (nx B L T))) dp (lN tg)))
            generalize hset h3 102 (moC v (pzM L (nx B L (nx B L (nx B L T))) dp (lN tg))) = h4 at mF m2F KF XF
            refine b_Mo_aCode_87 mF (fun k => absurd k (by decide)) (fun _ => ?_)
            refine s_Mo_puts (j := 42 + sN S) mF m2F ⟨nI_add 42 _, by omega, by omega⟩ ?_
            have mG : hat (hset h4 103 (aL 9758 (vp_updL (vp_updL g (10 + sN S) code) (42 + sN S) (lN tg)))) 102 (moC v (pzM L (nx B L (nx B L (nx B L T))) dp (lN tg))) := hat_ne mF (by omega)
            have m2G := hat_set m2F (c' := aL 9758 (vp_updL (vp_updL g (10 + sN S) code) (42 + sN S) (lN tg)))
            have KG := KF.set (k := 103) (aL 9758 (vp_updL (vp_updL g (10 + sN S) code) (42 + sN S) (lN tg))) (by omega) (by omega)
            have XG := XF.set3 (c := aL 9758 (vp_updL (vp_updL g (10 + sN S) code) (42 + sN S) (lN tg)))
            show Ev G (d + 5) 0 0 M_Mo_aCode 104 [.ref 102, .int (nI (sN S))] [] (hset h4 103 (aL 9758 (vp_updL (vp_updL g (10 + sN S) code) (42 + sN S) (lN tg)))) R
            generalize hset h4 103 (aL 9758 (vp_updL (vp_updL g (10 + sN S) code) (42 + sN S) (lN tg))) = h5 at mG m2G KG XG
            have mH := hat_set mG (c' := moC v (pzM L (nx B L (nx B L (nx B L (nx B L T)))) dp (lN tg)))
            refine b_Mo_aCode_104 mG XG n3.2.2.1 ⟨_, mG⟩ ⟨_, mH⟩ ?_
            rw [eM]
            have m2H := hat_ne (b := 102) (c' := moC v (pzM L (nx B L (nx B L (nx B L (nx B L T)))) dp (lN tg))) m2G (by omega)
            refine s_Mo_puts (j := 2) mH m2H (ixn (j := 2) (by omega) (by omega)) (b_Mo_aCode_117 ?_)
            refine hR _ ⟨fun _ => ⟨(KG.set (k := 102) _ (by omega) (by omega)).set (k := 103) _ (by omega) (by omega), ⟨_, _, hat_ne mH (by omega)⟩, _, hat_set m2H, Z.code hn o6 rfl ?_ ?_ (fun k q1 q2 q3 => ?_)⟩, fun z => absurd rfl z⟩
            · show (if 10 + sN S = 2 then _ else if 10 + sN S = 42 + sN S then _ else if 10 + sN S = 10 + sN S then _ else _) = _
              rw [if_neg (by omega), if_neg (by omega), if_pos rfl]
            · show (if 42 + sN S = 2 then _ else if 42 + sN S = 42 + sN S then _ else _) = _
              rw [if_neg (by omega), if_pos rfl]
            · show (if k = 2 then _ else if k = 42 + sN S then _ else if k = 10 + sN S then _ else _) = _
              rw [if_neg q1, if_neg q3, if_neg q2]
          · rw [if_neg c2] at hR
            rw [hset_hset]
            have mF := hat_set mC (c' := bdC v L (nx B L (nx B L (nx B L T))) (pNum B (nx B L (nx B L (nx B L T))) 0 9).1 dp y2)
            have r := hR _ (LoM.bad c2 ⟨KC.set _ (by omega) (by omega), ⟨_, _, mF⟩, _, hat_ne m2C (by omega), fun k hk => (if_neg (by omega)).trans (Z.2.2 k hk)⟩)
            rw [show (pNum B (nx B L (nx B L (nx B L T))) 0 9).1 = ((pNum B (nx B L (nx B L (nx B L T))) 0 9).1, nx B L (nx B L (nx B L T)), S).1 from rfl] at c2
            rw [decide_eq_false c2] at r
            exact b_Mo_aCode_87 mF (fun _ => r) (fun k => absurd rfl k)
        · have k : ¬ wdB B (nx B L (nx B L T)) 5 = true := fun z => k (u3.mpr z)
          have e : qTag B L S code (nx B L (nx B L T)) = (0, nx B L (nx B L T), apS S code 0) := by unfold qTag; rw [if_neg k]
          rw [e] at hR
          rw [eM]
          have m2D := hat_ne (b := 102) (c' := moC v (pzM L (nx B L (nx B L T)) dp code)) m2C (by omega)
          refine s_Mo_puts (j := 2) mD m2D (ixn (j := 2) (by omega) (by omega)) (b_Mo_aCode_117 ?_)
          refine hR _ ⟨fun _ => ⟨(KC.set (k := 102) _ (by omega) (by omega)).set (k := 103) _ (by omega) (by omega), ⟨_, _, hat_ne mD (by omega)⟩, _, hat_set m2D, Z.code hn o6 rfl ?_ ?_ (fun k q1 q2 q3 => ?_)⟩, fun z => absurd rfl z⟩
          · show (if 10 + sN S = 2 then _ else if 10 + sN S = 10 + sN S then _ else _) = _
            rw [if_neg (by omega), if_pos rfl]
          · show (if 42 + sN S = 2 then _ else if 42 + sN S = 10 + sN S then _ else _) = _
            rw [if_neg (by omega), if_neg (by omega)]
            exact Z.2.1 _ (Nat.le_refl _) hn
          · show (if k = 2 then _ else if k = 10 + sN S then _ else _) = _
            rw [if_neg q1, if_neg q2]
      · have cw : ¬ frI (whP S code) (sN S) = -1 := cw
        rw [if_neg cw] at hR
        have mC := hat_set mB (c' := bdC v L (nx B L T) 5 dp code)
        exact hR _ (LoM.bad (by show ¬ 5 = 0; omega) ⟨KB.set _ (by omega) (by omega), ⟨_, _, mC⟩, _, hat_ne m2B (by omega), Z.2.2⟩)
    · rw [if_neg c] at hR
      rw [hset_hset]
      have mB := hat_set m1 (c' := bdC v L (nx B L T) (pBin B (nx B L T) (sB S)).1 dp y')
      have r := hR _ (LoM.bad c ⟨(Kp.refl h 102 104).set _ (by omega) (by omega), ⟨_, _, mB⟩, _, hat_ne m2 (by omega), Z.2.2⟩)
      rw [show (pBin B (nx B L T) (sB S)).1 = ((pBin B (nx B L T) (sB S)).1, nx B L T, S).1 from rfl] at c
      rw [decide_eq_false c] at r
      exact b_Mo_aCode_24 (S15 := S) (S16 := S) (v_17 := v) (L18 := L) (T19 := T) (dp20 := dp) (y_21 := y) (k_22 := 0) mB (fun k => absurd rfl k) (fun k => absurd rfl k) (fun k => absurd rfl k) (fun k => absurd rfl k) (fun k => absurd rfl k) (fun _ => r) (fun k => absurd rfl k) (fun k => absurd rfl k)
theorem lN_pos {n : Nat} (h : n < 2 ^ 31) : (0 : Int64) < lN n ↔ 0 < n := by
  rw [Int64.lt_iff_toInt_lt, lN_toInt h]
  show (0 : Int) < _ ↔ _
  omega
theorem clTot_0 {fl : List AStp} : clTot fl = 0 ↔ fl.isEmpty = true := by
  cases fl with
  | nil => exact ⟨fun _ => rfl, fun _ => rfl⟩
  | cons s r =>
    rw [clTot_cons]
    have : 1 ≤ clN s := by unfold clN; split <;> omega
    exact ⟨fun z => by omega, fun z => by cases z⟩
theorem s_aFilter (m1 : hat h 102 (moC v (pzM L T dp y))) (m2 : hat h 103 (aL 9758 g)) (X : TxM h B L) (HT : TkOk B L T) (gd : sGd S) (Z : GZ g0 g S) (hR : ∀ h', LoM h h' v L g0 (qFilt B L T S) → R (some (.int (b2i (decide ((qFilt B L T S).1 = 0))))) h') : Ev G (d + 27) 0 0 M_Mo_aFilter 0 [.ref 102] [] h R := by
  have n1 := nx_ok HT
  have c5 := gd.cl
  have e3 := Z.e3
  have up : (0 : Int64) < g 3 ↔ 0 < clTot (sFl S) := by rw [e3]; exact lN_pos (by omega)
  have mA := hat_set m1 (c' := moC v (pzM L (nx B L T) dp y))
  refine b_Mo_aFilter_0 (d := d + 25) (g_3 := g) (j_4 := 3) (fun _ => mA) m1 m2 (ixn (j := 3) (by omega) (by omega)) ⟨_, m1⟩ (fun _ => m1) (fun _ => rfl) (fun _ => ⟨_, m1⟩) (fun _ => m1) (fun _ => X) (fun _ => HT.2.2.1) (fun _ => ⟨_, m1⟩) (fun c => ?_) (fun c => ?_)
  · have c := up.mp c
    have ne : ¬ (sFl S).isEmpty = true := fun z => by have := clTot_0.mpr z; omega
    have e : qFilt B L T S = (5, T, S) := by unfold qFilt; rw [if_neg ne]
    rw [e] at hR
    exact hR _ (LoM.bad (by show ¬ 5 = 0; omega) ⟨(Kp.refl h 102 104).set _ (by omega) (by omega), ⟨_, _, hat_set m1⟩, _, hat_ne m2 (by omega), Z.2.2⟩)
  · have t0 : clTot (sFl S) = 0 := by have : ¬ 0 < clTot (sFl S) := fun z => c (up.mpr z); omega
    have em := clTot_0.mp t0
    have e : qFilt B L T S = ((pTest B L S 6 (nx B L T)).1, (pTest B L S 6 (nx B L T)).2.1, setF S (pTest B L S 6 (nx B L T)).2.2) := by unfold qFilt; rw [if_pos em]
    have e0 : sFl S = [] := List.isEmpty_iff.mp em
    rw [e] at hR
    rw [hset_hset]
    have mB := hat_set m1 (c' := moC v (pzM L (nx B L T) (nI 0) y))
    have KB : Kp h (hset h 102 (moC v (pzM L (nx B L T) (nI 0) y))) 102 104 := (Kp.refl h 102 104).set _ (by omega) (by omega)
    refine s_Mo_test6 gd.1 d _ v (nx B L T) S g g0 y _ mB (hat_ne m2 (by omega)) X.set n1 gd.1 Z rfl rfl (by omega) fun h3 P3 => ?_
    refine b_Mo_aFilter_29 (d := d + 25) ?_ ?_
    · cases decide ((pTest B L S 6 (nx B L T)).1 = 0) <;> rfl
    · refine hR h3 ⟨fun z => ?_, fun z => ?_⟩
      · obtain ⟨K, ⟨y3, a⟩, g3, b, Z3⟩ := P3.1 z
        rw [e0, List.nil_append] at Z3
        exact ⟨KB.trans K, ⟨_, _, a⟩, g3, b, Z3⟩
      · obtain ⟨K, a, b⟩ := P3.2 z
        exact ⟨KB.trans K, a, b⟩
theorem sgnR_0 {r : LR} (c : r.1 = 0) : sgnR B L r = pSign B L 59 r.2.1 r.2.2 := if_pos c
theorem s_aLine (m1 : hat h 102 (moC v (pzM L T dp y))) (m2 : hat h 103 (aL 9758 g)) (X : TxM h B L) (HT : TkOk B L T) (gd : sGd S) (Z : GZ g0 g S) (hR : ∀ h', LoM h h' v L g0 (pLine B L T S) → R (some (.int (b2i (decide ((pLine B L T S).1 = 0))))) h') : Ev G (d + 28) 0 0 M_Mo_aLine 0 [.ref 102, ev_unk, ev_unk] [] h R := by
  have u2 : keM B T = 2 ↔ wdB B T 2 = true := ke_eq (m := 2) (by omega)
  have u4 : keM B T = 4 ↔ wdB B T 3 = true := ke_eq (m := 4) (by omega)
  -- behind a piece
  have after : ∀ (r : LR) (h1 : ev_H) (x : Int32) (pc : Nat), TkOk B L r.2.1 → LoM h h1 v L g0 r → (∀ h', LoM h h' v L g0 (sgnR B L r) → R (some (.int (b2i (decide ((sgnR B L r).1 = 0))))) h') → (R (some (.int (0 : Int32))) h1 → ¬ r.1 = 0 → Ev G (d + 28) 0 0 M_Mo_aLine pc [.ref 102, .int x, ev_unk] [.int 0] h1 R) → (r.1 = 0 → (∃ fs, hat h1 102 (oC 9 fs)) → Ev G (d + 27) 0 0 M_Mo_takesSign 0 [.ref 102, .int (59 : Int32)] [] h1 (fun q h2 => Ev G (d + 28) 0 0 M_Mo_aLine 45 [.ref 102, .int x, .int 1] (q.toList ++ []) h2 R) → Ev G (d + 28) 0 0 M_Mo_aLine pc [.ref 102, .int x, ev_unk] [.int 1] h1 R) → Ev G (d + 28) 0 0 M_Mo_aLine pc [.ref 102, .int x, ev_unk] [.int (b2i (decide (r.1 = 0)))] h1 R := by
    intro r h1 x pc HT P hR k0 k1
    by_cases c : r.1 = 0
    · obtain ⟨K, ⟨dp1, y1, m11⟩, g1, m21, Z1⟩ := P.1 c
      have X1 := X.kg K.g (by omega)
      rw [sgnR_0 c] at hR
      unfold pSign at hR
      rw [decide_eq_true c]
      refine k1 c ⟨_, m11⟩ ?_
      refine s_Mo_takesSign (d := d + 24) (c := 59) m11 X1 HT ⟨rfl, by decide⟩ (fun c3 => ?_) (fun c3 => ?_)
      · rw [if_pos c3] at hR
        refine b_Mo_aLine_45 (d := d + 23) (fun k => absurd k (by decide)) (fun _ => ?_)
        exact hR _ ⟨fun _ => ⟨K.set _ (by omega) (by omega), ⟨_, _, hat_set m11⟩, _, hat_ne m21 (by omega), Z1⟩, fun z => absurd rfl z⟩
      · rw [if_neg c3] at hR
        refine b_Mo_aLine_45 (d := d + 23) (fun _ => ?_) (fun k => absurd rfl k)
        exact hR _ (LoM.bad (by show ¬ 2 = 0; omega) ⟨K.set _ (by omega) (by omega), ⟨_, _, hat_set m11⟩, _, hat_ne m21 (by omega), Z1.2.2⟩)
    · have e : sgnR B L r = r := if_neg c
      rw [e] at hR
      have q := hR h1 P
      rw [decide_eq_false c] at q ⊢
      exact k0 q c
  refine b_Mo_aLine_0 (d := d + 23) m1 X HT ⟨_, m1⟩ (fun _ => ⟨_, m1⟩) (fun _ _ => ⟨_, m1⟩) (fun _ _ => m1) (fun _ _ => rfl) (fun _ _ => ⟨_, m1⟩) (fun _ _ k => absurd rfl k) (fun c => ?_) (fun c c2 => ?_) (fun c c2 _ => ?_) (fun _ _ k => absurd rfl k)
  · have c := u2.mp c
    have e : pLine B L T S = pCode B L T S := by unfold pLine; rw [if_pos c]
    rw [e] at hR
    obtain ⟨q1, q2, q3⟩ := sgn_code (B := B) (L := L) (T := T) (S := S)
    refine s_aCode (d := d + 22) m1 m2 X HT gd Z fun h1 P1 => ?_
    have tk : TkOk B L (qCode B L T S).2.1 := by
      have n1 := nx_ok HT
      have n2 := nx_ok n1
      have n3 := nx_ok n2
      have n4 := nx_ok n3
      unfold qCode
      split
      · split
        · split
          · unfold qTag
            split
            · split
              · exact n4
              · exact n3
            · exact n2
          · exact n1
        · exact n1
      · exact HT
    refine after _ h1 (keM B T) 14 tk P1 (fun h' P' => ?_) (fun r _ => b_Mo_aLine_14 (d := d + 23) (fun k => absurd rfl k) (fun _ => r) (fun k => absurd rfl k)) (fun _ m r => b_Mo_aLine_14 (d := d + 23) (fun _ => m) (fun k => absurd k (by decide)) (fun _ => r))
    have := hR h' (P'.eq q1 q2 q3)
    rw [q1] at this
    exact this
  · have c : ¬ wdB B T 2 = true := fun z => c (u2.mpr z)
    have c2 := u4.mp c2
    have e : pLine B L T S = pFilt B L T S := by unfold pLine; rw [if_neg c, if_pos c2]
    rw [e] at hR
    obtain ⟨q1, q2, q3⟩ := sgn_filt (B := B) (L := L) (T := T) (S := S)
    refine s_aFilter (d := d) m1 m2 X HT gd Z fun h1 P1 => ?_
    have tk : TkOk B L (qFilt B L T S).2.1 := by
      unfold qFilt
      split
      · exact (pTest_GI (B := B) (L := L) gd.1 6 _ (nx_ok HT)).1
      · exact HT
    refine after _ h1 (keM B T) 26 tk P1 (fun h' P' => ?_) (fun r _ => b_Mo_aLine_26 (d := d + 23) (fun k => absurd rfl k) (fun _ => r) (fun k => absurd rfl k)) (fun _ m r => b_Mo_aLine_26 (d := d + 23) (fun _ => m) (fun k => absurd k (by decide)) (fun _ => r))
    have := hR h' (P'.eq q1 q2 q3)
    rw [q1] at this
    exact this
  · have c : ¬ wdB B T 2 = true := fun z => c (u2.mpr z)
    have c2 : ¬ wdB B T 3 = true := fun z => c2 (u4.mpr z)
    have e : pLine B L T S = (2, T, S) := by unfold pLine; rw [if_neg c, if_neg c2]
    rw [e] at hR
    exact hR _ (LoM.bad (by show ¬ 2 = 0; omega) ⟨(Kp.refl h 102 104).set _ (by omega) (by omega), ⟨_, _, hat_set m1⟩, _, hat_ne m2 (by omega), Z.2.2⟩)
end S77
