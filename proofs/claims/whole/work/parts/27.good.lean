/-! WHAT ALWAYS HOLDS: stores stay good -/
theorem neg_bit (x : Int64) : x < 0 ↔ lt x 63 = true := by
  rw [Int64.lt_iff_toInt_lt]
  show x.toBitVec.toInt < (0 : Int64).toInt ↔ x.toBitVec.getLsbD 63 = true
  rw [show (0 : Int64).toInt = 0 from rfl]
  have h1 : x.toBitVec.msb = x.toBitVec.getLsbD 63 := BitVec.msb_eq_getLsbD_last _
  rw [← h1, BitVec.msb_eq_toInt, decide_eq_true_iff]
theorem numB_iff {x : Int64} {b : Nat} (hb : b ≤ 63) : numB x b = true ↔ ∀ j, b ≤ j → lt x j = false := by
  unfold numB
  rw [Bool.and_eq_true, decide_eq_true_iff, decide_eq_true_iff, neg_bit]
  constructor
  · rintro ⟨h1, h2⟩ j hj
    by_cases c : j < 64
    · have e := l_sshr b (by omega) x (i := j - b) (by omega)
      rw [h2, l_0, if_pos (by omega), show b + (j - b) = j by omega] at e
      exact e.symm
    · exact l_big (by omega)
  · intro h
    refine ⟨by rw [h 63 (by omega)]; decide, l_ext fun i hi => ?_⟩
    rw [l_sshr b (by omega) x hi, l_0]
    split
    · exact h _ (by omega)
    · exact h 63 (by omega)
theorem numB_up {x : Int64} {b c : Nat} (h : numB x b = true) (hb : b ≤ c) (hc : c ≤ 63) : numB x c = true := (numB_iff hc).mpr fun j hj => (numB_iff (by omega)).mp h j (by omega)
theorem one_at {b : Nat} (hb : b < 64) (j : Nat) : lt ((1 : Int64) <<< ((nI b).toInt64 &&& 63)) j = decide (j = b) := by
  by_cases hj : j < 64
  · rw [l_shl b hb _ hj]
    by_cases c : b ≤ j
    · rw [bit1L _ (by omega), decide_eq_true c, Bool.true_and]; exact decide_eq_decide.mpr (by omega)
    · rw [decide_eq_false c, decide_eq_false (by omega)]; rfl
  · rw [l_big (by omega), decide_eq_false (by omega)]
theorem numB_xor {x y : Int64} {b : Nat} (hb : b ≤ 63) (hx : numB x b = true) (hy : numB y b = true) : numB (x ^^^ y) b = true := (numB_iff hb).mpr fun j hj => by
  rw [l_xor, (numB_iff hb).mp hx j hj, (numB_iff hb).mp hy j hj]; rfl
theorem numB_one {b c : Nat} (hb : b ≤ 63) (hc : c < b) : numB ((1 : Int64) <<< ((nI c).toInt64 &&& 63)) b = true := (numB_iff hb).mpr fun j hj => by
  rw [one_at (by omega)]; exact decide_eq_false (by omega)
theorem exC_bit {x : Int64} {b o : Nat} (hb : b < 64) (ho : o < 64) (j : Nat) : lt (exC x b o) j = if j = b then lt x o else if j = o then lt x b else lt x j := by
  unfold exC
  by_cases e : lt x b = lt x o
  · rw [if_pos e]
    by_cases c1 : j = b
    · rw [if_pos c1, c1, e]
    · by_cases c2 : j = o
      · rw [if_neg c1, if_pos c2, c2, e]
      · rw [if_neg c1, if_neg c2]
  · rw [if_neg e, l_xor, l_or, one_at hb, one_at ho]
    by_cases c1 : j = b
    · rw [if_pos c1, c1, decide_eq_true rfl, Bool.true_or, Bool.xor_true]
      revert e; cases lt x b <;> cases lt x o <;> simp
    · by_cases c2 : j = o
      · rw [if_neg c1, if_pos c2, c2, decide_eq_true (show o = o from rfl), Bool.or_true, Bool.xor_true]
        revert e; cases lt x b <;> cases lt x o <;> simp
      · rw [if_neg c1, if_neg c2, decide_eq_false c1, decide_eq_false c2]; simp
theorem exC_inj {x y : Int64} {b o : Nat} (hb : b < 64) (ho : o < 64) (h : exC x b o = exC y b o) : x = y := by
  apply l_ext
  intro j _
  have f : ∀ j, lt (exC x b o) j = lt (exC y b o) j := fun j => by rw [h]
  by_cases c1 : j = b
  · subst c1
    have := f o
    rw [exC_bit hb ho, exC_bit hb ho] at this
    by_cases c2 : o = j
    · subst c2; simpa using this
    · simpa [c2] using this
  · by_cases c2 : j = o
    · subst c2
      have := f b
      rw [exC_bit hb ho, exC_bit hb ho] at this
      simpa using this
    · have := f j
      rw [exC_bit hb ho, exC_bit hb ho] at this
      simpa [c1, c2] using this
theorem frI_none {p : Nat → Bool} {n : Nat} (hn : n < 2147483648) (h : frI p n = -1) : ∀ j, j < n → p j = false := by
  unfold frI at h
  split at h
  · next c =>
    have : (nI (fst p n)).toInt = (-1 : Int32).toInt := by rw [h]
    rw [nI_toInt (by omega)] at this
    exact absurd this (by rw [show (-1 : Int32).toInt = -1 from rfl]; omega)
  · next c => exact fun j hj => fst_no p n j (by omega)
theorem frI_some {p : Nat → Bool} {n : Nat} (h : ¬ frI p n = -1) : fst p n < n ∧ frI p n = nI (fst p n) := by
  unfold frI at h ⊢
  split
  · next c => exact ⟨c, rfl⟩
  · next c => rw [if_neg c] at h; exact absurd rfl h
theorem flGd.kinds {fl : List AStp} (h : flGd fl) : ∀ s ∈ fl, (3 ≤ s.1 → s.2.1 = 60 ∨ s.2.1 = 61 ∨ s.2.1 = 62) ∧ numB s.2.2.2.2 48 = true := h.2.2.2
theorem sGd.ap {S : AS} (H : sGd S) {y : Int64} (hn : sN S < 32) (hy : numB y (sB S) = true) (hw : frI (whP S y) (sN S) = -1) : sGd (apS S y 0) := by
  obtain ⟨⟨o1, o2, o3, o4, o5, o6, o7, o8⟩, f, dd, nb⟩ := H
  have no := frI_none (by omega) hw
  have e : apS S y 0 = mkS (sB S) (sP S) (sN S + 1) (sBr S) (fun i => if i = sN S then y else sCo S i) (fun i => if i = sN S then 0 else sTg S i) (sFl S) := if_pos hn
  rw [e]
  refine ⟨⟨o1, o2, o3, o4, hn, o6, fun i hi => ?_, o8⟩, f, fun i j hij hj => ?_, fun i hi => ?_⟩
  · have hi : i < sN S + 1 := hi
    show (if i = sN S then 0 else sTg S i) ≤ 9
    by_cases c : i = sN S
    · rw [if_pos c]; omega
    · rw [if_neg c]; exact o7 i (by omega)
  · have hj : j < sN S + 1 := hj
    show (if i = sN S then y else sCo S i) ≠ (if j = sN S then y else sCo S j)
    rw [if_neg (by omega)]
    by_cases c : j = sN S
    · rw [if_pos c]; exact of_decide_eq_false (no i (by omega))
    · rw [if_neg c]; exact dd i j hij (by omega)
  · have hi : i < sN S + 1 := hi
    show numB (if i = sN S then y else sCo S i) (sB S) = true
    by_cases c : i = sN S
    · rw [if_pos c]; exact hy
    · rw [if_neg c]; exact nb i (by omega)
theorem sGd.dr {S : AS} (H : sGd S) {c : Nat} (hc : c < sN S) : sGd (drS S c) := by
  obtain ⟨⟨o1, o2, o3, o4, o5, o6, o7, o8⟩, f, dd, nb⟩ := H
  refine ⟨⟨o1, o2, o3, o4, Nat.le_trans (Nat.sub_le _ _) o5, o6, fun i hi => ?_, o8⟩, f, fun i j hij hj => ?_, fun i hi => ?_⟩
  · have hi : i < sN S - 1 := hi
    show (if i < c then sTg S i else sTg S (i + 1)) ≤ 9
    split <;> exact o7 _ (by omega)
  · have hj : j < sN S - 1 := hj
    show (if i < c then sCo S i else sCo S (i + 1)) ≠ (if j < c then sCo S j else sCo S (j + 1))
    split <;> split <;> exact dd _ _ (by omega) (by omega)
  · have hi : i < sN S - 1 := hi
    show numB (if i < c then sCo S i else sCo S (i + 1)) (sB S) = true
    split <;> exact nb _ (by omega)
/-- a code is another number -/
def flS (S : AS) (c : Nat) (y : Int64) : AS := mkS (sB S) (sP S) (sN S) (sBr S) (fun i => if i = c then y else sCo S i) (sTg S) (sFl S)
theorem sGd.fp {S : AS} (H : sGd S) {c : Nat} {y : Int64} (hy : numB y (sB S) = true) (hw : frI (whP S y) (sN S) = -1) : sGd (flS S c y) := by
  obtain ⟨⟨o1, o2, o3, o4, o5, o6, o7, o8⟩, f, dd, nb⟩ := H
  have no := frI_none (by omega) hw
  refine ⟨⟨o1, o2, o3, o4, o5, o6, o7, o8⟩, f, fun i j hij hj => ?_, fun i hi => ?_⟩
  · have hj : j < sN S := hj
    show (if i = c then y else sCo S i) ≠ (if j = c then y else sCo S j)
    by_cases c1 : i = c
    · rw [if_pos c1, if_neg (by omega)]; exact fun q => of_decide_eq_false (no j hj) q.symm
    · rw [if_neg c1]
      by_cases c2 : j = c
      · rw [if_pos c2]; exact of_decide_eq_false (no i (by omega))
      · rw [if_neg c2]; exact dd i j hij hj
  · have hi : i < sN S := hi
    show numB (if i = c then y else sCo S i) (sB S) = true
    split
    · exact hy
    · exact nb i hi
theorem sGd.ex {S : AS} (H : sGd S) {b o : Nat} (hb : b < sB S) (ho : o < sB S) : sGd (exS S b o) := by
  obtain ⟨⟨o1, o2, o3, o4, o5, o6, o7, o8⟩, f, dd, nb⟩ := H
  refine ⟨⟨o1, o2, o3, o4, o5, o6, o7, o8⟩, f, fun i j hij hj => ?_, fun i hi => ?_⟩
  · exact fun q => dd i j hij hj (exC_inj (b := b) (o := o) (by omega) (by omega) q)
  · refine (numB_iff (show sB S ≤ 63 by omega)).mpr fun j hj => ?_
    show lt (exC (sCo S i) b o) j = false
    have hj : sB S ≤ j := hj
    rw [exC_bit (by omega) (by omega), if_neg (by omega), if_neg (by omega)]
    exact (numB_iff (by omega)).mp (nb i hi) j hj
/-- a code has another tag -/
def tgS (S : AS) (c t : Nat) : AS := mkS (sB S) (sP S) (sN S) (sBr S) (sCo S) (fun i => if i = c then t else sTg S i) (sFl S)
theorem sGd.tg {S : AS} (H : sGd S) {c t : Nat} (ht : t ≤ 9) : sGd (tgS S c t) := by
  obtain ⟨⟨o1, o2, o3, o4, o5, o6, o7, o8⟩, f, dd, nb⟩ := H
  refine ⟨⟨o1, o2, o3, o4, o5, o6, fun i hi => ?_, o8⟩, f, dd, nb⟩
  show (if i = c then t else sTg S i) ≤ 9
  split
  · exact ht
  · exact o7 i hi
def opS (S : AS) : AS := mkS (sB S) (sP S) (sN S) (sBr S) (sCo S) (sTg S) []
theorem sGd.op {S : AS} (H : sGd S) : sGd (opS S) := ⟨H.1, Or.inl rfl, H.2.2⟩
theorem sumT_cut {f : Nat → Nat} {p w : Nat} (hw : w ≤ f p) : ∀ m, sumT (fun i => if i < p then f i else if i = p then w else if i = p + 1 then f p - w else f (i - 1)) (p + 1 + m + 1) = sumT f (p + 1 + m)
  | 0 => by
    show sumT _ p + _ + _ = sumT f p + f p
    rw [sumT_congr (g := f) (fun k hk => if_pos hk)]
    show sumT f p + (if p < p then f p else if p = p then w else _) + (if p + 1 < p then f (p + 1) else if p + 1 = p then w else if p + 1 = p + 1 then f p - w else _) = _
    rw [if_neg (by omega), if_pos rfl, if_neg (by omega), if_neg (by omega), if_pos rfl]; omega
  | m + 1 => by
    have := sumT_cut hw m
    show sumT _ (p + 1 + m + 1) + (if p + 1 + m + 1 < p then _ else if p + 1 + m + 1 = p then w else if p + 1 + m + 1 = p + 1 then f p - w else f (p + 1 + m + 1 - 1)) = sumT f (p + 1 + m) + f (p + 1 + m)
    rw [this, if_neg (by omega), if_neg (by omega), if_neg (by omega), Nat.add_sub_cancel]
theorem sGd.cut {S : AS} (H : sGd S) {p w : Nat} (hp : p < sP S) (h5 : sP S ≤ 5) (hw : w ≤ sBr S p) : sGd (cutS S p w) := by
  obtain ⟨⟨o1, o2, o3, o4, o5, o6, o7, o8⟩, f, dd, nb⟩ := H
  refine ⟨⟨o1, o2, Nat.le_succ_of_le o3, by show sP S + 1 ≤ 6; omega, o5, fun i hi => ?_, o7, ?_⟩, f, dd, nb⟩
  · have hi : i < sP S + 1 := hi
    show (if i < p then sBr S i else if i = p then w else if i = p + 1 then sBr S p - w else sBr S (i - 1)) ≤ 24
    have := o6 p hp
    split
    · exact o6 i (by omega)
    split
    · omega
    split
    · omega
    · exact o6 _ (by omega)
  · have := sumT_cut (f := sBr S) (p := p) hw (sP S - p - 1)
    rw [show p + 1 + (sP S - p - 1) = sP S by omega] at this
    exact this.trans o8
theorem sumT_join {f : Nat → Nat} {p : Nat} : ∀ m, sumT (fun i => if i < p then f i else if i = p then f p + f (p + 1) else f (i + 1)) (p + 1 + m) = sumT f (p + 1 + m + 1)
  | 0 => by
    show sumT _ p + (if p < p then f p else if p = p then f p + f (p + 1) else _) = sumT f p + f p + f (p + 1)
    rw [sumT_congr (g := f) (fun k hk => if_pos hk), if_neg (by omega), if_pos rfl]; omega
  | m + 1 => by
    have := sumT_join (f := f) (p := p) m
    show sumT _ (p + 1 + m) + (if p + 1 + m < p then _ else if p + 1 + m = p then _ else f (p + 1 + m + 1)) = sumT f (p + 1 + m + 1) + f (p + 1 + m + 1)
    rw [this, if_neg (by omega), if_neg (by omega)]
theorem sGd.join {S : AS} (H : sGd S) {p : Nat} (hp : p + 1 < sP S) (hs : sBr S p + sBr S (p + 1) ≤ 24) : sGd (joinS S p) := by
  obtain ⟨⟨o1, o2, o3, o4, o5, o6, o7, o8⟩, f, dd, nb⟩ := H
  refine ⟨⟨o1, o2, by show 1 ≤ sP S - 1; omega, Nat.le_trans (Nat.sub_le _ _) o4, o5, fun i hi => ?_, o7, ?_⟩, f, dd, nb⟩
  · have hi : i < sP S - 1 := hi
    show (if i < p then sBr S i else if i = p then sBr S p + sBr S (p + 1) else sBr S (i + 1)) ≤ 24
    split
    · exact o6 i (by omega)
    split
    · exact hs
    · exact o6 _ (by omega)
  · have := sumT_join (f := sBr S) (p := p) (sP S - p - 2)
    rw [show p + 1 + (sP S - p - 2) + 1 = sP S by omega, show p + 1 + (sP S - p - 2) = sP S - 1 by omega] at this
    exact this.trans o8
/-- the old store at the end of those kept -/
theorem keepA_gd {kn : Nat} {A : Nat → AS} {S : AS} (h : ∀ i, i < kn → sGd (A i)) (hS : sGd S) (hk : kn ≤ 12) : ∀ i, i < min (kn + 1) 12 → sGd (keepA kn A S i) := by
  intro i hi
  unfold keepA
  by_cases c : kn < 12
  · rw [if_pos c]
    by_cases e : i = kn
    · rw [if_pos e]; exact hS
    · rw [if_neg e]; exact h i (by omega)
  · rw [if_neg c]
    by_cases e : i = 11
    · rw [if_pos e]; exact hS
    · rw [if_neg e]; exact h (i + 1) (by omega)
theorem qGd.act {Q : QS} (H : qGd Q) {S' : AS} (h : sGd S') : qGd (actQ Q S') := ⟨h, keepA_gd H.2.1 H.1 H.2.2.2.1, H.2.2.1, by show min (qKn Q + 1) 12 ≤ 12; omega, H.2.2.2.2⟩
section S27
variable {G : ev_G} {d k n : Nat} {h h1 h2 h' : ev_H} {R : Option Value → ev_H → Prop} {Q : QS}
/-- an act's end -/
theorem XR.act (H : XR h Q) (K1 : Kp h h1 18 81) (hi1 : HiR h1 (min (qKn Q + 1) 12) (keepA (qKn Q) (qKa Q) (qS Q)) (qMn Q) (qMa Q)) (K2 : Kp h1 h2 1 5) {S' : AS} (st : StR h2 1 S') (gd : sGd S') : XR (xoS h2 0 (qFk Q) (qFp Q)) (actQ Q S') ∧ Kg h (xoS h2 0 (qFk Q) (qFp Q)) 0 102 := by
  have K3 := xoS_kp h2 0 (qFk Q) (qFp Q)
  have KK := ((K1.wide (lo' := 0) (hi' := 102) (by omega) (by omega)).trans (K2.wide (by omega) (by omega))).trans (K3.wide (by omega) (by omega))
  refine ⟨⟨H.1.act gd, xoS_xo ((H.x.kg K1.g (by omega)).kg K2.g (by omega)), st.kp K3 (by omega) (by omega), (hi1.kg K2.g (by omega) (by omega)).kg K3.g (by omega) (by omega), ((H.ta.kg K1.g (by omega)).kg K2.g (by omega)).kg K3.g (by omega), ((H.bu.kg K1.g (by omega)).kg K2.g (by omega)).kg K3.g (by omega), ((H.ra.kg K1.g (by omega)).kg K2.g (by omega)).kg K3.g (by omega), ((H.re.kg K1.g (by omega)).kg K2.g (by omega)).kg K3.g (by omega), ((H.sp.kg K1.g (by omega)).kg K2.g (by omega)).kg K3.g (by omega), ((H.st.kg K1.g (by omega) (by omega)).kg K2.g (by omega) (by omega)).kg K3.g (by omega) (by omega), Nat.le_trans H.num KK.g.1⟩, KK.g⟩
end S27
