/-! THE WHOLE OBJECT: what it is, as a value; every call's answer and status -/
/-- store; kept acts; marks; tape; status, fault, its place -/
abbrev QS : Type := AS × (Nat × (Nat → AS)) × (Nat × (Nat → AS)) × (Nat × (Nat → Int32)) × (Int32 × Int32 × Int32)
def qS (Q : QS) : AS := Q.1
def qKn (Q : QS) : Nat := Q.2.1.1
def qKa (Q : QS) : Nat → AS := Q.2.1.2
def qMn (Q : QS) : Nat := Q.2.2.1.1
def qMa (Q : QS) : Nat → AS := Q.2.2.1.2
def qTn (Q : QS) : Nat := Q.2.2.2.1.1
def qTg (Q : QS) : Nat → Int32 := Q.2.2.2.1.2
def qL (Q : QS) : Int32 := Q.2.2.2.2.1
def qFk (Q : QS) : Int32 := Q.2.2.2.2.2.1
def qFp (Q : QS) : Int32 := Q.2.2.2.2.2.2
def stQ (Q : QS) (l : Int32) : QS := (Q.1, Q.2.1, Q.2.2.1, Q.2.2.2.1, (l, Q.2.2.2.2.2))
/-- an act -/
def actQ (Q : QS) (S' : AS) : QS := (S', (min (qKn Q + 1) 12, keepA (qKn Q) (qKa Q) (qS Q)), Q.2.2.1, Q.2.2.2.1, (0, Q.2.2.2.2.2))
/-- how many cells a step takes in the reference -/
def clN (s : AStp) : Nat := if s.1 ≤ 2 then 1 else 3
def clTot (fl : List AStp) : Nat := (fl.map clN).sum
def flGd (fl : List AStp) : Prop := flOk fl ∧ fl.length < 300 ∧ clTot fl ≤ 500 ∧ ∀ s ∈ fl, (3 ≤ s.1 → s.2.1 = 60 ∨ s.2.1 = 61 ∨ s.2.1 = 62) ∧ numB s.2.2.2.2 48 = true
def sGd (S : AS) : Prop := sOk S ∧ (sFl S = [] ∨ flGd (sFl S)) ∧ (∀ i j, i < j → j < sN S → sCo S i ≠ sCo S j) ∧ ∀ i, i < sN S → numB (sCo S i) (sB S) = true
def qGd (Q : QS) : Prop := sGd (qS Q) ∧ (∀ i, i < qKn Q → sGd (qKa Q i)) ∧ (∀ i, i < qMn Q → sGd (qMa Q i)) ∧ qKn Q ≤ 12 ∧ qMn Q ≤ 3 ∧ qTn Q ≤ 900 ∧ ∀ k, k < qTn Q → ∃ b : Nat, b < 256 ∧ qTg Q k = (nI b).toInt8.toInt32
def RaX (h : ev_H) : Prop := ∃ n o fr, RaR h n o fr
def SpX (h : ev_H) : Prop := ∃ fl : List AStp, fl.length ≤ 300 ∧ SpR h fl
def StX (h : ev_H) : Prop := ∃ T, StR h 14 T
def XR (h : ev_H) (Q : QS) : Prop := qGd Q ∧ XO h (qL Q) (qFk Q) (qFp Q) ∧ StR h 1 (qS Q) ∧ HiR h (qKn Q) (qKa Q) (qMn Q) (qMa Q) ∧ TaR h (qTn Q) (qTg Q) ∧ BuX h ∧ RaX h ∧ ReR h ∧ SpX h ∧ StX h ∧ 126 ≤ h.1
section S25
variable {G : ev_G} {d k n : Nat} {h h1 h' : ev_H} {R : Option Value → ev_H → Prop} {Q : QS} {lo hi : Nat}
theorem XR.gd (H : XR h Q) : sGd (qS Q) := H.1.1
theorem XR.ok (H : XR h Q) : sOk (qS Q) := H.1.1.1
theorem sGd.fo {S : AS} (H : sGd S) : sFl S = [] ∨ flOk (sFl S) := H.2.1.elim Or.inl fun q => Or.inr q.1
theorem XR.fo (H : XR h Q) : sFl (qS Q) = [] ∨ flOk (sFl (qS Q)) := H.gd.fo
theorem XR.x (H : XR h Q) : XO h (qL Q) (qFk Q) (qFp Q) := H.2.1
theorem XR.s (H : XR h Q) : StR h 1 (qS Q) := H.2.2.1
theorem XR.hist (H : XR h Q) : HiR h (qKn Q) (qKa Q) (qMn Q) (qMa Q) := H.2.2.2.1
theorem XR.ta (H : XR h Q) : TaR h (qTn Q) (qTg Q) := H.2.2.2.2.1
theorem XR.bu (H : XR h Q) : BuX h := H.2.2.2.2.2.1
theorem XR.ra (H : XR h Q) : RaX h := H.2.2.2.2.2.2.1
theorem XR.re (H : XR h Q) : ReR h := H.2.2.2.2.2.2.2.1
theorem XR.sp (H : XR h Q) : SpX h := H.2.2.2.2.2.2.2.2.1
theorem XR.st (H : XR h Q) : StX h := H.2.2.2.2.2.2.2.2.2.1
theorem XR.num (H : XR h Q) : 126 ≤ h.1 := H.2.2.2.2.2.2.2.2.2.2
theorem BuX.obj (B : BuX h) : ∃ fs, hat h 81 (oC 0 fs) := by
  obtain ⟨P, W, c, kc, r, lo, B⟩ := B; exact B.obj
theorem RaX.obj (B : RaX h) : ∃ fs, hat h 98 (oC 3 fs) := by
  obtain ⟨n, o, fr, -, go, gf, gg, a, -⟩ := B; exact ⟨_, a⟩
theorem HiR.obj {kn mn : Nat} {A B : Nat → AS} (H : HiR h kn A mn B) : ∃ fs, hat h 18 (oC 2 fs) := by
  obtain ⟨first, ga, gm, l1, l2, l3, c1, -⟩ := H; exact ⟨_, c1⟩
theorem ReR.obj (H : ReR h) : ∃ fs, hat h 5 (oC 4 fs) := by
  obtain ⟨l, k, s, e, a⟩ := H; exact ⟨_, a⟩
theorem BuX.kg (B : BuX h) (K : Kg h h1 lo hi) (q : hi ≤ 81 ∨ 98 ≤ lo) : BuX h1 := by
  obtain ⟨P, W, c, kc, r, lo, B⟩ := B; exact ⟨_, _, _, _, _, _, B.kg K q⟩
theorem RaX.kg (B : RaX h) (K : Kg h h1 lo hi) (q : hi ≤ 98 ∨ 102 ≤ lo) : RaX h1 := by
  obtain ⟨n, o, fr, B⟩ := B; exact ⟨_, _, _, B.kg K q⟩
theorem ReR.kg (H : ReR h) (K : Kg h h1 lo hi) (q : hi ≤ 5 ∨ 6 ≤ lo) : ReR h1 := by
  obtain ⟨l, k, s, e, a⟩ := H; exact ⟨_, _, _, _, K.hat a (by omega)⟩
theorem SpR.kg {fl : List AStp} (H : SpR h fl) (K : Kg h h1 lo hi) (q : hi ≤ 6 ∨ 12 ≤ lo) : SpR h1 fl := by
  obtain ⟨ks, ss, ps, bs, frs, f0, f1, f2, f3, f4, f5, hst⟩ := H
  exact ⟨ks, ss, ps, bs, frs, K.hat f0 (by omega), K.hat f1 (by omega), K.hat f2 (by omega), K.hat f3 (by omega), K.hat f4 (by omega), K.hat f5 (by omega), hst⟩
theorem SpX.kg (H : SpX h) (K : Kg h h1 lo hi) (q : hi ≤ 6 ∨ 12 ≤ lo) : SpX h1 := by
  obtain ⟨fl, l, H⟩ := H; exact ⟨fl, l, H.kg K q⟩
theorem StX.kg (H : StX h) (K : Kg h h1 lo hi) (q : hi ≤ 126) (q2 : hi ≤ 14 ∨ 18 ≤ lo) : StX h1 := by
  obtain ⟨T, H⟩ := H; exact ⟨T, H.kg K q (by omega)⟩
theorem TaR.kg {tn : Nat} {tg : Nat → Int32} (H : TaR h tn tg) (K : Kg h h1 lo hi) (q : hi ≤ 12 ∨ 14 ≤ lo) : TaR h1 tn tg := ⟨K.hat H.1 (by omega), K.hat H.2 (by omega)⟩
theorem XO.kg {a b c : Int32} (H : XO h a b c) (K : Kg h h1 lo hi) (q : 1 ≤ lo) : XO h1 a b c := K.hat H (by omega)
theorem Kg.refl (h : ev_H) (lo hi : Nat) : Kg h h lo hi := (Kp.refl h lo hi).g

/-- the reference's cells changed -/
theorem XR.other (H : XR h Q) (K : Kg h h1 102 126) : XR h1 Q := ⟨H.1, H.x.kg K (by omega), H.s.kg K (by omega) (by omega), H.hist.kg K (by omega) (by omega), H.ta.kg K (by omega), H.bu.kg K (by omega), H.ra.kg K (by omega), H.re.kg K (by omega), H.sp.kg K (by omega), H.st.kg K (by omega) (by omega), Nat.le_trans H.num K.1⟩
theorem XR.inBu (H : XR h Q) (K : Kp h h1 81 98) (B : BuX h1) : XR h1 Q := ⟨H.1, H.x.kg K.g (by omega), H.s.kp K (by omega) (by omega), H.hist.kg K.g (by omega) (by omega), H.ta.kg K.g (by omega), B, H.ra.kg K.g (by omega), H.re.kg K.g (by omega), H.sp.kg K.g (by omega), H.st.kg K.g (by omega) (by omega), Nat.le_trans H.num K.g.1⟩
theorem XR.inRa (H : XR h Q) (K : Kp h h1 98 102) (B : RaX h1) : XR h1 Q := ⟨H.1, H.x.kg K.g (by omega), H.s.kp K (by omega) (by omega), H.hist.kg K.g (by omega) (by omega), H.ta.kg K.g (by omega), H.bu.kg K.g (by omega), B, H.re.kg K.g (by omega), H.sp.kg K.g (by omega), H.st.kg K.g (by omega) (by omega), Nat.le_trans H.num K.g.1⟩
theorem XR.xo (H : XR h Q) (l : Int32) : XR (xoS h l (qFk Q) (qFp Q)) (stQ Q l) := by
  have K := (xoS_kp h l (qFk Q) (qFp Q))
  exact ⟨H.1, xoS_xo H.x, H.s.kp K (by omega) (by omega), H.hist.kg K.g (by omega) (by omega), H.ta.kg K.g (by omega), H.bu.kg K.g (by omega), H.ra.kg K.g (by omega), H.re.kg K.g (by omega), H.sp.kg K.g (by omega), H.st.kg K.g (by omega) (by omega), Nat.le_trans H.num K.g.1⟩
/-- the end of a call that changes the status alone -/
theorem XR.fin (H : XR h1 Q) (K : Kg h h1 0 102) {v l : Int32} {q : Int32 × Int32} (hR : ∀ h', Kg h h' 0 102 → XR h' (stQ Q q.2) → R (some (.int q.1)) h') (e : q = (v, l)) : R (some (.int v)) (xoS h1 l (qFk Q) (qFp Q)) := by
  subst e
  exact hR _ (K.trans ((xoS_kp h1 l (qFk Q) (qFp Q)).g.wide (by omega) (by omega))) (H.xo l)
theorem XR.finL (H : XR h1 Q) (K : Kg h h1 0 102) {v : Int64} {l : Int32} {q : Int64 × Int32} (hR : ∀ h', Kg h h' 0 102 → XR h' (stQ Q q.2) → R (some (.long q.1)) h') (e : q = (v, l)) : R (some (.long v)) (xoS h1 l (qFk Q) (qFp Q)) := by
  subst e
  exact hR _ (K.trans ((xoS_kp h1 l (qFk Q) (qFp Q)).g.wide (by omega) (by omega))) (H.xo l)
/-- an int as a number -/
def vN (x : Int32) : Nat := x.toBitVec.toNat
theorem vN_nI {j : Nat} (h : j < 2 ^ 32) : vN (nI j) = j := nI_bv h
theorem vN_lt {x : Int32} {m : Nat} (hn : m < 2147483648) (h : inR x m = true) : x = nI (vN x) ∧ vN x < m := by
  obtain ⟨j, hj, rfl⟩ := inR_yes hn h
  rw [vN_nI (by omega)]; exact ⟨rfl, hj⟩
theorem ixv {x : Int32} {m N : Nat} (h : inR x m = true) (hm : m ≤ N) (hN : N < 2147483648) : ev_ix x (vN x) N := by
  obtain ⟨a, b⟩ := vN_lt (by omega) h
  exact ⟨a, by omega, hN⟩
theorem XR.szN (H : XR h Q) : sN (qS Q) ≤ 32 := H.ok.2.2.2.2.1
theorem XR.szP (H : XR h Q) : sP (qS Q) ≤ 6 := H.ok.2.2.2.1
theorem XR.szB (H : XR h Q) : sB (qS Q) ≤ 48 := H.ok.2.1
end S25
