/-! THE GRAMMAR of a filter, as a value: fault, the token it stays at, the steps -/
abbrev PR : Type := Nat × Tk × List AStp
def nx (B : Nat → Nat) (L : Nat) (T : Tk) : Tk := tok B L T.2.2
/-- the word of a value -/
def vkN (B : Nat → Nat) (T : Tk) : Nat := if wdB B T 9 then 3 else if wdB B T 5 then 4 else if wdB B T 10 then 5 else if wdB B T 11 then 6 else if wdB B T 12 then 7 else if wdB B T 13 then 8 else 0
def pPl (B : Nat → Nat) (S : AS) (v : Nat) (T : Tk) : Nat × Nat := if v = 6 then pNum B T 0 (sB S - 1) else if v = 7 then pNum B T 0 (sP S - 1) else (0, 0)
def pFr (B : Nat → Nat) (S : AS) (v : Nat) (T : Tk) : Nat × Int64 := if v = 8 then pBin B T (sB S) else (0, 0)
def nx67 (B : Nat → Nat) (L : Nat) (v : Nat) (T : Tk) : Tk := if v = 6 ∨ v = 7 then nx B L T else T
def nx8 (B : Nat → Nat) (L : Nat) (v : Nat) (T : Tk) : Tk := if v = 8 then nx B L T else T
/-- sign and bound -/
def pEnd (B : Nat → Nat) (L : Nat) (v p : Nat) (fr : Int64) (T : Tk) : PR := if T.1 = 60 ∨ T.1 = 61 ∨ T.1 = 62 then (if (pNum B (nx B L T) 0 99999999).1 = 0 then (0, nx B L (nx B L T), [(v, T.1, p, (pNum B (nx B L T) 0 99999999).2, fr)]) else ((pNum B (nx B L T) 0 99999999).1, nx B L T, [])) else (2, T, [])
def pMid (B : Nat → Nat) (L : Nat) (S : AS) (v p : Nat) (T : Tk) : PR := if (pFr B S v T).1 = 0 then pEnd B L v p (pFr B S v T).2 (nx8 B L v T) else ((pFr B S v T).1, T, [])
def pCmpV (B : Nat → Nat) (L : Nat) (S : AS) (v : Nat) (T : Tk) : PR := if (pPl B S v T).1 = 0 then pMid B L S v (pPl B S v T).2 (nx67 B L v T) else ((pPl B S v T).1, T, [])
def pCmp (B : Nat → Nat) (L : Nat) (S : AS) (T : Tk) : PR := if vkN B T = 0 then (2, T, []) else pCmpV B L S (vkN B T) (nx B L T)
def jn (k : Nat) : AStp := (k, 0, 0, 0, 0)
def pLp (B : Nat → Nat) (L : Nat) (f : Tk → PR) (w k : Nat) : Nat → Tk → List AStp → PR
  | 0, T, acc => (0, T, acc)
  | n + 1, T, acc => if wdB B T w then (if (f (nx B L T)).1 = 0 then pLp B L f w k n (f (nx B L T)).2.1 (acc ++ ((f (nx B L T)).2.2 ++ [jn k])) else f (nx B L T)) else (0, T, acc)
def pSd (B : Nat → Nat) (L : Nat) (f : Tk → PR) (w k : Nat) (T : Tk) : PR := if (f T).1 = 0 then pLp B L f w k 900 (f T).2.1 (f T).2.2 else f T
def pNot (r : PR) : PR := (r.1, r.2.1, r.2.2 ++ [jn 0])
def pClose (B : Nat → Nat) (L : Nat) (r : PR) : PR := if r.1 = 0 then (if r.2.1.1 = 93 then (0, nx B L r.2.1, r.2.2) else (2, r.2.1, r.2.2)) else r
def pFact (B : Nat → Nat) (L : Nat) (S : AS) : Nat → Tk → PR
  | 0, T => if wdB B T 8 then (6, T, []) else if T.1 = 91 then (6, T, []) else pCmp B L S T
  | m + 1, T => if wdB B T 8 then pNot (pFact B L S m (nx B L T)) else if T.1 = 91 then pClose B L (pSd B L (pSd B L (pFact B L S m) 7 1) 6 2 (nx B L T)) else pCmp B L S T
def pSide (B : Nat → Nat) (L : Nat) (S : AS) (m : Nat) (T : Tk) : PR := pSd B L (pFact B L S m) 7 1 T
def pTest (B : Nat → Nat) (L : Nat) (S : AS) (m : Nat) (T : Tk) : PR := pSd B L (pSide B L S m) 6 2 T
/-! what the steps are -/
def dpR : List AStp → Nat → Nat
  | [], d => d
  | s :: l, d => dpR l (dp1 s d)
def stG (s : AStp) : Prop := stpOk s ∧ (3 ≤ s.1 → s.2.1 = 60 ∨ s.2.1 = 61 ∨ s.2.1 = 62) ∧ numB s.2.2.2.2 48 = true
def okR (M : Nat) : List AStp → Nat → Prop
  | [], _ => True
  | s :: l, d => stG s ∧ (s.1 = 0 → 1 ≤ d) ∧ (s.1 = 1 ∨ s.1 = 2 → 2 ≤ d) ∧ d ≤ M ∧ okR M l (dp1 s d)
theorem dpR_app : ∀ (a b : List AStp) (d : Nat), dpR (a ++ b) d = dpR b (dpR a d)
  | [], _, _ => rfl
  | s :: a, b, d => dpR_app a b (dp1 s d)
theorem okR_app {M : Nat} : ∀ (a b : List AStp) (d : Nat), okR M a d → okR M b (dpR a d) → okR M (a ++ b) d
  | [], _, _, _, h => h
  | s :: a, b, d, ⟨h1, h2, h3, h4, h5⟩, h => ⟨h1, h2, h3, h4, okR_app a b (dp1 s d) h5 h⟩
theorem okR_up {M N : Nat} (h : M ≤ N) : ∀ (a : List AStp) (d : Nat), okR M a d → okR N a d
  | [], _, _ => trivial
  | s :: a, d, ⟨h1, h2, h3, h4, h5⟩ => ⟨h1, h2, h3, Nat.le_trans h4 h, okR_up h a (dp1 s d) h5⟩
/-- steps that make one answer more -/
def Sg (M : Nat) (a : List AStp) : Prop := ∀ d, okR (d + M) a d ∧ dpR a d = d + 1
theorem stG_jn {k : Nat} (hk : k ≤ 2) : stG (jn k) := by
  refine ⟨⟨by show k ≤ 8; omega, by show 0 < 100; omega, by show 0 < 48; omega, by show 0 < 100000000; omega⟩, fun h => ?_, by show numB 0 48 = true; decide⟩
  have h : 3 ≤ k := h
  omega
theorem Sg.nt {M : Nat} {a : List AStp} (h : Sg M a) (hM : 1 ≤ M) : Sg M (a ++ [jn 0]) := fun d => by
  obtain ⟨h1, h2⟩ := h d
  refine ⟨okR_app _ _ _ h1 ?_, ?_⟩
  · rw [h2]
    exact ⟨stG_jn (by omega), fun _ => by omega, fun q => absurd q (by show ¬ (0 = 1 ∨ 0 = 2); omega), by omega, trivial⟩
  · rw [dpR_app, h2]; rfl
theorem Sg.join {M N k : Nat} {a b : List AStp} (h : Sg M a) (h2 : Sg N b) (hM : N + 1 ≤ M) (hM2 : 2 ≤ M) (hk : k = 1 ∨ k = 2) : Sg M (a ++ (b ++ [jn k])) := fun d => by
  obtain ⟨a1, a2⟩ := h d
  obtain ⟨b1, b2⟩ := h2 (d + 1)
  refine ⟨okR_app _ _ _ a1 ?_, ?_⟩
  · rw [a2]
    refine okR_app _ _ _ (okR_up (by omega) _ _ b1) ?_
    rw [b2]
    exact ⟨stG_jn (by omega), fun q => by have q : k = 0 := q; omega, fun _ => by omega, by omega, trivial⟩
  · rw [dpR_app, a2, dpR_app, b2]
    rcases hk with rfl | rfl <;> rfl
def kEx (T : Tk) : Nat := if T.1 = 91 then 2 else 0
/-- what reads a piece: where it stays, and what it makes -/
def GI (B : Nat → Nat) (L M : Nat) (f : Tk → PR) : Prop := ∀ T, TkOk B L T → TkOk B L (f T).2.1 ∧ T.2.1 ≤ (f T).2.1.2.1 ∧ (f T).1 ≤ 6 ∧ ((f T).1 = 0 → (T.1 = 91 ∨ T.1 = 97) ∧ T.2.1 + 3 * (f T).2.2.length + 2 ≤ (f T).2.1.2.1 ∧ T.2.1 + 2 * clTot (f T).2.2 + kEx T ≤ (f T).2.1.2.1 + 1 ∧ Sg M (f T).2.2)
section GR
variable {B : Nat → Nat} {L : Nat} {S : AS} {T : Tk}
theorem nx_ok (h : TkOk B L T) : TkOk B L (nx B L T) := tok_ok B h.2.2.1
theorem nx_ge (B : Nat → Nat) (L : Nat) (T : Tk) : T.2.2 ≤ (nx B L T).2.1 := tok_ge B L T.2.2
theorem pNum_f (lo hi : Nat) : (pNum B T lo hi).1 ≤ 4 ∧ ((pNum B T lo hi).1 = 0 → T.1 = 48 ∧ lo ≤ (pNum B T lo hi).2 ∧ (pNum B T lo hi).2 ≤ hi ∧ T.2.2 - T.2.1 ≤ 8) := by
  unfold pNum
  split
  · next c =>
    split
    · exact ⟨by show 3 ≤ 4; omega, fun q => absurd q (by show ¬ 3 = 0; omega)⟩
    · next c2 =>
      split
      · exact ⟨by show 4 ≤ 4; omega, fun q => absurd q (by show ¬ 4 = 0; omega)⟩
      · next c3 =>
        split
        · exact ⟨by show 4 ≤ 4; omega, fun q => absurd q (by show ¬ 4 = 0; omega)⟩
        · next c4 => exact ⟨by show 0 ≤ 4; omega, fun _ => ⟨c, Nat.le_of_not_lt c3, Nat.le_of_not_lt c4, Nat.le_of_not_lt c2⟩⟩
  · exact ⟨by show 2 ≤ 4; omega, fun q => absurd q (by show ¬ 2 = 0; omega)⟩
theorem lN_num {v b : Nat} (hv : v < 2 ^ b) (hb : b ≤ 63) : numB (lN v) b = true := (numB_iff hb).mpr fun j hj => by
  have h2 : (2 : Nat) ^ b ≤ 2 ^ 63 := Nat.pow_le_pow_right (by decide) hb
  have h3 : (2 : Nat) ^ b ≤ 2 ^ j := Nat.pow_le_pow_right (by decide) hj
  rw [lt_lN _ _ (by omega)]
  exact Nat.testBit_lt_two_pow (by omega)
theorem pBin_f {b : Nat} (hb : b ≤ 48) : (pBin B T b).1 ≤ 3 ∧ ((pBin B T b).1 = 0 → T.1 = 48 ∧ numB (pBin B T b).2 b = true ∧ T.2.2 - T.2.1 = b ∧ (∀ k, k < b → B (T.2.1 + k) ≤ 49) ∧ (pBin B T b).2 = lN (bvN B T.2.1 b)) := by
  unfold pBin
  split
  · next c =>
    split
    · next c2 =>
      split
      · next c3 => exact ⟨by show 0 ≤ 3; omega, fun _ => ⟨c, lN_num (bvN_lt b c3) (by omega), c2, c3, rfl⟩⟩
      · exact ⟨by show 3 ≤ 3; omega, fun q => absurd q (by show ¬ 3 = 0; omega)⟩
    · exact ⟨by show 3 ≤ 3; omega, fun q => absurd q (by show ¬ 3 = 0; omega)⟩
  · exact ⟨by show 2 ≤ 3; omega, fun q => absurd q (by show ¬ 2 = 0; omega)⟩
theorem pNum_0 {lo hi : Nat} (h : ¬ (pNum B T lo hi).1 = 0) : 1 ≤ (pNum B T lo hi).1 := by omega
theorem wd_f {i : Nat} (h : wdB B T i = true) : T.1 = 97 ∧ T.2.2 - T.2.1 = ev_len.getD i 0 ∧ ∀ j, j < ev_len.getD i 0 → B (T.2.1 + j) = chN i j := of_decide_eq_true h
theorem wd_len : ∀ i, i < 15 → i ≠ 6 → 3 ≤ ev_len.getD i 0 := by decide +kernel
theorem wd_len6 : ev_len.getD 6 0 = 2 := by decide +kernel
theorem vk_f (h : vkN B T ≠ 0) : T.1 = 97 ∧ T.2.1 + 3 ≤ T.2.2 ∧ 3 ≤ vkN B T ∧ vkN B T ≤ 8 := by
  have w : ∀ i, i < 15 → i ≠ 6 → wdB B T i = true → T.1 = 97 ∧ T.2.1 + 3 ≤ T.2.2 := fun i hi h6 q => by
    have := wd_f q
    have := wd_len i hi h6
    omega
  revert h
  unfold vkN
  split
  · next c => exact fun _ => ⟨(w 9 (by decide) (by decide) c).1, (w 9 (by decide) (by decide) c).2, by omega, by omega⟩
  split
  · next c => exact fun _ => ⟨(w 5 (by decide) (by decide) c).1, (w 5 (by decide) (by decide) c).2, by omega, by omega⟩
  split
  · next c => exact fun _ => ⟨(w 10 (by decide) (by decide) c).1, (w 10 (by decide) (by decide) c).2, by omega, by omega⟩
  split
  · next c => exact fun _ => ⟨(w 11 (by decide) (by decide) c).1, (w 11 (by decide) (by decide) c).2, by omega, by omega⟩
  split
  · next c => exact fun _ => ⟨(w 12 (by decide) (by decide) c).1, (w 12 (by decide) (by decide) c).2, by omega, by omega⟩
  split
  · next c => exact fun _ => ⟨(w 13 (by decide) (by decide) c).1, (w 13 (by decide) (by decide) c).2, by omega, by omega⟩
  · exact fun q => absurd rfl q
theorem nx_s (h : TkOk B L T) : T.2.1 ≤ (nx B L T).2.1 := Nat.le_trans h.2.1 (nx_ge B L T)
/-- from the sign on -/
theorem pEnd_f {v p : Nat} {fr : Int64} (h : TkOk B L T) (hv : 3 ≤ v ∧ v ≤ 8) (hp : p < 48) (hf : numB fr 48 = true) : TkOk B L (pEnd B L v p fr T).2.1 ∧ T.2.1 ≤ (pEnd B L v p fr T).2.1.2.1 ∧ (pEnd B L v p fr T).1 ≤ 6 ∧ ((pEnd B L v p fr T).1 = 0 → ∃ s, (pEnd B L v p fr T).2.2 = [s] ∧ stG s ∧ 3 ≤ s.1 ∧ T.2.1 + 2 ≤ (pEnd B L v p fr T).2.1.2.1) := by
  have n1 := nx_ok h
  have n2 := nx_ok n1
  have g1 := nx_ge B L T
  have g2 := nx_ge B L (nx B L T)
  have le := h.2.1
  have le1 := n1.2.1
  have pf := pNum_f (B := B) (T := nx B L T) 0 99999999
  unfold pEnd
  split
  · next c =>
    split
    · next c2 =>
      refine ⟨n2, by show T.2.1 ≤ (nx B L (nx B L T)).2.1; omega, by show 0 ≤ 6; omega, fun _ => ⟨_, rfl, ⟨⟨hv.2, by show T.1 < 100; omega, hp, ?_⟩, fun _ => c, hf⟩, hv.1, ?_⟩⟩
      · have := (pf.2 c2).2.2.1
        show (pNum B (nx B L T) 0 99999999).2 < 100000000; omega
      · have k := (pf.2 c2).1
        have := (n1.2.2.2.1 k).1
        have := h.2.2.2.2.2.2.2.1 (by omega)
        show T.2.1 + 2 ≤ (nx B L (nx B L T)).2.1
        omega
    · next c2 => exact ⟨n1, nx_s h, by have := pf.1; show (pNum B (nx B L T) 0 99999999).1 ≤ 6; omega, fun q => absurd q c2⟩
  · exact ⟨h, Nat.le_refl _, by show 2 ≤ 6; omega, fun q => absurd q (by show ¬ 2 = 0; omega)⟩
theorem pCmp_GI (ok : sOk S) (M : Nat) : GI B L M (pCmp B L S) := by
  intro T h
  unfold pCmp
  split
  · exact ⟨h, Nat.le_refl _, by show 2 ≤ 6; omega, fun q => absurd q (by show ¬ 2 = 0; omega)⟩
  · next cv =>
    obtain ⟨w1, w2, w3, w4⟩ := vk_f cv
    generalize vkN B T = v at cv w3 w4
    have n1 := nx_ok h
    have g1 := nx_ge B L T
    have o1 := ok.2.1
    have o2 := ok.2.2.2.1
    have o3 := ok.2.2.1
    have o4 := ok.1
    have fin : ∀ (p : Nat) (fr : Int64) (T3 : Tk), TkOk B L T3 → T.2.1 + 3 ≤ T3.2.1 → p < 48 → numB fr 48 = true → TkOk B L (pEnd B L v p fr T3).2.1 ∧ T.2.1 ≤ (pEnd B L v p fr T3).2.1.2.1 ∧ (pEnd B L v p fr T3).1 ≤ 6 ∧ ((pEnd B L v p fr T3).1 = 0 → (T.1 = 91 ∨ T.1 = 97) ∧ T.2.1 + 3 * (pEnd B L v p fr T3).2.2.length + 2 ≤ (pEnd B L v p fr T3).2.1.2.1 ∧ T.2.1 + 2 * clTot (pEnd B L v p fr T3).2.2 + kEx T ≤ (pEnd B L v p fr T3).2.1.2.1 + 1 ∧ Sg M (pEnd B L v p fr T3).2.2) := by
      intro p fr T3 h3 h31 hp hf
      obtain ⟨a1, a2, a3, a4⟩ := pEnd_f (v := v) h3 ⟨w3, w4⟩ hp hf
      refine ⟨a1, by omega, a3, fun q => ?_⟩
      obtain ⟨s, e, b1, b2, b3⟩ := a4 q
      rw [e]
      refine ⟨Or.inr w1, by show T.2.1 + 3 * 1 + 2 ≤ _; omega, ?_, fun d => ⟨⟨b1, fun z => by omega, fun z => by omega, by omega, trivial⟩, ?_⟩⟩
      · have : clTot [s] = 3 := by unfold clTot clN; simp; omega
        have : kEx T = 0 := by unfold kEx; rw [if_neg (by omega)]
        omega
      · show dp1 s d = d + 1
        unfold dp1; rw [if_neg (by omega), if_neg (by omega), if_neg (by omega)]
    have mid : ∀ (p : Nat) (T2 : Tk), TkOk B L T2 → T.2.1 + 3 ≤ T2.2.1 → p < 48 → TkOk B L (pMid B L S v p T2).2.1 ∧ T.2.1 ≤ (pMid B L S v p T2).2.1.2.1 ∧ (pMid B L S v p T2).1 ≤ 6 ∧ ((pMid B L S v p T2).1 = 0 → (T.1 = 91 ∨ T.1 = 97) ∧ T.2.1 + 3 * (pMid B L S v p T2).2.2.length + 2 ≤ (pMid B L S v p T2).2.1.2.1 ∧ T.2.1 + 2 * clTot (pMid B L S v p T2).2.2 + kEx T ≤ (pMid B L S v p T2).2.1.2.1 + 1 ∧ Sg M (pMid B L S v p T2).2.2) := by
      intro p T2 h2 h21 hp
      unfold pMid
      have pf := pBin_f (B := B) (T := T2) (b := sB S) o1
      split
      · next c =>
        have nf : numB (pFr B S v T2).2 48 = true := by
          revert c
          unfold pFr
          split
          · intro c; exact numB_up (pf.2 c).2.1 o1 (by omega)
          · intro _; show numB 0 48 = true; decide
        unfold nx8
        split
        · exact fin p _ _ (nx_ok h2) (Nat.le_trans h21 (nx_s h2)) hp nf
        · exact fin p _ _ h2 h21 hp nf
      · next c =>
        refine ⟨h2, by show T.2.1 ≤ T2.2.1; omega, ?_, fun q => absurd q c⟩
        show (pFr B S v T2).1 ≤ 6
        unfold pFr
        split
        · have := pf.1; omega
        · show 0 ≤ 6; omega
    unfold pCmpV
    have pf1 := pNum_f (B := B) (T := nx B L T) 0 (sB S - 1)
    have pf2 := pNum_f (B := B) (T := nx B L T) 0 (sP S - 1)
    split
    · next c =>
      have np : (pPl B S v (nx B L T)).2 < 48 := by
        revert c
        unfold pPl
        split
        · intro c; have := (pf1.2 c).2.2.1; omega
        split
        · intro c; have := (pf2.2 c).2.2.1; omega
        · intro _; show 0 < 48; omega
      unfold nx67
      split
      · exact mid _ _ (nx_ok n1) (by have := nx_s n1; omega) np
      · exact mid _ _ n1 (by omega) np
    · next c =>
      refine ⟨n1, by show T.2.1 ≤ (nx B L T).2.1; omega, ?_, fun q => absurd q c⟩
      show (pPl B S v (nx B L T)).1 ≤ 6
      unfold pPl
      split
      · have := pf1.1; omega
      split
      · have := pf2.1; omega
      · show 0 ≤ 6; omega
theorem clTot_app (a b : List AStp) : clTot (a ++ b) = clTot a + clTot b := by unfold clTot; rw [List.map_append, List.sum_append]
theorem clTot_jn {k : Nat} (hk : k ≤ 2) : clTot [jn k] = 1 := by unfold clTot clN; simp [jn, hk]
theorem pSd_GI {f : Tk → PR} {M w k : Nat} (hf : GI B L M f) (hw : (w = 7 ∧ k = 1) ∨ (w = 6 ∧ k = 2)) (hM : 1 ≤ M) : GI B L (M + 1) (pSd B L f w k) := by
  have hk : k = 1 ∨ k = 2 := by omega
  have loop : ∀ (T0 : Tk) (n : Nat) (T : Tk) (acc : List AStp), TkOk B L T → T0.2.1 ≤ T.2.1 → (T0.1 = 91 ∨ T0.1 = 97) → T0.2.1 + 3 * acc.length + 2 ≤ T.2.1 → T0.2.1 + 2 * clTot acc + kEx T0 ≤ T.2.1 + 1 → Sg (M + 1) acc → TkOk B L (pLp B L f w k n T acc).2.1 ∧ T0.2.1 ≤ (pLp B L f w k n T acc).2.1.2.1 ∧ (pLp B L f w k n T acc).1 ≤ 6 ∧ ((pLp B L f w k n T acc).1 = 0 → (T0.1 = 91 ∨ T0.1 = 97) ∧ T0.2.1 + 3 * (pLp B L f w k n T acc).2.2.length + 2 ≤ (pLp B L f w k n T acc).2.1.2.1 ∧ T0.2.1 + 2 * clTot (pLp B L f w k n T acc).2.2 + kEx T0 ≤ (pLp B L f w k n T acc).2.1.2.1 + 1 ∧ Sg (M + 1) (pLp B L f w k n T acc).2.2) := by
    intro T0 n
    induction n with
    | zero => exact fun T acc h h1 h2 h3 h4 h5 => ⟨h, h1, by show 0 ≤ 6; omega, fun _ => ⟨h2, h3, h4, h5⟩⟩
    | succ n ih =>
      intro T acc h h1 h2 h3 h4 h5
      unfold pLp
      split
      · next c =>
        have n1 := nx_ok h
        have g1 := nx_ge B L T
        have wf := wd_f c
        obtain ⟨a1, a2, a3, a4⟩ := hf _ n1
        split
        · next c2 =>
          obtain ⟨b1, b2, b3, b4⟩ := a4 c2
          have lw : T.2.1 + (if w = 6 then 2 else 3) ≤ T.2.2 := by
            rcases hw with ⟨rfl, -⟩ | ⟨rfl, -⟩
            · have := wd_len 7 (by decide) (by decide); rw [if_neg (by omega)]; omega
            · rw [if_pos rfl]; have := wd_len6; omega
          have lw3 : w ≠ 6 → T.2.1 + 3 ≤ T.2.2 := fun z => by rw [if_neg z] at lw; exact lw
          have lw2 : T.2.1 + 2 ≤ T.2.2 := by split at lw <;> omega
          have gap : (nx B L T).1 = 97 → T.2.2 + 1 ≤ (nx B L T).2.1 := fun z => by
            obtain ⟨l1, l2, -⟩ := n1.2.2.2.2.1 z
            rcases Nat.lt_or_ge T.2.2 (nx B L T).2.1 with y | y
            · exact y
            · have e : (nx B L T).2.1 = T.2.2 := by omega
              have lt := (h.2.2.2.2.1 wf.1).2.2 (by have := n1.2.2.1; omega)
              have := l2 _ (Nat.le_refl _) l1
              rw [e, lt] at this
              cases this
          refine ih _ _ a1 (by omega) h2 ?_ ?_ (h5.join b4 (Nat.le_refl _) (by omega) hk)
          · rw [List.length_append, List.length_append]
            show T0.2.1 + 3 * (acc.length + ((f (nx B L T)).2.2.length + 1)) + 2 ≤ _
            omega
          · rw [clTot_app, clTot_app, clTot_jn (by omega)]
            unfold kEx at b3
            by_cases c6 : w = 6
            · rcases b1 with z | z
              · rw [if_pos z] at b3; omega
              · have := gap z
                split at b3 <;> omega
            · have := lw3 c6
              split at b3 <;> omega
        · next c2 => exact ⟨a1, by have := h.2.1; omega, a3, fun q => absurd q c2⟩
      · exact ⟨h, h1, by show 0 ≤ 6; omega, fun _ => ⟨h2, h3, h4, h5⟩⟩
  intro T h
  obtain ⟨a1, a2, a3, a4⟩ := hf T h
  unfold pSd
  split
  · next c =>
    obtain ⟨b1, b2, b3, b4⟩ := a4 c
    exact loop T 900 _ _ a1 a2 b1 b2 b3 fun d => ⟨okR_up (by omega) _ _ (b4 d).1, (b4 d).2⟩
  · next c => exact ⟨a1, a2, a3, fun q => absurd q c⟩
theorem pFact_GI (ok : sOk S) : ∀ m, GI B L (2 * m + 1) (pFact B L S m)
  | 0 => by
    intro T h
    unfold pFact
    split
    · exact ⟨h, Nat.le_refl _, by show 6 ≤ 6; omega, fun q => absurd q (by show ¬ 6 = 0; omega)⟩
    split
    · exact ⟨h, Nat.le_refl _, by show 6 ≤ 6; omega, fun q => absurd q (by show ¬ 6 = 0; omega)⟩
    · exact pCmp_GI ok 1 T h
  | m + 1 => by
    have ih := pFact_GI ok m
    have ih2 : GI B L (2 * m + 1 + 1 + 1) (pSd B L (pSd B L (pFact B L S m) 7 1) 6 2) := pSd_GI (pSd_GI ih (Or.inl ⟨rfl, rfl⟩) (by omega)) (Or.inr ⟨rfl, rfl⟩) (by omega)
    intro T h
    have n1 := nx_ok h
    have g1 := nx_ge B L T
    have s1 := nx_s h
    unfold pFact
    split
    · next c =>
      have wf := wd_f c
      have wl := wd_len 8 (by decide) (by decide)
      obtain ⟨a1, a2, a3, a4⟩ := ih _ n1
      refine ⟨a1, by show T.2.1 ≤ (pFact B L S m (nx B L T)).2.1.2.1; omega, a3, fun q => ?_⟩
      obtain ⟨b1, b2, b3, b4⟩ := a4 q
      refine ⟨Or.inr wf.1, ?_, ?_, ?_⟩
      · show T.2.1 + 3 * ((pFact B L S m (nx B L T)).2.2 ++ [jn 0]).length + 2 ≤ (pFact B L S m (nx B L T)).2.1.2.1
        rw [List.length_append]
        show T.2.1 + 3 * ((pFact B L S m (nx B L T)).2.2.length + 1) + 2 ≤ _
        omega
      · show T.2.1 + 2 * clTot ((pFact B L S m (nx B L T)).2.2 ++ [jn 0]) + kEx T ≤ (pFact B L S m (nx B L T)).2.1.2.1 + 1
        rw [clTot_app, clTot_jn (by omega)]
        have : kEx T = 0 := by unfold kEx; rw [if_neg (by omega)]
        omega
      · exact Sg.nt (fun d => ⟨okR_up (by omega) _ _ (b4 d).1, (b4 d).2⟩) (by omega)
    split
    · next c =>
      obtain ⟨a1, a2, a3, a4⟩ := ih2 _ n1
      have hT := (h.2.2.2.2.2.2.1 (by rw [c]; decide)).1
      unfold pClose
      split
      · next c2 =>
        obtain ⟨b1, b2, b3, b4⟩ := a4 c2
        split
        · next c3 =>
          have s2 := nx_ge B L (pSd B L (pSd B L (pFact B L S m) 7 1) 6 2 (nx B L T)).2.1
          have e2 := (a1.2.2.2.2.2.2.1 (by rw [c3]; decide)).1
          refine ⟨nx_ok a1, ?_, by show 0 ≤ 6; omega, fun _ => ⟨Or.inl c, ?_, ?_, b4⟩⟩
          · show T.2.1 ≤ (nx B L _).2.1; omega
          · show T.2.1 + 3 * (pSd B L (pSd B L (pFact B L S m) 7 1) 6 2 (nx B L T)).2.2.length + 2 ≤ (nx B L _).2.1; omega
          · show T.2.1 + 2 * clTot (pSd B L (pSd B L (pFact B L S m) 7 1) 6 2 (nx B L T)).2.2 + kEx T ≤ (nx B L _).2.1 + 1
            have : kEx T = 2 := by unfold kEx; rw [if_pos c]
            omega
        · exact ⟨a1, Nat.le_trans s1 a2, by show 2 ≤ 6; omega, fun q => absurd q (by show ¬ 2 = 0; omega)⟩
      · next c2 => exact ⟨a1, by omega, a3, fun q => absurd q c2⟩
    · exact pCmp_GI ok _ T h
theorem pSide_GI (ok : sOk S) (m : Nat) : GI B L (2 * m + 2) (pSide B L S m) := pSd_GI (pFact_GI ok m) (Or.inl ⟨rfl, rfl⟩) (by omega)
theorem pTest_GI (ok : sOk S) (m : Nat) : GI B L (2 * m + 3) (pTest B L S m) := pSd_GI (pSide_GI ok m) (Or.inr ⟨rfl, rfl⟩) (by omega)
end GR
