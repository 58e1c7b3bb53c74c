/-! clusters: what both sides gather is the least closed set -/
/-- what is reached from c -/
def clP (e : Nat → Nat → Bool) (c j : Nat) : Prop := ∀ Z : Nat → Bool, Z c = true → (∀ i j, Z i = true → e i j = true → Z j = true) → Z j = true
theorem clP_refl (e : Nat → Nat → Bool) (c : Nat) : clP e c c := fun _ h _ => h
theorem clP_step {e : Nat → Nat → Bool} {c i j : Nat} (h : clP e c i) (q : e i j = true) : clP e c j := fun Z h1 h2 => h2 i j (h Z h1 h2) q
theorem clP_trans {e : Nat → Nat → Bool} {a b c : Nat} (h : clP e a b) (k : clP e b c) : clP e a c := fun Z h1 h2 => k Z (h Z h1 h2) h2
theorem clP_symm {e : Nat → Nat → Bool} (sy : ∀ i j, e i j = true → e j i = true) {a b : Nat} (h : clP e a b) : clP e b a := by
  have d := fun j => Classical.propDecidable (clP e j a)
  have := h (fun j => @decide _ (d j)) (decide_eq_true (clP_refl e a)) fun i j q1 q2 => by
    have q1 : clP e i a := of_decide_eq_true q1
    exact decide_eq_true (clP_trans (clP_step (clP_refl e j) (sy i j q2)) q1)
  exact of_decide_eq_true this
theorem clP_mono {e e' : Nat → Nat → Bool} (m : ∀ i j, e i j = true → e' i j = true) {a b : Nat} (h : clP e a b) : clP e' a b := fun Z h1 h2 => h Z h1 fun i j q1 q2 => h2 i j q1 (m i j q2)
/-- a set that is closed, and reached -/
def clIs (e : Nat → Nat → Bool) (c : Nat) (X : Nat → Bool) : Prop := X c = true ∧ (∀ j, X j = true → clP e c j) ∧ ∀ i j, X i = true → e i j = true → X j = true
theorem clIs.iff {e : Nat → Nat → Bool} {c : Nat} {X : Nat → Bool} (h : clIs e c X) (j : Nat) : X j = true ↔ clP e c j := ⟨h.2.1 j, fun q => q X h.1 h.2.2⟩
theorem clIs.uniq {e : Nat → Nat → Bool} {c : Nat} {X Y : Nat → Bool} (h : clIs e c X) (k : clIs e c Y) : X = Y := funext fun j => by
  rw [Bool.eq_iff_iff, h.iff, k.iff]
/-- near by, both in a set -/
def edB (S : AS) (p : Nat → Bool) (r : Nat) (i j : Nat) : Bool := (p i && p j) && decide (pop (sCo S i ^^^ sCo S j) ≤ r)
theorem edB_symm {S : AS} {p : Nat → Bool} {r : Nat} (i j : Nat) (h : edB S p r i j = true) : edB S p r j i = true := by
  unfold edB at h ⊢
  simp only [Bool.and_eq_true, decide_eq_true_eq] at h ⊢
  exact ⟨⟨h.1.2, h.1.1⟩, by rw [Int64.xor_comm]; exact h.2⟩
theorem cnt_full {p : Nat → Bool} : ∀ {n : Nat}, n ≤ cnt p n → ∀ j, j < n → p j = true
  | 0, _, j, h => absurd h (Nat.not_lt_zero j)
  | n + 1, h, j, hj => by
    have e : cnt p (n + 1) = cnt p n + if p n then 1 else 0 := rfl
    have l := cnt_le p n
    cases q : p n
    · rw [q] at e; simp only [Bool.false_eq_true, if_false] at e; omega
    · rw [q] at e; simp only [if_true] at e
      by_cases c : j = n
      · subst c; exact q
      · exact cnt_full (n := n) (by omega) j (by omega)
/-- what holds while the class gathers -/
def clI (S : AS) (p : Nat → Bool) (c r i : Nat) (m : Int32 × Int32) : Prop := bt m.1 c = true ∧ (∀ j, bt m.1 j = true → clP (edB S p r) c j) ∧ (∀ j, bt m.2 j = true → bt m.1 j = true) ∧ (∀ a b, bt m.1 a = true → bt m.2 a = false → edB S p r a b = true → bt m.1 b = true) ∧ (m.2 = 0 ∨ i ≤ cnt (fun j => bt m.1 j && !bt m.2 j) 32)
theorem clI_step {S : AS} {p : Nat → Bool} {c r i : Nat} {m : Int32 × Int32} (hp : bt (setI p) = p) (hs : ∀ j, p j = true → j < sN S) (hm : ∀ j, bt m.1 j = true → p j = true) (h : clI S p c r i m) : clI S p c r (i + 1) (clT S (setI p) r m) ∧ ∀ j, bt (clT S (setI p) r m).1 j = true → p j = true := by
  obtain ⟨h1, h2, h3, h4, h5⟩ := h
  unfold clT
  by_cases z : m.2 = 0
  · rw [if_pos z]; exact ⟨⟨h1, h2, h3, h4, Or.inl z⟩, hm⟩
  · rw [if_neg z]
    have hf : fst (bt m.2) 32 < 32 := by
      rcases Nat.lt_or_ge (fst (bt m.2) 32) 32 with y | y
      · exact y
      · refine absurd (b_ext fun i hi => ?_) z
        rw [fst_no (bt m.2) 32 i (by omega), b_0]
    have hy := fst_yes (bt m.2) 32 hf
    revert hf hy
    generalize fst (bt m.2) 32 = f
    intro hf hy
    have hf1 := h3 f hy
    have hfp := hm f hf1
    -- the new ones
    have nw : ∀ j, bt (setI (nrP S (bt (setI p &&& (m.1 ^^^ (-1 : Int32)))) (sCo S f) r)) j = (edB S p r f j && !bt m.1 j) := fun j => by
      rw [bt_setI]
      unfold nrP edB
      rw [b_and, hp, b_xor]
      by_cases hj : j < 32
      · rw [b_m1 j hj, decide_eq_true hj, hfp, Int64.xor_comm (sCo S j)]
        cases q : p j
        · simp
        · rw [decide_eq_true (hs j q)]
          cases bt m.1 j <;> simp
      · rw [decide_eq_false hj]
        have : p j = false := by rw [← hp]; exact b_big (by omega)
        rw [this]; simp
    have one : ∀ j, j < 32 → bt (((1 : Int32) <<< (nI f &&& 31)) ^^^ (-1 : Int32)) j = !decide (j = f) := fun j hj => by
      rw [b_xor, setI_one hf, bt_setI, decide_eq_true hj, b_m1 j hj]; simp
    generalize setI (nrP S (bt (setI p &&& (m.1 ^^^ (-1 : Int32)))) (sCo S f) r) = w at nw
    have b2 : ∀ j, bt ((m.2 &&& (((1 : Int32) <<< (nI f &&& 31)) ^^^ (-1 : Int32))) ||| w) j = (bt m.2 j && !decide (j = f) || bt w j) := fun j => by
      rw [b_or, b_and]
      by_cases hj : j < 32
      · rw [one j hj]
      · rw [b_big (x := m.2) (by omega)]; simp
    have np : ∀ j, bt w j = true → p j = true := fun j q => by
      rw [nw] at q; unfold edB at q
      simp only [Bool.and_eq_true] at q
      exact q.1.1.2
    refine ⟨⟨?_, fun j q => ?_, fun j q => ?_, fun a b q1 q2 q3 => ?_, Or.inr ?_⟩, fun j q => ?_⟩
    · show bt (m.1 ||| w) c = true
      rw [b_or, h1]; rfl
    · have q : bt (m.1 ||| w) j = true := q
      rw [b_or, Bool.or_eq_true] at q
      rcases q with q | q
      · exact h2 j q
      · rw [nw, Bool.and_eq_true] at q
        exact clP_step (h2 f hf1) q.1
    · have q : bt (_ ||| w) j = true := q
      rw [b2, Bool.or_eq_true, Bool.and_eq_true] at q
      show bt (m.1 ||| w) j = true
      rw [b_or, Bool.or_eq_true]
      exact q.imp (fun q => h3 j q.1) id
    · have q1 : bt (m.1 ||| w) a = true := q1
      have q2 : bt (_ ||| w) a = false := q2
      rw [b2, Bool.or_eq_false_iff] at q2
      rw [b_or, q2.2, Bool.or_false] at q1
      show bt (m.1 ||| w) b = true
      rw [b_or, nw]
      cases y : bt m.1 b
      · by_cases af : a = f
        · subst af; rw [q3]; rfl
        · have : bt m.2 a = false := by
            cases t : bt m.2 a
            · rfl
            · have q := q2.1
              rw [t, decide_eq_false af] at q; cases q
          rw [h4 a b q1 this q3] at y; cases y
      · rfl
    · have base : i ≤ cnt (fun j => bt m.1 j && !bt m.2 j) 32 := h5.resolve_left z
      have e := cnt_ins (q := fun j => bt (m.1 ||| w) j && !bt ((m.2 &&& (((1 : Int32) <<< (nI f &&& 31)) ^^^ (-1 : Int32))) ||| w) j) (q' := fun j => bt m.1 j && !bt m.2 j) (x := f) (M := 32) (fun k _ hk => by
        show (bt (m.1 ||| w) k && !bt _ k) = (bt m.1 k && !bt m.2 k)
        rw [b2, b_or, decide_eq_false hk]
        cases y : bt w k
        · simp
        · rw [nw, Bool.and_eq_true] at y
          have := y.2
          cases t : bt m.1 k
          · simp
          · rw [t] at this; cases this) hf (by
        show (bt (m.1 ||| w) f && !bt _ f) = true
        rw [b2, b_or, nw, hf1]; simp) (by
        show (bt m.1 f && !bt m.2 f) = false
        rw [hy, Bool.not_true, Bool.and_false])
      show i + 1 ≤ cnt (fun j => bt (m.1 ||| w) j && !bt ((m.2 &&& (((1 : Int32) <<< (nI f &&& 31)) ^^^ (-1 : Int32))) ||| w) j) 32
      omega
    · have q : bt (m.1 ||| w) j = true := q
      rw [b_or, Bool.or_eq_true] at q
      exact q.elim (hm j) (np j)
/-- the class's cluster -/
theorem cluI_is {S : AS} {p : Nat → Bool} {c r : Nat} (hp : bt (setI p) = p) (hs : ∀ j, p j = true → j < sN S) (hc : p c = true) : clIs (edB S p r) c (bt (cluI S (setI p) c r)) ∧ ∀ j, bt (cluI S (setI p) c r) j = true → p j = true := by
  have c32 : c < 32 := by
    rcases Nat.lt_or_ge c 32 with z | z
    · exact z
    · rw [← hp, b_big z] at hc; cases hc
  have one : ∀ j, bt ((1 : Int32) <<< (nI c &&& 31)) j = (decide (j < 32) && decide (j = c)) := fun j => by rw [setI_one c32, bt_setI]
  have L : ∀ i, clI S p c r i (clU S (setI p) r ((1 : Int32) <<< (nI c &&& 31), (1 : Int32) <<< (nI c &&& 31)) i) ∧ ∀ j, bt (clU S (setI p) r ((1 : Int32) <<< (nI c &&& 31), (1 : Int32) <<< (nI c &&& 31)) i).1 j = true → p j = true := by
    intro i
    induction i with
    | zero =>
      have oc : bt ((1 : Int32) <<< (nI c &&& 31)) c = true := by rw [one, decide_eq_true c32, decide_eq_true rfl]; rfl
      have ic : ∀ j, bt ((1 : Int32) <<< (nI c &&& 31)) j = true → j = c := fun j q => by
        rw [one, Bool.and_eq_true] at q; exact of_decide_eq_true q.2
      exact ⟨⟨oc, fun j q => by rw [ic j q]; exact clP_refl _ _, fun j q => q, fun a b q1 q2 => (by
        have q1 : bt ((1 : Int32) <<< (nI c &&& 31)) a = true := q1
        have q2 : bt ((1 : Int32) <<< (nI c &&& 31)) a = false := q2
        rw [q1] at q2; cases q2), Or.inr (Nat.zero_le _)⟩, fun j q => by rw [ic j q]; exact hc⟩
    | succ i ih => exact clI_step hp hs ih.2 ih.1
  obtain ⟨⟨h1, h2, h3, h4, h5⟩, hm⟩ := L 32
  refine ⟨⟨h1, h2, fun a b q1 q2 => ?_⟩, hm⟩
  have no : bt (clU S (setI p) r ((1 : Int32) <<< (nI c &&& 31), (1 : Int32) <<< (nI c &&& 31)) 32).2 a = false := by
    rcases h5 with z | z
    · rw [z]; exact b_0 a
    · by_cases ha : a < 32
      · have := cnt_full z a ha
        simp only [Bool.and_eq_true, Bool.not_eq_true'] at this
        exact this.2
      · exact b_big (by omega)
  exact h4 a b q1 no q2
/-- the cluster of a code that counts -/
def cB (S : AS) (r c : Nat) : Nat → Bool := bt (cluI S (setI (ctP S)) c r)
theorem b_Mo_clusterOf_0 {G : ev_G} {d k n : Nat} {h : ev_H} {R : Option Value → ev_H → Prop} {x1 : Int32} {x2 : Int32} {x3 : Int64}
  (k1 : Ev G (d + 3) k n M_Mo_clusterOf 8 [.ref 102, .int x1, .int x2, .long x3, ev_unk, .long ((1 : Int64) <<< (x1.toInt64 &&& 63)), ev_unk, .long (0 : Int64), ev_unk, ev_unk, ev_unk] [] h R)
  : Ev G (d + 3) k n M_Mo_clusterOf 0 [.ref 102, .int x1, .int x2, .long x3, ev_unk, ev_unk, ev_unk, ev_unk, ev_unk, ev_unk, ev_unk] [] h R :=
  Ev.go (pc' := 8) (ls' := [.ref 102, .int x1, .int x2, .long x3, ev_unk, .long ((1 : Int64) <<< (x1.toInt64 &&& 63)), ev_unk, .long (0 : Int64), ev_unk, ev_unk, ev_unk]) (st' := []) [.lconst 1, .iload_n 1, .lshl, .lstore 5, .lconst 0, .lstore 7] (by decide +kernel) rfl <|
  k1
theorem b_Mo_clusterOf_8 {G : ev_G} {d k n : Nat} {h : ev_H} {R : Option Value → ev_H → Prop} {x1 : Int32} {x2 : Int32} {x3 : Int64} {x5 : Int64} {x7 : Int64}
  (k1 : x5 = x7 → R (some (.long x5)) h)
  (k2 : ¬ x5 = x7 → Ev G (d + 3) k n M_Mo_clusterOf 23 [.ref 102, .int x1, .int x2, .long x3, ev_unk, .long x5, ev_unk, .long x5, ev_unk, .int (0 : Int32), ev_unk] [] h R)
  : Ev G (d + 3) k n M_Mo_clusterOf 8 [.ref 102, .int x1, .int x2, .long x3, ev_unk, .long x5, ev_unk, .long x7, ev_unk, ev_unk, ev_unk] [] h R :=
  Ev.go (pc' := 12) (ls' := [.ref 102, .int x1, .int x2, .long x3, ev_unk, .long x5, ev_unk, .long x7, ev_unk, ev_unk, ev_unk]) (st' := [.long x7, .long x5]) [.lload 5, .lload 7] (by decide +kernel) rfl <|
  Ev.brl (c := .eq) (o := 78) (P := x5 = x7) (t := 91) (f := 16) (t1 := 91) (by decide +kernel) (by decide +kernel) rfl rfl (fun c1 =>
    Ev.go (pc' := 93) (ls' := [.ref 102, .int x1, .int x2, .long x3, ev_unk, .long x5, ev_unk, .long x7, ev_unk, ev_unk, ev_unk]) (st' := [.long x5]) [.lload 5] (by decide +kernel) rfl <|
    Ev.ret (r := (some (.long x5))) (Or.inr (Or.inl ⟨_, rfl, by decide +kernel, rfl⟩)) (k1 c1)
  ) (fun c1 =>
    Ev.go (pc' := 23) (ls' := [.ref 102, .int x1, .int x2, .long x3, ev_unk, .long x5, ev_unk, .long x5, ev_unk, .int (0 : Int32), ev_unk]) (st' := []) [.lload 5, .lstore 7, .iconst 0, .istore 9] (by decide +kernel) rfl <|
    (k2 c1)
  )
theorem b_Mo_clusterOf_23 {G : ev_G} {d k n : Nat} {h : ev_H} {R : Option Value → ev_H → Prop} {x1 : Int32} {x2 : Int32} {x3 : Int64} {x5 : Int64} {x7 : Int64} {x9 : Int32} {S1 : AS}
  (pr1 : MS h S1)
  (r2 : ∃ fs, hat h 102 (oC 9 fs))
  (k1 : x9 < (nI (sN S1)) → Ev G (d + 3) k n M_Mo_clusterOf 35 [.ref 102, .int x1, .int x2, .long x3, ev_unk, .long x5, ev_unk, .long x7, ev_unk, .int x9, .int (0 : Int32)] [] h R)
  (k2 : ¬ x9 < (nI (sN S1)) → Ev G (d + 3) k n M_Mo_clusterOf 8 [.ref 102, .int x1, .int x2, .long x3, ev_unk, .long x5, ev_unk, .long x7, ev_unk, ev_unk, ev_unk] [] h R)
  : Ev G (d + 3) k n M_Mo_clusterOf 23 [.ref 102, .int x1, .int x2, .long x3, ev_unk, .long x5, ev_unk, .long x7, ev_unk, .int x9, ev_unk] [] h R :=
  Ev.go (pc' := 26) (ls' := [.ref 102, .int x1, .int x2, .long x3, ev_unk, .long x5, ev_unk, .long x7, ev_unk, .int x9, ev_unk]) (st' := [.ref 102, .int x9]) [.iload 9, .aload_n 0] (by decide +kernel) rfl <|
  Ev.cV0 (M' := M_Mo_many_0) (as := []) (rest := [.int x9]) l_Mo_71 M_Mo_many_0_ok M_Mo_many_0_in M_Mo_many_0_se (by decide +kernel) r2 rfl rfl rfl (Nat.le_of_ble_eq_true rfl) (Nat.le_of_ble_eq_true rfl) (s_Mo_many_0 pr1 <| show Ev G (d + 3) _ _ M_Mo_clusterOf 29 [.ref 102, .int x1, .int x2, .long x3, ev_unk, .long x5, ev_unk, .long x7, ev_unk, .int x9, ev_unk] [.int (nI (sN S1)), .int x9] h R from
    Ev.br (i := .if_icmp .ge (59)) (P := x9 < (nI (sN S1))) (t := 32) (f := 88) (r := []) (by decide +kernel) rfl (fun c1 =>
      Ev.go (pc' := 35) (ls' := [.ref 102, .int x1, .int x2, .long x3, ev_unk, .long x5, ev_unk, .long x7, ev_unk, .int x9, .int (0 : Int32)]) (st' := []) [.iconst 0, .istore 10] (by decide +kernel) rfl <|
      (k1 c1)
    ) (fun c1 =>
      Ev.go (pc' := 8) (ls' := [.ref 102, .int x1, .int x2, .long x3, ev_unk, .long x5, ev_unk, .long x7, ev_unk, .int x9, ev_unk]) (st' := []) [.goto (-80)] (by decide +kernel) rfl <|
      Ev.forget (ls' := [.ref 102, .int x1, .int x2, .long x3, ev_unk, .long x5, ev_unk, .long x7, ev_unk, ev_unk, ev_unk]) ⟨Or.inr rfl, Or.inr rfl, Or.inr rfl, Or.inr rfl, Or.inr rfl, Or.inr rfl, Or.inr rfl, Or.inr rfl, Or.inr rfl, Or.inl rfl, Or.inr rfl, trivial⟩ <|
      (k2 c1)
    )
  )
theorem b_Mo_clusterOf_35 {G : ev_G} {d k n : Nat} {h : ev_H} {R : Option Value → ev_H → Prop} {x1 : Int32} {x2 : Int32} {x3 : Int64} {x5 : Int64} {x7 : Int64} {x9 : Int32} {x10 : Int32} {S1 : AS} {S2 : AS} {c_3 : Nat} {e_4 : Nat}
  (pr1 : MS h S1)
  (r2 : ∃ fs, hat h 102 (oC 9 fs))
  (pr3 : x10 < (nI (sN S1)) → ¬ (b2i (tbL x5 x9)) = (0 : Int32) → MS h S2)
  (pr4 : x10 < (nI (sN S1)) → ¬ (b2i (tbL x5 x9)) = (0 : Int32) → sOk S2)
  (pr5 : x10 < (nI (sN S1)) → ¬ (b2i (tbL x5 x9)) = (0 : Int32) → x9 = nI c_3 ∧ c_3 < sN S2)
  (pr6 : x10 < (nI (sN S1)) → ¬ (b2i (tbL x5 x9)) = (0 : Int32) → x10 = nI e_4 ∧ e_4 < sN S2)
  (r7 : x10 < (nI (sN S1)) → ¬ (b2i (tbL x5 x9)) = (0 : Int32) → ∃ fs, hat h 102 (oC 9 fs))
  (k1 : x10 < (nI (sN S1)) → (b2i (tbL x5 x9)) = (0 : Int32) → Ev G (d + 3) k n M_Mo_clusterOf 35 [.ref 102, .int x1, .int x2, .long x3, ev_unk, .long x5, ev_unk, .long x7, ev_unk, .int x9, .int (x10 + (1 : Int32))] [] h R)
  (k2 : x10 < (nI (sN S1)) → ¬ (b2i (tbL x5 x9)) = (0 : Int32) → (b2i ((lt x3 c_3 && lt x3 e_4) && decide (¬ x2 < nI (pop (sCo S2 c_3 ^^^ sCo S2 e_4))))) = (0 : Int32) → Ev G (d + 3) k n M_Mo_clusterOf 35 [.ref 102, .int x1, .int x2, .long x3, ev_unk, .long x5, ev_unk, .long x7, ev_unk, .int x9, .int (x10 + (1 : Int32))] [] h R)
  (k3 : x10 < (nI (sN S1)) → ¬ (b2i (tbL x5 x9)) = (0 : Int32) → ¬ (b2i ((lt x3 c_3 && lt x3 e_4) && decide (¬ x2 < nI (pop (sCo S2 c_3 ^^^ sCo S2 e_4))))) = (0 : Int32) → Ev G (d + 3) k n M_Mo_clusterOf 35 [.ref 102, .int x1, .int x2, .long x3, ev_unk, .long (x5 ||| ((1 : Int64) <<< (x10.toInt64 &&& 63))), ev_unk, .long x7, ev_unk, .int x9, .int (x10 + (1 : Int32))] [] h R)
  (k4 : ¬ x10 < (nI (sN S1)) → Ev G (d + 3) k n M_Mo_clusterOf 23 [.ref 102, .int x1, .int x2, .long x3, ev_unk, .long x5, ev_unk, .long x7, ev_unk, .int (x9 + (1 : Int32)), ev_unk] [] h R)
  : Ev G (d + 3) k n M_Mo_clusterOf 35 [.ref 102, .int x1, .int x2, .long x3, ev_unk, .long x5, ev_unk, .long x7, ev_unk, .int x9, .int x10] [] h R :=
  Ev.go (pc' := 38) (ls' := [.ref 102, .int x1, .int x2, .long x3, ev_unk, .long x5, ev_unk, .long x7, ev_unk, .int x9, .int x10]) (st' := [.ref 102, .int x10]) [.iload 10, .aload_n 0] (by decide +kernel) rfl <|
  Ev.cV0 (M' := M_Mo_many_0) (as := []) (rest := [.int x10]) l_Mo_71 M_Mo_many_0_ok M_Mo_many_0_in M_Mo_many_0_se (by decide +kernel) r2 rfl rfl rfl (Nat.le_of_ble_eq_true rfl) (Nat.le_of_ble_eq_true rfl) (s_Mo_many_0 pr1 <| show Ev G (d + 3) _ _ M_Mo_clusterOf 41 [.ref 102, .int x1, .int x2, .long x3, ev_unk, .long x5, ev_unk, .long x7, ev_unk, .int x9, .int x10] [.int (nI (sN S1)), .int x10] h R from
    Ev.br (i := .if_icmp .ge (41)) (P := x10 < (nI (sN S1))) (t := 44) (f := 82) (r := []) (by decide +kernel) rfl (fun c1 =>
      Ev.go (pc' := 48) (ls' := [.ref 102, .int x1, .int x2, .long x3, ev_unk, .long x5, ev_unk, .long x7, ev_unk, .int x9, .int x10]) (st' := [.int x9, .long x5]) [.lload 5, .iload 9] (by decide +kernel) rfl <|
      Ev.cS0 (M' := M_Mo_has) (as := [.long x5, .int x9]) (rest := []) l_Mo_271 M_Mo_has_ok M_Mo_has_st (by decide +kernel) rfl rfl (Nat.le_of_ble_eq_true rfl) (Nat.le_of_ble_eq_true rfl) (s_Mo_has <| show Ev G (d + 3) _ _ M_Mo_clusterOf 51 [.ref 102, .int x1, .int x2, .long x3, ev_unk, .long x5, ev_unk, .long x7, ev_unk, .int x9, .int x10] [.int (b2i (tbL x5 x9))] h R from
        Ev.br (i := .ifCond .eq (25)) (P := (b2i (tbL x5 x9)) = (0 : Int32)) (t := 76) (f := 54) (r := []) (by decide +kernel) rfl (fun c2 =>
          Ev.go (pc' := 35) (ls' := [.ref 102, .int x1, .int x2, .long x3, ev_unk, .long x5, ev_unk, .long x7, ev_unk, .int x9, .int (x10 + (1 : Int32))]) (st' := []) [.iinc 10 (1), .goto (-44)] (by decide +kernel) rfl <|
          (k1 c1 c2)
        ) (fun c2 =>
          Ev.go (pc' := 61) (ls' := [.ref 102, .int x1, .int x2, .long x3, ev_unk, .long x5, ev_unk, .long x7, ev_unk, .int x9, .int x10]) (st' := [.long x3, .int x2, .int x10, .int x9, .ref 102]) [.aload_n 0, .iload 9, .iload 10, .iload_n 2, .lload_n 3] (by decide +kernel) rfl <|
          Ev.cV0 (M' := M_Mo_isPair) (as := [.int x9, .int x10, .int x2, .long x3]) (rest := []) l_Mo_334 M_Mo_isPair_ok M_Mo_isPair_in M_Mo_isPair_se (by decide +kernel) (r7 c1 c2) rfl rfl rfl (Nat.le_of_ble_eq_true rfl) (Nat.le_of_ble_eq_true rfl) (s_Mo_isPair (pr3 c1 c2) (pr4 c1 c2) (pr5 c1 c2) (pr6 c1 c2) <| show Ev G (d + 3) _ _ M_Mo_clusterOf 64 [.ref 102, .int x1, .int x2, .long x3, ev_unk, .long x5, ev_unk, .long x7, ev_unk, .int x9, .int x10] [.int (b2i ((lt x3 c_3 && lt x3 e_4) && decide (¬ x2 < nI (pop (sCo S2 c_3 ^^^ sCo S2 e_4)))))] h R from
            Ev.br (i := .ifCond .eq (12)) (P := (b2i ((lt x3 c_3 && lt x3 e_4) && decide (¬ x2 < nI (pop (sCo S2 c_3 ^^^ sCo S2 e_4))))) = (0 : Int32)) (t := 76) (f := 67) (r := []) (by decide +kernel) rfl (fun c3 =>
              Ev.go (pc' := 35) (ls' := [.ref 102, .int x1, .int x2, .long x3, ev_unk, .long x5, ev_unk, .long x7, ev_unk, .int x9, .int (x10 + (1 : Int32))]) (st' := []) [.iinc 10 (1), .goto (-44)] (by decide +kernel) rfl <|
              (k2 c1 c2 c3)
            ) (fun c3 =>
              Ev.go (pc' := 35) (ls' := [.ref 102, .int x1, .int x2, .long x3, ev_unk, .long (x5 ||| ((1 : Int64) <<< (x10.toInt64 &&& 63))), ev_unk, .long x7, ev_unk, .int x9, .int (x10 + (1 : Int32))]) (st' := []) [.lload 5, .lconst 1, .iload 10, .lshl, .lor, .lstore 5, .iinc 10 (1), .goto (-44)] (by decide +kernel) rfl <|
              (k3 c1 c2 c3)
            )
          )
        )
      )
    ) (fun c1 =>
      Ev.go (pc' := 23) (ls' := [.ref 102, .int x1, .int x2, .long x3, ev_unk, .long x5, ev_unk, .long x7, ev_unk, .int (x9 + (1 : Int32)), .int x10]) (st' := []) [.iinc 9 (1), .goto (-62)] (by decide +kernel) rfl <|
      Ev.forget (ls' := [.ref 102, .int x1, .int x2, .long x3, ev_unk, .long x5, ev_unk, .long x7, ev_unk, .int (x9 + (1 : Int32)), ev_unk]) ⟨Or.inr rfl, Or.inr rfl, Or.inr rfl, Or.inr rfl, Or.inr rfl, Or.inr rfl, Or.inr rfl, Or.inr rfl, Or.inr rfl, Or.inr rfl, Or.inl rfl, trivial⟩ <|
      (k4 c1)
    )
  )
section S65
variable {G : ev_G} {d : Nat} {h : ev_H} {R : Option Value → ev_H → Prop} {S : AS}
theorem s_Mo_clusterOf {c r : Nat} (H : MS h S) (ok : sOk S) (hc : ctP S c = true) (hr : r < 2147483648) (hR : R (some (.long (setL (cB S r c)))) h) : Ev G (d + 3) 0 0 M_Mo_clusterOf 0 [.ref 102, .int (nI c), .int (nI r), .long (setL (ctP S)), ev_unk, ev_unk, ev_unk, ev_unk, ev_unk, ev_unk, ev_unk] [] h R := by
  have ⟨v, z, g, m1, m2, sl⟩ := H
  have n32 := ok.2.2.2.2.1
  have hcN := ct_N hc
  have hct : bt (setI (ctP S)) = ctP S := bt_ct n32
  have ci := (cluI_is (r := r) hct (fun j q => ct_N q) hc).1
  refine b_Mo_clusterOf_0 ?_
  rw [setL_one (show c < 32 by omega)]
  have tb : ∀ (q : Nat → Bool) i, i < 32 → lt (setL q) i = q i := fun q i hi => by rw [lt_setL, decide_eq_true hi, Bool.true_and]
  -- a whole turn
  have T : ∀ (q : Nat → Bool), q c = true → (∀ j, q j = true → clP (edB S (ctP S) r) c j) → (∀ q' : Nat → Bool, (∀ j, q j = true → q' j = true) → (∀ j, q' j = true → clP (edB S (ctP S) r) c j) → (∀ a b, a < sN S → b < sN S → q a = true → edB S (ctP S) r a b = true → q' b = true) → Ev G (d + 3) 0 0 M_Mo_clusterOf 8 [.ref 102, .int (nI c), .int (nI r), .long (setL (ctP S)), ev_unk, .long (setL q'), ev_unk, .long (setL q), ev_unk, ev_unk, ev_unk] [] h R) → Ev G (d + 3) 0 0 M_Mo_clusterOf 23 [.ref 102, .int (nI c), .int (nI r), .long (setL (ctP S)), ev_unk, .long (setL q), ev_unk, .long (setL q), ev_unk, .int (0 : Int32), ev_unk] [] h R := by
    intro q qc qr go
    have A := up_to (P := fun a => ∀ q' : Nat → Bool, (∀ j, q j = true → q' j = true) → (∀ j, q' j = true → clP (edB S (ctP S) r) c j) → (∀ x y, x < a → y < sN S → q x = true → edB S (ctP S) r x y = true → q' y = true) → Ev G (d + 3) 0 0 M_Mo_clusterOf 23 [.ref 102, .int (nI c), .int (nI r), .long (setL (ctP S)), ev_unk, .long (setL q'), ev_unk, .long (setL q), ev_unk, .int (nI a), ev_unk] [] h R) (N := sN S) ?_ ?_ 0 (Nat.zero_le _)
    · exact A q (fun _ t => t) qr fun x y hx => absurd hx (Nat.not_lt_zero x)
    · intro a ha ih q' s1 s2 s3
      refine b_Mo_clusterOf_23 H ⟨_, m1⟩ (fun _ => ?_) (fun k => absurd (nI_lt ha (by omega)) k)
      have B := up_to (P := fun b => ∀ q' : Nat → Bool, (∀ j, q j = true → q' j = true) → (∀ j, q' j = true → clP (edB S (ctP S) r) c j) → (∀ x y, x < a → y < sN S → q x = true → edB S (ctP S) r x y = true → q' y = true) → (∀ y, y < b → q a = true → edB S (ctP S) r a y = true → q' y = true) → Ev G (d + 3) 0 0 M_Mo_clusterOf 35 [.ref 102, .int (nI c), .int (nI r), .long (setL (ctP S)), ev_unk, .long (setL q'), ev_unk, .long (setL q), ev_unk, .int (nI a), .int (nI b)] [] h R) (N := sN S) ?_ ?_ 0 (Nat.zero_le _)
      · exact B q' s1 s2 s3 fun y hy => absurd hy (Nat.not_lt_zero y)
      · intro b hb ihb q' s1 s2 s3 s4
        have ed : edB S (ctP S) r a b = ((ctP S a && ctP S b) && decide (¬ nI r < nI (pop (sCo S a ^^^ sCo S b)))) := by
          unfold edB
          have pl := pop_le (sCo S a ^^^ sCo S b)
          congr 1
          rw [decide_eq_decide, nI_ltI (by omega) (by omega)]; omega
        refine b_Mo_clusterOf_35 (c_3 := a) (e_4 := b) H ⟨_, m1⟩ (fun _ _ => H) (fun _ _ => ok) (fun _ _ => ⟨rfl, ha⟩) (fun _ _ => ⟨rfl, hb⟩) (fun _ _ => ⟨_, m1⟩) (fun _ k => ?_) (fun _ k1 k2 => ?_) (fun _ k1 k2 => ?_) (fun k => absurd (nI_lt hb (by omega)) k)
        · rw [tbL_n (by omega), tb _ _ (by omega)] at k
          have k := b2i_e0 k
          rw [nI_1]
          refine ihb q' s1 s2 s3 fun y hy t1 t2 => ?_
          by_cases w : y = b
          · rw [s1 a t1] at k; cases k
          · exact s4 y (by omega) t1 t2
        · rw [tb _ _ (by omega), tb _ _ (by omega), ← ed] at k2
          have k2 := b2i_e0 k2
          rw [nI_1]
          refine ihb q' s1 s2 s3 fun y hy t1 t2 => ?_
          by_cases w : y = b
          · subst w; rw [k2] at t2; cases t2
          · exact s4 y (by omega) t1 t2
        · rw [tbL_n (by omega), tb _ _ (by omega)] at k1
          have k1 := b2i_n0 k1
          rw [tb _ _ (by omega), tb _ _ (by omega), ← ed] at k2
          have k2 := b2i_n0 k2
          rw [nI_1, setL_one (show b < 32 by omega), setL_or]
          refine ihb (fun j => q' j || decide (j = b)) (fun j t => by rw [Bool.or_eq_true]; exact Or.inl (s1 j t)) (fun j t => ?_) (fun x y hx hy t1 t2 => by rw [Bool.or_eq_true]; exact Or.inl (s3 x y hx hy t1 t2)) fun y hy t1 t2 => ?_
          · rw [Bool.or_eq_true] at t
            rcases t with t | t
            · exact s2 j t
            · have t := of_decide_eq_true t
              subst t
              exact clP_step (s2 a k1) k2
          · rw [Bool.or_eq_true]
            by_cases w : y = b
            · exact Or.inr (decide_eq_true w)
            · exact Or.inl (s4 y (by omega) t1 t2)
      · intro q' s1 s2 s3 s4
        have no := nl_self (n := sN S) (by omega)
        refine b_Mo_clusterOf_35 (S2 := S) (c_3 := 0) (e_4 := 0) H ⟨_, m1⟩ (fun k => absurd k no) (fun k => absurd k no) (fun k => absurd k no) (fun k => absurd k no) (fun k => absurd k no) (fun k => absurd k no) (fun k => absurd k no) (fun k => absurd k no) (fun _ => ?_)
        rw [nI_1]
        refine ih q' s1 s2 fun x y hx hy t1 t2 => ?_
        by_cases w : x = a
        · subst w; exact s4 y hy t1 t2
        · exact s3 x y (by omega) hy t1 t2
    · intro q' s1 s2 s3
      refine b_Mo_clusterOf_23 H ⟨_, m1⟩ (fun k => absurd k (nl_self (by omega))) (fun _ => ?_)
      exact go q' s1 s2 s3
  -- nothing new: done
  have D : ∀ q : Nat → Bool, q c = true → (∀ j, q j = true → clP (edB S (ctP S) r) c j) → (∀ a b, a < sN S → b < sN S → q a = true → edB S (ctP S) r a b = true → q b = true) → R (some (.long (setL q))) h := by
    intro q qc qr qx
    have : clIs (edB S (ctP S) r) c q := ⟨qc, qr, fun a b t1 t2 => by
      have t3 := t2
      unfold edB at t3
      simp only [Bool.and_eq_true] at t3
      exact qx a b (ct_N t3.1.1) (ct_N t3.1.2) t1 t2⟩
    have e : q = cB S r c := this.uniq ci
    rw [e]; exact hR
  have M : ∀ (m : Nat) (q : Nat → Bool) (old : Int64), 32 ≤ cnt q 32 + m → q c = true → (∀ j, q j = true → clP (edB S (ctP S) r) c j) → ¬ setL q = old → Ev G (d + 3) 0 0 M_Mo_clusterOf 8 [.ref 102, .int (nI c), .int (nI r), .long (setL (ctP S)), ev_unk, .long (setL q), ev_unk, .long old, ev_unk, ev_unk, ev_unk] [] h R := by
    intro m
    induction m with
    | zero =>
      intro q old hm qc qr ne
      refine b_Mo_clusterOf_8 (fun k => absurd k ne) (fun _ => T q qc qr fun q' s1 s2 s3 => ?_)
      have all := cnt_full (p := q) (n := 32) (by omega)
      have e : setL q' = setL q := setL_congr fun j hj => by rw [all j hj, s1 j (all j hj)]
      rw [e]
      refine b_Mo_clusterOf_8 (fun _ => D q qc qr fun a b ha hb t1 t2 => all b (by omega)) (fun k => absurd rfl k)
    | succ m ih =>
      intro q old hm qc qr ne
      refine b_Mo_clusterOf_8 (fun k => absurd k ne) (fun _ => T q qc qr fun q' s1 s2 s3 => ?_)
      by_cases same : setL q' = setL q
      · rw [same]
        refine b_Mo_clusterOf_8 (fun _ => D q qc qr fun a b ha hb t1 t2 => ?_) (fun k => absurd rfl k)
        have := s3 a b ha hb t1 t2
        rw [← tb q' b (by omega), same, tb q b (by omega)] at this
        exact this
      · refine ih q' _ ?_ (s1 c qc) s2 same
        have : cnt q 32 + 1 ≤ cnt q' 32 := by
          rcases Nat.lt_or_ge (cnt q 32) (cnt q' 32) with y | y
          · exact y
          · refine absurd (setL_congr fun j hj => ?_) same
            cases t : q j
            · cases t' : q' j
              · rfl
              · have := cnt_strict (q := q') (q' := q) (x := j) (M := 32) (fun k _ => s1 k) hj t' t
                omega
            · exact s1 j t
        omega
  have oc : (fun j => decide (j = c)) c = true := decide_eq_true rfl
  refine M 32 _ _ (Nat.le_add_left _ _) oc (fun j t => by have t := of_decide_eq_true t; subst t; exact clP_refl _ _) fun k => ?_
  have := congrArg (fun x => lt x c) k
  simp only [lt_setL, l_0, decide_eq_true (show c < 32 by omega), decide_eq_true (rfl : c = c), Bool.true_and] at this
  cases this
end S65
