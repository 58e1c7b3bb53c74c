/-! A SMALLER MACHINE over the kit's: cells at numbers from 0 on, locals as a list, 'Ev' says that from a place of a method its end comes, with R of answer and heap. -/
abbrev ev_C : Type := (Nat × vp_A) ⊕ (Nat × List Value)
/-- how many cells, what they hold -/
abbrev ev_H : Type := Nat × (Nat → ev_C)
/-- launch, the heap at the law's start, classes' numbers and slots, array classes, places outside -/
abbrev ev_G : Type := Launch × Heap × va_G × (Nat → ClassId) × (Nat → Nat)
/-- a method: name, code, locals, answer -/
abbrev ev_M : Type := MethodName × ByteArray × Nat × Option FieldType
def ev_big : Nat := 1000000
def ev_ad (G : ev_G) (k : Nat) : Nat := if k < ev_big then G.2.1.size + k else G.2.2.2.2 (k - ev_big)
def ev_tr (G : ev_G) : Value → Value
  | .ref k => .ref (ev_ad G k)
  | v => v
def ev_trE (G : ev_G) : ev_C → va_E
  | .inl (t, n, .inl f) => .inl (G.2.2.2.1 t, n, .inl f)
  | .inl (t, n, .inr (.inl f)) => .inl (G.2.2.2.1 t, n, .inr (.inl f))
  | .inl (t, n, .inr (.inr (.inl f))) => .inl (G.2.2.2.1 t, n, .inr (.inr (.inl f)))
  | .inl (t, n, .inr (.inr (.inr (.inl f)))) => .inl (G.2.2.2.1 t, n, .inr (.inr (.inr (.inl f))))
  | .inl (t, n, .inr (.inr (.inr (.inr g)))) => .inl (G.2.2.2.1 t, n, .inr (.inr (.inr (.inr (fun j => (g j).map (ev_ad G))))))
  | .inr (ci, fs) => .inr (ci, fs.map (ev_tr G))
abbrev oC (ci : Nat) (fs : List Value) : ev_C := .inr (ci, fs)
abbrev aI (n : Nat) (f : Nat → Int32) : ev_C := .inl (0, n, .inl f)
abbrev aL (n : Nat) (f : Nat → Int64) : ev_C := .inl (1, n, .inr (.inl f))
abbrev aB (n : Nat) (f : Nat → Int32) : ev_C := .inl (2, n, .inl f)
abbrev aG (n : Nat) (f : Nat → Option Nat) : ev_C := .inl (3, n, .inr (.inr (.inr (.inr f))))
abbrev aS (n : Nat) (f : Nat → Option Nat) : ev_C := .inl (4, n, .inr (.inr (.inr (.inr f))))
def ev_tys (G : ev_G) : List (ClassId × FieldType) := [(G.2.2.2.1 0, .int), (G.2.2.2.1 1, .long), (G.2.2.2.1 2, .byte), (G.2.2.2.1 3, .array .int), (G.2.2.2.1 4, .object "AlikeStore$Store")]
def hset (h : ev_H) (k : Nat) (c : ev_C) : ev_H := (h.1, fun j => if j = k then c else h.2 j)
def hpush (h : ev_H) (c : ev_C) : ev_H := (h.1 + 1, fun j => if j = h.1 then c else h.2 j)
theorem hset_n (h : ev_H) (k : Nat) (c : ev_C) : (hset h k c).1 = h.1 := rfl
theorem hset_eq (h : ev_H) (k : Nat) (c : ev_C) : (hset h k c).2 k = c := by simp [hset]
theorem hset_ne (h : ev_H) {k j : Nat} (c : ev_C) (hj : j ≠ k) : (hset h k c).2 j = h.2 j := by simp [hset, hj]
theorem hpush_n (h : ev_H) (c : ev_C) : (hpush h c).1 = h.1 + 1 := rfl
theorem hpush_eq (h : ev_H) (c : ev_C) : (hpush h c).2 h.1 = c := by simp [hpush]
theorem hpush_ne (h : ev_H) {j : Nat} (c : ev_C) (hj : j ≠ h.1) : (hpush h c).2 j = h.2 j := by simp [hpush, hj]
/-- the machine's heap is the start's and our cells behind it -/
def ev_Rel (G : ev_G) (h : ev_H) (H : Heap) : Prop := H.size = G.2.1.size + h.1 ∧ h.1 ≤ ev_big ∧ (∀ q, q < G.2.1.size → H[q]? = G.2.1[q]?) ∧ ∀ k, k < h.1 → va_at G.2.2.1 vwCl (G.2.1.size + k, ev_trE G (h.2 k)) H
theorem ev_ad_lt {G : ev_G} {k n : Nat} (h : k < n) (hn : n ≤ ev_big) : ev_ad G k = G.2.1.size + k := if_pos (Nat.lt_of_lt_of_le h hn)
theorem ev_Rel.at {G : ev_G} {h : ev_H} {H : Heap} (r : ev_Rel G h H) {k : Nat} (hk : k < h.1) : va_at G.2.2.1 vwCl (ev_ad G k, ev_trE G (h.2 k)) H := by
  rw [ev_ad_lt hk r.2.1]; exact r.2.2.2 k hk
/-- one cell changed -/
theorem ev_Rel.put {G : ev_G} {h : ev_H} {H H1 : Heap} (r : ev_Rel G h H) {k : Nat} (hk : k < h.1) {c : ev_C} (he : va_at G.2.2.1 vwCl (ev_ad G k, ev_trE G c) H1) (z : H1.size = H.size) (oq : ∀ q, q ≠ ev_ad G k → H1[q]? = H[q]?) : ev_Rel G (hset h k c) H1 := by
  have e := ev_ad_lt (G := G) hk r.2.1
  rw [e] at he oq
  refine ⟨z.trans r.1, r.2.1, fun q hq => (oq q (by omega)).trans (r.2.2.1 q hq), fun j hj => ?_⟩
  by_cases hjk : j = k
  · subst hjk; rw [hset_eq]; exact he
  · rw [hset_ne h c hjk]
    exact (r.2.2.2 j hj).kept (oq _ (by show G.2.1.size + j ≠ _; omega))
/-- one cell more -/
theorem ev_Rel.push {G : ev_G} {h : ev_H} {H H1 : Heap} (r : ev_Rel G h H) (hb : h.1 < ev_big) {c : ev_C} (he : va_at G.2.2.1 vwCl (H.size, ev_trE G c) H1) (z : H1.size = H.size + 1) (oq : ∀ q, q < H.size → H1[q]? = H[q]?) : ev_Rel G (hpush h c) H1 := by
  refine ⟨by rw [z, r.1]; rfl, hb, fun q hq => (oq q (by rw [r.1]; omega)).trans (r.2.2.1 q hq), fun j hj => ?_⟩
  by_cases hjk : j = h.1
  · subst hjk; rw [hpush_eq, ← r.1]; exact he
  · have hj1 : j < h.1 := by have : j < h.1 + 1 := hj; omega
    rw [hpush_ne h c hjk]
    exact (r.2.2.2 j hj1).kept (oq _ (by show G.2.1.size + j < _; rw [r.1]; omega))
/-- no cell of ours, nor of the start's, changed -/
theorem ev_Rel.same {G : ev_G} {h : ev_H} {H H1 : Heap} (r : ev_Rel G h H) (e : H1 = H) : ev_Rel G h H1 := e ▸ r
/-! locals -/
def ev_unk : Value := .retAddr 0
def ev_known : Value → Bool
  | .retAddr _ => false
  | _ => true
def ev_prs (G : ev_G) (ls : List Value) : List (Nat × Value) := (List.range ls.length).filterMap fun i => match ls[i]? with
  | some v => if ev_known v then some (i, ev_tr G v) else none
  | none => none
def ev_L (G : ev_G) (nL : Nat) (A : Array Slot) (ls : List Value) : Prop := lv_has A nL (ev_prs G ls)
theorem ev_prs_in {G : ev_G} {ls : List Value} {q : Nat × Value} : q ∈ ev_prs G ls ↔ ∃ v, ls[q.1]? = some v ∧ ev_known v = true ∧ q.2 = ev_tr G v := by
  unfold ev_prs
  rw [List.mem_filterMap]
  constructor
  · rintro ⟨i, hi, h⟩
    split at h
    · next v hv =>
      split at h
      · next hk => cases h; exact ⟨v, hv, hk, rfl⟩
      · cases h
    · cases h
  · rintro ⟨v, hv, hk, e⟩
    obtain ⟨a, b⟩ := q
    have e : b = ev_tr G v := e
    subst e
    have hv : ls[a]? = some v := hv
    exact ⟨a, List.mem_range.mpr (List.getElem?_eq_some_iff.mp hv).1, by rw [hv]; simp [hk]⟩
theorem ev_L.get {G : ev_G} {nL : Nat} {A : Array Slot} {ls : List Value} (h : ev_L G nL A ls) {i : Nat} {v : Value} (hv : ls[i]? = some v) (hk : ev_known v = true) : A[i]? = some (.val (ev_tr G v)) :=
  h.2.2 (i, ev_tr G v) (ev_prs_in.mpr ⟨v, hv, hk, rfl⟩)
def ev_clr (ls : List Value) : Nat → List Value
  | 0 => ls
  | j + 1 => match ls[j]? with
    | some v => if v.category = 2 then ls.set j ev_unk else ls
    | none => ls
def ev_set1 (ls : List Value) (i : Nat) (v : Value) : List Value := (ev_clr ls i).set i v
def ev_set2 (ls : List Value) (i : Nat) (v : Value) : List Value := ((ev_clr ls i).set i v).set (i + 1) ev_unk
theorem ev_clr_get {ls : List Value} {i j : Nat} {w : Value} (h : (ev_clr ls i)[j]? = some w) (hk : ev_known w = true) : ls[j]? = some w ∧ ¬ (j + 1 = i ∧ w.category = 2) := by
  cases i with
  | zero => exact ⟨h, fun q => by omega⟩
  | succ i =>
    cases hv : ls[i]? with
    | none =>
      have h' : ls[j]? = some w := by simpa [ev_clr, hv] using h
      refine ⟨h', fun q => ?_⟩
      have e : j = i := by omega
      subst e
      rw [hv] at h'; cases h'
    | some v =>
      by_cases hc : v.category = 2
      · have h : (ls.set i ev_unk)[j]? = some w := by simpa [ev_clr, hv, hc] using h
        by_cases e : j = i
        · subst e
          rw [List.getElem?_set_self (List.getElem?_eq_some_iff.mp hv).1] at h
          cases h; exact absurd hk (by decide)
        · rw [List.getElem?_set_ne (fun q => e q.symm)] at h
          exact ⟨h, fun q => e (by omega)⟩
      · have h' : ls[j]? = some w := by simpa [ev_clr, hv, hc] using h
        refine ⟨h', fun q => ?_⟩
        have e : j = i := by omega
        subst e
        rw [hv] at h'; cases h'
        exact hc q.2
theorem ev_cat (G : ev_G) (v : Value) : (ev_tr G v).category = v.category := by cases v <;> rfl
theorem ev_L.set1 {G : ev_G} {nL : Nat} {A : Array Slot} {ls : List Value} (h : ev_L G nL A ls) {i : Nat} {v : Value} (hi : i < nL) (hc : v.category = 1) : ∃ A', storeLocals A i (ev_tr G v) = some A' ∧ ev_L G nL A' (ev_set1 ls i v) := by
  obtain ⟨A', e, h1⟩ := lv_store1 (v := ev_tr G v) h hi ((ev_cat G v).trans hc)
  refine ⟨A', e, h1.1, h1.2.1, fun q hq => h1.2.2 q ?_⟩
  obtain ⟨w, hw, hk, e2⟩ := ev_prs_in.mp hq
  obtain ⟨a, b⟩ := q
  have e2 : b = ev_tr G w := e2
  subst e2
  have hw : (ev_set1 ls i v)[a]? = some w := hw
  unfold ev_set1 at hw
  by_cases ha : a = i
  · subst ha
    have hl := (List.getElem?_eq_some_iff.mp hw).1
    rw [List.length_set] at hl
    rw [List.getElem?_set_self hl] at hw
    cases hw
    exact List.mem_cons_self
  · rw [List.getElem?_set_ne (fun q => ha q.symm)] at hw
    obtain ⟨g1, g2⟩ := ev_clr_get hw hk
    refine List.mem_cons_of_mem _ (List.mem_filter.mpr ⟨ev_prs_in.mpr ⟨w, g1, hk, rfl⟩, ?_⟩)
    simp only [ev_cat, Bool.and_eq_true, Bool.not_eq_true', beq_eq_false_iff_ne, Bool.and_eq_false_iff]
    refine ⟨ha, ?_⟩
    by_cases q1 : a + 1 = i
    · exact Or.inr fun q2 => g2 ⟨q1, q2⟩
    · exact Or.inl q1
theorem ev_L.set2 {G : ev_G} {nL : Nat} {A : Array Slot} {ls : List Value} (h : ev_L G nL A ls) {i : Nat} {v : Value} (hi : i + 1 < nL) (hc : v.category = 2) : ∃ A', storeLocals A i (ev_tr G v) = some A' ∧ ev_L G nL A' (ev_set2 ls i v) := by
  obtain ⟨A', e, h1⟩ := lv_store2 (v := ev_tr G v) h hi ((ev_cat G v).trans hc)
  refine ⟨A', e, h1.1, h1.2.1, fun q hq => h1.2.2 q ?_⟩
  obtain ⟨w, hw, hk, e2⟩ := ev_prs_in.mp hq
  obtain ⟨a, b⟩ := q
  have e2 : b = ev_tr G w := e2
  subst e2
  have hw : (ev_set2 ls i v)[a]? = some w := hw
  unfold ev_set2 at hw
  by_cases ha1 : a = i + 1
  · subst ha1
    have hl := (List.getElem?_eq_some_iff.mp hw).1
    rw [List.length_set] at hl
    rw [List.getElem?_set_self hl] at hw
    cases hw
    exact absurd hk (by decide)
  rw [List.getElem?_set_ne (fun q => ha1 q.symm)] at hw
  by_cases ha : a = i
  · subst ha
    have hl := (List.getElem?_eq_some_iff.mp hw).1
    rw [List.length_set] at hl
    rw [List.getElem?_set_self hl] at hw
    cases hw
    exact List.mem_cons_self
  · rw [List.getElem?_set_ne (fun q => ha q.symm)] at hw
    obtain ⟨g1, g2⟩ := ev_clr_get hw hk
    refine List.mem_cons_of_mem _ (List.mem_filter.mpr ⟨ev_prs_in.mpr ⟨w, g1, hk, rfl⟩, ?_⟩)
    simp only [ev_cat, Bool.and_eq_true, Bool.not_eq_true', beq_eq_false_iff_ne, Bool.and_eq_false_iff]
    refine ⟨ha, ha1, ?_⟩
    by_cases q1 : a + 1 = i
    · exact Or.inr fun q2 => g2 ⟨q1, q2⟩
    · exact Or.inl q1
