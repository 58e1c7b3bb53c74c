/-- what is not needed of the locals -/
def ev_wk : List Value → List Value → Prop
  | [], [] => True
  | a :: l, b :: l' => (b = ev_unk ∨ b = a) ∧ ev_wk l l'
  | _, _ => False
theorem ev_wk_get : ∀ {l l' : List Value}, ev_wk l l' → ∀ (i : Nat) (v : Value), l'[i]? = some v → ev_known v = true → l[i]? = some v
  | [], [], _, i, v, h, _ => by simp at h
  | a :: l, b :: l', ⟨h1, h2⟩, 0, v, h, hk => by
    simp at h; subst h
    rcases h1 with rfl | rfl
    · cases hk
    · rfl
  | a :: l, b :: l', ⟨h1, h2⟩, i + 1, v, h, hk => by
    have := ev_wk_get h2 i v (by simpa using h) hk
    simpa using this
theorem Ev.forget {G : ev_G} {d k n : Nat} {M : ev_M} {pc : Nat} {ls st ls' : List Value} {h : ev_H} {R : Option Value → ev_H → Prop} (hw : ev_wk ls ls') (hE : Ev G d k n M pc ls' st h R) : Ev G d k n M pc ls st h R :=
  fun p e Rm s m args below meth c Q hx h1 h2 hkk H locs cells slots A g1 g2 g3 g4 g5 => hE p e Rm s m args below meth c Q hx h1 h2 hkk H locs cells slots A g1 g2 g3 g4 ⟨g5.1, g5.2.1, fun q hq => by
    obtain ⟨v, hv, hk, e⟩ := ev_prs_in.mp hq
    exact g5.2.2 q (ev_prs_in.mpr ⟨v, ev_wk_get hw _ _ hv hk, hk, e⟩)⟩
/-! THE STORE: what an object of Store, and of Filter, is -/
/-- a step of a filter: kind, sign, place, bound, number -/
abbrev AStp : Type := Nat × Nat × Nat × Nat × Int64
/-- bits, parts, size, breadths, codes, tags, filter -/
abbrev AS : Type := Nat × Nat × Nat × (Nat → Nat) × (Nat → Int64) × (Nat → Nat) × List AStp
def sB (S : AS) : Nat := S.1
def sP (S : AS) : Nat := S.2.1
def sN (S : AS) : Nat := S.2.2.1
def sBr (S : AS) : Nat → Nat := S.2.2.2.1
def sCo (S : AS) : Nat → Int64 := S.2.2.2.2.1
def sTg (S : AS) : Nat → Nat := S.2.2.2.2.2.1
def sFl (S : AS) : List AStp := S.2.2.2.2.2.2
def sumT (f : Nat → Nat) : Nat → Nat
  | 0 => 0
  | n + 1 => sumT f n + f n
theorem sumT_mono (f : Nat → Nat) : ∀ {m n : Nat}, m ≤ n → sumT f m ≤ sumT f n := by
  intro m n h
  obtain ⟨k, rfl⟩ := Nat.exists_eq_add_of_le h
  clear h
  induction k with
  | zero => exact Nat.le_refl _
  | succ k ih => exact Nat.le_trans ih (Nat.le_add_right _ _)
theorem sumT_congr {f g : Nat → Nat} : ∀ {n : Nat}, (∀ k, k < n → f k = g k) → sumT f n = sumT g n
  | 0, _ => rfl
  | n + 1, h => by unfold sumT; rw [sumT_congr (fun k hk => h k (Nat.lt_succ_of_lt hk)), h n (Nat.lt_succ_self n)]
theorem sumT_le {f : Nat → Nat} {c : Nat} : ∀ {n : Nat}, (∀ k, k < n → f k ≤ c) → sumT f n ≤ n * c
  | 0, _ => by simp [sumT]
  | n + 1, h => by
    have := sumT_le (fun k hk => h k (Nat.lt_succ_of_lt hk))
    have := h n (Nat.lt_succ_self n)
    rw [Nat.succ_mul]; unfold sumT; omega
/-- the first below n that holds, or n -/
def fst (p : Nat → Bool) : Nat → Nat
  | 0 => 0
  | n + 1 => if fst p n < n then fst p n else if p n then n else n + 1
theorem fst_le (p : Nat → Bool) : ∀ n, fst p n ≤ n
  | 0 => Nat.le_refl _
  | n + 1 => by have := fst_le p n; unfold fst; split <;> (try split) <;> omega
theorem fst_no (p : Nat → Bool) : ∀ n j, j < fst p n → p j = false
  | 0, j, h => by unfold fst at h; omega
  | n + 1, j, h => by
    have ih := fst_no p n
    have hl := fst_le p n
    unfold fst at h
    by_cases q : fst p n < n
    · rw [if_pos q] at h; exact ih j h
    · rw [if_neg q] at h
      by_cases hp : p n = true
      · rw [if_pos hp] at h; exact ih j (by omega)
      · rw [if_neg hp] at h
        by_cases e : j = n
        · subst e; cases hq : p j
          · rfl
          · exact absurd hq hp
        · exact ih j (by omega)
theorem fst_yes (p : Nat → Bool) : ∀ n, fst p n < n → p (fst p n) = true
  | 0, h => by omega
  | n + 1, h => by
    have ih := fst_yes p n
    have hl := fst_le p n
    unfold fst at h ⊢
    by_cases q : fst p n < n
    · rw [if_pos q]; exact ih q
    · rw [if_neg q] at h ⊢
      by_cases hp : p n = true
      · rw [if_pos hp]; exact hp
      · rw [if_neg hp] at h; omega
theorem fst_eq {p : Nat → Bool} {n i : Nat} (hi : i < n) (hp : p i = true) (hn : ∀ j, j < i → p j = false) : fst p n = i := by
  have h1 := fst_le p n
  have h2 := fst_no p n
  have h3 := fst_yes p n
  rcases Nat.lt_trichotomy (fst p n) i with q | q | q
  · have := h3 (by omega); rw [hn _ q] at this; cases this
  · exact q
  · have := h2 i q; rw [hp] at this; cases this
theorem fst_none {p : Nat → Bool} {n : Nat} (hn : ∀ j, j < n → p j = false) : fst p n = n := by
  have h1 := fst_le p n
  have h3 := fst_yes p n
  rcases Nat.lt_or_ge (fst p n) n with q | q
  · have := h3 q; rw [hn _ q] at this; cases this
  · omega
theorem fst_congr {p q : Nat → Bool} : ∀ {n : Nat}, (∀ k, k < n → p k = q k) → fst p n = fst q n
  | 0, _ => rfl
  | n + 1, h => by unfold fst; rw [fst_congr (fun k hk => h k (Nat.lt_succ_of_lt hk)), h n (Nat.lt_succ_self n)]
/-- its number, or -1 -/
def frI (p : Nat → Bool) (n : Nat) : Int32 := if fst p n < n then nI (fst p n) else -1
theorem nl_self {n : Nat} (h : n < 2147483648) : ¬ nI n < nI n := nI_nlt (Nat.le_refl _) h
/-- what the rows of a store must keep to, for the machine's sake -/
def sOk (S : AS) : Prop := 4 ≤ sB S ∧ sB S ≤ 48 ∧ 1 ≤ sP S ∧ sP S ≤ 6 ∧ sN S ≤ 32 ∧ (∀ i, i < sP S → sBr S i ≤ 24) ∧ (∀ i, i < sN S → sTg S i ≤ 9) ∧ sumT (sBr S) (sP S) = sB S
def FiR (h : ev_H) (f : Nat) (fl : List AStp) : Prop := hat h f (oC 1 [.ref (f + 1), .ref (f + 2), .ref (f + 3), .ref (f + 4), .ref (f + 5)]) ∧ ∃ (ks ss ps bs : Nat → Int32) (frs : Nat → Int64), hat h (f + 1) (aI fl.length ks) ∧ hat h (f + 2) (aI fl.length ss) ∧ hat h (f + 3) (aI fl.length ps) ∧ hat h (f + 4) (aI fl.length bs) ∧ hat h (f + 5) (aL fl.length frs) ∧ ∀ i s, fl[i]? = some s → ks i = nI s.1 ∧ ss i = nI s.2.1 ∧ ps i = nI s.2.2.1 ∧ bs i = nI s.2.2.2.1 ∧ frs i = s.2.2.2.2
def FvR (h : ev_H) (fv : Value) (fl : List AStp) : Prop := (fl = [] ∧ fv = .null) ∨ (fl ≠ [] ∧ ∃ f, fv = .ref f ∧ 126 ≤ f ∧ FiR h f fl)
def StR (h : ev_H) (a : Nat) (S : AS) : Prop := ∃ (brf tgf : Nat → Int32) (cof : Nat → Int64) (fv : Value), hat h a (oC 6 [.int (nI (sB S)), .int (nI (sP S)), .ref (a + 1), .int (nI (sN S)), .ref (a + 2), .ref (a + 3), fv]) ∧ hat h (a + 1) (aI 6 brf) ∧ hat h (a + 2) (aL 32 cof) ∧ hat h (a + 3) (aI 32 tgf) ∧ (∀ i, i < sP S → brf i = nI (sBr S i)) ∧ (∀ i, i < sN S → cof i = sCo S i ∧ tgf i = nI (sTg S i)) ∧ FvR h fv (sFl S)
/-! loops that count up -/
theorem up_to {P : Nat → Prop} {N : Nat} (hs : ∀ i, i < N → P (i + 1) → P i) (hx : P N) : ∀ i, i ≤ N → P i := by
  intro i hi
  obtain ⟨k, rfl⟩ := Nat.exists_eq_add_of_le hi
  clear hi
  induction k generalizing i with
  | zero => exact hx
  | succ k ih => exact hs i (by omega) (ih (i + 1) (fun i hi h => hs i (by omega) (by exact h)) (by rw [show i + 1 + k = i + (k + 1) by omega]; exact hx))
theorem up0 {P : Nat → Prop} (N : Nat) (hs : ∀ i, i < N → P (i + 1) → P i) (hx : P N) : P 0 := up_to hs hx 0 (Nat.zero_le _)
theorem b2i_n0 {b : Bool} (h : ¬ b2i b = 0) : b = true := by cases b <;> simp_all [b2i]
theorem b2i_e0 {b : Bool} (h : b2i b = 0) : b = false := (b2i_0 b).mp h
theorem ixn {j n : Nat} (h : j < n) (hn : n < 2147483648) : ev_ix (nI j) j n := ⟨rfl, h, hn⟩
theorem setI_lt0 (p : Nat → Bool) : setI (fun j => decide (j < 0) && p j) = 0 := (setI_congr fun j _ => by simp).trans setI_0.symm
theorem setI_add (p : Nat → Bool) {i : Nat} (hi : i < 32) (hp : p i = true) : setI (fun j => decide (j < i) && p j) ||| (1 <<< (nI i &&& 31)) = setI (fun j => decide (j < i + 1) && p j) := by
  rw [setI_one hi, setI_or]
  refine setI_congr fun j _ => ?_
  by_cases e : j = i
  · subst e; simp [hp]
  · by_cases h : j < i
    · simp [h, e, Nat.lt_succ_of_lt h]
    · simp [h, e, show ¬ j < i + 1 by omega]
theorem setI_skip (p : Nat → Bool) {i : Nat} (hp : p i = false) : setI (fun j => decide (j < i) && p j) = setI (fun j => decide (j < i + 1) && p j) := by
  refine setI_congr fun j _ => ?_
  by_cases e : j = i
  · subst e; simp [hp]
  · by_cases h : j < i
    · simp [h, Nat.lt_succ_of_lt h]
    · simp [h, show ¬ j < i + 1 by omega]
theorem b_St_within_0 {G : ev_G} {d k n : Nat} {h : ev_H} {R : Option Value → ev_H → Prop} {x0 : Nat} {x1 : Int32} {x2 : Int64} {x4 : Int32}
  (k1 : Ev G (d + 2) k n M_St_within 6 [.ref x0, .int x1, .long x2, ev_unk, .int x4, .int (0 : Int32), .int (0 : Int32)] [] h R)
  : Ev G (d + 2) k n M_St_within 0 [.ref x0, .int x1, .long x2, ev_unk, .int x4, ev_unk, ev_unk] [] h R :=
  Ev.go (pc' := 6) (ls' := [.ref x0, .int x1, .long x2, ev_unk, .int x4, .int (0 : Int32), .int (0 : Int32)]) (st' := []) [.iconst 0, .istore 5, .iconst 0, .istore 6] (by decide +kernel) rfl <|
  k1
theorem b_St_within_6 {G : ev_G} {d k n : Nat} {h : ev_H} {R : Option Value → ev_H → Prop} {x0 : Nat} {x1 : Int32} {x2 : Int64} {x4 : Int32} {x5 : Int32} {x6 : Int32} {f_bits_1 : Int32} {f_parts_2 : Int32} {f_size_3 : Int32} {fv4 : Value} {g5 : Nat → Int64} {j6 : Nat}
  (a1 : hat h x0 (oC 6 [.int f_bits_1, .int f_parts_2, .ref (x0 + 1), .int f_size_3, .ref (x0 + 2), .ref (x0 + 3), fv4]))
  (a2 : hat h (x0 + 2) (aL 32 g5))
  (i3 : x6 < f_size_3 → ¬ (b2i (inI x1 x6)) = (0 : Int32) → ev_ix x6 j6 32)
  (k1 : x6 < f_size_3 → (b2i (inI x1 x6)) = (0 : Int32) → Ev G (d + 2) k n M_St_within 6 [.ref x0, .int x1, .long x2, ev_unk, .int x4, .int x5, .int (x6 + (1 : Int32))] [] h R)
  (k2 : x6 < f_size_3 → ¬ (b2i (inI x1 x6)) = (0 : Int32) → x4 < (nI (pop ((g5 j6) ^^^ x2))) → Ev G (d + 2) k n M_St_within 6 [.ref x0, .int x1, .long x2, ev_unk, .int x4, .int x5, .int (x6 + (1 : Int32))] [] h R)
  (k3 : x6 < f_size_3 → ¬ (b2i (inI x1 x6)) = (0 : Int32) → ¬ x4 < (nI (pop ((g5 j6) ^^^ x2))) → Ev G (d + 2) k n M_St_within 6 [.ref x0, .int x1, .long x2, ev_unk, .int x4, .int (x5 ||| ((1 : Int32) <<< (x6 &&& 31))), .int (x6 + (1 : Int32))] [] h R)
  (k4 : ¬ x6 < f_size_3 → R (some (.int x5)) h)
  : Ev G (d + 2) k n M_St_within 6 [.ref x0, .int x1, .long x2, ev_unk, .int x4, .int x5, .int x6] [] h R :=
  Ev.go (pc' := 9) (ls' := [.ref x0, .int x1, .long x2, ev_unk, .int x4, .int x5, .int x6]) (st' := [.ref x0, .int x6]) [.iload 6, .aload_n 0] (by decide +kernel) rfl <|
  Ev.getf f_St_22 (by decide +kernel) a1 rfl <|
  Ev.br (i := .if_icmp .ge (43)) (P := x6 < f_size_3) (t := 15) (f := 55) (r := []) (by decide +kernel) rfl (fun c1 =>
    Ev.go (pc' := 18) (ls' := [.ref x0, .int x1, .long x2, ev_unk, .int x4, .int x5, .int x6]) (st' := [.int x6, .int x1]) [.iload_n 1, .iload 6] (by decide +kernel) rfl <|
    Ev.cSN0 (M' := M_X_isIn) (as := [.int x1, .int x6]) (rest := []) l_St_65 M_X_isIn_ok M_X_isIn_st (by decide +kernel) rfl rfl (Nat.le_of_ble_eq_true rfl) (Nat.le_of_ble_eq_true rfl) (s_X_isIn <| show Ev G (d + 2) _ _ M_St_within 21 [.ref x0, .int x1, .long x2, ev_unk, .int x4, .int x5, .int x6] [.int (b2i (inI x1 x6))] h R from
      Ev.br (i := .ifCond .eq (28)) (P := (b2i (inI x1 x6)) = (0 : Int32)) (t := 49) (f := 24) (r := []) (by decide +kernel) rfl (fun c2 =>
        Ev.go (pc' := 6) (ls' := [.ref x0, .int x1, .long x2, ev_unk, .int x4, .int x5, .int (x6 + (1 : Int32))]) (st' := []) [.iinc 6 (1), .goto (-46)] (by decide +kernel) rfl <|
        (k1 c1 c2)
      ) (fun c2 =>
        Ev.go (pc' := 25) (ls' := [.ref x0, .int x1, .long x2, ev_unk, .int x4, .int x5, .int x6]) (st' := [.ref x0]) [.aload_n 0] (by decide +kernel) rfl <|
        Ev.getf f_St_25 (by decide +kernel) a1 rfl <|
        Ev.go (pc' := 30) (ls' := [.ref x0, .int x1, .long x2, ev_unk, .int x4, .int x5, .int x6]) (st' := [.int x6, .ref (x0 + 2)]) [.iload 6] (by decide +kernel) rfl <|
        Ev.lald (j := j6) (by decide +kernel) a2 (i3 c1 c2) <|
        Ev.go (pc' := 32) (ls' := [.ref x0, .int x1, .long x2, ev_unk, .int x4, .int x5, .int x6]) (st' := [.long x2, .long (g5 j6)]) [.lload_n 2] (by decide +kernel) rfl <|
        Ev.cSN0 (M' := M_X_unlike) (as := [.long (g5 j6), .long x2]) (rest := []) l_St_69 M_X_unlike_ok M_X_unlike_st (by decide +kernel) rfl rfl (Nat.le_of_ble_eq_true rfl) (Nat.le_of_ble_eq_true rfl) (s_X_unlike <| show Ev G (d + 2) _ _ M_St_within 35 [.ref x0, .int x1, .long x2, ev_unk, .int x4, .int x5, .int x6] [.int (nI (pop ((g5 j6) ^^^ x2)))] h R from
          Ev.go (pc' := 37) (ls' := [.ref x0, .int x1, .long x2, ev_unk, .int x4, .int x5, .int x6]) (st' := [.int x4, .int (nI (pop ((g5 j6) ^^^ x2)))]) [.iload 4] (by decide +kernel) rfl <|
          Ev.br (i := .if_icmp .gt (12)) (P := x4 < (nI (pop ((g5 j6) ^^^ x2)))) (t := 49) (f := 40) (r := []) (by decide +kernel) rfl (fun c3 =>
            Ev.go (pc' := 6) (ls' := [.ref x0, .int x1, .long x2, ev_unk, .int x4, .int x5, .int (x6 + (1 : Int32))]) (st' := []) [.iinc 6 (1), .goto (-46)] (by decide +kernel) rfl <|
            (k2 c1 c2 c3)
          ) (fun c3 =>
            Ev.go (pc' := 6) (ls' := [.ref x0, .int x1, .long x2, ev_unk, .int x4, .int (x5 ||| ((1 : Int32) <<< (x6 &&& 31))), .int (x6 + (1 : Int32))]) (st' := []) [.iload 5, .iconst 1, .iload 6, .ishl, .ior, .istore 5, .iinc 6 (1), .goto (-46)] (by decide +kernel) rfl <|
            (k3 c1 c2 c3)
          )
        )
      )
    )
  ) (fun c1 =>
    Ev.go (pc' := 57) (ls' := [.ref x0, .int x1, .long x2, ev_unk, .int x4, .int x5, .int x6]) (st' := [.int x5]) [.iload 5] (by decide +kernel) rfl <|
    Ev.ret (r := (some (.int x5))) (Or.inl ⟨_, rfl, by decide +kernel, _, rfl, rfl⟩) (k4 c1)
  )
theorem b_St_whereIs_0 {G : ev_G} {d k n : Nat} {h : ev_H} {R : Option Value → ev_H → Prop} {x0 : Nat} {x1 : Int64}
  (k1 : Ev G d k n M_St_whereIs 2 [.ref x0, .long x1, ev_unk, .int (0 : Int32)] [] h R)
  : Ev G d k n M_St_whereIs 0 [.ref x0, .long x1, ev_unk, ev_unk] [] h R :=
  Ev.go (pc' := 2) (ls' := [.ref x0, .long x1, ev_unk, .int (0 : Int32)]) (st' := []) [.iconst 0, .istore_n 3] (by decide +kernel) rfl <|
  k1
theorem b_St_whereIs_2 {G : ev_G} {d k n : Nat} {h : ev_H} {R : Option Value → ev_H → Prop} {x0 : Nat} {x1 : Int64} {x3 : Int32} {f_bits_1 : Int32} {f_parts_2 : Int32} {f_size_3 : Int32} {fv4 : Value} {g5 : Nat → Int64} {j6 : Nat}
  (a1 : hat h x0 (oC 6 [.int f_bits_1, .int f_parts_2, .ref (x0 + 1), .int f_size_3, .ref (x0 + 2), .ref (x0 + 3), fv4]))
  (a2 : hat h (x0 + 2) (aL 32 g5))
  (i3 : x3 < f_size_3 → ev_ix x3 j6 32)
  (k1 : x3 < f_size_3 → (g5 j6) = x1 → R (some (.int x3)) h)
  (k2 : x3 < f_size_3 → ¬ (g5 j6) = x1 → Ev G d k n M_St_whereIs 2 [.ref x0, .long x1, ev_unk, .int (x3 + (1 : Int32))] [] h R)
  (k3 : ¬ x3 < f_size_3 → R (some (.int (-1 : Int32))) h)
  : Ev G d k n M_St_whereIs 2 [.ref x0, .long x1, ev_unk, .int x3] [] h R :=
  Ev.go (pc' := 4) (ls' := [.ref x0, .long x1, ev_unk, .int x3]) (st' := [.ref x0, .int x3]) [.iload_n 3, .aload_n 0] (by decide +kernel) rfl <|
  Ev.getf f_St_22 (by decide +kernel) a1 rfl <|
  Ev.br (i := .if_icmp .ge (22)) (P := x3 < f_size_3) (t := 10) (f := 29) (r := []) (by decide +kernel) rfl (fun c1 =>
    Ev.go (pc' := 11) (ls' := [.ref x0, .long x1, ev_unk, .int x3]) (st' := [.ref x0]) [.aload_n 0] (by decide +kernel) rfl <|
    Ev.getf f_St_25 (by decide +kernel) a1 rfl <|
    Ev.go (pc' := 15) (ls' := [.ref x0, .long x1, ev_unk, .int x3]) (st' := [.int x3, .ref (x0 + 2)]) [.iload_n 3] (by decide +kernel) rfl <|
    Ev.lald (j := j6) (by decide +kernel) a2 (i3 c1) <|
    Ev.go (pc' := 17) (ls' := [.ref x0, .long x1, ev_unk, .int x3]) (st' := [.long x1, .long (g5 j6)]) [.lload_n 1] (by decide +kernel) rfl <|
    Ev.brl (c := .ne) (o := 5) (P := (g5 j6) = x1) (t := 21) (f := 23) (t1 := 23) (by decide +kernel) (by decide +kernel) rfl rfl (fun c2 =>
      Ev.go (pc' := 22) (ls' := [.ref x0, .long x1, ev_unk, .int x3]) (st' := [.int x3]) [.iload_n 3] (by decide +kernel) rfl <|
      Ev.ret (r := (some (.int x3))) (Or.inl ⟨_, rfl, by decide +kernel, _, rfl, rfl⟩) (k1 c1 c2)
    ) (fun c2 =>
      Ev.go (pc' := 2) (ls' := [.ref x0, .long x1, ev_unk, .int (x3 + (1 : Int32))]) (st' := []) [.iinc 3 (1), .goto (-24)] (by decide +kernel) rfl <|
      (k2 c1 c2)
    )
  ) (fun c1 =>
    Ev.go (pc' := 30) (ls' := [.ref x0, .long x1, ev_unk, .int x3]) (st' := [.int (-1 : Int32)]) [.iconst (-1)] (by decide +kernel) rfl <|
    Ev.ret (r := (some (.int (-1 : Int32)))) (Or.inl ⟨_, rfl, by decide +kernel, _, rfl, rfl⟩) (k3 c1)
  )
theorem b_St_keyOf_0 {G : ev_G} {d k n : Nat} {h : ev_H} {R : Option Value → ev_H → Prop} {x0 : Nat} {x1 : Int32} {x2 : Int32}
  (k1 : Ev G d k n M_St_keyOf 5 [.ref x0, .int x1, .int x2, .int (0 : Int32), .int (0 : Int32)] [] h R)
  : Ev G d k n M_St_keyOf 0 [.ref x0, .int x1, .int x2, ev_unk, ev_unk] [] h R :=
  Ev.go (pc' := 5) (ls' := [.ref x0, .int x1, .int x2, .int (0 : Int32), .int (0 : Int32)]) (st' := []) [.iconst 0, .istore_n 3, .iconst 0, .istore 4] (by decide +kernel) rfl <|
  k1
theorem b_St_keyOf_5 {G : ev_G} {d k n : Nat} {h : ev_H} {R : Option Value → ev_H → Prop} {x0 : Nat} {x1 : Int32} {x2 : Int32} {x3 : Int32} {x4 : Int32} {f_bits_1 : Int32} {f_parts_2 : Int32} {f_size_3 : Int32} {fv4 : Value} {g5 : Nat → Int32} {j6 : Nat} {g7 : Nat → Int64} {j8 : Nat} {j9 : Nat}
  (a1 : hat h x0 (oC 6 [.int f_bits_1, .int f_parts_2, .ref (x0 + 1), .int f_size_3, .ref (x0 + 2), .ref (x0 + 3), fv4]))
  (a2 : hat h (x0 + 1) (aI 6 g5))
  (a4 : hat h (x0 + 2) (aL 32 g7))
  (i3 : x4 < x2 → ev_ix x4 j6 6)
  (i5 : ¬ x4 < x2 → ev_ix x1 j8 32)
  (i6 : ¬ x4 < x2 → ev_ix x2 j9 6)
  (k1 : x4 < x2 → Ev G d k n M_St_keyOf 5 [.ref x0, .int x1, .int x2, .int (x3 + (g5 j6)), .int (x4 + (1 : Int32))] [] h R)
  (k2 : ¬ x4 < x2 → R (some (.int ((((g7 j8).toUInt64 >>> (x3.toInt64.toUInt64 &&& Int64.toUInt64 63)).toInt64) &&& (((1 : Int64) <<< ((g5 j9).toInt64 &&& 63)) - (1 : Int64))).toInt32)) h)
  : Ev G d k n M_St_keyOf 5 [.ref x0, .int x1, .int x2, .int x3, .int x4] [] h R :=
  Ev.go (pc' := 8) (ls' := [.ref x0, .int x1, .int x2, .int x3, .int x4]) (st' := [.int x2, .int x4]) [.iload 4, .iload_n 2] (by decide +kernel) rfl <|
  Ev.br (i := .if_icmp .ge (19)) (P := x4 < x2) (t := 11) (f := 27) (r := []) (by decide +kernel) rfl (fun c1 =>
    Ev.go (pc' := 13) (ls' := [.ref x0, .int x1, .int x2, .int x3, .int x4]) (st' := [.ref x0, .int x3]) [.iload_n 3, .aload_n 0] (by decide +kernel) rfl <|
    Ev.getf f_St_18 (by decide +kernel) a1 rfl <|
    Ev.go (pc' := 18) (ls' := [.ref x0, .int x1, .int x2, .int x3, .int x4]) (st' := [.int x4, .ref (x0 + 1), .int x3]) [.iload 4] (by decide +kernel) rfl <|
    Ev.iald (j := j6) (by decide +kernel) a2 (i3 c1) <|
    Ev.go (pc' := 5) (ls' := [.ref x0, .int x1, .int x2, .int (x3 + (g5 j6)), .int (x4 + (1 : Int32))]) (st' := []) [.iadd, .istore_n 3, .iinc 4 (1), .goto (-19)] (by decide +kernel) rfl <|
    (k1 c1)
  ) (fun c1 =>
    Ev.go (pc' := 28) (ls' := [.ref x0, .int x1, .int x2, .int x3, .int x4]) (st' := [.ref x0]) [.aload_n 0] (by decide +kernel) rfl <|
    Ev.getf f_St_25 (by decide +kernel) a1 rfl <|
    Ev.go (pc' := 32) (ls' := [.ref x0, .int x1, .int x2, .int x3, .int x4]) (st' := [.int x1, .ref (x0 + 2)]) [.iload_n 1] (by decide +kernel) rfl <|
    Ev.lald (j := j8) (by decide +kernel) a4 (i5 c1) <|
    Ev.go (pc' := 37) (ls' := [.ref x0, .int x1, .int x2, .int x3, .int x4]) (st' := [.ref x0, .long (1 : Int64), .long (((g7 j8).toUInt64 >>> (x3.toInt64.toUInt64 &&& Int64.toUInt64 63)).toInt64)]) [.iload_n 3, .lushr, .lconst 1, .aload_n 0] (by decide +kernel) rfl <|
    Ev.getf f_St_18 (by decide +kernel) a1 rfl <|
    Ev.go (pc' := 41) (ls' := [.ref x0, .int x1, .int x2, .int x3, .int x4]) (st' := [.int x2, .ref (x0 + 1), .long (1 : Int64), .long (((g7 j8).toUInt64 >>> (x3.toInt64.toUInt64 &&& Int64.toUInt64 63)).toInt64)]) [.iload_n 2] (by decide +kernel) rfl <|
    Ev.iald (j := j9) (by decide +kernel) a2 (i6 c1) <|
    Ev.go (pc' := 47) (ls' := [.ref x0, .int x1, .int x2, .int x3, .int x4]) (st' := [.int ((((g7 j8).toUInt64 >>> (x3.toInt64.toUInt64 &&& Int64.toUInt64 63)).toInt64) &&& (((1 : Int64) <<< ((g5 j9).toInt64 &&& 63)) - (1 : Int64))).toInt32]) [.lshl, .lconst 1, .lsub, .land, .l2i] (by decide +kernel) rfl <|
    Ev.ret (r := (some (.int ((((g7 j8).toUInt64 >>> (x3.toInt64.toUInt64 &&& Int64.toUInt64 63)).toInt64) &&& (((1 : Int64) <<< ((g5 j9).toInt64 &&& 63)) - (1 : Int64))).toInt32))) (Or.inl ⟨_, rfl, by decide +kernel, _, rfl, rfl⟩) (k2 c1)
  )
theorem b_St_all_0 {G : ev_G} {d k n : Nat} {h : ev_H} {R : Option Value → ev_H → Prop} {x0 : Nat} {f_bits_1 : Int32} {f_parts_2 : Int32} {f_size_3 : Int32} {fv4 : Value}
  (a1 : hat h x0 (oC 6 [.int f_bits_1, .int f_parts_2, .ref (x0 + 1), .int f_size_3, .ref (x0 + 2), .ref (x0 + 3), fv4]))
  (k1 : f_size_3 = (32 : Int32) → R (some (.int (-1 : Int32))) h)
  (k2 : ¬ f_size_3 = (32 : Int32) → R (some (.int (((1 : Int32) <<< (f_size_3 &&& 31)) - (1 : Int32)))) h)
  : Ev G d k n M_St_all 0 [.ref x0] [] h R :=
  Ev.go (pc' := 1) (ls' := [.ref x0]) (st' := [.ref x0]) [.aload_n 0] (by decide +kernel) rfl <|
  Ev.getf f_St_22 (by decide +kernel) a1 rfl <|
  Ev.go (pc' := 6) (ls' := [.ref x0]) (st' := [.int (32 : Int32), .int f_size_3]) [.bipush (32)] (by decide +kernel) rfl <|
  Ev.br (i := .if_icmp .ne (7)) (P := f_size_3 = (32 : Int32)) (t := 9) (f := 13) (r := []) (by decide +kernel) rfl (fun c1 =>
    Ev.go (pc' := 21) (ls' := [.ref x0]) (st' := [.int (-1 : Int32)]) [.iconst (-1), .goto (11)] (by decide +kernel) rfl <|
    Ev.ret (r := (some (.int (-1 : Int32)))) (Or.inl ⟨_, rfl, by decide +kernel, _, rfl, rfl⟩) (k1 c1)
  ) (fun c1 =>
    Ev.go (pc' := 15) (ls' := [.ref x0]) (st' := [.ref x0, .int (1 : Int32)]) [.iconst 1, .aload_n 0] (by decide +kernel) rfl <|
    Ev.getf f_St_22 (by decide +kernel) a1 rfl <|
    Ev.go (pc' := 21) (ls' := [.ref x0]) (st' := [.int (((1 : Int32) <<< (f_size_3 &&& 31)) - (1 : Int32))]) [.ishl, .iconst 1, .isub] (by decide +kernel) rfl <|
    Ev.ret (r := (some (.int (((1 : Int32) <<< (f_size_3 &&& 31)) - (1 : Int32))))) (Or.inl ⟨_, rfl, by decide +kernel, _, rfl, rfl⟩) (k2 c1)
  )
theorem b_St_onesAt_0 {G : ev_G} {d k n : Nat} {h : ev_H} {R : Option Value → ev_H → Prop} {x0 : Nat} {x1 : Int32} {x2 : Int32}
  (k1 : Ev G (d + 1) k n M_St_onesAt 5 [.ref x0, .int x1, .int x2, .int (0 : Int32), .int (0 : Int32)] [] h R)
  : Ev G (d + 1) k n M_St_onesAt 0 [.ref x0, .int x1, .int x2, ev_unk, ev_unk] [] h R :=
  Ev.go (pc' := 5) (ls' := [.ref x0, .int x1, .int x2, .int (0 : Int32), .int (0 : Int32)]) (st' := []) [.iconst 0, .istore_n 3, .iconst 0, .istore 4] (by decide +kernel) rfl <|
  k1
theorem b_St_onesAt_5 {G : ev_G} {d k n : Nat} {h : ev_H} {R : Option Value → ev_H → Prop} {x0 : Nat} {x1 : Int32} {x2 : Int32} {x3 : Int32} {x4 : Int32} {f_bits_1 : Int32} {f_parts_2 : Int32} {f_size_3 : Int32} {fv4 : Value} {g5 : Nat → Int64} {j6 : Nat}
  (a1 : hat h x0 (oC 6 [.int f_bits_1, .int f_parts_2, .ref (x0 + 1), .int f_size_3, .ref (x0 + 2), .ref (x0 + 3), fv4]))
  (a2 : hat h (x0 + 2) (aL 32 g5))
  (i3 : x4 < f_size_3 → ¬ (b2i (inI x1 x4)) = (0 : Int32) → ev_ix x4 j6 32)
  (k1 : x4 < f_size_3 → (b2i (inI x1 x4)) = (0 : Int32) → Ev G (d + 1) k n M_St_onesAt 5 [.ref x0, .int x1, .int x2, .int x3, .int (x4 + (1 : Int32))] [] h R)
  (k2 : x4 < f_size_3 → ¬ (b2i (inI x1 x4)) = (0 : Int32) → Ev G (d + 1) k n M_St_onesAt 5 [.ref x0, .int x1, .int x2, .int (x3 + (b2i (tbL (g5 j6) x2))), .int (x4 + (1 : Int32))] [] h R)
  (k3 : ¬ x4 < f_size_3 → R (some (.int x3)) h)
  : Ev G (d + 1) k n M_St_onesAt 5 [.ref x0, .int x1, .int x2, .int x3, .int x4] [] h R :=
  Ev.go (pc' := 8) (ls' := [.ref x0, .int x1, .int x2, .int x3, .int x4]) (st' := [.ref x0, .int x4]) [.iload 4, .aload_n 0] (by decide +kernel) rfl <|
  Ev.getf f_St_22 (by decide +kernel) a1 rfl <|
  Ev.br (i := .if_icmp .ge (32)) (P := x4 < f_size_3) (t := 14) (f := 43) (r := []) (by decide +kernel) rfl (fun c1 =>
    Ev.go (pc' := 17) (ls' := [.ref x0, .int x1, .int x2, .int x3, .int x4]) (st' := [.int x4, .int x1]) [.iload_n 1, .iload 4] (by decide +kernel) rfl <|
    Ev.cSN0 (M' := M_X_isIn) (as := [.int x1, .int x4]) (rest := []) l_St_65 M_X_isIn_ok M_X_isIn_st (by decide +kernel) rfl rfl (Nat.le_of_ble_eq_true rfl) (Nat.le_of_ble_eq_true rfl) (s_X_isIn <| show Ev G (d + 1) _ _ M_St_onesAt 20 [.ref x0, .int x1, .int x2, .int x3, .int x4] [.int (b2i (inI x1 x4))] h R from
      Ev.br (i := .ifCond .eq (17)) (P := (b2i (inI x1 x4)) = (0 : Int32)) (t := 37) (f := 23) (r := []) (by decide +kernel) rfl (fun c2 =>
        Ev.go (pc' := 5) (ls' := [.ref x0, .int x1, .int x2, .int x3, .int (x4 + (1 : Int32))]) (st' := []) [.iinc 4 (1), .goto (-35)] (by decide +kernel) rfl <|
        (k1 c1 c2)
      ) (fun c2 =>
        Ev.go (pc' := 25) (ls' := [.ref x0, .int x1, .int x2, .int x3, .int x4]) (st' := [.ref x0, .int x3]) [.iload_n 3, .aload_n 0] (by decide +kernel) rfl <|
        Ev.getf f_St_25 (by decide +kernel) a1 rfl <|
        Ev.go (pc' := 30) (ls' := [.ref x0, .int x1, .int x2, .int x3, .int x4]) (st' := [.int x4, .ref (x0 + 2), .int x3]) [.iload 4] (by decide +kernel) rfl <|
        Ev.lald (j := j6) (by decide +kernel) a2 (i3 c1 c2) <|
        Ev.go (pc' := 32) (ls' := [.ref x0, .int x1, .int x2, .int x3, .int x4]) (st' := [.int x2, .long (g5 j6), .int x3]) [.iload_n 2] (by decide +kernel) rfl <|
        Ev.cSN0 (M' := M_X_bitOf) (as := [.long (g5 j6), .int x2]) (rest := [.int x3]) l_St_45 M_X_bitOf_ok M_X_bitOf_st (by decide +kernel) rfl rfl (Nat.le_of_ble_eq_true rfl) (Nat.le_of_ble_eq_true rfl) (s_X_bitOf <| show Ev G (d + 1) _ _ M_St_onesAt 35 [.ref x0, .int x1, .int x2, .int x3, .int x4] [.int (b2i (tbL (g5 j6) x2)), .int x3] h R from
          Ev.go (pc' := 5) (ls' := [.ref x0, .int x1, .int x2, .int (x3 + (b2i (tbL (g5 j6) x2))), .int (x4 + (1 : Int32))]) (st' := []) [.iadd, .istore_n 3, .iinc 4 (1), .goto (-35)] (by decide +kernel) rfl <|
          (k2 c1 c2)
        )
      )
    )
  ) (fun c1 =>
    Ev.go (pc' := 44) (ls' := [.ref x0, .int x1, .int x2, .int x3, .int x4]) (st' := [.int x3]) [.iload_n 3] (by decide +kernel) rfl <|
    Ev.ret (r := (some (.int x3))) (Or.inl ⟨_, rfl, by decide +kernel, _, rfl, rfl⟩) (k3 c1)
  )
theorem b_St_farFromAll_0 {G : ev_G} {d k n : Nat} {h : ev_H} {R : Option Value → ev_H → Prop} {x0 : Nat} {x1 : Int32} {x2 : Int64}
  (k1 : Ev G (d + 2) k n M_St_farFromAll 6 [.ref x0, .int x1, .long x2, ev_unk, .int (0 : Int32), .int (0 : Int32)] [] h R)
  : Ev G (d + 2) k n M_St_farFromAll 0 [.ref x0, .int x1, .long x2, ev_unk, ev_unk, ev_unk] [] h R :=
  Ev.go (pc' := 6) (ls' := [.ref x0, .int x1, .long x2, ev_unk, .int (0 : Int32), .int (0 : Int32)]) (st' := []) [.iconst 0, .istore 4, .iconst 0, .istore 5] (by decide +kernel) rfl <|
  k1
theorem b_St_farFromAll_6 {G : ev_G} {d k n : Nat} {h : ev_H} {R : Option Value → ev_H → Prop} {x0 : Nat} {x1 : Int32} {x2 : Int64} {x4 : Int32} {x5 : Int32} {f_bits_1 : Int32} {f_parts_2 : Int32} {f_size_3 : Int32} {fv4 : Value} {g5 : Nat → Int64} {j6 : Nat}
  (a1 : hat h x0 (oC 6 [.int f_bits_1, .int f_parts_2, .ref (x0 + 1), .int f_size_3, .ref (x0 + 2), .ref (x0 + 3), fv4]))
  (a2 : hat h (x0 + 2) (aL 32 g5))
  (i3 : x5 < f_size_3 → ¬ (b2i (inI x1 x5)) = (0 : Int32) → ev_ix x5 j6 32)
  (k1 : x5 < f_size_3 → (b2i (inI x1 x5)) = (0 : Int32) → Ev G (d + 2) k n M_St_farFromAll 6 [.ref x0, .int x1, .long x2, ev_unk, .int x4, .int (x5 + (1 : Int32))] [] h R)
  (k2 : x5 < f_size_3 → ¬ (b2i (inI x1 x5)) = (0 : Int32) → Ev G (d + 2) k n M_St_farFromAll 6 [.ref x0, .int x1, .long x2, ev_unk, .int (x4 + (nI (pop ((g5 j6) ^^^ x2)))), .int (x5 + (1 : Int32))] [] h R)
  (k3 : ¬ x5 < f_size_3 → R (some (.int x4)) h)
  : Ev G (d + 2) k n M_St_farFromAll 6 [.ref x0, .int x1, .long x2, ev_unk, .int x4, .int x5] [] h R :=
  Ev.go (pc' := 9) (ls' := [.ref x0, .int x1, .long x2, ev_unk, .int x4, .int x5]) (st' := [.ref x0, .int x5]) [.iload 5, .aload_n 0] (by decide +kernel) rfl <|
  Ev.getf f_St_22 (by decide +kernel) a1 rfl <|
  Ev.br (i := .if_icmp .ge (34)) (P := x5 < f_size_3) (t := 15) (f := 46) (r := []) (by decide +kernel) rfl (fun c1 =>
    Ev.go (pc' := 18) (ls' := [.ref x0, .int x1, .long x2, ev_unk, .int x4, .int x5]) (st' := [.int x5, .int x1]) [.iload_n 1, .iload 5] (by decide +kernel) rfl <|
    Ev.cSN0 (M' := M_X_isIn) (as := [.int x1, .int x5]) (rest := []) l_St_65 M_X_isIn_ok M_X_isIn_st (by decide +kernel) rfl rfl (Nat.le_of_ble_eq_true rfl) (Nat.le_of_ble_eq_true rfl) (s_X_isIn <| show Ev G (d + 2) _ _ M_St_farFromAll 21 [.ref x0, .int x1, .long x2, ev_unk, .int x4, .int x5] [.int (b2i (inI x1 x5))] h R from
      Ev.br (i := .ifCond .eq (19)) (P := (b2i (inI x1 x5)) = (0 : Int32)) (t := 40) (f := 24) (r := []) (by decide +kernel) rfl (fun c2 =>
        Ev.go (pc' := 6) (ls' := [.ref x0, .int x1, .long x2, ev_unk, .int x4, .int (x5 + (1 : Int32))]) (st' := []) [.iinc 5 (1), .goto (-37)] (by decide +kernel) rfl <|
        (k1 c1 c2)
      ) (fun c2 =>
        Ev.go (pc' := 27) (ls' := [.ref x0, .int x1, .long x2, ev_unk, .int x4, .int x5]) (st' := [.ref x0, .int x4]) [.iload 4, .aload_n 0] (by decide +kernel) rfl <|
        Ev.getf f_St_25 (by decide +kernel) a1 rfl <|
        Ev.go (pc' := 32) (ls' := [.ref x0, .int x1, .long x2, ev_unk, .int x4, .int x5]) (st' := [.int x5, .ref (x0 + 2), .int x4]) [.iload 5] (by decide +kernel) rfl <|
        Ev.lald (j := j6) (by decide +kernel) a2 (i3 c1 c2) <|
        Ev.go (pc' := 34) (ls' := [.ref x0, .int x1, .long x2, ev_unk, .int x4, .int x5]) (st' := [.long x2, .long (g5 j6), .int x4]) [.lload_n 2] (by decide +kernel) rfl <|
        Ev.cSN0 (M' := M_X_unlike) (as := [.long (g5 j6), .long x2]) (rest := [.int x4]) l_St_69 M_X_unlike_ok M_X_unlike_st (by decide +kernel) rfl rfl (Nat.le_of_ble_eq_true rfl) (Nat.le_of_ble_eq_true rfl) (s_X_unlike <| show Ev G (d + 2) _ _ M_St_farFromAll 37 [.ref x0, .int x1, .long x2, ev_unk, .int x4, .int x5] [.int (nI (pop ((g5 j6) ^^^ x2))), .int x4] h R from
          Ev.go (pc' := 6) (ls' := [.ref x0, .int x1, .long x2, ev_unk, .int (x4 + (nI (pop ((g5 j6) ^^^ x2)))), .int (x5 + (1 : Int32))]) (st' := []) [.iadd, .istore 4, .iinc 5 (1), .goto (-37)] (by decide +kernel) rfl <|
          (k2 c1 c2)
        )
      )
    )
  ) (fun c1 =>
    Ev.go (pc' := 48) (ls' := [.ref x0, .int x1, .long x2, ev_unk, .int x4, .int x5]) (st' := [.int x4]) [.iload 4] (by decide +kernel) rfl <|
    Ev.ret (r := (some (.int x4))) (Or.inl ⟨_, rfl, by decide +kernel, _, rfl, rfl⟩) (k3 c1)
  )
section S14
variable {G : ev_G} {d : Nat} {h : ev_H} {R : Option Value → ev_H → Prop} {a : Nat} {S : AS}
/-- near: counted in p, no more than r far -/
def nrP (S : AS) (p : Nat → Bool) (num : Int64) (r : Nat) (j : Nat) : Bool := decide (j < sN S) && p j && decide (pop (sCo S j ^^^ num) ≤ r)
theorem s_St_within (hS : StR h a S) (ok : sOk S) {set : Int32} {num : Int64} {r : Nat} (hr : r < 2147483648) (hR : R (some (.int (setI (nrP S (bt set) num r)))) h) : Ev G (d + 2) 0 0 M_St_within 0 [.ref a, .int set, .long num, ev_unk, .int (nI r), ev_unk, ev_unk] [] h R := by
  obtain ⟨brf, tgf, cof, fv, h1, h2, h3, h4, e1, e2, -⟩ := hS
  have hz := ok.2.2.2.2.1
  have key : ∀ i, i < sN S → nrP S (bt set) num r i = (bt set i && decide (pop (cof i ^^^ num) ≤ r)) := fun i hi => by unfold nrP; rw [decide_eq_true hi, Bool.true_and, (e2 i hi).1]
  refine b_St_within_0 ?_
  have := up0 (P := fun i => Ev G (d + 2) 0 0 M_St_within 6 [.ref a, .int set, .long num, ev_unk, .int (nI r), .int (setI (fun j => decide (j < i) && nrP S (bt set) num r j)), .int (nI i)] [] h R) (sN S) ?_ ?_
  · rw [setI_lt0] at this
    exact this
  · intro i hi ih
    have hl : nI i < nI (sN S) := nI_lt hi (by omega)
    refine b_St_within_6 h1 h3 (fun _ _ => ixn (by omega) (by decide)) (fun _ c => ?_) (fun _ c c2 => ?_) (fun _ c c2 => ?_) (fun c => absurd hl c)
    · rw [inI_n (by omega)] at c
      rw [nI_1, setI_skip _ (by rw [key i hi, b2i_e0 c]; rfl)]; exact ih
    · have := (nI_ltI (by omega) (by have := pop_le (cof i ^^^ num); omega)).mp c2
      rw [nI_1, setI_skip _ (by rw [key i hi, decide_eq_false (by omega), Bool.and_false])]; exact ih
    · rw [inI_n (by omega)] at c
      have : ¬ r < pop (cof i ^^^ num) := fun q => c2 (nI_lt q (by have := pop_le (cof i ^^^ num); omega))
      rw [nI_1, setI_add _ (by omega) (by rw [key i hi, b2i_n0 c, decide_eq_true (by omega)]; rfl)]; exact ih
  · refine b_St_within_6 h1 h3 (j6 := 0) (fun c => absurd c (nI_nlt (Nat.le_refl _) (by omega))) (fun c => absurd c (nI_nlt (Nat.le_refl _) (by omega))) (fun c => absurd c (nI_nlt (Nat.le_refl _) (by omega))) (fun c => absurd c (nI_nlt (Nat.le_refl _) (by omega))) (fun _ => ?_)
    rw [show setI (fun j => decide (j < sN S) && nrP S (bt set) num r j) = setI (nrP S (bt set) num r) from setI_congr fun j _ => by unfold nrP; by_cases q : j < sN S <;> simp [q]]
    exact hR
/-- where a number is -/
def whP (S : AS) (num : Int64) (j : Nat) : Bool := decide (sCo S j = num)
theorem s_St_whereIs (hS : StR h a S) (ok : sOk S) {num : Int64} (hR : R (some (.int (frI (whP S num) (sN S)))) h) : Ev G d 0 0 M_St_whereIs 0 [.ref a, .long num, ev_unk, ev_unk] [] h R := by
  obtain ⟨brf, tgf, cof, fv, h1, h2, h3, h4, e1, e2, -⟩ := hS
  have hz := ok.2.2.2.2.1
  refine b_St_whereIs_0 ?_
  have := up0 (P := fun i => (∀ j, j < i → whP S num j = false) → Ev G d 0 0 M_St_whereIs 2 [.ref a, .long num, ev_unk, .int (nI i)] [] h R) (sN S) ?_ ?_
  · exact this (fun j hj => by omega)
  · intro i hi ih hn
    have hl : nI i < nI (sN S) := nI_lt hi (by omega)
    have key : whP S num i = decide (cof i = num) := by unfold whP; rw [(e2 i hi).1]
    refine b_St_whereIs_2 h1 h3 (fun _ => ixn (by omega) (by decide)) (fun _ c => ?_) (fun _ c => ?_) (fun c => absurd hl c)
    · rw [frI, fst_eq hi (by rw [key, decide_eq_true c]) hn, if_pos hi] at hR; exact hR
    · rw [nI_1]
      refine ih fun j hj => ?_
      by_cases e : j = i
      · subst e; rw [key, decide_eq_false c]
      · exact hn j (by omega)
  · intro hn
    refine b_St_whereIs_2 h1 h3 (j6 := 0) (fun c => absurd c (nl_self (by omega))) (fun c => absurd c (nl_self (by omega))) (fun c => absurd c (nl_self (by omega))) (fun _ => ?_)
    rw [frI, fst_none hn, if_neg (Nat.lt_irrefl _)] at hR; exact hR
/-- where a part begins -/
def stt (S : AS) (p : Nat) : Nat := sumT (sBr S) p
/-- what of a number lies there -/
def keyN (x : Int64) (st br : Nat) : Nat := x.toBitVec.toNat / 2 ^ st % 2 ^ br
theorem keyN_lt (x : Int64) (st br : Nat) : keyN x st br < 2 ^ br := Nat.mod_lt _ (Nat.two_pow_pos _)
theorem lN_toNat (x : Int64) : lN x.toBitVec.toNat = x := Int64.toBitVec_inj.1 (by show BitVec.ofNat 64 x.toBitVec.toNat = _; simp)
theorem l_shN (n : Nat) {k : Nat} (hk : k < 64) : lN n <<< ((nI k).toInt64 &&& 63) = lN (n * 2 ^ k) := by
  apply l_ext
  intro j hj
  rw [l_shl k hk _ hj]
  show _ = (BitVec.ofNat 64 (n * 2 ^ k)).getLsbD j
  rw [BitVec.getLsbD_ofNat, decide_eq_true hj, Bool.true_and, Nat.mul_comm, Nat.testBit_two_pow_mul]
  by_cases q : k ≤ j
  · rw [decide_eq_true q, Bool.true_and, Bool.true_and]
    show (BitVec.ofNat 64 n).getLsbD (j - k) = _
    rw [BitVec.getLsbD_ofNat, decide_eq_true (by omega), Bool.true_and]
  · simp [q]
theorem key_eq (x : Int64) {st br : Nat} (hs : st < 64) (hb : br ≤ 31) : ((x.toUInt64 >>> ((nI st).toInt64.toUInt64 &&& Int64.toUInt64 63)).toInt64 &&& ((1 : Int64) <<< ((nI br).toInt64 &&& 63) - (1 : Int64))) = lN (keyN x st br) := by
  have h1 : (1 : Int64) <<< ((nI br).toInt64 &&& 63) = lN (2 ^ br) := by
    have := l_shN 1 (show br < 64 by omega); rw [Nat.one_mul] at this; exact this
  have h2 : lN (2 ^ br) - (1 : Int64) = lN (2 ^ br - 1) := lN_sub (Nat.two_pow_pos br)
  have h3 := l_us x.toBitVec.toNat (nI st) st hs rfl x.toBitVec.isLt
  rw [lN_toNat] at h3
  rw [h1, h2, h3, l_andN _ _ (Nat.lt_of_le_of_lt (Nat.div_le_self _ _) x.toBitVec.isLt), Nat.and_two_pow_sub_one_eq_mod]
  rfl
theorem stt_le (ok : sOk S) {p : Nat} (hp : p ≤ sP S) : stt S p ≤ 48 := Nat.le_trans (sumT_mono _ hp) (by rw [ok.2.2.2.2.2.2.2]; exact ok.2.1)
theorem s_St_keyOf (hS : StR h a S) (ok : sOk S) {c p : Nat} (hc : c < sN S) (hp : p < sP S) (hR : R (some (.int (nI (keyN (sCo S c) (stt S p) (sBr S p))))) h) : Ev G d 0 0 M_St_keyOf 0 [.ref a, .int (nI c), .int (nI p), ev_unk, ev_unk] [] h R := by
  obtain ⟨brf, tgf, cof, fv, h1, h2, h3, h4, e1, e2, -⟩ := hS
  have hz := ok.2.2.2.2.1
  have hz2 := ok.2.2.2.1
  refine b_St_keyOf_0 ?_
  have := up0 (P := fun i => Ev G d 0 0 M_St_keyOf 5 [.ref a, .int (nI c), .int (nI p), .int (nI (stt S i)), .int (nI i)] [] h R) p ?_ ?_
  · exact this
  · intro i hi ih
    have hl : nI i < nI p := nI_lt hi (by omega)
    refine b_St_keyOf_5 h1 h2 h3 (fun _ => ixn (by omega) (by decide)) (j8 := 0) (j9 := 0) (fun c => absurd hl c) (fun c => absurd hl c) (fun _ => ?_) (fun c => absurd hl c)
    rw [e1 i (by omega), nI_add, nI_1]; exact ih
  · refine b_St_keyOf_5 h1 h2 h3 (j6 := 0) (fun c => absurd c (nl_self (by omega))) (fun _ => ixn (by omega) (by decide)) (fun _ => ixn (by omega) (by decide)) (fun c => absurd c (nl_self (by omega))) (fun _ => ?_)
    have := stt_le ok (Nat.le_of_lt hp)
    rw [(e2 c hc).1, e1 p hp, key_eq _ (by omega) (by have := ok.2.2.2.2.2.1 p hp; omega), lN_i]
    exact hR
def allP (S : AS) (j : Nat) : Bool := decide (j < sN S)
theorem all_eq {n : Nat} (hn : n < 32) : (1 : Int32) <<< (nI n &&& 31) - 1 = setI (fun j => decide (j < n)) := (by decide +kernel : ∀ n, n < 32 → (1 : Int32) <<< (nI n &&& 31) - 1 = setI (fun j => decide (j < n))) n hn
theorem s_St_all (hS : StR h a S) (ok : sOk S) (hR : R (some (.int (setI (allP S)))) h) : Ev G d 0 0 M_St_all 0 [.ref a] [] h R := by
  obtain ⟨brf, tgf, cof, fv, h1, -⟩ := hS
  have hz := ok.2.2.2.2.1
  refine b_St_all_0 h1 (fun c => ?_) (fun c => ?_)
  · have : sN S = 32 := (nI_eq (by omega) (by omega)).mp c
    rw [show setI (allP S) = -1 by unfold allP; rw [this]; decide +kernel] at hR; exact hR
  · have : sN S ≠ 32 := fun q => c (by rw [q]; rfl)
    rw [all_eq (by omega)]; exact hR
theorem s_St_onesAt (hS : StR h a S) (ok : sOk S) {set : Int32} {b : Nat} (hb : b < 64) (hR : R (some (.int (nI (cnt (fun j => bt set j && lt (sCo S j) b) (sN S))))) h) : Ev G (d + 1) 0 0 M_St_onesAt 0 [.ref a, .int set, .int (nI b), ev_unk, ev_unk] [] h R := by
  obtain ⟨brf, tgf, cof, fv, h1, h2, h3, h4, e1, e2, -⟩ := hS
  have hz := ok.2.2.2.2.1
  refine b_St_onesAt_0 ?_
  have := up0 (P := fun i => Ev G (d + 1) 0 0 M_St_onesAt 5 [.ref a, .int set, .int (nI b), .int (nI (cnt (fun j => bt set j && lt (sCo S j) b) i)), .int (nI i)] [] h R) (sN S) ?_ ?_
  · exact this
  · intro i hi ih
    have hl : nI i < nI (sN S) := nI_lt hi (by omega)
    have st : cnt (fun j => bt set j && lt (sCo S j) b) (i + 1) = cnt (fun j => bt set j && lt (sCo S j) b) i + if bt set i && lt (sCo S i) b then 1 else 0 := rfl
    refine b_St_onesAt_5 h1 h3 (fun _ _ => ixn (by omega) (by decide)) (fun _ c => ?_) (fun _ c => ?_) (fun c => absurd hl c)
    · rw [inI_n (by omega)] at c
      rw [st, b2i_e0 c] at ih
      rw [nI_1]; exact ih
    · rw [inI_n (by omega)] at c
      rw [st, b2i_n0 c] at ih
      rw [nI_1, (e2 i hi).1, tbL_n hb]
      cases q : lt (sCo S i) b <;> rw [q] at ih
      · rw [show nI (cnt (fun j => bt set j && lt (sCo S j) b) i) + b2i false = nI (cnt (fun j => bt set j && lt (sCo S j) b) i + 0) from nI_add _ 0]; exact ih
      · rw [show nI (cnt (fun j => bt set j && lt (sCo S j) b) i) + b2i true = nI (cnt (fun j => bt set j && lt (sCo S j) b) i + 1) from nI_add _ 1]; exact ih
  · exact b_St_onesAt_5 h1 h3 (j6 := 0) (fun c => absurd c (nl_self (by omega))) (fun c => absurd c (nl_self (by omega))) (fun c => absurd c (nl_self (by omega))) (fun _ => hR)
theorem s_St_farFromAll (hS : StR h a S) (ok : sOk S) {set : Int32} {num : Int64} (hR : R (some (.int (nI (sumT (fun j => if bt set j then pop (sCo S j ^^^ num) else 0) (sN S))))) h) : Ev G (d + 2) 0 0 M_St_farFromAll 0 [.ref a, .int set, .long num, ev_unk, ev_unk, ev_unk] [] h R := by
  obtain ⟨brf, tgf, cof, fv, h1, h2, h3, h4, e1, e2, -⟩ := hS
  have hz := ok.2.2.2.2.1
  refine b_St_farFromAll_0 ?_
  have := up0 (P := fun i => Ev G (d + 2) 0 0 M_St_farFromAll 6 [.ref a, .int set, .long num, ev_unk, .int (nI (sumT (fun j => if bt set j then pop (sCo S j ^^^ num) else 0) i)), .int (nI i)] [] h R) (sN S) ?_ ?_
  · exact this
  · intro i hi ih
    have hl : nI i < nI (sN S) := nI_lt hi (by omega)
    have st : sumT (fun j => if bt set j then pop (sCo S j ^^^ num) else 0) (i + 1) = sumT (fun j => if bt set j then pop (sCo S j ^^^ num) else 0) i + if bt set i then pop (sCo S i ^^^ num) else 0 := rfl
    refine b_St_farFromAll_6 h1 h3 (fun _ _ => ixn (by omega) (by decide)) (fun _ c => ?_) (fun _ c => ?_) (fun c => absurd hl c)
    · rw [inI_n (by omega)] at c
      rw [st, b2i_e0 c] at ih
      rw [nI_1]; exact ih
    · rw [inI_n (by omega)] at c
      rw [st, b2i_n0 c] at ih
      rw [nI_1, (e2 i hi).1, nI_add]; exact ih
  · exact b_St_farFromAll_6 h1 h3 (j6 := 0) (fun c => absurd c (nl_self (by omega))) (fun c => absurd c (nl_self (by omega))) (fun c => absurd c (nl_self (by omega))) (fun _ => hR)
theorem s_St_keyOf' {cI pI : Int32} {c p : Nat} (hS : StR h a S) (ok : sOk S) (hc : cI = nI c ∧ c < sN S) (hp : pI = nI p ∧ p < sP S) (hR : R (some (.int (nI (keyN (sCo S c) (stt S p) (sBr S p))))) h) : Ev G d 0 0 M_St_keyOf 0 [.ref a, .int cI, .int pI, ev_unk, ev_unk] [] h R := by
  obtain ⟨rfl, hc⟩ := hc; obtain ⟨rfl, hp⟩ := hp; exact s_St_keyOf hS ok hc hp hR
theorem s_St_onesAt' {bI : Int32} {b : Nat} {set : Int32} (hS : StR h a S) (ok : sOk S) (hb : bI = nI b ∧ b < 64) (hR : R (some (.int (nI (cnt (fun j => bt set j && lt (sCo S j) b) (sN S))))) h) : Ev G (d + 1) 0 0 M_St_onesAt 0 [.ref a, .int set, .int bI, ev_unk, ev_unk] [] h R := by
  obtain ⟨rfl, hb⟩ := hb; exact s_St_onesAt hS ok hb hR
theorem s_St_within' {rI : Int32} {r : Nat} {set : Int32} {num : Int64} (hS : StR h a S) (ok : sOk S) (hr : rI = nI r ∧ r < 2147483648) (hR : R (some (.int (setI (nrP S (bt set) num r)))) h) : Ev G (d + 2) 0 0 M_St_within 0 [.ref a, .int set, .long num, ev_unk, .int rI, ev_unk, ev_unk] [] h R := by
  obtain ⟨rfl, hr⟩ := hr; exact s_St_within hS ok hr hR
end S14
