/-! the start: what the law's entry gives, in the small machine's words -/
theorem ev_kn {s : State} {args : Array Value} (hts : ∀ w ∈ ev_ws, w.before args s = true) : ∃ D : va_G, ∀ (c : Nat) (q : vw_C), vwCl[c]? = some q → u_Kn s q.1 q.2.1 q.2.2 (D.1 c) (D.2 c) := by
  have h0 : ∀ c : Nat, ∃ r : ClassId × (Nat → Nat), ∀ q : vw_C, vwCl[c]? = some q → u_Kn s q.1 q.2.1 q.2.2 r.1 r.2 := by
    intro c
    match c with
    | 0 => obtain ⟨a, i, h⟩ := u_known hts ev_cl0 (hts _ n_Bu); exact ⟨(a, i), fun q e => by cases e; exact h⟩
    | 1 => obtain ⟨a, i, h⟩ := u_known hts ev_cl1 (hts _ n_Fi); exact ⟨(a, i), fun q e => by cases e; exact h⟩
    | 2 => obtain ⟨a, i, h⟩ := u_known hts ev_cl2 (hts _ n_Hi); exact ⟨(a, i), fun q e => by cases e; exact h⟩
    | 3 => obtain ⟨a, i, h⟩ := u_known hts ev_cl3 (hts _ n_Ra); exact ⟨(a, i), fun q e => by cases e; exact h⟩
    | 4 => obtain ⟨a, i, h⟩ := u_known hts ev_cl4 (hts _ n_Re); exact ⟨(a, i), fun q e => by cases e; exact h⟩
    | 5 => obtain ⟨a, i, h⟩ := u_known hts ev_cl5 (hts _ n_Sp); exact ⟨(a, i), fun q e => by cases e; exact h⟩
    | 6 => obtain ⟨a, i, h⟩ := u_known hts ev_cl6 (hts _ n_St); exact ⟨(a, i), fun q e => by cases e; exact h⟩
    | 7 => obtain ⟨a, i, h⟩ := u_known hts ev_cl7 (hts _ n_Ta); exact ⟨(a, i), fun q e => by cases e; exact h⟩
    | 8 => obtain ⟨a, i, h⟩ := u_known hts ev_cl8 (hts _ n_X); exact ⟨(a, i), fun q e => by cases e; exact h⟩
    | 9 => obtain ⟨a, i, h⟩ := u_known hts ev_cl9 (hts _ n_Mo); exact ⟨(a, i), fun q e => by cases e; exact h⟩
    | c + 10 => exact ⟨(0, fun _ => 0), fun q e => by simp [vwCl] at e⟩
  obtain ⟨f, hf⟩ := Classical.axiomOfChoice h0
  exact ⟨(fun c => (f c).1, fun c => (f c).2), hf⟩
theorem ev_ar1 {s : State} {args : Array Value} {ty : FieldType} (h : (Cond.arrayClass ty).before args s = true) (hno : ∀ C, ty ≠ .object C) : ∃ c : ClassId, ArrOfT s c ty ∧ va_RA s c ty := by
  obtain ⟨c, k, comp, h1, h2, h3⟩ := Cond.arrayClass_spec h
  refine ⟨c, fun n z => ⟨fun k h => (by cases h), k, h2, comp, h3⟩, ?_⟩
  cases ty <;> first | exact h1 | exact absurd rfl (hno _)
theorem ev_ar2 {s : State} {args : Array Value} {ty : FieldType} (h : (Cond.arrayOver (.array ty)).before args s = true) : ∃ c : ClassId, ArrOfT s c (.array ty) ∧ va_RA s c (.array ty) := by
  obtain ⟨comp, c, k, h1, h2, h3, h4⟩ := Cond.arrayOver_specA h
  exact ⟨c, fun n z => ⟨fun k h => (by cases h), k, h2, comp, h3⟩, h4⟩
theorem ev_ar3 {s : State} {args : Array Value} {C : String} (h : (Cond.arrayOver (.object C)).before args s = true) : ∃ c : ClassId, ArrOfT s c (.object C) ∧ va_RA s c (.object C) := by
  obtain ⟨comp, c, k, h1, -, h2, h3, h4⟩ := Cond.arrayOver_spec h
  exact ⟨c, fun n z => ⟨fun k h => (by cases h), k, h2, comp, h3⟩, k, comp, h2, h3, h1, h4⟩
def st_tm (i : Nat) : Term := match ev_strs[i]? with
  | some q => .string q.1 q.2.1
  | none => .arg 0
def st_k (k : Nat) : Term := if k = 137 then .string "AlikeStoreModel" 137 else .string "AlikeStore$Reader" k
def st_n (i : Nat) : Nat := match ev_strs[i]? with
  | some q => q.2.1
  | none => 0
theorem st_kn : ∀ i, i < 15 → st_tm i = st_k (st_n i) := by decide +kernel
def st_pr : List (Nat × Nat) := [(92, 64), (92, 77), (64, 77), (92, 82), (64, 82), (77, 82), (92, 135), (64, 135), (77, 135), (82, 135), (92, 87), (64, 87), (77, 87), (82, 87), (135, 87), (92, 167), (64, 167), (77, 167), (82, 167), (135, 167), (87, 167), (92, 180), (64, 180), (77, 180), (82, 180), (135, 180), (87, 180), (167, 180), (92, 182), (64, 182), (77, 182), (82, 182), (135, 182), (87, 182), (167, 182), (180, 182), (92, 183), (64, 183), (77, 183), (82, 183), (135, 183), (87, 183), (167, 183), (180, 183), (182, 183), (92, 185), (64, 185), (77, 185), (82, 185), (135, 185), (87, 185), (167, 185), (180, 185), (182, 185), (183, 185), (92, 187), (64, 187), (77, 187), (82, 187), (135, 187), (87, 187), (167, 187), (180, 187), (182, 187), (183, 187), (185, 187), (92, 165), (64, 165), (77, 165), (82, 165), (135, 165), (87, 165), (167, 165), (180, 165), (182, 165), (183, 165), (185, 165), (187, 165), (92, 156), (64, 156), (77, 156), (82, 156), (135, 156), (87, 156), (167, 156), (180, 156), (182, 156), (183, 156), (185, 156), (187, 156), (165, 156), (92, 137), (64, 137), (77, 137), (82, 137), (135, 137), (87, 137), (167, 137), (180, 137), (182, 137), (183, 137), (185, 137), (187, 137), (165, 137), (156, 137)]
def st_fl : List Cond := flatC (Jvm.Cond.and given_1 narrow_1)
set_option maxRecDepth 100000 in
theorem st_pr_fl : ∀ w ∈ st_pr.map (fun q => Cond.not (Cond.eq (st_k q.1) (st_k q.2))), w ∈ st_fl := by
  intro w hw
  have h : st_pr.map (fun q => Cond.not (Cond.eq (st_k q.1) (st_k q.2))) = [27, 37, 38, 47, 48, 49, 57, 58, 59, 60, 71, 72, 73, 74, 75, 83, 84, 85, 86, 87, 88, 97, 98, 99, 100, 101, 102, 103, 114, 115, 116, 117, 118, 119, 120, 121, 129, 130, 131, 132, 133, 134, 135, 136, 137, 145, 146, 147, 148, 149, 150, 151, 152, 153, 154, 162, 163, 164, 165, 166, 167, 168, 169, 170, 171, 172, 180, 181, 182, 183, 184, 185, 186, 187, 188, 189, 190, 191, 198, 199, 200, 201, 202, 203, 204, 205, 206, 207, 208, 209, 210, 278, 279, 280, 281, 282, 283, 284, 285, 286, 287, 288, 289, 290, 291].filterMap (fun i => st_fl[i]?) := by decide +kernel
  rw [h] at hw
  obtain ⟨i, -, hi⟩ := List.mem_filterMap.mp hw
  exact List.mem_of_getElem? hi
def st_has (a b : Nat) : Bool := st_pr.any fun q => q.1 == a && q.2 == b
theorem st_has_in {a b : Nat} (h : st_has a b = true) : (a, b) ∈ st_pr := by
  obtain ⟨q, hq, e⟩ := List.any_eq_true.mp h
  simp only [Bool.and_eq_true, beq_iff_eq] at e
  obtain ⟨rfl, rfl⟩ := e
  exact hq
theorem st_pr_b : ∀ i, i < 15 → ∀ j, j < 15 → (i == j || st_has (st_n i) (st_n j) || st_has (st_n j) (st_n i)) = true := by decide +kernel
theorem st_pr_in {i j : Nat} (hi : i < 15) (hj : j < 15) (hij : i ≠ j) : (st_n i, st_n j) ∈ st_pr ∨ (st_n j, st_n i) ∈ st_pr := by
  have h := st_pr_b i hi j hj
  simp only [Bool.or_eq_true, beq_iff_eq] at h
  rcases h with (h | h) | h
  · exact absurd h hij
  · exact Or.inl (st_has_in h)
  · exact Or.inr (st_has_in h)
theorem ev_st {s : State} {args : Array Value} (hs : ∀ c ∈ st_fl, c.before args s = true) : ∃ adK adV : Nat → Nat, vk_S 15 ev_len ev_byt adK adV (fun q => s.heap.size ≤ q) s s.heap ∧ ∀ i : Nat, i < 15 → (st_tm i).eval args s none [] s = some (.ref (adK i)) :=
  vk_Sof (tm := st_tm) (args := args)
    (fun i hi => Nat.lt_of_lt_of_le (ev_len_lt hi) (by decide))
    (fun i hi => hs _ ((by decide +kernel : ∀ i, i < 15 → Cond.exactly (st_tm i) "java/lang/String" ∈ st_fl) i hi))
    (fun i hi => hs _ ((by decide +kernel : ∀ i, i < 15 → Cond.eq (.field (st_tm i) "java/lang/String" "coder" "B") (.int 0) ∈ st_fl) i hi))
    (fun i hi => hs _ ((by decide +kernel : ∀ i, i < 15 → Cond.arrayOf (.field (st_tm i) "java/lang/String" "value" "[B") .byte ∈ st_fl) i hi))
    (fun i hi => hs _ ((by decide +kernel : ∀ i, i < 15 → Cond.eq (.length (.field (st_tm i) "java/lang/String" "value" "[B")) (.int (Int32.ofNat (ev_len.getD i 0))) ∈ st_fl) i hi))
    (fun i hi j hj => hs _ ((by decide +kernel : ∀ i, i < 15 → ∀ j, j < ev_len.getD i 0 → Cond.eq (.elem (.field (st_tm i) "java/lang/String" "value" "[B") (.int (Int32.ofNat j))) (.int ((ev_byt.getD i []).getD j 0)) ∈ st_fl) i hi j hj))
    (fun i j hi hj hij => by
      rw [st_kn i hi, st_kn j hj]
      exact (st_pr_in hi hj hij).imp (fun z => hs _ (st_pr_fl _ (List.mem_map.mpr ⟨_, z, rfl⟩))) (fun z => hs _ (st_pr_fl _ (List.mem_map.mpr ⟨_, z, rfl⟩))))
    (fun a ha => Nat.not_le.mpr ha)
theorem ev_P (adK adV : Nat → Nat) (t b L : Nat) (xs : Nat → Int32) : ∃ P : Nat → Nat, (∀ i, i < 15 → P i = adK i) ∧ (∀ i, i < 15 → P (20 + i) = adV i) ∧ P 50 = t ∧ P 100 = b ∧ P 200 = L ∧ ∀ j, nI (P (300 + j)) = xs j := by
  refine ⟨fun k => if k < 15 then adK k else if k < 35 then adV (k - 20) else if k = 50 then t else if k = 100 then b else if k = 200 then L else (xs (k - 300)).toBitVec.toNat, fun i hi => if_pos hi, fun i hi => ?_, rfl, rfl, rfl, fun j => ?_⟩
  · show (if 20 + i < 15 then _ else if 20 + i < 35 then _ else _) = _
    rw [if_neg (by omega), if_pos (by omega), Nat.add_sub_cancel_left]
  · show nI (if 300 + j < 15 then _ else if 300 + j < 35 then _ else if 300 + j = 50 then _ else if 300 + j = 100 then _ else if 300 + j = 200 then _ else _) = _
    rw [if_neg (by omega), if_neg (by omega), if_neg (by omega), if_neg (by omega), if_neg (by omega), Nat.add_sub_cancel_left]
    apply Int32.toBitVec_inj.1
    apply BitVec.eq_of_toNat_eq
    exact nI_bv (xs j).toBitVec.isLt
theorem ev_world {s : State} {b L : Nat} {xs : Nat → Int32} (l : Launch) (hts0 : ∀ w ∈ lw_tbl, w.before #[Value.ref b] s = true) (hg : (Jvm.Cond.and given_1 narrow_1).before #[Value.ref b] s = true) (hX : va_X b L xs s s.heap) (hbl : b < s.heap.size) :
    ∃ G : ev_G, G.1 = l ∧ G.2.1 = s.heap ∧ G.2.2.2.2 100 = b ∧ scL G = L ∧ ev_K G s := by
  have hts : ∀ w ∈ ev_ws, w.before #[Value.ref b] s = true := fun w h => hts0 w (List.mem_filter.mp h).1
  have ht : ∀ (i : Nat) {w : Cond}, tables_1[i]? = some w → w.before #[Value.ref b] s = true := fun i w h => hts0 w (List.mem_append_right _ (List.mem_of_getElem? h))
  have hs : ∀ c ∈ st_fl, c.before #[Value.ref b] s = true := flat_of_before _ hg
  have hA : ∀ a : Nat, a < s.heap.size → ¬ (fun q => s.heap.size ≤ q) a := fun a ha => Nat.not_le.mpr ha
  obtain ⟨D, hD⟩ := ev_kn hts
  obtain ⟨c0, e0⟩ := ev_ar1 (hts _ a_int) (fun C q => by cases q)
  obtain ⟨c1, e1⟩ := ev_ar1 (hts _ a_long) (fun C q => by cases q)
  obtain ⟨c2, e2⟩ := ev_ar1 (hts _ a_byte) (fun C q => by cases q)
  have wO : (Cond.arrayOver (.object "AlikeStore$Store")).before #[Value.ref b] s = true := ht 170 (by decide +kernel)
  have wA : (Cond.arrayOver (.array .int)).before #[Value.ref b] s = true := ht 197 (by decide +kernel)
  obtain ⟨c3, e3⟩ := ev_ar2 wA
  obtain ⟨c4, e4⟩ := ev_ar3 wO
  obtain ⟨adK, adV, hS, hev⟩ := ev_st hs
  have zC : va_Z "java/lang/String" "COMPACT_STRINGS" "Z" (.int 1) (fun q => s.heap.size ≤ q) s s.heap := va_Zof (ht 311 (by decide +kernel)) (ht 11 (by decide +kernel)) (va_eqi (hs _ (by decide +kernel))) hA
  have zF : va_Zq "jdk/internal/util/Preconditions" "SIOOBE_FORMATTER" "Ljava/util/function/BiFunction;" (fun q => s.heap.size ≤ q) s s.heap := va_Zqof (ht 352 (by decide +kernel)) (ht 14 (by decide +kernel)) (hs _ (by decide +kernel)) hA
  obtain ⟨t, zF⟩ : ∃ t : Nat, va_Z "jdk/internal/util/Preconditions" "SIOOBE_FORMATTER" "Ljava/util/function/BiFunction;" .null (fun q => s.heap.size ≤ q) s s.heap ∨ va_Z "jdk/internal/util/Preconditions" "SIOOBE_FORMATTER" "Ljava/util/function/BiFunction;" (.ref t) (fun q => s.heap.size ≤ q) s s.heap := by
    rcases zF with z | ⟨t, z⟩
    · exact ⟨0, Or.inl z⟩
    · exact ⟨t, Or.inr z⟩
  obtain ⟨P, p1, p2, p3, p4, p5, p6⟩ := ev_P adK adV t b L xs
  refine ⟨(l, s.heap, D, fun k => if k = 0 then c0 else if k = 1 then c1 else if k = 2 then c2 else if k = 3 then c3 else c4, P), rfl, rfl, p4, p5, ⟨hD, ?_⟩, ?_, ⟨va_AO.of wO, wA⟩, ⟨⟨fun i hi => ?_, fun i j hi hj e => ?_⟩, zC, ?_, ?_, ?_⟩, ?_⟩
  · intro k q hq
    match k, hq with
    | 0, hq => cases hq; exact e0
    | 1, hq => cases hq; exact e1
    | 2, hq => cases hq; exact e2
    | 3, hq => cases hq; exact e3
    | 4, hq => cases hq; exact e4
    | k + 5, hq => simp [ev_tys] at hq
  · intro w hw
    have h1 := hts0 w (List.mem_append_right _ (List.mem_filter.mp hw).1)
    obtain ⟨x1, x2, x3, x4, rfl⟩ := ev_nest_form hw
    exact va_Nw.of rfl h1
  · have q := hS.1 i hi
    dsimp only
    rw [p1 i hi, p2 i hi]
    exact q
  · dsimp only at e
    rw [p1 i hi, p1 j hj] at e
    exact hS.2 i j hi hj e
  · dsimp only
    rw [p3]
    exact zF
  · dsimp only
    rw [p4, p5, show (fun j => nI (P (300 + j))) = xs from funext p6]
    exact hX
  · dsimp only
    rw [p4]
    exact hbl
  · intro i q hq
    have hi : i < 15 := (List.getElem?_eq_some_iff.mp hq).1
    have h2 := hev i hi
    simp only [st_tm, hq] at h2
    dsimp only
    rw [p1 i hi]
    refine vk_R.of (A := #[Value.ref b]) ?_ h2
    exact hts0 _ (List.mem_append_right _ (List.all_eq_true.mp (by decide +kernel : ev_strs.all (fun q => decide (Cond.stringRef q.1 q.2.1 q.2.2 ∈ tables_1)) = true) q (List.mem_of_getElem? hq) |> of_decide_eq_true))
