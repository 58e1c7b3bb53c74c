section EVB
variable {G : ev_G} {d k n : Nat} {M : ev_M} {pc idx : Nat} {ls rest st : List Value} {h : ev_H} {R : Option Value → ev_H → Prop}
theorem ev_cmp0 (x y : Int64) : lg_cmp x y = 0 ↔ x = y := by
  unfold lg_cmp
  simp only [gt_iff_lt, Int64.lt_iff_toInt_lt, ← Int64.toInt_inj]
  repeat' split
  all_goals simp_all
  all_goals omega
theorem ev_cmpL (x y : Int64) : lg_cmp x y < 0 ↔ x < y := by
  unfold lg_cmp
  simp only [gt_iff_lt, Int64.lt_iff_toInt_lt, ← Int64.toInt_inj]
  split
  · refine ⟨fun h => absurd h (by decide), fun h => by omega⟩
  · split
    · refine ⟨fun h => absurd h (by decide), fun h => by omega⟩
    · refine ⟨fun _ => by omega, fun _ => by decide⟩
theorem ev_cmpG (x y : Int64) : 0 < lg_cmp x y ↔ y < x := by
  unfold lg_cmp
  simp only [gt_iff_lt, Int64.lt_iff_toInt_lt, ← Int64.toInt_inj]
  split
  · refine ⟨fun _ => by omega, fun _ => by decide⟩
  · split
    · refine ⟨fun h => absurd h (by decide), fun h => by omega⟩
    · refine ⟨fun h => absurd h (by decide), fun h => by omega⟩
/-- two longs compared, and a branch -/
def ev_cnl (c : Jvm.ClassFile.Cond) (x y : Int64) (t f : Nat) : Prop × Nat × Nat := match c with
  | .eq => (x = y, t, f)
  | .ne => (x = y, f, t)
  | .lt => (x < y, t, f)
  | .ge => (x < y, f, t)
  | .gt => (y < x, t, f)
  | .le => (y < x, f, t)
theorem Ev.brl {c : Jvm.ClassFile.Cond} {o : Int} {x y : Int64} {P : Prop} {t f t1 : Nat} (hd : decode M.2.1 pc = .ok (.lcmp, 1)) (hd2 : decode M.2.1 (pc + 1) = .ok (.ifCond c o, 3)) (ht1 : ((pc + 1 : Nat) : Int) + o = (t1 : Int)) (hs : ev_cnl c x y t1 (pc + 4) = (P, t, f)) (ht : P → Ev G d k n M t ls rest h R) (hf : ¬ P → Ev G d k n M f ls rest h R) : Ev G d k n M pc ls (.long y :: .long x :: rest) h R := by
  refine Ev.one (i := .lcmp) (pc' := pc + 1) (ls' := ls) (st' := .int (lg_cmp x y) :: rest) hd rfl ?_
  have e3 : ((pc + 1 : Nat) : Int) + 3 = ((pc + 4 : Nat) : Int) := by omega
  cases c <;> simp only [ev_cnl, Prod.mk.injEq] at hs <;> obtain ⟨rfl, rfl, rfl⟩ := hs
  · exact Ev.br (P := lg_cmp x y = 0) (r := rest) hd2 (by simp only [ev_cnd, ht1, e3]) (fun q => ht ((ev_cmp0 x y).mp q)) (fun q => hf fun z => q ((ev_cmp0 x y).mpr z))
  · exact Ev.br (P := lg_cmp x y = 0) (r := rest) hd2 (by simp only [ev_cnd, ht1, e3]) (fun q => ht ((ev_cmp0 x y).mp q)) (fun q => hf fun z => q ((ev_cmp0 x y).mpr z))
  · exact Ev.br (P := lg_cmp x y < 0) (r := rest) hd2 (by simp only [ev_cnd, ht1, e3]) (fun q => ht ((ev_cmpL x y).mp q)) (fun q => hf fun z => q ((ev_cmpL x y).mpr z))
  · exact Ev.br (P := lg_cmp x y < 0) (r := rest) hd2 (by simp only [ev_cnd, ht1, e3]) (fun q => ht ((ev_cmpL x y).mp q)) (fun q => hf fun z => q ((ev_cmpL x y).mpr z))
  · exact Ev.br (P := 0 < lg_cmp x y) (r := rest) hd2 (by simp only [ev_cnd, ht1, e3]) (fun q => ht ((ev_cmpG x y).mp q)) (fun q => hf fun z => q ((ev_cmpG x y).mpr z))
  · exact Ev.br (P := 0 < lg_cmp x y) (r := rest) hd2 (by simp only [ev_cnd, ht1, e3]) (fun q => ht ((ev_cmpG x y).mp q)) (fun q => hf fun z => q ((ev_cmpG x y).mpr z))
theorem ev_words_cp : nativeFrameWords "java/lang/System" "arraycopy" 5 + 11 ≤ 50 := by decide
/-- System.arraycopy between two int rows -/
theorem Ev.acpyI {a0 a1 n0 n1 : Nat} {f g : Nat → Int32} {sp dp cn : Nat} {spI dpI cnI : Int32} (hL : Cond.methodLink M.1.cls idx arraycopyName ∈ ev_ws) (hnat : Cond.native arraycopyName ∈ ev_ws) (hst : Cond.static arraycopyName ∈ ev_ws) (hini : Cond.initialized "java/lang/System" ∈ ev_ws) (hd : decode M.2.1 pc = .ok (.invokestatic idx, 3)) (h0 : hat h a0 (aI n0 f)) (h1 : hat h a1 (aI n1 g)) (es : spI = nI sp) (ed : dpI = nI dp) (ec : cnI = nI cn) (hs : sp + cn ≤ n0) (hdp : dp + cn ≤ n1) (hn0 : n0 < 2147483648) (hn1 : n1 < 2147483648) (hr : (rest.map fun v => v.category).sum ≤ 8)
    (hE : Ev G (d + 1) k n M (pc + 3) ls rest (hset h a1 (aI n1 (va_cpy f g sp dp cn))) R) : Ev G (d + 1) k n M pc ls (.int cnI :: .int dpI :: .ref a1 :: .int spI :: .ref a0 :: rest) h R := by
  intro p e Rm s m args below meth c Q hx h1' h2' hkk H locs cells slots A g1 g2 g3 g4 g5
  subst es; subst ed; subst ec
  have hts := hx.2.2.2.2.1
  have hK := hx.2.2.2.2.2.2.2.2.1
  have hc0 := g1.at h0.1
  rw [h0.2] at hc0
  have hc0 : H[ev_ad G a0]? = some (vp_cell (G.2.2.2.1 0) (n0, .inl f)) := hc0
  have hc1 := g1.at h1.1
  rw [h1.2] at hc1
  have hc1 : H[ev_ad G a1]? = some (vp_cell (G.2.2.2.1 0) (n1, .inl g)) := hc1
  have c1 : (nI sp).toNatClampNeg = sp := nI_clamp (by omega)
  have c2 : (nI dp).toNatClampNeg = dp := nI_clamp (by omega)
  have c3 : (nI cn).toNatClampNeg = cn := nI_clamp (by omega)
  intro T hT X
  obtain ⟨-, k0, hk0, cm0, hkk0⟩ := (hK.2 0 _ rfl).1 n0 (fun j => .int (f j))
  obtain ⟨-, k1, hk1, cm1, hkk1⟩ := (hK.2 0 _ rfl).1 n1 (fun j => .int (g j))
  obtain ⟨vm', X', step⟩ := X.arraycopy hx.1 hx.2.2.2.1 (hts _ hL) (hts _ hnat) (hts _ hst) (hts _ hini) (src := ev_ad G a0) (dst := ev_ad G a1) (cs := vp_cell (G.2.2.2.1 0) (n0, .inl f)) (cd := vp_cell (G.2.2.2.1 0) (n1, .inl g)) (srcPos := nI sp) (destPos := nI dp) (n := nI cn) (by rw [hT]; exact hc0) (by rw [hT]; exact hc1)
    (fun _ h => by cases h) (fun _ h => by cases h) (fun h => by cases h) (fun h => by cases h) hk0 hk1 hkk0 hkk1 (by simp [refKind]) (nI_pos (by omega)) (nI_pos (by omega)) (nI_pos (by omega))
    (by rw [nI_toInt (by omega), nI_toInt (by omega)]; show ¬ _ > ((arrV _ n0 (fun j => .int (f j))).slots.size : Int); rw [arrV_size]; omega)
    (by rw [nI_toInt (by omega), nI_toInt (by omega)]; show ¬ _ > ((arrV _ n1 (fun j => .int (g j))).slots.size : Int); rw [arrV_size]; omega)
    (fun vm₁ _ i hi => by
      rw [c3] at hi
      have e : (vp_cell (G.2.2.2.1 0) (n0, .inl f)).slots.getD ((nI sp).toNatClampNeg + i) .null = .int (f (sp + i)) := by
        show (arrV _ n0 (fun j => .int (f j))).slots.getD _ _ = _
        rw [Array.getD_eq_getD_getElem?, c1, arrV_read _ _ (by omega)]
        rfl
      refine ⟨?_, ?_⟩
      · rw [e]; rfl
      · rw [e]; exact trivial)
    (g := F0 m pc A (.int (nI cn) :: .int (nI dp) :: .ref (ev_ad G a1) :: .int (nI sp) :: .ref (ev_ad G a0) :: rest.map (ev_tr G))) rfl (g5.1.trans hx.2.2.1.symm) (rest := rest.map (ev_tr G)) rfl (by rw [hx.2.1]; exact hd) (by omega) (by show 2 * 0 + _ + _ ≤ _; rw [ev_sum]; have := ev_words_cp; omega)
  have e1 : copied (vp_cell (G.2.2.2.1 0) (n0, .inl f)) (vp_cell (G.2.2.2.1 0) (n1, .inl g)) (nI sp) (nI dp) (nI cn) = vp_cell (G.2.2.2.1 0) (n1, .inl (va_cpy f g sp dp cn)) := by
    have := va_copied (sp := (nI sp).toNatClampNeg) (dp := (nI dp).toNatClampNeg) (n := (nI cn).toNatClampNeg) (fun z => Value.int z) (G.2.2.2.1 0) (G.2.2.2.1 0) f g (n0 := n0) (n1 := n1) (by rw [c1, c3]; exact hs)
    refine this.trans ?_
    rw [c1, c2, c3]
    rfl
  rw [e1] at X' step
  have hl : ev_ad G a1 < H.size := (Array.getElem?_eq_some_iff.mp hc1).1
  have hheap : ((T.setVm vm').setCell (ev_ad G a1) (vp_cell (G.2.2.2.1 0) (n1, .inl (va_cpy f g sp dp cn)))).heap = H.setIfInBounds (ev_ad G a1) (vp_cell (G.2.2.2.1 0) (n1, .inl (va_cpy f g sp dp cn))) := by rw [← hT]; rfl
  have oq : ∀ q : Nat, q ≠ ev_ad G a1 → (H.setIfInBounds (ev_ad G a1) (vp_cell (G.2.2.2.1 0) (n1, .inl (va_cpy f g sp dp cn))))[q]? = H[q]? := fun q hq => by simp [Array.getElem?_setIfInBounds, Ne.symm hq]
  obtain ⟨t, a2, b2⟩ := hE p e Rm s m args below meth c Q hx h1' h2' hkk _ _ cells slots A (g1.put h1.1 (c := aI n1 (va_cpy f g sp dp cn)) (show (H.setIfInBounds (ev_ad G a1) _)[ev_ad G a1]? = some _ by simp [Array.getElem?_setIfInBounds, hl]) (by simp) oq) (fun q hq => by
      rcases List.mem_append.mp hq with h | h
      · exact g2 q h
      · obtain ⟨z, -, hz⟩ := List.mem_map.mp h
        rw [← hz]
        exact ev_ad_ge h1.1 g1.2.1) g3 g4 g5 _ hheap X'
  exact ⟨t, step t a2, b2⟩
theorem Ev.acpyL {a0 a1 n0 n1 : Nat} {f g : Nat → Int64} {sp dp cn : Nat} {spI dpI cnI : Int32} (hL : Cond.methodLink M.1.cls idx arraycopyName ∈ ev_ws) (hnat : Cond.native arraycopyName ∈ ev_ws) (hst : Cond.static arraycopyName ∈ ev_ws) (hini : Cond.initialized "java/lang/System" ∈ ev_ws) (hd : decode M.2.1 pc = .ok (.invokestatic idx, 3)) (h0 : hat h a0 (aL n0 f)) (h1 : hat h a1 (aL n1 g)) (es : spI = nI sp) (ed : dpI = nI dp) (ec : cnI = nI cn) (hs : sp + cn ≤ n0) (hdp : dp + cn ≤ n1) (hn0 : n0 < 2147483648) (hn1 : n1 < 2147483648) (hr : (rest.map fun v => v.category).sum ≤ 8)
    (hE : Ev G (d + 1) k n M (pc + 3) ls rest (hset h a1 (aL n1 (va_cpy f g sp dp cn))) R) : Ev G (d + 1) k n M pc ls (.int cnI :: .int dpI :: .ref a1 :: .int spI :: .ref a0 :: rest) h R := by
  intro p e Rm s m args below meth c Q hx h1' h2' hkk H locs cells slots A g1 g2 g3 g4 g5
  subst es; subst ed; subst ec
  have hts := hx.2.2.2.2.1
  have hK := hx.2.2.2.2.2.2.2.2.1
  have hc0 := g1.at h0.1
  rw [h0.2] at hc0
  have hc0 : H[ev_ad G a0]? = some (vp_cell (G.2.2.2.1 1) (n0, .inr (.inl f))) := hc0
  have hc1 := g1.at h1.1
  rw [h1.2] at hc1
  have hc1 : H[ev_ad G a1]? = some (vp_cell (G.2.2.2.1 1) (n1, .inr (.inl g))) := hc1
  have c1 : (nI sp).toNatClampNeg = sp := nI_clamp (by omega)
  have c2 : (nI dp).toNatClampNeg = dp := nI_clamp (by omega)
  have c3 : (nI cn).toNatClampNeg = cn := nI_clamp (by omega)
  intro T hT X
  obtain ⟨-, k0, hk0, cm0, hkk0⟩ := (hK.2 1 _ rfl).1 n0 (fun j => .long (f j))
  obtain ⟨-, k1, hk1, cm1, hkk1⟩ := (hK.2 1 _ rfl).1 n1 (fun j => .long (g j))
  obtain ⟨vm', X', step⟩ := X.arraycopy hx.1 hx.2.2.2.1 (hts _ hL) (hts _ hnat) (hts _ hst) (hts _ hini) (src := ev_ad G a0) (dst := ev_ad G a1) (cs := vp_cell (G.2.2.2.1 1) (n0, .inr (.inl f))) (cd := vp_cell (G.2.2.2.1 1) (n1, .inr (.inl g))) (srcPos := nI sp) (destPos := nI dp) (n := nI cn) (by rw [hT]; exact hc0) (by rw [hT]; exact hc1)
    (fun _ h => by cases h) (fun _ h => by cases h) (fun h => by cases h) (fun h => by cases h) hk0 hk1 hkk0 hkk1 (by simp [refKind]) (nI_pos (by omega)) (nI_pos (by omega)) (nI_pos (by omega))
    (by rw [nI_toInt (by omega), nI_toInt (by omega)]; show ¬ _ > ((arrV _ n0 (fun j => .long (f j))).slots.size : Int); rw [arrV_size]; omega)
    (by rw [nI_toInt (by omega), nI_toInt (by omega)]; show ¬ _ > ((arrV _ n1 (fun j => .long (g j))).slots.size : Int); rw [arrV_size]; omega)
    (fun vm₁ _ i hi => by
      rw [c3] at hi
      have e : (vp_cell (G.2.2.2.1 1) (n0, .inr (.inl f))).slots.getD ((nI sp).toNatClampNeg + i) .null = .long (f (sp + i)) := by
        show (arrV _ n0 (fun j => .long (f j))).slots.getD _ _ = _
        rw [Array.getD_eq_getD_getElem?, c1, arrV_read _ _ (by omega)]
        rfl
      refine ⟨?_, ?_⟩
      · rw [e]; rfl
      · rw [e]; exact trivial)
    (g := F0 m pc A (.int (nI cn) :: .int (nI dp) :: .ref (ev_ad G a1) :: .int (nI sp) :: .ref (ev_ad G a0) :: rest.map (ev_tr G))) rfl (g5.1.trans hx.2.2.1.symm) (rest := rest.map (ev_tr G)) rfl (by rw [hx.2.1]; exact hd) (by omega) (by show 2 * 0 + _ + _ ≤ _; rw [ev_sum]; have := ev_words_cp; omega)
  have e1 : copied (vp_cell (G.2.2.2.1 1) (n0, .inr (.inl f))) (vp_cell (G.2.2.2.1 1) (n1, .inr (.inl g))) (nI sp) (nI dp) (nI cn) = vp_cell (G.2.2.2.1 1) (n1, .inr (.inl (va_cpy f g sp dp cn))) := by
    have := va_copied (sp := (nI sp).toNatClampNeg) (dp := (nI dp).toNatClampNeg) (n := (nI cn).toNatClampNeg) (fun z => Value.long z) (G.2.2.2.1 1) (G.2.2.2.1 1) f g (n0 := n0) (n1 := n1) (by rw [c1, c3]; exact hs)
    refine this.trans ?_
    rw [c1, c2, c3]
    rfl
  rw [e1] at X' step
  have hl : ev_ad G a1 < H.size := (Array.getElem?_eq_some_iff.mp hc1).1
  have hheap : ((T.setVm vm').setCell (ev_ad G a1) (vp_cell (G.2.2.2.1 1) (n1, .inr (.inl (va_cpy f g sp dp cn))))).heap = H.setIfInBounds (ev_ad G a1) (vp_cell (G.2.2.2.1 1) (n1, .inr (.inl (va_cpy f g sp dp cn)))) := by rw [← hT]; rfl
  have oq : ∀ q : Nat, q ≠ ev_ad G a1 → (H.setIfInBounds (ev_ad G a1) (vp_cell (G.2.2.2.1 1) (n1, .inr (.inl (va_cpy f g sp dp cn)))))[q]? = H[q]? := fun q hq => by simp [Array.getElem?_setIfInBounds, Ne.symm hq]
  obtain ⟨t, a2, b2⟩ := hE p e Rm s m args below meth c Q hx h1' h2' hkk _ _ cells slots A (g1.put h1.1 (c := aL n1 (va_cpy f g sp dp cn)) (show (H.setIfInBounds (ev_ad G a1) _)[ev_ad G a1]? = some _ by simp [Array.getElem?_setIfInBounds, hl]) (by simp) oq) (fun q hq => by
      rcases List.mem_append.mp hq with h | h
      · exact g2 q h
      · obtain ⟨z, -, hz⟩ := List.mem_map.mp h
        rw [← hz]
        exact ev_ad_ge h1.1 g1.2.1) g3 g4 g5 _ hheap X'
  exact ⟨t, step t a2, b2⟩
/-- new int[N][K]: the outer row, then the inner ones -/
def hgrid (h : ev_H) (N K : Nat) : ev_H := (h.1 + 1 + N, fun j => if j = h.1 then aG N (fun i => if i < N then some (h.1 + 1 + i) else none) else if h.1 < j ∧ j < h.1 + 1 + N then aI K (fun _ => 0) else h.2 j)
theorem ev_outer (c : ClassId) (N h0 : Nat) : ∀ i : Nat, Jvm.Free.Multi.outerC c N h0 i = arrV c N (fun j => va_rf (if j < i then some (h0 + 1 + j) else none))
  | 0 => by
    show ({ cls := c, slots := Array.replicate N .null, vm := .none } : Cell) = _
    rw [arrV_new]
    refine congrArg (arrV c N) (funext fun j => ?_)
    simp [va_rf]
  | i + 1 => by
    show (Jvm.Free.Multi.outerC c N h0 i).setSlot i (.ref (h0 + 1 + i)) = _
    rw [ev_outer c N h0 i, arrV_store]
    refine congrArg (arrV c N) (funext fun j => ?_)
    by_cases e : j = i
    · subst e
      simp [updV, va_rf]
    · by_cases h : j < i
      · simp [updV, e, h, Nat.lt_succ_of_lt h]
      · simp [updV, e, h, show ¬ j < i + 1 by omega]
theorem Ev.mna {N K : Nat} {nN nK : Int32} (hL : Cond.classLink M.1.cls idx "[[I" ∈ ev_ws) (hA : Cond.arrayClass .int ∈ ev_ws) (hd : decode M.2.1 pc = .ok (.multianewarray idx 2, 4)) (hb : h.1 + 1 + N ≤ ev_big) (eN : nN = nI N) (eK : nK = nI K) (hN : N < 10000) (hK : K < 10000)
    (hE : Ev G d k n M (pc + 4) ls (.ref h.1 :: rest) (hgrid h N K) R) : Ev G d (k + (1 + N)) (n + (N + N * K)) M pc ls (.int nK :: .int nN :: rest) h R := by
  intro p e Rm s m args below meth c Q hx h1 h2 hkk H locs cells slots A g1 g2 g3 g4 g5
  subst eN; subst eK
  have c1 : (nI N).toNatClampNeg = N := nI_clamp (by omega)
  have c2 : (nI K).toNatClampNeg = K := nI_clamp (by omega)
  have hts := hx.2.2.2.2.1
  have hKK := hx.2.2.2.2.2.2.2.2
  intro T hT Xs
  obtain ⟨vm₁, cA, comp, -, fA, fC, hO, -, X', step⟩ := Xs.multianewarray2F (ty := .int) hx.1 hx.2.2.2.1 (hts _ hL) (show (Cond.arrayOver (.array .int)).before args s = true from hKK.2.2.1.2) (hts _ hA) (g := F0 m pc A (.int (nI K) :: .int (nI N) :: rest.map (ev_tr G))) rfl (by rw [hx.2.1]; exact hd) rfl (nI_pos (by omega)) (nI_pos (by omega)) (by rw [c1]; omega) (by rw [c2]; show K * 4 ≤ _; omega) (by rw [c2]; omega) rfl rfl (by rw [c1]; omega) (by rw [c1, c2]; omega)
  rw [c1, c2] at X' step
  have eA : cA = G.2.2.2.1 3 := ev_known_arr (t := 3) (ty := .array .int) hKK rfl (fun C q => by cases q) fA
  have eC : comp = G.2.2.2.1 0 := ev_known_arr (t := 0) (ty := .int) hKK rfl (fun C q => by cases q) fC
  subst eA; subst eC
  generalize hF : Jvm.Free.Multi.fill (T.setVm vm₁) (G.2.2.2.1 3) (G.2.2.2.1 0) N K (defaultValue .int) N = F at X' step
  have hTh : (T.setVm vm₁).heap = H := hT
  obtain ⟨f1, f2, -, -⟩ := Jvm.Free.Multi.fill_facts (T.setVm vm₁) (G.2.2.2.1 3) (G.2.2.2.1 0) N K (defaultValue .int) N
  rw [hF, hTh] at f1 f2
  have hold : ∀ x : Nat, x < H.size → F.heap[x]? = H[x]? := fun x hx => by
    have := Jvm.Free.Multi.fill_old (T.setVm vm₁) (G.2.2.2.1 3) (G.2.2.2.1 0) N K (defaultValue .int) (a := x) (by rw [hTh]; exact hx) N
    rw [hF, hTh] at this
    exact this
  have hrow : ∀ j : Nat, j < N → F.heap[H.size + 1 + j]? = some (Jvm.Free.Multi.innerC (G.2.2.2.1 0) K (defaultValue .int)) := fun j hj => by
    have := Jvm.Free.Multi.fill_inner (T.setVm vm₁) (G.2.2.2.1 3) (G.2.2.2.1 0) N K (defaultValue .int) N j hj
    rw [hF, hTh] at this
    exact this
  rw [ev_outer] at f2
  have hsz := g1.1
  have hrel : ev_Rel G (hgrid h N K) F.heap := by
    refine ⟨by rw [f1, hsz]; show _ = _ + (h.1 + 1 + N); omega, hb, fun q hq => (hold q (by omega)).trans (g1.2.2.1 q hq), fun j hj => ?_⟩
    have hj : j < h.1 + 1 + N := hj
    by_cases e1 : j = h.1
    · subst e1
      have e9 : (hgrid h N K).2 h.1 = aG N (fun i => if i < N then some (h.1 + 1 + i) else none) := by simp [hgrid]
      rw [e9]
      show F.heap[G.2.1.size + h.1]? = some (vp_cell _ _)
      rw [← hsz, f2, vp_cell_q]
      refine congrArg some (congrArg (arrV _ N) (funext fun i => ?_))
      by_cases hi : i < N
      · simp only [if_pos hi, Option.map_some, va_rf]
        rw [show ev_ad G (h.1 + 1 + i) = G.2.1.size + (h.1 + 1 + i) from if_pos (by omega), hsz]
        exact congrArg Value.ref (by simp only [Nat.add_assoc])
      · simp only [if_neg hi, Option.map_none, va_rf]
    · by_cases e2 : h.1 < j
      · have e9 : (hgrid h N K).2 j = aI K (fun _ => 0) := by simp [hgrid, e1, e2, hj]
        rw [e9]
        show F.heap[G.2.1.size + j]? = some (vp_cell _ _)
        have := hrow (j - h.1 - 1) (by omega)
        rw [show H.size + 1 + (j - h.1 - 1) = G.2.1.size + j by omega] at this
        rw [this, vp_cell_i]
        exact congrArg some (arrV_new _ _ _)
      · have e9 : (hgrid h N K).2 j = h.2 j := by simp [hgrid, e1, e2]
        rw [e9]
        exact (g1.2.2.2 j (by omega)).kept (hold _ (by show G.2.1.size + j < _; omega))
  have := hE p e Rm s m args below meth c Q hx h1 h2 hkk F.heap locs (cells + 1 + N) (slots + N + N * K) A hrel g2 (by omega) (by omega) g5 F rfl X'
  rw [List.map_cons] at this
  simp only [ev_tr] at this
  rw [show ev_ad G h.1 = G.2.1.size + h.1 from if_pos (by omega), ← hsz] at this
  obtain ⟨t, a1, b1⟩ := this
  refine ⟨t, step t ?_, b1⟩
  have e8 : T.heap.size = H.size := by rw [hT]
  rw [e8]
  exact a1
end EVB
