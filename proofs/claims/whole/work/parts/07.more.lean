/-! what is made; constants; the library's own -/
section EVM
variable {G : ev_G} {d k n : Nat} {M : ev_M} {pc idx : Nat} {ls rest st : List Value} {h : ev_H} {R : Option Value → ev_H → Prop}
theorem ev_push_locs {G : ev_G} {h : ev_H} {H : Heap} (g1 : ev_Rel G h H) (hb : h.1 < ev_big) : ev_ad G h.1 = H.size := by rw [ev_ad_lt hb (Nat.le_refl _), g1.1]
theorem Ev.new {ci : Nat} {r : vw_C} {tyf : Nat → FieldType} {fs : List Value} (hcl : ev_cls ci r tyf) (hL : Cond.classLink M.1.cls idx r.1 ∈ ev_ws) (hi : Cond.instantiable r.1 r.2.2 ∈ ev_ws) (hini : Cond.initialized r.1 ∈ ev_ws) (hd : decode M.2.1 pc = .ok (.new idx, 3)) (hb : h.1 < ev_big) (hfs : ∀ j, j < r.2.2 → defaultValue (tyf j) = vp_V fs j) (hfr : ∀ v ∈ fs, ∀ a, v ≠ .ref a)
    (hE : Ev G d k n M (pc + 3) ls (.ref h.1 :: rest) (hpush h (oC ci fs)) R) : Ev G d (k + 1) (n + r.2.2) M pc ls rest h R := by
  intro p e Rm s m args below meth c Q hx h1 h2 hkk H locs cells slots A g1 g2 g3 g4 g5
  obtain ⟨hc, hin, hnm, hty⟩ := hcl
  obtain ⟨C, T, N⟩ := r
  have hts := hx.2.2.2.2.1
  have hKn := hx.2.2.2.2.2.2.2.2.1.1 ci _ hc
  refine W.newcK hx.1 hx.2.1 hx.2.2.2.1 (hts _ hL) (hts _ hi) (hts _ hini) rfl hd (by omega) (by omega) hKn.2.1 rfl fun H1 kC hkC e1 z1 o1 => ?_
  have hmap : fs.map (ev_tr G) = fs := by
    refine (List.map_congr_left fun v hv => ?_).trans (List.map_id' fs)
    have := hfr v hv
    cases v <;> first | rfl | exact absurd rfl (this _)
  have hrel := g1.push hb (c := oC ci fs) (H1 := H1) ⟨_, hc, by rw [hmap]; exact (u_born tyf hts hin hKn hkC e1 hty).to hfs⟩ z1 o1
  have := hE p e Rm s m args below meth c Q hx h1 h2 hkk H1 locs (cells + 1) (slots + N) A hrel g2 (by omega) (by have : (C, T, N).2.2 = N := rfl; omega) g5
  rw [List.map_cons] at this
  simp only [ev_tr] at this
  rw [ev_push_locs g1 hb] at this
  exact this
theorem ev_known_arr {G : ev_G} {s : State} {cA : ClassId} {t : Nat} {ty : FieldType} (hK : ev_K G s) (ht : (ev_tys G)[t]? = some (G.2.2.2.1 t, ty)) (hno : ∀ C, ty ≠ .object C) (h : s.vm.findClass ("[" ++ ty.toString) = some cA) : cA = G.2.2.2.1 t := by
  have := (hK.1.2 t _ ht).2
  cases ty with
  | object C => exact absurd rfl (hno C)
  | _ => exact Option.some.inj (h.symm.trans this)
theorem Ev.newI {N : Nat} (hA : Cond.arrayClass .int ∈ ev_ws) (hd : decode M.2.1 pc = .ok (.newarray .int, 2)) (hb : h.1 < ev_big) {i : Int32} (hi : i = nI N) (hN : N < 100000) (hE : Ev G d k n M (pc + 2) ls (.ref h.1 :: rest) (hpush h (aI N (fun _ => 0))) R) : Ev G d (k + 1) (n + N) M pc ls (.int i :: rest) h R := by
  intro p e Rm s m args below meth c Q hx h1 h2 hkk H locs cells slots A g1 g2 g3 g4 g5
  subst hi
  refine va_newaK (N := N) (atype := .int) hx.1 hx.2.1 (hx.2.2.2.2.1 _ hA) rfl hd rfl (nI_pos (by omega)) (nI_clamp (by omega)) (by show N * 4 ≤ _; omega) (by omega) (by omega) rfl fun H1 cA e1 z1 o1 hAr hNm => ?_
  have ec := ev_known_arr (t := 0) (ty := .int) hx.2.2.2.2.2.2.2.2 rfl (fun C q => by cases q) hNm
  subst ec
  have hrel := g1.push hb (c := aI N (fun _ => 0)) (H1 := H1) (show H1[H.size]? = some (vp_cell _ _) by rw [vp_cell_i]; exact e1) z1 o1
  have := hE p e Rm s m args below meth c Q hx h1 h2 hkk H1 locs (cells + 1) (slots + N) A hrel g2 (by omega) (by omega) g5
  rw [List.map_cons] at this
  simp only [ev_tr] at this
  rw [ev_push_locs g1 hb] at this
  exact this
theorem Ev.newL {N : Nat} (hA : Cond.arrayClass .long ∈ ev_ws) (hd : decode M.2.1 pc = .ok (.newarray .long, 2)) (hb : h.1 < ev_big) {i : Int32} (hi : i = nI N) (hN : N < 100000) (hE : Ev G d k n M (pc + 2) ls (.ref h.1 :: rest) (hpush h (aL N (fun _ => 0))) R) : Ev G d (k + 1) (n + N) M pc ls (.int i :: rest) h R := by
  intro p e Rm s m args below meth c Q hx h1 h2 hkk H locs cells slots A g1 g2 g3 g4 g5
  subst hi
  refine va_newaK (N := N) (atype := .long) hx.1 hx.2.1 (hx.2.2.2.2.1 _ hA) rfl hd rfl (nI_pos (by omega)) (nI_clamp (by omega)) (by show N * 8 ≤ _; omega) (by omega) (by omega) rfl fun H1 cA e1 z1 o1 hAr hNm => ?_
  have ec := ev_known_arr (t := 1) (ty := .long) hx.2.2.2.2.2.2.2.2 rfl (fun C q => by cases q) hNm
  subst ec
  have hrel := g1.push hb (c := aL N (fun _ => 0)) (H1 := H1) (show H1[H.size]? = some (vp_cell _ _) by rw [vp_cell_l]; exact e1) z1 o1
  have := hE p e Rm s m args below meth c Q hx h1 h2 hkk H1 locs (cells + 1) (slots + N) A hrel g2 (by omega) (by omega) g5
  rw [List.map_cons] at this
  simp only [ev_tr] at this
  rw [ev_push_locs g1 hb] at this
  exact this
theorem Ev.newB {N : Nat} (hA : Cond.arrayClass .byte ∈ ev_ws) (hd : decode M.2.1 pc = .ok (.newarray .byte, 2)) (hb : h.1 < ev_big) {i : Int32} (hi : i = nI N) (hN : N < 100000) (hE : Ev G d k n M (pc + 2) ls (.ref h.1 :: rest) (hpush h (aB N (fun _ => 0))) R) : Ev G d (k + 1) (n + N) M pc ls (.int i :: rest) h R := by
  intro p e Rm s m args below meth c Q hx h1 h2 hkk H locs cells slots A g1 g2 g3 g4 g5
  subst hi
  refine va_newaK (N := N) (atype := .byte) hx.1 hx.2.1 (hx.2.2.2.2.1 _ hA) rfl hd rfl (nI_pos (by omega)) (nI_clamp (by omega)) (by show N * 1 ≤ _; omega) (by omega) (by omega) rfl fun H1 cA e1 z1 o1 hAr hNm => ?_
  have ec := ev_known_arr (t := 2) (ty := .byte) hx.2.2.2.2.2.2.2.2 rfl (fun C q => by cases q) hNm
  subst ec
  have hrel := g1.push hb (c := aB N (fun _ => 0)) (H1 := H1) (show H1[H.size]? = some (vp_cell _ _) by rw [vp_cell_i]; exact e1) z1 o1
  have := hE p e Rm s m args below meth c Q hx h1 h2 hkk H1 locs (cells + 1) (slots + N) A hrel g2 (by omega) (by omega) g5
  rw [List.map_cons] at this
  simp only [ev_tr] at this
  rw [ev_push_locs g1 hb] at this
  exact this
theorem Ev.newS {N : Nat} (hL : Cond.classLink M.1.cls idx "AlikeStore$Store" ∈ ev_ws) (hd : decode M.2.1 pc = .ok (.anewarray idx, 3)) (hb : h.1 < ev_big) {i : Int32} (hi : i = nI N) (hN : N < 100000) (hE : Ev G d k n M (pc + 3) ls (.ref h.1 :: rest) (hpush h (aS N (fun _ => none))) R) : Ev G d (k + 1) (n + N) M pc ls (.int i :: rest) h R := by
  intro p e Rm s m args below meth c Q hx h1 h2 hkk H locs cells slots A g1 g2 g3 g4 g5
  subst hi
  have hcl : (nI N).toNatClampNeg = N := nI_clamp (by omega)
  refine W.anew hx.1 hx.2.1 hx.2.2.2.1 (hx.2.2.2.2.1 _ hL) (va_AO.use hx.2.2.2.2.2.2.2.2.2.2.1.1) rfl hd rfl (nI_pos (by omega)) (by rw [hcl]; omega) (by omega) (by rw [hcl]; omega) fun cA kA comp f1 f2 f3 f4 => ?_
  rw [hcl]
  generalize hH1 : H.push ({ cls := cA, slots := Array.replicate N .null, vm := .none } : Cell) = H1
  have z1 : H1.size = H.size + 1 := by rw [← hH1, Array.size_push]
  have e1 : H1[H.size]? = some (arrV cA N (fun _ => .null)) := by rw [← hH1, Array.getElem?_push_size, ← arrV_new]
  have o1 : ∀ q : Nat, q < H.size → H1[q]? = H[q]? := fun q hq => by rw [← hH1, Array.getElem?_push, if_neg (Nat.ne_of_lt hq)]
  have ec : cA = G.2.2.2.1 4 := by
    obtain ⟨kA', comp', w1, w2, w3, w4⟩ := (hx.2.2.2.2.2.2.2.2.1.2 4 _ rfl).2
    exact Option.some.inj (f1.symm.trans w4)
  subst ec
  have hrel := g1.push hb (c := aS N (fun _ => none)) (H1 := H1) (show H1[H.size]? = some (vp_cell _ _) by rw [vp_cell_q]; exact e1) z1 o1
  have := hE p e Rm s m args below meth c Q hx h1 h2 hkk H1 locs (cells + 1) (slots + N) A hrel g2 (by omega) (by omega) g5
  rw [List.map_cons] at this
  simp only [ev_tr] at this
  rw [ev_push_locs g1 hb] at this
  exact this
theorem Ev.aast {a b j N : Nat} {f : Nat → Option Nat} {fs : List Value} {i : Int32} (hd : decode M.2.1 pc = .ok (.aastore, 1)) (hc : hat h a (aS N f)) (hb : hat h b (oC 6 fs)) (hi : ev_ix i j N) (hE : Ev G d k n M (pc + 1) ls rest (hset h a (aS N (va_up f j (some b)))) R) : Ev G d k n M pc ls (.ref b :: .int i :: .ref a :: rest) h R := by
  intro p e Rm s m args below meth c Q hx h1 h2 hkk H locs cells slots A g1 g2 g3 g4 g5
  have hat' := g1.at hc.1
  rw [hc.2] at hat'
  have hatb := g1.at hb.1
  rw [hb.2] at hatb
  obtain ⟨hin, e'⟩ := hi.in
  have hlt : i.toNatClampNeg < N := by rw [e']; exact hi.2.1
  have h0 : ¬ i < 0 := fun q => hin (Or.inl q)
  obtain ⟨r', hr', cellV, w1, w2, w3, -⟩ := hatb
  have hcls := (hx.2.2.2.2.2.2.2.2.1.1 6 _ hr').2
  obtain ⟨kA, comp, k1, k2, k3, -⟩ := (hx.2.2.2.2.2.2.2.2.1.2 4 _ rfl).2
  have hr6 : r' = (RX6, TX6, 7) := (Option.some.inj hr').symm
  subst hr6
  have hcomp : comp = G.2.2.1.1 6 := Option.some.inj (k3.symm.trans hcls.1)
  subst hcomp
  obtain ⟨kC, hkC, -⟩ := hcls.2
  refine W.aast hx.1 hx.2.1 (cell := vp_cell (G.2.2.2.1 4) (N, .inr (.inr (.inr (.inr (fun j => (f j).map (ev_ad G))))))) hat' (fun q h => by cases h) (fun h => by cases h) k1 k2 rfl hkC ⟨h0, by show _ < (arrV _ _ _).slots.size; rw [arrV_size]; exact hlt⟩ w1 (fun q h => by rw [w3] at h; cases h) (by rw [w2]; exact hkC) (by rw [w2]; exact va_assign hcls) rfl rfl hd fun H1 e1 z oq => ?_
  refine hE p e Rm s m args below meth c Q hx h1 h2 hkk H1 _ cells slots A (g1.put hc.1 ?_ z oq) (ev_locs g2 (ev_ad_ge hc.1 g1.2.1)) g3 g4 g5
  show H1[ev_ad G a]? = some (vp_cell _ _)
  rw [e1, vp_cell_q, vp_cell_q, arrV_store, e']
  congr 2
  funext q
  by_cases hq : q = j
  · subst hq; simp [updV, va_up, va_rf]
  · simp [updV, va_up, hq]
theorem Ev.ldc {v : Int32} (hC : Cond.constant M.1.cls idx v ∈ ev_ws) (hd : decode M.2.1 pc = .ok (.ldc idx, 2)) (hE : Ev G d k n M (pc + 2) ls (.int v :: st) h R) : Ev G d k n M pc ls st h R := by
  intro p e Rm s m args below meth c Q hx h1 h2 hkk H locs cells slots A g1 g2 g3 g4 g5
  exact lv_ldc hx.1 hx.2.1 hx.2.2.2.1 (hx.2.2.2.2.1 _ hC) hd (hE p e Rm s m args below meth c Q hx h1 h2 hkk H locs cells slots A g1 g2 g3 g4 g5)
theorem Ev.ldcw {v : Int32} (hC : Cond.constant M.1.cls idx v ∈ ev_ws) (hd : decode M.2.1 pc = .ok (.ldc_w idx, 3)) (hE : Ev G d k n M (pc + 3) ls (.int v :: st) h R) : Ev G d k n M pc ls st h R := by
  intro p e Rm s m args below meth c Q hx h1 h2 hkk H locs cells slots A g1 g2 g3 g4 g5
  exact lv_ldcw hx.1 hx.2.1 hx.2.2.2.1 (hx.2.2.2.2.1 _ hC) hd (hE p e Rm s m args below meth c Q hx h1 h2 hkk H locs cells slots A g1 g2 g3 g4 g5)
theorem Ev.ldc2 {v : Int64} (hC : Cond.constantLong M.1.cls idx v ∈ ev_ws) (hd : decode M.2.1 pc = .ok (.ldc2_w idx, 3)) (hE : Ev G d k n M (pc + 3) ls (.long v :: st) h R) : Ev G d k n M pc ls st h R := by
  intro p e Rm s m args below meth c Q hx h1 h2 hkk H locs cells slots A g1 g2 g3 g4 g5
  exact lv_ldc2 hx.1 hx.2.1 hx.2.2.2.1 (hx.2.2.2.2.1 _ hC) hd (hE p e Rm s m args below meth c Q hx h1 h2 hkk H locs cells slots A g1 g2 g3 g4 g5)
/-- a text of the tables, the i-th -/
theorem Ev.ldcS {i : Nat} {tx : String} (hS : ev_strs[i]? = some (M.1.cls, idx, tx)) (hd : decode M.2.1 pc = .ok (.ldc idx, 2)) (hE : Ev G d k n M (pc + 2) ls (.ref (ev_big + i) :: st) h R) : Ev G d k n M pc ls st h R := by
  intro p e Rm s m args below meth c Q hx h1 h2 hkk H locs cells slots A g1 g2 g3 g4 g5
  have hR := hx.2.2.2.2.2.2.2.2.2.2.2.2 i _ hS
  have := hE p e Rm s m args below meth c Q hx h1 h2 hkk H locs cells slots A g1 g2 g3 g4 g5
  rw [List.map_cons] at this
  simp only [ev_tr] at this
  rw [show ev_ad G (ev_big + i) = G.2.2.2.2 i by unfold ev_ad; rw [if_neg (by omega), Nat.add_sub_cancel_left]] at this
  exact va_ldcS hx.1 hx.2.1 hx.2.2.2.1 hR hd this
theorem Ev.nnR {a : Nat} {o : Int} {t : Nat} (hd : decode M.2.1 pc = .ok (.ifnonnull o, 3)) (ht : (pc : Int) + o = t) (hE : Ev G d k n M t ls st h R) : Ev G d k n M pc ls (.ref a :: st) h R := by
  intro p e Rm s m args below meth c Q hx h1 h2 hkk H locs cells slots A g1 g2 g3 g4 g5
  exact lv_ifnonnull hx.1 hx.2.1 hd ht (hE p e Rm s m args below meth c Q hx h1 h2 hkk H locs cells slots A g1 g2 g3 g4 g5)
theorem Ev.nnN {o : Int} (hd : decode M.2.1 pc = .ok (.ifnonnull o, 3)) (hE : Ev G d k n M (pc + 3) ls st h R) : Ev G d k n M pc ls (.null :: st) h R := by
  intro p e Rm s m args below meth c Q hx h1 h2 hkk H locs cells slots A g1 g2 g3 g4 g5
  exact lv_ifnonnullN hx.1 hx.2.1 hd (hE p e Rm s m args below meth c Q hx h1 h2 hkk H locs cells slots A g1 g2 g3 g4 g5)
theorem Ev.nR {a : Nat} {o : Int} (hd : decode M.2.1 pc = .ok (.ifnull o, 3)) (hE : Ev G d k n M (pc + 3) ls st h R) : Ev G d k n M pc ls (.ref a :: st) h R := by
  intro p e Rm s m args below meth c Q hx h1 h2 hkk H locs cells slots A g1 g2 g3 g4 g5
  exact lv_ifnull hx.1 hx.2.1 hd (hE p e Rm s m args below meth c Q hx h1 h2 hkk H locs cells slots A g1 g2 g3 g4 g5)
theorem Ev.nN {o : Int} {t : Nat} (hd : decode M.2.1 pc = .ok (.ifnull o, 3)) (ht : (pc : Int) + o = t) (hE : Ev G d k n M t ls st h R) : Ev G d k n M pc ls (.null :: st) h R := by
  intro p e Rm s m args below meth c Q hx h1 h2 hkk H locs cells slots A g1 g2 g3 g4 g5
  exact lv_ifnullN hx.1 hx.2.1 hd ht (hE p e Rm s m args below meth c Q hx h1 h2 hkk H locs cells slots A g1 g2 g3 g4 g5)
theorem Ev.idiv {x y : Int32} (hd : decode M.2.1 pc = .ok (.idiv, 1)) (hy : ¬ y = 0) (hE : Ev G d k n M (pc + 1) ls (.int (x / y) :: st) h R) : Ev G d k n M pc ls (.int y :: .int x :: st) h R := by
  intro p e Rm s m args below meth c Q hx h1 h2 hkk H locs cells slots A g1 g2 g3 g4 g5
  exact lv_idiv hx.1 hx.2.1 hd hy (hE p e Rm s m args below meth c Q hx h1 h2 hkk H locs cells slots A g1 g2 g3 g4 g5)
theorem Ev.irem {x y : Int32} (hd : decode M.2.1 pc = .ok (.irem, 1)) (hy : ¬ y = 0) (hE : Ev G d k n M (pc + 1) ls (.int (x - x / y * y) :: st) h R) : Ev G d k n M pc ls (.int y :: .int x :: st) h R := by
  intro p e Rm s m args below meth c Q hx h1 h2 hkk H locs cells slots A g1 g2 g3 g4 g5
  exact lv_irem hx.1 hx.2.1 hd hy (hE p e Rm s m args below meth c Q hx h1 h2 hkk H locs cells slots A g1 g2 g3 g4 g5)
theorem Ev.ldiv {x y : Int64} (hd : decode M.2.1 pc = .ok (.ldiv, 1)) (hy : ¬ y = 0) (hE : Ev G d k n M (pc + 1) ls (.long (x / y) :: st) h R) : Ev G d k n M pc ls (.long y :: .long x :: st) h R := by
  intro p e Rm s m args below meth c Q hx h1 h2 hkk H locs cells slots A g1 g2 g3 g4 g5
  exact lv_ldiv hx.1 hx.2.1 hd hy (hE p e Rm s m args below meth c Q hx h1 h2 hkk H locs cells slots A g1 g2 g3 g4 g5)
/-- tableswitch: where it goes -/
theorem Ev.tsw {o lo hi : Int} {offs : Array Int} {len : Nat} {x : Int32} {off : Int} {t : Nat} (hd : decode M.2.1 pc = .ok (.tableswitch o lo hi offs, len)) (h1 : lo ≤ x.toInt) (h2 : x.toInt ≤ hi) (ho : offs[(x.toInt - lo).toNat]? = some off) (ht : (pc : Int) + off = t) (hE : Ev G d k n M t ls st h R) : Ev G d k n M pc ls (.int x :: st) h R := by
  intro p e Rm s m args below meth c Q hx h1' h2' hkk H locs cells slots A g1 g2 g3 g4 g5
  exact lv_tableIn hx.1 hx.2.1 hd (by omega) (by omega) ho ht (hE p e Rm s m args below meth c Q hx h1' h2' hkk H locs cells slots A g1 g2 g3 g4 g5)
theorem Ev.tswd {o lo hi : Int} {offs : Array Int} {len : Nat} {x : Int32} {t : Nat} (hd : decode M.2.1 pc = .ok (.tableswitch o lo hi offs, len)) (h1 : x.toInt < lo ∨ hi < x.toInt) (ht : (pc : Int) + o = t) (hE : Ev G d k n M t ls st h R) : Ev G d k n M pc ls (.int x :: st) h R := by
  intro p e Rm s m args below meth c Q hx h1' h2' hkk H locs cells slots A g1 g2 g3 g4 g5
  exact lv_tableOut hx.1 hx.2.1 hd h1 ht (hE p e Rm s m args below meth c Q hx h1' h2' hkk H locs cells slots A g1 g2 g3 g4 g5)
theorem ev_sum {G : ev_G} (rest : List Value) : ((rest.map (ev_tr G)).map fun v => v.category).sum = (rest.map fun v => v.category).sum := by
  rw [List.map_map]; exact congrArg List.sum (List.map_congr_left fun v _ => ev_cat G v)
theorem Ev.mmin {x y : Int32} (hL : Cond.methodLink M.1.cls idx Lib.Math.min.name ∈ ev_ws) (hst : Cond.static Lib.Math.min.name ∈ ev_ws) (hini : Cond.initialized "java/lang/Math" ∈ ev_ws) (hco : Cond.code Lib.Math.min.name Lib.Math.min.code 2 (some .int) ∈ ev_ws) (hr : (rest.map fun v => v.category).sum ≤ 8) (hd : decode M.2.1 pc = .ok (.invokestatic idx, 3))
    (hE : Ev G (d + 1) k n M (pc + 3) ls (.int (if y < x then y else x) :: rest) h R) : Ev G (d + 1) k n M pc ls (.int y :: .int x :: rest) h R := by
  intro p e Rm s m args below meth c Q hx h1 h2 hkk H locs cells slots A g1 g2 g3 g4 g5
  have hts := hx.2.2.2.2.1
  exact va_mmin hx.1 hx.2.1 (hx.2.2.1.trans g5.1.symm) hx.2.2.2.1 (hts _ hL) (hts _ hst) (hts _ hini) (hts _ hco) (by omega) (by rw [ev_sum]; omega) (by omega) (by omega) hd (hE p e Rm s m args below meth c Q hx h1 h2 hkk H locs cells slots A g1 g2 g3 g4 g5)
theorem Ev.mmax {x y : Int32} (hL : Cond.methodLink M.1.cls idx Lib.Math.max.name ∈ ev_ws) (hst : Cond.static Lib.Math.max.name ∈ ev_ws) (hini : Cond.initialized "java/lang/Math" ∈ ev_ws) (hco : Cond.code Lib.Math.max.name Lib.Math.max.code 2 (some .int) ∈ ev_ws) (hr : (rest.map fun v => v.category).sum ≤ 8) (hd : decode M.2.1 pc = .ok (.invokestatic idx, 3))
    (hE : Ev G (d + 1) k n M (pc + 3) ls (.int (if x < y then y else x) :: rest) h R) : Ev G (d + 1) k n M pc ls (.int y :: .int x :: rest) h R := by
  intro p e Rm s m args below meth c Q hx h1 h2 hkk H locs cells slots A g1 g2 g3 g4 g5
  have hts := hx.2.2.2.2.1
  exact va_mmax hx.1 hx.2.1 (hx.2.2.1.trans g5.1.symm) hx.2.2.2.1 (hts _ hL) (hts _ hst) (hts _ hini) (hts _ hco) (by omega) (by rw [ev_sum]; omega) (by omega) (by omega) hd (hE p e Rm s m args below meth c Q hx h1 h2 hkk H locs cells slots A g1 g2 g3 g4 g5)
theorem Ev.mabs {x : Int32} (hL : Cond.methodLink M.1.cls idx Lib.Math.abs.name ∈ ev_ws) (hst : Cond.static Lib.Math.abs.name ∈ ev_ws) (hini : Cond.initialized "java/lang/Math" ∈ ev_ws) (hco : Cond.code Lib.Math.abs.name Lib.Math.abs.code 1 (some .int) ∈ ev_ws) (hr : (rest.map fun v => v.category).sum ≤ 8) (hd : decode M.2.1 pc = .ok (.invokestatic idx, 3))
    (hE : Ev G (d + 1) k n M (pc + 3) ls (.int (if 0 ≤ x then x else 0 - x) :: rest) h R) : Ev G (d + 1) k n M pc ls (.int x :: rest) h R := by
  intro p e Rm s m args below meth c Q hx h1 h2 hkk H locs cells slots A g1 g2 g3 g4 g5
  have hts := hx.2.2.2.2.1
  exact va_mabs hx.1 hx.2.1 (hx.2.2.1.trans g5.1.symm) hx.2.2.2.1 (hts _ hL) (hts _ hst) (hts _ hini) (hts _ hco) (by omega) (by rw [ev_sum]; omega) (by omega) (by omega) hd (hE p e Rm s m args below meth c Q hx h1 h2 hkk H locs cells slots A g1 g2 g3 g4 g5)
theorem Ev.objI {a : Nat} (hL : Cond.methodLink M.1.cls idx objectInit ∈ ev_ws) (hin : Cond.instanceMethod objectInit ∈ ev_ws) (hco : Cond.code objectInit ⟨#[0xb1]⟩ 1 none ∈ ev_ws) (hr : (rest.map fun v => v.category).sum ≤ 8) (hd : decode M.2.1 pc = .ok (.invokespecial idx, 3)) (hE : Ev G (d + 1) k n M (pc + 3) ls rest h R) : Ev G (d + 1) k n M pc ls (.ref a :: rest) h R := by
  intro p e Rm s m args below meth c Q hx h1 h2 hkk H locs cells slots A g1 g2 g3 g4 g5
  have hts := hx.2.2.2.2.1
  exact W.objInit hx.1 hx.2.1 hx.2.2.2.1 (hts _ hL) (hts _ hin) (hts _ hco) rfl (g5.1.trans hx.2.2.1.symm) rfl hd (by omega) (by show 2 * 0 + _ + 12 ≤ _; rw [ev_sum]; omega) (hE p e Rm s m args below meth c Q hx h1 h2 hkk H locs cells slots A g1 g2 g3 g4 g5)
end EVM
