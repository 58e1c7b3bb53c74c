/-! fields and arrays -/
def hat (h : ev_H) (a : Nat) (c : ev_C) : Prop := a < h.1 ∧ h.2 a = c
theorem hat_set {h : ev_H} {a : Nat} {c c' : ev_C} (H : hat h a c) : hat (hset h a c') a c' := ⟨H.1, hset_eq h a c'⟩
theorem hat_ne {h : ev_H} {a b : Nat} {c c' : ev_C} (H : hat h a c) (hb : a ≠ b) : hat (hset h b c') a c := ⟨H.1, (hset_ne h c' hb).trans H.2⟩
theorem hat_pushed (h : ev_H) (c : ev_C) : hat (hpush h c) h.1 c := ⟨Nat.lt_succ_self _, hpush_eq h c⟩
theorem hat_push {h : ev_H} {a : Nat} {c c' : ev_C} (H : hat h a c) : hat (hpush h c') a c := ⟨Nat.lt_succ_of_lt H.1, (hpush_ne h c' (Nat.ne_of_lt H.1)).trans H.2⟩
/-- what the tables say of a class -/
def ev_cls (ci : Nat) (r : vw_C) (ty : Nat → FieldType) : Prop := vwCl[ci]? = some r ∧ (∀ w ∈ u_ws r.1 r.2.1 r.2.2, w ∈ ev_ws) ∧ (∀ a, a < r.2.2 → ∀ b, b < r.2.2 → a ≠ b → (r.2.1 a).2.1 ≠ (r.2.1 b).2.1) ∧ ∀ k, k < r.2.2 → parseFieldDescriptor (r.2.1 k).2.2.1 = some (ty k)
/-- a field as a method of class own names it -/
def ev_fld (own : String) (idx ci k : Nat) (ty : FieldType) (fin : Bool) : Prop := ∃ (r : vw_C) (tyf : Nat → FieldType), ev_cls ci r tyf ∧ k < r.2.2 ∧ tyf k = ty ∧ (r.2.1 k).2.2.2 = fin ∧ (r.2.1 k).1 = r.1 ∧ Cond.fieldLink own idx (r.2.1 k).1 (r.2.1 k).2.1 (r.2.1 k).2.2.1 ∈ ev_ws
def ev_fit : FieldType → Value → Bool
  | .int, .int _ => true
  | .long, .long _ => true
  | .array _, .ref _ => true
  | .array _, .null => true
  | .object _, .ref _ => true
  | .object _, .null => true
  | _, _ => false
theorem ev_fit_ok {G : ev_G} {ty : FieldType} {v : Value} (h : ev_fit ty v = true) : narrow ty (ev_tr G v) = ev_tr G v ∧ fits ty (ev_tr G v) = true := by
  cases ty <;> cases v <;> first | (cases h; done) | exact ⟨rfl, rfl⟩
section EVH
variable {G : ev_G} {d k n : Nat} {M : ev_M} {pc : Nat} {ls st : List Value} {h : ev_H} {R : Option Value → ev_H → Prop}
theorem ev_tr_get {G : ev_G} {fs : List Value} {k : Nat} {v : Value} (h : fs[k]? = some v) : (fs.map (ev_tr G))[k]? = some (ev_tr G v) := by rw [List.getElem?_map, h]; rfl
theorem Ev.getf {idx ci kf a : Nat} {ty : FieldType} {fin : Bool} {fs rest : List Value} {v : Value} (hF : ev_fld M.1.cls idx ci kf ty fin) (hd : decode M.2.1 pc = .ok (.getfield idx, 3)) (hc : hat h a (oC ci fs)) (hv : fs[kf]? = some v) (hE : Ev G d k n M (pc + 3) ls (v :: rest) h R) : Ev G d k n M pc ls (.ref a :: rest) h R := by
  intro p e Rm s m args below meth c Q hx h1 h2 hkk H locs cells slots A g1 g2 g3 g4 g5
  obtain ⟨⟨C, T, N⟩, tyf, ⟨hcl, hin, hnm, hty⟩, hk, rfl, hfin, hdec, hlink⟩ := hF
  have hat' := g1.at hc.1
  rw [hc.2] at hat'
  have kk := hE p e Rm s m args below meth c Q hx h1 h2 hkk H locs cells slots A g1 g2 g3 g4 g5
  obtain ⟨hexec, hb, hml, hown, hts, -, -, -, hK⟩ := hx
  refine va_get (C := C) (T := T) (N := N) (ws := [(ev_ad G a, ev_trE G (oC ci fs))]) hexec hb hts hin hown hK.1 (fun k q hk => ?_) 0 rfl hcl kf hk (hts _ hlink) (fun _ h9 => h9) (ev_tr_get hv) hd kk
  cases k with
  | zero => cases hk; exact hat'
  | succ k => cases hk
theorem ev_locs {G : ev_G} {locs : List Loc} {a i : Nat} (h : ∀ q ∈ locs, G.2.1.size ≤ q.base) (ha : G.2.1.size ≤ a) : ∀ q ∈ locs ++ [(⟨a, i⟩ : Loc)], G.2.1.size ≤ q.base := by
  intro q hq
  rcases List.mem_append.mp hq with h1 | h1
  · exact h q h1
  · rw [List.mem_singleton.mp h1]; exact ha
theorem ev_ad_ge {G : ev_G} {a n : Nat} (h : a < n) (hn : n ≤ ev_big) : G.2.1.size ≤ ev_ad G a := by rw [ev_ad_lt h hn]; omega
theorem ev_put_at {G : ev_G} {s : State} {args : Array Value} {H1 : Heap} {C : String} {T : u_T} {N ci kf a : Nat} {tyf : Nat → FieldType} {fs : List Value} {v : Value} {cell : Cell} (hts : ∀ w ∈ ev_ws, w.before args s = true) (hin : ∀ w ∈ u_ws C T N, w ∈ ev_ws) (hty : ∀ k, k < N → parseFieldDescriptor (T k).2.2.1 = some (tyf k)) (hnm : ∀ a, a < N → ∀ b, b < N → a ≠ b → (T a).2.1 ≠ (T b).2.1) (hK : va_K G.2.2.1 vwCl (ev_tys G) s) (hc : vwCl[ci]? = some (C, T, N)) (hk : kf < N) (hl : kf < fs.length)
    (q2 : cell.cls = G.2.2.1.1 ci) (q3 : cell.vm = .none) (q4 : ∀ k, k < N → cell.slots[G.2.2.1.2 ci k]? = some (vp_V (fs.map (ev_tr G)) k)) (e1 : H1[a]? = some (cell.setSlot (G.2.2.1.2 ci kf) (ev_tr G v))) : va_at G.2.2.1 vwCl (a, ev_trE G (oC ci (fs.set kf v))) H1 := by
  refine ⟨_, hc, ?_⟩
  have hap := va_apart (own := C) hts hin tyf hty hnm hK hc
  refine t_OB.to (V := updV (vp_V (fs.map (ev_tr G))) kf (ev_tr G v)) ⟨_, e1, q2, q3, t_set q4 hap hk (ev_tr G v)⟩ (fun j _ => ?_)
  rw [List.map_set]
  exact vp_updV_set (by rw [List.length_map]; exact hl) (ev_tr G v) j
/-- putfield: a field that isn't final, or one's own in the constructor -/
theorem Ev.putf {idx ci kf a : Nat} {ty : FieldType} {fin : Bool} {fs rest : List Value} {v : Value} (hF : ev_fld M.1.cls idx ci kf ty fin) (hd : decode M.2.1 pc = .ok (.putfield idx, 3)) (hc : hat h a (oC ci fs)) (hl : kf < fs.length) (hfit : ev_fit ty v = true) (hfin : fin = true → M.1.name = "<init>" ∧ ∃ r, vwCl[ci]? = some r ∧ r.1 = M.1.cls) (hE : Ev G d k n M (pc + 3) ls rest (hset h a (oC ci (fs.set kf v))) R) : Ev G d k n M pc ls (v :: .ref a :: rest) h R := by
  intro p e Rm s m args below meth c Q hx h1 h2 hkk H locs cells slots A g1 g2 g3 g4 g5
  obtain ⟨⟨C, T, N⟩, tyf, ⟨hcl, hin, hnm, hty⟩, hk, rfl, hfn, hdec, hlink⟩ := hF
  have hx0 := hx
  have hat' := g1.at hc.1
  rw [hc.2] at hat'
  obtain ⟨r', hr', cell, q1, q2, q3, q4⟩ := hat'
  have hr : r' = (C, T, N) := Option.some.inj (hr'.symm.trans hcl)
  subst hr
  obtain ⟨hexec, hb, hml, hown, hts, -, -, hname, hK⟩ := hx
  obtain ⟨hS, hfc, kC, hkC, hkind⟩ := hK.1.1 ci _ hcl
  obtain ⟨cf, kf', fi, f, hi, hsl⟩ := hS kf hk
  have hst := (u_facts hfc hkC (u_lays hts hin hk) hi).1
  obtain ⟨hn1, hn2⟩ := ev_fit_ok (G := G) hfit
  have hin' : kf < (fs.map (ev_tr G)).length := by rw [List.length_map]; exact hl
  have goal : ∀ H' : Heap, H'[ev_ad G a]? = some (cell.setSlot f.slot (ev_tr G v)) → H'.size = H.size → (∀ q, q ≠ ev_ad G a → H'[q]? = H[q]?) → W p G.1 e Rm s m args below meth c H' (locs ++ [⟨ev_ad G a, f.slot⟩]) cells slots Q (F0 m (pc + 3) A (rest.map (ev_tr G))) := by
    intro H' e1 e2 e3
    rw [hsl] at e1
    exact hE p e Rm s m args below meth c Q hx0 h1 h2 hkk H' _ cells slots A (g1.put hc.1 (ev_put_at hts hin hty hnm hK.1 hcl hk hl q2 q3 q4 e1) e2 e3) (ev_locs g2 (ev_ad_ge hc.1 g1.2.1)) g3 g4 g5
  cases fin with
  | false =>
    have hlay := hts _ (hin _ (u_in_lay hk))
    unfold u_lay at hlay
    rw [if_neg (by rw [hfn]; decide)] at hlay
    have h6 := u_store hfc hkC hkind hlay hi (hty kf hk) hn1 hn2
    exact W.putK hexec hb (f := f) ⟨hown, hts _ hlink, ⟨_, _, _, hi⟩, hst⟩ (by rw [q2]; exact h6) q1 q3 (by rw [hsl]; exact k2_hasslot (q4 kf hk)) rfl rfl hd goal
  | true =>
    obtain ⟨hnm1, r2, hr2, hr3⟩ := hfin rfl
    rw [hcl] at hr2; cases hr2
    have hlay := hts _ (hin _ (u_in_lay hk))
    unfold u_lay at hlay
    rw [if_pos hfn] at hlay
    have hcf : m.cls = cf := by
      obtain ⟨_, _, c', _, _, _, -, -, hf', -, -, -, hown2, -⟩ := Cond.laysFinal_spec hlay
      have e1 : c' = cf := by have := hi.symm.trans hf'; simp at this; exact this.1.symm
      rw [hdec] at hown2
      have hr3 : C = M.1.cls := hr3
      rw [← e1]; exact Option.some.inj (hown.symm.trans (by rw [← hr3]; exact hown2))
    have h6 := u_fits hfc hkC hkind (Or.inr hlay) hi (hty kf hk) hn1 hn2
    exact W.putFinK hexec hb hown (hts _ hlink) hi hst hcf (hname hnm1) (by rw [q2]; exact h6) q1 q3 (by rw [hsl]; exact k2_hasslot (q4 kf hk)) rfl rfl hd goal
/-- an index within -/
def ev_ix (i : Int32) (j n : Nat) : Prop := i = nI j ∧ j < n ∧ n < 2147483648
theorem ev_ix.in {i : Int32} {j n : Nat} (h : ev_ix i j n) : vp_in i n ∧ i.toNatClampNeg = j := by
  obtain ⟨rfl, h1, h2⟩ := h
  exact ⟨vp_in_nI h1 (by omega), nI_clamp (by omega)⟩
theorem ev_at0 {D : va_G} {cl : List vw_C} {q : Nat × va_E} {H : Heap} (h : va_at D cl q H) : va_P D cl [q] H := by
  intro k q' hk
  cases k with
  | zero => cases hk; exact h
  | succ k => cases hk
theorem Ev.iald {a j N : Nat} {f : Nat → Int32} {i : Int32} {rest : List Value} (hd : decode M.2.1 pc = .ok (.iaload, 1)) (hc : hat h a (aI N f)) (hi : ev_ix i j N) (hE : Ev G d k n M (pc + 1) ls (.int (f j) :: rest) h R) : Ev G d k n M pc ls (.int i :: .ref a :: rest) h R := by
  intro p e Rm s m args below meth c Q hx h1 h2 hkk H locs cells slots A g1 g2 g3 g4 g5
  have hat' := g1.at hc.1
  rw [hc.2] at hat'
  obtain ⟨hin, e'⟩ := hi.in
  refine va_iald hx.1 hx.2.1 hx.2.2.2.2.2.2.2.2.1 (ev_at0 hat') 0 0 rfl rfl hin hd ?_
  rw [e']
  exact hE p e Rm s m args below meth c Q hx h1 h2 hkk H locs cells slots A g1 g2 g3 g4 g5
theorem Ev.lald {a j N : Nat} {f : Nat → Int64} {i : Int32} {rest : List Value} (hd : decode M.2.1 pc = .ok (.laload, 1)) (hc : hat h a (aL N f)) (hi : ev_ix i j N) (hE : Ev G d k n M (pc + 1) ls (.long (f j) :: rest) h R) : Ev G d k n M pc ls (.int i :: .ref a :: rest) h R := by
  intro p e Rm s m args below meth c Q hx h1 h2 hkk H locs cells slots A g1 g2 g3 g4 g5
  have hat' := g1.at hc.1
  rw [hc.2] at hat'
  obtain ⟨hin, e'⟩ := hi.in
  refine va_lald hx.1 hx.2.1 hx.2.2.2.2.2.2.2.2.1 (ev_at0 hat') 0 1 rfl rfl hin hd ?_
  rw [e']
  exact hE p e Rm s m args below meth c Q hx h1 h2 hkk H locs cells slots A g1 g2 g3 g4 g5
theorem Ev.bald {a j N : Nat} {f : Nat → Int32} {i : Int32} {rest : List Value} (hd : decode M.2.1 pc = .ok (.baload, 1)) (hc : hat h a (aB N f)) (hi : ev_ix i j N) (hE : Ev G d k n M (pc + 1) ls (.int (f j) :: rest) h R) : Ev G d k n M pc ls (.int i :: .ref a :: rest) h R := by
  intro p e Rm s m args below meth c Q hx h1 h2 hkk H locs cells slots A g1 g2 g3 g4 g5
  have hat' := g1.at hc.1
  rw [hc.2] at hat'
  obtain ⟨hin, e'⟩ := hi.in
  refine va_bald hx.1 hx.2.1 hx.2.2.2.2.2.2.2.2.1 (ev_at0 hat') 0 2 rfl rfl hin hd ?_
  rw [e']
  exact hE p e Rm s m args below meth c Q hx h1 h2 hkk H locs cells slots A g1 g2 g3 g4 g5
theorem Ev.sald {a j N b : Nat} {f : Nat → Option Nat} {i : Int32} {rest : List Value} (hd : decode M.2.1 pc = .ok (.aaload, 1)) (hc : hat h a (aS N f)) (hi : ev_ix i j N) (hf : f j = some b) (hE : Ev G d k n M (pc + 1) ls (.ref b :: rest) h R) : Ev G d k n M pc ls (.int i :: .ref a :: rest) h R := by
  intro p e Rm s m args below meth c Q hx h1 h2 hkk H locs cells slots A g1 g2 g3 g4 g5
  have hat' := g1.at hc.1
  rw [hc.2] at hat'
  obtain ⟨hin, e'⟩ := hi.in
  refine va_aldq hx.1 hx.2.1 hx.2.2.2.2.2.2.2.2.1 (ev_at0 hat') 0 4 rfl rfl hin hd ?_
  rw [e', hf]
  exact hE p e Rm s m args below meth c Q hx h1 h2 hkk H locs cells slots A g1 g2 g3 g4 g5
theorem Ev.gald {a j N b : Nat} {f : Nat → Option Nat} {i : Int32} {rest : List Value} (hd : decode M.2.1 pc = .ok (.aaload, 1)) (hc : hat h a (aG N f)) (hi : ev_ix i j N) (hf : f j = some b) (hE : Ev G d k n M (pc + 1) ls (.ref b :: rest) h R) : Ev G d k n M pc ls (.int i :: .ref a :: rest) h R := by
  intro p e Rm s m args below meth c Q hx h1 h2 hkk H locs cells slots A g1 g2 g3 g4 g5
  have hat' := g1.at hc.1
  rw [hc.2] at hat'
  obtain ⟨hin, e'⟩ := hi.in
  have hlt : i.toNatClampNeg < N := by rw [e']; exact hi.2.1
  refine W.aald (v := .ref (ev_ad G b)) (ty := .array .int) hx.1 hx.2.1 hat' ((hx.2.2.2.2.2.2.2.2.1.2 3 _ rfl).1 N (fun j => va_rf ((f j).map (ev_ad G)))) rfl (fun q => by cases q) (by show ¬ (i < 0 ∨ (arrV _ _ _).slots.size ≤ _); rw [arrV_size]; exact hin) (by show (arrV _ _ _).slots[_]? = _; rw [arrV_read _ _ hlt, e']; show some (va_rf ((f j).map (ev_ad G))) = _; rw [hf]; rfl) rfl rfl hd ?_
  exact hE p e Rm s m args below meth c Q hx h1 h2 hkk H locs cells slots A g1 g2 g3 g4 g5
theorem Ev.alen {a t N : Nat} {x : (Nat → Int32) ⊕ (Nat → Int64) ⊕ (Nat → UInt32) ⊕ (Nat → UInt64) ⊕ (Nat → Option Nat)} {rest : List Value} (hd : decode M.2.1 pc = .ok (.arraylength, 1)) (hc : hat h a (.inl (t, N, x))) (ht : t < 5) (hE : Ev G d k n M (pc + 1) ls (.int (nI N) :: rest) h R) : Ev G d k n M pc ls (.ref a :: rest) h R := by
  intro p e Rm s m args below meth c Q hx h1 h2 hkk H locs cells slots A g1 g2 g3 g4 g5
  have hat' := g1.at hc.1
  rw [hc.2] at hat'
  have hty : ∃ ty, (ev_tys G)[t]? = some (G.2.2.2.1 t, ty) := by
    match t, ht with
    | 0, _ => exact ⟨_, rfl⟩
    | 1, _ => exact ⟨_, rfl⟩
    | 2, _ => exact ⟨_, rfl⟩
    | 3, _ => exact ⟨_, rfl⟩
    | 4, _ => exact ⟨_, rfl⟩
  obtain ⟨ty, hty⟩ := hty
  have kk := hE p e Rm s m args below meth c Q hx h1 h2 hkk H locs cells slots A g1 g2 g3 g4 g5
  rcases x with f | f | f | f | f
  all_goals exact va_alen hx.1 hx.2.1 hx.2.2.2.2.2.2.2.2.1 (ev_at0 hat') 0 t rfl hty rfl hd kk
theorem Ev.iast {a j N : Nat} {f : Nat → Int32} {i x : Int32} {rest : List Value} (hd : decode M.2.1 pc = .ok (.iastore, 1)) (hc : hat h a (aI N f)) (hi : ev_ix i j N) (hE : Ev G d k n M (pc + 1) ls rest (hset h a (aI N (upd f j x))) R) : Ev G d k n M pc ls (.int x :: .int i :: .ref a :: rest) h R := by
  intro p e Rm s m args below meth c Q hx h1 h2 hkk H locs cells slots A g1 g2 g3 g4 g5
  have hat' := g1.at hc.1
  rw [hc.2] at hat'
  obtain ⟨hin, e'⟩ := hi.in
  refine W.iast hx.1 hx.2.1 (cell := vp_cell (G.2.2.2.1 0) (N, .inl f)) hat' ((hx.2.2.2.2.2.2.2.2.1.2 0 _ rfl).1 N (fun j => .int (f j))) (fun q => by cases q) (by show ¬ (i < 0 ∨ (arrV _ _ _).slots.size ≤ _); rw [arrV_size]; exact hin) rfl rfl hd fun H1 e1 z oq => ?_
  refine hE p e Rm s m args below meth c Q hx h1 h2 hkk H1 _ cells slots A (g1.put hc.1 ?_ z oq) (ev_locs g2 (ev_ad_ge hc.1 g1.2.1)) g3 g4 g5
  show H1[ev_ad G a]? = some (vp_cell _ _)
  rw [e1, vp_cell_i, vp_cell_i, arrV_store, e']
  congr 2
  funext q
  by_cases hq : q = j
  · subst hq; simp [updV, upd]
  · simp [updV, upd, hq]
theorem Ev.bast {a j N : Nat} {f : Nat → Int32} {i x : Int32} {rest : List Value} (hd : decode M.2.1 pc = .ok (.bastore, 1)) (hc : hat h a (aB N f)) (hi : ev_ix i j N) (hE : Ev G d k n M (pc + 1) ls rest (hset h a (aB N (upd f j (vp_nar .byte x)))) R) : Ev G d k n M pc ls (.int x :: .int i :: .ref a :: rest) h R := by
  intro p e Rm s m args below meth c Q hx h1 h2 hkk H locs cells slots A g1 g2 g3 g4 g5
  have hat' := g1.at hc.1
  rw [hc.2] at hat'
  obtain ⟨hin, e'⟩ := hi.in
  refine W.bast hx.1 hx.2.1 (cell := vp_cell (G.2.2.2.1 2) (N, .inl f)) hat' ((hx.2.2.2.2.2.2.2.2.1.2 2 _ rfl).1 N (fun j => .int (f j))) (fun q => by cases q) (by show ¬ (i < 0 ∨ (arrV _ _ _).slots.size ≤ _); rw [arrV_size]; exact hin) rfl rfl hd fun H1 e1 z oq => ?_
  refine hE p e Rm s m args below meth c Q hx h1 h2 hkk H1 _ cells slots A (g1.put hc.1 ?_ z oq) (ev_locs g2 (ev_ad_ge hc.1 g1.2.1)) g3 g4 g5
  show H1[ev_ad G a]? = some (vp_cell _ _)
  rw [e1, vp_cell_i, vp_cell_i, arrV_store, e']
  congr 2
  funext q
  by_cases hq : q = j
  · subst hq; simp [updV, upd, vp_nar]; try rfl
  · simp [updV, upd, hq]
theorem Ev.last {a j N : Nat} {f : Nat → Int64} {i : Int32} {x : Int64} {rest : List Value} (hd : decode M.2.1 pc = .ok (.lastore, 1)) (hc : hat h a (aL N f)) (hi : ev_ix i j N) (hE : Ev G d k n M (pc + 1) ls rest (hset h a (aL N (vp_updL f j x))) R) : Ev G d k n M pc ls (.long x :: .int i :: .ref a :: rest) h R := by
  intro p e Rm s m args below meth c Q hx h1 h2 hkk H locs cells slots A g1 g2 g3 g4 g5
  have hat' := g1.at hc.1
  rw [hc.2] at hat'
  obtain ⟨hin, e'⟩ := hi.in
  refine W.last hx.1 hx.2.1 (cell := vp_cell (G.2.2.2.1 1) (N, .inr (.inl f))) hat' ((hx.2.2.2.2.2.2.2.2.1.2 1 _ rfl).1 N (fun j => .long (f j))) (fun q => by cases q) (by show ¬ (i < 0 ∨ (arrV _ _ _).slots.size ≤ _); rw [arrV_size]; exact hin) rfl rfl hd fun H1 e1 z oq => ?_
  refine hE p e Rm s m args below meth c Q hx h1 h2 hkk H1 _ cells slots A (g1.put hc.1 ?_ z oq) (ev_locs g2 (ev_ad_ge hc.1 g1.2.1)) g3 g4 g5
  show H1[ev_ad G a]? = some (vp_cell _ _)
  rw [e1, vp_cell_l, vp_cell_l, arrV_store, e']
  congr 2
  funext q
  by_cases hq : q = j
  · subst hq; simp [updV, vp_updL]
  · simp [updV, vp_updL, hq]
end EVH
