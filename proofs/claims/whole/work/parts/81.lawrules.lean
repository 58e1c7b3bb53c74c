/-! what the law's method needs: its script, and calls whose new cells are counted -/
def scL (G : ev_G) : Nat := G.2.2.2.2 200
def scV (G : ev_G) (j : Nat) : Int32 := nI (G.2.2.2.2 (300 + j))
theorem ev_met2 {G : ev_G} {d k n : Nat} {M : ev_M} {as : List Value} {h : ev_H} {R : Option Value → ev_H → Prop} (hp : plainName M.1.cls = true) (hf : (ev_flat as).length ≤ M.2.2.1) (hE : Ev G d k n M 0 (ev_ent M.2.2.1 as) [] h R) :
    Met G.1 M.1 (Cond.code M.1 M.2.1 M.2.2.1 M.2.2.2 :: ev_ws) (ev_rm d k n) (ev_Pc G as h) (ev_Qc G (fun r h' => R r h' ∧ h'.1 ≤ h.1 + k)) k n (fun q => G.2.1.size ≤ q) := by
  refine Met.ofW (cc := M.2.1) (maxL := M.2.2.1) (ret := M.2.2.2) hp rfl ?_
  intro p e s m args below meth c s₁ B hml hv
  obtain ⟨rfl, hrel, hK⟩ := hv
  have hts0 := atoms_spec (ws := Cond.code M.1 M.2.1 M.2.2.1 M.2.2.2 :: ev_ws) B.pre
  have hx : ev_Cx G M p s m (as.map (ev_tr G)).toArray meth c := ⟨B.exec, B.bytes, hml, findClass_of_methodNamed B.named, fun w hw => hts0 w (List.mem_cons_of_mem _ hw), B.returns, B.notSynchronized, fun q => (name_of_methodNamed B.named B.method).1.trans q, hK⟩
  rw [lg_entry_eq]
  refine hE p e _ s m _ below meth c _ hx (Nat.le_refl _) (Nat.le_refl _) ?_ s.heap [] 0 0 _ hrel (fun q hq => by cases hq) (by show 0 + k ≤ k; omega) (by show 0 + n ≤ n; omega) (ev_ent_L hf)
  intro r h' H' locs' cells' slots' pc' A' hR hrel' hl' hc' hs' hr
  intro T hT X
  have hsz : h'.1 ≤ h.1 + k := by
    have e1 := X.heapSize
    have e2 := hrel.1
    have e3 := hrel'.1
    have hc' : cells' ≤ k := hc'
    rw [hT] at e1
    omega
  have hq : ∀ t : State, t.heap = H' → s.WarmedH t.vm → ev_Qc G (fun r h' => R r h' ∧ h'.1 ≤ h.1 + k) (as.map (ev_tr G)).toArray s (.returned (r.map (ev_tr G))) t := fun t ht _ => ⟨r, h', rfl, ⟨hR, hsz⟩, by rw [ht]; exact hrel'⟩
  refine (W.widen (k := k) (n := n) hc' hs' ?_) T hT X
  rcases hr with ⟨v, rfl, hd, ty, hty, hn⟩ | ⟨v, rfl, hd, hty⟩ | ⟨rfl, hd, hty⟩ | ⟨a, rfl, hd, rt, hty, hrt⟩
  · exact W.zret B.exec B.bytes (B.returns.trans hty) hn hq hl' hd
  · exact W.lret B.exec B.bytes (B.returns.trans hty) hq hl' hd
  · exact W.vret B.exec B.bytes (B.returns.trans hty) hq hl' hd
  · exact W.aret B.exec B.bytes (B.returns.trans hty) hrt (Or.inr ⟨_, rfl⟩) hq hl' hd
section S81
variable {G : ev_G} {d k n k1 n1 : Nat} {M M' : ev_M} {pc idx na : Nat} {ls rest as st : List Value} {h : ev_H} {R R1 : Option Value → ev_H → Prop}
theorem Ev.cVb {a ci : Nat} (hL : Cond.methodLink M.1.cls idx M'.1 ∈ ev_ws) (hok : ev_ok M' na) (hin : Cond.instanceMethod M'.1 ∈ ev_ws) (hse : Cond.selects M'.1.cls M'.1 M'.1 ∈ ev_ws) (hd : decode M.2.1 pc = .ok (.invokevirtual idx, 3)) (hc : ∃ fs, hat h a (oC ci fs)) (hcl : (vwCl[ci]?).map (fun r => r.1) = some M'.1.cls)
    (hst : st = as.reverse ++ .ref a :: rest) (hn : as.length = na) (hr : (rest.map fun v => v.category).sum ≤ 8) (hf : (ev_flat (.ref a :: as)).length ≤ M'.2.2.1) (hE : Ev G d k1 n1 M' 0 (ev_ent M'.2.2.1 (.ref a :: as)) [] h (fun r h' => h'.1 ≤ h.1 + k1 → Ev G (d + 1) k n M (pc + 3) ls (r.toList ++ rest) h' R)) : Ev G (d + 1) (k1 + k) (n1 + n) M pc ls st h R := by
  obtain ⟨fs, hc⟩ := hc
  intro p e Rm s m args below meth c Q hx h1 h2 hkk H locs cells slots A g1 g2 g3 g4 g5
  obtain ⟨o1, o2, o3, o4, o5, o6⟩ := hok
  have hts := hx.2.2.2.2.1
  have hat' := g1.at hc.1
  rw [hc.2] at hat'
  obtain ⟨r', hr', hcl'⟩ := Option.map_eq_some_iff.mp hcl
  have hrecv : ∃ cell : Cell, H[ev_ad G a]? = some cell ∧ cell.vm.isStatics = false ∧ s.vm.findClass M'.1.cls = some cell.cls := by
    obtain ⟨q', w1, cell, w2, w3, w4, -⟩ := hat'
    refine ⟨cell, w2, by rw [w4]; rfl, ?_⟩
    have := (hx.2.2.2.2.2.2.2.2.1.1 ci r' hr').2.1
    rw [hcl'] at this
    rw [w3]; exact this
  have hM := ev_met2 o3 hf hE
  have hrun := va_runV (p := p) (e := e) (R := Rm) (s := s) (m := m) (args := args) (below := below) (meth := meth) (c := c) (H := H) (locs := locs) (cells := cells) (slots := slots) (Ts := ev_ws) (own := M.1.cls) (C := M'.1.cls) (index := idx) (n := na) (bytes := M'.2.1) (maxL := M'.2.2.1) (ret := M'.2.2.2) (b := ev_ad G a) (As := as.map (ev_tr G)) (rest := rest.map (ev_tr G)) (g := F0 m pc A (st.map (ev_tr G)))
    ⟨hx.1, hx.2.1, hx.2.2.1, hx.2.2.2.1, hts⟩ hM ⟨⟨rfl, rfl, by show d + 1 ≤ _; omega, by show 8 + (M'.2.2.1 + 11) + 64 * d ≤ _; omega, ev_words hts o1, List.mem_cons_self, hts _ o1, hts _ o2, o4, ev_npar o5, hts _ hL⟩, hts _ hin, hts _ hse⟩
    ⟨ev_blind G _ h, hrecv, fun U hU hW => ⟨by simp [ev_tr], by rw [hU]; exact g1, ev_K.warm hW hx.2.2.2.2.2.2.2.2⟩⟩ rfl (by rw [List.length_map]; exact hn) (g5.1.trans rfl) (by rw [hst]; show List.map (ev_tr G) (as.reverse ++ .ref a :: rest) = _; rw [List.map_append, List.map_reverse, List.map_cons]; rfl) (ev_room hr) hd ⟨by omega, by omega⟩
  refine ev_after hrun g2 (fun q h => h) fun r h' H1 locs1 hR hrel hl => ?_
  have := hR.1 hR.2 p e Rm s m args below meth c Q hx h1 h2 hkk H1 locs1 (cells + k1) (slots + n1) A hrel hl (by omega) (by omega) g5
  rw [List.map_append] at this
  cases r <;> exact this
theorem Ev.cV0b {a ci : Nat} (hL : Cond.methodLink M.1.cls idx M'.1 ∈ ev_ws) (hok : ev_ok M' na) (hin : Cond.instanceMethod M'.1 ∈ ev_ws) (hse : Cond.selects M'.1.cls M'.1 M'.1 ∈ ev_ws) (hd : decode M.2.1 pc = .ok (.invokevirtual idx, 3)) (hc : ∃ fs, hat h a (oC ci fs)) (hcl : (vwCl[ci]?).map (fun r => r.1) = some M'.1.cls)
    (hst : st = as.reverse ++ .ref a :: rest) (hn : as.length = na) (hr : (rest.map fun v => v.category).sum ≤ 8) (hf : (ev_flat (.ref a :: as)).length ≤ M'.2.2.1) (hE : Ev G d 0 0 M' 0 (ev_ent M'.2.2.1 (.ref a :: as)) [] h (fun r h' => h'.1 ≤ h.1 + 0 → Ev G (d + 1) k n M (pc + 3) ls (r.toList ++ rest) h' R)) : Ev G (d + 1) k n M pc ls st h R :=
  ev_00 (Ev.cVb hL hok hin hse hd hc hcl hst hn hr hf hE)
/-- the script's length -/
theorem Ev.sclen (hd : decode M.2.1 pc = .ok (.arraylength, 1)) (hE : Ev G d k n M (pc + 1) ls (.int (nI (scL G)) :: rest) h R) : Ev G d k n M pc ls (.ref (ev_big + 100) :: rest) h R := by
  intro p e Rm s m args below meth c Q hx h1 h2 hkk H locs cells slots A g1 g2 g3 g4 g5
  obtain ⟨cell, w1, w2, w3, w4, w5⟩ := hx.x.2.2.2.1
  have := hE p e Rm s m args below meth c Q hx h1 h2 hkk H locs cells slots A g1 g2 g3 g4 g5
  simp only [List.map_cons, ev_tr, ev_ad_big] at this ⊢
  exact W.alen hx.1 hx.2.1 (ev_old g1 w1) w2 (show cell.slots.size.toInt32 = nI (scL G) by rw [w4]; rfl) rfl rfl hd this
/-- an int of the script -/
theorem Ev.scald {j : Nat} {jI : Int32} (hd : decode M.2.1 pc = .ok (.iaload, 1)) (hj : ev_ix jI j (scL G)) (hE : Ev G d k n M (pc + 1) ls (.int (scV G j) :: rest) h R) : Ev G d k n M pc ls (.int jI :: .ref (ev_big + 100) :: rest) h R := by
  obtain ⟨rfl, hj, hj2⟩ := hj
  intro p e Rm s m args below meth c Q hx h1 h2 hkk H locs cells slots A g1 g2 g3 g4 g5
  obtain ⟨cell, w1, w2, w3, w4, w5⟩ := hx.x.2.2.2.1
  have := hE p e Rm s m args below meth c Q hx h1 h2 hkk H locs cells slots A g1 g2 g3 g4 g5
  simp only [List.map_cons, ev_tr, ev_ad_big] at this ⊢
  have hc : (nI j).toNatClampNeg = j := nI_clamp (by omega)
  exact W.iald hx.1 hx.2.1 (ev_old g1 w1) w2 w3 (by rw [hc, w4]; exact fun z => z.elim (fun q => nI_pos (n := j) (by omega) q) (fun q => by have : j < G.2.2.2.2 200 := hj; omega)) (by rw [hc]; exact w5 j hj) rfl rfl hd this
end S81
