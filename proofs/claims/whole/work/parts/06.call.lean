/-! calls -/
def ev_flat (as : List Value) : List Value := as.flatMap fun v => if v.category = 2 then [v, ev_unk] else [v]
/-- the locals with which a method begins -/
def ev_ent (nL : Nat) (as : List Value) : List Value := ev_flat as ++ List.replicate (nL - (ev_flat as).length) ev_unk
theorem ev_flat_in {G : ev_G} : ∀ (as : List Value) (off i : Nat) (v : Value), (ev_flat as)[i]? = some v → ev_known v = true → (off + i, ev_tr G v) ∈ lv_args off (as.map (ev_tr G))
  | [], off, i, v, h, _ => by simp [ev_flat] at h
  | w :: as, off, i, v, h, hk => by
    have ih := ev_flat_in (G := G) as
    have e : ev_flat (w :: as) = (if w.category = 2 then [w, ev_unk] else [w]) ++ ev_flat as := by simp [ev_flat]
    rw [e] at h
    rw [List.map_cons, lv_args, ev_cat]
    by_cases hc : w.category = 2
    · rw [if_pos hc] at h ⊢
      match i, h with
      | 0, h => simp at h; subst h; exact List.mem_cons_self
      | 1, h => simp at h; subst h; exact absurd hk (by decide)
      | i + 2, h =>
        refine List.mem_cons_of_mem _ ?_
        have := ih (off + 2) i v (by simpa using h) hk
        rwa [show off + (i + 2) = off + 2 + i by omega]
    · rw [if_neg hc] at h ⊢
      match i, h with
      | 0, h => simp at h; subst h; exact List.mem_cons_self
      | i + 1, h =>
        refine List.mem_cons_of_mem _ ?_
        have := ih (off + 1) i v (by simpa using h) hk
        rwa [show off + (i + 1) = off + 1 + i by omega]
theorem ev_sl_len {G : ev_G} : ∀ as : List Value, (lg_sl (as.map (ev_tr G))).length = (ev_flat as).length
  | [] => rfl
  | w :: as => by
    have ih := ev_sl_len (G := G) as
    have e : ev_flat (w :: as) = (if w.category = 2 then [w, ev_unk] else [w]) ++ ev_flat as := by simp [ev_flat]
    have e2 : lg_sl ((w :: as).map (ev_tr G)) = (if (ev_tr G w).category = 2 then [.val (ev_tr G w), .second] else [.val (ev_tr G w)]) ++ lg_sl (as.map (ev_tr G)) := by simp [lg_sl]
    rw [e, e2, List.length_append, List.length_append, ih, ev_cat]
    by_cases hc : w.category = 2 <;> simp [hc]
theorem ev_ent_L {G : ev_G} {nL : Nat} {as : List Value} (h : (ev_flat as).length ≤ nL) : ev_L G nL ((lg_sl (as.map (ev_tr G)) ++ List.replicate (nL - (lg_sl (as.map (ev_tr G))).length) Slot.unset).toArray) (ev_ent nL as) := by
  have hl := lv_entry (as.map (ev_tr G)) (n := nL) (by rw [ev_sl_len]; exact h)
  refine ⟨hl.1, hl.2.1, fun q hq => hl.2.2 q ?_⟩
  obtain ⟨v, hv, hk, e⟩ := ev_prs_in.mp hq
  obtain ⟨a, b⟩ := q
  have e : b = ev_tr G v := e
  subst e
  have hv : (ev_ent nL as)[a]? = some v := hv
  unfold ev_ent at hv
  by_cases ha : a < (ev_flat as).length
  · rw [List.getElem?_append_left ha] at hv
    have := ev_flat_in (G := G) as 0 a v hv hk
    rwa [Nat.zero_add] at this
  · rw [List.getElem?_append_right (by omega), List.getElem?_replicate] at hv
    split at hv
    · cases hv; exact absurd hk (by decide)
    · cases hv
/-- a method as the tables have it, of n arguments beside its object -/
def ev_ok (M : ev_M) (na : Nat) : Prop := Cond.code M.1 M.2.1 M.2.2.1 M.2.2.2 ∈ ev_ws ∧ Cond.initialized M.1.cls ∈ ev_ws ∧ plainName M.1.cls = true ∧ (M.1.cls ≠ "java/lang/invoke/MethodHandle" ∧ M.1.cls ≠ "java/lang/invoke/VarHandle") ∧ (parseMethodDescriptor M.1.desc).map (fun d => d.parameters.length) = some na ∧ M.2.2.1 ≤ 45
def ev_Pc (G : ev_G) (as : List Value) (h : ev_H) : Array Value → State → Prop := fun v U => v = (as.map (ev_tr G)).toArray ∧ ev_Rel G h U.heap ∧ ev_K G U
def ev_Qc (G : ev_G) (R : Option Value → ev_H → Prop) : Array Value → State → Outcome → State → Prop := fun _ _ o t => ∃ r h', o = .returned (r.map (ev_tr G)) ∧ R r h' ∧ ev_Rel G h' t.heap
def ev_rm (d k n : Nat) : Room := { frames := d, cells := k, slots := n, locals := 64 * d }
theorem ev_met {G : ev_G} {d k n : Nat} {M : ev_M} {as : List Value} {h : ev_H} {R : Option Value → ev_H → Prop} (hp : plainName M.1.cls = true) (hf : (ev_flat as).length ≤ M.2.2.1) (hE : Ev G d k n M 0 (ev_ent M.2.2.1 as) [] h R) :
    Met G.1 M.1 (Cond.code M.1 M.2.1 M.2.2.1 M.2.2.2 :: ev_ws) (ev_rm d k n) (ev_Pc G as h) (ev_Qc G R) k n (fun q => G.2.1.size ≤ q) := by
  refine Met.ofW (cc := M.2.1) (maxL := M.2.2.1) (ret := M.2.2.2) hp rfl ?_
  intro p e s m args below meth c s₁ B hml hv
  obtain ⟨rfl, hrel, hK⟩ := hv
  have hts0 := atoms_spec (ws := Cond.code M.1 M.2.1 M.2.2.1 M.2.2.2 :: ev_ws) B.pre
  have hx : ev_Cx G M p s m (as.map (ev_tr G)).toArray meth c := ⟨B.exec, B.bytes, hml, findClass_of_methodNamed B.named, fun w hw => hts0 w (List.mem_cons_of_mem _ hw), B.returns, B.notSynchronized, fun q => (name_of_methodNamed B.named B.method).1.trans q, hK⟩
  rw [lg_entry_eq]
  refine hE p e _ s m _ below meth c _ hx (Nat.le_refl _) (Nat.le_refl _) ?_ s.heap [] 0 0 _ hrel (fun q hq => by cases hq) (by show 0 + k ≤ k; omega) (by show 0 + n ≤ n; omega) (ev_ent_L hf)
  intro r h' H' locs' cells' slots' pc' A' hR hrel' hl' hc' hs' hr
  have hq : ∀ t : State, t.heap = H' → s.WarmedH t.vm → ev_Qc G R (as.map (ev_tr G)).toArray s (.returned (r.map (ev_tr G))) t := fun t ht _ => ⟨r, h', rfl, hR, by rw [ht]; exact hrel'⟩
  refine W.widen (k := k) (n := n) hc' hs' ?_
  rcases hr with ⟨v, rfl, hd, ty, hty, hn⟩ | ⟨v, rfl, hd, hty⟩ | ⟨rfl, hd, hty⟩ | ⟨a, rfl, hd, rt, hty, hrt⟩
  · exact W.zret B.exec B.bytes (B.returns.trans hty) hn hq hl' hd
  · exact W.lret B.exec B.bytes (B.returns.trans hty) hq hl' hd
  · exact W.vret B.exec B.bytes (B.returns.trans hty) hq hl' hd
  · exact W.aret B.exec B.bytes (B.returns.trans hty) hrt (Or.inr ⟨_, rfl⟩) hq hl' hd
theorem ev_blind (G : ev_G) (as : List Value) (h : ev_H) : FrameBlind (ev_Pc G as h) := fun _ U _ _ q => ⟨q.1, q.2.1, ev_K.same (u := U) rfl q.2.2⟩
section EVC
variable {G : ev_G} {d k n k1 n1 : Nat} {M M' : ev_M} {pc idx na : Nat} {ls rest as : List Value} {h : ev_H} {R R1 : Option Value → ev_H → Prop}
theorem ev_after {p : Program} {l : Launch} {e : Env} {Rm : Room} {s : State} {m : MethodId} {args : Array Value} {below : List Frame} {meth : Method} {c : Code} {Q : State → Prop} {H : Heap} {locs : List Loc} {cells slots mc ms : Nat} {A : Array Slot} {st0 rest : List Value} {a : Array Value} {free : Addr → Prop}
    (hr : va_Run p l e Rm s m args below meth c H locs cells slots mc ms (F0 m pc A st0) rest (ev_Qc G R1 a) free) (hl : ∀ q ∈ locs, G.2.1.size ≤ q.base) (hf : ∀ q, free q → G.2.1.size ≤ q)
    (kk : ∀ (r : Option Value) (h' : ev_H) (H1 : Heap) (locs1 : List Loc), R1 r h' → ev_Rel G h' H1 → (∀ q ∈ locs1, G.2.1.size ≤ q.base) → W p l e Rm s m args below meth c H1 locs1 (cells + mc) (slots + ms) Q (F0 m (pc + 3) A ((r.map (ev_tr G)).toList ++ rest))) : W p l e Rm s m args below meth c H locs cells slots Q (F0 m pc A st0) := by
  intro T hT X
  obtain ⟨v, st₀, t, T', L, h0, X', hL, e1, e2, ⟨r, h', hv, hR, hrel⟩, st⟩ := hr T hT X
  cases hv
  obtain ⟨t2, a1, b1⟩ := kk r h' T'.heap (locs ++ L) hR (by rw [e1]; exact hrel) (fun q hq => by
    rcases List.mem_append.mp hq with h | h
    · exact hl q h
    · exact hf _ (hL q h)) T' rfl X'
  exact ⟨t2, st t2 a1, b1⟩
theorem ev_room {rest : List Value} {m : MethodId} {A : Array Slot} {pc : Nat} {st0 : List Value} (h : (rest.map fun v => v.category).sum ≤ 8) : 2 * (F0 m pc A st0).monitorRoom + ((rest.map (ev_tr G)).map fun v => v.category).sum ≤ 8 := by
  have e : ((rest.map (ev_tr G)).map fun v => v.category) = rest.map fun v => v.category := by
    rw [List.map_map]; exact List.map_congr_left fun v _ => ev_cat G v
  rw [e]
  show 2 * 0 + _ ≤ 8
  omega
theorem ev_words {s : State} {args : Array Value} {y : MethodName} {bytes : ByteArray} {maxL : Nat} {ret : Option FieldType} (hts : ∀ w ∈ ev_ws, w.before args s = true) (hc : Cond.code y bytes maxL ret ∈ ev_ws) : ∀ w ∈ (Cond.code y bytes maxL ret :: ev_ws), ∀ (a' : Array Value) (U : State), s.WarmedH U.vm → w.before a' U = true := by
  intro w hw a' U hW
  have hm : w ∈ ev_ws := by
    rcases List.mem_cons.mp hw with rfl | hw
    · exact hc
    · exact hw
  exact word_at hW (ev_good w hm) (hts w hm)
theorem ev_npar {y : MethodName} {na : Nat} (h2 : (parseMethodDescriptor y.desc).map (fun d => d.parameters.length) = some na) : ∀ sig, parseMethodDescriptor y.desc = some sig → na = sig.parameters.length := fun sig h => by
  rw [h] at h2
  exact (Option.some.inj h2).symm
/-- invokevirtual -/
theorem Ev.callV {a ci : Nat} {fs : List Value} {st : List Value} (hL : Cond.methodLink M.1.cls idx M'.1 ∈ ev_ws) (hok : ev_ok M' na) (hin : Cond.instanceMethod M'.1 ∈ ev_ws) (hse : Cond.selects M'.1.cls M'.1 M'.1 ∈ ev_ws) (hd : decode M.2.1 pc = .ok (.invokevirtual idx, 3)) (hc : hat h a (oC ci fs)) (hcl : (vwCl[ci]?).map (fun r => r.1) = some M'.1.cls)
    (hst : st = as.reverse ++ .ref a :: rest) (hn : as.length = na) (hr : (rest.map fun v => v.category).sum ≤ 8) (hf : (ev_flat (.ref a :: as)).length ≤ M'.2.2.1) (hE : Ev G d k1 n1 M' 0 (ev_ent M'.2.2.1 (.ref a :: as)) [] h R1)
    (hk : ∀ r h', R1 r h' → Ev G (d + 1) k n M (pc + 3) ls (r.toList ++ rest) h' R) : Ev G (d + 1) (k1 + k) (n1 + n) M pc ls st h R := by
  intro p e Rm s m args below meth c Q hx h1 h2 hkk H locs cells slots A g1 g2 g3 g4 g5
  obtain ⟨o1, o2, o3, o4, o5, o6⟩ := hok
  have hts := hx.2.2.2.2.1
  have hat' := g1.at hc.1
  rw [hc.2] at hat'
  obtain ⟨r', hr', hcl'⟩ := Option.map_eq_some_iff.mp hcl
  have hrecv : ∃ cell : Cell, H[ev_ad G a]? = some cell ∧ cell.vm.isStatics = false ∧ s.vm.findClass M'.1.cls = some cell.cls := by
    obtain ⟨q', w1, cell, w2, w3, w4, -⟩ := hat'
    refine ⟨cell, w2, by rw [w4]; rfl, ?_⟩
    have := (hx.2.2.2.2.2.2.2.2.1.1 ci r' hr').2.1
    rw [hcl'] at this
    rw [w3]; exact this
  have hM := ev_met o3 hf hE
  have hrun := va_runV (p := p) (e := e) (R := Rm) (s := s) (m := m) (args := args) (below := below) (meth := meth) (c := c) (H := H) (locs := locs) (cells := cells) (slots := slots) (Ts := ev_ws) (own := M.1.cls) (C := M'.1.cls) (index := idx) (n := na) (bytes := M'.2.1) (maxL := M'.2.2.1) (ret := M'.2.2.2) (b := ev_ad G a) (As := as.map (ev_tr G)) (rest := rest.map (ev_tr G)) (g := F0 m pc A (st.map (ev_tr G)))
    ⟨hx.1, hx.2.1, hx.2.2.1, hx.2.2.2.1, hts⟩ hM ⟨⟨rfl, rfl, by show d + 1 ≤ _; omega, by show 8 + (M'.2.2.1 + 11) + 64 * d ≤ _; omega, ev_words hts o1, List.mem_cons_self, hts _ o1, hts _ o2, o4, ev_npar o5, hts _ hL⟩, hts _ hin, hts _ hse⟩
    ⟨ev_blind G _ h, hrecv, fun U hU hW => ⟨by simp [ev_tr], by rw [hU]; exact g1, ev_K.warm hW hx.2.2.2.2.2.2.2.2⟩⟩ rfl (by rw [List.length_map]; exact hn) (g5.1.trans rfl) (by rw [hst]; show List.map (ev_tr G) (as.reverse ++ .ref a :: rest) = _; rw [List.map_append, List.map_reverse, List.map_cons]; rfl) (ev_room hr) hd ⟨by omega, by omega⟩
  refine ev_after hrun g2 (fun q h => h) fun r h' H1 locs1 hR hrel hl => ?_
  have := hk r h' hR p e Rm s m args below meth c Q hx h1 h2 hkk H1 locs1 (cells + k1) (slots + n1) A hrel hl (by omega) (by omega) g5
  rw [List.map_append] at this
  cases r <;> exact this
/-- invokestatic -/
theorem Ev.callS {st : List Value} (hL : Cond.methodLink M.1.cls idx M'.1 ∈ ev_ws) (hok : ev_ok M' na) (hstat : Cond.static M'.1 ∈ ev_ws) (hd : decode M.2.1 pc = .ok (.invokestatic idx, 3))
    (hst : st = as.reverse ++ rest) (hn : as.length = na) (hr : (rest.map fun v => v.category).sum ≤ 8) (hf : (ev_flat as).length ≤ M'.2.2.1) (hE : Ev G d k1 n1 M' 0 (ev_ent M'.2.2.1 as) [] h R1)
    (hk : ∀ r h', R1 r h' → Ev G (d + 1) k n M (pc + 3) ls (r.toList ++ rest) h' R) : Ev G (d + 1) (k1 + k) (n1 + n) M pc ls st h R := by
  intro p e Rm s m args below meth c Q hx h1 h2 hkk H locs cells slots A g1 g2 g3 g4 g5
  obtain ⟨o1, o2, o3, o4, o5, o6⟩ := hok
  have hts := hx.2.2.2.2.1
  have hM := ev_met o3 hf hE
  have hrun := va_runS (p := p) (e := e) (R := Rm) (s := s) (m := m) (args := args) (below := below) (meth := meth) (c := c) (H := H) (locs := locs) (cells := cells) (slots := slots) (Ts := ev_ws) (own := M.1.cls) (index := idx) (n := na) (bytes := M'.2.1) (maxL := M'.2.2.1) (ret := M'.2.2.2) (As := as.map (ev_tr G)) (rest := rest.map (ev_tr G)) (g := F0 m pc A (st.map (ev_tr G)))
    ⟨hx.1, hx.2.1, hx.2.2.1, hx.2.2.2.1, hts⟩ hM ⟨⟨rfl, rfl, by show d + 1 ≤ _; omega, by show 8 + (M'.2.2.1 + 11) + 64 * d ≤ _; omega, ev_words hts o1, List.mem_cons_self, hts _ o1, hts _ o2, o4, ev_npar o5, hts _ hL⟩, hts _ hstat⟩
    ⟨ev_blind G _ h, fun U hU hW => ⟨rfl, by rw [hU]; exact g1, ev_K.warm hW hx.2.2.2.2.2.2.2.2⟩⟩ rfl (by rw [List.length_map]; exact hn) (g5.1.trans rfl) (by rw [hst]; show List.map (ev_tr G) (as.reverse ++ rest) = _; rw [List.map_append, List.map_reverse]) (ev_room hr) hd ⟨by omega, by omega⟩
  refine ev_after hrun g2 (fun q h => h) fun r h' H1 locs1 hR hrel hl => ?_
  have := hk r h' hR p e Rm s m args below meth c Q hx h1 h2 hkk H1 locs1 (cells + k1) (slots + n1) A hrel hl (by omega) (by omega) g5
  rw [List.map_append] at this
  cases r <;> exact this
theorem ev_nestw {s : State} {args : Array Value} {a b : String} {i : Nat} {x : MethodName} (hK : ev_K G s) (h : Cond.methodLinkNest a i x b ∈ ev_nest) : (Cond.methodLinkNest a i x b).before args s = true := va_Nw.use rfl (hK.2.1 _ h)
/-- invokestatic of a nest mate's -/
theorem Ev.callSN {host : String} {st : List Value} (hL : Cond.methodLinkNest M.1.cls idx M'.1 host ∈ ev_nest) (hok : ev_ok M' na) (hstat : Cond.static M'.1 ∈ ev_ws) (hd : decode M.2.1 pc = .ok (.invokestatic idx, 3))
    (hst : st = as.reverse ++ rest) (hn : as.length = na) (hr : (rest.map fun v => v.category).sum ≤ 8) (hf : (ev_flat as).length ≤ M'.2.2.1) (hE : Ev G d k1 n1 M' 0 (ev_ent M'.2.2.1 as) [] h R1)
    (hk : ∀ r h', R1 r h' → Ev G (d + 1) k n M (pc + 3) ls (r.toList ++ rest) h' R) : Ev G (d + 1) (k1 + k) (n1 + n) M pc ls st h R := by
  intro p e Rm s m args below meth c Q hx h1 h2 hkk H locs cells slots A g1 g2 g3 g4 g5
  obtain ⟨o1, o2, o3, o4, o5, o6⟩ := hok
  have hts := hx.2.2.2.2.1
  have hM := ev_met o3 hf hE
  have hrun := va_runSN (p := p) (e := e) (R := Rm) (s := s) (m := m) (args := args) (below := below) (meth := meth) (c := c) (H := H) (locs := locs) (cells := cells) (slots := slots) (Ts := ev_ws) (own := M.1.cls) (host := host) (index := idx) (n := na) (bytes := M'.2.1) (maxL := M'.2.2.1) (ret := M'.2.2.2) (As := as.map (ev_tr G)) (rest := rest.map (ev_tr G)) (g := F0 m pc A (st.map (ev_tr G)))
    ⟨hx.1, hx.2.1, hx.2.2.1, hx.2.2.2.1, hts⟩ hM ⟨⟨⟨rfl, rfl, by show d + 1 ≤ _; omega, by show 8 + (M'.2.2.1 + 11) + 64 * d ≤ _; omega, ev_words hts o1, List.mem_cons_self⟩, hts _ o1, hts _ o2, o4, ev_npar o5, ev_nestw hx.2.2.2.2.2.2.2.2 hL⟩, hts _ hstat, trivial⟩
    ⟨ev_blind G _ h, fun U hU hW => ⟨rfl, by rw [hU]; exact g1, ev_K.warm hW hx.2.2.2.2.2.2.2.2⟩⟩ rfl (by rw [List.length_map]; exact hn) (g5.1.trans rfl) (by rw [hst]; show List.map (ev_tr G) (as.reverse ++ rest) = _; rw [List.map_append, List.map_reverse]) (ev_room hr) hd ⟨by omega, by omega⟩
  refine ev_after hrun g2 (fun q h => h) fun r h' H1 locs1 hR hrel hl => ?_
  have := hk r h' hR p e Rm s m args below meth c Q hx h1 h2 hkk H1 locs1 (cells + k1) (slots + n1) A hrel hl (by omega) (by omega) g5
  rw [List.map_append] at this
  cases r <;> exact this
/-- invokespecial of a constructor -/
theorem Ev.callI {a : Nat} {st : List Value} (hL : Cond.methodLink M.1.cls idx M'.1 ∈ ev_ws) (hok : ev_ok M' na) (hin : Cond.instanceMethod M'.1 ∈ ev_ws) (hi : M'.1.name = "<init>") (hret : M'.2.2.2 = none) (hd : decode M.2.1 pc = .ok (.invokespecial idx, 3))
    (hst : st = as.reverse ++ .ref a :: rest) (hn : as.length = na) (hr : (rest.map fun v => v.category).sum ≤ 8) (hf : (ev_flat (.ref a :: as)).length ≤ M'.2.2.1) (hE : Ev G d k1 n1 M' 0 (ev_ent M'.2.2.1 (.ref a :: as)) [] h R1)
    (hk : ∀ r h', R1 r h' → Ev G (d + 1) k n M (pc + 3) ls (r.toList ++ rest) h' R) : Ev G (d + 1) (k1 + k) (n1 + n) M pc ls st h R := by
  intro p e Rm s m args below meth c Q hx h1 h2 hkk H locs cells slots A g1 g2 g3 g4 g5
  obtain ⟨o1, o2, o3, o4, o5, o6⟩ := hok
  have hts := hx.2.2.2.2.1
  have hM := ev_met o3 hf hE
  rw [hret] at hM o1
  have hrun := va_runI (p := p) (e := e) (R := Rm) (s := s) (m := m) (args := args) (below := below) (meth := meth) (c := c) (H := H) (locs := locs) (cells := cells) (slots := slots) (Ts := ev_ws) (own := M.1.cls) (index := idx) (n := na) (bytes := M'.2.1) (maxL := M'.2.2.1) (b := ev_ad G a) (As := as.map (ev_tr G)) (rest := rest.map (ev_tr G)) (g := F0 m pc A (st.map (ev_tr G)))
    ⟨hx.1, hx.2.1, hx.2.2.1, hx.2.2.2.1, hts⟩ hM ⟨⟨rfl, rfl, by show d + 1 ≤ _; omega, by show 8 + (M'.2.2.1 + 11) + 64 * d ≤ _; omega, ev_words hts o1, List.mem_cons_self, hts _ o1, hts _ o2, o4, ev_npar o5, hts _ hL⟩, hi, hts _ hin⟩
    ⟨ev_blind G _ h, fun U hU hW => ⟨by simp [ev_tr], by rw [hU]; exact g1, ev_K.warm hW hx.2.2.2.2.2.2.2.2⟩⟩ rfl (by rw [List.length_map]; exact hn) (g5.1.trans rfl) (by rw [hst]; show List.map (ev_tr G) (as.reverse ++ .ref a :: rest) = _; rw [List.map_append, List.map_reverse, List.map_cons]; rfl) (ev_room hr) hd ⟨by omega, by omega⟩
  refine ev_after hrun g2 (fun q h => h) fun r h' H1 locs1 hR hrel hl => ?_
  have := hk r h' hR p e Rm s m args below meth c Q hx h1 h2 hkk H1 locs1 (cells + k1) (slots + n1) A hrel hl (by omega) (by omega) g5
  rw [List.map_append] at this
  cases r <;> exact this
theorem Ev.callIN {host : String} {a : Nat} {st : List Value} (hL : Cond.methodLinkNest M.1.cls idx M'.1 host ∈ ev_nest) (hok : ev_ok M' na) (hin : Cond.instanceMethod M'.1 ∈ ev_ws) (hi : M'.1.name = "<init>") (hret : M'.2.2.2 = none) (hd : decode M.2.1 pc = .ok (.invokespecial idx, 3))
    (hst : st = as.reverse ++ .ref a :: rest) (hn : as.length = na) (hr : (rest.map fun v => v.category).sum ≤ 8) (hf : (ev_flat (.ref a :: as)).length ≤ M'.2.2.1) (hE : Ev G d k1 n1 M' 0 (ev_ent M'.2.2.1 (.ref a :: as)) [] h R1)
    (hk : ∀ r h', R1 r h' → Ev G (d + 1) k n M (pc + 3) ls (r.toList ++ rest) h' R) : Ev G (d + 1) (k1 + k) (n1 + n) M pc ls st h R := by
  intro p e Rm s m args below meth c Q hx h1 h2 hkk H locs cells slots A g1 g2 g3 g4 g5
  obtain ⟨o1, o2, o3, o4, o5, o6⟩ := hok
  have hts := hx.2.2.2.2.1
  have hM := ev_met o3 hf hE
  rw [hret] at hM o1
  have hrun := va_runIN (p := p) (e := e) (R := Rm) (s := s) (m := m) (args := args) (below := below) (meth := meth) (c := c) (H := H) (locs := locs) (cells := cells) (slots := slots) (Ts := ev_ws) (own := M.1.cls) (host := host) (index := idx) (n := na) (bytes := M'.2.1) (maxL := M'.2.2.1) (b := ev_ad G a) (As := as.map (ev_tr G)) (rest := rest.map (ev_tr G)) (g := F0 m pc A (st.map (ev_tr G)))
    ⟨hx.1, hx.2.1, hx.2.2.1, hx.2.2.2.1, hts⟩ hM ⟨⟨⟨rfl, rfl, by show d + 1 ≤ _; omega, by show 8 + (M'.2.2.1 + 11) + 64 * d ≤ _; omega, ev_words hts o1, List.mem_cons_self⟩, hts _ o1, hts _ o2, o4, ev_npar o5, ev_nestw hx.2.2.2.2.2.2.2.2 hL⟩, hi, hts _ hin⟩
    ⟨ev_blind G _ h, fun U hU hW => ⟨by simp [ev_tr], by rw [hU]; exact g1, ev_K.warm hW hx.2.2.2.2.2.2.2.2⟩⟩ rfl (by rw [List.length_map]; exact hn) (g5.1.trans rfl) (by rw [hst]; show List.map (ev_tr G) (as.reverse ++ .ref a :: rest) = _; rw [List.map_append, List.map_reverse, List.map_cons]; rfl) (ev_room hr) hd ⟨by omega, by omega⟩
  refine ev_after hrun g2 (fun q h => h) fun r h' H1 locs1 hR hrel hl => ?_
  have := hk r h' hR p e Rm s m args below meth c Q hx h1 h2 hkk H1 locs1 (cells + k1) (slots + n1) A hrel hl (by omega) (by omega) g5
  rw [List.map_append] at this
  cases r <;> exact this
end EVC
