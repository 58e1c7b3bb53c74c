/-! calls of methods whose answer is known, and of others: the callee's contract first -/
section EVX
variable {G : ev_G} {d k n k1 n1 : Nat} {M M' : ev_M} {pc idx na : Nat} {ls rest as st : List Value} {h : ev_H} {R : Option Value → ev_H → Prop}
theorem Ev.cV {a ci : Nat} (hL : Cond.methodLink M.1.cls idx M'.1 ∈ ev_ws) (hok : ev_ok M' na) (hin : Cond.instanceMethod M'.1 ∈ ev_ws) (hse : Cond.selects M'.1.cls M'.1 M'.1 ∈ ev_ws) (hd : decode M.2.1 pc = .ok (.invokevirtual idx, 3)) (hc : ∃ fs, hat h a (oC ci fs)) (hcl : (vwCl[ci]?).map (fun r => r.1) = some M'.1.cls)
    (hst : st = as.reverse ++ .ref a :: rest) (hn : as.length = na) (hr : (rest.map fun v => v.category).sum ≤ 8) (hf : (ev_flat (.ref a :: as)).length ≤ M'.2.2.1) (hE : Ev G d k1 n1 M' 0 (ev_ent M'.2.2.1 (.ref a :: as)) [] h (fun r h' => Ev G (d + 1) k n M (pc + 3) ls (r.toList ++ rest) h' R)) : Ev G (d + 1) (k1 + k) (n1 + n) M pc ls st h R := by
  obtain ⟨fs, hc⟩ := hc
  exact Ev.callV hL hok hin hse hd hc hcl hst hn hr hf hE (fun r h' q => q)
theorem Ev.cS (hL : Cond.methodLink M.1.cls idx M'.1 ∈ ev_ws) (hok : ev_ok M' na) (hstat : Cond.static M'.1 ∈ ev_ws) (hd : decode M.2.1 pc = .ok (.invokestatic idx, 3))
    (hst : st = as.reverse ++ rest) (hn : as.length = na) (hr : (rest.map fun v => v.category).sum ≤ 8) (hf : (ev_flat as).length ≤ M'.2.2.1) (hE : Ev G d k1 n1 M' 0 (ev_ent M'.2.2.1 as) [] h (fun r h' => Ev G (d + 1) k n M (pc + 3) ls (r.toList ++ rest) h' R)) : Ev G (d + 1) (k1 + k) (n1 + n) M pc ls st h R :=
  Ev.callS hL hok hstat hd hst hn hr hf hE (fun r h' q => q)
theorem Ev.cSN {host : String} (hL : Cond.methodLinkNest M.1.cls idx M'.1 host ∈ ev_nest) (hok : ev_ok M' na) (hstat : Cond.static M'.1 ∈ ev_ws) (hd : decode M.2.1 pc = .ok (.invokestatic idx, 3))
    (hst : st = as.reverse ++ rest) (hn : as.length = na) (hr : (rest.map fun v => v.category).sum ≤ 8) (hf : (ev_flat as).length ≤ M'.2.2.1) (hE : Ev G d k1 n1 M' 0 (ev_ent M'.2.2.1 as) [] h (fun r h' => Ev G (d + 1) k n M (pc + 3) ls (r.toList ++ rest) h' R)) : Ev G (d + 1) (k1 + k) (n1 + n) M pc ls st h R :=
  Ev.callSN hL hok hstat hd hst hn hr hf hE (fun r h' q => q)
theorem Ev.cI {a : Nat} (hL : Cond.methodLink M.1.cls idx M'.1 ∈ ev_ws) (hok : ev_ok M' na) (hin : Cond.instanceMethod M'.1 ∈ ev_ws) (hi : M'.1.name = "<init>") (hret : M'.2.2.2 = none) (hd : decode M.2.1 pc = .ok (.invokespecial idx, 3))
    (hst : st = as.reverse ++ .ref a :: rest) (hn : as.length = na) (hr : (rest.map fun v => v.category).sum ≤ 8) (hf : (ev_flat (.ref a :: as)).length ≤ M'.2.2.1) (hE : Ev G d k1 n1 M' 0 (ev_ent M'.2.2.1 (.ref a :: as)) [] h (fun r h' => Ev G (d + 1) k n M (pc + 3) ls (r.toList ++ rest) h' R)) : Ev G (d + 1) (k1 + k) (n1 + n) M pc ls st h R :=
  Ev.callI hL hok hin hi hret hd hst hn hr hf hE (fun r h' q => q)
theorem Ev.cIN {host : String} {a : Nat} (hL : Cond.methodLinkNest M.1.cls idx M'.1 host ∈ ev_nest) (hok : ev_ok M' na) (hin : Cond.instanceMethod M'.1 ∈ ev_ws) (hi : M'.1.name = "<init>") (hret : M'.2.2.2 = none) (hd : decode M.2.1 pc = .ok (.invokespecial idx, 3))
    (hst : st = as.reverse ++ .ref a :: rest) (hn : as.length = na) (hr : (rest.map fun v => v.category).sum ≤ 8) (hf : (ev_flat (.ref a :: as)).length ≤ M'.2.2.1) (hE : Ev G d k1 n1 M' 0 (ev_ent M'.2.2.1 (.ref a :: as)) [] h (fun r h' => Ev G (d + 1) k n M (pc + 3) ls (r.toList ++ rest) h' R)) : Ev G (d + 1) (k1 + k) (n1 + n) M pc ls st h R :=
  Ev.callIN hL hok hin hi hret hd hst hn hr hf hE (fun r h' q => q)
/-- new, with the number of cells known -/
theorem Ev.new' {ci a : Nat} {r : vw_C} {tyf : Nat → FieldType} {fs : List Value} (hcl : ev_cls ci r tyf) (hL : Cond.classLink M.1.cls idx r.1 ∈ ev_ws) (hi : Cond.instantiable r.1 r.2.2 ∈ ev_ws) (hini : Cond.initialized r.1 ∈ ev_ws) (hd : decode M.2.1 pc = .ok (.new idx, 3)) (ha : h.1 = a) (hb : a < ev_big) (hfs : ∀ j, j < r.2.2 → defaultValue (tyf j) = vp_V fs j) (hfr : ∀ v ∈ fs, ∀ a, v ≠ .ref a)
    (hE : Ev G d k n M (pc + 3) ls (.ref a :: rest) (hpush h (oC ci fs)) R) : Ev G d (k + 1) (n + r.2.2) M pc ls rest h R := by
  subst ha; exact Ev.new hcl hL hi hini hd hb hfs hfr hE
theorem Ev.newI' {N a : Nat} (hd : decode M.2.1 pc = .ok (.newarray .int, 2)) (hA : Cond.arrayClass .int ∈ ev_ws) (ha : h.1 = a) (hb : a < ev_big) {i : Int32} (hi : i = nI N) (hN : N < 100000) (hE : Ev G d k n M (pc + 2) ls (.ref a :: rest) (hpush h (aI N (fun _ => 0))) R) : Ev G d (k + 1) (n + N) M pc ls (.int i :: rest) h R := by
  subst ha; exact Ev.newI hA hd hb hi hN hE
theorem Ev.newL' {N a : Nat} (hd : decode M.2.1 pc = .ok (.newarray .long, 2)) (hA : Cond.arrayClass .long ∈ ev_ws) (ha : h.1 = a) (hb : a < ev_big) {i : Int32} (hi : i = nI N) (hN : N < 100000) (hE : Ev G d k n M (pc + 2) ls (.ref a :: rest) (hpush h (aL N (fun _ => 0))) R) : Ev G d (k + 1) (n + N) M pc ls (.int i :: rest) h R := by
  subst ha; exact Ev.newL hA hd hb hi hN hE
theorem Ev.newB' {N a : Nat} (hd : decode M.2.1 pc = .ok (.newarray .byte, 2)) (hA : Cond.arrayClass .byte ∈ ev_ws) (ha : h.1 = a) (hb : a < ev_big) {i : Int32} (hi : i = nI N) (hN : N < 100000) (hE : Ev G d k n M (pc + 2) ls (.ref a :: rest) (hpush h (aB N (fun _ => 0))) R) : Ev G d (k + 1) (n + N) M pc ls (.int i :: rest) h R := by
  subst ha; exact Ev.newB hA hd hb hi hN hE
theorem Ev.newS' {N a : Nat} (hd : decode M.2.1 pc = .ok (.anewarray idx, 3)) (hL : Cond.classLink M.1.cls idx "AlikeStore$Store" ∈ ev_ws) (ha : h.1 = a) (hb : a < ev_big) {i : Int32} (hi : i = nI N) (hN : N < 100000) (hE : Ev G d k n M (pc + 3) ls (.ref a :: rest) (hpush h (aS N (fun _ => none))) R) : Ev G d (k + 1) (n + N) M pc ls (.int i :: rest) h R := by
  subst ha; exact Ev.newS hL hd hb hi hN hE
theorem Ev.mna' {N K a : Nat} {nN nK : Int32} (hd : decode M.2.1 pc = .ok (.multianewarray idx 2, 4)) (hL : Cond.classLink M.1.cls idx "[[I" ∈ ev_ws) (hA : Cond.arrayClass .int ∈ ev_ws) (ha : h.1 = a) (hb : a + 1 + N ≤ ev_big) (eN : nN = nI N) (eK : nK = nI K) (hN : N < 10000) (hK : K < 10000)
    (hE : Ev G d k n M (pc + 4) ls (.ref a :: rest) (hgrid h N K) R) : Ev G d (k + (1 + N)) (n + (N + N * K)) M pc ls (.int nK :: .int nN :: rest) h R := by
  subst ha; exact Ev.mna hL hA hd hb eN eK hN hK hE
end EVX
/-- what a boolean method answers -/
def b2i (b : Bool) : Int32 := if b then 1 else 0
theorem b2i_nb (b : Bool) : narrow .boolean (.int (b2i b)) = .int (b2i b) := by cases b <;> rfl
theorem b2i_0 (b : Bool) : b2i b = 0 ↔ b = false := by cases b <;> decide
theorem b2i_1 (b : Bool) : b2i b = 1 ↔ b = true := by cases b <;> decide
theorem b2i_t : b2i true = 1 := rfl
theorem b2i_f : b2i false = 0 := rfl
theorem ne_i {x : Int32} {v : Int} (w : Int32) (hw : w.toInt = v) (h : ¬ x = w) : x.toInt ≠ v := fun q => h (Int32.toInt_inj.mp (q.trans hw.symm))
theorem no_ref {l : List Value} (h : l.all (fun v => match v with | .ref _ => false | _ => true) = true) : ∀ v ∈ l, ∀ a, v ≠ .ref a := by
  intro v hv a e
  have := List.all_eq_true.mp h v hv
  subst e
  cases this
section EVX0
variable {G : ev_G} {d k n : Nat} {M M' : ev_M} {pc idx na : Nat} {ls rest as st : List Value} {h : ev_H} {R : Option Value → ev_H → Prop}
theorem ev_00 {pc : Nat} {ls st : List Value} (h1 : Ev G d (0 + k) (0 + n) M pc ls st h R) : Ev G d k n M pc ls st h R := by simpa only [Nat.zero_add] using h1
theorem Ev.cV0 {a ci : Nat} (hL : Cond.methodLink M.1.cls idx M'.1 ∈ ev_ws) (hok : ev_ok M' na) (hin : Cond.instanceMethod M'.1 ∈ ev_ws) (hse : Cond.selects M'.1.cls M'.1 M'.1 ∈ ev_ws) (hd : decode M.2.1 pc = .ok (.invokevirtual idx, 3)) (hc : ∃ fs, hat h a (oC ci fs)) (hcl : (vwCl[ci]?).map (fun r => r.1) = some M'.1.cls)
    (hst : st = as.reverse ++ .ref a :: rest) (hn : as.length = na) (hr : (rest.map fun v => v.category).sum ≤ 8) (hf : (ev_flat (.ref a :: as)).length ≤ M'.2.2.1) (hE : Ev G d 0 0 M' 0 (ev_ent M'.2.2.1 (.ref a :: as)) [] h (fun r h' => Ev G (d + 1) k n M (pc + 3) ls (r.toList ++ rest) h' R)) : Ev G (d + 1) k n M pc ls st h R :=
  ev_00 (Ev.cV hL hok hin hse hd hc hcl hst hn hr hf hE)
theorem Ev.cS0 (hL : Cond.methodLink M.1.cls idx M'.1 ∈ ev_ws) (hok : ev_ok M' na) (hstat : Cond.static M'.1 ∈ ev_ws) (hd : decode M.2.1 pc = .ok (.invokestatic idx, 3))
    (hst : st = as.reverse ++ rest) (hn : as.length = na) (hr : (rest.map fun v => v.category).sum ≤ 8) (hf : (ev_flat as).length ≤ M'.2.2.1) (hE : Ev G d 0 0 M' 0 (ev_ent M'.2.2.1 as) [] h (fun r h' => Ev G (d + 1) k n M (pc + 3) ls (r.toList ++ rest) h' R)) : Ev G (d + 1) k n M pc ls st h R :=
  ev_00 (Ev.cS hL hok hstat hd hst hn hr hf hE)
theorem Ev.cSN0 {host : String} (hL : Cond.methodLinkNest M.1.cls idx M'.1 host ∈ ev_nest) (hok : ev_ok M' na) (hstat : Cond.static M'.1 ∈ ev_ws) (hd : decode M.2.1 pc = .ok (.invokestatic idx, 3))
    (hst : st = as.reverse ++ rest) (hn : as.length = na) (hr : (rest.map fun v => v.category).sum ≤ 8) (hf : (ev_flat as).length ≤ M'.2.2.1) (hE : Ev G d 0 0 M' 0 (ev_ent M'.2.2.1 as) [] h (fun r h' => Ev G (d + 1) k n M (pc + 3) ls (r.toList ++ rest) h' R)) : Ev G (d + 1) k n M pc ls st h R :=
  ev_00 (Ev.cSN hL hok hstat hd hst hn hr hf hE)
end EVX0
