/-! what holds at a method's start, and goes along with calls -/
def ev_isNest : Cond → Bool
  | .methodLinkNest _ _ _ _ => true
  | _ => false
def ev_nest : List Cond := tables_1.filter ev_isNest
def ev_strs : List (String × Nat × String) := [("AlikeStore$Reader", 64, "bits"), ("AlikeStore$Reader", 77, "parts"), ("AlikeStore$Reader", 82, "code"), ("AlikeStore$Reader", 87, "filter"), ("AlikeStore$Reader", 92, "<=>[];"), ("AlikeStore$Reader", 135, "tag"), ("AlikeStore$Reader", 156, "or"), ("AlikeStore$Reader", 165, "and"), ("AlikeStore$Reader", 167, "not"), ("AlikeStore$Reader", 180, "ones"), ("AlikeStore$Reader", 182, "number"), ("AlikeStore$Reader", 183, "bit"), ("AlikeStore$Reader", 185, "key"), ("AlikeStore$Reader", 187, "far"), ("AlikeStoreModel", 137, " bits parts code tag filter not and or ones number bit key far ")]
def ev_byt : List (List Int32) := ev_strs.map fun q => q.2.2.toList.map fun c => Int32.ofNat c.toNat
def ev_len : List Nat := ev_byt.map List.length
/-- what stands outside: the literals (i, their bytes at 20 + i), two static fields (the second's value at 50), the script (100; its length at 200, its ints from 300 on) -/
def ev_X (G : ev_G) (s : State) : Prop := vk_S 15 ev_len ev_byt G.2.2.2.2 (fun i => G.2.2.2.2 (20 + i)) (fun q => G.2.1.size ≤ q) s G.2.1 ∧ va_Z "java/lang/String" "COMPACT_STRINGS" "Z" (.int 1) (fun q => G.2.1.size ≤ q) s G.2.1 ∧ (va_Z "jdk/internal/util/Preconditions" "SIOOBE_FORMATTER" "Ljava/util/function/BiFunction;" .null (fun q => G.2.1.size ≤ q) s G.2.1 ∨ va_Z "jdk/internal/util/Preconditions" "SIOOBE_FORMATTER" "Ljava/util/function/BiFunction;" (.ref (G.2.2.2.2 50)) (fun q => G.2.1.size ≤ q) s G.2.1) ∧ va_X (G.2.2.2.2 100) (G.2.2.2.2 200) (fun j => nI (G.2.2.2.2 (300 + j))) s G.2.1 ∧ G.2.2.2.2 100 < G.2.1.size
theorem ev_X.moved {G : ev_G} {u U : State} (hA : u.vm.Alike U.vm) (h : ev_X G u) : ev_X G U := ⟨vk_S.moved hA h.1, va_Z.moved hA h.2.1, h.2.2.1.imp (va_Z.moved hA) (va_Z.moved hA), va_X.moved hA h.2.2.2.1, h.2.2.2.2⟩
def ev_K (G : ev_G) (s : State) : Prop := va_K G.2.2.1 vwCl (ev_tys G) s ∧ (∀ w ∈ ev_nest, va_Nw w s) ∧ (va_AO "AlikeStore$Store" s ∧ va_Nw (.arrayOver (.array .int)) s) ∧ ev_X G s ∧ ∀ (i : Nat) (q : String × Nat × String), ev_strs[i]? = some q → vk_R q.1 q.2.1 q.2.2 (G.2.2.2.2 i) s
theorem ev_nest_form {w : Cond} (h : w ∈ ev_nest) : ∃ (a : String) (i : Nat) (x : MethodName) (b : String), w = .methodLinkNest a i x b := by
  have h1 := (List.mem_filter.mp h).2
  cases w <;> first | exact ⟨_, _, _, _, rfl⟩ | cases h1
theorem ev_K.warm {G : ev_G} {s U : State} (hW : s.WarmedH U.vm) (h : ev_K G s) : ev_K G U := by
  obtain ⟨h1, h2, h3, h4, h5⟩ := h
  refine ⟨va_K.moved hW.alike h1, fun w hw => ?_, ⟨va_AO.moved hW.alike h3.1, Jvm.Stand.arrayOver_alikeB hW.alike h3.2⟩, h4.moved hW.alike, fun i q hq => vk_R.warm hW (h5 i q hq)⟩
  have hz := h2 w hw
  obtain ⟨a, i, x, b, rfl⟩ := ev_nest_form hw
  exact va_Nw.warmM hW hz
theorem ev_K.same {G : ev_G} {u U : State} (e : U.vm = u.vm) (h : ev_K G u) : ev_K G U := by
  have hA : u.vm.Alike U.vm := by rw [e]; exact Vm.Alike.refl _
  obtain ⟨h1, h2, h3, h4, h5⟩ := h
  refine ⟨va_K.moved hA h1, fun w hw => ?_, ⟨va_AO.moved hA h3.1, Jvm.Stand.arrayOver_alikeB hA h3.2⟩, h4.moved hA, fun i q hq => vk_R.same e (h5 i q hq)⟩
  have hz := h2 w hw
  obtain ⟨a, i, x, b, rfl⟩ := ev_nest_form hw
  exact va_Nw.same rfl e.symm hz
def ev_Cx (G : ev_G) (M : ev_M) (p : Program) (s : State) (m : MethodId) (args : Array Value) (meth : Method) (c : Code) : Prop :=
  p.tables.exec = Jvm.exec ∧ c.code = M.2.1 ∧ c.maxLocals = M.2.2.1 ∧ s.vm.findClass M.1.cls = some m.cls ∧ (∀ w ∈ ev_ws, w.before args s = true) ∧ meth.sig.returnType = M.2.2.2 ∧ meth.locks = false ∧ (M.1.name = "<init>" → meth.name = "<init>") ∧ ev_K G s
def ev_ret (M : ev_M) (pc : Nat) (r : Option Value) : Prop :=
  (∃ v : Int32, r = some (.int v) ∧ decode M.2.1 pc = .ok (.ireturn, 1) ∧ ∃ ty, M.2.2.2 = some ty ∧ narrow ty (.int v) = .int v) ∨
  (∃ v : Int64, r = some (.long v) ∧ decode M.2.1 pc = .ok (.lreturn, 1) ∧ M.2.2.2 = some .long) ∨
  (r = none ∧ decode M.2.1 pc = .ok (.return_, 1) ∧ M.2.2.2 = none) ∨
  (∃ a : Nat, r = some (.ref a) ∧ decode M.2.1 pc = .ok (.areturn, 1) ∧ ∃ rt, M.2.2.2 = some rt ∧ ((∃ n, rt = .object n) ∨ ∃ t, rt = .array t))
/-- from this place of the method its end comes, R of answer and heap; at most d frames deep, k cells of n slots new -/
def Ev (G : ev_G) (d k n : Nat) (M : ev_M) (pc : Nat) (ls st : List Value) (h : ev_H) (R : Option Value → ev_H → Prop) : Prop :=
  ∀ (p : Program) (e : Env) (Rm : Room) (s : State) (m : MethodId) (args : Array Value) (below : List Frame) (meth : Method) (c : Code) (Q : State → Prop),
    ev_Cx G M p s m args meth c → d ≤ Rm.frames → 64 * d ≤ Rm.locals →
    (∀ (r : Option Value) (h' : ev_H) (H' : Heap) (locs' : List Loc) (cells' slots' pc' : Nat) (A' : Array Slot), R r h' → ev_Rel G h' H' → (∀ q ∈ locs', G.2.1.size ≤ q.base) → cells' ≤ Rm.cells → slots' ≤ Rm.slots → ev_ret M pc' r → W p G.1 e Rm s m args below meth c H' locs' cells' slots' Q (F0 m pc' A' ((r.map (ev_tr G)).toList))) →
    ∀ (H : Heap) (locs : List Loc) (cells slots : Nat) (A : Array Slot), ev_Rel G h H → (∀ q ∈ locs, G.2.1.size ≤ q.base) → cells + k ≤ Rm.cells → slots + n ≤ Rm.slots → ev_L G M.2.2.1 A ls → W p G.1 e Rm s m args below meth c H locs cells slots Q (F0 m pc A (st.map (ev_tr G)))
section EVR
variable {G : ev_G} {d k n : Nat} {M : ev_M} {pc : Nat} {ls st : List Value} {h : ev_H} {R R' : Option Value → ev_H → Prop}
theorem Ev.mono (hE : Ev G d k n M pc ls st h R) (hR : ∀ r h', R r h' → R' r h') : Ev G d k n M pc ls st h R' :=
  fun p e Rm s m args below meth c Q hx h1 h2 hk H locs cells slots A g1 g2 g3 g4 g5 => hE p e Rm s m args below meth c Q hx h1 h2 (fun r h' H' locs' cells' slots' pc' A' hr => hk r h' H' locs' cells' slots' pc' A' (hR r h' hr)) H locs cells slots A g1 g2 g3 g4 g5
theorem Ev.room {d' k' n' : Nat} (hE : Ev G d k n M pc ls st h R) (hd : d ≤ d') (hk : k ≤ k') (hn : n ≤ n') : Ev G d' k' n' M pc ls st h R :=
  fun p e Rm s m args below meth c Q hx h1 h2 hkk H locs cells slots A g1 g2 g3 g4 g5 => hE p e Rm s m args below meth c Q hx (by omega) (by omega) hkk H locs cells slots A g1 g2 (by omega) (by omega) g5
/-- ends -/
theorem Ev.ret {r : Option Value} (hr : ev_ret M pc r) (hR : R r h) : Ev G d k n M pc ls r.toList h R := by
  intro p e Rm s m args below meth c Q hx h1 h2 hkk H locs cells slots A g1 g2 g3 g4 g5
  have := hkk r h H locs cells slots pc A hR g1 g2 (by omega) (by omega) hr
  cases r <;> exact this
end EVR
/-! plain instructions -/
def ev_ln : Instr → Nat
  | .bipush _ => 2
  | .sipush _ => 3
  | .iload _ => 2
  | .lload _ => 2
  | .aload _ => 2
  | .istore _ => 2
  | .lstore _ => 2
  | .astore _ => 2
  | .iinc _ _ => 3
  | .goto _ => 3
  | _ => 1
def ev_ii (f : Int32 → Int32 → Int32) : List Value → Option (List Value)
  | .int y :: .int x :: r => some (.int (f x y) :: r)
  | _ => none
def ev_ll (f : Int64 → Int64 → Int64) : List Value → Option (List Value)
  | .long y :: .long x :: r => some (.long (f x y) :: r)
  | _ => none
def ev_li (f : Int64 → Int32 → Int64) : List Value → Option (List Value)
  | .int y :: .long x :: r => some (.long (f x y) :: r)
  | _ => none
def ev_i (f : Int32 → Value) : List Value → Option (List Value)
  | .int x :: r => some (f x :: r)
  | _ => none
def ev_l (f : Int64 → Value) : List Value → Option (List Value)
  | .long x :: r => some (f x :: r)
  | _ => none
theorem ev_ii_o {f : Int32 → Int32 → Int32} {st st' : List Value} (h : ev_ii f st = some st') : ∃ x y r, st = .int y :: .int x :: r ∧ st' = .int (f x y) :: r := by
  unfold ev_ii at h; split at h
  · cases h; exact ⟨_, _, _, rfl, rfl⟩
  · cases h
theorem ev_ll_o {f : Int64 → Int64 → Int64} {st st' : List Value} (h : ev_ll f st = some st') : ∃ x y r, st = .long y :: .long x :: r ∧ st' = .long (f x y) :: r := by
  unfold ev_ll at h; split at h
  · cases h; exact ⟨_, _, _, rfl, rfl⟩
  · cases h
theorem ev_li_o {f : Int64 → Int32 → Int64} {st st' : List Value} (h : ev_li f st = some st') : ∃ x y r, st = .int y :: .long x :: r ∧ st' = .long (f x y) :: r := by
  unfold ev_li at h; split at h
  · cases h; exact ⟨_, _, _, rfl, rfl⟩
  · cases h
theorem ev_i_o {f : Int32 → Value} {st st' : List Value} (h : ev_i f st = some st') : ∃ x r, st = .int x :: r ∧ st' = f x :: r := by
  unfold ev_i at h; split at h
  · cases h; exact ⟨_, _, rfl, rfl⟩
  · cases h
theorem ev_l_o {f : Int64 → Value} {st st' : List Value} (h : ev_l f st = some st') : ∃ x r, st = .long x :: r ∧ st' = f x :: r := by
  unfold ev_l at h; split at h
  · cases h; exact ⟨_, _, rfl, rfl⟩
  · cases h
def ev_ldi (ls : List Value) (i : Nat) : Option Value := match ls[i]? with
  | some (.int x) => some (.int x)
  | _ => none
def ev_ldl (ls : List Value) (i : Nat) : Option Value := match ls[i]? with
  | some (.long x) => some (.long x)
  | _ => none
def ev_lda (ls : List Value) (i : Nat) : Option Value := match ls[i]? with
  | some (.ref x) => some (.ref x)
  | some .null => some .null
  | _ => none
theorem ev_ldi_o {ls : List Value} {i : Nat} {v : Value} (h : ev_ldi ls i = some v) : ∃ x, ls[i]? = some (.int x) ∧ v = .int x := by
  unfold ev_ldi at h; split at h
  · next x hx => cases h; exact ⟨_, hx, rfl⟩
  · cases h
theorem ev_ldl_o {ls : List Value} {i : Nat} {v : Value} (h : ev_ldl ls i = some v) : ∃ x, ls[i]? = some (.long x) ∧ v = .long x := by
  unfold ev_ldl at h; split at h
  · next x hx => cases h; exact ⟨_, hx, rfl⟩
  · cases h
theorem ev_lda_o {ls : List Value} {i : Nat} {v : Value} (h : ev_lda ls i = some v) : (∃ x, ls[i]? = some (.ref x) ∧ v = .ref x) ∨ (ls[i]? = some .null ∧ v = .null) := by
  unfold ev_lda at h; split at h
  · next x hx => cases h; exact Or.inl ⟨_, hx, rfl⟩
  · next hx => cases h; exact Or.inr ⟨hx, rfl⟩
  · cases h
def ev_sti (nL : Nat) (ls : List Value) (i : Nat) : List Value → Option (List Value × List Value)
  | .int x :: r => if i < nL then some (ev_set1 ls i (.int x), r) else none
  | _ => none
def ev_stl (nL : Nat) (ls : List Value) (i : Nat) : List Value → Option (List Value × List Value)
  | .long x :: r => if i + 1 < nL then some (ev_set2 ls i (.long x), r) else none
  | _ => none
def ev_sta (nL : Nat) (ls : List Value) (i : Nat) : List Value → Option (List Value × List Value)
  | .ref x :: r => if i < nL then some (ev_set1 ls i (.ref x), r) else none
  | .null :: r => if i < nL then some (ev_set1 ls i .null, r) else none
  | _ => none
theorem ev_sti_o {nL i : Nat} {ls st : List Value} {q : List Value × List Value} (h : ev_sti nL ls i st = some q) : ∃ x r, i < nL ∧ st = .int x :: r ∧ q = (ev_set1 ls i (.int x), r) := by
  unfold ev_sti at h; split at h
  · split at h
    · next hi => cases h; exact ⟨_, _, hi, rfl, rfl⟩
    · cases h
  · cases h
theorem ev_stl_o {nL i : Nat} {ls st : List Value} {q : List Value × List Value} (h : ev_stl nL ls i st = some q) : ∃ x r, i + 1 < nL ∧ st = .long x :: r ∧ q = (ev_set2 ls i (.long x), r) := by
  unfold ev_stl at h; split at h
  · split at h
    · next hi => cases h; exact ⟨_, _, hi, rfl, rfl⟩
    · cases h
  · cases h
theorem ev_sta_o {nL i : Nat} {ls st : List Value} {q : List Value × List Value} (h : ev_sta nL ls i st = some q) : (∃ x r, i < nL ∧ st = .ref x :: r ∧ q = (ev_set1 ls i (.ref x), r)) ∨ (∃ r, i < nL ∧ st = .null :: r ∧ q = (ev_set1 ls i .null, r)) := by
  unfold ev_sta at h; split at h
  · split at h
    · next hi => cases h; exact Or.inl ⟨_, _, hi, rfl, rfl⟩
    · cases h
  · split at h
    · next hi => cases h; exact Or.inr ⟨_, hi, rfl, rfl⟩
    · cases h
  · cases h
abbrev ev_push (pc len : Nat) (ls : List Value) (st : Option (List Value)) : Option (Nat × List Value × List Value) := st.map fun q => (pc + len, ls, q)
abbrev ev_stor (pc len : Nat) (q : Option (List Value × List Value)) : Option (Nat × List Value × List Value) := q.map fun q => (pc + len, q.1, q.2)
/-- a plain instruction: where it goes on, locals, stack -/
def ev_stp (nL : Nat) (i : Instr) (pc : Nat) (ls st : List Value) : Option (Nat × List Value × List Value) := match i with
  | .iconst v => some (pc + 1, ls, .int (Int32.ofInt v) :: st)
  | .bipush v => some (pc + 2, ls, .int (Int8.ofInt v).toInt32 :: st)
  | .sipush v => some (pc + 3, ls, .int (Int16.ofInt v).toInt32 :: st)
  | .lconst v => some (pc + 1, ls, .long (Int64.ofNat v.val) :: st)
  | .aconst_null => some (pc + 1, ls, .null :: st)
  | .iload j => ev_push pc 2 ls ((ev_ldi ls j).map (· :: st))
  | .iload_n j => ev_push pc 1 ls ((ev_ldi ls j.val).map (· :: st))
  | .lload j => ev_push pc 2 ls ((ev_ldl ls j).map (· :: st))
  | .lload_n j => ev_push pc 1 ls ((ev_ldl ls j.val).map (· :: st))
  | .aload j => ev_push pc 2 ls ((ev_lda ls j).map (· :: st))
  | .aload_n j => ev_push pc 1 ls ((ev_lda ls j.val).map (· :: st))
  | .istore j => ev_stor pc 2 (ev_sti nL ls j st)
  | .istore_n j => ev_stor pc 1 (ev_sti nL ls j.val st)
  | .lstore j => ev_stor pc 2 (ev_stl nL ls j st)
  | .lstore_n j => ev_stor pc 1 (ev_stl nL ls j.val st)
  | .astore j => ev_stor pc 2 (ev_sta nL ls j st)
  | .astore_n j => ev_stor pc 1 (ev_sta nL ls j.val st)
  | .iinc j v => match ls[j]? with
    | some (.int x) => if j < nL then some (pc + 3, ev_set1 ls j (.int (x + Int32.ofInt v)), st) else none
    | _ => none
  | .iadd => ev_push pc 1 ls (ev_ii (fun x y => x + y) st)
  | .isub => ev_push pc 1 ls (ev_ii (fun x y => x - y) st)
  | .imul => ev_push pc 1 ls (ev_ii (fun x y => x * y) st)
  | .iand => ev_push pc 1 ls (ev_ii (fun x y => x &&& y) st)
  | .ior => ev_push pc 1 ls (ev_ii (fun x y => x ||| y) st)
  | .ixor => ev_push pc 1 ls (ev_ii (fun x y => x ^^^ y) st)
  | .ishl => ev_push pc 1 ls (ev_ii (fun x y => x <<< (y &&& 31)) st)
  | .ishr => ev_push pc 1 ls (ev_ii (fun x y => x >>> (y &&& 31)) st)
  | .iushr => ev_push pc 1 ls (ev_ii (fun x y => (x.toUInt32 >>> (y.toUInt32 &&& Int32.toUInt32 31)).toInt32) st)
  | .ladd => ev_push pc 1 ls (ev_ll (fun x y => x + y) st)
  | .lsub => ev_push pc 1 ls (ev_ll (fun x y => x - y) st)
  | .lmul => ev_push pc 1 ls (ev_ll (fun x y => x * y) st)
  | .land => ev_push pc 1 ls (ev_ll (fun x y => x &&& y) st)
  | .lor => ev_push pc 1 ls (ev_ll (fun x y => x ||| y) st)
  | .lxor => ev_push pc 1 ls (ev_ll (fun x y => x ^^^ y) st)
  | .lshl => ev_push pc 1 ls (ev_li (fun x y => x <<< (y.toInt64 &&& 63)) st)
  | .lshr => ev_push pc 1 ls (ev_li (fun x y => x >>> (y.toInt64 &&& 63)) st)
  | .lushr => ev_push pc 1 ls (ev_li (fun x y => (x.toUInt64 >>> (y.toInt64.toUInt64 &&& Int64.toUInt64 63)).toInt64) st)
  | .ineg => ev_push pc 1 ls (ev_i (fun x => .int (-x)) st)
  | .lneg => ev_push pc 1 ls (ev_l (fun x => .long (-x)) st)
  | .i2l => ev_push pc 1 ls (ev_i (fun x => .long x.toInt64) st)
  | .l2i => ev_push pc 1 ls (ev_l (fun x => .int x.toInt32) st)
  | .i2b => ev_push pc 1 ls (ev_i (fun x => .int x.toInt8.toInt32) st)
  | .i2c => ev_push pc 1 ls (ev_i (fun x => .int (x.toUInt32 % 65536).toInt32) st)
  | .lcmp => match st with
    | .long y :: .long x :: r => some (pc + 1, ls, .int (lg_cmp x y) :: r)
    | _ => none
  | .dup => match st with
    | v :: r => if v.category = 1 then some (pc + 1, ls, v :: v :: r) else none
    | _ => none
  | .pop => match st with
    | v :: r => if v.category = 1 then some (pc + 1, ls, r) else none
    | _ => none
  | .dup2 => match st with
    | v :: w :: r => if v.category = 1 ∧ w.category = 1 then some (pc + 1, ls, v :: w :: v :: w :: r) else none
    | _ => none
  | .goto off => if 0 ≤ (pc : Int) + off then some (((pc : Int) + off).toNat, ls, st) else none
  | _ => none
