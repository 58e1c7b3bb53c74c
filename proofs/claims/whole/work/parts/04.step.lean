section EVS
variable {G : ev_G} {d k n : Nat} {M : ev_M} {pc : Nat} {ls st : List Value} {h : ev_H} {R : Option Value → ev_H → Prop}
theorem ev_ln_le (i : Instr) {nL pc pc' : Nat} {ls st ls' st' : List Value} (h : ev_stp nL i pc ls st = some (pc', ls', st')) : True := trivial
/-- a plain instruction, as a step of the machine -/
theorem ev_one {i : Instr} {pc' : Nat} {ls' st' : List Value} (hd : decode M.2.1 pc = .ok (i, ev_ln i)) (hs : ev_stp M.2.2.1 i pc ls st = some (pc', ls', st'))
    {p : Program} {e : Env} {Rm : Room} {s : State} {m : MethodId} {args : Array Value} {below : List Frame} {meth : Method} {c : Code} {Q : State → Prop} {H : Heap} {locs : List Loc} {cells slots : Nat} {A : Array Slot}
    (hx : p.tables.exec = Jvm.exec) (hb : c.code = M.2.1) (hL : ev_L G M.2.2.1 A ls)
    (kk : ∀ A', ev_L G M.2.2.1 A' ls' → W p G.1 e Rm s m args below meth c H locs cells slots Q (F0 m pc' A' (st'.map (ev_tr G)))) :
    W p G.1 e Rm s m args below meth c H locs cells slots Q (F0 m pc A (st.map (ev_tr G))) := by
  cases i <;> simp only [ev_stp] at hs
  all_goals first | cases hs; done | skip
  case iconst v => cases hs; exact lv_iconst hx hb hd rfl (kk A hL)
  case bipush v => cases hs; exact lv_bipush hx hb hd rfl (kk A hL)
  case sipush v => cases hs; exact lv_sipush hx hb hd rfl (kk A hL)
  case lconst v => cases hs; exact lv_lconst hx hb hd rfl (kk A hL)
  case aconst_null => cases hs; exact lv_null hx hb hd (kk A hL)
  case iload j =>
    obtain ⟨q, hq, e⟩ := Option.map_eq_some_iff.mp hs
    obtain ⟨v, hv, e2⟩ := Option.map_eq_some_iff.mp hq
    obtain ⟨x, hx2, rfl⟩ := ev_ldi_o hv
    cases e; cases e2
    exact lv_iload hx hb hd (hL.get hx2 rfl) (kk A hL)
  case iload_n j =>
    obtain ⟨q, hq, e⟩ := Option.map_eq_some_iff.mp hs
    obtain ⟨v, hv, e2⟩ := Option.map_eq_some_iff.mp hq
    obtain ⟨x, hx2, rfl⟩ := ev_ldi_o hv
    cases e; cases e2
    exact lv_iload_n hx hb hd rfl (hL.get hx2 rfl) (kk A hL)
  case lload j =>
    obtain ⟨q, hq, e⟩ := Option.map_eq_some_iff.mp hs
    obtain ⟨v, hv, e2⟩ := Option.map_eq_some_iff.mp hq
    obtain ⟨x, hx2, rfl⟩ := ev_ldl_o hv
    cases e; cases e2
    exact lv_lload hx hb hd (hL.get hx2 rfl) (kk A hL)
  case lload_n j =>
    obtain ⟨q, hq, e⟩ := Option.map_eq_some_iff.mp hs
    obtain ⟨v, hv, e2⟩ := Option.map_eq_some_iff.mp hq
    obtain ⟨x, hx2, rfl⟩ := ev_ldl_o hv
    cases e; cases e2
    exact lv_lload_n hx hb hd rfl (hL.get hx2 rfl) (kk A hL)
  case aload j =>
    obtain ⟨q, hq, e⟩ := Option.map_eq_some_iff.mp hs
    obtain ⟨v, hv, e2⟩ := Option.map_eq_some_iff.mp hq
    rcases ev_lda_o hv with ⟨x, hx2, rfl⟩ | ⟨hx2, rfl⟩
    · cases e; cases e2
      exact lv_aload hx hb hd (hL.get hx2 rfl) (kk A hL)
    · cases e; cases e2
      exact lv_aloadN hx hb hd (hL.get hx2 rfl) (kk A hL)
  case aload_n j =>
    obtain ⟨q, hq, e⟩ := Option.map_eq_some_iff.mp hs
    obtain ⟨v, hv, e2⟩ := Option.map_eq_some_iff.mp hq
    rcases ev_lda_o hv with ⟨x, hx2, rfl⟩ | ⟨hx2, rfl⟩
    · cases e; cases e2
      exact lv_aload_n hx hb hd rfl (hL.get hx2 rfl) (kk A hL)
    · cases e; cases e2
      exact lv_aload_nN hx hb hd rfl (hL.get hx2 rfl) (kk A hL)
  case istore j =>
    obtain ⟨q, hq, e⟩ := Option.map_eq_some_iff.mp hs
    obtain ⟨x, r, hj, rfl, rfl⟩ := ev_sti_o hq
    cases e
    obtain ⟨A', e', h'⟩ := hL.set1 (v := .int x) hj rfl
    intro T hT X
    obtain ⟨t, a, b⟩ := kk A' h' T hT X
    refine ⟨t, ?_, b⟩
    have e' : storeLocals A j (.int x) = some A' := e'
    show Steps p.tables e below (T.setTop (F0 m pc A (.int x :: r.map (ev_tr G)))) t
    jvm_step X.here [X.here.top, ↓top_set X.here.top, hx, hb, hd, e', ev_ln]
    exact a
  case istore_n j =>
    obtain ⟨q, hq, e⟩ := Option.map_eq_some_iff.mp hs
    obtain ⟨x, r, hj, rfl, rfl⟩ := ev_sti_o hq
    cases e
    obtain ⟨A', e', h'⟩ := hL.set1 (v := .int x) hj rfl
    intro T hT X
    obtain ⟨t, a, b⟩ := kk A' h' T hT X
    refine ⟨t, ?_, b⟩
    have e' : storeLocals A j.val (.int x) = some A' := e'
    show Steps p.tables e below (T.setTop (F0 m pc A (.int x :: r.map (ev_tr G)))) t
    jvm_step X.here [X.here.top, ↓top_set X.here.top, hx, hb, hd, e', ev_ln]
    exact a
  case lstore j =>
    obtain ⟨q, hq, e⟩ := Option.map_eq_some_iff.mp hs
    obtain ⟨x, r, hj, rfl, rfl⟩ := ev_stl_o hq
    cases e
    obtain ⟨A', e', h'⟩ := hL.set2 (v := .long x) hj rfl
    intro T hT X
    obtain ⟨t, a, b⟩ := kk A' h' T hT X
    refine ⟨t, ?_, b⟩
    have e' : storeLocals A j (.long x) = some A' := e'
    show Steps p.tables e below (T.setTop (F0 m pc A (.long x :: r.map (ev_tr G)))) t
    jvm_step X.here [X.here.top, ↓top_set X.here.top, hx, hb, hd, e', ev_ln]
    exact a
  case lstore_n j =>
    obtain ⟨q, hq, e⟩ := Option.map_eq_some_iff.mp hs
    obtain ⟨x, r, hj, rfl, rfl⟩ := ev_stl_o hq
    cases e
    obtain ⟨A', e', h'⟩ := hL.set2 (v := .long x) hj rfl
    intro T hT X
    obtain ⟨t, a, b⟩ := kk A' h' T hT X
    refine ⟨t, ?_, b⟩
    have e' : storeLocals A j.val (.long x) = some A' := e'
    show Steps p.tables e below (T.setTop (F0 m pc A (.long x :: r.map (ev_tr G)))) t
    jvm_step X.here [X.here.top, ↓top_set X.here.top, hx, hb, hd, e', ev_ln]
    exact a
  case astore j =>
    obtain ⟨q, hq, e⟩ := Option.map_eq_some_iff.mp hs
    rcases ev_sta_o hq with ⟨x, r, hj, rfl, rfl⟩ | ⟨r, hj, rfl, rfl⟩
    · cases e
      obtain ⟨A', e', h'⟩ := hL.set1 (v := .ref x) hj rfl
      intro T hT X
      obtain ⟨t, a, b⟩ := kk A' h' T hT X
      refine ⟨t, ?_, b⟩
      have e' : storeLocals A j (.ref (ev_ad G x)) = some A' := e'
      show Steps p.tables e below (T.setTop (F0 m pc A (.ref (ev_ad G x) :: r.map (ev_tr G)))) t
      jvm_step X.here [X.here.top, ↓top_set X.here.top, hx, hb, hd, e', ev_ln]
      exact ⟨rfl, a⟩
    · cases e
      obtain ⟨A', e', h'⟩ := hL.set1 (v := .null) hj rfl
      intro T hT X
      obtain ⟨t, a, b⟩ := kk A' h' T hT X
      refine ⟨t, ?_, b⟩
      have e' : storeLocals A j .null = some A' := e'
      show Steps p.tables e below (T.setTop (F0 m pc A (.null :: r.map (ev_tr G)))) t
      jvm_step X.here [X.here.top, ↓top_set X.here.top, hx, hb, hd, e', ev_ln]
      exact ⟨rfl, a⟩
  case astore_n j =>
    obtain ⟨q, hq, e⟩ := Option.map_eq_some_iff.mp hs
    rcases ev_sta_o hq with ⟨x, r, hj, rfl, rfl⟩ | ⟨r, hj, rfl, rfl⟩
    · cases e
      obtain ⟨A', e', h'⟩ := hL.set1 (v := .ref x) hj rfl
      intro T hT X
      obtain ⟨t, a, b⟩ := kk A' h' T hT X
      refine ⟨t, ?_, b⟩
      have e' : storeLocals A j.val (.ref (ev_ad G x)) = some A' := e'
      show Steps p.tables e below (T.setTop (F0 m pc A (.ref (ev_ad G x) :: r.map (ev_tr G)))) t
      jvm_step X.here [X.here.top, ↓top_set X.here.top, hx, hb, hd, e', ev_ln]
      exact ⟨rfl, a⟩
    · cases e
      obtain ⟨A', e', h'⟩ := hL.set1 (v := .null) hj rfl
      intro T hT X
      obtain ⟨t, a, b⟩ := kk A' h' T hT X
      refine ⟨t, ?_, b⟩
      have e' : storeLocals A j.val .null = some A' := e'
      show Steps p.tables e below (T.setTop (F0 m pc A (.null :: r.map (ev_tr G)))) t
      jvm_step X.here [X.here.top, ↓top_set X.here.top, hx, hb, hd, e', ev_ln]
      exact ⟨rfl, a⟩
  case iinc j v =>
    split at hs
    · next x hv =>
      split at hs
      · next hj =>
        cases hs
        have hg : A[j]? = some (.val (.int x)) := hL.get hv rfl
        obtain ⟨A', e', h'⟩ := hL.set1 (v := .int (x + Int32.ofInt v)) hj rfl
        intro T hT X
        obtain ⟨t, a, b⟩ := kk A' h' T hT X
        refine ⟨t, ?_, b⟩
        have e' : storeLocals A j (.int (x + Int32.ofInt v)) = some A' := e'
        jvm_step X.here [X.here.top, ↓top_set X.here.top, hx, hb, hd, hg, e', ev_ln]
        exact a
      · cases hs
    · cases hs
  case iadd => obtain ⟨q, hq, e⟩ := Option.map_eq_some_iff.mp hs; obtain ⟨x, y, r, rfl, rfl⟩ := ev_ii_o hq; cases e; exact lv_iadd hx hb hd (kk A hL)
  case isub => obtain ⟨q, hq, e⟩ := Option.map_eq_some_iff.mp hs; obtain ⟨x, y, r, rfl, rfl⟩ := ev_ii_o hq; cases e; exact lv_isub hx hb hd (kk A hL)
  case imul => obtain ⟨q, hq, e⟩ := Option.map_eq_some_iff.mp hs; obtain ⟨x, y, r, rfl, rfl⟩ := ev_ii_o hq; cases e; exact lv_imul hx hb hd (kk A hL)
  case iand => obtain ⟨q, hq, e⟩ := Option.map_eq_some_iff.mp hs; obtain ⟨x, y, r, rfl, rfl⟩ := ev_ii_o hq; cases e; exact lv_iand hx hb hd (kk A hL)
  case ior => obtain ⟨q, hq, e⟩ := Option.map_eq_some_iff.mp hs; obtain ⟨x, y, r, rfl, rfl⟩ := ev_ii_o hq; cases e; exact lv_ior hx hb hd (kk A hL)
  case ixor => obtain ⟨q, hq, e⟩ := Option.map_eq_some_iff.mp hs; obtain ⟨x, y, r, rfl, rfl⟩ := ev_ii_o hq; cases e; exact lv_ixor hx hb hd (kk A hL)
  case ishl => obtain ⟨q, hq, e⟩ := Option.map_eq_some_iff.mp hs; obtain ⟨x, y, r, rfl, rfl⟩ := ev_ii_o hq; cases e; exact lv_ishl hx hb hd (kk A hL)
  case ishr => obtain ⟨q, hq, e⟩ := Option.map_eq_some_iff.mp hs; obtain ⟨x, y, r, rfl, rfl⟩ := ev_ii_o hq; cases e; exact lv_ishr hx hb hd (kk A hL)
  case iushr => obtain ⟨q, hq, e⟩ := Option.map_eq_some_iff.mp hs; obtain ⟨x, y, r, rfl, rfl⟩ := ev_ii_o hq; cases e; exact lv_iushr hx hb hd rfl (kk A hL)
  case ladd => obtain ⟨q, hq, e⟩ := Option.map_eq_some_iff.mp hs; obtain ⟨x, y, r, rfl, rfl⟩ := ev_ll_o hq; cases e; exact lv_ladd hx hb hd (kk A hL)
  case lsub => obtain ⟨q, hq, e⟩ := Option.map_eq_some_iff.mp hs; obtain ⟨x, y, r, rfl, rfl⟩ := ev_ll_o hq; cases e; exact lv_lsub hx hb hd (kk A hL)
  case lmul => obtain ⟨q, hq, e⟩ := Option.map_eq_some_iff.mp hs; obtain ⟨x, y, r, rfl, rfl⟩ := ev_ll_o hq; cases e; exact lv_lmul hx hb hd (kk A hL)
  case land => obtain ⟨q, hq, e⟩ := Option.map_eq_some_iff.mp hs; obtain ⟨x, y, r, rfl, rfl⟩ := ev_ll_o hq; cases e; exact lv_land hx hb hd (kk A hL)
  case lor => obtain ⟨q, hq, e⟩ := Option.map_eq_some_iff.mp hs; obtain ⟨x, y, r, rfl, rfl⟩ := ev_ll_o hq; cases e; exact lv_lor hx hb hd (kk A hL)
  case lxor => obtain ⟨q, hq, e⟩ := Option.map_eq_some_iff.mp hs; obtain ⟨x, y, r, rfl, rfl⟩ := ev_ll_o hq; cases e; exact lv_lxor hx hb hd (kk A hL)
  case lshl => obtain ⟨q, hq, e⟩ := Option.map_eq_some_iff.mp hs; obtain ⟨x, y, r, rfl, rfl⟩ := ev_li_o hq; cases e; exact lv_lshl hx hb hd rfl (kk A hL)
  case lshr => obtain ⟨q, hq, e⟩ := Option.map_eq_some_iff.mp hs; obtain ⟨x, y, r, rfl, rfl⟩ := ev_li_o hq; cases e; exact lv_lshr hx hb hd rfl (kk A hL)
  case lushr => obtain ⟨q, hq, e⟩ := Option.map_eq_some_iff.mp hs; obtain ⟨x, y, r, rfl, rfl⟩ := ev_li_o hq; cases e; exact lv_lushr hx hb hd rfl (kk A hL)
  case ineg => obtain ⟨q, hq, e⟩ := Option.map_eq_some_iff.mp hs; obtain ⟨x, r, rfl, rfl⟩ := ev_i_o hq; cases e; exact lv_ineg hx hb hd (kk A hL)
  case lneg => obtain ⟨q, hq, e⟩ := Option.map_eq_some_iff.mp hs; obtain ⟨x, r, rfl, rfl⟩ := ev_l_o hq; cases e; exact lv_lneg hx hb hd (kk A hL)
  case i2l => obtain ⟨q, hq, e⟩ := Option.map_eq_some_iff.mp hs; obtain ⟨x, r, rfl, rfl⟩ := ev_i_o hq; cases e; exact lv_i2l hx hb hd rfl (kk A hL)
  case l2i => obtain ⟨q, hq, e⟩ := Option.map_eq_some_iff.mp hs; obtain ⟨x, r, rfl, rfl⟩ := ev_l_o hq; cases e; exact lv_l2i hx hb hd rfl (kk A hL)
  case i2b => obtain ⟨q, hq, e⟩ := Option.map_eq_some_iff.mp hs; obtain ⟨x, r, rfl, rfl⟩ := ev_i_o hq; cases e; exact lv_i2b hx hb hd rfl (kk A hL)
  case i2c => obtain ⟨q, hq, e⟩ := Option.map_eq_some_iff.mp hs; obtain ⟨x, r, rfl, rfl⟩ := ev_i_o hq; cases e; exact lv_i2c hx hb hd rfl (kk A hL)
  case lcmp =>
    split at hs
    · cases hs; exact W.lcmp hx hb hd (kk A hL)
    · cases hs
  case dup =>
    split at hs
    · next v r =>
      split at hs
      · next hc => cases hs; exact lv_dup hx hb hd ((ev_cat G v).trans hc) (kk A hL)
      · cases hs
    · cases hs
  case pop =>
    split at hs
    · next v r =>
      split at hs
      · next hc => cases hs; exact lv_pop hx hb hd ((ev_cat G v).trans hc) (kk A hL)
      · cases hs
    · cases hs
  case dup2 =>
    split at hs
    · next v w r =>
      split at hs
      · next hc => cases hs; exact lv_dup2_11 hx hb hd ((ev_cat G v).trans hc.1) ((ev_cat G w).trans hc.2) (kk A hL)
      · cases hs
    · cases hs
  case goto off =>
    split at hs
    · next ho => cases hs; exact lv_goto hx hb hd (Int.toNat_of_nonneg ho).symm (kk A hL)
    · cases hs
theorem Ev.one {i : Instr} {pc' : Nat} {ls' st' : List Value} (hd : decode M.2.1 pc = .ok (i, ev_ln i)) (hs : ev_stp M.2.2.1 i pc ls st = some (pc', ls', st')) (hE : Ev G d k n M pc' ls' st' h R) : Ev G d k n M pc ls st h R := by
  intro p e Rm s m args below meth c Q hx h1 h2 hkk H locs cells slots A g1 g2 g3 g4 g5
  exact ev_one hd hs hx.1 hx.2.1 g5 (fun A' hA' => hE p e Rm s m args below meth c Q hx h1 h2 hkk H locs cells slots A' g1 g2 g3 g4 hA')
/-- several -/
def ev_go (nL : Nat) : List Instr → Nat → List Value → List Value → Option (Nat × List Value × List Value)
  | [], pc, ls, st => some (pc, ls, st)
  | i :: is, pc, ls, st => match ev_stp nL i pc ls st with
    | some (pc', ls', st') => ev_go nL is pc' ls' st'
    | none => none
def ev_nx (i : Instr) (pc : Nat) : Nat := match i with
  | .goto off => ((pc : Int) + off).toNat
  | _ => pc + ev_ln i
def ev_dec (b : ByteArray) : List Instr → Nat → Bool
  | [], _ => true
  | i :: is, pc => decide (decode b pc = .ok (i, ev_ln i)) && ev_dec b is (ev_nx i pc)
theorem ev_nx_ok {nL : Nat} {i : Instr} {pc pc' : Nat} {ls st ls' st' : List Value} (hs : ev_stp nL i pc ls st = some (pc', ls', st')) : pc' = ev_nx i pc := by
  cases i <;> simp only [ev_stp] at hs
  all_goals first | cases hs; done | skip
  all_goals first
    | (cases hs; rfl)
    | (obtain ⟨q, hq, e⟩ := Option.map_eq_some_iff.mp hs; cases e; rfl)
    | (split at hs <;> first | (cases hs; rfl) | (cases hs; done) | (split at hs <;> first | (cases hs; rfl) | (cases hs; done)))
theorem Ev.go : ∀ (is : List Instr) {pc pc' : Nat} {ls st ls' st' : List Value}, ev_dec M.2.1 is pc = true → ev_go M.2.2.1 is pc ls st = some (pc', ls', st') → Ev G d k n M pc' ls' st' h R → Ev G d k n M pc ls st h R
  | [], pc, pc', ls, st, ls', st', _, hg, hE => by
    simp only [ev_go] at hg; cases hg; exact hE
  | i :: is, pc, pc', ls, st, ls', st', hd, hg, hE => by
    simp only [ev_dec, Bool.and_eq_true, decide_eq_true_eq] at hd
    simp only [ev_go] at hg
    split at hg
    · next p1 l1 s1 h1 =>
      have e := ev_nx_ok h1
      rw [← e] at hd
      exact Ev.one hd.1 h1 (Ev.go is hd.2 hg hE)
    · cases hg
/-- a branch: the condition, where it goes if it holds, if not, the stack -/
def ev_cnd (i : Instr) (pc : Nat) (st : List Value) : Option (Prop × Int × Int × List Value) := match i with
  | .ifCond .eq o => match st with
    | .int x :: r => some (x = 0, pc + o, pc + 3, r)
    | _ => none
  | .ifCond .ne o => match st with
    | .int x :: r => some (x = 0, pc + 3, pc + o, r)
    | _ => none
  | .ifCond .lt o => match st with
    | .int x :: r => some (x < 0, pc + o, pc + 3, r)
    | _ => none
  | .ifCond .ge o => match st with
    | .int x :: r => some (x < 0, pc + 3, pc + o, r)
    | _ => none
  | .ifCond .gt o => match st with
    | .int x :: r => some (0 < x, pc + o, pc + 3, r)
    | _ => none
  | .ifCond .le o => match st with
    | .int x :: r => some (0 < x, pc + 3, pc + o, r)
    | _ => none
  | .if_icmp .eq o => match st with
    | .int y :: .int x :: r => some (x = y, pc + o, pc + 3, r)
    | _ => none
  | .if_icmp .ne o => match st with
    | .int y :: .int x :: r => some (x = y, pc + 3, pc + o, r)
    | _ => none
  | .if_icmp .lt o => match st with
    | .int y :: .int x :: r => some (x < y, pc + o, pc + 3, r)
    | _ => none
  | .if_icmp .ge o => match st with
    | .int y :: .int x :: r => some (x < y, pc + 3, pc + o, r)
    | _ => none
  | .if_icmp .gt o => match st with
    | .int y :: .int x :: r => some (y < x, pc + o, pc + 3, r)
    | _ => none
  | .if_icmp .le o => match st with
    | .int y :: .int x :: r => some (y < x, pc + 3, pc + o, r)
    | _ => none
  | _ => none
theorem Ev.br {i : Instr} {P : Prop} {t f : Nat} {r : List Value} (hd : decode M.2.1 pc = .ok (i, 3)) (hs : ev_cnd i pc st = some (P, (t : Int), (f : Int), r)) (ht : P → Ev G d k n M t ls r h R) (hf : ¬ P → Ev G d k n M f ls r h R) : Ev G d k n M pc ls st h R := by
  intro p e Rm s m args below meth c Q hx h1 h2 hkk H locs cells slots A g1 g2 g3 g4 g5
  have kt := fun q => ht q p e Rm s m args below meth c Q hx h1 h2 hkk H locs cells slots A g1 g2 g3 g4 g5
  have kf := fun q => hf q p e Rm s m args below meth c Q hx h1 h2 hkk H locs cells slots A g1 g2 g3 g4 g5
  have p3 : ∀ {a : Nat}, (pc : Int) + 3 = a → pc + 3 = a := fun h => by omega
  cases i <;> simp only [ev_cnd] at hs
  all_goals first | cases hs; done | skip
  case ifCond cd o =>
    cases cd <;> simp only at hs <;> split at hs <;> first | (cases hs; done) | skip
    all_goals
      injection hs with hs
      injection hs with hP hs
      injection hs with h3 hs
      injection hs with h4 h5
      subst hP
      subst h5
    · have := p3 h4; subst this; exact lv_if_eq hx.1 hx.2.1 hd h3 kt kf
    · have := p3 h3; subst this; exact lv_if_ne hx.1 hx.2.1 hd h4 kf kt
    · have := p3 h4; subst this; exact lv_if_lt hx.1 hx.2.1 hd h3 kt kf
    · have := p3 h3; subst this; exact lv_if_ge hx.1 hx.2.1 hd h4 (fun q => kf (Int32.not_lt.mpr q)) (fun q => kt (Int32.not_le.mp q))
    · have := p3 h4; subst this; exact lv_if_gt hx.1 hx.2.1 hd h3 kt kf
    · have := p3 h3; subst this; exact lv_if_le hx.1 hx.2.1 hd h4 (fun q => kf (Int32.not_lt.mpr q)) (fun q => kt (Int32.not_le.mp q))
  case if_icmp cd o =>
    cases cd <;> simp only at hs <;> split at hs <;> first | (cases hs; done) | skip
    all_goals
      injection hs with hs
      injection hs with hP hs
      injection hs with h3 hs
      injection hs with h4 h5
      subst hP
      subst h5
    · have := p3 h4; subst this; exact lv_icmp_eq hx.1 hx.2.1 hd h3 kt kf
    · have := p3 h3; subst this; exact lv_icmp_ne hx.1 hx.2.1 hd h4 kf kt
    · have := p3 h4; subst this; exact lv_icmp_lt hx.1 hx.2.1 hd h3 kt kf
    · have := p3 h3; subst this; exact lv_icmp_ge hx.1 hx.2.1 hd h4 (fun q => kf (Int32.not_lt.mpr q)) (fun q => kt (Int32.not_le.mp q))
    · have := p3 h4; subst this; exact lv_icmp_gt hx.1 hx.2.1 hd h3 kt kf
    · have := p3 h3; subst this; exact lv_icmp_le hx.1 hx.2.1 hd h4 (fun q => kf (Int32.not_lt.mpr q)) (fun q => kt (Int32.not_le.mp q))
end EVS
