/-! THE MODEL: how its cells stand for a state, and its smallest methods -/
abbrev MG := Int32 × Int32 × Int32 × Int32 × Int32 × Int32 × Int32
abbrev MP := Int32 × Int32 × Int32 × Int32 × Int32 × Int32 × Int64
/-- the object: status, acts, marks, taped, fault's place, fault's kind, broadMany; size, token, begin, end, faults, deep, value -/
def moC (v : MG) (z : MP) : ev_C := oC 9 [.ref 103, .int v.1, .int v.2.1, .int v.2.2.1, .ref 104, .ref 105, .ref 106, .int v.2.2.2.1, .int z.1, .int z.2.1, .int z.2.2.1, .int z.2.2.2.1, .int z.2.2.2.2.1, .int v.2.2.2.2.1, .int v.2.2.2.2.2.1, .int z.2.2.2.2.2.1, .long z.2.2.2.2.2.2, .ref 107, .ref 108, .ref 109, .ref 116, .int v.2.2.2.2.2.2, .ref 124, .ref 125]
def stV (v : MG) (l : Int32) : MG := (l, v.2)
def cel (m : Int64) (w : Nat) : Int64 := lN (m.toBitVec.toNat * 16 + w)
/-- the cells of a step -/
def cl1 (s : AStp) : List Int64 := if s.1 = 0 then [cel 0 10] else if s.1 = 1 then [cel 0 11] else if s.1 = 2 then [cel 0 12] else [cel (if s.1 = 8 then s.2.2.2.2 else if s.1 = 6 ∨ s.1 = 7 then lN s.2.2.1 else 0) (s.1 - 3), cel (lN s.2.2.2.1) 6, cel 0 (s.2.1 - 53)]
def clC (fl : List AStp) : List Int64 := fl.flatMap cl1
def SlR (g : Nat → Int64) (b : Nat) (S : AS) : Prop := g b = lN (sB S) ∧ g (b + 1) = lN (sP S) ∧ g (b + 2) = lN (sN S) ∧ g (b + 3) = lN (clTot (sFl S)) ∧ (∀ i, i < sP S → g (b + 4 + i) = lN (sBr S i)) ∧ (∀ i, i < sN S → g (b + 10 + i) = sCo S i ∧ g (b + 42 + i) = lN (sTg S i)) ∧ ∀ i, i < clTot (sFl S) → g (b + 74 + i) = (clC (sFl S)).getD i 0
def MS (h : ev_H) (S : AS) : Prop := ∃ v z g, hat h 102 (moC v z) ∧ hat h 103 (aL 9758 g) ∧ SlR g 0 S
def frB (v a b : Int64) : Bool := decide (¬ v < a) && decide (¬ b < v)
theorem b_Mo_of_0 {G : ev_G} {d k n : Nat} {h : ev_H} {R : Option Value → ev_H → Prop} {x1 : Int32} {f_status_1 : Int32} {f_acts_2 : Int32} {f_marks_3 : Int32} {f_taped_4 : Int32} {f_size_5 : Int32} {f_token_6 : Int32} {f_begin_7 : Int32} {f_end_8 : Int32} {f_faults_9 : Int32} {f_faultPlace_10 : Int32} {f_faultKind_11 : Int32} {f_deep_12 : Int32} {f_value_13 : Int64} {f_broadMany_14 : Int32} {g15 : Nat → Int64} {j16 : Nat}
  (a1 : hat h 102 (oC 9 [.ref 103, .int f_status_1, .int f_acts_2, .int f_marks_3, .ref 104, .ref 105, .ref 106, .int f_taped_4, .int f_size_5, .int f_token_6, .int f_begin_7, .int f_end_8, .int f_faults_9, .int f_faultPlace_10, .int f_faultKind_11, .int f_deep_12, .long f_value_13, .ref 107, .ref 108, .ref 109, .ref 116, .int f_broadMany_14, .ref 124, .ref 125]))
  (a2 : hat h 103 (aL 9758 g15))
  (i3 : ev_ix x1 j16 9758)
  (k1 : R (some (.long (g15 j16))) h)
  : Ev G d k n M_Mo_of 0 [.ref 102, .int x1] [] h R :=
  Ev.go (pc' := 1) (ls' := [.ref 102, .int x1]) (st' := [.ref 102]) [.aload_n 0] (by decide +kernel) rfl <|
  Ev.getf f_Mo_7 (by decide +kernel) a1 rfl <|
  Ev.go (pc' := 5) (ls' := [.ref 102, .int x1]) (st' := [.int x1, .ref 103]) [.iload_n 1] (by decide +kernel) rfl <|
  Ev.lald (j := j16) (by decide +kernel) a2 i3 <|
  Ev.ret (r := (some (.long (g15 j16)))) (Or.inr (Or.inl ⟨_, rfl, by decide +kernel, rfl⟩)) k1
theorem b_Mo_puts_0 {G : ev_G} {d k n : Nat} {h : ev_H} {R : Option Value → ev_H → Prop} {x1 : Int32} {x2 : Int64} {f_status_1 : Int32} {f_acts_2 : Int32} {f_marks_3 : Int32} {f_taped_4 : Int32} {f_size_5 : Int32} {f_token_6 : Int32} {f_begin_7 : Int32} {f_end_8 : Int32} {f_faults_9 : Int32} {f_faultPlace_10 : Int32} {f_faultKind_11 : Int32} {f_deep_12 : Int32} {f_value_13 : Int64} {f_broadMany_14 : Int32} {g15 : Nat → Int64} {j16 : Nat}
  (a1 : hat h 102 (oC 9 [.ref 103, .int f_status_1, .int f_acts_2, .int f_marks_3, .ref 104, .ref 105, .ref 106, .int f_taped_4, .int f_size_5, .int f_token_6, .int f_begin_7, .int f_end_8, .int f_faults_9, .int f_faultPlace_10, .int f_faultKind_11, .int f_deep_12, .long f_value_13, .ref 107, .ref 108, .ref 109, .ref 116, .int f_broadMany_14, .ref 124, .ref 125]))
  (a2 : hat h 103 (aL 9758 g15))
  (i3 : ev_ix x1 j16 9758)
  (k1 : R none (hset h 103 (aL 9758 (vp_updL g15 j16 x2))))
  : Ev G d k n M_Mo_puts 0 [.ref 102, .int x1, .long x2, ev_unk] [] h R :=
  Ev.go (pc' := 1) (ls' := [.ref 102, .int x1, .long x2, ev_unk]) (st' := [.ref 102]) [.aload_n 0] (by decide +kernel) rfl <|
  Ev.getf f_Mo_7 (by decide +kernel) a1 rfl <|
  Ev.go (pc' := 6) (ls' := [.ref 102, .int x1, .long x2, ev_unk]) (st' := [.long x2, .int x1, .ref 103]) [.iload_n 1, .lload_n 2] (by decide +kernel) rfl <|
  Ev.last (j := j16) (by decide +kernel) a2 i3 <| show Ev G d _ _ M_Mo_puts 7 [.ref 102, .int x1, .long x2, ev_unk] [] (hset h 103 (aL 9758 (vp_updL g15 j16 x2))) R from
  Ev.ret (r := none) (Or.inr (Or.inr (Or.inl ⟨rfl, by decide +kernel, rfl⟩))) k1
theorem b_Mo_refuse_0 {G : ev_G} {d k n : Nat} {h : ev_H} {R : Option Value → ev_H → Prop} {x1 : Int32} {f_status_1 : Int32} {f_acts_2 : Int32} {f_marks_3 : Int32} {f_taped_4 : Int32} {f_size_5 : Int32} {f_token_6 : Int32} {f_begin_7 : Int32} {f_end_8 : Int32} {f_faults_9 : Int32} {f_faultPlace_10 : Int32} {f_faultKind_11 : Int32} {f_deep_12 : Int32} {f_value_13 : Int64} {f_broadMany_14 : Int32}
  (a1 : hat h 102 (oC 9 [.ref 103, .int f_status_1, .int f_acts_2, .int f_marks_3, .ref 104, .ref 105, .ref 106, .int f_taped_4, .int f_size_5, .int f_token_6, .int f_begin_7, .int f_end_8, .int f_faults_9, .int f_faultPlace_10, .int f_faultKind_11, .int f_deep_12, .long f_value_13, .ref 107, .ref 108, .ref 109, .ref 116, .int f_broadMany_14, .ref 124, .ref 125]))
  (k1 : R (some (.int (-1 : Int32))) (hset h 102 (oC 9 [.ref 103, .int x1, .int f_acts_2, .int f_marks_3, .ref 104, .ref 105, .ref 106, .int f_taped_4, .int f_size_5, .int f_token_6, .int f_begin_7, .int f_end_8, .int f_faults_9, .int f_faultPlace_10, .int f_faultKind_11, .int f_deep_12, .long f_value_13, .ref 107, .ref 108, .ref 109, .ref 116, .int f_broadMany_14, .ref 124, .ref 125])))
  : Ev G d k n M_Mo_refuse 0 [.ref 102, .int x1] [] h R :=
  Ev.go (pc' := 2) (ls' := [.ref 102, .int x1]) (st' := [.int x1, .ref 102]) [.aload_n 0, .iload_n 1] (by decide +kernel) rfl <|
  Ev.putf f_Mo_55 (by decide +kernel) a1 (Nat.le_of_ble_eq_true rfl) rfl (fun q => nomatch q) <| show Ev G d _ _ M_Mo_refuse 5 [.ref 102, .int x1] [] (hset h 102 (oC 9 [.ref 103, .int x1, .int f_acts_2, .int f_marks_3, .ref 104, .ref 105, .ref 106, .int f_taped_4, .int f_size_5, .int f_token_6, .int f_begin_7, .int f_end_8, .int f_faults_9, .int f_faultPlace_10, .int f_faultKind_11, .int f_deep_12, .long f_value_13, .ref 107, .ref 108, .ref 109, .ref 116, .int f_broadMany_14, .ref 124, .ref 125])) R from
  Ev.go (pc' := 6) (ls' := [.ref 102, .int x1]) (st' := [.int (-1 : Int32)]) [.iconst (-1)] (by decide +kernel) rfl <|
  Ev.ret (r := (some (.int (-1 : Int32)))) (Or.inl ⟨_, rfl, by decide +kernel, _, rfl, rfl⟩) k1
theorem b_Mo_gives_I_0 {G : ev_G} {d k n : Nat} {h : ev_H} {R : Option Value → ev_H → Prop} {x1 : Int32} {f_status_1 : Int32} {f_acts_2 : Int32} {f_marks_3 : Int32} {f_taped_4 : Int32} {f_size_5 : Int32} {f_token_6 : Int32} {f_begin_7 : Int32} {f_end_8 : Int32} {f_faults_9 : Int32} {f_faultPlace_10 : Int32} {f_faultKind_11 : Int32} {f_deep_12 : Int32} {f_value_13 : Int64} {f_broadMany_14 : Int32}
  (a1 : hat h 102 (oC 9 [.ref 103, .int f_status_1, .int f_acts_2, .int f_marks_3, .ref 104, .ref 105, .ref 106, .int f_taped_4, .int f_size_5, .int f_token_6, .int f_begin_7, .int f_end_8, .int f_faults_9, .int f_faultPlace_10, .int f_faultKind_11, .int f_deep_12, .long f_value_13, .ref 107, .ref 108, .ref 109, .ref 116, .int f_broadMany_14, .ref 124, .ref 125]))
  (k1 : R (some (.int x1)) (hset h 102 (oC 9 [.ref 103, .int (0 : Int32), .int f_acts_2, .int f_marks_3, .ref 104, .ref 105, .ref 106, .int f_taped_4, .int f_size_5, .int f_token_6, .int f_begin_7, .int f_end_8, .int f_faults_9, .int f_faultPlace_10, .int f_faultKind_11, .int f_deep_12, .long f_value_13, .ref 107, .ref 108, .ref 109, .ref 116, .int f_broadMany_14, .ref 124, .ref 125])))
  : Ev G d k n M_Mo_gives_I 0 [.ref 102, .int x1] [] h R :=
  Ev.go (pc' := 2) (ls' := [.ref 102, .int x1]) (st' := [.int (0 : Int32), .ref 102]) [.aload_n 0, .iconst 0] (by decide +kernel) rfl <|
  Ev.putf f_Mo_55 (by decide +kernel) a1 (Nat.le_of_ble_eq_true rfl) rfl (fun q => nomatch q) <| show Ev G d _ _ M_Mo_gives_I 5 [.ref 102, .int x1] [] (hset h 102 (oC 9 [.ref 103, .int (0 : Int32), .int f_acts_2, .int f_marks_3, .ref 104, .ref 105, .ref 106, .int f_taped_4, .int f_size_5, .int f_token_6, .int f_begin_7, .int f_end_8, .int f_faults_9, .int f_faultPlace_10, .int f_faultKind_11, .int f_deep_12, .long f_value_13, .ref 107, .ref 108, .ref 109, .ref 116, .int f_broadMany_14, .ref 124, .ref 125])) R from
  Ev.go (pc' := 6) (ls' := [.ref 102, .int x1]) (st' := [.int x1]) [.iload_n 1] (by decide +kernel) rfl <|
  Ev.ret (r := (some (.int x1))) (Or.inl ⟨_, rfl, by decide +kernel, _, rfl, rfl⟩) k1
theorem b_Mo_gives_J_0 {G : ev_G} {d k n : Nat} {h : ev_H} {R : Option Value → ev_H → Prop} {x1 : Int64} {f_status_1 : Int32} {f_acts_2 : Int32} {f_marks_3 : Int32} {f_taped_4 : Int32} {f_size_5 : Int32} {f_token_6 : Int32} {f_begin_7 : Int32} {f_end_8 : Int32} {f_faults_9 : Int32} {f_faultPlace_10 : Int32} {f_faultKind_11 : Int32} {f_deep_12 : Int32} {f_value_13 : Int64} {f_broadMany_14 : Int32}
  (a1 : hat h 102 (oC 9 [.ref 103, .int f_status_1, .int f_acts_2, .int f_marks_3, .ref 104, .ref 105, .ref 106, .int f_taped_4, .int f_size_5, .int f_token_6, .int f_begin_7, .int f_end_8, .int f_faults_9, .int f_faultPlace_10, .int f_faultKind_11, .int f_deep_12, .long f_value_13, .ref 107, .ref 108, .ref 109, .ref 116, .int f_broadMany_14, .ref 124, .ref 125]))
  (k1 : R (some (.long x1)) (hset h 102 (oC 9 [.ref 103, .int (0 : Int32), .int f_acts_2, .int f_marks_3, .ref 104, .ref 105, .ref 106, .int f_taped_4, .int f_size_5, .int f_token_6, .int f_begin_7, .int f_end_8, .int f_faults_9, .int f_faultPlace_10, .int f_faultKind_11, .int f_deep_12, .long f_value_13, .ref 107, .ref 108, .ref 109, .ref 116, .int f_broadMany_14, .ref 124, .ref 125])))
  : Ev G d k n M_Mo_gives_J 0 [.ref 102, .long x1, ev_unk] [] h R :=
  Ev.go (pc' := 2) (ls' := [.ref 102, .long x1, ev_unk]) (st' := [.int (0 : Int32), .ref 102]) [.aload_n 0, .iconst 0] (by decide +kernel) rfl <|
  Ev.putf f_Mo_55 (by decide +kernel) a1 (Nat.le_of_ble_eq_true rfl) rfl (fun q => nomatch q) <| show Ev G d _ _ M_Mo_gives_J 5 [.ref 102, .long x1, ev_unk] [] (hset h 102 (oC 9 [.ref 103, .int (0 : Int32), .int f_acts_2, .int f_marks_3, .ref 104, .ref 105, .ref 106, .int f_taped_4, .int f_size_5, .int f_token_6, .int f_begin_7, .int f_end_8, .int f_faults_9, .int f_faultPlace_10, .int f_faultKind_11, .int f_deep_12, .long f_value_13, .ref 107, .ref 108, .ref 109, .ref 116, .int f_broadMany_14, .ref 124, .ref 125])) R from
  Ev.go (pc' := 6) (ls' := [.ref 102, .long x1, ev_unk]) (st' := [.long x1]) [.lload_n 1] (by decide +kernel) rfl <|
  Ev.ret (r := (some (.long x1))) (Or.inr (Or.inl ⟨_, rfl, by decide +kernel, rfl⟩)) k1
theorem b_Mo_isFrom_0 {G : ev_G} {d k n : Nat} {h : ev_H} {R : Option Value → ev_H → Prop} {x0 : Int64} {x2 : Int64} {x4 : Int64}
  (k1 : x0 < x2 → R (some (.int (0 : Int32))) h)
  (k2 : ¬ x0 < x2 → x4 < x0 → R (some (.int (0 : Int32))) h)
  (k3 : ¬ x0 < x2 → ¬ x4 < x0 → R (some (.int (1 : Int32))) h)
  : Ev G d k n M_Mo_isFrom 0 [.long x0, ev_unk, .long x2, ev_unk, .long x4, ev_unk] [] h R :=
  Ev.go (pc' := 2) (ls' := [.long x0, ev_unk, .long x2, ev_unk, .long x4, ev_unk]) (st' := [.long x2, .long x0]) [.lload_n 0, .lload_n 2] (by decide +kernel) rfl <|
  Ev.brl (c := .lt) (o := 14) (P := x0 < x2) (t := 17) (f := 6) (t1 := 17) (by decide +kernel) (by decide +kernel) rfl rfl (fun c1 =>
    Ev.go (pc' := 18) (ls' := [.long x0, ev_unk, .long x2, ev_unk, .long x4, ev_unk]) (st' := [.int (0 : Int32)]) [.iconst 0] (by decide +kernel) rfl <|
    Ev.ret (r := (some (.int (0 : Int32)))) (Or.inl ⟨_, rfl, by decide +kernel, _, rfl, rfl⟩) (k1 c1)
  ) (fun c1 =>
    Ev.go (pc' := 9) (ls' := [.long x0, ev_unk, .long x2, ev_unk, .long x4, ev_unk]) (st' := [.long x4, .long x0]) [.lload_n 0, .lload 4] (by decide +kernel) rfl <|
    Ev.brl (c := .gt) (o := 7) (P := x4 < x0) (t := 17) (f := 13) (t1 := 17) (by decide +kernel) (by decide +kernel) rfl rfl (fun c2 =>
      Ev.go (pc' := 18) (ls' := [.long x0, ev_unk, .long x2, ev_unk, .long x4, ev_unk]) (st' := [.int (0 : Int32)]) [.iconst 0] (by decide +kernel) rfl <|
      Ev.ret (r := (some (.int (0 : Int32)))) (Or.inl ⟨_, rfl, by decide +kernel, _, rfl, rfl⟩) (k2 c1 c2)
    ) (fun c2 =>
      Ev.go (pc' := 18) (ls' := [.long x0, ev_unk, .long x2, ev_unk, .long x4, ev_unk]) (st' := [.int (1 : Int32)]) [.iconst 1, .goto (4)] (by decide +kernel) rfl <|
      Ev.ret (r := (some (.int (1 : Int32)))) (Or.inl ⟨_, rfl, by decide +kernel, _, rfl, rfl⟩) (k3 c1 c2)
    )
  )
theorem b_Mo_has_0 {G : ev_G} {d k n : Nat} {h : ev_H} {R : Option Value → ev_H → Prop} {x0 : Int64} {x2 : Int32}
  (k1 : ((x0 >>> (x2.toInt64 &&& 63)) &&& (1 : Int64)) = (1 : Int64) → R (some (.int (1 : Int32))) h)
  (k2 : ¬ ((x0 >>> (x2.toInt64 &&& 63)) &&& (1 : Int64)) = (1 : Int64) → R (some (.int (0 : Int32))) h)
  : Ev G d k n M_Mo_has 0 [.long x0, ev_unk, .int x2] [] h R :=
  Ev.go (pc' := 6) (ls' := [.long x0, ev_unk, .int x2]) (st' := [.long (1 : Int64), .long ((x0 >>> (x2.toInt64 &&& 63)) &&& (1 : Int64))]) [.lload_n 0, .iload_n 2, .lshr, .lconst 1, .land, .lconst 1] (by decide +kernel) rfl <|
  Ev.brl (c := .ne) (o := 7) (P := ((x0 >>> (x2.toInt64 &&& 63)) &&& (1 : Int64)) = (1 : Int64)) (t := 10) (f := 14) (t1 := 14) (by decide +kernel) (by decide +kernel) rfl rfl (fun c1 =>
    Ev.go (pc' := 15) (ls' := [.long x0, ev_unk, .int x2]) (st' := [.int (1 : Int32)]) [.iconst 1, .goto (4)] (by decide +kernel) rfl <|
    Ev.ret (r := (some (.int (1 : Int32)))) (Or.inl ⟨_, rfl, by decide +kernel, _, rfl, rfl⟩) (k1 c1)
  ) (fun c1 =>
    Ev.go (pc' := 15) (ls' := [.long x0, ev_unk, .int x2]) (st' := [.int (0 : Int32)]) [.iconst 0] (by decide +kernel) rfl <|
    Ev.ret (r := (some (.int (0 : Int32)))) (Or.inl ⟨_, rfl, by decide +kernel, _, rfl, rfl⟩) (k2 c1)
  )
theorem b_Mo_ones_J_0 {G : ev_G} {d k n : Nat} {h : ev_H} {R : Option Value → ev_H → Prop} {x0 : Int64}
  (k1 : Ev G d k n M_Mo_ones_J 4 [.long x0, ev_unk, .int (0 : Int32), .long x0, ev_unk] [] h R)
  : Ev G d k n M_Mo_ones_J 0 [.long x0, ev_unk, ev_unk, ev_unk, ev_unk] [] h R :=
  Ev.go (pc' := 4) (ls' := [.long x0, ev_unk, .int (0 : Int32), .long x0, ev_unk]) (st' := []) [.iconst 0, .istore_n 2, .lload_n 0, .lstore_n 3] (by decide +kernel) rfl <|
  k1
theorem b_Mo_ones_J_4 {G : ev_G} {d k n : Nat} {h : ev_H} {R : Option Value → ev_H → Prop} {x0 : Int64} {x2 : Int32} {x3 : Int64}
  (k1 : x3 = (0 : Int64) → R (some (.int x2)) h)
  (k2 : ¬ x3 = (0 : Int64) → Ev G d k n M_Mo_ones_J 4 [.long x0, ev_unk, .int (x2 + (1 : Int32)), .long (x3 &&& (x3 - (1 : Int64))), ev_unk] [] h R)
  : Ev G d k n M_Mo_ones_J 4 [.long x0, ev_unk, .int x2, .long x3, ev_unk] [] h R :=
  Ev.go (pc' := 6) (ls' := [.long x0, ev_unk, .int x2, .long x3, ev_unk]) (st' := [.long (0 : Int64), .long x3]) [.lload_n 3, .lconst 0] (by decide +kernel) rfl <|
  Ev.brl (c := .eq) (o := 15) (P := x3 = (0 : Int64)) (t := 22) (f := 10) (t1 := 22) (by decide +kernel) (by decide +kernel) rfl rfl (fun c1 =>
    Ev.go (pc' := 23) (ls' := [.long x0, ev_unk, .int x2, .long x3, ev_unk]) (st' := [.int x2]) [.iload_n 2] (by decide +kernel) rfl <|
    Ev.ret (r := (some (.int x2))) (Or.inl ⟨_, rfl, by decide +kernel, _, rfl, rfl⟩) (k1 c1)
  ) (fun c1 =>
    Ev.go (pc' := 4) (ls' := [.long x0, ev_unk, .int (x2 + (1 : Int32)), .long (x3 &&& (x3 - (1 : Int64))), ev_unk]) (st' := []) [.iinc 2 (1), .lload_n 3, .lload_n 3, .lconst 1, .lsub, .land, .lstore_n 3, .goto (-15)] (by decide +kernel) rfl <|
    (k2 c1)
  )
section S43a
variable {G : ev_G} {d : Nat} {h : ev_H} {R : Option Value → ev_H → Prop} {S : AS} {v : MG} {z : MP} {g : Nat → Int64}
theorem s_Mo_of {x : Int32} {j : Nat} (m1 : hat h 102 (moC v z)) (m2 : hat h 103 (aL 9758 g)) (i : ev_ix x j 9758) (hR : R (some (.long (g j))) h) : Ev G d 0 0 M_Mo_of 0 [.ref 102, .int x] [] h R :=
  b_Mo_of_0 m1 m2 i hR
theorem s_Mo_puts {x : Int32} {y : Int64} {j : Nat} (m1 : hat h 102 (moC v z)) (m2 : hat h 103 (aL 9758 g)) (i : ev_ix x j 9758) (hR : R none (hset h 103 (aL 9758 (vp_updL g j y)))) : Ev G d 0 0 M_Mo_puts 0 [.ref 102, .int x, .long y, ev_unk] [] h R :=
  b_Mo_puts_0 m1 m2 i hR
theorem s_Mo_refuse {x : Int32} (m1 : hat h 102 (moC v z)) (hR : R (some (.int (-1 : Int32))) (hset h 102 (moC (stV v x) z))) : Ev G d 0 0 M_Mo_refuse 0 [.ref 102, .int x] [] h R :=
  b_Mo_refuse_0 m1 hR
theorem s_Mo_gives_I {x : Int32} (m1 : hat h 102 (moC v z)) (hR : R (some (.int x)) (hset h 102 (moC (stV v 0) z))) : Ev G d 0 0 M_Mo_gives_I 0 [.ref 102, .int x] [] h R :=
  b_Mo_gives_I_0 m1 hR
theorem s_Mo_gives_J {x : Int64} (m1 : hat h 102 (moC v z)) (hR : R (some (.long x)) (hset h 102 (moC (stV v 0) z))) : Ev G d 0 0 M_Mo_gives_J 0 [.ref 102, .long x, ev_unk] [] h R :=
  b_Mo_gives_J_0 m1 hR
theorem s_Mo_isFrom {x a b : Int64} (hR : R (some (.int (b2i (frB x a b)))) h) : Ev G d 0 0 M_Mo_isFrom 0 [.long x, ev_unk, .long a, ev_unk, .long b, ev_unk] [] h R := by
  unfold frB at hR
  refine b_Mo_isFrom_0 (fun c => ?_) (fun c c2 => ?_) (fun c c2 => ?_)
  · rw [decide_eq_false (p := ¬ x < a) (fun z => z c)] at hR; exact hR
  · rw [decide_eq_true (p := ¬ x < a) c, decide_eq_false (p := ¬ b < x) (fun z => z c2)] at hR; exact hR
  · rw [decide_eq_true (p := ¬ x < a) c, decide_eq_true (p := ¬ b < x) c2] at hR; exact hR
theorem s_Mo_has {x : Int64} {i : Int32} (hR : R (some (.int (b2i (tbL x i)))) h) : Ev G d 0 0 M_Mo_has 0 [.long x, ev_unk, .int i] [] h R := by
  refine b_Mo_has_0 (fun c => ?_) (fun c => ?_) <;> rw [has_eqL] at c <;> cases e : tbL x i <;> rw [e] at c hR
  · exact absurd c (by decide)
  · exact hR
  · exact hR
  · exact absurd rfl c
theorem s_Mo_ones_J {x : Int64} (hR : R (some (.int (nI (pop x)))) h) : Ev G d 0 0 M_Mo_ones_J 0 [.long x, ev_unk, ev_unk, ev_unk, ev_unk] [] h R := by
  refine b_Mo_ones_J_0 ?_
  have L : ∀ (m k : Nat) (y : Nat), y < 2 ^ 64 → cnt y.testBit 64 = m → m + k = pop x → Ev G d 0 0 M_Mo_ones_J 4 [.long x, ev_unk, .int (nI k), .long (lN y), ev_unk] [] h R := by
    intro m
    induction m with
    | zero =>
      intro k y hy hm e
      have y0 : y = 0 := Nat.eq_of_testBit_eq fun i => by
        rw [Nat.zero_testBit]
        by_cases hi : i < 64
        · cases q : y.testBit i
          · rfl
          · have := cnt_split y.testBit i (64 - i)
            rw [show i + (64 - i) = 64 by omega, show 64 - i = (64 - i - 1) + 1 by omega] at this
            have c1 : 1 ≤ cnt (fun j => y.testBit (i + j)) (64 - i - 1 + 1) := by
              have := cnt_mono (p := fun j => decide (j = 0)) (q := fun j => y.testBit (i + j)) (n := 64 - i - 1 + 1) (fun k _ hk => by
                have hk : k = 0 := of_decide_eq_true hk
                subst hk; exact q)
              refine Nat.le_trans ?_ this
              have s := cnt_split (fun j => decide (j = 0)) 1 (64 - i - 1)
              rw [Nat.add_comm 1] at s
              rw [s]
              exact Nat.le_add_right 1 _
            omega
        · exact Nat.testBit_lt_two_pow (Nat.lt_of_lt_of_le hy (Nat.pow_le_pow_right (by decide) (by omega)))
      subst y0
      refine b_Mo_ones_J_4 (fun _ => ?_) (fun c => absurd rfl c)
      rw [show k = pop x by omega]; exact hR
    | succ m ih =>
      intro k y hy hm e
      refine b_Mo_ones_J_4 (fun c => ?_) (fun c => ?_)
      · have y0 : y = 0 := by
          have := congrArg (fun q : Int64 => q.toBitVec.toNat) c
          have e : (lN y).toBitVec.toNat = y := Nat.mod_eq_of_lt hy
          have e2 : (lN y).toBitVec.toNat = 0 := this
          omega
        subst y0
        have := cnt_zero (p := (0 : Nat).testBit) (n := 64) (fun k _ => Nat.zero_testBit k)
        omega
      · have yp : 0 < y := Nat.pos_of_ne_zero fun z => c (by rw [z]; rfl)
        rw [show lN y - (1 : Int64) = lN (y - 1) from lN_sub' yp, l_andN _ _ hy, nI_1]
        have := cnt_low 64 y yp hy
        exact ih (k + 1) _ (Nat.lt_of_le_of_lt Nat.and_le_left hy) (by omega) (by omega)
  obtain ⟨y, hy, rfl⟩ := l_of x
  exact L (pop (lN y)) 0 y hy (pop_lN hy).symm rfl
end S43a
theorem b_Mo_bits_0 {G : ev_G} {d k n : Nat} {h : ev_H} {R : Option Value → ev_H → Prop} {v_1 : MG} {z_2 : MP} {g_3 : Nat → Int64} {j_4 : Nat}
  (pr1 : hat h 102 (moC v_1 z_2))
  (pr2 : hat h 103 (aL 9758 g_3))
  (pr3 : ev_ix (0 : Int32) j_4 9758)
  (r4 : ∃ fs, hat h 102 (oC 9 fs))
  (k1 : R (some (.int (g_3 j_4).toInt32)) h)
  : Ev G (d + 1) k n M_Mo_bits 0 [.ref 102] [] h R :=
  Ev.go (pc' := 2) (ls' := [.ref 102]) (st' := [.int (0 : Int32), .ref 102]) [.aload_n 0, .iconst 0] (by decide +kernel) rfl <|
  Ev.cV0 (M' := M_Mo_of) (as := [.int (0 : Int32)]) (rest := []) l_Mo_64 M_Mo_of_ok M_Mo_of_in M_Mo_of_se (by decide +kernel) r4 rfl rfl rfl (Nat.le_of_ble_eq_true rfl) (Nat.le_of_ble_eq_true rfl) (s_Mo_of pr1 pr2 pr3 <| show Ev G (d + 1) _ _ M_Mo_bits 5 [.ref 102] [.long (g_3 j_4)] h R from
    Ev.go (pc' := 6) (ls' := [.ref 102]) (st' := [.int (g_3 j_4).toInt32]) [.l2i] (by decide +kernel) rfl <|
    Ev.ret (r := (some (.int (g_3 j_4).toInt32))) (Or.inl ⟨_, rfl, by decide +kernel, _, rfl, rfl⟩) k1
  )
theorem b_Mo_parts_0 {G : ev_G} {d k n : Nat} {h : ev_H} {R : Option Value → ev_H → Prop} {v_1 : MG} {z_2 : MP} {g_3 : Nat → Int64} {j_4 : Nat}
  (pr1 : hat h 102 (moC v_1 z_2))
  (pr2 : hat h 103 (aL 9758 g_3))
  (pr3 : ev_ix (1 : Int32) j_4 9758)
  (r4 : ∃ fs, hat h 102 (oC 9 fs))
  (k1 : R (some (.int (g_3 j_4).toInt32)) h)
  : Ev G (d + 1) k n M_Mo_parts 0 [.ref 102] [] h R :=
  Ev.go (pc' := 2) (ls' := [.ref 102]) (st' := [.int (1 : Int32), .ref 102]) [.aload_n 0, .iconst 1] (by decide +kernel) rfl <|
  Ev.cV0 (M' := M_Mo_of) (as := [.int (1 : Int32)]) (rest := []) l_Mo_64 M_Mo_of_ok M_Mo_of_in M_Mo_of_se (by decide +kernel) r4 rfl rfl rfl (Nat.le_of_ble_eq_true rfl) (Nat.le_of_ble_eq_true rfl) (s_Mo_of pr1 pr2 pr3 <| show Ev G (d + 1) _ _ M_Mo_parts 5 [.ref 102] [.long (g_3 j_4)] h R from
    Ev.go (pc' := 6) (ls' := [.ref 102]) (st' := [.int (g_3 j_4).toInt32]) [.l2i] (by decide +kernel) rfl <|
    Ev.ret (r := (some (.int (g_3 j_4).toInt32))) (Or.inl ⟨_, rfl, by decide +kernel, _, rfl, rfl⟩) k1
  )
theorem b_Mo_many_0_0 {G : ev_G} {d k n : Nat} {h : ev_H} {R : Option Value → ev_H → Prop} {v_1 : MG} {z_2 : MP} {g_3 : Nat → Int64} {j_4 : Nat}
  (pr1 : hat h 102 (moC v_1 z_2))
  (pr2 : hat h 103 (aL 9758 g_3))
  (pr3 : ev_ix (2 : Int32) j_4 9758)
  (r4 : ∃ fs, hat h 102 (oC 9 fs))
  (k1 : R (some (.int (g_3 j_4).toInt32)) h)
  : Ev G (d + 1) k n M_Mo_many_0 0 [.ref 102] [] h R :=
  Ev.go (pc' := 2) (ls' := [.ref 102]) (st' := [.int (2 : Int32), .ref 102]) [.aload_n 0, .iconst 2] (by decide +kernel) rfl <|
  Ev.cV0 (M' := M_Mo_of) (as := [.int (2 : Int32)]) (rest := []) l_Mo_64 M_Mo_of_ok M_Mo_of_in M_Mo_of_se (by decide +kernel) r4 rfl rfl rfl (Nat.le_of_ble_eq_true rfl) (Nat.le_of_ble_eq_true rfl) (s_Mo_of pr1 pr2 pr3 <| show Ev G (d + 1) _ _ M_Mo_many_0 5 [.ref 102] [.long (g_3 j_4)] h R from
    Ev.go (pc' := 6) (ls' := [.ref 102]) (st' := [.int (g_3 j_4).toInt32]) [.l2i] (by decide +kernel) rfl <|
    Ev.ret (r := (some (.int (g_3 j_4).toInt32))) (Or.inl ⟨_, rfl, by decide +kernel, _, rfl, rfl⟩) k1
  )
section S43b
variable {G : ev_G} {d : Nat} {h : ev_H} {R : Option Value → ev_H → Prop} {S : AS}
theorem s_Mo_bits (H : MS h S) (hR : R (some (.int (nI (sB S)))) h) : Ev G (d + 1) 0 0 M_Mo_bits 0 [.ref 102] [] h R := by
  obtain ⟨v, z, g, m1, m2, sl⟩ := H
  refine b_Mo_bits_0 m1 m2 (ixn (j := 0) (by omega) (by omega)) ⟨_, m1⟩ (by rw [sl.1, lN_i]; exact hR)
theorem s_Mo_parts (H : MS h S) (hR : R (some (.int (nI (sP S)))) h) : Ev G (d + 1) 0 0 M_Mo_parts 0 [.ref 102] [] h R := by
  obtain ⟨v, z, g, m1, m2, sl⟩ := H
  refine b_Mo_parts_0 m1 m2 (ixn (j := 1) (by omega) (by omega)) ⟨_, m1⟩ (by rw [sl.2.1, lN_i]; exact hR)
theorem s_Mo_many_0 (H : MS h S) (hR : R (some (.int (nI (sN S)))) h) : Ev G (d + 1) 0 0 M_Mo_many_0 0 [.ref 102] [] h R := by
  obtain ⟨v, z, g, m1, m2, sl⟩ := H
  refine b_Mo_many_0_0 m1 m2 (ixn (j := 2) (by omega) (by omega)) ⟨_, m1⟩ (by rw [sl.2.2.1, lN_i]; exact hR)
end S43b
theorem b_Mo_breadthOf_0 {G : ev_G} {d k n : Nat} {h : ev_H} {R : Option Value → ev_H → Prop} {x1 : Int32} {v_1 : MG} {z_2 : MP} {g_3 : Nat → Int64} {j_4 : Nat}
  (pr1 : hat h 102 (moC v_1 z_2))
  (pr2 : hat h 103 (aL 9758 g_3))
  (pr3 : ev_ix ((4 : Int32) + x1) j_4 9758)
  (r4 : ∃ fs, hat h 102 (oC 9 fs))
  (k1 : R (some (.int (g_3 j_4).toInt32)) h)
  : Ev G (d + 1) k n M_Mo_breadthOf 0 [.ref 102, .int x1] [] h R :=
  Ev.go (pc' := 4) (ls' := [.ref 102, .int x1]) (st' := [.int ((4 : Int32) + x1), .ref 102]) [.aload_n 0, .iconst 4, .iload_n 1, .iadd] (by decide +kernel) rfl <|
  Ev.cV0 (M' := M_Mo_of) (as := [.int ((4 : Int32) + x1)]) (rest := []) l_Mo_64 M_Mo_of_ok M_Mo_of_in M_Mo_of_se (by decide +kernel) r4 rfl rfl rfl (Nat.le_of_ble_eq_true rfl) (Nat.le_of_ble_eq_true rfl) (s_Mo_of pr1 pr2 pr3 <| show Ev G (d + 1) _ _ M_Mo_breadthOf 7 [.ref 102, .int x1] [.long (g_3 j_4)] h R from
    Ev.go (pc' := 8) (ls' := [.ref 102, .int x1]) (st' := [.int (g_3 j_4).toInt32]) [.l2i] (by decide +kernel) rfl <|
    Ev.ret (r := (some (.int (g_3 j_4).toInt32))) (Or.inl ⟨_, rfl, by decide +kernel, _, rfl, rfl⟩) k1
  )
theorem b_Mo_codeOf_0 {G : ev_G} {d k n : Nat} {h : ev_H} {R : Option Value → ev_H → Prop} {x1 : Int32} {v_1 : MG} {z_2 : MP} {g_3 : Nat → Int64} {j_4 : Nat}
  (pr1 : hat h 102 (moC v_1 z_2))
  (pr2 : hat h 103 (aL 9758 g_3))
  (pr3 : ev_ix ((10 : Int32) + x1) j_4 9758)
  (r4 : ∃ fs, hat h 102 (oC 9 fs))
  (k1 : R (some (.long (g_3 j_4))) h)
  : Ev G (d + 1) k n M_Mo_codeOf 0 [.ref 102, .int x1] [] h R :=
  Ev.go (pc' := 5) (ls' := [.ref 102, .int x1]) (st' := [.int ((10 : Int32) + x1), .ref 102]) [.aload_n 0, .bipush (10), .iload_n 1, .iadd] (by decide +kernel) rfl <|
  Ev.cV0 (M' := M_Mo_of) (as := [.int ((10 : Int32) + x1)]) (rest := []) l_Mo_64 M_Mo_of_ok M_Mo_of_in M_Mo_of_se (by decide +kernel) r4 rfl rfl rfl (Nat.le_of_ble_eq_true rfl) (Nat.le_of_ble_eq_true rfl) (s_Mo_of pr1 pr2 pr3 <| show Ev G (d + 1) _ _ M_Mo_codeOf 8 [.ref 102, .int x1] [.long (g_3 j_4)] h R from
    Ev.ret (r := (some (.long (g_3 j_4)))) (Or.inr (Or.inl ⟨_, rfl, by decide +kernel, rfl⟩)) k1
  )
theorem b_Mo_isCode_0 {G : ev_G} {d k n : Nat} {h : ev_H} {R : Option Value → ev_H → Prop} {x1 : Int32} {S1 : AS}
  (pr1 : ¬ x1 < (0 : Int32) → MS h S1)
  (r2 : ¬ x1 < (0 : Int32) → ∃ fs, hat h 102 (oC 9 fs))
  (k1 : x1 < (0 : Int32) → R (some (.int (0 : Int32))) h)
  (k2 : ¬ x1 < (0 : Int32) → x1 < (nI (sN S1)) → R (some (.int (1 : Int32))) h)
  (k3 : ¬ x1 < (0 : Int32) → ¬ x1 < (nI (sN S1)) → R (some (.int (0 : Int32))) h)
  : Ev G (d + 2) k n M_Mo_isCode 0 [.ref 102, .int x1] [] h R :=
  Ev.go (pc' := 1) (ls' := [.ref 102, .int x1]) (st' := [.int x1]) [.iload_n 1] (by decide +kernel) rfl <|
  Ev.br (i := .ifCond .lt (15)) (P := x1 < (0 : Int32)) (t := 16) (f := 4) (r := []) (by decide +kernel) rfl (fun c1 =>
    Ev.go (pc' := 17) (ls' := [.ref 102, .int x1]) (st' := [.int (0 : Int32)]) [.iconst 0] (by decide +kernel) rfl <|
    Ev.ret (r := (some (.int (0 : Int32)))) (Or.inl ⟨_, rfl, by decide +kernel, _, rfl, rfl⟩) (k1 c1)
  ) (fun c1 =>
    Ev.go (pc' := 6) (ls' := [.ref 102, .int x1]) (st' := [.ref 102, .int x1]) [.iload_n 1, .aload_n 0] (by decide +kernel) rfl <|
    Ev.cV0 (M' := M_Mo_many_0) (as := []) (rest := [.int x1]) l_Mo_71 M_Mo_many_0_ok M_Mo_many_0_in M_Mo_many_0_se (by decide +kernel) (r2 c1) rfl rfl rfl (Nat.le_of_ble_eq_true rfl) (Nat.le_of_ble_eq_true rfl) (s_Mo_many_0 (pr1 c1) <| show Ev G (d + 2) _ _ M_Mo_isCode 9 [.ref 102, .int x1] [.int (nI (sN S1)), .int x1] h R from
      Ev.br (i := .if_icmp .ge (7)) (P := x1 < (nI (sN S1))) (t := 12) (f := 16) (r := []) (by decide +kernel) rfl (fun c2 =>
        Ev.go (pc' := 17) (ls' := [.ref 102, .int x1]) (st' := [.int (1 : Int32)]) [.iconst 1, .goto (4)] (by decide +kernel) rfl <|
        Ev.ret (r := (some (.int (1 : Int32)))) (Or.inl ⟨_, rfl, by decide +kernel, _, rfl, rfl⟩) (k2 c1 c2)
      ) (fun c2 =>
        Ev.go (pc' := 17) (ls' := [.ref 102, .int x1]) (st' := [.int (0 : Int32)]) [.iconst 0] (by decide +kernel) rfl <|
        Ev.ret (r := (some (.int (0 : Int32)))) (Or.inl ⟨_, rfl, by decide +kernel, _, rfl, rfl⟩) (k3 c1 c2)
      )
    )
  )
theorem b_Mo_isPart_0 {G : ev_G} {d k n : Nat} {h : ev_H} {R : Option Value → ev_H → Prop} {x1 : Int32} {S1 : AS}
  (pr1 : ¬ x1 < (0 : Int32) → MS h S1)
  (r2 : ¬ x1 < (0 : Int32) → ∃ fs, hat h 102 (oC 9 fs))
  (k1 : x1 < (0 : Int32) → R (some (.int (0 : Int32))) h)
  (k2 : ¬ x1 < (0 : Int32) → x1 < (nI (sP S1)) → R (some (.int (1 : Int32))) h)
  (k3 : ¬ x1 < (0 : Int32) → ¬ x1 < (nI (sP S1)) → R (some (.int (0 : Int32))) h)
  : Ev G (d + 2) k n M_Mo_isPart 0 [.ref 102, .int x1] [] h R :=
  Ev.go (pc' := 1) (ls' := [.ref 102, .int x1]) (st' := [.int x1]) [.iload_n 1] (by decide +kernel) rfl <|
  Ev.br (i := .ifCond .lt (15)) (P := x1 < (0 : Int32)) (t := 16) (f := 4) (r := []) (by decide +kernel) rfl (fun c1 =>
    Ev.go (pc' := 17) (ls' := [.ref 102, .int x1]) (st' := [.int (0 : Int32)]) [.iconst 0] (by decide +kernel) rfl <|
    Ev.ret (r := (some (.int (0 : Int32)))) (Or.inl ⟨_, rfl, by decide +kernel, _, rfl, rfl⟩) (k1 c1)
  ) (fun c1 =>
    Ev.go (pc' := 6) (ls' := [.ref 102, .int x1]) (st' := [.ref 102, .int x1]) [.iload_n 1, .aload_n 0] (by decide +kernel) rfl <|
    Ev.cV0 (M' := M_Mo_parts) (as := []) (rest := [.int x1]) l_Mo_75 M_Mo_parts_ok M_Mo_parts_in M_Mo_parts_se (by decide +kernel) (r2 c1) rfl rfl rfl (Nat.le_of_ble_eq_true rfl) (Nat.le_of_ble_eq_true rfl) (s_Mo_parts (pr1 c1) <| show Ev G (d + 2) _ _ M_Mo_isPart 9 [.ref 102, .int x1] [.int (nI (sP S1)), .int x1] h R from
      Ev.br (i := .if_icmp .ge (7)) (P := x1 < (nI (sP S1))) (t := 12) (f := 16) (r := []) (by decide +kernel) rfl (fun c2 =>
        Ev.go (pc' := 17) (ls' := [.ref 102, .int x1]) (st' := [.int (1 : Int32)]) [.iconst 1, .goto (4)] (by decide +kernel) rfl <|
        Ev.ret (r := (some (.int (1 : Int32)))) (Or.inl ⟨_, rfl, by decide +kernel, _, rfl, rfl⟩) (k2 c1 c2)
      ) (fun c2 =>
        Ev.go (pc' := 17) (ls' := [.ref 102, .int x1]) (st' := [.int (0 : Int32)]) [.iconst 0] (by decide +kernel) rfl <|
        Ev.ret (r := (some (.int (0 : Int32)))) (Or.inl ⟨_, rfl, by decide +kernel, _, rfl, rfl⟩) (k3 c1 c2)
      )
    )
  )
theorem b_Mo_isBit_0 {G : ev_G} {d k n : Nat} {h : ev_H} {R : Option Value → ev_H → Prop} {x1 : Int32} {S1 : AS}
  (pr1 : ¬ x1 < (0 : Int32) → MS h S1)
  (r2 : ¬ x1 < (0 : Int32) → ∃ fs, hat h 102 (oC 9 fs))
  (k1 : x1 < (0 : Int32) → R (some (.int (0 : Int32))) h)
  (k2 : ¬ x1 < (0 : Int32) → x1 < (nI (sB S1)) → R (some (.int (1 : Int32))) h)
  (k3 : ¬ x1 < (0 : Int32) → ¬ x1 < (nI (sB S1)) → R (some (.int (0 : Int32))) h)
  : Ev G (d + 2) k n M_Mo_isBit 0 [.ref 102, .int x1] [] h R :=
  Ev.go (pc' := 1) (ls' := [.ref 102, .int x1]) (st' := [.int x1]) [.iload_n 1] (by decide +kernel) rfl <|
  Ev.br (i := .ifCond .lt (15)) (P := x1 < (0 : Int32)) (t := 16) (f := 4) (r := []) (by decide +kernel) rfl (fun c1 =>
    Ev.go (pc' := 17) (ls' := [.ref 102, .int x1]) (st' := [.int (0 : Int32)]) [.iconst 0] (by decide +kernel) rfl <|
    Ev.ret (r := (some (.int (0 : Int32)))) (Or.inl ⟨_, rfl, by decide +kernel, _, rfl, rfl⟩) (k1 c1)
  ) (fun c1 =>
    Ev.go (pc' := 6) (ls' := [.ref 102, .int x1]) (st' := [.ref 102, .int x1]) [.iload_n 1, .aload_n 0] (by decide +kernel) rfl <|
    Ev.cV0 (M' := M_Mo_bits) (as := []) (rest := [.int x1]) l_Mo_78 M_Mo_bits_ok M_Mo_bits_in M_Mo_bits_se (by decide +kernel) (r2 c1) rfl rfl rfl (Nat.le_of_ble_eq_true rfl) (Nat.le_of_ble_eq_true rfl) (s_Mo_bits (pr1 c1) <| show Ev G (d + 2) _ _ M_Mo_isBit 9 [.ref 102, .int x1] [.int (nI (sB S1)), .int x1] h R from
      Ev.br (i := .if_icmp .ge (7)) (P := x1 < (nI (sB S1))) (t := 12) (f := 16) (r := []) (by decide +kernel) rfl (fun c2 =>
        Ev.go (pc' := 17) (ls' := [.ref 102, .int x1]) (st' := [.int (1 : Int32)]) [.iconst 1, .goto (4)] (by decide +kernel) rfl <|
        Ev.ret (r := (some (.int (1 : Int32)))) (Or.inl ⟨_, rfl, by decide +kernel, _, rfl, rfl⟩) (k2 c1 c2)
      ) (fun c2 =>
        Ev.go (pc' := 17) (ls' := [.ref 102, .int x1]) (st' := [.int (0 : Int32)]) [.iconst 0] (by decide +kernel) rfl <|
        Ev.ret (r := (some (.int (0 : Int32)))) (Or.inl ⟨_, rfl, by decide +kernel, _, rfl, rfl⟩) (k3 c1 c2)
      )
    )
  )
theorem b_Mo_isRadius_0 {G : ev_G} {d k n : Nat} {h : ev_H} {R : Option Value → ev_H → Prop} {x1 : Int32} {S1 : AS}
  (pr1 : ¬ x1 < (0 : Int32) → MS h S1)
  (r2 : ¬ x1 < (0 : Int32) → ∃ fs, hat h 102 (oC 9 fs))
  (k1 : x1 < (0 : Int32) → R (some (.int (0 : Int32))) h)
  (k2 : ¬ x1 < (0 : Int32) → (nI (sB S1)) < x1 → R (some (.int (0 : Int32))) h)
  (k3 : ¬ x1 < (0 : Int32) → ¬ (nI (sB S1)) < x1 → R (some (.int (1 : Int32))) h)
  : Ev G (d + 2) k n M_Mo_isRadius 0 [.ref 102, .int x1] [] h R :=
  Ev.go (pc' := 1) (ls' := [.ref 102, .int x1]) (st' := [.int x1]) [.iload_n 1] (by decide +kernel) rfl <|
  Ev.br (i := .ifCond .lt (15)) (P := x1 < (0 : Int32)) (t := 16) (f := 4) (r := []) (by decide +kernel) rfl (fun c1 =>
    Ev.go (pc' := 17) (ls' := [.ref 102, .int x1]) (st' := [.int (0 : Int32)]) [.iconst 0] (by decide +kernel) rfl <|
    Ev.ret (r := (some (.int (0 : Int32)))) (Or.inl ⟨_, rfl, by decide +kernel, _, rfl, rfl⟩) (k1 c1)
  ) (fun c1 =>
    Ev.go (pc' := 6) (ls' := [.ref 102, .int x1]) (st' := [.ref 102, .int x1]) [.iload_n 1, .aload_n 0] (by decide +kernel) rfl <|
    Ev.cV0 (M' := M_Mo_bits) (as := []) (rest := [.int x1]) l_Mo_78 M_Mo_bits_ok M_Mo_bits_in M_Mo_bits_se (by decide +kernel) (r2 c1) rfl rfl rfl (Nat.le_of_ble_eq_true rfl) (Nat.le_of_ble_eq_true rfl) (s_Mo_bits (pr1 c1) <| show Ev G (d + 2) _ _ M_Mo_isRadius 9 [.ref 102, .int x1] [.int (nI (sB S1)), .int x1] h R from
      Ev.br (i := .if_icmp .gt (7)) (P := (nI (sB S1)) < x1) (t := 16) (f := 12) (r := []) (by decide +kernel) rfl (fun c2 =>
        Ev.go (pc' := 17) (ls' := [.ref 102, .int x1]) (st' := [.int (0 : Int32)]) [.iconst 0] (by decide +kernel) rfl <|
        Ev.ret (r := (some (.int (0 : Int32)))) (Or.inl ⟨_, rfl, by decide +kernel, _, rfl, rfl⟩) (k2 c1 c2)
      ) (fun c2 =>
        Ev.go (pc' := 17) (ls' := [.ref 102, .int x1]) (st' := [.int (1 : Int32)]) [.iconst 1, .goto (4)] (by decide +kernel) rfl <|
        Ev.ret (r := (some (.int (1 : Int32)))) (Or.inl ⟨_, rfl, by decide +kernel, _, rfl, rfl⟩) (k3 c1 c2)
      )
    )
  )
theorem b_Mo_isNumber_0 {G : ev_G} {d k n : Nat} {h : ev_H} {R : Option Value → ev_H → Prop} {x1 : Int64} {S1 : AS}
  (pr1 : ¬ x1 < (0 : Int64) → MS h S1)
  (r2 : ¬ x1 < (0 : Int64) → ∃ fs, hat h 102 (oC 9 fs))
  (k1 : x1 < (0 : Int64) → R (some (.int (0 : Int32))) h)
  (k2 : ¬ x1 < (0 : Int64) → (x1 >>> ((nI (sB S1)).toInt64 &&& 63)) = (0 : Int64) → R (some (.int (1 : Int32))) h)
  (k3 : ¬ x1 < (0 : Int64) → ¬ (x1 >>> ((nI (sB S1)).toInt64 &&& 63)) = (0 : Int64) → R (some (.int (0 : Int32))) h)
  : Ev G (d + 2) k n M_Mo_isNumber 0 [.ref 102, .long x1, ev_unk] [] h R :=
  Ev.go (pc' := 2) (ls' := [.ref 102, .long x1, ev_unk]) (st' := [.long (0 : Int64), .long x1]) [.lload_n 1, .lconst 0] (by decide +kernel) rfl <|
  Ev.brl (c := .lt) (o := 18) (P := x1 < (0 : Int64)) (t := 21) (f := 6) (t1 := 21) (by decide +kernel) (by decide +kernel) rfl rfl (fun c1 =>
    Ev.go (pc' := 22) (ls' := [.ref 102, .long x1, ev_unk]) (st' := [.int (0 : Int32)]) [.iconst 0] (by decide +kernel) rfl <|
    Ev.ret (r := (some (.int (0 : Int32)))) (Or.inl ⟨_, rfl, by decide +kernel, _, rfl, rfl⟩) (k1 c1)
  ) (fun c1 =>
    Ev.go (pc' := 8) (ls' := [.ref 102, .long x1, ev_unk]) (st' := [.ref 102, .long x1]) [.lload_n 1, .aload_n 0] (by decide +kernel) rfl <|
    Ev.cV0 (M' := M_Mo_bits) (as := []) (rest := [.long x1]) l_Mo_78 M_Mo_bits_ok M_Mo_bits_in M_Mo_bits_se (by decide +kernel) (r2 c1) rfl rfl rfl (Nat.le_of_ble_eq_true rfl) (Nat.le_of_ble_eq_true rfl) (s_Mo_bits (pr1 c1) <| show Ev G (d + 2) _ _ M_Mo_isNumber 11 [.ref 102, .long x1, ev_unk] [.int (nI (sB S1)), .long x1] h R from
      Ev.go (pc' := 13) (ls' := [.ref 102, .long x1, ev_unk]) (st' := [.long (0 : Int64), .long (x1 >>> ((nI (sB S1)).toInt64 &&& 63))]) [.lshr, .lconst 0] (by decide +kernel) rfl <|
      Ev.brl (c := .ne) (o := 7) (P := (x1 >>> ((nI (sB S1)).toInt64 &&& 63)) = (0 : Int64)) (t := 17) (f := 21) (t1 := 21) (by decide +kernel) (by decide +kernel) rfl rfl (fun c2 =>
        Ev.go (pc' := 22) (ls' := [.ref 102, .long x1, ev_unk]) (st' := [.int (1 : Int32)]) [.iconst 1, .goto (4)] (by decide +kernel) rfl <|
        Ev.ret (r := (some (.int (1 : Int32)))) (Or.inl ⟨_, rfl, by decide +kernel, _, rfl, rfl⟩) (k2 c1 c2)
      ) (fun c2 =>
        Ev.go (pc' := 22) (ls' := [.ref 102, .long x1, ev_unk]) (st' := [.int (0 : Int32)]) [.iconst 0] (by decide +kernel) rfl <|
        Ev.ret (r := (some (.int (0 : Int32)))) (Or.inl ⟨_, rfl, by decide +kernel, _, rfl, rfl⟩) (k3 c1 c2)
      )
    )
  )
section S43c
variable {G : ev_G} {d : Nat} {h : ev_H} {R : Option Value → ev_H → Prop} {S : AS}
theorem s_Mo_breadthOf {x : Int32} {p : Nat} (H : MS h S) (ok : sOk S) (hp : x = nI p ∧ p < sP S) (hR : R (some (.int (nI (sBr S p)))) h) : Ev G (d + 1) 0 0 M_Mo_breadthOf 0 [.ref 102, .int x] [] h R := by
  obtain ⟨v, z, g, m1, m2, sl⟩ := H
  have p6 := ok.2.2.2.1
  obtain ⟨rfl, hp⟩ := hp
  refine b_Mo_breadthOf_0 m1 m2 ⟨nI_add 4 p, by omega, by omega⟩ ⟨_, m1⟩ (by have := sl.2.2.2.2.1 p hp; rw [Nat.zero_add] at this; rw [this, lN_i]; exact hR)
theorem s_Mo_codeOf {x : Int32} {c : Nat} (H : MS h S) (ok : sOk S) (hc : x = nI c ∧ c < sN S) (hR : R (some (.long (sCo S c))) h) : Ev G (d + 1) 0 0 M_Mo_codeOf 0 [.ref 102, .int x] [] h R := by
  obtain ⟨v, z, g, m1, m2, sl⟩ := H
  have n32 := ok.2.2.2.2.1
  obtain ⟨rfl, hc⟩ := hc
  refine b_Mo_codeOf_0 m1 m2 ⟨nI_add 10 c, by omega, by omega⟩ ⟨_, m1⟩ (by have := (sl.2.2.2.2.2.1 c hc).1; rw [Nat.zero_add] at this; rw [this]; exact hR)
theorem s_Mo_isCode {x : Int32} (H : MS h S) (ok : sOk S) (hR : R (some (.int (b2i (inR x (sN S))))) h) : Ev G (d + 2) 0 0 M_Mo_isCode 0 [.ref 102, .int x] [] h R := by
  have ⟨v, z, g, m1, m2, sl⟩ := H
  have n32 := ok.2.2.2.2.1
  refine b_Mo_isCode_0 (fun c1 => H) (fun c1 => ⟨_, m1⟩) (fun c1 => by rw [inR_no1 c1] at hR; exact hR) (fun c1 c2 => by rw [inR_of (by omega) c1 c2] at hR; exact hR) (fun c1 c2 => by rw [inR_no2 (by omega) c2] at hR; exact hR)
theorem s_Mo_isPart {x : Int32} (H : MS h S) (ok : sOk S) (hR : R (some (.int (b2i (inR x (sP S))))) h) : Ev G (d + 2) 0 0 M_Mo_isPart 0 [.ref 102, .int x] [] h R := by
  have ⟨v, z, g, m1, m2, sl⟩ := H
  have n32 := ok.2.2.2.1
  refine b_Mo_isPart_0 (fun c1 => H) (fun c1 => ⟨_, m1⟩) (fun c1 => by rw [inR_no1 c1] at hR; exact hR) (fun c1 c2 => by rw [inR_of (by omega) c1 c2] at hR; exact hR) (fun c1 c2 => by rw [inR_no2 (by omega) c2] at hR; exact hR)
theorem s_Mo_isBit {x : Int32} (H : MS h S) (ok : sOk S) (hR : R (some (.int (b2i (inR x (sB S))))) h) : Ev G (d + 2) 0 0 M_Mo_isBit 0 [.ref 102, .int x] [] h R := by
  have ⟨v, z, g, m1, m2, sl⟩ := H
  have n32 := ok.2.1
  refine b_Mo_isBit_0 (fun c1 => H) (fun c1 => ⟨_, m1⟩) (fun c1 => by rw [inR_no1 c1] at hR; exact hR) (fun c1 c2 => by rw [inR_of (by omega) c1 c2] at hR; exact hR) (fun c1 c2 => by rw [inR_no2 (by omega) c2] at hR; exact hR)
theorem s_Mo_isRadius {x : Int32} (H : MS h S) (ok : sOk S) (hR : R (some (.int (b2i (inR x (sB S + 1))))) h) : Ev G (d + 2) 0 0 M_Mo_isRadius 0 [.ref 102, .int x] [] h R := by
  have ⟨v, z, g, m1, m2, sl⟩ := H
  have n32 := ok.2.1
  refine b_Mo_isRadius_0 (fun c1 => H) (fun c1 => ⟨_, m1⟩) (fun c1 => by rw [inR_no1 c1] at hR; exact hR) (fun c1 c2 => ?_) (fun c1 c2 => ?_)
  · rw [Int32.lt_iff_toInt_lt, nI_toInt (by omega)] at c2
    have : inR x (sB S + 1) = false := decide_eq_false (by omega)
    rw [this] at hR; exact hR
  · rw [Int32.lt_iff_toInt_lt] at c1
    rw [Int32.lt_iff_toInt_lt, nI_toInt (by omega)] at c2
    have c1 : ¬ x.toInt < 0 := c1
    have : inR x (sB S + 1) = true := decide_eq_true (by omega)
    rw [this] at hR; exact hR
theorem s_Mo_isNumber {x : Int64} (H : MS h S) (hR : R (some (.int (b2i (numB x (sB S))))) h) : Ev G (d + 2) 0 0 M_Mo_isNumber 0 [.ref 102, .long x, ev_unk] [] h R := by
  have ⟨v, z, g, m1, m2, sl⟩ := H
  unfold numB at hR
  refine b_Mo_isNumber_0 (fun c1 => H) (fun c1 => ⟨_, m1⟩) (fun c1 => by rw [decide_eq_false (p := ¬ x < 0) (fun z => z c1)] at hR; exact hR) (fun c1 c2 => by rw [decide_eq_true (p := ¬ x < 0) c1, decide_eq_true c2] at hR; exact hR) (fun c1 c2 => by rw [decide_eq_true (p := ¬ x < 0) c1, decide_eq_false c2] at hR; exact hR)
end S43c
