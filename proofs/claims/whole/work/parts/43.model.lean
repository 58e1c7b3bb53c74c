/-! THE MODEL: how its cells stand for a state, and its smallest methods -/
abbrev MG := Int32 × Int32 × Int32 × Int32 × Int32 × Int32 × Int32
abbrev MP := Int32 × Int32 × Int32 × Int32 × Int32 × Int32 × Int64
/-- the object: status, acts, marks, taped, fault's place, fault's kind, broadMany; size, token, begin, end, faults, deep, value -/
def moC (v : MG) (z : MP) : ev_C := oC 9 [.ref 103, .int v.1, .int v.2.1, .int v.2.2.1, .ref 104, .ref 105, .ref 106, .int v.2.2.2.1, .int z.1, .int z.2.1, .int z.2.2.1, .int z.2.2.2.1, .int z.2.2.2.2.1, .int v.2.2.2.2.1, .int v.2.2.2.2.2.1, .int z.2.2.2.2.2.1, .long z.2.2.2.2.2.2, .ref 107, .ref 108, .ref 109, .ref 116, .int v.2.2.2.2.2.2, .ref 124, .ref 125]
def stV (v : MG) (l : Int32) : MG := (l, v.2)
def cel (m : Int64) (w : Nat) : Int64 := lN (m.toBitVec.toNat * 16 + w)
/-- the cells of a step -/
def cl1 (s : AStp) : List Int64 := if s.1 = 0 then [cel 0 10] else if s.1 = 1 then [cel 0 11] else if s.1 = 2 then [cel 0 12] else [cel (if s.1 = 8 then s.2.2.2.2 else if s.1 = 6 ∨ s.1 = 7 then lN s.2.2.1 else 0) (s.1 - 3), cel (lN s.2.2.2.1) 6, cel 0 (s.2.1 - 53)]
def clC (fl : List AStp) : List Int64 := fl.flatMap cl1
def SlR (g : Nat → Int64) (b : Nat) (S : AS) : Prop := g b = lN (sB S) ∧ g (b + 1) = lN (sP S) ∧ g (b + 2) = lN (sN S) ∧ g (b + 3) = lN (clTot (sFl S)) ∧ (∀ i, i < sP S → g (b + 4 + i) = lN (sBr S i)) ∧ (∀ i, i < sN S → g (b + 10 + i) = sCo S i ∧ g (b + 42 + i) = lN (sTg S i)) ∧ ∀ i, i < clTot (sFl S) → g (b + 74 + i) = (clC (sFl S)).getD i 0
def MS (h : ev_H) (S : AS) : Prop := ∃ v z g, hat h 102 (moC v z) ∧ hat h 103 (aL 9758 g) ∧ SlR g 0 S
def frB (v a b : Int64) : Bool := decide (¬ v < a) && decide (¬ b < v)
theorem b_Mo_of_0 {G : ev_G} {d k n : Nat} {h : ev_H} {R : Option Value → ev_H → Prop} {x1 : Int32} {f_status_1 : Int32} {f_acts_2 : Int32} {f_marks_3 : Int32} {f_taped_4 : Int32} {f_size_5 : Int32} {f_token_6 : Int32} {f_begin_7 : Int32} {f_end_8 : Int32} {f_faults_9 : Int32} {f_faultPlace_10 : Int32} {f_faultKind_11 : Int32} {f_deep_12 : Int32} {f_value_13 : Int64} {f_broadMany_14 : Int32} {g15 : Nat → Int64} {j16 : Nat}
  (a1 : hat h 102 (oC 9 [.ref 103, .int f_status_1, .int f_acts_2, .int f_marks_3, .ref 104, .ref 105, .ref 106, .int f_taped_4, .int f_size_5, .int f_token_6, .int f_begin_7, .int f_end_8, .int f_faults_9, .int f_faultPlace_10, .int f_faultKind_11, .int f_deep_12, .long f_value_13, .ref 107, .ref 108, .ref 109, .ref 116, .int f_broadMany_14, .ref 124, .ref 125]))
  (a2 : hat h 103 (aL 9758 g15))
  (i3 : ev_ix x1 j16 9758)
  (k1 : R (some (.long (g15 j16))) h)
  : Ev G d k n M_Mo_of 0 [.ref 102, .int x1] [] h R :=
  Ev.go (pc' := 1) (ls' := [.ref 102, .int x1]) (st' := [.ref 102]) [.aload_n 0] (by decide +kernel) rfl <|
  Ev.getf f_Mo_7 (by decide +kernel) a1 rfl <|
  Ev.go (pc' := 5) (ls' := [.ref 102, .int x1]) (st' := [.int x1, .ref 103]) [.iload_n 1] (by decide +kernel) rfl <|
  Ev.lald (j := j16) (by decide +kernel) a2 i3 <|
  Ev.ret (r := (some (.long (g15 j16)))) (Or.inr (Or.inl ⟨_, rfl, by decide +kernel, rfl⟩)) k1
theorem b_Mo_puts_0 {G : ev_G} {d k n : Nat} {h : ev_H} {R : Option Value → ev_H → Prop} {x1 : Int32} {x2 : Int64} {f_status_1 : Int32} {f_acts_2 : Int32} {f_marks_3 : Int32} {f_taped_4 : Int32} {f_size_5 : Int32} {f_token_6 : Int32} {f_begin_7 : Int32} {f_end_8 : Int32} {f_faults_9 : Int32} {f_faultPlace_10 : Int32} {f_faultKind_11 : Int32} {f_deep_12 : Int32} {f_value_13 : Int64} {f_broadMany_14 : Int32} {g15 : Nat → Int64} {j16 : Nat}
  (a1 : hat h 102 (oC 9 [.ref 103, .int f_status_1, .int f_acts_2, .int f_marks_3, .ref 104, .ref 105, .ref 106, .int f_taped_4, .int f_size_5, .int f_token_6, .int f_begin_7, .int f_end_8, .int f_faults_9, .int f_faultPlace_10, .int f_faultKind_11, .int f_deep_12, .long f_value_13, .ref 107, .ref 108, .ref 109, .ref 116, .int f_broadMany_14, .ref 124, .ref 125]))
  (a2 : hat h 103 (aL 9758 g15))
  (i3 : ev_ix x1 j16 9758)
  (k1 : R none (hset h 103 (aL 9758 (vp_updL g15 j16 x2))))
  : Ev G d k n M_Mo_puts 0 [.ref 102, .int x1, .long x2, ev_unk] [] h R :=
  Ev.go (pc' := 1) (ls' := [.ref 102, .int x1, .long x2, ev_unk]) (st' := [.ref 102]) [.aload_n 0] (by decide +kernel) rfl <|
  Ev.getf f_Mo_7 (by decide +kernel) a1 rfl <|
  Ev.go (pc' := 6) (ls' := [.ref 102, .int x1, .long x2, ev_unk]) (st' := [.long x2, .int x1, .ref 103]) [.iload_n 1, .lload_n 2] (by decide +kernel) rfl <|
  Ev.last (j := j16) (by decide +kernel) a2 i3 <| show Ev G d _ _ M_Mo_puts 7 [.ref 102, .int x1, .long x2, ev_unk] [] (hset h 103 (aL 9758 (vp_updL g15 j16 x2))) R from
  Ev.ret (r := none) (Or.inr (Or.inr (Or.inl ⟨rfl, by decide +kernel, rfl⟩))) k1
theorem b_Mo_refuse_0 {G : ev_G} {d k n : Nat} {h : ev_H} {R : Option Value → ev_H → Prop} {x1 : Int32} {f_status_1 : Int32} {f_acts_2 : Int32} {f_marks_3 : Int32} {f_taped_4 : Int32} {f_size_5 : Int32} {f_token_6 : Int32} {f_begin_7 : Int32} {f_end_8 : Int32} {f_faults_9 : Int32} {f_faultPlace_10 : Int32} {f_faultKind_11 : Int32} {f_deep_12 : Int32} {f_value_13 : Int64} {f_broadMany_14 : Int32}
  (a1 : hat h 102 (oC 9 [.ref 103, .int f_status_1, .int f_acts_2, .int f_marks_3, .ref 104, .ref 105, .ref 106, .int f_taped_4, .int f_size_5, .int f_token_6, .int f_begin_7, .int f_end_8, .int f_faults_9, .int f_faultPlace_10, .int f_faultKind_11, .int f_deep_12, .long f_value_13, .ref 107, .ref 108, .ref 109, .ref 116, .int f_broadMany_14, .ref 124, .ref 125]))
  (k1 : R (some (.int (-1 : Int32))) (hset h 102 (oC 9 [.ref 103, .int x1, .int f_acts_2, .int f_marks_3, .ref 104, .ref 105, .ref 106, .int f_taped_4, .int f_size_5, .int f_token_6, .int f_begin_7, .int f_end_8, .int f_faults_9, .int f_faultPlace_10, .int f_faultKind_11, .int f_deep_12, .long f_value_13, .ref 107, .ref 108, .ref 109, .ref 116, .int f_broadMany_14, .ref 124, .ref 125])))
  : Ev G d k n M_Mo_refuse 0 [.ref 102, .int x1] [] h R :=
  Ev.go (pc' := 2) (ls' := [.ref 102, .int x1]) (st' := [.int x1, .ref 102]) [.aload_n 0, .iload_n 1] (by decide +kernel) rfl <|
  Ev.putf f_Mo_55 (by decide +kernel) a1 (Nat.le_of_ble_eq_true rfl) rfl (fun q => nomatch q) <| show Ev G d _ _ M_Mo_refuse 5 [.ref 102, .int x1] [] (hset h 102 (oC 9 [.ref 103, .int x1, .int f_acts_2, .int f_marks_3, .ref 104, .ref 105, .ref 106, .int f_taped_4, .int f_size_5, .int f_token_6, .int f_begin_7, .int f_end_8, .int f_faults_9, .int f_faultPlace_10, .int f_faultKind_11, .int f_deep_12, .long f_value_13, .ref 107, .ref 108, .ref 109, .ref 116, .int f_broadMany_14, .ref 124, .ref 125])) R from
  Ev.go (pc' := 6) (ls' := [.ref 102, .int x1]) (st' := [.int (-1 : Int32)]) [.iconst (-1)] (by decide +kernel) rfl <|
  Ev.ret (r := (some (.int (-1 : Int32)))) (Or.inl ⟨_, rfl, by decide +kernel, _, rfl, rfl⟩) k1
theorem b_Mo_gives_I_0 {G : ev_G} {d k n : Nat} {h : ev_H} {R : Option Value → ev_H → Prop} {x1 : Int32} {f_status_1 : Int32} {f_acts_2 : Int32} {f_marks_3 : Int32} {f_taped_4 : Int32} {f_size_5 : Int32} {f_token_6 : Int32} {f_begin_7 : Int32} {f_end_8 : Int32} {f_faults_9 : Int32} {f_faultPlace_10 : Int32} {f_faultKind_11 : Int32} {f_deep_12 : Int32} {f_value_13 : Int64} {f_broadMany_14 : Int32}
  (a1 : hat h 102 (oC 9 [.ref 103, .int f_status_1, .int f_acts_2, .int f_marks_3, .ref 104, .ref 105, .ref 106, .int f_taped_4, .int f_size_5, .int f_token_6, .int f_begin_7, .int f_end_8, .int f_faults_9, .int f_faultPlace_10, .int f_faultKind_11, .int f_deep_12, .long f_value_13, .ref 107, .ref 108, .ref 109, .ref 116, .int f_broadMany_14, .ref 124, .ref 125]))
  (k1 : R (some (.int x1)) (hset h 102 (oC 9 [.ref 103, .int (0 : Int32), .int f_acts_2, .int f_marks_3, .ref 104, .ref 105, .ref 106, .int f_taped_4, .int f_size_5, .int f_token_6, .int f_begin_7, .int f_end_8, .int f_faults_9, .int f_faultPlace_10, .int f_faultKind_11, .int f_deep_12, .long f_value_13, .ref 107, .ref 108, .ref 109, .ref 116, .int f_broadMany_14, .ref 124, .ref 125])))
  : Ev G d k n M_Mo_gives_I 0 [.ref 102, .int x1] [] h R :=
  Ev.go (pc' := 2) (ls' := [.ref 102, .int x1]) (st' := [.int (0 : Int32), .ref 102]) [.aload_n 0, .iconst 0] (by decide +kernel) rfl <|
  Ev.putf f_Mo_55 (by decide +kernel) a1 (Nat.le_of_ble_eq_true rfl) rfl (fun q => nomatch q) <| show Ev G d _ _ M_Mo_gives_I 5 [.ref 102, .int x1] [] (hset h 102 (oC 9 [.ref 103, .int (0 : Int32), .int f_acts_2, .int f_marks_3, .ref 104, .ref 105, .ref 106, .int f_taped_4, .int f_size_5, .int f_token_6, .int f_begin_7, .int f_end_8, .int f_faults_9, .int f_faultPlace_10, .int f_faultKind_11, .int f_deep_12, .long f_value_13, .ref 107, .ref 108, .ref 109, .ref 116, .int f_broadMany_14, .ref 124, .ref 125])) R from
  Ev.go (pc' := 6) (ls' := [.ref 102, .int x1]) (st' := [.int x1]) [.iload_n 1] (by decide +kernel) rfl <|
  Ev.ret (r := (some (.int x1))) (Or.inl ⟨_, rfl, by decide +kernel, _, rfl, rfl⟩) k1
theorem b_Mo_gives_J_0 {G : ev_G} {d k n : Nat} {h : ev_H} {R : Option Value → ev_H → Prop} {x1 : Int64} {f_status_1 : Int32} {f_acts_2 : Int32} {f_marks_3 : Int32} {f_taped_4 : Int32} {f_size_5 : Int32} {f_token_6 : Int32} {f_begin_7 : Int32} {f_end_8 : Int32} {f_faults_9 : Int32} {f_faultPlace_10 : Int32} {f_faultKind_11 : Int32} {f_deep_12 : Int32} {f_value_13 : Int64} {f_broadMany_14 : Int32}
  (a1 : hat h 102 (oC 9 [.ref 103, .int f_status_1, .int f_acts_2, .int f_marks_3, .ref 104, .ref 105, .ref 106, .int f_taped_4, .int f_size_5, .int f_token_6, .int f_begin_7, .int f_end_8, .int f_faults_9, .int f_faultPlace_10, .int f_faultKind_11, .int f_deep_12, .long f_value_13, .ref 107, .ref 108, .ref 109, .ref 116, .int f_broadMany_14, .ref 124, .ref 125]))
  (k1 : R (some (.long x1)) (hset h 102 (oC 9 [.ref 103, .int (0 : Int32), .int f_acts_2, .int f_marks_3, .ref 104, .ref 105, .ref 106, .int f_taped_4, .int f_size_5, .int f_token_6, .int f_begin_7, .int f_end_8, .int f_faults_9, .int f_faultPlace_10, .int f_faultKind_11, .int f_deep_12, .long f_value_13, .ref 107, .ref 108, .ref 109, .ref 116, .int f_broadMany_14, .ref 124, .ref 125])))
  : Ev G d k n M_Mo_gives_J 0 [.ref 102, .long x1, ev_unk] [] h R :=
  Ev.go (pc' := 2) (ls' := [.ref 102, .long x1, ev_unk]) (st' := [.int (0 : Int32), .ref 102]) [.aload_n 0, .iconst 0] (by decide +kernel) rfl <|
  Ev.putf f_Mo_55 (by decide +kernel) a1 (Nat.le_of_ble_eq_true rfl) rfl (fun q => nomatch q) <| show Ev G d _ _ M_Mo_gives_J 5 [.ref 102, .long x1, ev_unk] [] (hset h 102 (oC 9 [.ref 103, .int (0 : Int32), .int f_acts_2, .int f_marks_3, .ref 104, .ref 105, .ref 106, .int f_taped_4, .int f_size_5, .int f_token_6, .int f_begin_7, .int f_end_8, .int f_faults_9, .int f_faultPlace_10, .int f_faultKind_11, .int f_deep_12, .long f_value_13, .ref 107, .ref 108, .ref 109, .ref 116, .int f_broadMany_14, .ref 124, .ref 125])) R from
  Ev.go (pc' := 6) (ls' := [.ref 102, .long x1, ev_unk]) (st' := [.long x1]) [.lload_n 1] (by decide +kernel) rfl <|
  Ev.ret (r := (some (.long x1))) (Or.inr (Or.inl ⟨_, rfl, by decide +kernel, rfl⟩)) k1
theorem b_Mo_isFrom_0 {G : ev_G} {d k n : Nat} {h : ev_H} {R : Option Value → ev_H → Prop} {x0 : Int64} {x2 : Int64} {x4 : Int64}
  (k1 : x0 < x2 → R (some (.int (0 : Int32))) h)
  (k2 : ¬ x0 < x2 → x4 < x0 → R (some (.int (0 : Int32))) h)
  (k3 : ¬ x0 < x2 → ¬ x4 < x0 → R (some (.int (1 : Int32))) h)
  : Ev G d k n M_Mo_isFrom 0 [.long x0, ev_unk, .long x2, ev_unk, .long x4, ev_unk] [] h R :=
  Ev.go (pc' := 2) (ls' := [.long x0, ev_unk, .long x2, ev_unk, .long x4, ev_unk]) (st' := [.long x2, .long x0]) [.lload_n 0, .lload_n 2] (by decide +kernel) rfl <|
  Ev.brl (c := .lt) (o := 14) (P := x0 < x2) (t := 17) (f := 6) (t1 := 17) (by decide +kernel) (by decide +kernel) rfl rfl (fun c1 =>
    Ev.go (pc' := 18) (ls' := [.long x0, ev_unk, .long x2, ev_unk, .long x4, ev_unk]) (st' := [.int (0 : Int32)]) [.iconst 0] (by decide +kernel) rfl <|
    Ev.ret (r := (some (.int (0 : Int32)))) (Or.inl ⟨_, rfl, by decide +kernel, _, rfl, rfl⟩) (k1 c1)
  ) (fun c1 =>
    Ev.go (pc' := 9) (ls' := [.long x0, ev_unk, .long x2, ev_unk, .long x4, ev_unk]) (st' := [.long x4, .long x0]) [.lload_n 0, .lload 4] (by decide +kernel) rfl <|
    Ev.brl (c := .gt) (o := 7) (P := x4 < x0) (t := 17) (f := 13) (t1 := 17) (by decide +kernel) (by decide +kernel) rfl rfl (fun c2 =>
      Ev.go (pc' := 18) (ls' := [.long x0, ev_unk, .long x2, ev_unk, .long x4, ev_unk]) (st' := [.int (0 : Int32)]) [.iconst 0] (by decide +kernel) rfl <|
      Ev.ret (r := (some (.int (0 : Int32)))) (Or.inl ⟨_, rfl, by decide +kernel, _, rfl, rfl⟩) (k2 c1 c2)
    ) (fun c2 =>
      Ev.go (pc' := 18) (ls' := [.long x0, ev_unk, .long x2, ev_unk, .long x4, ev_unk]) (st' := [.int (1 : Int32)]) [.iconst 1, .goto (4)] (by decide +kernel) rfl <|
      Ev.ret (r := (some (.int (1 : Int32)))) (Or.inl ⟨_, rfl, by decide +kernel, _, rfl, rfl⟩) (k3 c1 c2)
    )
  )
theorem b_Mo_has_0 {G : ev_G} {d k n : Nat} {h : ev_H} {R : Option Value → ev_H → Prop} {x0 : Int64} {x2 : Int32}
  (k1 : ((x0 >>> (x2.toInt64 &&& 63)) &&& (1 : Int64)) = (1 : Int64) → R (some (.int (1 : Int32))) h)
  (k2 : ¬ ((x0 >>> (x2.toInt64 &&& 63)) &&& (1 : Int64)) = (1 : Int64) → R (some (.int (0 : Int32))) h)
  : Ev G d k n M_Mo_has 0 [.long x0, ev_unk, .int x2] [] h R :=
  Ev.go (pc' := 6) (ls' := [.long x0, ev_unk, .int x2]) (st' := [.long (1 : Int64), .long ((x0 >>> (x2.toInt64 &&& 63)) &&& (1 : Int64))]) [.lload_n 0, .iload_n 2, .lshr, .lconst 1, .land, .lconst 1] (by decide +kernel) rfl <|
  Ev.brl (c := .ne) (o := 7) (P := ((x0 >>> (x2.toInt64 &&& 63)) &&& (1 : Int64)) = (1 : Int64)) (t := 10) (f := 14) (t1 := 14) (by decide +kernel) (by decide +kernel) rfl rfl (fun c1 =>
    Ev.go (pc' := 15) (ls' := [.long x0, ev_unk, .int x2]) (st' := [.int (1 : Int32)]) [.iconst 1, .goto (4)] (by decide +kernel) rfl <|
    Ev.ret (r := (some (.int (1 : Int32)))) (Or.inl ⟨_, rfl, by decide +kernel, _, rfl, rfl⟩) (k1 c1)
  ) (fun c1 =>
    Ev.go (pc' := 15) (ls' := [.long x0, ev_unk, .int x2]) (st' := [.int (0 : Int32)]) [.iconst 0] (by decide +kernel) rfl <|
    Ev.ret (r := (some (.int (0 : Int32)))) (Or.inl ⟨_, rfl, by decide +kernel, _, rfl, rfl⟩) (k2 c1)
  )
theorem b_Mo_ones_J_0 {G : ev_G} {d k n : Nat} {h : ev_H} {R : Option Value → ev_H → Prop} {x0 : Int64}
  (k1 : Ev G d k n M_Mo_ones_J 4 [.long x0, ev_unk, .int (0 : Int32), .long x0, ev_unk] [] h R)
  : Ev G d k n M_Mo_ones_J 0 [.long x0, ev_unk, ev_unk, ev_unk, ev_unk] [] h R :=
  Ev.go (pc' := 4) (ls' := [.long x0, ev_unk, .int (0 : Int32), .long x0, ev_unk]) (st' := []) [.iconst 0, .istore_n 2, .lload_n 0, .lstore_n 3] (by decide +kernel) rfl <|
  k1
theorem b_Mo_ones_J_4 {G : ev_G} {d k n : Nat} {h : ev_H} {R : Option Value → ev_H → Prop} {x0 : Int64} {x2 : Int32} {x3 : Int64}
  (k1 : x3 = (0 : Int64) → R (some (.int x2)) h)
  (k2 : ¬ x3 = (0 : Int64) → Ev G d k n M_Mo_ones_J 4 [.long x0, ev_unk, .int (x2 + (1 : Int32)), .long (x3 &&& (x3 - (1 : Int64))), ev_unk] [] h R)
  : Ev G d k n M_Mo_ones_J 4 [.long x0, ev_unk, .int x2, .long x3, ev_unk] [] h R :=
  Ev.go (pc' := 6) (ls' := [.long x0, ev_unk, .int x2, .long x3, ev_unk]) (st' := [.long (0 : Int64), .long x3]) [.lload_n 3, .lconst 0] (by decide +kernel) rfl <|
  Ev.brl (c := .eq) (o := 15) (P := x3 = (0 : Int64)) (t := 22) (f := 10) (t1 := 22) (by decide +kernel) (by decide +kernel) rfl rfl (fun c1 =>
    Ev.go (pc' := 23) (ls' := [.long x0, ev_unk, .int x2, .long x3, ev_unk]) (st' := [.int x2]) [.iload_n 2] (by decide +kernel) rfl <|
    Ev.ret (r := (some (.int x2))) (Or.inl ⟨_, rfl, by decide +kernel, _, rfl, rfl⟩) (k1 c1)
  ) (fun c1 =>
    Ev.go (pc' := 4) (ls' := [.long x0, ev_unk, .int (x2 + (1 : Int32)), .long (x3 &&& (x3 - (1 : Int64))), ev_unk]) (st' := []) [.iinc 2 (1), .lload_n 3, .lload_n 3, .lconst 1, .lsub, .land, .lstore_n 3, .goto (-15)] (by decide +kernel) rfl <|
    (k2 c1)
  )
section S43a
variable {G : ev_G} {d : Nat} {h : ev_H} {R : Option Value → ev_H → Prop} {S : AS} {v : MG} {z : MP} {g : Nat → Int64}
theorem s_Mo_of {x : Int32} {j : Nat} (m1 : hat h 102 (moC v z)) (m2 : hat h 103 (aL 9758 g)) (i : ev_ix x j 9758) (hR : R (some (.long (g j))) h) : Ev G d 0 0 M_Mo_of 0 [.ref 102, .int x] [] h R :=
  b_Mo_of_0 m1 m2 i hR
theorem s_Mo_puts {x : Int32} {y : Int64} {j : Nat} (m1 : hat h 102 (moC v z)) (m2 : hat h 103 (aL 9758 g)) (i : ev_ix x j 9758) (hR : R none (hset h 103 (aL 9758 (vp_updL g j y)))) : Ev G d 0 0 M_Mo_puts 0 [.ref 102, .int x, .long y, ev_unk] [] h R :=
  b_Mo_puts_0 m1 m2 i hR
theorem s_Mo_refuse {x : Int32} (m1 : hat h 102 (moC v z)) (hR : R (some (.int (-1 : Int32))) (hset h 102 (moC (stV v x) z))) : Ev G d 0 0 M_Mo_refuse 0 [.ref 102, .int x] [] h R :=
  b_Mo_refuse_0 m1 hR
theorem s_Mo_gives_I {x : Int32} (m1 : hat h 102 (moC v z)) (hR : R (some (.int x)) (hset h 102 (moC (stV v 0) z))) : Ev G d 0 0 M_Mo_gives_I 0 [.ref 102, .int x] [] h R :=
  b_Mo_gives_I_0 m1 hR
theorem s_Mo_gives_J {x : Int64} (m1 : hat h 102 (moC v z)) (hR : R (some (.long x)) (hset h 102 (moC (stV v 0) z))) : Ev G d 0 0 M_Mo_gives_J 0 [.ref 102, .long x, ev_unk] [] h R :=
  b_Mo_gives_J_0 m1 hR
theorem s_Mo_isFrom {x a b : Int64} (hR : R (some (.int (b2i (frB x a b)))) h) : Ev G d 0 0 M_Mo_isFrom 0 [.long x, ev_unk, .long a, ev_unk, .long b, ev_unk] [] h R := by
  unfold frB at hR
  refine b_Mo_isFrom_0 (fun c => ?_) (fun c c2 => ?_) (fun c c2 => ?_)
  · rw [decide_eq_false (p := ¬ x < a) (fun z => z c)] at hR; exact hR
  · rw [decide_eq_true (p := ¬ x < a) c, decide_eq_false (p := ¬ b < x) (fun z => z c2)] at hR; exact hR
  · rw [decide_eq_true (p := ¬ x < a) c, decide_eq_true (p := ¬ b < x) c2] at hR; exact hR
theorem s_Mo_has {x : Int64} {i : Int32} (hR : R (some (.int (b2i (tbL x i)))) h) : Ev G d 0 0 M_Mo_has 0 [.long x, ev_unk, .int i] [] h R := by
  refine b_Mo_has_0 (fun c => ?_) (fun c => ?_) <;> rw [has_eqL] at c <;> cases e : tbL x i <;> rw [e] at c hR
  · exact absurd c (by decide)
  · exact hR
  · exact hR
  · exact absurd rfl c
theorem s_Mo_ones_J {x : Int64} (hR : R (some (.int (nI (pop x)))) h) : Ev G d 0 0 M_Mo_ones_J 0 [.long x, ev_unk, ev_unk, ev_unk, ev_unk] [] h R := by
  refine b_Mo_ones_J_0 ?_
  have L : ∀ (m k : Nat) (y : Nat), y < 2 ^ 64 → cnt y.testBit 64 = m → m + k = pop x → Ev G d 0 0 M_Mo_ones_J 4 [.long x, ev_unk, .int (nI k), .long (lN y), ev_unk] [] h R := by
    intro m
    induction m with
    | zero =>
      intro k y hy hm e
      have y0 : y = 0 := Nat.eq_of_testBit_eq fun i => by
        rw [Nat.zero_testBit]
        by_cases hi : i < 64
        · cases q : y.testBit i
          · rfl
          · have := cnt_split y.testBit i (64 - i)
            rw [show i + (64 - i) = 64 by omega, show 64 - i = (64 - i - 1) + 1 by omega] at this
            have c1 : 1 ≤ cnt (fun j => y.testBit (i + j)) (64 - i - 1 + 1) := by
              have := cnt_mono (p := fun j => decide (j = 0)) (q := fun j => y.testBit (i + j)) (n := 64 - i - 1 + 1) (fun k _ hk => by
                have hk : k = 0 := of_decide_eq_true hk
                subst hk; exact q)
              refine Nat.le_trans ?_ this
              have s := cnt_split (fun j => decide (j = 0)) 1 (64 - i - 1)
              rw [Nat.add_comm 1] at s
              rw [s]
              exact Nat.le_add_right 1 _
            omega
        · exact Nat.testBit_lt_two_pow (Nat.lt_of_lt_of_le hy (Nat.pow_le_pow_right (by decide) (by omega)))
      subst y0
      refine b_Mo_ones_J_4 (fun _ => ?_) (fun c => absurd rfl c)
      rw [show k = pop x by omega]; exact hR
    | succ m ih =>
      intro k y hy hm e
      refine b_Mo_ones_J_4 (fun c => ?_) (fun c => ?_)
      · have y0 : y = 0 := by
          have := congrArg (fun q : Int64 => q.toBitVec.toNat) c
          have e : (lN y).toBitVec.toNat = y := Nat.mod_eq_of_lt hy
          have e2 : (lN y).toBitVec.toNat = 0 := this
          omega
        subst y0
        have := cnt_zero (p := (0 : Nat).testBit) (n := 64) (fun k _ => Nat.zero_testBit k)
        omega
      · have yp : 0 < y := Nat.pos_of_ne_zero fun z => c (by rw [z]; rfl)
        rw [show lN y - (1 : Int64) = lN (y - 1) from lN_sub' yp, l_andN _ _ hy, nI_1]
        have := cnt_low 64 y yp hy
        exact ih (k + 1) _ (Nat.lt_of_le_of_lt Nat.and_le_left hy) (by omega) (by omega)
  obtain ⟨y, hy, rfl⟩ := l_of x
  exact L (pop (lN y)) 0 y hy (pop_lN hy).symm rfl
end S43a
theorem b_Mo_bits_0 {G : ev_G} {d k n : Nat} {h : ev_H} {R : Option Value → ev_H → Prop} {v_1 : MG} {z_2 : MP} {g_3 : Nat → Int64} {j_4 : Nat}
  (pr1 : hat h 102 (moC v_1 z_2))
  (pr2 : hat h 103 (aL 9758 g_3))
  (pr3 : ev_ix (0 : Int32) j_4 9758)
  (r4 : ∃ fs, hat h 102 (oC 9 fs))
  (k1 : R (some (.int (g_3 j_4).toInt32)) h)
  : Ev G (d + 1) k n M_Mo_bits 0 [.ref 102] [] h R :=
  Ev.go (pc' := 2) (ls' := [.ref 102]) (st' := [.int (0 : Int32), .ref 102]) [.aload_n 0, .iconst 0] (by decide +kernel) rfl <|
  Ev.cV0 (M' := M_Mo_of) (as := [.int (0 : Int32)]) (rest := []) l_Mo_64 M_Mo_of_ok M_Mo_of_in M_Mo_of_se (by decide +kernel) r4 rfl rfl rfl (Nat.le_of_ble_eq_true rfl) (Nat.le_of_ble_eq_true rfl) (s_Mo_of pr1 pr2 pr3 <| show Ev G (d + 1) _ _ M_Mo_bits 5 [.ref 102] [.long (g_3 j_4)] h R from
    Ev.go (pc' := 6) (ls' := [.ref 102]) (st' := [.int (g_3 j_4).toInt32]) [.l2i] (by decide +kernel) rfl <|
    Ev.ret (r := (some (.int (g_3 j_4).toInt32))) (Or.inl ⟨_, rfl, by decide +kernel, _, rfl, rfl⟩) k1
  )
theorem b_Mo_parts_0 {G : ev_G} {d k n : Nat} {h : ev_H} {R : Option Value → ev_H → Prop} {v_1 : MG} {z_2 : MP} {g_3 : Nat → Int64} {j_4 : Nat}
  (pr1 : hat h 102 (moC v_1 z_2))
  (pr2 : hat h 103 (aL 9758 g_3))
  (pr3 : ev_ix (1 : Int32) j_4 9758)
  (r4 : ∃ fs, hat h 102 (oC 9 fs))
  (k1 : R (some (.int (g_3 j_4).toInt32)) h)
  : Ev G (d + 1) k n M_Mo_parts 0 [.ref 102] [] h R :=
  Ev.go (pc' := 2) (ls' := [.ref 102]) (st' := [.int (1 : Int32), .ref 102]) [.aload_n 0, .iconst 1] (by decide +kernel) rfl <|
  Ev.cV0 (M' := M_Mo_of) (as := [.int (1 : Int32)]) (rest := []) l_Mo_64 M_Mo_of_ok M_Mo_of_in M_Mo_of_se (by decide +kernel) r4 rfl rfl rfl (Nat.le_of_ble_eq_true rfl) (Nat.le_of_ble_eq_true rfl) (s_Mo_of pr1 pr2 pr3 <| show Ev G (d + 1) _ _ M_Mo_parts 5 [.ref 102] [.long (g_3 j_4)] h R from
    Ev.go (pc' := 6) (ls' := [.ref 102]) (st' := [.int (g_3 j_4).toInt32]) [.l2i] (by decide +kernel) rfl <|
    Ev.ret (r := (some (.int (g_3 j_4).toInt32))) (Or.inl ⟨_, rfl, by decide +kernel, _, rfl, rfl⟩) k1
  )
theorem b_Mo_many_0_0 {G : ev_G} {d k n : Nat} {h : ev_H} {R : Option Value → ev_H → Prop} {v_1 : MG} {z_2 : MP} {g_3 : Nat → Int64} {j_4 : Nat}
  (pr1 : hat h 102 (moC v_1 z_2))
  (pr2 : hat h 103 (aL 9758 g_3))
  (pr3 : ev_ix (2 : Int32) j_4 9758)
  (r4 : ∃ fs, hat h 102 (oC 9 fs))
  (k1 : R (some (.int (g_3 j_4).toInt32)) h)
  : Ev G (d + 1) k n M_Mo_many_0 0 [.ref 102] [] h R :=
  Ev.go (pc' := 2) (ls' := [.ref 102]) (st' := [.int (2 : Int32), .ref 102]) [.aload_n 0, .iconst 2] (by decide +kernel) rfl <|
  Ev.cV0 (M' := M_Mo_of) (as := [.int (2 : Int32)]) (rest := []) l_Mo_64 M_Mo_of_ok M_Mo_of_in M_Mo_of_se (by decide +kernel) r4 rfl rfl rfl (Nat.le_of_ble_eq_true rfl) (Nat.le_of_ble_eq_true rfl) (s_Mo_of pr1 pr2 pr3 <| show Ev G (d + 1) _ _ M_Mo_many_0 5 [.ref 102] [.long (g_3 j_4)] h R from
    Ev.go (pc' := 6) (ls' := [.ref 102]) (st' := [.int (g_3 j_4).toInt32]) [.l2i] (by decide +kernel) rfl <|
    Ev.ret (r := (some (.int (g_3 j_4).toInt32))) (Or.inl ⟨_, rfl, by decide +kernel, _, rfl, rfl⟩) k1
  )
section S43b
variable {G : ev_G} {d : Nat} {h : ev_H} {R : Option Value → ev_H → Prop} {S : AS}
theorem s_Mo_bits (H : MS h S) (hR : R (some (.int (nI (sB S)))) h) : Ev G (d + 1) 0 0 M_Mo_bits 0 [.ref 102] [] h R := by
  obtain ⟨v, z, g, m1, m2, sl⟩ := H
  refine b_Mo_bits_0 m1 m2 (ixn (j := 0) (by omega) (by omega)) ⟨_, m1⟩ (by rw [sl.1, lN_i]; exact hR)
theorem s_Mo_parts (H : MS h S) (hR : R (some (.int (nI (sP S)))) h) : Ev G (d + 1) 0 0 M_Mo_parts 0 [.ref 102] [] h R := by
  obtain ⟨v, z, g, m1, m2, sl⟩ := H
  refine b_Mo_parts_0 m1 m2 (ixn (j := 1) (by omega) (by omega)) ⟨_, m1⟩ (by rw [sl.2.1, lN_i]; exact hR)
theorem s_Mo_many_0 (H : MS h S) (hR : R (some (.int (nI (sN S)))) h) : Ev G (d + 1) 0 0 M_Mo_many_0 0 [.ref 102] [] h R := by
  obtain ⟨v, z, g, m1, m2, sl⟩ := H
  refine b_Mo_many_0_0 m1 m2 (ixn (j := 2) (by omega) (by omega)) ⟨_, m1⟩ (by rw [sl.2.2.1, lN_i]; exact hR)
end S43b
theorem b_Mo_breadthOf_0 {G : ev_G} {d k n : Nat} {h : ev_H} {R : Option Value → ev_H → Prop} {x1 : Int32} {v_1 : MG} {z_2 : MP} {g_3 : Nat → Int64} {j_4 : Nat}
  (pr1 : hat h 102 (moC v_1 z_2))
  (pr2 : hat h 103 (aL 9758 g_3))
  (pr3 : ev_ix ((4 : Int32) + x1) j_4 9758)
  (r4 : ∃ fs, hat h 102 (oC 9 fs))
  (k1 : R (some (.int (g_3 j_4).toInt32)) h)
  : Ev G (d + 1) k n M_Mo_breadthOf 0 [.ref 102, .int x1] [] h R :=
  Ev.go (pc' := 4) (ls' := [.ref 102, .int x1]) (st' := [.int ((4 : Int32) + x1), .ref 102]) [.aload_n 0, .iconst 4, .iload_n 1, .iadd] (by decide +kernel) rfl <|
  Ev.cV0 (M' := M_Mo_of) (as := [.int ((4 : Int32) + x1)]) (rest := []) l_Mo_64 M_Mo_of_ok M_Mo_of_in M_Mo_of_se (by decide +kernel) r4 rfl rfl rfl (Nat.le_of_ble_eq_true rfl) (Nat.le_of_ble_eq_true rfl) (s_Mo_of pr1 pr2 pr3 <| show Ev G (d + 1) _ _ M_Mo_breadthOf 7 [.ref 102, .int x1] [.long (g_3 j_4)] h R from
    Ev.go (pc' := 8) (ls' := [.ref 102, .int x1]) (st' := [.int (g_3 j_4).toInt32]) [.l2i] (by decide +kernel) rfl <|
    Ev.ret (r := (some (.int (g_3 j_4).toInt32))) (Or.inl ⟨_, rfl, by decide +kernel, _, rfl, rfl⟩) k1
  )
theorem b_Mo_codeOf_0 {G : ev_G} {d k n : Nat} {h : ev_H} {R : Option Value → ev_H → Prop} {x1 : Int32} {v_1 : MG} {z_2 : MP} {g_3 : Nat → Int64} {j_4 : Nat}
  (pr1 : hat h 102 (moC v_1 z_2))
  (pr2 : hat h 103 (aL 9758 g_3))
  (pr3 : ev_ix ((10 : Int32) + x1) j_4 9758)
  (r4 : ∃ fs, hat h 102 (oC 9 fs))
  (k1 : R (some (.long (g_3 j_4))) h)
  : Ev G (d + 1) k n M_Mo_codeOf 0 [.ref 102, .int x1] [] h R :=
  Ev.go (pc' := 5) (ls' := [.ref 102, .int x1]) (st' := [.int ((10 : Int32) + x1), .ref 102]) [.aload_n 0, .bipush (10), .iload_n 1, .iadd] (by decide +kernel) rfl <|
  Ev.cV0 (M' := M_Mo_of) (as := [.int ((10 : Int32) + x1)]) (rest := []) l_Mo_64 M_Mo_of_ok M_Mo_of_in M_Mo_of_se (by decide +kernel) r4 rfl rfl rfl (Nat.le_of_ble_eq_true rfl) (Nat.le_of_ble_eq_true rfl) (s_Mo_of pr1 pr2 pr3 <| show Ev G (d + 1) _ _ M_Mo_codeOf 8 [.ref 102, .int x1] [.long (g_3 j_4)] h R from
    Ev.ret (r := (some (.long (g_3 j_4)))) (Or.inr (Or.inl ⟨_, rfl, by decide +kernel, rfl⟩)) k1
  )
theorem b_Mo_isCode_0 {G : ev_G} {d k n : Nat} {h : ev_H} {R : Option Value → ev_H → Prop} {x1 : Int32} {S1 : AS}
  (pr1 : ¬ x1 < (0 : Int32) → MS h S1)
  (r2 : ¬ x1 < (0 : Int32) → ∃ fs, hat h 102 (oC 9 fs))
  (k1 : x1 < (0 : Int32) → R (some (.int (0 : Int32))) h)
  (k2 : ¬ x1 < (0 : Int32) → x1 < (nI (sN S1)) → R (some (.int (1 : Int32))) h)
  (k3 : ¬ x1 < (0 : Int32) → ¬ x1 < (nI (sN S1)) → R (some (.int (0 : Int32))) h)
  : Ev G (d + 2) k n M_Mo_isCode 0 [.ref 102, .int x1] [] h R :=
  Ev.go (pc' := 1) (ls' := [.ref 102, .int x1]) (st' := [.int x1]) [.iload_n 1] (by decide +kernel) rfl <|
  Ev.br (i := .ifCond .lt (15)) (P := x1 < (0 : Int32)) (t := 16) (f := 4) (r := []) (by decide +kernel) rfl (fun c1 =>
    Ev.go (pc' := 17) (ls' := [.ref 102, .int x1]) (st' := [.int (0 : Int32)]) [.iconst 0] (by decide +kernel) rfl <|
    Ev.ret (r := (some (.int (0 : Int32)))) (Or.inl ⟨_, rfl, by decide +kernel, _, rfl, rfl⟩) (k1 c1)
  ) (fun c1 =>
    Ev.go (pc' := 6) (ls' := [.ref 102, .int x1]) (st' := [.ref 102, .int x1]) [.iload_n 1, .aload_n 0] (by decide +kernel) rfl <|
    Ev.cV0 (M' := M_Mo_many_0) (as := []) (rest := [.int x1]) l_Mo_71 M_Mo_many_0_ok M_Mo_many_0_in M_Mo_many_0_se (by decide +kernel) (r2 c1) rfl rfl rfl (Nat.le_of_ble_eq_true rfl) (Nat.le_of_ble_eq_true rfl) (s_Mo_many_0 (pr1 c1) <| show Ev G (d + 2) _ _ M_Mo_isCode 9 [.ref 102, .int x1] [.int (nI (sN S1)), .int x1] h R from
      Ev.br (i := .if_icmp .ge (7)) (P := x1 < (nI (sN S1))) (t := 12) (f := 16) (r := []) (by decide +kernel) rfl (fun c2 =>
        Ev.go (pc' := 17) (ls' := [.ref 102, .int x1]) (st' := [.int (1 : Int32)]) [.iconst 1, .goto (4)] (by decide +kernel) rfl <|
        Ev.ret (r := (some (.int (1 : Int32)))) (Or.inl ⟨_, rfl, by decide +kernel, _, rfl, rfl⟩) (k2 c1 c2)
      ) (fun c2 =>
        Ev.go (pc' := 17) (ls' := [.ref 102, .int x1]) (st' := [.int (0 : Int32)]) [.iconst 0] (by decide +kernel) rfl <|
        Ev.ret (r := (some (.int (0 : Int32)))) (Or.inl ⟨_, rfl, by decide +kernel, _, rfl, rfl⟩) (k3 c1 c2)
      )
    )
  )
theorem b_Mo_isPart_0 {G : ev_G} {d k n : Nat} {h : ev_H} {R : Option Value → ev_H → Prop} {x1 : Int32} {S1 : AS}
  (pr1 : ¬ x1 < (0 : Int32) → MS h S1)
  (r2 : ¬ x1 < (0 : Int32) → ∃ fs, hat h 102 (oC 9 fs))
  (k1 : x1 < (0 : Int32) → R (some (.int (0 : Int32))) h)
  (k2 : ¬ x1 < (0 : Int32) → x1 < (nI (sP S1)) → R (some (.int (1 : Int32))) h)
  (k3 : ¬ x1 < (0 : Int32) → ¬ x1 < (nI (sP S1)) → R (some (.int (0 : Int32))) h)
  : Ev G (d + 2) k n M_Mo_isPart 0 [.ref 102, .int x1] [] h R :=
  Ev.go (pc' := 1) (ls' := [.ref 102, .int x1]) (st' := [.int x1]) [.iload_n 1] (by decide +kernel) rfl <|
  Ev.br (i := .ifCond .lt (15)) (P := x1 < (0 : Int32)) (t := 16) (f := 4) (r := []) (by decide +kernel) rfl (fun c1 =>
    Ev.go (pc' := 17) (ls' := [.ref 102, .int x1]) (st' := [.int (0 : Int32)]) [.iconst 0] (by decide +kernel) rfl <|
    Ev.ret (r := (some (.int (0 : Int32)))) (Or.inl ⟨_, rfl, by decide +kernel, _, rfl, rfl⟩) (k1 c1)
  ) (fun c1 =>
    Ev.go (pc' := 6) (ls' := [.ref 102, .int x1]) (st' := [.ref 102, .int x1]) [.iload_n 1, .aload_n 0] (by decide +kernel) rfl <|
    Ev.cV0 (M' := M_Mo_parts) (as := []) (rest := [.int x1]) l_Mo_75 M_Mo_parts_ok M_Mo_parts_in M_Mo_parts_se (by decide +kernel) (r2 c1) rfl rfl rfl (Nat.le_of_ble_eq_true rfl) (Nat.le_of_ble_eq_true rfl) (s_Mo_parts (pr1 c1) <| show Ev G (d + 2) _ _ M_Mo_isPart 9 [.ref 102, .int x1] [.int (nI (sP S1)), .int x1] h R from
      Ev.br (i := .if_icmp .ge (7)) (P := x1 < (nI (sP S1))) (t := 12) (f := 16) (r := []) (by decide +kernel) rfl (fun c2 =>
        Ev.go (pc' := 17) (ls' := [.ref 102, .int x1]) (st' := [.int (1 : Int32)]) [.iconst 1, .goto (4)] (by decide +kernel) rfl <|
        Ev.ret (r := (some (.int (1 : Int32)))) (Or.inl ⟨_, rfl, by decide +kernel, _, rfl, rfl⟩) (k2 c1 c2)
      ) (fun c2 =>
        Ev.go (pc' := 17) (ls' := [.ref 102, .int x1]) (st' := [.int (0 : Int32)]) [.iconst 0] (by decide +kernel) rfl <|
        Ev.ret (r := (some (.int (0 : Int32)))) (Or.inl ⟨_, rfl, by decide +kernel, _, rfl, rfl⟩) (k3 c1 c2)
      )
    )
  )
theorem b_Mo_isBit_0 {G : ev_G} {d k n : Nat} {h : ev_H} {R : Option Value → ev_H → Prop} {x1 : Int32} {S1 : AS}
  (pr1 : ¬ x1 < (0 : Int32) → MS h S1)
  (r2 : ¬ x1 < (0 : Int32) → ∃ fs, hat h 102 (oC 9 fs))
  (k1 : x1 < (0 : Int32) → R (some (.int (0 : Int32))) h)
  (k2 : ¬ x1 < (0 : Int32) → x1 < (nI (sB S1)) → R (some (.int (1 : Int32))) h)
  (k3 : ¬ x1 < (0 : Int32) → ¬ x1 < (nI (sB S1)) → R (some (.int (0 : Int32))) h)
  : Ev G (d + 2) k n M_Mo_isBit 0 [.ref 102, .int x1] [] h R :=
  Ev.go (pc' := 1) (ls' := [.ref 102, .int x1]) (st' := [.int x1]) [.iload_n 1] (by decide +kernel) rfl <|
  Ev.br (i := .ifCond .lt (15)) (P := x1 < (0 : Int32)) (t := 16) (f := 4) (r := []) (by decide +kernel) rfl (fun c1 =>
    Ev.go (pc' := 17) (ls' := [.ref 102, .int x1]) (st' := [.int (0 : Int32)]) [.iconst 0] (by decide +kernel) rfl <|
    Ev.ret (r := (some (.int (0 : Int32)))) (Or.inl ⟨_, rfl, by decide +kernel, _, rfl, rfl⟩) (k1 c1)
  ) (fun c1 =>
    Ev.go (pc' := 6) (ls' := [.ref 102, .int x1]) (st' := [.ref 102, .int x1]) [.iload_n 1, .aload_n 0] (by decide +kernel) rfl <|
    Ev.cV0 (M' := M_Mo_bits) (as := []) (rest := [.int x1]) l_Mo_78 M_Mo_bits_ok M_Mo_bits_in M_Mo_bits_se (by decide +kernel) (r2 c1) rfl rfl rfl (Nat.le_of_ble_eq_true rfl) (Nat.le_of_ble_eq_true rfl) (s_Mo_bits (pr1 c1) <| show Ev G (d + 2) _ _ M_Mo_isBit 9 [.ref 102, .int x1] [.int (nI (sB S1)), .int x1] h R from
      Ev.br (i := .if_icmp .ge (7)) (P := x1 < (nI (sB S1))) (t := 12) (f := 16) (r := []) (by decide +kernel) rfl (fun c2 =>
        Ev.go (pc' := 17) (ls' := [.ref 102, .int x1]) (st' := [.int (1 : Int32)]) [.iconst 1, .goto (4)] (by decide +kernel) rfl <|
        Ev.ret (r := (some (.int (1 : Int32)))) (Or.inl ⟨_, rfl, by decide +kernel, _, rfl, rfl⟩) (k2 c1 c2)
      ) (fun c2 =>
        Ev.go (pc' := 17) (ls' := [.ref 102, .int x1]) (st' := [.int (0 : Int32)]) [.iconst 0] (by decide +kernel) rfl <|
        Ev.ret (r := (some (.int (0 : Int32)))) (Or.inl ⟨_, rfl, by decide +kernel, _, rfl, rfl⟩) (k3 c1 c2)
      )
    )
  )
theorem b_Mo_isRadius_0 {G : ev_G} {d k n : Nat} {h : ev_H} {R : Option Value → ev_H → Prop} {x1 : Int32} {S1 : AS}
  (pr1 : ¬ x1 < (0 : Int32) → MS h S1)
  (r2 : ¬ x1 < (0 : Int32) → ∃ fs, hat h 102 (oC 9 fs))
  (k1 : x1 < (0 : Int32) → R (some (.int (0 : Int32))) h)
  (k2 : ¬ x1 < (0 : Int32) → (nI (sB S1)) < x1 → R (some (.int (0 : Int32))) h)
  (k3 : ¬ x1 < (0 : Int32) → ¬ (nI (sB S1)) < x1 → R (some (.int (1 : Int32))) h)
  : Ev G (d + 2) k n M_Mo_isRadius 0 [.ref 102, .int x1] [] h R :=
  Ev.go (pc' := 1) (ls' := [.ref 102, .int x1]) (st' := [.int x1]) [.iload_n 1] (by decide +kernel) rfl <|
  Ev.br (i := .ifCond .lt (15)) (P := x1 < (0 : Int32)) (t := 16) (f := 4) (r := []) (by decide +kernel) rfl (fun c1 =>
    Ev.go (pc' := 17) (ls' := [.ref 102, .int x1]) (st' := [.int (0 : Int32)]) [.iconst 0] (by decide +kernel) rfl <|
    Ev.ret (r := (some (.int (0 : Int32)))) (Or.inl ⟨_, rfl, by decide +kernel, _, rfl, rfl⟩) (k1 c1)
  ) (fun c1 =>
    Ev.go (pc' := 6) (ls' := [.ref 102, .int x1]) (st' := [.ref 102, .int x1]) [.iload_n 1, .aload_n 0] (by decide +kernel) rfl <|
    Ev.cV0 (M' := M_Mo_bits) (as := []) (rest := [.int x1]) l_Mo_78 M_Mo_bits_ok M_Mo_bits_in M_Mo_bits_se (by decide +kernel) (r2 c1) rfl rfl rfl (Nat.le_of_ble_eq_true rfl) (Nat.le_of_ble_eq_true rfl) (s_Mo_bits (pr1 c1) <| show Ev G (d + 2) _ _ M_Mo_isRadius 9 [.ref 102, .int x1] [.int (nI (sB S1)), .int x1] h R from
      Ev.br (i := .if_icmp .gt (7)) (P := (nI (sB S1)) < x1) (t := 16) (f := 12) (r := []) (by decide +kernel) rfl (fun c2 =>
        Ev.go (pc' := 17) (ls' := [.ref 102, .int x1]) (st' := [.int (0 : Int32)]) [.iconst 0] (by decide +kernel) rfl <|
        Ev.ret (r := (some (.int (0 : Int32)))) (Or.inl ⟨_, rfl, by decide +kernel, _, rfl, rfl⟩) (k2 c1 c2)
      ) (fun c2 =>
        Ev.go (pc' := 17) (ls' := [.ref 102, .int x1]) (st' := [.int (1 : Int32)]) [.iconst 1, .goto (4)] (by decide +kernel) rfl <|
        Ev.ret (r := (some (.int (1 : Int32)))) (Or.inl ⟨_, rfl, by decide +kernel, _, rfl, rfl⟩) (k3 c1 c2)
      )
    )
  )
theorem b_Mo_isNumber_0 {G : ev_G} {d k n : Nat} {h : ev_H} {R : Option Value → ev_H → Prop} {x1 : Int64} {S1 : AS}
  (pr1 : ¬ x1 < (0 : Int64) → MS h S1)
  (r2 : ¬ x1 < (0 : Int64) → ∃ fs, hat h 102 (oC 9 fs))
  (k1 : x1 < (0 : Int64) → R (some (.int (0 : Int32))) h)
  (k2 : ¬ x1 < (0 : Int64) → (x1 >>> ((nI (sB S1)).toInt64 &&& 63)) = (0 : Int64) → R (some (.int (1 : Int32))) h)
  (k3 : ¬ x1 < (0 : Int64) → ¬ (x1 >>> ((nI (sB S1)).toInt64 &&& 63)) = (0 : Int64) → R (some (.int (0 : Int32))) h)
  : Ev G (d + 2) k n M_Mo_isNumber 0 [.ref 102, .long x1, ev_unk] [] h R :=
  Ev.go (pc' := 2) (ls' := [.ref 102, .long x1, ev_unk]) (st' := [.long (0 : Int64), .long x1]) [.lload_n 1, .lconst 0] (by decide +kernel) rfl <|
  Ev.brl (c := .lt) (o := 18) (P := x1 < (0 : Int64)) (t := 21) (f := 6) (t1 := 21) (by decide +kernel) (by decide +kernel) rfl rfl (fun c1 =>
    Ev.go (pc' := 22) (ls' := [.ref 102, .long x1, ev_unk]) (st' := [.int (0 : Int32)]) [.iconst 0] (by decide +kernel) rfl <|
    Ev.ret (r := (some (.int (0 : Int32)))) (Or.inl ⟨_, rfl, by decide +kernel, _, rfl, rfl⟩) (k1 c1)
  ) (fun c1 =>
    Ev.go (pc' := 8) (ls' := [.ref 102, .long x1, ev_unk]) (st' := [.ref 102, .long x1]) [.lload_n 1, .aload_n 0] (by decide +kernel) rfl <|
    Ev.cV0 (M' := M_Mo_bits) (as := []) (rest := [.long x1]) l_Mo_78 M_Mo_bits_ok M_Mo_bits_in M_Mo_bits_se (by decide +kernel) (r2 c1) rfl rfl rfl (Nat.le_of_ble_eq_true rfl) (Nat.le_of_ble_eq_true rfl) (s_Mo_bits (pr1 c1) <| show Ev G (d + 2) _ _ M_Mo_isNumber 11 [.ref 102, .long x1, ev_unk] [.int (nI (sB S1)), .long x1] h R from
      Ev.go (pc' := 13) (ls' := [.ref 102, .long x1, ev_unk]) (st' := [.long (0 : Int64), .long (x1 >>> ((nI (sB S1)).toInt64 &&& 63))]) [.lshr, .lconst 0] (by decide +kernel) rfl <|
      Ev.brl (c := .ne) (o := 7) (P := (x1 >>> ((nI (sB S1)).toInt64 &&& 63)) = (0 : Int64)) (t := 17) (f := 21) (t1 := 21) (by decide +kernel) (by decide +kernel) rfl rfl (fun c2 =>
        Ev.go (pc' := 22) (ls' := [.ref 102, .long x1, ev_unk]) (st' := [.int (1 : Int32)]) [.iconst 1, .goto (4)] (by decide +kernel) rfl <|
        Ev.ret (r := (some (.int (1 : Int32)))) (Or.inl ⟨_, rfl, by decide +kernel, _, rfl, rfl⟩) (k2 c1 c2)
      ) (fun c2 =>
        Ev.go (pc' := 22) (ls' := [.ref 102, .long x1, ev_unk]) (st' := [.int (0 : Int32)]) [.iconst 0] (by decide +kernel) rfl <|
        Ev.ret (r := (some (.int (0 : Int32)))) (Or.inl ⟨_, rfl, by decide +kernel, _, rfl, rfl⟩) (k3 c1 c2)
      )
    )
  )
section S43c
variable {G : ev_G} {d : Nat} {h : ev_H} {R : Option Value → ev_H → Prop} {S : AS}
theorem s_Mo_breadthOf {x : Int32} {p : Nat} (H : MS h S) (ok : sOk S) (hp : x = nI p ∧ p < sP S) (hR : R (some (.int (nI (sBr S p)))) h) : Ev G (d + 1) 0 0 M_Mo_breadthOf 0 [.ref 102, .int x] [] h R := by
  obtain ⟨v, z, g, m1, m2, sl⟩ := H
  have p6 := ok.2.2.2.1
  obtain ⟨rfl, hp⟩ := hp
  refine b_Mo_breadthOf_0 m1 m2 ⟨nI_add 4 p, by omega, by omega⟩ ⟨_, m1⟩ (by have := sl.2.2.2.2.1 p hp; rw [Nat.zero_add] at this; rw [this, lN_i]; exact hR)
theorem s_Mo_codeOf {x : Int32} {c : Nat} (H : MS h S) (ok : sOk S) (hc : x = nI c ∧ c < sN S) (hR : R (some (.long (sCo S c))) h) : Ev G (d + 1) 0 0 M_Mo_codeOf 0 [.ref 102, .int x] [] h R := by
  obtain ⟨v, z, g, m1, m2, sl⟩ := H
  have n32 := ok.2.2.2.2.1
  obtain ⟨rfl, hc⟩ := hc
  refine b_Mo_codeOf_0 m1 m2 ⟨nI_add 10 c, by omega, by omega⟩ ⟨_, m1⟩ (by have := (sl.2.2.2.2.2.1 c hc).1; rw [Nat.zero_add] at this; rw [this]; exact hR)
theorem s_Mo_isCode {x : Int32} (H : MS h S) (ok : sOk S) (hR : R (some (.int (b2i (inR x (sN S))))) h) : Ev G (d + 2) 0 0 M_Mo_isCode 0 [.ref 102, .int x] [] h R := by
  have ⟨v, z, g, m1, m2, sl⟩ := H
  have n32 := ok.2.2.2.2.1
  refine b_Mo_isCode_0 (fun c1 => H) (fun c1 => ⟨_, m1⟩) (fun c1 => by rw [inR_no1 c1] at hR; exact hR) (fun c1 c2 => by rw [inR_of (by omega) c1 c2] at hR; exact hR) (fun c1 c2 => by rw [inR_no2 (by omega) c2] at hR; exact hR)
theorem s_Mo_isPart {x : Int32} (H : MS h S) (ok : sOk S) (hR : R (some (.int (b2i (inR x (sP S))))) h) : Ev G (d + 2) 0 0 M_Mo_isPart 0 [.ref 102, .int x] [] h R := by
  have ⟨v, z, g, m1, m2, sl⟩ := H
  have n32 := ok.2.2.2.1
  refine b_Mo_isPart_0 (fun c1 => H) (fun c1 => ⟨_, m1⟩) (fun c1 => by rw [inR_no1 c1] at hR; exact hR) (fun c1 c2 => by rw [inR_of (by omega) c1 c2] at hR; exact hR) (fun c1 c2 => by rw [inR_no2 (by omega) c2] at hR; exact hR)
theorem s_Mo_isBit {x : Int32} (H : MS h S) (ok : sOk S) (hR : R (some (.int (b2i (inR x (sB S))))) h) : Ev G (d + 2) 0 0 M_Mo_isBit 0 [.ref 102, .int x] [] h R := by
  have ⟨v, z, g, m1, m2, sl⟩ := H
  have n32 := ok.2.1
  refine b_Mo_isBit_0 (fun c1 => H) (fun c1 => ⟨_, m1⟩) (fun c1 => by rw [inR_no1 c1] at hR; exact hR) (fun c1 c2 => by rw [inR_of (by omega) c1 c2] at hR; exact hR) (fun c1 c2 => by rw [inR_no2 (by omega) c2] at hR; exact hR)
theorem s_Mo_isRadius {x : Int32} (H : MS h S) (ok : sOk S) (hR : R (some (.int (b2i (inR x (sB S + 1))))) h) : Ev G (d + 2) 0 0 M_Mo_isRadius 0 [.ref 102, .int x] [] h R := by
  have ⟨v, z, g, m1, m2, sl⟩ := H
  have n32 := ok.2.1
  refine b_Mo_isRadius_0 (fun c1 => H) (fun c1 => ⟨_, m1⟩) (fun c1 => by rw [inR_no1 c1] at hR; exact hR) (fun c1 c2 => ?_) (fun c1 c2 => ?_)
  · rw [Int32.lt_iff_toInt_lt, nI_toInt (by omega)] at c2
    have : inR x (sB S + 1) = false := decide_eq_false (by omega)
    rw [this] at hR; exact hR
  · rw [Int32.lt_iff_toInt_lt] at c1
    rw [Int32.lt_iff_toInt_lt, nI_toInt (by omega)] at c2
    have c1 : ¬ x.toInt < 0 := c1
    have : inR x (sB S + 1) = true := decide_eq_true (by omega)
    rw [this] at hR; exact hR
theorem s_Mo_isNumber {x : Int64} (H : MS h S) (hR : R (some (.int (b2i (numB x (sB S))))) h) : Ev G (d + 2) 0 0 M_Mo_isNumber 0 [.ref 102, .long x, ev_unk] [] h R := by
  have ⟨v, z, g, m1, m2, sl⟩ := H
  unfold numB at hR
  refine b_Mo_isNumber_0 (fun c1 => H) (fun c1 => ⟨_, m1⟩) (fun c1 => by rw [decide_eq_false (p := ¬ x < 0) (fun z => z c1)] at hR; exact hR) (fun c1 c2 => by rw [decide_eq_true (p := ¬ x < 0) c1, decide_eq_true c2] at hR; exact hR) (fun c1 c2 => by rw [decide_eq_true (p := ¬ x < 0) c1, decide_eq_false c2] at hR; exact hR)
end S43c
theorem b_Mo_keyOf_0 {G : ev_G} {d k n : Nat} {h : ev_H} {R : Option Value → ev_H → Prop} {x1 : Int64} {x3 : Int32}
  (k1 : Ev G (d + 2) k n M_Mo_keyOf 6 [.ref 102, .long x1, ev_unk, .int x3, .int (0 : Int32), .int (0 : Int32)] [] h R)
  : Ev G (d + 2) k n M_Mo_keyOf 0 [.ref 102, .long x1, ev_unk, .int x3, ev_unk, ev_unk] [] h R :=
  Ev.go (pc' := 6) (ls' := [.ref 102, .long x1, ev_unk, .int x3, .int (0 : Int32), .int (0 : Int32)]) (st' := []) [.iconst 0, .istore 4, .iconst 0, .istore 5] (by decide +kernel) rfl <|
  k1
theorem b_Mo_keyOf_6 {G : ev_G} {d k n : Nat} {h : ev_H} {R : Option Value → ev_H → Prop} {x1 : Int64} {x3 : Int32} {x4 : Int32} {x5 : Int32} {S1 : AS} {p_2 : Nat} {S3 : AS} {p_4 : Nat}
  (pr1 : x5 < x3 → MS h S1)
  (pr2 : x5 < x3 → sOk S1)
  (pr3 : x5 < x3 → x5 = nI p_2 ∧ p_2 < sP S1)
  (r4 : x5 < x3 → ∃ fs, hat h 102 (oC 9 fs))
  (pr5 : ¬ x5 < x3 → MS h S3)
  (pr6 : ¬ x5 < x3 → sOk S3)
  (pr7 : ¬ x5 < x3 → x3 = nI p_4 ∧ p_4 < sP S3)
  (r8 : ¬ x5 < x3 → ∃ fs, hat h 102 (oC 9 fs))
  (k1 : x5 < x3 → Ev G (d + 2) k n M_Mo_keyOf 6 [.ref 102, .long x1, ev_unk, .int x3, .int (x4 + (nI (sBr S1 p_2))), .int (x5 + (1 : Int32))] [] h R)
  (k2 : ¬ x5 < x3 → R (some (.long ((x1 >>> (x4.toInt64 &&& 63)) &&& (((1 : Int64) <<< ((nI (sBr S3 p_4)).toInt64 &&& 63)) - (1 : Int64))))) h)
  : Ev G (d + 2) k n M_Mo_keyOf 6 [.ref 102, .long x1, ev_unk, .int x3, .int x4, .int x5] [] h R :=
  Ev.go (pc' := 9) (ls' := [.ref 102, .long x1, ev_unk, .int x3, .int x4, .int x5]) (st' := [.int x3, .int x5]) [.iload 5, .iload_n 3] (by decide +kernel) rfl <|
  Ev.br (i := .if_icmp .ge (20)) (P := x5 < x3) (t := 12) (f := 29) (r := []) (by decide +kernel) rfl (fun c1 =>
    Ev.go (pc' := 17) (ls' := [.ref 102, .long x1, ev_unk, .int x3, .int x4, .int x5]) (st' := [.int x5, .ref 102, .int x4]) [.iload 4, .aload_n 0, .iload 5] (by decide +kernel) rfl <|
    Ev.cV0 (M' := M_Mo_breadthOf) (as := [.int x5]) (rest := [.int x4]) l_Mo_81 M_Mo_breadthOf_ok M_Mo_breadthOf_in M_Mo_breadthOf_se (by decide +kernel) (r4 c1) rfl rfl rfl (Nat.le_of_ble_eq_true rfl) (Nat.le_of_ble_eq_true rfl) (s_Mo_breadthOf (pr1 c1) (pr2 c1) (pr3 c1) <| show Ev G (d + 2) _ _ M_Mo_keyOf 20 [.ref 102, .long x1, ev_unk, .int x3, .int x4, .int x5] [.int (nI (sBr S1 p_2)), .int x4] h R from
      Ev.go (pc' := 6) (ls' := [.ref 102, .long x1, ev_unk, .int x3, .int (x4 + (nI (sBr S1 p_2))), .int (x5 + (1 : Int32))]) (st' := []) [.iadd, .istore 4, .iinc 5 (1), .goto (-20)] (by decide +kernel) rfl <|
      (k1 c1)
    )
  ) (fun c1 =>
    Ev.go (pc' := 36) (ls' := [.ref 102, .long x1, ev_unk, .int x3, .int x4, .int x5]) (st' := [.int x3, .ref 102, .long (1 : Int64), .long (x1 >>> (x4.toInt64 &&& 63))]) [.lload_n 1, .iload 4, .lshr, .lconst 1, .aload_n 0, .iload_n 3] (by decide +kernel) rfl <|
    Ev.cV0 (M' := M_Mo_breadthOf) (as := [.int x3]) (rest := [.long (1 : Int64), .long (x1 >>> (x4.toInt64 &&& 63))]) l_Mo_81 M_Mo_breadthOf_ok M_Mo_breadthOf_in M_Mo_breadthOf_se (by decide +kernel) (r8 c1) rfl rfl rfl (Nat.le_of_ble_eq_true rfl) (Nat.le_of_ble_eq_true rfl) (s_Mo_breadthOf (pr5 c1) (pr6 c1) (pr7 c1) <| show Ev G (d + 2) _ _ M_Mo_keyOf 39 [.ref 102, .long x1, ev_unk, .int x3, .int x4, .int x5] [.int (nI (sBr S3 p_4)), .long (1 : Int64), .long (x1 >>> (x4.toInt64 &&& 63))] h R from
      Ev.go (pc' := 43) (ls' := [.ref 102, .long x1, ev_unk, .int x3, .int x4, .int x5]) (st' := [.long ((x1 >>> (x4.toInt64 &&& 63)) &&& (((1 : Int64) <<< ((nI (sBr S3 p_4)).toInt64 &&& 63)) - (1 : Int64)))]) [.lshl, .lconst 1, .lsub, .land] (by decide +kernel) rfl <|
      Ev.ret (r := (some (.long ((x1 >>> (x4.toInt64 &&& 63)) &&& (((1 : Int64) <<< ((nI (sBr S3 p_4)).toInt64 &&& 63)) - (1 : Int64)))))) (Or.inr (Or.inl ⟨_, rfl, by decide +kernel, rfl⟩)) (k2 c1)
    )
  )
theorem b_Mo_found_0 {G : ev_G} {d k n : Nat} {h : ev_H} {R : Option Value → ev_H → Prop} {x1 : Int64}
  (k1 : Ev G (d + 2) k n M_Mo_found 2 [.ref 102, .long x1, ev_unk, .int (0 : Int32)] [] h R)
  : Ev G (d + 2) k n M_Mo_found 0 [.ref 102, .long x1, ev_unk, ev_unk] [] h R :=
  Ev.go (pc' := 2) (ls' := [.ref 102, .long x1, ev_unk, .int (0 : Int32)]) (st' := []) [.iconst 0, .istore_n 3] (by decide +kernel) rfl <|
  k1
theorem b_Mo_found_2 {G : ev_G} {d k n : Nat} {h : ev_H} {R : Option Value → ev_H → Prop} {x1 : Int64} {x3 : Int32} {S1 : AS} {S2 : AS} {c_3 : Nat}
  (pr1 : MS h S1)
  (r2 : ∃ fs, hat h 102 (oC 9 fs))
  (pr3 : x3 < (nI (sN S1)) → MS h S2)
  (pr4 : x3 < (nI (sN S1)) → sOk S2)
  (pr5 : x3 < (nI (sN S1)) → x3 = nI c_3 ∧ c_3 < sN S2)
  (r6 : x3 < (nI (sN S1)) → ∃ fs, hat h 102 (oC 9 fs))
  (k1 : x3 < (nI (sN S1)) → (sCo S2 c_3) = x1 → R (some (.int x3)) h)
  (k2 : x3 < (nI (sN S1)) → ¬ (sCo S2 c_3) = x1 → Ev G (d + 2) k n M_Mo_found 2 [.ref 102, .long x1, ev_unk, .int (x3 + (1 : Int32))] [] h R)
  (k3 : ¬ x3 < (nI (sN S1)) → R (some (.int (-1 : Int32))) h)
  : Ev G (d + 2) k n M_Mo_found 2 [.ref 102, .long x1, ev_unk, .int x3] [] h R :=
  Ev.go (pc' := 4) (ls' := [.ref 102, .long x1, ev_unk, .int x3]) (st' := [.ref 102, .int x3]) [.iload_n 3, .aload_n 0] (by decide +kernel) rfl <|
  Ev.cV0 (M' := M_Mo_many_0) (as := []) (rest := [.int x3]) l_Mo_71 M_Mo_many_0_ok M_Mo_many_0_in M_Mo_many_0_se (by decide +kernel) r2 rfl rfl rfl (Nat.le_of_ble_eq_true rfl) (Nat.le_of_ble_eq_true rfl) (s_Mo_many_0 pr1 <| show Ev G (d + 2) _ _ M_Mo_found 7 [.ref 102, .long x1, ev_unk, .int x3] [.int (nI (sN S1)), .int x3] h R from
    Ev.br (i := .if_icmp .ge (21)) (P := x3 < (nI (sN S1))) (t := 10) (f := 28) (r := []) (by decide +kernel) rfl (fun c1 =>
      Ev.go (pc' := 12) (ls' := [.ref 102, .long x1, ev_unk, .int x3]) (st' := [.int x3, .ref 102]) [.aload_n 0, .iload_n 3] (by decide +kernel) rfl <|
      Ev.cV0 (M' := M_Mo_codeOf) (as := [.int x3]) (rest := []) l_Mo_85 M_Mo_codeOf_ok M_Mo_codeOf_in M_Mo_codeOf_se (by decide +kernel) (r6 c1) rfl rfl rfl (Nat.le_of_ble_eq_true rfl) (Nat.le_of_ble_eq_true rfl) (s_Mo_codeOf (pr3 c1) (pr4 c1) (pr5 c1) <| show Ev G (d + 2) _ _ M_Mo_found 15 [.ref 102, .long x1, ev_unk, .int x3] [.long (sCo S2 c_3)] h R from
        Ev.go (pc' := 16) (ls' := [.ref 102, .long x1, ev_unk, .int x3]) (st' := [.long x1, .long (sCo S2 c_3)]) [.lload_n 1] (by decide +kernel) rfl <|
        Ev.brl (c := .ne) (o := 5) (P := (sCo S2 c_3) = x1) (t := 20) (f := 22) (t1 := 22) (by decide +kernel) (by decide +kernel) rfl rfl (fun c2 =>
          Ev.go (pc' := 21) (ls' := [.ref 102, .long x1, ev_unk, .int x3]) (st' := [.int x3]) [.iload_n 3] (by decide +kernel) rfl <|
          Ev.ret (r := (some (.int x3))) (Or.inl ⟨_, rfl, by decide +kernel, _, rfl, rfl⟩) (k1 c1 c2)
        ) (fun c2 =>
          Ev.go (pc' := 2) (ls' := [.ref 102, .long x1, ev_unk, .int (x3 + (1 : Int32))]) (st' := []) [.iinc 3 (1), .goto (-23)] (by decide +kernel) rfl <|
          (k2 c1 c2)
        )
      )
    ) (fun c1 =>
      Ev.go (pc' := 29) (ls' := [.ref 102, .long x1, ev_unk, .int x3]) (st' := [.int (-1 : Int32)]) [.iconst (-1)] (by decide +kernel) rfl <|
      Ev.ret (r := (some (.int (-1 : Int32)))) (Or.inl ⟨_, rfl, by decide +kernel, _, rfl, rfl⟩) (k3 c1)
    )
  )
theorem b_Mo_runs_0 {G : ev_G} {d k n : Nat} {h : ev_H} {R : Option Value → ev_H → Prop} {x0 : Int64} {x2 : Int32}
  (k1 : Ev G (d + 1) k n M_Mo_runs 11 [.long x0, ev_unk, .int x2, .int (0 : Int32), .int (0 : Int32), .int (0 : Int32), .int (0 : Int32)] [] h R)
  : Ev G (d + 1) k n M_Mo_runs 0 [.long x0, ev_unk, .int x2, ev_unk, ev_unk, ev_unk, ev_unk] [] h R :=
  Ev.go (pc' := 11) (ls' := [.long x0, ev_unk, .int x2, .int (0 : Int32), .int (0 : Int32), .int (0 : Int32), .int (0 : Int32)]) (st' := []) [.iconst 0, .istore_n 3, .iconst 0, .istore 4, .iconst 0, .istore 5, .iconst 0, .istore 6] (by decide +kernel) rfl <|
  k1
theorem b_Mo_runs_11 {G : ev_G} {d k n : Nat} {h : ev_H} {R : Option Value → ev_H → Prop} {x0 : Int64} {x2 : Int32} {x3 : Int32} {x4 : Int32} {x5 : Int32} {x6 : Int32}
  (k1 : x6 < (48 : Int32) → (b2i (tbL x0 x6)) = (0 : Int32) → Ev G (d + 1) k n M_Mo_runs 35 [.long x0, ev_unk, .int x2, .int x3, .int x4, .int x5, .int x6] [.int (0 : Int32)] h R)
  (k2 : x6 < (48 : Int32) → ¬ (b2i (tbL x0 x6)) = (0 : Int32) → Ev G (d + 1) k n M_Mo_runs 35 [.long x0, ev_unk, .int x2, .int x3, .int x4, .int x5, .int x6] [.int (x5 + (1 : Int32))] h R)
  (k3 : ¬ x6 < (48 : Int32) → x2 = (0 : Int32) → R (some (.int x3)) h)
  (k4 : ¬ x6 < (48 : Int32) → ¬ x2 = (0 : Int32) → R (some (.int x4)) h)
  : Ev G (d + 1) k n M_Mo_runs 11 [.long x0, ev_unk, .int x2, .int x3, .int x4, .int x5, .int x6] [] h R :=
  Ev.go (pc' := 15) (ls' := [.long x0, ev_unk, .int x2, .int x3, .int x4, .int x5, .int x6]) (st' := [.int (48 : Int32), .int x6]) [.iload 6, .bipush (48)] (by decide +kernel) rfl <|
  Ev.br (i := .if_icmp .ge (51)) (P := x6 < (48 : Int32)) (t := 18) (f := 66) (r := []) (by decide +kernel) rfl (fun c1 =>
    Ev.go (pc' := 21) (ls' := [.long x0, ev_unk, .int x2, .int x3, .int x4, .int x5, .int x6]) (st' := [.int x6, .long x0]) [.lload_n 0, .iload 6] (by decide +kernel) rfl <|
    Ev.cS0 (M' := M_Mo_has) (as := [.long x0, .int x6]) (rest := []) l_Mo_271 M_Mo_has_ok M_Mo_has_st (by decide +kernel) rfl rfl (Nat.le_of_ble_eq_true rfl) (Nat.le_of_ble_eq_true rfl) (s_Mo_has <| show Ev G (d + 1) _ _ M_Mo_runs 24 [.long x0, ev_unk, .int x2, .int x3, .int x4, .int x5, .int x6] [.int (b2i (tbL x0 x6))] h R from
      Ev.br (i := .ifCond .eq (10)) (P := (b2i (tbL x0 x6)) = (0 : Int32)) (t := 34) (f := 27) (r := []) (by decide +kernel) rfl (fun c2 =>
        Ev.go (pc' := 35) (ls' := [.long x0, ev_unk, .int x2, .int x3, .int x4, .int x5, .int x6]) (st' := [.int (0 : Int32)]) [.iconst 0] (by decide +kernel) rfl <|
        (k1 c1 c2)
      ) (fun c2 =>
        Ev.go (pc' := 35) (ls' := [.long x0, ev_unk, .int x2, .int x3, .int x4, .int x5, .int x6]) (st' := [.int (x5 + (1 : Int32))]) [.iload 5, .iconst 1, .iadd, .goto (4)] (by decide +kernel) rfl <|
        (k2 c1 c2)
      )
    )
  ) (fun c1 =>
    Ev.go (pc' := 67) (ls' := [.long x0, ev_unk, .int x2, .int x3, .int x4, .int x5, .int x6]) (st' := [.int x2]) [.iload_n 2] (by decide +kernel) rfl <|
    Ev.br (i := .ifCond .eq (8)) (P := x2 = (0 : Int32)) (t := 75) (f := 70) (r := []) (by decide +kernel) rfl (fun c2 =>
      Ev.go (pc' := 76) (ls' := [.long x0, ev_unk, .int x2, .int x3, .int x4, .int x5, .int x6]) (st' := [.int x3]) [.iload_n 3] (by decide +kernel) rfl <|
      Ev.ret (r := (some (.int x3))) (Or.inl ⟨_, rfl, by decide +kernel, _, rfl, rfl⟩) (k3 c1 c2)
    ) (fun c2 =>
      Ev.go (pc' := 76) (ls' := [.long x0, ev_unk, .int x2, .int x3, .int x4, .int x5, .int x6]) (st' := [.int x4]) [.iload 4, .goto (4)] (by decide +kernel) rfl <|
      Ev.ret (r := (some (.int x4))) (Or.inl ⟨_, rfl, by decide +kernel, _, rfl, rfl⟩) (k4 c1 c2)
    )
  )
theorem b_Mo_runs_35 {G : ev_G} {d k n : Nat} {h : ev_H} {R : Option Value → ev_H → Prop} {x0 : Int64} {x2 : Int32} {x3 : Int32} {x4 : Int32} {x5 : Int32} {x6 : Int32} {y0 : Int32}
  (k1 : y0 = (1 : Int32) → Ev G (d + 1) k n M_Mo_runs 11 [.long x0, ev_unk, .int x2, .int (x3 + (1 : Int32)), .int (if x4 < y0 then y0 else x4), .int y0, .int (x6 + (1 : Int32))] [] h R)
  (k2 : ¬ y0 = (1 : Int32) → Ev G (d + 1) k n M_Mo_runs 11 [.long x0, ev_unk, .int x2, .int (x3 + (0 : Int32)), .int (if x4 < y0 then y0 else x4), .int y0, .int (x6 + (1 : Int32))] [] h R)
  : Ev G (d + 1) k n M_Mo_runs 35 [.long x0, ev_unk, .int x2, .int x3, .int x4, .int x5, .int x6] [.int y0] h R :=
  Ev.go (pc' := 41) (ls' := [.long x0, ev_unk, .int x2, .int x3, .int x4, .int y0, .int x6]) (st' := [.int (1 : Int32), .int y0, .int x3]) [.istore 5, .iload_n 3, .iload 5, .iconst 1] (by decide +kernel) rfl <|
  Ev.br (i := .if_icmp .ne (7)) (P := y0 = (1 : Int32)) (t := 44) (f := 48) (r := [.int x3]) (by decide +kernel) rfl (fun c1 =>
    Ev.go (pc' := 55) (ls' := [.long x0, ev_unk, .int x2, .int (x3 + (1 : Int32)), .int x4, .int y0, .int x6]) (st' := [.int y0, .int x4]) [.iconst 1, .goto (4), .iadd, .istore_n 3, .iload 4, .iload 5] (by decide +kernel) rfl <|
    Ev.mmax lL_Mo_275 w_maxS w_mathI w_maxC (Nat.le_of_ble_eq_true rfl) (by decide +kernel) <|
    Ev.go (pc' := 11) (ls' := [.long x0, ev_unk, .int x2, .int (x3 + (1 : Int32)), .int (if x4 < y0 then y0 else x4), .int y0, .int (x6 + (1 : Int32))]) (st' := []) [.istore 4, .iinc 6 (1), .goto (-52)] (by decide +kernel) rfl <|
    (k1 c1)
  ) (fun c1 =>
    Ev.go (pc' := 55) (ls' := [.long x0, ev_unk, .int x2, .int (x3 + (0 : Int32)), .int x4, .int y0, .int x6]) (st' := [.int y0, .int x4]) [.iconst 0, .iadd, .istore_n 3, .iload 4, .iload 5] (by decide +kernel) rfl <|
    Ev.mmax lL_Mo_275 w_maxS w_mathI w_maxC (Nat.le_of_ble_eq_true rfl) (by decide +kernel) <|
    Ev.go (pc' := 11) (ls' := [.long x0, ev_unk, .int x2, .int (x3 + (0 : Int32)), .int (if x4 < y0 then y0 else x4), .int y0, .int (x6 + (1 : Int32))]) (st' := []) [.istore 4, .iinc 6 (1), .goto (-52)] (by decide +kernel) rfl <|
    (k2 c1)
  )
theorem b_Mo_span_0 {G : ev_G} {d k n : Nat} {h : ev_H} {R : Option Value → ev_H → Prop} {x0 : Int64}
  (k1 : Ev G (d + 1) k n M_Mo_span 5 [.long x0, ev_unk, .int (0 : Int32), .int (48 : Int32)] [] h R)
  : Ev G (d + 1) k n M_Mo_span 0 [.long x0, ev_unk, ev_unk, ev_unk] [] h R :=
  Ev.go (pc' := 5) (ls' := [.long x0, ev_unk, .int (0 : Int32), .int (48 : Int32)]) (st' := []) [.iconst 0, .istore_n 2, .bipush (48), .istore_n 3] (by decide +kernel) rfl <|
  k1
theorem b_Mo_span_5 {G : ev_G} {d k n : Nat} {h : ev_H} {R : Option Value → ev_H → Prop} {x0 : Int64} {x2 : Int32} {x3 : Int32}
  (k1 : x2 < (48 : Int32) → (b2i (tbL x0 x2)) = (0 : Int32) → Ev G (d + 1) k n M_Mo_span 5 [.long x0, ev_unk, .int (x2 + (1 : Int32)), .int x3] [] h R)
  (k2 : x2 < (48 : Int32) → ¬ (b2i (tbL x0 x2)) = (0 : Int32) → Ev G (d + 1) k n M_Mo_span 25 [.long x0, ev_unk, .int x2, .int x3] [] h R)
  (k3 : ¬ x2 < (48 : Int32) → Ev G (d + 1) k n M_Mo_span 25 [.long x0, ev_unk, .int x2, .int x3] [] h R)
  : Ev G (d + 1) k n M_Mo_span 5 [.long x0, ev_unk, .int x2, .int x3] [] h R :=
  Ev.go (pc' := 8) (ls' := [.long x0, ev_unk, .int x2, .int x3]) (st' := [.int (48 : Int32), .int x2]) [.iload_n 2, .bipush (48)] (by decide +kernel) rfl <|
  Ev.br (i := .if_icmp .ge (17)) (P := x2 < (48 : Int32)) (t := 11) (f := 25) (r := []) (by decide +kernel) rfl (fun c1 =>
    Ev.go (pc' := 13) (ls' := [.long x0, ev_unk, .int x2, .int x3]) (st' := [.int x2, .long x0]) [.lload_n 0, .iload_n 2] (by decide +kernel) rfl <|
    Ev.cS0 (M' := M_Mo_has) (as := [.long x0, .int x2]) (rest := []) l_Mo_271 M_Mo_has_ok M_Mo_has_st (by decide +kernel) rfl rfl (Nat.le_of_ble_eq_true rfl) (Nat.le_of_ble_eq_true rfl) (s_Mo_has <| show Ev G (d + 1) _ _ M_Mo_span 16 [.long x0, ev_unk, .int x2, .int x3] [.int (b2i (tbL x0 x2))] h R from
      Ev.br (i := .ifCond .ne (9)) (P := (b2i (tbL x0 x2)) = (0 : Int32)) (t := 19) (f := 25) (r := []) (by decide +kernel) rfl (fun c2 =>
        Ev.go (pc' := 5) (ls' := [.long x0, ev_unk, .int (x2 + (1 : Int32)), .int x3]) (st' := []) [.iinc 2 (1), .goto (-17)] (by decide +kernel) rfl <|
        (k1 c1 c2)
      ) (fun c2 =>
        (k2 c1 c2)
      )
    )
  ) (fun c1 =>
    (k3 c1)
  )
theorem b_Mo_span_25 {G : ev_G} {d k n : Nat} {h : ev_H} {R : Option Value → ev_H → Prop} {x0 : Int64} {x2 : Int32} {x3 : Int32}
  (k1 : x2 < x3 → (b2i (tbL x0 (x3 - (1 : Int32)))) = (0 : Int32) → Ev G (d + 1) k n M_Mo_span 25 [.long x0, ev_unk, .int x2, .int (x3 + (-1 : Int32))] [] h R)
  (k2 : x2 < x3 → ¬ (b2i (tbL x0 (x3 - (1 : Int32)))) = (0 : Int32) → R (some (.int (x3 - x2))) h)
  (k3 : ¬ x2 < x3 → R (some (.int (x3 - x2))) h)
  : Ev G (d + 1) k n M_Mo_span 25 [.long x0, ev_unk, .int x2, .int x3] [] h R :=
  Ev.go (pc' := 27) (ls' := [.long x0, ev_unk, .int x2, .int x3]) (st' := [.int x2, .int x3]) [.iload_n 3, .iload_n 2] (by decide +kernel) rfl <|
  Ev.br (i := .if_icmp .le (19)) (P := x2 < x3) (t := 30) (f := 46) (r := []) (by decide +kernel) rfl (fun c1 =>
    Ev.go (pc' := 34) (ls' := [.long x0, ev_unk, .int x2, .int x3]) (st' := [.int (x3 - (1 : Int32)), .long x0]) [.lload_n 0, .iload_n 3, .iconst 1, .isub] (by decide +kernel) rfl <|
    Ev.cS0 (M' := M_Mo_has) (as := [.long x0, .int (x3 - (1 : Int32))]) (rest := []) l_Mo_271 M_Mo_has_ok M_Mo_has_st (by decide +kernel) rfl rfl (Nat.le_of_ble_eq_true rfl) (Nat.le_of_ble_eq_true rfl) (s_Mo_has <| show Ev G (d + 1) _ _ M_Mo_span 37 [.long x0, ev_unk, .int x2, .int x3] [.int (b2i (tbL x0 (x3 - (1 : Int32))))] h R from
      Ev.br (i := .ifCond .ne (9)) (P := (b2i (tbL x0 (x3 - (1 : Int32)))) = (0 : Int32)) (t := 40) (f := 46) (r := []) (by decide +kernel) rfl (fun c2 =>
        Ev.go (pc' := 25) (ls' := [.long x0, ev_unk, .int x2, .int (x3 + (-1 : Int32))]) (st' := []) [.iinc 3 (-1), .goto (-18)] (by decide +kernel) rfl <|
        (k1 c1 c2)
      ) (fun c2 =>
        Ev.go (pc' := 49) (ls' := [.long x0, ev_unk, .int x2, .int x3]) (st' := [.int (x3 - x2)]) [.iload_n 3, .iload_n 2, .isub] (by decide +kernel) rfl <|
        Ev.ret (r := (some (.int (x3 - x2)))) (Or.inl ⟨_, rfl, by decide +kernel, _, rfl, rfl⟩) (k2 c1 c2)
      )
    )
  ) (fun c1 =>
    Ev.go (pc' := 49) (ls' := [.long x0, ev_unk, .int x2, .int x3]) (st' := [.int (x3 - x2)]) [.iload_n 3, .iload_n 2, .isub] (by decide +kernel) rfl <|
    Ev.ret (r := (some (.int (x3 - x2)))) (Or.inl ⟨_, rfl, by decide +kernel, _, rfl, rfl⟩) (k3 c1)
  )
/-- where runs of ones begin -/
def rsP (x : Int64) (j : Nat) : Bool := decide (rnN (lt x) (j + 1) = 1)
section S43d
variable {G : ev_G} {d : Nat} {h : ev_H} {R : Option Value → ev_H → Prop} {S : AS}
theorem two1_bit (w k : Nat) : (2 ^ w - 1).testBit k = decide (k < w) := Nat.testBit_two_pow_sub_one w k
theorem keyS_eq (x : Int64) {st br : Nat} (hs : st < 64) (hb : br ≤ 31) (h : st + br ≤ 64) : ((x >>> ((nI st).toInt64 &&& 63)) &&& ((1 : Int64) <<< ((nI br).toInt64 &&& 63) - (1 : Int64))) = lN (keyN x st br) := by
  rw [← key_eq x hs hb]
  have h1 : (1 : Int64) <<< ((nI br).toInt64 &&& 63) = lN (2 ^ br) := by
    have := l_shN 1 (show br < 64 by omega); rw [Nat.one_mul] at this; exact this
  have h2 : lN (2 ^ br) - (1 : Int64) = lN (2 ^ br - 1) := lN_sub (Nat.two_pow_pos br)
  rw [h1, h2]
  refine l_ext fun i hi => ?_
  have hp : 2 ^ br - 1 < 2 ^ 64 := Nat.lt_of_lt_of_le (Nat.sub_lt (Nat.two_pow_pos br) (by decide)) (Nat.pow_le_pow_right (by decide) (by omega))
  rw [l_and, l_and, lt_lN _ _ hp, two1_bit, l_sshr _ hs _ hi, l_ushr _ hs]
  by_cases c : i < br
  · rw [if_pos (by omega)]
  · rw [decide_eq_false c, Bool.and_false, Bool.and_false]
theorem s_Mo_keyOf {x : Int64} {pI : Int32} {p : Nat} (H : MS h S) (ok : sOk S) (hp : pI = nI p ∧ p < sP S) (hR : R (some (.long (lN (keyN x (stt S p) (sBr S p))))) h) : Ev G (d + 2) 0 0 M_Mo_keyOf 0 [.ref 102, .long x, ev_unk, .int pI, ev_unk, ev_unk] [] h R := by
  have ⟨v, z, g, m1, m2, sl⟩ := H
  obtain ⟨rfl, hp⟩ := hp
  have p6 := ok.2.2.2.1
  refine b_Mo_keyOf_0 ?_
  have st : stt S (p + 1) ≤ 48 := stt_le ok (by omega)
  have st1 : stt S (p + 1) = stt S p + sBr S p := rfl
  have w24 := ok.2.2.2.2.2.1 p hp
  refine up0 (P := fun i => Ev G (d + 2) 0 0 M_Mo_keyOf 6 [.ref 102, .long x, ev_unk, .int (nI p), .int (nI (stt S i)), .int (nI i)] [] h R) p ?_ ?_
  · intro i hi ih
    refine b_Mo_keyOf_6 (p_2 := i) (p_4 := p) (fun c1 => H) (fun c1 => ok) (fun c1 => ⟨rfl, by omega⟩) (fun c1 => ⟨_, m1⟩) (fun c1 => H) (fun c1 => ok) (fun c1 => ⟨rfl, by omega⟩) (fun c1 => ⟨_, m1⟩) (fun c1 => ?_) (fun c1 => absurd (nI_lt hi (by omega)) c1)
    rw [nI_add, nI_1]
    exact ih
  · refine b_Mo_keyOf_6 (p_2 := p) (p_4 := p) (fun c1 => H) (fun c1 => ok) (fun c1 => ⟨rfl, by omega⟩) (fun c1 => ⟨_, m1⟩) (fun c1 => H) (fun c1 => ok) (fun c1 => ⟨rfl, by omega⟩) (fun c1 => ⟨_, m1⟩) (fun c1 => absurd c1 (nl_self (by omega))) (fun c1 => ?_)
    rw [keyS_eq x (by omega) (by omega) (by omega)]
    exact hR
theorem s_Mo_found {x : Int64} (H : MS h S) (ok : sOk S) (hR : R (some (.int (frI (whP S x) (sN S)))) h) : Ev G (d + 2) 0 0 M_Mo_found 0 [.ref 102, .long x, ev_unk, ev_unk] [] h R := by
  have ⟨v, z, g, m1, m2, sl⟩ := H
  have n32 := ok.2.2.2.2.1
  refine b_Mo_found_0 ?_
  have := up0 (P := fun i => (∀ j, j < i → whP S x j = false) → Ev G (d + 2) 0 0 M_Mo_found 2 [.ref 102, .long x, ev_unk, .int (nI i)] [] h R) (sN S) ?_ ?_
  · exact this (fun j hj => by omega)
  · intro i hi ih hn
    refine b_Mo_found_2 (c_3 := i) H ⟨_, m1⟩ (fun c1 => H) (fun c1 => ok) (fun c1 => ⟨rfl, hi⟩) (fun c1 => ⟨_, m1⟩) (fun c1 c2 => ?_) (fun c1 c2 => ?_) (fun c1 => absurd (nI_lt hi (by omega)) c1)
    · rw [frI, fst_eq hi (decide_eq_true c2) hn, if_pos hi] at hR; exact hR
    · rw [nI_1]
      refine ih fun j hj => ?_
      by_cases e : j = i
      · subst e; exact decide_eq_false c2
      · exact hn j (by omega)
  · intro hn
    refine b_Mo_found_2 (c_3 := 0) H ⟨_, m1⟩ (fun c1 => H) (fun c1 => ok) (fun c1 => absurd c1 (nl_self (by omega))) (fun c1 => ⟨_, m1⟩) (fun c1 c2 => absurd c1 (nl_self (by omega))) (fun c1 c2 => absurd c1 (nl_self (by omega))) (fun c1 => ?_)
    rw [frI, fst_none hn, if_neg (Nat.lt_irrefl _)] at hR; exact hR
theorem s_Mo_runs {x : Int64} {b : Int32} (hR : R (some (.int (nI (if b = 0 then cnt (rsP x) 48 else mxN (lt x) 48)))) h) : Ev G (d + 1) 0 0 M_Mo_runs 0 [.long x, ev_unk, .int b, ev_unk, ev_unk, ev_unk, ev_unk] [] h R := by
  refine b_Mo_runs_0 ?_
  refine up0 (P := fun i => Ev G (d + 1) 0 0 M_Mo_runs 11 [.long x, ev_unk, .int b, .int (nI (cnt (rsP x) i)), .int (nI (mxN (lt x) i)), .int (nI (rnN (lt x) i)), .int (nI i)] [] h R) 48 ?_ ?_
  · intro i hi ih
    have yes : nI i < (48 : Int32) := nI_lt hi (by decide)
    have f1 : mxN (lt x) (i + 1) = max (mxN (lt x) i) (rnN (lt x) (i + 1)) := rfl
    have f2 : rnN (lt x) (i + 1) = if lt x i then rnN (lt x) i + 1 else 0 := rfl
    have f3 : cnt (rsP x) (i + 1) = cnt (rsP x) i + if rsP x i then 1 else 0 := rfl
    have b1 := mxN_le (lt x) i
    have b2 := rnN_le (lt x) (i + 1)
    have mx : ∀ r, r ≤ 49 → (if nI (mxN (lt x) i) < nI r then nI r else nI (mxN (lt x) i)) = nI (max (mxN (lt x) i) r) := fun r hr => by
      by_cases c : mxN (lt x) i < r
      · rw [if_pos (nI_lt c (by omega)), Nat.max_eq_right (by omega)]
      · rw [if_neg (fun z => c ((nI_ltI (by omega) (by omega)).mp z)), Nat.max_eq_left (by omega)]
    have go : Ev G (d + 1) 0 0 M_Mo_runs 35 [.long x, ev_unk, .int b, .int (nI (cnt (rsP x) i)), .int (nI (mxN (lt x) i)), .int (nI (rnN (lt x) i)), .int (nI i)] [.int (nI (rnN (lt x) (i + 1)))] h R := by
      refine b_Mo_runs_35 (fun q => ?_) (fun q => ?_)
      · have q := (nI_eq (b := 1) (by omega) (by omega)).mp q
        have r1 : rsP x i = true := decide_eq_true q
        rw [f3, f1, if_pos r1] at ih
        rw [nI_1, nI_1, mx _ (by omega)]; exact ih
      · have q : ¬ rnN (lt x) (i + 1) = 1 := fun z => q (by rw [z]; rfl)
        have r1 : rsP x i = false := decide_eq_false q
        rw [f3, f1, r1] at ih
        rw [nI_1, show (0 : Int32) = nI 0 from rfl, nI_add, mx _ (by omega)]; exact ih
    refine b_Mo_runs_11 (fun _ q => ?_) (fun _ q => ?_) (fun q => absurd yes q) (fun q => absurd yes q)
    · rw [tbL_n (by omega)] at q
      rw [f2, b2i_e0 q] at go; exact go
    · rw [tbL_n (by omega)] at q
      rw [f2, b2i_n0 q] at go
      rw [nI_1]; exact go
  · refine b_Mo_runs_11 (fun q => absurd q (by decide)) (fun q => absurd q (by decide)) (fun _ c => ?_) (fun _ c => ?_)
    · rw [if_pos c] at hR; exact hR
    · rw [if_neg c] at hR; exact hR
theorem s_Mo_span {x : Int64} (hR : R (some (.int (nI (rchN x)))) h) : Ev G (d + 1) 0 0 M_Mo_span 0 [.long x, ev_unk, ev_unk, ev_unk] [] h R := by
  refine b_Mo_span_0 ?_
  have L2 : ∀ (lo m : Nat), lo ≤ m → m ≤ 48 → (lo < 48 → lt x lo = true) → lo = fst (lt x) 48 → hiB (lt x) 48 = hiB (lt x) m → (lo = 48 → hiB (lt x) 48 = 0) → Ev G (d + 1) 0 0 M_Mo_span 25 [.long x, ev_unk, .int (nI lo), .int (nI m)] [] h R := by
    intro lo m
    induction m with
    | zero =>
      intro l1 l2 y e f z
      obtain rfl : lo = 0 := by omega
      refine b_Mo_span_25 (fun c => absurd c (by decide)) (fun c => absurd c (by decide)) (fun _ => ?_)
      have := hiB_of (y (by decide)) (n := 48) (by decide)
      have f : hiB (lt x) 48 = 0 := f
      omega
    | succ m ih =>
      intro l1 l2 y e f z
      have f2 : hiB (lt x) (m + 1) = if lt x m then m + 1 else hiB (lt x) m := rfl
      by_cases c : lo = m + 1
      · subst c
        refine b_Mo_span_25 (fun c => absurd c (nl_self (by omega))) (fun c => absurd c (nl_self (by omega))) (fun _ => ?_)
        rw [nI_sub (Nat.le_refl _), Nat.sub_self]
        have : rchN x = 0 := by
          unfold rchN
          rw [← e]
          by_cases q : m + 1 < 48
          · have := hiB_of (y q) (n := 48) q
            have := hiB_le (lt x) (m + 1)
            omega
          · have := z (by omega); omega
        rw [this] at hR; exact hR
      · have yes : nI lo < nI (m + 1) := nI_lt (by omega) (by omega)
        have lo48 : lo < 48 := by omega
        refine b_Mo_span_25 (fun _ q => ?_) (fun _ q => ?_) (fun c => absurd yes c)
        · rw [nI_pred, tbL_n (by omega)] at q
          rw [nI_dec]
          rw [b2i_e0 q] at f2
          exact ih (by omega) (by omega) y e (f.trans f2) z
        · rw [nI_pred, tbL_n (by omega)] at q
          rw [b2i_n0 q] at f2
          have f2 : hiB (lt x) (m + 1) = m + 1 := f2
          rw [nI_sub (by omega)]
          unfold rchN at hR
          rw [f, f2, ← e] at hR
          exact hR
  have := up0 (P := fun i => (∀ j, j < i → lt x j = false) → Ev G (d + 1) 0 0 M_Mo_span 5 [.long x, ev_unk, .int (nI i), .int (48 : Int32)] [] h R) 48 ?_ ?_
  · exact this (fun j hj => by omega)
  · intro i hi ih hn
    have yes : nI i < (48 : Int32) := nI_lt hi (by decide)
    refine b_Mo_span_5 (fun _ q => ?_) (fun _ q => ?_) (fun q => absurd yes q)
    · rw [tbL_n (by omega)] at q
      rw [nI_1]
      refine ih fun j hj => ?_
      by_cases e : j = i
      · subst e; exact b2i_e0 q
      · exact hn j (by omega)
    · rw [tbL_n (by omega)] at q
      exact L2 i 48 (by omega) (Nat.le_refl _) (fun _ => b2i_n0 q) (fst_eq hi (b2i_n0 q) hn).symm rfl (fun z => by omega)
  · intro hn
    refine b_Mo_span_5 (fun q => absurd q (by decide)) (fun q => absurd q (by decide)) (fun _ => ?_)
    have f := fst_none hn
    exact L2 48 48 (Nat.le_refl _) (Nat.le_refl _) (fun z => by omega) f.symm rfl (fun _ => hiB_0.mpr f)
end S43d
