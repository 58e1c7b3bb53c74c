/-! FILTERS -/
/-- the value of a step, for a code -/
def vlN (S : AS) (c : Nat) (s : AStp) : Nat := if s.1 = 3 then pop (sCo S c) else if s.1 = 4 then sTg S c else if s.1 = 5 then c else if s.1 = 6 then (if lt (sCo S c) s.2.2.1 then 1 else 0) else if s.1 = 7 then (if s.2.2.1 < sP S then keyN (sCo S c) (stt S s.2.2.1) (sBr S s.2.2.1) else 0) else pop (sCo S c ^^^ s.2.2.2.2)
def fcB (S : AS) (c : Nat) (s : AStp) : Bool := if s.2.1 = 60 then decide (vlN S c s < s.2.2.2.1) else if s.2.1 = 61 then decide (vlN S c s = s.2.2.2.1) else decide (s.2.2.2.1 < vlN S c s)
def stp1 (S : AS) (c : Nat) (s : AStp) (st : List Bool) : List Bool := if s.1 = 0 then (match st with
    | b :: r => !b :: r
    | [] => []) else if s.1 = 1 then (match st with
    | y :: x :: r => (x && y) :: r
    | r => r) else if s.1 = 2 then (match st with
    | y :: x :: r => (x || y) :: r
    | r => r) else fcB S c s :: st
def evP (S : AS) (c : Nat) (fl : List AStp) : Nat → List Bool
  | 0 => []
  | i + 1 => match fl[i]? with
    | some s => stp1 S c s (evP S c fl i)
    | none => evP S c fl i
def dp1 (s : AStp) (d : Nat) : Nat := if s.1 = 0 then d else if s.1 = 1 then d - 1 else if s.1 = 2 then d - 1 else d + 1
def dpP (fl : List AStp) : Nat → Nat
  | 0 => 0
  | i + 1 => match fl[i]? with
    | some s => dp1 s (dpP fl i)
    | none => dpP fl i
def stpOk (s : AStp) : Prop := s.1 ≤ 8 ∧ s.2.1 < 100 ∧ s.2.2.1 < 48 ∧ s.2.2.2.1 < 100000000
/-- steps that make one answer, at most 30 waiting -/
def flOk (fl : List AStp) : Prop := fl.length ≤ 300 ∧ (∀ i s, fl[i]? = some s → stpOk s ∧ (s.1 = 0 → 1 ≤ dpP fl i) ∧ ((s.1 = 1 ∨ s.1 = 2) → 2 ≤ dpP fl i) ∧ dpP fl i ≤ 30) ∧ dpP fl fl.length = 1
def holdsB (S : AS) (c : Nat) : Bool := (evP S c (sFl S) (sFl S).length).headD false
/-- which codes count -/
def ctP (S : AS) (j : Nat) : Bool := decide (j < sN S) && ((sFl S).isEmpty || holdsB S j)
theorem evP_len (S : AS) (c : Nat) {fl : List AStp} (ok : flOk fl) : ∀ i, i ≤ fl.length → (evP S c fl i).length = dpP fl i
  | 0, _ => rfl
  | i + 1, hi => by
    have ih := evP_len S c ok i (by omega)
    have hg : fl[i]? = some fl[i] := List.getElem?_eq_getElem (by omega)
    obtain ⟨-, q0, q1, -⟩ := ok.2.1 i _ hg
    show (match fl[i]? with
      | some s => stp1 S c s (evP S c fl i)
      | none => evP S c fl i).length = match fl[i]? with
      | some s => dp1 s (dpP fl i)
      | none => dpP fl i
    rw [hg]
    show (stp1 S c fl[i] (evP S c fl i)).length = dp1 fl[i] (dpP fl i)
    rw [← ih] at q0 q1 ⊢
    unfold stp1 dp1
    by_cases e0 : fl[i].1 = 0
    · rw [if_pos e0, if_pos e0]; split <;> simp_all
    · by_cases e1 : fl[i].1 = 1
      · rw [if_neg e0, if_neg e0, if_pos e1, if_pos e1]
        have := q1 (Or.inl e1)
        match h : evP S c fl i, this with
        | y :: x :: r, _ => simp
      · by_cases e2 : fl[i].1 = 2
        · rw [if_neg e0, if_neg e0, if_neg e1, if_neg e1, if_pos e2, if_pos e2]
          have := q1 (Or.inr e2)
          match h : evP S c fl i, this with
          | y :: x :: r, _ => simp
        · rw [if_neg e0, if_neg e0, if_neg e1, if_neg e1, if_neg e2, if_neg e2]; simp
/-- a stack of answers as the bits of an int -/
def stI (l : List Bool) : Int32 := setI (fun j => l.getD j false)
theorem bt_stI (l : List Bool) (j : Nat) : bt (stI l) j = (decide (j < 32) && l.getD j false) := bt_setI _ j
theorem stI_nil : stI [] = 0 := by decide +kernel
theorem stI_top (b : Bool) (r : List Bool) : stI (b :: r) &&& 1 = b2i b := by
  apply b_ext; intro j hj
  rw [b_and, bt_stI, bit1I j hj, decide_eq_true hj, Bool.true_and]
  cases j with
  | zero => cases b <;> simp <;> decide
  | succ j => cases b <;> simp [b2i, b_0, bit1I _ hj]
theorem stI_not (b : Bool) (r : List Bool) : stI (b :: r) ^^^ 1 = stI (!b :: r) := by
  apply b_ext; intro j hj
  rw [b_xor, bt_stI, bt_stI, bit1I j hj, decide_eq_true hj]
  cases j with
  | zero => cases b <;> rfl
  | succ j => simp
theorem stI_rest (b : Bool) {r : List Bool} (hr : r.length ≤ 31) : ((stI (b :: r)).toUInt32 >>> ((1 : Int32).toUInt32 &&& Int32.toUInt32 31)).toInt32 = stI r := by
  apply b_ext; intro j hj
  have := b_ushr 1 (by decide) (stI (b :: r)) j
  rw [show nI 1 = (1 : Int32) from rfl] at this
  rw [this, bt_stI, bt_stI, decide_eq_true hj, Nat.add_comm]
  by_cases q : j + 1 < 32
  · simp [q]
  · have e : j = 31 := by omega
    subst e
    simp [List.getD_eq_default _ _ hr]
    exact (List.getElem?_eq_none hr).symm ▸ rfl
theorem stI_and0 (x : Bool) (r : List Bool) : stI (x :: r) &&& (-2) = stI (false :: r) := by
  apply b_ext; intro j hj
  rw [b_and, bt_stI, bt_stI, decide_eq_true hj]
  have : bt (-2) j = !decide (j = 0) := (by decide +kernel : ∀ j, j < 32 → bt (-2) j = !decide (j = 0)) j hj
  rw [this]
  cases j with
  | zero => simp
  | succ j => simp
theorem stI_or (x b : Bool) (r : List Bool) : stI (x :: r) ||| b2i b = stI ((x || b) :: r) := by
  apply b_ext; intro j hj
  rw [b_or, bt_stI, bt_stI, decide_eq_true hj]
  cases j with
  | zero => cases x <;> cases b <;> decide
  | succ j => cases b <;> simp [b2i, b_0, bit1I _ hj]
theorem stI_push (b : Bool) {l : List Bool} (hl : l.length ≤ 31) : stI l <<< ((1 : Int32) &&& 31) ||| (if b then 1 else 0) = stI (b :: l) := by
  apply b_ext; intro j hj
  have := b_shl 1 (by decide) (stI l) hj
  rw [show nI 1 = (1 : Int32) from rfl] at this
  rw [b_or, this, bt_stI, bt_stI, decide_eq_true hj]
  cases j with
  | zero => cases b <;> simp [b_0] <;> decide
  | succ j => cases b <;> simp [b_0, bit1I _ hj] <;> intros <;> omega
theorem b_Fi_valueOf_0 {G : ev_G} {d k n : Nat} {h : ev_H} {R : Option Value → ev_H → Prop} {x0 : Nat} {x1 : Nat} {x2 : Int32} {x3 : Int32} {N1 : Nat} {g2 : Nat → Int32} {j3 : Nat} {N4 : Nat} {g5 : Nat → Int32} {f_bits_6 : Int32} {f_parts_7 : Int32} {f_size_8 : Int32} {fv9 : Value} {g10 : Nat → Int64} {j11 : Nat} {g12 : Nat → Int32} {S13 : AS} {c14 : Nat} {p15 : Nat} {N16 : Nat} {g17 : Nat → Int64}
  (a1 : hat h x0 (oC 1 [.ref (x0 + 1), .ref (x0 + 2), .ref (x0 + 3), .ref (x0 + 4), .ref (x0 + 5)]))
  (a2 : hat h (x0 + 3) (aI N1 g2))
  (a4 : hat h (x0 + 1) (aI N4 g5))
  (a6 : hat h x1 (oC 6 [.int f_bits_6, .int f_parts_7, .ref (x1 + 1), .int f_size_8, .ref (x1 + 2), .ref (x1 + 3), fv9]))
  (a7 : hat h (x1 + 2) (aL 32 g10))
  (a9 : hat h (x1 + 3) (aI 32 g12))
  (a17 : hat h (x0 + 5) (aL N16 g17))
  (i3 : ev_ix x3 j3 N1)
  (i5 : ev_ix x3 j3 N4)
  (i8 : (g5 j3) = (3 : Int32) → ev_ix x2 j11 32)
  (i10 : (g5 j3) = (4 : Int32) → ev_ix x2 j11 32)
  (i11 : (g5 j3) = (6 : Int32) → ev_ix x2 j11 32)
  (p12 : (g5 j3) = (7 : Int32) → (g2 j3) < f_parts_7 → StR h x1 S13)
  (p13 : (g5 j3) = (7 : Int32) → (g2 j3) < f_parts_7 → sOk S13)
  (p14 : (g5 j3) = (7 : Int32) → (g2 j3) < f_parts_7 → x2 = nI c14 ∧ c14 < sN S13)
  (p15 : (g5 j3) = (7 : Int32) → (g2 j3) < f_parts_7 → (g2 j3) = nI p15 ∧ p15 < sP S13)
  (i16 : ¬ (g5 j3) = (3 : Int32) → ¬ (g5 j3) = (4 : Int32) → ¬ (g5 j3) = (5 : Int32) → ¬ (g5 j3) = (6 : Int32) → ¬ (g5 j3) = (7 : Int32) → ev_ix x2 j11 32)
  (i18 : ¬ (g5 j3) = (3 : Int32) → ¬ (g5 j3) = (4 : Int32) → ¬ (g5 j3) = (5 : Int32) → ¬ (g5 j3) = (6 : Int32) → ¬ (g5 j3) = (7 : Int32) → ev_ix x3 j3 N16)
  (k1 : (g5 j3) = (3 : Int32) → R (some (.int (nI (pop (g10 j11))))) h)
  (k2 : (g5 j3) = (4 : Int32) → R (some (.int (g12 j11))) h)
  (k3 : (g5 j3) = (5 : Int32) → R (some (.int x2)) h)
  (k4 : (g5 j3) = (6 : Int32) → R (some (.int (b2i (tbL (g10 j11) (g2 j3))))) h)
  (k5 : (g5 j3) = (7 : Int32) → (g2 j3) < f_parts_7 → R (some (.int (nI (keyN (sCo S13 c14) (stt S13 p15) (sBr S13 p15))))) h)
  (k6 : (g5 j3) = (7 : Int32) → ¬ (g2 j3) < f_parts_7 → R (some (.int (0 : Int32))) h)
  (k7 : ¬ (g5 j3) = (3 : Int32) → ¬ (g5 j3) = (4 : Int32) → ¬ (g5 j3) = (5 : Int32) → ¬ (g5 j3) = (6 : Int32) → ¬ (g5 j3) = (7 : Int32) → R (some (.int (nI (pop ((g10 j11) ^^^ (g17 j3)))))) h)
  : Ev G (d + 2) k n M_Fi_valueOf 0 [.ref x0, .ref x1, .int x2, .int x3, ev_unk] [] h R :=
  Ev.go (pc' := 1) (ls' := [.ref x0, .ref x1, .int x2, .int x3, ev_unk]) (st' := [.ref x0]) [.aload_n 0] (by decide +kernel) rfl <|
  Ev.getf f_Fi_33 (by decide +kernel) a1 rfl <|
  Ev.go (pc' := 5) (ls' := [.ref x0, .ref x1, .int x2, .int x3, ev_unk]) (st' := [.int x3, .ref (x0 + 3)]) [.iload_n 3] (by decide +kernel) rfl <|
  Ev.iald (j := j3) (by decide +kernel) a2 i3 <|
  Ev.go (pc' := 9) (ls' := [.ref x0, .ref x1, .int x2, .int x3, .int (g2 j3)]) (st' := [.ref x0]) [.istore 4, .aload_n 0] (by decide +kernel) rfl <|
  Ev.getf f_Fi_23 (by decide +kernel) a1 rfl <|
  Ev.go (pc' := 13) (ls' := [.ref x0, .ref x1, .int x2, .int x3, .int (g2 j3)]) (st' := [.int x3, .ref (x0 + 1)]) [.iload_n 3] (by decide +kernel) rfl <|
  Ev.iald (j := j3) (by decide +kernel) a4 i5 <|
  if c1 : (g5 j3) = (3 : Int32) then Ev.tsw (t := 48) (by decide +kernel) (by rw [c1]; decide) (by rw [c1]; decide) (by rw [c1]; decide) rfl <|
    Ev.go (pc' := 49) (ls' := [.ref x0, .ref x1, .int x2, .int x3, .int (g2 j3)]) (st' := [.ref x1]) [.aload_n 1] (by decide +kernel) rfl <|
    Ev.getf f_Fi_54 (by decide +kernel) a6 rfl <|
    Ev.go (pc' := 53) (ls' := [.ref x0, .ref x1, .int x2, .int x3, .int (g2 j3)]) (st' := [.int x2, .ref (x1 + 2)]) [.iload_n 2] (by decide +kernel) rfl <|
    Ev.lald (j := j11) (by decide +kernel) a7 (i8 c1) <|
    Ev.cS0 (M' := M_JL_bitCount) (as := [.long (g10 j11)]) (rest := []) l_Fi_59 M_JL_bitCount_ok M_JL_bitCount_st (by decide +kernel) rfl rfl (Nat.le_of_ble_eq_true rfl) (Nat.le_of_ble_eq_true rfl) (s_JL_bitCount <| show Ev G (d + 2) _ _ M_Fi_valueOf 57 [.ref x0, .ref x1, .int x2, .int x3, .int (g2 j3)] [.int (nI (pop (g10 j11)))] h R from
      Ev.ret (r := (some (.int (nI (pop (g10 j11)))))) (Or.inl ⟨_, rfl, by decide +kernel, _, rfl, rfl⟩) (k1 c1)
    )
  else
  if c2 : (g5 j3) = (4 : Int32) then Ev.tsw (t := 58) (by decide +kernel) (by rw [c2]; decide) (by rw [c2]; decide) (by rw [c2]; decide) rfl <|
    Ev.go (pc' := 59) (ls' := [.ref x0, .ref x1, .int x2, .int x3, .int (g2 j3)]) (st' := [.ref x1]) [.aload_n 1] (by decide +kernel) rfl <|
    Ev.getf f_Fi_65 (by decide +kernel) a6 rfl <|
    Ev.go (pc' := 63) (ls' := [.ref x0, .ref x1, .int x2, .int x3, .int (g2 j3)]) (st' := [.int x2, .ref (x1 + 3)]) [.iload_n 2] (by decide +kernel) rfl <|
    Ev.iald (j := j11) (by decide +kernel) a9 (i10 c2) <|
    Ev.ret (r := (some (.int (g12 j11)))) (Or.inl ⟨_, rfl, by decide +kernel, _, rfl, rfl⟩) (k2 c2)
  else
  if c3 : (g5 j3) = (5 : Int32) then Ev.tsw (t := 65) (by decide +kernel) (by rw [c3]; decide) (by rw [c3]; decide) (by rw [c3]; decide) rfl <|
    Ev.go (pc' := 66) (ls' := [.ref x0, .ref x1, .int x2, .int x3, .int (g2 j3)]) (st' := [.int x2]) [.iload_n 2] (by decide +kernel) rfl <|
    Ev.ret (r := (some (.int x2))) (Or.inl ⟨_, rfl, by decide +kernel, _, rfl, rfl⟩) (k3 c3)
  else
  if c4 : (g5 j3) = (6 : Int32) then Ev.tsw (t := 67) (by decide +kernel) (by rw [c4]; decide) (by rw [c4]; decide) (by rw [c4]; decide) rfl <|
    Ev.go (pc' := 68) (ls' := [.ref x0, .ref x1, .int x2, .int x3, .int (g2 j3)]) (st' := [.ref x1]) [.aload_n 1] (by decide +kernel) rfl <|
    Ev.getf f_Fi_54 (by decide +kernel) a6 rfl <|
    Ev.go (pc' := 72) (ls' := [.ref x0, .ref x1, .int x2, .int x3, .int (g2 j3)]) (st' := [.int x2, .ref (x1 + 2)]) [.iload_n 2] (by decide +kernel) rfl <|
    Ev.lald (j := j11) (by decide +kernel) a7 (i11 c4) <|
    Ev.go (pc' := 75) (ls' := [.ref x0, .ref x1, .int x2, .int x3, .int (g2 j3)]) (st' := [.int (g2 j3), .long (g10 j11)]) [.iload 4] (by decide +kernel) rfl <|
    Ev.cSN0 (M' := M_X_bitOf) (as := [.long (g10 j11), .int (g2 j3)]) (rest := []) l_Fi_68 M_X_bitOf_ok M_X_bitOf_st (by decide +kernel) rfl rfl (Nat.le_of_ble_eq_true rfl) (Nat.le_of_ble_eq_true rfl) (s_X_bitOf <| show Ev G (d + 2) _ _ M_Fi_valueOf 78 [.ref x0, .ref x1, .int x2, .int x3, .int (g2 j3)] [.int (b2i (tbL (g10 j11) (g2 j3)))] h R from
      Ev.ret (r := (some (.int (b2i (tbL (g10 j11) (g2 j3)))))) (Or.inl ⟨_, rfl, by decide +kernel, _, rfl, rfl⟩) (k4 c4)
    )
  else
  if c5 : (g5 j3) = (7 : Int32) then Ev.tsw (t := 79) (by decide +kernel) (by rw [c5]; decide) (by rw [c5]; decide) (by rw [c5]; decide) rfl <|
    Ev.go (pc' := 82) (ls' := [.ref x0, .ref x1, .int x2, .int x3, .int (g2 j3)]) (st' := [.ref x1, .int (g2 j3)]) [.iload 4, .aload_n 1] (by decide +kernel) rfl <|
    Ev.getf f_Fi_74 (by decide +kernel) a6 rfl <|
    Ev.br (i := .if_icmp .ge (13)) (P := (g2 j3) < f_parts_7) (t := 88) (f := 98) (r := []) (by decide +kernel) rfl (fun c2 =>
      Ev.go (pc' := 92) (ls' := [.ref x0, .ref x1, .int x2, .int x3, .int (g2 j3)]) (st' := [.int (g2 j3), .int x2, .ref x1]) [.aload_n 1, .iload_n 2, .iload 4] (by decide +kernel) rfl <|
      Ev.cV0 (M' := M_St_keyOf) (as := [.int x2, .int (g2 j3)]) (rest := []) l_Fi_77 M_St_keyOf_ok M_St_keyOf_in M_St_keyOf_se (by decide +kernel) ⟨_, a6⟩ rfl rfl rfl (Nat.le_of_ble_eq_true rfl) (Nat.le_of_ble_eq_true rfl) (s_St_keyOf' (p12 c5 c2) (p13 c5 c2) (p14 c5 c2) (p15 c5 c2) <| show Ev G (d + 2) _ _ M_Fi_valueOf 95 [.ref x0, .ref x1, .int x2, .int x3, .int (g2 j3)] [.int (nI (keyN (sCo S13 c14) (stt S13 p15) (sBr S13 p15)))] h R from
        Ev.go (pc' := 99) (ls' := [.ref x0, .ref x1, .int x2, .int x3, .int (g2 j3)]) (st' := [.int (nI (keyN (sCo S13 c14) (stt S13 p15) (sBr S13 p15)))]) [.goto (4)] (by decide +kernel) rfl <|
        Ev.ret (r := (some (.int (nI (keyN (sCo S13 c14) (stt S13 p15) (sBr S13 p15)))))) (Or.inl ⟨_, rfl, by decide +kernel, _, rfl, rfl⟩) (k5 c5 c2)
      )
    ) (fun c2 =>
      Ev.go (pc' := 99) (ls' := [.ref x0, .ref x1, .int x2, .int x3, .int (g2 j3)]) (st' := [.int (0 : Int32)]) [.iconst 0] (by decide +kernel) rfl <|
      Ev.ret (r := (some (.int (0 : Int32)))) (Or.inl ⟨_, rfl, by decide +kernel, _, rfl, rfl⟩) (k6 c5 c2)
    )
  else
  Ev.tswd (t := 100) (by decide +kernel) (by have qc1 := ne_i (v := 3) (3 : Int32) (by decide) c1; have qc2 := ne_i (v := 4) (4 : Int32) (by decide) c2; have qc3 := ne_i (v := 5) (5 : Int32) (by decide) c3; have qc4 := ne_i (v := 6) (6 : Int32) (by decide) c4; have qc5 := ne_i (v := 7) (7 : Int32) (by decide) c5; omega) rfl <|
    Ev.go (pc' := 101) (ls' := [.ref x0, .ref x1, .int x2, .int x3, .int (g2 j3)]) (st' := [.ref x1]) [.aload_n 1] (by decide +kernel) rfl <|
    Ev.getf f_Fi_54 (by decide +kernel) a6 rfl <|
    Ev.go (pc' := 105) (ls' := [.ref x0, .ref x1, .int x2, .int x3, .int (g2 j3)]) (st' := [.int x2, .ref (x1 + 2)]) [.iload_n 2] (by decide +kernel) rfl <|
    Ev.lald (j := j11) (by decide +kernel) a7 (i16 c1 c2 c3 c4 c5) <|
    Ev.go (pc' := 107) (ls' := [.ref x0, .ref x1, .int x2, .int x3, .int (g2 j3)]) (st' := [.ref x0, .long (g10 j11)]) [.aload_n 0] (by decide +kernel) rfl <|
    Ev.getf f_Fi_45 (by decide +kernel) a1 rfl <|
    Ev.go (pc' := 111) (ls' := [.ref x0, .ref x1, .int x2, .int x3, .int (g2 j3)]) (st' := [.int x3, .ref (x0 + 5), .long (g10 j11)]) [.iload_n 3] (by decide +kernel) rfl <|
    Ev.lald (j := j3) (by decide +kernel) a17 (i18 c1 c2 c3 c4 c5) <|
    Ev.cSN0 (M' := M_X_unlike) (as := [.long (g10 j11), .long (g17 j3)]) (rest := []) l_Fi_81 M_X_unlike_ok M_X_unlike_st (by decide +kernel) rfl rfl (Nat.le_of_ble_eq_true rfl) (Nat.le_of_ble_eq_true rfl) (s_X_unlike <| show Ev G (d + 2) _ _ M_Fi_valueOf 115 [.ref x0, .ref x1, .int x2, .int x3, .int (g2 j3)] [.int (nI (pop ((g10 j11) ^^^ (g17 j3))))] h R from
      Ev.ret (r := (some (.int (nI (pop ((g10 j11) ^^^ (g17 j3))))))) (Or.inl ⟨_, rfl, by decide +kernel, _, rfl, rfl⟩) (k7 c1 c2 c3 c4 c5)
    )
  
section S15
variable {G : ev_G} {d : Nat} {h : ev_H} {R : Option Value → ev_H → Prop} {a f : Nat} {S : AS} {fl : List AStp}
theorem nI3 {a : Nat} (h : a < 100) (k : Nat) (hk : k < 100) : nI a = nI k ↔ a = k := nI_eq (by omega) (by omega)
theorem s_Fi_valueOf (hF : FiR h f fl) (hS : StR h a S) (ok : sOk S) {c i : Nat} {s : AStp} (hc : c < sN S) (hi : fl[i]? = some s) (hs : stpOk s) (hlen : fl.length ≤ 300) (h3 : 3 ≤ s.1) (hR : R (some (.int (nI (vlN S c s)))) h) : Ev G (d + 2) 0 0 M_Fi_valueOf 0 [.ref f, .ref a, .int (nI c), .int (nI i), ev_unk] [] h R := by
  have hS0 := hS
  obtain ⟨brf, tgf, cof, fv, t1, t2, t3, t4, e1, e2, -⟩ := hS
  obtain ⟨f0, ks, ss, ps, bs, frs, f1, f2, f3, f4, f5, hst⟩ := hF
  obtain ⟨g1, g2, g3, g4, g5⟩ := hst i s hi
  have hil : i < fl.length := (List.getElem?_eq_some_iff.mp hi).1
  have hz := ok.2.2.2.2.1
  have hz2 := ok.2.2.2.1
  have hk := hs.1
  have hix : ev_ix (nI i) i fl.length := ixn hil (by omega)
  have hcx : ev_ix (nI c) c 32 := ixn (by omega) (by decide)
  have w : ∀ k : Nat, k < 100 → (ks i = nI k ↔ s.1 = k) := fun k hk => by rw [g1]; exact nI3 (by omega) k hk
  refine b_Fi_valueOf_0 f0 f3 f1 t1 t3 t4 f5 (S13 := S) (c14 := c) (p15 := s.2.2.1) hix hix (fun _ => hcx) (fun _ => hcx) (fun _ => hcx) (fun _ _ => hS0) (fun _ _ => ok) (fun _ _ => ⟨rfl, hc⟩) (fun _ q => ⟨g3, ?_⟩) (fun _ _ _ _ _ => hcx) (fun _ _ _ _ _ => hix) (fun q => ?_) (fun q => ?_) (fun q => ?_) (fun q => ?_) (fun q q2 => ?_) (fun q q2 => ?_) (fun q q2 q3 q4 q5 => ?_)
  · rw [g3] at q; exact (nI_ltI (by have := hs.2.2.1; omega) (by omega)).mp q
  · have := (w 3 (by decide)).mp q
    unfold vlN at hR; rw [if_pos this] at hR; rw [(e2 c hc).1]; exact hR
  · have := (w 4 (by decide)).mp q
    unfold vlN at hR; rw [if_neg (by omega), if_pos this] at hR; rw [(e2 c hc).2]; exact hR
  · have := (w 5 (by decide)).mp q
    unfold vlN at hR; rw [if_neg (by omega), if_neg (by omega), if_pos this] at hR; exact hR
  · have := (w 6 (by decide)).mp q
    unfold vlN at hR; rw [if_neg (by omega), if_neg (by omega), if_neg (by omega), if_pos this] at hR
    rw [(e2 c hc).1, g3, tbL_n (by have := hs.2.2.1; omega)]
    cases q9 : lt (sCo S c) s.2.2.1 <;> rw [q9] at hR <;> exact hR
  · have := (w 7 (by decide)).mp q
    rw [g3] at q2
    have hp := (nI_ltI (by have := hs.2.2.1; omega) (by omega)).mp q2
    unfold vlN at hR; rw [if_neg (by omega), if_neg (by omega), if_neg (by omega), if_neg (by omega), if_pos this, if_pos hp] at hR; exact hR
  · have := (w 7 (by decide)).mp q
    rw [g3] at q2
    have hp : ¬ s.2.2.1 < sP S := fun z => q2 (nI_lt z (by omega))
    unfold vlN at hR; rw [if_neg (by omega), if_neg (by omega), if_neg (by omega), if_neg (by omega), if_pos this, if_neg hp] at hR; exact hR
  · have q3' := fun z => q ((w 3 (by decide)).mpr z)
    have q4' := fun z => q2 ((w 4 (by decide)).mpr z)
    have q5' := fun z => q3 ((w 5 (by decide)).mpr z)
    have q6' := fun z => q4 ((w 6 (by decide)).mpr z)
    have q7' := fun z => q5 ((w 7 (by decide)).mpr z)
    unfold vlN at hR; rw [if_neg q3', if_neg q4', if_neg q5', if_neg q6', if_neg q7'] at hR
    rw [(e2 c hc).1, g5]; exact hR
end S15
