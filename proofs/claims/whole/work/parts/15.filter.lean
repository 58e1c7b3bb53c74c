/-! FILTERS -/
/-- the value of a step, for a code -/
def vlN (S : AS) (c : Nat) (s : AStp) : Nat := if s.1 = 3 then pop (sCo S c) else if s.1 = 4 then sTg S c else if s.1 = 5 then c else if s.1 = 6 then (if lt (sCo S c) s.2.2.1 then 1 else 0) else if s.1 = 7 then (if s.2.2.1 < sP S then keyN (sCo S c) (stt S s.2.2.1) (sBr S s.2.2.1) else 0) else pop (sCo S c ^^^ s.2.2.2.2)
def fcB (S : AS) (c : Nat) (s : AStp) : Bool := if s.2.1 = 60 then decide (vlN S c s < s.2.2.2.1) else if s.2.1 = 61 then decide (vlN S c s = s.2.2.2.1) else decide (s.2.2.2.1 < vlN S c s)
def stp1 (S : AS) (c : Nat) (s : AStp) (st : List Bool) : List Bool := if s.1 = 0 then (match st with
    | b :: r => (!b) :: r
    | [] => []) else if s.1 = 1 then (match st with
    | y :: x :: r => (x && y) :: r
    | r => r) else if s.1 = 2 then (match st with
    | y :: x :: r => (x || y) :: r
    | r => r) else fcB S c s :: st
def evP (S : AS) (c : Nat) (fl : List AStp) : Nat → List Bool
  | 0 => []
  | i + 1 => match fl[i]? with
    | some s => stp1 S c s (evP S c fl i)
    | none => evP S c fl i
def dp1 (s : AStp) (d : Nat) : Nat := if s.1 = 0 then d else if s.1 = 1 then d - 1 else if s.1 = 2 then d - 1 else d + 1
def dpP (fl : List AStp) : Nat → Nat
  | 0 => 0
  | i + 1 => match fl[i]? with
    | some s => dp1 s (dpP fl i)
    | none => dpP fl i
def stpOk (s : AStp) : Prop := s.1 ≤ 8 ∧ s.2.1 < 100 ∧ s.2.2.1 < 48 ∧ s.2.2.2.1 < 100000000
/-- steps that make one answer, at most 30 waiting -/
def flOk (fl : List AStp) : Prop := fl.length ≤ 300 ∧ (∀ i s, fl[i]? = some s → stpOk s ∧ (s.1 = 0 → 1 ≤ dpP fl i) ∧ ((s.1 = 1 ∨ s.1 = 2) → 2 ≤ dpP fl i) ∧ dpP fl i ≤ 30) ∧ dpP fl fl.length = 1
def holdsB (S : AS) (c : Nat) : Bool := (evP S c (sFl S) (sFl S).length).headD false
/-- which codes count -/
def ctP (S : AS) (j : Nat) : Bool := decide (j < sN S) && ((sFl S).isEmpty || holdsB S j)
theorem evP_len (S : AS) (c : Nat) {fl : List AStp} (ok : flOk fl) : ∀ i, i ≤ fl.length → (evP S c fl i).length = dpP fl i
  | 0, _ => rfl
  | i + 1, hi => by
    have ih := evP_len S c ok i (by omega)
    have hg : fl[i]? = some fl[i] := List.getElem?_eq_getElem (by omega)
    obtain ⟨-, q0, q1, -⟩ := ok.2.1 i _ hg
    show (match fl[i]? with
      | some s => stp1 S c s (evP S c fl i)
      | none => evP S c fl i).length = match fl[i]? with
      | some s => dp1 s (dpP fl i)
      | none => dpP fl i
    rw [hg]
    show (stp1 S c fl[i] (evP S c fl i)).length = dp1 fl[i] (dpP fl i)
    rw [← ih] at q0 q1 ⊢
    unfold stp1 dp1
    by_cases e0 : fl[i].1 = 0
    · rw [if_pos e0, if_pos e0]; split <;> simp_all
    · by_cases e1 : fl[i].1 = 1
      · rw [if_neg e0, if_neg e0, if_pos e1, if_pos e1]
        have := q1 (Or.inl e1)
        match h : evP S c fl i, this with
        | y :: x :: r, _ => simp
      · by_cases e2 : fl[i].1 = 2
        · rw [if_neg e0, if_neg e0, if_neg e1, if_neg e1, if_pos e2, if_pos e2]
          have := q1 (Or.inr e2)
          match h : evP S c fl i, this with
          | y :: x :: r, _ => simp
        · rw [if_neg e0, if_neg e0, if_neg e1, if_neg e1, if_neg e2, if_neg e2]; simp
/-- a stack of answers as the bits of an int -/
def stI (l : List Bool) : Int32 := setI (fun j => l.getD j false)
theorem bt_stI (l : List Bool) (j : Nat) : bt (stI l) j = (decide (j < 32) && l.getD j false) := bt_setI _ j
theorem stI_nil : stI [] = 0 := by decide +kernel
theorem stI_top (b : Bool) (r : List Bool) : stI (b :: r) &&& 1 = b2i b := by
  apply b_ext; intro j hj
  rw [b_and, bt_stI, bit1I j hj, decide_eq_true hj, Bool.true_and]
  cases j with
  | zero => cases b <;> simp <;> decide
  | succ j => cases b <;> simp [b2i, b_0, bit1I _ hj]
theorem stI_not (b : Bool) (r : List Bool) : stI (b :: r) ^^^ 1 = stI ((!b) :: r) := by
  apply b_ext; intro j hj
  rw [b_xor, bt_stI, bt_stI, bit1I j hj, decide_eq_true hj]
  cases j with
  | zero => cases b <;> rfl
  | succ j => simp
theorem stI_rest (b : Bool) {r : List Bool} (hr : r.length ≤ 31) : ((stI (b :: r)).toUInt32 >>> ((1 : Int32).toUInt32 &&& Int32.toUInt32 31)).toInt32 = stI r := by
  apply b_ext; intro j hj
  have := b_ushr 1 (by decide) (stI (b :: r)) j
  rw [show nI 1 = (1 : Int32) from rfl] at this
  rw [this, bt_stI, bt_stI, decide_eq_true hj, Nat.add_comm]
  by_cases q : j + 1 < 32
  · simp [q]
  · have e : j = 31 := by omega
    subst e
    have : r[31]? = none := List.getElem?_eq_none hr
    simp [List.getD, this]
theorem stI_and0 (x : Bool) (r : List Bool) : stI (x :: r) &&& (-2) = stI (false :: r) := by
  apply b_ext; intro j hj
  rw [b_and, bt_stI, bt_stI, decide_eq_true hj]
  have : bt (-2) j = !decide (j = 0) := (by decide +kernel : ∀ j, j < 32 → bt (-2) j = !decide (j = 0)) j hj
  rw [this]
  cases j with
  | zero => simp
  | succ j => simp
theorem stI_or (x b : Bool) (r : List Bool) : stI (x :: r) ||| b2i b = stI ((x || b) :: r) := by
  apply b_ext; intro j hj
  rw [b_or, bt_stI, bt_stI, decide_eq_true hj]
  cases j with
  | zero => cases x <;> cases b <;> simp [b2i, b_0, bit1I _ hj]
  | succ j => cases b <;> simp [b2i, b_0, bit1I _ hj]
theorem stI_push (b : Bool) {l : List Bool} (hl : l.length ≤ 31) : stI l <<< ((1 : Int32) &&& 31) ||| (if b then 1 else 0) = stI (b :: l) := by
  apply b_ext; intro j hj
  have := b_shl 1 (by decide) (stI l) hj
  rw [show nI 1 = (1 : Int32) from rfl] at this
  rw [b_or, this, bt_stI, bt_stI, decide_eq_true hj]
  cases j with
  | zero => cases b <;> simp [b_0] <;> decide
  | succ j => cases b <;> simp [b_0, bit1I _ hj] <;> intros <;> omega
theorem b_Fi_valueOf_0 {G : ev_G} {d k n : Nat} {h : ev_H} {R : Option Value → ev_H → Prop} {x0 : Nat} {x1 : Nat} {x2 : Int32} {x3 : Int32} {N1 : Nat} {g2 : Nat → Int32} {j3 : Nat} {N4 : Nat} {g5 : Nat → Int32} {f_bits_6 : Int32} {f_parts_7 : Int32} {f_size_8 : Int32} {fv9 : Value} {g10 : Nat → Int64} {j11 : Nat} {g12 : Nat → Int32} {S13 : AS} {c_14 : Nat} {p_15 : Nat} {N16 : Nat} {g17 : Nat → Int64}
  (a1 : hat h x0 (oC 1 [.ref (x0 + 1), .ref (x0 + 2), .ref (x0 + 3), .ref (x0 + 4), .ref (x0 + 5)]))
  (a2 : hat h (x0 + 3) (aI N1 g2))
  (a4 : hat h (x0 + 1) (aI N4 g5))
  (a6 : hat h x1 (oC 6 [.int f_bits_6, .int f_parts_7, .ref (x1 + 1), .int f_size_8, .ref (x1 + 2), .ref (x1 + 3), fv9]))
  (a7 : hat h (x1 + 2) (aL 32 g10))
  (a9 : hat h (x1 + 3) (aI 32 g12))
  (a17 : hat h (x0 + 5) (aL N16 g17))
  (i3 : ev_ix x3 j3 N1)
  (i5 : ev_ix x3 j3 N4)
  (i8 : (g5 j3) = (3 : Int32) → ev_ix x2 j11 32)
  (i10 : (g5 j3) = (4 : Int32) → ev_ix x2 j11 32)
  (i11 : (g5 j3) = (6 : Int32) → ev_ix x2 j11 32)
  (pr12 : (g5 j3) = (7 : Int32) → (g2 j3) < f_parts_7 → StR h x1 S13)
  (pr13 : (g5 j3) = (7 : Int32) → (g2 j3) < f_parts_7 → sOk S13)
  (pr14 : (g5 j3) = (7 : Int32) → (g2 j3) < f_parts_7 → x2 = nI c_14 ∧ c_14 < sN S13)
  (pr15 : (g5 j3) = (7 : Int32) → (g2 j3) < f_parts_7 → (g2 j3) = nI p_15 ∧ p_15 < sP S13)
  (i16 : ¬ (g5 j3) = (3 : Int32) → ¬ (g5 j3) = (4 : Int32) → ¬ (g5 j3) = (5 : Int32) → ¬ (g5 j3) = (6 : Int32) → ¬ (g5 j3) = (7 : Int32) → ev_ix x2 j11 32)
  (i18 : ¬ (g5 j3) = (3 : Int32) → ¬ (g5 j3) = (4 : Int32) → ¬ (g5 j3) = (5 : Int32) → ¬ (g5 j3) = (6 : Int32) → ¬ (g5 j3) = (7 : Int32) → ev_ix x3 j3 N16)
  (k1 : (g5 j3) = (3 : Int32) → R (some (.int (nI (pop (g10 j11))))) h)
  (k2 : (g5 j3) = (4 : Int32) → R (some (.int (g12 j11))) h)
  (k3 : (g5 j3) = (5 : Int32) → R (some (.int x2)) h)
  (k4 : (g5 j3) = (6 : Int32) → R (some (.int (b2i (tbL (g10 j11) (g2 j3))))) h)
  (k5 : (g5 j3) = (7 : Int32) → (g2 j3) < f_parts_7 → R (some (.int (nI (keyN (sCo S13 c_14) (stt S13 p_15) (sBr S13 p_15))))) h)
  (k6 : (g5 j3) = (7 : Int32) → ¬ (g2 j3) < f_parts_7 → R (some (.int (0 : Int32))) h)
  (k7 : ¬ (g5 j3) = (3 : Int32) → ¬ (g5 j3) = (4 : Int32) → ¬ (g5 j3) = (5 : Int32) → ¬ (g5 j3) = (6 : Int32) → ¬ (g5 j3) = (7 : Int32) → R (some (.int (nI (pop ((g10 j11) ^^^ (g17 j3)))))) h)
  : Ev G (d + 2) k n M_Fi_valueOf 0 [.ref x0, .ref x1, .int x2, .int x3, ev_unk] [] h R :=
  Ev.go (pc' := 1) (ls' := [.ref x0, .ref x1, .int x2, .int x3, ev_unk]) (st' := [.ref x0]) [.aload_n 0] (by decide +kernel) rfl <|
  Ev.getf f_Fi_33 (by decide +kernel) a1 rfl <|
  Ev.go (pc' := 5) (ls' := [.ref x0, .ref x1, .int x2, .int x3, ev_unk]) (st' := [.int x3, .ref (x0 + 3)]) [.iload_n 3] (by decide +kernel) rfl <|
  Ev.iald (j := j3) (by decide +kernel) a2 i3 <|
  Ev.go (pc' := 9) (ls' := [.ref x0, .ref x1, .int x2, .int x3, .int (g2 j3)]) (st' := [.ref x0]) [.istore 4, .aload_n 0] (by decide +kernel) rfl <|
  Ev.getf f_Fi_23 (by decide +kernel) a1 rfl <|
  Ev.go (pc' := 13) (ls' := [.ref x0, .ref x1, .int x2, .int x3, .int (g2 j3)]) (st' := [.int x3, .ref (x0 + 1)]) [.iload_n 3] (by decide +kernel) rfl <|
  Ev.iald (j := j3) (by decide +kernel) a4 i5 <|
  if c1_0 : (g5 j3) = (3 : Int32) then Ev.tsw (t := 48) (off := 34) (o := 86) (lo := 3) (hi := 7) (offs := #[34, 44, 51, 53, 65]) (len := 34) (by decide +kernel) (by rw [c1_0]; decide) (by rw [c1_0]; decide) (by rw [c1_0]; decide) rfl <|
    Ev.go (pc' := 49) (ls' := [.ref x0, .ref x1, .int x2, .int x3, .int (g2 j3)]) (st' := [.ref x1]) [.aload_n 1] (by decide +kernel) rfl <|
    Ev.getf f_Fi_54 (by decide +kernel) a6 rfl <|
    Ev.go (pc' := 53) (ls' := [.ref x0, .ref x1, .int x2, .int x3, .int (g2 j3)]) (st' := [.int x2, .ref (x1 + 2)]) [.iload_n 2] (by decide +kernel) rfl <|
    Ev.lald (j := j11) (by decide +kernel) a7 (i8 c1_0) <|
    Ev.cS0 (M' := M_JL_bitCount) (as := [.long (g10 j11)]) (rest := []) l_Fi_59 M_JL_bitCount_ok M_JL_bitCount_st (by decide +kernel) rfl rfl (Nat.le_of_ble_eq_true rfl) (Nat.le_of_ble_eq_true rfl) (s_JL_bitCount <| show Ev G (d + 2) _ _ M_Fi_valueOf 57 [.ref x0, .ref x1, .int x2, .int x3, .int (g2 j3)] [.int (nI (pop (g10 j11)))] h R from
      Ev.ret (r := (some (.int (nI (pop (g10 j11)))))) (Or.inl ⟨_, rfl, by decide +kernel, _, rfl, rfl⟩) (k1 c1_0)
    )
  else
  if c1_1 : (g5 j3) = (4 : Int32) then Ev.tsw (t := 58) (off := 44) (o := 86) (lo := 3) (hi := 7) (offs := #[34, 44, 51, 53, 65]) (len := 34) (by decide +kernel) (by rw [c1_1]; decide) (by rw [c1_1]; decide) (by rw [c1_1]; decide) rfl <|
    Ev.go (pc' := 59) (ls' := [.ref x0, .ref x1, .int x2, .int x3, .int (g2 j3)]) (st' := [.ref x1]) [.aload_n 1] (by decide +kernel) rfl <|
    Ev.getf f_Fi_65 (by decide +kernel) a6 rfl <|
    Ev.go (pc' := 63) (ls' := [.ref x0, .ref x1, .int x2, .int x3, .int (g2 j3)]) (st' := [.int x2, .ref (x1 + 3)]) [.iload_n 2] (by decide +kernel) rfl <|
    Ev.iald (j := j11) (by decide +kernel) a9 (i10 c1_1) <|
    Ev.ret (r := (some (.int (g12 j11)))) (Or.inl ⟨_, rfl, by decide +kernel, _, rfl, rfl⟩) (k2 c1_1)
  else
  if c1_2 : (g5 j3) = (5 : Int32) then Ev.tsw (t := 65) (off := 51) (o := 86) (lo := 3) (hi := 7) (offs := #[34, 44, 51, 53, 65]) (len := 34) (by decide +kernel) (by rw [c1_2]; decide) (by rw [c1_2]; decide) (by rw [c1_2]; decide) rfl <|
    Ev.go (pc' := 66) (ls' := [.ref x0, .ref x1, .int x2, .int x3, .int (g2 j3)]) (st' := [.int x2]) [.iload_n 2] (by decide +kernel) rfl <|
    Ev.ret (r := (some (.int x2))) (Or.inl ⟨_, rfl, by decide +kernel, _, rfl, rfl⟩) (k3 c1_2)
  else
  if c1_3 : (g5 j3) = (6 : Int32) then Ev.tsw (t := 67) (off := 53) (o := 86) (lo := 3) (hi := 7) (offs := #[34, 44, 51, 53, 65]) (len := 34) (by decide +kernel) (by rw [c1_3]; decide) (by rw [c1_3]; decide) (by rw [c1_3]; decide) rfl <|
    Ev.go (pc' := 68) (ls' := [.ref x0, .ref x1, .int x2, .int x3, .int (g2 j3)]) (st' := [.ref x1]) [.aload_n 1] (by decide +kernel) rfl <|
    Ev.getf f_Fi_54 (by decide +kernel) a6 rfl <|
    Ev.go (pc' := 72) (ls' := [.ref x0, .ref x1, .int x2, .int x3, .int (g2 j3)]) (st' := [.int x2, .ref (x1 + 2)]) [.iload_n 2] (by decide +kernel) rfl <|
    Ev.lald (j := j11) (by decide +kernel) a7 (i11 c1_3) <|
    Ev.go (pc' := 75) (ls' := [.ref x0, .ref x1, .int x2, .int x3, .int (g2 j3)]) (st' := [.int (g2 j3), .long (g10 j11)]) [.iload 4] (by decide +kernel) rfl <|
    Ev.cSN0 (M' := M_X_bitOf) (as := [.long (g10 j11), .int (g2 j3)]) (rest := []) l_Fi_68 M_X_bitOf_ok M_X_bitOf_st (by decide +kernel) rfl rfl (Nat.le_of_ble_eq_true rfl) (Nat.le_of_ble_eq_true rfl) (s_X_bitOf <| show Ev G (d + 2) _ _ M_Fi_valueOf 78 [.ref x0, .ref x1, .int x2, .int x3, .int (g2 j3)] [.int (b2i (tbL (g10 j11) (g2 j3)))] h R from
      Ev.ret (r := (some (.int (b2i (tbL (g10 j11) (g2 j3)))))) (Or.inl ⟨_, rfl, by decide +kernel, _, rfl, rfl⟩) (k4 c1_3)
    )
  else
  if c1_4 : (g5 j3) = (7 : Int32) then Ev.tsw (t := 79) (off := 65) (o := 86) (lo := 3) (hi := 7) (offs := #[34, 44, 51, 53, 65]) (len := 34) (by decide +kernel) (by rw [c1_4]; decide) (by rw [c1_4]; decide) (by rw [c1_4]; decide) rfl <|
    Ev.go (pc' := 82) (ls' := [.ref x0, .ref x1, .int x2, .int x3, .int (g2 j3)]) (st' := [.ref x1, .int (g2 j3)]) [.iload 4, .aload_n 1] (by decide +kernel) rfl <|
    Ev.getf f_Fi_74 (by decide +kernel) a6 rfl <|
    Ev.br (i := .if_icmp .ge (13)) (P := (g2 j3) < f_parts_7) (t := 88) (f := 98) (r := []) (by decide +kernel) rfl (fun c2 =>
      Ev.go (pc' := 92) (ls' := [.ref x0, .ref x1, .int x2, .int x3, .int (g2 j3)]) (st' := [.int (g2 j3), .int x2, .ref x1]) [.aload_n 1, .iload_n 2, .iload 4] (by decide +kernel) rfl <|
      Ev.cV0 (M' := M_St_keyOf) (as := [.int x2, .int (g2 j3)]) (rest := []) l_Fi_77 M_St_keyOf_ok M_St_keyOf_in M_St_keyOf_se (by decide +kernel) ⟨_, a6⟩ rfl rfl rfl (Nat.le_of_ble_eq_true rfl) (Nat.le_of_ble_eq_true rfl) (s_St_keyOf' (pr12 c1_4 c2) (pr13 c1_4 c2) (pr14 c1_4 c2) (pr15 c1_4 c2) <| show Ev G (d + 2) _ _ M_Fi_valueOf 95 [.ref x0, .ref x1, .int x2, .int x3, .int (g2 j3)] [.int (nI (keyN (sCo S13 c_14) (stt S13 p_15) (sBr S13 p_15)))] h R from
        Ev.go (pc' := 99) (ls' := [.ref x0, .ref x1, .int x2, .int x3, .int (g2 j3)]) (st' := [.int (nI (keyN (sCo S13 c_14) (stt S13 p_15) (sBr S13 p_15)))]) [.goto (4)] (by decide +kernel) rfl <|
        Ev.ret (r := (some (.int (nI (keyN (sCo S13 c_14) (stt S13 p_15) (sBr S13 p_15)))))) (Or.inl ⟨_, rfl, by decide +kernel, _, rfl, rfl⟩) (k5 c1_4 c2)
      )
    ) (fun c2 =>
      Ev.go (pc' := 99) (ls' := [.ref x0, .ref x1, .int x2, .int x3, .int (g2 j3)]) (st' := [.int (0 : Int32)]) [.iconst 0] (by decide +kernel) rfl <|
      Ev.ret (r := (some (.int (0 : Int32)))) (Or.inl ⟨_, rfl, by decide +kernel, _, rfl, rfl⟩) (k6 c1_4 c2)
    )
  else
  Ev.tswd (t := 100) (o := 86) (lo := 3) (hi := 7) (offs := #[34, 44, 51, 53, 65]) (len := 34) (by decide +kernel) (by have qc1_0 := ne_i (v := 3) (3 : Int32) (by decide) c1_0; have qc1_1 := ne_i (v := 4) (4 : Int32) (by decide) c1_1; have qc1_2 := ne_i (v := 5) (5 : Int32) (by decide) c1_2; have qc1_3 := ne_i (v := 6) (6 : Int32) (by decide) c1_3; have qc1_4 := ne_i (v := 7) (7 : Int32) (by decide) c1_4; omega) rfl <|
    Ev.go (pc' := 101) (ls' := [.ref x0, .ref x1, .int x2, .int x3, .int (g2 j3)]) (st' := [.ref x1]) [.aload_n 1] (by decide +kernel) rfl <|
    Ev.getf f_Fi_54 (by decide +kernel) a6 rfl <|
    Ev.go (pc' := 105) (ls' := [.ref x0, .ref x1, .int x2, .int x3, .int (g2 j3)]) (st' := [.int x2, .ref (x1 + 2)]) [.iload_n 2] (by decide +kernel) rfl <|
    Ev.lald (j := j11) (by decide +kernel) a7 (i16 c1_0 c1_1 c1_2 c1_3 c1_4) <|
    Ev.go (pc' := 107) (ls' := [.ref x0, .ref x1, .int x2, .int x3, .int (g2 j3)]) (st' := [.ref x0, .long (g10 j11)]) [.aload_n 0] (by decide +kernel) rfl <|
    Ev.getf f_Fi_45 (by decide +kernel) a1 rfl <|
    Ev.go (pc' := 111) (ls' := [.ref x0, .ref x1, .int x2, .int x3, .int (g2 j3)]) (st' := [.int x3, .ref (x0 + 5), .long (g10 j11)]) [.iload_n 3] (by decide +kernel) rfl <|
    Ev.lald (j := j3) (by decide +kernel) a17 (i18 c1_0 c1_1 c1_2 c1_3 c1_4) <|
    Ev.cSN0 (M' := M_X_unlike) (as := [.long (g10 j11), .long (g17 j3)]) (rest := []) l_Fi_81 M_X_unlike_ok M_X_unlike_st (by decide +kernel) rfl rfl (Nat.le_of_ble_eq_true rfl) (Nat.le_of_ble_eq_true rfl) (s_X_unlike <| show Ev G (d + 2) _ _ M_Fi_valueOf 115 [.ref x0, .ref x1, .int x2, .int x3, .int (g2 j3)] [.int (nI (pop ((g10 j11) ^^^ (g17 j3))))] h R from
      Ev.ret (r := (some (.int (nI (pop ((g10 j11) ^^^ (g17 j3))))))) (Or.inl ⟨_, rfl, by decide +kernel, _, rfl, rfl⟩) (k7 c1_0 c1_1 c1_2 c1_3 c1_4)
    )
  
section S15
variable {G : ev_G} {d : Nat} {h : ev_H} {R : Option Value → ev_H → Prop} {a f : Nat} {S : AS} {fl : List AStp}
theorem nI3 {a : Nat} (h : a < 100) (k : Nat) (hk : k < 100) : nI a = nI k ↔ a = k := nI_eq (by omega) (by omega)
theorem s_Fi_valueOf (hF : FiR h f fl) (hS : StR h a S) (ok : sOk S) {c i : Nat} {s : AStp} (hc : c < sN S) (hi : fl[i]? = some s) (hs : stpOk s) (hlen : fl.length ≤ 300) (h3 : 3 ≤ s.1) (hR : R (some (.int (nI (vlN S c s)))) h) : Ev G (d + 2) 0 0 M_Fi_valueOf 0 [.ref f, .ref a, .int (nI c), .int (nI i), ev_unk] [] h R := by
  have hS0 := hS
  obtain ⟨brf, tgf, cof, fv, t1, t2, t3, t4, e1, e2, -⟩ := hS
  obtain ⟨f0, ks, ss, ps, bs, frs, f1, f2, f3, f4, f5, hst⟩ := hF
  obtain ⟨g1, g2, g3, g4, g5⟩ := hst i s hi
  have hil : i < fl.length := (List.getElem?_eq_some_iff.mp hi).1
  have hz := ok.2.2.2.2.1
  have hz2 := ok.2.2.2.1
  have hk := hs.1
  have hix : ev_ix (nI i) i fl.length := ixn hil (by omega)
  have hcx : ev_ix (nI c) c 32 := ixn (by omega) (by decide)
  have w : ∀ k : Nat, k < 100 → (ks i = nI k ↔ s.1 = k) := fun k hk => by rw [g1]; exact nI3 (by omega) k hk
  refine b_Fi_valueOf_0 f0 f3 f1 t1 t3 t4 f5 (S13 := S) (c_14 := c) (p_15 := s.2.2.1) hix hix (fun _ => hcx) (fun _ => hcx) (fun _ => hcx) (fun _ _ => hS0) (fun _ _ => ok) (fun _ _ => ⟨rfl, hc⟩) (fun _ q => ⟨g3, ?_⟩) (fun _ _ _ _ _ => hcx) (fun _ _ _ _ _ => hix) (fun q => ?_) (fun q => ?_) (fun q => ?_) (fun q => ?_) (fun q q2 => ?_) (fun q q2 => ?_) (fun q q2 q3 q4 q5 => ?_)
  · rw [g3] at q; exact (nI_ltI (by have := hs.2.2.1; omega) (by omega)).mp q
  · have := (w 3 (by decide)).mp q
    unfold vlN at hR; rw [if_pos this] at hR; rw [(e2 c hc).1]; exact hR
  · have := (w 4 (by decide)).mp q
    unfold vlN at hR; rw [if_neg (by omega), if_pos this] at hR; rw [(e2 c hc).2]; exact hR
  · have := (w 5 (by decide)).mp q
    unfold vlN at hR; rw [if_neg (by omega), if_neg (by omega), if_pos this] at hR; exact hR
  · have := (w 6 (by decide)).mp q
    unfold vlN at hR; rw [if_neg (by omega), if_neg (by omega), if_neg (by omega), if_pos this] at hR
    rw [(e2 c hc).1, g3, tbL_n (by have := hs.2.2.1; omega)]
    cases q9 : lt (sCo S c) s.2.2.1 <;> rw [q9] at hR <;> exact hR
  · have := (w 7 (by decide)).mp q
    rw [g3] at q2
    have hp := (nI_ltI (by have := hs.2.2.1; omega) (by omega)).mp q2
    unfold vlN at hR; rw [if_neg (by omega), if_neg (by omega), if_neg (by omega), if_neg (by omega), if_pos this, if_pos hp] at hR; exact hR
  · have := (w 7 (by decide)).mp q
    rw [g3] at q2
    have hp : ¬ s.2.2.1 < sP S := fun z => q2 (nI_lt z (by omega))
    unfold vlN at hR; rw [if_neg (by omega), if_neg (by omega), if_neg (by omega), if_neg (by omega), if_pos this, if_neg hp] at hR; exact hR
  · have q3' := fun z => q ((w 3 (by decide)).mpr z)
    have q4' := fun z => q2 ((w 4 (by decide)).mpr z)
    have q5' := fun z => q3 ((w 5 (by decide)).mpr z)
    have q6' := fun z => q4 ((w 6 (by decide)).mpr z)
    have q7' := fun z => q5 ((w 7 (by decide)).mpr z)
    unfold vlN at hR; rw [if_neg q3', if_neg q4', if_neg q5', if_neg q6', if_neg q7'] at hR
    rw [(e2 c hc).1, g5]; exact hR
theorem s_Fi_valueOf' {cI iI : Int32} {c i : Nat} {s : AStp} (hF : FiR h f fl) (hS : StR h a S) (ok : sOk S) (hc : cI = nI c ∧ c < sN S) (hi : iI = nI i ∧ fl[i]? = some s ∧ stpOk s ∧ fl.length ≤ 300 ∧ 3 ≤ s.1) (hR : R (some (.int (nI (vlN S c s)))) h) : Ev G (d + 2) 0 0 M_Fi_valueOf 0 [.ref f, .ref a, .int cI, .int iI, ev_unk] [] h R := by
  obtain ⟨rfl, hc⟩ := hc; obtain ⟨rfl, hi, hs, hl, h3⟩ := hi; exact s_Fi_valueOf hF hS ok hc hi hs hl h3 hR
theorem vlN_lt (ok : sOk S) {c : Nat} (hc : c < sN S) (s : AStp) : vlN S c s < 2147483648 := by
  have hz := ok.2.2.2.2.1
  unfold vlN
  split
  · have := pop_le (sCo S c); omega
  split
  · have := ok.2.2.2.2.2.2.1 c hc; omega
  split
  · omega
  split
  · split <;> omega
  split
  · split
    · rename_i hp
      have h1 := keyN_lt (sCo S c) (stt S s.2.2.1) (sBr S s.2.2.1)
      have h2 := ok.2.2.2.2.2.1 _ hp
      have : 2 ^ sBr S s.2.2.1 ≤ 2 ^ 24 := Nat.pow_le_pow_right (by decide) h2
      omega
    · omega
  · have := pop_le (sCo S c ^^^ s.2.2.2.2); omega
end S15
theorem b_Fi_holdsFact_0 {G : ev_G} {d k n : Nat} {h : ev_H} {R : Option Value → ev_H → Prop} {x0 : Nat} {x1 : Nat} {x2 : Int32} {x3 : Int32} {S1 : AS} {L2 : List AStp} {c_3 : Nat} {i_4 : Nat} {s_5 : AStp} {N6 : Nat} {g7 : Nat → Int32} {j8 : Nat} {N9 : Nat} {g10 : Nat → Int32}
  (a7 : hat h x0 (oC 1 [.ref (x0 + 1), .ref (x0 + 2), .ref (x0 + 3), .ref (x0 + 4), .ref (x0 + 5)]))
  (a8 : hat h (x0 + 2) (aI N6 g7))
  (a10 : hat h (x0 + 4) (aI N9 g10))
  (pr1 : FiR h x0 L2)
  (pr2 : StR h x1 S1)
  (pr3 : sOk S1)
  (pr4 : x2 = nI c_3 ∧ c_3 < sN S1)
  (pr5 : x3 = nI i_4 ∧ L2[i_4]? = some s_5 ∧ stpOk s_5 ∧ L2.length ≤ 300 ∧ 3 ≤ s_5.1)
  (r6 : ∃ fs, hat h x0 (oC 1 fs))
  (i9 : ev_ix x3 j8 N6)
  (i11 : (g7 j8) = (60 : Int32) → ev_ix x3 j8 N9)
  (i12 : ¬ (g7 j8) = (60 : Int32) → ev_ix x3 j8 N6)
  (i13 : ¬ (g7 j8) = (60 : Int32) → (g7 j8) = (61 : Int32) → ev_ix x3 j8 N9)
  (i14 : ¬ (g7 j8) = (60 : Int32) → ¬ (g7 j8) = (61 : Int32) → ev_ix x3 j8 N9)
  (k1 : (g7 j8) = (60 : Int32) → (nI (vlN S1 c_3 s_5)) < (g10 j8) → R (some (.int (1 : Int32))) h)
  (k2 : (g7 j8) = (60 : Int32) → ¬ (nI (vlN S1 c_3 s_5)) < (g10 j8) → R (some (.int (0 : Int32))) h)
  (k3 : ¬ (g7 j8) = (60 : Int32) → (g7 j8) = (61 : Int32) → (nI (vlN S1 c_3 s_5)) = (g10 j8) → R (some (.int (1 : Int32))) h)
  (k4 : ¬ (g7 j8) = (60 : Int32) → (g7 j8) = (61 : Int32) → ¬ (nI (vlN S1 c_3 s_5)) = (g10 j8) → R (some (.int (0 : Int32))) h)
  (k5 : ¬ (g7 j8) = (60 : Int32) → ¬ (g7 j8) = (61 : Int32) → (g10 j8) < (nI (vlN S1 c_3 s_5)) → R (some (.int (1 : Int32))) h)
  (k6 : ¬ (g7 j8) = (60 : Int32) → ¬ (g7 j8) = (61 : Int32) → ¬ (g10 j8) < (nI (vlN S1 c_3 s_5)) → R (some (.int (0 : Int32))) h)
  : Ev G (d + 3) k n M_Fi_holdsFact 0 [.ref x0, .ref x1, .int x2, .int x3, ev_unk] [] h R :=
  Ev.go (pc' := 4) (ls' := [.ref x0, .ref x1, .int x2, .int x3, ev_unk]) (st' := [.int x3, .int x2, .ref x1, .ref x0]) [.aload_n 0, .aload_n 1, .iload_n 2, .iload_n 3] (by decide +kernel) rfl <|
  Ev.cV0 (M' := M_Fi_valueOf) (as := [.ref x1, .int x2, .int x3]) (rest := []) l_Fi_50 M_Fi_valueOf_ok M_Fi_valueOf_in M_Fi_valueOf_se (by decide +kernel) r6 rfl rfl rfl (Nat.le_of_ble_eq_true rfl) (Nat.le_of_ble_eq_true rfl) (s_Fi_valueOf' pr1 pr2 pr3 pr4 pr5 <| show Ev G (d + 3) _ _ M_Fi_holdsFact 7 [.ref x0, .ref x1, .int x2, .int x3, ev_unk] [.int (nI (vlN S1 c_3 s_5))] h R from
    Ev.go (pc' := 10) (ls' := [.ref x0, .ref x1, .int x2, .int x3, .int (nI (vlN S1 c_3 s_5))]) (st' := [.ref x0]) [.istore 4, .aload_n 0] (by decide +kernel) rfl <|
    Ev.getf f_Fi_29 (by decide +kernel) a7 rfl <|
    Ev.go (pc' := 14) (ls' := [.ref x0, .ref x1, .int x2, .int x3, .int (nI (vlN S1 c_3 s_5))]) (st' := [.int x3, .ref (x0 + 2)]) [.iload_n 3] (by decide +kernel) rfl <|
    Ev.iald (j := j8) (by decide +kernel) a8 i9 <|
    Ev.go (pc' := 17) (ls' := [.ref x0, .ref x1, .int x2, .int x3, .int (nI (vlN S1 c_3 s_5))]) (st' := [.int (60 : Int32), .int (g7 j8)]) [.bipush (60)] (by decide +kernel) rfl <|
    Ev.br (i := .if_icmp .ne (20)) (P := (g7 j8) = (60 : Int32)) (t := 20) (f := 37) (r := []) (by decide +kernel) rfl (fun c1 =>
      Ev.go (pc' := 23) (ls' := [.ref x0, .ref x1, .int x2, .int x3, .int (nI (vlN S1 c_3 s_5))]) (st' := [.ref x0, .int (nI (vlN S1 c_3 s_5))]) [.iload 4, .aload_n 0] (by decide +kernel) rfl <|
      Ev.getf f_Fi_37 (by decide +kernel) a7 rfl <|
      Ev.go (pc' := 27) (ls' := [.ref x0, .ref x1, .int x2, .int x3, .int (nI (vlN S1 c_3 s_5))]) (st' := [.int x3, .ref (x0 + 4), .int (nI (vlN S1 c_3 s_5))]) [.iload_n 3] (by decide +kernel) rfl <|
      Ev.iald (j := j8) (by decide +kernel) a10 (i11 c1) <|
      Ev.br (i := .if_icmp .ge (7)) (P := (nI (vlN S1 c_3 s_5)) < (g10 j8)) (t := 31) (f := 35) (r := []) (by decide +kernel) rfl (fun c2 =>
        Ev.go (pc' := 36) (ls' := [.ref x0, .ref x1, .int x2, .int x3, .int (nI (vlN S1 c_3 s_5))]) (st' := [.int (1 : Int32)]) [.iconst 1, .goto (4)] (by decide +kernel) rfl <|
        Ev.ret (r := (some (.int (1 : Int32)))) (Or.inl ⟨_, rfl, by decide +kernel, _, rfl, rfl⟩) (k1 c1 c2)
      ) (fun c2 =>
        Ev.go (pc' := 36) (ls' := [.ref x0, .ref x1, .int x2, .int x3, .int (nI (vlN S1 c_3 s_5))]) (st' := [.int (0 : Int32)]) [.iconst 0] (by decide +kernel) rfl <|
        Ev.ret (r := (some (.int (0 : Int32)))) (Or.inl ⟨_, rfl, by decide +kernel, _, rfl, rfl⟩) (k2 c1 c2)
      )
    ) (fun c1 =>
      Ev.go (pc' := 38) (ls' := [.ref x0, .ref x1, .int x2, .int x3, .int (nI (vlN S1 c_3 s_5))]) (st' := [.ref x0]) [.aload_n 0] (by decide +kernel) rfl <|
      Ev.getf f_Fi_29 (by decide +kernel) a7 rfl <|
      Ev.go (pc' := 42) (ls' := [.ref x0, .ref x1, .int x2, .int x3, .int (nI (vlN S1 c_3 s_5))]) (st' := [.int x3, .ref (x0 + 2)]) [.iload_n 3] (by decide +kernel) rfl <|
      Ev.iald (j := j8) (by decide +kernel) a8 (i12 c1) <|
      Ev.go (pc' := 45) (ls' := [.ref x0, .ref x1, .int x2, .int x3, .int (nI (vlN S1 c_3 s_5))]) (st' := [.int (61 : Int32), .int (g7 j8)]) [.bipush (61)] (by decide +kernel) rfl <|
      Ev.br (i := .if_icmp .ne (22)) (P := (g7 j8) = (61 : Int32)) (t := 48) (f := 67) (r := []) (by decide +kernel) rfl (fun c2 =>
        Ev.go (pc' := 51) (ls' := [.ref x0, .ref x1, .int x2, .int x3, .int (nI (vlN S1 c_3 s_5))]) (st' := [.ref x0, .int (nI (vlN S1 c_3 s_5))]) [.iload 4, .aload_n 0] (by decide +kernel) rfl <|
        Ev.getf f_Fi_37 (by decide +kernel) a7 rfl <|
        Ev.go (pc' := 55) (ls' := [.ref x0, .ref x1, .int x2, .int x3, .int (nI (vlN S1 c_3 s_5))]) (st' := [.int x3, .ref (x0 + 4), .int (nI (vlN S1 c_3 s_5))]) [.iload_n 3] (by decide +kernel) rfl <|
        Ev.iald (j := j8) (by decide +kernel) a10 (i13 c1 c2) <|
        Ev.br (i := .if_icmp .ne (7)) (P := (nI (vlN S1 c_3 s_5)) = (g10 j8)) (t := 59) (f := 63) (r := []) (by decide +kernel) rfl (fun c3 =>
          Ev.go (pc' := 83) (ls' := [.ref x0, .ref x1, .int x2, .int x3, .int (nI (vlN S1 c_3 s_5))]) (st' := [.int (1 : Int32)]) [.iconst 1, .goto (23)] (by decide +kernel) rfl <|
          Ev.ret (r := (some (.int (1 : Int32)))) (Or.inl ⟨_, rfl, by decide +kernel, _, rfl, rfl⟩) (k3 c1 c2 c3)
        ) (fun c3 =>
          Ev.go (pc' := 83) (ls' := [.ref x0, .ref x1, .int x2, .int x3, .int (nI (vlN S1 c_3 s_5))]) (st' := [.int (0 : Int32)]) [.iconst 0, .goto (19)] (by decide +kernel) rfl <|
          Ev.ret (r := (some (.int (0 : Int32)))) (Or.inl ⟨_, rfl, by decide +kernel, _, rfl, rfl⟩) (k4 c1 c2 c3)
        )
      ) (fun c2 =>
        Ev.go (pc' := 70) (ls' := [.ref x0, .ref x1, .int x2, .int x3, .int (nI (vlN S1 c_3 s_5))]) (st' := [.ref x0, .int (nI (vlN S1 c_3 s_5))]) [.iload 4, .aload_n 0] (by decide +kernel) rfl <|
        Ev.getf f_Fi_37 (by decide +kernel) a7 rfl <|
        Ev.go (pc' := 74) (ls' := [.ref x0, .ref x1, .int x2, .int x3, .int (nI (vlN S1 c_3 s_5))]) (st' := [.int x3, .ref (x0 + 4), .int (nI (vlN S1 c_3 s_5))]) [.iload_n 3] (by decide +kernel) rfl <|
        Ev.iald (j := j8) (by decide +kernel) a10 (i14 c1 c2) <|
        Ev.br (i := .if_icmp .le (7)) (P := (g10 j8) < (nI (vlN S1 c_3 s_5))) (t := 78) (f := 82) (r := []) (by decide +kernel) rfl (fun c3 =>
          Ev.go (pc' := 83) (ls' := [.ref x0, .ref x1, .int x2, .int x3, .int (nI (vlN S1 c_3 s_5))]) (st' := [.int (1 : Int32)]) [.iconst 1, .goto (4)] (by decide +kernel) rfl <|
          Ev.ret (r := (some (.int (1 : Int32)))) (Or.inl ⟨_, rfl, by decide +kernel, _, rfl, rfl⟩) (k5 c1 c2 c3)
        ) (fun c3 =>
          Ev.go (pc' := 83) (ls' := [.ref x0, .ref x1, .int x2, .int x3, .int (nI (vlN S1 c_3 s_5))]) (st' := [.int (0 : Int32)]) [.iconst 0] (by decide +kernel) rfl <|
          Ev.ret (r := (some (.int (0 : Int32)))) (Or.inl ⟨_, rfl, by decide +kernel, _, rfl, rfl⟩) (k6 c1 c2 c3)
        )
      )
    )
  )
section S15
variable {G : ev_G} {d : Nat} {h : ev_H} {R : Option Value → ev_H → Prop} {a f : Nat} {S : AS} {fl : List AStp}
theorem s_Fi_holdsFact {cI iI : Int32} {c i : Nat} {s : AStp} (hF : FiR h f fl) (hS : StR h a S) (ok : sOk S) (hc : cI = nI c ∧ c < sN S) (hi : iI = nI i ∧ fl[i]? = some s ∧ stpOk s ∧ fl.length ≤ 300 ∧ 3 ≤ s.1) (hR : R (some (.int (b2i (fcB S c s)))) h) : Ev G (d + 3) 0 0 M_Fi_holdsFact 0 [.ref f, .ref a, .int cI, .int iI, ev_unk] [] h R := by
  have hF0 := hF
  obtain ⟨f0, ks, ss, ps, bs, frs, f1, f2, f3, f4, f5, hst⟩ := hF
  obtain ⟨g1, g2, g3, g4, g5⟩ := hst i s hi.2.1
  have hil : i < fl.length := (List.getElem?_eq_some_iff.mp hi.2.1).1
  have hix : ev_ix iI i fl.length := by rw [hi.1]; exact ixn hil (by have := hi.2.2.2.1; omega)
  have hv := vlN_lt ok hc.2 s
  have hs := hi.2.2.1
  have w : ∀ k : Nat, k < 100 → (ss i = nI k ↔ s.2.1 = k) := fun k hk => by rw [g2]; exact nI3 hs.2.1 k hk
  have u : ∀ x : Nat, x < 2147483648 → (nI x < bs i ↔ x < s.2.2.2.1) := fun x hx => by rw [g4]; exact nI_ltI hx (by have := hs.2.2.2; omega)
  have u' : bs i < nI (vlN S c s) ↔ s.2.2.2.1 < vlN S c s := by rw [g4]; exact nI_ltI (by have := hs.2.2.2; omega) hv
  refine b_Fi_holdsFact_0 f0 f2 f4 hF0 hS ok hc hi ⟨_, f0⟩ hix (fun _ => hix) (fun _ => hix) (fun _ _ => hix) (fun _ _ => hix) (fun q q2 => ?_) (fun q q2 => ?_) (fun q q3 q2 => ?_) (fun q q3 q2 => ?_) (fun q q3 q2 => ?_) (fun q q3 q2 => ?_)
  · unfold fcB at hR; rw [if_pos ((w 60 (by decide)).mp q), decide_eq_true ((u _ hv).mp q2)] at hR; exact hR
  · unfold fcB at hR; rw [if_pos ((w 60 (by decide)).mp q), decide_eq_false (fun z => q2 ((u _ hv).mpr z))] at hR; exact hR
  · unfold fcB at hR; rw [if_neg (fun z => q ((w 60 (by decide)).mpr z)), if_pos ((w 61 (by decide)).mp q3), decide_eq_true ((nI_eq (by omega) (by have := hs.2.2.2; omega)).mp (q2.trans g4))] at hR; exact hR
  · unfold fcB at hR; rw [if_neg (fun z => q ((w 60 (by decide)).mpr z)), if_pos ((w 61 (by decide)).mp q3), decide_eq_false (fun z => q2 (by rw [g4, z]))] at hR; exact hR
  · unfold fcB at hR; rw [if_neg (fun z => q ((w 60 (by decide)).mpr z)), if_neg (fun z => q3 ((w 61 (by decide)).mpr z)), decide_eq_true (u'.mp q2)] at hR; exact hR
  · unfold fcB at hR; rw [if_neg (fun z => q ((w 60 (by decide)).mpr z)), if_neg (fun z => q3 ((w 61 (by decide)).mpr z)), decide_eq_false (fun z => q2 (u'.mpr z))] at hR; exact hR
end S15
theorem b_Fi_holds_0 {G : ev_G} {d k n : Nat} {h : ev_H} {R : Option Value → ev_H → Prop} {x0 : Nat} {x1 : Nat} {x2 : Int32}
  (k1 : Ev G (d + 1) k n M_Fi_holds 5 [.ref x0, .ref x1, .int x2, .int (0 : Int32), .int (0 : Int32), ev_unk, ev_unk] [] h R)
  : Ev G (d + 1) k n M_Fi_holds 0 [.ref x0, .ref x1, .int x2, ev_unk, ev_unk, ev_unk, ev_unk] [] h R :=
  Ev.go (pc' := 5) (ls' := [.ref x0, .ref x1, .int x2, .int (0 : Int32), .int (0 : Int32), ev_unk, ev_unk]) (st' := []) [.iconst 0, .istore_n 3, .iconst 0, .istore 4] (by decide +kernel) rfl <|
  k1
theorem b_Fi_holds_5 {G : ev_G} {d k n : Nat} {h : ev_H} {R : Option Value → ev_H → Prop} {x0 : Nat} {x1 : Nat} {x2 : Int32} {x3 : Int32} {x4 : Int32} {N1 : Nat} {g2 : Nat → Int32} {j3 : Nat}
  (a1 : hat h x0 (oC 1 [.ref (x0 + 1), .ref (x0 + 2), .ref (x0 + 3), .ref (x0 + 4), .ref (x0 + 5)]))
  (a2 : hat h (x0 + 1) (aI N1 g2))
  (i3 : x4 < (nI N1) → ev_ix x4 j3 N1)
  (k1 : x4 < (nI N1) → (g2 j3) = (0 : Int32) → Ev G (d + 1) k n M_Fi_holds 5 [.ref x0, .ref x1, .int x2, .int (x3 ^^^ (1 : Int32)), .int (x4 + (1 : Int32)), ev_unk, ev_unk] [] h R)
  (k2 : x4 < (nI N1) → (g2 j3) = (1 : Int32) → (x3 &&& (1 : Int32)) = (1 : Int32) → Ev G (d + 1) k n M_Fi_holds 5 [.ref x0, .ref x1, .int x2, .int ((x3.toUInt32 >>> ((1 : Int32).toUInt32 &&& Int32.toUInt32 31)).toInt32), .int (x4 + (1 : Int32)), ev_unk, ev_unk] [] h R)
  (k3 : x4 < (nI N1) → (g2 j3) = (1 : Int32) → ¬ (x3 &&& (1 : Int32)) = (1 : Int32) → Ev G (d + 1) k n M_Fi_holds 5 [.ref x0, .ref x1, .int x2, .int (((x3.toUInt32 >>> ((1 : Int32).toUInt32 &&& Int32.toUInt32 31)).toInt32) &&& (-2 : Int32)), .int (x4 + (1 : Int32)), ev_unk, ev_unk] [] h R)
  (k4 : x4 < (nI N1) → (g2 j3) = (2 : Int32) → Ev G (d + 1) k n M_Fi_holds 5 [.ref x0, .ref x1, .int x2, .int (((x3.toUInt32 >>> ((1 : Int32).toUInt32 &&& Int32.toUInt32 31)).toInt32) ||| (x3 &&& (1 : Int32))), .int (x4 + (1 : Int32)), ev_unk, ev_unk] [] h R)
  (k5 : x4 < (nI N1) → ¬ (g2 j3) = (0 : Int32) → ¬ (g2 j3) = (1 : Int32) → ¬ (g2 j3) = (2 : Int32) → Ev G d 0 0 M_Fi_holdsFact 0 [.ref x0, .ref x1, .int x2, .int x4, ev_unk] [] h (fun r h1 => Ev G (d + 1) k n M_Fi_holds 107 [.ref x0, .ref x1, .int x2, .int x3, .int x4, .int (x3 &&& (1 : Int32)), .int ((x3.toUInt32 >>> ((1 : Int32).toUInt32 &&& Int32.toUInt32 31)).toInt32)] (r.toList ++ [.int (x3 <<< ((1 : Int32) &&& 31))]) h1 R))
  (k6 : ¬ x4 < (nI N1) → (x3 &&& (1 : Int32)) = (1 : Int32) → R (some (.int (1 : Int32))) h)
  (k7 : ¬ x4 < (nI N1) → ¬ (x3 &&& (1 : Int32)) = (1 : Int32) → R (some (.int (0 : Int32))) h)
  : Ev G (d + 1) k n M_Fi_holds 5 [.ref x0, .ref x1, .int x2, .int x3, .int x4, ev_unk, ev_unk] [] h R :=
  Ev.go (pc' := 8) (ls' := [.ref x0, .ref x1, .int x2, .int x3, .int x4, ev_unk, ev_unk]) (st' := [.ref x0, .int x4]) [.iload 4, .aload_n 0] (by decide +kernel) rfl <|
  Ev.getf f_Fi_23 (by decide +kernel) a1 rfl <|
  Ev.alen (by decide +kernel) a2 (by decide) <|
  Ev.br (i := .if_icmp .ge (111)) (P := x4 < (nI N1)) (t := 15) (f := 123) (r := []) (by decide +kernel) rfl (fun c1 =>
    Ev.go (pc' := 26) (ls' := [.ref x0, .ref x1, .int x2, .int x3, .int x4, .int (x3 &&& (1 : Int32)), .int ((x3.toUInt32 >>> ((1 : Int32).toUInt32 &&& Int32.toUInt32 31)).toInt32)]) (st' := [.ref x0]) [.iload_n 3, .iconst 1, .iand, .istore 5, .iload_n 3, .iconst 1, .iushr, .istore 6, .aload_n 0] (by decide +kernel) rfl <|
    Ev.getf f_Fi_23 (by decide +kernel) a1 rfl <|
    Ev.go (pc' := 31) (ls' := [.ref x0, .ref x1, .int x2, .int x3, .int x4, .int (x3 &&& (1 : Int32)), .int ((x3.toUInt32 >>> ((1 : Int32).toUInt32 &&& Int32.toUInt32 31)).toInt32)]) (st' := [.int x4, .ref (x0 + 1)]) [.iload 4] (by decide +kernel) rfl <|
    Ev.iald (j := j3) (by decide +kernel) a2 (i3 c1) <|
    if c2_0 : (g2 j3) = (0 : Int32) then Ev.tsw (t := 60) (off := 28) (o := 64) (lo := 0) (hi := 2) (offs := #[28, 35, 55]) (len := 28) (by decide +kernel) (by rw [c2_0]; decide) (by rw [c2_0]; decide) (by rw [c2_0]; decide) rfl <|
      Ev.go (pc' := 5) (ls' := [.ref x0, .ref x1, .int x2, .int (x3 ^^^ (1 : Int32)), .int (x4 + (1 : Int32)), .int (x3 &&& (1 : Int32)), .int ((x3.toUInt32 >>> ((1 : Int32).toUInt32 &&& Int32.toUInt32 31)).toInt32)]) (st' := []) [.iload_n 3, .iconst 1, .ixor, .istore_n 3, .goto (53), .iinc 4 (1), .goto (-115)] (by decide +kernel) rfl <|
      Ev.forget (ls' := [.ref x0, .ref x1, .int x2, .int (x3 ^^^ (1 : Int32)), .int (x4 + (1 : Int32)), ev_unk, ev_unk]) ⟨Or.inr rfl, Or.inr rfl, Or.inr rfl, Or.inr rfl, Or.inr rfl, Or.inl rfl, Or.inl rfl, trivial⟩ <|
      (k1 c1 c2_0)
    else
    if c2_1 : (g2 j3) = (1 : Int32) then Ev.tsw (t := 67) (off := 35) (o := 64) (lo := 0) (hi := 2) (offs := #[28, 35, 55]) (len := 28) (by decide +kernel) (by rw [c2_1]; decide) (by rw [c2_1]; decide) (by rw [c2_1]; decide) rfl <|
      Ev.go (pc' := 70) (ls' := [.ref x0, .ref x1, .int x2, .int x3, .int x4, .int (x3 &&& (1 : Int32)), .int ((x3.toUInt32 >>> ((1 : Int32).toUInt32 &&& Int32.toUInt32 31)).toInt32)]) (st' := [.int (1 : Int32), .int (x3 &&& (1 : Int32))]) [.iload 5, .iconst 1] (by decide +kernel) rfl <|
      Ev.br (i := .if_icmp .ne (8)) (P := (x3 &&& (1 : Int32)) = (1 : Int32)) (t := 73) (f := 78) (r := []) (by decide +kernel) rfl (fun c3 =>
        Ev.go (pc' := 5) (ls' := [.ref x0, .ref x1, .int x2, .int ((x3.toUInt32 >>> ((1 : Int32).toUInt32 &&& Int32.toUInt32 31)).toInt32), .int (x4 + (1 : Int32)), .int (x3 &&& (1 : Int32)), .int ((x3.toUInt32 >>> ((1 : Int32).toUInt32 &&& Int32.toUInt32 31)).toInt32)]) (st' := []) [.iload 6, .goto (8), .istore_n 3, .goto (33), .iinc 4 (1), .goto (-115)] (by decide +kernel) rfl <|
        Ev.forget (ls' := [.ref x0, .ref x1, .int x2, .int ((x3.toUInt32 >>> ((1 : Int32).toUInt32 &&& Int32.toUInt32 31)).toInt32), .int (x4 + (1 : Int32)), ev_unk, ev_unk]) ⟨Or.inr rfl, Or.inr rfl, Or.inr rfl, Or.inr rfl, Or.inr rfl, Or.inl rfl, Or.inl rfl, trivial⟩ <|
        (k2 c1 c2_1 c3)
      ) (fun c3 =>
        Ev.go (pc' := 5) (ls' := [.ref x0, .ref x1, .int x2, .int (((x3.toUInt32 >>> ((1 : Int32).toUInt32 &&& Int32.toUInt32 31)).toInt32) &&& (-2 : Int32)), .int (x4 + (1 : Int32)), .int (x3 &&& (1 : Int32)), .int ((x3.toUInt32 >>> ((1 : Int32).toUInt32 &&& Int32.toUInt32 31)).toInt32)]) (st' := []) [.iload 6, .bipush (-2), .iand, .istore_n 3, .goto (33), .iinc 4 (1), .goto (-115)] (by decide +kernel) rfl <|
        Ev.forget (ls' := [.ref x0, .ref x1, .int x2, .int (((x3.toUInt32 >>> ((1 : Int32).toUInt32 &&& Int32.toUInt32 31)).toInt32) &&& (-2 : Int32)), .int (x4 + (1 : Int32)), ev_unk, ev_unk]) ⟨Or.inr rfl, Or.inr rfl, Or.inr rfl, Or.inr rfl, Or.inr rfl, Or.inl rfl, Or.inl rfl, trivial⟩ <|
        (k3 c1 c2_1 c3)
      )
    else
    if c2_2 : (g2 j3) = (2 : Int32) then Ev.tsw (t := 87) (off := 55) (o := 64) (lo := 0) (hi := 2) (offs := #[28, 35, 55]) (len := 28) (by decide +kernel) (by rw [c2_2]; decide) (by rw [c2_2]; decide) (by rw [c2_2]; decide) rfl <|
      Ev.go (pc' := 5) (ls' := [.ref x0, .ref x1, .int x2, .int (((x3.toUInt32 >>> ((1 : Int32).toUInt32 &&& Int32.toUInt32 31)).toInt32) ||| (x3 &&& (1 : Int32))), .int (x4 + (1 : Int32)), .int (x3 &&& (1 : Int32)), .int ((x3.toUInt32 >>> ((1 : Int32).toUInt32 &&& Int32.toUInt32 31)).toInt32)]) (st' := []) [.iload 6, .iload 5, .ior, .istore_n 3, .goto (24), .iinc 4 (1), .goto (-115)] (by decide +kernel) rfl <|
      Ev.forget (ls' := [.ref x0, .ref x1, .int x2, .int (((x3.toUInt32 >>> ((1 : Int32).toUInt32 &&& Int32.toUInt32 31)).toInt32) ||| (x3 &&& (1 : Int32))), .int (x4 + (1 : Int32)), ev_unk, ev_unk]) ⟨Or.inr rfl, Or.inr rfl, Or.inr rfl, Or.inr rfl, Or.inr rfl, Or.inl rfl, Or.inl rfl, trivial⟩ <|
      (k4 c1 c2_2)
    else
    Ev.tswd (t := 96) (o := 64) (lo := 0) (hi := 2) (offs := #[28, 35, 55]) (len := 28) (by decide +kernel) (by have qc2_0 := ne_i (v := 0) (0 : Int32) (by decide) c2_0; have qc2_1 := ne_i (v := 1) (1 : Int32) (by decide) c2_1; have qc2_2 := ne_i (v := 2) (2 : Int32) (by decide) c2_2; omega) rfl <|
      Ev.go (pc' := 104) (ls' := [.ref x0, .ref x1, .int x2, .int x3, .int x4, .int (x3 &&& (1 : Int32)), .int ((x3.toUInt32 >>> ((1 : Int32).toUInt32 &&& Int32.toUInt32 31)).toInt32)]) (st' := [.int x4, .int x2, .ref x1, .ref x0, .int (x3 <<< ((1 : Int32) &&& 31))]) [.iload_n 3, .iconst 1, .ishl, .aload_n 0, .aload_n 1, .iload_n 2, .iload 4] (by decide +kernel) rfl <|
      Ev.cV0 (M' := M_Fi_holdsFact) (as := [.ref x1, .int x2, .int x4]) (rest := [.int (x3 <<< ((1 : Int32) &&& 31))]) l_Fi_46 M_Fi_holdsFact_ok M_Fi_holdsFact_in M_Fi_holdsFact_se (by decide +kernel) ⟨_, a1⟩ rfl rfl rfl (Nat.le_of_ble_eq_true rfl) (Nat.le_of_ble_eq_true rfl) (k5 c1 c2_0 c2_1 c2_2)
    
  ) (fun c1 =>
    Ev.go (pc' := 127) (ls' := [.ref x0, .ref x1, .int x2, .int x3, .int x4, ev_unk, ev_unk]) (st' := [.int (1 : Int32), .int (x3 &&& (1 : Int32))]) [.iload_n 3, .iconst 1, .iand, .iconst 1] (by decide +kernel) rfl <|
    Ev.br (i := .if_icmp .ne (7)) (P := (x3 &&& (1 : Int32)) = (1 : Int32)) (t := 130) (f := 134) (r := []) (by decide +kernel) rfl (fun c2 =>
      Ev.go (pc' := 135) (ls' := [.ref x0, .ref x1, .int x2, .int x3, .int x4, ev_unk, ev_unk]) (st' := [.int (1 : Int32)]) [.iconst 1, .goto (4)] (by decide +kernel) rfl <|
      Ev.ret (r := (some (.int (1 : Int32)))) (Or.inl ⟨_, rfl, by decide +kernel, _, rfl, rfl⟩) (k6 c1 c2)
    ) (fun c2 =>
      Ev.go (pc' := 135) (ls' := [.ref x0, .ref x1, .int x2, .int x3, .int x4, ev_unk, ev_unk]) (st' := [.int (0 : Int32)]) [.iconst 0] (by decide +kernel) rfl <|
      Ev.ret (r := (some (.int (0 : Int32)))) (Or.inl ⟨_, rfl, by decide +kernel, _, rfl, rfl⟩) (k7 c1 c2)
    )
  )
theorem b_Fi_holds_107 {G : ev_G} {d k n : Nat} {h : ev_H} {R : Option Value → ev_H → Prop} {x0 : Nat} {x1 : Nat} {x2 : Int32} {x3 : Int32} {x4 : Int32} {x5 : Int32} {x6 : Int32} {y0 : Int32} {y1 : Int32}
  (k1 : y1 = (0 : Int32) → Ev G (d + 1) k n M_Fi_holds 5 [.ref x0, .ref x1, .int x2, .int (y0 ||| (0 : Int32)), .int (x4 + (1 : Int32)), ev_unk, ev_unk] [] h R)
  (k2 : ¬ y1 = (0 : Int32) → Ev G (d + 1) k n M_Fi_holds 5 [.ref x0, .ref x1, .int x2, .int (y0 ||| (1 : Int32)), .int (x4 + (1 : Int32)), ev_unk, ev_unk] [] h R)
  : Ev G (d + 1) k n M_Fi_holds 107 [.ref x0, .ref x1, .int x2, .int x3, .int x4, .int x5, .int x6] [.int y1, .int y0] h R :=
  Ev.br (i := .ifCond .eq (7)) (P := y1 = (0 : Int32)) (t := 114) (f := 110) (r := [.int y0]) (by decide +kernel) rfl (fun c1 =>
    Ev.go (pc' := 5) (ls' := [.ref x0, .ref x1, .int x2, .int (y0 ||| (0 : Int32)), .int (x4 + (1 : Int32)), .int x5, .int x6]) (st' := []) [.iconst 0, .ior, .istore_n 3, .iinc 4 (1), .goto (-115)] (by decide +kernel) rfl <|
    Ev.forget (ls' := [.ref x0, .ref x1, .int x2, .int (y0 ||| (0 : Int32)), .int (x4 + (1 : Int32)), ev_unk, ev_unk]) ⟨Or.inr rfl, Or.inr rfl, Or.inr rfl, Or.inr rfl, Or.inr rfl, Or.inl rfl, Or.inl rfl, trivial⟩ <|
    (k1 c1)
  ) (fun c1 =>
    Ev.go (pc' := 5) (ls' := [.ref x0, .ref x1, .int x2, .int (y0 ||| (1 : Int32)), .int (x4 + (1 : Int32)), .int x5, .int x6]) (st' := []) [.iconst 1, .goto (4), .ior, .istore_n 3, .iinc 4 (1), .goto (-115)] (by decide +kernel) rfl <|
    Ev.forget (ls' := [.ref x0, .ref x1, .int x2, .int (y0 ||| (1 : Int32)), .int (x4 + (1 : Int32)), ev_unk, ev_unk]) ⟨Or.inr rfl, Or.inr rfl, Or.inr rfl, Or.inr rfl, Or.inr rfl, Or.inl rfl, Or.inl rfl, trivial⟩ <|
    (k2 c1)
  )
section S15
variable {G : ev_G} {d : Nat} {h : ev_H} {R : Option Value → ev_H → Prop} {a f : Nat} {S : AS} {fl : List AStp}
theorem evP_succ {i : Nat} {c : Nat} {s : AStp} (hg : fl[i]? = some s) : evP S c fl (i + 1) = stp1 S c s (evP S c fl i) := by
  show (match fl[i]? with
      | some s => stp1 S c s (evP S c fl i)
      | none => evP S c fl i) = _
  rw [hg]
theorem stp1_0 {s : AStp} {c : Nat} {b : Bool} {r : List Bool} (e : s.1 = 0) : stp1 S c s (b :: r) = (!b) :: r := by unfold stp1; rw [if_pos e]
theorem stp1_1 {s : AStp} {c : Nat} {y x : Bool} {r : List Bool} (e : s.1 = 1) : stp1 S c s (y :: x :: r) = (x && y) :: r := by unfold stp1; rw [if_neg (by omega), if_pos e]
theorem stp1_2 {s : AStp} {c : Nat} {y x : Bool} {r : List Bool} (e : s.1 = 2) : stp1 S c s (y :: x :: r) = (x || y) :: r := by unfold stp1; rw [if_neg (by omega), if_neg (by omega), if_pos e]
theorem stp1_3 {s : AStp} {c : Nat} {l : List Bool} (e : 3 ≤ s.1) : stp1 S c s l = fcB S c s :: l := by unfold stp1; rw [if_neg (by omega), if_neg (by omega), if_neg (by omega)]
theorem s_Fi_holds {cI : Int32} {cc : Nat} (hF : FiR h f fl) (hS : StR h a S) (ok : sOk S) (hok : flOk fl) (hc : cI = nI cc ∧ cc < sN S) (hR : R (some (.int (b2i ((evP S cc fl fl.length).headD false)))) h) : Ev G (d + 4) 0 0 M_Fi_holds 0 [.ref f, .ref a, .int cI, ev_unk, ev_unk, ev_unk, ev_unk] [] h R := by
  have hF0 := hF
  obtain ⟨f0, ks, ss, ps, bs, frs, f1, f2, f3, f4, f5, hst⟩ := hF
  have hl3 := hok.1
  refine b_Fi_holds_0 ?_
  have := up0 (P := fun i => Ev G (d + 4) 0 0 M_Fi_holds 5 [.ref f, .ref a, .int cI, .int (stI (evP S cc fl i)), .int (nI i), ev_unk, ev_unk] [] h R) fl.length ?_ ?_
  · rw [← stI_nil]; exact this
  · intro i hi ih
    have hg : fl[i]? = some fl[i] := List.getElem?_eq_getElem hi
    have hlt : nI i < nI fl.length := nI_lt hi (by omega)
    obtain ⟨g1, g2, g3, g4, g5⟩ := hst i _ hg
    obtain ⟨hs, q0, q1, hdp⟩ := hok.2.1 i _ hg
    have hlen := evP_len S cc hok i (by omega)
    rw [← hlen] at q0 q1 hdp
    rw [evP_succ hg] at ih
    have w : ∀ k : Nat, k < 100 → (ks i = nI k ↔ fl[i].1 = k) := fun k hk => by rw [g1]; exact nI3 (by have := hs.1; omega) k hk
    refine b_Fi_holds_5 f0 f1 (fun _ => ixn hi (by omega)) (fun _ c => ?_) (fun _ c c2 => ?_) (fun _ c c2 => ?_) (fun _ c => ?_) (fun _ c c2 c3 => ?_) (fun c => absurd hlt c) (fun c => absurd hlt c)
    · have e := (w 0 (by decide)).mp c
      match hm : evP S cc fl i, q0 e with
      | b :: r, _ =>
        rw [hm, stp1_0 e] at ih
        rw [stI_not, nI_1]; exact ih
    · have e := (w 1 (by decide)).mp c
      match hm : evP S cc fl i, q1 (Or.inl e) with
      | y :: x :: r, _ =>
        rw [hm, stp1_1 e] at ih
        rw [hm] at hdp c2
        rw [stI_top, b2i_1] at c2
        rw [c2, Bool.and_true] at ih
        rw [stI_rest _ (by simp at hdp ⊢; omega), nI_1]; exact ih
    · have e := (w 1 (by decide)).mp c
      match hm : evP S cc fl i, q1 (Or.inl e) with
      | y :: x :: r, _ =>
        rw [hm, stp1_1 e] at ih
        rw [hm] at hdp c2
        rw [stI_top, b2i_1] at c2
        have c2 : y = false := by cases y <;> simp_all
        rw [c2, Bool.and_false] at ih
        rw [stI_rest _ (by simp at hdp ⊢; omega), stI_and0, nI_1]; exact ih
    · have e := (w 2 (by decide)).mp c
      match hm : evP S cc fl i, q1 (Or.inr e) with
      | y :: x :: r, _ =>
        rw [hm, stp1_2 e] at ih
        rw [hm] at hdp
        rw [stI_rest _ (by simp at hdp ⊢; omega), stI_top, stI_or, nI_1]; exact ih
    · have h3 : 3 ≤ fl[i].1 := by
        have z0 : ¬ fl[i].1 = 0 := fun z => c ((w 0 (by decide)).mpr z)
        have z1 : ¬ fl[i].1 = 1 := fun z => c2 ((w 1 (by decide)).mpr z)
        have z2 : ¬ fl[i].1 = 2 := fun z => c3 ((w 2 (by decide)).mpr z)
        omega
      rw [stp1_3 h3] at ih
      refine s_Fi_holdsFact hF0 hS ok hc ⟨rfl, hg, hs, hl3, h3⟩ ?_
      show Ev G (d + 4) 0 0 M_Fi_holds 107 _ [.int (b2i (fcB S cc fl[i])), .int (stI (evP S cc fl i) <<< ((1 : Int32) &&& 31))] h R
      have hp := stI_push (fcB S cc fl[i]) (l := evP S cc fl i) (by omega)
      refine b_Fi_holds_107 (fun c => ?_) (fun c => ?_)
      · rw [b2i_e0 c] at ih hp
        rw [nI_1]; rw [← hp] at ih; exact ih
      · rw [b2i_n0 c] at ih hp
        rw [nI_1]; rw [← hp] at ih; exact ih
  · have hlen := evP_len S cc hok fl.length (Nat.le_refl _)
    rw [hok.2.2] at hlen
    match hm : evP S cc fl fl.length, hlen with
    | [b], _ =>
      rw [hm] at hR
      refine b_Fi_holds_5 f0 f1 (j3 := 0) (fun c => absurd c (nl_self (by omega))) (fun c => absurd c (nl_self (by omega))) (fun c => absurd c (nl_self (by omega))) (fun c => absurd c (nl_self (by omega))) (fun c => absurd c (nl_self (by omega))) (fun c => absurd c (nl_self (by omega))) (fun _ q => ?_) (fun _ q => ?_)
      · rw [stI_top, b2i_1] at q; rw [q] at hR; exact hR
      · rw [stI_top, b2i_1] at q; have q : b = false := by cases b <;> simp_all
        rw [q] at hR; exact hR
end S15
theorem b_St_counting_0n {G : ev_G} {d k n : Nat} {h : ev_H} {R : Option Value → ev_H → Prop} {x0 : Nat} {f_bits_1 : Int32} {f_parts_2 : Int32} {f_size_3 : Int32} {S4 : AS}
  (a1 : hat h x0 (oC 6 [.int f_bits_1, .int f_parts_2, .ref (x0 + 1), .int f_size_3, .ref (x0 + 2), .ref (x0 + 3), .null]))
  (pr2 : StR h x0 S4)
  (pr3 : sOk S4)
  (k1 : R (some (.int (setI (allP S4)))) h)
  : Ev G (d + 5) k n M_St_counting 0 [.ref x0, ev_unk, ev_unk] [] h R :=
  Ev.go (pc' := 1) (ls' := [.ref x0, ev_unk, ev_unk]) (st' := [.ref x0]) [.aload_n 0] (by decide +kernel) rfl <|
  Ev.getf f_St_32 (by decide +kernel) a1 rfl <|
  Ev.nnN (o := 8) (by decide +kernel) <|
  Ev.go (pc' := 8) (ls' := [.ref x0, ev_unk, ev_unk]) (st' := [.ref x0]) [.aload_n 0] (by decide +kernel) rfl <|
  Ev.cV0 (M' := M_St_all) (as := []) (rest := []) l_St_55 M_St_all_ok M_St_all_in M_St_all_se (by decide +kernel) ⟨_, a1⟩ rfl rfl rfl (Nat.le_of_ble_eq_true rfl) (Nat.le_of_ble_eq_true rfl) (s_St_all pr2 pr3 <| show Ev G (d + 5) _ _ M_St_counting 11 [.ref x0, ev_unk, ev_unk] [.int (setI (allP S4))] h R from
    Ev.ret (r := (some (.int (setI (allP S4))))) (Or.inl ⟨_, rfl, by decide +kernel, _, rfl, rfl⟩) k1
  )
theorem b_St_counting_0r {G : ev_G} {d k n : Nat} {h : ev_H} {R : Option Value → ev_H → Prop} {x0 : Nat} {f_bits_1 : Int32} {f_parts_2 : Int32} {f_size_3 : Int32} {ff4 : Nat}
  (a1 : hat h x0 (oC 6 [.int f_bits_1, .int f_parts_2, .ref (x0 + 1), .int f_size_3, .ref (x0 + 2), .ref (x0 + 3), .ref ff4]))
  (k1 : Ev G (d + 5) k n M_St_counting 16 [.ref x0, .int (0 : Int32), .int (0 : Int32)] [] h R)
  : Ev G (d + 5) k n M_St_counting 0 [.ref x0, ev_unk, ev_unk] [] h R :=
  Ev.go (pc' := 1) (ls' := [.ref x0, ev_unk, ev_unk]) (st' := [.ref x0]) [.aload_n 0] (by decide +kernel) rfl <|
  Ev.getf f_St_32 (by decide +kernel) a1 rfl <|
  Ev.nnR (t := 12) (o := 8) (by decide +kernel) rfl <|
  Ev.go (pc' := 16) (ls' := [.ref x0, .int (0 : Int32), .int (0 : Int32)]) (st' := []) [.iconst 0, .istore_n 1, .iconst 0, .istore_n 2] (by decide +kernel) rfl <|
  k1
theorem b_St_counting_16r {G : ev_G} {d k n : Nat} {h : ev_H} {R : Option Value → ev_H → Prop} {x0 : Nat} {x1 : Int32} {x2 : Int32} {f_bits_1 : Int32} {f_parts_2 : Int32} {f_size_3 : Int32} {ff4 : Nat} {S5 : AS} {L6 : List AStp} {c_7 : Nat}
  (a1 : hat h x0 (oC 6 [.int f_bits_1, .int f_parts_2, .ref (x0 + 1), .int f_size_3, .ref (x0 + 2), .ref (x0 + 3), .ref ff4]))
  (pr2 : x2 < f_size_3 → FiR h ff4 L6)
  (pr3 : x2 < f_size_3 → StR h x0 S5)
  (pr4 : x2 < f_size_3 → sOk S5)
  (pr5 : x2 < f_size_3 → flOk L6)
  (pr6 : x2 < f_size_3 → x2 = nI c_7 ∧ c_7 < sN S5)
  (r7 : x2 < f_size_3 → ∃ fs, hat h ff4 (oC 1 fs))
  (k1 : x2 < f_size_3 → (b2i ((evP S5 c_7 L6 L6.length).headD false)) = (0 : Int32) → Ev G (d + 5) k n M_St_counting 16 [.ref x0, .int x1, .int (x2 + (1 : Int32))] [] h R)
  (k2 : x2 < f_size_3 → ¬ (b2i ((evP S5 c_7 L6 L6.length).headD false)) = (0 : Int32) → Ev G (d + 5) k n M_St_counting 16 [.ref x0, .int (x1 ||| ((1 : Int32) <<< (x2 &&& 31))), .int (x2 + (1 : Int32))] [] h R)
  (k3 : ¬ x2 < f_size_3 → R (some (.int x1)) h)
  : Ev G (d + 5) k n M_St_counting 16 [.ref x0, .int x1, .int x2] [] h R :=
  Ev.go (pc' := 18) (ls' := [.ref x0, .int x1, .int x2]) (st' := [.ref x0, .int x2]) [.iload_n 2, .aload_n 0] (by decide +kernel) rfl <|
  Ev.getf f_St_22 (by decide +kernel) a1 rfl <|
  Ev.br (i := .if_icmp .ge (27)) (P := x2 < f_size_3) (t := 24) (f := 48) (r := []) (by decide +kernel) rfl (fun c1 =>
    Ev.go (pc' := 25) (ls' := [.ref x0, .int x1, .int x2]) (st' := [.ref x0]) [.aload_n 0] (by decide +kernel) rfl <|
    Ev.getf f_St_32 (by decide +kernel) a1 rfl <|
    Ev.go (pc' := 30) (ls' := [.ref x0, .int x1, .int x2]) (st' := [.int x2, .ref x0, .ref ff4]) [.aload_n 0, .iload_n 2] (by decide +kernel) rfl <|
    Ev.cV0 (M' := M_Fi_holds) (as := [.ref x0, .int x2]) (rest := []) l_St_59 M_Fi_holds_ok M_Fi_holds_in M_Fi_holds_se (by decide +kernel) (r7 c1) rfl rfl rfl (Nat.le_of_ble_eq_true rfl) (Nat.le_of_ble_eq_true rfl) (s_Fi_holds (pr2 c1) (pr3 c1) (pr4 c1) (pr5 c1) (pr6 c1) <| show Ev G (d + 5) _ _ M_St_counting 33 [.ref x0, .int x1, .int x2] [.int (b2i ((evP S5 c_7 L6 L6.length).headD false))] h R from
      Ev.br (i := .ifCond .eq (9)) (P := (b2i ((evP S5 c_7 L6 L6.length).headD false)) = (0 : Int32)) (t := 42) (f := 36) (r := []) (by decide +kernel) rfl (fun c2 =>
        Ev.go (pc' := 16) (ls' := [.ref x0, .int x1, .int (x2 + (1 : Int32))]) (st' := []) [.iinc 2 (1), .goto (-29)] (by decide +kernel) rfl <|
        (k1 c1 c2)
      ) (fun c2 =>
        Ev.go (pc' := 16) (ls' := [.ref x0, .int (x1 ||| ((1 : Int32) <<< (x2 &&& 31))), .int (x2 + (1 : Int32))]) (st' := []) [.iload_n 1, .iconst 1, .iload_n 2, .ishl, .ior, .istore_n 1, .iinc 2 (1), .goto (-29)] (by decide +kernel) rfl <|
        (k2 c1 c2)
      )
    )
  ) (fun c1 =>
    Ev.go (pc' := 49) (ls' := [.ref x0, .int x1, .int x2]) (st' := [.int x1]) [.iload_n 1] (by decide +kernel) rfl <|
    Ev.ret (r := (some (.int x1))) (Or.inl ⟨_, rfl, by decide +kernel, _, rfl, rfl⟩) (k3 c1)
  )
theorem b_St_sameKey_0 {G : ev_G} {d k n : Nat} {h : ev_H} {R : Option Value → ev_H → Prop} {x0 : Nat} {x1 : Int32} {x2 : Int32} {x3 : Int32} {S1 : AS} {c_2 : Nat} {p_3 : Nat}
  (pr1 : StR h x0 S1)
  (pr2 : sOk S1)
  (pr3 : x2 = nI c_2 ∧ c_2 < sN S1)
  (pr4 : x3 = nI p_3 ∧ p_3 < sP S1)
  (r5 : ∃ fs, hat h x0 (oC 6 fs))
  (k1 : Ev G (d + 1) k n M_St_sameKey 14 [.ref x0, .int x1, .int x2, .int x3, .int (0 : Int32), .int (nI (keyN (sCo S1 c_2) (stt S1 p_3) (sBr S1 p_3))), .int (0 : Int32)] [] h R)
  : Ev G (d + 1) k n M_St_sameKey 0 [.ref x0, .int x1, .int x2, .int x3, ev_unk, ev_unk, ev_unk] [] h R :=
  Ev.go (pc' := 6) (ls' := [.ref x0, .int x1, .int x2, .int x3, .int (0 : Int32), ev_unk, ev_unk]) (st' := [.int x3, .int x2, .ref x0]) [.iconst 0, .istore 4, .aload_n 0, .iload_n 2, .iload_n 3] (by decide +kernel) rfl <|
  Ev.cV0 (M' := M_St_keyOf) (as := [.int x2, .int x3]) (rest := []) l_St_73 M_St_keyOf_ok M_St_keyOf_in M_St_keyOf_se (by decide +kernel) r5 rfl rfl rfl (Nat.le_of_ble_eq_true rfl) (Nat.le_of_ble_eq_true rfl) (s_St_keyOf' pr1 pr2 pr3 pr4 <| show Ev G (d + 1) _ _ M_St_sameKey 9 [.ref x0, .int x1, .int x2, .int x3, .int (0 : Int32), ev_unk, ev_unk] [.int (nI (keyN (sCo S1 c_2) (stt S1 p_3) (sBr S1 p_3)))] h R from
    Ev.go (pc' := 14) (ls' := [.ref x0, .int x1, .int x2, .int x3, .int (0 : Int32), .int (nI (keyN (sCo S1 c_2) (stt S1 p_3) (sBr S1 p_3))), .int (0 : Int32)]) (st' := []) [.istore 5, .iconst 0, .istore 6] (by decide +kernel) rfl <|
    k1
  )
theorem b_St_sameKey_14 {G : ev_G} {d k n : Nat} {h : ev_H} {R : Option Value → ev_H → Prop} {x0 : Nat} {x1 : Int32} {x2 : Int32} {x3 : Int32} {x4 : Int32} {x5 : Int32} {x6 : Int32} {f_bits_1 : Int32} {f_parts_2 : Int32} {f_size_3 : Int32} {fv4 : Value} {S5 : AS} {c_6 : Nat} {p_7 : Nat}
  (a1 : hat h x0 (oC 6 [.int f_bits_1, .int f_parts_2, .ref (x0 + 1), .int f_size_3, .ref (x0 + 2), .ref (x0 + 3), fv4]))
  (pr2 : x6 < f_size_3 → ¬ (b2i (inI x1 x6)) = (0 : Int32) → StR h x0 S5)
  (pr3 : x6 < f_size_3 → ¬ (b2i (inI x1 x6)) = (0 : Int32) → sOk S5)
  (pr4 : x6 < f_size_3 → ¬ (b2i (inI x1 x6)) = (0 : Int32) → x6 = nI c_6 ∧ c_6 < sN S5)
  (pr5 : x6 < f_size_3 → ¬ (b2i (inI x1 x6)) = (0 : Int32) → x3 = nI p_7 ∧ p_7 < sP S5)
  (k1 : x6 < f_size_3 → (b2i (inI x1 x6)) = (0 : Int32) → Ev G (d + 1) k n M_St_sameKey 14 [.ref x0, .int x1, .int x2, .int x3, .int x4, .int x5, .int (x6 + (1 : Int32))] [] h R)
  (k2 : x6 < f_size_3 → ¬ (b2i (inI x1 x6)) = (0 : Int32) → (nI (keyN (sCo S5 c_6) (stt S5 p_7) (sBr S5 p_7))) = x5 → Ev G (d + 1) k n M_St_sameKey 14 [.ref x0, .int x1, .int x2, .int x3, .int (x4 ||| ((1 : Int32) <<< (x6 &&& 31))), .int x5, .int (x6 + (1 : Int32))] [] h R)
  (k3 : x6 < f_size_3 → ¬ (b2i (inI x1 x6)) = (0 : Int32) → ¬ (nI (keyN (sCo S5 c_6) (stt S5 p_7) (sBr S5 p_7))) = x5 → Ev G (d + 1) k n M_St_sameKey 14 [.ref x0, .int x1, .int x2, .int x3, .int x4, .int x5, .int (x6 + (1 : Int32))] [] h R)
  (k4 : ¬ x6 < f_size_3 → R (some (.int x4)) h)
  : Ev G (d + 1) k n M_St_sameKey 14 [.ref x0, .int x1, .int x2, .int x3, .int x4, .int x5, .int x6] [] h R :=
  Ev.go (pc' := 17) (ls' := [.ref x0, .int x1, .int x2, .int x3, .int x4, .int x5, .int x6]) (st' := [.ref x0, .int x6]) [.iload 6, .aload_n 0] (by decide +kernel) rfl <|
  Ev.getf f_St_22 (by decide +kernel) a1 rfl <|
  Ev.br (i := .if_icmp .ge (39)) (P := x6 < f_size_3) (t := 23) (f := 59) (r := []) (by decide +kernel) rfl (fun c1 =>
    Ev.go (pc' := 26) (ls' := [.ref x0, .int x1, .int x2, .int x3, .int x4, .int x5, .int x6]) (st' := [.int x6, .int x1]) [.iload_n 1, .iload 6] (by decide +kernel) rfl <|
    Ev.cSN0 (M' := M_X_isIn) (as := [.int x1, .int x6]) (rest := []) l_St_65 M_X_isIn_ok M_X_isIn_st (by decide +kernel) rfl rfl (Nat.le_of_ble_eq_true rfl) (Nat.le_of_ble_eq_true rfl) (s_X_isIn <| show Ev G (d + 1) _ _ M_St_sameKey 29 [.ref x0, .int x1, .int x2, .int x3, .int x4, .int x5, .int x6] [.int (b2i (inI x1 x6))] h R from
      Ev.br (i := .ifCond .eq (24)) (P := (b2i (inI x1 x6)) = (0 : Int32)) (t := 53) (f := 32) (r := []) (by decide +kernel) rfl (fun c2 =>
        Ev.go (pc' := 14) (ls' := [.ref x0, .int x1, .int x2, .int x3, .int x4, .int x5, .int (x6 + (1 : Int32))]) (st' := []) [.iinc 6 (1), .goto (-42)] (by decide +kernel) rfl <|
        (k1 c1 c2)
      ) (fun c2 =>
        Ev.go (pc' := 36) (ls' := [.ref x0, .int x1, .int x2, .int x3, .int x4, .int x5, .int x6]) (st' := [.int x3, .int x6, .ref x0]) [.aload_n 0, .iload 6, .iload_n 3] (by decide +kernel) rfl <|
        Ev.cV0 (M' := M_St_keyOf) (as := [.int x6, .int x3]) (rest := []) l_St_73 M_St_keyOf_ok M_St_keyOf_in M_St_keyOf_se (by decide +kernel) ⟨_, a1⟩ rfl rfl rfl (Nat.le_of_ble_eq_true rfl) (Nat.le_of_ble_eq_true rfl) (s_St_keyOf' (pr2 c1 c2) (pr3 c1 c2) (pr4 c1 c2) (pr5 c1 c2) <| show Ev G (d + 1) _ _ M_St_sameKey 39 [.ref x0, .int x1, .int x2, .int x3, .int x4, .int x5, .int x6] [.int (nI (keyN (sCo S5 c_6) (stt S5 p_7) (sBr S5 p_7)))] h R from
          Ev.go (pc' := 41) (ls' := [.ref x0, .int x1, .int x2, .int x3, .int x4, .int x5, .int x6]) (st' := [.int x5, .int (nI (keyN (sCo S5 c_6) (stt S5 p_7) (sBr S5 p_7)))]) [.iload 5] (by decide +kernel) rfl <|
          Ev.br (i := .if_icmp .ne (12)) (P := (nI (keyN (sCo S5 c_6) (stt S5 p_7) (sBr S5 p_7))) = x5) (t := 44) (f := 53) (r := []) (by decide +kernel) rfl (fun c3 =>
            Ev.go (pc' := 14) (ls' := [.ref x0, .int x1, .int x2, .int x3, .int (x4 ||| ((1 : Int32) <<< (x6 &&& 31))), .int x5, .int (x6 + (1 : Int32))]) (st' := []) [.iload 4, .iconst 1, .iload 6, .ishl, .ior, .istore 4, .iinc 6 (1), .goto (-42)] (by decide +kernel) rfl <|
            (k2 c1 c2 c3)
          ) (fun c3 =>
            Ev.go (pc' := 14) (ls' := [.ref x0, .int x1, .int x2, .int x3, .int x4, .int x5, .int (x6 + (1 : Int32))]) (st' := []) [.iinc 6 (1), .goto (-42)] (by decide +kernel) rfl <|
            (k3 c1 c2 c3)
          )
        )
      )
    )
  ) (fun c1 =>
    Ev.go (pc' := 61) (ls' := [.ref x0, .int x1, .int x2, .int x3, .int x4, .int x5, .int x6]) (st' := [.int x4]) [.iload 4] (by decide +kernel) rfl <|
    Ev.ret (r := (some (.int x4))) (Or.inl ⟨_, rfl, by decide +kernel, _, rfl, rfl⟩) (k4 c1)
  )
section S15
variable {G : ev_G} {d : Nat} {h : ev_H} {R : Option Value → ev_H → Prop} {a f : Nat} {S : AS} {fl : List AStp}
theorem s_St_counting (hS : StR h a S) (ok : sOk S) (hok : sFl S = [] ∨ flOk (sFl S)) (hR : R (some (.int (setI (ctP S)))) h) : Ev G (d + 5) 0 0 M_St_counting 0 [.ref a, ev_unk, ev_unk] [] h R := by
  have hS0 := hS
  have hz := ok.2.2.2.2.1
  obtain ⟨brf, tgf, cof, fv, h1, h2, h3, h4, e1, e2, hv⟩ := hS
  rcases hv with ⟨hn, rfl⟩ | ⟨hn, f, rfl, -, hF⟩
  · have e : setI (ctP S) = setI (allP S) := setI_congr fun j hj => by unfold ctP allP; rw [hn]; simp
    rw [e] at hR
    exact b_St_counting_0n h1 hS0 ok hR
  · have hfl := hok.resolve_left hn
    refine b_St_counting_0r h1 ?_
    have hem : (sFl S).isEmpty = false := by cases q : sFl S <;> simp_all
    have := up0 (P := fun i => Ev G (d + 5) 0 0 M_St_counting 16 [.ref a, .int (setI (fun j => decide (j < i) && ctP S j)), .int (nI i)] [] h R) (sN S) ?_ ?_
    · rw [setI_lt0] at this; exact this
    · intro i hi ih
      have hct : ctP S i = holdsB S i := by unfold ctP; rw [decide_eq_true hi, hem]; simp
      refine b_St_counting_16r (S5 := S) (L6 := sFl S) (c_7 := i) h1 (fun _ => hF) (fun _ => hS0) (fun _ => ok) (fun _ => hfl) (fun _ => ⟨rfl, hi⟩) (fun _ => ⟨_, hF.1⟩) (fun _ c => ?_) (fun _ c => ?_) (fun c => absurd (nI_lt hi (by omega)) c)
      · have c := b2i_e0 c
        rw [nI_1, setI_skip (ctP S) (hct.trans c)]; exact ih
      · have c := b2i_n0 c
        rw [nI_1, setI_add (ctP S) (by omega) (hct.trans c)]; exact ih
    · refine b_St_counting_16r (S5 := S) (L6 := sFl S) (c_7 := 0) h1 (fun c => absurd c (nl_self (by omega))) (fun c => absurd c (nl_self (by omega))) (fun c => absurd c (nl_self (by omega))) (fun c => absurd c (nl_self (by omega))) (fun c => absurd c (nl_self (by omega))) (fun c => absurd c (nl_self (by omega))) (fun c => absurd c (nl_self (by omega))) (fun c => absurd c (nl_self (by omega))) (fun _ => ?_)
      have e : setI (fun j => decide (j < sN S) && ctP S j) = setI (ctP S) := setI_congr fun j hj => by unfold ctP; cases decide (j < sN S) <;> simp
      rw [e]; exact hR
/-- which codes of a set have the key of a code in a part -/
def skP (S : AS) (p : Nat → Bool) (c q : Nat) (j : Nat) : Bool := decide (j < sN S) && p j && decide (keyN (sCo S j) (stt S q) (sBr S q) = keyN (sCo S c) (stt S q) (sBr S q))
theorem keyN_ltI (ok : sOk S) {p : Nat} (hp : p < sP S) (x : Int64) (st : Nat) : keyN x st (sBr S p) < 2147483648 := by
  have h1 := keyN_lt x st (sBr S p)
  have h2 := ok.2.2.2.2.2.1 _ hp
  have : 2 ^ sBr S p ≤ 2 ^ 24 := Nat.pow_le_pow_right (by decide) h2
  omega
theorem s_St_sameKey {set cI pI : Int32} {c p : Nat} (hS : StR h a S) (ok : sOk S) (hc : cI = nI c ∧ c < sN S) (hp : pI = nI p ∧ p < sP S) (hR : R (some (.int (setI (skP S (bt set) c p)))) h) : Ev G (d + 1) 0 0 M_St_sameKey 0 [.ref a, .int set, .int cI, .int pI, ev_unk, ev_unk, ev_unk] [] h R := by
  have hS0 := hS
  have hz := ok.2.2.2.2.1
  obtain ⟨brf, tgf, cof, fv, h1, h2, h3, h4, e1, e2, hv⟩ := hS
  refine b_St_sameKey_0 hS0 ok hc hp ⟨_, h1⟩ ?_
  have := up0 (P := fun i => Ev G (d + 1) 0 0 M_St_sameKey 14 [.ref a, .int set, .int cI, .int pI, .int (setI (fun j => decide (j < i) && skP S (bt set) c p j)), .int (nI (keyN (sCo S c) (stt S p) (sBr S p))), .int (nI i)] [] h R) (sN S) ?_ ?_
  · rw [setI_lt0] at this; exact this
  · intro i hi ih
    refine b_St_sameKey_14 (S5 := S) (c_6 := i) (p_7 := p) h1 (fun _ _ => hS0) (fun _ _ => ok) (fun _ _ => ⟨rfl, hi⟩) (fun _ _ => hp) (fun _ q => ?_) (fun _ q q2 => ?_) (fun _ q q2 => ?_) (fun q => absurd (nI_lt hi (by omega)) q)
    · rw [inI_n (by omega)] at q
      have hk : skP S (bt set) c p i = false := by unfold skP; rw [b2i_e0 q]; simp
      rw [nI_1, setI_skip _ hk]; exact ih
    · rw [inI_n (by omega)] at q
      have hk : skP S (bt set) c p i = true := by unfold skP; rw [b2i_n0 q, decide_eq_true hi, decide_eq_true ((nI_eq (by have := keyN_ltI ok hp.2 (sCo S i) (stt S p); omega) (by have := keyN_ltI ok hp.2 (sCo S c) (stt S p); omega)).mp q2)]; rfl
      rw [nI_1, setI_add _ (by omega) hk]; exact ih
    · have z : ¬ keyN (sCo S i) (stt S p) (sBr S p) = keyN (sCo S c) (stt S p) (sBr S p) := fun z => q2 (by rw [z])
      have hk : skP S (bt set) c p i = false := by unfold skP; rw [decide_eq_false z]; simp
      rw [nI_1, setI_skip _ hk]; exact ih
  · refine b_St_sameKey_14 (S5 := S) (c_6 := 0) (p_7 := 0) h1 (fun c => absurd c (nl_self (by omega))) (fun c => absurd c (nl_self (by omega))) (fun c => absurd c (nl_self (by omega))) (fun c => absurd c (nl_self (by omega))) (fun c => absurd c (nl_self (by omega))) (fun c => absurd c (nl_self (by omega))) (fun c => absurd c (nl_self (by omega))) (fun _ => ?_)
    have e : setI (fun j => decide (j < sN S) && skP S (bt set) c p j) = setI (skP S (bt set) c p) := setI_congr fun j hj => by unfold skP; cases decide (j < sN S) <;> simp
    rw [e]; exact hR
end S15
