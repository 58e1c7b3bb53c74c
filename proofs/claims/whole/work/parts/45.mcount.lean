/-! the model's filters -/
def twoL (w : Int32) (a b : Int64) : Int64 := if w = 7 then (b2i (decide (a < b))).toInt64 else if w = 8 then (b2i (decide (a = b))).toInt64 else if w = 9 then (b2i (decide (b < a))).toInt64 else if w = 11 then a &&& b else a ||| b
def muchL (s : AStp) : Int64 := if s.1 = 8 then s.2.2.2.2 else if s.1 = 6 ∨ s.1 = 7 then lN s.2.2.1 else 0
theorem b_Mo_two_0 {G : ev_G} {d k n : Nat} {h : ev_H} {R : Option Value → ev_H → Prop} {x0 : Int32} {x1 : Int64} {x3 : Int64}
  (k1 : x0 = (7 : Int32) → x1 < x3 → R (some (.long (1 : Int64))) h)
  (k2 : x0 = (7 : Int32) → ¬ x1 < x3 → R (some (.long (0 : Int64))) h)
  (k3 : x0 = (8 : Int32) → x1 = x3 → R (some (.long (1 : Int64))) h)
  (k4 : x0 = (8 : Int32) → ¬ x1 = x3 → R (some (.long (0 : Int64))) h)
  (k5 : x0 = (9 : Int32) → x3 < x1 → R (some (.long (1 : Int64))) h)
  (k6 : x0 = (9 : Int32) → ¬ x3 < x1 → R (some (.long (0 : Int64))) h)
  (k7 : x0 = (10 : Int32) → R (some (.long (x1 ||| x3))) h)
  (k8 : x0 = (11 : Int32) → R (some (.long (x1 &&& x3))) h)
  (k9 : ¬ x0 = (7 : Int32) → ¬ x0 = (8 : Int32) → ¬ x0 = (9 : Int32) → ¬ x0 = (10 : Int32) → ¬ x0 = (11 : Int32) → R (some (.long (x1 ||| x3))) h)
  : Ev G d k n M_Mo_two 0 [.int x0, .long x1, ev_unk, .long x3, ev_unk] [] h R :=
  Ev.go (pc' := 1) (ls' := [.int x0, .long x1, ev_unk, .long x3, ev_unk]) (st' := [.int x0]) [.iload_n 0] (by decide +kernel) rfl <|
  if c1_0 : x0 = (7 : Int32) then Ev.tsw (t := 36) (off := 35) (o := 75) (lo := 7) (hi := 11) (offs := #[35, 47, 59, 75, 71]) (len := 35) (by decide +kernel) (by rw [c1_0]; decide) (by rw [c1_0]; decide) (by rw [c1_0]; decide) rfl <|
    Ev.go (pc' := 38) (ls' := [.int x0, .long x1, ev_unk, .long x3, ev_unk]) (st' := [.long x3, .long x1]) [.lload_n 1, .lload_n 3] (by decide +kernel) rfl <|
    Ev.brl (c := .ge) (o := 7) (P := x1 < x3) (t := 42) (f := 46) (t1 := 46) (by decide +kernel) (by decide +kernel) rfl rfl (fun c2 =>
      Ev.go (pc' := 47) (ls' := [.int x0, .long x1, ev_unk, .long x3, ev_unk]) (st' := [.long (1 : Int64)]) [.lconst 1, .goto (4)] (by decide +kernel) rfl <|
      Ev.ret (r := (some (.long (1 : Int64)))) (Or.inr (Or.inl ⟨_, rfl, by decide +kernel, rfl⟩)) (k1 c1_0 c2)
    ) (fun c2 =>
      Ev.go (pc' := 47) (ls' := [.int x0, .long x1, ev_unk, .long x3, ev_unk]) (st' := [.long (0 : Int64)]) [.lconst 0] (by decide +kernel) rfl <|
      Ev.ret (r := (some (.long (0 : Int64)))) (Or.inr (Or.inl ⟨_, rfl, by decide +kernel, rfl⟩)) (k2 c1_0 c2)
    )
  else
  if c1_1 : x0 = (8 : Int32) then Ev.tsw (t := 48) (off := 47) (o := 75) (lo := 7) (hi := 11) (offs := #[35, 47, 59, 75, 71]) (len := 35) (by decide +kernel) (by rw [c1_1]; decide) (by rw [c1_1]; decide) (by rw [c1_1]; decide) rfl <|
    Ev.go (pc' := 50) (ls' := [.int x0, .long x1, ev_unk, .long x3, ev_unk]) (st' := [.long x3, .long x1]) [.lload_n 1, .lload_n 3] (by decide +kernel) rfl <|
    Ev.brl (c := .ne) (o := 7) (P := x1 = x3) (t := 54) (f := 58) (t1 := 58) (by decide +kernel) (by decide +kernel) rfl rfl (fun c2 =>
      Ev.go (pc' := 59) (ls' := [.int x0, .long x1, ev_unk, .long x3, ev_unk]) (st' := [.long (1 : Int64)]) [.lconst 1, .goto (4)] (by decide +kernel) rfl <|
      Ev.ret (r := (some (.long (1 : Int64)))) (Or.inr (Or.inl ⟨_, rfl, by decide +kernel, rfl⟩)) (k3 c1_1 c2)
    ) (fun c2 =>
      Ev.go (pc' := 59) (ls' := [.int x0, .long x1, ev_unk, .long x3, ev_unk]) (st' := [.long (0 : Int64)]) [.lconst 0] (by decide +kernel) rfl <|
      Ev.ret (r := (some (.long (0 : Int64)))) (Or.inr (Or.inl ⟨_, rfl, by decide +kernel, rfl⟩)) (k4 c1_1 c2)
    )
  else
  if c1_2 : x0 = (9 : Int32) then Ev.tsw (t := 60) (off := 59) (o := 75) (lo := 7) (hi := 11) (offs := #[35, 47, 59, 75, 71]) (len := 35) (by decide +kernel) (by rw [c1_2]; decide) (by rw [c1_2]; decide) (by rw [c1_2]; decide) rfl <|
    Ev.go (pc' := 62) (ls' := [.int x0, .long x1, ev_unk, .long x3, ev_unk]) (st' := [.long x3, .long x1]) [.lload_n 1, .lload_n 3] (by decide +kernel) rfl <|
    Ev.brl (c := .le) (o := 7) (P := x3 < x1) (t := 66) (f := 70) (t1 := 70) (by decide +kernel) (by decide +kernel) rfl rfl (fun c2 =>
      Ev.go (pc' := 71) (ls' := [.int x0, .long x1, ev_unk, .long x3, ev_unk]) (st' := [.long (1 : Int64)]) [.lconst 1, .goto (4)] (by decide +kernel) rfl <|
      Ev.ret (r := (some (.long (1 : Int64)))) (Or.inr (Or.inl ⟨_, rfl, by decide +kernel, rfl⟩)) (k5 c1_2 c2)
    ) (fun c2 =>
      Ev.go (pc' := 71) (ls' := [.int x0, .long x1, ev_unk, .long x3, ev_unk]) (st' := [.long (0 : Int64)]) [.lconst 0] (by decide +kernel) rfl <|
      Ev.ret (r := (some (.long (0 : Int64)))) (Or.inr (Or.inl ⟨_, rfl, by decide +kernel, rfl⟩)) (k6 c1_2 c2)
    )
  else
  if c1_3 : x0 = (10 : Int32) then Ev.tsw (t := 76) (off := 75) (o := 75) (lo := 7) (hi := 11) (offs := #[35, 47, 59, 75, 71]) (len := 35) (by decide +kernel) (by rw [c1_3]; decide) (by rw [c1_3]; decide) (by rw [c1_3]; decide) rfl <|
    Ev.go (pc' := 79) (ls' := [.int x0, .long x1, ev_unk, .long x3, ev_unk]) (st' := [.long (x1 ||| x3)]) [.lload_n 1, .lload_n 3, .lor] (by decide +kernel) rfl <|
    Ev.ret (r := (some (.long (x1 ||| x3)))) (Or.inr (Or.inl ⟨_, rfl, by decide +kernel, rfl⟩)) (k7 c1_3)
  else
  if c1_4 : x0 = (11 : Int32) then Ev.tsw (t := 72) (off := 71) (o := 75) (lo := 7) (hi := 11) (offs := #[35, 47, 59, 75, 71]) (len := 35) (by decide +kernel) (by rw [c1_4]; decide) (by rw [c1_4]; decide) (by rw [c1_4]; decide) rfl <|
    Ev.go (pc' := 75) (ls' := [.int x0, .long x1, ev_unk, .long x3, ev_unk]) (st' := [.long (x1 &&& x3)]) [.lload_n 1, .lload_n 3, .land] (by decide +kernel) rfl <|
    Ev.ret (r := (some (.long (x1 &&& x3)))) (Or.inr (Or.inl ⟨_, rfl, by decide +kernel, rfl⟩)) (k8 c1_4)
  else
  Ev.tswd (t := 76) (o := 75) (lo := 7) (hi := 11) (offs := #[35, 47, 59, 75, 71]) (len := 35) (by decide +kernel) (by have qc1_0 := ne_i (v := 7) (7 : Int32) (by decide) c1_0; have qc1_1 := ne_i (v := 8) (8 : Int32) (by decide) c1_1; have qc1_2 := ne_i (v := 9) (9 : Int32) (by decide) c1_2; have qc1_3 := ne_i (v := 10) (10 : Int32) (by decide) c1_3; have qc1_4 := ne_i (v := 11) (11 : Int32) (by decide) c1_4; omega) rfl <|
    Ev.go (pc' := 79) (ls' := [.int x0, .long x1, ev_unk, .long x3, ev_unk]) (st' := [.long (x1 ||| x3)]) [.lload_n 1, .lload_n 3, .lor] (by decide +kernel) rfl <|
    Ev.ret (r := (some (.long (x1 ||| x3)))) (Or.inr (Or.inl ⟨_, rfl, by decide +kernel, rfl⟩)) (k9 c1_0 c1_1 c1_2 c1_3 c1_4)
  
theorem b_Mo_valueOf_0 {G : ev_G} {d k n : Nat} {h : ev_H} {R : Option Value → ev_H → Prop} {x1 : Int32} {x2 : Int32} {x3 : Int64} {S1 : AS} {c_2 : Nat} {v_3 : MG} {z_4 : MP} {g_5 : Nat → Int64} {j_6 : Nat} {S7 : AS} {c_8 : Nat} {S9 : AS} {S10 : AS} {c_11 : Nat} {S12 : AS} {p_13 : Nat} {S14 : AS} {c_15 : Nat}
  (pr1 : x2 = (0 : Int32) → MS h S1)
  (pr2 : x2 = (0 : Int32) → sOk S1)
  (pr3 : x2 = (0 : Int32) → x1 = nI c_2 ∧ c_2 < sN S1)
  (r4 : x2 = (0 : Int32) → ∃ fs, hat h 102 (oC 9 fs))
  (pr5 : x2 = (1 : Int32) → hat h 102 (moC v_3 z_4))
  (pr6 : x2 = (1 : Int32) → hat h 103 (aL 9758 g_5))
  (pr7 : x2 = (1 : Int32) → ev_ix ((42 : Int32) + x1) j_6 9758)
  (r8 : x2 = (1 : Int32) → ∃ fs, hat h 102 (oC 9 fs))
  (pr9 : x2 = (3 : Int32) → MS h S7)
  (pr10 : x2 = (3 : Int32) → sOk S7)
  (pr11 : x2 = (3 : Int32) → x1 = nI c_8 ∧ c_8 < sN S7)
  (r12 : x2 = (3 : Int32) → ∃ fs, hat h 102 (oC 9 fs))
  (pr13 : x2 = (4 : Int32) → MS h S9)
  (r14 : x2 = (4 : Int32) → ∃ fs, hat h 102 (oC 9 fs))
  (pr15 : x2 = (4 : Int32) → x3 < (nI (sP S9)).toInt64 → MS h S10)
  (pr16 : x2 = (4 : Int32) → x3 < (nI (sP S9)).toInt64 → sOk S10)
  (pr17 : x2 = (4 : Int32) → x3 < (nI (sP S9)).toInt64 → x1 = nI c_11 ∧ c_11 < sN S10)
  (r18 : x2 = (4 : Int32) → x3 < (nI (sP S9)).toInt64 → ∃ fs, hat h 102 (oC 9 fs))
  (pr19 : x2 = (4 : Int32) → x3 < (nI (sP S9)).toInt64 → MS h S12)
  (pr20 : x2 = (4 : Int32) → x3 < (nI (sP S9)).toInt64 → sOk S12)
  (pr21 : x2 = (4 : Int32) → x3 < (nI (sP S9)).toInt64 → x3.toInt32 = nI p_13 ∧ p_13 < sP S12)
  (pr22 : x2 = (5 : Int32) → MS h S14)
  (pr23 : x2 = (5 : Int32) → sOk S14)
  (pr24 : x2 = (5 : Int32) → x1 = nI c_15 ∧ c_15 < sN S14)
  (r25 : x2 = (5 : Int32) → ∃ fs, hat h 102 (oC 9 fs))
  (k1 : x2 = (0 : Int32) → R (some (.long (nI (pop (sCo S1 c_2))).toInt64)) h)
  (k2 : x2 = (1 : Int32) → R (some (.long (g_5 j_6))) h)
  (k3 : x2 = (2 : Int32) → R (some (.long x1.toInt64)) h)
  (k4 : x2 = (3 : Int32) → R (some (.long (((sCo S7 c_8) >>> (x3.toInt32.toInt64 &&& 63)) &&& (1 : Int64)))) h)
  (k5 : x2 = (4 : Int32) → x3 < (nI (sP S9)).toInt64 → R (some (.long (lN (keyN (sCo S10 c_11) (stt S12 p_13) (sBr S12 p_13))))) h)
  (k6 : x2 = (4 : Int32) → ¬ x3 < (nI (sP S9)).toInt64 → R (some (.long (0 : Int64))) h)
  (k7 : x2 = (5 : Int32) → R (some (.long (nI (pop ((sCo S14 c_15) ^^^ x3))).toInt64)) h)
  (k8 : ¬ x2 = (0 : Int32) → ¬ x2 = (1 : Int32) → ¬ x2 = (2 : Int32) → ¬ x2 = (3 : Int32) → ¬ x2 = (4 : Int32) → ¬ x2 = (5 : Int32) → R (some (.long x3)) h)
  : Ev G (d + 3) k n M_Mo_valueOf 0 [.ref 102, .int x1, .int x2, .long x3, ev_unk] [] h R :=
  Ev.go (pc' := 1) (ls' := [.ref 102, .int x1, .int x2, .long x3, ev_unk]) (st' := [.int x2]) [.iload_n 2] (by decide +kernel) rfl <|
  if c1_0 : x2 = (0 : Int32) then Ev.tsw (t := 40) (off := 39) (o := 110) (lo := 0) (hi := 5) (offs := #[39, 49, 58, 61, 72, 98]) (len := 39) (by decide +kernel) (by rw [c1_0]; decide) (by rw [c1_0]; decide) (by rw [c1_0]; decide) rfl <|
    Ev.go (pc' := 42) (ls' := [.ref 102, .int x1, .int x2, .long x3, ev_unk]) (st' := [.int x1, .ref 102]) [.aload_n 0, .iload_n 1] (by decide +kernel) rfl <|
    Ev.cV0 (M' := M_Mo_codeOf) (as := [.int x1]) (rest := []) l_Mo_85 M_Mo_codeOf_ok M_Mo_codeOf_in M_Mo_codeOf_se (by decide +kernel) (r4 c1_0) rfl rfl rfl (Nat.le_of_ble_eq_true rfl) (Nat.le_of_ble_eq_true rfl) (s_Mo_codeOf (pr1 c1_0) (pr2 c1_0) (pr3 c1_0) <| show Ev G (d + 3) _ _ M_Mo_valueOf 45 [.ref 102, .int x1, .int x2, .long x3, ev_unk] [.long (sCo S1 c_2)] h R from
      Ev.cS0 (M' := M_Mo_ones_J) (as := [.long (sCo S1 c_2)]) (rest := []) l_Mo_88 M_Mo_ones_J_ok M_Mo_ones_J_st (by decide +kernel) rfl rfl (Nat.le_of_ble_eq_true rfl) (Nat.le_of_ble_eq_true rfl) (s_Mo_ones_J <| show Ev G (d + 3) _ _ M_Mo_valueOf 48 [.ref 102, .int x1, .int x2, .long x3, ev_unk] [.int (nI (pop (sCo S1 c_2)))] h R from
        Ev.go (pc' := 49) (ls' := [.ref 102, .int x1, .int x2, .long x3, ev_unk]) (st' := [.long (nI (pop (sCo S1 c_2))).toInt64]) [.i2l] (by decide +kernel) rfl <|
        Ev.ret (r := (some (.long (nI (pop (sCo S1 c_2))).toInt64))) (Or.inr (Or.inl ⟨_, rfl, by decide +kernel, rfl⟩)) (k1 c1_0)
      )
    )
  else
  if c1_1 : x2 = (1 : Int32) then Ev.tsw (t := 50) (off := 49) (o := 110) (lo := 0) (hi := 5) (offs := #[39, 49, 58, 61, 72, 98]) (len := 39) (by decide +kernel) (by rw [c1_1]; decide) (by rw [c1_1]; decide) (by rw [c1_1]; decide) rfl <|
    Ev.go (pc' := 55) (ls' := [.ref 102, .int x1, .int x2, .long x3, ev_unk]) (st' := [.int ((42 : Int32) + x1), .ref 102]) [.aload_n 0, .bipush (42), .iload_n 1, .iadd] (by decide +kernel) rfl <|
    Ev.cV0 (M' := M_Mo_of) (as := [.int ((42 : Int32) + x1)]) (rest := []) l_Mo_64 M_Mo_of_ok M_Mo_of_in M_Mo_of_se (by decide +kernel) (r8 c1_1) rfl rfl rfl (Nat.le_of_ble_eq_true rfl) (Nat.le_of_ble_eq_true rfl) (s_Mo_of (pr5 c1_1) (pr6 c1_1) (pr7 c1_1) <| show Ev G (d + 3) _ _ M_Mo_valueOf 58 [.ref 102, .int x1, .int x2, .long x3, ev_unk] [.long (g_5 j_6)] h R from
      Ev.ret (r := (some (.long (g_5 j_6)))) (Or.inr (Or.inl ⟨_, rfl, by decide +kernel, rfl⟩)) (k2 c1_1)
    )
  else
  if c1_2 : x2 = (2 : Int32) then Ev.tsw (t := 59) (off := 58) (o := 110) (lo := 0) (hi := 5) (offs := #[39, 49, 58, 61, 72, 98]) (len := 39) (by decide +kernel) (by rw [c1_2]; decide) (by rw [c1_2]; decide) (by rw [c1_2]; decide) rfl <|
    Ev.go (pc' := 61) (ls' := [.ref 102, .int x1, .int x2, .long x3, ev_unk]) (st' := [.long x1.toInt64]) [.iload_n 1, .i2l] (by decide +kernel) rfl <|
    Ev.ret (r := (some (.long x1.toInt64))) (Or.inr (Or.inl ⟨_, rfl, by decide +kernel, rfl⟩)) (k3 c1_2)
  else
  if c1_3 : x2 = (3 : Int32) then Ev.tsw (t := 62) (off := 61) (o := 110) (lo := 0) (hi := 5) (offs := #[39, 49, 58, 61, 72, 98]) (len := 39) (by decide +kernel) (by rw [c1_3]; decide) (by rw [c1_3]; decide) (by rw [c1_3]; decide) rfl <|
    Ev.go (pc' := 64) (ls' := [.ref 102, .int x1, .int x2, .long x3, ev_unk]) (st' := [.int x1, .ref 102]) [.aload_n 0, .iload_n 1] (by decide +kernel) rfl <|
    Ev.cV0 (M' := M_Mo_codeOf) (as := [.int x1]) (rest := []) l_Mo_85 M_Mo_codeOf_ok M_Mo_codeOf_in M_Mo_codeOf_se (by decide +kernel) (r12 c1_3) rfl rfl rfl (Nat.le_of_ble_eq_true rfl) (Nat.le_of_ble_eq_true rfl) (s_Mo_codeOf (pr9 c1_3) (pr10 c1_3) (pr11 c1_3) <| show Ev G (d + 3) _ _ M_Mo_valueOf 67 [.ref 102, .int x1, .int x2, .long x3, ev_unk] [.long (sCo S7 c_8)] h R from
      Ev.go (pc' := 72) (ls' := [.ref 102, .int x1, .int x2, .long x3, ev_unk]) (st' := [.long (((sCo S7 c_8) >>> (x3.toInt32.toInt64 &&& 63)) &&& (1 : Int64))]) [.lload_n 3, .l2i, .lshr, .lconst 1, .land] (by decide +kernel) rfl <|
      Ev.ret (r := (some (.long (((sCo S7 c_8) >>> (x3.toInt32.toInt64 &&& 63)) &&& (1 : Int64))))) (Or.inr (Or.inl ⟨_, rfl, by decide +kernel, rfl⟩)) (k4 c1_3)
    )
  else
  if c1_4 : x2 = (4 : Int32) then Ev.tsw (t := 73) (off := 72) (o := 110) (lo := 0) (hi := 5) (offs := #[39, 49, 58, 61, 72, 98]) (len := 39) (by decide +kernel) (by rw [c1_4]; decide) (by rw [c1_4]; decide) (by rw [c1_4]; decide) rfl <|
    Ev.go (pc' := 75) (ls' := [.ref 102, .int x1, .int x2, .long x3, ev_unk]) (st' := [.ref 102, .long x3]) [.lload_n 3, .aload_n 0] (by decide +kernel) rfl <|
    Ev.cV0 (M' := M_Mo_parts) (as := []) (rest := [.long x3]) l_Mo_75 M_Mo_parts_ok M_Mo_parts_in M_Mo_parts_se (by decide +kernel) (r14 c1_4) rfl rfl rfl (Nat.le_of_ble_eq_true rfl) (Nat.le_of_ble_eq_true rfl) (s_Mo_parts (pr13 c1_4) <| show Ev G (d + 3) _ _ M_Mo_valueOf 78 [.ref 102, .int x1, .int x2, .long x3, ev_unk] [.int (nI (sP S9)), .long x3] h R from
      Ev.go (pc' := 79) (ls' := [.ref 102, .int x1, .int x2, .long x3, ev_unk]) (st' := [.long (nI (sP S9)).toInt64, .long x3]) [.i2l] (by decide +kernel) rfl <|
      Ev.brl (c := .ge) (o := 17) (P := x3 < (nI (sP S9)).toInt64) (t := 83) (f := 97) (t1 := 97) (by decide +kernel) (by decide +kernel) rfl rfl (fun c2 =>
        Ev.go (pc' := 86) (ls' := [.ref 102, .int x1, .int x2, .long x3, ev_unk]) (st' := [.int x1, .ref 102, .ref 102]) [.aload_n 0, .aload_n 0, .iload_n 1] (by decide +kernel) rfl <|
        Ev.cV0 (M' := M_Mo_codeOf) (as := [.int x1]) (rest := [.ref 102]) l_Mo_85 M_Mo_codeOf_ok M_Mo_codeOf_in M_Mo_codeOf_se (by decide +kernel) (r18 c1_4 c2) rfl rfl rfl (Nat.le_of_ble_eq_true rfl) (Nat.le_of_ble_eq_true rfl) (s_Mo_codeOf (pr15 c1_4 c2) (pr16 c1_4 c2) (pr17 c1_4 c2) <| show Ev G (d + 3) _ _ M_Mo_valueOf 89 [.ref 102, .int x1, .int x2, .long x3, ev_unk] [.long (sCo S10 c_11), .ref 102] h R from
          Ev.go (pc' := 91) (ls' := [.ref 102, .int x1, .int x2, .long x3, ev_unk]) (st' := [.int x3.toInt32, .long (sCo S10 c_11), .ref 102]) [.lload_n 3, .l2i] (by decide +kernel) rfl <|
          Ev.cV0 (M' := M_Mo_keyOf) (as := [.long (sCo S10 c_11), .int x3.toInt32]) (rest := []) l_Mo_92 M_Mo_keyOf_ok M_Mo_keyOf_in M_Mo_keyOf_se (by decide +kernel) (r18 c1_4 c2) rfl rfl rfl (Nat.le_of_ble_eq_true rfl) (Nat.le_of_ble_eq_true rfl) (s_Mo_keyOf (pr19 c1_4 c2) (pr20 c1_4 c2) (pr21 c1_4 c2) <| show Ev G (d + 3) _ _ M_Mo_valueOf 94 [.ref 102, .int x1, .int x2, .long x3, ev_unk] [.long (lN (keyN (sCo S10 c_11) (stt S12 p_13) (sBr S12 p_13)))] h R from
            Ev.go (pc' := 98) (ls' := [.ref 102, .int x1, .int x2, .long x3, ev_unk]) (st' := [.long (lN (keyN (sCo S10 c_11) (stt S12 p_13) (sBr S12 p_13)))]) [.goto (4)] (by decide +kernel) rfl <|
            Ev.ret (r := (some (.long (lN (keyN (sCo S10 c_11) (stt S12 p_13) (sBr S12 p_13)))))) (Or.inr (Or.inl ⟨_, rfl, by decide +kernel, rfl⟩)) (k5 c1_4 c2)
          )
        )
      ) (fun c2 =>
        Ev.go (pc' := 98) (ls' := [.ref 102, .int x1, .int x2, .long x3, ev_unk]) (st' := [.long (0 : Int64)]) [.lconst 0] (by decide +kernel) rfl <|
        Ev.ret (r := (some (.long (0 : Int64)))) (Or.inr (Or.inl ⟨_, rfl, by decide +kernel, rfl⟩)) (k6 c1_4 c2)
      )
    )
  else
  if c1_5 : x2 = (5 : Int32) then Ev.tsw (t := 99) (off := 98) (o := 110) (lo := 0) (hi := 5) (offs := #[39, 49, 58, 61, 72, 98]) (len := 39) (by decide +kernel) (by rw [c1_5]; decide) (by rw [c1_5]; decide) (by rw [c1_5]; decide) rfl <|
    Ev.go (pc' := 101) (ls' := [.ref 102, .int x1, .int x2, .long x3, ev_unk]) (st' := [.int x1, .ref 102]) [.aload_n 0, .iload_n 1] (by decide +kernel) rfl <|
    Ev.cV0 (M' := M_Mo_codeOf) (as := [.int x1]) (rest := []) l_Mo_85 M_Mo_codeOf_ok M_Mo_codeOf_in M_Mo_codeOf_se (by decide +kernel) (r25 c1_5) rfl rfl rfl (Nat.le_of_ble_eq_true rfl) (Nat.le_of_ble_eq_true rfl) (s_Mo_codeOf (pr22 c1_5) (pr23 c1_5) (pr24 c1_5) <| show Ev G (d + 3) _ _ M_Mo_valueOf 104 [.ref 102, .int x1, .int x2, .long x3, ev_unk] [.long (sCo S14 c_15)] h R from
      Ev.go (pc' := 106) (ls' := [.ref 102, .int x1, .int x2, .long x3, ev_unk]) (st' := [.long ((sCo S14 c_15) ^^^ x3)]) [.lload_n 3, .lxor] (by decide +kernel) rfl <|
      Ev.cS0 (M' := M_Mo_ones_J) (as := [.long ((sCo S14 c_15) ^^^ x3)]) (rest := []) l_Mo_88 M_Mo_ones_J_ok M_Mo_ones_J_st (by decide +kernel) rfl rfl (Nat.le_of_ble_eq_true rfl) (Nat.le_of_ble_eq_true rfl) (s_Mo_ones_J <| show Ev G (d + 3) _ _ M_Mo_valueOf 109 [.ref 102, .int x1, .int x2, .long x3, ev_unk] [.int (nI (pop ((sCo S14 c_15) ^^^ x3)))] h R from
        Ev.go (pc' := 110) (ls' := [.ref 102, .int x1, .int x2, .long x3, ev_unk]) (st' := [.long (nI (pop ((sCo S14 c_15) ^^^ x3))).toInt64]) [.i2l] (by decide +kernel) rfl <|
        Ev.ret (r := (some (.long (nI (pop ((sCo S14 c_15) ^^^ x3))).toInt64))) (Or.inr (Or.inl ⟨_, rfl, by decide +kernel, rfl⟩)) (k7 c1_5)
      )
    )
  else
  Ev.tswd (t := 111) (o := 110) (lo := 0) (hi := 5) (offs := #[39, 49, 58, 61, 72, 98]) (len := 39) (by decide +kernel) (by have qc1_0 := ne_i (v := 0) (0 : Int32) (by decide) c1_0; have qc1_1 := ne_i (v := 1) (1 : Int32) (by decide) c1_1; have qc1_2 := ne_i (v := 2) (2 : Int32) (by decide) c1_2; have qc1_3 := ne_i (v := 3) (3 : Int32) (by decide) c1_3; have qc1_4 := ne_i (v := 4) (4 : Int32) (by decide) c1_4; have qc1_5 := ne_i (v := 5) (5 : Int32) (by decide) c1_5; omega) rfl <|
    Ev.go (pc' := 112) (ls' := [.ref 102, .int x1, .int x2, .long x3, ev_unk]) (st' := [.long x3]) [.lload_n 3] (by decide +kernel) rfl <|
    Ev.ret (r := (some (.long x3))) (Or.inr (Or.inl ⟨_, rfl, by decide +kernel, rfl⟩)) (k8 c1_0 c1_1 c1_2 c1_3 c1_4 c1_5)
  
section S45
variable {G : ev_G} {d : Nat} {h : ev_H} {R : Option Value → ev_H → Prop} {S : AS}
theorem bL_t : (b2i true).toInt64 = 1 := rfl
theorem bL_f : (b2i false).toInt64 = 0 := rfl
theorem s_Mo_two {w : Int32} {a b : Int64} (hR : R (some (.long (twoL w a b))) h) : Ev G d 0 0 M_Mo_two 0 [.int w, .long a, ev_unk, .long b, ev_unk] [] h R := by
  unfold twoL at hR
  refine b_Mo_two_0 (fun c1 c2 => ?_) (fun c1 c2 => ?_) (fun c1 c2 => ?_) (fun c1 c2 => ?_) (fun c1 c2 => ?_) (fun c1 c2 => ?_) (fun c1 => ?_) (fun c1 => ?_) (fun c1 c2 c3 c4 c5 => ?_)
  · rw [if_pos c1, decide_eq_true c2] at hR; exact hR
  · rw [if_pos c1, decide_eq_false c2] at hR; exact hR
  · rw [if_neg (by rw [c1]; decide), if_pos c1, decide_eq_true c2] at hR; exact hR
  · rw [if_neg (by rw [c1]; decide), if_pos c1, decide_eq_false c2] at hR; exact hR
  · rw [if_neg (by rw [c1]; decide), if_neg (by rw [c1]; decide), if_pos c1, decide_eq_true c2] at hR; exact hR
  · rw [if_neg (by rw [c1]; decide), if_neg (by rw [c1]; decide), if_pos c1, decide_eq_false c2] at hR; exact hR
  · rw [if_neg (by rw [c1]; decide), if_neg (by rw [c1]; decide), if_neg (by rw [c1]; decide), if_neg (by rw [c1]; decide)] at hR; exact hR
  · rw [if_neg (by rw [c1]; decide), if_neg (by rw [c1]; decide), if_neg (by rw [c1]; decide), if_pos c1] at hR; exact hR
  · rw [if_neg c1, if_neg c2, if_neg c3, if_neg c5] at hR; exact hR
theorem nI_ne {a b : Nat} (ha : a < 2147483648) (hb : b < 2147483648) (n : a ≠ b) : ¬ nI a = nI b := fun z => n ((nI_eq ha hb).mp z)
theorem s_Mo_valueOf {c : Nat} {s : AStp} (H : MS h S) (ok : sOk S) (hc : c < sN S) (so : stpOk s) (h3 : 3 ≤ s.1) (hR : R (some (.long (lN (vlN S c s)))) h) : Ev G (d + 3) 0 0 M_Mo_valueOf 0 [.ref 102, .int (nI c), .int (nI (s.1 - 3)), .long (muchL s), ev_unk] [] h R := by
  have ⟨v, z, g, m1, m2, sl⟩ := H
  have n32 := ok.2.2.2.2.1
  have p6 := ok.2.2.2.1
  have cc : nI c = nI c ∧ c < sN S := ⟨rfl, hc⟩
  have k8 := so.1
  have k48 := so.2.2.1
  have up : ∀ k : Nat, k < 10 → nI (s.1 - 3) = nI k → s.1 = k + 3 := fun k hk e => by
    have := (nI_eq (by omega) (by omega)).mp e; omega
  refine b_Mo_valueOf_0 (c_2 := c) (j_6 := 42 + c) (c_8 := c) (c_11 := c) (p_13 := s.2.2.1) (c_15 := c) (fun c1 => H) (fun c1 => ok) (fun c1 => cc) (fun c1 => ⟨_, m1⟩) (fun c1 => m1) (fun c1 => m2) (fun c1 => ⟨nI_add 42 c, by omega, by omega⟩) (fun c1 => ⟨_, m1⟩) (fun c1 => H) (fun c1 => ok) (fun c1 => cc) (fun c1 => ⟨_, m1⟩) (fun c1 => H) (fun c1 => ⟨_, m1⟩) (fun c1 c2 => H) (fun c1 c2 => ok) (fun c1 c2 => cc) (fun c1 c2 => ⟨_, m1⟩) (fun c1 c2 => H) (fun c1 c2 => ok) (fun c1 c2 => ?_) (fun c1 => H) (fun c1 => ok) (fun c1 => cc) (fun c1 => ⟨_, m1⟩) (fun c1 => ?_) (fun c1 => ?_) (fun c1 => ?_) (fun c1 => ?_) (fun c1 c2 => ?_) (fun c1 c2 => ?_) (fun c1 => ?_) (fun c1 c2 c3 c4 c5 c6 => ?_)
  · have q := up 4 (by omega) c1
    have mu : muchL s = lN s.2.2.1 := by unfold muchL; rw [if_neg (by omega), if_pos (by omega)]
    rw [mu, nI_l (by omega)] at c2
    rw [mu, lN_i]
    exact ⟨rfl, (lN_lt (by omega) (by omega)).mp c2⟩
  · have q := up 0 (by omega) c1
    have e : vlN S c s = pop (sCo S c) := if_pos q
    rw [nI_l (by have := pop_le (sCo S c); omega), ← e]; exact hR
  · have q := up 1 (by omega) c1
    have e : vlN S c s = sTg S c := by unfold vlN; rw [if_neg (by omega), if_pos q]
    have := (sl.2.2.2.2.2.1 c hc).2
    rw [Nat.zero_add] at this
    rw [this, ← e]; exact hR
  · have q := up 2 (by omega) c1
    have e : vlN S c s = c := by unfold vlN; rw [if_neg (by omega), if_neg (by omega), if_pos q]
    rw [nI_l (by omega)]; rw [e] at hR; exact hR
  · have q := up 3 (by omega) c1
    have mu : muchL s = lN s.2.2.1 := by unfold muchL; rw [if_neg (by omega), if_pos (by omega)]
    have e : vlN S c s = if lt (sCo S c) s.2.2.1 then 1 else 0 := by unfold vlN; rw [if_neg (by omega), if_neg (by omega), if_neg (by omega), if_pos q]
    rw [mu, lN_i, has_eqL, tbL_n (by omega)]
    rw [e] at hR
    cases w : lt (sCo S c) s.2.2.1 <;> rw [w] at hR <;> exact hR
  · have q := up 4 (by omega) c1
    have mu : muchL s = lN s.2.2.1 := by unfold muchL; rw [if_neg (by omega), if_pos (by omega)]
    rw [mu, nI_l (by omega)] at c2
    have c2 := (lN_lt (by omega) (by omega)).mp c2
    have e : vlN S c s = keyN (sCo S c) (stt S s.2.2.1) (sBr S s.2.2.1) := by unfold vlN; rw [if_neg (by omega), if_neg (by omega), if_neg (by omega), if_neg (by omega), if_pos q, if_pos c2]
    rw [e] at hR; exact hR
  · have q := up 4 (by omega) c1
    have mu : muchL s = lN s.2.2.1 := by unfold muchL; rw [if_neg (by omega), if_pos (by omega)]
    rw [mu, nI_l (by omega)] at c2
    have c2 : ¬ s.2.2.1 < sP S := fun z => c2 ((lN_lt (by omega) (by omega)).mpr z)
    have e : vlN S c s = 0 := by unfold vlN; rw [if_neg (by omega), if_neg (by omega), if_neg (by omega), if_neg (by omega), if_pos q, if_neg c2]
    rw [e] at hR; exact hR
  · have q := up 5 (by omega) c1
    have mu : muchL s = s.2.2.2.2 := by unfold muchL; rw [if_pos (by omega)]
    have e : vlN S c s = pop (sCo S c ^^^ s.2.2.2.2) := by unfold vlN; rw [if_neg (by omega), if_neg (by omega), if_neg (by omega), if_neg (by omega), if_neg (by omega)]
    rw [mu, nI_l (by have := pop_le (sCo S c ^^^ s.2.2.2.2); omega), ← e]; exact hR
  · have n : ∀ k : Nat, k < 10 → ¬ nI (s.1 - 3) = nI k → s.1 ≠ k + 3 := fun k hk z e => z (by rw [e]; rfl)
    have n0 := n 0 (by omega) c1
    have n1 := n 1 (by omega) c2
    have n2 := n 2 (by omega) c3
    have n3 := n 3 (by omega) c4
    have n4 := n 4 (by omega) c5
    have n5 := n 5 (by omega) c6
    omega
/-- a constant -/
theorem s_Mo_valueOf6 {c : Nat} {m : Int64} (hR : R (some (.long m)) h) (H : MS h S) (ok : sOk S) : Ev G (d + 3) 0 0 M_Mo_valueOf 0 [.ref 102, .int (nI c), .int (nI 6), .long m, ev_unk] [] h R := by
  have ⟨v, z, g, m1, m2, sl⟩ := H
  refine b_Mo_valueOf_0 (c_2 := 0) (j_6 := 0) (c_8 := 0) (c_11 := 0) (p_13 := 0) (c_15 := 0) (fun c1 => H) (fun c1 => ok) (fun c1 => absurd c1 (by decide)) (fun c1 => ⟨_, m1⟩) (fun c1 => m1) (fun c1 => m2) (fun c1 => absurd c1 (by decide)) (fun c1 => ⟨_, m1⟩) (fun c1 => H) (fun c1 => ok) (fun c1 => absurd c1 (by decide)) (fun c1 => ⟨_, m1⟩) (fun c1 => H) (fun c1 => ⟨_, m1⟩) (fun c1 c2 => H) (fun c1 c2 => ok) (fun c1 c2 => absurd c1 (by decide)) (fun c1 c2 => ⟨_, m1⟩) (fun c1 c2 => H) (fun c1 c2 => ok) (fun c1 c2 => absurd c1 (by decide)) (fun c1 => H) (fun c1 => ok) (fun c1 => absurd c1 (by decide)) (fun c1 => ⟨_, m1⟩) (fun c1 => absurd c1 (by decide)) (fun c1 => absurd c1 (by decide)) (fun c1 => absurd c1 (by decide)) (fun c1 => absurd c1 (by decide)) (fun c1 c2 => absurd c1 (by decide)) (fun c1 c2 => absurd c1 (by decide)) (fun c1 => absurd c1 (by decide)) (fun c1 c2 c3 c4 c5 c6 => hR)
-- what the cells say
theorem cel_and {m : Int64} {w : Nat} (hw : w < 16) (hm : m.toBitVec.toNat < 2 ^ 59) : cel m w &&& 15 = lN w := by
  unfold cel
  have e : (15 : Int64) = lN 15 := rfl
  rw [e, l_andN _ _ (by omega), show (15 : Nat) = 2 ^ 4 - 1 from rfl, Nat.and_two_pow_sub_one_eq_mod]
  congr 1; omega
theorem cel_shr {m : Int64} {w : Nat} (hw : w < 16) (hm : m.toBitVec.toNat < 2 ^ 59) : cel m w >>> ((4 : Int32).toInt64 &&& 63) = m := by
  unfold cel
  refine l_ext fun i hi => ?_
  rw [show (4 : Int32) = nI 4 from rfl, l_sshr 4 (by omega) _ hi]
  have b : ∀ j, lt (lN (m.toBitVec.toNat * 16 + w)) (4 + j) = lt m j := fun j => by
    rw [lt_lN _ _ (by omega), ← lN_toNat m, lt_lN _ _ m.toBitVec.isLt, lN_toNat, show m.toBitVec.toNat * 16 + w = 2 ^ 4 * m.toBitVec.toNat + w by omega, Nat.testBit_two_pow_mul_add _ (by omega), if_neg (by omega), Nat.add_sub_cancel_left]
  split
  · exact b i
  · have hb : ∀ j, 59 ≤ j → lt m j = false := fun j hj => by
      rw [← lN_toNat m, lt_lN _ _ m.toBitVec.isLt]
      exact Nat.testBit_lt_two_pow (Nat.lt_of_lt_of_le hm (Nat.pow_le_pow_right (by decide) hj))
    rw [show (63 : Nat) = 4 + 59 from rfl, b 59, hb 59 (by omega), hb i (by omega)]
end S45
