/-! the model's filters -/
def twoL (w : Int32) (a b : Int64) : Int64 := if w = 7 then (b2i (decide (a < b))).toInt64 else if w = 8 then (b2i (decide (a = b))).toInt64 else if w = 9 then (b2i (decide (b < a))).toInt64 else if w = 11 then a &&& b else a ||| b
def muchL (s : AStp) : Int64 := if s.1 = 8 then s.2.2.2.2 else if s.1 = 6 ∨ s.1 = 7 then lN s.2.2.1 else 0
theorem b_Mo_two_0 {G : ev_G} {d k n : Nat} {h : ev_H} {R : Option Value → ev_H → Prop} {x0 : Int32} {x1 : Int64} {x3 : Int64}
  (k1 : x0 = (7 : Int32) → x1 < x3 → R (some (.long (1 : Int64))) h)
  (k2 : x0 = (7 : Int32) → ¬ x1 < x3 → R (some (.long (0 : Int64))) h)
  (k3 : x0 = (8 : Int32) → x1 = x3 → R (some (.long (1 : Int64))) h)
  (k4 : x0 = (8 : Int32) → ¬ x1 = x3 → R (some (.long (0 : Int64))) h)
  (k5 : x0 = (9 : Int32) → x3 < x1 → R (some (.long (1 : Int64))) h)
  (k6 : x0 = (9 : Int32) → ¬ x3 < x1 → R (some (.long (0 : Int64))) h)
  (k7 : x0 = (10 : Int32) → R (some (.long (x1 ||| x3))) h)
  (k8 : x0 = (11 : Int32) → R (some (.long (x1 &&& x3))) h)
  (k9 : ¬ x0 = (7 : Int32) → ¬ x0 = (8 : Int32) → ¬ x0 = (9 : Int32) → ¬ x0 = (10 : Int32) → ¬ x0 = (11 : Int32) → R (some (.long (x1 ||| x3))) h)
  : Ev G d k n M_Mo_two 0 [.int x0, .long x1, ev_unk, .long x3, ev_unk] [] h R :=
  Ev.go (pc' := 1) (ls' := [.int x0, .long x1, ev_unk, .long x3, ev_unk]) (st' := [.int x0]) [.iload_n 0] (by decide +kernel) rfl <|
  if c1_0 : x0 = (7 : Int32) then Ev.tsw (t := 36) (off := 35) (o := 75) (lo := 7) (hi := 11) (offs := #[35, 47, 59, 75, 71]) (len := 35) (by decide +kernel) (by rw [c1_0]; decide) (by rw [c1_0]; decide) (by rw [c1_0]; decide) rfl <|
    Ev.go (pc' := 38) (ls' := [.int x0, .long x1, ev_unk, .long x3, ev_unk]) (st' := [.long x3, .long x1]) [.lload_n 1, .lload_n 3] (by decide +kernel) rfl <|
    Ev.brl (c := .ge) (o := 7) (P := x1 < x3) (t := 42) (f := 46) (t1 := 46) (by decide +kernel) (by decide +kernel) rfl rfl (fun c2 =>
      Ev.go (pc' := 47) (ls' := [.int x0, .long x1, ev_unk, .long x3, ev_unk]) (st' := [.long (1 : Int64)]) [.lconst 1, .goto (4)] (by decide +kernel) rfl <|
      Ev.ret (r := (some (.long (1 : Int64)))) (Or.inr (Or.inl ⟨_, rfl, by decide +kernel, rfl⟩)) (k1 c1_0 c2)
    ) (fun c2 =>
      Ev.go (pc' := 47) (ls' := [.int x0, .long x1, ev_unk, .long x3, ev_unk]) (st' := [.long (0 : Int64)]) [.lconst 0] (by decide +kernel) rfl <|
      Ev.ret (r := (some (.long (0 : Int64)))) (Or.inr (Or.inl ⟨_, rfl, by decide +kernel, rfl⟩)) (k2 c1_0 c2)
    )
  else
  if c1_1 : x0 = (8 : Int32) then Ev.tsw (t := 48) (off := 47) (o := 75) (lo := 7) (hi := 11) (offs := #[35, 47, 59, 75, 71]) (len := 35) (by decide +kernel) (by rw [c1_1]; decide) (by rw [c1_1]; decide) (by rw [c1_1]; decide) rfl <|
    Ev.go (pc' := 50) (ls' := [.int x0, .long x1, ev_unk, .long x3, ev_unk]) (st' := [.long x3, .long x1]) [.lload_n 1, .lload_n 3] (by decide +kernel) rfl <|
    Ev.brl (c := .ne) (o := 7) (P := x1 = x3) (t := 54) (f := 58) (t1 := 58) (by decide +kernel) (by decide +kernel) rfl rfl (fun c2 =>
      Ev.go (pc' := 59) (ls' := [.int x0, .long x1, ev_unk, .long x3, ev_unk]) (st' := [.long (1 : Int64)]) [.lconst 1, .goto (4)] (by decide +kernel) rfl <|
      Ev.ret (r := (some (.long (1 : Int64)))) (Or.inr (Or.inl ⟨_, rfl, by decide +kernel, rfl⟩)) (k3 c1_1 c2)
    ) (fun c2 =>
      Ev.go (pc' := 59) (ls' := [.int x0, .long x1, ev_unk, .long x3, ev_unk]) (st' := [.long (0 : Int64)]) [.lconst 0] (by decide +kernel) rfl <|
      Ev.ret (r := (some (.long (0 : Int64)))) (Or.inr (Or.inl ⟨_, rfl, by decide +kernel, rfl⟩)) (k4 c1_1 c2)
    )
  else
  if c1_2 : x0 = (9 : Int32) then Ev.tsw (t := 60) (off := 59) (o := 75) (lo := 7) (hi := 11) (offs := #[35, 47, 59, 75, 71]) (len := 35) (by decide +kernel) (by rw [c1_2]; decide) (by rw [c1_2]; decide) (by rw [c1_2]; decide) rfl <|
    Ev.go (pc' := 62) (ls' := [.int x0, .long x1, ev_unk, .long x3, ev_unk]) (st' := [.long x3, .long x1]) [.lload_n 1, .lload_n 3] (by decide +kernel) rfl <|
    Ev.brl (c := .le) (o := 7) (P := x3 < x1) (t := 66) (f := 70) (t1 := 70) (by decide +kernel) (by decide +kernel) rfl rfl (fun c2 =>
      Ev.go (pc' := 71) (ls' := [.int x0, .long x1, ev_unk, .long x3, ev_unk]) (st' := [.long (1 : Int64)]) [.lconst 1, .goto (4)] (by decide +kernel) rfl <|
      Ev.ret (r := (some (.long (1 : Int64)))) (Or.inr (Or.inl ⟨_, rfl, by decide +kernel, rfl⟩)) (k5 c1_2 c2)
    ) (fun c2 =>
      Ev.go (pc' := 71) (ls' := [.int x0, .long x1, ev_unk, .long x3, ev_unk]) (st' := [.long (0 : Int64)]) [.lconst 0] (by decide +kernel) rfl <|
      Ev.ret (r := (some (.long (0 : Int64)))) (Or.inr (Or.inl ⟨_, rfl, by decide +kernel, rfl⟩)) (k6 c1_2 c2)
    )
  else
  if c1_3 : x0 = (10 : Int32) then Ev.tsw (t := 76) (off := 75) (o := 75) (lo := 7) (hi := 11) (offs := #[35, 47, 59, 75, 71]) (len := 35) (by decide +kernel) (by rw [c1_3]; decide) (by rw [c1_3]; decide) (by rw [c1_3]; decide) rfl <|
    Ev.go (pc' := 79) (ls' := [.int x0, .long x1, ev_unk, .long x3, ev_unk]) (st' := [.long (x1 ||| x3)]) [.lload_n 1, .lload_n 3, .lor] (by decide +kernel) rfl <|
    Ev.ret (r := (some (.long (x1 ||| x3)))) (Or.inr (Or.inl ⟨_, rfl, by decide +kernel, rfl⟩)) (k7 c1_3)
  else
  if c1_4 : x0 = (11 : Int32) then Ev.tsw (t := 72) (off := 71) (o := 75) (lo := 7) (hi := 11) (offs := #[35, 47, 59, 75, 71]) (len := 35) (by decide +kernel) (by rw [c1_4]; decide) (by rw [c1_4]; decide) (by rw [c1_4]; decide) rfl <|
    Ev.go (pc' := 75) (ls' := [.int x0, .long x1, ev_unk, .long x3, ev_unk]) (st' := [.long (x1 &&& x3)]) [.lload_n 1, .lload_n 3, .land] (by decide +kernel) rfl <|
    Ev.ret (r := (some (.long (x1 &&& x3)))) (Or.inr (Or.inl ⟨_, rfl, by decide +kernel, rfl⟩)) (k8 c1_4)
  else
  Ev.tswd (t := 76) (o := 75) (lo := 7) (hi := 11) (offs := #[35, 47, 59, 75, 71]) (len := 35) (by decide +kernel) (by have qc1_0 := ne_i (v := 7) (7 : Int32) (by decide) c1_0; have qc1_1 := ne_i (v := 8) (8 : Int32) (by decide) c1_1; have qc1_2 := ne_i (v := 9) (9 : Int32) (by decide) c1_2; have qc1_3 := ne_i (v := 10) (10 : Int32) (by decide) c1_3; have qc1_4 := ne_i (v := 11) (11 : Int32) (by decide) c1_4; omega) rfl <|
    Ev.go (pc' := 79) (ls' := [.int x0, .long x1, ev_unk, .long x3, ev_unk]) (st' := [.long (x1 ||| x3)]) [.lload_n 1, .lload_n 3, .lor] (by decide +kernel) rfl <|
    Ev.ret (r := (some (.long (x1 ||| x3)))) (Or.inr (Or.inl ⟨_, rfl, by decide +kernel, rfl⟩)) (k9 c1_0 c1_1 c1_2 c1_3 c1_4)
  
theorem b_Mo_valueOf_0 {G : ev_G} {d k n : Nat} {h : ev_H} {R : Option Value → ev_H → Prop} {x1 : Int32} {x2 : Int32} {x3 : Int64} {S1 : AS} {c_2 : Nat} {v_3 : MG} {z_4 : MP} {g_5 : Nat → Int64} {j_6 : Nat} {S7 : AS} {c_8 : Nat} {S9 : AS} {S10 : AS} {c_11 : Nat} {S12 : AS} {p_13 : Nat} {S14 : AS} {c_15 : Nat}
  (pr1 : x2 = (0 : Int32) → MS h S1)
  (pr2 : x2 = (0 : Int32) → sOk S1)
  (pr3 : x2 = (0 : Int32) → x1 = nI c_2 ∧ c_2 < sN S1)
  (r4 : x2 = (0 : Int32) → ∃ fs, hat h 102 (oC 9 fs))
  (pr5 : x2 = (1 : Int32) → hat h 102 (moC v_3 z_4))
  (pr6 : x2 = (1 : Int32) → hat h 103 (aL 9758 g_5))
  (pr7 : x2 = (1 : Int32) → ev_ix ((42 : Int32) + x1) j_6 9758)
  (r8 : x2 = (1 : Int32) → ∃ fs, hat h 102 (oC 9 fs))
  (pr9 : x2 = (3 : Int32) → MS h S7)
  (pr10 : x2 = (3 : Int32) → sOk S7)
  (pr11 : x2 = (3 : Int32) → x1 = nI c_8 ∧ c_8 < sN S7)
  (r12 : x2 = (3 : Int32) → ∃ fs, hat h 102 (oC 9 fs))
  (pr13 : x2 = (4 : Int32) → MS h S9)
  (r14 : x2 = (4 : Int32) → ∃ fs, hat h 102 (oC 9 fs))
  (pr15 : x2 = (4 : Int32) → x3 < (nI (sP S9)).toInt64 → MS h S10)
  (pr16 : x2 = (4 : Int32) → x3 < (nI (sP S9)).toInt64 → sOk S10)
  (pr17 : x2 = (4 : Int32) → x3 < (nI (sP S9)).toInt64 → x1 = nI c_11 ∧ c_11 < sN S10)
  (r18 : x2 = (4 : Int32) → x3 < (nI (sP S9)).toInt64 → ∃ fs, hat h 102 (oC 9 fs))
  (pr19 : x2 = (4 : Int32) → x3 < (nI (sP S9)).toInt64 → MS h S12)
  (pr20 : x2 = (4 : Int32) → x3 < (nI (sP S9)).toInt64 → sOk S12)
  (pr21 : x2 = (4 : Int32) → x3 < (nI (sP S9)).toInt64 → x3.toInt32 = nI p_13 ∧ p_13 < sP S12)
  (pr22 : x2 = (5 : Int32) → MS h S14)
  (pr23 : x2 = (5 : Int32) → sOk S14)
  (pr24 : x2 = (5 : Int32) → x1 = nI c_15 ∧ c_15 < sN S14)
  (r25 : x2 = (5 : Int32) → ∃ fs, hat h 102 (oC 9 fs))
  (k1 : x2 = (0 : Int32) → R (some (.long (nI (pop (sCo S1 c_2))).toInt64)) h)
  (k2 : x2 = (1 : Int32) → R (some (.long (g_5 j_6))) h)
  (k3 : x2 = (2 : Int32) → R (some (.long x1.toInt64)) h)
  (k4 : x2 = (3 : Int32) → R (some (.long (((sCo S7 c_8) >>> (x3.toInt32.toInt64 &&& 63)) &&& (1 : Int64)))) h)
  (k5 : x2 = (4 : Int32) → x3 < (nI (sP S9)).toInt64 → R (some (.long (lN (keyN (sCo S10 c_11) (stt S12 p_13) (sBr S12 p_13))))) h)
  (k6 : x2 = (4 : Int32) → ¬ x3 < (nI (sP S9)).toInt64 → R (some (.long (0 : Int64))) h)
  (k7 : x2 = (5 : Int32) → R (some (.long (nI (pop ((sCo S14 c_15) ^^^ x3))).toInt64)) h)
  (k8 : ¬ x2 = (0 : Int32) → ¬ x2 = (1 : Int32) → ¬ x2 = (2 : Int32) → ¬ x2 = (3 : Int32) → ¬ x2 = (4 : Int32) → ¬ x2 = (5 : Int32) → R (some (.long x3)) h)
  : Ev G (d + 3) k n M_Mo_valueOf 0 [.ref 102, .int x1, .int x2, .long x3, ev_unk] [] h R :=
  Ev.go (pc' := 1) (ls' := [.ref 102, .int x1, .int x2, .long x3, ev_unk]) (st' := [.int x2]) [.iload_n 2] (by decide +kernel) rfl <|
  if c1_0 : x2 = (0 : Int32) then Ev.tsw (t := 40) (off := 39) (o := 110) (lo := 0) (hi := 5) (offs := #[39, 49, 58, 61, 72, 98]) (len := 39) (by decide +kernel) (by rw [c1_0]; decide) (by rw [c1_0]; decide) (by rw [c1_0]; decide) rfl <|
    Ev.go (pc' := 42) (ls' := [.ref 102, .int x1, .int x2, .long x3, ev_unk]) (st' := [.int x1, .ref 102]) [.aload_n 0, .iload_n 1] (by decide +kernel) rfl <|
    Ev.cV0 (M' := M_Mo_codeOf) (as := [.int x1]) (rest := []) l_Mo_85 M_Mo_codeOf_ok M_Mo_codeOf_in M_Mo_codeOf_se (by decide +kernel) (r4 c1_0) rfl rfl rfl (Nat.le_of_ble_eq_true rfl) (Nat.le_of_ble_eq_true rfl) (s_Mo_codeOf (pr1 c1_0) (pr2 c1_0) (pr3 c1_0) <| show Ev G (d + 3) _ _ M_Mo_valueOf 45 [.ref 102, .int x1, .int x2, .long x3, ev_unk] [.long (sCo S1 c_2)] h R from
      Ev.cS0 (M' := M_Mo_ones_J) (as := [.long (sCo S1 c_2)]) (rest := []) l_Mo_88 M_Mo_ones_J_ok M_Mo_ones_J_st (by decide +kernel) rfl rfl (Nat.le_of_ble_eq_true rfl) (Nat.le_of_ble_eq_true rfl) (s_Mo_ones_J <| show Ev G (d + 3) _ _ M_Mo_valueOf 48 [.ref 102, .int x1, .int x2, .long x3, ev_unk] [.int (nI (pop (sCo S1 c_2)))] h R from
        Ev.go (pc' := 49) (ls' := [.ref 102, .int x1, .int x2, .long x3, ev_unk]) (st' := [.long (nI (pop (sCo S1 c_2))).toInt64]) [.i2l] (by decide +kernel) rfl <|
        Ev.ret (r := (some (.long (nI (pop (sCo S1 c_2))).toInt64))) (Or.inr (Or.inl ⟨_, rfl, by decide +kernel, rfl⟩)) (k1 c1_0)
      )
    )
  else
  if c1_1 : x2 = (1 : Int32) then Ev.tsw (t := 50) (off := 49) (o := 110) (lo := 0) (hi := 5) (offs := #[39, 49, 58, 61, 72, 98]) (len := 39) (by decide +kernel) (by rw [c1_1]; decide) (by rw [c1_1]; decide) (by rw [c1_1]; decide) rfl <|
    Ev.go (pc' := 55) (ls' := [.ref 102, .int x1, .int x2, .long x3, ev_unk]) (st' := [.int ((42 : Int32) + x1), .ref 102]) [.aload_n 0, .bipush (42), .iload_n 1, .iadd] (by decide +kernel) rfl <|
    Ev.cV0 (M' := M_Mo_of) (as := [.int ((42 : Int32) + x1)]) (rest := []) l_Mo_64 M_Mo_of_ok M_Mo_of_in M_Mo_of_se (by decide +kernel) (r8 c1_1) rfl rfl rfl (Nat.le_of_ble_eq_true rfl) (Nat.le_of_ble_eq_true rfl) (s_Mo_of (pr5 c1_1) (pr6 c1_1) (pr7 c1_1) <| show Ev G (d + 3) _ _ M_Mo_valueOf 58 [.ref 102, .int x1, .int x2, .long x3, ev_unk] [.long (g_5 j_6)] h R from
      Ev.ret (r := (some (.long (g_5 j_6)))) (Or.inr (Or.inl ⟨_, rfl, by decide +kernel, rfl⟩)) (k2 c1_1)
    )
  else
  if c1_2 : x2 = (2 : Int32) then Ev.tsw (t := 59) (off := 58) (o := 110) (lo := 0) (hi := 5) (offs := #[39, 49, 58, 61, 72, 98]) (len := 39) (by decide +kernel) (by rw [c1_2]; decide) (by rw [c1_2]; decide) (by rw [c1_2]; decide) rfl <|
    Ev.go (pc' := 61) (ls' := [.ref 102, .int x1, .int x2, .long x3, ev_unk]) (st' := [.long x1.toInt64]) [.iload_n 1, .i2l] (by decide +kernel) rfl <|
    Ev.ret (r := (some (.long x1.toInt64))) (Or.inr (Or.inl ⟨_, rfl, by decide +kernel, rfl⟩)) (k3 c1_2)
  else
  if c1_3 : x2 = (3 : Int32) then Ev.tsw (t := 62) (off := 61) (o := 110) (lo := 0) (hi := 5) (offs := #[39, 49, 58, 61, 72, 98]) (len := 39) (by decide +kernel) (by rw [c1_3]; decide) (by rw [c1_3]; decide) (by rw [c1_3]; decide) rfl <|
    Ev.go (pc' := 64) (ls' := [.ref 102, .int x1, .int x2, .long x3, ev_unk]) (st' := [.int x1, .ref 102]) [.aload_n 0, .iload_n 1] (by decide +kernel) rfl <|
    Ev.cV0 (M' := M_Mo_codeOf) (as := [.int x1]) (rest := []) l_Mo_85 M_Mo_codeOf_ok M_Mo_codeOf_in M_Mo_codeOf_se (by decide +kernel) (r12 c1_3) rfl rfl rfl (Nat.le_of_ble_eq_true rfl) (Nat.le_of_ble_eq_true rfl) (s_Mo_codeOf (pr9 c1_3) (pr10 c1_3) (pr11 c1_3) <| show Ev G (d + 3) _ _ M_Mo_valueOf 67 [.ref 102, .int x1, .int x2, .long x3, ev_unk] [.long (sCo S7 c_8)] h R from
      Ev.go (pc' := 72) (ls' := [.ref 102, .int x1, .int x2, .long x3, ev_unk]) (st' := [.long (((sCo S7 c_8) >>> (x3.toInt32.toInt64 &&& 63)) &&& (1 : Int64))]) [.lload_n 3, .l2i, .lshr, .lconst 1, .land] (by decide +kernel) rfl <|
      Ev.ret (r := (some (.long (((sCo S7 c_8) >>> (x3.toInt32.toInt64 &&& 63)) &&& (1 : Int64))))) (Or.inr (Or.inl ⟨_, rfl, by decide +kernel, rfl⟩)) (k4 c1_3)
    )
  else
  if c1_4 : x2 = (4 : Int32) then Ev.tsw (t := 73) (off := 72) (o := 110) (lo := 0) (hi := 5) (offs := #[39, 49, 58, 61, 72, 98]) (len := 39) (by decide +kernel) (by rw [c1_4]; decide) (by rw [c1_4]; decide) (by rw [c1_4]; decide) rfl <|
    Ev.go (pc' := 75) (ls' := [.ref 102, .int x1, .int x2, .long x3, ev_unk]) (st' := [.ref 102, .long x3]) [.lload_n 3, .aload_n 0] (by decide +kernel) rfl <|
    Ev.cV0 (M' := M_Mo_parts) (as := []) (rest := [.long x3]) l_Mo_75 M_Mo_parts_ok M_Mo_parts_in M_Mo_parts_se (by decide +kernel) (r14 c1_4) rfl rfl rfl (Nat.le_of_ble_eq_true rfl) (Nat.le_of_ble_eq_true rfl) (s_Mo_parts (pr13 c1_4) <| show Ev G (d + 3) _ _ M_Mo_valueOf 78 [.ref 102, .int x1, .int x2, .long x3, ev_unk] [.int (nI (sP S9)), .long x3] h R from
      Ev.go (pc' := 79) (ls' := [.ref 102, .int x1, .int x2, .long x3, ev_unk]) (st' := [.long (nI (sP S9)).toInt64, .long x3]) [.i2l] (by decide +kernel) rfl <|
      Ev.brl (c := .ge) (o := 17) (P := x3 < (nI (sP S9)).toInt64) (t := 83) (f := 97) (t1 := 97) (by decide +kernel) (by decide +kernel) rfl rfl (fun c2 =>
        Ev.go (pc' := 86) (ls' := [.ref 102, .int x1, .int x2, .long x3, ev_unk]) (st' := [.int x1, .ref 102, .ref 102]) [.aload_n 0, .aload_n 0, .iload_n 1] (by decide +kernel) rfl <|
        Ev.cV0 (M' := M_Mo_codeOf) (as := [.int x1]) (rest := [.ref 102]) l_Mo_85 M_Mo_codeOf_ok M_Mo_codeOf_in M_Mo_codeOf_se (by decide +kernel) (r18 c1_4 c2) rfl rfl rfl (Nat.le_of_ble_eq_true rfl) (Nat.le_of_ble_eq_true rfl) (s_Mo_codeOf (pr15 c1_4 c2) (pr16 c1_4 c2) (pr17 c1_4 c2) <| show Ev G (d + 3) _ _ M_Mo_valueOf 89 [.ref 102, .int x1, .int x2, .long x3, ev_unk] [.long (sCo S10 c_11), .ref 102] h R from
          Ev.go (pc' := 91) (ls' := [.ref 102, .int x1, .int x2, .long x3, ev_unk]) (st' := [.int x3.toInt32, .long (sCo S10 c_11), .ref 102]) [.lload_n 3, .l2i] (by decide +kernel) rfl <|
          Ev.cV0 (M' := M_Mo_keyOf) (as := [.long (sCo S10 c_11), .int x3.toInt32]) (rest := []) l_Mo_92 M_Mo_keyOf_ok M_Mo_keyOf_in M_Mo_keyOf_se (by decide +kernel) (r18 c1_4 c2) rfl rfl rfl (Nat.le_of_ble_eq_true rfl) (Nat.le_of_ble_eq_true rfl) (s_Mo_keyOf (pr19 c1_4 c2) (pr20 c1_4 c2) (pr21 c1_4 c2) <| show Ev G (d + 3) _ _ M_Mo_valueOf 94 [.ref 102, .int x1, .int x2, .long x3, ev_unk] [.long (lN (keyN (sCo S10 c_11) (stt S12 p_13) (sBr S12 p_13)))] h R from
            Ev.go (pc' := 98) (ls' := [.ref 102, .int x1, .int x2, .long x3, ev_unk]) (st' := [.long (lN (keyN (sCo S10 c_11) (stt S12 p_13) (sBr S12 p_13)))]) [.goto (4)] (by decide +kernel) rfl <|
            Ev.ret (r := (some (.long (lN (keyN (sCo S10 c_11) (stt S12 p_13) (sBr S12 p_13)))))) (Or.inr (Or.inl ⟨_, rfl, by decide +kernel, rfl⟩)) (k5 c1_4 c2)
          )
        )
      ) (fun c2 =>
        Ev.go (pc' := 98) (ls' := [.ref 102, .int x1, .int x2, .long x3, ev_unk]) (st' := [.long (0 : Int64)]) [.lconst 0] (by decide +kernel) rfl <|
        Ev.ret (r := (some (.long (0 : Int64)))) (Or.inr (Or.inl ⟨_, rfl, by decide +kernel, rfl⟩)) (k6 c1_4 c2)
      )
    )
  else
  if c1_5 : x2 = (5 : Int32) then Ev.tsw (t := 99) (off := 98) (o := 110) (lo := 0) (hi := 5) (offs := #[39, 49, 58, 61, 72, 98]) (len := 39) (by decide +kernel) (by rw [c1_5]; decide) (by rw [c1_5]; decide) (by rw [c1_5]; decide) rfl <|
    Ev.go (pc' := 101) (ls' := [.ref 102, .int x1, .int x2, .long x3, ev_unk]) (st' := [.int x1, .ref 102]) [.aload_n 0, .iload_n 1] (by decide +kernel) rfl <|
    Ev.cV0 (M' := M_Mo_codeOf) (as := [.int x1]) (rest := []) l_Mo_85 M_Mo_codeOf_ok M_Mo_codeOf_in M_Mo_codeOf_se (by decide +kernel) (r25 c1_5) rfl rfl rfl (Nat.le_of_ble_eq_true rfl) (Nat.le_of_ble_eq_true rfl) (s_Mo_codeOf (pr22 c1_5) (pr23 c1_5) (pr24 c1_5) <| show Ev G (d + 3) _ _ M_Mo_valueOf 104 [.ref 102, .int x1, .int x2, .long x3, ev_unk] [.long (sCo S14 c_15)] h R from
      Ev.go (pc' := 106) (ls' := [.ref 102, .int x1, .int x2, .long x3, ev_unk]) (st' := [.long ((sCo S14 c_15) ^^^ x3)]) [.lload_n 3, .lxor] (by decide +kernel) rfl <|
      Ev.cS0 (M' := M_Mo_ones_J) (as := [.long ((sCo S14 c_15) ^^^ x3)]) (rest := []) l_Mo_88 M_Mo_ones_J_ok M_Mo_ones_J_st (by decide +kernel) rfl rfl (Nat.le_of_ble_eq_true rfl) (Nat.le_of_ble_eq_true rfl) (s_Mo_ones_J <| show Ev G (d + 3) _ _ M_Mo_valueOf 109 [.ref 102, .int x1, .int x2, .long x3, ev_unk] [.int (nI (pop ((sCo S14 c_15) ^^^ x3)))] h R from
        Ev.go (pc' := 110) (ls' := [.ref 102, .int x1, .int x2, .long x3, ev_unk]) (st' := [.long (nI (pop ((sCo S14 c_15) ^^^ x3))).toInt64]) [.i2l] (by decide +kernel) rfl <|
        Ev.ret (r := (some (.long (nI (pop ((sCo S14 c_15) ^^^ x3))).toInt64))) (Or.inr (Or.inl ⟨_, rfl, by decide +kernel, rfl⟩)) (k7 c1_5)
      )
    )
  else
  Ev.tswd (t := 111) (o := 110) (lo := 0) (hi := 5) (offs := #[39, 49, 58, 61, 72, 98]) (len := 39) (by decide +kernel) (by have qc1_0 := ne_i (v := 0) (0 : Int32) (by decide) c1_0; have qc1_1 := ne_i (v := 1) (1 : Int32) (by decide) c1_1; have qc1_2 := ne_i (v := 2) (2 : Int32) (by decide) c1_2; have qc1_3 := ne_i (v := 3) (3 : Int32) (by decide) c1_3; have qc1_4 := ne_i (v := 4) (4 : Int32) (by decide) c1_4; have qc1_5 := ne_i (v := 5) (5 : Int32) (by decide) c1_5; omega) rfl <|
    Ev.go (pc' := 112) (ls' := [.ref 102, .int x1, .int x2, .long x3, ev_unk]) (st' := [.long x3]) [.lload_n 3] (by decide +kernel) rfl <|
    Ev.ret (r := (some (.long x3))) (Or.inr (Or.inl ⟨_, rfl, by decide +kernel, rfl⟩)) (k8 c1_0 c1_1 c1_2 c1_3 c1_4 c1_5)
  
section S45
variable {G : ev_G} {d : Nat} {h : ev_H} {R : Option Value → ev_H → Prop} {S : AS}
theorem bL_t : (b2i true).toInt64 = 1 := rfl
theorem bL_f : (b2i false).toInt64 = 0 := rfl
theorem s_Mo_two {w : Int32} {a b : Int64} (hR : R (some (.long (twoL w a b))) h) : Ev G d 0 0 M_Mo_two 0 [.int w, .long a, ev_unk, .long b, ev_unk] [] h R := by
  unfold twoL at hR
  refine b_Mo_two_0 (fun c1 c2 => ?_) (fun c1 c2 => ?_) (fun c1 c2 => ?_) (fun c1 c2 => ?_) (fun c1 c2 => ?_) (fun c1 c2 => ?_) (fun c1 => ?_) (fun c1 => ?_) (fun c1 c2 c3 c4 c5 => ?_)
  · rw [if_pos c1, decide_eq_true c2] at hR; exact hR
  · rw [if_pos c1, decide_eq_false c2] at hR; exact hR
  · rw [if_neg (by rw [c1]; decide), if_pos c1, decide_eq_true c2] at hR; exact hR
  · rw [if_neg (by rw [c1]; decide), if_pos c1, decide_eq_false c2] at hR; exact hR
  · rw [if_neg (by rw [c1]; decide), if_neg (by rw [c1]; decide), if_pos c1, decide_eq_true c2] at hR; exact hR
  · rw [if_neg (by rw [c1]; decide), if_neg (by rw [c1]; decide), if_pos c1, decide_eq_false c2] at hR; exact hR
  · rw [if_neg (by rw [c1]; decide), if_neg (by rw [c1]; decide), if_neg (by rw [c1]; decide), if_neg (by rw [c1]; decide)] at hR; exact hR
  · rw [if_neg (by rw [c1]; decide), if_neg (by rw [c1]; decide), if_neg (by rw [c1]; decide), if_pos c1] at hR; exact hR
  · rw [if_neg c1, if_neg c2, if_neg c3, if_neg c5] at hR; exact hR
theorem nI_ne {a b : Nat} (ha : a < 2147483648) (hb : b < 2147483648) (n : a ≠ b) : ¬ nI a = nI b := fun z => n ((nI_eq ha hb).mp z)
theorem s_Mo_valueOf {c : Nat} {s : AStp} (H : MS h S) (ok : sOk S) (hc : c < sN S) (so : stpOk s) (h3 : 3 ≤ s.1) (hR : R (some (.long (lN (vlN S c s)))) h) : Ev G (d + 3) 0 0 M_Mo_valueOf 0 [.ref 102, .int (nI c), .int (nI (s.1 - 3)), .long (muchL s), ev_unk] [] h R := by
  have ⟨v, z, g, m1, m2, sl⟩ := H
  have n32 := ok.2.2.2.2.1
  have p6 := ok.2.2.2.1
  have cc : nI c = nI c ∧ c < sN S := ⟨rfl, hc⟩
  have k8 := so.1
  have k48 := so.2.2.1
  have up : ∀ k : Nat, k < 10 → nI (s.1 - 3) = nI k → s.1 = k + 3 := fun k hk e => by
    have := (nI_eq (by omega) (by omega)).mp e; omega
  refine b_Mo_valueOf_0 (c_2 := c) (j_6 := 42 + c) (c_8 := c) (c_11 := c) (p_13 := s.2.2.1) (c_15 := c) (fun c1 => H) (fun c1 => ok) (fun c1 => cc) (fun c1 => ⟨_, m1⟩) (fun c1 => m1) (fun c1 => m2) (fun c1 => ⟨nI_add 42 c, by omega, by omega⟩) (fun c1 => ⟨_, m1⟩) (fun c1 => H) (fun c1 => ok) (fun c1 => cc) (fun c1 => ⟨_, m1⟩) (fun c1 => H) (fun c1 => ⟨_, m1⟩) (fun c1 c2 => H) (fun c1 c2 => ok) (fun c1 c2 => cc) (fun c1 c2 => ⟨_, m1⟩) (fun c1 c2 => H) (fun c1 c2 => ok) (fun c1 c2 => ?_) (fun c1 => H) (fun c1 => ok) (fun c1 => cc) (fun c1 => ⟨_, m1⟩) (fun c1 => ?_) (fun c1 => ?_) (fun c1 => ?_) (fun c1 => ?_) (fun c1 c2 => ?_) (fun c1 c2 => ?_) (fun c1 => ?_) (fun c1 c2 c3 c4 c5 c6 => ?_)
  · have q := up 4 (by omega) c1
    have mu : muchL s = lN s.2.2.1 := by unfold muchL; rw [if_neg (by omega), if_pos (by omega)]
    rw [mu, nI_l (by omega)] at c2
    rw [mu, lN_i]
    exact ⟨rfl, (lN_lt (by omega) (by omega)).mp c2⟩
  · have q := up 0 (by omega) c1
    have e : vlN S c s = pop (sCo S c) := if_pos q
    rw [nI_l (by have := pop_le (sCo S c); omega), ← e]; exact hR
  · have q := up 1 (by omega) c1
    have e : vlN S c s = sTg S c := by unfold vlN; rw [if_neg (by omega), if_pos q]
    have := (sl.2.2.2.2.2.1 c hc).2
    rw [Nat.zero_add] at this
    rw [this, ← e]; exact hR
  · have q := up 2 (by omega) c1
    have e : vlN S c s = c := by unfold vlN; rw [if_neg (by omega), if_neg (by omega), if_pos q]
    rw [nI_l (by omega)]; rw [e] at hR; exact hR
  · have q := up 3 (by omega) c1
    have mu : muchL s = lN s.2.2.1 := by unfold muchL; rw [if_neg (by omega), if_pos (by omega)]
    have e : vlN S c s = if lt (sCo S c) s.2.2.1 then 1 else 0 := by unfold vlN; rw [if_neg (by omega), if_neg (by omega), if_neg (by omega), if_pos q]
    rw [mu, lN_i, has_eqL, tbL_n (by omega)]
    rw [e] at hR
    cases w : lt (sCo S c) s.2.2.1 <;> rw [w] at hR <;> exact hR
  · have q := up 4 (by omega) c1
    have mu : muchL s = lN s.2.2.1 := by unfold muchL; rw [if_neg (by omega), if_pos (by omega)]
    rw [mu, nI_l (by omega)] at c2
    have c2 := (lN_lt (by omega) (by omega)).mp c2
    have e : vlN S c s = keyN (sCo S c) (stt S s.2.2.1) (sBr S s.2.2.1) := by unfold vlN; rw [if_neg (by omega), if_neg (by omega), if_neg (by omega), if_neg (by omega), if_pos q, if_pos c2]
    rw [e] at hR; exact hR
  · have q := up 4 (by omega) c1
    have mu : muchL s = lN s.2.2.1 := by unfold muchL; rw [if_neg (by omega), if_pos (by omega)]
    rw [mu, nI_l (by omega)] at c2
    have c2 : ¬ s.2.2.1 < sP S := fun z => c2 ((lN_lt (by omega) (by omega)).mpr z)
    have e : vlN S c s = 0 := by unfold vlN; rw [if_neg (by omega), if_neg (by omega), if_neg (by omega), if_neg (by omega), if_pos q, if_neg c2]
    rw [e] at hR; exact hR
  · have q := up 5 (by omega) c1
    have mu : muchL s = s.2.2.2.2 := by unfold muchL; rw [if_pos (by omega)]
    have e : vlN S c s = pop (sCo S c ^^^ s.2.2.2.2) := by unfold vlN; rw [if_neg (by omega), if_neg (by omega), if_neg (by omega), if_neg (by omega), if_neg (by omega)]
    rw [mu, nI_l (by have := pop_le (sCo S c ^^^ s.2.2.2.2); omega), ← e]; exact hR
  · have n : ∀ k : Nat, k < 10 → ¬ nI (s.1 - 3) = nI k → s.1 ≠ k + 3 := fun k hk z e => z (by rw [e]; rfl)
    have n0 := n 0 (by omega) c1
    have n1 := n 1 (by omega) c2
    have n2 := n 2 (by omega) c3
    have n3 := n 3 (by omega) c4
    have n4 := n 4 (by omega) c5
    have n5 := n 5 (by omega) c6
    omega
/-- a constant -/
theorem s_Mo_valueOf6 {c : Nat} {m : Int64} (hR : R (some (.long m)) h) (H : MS h S) (ok : sOk S) : Ev G (d + 3) 0 0 M_Mo_valueOf 0 [.ref 102, .int (nI c), .int (nI 6), .long m, ev_unk] [] h R := by
  have ⟨v, z, g, m1, m2, sl⟩ := H
  refine b_Mo_valueOf_0 (c_2 := 0) (j_6 := 0) (c_8 := 0) (c_11 := 0) (p_13 := 0) (c_15 := 0) (fun c1 => H) (fun c1 => ok) (fun c1 => absurd c1 (by decide)) (fun c1 => ⟨_, m1⟩) (fun c1 => m1) (fun c1 => m2) (fun c1 => absurd c1 (by decide)) (fun c1 => ⟨_, m1⟩) (fun c1 => H) (fun c1 => ok) (fun c1 => absurd c1 (by decide)) (fun c1 => ⟨_, m1⟩) (fun c1 => H) (fun c1 => ⟨_, m1⟩) (fun c1 c2 => H) (fun c1 c2 => ok) (fun c1 c2 => absurd c1 (by decide)) (fun c1 c2 => ⟨_, m1⟩) (fun c1 c2 => H) (fun c1 c2 => ok) (fun c1 c2 => absurd c1 (by decide)) (fun c1 => H) (fun c1 => ok) (fun c1 => absurd c1 (by decide)) (fun c1 => ⟨_, m1⟩) (fun c1 => absurd c1 (by decide)) (fun c1 => absurd c1 (by decide)) (fun c1 => absurd c1 (by decide)) (fun c1 => absurd c1 (by decide)) (fun c1 c2 => absurd c1 (by decide)) (fun c1 c2 => absurd c1 (by decide)) (fun c1 => absurd c1 (by decide)) (fun c1 c2 c3 c4 c5 c6 => hR)
-- what the cells say
theorem cel_and {m : Int64} {w : Nat} (hw : w < 16) (hm : m.toBitVec.toNat < 2 ^ 59) : cel m w &&& 15 = lN w := by
  unfold cel
  have e : (15 : Int64) = lN 15 := rfl
  rw [e, l_andN _ _ (by omega), show (15 : Nat) = 2 ^ 4 - 1 from rfl, Nat.and_two_pow_sub_one_eq_mod]
  congr 1; omega
theorem cel_shr {m : Int64} {w : Nat} (hw : w < 16) (hm : m.toBitVec.toNat < 2 ^ 59) : cel m w >>> ((4 : Int32).toInt64 &&& 63) = m := by
  unfold cel
  refine l_ext fun i hi => ?_
  rw [show (4 : Int32) = nI 4 from rfl, l_sshr 4 (by omega) _ hi]
  have b : ∀ j, lt (lN (m.toBitVec.toNat * 16 + w)) (4 + j) = lt m j := fun j => by
    rw [lt_lN _ _ (by omega), ← lN_toNat m, lt_lN _ _ m.toBitVec.isLt, lN_toNat, show m.toBitVec.toNat * 16 + w = 2 ^ 4 * m.toBitVec.toNat + w by omega, Nat.testBit_two_pow_mul_add _ (by omega), if_neg (by omega), Nat.add_sub_cancel_left]
  split
  · exact b i
  · have hb : ∀ j, 59 ≤ j → lt m j = false := fun j hj => by
      rw [← lN_toNat m, lt_lN _ _ m.toBitVec.isLt]
      exact Nat.testBit_lt_two_pow (Nat.lt_of_lt_of_le hm (Nat.pow_le_pow_right (by decide) hj))
    rw [show (63 : Nat) = 4 + 59 from rfl, b 59, hb 59 (by omega), hb i (by omega)]
end S45
theorem b_Mo_isCounting_0 {G : ev_G} {d k n : Nat} {h : ev_H} {R : Option Value → ev_H → Prop} {x1 : Int32}
  (k1 : Ev G (d + 1) k n M_Mo_isCounting 4 [.ref 102, .int x1, .int (0 : Int32), .int (0 : Int32), ev_unk] [] h R)
  : Ev G (d + 1) k n M_Mo_isCounting 0 [.ref 102, .int x1, ev_unk, ev_unk, ev_unk] [] h R :=
  Ev.go (pc' := 4) (ls' := [.ref 102, .int x1, .int (0 : Int32), .int (0 : Int32), ev_unk]) (st' := []) [.iconst 0, .istore_n 2, .iconst 0, .istore_n 3] (by decide +kernel) rfl <|
  k1
theorem b_Mo_isCounting_4 {G : ev_G} {d k n : Nat} {h : ev_H} {R : Option Value → ev_H → Prop} {x1 : Int32} {x2 : Int32} {x3 : Int32} {v_1 : MG} {z_2 : MP} {g_3 : Nat → Int64} {j_4 : Nat} {v_5 : MG} {z_6 : MP} {g_7 : Nat → Int64} {j_8 : Nat} {f_status_9 : Int32} {f_acts_10 : Int32} {f_marks_11 : Int32} {f_taped_12 : Int32} {f_size_13 : Int32} {f_token_14 : Int32} {f_begin_15 : Int32} {f_end_16 : Int32} {f_faults_17 : Int32} {f_faultPlace_18 : Int32} {f_faultKind_19 : Int32} {f_deep_20 : Int32} {f_value_21 : Int64} {f_broadMany_22 : Int32} {g23 : Nat → Int64} {j24 : Nat} {j25 : Nat} {j26 : Nat} {v_27 : MG} {z_28 : MP} {g_29 : Nat → Int64} {j_30 : Nat}
  (a9 : hat h 102 (oC 9 [.ref 103, .int f_status_9, .int f_acts_10, .int f_marks_11, .ref 104, .ref 105, .ref 106, .int f_taped_12, .int f_size_13, .int f_token_14, .int f_begin_15, .int f_end_16, .int f_faults_17, .int f_faultPlace_18, .int f_faultKind_19, .int f_deep_20, .long f_value_21, .ref 107, .ref 108, .ref 109, .ref 116, .int f_broadMany_22, .ref 124, .ref 125]))
  (a10 : hat h 104 (aL 300 g23))
  (pr1 : hat h 102 (moC v_1 z_2))
  (pr2 : hat h 103 (aL 9758 g_3))
  (pr3 : ev_ix (3 : Int32) j_4 9758)
  (r4 : ∃ fs, hat h 102 (oC 9 fs))
  (pr5 : x3.toInt64 < (g_3 j_4) → hat h 102 (moC v_5 z_6))
  (pr6 : x3.toInt64 < (g_3 j_4) → hat h 103 (aL 9758 g_7))
  (pr7 : x3.toInt64 < (g_3 j_4) → ev_ix ((74 : Int32) + x3) j_8 9758)
  (r8 : x3.toInt64 < (g_3 j_4) → ∃ fs, hat h 102 (oC 9 fs))
  (i11 : x3.toInt64 < (g_3 j_4) → (6 : Int32) < ((g_7 j_8) &&& (15 : Int64)).toInt32 → ((g_7 j_8) &&& (15 : Int64)).toInt32 = (10 : Int32) → ev_ix (x2 - (1 : Int32)) j24 300)
  (i12 : x3.toInt64 < (g_3 j_4) → (6 : Int32) < ((g_7 j_8) &&& (15 : Int64)).toInt32 → ¬ ((g_7 j_8) &&& (15 : Int64)).toInt32 = (10 : Int32) → ev_ix ((x2 + (-1 : Int32)) - (1 : Int32)) j25 300)
  (i13 : x3.toInt64 < (g_3 j_4) → (6 : Int32) < ((g_7 j_8) &&& (15 : Int64)).toInt32 → ¬ ((g_7 j_8) &&& (15 : Int64)).toInt32 = (10 : Int32) → ev_ix (x2 + (-1 : Int32)) j26 300)
  (pr14 : x3.toInt64 < (g_3 j_4) → ¬ (6 : Int32) < ((g_7 j_8) &&& (15 : Int64)).toInt32 → hat h 102 (moC v_27 z_28))
  (pr15 : x3.toInt64 < (g_3 j_4) → ¬ (6 : Int32) < ((g_7 j_8) &&& (15 : Int64)).toInt32 → hat h 103 (aL 9758 g_29))
  (pr16 : x3.toInt64 < (g_3 j_4) → ¬ (6 : Int32) < ((g_7 j_8) &&& (15 : Int64)).toInt32 → ev_ix ((74 : Int32) + x3) j_30 9758)
  (k1 : x3.toInt64 < (g_3 j_4) → (6 : Int32) < ((g_7 j_8) &&& (15 : Int64)).toInt32 → ((g_7 j_8) &&& (15 : Int64)).toInt32 = (10 : Int32) → Ev G (d + 1) k n M_Mo_isCounting 4 [.ref 102, .int x1, .int x2, .int (x3 + (1 : Int32)), ev_unk] [] (hset h 104 (aL 300 (vp_updL g23 j24 ((1 : Int64) - (g23 j24))))) R)
  (k2 : x3.toInt64 < (g_3 j_4) → (6 : Int32) < ((g_7 j_8) &&& (15 : Int64)).toInt32 → ¬ ((g_7 j_8) &&& (15 : Int64)).toInt32 = (10 : Int32) → Ev G (d + 1) k n M_Mo_isCounting 4 [.ref 102, .int x1, .int (x2 + (-1 : Int32)), .int (x3 + (1 : Int32)), ev_unk] [] (hset h 104 (aL 300 (vp_updL g23 j25 (twoL ((g_7 j_8) &&& (15 : Int64)).toInt32 (g23 j25) (g23 j26))))) R)
  (k3 : x3.toInt64 < (g_3 j_4) → ¬ (6 : Int32) < ((g_7 j_8) &&& (15 : Int64)).toInt32 → Ev G d 0 0 M_Mo_valueOf 0 [.ref 102, .int x1, .int ((g_7 j_8) &&& (15 : Int64)).toInt32, .long ((g_29 j_30) >>> ((4 : Int32).toInt64 &&& 63)), ev_unk] [] h (fun r h1 => Ev G (d + 1) k n M_Mo_isCounting 59 [.ref 102, .int x1, .int x2, .int x3, .int ((g_7 j_8) &&& (15 : Int64)).toInt32] (r.toList ++ [.int x2, .ref 104]) h1 R))
  (k4 : ¬ x3.toInt64 < (g_3 j_4) → x2 = (0 : Int32) → R (some (.int (1 : Int32))) h)
  (k5 : ¬ x3.toInt64 < (g_3 j_4) → ¬ x2 = (0 : Int32) → (g23 0) = (1 : Int64) → R (some (.int (1 : Int32))) h)
  (k6 : ¬ x3.toInt64 < (g_3 j_4) → ¬ x2 = (0 : Int32) → ¬ (g23 0) = (1 : Int64) → R (some (.int (0 : Int32))) h)
  : Ev G (d + 1) k n M_Mo_isCounting 4 [.ref 102, .int x1, .int x2, .int x3, ev_unk] [] h R :=
  Ev.go (pc' := 8) (ls' := [.ref 102, .int x1, .int x2, .int x3, ev_unk]) (st' := [.int (3 : Int32), .ref 102, .long x3.toInt64]) [.iload_n 3, .i2l, .aload_n 0, .iconst 3] (by decide +kernel) rfl <|
  Ev.cV0 (M' := M_Mo_of) (as := [.int (3 : Int32)]) (rest := [.long x3.toInt64]) l_Mo_64 M_Mo_of_ok M_Mo_of_in M_Mo_of_se (by decide +kernel) r4 rfl rfl rfl (Nat.le_of_ble_eq_true rfl) (Nat.le_of_ble_eq_true rfl) (s_Mo_of pr1 pr2 pr3 <| show Ev G (d + 1) _ _ M_Mo_isCounting 11 [.ref 102, .int x1, .int x2, .int x3, ev_unk] [.long (g_3 j_4), .long x3.toInt64] h R from
    Ev.brl (c := .ge) (o := 118) (P := x3.toInt64 < (g_3 j_4)) (t := 15) (f := 130) (t1 := 130) (by decide +kernel) (by decide +kernel) rfl rfl (fun c1 =>
      Ev.go (pc' := 20) (ls' := [.ref 102, .int x1, .int x2, .int x3, ev_unk]) (st' := [.int ((74 : Int32) + x3), .ref 102]) [.aload_n 0, .bipush (74), .iload_n 3, .iadd] (by decide +kernel) rfl <|
      Ev.cV0 (M' := M_Mo_of) (as := [.int ((74 : Int32) + x3)]) (rest := []) l_Mo_64 M_Mo_of_ok M_Mo_of_in M_Mo_of_se (by decide +kernel) (r8 c1) rfl rfl rfl (Nat.le_of_ble_eq_true rfl) (Nat.le_of_ble_eq_true rfl) (s_Mo_of (pr5 c1) (pr6 c1) (pr7 c1) <| show Ev G (d + 1) _ _ M_Mo_isCounting 23 [.ref 102, .int x1, .int x2, .int x3, ev_unk] [.long (g_7 j_8)] h R from
        Ev.ldc2 k_Mo_96 (by decide +kernel) <|
        Ev.go (pc' := 34) (ls' := [.ref 102, .int x1, .int x2, .int x3, .int ((g_7 j_8) &&& (15 : Int64)).toInt32]) (st' := [.int (6 : Int32), .int ((g_7 j_8) &&& (15 : Int64)).toInt32]) [.land, .l2i, .istore 4, .iload 4, .bipush (6)] (by decide +kernel) rfl <|
        Ev.br (i := .if_icmp .gt (32)) (P := (6 : Int32) < ((g_7 j_8) &&& (15 : Int64)).toInt32) (t := 66) (f := 37) (r := []) (by decide +kernel) rfl (fun c2 =>
          Ev.go (pc' := 70) (ls' := [.ref 102, .int x1, .int x2, .int x3, .int ((g_7 j_8) &&& (15 : Int64)).toInt32]) (st' := [.int (10 : Int32), .int ((g_7 j_8) &&& (15 : Int64)).toInt32]) [.iload 4, .bipush (10)] (by decide +kernel) rfl <|
          Ev.br (i := .if_icmp .ne (24)) (P := ((g_7 j_8) &&& (15 : Int64)).toInt32 = (10 : Int32)) (t := 73) (f := 94) (r := []) (by decide +kernel) rfl (fun c3 =>
            Ev.go (pc' := 74) (ls' := [.ref 102, .int x1, .int x2, .int x3, .int ((g_7 j_8) &&& (15 : Int64)).toInt32]) (st' := [.ref 102]) [.aload_n 0] (by decide +kernel) rfl <|
            Ev.getf f_Mo_13 (by decide +kernel) a9 rfl <|
            Ev.go (pc' := 82) (ls' := [.ref 102, .int x1, .int x2, .int x3, .int ((g_7 j_8) &&& (15 : Int64)).toInt32]) (st' := [.ref 102, .long (1 : Int64), .int (x2 - (1 : Int32)), .ref 104]) [.iload_n 2, .iconst 1, .isub, .lconst 1, .aload_n 0] (by decide +kernel) rfl <|
            Ev.getf f_Mo_13 (by decide +kernel) a9 rfl <|
            Ev.go (pc' := 88) (ls' := [.ref 102, .int x1, .int x2, .int x3, .int ((g_7 j_8) &&& (15 : Int64)).toInt32]) (st' := [.int (x2 - (1 : Int32)), .ref 104, .long (1 : Int64), .int (x2 - (1 : Int32)), .ref 104]) [.iload_n 2, .iconst 1, .isub] (by decide +kernel) rfl <|
            Ev.lald (j := j24) (by decide +kernel) a10 (i11 c1 c2 c3) <|
            Ev.go (pc' := 90) (ls' := [.ref 102, .int x1, .int x2, .int x3, .int ((g_7 j_8) &&& (15 : Int64)).toInt32]) (st' := [.long ((1 : Int64) - (g23 j24)), .int (x2 - (1 : Int32)), .ref 104]) [.lsub] (by decide +kernel) rfl <|
            Ev.last (j := j24) (by decide +kernel) a10 (i11 c1 c2 c3) <| show Ev G (d + 1) _ _ M_Mo_isCounting 91 [.ref 102, .int x1, .int x2, .int x3, .int ((g_7 j_8) &&& (15 : Int64)).toInt32] [] (hset h 104 (aL 300 (vp_updL g23 j24 ((1 : Int64) - (g23 j24))))) R from
            Ev.go (pc' := 4) (ls' := [.ref 102, .int x1, .int x2, .int (x3 + (1 : Int32)), .int ((g_7 j_8) &&& (15 : Int64)).toInt32]) (st' := []) [.goto (33), .iinc 3 (1), .goto (-123)] (by decide +kernel) rfl <|
            Ev.forget (ls' := [.ref 102, .int x1, .int x2, .int (x3 + (1 : Int32)), ev_unk]) ⟨Or.inr rfl, Or.inr rfl, Or.inr rfl, Or.inr rfl, Or.inl rfl, trivial⟩ <|
            (k1 c1 c2 c3)
          ) (fun c3 =>
            Ev.go (pc' := 98) (ls' := [.ref 102, .int x1, .int (x2 + (-1 : Int32)), .int x3, .int ((g_7 j_8) &&& (15 : Int64)).toInt32]) (st' := [.ref 102]) [.iinc 2 (-1), .aload_n 0] (by decide +kernel) rfl <|
            Ev.getf f_Mo_13 (by decide +kernel) a9 rfl <|
            Ev.go (pc' := 107) (ls' := [.ref 102, .int x1, .int (x2 + (-1 : Int32)), .int x3, .int ((g_7 j_8) &&& (15 : Int64)).toInt32]) (st' := [.ref 102, .int ((g_7 j_8) &&& (15 : Int64)).toInt32, .int ((x2 + (-1 : Int32)) - (1 : Int32)), .ref 104]) [.iload_n 2, .iconst 1, .isub, .iload 4, .aload_n 0] (by decide +kernel) rfl <|
            Ev.getf f_Mo_13 (by decide +kernel) a9 rfl <|
            Ev.go (pc' := 113) (ls' := [.ref 102, .int x1, .int (x2 + (-1 : Int32)), .int x3, .int ((g_7 j_8) &&& (15 : Int64)).toInt32]) (st' := [.int ((x2 + (-1 : Int32)) - (1 : Int32)), .ref 104, .int ((g_7 j_8) &&& (15 : Int64)).toInt32, .int ((x2 + (-1 : Int32)) - (1 : Int32)), .ref 104]) [.iload_n 2, .iconst 1, .isub] (by decide +kernel) rfl <|
            Ev.lald (j := j25) (by decide +kernel) a10 (i12 c1 c2 c3) <|
            Ev.go (pc' := 115) (ls' := [.ref 102, .int x1, .int (x2 + (-1 : Int32)), .int x3, .int ((g_7 j_8) &&& (15 : Int64)).toInt32]) (st' := [.ref 102, .long (g23 j25), .int ((g_7 j_8) &&& (15 : Int64)).toInt32, .int ((x2 + (-1 : Int32)) - (1 : Int32)), .ref 104]) [.aload_n 0] (by decide +kernel) rfl <|
            Ev.getf f_Mo_13 (by decide +kernel) a9 rfl <|
            Ev.go (pc' := 119) (ls' := [.ref 102, .int x1, .int (x2 + (-1 : Int32)), .int x3, .int ((g_7 j_8) &&& (15 : Int64)).toInt32]) (st' := [.int (x2 + (-1 : Int32)), .ref 104, .long (g23 j25), .int ((g_7 j_8) &&& (15 : Int64)).toInt32, .int ((x2 + (-1 : Int32)) - (1 : Int32)), .ref 104]) [.iload_n 2] (by decide +kernel) rfl <|
            Ev.lald (j := j26) (by decide +kernel) a10 (i13 c1 c2 c3) <|
            Ev.cS0 (M' := M_Mo_two) (as := [.int ((g_7 j_8) &&& (15 : Int64)).toInt32, .long (g23 j25), .long (g23 j26)]) (rest := [.int ((x2 + (-1 : Int32)) - (1 : Int32)), .ref 104]) l_Mo_102 M_Mo_two_ok M_Mo_two_st (by decide +kernel) rfl rfl (Nat.le_of_ble_eq_true rfl) (Nat.le_of_ble_eq_true rfl) (s_Mo_two <| show Ev G (d + 1) _ _ M_Mo_isCounting 123 [.ref 102, .int x1, .int (x2 + (-1 : Int32)), .int x3, .int ((g_7 j_8) &&& (15 : Int64)).toInt32] [.long (twoL ((g_7 j_8) &&& (15 : Int64)).toInt32 (g23 j25) (g23 j26)), .int ((x2 + (-1 : Int32)) - (1 : Int32)), .ref 104] h R from
              Ev.last (j := j25) (by decide +kernel) a10 (i12 c1 c2 c3) <| show Ev G (d + 1) _ _ M_Mo_isCounting 124 [.ref 102, .int x1, .int (x2 + (-1 : Int32)), .int x3, .int ((g_7 j_8) &&& (15 : Int64)).toInt32] [] (hset h 104 (aL 300 (vp_updL g23 j25 (twoL ((g_7 j_8) &&& (15 : Int64)).toInt32 (g23 j25) (g23 j26))))) R from
              Ev.go (pc' := 4) (ls' := [.ref 102, .int x1, .int (x2 + (-1 : Int32)), .int (x3 + (1 : Int32)), .int ((g_7 j_8) &&& (15 : Int64)).toInt32]) (st' := []) [.iinc 3 (1), .goto (-123)] (by decide +kernel) rfl <|
              Ev.forget (ls' := [.ref 102, .int x1, .int (x2 + (-1 : Int32)), .int (x3 + (1 : Int32)), ev_unk]) ⟨Or.inr rfl, Or.inr rfl, Or.inr rfl, Or.inr rfl, Or.inl rfl, trivial⟩ <|
              (k2 c1 c2 c3)
            )
          )
        ) (fun c2 =>
          Ev.go (pc' := 38) (ls' := [.ref 102, .int x1, .int x2, .int x3, .int ((g_7 j_8) &&& (15 : Int64)).toInt32]) (st' := [.ref 102]) [.aload_n 0] (by decide +kernel) rfl <|
          Ev.getf f_Mo_13 (by decide +kernel) a9 rfl <|
          Ev.go (pc' := 51) (ls' := [.ref 102, .int x1, .int x2, .int x3, .int ((g_7 j_8) &&& (15 : Int64)).toInt32]) (st' := [.int ((74 : Int32) + x3), .ref 102, .int ((g_7 j_8) &&& (15 : Int64)).toInt32, .int x1, .ref 102, .int x2, .ref 104]) [.iload_n 2, .aload_n 0, .iload_n 1, .iload 4, .aload_n 0, .bipush (74), .iload_n 3, .iadd] (by decide +kernel) rfl <|
          Ev.cV0 (M' := M_Mo_of) (as := [.int ((74 : Int32) + x3)]) (rest := [.int ((g_7 j_8) &&& (15 : Int64)).toInt32, .int x1, .ref 102, .int x2, .ref 104]) l_Mo_64 M_Mo_of_ok M_Mo_of_in M_Mo_of_se (by decide +kernel) ⟨_, a9⟩ rfl rfl rfl (Nat.le_of_ble_eq_true rfl) (Nat.le_of_ble_eq_true rfl) (s_Mo_of (pr14 c1 c2) (pr15 c1 c2) (pr16 c1 c2) <| show Ev G (d + 1) _ _ M_Mo_isCounting 54 [.ref 102, .int x1, .int x2, .int x3, .int ((g_7 j_8) &&& (15 : Int64)).toInt32] [.long (g_29 j_30), .int ((g_7 j_8) &&& (15 : Int64)).toInt32, .int x1, .ref 102, .int x2, .ref 104] h R from
            Ev.go (pc' := 56) (ls' := [.ref 102, .int x1, .int x2, .int x3, .int ((g_7 j_8) &&& (15 : Int64)).toInt32]) (st' := [.long ((g_29 j_30) >>> ((4 : Int32).toInt64 &&& 63)), .int ((g_7 j_8) &&& (15 : Int64)).toInt32, .int x1, .ref 102, .int x2, .ref 104]) [.iconst 4, .lshr] (by decide +kernel) rfl <|
            Ev.cV0 (M' := M_Mo_valueOf) (as := [.int x1, .int ((g_7 j_8) &&& (15 : Int64)).toInt32, .long ((g_29 j_30) >>> ((4 : Int32).toInt64 &&& 63))]) (rest := [.int x2, .ref 104]) l_Mo_98 M_Mo_valueOf_ok M_Mo_valueOf_in M_Mo_valueOf_se (by decide +kernel) ⟨_, a9⟩ rfl rfl rfl (Nat.le_of_ble_eq_true rfl) (Nat.le_of_ble_eq_true rfl) (k3 c1 c2)
          )
        )
      )
    ) (fun c1 =>
      Ev.go (pc' := 131) (ls' := [.ref 102, .int x1, .int x2, .int x3, ev_unk]) (st' := [.int x2]) [.iload_n 2] (by decide +kernel) rfl <|
      Ev.br (i := .ifCond .eq (14)) (P := x2 = (0 : Int32)) (t := 145) (f := 134) (r := []) (by decide +kernel) rfl (fun c2 =>
        Ev.go (pc' := 150) (ls' := [.ref 102, .int x1, .int x2, .int x3, ev_unk]) (st' := [.int (1 : Int32)]) [.iconst 1, .goto (4)] (by decide +kernel) rfl <|
        Ev.ret (r := (some (.int (1 : Int32)))) (Or.inl ⟨_, rfl, by decide +kernel, _, rfl, rfl⟩) (k4 c1 c2)
      ) (fun c2 =>
        Ev.go (pc' := 135) (ls' := [.ref 102, .int x1, .int x2, .int x3, ev_unk]) (st' := [.ref 102]) [.aload_n 0] (by decide +kernel) rfl <|
        Ev.getf f_Mo_13 (by decide +kernel) a9 rfl <|
        Ev.go (pc' := 139) (ls' := [.ref 102, .int x1, .int x2, .int x3, ev_unk]) (st' := [.int (0 : Int32), .ref 104]) [.iconst 0] (by decide +kernel) rfl <|
        Ev.lald (j := 0) (by decide +kernel) a10 ⟨rfl, by decide, by decide⟩ <|
        Ev.go (pc' := 141) (ls' := [.ref 102, .int x1, .int x2, .int x3, ev_unk]) (st' := [.long (1 : Int64), .long (g23 0)]) [.lconst 1] (by decide +kernel) rfl <|
        Ev.brl (c := .ne) (o := 7) (P := (g23 0) = (1 : Int64)) (t := 145) (f := 149) (t1 := 149) (by decide +kernel) (by decide +kernel) rfl rfl (fun c3 =>
          Ev.go (pc' := 150) (ls' := [.ref 102, .int x1, .int x2, .int x3, ev_unk]) (st' := [.int (1 : Int32)]) [.iconst 1, .goto (4)] (by decide +kernel) rfl <|
          Ev.ret (r := (some (.int (1 : Int32)))) (Or.inl ⟨_, rfl, by decide +kernel, _, rfl, rfl⟩) (k5 c1 c2 c3)
        ) (fun c3 =>
          Ev.go (pc' := 150) (ls' := [.ref 102, .int x1, .int x2, .int x3, ev_unk]) (st' := [.int (0 : Int32)]) [.iconst 0] (by decide +kernel) rfl <|
          Ev.ret (r := (some (.int (0 : Int32)))) (Or.inl ⟨_, rfl, by decide +kernel, _, rfl, rfl⟩) (k6 c1 c2 c3)
        )
      )
    )
  )
theorem b_Mo_isCounting_59 {G : ev_G} {d k n : Nat} {h : ev_H} {R : Option Value → ev_H → Prop} {x1 : Int32} {x2 : Int32} {x3 : Int32} {x4 : Int32} {y0 : Nat} {y1 : Int32} {y2 : Int64} {g1 : Nat → Int64} {j2 : Nat}
  (a1 : hat h y0 (aL 300 g1))
  (i2 : ev_ix y1 j2 300)
  (k1 : Ev G (d + 1) k n M_Mo_isCounting 4 [.ref 102, .int x1, .int (x2 + (1 : Int32)), .int (x3 + (1 : Int32)), ev_unk] [] (hset h y0 (aL 300 (vp_updL g1 j2 y2))) R)
  : Ev G (d + 1) k n M_Mo_isCounting 59 [.ref 102, .int x1, .int x2, .int x3, .int x4] [.long y2, .int y1, .ref y0] h R :=
  Ev.last (j := j2) (by decide +kernel) a1 i2 <| show Ev G (d + 1) _ _ M_Mo_isCounting 60 [.ref 102, .int x1, .int x2, .int x3, .int x4] [] (hset h y0 (aL 300 (vp_updL g1 j2 y2))) R from
  Ev.go (pc' := 4) (ls' := [.ref 102, .int x1, .int (x2 + (1 : Int32)), .int (x3 + (1 : Int32)), .int x4]) (st' := []) [.iinc 2 (1), .goto (61), .iinc 3 (1), .goto (-123)] (by decide +kernel) rfl <|
  Ev.forget (ls' := [.ref 102, .int x1, .int (x2 + (1 : Int32)), .int (x3 + (1 : Int32)), ev_unk]) ⟨Or.inr rfl, Or.inr rfl, Or.inr rfl, Or.inr rfl, Or.inl rfl, trivial⟩ <|
  k1
section S45b
variable {G : ev_G} {d : Nat} {h : ev_H} {R : Option Value → ev_H → Prop} {S : AS} {v : MG} {z : MP} {g P : Nat → Int64} {L k t c w : Nat} {m : Int64}
theorem cA {y : Int64} (m1 : hat h 102 (moC v z)) (m2 : hat h 103 (aL 9758 g)) (m4 : hat h 104 (aL 300 P)) (e3 : g 3 = lN L) (hL : L ≤ 500) (hk : k < L) (ec : g (74 + k) = cel m w) (hm : m.toBitVec.toNat < 2 ^ 59) (hw : w ≤ 6) (ht : t < 300) (V : ∀ R' : Option Value → ev_H → Prop, R' (some (.long y)) h → Ev G (d + 3) 0 0 M_Mo_valueOf 0 [.ref 102, .int (nI c), .int (nI w), .long m, ev_unk] [] h R') (go : Ev G (d + 4) 0 0 M_Mo_isCounting 4 [.ref 102, .int (nI c), .int (nI (t + 1)), .int (nI (k + 1)), ev_unk] [] (hset h 104 (aL 300 (vp_updL P t y))) R) : Ev G (d + 4) 0 0 M_Mo_isCounting 4 [.ref 102, .int (nI c), .int (nI t), .int (nI k), ev_unk] [] h R := by
  have l3 : (nI k).toInt64 < g 3 := by rw [e3, nI_l (by omega)]; exact (lN_lt (by omega) (by omega)).mpr hk
  have ew : (g (74 + k) &&& (15 : Int64)).toInt32 = nI w := by rw [ec, cel_and (by omega) hm, lN_i]
  have em : g (74 + k) >>> ((4 : Int32).toInt64 &&& 63) = m := by rw [ec, cel_shr (by omega) hm]
  have n6 : ¬ (6 : Int32) < nI w := nI_nlt (a := 6) hw (by omega)
  have i74 : ev_ix ((74 : Int32) + nI k) (74 + k) 9758 := ⟨nI_add 74 k, by omega, by omega⟩
  refine b_Mo_isCounting_4 (d := d + 3) (g_3 := g) (j_4 := 3) (g_7 := g) (j_8 := 74 + k) (g_29 := g) (j_30 := 74 + k) (g23 := P) (j24 := 0) (j25 := 0) (j26 := 0) m1 m4 m1 m2 ⟨rfl, by omega, by omega⟩ ⟨_, m1⟩ (fun c1 => m1) (fun c1 => m2) (fun c1 => i74) (fun c1 => ⟨_, m1⟩) (fun c1 c2 c3 => absurd c2 (by rw [ew]; exact n6)) (fun c1 c2 c3 => absurd c2 (by rw [ew]; exact n6)) (fun c1 c2 c3 => absurd c2 (by rw [ew]; exact n6)) (fun c1 c2 => m1) (fun c1 c2 => m2) (fun c1 c2 => i74) (fun c1 c2 c3 => absurd c2 (by rw [ew]; exact n6)) (fun c1 c2 c3 => absurd c2 (by rw [ew]; exact n6)) (fun c1 c2 => ?_) (fun c1 c2 => absurd l3 c1) (fun c1 c2 c3 => absurd l3 c1) (fun c1 c2 c3 => absurd l3 c1)
  rw [ew, em]
  refine V _ ?_
  refine b_Mo_isCounting_59 (d := d + 3) m4 (ixn ht (by omega)) ?_
  rw [nI_1, nI_1]
  exact go
theorem cN (m1 : hat h 102 (moC v z)) (m2 : hat h 103 (aL 9758 g)) (m4 : hat h 104 (aL 300 P)) (e3 : g 3 = lN L) (hL : L ≤ 500) (hk : k < L) (ec : g (74 + k) = cel 0 10) (ht : t < 300) (go : Ev G (d + 4) 0 0 M_Mo_isCounting 4 [.ref 102, .int (nI c), .int (nI (t + 1)), .int (nI (k + 1)), ev_unk] [] (hset h 104 (aL 300 (vp_updL P t ((1 : Int64) - P t)))) R) : Ev G (d + 4) 0 0 M_Mo_isCounting 4 [.ref 102, .int (nI c), .int (nI (t + 1)), .int (nI k), ev_unk] [] h R := by
  have l3 : (nI k).toInt64 < g 3 := by rw [e3, nI_l (by omega)]; exact (lN_lt (by omega) (by omega)).mpr hk
  have ew : (g (74 + k) &&& (15 : Int64)).toInt32 = nI 10 := by rw [ec, cel_and (by omega) (by decide), lN_i]
  have y6 : (6 : Int32) < nI 10 := by decide
  have i74 : ev_ix ((74 : Int32) + nI k) (74 + k) 9758 := ⟨nI_add 74 k, by omega, by omega⟩
  refine b_Mo_isCounting_4 (d := d + 3) (g_3 := g) (j_4 := 3) (g_7 := g) (j_8 := 74 + k) (g_29 := g) (j_30 := 74 + k) (g23 := P) (j24 := t) (j25 := 0) (j26 := 0) m1 m4 m1 m2 ⟨rfl, by omega, by omega⟩ ⟨_, m1⟩ (fun c1 => m1) (fun c1 => m2) (fun c1 => i74) (fun c1 => ⟨_, m1⟩) (fun c1 c2 c3 => ⟨nI_pred t, ht, by omega⟩) (fun c1 c2 c3 => absurd ew c3) (fun c1 c2 c3 => absurd ew c3) (fun c1 c2 => m1) (fun c1 c2 => m2) (fun c1 c2 => i74) (fun c1 c2 c3 => ?_) (fun c1 c2 c3 => absurd ew c3) (fun c1 c2 => absurd (by rw [ew]; exact y6) c2) (fun c1 c2 => absurd l3 c1) (fun c1 c2 c3 => absurd l3 c1) (fun c1 c2 c3 => absurd l3 c1)
  rw [nI_1]
  exact go
theorem cT (m1 : hat h 102 (moC v z)) (m2 : hat h 103 (aL 9758 g)) (m4 : hat h 104 (aL 300 P)) (e3 : g 3 = lN L) (hL : L ≤ 500) (hk : k < L) (ec : g (74 + k) = cel 0 w) (hw : 7 ≤ w) (hw2 : w < 16) (h10 : w ≠ 10) (ht : t + 1 < 300) (go : Ev G (d + 4) 0 0 M_Mo_isCounting 4 [.ref 102, .int (nI c), .int (nI (t + 1)), .int (nI (k + 1)), ev_unk] [] (hset h 104 (aL 300 (vp_updL P t (twoL (nI w) (P t) (P (t + 1)))))) R) : Ev G (d + 4) 0 0 M_Mo_isCounting 4 [.ref 102, .int (nI c), .int (nI (t + 2)), .int (nI k), ev_unk] [] h R := by
  have l3 : (nI k).toInt64 < g 3 := by rw [e3, nI_l (by omega)]; exact (lN_lt (by omega) (by omega)).mpr hk
  have ew : (g (74 + k) &&& (15 : Int64)).toInt32 = nI w := by rw [ec, cel_and (by omega) (by decide), lN_i]
  have y6 : (6 : Int32) < nI w := nI_lt (a := 6) (by omega) (by omega)
  have n10 : ¬ nI w = (10 : Int32) := nI_ne (b := 10) (by omega) (by omega) h10
  have i74 : ev_ix ((74 : Int32) + nI k) (74 + k) 9758 := ⟨nI_add 74 k, by omega, by omega⟩
  have d1 : nI (t + 2) + (-1 : Int32) = nI (t + 1) := nI_dec (t + 1)
  refine b_Mo_isCounting_4 (d := d + 3) (g_3 := g) (j_4 := 3) (g_7 := g) (j_8 := 74 + k) (g_29 := g) (j_30 := 74 + k) (g23 := P) (j24 := 0) (j25 := t) (j26 := t + 1) m1 m4 m1 m2 ⟨rfl, by omega, by omega⟩ ⟨_, m1⟩ (fun c1 => m1) (fun c1 => m2) (fun c1 => i74) (fun c1 => ⟨_, m1⟩) (fun c1 c2 c3 => absurd c3 (by rw [ew]; exact n10)) (fun c1 c2 c3 => ⟨by rw [d1]; exact nI_pred t, by omega, by omega⟩) (fun c1 c2 c3 => ⟨d1, ht, by omega⟩) (fun c1 c2 => m1) (fun c1 c2 => m2) (fun c1 c2 => i74) (fun c1 c2 c3 => absurd c3 (by rw [ew]; exact n10)) (fun c1 c2 c3 => ?_) (fun c1 c2 => absurd (by rw [ew]; exact y6) c2) (fun c1 c2 => absurd l3 c1) (fun c1 c2 c3 => absurd l3 c1) (fun c1 c2 c3 => absurd l3 c1)
  rw [ew, d1, nI_1]
  exact go
/-- the pile, the newest first -/
def stk (P : Nat → Int64) : List Bool → Prop
  | [] => True
  | b :: r => P r.length = (b2i b).toInt64 ∧ stk P r
theorem stk_upd {P : Nat → Int64} {j : Nat} {y : Int64} : ∀ {l : List Bool}, stk P l → l.length ≤ j → stk (vp_updL P j y) l
  | [], _, _ => trivial
  | b :: r, h, q => by
    have q : r.length + 1 ≤ j := q
    refine ⟨?_, stk_upd h.2 (by omega)⟩
    show (if r.length = j then y else P r.length) = _
    rw [if_neg (by omega)]; exact h.1
theorem stk_put {P : Nat → Int64} {y : Int64} {l : List Bool} {b : Bool} (h : stk P l) (e : y = (b2i b).toInt64) : stk (vp_updL P l.length y) (b :: l) := by
  refine ⟨?_, stk_upd h (Nat.le_refl _)⟩
  show (if l.length = l.length then y else P l.length) = _
  rw [if_pos rfl, e]
def clO : List AStp → Nat → Nat
  | [], _ => 0
  | _ :: _, 0 => 0
  | s :: r, i + 1 => clN s + clO r i
theorem cl1_len (s : AStp) : (cl1 s).length = clN s := by
  unfold cl1 clN
  by_cases c0 : s.1 = 0
  · rw [if_pos c0, if_pos (by omega)]; rfl
  · by_cases c1 : s.1 = 1
    · rw [if_neg c0, if_pos c1, if_pos (by omega)]; rfl
    · by_cases c2 : s.1 = 2
      · rw [if_neg c0, if_neg c1, if_pos c2, if_pos (by omega)]; rfl
      · rw [if_neg c0, if_neg c1, if_neg c2, if_neg (show ¬ s.1 ≤ 2 by omega)]; rfl
theorem clTot_cons (s : AStp) (r : List AStp) : clTot (s :: r) = clN s + clTot r := by unfold clTot; simp
theorem clC_cons (s : AStp) (r : List AStp) : clC (s :: r) = cl1 s ++ clC r := by unfold clC; simp
theorem clO_0 : ∀ fl : List AStp, clO fl 0 = 0
  | [] => rfl
  | _ :: _ => rfl
theorem clC_at : ∀ {fl : List AStp} {i : Nat} {s : AStp}, fl[i]? = some s → clO fl (i + 1) = clO fl i + clN s ∧ clO fl i + clN s ≤ clTot fl ∧ ∀ t, t < clN s → (clC fl).getD (clO fl i + t) 0 = (cl1 s).getD t 0
  | [], i, s, h => by cases h
  | a :: r, 0, s, h => by
    have h : a = s := Option.some.inj h
    subst h
    refine ⟨?_, ?_, fun t ht => ?_⟩
    · show clN a + clO r 0 = 0 + clN a
      rw [clO_0]; omega
    · rw [clTot_cons]; show 0 + clN a ≤ _; omega
    · show (clC (a :: r)).getD (0 + t) 0 = _
      rw [Nat.zero_add, clC_cons, List.getD_eq_getElem?_getD, List.getD_eq_getElem?_getD, List.getElem?_append_left (by rw [cl1_len]; exact ht)]
  | a :: r, i + 1, s, h => by
    have h : r[i]? = some s := h
    obtain ⟨q1, q2, q3⟩ := clC_at h
    refine ⟨?_, ?_, fun t ht => ?_⟩
    · show clN a + clO r (i + 1) = clN a + clO r i + clN s
      omega
    · rw [clTot_cons]; show clN a + clO r i + clN s ≤ _; omega
    · show (clC (a :: r)).getD (clN a + clO r i + t) 0 = _
      rw [clC_cons, List.getD_eq_getElem?_getD, List.getElem?_append_right (by rw [cl1_len]; omega), cl1_len, show clN a + clO r i + t - clN a = clO r i + t by omega, ← List.getD_eq_getElem?_getD]
      exact q3 t ht
theorem clO_all : ∀ fl : List AStp, clO fl fl.length = clTot fl
  | [] => rfl
  | a :: r => by rw [clTot_cons, ← clO_all r]; rfl
end S45b
section S45c
variable {G : ev_G} {d : Nat} {S : AS} {v : MG} {z : MP} {g : Nat → Int64} {c : Nat}
theorem MS.kp {h h1 : ev_H} {lo hi : Nat} (H : MS h S) (K : Kp h h1 lo hi) (q : hi ≤ 102 ∨ 104 ≤ lo) : MS h1 S := by
  obtain ⟨v, z, g, m1, m2, sl⟩ := H
  exact ⟨v, z, g, K.hat m1 (by omega), K.hat m2 (by omega), sl⟩
theorem l_bit2 (a b : Bool) : (b2i a).toInt64 &&& (b2i b).toInt64 = (b2i (a && b)).toInt64 ∧ (b2i a).toInt64 ||| (b2i b).toInt64 = (b2i (a || b)).toInt64 ∧ (1 : Int64) - (b2i a).toInt64 = (b2i (!a)).toInt64 := by
  cases a <;> cases b <;> decide
theorem cmp_eq {S : AS} {c : Nat} {s : AStp} (hv : vlN S c s < 2147483648) (hb : s.2.2.2.1 < 2147483648) (hs : s.2.1 = 60 ∨ s.2.1 = 61 ∨ s.2.1 = 62) : twoL (nI (s.2.1 - 53)) (lN (vlN S c s)) (lN s.2.2.2.1) = (b2i (fcB S c s)).toInt64 := by
  unfold twoL
  rcases hs with e | e | e
  · have f : fcB S c s = decide (vlN S c s < s.2.2.2.1) := if_pos e
    rw [f, e]
    show (b2i (decide _)).toInt64 = _
    rw [decide_eq_decide.mpr (lN_lt hv hb)]
  · have f : fcB S c s = decide (vlN S c s = s.2.2.2.1) := (if_neg (show ¬ s.2.1 = 60 by omega)).trans (if_pos e)
    rw [f, e]
    show (b2i (decide _)).toInt64 = _
    rw [decide_eq_decide.mpr (lN_eq hv hb)]
  · have f : fcB S c s = decide (s.2.2.2.1 < vlN S c s) := (if_neg (show ¬ s.2.1 = 60 by omega)).trans (if_neg (show ¬ s.2.1 = 61 by omega))
    rw [f, e]
    show (b2i (decide _)).toInt64 = _
    rw [decide_eq_decide.mpr (lN_lt hb hv)]
theorem lN_bv {n : Nat} (h : n < 2 ^ 64) : (lN n).toBitVec.toNat = n := Nat.mod_eq_of_lt h
theorem s_Mo_isCounting {h : ev_H} {R : Option Value → ev_H → Prop} (m1 : hat h 102 (moC v z)) (m2 : hat h 103 (aL 9758 g)) (sl : SlR g 0 S) (m4 : ∃ P, hat h 104 (aL 300 P)) (gd : sGd S) (hc : c < sN S) (hR : ∀ h', Kp h h' 104 105 → (∃ P, hat h' 104 (aL 300 P)) → R (some (.int (b2i (ctP S c)))) h') : Ev G (d + 4) 0 0 M_Mo_isCounting 0 [.ref 102, .int (nI c), ev_unk, ev_unk, ev_unk] [] h R := by
  have ok := gd.1
  have n32 := ok.2.2.2.2.1
  refine b_Mo_isCounting_0 (d := d + 3) ?_
  have e3 : g 3 = lN (clTot (sFl S)) := by have := sl.2.2.2.1; rw [Nat.zero_add] at this; exact this
  have ecl : ∀ i, i < clTot (sFl S) → g (74 + i) = (clC (sFl S)).getD i 0 := fun i hi => by have := sl.2.2.2.2.2.2 i hi; rw [Nat.zero_add] at this; exact this
  -- the end
  have fin : ∀ h', Kp h h' 104 105 → ∀ P l, hat h' 104 (aL 300 P) → stk P l → l = evP S c (sFl S) (sFl S).length → clTot (sFl S) ≤ 500 → (sFl S = [] ∨ l.length = 1) → Ev G (d + 4) 0 0 M_Mo_isCounting 4 [.ref 102, .int (nI c), .int (nI l.length), .int (nI (clTot (sFl S))), ev_unk] [] h' R := by
    intro h' K P l m4 st el hL hl
    have m1 := K.hat m1 (by omega)
    have m2 := K.hat m2 (by omega)
    have l3 : ¬ (nI (clTot (sFl S))).toInt64 < g 3 := by rw [e3, nI_l (by omega)]; exact fun z => Nat.lt_irrefl _ ((lN_lt (by omega) (by omega)).mp z)
    have cv : ctP S c = ((sFl S).isEmpty || l.headD false) := by unfold ctP holdsB; rw [decide_eq_true hc, Bool.true_and, el]
    have hR := hR h' K ⟨_, m4⟩
    rw [cv] at hR
    refine b_Mo_isCounting_4 (d := d + 3) (g_3 := g) (j_4 := 3) (g_7 := g) (j_8 := 0) (g_29 := g) (j_30 := 0) (g23 := P) (j24 := 0) (j25 := 0) (j26 := 0) m1 m4 m1 m2 ⟨rfl, by omega, by omega⟩ ⟨_, m1⟩ (fun c1 => m1) (fun c1 => m2) (fun c1 => absurd c1 l3) (fun c1 => ⟨_, m1⟩) (fun c1 c2 c3 => absurd c1 l3) (fun c1 c2 c3 => absurd c1 l3) (fun c1 c2 c3 => absurd c1 l3) (fun c1 c2 => m1) (fun c1 c2 => m2) (fun c1 c2 => absurd c1 l3) (fun c1 c2 c3 => absurd c1 l3) (fun c1 c2 c3 => absurd c1 l3) (fun c1 c2 => absurd c1 l3) (fun c1 c2 => ?_) (fun c1 c2 c3 => ?_) (fun c1 c2 c3 => ?_)
    · rcases hl with e | e
      · rw [e] at hR; exact hR
      · rw [e] at c2; exact absurd c2 (by decide)
    · rcases hl with e | e
      · rw [el, e] at c2; exact absurd rfl c2
      · match l, e with
        | [b], _ =>
          have s1 : P 0 = (b2i b).toInt64 := st.1
          rw [s1] at c3
          cases b
          · exact absurd c3 (by decide)
          · have : (((sFl S).isEmpty || [true].headD false)) = true := by simp
            rw [this] at hR; exact hR
    · rcases hl with e | e
      · rw [el, e] at c2; exact absurd rfl c2
      · match l, e with
        | [b], _ =>
          have s1 : P 0 = (b2i b).toInt64 := st.1
          rw [s1] at c3
          have em : (sFl S).isEmpty = false := by
            cases q : sFl S with
            | nil => rw [q] at el; exact absurd el (by intro z; cases z)
            | cons _ _ => rfl
          cases b
          · rw [em] at hR; exact hR
          · exact absurd bL_t c3
  obtain ⟨P0, m40⟩ := m4
  rcases gd.2.1 with e | fg
  · have := fin h (Kp.refl _ _ _) P0 [] m40 trivial (by rw [e]; rfl) (by rw [e]; decide) (Or.inl e)
    rw [e] at this
    exact this
  obtain ⟨fo, hlen, hcl, hall⟩ := fg
  have L := up_to (P := fun i => ∀ h', Kp h h' 104 105 → ∀ P, hat h' 104 (aL 300 P) → stk P (evP S c (sFl S) i) → Ev G (d + 4) 0 0 M_Mo_isCounting 4 [.ref 102, .int (nI c), .int (nI (evP S c (sFl S) i).length), .int (nI (clO (sFl S) i)), ev_unk] [] h' R) (N := (sFl S).length) ?_ ?_ 0 (Nat.zero_le _)
  · have := L h (Kp.refl _ _ _) P0 m40 trivial
    rw [clO_0] at this
    exact this
  · intro i hi ih h' K P m4 st
    have hs : (sFl S)[i]? = some (sFl S)[i] := List.getElem?_eq_getElem hi
    generalize (sFl S)[i] = s at hs
    have m1 := K.hat m1 (by omega)
    have m2 := K.hat m2 (by omega)
    have H' : MS h' S := ⟨_, _, _, m1, m2, sl⟩
    obtain ⟨q1, q2, q3⟩ := clC_at hs
    obtain ⟨so, o0, o12, o30⟩ := fo.2.1 i s hs
    have am := hall s (List.mem_of_getElem? hs)
    have len := evP_len S c fo i (by omega)
    rw [q1, evP_succ hs] at ih
    have cell : ∀ t, t < clN s → g (74 + (clO (sFl S) i + t)) = (cl1 s).getD t 0 := fun t ht => (ecl _ (by omega)).trans (q3 t ht)
    by_cases z0 : s.1 = 0
    · have n1 : clN s = 1 := if_pos (by omega)
      have c0 := cell 0 (by omega)
      have ec : cl1 s = [cel 0 10] := if_pos z0
      rw [ec, Nat.add_zero] at c0
      have o0 := o0 z0
      revert st ih len
      generalize evP S c (sFl S) i = l
      intro st ih len
      match l, len, st, ih with
      | b :: r, len, st, ih =>
        rw [stp1_0 z0, n1] at ih
        refine cN m1 m2 m4 e3 hcl (by omega) c0 (by have : r.length + 1 = dpP (sFl S) i := len; omega) ?_
        have e := st.1
        refine ih _ (K.set _ (by omega) (by omega)) _ (hat_set m4) ?_
        rw [e, (l_bit2 b b).2.2]
        exact stk_put st.2 rfl
      | [], len, st, ih => exact absurd len (by show ¬ 0 = _; omega)
    · have hv := vlN_lt ok hc s
      by_cases z3 : 3 ≤ s.1
      · have n3 : clN s = 3 := if_neg (by omega)
        have c0 := cell 0 (by omega)
        have c1 := cell 1 (by omega)
        have c2 := cell 2 (by omega)
        have ec : cl1 s = [cel (muchL s) (s.1 - 3), cel (lN s.2.2.2.1) 6, cel 0 (s.2.1 - 53)] := by unfold cl1; rw [if_neg (by omega), if_neg (by omega), if_neg (by omega)]; rfl
        rw [ec] at c0 c1 c2
        rw [stp1_3 z3, n3] at ih
        have sg := am.1 z3
        have s8 := so.1
        have b8 : s.2.2.2.1 < 100000000 := so.2.2.2
        have mB : (muchL s).toBitVec.toNat < 2 ^ 59 := by
          unfold muchL
          split
          · have := (numB_iff (b := 48) (by omega)).mp am.2
            have e : s.2.2.2.2.toBitVec.toNat < 2 ^ 48 := by
              refine Nat.lt_pow_two_of_testBit _ fun j hj => ?_
              have := this j hj
              rw [← lN_toNat s.2.2.2.2, lt_lN _ _ s.2.2.2.2.toBitVec.isLt] at this
              exact this
            omega
          · split
            · rw [lN_bv (by have := so.2.2.1; omega)]; have := so.2.2.1; omega
            · decide
        revert st ih len
        generalize evP S c (sFl S) i = l
        intro st ih len
        have l30 : l.length ≤ 30 := by omega
        have K1 := K.set (k := 104) (aL 300 (vp_updL P l.length (lN (vlN S c s)))) (by omega) (by omega)
        have m41 := hat_set m4 (c' := aL 300 (vp_updL P l.length (lN (vlN S c s))))
        have K2 := K1.set (k := 104) (aL 300 (vp_updL (vp_updL P l.length (lN (vlN S c s))) (l.length + 1) (lN s.2.2.2.1))) (by omega) (by omega)
        have m42 := hat_set m41 (c' := aL 300 (vp_updL (vp_updL P l.length (lN (vlN S c s))) (l.length + 1) (lN s.2.2.2.1)))
        have H1 : MS _ S := H'.kp ((Kp.refl h' 104 105).set (k := 104) (aL 300 (vp_updL P l.length (lN (vlN S c s)))) (by omega) (by omega)) (by omega)
        have m1a : hat _ 102 (moC v z) := hat_ne (b := 104) (c' := aL 300 (vp_updL P l.length (lN (vlN S c s)))) m1 (by omega)
        have m2a : hat _ 103 (aL 9758 g) := hat_ne (b := 104) (c' := aL 300 (vp_updL P l.length (lN (vlN S c s)))) m2 (by omega)
        refine cA (y := lN (vlN S c s)) m1 m2 m4 e3 hcl (by omega) c0 mB (by omega) (by omega) (fun R' hR' => s_Mo_valueOf H' ok hc so z3 hR') ?_
        refine cA (y := lN s.2.2.2.1) m1a m2a m41 e3 hcl (by omega) c1 (by rw [lN_bv (by omega)]; omega) (Nat.le_refl _) (by omega) (fun R' hR' => s_Mo_valueOf6 hR' H1 ok) ?_
        refine cT (t := l.length) (hat_ne m1a (by omega)) (hat_ne m2a (by omega)) m42 e3 hcl (by omega) c2 (by omega) (by omega) (by omega) (by omega) ?_
        refine ih _ (K2.set _ (by omega) (by omega)) _ (hat_set m42) ?_
        have p0 : vp_updL (vp_updL P l.length (lN (vlN S c s))) (l.length + 1) (lN s.2.2.2.1) l.length = lN (vlN S c s) := by
          show (if l.length = l.length + 1 then _ else if l.length = l.length then _ else _) = _
          rw [if_neg (by omega), if_pos rfl]
        have p1 : vp_updL (vp_updL P l.length (lN (vlN S c s))) (l.length + 1) (lN s.2.2.2.1) (l.length + 1) = lN s.2.2.2.1 := if_pos rfl
        rw [p0, p1, cmp_eq hv (by omega) sg]
        exact stk_put (stk_upd (stk_upd st (Nat.le_refl _)) (by omega)) rfl
      · have n1 : clN s = 1 := if_pos (by omega)
        have o12 := o12 (by omega)
        have c0 := cell 0 (by omega)
        rw [Nat.add_zero] at c0
        revert st ih len
        generalize evP S c (sFl S) i = l
        intro st ih len
        match l, len, st, ih with
        | y :: x :: r, len, st, ih =>
          have len : r.length + 2 = dpP (sFl S) i := len
          have ey : P (r.length + 1) = (b2i y).toInt64 := st.1
          have ex : P r.length = (b2i x).toInt64 := st.2.1
          by_cases z1 : s.1 = 1
          · have ec : cl1 s = [cel 0 11] := by unfold cl1; rw [if_neg z0, if_pos z1]
            rw [ec] at c0
            rw [stp1_1 z1, n1] at ih
            refine cT (t := r.length) m1 m2 m4 e3 hcl (by omega) c0 (by omega) (by omega) (by omega) (by omega) ?_
            refine ih _ (K.set _ (by omega) (by omega)) _ (hat_set m4) ?_
            have t2 : twoL (nI 11) (P r.length) (P (r.length + 1)) = P r.length &&& P (r.length + 1) := by unfold twoL; rw [if_neg (by decide), if_neg (by decide), if_neg (by decide), if_pos (by decide)]
            rw [t2, ex, ey, (l_bit2 x y).1]
            exact stk_put st.2.2 rfl
          · have z2 : s.1 = 2 := by omega
            have ec : cl1 s = [cel 0 12] := by unfold cl1; rw [if_neg z0, if_neg z1, if_pos z2]
            rw [ec] at c0
            rw [stp1_2 z2, n1] at ih
            refine cT (t := r.length) m1 m2 m4 e3 hcl (by omega) c0 (by omega) (by omega) (by omega) (by omega) ?_
            refine ih _ (K.set _ (by omega) (by omega)) _ (hat_set m4) ?_
            have t2 : twoL (nI 12) (P r.length) (P (r.length + 1)) = P r.length ||| P (r.length + 1) := by unfold twoL; rw [if_neg (by decide), if_neg (by decide), if_neg (by decide), if_neg (by decide)]
            rw [t2, ex, ey, (l_bit2 x y).2.1]
            exact stk_put st.2.2 rfl
        | [], len, st, ih => exact absurd len (by show ¬ 0 = _; omega)
        | [_], len, st, ih => exact absurd len (by show ¬ 1 = _; omega)
  · intro h' K P m4 st
    have q := fin h' K P _ m4 st rfl hcl (Or.inr (by rw [evP_len S c fo _ (Nat.le_refl _), fo.2.2]))
    rw [clO_all]
    exact q
end S45c
theorem b_Mo_counting_0 {G : ev_G} {d k n : Nat} {h : ev_H} {R : Option Value → ev_H → Prop} 
  (k1 : Ev G (d + 2) k n M_Mo_counting 4 [.ref 102, .long (0 : Int64), ev_unk, .int (0 : Int32)] [] h R)
  : Ev G (d + 2) k n M_Mo_counting 0 [.ref 102, ev_unk, ev_unk, ev_unk] [] h R :=
  Ev.go (pc' := 4) (ls' := [.ref 102, .long (0 : Int64), ev_unk, .int (0 : Int32)]) (st' := []) [.lconst 0, .lstore_n 1, .iconst 0, .istore_n 3] (by decide +kernel) rfl <|
  k1
theorem b_Mo_counting_4 {G : ev_G} {d k n : Nat} {h : ev_H} {R : Option Value → ev_H → Prop} {x1 : Int64} {x3 : Int32} {S1 : AS}
  (pr1 : MS h S1)
  (r2 : ∃ fs, hat h 102 (oC 9 fs))
  (r3 : x3 < (nI (sN S1)) → ∃ fs, hat h 102 (oC 9 fs))
  (k1 : x3 < (nI (sN S1)) → Ev G (d + 1) 0 0 M_Mo_isCounting 0 [.ref 102, .int x3, ev_unk, ev_unk, ev_unk] [] h (fun r h1 => Ev G (d + 2) k n M_Mo_counting 18 [.ref 102, .long x1, ev_unk, .int x3] (r.toList ++ [.long x1]) h1 R))
  (k2 : ¬ x3 < (nI (sN S1)) → R (some (.long x1)) h)
  : Ev G (d + 2) k n M_Mo_counting 4 [.ref 102, .long x1, ev_unk, .int x3] [] h R :=
  Ev.go (pc' := 6) (ls' := [.ref 102, .long x1, ev_unk, .int x3]) (st' := [.ref 102, .int x3]) [.iload_n 3, .aload_n 0] (by decide +kernel) rfl <|
  Ev.cV0 (M' := M_Mo_many_0) (as := []) (rest := [.int x3]) l_Mo_71 M_Mo_many_0_ok M_Mo_many_0_in M_Mo_many_0_se (by decide +kernel) r2 rfl rfl rfl (Nat.le_of_ble_eq_true rfl) (Nat.le_of_ble_eq_true rfl) (s_Mo_many_0 pr1 <| show Ev G (d + 2) _ _ M_Mo_counting 9 [.ref 102, .long x1, ev_unk, .int x3] [.int (nI (sN S1)), .int x3] h R from
    Ev.br (i := .if_icmp .ge (27)) (P := x3 < (nI (sN S1))) (t := 12) (f := 36) (r := []) (by decide +kernel) rfl (fun c1 =>
      Ev.go (pc' := 15) (ls' := [.ref 102, .long x1, ev_unk, .int x3]) (st' := [.int x3, .ref 102, .long x1]) [.lload_n 1, .aload_n 0, .iload_n 3] (by decide +kernel) rfl <|
      Ev.cV0 (M' := M_Mo_isCounting) (as := [.int x3]) (rest := [.long x1]) l_Mo_106 M_Mo_isCounting_ok M_Mo_isCounting_in M_Mo_isCounting_se (by decide +kernel) (r3 c1) rfl rfl rfl (Nat.le_of_ble_eq_true rfl) (Nat.le_of_ble_eq_true rfl) (k1 c1)
    ) (fun c1 =>
      Ev.go (pc' := 37) (ls' := [.ref 102, .long x1, ev_unk, .int x3]) (st' := [.long x1]) [.lload_n 1] (by decide +kernel) rfl <|
      Ev.ret (r := (some (.long x1))) (Or.inr (Or.inl ⟨_, rfl, by decide +kernel, rfl⟩)) (k2 c1)
    )
  )
theorem b_Mo_counting_18 {G : ev_G} {d k n : Nat} {h : ev_H} {R : Option Value → ev_H → Prop} {x1 : Int64} {x3 : Int32} {y0 : Int64} {y1 : Int32}
  (k1 : y1 = (0 : Int32) → Ev G (d + 2) k n M_Mo_counting 4 [.ref 102, .long (y0 ||| (0 : Int64)), ev_unk, .int (x3 + (1 : Int32))] [] h R)
  (k2 : ¬ y1 = (0 : Int32) → Ev G (d + 2) k n M_Mo_counting 4 [.ref 102, .long (y0 ||| ((1 : Int64) <<< (x3.toInt64 &&& 63))), ev_unk, .int (x3 + (1 : Int32))] [] h R)
  : Ev G (d + 2) k n M_Mo_counting 18 [.ref 102, .long x1, ev_unk, .int x3] [.int y1, .long y0] h R :=
  Ev.br (i := .ifCond .eq (9)) (P := y1 = (0 : Int32)) (t := 27) (f := 21) (r := [.long y0]) (by decide +kernel) rfl (fun c1 =>
    Ev.go (pc' := 4) (ls' := [.ref 102, .long (y0 ||| (0 : Int64)), ev_unk, .int (x3 + (1 : Int32))]) (st' := []) [.lconst 0, .lor, .lstore_n 1, .iinc 3 (1), .goto (-29)] (by decide +kernel) rfl <|
    (k1 c1)
  ) (fun c1 =>
    Ev.go (pc' := 4) (ls' := [.ref 102, .long (y0 ||| ((1 : Int64) <<< (x3.toInt64 &&& 63))), ev_unk, .int (x3 + (1 : Int32))]) (st' := []) [.lconst 1, .iload_n 3, .lshl, .goto (4), .lor, .lstore_n 1, .iinc 3 (1), .goto (-29)] (by decide +kernel) rfl <|
    (k2 c1)
  )
section S45d
variable {G : ev_G} {d : Nat} {h h1 : ev_H} {R : Option Value → ev_H → Prop} {Q : QS}
/-- the work's arrays changed -/
theorem MR.work (H : MR h Q) (K : Kp h h1 104 126) (k105 : h1.2 105 = h.2 105) (X : MX h1) : MR h1 Q := by
  obtain ⟨a, ⟨bm, z, m1⟩, ⟨g, m2, sl⟩, t, -, n⟩ := H
  exact ⟨a, ⟨bm, z, K.hat m1 (by omega)⟩, ⟨g, K.hat m2 (by omega), sl⟩, ⟨by rw [K.1]; exact t.1, k105.trans t.2⟩, X, by rw [K.1]; exact n⟩
theorem MR.mx (H : MR h Q) : MX h := H.2.2.2.2.1
theorem MR.num (H : MR h Q) : 126 ≤ h.1 := H.2.2.2.2.2
theorem MR.pile (H : MR h Q) (K : Kp h h1 104 105) (P : ∃ P, hat h1 104 (aL 300 P)) : MR h1 Q := by
  refine H.work (K.wide (by omega) (by omega)) (K.2 105 (by have := H.num; omega) (by omega)) ?_
  obtain ⟨-, ⟨g2, a2⟩, ⟨g3, a3⟩, ⟨g4, a4⟩, a5, a6, a7, a8, ⟨g9, a9⟩, ⟨g10, a10⟩⟩ := H.mx
  exact ⟨P, ⟨_, K.hat a2 (by omega)⟩, ⟨_, K.hat a3 (by omega)⟩, ⟨_, K.hat a4 (by omega)⟩, K.hat a5 (by omega), fun i hi => ⟨_, K.hat (a6 i hi).choose_spec (by omega)⟩, K.hat a7 (by omega), fun i hi => ⟨_, K.hat (a8 i hi).choose_spec (by omega)⟩, ⟨_, K.hat a9 (by omega)⟩, ⟨_, K.hat a10 (by omega)⟩⟩
theorem s_isC {c : Nat} (H : MR h Q) (hc : c < sN (qS Q)) (hR : ∀ h', Kp h h' 104 105 → MR h' Q → R (some (.int (b2i (ctP (qS Q) c)))) h') : Ev G (d + 4) 0 0 M_Mo_isCounting 0 [.ref 102, .int (nI c), ev_unk, ev_unk, ev_unk] [] h R := by
  obtain ⟨bm, z, m1⟩ := H.2.1
  obtain ⟨g, m2, sl⟩ := H.2.2.1
  exact s_Mo_isCounting m1 m2 sl.1 H.mx.1 H.gd hc fun h' K P => hR h' K (H.pile K P)
theorem setL_add (p : Nat → Bool) {i : Nat} (hi : i < 32) (hp : p i = true) : setL (fun j => decide (j < i) && p j) ||| ((1 : Int64) <<< ((nI i).toInt64 &&& 63)) = setL (fun j => decide (j < i + 1) && p j) := by
  rw [setL_one hi, setL_or]
  refine setL_congr fun j hj => ?_
  by_cases c : j = i
  · subst c; simp [hp]
  · rw [decide_eq_false c, Bool.or_false, decide_eq_decide.mpr (show j < i ↔ j < i + 1 by omega)]
theorem setL_skip (p : Nat → Bool) {i : Nat} (hp : p i = false) : setL (fun j => decide (j < i) && p j) = setL (fun j => decide (j < i + 1) && p j) := by
  refine setL_congr fun j hj => ?_
  by_cases c : j = i
  · subst c; simp [hp]
  · rw [decide_eq_decide.mpr (show j < i ↔ j < i + 1 by omega)]
theorem setL_lt0 (p : Nat → Bool) : (0 : Int64) = setL (fun j => decide (j < 0) && p j) := setL_0.trans (setL_congr fun j _ => by simp)
theorem l_or0 (x : Int64) : x ||| (0 : Int64) = x := l_ext fun i _ => by rw [l_or, l_0, Bool.or_false]
theorem ct_lt {S : AS} : setL (fun j => decide (j < sN S) && ctP S j) = setL (ctP S) := setL_congr fun j _ => by
  unfold ctP
  rw [← Bool.and_assoc, Bool.and_self]
theorem s_cnt (H : MR h Q) (hR : ∀ h', Kp h h' 104 105 → MR h' Q → R (some (.long (setL (ctP (qS Q))))) h') : Ev G (d + 6) 0 0 M_Mo_counting 0 [.ref 102, ev_unk, ev_unk, ev_unk] [] h R := by
  have n32 := H.szN
  refine b_Mo_counting_0 (d := d + 4) ?_
  have L := up0 (P := fun i => ∀ h', Kp h h' 104 105 → MR h' Q → Ev G (d + 6) 0 0 M_Mo_counting 4 [.ref 102, .long (setL (fun j => decide (j < i) && ctP (qS Q) j)), ev_unk, .int (nI i)] [] h' R) (sN (qS Q)) ?_ ?_
  · have := L h (Kp.refl _ _ _) H
    rw [← setL_lt0] at this
    exact this
  · intro i hi ih h' K H
    obtain ⟨bm, z, m1⟩ := H.2.1
    refine b_Mo_counting_4 (d := d + 4) H.ms ⟨_, m1⟩ (fun c1 => ⟨_, m1⟩) (fun c1 => ?_) (fun c1 => absurd (nI_lt hi (by omega)) c1)
    refine (s_isC (d := d) H hi fun h2 K2 H2 => ?_).room (by omega) (Nat.le_refl _) (Nat.le_refl _)
    refine b_Mo_counting_18 (d := d + 4) (fun c => ?_) (fun c => ?_)
    · rw [l_or0, setL_skip _ (b2i_e0 c), nI_1]
      exact ih h2 (K.trans K2) H2
    · rw [setL_add _ (by omega) (b2i_n0 c), nI_1]
      exact ih h2 (K.trans K2) H2
  · intro h' K H
    obtain ⟨bm, z, m1⟩ := H.2.1
    refine b_Mo_counting_4 (d := d + 4) H.ms ⟨_, m1⟩ (fun c1 => ⟨_, m1⟩) (fun c1 => absurd c1 (nl_self (by omega))) (fun c1 => ?_)
    rw [ct_lt]
    exact hR h' K H
end S45d
