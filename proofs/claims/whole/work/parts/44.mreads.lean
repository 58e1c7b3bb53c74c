/-! the model between calls, and its reads -/
def MX (h : ev_H) : Prop := (∃ g, hat h 104 (aL 300 g)) ∧ (∃ g, hat h 106 (aB 900 g)) ∧ (∃ g, hat h 107 (aI 6 g)) ∧ (∃ g, hat h 108 (aI 6 g)) ∧ hat h 109 (aG 6 (fun i => if i < 6 then some (109 + 1 + i) else none)) ∧ (∀ i, i < 6 → ∃ g, hat h (109 + 1 + i) (aI 26 g)) ∧ hat h 116 (aG 7 (fun i => if i < 7 then some (116 + 1 + i) else none)) ∧ (∀ i, i < 7 → ∃ g, hat h (116 + 1 + i) (aI 56 g)) ∧ (∃ g, hat h 124 (aI 32 g)) ∧ ∃ g, hat h 125 (aI 32 g)
def SlQ (g : Nat → Int64) (Q : QS) : Prop := SlR g 0 (qS Q) ∧ (∀ i, i < qKn Q → SlR g (1148 + 574 * i) (qKa Q i)) ∧ ∀ i, i < qMn Q → SlR g (8036 + 574 * i) (qMa Q i)
def moQ (Q : QS) (bm : Int32) : MG := (qL Q, nI (qKn Q), nI (qMn Q), nI (qTn Q), qFp Q, qFk Q, bm)
def MR (h : ev_H) (Q : QS) : Prop := qGd Q ∧ (∃ bm z, hat h 102 (moC (moQ Q bm) z)) ∧ (∃ g, hat h 103 (aL 9758 g) ∧ SlQ g Q) ∧ hat h 105 (aB 900 (qTg Q)) ∧ MX h ∧ 126 ≤ h.1
section S44
variable {G : ev_G} {d : Nat} {h h1 : ev_H} {R : Option Value → ev_H → Prop} {Q : QS} {lo hi : Nat}
theorem MR.gd (H : MR h Q) : sGd (qS Q) := H.1.1
theorem MR.ok (H : MR h Q) : sOk (qS Q) := H.1.1.1
theorem MR.fo (H : MR h Q) : sFl (qS Q) = [] ∨ flOk (sFl (qS Q)) := H.gd.fo
theorem MR.ms (H : MR h Q) : MS h (qS Q) := by
  obtain ⟨-, ⟨bm, z, m1⟩, ⟨g, m2, sl⟩, -⟩ := H
  exact ⟨_, _, _, m1, m2, sl.1⟩
theorem MR.szN (H : MR h Q) : sN (qS Q) ≤ 32 := H.ok.2.2.2.2.1
theorem MR.szP (H : MR h Q) : sP (qS Q) ≤ 6 := H.ok.2.2.2.1
theorem MR.szB (H : MR h Q) : sB (qS Q) ≤ 48 := H.ok.2.1
theorem MX.kg (X : MX h) (K : Kg h h1 lo hi) (q : hi ≤ 104) : MX h1 := by
  obtain ⟨⟨g1, a1⟩, ⟨g2, a2⟩, ⟨g3, a3⟩, ⟨g4, a4⟩, a5, a6, a7, a8, ⟨g9, a9⟩, ⟨g10, a10⟩⟩ := X
  exact ⟨⟨_, K.hat a1 (by omega)⟩, ⟨_, K.hat a2 (by omega)⟩, ⟨_, K.hat a3 (by omega)⟩, ⟨_, K.hat a4 (by omega)⟩, K.hat a5 (by omega), fun i hi => ⟨_, K.hat (a6 i hi).choose_spec (by omega)⟩, K.hat a7 (by omega), fun i hi => ⟨_, K.hat (a8 i hi).choose_spec (by omega)⟩, ⟨_, K.hat a9 (by omega)⟩, ⟨_, K.hat a10 (by omega)⟩⟩
/-- the other side changed -/
theorem MR.other (H : MR h Q) (K : Kg h h1 0 102) : MR h1 Q := by
  obtain ⟨a, ⟨bm, z, m1⟩, ⟨g, m2, sl⟩, t, X, n⟩ := H
  exact ⟨a, ⟨bm, z, K.hat m1 (by omega)⟩, ⟨g, K.hat m2 (by omega), sl⟩, K.hat t (by omega), X.kg K (by omega), Nat.le_trans n K.1⟩
theorem MR.st (H : MR h Q) {bm : Int32} {z : MP} (m1 : hat h 102 (moC (moQ Q bm) z)) (l : Int32) : MR (hset h 102 (moC (stV (moQ Q bm) l) z)) (stQ Q l) := by
  have K : Kg h (hset h 102 (moC (stV (moQ Q bm) l) z)) 102 103 := ((Kp.refl h 102 103).set _ (by omega) (by omega)).g
  obtain ⟨a, -, ⟨g, m2, sl⟩, t, X, n⟩ := H
  exact ⟨a, ⟨bm, z, hat_set m1⟩, ⟨g, K.hat m2 (by omega), sl⟩, K.hat t (by omega), X.kg K (by omega), n⟩
theorem MR.fin (H : MR h1 Q) (K : Kp h h1 102 126) {v l : Int32} {q : Int32 × Int32} {bm : Int32} {z : MP} (m1 : hat h1 102 (moC (moQ Q bm) z)) (hR : ∀ h', Kp h h' 102 126 → MR h' (stQ Q q.2) → R (some (.int q.1)) h') (e : q = (v, l)) : R (some (.int v)) (hset h1 102 (moC (stV (moQ Q bm) l) z)) := by
  subst e
  exact hR _ (K.set _ (by omega) (by omega)) (H.st m1 l)
theorem MR.finL (H : MR h1 Q) (K : Kp h h1 102 126) {v : Int64} {l : Int32} {q : Int64 × Int32} {bm : Int32} {z : MP} (m1 : hat h1 102 (moC (moQ Q bm) z)) (hR : ∀ h', Kp h h' 102 126 → MR h' (stQ Q q.2) → R (some (.long q.1)) h') (e : q = (v, l)) : R (some (.long v)) (hset h1 102 (moC (stV (moQ Q bm) l) z)) := by
  subst e
  exact hR _ (K.set _ (by omega) (by omega)) (H.st m1 l)
theorem fr_dc {x : Int32} {b : Nat} (hb : b < 2147483647) : frB x.toInt64 0 (lN b) = decide (0 ≤ x ∧ x < nI (b + 1)) := by
  have e : (x.toInt64).toInt = x.toInt := Int32.toInt_toInt64 x
  have e2 : (lN b).toInt = b := lN_toInt (by omega)
  have e3 : (nI (b + 1)).toInt = (b + 1 : Nat) := nI_toInt (by omega)
  unfold frB
  rw [Bool.eq_iff_iff, Bool.and_eq_true, decide_eq_true_iff, decide_eq_true_iff, decide_eq_true_iff, Int64.lt_iff_toInt_lt, Int64.lt_iff_toInt_lt, Int32.le_iff_toInt_le, Int32.lt_iff_toInt_lt, e, e2, e3]
  have z : (0 : Int64).toInt = 0 := rfl
  have z' : (0 : Int32).toInt = 0 := rfl
  rw [z, z']
  omega
theorem fr_in {x : Int32} {b : Nat} (hb : b < 2147483647) : frB x.toInt64 0 (lN b) = inR x (b + 1) := by
  rw [fr_dc hb]
  unfold inR
  have e3 : (nI (b + 1)).toInt = (b + 1 : Nat) := nI_toInt (by omega)
  congr 1
  rw [Int32.le_iff_toInt_le, Int32.lt_iff_toInt_lt, e3]
  rfl
end S44
theorem b_Mo_status_0 {G : ev_G} {d k n : Nat} {h : ev_H} {R : Option Value → ev_H → Prop} {f_status_1 : Int32} {f_acts_2 : Int32} {f_marks_3 : Int32} {f_taped_4 : Int32} {f_size_5 : Int32} {f_token_6 : Int32} {f_begin_7 : Int32} {f_end_8 : Int32} {f_faults_9 : Int32} {f_faultPlace_10 : Int32} {f_faultKind_11 : Int32} {f_deep_12 : Int32} {f_value_13 : Int64} {f_broadMany_14 : Int32}
  (a1 : hat h 102 (oC 9 [.ref 103, .int f_status_1, .int f_acts_2, .int f_marks_3, .ref 104, .ref 105, .ref 106, .int f_taped_4, .int f_size_5, .int f_token_6, .int f_begin_7, .int f_end_8, .int f_faults_9, .int f_faultPlace_10, .int f_faultKind_11, .int f_deep_12, .long f_value_13, .ref 107, .ref 108, .ref 109, .ref 116, .int f_broadMany_14, .ref 124, .ref 125]))
  (k1 : R (some (.int f_status_1)) h)
  : Ev G d k n M_Mo_status 0 [.ref 102] [] h R :=
  Ev.go (pc' := 1) (ls' := [.ref 102]) (st' := [.ref 102]) [.aload_n 0] (by decide +kernel) rfl <|
  Ev.getf f_Mo_55 (by decide +kernel) a1 rfl <|
  Ev.ret (r := (some (.int f_status_1))) (Or.inl ⟨_, rfl, by decide +kernel, _, rfl, rfl⟩) k1
theorem b_Mo_fault_0 {G : ev_G} {d k n : Nat} {h : ev_H} {R : Option Value → ev_H → Prop} {x1 : Int32} {f_status_1 : Int32} {f_acts_2 : Int32} {f_marks_3 : Int32} {f_taped_4 : Int32} {f_size_5 : Int32} {f_token_6 : Int32} {f_begin_7 : Int32} {f_end_8 : Int32} {f_faults_9 : Int32} {f_faultPlace_10 : Int32} {f_faultKind_11 : Int32} {f_deep_12 : Int32} {f_value_13 : Int64} {f_broadMany_14 : Int32}
  (a1 : hat h 102 (oC 9 [.ref 103, .int f_status_1, .int f_acts_2, .int f_marks_3, .ref 104, .ref 105, .ref 106, .int f_taped_4, .int f_size_5, .int f_token_6, .int f_begin_7, .int f_end_8, .int f_faults_9, .int f_faultPlace_10, .int f_faultKind_11, .int f_deep_12, .long f_value_13, .ref 107, .ref 108, .ref 109, .ref 116, .int f_broadMany_14, .ref 124, .ref 125]))
  (k1 : x1 = (0 : Int32) → R (some (.int f_faultKind_11)) h)
  (k2 : ¬ x1 = (0 : Int32) → x1 = (1 : Int32) → R (some (.int f_faultPlace_10)) h)
  (k3 : ¬ x1 = (0 : Int32) → ¬ x1 = (1 : Int32) → R (some (.int (-1 : Int32))) h)
  : Ev G d k n M_Mo_fault 0 [.ref 102, .int x1] [] h R :=
  Ev.go (pc' := 1) (ls' := [.ref 102, .int x1]) (st' := [.int x1]) [.iload_n 1] (by decide +kernel) rfl <|
  Ev.br (i := .ifCond .ne (10)) (P := x1 = (0 : Int32)) (t := 4) (f := 11) (r := []) (by decide +kernel) rfl (fun c1 =>
    Ev.go (pc' := 5) (ls' := [.ref 102, .int x1]) (st' := [.ref 102]) [.aload_n 0] (by decide +kernel) rfl <|
    Ev.getf f_Mo_27 (by decide +kernel) a1 rfl <|
    Ev.go (pc' := 24) (ls' := [.ref 102, .int x1]) (st' := [.int f_faultKind_11]) [.goto (16)] (by decide +kernel) rfl <|
    Ev.ret (r := (some (.int f_faultKind_11))) (Or.inl ⟨_, rfl, by decide +kernel, _, rfl, rfl⟩) (k1 c1)
  ) (fun c1 =>
    Ev.go (pc' := 13) (ls' := [.ref 102, .int x1]) (st' := [.int (1 : Int32), .int x1]) [.iload_n 1, .iconst 1] (by decide +kernel) rfl <|
    Ev.br (i := .if_icmp .ne (10)) (P := x1 = (1 : Int32)) (t := 16) (f := 23) (r := []) (by decide +kernel) rfl (fun c2 =>
      Ev.go (pc' := 17) (ls' := [.ref 102, .int x1]) (st' := [.ref 102]) [.aload_n 0] (by decide +kernel) rfl <|
      Ev.getf f_Mo_23 (by decide +kernel) a1 rfl <|
      Ev.go (pc' := 24) (ls' := [.ref 102, .int x1]) (st' := [.int f_faultPlace_10]) [.goto (4)] (by decide +kernel) rfl <|
      Ev.ret (r := (some (.int f_faultPlace_10))) (Or.inl ⟨_, rfl, by decide +kernel, _, rfl, rfl⟩) (k2 c1 c2)
    ) (fun c2 =>
      Ev.go (pc' := 24) (ls' := [.ref 102, .int x1]) (st' := [.int (-1 : Int32)]) [.iconst (-1)] (by decide +kernel) rfl <|
      Ev.ret (r := (some (.int (-1 : Int32)))) (Or.inl ⟨_, rfl, by decide +kernel, _, rfl, rfl⟩) (k3 c1 c2)
    )
  )
theorem b_Mo_code_0 {G : ev_G} {d k n : Nat} {h : ev_H} {R : Option Value → ev_H → Prop} {x1 : Int32} {S1 : AS} {v_2 : MG} {z_3 : MP} {S4 : AS} {c_5 : Nat} {v_6 : MG} {z_7 : MP}
  (pr1 : MS h S1)
  (pr2 : sOk S1)
  (r3 : ∃ fs, hat h 102 (oC 9 fs))
  (pr4 : (b2i (inR x1 (sN S1))) = (0 : Int32) → hat h 102 (moC v_2 z_3))
  (r5 : (b2i (inR x1 (sN S1))) = (0 : Int32) → ∃ fs, hat h 102 (oC 9 fs))
  (pr6 : ¬ (b2i (inR x1 (sN S1))) = (0 : Int32) → MS h S4)
  (pr7 : ¬ (b2i (inR x1 (sN S1))) = (0 : Int32) → sOk S4)
  (pr8 : ¬ (b2i (inR x1 (sN S1))) = (0 : Int32) → x1 = nI c_5 ∧ c_5 < sN S4)
  (r9 : ¬ (b2i (inR x1 (sN S1))) = (0 : Int32) → ∃ fs, hat h 102 (oC 9 fs))
  (pr10 : ¬ (b2i (inR x1 (sN S1))) = (0 : Int32) → hat h 102 (moC v_6 z_7))
  (k1 : (b2i (inR x1 (sN S1))) = (0 : Int32) → R (some (.long (-1 : Int32).toInt64)) (hset h 102 (moC (stV v_2 (2 : Int32)) z_3)))
  (k2 : ¬ (b2i (inR x1 (sN S1))) = (0 : Int32) → R (some (.long (sCo S4 c_5))) (hset h 102 (moC (stV v_6 0) z_7)))
  : Ev G (d + 3) k n M_Mo_code 0 [.ref 102, .int x1] [] h R :=
  Ev.go (pc' := 2) (ls' := [.ref 102, .int x1]) (st' := [.int x1, .ref 102]) [.aload_n 0, .iload_n 1] (by decide +kernel) rfl <|
  Ev.cV0 (M' := M_Mo_isCode) (as := [.int x1]) (rest := []) l_Mo_258 M_Mo_isCode_ok M_Mo_isCode_in M_Mo_isCode_se (by decide +kernel) r3 rfl rfl rfl (Nat.le_of_ble_eq_true rfl) (Nat.le_of_ble_eq_true rfl) (s_Mo_isCode pr1 pr2 <| show Ev G (d + 3) _ _ M_Mo_code 5 [.ref 102, .int x1] [.int (b2i (inR x1 (sN S1)))] h R from
    Ev.br (i := .ifCond .eq (15)) (P := (b2i (inR x1 (sN S1))) = (0 : Int32)) (t := 20) (f := 8) (r := []) (by decide +kernel) rfl (fun c1 =>
      Ev.go (pc' := 22) (ls' := [.ref 102, .int x1]) (st' := [.int (2 : Int32), .ref 102]) [.aload_n 0, .iconst 2] (by decide +kernel) rfl <|
      Ev.cV0 (M' := M_Mo_refuse) (as := [.int (2 : Int32)]) (rest := []) l_Mo_226 M_Mo_refuse_ok M_Mo_refuse_in M_Mo_refuse_se (by decide +kernel) (r5 c1) rfl rfl rfl (Nat.le_of_ble_eq_true rfl) (Nat.le_of_ble_eq_true rfl) (s_Mo_refuse (pr4 c1) <| show Ev G (d + 3) _ _ M_Mo_code 25 [.ref 102, .int x1] [.int (-1 : Int32)] (hset h 102 (moC (stV v_2 (2 : Int32)) z_3)) R from
        Ev.go (pc' := 26) (ls' := [.ref 102, .int x1]) (st' := [.long (-1 : Int32).toInt64]) [.i2l] (by decide +kernel) rfl <|
        Ev.ret (r := (some (.long (-1 : Int32).toInt64))) (Or.inr (Or.inl ⟨_, rfl, by decide +kernel, rfl⟩)) (k1 c1)
      )
    ) (fun c1 =>
      Ev.go (pc' := 11) (ls' := [.ref 102, .int x1]) (st' := [.int x1, .ref 102, .ref 102]) [.aload_n 0, .aload_n 0, .iload_n 1] (by decide +kernel) rfl <|
      Ev.cV0 (M' := M_Mo_codeOf) (as := [.int x1]) (rest := [.ref 102]) l_Mo_85 M_Mo_codeOf_ok M_Mo_codeOf_in M_Mo_codeOf_se (by decide +kernel) (r9 c1) rfl rfl rfl (Nat.le_of_ble_eq_true rfl) (Nat.le_of_ble_eq_true rfl) (s_Mo_codeOf (pr6 c1) (pr7 c1) (pr8 c1) <| show Ev G (d + 3) _ _ M_Mo_code 14 [.ref 102, .int x1] [.long (sCo S4 c_5), .ref 102] h R from
        Ev.cV0 (M' := M_Mo_gives_J) (as := [.long (sCo S4 c_5)]) (rest := []) l_Mo_261 M_Mo_gives_J_ok M_Mo_gives_J_in M_Mo_gives_J_se (by decide +kernel) (r9 c1) rfl rfl rfl (Nat.le_of_ble_eq_true rfl) (Nat.le_of_ble_eq_true rfl) (s_Mo_gives_J (pr10 c1) <| show Ev G (d + 3) _ _ M_Mo_code 17 [.ref 102, .int x1] [.long (sCo S4 c_5)] (hset h 102 (moC (stV v_6 0) z_7)) R from
          Ev.go (pc' := 26) (ls' := [.ref 102, .int x1]) (st' := [.long (sCo S4 c_5)]) [.goto (9)] (by decide +kernel) rfl <|
          Ev.ret (r := (some (.long (sCo S4 c_5)))) (Or.inr (Or.inl ⟨_, rfl, by decide +kernel, rfl⟩)) (k2 c1)
        )
      )
    )
  )
theorem b_Mo_tagOf_0 {G : ev_G} {d k n : Nat} {h : ev_H} {R : Option Value → ev_H → Prop} {x1 : Int32} {S1 : AS} {v_2 : MG} {z_3 : MP} {v_4 : MG} {z_5 : MP} {g_6 : Nat → Int64} {j_7 : Nat} {v_8 : MG} {z_9 : MP}
  (pr1 : MS h S1)
  (pr2 : sOk S1)
  (r3 : ∃ fs, hat h 102 (oC 9 fs))
  (pr4 : (b2i (inR x1 (sN S1))) = (0 : Int32) → hat h 102 (moC v_2 z_3))
  (r5 : (b2i (inR x1 (sN S1))) = (0 : Int32) → ∃ fs, hat h 102 (oC 9 fs))
  (pr6 : ¬ (b2i (inR x1 (sN S1))) = (0 : Int32) → hat h 102 (moC v_4 z_5))
  (pr7 : ¬ (b2i (inR x1 (sN S1))) = (0 : Int32) → hat h 103 (aL 9758 g_6))
  (pr8 : ¬ (b2i (inR x1 (sN S1))) = (0 : Int32) → ev_ix ((42 : Int32) + x1) j_7 9758)
  (r9 : ¬ (b2i (inR x1 (sN S1))) = (0 : Int32) → ∃ fs, hat h 102 (oC 9 fs))
  (pr10 : ¬ (b2i (inR x1 (sN S1))) = (0 : Int32) → hat h 102 (moC v_8 z_9))
  (k1 : (b2i (inR x1 (sN S1))) = (0 : Int32) → R (some (.int (-1 : Int32))) (hset h 102 (moC (stV v_2 (2 : Int32)) z_3)))
  (k2 : ¬ (b2i (inR x1 (sN S1))) = (0 : Int32) → R (some (.int (g_6 j_7).toInt32)) (hset h 102 (moC (stV v_8 0) z_9)))
  : Ev G (d + 3) k n M_Mo_tagOf 0 [.ref 102, .int x1] [] h R :=
  Ev.go (pc' := 2) (ls' := [.ref 102, .int x1]) (st' := [.int x1, .ref 102]) [.aload_n 0, .iload_n 1] (by decide +kernel) rfl <|
  Ev.cV0 (M' := M_Mo_isCode) (as := [.int x1]) (rest := []) l_Mo_258 M_Mo_isCode_ok M_Mo_isCode_in M_Mo_isCode_se (by decide +kernel) r3 rfl rfl rfl (Nat.le_of_ble_eq_true rfl) (Nat.le_of_ble_eq_true rfl) (s_Mo_isCode pr1 pr2 <| show Ev G (d + 3) _ _ M_Mo_tagOf 5 [.ref 102, .int x1] [.int (b2i (inR x1 (sN S1)))] h R from
    Ev.br (i := .ifCond .eq (19)) (P := (b2i (inR x1 (sN S1))) = (0 : Int32)) (t := 24) (f := 8) (r := []) (by decide +kernel) rfl (fun c1 =>
      Ev.go (pc' := 26) (ls' := [.ref 102, .int x1]) (st' := [.int (2 : Int32), .ref 102]) [.aload_n 0, .iconst 2] (by decide +kernel) rfl <|
      Ev.cV0 (M' := M_Mo_refuse) (as := [.int (2 : Int32)]) (rest := []) l_Mo_226 M_Mo_refuse_ok M_Mo_refuse_in M_Mo_refuse_se (by decide +kernel) (r5 c1) rfl rfl rfl (Nat.le_of_ble_eq_true rfl) (Nat.le_of_ble_eq_true rfl) (s_Mo_refuse (pr4 c1) <| show Ev G (d + 3) _ _ M_Mo_tagOf 29 [.ref 102, .int x1] [.int (-1 : Int32)] (hset h 102 (moC (stV v_2 (2 : Int32)) z_3)) R from
        Ev.ret (r := (some (.int (-1 : Int32)))) (Or.inl ⟨_, rfl, by decide +kernel, _, rfl, rfl⟩) (k1 c1)
      )
    ) (fun c1 =>
      Ev.go (pc' := 14) (ls' := [.ref 102, .int x1]) (st' := [.int ((42 : Int32) + x1), .ref 102, .ref 102]) [.aload_n 0, .aload_n 0, .bipush (42), .iload_n 1, .iadd] (by decide +kernel) rfl <|
      Ev.cV0 (M' := M_Mo_of) (as := [.int ((42 : Int32) + x1)]) (rest := [.ref 102]) l_Mo_64 M_Mo_of_ok M_Mo_of_in M_Mo_of_se (by decide +kernel) (r9 c1) rfl rfl rfl (Nat.le_of_ble_eq_true rfl) (Nat.le_of_ble_eq_true rfl) (s_Mo_of (pr6 c1) (pr7 c1) (pr8 c1) <| show Ev G (d + 3) _ _ M_Mo_tagOf 17 [.ref 102, .int x1] [.long (g_6 j_7), .ref 102] h R from
        Ev.go (pc' := 18) (ls' := [.ref 102, .int x1]) (st' := [.int (g_6 j_7).toInt32, .ref 102]) [.l2i] (by decide +kernel) rfl <|
        Ev.cV0 (M' := M_Mo_gives_I) (as := [.int (g_6 j_7).toInt32]) (rest := []) l_Mo_245 M_Mo_gives_I_ok M_Mo_gives_I_in M_Mo_gives_I_se (by decide +kernel) (r9 c1) rfl rfl rfl (Nat.le_of_ble_eq_true rfl) (Nat.le_of_ble_eq_true rfl) (s_Mo_gives_I (pr10 c1) <| show Ev G (d + 3) _ _ M_Mo_tagOf 21 [.ref 102, .int x1] [.int (g_6 j_7).toInt32] (hset h 102 (moC (stV v_8 0) z_9)) R from
          Ev.go (pc' := 29) (ls' := [.ref 102, .int x1]) (st' := [.int (g_6 j_7).toInt32]) [.goto (8)] (by decide +kernel) rfl <|
          Ev.ret (r := (some (.int (g_6 j_7).toInt32))) (Or.inl ⟨_, rfl, by decide +kernel, _, rfl, rfl⟩) (k2 c1)
        )
      )
    )
  )
theorem b_Mo_breadth_0 {G : ev_G} {d k n : Nat} {h : ev_H} {R : Option Value → ev_H → Prop} {x1 : Int32} {S1 : AS} {v_2 : MG} {z_3 : MP} {S4 : AS} {p_5 : Nat} {v_6 : MG} {z_7 : MP}
  (pr1 : MS h S1)
  (pr2 : sOk S1)
  (r3 : ∃ fs, hat h 102 (oC 9 fs))
  (pr4 : (b2i (inR x1 (sP S1))) = (0 : Int32) → hat h 102 (moC v_2 z_3))
  (r5 : (b2i (inR x1 (sP S1))) = (0 : Int32) → ∃ fs, hat h 102 (oC 9 fs))
  (pr6 : ¬ (b2i (inR x1 (sP S1))) = (0 : Int32) → MS h S4)
  (pr7 : ¬ (b2i (inR x1 (sP S1))) = (0 : Int32) → sOk S4)
  (pr8 : ¬ (b2i (inR x1 (sP S1))) = (0 : Int32) → x1 = nI p_5 ∧ p_5 < sP S4)
  (r9 : ¬ (b2i (inR x1 (sP S1))) = (0 : Int32) → ∃ fs, hat h 102 (oC 9 fs))
  (pr10 : ¬ (b2i (inR x1 (sP S1))) = (0 : Int32) → hat h 102 (moC v_6 z_7))
  (k1 : (b2i (inR x1 (sP S1))) = (0 : Int32) → R (some (.int (-1 : Int32))) (hset h 102 (moC (stV v_2 (2 : Int32)) z_3)))
  (k2 : ¬ (b2i (inR x1 (sP S1))) = (0 : Int32) → R (some (.int (nI (sBr S4 p_5)))) (hset h 102 (moC (stV v_6 0) z_7)))
  : Ev G (d + 3) k n M_Mo_breadth 0 [.ref 102, .int x1] [] h R :=
  Ev.go (pc' := 2) (ls' := [.ref 102, .int x1]) (st' := [.int x1, .ref 102]) [.aload_n 0, .iload_n 1] (by decide +kernel) rfl <|
  Ev.cV0 (M' := M_Mo_isPart) (as := [.int x1]) (rest := []) l_Mo_264 M_Mo_isPart_ok M_Mo_isPart_in M_Mo_isPart_se (by decide +kernel) r3 rfl rfl rfl (Nat.le_of_ble_eq_true rfl) (Nat.le_of_ble_eq_true rfl) (s_Mo_isPart pr1 pr2 <| show Ev G (d + 3) _ _ M_Mo_breadth 5 [.ref 102, .int x1] [.int (b2i (inR x1 (sP S1)))] h R from
    Ev.br (i := .ifCond .eq (15)) (P := (b2i (inR x1 (sP S1))) = (0 : Int32)) (t := 20) (f := 8) (r := []) (by decide +kernel) rfl (fun c1 =>
      Ev.go (pc' := 22) (ls' := [.ref 102, .int x1]) (st' := [.int (2 : Int32), .ref 102]) [.aload_n 0, .iconst 2] (by decide +kernel) rfl <|
      Ev.cV0 (M' := M_Mo_refuse) (as := [.int (2 : Int32)]) (rest := []) l_Mo_226 M_Mo_refuse_ok M_Mo_refuse_in M_Mo_refuse_se (by decide +kernel) (r5 c1) rfl rfl rfl (Nat.le_of_ble_eq_true rfl) (Nat.le_of_ble_eq_true rfl) (s_Mo_refuse (pr4 c1) <| show Ev G (d + 3) _ _ M_Mo_breadth 25 [.ref 102, .int x1] [.int (-1 : Int32)] (hset h 102 (moC (stV v_2 (2 : Int32)) z_3)) R from
        Ev.ret (r := (some (.int (-1 : Int32)))) (Or.inl ⟨_, rfl, by decide +kernel, _, rfl, rfl⟩) (k1 c1)
      )
    ) (fun c1 =>
      Ev.go (pc' := 11) (ls' := [.ref 102, .int x1]) (st' := [.int x1, .ref 102, .ref 102]) [.aload_n 0, .aload_n 0, .iload_n 1] (by decide +kernel) rfl <|
      Ev.cV0 (M' := M_Mo_breadthOf) (as := [.int x1]) (rest := [.ref 102]) l_Mo_81 M_Mo_breadthOf_ok M_Mo_breadthOf_in M_Mo_breadthOf_se (by decide +kernel) (r9 c1) rfl rfl rfl (Nat.le_of_ble_eq_true rfl) (Nat.le_of_ble_eq_true rfl) (s_Mo_breadthOf (pr6 c1) (pr7 c1) (pr8 c1) <| show Ev G (d + 3) _ _ M_Mo_breadth 14 [.ref 102, .int x1] [.int (nI (sBr S4 p_5)), .ref 102] h R from
        Ev.cV0 (M' := M_Mo_gives_I) (as := [.int (nI (sBr S4 p_5))]) (rest := []) l_Mo_245 M_Mo_gives_I_ok M_Mo_gives_I_in M_Mo_gives_I_se (by decide +kernel) (r9 c1) rfl rfl rfl (Nat.le_of_ble_eq_true rfl) (Nat.le_of_ble_eq_true rfl) (s_Mo_gives_I (pr10 c1) <| show Ev G (d + 3) _ _ M_Mo_breadth 17 [.ref 102, .int x1] [.int (nI (sBr S4 p_5))] (hset h 102 (moC (stV v_6 0) z_7)) R from
          Ev.go (pc' := 25) (ls' := [.ref 102, .int x1]) (st' := [.int (nI (sBr S4 p_5))]) [.goto (8)] (by decide +kernel) rfl <|
          Ev.ret (r := (some (.int (nI (sBr S4 p_5))))) (Or.inl ⟨_, rfl, by decide +kernel, _, rfl, rfl⟩) (k2 c1)
        )
      )
    )
  )
theorem b_Mo_key_II_0 {G : ev_G} {d k n : Nat} {h : ev_H} {R : Option Value → ev_H → Prop} {x1 : Int32} {x2 : Int32} {S1 : AS} {v_2 : MG} {z_3 : MP} {S4 : AS} {v_5 : MG} {z_6 : MP} {S7 : AS} {c_8 : Nat} {S9 : AS} {p_10 : Nat} {v_11 : MG} {z_12 : MP}
  (pr1 : MS h S1)
  (pr2 : sOk S1)
  (r3 : ∃ fs, hat h 102 (oC 9 fs))
  (pr4 : (b2i (inR x1 (sN S1))) = (0 : Int32) → hat h 102 (moC v_2 z_3))
  (r5 : (b2i (inR x1 (sN S1))) = (0 : Int32) → ∃ fs, hat h 102 (oC 9 fs))
  (pr6 : ¬ (b2i (inR x1 (sN S1))) = (0 : Int32) → MS h S4)
  (pr7 : ¬ (b2i (inR x1 (sN S1))) = (0 : Int32) → sOk S4)
  (r8 : ¬ (b2i (inR x1 (sN S1))) = (0 : Int32) → ∃ fs, hat h 102 (oC 9 fs))
  (pr9 : ¬ (b2i (inR x1 (sN S1))) = (0 : Int32) → (b2i (inR x2 (sP S4))) = (0 : Int32) → hat h 102 (moC v_5 z_6))
  (r10 : ¬ (b2i (inR x1 (sN S1))) = (0 : Int32) → (b2i (inR x2 (sP S4))) = (0 : Int32) → ∃ fs, hat h 102 (oC 9 fs))
  (pr11 : ¬ (b2i (inR x1 (sN S1))) = (0 : Int32) → ¬ (b2i (inR x2 (sP S4))) = (0 : Int32) → MS h S7)
  (pr12 : ¬ (b2i (inR x1 (sN S1))) = (0 : Int32) → ¬ (b2i (inR x2 (sP S4))) = (0 : Int32) → sOk S7)
  (pr13 : ¬ (b2i (inR x1 (sN S1))) = (0 : Int32) → ¬ (b2i (inR x2 (sP S4))) = (0 : Int32) → x1 = nI c_8 ∧ c_8 < sN S7)
  (r14 : ¬ (b2i (inR x1 (sN S1))) = (0 : Int32) → ¬ (b2i (inR x2 (sP S4))) = (0 : Int32) → ∃ fs, hat h 102 (oC 9 fs))
  (pr15 : ¬ (b2i (inR x1 (sN S1))) = (0 : Int32) → ¬ (b2i (inR x2 (sP S4))) = (0 : Int32) → MS h S9)
  (pr16 : ¬ (b2i (inR x1 (sN S1))) = (0 : Int32) → ¬ (b2i (inR x2 (sP S4))) = (0 : Int32) → sOk S9)
  (pr17 : ¬ (b2i (inR x1 (sN S1))) = (0 : Int32) → ¬ (b2i (inR x2 (sP S4))) = (0 : Int32) → x2 = nI p_10 ∧ p_10 < sP S9)
  (pr18 : ¬ (b2i (inR x1 (sN S1))) = (0 : Int32) → ¬ (b2i (inR x2 (sP S4))) = (0 : Int32) → hat h 102 (moC v_11 z_12))
  (k1 : (b2i (inR x1 (sN S1))) = (0 : Int32) → R (some (.int (-1 : Int32))) (hset h 102 (moC (stV v_2 (2 : Int32)) z_3)))
  (k2 : ¬ (b2i (inR x1 (sN S1))) = (0 : Int32) → (b2i (inR x2 (sP S4))) = (0 : Int32) → R (some (.int (-1 : Int32))) (hset h 102 (moC (stV v_5 (2 : Int32)) z_6)))
  (k3 : ¬ (b2i (inR x1 (sN S1))) = (0 : Int32) → ¬ (b2i (inR x2 (sP S4))) = (0 : Int32) → R (some (.int (lN (keyN (sCo S7 c_8) (stt S9 p_10) (sBr S9 p_10))).toInt32)) (hset h 102 (moC (stV v_11 0) z_12)))
  : Ev G (d + 3) k n M_Mo_key_II 0 [.ref 102, .int x1, .int x2] [] h R :=
  Ev.go (pc' := 2) (ls' := [.ref 102, .int x1, .int x2]) (st' := [.int x1, .ref 102]) [.aload_n 0, .iload_n 1] (by decide +kernel) rfl <|
  Ev.cV0 (M' := M_Mo_isCode) (as := [.int x1]) (rest := []) l_Mo_258 M_Mo_isCode_ok M_Mo_isCode_in M_Mo_isCode_se (by decide +kernel) r3 rfl rfl rfl (Nat.le_of_ble_eq_true rfl) (Nat.le_of_ble_eq_true rfl) (s_Mo_isCode pr1 pr2 <| show Ev G (d + 3) _ _ M_Mo_key_II 5 [.ref 102, .int x1, .int x2] [.int (b2i (inR x1 (sN S1)))] h R from
    Ev.br (i := .ifCond .eq (29)) (P := (b2i (inR x1 (sN S1))) = (0 : Int32)) (t := 34) (f := 8) (r := []) (by decide +kernel) rfl (fun c1 =>
      Ev.go (pc' := 36) (ls' := [.ref 102, .int x1, .int x2]) (st' := [.int (2 : Int32), .ref 102]) [.aload_n 0, .iconst 2] (by decide +kernel) rfl <|
      Ev.cV0 (M' := M_Mo_refuse) (as := [.int (2 : Int32)]) (rest := []) l_Mo_226 M_Mo_refuse_ok M_Mo_refuse_in M_Mo_refuse_se (by decide +kernel) (r5 c1) rfl rfl rfl (Nat.le_of_ble_eq_true rfl) (Nat.le_of_ble_eq_true rfl) (s_Mo_refuse (pr4 c1) <| show Ev G (d + 3) _ _ M_Mo_key_II 39 [.ref 102, .int x1, .int x2] [.int (-1 : Int32)] (hset h 102 (moC (stV v_2 (2 : Int32)) z_3)) R from
        Ev.ret (r := (some (.int (-1 : Int32)))) (Or.inl ⟨_, rfl, by decide +kernel, _, rfl, rfl⟩) (k1 c1)
      )
    ) (fun c1 =>
      Ev.go (pc' := 10) (ls' := [.ref 102, .int x1, .int x2]) (st' := [.int x2, .ref 102]) [.aload_n 0, .iload_n 2] (by decide +kernel) rfl <|
      Ev.cV0 (M' := M_Mo_isPart) (as := [.int x2]) (rest := []) l_Mo_264 M_Mo_isPart_ok M_Mo_isPart_in M_Mo_isPart_se (by decide +kernel) (r8 c1) rfl rfl rfl (Nat.le_of_ble_eq_true rfl) (Nat.le_of_ble_eq_true rfl) (s_Mo_isPart (pr6 c1) (pr7 c1) <| show Ev G (d + 3) _ _ M_Mo_key_II 13 [.ref 102, .int x1, .int x2] [.int (b2i (inR x2 (sP S4)))] h R from
        Ev.br (i := .ifCond .eq (21)) (P := (b2i (inR x2 (sP S4))) = (0 : Int32)) (t := 34) (f := 16) (r := []) (by decide +kernel) rfl (fun c2 =>
          Ev.go (pc' := 36) (ls' := [.ref 102, .int x1, .int x2]) (st' := [.int (2 : Int32), .ref 102]) [.aload_n 0, .iconst 2] (by decide +kernel) rfl <|
          Ev.cV0 (M' := M_Mo_refuse) (as := [.int (2 : Int32)]) (rest := []) l_Mo_226 M_Mo_refuse_ok M_Mo_refuse_in M_Mo_refuse_se (by decide +kernel) (r10 c1 c2) rfl rfl rfl (Nat.le_of_ble_eq_true rfl) (Nat.le_of_ble_eq_true rfl) (s_Mo_refuse (pr9 c1 c2) <| show Ev G (d + 3) _ _ M_Mo_key_II 39 [.ref 102, .int x1, .int x2] [.int (-1 : Int32)] (hset h 102 (moC (stV v_5 (2 : Int32)) z_6)) R from
            Ev.ret (r := (some (.int (-1 : Int32)))) (Or.inl ⟨_, rfl, by decide +kernel, _, rfl, rfl⟩) (k2 c1 c2)
          )
        ) (fun c2 =>
          Ev.go (pc' := 20) (ls' := [.ref 102, .int x1, .int x2]) (st' := [.int x1, .ref 102, .ref 102, .ref 102]) [.aload_n 0, .aload_n 0, .aload_n 0, .iload_n 1] (by decide +kernel) rfl <|
          Ev.cV0 (M' := M_Mo_codeOf) (as := [.int x1]) (rest := [.ref 102, .ref 102]) l_Mo_85 M_Mo_codeOf_ok M_Mo_codeOf_in M_Mo_codeOf_se (by decide +kernel) (r14 c1 c2) rfl rfl rfl (Nat.le_of_ble_eq_true rfl) (Nat.le_of_ble_eq_true rfl) (s_Mo_codeOf (pr11 c1 c2) (pr12 c1 c2) (pr13 c1 c2) <| show Ev G (d + 3) _ _ M_Mo_key_II 23 [.ref 102, .int x1, .int x2] [.long (sCo S7 c_8), .ref 102, .ref 102] h R from
            Ev.go (pc' := 24) (ls' := [.ref 102, .int x1, .int x2]) (st' := [.int x2, .long (sCo S7 c_8), .ref 102, .ref 102]) [.iload_n 2] (by decide +kernel) rfl <|
            Ev.cV0 (M' := M_Mo_keyOf) (as := [.long (sCo S7 c_8), .int x2]) (rest := [.ref 102]) l_Mo_92 M_Mo_keyOf_ok M_Mo_keyOf_in M_Mo_keyOf_se (by decide +kernel) (r14 c1 c2) rfl rfl rfl (Nat.le_of_ble_eq_true rfl) (Nat.le_of_ble_eq_true rfl) (s_Mo_keyOf (pr15 c1 c2) (pr16 c1 c2) (pr17 c1 c2) <| show Ev G (d + 3) _ _ M_Mo_key_II 27 [.ref 102, .int x1, .int x2] [.long (lN (keyN (sCo S7 c_8) (stt S9 p_10) (sBr S9 p_10))), .ref 102] h R from
              Ev.go (pc' := 28) (ls' := [.ref 102, .int x1, .int x2]) (st' := [.int (lN (keyN (sCo S7 c_8) (stt S9 p_10) (sBr S9 p_10))).toInt32, .ref 102]) [.l2i] (by decide +kernel) rfl <|
              Ev.cV0 (M' := M_Mo_gives_I) (as := [.int (lN (keyN (sCo S7 c_8) (stt S9 p_10) (sBr S9 p_10))).toInt32]) (rest := []) l_Mo_245 M_Mo_gives_I_ok M_Mo_gives_I_in M_Mo_gives_I_se (by decide +kernel) (r14 c1 c2) rfl rfl rfl (Nat.le_of_ble_eq_true rfl) (Nat.le_of_ble_eq_true rfl) (s_Mo_gives_I (pr18 c1 c2) <| show Ev G (d + 3) _ _ M_Mo_key_II 31 [.ref 102, .int x1, .int x2] [.int (lN (keyN (sCo S7 c_8) (stt S9 p_10) (sBr S9 p_10))).toInt32] (hset h 102 (moC (stV v_11 0) z_12)) R from
                Ev.go (pc' := 39) (ls' := [.ref 102, .int x1, .int x2]) (st' := [.int (lN (keyN (sCo S7 c_8) (stt S9 p_10) (sBr S9 p_10))).toInt32]) [.goto (8)] (by decide +kernel) rfl <|
                Ev.ret (r := (some (.int (lN (keyN (sCo S7 c_8) (stt S9 p_10) (sBr S9 p_10))).toInt32))) (Or.inl ⟨_, rfl, by decide +kernel, _, rfl, rfl⟩) (k3 c1 c2)
              )
            )
          )
        )
      )
    )
  )
theorem b_Mo_far_0 {G : ev_G} {d k n : Nat} {h : ev_H} {R : Option Value → ev_H → Prop} {x1 : Int32} {x2 : Int64} {S1 : AS} {v_2 : MG} {z_3 : MP} {S4 : AS} {v_5 : MG} {z_6 : MP} {S7 : AS} {c_8 : Nat} {v_9 : MG} {z_10 : MP}
  (pr1 : MS h S1)
  (r2 : ∃ fs, hat h 102 (oC 9 fs))
  (pr3 : (b2i (numB x2 (sB S1))) = (0 : Int32) → hat h 102 (moC v_2 z_3))
  (r4 : (b2i (numB x2 (sB S1))) = (0 : Int32) → ∃ fs, hat h 102 (oC 9 fs))
  (pr5 : ¬ (b2i (numB x2 (sB S1))) = (0 : Int32) → MS h S4)
  (pr6 : ¬ (b2i (numB x2 (sB S1))) = (0 : Int32) → sOk S4)
  (r7 : ¬ (b2i (numB x2 (sB S1))) = (0 : Int32) → ∃ fs, hat h 102 (oC 9 fs))
  (pr8 : ¬ (b2i (numB x2 (sB S1))) = (0 : Int32) → (b2i (inR x1 (sN S4))) = (0 : Int32) → hat h 102 (moC v_5 z_6))
  (r9 : ¬ (b2i (numB x2 (sB S1))) = (0 : Int32) → (b2i (inR x1 (sN S4))) = (0 : Int32) → ∃ fs, hat h 102 (oC 9 fs))
  (pr10 : ¬ (b2i (numB x2 (sB S1))) = (0 : Int32) → ¬ (b2i (inR x1 (sN S4))) = (0 : Int32) → MS h S7)
  (pr11 : ¬ (b2i (numB x2 (sB S1))) = (0 : Int32) → ¬ (b2i (inR x1 (sN S4))) = (0 : Int32) → sOk S7)
  (pr12 : ¬ (b2i (numB x2 (sB S1))) = (0 : Int32) → ¬ (b2i (inR x1 (sN S4))) = (0 : Int32) → x1 = nI c_8 ∧ c_8 < sN S7)
  (r13 : ¬ (b2i (numB x2 (sB S1))) = (0 : Int32) → ¬ (b2i (inR x1 (sN S4))) = (0 : Int32) → ∃ fs, hat h 102 (oC 9 fs))
  (pr14 : ¬ (b2i (numB x2 (sB S1))) = (0 : Int32) → ¬ (b2i (inR x1 (sN S4))) = (0 : Int32) → hat h 102 (moC v_9 z_10))
  (k1 : (b2i (numB x2 (sB S1))) = (0 : Int32) → R (some (.int (-1 : Int32))) (hset h 102 (moC (stV v_2 (1 : Int32)) z_3)))
  (k2 : ¬ (b2i (numB x2 (sB S1))) = (0 : Int32) → (b2i (inR x1 (sN S4))) = (0 : Int32) → R (some (.int (-1 : Int32))) (hset h 102 (moC (stV v_5 (2 : Int32)) z_6)))
  (k3 : ¬ (b2i (numB x2 (sB S1))) = (0 : Int32) → ¬ (b2i (inR x1 (sN S4))) = (0 : Int32) → R (some (.int (nI (pop ((sCo S7 c_8) ^^^ x2))))) (hset h 102 (moC (stV v_9 0) z_10)))
  : Ev G (d + 3) k n M_Mo_far 0 [.ref 102, .int x1, .long x2, ev_unk] [] h R :=
  Ev.go (pc' := 2) (ls' := [.ref 102, .int x1, .long x2, ev_unk]) (st' := [.long x2, .ref 102]) [.aload_n 0, .lload_n 2] (by decide +kernel) rfl <|
  Ev.cV0 (M' := M_Mo_isNumber) (as := [.long x2]) (rest := []) l_Mo_267 M_Mo_isNumber_ok M_Mo_isNumber_in M_Mo_isNumber_se (by decide +kernel) r2 rfl rfl rfl (Nat.le_of_ble_eq_true rfl) (Nat.le_of_ble_eq_true rfl) (s_Mo_isNumber pr1 <| show Ev G (d + 3) _ _ M_Mo_far 5 [.ref 102, .int x1, .long x2, ev_unk] [.int (b2i (numB x2 (sB S1)))] h R from
    Ev.br (i := .ifCond .ne (9)) (P := (b2i (numB x2 (sB S1))) = (0 : Int32)) (t := 8) (f := 14) (r := []) (by decide +kernel) rfl (fun c1 =>
      Ev.go (pc' := 10) (ls' := [.ref 102, .int x1, .long x2, ev_unk]) (st' := [.int (1 : Int32), .ref 102]) [.aload_n 0, .iconst 1] (by decide +kernel) rfl <|
      Ev.cV0 (M' := M_Mo_refuse) (as := [.int (1 : Int32)]) (rest := []) l_Mo_226 M_Mo_refuse_ok M_Mo_refuse_in M_Mo_refuse_se (by decide +kernel) (r4 c1) rfl rfl rfl (Nat.le_of_ble_eq_true rfl) (Nat.le_of_ble_eq_true rfl) (s_Mo_refuse (pr3 c1) <| show Ev G (d + 3) _ _ M_Mo_far 13 [.ref 102, .int x1, .long x2, ev_unk] [.int (-1 : Int32)] (hset h 102 (moC (stV v_2 (1 : Int32)) z_3)) R from
        Ev.ret (r := (some (.int (-1 : Int32)))) (Or.inl ⟨_, rfl, by decide +kernel, _, rfl, rfl⟩) (k1 c1)
      )
    ) (fun c1 =>
      Ev.go (pc' := 16) (ls' := [.ref 102, .int x1, .long x2, ev_unk]) (st' := [.int x1, .ref 102]) [.aload_n 0, .iload_n 1] (by decide +kernel) rfl <|
      Ev.cV0 (M' := M_Mo_isCode) (as := [.int x1]) (rest := []) l_Mo_258 M_Mo_isCode_ok M_Mo_isCode_in M_Mo_isCode_se (by decide +kernel) (r7 c1) rfl rfl rfl (Nat.le_of_ble_eq_true rfl) (Nat.le_of_ble_eq_true rfl) (s_Mo_isCode (pr5 c1) (pr6 c1) <| show Ev G (d + 3) _ _ M_Mo_far 19 [.ref 102, .int x1, .long x2, ev_unk] [.int (b2i (inR x1 (sN S4)))] h R from
        Ev.br (i := .ifCond .eq (20)) (P := (b2i (inR x1 (sN S4))) = (0 : Int32)) (t := 39) (f := 22) (r := []) (by decide +kernel) rfl (fun c2 =>
          Ev.go (pc' := 41) (ls' := [.ref 102, .int x1, .long x2, ev_unk]) (st' := [.int (2 : Int32), .ref 102]) [.aload_n 0, .iconst 2] (by decide +kernel) rfl <|
          Ev.cV0 (M' := M_Mo_refuse) (as := [.int (2 : Int32)]) (rest := []) l_Mo_226 M_Mo_refuse_ok M_Mo_refuse_in M_Mo_refuse_se (by decide +kernel) (r9 c1 c2) rfl rfl rfl (Nat.le_of_ble_eq_true rfl) (Nat.le_of_ble_eq_true rfl) (s_Mo_refuse (pr8 c1 c2) <| show Ev G (d + 3) _ _ M_Mo_far 44 [.ref 102, .int x1, .long x2, ev_unk] [.int (-1 : Int32)] (hset h 102 (moC (stV v_5 (2 : Int32)) z_6)) R from
            Ev.ret (r := (some (.int (-1 : Int32)))) (Or.inl ⟨_, rfl, by decide +kernel, _, rfl, rfl⟩) (k2 c1 c2)
          )
        ) (fun c2 =>
          Ev.go (pc' := 25) (ls' := [.ref 102, .int x1, .long x2, ev_unk]) (st' := [.int x1, .ref 102, .ref 102]) [.aload_n 0, .aload_n 0, .iload_n 1] (by decide +kernel) rfl <|
          Ev.cV0 (M' := M_Mo_codeOf) (as := [.int x1]) (rest := [.ref 102]) l_Mo_85 M_Mo_codeOf_ok M_Mo_codeOf_in M_Mo_codeOf_se (by decide +kernel) (r13 c1 c2) rfl rfl rfl (Nat.le_of_ble_eq_true rfl) (Nat.le_of_ble_eq_true rfl) (s_Mo_codeOf (pr10 c1 c2) (pr11 c1 c2) (pr12 c1 c2) <| show Ev G (d + 3) _ _ M_Mo_far 28 [.ref 102, .int x1, .long x2, ev_unk] [.long (sCo S7 c_8), .ref 102] h R from
            Ev.go (pc' := 30) (ls' := [.ref 102, .int x1, .long x2, ev_unk]) (st' := [.long ((sCo S7 c_8) ^^^ x2), .ref 102]) [.lload_n 2, .lxor] (by decide +kernel) rfl <|
            Ev.cS0 (M' := M_Mo_ones_J) (as := [.long ((sCo S7 c_8) ^^^ x2)]) (rest := [.ref 102]) l_Mo_88 M_Mo_ones_J_ok M_Mo_ones_J_st (by decide +kernel) rfl rfl (Nat.le_of_ble_eq_true rfl) (Nat.le_of_ble_eq_true rfl) (s_Mo_ones_J <| show Ev G (d + 3) _ _ M_Mo_far 33 [.ref 102, .int x1, .long x2, ev_unk] [.int (nI (pop ((sCo S7 c_8) ^^^ x2))), .ref 102] h R from
              Ev.cV0 (M' := M_Mo_gives_I) (as := [.int (nI (pop ((sCo S7 c_8) ^^^ x2)))]) (rest := []) l_Mo_245 M_Mo_gives_I_ok M_Mo_gives_I_in M_Mo_gives_I_se (by decide +kernel) (r13 c1 c2) rfl rfl rfl (Nat.le_of_ble_eq_true rfl) (Nat.le_of_ble_eq_true rfl) (s_Mo_gives_I (pr14 c1 c2) <| show Ev G (d + 3) _ _ M_Mo_far 36 [.ref 102, .int x1, .long x2, ev_unk] [.int (nI (pop ((sCo S7 c_8) ^^^ x2)))] (hset h 102 (moC (stV v_9 0) z_10)) R from
                Ev.go (pc' := 44) (ls' := [.ref 102, .int x1, .long x2, ev_unk]) (st' := [.int (nI (pop ((sCo S7 c_8) ^^^ x2)))]) [.goto (8)] (by decide +kernel) rfl <|
                Ev.ret (r := (some (.int (nI (pop ((sCo S7 c_8) ^^^ x2)))))) (Or.inl ⟨_, rfl, by decide +kernel, _, rfl, rfl⟩) (k3 c1 c2)
              )
            )
          )
        )
      )
    )
  )
theorem b_Mo_measure_0 {G : ev_G} {d k n : Nat} {h : ev_H} {R : Option Value → ev_H → Prop} {x1 : Int32} {x2 : Int32} {x3 : Int32} {v_1 : MG} {z_2 : MP} {S3 : AS} {v_4 : MG} {z_5 : MP} {S6 : AS} {v_7 : MG} {z_8 : MP} {S9 : AS} {c_10 : Nat} {S11 : AS} {c_12 : Nat} {v_13 : MG} {z_14 : MP} {v_15 : MG} {z_16 : MP} {v_17 : MG} {z_18 : MP} {v_19 : MG} {z_20 : MP}
  (pr1 : (b2i (frB x3.toInt64 (0 : Int64) (3 : Int64))) = (0 : Int32) → hat h 102 (moC v_1 z_2))
  (r2 : (b2i (frB x3.toInt64 (0 : Int64) (3 : Int64))) = (0 : Int32) → ∃ fs, hat h 102 (oC 9 fs))
  (pr3 : ¬ (b2i (frB x3.toInt64 (0 : Int64) (3 : Int64))) = (0 : Int32) → MS h S3)
  (pr4 : ¬ (b2i (frB x3.toInt64 (0 : Int64) (3 : Int64))) = (0 : Int32) → sOk S3)
  (r5 : ¬ (b2i (frB x3.toInt64 (0 : Int64) (3 : Int64))) = (0 : Int32) → ∃ fs, hat h 102 (oC 9 fs))
  (pr6 : ¬ (b2i (frB x3.toInt64 (0 : Int64) (3 : Int64))) = (0 : Int32) → (b2i (inR x1 (sN S3))) = (0 : Int32) → hat h 102 (moC v_4 z_5))
  (r7 : ¬ (b2i (frB x3.toInt64 (0 : Int64) (3 : Int64))) = (0 : Int32) → (b2i (inR x1 (sN S3))) = (0 : Int32) → ∃ fs, hat h 102 (oC 9 fs))
  (pr8 : ¬ (b2i (frB x3.toInt64 (0 : Int64) (3 : Int64))) = (0 : Int32) → ¬ (b2i (inR x1 (sN S3))) = (0 : Int32) → MS h S6)
  (pr9 : ¬ (b2i (frB x3.toInt64 (0 : Int64) (3 : Int64))) = (0 : Int32) → ¬ (b2i (inR x1 (sN S3))) = (0 : Int32) → sOk S6)
  (r10 : ¬ (b2i (frB x3.toInt64 (0 : Int64) (3 : Int64))) = (0 : Int32) → ¬ (b2i (inR x1 (sN S3))) = (0 : Int32) → ∃ fs, hat h 102 (oC 9 fs))
  (pr11 : ¬ (b2i (frB x3.toInt64 (0 : Int64) (3 : Int64))) = (0 : Int32) → ¬ (b2i (inR x1 (sN S3))) = (0 : Int32) → (b2i (inR x2 (sN S6))) = (0 : Int32) → hat h 102 (moC v_7 z_8))
  (r12 : ¬ (b2i (frB x3.toInt64 (0 : Int64) (3 : Int64))) = (0 : Int32) → ¬ (b2i (inR x1 (sN S3))) = (0 : Int32) → (b2i (inR x2 (sN S6))) = (0 : Int32) → ∃ fs, hat h 102 (oC 9 fs))
  (pr13 : ¬ (b2i (frB x3.toInt64 (0 : Int64) (3 : Int64))) = (0 : Int32) → ¬ (b2i (inR x1 (sN S3))) = (0 : Int32) → ¬ (b2i (inR x2 (sN S6))) = (0 : Int32) → MS h S9)
  (pr14 : ¬ (b2i (frB x3.toInt64 (0 : Int64) (3 : Int64))) = (0 : Int32) → ¬ (b2i (inR x1 (sN S3))) = (0 : Int32) → ¬ (b2i (inR x2 (sN S6))) = (0 : Int32) → sOk S9)
  (pr15 : ¬ (b2i (frB x3.toInt64 (0 : Int64) (3 : Int64))) = (0 : Int32) → ¬ (b2i (inR x1 (sN S3))) = (0 : Int32) → ¬ (b2i (inR x2 (sN S6))) = (0 : Int32) → x1 = nI c_10 ∧ c_10 < sN S9)
  (r16 : ¬ (b2i (frB x3.toInt64 (0 : Int64) (3 : Int64))) = (0 : Int32) → ¬ (b2i (inR x1 (sN S3))) = (0 : Int32) → ¬ (b2i (inR x2 (sN S6))) = (0 : Int32) → ∃ fs, hat h 102 (oC 9 fs))
  (pr17 : ¬ (b2i (frB x3.toInt64 (0 : Int64) (3 : Int64))) = (0 : Int32) → ¬ (b2i (inR x1 (sN S3))) = (0 : Int32) → ¬ (b2i (inR x2 (sN S6))) = (0 : Int32) → MS h S11)
  (pr18 : ¬ (b2i (frB x3.toInt64 (0 : Int64) (3 : Int64))) = (0 : Int32) → ¬ (b2i (inR x1 (sN S3))) = (0 : Int32) → ¬ (b2i (inR x2 (sN S6))) = (0 : Int32) → sOk S11)
  (pr19 : ¬ (b2i (frB x3.toInt64 (0 : Int64) (3 : Int64))) = (0 : Int32) → ¬ (b2i (inR x1 (sN S3))) = (0 : Int32) → ¬ (b2i (inR x2 (sN S6))) = (0 : Int32) → x2 = nI c_12 ∧ c_12 < sN S11)
  (pr20 : ¬ (b2i (frB x3.toInt64 (0 : Int64) (3 : Int64))) = (0 : Int32) → ¬ (b2i (inR x1 (sN S3))) = (0 : Int32) → ¬ (b2i (inR x2 (sN S6))) = (0 : Int32) → x3 = (0 : Int32) → hat h 102 (moC v_13 z_14))
  (r21 : ¬ (b2i (frB x3.toInt64 (0 : Int64) (3 : Int64))) = (0 : Int32) → ¬ (b2i (inR x1 (sN S3))) = (0 : Int32) → ¬ (b2i (inR x2 (sN S6))) = (0 : Int32) → x3 = (0 : Int32) → ∃ fs, hat h 102 (oC 9 fs))
  (pr22 : ¬ (b2i (frB x3.toInt64 (0 : Int64) (3 : Int64))) = (0 : Int32) → ¬ (b2i (inR x1 (sN S3))) = (0 : Int32) → ¬ (b2i (inR x2 (sN S6))) = (0 : Int32) → ¬ x3 = (0 : Int32) → x3 = (2 : Int32) → hat h 102 (moC v_15 z_16))
  (r23 : ¬ (b2i (frB x3.toInt64 (0 : Int64) (3 : Int64))) = (0 : Int32) → ¬ (b2i (inR x1 (sN S3))) = (0 : Int32) → ¬ (b2i (inR x2 (sN S6))) = (0 : Int32) → ¬ x3 = (0 : Int32) → x3 = (2 : Int32) → ∃ fs, hat h 102 (oC 9 fs))
  (pr24 : ¬ (b2i (frB x3.toInt64 (0 : Int64) (3 : Int64))) = (0 : Int32) → ¬ (b2i (inR x1 (sN S3))) = (0 : Int32) → ¬ (b2i (inR x2 (sN S6))) = (0 : Int32) → ¬ x3 = (0 : Int32) → ¬ x3 = (2 : Int32) → x3 = (3 : Int32) → hat h 102 (moC v_17 z_18))
  (r25 : ¬ (b2i (frB x3.toInt64 (0 : Int64) (3 : Int64))) = (0 : Int32) → ¬ (b2i (inR x1 (sN S3))) = (0 : Int32) → ¬ (b2i (inR x2 (sN S6))) = (0 : Int32) → ¬ x3 = (0 : Int32) → ¬ x3 = (2 : Int32) → x3 = (3 : Int32) → ∃ fs, hat h 102 (oC 9 fs))
  (pr26 : ¬ (b2i (frB x3.toInt64 (0 : Int64) (3 : Int64))) = (0 : Int32) → ¬ (b2i (inR x1 (sN S3))) = (0 : Int32) → ¬ (b2i (inR x2 (sN S6))) = (0 : Int32) → ¬ x3 = (0 : Int32) → ¬ x3 = (2 : Int32) → ¬ x3 = (3 : Int32) → hat h 102 (moC v_19 z_20))
  (r27 : ¬ (b2i (frB x3.toInt64 (0 : Int64) (3 : Int64))) = (0 : Int32) → ¬ (b2i (inR x1 (sN S3))) = (0 : Int32) → ¬ (b2i (inR x2 (sN S6))) = (0 : Int32) → ¬ x3 = (0 : Int32) → ¬ x3 = (2 : Int32) → ¬ x3 = (3 : Int32) → ∃ fs, hat h 102 (oC 9 fs))
  (k1 : (b2i (frB x3.toInt64 (0 : Int64) (3 : Int64))) = (0 : Int32) → R (some (.int (-1 : Int32))) (hset h 102 (moC (stV v_1 (1 : Int32)) z_2)))
  (k2 : ¬ (b2i (frB x3.toInt64 (0 : Int64) (3 : Int64))) = (0 : Int32) → (b2i (inR x1 (sN S3))) = (0 : Int32) → R (some (.int (-1 : Int32))) (hset h 102 (moC (stV v_4 (2 : Int32)) z_5)))
  (k3 : ¬ (b2i (frB x3.toInt64 (0 : Int64) (3 : Int64))) = (0 : Int32) → ¬ (b2i (inR x1 (sN S3))) = (0 : Int32) → (b2i (inR x2 (sN S6))) = (0 : Int32) → R (some (.int (-1 : Int32))) (hset h 102 (moC (stV v_7 (2 : Int32)) z_8)))
  (k4 : ¬ (b2i (frB x3.toInt64 (0 : Int64) (3 : Int64))) = (0 : Int32) → ¬ (b2i (inR x1 (sN S3))) = (0 : Int32) → ¬ (b2i (inR x2 (sN S6))) = (0 : Int32) → x3 = (0 : Int32) → R (some (.int (nI (pop ((sCo S9 c_10) ^^^ (sCo S11 c_12)))))) (hset h 102 (moC (stV v_13 0) z_14)))
  (k5 : ¬ (b2i (frB x3.toInt64 (0 : Int64) (3 : Int64))) = (0 : Int32) → ¬ (b2i (inR x1 (sN S3))) = (0 : Int32) → ¬ (b2i (inR x2 (sN S6))) = (0 : Int32) → ¬ x3 = (0 : Int32) → x3 = (2 : Int32) → R (some (.int (nI (rchN ((sCo S9 c_10) ^^^ (sCo S11 c_12)))))) (hset h 102 (moC (stV v_15 0) z_16)))
  (k6 : ¬ (b2i (frB x3.toInt64 (0 : Int64) (3 : Int64))) = (0 : Int32) → ¬ (b2i (inR x1 (sN S3))) = (0 : Int32) → ¬ (b2i (inR x2 (sN S6))) = (0 : Int32) → ¬ x3 = (0 : Int32) → ¬ x3 = (2 : Int32) → x3 = (3 : Int32) → R (some (.int (nI (if (1 : Int32) = 0 then cnt (rsP ((sCo S9 c_10) ^^^ (sCo S11 c_12))) 48 else mxN (lt ((sCo S9 c_10) ^^^ (sCo S11 c_12))) 48)))) (hset h 102 (moC (stV v_17 0) z_18)))
  (k7 : ¬ (b2i (frB x3.toInt64 (0 : Int64) (3 : Int64))) = (0 : Int32) → ¬ (b2i (inR x1 (sN S3))) = (0 : Int32) → ¬ (b2i (inR x2 (sN S6))) = (0 : Int32) → ¬ x3 = (0 : Int32) → ¬ x3 = (2 : Int32) → ¬ x3 = (3 : Int32) → R (some (.int (nI (if (0 : Int32) = 0 then cnt (rsP ((sCo S9 c_10) ^^^ (sCo S11 c_12))) 48 else mxN (lt ((sCo S9 c_10) ^^^ (sCo S11 c_12))) 48)))) (hset h 102 (moC (stV v_19 0) z_20)))
  : Ev G (d + 3) k n M_Mo_measure 0 [.ref 102, .int x1, .int x2, .int x3, ev_unk, ev_unk] [] h R :=
  Ev.go (pc' := 3) (ls' := [.ref 102, .int x1, .int x2, .int x3, ev_unk, ev_unk]) (st' := [.long (0 : Int64), .long x3.toInt64]) [.iload_n 3, .i2l, .lconst 0] (by decide +kernel) rfl <|
  Ev.ldc2 k_Mo_281 (by decide +kernel) <|
  Ev.cS0 (M' := M_Mo_isFrom) (as := [.long x3.toInt64, .long (0 : Int64), .long (3 : Int64)]) (rest := []) l_Mo_172 M_Mo_isFrom_ok M_Mo_isFrom_st (by decide +kernel) rfl rfl (Nat.le_of_ble_eq_true rfl) (Nat.le_of_ble_eq_true rfl) (s_Mo_isFrom <| show Ev G (d + 3) _ _ M_Mo_measure 9 [.ref 102, .int x1, .int x2, .int x3, ev_unk, ev_unk] [.int (b2i (frB x3.toInt64 (0 : Int64) (3 : Int64)))] h R from
    Ev.br (i := .ifCond .ne (9)) (P := (b2i (frB x3.toInt64 (0 : Int64) (3 : Int64))) = (0 : Int32)) (t := 12) (f := 18) (r := []) (by decide +kernel) rfl (fun c1 =>
      Ev.go (pc' := 14) (ls' := [.ref 102, .int x1, .int x2, .int x3, ev_unk, ev_unk]) (st' := [.int (1 : Int32), .ref 102]) [.aload_n 0, .iconst 1] (by decide +kernel) rfl <|
      Ev.cV0 (M' := M_Mo_refuse) (as := [.int (1 : Int32)]) (rest := []) l_Mo_226 M_Mo_refuse_ok M_Mo_refuse_in M_Mo_refuse_se (by decide +kernel) (r2 c1) rfl rfl rfl (Nat.le_of_ble_eq_true rfl) (Nat.le_of_ble_eq_true rfl) (s_Mo_refuse (pr1 c1) <| show Ev G (d + 3) _ _ M_Mo_measure 17 [.ref 102, .int x1, .int x2, .int x3, ev_unk, ev_unk] [.int (-1 : Int32)] (hset h 102 (moC (stV v_1 (1 : Int32)) z_2)) R from
        Ev.ret (r := (some (.int (-1 : Int32)))) (Or.inl ⟨_, rfl, by decide +kernel, _, rfl, rfl⟩) (k1 c1)
      )
    ) (fun c1 =>
      Ev.go (pc' := 20) (ls' := [.ref 102, .int x1, .int x2, .int x3, ev_unk, ev_unk]) (st' := [.int x1, .ref 102]) [.aload_n 0, .iload_n 1] (by decide +kernel) rfl <|
      Ev.cV0 (M' := M_Mo_isCode) (as := [.int x1]) (rest := []) l_Mo_258 M_Mo_isCode_ok M_Mo_isCode_in M_Mo_isCode_se (by decide +kernel) (r5 c1) rfl rfl rfl (Nat.le_of_ble_eq_true rfl) (Nat.le_of_ble_eq_true rfl) (s_Mo_isCode (pr3 c1) (pr4 c1) <| show Ev G (d + 3) _ _ M_Mo_measure 23 [.ref 102, .int x1, .int x2, .int x3, ev_unk, ev_unk] [.int (b2i (inR x1 (sN S3)))] h R from
        Ev.br (i := .ifCond .eq (11)) (P := (b2i (inR x1 (sN S3))) = (0 : Int32)) (t := 34) (f := 26) (r := []) (by decide +kernel) rfl (fun c2 =>
          Ev.go (pc' := 36) (ls' := [.ref 102, .int x1, .int x2, .int x3, ev_unk, ev_unk]) (st' := [.int (2 : Int32), .ref 102]) [.aload_n 0, .iconst 2] (by decide +kernel) rfl <|
          Ev.cV0 (M' := M_Mo_refuse) (as := [.int (2 : Int32)]) (rest := []) l_Mo_226 M_Mo_refuse_ok M_Mo_refuse_in M_Mo_refuse_se (by decide +kernel) (r7 c1 c2) rfl rfl rfl (Nat.le_of_ble_eq_true rfl) (Nat.le_of_ble_eq_true rfl) (s_Mo_refuse (pr6 c1 c2) <| show Ev G (d + 3) _ _ M_Mo_measure 39 [.ref 102, .int x1, .int x2, .int x3, ev_unk, ev_unk] [.int (-1 : Int32)] (hset h 102 (moC (stV v_4 (2 : Int32)) z_5)) R from
            Ev.ret (r := (some (.int (-1 : Int32)))) (Or.inl ⟨_, rfl, by decide +kernel, _, rfl, rfl⟩) (k2 c1 c2)
          )
        ) (fun c2 =>
          Ev.go (pc' := 28) (ls' := [.ref 102, .int x1, .int x2, .int x3, ev_unk, ev_unk]) (st' := [.int x2, .ref 102]) [.aload_n 0, .iload_n 2] (by decide +kernel) rfl <|
          Ev.cV0 (M' := M_Mo_isCode) (as := [.int x2]) (rest := []) l_Mo_258 M_Mo_isCode_ok M_Mo_isCode_in M_Mo_isCode_se (by decide +kernel) (r10 c1 c2) rfl rfl rfl (Nat.le_of_ble_eq_true rfl) (Nat.le_of_ble_eq_true rfl) (s_Mo_isCode (pr8 c1 c2) (pr9 c1 c2) <| show Ev G (d + 3) _ _ M_Mo_measure 31 [.ref 102, .int x1, .int x2, .int x3, ev_unk, ev_unk] [.int (b2i (inR x2 (sN S6)))] h R from
            Ev.br (i := .ifCond .ne (9)) (P := (b2i (inR x2 (sN S6))) = (0 : Int32)) (t := 34) (f := 40) (r := []) (by decide +kernel) rfl (fun c3 =>
              Ev.go (pc' := 36) (ls' := [.ref 102, .int x1, .int x2, .int x3, ev_unk, ev_unk]) (st' := [.int (2 : Int32), .ref 102]) [.aload_n 0, .iconst 2] (by decide +kernel) rfl <|
              Ev.cV0 (M' := M_Mo_refuse) (as := [.int (2 : Int32)]) (rest := []) l_Mo_226 M_Mo_refuse_ok M_Mo_refuse_in M_Mo_refuse_se (by decide +kernel) (r12 c1 c2 c3) rfl rfl rfl (Nat.le_of_ble_eq_true rfl) (Nat.le_of_ble_eq_true rfl) (s_Mo_refuse (pr11 c1 c2 c3) <| show Ev G (d + 3) _ _ M_Mo_measure 39 [.ref 102, .int x1, .int x2, .int x3, ev_unk, ev_unk] [.int (-1 : Int32)] (hset h 102 (moC (stV v_7 (2 : Int32)) z_8)) R from
                Ev.ret (r := (some (.int (-1 : Int32)))) (Or.inl ⟨_, rfl, by decide +kernel, _, rfl, rfl⟩) (k3 c1 c2 c3)
              )
            ) (fun c3 =>
              Ev.go (pc' := 42) (ls' := [.ref 102, .int x1, .int x2, .int x3, ev_unk, ev_unk]) (st' := [.int x1, .ref 102]) [.aload_n 0, .iload_n 1] (by decide +kernel) rfl <|
              Ev.cV0 (M' := M_Mo_codeOf) (as := [.int x1]) (rest := []) l_Mo_85 M_Mo_codeOf_ok M_Mo_codeOf_in M_Mo_codeOf_se (by decide +kernel) (r16 c1 c2 c3) rfl rfl rfl (Nat.le_of_ble_eq_true rfl) (Nat.le_of_ble_eq_true rfl) (s_Mo_codeOf (pr13 c1 c2 c3) (pr14 c1 c2 c3) (pr15 c1 c2 c3) <| show Ev G (d + 3) _ _ M_Mo_measure 45 [.ref 102, .int x1, .int x2, .int x3, ev_unk, ev_unk] [.long (sCo S9 c_10)] h R from
                Ev.go (pc' := 47) (ls' := [.ref 102, .int x1, .int x2, .int x3, ev_unk, ev_unk]) (st' := [.int x2, .ref 102, .long (sCo S9 c_10)]) [.aload_n 0, .iload_n 2] (by decide +kernel) rfl <|
                Ev.cV0 (M' := M_Mo_codeOf) (as := [.int x2]) (rest := [.long (sCo S9 c_10)]) l_Mo_85 M_Mo_codeOf_ok M_Mo_codeOf_in M_Mo_codeOf_se (by decide +kernel) (r16 c1 c2 c3) rfl rfl rfl (Nat.le_of_ble_eq_true rfl) (Nat.le_of_ble_eq_true rfl) (s_Mo_codeOf (pr17 c1 c2 c3) (pr18 c1 c2 c3) (pr19 c1 c2 c3) <| show Ev G (d + 3) _ _ M_Mo_measure 50 [.ref 102, .int x1, .int x2, .int x3, ev_unk, ev_unk] [.long (sCo S11 c_12), .long (sCo S9 c_10)] h R from
                  Ev.go (pc' := 55) (ls' := [.ref 102, .int x1, .int x2, .int x3, .long ((sCo S9 c_10) ^^^ (sCo S11 c_12)), ev_unk]) (st' := [.int x3, .ref 102]) [.lxor, .lstore 4, .aload_n 0, .iload_n 3] (by decide +kernel) rfl <|
                  Ev.br (i := .ifCond .ne (11)) (P := x3 = (0 : Int32)) (t := 58) (f := 66) (r := [.ref 102]) (by decide +kernel) rfl (fun c4 =>
                    Ev.go (pc' := 60) (ls' := [.ref 102, .int x1, .int x2, .int x3, .long ((sCo S9 c_10) ^^^ (sCo S11 c_12)), ev_unk]) (st' := [.long ((sCo S9 c_10) ^^^ (sCo S11 c_12)), .ref 102]) [.lload 4] (by decide +kernel) rfl <|
                    Ev.cS0 (M' := M_Mo_ones_J) (as := [.long ((sCo S9 c_10) ^^^ (sCo S11 c_12))]) (rest := [.ref 102]) l_Mo_88 M_Mo_ones_J_ok M_Mo_ones_J_st (by decide +kernel) rfl rfl (Nat.le_of_ble_eq_true rfl) (Nat.le_of_ble_eq_true rfl) (s_Mo_ones_J <| show Ev G (d + 3) _ _ M_Mo_measure 63 [.ref 102, .int x1, .int x2, .int x3, .long ((sCo S9 c_10) ^^^ (sCo S11 c_12)), ev_unk] [.int (nI (pop ((sCo S9 c_10) ^^^ (sCo S11 c_12)))), .ref 102] h R from
                      Ev.go (pc' := 94) (ls' := [.ref 102, .int x1, .int x2, .int x3, .long ((sCo S9 c_10) ^^^ (sCo S11 c_12)), ev_unk]) (st' := [.int (nI (pop ((sCo S9 c_10) ^^^ (sCo S11 c_12)))), .ref 102]) [.goto (31)] (by decide +kernel) rfl <|
                      Ev.cV0 (M' := M_Mo_gives_I) (as := [.int (nI (pop ((sCo S9 c_10) ^^^ (sCo S11 c_12))))]) (rest := []) l_Mo_245 M_Mo_gives_I_ok M_Mo_gives_I_in M_Mo_gives_I_se (by decide +kernel) (r21 c1 c2 c3 c4) rfl rfl rfl (Nat.le_of_ble_eq_true rfl) (Nat.le_of_ble_eq_true rfl) (s_Mo_gives_I (pr20 c1 c2 c3 c4) <| show Ev G (d + 3) _ _ M_Mo_measure 97 [.ref 102, .int x1, .int x2, .int x3, .long ((sCo S9 c_10) ^^^ (sCo S11 c_12)), ev_unk] [.int (nI (pop ((sCo S9 c_10) ^^^ (sCo S11 c_12))))] (hset h 102 (moC (stV v_13 0) z_14)) R from
                        Ev.ret (r := (some (.int (nI (pop ((sCo S9 c_10) ^^^ (sCo S11 c_12))))))) (Or.inl ⟨_, rfl, by decide +kernel, _, rfl, rfl⟩) (k4 c1 c2 c3 c4)
                      )
                    )
                  ) (fun c4 =>
                    Ev.go (pc' := 68) (ls' := [.ref 102, .int x1, .int x2, .int x3, .long ((sCo S9 c_10) ^^^ (sCo S11 c_12)), ev_unk]) (st' := [.int (2 : Int32), .int x3, .ref 102]) [.iload_n 3, .iconst 2] (by decide +kernel) rfl <|
                    Ev.br (i := .if_icmp .ne (11)) (P := x3 = (2 : Int32)) (t := 71) (f := 79) (r := [.ref 102]) (by decide +kernel) rfl (fun c5 =>
                      Ev.go (pc' := 73) (ls' := [.ref 102, .int x1, .int x2, .int x3, .long ((sCo S9 c_10) ^^^ (sCo S11 c_12)), ev_unk]) (st' := [.long ((sCo S9 c_10) ^^^ (sCo S11 c_12)), .ref 102]) [.lload 4] (by decide +kernel) rfl <|
                      Ev.cS0 (M' := M_Mo_span) (as := [.long ((sCo S9 c_10) ^^^ (sCo S11 c_12))]) (rest := [.ref 102]) l_Mo_283 M_Mo_span_ok M_Mo_span_st (by decide +kernel) rfl rfl (Nat.le_of_ble_eq_true rfl) (Nat.le_of_ble_eq_true rfl) (s_Mo_span <| show Ev G (d + 3) _ _ M_Mo_measure 76 [.ref 102, .int x1, .int x2, .int x3, .long ((sCo S9 c_10) ^^^ (sCo S11 c_12)), ev_unk] [.int (nI (rchN ((sCo S9 c_10) ^^^ (sCo S11 c_12)))), .ref 102] h R from
                        Ev.go (pc' := 94) (ls' := [.ref 102, .int x1, .int x2, .int x3, .long ((sCo S9 c_10) ^^^ (sCo S11 c_12)), ev_unk]) (st' := [.int (nI (rchN ((sCo S9 c_10) ^^^ (sCo S11 c_12)))), .ref 102]) [.goto (18)] (by decide +kernel) rfl <|
                        Ev.cV0 (M' := M_Mo_gives_I) (as := [.int (nI (rchN ((sCo S9 c_10) ^^^ (sCo S11 c_12))))]) (rest := []) l_Mo_245 M_Mo_gives_I_ok M_Mo_gives_I_in M_Mo_gives_I_se (by decide +kernel) (r23 c1 c2 c3 c4 c5) rfl rfl rfl (Nat.le_of_ble_eq_true rfl) (Nat.le_of_ble_eq_true rfl) (s_Mo_gives_I (pr22 c1 c2 c3 c4 c5) <| show Ev G (d + 3) _ _ M_Mo_measure 97 [.ref 102, .int x1, .int x2, .int x3, .long ((sCo S9 c_10) ^^^ (sCo S11 c_12)), ev_unk] [.int (nI (rchN ((sCo S9 c_10) ^^^ (sCo S11 c_12))))] (hset h 102 (moC (stV v_15 0) z_16)) R from
                          Ev.ret (r := (some (.int (nI (rchN ((sCo S9 c_10) ^^^ (sCo S11 c_12))))))) (Or.inl ⟨_, rfl, by decide +kernel, _, rfl, rfl⟩) (k5 c1 c2 c3 c4 c5)
                        )
                      )
                    ) (fun c5 =>
                      Ev.go (pc' := 83) (ls' := [.ref 102, .int x1, .int x2, .int x3, .long ((sCo S9 c_10) ^^^ (sCo S11 c_12)), ev_unk]) (st' := [.int (3 : Int32), .int x3, .long ((sCo S9 c_10) ^^^ (sCo S11 c_12)), .ref 102]) [.lload 4, .iload_n 3, .iconst 3] (by decide +kernel) rfl <|
                      Ev.br (i := .if_icmp .ne (7)) (P := x3 = (3 : Int32)) (t := 86) (f := 90) (r := [.long ((sCo S9 c_10) ^^^ (sCo S11 c_12)), .ref 102]) (by decide +kernel) rfl (fun c6 =>
                        Ev.go (pc' := 91) (ls' := [.ref 102, .int x1, .int x2, .int x3, .long ((sCo S9 c_10) ^^^ (sCo S11 c_12)), ev_unk]) (st' := [.int (1 : Int32), .long ((sCo S9 c_10) ^^^ (sCo S11 c_12)), .ref 102]) [.iconst 1, .goto (4)] (by decide +kernel) rfl <|
                        Ev.cS0 (M' := M_Mo_runs) (as := [.long ((sCo S9 c_10) ^^^ (sCo S11 c_12)), .int (1 : Int32)]) (rest := [.ref 102]) l_Mo_286 M_Mo_runs_ok M_Mo_runs_st (by decide +kernel) rfl rfl (Nat.le_of_ble_eq_true rfl) (Nat.le_of_ble_eq_true rfl) (s_Mo_runs <| show Ev G (d + 3) _ _ M_Mo_measure 94 [.ref 102, .int x1, .int x2, .int x3, .long ((sCo S9 c_10) ^^^ (sCo S11 c_12)), ev_unk] [.int (nI (if (1 : Int32) = 0 then cnt (rsP ((sCo S9 c_10) ^^^ (sCo S11 c_12))) 48 else mxN (lt ((sCo S9 c_10) ^^^ (sCo S11 c_12))) 48)), .ref 102] h R from
                          Ev.cV0 (M' := M_Mo_gives_I) (as := [.int (nI (if (1 : Int32) = 0 then cnt (rsP ((sCo S9 c_10) ^^^ (sCo S11 c_12))) 48 else mxN (lt ((sCo S9 c_10) ^^^ (sCo S11 c_12))) 48))]) (rest := []) l_Mo_245 M_Mo_gives_I_ok M_Mo_gives_I_in M_Mo_gives_I_se (by decide +kernel) (r25 c1 c2 c3 c4 c5 c6) rfl rfl rfl (Nat.le_of_ble_eq_true rfl) (Nat.le_of_ble_eq_true rfl) (s_Mo_gives_I (pr24 c1 c2 c3 c4 c5 c6) <| show Ev G (d + 3) _ _ M_Mo_measure 97 [.ref 102, .int x1, .int x2, .int x3, .long ((sCo S9 c_10) ^^^ (sCo S11 c_12)), ev_unk] [.int (nI (if (1 : Int32) = 0 then cnt (rsP ((sCo S9 c_10) ^^^ (sCo S11 c_12))) 48 else mxN (lt ((sCo S9 c_10) ^^^ (sCo S11 c_12))) 48))] (hset h 102 (moC (stV v_17 0) z_18)) R from
                            Ev.ret (r := (some (.int (nI (if (1 : Int32) = 0 then cnt (rsP ((sCo S9 c_10) ^^^ (sCo S11 c_12))) 48 else mxN (lt ((sCo S9 c_10) ^^^ (sCo S11 c_12))) 48))))) (Or.inl ⟨_, rfl, by decide +kernel, _, rfl, rfl⟩) (k6 c1 c2 c3 c4 c5 c6)
                          )
                        )
                      ) (fun c6 =>
                        Ev.go (pc' := 91) (ls' := [.ref 102, .int x1, .int x2, .int x3, .long ((sCo S9 c_10) ^^^ (sCo S11 c_12)), ev_unk]) (st' := [.int (0 : Int32), .long ((sCo S9 c_10) ^^^ (sCo S11 c_12)), .ref 102]) [.iconst 0] (by decide +kernel) rfl <|
                        Ev.cS0 (M' := M_Mo_runs) (as := [.long ((sCo S9 c_10) ^^^ (sCo S11 c_12)), .int (0 : Int32)]) (rest := [.ref 102]) l_Mo_286 M_Mo_runs_ok M_Mo_runs_st (by decide +kernel) rfl rfl (Nat.le_of_ble_eq_true rfl) (Nat.le_of_ble_eq_true rfl) (s_Mo_runs <| show Ev G (d + 3) _ _ M_Mo_measure 94 [.ref 102, .int x1, .int x2, .int x3, .long ((sCo S9 c_10) ^^^ (sCo S11 c_12)), ev_unk] [.int (nI (if (0 : Int32) = 0 then cnt (rsP ((sCo S9 c_10) ^^^ (sCo S11 c_12))) 48 else mxN (lt ((sCo S9 c_10) ^^^ (sCo S11 c_12))) 48)), .ref 102] h R from
                          Ev.cV0 (M' := M_Mo_gives_I) (as := [.int (nI (if (0 : Int32) = 0 then cnt (rsP ((sCo S9 c_10) ^^^ (sCo S11 c_12))) 48 else mxN (lt ((sCo S9 c_10) ^^^ (sCo S11 c_12))) 48))]) (rest := []) l_Mo_245 M_Mo_gives_I_ok M_Mo_gives_I_in M_Mo_gives_I_se (by decide +kernel) (r27 c1 c2 c3 c4 c5 c6) rfl rfl rfl (Nat.le_of_ble_eq_true rfl) (Nat.le_of_ble_eq_true rfl) (s_Mo_gives_I (pr26 c1 c2 c3 c4 c5 c6) <| show Ev G (d + 3) _ _ M_Mo_measure 97 [.ref 102, .int x1, .int x2, .int x3, .long ((sCo S9 c_10) ^^^ (sCo S11 c_12)), ev_unk] [.int (nI (if (0 : Int32) = 0 then cnt (rsP ((sCo S9 c_10) ^^^ (sCo S11 c_12))) 48 else mxN (lt ((sCo S9 c_10) ^^^ (sCo S11 c_12))) 48))] (hset h 102 (moC (stV v_19 0) z_20)) R from
                            Ev.ret (r := (some (.int (nI (if (0 : Int32) = 0 then cnt (rsP ((sCo S9 c_10) ^^^ (sCo S11 c_12))) 48 else mxN (lt ((sCo S9 c_10) ^^^ (sCo S11 c_12))) 48))))) (Or.inl ⟨_, rfl, by decide +kernel, _, rfl, rfl⟩) (k7 c1 c2 c3 c4 c5 c6)
                          )
                        )
                      )
                    )
                  )
                )
              )
            )
          )
        )
      )
    )
  )
theorem b_Mo_find_0 {G : ev_G} {d k n : Nat} {h : ev_H} {R : Option Value → ev_H → Prop} {x1 : Int64} {S1 : AS} {v_2 : MG} {z_3 : MP} {S4 : AS} {v_5 : MG} {z_6 : MP} {S7 : AS} {v_8 : MG} {z_9 : MP}
  (pr1 : MS h S1)
  (r2 : ∃ fs, hat h 102 (oC 9 fs))
  (pr3 : (b2i (numB x1 (sB S1))) = (0 : Int32) → hat h 102 (moC v_2 z_3))
  (r4 : (b2i (numB x1 (sB S1))) = (0 : Int32) → ∃ fs, hat h 102 (oC 9 fs))
  (pr5 : ¬ (b2i (numB x1 (sB S1))) = (0 : Int32) → MS h S4)
  (pr6 : ¬ (b2i (numB x1 (sB S1))) = (0 : Int32) → sOk S4)
  (r7 : ¬ (b2i (numB x1 (sB S1))) = (0 : Int32) → ∃ fs, hat h 102 (oC 9 fs))
  (pr8 : ¬ (b2i (numB x1 (sB S1))) = (0 : Int32) → (frI (whP S4 x1) (sN S4)) = (-1 : Int32) → hat h 102 (moC v_5 z_6))
  (r9 : ¬ (b2i (numB x1 (sB S1))) = (0 : Int32) → (frI (whP S4 x1) (sN S4)) = (-1 : Int32) → ∃ fs, hat h 102 (oC 9 fs))
  (pr10 : ¬ (b2i (numB x1 (sB S1))) = (0 : Int32) → ¬ (frI (whP S4 x1) (sN S4)) = (-1 : Int32) → MS h S7)
  (pr11 : ¬ (b2i (numB x1 (sB S1))) = (0 : Int32) → ¬ (frI (whP S4 x1) (sN S4)) = (-1 : Int32) → sOk S7)
  (r12 : ¬ (b2i (numB x1 (sB S1))) = (0 : Int32) → ¬ (frI (whP S4 x1) (sN S4)) = (-1 : Int32) → ∃ fs, hat h 102 (oC 9 fs))
  (pr13 : ¬ (b2i (numB x1 (sB S1))) = (0 : Int32) → ¬ (frI (whP S4 x1) (sN S4)) = (-1 : Int32) → hat h 102 (moC v_8 z_9))
  (k1 : (b2i (numB x1 (sB S1))) = (0 : Int32) → R (some (.int (-1 : Int32))) (hset h 102 (moC (stV v_2 (1 : Int32)) z_3)))
  (k2 : ¬ (b2i (numB x1 (sB S1))) = (0 : Int32) → (frI (whP S4 x1) (sN S4)) = (-1 : Int32) → R (some (.int (-1 : Int32))) (hset h 102 (moC (stV v_5 (5 : Int32)) z_6)))
  (k3 : ¬ (b2i (numB x1 (sB S1))) = (0 : Int32) → ¬ (frI (whP S4 x1) (sN S4)) = (-1 : Int32) → R (some (.int (frI (whP S7 x1) (sN S7)))) (hset h 102 (moC (stV v_8 0) z_9)))
  : Ev G (d + 3) k n M_Mo_find 0 [.ref 102, .long x1, ev_unk] [] h R :=
  Ev.go (pc' := 2) (ls' := [.ref 102, .long x1, ev_unk]) (st' := [.long x1, .ref 102]) [.aload_n 0, .lload_n 1] (by decide +kernel) rfl <|
  Ev.cV0 (M' := M_Mo_isNumber) (as := [.long x1]) (rest := []) l_Mo_267 M_Mo_isNumber_ok M_Mo_isNumber_in M_Mo_isNumber_se (by decide +kernel) r2 rfl rfl rfl (Nat.le_of_ble_eq_true rfl) (Nat.le_of_ble_eq_true rfl) (s_Mo_isNumber pr1 <| show Ev G (d + 3) _ _ M_Mo_find 5 [.ref 102, .long x1, ev_unk] [.int (b2i (numB x1 (sB S1)))] h R from
    Ev.br (i := .ifCond .ne (9)) (P := (b2i (numB x1 (sB S1))) = (0 : Int32)) (t := 8) (f := 14) (r := []) (by decide +kernel) rfl (fun c1 =>
      Ev.go (pc' := 10) (ls' := [.ref 102, .long x1, ev_unk]) (st' := [.int (1 : Int32), .ref 102]) [.aload_n 0, .iconst 1] (by decide +kernel) rfl <|
      Ev.cV0 (M' := M_Mo_refuse) (as := [.int (1 : Int32)]) (rest := []) l_Mo_226 M_Mo_refuse_ok M_Mo_refuse_in M_Mo_refuse_se (by decide +kernel) (r4 c1) rfl rfl rfl (Nat.le_of_ble_eq_true rfl) (Nat.le_of_ble_eq_true rfl) (s_Mo_refuse (pr3 c1) <| show Ev G (d + 3) _ _ M_Mo_find 13 [.ref 102, .long x1, ev_unk] [.int (-1 : Int32)] (hset h 102 (moC (stV v_2 (1 : Int32)) z_3)) R from
        Ev.ret (r := (some (.int (-1 : Int32)))) (Or.inl ⟨_, rfl, by decide +kernel, _, rfl, rfl⟩) (k1 c1)
      )
    ) (fun c1 =>
      Ev.go (pc' := 16) (ls' := [.ref 102, .long x1, ev_unk]) (st' := [.long x1, .ref 102]) [.aload_n 0, .lload_n 1] (by decide +kernel) rfl <|
      Ev.cV0 (M' := M_Mo_found) (as := [.long x1]) (rest := []) l_Mo_217 M_Mo_found_ok M_Mo_found_in M_Mo_found_se (by decide +kernel) (r7 c1) rfl rfl rfl (Nat.le_of_ble_eq_true rfl) (Nat.le_of_ble_eq_true rfl) (s_Mo_found (pr5 c1) (pr6 c1) <| show Ev G (d + 3) _ _ M_Mo_find 19 [.ref 102, .long x1, ev_unk] [.int (frI (whP S4 x1) (sN S4))] h R from
        Ev.go (pc' := 20) (ls' := [.ref 102, .long x1, ev_unk]) (st' := [.int (-1 : Int32), .int (frI (whP S4 x1) (sN S4))]) [.iconst (-1)] (by decide +kernel) rfl <|
        Ev.br (i := .if_icmp .ne (11)) (P := (frI (whP S4 x1) (sN S4)) = (-1 : Int32)) (t := 23) (f := 31) (r := []) (by decide +kernel) rfl (fun c2 =>
          Ev.go (pc' := 25) (ls' := [.ref 102, .long x1, ev_unk]) (st' := [.int (5 : Int32), .ref 102]) [.aload_n 0, .iconst 5] (by decide +kernel) rfl <|
          Ev.cV0 (M' := M_Mo_refuse) (as := [.int (5 : Int32)]) (rest := []) l_Mo_226 M_Mo_refuse_ok M_Mo_refuse_in M_Mo_refuse_se (by decide +kernel) (r9 c1 c2) rfl rfl rfl (Nat.le_of_ble_eq_true rfl) (Nat.le_of_ble_eq_true rfl) (s_Mo_refuse (pr8 c1 c2) <| show Ev G (d + 3) _ _ M_Mo_find 28 [.ref 102, .long x1, ev_unk] [.int (-1 : Int32)] (hset h 102 (moC (stV v_5 (5 : Int32)) z_6)) R from
            Ev.go (pc' := 40) (ls' := [.ref 102, .long x1, ev_unk]) (st' := [.int (-1 : Int32)]) [.goto (12)] (by decide +kernel) rfl <|
            Ev.ret (r := (some (.int (-1 : Int32)))) (Or.inl ⟨_, rfl, by decide +kernel, _, rfl, rfl⟩) (k2 c1 c2)
          )
        ) (fun c2 =>
          Ev.go (pc' := 34) (ls' := [.ref 102, .long x1, ev_unk]) (st' := [.long x1, .ref 102, .ref 102]) [.aload_n 0, .aload_n 0, .lload_n 1] (by decide +kernel) rfl <|
          Ev.cV0 (M' := M_Mo_found) (as := [.long x1]) (rest := [.ref 102]) l_Mo_217 M_Mo_found_ok M_Mo_found_in M_Mo_found_se (by decide +kernel) (r12 c1 c2) rfl rfl rfl (Nat.le_of_ble_eq_true rfl) (Nat.le_of_ble_eq_true rfl) (s_Mo_found (pr10 c1 c2) (pr11 c1 c2) <| show Ev G (d + 3) _ _ M_Mo_find 37 [.ref 102, .long x1, ev_unk] [.int (frI (whP S7 x1) (sN S7)), .ref 102] h R from
            Ev.cV0 (M' := M_Mo_gives_I) (as := [.int (frI (whP S7 x1) (sN S7))]) (rest := []) l_Mo_245 M_Mo_gives_I_ok M_Mo_gives_I_in M_Mo_gives_I_se (by decide +kernel) (r12 c1 c2) rfl rfl rfl (Nat.le_of_ble_eq_true rfl) (Nat.le_of_ble_eq_true rfl) (s_Mo_gives_I (pr13 c1 c2) <| show Ev G (d + 3) _ _ M_Mo_find 40 [.ref 102, .long x1, ev_unk] [.int (frI (whP S7 x1) (sN S7))] (hset h 102 (moC (stV v_8 0) z_9)) R from
              Ev.ret (r := (some (.int (frI (whP S7 x1) (sN S7))))) (Or.inl ⟨_, rfl, by decide +kernel, _, rfl, rfl⟩) (k3 c1 c2)
            )
          )
        )
      )
    )
  )
section S44b
variable {G : ev_G} {d : Nat} {h : ev_H} {R : Option Value → ev_H → Prop} {Q : QS}
theorem s_Mo_status2 (H : MR h Q) (hR : R (some (.int (qL Q))) h) : Ev G d 0 0 M_Mo_status 0 [.ref 102] [] h R := by
  obtain ⟨bm, z, m1⟩ := H.2.1
  refine b_Mo_status_0 m1 hR
theorem s_Mo_fault2 {x : Int32} (H : MR h Q) (hR : R (some (.int (a_fault Q x))) h) : Ev G d 0 0 M_Mo_fault 0 [.ref 102, .int x] [] h R := by
  obtain ⟨bm, z, m1⟩ := H.2.1
  refine b_Mo_fault_0 m1 (fun c1 => by unfold a_fault at hR; simp only [c1, if_true, if_false] at hR; exact hR) (fun c1 c2 => by unfold a_fault at hR; simp only [c1, c2, if_true, if_false] at hR; exact hR) (fun c1 c2 => by unfold a_fault at hR; simp only [c1, c2, if_true, if_false] at hR; exact hR)
theorem s_Mo_code2 {x : Int32} (H : MR h Q) (hR : ∀ h', Kp h h' 102 126 → MR h' (stQ Q (a_code (qS Q) x).2) → R (some (.long (a_code (qS Q) x).1)) h') : Ev G (d + 3) 0 0 M_Mo_code 0 [.ref 102, .int x] [] h R := by
  obtain ⟨bm, z, m1⟩ := H.2.1
  have hz := H.szN
  refine b_Mo_code_0 H.ms H.ok ⟨_, m1⟩ (fun c1 => m1) (fun c1 => ⟨_, m1⟩) (fun c1 => H.ms) (fun c1 => H.ok) (fun c1 => vN_lt (by omega) (b2i_n0 c1)) (fun c1 => ⟨_, m1⟩) (fun c1 => m1) (fun c1 => H.finL (Kp.refl _ _ _) m1 hR (by unfold a_code; rw [b2i_e0 c1]; rfl)) (fun c1 => H.finL (Kp.refl _ _ _) m1 hR (by unfold a_code; rw [if_pos (b2i_n0 c1)]))
theorem s_Mo_tagOf2 {x : Int32} (H : MR h Q) (hR : ∀ h', Kp h h' 102 126 → MR h' (stQ Q (a_tagOf (qS Q) x).2) → R (some (.int (a_tagOf (qS Q) x).1)) h') : Ev G (d + 3) 0 0 M_Mo_tagOf 0 [.ref 102, .int x] [] h R := by
  obtain ⟨bm, z, m1⟩ := H.2.1
  obtain ⟨g, m2, sl⟩ := H.2.2.1
  have hz := H.szN
  refine b_Mo_tagOf_0 (j_7 := 42 + vN x) H.ms H.ok ⟨_, m1⟩ (fun c1 => m1) (fun c1 => ⟨_, m1⟩) (fun c1 => m1) (fun c1 => m2) (fun c1 => (by have q := vN_lt (by omega) (b2i_n0 c1); rw [q.1, vN_nI (by omega)]; exact ⟨nI_add 42 _, by omega, by omega⟩)) (fun c1 => ⟨_, m1⟩) (fun c1 => m1) (fun c1 => H.fin (Kp.refl _ _ _) m1 hR (by unfold a_tagOf; rw [b2i_e0 c1]; rfl)) (fun c1 => H.fin (Kp.refl _ _ _) m1 hR (by unfold a_tagOf; rw [if_pos (b2i_n0 c1)]; have := (sl.1.2.2.2.2.2.1 _ (vN_lt (by omega) (b2i_n0 c1)).2).2; rw [Nat.zero_add] at this; rw [this, lN_i]))
theorem s_Mo_breadth2 {x : Int32} (H : MR h Q) (hR : ∀ h', Kp h h' 102 126 → MR h' (stQ Q (a_breadth (qS Q) x).2) → R (some (.int (a_breadth (qS Q) x).1)) h') : Ev G (d + 3) 0 0 M_Mo_breadth 0 [.ref 102, .int x] [] h R := by
  obtain ⟨bm, z, m1⟩ := H.2.1
  have hz := H.szP
  refine b_Mo_breadth_0 H.ms H.ok ⟨_, m1⟩ (fun c1 => m1) (fun c1 => ⟨_, m1⟩) (fun c1 => H.ms) (fun c1 => H.ok) (fun c1 => vN_lt (by omega) (b2i_n0 c1)) (fun c1 => ⟨_, m1⟩) (fun c1 => m1) (fun c1 => H.fin (Kp.refl _ _ _) m1 hR (by unfold a_breadth; rw [b2i_e0 c1]; rfl)) (fun c1 => H.fin (Kp.refl _ _ _) m1 hR (by unfold a_breadth; rw [if_pos (b2i_n0 c1)]))
theorem s_Mo_key2 {x y : Int32} (H : MR h Q) (hR : ∀ h', Kp h h' 102 126 → MR h' (stQ Q (a_key (qS Q) x y).2) → R (some (.int (a_key (qS Q) x y).1)) h') : Ev G (d + 3) 0 0 M_Mo_key_II 0 [.ref 102, .int x, .int y] [] h R := by
  obtain ⟨bm, z, m1⟩ := H.2.1
  have hz := H.szN
  have hz2 := H.szP
  refine b_Mo_key_II_0 H.ms H.ok ⟨_, m1⟩ (fun c1 => m1) (fun c1 => ⟨_, m1⟩) (fun c1 => H.ms) (fun c1 => H.ok) (fun c1 => ⟨_, m1⟩) (fun c1 c2 => m1) (fun c1 c2 => ⟨_, m1⟩) (fun c1 c2 => H.ms) (fun c1 c2 => H.ok) (fun c1 c2 => vN_lt (by omega) (b2i_n0 c1)) (fun c1 c2 => ⟨_, m1⟩) (fun c1 c2 => H.ms) (fun c1 c2 => H.ok) (fun c1 c2 => vN_lt (by omega) (b2i_n0 c2)) (fun c1 c2 => m1) (fun c1 => H.fin (Kp.refl _ _ _) m1 hR (by unfold a_key; rw [b2i_e0 c1]; rfl)) (fun c1 c2 => H.fin (Kp.refl _ _ _) m1 hR (by unfold a_key; rw [b2i_n0 c1, b2i_e0 c2]; rfl)) (fun c1 c2 => H.fin (Kp.refl _ _ _) m1 hR (by unfold a_key; rw [b2i_n0 c1, b2i_n0 c2, lN_i]; rfl))
theorem s_Mo_far2 {x : Int32} {y : Int64} (H : MR h Q) (hR : ∀ h', Kp h h' 102 126 → MR h' (stQ Q (a_far (qS Q) x y).2) → R (some (.int (a_far (qS Q) x y).1)) h') : Ev G (d + 3) 0 0 M_Mo_far 0 [.ref 102, .int x, .long y, ev_unk] [] h R := by
  obtain ⟨bm, z, m1⟩ := H.2.1
  have hz := H.szN
  refine b_Mo_far_0 H.ms ⟨_, m1⟩ (fun c1 => m1) (fun c1 => ⟨_, m1⟩) (fun c1 => H.ms) (fun c1 => H.ok) (fun c1 => ⟨_, m1⟩) (fun c1 c2 => m1) (fun c1 c2 => ⟨_, m1⟩) (fun c1 c2 => H.ms) (fun c1 c2 => H.ok) (fun c1 c2 => vN_lt (by omega) (b2i_n0 c2)) (fun c1 c2 => ⟨_, m1⟩) (fun c1 c2 => m1) (fun c1 => H.fin (Kp.refl _ _ _) m1 hR (by unfold a_far; rw [b2i_e0 c1]; rfl)) (fun c1 c2 => H.fin (Kp.refl _ _ _) m1 hR (by unfold a_far; rw [b2i_n0 c1, b2i_e0 c2]; rfl)) (fun c1 c2 => H.fin (Kp.refl _ _ _) m1 hR (by unfold a_far; rw [b2i_n0 c1, b2i_n0 c2]; rfl))
theorem s_Mo_find2 {y : Int64} (H : MR h Q) (hR : ∀ h', Kp h h' 102 126 → MR h' (stQ Q (a_find (qS Q) y).2) → R (some (.int (a_find (qS Q) y).1)) h') : Ev G (d + 3) 0 0 M_Mo_find 0 [.ref 102, .long y, ev_unk] [] h R := by
  obtain ⟨bm, z, m1⟩ := H.2.1
  refine b_Mo_find_0 H.ms ⟨_, m1⟩ (fun c1 => m1) (fun c1 => ⟨_, m1⟩) (fun c1 => H.ms) (fun c1 => H.ok) (fun c1 => ⟨_, m1⟩) (fun c1 c2 => m1) (fun c1 c2 => ⟨_, m1⟩) (fun c1 c2 => H.ms) (fun c1 c2 => H.ok) (fun c1 c2 => ⟨_, m1⟩) (fun c1 c2 => m1) (fun c1 => H.fin (Kp.refl _ _ _) m1 hR (by unfold a_find; rw [b2i_e0 c1]; rfl)) (fun c1 c2 => H.fin (Kp.refl _ _ _) m1 hR (by unfold a_find; rw [b2i_n0 c1, if_pos c2]; rfl)) (fun c1 c2 => H.fin (Kp.refl _ _ _) m1 hR (by unfold a_find; rw [b2i_n0 c1, if_neg c2]; rfl))
/-- runs counted the two ways -/
theorem rs_eq {x : Int64} (h : ∀ j, 48 ≤ j → lt x j = false) : cnt (rsP x) 48 = pop (x &&& ((x <<< ((1 : Int32).toInt64 &&& 63)) ^^^ (-1 : Int64))) := by
  have e : ∀ j, j < 64 → lt (x &&& ((x <<< ((1 : Int32).toInt64 &&& 63)) ^^^ (-1 : Int64))) j = rsP x j := by
    intro j hj
    rw [l_and, l_xor, show (1 : Int32) = nI 1 from rfl, l_shl 1 (by omega) x hj, l_m1 j hj]
    have r0 : ∀ j, rnN (lt x) j = 0 ↔ j = 0 ∨ lt x (j - 1) = false := by
      intro j
      cases j with
      | zero => exact ⟨fun _ => Or.inl rfl, fun _ => rfl⟩
      | succ j =>
        show (if lt x j then rnN (lt x) j + 1 else 0) = 0 ↔ _
        cases q : lt x j <;> simp [q]
    have r1 : rsP x j = (lt x j && decide (rnN (lt x) j = 0)) := by
      unfold rsP
      show decide ((if lt x j then rnN (lt x) j + 1 else 0) = 1) = _
      cases q : lt x j <;> simp
    rw [r1]
    cases q : lt x j
    · rfl
    · have := r0 j
      by_cases c : j = 0
      · subst c; rfl
      · rw [decide_eq_true (show 1 ≤ j by omega)]
        cases q2 : lt x (j - 1)
        · rw [decide_eq_true (this.mpr (Or.inr q2))]; rfl
        · rw [decide_eq_false (fun z => by rcases this.mp z with z | z; exact c z; rw [q2] at z; exact absurd z (by decide))]; rfl
  have s := cnt_split (rsP x) 48 16
  have z : cnt (fun j => rsP x (48 + j)) 16 = 0 := cnt_zero fun k hk => by
    rw [← e (48 + k) (by omega), l_and, h _ (by omega)]; rfl
  unfold pop
  rw [cnt_congr e, s, z]; rfl
theorem MR.bits (H : MR h Q) {i : Nat} (hi : i < sN (qS Q)) : ∀ j, 48 ≤ j → lt (sCo (qS Q) i) j = false := fun j hj => (numB_iff (b := sB (qS Q)) (by have := H.szB; omega)).mp (H.gd.2.2.2 i hi) j (by have := H.szB; omega)
theorem s_Mo_measure2 {x y m : Int32} (H : MR h Q) (hR : ∀ h', Kp h h' 102 126 → MR h' (stQ Q (a_measure (qS Q) x y m).2) → R (some (.int (a_measure (qS Q) x y m).1)) h') : Ev G (d + 3) 0 0 M_Mo_measure 0 [.ref 102, .int x, .int y, .int m, ev_unk, ev_unk] [] h R := by
  obtain ⟨bm, z, m1⟩ := H.2.1
  have hz := H.szN
  have f : frB m.toInt64 0 3 = decide (0 ≤ m ∧ m < (4 : Int32)) := fr_dc (b := 3) (by omega)
  refine b_Mo_measure_0 (fun c1 => m1) (fun c1 => ⟨_, m1⟩) (fun c1 => H.ms) (fun c1 => H.ok) (fun c1 => ⟨_, m1⟩) (fun c1 c2 => m1) (fun c1 c2 => ⟨_, m1⟩) (fun c1 c2 => H.ms) (fun c1 c2 => H.ok) (fun c1 c2 => ⟨_, m1⟩) (fun c1 c2 c3 => m1) (fun c1 c2 c3 => ⟨_, m1⟩) (fun c1 c2 c3 => H.ms) (fun c1 c2 c3 => H.ok) (fun c1 c2 c3 => vN_lt (by omega) (b2i_n0 c2)) (fun c1 c2 c3 => ⟨_, m1⟩) (fun c1 c2 c3 => H.ms) (fun c1 c2 c3 => H.ok) (fun c1 c2 c3 => vN_lt (by omega) (b2i_n0 c3)) (fun c1 c2 c3 c4 => m1) (fun c1 c2 c3 c4 => ⟨_, m1⟩) (fun c1 c2 c3 c4 c5 => m1) (fun c1 c2 c3 c4 c5 => ⟨_, m1⟩) (fun c1 c2 c3 c4 c5 c6 => m1) (fun c1 c2 c3 c4 c5 c6 => ⟨_, m1⟩) (fun c1 c2 c3 c4 c5 c6 => m1) (fun c1 c2 c3 c4 c5 c6 => ⟨_, m1⟩) (fun c1 => H.fin (Kp.refl _ _ _) m1 hR (by rw [f] at c1; unfold a_measure; rw [b2i_e0 c1]; rfl)) (fun c1 c2 => H.fin (Kp.refl _ _ _) m1 hR (by rw [f] at c1; unfold a_measure; rw [b2i_n0 c1, b2i_e0 c2]; rfl)) (fun c1 c2 c3 => H.fin (Kp.refl _ _ _) m1 hR (by rw [f] at c1; unfold a_measure; rw [b2i_n0 c1, b2i_n0 c2, b2i_e0 c3]; rfl)) (fun c1 c2 c3 c4 => H.fin (Kp.refl _ _ _) m1 hR (by rw [f] at c1; unfold a_measure mesN; rw [b2i_n0 c1, b2i_n0 c2, b2i_n0 c3, if_pos c4]; rfl)) (fun c1 c2 c3 c4 c5 => H.fin (Kp.refl _ _ _) m1 hR (by rw [f] at c1; unfold a_measure mesN; rw [b2i_n0 c1, b2i_n0 c2, b2i_n0 c3, if_neg c4, if_neg (show ¬ m = 1 by rw [c5]; decide), if_pos c5]; rfl)) (fun c1 c2 c3 c4 c5 c6 => H.fin (Kp.refl _ _ _) m1 hR (by rw [f] at c1; unfold a_measure mesN; rw [b2i_n0 c1, b2i_n0 c2, b2i_n0 c3, if_neg c4, if_neg (show ¬ m = 1 by rw [c6]; decide), if_neg c5, if_neg (show ¬ (1 : Int32) = 0 by decide)]; rfl)) (fun c1 c2 c3 c4 c5 c6 => ?_)
  rw [f] at c1
  have e1 : m = 1 := by
    have := of_decide_eq_true (b2i_n0 c1)
    rw [Int32.le_iff_toInt_le, Int32.lt_iff_toInt_lt] at this
    have n0 : m.toInt ≠ 0 := fun z => c4 (Int32.toInt_inj.mp z)
    have n2 : m.toInt ≠ 2 := fun z => c5 (Int32.toInt_inj.mp z)
    have n3 : m.toInt ≠ 3 := fun z => c6 (Int32.toInt_inj.mp z)
    have t1 : (0 : Int32).toInt = 0 := rfl
    have t2 : (4 : Int32).toInt = 4 := rfl
    rw [t1, t2] at this
    exact Int32.toInt_inj.mp (show m.toInt = 1 by omega)
  refine H.fin (Kp.refl _ _ _) m1 hR ?_
  have p1 := (vN_lt (by omega) (b2i_n0 c2)).2
  have p2 := (vN_lt (by omega) (b2i_n0 c3)).2
  rw [if_pos rfl, rs_eq (fun j hj => by rw [l_xor, H.bits p1 j hj, H.bits p2 j hj]; rfl)]
  unfold a_measure mesN
  rw [b2i_n0 c1, b2i_n0 c2, b2i_n0 c3, if_neg c4, if_pos e1]
  rfl
end S44b
