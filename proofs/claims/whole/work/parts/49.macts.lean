/-! the model: one store into another's place, what an act keeps -/
theorem b_Mo_copies_0 {G : ev_G} {d k n : Nat} {h : ev_H} {R : Option Value → ev_H → Prop} {x1 : Int32} {x2 : Int32}
  (k1 : Ev G d k n M_Mo_copies 2 [.ref 102, .int x1, .int x2, .int (0 : Int32)] [] h R)
  : Ev G d k n M_Mo_copies 0 [.ref 102, .int x1, .int x2, ev_unk] [] h R :=
  Ev.go (pc' := 2) (ls' := [.ref 102, .int x1, .int x2, .int (0 : Int32)]) (st' := []) [.iconst 0, .istore_n 3] (by decide +kernel) rfl <|
  k1
theorem b_Mo_copies_2 {G : ev_G} {d k n : Nat} {h : ev_H} {R : Option Value → ev_H → Prop} {x1 : Int32} {x2 : Int32} {x3 : Int32} {f_status_1 : Int32} {f_acts_2 : Int32} {f_marks_3 : Int32} {f_taped_4 : Int32} {f_size_5 : Int32} {f_token_6 : Int32} {f_begin_7 : Int32} {f_end_8 : Int32} {f_faults_9 : Int32} {f_faultPlace_10 : Int32} {f_faultKind_11 : Int32} {f_deep_12 : Int32} {f_value_13 : Int64} {f_broadMany_14 : Int32} {g15 : Nat → Int64} {j16 : Nat} {j17 : Nat}
  (a1 : hat h 102 (oC 9 [.ref 103, .int f_status_1, .int f_acts_2, .int f_marks_3, .ref 104, .ref 105, .ref 106, .int f_taped_4, .int f_size_5, .int f_token_6, .int f_begin_7, .int f_end_8, .int f_faults_9, .int f_faultPlace_10, .int f_faultKind_11, .int f_deep_12, .long f_value_13, .ref 107, .ref 108, .ref 109, .ref 116, .int f_broadMany_14, .ref 124, .ref 125]))
  (a2 : hat h 103 (aL 9758 g15))
  (i3 : x3 < (574 : Int32) → ev_ix (x1 + x3) j16 9758)
  (i4 : x3 < (574 : Int32) → ev_ix (x2 + x3) j17 9758)
  (k1 : x3 < (574 : Int32) → Ev G d k n M_Mo_copies 2 [.ref 102, .int x1, .int x2, .int (x3 + (1 : Int32))] [] (hset h 103 (aL 9758 (vp_updL g15 j17 (g15 j16)))) R)
  (k2 : ¬ x3 < (574 : Int32) → R none h)
  : Ev G d k n M_Mo_copies 2 [.ref 102, .int x1, .int x2, .int x3] [] h R :=
  Ev.go (pc' := 6) (ls' := [.ref 102, .int x1, .int x2, .int x3]) (st' := [.int (574 : Int32), .int x3]) [.iload_n 3, .sipush (574)] (by decide +kernel) rfl <|
  Ev.br (i := .if_icmp .ge (25)) (P := x3 < (574 : Int32)) (t := 9) (f := 31) (r := []) (by decide +kernel) rfl (fun c1 =>
    Ev.go (pc' := 10) (ls' := [.ref 102, .int x1, .int x2, .int x3]) (st' := [.ref 102]) [.aload_n 0] (by decide +kernel) rfl <|
    Ev.getf f_Mo_7 (by decide +kernel) a1 rfl <|
    Ev.go (pc' := 17) (ls' := [.ref 102, .int x1, .int x2, .int x3]) (st' := [.ref 102, .int (x2 + x3), .ref 103]) [.iload_n 2, .iload_n 3, .iadd, .aload_n 0] (by decide +kernel) rfl <|
    Ev.getf f_Mo_7 (by decide +kernel) a1 rfl <|
    Ev.go (pc' := 23) (ls' := [.ref 102, .int x1, .int x2, .int x3]) (st' := [.int (x1 + x3), .ref 103, .int (x2 + x3), .ref 103]) [.iload_n 1, .iload_n 3, .iadd] (by decide +kernel) rfl <|
    Ev.lald (j := j16) (by decide +kernel) a2 (i3 c1) <|
    Ev.last (j := j17) (by decide +kernel) a2 (i4 c1) <| show Ev G d _ _ M_Mo_copies 25 [.ref 102, .int x1, .int x2, .int x3] [] (hset h 103 (aL 9758 (vp_updL g15 j17 (g15 j16)))) R from
    Ev.go (pc' := 2) (ls' := [.ref 102, .int x1, .int x2, .int (x3 + (1 : Int32))]) (st' := []) [.iinc 3 (1), .goto (-26)] (by decide +kernel) rfl <|
    (k1 c1)
  ) (fun c1 =>
    Ev.ret (r := none) (Or.inr (Or.inr (Or.inl ⟨rfl, by decide +kernel, rfl⟩))) (k2 c1)
  )
theorem b_Mo_acted_0 {G : ev_G} {d k n : Nat} {h : ev_H} {R : Option Value → ev_H → Prop} {x1 : Int32} {f_status_1 : Int32} {f_acts_2 : Int32} {f_marks_3 : Int32} {f_taped_4 : Int32} {f_size_5 : Int32} {f_token_6 : Int32} {f_begin_7 : Int32} {f_end_8 : Int32} {f_faults_9 : Int32} {f_faultPlace_10 : Int32} {f_faultKind_11 : Int32} {f_deep_12 : Int32} {f_value_13 : Int64} {f_broadMany_14 : Int32}
  (a1 : hat h 102 (oC 9 [.ref 103, .int f_status_1, .int f_acts_2, .int f_marks_3, .ref 104, .ref 105, .ref 106, .int f_taped_4, .int f_size_5, .int f_token_6, .int f_begin_7, .int f_end_8, .int f_faults_9, .int f_faultPlace_10, .int f_faultKind_11, .int f_deep_12, .long f_value_13, .ref 107, .ref 108, .ref 109, .ref 116, .int f_broadMany_14, .ref 124, .ref 125]))
  (k1 : f_acts_2 = (12 : Int32) → Ev G (d + 1) k n M_Mo_acted 11 [.ref 102, .int x1, .int (1 : Int32)] [] h R)
  (k2 : ¬ f_acts_2 = (12 : Int32) → Ev G d 0 0 M_Mo_copies 0 [.ref 102, .int x1, .int ((1148 : Int32) + ((574 : Int32) * f_acts_2)), ev_unk] [] h (fun r h1 => Ev G (d + 1) k n M_Mo_acted 74 [.ref 102, .int x1, ev_unk] (r.toList ++ []) h1 R))
  : Ev G (d + 1) k n M_Mo_acted 0 [.ref 102, .int x1, ev_unk] [] h R :=
  Ev.go (pc' := 1) (ls' := [.ref 102, .int x1, ev_unk]) (st' := [.ref 102]) [.aload_n 0] (by decide +kernel) rfl <|
  Ev.getf f_Mo_252 (by decide +kernel) a1 rfl <|
  Ev.go (pc' := 6) (ls' := [.ref 102, .int x1, ev_unk]) (st' := [.int (12 : Int32), .int f_acts_2]) [.bipush (12)] (by decide +kernel) rfl <|
  Ev.br (i := .if_icmp .ne (51)) (P := f_acts_2 = (12 : Int32)) (t := 9) (f := 57) (r := []) (by decide +kernel) rfl (fun c1 =>
    Ev.go (pc' := 11) (ls' := [.ref 102, .int x1, .int (1 : Int32)]) (st' := []) [.iconst 1, .istore_n 2] (by decide +kernel) rfl <|
    (k1 c1)
  ) (fun c1 =>
    Ev.go (pc' := 66) (ls' := [.ref 102, .int x1, ev_unk]) (st' := [.ref 102, .int (574 : Int32), .int (1148 : Int32), .int x1, .ref 102]) [.aload_n 0, .iload_n 1, .sipush (1148), .sipush (574), .aload_n 0] (by decide +kernel) rfl <|
    Ev.getf f_Mo_252 (by decide +kernel) a1 rfl <|
    Ev.go (pc' := 71) (ls' := [.ref 102, .int x1, ev_unk]) (st' := [.int ((1148 : Int32) + ((574 : Int32) * f_acts_2)), .int x1, .ref 102]) [.imul, .iadd] (by decide +kernel) rfl <|
    Ev.cV0 (M' := M_Mo_copies) (as := [.int x1, .int ((1148 : Int32) + ((574 : Int32) * f_acts_2))]) (rest := []) l_Mo_229 M_Mo_copies_ok M_Mo_copies_in M_Mo_copies_se (by decide +kernel) ⟨_, a1⟩ rfl rfl rfl (Nat.le_of_ble_eq_true rfl) (Nat.le_of_ble_eq_true rfl) (k2 c1)
  )
theorem b_Mo_acted_11 {G : ev_G} {d k n : Nat} {h : ev_H} {R : Option Value → ev_H → Prop} {x1 : Int32} {x2 : Int32} {f_status_1 : Int32} {f_acts_2 : Int32} {f_marks_3 : Int32} {f_taped_4 : Int32} {f_size_5 : Int32} {f_token_6 : Int32} {f_begin_7 : Int32} {f_end_8 : Int32} {f_faults_9 : Int32} {f_faultPlace_10 : Int32} {f_faultKind_11 : Int32} {f_deep_12 : Int32} {f_value_13 : Int64} {f_broadMany_14 : Int32}
  (a2 : hat h 102 (oC 9 [.ref 103, .int f_status_1, .int f_acts_2, .int f_marks_3, .ref 104, .ref 105, .ref 106, .int f_taped_4, .int f_size_5, .int f_token_6, .int f_begin_7, .int f_end_8, .int f_faults_9, .int f_faultPlace_10, .int f_faultKind_11, .int f_deep_12, .long f_value_13, .ref 107, .ref 108, .ref 109, .ref 116, .int f_broadMany_14, .ref 124, .ref 125]))
  (r1 : x2 < (12 : Int32) → ∃ fs, hat h 102 (oC 9 fs))
  (k1 : x2 < (12 : Int32) → Ev G d 0 0 M_Mo_copies 0 [.ref 102, .int ((1148 : Int32) + ((574 : Int32) * x2)), .int ((1148 : Int32) + ((574 : Int32) * (x2 - (1 : Int32)))), ev_unk] [] h (fun r h1 => Ev G (d + 1) k n M_Mo_acted 41 [.ref 102, .int x1, .int x2] (r.toList ++ []) h1 R))
  (k2 : ¬ x2 < (12 : Int32) → Ev G d 0 0 M_Mo_copies 0 [.ref 102, .int x1, .int ((1148 : Int32) + ((574 : Int32) * (f_acts_2 - (1 : Int32)))), ev_unk] [] (hset h 102 (oC 9 [.ref 103, .int f_status_1, .int (f_acts_2 - (1 : Int32)), .int f_marks_3, .ref 104, .ref 105, .ref 106, .int f_taped_4, .int f_size_5, .int f_token_6, .int f_begin_7, .int f_end_8, .int f_faults_9, .int f_faultPlace_10, .int f_faultKind_11, .int f_deep_12, .long f_value_13, .ref 107, .ref 108, .ref 109, .ref 116, .int f_broadMany_14, .ref 124, .ref 125])) (fun r h1 => Ev G (d + 1) k n M_Mo_acted 74 [.ref 102, .int x1, .int x2] (r.toList ++ []) h1 R))
  : Ev G (d + 1) k n M_Mo_acted 11 [.ref 102, .int x1, .int x2] [] h R :=
  Ev.go (pc' := 14) (ls' := [.ref 102, .int x1, .int x2]) (st' := [.int (12 : Int32), .int x2]) [.iload_n 2, .bipush (12)] (by decide +kernel) rfl <|
  Ev.br (i := .if_icmp .ge (33)) (P := x2 < (12 : Int32)) (t := 17) (f := 47) (r := []) (by decide +kernel) rfl (fun c1 =>
    Ev.go (pc' := 38) (ls' := [.ref 102, .int x1, .int x2]) (st' := [.int ((1148 : Int32) + ((574 : Int32) * (x2 - (1 : Int32)))), .int ((1148 : Int32) + ((574 : Int32) * x2)), .ref 102]) [.aload_n 0, .sipush (1148), .sipush (574), .iload_n 2, .imul, .iadd, .sipush (1148), .sipush (574), .iload_n 2, .iconst 1, .isub, .imul, .iadd] (by decide +kernel) rfl <|
    Ev.cV0 (M' := M_Mo_copies) (as := [.int ((1148 : Int32) + ((574 : Int32) * x2)), .int ((1148 : Int32) + ((574 : Int32) * (x2 - (1 : Int32))))]) (rest := []) l_Mo_229 M_Mo_copies_ok M_Mo_copies_in M_Mo_copies_se (by decide +kernel) (r1 c1) rfl rfl rfl (Nat.le_of_ble_eq_true rfl) (Nat.le_of_ble_eq_true rfl) (k1 c1)
  ) (fun c1 =>
    Ev.go (pc' := 49) (ls' := [.ref 102, .int x1, .int x2]) (st' := [.ref 102, .ref 102]) [.aload_n 0, .dup] (by decide +kernel) rfl <|
    Ev.getf f_Mo_252 (by decide +kernel) a2 rfl <|
    Ev.go (pc' := 54) (ls' := [.ref 102, .int x1, .int x2]) (st' := [.int (f_acts_2 - (1 : Int32)), .ref 102]) [.iconst 1, .isub] (by decide +kernel) rfl <|
    Ev.putf f_Mo_252 (by decide +kernel) a2 (Nat.le_of_ble_eq_true rfl) rfl (fun q => nomatch q) <| show Ev G (d + 1) _ _ M_Mo_acted 57 [.ref 102, .int x1, .int x2] [] (hset h 102 (oC 9 [.ref 103, .int f_status_1, .int (f_acts_2 - (1 : Int32)), .int f_marks_3, .ref 104, .ref 105, .ref 106, .int f_taped_4, .int f_size_5, .int f_token_6, .int f_begin_7, .int f_end_8, .int f_faults_9, .int f_faultPlace_10, .int f_faultKind_11, .int f_deep_12, .long f_value_13, .ref 107, .ref 108, .ref 109, .ref 116, .int f_broadMany_14, .ref 124, .ref 125])) R from
    Ev.go (pc' := 66) (ls' := [.ref 102, .int x1, .int x2]) (st' := [.ref 102, .int (574 : Int32), .int (1148 : Int32), .int x1, .ref 102]) [.aload_n 0, .iload_n 1, .sipush (1148), .sipush (574), .aload_n 0] (by decide +kernel) rfl <|
    Ev.getf f_Mo_252 (by decide +kernel) (hat_set a2) rfl <|
    Ev.go (pc' := 71) (ls' := [.ref 102, .int x1, .int x2]) (st' := [.int ((1148 : Int32) + ((574 : Int32) * (f_acts_2 - (1 : Int32)))), .int x1, .ref 102]) [.imul, .iadd] (by decide +kernel) rfl <|
    Ev.cV0 (M' := M_Mo_copies) (as := [.int x1, .int ((1148 : Int32) + ((574 : Int32) * (f_acts_2 - (1 : Int32))))]) (rest := []) l_Mo_229 M_Mo_copies_ok M_Mo_copies_in M_Mo_copies_se (by decide +kernel) ⟨_, (hat_set a2)⟩ rfl rfl rfl (Nat.le_of_ble_eq_true rfl) (Nat.le_of_ble_eq_true rfl) (k2 c1)
  )
theorem b_Mo_acted_41 {G : ev_G} {d k n : Nat} {h : ev_H} {R : Option Value → ev_H → Prop} {x1 : Int32} {x2 : Int32}
  (k1 : Ev G (d + 1) k n M_Mo_acted 11 [.ref 102, .int x1, .int (x2 + (1 : Int32))] [] h R)
  : Ev G (d + 1) k n M_Mo_acted 41 [.ref 102, .int x1, .int x2] [] h R :=
  Ev.go (pc' := 11) (ls' := [.ref 102, .int x1, .int (x2 + (1 : Int32))]) (st' := []) [.iinc 2 (1), .goto (-33)] (by decide +kernel) rfl <|
  k1
theorem b_Mo_acted_74 {G : ev_G} {d k n : Nat} {h : ev_H} {R : Option Value → ev_H → Prop} {x1 : Int32} {f_status_1 : Int32} {f_acts_2 : Int32} {f_marks_3 : Int32} {f_taped_4 : Int32} {f_size_5 : Int32} {f_token_6 : Int32} {f_begin_7 : Int32} {f_end_8 : Int32} {f_faults_9 : Int32} {f_faultPlace_10 : Int32} {f_faultKind_11 : Int32} {f_deep_12 : Int32} {f_value_13 : Int64} {f_broadMany_14 : Int32}
  (a1 : hat h 102 (oC 9 [.ref 103, .int f_status_1, .int f_acts_2, .int f_marks_3, .ref 104, .ref 105, .ref 106, .int f_taped_4, .int f_size_5, .int f_token_6, .int f_begin_7, .int f_end_8, .int f_faults_9, .int f_faultPlace_10, .int f_faultKind_11, .int f_deep_12, .long f_value_13, .ref 107, .ref 108, .ref 109, .ref 116, .int f_broadMany_14, .ref 124, .ref 125]))
  (k1 : R none (hset h 102 (oC 9 [.ref 103, .int f_status_1, .int (f_acts_2 + (1 : Int32)), .int f_marks_3, .ref 104, .ref 105, .ref 106, .int f_taped_4, .int f_size_5, .int f_token_6, .int f_begin_7, .int f_end_8, .int f_faults_9, .int f_faultPlace_10, .int f_faultKind_11, .int f_deep_12, .long f_value_13, .ref 107, .ref 108, .ref 109, .ref 116, .int f_broadMany_14, .ref 124, .ref 125])))
  : Ev G (d + 1) k n M_Mo_acted 74 [.ref 102, .int x1, ev_unk] [] h R :=
  Ev.go (pc' := 76) (ls' := [.ref 102, .int x1, ev_unk]) (st' := [.ref 102, .ref 102]) [.aload_n 0, .dup] (by decide +kernel) rfl <|
  Ev.getf f_Mo_252 (by decide +kernel) a1 rfl <|
  Ev.go (pc' := 81) (ls' := [.ref 102, .int x1, ev_unk]) (st' := [.int (f_acts_2 + (1 : Int32)), .ref 102]) [.iconst 1, .iadd] (by decide +kernel) rfl <|
  Ev.putf f_Mo_252 (by decide +kernel) a1 (Nat.le_of_ble_eq_true rfl) rfl (fun q => nomatch q) <| show Ev G (d + 1) _ _ M_Mo_acted 84 [.ref 102, .int x1, ev_unk] [] (hset h 102 (oC 9 [.ref 103, .int f_status_1, .int (f_acts_2 + (1 : Int32)), .int f_marks_3, .ref 104, .ref 105, .ref 106, .int f_taped_4, .int f_size_5, .int f_token_6, .int f_begin_7, .int f_end_8, .int f_faults_9, .int f_faultPlace_10, .int f_faultKind_11, .int f_deep_12, .long f_value_13, .ref 107, .ref 108, .ref 109, .ref 116, .int f_broadMany_14, .ref 124, .ref 125])) R from
  Ev.ret (r := none) (Or.inr (Or.inr (Or.inl ⟨rfl, by decide +kernel, rfl⟩))) k1
def cpL (g : Nat → Int64) (f t : Nat) : Nat → Int64 := fun k => if t ≤ k ∧ k < t + 574 then g (f + (k - t)) else g k
section S49
variable {G : ev_G} {d : Nat} {h : ev_H} {R : Option Value → ev_H → Prop} {Q : QS} {g g' : Nat → Int64} {S : AS} {f t b : Nat}
theorem sGd.cl (gd : sGd S) : clTot (sFl S) ≤ 500 := by
  rcases gd.2.1 with e | e
  · rw [e]; decide
  · exact e.2.2.1
theorem SlR.mv (gd : sGd S) (H : SlR g f S) (e : ∀ k, k < 574 → g' (t + k) = g (f + k)) : SlR g' t S := by
  obtain ⟨a0, a1, a2, a3, a4, a5, a6⟩ := H
  have p6 := gd.1.2.2.2.1
  have n32 := gd.1.2.2.2.2.1
  have c5 := gd.cl
  refine ⟨(e 0 (by omega)).trans a0, (e 1 (by omega)).trans a1, (e 2 (by omega)).trans a2, (e 3 (by omega)).trans a3, fun i hi => ?_, fun i hi => ⟨?_, ?_⟩, fun i hi => ?_⟩
  · rw [Nat.add_assoc, e (4 + i) (by omega), ← Nat.add_assoc]; exact a4 i hi
  · rw [Nat.add_assoc, e (10 + i) (by omega), ← Nat.add_assoc]; exact (a5 i hi).1
  · rw [Nat.add_assoc, e (42 + i) (by omega), ← Nat.add_assoc]; exact (a5 i hi).2
  · rw [Nat.add_assoc, e (74 + i) (by omega), ← Nat.add_assoc]; exact a6 i hi
theorem SlR.cp (gd : sGd S) (H : SlR g f S) : SlR (cpL g f t) t S := H.mv gd fun k hk => by
  unfold cpL
  rw [if_pos (by omega), Nat.add_sub_cancel_left]
theorem SlR.cpo (gd : sGd S) (H : SlR g b S) (q : b + 574 ≤ t ∨ t + 574 ≤ b) : SlR (cpL g f t) b S := H.mv gd fun k hk => by
  unfold cpL
  rw [if_neg (by omega)]
theorem s_Mo_copies {v : MG} {z : MP} {fI tI : Int32} (m1 : hat h 102 (moC v z)) (m2 : hat h 103 (aL 9758 g)) (ef : fI = nI f) (et : tI = nI t) (hf : f + 574 ≤ 9758) (ht : t + 574 ≤ 9758) (dis : f + 574 ≤ t ∨ t + 574 ≤ f) (hR : ∀ h', Kp h h' 103 104 → hat h' 103 (aL 9758 (cpL g f t)) → R none h') : Ev G d 0 0 M_Mo_copies 0 [.ref 102, .int fI, .int tI, ev_unk] [] h R := by
  subst ef; subst et
  refine b_Mo_copies_0 ?_
  have L := up0 (P := fun i => ∀ h' g', Kp h h' 103 104 → hat h' 103 (aL 9758 g') → (∀ k, g' k = if t ≤ k ∧ k < t + i then g (f + (k - t)) else g k) → Ev G d 0 0 M_Mo_copies 2 [.ref 102, .int (nI f), .int (nI t), .int (nI i)] [] h' R) 574 ?_ ?_
  · exact L h g (Kp.refl _ _ _) m2 fun k => by rw [if_neg (by omega)]
  · intro i hi ih h' g' K m2 e
    have m1 := K.hat m1 (by omega)
    refine b_Mo_copies_2 (g15 := g') (j16 := f + i) (j17 := t + i) m1 m2 (fun c1 => ⟨nI_add f i, by omega, by omega⟩) (fun c1 => ⟨nI_add t i, by omega, by omega⟩) (fun c1 => ?_) (fun c1 => absurd (nI_lt hi (by omega)) c1)
    rw [nI_1]
    refine ih _ _ (K.set _ (by omega) (by omega)) (hat_set m2) fun k => ?_
    show (if k = t + i then g' (f + i) else g' k) = _
    by_cases c : k = t + i
    · rw [if_pos c, if_pos (by omega), e, if_neg (by omega), c, Nat.add_sub_cancel_left]
    · rw [if_neg c, e]
      by_cases c2 : t ≤ k ∧ k < t + i
      · rw [if_pos c2, if_pos (by omega)]
      · rw [if_neg c2, if_neg (by omega)]
  · intro h' g' K m2 e
    have m1 := K.hat m1 (by omega)
    refine b_Mo_copies_2 (g15 := g') (j16 := 0) (j17 := 0) m1 m2 (fun c1 => absurd c1 (by decide)) (fun c1 => absurd c1 (by decide)) (fun c1 => absurd c1 (by decide)) (fun c1 => ?_)
    have : g' = cpL g f t := funext e
    rw [← this] at hR
    exact hR h' K m2
/-- how the object may change: the counts -/
theorem MR.set3 {h1 : ev_H} {Q' : QS} (H : MR h Q) (K : Kp h h1 102 104) (gd : qGd Q') (m1 : ∃ bm z, hat h1 102 (moC (moQ Q' bm) z)) (m2 : ∃ g, hat h1 103 (aL 9758 g) ∧ SlQ g Q') (e : qTg Q' = qTg Q) : MR h1 Q' := by
  obtain ⟨-, -, -, t, X, n⟩ := H
  exact ⟨gd, m1, m2, by rw [e]; exact K.hat t (by omega), X.kg K.g (by omega), by rw [K.1]; exact n⟩
def kpQ (Q : QS) (S0 : AS) : QS := (qS Q, (min (qKn Q + 1) 12, keepA (qKn Q) (qKa Q) S0), Q.2.2)
theorem kpQ_gd {S0 : AS} (H : qGd Q) (g0 : sGd S0) : qGd (kpQ Q S0) := ⟨H.1, keepA_gd H.2.1 g0 H.2.2.2.1, H.2.2.1, by show min (qKn Q + 1) 12 ≤ 12; omega, H.2.2.2.2⟩
theorem act_ix {i : Nat} (hi : i < 12) : (1148 : Int32) + (574 : Int32) * nI i = nI (1148 + 574 * i) := by
  rw [show (574 : Int32) = nI 574 from rfl, nI_mul]; exact nI_add 1148 _
theorem s_Mo_acted {S0 : AS} {p : Nat} {pI : Int32} (H : MR h Q) (hp : pI = nI p ∧ (p = 0 ∨ p = 574)) (g0 : sGd S0) (m2 : hat h 103 (aL 9758 g)) (sl : SlQ g Q) (s0 : SlR g p S0) (hR : ∀ h', Kp h h' 102 104 → MR h' (kpQ Q S0) → R none h') : Ev G (d + 1) 0 0 M_Mo_acted 0 [.ref 102, .int pI, ev_unk] [] h R := by
  obtain ⟨bm, z, m1⟩ := H.2.1
  obtain ⟨rfl, hp⟩ := hp
  have kn12 := H.1.2.2.2.1
  have mn3 := H.1.2.2.2.2.1
  -- the last: a store into its place, and the count
  have fin : ∀ h1 g1 k, Kp h h1 102 104 → k < 12 → hat h1 102 (moC (qL Q, nI k, nI (qMn Q), nI (qTn Q), qFp Q, qFk Q, bm) z) → hat h1 103 (aL 9758 g1) → SlR g1 0 (qS Q) → SlR g1 p S0 → (∀ i, i < qMn Q → SlR g1 (8036 + 574 * i) (qMa Q i)) → k + 1 = min (qKn Q + 1) 12 → (∀ i, i < k → SlR g1 (1148 + 574 * i) (keepA (qKn Q) (qKa Q) S0 i)) → keepA (qKn Q) (qKa Q) S0 k = S0 → ∀ x, Ev G d 0 0 M_Mo_copies 0 [.ref 102, .int (nI p), .int (nI (1148 + 574 * k)), ev_unk] [] h1 (fun r h2 => Ev G (d + 1) 0 0 M_Mo_acted 74 [.ref 102, .int (nI p), x] (r.toList ++ []) h2 R) := by
    intro h1 g1 k K hk m1 m2 sS s0 sm ek sa el x
    refine s_Mo_copies m1 m2 rfl rfl (by omega) (by omega) (by omega) fun h2 K2 m22 => ?_
    have m12 := K2.hat m1 (by omega)
    refine Ev.forget (ls' := [.ref 102, .int (nI p), ev_unk]) ⟨Or.inr rfl, Or.inr rfl, Or.inl rfl, trivial⟩ ?_
    refine b_Mo_acted_74 m12 ?_
    rw [nI_1]
    have KK := (K.trans (K2.wide (by omega) (by omega))).set (k := 102) (moC (qL Q, nI (k + 1), nI (qMn Q), nI (qTn Q), qFp Q, qFk Q, bm) z) (by omega) (by omega)
    refine hR _ KK (H.set3 KK (kpQ_gd H.1 g0) ⟨bm, z, ?_⟩ ⟨_, hat_ne m22 (by omega), ?_, fun i hi => ?_, fun i hi => ?_⟩ rfl)
    · have := hat_set m12 (c' := moC (qL Q, nI (k + 1), nI (qMn Q), nI (qTn Q), qFp Q, qFk Q, bm) z)
      rw [ek] at this ⊢
      exact this
    · exact sS.cpo H.gd (by omega)
    · have hi : i < min (qKn Q + 1) 12 := hi
      have ga : ∀ i, i < min (qKn Q + 1) 12 → sGd (keepA (qKn Q) (qKa Q) S0 i) := (kpQ_gd H.1 g0).2.1
      by_cases c : i = k
      · subst c
        show SlR _ _ (keepA (qKn Q) (qKa Q) S0 i)
        rw [el]
        exact s0.cp g0
      · exact (sa i (by omega)).cpo (ga i hi) (by omega)
    · have hi : i < qMn Q := hi
      exact (sm i hi).cpo (H.1.2.2.1 i hi) (by omega)
  refine b_Mo_acted_0 m1 (fun c1 => ?_) (fun c1 => ?_)
  · have k12 : qKn Q = 12 := (nI_eq (b := 12) (by omega) (by omega)).mp c1
    clear c1
    have L := up_to (P := fun i => 1 ≤ i → ∀ h1 g1, Kp h h1 102 104 → hat h1 102 (moC (moQ Q bm) z) → hat h1 103 (aL 9758 g1) → SlR g1 0 (qS Q) → SlR g1 p S0 → (∀ i, i < qMn Q → SlR g1 (8036 + 574 * i) (qMa Q i)) → (∀ j, j < 12 → SlR g1 (1148 + 574 * j) (if j + 1 < i then qKa Q (j + 1) else qKa Q j)) → Ev G (d + 1) 0 0 M_Mo_acted 11 [.ref 102, .int (nI p), .int (nI i)] [] h1 R) (N := 12) ?_ ?_ 1 (by omega)
    · exact L (Nat.le_refl _) h g (Kp.refl _ _ _) m1 m2 sl.1 s0 sl.2.2 fun j hj => by rw [if_neg (by omega)]; exact sl.2.1 j (by omega)
    · intro i hi ih h1i h1 g1 K m1 m2 sS s0 sm sa
      have ga : ∀ j, j < 12 → sGd (qKa Q j) := fun j hj => H.1.2.1 j (by omega)
      refine b_Mo_acted_11 m1 (fun c1 => ⟨_, m1⟩) (fun c1 => ?_) (fun c1 => absurd (nI_lt (b := 12) hi (by omega)) c1)
      obtain ⟨i', rfl⟩ : ∃ i', i = i' + 1 := ⟨i - 1, by omega⟩
      rw [nI_pred, act_ix hi, act_ix (by omega)]
      refine s_Mo_copies m1 m2 rfl rfl (by omega) (by omega) (by omega) fun h2 K2 m22 => ?_
      refine b_Mo_acted_41 ?_
      rw [nI_1]
      refine ih (by omega) h2 _ (K.trans (K2.wide (by omega) (by omega))) (K2.hat m1 (by omega)) m22 (sS.cpo H.gd (by omega)) (s0.cpo g0 (by omega)) (fun j hj => (sm j hj).cpo (H.1.2.2.1 j hj) (by omega)) fun j hj => ?_
      have sj := sa j hj
      by_cases c : j = i'
      · subst c
        rw [if_pos (by omega)]
        have s1 := sa (j + 1) (by omega)
        rw [if_neg (by omega)] at s1
        exact s1.cp (ga _ (by omega))
      · by_cases c2 : j + 1 < i' + 1
        · rw [if_pos c2] at sj
          rw [if_pos (by omega)]
          exact sj.cpo (ga _ (by omega)) (by omega)
        · rw [if_neg c2] at sj
          rw [if_neg (by omega)]
          exact sj.cpo (ga _ (by omega)) (by omega)
    · intro _ h1 g1 K m1 m2 sS s0 sm sa
      refine b_Mo_acted_11 m1 (fun c1 => ⟨_, m1⟩) (fun c1 => absurd c1 (by decide)) (fun c1 => ?_)
      have e11 : nI (qKn Q) - 1 = nI 11 := by rw [k12]; rfl
      have K2 := K.set (k := 102) (moC (qL Q, nI 11, nI (qMn Q), nI (qTn Q), qFp Q, qFk Q, bm) z) (by omega) (by omega)
      have m12 := hat_set m1 (c' := moC (qL Q, nI 11, nI (qMn Q), nI (qTn Q), qFp Q, qFk Q, bm) z)
      have f := fin _ g1 11 K2 (by omega) m12 (hat_ne m2 (by omega)) sS s0 sm (by rw [k12]; decide) (fun i hi => by
        have := sa i (by omega)
        rw [if_pos (by omega)] at this
        unfold keepA
        rw [if_neg (by omega), if_neg (by omega)]; exact this) (by unfold keepA; rw [if_neg (by omega), if_pos rfl])
      have ea : (1148 : Int32) + (574 : Int32) * (nI (qKn Q) - 1) = nI (1148 + 574 * 11) := by rw [e11]; exact act_ix (by omega)
      have e12 : (hset h1 102 (moC (qL Q, nI (qKn Q) - 1, nI (qMn Q), nI (qTn Q), qFp Q, qFk Q, bm) z)) = hset h1 102 (moC (qL Q, nI 11, nI (qMn Q), nI (qTn Q), qFp Q, qFk Q, bm) z) := by rw [e11]
      have gl := f (.int (nI 12))
      rw [← ea, ← e12] at gl
      exact gl
  · have c1 : qKn Q < 12 := by
      have : qKn Q ≠ 12 := fun e => c1 (by show nI (qKn Q) = _; rw [e]; rfl)
      omega
    have f := fin h g (qKn Q) (Kp.refl _ _ _) c1 m1 m2 sl.1 s0 sl.2.2 (by omega) (fun i hi => by
      unfold keepA
      rw [if_pos c1, if_neg (by omega)]; exact sl.2.1 i hi) (by unfold keepA; rw [if_pos c1, if_pos rfl]) ev_unk
    rw [← act_ix c1] at f
    exact f
end S49
