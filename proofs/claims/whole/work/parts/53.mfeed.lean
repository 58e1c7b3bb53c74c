/-! the model: feed -/
theorem b_Mo_four_0 {G : ev_G} {d k n : Nat} {h : ev_H} {R : Option Value → ev_H → Prop} {x1 : Int32}
  (k1 : Ev G d k n M_Mo_four 2 [.ref 102, .int x1, .int (3 : Int32)] [] h R)
  : Ev G d k n M_Mo_four 0 [.ref 102, .int x1, ev_unk] [] h R :=
  Ev.go (pc' := 2) (ls' := [.ref 102, .int x1, .int (3 : Int32)]) (st' := []) [.iconst 3, .istore_n 2] (by decide +kernel) rfl <|
  k1
theorem b_Mo_four_2 {G : ev_G} {d k n : Nat} {h : ev_H} {R : Option Value → ev_H → Prop} {x1 : Int32} {x2 : Int32} {f_status_1 : Int32} {f_acts_2 : Int32} {f_marks_3 : Int32} {f_taped_4 : Int32} {f_size_5 : Int32} {f_token_6 : Int32} {f_begin_7 : Int32} {f_end_8 : Int32} {f_faults_9 : Int32} {f_faultPlace_10 : Int32} {f_faultKind_11 : Int32} {f_deep_12 : Int32} {f_value_13 : Int64} {f_broadMany_14 : Int32} {g15 : Nat → Int32} {j16 : Nat}
  (a1 : hat h 102 (oC 9 [.ref 103, .int f_status_1, .int f_acts_2, .int f_marks_3, .ref 104, .ref 105, .ref 106, .int f_taped_4, .int f_size_5, .int f_token_6, .int f_begin_7, .int f_end_8, .int f_faults_9, .int f_faultPlace_10, .int f_faultKind_11, .int f_deep_12, .long f_value_13, .ref 107, .ref 108, .ref 109, .ref 116, .int f_broadMany_14, .ref 124, .ref 125]))
  (a2 : hat h 105 (aB 900 g15))
  (i3 : ¬ x2 < (0 : Int32) → ev_ix f_taped_4 j16 900)
  (k1 : x2 < (0 : Int32) → R none h)
  (k2 : ¬ x2 < (0 : Int32) → Ev G d k n M_Mo_four 2 [.ref 102, .int x1, .int (x2 + (-1 : Int32))] [] (hset (hset h 105 (aB 900 (upd g15 j16 (vp_nar .byte (x1 >>> (((8 : Int32) * x2) &&& 31)).toInt8.toInt32)))) 102 (oC 9 [.ref 103, .int f_status_1, .int f_acts_2, .int f_marks_3, .ref 104, .ref 105, .ref 106, .int (f_taped_4 + (1 : Int32)), .int f_size_5, .int f_token_6, .int f_begin_7, .int f_end_8, .int f_faults_9, .int f_faultPlace_10, .int f_faultKind_11, .int f_deep_12, .long f_value_13, .ref 107, .ref 108, .ref 109, .ref 116, .int f_broadMany_14, .ref 124, .ref 125])) R)
  : Ev G d k n M_Mo_four 2 [.ref 102, .int x1, .int x2] [] h R :=
  Ev.go (pc' := 3) (ls' := [.ref 102, .int x1, .int x2]) (st' := [.int x2]) [.iload_n 2] (by decide +kernel) rfl <|
  Ev.br (i := .ifCond .lt (35)) (P := x2 < (0 : Int32)) (t := 38) (f := 6) (r := []) (by decide +kernel) rfl (fun c1 =>
    Ev.ret (r := none) (Or.inr (Or.inr (Or.inl ⟨rfl, by decide +kernel, rfl⟩))) (k1 c1)
  ) (fun c1 =>
    Ev.go (pc' := 7) (ls' := [.ref 102, .int x1, .int x2]) (st' := [.ref 102]) [.aload_n 0] (by decide +kernel) rfl <|
    Ev.getf f_Mo_16 (by decide +kernel) a1 rfl <|
    Ev.go (pc' := 11) (ls' := [.ref 102, .int x1, .int x2]) (st' := [.ref 102, .ref 105]) [.aload_n 0] (by decide +kernel) rfl <|
    Ev.getf f_Mo_110 (by decide +kernel) a1 rfl <|
    Ev.go (pc' := 21) (ls' := [.ref 102, .int x1, .int x2]) (st' := [.int (x1 >>> (((8 : Int32) * x2) &&& 31)).toInt8.toInt32, .int f_taped_4, .ref 105]) [.iload_n 1, .bipush (8), .iload_n 2, .imul, .ishr, .i2b] (by decide +kernel) rfl <|
    Ev.bast (j := j16) (by decide +kernel) a2 (i3 c1) <| show Ev G d _ _ M_Mo_four 22 [.ref 102, .int x1, .int x2] [] (hset h 105 (aB 900 (upd g15 j16 (vp_nar .byte (x1 >>> (((8 : Int32) * x2) &&& 31)).toInt8.toInt32)))) R from
    Ev.go (pc' := 24) (ls' := [.ref 102, .int x1, .int x2]) (st' := [.ref 102, .ref 102]) [.aload_n 0, .dup] (by decide +kernel) rfl <|
    Ev.getf f_Mo_110 (by decide +kernel) (hat_ne a1 (by decide)) rfl <|
    Ev.go (pc' := 29) (ls' := [.ref 102, .int x1, .int x2]) (st' := [.int (f_taped_4 + (1 : Int32)), .ref 102]) [.iconst 1, .iadd] (by decide +kernel) rfl <|
    Ev.putf f_Mo_110 (by decide +kernel) (hat_ne a1 (by decide)) (Nat.le_of_ble_eq_true rfl) rfl (fun q => nomatch q) <| show Ev G d _ _ M_Mo_four 32 [.ref 102, .int x1, .int x2] [] (hset (hset h 105 (aB 900 (upd g15 j16 (vp_nar .byte (x1 >>> (((8 : Int32) * x2) &&& 31)).toInt8.toInt32)))) 102 (oC 9 [.ref 103, .int f_status_1, .int f_acts_2, .int f_marks_3, .ref 104, .ref 105, .ref 106, .int (f_taped_4 + (1 : Int32)), .int f_size_5, .int f_token_6, .int f_begin_7, .int f_end_8, .int f_faults_9, .int f_faultPlace_10, .int f_faultKind_11, .int f_deep_12, .long f_value_13, .ref 107, .ref 108, .ref 109, .ref 116, .int f_broadMany_14, .ref 124, .ref 125])) R from
    Ev.go (pc' := 2) (ls' := [.ref 102, .int x1, .int (x2 + (-1 : Int32))]) (st' := []) [.iinc 2 (-1), .goto (-33)] (by decide +kernel) rfl <|
    (k2 c1)
  )
theorem b_Mo_feed_0 {G : ev_G} {d k n : Nat} {h : ev_H} {R : Option Value → ev_H → Prop} {x1 : Int32} {x2 : Int32} {x3 : Int32} {x4 : Int32} {x5 : Int32} {f_status_1 : Int32} {f_acts_2 : Int32} {f_marks_3 : Int32} {f_taped_4 : Int32} {f_size_5 : Int32} {f_token_6 : Int32} {f_begin_7 : Int32} {f_end_8 : Int32} {f_faults_9 : Int32} {f_faultPlace_10 : Int32} {f_faultKind_11 : Int32} {f_deep_12 : Int32} {f_value_13 : Int64} {f_broadMany_14 : Int32}
  (a1 : hat h 102 (oC 9 [.ref 103, .int f_status_1, .int f_acts_2, .int f_marks_3, .ref 104, .ref 105, .ref 106, .int f_taped_4, .int f_size_5, .int f_token_6, .int f_begin_7, .int f_end_8, .int f_faults_9, .int f_faultPlace_10, .int f_faultKind_11, .int f_deep_12, .long f_value_13, .ref 107, .ref 108, .ref 109, .ref 116, .int f_broadMany_14, .ref 124, .ref 125]))
  (k1 : (880 : Int32) < f_taped_4 → R (some (.int (-1 : Int32))) h)
  (k2 : ¬ (880 : Int32) < f_taped_4 → Ev G d 0 0 M_Mo_four 0 [.ref 102, .int x1, ev_unk] [] h (fun r h1 => Ev G (d + 1) k n M_Mo_feed 17 [.ref 102, .int x1, .int x2, .int x3, .int x4, .int x5] (r.toList ++ []) h1 R))
  : Ev G (d + 1) k n M_Mo_feed 0 [.ref 102, .int x1, .int x2, .int x3, .int x4, .int x5] [] h R :=
  Ev.go (pc' := 1) (ls' := [.ref 102, .int x1, .int x2, .int x3, .int x4, .int x5]) (st' := [.ref 102]) [.aload_n 0] (by decide +kernel) rfl <|
  Ev.getf f_Mo_110 (by decide +kernel) a1 rfl <|
  Ev.go (pc' := 7) (ls' := [.ref 102, .int x1, .int x2, .int x3, .int x4, .int x5]) (st' := [.int (880 : Int32), .int f_taped_4]) [.sipush (880)] (by decide +kernel) rfl <|
  Ev.br (i := .if_icmp .le (5)) (P := (880 : Int32) < f_taped_4) (t := 10) (f := 12) (r := []) (by decide +kernel) rfl (fun c1 =>
    Ev.go (pc' := 11) (ls' := [.ref 102, .int x1, .int x2, .int x3, .int x4, .int x5]) (st' := [.int (-1 : Int32)]) [.iconst (-1)] (by decide +kernel) rfl <|
    Ev.ret (r := (some (.int (-1 : Int32)))) (Or.inl ⟨_, rfl, by decide +kernel, _, rfl, rfl⟩) (k1 c1)
  ) (fun c1 =>
    Ev.go (pc' := 14) (ls' := [.ref 102, .int x1, .int x2, .int x3, .int x4, .int x5]) (st' := [.int x1, .ref 102]) [.aload_n 0, .iload_n 1] (by decide +kernel) rfl <|
    Ev.cV0 (M' := M_Mo_four) (as := [.int x1]) (rest := []) l_Mo_113 M_Mo_four_ok M_Mo_four_in M_Mo_four_se (by decide +kernel) ⟨_, a1⟩ rfl rfl rfl (Nat.le_of_ble_eq_true rfl) (Nat.le_of_ble_eq_true rfl) (k2 c1)
  )
theorem b_Mo_feed_17 {G : ev_G} {d k n : Nat} {h : ev_H} {R : Option Value → ev_H → Prop} {x1 : Int32} {x2 : Int32} {x3 : Int32} {x4 : Int32} {x5 : Int32}
  (r1 : ∃ fs, hat h 102 (oC 9 fs))
  (k1 : Ev G d 0 0 M_Mo_four 0 [.ref 102, .int x2, ev_unk] [] h (fun r h1 => Ev G (d + 1) k n M_Mo_feed 22 [.ref 102, .int x1, .int x2, .int x3, .int x4, .int x5] (r.toList ++ []) h1 R))
  : Ev G (d + 1) k n M_Mo_feed 17 [.ref 102, .int x1, .int x2, .int x3, .int x4, .int x5] [] h R :=
  Ev.go (pc' := 19) (ls' := [.ref 102, .int x1, .int x2, .int x3, .int x4, .int x5]) (st' := [.int x2, .ref 102]) [.aload_n 0, .iload_n 2] (by decide +kernel) rfl <|
  Ev.cV0 (M' := M_Mo_four) (as := [.int x2]) (rest := []) l_Mo_113 M_Mo_four_ok M_Mo_four_in M_Mo_four_se (by decide +kernel) r1 rfl rfl rfl (Nat.le_of_ble_eq_true rfl) (Nat.le_of_ble_eq_true rfl) k1
theorem b_Mo_feed_22 {G : ev_G} {d k n : Nat} {h : ev_H} {R : Option Value → ev_H → Prop} {x1 : Int32} {x2 : Int32} {x3 : Int32} {x4 : Int32} {x5 : Int32}
  (r1 : ∃ fs, hat h 102 (oC 9 fs))
  (k1 : Ev G d 0 0 M_Mo_four 0 [.ref 102, .int x3, ev_unk] [] h (fun r h1 => Ev G (d + 1) k n M_Mo_feed 27 [.ref 102, .int x1, .int x2, .int x3, .int x4, .int x5] (r.toList ++ []) h1 R))
  : Ev G (d + 1) k n M_Mo_feed 22 [.ref 102, .int x1, .int x2, .int x3, .int x4, .int x5] [] h R :=
  Ev.go (pc' := 24) (ls' := [.ref 102, .int x1, .int x2, .int x3, .int x4, .int x5]) (st' := [.int x3, .ref 102]) [.aload_n 0, .iload_n 3] (by decide +kernel) rfl <|
  Ev.cV0 (M' := M_Mo_four) (as := [.int x3]) (rest := []) l_Mo_113 M_Mo_four_ok M_Mo_four_in M_Mo_four_se (by decide +kernel) r1 rfl rfl rfl (Nat.le_of_ble_eq_true rfl) (Nat.le_of_ble_eq_true rfl) k1
theorem b_Mo_feed_27 {G : ev_G} {d k n : Nat} {h : ev_H} {R : Option Value → ev_H → Prop} {x1 : Int32} {x2 : Int32} {x3 : Int32} {x4 : Int32} {x5 : Int32}
  (r1 : ∃ fs, hat h 102 (oC 9 fs))
  (k1 : Ev G d 0 0 M_Mo_four 0 [.ref 102, .int x4, ev_unk] [] h (fun r h1 => Ev G (d + 1) k n M_Mo_feed 33 [.ref 102, .int x1, .int x2, .int x3, .int x4, .int x5] (r.toList ++ []) h1 R))
  : Ev G (d + 1) k n M_Mo_feed 27 [.ref 102, .int x1, .int x2, .int x3, .int x4, .int x5] [] h R :=
  Ev.go (pc' := 30) (ls' := [.ref 102, .int x1, .int x2, .int x3, .int x4, .int x5]) (st' := [.int x4, .ref 102]) [.aload_n 0, .iload 4] (by decide +kernel) rfl <|
  Ev.cV0 (M' := M_Mo_four) (as := [.int x4]) (rest := []) l_Mo_113 M_Mo_four_ok M_Mo_four_in M_Mo_four_se (by decide +kernel) r1 rfl rfl rfl (Nat.le_of_ble_eq_true rfl) (Nat.le_of_ble_eq_true rfl) k1
theorem b_Mo_feed_33 {G : ev_G} {d k n : Nat} {h : ev_H} {R : Option Value → ev_H → Prop} {x1 : Int32} {x2 : Int32} {x3 : Int32} {x4 : Int32} {x5 : Int32}
  (r1 : ∃ fs, hat h 102 (oC 9 fs))
  (k1 : Ev G d 0 0 M_Mo_four 0 [.ref 102, .int x5, ev_unk] [] h (fun r h1 => Ev G (d + 1) k n M_Mo_feed 39 [.ref 102, .int x1, .int x2, .int x3, .int x4, .int x5] (r.toList ++ []) h1 R))
  : Ev G (d + 1) k n M_Mo_feed 33 [.ref 102, .int x1, .int x2, .int x3, .int x4, .int x5] [] h R :=
  Ev.go (pc' := 36) (ls' := [.ref 102, .int x1, .int x2, .int x3, .int x4, .int x5]) (st' := [.int x5, .ref 102]) [.aload_n 0, .iload 5] (by decide +kernel) rfl <|
  Ev.cV0 (M' := M_Mo_four) (as := [.int x5]) (rest := []) l_Mo_113 M_Mo_four_ok M_Mo_four_in M_Mo_four_se (by decide +kernel) r1 rfl rfl rfl (Nat.le_of_ble_eq_true rfl) (Nat.le_of_ble_eq_true rfl) k1
theorem b_Mo_feed_39 {G : ev_G} {d k n : Nat} {h : ev_H} {R : Option Value → ev_H → Prop} {x1 : Int32} {x2 : Int32} {x3 : Int32} {x4 : Int32} {x5 : Int32} {f_status_1 : Int32} {f_acts_2 : Int32} {f_marks_3 : Int32} {f_taped_4 : Int32} {f_size_5 : Int32} {f_token_6 : Int32} {f_begin_7 : Int32} {f_end_8 : Int32} {f_faults_9 : Int32} {f_faultPlace_10 : Int32} {f_faultKind_11 : Int32} {f_deep_12 : Int32} {f_value_13 : Int64} {f_broadMany_14 : Int32}
  (a1 : hat h 102 (oC 9 [.ref 103, .int f_status_1, .int f_acts_2, .int f_marks_3, .ref 104, .ref 105, .ref 106, .int f_taped_4, .int f_size_5, .int f_token_6, .int f_begin_7, .int f_end_8, .int f_faults_9, .int f_faultPlace_10, .int f_faultKind_11, .int f_deep_12, .long f_value_13, .ref 107, .ref 108, .ref 109, .ref 116, .int f_broadMany_14, .ref 124, .ref 125]))
  (k1 : R (some (.int f_taped_4)) h)
  : Ev G (d + 1) k n M_Mo_feed 39 [.ref 102, .int x1, .int x2, .int x3, .int x4, .int x5] [] h R :=
  Ev.go (pc' := 40) (ls' := [.ref 102, .int x1, .int x2, .int x3, .int x4, .int x5]) (st' := [.ref 102]) [.aload_n 0] (by decide +kernel) rfl <|
  Ev.getf f_Mo_110 (by decide +kernel) a1 rfl <|
  Ev.ret (r := (some (.int f_taped_4))) (Or.inl ⟨_, rfl, by decide +kernel, _, rfl, rfl⟩) k1
section S53
variable {G : ev_G} {d : Nat} {h : ev_H} {R : Option Value → ev_H → Prop} {Q : QS}
def fdQ (Q : QS) (x : Int32) : QS := (qS Q, Q.2.1, Q.2.2.1, (qTn Q + 4, tp4 (qTg Q) (qTn Q) x), Q.2.2.2.2)
/-- one byte more -/
def tpo (Q : QS) (y : Int32) : QS := (qS Q, Q.2.1, Q.2.2.1, (qTn Q + 1, upd (qTg Q) (qTn Q) y), Q.2.2.2.2)
theorem MR.fdo {bm : Int32} {z : MP} {x s : Int32} (H : MR h Q) (m1 : hat h 102 (moC (moQ Q bm) z)) (hn : qTn Q < 900) : MR (hset (hset h 105 (aB 900 (upd (qTg Q) (qTn Q) (byN x s)))) 102 (moC (moQ (tpo Q (byN x s)) bm) z)) (tpo Q (byN x s)) ∧ hat (hset (hset h 105 (aB 900 (upd (qTg Q) (qTn Q) (byN x s)))) 102 (moC (moQ (tpo Q (byN x s)) bm) z)) 102 (moC (moQ (tpo Q (byN x s)) bm) z) := by
  obtain ⟨⟨q1, q2, q3, q4, q5, q6, q7⟩, -, ⟨g, m2, sl⟩, t, X, n⟩ := H
  have K5 : Kp h (hset h 105 (aB 900 (upd (qTg Q) (qTn Q) (byN x s)))) 105 106 := (Kp.refl h 105 106).set _ (by omega) (by omega)
  have K6 : Kp (hset h 105 (aB 900 (upd (qTg Q) (qTn Q) (byN x s)))) (hset (hset h 105 (aB 900 (upd (qTg Q) (qTn Q) (byN x s)))) 102 (moC (moQ (tpo Q (byN x s)) bm) z)) 102 103 := (Kp.refl _ 102 103).set _ (by omega) (by omega)
  have m12 := hat_set (K5.hat m1 (by omega)) (c' := moC (moQ (tpo Q (byN x s)) bm) z)
  refine ⟨⟨⟨q1, q2, q3, q4, q5, by show qTn Q + 1 ≤ 900; omega, fun k hk => ?_⟩, ⟨bm, z, m12⟩, ⟨g, K6.hat (K5.hat m2 (by omega)) (by omega), sl⟩, K6.hat (hat_set t) (by omega), ?_, n⟩, m12⟩
  · have hk : k < qTn Q + 1 := hk
    show ∃ b, b < 256 ∧ (if k = qTn Q then byN x s else qTg Q k) = _
    split
    · exact byN_ex x s
    · exact q7 k (by omega)
  · obtain ⟨⟨g1, a1⟩, ⟨g2, a2⟩, ⟨g3, a3⟩, ⟨g4, a4⟩, a5, a6, a7, a8, ⟨g9, a9⟩, ⟨g10, a10⟩⟩ := X
    exact ⟨⟨_, K6.hat (K5.hat a1 (by omega)) (by omega)⟩, ⟨_, K6.hat (K5.hat a2 (by omega)) (by omega)⟩, ⟨_, K6.hat (K5.hat a3 (by omega)) (by omega)⟩, ⟨_, K6.hat (K5.hat a4 (by omega)) (by omega)⟩, K6.hat (K5.hat a5 (by omega)) (by omega), fun i hi => ⟨_, K6.hat (K5.hat (a6 i hi).choose_spec (by omega)) (by omega)⟩, K6.hat (K5.hat a7 (by omega)) (by omega), fun i hi => ⟨_, K6.hat (K5.hat (a8 i hi).choose_spec (by omega)) (by omega)⟩, ⟨_, K6.hat (K5.hat a9 (by omega)) (by omega)⟩, ⟨_, K6.hat (K5.hat a10 (by omega)) (by omega)⟩⟩
theorem s_fdo {bm : Int32} {z : MP} {x k s : Int32} (H : MR h Q) (m1 : hat h 102 (moC (moQ Q bm) z)) (hn : qTn Q < 900) (hk : ¬ k < 0) (es : (8 : Int32) * k = s) (hR : ∀ h', Kp h h' 102 126 → MR h' (tpo Q (byN x s)) → hat h' 102 (moC (moQ (tpo Q (byN x s)) bm) z) → Ev G d 0 0 M_Mo_four 2 [.ref 102, .int x, .int (k + (-1 : Int32))] [] h' R) : Ev G d 0 0 M_Mo_four 2 [.ref 102, .int x, .int k] [] h R := by
  subst es
  have q := H.fdo (x := x) (s := 8 * k) m1 hn
  refine b_Mo_four_2 (j16 := qTn Q) m1 H.2.2.2.1 (fun _ => ixn hn (by omega)) (fun c => absurd c hk) (fun _ => ?_)
  have K : Kp h (hset (hset h 105 (aB 900 (upd (qTg Q) (qTn Q) (byN x (8 * k))))) 102 (moC (moQ (tpo Q (byN x (8 * k))) bm) z)) 102 126 := ((Kp.refl h 102 126).set _ (by omega) (by omega)).set _ (by omega) (by omega)
  have := hR _ K q.1 q.2
  have e : moC (moQ (tpo Q (byN x (8 * k))) bm) z = moC (qL Q, nI (qKn Q), nI (qMn Q), nI (qTn Q) + 1, qFp Q, qFk Q, bm) z := by
    show moC (qL Q, nI (qKn Q), nI (qMn Q), nI (qTn Q + 1), qFp Q, qFk Q, bm) z = _
    rw [← nI_1]
  rw [e] at this
  exact this
theorem s_four {bm : Int32} {z : MP} {x : Int32} (H : MR h Q) (m1 : hat h 102 (moC (moQ Q bm) z)) (hn : qTn Q + 4 ≤ 900) (hR : ∀ h', Kp h h' 102 126 → MR h' (fdQ Q x) → hat h' 102 (moC (moQ (fdQ Q x) bm) z) → R none h') : Ev G d 0 0 M_Mo_four 0 [.ref 102, .int x, ev_unk] [] h R := by
  refine b_Mo_four_0 ?_
  refine s_fdo (s := 24) H m1 (by omega) (by decide) (by decide) fun h1 K1 H1 m1 => ?_
  refine s_fdo (s := 16) H1 m1 (by show qTn Q + 1 < 900; omega) (by decide) (by decide) fun h2 K2 H2 m1 => ?_
  refine s_fdo (s := 8) H2 m1 (by show qTn Q + 1 + 1 < 900; omega) (by decide) (by decide) fun h3 K3 H3 m1 => ?_
  refine s_fdo (s := 0) H3 m1 (by show qTn Q + 1 + 1 + 1 < 900; omega) (by decide) (by decide) fun h4 K4 H4 m1 => ?_
  refine b_Mo_four_2 (j16 := 0) m1 H4.2.2.2.1 (fun c => absurd (by decide) c) (fun _ => ?_) (fun c => absurd (by decide) c)
  exact hR h4 (((K1.trans K2).trans K3).trans K4) H4 m1
theorem s_Mo_feed2 {x1 x2 x3 x4 x5 : Int32} (H : MR h Q) (hR : ∀ h', Kp h h' 102 126 → MR h' (a_feed Q x1 x2 x3 x4 x5).2 → R (some (.int (a_feed Q x1 x2 x3 x4 x5).1)) h') : Ev G (d + 1) 0 0 M_Mo_feed 0 [.ref 102, .int x1, .int x2, .int x3, .int x4, .int x5] [] h R := by
  obtain ⟨bm, z, m1⟩ := H.2.1
  have tn9 := H.1.2.2.2.2.2.1
  have lt : (880 : Int32) < nI (qTn Q) ↔ 880 < qTn Q := nI_ltI (a := 880) (by omega) (by omega)
  refine b_Mo_feed_0 m1 (fun c => ?_) (fun c => ?_)
  · unfold a_feed at hR; rw [if_pos (lt.mp c)] at hR
    exact hR h (Kp.refl _ _ _) H
  · have c : ¬ 880 < qTn Q := fun z => c (lt.mpr z)
    unfold a_feed at hR; rw [if_neg c] at hR
    refine s_four H m1 (by omega) fun h1 K1 H1 m1 => ?_
    refine b_Mo_feed_17 ⟨_, m1⟩ ?_
    refine s_four H1 m1 (by show qTn Q + 4 + 4 ≤ 900; omega) fun h2 K2 H2 m1 => ?_
    refine b_Mo_feed_22 ⟨_, m1⟩ ?_
    refine s_four H2 m1 (by show qTn Q + 4 + 4 + 4 ≤ 900; omega) fun h3 K3 H3 m1 => ?_
    refine b_Mo_feed_27 ⟨_, m1⟩ ?_
    refine s_four H3 m1 (by show qTn Q + 4 + 4 + 4 + 4 ≤ 900; omega) fun h4 K4 H4 m1 => ?_
    refine b_Mo_feed_33 ⟨_, m1⟩ ?_
    refine s_four H4 m1 (by show qTn Q + 4 + 4 + 4 + 4 + 4 ≤ 900; omega) fun h5 K5 H5 m1 => ?_
    refine b_Mo_feed_39 m1 ?_
    exact hR h5 ((((K1.trans K2).trans K3).trans K4).trans K5) H5
end S53
