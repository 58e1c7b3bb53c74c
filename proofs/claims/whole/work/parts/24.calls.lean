/-! THE CALLS -/
theorem b_X_status_0 {G : ev_G} {d k n : Nat} {h : ev_H} {R : Option Value → ev_H → Prop} {f_latest_1 : Int32} {f_faultKind_2 : Int32} {f_faultPlace_3 : Int32}
  (a1 : hat h 0 (oC 8 [.ref 1, .ref 5, .ref 18, .ref 81, .ref 98, .int f_latest_1, .int f_faultKind_2, .int f_faultPlace_3]))
  (k1 : R (some (.int f_latest_1)) h)
  : Ev G d k n M_X_status 0 [.ref 0] [] h R :=
  Ev.go (pc' := 1) (ls' := [.ref 0]) (st' := [.ref 0]) [.aload_n 0] (by decide +kernel) rfl <|
  Ev.getf f_X_44 (by decide +kernel) a1 rfl <|
  Ev.ret (r := (some (.int f_latest_1))) (Or.inl ⟨_, rfl, by decide +kernel, _, rfl, rfl⟩) k1
theorem b_X_feed_0 {G : ev_G} {d k n : Nat} {h : ev_H} {R : Option Value → ev_H → Prop} {x1 : Int32} {x2 : Int32} {x3 : Int32} {x4 : Int32} {x5 : Int32} {f_latest_1 : Int32} {f_faultKind_2 : Int32} {f_faultPlace_3 : Int32} {f_length_4 : Int32} {f_kind_5 : Int32} {f_start_6 : Int32} {f_end_7 : Int32} {f_size_8 : Int32}
  (a1 : hat h 0 (oC 8 [.ref 1, .ref 5, .ref 18, .ref 81, .ref 98, .int f_latest_1, .int f_faultKind_2, .int f_faultPlace_3]))
  (a2 : hat h 5 (oC 4 [.ref 6, .ref 12, .ref 14, .ref 13, .int f_length_4, .int f_kind_5, .int f_start_6, .int f_end_7]))
  (a3 : hat h 12 (oC 7 [.ref 13, .int f_size_8]))
  (k1 : (900 : Int32) < (f_size_8 + (20 : Int32)) → R (some (.int (-1 : Int32))) h)
  (k2 : ¬ (900 : Int32) < (f_size_8 + (20 : Int32)) → Ev G d 0 0 M_Ta_put 0 [.ref 12, .int x1, ev_unk] [] h (fun r h1 => Ev G (d + 1) k n M_X_feed 31 [.ref 0, .int x1, .int x2, .int x3, .int x4, .int x5, .ref 12] (r.toList ++ []) h1 R))
  : Ev G (d + 1) k n M_X_feed 0 [.ref 0, .int x1, .int x2, .int x3, .int x4, .int x5, ev_unk] [] h R :=
  Ev.go (pc' := 1) (ls' := [.ref 0, .int x1, .int x2, .int x3, .int x4, .int x5, ev_unk]) (st' := [.ref 0]) [.aload_n 0] (by decide +kernel) rfl <|
  Ev.getf f_X_19 (by decide +kernel) a1 rfl <|
  Ev.getf f_X_54 (by decide +kernel) a2 rfl <|
  Ev.go (pc' := 11) (ls' := [.ref 0, .int x1, .int x2, .int x3, .int x4, .int x5, .ref 12]) (st' := [.ref 12]) [.astore 6, .aload 6] (by decide +kernel) rfl <|
  Ev.getf f_X_58 (by decide +kernel) a3 rfl <|
  Ev.go (pc' := 20) (ls' := [.ref 0, .int x1, .int x2, .int x3, .int x4, .int x5, .ref 12]) (st' := [.int (900 : Int32), .int (f_size_8 + (20 : Int32))]) [.bipush (20), .iadd, .sipush (900)] (by decide +kernel) rfl <|
  Ev.br (i := .if_icmp .le (5)) (P := (900 : Int32) < (f_size_8 + (20 : Int32))) (t := 23) (f := 25) (r := []) (by decide +kernel) rfl (fun c1 =>
    Ev.go (pc' := 24) (ls' := [.ref 0, .int x1, .int x2, .int x3, .int x4, .int x5, .ref 12]) (st' := [.int (-1 : Int32)]) [.iconst (-1)] (by decide +kernel) rfl <|
    Ev.ret (r := (some (.int (-1 : Int32)))) (Or.inl ⟨_, rfl, by decide +kernel, _, rfl, rfl⟩) (k1 c1)
  ) (fun c1 =>
    Ev.go (pc' := 28) (ls' := [.ref 0, .int x1, .int x2, .int x3, .int x4, .int x5, .ref 12]) (st' := [.int x1, .ref 12]) [.aload 6, .iload_n 1] (by decide +kernel) rfl <|
    Ev.cV0 (M' := M_Ta_put) (as := [.int x1]) (rest := []) l_X_63 M_Ta_put_ok M_Ta_put_in M_Ta_put_se (by decide +kernel) ⟨_, a3⟩ rfl rfl rfl (Nat.le_of_ble_eq_true rfl) (Nat.le_of_ble_eq_true rfl) (k2 c1)
  )
theorem b_X_feed_31 {G : ev_G} {d k n : Nat} {h : ev_H} {R : Option Value → ev_H → Prop} {x1 : Int32} {x2 : Int32} {x3 : Int32} {x4 : Int32} {x5 : Int32}
  (r1 : ∃ fs, hat h 12 (oC 7 fs))
  (k1 : Ev G d 0 0 M_Ta_put 0 [.ref 12, .int x2, ev_unk] [] h (fun r h1 => Ev G (d + 1) k n M_X_feed 37 [.ref 0, .int x1, .int x2, .int x3, .int x4, .int x5, .ref 12] (r.toList ++ []) h1 R))
  : Ev G (d + 1) k n M_X_feed 31 [.ref 0, .int x1, .int x2, .int x3, .int x4, .int x5, .ref 12] [] h R :=
  Ev.go (pc' := 34) (ls' := [.ref 0, .int x1, .int x2, .int x3, .int x4, .int x5, .ref 12]) (st' := [.int x2, .ref 12]) [.aload 6, .iload_n 2] (by decide +kernel) rfl <|
  Ev.cV0 (M' := M_Ta_put) (as := [.int x2]) (rest := []) l_X_63 M_Ta_put_ok M_Ta_put_in M_Ta_put_se (by decide +kernel) r1 rfl rfl rfl (Nat.le_of_ble_eq_true rfl) (Nat.le_of_ble_eq_true rfl) k1
theorem b_X_feed_37 {G : ev_G} {d k n : Nat} {h : ev_H} {R : Option Value → ev_H → Prop} {x1 : Int32} {x2 : Int32} {x3 : Int32} {x4 : Int32} {x5 : Int32}
  (r1 : ∃ fs, hat h 12 (oC 7 fs))
  (k1 : Ev G d 0 0 M_Ta_put 0 [.ref 12, .int x3, ev_unk] [] h (fun r h1 => Ev G (d + 1) k n M_X_feed 43 [.ref 0, .int x1, .int x2, .int x3, .int x4, .int x5, .ref 12] (r.toList ++ []) h1 R))
  : Ev G (d + 1) k n M_X_feed 37 [.ref 0, .int x1, .int x2, .int x3, .int x4, .int x5, .ref 12] [] h R :=
  Ev.go (pc' := 40) (ls' := [.ref 0, .int x1, .int x2, .int x3, .int x4, .int x5, .ref 12]) (st' := [.int x3, .ref 12]) [.aload 6, .iload_n 3] (by decide +kernel) rfl <|
  Ev.cV0 (M' := M_Ta_put) (as := [.int x3]) (rest := []) l_X_63 M_Ta_put_ok M_Ta_put_in M_Ta_put_se (by decide +kernel) r1 rfl rfl rfl (Nat.le_of_ble_eq_true rfl) (Nat.le_of_ble_eq_true rfl) k1
theorem b_X_feed_43 {G : ev_G} {d k n : Nat} {h : ev_H} {R : Option Value → ev_H → Prop} {x1 : Int32} {x2 : Int32} {x3 : Int32} {x4 : Int32} {x5 : Int32}
  (r1 : ∃ fs, hat h 12 (oC 7 fs))
  (k1 : Ev G d 0 0 M_Ta_put 0 [.ref 12, .int x4, ev_unk] [] h (fun r h1 => Ev G (d + 1) k n M_X_feed 50 [.ref 0, .int x1, .int x2, .int x3, .int x4, .int x5, .ref 12] (r.toList ++ []) h1 R))
  : Ev G (d + 1) k n M_X_feed 43 [.ref 0, .int x1, .int x2, .int x3, .int x4, .int x5, .ref 12] [] h R :=
  Ev.go (pc' := 47) (ls' := [.ref 0, .int x1, .int x2, .int x3, .int x4, .int x5, .ref 12]) (st' := [.int x4, .ref 12]) [.aload 6, .iload 4] (by decide +kernel) rfl <|
  Ev.cV0 (M' := M_Ta_put) (as := [.int x4]) (rest := []) l_X_63 M_Ta_put_ok M_Ta_put_in M_Ta_put_se (by decide +kernel) r1 rfl rfl rfl (Nat.le_of_ble_eq_true rfl) (Nat.le_of_ble_eq_true rfl) k1
theorem b_X_feed_50 {G : ev_G} {d k n : Nat} {h : ev_H} {R : Option Value → ev_H → Prop} {x1 : Int32} {x2 : Int32} {x3 : Int32} {x4 : Int32} {x5 : Int32}
  (r1 : ∃ fs, hat h 12 (oC 7 fs))
  (k1 : Ev G d 0 0 M_Ta_put 0 [.ref 12, .int x5, ev_unk] [] h (fun r h1 => Ev G (d + 1) k n M_X_feed 57 [.ref 0, .int x1, .int x2, .int x3, .int x4, .int x5, .ref 12] (r.toList ++ []) h1 R))
  : Ev G (d + 1) k n M_X_feed 50 [.ref 0, .int x1, .int x2, .int x3, .int x4, .int x5, .ref 12] [] h R :=
  Ev.go (pc' := 54) (ls' := [.ref 0, .int x1, .int x2, .int x3, .int x4, .int x5, .ref 12]) (st' := [.int x5, .ref 12]) [.aload 6, .iload 5] (by decide +kernel) rfl <|
  Ev.cV0 (M' := M_Ta_put) (as := [.int x5]) (rest := []) l_X_63 M_Ta_put_ok M_Ta_put_in M_Ta_put_se (by decide +kernel) r1 rfl rfl rfl (Nat.le_of_ble_eq_true rfl) (Nat.le_of_ble_eq_true rfl) k1
theorem b_X_feed_57 {G : ev_G} {d k n : Nat} {h : ev_H} {R : Option Value → ev_H → Prop} {x1 : Int32} {x2 : Int32} {x3 : Int32} {x4 : Int32} {x5 : Int32} {f_size_1 : Int32}
  (a1 : hat h 12 (oC 7 [.ref 13, .int f_size_1]))
  (k1 : R (some (.int f_size_1)) h)
  : Ev G (d + 1) k n M_X_feed 57 [.ref 0, .int x1, .int x2, .int x3, .int x4, .int x5, .ref 12] [] h R :=
  Ev.go (pc' := 59) (ls' := [.ref 0, .int x1, .int x2, .int x3, .int x4, .int x5, .ref 12]) (st' := [.ref 12]) [.aload 6] (by decide +kernel) rfl <|
  Ev.getf f_X_58 (by decide +kernel) a1 rfl <|
  Ev.ret (r := (some (.int f_size_1))) (Or.inl ⟨_, rfl, by decide +kernel, _, rfl, rfl⟩) k1
theorem b_X_refuse_0 {G : ev_G} {d k n : Nat} {h : ev_H} {R : Option Value → ev_H → Prop} {x1 : Int32} {f_latest_1 : Int32} {f_faultKind_2 : Int32} {f_faultPlace_3 : Int32}
  (a1 : hat h 0 (oC 8 [.ref 1, .ref 5, .ref 18, .ref 81, .ref 98, .int f_latest_1, .int f_faultKind_2, .int f_faultPlace_3]))
  (k1 : R (some (.int (-1 : Int32))) (hset h 0 (oC 8 [.ref 1, .ref 5, .ref 18, .ref 81, .ref 98, .int x1, .int f_faultKind_2, .int f_faultPlace_3])))
  : Ev G d k n M_X_refuse 0 [.ref 0, .int x1] [] h R :=
  Ev.go (pc' := 2) (ls' := [.ref 0, .int x1]) (st' := [.int x1, .ref 0]) [.aload_n 0, .iload_n 1] (by decide +kernel) rfl <|
  Ev.putf f_X_44 (by decide +kernel) a1 (Nat.le_of_ble_eq_true rfl) rfl (fun q => nomatch q) <| show Ev G d _ _ M_X_refuse 5 [.ref 0, .int x1] [] (hset h 0 (oC 8 [.ref 1, .ref 5, .ref 18, .ref 81, .ref 98, .int x1, .int f_faultKind_2, .int f_faultPlace_3])) R from
  Ev.go (pc' := 6) (ls' := [.ref 0, .int x1]) (st' := [.int (-1 : Int32)]) [.iconst (-1)] (by decide +kernel) rfl <|
  Ev.ret (r := (some (.int (-1 : Int32)))) (Or.inl ⟨_, rfl, by decide +kernel, _, rfl, rfl⟩) k1
theorem b_X_answer_0 {G : ev_G} {d k n : Nat} {h : ev_H} {R : Option Value → ev_H → Prop} {x1 : Int32} {f_latest_1 : Int32} {f_faultKind_2 : Int32} {f_faultPlace_3 : Int32}
  (a1 : hat h 0 (oC 8 [.ref 1, .ref 5, .ref 18, .ref 81, .ref 98, .int f_latest_1, .int f_faultKind_2, .int f_faultPlace_3]))
  (k1 : R (some (.int x1)) (hset h 0 (oC 8 [.ref 1, .ref 5, .ref 18, .ref 81, .ref 98, .int (0 : Int32), .int f_faultKind_2, .int f_faultPlace_3])))
  : Ev G d k n M_X_answer 0 [.ref 0, .int x1] [] h R :=
  Ev.go (pc' := 2) (ls' := [.ref 0, .int x1]) (st' := [.int (0 : Int32), .ref 0]) [.aload_n 0, .iconst 0] (by decide +kernel) rfl <|
  Ev.putf f_X_44 (by decide +kernel) a1 (Nat.le_of_ble_eq_true rfl) rfl (fun q => nomatch q) <| show Ev G d _ _ M_X_answer 5 [.ref 0, .int x1] [] (hset h 0 (oC 8 [.ref 1, .ref 5, .ref 18, .ref 81, .ref 98, .int (0 : Int32), .int f_faultKind_2, .int f_faultPlace_3])) R from
  Ev.go (pc' := 6) (ls' := [.ref 0, .int x1]) (st' := [.int x1]) [.iload_n 1] (by decide +kernel) rfl <|
  Ev.ret (r := (some (.int x1))) (Or.inl ⟨_, rfl, by decide +kernel, _, rfl, rfl⟩) k1
theorem b_X_answerLong_0 {G : ev_G} {d k n : Nat} {h : ev_H} {R : Option Value → ev_H → Prop} {x1 : Int64} {f_latest_1 : Int32} {f_faultKind_2 : Int32} {f_faultPlace_3 : Int32}
  (a1 : hat h 0 (oC 8 [.ref 1, .ref 5, .ref 18, .ref 81, .ref 98, .int f_latest_1, .int f_faultKind_2, .int f_faultPlace_3]))
  (k1 : R (some (.long x1)) (hset h 0 (oC 8 [.ref 1, .ref 5, .ref 18, .ref 81, .ref 98, .int (0 : Int32), .int f_faultKind_2, .int f_faultPlace_3])))
  : Ev G d k n M_X_answerLong 0 [.ref 0, .long x1, ev_unk] [] h R :=
  Ev.go (pc' := 2) (ls' := [.ref 0, .long x1, ev_unk]) (st' := [.int (0 : Int32), .ref 0]) [.aload_n 0, .iconst 0] (by decide +kernel) rfl <|
  Ev.putf f_X_44 (by decide +kernel) a1 (Nat.le_of_ble_eq_true rfl) rfl (fun q => nomatch q) <| show Ev G d _ _ M_X_answerLong 5 [.ref 0, .long x1, ev_unk] [] (hset h 0 (oC 8 [.ref 1, .ref 5, .ref 18, .ref 81, .ref 98, .int (0 : Int32), .int f_faultKind_2, .int f_faultPlace_3])) R from
  Ev.go (pc' := 6) (ls' := [.ref 0, .long x1, ev_unk]) (st' := [.long x1]) [.lload_n 1] (by decide +kernel) rfl <|
  Ev.ret (r := (some (.long x1))) (Or.inr (Or.inl ⟨_, rfl, by decide +kernel, rfl⟩)) k1
/-- the reader's own cells -/
def ReR (h : ev_H) : Prop := ∃ l k s e : Int32, hat h 5 (oC 4 [.ref 6, .ref 12, .ref 14, .ref 13, .int l, .int k, .int s, .int e])
section S24
variable {G : ev_G} {d : Nat} {h : ev_H} {R : Option Value → ev_H → Prop} {S : AS} {lt0 fk fp : Int32}
theorem s_X_status (hX : XO h lt0 fk fp) (hR : R (some (.int lt0)) h) : Ev G d 0 0 M_X_status 0 [.ref 0] [] h R := b_X_status_0 hX hR
theorem s_X_refuse {x : Int32} (hX : XO h lt0 fk fp) (hR : ∀ h', Kp h h' 0 1 → XO h' x fk fp → R (some (.int (-1))) h') : Ev G d 0 0 M_X_refuse 0 [.ref 0, .int x] [] h R :=
  b_X_refuse_0 hX (hR _ ((Kp.refl h 0 1).set _ (by omega) (by omega)) ⟨hX.1, hset_eq _ _ _⟩)
theorem s_X_answer {x : Int32} (hX : XO h lt0 fk fp) (hR : ∀ h', Kp h h' 0 1 → XO h' 0 fk fp → R (some (.int x)) h') : Ev G d 0 0 M_X_answer 0 [.ref 0, .int x] [] h R :=
  b_X_answer_0 hX (hR _ ((Kp.refl h 0 1).set _ (by omega) (by omega)) ⟨hX.1, hset_eq _ _ _⟩)
theorem s_X_answerLong {x : Int64} (hX : XO h lt0 fk fp) (hR : ∀ h', Kp h h' 0 1 → XO h' 0 fk fp → R (some (.long x)) h') : Ev G d 0 0 M_X_answerLong 0 [.ref 0, .long x, ev_unk] [] h R :=
  b_X_answerLong_0 hX (hR _ ((Kp.refl h 0 1).set _ (by omega) (by omega)) ⟨hX.1, hset_eq _ _ _⟩)
def tp20 (g : Nat → Int32) (n : Nat) (a b c d e : Int32) : Nat → Int32 := tp4 (tp4 (tp4 (tp4 (tp4 g n a) (n + 4) b) (n + 8) c) (n + 12) d) (n + 16) e
theorem s_X_feed {n : Nat} {g : Nat → Int32} {x1 x2 x3 x4 x5 : Int32} (hX : XO h lt0 fk fp) (hE : ReR h) (hT : TaR h n g) (hn : n ≤ 900) (hR1 : 880 < n → R (some (.int (-1))) h) (hR2 : n ≤ 880 → ∀ h', Kp h h' 12 14 → TaR h' (n + 20) (tp20 g n x1 x2 x3 x4 x5) → R (some (.int (nI (n + 20)))) h') : Ev G (d + 1) 0 0 M_X_feed 0 [.ref 0, .int x1, .int x2, .int x3, .int x4, .int x5, ev_unk] [] h R := by
  obtain ⟨l, k, s, e, hE⟩ := hE
  have e20 : nI n + (20 : Int32) = nI (n + 20) := nI_add n 20
  refine b_X_feed_0 hX hE hT.1 (fun q => ?_) (fun q => ?_)
  · rw [e20] at q
    exact hR1 (by have := (nI_ltI (a := 900) (by decide) (by omega)).mp q; omega)
  · rw [e20] at q
    have hl : n ≤ 880 := by
      rcases Nat.lt_or_ge 880 n with z | z
      · exact absurd (nI_lt (a := 900) (show 900 < n + 20 by omega) (by omega)) q
      · exact z
    refine s_Ta_put hT (by omega) fun h1 K1 T1 => b_X_feed_31 ⟨_, T1.1⟩ ?_
    refine s_Ta_put T1 (by omega) fun h2 K2 T2 => b_X_feed_37 ⟨_, T2.1⟩ ?_
    refine s_Ta_put T2 (by omega) fun h3 K3 T3 => b_X_feed_43 ⟨_, T3.1⟩ ?_
    refine s_Ta_put T3 (by omega) fun h4 K4 T4 => b_X_feed_50 ⟨_, T4.1⟩ ?_
    refine s_Ta_put T4 (by omega) fun h5 K5 T5 => b_X_feed_57 T5.1 ?_
    exact hR2 hl h5 ((((K1.trans K2).trans K3).trans K4).trans K5) T5
/-- the object with another status -/
def xoS (h : ev_H) (x fk fp : Int32) : ev_H := hset h 0 (oC 8 [.ref 1, .ref 5, .ref 18, .ref 81, .ref 98, .int x, .int fk, .int fp])
theorem xoS_kp (h : ev_H) (x fk fp : Int32) : Kp h (xoS h x fk fp) 0 1 := (Kp.refl h 0 1).set _ (by omega) (by omega)
theorem xoS_xo {x : Int32} (hX : XO h lt0 fk fp) : XO (xoS h x fk fp) x fk fp := ⟨hX.1, hset_eq _ _ _⟩
theorem s_X_refuse' {x : Int32} (hX : XO h lt0 fk fp) (hR : R (some (.int (-1))) (xoS h x fk fp)) : Ev G d 0 0 M_X_refuse 0 [.ref 0, .int x] [] h R := b_X_refuse_0 hX hR
theorem s_X_answer' {x : Int32} (hX : XO h lt0 fk fp) (hR : R (some (.int x)) (xoS h 0 fk fp)) : Ev G d 0 0 M_X_answer 0 [.ref 0, .int x] [] h R := b_X_answer_0 hX hR
theorem s_X_answerLong' {x : Int64} (hX : XO h lt0 fk fp) (hR : R (some (.long x)) (xoS h 0 fk fp)) : Ev G d 0 0 M_X_answerLong 0 [.ref 0, .long x, ev_unk] [] h R := b_X_answerLong_0 hX hR
end S24
theorem b_X_code_0 {G : ev_G} {d k n : Nat} {h : ev_H} {R : Option Value → ev_H → Prop} {x1 : Int32} {S1 : AS} {la2 : Int32} {fk3 : Int32} {fp4 : Int32} {la5 : Int32} {fk6 : Int32} {fp7 : Int32} {f_latest_8 : Int32} {f_faultKind_9 : Int32} {f_faultPlace_10 : Int32} {f_bits_11 : Int32} {f_parts_12 : Int32} {f_size_13 : Int32} {fv14 : Value} {g15 : Nat → Int64} {j16 : Nat} {la17 : Int32} {fk18 : Int32} {fp19 : Int32}
  (a7 : hat h 0 (oC 8 [.ref 1, .ref 5, .ref 18, .ref 81, .ref 98, .int f_latest_8, .int f_faultKind_9, .int f_faultPlace_10]))
  (a8 : hat h 1 (oC 6 [.int f_bits_11, .int f_parts_12, .ref 2, .int f_size_13, .ref 3, .ref 4, fv14]))
  (a9 : hat h 3 (aL 32 g15))
  (pr1 : XO h la2 fk3 fp4)
  (pr2 : StR h 1 S1)
  (pr3 : sOk S1)
  (r4 : ∃ fs, hat h 0 (oC 8 fs))
  (pr5 : (b2i (inR x1 (sN S1))) = (0 : Int32) → XO h la5 fk6 fp7)
  (r6 : (b2i (inR x1 (sN S1))) = (0 : Int32) → ∃ fs, hat h 0 (oC 8 fs))
  (i10 : ¬ (b2i (inR x1 (sN S1))) = (0 : Int32) → ev_ix x1 j16 32)
  (pr11 : ¬ (b2i (inR x1 (sN S1))) = (0 : Int32) → XO h la17 fk18 fp19)
  (k1 : (b2i (inR x1 (sN S1))) = (0 : Int32) → R (some (.long (-1 : Int32).toInt64)) (xoS h (2 : Int32) fk6 fp7))
  (k2 : ¬ (b2i (inR x1 (sN S1))) = (0 : Int32) → R (some (.long (g15 j16))) (xoS h 0 fk18 fp19))
  : Ev G (d + 1) k n M_X_code 0 [.ref 0, .int x1] [] h R :=
  Ev.go (pc' := 2) (ls' := [.ref 0, .int x1]) (st' := [.int x1, .ref 0]) [.aload_n 0, .iload_n 1] (by decide +kernel) rfl <|
  Ev.cV0 (M' := M_X_isCode) (as := [.int x1]) (rest := []) l_X_114 M_X_isCode_ok M_X_isCode_in M_X_isCode_se (by decide +kernel) r4 rfl rfl rfl (Nat.le_of_ble_eq_true rfl) (Nat.le_of_ble_eq_true rfl) (s_X_isCode pr1 pr2 pr3 <| show Ev G (d + 1) _ _ M_X_code 5 [.ref 0, .int x1] [.int (b2i (inR x1 (sN S1)))] h R from
    Ev.br (i := .ifCond .ne (10)) (P := (b2i (inR x1 (sN S1))) = (0 : Int32)) (t := 8) (f := 15) (r := []) (by decide +kernel) rfl (fun c1 =>
      Ev.go (pc' := 10) (ls' := [.ref 0, .int x1]) (st' := [.int (2 : Int32), .ref 0]) [.aload_n 0, .iconst 2] (by decide +kernel) rfl <|
      Ev.cV0 (M' := M_X_refuse) (as := [.int (2 : Int32)]) (rest := []) l_X_67 M_X_refuse_ok M_X_refuse_in M_X_refuse_se (by decide +kernel) (r6 c1) rfl rfl rfl (Nat.le_of_ble_eq_true rfl) (Nat.le_of_ble_eq_true rfl) (s_X_refuse' (pr5 c1) <| show Ev G (d + 1) _ _ M_X_code 13 [.ref 0, .int x1] [.int (-1 : Int32)] (xoS h (2 : Int32) fk6 fp7) R from
        Ev.go (pc' := 14) (ls' := [.ref 0, .int x1]) (st' := [.long (-1 : Int32).toInt64]) [.i2l] (by decide +kernel) rfl <|
        Ev.ret (r := (some (.long (-1 : Int32).toInt64))) (Or.inr (Or.inl ⟨_, rfl, by decide +kernel, rfl⟩)) (k1 c1)
      )
    ) (fun c1 =>
      Ev.go (pc' := 17) (ls' := [.ref 0, .int x1]) (st' := [.ref 0, .ref 0]) [.aload_n 0, .aload_n 0] (by decide +kernel) rfl <|
      Ev.getf f_X_10 (by decide +kernel) a7 rfl <|
      Ev.getf f_X_118 (by decide +kernel) a8 rfl <|
      Ev.go (pc' := 24) (ls' := [.ref 0, .int x1]) (st' := [.int x1, .ref 3, .ref 0]) [.iload_n 1] (by decide +kernel) rfl <|
      Ev.lald (j := j16) (by decide +kernel) a9 (i10 c1) <|
      Ev.cV0 (M' := M_X_answerLong) (as := [.long (g15 j16)]) (rest := []) l_X_122 M_X_answerLong_ok M_X_answerLong_in M_X_answerLong_se (by decide +kernel) ⟨_, a7⟩ rfl rfl rfl (Nat.le_of_ble_eq_true rfl) (Nat.le_of_ble_eq_true rfl) (s_X_answerLong' (pr11 c1) <| show Ev G (d + 1) _ _ M_X_code 28 [.ref 0, .int x1] [.long (g15 j16)] (xoS h 0 fk18 fp19) R from
        Ev.ret (r := (some (.long (g15 j16)))) (Or.inr (Or.inl ⟨_, rfl, by decide +kernel, rfl⟩)) (k2 c1)
      )
    )
  )
section S24
variable {G : ev_G} {d : Nat} {h : ev_H} {R : Option Value → ev_H → Prop} {S : AS} {lt0 fk fp : Int32}
theorem inR_no0 {x : Int32} {n : Nat} (h : b2i (inR x n) = 0) : inR x n = false := b2i_e0 h
theorem s_X_code {x : Int32} (hX : XO h lt0 fk fp) (hS : StR h 1 S) (ok : sOk S) (hR1 : inR x (sN S) = false → R (some (.long (-1))) (xoS h 2 fk fp)) (hR2 : ∀ j, j < sN S → x = nI j → R (some (.long (sCo S j))) (xoS h 0 fk fp)) : Ev G (d + 1) 0 0 M_X_code 0 [.ref 0, .int x] [] h R := by
  have hS0 := hS
  have h48 := ok.2.2.2.2.1
  obtain ⟨brf, tgf, cof, fv, t1, t2, t3, t4, e1, e2, -⟩ := hS
  cases q : inR x (sN S) with
  | false =>
    exact b_X_code_0 (j16 := 0) hX t1 t3 hX hS0 ok ⟨_, hX⟩ (fun _ => hX) (fun _ => ⟨_, hX⟩) (fun z => absurd (by rw [q]; rfl) z) (fun z => absurd (by rw [q]; rfl) z) (fun _ => hR1 q) (la17 := lt0) (fk18 := fk) (fp19 := fp) (fun z => absurd (by rw [q]; rfl) z)
  | true =>
    obtain ⟨j, hj, rfl⟩ := inR_yes (by omega) q
    exact b_X_code_0 (j16 := j) hX t1 t3 hX hS0 ok ⟨_, hX⟩ (fun _ => hX) (fun _ => ⟨_, hX⟩) (fun _ => ixn (by omega) (by decide)) (fun _ => hX) (fun z => absurd (z.symm.trans (by rw [q]; rfl)) (by decide : ¬ (0 : Int32) = 1)) (fun _ => by rw [(e2 j hj).1]; exact hR2 j hj rfl)
end S24
