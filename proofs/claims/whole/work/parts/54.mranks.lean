/-! the model's ranks: the one order by far, then by code -/
def keyR (far : Nat → Nat) (c : Nat) : Nat := far c * 64 + c
/-- a strictly growing row of codes that hold p -/
def enumR (p : Nat → Bool) (far : Nat → Nat) (M n : Nat) (o : Nat → Nat) : Prop := (∀ j, j < n → o j < M ∧ p (o j) = true) ∧ ∀ i j, i < j → j < n → keyR far (o i) < keyR far (o j)
theorem cnt_strict {q q' : Nat → Bool} {x : Nat} : ∀ {M : Nat}, (∀ k, k < M → q' k = true → q k = true) → x < M → q x = true → q' x = false → cnt q' M + 1 ≤ cnt q M
  | 0, _, hx, _, _ => absurd hx (Nat.not_lt_zero x)
  | M + 1, sub, hx, h1, h2 => by
    have e1 : cnt q (M + 1) = cnt q M + if q M then 1 else 0 := rfl
    have e2 : cnt q' (M + 1) = cnt q' M + if q' M then 1 else 0 := rfl
    by_cases c : x = M
    · subst c
      rw [e1, e2, h1, h2]
      have := cnt_mono (p := q') (q := q) (n := x) fun k hk => sub k (by omega)
      simp only [if_true, Bool.false_eq_true, if_false]
      omega
    · have ih := cnt_strict (M := M) (fun k hk => sub k (by omega)) (by omega) h1 h2
      rw [e1, e2]
      cases a : q' M
      · simp only [Bool.false_eq_true, if_false]; omega
      · rw [sub M (by omega) a]; simp only [if_true]; omega
theorem enum_le {far : Nat → Nat} {M : Nat} : ∀ {n : Nat} {p : Nat → Bool} {o : Nat → Nat}, enumR p far M n o → n ≤ cnt p M
  | 0, _, _, _ => Nat.zero_le _
  | n + 1, p, o, h => by
    have sub : enumR (fun c => p c && decide (keyR far c < keyR far (o n))) far M n o := ⟨fun j hj => ⟨(h.1 j (by omega)).1, by rw [Bool.and_eq_true, decide_eq_true_iff]; exact ⟨(h.1 j (by omega)).2, h.2 j n hj (by omega)⟩⟩, fun i j a b => h.2 i j a (by omega)⟩
    have ih := enum_le sub
    have := cnt_strict (q := p) (q' := fun c => p c && decide (keyR far c < keyR far (o n))) (x := o n) (M := M) (fun k _ t => by rw [Bool.and_eq_true] at t; exact t.1) (h.1 n (by omega)).1 (h.1 n (by omega)).2 (by rw [decide_eq_false (Nat.lt_irrefl _), Bool.and_false])
    omega
theorem enum_pos {p : Nat → Bool} {far : Nat → Nat} {M n : Nat} {o : Nat → Nat} (h : enumR p far M n o) (hn : n = cnt p M) {j : Nat} (hj : j < n) : cnt (fun c => p c && decide (keyR far c < keyR far (o j))) M = j := by
  have lo : j ≤ cnt (fun c => p c && decide (keyR far c < keyR far (o j))) M := enum_le (far := far) (o := o) ⟨fun i hi => ⟨(h.1 i (by omega)).1, by rw [Bool.and_eq_true, decide_eq_true_iff]; exact ⟨(h.1 i (by omega)).2, h.2 i j hi hj⟩⟩, fun i k a b => h.2 i k a (by omega)⟩
  have hi : n - j ≤ cnt (fun c => p c && !decide (keyR far c < keyR far (o j))) M := enum_le (far := far) (o := fun i => o (j + i)) ⟨fun i hi => ⟨(h.1 (j + i) (by omega)).1, by
    rw [Bool.and_eq_true]
    refine ⟨(h.1 (j + i) (by omega)).2, ?_⟩
    rw [decide_eq_false]
    · rfl
    · show ¬ keyR far (o (j + i)) < keyR far (o j)
      by_cases c : i = 0
      · subst c; exact Nat.lt_irrefl _
      · have := h.2 j (j + i) (by omega) (by omega); omega⟩, fun i k a b => h.2 _ _ (by omega) (by omega)⟩
  have t := cnt_two p (fun c => decide (keyR far c < keyR far (o j))) M
  omega
theorem enum_uniq {p : Nat → Bool} {far : Nat → Nat} {M n : Nat} {a b : Nat → Nat} (hM : M ≤ 64) (ha : enumR p far M n a) (hb : enumR p far M n b) (hn : n = cnt p M) {j : Nat} (hj : j < n) : a j = b j := by
  have key : keyR far (a j) = keyR far (b j) := by
    have ea := enum_pos ha hn hj
    have eb := enum_pos hb hn hj
    rcases Nat.lt_trichotomy (keyR far (a j)) (keyR far (b j)) with c | c | c
    · have := cnt_strict (q := fun c => p c && decide (keyR far c < keyR far (b j))) (q' := fun c => p c && decide (keyR far c < keyR far (a j))) (x := a j) (M := M) (fun k _ t => by rw [Bool.and_eq_true, decide_eq_true_iff] at t ⊢; exact ⟨t.1, by omega⟩) (ha.1 j hj).1 (by rw [Bool.and_eq_true, decide_eq_true_iff]; exact ⟨(ha.1 j hj).2, c⟩) (by rw [decide_eq_false (Nat.lt_irrefl _), Bool.and_false])
      omega
    · exact c
    · have := cnt_strict (q := fun c => p c && decide (keyR far c < keyR far (a j))) (q' := fun c => p c && decide (keyR far c < keyR far (b j))) (x := b j) (M := M) (fun k _ t => by rw [Bool.and_eq_true, decide_eq_true_iff] at t ⊢; exact ⟨t.1, by omega⟩) (hb.1 j hj).1 (by rw [Bool.and_eq_true, decide_eq_true_iff]; exact ⟨(hb.1 j hj).2, c⟩) (by rw [decide_eq_false (Nat.lt_irrefl _), Bool.and_false])
      omega
  have := (ha.1 j hj).1
  have := (hb.1 j hj).1
  unfold keyR at key
  omega
/-- where a far is put in, in a row that grows -/
theorem ipos_at {fr : Nat → Nat} {f0 : Nat} : ∀ {m : Nat}, (∀ i j, i < j → j < m → fr i ≤ fr j) → (∀ j, j < ipos fr f0 m → fr j ≤ f0) ∧ ∀ j, ipos fr f0 m ≤ j → j < m → f0 < fr j
  | 0, _ => ⟨fun j hj => absurd hj (Nat.not_lt_zero j), fun j _ hj => absurd hj (Nat.not_lt_zero j)⟩
  | m + 1, mono => by
    obtain ⟨a, b⟩ := ipos_at (fr := fr) (f0 := f0) (m := m) fun i j h1 h2 => mono i j h1 (by omega)
    have e : ipos fr f0 (m + 1) = if f0 < fr m then ipos fr f0 m else m + 1 := rfl
    rw [e]
    by_cases c : f0 < fr m
    · rw [if_pos c]
      refine ⟨a, fun j h1 h2 => ?_⟩
      by_cases q : j = m
      · subst q; exact c
      · exact b j h1 (by omega)
    · rw [if_neg c]
      refine ⟨fun j hj => ?_, fun j h1 h2 => by omega⟩
      by_cases q : j = m
      · subst q; omega
      · have := mono j m (by omega) (by omega); omega
theorem rkS_enum {p : Nat → Bool} {far : Nat → Nat} : ∀ {m : Nat}, m ≤ 64 → enumR p far m (rkS p far m).1 (rkS p far m).2.1 ∧ ∀ j, j < (rkS p far m).1 → (rkS p far m).2.2 j = far ((rkS p far m).2.1 j)
  | 0, _ => ⟨⟨fun j hj => absurd hj (Nat.not_lt_zero j), fun i j _ hj => absurd hj (Nat.not_lt_zero j)⟩, fun j hj => absurd hj (Nat.not_lt_zero j)⟩
  | m + 1, hm => by
    obtain ⟨⟨a1, a2⟩, a3⟩ := rkS_enum (p := p) (far := far) (m := m) (by omega)
    have e : rkS p far (m + 1) = if p m then ((rkS p far m).1 + 1, insF (rkS p far m).2.1 (ipos (rkS p far m).2.2 (far m) (rkS p far m).1) m, insF (rkS p far m).2.2 (ipos (rkS p far m).2.2 (far m) (rkS p far m).1) (far m)) else rkS p far m := rfl
    rw [e]
    cases q : p m
    · simp only [Bool.false_eq_true, if_false]
      exact ⟨⟨fun j hj => ⟨by have := (a1 j hj).1; omega, (a1 j hj).2⟩, a2⟩, a3⟩
    · simp only [if_true]
      have mono : ∀ i j, i < j → j < (rkS p far m).1 → (rkS p far m).2.2 i ≤ (rkS p far m).2.2 j := fun i j h1 h2 => by
        have k := a2 i j h1 h2
        have := (a1 i (by omega)).1
        have := (a1 j h2).1
        rw [a3 i (by omega), a3 j h2]
        unfold keyR at k
        omega
      obtain ⟨i1, i2⟩ := ipos_at (f0 := far m) mono
      have kl := ipos_le (rkS p far m).2.2 (far m) (rkS p far m).1
      generalize ipos (rkS p far m).2.2 (far m) (rkS p far m).1 = k at i1 i2 kl
      generalize (rkS p far m).1 = n at *
      generalize (rkS p far m).2.1 = o at *
      generalize (rkS p far m).2.2 = fr at *
      have lo : ∀ j, j < k → keyR far (o j) < keyR far m := fun j hj => by
        have := i1 j hj
        rw [a3 j (by omega)] at this
        have := (a1 j (by omega)).1
        unfold keyR; omega
      have hi : ∀ j, k ≤ j → j < n → keyR far m < keyR far (o j) := fun j h1 h2 => by
        have := i2 j h1 h2
        rw [a3 j h2] at this
        unfold keyR; omega
      refine ⟨⟨fun j hj => ?_, fun i j hij hj => ?_⟩, fun j hj => ?_⟩
      · unfold insF
        by_cases c1 : j < k
        · rw [if_pos c1]; exact ⟨by have := (a1 j (by omega)).1; omega, (a1 j (by omega)).2⟩
        · rw [if_neg c1]
          by_cases c2 : j = k
          · rw [if_pos c2]; exact ⟨by omega, q⟩
          · rw [if_neg c2]; exact ⟨by have := (a1 (j - 1) (by omega)).1; omega, (a1 (j - 1) (by omega)).2⟩
      · unfold insF
        by_cases c1 : i < k
        · rw [if_pos c1]
          by_cases d1 : j < k
          · rw [if_pos d1]; exact a2 i j hij (by omega)
          · rw [if_neg d1]
            by_cases d2 : j = k
            · rw [if_pos d2]; exact lo i c1
            · rw [if_neg d2]
              exact Nat.lt_trans (lo i c1) (hi (j - 1) (by omega) (by omega))
        · rw [if_neg c1, if_neg (show ¬ j < k by omega), if_neg (show ¬ j = k by omega)]
          by_cases c2 : i = k
          · rw [if_pos c2]; exact hi (j - 1) (by omega) (by omega)
          · rw [if_neg c2]; exact a2 (i - 1) (j - 1) (by omega) (by omega)
      · unfold insF
        by_cases c1 : j < k
        · rw [if_pos c1, if_pos c1]; exact a3 j (by omega)
        · rw [if_neg c1, if_neg c1]
          by_cases c2 : j = k
          · rw [if_pos c2, if_pos c2]
          · rw [if_neg c2, if_neg c2]; exact a3 (j - 1) (by omega)
theorem cnt_ins {q q' : Nat → Bool} {x : Nat} : ∀ {M : Nat}, (∀ k, k < M → k ≠ x → q k = q' k) → x < M → q x = true → q' x = false → cnt q M = cnt q' M + 1
  | 0, _, hx, _, _ => absurd hx (Nat.not_lt_zero x)
  | M + 1, sub, hx, h1, h2 => by
    have e1 : cnt q (M + 1) = cnt q M + if q M then 1 else 0 := rfl
    have e2 : cnt q' (M + 1) = cnt q' M + if q' M then 1 else 0 := rfl
    by_cases c : x = M
    · subst c
      rw [e1, e2, h1, h2, cnt_congr (p := q) (q := q') (n := x) fun k hk => sub k (by omega) (by omega)]
      simp only [if_true, Bool.false_eq_true, if_false]
    · rw [e1, e2, cnt_ins (M := M) (fun k hk => sub k (by omega)) (by omega) h1 h2, sub M (by omega) (by omega)]
      omega
theorem b_Mo_ranks_0 {G : ev_G} {d k n : Nat} {h : ev_H} {R : Option Value → ev_H → Prop} {x1 : Int64} {x3 : Int64}
  (k1 : Ev G (d + 2) k n M_Mo_ranks 6 [.ref 102, .long x1, ev_unk, .long x3, ev_unk, .int (0 : Int32), .int (0 : Int32), ev_unk] [] h R)
  : Ev G (d + 2) k n M_Mo_ranks 0 [.ref 102, .long x1, ev_unk, .long x3, ev_unk, ev_unk, ev_unk, ev_unk] [] h R :=
  Ev.go (pc' := 6) (ls' := [.ref 102, .long x1, ev_unk, .long x3, ev_unk, .int (0 : Int32), .int (0 : Int32), ev_unk]) (st' := []) [.iconst 0, .istore 5, .iconst 0, .istore 6] (by decide +kernel) rfl <|
  k1
theorem b_Mo_ranks_6 {G : ev_G} {d k n : Nat} {h : ev_H} {R : Option Value → ev_H → Prop} {x1 : Int64} {x3 : Int64} {x5 : Int32} {x6 : Int32} {S1 : AS}
  (pr1 : MS h S1)
  (r2 : ∃ fs, hat h 102 (oC 9 fs))
  (k1 : (nI (sB S1)) < x6 → R (some (.int x5)) h)
  (k2 : ¬ (nI (sB S1)) < x6 → Ev G (d + 2) k n M_Mo_ranks 18 [.ref 102, .long x1, ev_unk, .long x3, ev_unk, .int x5, .int x6, .int (0 : Int32)] [] h R)
  : Ev G (d + 2) k n M_Mo_ranks 6 [.ref 102, .long x1, ev_unk, .long x3, ev_unk, .int x5, .int x6, ev_unk] [] h R :=
  Ev.go (pc' := 9) (ls' := [.ref 102, .long x1, ev_unk, .long x3, ev_unk, .int x5, .int x6, ev_unk]) (st' := [.ref 102, .int x6]) [.iload 6, .aload_n 0] (by decide +kernel) rfl <|
  Ev.cV0 (M' := M_Mo_bits) (as := []) (rest := [.int x6]) l_Mo_78 M_Mo_bits_ok M_Mo_bits_in M_Mo_bits_se (by decide +kernel) r2 rfl rfl rfl (Nat.le_of_ble_eq_true rfl) (Nat.le_of_ble_eq_true rfl) (s_Mo_bits pr1 <| show Ev G (d + 2) _ _ M_Mo_ranks 12 [.ref 102, .long x1, ev_unk, .long x3, ev_unk, .int x5, .int x6, ev_unk] [.int (nI (sB S1)), .int x6] h R from
    Ev.br (i := .if_icmp .gt (67)) (P := (nI (sB S1)) < x6) (t := 79) (f := 15) (r := []) (by decide +kernel) rfl (fun c1 =>
      Ev.go (pc' := 81) (ls' := [.ref 102, .long x1, ev_unk, .long x3, ev_unk, .int x5, .int x6, ev_unk]) (st' := [.int x5]) [.iload 5] (by decide +kernel) rfl <|
      Ev.ret (r := (some (.int x5))) (Or.inl ⟨_, rfl, by decide +kernel, _, rfl, rfl⟩) (k1 c1)
    ) (fun c1 =>
      Ev.go (pc' := 18) (ls' := [.ref 102, .long x1, ev_unk, .long x3, ev_unk, .int x5, .int x6, .int (0 : Int32)]) (st' := []) [.iconst 0, .istore 7] (by decide +kernel) rfl <|
      (k2 c1)
    )
  )
theorem b_Mo_ranks_18 {G : ev_G} {d k n : Nat} {h : ev_H} {R : Option Value → ev_H → Prop} {x1 : Int64} {x3 : Int64} {x5 : Int32} {x6 : Int32} {x7 : Int32} {S1 : AS} {S2 : AS} {c_3 : Nat} {f_status_4 : Int32} {f_acts_5 : Int32} {f_marks_6 : Int32} {f_taped_7 : Int32} {f_size_8 : Int32} {f_token_9 : Int32} {f_begin_10 : Int32} {f_end_11 : Int32} {f_faults_12 : Int32} {f_faultPlace_13 : Int32} {f_faultKind_14 : Int32} {f_deep_15 : Int32} {f_value_16 : Int64} {f_broadMany_17 : Int32} {g18 : Nat → Int32} {j19 : Nat}
  (a7 : hat h 102 (oC 9 [.ref 103, .int f_status_4, .int f_acts_5, .int f_marks_6, .ref 104, .ref 105, .ref 106, .int f_taped_7, .int f_size_8, .int f_token_9, .int f_begin_10, .int f_end_11, .int f_faults_12, .int f_faultPlace_13, .int f_faultKind_14, .int f_deep_15, .long f_value_16, .ref 107, .ref 108, .ref 109, .ref 116, .int f_broadMany_17, .ref 124, .ref 125]))
  (a8 : hat h 124 (aI 32 g18))
  (pr1 : MS h S1)
  (r2 : ∃ fs, hat h 102 (oC 9 fs))
  (pr3 : x7 < (nI (sN S1)) → ¬ (b2i (tbL x3 x7)) = (0 : Int32) → MS h S2)
  (pr4 : x7 < (nI (sN S1)) → ¬ (b2i (tbL x3 x7)) = (0 : Int32) → sOk S2)
  (pr5 : x7 < (nI (sN S1)) → ¬ (b2i (tbL x3 x7)) = (0 : Int32) → x7 = nI c_3 ∧ c_3 < sN S2)
  (r6 : x7 < (nI (sN S1)) → ¬ (b2i (tbL x3 x7)) = (0 : Int32) → ∃ fs, hat h 102 (oC 9 fs))
  (i9 : x7 < (nI (sN S1)) → ¬ (b2i (tbL x3 x7)) = (0 : Int32) → (nI (pop ((sCo S2 c_3) ^^^ x1))) = x6 → ev_ix x5 j19 32)
  (k1 : x7 < (nI (sN S1)) → (b2i (tbL x3 x7)) = (0 : Int32) → Ev G (d + 2) k n M_Mo_ranks 18 [.ref 102, .long x1, ev_unk, .long x3, ev_unk, .int x5, .int x6, .int (x7 + (1 : Int32))] [] h R)
  (k2 : x7 < (nI (sN S1)) → ¬ (b2i (tbL x3 x7)) = (0 : Int32) → (nI (pop ((sCo S2 c_3) ^^^ x1))) = x6 → Ev G (d + 2) k n M_Mo_ranks 18 [.ref 102, .long x1, ev_unk, .long x3, ev_unk, .int (x5 + (1 : Int32)), .int x6, .int (x7 + (1 : Int32))] [] (hset h 124 (aI 32 (upd g18 j19 x7))) R)
  (k3 : x7 < (nI (sN S1)) → ¬ (b2i (tbL x3 x7)) = (0 : Int32) → ¬ (nI (pop ((sCo S2 c_3) ^^^ x1))) = x6 → Ev G (d + 2) k n M_Mo_ranks 18 [.ref 102, .long x1, ev_unk, .long x3, ev_unk, .int x5, .int x6, .int (x7 + (1 : Int32))] [] h R)
  (k4 : ¬ x7 < (nI (sN S1)) → Ev G (d + 2) k n M_Mo_ranks 6 [.ref 102, .long x1, ev_unk, .long x3, ev_unk, .int x5, .int (x6 + (1 : Int32)), ev_unk] [] h R)
  : Ev G (d + 2) k n M_Mo_ranks 18 [.ref 102, .long x1, ev_unk, .long x3, ev_unk, .int x5, .int x6, .int x7] [] h R :=
  Ev.go (pc' := 21) (ls' := [.ref 102, .long x1, ev_unk, .long x3, ev_unk, .int x5, .int x6, .int x7]) (st' := [.ref 102, .int x7]) [.iload 7, .aload_n 0] (by decide +kernel) rfl <|
  Ev.cV0 (M' := M_Mo_many_0) (as := []) (rest := [.int x7]) l_Mo_71 M_Mo_many_0_ok M_Mo_many_0_in M_Mo_many_0_se (by decide +kernel) r2 rfl rfl rfl (Nat.le_of_ble_eq_true rfl) (Nat.le_of_ble_eq_true rfl) (s_Mo_many_0 pr1 <| show Ev G (d + 2) _ _ M_Mo_ranks 24 [.ref 102, .long x1, ev_unk, .long x3, ev_unk, .int x5, .int x6, .int x7] [.int (nI (sN S1)), .int x7] h R from
    Ev.br (i := .if_icmp .ge (49)) (P := x7 < (nI (sN S1))) (t := 27) (f := 73) (r := []) (by decide +kernel) rfl (fun c1 =>
      Ev.go (pc' := 30) (ls' := [.ref 102, .long x1, ev_unk, .long x3, ev_unk, .int x5, .int x6, .int x7]) (st' := [.int x7, .long x3]) [.lload_n 3, .iload 7] (by decide +kernel) rfl <|
      Ev.cS0 (M' := M_Mo_has) (as := [.long x3, .int x7]) (rest := []) l_Mo_271 M_Mo_has_ok M_Mo_has_st (by decide +kernel) rfl rfl (Nat.le_of_ble_eq_true rfl) (Nat.le_of_ble_eq_true rfl) (s_Mo_has <| show Ev G (d + 2) _ _ M_Mo_ranks 33 [.ref 102, .long x1, ev_unk, .long x3, ev_unk, .int x5, .int x6, .int x7] [.int (b2i (tbL x3 x7))] h R from
        Ev.br (i := .ifCond .eq (34)) (P := (b2i (tbL x3 x7)) = (0 : Int32)) (t := 67) (f := 36) (r := []) (by decide +kernel) rfl (fun c2 =>
          Ev.go (pc' := 18) (ls' := [.ref 102, .long x1, ev_unk, .long x3, ev_unk, .int x5, .int x6, .int (x7 + (1 : Int32))]) (st' := []) [.iinc 7 (1), .goto (-52)] (by decide +kernel) rfl <|
          (k1 c1 c2)
        ) (fun c2 =>
          Ev.go (pc' := 39) (ls' := [.ref 102, .long x1, ev_unk, .long x3, ev_unk, .int x5, .int x6, .int x7]) (st' := [.int x7, .ref 102]) [.aload_n 0, .iload 7] (by decide +kernel) rfl <|
          Ev.cV0 (M' := M_Mo_codeOf) (as := [.int x7]) (rest := []) l_Mo_85 M_Mo_codeOf_ok M_Mo_codeOf_in M_Mo_codeOf_se (by decide +kernel) (r6 c1 c2) rfl rfl rfl (Nat.le_of_ble_eq_true rfl) (Nat.le_of_ble_eq_true rfl) (s_Mo_codeOf (pr3 c1 c2) (pr4 c1 c2) (pr5 c1 c2) <| show Ev G (d + 2) _ _ M_Mo_ranks 42 [.ref 102, .long x1, ev_unk, .long x3, ev_unk, .int x5, .int x6, .int x7] [.long (sCo S2 c_3)] h R from
            Ev.go (pc' := 44) (ls' := [.ref 102, .long x1, ev_unk, .long x3, ev_unk, .int x5, .int x6, .int x7]) (st' := [.long ((sCo S2 c_3) ^^^ x1)]) [.lload_n 1, .lxor] (by decide +kernel) rfl <|
            Ev.cS0 (M' := M_Mo_ones_J) (as := [.long ((sCo S2 c_3) ^^^ x1)]) (rest := []) l_Mo_88 M_Mo_ones_J_ok M_Mo_ones_J_st (by decide +kernel) rfl rfl (Nat.le_of_ble_eq_true rfl) (Nat.le_of_ble_eq_true rfl) (s_Mo_ones_J <| show Ev G (d + 2) _ _ M_Mo_ranks 47 [.ref 102, .long x1, ev_unk, .long x3, ev_unk, .int x5, .int x6, .int x7] [.int (nI (pop ((sCo S2 c_3) ^^^ x1)))] h R from
              Ev.go (pc' := 49) (ls' := [.ref 102, .long x1, ev_unk, .long x3, ev_unk, .int x5, .int x6, .int x7]) (st' := [.int x6, .int (nI (pop ((sCo S2 c_3) ^^^ x1)))]) [.iload 6] (by decide +kernel) rfl <|
              Ev.br (i := .if_icmp .eq (6)) (P := (nI (pop ((sCo S2 c_3) ^^^ x1))) = x6) (t := 55) (f := 52) (r := []) (by decide +kernel) rfl (fun c3 =>
                Ev.go (pc' := 56) (ls' := [.ref 102, .long x1, ev_unk, .long x3, ev_unk, .int x5, .int x6, .int x7]) (st' := [.ref 102]) [.aload_n 0] (by decide +kernel) rfl <|
                Ev.getf f_Mo_45 (by decide +kernel) a7 rfl <|
                Ev.go (pc' := 63) (ls' := [.ref 102, .long x1, ev_unk, .long x3, ev_unk, .int x5, .int x6, .int x7]) (st' := [.int x7, .int x5, .ref 124]) [.iload 5, .iload 7] (by decide +kernel) rfl <|
                Ev.iast (j := j19) (by decide +kernel) a8 (i9 c1 c2 c3) <| show Ev G (d + 2) _ _ M_Mo_ranks 64 [.ref 102, .long x1, ev_unk, .long x3, ev_unk, .int x5, .int x6, .int x7] [] (hset h 124 (aI 32 (upd g18 j19 x7))) R from
                Ev.go (pc' := 18) (ls' := [.ref 102, .long x1, ev_unk, .long x3, ev_unk, .int (x5 + (1 : Int32)), .int x6, .int (x7 + (1 : Int32))]) (st' := []) [.iinc 5 (1), .iinc 7 (1), .goto (-52)] (by decide +kernel) rfl <|
                (k2 c1 c2 c3)
              ) (fun c3 =>
                Ev.go (pc' := 18) (ls' := [.ref 102, .long x1, ev_unk, .long x3, ev_unk, .int x5, .int x6, .int (x7 + (1 : Int32))]) (st' := []) [.goto (15), .iinc 7 (1), .goto (-52)] (by decide +kernel) rfl <|
                (k3 c1 c2 c3)
              )
            )
          )
        )
      )
    ) (fun c1 =>
      Ev.go (pc' := 6) (ls' := [.ref 102, .long x1, ev_unk, .long x3, ev_unk, .int x5, .int (x6 + (1 : Int32)), .int x7]) (st' := []) [.iinc 6 (1), .goto (-70)] (by decide +kernel) rfl <|
      Ev.forget (ls' := [.ref 102, .long x1, ev_unk, .long x3, ev_unk, .int x5, .int (x6 + (1 : Int32)), ev_unk]) ⟨Or.inr rfl, Or.inr rfl, Or.inr rfl, Or.inr rfl, Or.inr rfl, Or.inr rfl, Or.inr rfl, Or.inl rfl, trivial⟩ <|
      (k4 c1)
    )
  )
theorem b_Mo_ranked_0 {G : ev_G} {d k n : Nat} {h : ev_H} {R : Option Value → ev_H → Prop} {x1 : Int64} {x3 : Int32} {S1 : AS} {v_2 : MG} {z_3 : MP} {v_4 : MG} {z_5 : MP}
  (pr1 : MS h S1)
  (r2 : ∃ fs, hat h 102 (oC 9 fs))
  (pr3 : (b2i (numB x1 (sB S1))) = (0 : Int32) → hat h 102 (moC v_2 z_3))
  (r4 : (b2i (numB x1 (sB S1))) = (0 : Int32) → ∃ fs, hat h 102 (oC 9 fs))
  (pr5 : ¬ (b2i (numB x1 (sB S1))) = (0 : Int32) → x3 < (0 : Int32) → hat h 102 (moC v_4 z_5))
  (r6 : ¬ (b2i (numB x1 (sB S1))) = (0 : Int32) → x3 < (0 : Int32) → ∃ fs, hat h 102 (oC 9 fs))
  (r7 : ¬ (b2i (numB x1 (sB S1))) = (0 : Int32) → ¬ x3 < (0 : Int32) → ∃ fs, hat h 102 (oC 9 fs))
  (k1 : (b2i (numB x1 (sB S1))) = (0 : Int32) → R (some (.int (-1 : Int32))) (hset h 102 (moC (stV v_2 (1 : Int32)) z_3)))
  (k2 : ¬ (b2i (numB x1 (sB S1))) = (0 : Int32) → x3 < (0 : Int32) → R (some (.int (-1 : Int32))) (hset h 102 (moC (stV v_4 (1 : Int32)) z_5)))
  (k3 : ¬ (b2i (numB x1 (sB S1))) = (0 : Int32) → ¬ x3 < (0 : Int32) → Ev G (d + 2) 0 0 M_Mo_counting 0 [.ref 102, ev_unk, ev_unk, ev_unk] [] h (fun r h1 => Ev G (d + 3) k n M_Mo_ranked 25 [.ref 102, .long x1, ev_unk, .int x3] (r.toList ++ [.long x1, .ref 102, .int x3]) h1 R))
  : Ev G (d + 3) k n M_Mo_ranked 0 [.ref 102, .long x1, ev_unk, .int x3] [] h R :=
  Ev.go (pc' := 2) (ls' := [.ref 102, .long x1, ev_unk, .int x3]) (st' := [.long x1, .ref 102]) [.aload_n 0, .lload_n 1] (by decide +kernel) rfl <|
  Ev.cV0 (M' := M_Mo_isNumber) (as := [.long x1]) (rest := []) l_Mo_267 M_Mo_isNumber_ok M_Mo_isNumber_in M_Mo_isNumber_se (by decide +kernel) r2 rfl rfl rfl (Nat.le_of_ble_eq_true rfl) (Nat.le_of_ble_eq_true rfl) (s_Mo_isNumber pr1 <| show Ev G (d + 3) _ _ M_Mo_ranked 5 [.ref 102, .long x1, ev_unk, .int x3] [.int (b2i (numB x1 (sB S1)))] h R from
    Ev.br (i := .ifCond .eq (7)) (P := (b2i (numB x1 (sB S1))) = (0 : Int32)) (t := 12) (f := 8) (r := []) (by decide +kernel) rfl (fun c1 =>
      Ev.go (pc' := 14) (ls' := [.ref 102, .long x1, ev_unk, .int x3]) (st' := [.int (1 : Int32), .ref 102]) [.aload_n 0, .iconst 1] (by decide +kernel) rfl <|
      Ev.cV0 (M' := M_Mo_refuse) (as := [.int (1 : Int32)]) (rest := []) l_Mo_226 M_Mo_refuse_ok M_Mo_refuse_in M_Mo_refuse_se (by decide +kernel) (r4 c1) rfl rfl rfl (Nat.le_of_ble_eq_true rfl) (Nat.le_of_ble_eq_true rfl) (s_Mo_refuse (pr3 c1) <| show Ev G (d + 3) _ _ M_Mo_ranked 17 [.ref 102, .long x1, ev_unk, .int x3] [.int (-1 : Int32)] (hset h 102 (moC (stV v_2 (1 : Int32)) z_3)) R from
        Ev.ret (r := (some (.int (-1 : Int32)))) (Or.inl ⟨_, rfl, by decide +kernel, _, rfl, rfl⟩) (k1 c1)
      )
    ) (fun c1 =>
      Ev.go (pc' := 9) (ls' := [.ref 102, .long x1, ev_unk, .int x3]) (st' := [.int x3]) [.iload_n 3] (by decide +kernel) rfl <|
      Ev.br (i := .ifCond .ge (9)) (P := x3 < (0 : Int32)) (t := 12) (f := 18) (r := []) (by decide +kernel) rfl (fun c2 =>
        Ev.go (pc' := 14) (ls' := [.ref 102, .long x1, ev_unk, .int x3]) (st' := [.int (1 : Int32), .ref 102]) [.aload_n 0, .iconst 1] (by decide +kernel) rfl <|
        Ev.cV0 (M' := M_Mo_refuse) (as := [.int (1 : Int32)]) (rest := []) l_Mo_226 M_Mo_refuse_ok M_Mo_refuse_in M_Mo_refuse_se (by decide +kernel) (r6 c1 c2) rfl rfl rfl (Nat.le_of_ble_eq_true rfl) (Nat.le_of_ble_eq_true rfl) (s_Mo_refuse (pr5 c1 c2) <| show Ev G (d + 3) _ _ M_Mo_ranked 17 [.ref 102, .long x1, ev_unk, .int x3] [.int (-1 : Int32)] (hset h 102 (moC (stV v_4 (1 : Int32)) z_5)) R from
          Ev.ret (r := (some (.int (-1 : Int32)))) (Or.inl ⟨_, rfl, by decide +kernel, _, rfl, rfl⟩) (k2 c1 c2)
        )
      ) (fun c2 =>
        Ev.go (pc' := 22) (ls' := [.ref 102, .long x1, ev_unk, .int x3]) (st' := [.ref 102, .long x1, .ref 102, .int x3]) [.iload_n 3, .aload_n 0, .lload_n 1, .aload_n 0] (by decide +kernel) rfl <|
        Ev.cV0 (M' := M_Mo_counting) (as := []) (rest := [.long x1, .ref 102, .int x3]) l_Mo_248 M_Mo_counting_ok M_Mo_counting_in M_Mo_counting_se (by decide +kernel) (r7 c1 c2) rfl rfl rfl (Nat.le_of_ble_eq_true rfl) (Nat.le_of_ble_eq_true rfl) (k3 c1 c2)
      )
    )
  )
theorem b_Mo_ranked_25 {G : ev_G} {d k n : Nat} {h : ev_H} {R : Option Value → ev_H → Prop} {x1 : Int64} {x3 : Int32} {y0 : Int32} {y2 : Int64} {y3 : Int64}
  (r1 : ∃ fs, hat h 102 (oC 9 fs))
  (k1 : Ev G (d + 2) 0 0 M_Mo_ranks 0 [.ref 102, .long y2, ev_unk, .long y3, ev_unk, ev_unk, ev_unk, ev_unk] [] h (fun r h1 => Ev G (d + 3) k n M_Mo_ranked 28 [.ref 102, .long x1, ev_unk, .int x3] (r.toList ++ [.int y0]) h1 R))
  : Ev G (d + 3) k n M_Mo_ranked 25 [.ref 102, .long x1, ev_unk, .int x3] [.long y3, .long y2, .ref 102, .int y0] h R :=
  Ev.cV0 (M' := M_Mo_ranks) (as := [.long y2, .long y3]) (rest := [.int y0]) l_Mo_328 M_Mo_ranks_ok M_Mo_ranks_in M_Mo_ranks_se (by decide +kernel) r1 rfl rfl rfl (Nat.le_of_ble_eq_true rfl) (Nat.le_of_ble_eq_true rfl) k1
theorem b_Mo_ranked_28 {G : ev_G} {d k n : Nat} {h : ev_H} {R : Option Value → ev_H → Prop} {x1 : Int64} {x3 : Int32} {y0 : Int32} {y1 : Int32} {f_status_1 : Int32} {f_acts_2 : Int32} {f_marks_3 : Int32} {f_taped_4 : Int32} {f_size_5 : Int32} {f_token_6 : Int32} {f_begin_7 : Int32} {f_end_8 : Int32} {f_faults_9 : Int32} {f_faultPlace_10 : Int32} {f_faultKind_11 : Int32} {f_deep_12 : Int32} {f_value_13 : Int64} {f_broadMany_14 : Int32} {g15 : Nat → Int32} {j16 : Nat} {v_17 : MG} {z_18 : MP} {v_19 : MG} {z_20 : MP}
  (a1 : hat h 102 (oC 9 [.ref 103, .int f_status_1, .int f_acts_2, .int f_marks_3, .ref 104, .ref 105, .ref 106, .int f_taped_4, .int f_size_5, .int f_token_6, .int f_begin_7, .int f_end_8, .int f_faults_9, .int f_faultPlace_10, .int f_faultKind_11, .int f_deep_12, .long f_value_13, .ref 107, .ref 108, .ref 109, .ref 116, .int f_broadMany_14, .ref 124, .ref 125]))
  (a2 : hat h 124 (aI 32 g15))
  (i3 : y0 < y1 → ev_ix x3 j16 32)
  (pr4 : y0 < y1 → hat h 102 (moC v_17 z_18))
  (pr5 : ¬ y0 < y1 → hat h 102 (moC v_19 z_20))
  (r6 : ¬ y0 < y1 → ∃ fs, hat h 102 (oC 9 fs))
  (k1 : y0 < y1 → R (some (.int (g15 j16))) (hset h 102 (moC (stV v_17 0) z_18)))
  (k2 : ¬ y0 < y1 → R (some (.int (-1 : Int32))) (hset h 102 (moC (stV v_19 (5 : Int32)) z_20)))
  : Ev G (d + 3) k n M_Mo_ranked 28 [.ref 102, .long x1, ev_unk, .int x3] [.int y1, .int y0] h R :=
  Ev.br (i := .if_icmp .ge (16)) (P := y0 < y1) (t := 31) (f := 44) (r := []) (by decide +kernel) rfl (fun c1 =>
    Ev.go (pc' := 33) (ls' := [.ref 102, .long x1, ev_unk, .int x3]) (st' := [.ref 102, .ref 102]) [.aload_n 0, .aload_n 0] (by decide +kernel) rfl <|
    Ev.getf f_Mo_45 (by decide +kernel) a1 rfl <|
    Ev.go (pc' := 37) (ls' := [.ref 102, .long x1, ev_unk, .int x3]) (st' := [.int x3, .ref 124, .ref 102]) [.iload_n 3] (by decide +kernel) rfl <|
    Ev.iald (j := j16) (by decide +kernel) a2 (i3 c1) <|
    Ev.cV0 (M' := M_Mo_gives_I) (as := [.int (g15 j16)]) (rest := []) l_Mo_245 M_Mo_gives_I_ok M_Mo_gives_I_in M_Mo_gives_I_se (by decide +kernel) ⟨_, a1⟩ rfl rfl rfl (Nat.le_of_ble_eq_true rfl) (Nat.le_of_ble_eq_true rfl) (s_Mo_gives_I (pr4 c1) <| show Ev G (d + 3) _ _ M_Mo_ranked 41 [.ref 102, .long x1, ev_unk, .int x3] [.int (g15 j16)] (hset h 102 (moC (stV v_17 0) z_18)) R from
      Ev.go (pc' := 49) (ls' := [.ref 102, .long x1, ev_unk, .int x3]) (st' := [.int (g15 j16)]) [.goto (8)] (by decide +kernel) rfl <|
      Ev.ret (r := (some (.int (g15 j16)))) (Or.inl ⟨_, rfl, by decide +kernel, _, rfl, rfl⟩) (k1 c1)
    )
  ) (fun c1 =>
    Ev.go (pc' := 46) (ls' := [.ref 102, .long x1, ev_unk, .int x3]) (st' := [.int (5 : Int32), .ref 102]) [.aload_n 0, .iconst 5] (by decide +kernel) rfl <|
    Ev.cV0 (M' := M_Mo_refuse) (as := [.int (5 : Int32)]) (rest := []) l_Mo_226 M_Mo_refuse_ok M_Mo_refuse_in M_Mo_refuse_se (by decide +kernel) (r6 c1) rfl rfl rfl (Nat.le_of_ble_eq_true rfl) (Nat.le_of_ble_eq_true rfl) (s_Mo_refuse (pr5 c1) <| show Ev G (d + 3) _ _ M_Mo_ranked 49 [.ref 102, .long x1, ev_unk, .int x3] [.int (-1 : Int32)] (hset h 102 (moC (stV v_19 (5 : Int32)) z_20)) R from
      Ev.ret (r := (some (.int (-1 : Int32)))) (Or.inl ⟨_, rfl, by decide +kernel, _, rfl, rfl⟩) (k2 c1)
    )
  )
section S54
variable {G : ev_G} {d : Nat} {h h1 : ev_H} {R : Option Value → ev_H → Prop} {Q : QS}
theorem MX.at124 (X : MX h) (K : Kp h h1 124 125) (g : ∃ g, hat h1 124 (aI 32 g)) : MX h1 := by
  obtain ⟨⟨g1, a1⟩, ⟨g2, a2⟩, ⟨g3, a3⟩, ⟨g4, a4⟩, a5, a6, a7, a8, -, ⟨g10, a10⟩⟩ := X
  exact ⟨⟨_, K.hat a1 (by omega)⟩, ⟨_, K.hat a2 (by omega)⟩, ⟨_, K.hat a3 (by omega)⟩, ⟨_, K.hat a4 (by omega)⟩, K.hat a5 (by omega), fun i hi => ⟨_, K.hat (a6 i hi).choose_spec (by omega)⟩, K.hat a7 (by omega), fun i hi => ⟨_, K.hat (a8 i hi).choose_spec (by omega)⟩, g, ⟨_, K.hat a10 (by omega)⟩⟩
theorem MR.at124 (H : MR h Q) (K : Kp h h1 124 125) (g : ∃ g, hat h1 124 (aI 32 g)) : MR h1 Q := H.work (K.wide (by omega) (by omega)) (K.2 105 (by have := H.num; omega) (by omega)) (H.mx.at124 K g)
theorem pop_num {x : Int64} {b : Nat} (hb : b ≤ 48) (h : numB x b = true) : pop x ≤ b := by
  have z := (numB_iff (b := b) (by omega)).mp h
  have s : cnt (lt x) 64 = cnt (lt x) b + cnt (fun j => lt x (b + j)) (64 - b) := by
    have := cnt_split (lt x) b (64 - b)
    rw [show b + (64 - b) = 64 by omega] at this
    exact this
  have := cnt_le (lt x) b
  unfold pop
  rw [s, cnt_zero (n := 64 - b) fun k _ => z _ (by omega)]
  omega
theorem s_Mo_ranks {x : Int64} {p : Nat → Bool} (H : MR h Q) (hx : numB x (sB (qS Q)) = true) (hp : ∀ j, p j = true → j < sN (qS Q)) (hR : ∀ h' g, Kp h h' 124 125 → MR h' Q → hat h' 124 (aI 32 g) → (∀ j, j < (a_rk (qS Q) p x).1 → g j = nI ((a_rk (qS Q) p x).2.1 j)) → R (some (.int (nI (a_rk (qS Q) p x).1))) h') : Ev G (d + 2) 0 0 M_Mo_ranks 0 [.ref 102, .long x, ev_unk, .long (setL p), ev_unk, ev_unk, ev_unk, ev_unk] [] h R := by
  have hz := H.szN
  have hzB := H.szB
  have far64 : ∀ c, c < sN (qS Q) → a_far1 (qS Q) x c ≤ sB (qS Q) := fun c hc => pop_num hzB (numB_xor (by omega) (H.gd.2.2.2 c hc) hx)
  refine b_Mo_ranks_0 ?_
  have fin : ∀ h' g o n, Kp h h' 124 125 → MR h' Q → hat h' 124 (aI 32 g) → (∀ j, j < n → g j = nI (o j)) → enumR p (a_far1 (qS Q) x) 32 n o → n = cnt p 32 → R (some (.int (nI n))) h' := by
    intro h' g o n K H' m ho en hn
    have e1 : (a_rk (qS Q) p x).1 = cnt p 32 := rkS_n _ _ _
    have en2 := (rkS_enum (p := p) (far := a_far1 (qS Q) x) (m := 32) (by omega)).1
    have q := hR h' g K H' m fun j hj => by
      have hj : j < n := by rw [hn, ← e1]; exact hj
      rw [ho j hj]
      have en2' : enumR p (a_far1 (qS Q) x) 32 n (rkS p (a_far1 (qS Q) x) 32).2.1 := by rw [hn, ← rkS_n p (a_far1 (qS Q) x) 32]; exact en2
      rw [enum_uniq (by omega) en en2' hn hj]; rfl
    rw [e1, ← hn] at q
    exact q
  -- from f on, and within f from c on
  have A : ∀ (m f : Nat) (h' : ev_H) (g : Nat → Int32) (o : Nat → Nat) (n : Nat), f + m = sB (qS Q) + 1 → Kp h h' 124 125 → MR h' Q → hat h' 124 (aI 32 g) → (∀ j, j < n → g j = nI (o j)) → enumR p (a_far1 (qS Q) x) 32 n o → n = cnt (fun c => p c && decide (keyR (a_far1 (qS Q) x) c < f * 64)) 32 → (∀ j, j < n → keyR (a_far1 (qS Q) x) (o j) < f * 64) → Ev G (d + 2) 0 0 M_Mo_ranks 6 [.ref 102, .long x, ev_unk, .long (setL p), ev_unk, .int (nI n), .int (nI f), ev_unk] [] h' R := by
    intro m
    induction m with
    | zero =>
      intro f h' g o n ef K H' m3 ho en hn hk
      obtain ⟨bm, z, m1⟩ := H'.2.1
      refine b_Mo_ranks_6 (S1 := qS Q) H'.ms ⟨_, m1⟩ (fun _ => ?_) (fun c => absurd (nI_lt (show sB (qS Q) < f by omega) (by omega)) c)
      refine fin h' g o n K H' m3 ho en ?_
      rw [hn]
      refine cnt_congr fun c hc => ?_
      cases q : p c
      · rfl
      · have := far64 c (hp c q)
        rw [decide_eq_true]
        · rfl
        · unfold keyR; omega
    | succ m ih =>
      intro f h' g o n ef K H' m3 ho en hn hk
      obtain ⟨bm, z, m1⟩ := H'.2.1
      refine b_Mo_ranks_6 (S1 := qS Q) H'.ms ⟨_, m1⟩ (fun c => absurd c (nI_nlt (show f ≤ sB (qS Q) by omega) (by omega))) (fun _ => ?_)
      have L := up_to (P := fun c => ∀ (h' : ev_H) (g : Nat → Int32) (o : Nat → Nat) (n : Nat), Kp h h' 124 125 → MR h' Q → hat h' 124 (aI 32 g) → (∀ j, j < n → g j = nI (o j)) → enumR p (a_far1 (qS Q) x) 32 n o → n = cnt (fun e => p e && decide (keyR (a_far1 (qS Q) x) e < f * 64 + c)) 32 → (∀ j, j < n → keyR (a_far1 (qS Q) x) (o j) < f * 64 + c) → Ev G (d + 2) 0 0 M_Mo_ranks 18 [.ref 102, .long x, ev_unk, .long (setL p), ev_unk, .int (nI n), .int (nI f), .int (nI c)] [] h' R) (N := sN (qS Q)) ?_ ?_ 0 (Nat.zero_le _)
      · exact L h' g o n K H' m3 ho en hn hk
      · intro c hc ihc h' g o n K H' m3 ho en hn hk
        obtain ⟨bm, z, m1⟩ := H'.2.1
        have tb : tbL (setL p) (nI c) = p c := by rw [tbL_n (by omega), lt_setL, decide_eq_true (show c < 32 by omega), Bool.true_and]
        have skip : ¬ (p c = true ∧ a_far1 (qS Q) x c = f) → Ev G (d + 2) 0 0 M_Mo_ranks 18 [.ref 102, .long x, ev_unk, .long (setL p), ev_unk, .int (nI n), .int (nI f), .int (nI (c + 1))] [] h' R := fun no => by
          refine ihc h' g o n K H' m3 ho en ?_ (fun j hj => by have := hk j hj; omega)
          rw [hn]
          refine cnt_congr fun e he => ?_
          cases q : p e
          · rfl
          · rw [decide_eq_decide.mpr]
            unfold keyR
            by_cases w : e = c
            · subst w
              have : a_far1 (qS Q) x e ≠ f := fun z => no ⟨q, z⟩
              omega
            · omega
        have pl : a_far1 (qS Q) x c ≤ 64 := pop_le (sCo (qS Q) c ^^^ x)
        have grow : p c = true → a_far1 (qS Q) x c = f → n < 32 ∧ enumR p (a_far1 (qS Q) x) 32 (n + 1) (fun j => if j = n then c else o j) := fun pc fc => by
          have en' : enumR p (a_far1 (qS Q) x) 32 (n + 1) (fun j => if j = n then c else o j) := by
            refine ⟨fun j hj => ?_, fun i j hij hj => ?_⟩
            · show (if j = n then c else o j) < 32 ∧ p (if j = n then c else o j) = true
              by_cases w : j = n
              · rw [if_pos w]; exact ⟨by omega, pc⟩
              · rw [if_neg w]; exact en.1 j (by omega)
            · show keyR _ (if i = n then c else o i) < keyR _ (if j = n then c else o j)
              rw [if_neg (show ¬ i = n by omega)]
              by_cases w : j = n
              · rw [if_pos w]
                have := hk i (by omega)
                have e : keyR (a_far1 (qS Q) x) c = f * 64 + c := by unfold keyR; rw [fc]
                omega
              · rw [if_neg w]; exact en.2 i j hij (by omega)
          exact ⟨by have := enum_le en'; have := cnt_le p 32; omega, en'⟩
        refine b_Mo_ranks_18 (S1 := qS Q) (S2 := qS Q) (c_3 := c) (j19 := n) m1 m3 H'.ms ⟨_, m1⟩ (fun _ _ => H'.ms) (fun _ _ => H'.ok) (fun _ _ => ⟨rfl, hc⟩) (fun _ _ => ⟨_, m1⟩) (fun _ c2 c3 => ?_) (fun _ c2 => ?_) (fun _ c2 c3 => ?_) (fun _ c2 c3 => ?_) (fun c1 => absurd (nI_lt hc (by omega)) c1)
        · rw [tb] at c2
          have fc : a_far1 (qS Q) x c = f := (nI_eq (by omega) (by omega)).mp c3
          exact ixn (grow (b2i_n0 c2) fc).1 (by omega)
        · rw [tb] at c2
          rw [nI_1]
          exact skip fun w => by rw [b2i_e0 c2] at w; exact absurd w.1 (by decide)
        · rw [tb] at c2
          have pc := b2i_n0 c2
          have fc : a_far1 (qS Q) x c = f := (nI_eq (by omega) (by omega)).mp c3
          obtain ⟨n32, en'⟩ := grow pc fc
          rw [nI_1, nI_1]
          have K5 : Kp h' (hset h' 124 (aI 32 (upd g n (nI c)))) 124 125 := (Kp.refl h' 124 125).set _ (by omega) (by omega)
          have m5 := hat_set m3 (c' := aI 32 (upd g n (nI c)))
          have kc : keyR (a_far1 (qS Q) x) c = f * 64 + c := by unfold keyR; rw [fc]
          refine ihc _ _ (fun j => if j = n then c else o j) (n + 1) (K.trans K5) (H'.at124 K5 ⟨_, m5⟩) m5 (fun j hj => ?_) en' ?_ (fun j hj => ?_)
          · show (if j = n then nI c else g j) = nI (if j = n then c else o j)
            by_cases w : j = n
            · rw [if_pos w, if_pos w]
            · rw [if_neg w, if_neg w]; exact ho j (by omega)
          · rw [hn]
            refine (cnt_ins (x := c) (fun e he ne => ?_) (by omega) (by rw [pc, decide_eq_true (by omega)]; rfl) (by rw [decide_eq_false (by omega), Bool.and_false])).symm
            rw [decide_eq_decide.mpr]
            unfold keyR
            omega
          · show keyR _ (if j = n then c else o j) < _
            by_cases w : j = n
            · rw [if_pos w]; omega
            · rw [if_neg w]; have := hk j (by omega); omega
        · rw [tb] at c2
          rw [nI_1]
          exact skip fun w => c3 (congrArg nI w.2)
      · intro h' g o n K H' m3 ho en hn hk
        obtain ⟨bm, z, m1⟩ := H'.2.1
        have no := nl_self (n := sN (qS Q)) (by omega)
        refine b_Mo_ranks_18 (S1 := qS Q) (S2 := qS Q) (c_3 := 0) (j19 := 0) m1 m3 H'.ms ⟨_, m1⟩ (fun _ _ => H'.ms) (fun _ _ => H'.ok) (fun c _ => absurd c no) (fun _ _ => ⟨_, m1⟩) (fun c _ _ => absurd c no) (fun c _ => absurd c no) (fun c _ _ => absurd c no) (fun c _ _ => absurd c no) (fun _ => ?_)
        rw [nI_1]
        refine ih (f + 1) h' g o n (by omega) K H' m3 ho en ?_ (fun j hj => by have := hk j hj; omega)
        rw [hn]
        refine cnt_congr fun e he => ?_
        cases q : p e
        · rfl
        · have := hp e q
          rw [decide_eq_decide.mpr]
          unfold keyR
          omega
  obtain ⟨g, m3⟩ := H.mx.2.2.2.2.2.2.2.2.1
  exact A (sB (qS Q) + 1) 0 h g (fun _ => 0) 0 (by omega) (Kp.refl _ _ _) H m3 (fun j hj => absurd hj (Nat.not_lt_zero j)) ⟨fun j hj => absurd hj (Nat.not_lt_zero j), fun i j _ hj => absurd hj (Nat.not_lt_zero j)⟩ (cnt_zero fun k _ => by rw [decide_eq_false (by omega), Bool.and_false]).symm (fun j hj => absurd hj (Nat.not_lt_zero j))
theorem s_Mo_ranked2 {x : Int64} {k : Int32} (H : MR h Q) (hR : ∀ h', Kp h h' 102 126 → MR h' (stQ Q (a_ranked (qS Q) x k).2) → R (some (.int (a_ranked (qS Q) x k).1)) h') : Ev G (d + 7) 0 0 M_Mo_ranked 0 [.ref 102, .long x, ev_unk, .int k] [] h R := by
  obtain ⟨bm, z, m1⟩ := H.2.1
  have hz := H.szN
  refine b_Mo_ranked_0 (d := d + 4) H.ms ⟨_, m1⟩ (fun c1 => m1) (fun c1 => ⟨_, m1⟩) (fun c1 c2 => m1) (fun c1 c2 => ⟨_, m1⟩) (fun c1 c2 => ⟨_, m1⟩) (fun c1 => H.fin (Kp.refl _ _ _) m1 hR (by unfold a_ranked; rw [b2i_e0 c1]; rfl)) (fun c1 c2 => H.fin (Kp.refl _ _ _) m1 hR (by unfold a_ranked; rw [b2i_n0 c1, if_pos c2]; rfl)) (fun c1 c2 => ?_)
  have e1 := b2i_n0 c1
  obtain ⟨kn, hk, rfl⟩ := nI_of c2
  have e : a_ranked (qS Q) x (nI kn) = if nI kn < nI (a_rk (qS Q) (ctP (qS Q)) x).1 then (nI ((a_rk (qS Q) (ctP (qS Q)) x).2.1 kn), 0) else (-1, 5) := by unfold a_ranked; rw [if_pos e1, if_neg c2, vN_nI (by omega)]
  rw [e] at hR
  refine s_cnt H fun h1 K1 H1 => ?_
  obtain ⟨bm, z, m1⟩ := H1.2.1
  refine b_Mo_ranked_25 (d := d + 4) ⟨_, m1⟩ ?_
  refine (s_Mo_ranks (d := d) H1 e1 (fun j q => ct_N q) fun h2 g K2 H2 m3 hg => ?_).room (by omega) (Nat.le_refl _) (Nat.le_refl _)
  obtain ⟨bm, z, m1⟩ := H2.2.1
  have K := (K1.wide (lo' := 102) (hi' := 126) (by omega) (by omega)).trans (K2.wide (by omega) (by omega))
  have n32 : (a_rk (qS Q) (ctP (qS Q)) x).1 ≤ 32 := by
    have : (a_rk (qS Q) (ctP (qS Q)) x).1 = cnt (ctP (qS Q)) 32 := rkS_n _ _ _
    rw [this]; exact cnt_le _ _
  refine b_Mo_ranked_28 (d := d + 4) (j16 := kn) m1 m3 (fun c => ?_) (fun _ => m1) (fun _ => m1) (fun _ => ⟨_, m1⟩) (fun c => ?_) (fun c => ?_)
  · exact ixn (by have := (nI_ltI hk (by omega)).mp c; omega) (by omega)
  · have lt := (nI_ltI hk (by omega)).mp c
    rw [hg kn lt]
    rw [if_pos c] at hR
    exact H2.fin (q := (nI ((a_rk (qS Q) (ctP (qS Q)) x).2.1 kn), 0)) K m1 hR rfl
  · rw [if_neg c] at hR
    exact H2.fin (q := (-1, 5)) K m1 hR rfl
end S54
