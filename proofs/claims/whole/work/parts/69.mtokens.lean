/-! the model's text: bytes, tokens, words, faults -/
def kdM (k : Nat) : Nat := if k = 0 then 0 else if k = 1 then 1 else if k = 97 then 2 else if k = 48 then 3 else 4
def pzM (L : Nat) (T : Tk) (dp : Int32) (y : Int64) : MP := (nI L, nI (kdM T.1), nI T.2.1, nI T.2.2, 0, dp, y)
def TxM (h : ev_H) (B : Nat → Nat) (L : Nat) : Prop := L ≤ 900 ∧ ∃ g, hat h 106 (aB 900 g) ∧ ∀ k, k < L → g k = sb (B k) ∧ B k < 256
def chM (B : Nat → Nat) (L j : Nat) : Int32 := if j < L then nI (B j) else -1
def smB (x : Int32) : Bool := decide (¬ x < 97) && decide (¬ (122 : Int32) < x)
def diB (x : Int32) : Bool := decide (¬ x < 48) && decide (¬ (57 : Int32) < x)
theorem TxM.kg {h h1 : ev_H} {B : Nat → Nat} {L lo hi : Nat} (X : TxM h B L) (K : Kg h h1 lo hi) (q : hi ≤ 106 ∨ 107 ≤ lo) : TxM h1 B L := by
  obtain ⟨a, g, b, c⟩ := X
  exact ⟨a, g, K.hat b (by omega), c⟩
theorem TxM.set {h : ev_H} {B : Nat → Nat} {L : Nat} {c : ev_C} (X : TxM h B L) : TxM (hset h 102 c) B L := X.kg ((Kp.refl h 102 103).set c (by omega) (by omega)).g (by omega)
theorem TxM.set3 {h : ev_H} {B : Nat → Nat} {L : Nat} {c : ev_C} (X : TxM h B L) : TxM (hset h 103 c) B L := X.kg ((Kp.refl h 103 104).set c (by omega) (by omega)).g (by omega)
theorem hset_hset (h : ev_H) (k : Nat) (c c' : ev_C) : hset (hset h k c) k c' = hset h k c' := by
  show (h.1, fun j => if j = k then c' else if j = k then c else h.2 j) = (h.1, fun j => if j = k then c' else h.2 j)
  congr 1
  funext j
  by_cases e : j = k
  · rw [if_pos e, if_pos e]
  · rw [if_neg e, if_neg e, if_neg e]
theorem hset_same {h : ev_H} {k : Nat} {c : ev_C} (m : hat h k c) : hset h k c = h := by
  show (h.1, fun j => if j = k then c else h.2 j) = h
  have : (fun j => if j = k then c else h.2 j) = h.2 := by
    funext j
    by_cases e : j = k
    · subst e; rw [if_pos rfl]; exact m.2.symm
    · rw [if_neg e]
  rw [this]
theorem b_Mo_byteAt_0 {G : ev_G} {d k n : Nat} {h : ev_H} {R : Option Value → ev_H → Prop} {x1 : Int32} {f_status_1 : Int32} {f_acts_2 : Int32} {f_marks_3 : Int32} {f_taped_4 : Int32} {f_size_5 : Int32} {f_token_6 : Int32} {f_begin_7 : Int32} {f_end_8 : Int32} {f_faults_9 : Int32} {f_faultPlace_10 : Int32} {f_faultKind_11 : Int32} {f_deep_12 : Int32} {f_value_13 : Int64} {f_broadMany_14 : Int32} {g15 : Nat → Int32} {j16 : Nat}
  (a1 : hat h 102 (oC 9 [.ref 103, .int f_status_1, .int f_acts_2, .int f_marks_3, .ref 104, .ref 105, .ref 106, .int f_taped_4, .int f_size_5, .int f_token_6, .int f_begin_7, .int f_end_8, .int f_faults_9, .int f_faultPlace_10, .int f_faultKind_11, .int f_deep_12, .long f_value_13, .ref 107, .ref 108, .ref 109, .ref 116, .int f_broadMany_14, .ref 124, .ref 125]))
  (a2 : hat h 106 (aB 900 g15))
  (i3 : x1 < f_size_5 → ev_ix x1 j16 900)
  (k1 : x1 < f_size_5 → R (some (.int ((g15 j16) &&& (255 : Int32)))) h)
  (k2 : ¬ x1 < f_size_5 → R (some (.int (-1 : Int32))) h)
  : Ev G d k n M_Mo_byteAt 0 [.ref 102, .int x1] [] h R :=
  Ev.go (pc' := 2) (ls' := [.ref 102, .int x1]) (st' := [.ref 102, .int x1]) [.iload_n 1, .aload_n 0] (by decide +kernel) rfl <|
  Ev.getf f_Mo_116 (by decide +kernel) a1 rfl <|
  Ev.br (i := .if_icmp .ge (16)) (P := x1 < f_size_5) (t := 8) (f := 21) (r := []) (by decide +kernel) rfl (fun c1 =>
    Ev.go (pc' := 9) (ls' := [.ref 102, .int x1]) (st' := [.ref 102]) [.aload_n 0] (by decide +kernel) rfl <|
    Ev.getf f_Mo_20 (by decide +kernel) a1 rfl <|
    Ev.go (pc' := 13) (ls' := [.ref 102, .int x1]) (st' := [.int x1, .ref 106]) [.iload_n 1] (by decide +kernel) rfl <|
    Ev.bald (j := j16) (by decide +kernel) a2 (i3 c1) <|
    Ev.go (pc' := 22) (ls' := [.ref 102, .int x1]) (st' := [.int ((g15 j16) &&& (255 : Int32))]) [.sipush (255), .iand, .goto (4)] (by decide +kernel) rfl <|
    Ev.ret (r := (some (.int ((g15 j16) &&& (255 : Int32))))) (Or.inl ⟨_, rfl, by decide +kernel, _, rfl, rfl⟩) (k1 c1)
  ) (fun c1 =>
    Ev.go (pc' := 22) (ls' := [.ref 102, .int x1]) (st' := [.int (-1 : Int32)]) [.iconst (-1)] (by decide +kernel) rfl <|
    Ev.ret (r := (some (.int (-1 : Int32)))) (Or.inl ⟨_, rfl, by decide +kernel, _, rfl, rfl⟩) (k2 c1)
  )
theorem b_Mo_isSmall_0 {G : ev_G} {d k n : Nat} {h : ev_H} {R : Option Value → ev_H → Prop} {x0 : Int32}
  (k1 : x0 < (97 : Int32) → R (some (.int (0 : Int32))) h)
  (k2 : ¬ x0 < (97 : Int32) → (122 : Int32) < x0 → R (some (.int (0 : Int32))) h)
  (k3 : ¬ x0 < (97 : Int32) → ¬ (122 : Int32) < x0 → R (some (.int (1 : Int32))) h)
  : Ev G d k n M_Mo_isSmall 0 [.int x0] [] h R :=
  Ev.go (pc' := 3) (ls' := [.int x0]) (st' := [.int (97 : Int32), .int x0]) [.iload_n 0, .bipush (97)] (by decide +kernel) rfl <|
  Ev.br (i := .if_icmp .lt (13)) (P := x0 < (97 : Int32)) (t := 16) (f := 6) (r := []) (by decide +kernel) rfl (fun c1 =>
    Ev.go (pc' := 17) (ls' := [.int x0]) (st' := [.int (0 : Int32)]) [.iconst 0] (by decide +kernel) rfl <|
    Ev.ret (r := (some (.int (0 : Int32)))) (Or.inl ⟨_, rfl, by decide +kernel, _, rfl, rfl⟩) (k1 c1)
  ) (fun c1 =>
    Ev.go (pc' := 9) (ls' := [.int x0]) (st' := [.int (122 : Int32), .int x0]) [.iload_n 0, .bipush (122)] (by decide +kernel) rfl <|
    Ev.br (i := .if_icmp .gt (7)) (P := (122 : Int32) < x0) (t := 16) (f := 12) (r := []) (by decide +kernel) rfl (fun c2 =>
      Ev.go (pc' := 17) (ls' := [.int x0]) (st' := [.int (0 : Int32)]) [.iconst 0] (by decide +kernel) rfl <|
      Ev.ret (r := (some (.int (0 : Int32)))) (Or.inl ⟨_, rfl, by decide +kernel, _, rfl, rfl⟩) (k2 c1 c2)
    ) (fun c2 =>
      Ev.go (pc' := 17) (ls' := [.int x0]) (st' := [.int (1 : Int32)]) [.iconst 1, .goto (4)] (by decide +kernel) rfl <|
      Ev.ret (r := (some (.int (1 : Int32)))) (Or.inl ⟨_, rfl, by decide +kernel, _, rfl, rfl⟩) (k3 c1 c2)
    )
  )
theorem b_Mo_isDigit_0 {G : ev_G} {d k n : Nat} {h : ev_H} {R : Option Value → ev_H → Prop} {x0 : Int32}
  (k1 : x0 < (48 : Int32) → R (some (.int (0 : Int32))) h)
  (k2 : ¬ x0 < (48 : Int32) → (57 : Int32) < x0 → R (some (.int (0 : Int32))) h)
  (k3 : ¬ x0 < (48 : Int32) → ¬ (57 : Int32) < x0 → R (some (.int (1 : Int32))) h)
  : Ev G d k n M_Mo_isDigit 0 [.int x0] [] h R :=
  Ev.go (pc' := 3) (ls' := [.int x0]) (st' := [.int (48 : Int32), .int x0]) [.iload_n 0, .bipush (48)] (by decide +kernel) rfl <|
  Ev.br (i := .if_icmp .lt (13)) (P := x0 < (48 : Int32)) (t := 16) (f := 6) (r := []) (by decide +kernel) rfl (fun c1 =>
    Ev.go (pc' := 17) (ls' := [.int x0]) (st' := [.int (0 : Int32)]) [.iconst 0] (by decide +kernel) rfl <|
    Ev.ret (r := (some (.int (0 : Int32)))) (Or.inl ⟨_, rfl, by decide +kernel, _, rfl, rfl⟩) (k1 c1)
  ) (fun c1 =>
    Ev.go (pc' := 9) (ls' := [.int x0]) (st' := [.int (57 : Int32), .int x0]) [.iload_n 0, .bipush (57)] (by decide +kernel) rfl <|
    Ev.br (i := .if_icmp .gt (7)) (P := (57 : Int32) < x0) (t := 16) (f := 12) (r := []) (by decide +kernel) rfl (fun c2 =>
      Ev.go (pc' := 17) (ls' := [.int x0]) (st' := [.int (0 : Int32)]) [.iconst 0] (by decide +kernel) rfl <|
      Ev.ret (r := (some (.int (0 : Int32)))) (Or.inl ⟨_, rfl, by decide +kernel, _, rfl, rfl⟩) (k2 c1 c2)
    ) (fun c2 =>
      Ev.go (pc' := 17) (ls' := [.int x0]) (st' := [.int (1 : Int32)]) [.iconst 1, .goto (4)] (by decide +kernel) rfl <|
      Ev.ret (r := (some (.int (1 : Int32)))) (Or.inl ⟨_, rfl, by decide +kernel, _, rfl, rfl⟩) (k3 c1 c2)
    )
  )
section S69a
variable {G : ev_G} {d : Nat} {h : ev_H} {R : Option Value → ev_H → Prop} {B : Nat → Nat} {L : Nat}
theorem s_Mo_byteAt {v : MG} {z : MP} {j : Nat} {x : Int32} (m1 : hat h 102 (moC v z)) (hz : z.1 = nI L) (X : TxM h B L) (hx : x = nI j ∧ j < 2147483648) (hR : R (some (.int (chM B L j))) h) : Ev G d 0 0 M_Mo_byteAt 0 [.ref 102, .int x] [] h R := by
  obtain ⟨rfl, hj⟩ := hx
  obtain ⟨hL, g, tx, tb⟩ := X
  unfold chM at hR
  refine b_Mo_byteAt_0 (j16 := j) m1 tx (fun c => ?_) (fun c => ?_) (fun c => ?_)
  · have c : nI j < z.1 := c
    rw [hz, nI_ltI (by omega) (by omega)] at c
    exact ixn (by omega) (by omega)
  · have c : nI j < z.1 := c
    rw [hz, nI_ltI (by omega) (by omega)] at c
    rw [(tb j c).1, sb_255 (tb j c).2]
    rw [if_pos c] at hR; exact hR
  · have c : ¬ nI j < z.1 := c
    rw [hz, nI_ltI (by omega) (by omega)] at c
    rw [if_neg c] at hR; exact hR
theorem s_Mo_isSmall {x : Int32} (hR : R (some (.int (b2i (smB x)))) h) : Ev G d 0 0 M_Mo_isSmall 0 [.int x] [] h R := by
  unfold smB at hR
  refine b_Mo_isSmall_0 (fun c => ?_) (fun c c2 => ?_) (fun c c2 => ?_)
  · rw [decide_eq_false (p := ¬ x < 97) (fun z => z c)] at hR; exact hR
  · rw [decide_eq_true (p := ¬ x < 97) c, decide_eq_false (p := ¬ (122 : Int32) < x) (fun z => z c2)] at hR; exact hR
  · rw [decide_eq_true (p := ¬ x < 97) c, decide_eq_true (p := ¬ (122 : Int32) < x) c2] at hR; exact hR
theorem s_Mo_isDigit {x : Int32} (hR : R (some (.int (b2i (diB x)))) h) : Ev G d 0 0 M_Mo_isDigit 0 [.int x] [] h R := by
  unfold diB at hR
  refine b_Mo_isDigit_0 (fun c => ?_) (fun c c2 => ?_) (fun c c2 => ?_)
  · rw [decide_eq_false (p := ¬ x < 48) (fun z => z c)] at hR; exact hR
  · rw [decide_eq_true (p := ¬ x < 48) c, decide_eq_false (p := ¬ (57 : Int32) < x) (fun z => z c2)] at hR; exact hR
  · rw [decide_eq_true (p := ¬ x < 48) c, decide_eq_true (p := ¬ (57 : Int32) < x) c2] at hR; exact hR
end S69a
theorem b_Mo_ahead_0 {G : ev_G} {d k n : Nat} {h : ev_H} {R : Option Value → ev_H → Prop} {f_status_1 : Int32} {f_acts_2 : Int32} {f_marks_3 : Int32} {f_taped_4 : Int32} {f_size_5 : Int32} {f_token_6 : Int32} {f_begin_7 : Int32} {f_end_8 : Int32} {f_faults_9 : Int32} {f_faultPlace_10 : Int32} {f_faultKind_11 : Int32} {f_deep_12 : Int32} {f_value_13 : Int64} {f_broadMany_14 : Int32} {v_15 : MG} {z_16 : MP} {B17 : Nat → Nat} {L18 : Nat} {j_19 : Nat} {v_20 : MG} {z_21 : MP} {B22 : Nat → Nat} {L23 : Nat} {j_24 : Nat} {v_25 : MG} {z_26 : MP} {B27 : Nat → Nat} {L28 : Nat} {j_29 : Nat}
  (a1 : hat h 102 (oC 9 [.ref 103, .int f_status_1, .int f_acts_2, .int f_marks_3, .ref 104, .ref 105, .ref 106, .int f_taped_4, .int f_size_5, .int f_token_6, .int f_begin_7, .int f_end_8, .int f_faults_9, .int f_faultPlace_10, .int f_faultKind_11, .int f_deep_12, .long f_value_13, .ref 107, .ref 108, .ref 109, .ref 116, .int f_broadMany_14, .ref 124, .ref 125]))
  (pr2 : hat h 102 (moC v_15 z_16))
  (pr3 : z_16.1 = nI L18)
  (pr4 : TxM h B17 L18)
  (pr5 : f_end_8 = nI j_19 ∧ j_19 < 2147483648)
  (pr6 : ¬ (chM B17 L18 j_19) = (32 : Int32) → hat h 102 (moC v_20 z_21))
  (pr7 : ¬ (chM B17 L18 j_19) = (32 : Int32) → z_21.1 = nI L23)
  (pr8 : ¬ (chM B17 L18 j_19) = (32 : Int32) → TxM h B22 L23)
  (pr9 : ¬ (chM B17 L18 j_19) = (32 : Int32) → f_end_8 = nI j_24 ∧ j_24 < 2147483648)
  (pr10 : ¬ (chM B17 L18 j_19) = (32 : Int32) → ¬ (chM B22 L23 j_24) = (10 : Int32) → hat (hset h 102 (oC 9 [.ref 103, .int f_status_1, .int f_acts_2, .int f_marks_3, .ref 104, .ref 105, .ref 106, .int f_taped_4, .int f_size_5, .int f_token_6, .int f_end_8, .int f_end_8, .int f_faults_9, .int f_faultPlace_10, .int f_faultKind_11, .int f_deep_12, .long f_value_13, .ref 107, .ref 108, .ref 109, .ref 116, .int f_broadMany_14, .ref 124, .ref 125])) 102 (moC v_25 z_26))
  (pr11 : ¬ (chM B17 L18 j_19) = (32 : Int32) → ¬ (chM B22 L23 j_24) = (10 : Int32) → z_26.1 = nI L28)
  (pr12 : ¬ (chM B17 L18 j_19) = (32 : Int32) → ¬ (chM B22 L23 j_24) = (10 : Int32) → TxM (hset h 102 (oC 9 [.ref 103, .int f_status_1, .int f_acts_2, .int f_marks_3, .ref 104, .ref 105, .ref 106, .int f_taped_4, .int f_size_5, .int f_token_6, .int f_end_8, .int f_end_8, .int f_faults_9, .int f_faultPlace_10, .int f_faultKind_11, .int f_deep_12, .long f_value_13, .ref 107, .ref 108, .ref 109, .ref 116, .int f_broadMany_14, .ref 124, .ref 125])) B27 L28)
  (pr13 : ¬ (chM B17 L18 j_19) = (32 : Int32) → ¬ (chM B22 L23 j_24) = (10 : Int32) → f_end_8 = nI j_29 ∧ j_29 < 2147483648)
  (k1 : (chM B17 L18 j_19) = (32 : Int32) → Ev G (d + 1) k n M_Mo_ahead 0 [.ref 102, ev_unk] [] (hset h 102 (oC 9 [.ref 103, .int f_status_1, .int f_acts_2, .int f_marks_3, .ref 104, .ref 105, .ref 106, .int f_taped_4, .int f_size_5, .int f_token_6, .int f_begin_7, .int (f_end_8 + (1 : Int32)), .int f_faults_9, .int f_faultPlace_10, .int f_faultKind_11, .int f_deep_12, .long f_value_13, .ref 107, .ref 108, .ref 109, .ref 116, .int f_broadMany_14, .ref 124, .ref 125])) R)
  (k2 : ¬ (chM B17 L18 j_19) = (32 : Int32) → (chM B22 L23 j_24) = (10 : Int32) → Ev G (d + 1) k n M_Mo_ahead 0 [.ref 102, ev_unk] [] (hset h 102 (oC 9 [.ref 103, .int f_status_1, .int f_acts_2, .int f_marks_3, .ref 104, .ref 105, .ref 106, .int f_taped_4, .int f_size_5, .int f_token_6, .int f_begin_7, .int (f_end_8 + (1 : Int32)), .int f_faults_9, .int f_faultPlace_10, .int f_faultKind_11, .int f_deep_12, .long f_value_13, .ref 107, .ref 108, .ref 109, .ref 116, .int f_broadMany_14, .ref 124, .ref 125])) R)
  (k3 : ¬ (chM B17 L18 j_19) = (32 : Int32) → ¬ (chM B22 L23 j_24) = (10 : Int32) → (chM B27 L28 j_29) = (-1 : Int32) → R none (hset (hset h 102 (oC 9 [.ref 103, .int f_status_1, .int f_acts_2, .int f_marks_3, .ref 104, .ref 105, .ref 106, .int f_taped_4, .int f_size_5, .int f_token_6, .int f_end_8, .int f_end_8, .int f_faults_9, .int f_faultPlace_10, .int f_faultKind_11, .int f_deep_12, .long f_value_13, .ref 107, .ref 108, .ref 109, .ref 116, .int f_broadMany_14, .ref 124, .ref 125])) 102 (oC 9 [.ref 103, .int f_status_1, .int f_acts_2, .int f_marks_3, .ref 104, .ref 105, .ref 106, .int f_taped_4, .int f_size_5, .int (0 : Int32), .int f_end_8, .int f_end_8, .int f_faults_9, .int f_faultPlace_10, .int f_faultKind_11, .int f_deep_12, .long f_value_13, .ref 107, .ref 108, .ref 109, .ref 116, .int f_broadMany_14, .ref 124, .ref 125])))
  (k4 : ¬ (chM B17 L18 j_19) = (32 : Int32) → ¬ (chM B22 L23 j_24) = (10 : Int32) → ¬ (chM B27 L28 j_29) = (-1 : Int32) → (b2i (smB (chM B27 L28 j_29))) = (0 : Int32) → (b2i (diB (chM B27 L28 j_29))) = (0 : Int32) → (chM B27 L28 j_29) = (60 : Int32) → R none (hset (hset (hset h 102 (oC 9 [.ref 103, .int f_status_1, .int f_acts_2, .int f_marks_3, .ref 104, .ref 105, .ref 106, .int f_taped_4, .int f_size_5, .int f_token_6, .int f_end_8, .int f_end_8, .int f_faults_9, .int f_faultPlace_10, .int f_faultKind_11, .int f_deep_12, .long f_value_13, .ref 107, .ref 108, .ref 109, .ref 116, .int f_broadMany_14, .ref 124, .ref 125])) 102 (oC 9 [.ref 103, .int f_status_1, .int f_acts_2, .int f_marks_3, .ref 104, .ref 105, .ref 106, .int f_taped_4, .int f_size_5, .int f_token_6, .int f_end_8, .int (f_end_8 + (1 : Int32)), .int f_faults_9, .int f_faultPlace_10, .int f_faultKind_11, .int f_deep_12, .long f_value_13, .ref 107, .ref 108, .ref 109, .ref 116, .int f_broadMany_14, .ref 124, .ref 125])) 102 (oC 9 [.ref 103, .int f_status_1, .int f_acts_2, .int f_marks_3, .ref 104, .ref 105, .ref 106, .int f_taped_4, .int f_size_5, .int (4 : Int32), .int f_end_8, .int (f_end_8 + (1 : Int32)), .int f_faults_9, .int f_faultPlace_10, .int f_faultKind_11, .int f_deep_12, .long f_value_13, .ref 107, .ref 108, .ref 109, .ref 116, .int f_broadMany_14, .ref 124, .ref 125])))
  (k5 : ¬ (chM B17 L18 j_19) = (32 : Int32) → ¬ (chM B22 L23 j_24) = (10 : Int32) → ¬ (chM B27 L28 j_29) = (-1 : Int32) → (b2i (smB (chM B27 L28 j_29))) = (0 : Int32) → (b2i (diB (chM B27 L28 j_29))) = (0 : Int32) → ¬ (chM B27 L28 j_29) = (60 : Int32) → (chM B27 L28 j_29) = (61 : Int32) → R none (hset (hset (hset h 102 (oC 9 [.ref 103, .int f_status_1, .int f_acts_2, .int f_marks_3, .ref 104, .ref 105, .ref 106, .int f_taped_4, .int f_size_5, .int f_token_6, .int f_end_8, .int f_end_8, .int f_faults_9, .int f_faultPlace_10, .int f_faultKind_11, .int f_deep_12, .long f_value_13, .ref 107, .ref 108, .ref 109, .ref 116, .int f_broadMany_14, .ref 124, .ref 125])) 102 (oC 9 [.ref 103, .int f_status_1, .int f_acts_2, .int f_marks_3, .ref 104, .ref 105, .ref 106, .int f_taped_4, .int f_size_5, .int f_token_6, .int f_end_8, .int (f_end_8 + (1 : Int32)), .int f_faults_9, .int f_faultPlace_10, .int f_faultKind_11, .int f_deep_12, .long f_value_13, .ref 107, .ref 108, .ref 109, .ref 116, .int f_broadMany_14, .ref 124, .ref 125])) 102 (oC 9 [.ref 103, .int f_status_1, .int f_acts_2, .int f_marks_3, .ref 104, .ref 105, .ref 106, .int f_taped_4, .int f_size_5, .int (4 : Int32), .int f_end_8, .int (f_end_8 + (1 : Int32)), .int f_faults_9, .int f_faultPlace_10, .int f_faultKind_11, .int f_deep_12, .long f_value_13, .ref 107, .ref 108, .ref 109, .ref 116, .int f_broadMany_14, .ref 124, .ref 125])))
  (k6 : ¬ (chM B17 L18 j_19) = (32 : Int32) → ¬ (chM B22 L23 j_24) = (10 : Int32) → ¬ (chM B27 L28 j_29) = (-1 : Int32) → (b2i (smB (chM B27 L28 j_29))) = (0 : Int32) → (b2i (diB (chM B27 L28 j_29))) = (0 : Int32) → ¬ (chM B27 L28 j_29) = (60 : Int32) → ¬ (chM B27 L28 j_29) = (61 : Int32) → (chM B27 L28 j_29) = (62 : Int32) → R none (hset (hset (hset h 102 (oC 9 [.ref 103, .int f_status_1, .int f_acts_2, .int f_marks_3, .ref 104, .ref 105, .ref 106, .int f_taped_4, .int f_size_5, .int f_token_6, .int f_end_8, .int f_end_8, .int f_faults_9, .int f_faultPlace_10, .int f_faultKind_11, .int f_deep_12, .long f_value_13, .ref 107, .ref 108, .ref 109, .ref 116, .int f_broadMany_14, .ref 124, .ref 125])) 102 (oC 9 [.ref 103, .int f_status_1, .int f_acts_2, .int f_marks_3, .ref 104, .ref 105, .ref 106, .int f_taped_4, .int f_size_5, .int f_token_6, .int f_end_8, .int (f_end_8 + (1 : Int32)), .int f_faults_9, .int f_faultPlace_10, .int f_faultKind_11, .int f_deep_12, .long f_value_13, .ref 107, .ref 108, .ref 109, .ref 116, .int f_broadMany_14, .ref 124, .ref 125])) 102 (oC 9 [.ref 103, .int f_status_1, .int f_acts_2, .int f_marks_3, .ref 104, .ref 105, .ref 106, .int f_taped_4, .int f_size_5, .int (4 : Int32), .int f_end_8, .int (f_end_8 + (1 : Int32)), .int f_faults_9, .int f_faultPlace_10, .int f_faultKind_11, .int f_deep_12, .long f_value_13, .ref 107, .ref 108, .ref 109, .ref 116, .int f_broadMany_14, .ref 124, .ref 125])))
  (k7 : ¬ (chM B17 L18 j_19) = (32 : Int32) → ¬ (chM B22 L23 j_24) = (10 : Int32) → ¬ (chM B27 L28 j_29) = (-1 : Int32) → (b2i (smB (chM B27 L28 j_29))) = (0 : Int32) → (b2i (diB (chM B27 L28 j_29))) = (0 : Int32) → ¬ (chM B27 L28 j_29) = (60 : Int32) → ¬ (chM B27 L28 j_29) = (61 : Int32) → ¬ (chM B27 L28 j_29) = (62 : Int32) → (chM B27 L28 j_29) = (91 : Int32) → R none (hset (hset (hset h 102 (oC 9 [.ref 103, .int f_status_1, .int f_acts_2, .int f_marks_3, .ref 104, .ref 105, .ref 106, .int f_taped_4, .int f_size_5, .int f_token_6, .int f_end_8, .int f_end_8, .int f_faults_9, .int f_faultPlace_10, .int f_faultKind_11, .int f_deep_12, .long f_value_13, .ref 107, .ref 108, .ref 109, .ref 116, .int f_broadMany_14, .ref 124, .ref 125])) 102 (oC 9 [.ref 103, .int f_status_1, .int f_acts_2, .int f_marks_3, .ref 104, .ref 105, .ref 106, .int f_taped_4, .int f_size_5, .int f_token_6, .int f_end_8, .int (f_end_8 + (1 : Int32)), .int f_faults_9, .int f_faultPlace_10, .int f_faultKind_11, .int f_deep_12, .long f_value_13, .ref 107, .ref 108, .ref 109, .ref 116, .int f_broadMany_14, .ref 124, .ref 125])) 102 (oC 9 [.ref 103, .int f_status_1, .int f_acts_2, .int f_marks_3, .ref 104, .ref 105, .ref 106, .int f_taped_4, .int f_size_5, .int (4 : Int32), .int f_end_8, .int (f_end_8 + (1 : Int32)), .int f_faults_9, .int f_faultPlace_10, .int f_faultKind_11, .int f_deep_12, .long f_value_13, .ref 107, .ref 108, .ref 109, .ref 116, .int f_broadMany_14, .ref 124, .ref 125])))
  (k8 : ¬ (chM B17 L18 j_19) = (32 : Int32) → ¬ (chM B22 L23 j_24) = (10 : Int32) → ¬ (chM B27 L28 j_29) = (-1 : Int32) → (b2i (smB (chM B27 L28 j_29))) = (0 : Int32) → (b2i (diB (chM B27 L28 j_29))) = (0 : Int32) → ¬ (chM B27 L28 j_29) = (60 : Int32) → ¬ (chM B27 L28 j_29) = (61 : Int32) → ¬ (chM B27 L28 j_29) = (62 : Int32) → ¬ (chM B27 L28 j_29) = (91 : Int32) → (chM B27 L28 j_29) = (93 : Int32) → R none (hset (hset (hset h 102 (oC 9 [.ref 103, .int f_status_1, .int f_acts_2, .int f_marks_3, .ref 104, .ref 105, .ref 106, .int f_taped_4, .int f_size_5, .int f_token_6, .int f_end_8, .int f_end_8, .int f_faults_9, .int f_faultPlace_10, .int f_faultKind_11, .int f_deep_12, .long f_value_13, .ref 107, .ref 108, .ref 109, .ref 116, .int f_broadMany_14, .ref 124, .ref 125])) 102 (oC 9 [.ref 103, .int f_status_1, .int f_acts_2, .int f_marks_3, .ref 104, .ref 105, .ref 106, .int f_taped_4, .int f_size_5, .int f_token_6, .int f_end_8, .int (f_end_8 + (1 : Int32)), .int f_faults_9, .int f_faultPlace_10, .int f_faultKind_11, .int f_deep_12, .long f_value_13, .ref 107, .ref 108, .ref 109, .ref 116, .int f_broadMany_14, .ref 124, .ref 125])) 102 (oC 9 [.ref 103, .int f_status_1, .int f_acts_2, .int f_marks_3, .ref 104, .ref 105, .ref 106, .int f_taped_4, .int f_size_5, .int (4 : Int32), .int f_end_8, .int (f_end_8 + (1 : Int32)), .int f_faults_9, .int f_faultPlace_10, .int f_faultKind_11, .int f_deep_12, .long f_value_13, .ref 107, .ref 108, .ref 109, .ref 116, .int f_broadMany_14, .ref 124, .ref 125])))
  (k9 : ¬ (chM B17 L18 j_19) = (32 : Int32) → ¬ (chM B22 L23 j_24) = (10 : Int32) → ¬ (chM B27 L28 j_29) = (-1 : Int32) → (b2i (smB (chM B27 L28 j_29))) = (0 : Int32) → (b2i (diB (chM B27 L28 j_29))) = (0 : Int32) → ¬ (chM B27 L28 j_29) = (60 : Int32) → ¬ (chM B27 L28 j_29) = (61 : Int32) → ¬ (chM B27 L28 j_29) = (62 : Int32) → ¬ (chM B27 L28 j_29) = (91 : Int32) → ¬ (chM B27 L28 j_29) = (93 : Int32) → (chM B27 L28 j_29) = (59 : Int32) → R none (hset (hset (hset h 102 (oC 9 [.ref 103, .int f_status_1, .int f_acts_2, .int f_marks_3, .ref 104, .ref 105, .ref 106, .int f_taped_4, .int f_size_5, .int f_token_6, .int f_end_8, .int f_end_8, .int f_faults_9, .int f_faultPlace_10, .int f_faultKind_11, .int f_deep_12, .long f_value_13, .ref 107, .ref 108, .ref 109, .ref 116, .int f_broadMany_14, .ref 124, .ref 125])) 102 (oC 9 [.ref 103, .int f_status_1, .int f_acts_2, .int f_marks_3, .ref 104, .ref 105, .ref 106, .int f_taped_4, .int f_size_5, .int f_token_6, .int f_end_8, .int (f_end_8 + (1 : Int32)), .int f_faults_9, .int f_faultPlace_10, .int f_faultKind_11, .int f_deep_12, .long f_value_13, .ref 107, .ref 108, .ref 109, .ref 116, .int f_broadMany_14, .ref 124, .ref 125])) 102 (oC 9 [.ref 103, .int f_status_1, .int f_acts_2, .int f_marks_3, .ref 104, .ref 105, .ref 106, .int f_taped_4, .int f_size_5, .int (4 : Int32), .int f_end_8, .int (f_end_8 + (1 : Int32)), .int f_faults_9, .int f_faultPlace_10, .int f_faultKind_11, .int f_deep_12, .long f_value_13, .ref 107, .ref 108, .ref 109, .ref 116, .int f_broadMany_14, .ref 124, .ref 125])))
  (k10 : ¬ (chM B17 L18 j_19) = (32 : Int32) → ¬ (chM B22 L23 j_24) = (10 : Int32) → ¬ (chM B27 L28 j_29) = (-1 : Int32) → (b2i (smB (chM B27 L28 j_29))) = (0 : Int32) → (b2i (diB (chM B27 L28 j_29))) = (0 : Int32) → ¬ (chM B27 L28 j_29) = (60 : Int32) → ¬ (chM B27 L28 j_29) = (61 : Int32) → ¬ (chM B27 L28 j_29) = (62 : Int32) → ¬ (chM B27 L28 j_29) = (91 : Int32) → ¬ (chM B27 L28 j_29) = (93 : Int32) → ¬ (chM B27 L28 j_29) = (59 : Int32) → R none (hset (hset (hset h 102 (oC 9 [.ref 103, .int f_status_1, .int f_acts_2, .int f_marks_3, .ref 104, .ref 105, .ref 106, .int f_taped_4, .int f_size_5, .int f_token_6, .int f_end_8, .int f_end_8, .int f_faults_9, .int f_faultPlace_10, .int f_faultKind_11, .int f_deep_12, .long f_value_13, .ref 107, .ref 108, .ref 109, .ref 116, .int f_broadMany_14, .ref 124, .ref 125])) 102 (oC 9 [.ref 103, .int f_status_1, .int f_acts_2, .int f_marks_3, .ref 104, .ref 105, .ref 106, .int f_taped_4, .int f_size_5, .int f_token_6, .int f_end_8, .int (f_end_8 + (1 : Int32)), .int f_faults_9, .int f_faultPlace_10, .int f_faultKind_11, .int f_deep_12, .long f_value_13, .ref 107, .ref 108, .ref 109, .ref 116, .int f_broadMany_14, .ref 124, .ref 125])) 102 (oC 9 [.ref 103, .int f_status_1, .int f_acts_2, .int f_marks_3, .ref 104, .ref 105, .ref 106, .int f_taped_4, .int f_size_5, .int (1 : Int32), .int f_end_8, .int (f_end_8 + (1 : Int32)), .int f_faults_9, .int f_faultPlace_10, .int f_faultKind_11, .int f_deep_12, .long f_value_13, .ref 107, .ref 108, .ref 109, .ref 116, .int f_broadMany_14, .ref 124, .ref 125])))
  (k11 : ¬ (chM B17 L18 j_19) = (32 : Int32) → ¬ (chM B22 L23 j_24) = (10 : Int32) → ¬ (chM B27 L28 j_29) = (-1 : Int32) → (b2i (smB (chM B27 L28 j_29))) = (0 : Int32) → ¬ (b2i (diB (chM B27 L28 j_29))) = (0 : Int32) → Ev G (d + 1) k n M_Mo_ahead 118 [.ref 102, .int (chM B27 L28 j_29)] [] (hset h 102 (oC 9 [.ref 103, .int f_status_1, .int f_acts_2, .int f_marks_3, .ref 104, .ref 105, .ref 106, .int f_taped_4, .int f_size_5, .int f_token_6, .int f_end_8, .int f_end_8, .int f_faults_9, .int f_faultPlace_10, .int f_faultKind_11, .int f_deep_12, .long f_value_13, .ref 107, .ref 108, .ref 109, .ref 116, .int f_broadMany_14, .ref 124, .ref 125])) R)
  (k12 : ¬ (chM B17 L18 j_19) = (32 : Int32) → ¬ (chM B22 L23 j_24) = (10 : Int32) → ¬ (chM B27 L28 j_29) = (-1 : Int32) → ¬ (b2i (smB (chM B27 L28 j_29))) = (0 : Int32) → Ev G (d + 1) k n M_Mo_ahead 76 [.ref 102, .int (chM B27 L28 j_29)] [] (hset h 102 (oC 9 [.ref 103, .int f_status_1, .int f_acts_2, .int f_marks_3, .ref 104, .ref 105, .ref 106, .int f_taped_4, .int f_size_5, .int f_token_6, .int f_end_8, .int f_end_8, .int f_faults_9, .int f_faultPlace_10, .int f_faultKind_11, .int f_deep_12, .long f_value_13, .ref 107, .ref 108, .ref 109, .ref 116, .int f_broadMany_14, .ref 124, .ref 125])) R)
  : Ev G (d + 1) k n M_Mo_ahead 0 [.ref 102, ev_unk] [] h R :=
  Ev.go (pc' := 2) (ls' := [.ref 102, ev_unk]) (st' := [.ref 102, .ref 102]) [.aload_n 0, .aload_n 0] (by decide +kernel) rfl <|
  Ev.getf f_Mo_119 (by decide +kernel) a1 rfl <|
  Ev.cV0 (M' := M_Mo_byteAt) (as := [.int f_end_8]) (rest := []) l_Mo_122 M_Mo_byteAt_ok M_Mo_byteAt_in M_Mo_byteAt_se (by decide +kernel) ⟨_, a1⟩ rfl rfl rfl (Nat.le_of_ble_eq_true rfl) (Nat.le_of_ble_eq_true rfl) (s_Mo_byteAt pr2 pr3 pr4 pr5 <| show Ev G (d + 1) _ _ M_Mo_ahead 8 [.ref 102, ev_unk] [.int (chM B17 L18 j_19)] h R from
    Ev.go (pc' := 10) (ls' := [.ref 102, ev_unk]) (st' := [.int (32 : Int32), .int (chM B17 L18 j_19)]) [.bipush (32)] (by decide +kernel) rfl <|
    Ev.br (i := .if_icmp .eq (16)) (P := (chM B17 L18 j_19) = (32 : Int32)) (t := 26) (f := 13) (r := []) (by decide +kernel) rfl (fun c1 =>
      Ev.go (pc' := 28) (ls' := [.ref 102, ev_unk]) (st' := [.ref 102, .ref 102]) [.aload_n 0, .dup] (by decide +kernel) rfl <|
      Ev.getf f_Mo_119 (by decide +kernel) a1 rfl <|
      Ev.go (pc' := 33) (ls' := [.ref 102, ev_unk]) (st' := [.int (f_end_8 + (1 : Int32)), .ref 102]) [.iconst 1, .iadd] (by decide +kernel) rfl <|
      Ev.putf f_Mo_119 (by decide +kernel) a1 (Nat.le_of_ble_eq_true rfl) rfl (fun q => nomatch q) <| show Ev G (d + 1) _ _ M_Mo_ahead 36 [.ref 102, ev_unk] [] (hset h 102 (oC 9 [.ref 103, .int f_status_1, .int f_acts_2, .int f_marks_3, .ref 104, .ref 105, .ref 106, .int f_taped_4, .int f_size_5, .int f_token_6, .int f_begin_7, .int (f_end_8 + (1 : Int32)), .int f_faults_9, .int f_faultPlace_10, .int f_faultKind_11, .int f_deep_12, .long f_value_13, .ref 107, .ref 108, .ref 109, .ref 116, .int f_broadMany_14, .ref 124, .ref 125])) R from
      Ev.go (pc' := 0) (ls' := [.ref 102, ev_unk]) (st' := []) [.goto (-36)] (by decide +kernel) rfl <|
      (k1 c1)
    ) (fun c1 =>
      Ev.go (pc' := 15) (ls' := [.ref 102, ev_unk]) (st' := [.ref 102, .ref 102]) [.aload_n 0, .aload_n 0] (by decide +kernel) rfl <|
      Ev.getf f_Mo_119 (by decide +kernel) a1 rfl <|
      Ev.cV0 (M' := M_Mo_byteAt) (as := [.int f_end_8]) (rest := []) l_Mo_122 M_Mo_byteAt_ok M_Mo_byteAt_in M_Mo_byteAt_se (by decide +kernel) ⟨_, a1⟩ rfl rfl rfl (Nat.le_of_ble_eq_true rfl) (Nat.le_of_ble_eq_true rfl) (s_Mo_byteAt (pr6 c1) (pr7 c1) (pr8 c1) (pr9 c1) <| show Ev G (d + 1) _ _ M_Mo_ahead 21 [.ref 102, ev_unk] [.int (chM B22 L23 j_24)] h R from
        Ev.go (pc' := 23) (ls' := [.ref 102, ev_unk]) (st' := [.int (10 : Int32), .int (chM B22 L23 j_24)]) [.bipush (10)] (by decide +kernel) rfl <|
        Ev.br (i := .if_icmp .ne (16)) (P := (chM B22 L23 j_24) = (10 : Int32)) (t := 26) (f := 39) (r := []) (by decide +kernel) rfl (fun c2 =>
          Ev.go (pc' := 28) (ls' := [.ref 102, ev_unk]) (st' := [.ref 102, .ref 102]) [.aload_n 0, .dup] (by decide +kernel) rfl <|
          Ev.getf f_Mo_119 (by decide +kernel) a1 rfl <|
          Ev.go (pc' := 33) (ls' := [.ref 102, ev_unk]) (st' := [.int (f_end_8 + (1 : Int32)), .ref 102]) [.iconst 1, .iadd] (by decide +kernel) rfl <|
          Ev.putf f_Mo_119 (by decide +kernel) a1 (Nat.le_of_ble_eq_true rfl) rfl (fun q => nomatch q) <| show Ev G (d + 1) _ _ M_Mo_ahead 36 [.ref 102, ev_unk] [] (hset h 102 (oC 9 [.ref 103, .int f_status_1, .int f_acts_2, .int f_marks_3, .ref 104, .ref 105, .ref 106, .int f_taped_4, .int f_size_5, .int f_token_6, .int f_begin_7, .int (f_end_8 + (1 : Int32)), .int f_faults_9, .int f_faultPlace_10, .int f_faultKind_11, .int f_deep_12, .long f_value_13, .ref 107, .ref 108, .ref 109, .ref 116, .int f_broadMany_14, .ref 124, .ref 125])) R from
          Ev.go (pc' := 0) (ls' := [.ref 102, ev_unk]) (st' := []) [.goto (-36)] (by decide +kernel) rfl <|
          (k2 c1 c2)
        ) (fun c2 =>
          Ev.go (pc' := 41) (ls' := [.ref 102, ev_unk]) (st' := [.ref 102, .ref 102]) [.aload_n 0, .aload_n 0] (by decide +kernel) rfl <|
          Ev.getf f_Mo_119 (by decide +kernel) a1 rfl <|
          Ev.putf f_Mo_125 (by decide +kernel) a1 (Nat.le_of_ble_eq_true rfl) rfl (fun q => nomatch q) <| show Ev G (d + 1) _ _ M_Mo_ahead 47 [.ref 102, ev_unk] [] (hset h 102 (oC 9 [.ref 103, .int f_status_1, .int f_acts_2, .int f_marks_3, .ref 104, .ref 105, .ref 106, .int f_taped_4, .int f_size_5, .int f_token_6, .int f_end_8, .int f_end_8, .int f_faults_9, .int f_faultPlace_10, .int f_faultKind_11, .int f_deep_12, .long f_value_13, .ref 107, .ref 108, .ref 109, .ref 116, .int f_broadMany_14, .ref 124, .ref 125])) R from
          Ev.go (pc' := 49) (ls' := [.ref 102, ev_unk]) (st' := [.ref 102, .ref 102]) [.aload_n 0, .aload_n 0] (by decide +kernel) rfl <|
          Ev.getf f_Mo_119 (by decide +kernel) (hat_set a1) rfl <|
          Ev.cV0 (M' := M_Mo_byteAt) (as := [.int f_end_8]) (rest := []) l_Mo_122 M_Mo_byteAt_ok M_Mo_byteAt_in M_Mo_byteAt_se (by decide +kernel) ⟨_, (hat_set a1)⟩ rfl rfl rfl (Nat.le_of_ble_eq_true rfl) (Nat.le_of_ble_eq_true rfl) (s_Mo_byteAt (pr10 c1 c2) (pr11 c1 c2) (pr12 c1 c2) (pr13 c1 c2) <| show Ev G (d + 1) _ _ M_Mo_ahead 55 [.ref 102, ev_unk] [.int (chM B27 L28 j_29)] (hset h 102 (oC 9 [.ref 103, .int f_status_1, .int f_acts_2, .int f_marks_3, .ref 104, .ref 105, .ref 106, .int f_taped_4, .int f_size_5, .int f_token_6, .int f_end_8, .int f_end_8, .int f_faults_9, .int f_faultPlace_10, .int f_faultKind_11, .int f_deep_12, .long f_value_13, .ref 107, .ref 108, .ref 109, .ref 116, .int f_broadMany_14, .ref 124, .ref 125])) R from
            Ev.go (pc' := 58) (ls' := [.ref 102, .int (chM B27 L28 j_29)]) (st' := [.int (-1 : Int32), .int (chM B27 L28 j_29)]) [.istore_n 1, .iload_n 1, .iconst (-1)] (by decide +kernel) rfl <|
            Ev.br (i := .if_icmp .ne (11)) (P := (chM B27 L28 j_29) = (-1 : Int32)) (t := 61) (f := 69) (r := []) (by decide +kernel) rfl (fun c3 =>
              Ev.go (pc' := 63) (ls' := [.ref 102, .int (chM B27 L28 j_29)]) (st' := [.int (0 : Int32), .ref 102]) [.aload_n 0, .iconst 0] (by decide +kernel) rfl <|
              Ev.putf f_Mo_128 (by decide +kernel) (hat_set a1) (Nat.le_of_ble_eq_true rfl) rfl (fun q => nomatch q) <| show Ev G (d + 1) _ _ M_Mo_ahead 66 [.ref 102, .int (chM B27 L28 j_29)] [] (hset (hset h 102 (oC 9 [.ref 103, .int f_status_1, .int f_acts_2, .int f_marks_3, .ref 104, .ref 105, .ref 106, .int f_taped_4, .int f_size_5, .int f_token_6, .int f_end_8, .int f_end_8, .int f_faults_9, .int f_faultPlace_10, .int f_faultKind_11, .int f_deep_12, .long f_value_13, .ref 107, .ref 108, .ref 109, .ref 116, .int f_broadMany_14, .ref 124, .ref 125])) 102 (oC 9 [.ref 103, .int f_status_1, .int f_acts_2, .int f_marks_3, .ref 104, .ref 105, .ref 106, .int f_taped_4, .int f_size_5, .int (0 : Int32), .int f_end_8, .int f_end_8, .int f_faults_9, .int f_faultPlace_10, .int f_faultKind_11, .int f_deep_12, .long f_value_13, .ref 107, .ref 108, .ref 109, .ref 116, .int f_broadMany_14, .ref 124, .ref 125])) R from
              Ev.go (pc' := 226) (ls' := [.ref 102, .int (chM B27 L28 j_29)]) (st' := []) [.goto (160)] (by decide +kernel) rfl <|
              Ev.ret (r := none) (Or.inr (Or.inr (Or.inl ⟨rfl, by decide +kernel, rfl⟩))) (k3 c1 c2 c3)
            ) (fun c3 =>
              Ev.go (pc' := 70) (ls' := [.ref 102, .int (chM B27 L28 j_29)]) (st' := [.int (chM B27 L28 j_29)]) [.iload_n 1] (by decide +kernel) rfl <|
              Ev.cS0 (M' := M_Mo_isSmall) (as := [.int (chM B27 L28 j_29)]) (rest := []) l_Mo_131 M_Mo_isSmall_ok M_Mo_isSmall_st (by decide +kernel) rfl rfl (Nat.le_of_ble_eq_true rfl) (Nat.le_of_ble_eq_true rfl) (s_Mo_isSmall <| show Ev G (d + 1) _ _ M_Mo_ahead 73 [.ref 102, .int (chM B27 L28 j_29)] [.int (b2i (smB (chM B27 L28 j_29)))] (hset h 102 (oC 9 [.ref 103, .int f_status_1, .int f_acts_2, .int f_marks_3, .ref 104, .ref 105, .ref 106, .int f_taped_4, .int f_size_5, .int f_token_6, .int f_end_8, .int f_end_8, .int f_faults_9, .int f_faultPlace_10, .int f_faultKind_11, .int f_deep_12, .long f_value_13, .ref 107, .ref 108, .ref 109, .ref 116, .int f_broadMany_14, .ref 124, .ref 125])) R from
                Ev.br (i := .ifCond .eq (38)) (P := (b2i (smB (chM B27 L28 j_29))) = (0 : Int32)) (t := 111) (f := 76) (r := []) (by decide +kernel) rfl (fun c4 =>
                  Ev.go (pc' := 112) (ls' := [.ref 102, .int (chM B27 L28 j_29)]) (st' := [.int (chM B27 L28 j_29)]) [.iload_n 1] (by decide +kernel) rfl <|
                  Ev.cS0 (M' := M_Mo_isDigit) (as := [.int (chM B27 L28 j_29)]) (rest := []) l_Mo_134 M_Mo_isDigit_ok M_Mo_isDigit_st (by decide +kernel) rfl rfl (Nat.le_of_ble_eq_true rfl) (Nat.le_of_ble_eq_true rfl) (s_Mo_isDigit <| show Ev G (d + 1) _ _ M_Mo_ahead 115 [.ref 102, .int (chM B27 L28 j_29)] [.int (b2i (diB (chM B27 L28 j_29)))] (hset h 102 (oC 9 [.ref 103, .int f_status_1, .int f_acts_2, .int f_marks_3, .ref 104, .ref 105, .ref 106, .int f_taped_4, .int f_size_5, .int f_token_6, .int f_end_8, .int f_end_8, .int f_faults_9, .int f_faultPlace_10, .int f_faultKind_11, .int f_deep_12, .long f_value_13, .ref 107, .ref 108, .ref 109, .ref 116, .int f_broadMany_14, .ref 124, .ref 125])) R from
                    Ev.br (i := .ifCond .eq (56)) (P := (b2i (diB (chM B27 L28 j_29))) = (0 : Int32)) (t := 171) (f := 118) (r := []) (by decide +kernel) rfl (fun c5 =>
                      Ev.go (pc' := 173) (ls' := [.ref 102, .int (chM B27 L28 j_29)]) (st' := [.ref 102, .ref 102]) [.aload_n 0, .dup] (by decide +kernel) rfl <|
                      Ev.getf f_Mo_119 (by decide +kernel) (hat_set a1) rfl <|
                      Ev.go (pc' := 178) (ls' := [.ref 102, .int (chM B27 L28 j_29)]) (st' := [.int (f_end_8 + (1 : Int32)), .ref 102]) [.iconst 1, .iadd] (by decide +kernel) rfl <|
                      Ev.putf f_Mo_119 (by decide +kernel) (hat_set a1) (Nat.le_of_ble_eq_true rfl) rfl (fun q => nomatch q) <| show Ev G (d + 1) _ _ M_Mo_ahead 181 [.ref 102, .int (chM B27 L28 j_29)] [] (hset (hset h 102 (oC 9 [.ref 103, .int f_status_1, .int f_acts_2, .int f_marks_3, .ref 104, .ref 105, .ref 106, .int f_taped_4, .int f_size_5, .int f_token_6, .int f_end_8, .int f_end_8, .int f_faults_9, .int f_faultPlace_10, .int f_faultKind_11, .int f_deep_12, .long f_value_13, .ref 107, .ref 108, .ref 109, .ref 116, .int f_broadMany_14, .ref 124, .ref 125])) 102 (oC 9 [.ref 103, .int f_status_1, .int f_acts_2, .int f_marks_3, .ref 104, .ref 105, .ref 106, .int f_taped_4, .int f_size_5, .int f_token_6, .int f_end_8, .int (f_end_8 + (1 : Int32)), .int f_faults_9, .int f_faultPlace_10, .int f_faultKind_11, .int f_deep_12, .long f_value_13, .ref 107, .ref 108, .ref 109, .ref 116, .int f_broadMany_14, .ref 124, .ref 125])) R from
                      Ev.go (pc' := 185) (ls' := [.ref 102, .int (chM B27 L28 j_29)]) (st' := [.int (60 : Int32), .int (chM B27 L28 j_29), .ref 102]) [.aload_n 0, .iload_n 1, .bipush (60)] (by decide +kernel) rfl <|
                      Ev.br (i := .if_icmp .eq (33)) (P := (chM B27 L28 j_29) = (60 : Int32)) (t := 218) (f := 188) (r := [.ref 102]) (by decide +kernel) rfl (fun c6 =>
                        Ev.go (pc' := 223) (ls' := [.ref 102, .int (chM B27 L28 j_29)]) (st' := [.int (4 : Int32), .ref 102]) [.iconst 4, .goto (4)] (by decide +kernel) rfl <|
                        Ev.putf f_Mo_128 (by decide +kernel) (hat_set (hat_set a1)) (Nat.le_of_ble_eq_true rfl) rfl (fun q => nomatch q) <| show Ev G (d + 1) _ _ M_Mo_ahead 226 [.ref 102, .int (chM B27 L28 j_29)] [] (hset (hset (hset h 102 (oC 9 [.ref 103, .int f_status_1, .int f_acts_2, .int f_marks_3, .ref 104, .ref 105, .ref 106, .int f_taped_4, .int f_size_5, .int f_token_6, .int f_end_8, .int f_end_8, .int f_faults_9, .int f_faultPlace_10, .int f_faultKind_11, .int f_deep_12, .long f_value_13, .ref 107, .ref 108, .ref 109, .ref 116, .int f_broadMany_14, .ref 124, .ref 125])) 102 (oC 9 [.ref 103, .int f_status_1, .int f_acts_2, .int f_marks_3, .ref 104, .ref 105, .ref 106, .int f_taped_4, .int f_size_5, .int f_token_6, .int f_end_8, .int (f_end_8 + (1 : Int32)), .int f_faults_9, .int f_faultPlace_10, .int f_faultKind_11, .int f_deep_12, .long f_value_13, .ref 107, .ref 108, .ref 109, .ref 116, .int f_broadMany_14, .ref 124, .ref 125])) 102 (oC 9 [.ref 103, .int f_status_1, .int f_acts_2, .int f_marks_3, .ref 104, .ref 105, .ref 106, .int f_taped_4, .int f_size_5, .int (4 : Int32), .int f_end_8, .int (f_end_8 + (1 : Int32)), .int f_faults_9, .int f_faultPlace_10, .int f_faultKind_11, .int f_deep_12, .long f_value_13, .ref 107, .ref 108, .ref 109, .ref 116, .int f_broadMany_14, .ref 124, .ref 125])) R from
                        Ev.ret (r := none) (Or.inr (Or.inr (Or.inl ⟨rfl, by decide +kernel, rfl⟩))) (k4 c1 c2 c3 c4 c5 c6)
                      ) (fun c6 =>
                        Ev.go (pc' := 191) (ls' := [.ref 102, .int (chM B27 L28 j_29)]) (st' := [.int (61 : Int32), .int (chM B27 L28 j_29), .ref 102]) [.iload_n 1, .bipush (61)] (by decide +kernel) rfl <|
                        Ev.br (i := .if_icmp .eq (27)) (P := (chM B27 L28 j_29) = (61 : Int32)) (t := 218) (f := 194) (r := [.ref 102]) (by decide +kernel) rfl (fun c7 =>
                          Ev.go (pc' := 223) (ls' := [.ref 102, .int (chM B27 L28 j_29)]) (st' := [.int (4 : Int32), .ref 102]) [.iconst 4, .goto (4)] (by decide +kernel) rfl <|
                          Ev.putf f_Mo_128 (by decide +kernel) (hat_set (hat_set a1)) (Nat.le_of_ble_eq_true rfl) rfl (fun q => nomatch q) <| show Ev G (d + 1) _ _ M_Mo_ahead 226 [.ref 102, .int (chM B27 L28 j_29)] [] (hset (hset (hset h 102 (oC 9 [.ref 103, .int f_status_1, .int f_acts_2, .int f_marks_3, .ref 104, .ref 105, .ref 106, .int f_taped_4, .int f_size_5, .int f_token_6, .int f_end_8, .int f_end_8, .int f_faults_9, .int f_faultPlace_10, .int f_faultKind_11, .int f_deep_12, .long f_value_13, .ref 107, .ref 108, .ref 109, .ref 116, .int f_broadMany_14, .ref 124, .ref 125])) 102 (oC 9 [.ref 103, .int f_status_1, .int f_acts_2, .int f_marks_3, .ref 104, .ref 105, .ref 106, .int f_taped_4, .int f_size_5, .int f_token_6, .int f_end_8, .int (f_end_8 + (1 : Int32)), .int f_faults_9, .int f_faultPlace_10, .int f_faultKind_11, .int f_deep_12, .long f_value_13, .ref 107, .ref 108, .ref 109, .ref 116, .int f_broadMany_14, .ref 124, .ref 125])) 102 (oC 9 [.ref 103, .int f_status_1, .int f_acts_2, .int f_marks_3, .ref 104, .ref 105, .ref 106, .int f_taped_4, .int f_size_5, .int (4 : Int32), .int f_end_8, .int (f_end_8 + (1 : Int32)), .int f_faults_9, .int f_faultPlace_10, .int f_faultKind_11, .int f_deep_12, .long f_value_13, .ref 107, .ref 108, .ref 109, .ref 116, .int f_broadMany_14, .ref 124, .ref 125])) R from
                          Ev.ret (r := none) (Or.inr (Or.inr (Or.inl ⟨rfl, by decide +kernel, rfl⟩))) (k5 c1 c2 c3 c4 c5 c6 c7)
                        ) (fun c7 =>
                          Ev.go (pc' := 197) (ls' := [.ref 102, .int (chM B27 L28 j_29)]) (st' := [.int (62 : Int32), .int (chM B27 L28 j_29), .ref 102]) [.iload_n 1, .bipush (62)] (by decide +kernel) rfl <|
                          Ev.br (i := .if_icmp .eq (21)) (P := (chM B27 L28 j_29) = (62 : Int32)) (t := 218) (f := 200) (r := [.ref 102]) (by decide +kernel) rfl (fun c8 =>
                            Ev.go (pc' := 223) (ls' := [.ref 102, .int (chM B27 L28 j_29)]) (st' := [.int (4 : Int32), .ref 102]) [.iconst 4, .goto (4)] (by decide +kernel) rfl <|
                            Ev.putf f_Mo_128 (by decide +kernel) (hat_set (hat_set a1)) (Nat.le_of_ble_eq_true rfl) rfl (fun q => nomatch q) <| show Ev G (d + 1) _ _ M_Mo_ahead 226 [.ref 102, .int (chM B27 L28 j_29)] [] (hset (hset (hset h 102 (oC 9 [.ref 103, .int f_status_1, .int f_acts_2, .int f_marks_3, .ref 104, .ref 105, .ref 106, .int f_taped_4, .int f_size_5, .int f_token_6, .int f_end_8, .int f_end_8, .int f_faults_9, .int f_faultPlace_10, .int f_faultKind_11, .int f_deep_12, .long f_value_13, .ref 107, .ref 108, .ref 109, .ref 116, .int f_broadMany_14, .ref 124, .ref 125])) 102 (oC 9 [.ref 103, .int f_status_1, .int f_acts_2, .int f_marks_3, .ref 104, .ref 105, .ref 106, .int f_taped_4, .int f_size_5, .int f_token_6, .int f_end_8, .int (f_end_8 + (1 : Int32)), .int f_faults_9, .int f_faultPlace_10, .int f_faultKind_11, .int f_deep_12, .long f_value_13, .ref 107, .ref 108, .ref 109, .ref 116, .int f_broadMany_14, .ref 124, .ref 125])) 102 (oC 9 [.ref 103, .int f_status_1, .int f_acts_2, .int f_marks_3, .ref 104, .ref 105, .ref 106, .int f_taped_4, .int f_size_5, .int (4 : Int32), .int f_end_8, .int (f_end_8 + (1 : Int32)), .int f_faults_9, .int f_faultPlace_10, .int f_faultKind_11, .int f_deep_12, .long f_value_13, .ref 107, .ref 108, .ref 109, .ref 116, .int f_broadMany_14, .ref 124, .ref 125])) R from
                            Ev.ret (r := none) (Or.inr (Or.inr (Or.inl ⟨rfl, by decide +kernel, rfl⟩))) (k6 c1 c2 c3 c4 c5 c6 c7 c8)
                          ) (fun c8 =>
                            Ev.go (pc' := 203) (ls' := [.ref 102, .int (chM B27 L28 j_29)]) (st' := [.int (91 : Int32), .int (chM B27 L28 j_29), .ref 102]) [.iload_n 1, .bipush (91)] (by decide +kernel) rfl <|
                            Ev.br (i := .if_icmp .eq (15)) (P := (chM B27 L28 j_29) = (91 : Int32)) (t := 218) (f := 206) (r := [.ref 102]) (by decide +kernel) rfl (fun c9 =>
                              Ev.go (pc' := 223) (ls' := [.ref 102, .int (chM B27 L28 j_29)]) (st' := [.int (4 : Int32), .ref 102]) [.iconst 4, .goto (4)] (by decide +kernel) rfl <|
                              Ev.putf f_Mo_128 (by decide +kernel) (hat_set (hat_set a1)) (Nat.le_of_ble_eq_true rfl) rfl (fun q => nomatch q) <| show Ev G (d + 1) _ _ M_Mo_ahead 226 [.ref 102, .int (chM B27 L28 j_29)] [] (hset (hset (hset h 102 (oC 9 [.ref 103, .int f_status_1, .int f_acts_2, .int f_marks_3, .ref 104, .ref 105, .ref 106, .int f_taped_4, .int f_size_5, .int f_token_6, .int f_end_8, .int f_end_8, .int f_faults_9, .int f_faultPlace_10, .int f_faultKind_11, .int f_deep_12, .long f_value_13, .ref 107, .ref 108, .ref 109, .ref 116, .int f_broadMany_14, .ref 124, .ref 125])) 102 (oC 9 [.ref 103, .int f_status_1, .int f_acts_2, .int f_marks_3, .ref 104, .ref 105, .ref 106, .int f_taped_4, .int f_size_5, .int f_token_6, .int f_end_8, .int (f_end_8 + (1 : Int32)), .int f_faults_9, .int f_faultPlace_10, .int f_faultKind_11, .int f_deep_12, .long f_value_13, .ref 107, .ref 108, .ref 109, .ref 116, .int f_broadMany_14, .ref 124, .ref 125])) 102 (oC 9 [.ref 103, .int f_status_1, .int f_acts_2, .int f_marks_3, .ref 104, .ref 105, .ref 106, .int f_taped_4, .int f_size_5, .int (4 : Int32), .int f_end_8, .int (f_end_8 + (1 : Int32)), .int f_faults_9, .int f_faultPlace_10, .int f_faultKind_11, .int f_deep_12, .long f_value_13, .ref 107, .ref 108, .ref 109, .ref 116, .int f_broadMany_14, .ref 124, .ref 125])) R from
                              Ev.ret (r := none) (Or.inr (Or.inr (Or.inl ⟨rfl, by decide +kernel, rfl⟩))) (k7 c1 c2 c3 c4 c5 c6 c7 c8 c9)
                            ) (fun c9 =>
                              Ev.go (pc' := 209) (ls' := [.ref 102, .int (chM B27 L28 j_29)]) (st' := [.int (93 : Int32), .int (chM B27 L28 j_29), .ref 102]) [.iload_n 1, .bipush (93)] (by decide +kernel) rfl <|
                              Ev.br (i := .if_icmp .eq (9)) (P := (chM B27 L28 j_29) = (93 : Int32)) (t := 218) (f := 212) (r := [.ref 102]) (by decide +kernel) rfl (fun c10 =>
                                Ev.go (pc' := 223) (ls' := [.ref 102, .int (chM B27 L28 j_29)]) (st' := [.int (4 : Int32), .ref 102]) [.iconst 4, .goto (4)] (by decide +kernel) rfl <|
                                Ev.putf f_Mo_128 (by decide +kernel) (hat_set (hat_set a1)) (Nat.le_of_ble_eq_true rfl) rfl (fun q => nomatch q) <| show Ev G (d + 1) _ _ M_Mo_ahead 226 [.ref 102, .int (chM B27 L28 j_29)] [] (hset (hset (hset h 102 (oC 9 [.ref 103, .int f_status_1, .int f_acts_2, .int f_marks_3, .ref 104, .ref 105, .ref 106, .int f_taped_4, .int f_size_5, .int f_token_6, .int f_end_8, .int f_end_8, .int f_faults_9, .int f_faultPlace_10, .int f_faultKind_11, .int f_deep_12, .long f_value_13, .ref 107, .ref 108, .ref 109, .ref 116, .int f_broadMany_14, .ref 124, .ref 125])) 102 (oC 9 [.ref 103, .int f_status_1, .int f_acts_2, .int f_marks_3, .ref 104, .ref 105, .ref 106, .int f_taped_4, .int f_size_5, .int f_token_6, .int f_end_8, .int (f_end_8 + (1 : Int32)), .int f_faults_9, .int f_faultPlace_10, .int f_faultKind_11, .int f_deep_12, .long f_value_13, .ref 107, .ref 108, .ref 109, .ref 116, .int f_broadMany_14, .ref 124, .ref 125])) 102 (oC 9 [.ref 103, .int f_status_1, .int f_acts_2, .int f_marks_3, .ref 104, .ref 105, .ref 106, .int f_taped_4, .int f_size_5, .int (4 : Int32), .int f_end_8, .int (f_end_8 + (1 : Int32)), .int f_faults_9, .int f_faultPlace_10, .int f_faultKind_11, .int f_deep_12, .long f_value_13, .ref 107, .ref 108, .ref 109, .ref 116, .int f_broadMany_14, .ref 124, .ref 125])) R from
                                Ev.ret (r := none) (Or.inr (Or.inr (Or.inl ⟨rfl, by decide +kernel, rfl⟩))) (k8 c1 c2 c3 c4 c5 c6 c7 c8 c9 c10)
                              ) (fun c10 =>
                                Ev.go (pc' := 215) (ls' := [.ref 102, .int (chM B27 L28 j_29)]) (st' := [.int (59 : Int32), .int (chM B27 L28 j_29), .ref 102]) [.iload_n 1, .bipush (59)] (by decide +kernel) rfl <|
                                Ev.br (i := .if_icmp .ne (7)) (P := (chM B27 L28 j_29) = (59 : Int32)) (t := 218) (f := 222) (r := [.ref 102]) (by decide +kernel) rfl (fun c11 =>
                                  Ev.go (pc' := 223) (ls' := [.ref 102, .int (chM B27 L28 j_29)]) (st' := [.int (4 : Int32), .ref 102]) [.iconst 4, .goto (4)] (by decide +kernel) rfl <|
                                  Ev.putf f_Mo_128 (by decide +kernel) (hat_set (hat_set a1)) (Nat.le_of_ble_eq_true rfl) rfl (fun q => nomatch q) <| show Ev G (d + 1) _ _ M_Mo_ahead 226 [.ref 102, .int (chM B27 L28 j_29)] [] (hset (hset (hset h 102 (oC 9 [.ref 103, .int f_status_1, .int f_acts_2, .int f_marks_3, .ref 104, .ref 105, .ref 106, .int f_taped_4, .int f_size_5, .int f_token_6, .int f_end_8, .int f_end_8, .int f_faults_9, .int f_faultPlace_10, .int f_faultKind_11, .int f_deep_12, .long f_value_13, .ref 107, .ref 108, .ref 109, .ref 116, .int f_broadMany_14, .ref 124, .ref 125])) 102 (oC 9 [.ref 103, .int f_status_1, .int f_acts_2, .int f_marks_3, .ref 104, .ref 105, .ref 106, .int f_taped_4, .int f_size_5, .int f_token_6, .int f_end_8, .int (f_end_8 + (1 : Int32)), .int f_faults_9, .int f_faultPlace_10, .int f_faultKind_11, .int f_deep_12, .long f_value_13, .ref 107, .ref 108, .ref 109, .ref 116, .int f_broadMany_14, .ref 124, .ref 125])) 102 (oC 9 [.ref 103, .int f_status_1, .int f_acts_2, .int f_marks_3, .ref 104, .ref 105, .ref 106, .int f_taped_4, .int f_size_5, .int (4 : Int32), .int f_end_8, .int (f_end_8 + (1 : Int32)), .int f_faults_9, .int f_faultPlace_10, .int f_faultKind_11, .int f_deep_12, .long f_value_13, .ref 107, .ref 108, .ref 109, .ref 116, .int f_broadMany_14, .ref 124, .ref 125])) R from
                                  Ev.ret (r := none) (Or.inr (Or.inr (Or.inl ⟨rfl, by decide +kernel, rfl⟩))) (k9 c1 c2 c3 c4 c5 c6 c7 c8 c9 c10 c11)
                                ) (fun c11 =>
                                  Ev.go (pc' := 223) (ls' := [.ref 102, .int (chM B27 L28 j_29)]) (st' := [.int (1 : Int32), .ref 102]) [.iconst 1] (by decide +kernel) rfl <|
                                  Ev.putf f_Mo_128 (by decide +kernel) (hat_set (hat_set a1)) (Nat.le_of_ble_eq_true rfl) rfl (fun q => nomatch q) <| show Ev G (d + 1) _ _ M_Mo_ahead 226 [.ref 102, .int (chM B27 L28 j_29)] [] (hset (hset (hset h 102 (oC 9 [.ref 103, .int f_status_1, .int f_acts_2, .int f_marks_3, .ref 104, .ref 105, .ref 106, .int f_taped_4, .int f_size_5, .int f_token_6, .int f_end_8, .int f_end_8, .int f_faults_9, .int f_faultPlace_10, .int f_faultKind_11, .int f_deep_12, .long f_value_13, .ref 107, .ref 108, .ref 109, .ref 116, .int f_broadMany_14, .ref 124, .ref 125])) 102 (oC 9 [.ref 103, .int f_status_1, .int f_acts_2, .int f_marks_3, .ref 104, .ref 105, .ref 106, .int f_taped_4, .int f_size_5, .int f_token_6, .int f_end_8, .int (f_end_8 + (1 : Int32)), .int f_faults_9, .int f_faultPlace_10, .int f_faultKind_11, .int f_deep_12, .long f_value_13, .ref 107, .ref 108, .ref 109, .ref 116, .int f_broadMany_14, .ref 124, .ref 125])) 102 (oC 9 [.ref 103, .int f_status_1, .int f_acts_2, .int f_marks_3, .ref 104, .ref 105, .ref 106, .int f_taped_4, .int f_size_5, .int (1 : Int32), .int f_end_8, .int (f_end_8 + (1 : Int32)), .int f_faults_9, .int f_faultPlace_10, .int f_faultKind_11, .int f_deep_12, .long f_value_13, .ref 107, .ref 108, .ref 109, .ref 116, .int f_broadMany_14, .ref 124, .ref 125])) R from
                                  Ev.ret (r := none) (Or.inr (Or.inr (Or.inl ⟨rfl, by decide +kernel, rfl⟩))) (k10 c1 c2 c3 c4 c5 c6 c7 c8 c9 c10 c11)
                                )
                              )
                            )
                          )
                        )
                      )
                    ) (fun c5 =>
                      (k11 c1 c2 c3 c4 c5)
                    )
                  )
                ) (fun c4 =>
                  (k12 c1 c2 c3 c4)
                )
              )
            )
          )
        )
      )
    )
  )
theorem b_Mo_ahead_76 {G : ev_G} {d k n : Nat} {h : ev_H} {R : Option Value → ev_H → Prop} {x1 : Int32} {f_status_1 : Int32} {f_acts_2 : Int32} {f_marks_3 : Int32} {f_taped_4 : Int32} {f_size_5 : Int32} {f_token_6 : Int32} {f_begin_7 : Int32} {f_end_8 : Int32} {f_faults_9 : Int32} {f_faultPlace_10 : Int32} {f_faultKind_11 : Int32} {f_deep_12 : Int32} {f_value_13 : Int64} {f_broadMany_14 : Int32} {v_15 : MG} {z_16 : MP} {B17 : Nat → Nat} {L18 : Nat} {j_19 : Nat}
  (a1 : hat h 102 (oC 9 [.ref 103, .int f_status_1, .int f_acts_2, .int f_marks_3, .ref 104, .ref 105, .ref 106, .int f_taped_4, .int f_size_5, .int f_token_6, .int f_begin_7, .int f_end_8, .int f_faults_9, .int f_faultPlace_10, .int f_faultKind_11, .int f_deep_12, .long f_value_13, .ref 107, .ref 108, .ref 109, .ref 116, .int f_broadMany_14, .ref 124, .ref 125]))
  (pr2 : hat h 102 (moC v_15 z_16))
  (pr3 : z_16.1 = nI L18)
  (pr4 : TxM h B17 L18)
  (pr5 : f_end_8 = nI j_19 ∧ j_19 < 2147483648)
  (k1 : (b2i (smB (chM B17 L18 j_19))) = (0 : Int32) → R none (hset h 102 (oC 9 [.ref 103, .int f_status_1, .int f_acts_2, .int f_marks_3, .ref 104, .ref 105, .ref 106, .int f_taped_4, .int f_size_5, .int (2 : Int32), .int f_begin_7, .int f_end_8, .int f_faults_9, .int f_faultPlace_10, .int f_faultKind_11, .int f_deep_12, .long f_value_13, .ref 107, .ref 108, .ref 109, .ref 116, .int f_broadMany_14, .ref 124, .ref 125])))
  (k2 : ¬ (b2i (smB (chM B17 L18 j_19))) = (0 : Int32) → Ev G (d + 1) k n M_Mo_ahead 76 [.ref 102, .int x1] [] (hset h 102 (oC 9 [.ref 103, .int f_status_1, .int f_acts_2, .int f_marks_3, .ref 104, .ref 105, .ref 106, .int f_taped_4, .int f_size_5, .int f_token_6, .int f_begin_7, .int (f_end_8 + (1 : Int32)), .int f_faults_9, .int f_faultPlace_10, .int f_faultKind_11, .int f_deep_12, .long f_value_13, .ref 107, .ref 108, .ref 109, .ref 116, .int f_broadMany_14, .ref 124, .ref 125])) R)
  : Ev G (d + 1) k n M_Mo_ahead 76 [.ref 102, .int x1] [] h R :=
  Ev.go (pc' := 78) (ls' := [.ref 102, .int x1]) (st' := [.ref 102, .ref 102]) [.aload_n 0, .aload_n 0] (by decide +kernel) rfl <|
  Ev.getf f_Mo_119 (by decide +kernel) a1 rfl <|
  Ev.cV0 (M' := M_Mo_byteAt) (as := [.int f_end_8]) (rest := []) l_Mo_122 M_Mo_byteAt_ok M_Mo_byteAt_in M_Mo_byteAt_se (by decide +kernel) ⟨_, a1⟩ rfl rfl rfl (Nat.le_of_ble_eq_true rfl) (Nat.le_of_ble_eq_true rfl) (s_Mo_byteAt pr2 pr3 pr4 pr5 <| show Ev G (d + 1) _ _ M_Mo_ahead 84 [.ref 102, .int x1] [.int (chM B17 L18 j_19)] h R from
    Ev.cS0 (M' := M_Mo_isSmall) (as := [.int (chM B17 L18 j_19)]) (rest := []) l_Mo_131 M_Mo_isSmall_ok M_Mo_isSmall_st (by decide +kernel) rfl rfl (Nat.le_of_ble_eq_true rfl) (Nat.le_of_ble_eq_true rfl) (s_Mo_isSmall <| show Ev G (d + 1) _ _ M_Mo_ahead 87 [.ref 102, .int x1] [.int (b2i (smB (chM B17 L18 j_19)))] h R from
      Ev.br (i := .ifCond .eq (16)) (P := (b2i (smB (chM B17 L18 j_19))) = (0 : Int32)) (t := 103) (f := 90) (r := []) (by decide +kernel) rfl (fun c1 =>
        Ev.go (pc' := 105) (ls' := [.ref 102, .int x1]) (st' := [.int (2 : Int32), .ref 102]) [.aload_n 0, .iconst 2] (by decide +kernel) rfl <|
        Ev.putf f_Mo_128 (by decide +kernel) a1 (Nat.le_of_ble_eq_true rfl) rfl (fun q => nomatch q) <| show Ev G (d + 1) _ _ M_Mo_ahead 108 [.ref 102, .int x1] [] (hset h 102 (oC 9 [.ref 103, .int f_status_1, .int f_acts_2, .int f_marks_3, .ref 104, .ref 105, .ref 106, .int f_taped_4, .int f_size_5, .int (2 : Int32), .int f_begin_7, .int f_end_8, .int f_faults_9, .int f_faultPlace_10, .int f_faultKind_11, .int f_deep_12, .long f_value_13, .ref 107, .ref 108, .ref 109, .ref 116, .int f_broadMany_14, .ref 124, .ref 125])) R from
        Ev.go (pc' := 226) (ls' := [.ref 102, .int x1]) (st' := []) [.goto (118)] (by decide +kernel) rfl <|
        Ev.ret (r := none) (Or.inr (Or.inr (Or.inl ⟨rfl, by decide +kernel, rfl⟩))) (k1 c1)
      ) (fun c1 =>
        Ev.go (pc' := 92) (ls' := [.ref 102, .int x1]) (st' := [.ref 102, .ref 102]) [.aload_n 0, .dup] (by decide +kernel) rfl <|
        Ev.getf f_Mo_119 (by decide +kernel) a1 rfl <|
        Ev.go (pc' := 97) (ls' := [.ref 102, .int x1]) (st' := [.int (f_end_8 + (1 : Int32)), .ref 102]) [.iconst 1, .iadd] (by decide +kernel) rfl <|
        Ev.putf f_Mo_119 (by decide +kernel) a1 (Nat.le_of_ble_eq_true rfl) rfl (fun q => nomatch q) <| show Ev G (d + 1) _ _ M_Mo_ahead 100 [.ref 102, .int x1] [] (hset h 102 (oC 9 [.ref 103, .int f_status_1, .int f_acts_2, .int f_marks_3, .ref 104, .ref 105, .ref 106, .int f_taped_4, .int f_size_5, .int f_token_6, .int f_begin_7, .int (f_end_8 + (1 : Int32)), .int f_faults_9, .int f_faultPlace_10, .int f_faultKind_11, .int f_deep_12, .long f_value_13, .ref 107, .ref 108, .ref 109, .ref 116, .int f_broadMany_14, .ref 124, .ref 125])) R from
        Ev.go (pc' := 76) (ls' := [.ref 102, .int x1]) (st' := []) [.goto (-24)] (by decide +kernel) rfl <|
        (k2 c1)
      )
    )
  )
theorem b_Mo_ahead_118 {G : ev_G} {d k n : Nat} {h : ev_H} {R : Option Value → ev_H → Prop} {x1 : Int32} {f_status_1 : Int32} {f_acts_2 : Int32} {f_marks_3 : Int32} {f_taped_4 : Int32} {f_size_5 : Int32} {f_token_6 : Int32} {f_begin_7 : Int32} {f_end_8 : Int32} {f_faults_9 : Int32} {f_faultPlace_10 : Int32} {f_faultKind_11 : Int32} {f_deep_12 : Int32} {f_value_13 : Int64} {f_broadMany_14 : Int32} {v_15 : MG} {z_16 : MP} {B17 : Nat → Nat} {L18 : Nat} {j_19 : Nat}
  (a1 : hat h 102 (oC 9 [.ref 103, .int f_status_1, .int f_acts_2, .int f_marks_3, .ref 104, .ref 105, .ref 106, .int f_taped_4, .int f_size_5, .int f_token_6, .int f_begin_7, .int f_end_8, .int f_faults_9, .int f_faultPlace_10, .int f_faultKind_11, .int f_deep_12, .long f_value_13, .ref 107, .ref 108, .ref 109, .ref 116, .int f_broadMany_14, .ref 124, .ref 125]))
  (pr2 : hat h 102 (moC v_15 z_16))
  (pr3 : z_16.1 = nI L18)
  (pr4 : TxM h B17 L18)
  (pr5 : f_end_8 = nI j_19 ∧ j_19 < 2147483648)
  (k1 : (b2i (diB (chM B17 L18 j_19))) = (0 : Int32) → (48 : Int32) < (f_end_8 - f_begin_7) → R none (hset h 102 (oC 9 [.ref 103, .int f_status_1, .int f_acts_2, .int f_marks_3, .ref 104, .ref 105, .ref 106, .int f_taped_4, .int f_size_5, .int (1 : Int32), .int f_begin_7, .int f_end_8, .int f_faults_9, .int f_faultPlace_10, .int f_faultKind_11, .int f_deep_12, .long f_value_13, .ref 107, .ref 108, .ref 109, .ref 116, .int f_broadMany_14, .ref 124, .ref 125])))
  (k2 : (b2i (diB (chM B17 L18 j_19))) = (0 : Int32) → ¬ (48 : Int32) < (f_end_8 - f_begin_7) → R none (hset h 102 (oC 9 [.ref 103, .int f_status_1, .int f_acts_2, .int f_marks_3, .ref 104, .ref 105, .ref 106, .int f_taped_4, .int f_size_5, .int (3 : Int32), .int f_begin_7, .int f_end_8, .int f_faults_9, .int f_faultPlace_10, .int f_faultKind_11, .int f_deep_12, .long f_value_13, .ref 107, .ref 108, .ref 109, .ref 116, .int f_broadMany_14, .ref 124, .ref 125])))
  (k3 : ¬ (b2i (diB (chM B17 L18 j_19))) = (0 : Int32) → Ev G (d + 1) k n M_Mo_ahead 118 [.ref 102, .int x1] [] (hset h 102 (oC 9 [.ref 103, .int f_status_1, .int f_acts_2, .int f_marks_3, .ref 104, .ref 105, .ref 106, .int f_taped_4, .int f_size_5, .int f_token_6, .int f_begin_7, .int (f_end_8 + (1 : Int32)), .int f_faults_9, .int f_faultPlace_10, .int f_faultKind_11, .int f_deep_12, .long f_value_13, .ref 107, .ref 108, .ref 109, .ref 116, .int f_broadMany_14, .ref 124, .ref 125])) R)
  : Ev G (d + 1) k n M_Mo_ahead 118 [.ref 102, .int x1] [] h R :=
  Ev.go (pc' := 120) (ls' := [.ref 102, .int x1]) (st' := [.ref 102, .ref 102]) [.aload_n 0, .aload_n 0] (by decide +kernel) rfl <|
  Ev.getf f_Mo_119 (by decide +kernel) a1 rfl <|
  Ev.cV0 (M' := M_Mo_byteAt) (as := [.int f_end_8]) (rest := []) l_Mo_122 M_Mo_byteAt_ok M_Mo_byteAt_in M_Mo_byteAt_se (by decide +kernel) ⟨_, a1⟩ rfl rfl rfl (Nat.le_of_ble_eq_true rfl) (Nat.le_of_ble_eq_true rfl) (s_Mo_byteAt pr2 pr3 pr4 pr5 <| show Ev G (d + 1) _ _ M_Mo_ahead 126 [.ref 102, .int x1] [.int (chM B17 L18 j_19)] h R from
    Ev.cS0 (M' := M_Mo_isDigit) (as := [.int (chM B17 L18 j_19)]) (rest := []) l_Mo_134 M_Mo_isDigit_ok M_Mo_isDigit_st (by decide +kernel) rfl rfl (Nat.le_of_ble_eq_true rfl) (Nat.le_of_ble_eq_true rfl) (s_Mo_isDigit <| show Ev G (d + 1) _ _ M_Mo_ahead 129 [.ref 102, .int x1] [.int (b2i (diB (chM B17 L18 j_19)))] h R from
      Ev.br (i := .ifCond .eq (16)) (P := (b2i (diB (chM B17 L18 j_19))) = (0 : Int32)) (t := 145) (f := 132) (r := []) (by decide +kernel) rfl (fun c1 =>
        Ev.go (pc' := 147) (ls' := [.ref 102, .int x1]) (st' := [.ref 102, .ref 102]) [.aload_n 0, .aload_n 0] (by decide +kernel) rfl <|
        Ev.getf f_Mo_119 (by decide +kernel) a1 rfl <|
        Ev.go (pc' := 151) (ls' := [.ref 102, .int x1]) (st' := [.ref 102, .int f_end_8, .ref 102]) [.aload_n 0] (by decide +kernel) rfl <|
        Ev.getf f_Mo_125 (by decide +kernel) a1 rfl <|
        Ev.go (pc' := 157) (ls' := [.ref 102, .int x1]) (st' := [.int (48 : Int32), .int (f_end_8 - f_begin_7), .ref 102]) [.isub, .bipush (48)] (by decide +kernel) rfl <|
        Ev.br (i := .if_icmp .le (7)) (P := (48 : Int32) < (f_end_8 - f_begin_7)) (t := 160) (f := 164) (r := [.ref 102]) (by decide +kernel) rfl (fun c2 =>
          Ev.go (pc' := 165) (ls' := [.ref 102, .int x1]) (st' := [.int (1 : Int32), .ref 102]) [.iconst 1, .goto (4)] (by decide +kernel) rfl <|
          Ev.putf f_Mo_128 (by decide +kernel) a1 (Nat.le_of_ble_eq_true rfl) rfl (fun q => nomatch q) <| show Ev G (d + 1) _ _ M_Mo_ahead 168 [.ref 102, .int x1] [] (hset h 102 (oC 9 [.ref 103, .int f_status_1, .int f_acts_2, .int f_marks_3, .ref 104, .ref 105, .ref 106, .int f_taped_4, .int f_size_5, .int (1 : Int32), .int f_begin_7, .int f_end_8, .int f_faults_9, .int f_faultPlace_10, .int f_faultKind_11, .int f_deep_12, .long f_value_13, .ref 107, .ref 108, .ref 109, .ref 116, .int f_broadMany_14, .ref 124, .ref 125])) R from
          Ev.go (pc' := 226) (ls' := [.ref 102, .int x1]) (st' := []) [.goto (58)] (by decide +kernel) rfl <|
          Ev.ret (r := none) (Or.inr (Or.inr (Or.inl ⟨rfl, by decide +kernel, rfl⟩))) (k1 c1 c2)
        ) (fun c2 =>
          Ev.go (pc' := 165) (ls' := [.ref 102, .int x1]) (st' := [.int (3 : Int32), .ref 102]) [.iconst 3] (by decide +kernel) rfl <|
          Ev.putf f_Mo_128 (by decide +kernel) a1 (Nat.le_of_ble_eq_true rfl) rfl (fun q => nomatch q) <| show Ev G (d + 1) _ _ M_Mo_ahead 168 [.ref 102, .int x1] [] (hset h 102 (oC 9 [.ref 103, .int f_status_1, .int f_acts_2, .int f_marks_3, .ref 104, .ref 105, .ref 106, .int f_taped_4, .int f_size_5, .int (3 : Int32), .int f_begin_7, .int f_end_8, .int f_faults_9, .int f_faultPlace_10, .int f_faultKind_11, .int f_deep_12, .long f_value_13, .ref 107, .ref 108, .ref 109, .ref 116, .int f_broadMany_14, .ref 124, .ref 125])) R from
          Ev.go (pc' := 226) (ls' := [.ref 102, .int x1]) (st' := []) [.goto (58)] (by decide +kernel) rfl <|
          Ev.ret (r := none) (Or.inr (Or.inr (Or.inl ⟨rfl, by decide +kernel, rfl⟩))) (k2 c1 c2)
        )
      ) (fun c1 =>
        Ev.go (pc' := 134) (ls' := [.ref 102, .int x1]) (st' := [.ref 102, .ref 102]) [.aload_n 0, .dup] (by decide +kernel) rfl <|
        Ev.getf f_Mo_119 (by decide +kernel) a1 rfl <|
        Ev.go (pc' := 139) (ls' := [.ref 102, .int x1]) (st' := [.int (f_end_8 + (1 : Int32)), .ref 102]) [.iconst 1, .iadd] (by decide +kernel) rfl <|
        Ev.putf f_Mo_119 (by decide +kernel) a1 (Nat.le_of_ble_eq_true rfl) rfl (fun q => nomatch q) <| show Ev G (d + 1) _ _ M_Mo_ahead 142 [.ref 102, .int x1] [] (hset h 102 (oC 9 [.ref 103, .int f_status_1, .int f_acts_2, .int f_marks_3, .ref 104, .ref 105, .ref 106, .int f_taped_4, .int f_size_5, .int f_token_6, .int f_begin_7, .int (f_end_8 + (1 : Int32)), .int f_faults_9, .int f_faultPlace_10, .int f_faultKind_11, .int f_deep_12, .long f_value_13, .ref 107, .ref 108, .ref 109, .ref 116, .int f_broadMany_14, .ref 124, .ref 125])) R from
        Ev.go (pc' := 118) (ls' := [.ref 102, .int x1]) (st' := []) [.goto (-24)] (by decide +kernel) rfl <|
        (k3 c1)
      )
    )
  )
theorem kd_s {k : Nat} (h : sgnB k = true) : kdM k = 4 := by
  have h := of_decide_eq_true h
  unfold kdM
  rw [if_neg (by omega), if_neg (by omega), if_neg (by omega), if_neg (by omega)]
theorem sm_nI : ∀ b, b < 256 → smB (nI b) = ltrB b := by decide +kernel
theorem di_nI : ∀ b, b < 256 → diB (nI b) = dgtB b := by decide +kernel
section S69b
variable {G : ev_G} {d : Nat} {h : ev_H} {R : Option Value → ev_H → Prop} {B : Nat → Nat} {L : Nat} {v : MG}
theorem TxM.b (X : TxM h B L) {j : Nat} (hj : j < L) : B j < 256 := by
  obtain ⟨-, g, -, c⟩ := X
  exact (c j hj).2
theorem ch_eq {j c : Nat} (tb : j < L → B j < 256) (hc : c < 256) : chM B L j = nI c ↔ j < L ∧ B j = c := by
  unfold chM
  by_cases q : j < L
  · rw [if_pos q, nI_eq (by have := tb q; omega) (by omega)]
    exact ⟨fun z => ⟨q, z⟩, fun z => z.2⟩
  · rw [if_neg q]
    exact ⟨fun z => absurd z.symm (nI_m1 (by omega)), fun z => absurd z.1 q⟩
theorem ch_m1 {j : Nat} (tb : j < L → B j < 256) : chM B L j = -1 ↔ ¬ j < L := by
  unfold chM
  by_cases q : j < L
  · rw [if_pos q]
    exact ⟨fun z => absurd z (nI_m1 (by have := tb q; omega)), fun z => absurd q z⟩
  · rw [if_neg q]
    exact ⟨fun _ => q, fun _ => rfl⟩
theorem ch_sm {j : Nat} (tb : j < L → B j < 256) : smB (chM B L j) = (decide (j < L) && ltrB (B j)) := by
  unfold chM
  by_cases q : j < L
  · rw [if_pos q, decide_eq_true q, Bool.true_and]; exact sm_nI _ (tb q)
  · rw [if_neg q, decide_eq_false q]; rfl
theorem ch_di {j : Nat} (tb : j < L → B j < 256) : diB (chM B L j) = (decide (j < L) && dgtB (B j)) := by
  unfold chM
  by_cases q : j < L
  · rw [if_pos q, decide_eq_true q, Bool.true_and]; exact di_nI _ (tb q)
  · rw [if_neg q, decide_eq_false q]; rfl
theorem s_Mo_ahead {z : MP} {e : Nat} (m1 : hat h 102 (moC v z)) (hz : z.1 = nI L) (X : TxM h B L) (he : z.2.2.2.1 = nI e) (hl : e ≤ L) (hR : R none (hset h 102 (moC v (z.1, nI (kdM (tok B L e).1), nI (tok B L e).2.1, nI (tok B L e).2.2, z.2.2.2.2)))) : Ev G (d + 1) 0 0 M_Mo_ahead 0 [.ref 102, ev_unk] [] h R := by
  have hL := X.1
  have tb : ∀ j, j < L → B j < 256 := fun j hj => X.b hj
  have fin : ∀ (s : Nat) (kI sI eI : Int32), rn blkB B L e = s → kI = nI (kdM (tokA B L s).1) → sI = nI (tokA B L s).2.1 → eI = nI (tokA B L s).2.2 → R none (hset h 102 (moC v (z.1, kI, sI, eI, z.2.2.2.2))) := fun s kI sI eI a b c f => by
    have : tok B L e = tokA B L s := by unfold tok; rw [a]
    rw [this] at hR
    subst b c f
    exact hR
  have W : ∀ (s : Nat), rn blkB B L e = s → s < L → ltrB (B s) = true → ∀ (m t : Nat) (x kd : Int32), L - t = m → s ≤ t → t ≤ L → rn ltrB B L s = rn ltrB B L t → Ev G (d + 1) 0 0 M_Mo_ahead 76 [.ref 102, .int x] [] (hset h 102 (moC v (z.1, kd, nI s, nI t, z.2.2.2.2))) R := by
    intro s es hs hls m
    induction m with
    | zero =>
      intro t x kd hm st tl er
      have m1 := hat_set m1 (c' := moC v (z.1, kd, nI s, nI t, z.2.2.2.2))
      have X := X.set (c := moC v (z.1, kd, nI s, nI t, z.2.2.2.2))
      refine b_Mo_ahead_76 m1 m1 hz X ⟨rfl, by omega⟩ (fun c => ?_) (fun c => ?_)
      · rw [hset_hset]
        refine fin s 2 (nI s) (nI t) es ?_ ?_ ?_ <;> unfold tokA <;> rw [if_pos hs, if_pos hls]
        · rfl
        · rw [er, rn_stop (fun q => absurd q (by omega))]
      · have c := b2i_n0 c
        rw [ch_sm (tb t), decide_eq_false (by omega)] at c; cases c
    | succ m ih =>
      intro t x kd hm st tl er
      have m1 := hat_set m1 (c' := moC v (z.1, kd, nI s, nI t, z.2.2.2.2))
      have X := X.set (c := moC v (z.1, kd, nI s, nI t, z.2.2.2.2))
      refine b_Mo_ahead_76 m1 m1 hz X ⟨rfl, by omega⟩ (fun c => ?_) (fun c => ?_)
      · have c := b2i_e0 c
        rw [ch_sm (tb t), decide_eq_true (show t < L by omega), Bool.true_and] at c
        rw [hset_hset]
        refine fin s 2 (nI s) (nI t) es ?_ ?_ ?_ <;> unfold tokA <;> rw [if_pos hs, if_pos hls]
        · rfl
        · rw [er, rn_stop (fun _ => c)]
      · have c := b2i_n0 c
        rw [ch_sm (tb t), decide_eq_true (show t < L by omega), Bool.true_and] at c
        rw [hset_hset, nI_1]
        exact ih (t + 1) x kd (by omega) (by omega) (by omega) (er.trans (rn_step (by omega) c))
  have D : ∀ (s : Nat), rn blkB B L e = s → s < L → ltrB (B s) = false → dgtB (B s) = true → ∀ (m t : Nat) (x kd : Int32), L - t = m → s ≤ t → t ≤ L → rn dgtB B L s = rn dgtB B L t → Ev G (d + 1) 0 0 M_Mo_ahead 118 [.ref 102, .int x] [] (hset h 102 (moC v (z.1, kd, nI s, nI t, z.2.2.2.2))) R := by
    intro s es hs hls hds m
    have done : ∀ (t : Nat) (kd : Int32), s ≤ t → t ≤ L → rn dgtB B L s = t → ((48 : Int32) < nI t - nI s → kd = 1) → (¬ (48 : Int32) < nI t - nI s → kd = 3) → R none (hset h 102 (moC v (z.1, kd, nI s, nI t, z.2.2.2.2))) := by
      intro t kd st tl er k1 k3
      rw [nI_sub st] at k1 k3
      have u : (48 : Int32) < nI (t - s) ↔ 48 < t - s := nI_ltI (a := 48) (by omega) (by omega)
      refine fin s _ _ _ es ?_ ?_ ?_ <;> unfold tokA <;> rw [if_pos hs, hls, hds, er]
      · by_cases q : 48 < t - s
        · rw [k1 (u.mpr q)]
          show (1 : Int32) = nI (kdM (if 48 < t - s then 1 else 48))
          rw [if_pos q]; rfl
        · rw [k3 (fun y => q (u.mp y))]
          show (3 : Int32) = nI (kdM (if 48 < t - s then 1 else 48))
          rw [if_neg q]; rfl
      · rfl
      · rfl
    induction m with
    | zero =>
      intro t x kd hm st tl er
      have m1 := hat_set m1 (c' := moC v (z.1, kd, nI s, nI t, z.2.2.2.2))
      have X := X.set (c := moC v (z.1, kd, nI s, nI t, z.2.2.2.2))
      have e2 : rn dgtB B L s = t := er.trans (rn_stop (fun q => absurd q (by omega)))
      refine b_Mo_ahead_118 m1 m1 hz X ⟨rfl, by omega⟩ (fun c c2 => ?_) (fun c c2 => ?_) (fun c => ?_)
      · rw [hset_hset]
        exact done t _ st tl e2 (fun _ => rfl) (fun y => absurd c2 y)
      · rw [hset_hset]
        exact done t _ st tl e2 (fun y => absurd y c2) (fun _ => rfl)
      · have c := b2i_n0 c
        rw [ch_di (tb t), decide_eq_false (by omega)] at c; cases c
    | succ m ih =>
      intro t x kd hm st tl er
      have m1 := hat_set m1 (c' := moC v (z.1, kd, nI s, nI t, z.2.2.2.2))
      have X := X.set (c := moC v (z.1, kd, nI s, nI t, z.2.2.2.2))
      refine b_Mo_ahead_118 m1 m1 hz X ⟨rfl, by omega⟩ (fun c c2 => ?_) (fun c c2 => ?_) (fun c => ?_)
      · have c := b2i_e0 c
        rw [ch_di (tb t), decide_eq_true (show t < L by omega), Bool.true_and] at c
        rw [hset_hset]
        exact done t _ st tl (er.trans (rn_stop (fun _ => c))) (fun _ => rfl) (fun y => absurd c2 y)
      · have c := b2i_e0 c
        rw [ch_di (tb t), decide_eq_true (show t < L by omega), Bool.true_and] at c
        rw [hset_hset]
        exact done t _ st tl (er.trans (rn_stop (fun _ => c))) (fun y => absurd y c2) (fun _ => rfl)
      · have c := b2i_n0 c
        rw [ch_di (tb t), decide_eq_true (show t < L by omega), Bool.true_and] at c
        rw [hset_hset, nI_1]
        exact ih (t + 1) x kd (by omega) (by omega) (by omega) (er.trans (rn_step (by omega) c))
  have A : ∀ (m t : Nat), L - t = m → e ≤ t → t ≤ L → rn blkB B L e = rn blkB B L t → Ev G (d + 1) 0 0 M_Mo_ahead 0 [.ref 102, ev_unk] [] (hset h 102 (moC v (z.1, z.2.1, z.2.2.1, nI t, z.2.2.2.2))) R := by
    intro m
    induction m with
    | zero =>
      intro t hm et tl er
      have tL : ¬ t < L := by omega
      have es := er.trans (rn_stop (p := blkB) (B := B) (L := L) (e := t) (fun q => absurd q tL))
      have m1 := hat_set m1 (c' := moC v (z.1, z.2.1, z.2.2.1, nI t, z.2.2.2.2))
      have X := X.set (c := moC v (z.1, z.2.1, z.2.2.1, nI t, z.2.2.2.2))
      have e1 : chM B L t = -1 := (ch_m1 (tb t)).mpr tL
      refine b_Mo_ahead_0 m1 m1 hz X ⟨rfl, by omega⟩ (fun _ => m1) (fun _ => hz) (fun _ => X) (fun _ => ⟨rfl, by omega⟩) (fun _ _ => hat_set (c' := moC v (z.1, z.2.1, nI t, nI t, z.2.2.2.2)) m1) (fun _ _ => hz) (fun _ _ => X.set) (fun _ _ => ⟨rfl, by omega⟩) (fun c => ?_) (fun _ c => ?_) (fun _ _ _ => ?_) (fun _ _ c => absurd e1 c) (fun _ _ c => absurd e1 c) (fun _ _ c => absurd e1 c) (fun _ _ c => absurd e1 c) (fun _ _ c => absurd e1 c) (fun _ _ c => absurd e1 c) (fun _ _ c => absurd e1 c) (fun _ _ c => absurd e1 c) (fun _ _ c => absurd e1 c)
      · rw [e1] at c; exact absurd c (by decide)
      · rw [e1] at c; exact absurd c (by decide)
      · rw [hset_hset, hset_hset]
        refine fin t 0 (nI t) (nI t) es ?_ ?_ ?_ <;> unfold tokA <;> rw [if_neg tL]
        rfl
    | succ m ih =>
      intro t hm et tl er
      have tL : t < L := by omega
      have m1 := hat_set m1 (c' := moC v (z.1, z.2.1, z.2.2.1, nI t, z.2.2.2.2))
      have X := X.set (c := moC v (z.1, z.2.1, z.2.2.1, nI t, z.2.2.2.2))
      have u32 : chM B L t = 32 ↔ t < L ∧ B t = 32 := ch_eq (c := 32) (tb t) (by omega)
      have u10 : chM B L t = 10 ↔ t < L ∧ B t = 10 := ch_eq (c := 10) (tb t) (by omega)
      have um1 := ch_m1 (tb t)
      have nb : ¬ chM B L t = 32 → ¬ chM B L t = 10 → rn blkB B L e = t := fun c c2 => er.trans (rn_stop (fun _ => decide_eq_false fun y => by
        rcases y with y | y
        · exact c (u32.mpr ⟨tL, y⟩)
        · exact c2 (u10.mpr ⟨tL, y⟩)))
      have next : blkB (B t) = true → Ev G (d + 1) 0 0 M_Mo_ahead 0 [.ref 102, ev_unk] [] (hset h 102 (moC v (z.1, z.2.1, z.2.2.1, nI (t + 1), z.2.2.2.2))) R := fun y => ih (t + 1) (by omega) (by omega) (by omega) (er.trans (rn_step tL y))
      have sgn : ∀ c : Nat, sgnB c = true → ¬ chM B L t = 32 → ¬ chM B L t = 10 → b2i (smB (chM B L t)) = 0 → b2i (diB (chM B L t)) = 0 → chM B L t = nI c → R none (hset h 102 (moC v (z.1, 4, nI t, nI t + 1, z.2.2.2.2))) := by
        intro c sc c1 c2 c3 c4 c5
        have c3 := b2i_e0 c3
        have c4 := b2i_e0 c4
        rw [ch_sm (tb t), decide_eq_true tL, Bool.true_and] at c3
        rw [ch_di (tb t), decide_eq_true tL, Bool.true_and] at c4
        have bt := ((ch_eq (tb t) (by have := of_decide_eq_true sc; omega)).mp c5).2
        refine fin t _ _ _ (nb c1 c2) ?_ ?_ ?_ <;> unfold tokA <;> rw [if_pos tL, c3, c4]
        · show (4 : Int32) = nI (kdM (if sgnB (B t) then B t else 1))
          rw [bt, if_pos sc, kd_s sc]; rfl
        · rfl
        · exact nI_1 t
      refine b_Mo_ahead_0 m1 m1 hz X ⟨rfl, by omega⟩ (fun _ => m1) (fun _ => hz) (fun _ => X) (fun _ => ⟨rfl, by omega⟩) (fun _ _ => hat_set (c' := moC v (z.1, z.2.1, nI t, nI t, z.2.2.2.2)) m1) (fun _ _ => hz) (fun _ _ => X.set) (fun _ _ => ⟨rfl, by omega⟩) (fun c => ?_) (fun _ c => ?_) (fun _ _ c => absurd tL (um1.mp c)) (fun c1 c2 _ c3 c4 c5 => ?_) (fun c1 c2 _ c3 c4 _ c5 => ?_) (fun c1 c2 _ c3 c4 _ _ c5 => ?_) (fun c1 c2 _ c3 c4 _ _ _ c5 => ?_) (fun c1 c2 _ c3 c4 _ _ _ _ c5 => ?_) (fun c1 c2 _ c3 c4 _ _ _ _ _ c5 => ?_) (fun c1 c2 _ c3 c4 c5 c6 c7 c8 c9 c10 => ?_) (fun c1 c2 _ c3 c4 => ?_) (fun c1 c2 _ c3 => ?_)
      · rw [hset_hset, nI_1]; exact next (decide_eq_true (Or.inl (u32.mp c).2))
      · rw [hset_hset, nI_1]; exact next (decide_eq_true (Or.inr (u10.mp c).2))
      · rw [hset_hset, hset_hset, hset_hset]; exact sgn 60 (by decide) c1 c2 c3 c4 c5
      · rw [hset_hset, hset_hset, hset_hset]; exact sgn 61 (by decide) c1 c2 c3 c4 c5
      · rw [hset_hset, hset_hset, hset_hset]; exact sgn 62 (by decide) c1 c2 c3 c4 c5
      · rw [hset_hset, hset_hset, hset_hset]; exact sgn 91 (by decide) c1 c2 c3 c4 c5
      · rw [hset_hset, hset_hset, hset_hset]; exact sgn 93 (by decide) c1 c2 c3 c4 c5
      · rw [hset_hset, hset_hset, hset_hset]; exact sgn 59 (by decide) c1 c2 c3 c4 c5
      · rw [hset_hset, hset_hset, hset_hset]
        have c3 := b2i_e0 c3
        have c4 := b2i_e0 c4
        rw [ch_sm (tb t), decide_eq_true tL, Bool.true_and] at c3
        rw [ch_di (tb t), decide_eq_true tL, Bool.true_and] at c4
        have nsg : sgnB (B t) = false := decide_eq_false fun y => by
          rcases y with y | y | y | y | y | y
          · exact c5 ((ch_eq (c := 60) (tb t) (by omega)).mpr ⟨tL, y⟩)
          · exact c6 ((ch_eq (c := 61) (tb t) (by omega)).mpr ⟨tL, y⟩)
          · exact c7 ((ch_eq (c := 62) (tb t) (by omega)).mpr ⟨tL, y⟩)
          · exact c8 ((ch_eq (c := 91) (tb t) (by omega)).mpr ⟨tL, y⟩)
          · exact c9 ((ch_eq (c := 93) (tb t) (by omega)).mpr ⟨tL, y⟩)
          · exact c10 ((ch_eq (c := 59) (tb t) (by omega)).mpr ⟨tL, y⟩)
        refine fin t 1 (nI t) (nI t + 1) (nb c1 c2) ?_ ?_ ?_ <;> unfold tokA <;> rw [if_pos tL, c3, c4, nsg]
        · rfl
        · rfl
        · exact nI_1 t
      · have c3 := b2i_e0 c3
        have c4 := b2i_n0 c4
        rw [ch_sm (tb t), decide_eq_true tL, Bool.true_and] at c3
        rw [ch_di (tb t), decide_eq_true tL, Bool.true_and] at c4
        rw [hset_hset]
        exact D t (nb c1 c2) tL c3 c4 _ t _ _ rfl (Nat.le_refl _) tl rfl
      · have c3 := b2i_n0 c3
        rw [ch_sm (tb t), decide_eq_true tL, Bool.true_and] at c3
        rw [hset_hset]
        exact W t (nb c1 c2) tL c3 _ t _ _ rfl (Nat.le_refl _) tl rfl
  have := A (L - e) e rfl (Nat.le_refl _) hl rfl
  have ez : (z.1, z.2.1, z.2.2.1, nI e, z.2.2.2.2) = z := by rw [← he]
  rw [ez, hset_same m1] at this
  exact this
end S69b
