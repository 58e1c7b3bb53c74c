/-! RANKING -/
def RaR (h : ev_H) (n : Nat) (o fr : Nat → Nat) : Prop := n ≤ 32 ∧ ∃ go gf gg, hat h 98 (oC 3 [.ref 99, .ref 100, .ref 101, .int (nI n)]) ∧ hat h 99 (aI 32 go) ∧ hat h 100 (aI 32 gf) ∧ hat h 101 (aI 32 gg) ∧ ∀ j, j < n → go j = nI (o j) ∧ gf j = nI (fr j)
theorem RaR.kg {h h1 : ev_H} {n : Nat} {o fr : Nat → Nat} {lo hi : Nat} (B : RaR h n o fr) (K : Kg h h1 lo hi) (q : hi ≤ 98 ∨ 102 ≤ lo) : RaR h1 n o fr := by
  obtain ⟨b1, go, gf, gg, b2, b3, b4, b5, b6⟩ := B
  exact ⟨b1, go, gf, gg, K.hat b2 (by omega), K.hat b3 (by omega), K.hat b4 (by omega), K.hat b5 (by omega), b6⟩
/-- where a far is put in -/
def ipos (fr : Nat → Nat) (f0 : Nat) : Nat → Nat
  | 0 => 0
  | m + 1 => if f0 < fr m then ipos fr f0 m else m + 1
theorem ipos_le (fr : Nat → Nat) (f0 : Nat) : ∀ m, ipos fr f0 m ≤ m
  | 0 => Nat.le_refl _
  | m + 1 => by
    have := ipos_le fr f0 m
    show (if f0 < fr m then ipos fr f0 m else m + 1) ≤ m + 1
    split <;> omega
def insF (o : Nat → Nat) (k c : Nat) : Nat → Nat := fun j => if j < k then o j else if j = k then c else o (j - 1)
def rkS (p : Nat → Bool) (far : Nat → Nat) : Nat → Nat × (Nat → Nat) × (Nat → Nat)
  | 0 => (0, fun _ => 0, fun _ => 0)
  | m + 1 => if p m then ((rkS p far m).1 + 1, insF (rkS p far m).2.1 (ipos (rkS p far m).2.2 (far m) (rkS p far m).1) m, insF (rkS p far m).2.2 (ipos (rkS p far m).2.2 (far m) (rkS p far m).1) (far m)) else rkS p far m
theorem rkS_n (p : Nat → Bool) (far : Nat → Nat) : ∀ m, (rkS p far m).1 = cnt p m
  | 0 => rfl
  | m + 1 => by
    have := rkS_n p far m
    show (if p m then _ else rkS p far m).1 = cnt p m + if p m then 1 else 0
    cases p m
    · exact this
    · show (rkS p far m).1 + 1 = _; rw [this]; rfl
theorem rkS_le (p : Nat → Bool) {far : Nat → Nat} (hf : ∀ j, far j ≤ 64) : ∀ m j, j < (rkS p far m).1 → (rkS p far m).2.2 j ≤ 64 ∧ (rkS p far m).2.1 j < m
  | 0, j, h => absurd h (Nat.not_lt_zero j)
  | m + 1, j, h => by
    have ih := rkS_le p hf m
    have e : rkS p far (m + 1) = if p m then ((rkS p far m).1 + 1, insF (rkS p far m).2.1 (ipos (rkS p far m).2.2 (far m) (rkS p far m).1) m, insF (rkS p far m).2.2 (ipos (rkS p far m).2.2 (far m) (rkS p far m).1) (far m)) else rkS p far m := rfl
    rw [e] at h ⊢
    cases q : p m
    · rw [q] at h
      simp only [Bool.false_eq_true, if_false] at h ⊢
      have := ih j h; omega
    · rw [q] at h
      simp only [if_true] at h ⊢
      have hk := ipos_le (rkS p far m).2.2 (far m) (rkS p far m).1
      unfold insF
      by_cases c1 : j < ipos (rkS p far m).2.2 (far m) (rkS p far m).1
      · rw [if_pos c1, if_pos c1]; have := ih j (by omega); omega
      · by_cases c2 : j = ipos (rkS p far m).2.2 (far m) (rkS p far m).1
        · rw [if_neg c1, if_pos c2, if_neg c1, if_pos c2]; have := hf m; omega
        · rw [if_neg c1, if_neg c2, if_neg c1, if_neg c2]; have := ih (j - 1) (by omega); omega
theorem b_Ra_insert_0 {G : ev_G} {d k n : Nat} {h : ev_H} {R : Option Value → ev_H → Prop} {x1 : Int32} {x2 : Int32} {f_size_1 : Int32}
  (a1 : hat h 98 (oC 3 [.ref 99, .ref 100, .ref 101, .int f_size_1]))
  (k1 : Ev G d k n M_Ra_insert 5 [.ref 98, .int x1, .int x2, .int f_size_1] [] h R)
  : Ev G d k n M_Ra_insert 0 [.ref 98, .int x1, .int x2, ev_unk] [] h R :=
  Ev.go (pc' := 1) (ls' := [.ref 98, .int x1, .int x2, ev_unk]) (st' := [.ref 98]) [.aload_n 0] (by decide +kernel) rfl <|
  Ev.getf f_Ra_21 (by decide +kernel) a1 rfl <|
  Ev.go (pc' := 5) (ls' := [.ref 98, .int x1, .int x2, .int f_size_1]) (st' := []) [.istore_n 3] (by decide +kernel) rfl <|
  k1
theorem b_Ra_insert_5 {G : ev_G} {d k n : Nat} {h : ev_H} {R : Option Value → ev_H → Prop} {x1 : Int32} {x2 : Int32} {x3 : Int32} {f_size_1 : Int32} {g2 : Nat → Int32} {j3 : Nat} {g4 : Nat → Int32} {j5 : Nat}
  (a1 : hat h 98 (oC 3 [.ref 99, .ref 100, .ref 101, .int f_size_1]))
  (a2 : hat h 100 (aI 32 g2))
  (a4 : hat h 99 (aI 32 g4))
  (i3 : (0 : Int32) < x3 → ev_ix (x3 - (1 : Int32)) j3 32)
  (i5 : (0 : Int32) < x3 → x2 < (g2 j3) → ev_ix (x3 - (1 : Int32)) j3 32)
  (i6 : (0 : Int32) < x3 → x2 < (g2 j3) → ev_ix x3 j5 32)
  (k1 : (0 : Int32) < x3 → x2 < (g2 j3) → Ev G d k n M_Ra_insert 5 [.ref 98, .int x1, .int x2, .int (x3 + (-1 : Int32))] [] (hset (hset h 99 (aI 32 (upd g4 j5 (g4 j3)))) 100 (aI 32 (upd g2 j5 (g2 j3)))) R)
  (k2 : (0 : Int32) < x3 → ¬ x2 < (g2 j3) → Ev G d k n M_Ra_insert 55 [.ref 98, .int x1, .int x2, .int x3] [] h R)
  (k3 : ¬ (0 : Int32) < x3 → Ev G d k n M_Ra_insert 55 [.ref 98, .int x1, .int x2, .int x3] [] h R)
  : Ev G d k n M_Ra_insert 5 [.ref 98, .int x1, .int x2, .int x3] [] h R :=
  Ev.go (pc' := 6) (ls' := [.ref 98, .int x1, .int x2, .int x3]) (st' := [.int x3]) [.iload_n 3] (by decide +kernel) rfl <|
  Ev.br (i := .ifCond .le (49)) (P := (0 : Int32) < x3) (t := 9) (f := 55) (r := []) (by decide +kernel) rfl (fun c1 =>
    Ev.go (pc' := 10) (ls' := [.ref 98, .int x1, .int x2, .int x3]) (st' := [.ref 98]) [.aload_n 0] (by decide +kernel) rfl <|
    Ev.getf f_Ra_15 (by decide +kernel) a1 rfl <|
    Ev.go (pc' := 16) (ls' := [.ref 98, .int x1, .int x2, .int x3]) (st' := [.int (x3 - (1 : Int32)), .ref 100]) [.iload_n 3, .iconst 1, .isub] (by decide +kernel) rfl <|
    Ev.iald (j := j3) (by decide +kernel) a2 (i3 c1) <|
    Ev.go (pc' := 18) (ls' := [.ref 98, .int x1, .int x2, .int x3]) (st' := [.int x2, .int (g2 j3)]) [.iload_n 2] (by decide +kernel) rfl <|
    Ev.br (i := .if_icmp .le (37)) (P := x2 < (g2 j3)) (t := 21) (f := 55) (r := []) (by decide +kernel) rfl (fun c2 =>
      Ev.go (pc' := 22) (ls' := [.ref 98, .int x1, .int x2, .int x3]) (st' := [.ref 98]) [.aload_n 0] (by decide +kernel) rfl <|
      Ev.getf f_Ra_9 (by decide +kernel) a1 rfl <|
      Ev.go (pc' := 27) (ls' := [.ref 98, .int x1, .int x2, .int x3]) (st' := [.ref 98, .int x3, .ref 99]) [.iload_n 3, .aload_n 0] (by decide +kernel) rfl <|
      Ev.getf f_Ra_9 (by decide +kernel) a1 rfl <|
      Ev.go (pc' := 33) (ls' := [.ref 98, .int x1, .int x2, .int x3]) (st' := [.int (x3 - (1 : Int32)), .ref 99, .int x3, .ref 99]) [.iload_n 3, .iconst 1, .isub] (by decide +kernel) rfl <|
      Ev.iald (j := j3) (by decide +kernel) a4 (i5 c1 c2) <|
      Ev.iast (j := j5) (by decide +kernel) a4 (i6 c1 c2) <| show Ev G d _ _ M_Ra_insert 35 [.ref 98, .int x1, .int x2, .int x3] [] (hset h 99 (aI 32 (upd g4 j5 (g4 j3)))) R from
      Ev.go (pc' := 36) (ls' := [.ref 98, .int x1, .int x2, .int x3]) (st' := [.ref 98]) [.aload_n 0] (by decide +kernel) rfl <|
      Ev.getf f_Ra_15 (by decide +kernel) (hat_ne a1 (by decide)) rfl <|
      Ev.go (pc' := 41) (ls' := [.ref 98, .int x1, .int x2, .int x3]) (st' := [.ref 98, .int x3, .ref 100]) [.iload_n 3, .aload_n 0] (by decide +kernel) rfl <|
      Ev.getf f_Ra_15 (by decide +kernel) (hat_ne a1 (by decide)) rfl <|
      Ev.go (pc' := 47) (ls' := [.ref 98, .int x1, .int x2, .int x3]) (st' := [.int (x3 - (1 : Int32)), .ref 100, .int x3, .ref 100]) [.iload_n 3, .iconst 1, .isub] (by decide +kernel) rfl <|
      Ev.iald (j := j3) (by decide +kernel) (hat_ne a2 (by decide)) (i5 c1 c2) <|
      Ev.iast (j := j5) (by decide +kernel) (hat_ne a2 (by decide)) (i6 c1 c2) <| show Ev G d _ _ M_Ra_insert 49 [.ref 98, .int x1, .int x2, .int x3] [] (hset (hset h 99 (aI 32 (upd g4 j5 (g4 j3)))) 100 (aI 32 (upd g2 j5 (g2 j3)))) R from
      Ev.go (pc' := 5) (ls' := [.ref 98, .int x1, .int x2, .int (x3 + (-1 : Int32))]) (st' := []) [.iinc 3 (-1), .goto (-47)] (by decide +kernel) rfl <|
      (k1 c1 c2)
    ) (fun c2 =>
      (k2 c1 c2)
    )
  ) (fun c1 =>
    (k3 c1)
  )
theorem b_Ra_insert_55 {G : ev_G} {d k n : Nat} {h : ev_H} {R : Option Value → ev_H → Prop} {x1 : Int32} {x2 : Int32} {x3 : Int32} {f_size_1 : Int32} {g2 : Nat → Int32} {j3 : Nat} {g4 : Nat → Int32}
  (a1 : hat h 98 (oC 3 [.ref 99, .ref 100, .ref 101, .int f_size_1]))
  (a2 : hat h 99 (aI 32 g2))
  (a4 : hat h 100 (aI 32 g4))
  (i3 : ev_ix x3 j3 32)
  (k1 : R none (hset (hset (hset h 99 (aI 32 (upd g2 j3 x1))) 100 (aI 32 (upd g4 j3 x2))) 98 (oC 3 [.ref 99, .ref 100, .ref 101, .int (f_size_1 + (1 : Int32))])))
  : Ev G d k n M_Ra_insert 55 [.ref 98, .int x1, .int x2, .int x3] [] h R :=
  Ev.go (pc' := 56) (ls' := [.ref 98, .int x1, .int x2, .int x3]) (st' := [.ref 98]) [.aload_n 0] (by decide +kernel) rfl <|
  Ev.getf f_Ra_9 (by decide +kernel) a1 rfl <|
  Ev.go (pc' := 61) (ls' := [.ref 98, .int x1, .int x2, .int x3]) (st' := [.int x1, .int x3, .ref 99]) [.iload_n 3, .iload_n 1] (by decide +kernel) rfl <|
  Ev.iast (j := j3) (by decide +kernel) a2 i3 <| show Ev G d _ _ M_Ra_insert 62 [.ref 98, .int x1, .int x2, .int x3] [] (hset h 99 (aI 32 (upd g2 j3 x1))) R from
  Ev.go (pc' := 63) (ls' := [.ref 98, .int x1, .int x2, .int x3]) (st' := [.ref 98]) [.aload_n 0] (by decide +kernel) rfl <|
  Ev.getf f_Ra_15 (by decide +kernel) (hat_ne a1 (by decide)) rfl <|
  Ev.go (pc' := 68) (ls' := [.ref 98, .int x1, .int x2, .int x3]) (st' := [.int x2, .int x3, .ref 100]) [.iload_n 3, .iload_n 2] (by decide +kernel) rfl <|
  Ev.iast (j := j3) (by decide +kernel) (hat_ne a4 (by decide)) i3 <| show Ev G d _ _ M_Ra_insert 69 [.ref 98, .int x1, .int x2, .int x3] [] (hset (hset h 99 (aI 32 (upd g2 j3 x1))) 100 (aI 32 (upd g4 j3 x2))) R from
  Ev.go (pc' := 71) (ls' := [.ref 98, .int x1, .int x2, .int x3]) (st' := [.ref 98, .ref 98]) [.aload_n 0, .dup] (by decide +kernel) rfl <|
  Ev.getf f_Ra_21 (by decide +kernel) (hat_ne (hat_ne a1 (by decide)) (by decide)) rfl <|
  Ev.go (pc' := 76) (ls' := [.ref 98, .int x1, .int x2, .int x3]) (st' := [.int (f_size_1 + (1 : Int32)), .ref 98]) [.iconst 1, .iadd] (by decide +kernel) rfl <|
  Ev.putf f_Ra_21 (by decide +kernel) (hat_ne (hat_ne a1 (by decide)) (by decide)) (Nat.le_of_ble_eq_true rfl) rfl (fun q => nomatch q) <| show Ev G d _ _ M_Ra_insert 79 [.ref 98, .int x1, .int x2, .int x3] [] (hset (hset (hset h 99 (aI 32 (upd g2 j3 x1))) 100 (aI 32 (upd g4 j3 x2))) 98 (oC 3 [.ref 99, .ref 100, .ref 101, .int (f_size_1 + (1 : Int32))])) R from
  Ev.ret (r := none) (Or.inr (Or.inr (Or.inl ⟨rfl, by decide +kernel, rfl⟩))) k1
theorem b_Ra_rank_0 {G : ev_G} {d k n : Nat} {h : ev_H} {R : Option Value → ev_H → Prop} {x1 : Nat} {x2 : Int32} {x3 : Int64} {f_size_1 : Int32}
  (a1 : hat h 98 (oC 3 [.ref 99, .ref 100, .ref 101, .int f_size_1]))
  (k1 : Ev G (d + 2) k n M_Ra_rank 8 [.ref 98, .ref x1, .int x2, .long x3, ev_unk, .int (0 : Int32)] [] (hset h 98 (oC 3 [.ref 99, .ref 100, .ref 101, .int (0 : Int32)])) R)
  : Ev G (d + 2) k n M_Ra_rank 0 [.ref 98, .ref x1, .int x2, .long x3, ev_unk, ev_unk] [] h R :=
  Ev.go (pc' := 2) (ls' := [.ref 98, .ref x1, .int x2, .long x3, ev_unk, ev_unk]) (st' := [.int (0 : Int32), .ref 98]) [.aload_n 0, .iconst 0] (by decide +kernel) rfl <|
  Ev.putf f_Ra_21 (by decide +kernel) a1 (Nat.le_of_ble_eq_true rfl) rfl (fun q => nomatch q) <| show Ev G (d + 2) _ _ M_Ra_rank 5 [.ref 98, .ref x1, .int x2, .long x3, ev_unk, ev_unk] [] (hset h 98 (oC 3 [.ref 99, .ref 100, .ref 101, .int (0 : Int32)])) R from
  Ev.go (pc' := 8) (ls' := [.ref 98, .ref x1, .int x2, .long x3, ev_unk, .int (0 : Int32)]) (st' := []) [.iconst 0, .istore 5] (by decide +kernel) rfl <|
  k1
theorem b_Ra_rank_8 {G : ev_G} {d k n : Nat} {h : ev_H} {R : Option Value → ev_H → Prop} {x1 : Nat} {x2 : Int32} {x3 : Int64} {x5 : Int32} {g1 : Nat → Int64} {j2 : Nat}
  (a1 : hat h x1 (aL 32 g1))
  (i2 : x5 < (32 : Int32) → ¬ (b2i (inI x2 x5)) = (0 : Int32) → ev_ix x5 j2 32)
  (r3 : x5 < (32 : Int32) → ¬ (b2i (inI x2 x5)) = (0 : Int32) → ∃ fs, hat h 98 (oC 3 fs))
  (k1 : x5 < (32 : Int32) → (b2i (inI x2 x5)) = (0 : Int32) → Ev G (d + 2) k n M_Ra_rank 38 [.ref 98, .ref x1, .int x2, .long x3, ev_unk, .int x5] [] h R)
  (k2 : x5 < (32 : Int32) → ¬ (b2i (inI x2 x5)) = (0 : Int32) → Ev G (d + 1) 0 0 M_Ra_insert 0 [.ref 98, .int x5, .int (nI (pop ((g1 j2) ^^^ x3))), ev_unk] [] h (fun r h1 => Ev G (d + 2) k n M_Ra_rank 38 [.ref 98, .ref x1, .int x2, .long x3, ev_unk, .int x5] (r.toList ++ []) h1 R))
  (k3 : ¬ x5 < (32 : Int32) → R none h)
  : Ev G (d + 2) k n M_Ra_rank 8 [.ref 98, .ref x1, .int x2, .long x3, ev_unk, .int x5] [] h R :=
  Ev.go (pc' := 12) (ls' := [.ref 98, .ref x1, .int x2, .long x3, ev_unk, .int x5]) (st' := [.int (32 : Int32), .int x5]) [.iload 5, .bipush (32)] (by decide +kernel) rfl <|
  Ev.br (i := .if_icmp .ge (32)) (P := x5 < (32 : Int32)) (t := 15) (f := 44) (r := []) (by decide +kernel) rfl (fun c1 =>
    Ev.go (pc' := 18) (ls' := [.ref 98, .ref x1, .int x2, .long x3, ev_unk, .int x5]) (st' := [.int x5, .int x2]) [.iload_n 2, .iload 5] (by decide +kernel) rfl <|
    Ev.cSN0 (M' := M_X_isIn) (as := [.int x2, .int x5]) (rest := []) l_Ra_25 M_X_isIn_ok M_X_isIn_st (by decide +kernel) rfl rfl (Nat.le_of_ble_eq_true rfl) (Nat.le_of_ble_eq_true rfl) (s_X_isIn <| show Ev G (d + 2) _ _ M_Ra_rank 21 [.ref 98, .ref x1, .int x2, .long x3, ev_unk, .int x5] [.int (b2i (inI x2 x5))] h R from
      Ev.br (i := .ifCond .eq (17)) (P := (b2i (inI x2 x5)) = (0 : Int32)) (t := 38) (f := 24) (r := []) (by decide +kernel) rfl (fun c2 =>
        (k1 c1 c2)
      ) (fun c2 =>
        Ev.go (pc' := 30) (ls' := [.ref 98, .ref x1, .int x2, .long x3, ev_unk, .int x5]) (st' := [.int x5, .ref x1, .int x5, .ref 98]) [.aload_n 0, .iload 5, .aload_n 1, .iload 5] (by decide +kernel) rfl <|
        Ev.lald (j := j2) (by decide +kernel) a1 (i2 c1 c2) <|
        Ev.go (pc' := 32) (ls' := [.ref 98, .ref x1, .int x2, .long x3, ev_unk, .int x5]) (st' := [.long x3, .long (g1 j2), .int x5, .ref 98]) [.lload_n 3] (by decide +kernel) rfl <|
        Ev.cSN0 (M' := M_X_unlike) (as := [.long (g1 j2), .long x3]) (rest := [.int x5, .ref 98]) l_Ra_29 M_X_unlike_ok M_X_unlike_st (by decide +kernel) rfl rfl (Nat.le_of_ble_eq_true rfl) (Nat.le_of_ble_eq_true rfl) (s_X_unlike <| show Ev G (d + 2) _ _ M_Ra_rank 35 [.ref 98, .ref x1, .int x2, .long x3, ev_unk, .int x5] [.int (nI (pop ((g1 j2) ^^^ x3))), .int x5, .ref 98] h R from
          Ev.cV0 (M' := M_Ra_insert) (as := [.int x5, .int (nI (pop ((g1 j2) ^^^ x3)))]) (rest := []) l_Ra_33 M_Ra_insert_ok M_Ra_insert_in M_Ra_insert_se (by decide +kernel) (r3 c1 c2) rfl rfl rfl (Nat.le_of_ble_eq_true rfl) (Nat.le_of_ble_eq_true rfl) (k2 c1 c2)
        )
      )
    )
  ) (fun c1 =>
    Ev.ret (r := none) (Or.inr (Or.inr (Or.inl ⟨rfl, by decide +kernel, rfl⟩))) (k3 c1)
  )
theorem b_Ra_rank_38 {G : ev_G} {d k n : Nat} {h : ev_H} {R : Option Value → ev_H → Prop} {x1 : Nat} {x2 : Int32} {x3 : Int64} {x5 : Int32}
  (k1 : Ev G (d + 2) k n M_Ra_rank 8 [.ref 98, .ref x1, .int x2, .long x3, ev_unk, .int (x5 + (1 : Int32))] [] h R)
  : Ev G (d + 2) k n M_Ra_rank 38 [.ref 98, .ref x1, .int x2, .long x3, ev_unk, .int x5] [] h R :=
  Ev.go (pc' := 8) (ls' := [.ref 98, .ref x1, .int x2, .long x3, ev_unk, .int (x5 + (1 : Int32))]) (st' := []) [.iinc 5 (1), .goto (-33)] (by decide +kernel) rfl <|
  k1
theorem b_Ra_takenApart_0 {G : ev_G} {d k n : Nat} {h : ev_H} {R : Option Value → ev_H → Prop} {x1 : Nat} {x2 : Int32} {f_size_1 : Int32}
  (a1 : hat h 98 (oC 3 [.ref 99, .ref 100, .ref 101, .int f_size_1]))
  (k1 : Ev G (d + 1) 0 0 M_JA_fill 0 [.ref 101, .int (49 : Int32), ev_unk, ev_unk] [] h (fun r h1 => Ev G (d + 2) k n M_Ra_takenApart 9 [.ref 98, .ref x1, .int x2, ev_unk, ev_unk, ev_unk, ev_unk] (r.toList ++ []) h1 R))
  : Ev G (d + 2) k n M_Ra_takenApart 0 [.ref 98, .ref x1, .int x2, ev_unk, ev_unk, ev_unk, ev_unk] [] h R :=
  Ev.go (pc' := 1) (ls' := [.ref 98, .ref x1, .int x2, ev_unk, ev_unk, ev_unk, ev_unk]) (st' := [.ref 98]) [.aload_n 0] (by decide +kernel) rfl <|
  Ev.getf f_Ra_18 (by decide +kernel) a1 rfl <|
  Ev.go (pc' := 6) (ls' := [.ref 98, .ref x1, .int x2, ev_unk, ev_unk, ev_unk, ev_unk]) (st' := [.int (49 : Int32), .ref 101]) [.bipush (49)] (by decide +kernel) rfl <|
  Ev.cS0 (M' := M_JA_fill) (as := [.ref 101, .int (49 : Int32)]) (rest := []) l_Ra_37 M_JA_fill_ok M_JA_fill_st (by decide +kernel) rfl rfl (Nat.le_of_ble_eq_true rfl) (Nat.le_of_ble_eq_true rfl) k1
theorem b_Ra_takenApart_9 {G : ev_G} {d k n : Nat} {h : ev_H} {R : Option Value → ev_H → Prop} {x1 : Nat} {x2 : Int32}
  (k1 : Ev G (d + 2) k n M_Ra_takenApart 14 [.ref 98, .ref x1, .int x2, .int (0 : Int32), .int (0 : Int32), ev_unk, ev_unk] [] h R)
  : Ev G (d + 2) k n M_Ra_takenApart 9 [.ref 98, .ref x1, .int x2, ev_unk, ev_unk, ev_unk, ev_unk] [] h R :=
  Ev.go (pc' := 14) (ls' := [.ref 98, .ref x1, .int x2, .int (0 : Int32), .int (0 : Int32), ev_unk, ev_unk]) (st' := []) [.iconst 0, .istore_n 3, .iconst 0, .istore 4] (by decide +kernel) rfl <|
  k1
theorem b_Ra_takenApart_14 {G : ev_G} {d k n : Nat} {h : ev_H} {R : Option Value → ev_H → Prop} {x1 : Nat} {x2 : Int32} {x3 : Int32} {x4 : Int32} {f_size_1 : Int32} {g2 : Nat → Int32} {j3 : Nat}
  (a1 : hat h 98 (oC 3 [.ref 99, .ref 100, .ref 101, .int f_size_1]))
  (a2 : hat h 99 (aI 32 g2))
  (i3 : ¬ x4 < x2 → ev_ix x3 j3 32)
  (k1 : x4 < x2 → Ev G (d + 2) k n M_Ra_takenApart 26 [.ref 98, .ref x1, .int x2, .int x3, .int x4, .int (0 : Int32), .int (0 : Int32)] [] h R)
  (k2 : ¬ x4 < x2 → R (some (.int (g2 j3))) h)
  : Ev G (d + 2) k n M_Ra_takenApart 14 [.ref 98, .ref x1, .int x2, .int x3, .int x4, ev_unk, ev_unk] [] h R :=
  Ev.go (pc' := 17) (ls' := [.ref 98, .ref x1, .int x2, .int x3, .int x4, ev_unk, ev_unk]) (st' := [.int x2, .int x4]) [.iload 4, .iload_n 2] (by decide +kernel) rfl <|
  Ev.br (i := .if_icmp .ge (96)) (P := x4 < x2) (t := 20) (f := 113) (r := []) (by decide +kernel) rfl (fun c1 =>
    Ev.go (pc' := 26) (ls' := [.ref 98, .ref x1, .int x2, .int x3, .int x4, .int (0 : Int32), .int (0 : Int32)]) (st' := []) [.iconst 0, .istore 5, .iconst 0, .istore 6] (by decide +kernel) rfl <|
    (k1 c1)
  ) (fun c1 =>
    Ev.go (pc' := 114) (ls' := [.ref 98, .ref x1, .int x2, .int x3, .int x4, ev_unk, ev_unk]) (st' := [.ref 98]) [.aload_n 0] (by decide +kernel) rfl <|
    Ev.getf f_Ra_9 (by decide +kernel) a1 rfl <|
    Ev.go (pc' := 118) (ls' := [.ref 98, .ref x1, .int x2, .int x3, .int x4, ev_unk, ev_unk]) (st' := [.int x3, .ref 99]) [.iload_n 3] (by decide +kernel) rfl <|
    Ev.iald (j := j3) (by decide +kernel) a2 (i3 c1) <|
    Ev.ret (r := (some (.int (g2 j3)))) (Or.inl ⟨_, rfl, by decide +kernel, _, rfl, rfl⟩) (k2 c1)
  )
theorem b_Ra_takenApart_26 {G : ev_G} {d k n : Nat} {h : ev_H} {R : Option Value → ev_H → Prop} {x1 : Nat} {x2 : Int32} {x3 : Int32} {x4 : Int32} {x5 : Int32} {x6 : Int32} {f_size_1 : Int32} {g2 : Nat → Int32} {j3 : Nat} {g4 : Nat → Int32} {g5 : Nat → Int64} {j6 : Nat} {j7 : Nat} {j8 : Nat} {j9 : Nat}
  (a1 : hat h 98 (oC 3 [.ref 99, .ref 100, .ref 101, .int f_size_1]))
  (a2 : hat h 101 (aI 32 g2))
  (a4 : hat h 99 (aI 32 g4))
  (a5 : hat h x1 (aL 32 g5))
  (i3 : x6 < f_size_1 → ev_ix x6 j3 32)
  (i6 : x6 < f_size_1 → ev_ix (g4 j3) j6 32)
  (i7 : x6 < f_size_1 → ev_ix x3 j7 32)
  (i8 : x6 < f_size_1 → ev_ix (g4 j7) j8 32)
  (e9 : x6 < f_size_1 → x1 ≠ 101)
  (i10 : x6 < f_size_1 → ev_ix x5 j9 32)
  (k1 : x6 < f_size_1 → ((upd g2 j3 (if (nI (pop ((g5 j6) ^^^ (g5 j8)))) < (g2 j3) then (nI (pop ((g5 j6) ^^^ (g5 j8)))) else (g2 j3))) j9) < ((upd g2 j3 (if (nI (pop ((g5 j6) ^^^ (g5 j8)))) < (g2 j3) then (nI (pop ((g5 j6) ^^^ (g5 j8)))) else (g2 j3))) j3) → Ev G (d + 2) k n M_Ra_takenApart 26 [.ref 98, .ref x1, .int x2, .int x3, .int x4, .int x6, .int (x6 + (1 : Int32))] [] (hset h 101 (aI 32 (upd g2 j3 (if (nI (pop ((g5 j6) ^^^ (g5 j8)))) < (g2 j3) then (nI (pop ((g5 j6) ^^^ (g5 j8)))) else (g2 j3))))) R)
  (k2 : x6 < f_size_1 → ¬ ((upd g2 j3 (if (nI (pop ((g5 j6) ^^^ (g5 j8)))) < (g2 j3) then (nI (pop ((g5 j6) ^^^ (g5 j8)))) else (g2 j3))) j9) < ((upd g2 j3 (if (nI (pop ((g5 j6) ^^^ (g5 j8)))) < (g2 j3) then (nI (pop ((g5 j6) ^^^ (g5 j8)))) else (g2 j3))) j3) → Ev G (d + 2) k n M_Ra_takenApart 26 [.ref 98, .ref x1, .int x2, .int x3, .int x4, .int x5, .int (x6 + (1 : Int32))] [] (hset h 101 (aI 32 (upd g2 j3 (if (nI (pop ((g5 j6) ^^^ (g5 j8)))) < (g2 j3) then (nI (pop ((g5 j6) ^^^ (g5 j8)))) else (g2 j3))))) R)
  (k3 : ¬ x6 < f_size_1 → Ev G (d + 2) k n M_Ra_takenApart 14 [.ref 98, .ref x1, .int x2, .int x5, .int (x4 + (1 : Int32)), ev_unk, ev_unk] [] h R)
  : Ev G (d + 2) k n M_Ra_takenApart 26 [.ref 98, .ref x1, .int x2, .int x3, .int x4, .int x5, .int x6] [] h R :=
  Ev.go (pc' := 29) (ls' := [.ref 98, .ref x1, .int x2, .int x3, .int x4, .int x5, .int x6]) (st' := [.ref 98, .int x6]) [.iload 6, .aload_n 0] (by decide +kernel) rfl <|
  Ev.getf f_Ra_21 (by decide +kernel) a1 rfl <|
  Ev.br (i := .if_icmp .ge (72)) (P := x6 < f_size_1) (t := 35) (f := 104) (r := []) (by decide +kernel) rfl (fun c1 =>
    Ev.go (pc' := 36) (ls' := [.ref 98, .ref x1, .int x2, .int x3, .int x4, .int x5, .int x6]) (st' := [.ref 98]) [.aload_n 0] (by decide +kernel) rfl <|
    Ev.getf f_Ra_18 (by decide +kernel) a1 rfl <|
    Ev.go (pc' := 42) (ls' := [.ref 98, .ref x1, .int x2, .int x3, .int x4, .int x5, .int x6]) (st' := [.ref 98, .int x6, .ref 101]) [.iload 6, .aload_n 0] (by decide +kernel) rfl <|
    Ev.getf f_Ra_18 (by decide +kernel) a1 rfl <|
    Ev.go (pc' := 47) (ls' := [.ref 98, .ref x1, .int x2, .int x3, .int x4, .int x5, .int x6]) (st' := [.int x6, .ref 101, .int x6, .ref 101]) [.iload 6] (by decide +kernel) rfl <|
    Ev.iald (j := j3) (by decide +kernel) a2 (i3 c1) <|
    Ev.go (pc' := 50) (ls' := [.ref 98, .ref x1, .int x2, .int x3, .int x4, .int x5, .int x6]) (st' := [.ref 98, .ref x1, .int (g2 j3), .int x6, .ref 101]) [.aload_n 1, .aload_n 0] (by decide +kernel) rfl <|
    Ev.getf f_Ra_9 (by decide +kernel) a1 rfl <|
    Ev.go (pc' := 55) (ls' := [.ref 98, .ref x1, .int x2, .int x3, .int x4, .int x5, .int x6]) (st' := [.int x6, .ref 99, .ref x1, .int (g2 j3), .int x6, .ref 101]) [.iload 6] (by decide +kernel) rfl <|
    Ev.iald (j := j3) (by decide +kernel) a4 (i3 c1) <|
    Ev.lald (j := j6) (by decide +kernel) a5 (i6 c1) <|
    Ev.go (pc' := 59) (ls' := [.ref 98, .ref x1, .int x2, .int x3, .int x4, .int x5, .int x6]) (st' := [.ref 98, .ref x1, .long (g5 j6), .int (g2 j3), .int x6, .ref 101]) [.aload_n 1, .aload_n 0] (by decide +kernel) rfl <|
    Ev.getf f_Ra_9 (by decide +kernel) a1 rfl <|
    Ev.go (pc' := 63) (ls' := [.ref 98, .ref x1, .int x2, .int x3, .int x4, .int x5, .int x6]) (st' := [.int x3, .ref 99, .ref x1, .long (g5 j6), .int (g2 j3), .int x6, .ref 101]) [.iload_n 3] (by decide +kernel) rfl <|
    Ev.iald (j := j7) (by decide +kernel) a4 (i7 c1) <|
    Ev.lald (j := j8) (by decide +kernel) a5 (i8 c1) <|
    Ev.cSN0 (M' := M_X_unlike) (as := [.long (g5 j6), .long (g5 j8)]) (rest := [.int (g2 j3), .int x6, .ref 101]) l_Ra_29 M_X_unlike_ok M_X_unlike_st (by decide +kernel) rfl rfl (Nat.le_of_ble_eq_true rfl) (Nat.le_of_ble_eq_true rfl) (s_X_unlike <| show Ev G (d + 2) _ _ M_Ra_takenApart 68 [.ref 98, .ref x1, .int x2, .int x3, .int x4, .int x5, .int x6] [.int (nI (pop ((g5 j6) ^^^ (g5 j8)))), .int (g2 j3), .int x6, .ref 101] h R from
      Ev.mmin lL_Ra_43 w_minS w_mathI w_minC (Nat.le_of_ble_eq_true rfl) (by decide +kernel) <|
      Ev.iast (j := j3) (by decide +kernel) a2 (i3 c1) <| show Ev G (d + 2) _ _ M_Ra_takenApart 72 [.ref 98, .ref x1, .int x2, .int x3, .int x4, .int x5, .int x6] [] (hset h 101 (aI 32 (upd g2 j3 (if (nI (pop ((g5 j6) ^^^ (g5 j8)))) < (g2 j3) then (nI (pop ((g5 j6) ^^^ (g5 j8)))) else (g2 j3))))) R from
      Ev.go (pc' := 73) (ls' := [.ref 98, .ref x1, .int x2, .int x3, .int x4, .int x5, .int x6]) (st' := [.ref 98]) [.aload_n 0] (by decide +kernel) rfl <|
      Ev.getf f_Ra_18 (by decide +kernel) (hat_ne a1 (by decide)) rfl <|
      Ev.go (pc' := 78) (ls' := [.ref 98, .ref x1, .int x2, .int x3, .int x4, .int x5, .int x6]) (st' := [.int x6, .ref 101]) [.iload 6] (by decide +kernel) rfl <|
      Ev.iald (j := j3) (by decide +kernel) (hat_set a2) (i3 c1) <|
      Ev.go (pc' := 80) (ls' := [.ref 98, .ref x1, .int x2, .int x3, .int x4, .int x5, .int x6]) (st' := [.ref 98, .int ((upd g2 j3 (if (nI (pop ((g5 j6) ^^^ (g5 j8)))) < (g2 j3) then (nI (pop ((g5 j6) ^^^ (g5 j8)))) else (g2 j3))) j3)]) [.aload_n 0] (by decide +kernel) rfl <|
      Ev.getf f_Ra_18 (by decide +kernel) (hat_ne a1 (by decide)) rfl <|
      Ev.go (pc' := 85) (ls' := [.ref 98, .ref x1, .int x2, .int x3, .int x4, .int x5, .int x6]) (st' := [.int x5, .ref 101, .int ((upd g2 j3 (if (nI (pop ((g5 j6) ^^^ (g5 j8)))) < (g2 j3) then (nI (pop ((g5 j6) ^^^ (g5 j8)))) else (g2 j3))) j3)]) [.iload 5] (by decide +kernel) rfl <|
      Ev.iald (j := j9) (by decide +kernel) (hat_set a2) (i10 c1) <|
      Ev.br (i := .if_icmp .le (8)) (P := ((upd g2 j3 (if (nI (pop ((g5 j6) ^^^ (g5 j8)))) < (g2 j3) then (nI (pop ((g5 j6) ^^^ (g5 j8)))) else (g2 j3))) j9) < ((upd g2 j3 (if (nI (pop ((g5 j6) ^^^ (g5 j8)))) < (g2 j3) then (nI (pop ((g5 j6) ^^^ (g5 j8)))) else (g2 j3))) j3)) (t := 89) (f := 94) (r := []) (by decide +kernel) rfl (fun c2 =>
        Ev.go (pc' := 26) (ls' := [.ref 98, .ref x1, .int x2, .int x3, .int x4, .int x6, .int (x6 + (1 : Int32))]) (st' := []) [.iload 6, .goto (5), .istore 5, .iinc 6 (1), .goto (-75)] (by decide +kernel) rfl <|
        (k1 c1 c2)
      ) (fun c2 =>
        Ev.go (pc' := 26) (ls' := [.ref 98, .ref x1, .int x2, .int x3, .int x4, .int x5, .int (x6 + (1 : Int32))]) (st' := []) [.iload 5, .istore 5, .iinc 6 (1), .goto (-75)] (by decide +kernel) rfl <|
        (k2 c1 c2)
      )
    )
  ) (fun c1 =>
    Ev.go (pc' := 14) (ls' := [.ref 98, .ref x1, .int x2, .int x5, .int (x4 + (1 : Int32)), .int x5, .int x6]) (st' := []) [.iload 5, .istore_n 3, .iinc 4 (1), .goto (-96)] (by decide +kernel) rfl <|
    Ev.forget (ls' := [.ref 98, .ref x1, .int x2, .int x5, .int (x4 + (1 : Int32)), ev_unk, ev_unk]) ⟨Or.inr rfl, Or.inr rfl, Or.inr rfl, Or.inr rfl, Or.inr rfl, Or.inl rfl, Or.inl rfl, trivial⟩ <|
    (k3 c1)
  )
section S21
variable {G : ev_G} {d : Nat} {h : ev_H} {R : Option Value → ev_H → Prop} {S : AS}
theorem s_Ra_insert {n c f0 : Nat} {o fr : Nat → Nat} {cI fI : Int32} (B : RaR h n o fr) (hn : n < 32) (hc : cI = nI c) (hf : fI = nI f0 ∧ f0 ≤ 64) (hfr : ∀ j, j < n → fr j ≤ 64) (hR : ∀ h', Kp h h' 98 101 → RaR h' (n + 1) (insF o (ipos fr f0 n) c) (insF fr (ipos fr f0 n) f0) → R none h') : Ev G d 0 0 M_Ra_insert 0 [.ref 98, .int cI, .int fI, ev_unk] [] h R := by
  obtain ⟨rfl, hf⟩ := hf
  subst hc
  obtain ⟨b1, go, gf, gg, b2, b3, b4, b5, b6⟩ := B
  refine b_Ra_insert_0 b2 ?_
  have fin : ∀ at' h' go' gf', at' ≤ n → ipos fr f0 n = at' → Kp h h' 98 101 → hat h' 98 (oC 3 [.ref 99, .ref 100, .ref 101, .int (nI n)]) → hat h' 99 (aI 32 go') → hat h' 100 (aI 32 gf') → hat h' 101 (aI 32 gg) → (∀ j, j < at' → go' j = nI (o j) ∧ gf' j = nI (fr j)) → (∀ j, at' < j → j ≤ n → go' j = nI (o (j - 1)) ∧ gf' j = nI (fr (j - 1))) → Ev G d 0 0 M_Ra_insert 55 [.ref 98, .int (nI c), .int (nI f0), .int (nI at')] [] h' R := by
    intro k h' go' gf' hk ek K g2 g3 g4 g5 lo hi
    refine b_Ra_insert_55 (j3 := k) g2 g3 g4 (ixn (by omega) (by decide)) ?_
    have hR' := hR
    rw [ek] at hR'
    rw [nI_1]
    refine hR' _ (((K.set (k := 99) _ (by omega) (by omega)).set (k := 100) _ (by omega) (by omega)).set (k := 98) _ (by omega) (by omega)) ⟨by omega, _, _, gg, ⟨g2.1, hset_eq _ _ _⟩, hat_ne (hat_ne ⟨g3.1, hset_eq _ _ _⟩ (by omega)) (by omega), hat_ne ⟨g4.1, hset_eq _ _ _⟩ (by omega), hat_ne (hat_ne (hat_ne g5 (by omega)) (by omega)) (by omega), fun j hj => ?_⟩
    unfold insF
    by_cases c1 : j < k
    · simp only [upd, if_neg (show ¬ j = k by omega), if_pos c1]; exact lo j c1
    · by_cases c2 : j = k
      · simp only [upd, if_pos c2, if_neg c1]; exact ⟨trivial, trivial⟩
      · simp only [upd, if_neg c2, if_neg c1]; exact hi j (by omega) (by omega)
  have L : ∀ at' h' go' gf', at' ≤ n → ipos fr f0 n = ipos fr f0 at' → Kp h h' 98 101 → hat h' 98 (oC 3 [.ref 99, .ref 100, .ref 101, .int (nI n)]) → hat h' 99 (aI 32 go') → hat h' 100 (aI 32 gf') → hat h' 101 (aI 32 gg) → (∀ j, j < at' → go' j = nI (o j) ∧ gf' j = nI (fr j)) → (∀ j, at' < j → j ≤ n → go' j = nI (o (j - 1)) ∧ gf' j = nI (fr (j - 1))) → Ev G d 0 0 M_Ra_insert 5 [.ref 98, .int (nI c), .int (nI f0), .int (nI at')] [] h' R := by
    intro k
    induction k with
    | zero =>
      intro h' go' gf' hk ek K g2 g3 g4 g5 lo hi
      exact b_Ra_insert_5 (j3 := 0) (j5 := 0) g2 g4 g3 (fun q => absurd q (by decide)) (fun q => absurd q (by decide)) (fun q => absurd q (by decide)) (fun q => absurd q (by decide)) (fun q => absurd q (by decide)) (fun _ => fin 0 h' go' gf' hk ek K g2 g3 g4 g5 lo hi)
    | succ k ih =>
      intro h' go' gf' hk ek K g2 g3 g4 g5 lo hi
      have pos : (0 : Int32) < nI (k + 1) := nI_lt (a := 0) (by omega) (by omega)
      have ej : nI (k + 1) - 1 = nI k := nI_pred k
      have st : ipos fr f0 (k + 1) = if f0 < fr k then ipos fr f0 k else k + 1 := rfl
      have hfk := hfr k (by omega)
      refine b_Ra_insert_5 (j3 := k) (j5 := k + 1) g2 g4 g3 (fun _ => by rw [ej]; exact ixn (by omega) (by decide)) (fun _ _ => by rw [ej]; exact ixn (by omega) (by decide)) (fun _ _ => ixn (by omega) (by decide)) (fun _ q => ?_) (fun _ q => ?_) (fun q => absurd pos q)
      · rw [(lo k (by omega)).2, nI_ltI (by omega) (by omega)] at q
        rw [nI_dec]
        refine ih _ _ _ (by omega) (by rw [ek, st, if_pos q]) ((K.set (k := 99) _ (by omega) (by omega)).set (k := 100) _ (by omega) (by omega)) (hat_ne (hat_ne g2 (by omega)) (by omega)) (hat_ne ⟨g3.1, hset_eq _ _ _⟩ (by omega)) ⟨g4.1, hset_eq _ _ _⟩ (hat_ne (hat_ne g5 (by omega)) (by omega)) (fun j hj => ?_) (fun j hj hj2 => ?_)
        · simp only [upd, if_neg (show ¬ j = k + 1 by omega)]; exact lo j (by omega)
        · by_cases e : j = k + 1
          · subst e; simp only [upd, if_true, Nat.add_sub_cancel]; exact lo k (by omega)
          · simp only [upd, if_neg e]; exact hi j (by omega) hj2
      · rw [(lo k (by omega)).2, nI_ltI (by omega) (by omega)] at q
        exact fin (k + 1) h' go' gf' hk (by rw [ek, st, if_neg q]) K g2 g3 g4 g5 lo hi
  exact L n h go gf (Nat.le_refl _) rfl (Kp.refl _ _ _) b2 b3 b4 b5 b6 (fun j q q2 => absurd q2 (by omega))
theorem s_Ra_rank {a n0 : Nat} {o0 fr0 : Nat → Nat} {set : Int32} {x : Int64} {cof : Nat → Int64} (B : RaR h n0 o0 fr0) (ha : hat h a (aL 32 cof)) (ha2 : a < 98) (hR : ∀ h', Kp h h' 98 101 → RaR h' (rkS (bt set) (fun j => pop (cof j ^^^ x)) 32).1 (rkS (bt set) (fun j => pop (cof j ^^^ x)) 32).2.1 (rkS (bt set) (fun j => pop (cof j ^^^ x)) 32).2.2 → R none h') : Ev G (d + 2) 0 0 M_Ra_rank 0 [.ref 98, .ref a, .int set, .long x, ev_unk, ev_unk] [] h R := by
  obtain ⟨b1, go, gf, gg, b2, b3, b4, b5, b6⟩ := B
  refine b_Ra_rank_0 b2 ?_
  have K0 := (Kp.refl h 98 101).set (k := 98) (oC 3 [.ref 99, .ref 100, .ref 101, .int 0]) (by omega) (by omega)
  have L := up0 (P := fun m => ∀ h', Kp h h' 98 101 → RaR h' (rkS (bt set) (fun j => pop (cof j ^^^ x)) m).1 (rkS (bt set) (fun j => pop (cof j ^^^ x)) m).2.1 (rkS (bt set) (fun j => pop (cof j ^^^ x)) m).2.2 → Ev G (d + 2) 0 0 M_Ra_rank 8 [.ref 98, .ref a, .int set, .long x, ev_unk, .int (nI m)] [] h' R) 32 ?_ ?_
  · exact L _ K0 ⟨by show 0 ≤ 32; omega, go, gf, gg, ⟨b2.1, hset_eq _ _ _⟩, hat_ne b3 (by omega), hat_ne b4 (by omega), hat_ne b5 (by omega), fun j q => absurd q (Nat.not_lt_zero j)⟩
  · intro m hm ih h' K B'
    have yes : nI m < (32 : Int32) := nI_lt hm (by decide)
    have hn : (rkS (bt set) (fun j => pop (cof j ^^^ x)) m).1 < 32 := by rw [rkS_n]; have := cnt_le (bt set) m; omega
    have e : rkS (bt set) (fun j => pop (cof j ^^^ x)) (m + 1) = if bt set m then ((rkS (bt set) (fun j => pop (cof j ^^^ x)) m).1 + 1, insF (rkS (bt set) (fun j => pop (cof j ^^^ x)) m).2.1 (ipos (rkS (bt set) (fun j => pop (cof j ^^^ x)) m).2.2 (pop (cof m ^^^ x)) (rkS (bt set) (fun j => pop (cof j ^^^ x)) m).1) m, insF (rkS (bt set) (fun j => pop (cof j ^^^ x)) m).2.2 (ipos (rkS (bt set) (fun j => pop (cof j ^^^ x)) m).2.2 (pop (cof m ^^^ x)) (rkS (bt set) (fun j => pop (cof j ^^^ x)) m).1) (pop (cof m ^^^ x))) else rkS (bt set) (fun j => pop (cof j ^^^ x)) m := rfl
    obtain ⟨_, _, _, _, q2, _⟩ := id B'
    refine b_Ra_rank_8 (j2 := m) (K.hat ha (by omega)) (fun _ _ => ixn hm (by decide)) (fun _ _ => ⟨_, q2⟩) (fun _ q => ?_) (fun _ q => ?_) (fun q => absurd yes q)
    · rw [inI_n hm] at q
      refine b_Ra_rank_38 ?_
      rw [nI_1]
      rw [e, b2i_e0 q] at ih
      exact ih h' K B'
    · rw [inI_n hm] at q
      refine s_Ra_insert B' hn rfl ⟨rfl, pop_le _⟩ (fun j hj => (rkS_le (bt set) (fun j => pop_le _) m j hj).1) fun h2 K2 B2 => ?_
      refine b_Ra_rank_38 ?_
      rw [nI_1]
      rw [e, b2i_n0 q] at ih
      exact ih h2 (K.trans K2) B2
  · intro h' K B'
    have no : ¬ nI 32 < (32 : Int32) := by decide
    exact b_Ra_rank_8 (j2 := 0) (K.hat ha (by omega)) (fun q => absurd q no) (fun q => absurd q no) (fun q => absurd q no) (fun q => absurd q no) (fun _ => hR h' K B')
/-- the first of the greatest among 0 to n -/
def amx (g : Nat → Nat) : Nat → Nat
  | 0 => 0
  | j + 1 => if g (amx g j) < g (j + 1) then j + 1 else amx g j
theorem amx_le (g : Nat → Nat) : ∀ j, amx g j ≤ j
  | 0 => Nat.le_refl _
  | j + 1 => by
    have := amx_le g j
    show (if g (amx g j) < g (j + 1) then j + 1 else amx g j) ≤ j + 1
    split <;> omega
/-- the place of the one taken, and the gaps -/
def tkG (D : Nat → Nat → Nat) (n : Nat) : Nat → Nat × (Nat → Nat)
  | 0 => (0, fun _ => 49)
  | i + 1 => (amx (fun j => min ((tkG D n i).2 j) (D j (tkG D n i).1)) (n - 1), fun j => min ((tkG D n i).2 j) (D j (tkG D n i).1))
theorem tkG_lt (D : Nat → Nat → Nat) {n : Nat} (hn : 0 < n) : ∀ i, (tkG D n i).1 < n
  | 0 => hn
  | i + 1 => by
    have := amx_le (fun j => min ((tkG D n i).2 j) (D j (tkG D n i).1)) (n - 1)
    show amx _ (n - 1) < n
    omega
theorem tkG_le (D : Nat → Nat → Nat) (n : Nat) : ∀ i j, (tkG D n i).2 j ≤ 49
  | 0, j => Nat.le_refl _
  | i + 1, j => Nat.le_trans (Nat.min_le_left _ _) (tkG_le D n i j)
theorem s_Ra_takenApart {a n oth : Nat} {o fr : Nat → Nat} {cof : Nat → Int64} {oI : Int32} (B : RaR h n o fr) (hn : 0 < n) (ho : ∀ j, j < n → o j < 32) (ha : hat h a (aL 32 cof)) (ha2 : a < 98) (hi : oI = nI oth ∧ oth < 2147483648) (hR : ∀ h', Kp h h' 101 102 → RaR h' n o fr → R (some (.int (nI (o (tkG (fun i j => pop (cof (o i) ^^^ cof (o j))) n oth).1)))) h') : Ev G (d + 2) 0 0 M_Ra_takenApart 0 [.ref 98, .ref a, .int oI, ev_unk, ev_unk, ev_unk, ev_unk] [] h R := by
  obtain ⟨rfl, hoth⟩ := hi
  obtain ⟨b1, go, gf, gg, b2, b3, b4, b5, b6⟩ := B
  refine b_Ra_takenApart_0 b2 (s_JA_fill b5 (by decide) fun h1 g1 K1 t1 v1 => b_Ra_takenApart_9 ?_)
  have L := up0 (P := fun i => ∀ h' g', Kp h h' 101 102 → hat h' 101 (aI 32 g') → (∀ j, j < n → g' j = nI ((tkG (fun i j => pop (cof (o i) ^^^ cof (o j))) n i).2 j)) → Ev G (d + 2) 0 0 M_Ra_takenApart 14 [.ref 98, .ref a, .int (nI oth), .int (nI (tkG (fun i j => pop (cof (o i) ^^^ cof (o j))) n i).1), .int (nI i), ev_unk, ev_unk] [] h' R) oth ?_ ?_
  · exact L h1 g1 (K1.wide (by omega) (by omega)) t1 fun j hj => v1 j (by omega)
  · intro i hi ih h' g' K t e
    have yes : nI i < nI oth := nI_lt hi (by omega)
    have ht := tkG_lt (fun i j => pop (cof (o i) ^^^ cof (o j))) hn i
    have t2 := K.hat b2 (by omega)
    have t3 := K.hat b3 (by omega)
    have ta := K.hat ha (by omega)
    refine b_Ra_takenApart_14 (j3 := 0) t2 t3 (fun q => absurd yes q) (fun _ => ?_) (fun q => absurd yes q)
    have st1 : (tkG (fun i j => pop (cof (o i) ^^^ cof (o j))) n (i + 1)).1 = amx (tkG (fun i j => pop (cof (o i) ^^^ cof (o j))) n (i + 1)).2 (n - 1) := rfl
    have st2 : ∀ j, (tkG (fun i j => pop (cof (o i) ^^^ cof (o j))) n (i + 1)).2 j = min ((tkG (fun i j => pop (cof (o i) ^^^ cof (o j))) n i).2 j) (pop (cof (o j) ^^^ cof (o (tkG (fun i j => pop (cof (o i) ^^^ cof (o j))) n i).1))) := fun j => rfl
    have bo := tkG_le (fun i j => pop (cof (o i) ^^^ cof (o j))) n i
    have bo2 := tkG_le (fun i j => pop (cof (o i) ^^^ cof (o j))) n (i + 1)
    revert st1 st2 ht bo bo2 e ih
    generalize tkG (fun i j => pop (cof (o i) ^^^ cof (o j))) n (i + 1) = T1
    generalize tkG (fun i j => pop (cof (o i) ^^^ cof (o j))) n i = T0
    intro ih e ht st1 st2 bo bo2
    have L1 := up0 (P := fun m => ∀ h' g', Kp h h' 101 102 → hat h' 101 (aI 32 g') → (∀ j, j < n → g' j = nI (if j < m then T1.2 j else T0.2 j)) → Ev G (d + 2) 0 0 M_Ra_takenApart 26 [.ref 98, .ref a, .int (nI oth), .int (nI T0.1), .int (nI i), .int (nI (amx T1.2 (m - 1))), .int (nI m)] [] h' R) n ?_ ?_
    · exact L1 h' g' K t fun j hj => by rw [if_neg (by omega)]; exact e j hj
    · intro m hm ih2 h2 g2 K2 u v
      have ym : nI m < nI n := nI_lt hm (by omega)
      have hw := amx_le T1.2 (m - 1)
      have hom := ho m hm
      have hot := ho T0.1 ht
      have hpp := pop_le (cof (o m) ^^^ cof (o T0.1))
      have h49 := bo m
      have ev : (if nI (pop (cof (o m) ^^^ cof (o T0.1))) < g2 m then nI (pop (cof (o m) ^^^ cof (o T0.1))) else g2 m) = nI (T1.2 m) := by
        have vm : g2 m = nI (T0.2 m) := by rw [v m hm, if_neg (Nat.lt_irrefl m)]
        rw [vm, st2 m]
        by_cases q : pop (cof (o m) ^^^ cof (o T0.1)) < T0.2 m
        · rw [if_pos (nI_lt q (by omega)), Nat.min_eq_right (by omega)]
        · rw [if_neg (fun z => q ((nI_ltI (by omega) (by omega)).mp z)), Nat.min_eq_left (by omega)]
      have eu : ∀ j, j < n → upd g2 m (nI (T1.2 m)) j = nI (if j < m + 1 then T1.2 j else T0.2 j) := fun j hj => by
        by_cases ej : j = m
        · subst ej; simp only [upd, if_true]; rw [if_pos (by omega)]
        · simp only [upd, if_neg ej]; rw [v j hj]
          by_cases c : j < m
          · rw [if_pos c, if_pos (by omega)]
          · rw [if_neg c, if_neg (by omega)]
      have ew : upd g2 m (nI (T1.2 m)) (amx T1.2 (m - 1)) = nI (T1.2 (amx T1.2 (m - 1))) := by rw [eu _ (by omega), if_pos (by omega)]
      have em : upd g2 m (nI (T1.2 m)) m = nI (T1.2 m) := by simp only [upd, if_true]
      have b1m := bo2 m
      have b1w := bo2 (amx T1.2 (m - 1))
      refine b_Ra_takenApart_26 (j3 := m) (j6 := o m) (j7 := T0.1) (j8 := o T0.1) (j9 := amx T1.2 (m - 1)) (K2.hat b2 (by omega)) u (K2.hat b3 (by omega)) (K2.hat ha (by omega)) (fun _ => ixn (by omega) (by decide)) (fun _ => by rw [(b6 m hm).1]; exact ixn hom (by decide)) (fun _ => ixn (by omega) (by decide)) (fun _ => by rw [(b6 _ ht).1]; exact ixn hot (by decide)) (fun _ => by omega) (fun _ => ixn (by omega) (by decide)) (fun _ q => ?_) (fun _ q => ?_) (fun q => absurd ym q)
      · rw [ev] at q ⊢
        rw [ew, em, nI_ltI (by omega) (by omega)] at q
        rw [nI_1]
        have ea : amx T1.2 (m + 1 - 1) = m := by
          cases m with
          | zero => rfl
          | succ m => show (if T1.2 (amx T1.2 m) < T1.2 (m + 1) then m + 1 else amx T1.2 m) = m + 1; exact if_pos q
        rw [ea] at ih2
        exact ih2 _ _ (K2.set (k := 101) _ (by omega) (by omega)) ⟨u.1, hset_eq _ _ _⟩ eu
      · rw [ev] at q ⊢
        rw [ew, em, nI_ltI (by omega) (by omega)] at q
        rw [nI_1]
        have ea : amx T1.2 (m + 1 - 1) = amx T1.2 (m - 1) := by
          cases m with
          | zero => rfl
          | succ m => show (if T1.2 (amx T1.2 m) < T1.2 (m + 1) then m + 1 else amx T1.2 m) = amx T1.2 m; exact if_neg q
        rw [ea] at ih2
        exact ih2 _ _ (K2.set (k := 101) _ (by omega) (by omega)) ⟨u.1, hset_eq _ _ _⟩ eu
    · intro h2 g2 K2 u v
      have no : ¬ nI n < nI n := nl_self (by omega)
      refine b_Ra_takenApart_26 (j3 := 0) (j6 := 0) (j7 := 0) (j8 := 0) (j9 := 0) (K2.hat b2 (by omega)) u (K2.hat b3 (by omega)) (K2.hat ha (by omega)) (fun q => absurd q no) (fun q => absurd q no) (fun q => absurd q no) (fun q => absurd q no) (fun q => absurd q no) (fun q => absurd q no) (fun q => absurd q no) (fun q => absurd q no) (fun _ => ?_)
      rw [nI_1, ← st1]
      exact ih h2 g2 K2 u fun j hj => by rw [v j hj, if_pos hj]
  · intro h' g' K t e
    have ht := tkG_lt (fun i j => pop (cof (o i) ^^^ cof (o j))) hn oth
    refine b_Ra_takenApart_14 (j3 := (tkG (fun i j => pop (cof (o i) ^^^ cof (o j))) n oth).1) (K.hat b2 (by omega)) (K.hat b3 (by omega)) (fun _ => ixn (by omega) (by decide)) (fun q => absurd q (nl_self (by omega))) (fun _ => ?_)
    rw [(b6 _ ht).1]
    exact hR h' K ⟨b1, go, gf, g', K.hat b2 (by omega), K.hat b3 (by omega), K.hat b4 (by omega), t, b6⟩
end S21
