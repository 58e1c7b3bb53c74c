/-! WEIGHING and CANDIDATES -/
/-- how many of w bits from st on are set -/
def farN (y : Int64) (st w : Nat) : Nat := cnt (fun b => lt y (st + b)) w
theorem farN_le (y : Int64) (st w : Nat) : farN y st w ≤ w := cnt_le _ _
theorem lN_sub' {a b : Nat} (h : b ≤ a) : lN a - lN b = lN (a - b) := by
  rw [show lN a = lN (a - b) + lN b from by
    show Int64.ofNat a = Int64.ofNat (a - b) + Int64.ofNat b
    rw [← Int64.ofNat_add, Nat.sub_add_cancel h]]
  exact Int64.add_sub_cancel _ _
theorem mask_bit {w st k : Nat} (hw : w ≤ 48) (hs : st ≤ 48) (hk : k < 64) : lt ((((1 : Int64) <<< ((nI w).toInt64 &&& 63)) - (1 : Int64)) <<< ((nI st).toInt64 &&& 63)) k = (decide (st ≤ k) && decide (k - st < w)) := by
  rw [l_shl st (by omega) _ hk]
  have e : ((1 : Int64) <<< ((nI w).toInt64 &&& 63)) - (1 : Int64) = lN (2 ^ w - 1) := by
    rw [show (1 : Int64) = lN 1 from rfl, l_shN 1 (by omega), Nat.one_mul]
    exact lN_sub' Nat.one_le_two_pow
  have b : 2 ^ w ≤ 2 ^ 48 := Nat.pow_le_pow_right (by decide) hw
  rw [e, lt_lN _ _ (by omega), Nat.testBit_two_pow_sub_one]
theorem pop_mask (y : Int64) {w st : Nat} (hw : w ≤ 48) (hs : st ≤ 48) (h : st + w ≤ 64) : pop (y &&& ((((1 : Int64) <<< ((nI w).toInt64 &&& 63)) - (1 : Int64)) <<< ((nI st).toInt64 &&& 63))) = farN y st w := by
  unfold pop
  have e : cnt (lt (y &&& ((((1 : Int64) <<< ((nI w).toInt64 &&& 63)) - (1 : Int64)) <<< ((nI st).toInt64 &&& 63)))) 64 = cnt (fun k => lt y k && (decide (st ≤ k) && decide (k - st < w))) 64 := cnt_congr fun k hk => by rw [l_and, mask_bit hw hs hk]
  rw [e, show 64 = st + (w + (64 - st - w)) by omega, cnt_split, cnt_split]
  have z1 : cnt (fun k => lt y k && (decide (st ≤ k) && decide (k - st < w))) st = 0 := cnt_zero fun k hk => by rw [decide_eq_false (by omega : ¬ st ≤ k)]; simp
  have z2 : cnt (fun j => lt y (st + (w + j)) && (decide (st ≤ st + (w + j)) && decide (st + (w + j) - st < w))) (64 - st - w) = 0 := cnt_zero fun k hk => by rw [decide_eq_false (by omega : ¬ st + (w + k) - st < w)]; simp
  rw [z1, z2, Nat.zero_add, Nat.add_zero]
  exact cnt_congr fun k hk => by rw [decide_eq_true (by omega : st ≤ st + k), decide_eq_true (by omega : st + k - st < w)]; simp
/-- what a share of a part costs, among a set -/
def cstN (p : Nat → Bool) (co : Nat → Int64) (x : Int64) (W : Nat → Nat) (i s : Nat) : Nat := cnt (fun j => p j && decide (farN (co j ^^^ x) (sumT W i) (W i) + 1 ≤ s)) 32
theorem cstN_ok (p : Nat → Bool) (co : Nat → Int64) (x : Int64) (W : Nat → Nat) (P : Nat) : cOk (cstN p co x W) P := fun i _ => ⟨cnt_zero fun k _ => by rw [decide_eq_false (by omega)]; simp, fun s => cnt_le _ _⟩
theorem cnt_step (p : Nat → Bool) (f : Nat → Nat) (s : Nat) : ∀ n, cnt (fun j => p j && decide (f j ≤ s + 1)) n = cnt (fun j => p j && decide (f j ≤ s)) n + cnt (fun j => p j && decide (f j = s + 1)) n
  | 0 => rfl
  | n + 1 => by
    have ih := cnt_step p f s n
    show cnt _ n + (if p n && decide (f n ≤ s + 1) then 1 else 0) = (cnt _ n + if p n && decide (f n ≤ s) then 1 else 0) + (cnt _ n + if p n && decide (f n = s + 1) then 1 else 0)
    rw [ih]
    cases p n
    · simp
    · by_cases h1 : f n ≤ s
      · simp [h1, show f n ≤ s + 1 by omega, show ¬ f n = s + 1 by omega]; omega
      · by_cases h2 : f n = s + 1
        · simp [h2, show ¬ s + 1 ≤ s by omega]; omega
        · simp [h1, h2, show ¬ f n ≤ s + 1 by omega]
theorem BuP.row {h h' : ev_H} {P : Nat} {W : Nat → Nat} {c : Nat → Nat → Nat} {r lo i : Nat} {g : Nat → Int32} (B : BuP h P W c i r lo) (hi : i < 6) (K : Kp h h' (83 + 1 + i) (83 + 1 + i + 1)) (t : hat h' (83 + 1 + i) (aI 26 g)) : BuP h' P W c i r lo := by
  obtain ⟨b1, b2, b3, b4, ⟨brf, b5, b5'⟩, b6, b7, b8, b9, ch, b10⟩ := B
  refine ⟨b1, b2, b3, K.hat b4 (by omega), ⟨brf, K.hat b5 (by omega), b5'⟩, K.hat b6 (by omega), K.hat b7 (by omega), fun j hj => ?_, fun j hj => ?_, ch, K.hat b10 (by omega)⟩
  · by_cases e : j = i
    · subst e; exact ⟨g, t, fun q => absurd q (Nat.lt_irrefl j)⟩
    · obtain ⟨g, t, v⟩ := b8 j hj; exact ⟨g, K.hat t (by omega), v⟩
  · obtain ⟨g, t, v⟩ := b9 j hj; exact ⟨g, K.hat t (by omega), v⟩
theorem BuP.rowDone {h : ev_H} {P : Nat} {W : Nat → Nat} {c : Nat → Nat → Nat} {r lo i : Nat} {g : Nat → Int32} (B : BuP h P W c i r lo) (t : hat h (83 + 1 + i) (aI 26 g)) (v : ∀ s, s ≤ W i + 1 → g s = nI (c i s)) : BuP h P W c (i + 1) r lo := by
  obtain ⟨b1, b2, b3, b4, b5, b6, b7, b8, b9, b10⟩ := B
  refine ⟨b1, b2, b3, b4, b5, b6, b7, fun j hj => ?_, b9, b10⟩
  by_cases e : j = i
  · subst e; exact ⟨g, t, fun _ => v⟩
  · obtain ⟨g, t, v⟩ := b8 j hj; exact ⟨g, t, fun q => v (by omega)⟩
theorem b_Bu_weigh_0 {G : ev_G} {d k n : Nat} {h : ev_H} {R : Option Value → ev_H → Prop} {x1 : Nat} {x2 : Int32} {x3 : Int64}
  (k1 : Ev G (d + 1) k n M_Bu_weigh 6 [.ref 81, .ref x1, .int x2, .long x3, ev_unk, .int (0 : Int32), .int (0 : Int32), ev_unk, ev_unk, ev_unk, ev_unk] [] h R)
  : Ev G (d + 1) k n M_Bu_weigh 0 [.ref 81, .ref x1, .int x2, .long x3, ev_unk, ev_unk, ev_unk, ev_unk, ev_unk, ev_unk, ev_unk] [] h R :=
  Ev.go (pc' := 6) (ls' := [.ref 81, .ref x1, .int x2, .long x3, ev_unk, .int (0 : Int32), .int (0 : Int32), ev_unk, ev_unk, ev_unk, ev_unk]) (st' := []) [.iconst 0, .istore 5, .iconst 0, .istore 6] (by decide +kernel) rfl <|
  k1
theorem b_Bu_weigh_6 {G : ev_G} {d k n : Nat} {h : ev_H} {R : Option Value → ev_H → Prop} {x1 : Nat} {x2 : Int32} {x3 : Int64} {x5 : Int32} {x6 : Int32} {f_parts_1 : Int32} {g2 : Nat → Int32} {j3 : Nat}
  (a1 : hat h 81 (oC 0 [.ref 82, .int f_parts_1, .ref 83, .ref 90, .ref 97]))
  (a2 : hat h 82 (aI 6 g2))
  (a4 : hat h 83 (aG 6 (fun i => if i < 6 then some (83 + 1 + i) else none)))
  (i3 : x6 < f_parts_1 → ev_ix x6 j3 6)
  (k1 : x6 < f_parts_1 → Ev G d 0 0 M_JA_fill 0 [.ref (83 + 1 + j3), .int (0 : Int32), ev_unk, ev_unk] [] h (fun r h1 => Ev G (d + 1) k n M_Bu_weigh 46 [.ref 81, .ref x1, .int x2, .long x3, ev_unk, .int x5, .int x6, .long ((((1 : Int64) <<< ((g2 j3).toInt64 &&& 63)) - (1 : Int64)) <<< (x5.toInt64 &&& 63)), ev_unk, .ref (83 + 1 + j3), ev_unk] (r.toList ++ []) h1 R))
  (k2 : ¬ x6 < f_parts_1 → R none h)
  : Ev G (d + 1) k n M_Bu_weigh 6 [.ref 81, .ref x1, .int x2, .long x3, ev_unk, .int x5, .int x6, ev_unk, ev_unk, ev_unk, ev_unk] [] h R :=
  Ev.go (pc' := 9) (ls' := [.ref 81, .ref x1, .int x2, .long x3, ev_unk, .int x5, .int x6, ev_unk, ev_unk, ev_unk, ev_unk]) (st' := [.ref 81, .int x6]) [.iload 6, .aload_n 0] (by decide +kernel) rfl <|
  Ev.getf f_Bu_15 (by decide +kernel) a1 rfl <|
  Ev.br (i := .if_icmp .ge (130)) (P := x6 < f_parts_1) (t := 15) (f := 142) (r := []) (by decide +kernel) rfl (fun c1 =>
    Ev.go (pc' := 17) (ls' := [.ref 81, .ref x1, .int x2, .long x3, ev_unk, .int x5, .int x6, ev_unk, ev_unk, ev_unk, ev_unk]) (st' := [.ref 81, .long (1 : Int64)]) [.lconst 1, .aload_n 0] (by decide +kernel) rfl <|
    Ev.getf f_Bu_9 (by decide +kernel) a1 rfl <|
    Ev.go (pc' := 22) (ls' := [.ref 81, .ref x1, .int x2, .long x3, ev_unk, .int x5, .int x6, ev_unk, ev_unk, ev_unk, ev_unk]) (st' := [.int x6, .ref 82, .long (1 : Int64)]) [.iload 6] (by decide +kernel) rfl <|
    Ev.iald (j := j3) (by decide +kernel) a2 (i3 c1) <|
    Ev.go (pc' := 32) (ls' := [.ref 81, .ref x1, .int x2, .long x3, ev_unk, .int x5, .int x6, .long ((((1 : Int64) <<< ((g2 j3).toInt64 &&& 63)) - (1 : Int64)) <<< (x5.toInt64 &&& 63)), ev_unk, ev_unk, ev_unk]) (st' := [.ref 81]) [.lshl, .lconst 1, .lsub, .iload 5, .lshl, .lstore 7, .aload_n 0] (by decide +kernel) rfl <|
    Ev.getf f_Bu_21 (by decide +kernel) a1 rfl <|
    Ev.go (pc' := 37) (ls' := [.ref 81, .ref x1, .int x2, .long x3, ev_unk, .int x5, .int x6, .long ((((1 : Int64) <<< ((g2 j3).toInt64 &&& 63)) - (1 : Int64)) <<< (x5.toInt64 &&& 63)), ev_unk, ev_unk, ev_unk]) (st' := [.int x6, .ref 83]) [.iload 6] (by decide +kernel) rfl <|
    Ev.gald (j := j3) (b := 83 + 1 + j3) (by decide +kernel) a4 (i3 c1) (if_pos (show j3 < 6 from ((i3 c1)).2.1)) <|
    Ev.go (pc' := 43) (ls' := [.ref 81, .ref x1, .int x2, .long x3, ev_unk, .int x5, .int x6, .long ((((1 : Int64) <<< ((g2 j3).toInt64 &&& 63)) - (1 : Int64)) <<< (x5.toInt64 &&& 63)), ev_unk, .ref (83 + 1 + j3), ev_unk]) (st' := [.int (0 : Int32), .ref (83 + 1 + j3)]) [.astore 9, .aload 9, .iconst 0] (by decide +kernel) rfl <|
    Ev.cS0 (M' := M_JA_fill) (as := [.ref (83 + 1 + j3), .int (0 : Int32)]) (rest := []) l_Bu_52 M_JA_fill_ok M_JA_fill_st (by decide +kernel) rfl rfl (Nat.le_of_ble_eq_true rfl) (Nat.le_of_ble_eq_true rfl) (k1 c1)
  ) (fun c1 =>
    Ev.ret (r := none) (Or.inr (Or.inr (Or.inl ⟨rfl, by decide +kernel, rfl⟩))) (k2 c1)
  )
theorem b_Bu_weigh_46 {G : ev_G} {d k n : Nat} {h : ev_H} {R : Option Value → ev_H → Prop} {x1 : Nat} {x2 : Int32} {x3 : Int64} {x5 : Int32} {x6 : Int32} {x7 : Int64} {x9 : Nat}
  (k1 : Ev G (d + 1) k n M_Bu_weigh 49 [.ref 81, .ref x1, .int x2, .long x3, ev_unk, .int x5, .int x6, .long x7, ev_unk, .ref x9, .int (0 : Int32)] [] h R)
  : Ev G (d + 1) k n M_Bu_weigh 46 [.ref 81, .ref x1, .int x2, .long x3, ev_unk, .int x5, .int x6, .long x7, ev_unk, .ref x9, ev_unk] [] h R :=
  Ev.go (pc' := 49) (ls' := [.ref 81, .ref x1, .int x2, .long x3, ev_unk, .int x5, .int x6, .long x7, ev_unk, .ref x9, .int (0 : Int32)]) (st' := []) [.iconst 0, .istore 10] (by decide +kernel) rfl <|
  k1
theorem b_Bu_weigh_49 {G : ev_G} {d k n : Nat} {h : ev_H} {R : Option Value → ev_H → Prop} {x1 : Nat} {x2 : Int32} {x3 : Int64} {x5 : Int32} {x6 : Int32} {x7 : Int64} {x9 : Nat} {x10 : Int32} {g1 : Nat → Int64} {j2 : Nat} {g3 : Nat → Int32} {j4 : Nat}
  (a1 : hat h x1 (aL 32 g1))
  (a3 : hat h x9 (aI 26 g3))
  (i2 : x10 < (nI 32) → ¬ (b2i (inI x2 x10)) = (0 : Int32) → ev_ix x10 j2 32)
  (i4 : x10 < (nI 32) → ¬ (b2i (inI x2 x10)) = (0 : Int32) → ev_ix ((nI (pop (((g1 j2) ^^^ x3) &&& x7))) + (1 : Int32)) j4 26)
  (e5 : x10 < (nI 32) → ¬ (b2i (inI x2 x10)) = (0 : Int32) → x1 ≠ x9)
  (k1 : x10 < (nI 32) → (b2i (inI x2 x10)) = (0 : Int32) → Ev G (d + 1) k n M_Bu_weigh 49 [.ref 81, .ref x1, .int x2, .long x3, ev_unk, .int x5, .int x6, .long x7, ev_unk, .ref x9, .int (x10 + (1 : Int32))] [] h R)
  (k2 : x10 < (nI 32) → ¬ (b2i (inI x2 x10)) = (0 : Int32) → Ev G (d + 1) k n M_Bu_weigh 49 [.ref 81, .ref x1, .int x2, .long x3, ev_unk, .int x5, .int x6, .long x7, ev_unk, .ref x9, .int (x10 + (1 : Int32))] [] (hset h x9 (aI 26 (upd g3 j4 ((g3 j4) + (1 : Int32))))) R)
  (k3 : ¬ x10 < (nI 32) → Ev G (d + 1) k n M_Bu_weigh 95 [.ref 81, .ref x1, .int x2, .long x3, ev_unk, .int x5, .int x6, .long x7, ev_unk, .ref x9, .int (1 : Int32)] [] h R)
  : Ev G (d + 1) k n M_Bu_weigh 49 [.ref 81, .ref x1, .int x2, .long x3, ev_unk, .int x5, .int x6, .long x7, ev_unk, .ref x9, .int x10] [] h R :=
  Ev.go (pc' := 52) (ls' := [.ref 81, .ref x1, .int x2, .long x3, ev_unk, .int x5, .int x6, .long x7, ev_unk, .ref x9, .int x10]) (st' := [.ref x1, .int x10]) [.iload 10, .aload_n 1] (by decide +kernel) rfl <|
  Ev.alen (by decide +kernel) a1 (by decide) <|
  Ev.br (i := .if_icmp .ge (39)) (P := x10 < (nI 32)) (t := 56) (f := 92) (r := []) (by decide +kernel) rfl (fun c1 =>
    Ev.go (pc' := 59) (ls' := [.ref 81, .ref x1, .int x2, .long x3, ev_unk, .int x5, .int x6, .long x7, ev_unk, .ref x9, .int x10]) (st' := [.int x10, .int x2]) [.iload_n 2, .iload 10] (by decide +kernel) rfl <|
    Ev.cSN0 (M' := M_X_isIn) (as := [.int x2, .int x10]) (rest := []) l_Bu_58 M_X_isIn_ok M_X_isIn_st (by decide +kernel) rfl rfl (Nat.le_of_ble_eq_true rfl) (Nat.le_of_ble_eq_true rfl) (s_X_isIn <| show Ev G (d + 1) _ _ M_Bu_weigh 62 [.ref 81, .ref x1, .int x2, .long x3, ev_unk, .int x5, .int x6, .long x7, ev_unk, .ref x9, .int x10] [.int (b2i (inI x2 x10))] h R from
      Ev.br (i := .ifCond .eq (24)) (P := (b2i (inI x2 x10)) = (0 : Int32)) (t := 86) (f := 65) (r := []) (by decide +kernel) rfl (fun c2 =>
        Ev.go (pc' := 49) (ls' := [.ref 81, .ref x1, .int x2, .long x3, ev_unk, .int x5, .int x6, .long x7, ev_unk, .ref x9, .int (x10 + (1 : Int32))]) (st' := []) [.iinc 10 (1), .goto (-40)] (by decide +kernel) rfl <|
        (k1 c1 c2)
      ) (fun c2 =>
        Ev.go (pc' := 70) (ls' := [.ref 81, .ref x1, .int x2, .long x3, ev_unk, .int x5, .int x6, .long x7, ev_unk, .ref x9, .int x10]) (st' := [.int x10, .ref x1, .ref x9]) [.aload 9, .aload_n 1, .iload 10] (by decide +kernel) rfl <|
        Ev.lald (j := j2) (by decide +kernel) a1 (i2 c1 c2) <|
        Ev.go (pc' := 76) (ls' := [.ref 81, .ref x1, .int x2, .long x3, ev_unk, .int x5, .int x6, .long x7, ev_unk, .ref x9, .int x10]) (st' := [.long (((g1 j2) ^^^ x3) &&& x7), .ref x9]) [.lload_n 3, .lxor, .lload 7, .land] (by decide +kernel) rfl <|
        Ev.cS0 (M' := M_JL_bitCount) (as := [.long (((g1 j2) ^^^ x3) &&& x7)]) (rest := [.ref x9]) l_Bu_62 M_JL_bitCount_ok M_JL_bitCount_st (by decide +kernel) rfl rfl (Nat.le_of_ble_eq_true rfl) (Nat.le_of_ble_eq_true rfl) (s_JL_bitCount <| show Ev G (d + 1) _ _ M_Bu_weigh 79 [.ref 81, .ref x1, .int x2, .long x3, ev_unk, .int x5, .int x6, .long x7, ev_unk, .ref x9, .int x10] [.int (nI (pop (((g1 j2) ^^^ x3) &&& x7))), .ref x9] h R from
          Ev.go (pc' := 82) (ls' := [.ref 81, .ref x1, .int x2, .long x3, ev_unk, .int x5, .int x6, .long x7, ev_unk, .ref x9, .int x10]) (st' := [.int ((nI (pop (((g1 j2) ^^^ x3) &&& x7))) + (1 : Int32)), .ref x9, .int ((nI (pop (((g1 j2) ^^^ x3) &&& x7))) + (1 : Int32)), .ref x9]) [.iconst 1, .iadd, .dup2] (by decide +kernel) rfl <|
          Ev.iald (j := j4) (by decide +kernel) a3 (i4 c1 c2) <|
          Ev.go (pc' := 85) (ls' := [.ref 81, .ref x1, .int x2, .long x3, ev_unk, .int x5, .int x6, .long x7, ev_unk, .ref x9, .int x10]) (st' := [.int ((g3 j4) + (1 : Int32)), .int ((nI (pop (((g1 j2) ^^^ x3) &&& x7))) + (1 : Int32)), .ref x9]) [.iconst 1, .iadd] (by decide +kernel) rfl <|
          Ev.iast (j := j4) (by decide +kernel) a3 (i4 c1 c2) <| show Ev G (d + 1) _ _ M_Bu_weigh 86 [.ref 81, .ref x1, .int x2, .long x3, ev_unk, .int x5, .int x6, .long x7, ev_unk, .ref x9, .int x10] [] (hset h x9 (aI 26 (upd g3 j4 ((g3 j4) + (1 : Int32))))) R from
          Ev.go (pc' := 49) (ls' := [.ref 81, .ref x1, .int x2, .long x3, ev_unk, .int x5, .int x6, .long x7, ev_unk, .ref x9, .int (x10 + (1 : Int32))]) (st' := []) [.iinc 10 (1), .goto (-40)] (by decide +kernel) rfl <|
          (k2 c1 c2)
        )
      )
    )
  ) (fun c1 =>
    Ev.go (pc' := 95) (ls' := [.ref 81, .ref x1, .int x2, .long x3, ev_unk, .int x5, .int x6, .long x7, ev_unk, .ref x9, .int (1 : Int32)]) (st' := []) [.iconst 1, .istore 10] (by decide +kernel) rfl <|
    (k3 c1)
  )
theorem b_Bu_weigh_95 {G : ev_G} {d k n : Nat} {h : ev_H} {R : Option Value → ev_H → Prop} {x1 : Nat} {x2 : Int32} {x3 : Int64} {x5 : Int32} {x6 : Int32} {x7 : Int64} {x9 : Nat} {x10 : Int32} {g1 : Nat → Int32} {j2 : Nat} {j3 : Nat} {f_parts_4 : Int32} {g5 : Nat → Int32} {j6 : Nat}
  (a1 : hat h x9 (aI 26 g1))
  (a4 : hat h 81 (oC 0 [.ref 82, .int f_parts_4, .ref 83, .ref 90, .ref 97]))
  (a5 : hat h 82 (aI 6 g5))
  (i2 : x10 < (nI 26) → ev_ix x10 j2 26)
  (i3 : x10 < (nI 26) → ev_ix (x10 - (1 : Int32)) j3 26)
  (i6 : ¬ x10 < (nI 26) → ev_ix x6 j6 6)
  (k1 : x10 < (nI 26) → Ev G (d + 1) k n M_Bu_weigh 95 [.ref 81, .ref x1, .int x2, .long x3, ev_unk, .int x5, .int x6, .long x7, ev_unk, .ref x9, .int (x10 + (1 : Int32))] [] (hset h x9 (aI 26 (upd g1 j2 ((g1 j2) + (g1 j3))))) R)
  (k2 : ¬ x10 < (nI 26) → Ev G (d + 1) k n M_Bu_weigh 6 [.ref 81, .ref x1, .int x2, .long x3, ev_unk, .int (x5 + (g5 j6)), .int (x6 + (1 : Int32)), ev_unk, ev_unk, ev_unk, ev_unk] [] h R)
  : Ev G (d + 1) k n M_Bu_weigh 95 [.ref 81, .ref x1, .int x2, .long x3, ev_unk, .int x5, .int x6, .long x7, ev_unk, .ref x9, .int x10] [] h R :=
  Ev.go (pc' := 99) (ls' := [.ref 81, .ref x1, .int x2, .long x3, ev_unk, .int x5, .int x6, .long x7, ev_unk, .ref x9, .int x10]) (st' := [.ref x9, .int x10]) [.iload 10, .aload 9] (by decide +kernel) rfl <|
  Ev.alen (by decide +kernel) a1 (by decide) <|
  Ev.br (i := .if_icmp .ge (24)) (P := x10 < (nI 26)) (t := 103) (f := 124) (r := []) (by decide +kernel) rfl (fun c1 =>
    Ev.go (pc' := 108) (ls' := [.ref 81, .ref x1, .int x2, .long x3, ev_unk, .int x5, .int x6, .long x7, ev_unk, .ref x9, .int x10]) (st' := [.int x10, .ref x9, .int x10, .ref x9]) [.aload 9, .iload 10, .dup2] (by decide +kernel) rfl <|
    Ev.iald (j := j2) (by decide +kernel) a1 (i2 c1) <|
    Ev.go (pc' := 115) (ls' := [.ref 81, .ref x1, .int x2, .long x3, ev_unk, .int x5, .int x6, .long x7, ev_unk, .ref x9, .int x10]) (st' := [.int (x10 - (1 : Int32)), .ref x9, .int (g1 j2), .int x10, .ref x9]) [.aload 9, .iload 10, .iconst 1, .isub] (by decide +kernel) rfl <|
    Ev.iald (j := j3) (by decide +kernel) a1 (i3 c1) <|
    Ev.go (pc' := 117) (ls' := [.ref 81, .ref x1, .int x2, .long x3, ev_unk, .int x5, .int x6, .long x7, ev_unk, .ref x9, .int x10]) (st' := [.int ((g1 j2) + (g1 j3)), .int x10, .ref x9]) [.iadd] (by decide +kernel) rfl <|
    Ev.iast (j := j2) (by decide +kernel) a1 (i2 c1) <| show Ev G (d + 1) _ _ M_Bu_weigh 118 [.ref 81, .ref x1, .int x2, .long x3, ev_unk, .int x5, .int x6, .long x7, ev_unk, .ref x9, .int x10] [] (hset h x9 (aI 26 (upd g1 j2 ((g1 j2) + (g1 j3))))) R from
    Ev.go (pc' := 95) (ls' := [.ref 81, .ref x1, .int x2, .long x3, ev_unk, .int x5, .int x6, .long x7, ev_unk, .ref x9, .int (x10 + (1 : Int32))]) (st' := []) [.iinc 10 (1), .goto (-26)] (by decide +kernel) rfl <|
    (k1 c1)
  ) (fun c1 =>
    Ev.go (pc' := 127) (ls' := [.ref 81, .ref x1, .int x2, .long x3, ev_unk, .int x5, .int x6, .long x7, ev_unk, .ref x9, .int x10]) (st' := [.ref 81, .int x5]) [.iload 5, .aload_n 0] (by decide +kernel) rfl <|
    Ev.getf f_Bu_9 (by decide +kernel) a4 rfl <|
    Ev.go (pc' := 132) (ls' := [.ref 81, .ref x1, .int x2, .long x3, ev_unk, .int x5, .int x6, .long x7, ev_unk, .ref x9, .int x10]) (st' := [.int x6, .ref 82, .int x5]) [.iload 6] (by decide +kernel) rfl <|
    Ev.iald (j := j6) (by decide +kernel) a5 (i6 c1) <|
    Ev.go (pc' := 6) (ls' := [.ref 81, .ref x1, .int x2, .long x3, ev_unk, .int (x5 + (g5 j6)), .int (x6 + (1 : Int32)), .long x7, ev_unk, .ref x9, .int x10]) (st' := []) [.iadd, .istore 5, .iinc 6 (1), .goto (-133)] (by decide +kernel) rfl <|
    Ev.forget (ls' := [.ref 81, .ref x1, .int x2, .long x3, ev_unk, .int (x5 + (g5 j6)), .int (x6 + (1 : Int32)), ev_unk, ev_unk, ev_unk, ev_unk]) ⟨Or.inr rfl, Or.inr rfl, Or.inr rfl, Or.inr rfl, Or.inr rfl, Or.inr rfl, Or.inr rfl, Or.inl rfl, Or.inr rfl, Or.inl rfl, Or.inl rfl, trivial⟩ <|
    (k2 c1)
  )
theorem b_Bu_candidates_0 {G : ev_G} {d k n : Nat} {h : ev_H} {R : Option Value → ev_H → Prop} {x1 : Nat} {x2 : Int32} {x3 : Int64}
  (k1 : Ev G (d + 1) k n M_Bu_candidates 9 [.ref 81, .ref x1, .int x2, .long x3, ev_unk, .int (0 : Int32), .int (0 : Int32), .int (0 : Int32), ev_unk, ev_unk, ev_unk] [] h R)
  : Ev G (d + 1) k n M_Bu_candidates 0 [.ref 81, .ref x1, .int x2, .long x3, ev_unk, ev_unk, ev_unk, ev_unk, ev_unk, ev_unk, ev_unk] [] h R :=
  Ev.go (pc' := 9) (ls' := [.ref 81, .ref x1, .int x2, .long x3, ev_unk, .int (0 : Int32), .int (0 : Int32), .int (0 : Int32), ev_unk, ev_unk, ev_unk]) (st' := []) [.iconst 0, .istore 5, .iconst 0, .istore 6, .iconst 0, .istore 7] (by decide +kernel) rfl <|
  k1
theorem b_Bu_candidates_9 {G : ev_G} {d k n : Nat} {h : ev_H} {R : Option Value → ev_H → Prop} {x1 : Nat} {x2 : Int32} {x3 : Int64} {x5 : Int32} {x6 : Int32} {x7 : Int32} {f_parts_1 : Int32} {g2 : Nat → Int32} {j3 : Nat}
  (a1 : hat h 81 (oC 0 [.ref 82, .int f_parts_1, .ref 83, .ref 90, .ref 97]))
  (a2 : hat h 82 (aI 6 g2))
  (i3 : x7 < f_parts_1 → ev_ix x7 j3 6)
  (k1 : x7 < f_parts_1 → Ev G (d + 1) k n M_Bu_candidates 37 [.ref 81, .ref x1, .int x2, .long x3, ev_unk, .int x5, .int x6, .int x7, .long ((((1 : Int64) <<< ((g2 j3).toInt64 &&& 63)) - (1 : Int64)) <<< (x6.toInt64 &&& 63)), ev_unk, .int (0 : Int32)] [] h R)
  (k2 : ¬ x7 < f_parts_1 → R (some (.int x5)) h)
  : Ev G (d + 1) k n M_Bu_candidates 9 [.ref 81, .ref x1, .int x2, .long x3, ev_unk, .int x5, .int x6, .int x7, ev_unk, ev_unk, ev_unk] [] h R :=
  Ev.go (pc' := 12) (ls' := [.ref 81, .ref x1, .int x2, .long x3, ev_unk, .int x5, .int x6, .int x7, ev_unk, ev_unk, ev_unk]) (st' := [.ref 81, .int x7]) [.iload 7, .aload_n 0] (by decide +kernel) rfl <|
  Ev.getf f_Bu_15 (by decide +kernel) a1 rfl <|
  Ev.br (i := .if_icmp .ge (93)) (P := x7 < f_parts_1) (t := 18) (f := 108) (r := []) (by decide +kernel) rfl (fun c1 =>
    Ev.go (pc' := 20) (ls' := [.ref 81, .ref x1, .int x2, .long x3, ev_unk, .int x5, .int x6, .int x7, ev_unk, ev_unk, ev_unk]) (st' := [.ref 81, .long (1 : Int64)]) [.lconst 1, .aload_n 0] (by decide +kernel) rfl <|
    Ev.getf f_Bu_9 (by decide +kernel) a1 rfl <|
    Ev.go (pc' := 25) (ls' := [.ref 81, .ref x1, .int x2, .long x3, ev_unk, .int x5, .int x6, .int x7, ev_unk, ev_unk, ev_unk]) (st' := [.int x7, .ref 82, .long (1 : Int64)]) [.iload 7] (by decide +kernel) rfl <|
    Ev.iald (j := j3) (by decide +kernel) a2 (i3 c1) <|
    Ev.go (pc' := 37) (ls' := [.ref 81, .ref x1, .int x2, .long x3, ev_unk, .int x5, .int x6, .int x7, .long ((((1 : Int64) <<< ((g2 j3).toInt64 &&& 63)) - (1 : Int64)) <<< (x6.toInt64 &&& 63)), ev_unk, .int (0 : Int32)]) (st' := []) [.lshl, .lconst 1, .lsub, .iload 6, .lshl, .lstore 8, .iconst 0, .istore 10] (by decide +kernel) rfl <|
    (k1 c1)
  ) (fun c1 =>
    Ev.go (pc' := 110) (ls' := [.ref 81, .ref x1, .int x2, .long x3, ev_unk, .int x5, .int x6, .int x7, ev_unk, ev_unk, ev_unk]) (st' := [.int x5]) [.iload 5] (by decide +kernel) rfl <|
    Ev.ret (r := (some (.int x5))) (Or.inl ⟨_, rfl, by decide +kernel, _, rfl, rfl⟩) (k2 c1)
  )
theorem b_Bu_candidates_37 {G : ev_G} {d k n : Nat} {h : ev_H} {R : Option Value → ev_H → Prop} {x1 : Nat} {x2 : Int32} {x3 : Int64} {x5 : Int32} {x6 : Int32} {x7 : Int32} {x8 : Int64} {x10 : Int32} {g1 : Nat → Int64} {j2 : Nat} {f_parts_3 : Int32} {g4 : Nat → Int32} {j5 : Nat} {g6 : Nat → Int32}
  (a1 : hat h x1 (aL 32 g1))
  (a3 : hat h 81 (oC 0 [.ref 82, .int f_parts_3, .ref 83, .ref 90, .ref 97]))
  (a4 : hat h 97 (aI 6 g4))
  (a6 : hat h 82 (aI 6 g6))
  (i2 : x10 < (nI 32) → ¬ (b2i (inI x2 x10)) = (0 : Int32) → ev_ix x10 j2 32)
  (i5 : x10 < (nI 32) → ¬ (b2i (inI x2 x10)) = (0 : Int32) → ev_ix x7 j5 6)
  (i7 : ¬ x10 < (nI 32) → ev_ix x7 j5 6)
  (k1 : x10 < (nI 32) → (b2i (inI x2 x10)) = (0 : Int32) → Ev G (d + 1) k n M_Bu_candidates 37 [.ref 81, .ref x1, .int x2, .long x3, ev_unk, .int x5, .int x6, .int x7, .long x8, ev_unk, .int (x10 + (1 : Int32))] [] h R)
  (k2 : x10 < (nI 32) → ¬ (b2i (inI x2 x10)) = (0 : Int32) → (g4 j5) < (nI (pop (((g1 j2) ^^^ x3) &&& x8))) → Ev G (d + 1) k n M_Bu_candidates 37 [.ref 81, .ref x1, .int x2, .long x3, ev_unk, .int x5, .int x6, .int x7, .long x8, ev_unk, .int (x10 + (1 : Int32))] [] h R)
  (k3 : x10 < (nI 32) → ¬ (b2i (inI x2 x10)) = (0 : Int32) → ¬ (g4 j5) < (nI (pop (((g1 j2) ^^^ x3) &&& x8))) → Ev G (d + 1) k n M_Bu_candidates 37 [.ref 81, .ref x1, .int x2, .long x3, ev_unk, .int (x5 ||| ((1 : Int32) <<< (x10 &&& 31))), .int x6, .int x7, .long x8, ev_unk, .int (x10 + (1 : Int32))] [] h R)
  (k4 : ¬ x10 < (nI 32) → Ev G (d + 1) k n M_Bu_candidates 9 [.ref 81, .ref x1, .int x2, .long x3, ev_unk, .int x5, .int (x6 + (g6 j5)), .int (x7 + (1 : Int32)), ev_unk, ev_unk, ev_unk] [] h R)
  : Ev G (d + 1) k n M_Bu_candidates 37 [.ref 81, .ref x1, .int x2, .long x3, ev_unk, .int x5, .int x6, .int x7, .long x8, ev_unk, .int x10] [] h R :=
  Ev.go (pc' := 40) (ls' := [.ref 81, .ref x1, .int x2, .long x3, ev_unk, .int x5, .int x6, .int x7, .long x8, ev_unk, .int x10]) (st' := [.ref x1, .int x10]) [.iload 10, .aload_n 1] (by decide +kernel) rfl <|
  Ev.alen (by decide +kernel) a1 (by decide) <|
  Ev.br (i := .if_icmp .ge (49)) (P := x10 < (nI 32)) (t := 44) (f := 90) (r := []) (by decide +kernel) rfl (fun c1 =>
    Ev.go (pc' := 47) (ls' := [.ref 81, .ref x1, .int x2, .long x3, ev_unk, .int x5, .int x6, .int x7, .long x8, ev_unk, .int x10]) (st' := [.int x10, .int x2]) [.iload_n 2, .iload 10] (by decide +kernel) rfl <|
    Ev.cSN0 (M' := M_X_isIn) (as := [.int x2, .int x10]) (rest := []) l_Bu_58 M_X_isIn_ok M_X_isIn_st (by decide +kernel) rfl rfl (Nat.le_of_ble_eq_true rfl) (Nat.le_of_ble_eq_true rfl) (s_X_isIn <| show Ev G (d + 1) _ _ M_Bu_candidates 50 [.ref 81, .ref x1, .int x2, .long x3, ev_unk, .int x5, .int x6, .int x7, .long x8, ev_unk, .int x10] [.int (b2i (inI x2 x10))] h R from
      Ev.br (i := .ifCond .eq (34)) (P := (b2i (inI x2 x10)) = (0 : Int32)) (t := 84) (f := 53) (r := []) (by decide +kernel) rfl (fun c2 =>
        Ev.go (pc' := 37) (ls' := [.ref 81, .ref x1, .int x2, .long x3, ev_unk, .int x5, .int x6, .int x7, .long x8, ev_unk, .int (x10 + (1 : Int32))]) (st' := []) [.iinc 10 (1), .goto (-50)] (by decide +kernel) rfl <|
        (k1 c1 c2)
      ) (fun c2 =>
        Ev.go (pc' := 56) (ls' := [.ref 81, .ref x1, .int x2, .long x3, ev_unk, .int x5, .int x6, .int x7, .long x8, ev_unk, .int x10]) (st' := [.int x10, .ref x1]) [.aload_n 1, .iload 10] (by decide +kernel) rfl <|
        Ev.lald (j := j2) (by decide +kernel) a1 (i2 c1 c2) <|
        Ev.go (pc' := 62) (ls' := [.ref 81, .ref x1, .int x2, .long x3, ev_unk, .int x5, .int x6, .int x7, .long x8, ev_unk, .int x10]) (st' := [.long (((g1 j2) ^^^ x3) &&& x8)]) [.lload_n 3, .lxor, .lload 8, .land] (by decide +kernel) rfl <|
        Ev.cS0 (M' := M_JL_bitCount) (as := [.long (((g1 j2) ^^^ x3) &&& x8)]) (rest := []) l_Bu_62 M_JL_bitCount_ok M_JL_bitCount_st (by decide +kernel) rfl rfl (Nat.le_of_ble_eq_true rfl) (Nat.le_of_ble_eq_true rfl) (s_JL_bitCount <| show Ev G (d + 1) _ _ M_Bu_candidates 65 [.ref 81, .ref x1, .int x2, .long x3, ev_unk, .int x5, .int x6, .int x7, .long x8, ev_unk, .int x10] [.int (nI (pop (((g1 j2) ^^^ x3) &&& x8)))] h R from
          Ev.go (pc' := 66) (ls' := [.ref 81, .ref x1, .int x2, .long x3, ev_unk, .int x5, .int x6, .int x7, .long x8, ev_unk, .int x10]) (st' := [.ref 81, .int (nI (pop (((g1 j2) ^^^ x3) &&& x8)))]) [.aload_n 0] (by decide +kernel) rfl <|
          Ev.getf f_Bu_27 (by decide +kernel) a3 rfl <|
          Ev.go (pc' := 71) (ls' := [.ref 81, .ref x1, .int x2, .long x3, ev_unk, .int x5, .int x6, .int x7, .long x8, ev_unk, .int x10]) (st' := [.int x7, .ref 97, .int (nI (pop (((g1 j2) ^^^ x3) &&& x8)))]) [.iload 7] (by decide +kernel) rfl <|
          Ev.iald (j := j5) (by decide +kernel) a4 (i5 c1 c2) <|
          Ev.br (i := .if_icmp .gt (12)) (P := (g4 j5) < (nI (pop (((g1 j2) ^^^ x3) &&& x8)))) (t := 84) (f := 75) (r := []) (by decide +kernel) rfl (fun c3 =>
            Ev.go (pc' := 37) (ls' := [.ref 81, .ref x1, .int x2, .long x3, ev_unk, .int x5, .int x6, .int x7, .long x8, ev_unk, .int (x10 + (1 : Int32))]) (st' := []) [.iinc 10 (1), .goto (-50)] (by decide +kernel) rfl <|
            (k2 c1 c2 c3)
          ) (fun c3 =>
            Ev.go (pc' := 37) (ls' := [.ref 81, .ref x1, .int x2, .long x3, ev_unk, .int (x5 ||| ((1 : Int32) <<< (x10 &&& 31))), .int x6, .int x7, .long x8, ev_unk, .int (x10 + (1 : Int32))]) (st' := []) [.iload 5, .iconst 1, .iload 10, .ishl, .ior, .istore 5, .iinc 10 (1), .goto (-50)] (by decide +kernel) rfl <|
            (k3 c1 c2 c3)
          )
        )
      )
    )
  ) (fun c1 =>
    Ev.go (pc' := 93) (ls' := [.ref 81, .ref x1, .int x2, .long x3, ev_unk, .int x5, .int x6, .int x7, .long x8, ev_unk, .int x10]) (st' := [.ref 81, .int x6]) [.iload 6, .aload_n 0] (by decide +kernel) rfl <|
    Ev.getf f_Bu_9 (by decide +kernel) a3 rfl <|
    Ev.go (pc' := 98) (ls' := [.ref 81, .ref x1, .int x2, .long x3, ev_unk, .int x5, .int x6, .int x7, .long x8, ev_unk, .int x10]) (st' := [.int x7, .ref 82, .int x6]) [.iload 7] (by decide +kernel) rfl <|
    Ev.iald (j := j5) (by decide +kernel) a6 (i7 c1) <|
    Ev.go (pc' := 9) (ls' := [.ref 81, .ref x1, .int x2, .long x3, ev_unk, .int x5, .int (x6 + (g6 j5)), .int (x7 + (1 : Int32)), .long x8, ev_unk, .int x10]) (st' := []) [.iadd, .istore 6, .iinc 7 (1), .goto (-96)] (by decide +kernel) rfl <|
    Ev.forget (ls' := [.ref 81, .ref x1, .int x2, .long x3, ev_unk, .int x5, .int (x6 + (g6 j5)), .int (x7 + (1 : Int32)), ev_unk, ev_unk, ev_unk]) ⟨Or.inr rfl, Or.inr rfl, Or.inr rfl, Or.inr rfl, Or.inr rfl, Or.inr rfl, Or.inr rfl, Or.inr rfl, Or.inl rfl, Or.inr rfl, Or.inl rfl, trivial⟩ <|
    (k4 c1)
  )
theorem b_Bu_plan_0 {G : ev_G} {d k n : Nat} {h : ev_H} {R : Option Value → ev_H → Prop} {x1 : Nat} {x2 : Int32} {x3 : Int64} {x5 : Int32}
  (r1 : ∃ fs, hat h 81 (oC 0 fs))
  (k1 : Ev G d 0 0 M_Bu_weigh 0 [.ref 81, .ref x1, .int x2, .long x3, ev_unk, ev_unk, ev_unk, ev_unk, ev_unk, ev_unk, ev_unk] [] h (fun r h1 => Ev G (d + 1) k n M_Bu_plan 7 [.ref 81, .ref x1, .int x2, .long x3, ev_unk, .int x5] (r.toList ++ []) h1 R))
  : Ev G (d + 1) k n M_Bu_plan 0 [.ref 81, .ref x1, .int x2, .long x3, ev_unk, .int x5] [] h R :=
  Ev.go (pc' := 4) (ls' := [.ref 81, .ref x1, .int x2, .long x3, ev_unk, .int x5]) (st' := [.long x3, .int x2, .ref x1, .ref 81]) [.aload_n 0, .aload_n 1, .iload_n 2, .lload_n 3] (by decide +kernel) rfl <|
  Ev.cV0 (M' := M_Bu_weigh) (as := [.ref x1, .int x2, .long x3]) (rest := []) l_Bu_40 M_Bu_weigh_ok M_Bu_weigh_in M_Bu_weigh_se (by decide +kernel) r1 rfl rfl rfl (Nat.le_of_ble_eq_true rfl) (Nat.le_of_ble_eq_true rfl) k1
theorem b_Bu_plan_7 {G : ev_G} {d k n : Nat} {h : ev_H} {R : Option Value → ev_H → Prop} {x1 : Nat} {x2 : Int32} {x3 : Int64} {x5 : Int32}
  (r1 : ∃ fs, hat h 81 (oC 0 fs))
  (k1 : Ev G d 0 0 M_Bu_tabulate 0 [.ref 81, .int x5, ev_unk, ev_unk, ev_unk] [] h (fun r h1 => Ev G (d + 1) k n M_Bu_plan 13 [.ref 81, .ref x1, .int x2, .long x3, ev_unk, .int x5] (r.toList ++ []) h1 R))
  : Ev G (d + 1) k n M_Bu_plan 7 [.ref 81, .ref x1, .int x2, .long x3, ev_unk, .int x5] [] h R :=
  Ev.go (pc' := 10) (ls' := [.ref 81, .ref x1, .int x2, .long x3, ev_unk, .int x5]) (st' := [.int x5, .ref 81]) [.aload_n 0, .iload 5] (by decide +kernel) rfl <|
  Ev.cV0 (M' := M_Bu_tabulate) (as := [.int x5]) (rest := []) l_Bu_44 M_Bu_tabulate_ok M_Bu_tabulate_in M_Bu_tabulate_se (by decide +kernel) r1 rfl rfl rfl (Nat.le_of_ble_eq_true rfl) (Nat.le_of_ble_eq_true rfl) k1
theorem b_Bu_plan_13 {G : ev_G} {d k n : Nat} {h : ev_H} {R : Option Value → ev_H → Prop} {x1 : Nat} {x2 : Int32} {x3 : Int64} {x5 : Int32}
  (r1 : ∃ fs, hat h 81 (oC 0 fs))
  (k1 : Ev G d 0 0 M_Bu_choose 0 [.ref 81, .int x5, ev_unk, ev_unk, ev_unk, ev_unk] [] h (fun r h1 => Ev G (d + 1) k n M_Bu_plan 19 [.ref 81, .ref x1, .int x2, .long x3, ev_unk, .int x5] (r.toList ++ []) h1 R))
  : Ev G (d + 1) k n M_Bu_plan 13 [.ref 81, .ref x1, .int x2, .long x3, ev_unk, .int x5] [] h R :=
  Ev.go (pc' := 16) (ls' := [.ref 81, .ref x1, .int x2, .long x3, ev_unk, .int x5]) (st' := [.int x5, .ref 81]) [.aload_n 0, .iload 5] (by decide +kernel) rfl <|
  Ev.cV0 (M' := M_Bu_choose) (as := [.int x5]) (rest := []) l_Bu_48 M_Bu_choose_ok M_Bu_choose_in M_Bu_choose_se (by decide +kernel) r1 rfl rfl rfl (Nat.le_of_ble_eq_true rfl) (Nat.le_of_ble_eq_true rfl) k1
theorem b_Bu_plan_19 {G : ev_G} {d k n : Nat} {h : ev_H} {R : Option Value → ev_H → Prop} {x1 : Nat} {x2 : Int32} {x3 : Int64} {x5 : Int32} {y0 : Int32}
  (k1 : R (some (.int y0)) h)
  : Ev G (d + 1) k n M_Bu_plan 19 [.ref 81, .ref x1, .int x2, .long x3, ev_unk, .int x5] [.int y0] h R :=
  Ev.ret (r := (some (.int y0))) (Or.inl ⟨_, rfl, by decide +kernel, _, rfl, rfl⟩) k1
section S20
variable {G : ev_G} {d : Nat} {h : ev_H} {R : Option Value → ev_H → Prop} {S : AS}
variable {P : Nat} {W : Nat → Nat} {c : Nat → Nat → Nat} {kc r lo : Nat}
theorem s_Bu_weigh {a : Nat} {set : Int32} {x : Int64} {cof : Nat → Int64} (B : BuP h P W c 0 r lo) (hc : c = cstN (bt set) cof x W) (hW : sumT W P ≤ 48) (ha : hat h a (aL 32 cof)) (ha2 : a < 81) (hR : ∀ h', Kp h h' 84 90 → BuP h' P W c P r lo → R none h') : Ev G (d + 1) 0 0 M_Bu_weigh 0 [.ref 81, .ref a, .int set, .long x, ev_unk, ev_unk, ev_unk, ev_unk, ev_unk, ev_unk, ev_unk] [] h R := by
  have b1 := B.1
  have b2 := B.2.1
  have b3 := B.2.2.1
  refine b_Bu_weigh_0 ?_
  have L := up0 (P := fun i => ∀ h', Kp h h' 84 90 → BuP h' P W c i r lo → Ev G (d + 1) 0 0 M_Bu_weigh 6 [.ref 81, .ref a, .int set, .long x, ev_unk, .int (nI (sumT W i)), .int (nI i), ev_unk, ev_unk, ev_unk, ev_unk] [] h' R) P ?_ ?_
  · exact L h (Kp.refl _ _ _) B
  · intro i hi ih h' K B'
    have yes : nI i < nI P := nI_lt hi (by omega)
    have hw := b3 i hi
    have hst : sumT W i + W i ≤ 48 := Nat.le_trans (sumT_mono W (m := i + 1) hi) hW
    obtain ⟨b4, ⟨brf, b5, b5'⟩, b6, b7, b8, b9, ch, b10⟩ := B'.2.2.2
    obtain ⟨g0, t0, -⟩ := b8 i (by omega)
    refine b_Bu_weigh_6 (j3 := i) b4 b5 b6 (fun _ => ixn (by omega) (by decide)) (fun _ => ?_) (fun q => absurd yes q)
    rw [b5' i hi]
    refine s_JA_fill t0 (by decide) fun h1 g1 K1 t1 v1 => b_Bu_weigh_46 ?_
    have B1 := B'.row (by omega) K1 t1
    have KK1 := K.trans (K1.wide (lo' := 84) (hi' := 90) (by omega) (by omega))
    -- the codes
    have L1 := up0 (P := fun m => ∀ h' g, Kp h h' 84 90 → BuP h' P W c i r lo → hat h' (83 + 1 + i) (aI 26 g) → (∀ s, s < 26 → g s = nI (cnt (fun j => bt set j && decide (farN (cof j ^^^ x) (sumT W i) (W i) + 1 = s)) m)) → Ev G (d + 1) 0 0 M_Bu_weigh 49 [.ref 81, .ref a, .int set, .long x, ev_unk, .int (nI (sumT W i)), .int (nI i), .long ((((1 : Int64) <<< ((nI (W i)).toInt64 &&& 63)) - (1 : Int64)) <<< ((nI (sumT W i)).toInt64 &&& 63)), ev_unk, .ref (83 + 1 + i), .int (nI m)] [] h' R) 32 ?_ ?_
    · exact L1 h1 g1 KK1 B1 t1 fun s hs => (v1 s hs).trans rfl
    · intro m hm ih2 h2 g2 K2 B2 t2 v2
      have ym : nI m < nI 32 := nI_lt hm (by decide)
      have hf := farN_le (cof m ^^^ x) (sumT W i) (W i)
      have ef : pop ((cof m ^^^ x) &&& ((((1 : Int64) <<< ((nI (W i)).toInt64 &&& 63)) - (1 : Int64)) <<< ((nI (sumT W i)).toInt64 &&& 63))) = farN (cof m ^^^ x) (sumT W i) (W i) := pop_mask _ (by omega) (by omega) (by omega)
      have st : ∀ s, cnt (fun j => bt set j && decide (farN (cof j ^^^ x) (sumT W i) (W i) + 1 = s)) (m + 1) = cnt (fun j => bt set j && decide (farN (cof j ^^^ x) (sumT W i) (W i) + 1 = s)) m + if bt set m && decide (farN (cof m ^^^ x) (sumT W i) (W i) + 1 = s) then 1 else 0 := fun s => rfl
      refine b_Bu_weigh_49 (j2 := m) (j4 := farN (cof m ^^^ x) (sumT W i) (W i) + 1) (K2.hat ha (by omega)) t2 (fun _ _ => ixn hm (by decide)) (fun _ _ => by rw [ef, nI_1]; exact ixn (by omega) (by decide)) (fun _ _ => by omega) (fun _ q => ?_) (fun _ q => ?_) (fun q => absurd ym q)
      · rw [inI_n hm] at q
        have q := b2i_e0 q
        rw [nI_1]
        refine ih2 h2 g2 K2 B2 t2 fun s hs => ?_
        rw [st, q, v2 s hs]; simp
      · rw [inI_n hm] at q
        have q := b2i_n0 q
        rw [nI_1]
        have KW := (Kp.refl h2 (83 + 1 + i) (83 + 1 + i + 1)).set (k := 83 + 1 + i) (aI 26 (upd g2 (farN (cof m ^^^ x) (sumT W i) (W i) + 1) (g2 (farN (cof m ^^^ x) (sumT W i) (W i) + 1) + 1))) (by omega) (by omega)
        refine ih2 _ _ (K2.trans (KW.wide (by omega) (by omega))) (B2.row (by omega) KW ⟨t2.1, hset_eq _ _ _⟩) ⟨t2.1, hset_eq _ _ _⟩ fun s hs => ?_
        rw [st, q]
        by_cases e : s = farN (cof m ^^^ x) (sumT W i) (W i) + 1
        · subst e; simp only [upd, if_true, decide_true, Bool.and_true]; rw [v2 _ hs, nI_1]
        · have e2 : ¬ farN (cof m ^^^ x) (sumT W i) (W i) + 1 = s := fun z => e z.symm
          simp only [upd, if_neg e, decide_eq_false e2, Bool.and_false, Bool.false_eq_true, if_false, Nat.add_zero]; exact v2 s hs
    · intro h2 g2 K2 B2 t2 v2
      have no : ¬ nI 32 < nI 32 := nl_self (by decide)
      refine b_Bu_weigh_49 (j2 := 0) (j4 := 0) (K2.hat ha (by omega)) t2 (fun q => absurd q no) (fun q => absurd q no) (fun q => absurd q no) (fun q => absurd q no) (fun q => absurd q no) (fun _ => ?_)
      -- sums
      have L3 := up_to (P := fun m => 1 ≤ m → ∀ h' g, Kp h h' 84 90 → BuP h' P W c i r lo → hat h' (83 + 1 + i) (aI 26 g) → (∀ s, s < 26 → g s = if s < m then nI (c i s) else nI (cnt (fun j => bt set j && decide (farN (cof j ^^^ x) (sumT W i) (W i) + 1 = s)) 32)) → Ev G (d + 1) 0 0 M_Bu_weigh 95 [.ref 81, .ref a, .int set, .long x, ev_unk, .int (nI (sumT W i)), .int (nI i), .long ((((1 : Int64) <<< ((nI (W i)).toInt64 &&& 63)) - (1 : Int64)) <<< ((nI (sumT W i)).toInt64 &&& 63)), ev_unk, .ref (83 + 1 + i), .int (nI m)] [] h' R) (N := 26) ?_ ?_
      · refine L3 1 (by omega) (Nat.le_refl _) h2 g2 K2 B2 t2 fun s hs => ?_
        rw [v2 s hs]
        by_cases e : s < 1
        · have : s = 0 := by omega
          subst this
          rw [if_pos e, hc, ((cstN_ok (bt set) cof x W P) i hi).1]
          rw [cnt_zero fun k _ => by rw [decide_eq_false (by omega)]; simp]
        · rw [if_neg e]
      · intro m hm ih3 h1m h3 g3 K3 B3 t3 v3
        have ym : nI m < nI 26 := nI_lt hm (by decide)
        obtain ⟨q4, ⟨brq, q5, q5'⟩, -⟩ := B3.2.2.2
        refine b_Bu_weigh_95 (j2 := m) (j3 := m - 1) (j6 := i) t3 q4 q5 (fun _ => ixn hm (by decide)) (fun _ => by rw [show nI m - 1 = nI (m - 1) from nI_sub (b := 1) h1m]; exact ixn (by omega) (by decide)) (fun q => absurd ym q) (fun _ => ?_) (fun q => absurd ym q)
        rw [nI_1]
        have KW := (Kp.refl h3 (83 + 1 + i) (83 + 1 + i + 1)).set (k := 83 + 1 + i) (aI 26 (upd g3 m (g3 m + g3 (m - 1)))) (by omega) (by omega)
        refine ih3 (by omega) _ _ (K3.trans (KW.wide (by omega) (by omega))) (B3.row (by omega) KW ⟨t3.1, hset_eq _ _ _⟩) ⟨t3.1, hset_eq _ _ _⟩ fun s hs => ?_
        by_cases e : s = m
        · subst e
          simp only [upd, if_true]
          rw [if_pos (by omega), v3 s hs, if_neg (by omega), v3 (s - 1) (by omega), if_pos (by omega), nI_add, hc]
          obtain ⟨u, rfl⟩ : ∃ u, s = u + 1 := ⟨s - 1, by omega⟩
          congr 1
          unfold cstN
          rw [Nat.add_sub_cancel, cnt_step (bt set) (fun j => farN (cof j ^^^ x) (sumT W i) (W i) + 1) u 32, Nat.add_comm]
        · simp only [upd, if_neg e]; rw [v3 s hs]
          by_cases e2 : s < m
          · rw [if_pos e2, if_pos (by omega)]
          · rw [if_neg e2, if_neg (by omega)]
      · intro h1m h3 g3 K3 B3 t3 v3
        have no : ¬ nI 26 < nI 26 := nl_self (by decide)
        obtain ⟨q4, ⟨brq, q5, q5'⟩, -⟩ := B3.2.2.2
        refine b_Bu_weigh_95 (j2 := 0) (j3 := 0) (j6 := i) t3 q4 q5 (fun q => absurd q no) (fun q => absurd q no) (fun _ => ixn (by omega) (by decide)) (fun q => absurd q no) (fun _ => ?_)
        rw [q5' i hi, nI_add, nI_1]
        exact ih h3 K3 (B3.rowDone t3 fun s hs => by rw [v3 s (by omega), if_pos (by omega)])
  · intro h' K B'
    obtain ⟨b4, ⟨brf, b5, b5'⟩, b6, b7, b8, b9, ch, b10⟩ := B'.2.2.2
    exact b_Bu_weigh_6 (j3 := 0) b4 b5 b6 (fun q => absurd q (nl_self (by omega))) (fun q => absurd q (nl_self (by omega))) (fun _ => hR h' K B')
theorem s_Bu_plan {a : Nat} {set : Int32} {x : Int64} {cof : Nat → Int64} {rI : Int32} {r0 : Nat} {c0 : Nat → Nat → Nat} (B : BuP h P W c0 kc r0 lo) (hc : c = cstN (bt set) cof x W) (hW : sumT W P ≤ 48) (ha : hat h a (aL 32 cof)) (ha2 : a < 81) (hr : rI = nI r ∧ r ≤ 48) (hR : ∀ h', Kp h h' 84 98 → BuP h' P W c P r 1 → BuC h' P (bShr c W P r) P → R (some (.int (nI (bLp c W P 0 (r + 1))))) h') : Ev G (d + 3) 0 0 M_Bu_plan 0 [.ref 81, .ref a, .int set, .long x, ev_unk, .int rI] [] h R := by
  have B0 : BuP h P W c 0 r P := B.none
  have hok : cOk c P := by rw [hc]; exact cstN_ok _ _ _ _ _
  refine b_Bu_plan_0 B0.obj (s_Bu_weigh B0 hc hW ha ha2 fun h1 K1 B1 => ?_)
  refine b_Bu_plan_7 B1.obj (s_Bu_tabulate B1 hok hr fun h2 K2 B2 B2' => ?_)
  refine b_Bu_plan_13 B2.obj (s_Bu_choose B2 B2' hok hr fun h3 K3 B3 C3 => ?_)
  exact b_Bu_plan_19 (hR h3 (((K1.wide (by omega) (by omega)).trans (K2.wide (by omega) (by omega))).trans (K3.wide (by omega) (by omega))) B3 C3)
/-- any of the first n -/
def anyT (f : Nat → Bool) : Nat → Bool
  | 0 => false
  | n + 1 => anyT f n || f n
theorem anyT_congr {f g : Nat → Bool} : ∀ {n : Nat}, (∀ k, k < n → f k = g k) → anyT f n = anyT g n
  | 0, _ => rfl
  | n + 1, h => by
    show (anyT f n || f n) = (anyT g n || g n)
    rw [anyT_congr fun k hk => h k (by omega), h n (by omega)]
theorem setI_ins (q : Nat → Bool) {m : Nat} (hm : m < 32) : setI q ||| (1 <<< (nI m &&& 31)) = setI (fun j => q j || decide (j = m)) := by
  rw [setI_one hm, setI_or]
theorem nI_predlt {a b : Nat} (ha : a < 2147483648) (hb : b < 2147483648) : nI a - 1 < nI b ↔ a ≤ b := by
  cases a with
  | zero =>
    refine ⟨fun _ => Nat.zero_le _, fun _ => ?_⟩
    have : ¬ nI b < 0 := nI_pos (by omega)
    show Int32.ofNat 0 - 1 < nI b
    rw [Int32.lt_iff_toInt_lt, nI_toInt (by omega)]
    show (-1 : Int) < _
    omega
  | succ a =>
    rw [nI_pred, nI_ltI (by omega) (by omega)]; omega
def canP (p : Nat → Bool) (co : Nat → Int64) (x : Int64) (W : Nat → Nat) (sh : Nat → Nat) (i j : Nat) : Bool := p j && anyT (fun i' => decide (farN (co j ^^^ x) (sumT W i') (W i') < sh i')) i
theorem s_Bu_candidates {a : Nat} {set : Int32} {x : Int64} {cof : Nat → Int64} {sh : Nat → Nat} (B : BuP h P W c kc r lo) (C : BuC h P sh P) (hsh : ∀ i, i < P → sh i ≤ 49) (hW : sumT W P ≤ 48) (ha : hat h a (aL 32 cof)) (hR : R (some (.int (setI (canP (bt set) cof x W sh P)))) h) : Ev G (d + 1) 0 0 M_Bu_candidates 0 [.ref 81, .ref a, .int set, .long x, ev_unk, ev_unk, ev_unk, ev_unk, ev_unk, ev_unk, ev_unk] [] h R := by
  obtain ⟨b1, b2, b3, b4, ⟨brf, b5, b5'⟩, b6, b7, b8, b9, ch0, b10⟩ := B
  obtain ⟨ch, y, z⟩ := C
  refine b_Bu_candidates_0 ?_
  have L := up0 (P := fun i => Ev G (d + 1) 0 0 M_Bu_candidates 9 [.ref 81, .ref a, .int set, .long x, ev_unk, .int (setI (canP (bt set) cof x W sh i)), .int (nI (sumT W i)), .int (nI i), ev_unk, ev_unk, ev_unk] [] h R) P ?_ ?_
  · have e : setI (canP (bt set) cof x W sh 0) = 0 := (setI_congr fun j _ => by unfold canP anyT; simp).trans setI_0.symm
    rw [e] at L; exact L
  · intro i hi ih
    have yes : nI i < nI P := nI_lt hi (by omega)
    have hw := b3 i hi
    have hs := hsh i hi
    have hst : sumT W i + W i ≤ 48 := Nat.le_trans (sumT_mono W (m := i + 1) hi) hW
    refine b_Bu_candidates_9 (j3 := i) b4 b5 (fun _ => ixn (by omega) (by decide)) (fun _ => ?_) (fun q => absurd yes q)
    rw [b5' i hi]
    have L1 := up0 (P := fun m => Ev G (d + 1) 0 0 M_Bu_candidates 37 [.ref 81, .ref a, .int set, .long x, ev_unk, .int (setI (fun j => canP (bt set) cof x W sh i j || (decide (j < m) && (bt set j && decide (farN (cof j ^^^ x) (sumT W i) (W i) < sh i))))), .int (nI (sumT W i)), .int (nI i), .long ((((1 : Int64) <<< ((nI (W i)).toInt64 &&& 63)) - (1 : Int64)) <<< ((nI (sumT W i)).toInt64 &&& 63)), ev_unk, .int (nI m)] [] h R) 32 ?_ ?_
    · have e : setI (fun j => canP (bt set) cof x W sh i j || (decide (j < 0) && (bt set j && decide (farN (cof j ^^^ x) (sumT W i) (W i) < sh i)))) = setI (canP (bt set) cof x W sh i) := setI_congr fun j _ => by simp
      rw [e] at L1; exact L1
    · intro m hm ih2
      have ym : nI m < nI 32 := nI_lt hm (by decide)
      have hf := farN_le (cof m ^^^ x) (sumT W i) (W i)
      have ef : pop ((cof m ^^^ x) &&& ((((1 : Int64) <<< ((nI (W i)).toInt64 &&& 63)) - (1 : Int64)) <<< ((nI (sumT W i)).toInt64 &&& 63))) = farN (cof m ^^^ x) (sumT W i) (W i) := pop_mask _ (by omega) (by omega) (by omega)
      have skip : (bt set m && decide (farN (cof m ^^^ x) (sumT W i) (W i) < sh i)) = false → setI (fun j => canP (bt set) cof x W sh i j || (decide (j < m + 1) && (bt set j && decide (farN (cof j ^^^ x) (sumT W i) (W i) < sh i)))) = setI (fun j => canP (bt set) cof x W sh i j || (decide (j < m) && (bt set j && decide (farN (cof j ^^^ x) (sumT W i) (W i) < sh i)))) := fun q => setI_congr fun j _ => by
        by_cases e : j = m
        · subst e; rw [q]; simp
        · rw [show decide (j < m + 1) = decide (j < m) from decide_eq_decide.mpr (by omega)]
      refine b_Bu_candidates_37 (j2 := m) (j5 := i) ha b4 y b5 (fun _ _ => ixn hm (by decide)) (fun _ _ => ixn (by omega) (by decide)) (fun q => absurd ym q) (fun _ q => ?_) (fun _ q q2 => ?_) (fun _ q q2 => ?_) (fun q => absurd ym q)
      · rw [inI_n hm] at q
        rw [skip (by rw [b2i_e0 q]; rfl)] at ih2
        rw [nI_1]; exact ih2
      · rw [z i hi, ef, nI_predlt (by omega) (by omega)] at q2
        rw [skip (by rw [decide_eq_false (by omega), Bool.and_false])] at ih2
        rw [nI_1]; exact ih2
      · rw [inI_n hm] at q
        rw [z i hi, ef, nI_predlt (by omega) (by omega)] at q2
        have e : setI (fun j => canP (bt set) cof x W sh i j || (decide (j < m + 1) && (bt set j && decide (farN (cof j ^^^ x) (sumT W i) (W i) < sh i)))) = setI (fun j => canP (bt set) cof x W sh i j || (decide (j < m) && (bt set j && decide (farN (cof j ^^^ x) (sumT W i) (W i) < sh i)))) ||| (1 <<< (nI m &&& 31)) := by
          rw [setI_ins _ hm]
          refine setI_congr fun j _ => ?_
          by_cases e : j = m
          · subst e; rw [b2i_n0 q, decide_eq_true (by omega : farN (cof j ^^^ x) (sumT W i) (W i) < sh i)]; simp
          · rw [show decide (j < m + 1) = decide (j < m) from decide_eq_decide.mpr (by omega), decide_eq_false e]; simp
        rw [e] at ih2
        rw [nI_1]; exact ih2
    · have no : ¬ nI 32 < nI 32 := nl_self (by decide)
      refine b_Bu_candidates_37 (j2 := 0) (j5 := i) ha b4 y b5 (fun q => absurd q no) (fun q => absurd q no) (fun _ => ixn (by omega) (by decide)) (fun q => absurd q no) (fun q => absurd q no) (fun q => absurd q no) (fun _ => ?_)
      rw [b5' i hi, nI_add, nI_1]
      have e : setI (fun j => canP (bt set) cof x W sh i j || (decide (j < 32) && (bt set j && decide (farN (cof j ^^^ x) (sumT W i) (W i) < sh i)))) = setI (canP (bt set) cof x W sh (i + 1)) := setI_congr fun j hj => by
        rw [decide_eq_true hj]
        show _ = (bt set j && (anyT _ i || _))
        unfold canP
        cases bt set j <;> simp
      rw [e]; exact ih
  · refine b_Bu_candidates_9 (j3 := 0) b4 b5 (fun q => absurd q (nl_self (by omega))) (fun q => absurd q (nl_self (by omega))) (fun _ => hR)
end S20
