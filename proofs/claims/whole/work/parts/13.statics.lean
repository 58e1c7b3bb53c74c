/-! the class' static helpers, the JDK's bit counts -/
theorem b_JL_bitCount_0 {G : ev_G} {d k n : Nat} {h : ev_H} {R : Option Value → ev_H → Prop} {x0 : Int64}
  (k1 : Ev G d k n M_JL_bitCount 10 [.long (x0 - (((x0.toUInt64 >>> ((1 : Int32).toInt64.toUInt64 &&& Int64.toUInt64 63)).toInt64) &&& (6148914691236517205 : Int64))), ev_unk] [] h R)
  : Ev G d k n M_JL_bitCount 0 [.long x0, ev_unk] [] h R :=
  Ev.go (pc' := 4) (ls' := [.long x0, ev_unk]) (st' := [.long ((x0.toUInt64 >>> ((1 : Int32).toInt64.toUInt64 &&& Int64.toUInt64 63)).toInt64), .long x0]) [.lload_n 0, .lload_n 0, .iconst 1, .lushr] (by decide +kernel) rfl <|
  Ev.ldc2 k_JL_314 (by decide +kernel) <|
  Ev.go (pc' := 10) (ls' := [.long (x0 - (((x0.toUInt64 >>> ((1 : Int32).toInt64.toUInt64 &&& Int64.toUInt64 63)).toInt64) &&& (6148914691236517205 : Int64))), ev_unk]) (st' := []) [.land, .lsub, .lstore_n 0] (by decide +kernel) rfl <|
  k1
theorem b_JL_bitCount_10 {G : ev_G} {d k n : Nat} {h : ev_H} {R : Option Value → ev_H → Prop} {x0 : Int64}
  (k1 : Ev G d k n M_JL_bitCount 24 [.long ((x0 &&& (3689348814741910323 : Int64)) + (((x0.toUInt64 >>> ((2 : Int32).toInt64.toUInt64 &&& Int64.toUInt64 63)).toInt64) &&& (3689348814741910323 : Int64))), ev_unk] [] h R)
  : Ev G d k n M_JL_bitCount 10 [.long x0, ev_unk] [] h R :=
  Ev.go (pc' := 11) (ls' := [.long x0, ev_unk]) (st' := [.long x0]) [.lload_n 0] (by decide +kernel) rfl <|
  Ev.ldc2 k_JL_316 (by decide +kernel) <|
  Ev.go (pc' := 18) (ls' := [.long x0, ev_unk]) (st' := [.long ((x0.toUInt64 >>> ((2 : Int32).toInt64.toUInt64 &&& Int64.toUInt64 63)).toInt64), .long (x0 &&& (3689348814741910323 : Int64))]) [.land, .lload_n 0, .iconst 2, .lushr] (by decide +kernel) rfl <|
  Ev.ldc2 k_JL_316 (by decide +kernel) <|
  Ev.go (pc' := 24) (ls' := [.long ((x0 &&& (3689348814741910323 : Int64)) + (((x0.toUInt64 >>> ((2 : Int32).toInt64.toUInt64 &&& Int64.toUInt64 63)).toInt64) &&& (3689348814741910323 : Int64))), ev_unk]) (st' := []) [.land, .ladd, .lstore_n 0] (by decide +kernel) rfl <|
  k1
theorem b_JL_bitCount_24 {G : ev_G} {d k n : Nat} {h : ev_H} {R : Option Value → ev_H → Prop} {x0 : Int64}
  (k1 : Ev G d k n M_JL_bitCount 34 [.long ((x0 + ((x0.toUInt64 >>> ((4 : Int32).toInt64.toUInt64 &&& Int64.toUInt64 63)).toInt64)) &&& (1085102592571150095 : Int64)), ev_unk] [] h R)
  : Ev G d k n M_JL_bitCount 24 [.long x0, ev_unk] [] h R :=
  Ev.go (pc' := 29) (ls' := [.long x0, ev_unk]) (st' := [.long (x0 + ((x0.toUInt64 >>> ((4 : Int32).toInt64.toUInt64 &&& Int64.toUInt64 63)).toInt64))]) [.lload_n 0, .lload_n 0, .iconst 4, .lushr, .ladd] (by decide +kernel) rfl <|
  Ev.ldc2 k_JL_318 (by decide +kernel) <|
  Ev.go (pc' := 34) (ls' := [.long ((x0 + ((x0.toUInt64 >>> ((4 : Int32).toInt64.toUInt64 &&& Int64.toUInt64 63)).toInt64)) &&& (1085102592571150095 : Int64)), ev_unk]) (st' := []) [.land, .lstore_n 0] (by decide +kernel) rfl <|
  k1
theorem b_JL_bitCount_34 {G : ev_G} {d k n : Nat} {h : ev_H} {R : Option Value → ev_H → Prop} {x0 : Int64}
  (k1 : Ev G d k n M_JL_bitCount 41 [.long (x0 + ((x0.toUInt64 >>> ((8 : Int32).toInt64.toUInt64 &&& Int64.toUInt64 63)).toInt64)), ev_unk] [] h R)
  : Ev G d k n M_JL_bitCount 34 [.long x0, ev_unk] [] h R :=
  Ev.go (pc' := 41) (ls' := [.long (x0 + ((x0.toUInt64 >>> ((8 : Int32).toInt64.toUInt64 &&& Int64.toUInt64 63)).toInt64)), ev_unk]) (st' := []) [.lload_n 0, .lload_n 0, .bipush (8), .lushr, .ladd, .lstore_n 0] (by decide +kernel) rfl <|
  k1
theorem b_JL_bitCount_41 {G : ev_G} {d k n : Nat} {h : ev_H} {R : Option Value → ev_H → Prop} {x0 : Int64}
  (k1 : Ev G d k n M_JL_bitCount 48 [.long (x0 + ((x0.toUInt64 >>> ((16 : Int32).toInt64.toUInt64 &&& Int64.toUInt64 63)).toInt64)), ev_unk] [] h R)
  : Ev G d k n M_JL_bitCount 41 [.long x0, ev_unk] [] h R :=
  Ev.go (pc' := 48) (ls' := [.long (x0 + ((x0.toUInt64 >>> ((16 : Int32).toInt64.toUInt64 &&& Int64.toUInt64 63)).toInt64)), ev_unk]) (st' := []) [.lload_n 0, .lload_n 0, .bipush (16), .lushr, .ladd, .lstore_n 0] (by decide +kernel) rfl <|
  k1
theorem b_JL_bitCount_48 {G : ev_G} {d k n : Nat} {h : ev_H} {R : Option Value → ev_H → Prop} {x0 : Int64}
  (k1 : Ev G d k n M_JL_bitCount 55 [.long (x0 + ((x0.toUInt64 >>> ((32 : Int32).toInt64.toUInt64 &&& Int64.toUInt64 63)).toInt64)), ev_unk] [] h R)
  : Ev G d k n M_JL_bitCount 48 [.long x0, ev_unk] [] h R :=
  Ev.go (pc' := 55) (ls' := [.long (x0 + ((x0.toUInt64 >>> ((32 : Int32).toInt64.toUInt64 &&& Int64.toUInt64 63)).toInt64)), ev_unk]) (st' := []) [.lload_n 0, .lload_n 0, .bipush (32), .lushr, .ladd, .lstore_n 0] (by decide +kernel) rfl <|
  k1
theorem b_JL_bitCount_55 {G : ev_G} {d k n : Nat} {h : ev_H} {R : Option Value → ev_H → Prop} {x0 : Int64}
  (k1 : R (some (.int (x0.toInt32 &&& (127 : Int32)))) h)
  : Ev G d k n M_JL_bitCount 55 [.long x0, ev_unk] [] h R :=
  Ev.go (pc' := 60) (ls' := [.long x0, ev_unk]) (st' := [.int (x0.toInt32 &&& (127 : Int32))]) [.lload_n 0, .l2i, .bipush (127), .iand] (by decide +kernel) rfl <|
  Ev.ret (r := (some (.int (x0.toInt32 &&& (127 : Int32))))) (Or.inl ⟨_, rfl, by decide +kernel, _, rfl, rfl⟩) k1
theorem b_JI_bitCount_0 {G : ev_G} {d k n : Nat} {h : ev_H} {R : Option Value → ev_H → Prop} {x0 : Int32}
  (k1 : Ev G d k n M_JI_bitCount 10 [.int (x0 - (((x0.toUInt32 >>> ((1 : Int32).toUInt32 &&& Int32.toUInt32 31)).toInt32) &&& (1431655765 : Int32)))] [] h R)
  : Ev G d k n M_JI_bitCount 0 [.int x0] [] h R :=
  Ev.go (pc' := 4) (ls' := [.int x0]) (st' := [.int ((x0.toUInt32 >>> ((1 : Int32).toUInt32 &&& Int32.toUInt32 31)).toInt32), .int x0]) [.iload_n 0, .iload_n 0, .iconst 1, .iushr] (by decide +kernel) rfl <|
  Ev.ldcw k_JI_265 (by decide +kernel) <|
  Ev.go (pc' := 10) (ls' := [.int (x0 - (((x0.toUInt32 >>> ((1 : Int32).toUInt32 &&& Int32.toUInt32 31)).toInt32) &&& (1431655765 : Int32)))]) (st' := []) [.iand, .isub, .istore_n 0] (by decide +kernel) rfl <|
  k1
theorem b_JI_bitCount_10 {G : ev_G} {d k n : Nat} {h : ev_H} {R : Option Value → ev_H → Prop} {x0 : Int32}
  (k1 : Ev G d k n M_JI_bitCount 24 [.int ((x0 &&& (858993459 : Int32)) + (((x0.toUInt32 >>> ((2 : Int32).toUInt32 &&& Int32.toUInt32 31)).toInt32) &&& (858993459 : Int32)))] [] h R)
  : Ev G d k n M_JI_bitCount 10 [.int x0] [] h R :=
  Ev.go (pc' := 11) (ls' := [.int x0]) (st' := [.int x0]) [.iload_n 0] (by decide +kernel) rfl <|
  Ev.ldcw k_JI_266 (by decide +kernel) <|
  Ev.go (pc' := 18) (ls' := [.int x0]) (st' := [.int ((x0.toUInt32 >>> ((2 : Int32).toUInt32 &&& Int32.toUInt32 31)).toInt32), .int (x0 &&& (858993459 : Int32))]) [.iand, .iload_n 0, .iconst 2, .iushr] (by decide +kernel) rfl <|
  Ev.ldcw k_JI_266 (by decide +kernel) <|
  Ev.go (pc' := 24) (ls' := [.int ((x0 &&& (858993459 : Int32)) + (((x0.toUInt32 >>> ((2 : Int32).toUInt32 &&& Int32.toUInt32 31)).toInt32) &&& (858993459 : Int32)))]) (st' := []) [.iand, .iadd, .istore_n 0] (by decide +kernel) rfl <|
  k1
theorem b_JI_bitCount_24 {G : ev_G} {d k n : Nat} {h : ev_H} {R : Option Value → ev_H → Prop} {x0 : Int32}
  (k1 : Ev G d k n M_JI_bitCount 34 [.int ((x0 + ((x0.toUInt32 >>> ((4 : Int32).toUInt32 &&& Int32.toUInt32 31)).toInt32)) &&& (252645135 : Int32))] [] h R)
  : Ev G d k n M_JI_bitCount 24 [.int x0] [] h R :=
  Ev.go (pc' := 29) (ls' := [.int x0]) (st' := [.int (x0 + ((x0.toUInt32 >>> ((4 : Int32).toUInt32 &&& Int32.toUInt32 31)).toInt32))]) [.iload_n 0, .iload_n 0, .iconst 4, .iushr, .iadd] (by decide +kernel) rfl <|
  Ev.ldcw k_JI_267 (by decide +kernel) <|
  Ev.go (pc' := 34) (ls' := [.int ((x0 + ((x0.toUInt32 >>> ((4 : Int32).toUInt32 &&& Int32.toUInt32 31)).toInt32)) &&& (252645135 : Int32))]) (st' := []) [.iand, .istore_n 0] (by decide +kernel) rfl <|
  k1
theorem b_JI_bitCount_34 {G : ev_G} {d k n : Nat} {h : ev_H} {R : Option Value → ev_H → Prop} {x0 : Int32}
  (k1 : Ev G d k n M_JI_bitCount 41 [.int (x0 + ((x0.toUInt32 >>> ((8 : Int32).toUInt32 &&& Int32.toUInt32 31)).toInt32))] [] h R)
  : Ev G d k n M_JI_bitCount 34 [.int x0] [] h R :=
  Ev.go (pc' := 41) (ls' := [.int (x0 + ((x0.toUInt32 >>> ((8 : Int32).toUInt32 &&& Int32.toUInt32 31)).toInt32))]) (st' := []) [.iload_n 0, .iload_n 0, .bipush (8), .iushr, .iadd, .istore_n 0] (by decide +kernel) rfl <|
  k1
theorem b_JI_bitCount_41 {G : ev_G} {d k n : Nat} {h : ev_H} {R : Option Value → ev_H → Prop} {x0 : Int32}
  (k1 : Ev G d k n M_JI_bitCount 48 [.int (x0 + ((x0.toUInt32 >>> ((16 : Int32).toUInt32 &&& Int32.toUInt32 31)).toInt32))] [] h R)
  : Ev G d k n M_JI_bitCount 41 [.int x0] [] h R :=
  Ev.go (pc' := 48) (ls' := [.int (x0 + ((x0.toUInt32 >>> ((16 : Int32).toUInt32 &&& Int32.toUInt32 31)).toInt32))]) (st' := []) [.iload_n 0, .iload_n 0, .bipush (16), .iushr, .iadd, .istore_n 0] (by decide +kernel) rfl <|
  k1
theorem b_JI_bitCount_48 {G : ev_G} {d k n : Nat} {h : ev_H} {R : Option Value → ev_H → Prop} {x0 : Int32}
  (k1 : R (some (.int (x0 &&& (63 : Int32)))) h)
  : Ev G d k n M_JI_bitCount 48 [.int x0] [] h R :=
  Ev.go (pc' := 52) (ls' := [.int x0]) (st' := [.int (x0 &&& (63 : Int32))]) [.iload_n 0, .bipush (63), .iand] (by decide +kernel) rfl <|
  Ev.ret (r := (some (.int (x0 &&& (63 : Int32))))) (Or.inl ⟨_, rfl, by decide +kernel, _, rfl, rfl⟩) k1
theorem l_us (a : Nat) (c : Int32) (k : Nat) (hk : k < 64) (hc : c = nI k) (ha : a < 2 ^ 64) : ((lN a).toUInt64 >>> (c.toInt64.toUInt64 &&& Int64.toUInt64 63)).toInt64 = lN (a / 2 ^ k) := by
  subst hc
  apply l_ext
  intro j hj
  rw [l_ushr k hk, lt_lN _ _ ha, lt_lN _ _ (Nat.lt_of_le_of_lt (Nat.div_le_self _ _) ha), ← Nat.shiftRight_eq_div_pow, Nat.testBit_shiftRight]
theorem l_andN (a b : Nat) (ha : a < 2 ^ 64) : lN a &&& lN b = lN (a &&& b) := by
  apply Int64.toBitVec_inj.1
  show BitVec.ofNat 64 a &&& BitVec.ofNat 64 b = BitVec.ofNat 64 (a &&& b)
  apply BitVec.eq_of_getLsbD_eq
  intro i hi
  simp [hi]
theorem i_us (a : Nat) (c : Int32) (k : Nat) (hk : k < 32) (hc : c = nI k) (ha : a < 2 ^ 32) : ((nI a).toUInt32 >>> (c.toUInt32 &&& Int32.toUInt32 31)).toInt32 = nI (a / 2 ^ k) := by
  subst hc
  apply b_ext
  intro j hj
  rw [b_ushr k hk, bt_nI _ _ ha, bt_nI _ _ (Nat.lt_of_le_of_lt (Nat.div_le_self _ _) ha), ← Nat.shiftRight_eq_div_pow, Nat.testBit_shiftRight]
theorem i_andN (a b : Nat) : nI a &&& nI b = nI (a &&& b) := by
  apply Int32.toBitVec_inj.1
  show BitVec.ofNat 32 a &&& BitVec.ofNat 32 b = BitVec.ofNat 32 (a &&& b)
  apply BitVec.eq_of_getLsbD_eq
  intro i hi
  simp [hi]
theorem and_le_b {a b c : Nat} (h : b < c) : (a &&& b) < c := Nat.lt_of_le_of_lt Nat.and_le_right h
theorem l_of (x : Int64) : ∃ n, n < 2 ^ 64 ∧ x = lN n := ⟨x.toBitVec.toNat, x.toBitVec.isLt, by apply Int64.toBitVec_inj.1; show x.toBitVec = BitVec.ofNat 64 x.toBitVec.toNat; simp⟩
theorem i_of (x : Int32) : ∃ n, n < 2 ^ 32 ∧ x = nI n := ⟨x.toBitVec.toNat, x.toBitVec.isLt, by apply Int32.toBitVec_inj.1; show x.toBitVec = BitVec.ofNat 32 x.toBitVec.toNat; simp⟩
theorem pop_lN {n : Nat} (h : n < 2 ^ 64) : pop (lN n) = cnt n.testBit 64 := cnt_congr fun k _ => lt_lN n k h
theorem pop32_nI {n : Nat} (h : n < 2 ^ 32) : pop32 (nI n) = cnt n.testBit 32 := cnt_congr fun k _ => bt_nI n k h
theorem s_JL_bitCount {G : ev_G} {d : Nat} {h : ev_H} {R : Option Value → ev_H → Prop} {x : Int64} (hR : R (some (.int (nI (pop x)))) h) : Ev G d 0 0 M_JL_bitCount 0 [.long x, ev_unk] [] h R := by
  obtain ⟨n, hn, rfl⟩ := l_of x
  rw [pop_lN hn, ← swar64 hn] at hR
  dsimp only at hR
  have e1 : lN n - (((lN n).toUInt64 >>> ((1 : Int32).toInt64.toUInt64 &&& Int64.toUInt64 63)).toInt64 &&& (6148914691236517205 : Int64)) = lN (sw1 n 6148914691236517205) := by
    rw [l_us n 1 1 (by decide) rfl hn, show (6148914691236517205 : Int64) = lN 6148914691236517205 from rfl, l_andN _ _ (Nat.lt_of_le_of_lt (Nat.div_le_self _ _) hn), lN_sub (Nat.le_trans Nat.and_le_left (Nat.div_le_self _ _))]
    rfl
  have h1 : sw1 n 6148914691236517205 < 2 ^ 64 := Nat.lt_of_le_of_lt (Nat.sub_le _ _) hn
  refine b_JL_bitCount_0 ?_
  rw [e1]
  generalize sw1 n 6148914691236517205 = a at h1 hR ⊢
  have e2 : (lN a &&& (3689348814741910323 : Int64)) + (((lN a).toUInt64 >>> ((2 : Int32).toInt64.toUInt64 &&& Int64.toUInt64 63)).toInt64 &&& (3689348814741910323 : Int64)) = lN (sw2 a 3689348814741910323) := by
    rw [l_us a 2 2 (by decide) rfl h1, show (3689348814741910323 : Int64) = lN 3689348814741910323 from rfl, l_andN _ _ h1, l_andN _ _ (Nat.lt_of_le_of_lt (Nat.div_le_self _ _) h1), lN_add]
    rfl
  have h2 : sw2 a 3689348814741910323 < 2 ^ 63 := by
    have := @Nat.and_le_right a 3689348814741910323
    have := @Nat.and_le_right (a / 4) 3689348814741910323
    unfold sw2; omega
  refine b_JL_bitCount_10 ?_
  rw [e2]
  generalize sw2 a 3689348814741910323 = b at h2 hR ⊢
  have h2' : b < 2 ^ 64 := by omega
  have e3 : (lN b + ((lN b).toUInt64 >>> ((4 : Int32).toInt64.toUInt64 &&& Int64.toUInt64 63)).toInt64) &&& (1085102592571150095 : Int64) = lN (sw3 b 1085102592571150095) := by
    rw [l_us b 4 4 (by decide) rfl h2', lN_add, show (1085102592571150095 : Int64) = lN 1085102592571150095 from rfl, l_andN _ _ (by have : b / 2 ^ 4 ≤ b := Nat.div_le_self _ _; omega)]
    rfl
  have h3 : sw3 b 1085102592571150095 ≤ 1085102592571150095 := Nat.and_le_right
  refine b_JL_bitCount_24 ?_
  rw [e3]
  generalize sw3 b 1085102592571150095 = c at h3 hR ⊢
  have e4 : lN c + ((lN c).toUInt64 >>> ((8 : Int32).toInt64.toUInt64 &&& Int64.toUInt64 63)).toInt64 = lN (c + c / 256) := by
    rw [l_us c 8 8 (by decide) rfl (by omega), lN_add]
  have h4 : c + c / 256 ≤ 1200000000000000000 := by omega
  refine b_JL_bitCount_34 ?_
  rw [e4]
  generalize c + c / 256 = f at h4 hR ⊢
  have e5 : lN f + ((lN f).toUInt64 >>> ((16 : Int32).toInt64.toUInt64 &&& Int64.toUInt64 63)).toInt64 = lN (f + f / 65536) := by
    rw [l_us f 16 16 (by decide) rfl (by omega), lN_add]
  have h5 : f + f / 65536 ≤ 1300000000000000000 := by omega
  refine b_JL_bitCount_41 ?_
  rw [e5]
  generalize f + f / 65536 = g at h5 hR ⊢
  have e6 : lN g + ((lN g).toUInt64 >>> ((32 : Int32).toInt64.toUInt64 &&& Int64.toUInt64 63)).toInt64 = lN (g + g / 4294967296) := by
    rw [l_us g 32 32 (by decide) rfl (by omega), lN_add]
  refine b_JL_bitCount_48 ?_
  rw [e6]
  refine b_JL_bitCount_55 ?_
  rw [lN_i, show (127 : Int32) = nI (2 ^ 7 - 1) from rfl, i_andN, Nat.and_two_pow_sub_one_eq_mod]
  exact hR
theorem s_JI_bitCount {G : ev_G} {d : Nat} {h : ev_H} {R : Option Value → ev_H → Prop} {x : Int32} (hR : R (some (.int (nI (pop32 x)))) h) : Ev G d 0 0 M_JI_bitCount 0 [.int x] [] h R := by
  obtain ⟨n, hn, rfl⟩ := i_of x
  rw [pop32_nI hn, ← swar32 hn] at hR
  dsimp only at hR
  have e1 : nI n - (((nI n).toUInt32 >>> ((1 : Int32).toUInt32 &&& Int32.toUInt32 31)).toInt32 &&& (1431655765 : Int32)) = nI (sw1 n 1431655765) := by
    rw [i_us n 1 1 (by decide) rfl hn, show (1431655765 : Int32) = nI 1431655765 from rfl, i_andN, pk_sub (Nat.le_trans Nat.and_le_left (Nat.div_le_self _ _))]
    rfl
  have h1 : sw1 n 1431655765 < 2 ^ 32 := Nat.lt_of_le_of_lt (Nat.sub_le _ _) hn
  refine b_JI_bitCount_0 ?_
  rw [e1]
  generalize sw1 n 1431655765 = a at h1 hR ⊢
  have e2 : (nI a &&& (858993459 : Int32)) + (((nI a).toUInt32 >>> ((2 : Int32).toUInt32 &&& Int32.toUInt32 31)).toInt32 &&& (858993459 : Int32)) = nI (sw2 a 858993459) := by
    rw [i_us a 2 2 (by decide) rfl h1, show (858993459 : Int32) = nI 858993459 from rfl, i_andN, i_andN, nI_add]
    rfl
  have h2 : sw2 a 858993459 < 2 ^ 31 := by
    have := @Nat.and_le_right a 858993459
    have := @Nat.and_le_right (a / 4) 858993459
    unfold sw2; omega
  refine b_JI_bitCount_10 ?_
  rw [e2]
  generalize sw2 a 858993459 = b at h2 hR ⊢
  have e3 : (nI b + ((nI b).toUInt32 >>> ((4 : Int32).toUInt32 &&& Int32.toUInt32 31)).toInt32) &&& (252645135 : Int32) = nI (sw3 b 252645135) := by
    rw [i_us b 4 4 (by decide) rfl (by omega), nI_add, show (252645135 : Int32) = nI 252645135 from rfl, i_andN]
    rfl
  have h3 : sw3 b 252645135 ≤ 252645135 := Nat.and_le_right
  refine b_JI_bitCount_24 ?_
  rw [e3]
  generalize sw3 b 252645135 = c at h3 hR ⊢
  have e4 : nI c + ((nI c).toUInt32 >>> ((8 : Int32).toUInt32 &&& Int32.toUInt32 31)).toInt32 = nI (c + c / 256) := by
    rw [i_us c 8 8 (by decide) rfl (by omega), nI_add]
  have h4 : c + c / 256 ≤ 300000000 := by omega
  refine b_JI_bitCount_34 ?_
  rw [e4]
  generalize c + c / 256 = f at h4 hR ⊢
  have e5 : nI f + ((nI f).toUInt32 >>> ((16 : Int32).toUInt32 &&& Int32.toUInt32 31)).toInt32 = nI (f + f / 65536) := by
    rw [i_us f 16 16 (by decide) rfl (by omega), nI_add]
  refine b_JI_bitCount_41 ?_
  rw [e5]
  refine b_JI_bitCount_48 ?_
  rw [show (63 : Int32) = nI (2 ^ 6 - 1) from rfl, i_andN, Nat.and_two_pow_sub_one_eq_mod]
  exact hR
theorem b_X_isIn_0 {G : ev_G} {d k n : Nat} {h : ev_H} {R : Option Value → ev_H → Prop} {x0 : Int32} {x1 : Int32}
  (k1 : (((x0.toUInt32 >>> (x1.toUInt32 &&& Int32.toUInt32 31)).toInt32) &&& (1 : Int32)) = (0 : Int32) → R (some (.int (0 : Int32))) h)
  (k2 : ¬ (((x0.toUInt32 >>> (x1.toUInt32 &&& Int32.toUInt32 31)).toInt32) &&& (1 : Int32)) = (0 : Int32) → R (some (.int (1 : Int32))) h)
  : Ev G d k n M_X_isIn 0 [.int x0, .int x1] [] h R :=
  Ev.go (pc' := 5) (ls' := [.int x0, .int x1]) (st' := [.int (((x0.toUInt32 >>> (x1.toUInt32 &&& Int32.toUInt32 31)).toInt32) &&& (1 : Int32))]) [.iload_n 0, .iload_n 1, .iushr, .iconst 1, .iand] (by decide +kernel) rfl <|
  Ev.br (i := .ifCond .eq (7)) (P := (((x0.toUInt32 >>> (x1.toUInt32 &&& Int32.toUInt32 31)).toInt32) &&& (1 : Int32)) = (0 : Int32)) (t := 12) (f := 8) (r := []) (by decide +kernel) rfl (fun c1 =>
    Ev.go (pc' := 13) (ls' := [.int x0, .int x1]) (st' := [.int (0 : Int32)]) [.iconst 0] (by decide +kernel) rfl <|
    Ev.ret (r := (some (.int (0 : Int32)))) (Or.inl ⟨_, rfl, by decide +kernel, _, rfl, rfl⟩) (k1 c1)
  ) (fun c1 =>
    Ev.go (pc' := 13) (ls' := [.int x0, .int x1]) (st' := [.int (1 : Int32)]) [.iconst 1, .goto (4)] (by decide +kernel) rfl <|
    Ev.ret (r := (some (.int (1 : Int32)))) (Or.inl ⟨_, rfl, by decide +kernel, _, rfl, rfl⟩) (k2 c1)
  )
theorem b_X_bitOf_0 {G : ev_G} {d k n : Nat} {h : ev_H} {R : Option Value → ev_H → Prop} {x0 : Int64} {x2 : Int32}
  (k1 : R (some (.int (((x0.toUInt64 >>> (x2.toInt64.toUInt64 &&& Int64.toUInt64 63)).toInt64) &&& (1 : Int64)).toInt32)) h)
  : Ev G d k n M_X_bitOf 0 [.long x0, ev_unk, .int x2] [] h R :=
  Ev.go (pc' := 6) (ls' := [.long x0, ev_unk, .int x2]) (st' := [.int (((x0.toUInt64 >>> (x2.toInt64.toUInt64 &&& Int64.toUInt64 63)).toInt64) &&& (1 : Int64)).toInt32]) [.lload_n 0, .iload_n 2, .lushr, .lconst 1, .land, .l2i] (by decide +kernel) rfl <|
  Ev.ret (r := (some (.int (((x0.toUInt64 >>> (x2.toInt64.toUInt64 &&& Int64.toUInt64 63)).toInt64) &&& (1 : Int64)).toInt32))) (Or.inl ⟨_, rfl, by decide +kernel, _, rfl, rfl⟩) k1
theorem b_X_above_0 {G : ev_G} {d k n : Nat} {h : ev_H} {R : Option Value → ev_H → Prop} {x0 : Int32}
  (k1 : R (some (.int ((-2 : Int32) <<< (x0 &&& 31)))) h)
  : Ev G d k n M_X_above 0 [.int x0] [] h R :=
  Ev.go (pc' := 4) (ls' := [.int x0]) (st' := [.int ((-2 : Int32) <<< (x0 &&& 31))]) [.bipush (-2), .iload_n 0, .ishl] (by decide +kernel) rfl <|
  Ev.ret (r := (some (.int ((-2 : Int32) <<< (x0 &&& 31))))) (Or.inl ⟨_, rfl, by decide +kernel, _, rfl, rfl⟩) k1
theorem b_X_isBelow_0 {G : ev_G} {d k n : Nat} {h : ev_H} {R : Option Value → ev_H → Prop} {x0 : Int32} {x1 : Int32}
  (k1 : x0 < (0 : Int32) → R (some (.int (0 : Int32))) h)
  (k2 : ¬ x0 < (0 : Int32) → x0 < x1 → R (some (.int (1 : Int32))) h)
  (k3 : ¬ x0 < (0 : Int32) → ¬ x0 < x1 → R (some (.int (0 : Int32))) h)
  : Ev G d k n M_X_isBelow 0 [.int x0, .int x1] [] h R :=
  Ev.go (pc' := 1) (ls' := [.int x0, .int x1]) (st' := [.int x0]) [.iload_n 0] (by decide +kernel) rfl <|
  Ev.br (i := .ifCond .lt (12)) (P := x0 < (0 : Int32)) (t := 13) (f := 4) (r := []) (by decide +kernel) rfl (fun c1 =>
    Ev.go (pc' := 14) (ls' := [.int x0, .int x1]) (st' := [.int (0 : Int32)]) [.iconst 0] (by decide +kernel) rfl <|
    Ev.ret (r := (some (.int (0 : Int32)))) (Or.inl ⟨_, rfl, by decide +kernel, _, rfl, rfl⟩) (k1 c1)
  ) (fun c1 =>
    Ev.go (pc' := 6) (ls' := [.int x0, .int x1]) (st' := [.int x1, .int x0]) [.iload_n 0, .iload_n 1] (by decide +kernel) rfl <|
    Ev.br (i := .if_icmp .ge (7)) (P := x0 < x1) (t := 9) (f := 13) (r := []) (by decide +kernel) rfl (fun c2 =>
      Ev.go (pc' := 14) (ls' := [.int x0, .int x1]) (st' := [.int (1 : Int32)]) [.iconst 1, .goto (4)] (by decide +kernel) rfl <|
      Ev.ret (r := (some (.int (1 : Int32)))) (Or.inl ⟨_, rfl, by decide +kernel, _, rfl, rfl⟩) (k2 c1 c2)
    ) (fun c2 =>
      Ev.go (pc' := 14) (ls' := [.int x0, .int x1]) (st' := [.int (0 : Int32)]) [.iconst 0] (by decide +kernel) rfl <|
      Ev.ret (r := (some (.int (0 : Int32)))) (Or.inl ⟨_, rfl, by decide +kernel, _, rfl, rfl⟩) (k3 c1 c2)
    )
  )
theorem b_X_isUpper_0 {G : ev_G} {d k n : Nat} {h : ev_H} {R : Option Value → ev_H → Prop} {x0 : Int32}
  (k1 : x0 < (1 : Int32) → R (some (.int (0 : Int32))) h)
  (k2 : ¬ x0 < (1 : Int32) → (24 : Int32) < x0 → R (some (.int (0 : Int32))) h)
  (k3 : ¬ x0 < (1 : Int32) → ¬ (24 : Int32) < x0 → R (some (.int (1 : Int32))) h)
  : Ev G d k n M_X_isUpper 0 [.int x0] [] h R :=
  Ev.go (pc' := 2) (ls' := [.int x0]) (st' := [.int (1 : Int32), .int x0]) [.iload_n 0, .iconst 1] (by decide +kernel) rfl <|
  Ev.br (i := .if_icmp .lt (13)) (P := x0 < (1 : Int32)) (t := 15) (f := 5) (r := []) (by decide +kernel) rfl (fun c1 =>
    Ev.go (pc' := 16) (ls' := [.int x0]) (st' := [.int (0 : Int32)]) [.iconst 0] (by decide +kernel) rfl <|
    Ev.ret (r := (some (.int (0 : Int32)))) (Or.inl ⟨_, rfl, by decide +kernel, _, rfl, rfl⟩) (k1 c1)
  ) (fun c1 =>
    Ev.go (pc' := 8) (ls' := [.int x0]) (st' := [.int (24 : Int32), .int x0]) [.iload_n 0, .bipush (24)] (by decide +kernel) rfl <|
    Ev.br (i := .if_icmp .gt (7)) (P := (24 : Int32) < x0) (t := 15) (f := 11) (r := []) (by decide +kernel) rfl (fun c2 =>
      Ev.go (pc' := 16) (ls' := [.int x0]) (st' := [.int (0 : Int32)]) [.iconst 0] (by decide +kernel) rfl <|
      Ev.ret (r := (some (.int (0 : Int32)))) (Or.inl ⟨_, rfl, by decide +kernel, _, rfl, rfl⟩) (k2 c1 c2)
    ) (fun c2 =>
      Ev.go (pc' := 16) (ls' := [.int x0]) (st' := [.int (1 : Int32)]) [.iconst 1, .goto (4)] (by decide +kernel) rfl <|
      Ev.ret (r := (some (.int (1 : Int32)))) (Or.inl ⟨_, rfl, by decide +kernel, _, rfl, rfl⟩) (k3 c1 c2)
    )
  )
theorem b_X_unlike_0 {G : ev_G} {d k n : Nat} {h : ev_H} {R : Option Value → ev_H → Prop} {x0 : Int64} {x2 : Int64}
  (k1 : R (some (.int (nI (pop (x0 ^^^ x2))))) h)
  : Ev G (d + 1) k n M_X_unlike 0 [.long x0, ev_unk, .long x2, ev_unk] [] h R :=
  Ev.go (pc' := 3) (ls' := [.long x0, ev_unk, .long x2, ev_unk]) (st' := [.long (x0 ^^^ x2)]) [.lload_n 0, .lload_n 2, .lxor] (by decide +kernel) rfl <|
  Ev.cS0 (M' := M_JL_bitCount) (as := [.long (x0 ^^^ x2)]) (rest := []) l_X_286 M_JL_bitCount_ok M_JL_bitCount_st (by decide +kernel) rfl rfl (Nat.le_of_ble_eq_true rfl) (Nat.le_of_ble_eq_true rfl) (s_JL_bitCount <| show Ev G (d + 1) _ _ M_X_unlike 6 [.long x0, ev_unk, .long x2, ev_unk] [.int (nI (pop (x0 ^^^ x2)))] h R from
    Ev.ret (r := (some (.int (nI (pop (x0 ^^^ x2)))))) (Or.inl ⟨_, rfl, by decide +kernel, _, rfl, rfl⟩) k1
  )
theorem i32 : (32 : Int32) = nI 32 := rfl
theorem s_X_isIn {G : ev_G} {d : Nat} {h : ev_H} {R : Option Value → ev_H → Prop} {s i : Int32} (hR : R (some (.int (b2i (inI s i)))) h) : Ev G d 0 0 M_X_isIn 0 [.int s, .int i] [] h R := by
  refine b_X_isIn_0 (fun c => ?_) (fun c => ?_) <;> rw [isIn_eq] at c
  · rw [(b2i_0 _).mp c] at hR; exact hR
  · have : inI s i = true := by cases e : inI s i <;> simp_all [b2i]
    rw [this] at hR; exact hR
theorem s_X_bitOf {G : ev_G} {d : Nat} {h : ev_H} {R : Option Value → ev_H → Prop} {x : Int64} {i : Int32} (hR : R (some (.int (b2i (tbL x i)))) h) : Ev G d 0 0 M_X_bitOf 0 [.long x, ev_unk, .int i] [] h R :=
  b_X_bitOf_0 (by rw [bitOf_eq]; exact hR)
theorem s_X_above {G : ev_G} {d : Nat} {h : ev_H} {R : Option Value → ev_H → Prop} {i : Int32} (hR : R (some (.int ((-2 : Int32) <<< (i &&& 31)))) h) : Ev G d 0 0 M_X_above 0 [.int i] [] h R := b_X_above_0 hR
theorem s_X_isBelow {G : ev_G} {d : Nat} {h : ev_H} {R : Option Value → ev_H → Prop} {x y : Int32} (hR : R (some (.int (b2i (decide (0 ≤ x ∧ x < y))))) h) : Ev G d 0 0 M_X_isBelow 0 [.int x, .int y] [] h R := by
  refine b_X_isBelow_0 (fun c => ?_) (fun c c2 => ?_) (fun c c2 => ?_)
  · rw [decide_eq_false (fun q => absurd c (Int32.not_lt.mpr q.1))] at hR; exact hR
  · rw [decide_eq_true ⟨Int32.not_lt.mp c, c2⟩] at hR; exact hR
  · rw [decide_eq_false (fun q => c2 q.2)] at hR; exact hR
theorem s_X_unlike {G : ev_G} {d : Nat} {h : ev_H} {R : Option Value → ev_H → Prop} {x y : Int64} (hR : R (some (.int (nI (pop (x ^^^ y))))) h) : Ev G (d + 1) 0 0 M_X_unlike 0 [.long x, ev_unk, .long y, ev_unk] [] h R := b_X_unlike_0 hR
