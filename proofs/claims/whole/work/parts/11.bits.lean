def bt (x : Int32) (i : Nat) : Bool := x.toBitVec.getLsbD i
theorem b_ext {x y : Int32} (h : ∀ i, i < 32 → bt x i = bt y i) : x = y := Int32.toBitVec_inj.mp (BitVec.eq_of_getLsbD_eq (fun i hi => h i hi))
theorem b_or (x y : Int32) (i : Nat) : bt (x ||| y) i = (bt x i || bt y i) := by unfold bt; rw [Int32.toBitVec_or, BitVec.getLsbD_or]
theorem b_and (x y : Int32) (i : Nat) : bt (x &&& y) i = (bt x i && bt y i) := by unfold bt; rw [Int32.toBitVec_and, BitVec.getLsbD_and]
theorem b_xor (x y : Int32) (i : Nat) : bt (x ^^^ y) i = (bt x i ^^ bt y i) := by unfold bt; rw [Int32.toBitVec_xor, BitVec.getLsbD_xor]
theorem b_big {x : Int32} {i : Nat} (h : 32 ≤ i) : bt x i = false := BitVec.getLsbD_of_ge _ _ h
theorem b_m1 : ∀ i, i < 32 → bt (-1) i = true := by decide +kernel
theorem b_0 (i : Nat) : bt 0 i = false := BitVec.getLsbD_zero
theorem s_l : ∀ n, n < 32 → ((nI n &&& 31).toBitVec.smod 32).toNat = n := by decide +kernel
theorem s_u : ∀ n, n < 32 → (((nI n).toUInt32 &&& Int32.toUInt32 31).toBitVec % 32).toNat = n := by decide +kernel
theorem b_shl (n : Nat) (hn : n < 32) (x : Int32) {i : Nat} (hi : i < 32) : bt (x <<< (nI n &&& 31)) i = (decide (n ≤ i) && bt x (i - n)) := by
  unfold bt
  rw [Int32.toBitVec_shiftLeft]
  show (x.toBitVec <<< ((nI n &&& 31).toBitVec.smod 32).toNat).getLsbD i = _
  rw [s_l n hn, BitVec.getLsbD_shiftLeft]
  rcases Nat.lt_or_ge i n with h | h
  · simp [h, Nat.not_le.mpr h]
  · simp [hi, h, Nat.not_lt.mpr h]
theorem b_ushr (n : Nat) (hn : n < 32) (x : Int32) (i : Nat) : bt ((x.toUInt32 >>> ((nI n).toUInt32 &&& Int32.toUInt32 31)).toInt32) i = bt x (n + i) := by
  show (x.toUInt32 >>> ((nI n).toUInt32 &&& Int32.toUInt32 31)).toBitVec.getLsbD i = x.toUInt32.toBitVec.getLsbD (n + i)
  rw [UInt32.toBitVec_shiftRight]
  show (x.toUInt32.toBitVec >>> (((nI n).toUInt32 &&& Int32.toUInt32 31).toBitVec % 32).toNat).getLsbD i = _
  rw [s_u n hn, BitVec.getLsbD_ushiftRight]
theorem b_sshr (n : Nat) (hn : n < 32) (x : Int32) {i : Nat} (hi : i < 32) : bt (x >>> (nI n &&& 31)) i = if n + i < 32 then bt x (n + i) else bt x 31 := by
  unfold bt
  rw [Int32.toBitVec_shiftRight]
  show (x.toBitVec.sshiftRight ((nI n &&& 31).toBitVec.smod 32).toNat).getLsbD i = _
  rw [s_l n hn, BitVec.getLsbD_sshiftRight, BitVec.msb_eq_getLsbD_last]
  simp [hi]
/-! longs by their bits -/
def lt (x : Int64) (i : Nat) : Bool := x.toBitVec.getLsbD i
theorem l_ext {x y : Int64} (h : ∀ i, i < 64 → lt x i = lt y i) : x = y := Int64.toBitVec_inj.mp (BitVec.eq_of_getLsbD_eq (fun i hi => h i hi))
theorem l_or (x y : Int64) (i : Nat) : lt (x ||| y) i = (lt x i || lt y i) := by unfold lt; rw [Int64.toBitVec_or, BitVec.getLsbD_or]
theorem l_and (x y : Int64) (i : Nat) : lt (x &&& y) i = (lt x i && lt y i) := by unfold lt; rw [Int64.toBitVec_and, BitVec.getLsbD_and]
theorem l_xor (x y : Int64) (i : Nat) : lt (x ^^^ y) i = (lt x i ^^ lt y i) := by unfold lt; rw [Int64.toBitVec_xor, BitVec.getLsbD_xor]
theorem l_big {x : Int64} {i : Nat} (h : 64 ≤ i) : lt x i = false := BitVec.getLsbD_of_ge _ _ h
theorem l_m1 : ∀ i, i < 64 → lt (-1) i = true := by decide +kernel
theorem l_0 (i : Nat) : lt 0 i = false := BitVec.getLsbD_zero
theorem l_sl : ∀ n, n < 64 → (((nI n).toInt64 &&& 63).toBitVec.smod 64).toNat = n := by decide +kernel
theorem l_su : ∀ n, n < 64 → (((nI n).toInt64.toUInt64 &&& Int64.toUInt64 63).toBitVec % 64).toNat = n := by decide +kernel
theorem l_shl (n : Nat) (hn : n < 64) (x : Int64) {i : Nat} (hi : i < 64) : lt (x <<< ((nI n).toInt64 &&& 63)) i = (decide (n ≤ i) && lt x (i - n)) := by
  unfold lt
  rw [Int64.toBitVec_shiftLeft]
  show (x.toBitVec <<< (((nI n).toInt64 &&& 63).toBitVec.smod 64).toNat).getLsbD i = _
  rw [l_sl n hn, BitVec.getLsbD_shiftLeft]
  rcases Nat.lt_or_ge i n with h | h
  · simp [h, Nat.not_le.mpr h]
  · simp [hi, h, Nat.not_lt.mpr h]
theorem l_ushr (n : Nat) (hn : n < 64) (x : Int64) (i : Nat) : lt ((x.toUInt64 >>> ((nI n).toInt64.toUInt64 &&& Int64.toUInt64 63)).toInt64) i = lt x (n + i) := by
  show (x.toUInt64 >>> ((nI n).toInt64.toUInt64 &&& Int64.toUInt64 63)).toBitVec.getLsbD i = x.toUInt64.toBitVec.getLsbD (n + i)
  rw [UInt64.toBitVec_shiftRight]
  show (x.toUInt64.toBitVec >>> (((nI n).toInt64.toUInt64 &&& Int64.toUInt64 63).toBitVec % 64).toNat).getLsbD i = _
  rw [l_su n hn, BitVec.getLsbD_ushiftRight]
theorem l_sshr (n : Nat) (hn : n < 64) (x : Int64) {i : Nat} (hi : i < 64) : lt (x >>> ((nI n).toInt64 &&& 63)) i = if n + i < 64 then lt x (n + i) else lt x 63 := by
  unfold lt
  rw [Int64.toBitVec_shiftRight]
  show (x.toBitVec.sshiftRight (((nI n).toInt64 &&& 63).toBitVec.smod 64).toNat).getLsbD i = _
  rw [l_sl n hn, BitVec.getLsbD_sshiftRight, BitVec.msb_eq_getLsbD_last]
  simp [hi]
theorem bit1I (j : Nat) (hj : j < 32) : bt 1 j = decide (j = 0) := (by decide +kernel : ∀ j, j < 32 → bt 1 j = decide (j = 0)) j hj
theorem bit1L (j : Nat) (hj : j < 64) : lt 1 j = decide (j = 0) := (by decide +kernel : ∀ j, j < 64 → lt 1 j = decide (j = 0)) j hj
/-! how many of the first hold -/
def cnt (p : Nat → Bool) : Nat → Nat
  | 0 => 0
  | n + 1 => cnt p n + if p n then 1 else 0
theorem cnt_le (p : Nat → Bool) : ∀ n, cnt p n ≤ n
  | 0 => Nat.le_refl _
  | n + 1 => by have := cnt_le p n; unfold cnt; split <;> omega
theorem cnt_congr {p q : Nat → Bool} : ∀ {n : Nat}, (∀ k, k < n → p k = q k) → cnt p n = cnt q n
  | 0, _ => rfl
  | n + 1, h => by unfold cnt; rw [cnt_congr (fun k hk => h k (Nat.lt_succ_of_lt hk)), h n (Nat.lt_succ_self n)]
theorem cnt_split (p : Nat → Bool) (m : Nat) : ∀ n, cnt p (m + n) = cnt p m + cnt (fun j => p (m + j)) n
  | 0 => rfl
  | n + 1 => by
    show cnt p (m + n) + (if p (m + n) then 1 else 0) = cnt p m + (cnt (fun j => p (m + j)) n + (if p (m + n) then 1 else 0))
    rw [cnt_split p m n, Nat.add_assoc]
theorem cnt_zero {p : Nat → Bool} : ∀ {n : Nat}, (∀ k, k < n → p k = false) → cnt p n = 0
  | 0, _ => rfl
  | n + 1, h => by unfold cnt; rw [cnt_zero (fun k hk => h k (Nat.lt_succ_of_lt hk)), h n (Nat.lt_succ_self n)]; rfl
theorem cnt_mono {p q : Nat → Bool} : ∀ {n : Nat}, (∀ k, k < n → p k = true → q k = true) → cnt p n ≤ cnt q n
  | 0, _ => Nat.le_refl _
  | n + 1, h => by
    have := cnt_mono (fun k hk => h k (Nat.lt_succ_of_lt hk))
    have h2 := h n (Nat.lt_succ_self n)
    unfold cnt
    by_cases hp : p n = true
    · rw [if_pos hp, if_pos (h2 hp)]; omega
    · rw [if_neg hp]; split <;> omega
def pop (x : Int64) : Nat := cnt (lt x) 64
def pop32 (x : Int32) : Nat := cnt (bt x) 32
theorem pop_le (x : Int64) : pop x ≤ 64 := cnt_le _ _
theorem pop32_le (x : Int32) : pop32 x ≤ 32 := cnt_le _ _
/-! a number whose bits are those that hold -/
def setN (p : Nat → Bool) : Nat → Nat
  | 0 => 0
  | n + 1 => setN p n + if p n then 2 ^ n else 0
theorem setN_lt (p : Nat → Bool) : ∀ n, setN p n < 2 ^ n
  | 0 => Nat.one_pos
  | n + 1 => by have := setN_lt p n; unfold setN; rw [Nat.pow_succ]; split <;> omega
theorem setN_bit (p : Nat → Bool) : ∀ (n j : Nat), (setN p n).testBit j = (decide (j < n) && p j)
  | 0, j => by simp [setN]
  | n + 1, j => by
    have h1 := setN_lt p n
    have ih := setN_bit p n
    unfold setN
    by_cases hp : p n = true
    · rw [if_pos hp, Nat.add_comm, show 2 ^ n + setN p n = 2 ^ n * 1 + setN p n by omega, Nat.testBit_two_pow_mul_add _ h1]
      by_cases hj : j < n
      · rw [if_pos hj, ih]; simp [hj, Nat.lt_succ_of_lt hj]
      · rw [if_neg hj]
        by_cases e : j = n
        · subst e; simp [hp]
        · have : 0 < j - n := by omega
          rw [show Nat.testBit 1 (j - n) = false by rw [Nat.testBit_eq_decide_div_mod_eq]; have : 2 ^ (j - n) > 1 := Nat.one_lt_two_pow (by omega); rw [Nat.div_eq_of_lt this]; rfl]
          rw [decide_eq_false (by omega), Bool.false_and]
    · rw [if_neg hp, Nat.add_zero, ih]
      by_cases hj : j < n
      · simp [hj, Nat.lt_succ_of_lt hj]
      · by_cases e : j = n
        · subst e; simp [hp]
        · rw [decide_eq_false hj, decide_eq_false (by omega)]
def setI (p : Nat → Bool) : Int32 := nI (setN p 32)
def setL (p : Nat → Bool) : Int64 := lN (setN p 32)
theorem bt_nI (n j : Nat) (h : n < 2 ^ 32) : bt (nI n) j = n.testBit j := by
  show (BitVec.ofNat 32 n).getLsbD j = _
  rw [BitVec.getLsbD_ofNat]
  by_cases hj : j < 32
  · simp [hj]
  · rw [Nat.testBit_lt_two_pow (Nat.lt_of_lt_of_le h (Nat.pow_le_pow_right (by decide) (by omega)))]; simp [hj]
theorem lt_lN (n j : Nat) (h : n < 2 ^ 64) : lt (lN n) j = n.testBit j := by
  show (BitVec.ofNat 64 n).getLsbD j = _
  rw [BitVec.getLsbD_ofNat]
  by_cases hj : j < 64
  · simp [hj]
  · rw [Nat.testBit_lt_two_pow (Nat.lt_of_lt_of_le h (Nat.pow_le_pow_right (by decide) (by omega)))]; simp [hj]
theorem bt_setI (p : Nat → Bool) (j : Nat) : bt (setI p) j = (decide (j < 32) && p j) := by rw [setI, bt_nI _ _ (setN_lt p 32), setN_bit]
theorem lt_setL (p : Nat → Bool) (j : Nat) : lt (setL p) j = (decide (j < 32) && p j) := by rw [setL, lt_lN _ _ (Nat.lt_of_lt_of_le (setN_lt p 32) (by decide)), setN_bit]
theorem setI_of (x : Int32) : x = setI (bt x) := b_ext fun i hi => by rw [bt_setI, decide_eq_true hi, Bool.true_and]
theorem setI_congr {p q : Nat → Bool} (h : ∀ j, j < 32 → p j = q j) : setI p = setI q := b_ext fun i hi => by rw [bt_setI, bt_setI, h i hi]
theorem setL_congr {p q : Nat → Bool} (h : ∀ j, j < 32 → p j = q j) : setL p = setL q := l_ext fun i _ => by
  rw [lt_setL, lt_setL]
  by_cases hi : i < 32
  · rw [h i hi]
  · rw [decide_eq_false hi, Bool.false_and, Bool.false_and]
theorem setI_and (p q : Nat → Bool) : setI p &&& setI q = setI (fun j => p j && q j) := b_ext fun i hi => by rw [b_and, bt_setI, bt_setI, bt_setI]; simp [hi]
theorem setI_or (p q : Nat → Bool) : setI p ||| setI q = setI (fun j => p j || q j) := b_ext fun i hi => by rw [b_or, bt_setI, bt_setI, bt_setI]; simp [hi]
theorem setI_not (p : Nat → Bool) : setI p ^^^ (-1) = setI (fun j => !p j) := b_ext fun i hi => by rw [b_xor, bt_setI, bt_setI, b_m1 i hi]; simp [hi]
theorem setL_or (p q : Nat → Bool) : setL p ||| setL q = setL (fun j => p j || q j) := l_ext fun i hi => by
  rw [l_or, lt_setL, lt_setL, lt_setL]
  by_cases h : i < 32 <;> simp [h]
theorem setI_one {k : Nat} (hk : k < 32) : (1 : Int32) <<< (nI k &&& 31) = setI (fun j => decide (j = k)) := b_ext fun i hi => by
  rw [b_shl k hk _ hi, bt_setI, decide_eq_true hi, Bool.true_and]
  by_cases e : i = k
  · subst e; simp; decide
  · by_cases h : k ≤ i
    · simp [e, h]
      exact (bit1I (i - k) (by omega)).trans (decide_eq_false (by omega))
    · simp [e, h]
theorem setL_one {k : Nat} (hk : k < 32) : (1 : Int64) <<< ((nI k).toInt64 &&& 63) = setL (fun j => decide (j = k)) := l_ext fun i hi => by
  rw [l_shl k (by omega) _ hi, lt_setL]
  by_cases e : i = k
  · subst e; simp [hk]; decide
  · by_cases h : k ≤ i
    · simp [e, h]
      exact (bit1L (i - k) (by omega)).trans (decide_eq_false (by omega))
    · simp [e, h]
theorem setI_0 : (0 : Int32) = setI (fun _ => false) := by decide +kernel
theorem setL_0 : (0 : Int64) = setL (fun _ => false) := by decide +kernel
theorem pop32_setI (p : Nat → Bool) : pop32 (setI p) = cnt p 32 := cnt_congr fun k hk => by rw [bt_setI, decide_eq_true hk, Bool.true_and]
theorem pop_setL (p : Nat → Bool) : pop (setL p) = cnt p 32 := by
  show cnt _ (32 + 32) = _
  rw [cnt_split, cnt_zero (p := fun j => lt (setL p) (32 + j)) (fun k _ => by rw [lt_setL, decide_eq_false (by omega), Bool.false_and])]
  exact cnt_congr fun k hk => by rw [lt_setL, decide_eq_true hk, Bool.true_and]
theorem setL_i (p : Nat → Bool) : (setL p).toInt32 = setI p := lN_i _
/-! one bit -/
def inI (s i : Int32) : Bool := bt s (i.toBitVec.toNat % 32)
def tbL (x : Int64) (i : Int32) : Bool := lt x (i.toBitVec.toNat % 64)
theorem nI_bv {n : Nat} (h : n < 2 ^ 32) : (nI n).toBitVec.toNat = n := Nat.mod_eq_of_lt h
theorem inI_n {s : Int32} {j : Nat} (h : j < 32) : inI s (nI j) = bt s j := by unfold inI; rw [nI_bv (by omega), Nat.mod_eq_of_lt h]
theorem tbL_n {x : Int64} {j : Nat} (h : j < 64) : tbL x (nI j) = lt x j := by unfold tbL; rw [nI_bv (by omega), Nat.mod_eq_of_lt h]
theorem sh_u (i : Int32) : ((i.toUInt32 &&& Int32.toUInt32 31).toBitVec % 32).toNat = i.toBitVec.toNat % 32 := by
  show ((i.toBitVec &&& 31#32) % 32#32).toNat = _
  rw [BitVec.toNat_umod, BitVec.toNat_and]
  show (i.toBitVec.toNat &&& 31) % 32 = _
  rw [show (31 : Nat) = 2 ^ 5 - 1 from rfl, Nat.and_two_pow_sub_one_eq_mod]
  omega
theorem isIn_eq (s i : Int32) : ((s.toUInt32 >>> (i.toUInt32 &&& Int32.toUInt32 31)).toInt32 &&& 1) = b2i (inI s i) := by
  apply b_ext
  intro j hj
  rw [b_and]
  have h1 : bt ((s.toUInt32 >>> (i.toUInt32 &&& Int32.toUInt32 31)).toInt32) j = bt s (i.toBitVec.toNat % 32 + j) := by
    show (s.toUInt32 >>> (i.toUInt32 &&& Int32.toUInt32 31)).toBitVec.getLsbD j = s.toUInt32.toBitVec.getLsbD _
    rw [UInt32.toBitVec_shiftRight]
    show (s.toUInt32.toBitVec >>> ((i.toUInt32 &&& Int32.toUInt32 31).toBitVec % 32).toNat).getLsbD j = _
    rw [sh_u, BitVec.getLsbD_ushiftRight]
  rw [h1]
  have h2 : bt 1 j = decide (j = 0) := (by decide +kernel : ∀ j, j < 32 → bt 1 j = decide (j = 0)) j hj
  rw [h2]
  by_cases e : j = 0
  · subst e
    simp only [Nat.add_zero, decide_true, Bool.and_true]
    show _ = bt (b2i (inI s i)) 0
    unfold inI
    generalize bt s (i.toBitVec.toNat % 32) = b
    cases b <;> decide
  · simp only [e, decide_false, Bool.and_false]
    cases inI s i
    · exact (b_0 j).symm
    · show false = bt 1 j
      rw [h2, decide_eq_false e]
theorem sh_v (i : Int32) : ((i.toInt64.toUInt64 &&& Int64.toUInt64 63).toBitVec % 64).toNat = i.toBitVec.toNat % 64 := by
  show ((i.toInt64.toBitVec &&& 63#64) % 64#64).toNat = _
  rw [BitVec.toNat_umod, BitVec.toNat_and]
  show (i.toInt64.toBitVec.toNat &&& 63) % 64 = _
  rw [show (63 : Nat) = 2 ^ 6 - 1 from rfl, Nat.and_two_pow_sub_one_eq_mod]
  have : i.toInt64.toBitVec = i.toBitVec.signExtend 64 := rfl
  rw [this, BitVec.toNat_signExtend, BitVec.toNat_setWidth]
  have := i.toBitVec.isLt
  split <;> omega
theorem b2l_lt (b : Bool) (j : Nat) (hj : j < 64) : lt (b2i b).toInt64 j = (b && decide (j = 0)) := by
  cases b
  · rw [show (b2i false).toInt64 = 0 from by decide, l_0]; rfl
  · rw [show (b2i true).toInt64 = 1 from by decide, Bool.true_and]
    exact (by decide +kernel : ∀ j, j < 64 → lt 1 j = decide (j = 0)) j hj
theorem bitOf_eqL (x : Int64) (i : Int32) : ((x.toUInt64 >>> (i.toInt64.toUInt64 &&& Int64.toUInt64 63)).toInt64 &&& 1) = (b2i (tbL x i)).toInt64 := by
  apply l_ext
  intro j hj
  rw [l_and, b2l_lt _ _ hj, bit1L j hj]
  have h1 : lt ((x.toUInt64 >>> (i.toInt64.toUInt64 &&& Int64.toUInt64 63)).toInt64) j = lt x (i.toBitVec.toNat % 64 + j) := by
    show (x.toUInt64 >>> (i.toInt64.toUInt64 &&& Int64.toUInt64 63)).toBitVec.getLsbD j = x.toUInt64.toBitVec.getLsbD _
    rw [UInt64.toBitVec_shiftRight]
    show (x.toUInt64.toBitVec >>> ((i.toInt64.toUInt64 &&& Int64.toUInt64 63).toBitVec % 64).toNat).getLsbD j = _
    rw [sh_v, BitVec.getLsbD_ushiftRight]
  rw [h1]
  by_cases e : j = 0
  · subst e; rfl
  · simp [e]
theorem b2l_i (b : Bool) : (b2i b).toInt64.toInt32 = b2i b := by cases b <;> decide
theorem bitOf_eq (x : Int64) (i : Int32) : ((x.toUInt64 >>> (i.toInt64.toUInt64 &&& Int64.toUInt64 63)).toInt64 &&& 1).toInt32 = b2i (tbL x i) := by rw [bitOf_eqL, b2l_i]
theorem sh_w (i : Int32) : ((i.toInt64 &&& 63).toBitVec.smod 64).toNat = i.toBitVec.toNat % 64 := by
  have e : (i.toInt64 &&& 63).toBitVec = BitVec.ofNat 64 (i.toBitVec.toNat % 64) := by
    apply BitVec.eq_of_toNat_eq
    have hr : (BitVec.ofNat 64 (i.toBitVec.toNat % 64)).toNat = i.toBitVec.toNat % 64 := by rw [BitVec.toNat_ofNat]; omega
    rw [hr]
    show (i.toInt64.toBitVec &&& 63#64).toNat = _
    rw [BitVec.toNat_and]
    show i.toInt64.toBitVec.toNat &&& 63 = _
    rw [show (63 : Nat) = 2 ^ 6 - 1 from rfl, Nat.and_two_pow_sub_one_eq_mod]
    have : i.toInt64.toBitVec = i.toBitVec.signExtend 64 := rfl
    rw [this, BitVec.toNat_signExtend, BitVec.toNat_setWidth]
    have := i.toBitVec.isLt
    split <;> omega
  rw [e]
  exact (by decide +kernel : ∀ n, n < 64 → ((BitVec.ofNat 64 n).smod 64).toNat = n) _ (Nat.mod_lt _ (by decide))
/-- the model's: >> and & 1 -/
theorem has_eqL (x : Int64) (i : Int32) : (x >>> (i.toInt64 &&& 63) &&& 1) = (b2i (tbL x i)).toInt64 := by
  apply l_ext
  intro j hj
  rw [l_and, b2l_lt _ _ hj, bit1L j hj]
  by_cases e : j = 0
  · subst e
    simp only [decide_true, Bool.and_true]
    unfold lt tbL
    rw [Int64.toBitVec_shiftRight]
    show (x.toBitVec.sshiftRight ((i.toInt64 &&& 63).toBitVec.smod 64).toNat).getLsbD 0 = lt x _
    rw [sh_w, BitVec.getLsbD_sshiftRight]
    have := Nat.mod_lt i.toBitVec.toNat (show 0 < 64 by decide)
    simp [this]
    rfl
  · simp [e]
