/-! counting bits: the JDK's way, and the other way -/
theorem bit_byte {s Y d M m : Nat} (hd : d < 256) (hs : s ≤ 8) (hm : m < 2 ^ (8 - s)) : ((256 * Y + d) / 2 ^ s) &&& (256 * M + m) = 256 * ((Y / 2 ^ s) &&& M) + ((d / 2 ^ s) &&& m) := by
  have hm8 : m < 2 ^ 8 := Nat.lt_of_lt_of_le hm (Nat.pow_le_pow_right (by decide) (by omega))
  have hx : ((d / 2 ^ s) &&& m) < 2 ^ 8 := Nat.lt_of_le_of_lt Nat.and_le_right hm8
  apply Nat.eq_of_testBit_eq
  intro j
  rw [Nat.testBit_and, ← Nat.shiftRight_eq_div_pow, Nat.testBit_shiftRight, show (256 : Nat) = 2 ^ 8 from rfl, Nat.testBit_two_pow_mul_add _ hm8, Nat.testBit_two_pow_mul_add _ (show d < 2 ^ 8 from hd), Nat.testBit_two_pow_mul_add _ hx]
  by_cases hj : j < 8
  · rw [if_pos hj, if_pos hj, Nat.testBit_and, ← Nat.shiftRight_eq_div_pow, Nat.testBit_shiftRight]
    by_cases h2 : s + j < 8
    · rw [if_pos h2]
    · have : m.testBit j = false := Nat.testBit_lt_two_pow (Nat.lt_of_lt_of_le hm (Nat.pow_le_pow_right (by decide) (by omega)))
      rw [this, Bool.and_false, Bool.and_false]
  · rw [if_neg hj, if_neg hj, if_neg (by omega), Nat.testBit_and, ← Nat.shiftRight_eq_div_pow, Nat.testBit_shiftRight, show s + (j - 8) = s + j - 8 by omega]
def by8 (f : Nat → Nat) : Nat → Nat → Nat
  | 0, _ => 0
  | k + 1, n => 256 * by8 f k (n / 256) + f (n % 256)
def rep8 (m : Nat) : Nat → Nat
  | 0 => 0
  | k + 1 => 256 * rep8 m k + m
theorem by8_and {g : Nat → Nat} (s m : Nat) (hg : ∀ d, d < 256 → g d < 256) (hs : s ≤ 8) (hm : m < 2 ^ (8 - s)) : ∀ k n, (by8 g k n / 2 ^ s) &&& rep8 m k = by8 (fun d => (g d / 2 ^ s) &&& m) k n
  | 0, n => by simp [by8, rep8]
  | k + 1, n => by
    show ((256 * by8 g k (n / 256) + g (n % 256)) / 2 ^ s) &&& (256 * rep8 m k + m) = _
    rw [bit_byte (hg _ (Nat.mod_lt _ (by decide))) hs hm, by8_and s m hg hs hm k]
    rfl
theorem by8_id : ∀ k n, n < 256 ^ k → by8 (fun d => d) k n = n
  | 0, n, h => by have : n = 0 := by simpa using h
                  subst this; rfl
  | k + 1, n, h => by
    show 256 * by8 (fun d => d) k (n / 256) + n % 256 = n
    rw [by8_id k (n / 256) (Nat.div_lt_of_lt_mul (by rw [Nat.pow_succ] at h; omega))]
    omega
theorem by8_add (f g : Nat → Nat) : ∀ k n, by8 f k n + by8 g k n = by8 (fun d => f d + g d) k n
  | 0, n => rfl
  | k + 1, n => by
    show 256 * by8 f k (n / 256) + f (n % 256) + (256 * by8 g k (n / 256) + g (n % 256)) = 256 * by8 _ k (n / 256) + (f (n % 256) + g (n % 256))
    rw [← by8_add f g k]; omega
theorem by8_sub {f g : Nat → Nat} (h : ∀ d, d < 256 → g d ≤ f d) : ∀ k n, by8 g k n ≤ by8 f k n ∧ by8 f k n - by8 g k n = by8 (fun d => f d - g d) k n
  | 0, n => ⟨Nat.le_refl _, rfl⟩
  | k + 1, n => by
    obtain ⟨h1, h2⟩ := by8_sub h k (n / 256)
    have h3 := h (n % 256) (Nat.mod_lt _ (by decide))
    show 256 * by8 g k (n / 256) + g (n % 256) ≤ 256 * by8 f k (n / 256) + f (n % 256) ∧ 256 * by8 f k (n / 256) + f (n % 256) - (256 * by8 g k (n / 256) + g (n % 256)) = 256 * by8 _ k (n / 256) + (f (n % 256) - g (n % 256))
    rw [← h2]
    omega
theorem by8_cong {f g : Nat → Nat} (h : ∀ d, d < 256 → f d = g d) : ∀ k n, by8 f k n = by8 g k n
  | 0, n => rfl
  | k + 1, n => by
    show 256 * by8 f k (n / 256) + f (n % 256) = 256 * by8 g k (n / 256) + g (n % 256)
    rw [by8_cong h k, h _ (Nat.mod_lt _ (by decide))]
theorem by8_mod {g : Nat → Nat} (h : ∀ d, d < 256 → g d % 16 ≤ 4 ∧ g d < 256) : ∀ k n, by8 g k n % 16 ≤ 4
  | 0, n => by show 0 % 16 ≤ 4; decide
  | k + 1, n => by
    have := (h (n % 256) (Nat.mod_lt _ (by decide))).1
    show (256 * by8 g k (n / 256) + g (n % 256)) % 16 ≤ 4
    omega
theorem by8_nib {g : Nat → Nat} (h : ∀ d, d < 256 → g d % 16 ≤ 4 ∧ g d / 16 ≤ 4) : ∀ k n, (by8 g k n + by8 g k n / 16) &&& rep8 15 k = by8 (fun d => (g d + g d / 16) % 16) k n
  | 0, n => by simp [by8, rep8]
  | k + 1, n => by
    have h1 := h (n % 256) (Nat.mod_lt _ (by decide))
    have h2 := by8_mod (g := g) (fun d hd => ⟨(h d hd).1, by have := h d hd; omega⟩) k (n / 256)
    have ih := by8_nib h k (n / 256)
    show (256 * by8 g k (n / 256) + g (n % 256) + (256 * by8 g k (n / 256) + g (n % 256)) / 16) &&& (256 * rep8 15 k + 15) = 256 * by8 _ k (n / 256) + (g (n % 256) + g (n % 256) / 16) % 16
    generalize by8 g k (n / 256) = Y at h2 ih ⊢
    generalize g (n % 256) = b at h1 ⊢
    have e : 256 * Y + b + (256 * Y + b) / 16 = (256 * (Y + Y / 16) + (b + b / 16 + 16 * (Y % 16))) / 2 ^ 0 := by simp; omega
    rw [e, bit_byte (by omega) (by decide) (by decide), Nat.pow_zero, Nat.div_one, Nat.div_one, ih, show (15 : Nat) = 2 ^ 4 - 1 from rfl, Nat.and_two_pow_sub_one_eq_mod]
    omega
def sw1 (n M : Nat) : Nat := n - ((n / 2) &&& M)
def sw2 (n M : Nat) : Nat := (n &&& M) + ((n / 4) &&& M)
def sw3 (n M : Nat) : Nat := (n + n / 16) &&& M
def swF (d : Nat) : Nat := (sw2 (sw1 d 85) 51 + sw2 (sw1 d 85) 51 / 16) % 16
theorem swF_ok : ∀ d, d < 256 → swF d = cnt d.testBit 8 := by decide +kernel
theorem sw_by (k n : Nat) (h : n < 256 ^ k) : sw3 (sw2 (sw1 n (rep8 85 k)) (rep8 51 k)) (rep8 15 k) = by8 swF k n := by
  have e1 : sw1 n (rep8 85 k) = by8 (fun d => sw1 d 85) k n := by
    have a1 := by8_and (g := fun d => d) 1 85 (fun d hd => hd) (by decide) (by decide) k n
    rw [by8_id k n h] at a1
    have a2 := (by8_sub (f := fun d => d) (g := fun d => (d / 2 ^ 1) &&& 85) (fun d _ => Nat.le_trans Nat.and_le_left (Nat.div_le_self _ _)) k n).2
    rw [by8_id k n h, ← a1] at a2
    exact a2
  have q1 : ∀ d, d < 256 → sw1 d 85 < 256 := by decide +kernel
  have e2 : sw2 (sw1 n (rep8 85 k)) (rep8 51 k) = by8 (fun d => sw2 (sw1 d 85) 51) k n := by
    rw [e1]
    have a1 := by8_and (g := fun d => sw1 d 85) 0 51 q1 (by decide) (by decide) k n
    have a2 := by8_and (g := fun d => sw1 d 85) 2 51 q1 (by decide) (by decide) k n
    rw [Nat.pow_zero, Nat.div_one] at a1
    unfold sw2
    rw [a1, show (4 : Nat) = 2 ^ 2 from rfl, a2, by8_add]
    exact by8_cong (fun d _ => by rw [Nat.div_one]) k n
  rw [e2]
  exact by8_nib (g := fun d => sw2 (sw1 d 85) 51) (by decide +kernel) k n
theorem cnt_by8 : ∀ k n, cnt n.testBit (8 * k) = match k with
    | 0 => 0
    | k + 1 => cnt (n % 256).testBit 8 + cnt (n / 256).testBit (8 * k)
  | 0, n => rfl
  | k + 1, n => by
    show cnt n.testBit (8 * k + 8) = _
    rw [Nat.add_comm, cnt_split]
    refine congr (congrArg _ (cnt_congr fun j hj => ?_)) (cnt_congr fun j _ => ?_)
    · rw [show (256 : Nat) = 2 ^ 8 from rfl, Nat.testBit_mod_two_pow]; simp [hj]
    · rw [show (256 : Nat) = 2 ^ 8 from rfl, ← Nat.shiftRight_eq_div_pow, Nat.testBit_shiftRight]
theorem swF_le {d : Nat} : swF d < 16 := Nat.mod_lt _ (by decide)
theorem sw_i0 (A3 p0 p1 p2 : Nat) : 256 * (256 * (256 * A3 + p2) + p1) + p0 + (256 * (256 * A3 + p2) + p1) = 65536 * (256 * A3 + p2 + A3) + (256 * (p1 + p2) + (p0 + p1)) := by omega
theorem sw_i1 (A6 p2 p3 p4 p5 : Nat) : 256 * (256 * (256 * (256 * A6 + p5) + p4) + p3) + p2 + (256 * (256 * (256 * A6 + p5) + p4) + p3) = 65536 * (256 * (256 * A6 + p5) + p4 + (256 * A6 + p5)) + (256 * (p3 + p4) + (p2 + p3)) := by omega
theorem sw_i2 (X Y A6 p7 p0 p1 p2 p3 p4 p5 : Nat) (hX : X = 65536 * (256 * (256 * A6 + p5) + p4 + (256 * A6 + p5)) + (256 * (p3 + p4) + (p2 + p3))) (h6 : A6 = 256 * p7 + Y) : 65536 * X + (256 * (p1 + p2) + (p0 + p1)) + X = 4294967296 * (256 * (256 * A6 + p5) + p4 + (256 * A6 + p5) + A6 + p7) + (16777216 * (p3 + p4 + p5 + Y) + (65536 * (p2 + p3 + p4 + p5) + (256 * (p1 + p2 + p3 + p4) + (p0 + p1 + p2 + p3)))) := by
  subst hX; subst h6; omega
theorem sw_i3 (A6 p7 p0 p1 p2 p3 p4 p5 p6 : Nat) (h6 : A6 = 256 * p7 + p6) : 4294967296 * (256 * (256 * A6 + p5) + p4 + (256 * A6 + p5) + A6 + p7) + (16777216 * (p3 + p4 + p5 + p6) + (65536 * (p2 + p3 + p4 + p5) + (256 * (p1 + p2 + p3 + p4) + (p0 + p1 + p2 + p3)))) + (256 * (256 * A6 + p5) + p4 + (256 * A6 + p5) + A6 + p7) = 128 * (33554432 * (256 * (256 * A6 + p5) + p4 + (256 * A6 + p5) + A6 + p7) + (131072 * (p3 + p4 + p5 + p6) + (512 * (p2 + p3 + p4 + p5) + 2 * (p1 + p2 + p3 + p4))) + (2 * (256 * A6 + p5) + 2 * A6 + 2 * p7)) + (p0 + p1 + p2 + p3 + p4 + p5 + p6 + p7) := by
  subst h6; omega
theorem dv_lt {M Y lo : Nat} (hM : 0 < M) (h : lo < M) : (M * Y + lo) / M = Y := by rw [Nat.mul_add_div hM, Nat.div_eq_of_lt h, Nat.add_zero]
theorem sw_sum8 (p0 p1 p2 p3 p4 p5 p6 p7 A6 : Nat) (b0 : p0 ≤ 8) (b1 : p1 ≤ 8) (b2 : p2 ≤ 8) (b3 : p3 ≤ 8) (b4 : p4 ≤ 8) (b5 : p5 ≤ 8) (b6 : p6 ≤ 8) (b7 : p7 ≤ 8) (h6 : A6 = 256 * p7 + p6) (a A1 X : Nat) (ea : a = 256 * A1 + p0) (e1 : A1 = 256 * (256 * (256 * (256 * (256 * A6 + p5) + p4) + p3) + p2) + p1) (eX : X = 65536 * (256 * (256 * A6 + p5) + p4 + (256 * A6 + p5)) + (256 * (p3 + p4) + (p2 + p3))) :
    (a + a / 256 + (a + a / 256) / 65536 + (a + a / 256 + (a + a / 256) / 65536) / 4294967296) % 128 = p0 + p1 + p2 + p3 + p4 + p5 + p6 + p7 := by
  have r0 : p0 < 256 := by clear e1 eX h6 ea; omega
  have r1 : 256 * (p1 + p2) + (p0 + p1) < 65536 := by clear e1 eX h6 ea; omega
  have r2 : 16777216 * (p3 + p4 + p5 + p6) + (65536 * (p2 + p3 + p4 + p5) + (256 * (p1 + p2 + p3 + p4) + (p0 + p1 + p2 + p3))) < 4294967296 := by clear e1 eX h6 ea; omega
  have r3 : p0 + p1 + p2 + p3 + p4 + p5 + p6 + p7 < 128 := by clear e1 eX h6 ea; omega
  have h1 : a / 256 = A1 := by rw [ea]; exact dv_lt (by decide) r0
  have h2 : a + A1 = 65536 * X + (256 * (p1 + p2) + (p0 + p1)) := by
    rw [ea, e1, sw_i0, sw_i1, ← eX]
  have h3 : (a + A1) / 65536 = X := by rw [h2]; exact dv_lt (by decide) r1
  rw [h1, h3, h2, sw_i2 X p6 A6 p7 p0 p1 p2 p3 p4 p5 eX h6, dv_lt (by decide) r2, sw_i3 A6 p7 p0 p1 p2 p3 p4 p5 p6 h6, Nat.mul_add_mod]
  exact Nat.mod_eq_of_lt r3
theorem swar64 {n : Nat} (h : n < 2 ^ 64) : (let a := sw3 (sw2 (sw1 n 6148914691236517205) 3689348814741910323) 1085102592571150095
    let b := a + a / 256
    let c := b + b / 65536
    (c + c / 4294967296) % 128) = cnt n.testBit 64 := by
  have e := sw_by 8 n h
  rw [show rep8 85 8 = 6148914691236517205 from rfl, show rep8 51 8 = 3689348814741910323 from rfl, show rep8 15 8 = 1085102592571150095 from rfl] at e
  rw [e]
  show _ = cnt n.testBit (8 * 8)
  simp only [cnt_by8, by8]
  have b : ∀ m : Nat, swF (m % 256) = cnt (m % 256).testBit 8 := fun m => swF_ok _ (Nat.mod_lt _ (by decide))
  have q : ∀ m : Nat, cnt (m % 256).testBit 8 ≤ 8 := fun m => cnt_le _ _
  simp only [b]
  have q0 := q (n)
  have q1 := q (n / 256)
  have q2 := q (n / 256 / 256)
  have q3 := q (n / 256 / 256 / 256)
  have q4 := q (n / 256 / 256 / 256 / 256)
  have q5 := q (n / 256 / 256 / 256 / 256 / 256)
  have q6 := q (n / 256 / 256 / 256 / 256 / 256 / 256)
  have q7 := q (n / 256 / 256 / 256 / 256 / 256 / 256 / 256)
  generalize cnt (n % 256).testBit 8 = p0 at q0 ⊢
  generalize cnt (n / 256 % 256).testBit 8 = p1 at q1 ⊢
  generalize cnt (n / 256 / 256 % 256).testBit 8 = p2 at q2 ⊢
  generalize cnt (n / 256 / 256 / 256 % 256).testBit 8 = p3 at q3 ⊢
  generalize cnt (n / 256 / 256 / 256 / 256 % 256).testBit 8 = p4 at q4 ⊢
  generalize cnt (n / 256 / 256 / 256 / 256 / 256 % 256).testBit 8 = p5 at q5 ⊢
  generalize cnt (n / 256 / 256 / 256 / 256 / 256 / 256 % 256).testBit 8 = p6 at q6 ⊢
  generalize cnt (n / 256 / 256 / 256 / 256 / 256 / 256 / 256 % 256).testBit 8 = p7 at q7 ⊢
  clear b q e h
  have e6 : 256 * (256 * 0 + p7) + p6 = 256 * p7 + p6 := by omega
  rw [e6]
  refine (sw_sum8 p0 p1 p2 p3 p4 p5 p6 p7 _ q0 q1 q2 q3 q4 q5 q6 q7 rfl _ _ _ rfl rfl rfl).trans ?_
  omega
theorem sw_sum4 (p0 p1 p2 p3 : Nat) (b0 : p0 ≤ 8) (b1 : p1 ≤ 8) (b2 : p2 ≤ 8) (b3 : p3 ≤ 8) (a A1 : Nat) (ea : a = 256 * A1 + p0) (e1 : A1 = 256 * (256 * p3 + p2) + p1) :
    (a + a / 256 + (a + a / 256) / 65536) % 64 = p0 + p1 + p2 + p3 := by
  have r0 : p0 < 256 := by clear e1 ea; omega
  have r1 : 256 * (p1 + p2) + (p0 + p1) < 65536 := by clear e1 ea; omega
  have r3 : p0 + p1 + p2 + p3 < 64 := by clear e1 ea; omega
  have h1 : a / 256 = A1 := by rw [ea]; exact dv_lt (by decide) r0
  have h2 : a + A1 = 65536 * (256 * p3 + p2 + p3) + (256 * (p1 + p2) + (p0 + p1)) := by
    rw [ea, e1, sw_i0]
  have h3 : (a + A1) / 65536 = 256 * p3 + p2 + p3 := by rw [h2]; exact dv_lt (by decide) r1
  have h4 : 65536 * (256 * p3 + p2 + p3) + (256 * (p1 + p2) + (p0 + p1)) + (256 * p3 + p2 + p3) = 64 * (1024 * (256 * p3 + p2 + p3) + 4 * (p1 + p2) + 4 * p3) + (p0 + p1 + p2 + p3) := by clear h3 h2 h1 e1 ea r0 r1 r3; omega
  rw [h1, h3, h2, h4, Nat.mul_add_mod]
  exact Nat.mod_eq_of_lt r3
theorem swar32 {n : Nat} (h : n < 2 ^ 32) : (let a := sw3 (sw2 (sw1 n 1431655765) 858993459) 252645135
    let b := a + a / 256
    (b + b / 65536) % 64) = cnt n.testBit 32 := by
  have e := sw_by 4 n h
  rw [show rep8 85 4 = 1431655765 from rfl, show rep8 51 4 = 858993459 from rfl, show rep8 15 4 = 252645135 from rfl] at e
  rw [e]
  show _ = cnt n.testBit (8 * 4)
  simp only [cnt_by8, by8]
  have b : ∀ m : Nat, swF (m % 256) = cnt (m % 256).testBit 8 := fun m => swF_ok _ (Nat.mod_lt _ (by decide))
  have q : ∀ m : Nat, cnt (m % 256).testBit 8 ≤ 8 := fun m => cnt_le _ _
  simp only [b]
  have q0 := q (n)
  have q1 := q (n / 256)
  have q2 := q (n / 256 / 256)
  have q3 := q (n / 256 / 256 / 256)
  generalize cnt (n % 256).testBit 8 = p0 at q0 ⊢
  generalize cnt (n / 256 % 256).testBit 8 = p1 at q1 ⊢
  generalize cnt (n / 256 / 256 % 256).testBit 8 = p2 at q2 ⊢
  generalize cnt (n / 256 / 256 / 256 % 256).testBit 8 = p3 at q3 ⊢
  clear b q e h
  have e6 : 256 * (256 * 0 + p3) + p2 = 256 * p3 + p2 := by omega
  rw [e6]
  refine (sw_sum4 p0 p1 p2 p3 q0 q1 q2 q3 _ _ rfl rfl).trans ?_
  omega
/-- n without its lowest one -/
theorem cnt_low : ∀ (w n : Nat), 0 < n → n < 2 ^ w → cnt (n &&& (n - 1)).testBit w + 1 = cnt n.testBit w
  | 0, n, h0, h => by simp at h; omega
  | w + 1, n, h0, h => by
    have sp : ∀ m : Nat, cnt m.testBit (w + 1) = m % 2 + cnt (m / 2).testBit w := fun m => by
      rw [Nat.add_comm, cnt_split]
      refine congr (congrArg _ ?_) (cnt_congr fun j _ => ?_)
      · show 0 + (if m.testBit 0 then 1 else 0) = m % 2
        rw [Nat.testBit_zero]; by_cases q : m % 2 = 1 <;> simp [q]; omega
      · rw [Nat.testBit_div_two, Nat.add_comm]
    rw [sp, sp n]
    have ed : (n &&& (n - 1)) / 2 = (n / 2) &&& ((n - 1) / 2) := by
      apply Nat.eq_of_testBit_eq; intro j
      rw [Nat.testBit_div_two, Nat.testBit_and, Nat.testBit_and, Nat.testBit_div_two, Nat.testBit_div_two]
    have em : (n &&& (n - 1)) % 2 = 0 := by
      have := Nat.testBit_and n (n - 1) 0
      rw [Nat.testBit_zero, Nat.testBit_zero, Nat.testBit_zero] at this
      by_cases q : n % 2 = 1
      · have q2 : ¬ (n - 1) % 2 = 1 := by omega
        simp only [q, q2, decide_true, decide_false, Bool.and_false, decide_eq_false_iff_not] at this
        omega
      · simp only [q, decide_false, Bool.false_and, decide_eq_false_iff_not] at this
        omega
    rw [ed, em]
    by_cases q : n % 2 = 1
    · rw [show (n - 1) / 2 = n / 2 by omega, Nat.and_self]; omega
    · have := cnt_low w (n / 2) (by omega) (by rw [Nat.pow_succ] at h; omega)
      rw [show (n - 1) / 2 = n / 2 - 1 by omega]
      omega
