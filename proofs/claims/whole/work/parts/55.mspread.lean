/-! the model's spread -/
def kqN (S : AS) (q j : Nat) : Nat := keyN (sCo S j) (stt S q) (sBr S q)
/-- one ahead with the same key -/
def ahP (S : AS) (q i j : Nat) : Bool := anyT (fun e => ctP S e && decide (kqN S q e = kqN S q j)) i
section S55a
variable {S : AS} {q : Nat}
theorem ah_step (i j : Nat) : ahP S q (i + 1) j = (ahP S q i j || (ctP S i && decide (kqN S q i = kqN S q j))) := rfl
theorem ah_same {i j k : Nat} (h : kqN S q j = kqN S q k) : ahP S q i j = ahP S q i k := by
  induction i with
  | zero => rfl
  | succ i ih => rw [ah_step, ah_step, ih, h]
def fsP (S : AS) (q c : Nat) : Bool := ctP S c && !ahP S q c c
def szN' (S : AS) (q c n : Nat) : Nat := cnt (fun j => ctP S j && decide (kqN S q j = kqN S q c)) n
def mxS (S : AS) (q : Nat) : Nat → Nat
  | 0 => 0
  | i + 1 => if fsP S q i then max (mxS S q i) (szN' S q i (sN S)) else mxS S q i
theorem mxS_le (S : AS) (q : Nat) (h : sN S ≤ 32) : ∀ i, mxS S q i ≤ 32
  | 0 => Nat.zero_le _
  | i + 1 => by
    have ih := mxS_le S q h i
    have := cnt_le (fun j => ctP S j && decide (kqN S q j = kqN S q i)) (sN S)
    show (if fsP S q i then max (mxS S q i) (szN' S q i (sN S)) else mxS S q i) ≤ 32
    unfold szN'
    split <;> omega
theorem spr_all (hN : sN S ≤ 32) : ∀ i, i ≤ 32 → (∀ j, j < 32 → bt (sprF S q i).1 j = (ctP S j && !ahP S q i j)) ∧ (sprF S q i).2.1 = cnt (fsP S q) i ∧ (sprF S q i).2.2 = mxS S q i
  | 0, _ => ⟨fun j hj => by
    show bt (setI (ctP S)) j = (ctP S j && !false)
    rw [bt_setI, decide_eq_true hj]; simp, rfl, rfl⟩
  | i + 1, hi => by
    obtain ⟨ih1, ih2, ih3⟩ := spr_all hN i (by omega)
    have e : sprF S q (i + 1) = spr1 S q i (sprF S q i) := rfl
    have f2 : cnt (fsP S q) (i + 1) = cnt (fsP S q) i + if fsP S q i then 1 else 0 := rfl
    have f3 : mxS S q (i + 1) = if fsP S q i then max (mxS S q i) (szN' S q i (sN S)) else mxS S q i := rfl
    have bi : bt (sprF S q i).1 i = fsP S q i := ih1 i (by omega)
    have sk : ∀ j, j < 32 → skP S (bt (sprF S q i).1) i q j = (ctP S j && !ahP S q i j && decide (kqN S q j = kqN S q i)) := fun j hj => by
      unfold skP
      rw [ih1 j hj]
      cases w : ctP S j
      · simp
      · rw [decide_eq_true (ct_N w)]; rfl
    rw [e, f2, f3]
    unfold spr1
    rw [bi]
    cases w : fsP S q i
    · simp only [Bool.false_eq_true, if_false]
      refine ⟨fun j hj => ?_, ih2, ih3⟩
      rw [ih1 j hj, ah_step]
      by_cases k : kqN S q i = kqN S q j
      · rw [decide_eq_true k, Bool.and_true]
        have s := ah_same (i := i) k
        unfold fsP at w
        rw [s] at w
        cases ci : ctP S i
        · simp
        · rw [ci] at w
          have : ahP S q i j = true := by cases a : ahP S q i j; rw [a] at w; exact absurd w (by decide); rfl
          rw [this]; rfl
      · rw [decide_eq_false k, Bool.and_false, Bool.or_false]
    · simp only [if_true]
      have ci : ctP S i = true := by unfold fsP at w; rw [Bool.and_eq_true] at w; exact w.1
      have ai : ahP S q i i = false := by
        unfold fsP at w; rw [Bool.and_eq_true] at w
        cases a : ahP S q i i
        · rfl
        · rw [a] at w; exact absurd w.2 (by decide)
      refine ⟨fun j hj => ?_, by rw [ih2], ?_⟩
      · rw [b_and, setI_not, bt_setI, decide_eq_true hj, Bool.true_and, ih1 j hj, sk j hj, ah_step, ci, Bool.true_and]
        have c1 : decide (kqN S q j = kqN S q i) = decide (kqN S q i = kqN S q j) := decide_eq_decide.mpr ⟨Eq.symm, Eq.symm⟩
        rw [c1]
        cases ctP S j <;> cases ahP S q i j <;> cases decide (kqN S q i = kqN S q j) <;> rfl
      · rw [ih3]
        have : pop32 (setI (skP S (bt (sprF S q i).1) i q)) = szN' S q i (sN S) := by
          rw [pop32_setI, cnt_congr (q := fun j => ctP S j && decide (kqN S q j = kqN S q i)) fun j hj => by
            rw [sk j hj]
            by_cases k : kqN S q j = kqN S q i
            · rw [ah_same k, ai, decide_eq_true k]; simp
            · rw [decide_eq_false k]; simp]
          exact cnt_N hN fun j t => by rw [Bool.and_eq_true] at t; exact ct_N t.1
        rw [this]
end S55a
