/-! the model's spread -/
def kqN (S : AS) (q j : Nat) : Nat := keyN (sCo S j) (stt S q) (sBr S q)
/-- one ahead with the same key -/
def ahP (S : AS) (q i j : Nat) : Bool := anyT (fun e => ctP S e && decide (kqN S q e = kqN S q j)) i
section S55a
variable {S : AS} {q : Nat}
theorem ah_step (i j : Nat) : ahP S q (i + 1) j = (ahP S q i j || (ctP S i && decide (kqN S q i = kqN S q j))) := rfl
theorem ah_same {i j k : Nat} (h : kqN S q j = kqN S q k) : ahP S q i j = ahP S q i k := by
  induction i with
  | zero => rfl
  | succ i ih => rw [ah_step, ah_step, ih, h]
def fsP (S : AS) (q c : Nat) : Bool := ctP S c && !ahP S q c c
def szN' (S : AS) (q c n : Nat) : Nat := cnt (fun j => ctP S j && decide (kqN S q j = kqN S q c)) n
def mxS (S : AS) (q : Nat) : Nat → Nat
  | 0 => 0
  | i + 1 => if fsP S q i then max (mxS S q i) (szN' S q i (sN S)) else mxS S q i
theorem mxS_le (S : AS) (q : Nat) (h : sN S ≤ 32) : ∀ i, mxS S q i ≤ 32
  | 0 => Nat.zero_le _
  | i + 1 => by
    have ih := mxS_le S q h i
    have := cnt_le (fun j => ctP S j && decide (kqN S q j = kqN S q i)) (sN S)
    show (if fsP S q i then max (mxS S q i) (szN' S q i (sN S)) else mxS S q i) ≤ 32
    unfold szN'
    split <;> omega
theorem spr_all (hN : sN S ≤ 32) : ∀ i, i ≤ 32 → (∀ j, j < 32 → bt (sprF S q i).1 j = (ctP S j && !ahP S q i j)) ∧ (sprF S q i).2.1 = cnt (fsP S q) i ∧ (sprF S q i).2.2 = mxS S q i
  | 0, _ => ⟨fun j hj => by
    show bt (setI (ctP S)) j = (ctP S j && !false)
    rw [bt_setI, decide_eq_true hj]; simp, rfl, rfl⟩
  | i + 1, hi => by
    obtain ⟨ih1, ih2, ih3⟩ := spr_all hN i (by omega)
    have e : sprF S q (i + 1) = spr1 S q i (sprF S q i) := rfl
    have f2 : cnt (fsP S q) (i + 1) = cnt (fsP S q) i + if fsP S q i then 1 else 0 := rfl
    have f3 : mxS S q (i + 1) = if fsP S q i then max (mxS S q i) (szN' S q i (sN S)) else mxS S q i := rfl
    have bi : bt (sprF S q i).1 i = fsP S q i := ih1 i (by omega)
    have sk : ∀ j, j < 32 → skP S (bt (sprF S q i).1) i q j = (ctP S j && !ahP S q i j && decide (kqN S q j = kqN S q i)) := fun j hj => by
      unfold skP
      rw [ih1 j hj]
      cases w : ctP S j
      · simp
      · rw [decide_eq_true (ct_N w)]; rfl
    rw [e, f2, f3]
    unfold spr1
    rw [bi]
    cases w : fsP S q i
    · simp only [Bool.false_eq_true, if_false]
      refine ⟨fun j hj => ?_, ih2, ih3⟩
      rw [ih1 j hj, ah_step]
      by_cases k : kqN S q i = kqN S q j
      · rw [decide_eq_true k, Bool.and_true]
        have s := ah_same (i := i) k
        unfold fsP at w
        rw [s] at w
        cases ci : ctP S i
        · simp
        · rw [ci] at w
          have : ahP S q i j = true := by cases a : ahP S q i j; rw [a] at w; exact absurd w (by decide); rfl
          rw [this]; rfl
      · rw [decide_eq_false k, Bool.and_false, Bool.or_false]
    · simp only [if_true]
      have ci : ctP S i = true := by unfold fsP at w; rw [Bool.and_eq_true] at w; exact w.1
      have ai : ahP S q i i = false := by
        unfold fsP at w; rw [Bool.and_eq_true] at w
        cases a : ahP S q i i
        · rfl
        · rw [a] at w; exact absurd w.2 (by decide)
      refine ⟨fun j hj => ?_, by rw [ih2], ?_⟩
      · rw [b_and, setI_not, bt_setI, decide_eq_true hj, Bool.true_and, ih1 j hj, sk j hj, ah_step, ci, Bool.true_and]
        have c1 : decide (kqN S q j = kqN S q i) = decide (kqN S q i = kqN S q j) := decide_eq_decide.mpr ⟨Eq.symm, Eq.symm⟩
        rw [c1]
        cases ctP S j <;> cases ahP S q i j <;> cases decide (kqN S q i = kqN S q j) <;> rfl
      · rw [ih3]
        have : pop32 (setI (skP S (bt (sprF S q i).1) i q)) = szN' S q i (sN S) := by
          rw [pop32_setI, cnt_congr (q := fun j => ctP S j && decide (kqN S q j = kqN S q i)) fun j hj => by
            rw [sk j hj]
            by_cases k : kqN S q j = kqN S q i
            · rw [ah_same k, ai, decide_eq_true k]; simp
            · rw [decide_eq_false k]; simp]
          exact cnt_N hN fun j t => by rw [Bool.and_eq_true] at t; exact ct_N t.1
        rw [this]
end S55a
theorem b_Mo_spread_0 {G : ev_G} {d k n : Nat} {h : ev_H} {R : Option Value → ev_H → Prop} {x1 : Int32} {x2 : Int32} {v_1 : MG} {z_2 : MP} {S3 : AS} {v_4 : MG} {z_5 : MP}
  (pr1 : (b2i (frB x2.toInt64 (0 : Int64) (1 : Int64))) = (0 : Int32) → hat h 102 (moC v_1 z_2))
  (r2 : (b2i (frB x2.toInt64 (0 : Int64) (1 : Int64))) = (0 : Int32) → ∃ fs, hat h 102 (oC 9 fs))
  (pr3 : ¬ (b2i (frB x2.toInt64 (0 : Int64) (1 : Int64))) = (0 : Int32) → MS h S3)
  (pr4 : ¬ (b2i (frB x2.toInt64 (0 : Int64) (1 : Int64))) = (0 : Int32) → sOk S3)
  (r5 : ¬ (b2i (frB x2.toInt64 (0 : Int64) (1 : Int64))) = (0 : Int32) → ∃ fs, hat h 102 (oC 9 fs))
  (pr6 : ¬ (b2i (frB x2.toInt64 (0 : Int64) (1 : Int64))) = (0 : Int32) → (b2i (inR x1 (sP S3))) = (0 : Int32) → hat h 102 (moC v_4 z_5))
  (r7 : ¬ (b2i (frB x2.toInt64 (0 : Int64) (1 : Int64))) = (0 : Int32) → (b2i (inR x1 (sP S3))) = (0 : Int32) → ∃ fs, hat h 102 (oC 9 fs))
  (r8 : ¬ (b2i (frB x2.toInt64 (0 : Int64) (1 : Int64))) = (0 : Int32) → ¬ (b2i (inR x1 (sP S3))) = (0 : Int32) → ∃ fs, hat h 102 (oC 9 fs))
  (k1 : (b2i (frB x2.toInt64 (0 : Int64) (1 : Int64))) = (0 : Int32) → R (some (.int (-1 : Int32))) (hset h 102 (moC (stV v_1 (1 : Int32)) z_2)))
  (k2 : ¬ (b2i (frB x2.toInt64 (0 : Int64) (1 : Int64))) = (0 : Int32) → (b2i (inR x1 (sP S3))) = (0 : Int32) → R (some (.int (-1 : Int32))) (hset h 102 (moC (stV v_4 (2 : Int32)) z_5)))
  (k3 : ¬ (b2i (frB x2.toInt64 (0 : Int64) (1 : Int64))) = (0 : Int32) → ¬ (b2i (inR x1 (sP S3))) = (0 : Int32) → Ev G (d + 2) 0 0 M_Mo_counting 0 [.ref 102, ev_unk, ev_unk, ev_unk] [] h (fun r h1 => Ev G (d + 3) k n M_Mo_spread 39 [.ref 102, .int x1, .int x2, .int (0 : Int32), .int (0 : Int32), ev_unk, ev_unk, ev_unk, ev_unk, ev_unk, ev_unk] (r.toList ++ []) h1 R))
  : Ev G (d + 3) k n M_Mo_spread 0 [.ref 102, .int x1, .int x2, ev_unk, ev_unk, ev_unk, ev_unk, ev_unk, ev_unk, ev_unk, ev_unk] [] h R :=
  Ev.go (pc' := 4) (ls' := [.ref 102, .int x1, .int x2, ev_unk, ev_unk, ev_unk, ev_unk, ev_unk, ev_unk, ev_unk, ev_unk]) (st' := [.long (1 : Int64), .long (0 : Int64), .long x2.toInt64]) [.iload_n 2, .i2l, .lconst 0, .lconst 1] (by decide +kernel) rfl <|
  Ev.cS0 (M' := M_Mo_isFrom) (as := [.long x2.toInt64, .long (0 : Int64), .long (1 : Int64)]) (rest := []) l_Mo_172 M_Mo_isFrom_ok M_Mo_isFrom_st (by decide +kernel) rfl rfl (Nat.le_of_ble_eq_true rfl) (Nat.le_of_ble_eq_true rfl) (s_Mo_isFrom <| show Ev G (d + 3) _ _ M_Mo_spread 7 [.ref 102, .int x1, .int x2, ev_unk, ev_unk, ev_unk, ev_unk, ev_unk, ev_unk, ev_unk, ev_unk] [.int (b2i (frB x2.toInt64 (0 : Int64) (1 : Int64)))] h R from
    Ev.br (i := .ifCond .ne (9)) (P := (b2i (frB x2.toInt64 (0 : Int64) (1 : Int64))) = (0 : Int32)) (t := 10) (f := 16) (r := []) (by decide +kernel) rfl (fun c1 =>
      Ev.go (pc' := 12) (ls' := [.ref 102, .int x1, .int x2, ev_unk, ev_unk, ev_unk, ev_unk, ev_unk, ev_unk, ev_unk, ev_unk]) (st' := [.int (1 : Int32), .ref 102]) [.aload_n 0, .iconst 1] (by decide +kernel) rfl <|
      Ev.cV0 (M' := M_Mo_refuse) (as := [.int (1 : Int32)]) (rest := []) l_Mo_226 M_Mo_refuse_ok M_Mo_refuse_in M_Mo_refuse_se (by decide +kernel) (r2 c1) rfl rfl rfl (Nat.le_of_ble_eq_true rfl) (Nat.le_of_ble_eq_true rfl) (s_Mo_refuse (pr1 c1) <| show Ev G (d + 3) _ _ M_Mo_spread 15 [.ref 102, .int x1, .int x2, ev_unk, ev_unk, ev_unk, ev_unk, ev_unk, ev_unk, ev_unk, ev_unk] [.int (-1 : Int32)] (hset h 102 (moC (stV v_1 (1 : Int32)) z_2)) R from
        Ev.ret (r := (some (.int (-1 : Int32)))) (Or.inl ⟨_, rfl, by decide +kernel, _, rfl, rfl⟩) (k1 c1)
      )
    ) (fun c1 =>
      Ev.go (pc' := 18) (ls' := [.ref 102, .int x1, .int x2, ev_unk, ev_unk, ev_unk, ev_unk, ev_unk, ev_unk, ev_unk, ev_unk]) (st' := [.int x1, .ref 102]) [.aload_n 0, .iload_n 1] (by decide +kernel) rfl <|
      Ev.cV0 (M' := M_Mo_isPart) (as := [.int x1]) (rest := []) l_Mo_264 M_Mo_isPart_ok M_Mo_isPart_in M_Mo_isPart_se (by decide +kernel) (r5 c1) rfl rfl rfl (Nat.le_of_ble_eq_true rfl) (Nat.le_of_ble_eq_true rfl) (s_Mo_isPart (pr3 c1) (pr4 c1) <| show Ev G (d + 3) _ _ M_Mo_spread 21 [.ref 102, .int x1, .int x2, ev_unk, ev_unk, ev_unk, ev_unk, ev_unk, ev_unk, ev_unk, ev_unk] [.int (b2i (inR x1 (sP S3)))] h R from
        Ev.br (i := .ifCond .ne (9)) (P := (b2i (inR x1 (sP S3))) = (0 : Int32)) (t := 24) (f := 30) (r := []) (by decide +kernel) rfl (fun c2 =>
          Ev.go (pc' := 26) (ls' := [.ref 102, .int x1, .int x2, ev_unk, ev_unk, ev_unk, ev_unk, ev_unk, ev_unk, ev_unk, ev_unk]) (st' := [.int (2 : Int32), .ref 102]) [.aload_n 0, .iconst 2] (by decide +kernel) rfl <|
          Ev.cV0 (M' := M_Mo_refuse) (as := [.int (2 : Int32)]) (rest := []) l_Mo_226 M_Mo_refuse_ok M_Mo_refuse_in M_Mo_refuse_se (by decide +kernel) (r7 c1 c2) rfl rfl rfl (Nat.le_of_ble_eq_true rfl) (Nat.le_of_ble_eq_true rfl) (s_Mo_refuse (pr6 c1 c2) <| show Ev G (d + 3) _ _ M_Mo_spread 29 [.ref 102, .int x1, .int x2, ev_unk, ev_unk, ev_unk, ev_unk, ev_unk, ev_unk, ev_unk, ev_unk] [.int (-1 : Int32)] (hset h 102 (moC (stV v_4 (2 : Int32)) z_5)) R from
            Ev.ret (r := (some (.int (-1 : Int32)))) (Or.inl ⟨_, rfl, by decide +kernel, _, rfl, rfl⟩) (k2 c1 c2)
          )
        ) (fun c2 =>
          Ev.go (pc' := 36) (ls' := [.ref 102, .int x1, .int x2, .int (0 : Int32), .int (0 : Int32), ev_unk, ev_unk, ev_unk, ev_unk, ev_unk, ev_unk]) (st' := [.ref 102]) [.iconst 0, .istore_n 3, .iconst 0, .istore 4, .aload_n 0] (by decide +kernel) rfl <|
          Ev.cV0 (M' := M_Mo_counting) (as := []) (rest := []) l_Mo_248 M_Mo_counting_ok M_Mo_counting_in M_Mo_counting_se (by decide +kernel) (r8 c1 c2) rfl rfl rfl (Nat.le_of_ble_eq_true rfl) (Nat.le_of_ble_eq_true rfl) (k3 c1 c2)
        )
      )
    )
  )
theorem b_Mo_spread_39 {G : ev_G} {d k n : Nat} {h : ev_H} {R : Option Value → ev_H → Prop} {x1 : Int32} {x2 : Int32} {x3 : Int32} {x4 : Int32} {y0 : Int64}
  (k1 : Ev G (d + 3) k n M_Mo_spread 44 [.ref 102, .int x1, .int x2, .int x3, .int x4, .long y0, ev_unk, .int (0 : Int32), ev_unk, ev_unk, ev_unk] [] h R)
  : Ev G (d + 3) k n M_Mo_spread 39 [.ref 102, .int x1, .int x2, .int x3, .int x4, ev_unk, ev_unk, ev_unk, ev_unk, ev_unk, ev_unk] [.long y0] h R :=
  Ev.go (pc' := 44) (ls' := [.ref 102, .int x1, .int x2, .int x3, .int x4, .long y0, ev_unk, .int (0 : Int32), ev_unk, ev_unk, ev_unk]) (st' := []) [.lstore 5, .iconst 0, .istore 7] (by decide +kernel) rfl <|
  k1
theorem b_Mo_spread_44 {G : ev_G} {d k n : Nat} {h : ev_H} {R : Option Value → ev_H → Prop} {x1 : Int32} {x2 : Int32} {x3 : Int32} {x4 : Int32} {x5 : Int64} {x7 : Int32} {S1 : AS} {v_2 : MG} {z_3 : MP} {v_4 : MG} {z_5 : MP}
  (pr1 : MS h S1)
  (r2 : ∃ fs, hat h 102 (oC 9 fs))
  (pr3 : ¬ x7 < (nI (sN S1)) → x2 = (0 : Int32) → hat h 102 (moC v_2 z_3))
  (r4 : ¬ x7 < (nI (sN S1)) → x2 = (0 : Int32) → ∃ fs, hat h 102 (oC 9 fs))
  (pr5 : ¬ x7 < (nI (sN S1)) → ¬ x2 = (0 : Int32) → hat h 102 (moC v_4 z_5))
  (r6 : ¬ x7 < (nI (sN S1)) → ¬ x2 = (0 : Int32) → ∃ fs, hat h 102 (oC 9 fs))
  (k1 : x7 < (nI (sN S1)) → Ev G (d + 3) k n M_Mo_spread 68 [.ref 102, .int x1, .int x2, .int x3, .int x4, .long x5, ev_unk, .int x7, .int (0 : Int32), .int (b2i (tbL x5 x7)), .int (0 : Int32)] [] h R)
  (k2 : ¬ x7 < (nI (sN S1)) → x2 = (0 : Int32) → R (some (.int x3)) (hset h 102 (moC (stV v_2 0) z_3)))
  (k3 : ¬ x7 < (nI (sN S1)) → ¬ x2 = (0 : Int32) → R (some (.int x4)) (hset h 102 (moC (stV v_4 0) z_5)))
  : Ev G (d + 3) k n M_Mo_spread 44 [.ref 102, .int x1, .int x2, .int x3, .int x4, .long x5, ev_unk, .int x7, ev_unk, ev_unk, ev_unk] [] h R :=
  Ev.go (pc' := 47) (ls' := [.ref 102, .int x1, .int x2, .int x3, .int x4, .long x5, ev_unk, .int x7, ev_unk, ev_unk, ev_unk]) (st' := [.ref 102, .int x7]) [.iload 7, .aload_n 0] (by decide +kernel) rfl <|
  Ev.cV0 (M' := M_Mo_many_0) (as := []) (rest := [.int x7]) l_Mo_71 M_Mo_many_0_ok M_Mo_many_0_in M_Mo_many_0_se (by decide +kernel) r2 rfl rfl rfl (Nat.le_of_ble_eq_true rfl) (Nat.le_of_ble_eq_true rfl) (s_Mo_many_0 pr1 <| show Ev G (d + 3) _ _ M_Mo_spread 50 [.ref 102, .int x1, .int x2, .int x3, .int x4, .long x5, ev_unk, .int x7, ev_unk, ev_unk, ev_unk] [.int (nI (sN S1)), .int x7] h R from
    Ev.br (i := .if_icmp .ge (132)) (P := x7 < (nI (sN S1))) (t := 53) (f := 182) (r := []) (by decide +kernel) rfl (fun c1 =>
      Ev.go (pc' := 60) (ls' := [.ref 102, .int x1, .int x2, .int x3, .int x4, .long x5, ev_unk, .int x7, .int (0 : Int32), ev_unk, ev_unk]) (st' := [.int x7, .long x5]) [.iconst 0, .istore 8, .lload 5, .iload 7] (by decide +kernel) rfl <|
      Ev.cS0 (M' := M_Mo_has) (as := [.long x5, .int x7]) (rest := []) l_Mo_271 M_Mo_has_ok M_Mo_has_st (by decide +kernel) rfl rfl (Nat.le_of_ble_eq_true rfl) (Nat.le_of_ble_eq_true rfl) (s_Mo_has <| show Ev G (d + 3) _ _ M_Mo_spread 63 [.ref 102, .int x1, .int x2, .int x3, .int x4, .long x5, ev_unk, .int x7, .int (0 : Int32), ev_unk, ev_unk] [.int (b2i (tbL x5 x7))] h R from
        Ev.go (pc' := 68) (ls' := [.ref 102, .int x1, .int x2, .int x3, .int x4, .long x5, ev_unk, .int x7, .int (0 : Int32), .int (b2i (tbL x5 x7)), .int (0 : Int32)]) (st' := []) [.istore 9, .iconst 0, .istore 10] (by decide +kernel) rfl <|
        (k1 c1)
      )
    ) (fun c1 =>
      Ev.go (pc' := 184) (ls' := [.ref 102, .int x1, .int x2, .int x3, .int x4, .long x5, ev_unk, .int x7, ev_unk, ev_unk, ev_unk]) (st' := [.int x2, .ref 102]) [.aload_n 0, .iload_n 2] (by decide +kernel) rfl <|
      Ev.br (i := .ifCond .ne (7)) (P := x2 = (0 : Int32)) (t := 187) (f := 191) (r := [.ref 102]) (by decide +kernel) rfl (fun c2 =>
        Ev.go (pc' := 193) (ls' := [.ref 102, .int x1, .int x2, .int x3, .int x4, .long x5, ev_unk, .int x7, ev_unk, ev_unk, ev_unk]) (st' := [.int x3, .ref 102]) [.iload_n 3, .goto (5)] (by decide +kernel) rfl <|
        Ev.cV0 (M' := M_Mo_gives_I) (as := [.int x3]) (rest := []) l_Mo_245 M_Mo_gives_I_ok M_Mo_gives_I_in M_Mo_gives_I_se (by decide +kernel) (r4 c1 c2) rfl rfl rfl (Nat.le_of_ble_eq_true rfl) (Nat.le_of_ble_eq_true rfl) (s_Mo_gives_I (pr3 c1 c2) <| show Ev G (d + 3) _ _ M_Mo_spread 196 [.ref 102, .int x1, .int x2, .int x3, .int x4, .long x5, ev_unk, .int x7, ev_unk, ev_unk, ev_unk] [.int x3] (hset h 102 (moC (stV v_2 0) z_3)) R from
          Ev.ret (r := (some (.int x3))) (Or.inl ⟨_, rfl, by decide +kernel, _, rfl, rfl⟩) (k2 c1 c2)
        )
      ) (fun c2 =>
        Ev.go (pc' := 193) (ls' := [.ref 102, .int x1, .int x2, .int x3, .int x4, .long x5, ev_unk, .int x7, ev_unk, ev_unk, ev_unk]) (st' := [.int x4, .ref 102]) [.iload 4] (by decide +kernel) rfl <|
        Ev.cV0 (M' := M_Mo_gives_I) (as := [.int x4]) (rest := []) l_Mo_245 M_Mo_gives_I_ok M_Mo_gives_I_in M_Mo_gives_I_se (by decide +kernel) (r6 c1 c2) rfl rfl rfl (Nat.le_of_ble_eq_true rfl) (Nat.le_of_ble_eq_true rfl) (s_Mo_gives_I (pr5 c1 c2) <| show Ev G (d + 3) _ _ M_Mo_spread 196 [.ref 102, .int x1, .int x2, .int x3, .int x4, .long x5, ev_unk, .int x7, ev_unk, ev_unk, ev_unk] [.int x4] (hset h 102 (moC (stV v_4 0) z_5)) R from
          Ev.ret (r := (some (.int x4))) (Or.inl ⟨_, rfl, by decide +kernel, _, rfl, rfl⟩) (k3 c1 c2)
        )
      )
    )
  )
theorem b_Mo_spread_68 {G : ev_G} {d k n : Nat} {h : ev_H} {R : Option Value → ev_H → Prop} {x1 : Int32} {x2 : Int32} {x3 : Int32} {x4 : Int32} {x5 : Int64} {x7 : Int32} {x8 : Int32} {x9 : Int32} {x10 : Int32} {S1 : AS} {S2 : AS} {c_3 : Nat} {S4 : AS} {p_5 : Nat} {S6 : AS} {c_7 : Nat} {S8 : AS} {p_9 : Nat}
  (pr1 : MS h S1)
  (r2 : ∃ fs, hat h 102 (oC 9 fs))
  (pr3 : x10 < (nI (sN S1)) → ¬ (b2i (tbL x5 x10)) = (0 : Int32) → MS h S2)
  (pr4 : x10 < (nI (sN S1)) → ¬ (b2i (tbL x5 x10)) = (0 : Int32) → sOk S2)
  (pr5 : x10 < (nI (sN S1)) → ¬ (b2i (tbL x5 x10)) = (0 : Int32) → x7 = nI c_3 ∧ c_3 < sN S2)
  (r6 : x10 < (nI (sN S1)) → ¬ (b2i (tbL x5 x10)) = (0 : Int32) → ∃ fs, hat h 102 (oC 9 fs))
  (pr7 : x10 < (nI (sN S1)) → ¬ (b2i (tbL x5 x10)) = (0 : Int32) → MS h S4)
  (pr8 : x10 < (nI (sN S1)) → ¬ (b2i (tbL x5 x10)) = (0 : Int32) → sOk S4)
  (pr9 : x10 < (nI (sN S1)) → ¬ (b2i (tbL x5 x10)) = (0 : Int32) → x1 = nI p_5 ∧ p_5 < sP S4)
  (pr10 : x10 < (nI (sN S1)) → ¬ (b2i (tbL x5 x10)) = (0 : Int32) → MS h S6)
  (pr11 : x10 < (nI (sN S1)) → ¬ (b2i (tbL x5 x10)) = (0 : Int32) → sOk S6)
  (pr12 : x10 < (nI (sN S1)) → ¬ (b2i (tbL x5 x10)) = (0 : Int32) → x10 = nI c_7 ∧ c_7 < sN S6)
  (pr13 : x10 < (nI (sN S1)) → ¬ (b2i (tbL x5 x10)) = (0 : Int32) → MS h S8)
  (pr14 : x10 < (nI (sN S1)) → ¬ (b2i (tbL x5 x10)) = (0 : Int32) → sOk S8)
  (pr15 : x10 < (nI (sN S1)) → ¬ (b2i (tbL x5 x10)) = (0 : Int32) → x1 = nI p_9 ∧ p_9 < sP S8)
  (k1 : x10 < (nI (sN S1)) → (b2i (tbL x5 x10)) = (0 : Int32) → Ev G (d + 3) k n M_Mo_spread 68 [.ref 102, .int x1, .int x2, .int x3, .int x4, .long x5, ev_unk, .int x7, .int x8, .int x9, .int (x10 + (1 : Int32))] [] h R)
  (k2 : x10 < (nI (sN S1)) → ¬ (b2i (tbL x5 x10)) = (0 : Int32) → (lN (keyN (sCo S2 c_3) (stt S4 p_5) (sBr S4 p_5))) = (lN (keyN (sCo S6 c_7) (stt S8 p_9) (sBr S8 p_9))) → x9 = (0 : Int32) → Ev G (d + 3) k n M_Mo_spread 68 [.ref 102, .int x1, .int x2, .int x3, .int x4, .long x5, ev_unk, .int x7, .int (x8 + (1 : Int32)), .int (0 : Int32), .int (x10 + (1 : Int32))] [] h R)
  (k3 : x10 < (nI (sN S1)) → ¬ (b2i (tbL x5 x10)) = (0 : Int32) → (lN (keyN (sCo S2 c_3) (stt S4 p_5) (sBr S4 p_5))) = (lN (keyN (sCo S6 c_7) (stt S8 p_9) (sBr S8 p_9))) → ¬ x9 = (0 : Int32) → x10 < x7 → Ev G (d + 3) k n M_Mo_spread 68 [.ref 102, .int x1, .int x2, .int x3, .int x4, .long x5, ev_unk, .int x7, .int (x8 + (1 : Int32)), .int (0 : Int32), .int (x10 + (1 : Int32))] [] h R)
  (k4 : x10 < (nI (sN S1)) → ¬ (b2i (tbL x5 x10)) = (0 : Int32) → (lN (keyN (sCo S2 c_3) (stt S4 p_5) (sBr S4 p_5))) = (lN (keyN (sCo S6 c_7) (stt S8 p_9) (sBr S8 p_9))) → ¬ x9 = (0 : Int32) → ¬ x10 < x7 → Ev G (d + 3) k n M_Mo_spread 68 [.ref 102, .int x1, .int x2, .int x3, .int x4, .long x5, ev_unk, .int x7, .int (x8 + (1 : Int32)), .int (1 : Int32), .int (x10 + (1 : Int32))] [] h R)
  (k5 : x10 < (nI (sN S1)) → ¬ (b2i (tbL x5 x10)) = (0 : Int32) → ¬ (lN (keyN (sCo S2 c_3) (stt S4 p_5) (sBr S4 p_5))) = (lN (keyN (sCo S6 c_7) (stt S8 p_9) (sBr S8 p_9))) → Ev G (d + 3) k n M_Mo_spread 68 [.ref 102, .int x1, .int x2, .int x3, .int x4, .long x5, ev_unk, .int x7, .int x8, .int x9, .int (x10 + (1 : Int32))] [] h R)
  (k6 : ¬ x10 < (nI (sN S1)) → x9 = (0 : Int32) → x9 = (0 : Int32) → Ev G (d + 3) k n M_Mo_spread 44 [.ref 102, .int x1, .int x2, .int (x3 + (0 : Int32)), .int x4, .long x5, ev_unk, .int (x7 + (1 : Int32)), ev_unk, ev_unk, ev_unk] [] h R)
  (k7 : ¬ x10 < (nI (sN S1)) → x9 = (0 : Int32) → ¬ x9 = (0 : Int32) → Ev G (d + 3) k n M_Mo_spread 44 [.ref 102, .int x1, .int x2, .int (x3 + (0 : Int32)), .int (if x4 < x8 then x8 else x4), .long x5, ev_unk, .int (x7 + (1 : Int32)), ev_unk, ev_unk, ev_unk] [] h R)
  (k8 : ¬ x10 < (nI (sN S1)) → ¬ x9 = (0 : Int32) → x9 = (0 : Int32) → Ev G (d + 3) k n M_Mo_spread 44 [.ref 102, .int x1, .int x2, .int (x3 + (1 : Int32)), .int x4, .long x5, ev_unk, .int (x7 + (1 : Int32)), ev_unk, ev_unk, ev_unk] [] h R)
  (k9 : ¬ x10 < (nI (sN S1)) → ¬ x9 = (0 : Int32) → ¬ x9 = (0 : Int32) → Ev G (d + 3) k n M_Mo_spread 44 [.ref 102, .int x1, .int x2, .int (x3 + (1 : Int32)), .int (if x4 < x8 then x8 else x4), .long x5, ev_unk, .int (x7 + (1 : Int32)), ev_unk, ev_unk, ev_unk] [] h R)
  : Ev G (d + 3) k n M_Mo_spread 68 [.ref 102, .int x1, .int x2, .int x3, .int x4, .long x5, ev_unk, .int x7, .int x8, .int x9, .int x10] [] h R :=
  Ev.go (pc' := 71) (ls' := [.ref 102, .int x1, .int x2, .int x3, .int x4, .long x5, ev_unk, .int x7, .int x8, .int x9, .int x10]) (st' := [.ref 102, .int x10]) [.iload 10, .aload_n 0] (by decide +kernel) rfl <|
  Ev.cV0 (M' := M_Mo_many_0) (as := []) (rest := [.int x10]) l_Mo_71 M_Mo_many_0_ok M_Mo_many_0_in M_Mo_many_0_se (by decide +kernel) r2 rfl rfl rfl (Nat.le_of_ble_eq_true rfl) (Nat.le_of_ble_eq_true rfl) (s_Mo_many_0 pr1 <| show Ev G (d + 3) _ _ M_Mo_spread 74 [.ref 102, .int x1, .int x2, .int x3, .int x4, .long x5, ev_unk, .int x7, .int x8, .int x9, .int x10] [.int (nI (sN S1)), .int x10] h R from
    Ev.br (i := .if_icmp .ge (70)) (P := x10 < (nI (sN S1))) (t := 77) (f := 144) (r := []) (by decide +kernel) rfl (fun c1 =>
      Ev.go (pc' := 81) (ls' := [.ref 102, .int x1, .int x2, .int x3, .int x4, .long x5, ev_unk, .int x7, .int x8, .int x9, .int x10]) (st' := [.int x10, .long x5]) [.lload 5, .iload 10] (by decide +kernel) rfl <|
      Ev.cS0 (M' := M_Mo_has) (as := [.long x5, .int x10]) (rest := []) l_Mo_271 M_Mo_has_ok M_Mo_has_st (by decide +kernel) rfl rfl (Nat.le_of_ble_eq_true rfl) (Nat.le_of_ble_eq_true rfl) (s_Mo_has <| show Ev G (d + 3) _ _ M_Mo_spread 84 [.ref 102, .int x1, .int x2, .int x3, .int x4, .long x5, ev_unk, .int x7, .int x8, .int x9, .int x10] [.int (b2i (tbL x5 x10))] h R from
        Ev.br (i := .ifCond .eq (54)) (P := (b2i (tbL x5 x10)) = (0 : Int32)) (t := 138) (f := 87) (r := []) (by decide +kernel) rfl (fun c2 =>
          Ev.go (pc' := 68) (ls' := [.ref 102, .int x1, .int x2, .int x3, .int x4, .long x5, ev_unk, .int x7, .int x8, .int x9, .int (x10 + (1 : Int32))]) (st' := []) [.iinc 10 (1), .goto (-73)] (by decide +kernel) rfl <|
          (k1 c1 c2)
        ) (fun c2 =>
          Ev.go (pc' := 91) (ls' := [.ref 102, .int x1, .int x2, .int x3, .int x4, .long x5, ev_unk, .int x7, .int x8, .int x9, .int x10]) (st' := [.int x7, .ref 102, .ref 102]) [.aload_n 0, .aload_n 0, .iload 7] (by decide +kernel) rfl <|
          Ev.cV0 (M' := M_Mo_codeOf) (as := [.int x7]) (rest := [.ref 102]) l_Mo_85 M_Mo_codeOf_ok M_Mo_codeOf_in M_Mo_codeOf_se (by decide +kernel) (r6 c1 c2) rfl rfl rfl (Nat.le_of_ble_eq_true rfl) (Nat.le_of_ble_eq_true rfl) (s_Mo_codeOf (pr3 c1 c2) (pr4 c1 c2) (pr5 c1 c2) <| show Ev G (d + 3) _ _ M_Mo_spread 94 [.ref 102, .int x1, .int x2, .int x3, .int x4, .long x5, ev_unk, .int x7, .int x8, .int x9, .int x10] [.long (sCo S2 c_3), .ref 102] h R from
            Ev.go (pc' := 95) (ls' := [.ref 102, .int x1, .int x2, .int x3, .int x4, .long x5, ev_unk, .int x7, .int x8, .int x9, .int x10]) (st' := [.int x1, .long (sCo S2 c_3), .ref 102]) [.iload_n 1] (by decide +kernel) rfl <|
            Ev.cV0 (M' := M_Mo_keyOf) (as := [.long (sCo S2 c_3), .int x1]) (rest := []) l_Mo_92 M_Mo_keyOf_ok M_Mo_keyOf_in M_Mo_keyOf_se (by decide +kernel) (r6 c1 c2) rfl rfl rfl (Nat.le_of_ble_eq_true rfl) (Nat.le_of_ble_eq_true rfl) (s_Mo_keyOf (pr7 c1 c2) (pr8 c1 c2) (pr9 c1 c2) <| show Ev G (d + 3) _ _ M_Mo_spread 98 [.ref 102, .int x1, .int x2, .int x3, .int x4, .long x5, ev_unk, .int x7, .int x8, .int x9, .int x10] [.long (lN (keyN (sCo S2 c_3) (stt S4 p_5) (sBr S4 p_5)))] h R from
              Ev.go (pc' := 102) (ls' := [.ref 102, .int x1, .int x2, .int x3, .int x4, .long x5, ev_unk, .int x7, .int x8, .int x9, .int x10]) (st' := [.int x10, .ref 102, .ref 102, .long (lN (keyN (sCo S2 c_3) (stt S4 p_5) (sBr S4 p_5)))]) [.aload_n 0, .aload_n 0, .iload 10] (by decide +kernel) rfl <|
              Ev.cV0 (M' := M_Mo_codeOf) (as := [.int x10]) (rest := [.ref 102, .long (lN (keyN (sCo S2 c_3) (stt S4 p_5) (sBr S4 p_5)))]) l_Mo_85 M_Mo_codeOf_ok M_Mo_codeOf_in M_Mo_codeOf_se (by decide +kernel) (r6 c1 c2) rfl rfl rfl (Nat.le_of_ble_eq_true rfl) (Nat.le_of_ble_eq_true rfl) (s_Mo_codeOf (pr10 c1 c2) (pr11 c1 c2) (pr12 c1 c2) <| show Ev G (d + 3) _ _ M_Mo_spread 105 [.ref 102, .int x1, .int x2, .int x3, .int x4, .long x5, ev_unk, .int x7, .int x8, .int x9, .int x10] [.long (sCo S6 c_7), .ref 102, .long (lN (keyN (sCo S2 c_3) (stt S4 p_5) (sBr S4 p_5)))] h R from
                Ev.go (pc' := 106) (ls' := [.ref 102, .int x1, .int x2, .int x3, .int x4, .long x5, ev_unk, .int x7, .int x8, .int x9, .int x10]) (st' := [.int x1, .long (sCo S6 c_7), .ref 102, .long (lN (keyN (sCo S2 c_3) (stt S4 p_5) (sBr S4 p_5)))]) [.iload_n 1] (by decide +kernel) rfl <|
                Ev.cV0 (M' := M_Mo_keyOf) (as := [.long (sCo S6 c_7), .int x1]) (rest := [.long (lN (keyN (sCo S2 c_3) (stt S4 p_5) (sBr S4 p_5)))]) l_Mo_92 M_Mo_keyOf_ok M_Mo_keyOf_in M_Mo_keyOf_se (by decide +kernel) (r6 c1 c2) rfl rfl rfl (Nat.le_of_ble_eq_true rfl) (Nat.le_of_ble_eq_true rfl) (s_Mo_keyOf (pr13 c1 c2) (pr14 c1 c2) (pr15 c1 c2) <| show Ev G (d + 3) _ _ M_Mo_spread 109 [.ref 102, .int x1, .int x2, .int x3, .int x4, .long x5, ev_unk, .int x7, .int x8, .int x9, .int x10] [.long (lN (keyN (sCo S6 c_7) (stt S8 p_9) (sBr S8 p_9))), .long (lN (keyN (sCo S2 c_3) (stt S4 p_5) (sBr S4 p_5)))] h R from
                  Ev.brl (c := .eq) (o := 6) (P := (lN (keyN (sCo S2 c_3) (stt S4 p_5) (sBr S4 p_5))) = (lN (keyN (sCo S6 c_7) (stt S8 p_9) (sBr S8 p_9)))) (t := 116) (f := 113) (t1 := 116) (by decide +kernel) (by decide +kernel) rfl rfl (fun c3 =>
                    Ev.go (pc' := 121) (ls' := [.ref 102, .int x1, .int x2, .int x3, .int x4, .long x5, ev_unk, .int x7, .int (x8 + (1 : Int32)), .int x9, .int x10]) (st' := [.int x9]) [.iinc 8 (1), .iload 9] (by decide +kernel) rfl <|
                    Ev.br (i := .ifCond .eq (14)) (P := x9 = (0 : Int32)) (t := 135) (f := 124) (r := []) (by decide +kernel) rfl (fun c4 =>
                      Ev.go (pc' := 68) (ls' := [.ref 102, .int x1, .int x2, .int x3, .int x4, .long x5, ev_unk, .int x7, .int (x8 + (1 : Int32)), .int (0 : Int32), .int (x10 + (1 : Int32))]) (st' := []) [.iconst 0, .istore 9, .iinc 10 (1), .goto (-73)] (by decide +kernel) rfl <|
                      (k2 c1 c2 c3 c4)
                    ) (fun c4 =>
                      Ev.go (pc' := 128) (ls' := [.ref 102, .int x1, .int x2, .int x3, .int x4, .long x5, ev_unk, .int x7, .int (x8 + (1 : Int32)), .int x9, .int x10]) (st' := [.int x7, .int x10]) [.iload 10, .iload 7] (by decide +kernel) rfl <|
                      Ev.br (i := .if_icmp .lt (7)) (P := x10 < x7) (t := 135) (f := 131) (r := []) (by decide +kernel) rfl (fun c5 =>
                        Ev.go (pc' := 68) (ls' := [.ref 102, .int x1, .int x2, .int x3, .int x4, .long x5, ev_unk, .int x7, .int (x8 + (1 : Int32)), .int (0 : Int32), .int (x10 + (1 : Int32))]) (st' := []) [.iconst 0, .istore 9, .iinc 10 (1), .goto (-73)] (by decide +kernel) rfl <|
                        (k3 c1 c2 c3 c4 c5)
                      ) (fun c5 =>
                        Ev.go (pc' := 68) (ls' := [.ref 102, .int x1, .int x2, .int x3, .int x4, .long x5, ev_unk, .int x7, .int (x8 + (1 : Int32)), .int (1 : Int32), .int (x10 + (1 : Int32))]) (st' := []) [.iconst 1, .goto (4), .istore 9, .iinc 10 (1), .goto (-73)] (by decide +kernel) rfl <|
                        (k4 c1 c2 c3 c4 c5)
                      )
                    )
                  ) (fun c3 =>
                    Ev.go (pc' := 68) (ls' := [.ref 102, .int x1, .int x2, .int x3, .int x4, .long x5, ev_unk, .int x7, .int x8, .int x9, .int (x10 + (1 : Int32))]) (st' := []) [.goto (25), .iinc 10 (1), .goto (-73)] (by decide +kernel) rfl <|
                    (k5 c1 c2 c3)
                  )
                )
              )
            )
          )
        )
      )
    ) (fun c1 =>
      Ev.go (pc' := 147) (ls' := [.ref 102, .int x1, .int x2, .int x3, .int x4, .long x5, ev_unk, .int x7, .int x8, .int x9, .int x10]) (st' := [.int x9, .int x3]) [.iload_n 3, .iload 9] (by decide +kernel) rfl <|
      Ev.br (i := .ifCond .eq (7)) (P := x9 = (0 : Int32)) (t := 154) (f := 150) (r := [.int x3]) (by decide +kernel) rfl (fun c2 =>
        Ev.go (pc' := 159) (ls' := [.ref 102, .int x1, .int x2, .int (x3 + (0 : Int32)), .int x4, .long x5, ev_unk, .int x7, .int x8, .int x9, .int x10]) (st' := [.int x9]) [.iconst 0, .iadd, .istore_n 3, .iload 9] (by decide +kernel) rfl <|
        Ev.br (i := .ifCond .eq (13)) (P := x9 = (0 : Int32)) (t := 172) (f := 162) (r := []) (by decide +kernel) rfl (fun c3 =>
          Ev.go (pc' := 44) (ls' := [.ref 102, .int x1, .int x2, .int (x3 + (0 : Int32)), .int x4, .long x5, ev_unk, .int (x7 + (1 : Int32)), .int x8, .int x9, .int x10]) (st' := []) [.iload 4, .istore 4, .iinc 7 (1), .goto (-135)] (by decide +kernel) rfl <|
          Ev.forget (ls' := [.ref 102, .int x1, .int x2, .int (x3 + (0 : Int32)), .int x4, .long x5, ev_unk, .int (x7 + (1 : Int32)), ev_unk, ev_unk, ev_unk]) ⟨Or.inr rfl, Or.inr rfl, Or.inr rfl, Or.inr rfl, Or.inr rfl, Or.inr rfl, Or.inr rfl, Or.inr rfl, Or.inl rfl, Or.inl rfl, Or.inl rfl, trivial⟩ <|
          (k6 c1 c2 c3)
        ) (fun c3 =>
          Ev.go (pc' := 166) (ls' := [.ref 102, .int x1, .int x2, .int (x3 + (0 : Int32)), .int x4, .long x5, ev_unk, .int x7, .int x8, .int x9, .int x10]) (st' := [.int x8, .int x4]) [.iload 4, .iload 8] (by decide +kernel) rfl <|
          Ev.mmax lL_Mo_275 w_maxS w_mathI w_maxC (Nat.le_of_ble_eq_true rfl) (by decide +kernel) <|
          Ev.go (pc' := 44) (ls' := [.ref 102, .int x1, .int x2, .int (x3 + (0 : Int32)), .int (if x4 < x8 then x8 else x4), .long x5, ev_unk, .int (x7 + (1 : Int32)), .int x8, .int x9, .int x10]) (st' := []) [.goto (5), .istore 4, .iinc 7 (1), .goto (-135)] (by decide +kernel) rfl <|
          Ev.forget (ls' := [.ref 102, .int x1, .int x2, .int (x3 + (0 : Int32)), .int (if x4 < x8 then x8 else x4), .long x5, ev_unk, .int (x7 + (1 : Int32)), ev_unk, ev_unk, ev_unk]) ⟨Or.inr rfl, Or.inr rfl, Or.inr rfl, Or.inr rfl, Or.inr rfl, Or.inr rfl, Or.inr rfl, Or.inr rfl, Or.inl rfl, Or.inl rfl, Or.inl rfl, trivial⟩ <|
          (k7 c1 c2 c3)
        )
      ) (fun c2 =>
        Ev.go (pc' := 159) (ls' := [.ref 102, .int x1, .int x2, .int (x3 + (1 : Int32)), .int x4, .long x5, ev_unk, .int x7, .int x8, .int x9, .int x10]) (st' := [.int x9]) [.iconst 1, .goto (4), .iadd, .istore_n 3, .iload 9] (by decide +kernel) rfl <|
        Ev.br (i := .ifCond .eq (13)) (P := x9 = (0 : Int32)) (t := 172) (f := 162) (r := []) (by decide +kernel) rfl (fun c3 =>
          Ev.go (pc' := 44) (ls' := [.ref 102, .int x1, .int x2, .int (x3 + (1 : Int32)), .int x4, .long x5, ev_unk, .int (x7 + (1 : Int32)), .int x8, .int x9, .int x10]) (st' := []) [.iload 4, .istore 4, .iinc 7 (1), .goto (-135)] (by decide +kernel) rfl <|
          Ev.forget (ls' := [.ref 102, .int x1, .int x2, .int (x3 + (1 : Int32)), .int x4, .long x5, ev_unk, .int (x7 + (1 : Int32)), ev_unk, ev_unk, ev_unk]) ⟨Or.inr rfl, Or.inr rfl, Or.inr rfl, Or.inr rfl, Or.inr rfl, Or.inr rfl, Or.inr rfl, Or.inr rfl, Or.inl rfl, Or.inl rfl, Or.inl rfl, trivial⟩ <|
          (k8 c1 c2 c3)
        ) (fun c3 =>
          Ev.go (pc' := 166) (ls' := [.ref 102, .int x1, .int x2, .int (x3 + (1 : Int32)), .int x4, .long x5, ev_unk, .int x7, .int x8, .int x9, .int x10]) (st' := [.int x8, .int x4]) [.iload 4, .iload 8] (by decide +kernel) rfl <|
          Ev.mmax lL_Mo_275 w_maxS w_mathI w_maxC (Nat.le_of_ble_eq_true rfl) (by decide +kernel) <|
          Ev.go (pc' := 44) (ls' := [.ref 102, .int x1, .int x2, .int (x3 + (1 : Int32)), .int (if x4 < x8 then x8 else x4), .long x5, ev_unk, .int (x7 + (1 : Int32)), .int x8, .int x9, .int x10]) (st' := []) [.goto (5), .istore 4, .iinc 7 (1), .goto (-135)] (by decide +kernel) rfl <|
          Ev.forget (ls' := [.ref 102, .int x1, .int x2, .int (x3 + (1 : Int32)), .int (if x4 < x8 then x8 else x4), .long x5, ev_unk, .int (x7 + (1 : Int32)), ev_unk, ev_unk, ev_unk]) ⟨Or.inr rfl, Or.inr rfl, Or.inr rfl, Or.inr rfl, Or.inr rfl, Or.inr rfl, Or.inr rfl, Or.inr rfl, Or.inl rfl, Or.inl rfl, Or.inl rfl, trivial⟩ <|
          (k9 c1 c2 c3)
        )
      )
    )
  )
section S55
variable {G : ev_G} {d : Nat} {h : ev_H} {R : Option Value → ev_H → Prop} {Q : QS}
theorem s_Mo_spread2 {p w : Int32} (H : MR h Q) (hR : ∀ h', Kp h h' 102 126 → MR h' (stQ Q (a_spread (qS Q) p w).2) → R (some (.int (a_spread (qS Q) p w).1)) h') : Ev G (d + 7) 0 0 M_Mo_spread 0 [.ref 102, .int p, .int w, ev_unk, ev_unk, ev_unk, ev_unk, ev_unk, ev_unk, ev_unk, ev_unk] [] h R := by
  obtain ⟨bm, z, m1⟩ := H.2.1
  have hz := H.szN
  have hzP := H.szP
  have f : frB w.toInt64 0 1 = decide (0 ≤ w ∧ w < (2 : Int32)) := fr_dc (b := 1) (by omega)
  refine b_Mo_spread_0 (d := d + 4) (fun c1 => m1) (fun c1 => ⟨_, m1⟩) (fun c1 => H.ms) (fun c1 => H.ok) (fun c1 => ⟨_, m1⟩) (fun c1 c2 => m1) (fun c1 c2 => ⟨_, m1⟩) (fun c1 c2 => ⟨_, m1⟩) (fun c1 => H.fin (Kp.refl _ _ _) m1 hR (by rw [f] at c1; unfold a_spread; rw [b2i_e0 c1]; rfl)) (fun c1 c2 => H.fin (Kp.refl _ _ _) m1 hR (by rw [f] at c1; unfold a_spread; rw [b2i_n0 c1, b2i_e0 c2]; rfl)) (fun c1 c2 => ?_)
  rw [f] at c1
  have hp := vN_lt (by omega) (b2i_n0 c2)
  obtain ⟨s1, s2, s3⟩ := spr_all (S := qS Q) (q := vN p) hz 32 (Nat.le_refl _)
  have cN : cnt (fsP (qS Q) (vN p)) 32 = cnt (fsP (qS Q) (vN p)) (sN (qS Q)) := cnt_N hz fun j t => by unfold fsP at t; rw [Bool.and_eq_true] at t; exact ct_N t.1
  have mN : ∀ e, mxS (qS Q) (vN p) (sN (qS Q) + e) = mxS (qS Q) (vN p) (sN (qS Q)) := fun e => by
    induction e with
    | zero => rfl
    | succ e ih =>
      have nf : fsP (qS Q) (vN p) (sN (qS Q) + e) = false := by
        cases t : fsP (qS Q) (vN p) (sN (qS Q) + e)
        · rfl
        · unfold fsP at t; rw [Bool.and_eq_true] at t
          have := ct_N t.1
          omega
      show (if fsP (qS Q) (vN p) (sN (qS Q) + e) then _ else mxS (qS Q) (vN p) (sN (qS Q) + e)) = _
      rw [nf]; exact ih
  have mN := mN (32 - sN (qS Q))
  rw [show sN (qS Q) + (32 - sN (qS Q)) = 32 by omega] at mN
  have e : a_spread (qS Q) p w = if w = 0 then (nI (cnt (fsP (qS Q) (vN p)) (sN (qS Q))), 0) else (nI (mxS (qS Q) (vN p) (sN (qS Q))), 0) := by
    unfold a_spread
    rw [if_pos (b2i_n0 c1), if_pos (b2i_n0 c2), s2, s3, cN, mN]
  rw [e] at hR
  clear s1 s2 s3 cN mN c1 c2 e
  generalize vN p = q at hp hR
  obtain ⟨rfl, hq⟩ := hp
  have w24 := H.ok.2.2.2.2.2.1 q hq
  refine s_cnt H fun h1 K1 H => ?_
  refine b_Mo_spread_39 (d := d + 4) ?_
  obtain ⟨bm, z, m1⟩ := H.2.1
  have kq : ∀ i j, (lN (keyN (sCo (qS Q) i) (stt (qS Q) q) (sBr (qS Q) q)) = lN (keyN (sCo (qS Q) j) (stt (qS Q) q) (sBr (qS Q) q))) ↔ kqN (qS Q) q i = kqN (qS Q) q j := fun i j => lN_eq (keyN_ltI H.ok hq _ _) (keyN_ltI H.ok hq _ _)
  have mle := mxS_le (qS Q) q hz
  refine up0 (P := fun c => Ev G (d + 7) 0 0 M_Mo_spread 44 [.ref 102, .int (nI q), .int w, .int (nI (cnt (fsP (qS Q) q) c)), .int (nI (mxS (qS Q) q c)), .long (setL (ctP (qS Q))), ev_unk, .int (nI c), ev_unk, ev_unk, ev_unk] [] h1 R) (sN (qS Q)) ?_ ?_
  · intro c hc ih
    refine b_Mo_spread_44 (d := d + 4) H.ms ⟨_, m1⟩ (fun c1 c2 => m1) (fun c1 c2 => ⟨_, m1⟩) (fun c1 c2 => m1) (fun c1 c2 => ⟨_, m1⟩) (fun c1 => ?_) (fun c1 c2 => absurd (nI_lt hc (by omega)) c1) (fun c1 c2 => absurd (nI_lt hc (by omega)) c1)
    have tc : ∀ j, j < sN (qS Q) → tbL (setL (ctP (qS Q))) (nI j) = ctP (qS Q) j := fun j hj => by rw [tbL_n (by omega), lt_setL, decide_eq_true (show j < 32 by omega), Bool.true_and]
    rw [tc c hc]
    have L := up0 (P := fun e => Ev G (d + 7) 0 0 M_Mo_spread 68 [.ref 102, .int (nI q), .int w, .int (nI (cnt (fsP (qS Q) q) c)), .int (nI (mxS (qS Q) q c)), .long (setL (ctP (qS Q))), ev_unk, .int (nI c), .int (nI (szN' (qS Q) q c e)), .int (b2i (ctP (qS Q) c && !ahP (qS Q) q (min e c) c)), .int (nI e)] [] h1 R) (sN (qS Q)) ?_ ?_
    · rw [Nat.zero_min] at L
      have e0 : (ctP (qS Q) c && !ahP (qS Q) q 0 c) = ctP (qS Q) c := by
        show (ctP (qS Q) c && !false) = _
        simp
      rw [e0] at L
      exact L
    · intro e he ih2
      have fz : szN' (qS Q) q c (e + 1) = szN' (qS Q) q c e + if (ctP (qS Q) e && decide (kqN (qS Q) q e = kqN (qS Q) q c)) then 1 else 0 := rfl
      have fa : e < c → ahP (qS Q) q (min (e + 1) c) c = (ahP (qS Q) q (min e c) c || (ctP (qS Q) e && decide (kqN (qS Q) q e = kqN (qS Q) q c))) := fun l => by
        rw [Nat.min_eq_left (show e + 1 ≤ c by omega), Nat.min_eq_left (show e ≤ c by omega)]; rfl
      have fb : ¬ e < c → ahP (qS Q) q (min (e + 1) c) c = ahP (qS Q) q (min e c) c := fun l => by
        rw [Nat.min_eq_right (show c ≤ e + 1 by omega), Nat.min_eq_right (show c ≤ e by omega)]
      rw [fz] at ih2
      have no : ¬ (ctP (qS Q) e = true ∧ kqN (qS Q) q e = kqN (qS Q) q c) → Ev G (d + 7) 0 0 M_Mo_spread 68 [.ref 102, .int (nI q), .int w, .int (nI (cnt (fsP (qS Q) q) c)), .int (nI (mxS (qS Q) q c)), .long (setL (ctP (qS Q))), ev_unk, .int (nI c), .int (nI (szN' (qS Q) q c e)), .int (b2i (ctP (qS Q) c && !ahP (qS Q) q (min e c) c)), .int (nI (e + 1))] [] h1 R := fun n => by
        have ef : (ctP (qS Q) e && decide (kqN (qS Q) q e = kqN (qS Q) q c)) = false := by
          cases a : ctP (qS Q) e
          · rfl
          · rw [decide_eq_false (fun b => n ⟨a, b⟩)]; rfl
        rw [ef] at ih2
        by_cases l : e < c
        · rw [fa l, ef, Bool.or_false] at ih2; exact ih2
        · rw [fb l] at ih2; exact ih2
      refine b_Mo_spread_68 (d := d + 4) (c_3 := c) (p_5 := q) (c_7 := e) (p_9 := q) H.ms ⟨_, m1⟩ (fun c1 c2 => H.ms) (fun c1 c2 => H.ok) (fun c1 c2 => ⟨rfl, hc⟩) (fun c1 c2 => ⟨_, m1⟩) (fun c1 c2 => H.ms) (fun c1 c2 => H.ok) (fun c1 c2 => ⟨rfl, hq⟩) (fun c1 c2 => H.ms) (fun c1 c2 => H.ok) (fun c1 c2 => ⟨rfl, he⟩) (fun c1 c2 => H.ms) (fun c1 c2 => H.ok) (fun c1 c2 => ⟨rfl, hq⟩) (fun c1 c2 => ?_) (fun c1 c2 c3 c4 => ?_) (fun c1 c2 c3 c4 c5 => ?_) (fun c1 c2 c3 c4 c5 => ?_) (fun c1 c2 c3 => ?_) (fun c1 c2 c3 => absurd (nI_lt he (by omega)) c1) (fun c1 c2 c3 => absurd (nI_lt he (by omega)) c1) (fun c1 c2 c3 => absurd (nI_lt he (by omega)) c1) (fun c1 c2 c3 => absurd (nI_lt he (by omega)) c1)
      · rw [tc e he] at c2
        rw [nI_1]
        exact no fun t => by rw [b2i_e0 c2] at t; exact absurd t.1 (by decide)
      · rw [tc e he] at c2
        have k : kqN (qS Q) q e = kqN (qS Q) q c := ((kq _ _).mp c3).symm
        rw [b2i_n0 c2, decide_eq_true k] at ih2
        have x0 := b2i_e0 c4
        have x1 : (ctP (qS Q) c && !ahP (qS Q) q (min (e + 1) c) c) = false := by
          by_cases l : e < c
          · rw [fa l, b2i_n0 c2, decide_eq_true k]; simp
          · rw [fb l]; exact x0
        rw [x1] at ih2
        rw [nI_1, nI_1]; exact ih2
      · rw [tc e he] at c2
        have k : kqN (qS Q) q e = kqN (qS Q) q c := ((kq _ _).mp c3).symm
        rw [b2i_n0 c2, decide_eq_true k] at ih2
        have l : e < c := (nI_ltI (by omega) (by omega)).mp c5
        have x1 : (ctP (qS Q) c && !ahP (qS Q) q (min (e + 1) c) c) = false := by
          rw [fa l, b2i_n0 c2, decide_eq_true k]; simp
        rw [x1] at ih2
        rw [nI_1, nI_1]; exact ih2
      · rw [tc e he] at c2
        have k : kqN (qS Q) q e = kqN (qS Q) q c := ((kq _ _).mp c3).symm
        rw [b2i_n0 c2, decide_eq_true k] at ih2
        have l : ¬ e < c := fun z => c5 (nI_lt z (by omega))
        rw [fb l, b2i_n0 c4] at ih2
        rw [nI_1, nI_1]; exact ih2
      · rw [tc e he] at c2
        rw [nI_1]
        exact no fun t => c3 ((kq _ _).mpr t.2.symm)
    · have no := nl_self (n := sN (qS Q)) (by omega)
      have ff : (ctP (qS Q) c && !ahP (qS Q) q (min (sN (qS Q)) c) c) = fsP (qS Q) q c := by
        unfold fsP
        rw [Nat.min_eq_right (show c ≤ sN (qS Q) by omega)]
      have f2 : cnt (fsP (qS Q) q) (c + 1) = cnt (fsP (qS Q) q) c + if fsP (qS Q) q c then 1 else 0 := rfl
      have f3 : mxS (qS Q) q (c + 1) = if fsP (qS Q) q c then max (mxS (qS Q) q c) (szN' (qS Q) q c (sN (qS Q))) else mxS (qS Q) q c := rfl
      rw [f2, f3] at ih
      have m1' := mle c
      have m2' := cnt_le (fun j => ctP (qS Q) j && decide (kqN (qS Q) q j = kqN (qS Q) q c)) (sN (qS Q))
      rw [ff]
      refine b_Mo_spread_68 (d := d + 4) (c_3 := c) (p_5 := q) (c_7 := 0) (p_9 := q) H.ms ⟨_, m1⟩ (fun c1 c2 => H.ms) (fun c1 c2 => H.ok) (fun c1 c2 => ⟨rfl, hc⟩) (fun c1 c2 => ⟨_, m1⟩) (fun c1 c2 => H.ms) (fun c1 c2 => H.ok) (fun c1 c2 => ⟨rfl, hq⟩) (fun c1 c2 => H.ms) (fun c1 c2 => H.ok) (fun c1 c2 => absurd c1 no) (fun c1 c2 => H.ms) (fun c1 c2 => H.ok) (fun c1 c2 => ⟨rfl, hq⟩) (fun c1 c2 => absurd c1 no) (fun c1 c2 c3 c4 => absurd c1 no) (fun c1 c2 c3 c4 c5 => absurd c1 no) (fun c1 c2 c3 c4 c5 => absurd c1 no) (fun c1 c2 c3 => absurd c1 no) (fun c1 c2 c3 => ?_) (fun c1 c2 c3 => absurd c2 c3) (fun c1 c2 c3 => absurd c3 c2) (fun c1 c2 c3 => ?_)
      · rw [b2i_e0 c2] at ih
        rw [show (0 : Int32) = nI 0 from rfl, nI_add, nI_1]; exact ih
      · rw [b2i_n0 c2] at ih
        have mx : (if nI (mxS (qS Q) q c) < nI (szN' (qS Q) q c (sN (qS Q))) then nI (szN' (qS Q) q c (sN (qS Q))) else nI (mxS (qS Q) q c)) = nI (max (mxS (qS Q) q c) (szN' (qS Q) q c (sN (qS Q)))) := by
          have m2' : szN' (qS Q) q c (sN (qS Q)) ≤ sN (qS Q) := m2'
          by_cases t : mxS (qS Q) q c < szN' (qS Q) q c (sN (qS Q))
          · rw [if_pos (nI_lt t (by omega)), Nat.max_eq_right (by omega)]
          · rw [if_neg (fun y => t ((nI_ltI (by omega) (by omega)).mp y)), Nat.max_eq_left (by omega)]
        rw [mx, nI_1, nI_1]; exact ih
  · have no := nl_self (n := sN (qS Q)) (by omega)
    refine b_Mo_spread_44 (d := d + 4) H.ms ⟨_, m1⟩ (fun c1 c2 => m1) (fun c1 c2 => ⟨_, m1⟩) (fun c1 c2 => m1) (fun c1 c2 => ⟨_, m1⟩) (fun c1 => absurd c1 no) (fun c1 c2 => ?_) (fun c1 c2 => ?_)
    · rw [if_pos c2] at hR
      exact H.fin (q := (nI (cnt (fsP (qS Q) q) (sN (qS Q))), 0)) (K1.wide (by omega) (by omega)) m1 hR rfl
    · rw [if_neg c2] at hR
      exact H.fin (q := (nI (mxS (qS Q) q (sN (qS Q))), 0)) (K1.wide (by omega) (by omega)) m1 hR rfl
end S55
