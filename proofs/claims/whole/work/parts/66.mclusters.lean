/-! the model's cluster and clusters -/
theorem cB_in {S : AS} {r c : Nat} (h32 : sN S ≤ 32) (hc : ctP S c = true) {j : Nat} (h : cB S r c j = true) : ctP S j = true := (cluI_is (r := r) (bt_ct h32) (fun j q => ct_N q) hc).2 j h
theorem cB_iff {S : AS} {r c : Nat} (h32 : sN S ≤ 32) (hc : ctP S c = true) (j : Nat) : cB S r c j = true ↔ clP (edB S (ctP S) r) c j := (cluI_is (r := r) (bt_ct h32) (fun j q => ct_N q) hc).1.iff j
theorem cB_self {S : AS} {r c : Nat} (h32 : sN S ≤ 32) (hc : ctP S c = true) : cB S r c c = true := (cluI_is (r := r) (bt_ct h32) (fun j q => ct_N q) hc).1.1
theorem cB_same {S : AS} {r a b : Nat} (h32 : sN S ≤ 32) (ha : ctP S a = true) (h : cB S r a b = true) : cB S r b = cB S r a := funext fun j => by
  have hb := cB_in h32 ha h
  have h := (cB_iff h32 ha b).mp h
  rw [Bool.eq_iff_iff, cB_iff h32 hb, cB_iff h32 ha]
  exact ⟨fun k => clP_trans h k, fun k => clP_trans (clP_symm edB_symm h) k⟩
/-- the least of a cluster -/
def clL (S : AS) (r c : Nat) : Nat := fst (cB S r c) 32
theorem clL_le {S : AS} {r c j : Nat} (h : cB S r c j = true) : clL S r c ≤ j := Nat.le_of_not_lt fun z => by rw [fst_no (cB S r c) 32 j z] at h; cases h
theorem clL_in {S : AS} {r c : Nat} (h32 : sN S ≤ 32) (hc : ctP S c = true) : cB S r c (clL S r c) = true := by
  have := clL_le (cB_self (r := r) h32 hc)
  have cN := ct_N hc
  exact fst_yes (cB S r c) 32 (by show clL S r c < 32; omega)
/-- what the model counts -/
def mcl1 (S : AS) (r c : Nat) (z : Nat × Nat × Int32) : Nat × Nat × Int32 := if ctP S c && decide (clL S r c = c) then (z.1 + 1, if z.2.1 < cnt (cB S r c) 32 then cnt (cB S r c) 32 else z.2.1, if z.2.1 < cnt (cB S r c) 32 then nI c else z.2.2) else z
def mclF (S : AS) (r : Nat) : Nat → Nat × Nat × Int32
  | 0 => (0, 0, -1)
  | i + 1 => mcl1 S r i (mclF S r i)
theorem mclF_lim (S : AS) (r : Nat) : ∀ i, (mclF S r i).2.1 ≤ 32
  | 0 => Nat.zero_le _
  | i + 1 => by
    have ih := mclF_lim S r i
    have b := cnt_le (cB S r i) 32
    show (mcl1 S r i (mclF S r i)).2.1 ≤ 32
    unfold mcl1
    split
    · show (if _ then _ else _) ≤ 32
      split <;> omega
    · exact ih
theorem clsF_eq {S : AS} {r : Nat} (h32 : sN S ≤ 32) : ∀ i, (∀ j, bt (clsF S r i).1 j = (ctP S j && decide (i ≤ clL S r j))) ∧ (clsF S r i).2 = mclF S r i
  | 0 => ⟨fun j => by
      show bt (setI (ctP S)) j = _
      rw [bt_ct h32, decide_eq_true (Nat.zero_le _), Bool.and_true], rfl⟩
  | i + 1 => by
    obtain ⟨ih1, ih2⟩ := clsF_eq (r := r) h32 i
    have st1 : clsF S r (i + 1) = cls1 S r i (clsF S r i) := rfl
    have st2 : mclF S r (i + 1) = mcl1 S r i (mclF S r i) := rfl
    rw [st1, st2]
    revert ih1 ih2
    generalize clsF S r i = z
    generalize mclF S r i = y
    intro ih1 ih2
    subst ih2
    have ci : bt z.1 i = (ctP S i && decide (clL S r i = i)) := by
      rw [ih1]
      cases q : ctP S i
      · simp only [Bool.false_and]
      · have := clL_le (cB_self (r := r) h32 q)
        rw [Bool.true_and, Bool.true_and, decide_eq_decide]; omega
    unfold cls1 mcl1
    rw [ci]
    by_cases k : (ctP S i && decide (clL S r i = i)) = true
    · rw [if_pos k, if_pos k]
      rw [Bool.and_eq_true] at k
      obtain ⟨k1, k2⟩ := k
      have k2 := of_decide_eq_true k2
      have iN := ct_N k1
      -- the cluster among those left is the cluster
      have hz : bt (setI (bt z.1)) = bt z.1 := by rw [← setI_of]
      have M := cluI_is (S := S) (p := bt z.1) (c := i) (r := r) hz (fun j q => by rw [ih1, Bool.and_eq_true] at q; exact ct_N q.1) (by rw [ci, k1, k2, decide_eq_true rfl]; rfl)
      rw [← setI_of] at M
      have N := (cluI_is (r := r) (bt_ct h32) (fun j q => ct_N q) k1).1
      have same : cluI S z.1 i r = cluI S (setI (ctP S)) i r := b_ext fun j _ => congrFun (clIs.uniq (e := edB S (ctP S) r) (c := i) ⟨M.1.1, fun j q => clP_mono (fun a b t => by
        unfold edB at t ⊢
        simp only [Bool.and_eq_true] at t ⊢
        rw [ih1, ih1, Bool.and_eq_true, Bool.and_eq_true] at t
        exact ⟨⟨t.1.1.1, t.1.2.1⟩, t.2⟩) (M.1.2.1 j q), fun a b q1 q2 => by
        refine M.1.2.2 a b q1 ?_
        have ra := M.1.2.1 a q1
        have ra : clP (edB S (ctP S) r) i a := clP_mono (fun a b t => by
          unfold edB at t ⊢
          simp only [Bool.and_eq_true] at t ⊢
          rw [ih1, ih1, Bool.and_eq_true, Bool.and_eq_true] at t
          exact ⟨⟨t.1.1.1, t.1.2.1⟩, t.2⟩) ra
        have rb := clP_step ra q2
        have la := congrArg (fun x => fst x 32) (cB_same (r := r) h32 k1 ((cB_iff h32 k1 a).mpr ra))
        have lb := congrArg (fun x => fst x 32) (cB_same (r := r) h32 k1 ((cB_iff h32 k1 b).mpr rb))
        have la : clL S r a = clL S r i := la
        have lb : clL S r b = clL S r i := lb
        unfold edB at q2 ⊢
        rw [ih1, ih1, decide_eq_true (show i ≤ clL S r a by omega), decide_eq_true (show i ≤ clL S r b by omega), Bool.and_true, Bool.and_true]
        exact q2⟩ N) j
      rw [same]
      have pe : pop32 (cluI S (setI (ctP S)) i r) = cnt (cB S r i) 32 := rfl
      rw [pe]
      refine ⟨fun j => ?_, rfl⟩
      show bt (z.1 &&& (cluI S (setI (ctP S)) i r ^^^ (-1 : Int32))) j = _
      rw [b_and, b_xor, ih1]
      cases q : ctP S j
      · simp only [Bool.false_and]
      · have jN := ct_N q
        rw [b_m1 j (by omega), Bool.true_and, Bool.true_and]
        show (decide (i ≤ clL S r j) && (cB S r i j ^^ true)) = _
        cases t : cB S r i j
        · have ne : clL S r j ≠ i := fun y => by
            have h1 := clL_in (r := r) h32 q
            rw [y] at h1
            have h2 := cB_same h32 q h1
            rw [h2, cB_self h32 q] at t
            cases t
          rw [show (false ^^ true) = true from rfl, Bool.and_true, decide_eq_decide]; omega
        · have : clL S r j = clL S r i := congrArg (fun x => fst x 32) (cB_same (r := r) h32 k1 t)
          rw [show (true ^^ true) = false from rfl, Bool.and_false, decide_eq_false (by omega)]
    · rw [if_neg k, if_neg k]
      refine ⟨fun j => ?_, rfl⟩
      rw [ih1]
      cases q : ctP S j
      · simp only [Bool.false_and]
      · rw [Bool.true_and, Bool.true_and, decide_eq_decide]
        have ne : clL S r j ≠ i := fun y => by
          have h1 := clL_in (r := r) h32 q
          rw [y] at h1
          have ic := cB_in h32 q h1
          have h2 := cB_same h32 q h1
          have : clL S r i = clL S r j := congrArg (fun x => fst x 32) h2
          apply k
          rw [ic, decide_eq_true (show clL S r i = i by omega)]; rfl
        omega
theorem mclF_end {S : AS} {r : Nat} : ∀ e, mclF S r (sN S + e) = mclF S r (sN S)
  | 0 => rfl
  | e + 1 => by
    have nf : ctP S (sN S + e) = false := by
      cases t : ctP S (sN S + e)
      · rfl
      · have := ct_N t; omega
    show mcl1 S r (sN S + e) (mclF S r (sN S + e)) = _
    unfold mcl1
    rw [nf, mclF_end e]; rfl
theorem clsF_end {S : AS} {r : Nat} (h32 : sN S ≤ 32) : (clsF S r 32).2 = mclF S r (sN S) := by
  have := mclF_end (S := S) (r := r) (32 - sN S)
  rw [show sN S + (32 - sN S) = 32 by omega] at this
  rw [(clsF_eq h32 32).2, this]
theorem b_Mo_cluster_0 {G : ev_G} {d k n : Nat} {h : ev_H} {R : Option Value → ev_H → Prop} {x1 : Int32} {x2 : Int32} {x3 : Int32} {S1 : AS} {v_2 : MG} {z_3 : MP} {v_4 : MG} {z_5 : MP} {S6 : AS} {v_7 : MG} {z_8 : MP}
  (pr1 : MS h S1)
  (pr2 : sOk S1)
  (r3 : ∃ fs, hat h 102 (oC 9 fs))
  (pr4 : (b2i (inR x2 (sB S1 + 1))) = (0 : Int32) → hat h 102 (moC v_2 z_3))
  (r5 : (b2i (inR x2 (sB S1 + 1))) = (0 : Int32) → ∃ fs, hat h 102 (oC 9 fs))
  (pr6 : ¬ (b2i (inR x2 (sB S1 + 1))) = (0 : Int32) → (b2i (frB x3.toInt64 (0 : Int64) (2 : Int64))) = (0 : Int32) → hat h 102 (moC v_4 z_5))
  (r7 : ¬ (b2i (inR x2 (sB S1 + 1))) = (0 : Int32) → (b2i (frB x3.toInt64 (0 : Int64) (2 : Int64))) = (0 : Int32) → ∃ fs, hat h 102 (oC 9 fs))
  (pr8 : ¬ (b2i (inR x2 (sB S1 + 1))) = (0 : Int32) → ¬ (b2i (frB x3.toInt64 (0 : Int64) (2 : Int64))) = (0 : Int32) → MS h S6)
  (pr9 : ¬ (b2i (inR x2 (sB S1 + 1))) = (0 : Int32) → ¬ (b2i (frB x3.toInt64 (0 : Int64) (2 : Int64))) = (0 : Int32) → sOk S6)
  (r10 : ¬ (b2i (inR x2 (sB S1 + 1))) = (0 : Int32) → ¬ (b2i (frB x3.toInt64 (0 : Int64) (2 : Int64))) = (0 : Int32) → ∃ fs, hat h 102 (oC 9 fs))
  (pr11 : ¬ (b2i (inR x2 (sB S1 + 1))) = (0 : Int32) → ¬ (b2i (frB x3.toInt64 (0 : Int64) (2 : Int64))) = (0 : Int32) → (b2i (inR x1 (sN S6))) = (0 : Int32) → hat h 102 (moC v_7 z_8))
  (r12 : ¬ (b2i (inR x2 (sB S1 + 1))) = (0 : Int32) → ¬ (b2i (frB x3.toInt64 (0 : Int64) (2 : Int64))) = (0 : Int32) → (b2i (inR x1 (sN S6))) = (0 : Int32) → ∃ fs, hat h 102 (oC 9 fs))
  (r13 : ¬ (b2i (inR x2 (sB S1 + 1))) = (0 : Int32) → ¬ (b2i (frB x3.toInt64 (0 : Int64) (2 : Int64))) = (0 : Int32) → ¬ (b2i (inR x1 (sN S6))) = (0 : Int32) → ∃ fs, hat h 102 (oC 9 fs))
  (k1 : (b2i (inR x2 (sB S1 + 1))) = (0 : Int32) → R (some (.int (-1 : Int32))) (hset h 102 (moC (stV v_2 (1 : Int32)) z_3)))
  (k2 : ¬ (b2i (inR x2 (sB S1 + 1))) = (0 : Int32) → (b2i (frB x3.toInt64 (0 : Int64) (2 : Int64))) = (0 : Int32) → R (some (.int (-1 : Int32))) (hset h 102 (moC (stV v_4 (1 : Int32)) z_5)))
  (k3 : ¬ (b2i (inR x2 (sB S1 + 1))) = (0 : Int32) → ¬ (b2i (frB x3.toInt64 (0 : Int64) (2 : Int64))) = (0 : Int32) → (b2i (inR x1 (sN S6))) = (0 : Int32) → R (some (.int (-1 : Int32))) (hset h 102 (moC (stV v_7 (2 : Int32)) z_8)))
  (k4 : ¬ (b2i (inR x2 (sB S1 + 1))) = (0 : Int32) → ¬ (b2i (frB x3.toInt64 (0 : Int64) (2 : Int64))) = (0 : Int32) → ¬ (b2i (inR x1 (sN S6))) = (0 : Int32) → Ev G (d + 2) 0 0 M_Mo_counting 0 [.ref 102, ev_unk, ev_unk, ev_unk] [] h (fun r h1 => Ev G (d + 3) k n M_Mo_cluster 44 [.ref 102, .int x1, .int x2, .int x3, ev_unk, ev_unk, ev_unk, ev_unk] (r.toList ++ []) h1 R))
  : Ev G (d + 3) k n M_Mo_cluster 0 [.ref 102, .int x1, .int x2, .int x3, ev_unk, ev_unk, ev_unk, ev_unk] [] h R :=
  Ev.go (pc' := 2) (ls' := [.ref 102, .int x1, .int x2, .int x3, ev_unk, ev_unk, ev_unk, ev_unk]) (st' := [.int x2, .ref 102]) [.aload_n 0, .iload_n 2] (by decide +kernel) rfl <|
  Ev.cV0 (M' := M_Mo_isRadius) (as := [.int x2]) (rest := []) l_Mo_309 M_Mo_isRadius_ok M_Mo_isRadius_in M_Mo_isRadius_se (by decide +kernel) r3 rfl rfl rfl (Nat.le_of_ble_eq_true rfl) (Nat.le_of_ble_eq_true rfl) (s_Mo_isRadius pr1 pr2 <| show Ev G (d + 3) _ _ M_Mo_cluster 5 [.ref 102, .int x1, .int x2, .int x3, ev_unk, ev_unk, ev_unk, ev_unk] [.int (b2i (inR x2 (sB S1 + 1)))] h R from
    Ev.br (i := .ifCond .eq (15)) (P := (b2i (inR x2 (sB S1 + 1))) = (0 : Int32)) (t := 20) (f := 8) (r := []) (by decide +kernel) rfl (fun c1 =>
      Ev.go (pc' := 22) (ls' := [.ref 102, .int x1, .int x2, .int x3, ev_unk, ev_unk, ev_unk, ev_unk]) (st' := [.int (1 : Int32), .ref 102]) [.aload_n 0, .iconst 1] (by decide +kernel) rfl <|
      Ev.cV0 (M' := M_Mo_refuse) (as := [.int (1 : Int32)]) (rest := []) l_Mo_226 M_Mo_refuse_ok M_Mo_refuse_in M_Mo_refuse_se (by decide +kernel) (r5 c1) rfl rfl rfl (Nat.le_of_ble_eq_true rfl) (Nat.le_of_ble_eq_true rfl) (s_Mo_refuse (pr4 c1) <| show Ev G (d + 3) _ _ M_Mo_cluster 25 [.ref 102, .int x1, .int x2, .int x3, ev_unk, ev_unk, ev_unk, ev_unk] [.int (-1 : Int32)] (hset h 102 (moC (stV v_2 (1 : Int32)) z_3)) R from
        Ev.ret (r := (some (.int (-1 : Int32)))) (Or.inl ⟨_, rfl, by decide +kernel, _, rfl, rfl⟩) (k1 c1)
      )
    ) (fun c1 =>
      Ev.go (pc' := 11) (ls' := [.ref 102, .int x1, .int x2, .int x3, ev_unk, ev_unk, ev_unk, ev_unk]) (st' := [.long (0 : Int64), .long x3.toInt64]) [.iload_n 3, .i2l, .lconst 0] (by decide +kernel) rfl <|
      Ev.ldc2 k_Mo_58 (by decide +kernel) <|
      Ev.cS0 (M' := M_Mo_isFrom) (as := [.long x3.toInt64, .long (0 : Int64), .long (2 : Int64)]) (rest := []) l_Mo_172 M_Mo_isFrom_ok M_Mo_isFrom_st (by decide +kernel) rfl rfl (Nat.le_of_ble_eq_true rfl) (Nat.le_of_ble_eq_true rfl) (s_Mo_isFrom <| show Ev G (d + 3) _ _ M_Mo_cluster 17 [.ref 102, .int x1, .int x2, .int x3, ev_unk, ev_unk, ev_unk, ev_unk] [.int (b2i (frB x3.toInt64 (0 : Int64) (2 : Int64)))] h R from
        Ev.br (i := .ifCond .ne (9)) (P := (b2i (frB x3.toInt64 (0 : Int64) (2 : Int64))) = (0 : Int32)) (t := 20) (f := 26) (r := []) (by decide +kernel) rfl (fun c2 =>
          Ev.go (pc' := 22) (ls' := [.ref 102, .int x1, .int x2, .int x3, ev_unk, ev_unk, ev_unk, ev_unk]) (st' := [.int (1 : Int32), .ref 102]) [.aload_n 0, .iconst 1] (by decide +kernel) rfl <|
          Ev.cV0 (M' := M_Mo_refuse) (as := [.int (1 : Int32)]) (rest := []) l_Mo_226 M_Mo_refuse_ok M_Mo_refuse_in M_Mo_refuse_se (by decide +kernel) (r7 c1 c2) rfl rfl rfl (Nat.le_of_ble_eq_true rfl) (Nat.le_of_ble_eq_true rfl) (s_Mo_refuse (pr6 c1 c2) <| show Ev G (d + 3) _ _ M_Mo_cluster 25 [.ref 102, .int x1, .int x2, .int x3, ev_unk, ev_unk, ev_unk, ev_unk] [.int (-1 : Int32)] (hset h 102 (moC (stV v_4 (1 : Int32)) z_5)) R from
            Ev.ret (r := (some (.int (-1 : Int32)))) (Or.inl ⟨_, rfl, by decide +kernel, _, rfl, rfl⟩) (k2 c1 c2)
          )
        ) (fun c2 =>
          Ev.go (pc' := 28) (ls' := [.ref 102, .int x1, .int x2, .int x3, ev_unk, ev_unk, ev_unk, ev_unk]) (st' := [.int x1, .ref 102]) [.aload_n 0, .iload_n 1] (by decide +kernel) rfl <|
          Ev.cV0 (M' := M_Mo_isCode) (as := [.int x1]) (rest := []) l_Mo_258 M_Mo_isCode_ok M_Mo_isCode_in M_Mo_isCode_se (by decide +kernel) (r10 c1 c2) rfl rfl rfl (Nat.le_of_ble_eq_true rfl) (Nat.le_of_ble_eq_true rfl) (s_Mo_isCode (pr8 c1 c2) (pr9 c1 c2) <| show Ev G (d + 3) _ _ M_Mo_cluster 31 [.ref 102, .int x1, .int x2, .int x3, ev_unk, ev_unk, ev_unk, ev_unk] [.int (b2i (inR x1 (sN S6)))] h R from
            Ev.br (i := .ifCond .ne (9)) (P := (b2i (inR x1 (sN S6))) = (0 : Int32)) (t := 34) (f := 40) (r := []) (by decide +kernel) rfl (fun c3 =>
              Ev.go (pc' := 36) (ls' := [.ref 102, .int x1, .int x2, .int x3, ev_unk, ev_unk, ev_unk, ev_unk]) (st' := [.int (2 : Int32), .ref 102]) [.aload_n 0, .iconst 2] (by decide +kernel) rfl <|
              Ev.cV0 (M' := M_Mo_refuse) (as := [.int (2 : Int32)]) (rest := []) l_Mo_226 M_Mo_refuse_ok M_Mo_refuse_in M_Mo_refuse_se (by decide +kernel) (r12 c1 c2 c3) rfl rfl rfl (Nat.le_of_ble_eq_true rfl) (Nat.le_of_ble_eq_true rfl) (s_Mo_refuse (pr11 c1 c2 c3) <| show Ev G (d + 3) _ _ M_Mo_cluster 39 [.ref 102, .int x1, .int x2, .int x3, ev_unk, ev_unk, ev_unk, ev_unk] [.int (-1 : Int32)] (hset h 102 (moC (stV v_7 (2 : Int32)) z_8)) R from
                Ev.ret (r := (some (.int (-1 : Int32)))) (Or.inl ⟨_, rfl, by decide +kernel, _, rfl, rfl⟩) (k3 c1 c2 c3)
              )
            ) (fun c3 =>
              Ev.go (pc' := 41) (ls' := [.ref 102, .int x1, .int x2, .int x3, ev_unk, ev_unk, ev_unk, ev_unk]) (st' := [.ref 102]) [.aload_n 0] (by decide +kernel) rfl <|
              Ev.cV0 (M' := M_Mo_counting) (as := []) (rest := []) l_Mo_248 M_Mo_counting_ok M_Mo_counting_in M_Mo_counting_se (by decide +kernel) (r13 c1 c2 c3) rfl rfl rfl (Nat.le_of_ble_eq_true rfl) (Nat.le_of_ble_eq_true rfl) (k4 c1 c2 c3)
            )
          )
        )
      )
    )
  )
theorem b_Mo_cluster_44 {G : ev_G} {d k n : Nat} {h : ev_H} {R : Option Value → ev_H → Prop} {x1 : Int32} {x2 : Int32} {x3 : Int32} {y0 : Int64} {v_1 : MG} {z_2 : MP}
  (pr1 : (b2i (tbL y0 x1)) = (0 : Int32) → hat h 102 (moC v_1 z_2))
  (r2 : (b2i (tbL y0 x1)) = (0 : Int32) → ∃ fs, hat h 102 (oC 9 fs))
  (r3 : ¬ (b2i (tbL y0 x1)) = (0 : Int32) → ∃ fs, hat h 102 (oC 9 fs))
  (k1 : (b2i (tbL y0 x1)) = (0 : Int32) → R (some (.int (-1 : Int32))) (hset h 102 (moC (stV v_1 (6 : Int32)) z_2)))
  (k2 : ¬ (b2i (tbL y0 x1)) = (0 : Int32) → Ev G (d + 2) 0 0 M_Mo_clusterOf 0 [.ref 102, .int x1, .int x2, .long y0, ev_unk, ev_unk, ev_unk, ev_unk, ev_unk, ev_unk, ev_unk] [] h (fun r h1 => Ev G (d + 3) k n M_Mo_cluster 70 [.ref 102, .int x1, .int x2, .int x3, .long y0, ev_unk, ev_unk, ev_unk] (r.toList ++ []) h1 R))
  : Ev G (d + 3) k n M_Mo_cluster 44 [.ref 102, .int x1, .int x2, .int x3, ev_unk, ev_unk, ev_unk, ev_unk] [.long y0] h R :=
  Ev.go (pc' := 49) (ls' := [.ref 102, .int x1, .int x2, .int x3, .long y0, ev_unk, ev_unk, ev_unk]) (st' := [.int x1, .long y0]) [.lstore 4, .lload 4, .iload_n 1] (by decide +kernel) rfl <|
  Ev.cS0 (M' := M_Mo_has) (as := [.long y0, .int x1]) (rest := []) l_Mo_271 M_Mo_has_ok M_Mo_has_st (by decide +kernel) rfl rfl (Nat.le_of_ble_eq_true rfl) (Nat.le_of_ble_eq_true rfl) (s_Mo_has <| show Ev G (d + 3) _ _ M_Mo_cluster 52 [.ref 102, .int x1, .int x2, .int x3, .long y0, ev_unk, ev_unk, ev_unk] [.int (b2i (tbL y0 x1))] h R from
    Ev.br (i := .ifCond .ne (10)) (P := (b2i (tbL y0 x1)) = (0 : Int32)) (t := 55) (f := 62) (r := []) (by decide +kernel) rfl (fun c1 =>
      Ev.go (pc' := 58) (ls' := [.ref 102, .int x1, .int x2, .int x3, .long y0, ev_unk, ev_unk, ev_unk]) (st' := [.int (6 : Int32), .ref 102]) [.aload_n 0, .bipush (6)] (by decide +kernel) rfl <|
      Ev.cV0 (M' := M_Mo_refuse) (as := [.int (6 : Int32)]) (rest := []) l_Mo_226 M_Mo_refuse_ok M_Mo_refuse_in M_Mo_refuse_se (by decide +kernel) (r2 c1) rfl rfl rfl (Nat.le_of_ble_eq_true rfl) (Nat.le_of_ble_eq_true rfl) (s_Mo_refuse (pr1 c1) <| show Ev G (d + 3) _ _ M_Mo_cluster 61 [.ref 102, .int x1, .int x2, .int x3, .long y0, ev_unk, ev_unk, ev_unk] [.int (-1 : Int32)] (hset h 102 (moC (stV v_1 (6 : Int32)) z_2)) R from
        Ev.ret (r := (some (.int (-1 : Int32)))) (Or.inl ⟨_, rfl, by decide +kernel, _, rfl, rfl⟩) (k1 c1)
      )
    ) (fun c1 =>
      Ev.go (pc' := 67) (ls' := [.ref 102, .int x1, .int x2, .int x3, .long y0, ev_unk, ev_unk, ev_unk]) (st' := [.long y0, .int x2, .int x1, .ref 102]) [.aload_n 0, .iload_n 1, .iload_n 2, .lload 4] (by decide +kernel) rfl <|
      Ev.cV0 (M' := M_Mo_clusterOf) (as := [.int x1, .int x2, .long y0]) (rest := []) l_Mo_338 M_Mo_clusterOf_ok M_Mo_clusterOf_in M_Mo_clusterOf_se (by decide +kernel) (r3 c1) rfl rfl rfl (Nat.le_of_ble_eq_true rfl) (Nat.le_of_ble_eq_true rfl) (k2 c1)
    )
  )
theorem b_Mo_cluster_70 {G : ev_G} {d k n : Nat} {h : ev_H} {R : Option Value → ev_H → Prop} {x1 : Int32} {x2 : Int32} {x3 : Int32} {x4 : Int64} {y0 : Int64}
  (r1 : ¬ x3 = (0 : Int32) → ¬ x3 = (1 : Int32) → ∃ fs, hat h 102 (oC 9 fs))
  (k1 : x3 = (0 : Int32) → Ev G (d + 2) 0 0 M_Mo_leastIn 0 [.long y0, ev_unk, ev_unk] [] h (fun r h1 => Ev G (d + 3) k n M_Mo_cluster 82 [.ref 102, .int x1, .int x2, .int x3, .long x4, ev_unk, .long y0, ev_unk] (r.toList ++ [.ref 102]) h1 R))
  (k2 : ¬ x3 = (0 : Int32) → x3 = (1 : Int32) → Ev G (d + 3) k n M_Mo_cluster 104 [.ref 102, .int x1, .int x2, .int x3, .long x4, ev_unk, .long y0, ev_unk] [.int (nI (pop y0)), .ref 102] h R)
  (k3 : ¬ x3 = (0 : Int32) → ¬ x3 = (1 : Int32) → Ev G (d + 2) 0 0 M_Mo_middle 0 [.ref 102, .long y0, ev_unk, ev_unk, ev_unk, ev_unk, ev_unk, ev_unk] [] h (fun r h1 => Ev G (d + 3) k n M_Mo_cluster 104 [.ref 102, .int x1, .int x2, .int x3, .long x4, ev_unk, .long y0, ev_unk] (r.toList ++ [.ref 102]) h1 R))
  : Ev G (d + 3) k n M_Mo_cluster 70 [.ref 102, .int x1, .int x2, .int x3, .long x4, ev_unk, ev_unk, ev_unk] [.long y0] h R :=
  Ev.go (pc' := 74) (ls' := [.ref 102, .int x1, .int x2, .int x3, .long x4, ev_unk, .long y0, ev_unk]) (st' := [.int x3, .ref 102]) [.lstore 6, .aload_n 0, .iload_n 3] (by decide +kernel) rfl <|
  Ev.br (i := .ifCond .ne (11)) (P := x3 = (0 : Int32)) (t := 77) (f := 85) (r := [.ref 102]) (by decide +kernel) rfl (fun c1 =>
    Ev.go (pc' := 79) (ls' := [.ref 102, .int x1, .int x2, .int x3, .long x4, ev_unk, .long y0, ev_unk]) (st' := [.long y0, .ref 102]) [.lload 6] (by decide +kernel) rfl <|
    Ev.cS0 (M' := M_Mo_leastIn) (as := [.long y0]) (rest := [.ref 102]) l_Mo_341 M_Mo_leastIn_ok M_Mo_leastIn_st (by decide +kernel) rfl rfl (Nat.le_of_ble_eq_true rfl) (Nat.le_of_ble_eq_true rfl) (k1 c1)
  ) (fun c1 =>
    Ev.go (pc' := 87) (ls' := [.ref 102, .int x1, .int x2, .int x3, .long x4, ev_unk, .long y0, ev_unk]) (st' := [.int (1 : Int32), .int x3, .ref 102]) [.iload_n 3, .iconst 1] (by decide +kernel) rfl <|
    Ev.br (i := .if_icmp .ne (11)) (P := x3 = (1 : Int32)) (t := 90) (f := 98) (r := [.ref 102]) (by decide +kernel) rfl (fun c2 =>
      Ev.go (pc' := 92) (ls' := [.ref 102, .int x1, .int x2, .int x3, .long x4, ev_unk, .long y0, ev_unk]) (st' := [.long y0, .ref 102]) [.lload 6] (by decide +kernel) rfl <|
      Ev.cS0 (M' := M_Mo_ones_J) (as := [.long y0]) (rest := [.ref 102]) l_Mo_88 M_Mo_ones_J_ok M_Mo_ones_J_st (by decide +kernel) rfl rfl (Nat.le_of_ble_eq_true rfl) (Nat.le_of_ble_eq_true rfl) (s_Mo_ones_J <| show Ev G (d + 3) _ _ M_Mo_cluster 95 [.ref 102, .int x1, .int x2, .int x3, .long x4, ev_unk, .long y0, ev_unk] [.int (nI (pop y0)), .ref 102] h R from
        Ev.go (pc' := 104) (ls' := [.ref 102, .int x1, .int x2, .int x3, .long x4, ev_unk, .long y0, ev_unk]) (st' := [.int (nI (pop y0)), .ref 102]) [.goto (9)] (by decide +kernel) rfl <|
        (k2 c1 c2)
      )
    ) (fun c2 =>
      Ev.go (pc' := 101) (ls' := [.ref 102, .int x1, .int x2, .int x3, .long x4, ev_unk, .long y0, ev_unk]) (st' := [.long y0, .ref 102, .ref 102]) [.aload_n 0, .lload 6] (by decide +kernel) rfl <|
      Ev.cV0 (M' := M_Mo_middle) (as := [.long y0]) (rest := [.ref 102]) l_Mo_344 M_Mo_middle_ok M_Mo_middle_in M_Mo_middle_se (by decide +kernel) (r1 c1 c2) rfl rfl rfl (Nat.le_of_ble_eq_true rfl) (Nat.le_of_ble_eq_true rfl) (k3 c1 c2)
    )
  )
theorem b_Mo_cluster_82 {G : ev_G} {d k n : Nat} {h : ev_H} {R : Option Value → ev_H → Prop} {x1 : Int32} {x2 : Int32} {x3 : Int32} {x4 : Int64} {x6 : Int64} {y1 : Int32}
  (k1 : Ev G (d + 3) k n M_Mo_cluster 104 [.ref 102, .int x1, .int x2, .int x3, .long x4, ev_unk, .long x6, ev_unk] [.int y1, .ref 102] h R)
  : Ev G (d + 3) k n M_Mo_cluster 82 [.ref 102, .int x1, .int x2, .int x3, .long x4, ev_unk, .long x6, ev_unk] [.int y1, .ref 102] h R :=
  Ev.go (pc' := 104) (ls' := [.ref 102, .int x1, .int x2, .int x3, .long x4, ev_unk, .long x6, ev_unk]) (st' := [.int y1, .ref 102]) [.goto (22)] (by decide +kernel) rfl <|
  k1
theorem b_Mo_cluster_104 {G : ev_G} {d k n : Nat} {h : ev_H} {R : Option Value → ev_H → Prop} {x1 : Int32} {x2 : Int32} {x3 : Int32} {x4 : Int64} {x6 : Int64} {y1 : Int32} {v_1 : MG} {z_2 : MP}
  (pr1 : hat h 102 (moC v_1 z_2))
  (r2 : ∃ fs, hat h 102 (oC 9 fs))
  (k1 : R (some (.int y1)) (hset h 102 (moC (stV v_1 0) z_2)))
  : Ev G (d + 3) k n M_Mo_cluster 104 [.ref 102, .int x1, .int x2, .int x3, .long x4, ev_unk, .long x6, ev_unk] [.int y1, .ref 102] h R :=
  Ev.cV0 (M' := M_Mo_gives_I) (as := [.int y1]) (rest := []) l_Mo_245 M_Mo_gives_I_ok M_Mo_gives_I_in M_Mo_gives_I_se (by decide +kernel) r2 rfl rfl rfl (Nat.le_of_ble_eq_true rfl) (Nat.le_of_ble_eq_true rfl) (s_Mo_gives_I pr1 <| show Ev G (d + 3) _ _ M_Mo_cluster 107 [.ref 102, .int x1, .int x2, .int x3, .long x4, ev_unk, .long x6, ev_unk] [.int y1] (hset h 102 (moC (stV v_1 0) z_2)) R from
    Ev.ret (r := (some (.int y1))) (Or.inl ⟨_, rfl, by decide +kernel, _, rfl, rfl⟩) k1
  )
theorem b_Mo_clusters_0 {G : ev_G} {d k n : Nat} {h : ev_H} {R : Option Value → ev_H → Prop} {x1 : Int32} {x2 : Int32} {S1 : AS} {v_2 : MG} {z_3 : MP} {v_4 : MG} {z_5 : MP}
  (pr1 : MS h S1)
  (pr2 : sOk S1)
  (r3 : ∃ fs, hat h 102 (oC 9 fs))
  (pr4 : (b2i (inR x1 (sB S1 + 1))) = (0 : Int32) → hat h 102 (moC v_2 z_3))
  (r5 : (b2i (inR x1 (sB S1 + 1))) = (0 : Int32) → ∃ fs, hat h 102 (oC 9 fs))
  (pr6 : ¬ (b2i (inR x1 (sB S1 + 1))) = (0 : Int32) → (b2i (frB x2.toInt64 (0 : Int64) (2 : Int64))) = (0 : Int32) → hat h 102 (moC v_4 z_5))
  (r7 : ¬ (b2i (inR x1 (sB S1 + 1))) = (0 : Int32) → (b2i (frB x2.toInt64 (0 : Int64) (2 : Int64))) = (0 : Int32) → ∃ fs, hat h 102 (oC 9 fs))
  (r8 : ¬ (b2i (inR x1 (sB S1 + 1))) = (0 : Int32) → ¬ (b2i (frB x2.toInt64 (0 : Int64) (2 : Int64))) = (0 : Int32) → ∃ fs, hat h 102 (oC 9 fs))
  (k1 : (b2i (inR x1 (sB S1 + 1))) = (0 : Int32) → R (some (.int (-1 : Int32))) (hset h 102 (moC (stV v_2 (1 : Int32)) z_3)))
  (k2 : ¬ (b2i (inR x1 (sB S1 + 1))) = (0 : Int32) → (b2i (frB x2.toInt64 (0 : Int64) (2 : Int64))) = (0 : Int32) → R (some (.int (-1 : Int32))) (hset h 102 (moC (stV v_4 (1 : Int32)) z_5)))
  (k3 : ¬ (b2i (inR x1 (sB S1 + 1))) = (0 : Int32) → ¬ (b2i (frB x2.toInt64 (0 : Int64) (2 : Int64))) = (0 : Int32) → Ev G (d + 2) 0 0 M_Mo_counting 0 [.ref 102, ev_unk, ev_unk, ev_unk] [] h (fun r h1 => Ev G (d + 3) k n M_Mo_clusters 38 [.ref 102, .int x1, .int x2, .int (0 : Int32), .int (0 : Int32), .int (-1 : Int32), ev_unk, ev_unk, ev_unk, ev_unk, ev_unk] (r.toList ++ []) h1 R))
  : Ev G (d + 3) k n M_Mo_clusters 0 [.ref 102, .int x1, .int x2, ev_unk, ev_unk, ev_unk, ev_unk, ev_unk, ev_unk, ev_unk, ev_unk] [] h R :=
  Ev.go (pc' := 2) (ls' := [.ref 102, .int x1, .int x2, ev_unk, ev_unk, ev_unk, ev_unk, ev_unk, ev_unk, ev_unk, ev_unk]) (st' := [.int x1, .ref 102]) [.aload_n 0, .iload_n 1] (by decide +kernel) rfl <|
  Ev.cV0 (M' := M_Mo_isRadius) (as := [.int x1]) (rest := []) l_Mo_309 M_Mo_isRadius_ok M_Mo_isRadius_in M_Mo_isRadius_se (by decide +kernel) r3 rfl rfl rfl (Nat.le_of_ble_eq_true rfl) (Nat.le_of_ble_eq_true rfl) (s_Mo_isRadius pr1 pr2 <| show Ev G (d + 3) _ _ M_Mo_clusters 5 [.ref 102, .int x1, .int x2, ev_unk, ev_unk, ev_unk, ev_unk, ev_unk, ev_unk, ev_unk, ev_unk] [.int (b2i (inR x1 (sB S1 + 1)))] h R from
    Ev.br (i := .ifCond .eq (15)) (P := (b2i (inR x1 (sB S1 + 1))) = (0 : Int32)) (t := 20) (f := 8) (r := []) (by decide +kernel) rfl (fun c1 =>
      Ev.go (pc' := 22) (ls' := [.ref 102, .int x1, .int x2, ev_unk, ev_unk, ev_unk, ev_unk, ev_unk, ev_unk, ev_unk, ev_unk]) (st' := [.int (1 : Int32), .ref 102]) [.aload_n 0, .iconst 1] (by decide +kernel) rfl <|
      Ev.cV0 (M' := M_Mo_refuse) (as := [.int (1 : Int32)]) (rest := []) l_Mo_226 M_Mo_refuse_ok M_Mo_refuse_in M_Mo_refuse_se (by decide +kernel) (r5 c1) rfl rfl rfl (Nat.le_of_ble_eq_true rfl) (Nat.le_of_ble_eq_true rfl) (s_Mo_refuse (pr4 c1) <| show Ev G (d + 3) _ _ M_Mo_clusters 25 [.ref 102, .int x1, .int x2, ev_unk, ev_unk, ev_unk, ev_unk, ev_unk, ev_unk, ev_unk, ev_unk] [.int (-1 : Int32)] (hset h 102 (moC (stV v_2 (1 : Int32)) z_3)) R from
        Ev.ret (r := (some (.int (-1 : Int32)))) (Or.inl ⟨_, rfl, by decide +kernel, _, rfl, rfl⟩) (k1 c1)
      )
    ) (fun c1 =>
      Ev.go (pc' := 11) (ls' := [.ref 102, .int x1, .int x2, ev_unk, ev_unk, ev_unk, ev_unk, ev_unk, ev_unk, ev_unk, ev_unk]) (st' := [.long (0 : Int64), .long x2.toInt64]) [.iload_n 2, .i2l, .lconst 0] (by decide +kernel) rfl <|
      Ev.ldc2 k_Mo_58 (by decide +kernel) <|
      Ev.cS0 (M' := M_Mo_isFrom) (as := [.long x2.toInt64, .long (0 : Int64), .long (2 : Int64)]) (rest := []) l_Mo_172 M_Mo_isFrom_ok M_Mo_isFrom_st (by decide +kernel) rfl rfl (Nat.le_of_ble_eq_true rfl) (Nat.le_of_ble_eq_true rfl) (s_Mo_isFrom <| show Ev G (d + 3) _ _ M_Mo_clusters 17 [.ref 102, .int x1, .int x2, ev_unk, ev_unk, ev_unk, ev_unk, ev_unk, ev_unk, ev_unk, ev_unk] [.int (b2i (frB x2.toInt64 (0 : Int64) (2 : Int64)))] h R from
        Ev.br (i := .ifCond .ne (9)) (P := (b2i (frB x2.toInt64 (0 : Int64) (2 : Int64))) = (0 : Int32)) (t := 20) (f := 26) (r := []) (by decide +kernel) rfl (fun c2 =>
          Ev.go (pc' := 22) (ls' := [.ref 102, .int x1, .int x2, ev_unk, ev_unk, ev_unk, ev_unk, ev_unk, ev_unk, ev_unk, ev_unk]) (st' := [.int (1 : Int32), .ref 102]) [.aload_n 0, .iconst 1] (by decide +kernel) rfl <|
          Ev.cV0 (M' := M_Mo_refuse) (as := [.int (1 : Int32)]) (rest := []) l_Mo_226 M_Mo_refuse_ok M_Mo_refuse_in M_Mo_refuse_se (by decide +kernel) (r7 c1 c2) rfl rfl rfl (Nat.le_of_ble_eq_true rfl) (Nat.le_of_ble_eq_true rfl) (s_Mo_refuse (pr6 c1 c2) <| show Ev G (d + 3) _ _ M_Mo_clusters 25 [.ref 102, .int x1, .int x2, ev_unk, ev_unk, ev_unk, ev_unk, ev_unk, ev_unk, ev_unk, ev_unk] [.int (-1 : Int32)] (hset h 102 (moC (stV v_4 (1 : Int32)) z_5)) R from
            Ev.ret (r := (some (.int (-1 : Int32)))) (Or.inl ⟨_, rfl, by decide +kernel, _, rfl, rfl⟩) (k2 c1 c2)
          )
        ) (fun c2 =>
          Ev.go (pc' := 35) (ls' := [.ref 102, .int x1, .int x2, .int (0 : Int32), .int (0 : Int32), .int (-1 : Int32), ev_unk, ev_unk, ev_unk, ev_unk, ev_unk]) (st' := [.ref 102]) [.iconst 0, .istore_n 3, .iconst 0, .istore 4, .iconst (-1), .istore 5, .aload_n 0] (by decide +kernel) rfl <|
          Ev.cV0 (M' := M_Mo_counting) (as := []) (rest := []) l_Mo_248 M_Mo_counting_ok M_Mo_counting_in M_Mo_counting_se (by decide +kernel) (r8 c1 c2) rfl rfl rfl (Nat.le_of_ble_eq_true rfl) (Nat.le_of_ble_eq_true rfl) (k3 c1 c2)
        )
      )
    )
  )
theorem b_Mo_clusters_38 {G : ev_G} {d k n : Nat} {h : ev_H} {R : Option Value → ev_H → Prop} {x1 : Int32} {x2 : Int32} {x3 : Int32} {x4 : Int32} {x5 : Int32} {y0 : Int64}
  (k1 : Ev G (d + 3) k n M_Mo_clusters 43 [.ref 102, .int x1, .int x2, .int x3, .int x4, .int x5, .long y0, ev_unk, .int (0 : Int32), ev_unk, ev_unk] [] h R)
  : Ev G (d + 3) k n M_Mo_clusters 38 [.ref 102, .int x1, .int x2, .int x3, .int x4, .int x5, ev_unk, ev_unk, ev_unk, ev_unk, ev_unk] [.long y0] h R :=
  Ev.go (pc' := 43) (ls' := [.ref 102, .int x1, .int x2, .int x3, .int x4, .int x5, .long y0, ev_unk, .int (0 : Int32), ev_unk, ev_unk]) (st' := []) [.lstore 6, .iconst 0, .istore 8] (by decide +kernel) rfl <|
  k1
theorem b_Mo_clusters_43 {G : ev_G} {d k n : Nat} {h : ev_H} {R : Option Value → ev_H → Prop} {x1 : Int32} {x2 : Int32} {x3 : Int32} {x4 : Int32} {x5 : Int32} {x6 : Int64} {x8 : Int32} {S1 : AS} {v_2 : MG} {z_3 : MP} {v_4 : MG} {z_5 : MP} {v_6 : MG} {z_7 : MP} {v_8 : MG} {z_9 : MP}
  (pr1 : MS h S1)
  (r2 : ∃ fs, hat h 102 (oC 9 fs))
  (r3 : x8 < (nI (sN S1)) → ¬ (b2i (tbL x6 x8)) = (0 : Int32) → ∃ fs, hat h 102 (oC 9 fs))
  (pr4 : ¬ x8 < (nI (sN S1)) → x2 = (2 : Int32) → x5 = (-1 : Int32) → hat h 102 (moC v_2 z_3))
  (r5 : ¬ x8 < (nI (sN S1)) → x2 = (2 : Int32) → x5 = (-1 : Int32) → ∃ fs, hat h 102 (oC 9 fs))
  (pr6 : ¬ x8 < (nI (sN S1)) → x2 = (2 : Int32) → ¬ x5 = (-1 : Int32) → hat h 102 (moC v_4 z_5))
  (r7 : ¬ x8 < (nI (sN S1)) → x2 = (2 : Int32) → ¬ x5 = (-1 : Int32) → ∃ fs, hat h 102 (oC 9 fs))
  (pr8 : ¬ x8 < (nI (sN S1)) → ¬ x2 = (2 : Int32) → x2 = (0 : Int32) → hat h 102 (moC v_6 z_7))
  (r9 : ¬ x8 < (nI (sN S1)) → ¬ x2 = (2 : Int32) → x2 = (0 : Int32) → ∃ fs, hat h 102 (oC 9 fs))
  (pr10 : ¬ x8 < (nI (sN S1)) → ¬ x2 = (2 : Int32) → ¬ x2 = (0 : Int32) → hat h 102 (moC v_8 z_9))
  (r11 : ¬ x8 < (nI (sN S1)) → ¬ x2 = (2 : Int32) → ¬ x2 = (0 : Int32) → ∃ fs, hat h 102 (oC 9 fs))
  (k1 : x8 < (nI (sN S1)) → (b2i (tbL x6 x8)) = (0 : Int32) → Ev G (d + 3) k n M_Mo_clusters 43 [.ref 102, .int x1, .int x2, .int x3, .int x4, .int x5, .long x6, ev_unk, .int (x8 + (1 : Int32)), ev_unk, ev_unk] [] h R)
  (k2 : x8 < (nI (sN S1)) → ¬ (b2i (tbL x6 x8)) = (0 : Int32) → Ev G (d + 2) 0 0 M_Mo_clusterOf 0 [.ref 102, .int x8, .int x1, .long x6, ev_unk, ev_unk, ev_unk, ev_unk, ev_unk, ev_unk, ev_unk] [] h (fun r h1 => Ev G (d + 3) k n M_Mo_clusters 74 [.ref 102, .int x1, .int x2, .int x3, .int x4, .int x5, .long x6, ev_unk, .int x8, ev_unk, ev_unk] (r.toList ++ []) h1 R))
  (k3 : ¬ x8 < (nI (sN S1)) → x2 = (2 : Int32) → x5 = (-1 : Int32) → R (some (.int (-1 : Int32))) (hset h 102 (moC (stV v_2 (5 : Int32)) z_3)))
  (k4 : ¬ x8 < (nI (sN S1)) → x2 = (2 : Int32) → ¬ x5 = (-1 : Int32) → R (some (.int x5)) (hset h 102 (moC (stV v_4 0) z_5)))
  (k5 : ¬ x8 < (nI (sN S1)) → ¬ x2 = (2 : Int32) → x2 = (0 : Int32) → R (some (.int x3)) (hset h 102 (moC (stV v_6 0) z_7)))
  (k6 : ¬ x8 < (nI (sN S1)) → ¬ x2 = (2 : Int32) → ¬ x2 = (0 : Int32) → R (some (.int x4)) (hset h 102 (moC (stV v_8 0) z_9)))
  : Ev G (d + 3) k n M_Mo_clusters 43 [.ref 102, .int x1, .int x2, .int x3, .int x4, .int x5, .long x6, ev_unk, .int x8, ev_unk, ev_unk] [] h R :=
  Ev.go (pc' := 46) (ls' := [.ref 102, .int x1, .int x2, .int x3, .int x4, .int x5, .long x6, ev_unk, .int x8, ev_unk, ev_unk]) (st' := [.ref 102, .int x8]) [.iload 8, .aload_n 0] (by decide +kernel) rfl <|
  Ev.cV0 (M' := M_Mo_many_0) (as := []) (rest := [.int x8]) l_Mo_71 M_Mo_many_0_ok M_Mo_many_0_in M_Mo_many_0_se (by decide +kernel) r2 rfl rfl rfl (Nat.le_of_ble_eq_true rfl) (Nat.le_of_ble_eq_true rfl) (s_Mo_many_0 pr1 <| show Ev G (d + 3) _ _ M_Mo_clusters 49 [.ref 102, .int x1, .int x2, .int x3, .int x4, .int x5, .long x6, ev_unk, .int x8, ev_unk, ev_unk] [.int (nI (sN S1)), .int x8] h R from
    Ev.br (i := .if_icmp .ge (73)) (P := x8 < (nI (sN S1))) (t := 52) (f := 122) (r := []) (by decide +kernel) rfl (fun c1 =>
      Ev.go (pc' := 56) (ls' := [.ref 102, .int x1, .int x2, .int x3, .int x4, .int x5, .long x6, ev_unk, .int x8, ev_unk, ev_unk]) (st' := [.int x8, .long x6]) [.lload 6, .iload 8] (by decide +kernel) rfl <|
      Ev.cS0 (M' := M_Mo_has) (as := [.long x6, .int x8]) (rest := []) l_Mo_271 M_Mo_has_ok M_Mo_has_st (by decide +kernel) rfl rfl (Nat.le_of_ble_eq_true rfl) (Nat.le_of_ble_eq_true rfl) (s_Mo_has <| show Ev G (d + 3) _ _ M_Mo_clusters 59 [.ref 102, .int x1, .int x2, .int x3, .int x4, .int x5, .long x6, ev_unk, .int x8, ev_unk, ev_unk] [.int (b2i (tbL x6 x8))] h R from
        Ev.br (i := .ifCond .ne (6)) (P := (b2i (tbL x6 x8)) = (0 : Int32)) (t := 62) (f := 65) (r := []) (by decide +kernel) rfl (fun c2 =>
          Ev.go (pc' := 43) (ls' := [.ref 102, .int x1, .int x2, .int x3, .int x4, .int x5, .long x6, ev_unk, .int (x8 + (1 : Int32)), ev_unk, ev_unk]) (st' := []) [.goto (54), .iinc 8 (1), .goto (-76)] (by decide +kernel) rfl <|
          (k1 c1 c2)
        ) (fun c2 =>
          Ev.go (pc' := 71) (ls' := [.ref 102, .int x1, .int x2, .int x3, .int x4, .int x5, .long x6, ev_unk, .int x8, ev_unk, ev_unk]) (st' := [.long x6, .int x1, .int x8, .ref 102]) [.aload_n 0, .iload 8, .iload_n 1, .lload 6] (by decide +kernel) rfl <|
          Ev.cV0 (M' := M_Mo_clusterOf) (as := [.int x8, .int x1, .long x6]) (rest := []) l_Mo_338 M_Mo_clusterOf_ok M_Mo_clusterOf_in M_Mo_clusterOf_se (by decide +kernel) (r3 c1 c2) rfl rfl rfl (Nat.le_of_ble_eq_true rfl) (Nat.le_of_ble_eq_true rfl) (k2 c1 c2)
        )
      )
    ) (fun c1 =>
      Ev.go (pc' := 124) (ls' := [.ref 102, .int x1, .int x2, .int x3, .int x4, .int x5, .long x6, ev_unk, .int x8, ev_unk, ev_unk]) (st' := [.int (2 : Int32), .int x2]) [.iload_n 2, .iconst 2] (by decide +kernel) rfl <|
      Ev.br (i := .if_icmp .ne (24)) (P := x2 = (2 : Int32)) (t := 127) (f := 148) (r := []) (by decide +kernel) rfl (fun c2 =>
        Ev.go (pc' := 130) (ls' := [.ref 102, .int x1, .int x2, .int x3, .int x4, .int x5, .long x6, ev_unk, .int x8, ev_unk, ev_unk]) (st' := [.int (-1 : Int32), .int x5]) [.iload 5, .iconst (-1)] (by decide +kernel) rfl <|
        Ev.br (i := .if_icmp .ne (11)) (P := x5 = (-1 : Int32)) (t := 133) (f := 141) (r := []) (by decide +kernel) rfl (fun c3 =>
          Ev.go (pc' := 135) (ls' := [.ref 102, .int x1, .int x2, .int x3, .int x4, .int x5, .long x6, ev_unk, .int x8, ev_unk, ev_unk]) (st' := [.int (5 : Int32), .ref 102]) [.aload_n 0, .iconst 5] (by decide +kernel) rfl <|
          Ev.cV0 (M' := M_Mo_refuse) (as := [.int (5 : Int32)]) (rest := []) l_Mo_226 M_Mo_refuse_ok M_Mo_refuse_in M_Mo_refuse_se (by decide +kernel) (r5 c1 c2 c3) rfl rfl rfl (Nat.le_of_ble_eq_true rfl) (Nat.le_of_ble_eq_true rfl) (s_Mo_refuse (pr4 c1 c2 c3) <| show Ev G (d + 3) _ _ M_Mo_clusters 138 [.ref 102, .int x1, .int x2, .int x3, .int x4, .int x5, .long x6, ev_unk, .int x8, ev_unk, ev_unk] [.int (-1 : Int32)] (hset h 102 (moC (stV v_2 (5 : Int32)) z_3)) R from
            Ev.go (pc' := 147) (ls' := [.ref 102, .int x1, .int x2, .int x3, .int x4, .int x5, .long x6, ev_unk, .int x8, ev_unk, ev_unk]) (st' := [.int (-1 : Int32)]) [.goto (9)] (by decide +kernel) rfl <|
            Ev.ret (r := (some (.int (-1 : Int32)))) (Or.inl ⟨_, rfl, by decide +kernel, _, rfl, rfl⟩) (k3 c1 c2 c3)
          )
        ) (fun c3 =>
          Ev.go (pc' := 144) (ls' := [.ref 102, .int x1, .int x2, .int x3, .int x4, .int x5, .long x6, ev_unk, .int x8, ev_unk, ev_unk]) (st' := [.int x5, .ref 102]) [.aload_n 0, .iload 5] (by decide +kernel) rfl <|
          Ev.cV0 (M' := M_Mo_gives_I) (as := [.int x5]) (rest := []) l_Mo_245 M_Mo_gives_I_ok M_Mo_gives_I_in M_Mo_gives_I_se (by decide +kernel) (r7 c1 c2 c3) rfl rfl rfl (Nat.le_of_ble_eq_true rfl) (Nat.le_of_ble_eq_true rfl) (s_Mo_gives_I (pr6 c1 c2 c3) <| show Ev G (d + 3) _ _ M_Mo_clusters 147 [.ref 102, .int x1, .int x2, .int x3, .int x4, .int x5, .long x6, ev_unk, .int x8, ev_unk, ev_unk] [.int x5] (hset h 102 (moC (stV v_4 0) z_5)) R from
            Ev.ret (r := (some (.int x5))) (Or.inl ⟨_, rfl, by decide +kernel, _, rfl, rfl⟩) (k4 c1 c2 c3)
          )
        )
      ) (fun c2 =>
        Ev.go (pc' := 150) (ls' := [.ref 102, .int x1, .int x2, .int x3, .int x4, .int x5, .long x6, ev_unk, .int x8, ev_unk, ev_unk]) (st' := [.int x2, .ref 102]) [.aload_n 0, .iload_n 2] (by decide +kernel) rfl <|
        Ev.br (i := .ifCond .ne (7)) (P := x2 = (0 : Int32)) (t := 153) (f := 157) (r := [.ref 102]) (by decide +kernel) rfl (fun c3 =>
          Ev.go (pc' := 159) (ls' := [.ref 102, .int x1, .int x2, .int x3, .int x4, .int x5, .long x6, ev_unk, .int x8, ev_unk, ev_unk]) (st' := [.int x3, .ref 102]) [.iload_n 3, .goto (5)] (by decide +kernel) rfl <|
          Ev.cV0 (M' := M_Mo_gives_I) (as := [.int x3]) (rest := []) l_Mo_245 M_Mo_gives_I_ok M_Mo_gives_I_in M_Mo_gives_I_se (by decide +kernel) (r9 c1 c2 c3) rfl rfl rfl (Nat.le_of_ble_eq_true rfl) (Nat.le_of_ble_eq_true rfl) (s_Mo_gives_I (pr8 c1 c2 c3) <| show Ev G (d + 3) _ _ M_Mo_clusters 162 [.ref 102, .int x1, .int x2, .int x3, .int x4, .int x5, .long x6, ev_unk, .int x8, ev_unk, ev_unk] [.int x3] (hset h 102 (moC (stV v_6 0) z_7)) R from
            Ev.ret (r := (some (.int x3))) (Or.inl ⟨_, rfl, by decide +kernel, _, rfl, rfl⟩) (k5 c1 c2 c3)
          )
        ) (fun c3 =>
          Ev.go (pc' := 159) (ls' := [.ref 102, .int x1, .int x2, .int x3, .int x4, .int x5, .long x6, ev_unk, .int x8, ev_unk, ev_unk]) (st' := [.int x4, .ref 102]) [.iload 4] (by decide +kernel) rfl <|
          Ev.cV0 (M' := M_Mo_gives_I) (as := [.int x4]) (rest := []) l_Mo_245 M_Mo_gives_I_ok M_Mo_gives_I_in M_Mo_gives_I_se (by decide +kernel) (r11 c1 c2 c3) rfl rfl rfl (Nat.le_of_ble_eq_true rfl) (Nat.le_of_ble_eq_true rfl) (s_Mo_gives_I (pr10 c1 c2 c3) <| show Ev G (d + 3) _ _ M_Mo_clusters 162 [.ref 102, .int x1, .int x2, .int x3, .int x4, .int x5, .long x6, ev_unk, .int x8, ev_unk, ev_unk] [.int x4] (hset h 102 (moC (stV v_8 0) z_9)) R from
            Ev.ret (r := (some (.int x4))) (Or.inl ⟨_, rfl, by decide +kernel, _, rfl, rfl⟩) (k6 c1 c2 c3)
          )
        )
      )
    )
  )
theorem b_Mo_clusters_74 {G : ev_G} {d k n : Nat} {h : ev_H} {R : Option Value → ev_H → Prop} {x1 : Int32} {x2 : Int32} {x3 : Int32} {x4 : Int32} {x5 : Int32} {x6 : Int64} {x8 : Int32} {y0 : Int64}
  (k1 : Ev G (d + 2) 0 0 M_Mo_leastIn 0 [.long y0, ev_unk, ev_unk] [] h (fun r h1 => Ev G (d + 3) k n M_Mo_clusters 81 [.ref 102, .int x1, .int x2, .int x3, .int x4, .int x5, .long x6, ev_unk, .int x8, .long y0, ev_unk] (r.toList ++ []) h1 R))
  : Ev G (d + 3) k n M_Mo_clusters 74 [.ref 102, .int x1, .int x2, .int x3, .int x4, .int x5, .long x6, ev_unk, .int x8, ev_unk, ev_unk] [.long y0] h R :=
  Ev.go (pc' := 78) (ls' := [.ref 102, .int x1, .int x2, .int x3, .int x4, .int x5, .long x6, ev_unk, .int x8, .long y0, ev_unk]) (st' := [.long y0]) [.lstore 9, .lload 9] (by decide +kernel) rfl <|
  Ev.cS0 (M' := M_Mo_leastIn) (as := [.long y0]) (rest := []) l_Mo_341 M_Mo_leastIn_ok M_Mo_leastIn_st (by decide +kernel) rfl rfl (Nat.le_of_ble_eq_true rfl) (Nat.le_of_ble_eq_true rfl) k1
theorem b_Mo_clusters_81 {G : ev_G} {d k n : Nat} {h : ev_H} {R : Option Value → ev_H → Prop} {x1 : Int32} {x2 : Int32} {x3 : Int32} {x4 : Int32} {x5 : Int32} {x6 : Int64} {x8 : Int32} {x9 : Int64} {y0 : Int32}
  (k1 : y0 = x8 → x4 < (nI (pop x9)) → Ev G (d + 3) k n M_Mo_clusters 43 [.ref 102, .int x1, .int x2, .int (x3 + (1 : Int32)), .int (nI (pop x9)), .int x8, .long x6, ev_unk, .int (x8 + (1 : Int32)), ev_unk, ev_unk] [] h R)
  (k2 : y0 = x8 → ¬ x4 < (nI (pop x9)) → Ev G (d + 3) k n M_Mo_clusters 43 [.ref 102, .int x1, .int x2, .int (x3 + (1 : Int32)), .int x4, .int x5, .long x6, ev_unk, .int (x8 + (1 : Int32)), ev_unk, ev_unk] [] h R)
  (k3 : ¬ y0 = x8 → Ev G (d + 3) k n M_Mo_clusters 43 [.ref 102, .int x1, .int x2, .int x3, .int x4, .int x5, .long x6, ev_unk, .int (x8 + (1 : Int32)), ev_unk, ev_unk] [] h R)
  : Ev G (d + 3) k n M_Mo_clusters 81 [.ref 102, .int x1, .int x2, .int x3, .int x4, .int x5, .long x6, ev_unk, .int x8, .long x9, ev_unk] [.int y0] h R :=
  Ev.go (pc' := 83) (ls' := [.ref 102, .int x1, .int x2, .int x3, .int x4, .int x5, .long x6, ev_unk, .int x8, .long x9, ev_unk]) (st' := [.int x8, .int y0]) [.iload 8] (by decide +kernel) rfl <|
  Ev.br (i := .if_icmp .eq (6)) (P := y0 = x8) (t := 89) (f := 86) (r := []) (by decide +kernel) rfl (fun c1 =>
    Ev.go (pc' := 94) (ls' := [.ref 102, .int x1, .int x2, .int (x3 + (1 : Int32)), .int x4, .int x5, .long x6, ev_unk, .int x8, .long x9, ev_unk]) (st' := [.long x9]) [.iinc 3 (1), .lload 9] (by decide +kernel) rfl <|
    Ev.cS0 (M' := M_Mo_ones_J) (as := [.long x9]) (rest := []) l_Mo_88 M_Mo_ones_J_ok M_Mo_ones_J_st (by decide +kernel) rfl rfl (Nat.le_of_ble_eq_true rfl) (Nat.le_of_ble_eq_true rfl) (s_Mo_ones_J <| show Ev G (d + 3) _ _ M_Mo_clusters 97 [.ref 102, .int x1, .int x2, .int (x3 + (1 : Int32)), .int x4, .int x5, .long x6, ev_unk, .int x8, .long x9, ev_unk] [.int (nI (pop x9))] h R from
      Ev.go (pc' := 99) (ls' := [.ref 102, .int x1, .int x2, .int (x3 + (1 : Int32)), .int x4, .int x5, .long x6, ev_unk, .int x8, .long x9, ev_unk]) (st' := [.int x4, .int (nI (pop x9))]) [.iload 4] (by decide +kernel) rfl <|
      Ev.br (i := .if_icmp .gt (6)) (P := x4 < (nI (pop x9))) (t := 105) (f := 102) (r := []) (by decide +kernel) rfl (fun c2 =>
        Ev.go (pc' := 107) (ls' := [.ref 102, .int x1, .int x2, .int (x3 + (1 : Int32)), .int x4, .int x5, .long x6, ev_unk, .int x8, .long x9, ev_unk]) (st' := [.long x9]) [.lload 9] (by decide +kernel) rfl <|
        Ev.cS0 (M' := M_Mo_ones_J) (as := [.long x9]) (rest := []) l_Mo_88 M_Mo_ones_J_ok M_Mo_ones_J_st (by decide +kernel) rfl rfl (Nat.le_of_ble_eq_true rfl) (Nat.le_of_ble_eq_true rfl) (s_Mo_ones_J <| show Ev G (d + 3) _ _ M_Mo_clusters 110 [.ref 102, .int x1, .int x2, .int (x3 + (1 : Int32)), .int x4, .int x5, .long x6, ev_unk, .int x8, .long x9, ev_unk] [.int (nI (pop x9))] h R from
          Ev.go (pc' := 43) (ls' := [.ref 102, .int x1, .int x2, .int (x3 + (1 : Int32)), .int (nI (pop x9)), .int x8, .long x6, ev_unk, .int (x8 + (1 : Int32)), .long x9, ev_unk]) (st' := []) [.istore 4, .iload 8, .istore 5, .iinc 8 (1), .goto (-76)] (by decide +kernel) rfl <|
          Ev.forget (ls' := [.ref 102, .int x1, .int x2, .int (x3 + (1 : Int32)), .int (nI (pop x9)), .int x8, .long x6, ev_unk, .int (x8 + (1 : Int32)), ev_unk, ev_unk]) ⟨Or.inr rfl, Or.inr rfl, Or.inr rfl, Or.inr rfl, Or.inr rfl, Or.inr rfl, Or.inr rfl, Or.inr rfl, Or.inr rfl, Or.inl rfl, Or.inr rfl, trivial⟩ <|
          (k1 c1 c2)
        )
      ) (fun c2 =>
        Ev.go (pc' := 43) (ls' := [.ref 102, .int x1, .int x2, .int (x3 + (1 : Int32)), .int x4, .int x5, .long x6, ev_unk, .int (x8 + (1 : Int32)), .long x9, ev_unk]) (st' := []) [.goto (14), .iinc 8 (1), .goto (-76)] (by decide +kernel) rfl <|
        Ev.forget (ls' := [.ref 102, .int x1, .int x2, .int (x3 + (1 : Int32)), .int x4, .int x5, .long x6, ev_unk, .int (x8 + (1 : Int32)), ev_unk, ev_unk]) ⟨Or.inr rfl, Or.inr rfl, Or.inr rfl, Or.inr rfl, Or.inr rfl, Or.inr rfl, Or.inr rfl, Or.inr rfl, Or.inr rfl, Or.inl rfl, Or.inr rfl, trivial⟩ <|
        (k2 c1 c2)
      )
    )
  ) (fun c1 =>
    Ev.go (pc' := 43) (ls' := [.ref 102, .int x1, .int x2, .int x3, .int x4, .int x5, .long x6, ev_unk, .int (x8 + (1 : Int32)), .long x9, ev_unk]) (st' := []) [.goto (30), .iinc 8 (1), .goto (-76)] (by decide +kernel) rfl <|
    Ev.forget (ls' := [.ref 102, .int x1, .int x2, .int x3, .int x4, .int x5, .long x6, ev_unk, .int (x8 + (1 : Int32)), ev_unk, ev_unk]) ⟨Or.inr rfl, Or.inr rfl, Or.inr rfl, Or.inr rfl, Or.inr rfl, Or.inr rfl, Or.inr rfl, Or.inr rfl, Or.inr rfl, Or.inl rfl, Or.inr rfl, trivial⟩ <|
    (k3 c1)
  )
section S66
variable {G : ev_G} {d : Nat} {h h1 : ev_H} {R : Option Value → ev_H → Prop} {Q : QS}
theorem s_Mo_cluster2 {c r w : Int32} (H : MR h Q) (hR : ∀ h', Kp h h' 102 126 → MR h' (stQ Q (a_cluster (qS Q) c r w).2) → R (some (.int (a_cluster (qS Q) c r w).1)) h') : Ev G (d + 7) 0 0 M_Mo_cluster 0 [.ref 102, .int c, .int r, .int w, ev_unk, ev_unk, ev_unk, ev_unk] [] h R := by
  obtain ⟨bm, z, m1⟩ := H.2.1
  have hz := H.szN
  have hzB := H.szB
  have f : frB w.toInt64 0 2 = decide (0 ≤ w ∧ w < (3 : Int32)) := fr_dc (b := 2) (by omega)
  refine b_Mo_cluster_0 (d := d + 4) H.ms H.ok ⟨_, m1⟩ (fun c1 => m1) (fun c1 => ⟨_, m1⟩) (fun c1 c2 => m1) (fun c1 c2 => ⟨_, m1⟩) (fun c1 c2 => H.ms) (fun c1 c2 => H.ok) (fun c1 c2 => ⟨_, m1⟩) (fun c1 c2 c3 => m1) (fun c1 c2 c3 => ⟨_, m1⟩) (fun c1 c2 c3 => ⟨_, m1⟩) (fun c1 => H.fin (Kp.refl _ _ _) m1 hR (by unfold a_cluster; rw [b2i_e0 c1]; rfl)) (fun c1 c2 => H.fin (Kp.refl _ _ _) m1 hR (by rw [f] at c2; unfold a_cluster; rw [b2i_n0 c1, b2i_e0 c2]; rfl)) (fun c1 c2 c3 => H.fin (Kp.refl _ _ _) m1 hR (by rw [f] at c2; unfold a_cluster; rw [b2i_n0 c1, b2i_n0 c2, b2i_e0 c3]; rfl)) (fun c1 c2 c3 => ?_)
  rw [f] at c2
  have hr := vN_lt (by omega) (b2i_n0 c1)
  have hc := vN_lt (by omega) (b2i_n0 c3)
  have e : a_cluster (qS Q) c r w = if ctP (qS Q) (vN c) then (if w = 1 then (nI (cnt (cB (qS Q) (vN r) (vN c)) 32), 0) else if w = 0 then (frI (cB (qS Q) (vN r) (vN c)) 32, 0) else (oIx (mid (qS Q) (cB (qS Q) (vN r) (vN c))), 0)) else (-1, 6) := by unfold a_cluster; rw [if_pos (b2i_n0 c1), if_pos (b2i_n0 c2), if_pos (b2i_n0 c3)]; rfl
  rw [e] at hR
  clear e c1 c2 c3
  generalize vN r = rn at hr hR
  obtain ⟨rfl, hr⟩ := hr
  generalize vN c = cn at hc hR
  obtain ⟨rfl, hc⟩ := hc
  refine s_cnt H fun h1 K1 H1 => ?_
  have K1 : Kp h h1 102 126 := K1.wide (by omega) (by omega)
  obtain ⟨bm, z, m1⟩ := H1.2.1
  have tc : tbL (setL (ctP (qS Q))) (nI cn) = ctP (qS Q) cn := by rw [tbL_n (by omega), lt_setL, decide_eq_true (show cn < 32 by omega), Bool.true_and]
  refine b_Mo_cluster_44 (d := d + 4) (fun c1 => m1) (fun c1 => ⟨_, m1⟩) (fun c1 => ⟨_, m1⟩) (fun c1 => H1.fin K1 m1 hR (by rw [tc] at c1; rw [b2i_e0 c1]; rfl)) (fun c1 => ?_)
  rw [tc] at c1
  have c1 := b2i_n0 c1
  rw [if_pos c1] at hR
  refine (s_Mo_clusterOf (d := d) H1.ms H1.ok c1 (by omega) ?_).room (by omega) (Nat.le_refl _) (Nat.le_refl _)
  have fin : ∀ {v : Int32}, (if w = 1 then (nI (cnt (cB (qS Q) rn cn) 32), (0 : Int32)) else if w = 0 then (frI (cB (qS Q) rn cn) 32, 0) else (oIx (mid (qS Q) (cB (qS Q) rn cn)), 0)) = (v, 0) → Ev G (d + 7) 0 0 M_Mo_cluster 104 [.ref 102, .int (nI cn), .int (nI rn), .int w, .long (setL (ctP (qS Q))), ev_unk, .long (setL (cB (qS Q) rn cn)), ev_unk] [.int v, .ref 102] h1 R := fun {v} ev => b_Mo_cluster_104 (d := d + 4) m1 ⟨_, m1⟩ (H1.fin K1 m1 hR ev)
  refine b_Mo_cluster_70 (d := d + 4) (fun _ _ => ⟨_, m1⟩) (fun k => ?_) (fun k k2 => ?_) (fun k k2 => ?_)
  · have self := cB_self (r := rn) hz c1
    refine (s_leastIn (d := d) (c := cn) (by omega) self ?_).room (by omega) (Nat.le_refl _) (Nat.le_refl _)
    refine b_Mo_cluster_82 (d := d + 4) (fin ?_)
    have l := clL_le self
    have l : fst (cB (qS Q) rn cn) 32 ≤ cn := l
    rw [if_neg (by rw [k]; decide), if_pos k]
    unfold frI
    rw [if_pos (by omega)]
  · rw [pop_setL]
    exact fin (by rw [if_pos k2])
  · refine (s_Mo_middle (d := d) H1.ms H1.ok (fun j q => ct_N (cB_in hz c1 q)) ?_).room (by omega) (Nat.le_refl _) (Nat.le_refl _)
    exact fin (by rw [if_neg k2, if_neg k])
theorem s_Mo_clusters2 {r w : Int32} (H : MR h Q) (hR : ∀ h', Kp h h' 102 126 → MR h' (stQ Q (a_clusters (qS Q) r w).2) → R (some (.int (a_clusters (qS Q) r w).1)) h') : Ev G (d + 7) 0 0 M_Mo_clusters 0 [.ref 102, .int r, .int w, ev_unk, ev_unk, ev_unk, ev_unk, ev_unk, ev_unk, ev_unk, ev_unk] [] h R := by
  obtain ⟨bm, z, m1⟩ := H.2.1
  have hz := H.szN
  have hzB := H.szB
  have f : frB w.toInt64 0 2 = decide (0 ≤ w ∧ w < (3 : Int32)) := fr_dc (b := 2) (by omega)
  refine b_Mo_clusters_0 (d := d + 4) H.ms H.ok ⟨_, m1⟩ (fun c1 => m1) (fun c1 => ⟨_, m1⟩) (fun c1 c2 => m1) (fun c1 c2 => ⟨_, m1⟩) (fun c1 c2 => ⟨_, m1⟩) (fun c1 => H.fin (Kp.refl _ _ _) m1 hR (by unfold a_clusters; rw [b2i_e0 c1]; rfl)) (fun c1 c2 => H.fin (Kp.refl _ _ _) m1 hR (by rw [f] at c2; unfold a_clusters; rw [b2i_n0 c1, b2i_e0 c2]; rfl)) (fun c1 c2 => ?_)
  rw [f] at c2
  have hr := vN_lt (by omega) (b2i_n0 c1)
  have e : a_clusters (qS Q) r w = (if w = 2 then (if (mclF (qS Q) (vN r) (sN (qS Q))).2.2 = -1 then (-1, 5) else ((mclF (qS Q) (vN r) (sN (qS Q))).2.2, 0)) else if w = 0 then (nI (mclF (qS Q) (vN r) (sN (qS Q))).1, 0) else (nI (mclF (qS Q) (vN r) (sN (qS Q))).2.1, 0)) := by unfold a_clusters; rw [if_pos (b2i_n0 c1), if_pos (b2i_n0 c2), clsF_end hz]
  rw [e] at hR
  clear e c1 c2
  generalize vN r = rn at hr hR
  obtain ⟨rfl, hr⟩ := hr
  refine s_cnt H fun h1 K1 H1 => ?_
  have K1 : Kp h h1 102 126 := K1.wide (by omega) (by omega)
  obtain ⟨bm, z, m1⟩ := H1.2.1
  refine b_Mo_clusters_38 (d := d + 4) ?_
  have H := H1
  refine up_to (P := fun i => Ev G (d + 7) 0 0 M_Mo_clusters 43 [.ref 102, .int (nI rn), .int w, .int (nI (mclF (qS Q) rn i).1), .int (nI (mclF (qS Q) rn i).2.1), .int (mclF (qS Q) rn i).2.2, .long (setL (ctP (qS Q))), ev_unk, .int (nI i), ev_unk, ev_unk] [] h1 R) (N := sN (qS Q)) ?_ ?_ 0 (Nat.zero_le _)
  · intro i hi ih
    have yes : nI i < nI (sN (qS Q)) := nI_lt hi (by omega)
    have tc : tbL (setL (ctP (qS Q))) (nI i) = ctP (qS Q) i := by rw [tbL_n (by omega), lt_setL, decide_eq_true (show i < 32 by omega), Bool.true_and]
    have st : mclF (qS Q) rn (i + 1) = mcl1 (qS Q) rn i (mclF (qS Q) rn i) := rfl
    have lim := mclF_lim (qS Q) rn i
    rw [st] at ih
    revert ih lim
    generalize mclF (qS Q) rn i = y
    intro ih lim
    unfold mcl1 at ih
    refine b_Mo_clusters_43 (d := d + 4) H.ms ⟨_, m1⟩ (fun c1 c2 => ⟨_, m1⟩) (fun c1 c2 c3 => m1) (fun c1 c2 c3 => ⟨_, m1⟩) (fun c1 c2 c3 => m1) (fun c1 c2 c3 => ⟨_, m1⟩) (fun c1 c2 c3 => m1) (fun c1 c2 c3 => ⟨_, m1⟩) (fun c1 c2 c3 => m1) (fun c1 c2 c3 => ⟨_, m1⟩) (fun c1 c2 => ?_) (fun c1 c2 => ?_) (fun c1 c2 c3 => absurd yes c1) (fun c1 c2 c3 => absurd yes c1) (fun c1 c2 c3 => absurd yes c1) (fun c1 c2 c3 => absurd yes c1)
    · rw [tc] at c2
      rw [b2i_e0 c2] at ih
      rw [nI_1]; exact ih
    · rw [tc] at c2
      have c2 := b2i_n0 c2
      rw [c2, Bool.true_and] at ih
      have self := cB_self (r := rn) hz c2
      have l := clL_le self
      refine (s_Mo_clusterOf (d := d) H1.ms H1.ok c2 (by omega) ?_).room (by omega) (Nat.le_refl _) (Nat.le_refl _)
      refine b_Mo_clusters_74 (d := d + 4) ?_
      refine (s_leastIn (d := d) (c := i) (by omega) self ?_).room (by omega) (Nat.le_refl _) (Nat.le_refl _)
      have ll : fst (cB (qS Q) rn i) 32 = clL (qS Q) rn i := rfl
      have b := cnt_le (cB (qS Q) rn i) 32
      rw [ll]
      refine b_Mo_clusters_81 (d := d + 4) (fun k k2 => ?_) (fun k k2 => ?_) (fun k => ?_)
      · have k := (nI_eq (by omega) (by omega)).mp k
        rw [pop_setL] at k2 ⊢
        have k2 := (nI_ltI (by omega) (by omega)).mp k2
        rw [decide_eq_true k, if_pos rfl, if_pos k2, if_pos k2] at ih
        rw [nI_1, nI_1]; exact ih
      · have k := (nI_eq (by omega) (by omega)).mp k
        rw [pop_setL] at k2
        have k2 : ¬ y.2.1 < cnt (cB (qS Q) rn i) 32 := fun t => k2 (nI_lt t (by omega))
        rw [decide_eq_true k, if_pos rfl, if_neg k2, if_neg k2] at ih
        rw [nI_1, nI_1]; exact ih
      · have k : ¬ clL (qS Q) rn i = i := fun t => k (by rw [t])
        rw [decide_eq_false k] at ih
        rw [nI_1]; exact ih
  · have no := nl_self (n := sN (qS Q)) (by omega)
    revert hR
    generalize mclF (qS Q) rn (sN (qS Q)) = y
    intro hR
    refine b_Mo_clusters_43 (d := d + 4) H.ms ⟨_, m1⟩ (fun c1 c2 => ⟨_, m1⟩) (fun c1 c2 c3 => m1) (fun c1 c2 c3 => ⟨_, m1⟩) (fun c1 c2 c3 => m1) (fun c1 c2 c3 => ⟨_, m1⟩) (fun c1 c2 c3 => m1) (fun c1 c2 c3 => ⟨_, m1⟩) (fun c1 c2 c3 => m1) (fun c1 c2 c3 => ⟨_, m1⟩) (fun c1 c2 => absurd c1 no) (fun c1 c2 => absurd c1 no) (fun c1 c2 c3 => H1.fin K1 m1 hR (by rw [if_pos c2, if_pos c3])) (fun c1 c2 c3 => H1.fin K1 m1 hR (by rw [if_pos c2, if_neg c3])) (fun c1 c2 c3 => H1.fin K1 m1 hR (by rw [if_neg c2, if_pos c3])) (fun c1 c2 c3 => H1.fin K1 m1 hR (by rw [if_neg c2, if_neg c3]))
end S66
