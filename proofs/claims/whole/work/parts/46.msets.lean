/-! the model: what is asked of the codes that count -/
theorem b_Mo_onesAt_0 {G : ev_G} {d k n : Nat} {h : ev_H} {R : Option Value → ev_H → Prop} {x1 : Int32} {x2 : Int64}
  (k1 : Ev G (d + 2) k n M_Mo_onesAt 6 [.ref 102, .int x1, .long x2, ev_unk, .int (0 : Int32), .int (0 : Int32)] [] h R)
  : Ev G (d + 2) k n M_Mo_onesAt 0 [.ref 102, .int x1, .long x2, ev_unk, ev_unk, ev_unk] [] h R :=
  Ev.go (pc' := 6) (ls' := [.ref 102, .int x1, .long x2, ev_unk, .int (0 : Int32), .int (0 : Int32)]) (st' := []) [.iconst 0, .istore 4, .iconst 0, .istore 5] (by decide +kernel) rfl <|
  k1
theorem b_Mo_onesAt_6 {G : ev_G} {d k n : Nat} {h : ev_H} {R : Option Value → ev_H → Prop} {x1 : Int32} {x2 : Int64} {x4 : Int32} {x5 : Int32} {S1 : AS} {S2 : AS} {c_3 : Nat}
  (pr1 : MS h S1)
  (r2 : ∃ fs, hat h 102 (oC 9 fs))
  (pr3 : x5 < (nI (sN S1)) → ¬ (b2i (tbL x2 x5)) = (0 : Int32) → MS h S2)
  (pr4 : x5 < (nI (sN S1)) → ¬ (b2i (tbL x2 x5)) = (0 : Int32) → sOk S2)
  (pr5 : x5 < (nI (sN S1)) → ¬ (b2i (tbL x2 x5)) = (0 : Int32) → x5 = nI c_3 ∧ c_3 < sN S2)
  (r6 : x5 < (nI (sN S1)) → ¬ (b2i (tbL x2 x5)) = (0 : Int32) → ∃ fs, hat h 102 (oC 9 fs))
  (k1 : x5 < (nI (sN S1)) → (b2i (tbL x2 x5)) = (0 : Int32) → Ev G (d + 2) k n M_Mo_onesAt 6 [.ref 102, .int x1, .long x2, ev_unk, .int (x4 + (0 : Int32)), .int (x5 + (1 : Int32))] [] h R)
  (k2 : x5 < (nI (sN S1)) → ¬ (b2i (tbL x2 x5)) = (0 : Int32) → (b2i (tbL (sCo S2 c_3) x1)) = (0 : Int32) → Ev G (d + 2) k n M_Mo_onesAt 6 [.ref 102, .int x1, .long x2, ev_unk, .int (x4 + (0 : Int32)), .int (x5 + (1 : Int32))] [] h R)
  (k3 : x5 < (nI (sN S1)) → ¬ (b2i (tbL x2 x5)) = (0 : Int32) → ¬ (b2i (tbL (sCo S2 c_3) x1)) = (0 : Int32) → Ev G (d + 2) k n M_Mo_onesAt 6 [.ref 102, .int x1, .long x2, ev_unk, .int (x4 + (1 : Int32)), .int (x5 + (1 : Int32))] [] h R)
  (k4 : ¬ x5 < (nI (sN S1)) → R (some (.int x4)) h)
  : Ev G (d + 2) k n M_Mo_onesAt 6 [.ref 102, .int x1, .long x2, ev_unk, .int x4, .int x5] [] h R :=
  Ev.go (pc' := 9) (ls' := [.ref 102, .int x1, .long x2, ev_unk, .int x4, .int x5]) (st' := [.ref 102, .int x5]) [.iload 5, .aload_n 0] (by decide +kernel) rfl <|
  Ev.cV0 (M' := M_Mo_many_0) (as := []) (rest := [.int x5]) l_Mo_71 M_Mo_many_0_ok M_Mo_many_0_in M_Mo_many_0_se (by decide +kernel) r2 rfl rfl rfl (Nat.le_of_ble_eq_true rfl) (Nat.le_of_ble_eq_true rfl) (s_Mo_many_0 pr1 <| show Ev G (d + 2) _ _ M_Mo_onesAt 12 [.ref 102, .int x1, .long x2, ev_unk, .int x4, .int x5] [.int (nI (sN S1)), .int x5] h R from
    Ev.br (i := .if_icmp .ge (41)) (P := x5 < (nI (sN S1))) (t := 15) (f := 53) (r := []) (by decide +kernel) rfl (fun c1 =>
      Ev.go (pc' := 20) (ls' := [.ref 102, .int x1, .long x2, ev_unk, .int x4, .int x5]) (st' := [.int x5, .long x2, .int x4]) [.iload 4, .lload_n 2, .iload 5] (by decide +kernel) rfl <|
      Ev.cS0 (M' := M_Mo_has) (as := [.long x2, .int x5]) (rest := [.int x4]) l_Mo_271 M_Mo_has_ok M_Mo_has_st (by decide +kernel) rfl rfl (Nat.le_of_ble_eq_true rfl) (Nat.le_of_ble_eq_true rfl) (s_Mo_has <| show Ev G (d + 2) _ _ M_Mo_onesAt 23 [.ref 102, .int x1, .long x2, ev_unk, .int x4, .int x5] [.int (b2i (tbL x2 x5)), .int x4] h R from
        Ev.br (i := .ifCond .eq (20)) (P := (b2i (tbL x2 x5)) = (0 : Int32)) (t := 43) (f := 26) (r := [.int x4]) (by decide +kernel) rfl (fun c2 =>
          Ev.go (pc' := 6) (ls' := [.ref 102, .int x1, .long x2, ev_unk, .int (x4 + (0 : Int32)), .int (x5 + (1 : Int32))]) (st' := []) [.iconst 0, .iadd, .istore 4, .iinc 5 (1), .goto (-44)] (by decide +kernel) rfl <|
          (k1 c1 c2)
        ) (fun c2 =>
          Ev.go (pc' := 29) (ls' := [.ref 102, .int x1, .long x2, ev_unk, .int x4, .int x5]) (st' := [.int x5, .ref 102, .int x4]) [.aload_n 0, .iload 5] (by decide +kernel) rfl <|
          Ev.cV0 (M' := M_Mo_codeOf) (as := [.int x5]) (rest := [.int x4]) l_Mo_85 M_Mo_codeOf_ok M_Mo_codeOf_in M_Mo_codeOf_se (by decide +kernel) (r6 c1 c2) rfl rfl rfl (Nat.le_of_ble_eq_true rfl) (Nat.le_of_ble_eq_true rfl) (s_Mo_codeOf (pr3 c1 c2) (pr4 c1 c2) (pr5 c1 c2) <| show Ev G (d + 2) _ _ M_Mo_onesAt 32 [.ref 102, .int x1, .long x2, ev_unk, .int x4, .int x5] [.long (sCo S2 c_3), .int x4] h R from
            Ev.go (pc' := 33) (ls' := [.ref 102, .int x1, .long x2, ev_unk, .int x4, .int x5]) (st' := [.int x1, .long (sCo S2 c_3), .int x4]) [.iload_n 1] (by decide +kernel) rfl <|
            Ev.cS0 (M' := M_Mo_has) (as := [.long (sCo S2 c_3), .int x1]) (rest := [.int x4]) l_Mo_271 M_Mo_has_ok M_Mo_has_st (by decide +kernel) rfl rfl (Nat.le_of_ble_eq_true rfl) (Nat.le_of_ble_eq_true rfl) (s_Mo_has <| show Ev G (d + 2) _ _ M_Mo_onesAt 36 [.ref 102, .int x1, .long x2, ev_unk, .int x4, .int x5] [.int (b2i (tbL (sCo S2 c_3) x1)), .int x4] h R from
              Ev.br (i := .ifCond .eq (7)) (P := (b2i (tbL (sCo S2 c_3) x1)) = (0 : Int32)) (t := 43) (f := 39) (r := [.int x4]) (by decide +kernel) rfl (fun c3 =>
                Ev.go (pc' := 6) (ls' := [.ref 102, .int x1, .long x2, ev_unk, .int (x4 + (0 : Int32)), .int (x5 + (1 : Int32))]) (st' := []) [.iconst 0, .iadd, .istore 4, .iinc 5 (1), .goto (-44)] (by decide +kernel) rfl <|
                (k2 c1 c2 c3)
              ) (fun c3 =>
                Ev.go (pc' := 6) (ls' := [.ref 102, .int x1, .long x2, ev_unk, .int (x4 + (1 : Int32)), .int (x5 + (1 : Int32))]) (st' := []) [.iconst 1, .goto (4), .iadd, .istore 4, .iinc 5 (1), .goto (-44)] (by decide +kernel) rfl <|
                (k3 c1 c2 c3)
              )
            )
          )
        )
      )
    ) (fun c1 =>
      Ev.go (pc' := 55) (ls' := [.ref 102, .int x1, .long x2, ev_unk, .int x4, .int x5]) (st' := [.int x4]) [.iload 4] (by decide +kernel) rfl <|
      Ev.ret (r := (some (.int x4))) (Or.inl ⟨_, rfl, by decide +kernel, _, rfl, rfl⟩) (k4 c1)
    )
  )
section S46a
variable {G : ev_G} {d : Nat} {h : ev_H} {R : Option Value → ev_H → Prop} {S : AS}
theorem s_Mo_onesAt {set : Int64} {bI : Int32} {b : Nat} (H : MS h S) (ok : sOk S) (hb : bI = nI b ∧ b < 64) (hR : R (some (.int (nI (cnt (fun j => lt set j && lt (sCo S j) b) (sN S))))) h) : Ev G (d + 2) 0 0 M_Mo_onesAt 0 [.ref 102, .int bI, .long set, ev_unk, ev_unk, ev_unk] [] h R := by
  have ⟨v, z, g, m1, m2, sl⟩ := H
  have n32 := ok.2.2.2.2.1
  obtain ⟨rfl, hb⟩ := hb
  refine b_Mo_onesAt_0 ?_
  refine up0 (P := fun i => Ev G (d + 2) 0 0 M_Mo_onesAt 6 [.ref 102, .int (nI b), .long set, ev_unk, .int (nI (cnt (fun j => lt set j && lt (sCo S j) b) i)), .int (nI i)] [] h R) (sN S) ?_ ?_
  · intro i hi ih
    have f : cnt (fun j => lt set j && lt (sCo S j) b) (i + 1) = cnt (fun j => lt set j && lt (sCo S j) b) i + if (lt set i && lt (sCo S i) b) then 1 else 0 := rfl
    rw [f] at ih
    refine b_Mo_onesAt_6 (c_3 := i) H ⟨_, m1⟩ (fun c1 c2 => H) (fun c1 c2 => ok) (fun c1 c2 => ⟨rfl, hi⟩) (fun c1 c2 => ⟨_, m1⟩) (fun c1 c2 => ?_) (fun c1 c2 c3 => ?_) (fun c1 c2 c3 => ?_) (fun c1 => absurd (nI_lt hi (by omega)) c1)
    · rw [tbL_n (by omega)] at c2
      rw [b2i_e0 c2] at ih
      rw [show (0 : Int32) = nI 0 from rfl, nI_add, nI_1]; exact ih
    · rw [tbL_n (by omega)] at c2 c3
      rw [b2i_n0 c2, b2i_e0 c3] at ih
      rw [show (0 : Int32) = nI 0 from rfl, nI_add, nI_1]; exact ih
    · rw [tbL_n (by omega)] at c2 c3
      rw [b2i_n0 c2, b2i_n0 c3] at ih
      rw [nI_1, nI_1]; exact ih
  · refine b_Mo_onesAt_6 (c_3 := 0) H ⟨_, m1⟩ (fun c1 c2 => H) (fun c1 c2 => ok) (fun c1 c2 => absurd c1 (nl_self (by omega))) (fun c1 c2 => ⟨_, m1⟩) (fun c1 c2 => absurd c1 (nl_self (by omega))) (fun c1 c2 c3 => absurd c1 (nl_self (by omega))) (fun c1 c2 c3 => absurd c1 (nl_self (by omega))) (fun c1 => hR)
end S46a
theorem b_Mo_many_I_0 {G : ev_G} {d k n : Nat} {h : ev_H} {R : Option Value → ev_H → Prop} {x1 : Int32} {S1 : AS} {v_2 : MG} {z_3 : MP} {S4 : AS} {v_5 : MG} {z_6 : MP} {S7 : AS} {v_8 : MG} {z_9 : MP} {f_status_10 : Int32} {f_acts_11 : Int32} {f_marks_12 : Int32} {f_taped_13 : Int32} {f_size_14 : Int32} {f_token_15 : Int32} {f_begin_16 : Int32} {f_end_17 : Int32} {f_faults_18 : Int32} {f_faultPlace_19 : Int32} {f_faultKind_20 : Int32} {f_deep_21 : Int32} {f_value_22 : Int64} {f_broadMany_23 : Int32} {v_24 : MG} {z_25 : MP} {v_26 : MG} {z_27 : MP} {v_28 : MG} {z_29 : MP} {g_30 : Nat → Int64} {j_31 : Nat} {v_32 : MG} {z_33 : MP} {v_34 : MG} {z_35 : MP} {v_36 : MG} {z_37 : MP}
  (a12 : hat h 102 (oC 9 [.ref 103, .int f_status_10, .int f_acts_11, .int f_marks_12, .ref 104, .ref 105, .ref 106, .int f_taped_13, .int f_size_14, .int f_token_15, .int f_begin_16, .int f_end_17, .int f_faults_18, .int f_faultPlace_19, .int f_faultKind_20, .int f_deep_21, .long f_value_22, .ref 107, .ref 108, .ref 109, .ref 116, .int f_broadMany_23, .ref 124, .ref 125]))
  (pr1 : x1 = (0 : Int32) → MS h S1)
  (r2 : x1 = (0 : Int32) → ∃ fs, hat h 102 (oC 9 fs))
  (pr3 : x1 = (0 : Int32) → hat h 102 (moC v_2 z_3))
  (pr4 : x1 = (1 : Int32) → MS h S4)
  (r5 : x1 = (1 : Int32) → ∃ fs, hat h 102 (oC 9 fs))
  (pr6 : x1 = (1 : Int32) → hat h 102 (moC v_5 z_6))
  (pr7 : x1 = (2 : Int32) → MS h S7)
  (r8 : x1 = (2 : Int32) → ∃ fs, hat h 102 (oC 9 fs))
  (pr9 : x1 = (2 : Int32) → hat h 102 (moC v_8 z_9))
  (r10 : x1 = (3 : Int32) → ∃ fs, hat h 102 (oC 9 fs))
  (r11 : x1 = (4 : Int32) → ∃ fs, hat h 102 (oC 9 fs))
  (pr13 : x1 = (5 : Int32) → hat h 102 (moC v_24 z_25))
  (pr14 : x1 = (6 : Int32) → hat h 102 (moC v_26 z_27))
  (pr15 : x1 = (7 : Int32) → hat h 102 (moC v_28 z_29))
  (pr16 : x1 = (7 : Int32) → hat h 103 (aL 9758 g_30))
  (pr17 : x1 = (7 : Int32) → ev_ix (3 : Int32) j_31 9758)
  (r18 : x1 = (7 : Int32) → ∃ fs, hat h 102 (oC 9 fs))
  (pr19 : x1 = (7 : Int32) → (0 : Int64) < (g_30 j_31) → hat h 102 (moC v_32 z_33))
  (r20 : x1 = (7 : Int32) → (0 : Int64) < (g_30 j_31) → ∃ fs, hat h 102 (oC 9 fs))
  (pr21 : x1 = (7 : Int32) → ¬ (0 : Int64) < (g_30 j_31) → hat h 102 (moC v_34 z_35))
  (r22 : x1 = (7 : Int32) → ¬ (0 : Int64) < (g_30 j_31) → ∃ fs, hat h 102 (oC 9 fs))
  (pr23 : ¬ x1 = (0 : Int32) → ¬ x1 = (1 : Int32) → ¬ x1 = (2 : Int32) → ¬ x1 = (3 : Int32) → ¬ x1 = (4 : Int32) → ¬ x1 = (5 : Int32) → ¬ x1 = (6 : Int32) → ¬ x1 = (7 : Int32) → hat h 102 (moC v_36 z_37))
  (r24 : ¬ x1 = (0 : Int32) → ¬ x1 = (1 : Int32) → ¬ x1 = (2 : Int32) → ¬ x1 = (3 : Int32) → ¬ x1 = (4 : Int32) → ¬ x1 = (5 : Int32) → ¬ x1 = (6 : Int32) → ¬ x1 = (7 : Int32) → ∃ fs, hat h 102 (oC 9 fs))
  (k1 : x1 = (0 : Int32) → R (some (.int (nI (sB S1)))) (hset h 102 (moC (stV v_2 0) z_3)))
  (k2 : x1 = (1 : Int32) → R (some (.int (nI (sP S4)))) (hset h 102 (moC (stV v_5 0) z_6)))
  (k3 : x1 = (2 : Int32) → R (some (.int (nI (sN S7)))) (hset h 102 (moC (stV v_8 0) z_9)))
  (k4 : x1 = (3 : Int32) → Ev G (d + 1) 0 0 M_Mo_counting 0 [.ref 102, ev_unk, ev_unk, ev_unk] [] h (fun r h1 => Ev G (d + 2) k n M_Mo_many_I 80 [.ref 102, .int x1] (r.toList ++ [.ref 102]) h1 R))
  (k5 : x1 = (4 : Int32) → Ev G (d + 1) 0 0 M_Mo_counting 0 [.ref 102, ev_unk, ev_unk, ev_unk] [] h (fun r h1 => Ev G (d + 2) k n M_Mo_many_I 92 [.ref 102, .int x1] (r.toList ++ [.ref 102]) h1 R))
  (k6 : x1 = (5 : Int32) → R (some (.int f_acts_11)) (hset h 102 (moC (stV v_24 0) z_25)))
  (k7 : x1 = (6 : Int32) → R (some (.int f_marks_12)) (hset h 102 (moC (stV v_26 0) z_27)))
  (k8 : x1 = (7 : Int32) → (0 : Int64) < (g_30 j_31) → R (some (.int (1 : Int32))) (hset h 102 (moC (stV v_32 0) z_33)))
  (k9 : x1 = (7 : Int32) → ¬ (0 : Int64) < (g_30 j_31) → R (some (.int (0 : Int32))) (hset h 102 (moC (stV v_34 0) z_35)))
  (k10 : ¬ x1 = (0 : Int32) → ¬ x1 = (1 : Int32) → ¬ x1 = (2 : Int32) → ¬ x1 = (3 : Int32) → ¬ x1 = (4 : Int32) → ¬ x1 = (5 : Int32) → ¬ x1 = (6 : Int32) → ¬ x1 = (7 : Int32) → R (some (.int (-1 : Int32))) (hset h 102 (moC (stV v_36 (1 : Int32)) z_37)))
  : Ev G (d + 2) k n M_Mo_many_I 0 [.ref 102, .int x1] [] h R :=
  Ev.go (pc' := 1) (ls' := [.ref 102, .int x1]) (st' := [.int x1]) [.iload_n 1] (by decide +kernel) rfl <|
  if c1_0 : x1 = (0 : Int32) then Ev.tsw (t := 48) (off := 47) (o := 134) (lo := 0) (hi := 7) (offs := #[47, 56, 65, 74, 86, 96, 105, 114]) (len := 47) (by decide +kernel) (by rw [c1_0]; decide) (by rw [c1_0]; decide) (by rw [c1_0]; decide) rfl <|
    Ev.go (pc' := 50) (ls' := [.ref 102, .int x1]) (st' := [.ref 102, .ref 102]) [.aload_n 0, .aload_n 0] (by decide +kernel) rfl <|
    Ev.cV0 (M' := M_Mo_bits) (as := []) (rest := [.ref 102]) l_Mo_78 M_Mo_bits_ok M_Mo_bits_in M_Mo_bits_se (by decide +kernel) (r2 c1_0) rfl rfl rfl (Nat.le_of_ble_eq_true rfl) (Nat.le_of_ble_eq_true rfl) (s_Mo_bits (pr1 c1_0) <| show Ev G (d + 2) _ _ M_Mo_many_I 53 [.ref 102, .int x1] [.int (nI (sB S1)), .ref 102] h R from
      Ev.cV0 (M' := M_Mo_gives_I) (as := [.int (nI (sB S1))]) (rest := []) l_Mo_245 M_Mo_gives_I_ok M_Mo_gives_I_in M_Mo_gives_I_se (by decide +kernel) (r2 c1_0) rfl rfl rfl (Nat.le_of_ble_eq_true rfl) (Nat.le_of_ble_eq_true rfl) (s_Mo_gives_I (pr3 c1_0) <| show Ev G (d + 2) _ _ M_Mo_many_I 56 [.ref 102, .int x1] [.int (nI (sB S1))] (hset h 102 (moC (stV v_2 0) z_3)) R from
        Ev.ret (r := (some (.int (nI (sB S1))))) (Or.inl ⟨_, rfl, by decide +kernel, _, rfl, rfl⟩) (k1 c1_0)
      )
    )
  else
  if c1_1 : x1 = (1 : Int32) then Ev.tsw (t := 57) (off := 56) (o := 134) (lo := 0) (hi := 7) (offs := #[47, 56, 65, 74, 86, 96, 105, 114]) (len := 47) (by decide +kernel) (by rw [c1_1]; decide) (by rw [c1_1]; decide) (by rw [c1_1]; decide) rfl <|
    Ev.go (pc' := 59) (ls' := [.ref 102, .int x1]) (st' := [.ref 102, .ref 102]) [.aload_n 0, .aload_n 0] (by decide +kernel) rfl <|
    Ev.cV0 (M' := M_Mo_parts) (as := []) (rest := [.ref 102]) l_Mo_75 M_Mo_parts_ok M_Mo_parts_in M_Mo_parts_se (by decide +kernel) (r5 c1_1) rfl rfl rfl (Nat.le_of_ble_eq_true rfl) (Nat.le_of_ble_eq_true rfl) (s_Mo_parts (pr4 c1_1) <| show Ev G (d + 2) _ _ M_Mo_many_I 62 [.ref 102, .int x1] [.int (nI (sP S4)), .ref 102] h R from
      Ev.cV0 (M' := M_Mo_gives_I) (as := [.int (nI (sP S4))]) (rest := []) l_Mo_245 M_Mo_gives_I_ok M_Mo_gives_I_in M_Mo_gives_I_se (by decide +kernel) (r5 c1_1) rfl rfl rfl (Nat.le_of_ble_eq_true rfl) (Nat.le_of_ble_eq_true rfl) (s_Mo_gives_I (pr6 c1_1) <| show Ev G (d + 2) _ _ M_Mo_many_I 65 [.ref 102, .int x1] [.int (nI (sP S4))] (hset h 102 (moC (stV v_5 0) z_6)) R from
        Ev.ret (r := (some (.int (nI (sP S4))))) (Or.inl ⟨_, rfl, by decide +kernel, _, rfl, rfl⟩) (k2 c1_1)
      )
    )
  else
  if c1_2 : x1 = (2 : Int32) then Ev.tsw (t := 66) (off := 65) (o := 134) (lo := 0) (hi := 7) (offs := #[47, 56, 65, 74, 86, 96, 105, 114]) (len := 47) (by decide +kernel) (by rw [c1_2]; decide) (by rw [c1_2]; decide) (by rw [c1_2]; decide) rfl <|
    Ev.go (pc' := 68) (ls' := [.ref 102, .int x1]) (st' := [.ref 102, .ref 102]) [.aload_n 0, .aload_n 0] (by decide +kernel) rfl <|
    Ev.cV0 (M' := M_Mo_many_0) (as := []) (rest := [.ref 102]) l_Mo_71 M_Mo_many_0_ok M_Mo_many_0_in M_Mo_many_0_se (by decide +kernel) (r8 c1_2) rfl rfl rfl (Nat.le_of_ble_eq_true rfl) (Nat.le_of_ble_eq_true rfl) (s_Mo_many_0 (pr7 c1_2) <| show Ev G (d + 2) _ _ M_Mo_many_I 71 [.ref 102, .int x1] [.int (nI (sN S7)), .ref 102] h R from
      Ev.cV0 (M' := M_Mo_gives_I) (as := [.int (nI (sN S7))]) (rest := []) l_Mo_245 M_Mo_gives_I_ok M_Mo_gives_I_in M_Mo_gives_I_se (by decide +kernel) (r8 c1_2) rfl rfl rfl (Nat.le_of_ble_eq_true rfl) (Nat.le_of_ble_eq_true rfl) (s_Mo_gives_I (pr9 c1_2) <| show Ev G (d + 2) _ _ M_Mo_many_I 74 [.ref 102, .int x1] [.int (nI (sN S7))] (hset h 102 (moC (stV v_8 0) z_9)) R from
        Ev.ret (r := (some (.int (nI (sN S7))))) (Or.inl ⟨_, rfl, by decide +kernel, _, rfl, rfl⟩) (k3 c1_2)
      )
    )
  else
  if c1_3 : x1 = (3 : Int32) then Ev.tsw (t := 75) (off := 74) (o := 134) (lo := 0) (hi := 7) (offs := #[47, 56, 65, 74, 86, 96, 105, 114]) (len := 47) (by decide +kernel) (by rw [c1_3]; decide) (by rw [c1_3]; decide) (by rw [c1_3]; decide) rfl <|
    Ev.go (pc' := 77) (ls' := [.ref 102, .int x1]) (st' := [.ref 102, .ref 102]) [.aload_n 0, .aload_n 0] (by decide +kernel) rfl <|
    Ev.cV0 (M' := M_Mo_counting) (as := []) (rest := [.ref 102]) l_Mo_248 M_Mo_counting_ok M_Mo_counting_in M_Mo_counting_se (by decide +kernel) (r10 c1_3) rfl rfl rfl (Nat.le_of_ble_eq_true rfl) (Nat.le_of_ble_eq_true rfl) (k4 c1_3)
  else
  if c1_4 : x1 = (4 : Int32) then Ev.tsw (t := 87) (off := 86) (o := 134) (lo := 0) (hi := 7) (offs := #[47, 56, 65, 74, 86, 96, 105, 114]) (len := 47) (by decide +kernel) (by rw [c1_4]; decide) (by rw [c1_4]; decide) (by rw [c1_4]; decide) rfl <|
    Ev.go (pc' := 89) (ls' := [.ref 102, .int x1]) (st' := [.ref 102, .ref 102]) [.aload_n 0, .aload_n 0] (by decide +kernel) rfl <|
    Ev.cV0 (M' := M_Mo_counting) (as := []) (rest := [.ref 102]) l_Mo_248 M_Mo_counting_ok M_Mo_counting_in M_Mo_counting_se (by decide +kernel) (r11 c1_4) rfl rfl rfl (Nat.le_of_ble_eq_true rfl) (Nat.le_of_ble_eq_true rfl) (k5 c1_4)
  else
  if c1_5 : x1 = (5 : Int32) then Ev.tsw (t := 97) (off := 96) (o := 134) (lo := 0) (hi := 7) (offs := #[47, 56, 65, 74, 86, 96, 105, 114]) (len := 47) (by decide +kernel) (by rw [c1_5]; decide) (by rw [c1_5]; decide) (by rw [c1_5]; decide) rfl <|
    Ev.go (pc' := 99) (ls' := [.ref 102, .int x1]) (st' := [.ref 102, .ref 102]) [.aload_n 0, .aload_n 0] (by decide +kernel) rfl <|
    Ev.getf f_Mo_252 (by decide +kernel) a12 rfl <|
    Ev.cV0 (M' := M_Mo_gives_I) (as := [.int f_acts_11]) (rest := []) l_Mo_245 M_Mo_gives_I_ok M_Mo_gives_I_in M_Mo_gives_I_se (by decide +kernel) ⟨_, a12⟩ rfl rfl rfl (Nat.le_of_ble_eq_true rfl) (Nat.le_of_ble_eq_true rfl) (s_Mo_gives_I (pr13 c1_5) <| show Ev G (d + 2) _ _ M_Mo_many_I 105 [.ref 102, .int x1] [.int f_acts_11] (hset h 102 (moC (stV v_24 0) z_25)) R from
      Ev.ret (r := (some (.int f_acts_11))) (Or.inl ⟨_, rfl, by decide +kernel, _, rfl, rfl⟩) (k6 c1_5)
    )
  else
  if c1_6 : x1 = (6 : Int32) then Ev.tsw (t := 106) (off := 105) (o := 134) (lo := 0) (hi := 7) (offs := #[47, 56, 65, 74, 86, 96, 105, 114]) (len := 47) (by decide +kernel) (by rw [c1_6]; decide) (by rw [c1_6]; decide) (by rw [c1_6]; decide) rfl <|
    Ev.go (pc' := 108) (ls' := [.ref 102, .int x1]) (st' := [.ref 102, .ref 102]) [.aload_n 0, .aload_n 0] (by decide +kernel) rfl <|
    Ev.getf f_Mo_255 (by decide +kernel) a12 rfl <|
    Ev.cV0 (M' := M_Mo_gives_I) (as := [.int f_marks_12]) (rest := []) l_Mo_245 M_Mo_gives_I_ok M_Mo_gives_I_in M_Mo_gives_I_se (by decide +kernel) ⟨_, a12⟩ rfl rfl rfl (Nat.le_of_ble_eq_true rfl) (Nat.le_of_ble_eq_true rfl) (s_Mo_gives_I (pr14 c1_6) <| show Ev G (d + 2) _ _ M_Mo_many_I 114 [.ref 102, .int x1] [.int f_marks_12] (hset h 102 (moC (stV v_26 0) z_27)) R from
      Ev.ret (r := (some (.int f_marks_12))) (Or.inl ⟨_, rfl, by decide +kernel, _, rfl, rfl⟩) (k7 c1_6)
    )
  else
  if c1_7 : x1 = (7 : Int32) then Ev.tsw (t := 115) (off := 114) (o := 134) (lo := 0) (hi := 7) (offs := #[47, 56, 65, 74, 86, 96, 105, 114]) (len := 47) (by decide +kernel) (by rw [c1_7]; decide) (by rw [c1_7]; decide) (by rw [c1_7]; decide) rfl <|
    Ev.go (pc' := 118) (ls' := [.ref 102, .int x1]) (st' := [.int (3 : Int32), .ref 102, .ref 102]) [.aload_n 0, .aload_n 0, .iconst 3] (by decide +kernel) rfl <|
    Ev.cV0 (M' := M_Mo_of) (as := [.int (3 : Int32)]) (rest := [.ref 102]) l_Mo_64 M_Mo_of_ok M_Mo_of_in M_Mo_of_se (by decide +kernel) (r18 c1_7) rfl rfl rfl (Nat.le_of_ble_eq_true rfl) (Nat.le_of_ble_eq_true rfl) (s_Mo_of (pr15 c1_7) (pr16 c1_7) (pr17 c1_7) <| show Ev G (d + 2) _ _ M_Mo_many_I 121 [.ref 102, .int x1] [.long (g_30 j_31), .ref 102] h R from
      Ev.go (pc' := 122) (ls' := [.ref 102, .int x1]) (st' := [.long (0 : Int64), .long (g_30 j_31), .ref 102]) [.lconst 0] (by decide +kernel) rfl <|
      Ev.brl (c := .le) (o := 7) (P := (0 : Int64) < (g_30 j_31)) (t := 126) (f := 130) (t1 := 130) (by decide +kernel) (by decide +kernel) rfl rfl (fun c2 =>
        Ev.go (pc' := 131) (ls' := [.ref 102, .int x1]) (st' := [.int (1 : Int32), .ref 102]) [.iconst 1, .goto (4)] (by decide +kernel) rfl <|
        Ev.cV0 (M' := M_Mo_gives_I) (as := [.int (1 : Int32)]) (rest := []) l_Mo_245 M_Mo_gives_I_ok M_Mo_gives_I_in M_Mo_gives_I_se (by decide +kernel) (r20 c1_7 c2) rfl rfl rfl (Nat.le_of_ble_eq_true rfl) (Nat.le_of_ble_eq_true rfl) (s_Mo_gives_I (pr19 c1_7 c2) <| show Ev G (d + 2) _ _ M_Mo_many_I 134 [.ref 102, .int x1] [.int (1 : Int32)] (hset h 102 (moC (stV v_32 0) z_33)) R from
          Ev.ret (r := (some (.int (1 : Int32)))) (Or.inl ⟨_, rfl, by decide +kernel, _, rfl, rfl⟩) (k8 c1_7 c2)
        )
      ) (fun c2 =>
        Ev.go (pc' := 131) (ls' := [.ref 102, .int x1]) (st' := [.int (0 : Int32), .ref 102]) [.iconst 0] (by decide +kernel) rfl <|
        Ev.cV0 (M' := M_Mo_gives_I) (as := [.int (0 : Int32)]) (rest := []) l_Mo_245 M_Mo_gives_I_ok M_Mo_gives_I_in M_Mo_gives_I_se (by decide +kernel) (r22 c1_7 c2) rfl rfl rfl (Nat.le_of_ble_eq_true rfl) (Nat.le_of_ble_eq_true rfl) (s_Mo_gives_I (pr21 c1_7 c2) <| show Ev G (d + 2) _ _ M_Mo_many_I 134 [.ref 102, .int x1] [.int (0 : Int32)] (hset h 102 (moC (stV v_34 0) z_35)) R from
          Ev.ret (r := (some (.int (0 : Int32)))) (Or.inl ⟨_, rfl, by decide +kernel, _, rfl, rfl⟩) (k9 c1_7 c2)
        )
      )
    )
  else
  Ev.tswd (t := 135) (o := 134) (lo := 0) (hi := 7) (offs := #[47, 56, 65, 74, 86, 96, 105, 114]) (len := 47) (by decide +kernel) (by have qc1_0 := ne_i (v := 0) (0 : Int32) (by decide) c1_0; have qc1_1 := ne_i (v := 1) (1 : Int32) (by decide) c1_1; have qc1_2 := ne_i (v := 2) (2 : Int32) (by decide) c1_2; have qc1_3 := ne_i (v := 3) (3 : Int32) (by decide) c1_3; have qc1_4 := ne_i (v := 4) (4 : Int32) (by decide) c1_4; have qc1_5 := ne_i (v := 5) (5 : Int32) (by decide) c1_5; have qc1_6 := ne_i (v := 6) (6 : Int32) (by decide) c1_6; have qc1_7 := ne_i (v := 7) (7 : Int32) (by decide) c1_7; omega) rfl <|
    Ev.go (pc' := 137) (ls' := [.ref 102, .int x1]) (st' := [.int (1 : Int32), .ref 102]) [.aload_n 0, .iconst 1] (by decide +kernel) rfl <|
    Ev.cV0 (M' := M_Mo_refuse) (as := [.int (1 : Int32)]) (rest := []) l_Mo_226 M_Mo_refuse_ok M_Mo_refuse_in M_Mo_refuse_se (by decide +kernel) (r24 c1_0 c1_1 c1_2 c1_3 c1_4 c1_5 c1_6 c1_7) rfl rfl rfl (Nat.le_of_ble_eq_true rfl) (Nat.le_of_ble_eq_true rfl) (s_Mo_refuse (pr23 c1_0 c1_1 c1_2 c1_3 c1_4 c1_5 c1_6 c1_7) <| show Ev G (d + 2) _ _ M_Mo_many_I 140 [.ref 102, .int x1] [.int (-1 : Int32)] (hset h 102 (moC (stV v_36 (1 : Int32)) z_37)) R from
      Ev.ret (r := (some (.int (-1 : Int32)))) (Or.inl ⟨_, rfl, by decide +kernel, _, rfl, rfl⟩) (k10 c1_0 c1_1 c1_2 c1_3 c1_4 c1_5 c1_6 c1_7)
    )
  
theorem b_Mo_many_I_80 {G : ev_G} {d k n : Nat} {h : ev_H} {R : Option Value → ev_H → Prop} {x1 : Int32} {y1 : Int64} {v_1 : MG} {z_2 : MP}
  (pr1 : hat h 102 (moC v_1 z_2))
  (r2 : ∃ fs, hat h 102 (oC 9 fs))
  (k1 : R (some (.int (nI (pop y1)))) (hset h 102 (moC (stV v_1 0) z_2)))
  : Ev G (d + 2) k n M_Mo_many_I 80 [.ref 102, .int x1] [.long y1, .ref 102] h R :=
  Ev.cS0 (M' := M_Mo_ones_J) (as := [.long y1]) (rest := [.ref 102]) l_Mo_88 M_Mo_ones_J_ok M_Mo_ones_J_st (by decide +kernel) rfl rfl (Nat.le_of_ble_eq_true rfl) (Nat.le_of_ble_eq_true rfl) (s_Mo_ones_J <| show Ev G (d + 2) _ _ M_Mo_many_I 83 [.ref 102, .int x1] [.int (nI (pop y1)), .ref 102] h R from
    Ev.cV0 (M' := M_Mo_gives_I) (as := [.int (nI (pop y1))]) (rest := []) l_Mo_245 M_Mo_gives_I_ok M_Mo_gives_I_in M_Mo_gives_I_se (by decide +kernel) r2 rfl rfl rfl (Nat.le_of_ble_eq_true rfl) (Nat.le_of_ble_eq_true rfl) (s_Mo_gives_I pr1 <| show Ev G (d + 2) _ _ M_Mo_many_I 86 [.ref 102, .int x1] [.int (nI (pop y1))] (hset h 102 (moC (stV v_1 0) z_2)) R from
      Ev.ret (r := (some (.int (nI (pop y1))))) (Or.inl ⟨_, rfl, by decide +kernel, _, rfl, rfl⟩) k1
    )
  )
theorem b_Mo_many_I_92 {G : ev_G} {d k n : Nat} {h : ev_H} {R : Option Value → ev_H → Prop} {x1 : Int32} {y1 : Int64} {v_1 : MG} {z_2 : MP}
  (pr1 : hat h 102 (moC v_1 z_2))
  (r2 : ∃ fs, hat h 102 (oC 9 fs))
  (k1 : R (some (.int y1.toInt32)) (hset h 102 (moC (stV v_1 0) z_2)))
  : Ev G (d + 2) k n M_Mo_many_I 92 [.ref 102, .int x1] [.long y1, .ref 102] h R :=
  Ev.go (pc' := 93) (ls' := [.ref 102, .int x1]) (st' := [.int y1.toInt32, .ref 102]) [.l2i] (by decide +kernel) rfl <|
  Ev.cV0 (M' := M_Mo_gives_I) (as := [.int y1.toInt32]) (rest := []) l_Mo_245 M_Mo_gives_I_ok M_Mo_gives_I_in M_Mo_gives_I_se (by decide +kernel) r2 rfl rfl rfl (Nat.le_of_ble_eq_true rfl) (Nat.le_of_ble_eq_true rfl) (s_Mo_gives_I pr1 <| show Ev G (d + 2) _ _ M_Mo_many_I 96 [.ref 102, .int x1] [.int y1.toInt32] (hset h 102 (moC (stV v_1 0) z_2)) R from
    Ev.ret (r := (some (.int y1.toInt32))) (Or.inl ⟨_, rfl, by decide +kernel, _, rfl, rfl⟩) k1
  )
theorem b_Mo_like_0 {G : ev_G} {d k n : Nat} {h : ev_H} {R : Option Value → ev_H → Prop} {x1 : Int64} {x3 : Int64} {S1 : AS} {v_2 : MG} {z_3 : MP} {S4 : AS} {v_5 : MG} {z_6 : MP}
  (pr1 : MS h S1)
  (r2 : ∃ fs, hat h 102 (oC 9 fs))
  (pr3 : (b2i (numB x1 (sB S1))) = (0 : Int32) → hat h 102 (moC v_2 z_3))
  (r4 : (b2i (numB x1 (sB S1))) = (0 : Int32) → ∃ fs, hat h 102 (oC 9 fs))
  (pr5 : ¬ (b2i (numB x1 (sB S1))) = (0 : Int32) → MS h S4)
  (r6 : ¬ (b2i (numB x1 (sB S1))) = (0 : Int32) → ∃ fs, hat h 102 (oC 9 fs))
  (pr7 : ¬ (b2i (numB x1 (sB S1))) = (0 : Int32) → (b2i (numB x3 (sB S4))) = (0 : Int32) → hat h 102 (moC v_5 z_6))
  (r8 : ¬ (b2i (numB x1 (sB S1))) = (0 : Int32) → (b2i (numB x3 (sB S4))) = (0 : Int32) → ∃ fs, hat h 102 (oC 9 fs))
  (k1 : (b2i (numB x1 (sB S1))) = (0 : Int32) → R (some (.int (-1 : Int32))) (hset h 102 (moC (stV v_2 (1 : Int32)) z_3)))
  (k2 : ¬ (b2i (numB x1 (sB S1))) = (0 : Int32) → (b2i (numB x3 (sB S4))) = (0 : Int32) → R (some (.int (-1 : Int32))) (hset h 102 (moC (stV v_5 (1 : Int32)) z_6)))
  (k3 : ¬ (b2i (numB x1 (sB S1))) = (0 : Int32) → ¬ (b2i (numB x3 (sB S4))) = (0 : Int32) → Ev G (d + 3) k n M_Mo_like 28 [.ref 102, .long x1, ev_unk, .long x3, ev_unk, .long (0 : Int64), ev_unk, .int (0 : Int32)] [] h R)
  : Ev G (d + 3) k n M_Mo_like 0 [.ref 102, .long x1, ev_unk, .long x3, ev_unk, ev_unk, ev_unk, ev_unk] [] h R :=
  Ev.go (pc' := 2) (ls' := [.ref 102, .long x1, ev_unk, .long x3, ev_unk, ev_unk, ev_unk, ev_unk]) (st' := [.long x1, .ref 102]) [.aload_n 0, .lload_n 1] (by decide +kernel) rfl <|
  Ev.cV0 (M' := M_Mo_isNumber) (as := [.long x1]) (rest := []) l_Mo_267 M_Mo_isNumber_ok M_Mo_isNumber_in M_Mo_isNumber_se (by decide +kernel) r2 rfl rfl rfl (Nat.le_of_ble_eq_true rfl) (Nat.le_of_ble_eq_true rfl) (s_Mo_isNumber pr1 <| show Ev G (d + 3) _ _ M_Mo_like 5 [.ref 102, .long x1, ev_unk, .long x3, ev_unk, ev_unk, ev_unk, ev_unk] [.int (b2i (numB x1 (sB S1)))] h R from
    Ev.br (i := .ifCond .eq (11)) (P := (b2i (numB x1 (sB S1))) = (0 : Int32)) (t := 16) (f := 8) (r := []) (by decide +kernel) rfl (fun c1 =>
      Ev.go (pc' := 18) (ls' := [.ref 102, .long x1, ev_unk, .long x3, ev_unk, ev_unk, ev_unk, ev_unk]) (st' := [.int (1 : Int32), .ref 102]) [.aload_n 0, .iconst 1] (by decide +kernel) rfl <|
      Ev.cV0 (M' := M_Mo_refuse) (as := [.int (1 : Int32)]) (rest := []) l_Mo_226 M_Mo_refuse_ok M_Mo_refuse_in M_Mo_refuse_se (by decide +kernel) (r4 c1) rfl rfl rfl (Nat.le_of_ble_eq_true rfl) (Nat.le_of_ble_eq_true rfl) (s_Mo_refuse (pr3 c1) <| show Ev G (d + 3) _ _ M_Mo_like 21 [.ref 102, .long x1, ev_unk, .long x3, ev_unk, ev_unk, ev_unk, ev_unk] [.int (-1 : Int32)] (hset h 102 (moC (stV v_2 (1 : Int32)) z_3)) R from
        Ev.ret (r := (some (.int (-1 : Int32)))) (Or.inl ⟨_, rfl, by decide +kernel, _, rfl, rfl⟩) (k1 c1)
      )
    ) (fun c1 =>
      Ev.go (pc' := 10) (ls' := [.ref 102, .long x1, ev_unk, .long x3, ev_unk, ev_unk, ev_unk, ev_unk]) (st' := [.long x3, .ref 102]) [.aload_n 0, .lload_n 3] (by decide +kernel) rfl <|
      Ev.cV0 (M' := M_Mo_isNumber) (as := [.long x3]) (rest := []) l_Mo_267 M_Mo_isNumber_ok M_Mo_isNumber_in M_Mo_isNumber_se (by decide +kernel) (r6 c1) rfl rfl rfl (Nat.le_of_ble_eq_true rfl) (Nat.le_of_ble_eq_true rfl) (s_Mo_isNumber (pr5 c1) <| show Ev G (d + 3) _ _ M_Mo_like 13 [.ref 102, .long x1, ev_unk, .long x3, ev_unk, ev_unk, ev_unk, ev_unk] [.int (b2i (numB x3 (sB S4)))] h R from
        Ev.br (i := .ifCond .ne (9)) (P := (b2i (numB x3 (sB S4))) = (0 : Int32)) (t := 16) (f := 22) (r := []) (by decide +kernel) rfl (fun c2 =>
          Ev.go (pc' := 18) (ls' := [.ref 102, .long x1, ev_unk, .long x3, ev_unk, ev_unk, ev_unk, ev_unk]) (st' := [.int (1 : Int32), .ref 102]) [.aload_n 0, .iconst 1] (by decide +kernel) rfl <|
          Ev.cV0 (M' := M_Mo_refuse) (as := [.int (1 : Int32)]) (rest := []) l_Mo_226 M_Mo_refuse_ok M_Mo_refuse_in M_Mo_refuse_se (by decide +kernel) (r8 c1 c2) rfl rfl rfl (Nat.le_of_ble_eq_true rfl) (Nat.le_of_ble_eq_true rfl) (s_Mo_refuse (pr7 c1 c2) <| show Ev G (d + 3) _ _ M_Mo_like 21 [.ref 102, .long x1, ev_unk, .long x3, ev_unk, ev_unk, ev_unk, ev_unk] [.int (-1 : Int32)] (hset h 102 (moC (stV v_5 (1 : Int32)) z_6)) R from
            Ev.ret (r := (some (.int (-1 : Int32)))) (Or.inl ⟨_, rfl, by decide +kernel, _, rfl, rfl⟩) (k2 c1 c2)
          )
        ) (fun c2 =>
          Ev.go (pc' := 28) (ls' := [.ref 102, .long x1, ev_unk, .long x3, ev_unk, .long (0 : Int64), ev_unk, .int (0 : Int32)]) (st' := []) [.lconst 0, .lstore 5, .iconst 0, .istore 7] (by decide +kernel) rfl <|
          (k3 c1 c2)
        )
      )
    )
  )
theorem b_Mo_like_28 {G : ev_G} {d k n : Nat} {h : ev_H} {R : Option Value → ev_H → Prop} {x1 : Int64} {x3 : Int64} {x5 : Int64} {x7 : Int32} {S1 : AS} {v_2 : MG} {z_3 : MP}
  (pr1 : MS h S1)
  (r2 : ∃ fs, hat h 102 (oC 9 fs))
  (r3 : x7 < (nI (sN S1)) → ∃ fs, hat h 102 (oC 9 fs))
  (pr4 : ¬ x7 < (nI (sN S1)) → hat h 102 (moC v_2 z_3))
  (r5 : ¬ x7 < (nI (sN S1)) → ∃ fs, hat h 102 (oC 9 fs))
  (k1 : x7 < (nI (sN S1)) → Ev G (d + 2) 0 0 M_Mo_isCounting 0 [.ref 102, .int x7, ev_unk, ev_unk, ev_unk] [] h (fun r h1 => Ev G (d + 3) k n M_Mo_like 45 [.ref 102, .long x1, ev_unk, .long x3, ev_unk, .long x5, ev_unk, .int x7] (r.toList ++ [.long x5]) h1 R))
  (k2 : ¬ x7 < (nI (sN S1)) → R (some (.int x5.toInt32)) (hset h 102 (moC (stV v_2 0) z_3)))
  : Ev G (d + 3) k n M_Mo_like 28 [.ref 102, .long x1, ev_unk, .long x3, ev_unk, .long x5, ev_unk, .int x7] [] h R :=
  Ev.go (pc' := 31) (ls' := [.ref 102, .long x1, ev_unk, .long x3, ev_unk, .long x5, ev_unk, .int x7]) (st' := [.ref 102, .int x7]) [.iload 7, .aload_n 0] (by decide +kernel) rfl <|
  Ev.cV0 (M' := M_Mo_many_0) (as := []) (rest := [.int x7]) l_Mo_71 M_Mo_many_0_ok M_Mo_many_0_in M_Mo_many_0_se (by decide +kernel) r2 rfl rfl rfl (Nat.le_of_ble_eq_true rfl) (Nat.le_of_ble_eq_true rfl) (s_Mo_many_0 pr1 <| show Ev G (d + 3) _ _ M_Mo_like 34 [.ref 102, .long x1, ev_unk, .long x3, ev_unk, .long x5, ev_unk, .int x7] [.int (nI (sN S1)), .int x7] h R from
    Ev.br (i := .if_icmp .ge (46)) (P := x7 < (nI (sN S1))) (t := 37) (f := 80) (r := []) (by decide +kernel) rfl (fun c1 =>
      Ev.go (pc' := 42) (ls' := [.ref 102, .long x1, ev_unk, .long x3, ev_unk, .long x5, ev_unk, .int x7]) (st' := [.int x7, .ref 102, .long x5]) [.lload 5, .aload_n 0, .iload 7] (by decide +kernel) rfl <|
      Ev.cV0 (M' := M_Mo_isCounting) (as := [.int x7]) (rest := [.long x5]) l_Mo_106 M_Mo_isCounting_ok M_Mo_isCounting_in M_Mo_isCounting_se (by decide +kernel) (r3 c1) rfl rfl rfl (Nat.le_of_ble_eq_true rfl) (Nat.le_of_ble_eq_true rfl) (k1 c1)
    ) (fun c1 =>
      Ev.go (pc' := 84) (ls' := [.ref 102, .long x1, ev_unk, .long x3, ev_unk, .long x5, ev_unk, .int x7]) (st' := [.int x5.toInt32, .ref 102]) [.aload_n 0, .lload 5, .l2i] (by decide +kernel) rfl <|
      Ev.cV0 (M' := M_Mo_gives_I) (as := [.int x5.toInt32]) (rest := []) l_Mo_245 M_Mo_gives_I_ok M_Mo_gives_I_in M_Mo_gives_I_se (by decide +kernel) (r5 c1) rfl rfl rfl (Nat.le_of_ble_eq_true rfl) (Nat.le_of_ble_eq_true rfl) (s_Mo_gives_I (pr4 c1) <| show Ev G (d + 3) _ _ M_Mo_like 87 [.ref 102, .long x1, ev_unk, .long x3, ev_unk, .long x5, ev_unk, .int x7] [.int x5.toInt32] (hset h 102 (moC (stV v_2 0) z_3)) R from
        Ev.ret (r := (some (.int x5.toInt32))) (Or.inl ⟨_, rfl, by decide +kernel, _, rfl, rfl⟩) (k2 c1)
      )
    )
  )
theorem b_Mo_like_45 {G : ev_G} {d k n : Nat} {h : ev_H} {R : Option Value → ev_H → Prop} {x1 : Int64} {x3 : Int64} {x5 : Int64} {x7 : Int32} {y0 : Int64} {y1 : Int32} {S1 : AS} {c_2 : Nat}
  (pr1 : ¬ y1 = (0 : Int32) → MS h S1)
  (pr2 : ¬ y1 = (0 : Int32) → sOk S1)
  (pr3 : ¬ y1 = (0 : Int32) → x7 = nI c_2 ∧ c_2 < sN S1)
  (r4 : ¬ y1 = (0 : Int32) → ∃ fs, hat h 102 (oC 9 fs))
  (k1 : y1 = (0 : Int32) → Ev G (d + 3) k n M_Mo_like 28 [.ref 102, .long x1, ev_unk, .long x3, ev_unk, .long (y0 ||| (0 : Int64)), ev_unk, .int (x7 + (1 : Int32))] [] h R)
  (k2 : ¬ y1 = (0 : Int32) → (((sCo S1 c_2) ^^^ x3) &&& x1) = (0 : Int64) → Ev G (d + 3) k n M_Mo_like 28 [.ref 102, .long x1, ev_unk, .long x3, ev_unk, .long (y0 ||| ((1 : Int64) <<< (x7.toInt64 &&& 63))), ev_unk, .int (x7 + (1 : Int32))] [] h R)
  (k3 : ¬ y1 = (0 : Int32) → ¬ (((sCo S1 c_2) ^^^ x3) &&& x1) = (0 : Int64) → Ev G (d + 3) k n M_Mo_like 28 [.ref 102, .long x1, ev_unk, .long x3, ev_unk, .long (y0 ||| (0 : Int64)), ev_unk, .int (x7 + (1 : Int32))] [] h R)
  : Ev G (d + 3) k n M_Mo_like 45 [.ref 102, .long x1, ev_unk, .long x3, ev_unk, .long x5, ev_unk, .int x7] [.int y1, .long y0] h R :=
  Ev.br (i := .ifCond .eq (25)) (P := y1 = (0 : Int32)) (t := 70) (f := 48) (r := [.long y0]) (by decide +kernel) rfl (fun c1 =>
    Ev.go (pc' := 28) (ls' := [.ref 102, .long x1, ev_unk, .long x3, ev_unk, .long (y0 ||| (0 : Int64)), ev_unk, .int (x7 + (1 : Int32))]) (st' := []) [.lconst 0, .lor, .lstore 5, .iinc 7 (1), .goto (-49)] (by decide +kernel) rfl <|
    (k1 c1)
  ) (fun c1 =>
    Ev.go (pc' := 51) (ls' := [.ref 102, .long x1, ev_unk, .long x3, ev_unk, .long x5, ev_unk, .int x7]) (st' := [.int x7, .ref 102, .long y0]) [.aload_n 0, .iload 7] (by decide +kernel) rfl <|
    Ev.cV0 (M' := M_Mo_codeOf) (as := [.int x7]) (rest := [.long y0]) l_Mo_85 M_Mo_codeOf_ok M_Mo_codeOf_in M_Mo_codeOf_se (by decide +kernel) (r4 c1) rfl rfl rfl (Nat.le_of_ble_eq_true rfl) (Nat.le_of_ble_eq_true rfl) (s_Mo_codeOf (pr1 c1) (pr2 c1) (pr3 c1) <| show Ev G (d + 3) _ _ M_Mo_like 54 [.ref 102, .long x1, ev_unk, .long x3, ev_unk, .long x5, ev_unk, .int x7] [.long (sCo S1 c_2), .long y0] h R from
      Ev.go (pc' := 59) (ls' := [.ref 102, .long x1, ev_unk, .long x3, ev_unk, .long x5, ev_unk, .int x7]) (st' := [.long (0 : Int64), .long (((sCo S1 c_2) ^^^ x3) &&& x1), .long y0]) [.lload_n 3, .lxor, .lload_n 1, .land, .lconst 0] (by decide +kernel) rfl <|
      Ev.brl (c := .ne) (o := 10) (P := (((sCo S1 c_2) ^^^ x3) &&& x1) = (0 : Int64)) (t := 63) (f := 70) (t1 := 70) (by decide +kernel) (by decide +kernel) rfl rfl (fun c2 =>
        Ev.go (pc' := 28) (ls' := [.ref 102, .long x1, ev_unk, .long x3, ev_unk, .long (y0 ||| ((1 : Int64) <<< (x7.toInt64 &&& 63))), ev_unk, .int (x7 + (1 : Int32))]) (st' := []) [.lconst 1, .iload 7, .lshl, .goto (4), .lor, .lstore 5, .iinc 7 (1), .goto (-49)] (by decide +kernel) rfl <|
        (k2 c1 c2)
      ) (fun c2 =>
        Ev.go (pc' := 28) (ls' := [.ref 102, .long x1, ev_unk, .long x3, ev_unk, .long (y0 ||| (0 : Int64)), ev_unk, .int (x7 + (1 : Int32))]) (st' := []) [.lconst 0, .lor, .lstore 5, .iinc 7 (1), .goto (-49)] (by decide +kernel) rfl <|
        (k3 c1 c2)
      )
    )
  )
theorem b_Mo_ones_I_0 {G : ev_G} {d k n : Nat} {h : ev_H} {R : Option Value → ev_H → Prop} {x1 : Int32} {S1 : AS} {v_2 : MG} {z_3 : MP}
  (pr1 : MS h S1)
  (pr2 : sOk S1)
  (r3 : ∃ fs, hat h 102 (oC 9 fs))
  (pr4 : (b2i (inR x1 (sB S1))) = (0 : Int32) → hat h 102 (moC v_2 z_3))
  (r5 : (b2i (inR x1 (sB S1))) = (0 : Int32) → ∃ fs, hat h 102 (oC 9 fs))
  (r6 : ¬ (b2i (inR x1 (sB S1))) = (0 : Int32) → ∃ fs, hat h 102 (oC 9 fs))
  (k1 : (b2i (inR x1 (sB S1))) = (0 : Int32) → R (some (.int (-1 : Int32))) (hset h 102 (moC (stV v_2 (1 : Int32)) z_3)))
  (k2 : ¬ (b2i (inR x1 (sB S1))) = (0 : Int32) → Ev G (d + 2) 0 0 M_Mo_counting 0 [.ref 102, ev_unk, ev_unk, ev_unk] [] h (fun r h1 => Ev G (d + 3) k n M_Mo_ones_I 15 [.ref 102, .int x1] (r.toList ++ [.int x1, .ref 102, .ref 102]) h1 R))
  : Ev G (d + 3) k n M_Mo_ones_I 0 [.ref 102, .int x1] [] h R :=
  Ev.go (pc' := 2) (ls' := [.ref 102, .int x1]) (st' := [.int x1, .ref 102]) [.aload_n 0, .iload_n 1] (by decide +kernel) rfl <|
  Ev.cV0 (M' := M_Mo_isBit) (as := [.int x1]) (rest := []) l_Mo_290 M_Mo_isBit_ok M_Mo_isBit_in M_Mo_isBit_se (by decide +kernel) r3 rfl rfl rfl (Nat.le_of_ble_eq_true rfl) (Nat.le_of_ble_eq_true rfl) (s_Mo_isBit pr1 pr2 <| show Ev G (d + 3) _ _ M_Mo_ones_I 5 [.ref 102, .int x1] [.int (b2i (inR x1 (sB S1)))] h R from
    Ev.br (i := .ifCond .eq (19)) (P := (b2i (inR x1 (sB S1))) = (0 : Int32)) (t := 24) (f := 8) (r := []) (by decide +kernel) rfl (fun c1 =>
      Ev.go (pc' := 26) (ls' := [.ref 102, .int x1]) (st' := [.int (1 : Int32), .ref 102]) [.aload_n 0, .iconst 1] (by decide +kernel) rfl <|
      Ev.cV0 (M' := M_Mo_refuse) (as := [.int (1 : Int32)]) (rest := []) l_Mo_226 M_Mo_refuse_ok M_Mo_refuse_in M_Mo_refuse_se (by decide +kernel) (r5 c1) rfl rfl rfl (Nat.le_of_ble_eq_true rfl) (Nat.le_of_ble_eq_true rfl) (s_Mo_refuse (pr4 c1) <| show Ev G (d + 3) _ _ M_Mo_ones_I 29 [.ref 102, .int x1] [.int (-1 : Int32)] (hset h 102 (moC (stV v_2 (1 : Int32)) z_3)) R from
        Ev.ret (r := (some (.int (-1 : Int32)))) (Or.inl ⟨_, rfl, by decide +kernel, _, rfl, rfl⟩) (k1 c1)
      )
    ) (fun c1 =>
      Ev.go (pc' := 12) (ls' := [.ref 102, .int x1]) (st' := [.ref 102, .int x1, .ref 102, .ref 102]) [.aload_n 0, .aload_n 0, .iload_n 1, .aload_n 0] (by decide +kernel) rfl <|
      Ev.cV0 (M' := M_Mo_counting) (as := []) (rest := [.int x1, .ref 102, .ref 102]) l_Mo_248 M_Mo_counting_ok M_Mo_counting_in M_Mo_counting_se (by decide +kernel) (r6 c1) rfl rfl rfl (Nat.le_of_ble_eq_true rfl) (Nat.le_of_ble_eq_true rfl) (k2 c1)
    )
  )
theorem b_Mo_ones_I_15 {G : ev_G} {d k n : Nat} {h : ev_H} {R : Option Value → ev_H → Prop} {x1 : Int32} {y2 : Int32} {y3 : Int64} {S1 : AS} {b_2 : Nat} {v_3 : MG} {z_4 : MP}
  (pr1 : MS h S1)
  (pr2 : sOk S1)
  (pr3 : y2 = nI b_2 ∧ b_2 < 64)
  (r4 : ∃ fs, hat h 102 (oC 9 fs))
  (pr5 : hat h 102 (moC v_3 z_4))
  (k1 : R (some (.int (nI (cnt (fun j => lt y3 j && lt (sCo S1 j) b_2) (sN S1))))) (hset h 102 (moC (stV v_3 0) z_4)))
  : Ev G (d + 3) k n M_Mo_ones_I 15 [.ref 102, .int x1] [.long y3, .int y2, .ref 102, .ref 102] h R :=
  Ev.cV0 (M' := M_Mo_onesAt) (as := [.int y2, .long y3]) (rest := [.ref 102]) l_Mo_349 M_Mo_onesAt_ok M_Mo_onesAt_in M_Mo_onesAt_se (by decide +kernel) r4 rfl rfl rfl (Nat.le_of_ble_eq_true rfl) (Nat.le_of_ble_eq_true rfl) (s_Mo_onesAt pr1 pr2 pr3 <| show Ev G (d + 3) _ _ M_Mo_ones_I 18 [.ref 102, .int x1] [.int (nI (cnt (fun j => lt y3 j && lt (sCo S1 j) b_2) (sN S1))), .ref 102] h R from
    Ev.cV0 (M' := M_Mo_gives_I) (as := [.int (nI (cnt (fun j => lt y3 j && lt (sCo S1 j) b_2) (sN S1)))]) (rest := []) l_Mo_245 M_Mo_gives_I_ok M_Mo_gives_I_in M_Mo_gives_I_se (by decide +kernel) r4 rfl rfl rfl (Nat.le_of_ble_eq_true rfl) (Nat.le_of_ble_eq_true rfl) (s_Mo_gives_I pr5 <| show Ev G (d + 3) _ _ M_Mo_ones_I 21 [.ref 102, .int x1] [.int (nI (cnt (fun j => lt y3 j && lt (sCo S1 j) b_2) (sN S1)))] (hset h 102 (moC (stV v_3 0) z_4)) R from
      Ev.go (pc' := 29) (ls' := [.ref 102, .int x1]) (st' := [.int (nI (cnt (fun j => lt y3 j && lt (sCo S1 j) b_2) (sN S1)))]) [.goto (8)] (by decide +kernel) rfl <|
      Ev.ret (r := (some (.int (nI (cnt (fun j => lt y3 j && lt (sCo S1 j) b_2) (sN S1)))))) (Or.inl ⟨_, rfl, by decide +kernel, _, rfl, rfl⟩) k1
    )
  )
theorem b_Mo_alike_0 {G : ev_G} {d k n : Nat} {h : ev_H} {R : Option Value → ev_H → Prop} {x1 : Int32} {x2 : Int32} {S1 : AS} {v_2 : MG} {z_3 : MP} {S4 : AS} {v_5 : MG} {z_6 : MP}
  (pr1 : MS h S1)
  (pr2 : sOk S1)
  (r3 : ∃ fs, hat h 102 (oC 9 fs))
  (pr4 : (b2i (inR x1 (sB S1))) = (0 : Int32) → hat h 102 (moC v_2 z_3))
  (r5 : (b2i (inR x1 (sB S1))) = (0 : Int32) → ∃ fs, hat h 102 (oC 9 fs))
  (pr6 : ¬ (b2i (inR x1 (sB S1))) = (0 : Int32) → MS h S4)
  (pr7 : ¬ (b2i (inR x1 (sB S1))) = (0 : Int32) → sOk S4)
  (r8 : ¬ (b2i (inR x1 (sB S1))) = (0 : Int32) → ∃ fs, hat h 102 (oC 9 fs))
  (pr9 : ¬ (b2i (inR x1 (sB S1))) = (0 : Int32) → (b2i (inR x2 (sB S4))) = (0 : Int32) → hat h 102 (moC v_5 z_6))
  (r10 : ¬ (b2i (inR x1 (sB S1))) = (0 : Int32) → (b2i (inR x2 (sB S4))) = (0 : Int32) → ∃ fs, hat h 102 (oC 9 fs))
  (k1 : (b2i (inR x1 (sB S1))) = (0 : Int32) → R (some (.int (-1 : Int32))) (hset h 102 (moC (stV v_2 (1 : Int32)) z_3)))
  (k2 : ¬ (b2i (inR x1 (sB S1))) = (0 : Int32) → (b2i (inR x2 (sB S4))) = (0 : Int32) → R (some (.int (-1 : Int32))) (hset h 102 (moC (stV v_5 (1 : Int32)) z_6)))
  (k3 : ¬ (b2i (inR x1 (sB S1))) = (0 : Int32) → ¬ (b2i (inR x2 (sB S4))) = (0 : Int32) → Ev G (d + 3) k n M_Mo_alike 27 [.ref 102, .int x1, .int x2, .int (0 : Int32), .int (0 : Int32)] [] h R)
  : Ev G (d + 3) k n M_Mo_alike 0 [.ref 102, .int x1, .int x2, ev_unk, ev_unk] [] h R :=
  Ev.go (pc' := 2) (ls' := [.ref 102, .int x1, .int x2, ev_unk, ev_unk]) (st' := [.int x1, .ref 102]) [.aload_n 0, .iload_n 1] (by decide +kernel) rfl <|
  Ev.cV0 (M' := M_Mo_isBit) (as := [.int x1]) (rest := []) l_Mo_290 M_Mo_isBit_ok M_Mo_isBit_in M_Mo_isBit_se (by decide +kernel) r3 rfl rfl rfl (Nat.le_of_ble_eq_true rfl) (Nat.le_of_ble_eq_true rfl) (s_Mo_isBit pr1 pr2 <| show Ev G (d + 3) _ _ M_Mo_alike 5 [.ref 102, .int x1, .int x2, ev_unk, ev_unk] [.int (b2i (inR x1 (sB S1)))] h R from
    Ev.br (i := .ifCond .eq (11)) (P := (b2i (inR x1 (sB S1))) = (0 : Int32)) (t := 16) (f := 8) (r := []) (by decide +kernel) rfl (fun c1 =>
      Ev.go (pc' := 18) (ls' := [.ref 102, .int x1, .int x2, ev_unk, ev_unk]) (st' := [.int (1 : Int32), .ref 102]) [.aload_n 0, .iconst 1] (by decide +kernel) rfl <|
      Ev.cV0 (M' := M_Mo_refuse) (as := [.int (1 : Int32)]) (rest := []) l_Mo_226 M_Mo_refuse_ok M_Mo_refuse_in M_Mo_refuse_se (by decide +kernel) (r5 c1) rfl rfl rfl (Nat.le_of_ble_eq_true rfl) (Nat.le_of_ble_eq_true rfl) (s_Mo_refuse (pr4 c1) <| show Ev G (d + 3) _ _ M_Mo_alike 21 [.ref 102, .int x1, .int x2, ev_unk, ev_unk] [.int (-1 : Int32)] (hset h 102 (moC (stV v_2 (1 : Int32)) z_3)) R from
        Ev.ret (r := (some (.int (-1 : Int32)))) (Or.inl ⟨_, rfl, by decide +kernel, _, rfl, rfl⟩) (k1 c1)
      )
    ) (fun c1 =>
      Ev.go (pc' := 10) (ls' := [.ref 102, .int x1, .int x2, ev_unk, ev_unk]) (st' := [.int x2, .ref 102]) [.aload_n 0, .iload_n 2] (by decide +kernel) rfl <|
      Ev.cV0 (M' := M_Mo_isBit) (as := [.int x2]) (rest := []) l_Mo_290 M_Mo_isBit_ok M_Mo_isBit_in M_Mo_isBit_se (by decide +kernel) (r8 c1) rfl rfl rfl (Nat.le_of_ble_eq_true rfl) (Nat.le_of_ble_eq_true rfl) (s_Mo_isBit (pr6 c1) (pr7 c1) <| show Ev G (d + 3) _ _ M_Mo_alike 13 [.ref 102, .int x1, .int x2, ev_unk, ev_unk] [.int (b2i (inR x2 (sB S4)))] h R from
        Ev.br (i := .ifCond .ne (9)) (P := (b2i (inR x2 (sB S4))) = (0 : Int32)) (t := 16) (f := 22) (r := []) (by decide +kernel) rfl (fun c2 =>
          Ev.go (pc' := 18) (ls' := [.ref 102, .int x1, .int x2, ev_unk, ev_unk]) (st' := [.int (1 : Int32), .ref 102]) [.aload_n 0, .iconst 1] (by decide +kernel) rfl <|
          Ev.cV0 (M' := M_Mo_refuse) (as := [.int (1 : Int32)]) (rest := []) l_Mo_226 M_Mo_refuse_ok M_Mo_refuse_in M_Mo_refuse_se (by decide +kernel) (r10 c1 c2) rfl rfl rfl (Nat.le_of_ble_eq_true rfl) (Nat.le_of_ble_eq_true rfl) (s_Mo_refuse (pr9 c1 c2) <| show Ev G (d + 3) _ _ M_Mo_alike 21 [.ref 102, .int x1, .int x2, ev_unk, ev_unk] [.int (-1 : Int32)] (hset h 102 (moC (stV v_5 (1 : Int32)) z_6)) R from
            Ev.ret (r := (some (.int (-1 : Int32)))) (Or.inl ⟨_, rfl, by decide +kernel, _, rfl, rfl⟩) (k2 c1 c2)
          )
        ) (fun c2 =>
          Ev.go (pc' := 27) (ls' := [.ref 102, .int x1, .int x2, .int (0 : Int32), .int (0 : Int32)]) (st' := []) [.iconst 0, .istore_n 3, .iconst 0, .istore 4] (by decide +kernel) rfl <|
          (k3 c1 c2)
        )
      )
    )
  )
theorem b_Mo_alike_27 {G : ev_G} {d k n : Nat} {h : ev_H} {R : Option Value → ev_H → Prop} {x1 : Int32} {x2 : Int32} {x3 : Int32} {x4 : Int32} {S1 : AS} {v_2 : MG} {z_3 : MP}
  (pr1 : MS h S1)
  (r2 : ∃ fs, hat h 102 (oC 9 fs))
  (r3 : x4 < (nI (sN S1)) → ∃ fs, hat h 102 (oC 9 fs))
  (pr4 : ¬ x4 < (nI (sN S1)) → hat h 102 (moC v_2 z_3))
  (r5 : ¬ x4 < (nI (sN S1)) → ∃ fs, hat h 102 (oC 9 fs))
  (k1 : x4 < (nI (sN S1)) → Ev G (d + 2) 0 0 M_Mo_isCounting 0 [.ref 102, .int x4, ev_unk, ev_unk, ev_unk] [] h (fun r h1 => Ev G (d + 3) k n M_Mo_alike 43 [.ref 102, .int x1, .int x2, .int x3, .int x4] (r.toList ++ [.int x3]) h1 R))
  (k2 : ¬ x4 < (nI (sN S1)) → R (some (.int x3)) (hset h 102 (moC (stV v_2 0) z_3)))
  : Ev G (d + 3) k n M_Mo_alike 27 [.ref 102, .int x1, .int x2, .int x3, .int x4] [] h R :=
  Ev.go (pc' := 30) (ls' := [.ref 102, .int x1, .int x2, .int x3, .int x4]) (st' := [.ref 102, .int x4]) [.iload 4, .aload_n 0] (by decide +kernel) rfl <|
  Ev.cV0 (M' := M_Mo_many_0) (as := []) (rest := [.int x4]) l_Mo_71 M_Mo_many_0_ok M_Mo_many_0_in M_Mo_many_0_se (by decide +kernel) r2 rfl rfl rfl (Nat.le_of_ble_eq_true rfl) (Nat.le_of_ble_eq_true rfl) (s_Mo_many_0 pr1 <| show Ev G (d + 3) _ _ M_Mo_alike 33 [.ref 102, .int x1, .int x2, .int x3, .int x4] [.int (nI (sN S1)), .int x4] h R from
    Ev.br (i := .if_icmp .ge (49)) (P := x4 < (nI (sN S1))) (t := 36) (f := 82) (r := []) (by decide +kernel) rfl (fun c1 =>
      Ev.go (pc' := 40) (ls' := [.ref 102, .int x1, .int x2, .int x3, .int x4]) (st' := [.int x4, .ref 102, .int x3]) [.iload_n 3, .aload_n 0, .iload 4] (by decide +kernel) rfl <|
      Ev.cV0 (M' := M_Mo_isCounting) (as := [.int x4]) (rest := [.int x3]) l_Mo_106 M_Mo_isCounting_ok M_Mo_isCounting_in M_Mo_isCounting_se (by decide +kernel) (r3 c1) rfl rfl rfl (Nat.le_of_ble_eq_true rfl) (Nat.le_of_ble_eq_true rfl) (k1 c1)
    ) (fun c1 =>
      Ev.go (pc' := 84) (ls' := [.ref 102, .int x1, .int x2, .int x3, .int x4]) (st' := [.int x3, .ref 102]) [.aload_n 0, .iload_n 3] (by decide +kernel) rfl <|
      Ev.cV0 (M' := M_Mo_gives_I) (as := [.int x3]) (rest := []) l_Mo_245 M_Mo_gives_I_ok M_Mo_gives_I_in M_Mo_gives_I_se (by decide +kernel) (r5 c1) rfl rfl rfl (Nat.le_of_ble_eq_true rfl) (Nat.le_of_ble_eq_true rfl) (s_Mo_gives_I (pr4 c1) <| show Ev G (d + 3) _ _ M_Mo_alike 87 [.ref 102, .int x1, .int x2, .int x3, .int x4] [.int x3] (hset h 102 (moC (stV v_2 0) z_3)) R from
        Ev.ret (r := (some (.int x3))) (Or.inl ⟨_, rfl, by decide +kernel, _, rfl, rfl⟩) (k2 c1)
      )
    )
  )
theorem b_Mo_alike_43 {G : ev_G} {d k n : Nat} {h : ev_H} {R : Option Value → ev_H → Prop} {x1 : Int32} {x2 : Int32} {x3 : Int32} {x4 : Int32} {y0 : Int32} {y1 : Int32} {S1 : AS} {c_2 : Nat} {S3 : AS} {c_4 : Nat}
  (pr1 : ¬ y1 = (0 : Int32) → MS h S1)
  (pr2 : ¬ y1 = (0 : Int32) → sOk S1)
  (pr3 : ¬ y1 = (0 : Int32) → x4 = nI c_2 ∧ c_2 < sN S1)
  (r4 : ¬ y1 = (0 : Int32) → ∃ fs, hat h 102 (oC 9 fs))
  (pr5 : ¬ y1 = (0 : Int32) → MS h S3)
  (pr6 : ¬ y1 = (0 : Int32) → sOk S3)
  (pr7 : ¬ y1 = (0 : Int32) → x4 = nI c_4 ∧ c_4 < sN S3)
  (k1 : y1 = (0 : Int32) → Ev G (d + 3) k n M_Mo_alike 27 [.ref 102, .int x1, .int x2, .int (y0 + (0 : Int32)), .int (x4 + (1 : Int32))] [] h R)
  (k2 : ¬ y1 = (0 : Int32) → (b2i (tbL (sCo S1 c_2) x1)) = (b2i (tbL (sCo S3 c_4) x2)) → Ev G (d + 3) k n M_Mo_alike 27 [.ref 102, .int x1, .int x2, .int (y0 + (1 : Int32)), .int (x4 + (1 : Int32))] [] h R)
  (k3 : ¬ y1 = (0 : Int32) → ¬ (b2i (tbL (sCo S1 c_2) x1)) = (b2i (tbL (sCo S3 c_4) x2)) → Ev G (d + 3) k n M_Mo_alike 27 [.ref 102, .int x1, .int x2, .int (y0 + (0 : Int32)), .int (x4 + (1 : Int32))] [] h R)
  : Ev G (d + 3) k n M_Mo_alike 43 [.ref 102, .int x1, .int x2, .int x3, .int x4] [.int y1, .int y0] h R :=
  Ev.br (i := .ifCond .eq (30)) (P := y1 = (0 : Int32)) (t := 73) (f := 46) (r := [.int y0]) (by decide +kernel) rfl (fun c1 =>
    Ev.go (pc' := 27) (ls' := [.ref 102, .int x1, .int x2, .int (y0 + (0 : Int32)), .int (x4 + (1 : Int32))]) (st' := []) [.iconst 0, .iadd, .istore_n 3, .iinc 4 (1), .goto (-52)] (by decide +kernel) rfl <|
    (k1 c1)
  ) (fun c1 =>
    Ev.go (pc' := 49) (ls' := [.ref 102, .int x1, .int x2, .int x3, .int x4]) (st' := [.int x4, .ref 102, .int y0]) [.aload_n 0, .iload 4] (by decide +kernel) rfl <|
    Ev.cV0 (M' := M_Mo_codeOf) (as := [.int x4]) (rest := [.int y0]) l_Mo_85 M_Mo_codeOf_ok M_Mo_codeOf_in M_Mo_codeOf_se (by decide +kernel) (r4 c1) rfl rfl rfl (Nat.le_of_ble_eq_true rfl) (Nat.le_of_ble_eq_true rfl) (s_Mo_codeOf (pr1 c1) (pr2 c1) (pr3 c1) <| show Ev G (d + 3) _ _ M_Mo_alike 52 [.ref 102, .int x1, .int x2, .int x3, .int x4] [.long (sCo S1 c_2), .int y0] h R from
      Ev.go (pc' := 53) (ls' := [.ref 102, .int x1, .int x2, .int x3, .int x4]) (st' := [.int x1, .long (sCo S1 c_2), .int y0]) [.iload_n 1] (by decide +kernel) rfl <|
      Ev.cS0 (M' := M_Mo_has) (as := [.long (sCo S1 c_2), .int x1]) (rest := [.int y0]) l_Mo_271 M_Mo_has_ok M_Mo_has_st (by decide +kernel) rfl rfl (Nat.le_of_ble_eq_true rfl) (Nat.le_of_ble_eq_true rfl) (s_Mo_has <| show Ev G (d + 3) _ _ M_Mo_alike 56 [.ref 102, .int x1, .int x2, .int x3, .int x4] [.int (b2i (tbL (sCo S1 c_2) x1)), .int y0] h R from
        Ev.go (pc' := 59) (ls' := [.ref 102, .int x1, .int x2, .int x3, .int x4]) (st' := [.int x4, .ref 102, .int (b2i (tbL (sCo S1 c_2) x1)), .int y0]) [.aload_n 0, .iload 4] (by decide +kernel) rfl <|
        Ev.cV0 (M' := M_Mo_codeOf) (as := [.int x4]) (rest := [.int (b2i (tbL (sCo S1 c_2) x1)), .int y0]) l_Mo_85 M_Mo_codeOf_ok M_Mo_codeOf_in M_Mo_codeOf_se (by decide +kernel) (r4 c1) rfl rfl rfl (Nat.le_of_ble_eq_true rfl) (Nat.le_of_ble_eq_true rfl) (s_Mo_codeOf (pr5 c1) (pr6 c1) (pr7 c1) <| show Ev G (d + 3) _ _ M_Mo_alike 62 [.ref 102, .int x1, .int x2, .int x3, .int x4] [.long (sCo S3 c_4), .int (b2i (tbL (sCo S1 c_2) x1)), .int y0] h R from
          Ev.go (pc' := 63) (ls' := [.ref 102, .int x1, .int x2, .int x3, .int x4]) (st' := [.int x2, .long (sCo S3 c_4), .int (b2i (tbL (sCo S1 c_2) x1)), .int y0]) [.iload_n 2] (by decide +kernel) rfl <|
          Ev.cS0 (M' := M_Mo_has) (as := [.long (sCo S3 c_4), .int x2]) (rest := [.int (b2i (tbL (sCo S1 c_2) x1)), .int y0]) l_Mo_271 M_Mo_has_ok M_Mo_has_st (by decide +kernel) rfl rfl (Nat.le_of_ble_eq_true rfl) (Nat.le_of_ble_eq_true rfl) (s_Mo_has <| show Ev G (d + 3) _ _ M_Mo_alike 66 [.ref 102, .int x1, .int x2, .int x3, .int x4] [.int (b2i (tbL (sCo S3 c_4) x2)), .int (b2i (tbL (sCo S1 c_2) x1)), .int y0] h R from
            Ev.br (i := .if_icmp .ne (7)) (P := (b2i (tbL (sCo S1 c_2) x1)) = (b2i (tbL (sCo S3 c_4) x2))) (t := 69) (f := 73) (r := [.int y0]) (by decide +kernel) rfl (fun c2 =>
              Ev.go (pc' := 27) (ls' := [.ref 102, .int x1, .int x2, .int (y0 + (1 : Int32)), .int (x4 + (1 : Int32))]) (st' := []) [.iconst 1, .goto (4), .iadd, .istore_n 3, .iinc 4 (1), .goto (-52)] (by decide +kernel) rfl <|
              (k2 c1 c2)
            ) (fun c2 =>
              Ev.go (pc' := 27) (ls' := [.ref 102, .int x1, .int x2, .int (y0 + (0 : Int32)), .int (x4 + (1 : Int32))]) (st' := []) [.iconst 0, .iadd, .istore_n 3, .iinc 4 (1), .goto (-52)] (by decide +kernel) rfl <|
              (k3 c1 c2)
            )
          )
        )
      )
    )
  )
section S46
variable {G : ev_G} {d : Nat} {h : ev_H} {R : Option Value → ev_H → Prop} {Q : QS}
theorem clTot_pos {fl : List AStp} (h : fl ≠ []) : 0 < clTot fl := by
  cases fl with
  | nil => exact absurd rfl h
  | cons a r =>
    rw [clTot_cons]
    have : 1 ≤ clN a := by unfold clN; split <;> omega
    omega
theorem MR.fl3 {g : Nat → Int64} (H : MR h Q) (sl : SlR g 0 (qS Q)) : g 3 = lN (clTot (sFl (qS Q))) ∧ clTot (sFl (qS Q)) ≤ 500 := by
  refine ⟨by have := sl.2.2.2.1; rw [Nat.zero_add] at this; exact this, ?_⟩
  rcases H.gd.2.1 with e | e
  · rw [e]; decide
  · exact e.2.2.1
theorem s_Mo_many2 {x : Int32} (H : MR h Q) (hR : ∀ h', Kp h h' 102 126 → MR h' (stQ Q (a_many Q x).2) → R (some (.int (a_many Q x).1)) h') : Ev G (d + 7) 0 0 M_Mo_many_I 0 [.ref 102, .int x] [] h R := by
  obtain ⟨bm, z, m1⟩ := H.2.1
  obtain ⟨g, m2, sl⟩ := H.2.2.1
  obtain ⟨e3, e500⟩ := H.fl3 sl.1
  have G : ∀ {v : Int32} {l : Int32}, a_many Q x = (v, l) → R (some (.int v)) (hset h 102 (moC (stV (moQ Q bm) l) z)) := fun e => H.fin (Kp.refl _ _ _) m1 hR e
  refine b_Mo_many_I_0 (d := d + 5) (j_31 := 3) m1 (fun c1 => H.ms) (fun c1 => ⟨_, m1⟩) (fun c1 => m1) (fun c1 => H.ms) (fun c1 => ⟨_, m1⟩) (fun c1 => m1) (fun c1 => H.ms) (fun c1 => ⟨_, m1⟩) (fun c1 => m1) (fun c1 => ⟨_, m1⟩) (fun c1 => ⟨_, m1⟩) (fun c1 => m1) (fun c1 => m1) (fun c1 => m1) (fun c1 => m2) (fun c1 => ⟨rfl, by omega, by omega⟩) (fun c1 => ⟨_, m1⟩) (fun c1 c2 => m1) (fun c1 c2 => ⟨_, m1⟩) (fun c1 c2 => m1) (fun c1 c2 => ⟨_, m1⟩) (fun c1 c2 c3 c4 c5 c6 c7 c8 => m1) (fun c1 c2 c3 c4 c5 c6 c7 c8 => ⟨_, m1⟩) (fun c1 => G (by subst c1; unfold a_many; rfl)) (fun c1 => G (by subst c1; unfold a_many; rfl)) (fun c1 => G (by subst c1; unfold a_many; rfl)) (fun c1 => ?_) (fun c1 => ?_) (fun c1 => G (by subst c1; unfold a_many; rfl)) (fun c1 => G (by subst c1; unfold a_many; rfl)) (fun c1 c2 => ?_) (fun c1 c2 => ?_) (fun c1 c2 c3 c4 c5 c6 c7 c8 => G (by unfold a_many; rw [if_neg c1, if_neg c2, if_neg c3, if_neg c4, if_neg c5, if_neg c6, if_neg c7, if_neg c8]))
  · refine s_cnt H fun h1 K1 H1 => ?_
    obtain ⟨bm1, z1, m11⟩ := H1.2.1
    refine b_Mo_many_I_80 m11 ⟨_, m11⟩ (H1.fin (K1.wide (by omega) (by omega)) m11 hR ?_)
    rw [pop_setL, ← pop32_setI]
    subst c1; unfold a_many; rfl
  · refine s_cnt H fun h1 K1 H1 => ?_
    obtain ⟨bm1, z1, m11⟩ := H1.2.1
    refine b_Mo_many_I_92 m11 ⟨_, m11⟩ (H1.fin (K1.wide (by omega) (by omega)) m11 hR ?_)
    rw [setL_i]
    subst c1; unfold a_many; rfl
  · refine G ?_
    have n : (sFl (qS Q)).isEmpty = false := by
      cases q : sFl (qS Q) with
      | nil => rw [e3, q] at c2; exact absurd c2 (by decide)
      | cons _ _ => rfl
    subst c1; unfold a_many; rw [n]; rfl
  · refine G ?_
    have n : (sFl (qS Q)).isEmpty = true := by
      cases q : sFl (qS Q) with
      | nil => rfl
      | cons a r =>
        rw [e3] at c2
        have := clTot_pos (fl := sFl (qS Q)) (by rw [q]; intro z; cases z)
        exact absurd ((lN_lt (a := 0) (by omega) (by omega)).mpr this) c2
    subst c1; unfold a_many; rw [n]; rfl
theorem lkP_lt {S : AS} {m x : Int64} {p : Nat → Bool} (hp : ∀ j, p j = true → j < sN S) : setL (fun j => decide (j < sN S) && p j) = setL p := setL_congr fun j _ => by
  cases q : p j
  · simp
  · simp [hp j q]
theorem ct_N {S : AS} {j : Nat} (h : ctP S j = true) : j < sN S := by
  unfold ctP at h
  rw [Bool.and_eq_true] at h
  exact of_decide_eq_true h.1
theorem s_Mo_like2 {m x : Int64} (H : MR h Q) (hR : ∀ h', Kp h h' 102 126 → MR h' (stQ Q (a_like (qS Q) m x).2) → R (some (.int (a_like (qS Q) m x).1)) h') : Ev G (d + 7) 0 0 M_Mo_like 0 [.ref 102, .long m, ev_unk, .long x, ev_unk, ev_unk, ev_unk, ev_unk] [] h R := by
  obtain ⟨bm, z, m1⟩ := H.2.1
  have hz := H.szN
  refine b_Mo_like_0 (d := d + 4) H.ms ⟨_, m1⟩ (fun c1 => m1) (fun c1 => ⟨_, m1⟩) (fun c1 => H.ms) (fun c1 => ⟨_, m1⟩) (fun c1 c2 => m1) (fun c1 c2 => ⟨_, m1⟩) (fun c1 => H.fin (Kp.refl _ _ _) m1 hR (by unfold a_like; rw [b2i_e0 c1]; rfl)) (fun c1 c2 => H.fin (Kp.refl _ _ _) m1 hR (by unfold a_like; rw [b2i_n0 c1, b2i_e0 c2]; rfl)) (fun c1 c2 => ?_)
  have e : a_like (qS Q) m x = (setI (lkP (qS Q) m x), 0) := by unfold a_like; rw [b2i_n0 c1, b2i_n0 c2]; rfl
  have L := up0 (P := fun i => ∀ h', Kp h h' 104 105 → MR h' Q → Ev G (d + 7) 0 0 M_Mo_like 28 [.ref 102, .long m, ev_unk, .long x, ev_unk, .long (setL (fun j => decide (j < i) && lkP (qS Q) m x j)), ev_unk, .int (nI i)] [] h' R) (sN (qS Q)) ?_ ?_
  · have := L h (Kp.refl _ _ _) H
    rw [← setL_lt0] at this
    exact this
  · intro i hi ih h1 K1 H
    obtain ⟨bm, z, m1⟩ := H.2.1
    refine b_Mo_like_28 (d := d + 4) H.ms ⟨_, m1⟩ (fun c1 => ⟨_, m1⟩) (fun c1 => m1) (fun c1 => ⟨_, m1⟩) (fun c1 => ?_) (fun c1 => absurd (nI_lt hi (by omega)) c1)
    refine (s_isC (d := d) H hi fun h2 K2 H => ?_).room (by omega) (Nat.le_refl _) (Nat.le_refl _)
    obtain ⟨bm, z, m1⟩ := H.2.1
    have ih := ih h2 (K1.trans K2) H
    refine b_Mo_like_45 (d := d + 4) (c_2 := i) (fun c1 => H.ms) (fun c1 => H.ok) (fun c1 => ⟨rfl, hi⟩) (fun c1 => ⟨_, m1⟩) (fun c1 => ?_) (fun c1 c2 => ?_) (fun c1 c2 => ?_)
    · have p : lkP (qS Q) m x i = false := by unfold lkP; rw [b2i_e0 c1]; rfl
      rw [l_or0, setL_skip _ p, nI_1]; exact ih
    · have p : lkP (qS Q) m x i = true := by unfold lkP; rw [b2i_n0 c1, decide_eq_true c2]; rfl
      rw [setL_add _ (by omega) p, nI_1]; exact ih
    · have p : lkP (qS Q) m x i = false := by unfold lkP; rw [decide_eq_false c2, Bool.and_false]
      rw [l_or0, setL_skip _ p, nI_1]; exact ih
  · intro h1 K1 H
    obtain ⟨bm, z, m1⟩ := H.2.1
    refine b_Mo_like_28 (d := d + 4) H.ms ⟨_, m1⟩ (fun c1 => ⟨_, m1⟩) (fun c1 => m1) (fun c1 => ⟨_, m1⟩) (fun c1 => absurd c1 (nl_self (by omega))) (fun c1 => H.fin (K1.wide (by omega) (by omega)) m1 hR (by rw [e, lkP_lt (m := m) (x := x) (fun j q => ct_N (by unfold lkP at q; rw [Bool.and_eq_true] at q; exact q.1)), setL_i]))
theorem s_Mo_ones2 {x : Int32} (H : MR h Q) (hR : ∀ h', Kp h h' 102 126 → MR h' (stQ Q (a_ones (qS Q) x).2) → R (some (.int (a_ones (qS Q) x).1)) h') : Ev G (d + 7) 0 0 M_Mo_ones_I 0 [.ref 102, .int x] [] h R := by
  obtain ⟨bm, z, m1⟩ := H.2.1
  have hz := H.szN
  have hzB := H.szB
  refine b_Mo_ones_I_0 (d := d + 4) H.ms H.ok ⟨_, m1⟩ (fun c1 => m1) (fun c1 => ⟨_, m1⟩) (fun c1 => ⟨_, m1⟩) (fun c1 => H.fin (Kp.refl _ _ _) m1 hR (by unfold a_ones; rw [b2i_e0 c1]; rfl)) (fun c1 => ?_)
  refine s_cnt H fun h1 K1 H1 => ?_
  obtain ⟨bm1, z1, m11⟩ := H1.2.1
  have hx := vN_lt (by omega) (b2i_n0 c1)
  refine b_Mo_ones_I_15 (d := d + 4) H1.ms H1.ok ⟨hx.1, by omega⟩ ⟨_, m11⟩ m11 (H1.fin (K1.wide (by omega) (by omega)) m11 hR ?_)
  unfold a_ones on1
  rw [if_pos (b2i_n0 c1)]
  rw [cnt_congr (p := fun j => lt (setL (ctP (qS Q))) j && lt (sCo (qS Q) j) (vN x)) (q := fun j => ctP (qS Q) j && lt (sCo (qS Q) j) (vN x)) fun k hk => by rw [lt_setL, decide_eq_true (show k < 32 by omega), Bool.true_and]]
theorem cnt_N {p : Nat → Bool} {n : Nat} (hn : n ≤ 32) (hp : ∀ j, p j = true → j < n) : cnt p 32 = cnt p n := by
  have := cnt_split p n (32 - n)
  rw [show n + (32 - n) = 32 by omega] at this
  rw [this, cnt_zero (n := 32 - n) fun k _ => by cases q : p (n + k); rfl; exact absurd (hp _ q) (by omega)]
  rfl
theorem s_Mo_alike2 {x y : Int32} (H : MR h Q) (hR : ∀ h', Kp h h' 102 126 → MR h' (stQ Q (a_alike (qS Q) x y).2) → R (some (.int (a_alike (qS Q) x y).1)) h') : Ev G (d + 7) 0 0 M_Mo_alike 0 [.ref 102, .int x, .int y, ev_unk, ev_unk] [] h R := by
  obtain ⟨bm, z, m1⟩ := H.2.1
  have hz := H.szN
  have hzB := H.szB
  refine b_Mo_alike_0 (d := d + 4) H.ms H.ok ⟨_, m1⟩ (fun c1 => m1) (fun c1 => ⟨_, m1⟩) (fun c1 => H.ms) (fun c1 => H.ok) (fun c1 => ⟨_, m1⟩) (fun c1 c2 => m1) (fun c1 c2 => ⟨_, m1⟩) (fun c1 => H.fin (Kp.refl _ _ _) m1 hR (by unfold a_alike; rw [b2i_e0 c1]; rfl)) (fun c1 c2 => H.fin (Kp.refl _ _ _) m1 hR (by unfold a_alike; rw [b2i_n0 c1, b2i_e0 c2]; rfl)) (fun c1 c2 => ?_)
  have hx := vN_lt (by omega) (b2i_n0 c1)
  have hy := vN_lt (by omega) (b2i_n0 c2)
  have e : a_alike (qS Q) x y = (nI (cnt (akP (qS Q) (vN x) (vN y)) (sN (qS Q))), 0) := by
    unfold a_alike
    rw [b2i_n0 c1, b2i_n0 c2, cnt_N hz (fun j q => ct_N (by unfold akP at q; rw [Bool.and_eq_true] at q; exact q.1))]; rfl
  have L := up0 (P := fun i => ∀ h', Kp h h' 104 105 → MR h' Q → Ev G (d + 7) 0 0 M_Mo_alike 27 [.ref 102, .int x, .int y, .int (nI (cnt (akP (qS Q) (vN x) (vN y)) i)), .int (nI i)] [] h' R) (sN (qS Q)) ?_ ?_
  · exact L h (Kp.refl _ _ _) H
  · intro i hi ih h1 K1 H
    obtain ⟨bm, z, m1⟩ := H.2.1
    refine b_Mo_alike_27 (d := d + 4) H.ms ⟨_, m1⟩ (fun c1 => ⟨_, m1⟩) (fun c1 => m1) (fun c1 => ⟨_, m1⟩) (fun c1 => ?_) (fun c1 => absurd (nI_lt hi (by omega)) c1)
    refine (s_isC (d := d) H hi fun h2 K2 H => ?_).room (by omega) (Nat.le_refl _) (Nat.le_refl _)
    obtain ⟨bm, z, m1⟩ := H.2.1
    have ih := ih h2 (K1.trans K2) H
    have f : cnt (akP (qS Q) (vN x) (vN y)) (i + 1) = cnt (akP (qS Q) (vN x) (vN y)) i + if akP (qS Q) (vN x) (vN y) i then 1 else 0 := rfl
    rw [f] at ih
    have tx : tbL (sCo (qS Q) i) x = lt (sCo (qS Q) i) (vN x) := by rw [hx.1, vN_nI (by omega), tbL_n (by omega)]
    have ty : tbL (sCo (qS Q) i) y = lt (sCo (qS Q) i) (vN y) := by rw [hy.1, vN_nI (by omega), tbL_n (by omega)]
    refine b_Mo_alike_43 (d := d + 4) (c_2 := i) (c_4 := i) (fun c1 => H.ms) (fun c1 => H.ok) (fun c1 => ⟨rfl, hi⟩) (fun c1 => ⟨_, m1⟩) (fun c1 => H.ms) (fun c1 => H.ok) (fun c1 => ⟨rfl, hi⟩) (fun c1 => ?_) (fun c1 c2 => ?_) (fun c1 c2 => ?_)
    · have p : akP (qS Q) (vN x) (vN y) i = false := by unfold akP; rw [b2i_e0 c1]; rfl
      rw [p] at ih
      rw [show (0 : Int32) = nI 0 from rfl, nI_add, nI_1]; exact ih
    · rw [tx, ty] at c2
      have p : akP (qS Q) (vN x) (vN y) i = true := by
        unfold akP; rw [b2i_n0 c1]
        revert c2
        cases lt (sCo (qS Q) i) (vN x) <;> cases lt (sCo (qS Q) i) (vN y) <;> decide
      rw [p] at ih
      rw [nI_1, nI_1]; exact ih
    · rw [tx, ty] at c2
      have p : akP (qS Q) (vN x) (vN y) i = false := by
        unfold akP; rw [b2i_n0 c1]
        revert c2
        cases lt (sCo (qS Q) i) (vN x) <;> cases lt (sCo (qS Q) i) (vN y) <;> decide
      rw [p] at ih
      rw [show (0 : Int32) = nI 0 from rfl, nI_add, nI_1]; exact ih
  · intro h1 K1 H
    obtain ⟨bm, z, m1⟩ := H.2.1
    refine b_Mo_alike_27 (d := d + 4) H.ms ⟨_, m1⟩ (fun c1 => ⟨_, m1⟩) (fun c1 => m1) (fun c1 => ⟨_, m1⟩) (fun c1 => absurd c1 (nl_self (by omega))) (fun c1 => H.fin (K1.wide (by omega) (by omega)) m1 hR e)
end S46
