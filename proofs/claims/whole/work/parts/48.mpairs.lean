/-! the model's pairs -/
theorem b_Mo_isPair_0 {G : ev_G} {d k n : Nat} {h : ev_H} {R : Option Value → ev_H → Prop} {x1 : Int32} {x2 : Int32} {x3 : Int32} {x4 : Int64} {S1 : AS} {c_2 : Nat} {S3 : AS} {c_4 : Nat}
  (pr1 : ¬ (b2i (tbL x4 x1)) = (0 : Int32) → ¬ (b2i (tbL x4 x2)) = (0 : Int32) → MS h S1)
  (pr2 : ¬ (b2i (tbL x4 x1)) = (0 : Int32) → ¬ (b2i (tbL x4 x2)) = (0 : Int32) → sOk S1)
  (pr3 : ¬ (b2i (tbL x4 x1)) = (0 : Int32) → ¬ (b2i (tbL x4 x2)) = (0 : Int32) → x1 = nI c_2 ∧ c_2 < sN S1)
  (r4 : ¬ (b2i (tbL x4 x1)) = (0 : Int32) → ¬ (b2i (tbL x4 x2)) = (0 : Int32) → ∃ fs, hat h 102 (oC 9 fs))
  (pr5 : ¬ (b2i (tbL x4 x1)) = (0 : Int32) → ¬ (b2i (tbL x4 x2)) = (0 : Int32) → MS h S3)
  (pr6 : ¬ (b2i (tbL x4 x1)) = (0 : Int32) → ¬ (b2i (tbL x4 x2)) = (0 : Int32) → sOk S3)
  (pr7 : ¬ (b2i (tbL x4 x1)) = (0 : Int32) → ¬ (b2i (tbL x4 x2)) = (0 : Int32) → x2 = nI c_4 ∧ c_4 < sN S3)
  (k1 : (b2i (tbL x4 x1)) = (0 : Int32) → R (some (.int (0 : Int32))) h)
  (k2 : ¬ (b2i (tbL x4 x1)) = (0 : Int32) → (b2i (tbL x4 x2)) = (0 : Int32) → R (some (.int (0 : Int32))) h)
  (k3 : ¬ (b2i (tbL x4 x1)) = (0 : Int32) → ¬ (b2i (tbL x4 x2)) = (0 : Int32) → x3 < (nI (pop ((sCo S1 c_2) ^^^ (sCo S3 c_4)))) → R (some (.int (0 : Int32))) h)
  (k4 : ¬ (b2i (tbL x4 x1)) = (0 : Int32) → ¬ (b2i (tbL x4 x2)) = (0 : Int32) → ¬ x3 < (nI (pop ((sCo S1 c_2) ^^^ (sCo S3 c_4)))) → R (some (.int (1 : Int32))) h)
  : Ev G (d + 2) k n M_Mo_isPair 0 [.ref 102, .int x1, .int x2, .int x3, .long x4, ev_unk] [] h R :=
  Ev.go (pc' := 3) (ls' := [.ref 102, .int x1, .int x2, .int x3, .long x4, ev_unk]) (st' := [.int x1, .long x4]) [.lload 4, .iload_n 1] (by decide +kernel) rfl <|
  Ev.cS0 (M' := M_Mo_has) (as := [.long x4, .int x1]) (rest := []) l_Mo_271 M_Mo_has_ok M_Mo_has_st (by decide +kernel) rfl rfl (Nat.le_of_ble_eq_true rfl) (Nat.le_of_ble_eq_true rfl) (s_Mo_has <| show Ev G (d + 2) _ _ M_Mo_isPair 6 [.ref 102, .int x1, .int x2, .int x3, .long x4, ev_unk] [.int (b2i (tbL x4 x1))] h R from
    Ev.br (i := .ifCond .eq (34)) (P := (b2i (tbL x4 x1)) = (0 : Int32)) (t := 40) (f := 9) (r := []) (by decide +kernel) rfl (fun c1 =>
      Ev.go (pc' := 41) (ls' := [.ref 102, .int x1, .int x2, .int x3, .long x4, ev_unk]) (st' := [.int (0 : Int32)]) [.iconst 0] (by decide +kernel) rfl <|
      Ev.ret (r := (some (.int (0 : Int32)))) (Or.inl ⟨_, rfl, by decide +kernel, _, rfl, rfl⟩) (k1 c1)
    ) (fun c1 =>
      Ev.go (pc' := 12) (ls' := [.ref 102, .int x1, .int x2, .int x3, .long x4, ev_unk]) (st' := [.int x2, .long x4]) [.lload 4, .iload_n 2] (by decide +kernel) rfl <|
      Ev.cS0 (M' := M_Mo_has) (as := [.long x4, .int x2]) (rest := []) l_Mo_271 M_Mo_has_ok M_Mo_has_st (by decide +kernel) rfl rfl (Nat.le_of_ble_eq_true rfl) (Nat.le_of_ble_eq_true rfl) (s_Mo_has <| show Ev G (d + 2) _ _ M_Mo_isPair 15 [.ref 102, .int x1, .int x2, .int x3, .long x4, ev_unk] [.int (b2i (tbL x4 x2))] h R from
        Ev.br (i := .ifCond .eq (25)) (P := (b2i (tbL x4 x2)) = (0 : Int32)) (t := 40) (f := 18) (r := []) (by decide +kernel) rfl (fun c2 =>
          Ev.go (pc' := 41) (ls' := [.ref 102, .int x1, .int x2, .int x3, .long x4, ev_unk]) (st' := [.int (0 : Int32)]) [.iconst 0] (by decide +kernel) rfl <|
          Ev.ret (r := (some (.int (0 : Int32)))) (Or.inl ⟨_, rfl, by decide +kernel, _, rfl, rfl⟩) (k2 c1 c2)
        ) (fun c2 =>
          Ev.go (pc' := 20) (ls' := [.ref 102, .int x1, .int x2, .int x3, .long x4, ev_unk]) (st' := [.int x1, .ref 102]) [.aload_n 0, .iload_n 1] (by decide +kernel) rfl <|
          Ev.cV0 (M' := M_Mo_codeOf) (as := [.int x1]) (rest := []) l_Mo_85 M_Mo_codeOf_ok M_Mo_codeOf_in M_Mo_codeOf_se (by decide +kernel) (r4 c1 c2) rfl rfl rfl (Nat.le_of_ble_eq_true rfl) (Nat.le_of_ble_eq_true rfl) (s_Mo_codeOf (pr1 c1 c2) (pr2 c1 c2) (pr3 c1 c2) <| show Ev G (d + 2) _ _ M_Mo_isPair 23 [.ref 102, .int x1, .int x2, .int x3, .long x4, ev_unk] [.long (sCo S1 c_2)] h R from
            Ev.go (pc' := 25) (ls' := [.ref 102, .int x1, .int x2, .int x3, .long x4, ev_unk]) (st' := [.int x2, .ref 102, .long (sCo S1 c_2)]) [.aload_n 0, .iload_n 2] (by decide +kernel) rfl <|
            Ev.cV0 (M' := M_Mo_codeOf) (as := [.int x2]) (rest := [.long (sCo S1 c_2)]) l_Mo_85 M_Mo_codeOf_ok M_Mo_codeOf_in M_Mo_codeOf_se (by decide +kernel) (r4 c1 c2) rfl rfl rfl (Nat.le_of_ble_eq_true rfl) (Nat.le_of_ble_eq_true rfl) (s_Mo_codeOf (pr5 c1 c2) (pr6 c1 c2) (pr7 c1 c2) <| show Ev G (d + 2) _ _ M_Mo_isPair 28 [.ref 102, .int x1, .int x2, .int x3, .long x4, ev_unk] [.long (sCo S3 c_4), .long (sCo S1 c_2)] h R from
              Ev.go (pc' := 29) (ls' := [.ref 102, .int x1, .int x2, .int x3, .long x4, ev_unk]) (st' := [.long ((sCo S1 c_2) ^^^ (sCo S3 c_4))]) [.lxor] (by decide +kernel) rfl <|
              Ev.cS0 (M' := M_Mo_ones_J) (as := [.long ((sCo S1 c_2) ^^^ (sCo S3 c_4))]) (rest := []) l_Mo_88 M_Mo_ones_J_ok M_Mo_ones_J_st (by decide +kernel) rfl rfl (Nat.le_of_ble_eq_true rfl) (Nat.le_of_ble_eq_true rfl) (s_Mo_ones_J <| show Ev G (d + 2) _ _ M_Mo_isPair 32 [.ref 102, .int x1, .int x2, .int x3, .long x4, ev_unk] [.int (nI (pop ((sCo S1 c_2) ^^^ (sCo S3 c_4))))] h R from
                Ev.go (pc' := 33) (ls' := [.ref 102, .int x1, .int x2, .int x3, .long x4, ev_unk]) (st' := [.int x3, .int (nI (pop ((sCo S1 c_2) ^^^ (sCo S3 c_4))))]) [.iload_n 3] (by decide +kernel) rfl <|
                Ev.br (i := .if_icmp .gt (7)) (P := x3 < (nI (pop ((sCo S1 c_2) ^^^ (sCo S3 c_4))))) (t := 40) (f := 36) (r := []) (by decide +kernel) rfl (fun c3 =>
                  Ev.go (pc' := 41) (ls' := [.ref 102, .int x1, .int x2, .int x3, .long x4, ev_unk]) (st' := [.int (0 : Int32)]) [.iconst 0] (by decide +kernel) rfl <|
                  Ev.ret (r := (some (.int (0 : Int32)))) (Or.inl ⟨_, rfl, by decide +kernel, _, rfl, rfl⟩) (k3 c1 c2 c3)
                ) (fun c3 =>
                  Ev.go (pc' := 41) (ls' := [.ref 102, .int x1, .int x2, .int x3, .long x4, ev_unk]) (st' := [.int (1 : Int32)]) [.iconst 1, .goto (4)] (by decide +kernel) rfl <|
                  Ev.ret (r := (some (.int (1 : Int32)))) (Or.inl ⟨_, rfl, by decide +kernel, _, rfl, rfl⟩) (k4 c1 c2 c3)
                )
              )
            )
          )
        )
      )
    )
  )
section S48a
variable {G : ev_G} {d : Nat} {h : ev_H} {R : Option Value → ev_H → Prop} {S : AS}
theorem s_Mo_isPair {set : Int64} {cI eI rI : Int32} {c e : Nat} (H : MS h S) (ok : sOk S) (hc : cI = nI c ∧ c < sN S) (he : eI = nI e ∧ e < sN S) (hR : R (some (.int (b2i ((lt set c && lt set e) && decide (¬ rI < nI (pop (sCo S c ^^^ sCo S e))))))) h) : Ev G (d + 2) 0 0 M_Mo_isPair 0 [.ref 102, .int cI, .int eI, .int rI, .long set, ev_unk] [] h R := by
  have ⟨v, z, g, m1, m2, sl⟩ := H
  have n32 := ok.2.2.2.2.1
  obtain ⟨rfl, hc⟩ := hc
  obtain ⟨rfl, he⟩ := he
  refine b_Mo_isPair_0 (c_2 := c) (c_4 := e) (fun c1 c2 => H) (fun c1 c2 => ok) (fun c1 c2 => ⟨rfl, hc⟩) (fun c1 c2 => ⟨_, m1⟩) (fun c1 c2 => H) (fun c1 c2 => ok) (fun c1 c2 => ⟨rfl, he⟩) (fun c1 => ?_) (fun c1 c2 => ?_) (fun c1 c2 c3 => ?_) (fun c1 c2 c3 => ?_)
  · rw [tbL_n (by omega)] at c1
    rw [b2i_e0 c1] at hR; exact hR
  · rw [tbL_n (by omega)] at c1 c2
    rw [b2i_n0 c1, b2i_e0 c2] at hR; exact hR
  · rw [tbL_n (by omega)] at c1 c2
    rw [b2i_n0 c1, b2i_n0 c2, decide_eq_false (fun z => z c3)] at hR; exact hR
  · rw [tbL_n (by omega)] at c1 c2
    rw [b2i_n0 c1, b2i_n0 c2, decide_eq_true c3] at hR; exact hR
end S48a
theorem b_Mo_pairs_0 {G : ev_G} {d k n : Nat} {h : ev_H} {R : Option Value → ev_H → Prop} {x1 : Int32} {S1 : AS} {v_2 : MG} {z_3 : MP}
  (pr1 : MS h S1)
  (pr2 : sOk S1)
  (r3 : ∃ fs, hat h 102 (oC 9 fs))
  (pr4 : (b2i (inR x1 (sB S1 + 1))) = (0 : Int32) → hat h 102 (moC v_2 z_3))
  (r5 : (b2i (inR x1 (sB S1 + 1))) = (0 : Int32) → ∃ fs, hat h 102 (oC 9 fs))
  (r6 : ¬ (b2i (inR x1 (sB S1 + 1))) = (0 : Int32) → ∃ fs, hat h 102 (oC 9 fs))
  (k1 : (b2i (inR x1 (sB S1 + 1))) = (0 : Int32) → R (some (.int (-1 : Int32))) (hset h 102 (moC (stV v_2 (1 : Int32)) z_3)))
  (k2 : ¬ (b2i (inR x1 (sB S1 + 1))) = (0 : Int32) → Ev G (d + 2) 0 0 M_Mo_counting 0 [.ref 102, ev_unk, ev_unk, ev_unk] [] h (fun r h1 => Ev G (d + 3) k n M_Mo_pairs 20 [.ref 102, .int x1, .int (0 : Int32), ev_unk, ev_unk, ev_unk, ev_unk] (r.toList ++ []) h1 R))
  : Ev G (d + 3) k n M_Mo_pairs 0 [.ref 102, .int x1, ev_unk, ev_unk, ev_unk, ev_unk, ev_unk] [] h R :=
  Ev.go (pc' := 2) (ls' := [.ref 102, .int x1, ev_unk, ev_unk, ev_unk, ev_unk, ev_unk]) (st' := [.int x1, .ref 102]) [.aload_n 0, .iload_n 1] (by decide +kernel) rfl <|
  Ev.cV0 (M' := M_Mo_isRadius) (as := [.int x1]) (rest := []) l_Mo_309 M_Mo_isRadius_ok M_Mo_isRadius_in M_Mo_isRadius_se (by decide +kernel) r3 rfl rfl rfl (Nat.le_of_ble_eq_true rfl) (Nat.le_of_ble_eq_true rfl) (s_Mo_isRadius pr1 pr2 <| show Ev G (d + 3) _ _ M_Mo_pairs 5 [.ref 102, .int x1, ev_unk, ev_unk, ev_unk, ev_unk, ev_unk] [.int (b2i (inR x1 (sB S1 + 1)))] h R from
    Ev.br (i := .ifCond .ne (9)) (P := (b2i (inR x1 (sB S1 + 1))) = (0 : Int32)) (t := 8) (f := 14) (r := []) (by decide +kernel) rfl (fun c1 =>
      Ev.go (pc' := 10) (ls' := [.ref 102, .int x1, ev_unk, ev_unk, ev_unk, ev_unk, ev_unk]) (st' := [.int (1 : Int32), .ref 102]) [.aload_n 0, .iconst 1] (by decide +kernel) rfl <|
      Ev.cV0 (M' := M_Mo_refuse) (as := [.int (1 : Int32)]) (rest := []) l_Mo_226 M_Mo_refuse_ok M_Mo_refuse_in M_Mo_refuse_se (by decide +kernel) (r5 c1) rfl rfl rfl (Nat.le_of_ble_eq_true rfl) (Nat.le_of_ble_eq_true rfl) (s_Mo_refuse (pr4 c1) <| show Ev G (d + 3) _ _ M_Mo_pairs 13 [.ref 102, .int x1, ev_unk, ev_unk, ev_unk, ev_unk, ev_unk] [.int (-1 : Int32)] (hset h 102 (moC (stV v_2 (1 : Int32)) z_3)) R from
        Ev.ret (r := (some (.int (-1 : Int32)))) (Or.inl ⟨_, rfl, by decide +kernel, _, rfl, rfl⟩) (k1 c1)
      )
    ) (fun c1 =>
      Ev.go (pc' := 17) (ls' := [.ref 102, .int x1, .int (0 : Int32), ev_unk, ev_unk, ev_unk, ev_unk]) (st' := [.ref 102]) [.iconst 0, .istore_n 2, .aload_n 0] (by decide +kernel) rfl <|
      Ev.cV0 (M' := M_Mo_counting) (as := []) (rest := []) l_Mo_248 M_Mo_counting_ok M_Mo_counting_in M_Mo_counting_se (by decide +kernel) (r6 c1) rfl rfl rfl (Nat.le_of_ble_eq_true rfl) (Nat.le_of_ble_eq_true rfl) (k2 c1)
    )
  )
theorem b_Mo_pairs_20 {G : ev_G} {d k n : Nat} {h : ev_H} {R : Option Value → ev_H → Prop} {x1 : Int32} {x2 : Int32} {y0 : Int64}
  (k1 : Ev G (d + 3) k n M_Mo_pairs 24 [.ref 102, .int x1, .int x2, .long y0, ev_unk, .int (0 : Int32), ev_unk] [] h R)
  : Ev G (d + 3) k n M_Mo_pairs 20 [.ref 102, .int x1, .int x2, ev_unk, ev_unk, ev_unk, ev_unk] [.long y0] h R :=
  Ev.go (pc' := 24) (ls' := [.ref 102, .int x1, .int x2, .long y0, ev_unk, .int (0 : Int32), ev_unk]) (st' := []) [.lstore_n 3, .iconst 0, .istore 5] (by decide +kernel) rfl <|
  k1
theorem b_Mo_pairs_24 {G : ev_G} {d k n : Nat} {h : ev_H} {R : Option Value → ev_H → Prop} {x1 : Int32} {x2 : Int32} {x3 : Int64} {x5 : Int32} {S1 : AS} {v_2 : MG} {z_3 : MP}
  (pr1 : MS h S1)
  (r2 : ∃ fs, hat h 102 (oC 9 fs))
  (pr3 : ¬ x5 < (nI (sN S1)) → hat h 102 (moC v_2 z_3))
  (r4 : ¬ x5 < (nI (sN S1)) → ∃ fs, hat h 102 (oC 9 fs))
  (k1 : x5 < (nI (sN S1)) → Ev G (d + 3) k n M_Mo_pairs 39 [.ref 102, .int x1, .int x2, .long x3, ev_unk, .int x5, .int (x5 + (1 : Int32))] [] h R)
  (k2 : ¬ x5 < (nI (sN S1)) → R (some (.int x2)) (hset h 102 (moC (stV v_2 0) z_3)))
  : Ev G (d + 3) k n M_Mo_pairs 24 [.ref 102, .int x1, .int x2, .long x3, ev_unk, .int x5, ev_unk] [] h R :=
  Ev.go (pc' := 27) (ls' := [.ref 102, .int x1, .int x2, .long x3, ev_unk, .int x5, ev_unk]) (st' := [.ref 102, .int x5]) [.iload 5, .aload_n 0] (by decide +kernel) rfl <|
  Ev.cV0 (M' := M_Mo_many_0) (as := []) (rest := [.int x5]) l_Mo_71 M_Mo_many_0_ok M_Mo_many_0_in M_Mo_many_0_se (by decide +kernel) r2 rfl rfl rfl (Nat.le_of_ble_eq_true rfl) (Nat.le_of_ble_eq_true rfl) (s_Mo_many_0 pr1 <| show Ev G (d + 3) _ _ M_Mo_pairs 30 [.ref 102, .int x1, .int x2, .long x3, ev_unk, .int x5, ev_unk] [.int (nI (sN S1)), .int x5] h R from
    Ev.br (i := .if_icmp .ge (51)) (P := x5 < (nI (sN S1))) (t := 33) (f := 81) (r := []) (by decide +kernel) rfl (fun c1 =>
      Ev.go (pc' := 39) (ls' := [.ref 102, .int x1, .int x2, .long x3, ev_unk, .int x5, .int (x5 + (1 : Int32))]) (st' := []) [.iload 5, .iconst 1, .iadd, .istore 6] (by decide +kernel) rfl <|
      (k1 c1)
    ) (fun c1 =>
      Ev.go (pc' := 83) (ls' := [.ref 102, .int x1, .int x2, .long x3, ev_unk, .int x5, ev_unk]) (st' := [.int x2, .ref 102]) [.aload_n 0, .iload_n 2] (by decide +kernel) rfl <|
      Ev.cV0 (M' := M_Mo_gives_I) (as := [.int x2]) (rest := []) l_Mo_245 M_Mo_gives_I_ok M_Mo_gives_I_in M_Mo_gives_I_se (by decide +kernel) (r4 c1) rfl rfl rfl (Nat.le_of_ble_eq_true rfl) (Nat.le_of_ble_eq_true rfl) (s_Mo_gives_I (pr3 c1) <| show Ev G (d + 3) _ _ M_Mo_pairs 86 [.ref 102, .int x1, .int x2, .long x3, ev_unk, .int x5, ev_unk] [.int x2] (hset h 102 (moC (stV v_2 0) z_3)) R from
        Ev.ret (r := (some (.int x2))) (Or.inl ⟨_, rfl, by decide +kernel, _, rfl, rfl⟩) (k2 c1)
      )
    )
  )
theorem b_Mo_pairs_39 {G : ev_G} {d k n : Nat} {h : ev_H} {R : Option Value → ev_H → Prop} {x1 : Int32} {x2 : Int32} {x3 : Int64} {x5 : Int32} {x6 : Int32} {S1 : AS} {S2 : AS} {c_3 : Nat} {e_4 : Nat}
  (pr1 : MS h S1)
  (r2 : ∃ fs, hat h 102 (oC 9 fs))
  (pr3 : x6 < (nI (sN S1)) → MS h S2)
  (pr4 : x6 < (nI (sN S1)) → sOk S2)
  (pr5 : x6 < (nI (sN S1)) → x5 = nI c_3 ∧ c_3 < sN S2)
  (pr6 : x6 < (nI (sN S1)) → x6 = nI e_4 ∧ e_4 < sN S2)
  (r7 : x6 < (nI (sN S1)) → ∃ fs, hat h 102 (oC 9 fs))
  (k1 : x6 < (nI (sN S1)) → (b2i ((lt x3 c_3 && lt x3 e_4) && decide (¬ x1 < nI (pop (sCo S2 c_3 ^^^ sCo S2 e_4))))) = (0 : Int32) → Ev G (d + 3) k n M_Mo_pairs 39 [.ref 102, .int x1, .int (x2 + (0 : Int32)), .long x3, ev_unk, .int x5, .int (x6 + (1 : Int32))] [] h R)
  (k2 : x6 < (nI (sN S1)) → ¬ (b2i ((lt x3 c_3 && lt x3 e_4) && decide (¬ x1 < nI (pop (sCo S2 c_3 ^^^ sCo S2 e_4))))) = (0 : Int32) → Ev G (d + 3) k n M_Mo_pairs 39 [.ref 102, .int x1, .int (x2 + (1 : Int32)), .long x3, ev_unk, .int x5, .int (x6 + (1 : Int32))] [] h R)
  (k3 : ¬ x6 < (nI (sN S1)) → Ev G (d + 3) k n M_Mo_pairs 24 [.ref 102, .int x1, .int x2, .long x3, ev_unk, .int (x5 + (1 : Int32)), ev_unk] [] h R)
  : Ev G (d + 3) k n M_Mo_pairs 39 [.ref 102, .int x1, .int x2, .long x3, ev_unk, .int x5, .int x6] [] h R :=
  Ev.go (pc' := 42) (ls' := [.ref 102, .int x1, .int x2, .long x3, ev_unk, .int x5, .int x6]) (st' := [.ref 102, .int x6]) [.iload 6, .aload_n 0] (by decide +kernel) rfl <|
  Ev.cV0 (M' := M_Mo_many_0) (as := []) (rest := [.int x6]) l_Mo_71 M_Mo_many_0_ok M_Mo_many_0_in M_Mo_many_0_se (by decide +kernel) r2 rfl rfl rfl (Nat.le_of_ble_eq_true rfl) (Nat.le_of_ble_eq_true rfl) (s_Mo_many_0 pr1 <| show Ev G (d + 3) _ _ M_Mo_pairs 45 [.ref 102, .int x1, .int x2, .long x3, ev_unk, .int x5, .int x6] [.int (nI (sN S1)), .int x6] h R from
    Ev.br (i := .if_icmp .ge (30)) (P := x6 < (nI (sN S1))) (t := 48) (f := 75) (r := []) (by decide +kernel) rfl (fun c1 =>
      Ev.go (pc' := 56) (ls' := [.ref 102, .int x1, .int x2, .long x3, ev_unk, .int x5, .int x6]) (st' := [.long x3, .int x1, .int x6, .int x5, .ref 102, .int x2]) [.iload_n 2, .aload_n 0, .iload 5, .iload 6, .iload_n 1, .lload_n 3] (by decide +kernel) rfl <|
      Ev.cV0 (M' := M_Mo_isPair) (as := [.int x5, .int x6, .int x1, .long x3]) (rest := [.int x2]) l_Mo_334 M_Mo_isPair_ok M_Mo_isPair_in M_Mo_isPair_se (by decide +kernel) (r7 c1) rfl rfl rfl (Nat.le_of_ble_eq_true rfl) (Nat.le_of_ble_eq_true rfl) (s_Mo_isPair (pr3 c1) (pr4 c1) (pr5 c1) (pr6 c1) <| show Ev G (d + 3) _ _ M_Mo_pairs 59 [.ref 102, .int x1, .int x2, .long x3, ev_unk, .int x5, .int x6] [.int (b2i ((lt x3 c_3 && lt x3 e_4) && decide (¬ x1 < nI (pop (sCo S2 c_3 ^^^ sCo S2 e_4))))), .int x2] h R from
        Ev.br (i := .ifCond .eq (7)) (P := (b2i ((lt x3 c_3 && lt x3 e_4) && decide (¬ x1 < nI (pop (sCo S2 c_3 ^^^ sCo S2 e_4))))) = (0 : Int32)) (t := 66) (f := 62) (r := [.int x2]) (by decide +kernel) rfl (fun c2 =>
          Ev.go (pc' := 39) (ls' := [.ref 102, .int x1, .int (x2 + (0 : Int32)), .long x3, ev_unk, .int x5, .int (x6 + (1 : Int32))]) (st' := []) [.iconst 0, .iadd, .istore_n 2, .iinc 6 (1), .goto (-33)] (by decide +kernel) rfl <|
          (k1 c1 c2)
        ) (fun c2 =>
          Ev.go (pc' := 39) (ls' := [.ref 102, .int x1, .int (x2 + (1 : Int32)), .long x3, ev_unk, .int x5, .int (x6 + (1 : Int32))]) (st' := []) [.iconst 1, .goto (4), .iadd, .istore_n 2, .iinc 6 (1), .goto (-33)] (by decide +kernel) rfl <|
          (k2 c1 c2)
        )
      )
    ) (fun c1 =>
      Ev.go (pc' := 24) (ls' := [.ref 102, .int x1, .int x2, .long x3, ev_unk, .int (x5 + (1 : Int32)), .int x6]) (st' := []) [.iinc 5 (1), .goto (-54)] (by decide +kernel) rfl <|
      Ev.forget (ls' := [.ref 102, .int x1, .int x2, .long x3, ev_unk, .int (x5 + (1 : Int32)), ev_unk]) ⟨Or.inr rfl, Or.inr rfl, Or.inr rfl, Or.inr rfl, Or.inr rfl, Or.inr rfl, Or.inl rfl, trivial⟩ <|
      (k3 c1)
    )
  )
theorem b_Mo_pair_0 {G : ev_G} {d k n : Nat} {h : ev_H} {R : Option Value → ev_H → Prop} {x1 : Int32} {x2 : Int32} {x3 : Int32} {S1 : AS} {v_2 : MG} {z_3 : MP} {v_4 : MG} {z_5 : MP} {v_6 : MG} {z_7 : MP}
  (pr1 : MS h S1)
  (pr2 : sOk S1)
  (r3 : ∃ fs, hat h 102 (oC 9 fs))
  (pr4 : (b2i (inR x1 (sB S1 + 1))) = (0 : Int32) → hat h 102 (moC v_2 z_3))
  (r5 : (b2i (inR x1 (sB S1 + 1))) = (0 : Int32) → ∃ fs, hat h 102 (oC 9 fs))
  (pr6 : ¬ (b2i (inR x1 (sB S1 + 1))) = (0 : Int32) → x2 < (0 : Int32) → hat h 102 (moC v_4 z_5))
  (r7 : ¬ (b2i (inR x1 (sB S1 + 1))) = (0 : Int32) → x2 < (0 : Int32) → ∃ fs, hat h 102 (oC 9 fs))
  (pr8 : ¬ (b2i (inR x1 (sB S1 + 1))) = (0 : Int32) → ¬ x2 < (0 : Int32) → (b2i (frB x3.toInt64 (0 : Int64) (2 : Int64))) = (0 : Int32) → hat h 102 (moC v_6 z_7))
  (r9 : ¬ (b2i (inR x1 (sB S1 + 1))) = (0 : Int32) → ¬ x2 < (0 : Int32) → (b2i (frB x3.toInt64 (0 : Int64) (2 : Int64))) = (0 : Int32) → ∃ fs, hat h 102 (oC 9 fs))
  (r10 : ¬ (b2i (inR x1 (sB S1 + 1))) = (0 : Int32) → ¬ x2 < (0 : Int32) → ¬ (b2i (frB x3.toInt64 (0 : Int64) (2 : Int64))) = (0 : Int32) → ∃ fs, hat h 102 (oC 9 fs))
  (k1 : (b2i (inR x1 (sB S1 + 1))) = (0 : Int32) → R (some (.int (-1 : Int32))) (hset h 102 (moC (stV v_2 (1 : Int32)) z_3)))
  (k2 : ¬ (b2i (inR x1 (sB S1 + 1))) = (0 : Int32) → x2 < (0 : Int32) → R (some (.int (-1 : Int32))) (hset h 102 (moC (stV v_4 (1 : Int32)) z_5)))
  (k3 : ¬ (b2i (inR x1 (sB S1 + 1))) = (0 : Int32) → ¬ x2 < (0 : Int32) → (b2i (frB x3.toInt64 (0 : Int64) (2 : Int64))) = (0 : Int32) → R (some (.int (-1 : Int32))) (hset h 102 (moC (stV v_6 (1 : Int32)) z_7)))
  (k4 : ¬ (b2i (inR x1 (sB S1 + 1))) = (0 : Int32) → ¬ x2 < (0 : Int32) → ¬ (b2i (frB x3.toInt64 (0 : Int64) (2 : Int64))) = (0 : Int32) → Ev G (d + 2) 0 0 M_Mo_counting 0 [.ref 102, ev_unk, ev_unk, ev_unk] [] h (fun r h1 => Ev G (d + 3) k n M_Mo_pair 37 [.ref 102, .int x1, .int x2, .int x3, .int x2, ev_unk, ev_unk, ev_unk, ev_unk] (r.toList ++ []) h1 R))
  : Ev G (d + 3) k n M_Mo_pair 0 [.ref 102, .int x1, .int x2, .int x3, ev_unk, ev_unk, ev_unk, ev_unk, ev_unk] [] h R :=
  Ev.go (pc' := 2) (ls' := [.ref 102, .int x1, .int x2, .int x3, ev_unk, ev_unk, ev_unk, ev_unk, ev_unk]) (st' := [.int x1, .ref 102]) [.aload_n 0, .iload_n 1] (by decide +kernel) rfl <|
  Ev.cV0 (M' := M_Mo_isRadius) (as := [.int x1]) (rest := []) l_Mo_309 M_Mo_isRadius_ok M_Mo_isRadius_in M_Mo_isRadius_se (by decide +kernel) r3 rfl rfl rfl (Nat.le_of_ble_eq_true rfl) (Nat.le_of_ble_eq_true rfl) (s_Mo_isRadius pr1 pr2 <| show Ev G (d + 3) _ _ M_Mo_pair 5 [.ref 102, .int x1, .int x2, .int x3, ev_unk, ev_unk, ev_unk, ev_unk, ev_unk] [.int (b2i (inR x1 (sB S1 + 1)))] h R from
    Ev.br (i := .ifCond .eq (19)) (P := (b2i (inR x1 (sB S1 + 1))) = (0 : Int32)) (t := 24) (f := 8) (r := []) (by decide +kernel) rfl (fun c1 =>
      Ev.go (pc' := 26) (ls' := [.ref 102, .int x1, .int x2, .int x3, ev_unk, ev_unk, ev_unk, ev_unk, ev_unk]) (st' := [.int (1 : Int32), .ref 102]) [.aload_n 0, .iconst 1] (by decide +kernel) rfl <|
      Ev.cV0 (M' := M_Mo_refuse) (as := [.int (1 : Int32)]) (rest := []) l_Mo_226 M_Mo_refuse_ok M_Mo_refuse_in M_Mo_refuse_se (by decide +kernel) (r5 c1) rfl rfl rfl (Nat.le_of_ble_eq_true rfl) (Nat.le_of_ble_eq_true rfl) (s_Mo_refuse (pr4 c1) <| show Ev G (d + 3) _ _ M_Mo_pair 29 [.ref 102, .int x1, .int x2, .int x3, ev_unk, ev_unk, ev_unk, ev_unk, ev_unk] [.int (-1 : Int32)] (hset h 102 (moC (stV v_2 (1 : Int32)) z_3)) R from
        Ev.ret (r := (some (.int (-1 : Int32)))) (Or.inl ⟨_, rfl, by decide +kernel, _, rfl, rfl⟩) (k1 c1)
      )
    ) (fun c1 =>
      Ev.go (pc' := 9) (ls' := [.ref 102, .int x1, .int x2, .int x3, ev_unk, ev_unk, ev_unk, ev_unk, ev_unk]) (st' := [.int x2]) [.iload_n 2] (by decide +kernel) rfl <|
      Ev.br (i := .ifCond .lt (15)) (P := x2 < (0 : Int32)) (t := 24) (f := 12) (r := []) (by decide +kernel) rfl (fun c2 =>
        Ev.go (pc' := 26) (ls' := [.ref 102, .int x1, .int x2, .int x3, ev_unk, ev_unk, ev_unk, ev_unk, ev_unk]) (st' := [.int (1 : Int32), .ref 102]) [.aload_n 0, .iconst 1] (by decide +kernel) rfl <|
        Ev.cV0 (M' := M_Mo_refuse) (as := [.int (1 : Int32)]) (rest := []) l_Mo_226 M_Mo_refuse_ok M_Mo_refuse_in M_Mo_refuse_se (by decide +kernel) (r7 c1 c2) rfl rfl rfl (Nat.le_of_ble_eq_true rfl) (Nat.le_of_ble_eq_true rfl) (s_Mo_refuse (pr6 c1 c2) <| show Ev G (d + 3) _ _ M_Mo_pair 29 [.ref 102, .int x1, .int x2, .int x3, ev_unk, ev_unk, ev_unk, ev_unk, ev_unk] [.int (-1 : Int32)] (hset h 102 (moC (stV v_4 (1 : Int32)) z_5)) R from
          Ev.ret (r := (some (.int (-1 : Int32)))) (Or.inl ⟨_, rfl, by decide +kernel, _, rfl, rfl⟩) (k2 c1 c2)
        )
      ) (fun c2 =>
        Ev.go (pc' := 15) (ls' := [.ref 102, .int x1, .int x2, .int x3, ev_unk, ev_unk, ev_unk, ev_unk, ev_unk]) (st' := [.long (0 : Int64), .long x3.toInt64]) [.iload_n 3, .i2l, .lconst 0] (by decide +kernel) rfl <|
        Ev.ldc2 k_Mo_58 (by decide +kernel) <|
        Ev.cS0 (M' := M_Mo_isFrom) (as := [.long x3.toInt64, .long (0 : Int64), .long (2 : Int64)]) (rest := []) l_Mo_172 M_Mo_isFrom_ok M_Mo_isFrom_st (by decide +kernel) rfl rfl (Nat.le_of_ble_eq_true rfl) (Nat.le_of_ble_eq_true rfl) (s_Mo_isFrom <| show Ev G (d + 3) _ _ M_Mo_pair 21 [.ref 102, .int x1, .int x2, .int x3, ev_unk, ev_unk, ev_unk, ev_unk, ev_unk] [.int (b2i (frB x3.toInt64 (0 : Int64) (2 : Int64)))] h R from
          Ev.br (i := .ifCond .ne (9)) (P := (b2i (frB x3.toInt64 (0 : Int64) (2 : Int64))) = (0 : Int32)) (t := 24) (f := 30) (r := []) (by decide +kernel) rfl (fun c3 =>
            Ev.go (pc' := 26) (ls' := [.ref 102, .int x1, .int x2, .int x3, ev_unk, ev_unk, ev_unk, ev_unk, ev_unk]) (st' := [.int (1 : Int32), .ref 102]) [.aload_n 0, .iconst 1] (by decide +kernel) rfl <|
            Ev.cV0 (M' := M_Mo_refuse) (as := [.int (1 : Int32)]) (rest := []) l_Mo_226 M_Mo_refuse_ok M_Mo_refuse_in M_Mo_refuse_se (by decide +kernel) (r9 c1 c2 c3) rfl rfl rfl (Nat.le_of_ble_eq_true rfl) (Nat.le_of_ble_eq_true rfl) (s_Mo_refuse (pr8 c1 c2 c3) <| show Ev G (d + 3) _ _ M_Mo_pair 29 [.ref 102, .int x1, .int x2, .int x3, ev_unk, ev_unk, ev_unk, ev_unk, ev_unk] [.int (-1 : Int32)] (hset h 102 (moC (stV v_6 (1 : Int32)) z_7)) R from
              Ev.ret (r := (some (.int (-1 : Int32)))) (Or.inl ⟨_, rfl, by decide +kernel, _, rfl, rfl⟩) (k3 c1 c2 c3)
            )
          ) (fun c3 =>
            Ev.go (pc' := 34) (ls' := [.ref 102, .int x1, .int x2, .int x3, .int x2, ev_unk, ev_unk, ev_unk, ev_unk]) (st' := [.ref 102]) [.iload_n 2, .istore 4, .aload_n 0] (by decide +kernel) rfl <|
            Ev.cV0 (M' := M_Mo_counting) (as := []) (rest := []) l_Mo_248 M_Mo_counting_ok M_Mo_counting_in M_Mo_counting_se (by decide +kernel) (r10 c1 c2 c3) rfl rfl rfl (Nat.le_of_ble_eq_true rfl) (Nat.le_of_ble_eq_true rfl) (k4 c1 c2 c3)
          )
        )
      )
    )
  )
theorem b_Mo_pair_37 {G : ev_G} {d k n : Nat} {h : ev_H} {R : Option Value → ev_H → Prop} {x1 : Int32} {x2 : Int32} {x3 : Int32} {x4 : Int32} {y0 : Int64}
  (k1 : Ev G (d + 3) k n M_Mo_pair 42 [.ref 102, .int x1, .int x2, .int x3, .int x4, .long y0, ev_unk, .int (0 : Int32), ev_unk] [] h R)
  : Ev G (d + 3) k n M_Mo_pair 37 [.ref 102, .int x1, .int x2, .int x3, .int x4, ev_unk, ev_unk, ev_unk, ev_unk] [.long y0] h R :=
  Ev.go (pc' := 42) (ls' := [.ref 102, .int x1, .int x2, .int x3, .int x4, .long y0, ev_unk, .int (0 : Int32), ev_unk]) (st' := []) [.lstore 5, .iconst 0, .istore 7] (by decide +kernel) rfl <|
  k1
theorem b_Mo_pair_42 {G : ev_G} {d k n : Nat} {h : ev_H} {R : Option Value → ev_H → Prop} {x1 : Int32} {x2 : Int32} {x3 : Int32} {x4 : Int32} {x5 : Int64} {x7 : Int32} {S1 : AS} {v_2 : MG} {z_3 : MP}
  (pr1 : MS h S1)
  (r2 : ∃ fs, hat h 102 (oC 9 fs))
  (pr3 : ¬ x7 < (nI (sN S1)) → hat h 102 (moC v_2 z_3))
  (r4 : ¬ x7 < (nI (sN S1)) → ∃ fs, hat h 102 (oC 9 fs))
  (k1 : x7 < (nI (sN S1)) → Ev G (d + 3) k n M_Mo_pair 57 [.ref 102, .int x1, .int x2, .int x3, .int x4, .long x5, ev_unk, .int x7, .int (x7 + (1 : Int32))] [] h R)
  (k2 : ¬ x7 < (nI (sN S1)) → R (some (.int (-1 : Int32))) (hset h 102 (moC (stV v_2 (5 : Int32)) z_3)))
  : Ev G (d + 3) k n M_Mo_pair 42 [.ref 102, .int x1, .int x2, .int x3, .int x4, .long x5, ev_unk, .int x7, ev_unk] [] h R :=
  Ev.go (pc' := 45) (ls' := [.ref 102, .int x1, .int x2, .int x3, .int x4, .long x5, ev_unk, .int x7, ev_unk]) (st' := [.ref 102, .int x7]) [.iload 7, .aload_n 0] (by decide +kernel) rfl <|
  Ev.cV0 (M' := M_Mo_many_0) (as := []) (rest := [.int x7]) l_Mo_71 M_Mo_many_0_ok M_Mo_many_0_in M_Mo_many_0_se (by decide +kernel) r2 rfl rfl rfl (Nat.le_of_ble_eq_true rfl) (Nat.le_of_ble_eq_true rfl) (s_Mo_many_0 pr1 <| show Ev G (d + 3) _ _ M_Mo_pair 48 [.ref 102, .int x1, .int x2, .int x3, .int x4, .long x5, ev_unk, .int x7, ev_unk] [.int (nI (sN S1)), .int x7] h R from
    Ev.br (i := .if_icmp .ge (95)) (P := x7 < (nI (sN S1))) (t := 51) (f := 143) (r := []) (by decide +kernel) rfl (fun c1 =>
      Ev.go (pc' := 57) (ls' := [.ref 102, .int x1, .int x2, .int x3, .int x4, .long x5, ev_unk, .int x7, .int (x7 + (1 : Int32))]) (st' := []) [.iload 7, .iconst 1, .iadd, .istore 8] (by decide +kernel) rfl <|
      (k1 c1)
    ) (fun c1 =>
      Ev.go (pc' := 145) (ls' := [.ref 102, .int x1, .int x2, .int x3, .int x4, .long x5, ev_unk, .int x7, ev_unk]) (st' := [.int (5 : Int32), .ref 102]) [.aload_n 0, .iconst 5] (by decide +kernel) rfl <|
      Ev.cV0 (M' := M_Mo_refuse) (as := [.int (5 : Int32)]) (rest := []) l_Mo_226 M_Mo_refuse_ok M_Mo_refuse_in M_Mo_refuse_se (by decide +kernel) (r4 c1) rfl rfl rfl (Nat.le_of_ble_eq_true rfl) (Nat.le_of_ble_eq_true rfl) (s_Mo_refuse (pr3 c1) <| show Ev G (d + 3) _ _ M_Mo_pair 148 [.ref 102, .int x1, .int x2, .int x3, .int x4, .long x5, ev_unk, .int x7, ev_unk] [.int (-1 : Int32)] (hset h 102 (moC (stV v_2 (5 : Int32)) z_3)) R from
        Ev.ret (r := (some (.int (-1 : Int32)))) (Or.inl ⟨_, rfl, by decide +kernel, _, rfl, rfl⟩) (k2 c1)
      )
    )
  )
theorem b_Mo_pair_57 {G : ev_G} {d k n : Nat} {h : ev_H} {R : Option Value → ev_H → Prop} {x1 : Int32} {x2 : Int32} {x3 : Int32} {x4 : Int32} {x5 : Int64} {x7 : Int32} {x8 : Int32} {S1 : AS} {S2 : AS} {c_3 : Nat} {e_4 : Nat} {v_5 : MG} {z_6 : MP} {v_7 : MG} {z_8 : MP} {S9 : AS} {c_10 : Nat} {S11 : AS} {c_12 : Nat} {v_13 : MG} {z_14 : MP}
  (pr1 : MS h S1)
  (r2 : ∃ fs, hat h 102 (oC 9 fs))
  (pr3 : x8 < (nI (sN S1)) → MS h S2)
  (pr4 : x8 < (nI (sN S1)) → sOk S2)
  (pr5 : x8 < (nI (sN S1)) → x7 = nI c_3 ∧ c_3 < sN S2)
  (pr6 : x8 < (nI (sN S1)) → x8 = nI e_4 ∧ e_4 < sN S2)
  (r7 : x8 < (nI (sN S1)) → ∃ fs, hat h 102 (oC 9 fs))
  (pr8 : x8 < (nI (sN S1)) → ¬ (b2i ((lt x5 c_3 && lt x5 e_4) && decide (¬ x1 < nI (pop (sCo S2 c_3 ^^^ sCo S2 e_4))))) = (0 : Int32) → x4 = (0 : Int32) → x3 = (0 : Int32) → hat h 102 (moC v_5 z_6))
  (r9 : x8 < (nI (sN S1)) → ¬ (b2i ((lt x5 c_3 && lt x5 e_4) && decide (¬ x1 < nI (pop (sCo S2 c_3 ^^^ sCo S2 e_4))))) = (0 : Int32) → x4 = (0 : Int32) → x3 = (0 : Int32) → ∃ fs, hat h 102 (oC 9 fs))
  (pr10 : x8 < (nI (sN S1)) → ¬ (b2i ((lt x5 c_3 && lt x5 e_4) && decide (¬ x1 < nI (pop (sCo S2 c_3 ^^^ sCo S2 e_4))))) = (0 : Int32) → x4 = (0 : Int32) → ¬ x3 = (0 : Int32) → x3 = (1 : Int32) → hat h 102 (moC v_7 z_8))
  (r11 : x8 < (nI (sN S1)) → ¬ (b2i ((lt x5 c_3 && lt x5 e_4) && decide (¬ x1 < nI (pop (sCo S2 c_3 ^^^ sCo S2 e_4))))) = (0 : Int32) → x4 = (0 : Int32) → ¬ x3 = (0 : Int32) → x3 = (1 : Int32) → ∃ fs, hat h 102 (oC 9 fs))
  (pr12 : x8 < (nI (sN S1)) → ¬ (b2i ((lt x5 c_3 && lt x5 e_4) && decide (¬ x1 < nI (pop (sCo S2 c_3 ^^^ sCo S2 e_4))))) = (0 : Int32) → x4 = (0 : Int32) → ¬ x3 = (0 : Int32) → ¬ x3 = (1 : Int32) → MS h S9)
  (pr13 : x8 < (nI (sN S1)) → ¬ (b2i ((lt x5 c_3 && lt x5 e_4) && decide (¬ x1 < nI (pop (sCo S2 c_3 ^^^ sCo S2 e_4))))) = (0 : Int32) → x4 = (0 : Int32) → ¬ x3 = (0 : Int32) → ¬ x3 = (1 : Int32) → sOk S9)
  (pr14 : x8 < (nI (sN S1)) → ¬ (b2i ((lt x5 c_3 && lt x5 e_4) && decide (¬ x1 < nI (pop (sCo S2 c_3 ^^^ sCo S2 e_4))))) = (0 : Int32) → x4 = (0 : Int32) → ¬ x3 = (0 : Int32) → ¬ x3 = (1 : Int32) → x7 = nI c_10 ∧ c_10 < sN S9)
  (r15 : x8 < (nI (sN S1)) → ¬ (b2i ((lt x5 c_3 && lt x5 e_4) && decide (¬ x1 < nI (pop (sCo S2 c_3 ^^^ sCo S2 e_4))))) = (0 : Int32) → x4 = (0 : Int32) → ¬ x3 = (0 : Int32) → ¬ x3 = (1 : Int32) → ∃ fs, hat h 102 (oC 9 fs))
  (pr16 : x8 < (nI (sN S1)) → ¬ (b2i ((lt x5 c_3 && lt x5 e_4) && decide (¬ x1 < nI (pop (sCo S2 c_3 ^^^ sCo S2 e_4))))) = (0 : Int32) → x4 = (0 : Int32) → ¬ x3 = (0 : Int32) → ¬ x3 = (1 : Int32) → MS h S11)
  (pr17 : x8 < (nI (sN S1)) → ¬ (b2i ((lt x5 c_3 && lt x5 e_4) && decide (¬ x1 < nI (pop (sCo S2 c_3 ^^^ sCo S2 e_4))))) = (0 : Int32) → x4 = (0 : Int32) → ¬ x3 = (0 : Int32) → ¬ x3 = (1 : Int32) → sOk S11)
  (pr18 : x8 < (nI (sN S1)) → ¬ (b2i ((lt x5 c_3 && lt x5 e_4) && decide (¬ x1 < nI (pop (sCo S2 c_3 ^^^ sCo S2 e_4))))) = (0 : Int32) → x4 = (0 : Int32) → ¬ x3 = (0 : Int32) → ¬ x3 = (1 : Int32) → x8 = nI c_12 ∧ c_12 < sN S11)
  (pr19 : x8 < (nI (sN S1)) → ¬ (b2i ((lt x5 c_3 && lt x5 e_4) && decide (¬ x1 < nI (pop (sCo S2 c_3 ^^^ sCo S2 e_4))))) = (0 : Int32) → x4 = (0 : Int32) → ¬ x3 = (0 : Int32) → ¬ x3 = (1 : Int32) → hat h 102 (moC v_13 z_14))
  (k1 : x8 < (nI (sN S1)) → (b2i ((lt x5 c_3 && lt x5 e_4) && decide (¬ x1 < nI (pop (sCo S2 c_3 ^^^ sCo S2 e_4))))) = (0 : Int32) → Ev G (d + 3) k n M_Mo_pair 57 [.ref 102, .int x1, .int x2, .int x3, .int x4, .long x5, ev_unk, .int x7, .int (x8 + (1 : Int32))] [] h R)
  (k2 : x8 < (nI (sN S1)) → ¬ (b2i ((lt x5 c_3 && lt x5 e_4) && decide (¬ x1 < nI (pop (sCo S2 c_3 ^^^ sCo S2 e_4))))) = (0 : Int32) → x4 = (0 : Int32) → x3 = (0 : Int32) → R (some (.int x7)) (hset h 102 (moC (stV v_5 0) z_6)))
  (k3 : x8 < (nI (sN S1)) → ¬ (b2i ((lt x5 c_3 && lt x5 e_4) && decide (¬ x1 < nI (pop (sCo S2 c_3 ^^^ sCo S2 e_4))))) = (0 : Int32) → x4 = (0 : Int32) → ¬ x3 = (0 : Int32) → x3 = (1 : Int32) → R (some (.int x8)) (hset h 102 (moC (stV v_7 0) z_8)))
  (k4 : x8 < (nI (sN S1)) → ¬ (b2i ((lt x5 c_3 && lt x5 e_4) && decide (¬ x1 < nI (pop (sCo S2 c_3 ^^^ sCo S2 e_4))))) = (0 : Int32) → x4 = (0 : Int32) → ¬ x3 = (0 : Int32) → ¬ x3 = (1 : Int32) → R (some (.int (nI (pop ((sCo S9 c_10) ^^^ (sCo S11 c_12)))))) (hset h 102 (moC (stV v_13 0) z_14)))
  (k5 : x8 < (nI (sN S1)) → ¬ (b2i ((lt x5 c_3 && lt x5 e_4) && decide (¬ x1 < nI (pop (sCo S2 c_3 ^^^ sCo S2 e_4))))) = (0 : Int32) → ¬ x4 = (0 : Int32) → Ev G (d + 3) k n M_Mo_pair 57 [.ref 102, .int x1, .int x2, .int x3, .int (x4 + (-1 : Int32)), .long x5, ev_unk, .int x7, .int (x8 + (1 : Int32))] [] h R)
  (k6 : ¬ x8 < (nI (sN S1)) → Ev G (d + 3) k n M_Mo_pair 42 [.ref 102, .int x1, .int x2, .int x3, .int x4, .long x5, ev_unk, .int (x7 + (1 : Int32)), ev_unk] [] h R)
  : Ev G (d + 3) k n M_Mo_pair 57 [.ref 102, .int x1, .int x2, .int x3, .int x4, .long x5, ev_unk, .int x7, .int x8] [] h R :=
  Ev.go (pc' := 60) (ls' := [.ref 102, .int x1, .int x2, .int x3, .int x4, .long x5, ev_unk, .int x7, .int x8]) (st' := [.ref 102, .int x8]) [.iload 8, .aload_n 0] (by decide +kernel) rfl <|
  Ev.cV0 (M' := M_Mo_many_0) (as := []) (rest := [.int x8]) l_Mo_71 M_Mo_many_0_ok M_Mo_many_0_in M_Mo_many_0_se (by decide +kernel) r2 rfl rfl rfl (Nat.le_of_ble_eq_true rfl) (Nat.le_of_ble_eq_true rfl) (s_Mo_many_0 pr1 <| show Ev G (d + 3) _ _ M_Mo_pair 63 [.ref 102, .int x1, .int x2, .int x3, .int x4, .long x5, ev_unk, .int x7, .int x8] [.int (nI (sN S1)), .int x8] h R from
    Ev.br (i := .if_icmp .ge (74)) (P := x8 < (nI (sN S1))) (t := 66) (f := 137) (r := []) (by decide +kernel) rfl (fun c1 =>
      Ev.go (pc' := 74) (ls' := [.ref 102, .int x1, .int x2, .int x3, .int x4, .long x5, ev_unk, .int x7, .int x8]) (st' := [.long x5, .int x1, .int x8, .int x7, .ref 102]) [.aload_n 0, .iload 7, .iload 8, .iload_n 1, .lload 5] (by decide +kernel) rfl <|
      Ev.cV0 (M' := M_Mo_isPair) (as := [.int x7, .int x8, .int x1, .long x5]) (rest := []) l_Mo_334 M_Mo_isPair_ok M_Mo_isPair_in M_Mo_isPair_se (by decide +kernel) (r7 c1) rfl rfl rfl (Nat.le_of_ble_eq_true rfl) (Nat.le_of_ble_eq_true rfl) (s_Mo_isPair (pr3 c1) (pr4 c1) (pr5 c1) (pr6 c1) <| show Ev G (d + 3) _ _ M_Mo_pair 77 [.ref 102, .int x1, .int x2, .int x3, .int x4, .long x5, ev_unk, .int x7, .int x8] [.int (b2i ((lt x5 c_3 && lt x5 e_4) && decide (¬ x1 < nI (pop (sCo S2 c_3 ^^^ sCo S2 e_4)))))] h R from
        Ev.br (i := .ifCond .ne (6)) (P := (b2i ((lt x5 c_3 && lt x5 e_4) && decide (¬ x1 < nI (pop (sCo S2 c_3 ^^^ sCo S2 e_4))))) = (0 : Int32)) (t := 80) (f := 83) (r := []) (by decide +kernel) rfl (fun c2 =>
          Ev.go (pc' := 57) (ls' := [.ref 102, .int x1, .int x2, .int x3, .int x4, .long x5, ev_unk, .int x7, .int (x8 + (1 : Int32))]) (st' := []) [.goto (51), .iinc 8 (1), .goto (-77)] (by decide +kernel) rfl <|
          (k1 c1 c2)
        ) (fun c2 =>
          Ev.go (pc' := 85) (ls' := [.ref 102, .int x1, .int x2, .int x3, .int x4, .long x5, ev_unk, .int x7, .int x8]) (st' := [.int x4]) [.iload 4] (by decide +kernel) rfl <|
          Ev.br (i := .ifCond .ne (43)) (P := x4 = (0 : Int32)) (t := 88) (f := 128) (r := []) (by decide +kernel) rfl (fun c3 =>
            Ev.go (pc' := 90) (ls' := [.ref 102, .int x1, .int x2, .int x3, .int x4, .long x5, ev_unk, .int x7, .int x8]) (st' := [.int x3, .ref 102]) [.aload_n 0, .iload_n 3] (by decide +kernel) rfl <|
            Ev.br (i := .ifCond .ne (8)) (P := x3 = (0 : Int32)) (t := 93) (f := 98) (r := [.ref 102]) (by decide +kernel) rfl (fun c4 =>
              Ev.go (pc' := 124) (ls' := [.ref 102, .int x1, .int x2, .int x3, .int x4, .long x5, ev_unk, .int x7, .int x8]) (st' := [.int x7, .ref 102]) [.iload 7, .goto (29)] (by decide +kernel) rfl <|
              Ev.cV0 (M' := M_Mo_gives_I) (as := [.int x7]) (rest := []) l_Mo_245 M_Mo_gives_I_ok M_Mo_gives_I_in M_Mo_gives_I_se (by decide +kernel) (r9 c1 c2 c3 c4) rfl rfl rfl (Nat.le_of_ble_eq_true rfl) (Nat.le_of_ble_eq_true rfl) (s_Mo_gives_I (pr8 c1 c2 c3 c4) <| show Ev G (d + 3) _ _ M_Mo_pair 127 [.ref 102, .int x1, .int x2, .int x3, .int x4, .long x5, ev_unk, .int x7, .int x8] [.int x7] (hset h 102 (moC (stV v_5 0) z_6)) R from
                Ev.ret (r := (some (.int x7))) (Or.inl ⟨_, rfl, by decide +kernel, _, rfl, rfl⟩) (k2 c1 c2 c3 c4)
              )
            ) (fun c4 =>
              Ev.go (pc' := 100) (ls' := [.ref 102, .int x1, .int x2, .int x3, .int x4, .long x5, ev_unk, .int x7, .int x8]) (st' := [.int (1 : Int32), .int x3, .ref 102]) [.iload_n 3, .iconst 1] (by decide +kernel) rfl <|
              Ev.br (i := .if_icmp .ne (8)) (P := x3 = (1 : Int32)) (t := 103) (f := 108) (r := [.ref 102]) (by decide +kernel) rfl (fun c5 =>
                Ev.go (pc' := 124) (ls' := [.ref 102, .int x1, .int x2, .int x3, .int x4, .long x5, ev_unk, .int x7, .int x8]) (st' := [.int x8, .ref 102]) [.iload 8, .goto (19)] (by decide +kernel) rfl <|
                Ev.cV0 (M' := M_Mo_gives_I) (as := [.int x8]) (rest := []) l_Mo_245 M_Mo_gives_I_ok M_Mo_gives_I_in M_Mo_gives_I_se (by decide +kernel) (r11 c1 c2 c3 c4 c5) rfl rfl rfl (Nat.le_of_ble_eq_true rfl) (Nat.le_of_ble_eq_true rfl) (s_Mo_gives_I (pr10 c1 c2 c3 c4 c5) <| show Ev G (d + 3) _ _ M_Mo_pair 127 [.ref 102, .int x1, .int x2, .int x3, .int x4, .long x5, ev_unk, .int x7, .int x8] [.int x8] (hset h 102 (moC (stV v_7 0) z_8)) R from
                  Ev.ret (r := (some (.int x8))) (Or.inl ⟨_, rfl, by decide +kernel, _, rfl, rfl⟩) (k3 c1 c2 c3 c4 c5)
                )
              ) (fun c5 =>
                Ev.go (pc' := 111) (ls' := [.ref 102, .int x1, .int x2, .int x3, .int x4, .long x5, ev_unk, .int x7, .int x8]) (st' := [.int x7, .ref 102, .ref 102]) [.aload_n 0, .iload 7] (by decide +kernel) rfl <|
                Ev.cV0 (M' := M_Mo_codeOf) (as := [.int x7]) (rest := [.ref 102]) l_Mo_85 M_Mo_codeOf_ok M_Mo_codeOf_in M_Mo_codeOf_se (by decide +kernel) (r15 c1 c2 c3 c4 c5) rfl rfl rfl (Nat.le_of_ble_eq_true rfl) (Nat.le_of_ble_eq_true rfl) (s_Mo_codeOf (pr12 c1 c2 c3 c4 c5) (pr13 c1 c2 c3 c4 c5) (pr14 c1 c2 c3 c4 c5) <| show Ev G (d + 3) _ _ M_Mo_pair 114 [.ref 102, .int x1, .int x2, .int x3, .int x4, .long x5, ev_unk, .int x7, .int x8] [.long (sCo S9 c_10), .ref 102] h R from
                  Ev.go (pc' := 117) (ls' := [.ref 102, .int x1, .int x2, .int x3, .int x4, .long x5, ev_unk, .int x7, .int x8]) (st' := [.int x8, .ref 102, .long (sCo S9 c_10), .ref 102]) [.aload_n 0, .iload 8] (by decide +kernel) rfl <|
                  Ev.cV0 (M' := M_Mo_codeOf) (as := [.int x8]) (rest := [.long (sCo S9 c_10), .ref 102]) l_Mo_85 M_Mo_codeOf_ok M_Mo_codeOf_in M_Mo_codeOf_se (by decide +kernel) (r15 c1 c2 c3 c4 c5) rfl rfl rfl (Nat.le_of_ble_eq_true rfl) (Nat.le_of_ble_eq_true rfl) (s_Mo_codeOf (pr16 c1 c2 c3 c4 c5) (pr17 c1 c2 c3 c4 c5) (pr18 c1 c2 c3 c4 c5) <| show Ev G (d + 3) _ _ M_Mo_pair 120 [.ref 102, .int x1, .int x2, .int x3, .int x4, .long x5, ev_unk, .int x7, .int x8] [.long (sCo S11 c_12), .long (sCo S9 c_10), .ref 102] h R from
                    Ev.go (pc' := 121) (ls' := [.ref 102, .int x1, .int x2, .int x3, .int x4, .long x5, ev_unk, .int x7, .int x8]) (st' := [.long ((sCo S9 c_10) ^^^ (sCo S11 c_12)), .ref 102]) [.lxor] (by decide +kernel) rfl <|
                    Ev.cS0 (M' := M_Mo_ones_J) (as := [.long ((sCo S9 c_10) ^^^ (sCo S11 c_12))]) (rest := [.ref 102]) l_Mo_88 M_Mo_ones_J_ok M_Mo_ones_J_st (by decide +kernel) rfl rfl (Nat.le_of_ble_eq_true rfl) (Nat.le_of_ble_eq_true rfl) (s_Mo_ones_J <| show Ev G (d + 3) _ _ M_Mo_pair 124 [.ref 102, .int x1, .int x2, .int x3, .int x4, .long x5, ev_unk, .int x7, .int x8] [.int (nI (pop ((sCo S9 c_10) ^^^ (sCo S11 c_12)))), .ref 102] h R from
                      Ev.cV0 (M' := M_Mo_gives_I) (as := [.int (nI (pop ((sCo S9 c_10) ^^^ (sCo S11 c_12))))]) (rest := []) l_Mo_245 M_Mo_gives_I_ok M_Mo_gives_I_in M_Mo_gives_I_se (by decide +kernel) (r15 c1 c2 c3 c4 c5) rfl rfl rfl (Nat.le_of_ble_eq_true rfl) (Nat.le_of_ble_eq_true rfl) (s_Mo_gives_I (pr19 c1 c2 c3 c4 c5) <| show Ev G (d + 3) _ _ M_Mo_pair 127 [.ref 102, .int x1, .int x2, .int x3, .int x4, .long x5, ev_unk, .int x7, .int x8] [.int (nI (pop ((sCo S9 c_10) ^^^ (sCo S11 c_12))))] (hset h 102 (moC (stV v_13 0) z_14)) R from
                        Ev.ret (r := (some (.int (nI (pop ((sCo S9 c_10) ^^^ (sCo S11 c_12))))))) (Or.inl ⟨_, rfl, by decide +kernel, _, rfl, rfl⟩) (k4 c1 c2 c3 c4 c5)
                      )
                    )
                  )
                )
              )
            )
          ) (fun c3 =>
            Ev.go (pc' := 57) (ls' := [.ref 102, .int x1, .int x2, .int x3, .int (x4 + (-1 : Int32)), .long x5, ev_unk, .int x7, .int (x8 + (1 : Int32))]) (st' := []) [.iinc 4 (-1), .iinc 8 (1), .goto (-77)] (by decide +kernel) rfl <|
            (k5 c1 c2 c3)
          )
        )
      )
    ) (fun c1 =>
      Ev.go (pc' := 42) (ls' := [.ref 102, .int x1, .int x2, .int x3, .int x4, .long x5, ev_unk, .int (x7 + (1 : Int32)), .int x8]) (st' := []) [.iinc 7 (1), .goto (-98)] (by decide +kernel) rfl <|
      Ev.forget (ls' := [.ref 102, .int x1, .int x2, .int x3, .int x4, .long x5, ev_unk, .int (x7 + (1 : Int32)), ev_unk]) ⟨Or.inr rfl, Or.inr rfl, Or.inr rfl, Or.inr rfl, Or.inr rfl, Or.inr rfl, Or.inr rfl, Or.inr rfl, Or.inl rfl, trivial⟩ <|
      (k6 c1)
    )
  )
theorem b_Mo_closest_0 {G : ev_G} {d k n : Nat} {h : ev_H} {R : Option Value → ev_H → Prop} {x1 : Int32} {v_1 : MG} {z_2 : MP}
  (pr1 : (b2i (frB x1.toInt64 (0 : Int64) (2 : Int64))) = (0 : Int32) → hat h 102 (moC v_1 z_2))
  (r2 : (b2i (frB x1.toInt64 (0 : Int64) (2 : Int64))) = (0 : Int32) → ∃ fs, hat h 102 (oC 9 fs))
  (r3 : ¬ (b2i (frB x1.toInt64 (0 : Int64) (2 : Int64))) = (0 : Int32) → ∃ fs, hat h 102 (oC 9 fs))
  (k1 : (b2i (frB x1.toInt64 (0 : Int64) (2 : Int64))) = (0 : Int32) → R (some (.int (-1 : Int32))) (hset h 102 (moC (stV v_1 (1 : Int32)) z_2)))
  (k2 : ¬ (b2i (frB x1.toInt64 (0 : Int64) (2 : Int64))) = (0 : Int32) → Ev G (d + 2) 0 0 M_Mo_counting 0 [.ref 102, ev_unk, ev_unk, ev_unk] [] h (fun r h1 => Ev G (d + 3) k n M_Mo_closest 30 [.ref 102, .int x1, .int (-1 : Int32), .int (-1 : Int32), .int (49 : Int32), ev_unk, ev_unk, ev_unk, ev_unk] (r.toList ++ []) h1 R))
  : Ev G (d + 3) k n M_Mo_closest 0 [.ref 102, .int x1, ev_unk, ev_unk, ev_unk, ev_unk, ev_unk, ev_unk, ev_unk] [] h R :=
  Ev.go (pc' := 3) (ls' := [.ref 102, .int x1, ev_unk, ev_unk, ev_unk, ev_unk, ev_unk, ev_unk, ev_unk]) (st' := [.long (0 : Int64), .long x1.toInt64]) [.iload_n 1, .i2l, .lconst 0] (by decide +kernel) rfl <|
  Ev.ldc2 k_Mo_58 (by decide +kernel) <|
  Ev.cS0 (M' := M_Mo_isFrom) (as := [.long x1.toInt64, .long (0 : Int64), .long (2 : Int64)]) (rest := []) l_Mo_172 M_Mo_isFrom_ok M_Mo_isFrom_st (by decide +kernel) rfl rfl (Nat.le_of_ble_eq_true rfl) (Nat.le_of_ble_eq_true rfl) (s_Mo_isFrom <| show Ev G (d + 3) _ _ M_Mo_closest 9 [.ref 102, .int x1, ev_unk, ev_unk, ev_unk, ev_unk, ev_unk, ev_unk, ev_unk] [.int (b2i (frB x1.toInt64 (0 : Int64) (2 : Int64)))] h R from
    Ev.br (i := .ifCond .ne (9)) (P := (b2i (frB x1.toInt64 (0 : Int64) (2 : Int64))) = (0 : Int32)) (t := 12) (f := 18) (r := []) (by decide +kernel) rfl (fun c1 =>
      Ev.go (pc' := 14) (ls' := [.ref 102, .int x1, ev_unk, ev_unk, ev_unk, ev_unk, ev_unk, ev_unk, ev_unk]) (st' := [.int (1 : Int32), .ref 102]) [.aload_n 0, .iconst 1] (by decide +kernel) rfl <|
      Ev.cV0 (M' := M_Mo_refuse) (as := [.int (1 : Int32)]) (rest := []) l_Mo_226 M_Mo_refuse_ok M_Mo_refuse_in M_Mo_refuse_se (by decide +kernel) (r2 c1) rfl rfl rfl (Nat.le_of_ble_eq_true rfl) (Nat.le_of_ble_eq_true rfl) (s_Mo_refuse (pr1 c1) <| show Ev G (d + 3) _ _ M_Mo_closest 17 [.ref 102, .int x1, ev_unk, ev_unk, ev_unk, ev_unk, ev_unk, ev_unk, ev_unk] [.int (-1 : Int32)] (hset h 102 (moC (stV v_1 (1 : Int32)) z_2)) R from
        Ev.ret (r := (some (.int (-1 : Int32)))) (Or.inl ⟨_, rfl, by decide +kernel, _, rfl, rfl⟩) (k1 c1)
      )
    ) (fun c1 =>
      Ev.go (pc' := 27) (ls' := [.ref 102, .int x1, .int (-1 : Int32), .int (-1 : Int32), .int (49 : Int32), ev_unk, ev_unk, ev_unk, ev_unk]) (st' := [.ref 102]) [.iconst (-1), .istore_n 2, .iconst (-1), .istore_n 3, .bipush (49), .istore 4, .aload_n 0] (by decide +kernel) rfl <|
      Ev.cV0 (M' := M_Mo_counting) (as := []) (rest := []) l_Mo_248 M_Mo_counting_ok M_Mo_counting_in M_Mo_counting_se (by decide +kernel) (r3 c1) rfl rfl rfl (Nat.le_of_ble_eq_true rfl) (Nat.le_of_ble_eq_true rfl) (k2 c1)
    )
  )
theorem b_Mo_closest_30 {G : ev_G} {d k n : Nat} {h : ev_H} {R : Option Value → ev_H → Prop} {x1 : Int32} {x2 : Int32} {x3 : Int32} {x4 : Int32} {y0 : Int64}
  (k1 : Ev G (d + 3) k n M_Mo_closest 35 [.ref 102, .int x1, .int x2, .int x3, .int x4, .long y0, ev_unk, .int (0 : Int32), ev_unk] [] h R)
  : Ev G (d + 3) k n M_Mo_closest 30 [.ref 102, .int x1, .int x2, .int x3, .int x4, ev_unk, ev_unk, ev_unk, ev_unk] [.long y0] h R :=
  Ev.go (pc' := 35) (ls' := [.ref 102, .int x1, .int x2, .int x3, .int x4, .long y0, ev_unk, .int (0 : Int32), ev_unk]) (st' := []) [.lstore 5, .iconst 0, .istore 7] (by decide +kernel) rfl <|
  k1
theorem b_Mo_closest_35 {G : ev_G} {d k n : Nat} {h : ev_H} {R : Option Value → ev_H → Prop} {x1 : Int32} {x2 : Int32} {x3 : Int32} {x4 : Int32} {x5 : Int64} {x7 : Int32} {S1 : AS} {v_2 : MG} {z_3 : MP} {v_4 : MG} {z_5 : MP} {v_6 : MG} {z_7 : MP} {v_8 : MG} {z_9 : MP}
  (pr1 : MS h S1)
  (r2 : ∃ fs, hat h 102 (oC 9 fs))
  (pr3 : ¬ x7 < (nI (sN S1)) → x2 = (-1 : Int32) → hat h 102 (moC v_2 z_3))
  (r4 : ¬ x7 < (nI (sN S1)) → x2 = (-1 : Int32) → ∃ fs, hat h 102 (oC 9 fs))
  (pr5 : ¬ x7 < (nI (sN S1)) → ¬ x2 = (-1 : Int32) → x1 = (0 : Int32) → hat h 102 (moC v_4 z_5))
  (r6 : ¬ x7 < (nI (sN S1)) → ¬ x2 = (-1 : Int32) → x1 = (0 : Int32) → ∃ fs, hat h 102 (oC 9 fs))
  (pr7 : ¬ x7 < (nI (sN S1)) → ¬ x2 = (-1 : Int32) → ¬ x1 = (0 : Int32) → x1 = (1 : Int32) → hat h 102 (moC v_6 z_7))
  (r8 : ¬ x7 < (nI (sN S1)) → ¬ x2 = (-1 : Int32) → ¬ x1 = (0 : Int32) → x1 = (1 : Int32) → ∃ fs, hat h 102 (oC 9 fs))
  (pr9 : ¬ x7 < (nI (sN S1)) → ¬ x2 = (-1 : Int32) → ¬ x1 = (0 : Int32) → ¬ x1 = (1 : Int32) → hat h 102 (moC v_8 z_9))
  (r10 : ¬ x7 < (nI (sN S1)) → ¬ x2 = (-1 : Int32) → ¬ x1 = (0 : Int32) → ¬ x1 = (1 : Int32) → ∃ fs, hat h 102 (oC 9 fs))
  (k1 : x7 < (nI (sN S1)) → Ev G (d + 3) k n M_Mo_closest 50 [.ref 102, .int x1, .int x2, .int x3, .int x4, .long x5, ev_unk, .int x7, .int (x7 + (1 : Int32))] [] h R)
  (k2 : ¬ x7 < (nI (sN S1)) → x2 = (-1 : Int32) → R (some (.int (-1 : Int32))) (hset h 102 (moC (stV v_2 (5 : Int32)) z_3)))
  (k3 : ¬ x7 < (nI (sN S1)) → ¬ x2 = (-1 : Int32) → x1 = (0 : Int32) → R (some (.int x2)) (hset h 102 (moC (stV v_4 0) z_5)))
  (k4 : ¬ x7 < (nI (sN S1)) → ¬ x2 = (-1 : Int32) → ¬ x1 = (0 : Int32) → x1 = (1 : Int32) → R (some (.int x3)) (hset h 102 (moC (stV v_6 0) z_7)))
  (k5 : ¬ x7 < (nI (sN S1)) → ¬ x2 = (-1 : Int32) → ¬ x1 = (0 : Int32) → ¬ x1 = (1 : Int32) → R (some (.int x4)) (hset h 102 (moC (stV v_8 0) z_9)))
  : Ev G (d + 3) k n M_Mo_closest 35 [.ref 102, .int x1, .int x2, .int x3, .int x4, .long x5, ev_unk, .int x7, ev_unk] [] h R :=
  Ev.go (pc' := 38) (ls' := [.ref 102, .int x1, .int x2, .int x3, .int x4, .long x5, ev_unk, .int x7, ev_unk]) (st' := [.ref 102, .int x7]) [.iload 7, .aload_n 0] (by decide +kernel) rfl <|
  Ev.cV0 (M' := M_Mo_many_0) (as := []) (rest := [.int x7]) l_Mo_71 M_Mo_many_0_ok M_Mo_many_0_in M_Mo_many_0_se (by decide +kernel) r2 rfl rfl rfl (Nat.le_of_ble_eq_true rfl) (Nat.le_of_ble_eq_true rfl) (s_Mo_many_0 pr1 <| show Ev G (d + 3) _ _ M_Mo_closest 41 [.ref 102, .int x1, .int x2, .int x3, .int x4, .long x5, ev_unk, .int x7, ev_unk] [.int (nI (sN S1)), .int x7] h R from
    Ev.br (i := .if_icmp .ge (74)) (P := x7 < (nI (sN S1))) (t := 44) (f := 115) (r := []) (by decide +kernel) rfl (fun c1 =>
      Ev.go (pc' := 50) (ls' := [.ref 102, .int x1, .int x2, .int x3, .int x4, .long x5, ev_unk, .int x7, .int (x7 + (1 : Int32))]) (st' := []) [.iload 7, .iconst 1, .iadd, .istore 8] (by decide +kernel) rfl <|
      (k1 c1)
    ) (fun c1 =>
      Ev.go (pc' := 117) (ls' := [.ref 102, .int x1, .int x2, .int x3, .int x4, .long x5, ev_unk, .int x7, ev_unk]) (st' := [.int (-1 : Int32), .int x2]) [.iload_n 2, .iconst (-1)] (by decide +kernel) rfl <|
      Ev.br (i := .if_icmp .ne (11)) (P := x2 = (-1 : Int32)) (t := 120) (f := 128) (r := []) (by decide +kernel) rfl (fun c2 =>
        Ev.go (pc' := 122) (ls' := [.ref 102, .int x1, .int x2, .int x3, .int x4, .long x5, ev_unk, .int x7, ev_unk]) (st' := [.int (5 : Int32), .ref 102]) [.aload_n 0, .iconst 5] (by decide +kernel) rfl <|
        Ev.cV0 (M' := M_Mo_refuse) (as := [.int (5 : Int32)]) (rest := []) l_Mo_226 M_Mo_refuse_ok M_Mo_refuse_in M_Mo_refuse_se (by decide +kernel) (r4 c1 c2) rfl rfl rfl (Nat.le_of_ble_eq_true rfl) (Nat.le_of_ble_eq_true rfl) (s_Mo_refuse (pr3 c1 c2) <| show Ev G (d + 3) _ _ M_Mo_closest 125 [.ref 102, .int x1, .int x2, .int x3, .int x4, .long x5, ev_unk, .int x7, ev_unk] [.int (-1 : Int32)] (hset h 102 (moC (stV v_2 (5 : Int32)) z_3)) R from
          Ev.go (pc' := 151) (ls' := [.ref 102, .int x1, .int x2, .int x3, .int x4, .long x5, ev_unk, .int x7, ev_unk]) (st' := [.int (-1 : Int32)]) [.goto (26)] (by decide +kernel) rfl <|
          Ev.ret (r := (some (.int (-1 : Int32)))) (Or.inl ⟨_, rfl, by decide +kernel, _, rfl, rfl⟩) (k2 c1 c2)
        )
      ) (fun c2 =>
        Ev.go (pc' := 130) (ls' := [.ref 102, .int x1, .int x2, .int x3, .int x4, .long x5, ev_unk, .int x7, ev_unk]) (st' := [.int x1, .ref 102]) [.aload_n 0, .iload_n 1] (by decide +kernel) rfl <|
        Ev.br (i := .ifCond .ne (7)) (P := x1 = (0 : Int32)) (t := 133) (f := 137) (r := [.ref 102]) (by decide +kernel) rfl (fun c3 =>
          Ev.go (pc' := 148) (ls' := [.ref 102, .int x1, .int x2, .int x3, .int x4, .long x5, ev_unk, .int x7, ev_unk]) (st' := [.int x2, .ref 102]) [.iload_n 2, .goto (14)] (by decide +kernel) rfl <|
          Ev.cV0 (M' := M_Mo_gives_I) (as := [.int x2]) (rest := []) l_Mo_245 M_Mo_gives_I_ok M_Mo_gives_I_in M_Mo_gives_I_se (by decide +kernel) (r6 c1 c2 c3) rfl rfl rfl (Nat.le_of_ble_eq_true rfl) (Nat.le_of_ble_eq_true rfl) (s_Mo_gives_I (pr5 c1 c2 c3) <| show Ev G (d + 3) _ _ M_Mo_closest 151 [.ref 102, .int x1, .int x2, .int x3, .int x4, .long x5, ev_unk, .int x7, ev_unk] [.int x2] (hset h 102 (moC (stV v_4 0) z_5)) R from
            Ev.ret (r := (some (.int x2))) (Or.inl ⟨_, rfl, by decide +kernel, _, rfl, rfl⟩) (k3 c1 c2 c3)
          )
        ) (fun c3 =>
          Ev.go (pc' := 139) (ls' := [.ref 102, .int x1, .int x2, .int x3, .int x4, .long x5, ev_unk, .int x7, ev_unk]) (st' := [.int (1 : Int32), .int x1, .ref 102]) [.iload_n 1, .iconst 1] (by decide +kernel) rfl <|
          Ev.br (i := .if_icmp .ne (7)) (P := x1 = (1 : Int32)) (t := 142) (f := 146) (r := [.ref 102]) (by decide +kernel) rfl (fun c4 =>
            Ev.go (pc' := 148) (ls' := [.ref 102, .int x1, .int x2, .int x3, .int x4, .long x5, ev_unk, .int x7, ev_unk]) (st' := [.int x3, .ref 102]) [.iload_n 3, .goto (5)] (by decide +kernel) rfl <|
            Ev.cV0 (M' := M_Mo_gives_I) (as := [.int x3]) (rest := []) l_Mo_245 M_Mo_gives_I_ok M_Mo_gives_I_in M_Mo_gives_I_se (by decide +kernel) (r8 c1 c2 c3 c4) rfl rfl rfl (Nat.le_of_ble_eq_true rfl) (Nat.le_of_ble_eq_true rfl) (s_Mo_gives_I (pr7 c1 c2 c3 c4) <| show Ev G (d + 3) _ _ M_Mo_closest 151 [.ref 102, .int x1, .int x2, .int x3, .int x4, .long x5, ev_unk, .int x7, ev_unk] [.int x3] (hset h 102 (moC (stV v_6 0) z_7)) R from
              Ev.ret (r := (some (.int x3))) (Or.inl ⟨_, rfl, by decide +kernel, _, rfl, rfl⟩) (k4 c1 c2 c3 c4)
            )
          ) (fun c4 =>
            Ev.go (pc' := 148) (ls' := [.ref 102, .int x1, .int x2, .int x3, .int x4, .long x5, ev_unk, .int x7, ev_unk]) (st' := [.int x4, .ref 102]) [.iload 4] (by decide +kernel) rfl <|
            Ev.cV0 (M' := M_Mo_gives_I) (as := [.int x4]) (rest := []) l_Mo_245 M_Mo_gives_I_ok M_Mo_gives_I_in M_Mo_gives_I_se (by decide +kernel) (r10 c1 c2 c3 c4) rfl rfl rfl (Nat.le_of_ble_eq_true rfl) (Nat.le_of_ble_eq_true rfl) (s_Mo_gives_I (pr9 c1 c2 c3 c4) <| show Ev G (d + 3) _ _ M_Mo_closest 151 [.ref 102, .int x1, .int x2, .int x3, .int x4, .long x5, ev_unk, .int x7, ev_unk] [.int x4] (hset h 102 (moC (stV v_8 0) z_9)) R from
              Ev.ret (r := (some (.int x4))) (Or.inl ⟨_, rfl, by decide +kernel, _, rfl, rfl⟩) (k5 c1 c2 c3 c4)
            )
          )
        )
      )
    )
  )
theorem b_Mo_closest_50 {G : ev_G} {d k n : Nat} {h : ev_H} {R : Option Value → ev_H → Prop} {x1 : Int32} {x2 : Int32} {x3 : Int32} {x4 : Int32} {x5 : Int64} {x7 : Int32} {x8 : Int32} {S1 : AS} {S2 : AS} {c_3 : Nat} {e_4 : Nat} {S5 : AS} {c_6 : Nat} {S7 : AS} {c_8 : Nat}
  (pr1 : MS h S1)
  (r2 : ∃ fs, hat h 102 (oC 9 fs))
  (pr3 : x8 < (nI (sN S1)) → MS h S2)
  (pr4 : x8 < (nI (sN S1)) → sOk S2)
  (pr5 : x8 < (nI (sN S1)) → x7 = nI c_3 ∧ c_3 < sN S2)
  (pr6 : x8 < (nI (sN S1)) → x8 = nI e_4 ∧ e_4 < sN S2)
  (r7 : x8 < (nI (sN S1)) → ∃ fs, hat h 102 (oC 9 fs))
  (pr8 : x8 < (nI (sN S1)) → ¬ (b2i ((lt x5 c_3 && lt x5 e_4) && decide (¬ (x4 - (1 : Int32)) < nI (pop (sCo S2 c_3 ^^^ sCo S2 e_4))))) = (0 : Int32) → MS h S5)
  (pr9 : x8 < (nI (sN S1)) → ¬ (b2i ((lt x5 c_3 && lt x5 e_4) && decide (¬ (x4 - (1 : Int32)) < nI (pop (sCo S2 c_3 ^^^ sCo S2 e_4))))) = (0 : Int32) → sOk S5)
  (pr10 : x8 < (nI (sN S1)) → ¬ (b2i ((lt x5 c_3 && lt x5 e_4) && decide (¬ (x4 - (1 : Int32)) < nI (pop (sCo S2 c_3 ^^^ sCo S2 e_4))))) = (0 : Int32) → x7 = nI c_6 ∧ c_6 < sN S5)
  (r11 : x8 < (nI (sN S1)) → ¬ (b2i ((lt x5 c_3 && lt x5 e_4) && decide (¬ (x4 - (1 : Int32)) < nI (pop (sCo S2 c_3 ^^^ sCo S2 e_4))))) = (0 : Int32) → ∃ fs, hat h 102 (oC 9 fs))
  (pr12 : x8 < (nI (sN S1)) → ¬ (b2i ((lt x5 c_3 && lt x5 e_4) && decide (¬ (x4 - (1 : Int32)) < nI (pop (sCo S2 c_3 ^^^ sCo S2 e_4))))) = (0 : Int32) → MS h S7)
  (pr13 : x8 < (nI (sN S1)) → ¬ (b2i ((lt x5 c_3 && lt x5 e_4) && decide (¬ (x4 - (1 : Int32)) < nI (pop (sCo S2 c_3 ^^^ sCo S2 e_4))))) = (0 : Int32) → sOk S7)
  (pr14 : x8 < (nI (sN S1)) → ¬ (b2i ((lt x5 c_3 && lt x5 e_4) && decide (¬ (x4 - (1 : Int32)) < nI (pop (sCo S2 c_3 ^^^ sCo S2 e_4))))) = (0 : Int32) → x8 = nI c_8 ∧ c_8 < sN S7)
  (k1 : x8 < (nI (sN S1)) → (b2i ((lt x5 c_3 && lt x5 e_4) && decide (¬ (x4 - (1 : Int32)) < nI (pop (sCo S2 c_3 ^^^ sCo S2 e_4))))) = (0 : Int32) → Ev G (d + 3) k n M_Mo_closest 50 [.ref 102, .int x1, .int x2, .int x3, .int x4, .long x5, ev_unk, .int x7, .int (x8 + (1 : Int32))] [] h R)
  (k2 : x8 < (nI (sN S1)) → ¬ (b2i ((lt x5 c_3 && lt x5 e_4) && decide (¬ (x4 - (1 : Int32)) < nI (pop (sCo S2 c_3 ^^^ sCo S2 e_4))))) = (0 : Int32) → Ev G (d + 3) k n M_Mo_closest 50 [.ref 102, .int x1, .int x7, .int x8, .int (nI (pop ((sCo S5 c_6) ^^^ (sCo S7 c_8)))), .long x5, ev_unk, .int x7, .int (x8 + (1 : Int32))] [] h R)
  (k3 : ¬ x8 < (nI (sN S1)) → Ev G (d + 3) k n M_Mo_closest 35 [.ref 102, .int x1, .int x2, .int x3, .int x4, .long x5, ev_unk, .int (x7 + (1 : Int32)), ev_unk] [] h R)
  : Ev G (d + 3) k n M_Mo_closest 50 [.ref 102, .int x1, .int x2, .int x3, .int x4, .long x5, ev_unk, .int x7, .int x8] [] h R :=
  Ev.go (pc' := 53) (ls' := [.ref 102, .int x1, .int x2, .int x3, .int x4, .long x5, ev_unk, .int x7, .int x8]) (st' := [.ref 102, .int x8]) [.iload 8, .aload_n 0] (by decide +kernel) rfl <|
  Ev.cV0 (M' := M_Mo_many_0) (as := []) (rest := [.int x8]) l_Mo_71 M_Mo_many_0_ok M_Mo_many_0_in M_Mo_many_0_se (by decide +kernel) r2 rfl rfl rfl (Nat.le_of_ble_eq_true rfl) (Nat.le_of_ble_eq_true rfl) (s_Mo_many_0 pr1 <| show Ev G (d + 3) _ _ M_Mo_closest 56 [.ref 102, .int x1, .int x2, .int x3, .int x4, .long x5, ev_unk, .int x7, .int x8] [.int (nI (sN S1)), .int x8] h R from
    Ev.br (i := .if_icmp .ge (53)) (P := x8 < (nI (sN S1))) (t := 59) (f := 109) (r := []) (by decide +kernel) rfl (fun c1 =>
      Ev.go (pc' := 70) (ls' := [.ref 102, .int x1, .int x2, .int x3, .int x4, .long x5, ev_unk, .int x7, .int x8]) (st' := [.long x5, .int (x4 - (1 : Int32)), .int x8, .int x7, .ref 102]) [.aload_n 0, .iload 7, .iload 8, .iload 4, .iconst 1, .isub, .lload 5] (by decide +kernel) rfl <|
      Ev.cV0 (M' := M_Mo_isPair) (as := [.int x7, .int x8, .int (x4 - (1 : Int32)), .long x5]) (rest := []) l_Mo_334 M_Mo_isPair_ok M_Mo_isPair_in M_Mo_isPair_se (by decide +kernel) (r7 c1) rfl rfl rfl (Nat.le_of_ble_eq_true rfl) (Nat.le_of_ble_eq_true rfl) (s_Mo_isPair (pr3 c1) (pr4 c1) (pr5 c1) (pr6 c1) <| show Ev G (d + 3) _ _ M_Mo_closest 73 [.ref 102, .int x1, .int x2, .int x3, .int x4, .long x5, ev_unk, .int x7, .int x8] [.int (b2i ((lt x5 c_3 && lt x5 e_4) && decide (¬ (x4 - (1 : Int32)) < nI (pop (sCo S2 c_3 ^^^ sCo S2 e_4)))))] h R from
        Ev.br (i := .ifCond .ne (6)) (P := (b2i ((lt x5 c_3 && lt x5 e_4) && decide (¬ (x4 - (1 : Int32)) < nI (pop (sCo S2 c_3 ^^^ sCo S2 e_4))))) = (0 : Int32)) (t := 76) (f := 79) (r := []) (by decide +kernel) rfl (fun c2 =>
          Ev.go (pc' := 50) (ls' := [.ref 102, .int x1, .int x2, .int x3, .int x4, .long x5, ev_unk, .int x7, .int (x8 + (1 : Int32))]) (st' := []) [.goto (27), .iinc 8 (1), .goto (-56)] (by decide +kernel) rfl <|
          (k1 c1 c2)
        ) (fun c2 =>
          Ev.go (pc' := 88) (ls' := [.ref 102, .int x1, .int x7, .int x8, .int x4, .long x5, ev_unk, .int x7, .int x8]) (st' := [.int x7, .ref 102]) [.iload 7, .istore_n 2, .iload 8, .istore_n 3, .aload_n 0, .iload 7] (by decide +kernel) rfl <|
          Ev.cV0 (M' := M_Mo_codeOf) (as := [.int x7]) (rest := []) l_Mo_85 M_Mo_codeOf_ok M_Mo_codeOf_in M_Mo_codeOf_se (by decide +kernel) (r11 c1 c2) rfl rfl rfl (Nat.le_of_ble_eq_true rfl) (Nat.le_of_ble_eq_true rfl) (s_Mo_codeOf (pr8 c1 c2) (pr9 c1 c2) (pr10 c1 c2) <| show Ev G (d + 3) _ _ M_Mo_closest 91 [.ref 102, .int x1, .int x7, .int x8, .int x4, .long x5, ev_unk, .int x7, .int x8] [.long (sCo S5 c_6)] h R from
            Ev.go (pc' := 94) (ls' := [.ref 102, .int x1, .int x7, .int x8, .int x4, .long x5, ev_unk, .int x7, .int x8]) (st' := [.int x8, .ref 102, .long (sCo S5 c_6)]) [.aload_n 0, .iload 8] (by decide +kernel) rfl <|
            Ev.cV0 (M' := M_Mo_codeOf) (as := [.int x8]) (rest := [.long (sCo S5 c_6)]) l_Mo_85 M_Mo_codeOf_ok M_Mo_codeOf_in M_Mo_codeOf_se (by decide +kernel) (r11 c1 c2) rfl rfl rfl (Nat.le_of_ble_eq_true rfl) (Nat.le_of_ble_eq_true rfl) (s_Mo_codeOf (pr12 c1 c2) (pr13 c1 c2) (pr14 c1 c2) <| show Ev G (d + 3) _ _ M_Mo_closest 97 [.ref 102, .int x1, .int x7, .int x8, .int x4, .long x5, ev_unk, .int x7, .int x8] [.long (sCo S7 c_8), .long (sCo S5 c_6)] h R from
              Ev.go (pc' := 98) (ls' := [.ref 102, .int x1, .int x7, .int x8, .int x4, .long x5, ev_unk, .int x7, .int x8]) (st' := [.long ((sCo S5 c_6) ^^^ (sCo S7 c_8))]) [.lxor] (by decide +kernel) rfl <|
              Ev.cS0 (M' := M_Mo_ones_J) (as := [.long ((sCo S5 c_6) ^^^ (sCo S7 c_8))]) (rest := []) l_Mo_88 M_Mo_ones_J_ok M_Mo_ones_J_st (by decide +kernel) rfl rfl (Nat.le_of_ble_eq_true rfl) (Nat.le_of_ble_eq_true rfl) (s_Mo_ones_J <| show Ev G (d + 3) _ _ M_Mo_closest 101 [.ref 102, .int x1, .int x7, .int x8, .int x4, .long x5, ev_unk, .int x7, .int x8] [.int (nI (pop ((sCo S5 c_6) ^^^ (sCo S7 c_8))))] h R from
                Ev.go (pc' := 50) (ls' := [.ref 102, .int x1, .int x7, .int x8, .int (nI (pop ((sCo S5 c_6) ^^^ (sCo S7 c_8)))), .long x5, ev_unk, .int x7, .int (x8 + (1 : Int32))]) (st' := []) [.istore 4, .iinc 8 (1), .goto (-56)] (by decide +kernel) rfl <|
                (k2 c1 c2)
              )
            )
          )
        )
      )
    ) (fun c1 =>
      Ev.go (pc' := 35) (ls' := [.ref 102, .int x1, .int x2, .int x3, .int x4, .long x5, ev_unk, .int (x7 + (1 : Int32)), .int x8]) (st' := []) [.iinc 7 (1), .goto (-77)] (by decide +kernel) rfl <|
      Ev.forget (ls' := [.ref 102, .int x1, .int x2, .int x3, .int x4, .long x5, ev_unk, .int (x7 + (1 : Int32)), ev_unk]) ⟨Or.inr rfl, Or.inr rfl, Or.inr rfl, Or.inr rfl, Or.inr rfl, Or.inr rfl, Or.inr rfl, Or.inr rfl, Or.inl rfl, trivial⟩ <|
      (k3 c1)
    )
  )
section S48
variable {G : ev_G} {d : Nat} {h : ev_H} {R : Option Value → ev_H → Prop} {Q : QS}
/-- all pairs, one after another -/
theorem grid {A : Nat → Prop} {B : Nat → Nat → Prop} (N : Nat) (h1 : ∀ i, i < N → B i (i + 1) → A i) (h2 : ∀ i j, i < N → i < j → j < N → B i (j + 1) → B i j) (h3 : ∀ i, i < N → A (i + 1) → B i N) (h4 : A N) : A 0 := by
  refine up0 (P := A) N (fun i hi ih => h1 i hi ?_) h4
  have := up_to (P := fun j => i < j → B i j) (N := N) (fun j hj ih hij => h2 i j hi hij hj (ih (by omega))) (fun _ => h3 i hi ih) (i + 1) (by omega)
  exact this (by omega)
theorem prP_no {S : AS} {r i j : Nat} (hj : j < 32) (n : j ≤ i ∨ sN S ≤ i ∨ sN S ≤ j) : prP S (ctP S) r (32 * i + j) = false := by
  rw [prP_at S _ r hj]
  rcases n with n | n | n
  · rw [decide_eq_false (by omega)]; rfl
  · have : ctP S i = false := by cases q : ctP S i; rfl; exact absurd (ct_N q) (by omega)
    rw [this, Bool.false_and, Bool.and_false]; rfl
  · have : ctP S j = false := by cases q : ctP S j; rfl; exact absurd (ct_N q) (by omega)
    rw [this, Bool.and_false, Bool.and_false]; rfl
theorem t_dm (t : Nat) : t = 32 * (t / 32) + t % 32 := by omega
theorem pr_skip1 {S : AS} {r i : Nat} : cnt (prP S (ctP S) r) (32 * i + (i + 1)) = cnt (prP S (ctP S) r) (32 * i) := cnt_skip (by omega) fun t h1 h2 => by
  by_cases c : t < 32 * (i + 1)
  · rw [show t = 32 * i + (t - 32 * i) by omega]
    exact prP_no (by omega) (Or.inl (by omega))
  · rw [t_dm t]
    exact prP_no (by omega) (Or.inl (by omega))
theorem pr_skip2 {S : AS} {r i : Nat} (hN : sN S ≤ 32) : cnt (prP S (ctP S) r) (32 * (i + 1)) = cnt (prP S (ctP S) r) (32 * i + sN S) := cnt_skip (by omega) fun t h1 h2 => by
  rw [show t = 32 * i + (t - 32 * i) by omega]
  exact prP_no (by omega) (Or.inr (Or.inr (by omega)))
theorem pr_skip3 {S : AS} {r : Nat} (hN : sN S ≤ 32) : cnt (prP S (ctP S) r) 1024 = cnt (prP S (ctP S) r) (32 * sN S) := cnt_skip (by omega) fun t h1 h2 => by
  rw [t_dm t]
  exact prP_no (by omega) (Or.inr (Or.inl (by omega)))
theorem pr_bit {S : AS} {r i j : Nat} (hr : r < 2147483648) (hij : i < j) (hj : j < sN S) (hN : sN S ≤ 32) : ((lt (setL (ctP S)) i && lt (setL (ctP S)) j) && decide (¬ nI r < nI (pop (sCo S i ^^^ sCo S j)))) = prP S (ctP S) r (32 * i + j) := by
  rw [prP_at S _ r (by omega), lt_setL, lt_setL, decide_eq_true (show i < 32 by omega), decide_eq_true (show j < 32 by omega), decide_eq_true hij, Bool.true_and, Bool.true_and, Bool.true_and]
  congr 1
  have := pop_le (sCo S i ^^^ sCo S j)
  rw [decide_eq_decide, nI_ltI (by omega) (by omega)]; omega
theorem s_Mo_pairs2 {r : Int32} (H : MR h Q) (hR : ∀ h', Kp h h' 102 126 → MR h' (stQ Q (a_pairs (qS Q) r).2) → R (some (.int (a_pairs (qS Q) r).1)) h') : Ev G (d + 7) 0 0 M_Mo_pairs 0 [.ref 102, .int r, ev_unk, ev_unk, ev_unk, ev_unk, ev_unk] [] h R := by
  obtain ⟨bm, z, m1⟩ := H.2.1
  have hz := H.szN
  have hzB := H.szB
  refine b_Mo_pairs_0 (d := d + 4) H.ms H.ok ⟨_, m1⟩ (fun c1 => m1) (fun c1 => ⟨_, m1⟩) (fun c1 => ⟨_, m1⟩) (fun c1 => H.fin (Kp.refl _ _ _) m1 hR (by unfold a_pairs; rw [b2i_e0 c1]; rfl)) (fun c1 => ?_)
  refine s_cnt H fun h1 K1 H => ?_
  refine b_Mo_pairs_20 (d := d + 4) ?_
  obtain ⟨bm, z, m1⟩ := H.2.1
  have ee := b2i_n0 c1
  have hr := vN_lt (by omega) ee
  have hc : ∀ t, t ≤ 1024 → cnt (prP (qS Q) (ctP (qS Q)) (vN r)) t ≤ 1024 := fun t ht => Nat.le_trans (cnt_le _ _) ht
  refine grid (A := fun i => Ev G (d + 7) 0 0 M_Mo_pairs 24 [.ref 102, .int r, .int (nI (cnt (prP (qS Q) (ctP (qS Q)) (vN r)) (32 * i))), .long (setL (ctP (qS Q))), ev_unk, .int (nI i), ev_unk] [] h1 R) (B := fun i j => Ev G (d + 7) 0 0 M_Mo_pairs 39 [.ref 102, .int r, .int (nI (cnt (prP (qS Q) (ctP (qS Q)) (vN r)) (32 * i + j))), .long (setL (ctP (qS Q))), ev_unk, .int (nI i), .int (nI j)] [] h1 R) (sN (qS Q)) ?_ ?_ ?_ ?_
  · intro i hi ih
    rw [pr_skip1] at ih
    refine b_Mo_pairs_24 (d := d + 4) H.ms ⟨_, m1⟩ (fun c1 => m1) (fun c1 => ⟨_, m1⟩) (fun c1 => ?_) (fun c1 => absurd (nI_lt hi (by omega)) c1)
    rw [nI_1]; exact ih
  · intro i j hi hij hj ih
    have f : cnt (prP (qS Q) (ctP (qS Q)) (vN r)) (32 * i + (j + 1)) = cnt (prP (qS Q) (ctP (qS Q)) (vN r)) (32 * i + j) + if prP (qS Q) (ctP (qS Q)) (vN r) (32 * i + j) then 1 else 0 := rfl
    rw [f] at ih
    have pb := pr_bit (S := qS Q) (r := vN r) (by omega) hij hj hz
    rw [← hr.1] at pb
    refine b_Mo_pairs_39 (d := d + 4) (c_3 := i) (e_4 := j) H.ms ⟨_, m1⟩ (fun c1 => H.ms) (fun c1 => H.ok) (fun c1 => ⟨rfl, hi⟩) (fun c1 => ⟨rfl, hj⟩) (fun c1 => ⟨_, m1⟩) (fun c1 c2 => ?_) (fun c1 c2 => ?_) (fun c1 => absurd (nI_lt hj (by omega)) c1)
    · rw [pb] at c2
      rw [b2i_e0 c2] at ih
      rw [show (0 : Int32) = nI 0 from rfl, nI_add, nI_1]; exact ih
    · rw [pb] at c2
      rw [b2i_n0 c2] at ih
      rw [nI_1, nI_1]; exact ih
  · intro i hi ih
    rw [pr_skip2 hz] at ih
    have no := nl_self (n := sN (qS Q)) (by omega)
    refine b_Mo_pairs_39 (d := d + 4) (c_3 := 0) (e_4 := 0) H.ms ⟨_, m1⟩ (fun c1 => H.ms) (fun c1 => H.ok) (fun c1 => absurd c1 no) (fun c1 => absurd c1 no) (fun c1 => ⟨_, m1⟩) (fun c1 c2 => absurd c1 no) (fun c1 c2 => absurd c1 no) (fun c1 => ?_)
    rw [nI_1]; exact ih
  · refine b_Mo_pairs_24 (d := d + 4) H.ms ⟨_, m1⟩ (fun c1 => m1) (fun c1 => ⟨_, m1⟩) (fun c1 => absurd c1 (nl_self (by omega))) (fun c1 => H.fin (K1.wide (by omega) (by omega)) m1 hR (by unfold a_pairs; rw [if_pos ee, pr_skip3 hz]))
theorem op_of {f t : Nat} (ht : t < 1024) : (f * 1024 + t) / 1024 = f ∧ (f * 1024 + t) / 32 % 32 = t / 32 ∧ (f * 1024 + t) % 32 = t % 32 := by omega
theorem s_Mo_pair2 {r i w : Int32} (H : MR h Q) (hR : ∀ h', Kp h h' 102 126 → MR h' (stQ Q (a_pair (qS Q) r i w).2) → R (some (.int (a_pair (qS Q) r i w).1)) h') : Ev G (d + 7) 0 0 M_Mo_pair 0 [.ref 102, .int r, .int i, .int w, ev_unk, ev_unk, ev_unk, ev_unk, ev_unk] [] h R := by
  obtain ⟨bm, z, m1⟩ := H.2.1
  have hz := H.szN
  have hzB := H.szB
  have f : frB w.toInt64 0 2 = decide (0 ≤ w ∧ w < (3 : Int32)) := fr_dc (b := 2) (by omega)
  refine b_Mo_pair_0 (d := d + 4) H.ms H.ok ⟨_, m1⟩ (fun c1 => m1) (fun c1 => ⟨_, m1⟩) (fun c1 c2 => m1) (fun c1 c2 => ⟨_, m1⟩) (fun c1 c2 c3 => m1) (fun c1 c2 c3 => ⟨_, m1⟩) (fun c1 c2 c3 => ⟨_, m1⟩) (fun c1 => H.fin (Kp.refl _ _ _) m1 hR (by unfold a_pair; rw [b2i_e0 c1]; rfl)) (fun c1 c2 => H.fin (Kp.refl _ _ _) m1 hR (by unfold a_pair; rw [b2i_n0 c1, if_pos c2]; rfl)) (fun c1 c2 c3 => H.fin (Kp.refl _ _ _) m1 hR (by rw [f] at c3; unfold a_pair; rw [b2i_n0 c1, if_neg c2, b2i_e0 c3]; rfl)) (fun c1 c2 c3 => ?_)
  rw [f] at c3
  have e1 := b2i_n0 c1
  have e3 := b2i_n0 c3
  obtain ⟨k, hk, rfl⟩ := nI_of c2
  have hr := vN_lt (by omega) e1
  have ea : a_pair (qS Q) r (nI k) w = if nthT (prP (qS Q) (ctP (qS Q)) (vN r)) k < 1024 then (nI (opN (twF (qS Q) (nthT (prP (qS Q) (ctP (qS Q)) (vN r)) k) * 1024 + nthT (prP (qS Q) (ctP (qS Q)) (vN r)) k) w), 0) else (-1, 5) := by
    unfold a_pair a_nth
    rw [if_pos e1, if_neg c2, if_pos e3, vN_nI (by omega)]
  rw [ea] at hR
  refine s_cnt H fun h1 K1 H => ?_
  refine b_Mo_pair_37 (d := d + 4) ?_
  obtain ⟨bm, z, m1⟩ := H.2.1
  have L := grid (A := fun i => cnt (prP (qS Q) (ctP (qS Q)) (vN r)) (32 * i) ≤ k → Ev G (d + 7) 0 0 M_Mo_pair 42 [.ref 102, .int r, .int (nI k), .int w, .int (nI (k - cnt (prP (qS Q) (ctP (qS Q)) (vN r)) (32 * i))), .long (setL (ctP (qS Q))), ev_unk, .int (nI i), ev_unk] [] h1 R) (B := fun i j => cnt (prP (qS Q) (ctP (qS Q)) (vN r)) (32 * i + j) ≤ k → Ev G (d + 7) 0 0 M_Mo_pair 57 [.ref 102, .int r, .int (nI k), .int w, .int (nI (k - cnt (prP (qS Q) (ctP (qS Q)) (vN r)) (32 * i + j))), .long (setL (ctP (qS Q))), ev_unk, .int (nI i), .int (nI j)] [] h1 R) (sN (qS Q)) ?_ ?_ ?_ ?_
  · exact L (Nat.zero_le _)
  · intro i hi ih
    rw [pr_skip1] at ih
    intro le
    refine b_Mo_pair_42 (d := d + 4) H.ms ⟨_, m1⟩ (fun c1 => m1) (fun c1 => ⟨_, m1⟩) (fun c1 => ?_) (fun c1 => absurd (nI_lt hi (by omega)) c1)
    rw [nI_1]; exact ih le
  · intro i j hi hij hj ih le
    have f : cnt (prP (qS Q) (ctP (qS Q)) (vN r)) (32 * i + (j + 1)) = cnt (prP (qS Q) (ctP (qS Q)) (vN r)) (32 * i + j) + if prP (qS Q) (ctP (qS Q)) (vN r) (32 * i + j) then 1 else 0 := rfl
    rw [f] at ih
    have pb := pr_bit (S := qS Q) (r := vN r) (by omega) hij hj hz
    rw [← hr.1] at pb
    have td : (32 * i + j) / 32 = i ∧ (32 * i + j) % 32 = j := by omega
    obtain ⟨o1, o2, o3⟩ := op_of (f := twF (qS Q) (32 * i + j)) (t := 32 * i + j) (by omega)
    have hit : ¬ b2i (prP (qS Q) (ctP (qS Q)) (vN r) (32 * i + j)) = 0 → nI (k - cnt (prP (qS Q) (ctP (qS Q)) (vN r)) (32 * i + j)) = 0 → nthT (prP (qS Q) (ctP (qS Q)) (vN r)) k = 32 * i + j := fun a b => by
      have := (nI_eq (b := 0) (by omega) (by omega)).mp b
      exact nthT_hit (by omega) (b2i_n0 a) (by omega)
    have fin : ∀ {y : Int32}, nthT (prP (qS Q) (ctP (qS Q)) (vN r)) k = 32 * i + j → nI (opN (twF (qS Q) (32 * i + j) * 1024 + (32 * i + j)) w) = y → R (some (.int y)) (hset h1 102 (moC (stV (moQ Q bm) 0) z)) := fun {y} e e2 => H.fin (q := if nthT (prP (qS Q) (ctP (qS Q)) (vN r)) k < 1024 then (nI (opN (twF (qS Q) (nthT (prP (qS Q) (ctP (qS Q)) (vN r)) k) * 1024 + nthT (prP (qS Q) (ctP (qS Q)) (vN r)) k) w), 0) else (-1, 5)) (K1.wide (by omega) (by omega)) m1 hR (by rw [e, if_pos (by omega), e2])
    refine b_Mo_pair_57 (d := d + 4) (c_3 := i) (e_4 := j) H.ms ⟨_, m1⟩ (fun c1 => H.ms) (fun c1 => H.ok) (fun c1 => ⟨rfl, hi⟩) (fun c1 => ⟨rfl, hj⟩) (fun c1 => ⟨_, m1⟩) (fun c1 c2 c3 c4 => m1) (fun c1 c2 c3 c4 => ⟨_, m1⟩) (fun c1 c2 c3 c4 c5 => m1) (fun c1 c2 c3 c4 c5 => ⟨_, m1⟩) (fun c1 c2 c3 c4 c5 => H.ms) (fun c1 c2 c3 c4 c5 => H.ok) (fun c1 c2 c3 c4 c5 => ⟨rfl, hi⟩) (fun c1 c2 c3 c4 c5 => ⟨_, m1⟩) (fun c1 c2 c3 c4 c5 => H.ms) (fun c1 c2 c3 c4 c5 => H.ok) (fun c1 c2 c3 c4 c5 => ⟨rfl, hj⟩) (fun c1 c2 c3 c4 c5 => m1) (fun c1 c2 => ?_) (fun c1 c2 c3 c4 => ?_) (fun c1 c2 c3 c4 c5 => ?_) (fun c1 c2 c3 c4 c5 => ?_) (fun c1 c2 c3 => ?_) (fun c1 => absurd (nI_lt hj (by omega)) c1)
    all_goals rw [pb] at c2
    · rw [b2i_e0 c2] at ih
      rw [nI_1]; exact ih le
    · exact fin (hit c2 c3) (by unfold opN; rw [c4, if_neg (by decide), if_pos rfl, o2, td.1])
    · exact fin (hit c2 c3) (by unfold opN; rw [c5, if_neg (by decide), if_neg (by decide), o3, td.2])
    · refine fin (hit c2 c3) ?_
      have w2 : w = 2 := by
        have := of_decide_eq_true e3
        rw [Int32.le_iff_toInt_le, Int32.lt_iff_toInt_lt] at this
        have n0 : w.toInt ≠ 0 := fun z => c4 (Int32.toInt_inj.mp z)
        have n1 : w.toInt ≠ 1 := fun z => c5 (Int32.toInt_inj.mp z)
        have t1 : (0 : Int32).toInt = 0 := rfl
        have t2 : (3 : Int32).toInt = 3 := rfl
        rw [t1, t2] at this
        exact Int32.toInt_inj.mp (show w.toInt = 2 by omega)
      unfold opN
      rw [if_pos w2, o1]
      unfold twF
      rw [td.1, td.2]
    · rw [b2i_n0 c2] at ih
      have lt1 : cnt (prP (qS Q) (ctP (qS Q)) (vN r)) (32 * i + j) < k := Nat.lt_of_le_of_ne le fun z => c3 (by rw [z, Nat.sub_self]; rfl)
      have ih := ih (by simp; omega)
      obtain ⟨m, em⟩ : ∃ m, k - cnt (prP (qS Q) (ctP (qS Q)) (vN r)) (32 * i + j) = m + 1 := ⟨k - cnt (prP (qS Q) (ctP (qS Q)) (vN r)) (32 * i + j) - 1, by omega⟩
      rw [em, nI_dec, nI_1, show m = k - (cnt (prP (qS Q) (ctP (qS Q)) (vN r)) (32 * i + j) + if true = true then 1 else 0) by simp; omega]
      exact ih
  · intro i hi ih
    rw [pr_skip2 hz] at ih
    intro le
    have no := nl_self (n := sN (qS Q)) (by omega)
    refine b_Mo_pair_57 (d := d + 4) (c_3 := 0) (e_4 := 0) (c_10 := 0) (c_12 := 0) H.ms ⟨_, m1⟩ (fun c1 => H.ms) (fun c1 => H.ok) (fun c1 => absurd c1 no) (fun c1 => absurd c1 no) (fun c1 => ⟨_, m1⟩) (fun c1 c2 c3 c4 => m1) (fun c1 c2 c3 c4 => ⟨_, m1⟩) (fun c1 c2 c3 c4 c5 => m1) (fun c1 c2 c3 c4 c5 => ⟨_, m1⟩) (fun c1 c2 c3 c4 c5 => H.ms) (fun c1 c2 c3 c4 c5 => H.ok) (fun c1 c2 c3 c4 c5 => absurd c1 no) (fun c1 c2 c3 c4 c5 => ⟨_, m1⟩) (fun c1 c2 c3 c4 c5 => H.ms) (fun c1 c2 c3 c4 c5 => H.ok) (fun c1 c2 c3 c4 c5 => absurd c1 no) (fun c1 c2 c3 c4 c5 => m1) (fun c1 c2 => absurd c1 no) (fun c1 c2 c3 c4 => absurd c1 no) (fun c1 c2 c3 c4 c5 => absurd c1 no) (fun c1 c2 c3 c4 c5 => absurd c1 no) (fun c1 c2 c3 => absurd c1 no) (fun c1 => ?_)
    rw [nI_1]; exact ih le
  · intro le
    rw [← pr_skip3 hz] at le
    refine b_Mo_pair_42 (d := d + 4) H.ms ⟨_, m1⟩ (fun c1 => m1) (fun c1 => ⟨_, m1⟩) (fun c1 => absurd c1 (nl_self (by omega))) (fun c1 => H.fin (K1.wide (by omega) (by omega)) m1 hR (by rw [nthT_none le]; rfl))
theorem twP_no {S : AS} {i j : Nat} (hj : j < 32) (n : j ≤ i ∨ sN S ≤ i ∨ sN S ≤ j) : twP (ctP S) (32 * i + j) = false := by
  unfold twP
  rw [show (32 * i + j) / 32 = i by omega, show (32 * i + j) % 32 = j by omega]
  rcases n with n | n | n
  · rw [decide_eq_false (by omega)]; rfl
  · have : ctP S i = false := by cases q : ctP S i; rfl; exact absurd (ct_N q) (by omega)
    rw [this, Bool.false_and, Bool.and_false]
  · have : ctP S j = false := by cases q : ctP S j; rfl; exact absurd (ct_N q) (by omega)
    rw [this, Bool.and_false, Bool.and_false]
theorem tw_skip1 {S : AS} {i : Nat} : omin (twP (ctP S)) (twF S) (32 * i + (i + 1)) = omin (twP (ctP S)) (twF S) (32 * i) := omin_skip (by omega) fun t h1 h2 => by
  by_cases c : t < 32 * (i + 1)
  · rw [show t = 32 * i + (t - 32 * i) by omega]
    exact twP_no (by omega) (Or.inl (by omega))
  · rw [t_dm t]
    exact twP_no (by omega) (Or.inl (by omega))
theorem tw_skip2 {S : AS} {i : Nat} (hN : sN S ≤ 32) : omin (twP (ctP S)) (twF S) (32 * (i + 1)) = omin (twP (ctP S)) (twF S) (32 * i + sN S) := omin_skip (by omega) fun t h1 h2 => by
  rw [show t = 32 * i + (t - 32 * i) by omega]
  exact twP_no (by omega) (Or.inr (Or.inr (by omega)))
theorem tw_skip3 {S : AS} (hN : sN S ≤ 32) : omin (twP (ctP S)) (twF S) 1024 = omin (twP (ctP S)) (twF S) (32 * sN S) := omin_skip (by omega) fun t h1 h2 => by
  rw [t_dm t]
  exact twP_no (by omega) (Or.inr (Or.inl (by omega)))
def o1 (o : Option (Nat × Nat)) : Int32 := match o with
  | none => -1
  | some (t, _) => nI (t / 32)
def o2 (o : Option (Nat × Nat)) : Int32 := match o with
  | none => -1
  | some (t, _) => nI (t % 32)
def o3 (o : Option (Nat × Nat)) : Nat := match o with
  | none => 49
  | some (_, f) => f
theorem MR.pop48 (H : MR h Q) {i j : Nat} (hi : i < sN (qS Q)) (hj : j < sN (qS Q)) : pop (sCo (qS Q) i ^^^ sCo (qS Q) j) ≤ 48 := by
  have s : cnt (lt (sCo (qS Q) i ^^^ sCo (qS Q) j)) 64 = _ := cnt_split (lt (sCo (qS Q) i ^^^ sCo (qS Q) j)) 48 16
  have z : cnt (fun k => lt (sCo (qS Q) i ^^^ sCo (qS Q) j) (48 + k)) 16 = 0 := cnt_zero fun k _ => by rw [l_xor, H.bits hi _ (by omega), H.bits hj _ (by omega)]; rfl
  have := cnt_le (lt (sCo (qS Q) i ^^^ sCo (qS Q) j)) 48
  unfold pop
  omega
theorem s_Mo_closest2 {w : Int32} (H : MR h Q) (hR : ∀ h', Kp h h' 102 126 → MR h' (stQ Q (a_closest (qS Q) w).2) → R (some (.int (a_closest (qS Q) w).1)) h') : Ev G (d + 7) 0 0 M_Mo_closest 0 [.ref 102, .int w, ev_unk, ev_unk, ev_unk, ev_unk, ev_unk, ev_unk, ev_unk] [] h R := by
  obtain ⟨bm, z, m1⟩ := H.2.1
  have hz := H.szN
  have f : frB w.toInt64 0 2 = decide (0 ≤ w ∧ w < (3 : Int32)) := fr_dc (b := 2) (by omega)
  refine b_Mo_closest_0 (d := d + 4) (fun c1 => m1) (fun c1 => ⟨_, m1⟩) (fun c1 => ⟨_, m1⟩) (fun c1 => H.fin (Kp.refl _ _ _) m1 hR (by rw [f] at c1; unfold a_closest; rw [b2i_e0 c1]; rfl)) (fun c1 => ?_)
  rw [f] at c1
  have e3 := b2i_n0 c1
  have ea : a_closest (qS Q) w = match omin (twP (ctP (qS Q))) (twF (qS Q)) (32 * sN (qS Q)) with
    | none => (-1, 5)
    | some q => (nI (opN (q.2 * 1024 + q.1) w), 0) := by
    unfold a_closest clo
    rw [if_pos e3, tw_skip3 hz]
    generalize omin (twP (ctP (qS Q))) (twF (qS Q)) (32 * sN (qS Q)) = o
    cases o <;> rfl
  rw [ea] at hR
  clear ea
  refine s_cnt H fun h1 K1 H => ?_
  refine b_Mo_closest_30 (d := d + 4) ?_
  obtain ⟨bm, z, m1⟩ := H.2.1
  have pos : ∀ {n t f : Nat}, omin (twP (ctP (qS Q))) (twF (qS Q)) n = some (t, f) → t / 32 < sN (qS Q) ∧ t % 32 < sN (qS Q) ∧ f ≤ 48 ∧ t < 1024 := fun {n t f} e => by
    obtain ⟨-, q2, q3⟩ := omin_at e
    unfold twP at q2
    rw [Bool.and_eq_true, Bool.and_eq_true] at q2
    have a := ct_N q2.2.1
    have b := ct_N q2.2.2
    exact ⟨a, b, by rw [q3]; exact H.pop48 a b, by omega⟩
  have le3 : ∀ n, o3 (omin (twP (ctP (qS Q))) (twF (qS Q)) n) ≤ 49 := fun n => by
    cases e : omin (twP (ctP (qS Q))) (twF (qS Q)) n with
    | none => exact Nat.le_refl _
    | some q => obtain ⟨t, f⟩ := q; have := (pos e).2.2.1; show f ≤ 49; omega
  refine grid (A := fun i => Ev G (d + 7) 0 0 M_Mo_closest 35 [.ref 102, .int w, .int (o1 (omin (twP (ctP (qS Q))) (twF (qS Q)) (32 * i))), .int (o2 (omin (twP (ctP (qS Q))) (twF (qS Q)) (32 * i))), .int (nI (o3 (omin (twP (ctP (qS Q))) (twF (qS Q)) (32 * i)))), .long (setL (ctP (qS Q))), ev_unk, .int (nI i), ev_unk] [] h1 R) (B := fun i j => Ev G (d + 7) 0 0 M_Mo_closest 50 [.ref 102, .int w, .int (o1 (omin (twP (ctP (qS Q))) (twF (qS Q)) (32 * i + j))), .int (o2 (omin (twP (ctP (qS Q))) (twF (qS Q)) (32 * i + j))), .int (nI (o3 (omin (twP (ctP (qS Q))) (twF (qS Q)) (32 * i + j)))), .long (setL (ctP (qS Q))), ev_unk, .int (nI i), .int (nI j)] [] h1 R) (sN (qS Q)) ?_ ?_ ?_ ?_
  · intro i hi ih
    rw [tw_skip1] at ih
    refine b_Mo_closest_35 (d := d + 4) H.ms ⟨_, m1⟩ (fun c1 c2 => m1) (fun c1 c2 => ⟨_, m1⟩) (fun c1 c2 c3 => m1) (fun c1 c2 c3 => ⟨_, m1⟩) (fun c1 c2 c3 c4 => m1) (fun c1 c2 c3 c4 => ⟨_, m1⟩) (fun c1 c2 c3 c4 => m1) (fun c1 c2 c3 c4 => ⟨_, m1⟩) (fun c1 => (by rw [nI_1]; exact ih)) (fun c1 c2 => absurd (nI_lt hi (by omega)) c1) (fun c1 c2 c3 => absurd (nI_lt hi (by omega)) c1) (fun c1 c2 c3 c4 => absurd (nI_lt hi (by omega)) c1) (fun c1 c2 c3 c4 => absurd (nI_lt hi (by omega)) c1)
  · intro i j hi hij hj ih
    have td : (32 * i + j) / 32 = i ∧ (32 * i + j) % 32 = j := by omega
    have tf : twF (qS Q) (32 * i + j) = pop (sCo (qS Q) i ^^^ sCo (qS Q) j) := by unfold twF; rw [td.1, td.2]
    have p48 := H.pop48 hi hj
    have tp : twP (ctP (qS Q)) (32 * i + j) = (ctP (qS Q) i && ctP (qS Q) j) := by unfold twP; rw [td.1, td.2, decide_eq_true hij]; rfl
    have l3 := le3 (32 * i + j)
    have pb : ∀ l, l ≤ 49 → ((lt (setL (ctP (qS Q))) i && lt (setL (ctP (qS Q))) j) && decide (¬ nI l - 1 < nI (pop (sCo (qS Q) i ^^^ sCo (qS Q) j)))) = (twP (ctP (qS Q)) (32 * i + j) && decide (twF (qS Q) (32 * i + j) < l)) := fun l hl => by
      rw [lt_setL, lt_setL, decide_eq_true (show i < 32 by omega), decide_eq_true (show j < 32 by omega), Bool.true_and, Bool.true_and, tp, tf]
      congr 1
      rw [decide_eq_decide, nI_predlt (by omega) (by omega)]; omega
    have st : omin (twP (ctP (qS Q))) (twF (qS Q)) (32 * i + (j + 1)) = if (twP (ctP (qS Q)) (32 * i + j) && decide (twF (qS Q) (32 * i + j) < o3 (omin (twP (ctP (qS Q))) (twF (qS Q)) (32 * i + j)))) then some (32 * i + j, twF (qS Q) (32 * i + j)) else omin (twP (ctP (qS Q))) (twF (qS Q)) (32 * i + j) := by
      have e : omin (twP (ctP (qS Q))) (twF (qS Q)) (32 * i + (j + 1)) = if twP (ctP (qS Q)) (32 * i + j) then (match omin (twP (ctP (qS Q))) (twF (qS Q)) (32 * i + j) with
        | none => some (32 * i + j, twF (qS Q) (32 * i + j))
        | some (b, l) => if twF (qS Q) (32 * i + j) < l then some (32 * i + j, twF (qS Q) (32 * i + j)) else some (b, l)) else omin (twP (ctP (qS Q))) (twF (qS Q)) (32 * i + j) := rfl
      rw [e]
      cases twP (ctP (qS Q)) (32 * i + j)
      · rfl
      · cases omin (twP (ctP (qS Q))) (twF (qS Q)) (32 * i + j) with
        | none =>
          have q : twF (qS Q) (32 * i + j) < o3 none := by show _ < 49; omega
          rw [decide_eq_true q]; rfl
        | some q =>
          obtain ⟨b, l⟩ := q
          show (if _ < l then _ else _) = if (true && decide (_ < l)) = true then _ else _
          by_cases c : twF (qS Q) (32 * i + j) < l
          · rw [if_pos c, decide_eq_true c]; rfl
          · rw [if_neg c, decide_eq_false c]; rfl
    rw [st] at ih
    refine b_Mo_closest_50 (d := d + 4) (c_3 := i) (e_4 := j) H.ms ⟨_, m1⟩ (fun c1 => H.ms) (fun c1 => H.ok) (fun c1 => ⟨rfl, hi⟩) (fun c1 => ⟨rfl, hj⟩) (fun c1 => ⟨_, m1⟩) (fun c1 c2 => H.ms) (fun c1 c2 => H.ok) (fun c1 c2 => ⟨rfl, hi⟩) (fun c1 c2 => ⟨_, m1⟩) (fun c1 c2 => H.ms) (fun c1 c2 => H.ok) (fun c1 c2 => ⟨rfl, hj⟩) (fun c1 c2 => ?_) (fun c1 c2 => ?_) (fun c1 => absurd (nI_lt hj (by omega)) c1)
    · rw [pb _ l3] at c2
      rw [b2i_e0 c2] at ih
      rw [nI_1]; exact ih
    · rw [pb _ l3] at c2
      rw [b2i_n0 c2] at ih
      have ih : Ev G (d + 7) 0 0 M_Mo_closest 50 [.ref 102, .int w, .int (nI ((32 * i + j) / 32)), .int (nI ((32 * i + j) % 32)), .int (nI (twF (qS Q) (32 * i + j))), .long (setL (ctP (qS Q))), ev_unk, .int (nI i), .int (nI (j + 1))] [] h1 R := ih
      rw [td.1, td.2, tf] at ih
      rw [nI_1]; exact ih
  · intro i hi ih
    rw [tw_skip2 hz] at ih
    have no := nl_self (n := sN (qS Q)) (by omega)
    refine b_Mo_closest_50 (d := d + 4) (c_3 := 0) (e_4 := 0) (c_6 := 0) (c_8 := 0) H.ms ⟨_, m1⟩ (fun c1 => H.ms) (fun c1 => H.ok) (fun c1 => absurd c1 no) (fun c1 => absurd c1 no) (fun c1 => ⟨_, m1⟩) (fun c1 c2 => H.ms) (fun c1 c2 => H.ok) (fun c1 c2 => absurd c1 no) (fun c1 c2 => ⟨_, m1⟩) (fun c1 c2 => H.ms) (fun c1 c2 => H.ok) (fun c1 c2 => absurd c1 no) (fun c1 c2 => absurd c1 no) (fun c1 c2 => absurd c1 no) (fun c1 => ?_)
    rw [nI_1]; exact ih
  · have no := nl_self (n := sN (qS Q)) (by omega)
    revert hR le3
    cases e : omin (twP (ctP (qS Q))) (twF (qS Q)) (32 * sN (qS Q)) with
    | none =>
      intro hR le3
      refine b_Mo_closest_35 (d := d + 4) H.ms ⟨_, m1⟩ (fun c1 c2 => m1) (fun c1 c2 => ⟨_, m1⟩) (fun c1 c2 c3 => m1) (fun c1 c2 c3 => ⟨_, m1⟩) (fun c1 c2 c3 c4 => m1) (fun c1 c2 c3 c4 => ⟨_, m1⟩) (fun c1 c2 c3 c4 => m1) (fun c1 c2 c3 c4 => ⟨_, m1⟩) (fun c1 => absurd c1 no) (fun c1 c2 => H.fin (q := (-1, 5)) (K1.wide (by omega) (by omega)) m1 hR rfl) (fun c1 c2 c3 => absurd rfl c2) (fun c1 c2 c3 c4 => absurd rfl c2) (fun c1 c2 c3 c4 => absurd rfl c2)
    | some q =>
      obtain ⟨t, f⟩ := q
      intro hR le3
      obtain ⟨p1, p2, p3, p4⟩ := pos e
      obtain ⟨u1, u2, u3⟩ := op_of (f := f) (t := t) p4
      have nm : ¬ o1 (some (t, f)) = -1 := nI_m1 (by omega)
      refine b_Mo_closest_35 (d := d + 4) H.ms ⟨_, m1⟩ (fun c1 c2 => m1) (fun c1 c2 => ⟨_, m1⟩) (fun c1 c2 c3 => m1) (fun c1 c2 c3 => ⟨_, m1⟩) (fun c1 c2 c3 c4 => m1) (fun c1 c2 c3 c4 => ⟨_, m1⟩) (fun c1 c2 c3 c4 => m1) (fun c1 c2 c3 c4 => ⟨_, m1⟩) (fun c1 => absurd c1 no) (fun c1 c2 => absurd c2 nm) (fun c1 c2 c3 => ?_) (fun c1 c2 c3 c4 => ?_) (fun c1 c2 c3 c4 => ?_)
      · exact H.fin (q := (nI (opN (f * 1024 + t) w), 0)) (K1.wide (by omega) (by omega)) m1 hR (by unfold opN; rw [c3, if_neg (by decide), if_pos rfl, u2]; rfl)
      · exact H.fin (q := (nI (opN (f * 1024 + t) w), 0)) (K1.wide (by omega) (by omega)) m1 hR (by unfold opN; rw [c4, if_neg (by decide), if_neg (by decide), u3]; rfl)
      · have w2 : w = 2 := by
          have := of_decide_eq_true e3
          rw [Int32.le_iff_toInt_le, Int32.lt_iff_toInt_lt] at this
          have n0 : w.toInt ≠ 0 := fun z => c3 (Int32.toInt_inj.mp z)
          have n1 : w.toInt ≠ 1 := fun z => c4 (Int32.toInt_inj.mp z)
          have t1 : (0 : Int32).toInt = 0 := rfl
          have t2 : (3 : Int32).toInt = 3 := rfl
          rw [t1, t2] at this
          exact Int32.toInt_inj.mp (show w.toInt = 2 by omega)
        exact H.fin (q := (nI (opN (f * 1024 + t) w), 0)) (K1.wide (by omega) (by omega)) m1 hR (by unfold opN; rw [if_pos w2, u1]; rfl)
end S48
