/-! THE READER: tests, sides, facts -/
theorem b_Re_readFact_0 {G : ev_G} {d k n : Nat} {h : ev_H} {R : Option Value → ev_H → Prop} {x1 : Int32} {L1 : Nat} {T2 : Tk} {B3 : Nat → Nat} {f_length_4 : Int32} {f_kind_5 : Int32} {f_start_6 : Int32} {f_end_7 : Int32}
  (a6 : hat h 5 (oC 4 [.ref 6, .ref 12, .ref 14, .ref 13, .int f_length_4, .int f_kind_5, .int f_start_6, .int f_end_7]))
  (pr1 : 8 < 15)
  (pr2 : ReB h L1 T2)
  (pr3 : TxB h B3 L1)
  (pr4 : TkOk B3 L1 T2)
  (r5 : ∃ fs, hat h 5 (oC 4 fs))
  (r7 : ¬ (b2i (wdB B3 T2 8)) = (0 : Int32) → x1 < (6 : Int32) → ∃ fs, hat h 5 (oC 4 fs))
  (k1 : (b2i (wdB B3 T2 8)) = (0 : Int32) → f_kind_5 = (91 : Int32) → x1 < (6 : Int32) → Ev G (d + 4) 0 0 M_Re_next 0 [.ref 5, ev_unk, ev_unk, ev_unk, ev_unk, ev_unk, ev_unk, ev_unk] [] h (fun r h1 => Ev G (d + 5) k n M_Re_readFact 42 [.ref 5, .int x1, .int (b2i (wdB B3 T2 8)), ev_unk] (r.toList ++ []) h1 R))
  (k2 : (b2i (wdB B3 T2 8)) = (0 : Int32) → f_kind_5 = (91 : Int32) → ¬ x1 < (6 : Int32) → R (some (.int (6 : Int32))) h)
  (k3 : (b2i (wdB B3 T2 8)) = (0 : Int32) → ¬ f_kind_5 = (91 : Int32) → Ev G (d + 4) 0 0 M_Re_valueKind 0 [.ref 5] [] h (fun r h1 => Ev G (d + 5) k n M_Re_readFact 25 [.ref 5, .int x1, .int (b2i (wdB B3 T2 8)), ev_unk] (r.toList ++ [.ref 5]) h1 R))
  (k4 : ¬ (b2i (wdB B3 T2 8)) = (0 : Int32) → x1 < (6 : Int32) → Ev G (d + 4) 0 0 M_Re_next 0 [.ref 5, ev_unk, ev_unk, ev_unk, ev_unk, ev_unk, ev_unk, ev_unk] [] h (fun r h1 => Ev G (d + 5) k n M_Re_readFact 42 [.ref 5, .int x1, .int (b2i (wdB B3 T2 8)), ev_unk] (r.toList ++ []) h1 R))
  (k5 : ¬ (b2i (wdB B3 T2 8)) = (0 : Int32) → ¬ x1 < (6 : Int32) → R (some (.int (6 : Int32))) h)
  : Ev G (d + 5) k n M_Re_readFact 0 [.ref 5, .int x1, ev_unk, ev_unk] [] h R :=
  Ev.go (pc' := 1) (ls' := [.ref 5, .int x1, ev_unk, ev_unk]) (st' := [.ref 5]) [.aload_n 0] (by decide +kernel) rfl <|
  Ev.ldcS (i := 8) rfl (by decide +kernel) <|
  Ev.cV0 (M' := M_Re_isWord) (as := [.ref (ev_big + 8)]) (rest := []) l_Re_66 M_Re_isWord_ok M_Re_isWord_in M_Re_isWord_se (by decide +kernel) r5 rfl rfl rfl (Nat.le_of_ble_eq_true rfl) (Nat.le_of_ble_eq_true rfl) (s_Re_isWord pr1 pr2 pr3 pr4 <| show Ev G (d + 5) _ _ M_Re_readFact 6 [.ref 5, .int x1, ev_unk, ev_unk] [.int (b2i (wdB B3 T2 8))] h R from
    Ev.go (pc' := 8) (ls' := [.ref 5, .int x1, .int (b2i (wdB B3 T2 8)), ev_unk]) (st' := [.int (b2i (wdB B3 T2 8))]) [.istore_n 2, .iload_n 2] (by decide +kernel) rfl <|
    Ev.br (i := .ifCond .ne (21)) (P := (b2i (wdB B3 T2 8)) = (0 : Int32)) (t := 11) (f := 29) (r := []) (by decide +kernel) rfl (fun c1 =>
      Ev.go (pc' := 12) (ls' := [.ref 5, .int x1, .int (b2i (wdB B3 T2 8)), ev_unk]) (st' := [.ref 5]) [.aload_n 0] (by decide +kernel) rfl <|
      Ev.getf f_Re_43 (by decide +kernel) a6 rfl <|
      Ev.go (pc' := 17) (ls' := [.ref 5, .int x1, .int (b2i (wdB B3 T2 8)), ev_unk]) (st' := [.int (91 : Int32), .int f_kind_5]) [.bipush (91)] (by decide +kernel) rfl <|
      Ev.br (i := .if_icmp .eq (12)) (P := f_kind_5 = (91 : Int32)) (t := 29) (f := 20) (r := []) (by decide +kernel) rfl (fun c2 =>
        Ev.go (pc' := 32) (ls' := [.ref 5, .int x1, .int (b2i (wdB B3 T2 8)), ev_unk]) (st' := [.int (6 : Int32), .int x1]) [.iload_n 1, .bipush (6)] (by decide +kernel) rfl <|
        Ev.br (i := .if_icmp .lt (6)) (P := x1 < (6 : Int32)) (t := 38) (f := 35) (r := []) (by decide +kernel) rfl (fun c3 =>
          Ev.go (pc' := 39) (ls' := [.ref 5, .int x1, .int (b2i (wdB B3 T2 8)), ev_unk]) (st' := [.ref 5]) [.aload_n 0] (by decide +kernel) rfl <|
          Ev.cV0 (M' := M_Re_next) (as := []) (rest := []) l_Re_61 M_Re_next_ok M_Re_next_in M_Re_next_se (by decide +kernel) ⟨_, a6⟩ rfl rfl rfl (Nat.le_of_ble_eq_true rfl) (Nat.le_of_ble_eq_true rfl) (k1 c1 c2 c3)
        ) (fun c3 =>
          Ev.go (pc' := 37) (ls' := [.ref 5, .int x1, .int (b2i (wdB B3 T2 8)), ev_unk]) (st' := [.int (6 : Int32)]) [.bipush (6)] (by decide +kernel) rfl <|
          Ev.ret (r := (some (.int (6 : Int32)))) (Or.inl ⟨_, rfl, by decide +kernel, _, rfl, rfl⟩) (k2 c1 c2 c3)
        )
      ) (fun c2 =>
        Ev.go (pc' := 22) (ls' := [.ref 5, .int x1, .int (b2i (wdB B3 T2 8)), ev_unk]) (st' := [.ref 5, .ref 5]) [.aload_n 0, .aload_n 0] (by decide +kernel) rfl <|
        Ev.cV0 (M' := M_Re_valueKind) (as := []) (rest := [.ref 5]) l_Re_169 M_Re_valueKind_ok M_Re_valueKind_in M_Re_valueKind_se (by decide +kernel) ⟨_, a6⟩ rfl rfl rfl (Nat.le_of_ble_eq_true rfl) (Nat.le_of_ble_eq_true rfl) (k3 c1 c2)
      )
    ) (fun c1 =>
      Ev.go (pc' := 32) (ls' := [.ref 5, .int x1, .int (b2i (wdB B3 T2 8)), ev_unk]) (st' := [.int (6 : Int32), .int x1]) [.iload_n 1, .bipush (6)] (by decide +kernel) rfl <|
      Ev.br (i := .if_icmp .lt (6)) (P := x1 < (6 : Int32)) (t := 38) (f := 35) (r := []) (by decide +kernel) rfl (fun c2 =>
        Ev.go (pc' := 39) (ls' := [.ref 5, .int x1, .int (b2i (wdB B3 T2 8)), ev_unk]) (st' := [.ref 5]) [.aload_n 0] (by decide +kernel) rfl <|
        Ev.cV0 (M' := M_Re_next) (as := []) (rest := []) l_Re_61 M_Re_next_ok M_Re_next_in M_Re_next_se (by decide +kernel) (r7 c1 c2) rfl rfl rfl (Nat.le_of_ble_eq_true rfl) (Nat.le_of_ble_eq_true rfl) (k4 c1 c2)
      ) (fun c2 =>
        Ev.go (pc' := 37) (ls' := [.ref 5, .int x1, .int (b2i (wdB B3 T2 8)), ev_unk]) (st' := [.int (6 : Int32)]) [.bipush (6)] (by decide +kernel) rfl <|
        Ev.ret (r := (some (.int (6 : Int32)))) (Or.inl ⟨_, rfl, by decide +kernel, _, rfl, rfl⟩) (k5 c1 c2)
      )
    )
  )
theorem b_Re_readFact_25 {G : ev_G} {d k n : Nat} {h : ev_H} {R : Option Value → ev_H → Prop} {x1 : Int32} {x2 : Int32} {y1 : Int32}
  (r1 : ∃ fs, hat h 5 (oC 4 fs))
  (k1 : Ev G (d + 4) 0 0 M_Re_readComparison 0 [.ref 5, .int y1, ev_unk, ev_unk, ev_unk, ev_unk, ev_unk] [] h (fun r h1 => Ev G (d + 5) k n M_Re_readFact 28 [.ref 5, .int x1, .int x2, ev_unk] (r.toList ++ []) h1 R))
  : Ev G (d + 5) k n M_Re_readFact 25 [.ref 5, .int x1, .int x2, ev_unk] [.int y1, .ref 5] h R :=
  Ev.cV0 (M' := M_Re_readComparison) (as := [.int y1]) (rest := []) l_Re_172 M_Re_readComparison_ok M_Re_readComparison_in M_Re_readComparison_se (by decide +kernel) r1 rfl rfl rfl (Nat.le_of_ble_eq_true rfl) (Nat.le_of_ble_eq_true rfl) k1
theorem b_Re_readFact_28 {G : ev_G} {d k n : Nat} {h : ev_H} {R : Option Value → ev_H → Prop} {x1 : Int32} {x2 : Int32} {y0 : Int32}
  (k1 : R (some (.int y0)) h)
  : Ev G (d + 5) k n M_Re_readFact 28 [.ref 5, .int x1, .int x2, ev_unk] [.int y0] h R :=
  Ev.ret (r := (some (.int y0))) (Or.inl ⟨_, rfl, by decide +kernel, _, rfl, rfl⟩) k1
theorem b_Re_readFact_42 {G : ev_G} {d k n : Nat} {h : ev_H} {R : Option Value → ev_H → Prop} {x1 : Int32} {x2 : Int32}
  (r1 : x2 = (0 : Int32) → ∃ fs, hat h 5 (oC 4 fs))
  (r2 : ¬ x2 = (0 : Int32) → ∃ fs, hat h 5 (oC 4 fs))
  (k1 : x2 = (0 : Int32) → Ev G (d + 4) 0 0 M_Re_readTest 0 [.ref 5, .int (x1 + (1 : Int32)), ev_unk, ev_unk] [] h (fun r h1 => Ev G (d + 5) k n M_Re_readFact 71 [.ref 5, .int x1, .int x2, ev_unk] (r.toList ++ []) h1 R))
  (k2 : ¬ x2 = (0 : Int32) → Ev G (d + 4) 0 0 M_Re_readFact 0 [.ref 5, .int (x1 + (1 : Int32)), ev_unk, ev_unk] [] h (fun r h1 => Ev G (d + 5) k n M_Re_readFact 53 [.ref 5, .int x1, .int x2, ev_unk] (r.toList ++ []) h1 R))
  : Ev G (d + 5) k n M_Re_readFact 42 [.ref 5, .int x1, .int x2, ev_unk] [] h R :=
  Ev.go (pc' := 43) (ls' := [.ref 5, .int x1, .int x2, ev_unk]) (st' := [.int x2]) [.iload_n 2] (by decide +kernel) rfl <|
  Ev.br (i := .ifCond .eq (21)) (P := x2 = (0 : Int32)) (t := 64) (f := 46) (r := []) (by decide +kernel) rfl (fun c1 =>
    Ev.go (pc' := 68) (ls' := [.ref 5, .int x1, .int x2, ev_unk]) (st' := [.int (x1 + (1 : Int32)), .ref 5]) [.aload_n 0, .iload_n 1, .iconst 1, .iadd] (by decide +kernel) rfl <|
    Ev.cV0 (M' := M_Re_readTest) (as := [.int (x1 + (1 : Int32))]) (rest := []) l_Re_145 M_Re_readTest_ok M_Re_readTest_in M_Re_readTest_se (by decide +kernel) (r1 c1) rfl rfl rfl (Nat.le_of_ble_eq_true rfl) (Nat.le_of_ble_eq_true rfl) (k1 c1)
  ) (fun c1 =>
    Ev.go (pc' := 50) (ls' := [.ref 5, .int x1, .int x2, ev_unk]) (st' := [.int (x1 + (1 : Int32)), .ref 5]) [.aload_n 0, .iload_n 1, .iconst 1, .iadd] (by decide +kernel) rfl <|
    Ev.cV0 (M' := M_Re_readFact) (as := [.int (x1 + (1 : Int32))]) (rest := []) l_Re_162 M_Re_readFact_ok M_Re_readFact_in M_Re_readFact_se (by decide +kernel) (r2 c1) rfl rfl rfl (Nat.le_of_ble_eq_true rfl) (Nat.le_of_ble_eq_true rfl) (k2 c1)
  )
theorem b_Re_readFact_53 {G : ev_G} {d k n : Nat} {h : ev_H} {R : Option Value → ev_H → Prop} {x1 : Int32} {x2 : Int32} {y0 : Int32} {f_length_1 : Int32} {f_kind_2 : Int32} {f_start_3 : Int32} {f_end_4 : Int32}
  (a1 : hat h 5 (oC 4 [.ref 6, .ref 12, .ref 14, .ref 13, .int f_length_1, .int f_kind_2, .int f_start_3, .int f_end_4]))
  (r2 : ∃ fs, hat h 6 (oC 5 fs))
  (k1 : Ev G (d + 4) 0 0 M_Sp_join 0 [.ref 6, .int (0 : Int32)] [] h (fun r h1 => Ev G (d + 5) k n M_Re_readFact 62 [.ref 5, .int x1, .int x2, .int y0] (r.toList ++ []) h1 R))
  : Ev G (d + 5) k n M_Re_readFact 53 [.ref 5, .int x1, .int x2, ev_unk] [.int y0] h R :=
  Ev.go (pc' := 55) (ls' := [.ref 5, .int x1, .int x2, .int y0]) (st' := [.ref 5]) [.istore_n 3, .aload_n 0] (by decide +kernel) rfl <|
  Ev.getf f_Re_12 (by decide +kernel) a1 rfl <|
  Ev.go (pc' := 59) (ls' := [.ref 5, .int x1, .int x2, .int y0]) (st' := [.int (0 : Int32), .ref 6]) [.iconst 0] (by decide +kernel) rfl <|
  Ev.cV0 (M' := M_Sp_join) (as := [.int (0 : Int32)]) (rest := []) l_Re_158 M_Sp_join_ok M_Sp_join_in M_Sp_join_se (by decide +kernel) r2 rfl rfl rfl (Nat.le_of_ble_eq_true rfl) (Nat.le_of_ble_eq_true rfl) k1
theorem b_Re_readFact_62 {G : ev_G} {d k n : Nat} {h : ev_H} {R : Option Value → ev_H → Prop} {x1 : Int32} {x2 : Int32} {x3 : Int32}
  (k1 : R (some (.int x3)) h)
  : Ev G (d + 5) k n M_Re_readFact 62 [.ref 5, .int x1, .int x2, .int x3] [] h R :=
  Ev.go (pc' := 63) (ls' := [.ref 5, .int x1, .int x2, .int x3]) (st' := [.int x3]) [.iload_n 3] (by decide +kernel) rfl <|
  Ev.ret (r := (some (.int x3))) (Or.inl ⟨_, rfl, by decide +kernel, _, rfl, rfl⟩) k1
theorem b_Re_readFact_71 {G : ev_G} {d k n : Nat} {h : ev_H} {R : Option Value → ev_H → Prop} {x1 : Int32} {x2 : Int32} {y0 : Int32}
  (r1 : y0 = (0 : Int32) → ∃ fs, hat h 5 (oC 4 fs))
  (k1 : y0 = (0 : Int32) → Ev G (d + 4) 0 0 M_Re_sign 0 [.ref 5, .int (93 : Int32)] [] h (fun r h1 => Ev G (d + 5) k n M_Re_readFact 82 [.ref 5, .int x1, .int x2, .int y0] (r.toList ++ []) h1 R))
  (k2 : ¬ y0 = (0 : Int32) → R (some (.int y0)) h)
  : Ev G (d + 5) k n M_Re_readFact 71 [.ref 5, .int x1, .int x2, ev_unk] [.int y0] h R :=
  Ev.go (pc' := 73) (ls' := [.ref 5, .int x1, .int x2, .int y0]) (st' := [.int y0]) [.istore_n 3, .iload_n 3] (by decide +kernel) rfl <|
  Ev.br (i := .ifCond .ne (12)) (P := y0 = (0 : Int32)) (t := 76) (f := 85) (r := []) (by decide +kernel) rfl (fun c1 =>
    Ev.go (pc' := 79) (ls' := [.ref 5, .int x1, .int x2, .int y0]) (st' := [.int (93 : Int32), .ref 5]) [.aload_n 0, .bipush (93)] (by decide +kernel) rfl <|
    Ev.cV0 (M' := M_Re_sign) (as := [.int (93 : Int32)]) (rest := []) l_Re_115 M_Re_sign_ok M_Re_sign_in M_Re_sign_se (by decide +kernel) (r1 c1) rfl rfl rfl (Nat.le_of_ble_eq_true rfl) (Nat.le_of_ble_eq_true rfl) (k1 c1)
  ) (fun c1 =>
    Ev.go (pc' := 86) (ls' := [.ref 5, .int x1, .int x2, .int y0]) (st' := [.int y0]) [.iload_n 3] (by decide +kernel) rfl <|
    Ev.ret (r := (some (.int y0))) (Or.inl ⟨_, rfl, by decide +kernel, _, rfl, rfl⟩) (k2 c1)
  )
theorem b_Re_readFact_82 {G : ev_G} {d k n : Nat} {h : ev_H} {R : Option Value → ev_H → Prop} {x1 : Int32} {x2 : Int32} {x3 : Int32} {y0 : Int32}
  (k1 : R (some (.int y0)) h)
  : Ev G (d + 5) k n M_Re_readFact 82 [.ref 5, .int x1, .int x2, .int x3] [.int y0] h R :=
  Ev.go (pc' := 86) (ls' := [.ref 5, .int x1, .int x2, .int x3]) (st' := [.int y0]) [.goto (4)] (by decide +kernel) rfl <|
  Ev.ret (r := (some (.int y0))) (Or.inl ⟨_, rfl, by decide +kernel, _, rfl, rfl⟩) k1
theorem b_Re_readSide_0 {G : ev_G} {d k n : Nat} {h : ev_H} {R : Option Value → ev_H → Prop} {x1 : Int32}
  (r1 : ∃ fs, hat h 5 (oC 4 fs))
  (k1 : Ev G (d + 4) 0 0 M_Re_readFact 0 [.ref 5, .int x1, ev_unk, ev_unk] [] h (fun r h1 => Ev G (d + 5) k n M_Re_readSide 5 [.ref 5, .int x1, ev_unk, ev_unk] (r.toList ++ []) h1 R))
  : Ev G (d + 5) k n M_Re_readSide 0 [.ref 5, .int x1, ev_unk, ev_unk] [] h R :=
  Ev.go (pc' := 2) (ls' := [.ref 5, .int x1, ev_unk, ev_unk]) (st' := [.int x1, .ref 5]) [.aload_n 0, .iload_n 1] (by decide +kernel) rfl <|
  Ev.cV0 (M' := M_Re_readFact) (as := [.int x1]) (rest := []) l_Re_162 M_Re_readFact_ok M_Re_readFact_in M_Re_readFact_se (by decide +kernel) r1 rfl rfl rfl (Nat.le_of_ble_eq_true rfl) (Nat.le_of_ble_eq_true rfl) k1
theorem b_Re_readSide_5 {G : ev_G} {d k n : Nat} {h : ev_H} {R : Option Value → ev_H → Prop} {x1 : Int32} {y0 : Int32}
  (k1 : Ev G (d + 5) k n M_Re_readSide 8 [.ref 5, .int x1, .int y0, .int (0 : Int32)] [] h R)
  : Ev G (d + 5) k n M_Re_readSide 5 [.ref 5, .int x1, ev_unk, ev_unk] [.int y0] h R :=
  Ev.go (pc' := 8) (ls' := [.ref 5, .int x1, .int y0, .int (0 : Int32)]) (st' := []) [.istore_n 2, .iconst 0, .istore_n 3] (by decide +kernel) rfl <|
  k1
theorem b_Re_readSide_8 {G : ev_G} {d k n : Nat} {h : ev_H} {R : Option Value → ev_H → Prop} {x1 : Int32} {x2 : Int32} {x3 : Int32} {L1 : Nat} {T2 : Tk} {B3 : Nat → Nat}
  (pr1 : x3 < (900 : Int32) → x2 = (0 : Int32) → 7 < 15)
  (pr2 : x3 < (900 : Int32) → x2 = (0 : Int32) → ReB h L1 T2)
  (pr3 : x3 < (900 : Int32) → x2 = (0 : Int32) → TxB h B3 L1)
  (pr4 : x3 < (900 : Int32) → x2 = (0 : Int32) → TkOk B3 L1 T2)
  (r5 : x3 < (900 : Int32) → x2 = (0 : Int32) → ∃ fs, hat h 5 (oC 4 fs))
  (r6 : x3 < (900 : Int32) → x2 = (0 : Int32) → ¬ (b2i (wdB B3 T2 7)) = (0 : Int32) → ∃ fs, hat h 5 (oC 4 fs))
  (k1 : x3 < (900 : Int32) → x2 = (0 : Int32) → (b2i (wdB B3 T2 7)) = (0 : Int32) → R (some (.int x2)) h)
  (k2 : x3 < (900 : Int32) → x2 = (0 : Int32) → ¬ (b2i (wdB B3 T2 7)) = (0 : Int32) → Ev G (d + 4) 0 0 M_Re_next 0 [.ref 5, ev_unk, ev_unk, ev_unk, ev_unk, ev_unk, ev_unk, ev_unk] [] h (fun r h1 => Ev G (d + 5) k n M_Re_readSide 32 [.ref 5, .int x1, .int x2, .int x3] (r.toList ++ []) h1 R))
  (k3 : x3 < (900 : Int32) → ¬ x2 = (0 : Int32) → R (some (.int x2)) h)
  (k4 : ¬ x3 < (900 : Int32) → R (some (.int x2)) h)
  : Ev G (d + 5) k n M_Re_readSide 8 [.ref 5, .int x1, .int x2, .int x3] [] h R :=
  Ev.go (pc' := 12) (ls' := [.ref 5, .int x1, .int x2, .int x3]) (st' := [.int (900 : Int32), .int x3]) [.iload_n 3, .sipush (900)] (by decide +kernel) rfl <|
  Ev.br (i := .if_icmp .ge (40)) (P := x3 < (900 : Int32)) (t := 15) (f := 52) (r := []) (by decide +kernel) rfl (fun c1 =>
    Ev.go (pc' := 16) (ls' := [.ref 5, .int x1, .int x2, .int x3]) (st' := [.int x2]) [.iload_n 2] (by decide +kernel) rfl <|
    Ev.br (i := .ifCond .ne (36)) (P := x2 = (0 : Int32)) (t := 19) (f := 52) (r := []) (by decide +kernel) rfl (fun c2 =>
      Ev.go (pc' := 20) (ls' := [.ref 5, .int x1, .int x2, .int x3]) (st' := [.ref 5]) [.aload_n 0] (by decide +kernel) rfl <|
      Ev.ldcS (i := 7) rfl (by decide +kernel) <|
      Ev.cV0 (M' := M_Re_isWord) (as := [.ref (ev_big + 7)]) (rest := []) l_Re_66 M_Re_isWord_ok M_Re_isWord_in M_Re_isWord_se (by decide +kernel) (r5 c1 c2) rfl rfl rfl (Nat.le_of_ble_eq_true rfl) (Nat.le_of_ble_eq_true rfl) (s_Re_isWord (pr1 c1 c2) (pr2 c1 c2) (pr3 c1 c2) (pr4 c1 c2) <| show Ev G (d + 5) _ _ M_Re_readSide 25 [.ref 5, .int x1, .int x2, .int x3] [.int (b2i (wdB B3 T2 7))] h R from
        Ev.br (i := .ifCond .eq (27)) (P := (b2i (wdB B3 T2 7)) = (0 : Int32)) (t := 52) (f := 28) (r := []) (by decide +kernel) rfl (fun c3 =>
          Ev.go (pc' := 53) (ls' := [.ref 5, .int x1, .int x2, .int x3]) (st' := [.int x2]) [.iload_n 2] (by decide +kernel) rfl <|
          Ev.ret (r := (some (.int x2))) (Or.inl ⟨_, rfl, by decide +kernel, _, rfl, rfl⟩) (k1 c1 c2 c3)
        ) (fun c3 =>
          Ev.go (pc' := 29) (ls' := [.ref 5, .int x1, .int x2, .int x3]) (st' := [.ref 5]) [.aload_n 0] (by decide +kernel) rfl <|
          Ev.cV0 (M' := M_Re_next) (as := []) (rest := []) l_Re_61 M_Re_next_ok M_Re_next_in M_Re_next_se (by decide +kernel) (r6 c1 c2 c3) rfl rfl rfl (Nat.le_of_ble_eq_true rfl) (Nat.le_of_ble_eq_true rfl) (k2 c1 c2 c3)
        )
      )
    ) (fun c2 =>
      Ev.go (pc' := 53) (ls' := [.ref 5, .int x1, .int x2, .int x3]) (st' := [.int x2]) [.iload_n 2] (by decide +kernel) rfl <|
      Ev.ret (r := (some (.int x2))) (Or.inl ⟨_, rfl, by decide +kernel, _, rfl, rfl⟩) (k3 c1 c2)
    )
  ) (fun c1 =>
    Ev.go (pc' := 53) (ls' := [.ref 5, .int x1, .int x2, .int x3]) (st' := [.int x2]) [.iload_n 2] (by decide +kernel) rfl <|
    Ev.ret (r := (some (.int x2))) (Or.inl ⟨_, rfl, by decide +kernel, _, rfl, rfl⟩) (k4 c1)
  )
theorem b_Re_readSide_32 {G : ev_G} {d k n : Nat} {h : ev_H} {R : Option Value → ev_H → Prop} {x1 : Int32} {x2 : Int32} {x3 : Int32}
  (r1 : ∃ fs, hat h 5 (oC 4 fs))
  (k1 : Ev G (d + 4) 0 0 M_Re_readFact 0 [.ref 5, .int x1, ev_unk, ev_unk] [] h (fun r h1 => Ev G (d + 5) k n M_Re_readSide 37 [.ref 5, .int x1, .int x2, .int x3] (r.toList ++ []) h1 R))
  : Ev G (d + 5) k n M_Re_readSide 32 [.ref 5, .int x1, .int x2, .int x3] [] h R :=
  Ev.go (pc' := 34) (ls' := [.ref 5, .int x1, .int x2, .int x3]) (st' := [.int x1, .ref 5]) [.aload_n 0, .iload_n 1] (by decide +kernel) rfl <|
  Ev.cV0 (M' := M_Re_readFact) (as := [.int x1]) (rest := []) l_Re_162 M_Re_readFact_ok M_Re_readFact_in M_Re_readFact_se (by decide +kernel) r1 rfl rfl rfl (Nat.le_of_ble_eq_true rfl) (Nat.le_of_ble_eq_true rfl) k1
theorem b_Re_readSide_37 {G : ev_G} {d k n : Nat} {h : ev_H} {R : Option Value → ev_H → Prop} {x1 : Int32} {x2 : Int32} {x3 : Int32} {y0 : Int32} {f_length_1 : Int32} {f_kind_2 : Int32} {f_start_3 : Int32} {f_end_4 : Int32}
  (a1 : hat h 5 (oC 4 [.ref 6, .ref 12, .ref 14, .ref 13, .int f_length_1, .int f_kind_2, .int f_start_3, .int f_end_4]))
  (r2 : ∃ fs, hat h 6 (oC 5 fs))
  (k1 : Ev G (d + 4) 0 0 M_Sp_join 0 [.ref 6, .int (1 : Int32)] [] h (fun r h1 => Ev G (d + 5) k n M_Re_readSide 46 [.ref 5, .int x1, .int y0, .int x3] (r.toList ++ []) h1 R))
  : Ev G (d + 5) k n M_Re_readSide 37 [.ref 5, .int x1, .int x2, .int x3] [.int y0] h R :=
  Ev.go (pc' := 39) (ls' := [.ref 5, .int x1, .int y0, .int x3]) (st' := [.ref 5]) [.istore_n 2, .aload_n 0] (by decide +kernel) rfl <|
  Ev.getf f_Re_12 (by decide +kernel) a1 rfl <|
  Ev.go (pc' := 43) (ls' := [.ref 5, .int x1, .int y0, .int x3]) (st' := [.int (1 : Int32), .ref 6]) [.iconst 1] (by decide +kernel) rfl <|
  Ev.cV0 (M' := M_Sp_join) (as := [.int (1 : Int32)]) (rest := []) l_Re_158 M_Sp_join_ok M_Sp_join_in M_Sp_join_se (by decide +kernel) r2 rfl rfl rfl (Nat.le_of_ble_eq_true rfl) (Nat.le_of_ble_eq_true rfl) k1
theorem b_Re_readSide_46 {G : ev_G} {d k n : Nat} {h : ev_H} {R : Option Value → ev_H → Prop} {x1 : Int32} {x2 : Int32} {x3 : Int32}
  (k1 : Ev G (d + 5) k n M_Re_readSide 8 [.ref 5, .int x1, .int x2, .int (x3 + (1 : Int32))] [] h R)
  : Ev G (d + 5) k n M_Re_readSide 46 [.ref 5, .int x1, .int x2, .int x3] [] h R :=
  Ev.go (pc' := 8) (ls' := [.ref 5, .int x1, .int x2, .int (x3 + (1 : Int32))]) (st' := []) [.iinc 3 (1), .goto (-41)] (by decide +kernel) rfl <|
  k1
theorem b_Re_readTest_0 {G : ev_G} {d k n : Nat} {h : ev_H} {R : Option Value → ev_H → Prop} {x1 : Int32}
  (r1 : ∃ fs, hat h 5 (oC 4 fs))
  (k1 : Ev G (d + 4) 0 0 M_Re_readSide 0 [.ref 5, .int x1, ev_unk, ev_unk] [] h (fun r h1 => Ev G (d + 5) k n M_Re_readTest 5 [.ref 5, .int x1, ev_unk, ev_unk] (r.toList ++ []) h1 R))
  : Ev G (d + 5) k n M_Re_readTest 0 [.ref 5, .int x1, ev_unk, ev_unk] [] h R :=
  Ev.go (pc' := 2) (ls' := [.ref 5, .int x1, ev_unk, ev_unk]) (st' := [.int x1, .ref 5]) [.aload_n 0, .iload_n 1] (by decide +kernel) rfl <|
  Ev.cV0 (M' := M_Re_readSide) (as := [.int x1]) (rest := []) l_Re_153 M_Re_readSide_ok M_Re_readSide_in M_Re_readSide_se (by decide +kernel) r1 rfl rfl rfl (Nat.le_of_ble_eq_true rfl) (Nat.le_of_ble_eq_true rfl) k1
theorem b_Re_readTest_5 {G : ev_G} {d k n : Nat} {h : ev_H} {R : Option Value → ev_H → Prop} {x1 : Int32} {y0 : Int32}
  (k1 : Ev G (d + 5) k n M_Re_readTest 8 [.ref 5, .int x1, .int y0, .int (0 : Int32)] [] h R)
  : Ev G (d + 5) k n M_Re_readTest 5 [.ref 5, .int x1, ev_unk, ev_unk] [.int y0] h R :=
  Ev.go (pc' := 8) (ls' := [.ref 5, .int x1, .int y0, .int (0 : Int32)]) (st' := []) [.istore_n 2, .iconst 0, .istore_n 3] (by decide +kernel) rfl <|
  k1
theorem b_Re_readTest_8 {G : ev_G} {d k n : Nat} {h : ev_H} {R : Option Value → ev_H → Prop} {x1 : Int32} {x2 : Int32} {x3 : Int32} {L1 : Nat} {T2 : Tk} {B3 : Nat → Nat}
  (pr1 : x3 < (900 : Int32) → x2 = (0 : Int32) → 6 < 15)
  (pr2 : x3 < (900 : Int32) → x2 = (0 : Int32) → ReB h L1 T2)
  (pr3 : x3 < (900 : Int32) → x2 = (0 : Int32) → TxB h B3 L1)
  (pr4 : x3 < (900 : Int32) → x2 = (0 : Int32) → TkOk B3 L1 T2)
  (r5 : x3 < (900 : Int32) → x2 = (0 : Int32) → ∃ fs, hat h 5 (oC 4 fs))
  (r6 : x3 < (900 : Int32) → x2 = (0 : Int32) → ¬ (b2i (wdB B3 T2 6)) = (0 : Int32) → ∃ fs, hat h 5 (oC 4 fs))
  (k1 : x3 < (900 : Int32) → x2 = (0 : Int32) → (b2i (wdB B3 T2 6)) = (0 : Int32) → R (some (.int x2)) h)
  (k2 : x3 < (900 : Int32) → x2 = (0 : Int32) → ¬ (b2i (wdB B3 T2 6)) = (0 : Int32) → Ev G (d + 4) 0 0 M_Re_next 0 [.ref 5, ev_unk, ev_unk, ev_unk, ev_unk, ev_unk, ev_unk, ev_unk] [] h (fun r h1 => Ev G (d + 5) k n M_Re_readTest 32 [.ref 5, .int x1, .int x2, .int x3] (r.toList ++ []) h1 R))
  (k3 : x3 < (900 : Int32) → ¬ x2 = (0 : Int32) → R (some (.int x2)) h)
  (k4 : ¬ x3 < (900 : Int32) → R (some (.int x2)) h)
  : Ev G (d + 5) k n M_Re_readTest 8 [.ref 5, .int x1, .int x2, .int x3] [] h R :=
  Ev.go (pc' := 12) (ls' := [.ref 5, .int x1, .int x2, .int x3]) (st' := [.int (900 : Int32), .int x3]) [.iload_n 3, .sipush (900)] (by decide +kernel) rfl <|
  Ev.br (i := .if_icmp .ge (40)) (P := x3 < (900 : Int32)) (t := 15) (f := 52) (r := []) (by decide +kernel) rfl (fun c1 =>
    Ev.go (pc' := 16) (ls' := [.ref 5, .int x1, .int x2, .int x3]) (st' := [.int x2]) [.iload_n 2] (by decide +kernel) rfl <|
    Ev.br (i := .ifCond .ne (36)) (P := x2 = (0 : Int32)) (t := 19) (f := 52) (r := []) (by decide +kernel) rfl (fun c2 =>
      Ev.go (pc' := 20) (ls' := [.ref 5, .int x1, .int x2, .int x3]) (st' := [.ref 5]) [.aload_n 0] (by decide +kernel) rfl <|
      Ev.ldcS (i := 6) rfl (by decide +kernel) <|
      Ev.cV0 (M' := M_Re_isWord) (as := [.ref (ev_big + 6)]) (rest := []) l_Re_66 M_Re_isWord_ok M_Re_isWord_in M_Re_isWord_se (by decide +kernel) (r5 c1 c2) rfl rfl rfl (Nat.le_of_ble_eq_true rfl) (Nat.le_of_ble_eq_true rfl) (s_Re_isWord (pr1 c1 c2) (pr2 c1 c2) (pr3 c1 c2) (pr4 c1 c2) <| show Ev G (d + 5) _ _ M_Re_readTest 25 [.ref 5, .int x1, .int x2, .int x3] [.int (b2i (wdB B3 T2 6))] h R from
        Ev.br (i := .ifCond .eq (27)) (P := (b2i (wdB B3 T2 6)) = (0 : Int32)) (t := 52) (f := 28) (r := []) (by decide +kernel) rfl (fun c3 =>
          Ev.go (pc' := 53) (ls' := [.ref 5, .int x1, .int x2, .int x3]) (st' := [.int x2]) [.iload_n 2] (by decide +kernel) rfl <|
          Ev.ret (r := (some (.int x2))) (Or.inl ⟨_, rfl, by decide +kernel, _, rfl, rfl⟩) (k1 c1 c2 c3)
        ) (fun c3 =>
          Ev.go (pc' := 29) (ls' := [.ref 5, .int x1, .int x2, .int x3]) (st' := [.ref 5]) [.aload_n 0] (by decide +kernel) rfl <|
          Ev.cV0 (M' := M_Re_next) (as := []) (rest := []) l_Re_61 M_Re_next_ok M_Re_next_in M_Re_next_se (by decide +kernel) (r6 c1 c2 c3) rfl rfl rfl (Nat.le_of_ble_eq_true rfl) (Nat.le_of_ble_eq_true rfl) (k2 c1 c2 c3)
        )
      )
    ) (fun c2 =>
      Ev.go (pc' := 53) (ls' := [.ref 5, .int x1, .int x2, .int x3]) (st' := [.int x2]) [.iload_n 2] (by decide +kernel) rfl <|
      Ev.ret (r := (some (.int x2))) (Or.inl ⟨_, rfl, by decide +kernel, _, rfl, rfl⟩) (k3 c1 c2)
    )
  ) (fun c1 =>
    Ev.go (pc' := 53) (ls' := [.ref 5, .int x1, .int x2, .int x3]) (st' := [.int x2]) [.iload_n 2] (by decide +kernel) rfl <|
    Ev.ret (r := (some (.int x2))) (Or.inl ⟨_, rfl, by decide +kernel, _, rfl, rfl⟩) (k4 c1)
  )
theorem b_Re_readTest_32 {G : ev_G} {d k n : Nat} {h : ev_H} {R : Option Value → ev_H → Prop} {x1 : Int32} {x2 : Int32} {x3 : Int32}
  (r1 : ∃ fs, hat h 5 (oC 4 fs))
  (k1 : Ev G (d + 4) 0 0 M_Re_readSide 0 [.ref 5, .int x1, ev_unk, ev_unk] [] h (fun r h1 => Ev G (d + 5) k n M_Re_readTest 37 [.ref 5, .int x1, .int x2, .int x3] (r.toList ++ []) h1 R))
  : Ev G (d + 5) k n M_Re_readTest 32 [.ref 5, .int x1, .int x2, .int x3] [] h R :=
  Ev.go (pc' := 34) (ls' := [.ref 5, .int x1, .int x2, .int x3]) (st' := [.int x1, .ref 5]) [.aload_n 0, .iload_n 1] (by decide +kernel) rfl <|
  Ev.cV0 (M' := M_Re_readSide) (as := [.int x1]) (rest := []) l_Re_153 M_Re_readSide_ok M_Re_readSide_in M_Re_readSide_se (by decide +kernel) r1 rfl rfl rfl (Nat.le_of_ble_eq_true rfl) (Nat.le_of_ble_eq_true rfl) k1
theorem b_Re_readTest_37 {G : ev_G} {d k n : Nat} {h : ev_H} {R : Option Value → ev_H → Prop} {x1 : Int32} {x2 : Int32} {x3 : Int32} {y0 : Int32} {f_length_1 : Int32} {f_kind_2 : Int32} {f_start_3 : Int32} {f_end_4 : Int32}
  (a1 : hat h 5 (oC 4 [.ref 6, .ref 12, .ref 14, .ref 13, .int f_length_1, .int f_kind_2, .int f_start_3, .int f_end_4]))
  (r2 : ∃ fs, hat h 6 (oC 5 fs))
  (k1 : Ev G (d + 4) 0 0 M_Sp_join 0 [.ref 6, .int (2 : Int32)] [] h (fun r h1 => Ev G (d + 5) k n M_Re_readTest 46 [.ref 5, .int x1, .int y0, .int x3] (r.toList ++ []) h1 R))
  : Ev G (d + 5) k n M_Re_readTest 37 [.ref 5, .int x1, .int x2, .int x3] [.int y0] h R :=
  Ev.go (pc' := 39) (ls' := [.ref 5, .int x1, .int y0, .int x3]) (st' := [.ref 5]) [.istore_n 2, .aload_n 0] (by decide +kernel) rfl <|
  Ev.getf f_Re_12 (by decide +kernel) a1 rfl <|
  Ev.go (pc' := 43) (ls' := [.ref 5, .int x1, .int y0, .int x3]) (st' := [.int (2 : Int32), .ref 6]) [.iconst 2] (by decide +kernel) rfl <|
  Ev.cV0 (M' := M_Sp_join) (as := [.int (2 : Int32)]) (rest := []) l_Re_158 M_Sp_join_ok M_Sp_join_in M_Sp_join_se (by decide +kernel) r2 rfl rfl rfl (Nat.le_of_ble_eq_true rfl) (Nat.le_of_ble_eq_true rfl) k1
theorem b_Re_readTest_46 {G : ev_G} {d k n : Nat} {h : ev_H} {R : Option Value → ev_H → Prop} {x1 : Int32} {x2 : Int32} {x3 : Int32}
  (k1 : Ev G (d + 5) k n M_Re_readTest 8 [.ref 5, .int x1, .int x2, .int (x3 + (1 : Int32))] [] h R)
  : Ev G (d + 5) k n M_Re_readTest 46 [.ref 5, .int x1, .int x2, .int x3] [] h R :=
  Ev.go (pc' := 8) (ls' := [.ref 5, .int x1, .int x2, .int (x3 + (1 : Int32))]) (st' := []) [.iinc 3 (1), .goto (-41)] (by decide +kernel) rfl <|
  k1
section S38
variable {G : ev_G} {B : Nat → Nat} {L : Nat} {S : AS}
/-- what reads a piece, in as many wraps: D frames deep -/
def RdP (G : ev_G) (B : Nat → Nat) (L : Nat) (S : AS) (D : Nat) (M : ev_M) (w : Nat) (f : Tk → PR) : Prop := ∀ (d : Nat) (h : ev_H) (T : Tk) (fl : List AStp) (R : Option Value → ev_H → Prop), ReB h L T → TxB h B L → TkOk B L T → StR h 14 S → SpR h fl → 3 * fl.length ≤ T.2.1 → (∀ h', Kp h h' 5 12 → ReB h' L (f T).2.1 → SpX h' → ((f T).1 = 0 → SpR h' (fl ++ (f T).2.2)) → R (some (.int (nI (f T).1))) h') → Ev G (d + D) 0 0 M 0 [.ref 5, .int (nI w), ev_unk, ev_unk] [] h R
theorem s_Re_readSide {D w : Nat} {f : Tk → PR} {N : Nat} (hf : RdP G B L S D M_Re_readFact w f) (hG : GI B L N f) (hD : 5 ≤ D) : RdP G B L S (D + 1) M_Re_readSide w (pSd B L f 7 1) := by
  intro d h T fl R HB HX HT HS HP hl hR
  have h900 := HX.1
  obtain ⟨D, rfl⟩ : ∃ D', D = D' + 4 := ⟨D - 4, by omega⟩
  show Ev G ((d + D) + 5) 0 0 M_Re_readSide 0 [.ref 5, .int (nI w), ev_unk, ev_unk] [] h R
  have go8 : ∀ (x : Int32) (i : Nat) (h1 : ev_H) (T1 : Tk), ReB h1 L T1 → TxB h1 B L → TkOk B L T1 → ¬ x = 0 → R (some (.int x)) h1 → Ev G (d + D + 5) 0 0 M_Re_readSide 8 [.ref 5, .int (nI w), .int x, .int (nI i)] [] h1 R := by
    intro x i h1 T1 HB HX HT hx hr
    refine b_Re_readSide_8 (fun c1 c2 => by decide) (fun c1 c2 => HB) (fun c1 c2 => HX) (fun c1 c2 => HT) (fun c1 c2 => ⟨_, HB⟩) (fun c1 c2 c3 => ⟨_, HB⟩) (fun c1 c2 c3 => absurd c2 hx) (fun c1 c2 c3 => absurd c2 hx) (fun c1 c2 => hr) (fun c1 => hr)
  have loop : ∀ (n : Nat) (h1 : ev_H) (T1 : Tk) (acc : List AStp), n ≤ 900 → Kp h h1 5 12 → ReB h1 L T1 → TkOk B L T1 → SpR h1 (fl ++ acc) → 3 * (fl.length + acc.length) ≤ T1.2.1 → (∀ h', Kp h h' 5 12 → ReB h' L (pLp B L f 7 1 n T1 acc).2.1 → SpX h' → ((pLp B L f 7 1 n T1 acc).1 = 0 → SpR h' (fl ++ (pLp B L f 7 1 n T1 acc).2.2)) → R (some (.int (nI (pLp B L f 7 1 n T1 acc).1))) h') → Ev G (d + D + 5) 0 0 M_Re_readSide 8 [.ref 5, .int (nI w), .int 0, .int (nI (900 - n))] [] h1 R := by
    intro n
    induction n with
    | zero =>
      intro h1 T1 acc hn K1 HB HT HP hl hr
      have HX := HX.kg K1.g (by omega)
      have no : ¬ nI (900 - 0) < 900 := by decide
      have hx : SpX h1 := HP.x (by rw [List.length_append]; have := HT.2.1; have := HT.2.2.1; omega)
      refine b_Re_readSide_8 (fun c1 c2 => by decide) (fun c1 c2 => HB) (fun c1 c2 => HX) (fun c1 c2 => HT) (fun c1 c2 => ⟨_, HB⟩) (fun c1 c2 c3 => ⟨_, HB⟩) (fun c1 c2 c3 => absurd c1 no) (fun c1 c2 c3 => absurd c1 no) (fun c1 c2 => absurd c1 no) (fun c1 => hr h1 K1 HB hx (fun _ => HP))
    | succ n ih =>
      intro h1 T1 acc hn K1 HB HT HP hl hr
      have HX := HX.kg K1.g (by omega)
      have HS := HS.kp K1 (by omega) (by omega)
      have yes : nI (900 - (n + 1)) < 900 := nI_lt (b := 900) (by omega) (by omega)
      have hx : SpX h1 := HP.x (by rw [List.length_append]; have := HT.2.1; have := HT.2.2.1; omega)
      have e : pLp B L f 7 1 (n + 1) T1 acc = if wdB B T1 7 then (if (f (nx B L T1)).1 = 0 then pLp B L f 7 1 n (f (nx B L T1)).2.1 (acc ++ ((f (nx B L T1)).2.2 ++ [jn 1])) else f (nx B L T1)) else (0, T1, acc) := rfl
      rw [e] at hr
      refine b_Re_readSide_8 (fun c1 c2 => by decide) (fun c1 c2 => HB) (fun c1 c2 => HX) (fun c1 c2 => HT) (fun c1 c2 => ⟨_, HB⟩) (fun c1 c2 c3 => ⟨_, HB⟩) (fun c1 c2 c3 => ?_) (fun c1 c2 c3 => ?_) (fun c1 c2 => absurd rfl c2) (fun c1 => absurd yes c1)
      · rw [if_neg (b2i_f0 c3)] at hr
        exact hr h1 K1 HB hx (fun _ => HP)
      · have c3 := b2i_n0 c3
        rw [if_pos c3] at hr
        have wf := wd_f c3
        have wl : 2 ≤ ev_len.getD 7 0 := by decide
        have n1 := nx_ok HT
        have g1 := nx_ge B L T1
        have lw := HT.2.1
        have hT1 : T1.2.1 + 2 ≤ (nx B L T1).2.1 := by omega
        obtain ⟨a1, a2, a3, a4⟩ := hG _ n1
        have en : nI (900 - (n + 1)) + 1 = nI (900 - n) := by rw [nI_1, show 900 - (n + 1) + 1 = 900 - n by omega]
        refine s_Re_nx HB HX HT.2.2.1 fun h2 K2 HB => b_Re_readSide_32 ⟨_, HB⟩ ?_
        have K2w : Kp h h2 5 12 := K1.trans (K2.wide (by omega) (by omega))
        have HX := HX.kg K2.g (by omega)
        refine hf d h2 (nx B L T1) (fl ++ acc) _ HB HX n1 (HS.kp K2 (by omega) (by omega)) (HP.kg K2.g (by omega)) (by rw [List.length_append]; omega) fun h3 K3 HB X3 P3 => ?_
        have K3w := K2w.trans K3
        have HX := HX.kg K3.g (by omega)
        refine b_Re_readSide_37 HB X3.obj ?_
        by_cases c0 : (f (nx B L T1)).1 = 0
        · rw [if_pos c0] at hr
          obtain ⟨b1, b2, b3, b4⟩ := a4 c0
          have l1 := a1.2.1
          have l2 := a1.2.2.1
          have P3 := P3 c0
          rw [List.append_assoc] at P3
          refine (s_Sp_join (d := 0) (q := 1) P3 (by rw [List.length_append, List.length_append]; omega) rfl fun h4 K4 P4 => b_Re_readSide_46 ?_).room (by omega) (Nat.le_refl _) (Nat.le_refl _)
          rw [c0, en]
          refine ih h4 (f (nx B L T1)).2.1 _ (by omega) (K3w.trans (K4.wide (by omega) (by omega))) (HB.kg K4.g (by omega)) a1 ?_ ?_ hr
          · rw [List.append_assoc, List.append_assoc] at P4
            exact P4
          · rw [List.length_append, List.length_append]
            show 3 * (fl.length + (acc.length + ((f (nx B L T1)).2.2.length + 1))) ≤ _
            omega
        · rw [if_neg c0] at hr
          refine (s_Sp_joinX (d := 0) X3 fun h4 K4 X4 => b_Re_readSide_46 ?_).room (by omega) (Nat.le_refl _) (Nat.le_refl _)
          have K4w := K3w.trans (K4.wide (lo' := 5) (hi' := 12) (by omega) (by omega))
          have HB := HB.kg K4.g (by omega)
          rw [en]
          exact go8 _ _ h4 _ HB (HX.kg K4.g (by omega)) a1 (fun z => c0 ((nI_eq (b := 0) (by omega) (by omega)).mp z)) (hr h4 K4w HB X4 (fun z => absurd z c0))
  obtain ⟨a1, a2, a3, a4⟩ := hG _ HT
  refine b_Re_readSide_0 ⟨_, HB⟩ ?_
  refine hf d h T fl _ HB HX HT HS HP hl fun h1 K1 HB X1 P1 => b_Re_readSide_5 ?_
  have HX := HX.kg K1.g (by omega)
  by_cases c0 : (f T).1 = 0
  · have e : pSd B L f 7 1 T = pLp B L f 7 1 900 (f T).2.1 (f T).2.2 := by unfold pSd; rw [if_pos c0]
    rw [e] at hR
    obtain ⟨b1, b2, b3, b4⟩ := a4 c0
    rw [c0]
    exact loop 900 h1 _ _ (by omega) K1 HB a1 (P1 c0) (by omega) hR
  · have e : pSd B L f 7 1 T = f T := by unfold pSd; rw [if_neg c0]
    rw [e] at hR
    exact go8 _ 0 h1 _ HB HX a1 (fun z => c0 ((nI_eq (b := 0) (by omega) (by omega)).mp z)) (hR h1 K1 HB X1 (fun z => absurd z c0))
theorem s_Re_readTest {D w : Nat} {f : Tk → PR} {N : Nat} (hf : RdP G B L S D M_Re_readSide w f) (hG : GI B L N f) (hD : 5 ≤ D) : RdP G B L S (D + 1) M_Re_readTest w (pSd B L f 6 2) := by
  intro d h T fl R HB HX HT HS HP hl hR
  have h900 := HX.1
  obtain ⟨D, rfl⟩ : ∃ D', D = D' + 4 := ⟨D - 4, by omega⟩
  show Ev G ((d + D) + 5) 0 0 M_Re_readTest 0 [.ref 5, .int (nI w), ev_unk, ev_unk] [] h R
  have go8 : ∀ (x : Int32) (i : Nat) (h1 : ev_H) (T1 : Tk), ReB h1 L T1 → TxB h1 B L → TkOk B L T1 → ¬ x = 0 → R (some (.int x)) h1 → Ev G (d + D + 5) 0 0 M_Re_readTest 8 [.ref 5, .int (nI w), .int x, .int (nI i)] [] h1 R := by
    intro x i h1 T1 HB HX HT hx hr
    refine b_Re_readTest_8 (fun c1 c2 => by decide) (fun c1 c2 => HB) (fun c1 c2 => HX) (fun c1 c2 => HT) (fun c1 c2 => ⟨_, HB⟩) (fun c1 c2 c3 => ⟨_, HB⟩) (fun c1 c2 c3 => absurd c2 hx) (fun c1 c2 c3 => absurd c2 hx) (fun c1 c2 => hr) (fun c1 => hr)
  have loop : ∀ (n : Nat) (h1 : ev_H) (T1 : Tk) (acc : List AStp), n ≤ 900 → Kp h h1 5 12 → ReB h1 L T1 → TkOk B L T1 → SpR h1 (fl ++ acc) → 3 * (fl.length + acc.length) ≤ T1.2.1 → (∀ h', Kp h h' 5 12 → ReB h' L (pLp B L f 6 2 n T1 acc).2.1 → SpX h' → ((pLp B L f 6 2 n T1 acc).1 = 0 → SpR h' (fl ++ (pLp B L f 6 2 n T1 acc).2.2)) → R (some (.int (nI (pLp B L f 6 2 n T1 acc).1))) h') → Ev G (d + D + 5) 0 0 M_Re_readTest 8 [.ref 5, .int (nI w), .int 0, .int (nI (900 - n))] [] h1 R := by
    intro n
    induction n with
    | zero =>
      intro h1 T1 acc hn K1 HB HT HP hl hr
      have HX := HX.kg K1.g (by omega)
      have no : ¬ nI (900 - 0) < 900 := by decide
      have hx : SpX h1 := HP.x (by rw [List.length_append]; have := HT.2.1; have := HT.2.2.1; omega)
      refine b_Re_readTest_8 (fun c1 c2 => by decide) (fun c1 c2 => HB) (fun c1 c2 => HX) (fun c1 c2 => HT) (fun c1 c2 => ⟨_, HB⟩) (fun c1 c2 c3 => ⟨_, HB⟩) (fun c1 c2 c3 => absurd c1 no) (fun c1 c2 c3 => absurd c1 no) (fun c1 c2 => absurd c1 no) (fun c1 => hr h1 K1 HB hx (fun _ => HP))
    | succ n ih =>
      intro h1 T1 acc hn K1 HB HT HP hl hr
      have HX := HX.kg K1.g (by omega)
      have HS := HS.kp K1 (by omega) (by omega)
      have yes : nI (900 - (n + 1)) < 900 := nI_lt (b := 900) (by omega) (by omega)
      have hx : SpX h1 := HP.x (by rw [List.length_append]; have := HT.2.1; have := HT.2.2.1; omega)
      have e : pLp B L f 6 2 (n + 1) T1 acc = if wdB B T1 6 then (if (f (nx B L T1)).1 = 0 then pLp B L f 6 2 n (f (nx B L T1)).2.1 (acc ++ ((f (nx B L T1)).2.2 ++ [jn 2])) else f (nx B L T1)) else (0, T1, acc) := rfl
      rw [e] at hr
      refine b_Re_readTest_8 (fun c1 c2 => by decide) (fun c1 c2 => HB) (fun c1 c2 => HX) (fun c1 c2 => HT) (fun c1 c2 => ⟨_, HB⟩) (fun c1 c2 c3 => ⟨_, HB⟩) (fun c1 c2 c3 => ?_) (fun c1 c2 c3 => ?_) (fun c1 c2 => absurd rfl c2) (fun c1 => absurd yes c1)
      · rw [if_neg (b2i_f0 c3)] at hr
        exact hr h1 K1 HB hx (fun _ => HP)
      · have c3 := b2i_n0 c3
        rw [if_pos c3] at hr
        have wf := wd_f c3
        have wl : 2 ≤ ev_len.getD 6 0 := by decide
        have n1 := nx_ok HT
        have g1 := nx_ge B L T1
        have lw := HT.2.1
        have hT1 : T1.2.1 + 2 ≤ (nx B L T1).2.1 := by omega
        obtain ⟨a1, a2, a3, a4⟩ := hG _ n1
        have en : nI (900 - (n + 1)) + 1 = nI (900 - n) := by rw [nI_1, show 900 - (n + 1) + 1 = 900 - n by omega]
        refine s_Re_nx HB HX HT.2.2.1 fun h2 K2 HB => b_Re_readTest_32 ⟨_, HB⟩ ?_
        have K2w : Kp h h2 5 12 := K1.trans (K2.wide (by omega) (by omega))
        have HX := HX.kg K2.g (by omega)
        refine hf d h2 (nx B L T1) (fl ++ acc) _ HB HX n1 (HS.kp K2 (by omega) (by omega)) (HP.kg K2.g (by omega)) (by rw [List.length_append]; omega) fun h3 K3 HB X3 P3 => ?_
        have K3w := K2w.trans K3
        have HX := HX.kg K3.g (by omega)
        refine b_Re_readTest_37 HB X3.obj ?_
        by_cases c0 : (f (nx B L T1)).1 = 0
        · rw [if_pos c0] at hr
          obtain ⟨b1, b2, b3, b4⟩ := a4 c0
          have l1 := a1.2.1
          have l2 := a1.2.2.1
          have P3 := P3 c0
          rw [List.append_assoc] at P3
          refine (s_Sp_join (d := 0) (q := 2) P3 (by rw [List.length_append, List.length_append]; omega) rfl fun h4 K4 P4 => b_Re_readTest_46 ?_).room (by omega) (Nat.le_refl _) (Nat.le_refl _)
          rw [c0, en]
          refine ih h4 (f (nx B L T1)).2.1 _ (by omega) (K3w.trans (K4.wide (by omega) (by omega))) (HB.kg K4.g (by omega)) a1 ?_ ?_ hr
          · rw [List.append_assoc, List.append_assoc] at P4
            exact P4
          · rw [List.length_append, List.length_append]
            show 3 * (fl.length + (acc.length + ((f (nx B L T1)).2.2.length + 1))) ≤ _
            omega
        · rw [if_neg c0] at hr
          refine (s_Sp_joinX (d := 0) X3 fun h4 K4 X4 => b_Re_readTest_46 ?_).room (by omega) (Nat.le_refl _) (Nat.le_refl _)
          have K4w := K3w.trans (K4.wide (lo' := 5) (hi' := 12) (by omega) (by omega))
          have HB := HB.kg K4.g (by omega)
          rw [en]
          exact go8 _ _ h4 _ HB (HX.kg K4.g (by omega)) a1 (fun z => c0 ((nI_eq (b := 0) (by omega) (by omega)).mp z)) (hr h4 K4w HB X4 (fun z => absurd z c0))
  obtain ⟨a1, a2, a3, a4⟩ := hG _ HT
  refine b_Re_readTest_0 ⟨_, HB⟩ ?_
  refine hf d h T fl _ HB HX HT HS HP hl fun h1 K1 HB X1 P1 => b_Re_readTest_5 ?_
  have HX := HX.kg K1.g (by omega)
  by_cases c0 : (f T).1 = 0
  · have e : pSd B L f 6 2 T = pLp B L f 6 2 900 (f T).2.1 (f T).2.2 := by unfold pSd; rw [if_pos c0]
    rw [e] at hR
    obtain ⟨b1, b2, b3, b4⟩ := a4 c0
    rw [c0]
    exact loop 900 h1 _ _ (by omega) K1 HB a1 (P1 c0) (by omega) hR
  · have e : pSd B L f 6 2 T = f T := by unfold pSd; rw [if_neg c0]
    rw [e] at hR
    exact go8 _ 0 h1 _ HB HX a1 (fun z => c0 ((nI_eq (b := 0) (by omega) (by omega)).mp z)) (hR h1 K1 HB X1 (fun z => absurd z c0))
theorem s_Re_readFact (ok : sOk S) : ∀ m, m ≤ 6 → RdP G B L S (6 + 3 * m) M_Re_readFact (6 - m) (pFact B L S m) := by
  intro m
  induction m with
  | zero =>
    intro _ d h T fl R HB HX HT HS HP hl hR
    have hx : SpX h := HP.x (by have := HT.2.1; have := HT.2.2.1; have := HX.1; omega)
    have no : ¬ nI (6 - 0) < 6 := by decide
    have u91 : nI T.1 = 91 ↔ T.1 = 91 := nI_eq (b := 91) (by have := HT.1; omega) (by omega)
    show Ev G ((d + 1) + 5) 0 0 M_Re_readFact 0 [.ref 5, .int (nI (6 - 0)), ev_unk, ev_unk] [] h R
    have e : pFact B L S 0 T = if wdB B T 8 then (6, T, []) else if T.1 = 91 then (6, T, []) else pCmp B L S T := rfl
    rw [e] at hR
    refine b_Re_readFact_0 HB (by decide) HB HX HT ⟨_, HB⟩ (fun c1 c2 => ⟨_, HB⟩) (fun c1 c2 c3 => absurd c3 no) (fun c1 c2 c3 => ?_) (fun c1 c2 => ?_) (fun c1 c2 => absurd c2 no) (fun c1 c2 => ?_)
    · rw [if_neg (b2i_f0 c1), if_pos (u91.mp c2)] at hR
      exact hR h (Kp.refl _ _ _) HB hx (fun z => absurd z (by show ¬ 6 = 0; omega))
    · rw [if_neg (b2i_f0 c1), if_neg (fun z => c2 (u91.mpr z))] at hR
      refine s_Re_valueKind HB HX HT ?_
      refine b_Re_readFact_25 ⟨_, HB⟩ ?_
      exact s_Re_readComparison HB HX HT HS ok HP hl fun h' K' HB' X' P' => b_Re_readFact_28 (hR h' K' HB' X' P')
    · rw [if_pos (b2i_n0 c1)] at hR
      exact hR h (Kp.refl _ _ _) HB hx (fun z => absurd z (by show ¬ 6 = 0; omega))
  | succ m ih =>
    intro hm d h T fl R HB HX HT HS HP hl hR
    have ih := ih (by omega)
    have ihT : RdP G B L S (6 + 3 * m + 1 + 1) M_Re_readTest (6 - m) (pSd B L (pSd B L (pFact B L S m) 7 1) 6 2) := s_Re_readTest (s_Re_readSide ih (pFact_GI ok m) (by omega)) (pSide_GI ok m) (by omega)
    have hx : SpX h := HP.x (by have := HT.2.1; have := HT.2.2.1; have := HX.1; omega)
    have yes : nI (6 - (m + 1)) < 6 := nI_lt (b := 6) (by omega) (by omega)
    have ew : nI (6 - (m + 1)) + 1 = nI (6 - m) := by rw [nI_1, show 6 - (m + 1) + 1 = 6 - m by omega]
    have u91 : nI T.1 = 91 ↔ T.1 = 91 := nI_eq (b := 91) (by have := HT.1; omega) (by omega)
    have n1 := nx_ok HT
    have g1 := nx_s HT
    rw [show d + (6 + 3 * (m + 1)) = (d + 4 + 3 * m) + 5 by omega]
    have e : pFact B L S (m + 1) T = if wdB B T 8 then pNot (pFact B L S m (nx B L T)) else if T.1 = 91 then pClose B L (pSd B L (pSd B L (pFact B L S m) 7 1) 6 2 (nx B L T)) else pCmp B L S T := rfl
    rw [e] at hR
    refine b_Re_readFact_0 HB (by decide) HB HX HT ⟨_, HB⟩ (fun c1 c2 => ⟨_, HB⟩) (fun c1 c2 c3 => ?_) (fun c1 c2 c3 => absurd yes c3) (fun c1 c2 => ?_) (fun c1 c2 => ?_) (fun c1 c2 => absurd yes c2)
    · rw [if_neg (b2i_f0 c1), if_pos (u91.mp c2)] at hR
      rw [b2i_e0 c1]
      refine s_Re_nx HB HX HT.2.2.1 fun h1 K1 HB => ?_
      have HX := HX.kg K1.g (by omega)
      have HS := HS.kp K1 (by omega) (by omega)
      have HP := HP.kg K1.g (by omega)
      have K1w : Kp h h1 5 12 := K1.wide (by omega) (by omega)
      refine b_Re_readFact_42 (fun _ => ⟨_, HB⟩) (fun c => absurd rfl c) (fun _ => ?_) (fun c => absurd rfl c)
      rw [ew]
      obtain ⟨a1, a2, a3, a4⟩ := pTest_GI (B := B) (L := L) ok m _ n1
      change TkOk B L (pSd B L (pSd B L (pFact B L S m) 7 1) 6 2 (nx B L T)).2.1 at a1
      change (pSd B L (pSd B L (pFact B L S m) 7 1) 6 2 (nx B L T)).1 ≤ 6 at a3
      refine (ihT d h1 (nx B L T) fl _ HB HX n1 HS HP (by omega) fun h2 K2 HB X2 P2 => ?_).room (by omega) (Nat.le_refl _) (Nat.le_refl _)
      have HX := HX.kg K2.g (by omega)
      have K2w := K1w.trans K2
      generalize pSd B L (pSd B L (pFact B L S m) 7 1) 6 2 (nx B L T) = r at a1 a3 hR HB P2 ⊢
      unfold pClose at hR
      refine b_Re_readFact_71 (fun _ => ⟨_, HB⟩) (fun c => ?_) (fun c => ?_)
      · have c0 : r.1 = 0 := (nI_eq (b := 0) (by omega) (by omega)).mp c
        rw [if_pos c0] at hR
        refine (s_Re_sign (d := 0) (c := 93) HB HX a1 ⟨rfl, by omega⟩ (fun c3 h3 K3 HB => b_Re_readFact_82 ?_) (fun c3 => b_Re_readFact_82 ?_)).room (by omega) (Nat.le_refl _) (Nat.le_refl _)
        · rw [if_pos c3] at hR
          exact hR h3 (K2w.trans (K3.wide (by omega) (by omega))) HB (X2.kg K3.g (by omega)) (fun _ => (P2 c0).kg K3.g (by omega))
        · rw [if_neg c3] at hR
          exact hR h2 K2w HB X2 (fun z => absurd z (by show ¬ 2 = 0; omega))
      · have c0 : ¬ r.1 = 0 := fun z => c (by rw [z]; rfl)
        rw [if_neg c0] at hR
        exact hR h2 K2w HB X2 (fun z => absurd z c0)
    · rw [if_neg (b2i_f0 c1), if_neg (fun z => c2 (u91.mpr z))] at hR
      refine (s_Re_valueKind (d := 0) HB HX HT ?_).room (by omega) (Nat.le_refl _) (Nat.le_refl _)
      refine b_Re_readFact_25 ⟨_, HB⟩ ?_
      refine (s_Re_readComparison (d := 0) HB HX HT HS ok HP hl fun h' K' HB' X' P' => b_Re_readFact_28 (hR h' K' HB' X' P')).room (by omega) (Nat.le_refl _) (Nat.le_refl _)
    · have c1 := b2i_n0 c1
      rw [if_pos c1] at hR
      rw [c1]
      have wf := wd_f c1
      have wl := wd_len 8 (by decide) (by decide)
      have gg := nx_ge B L T
      refine s_Re_nx HB HX HT.2.2.1 fun h1 K1 HB => ?_
      have HX := HX.kg K1.g (by omega)
      have HS := HS.kp K1 (by omega) (by omega)
      have HP := HP.kg K1.g (by omega)
      have K1w : Kp h h1 5 12 := K1.wide (by omega) (by omega)
      refine b_Re_readFact_42 (fun c => absurd c (by decide)) (fun _ => ⟨_, HB⟩) (fun c => absurd c (by decide)) (fun _ => ?_)
      rw [ew]
      obtain ⟨a1, a2, a3, a4⟩ := pFact_GI (B := B) (L := L) ok m _ n1
      refine (ih d h1 (nx B L T) fl _ HB HX n1 HS HP (by omega) fun h2 K2 HB X2 P2 => ?_).room (by omega) (Nat.le_refl _) (Nat.le_refl _)
      have K2w := K1w.trans K2
      refine b_Re_readFact_53 HB X2.obj ?_
      by_cases c0 : (pFact B L S m (nx B L T)).1 = 0
      · obtain ⟨b1, b2, b3, b4⟩ := a4 c0
        have l1 := a1.2.1
        have l2 := a1.2.2.1
        have h9 := HX.1
        have P2 := P2 c0
        refine (s_Sp_join (d := 0) (q := 0) P2 (by rw [List.length_append]; omega) rfl fun h3 K3 P3 => b_Re_readFact_62 ?_).room (by omega) (Nat.le_refl _) (Nat.le_refl _)
        rw [List.append_assoc] at P3
        exact hR h3 (K2w.trans (K3.wide (by omega) (by omega))) (HB.kg K3.g (by omega)) (P3.x (by rw [List.length_append, List.length_append]; show fl.length + ((pFact B L S m (nx B L T)).2.2.length + 1) ≤ 300; omega)) (fun _ => P3)
      · refine (s_Sp_joinX (d := 0) X2 fun h3 K3 X3 => b_Re_readFact_62 ?_).room (by omega) (Nat.le_refl _) (Nat.le_refl _)
        exact hR h3 (K2w.trans (K3.wide (by omega) (by omega))) (HB.kg K3.g (by omega)) X3 (fun z => absurd z c0)
end S38
