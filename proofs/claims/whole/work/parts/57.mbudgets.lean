/-! the model's table of costs -/
theorem b_Mo_budgetsOf_0 {G : ev_G} {d k n : Nat} {h : ev_H} {R : Option Value → ev_H → Prop} {x1 : Int64} {x3 : Int32} {x4 : Int64}
  (k1 : Ev G (d + 1) k n M_Mo_budgetsOf 3 [.ref 102, .long x1, ev_unk, .int x3, .long x4, ev_unk, .int (0 : Int32), ev_unk, ev_unk] [] h R)
  : Ev G (d + 1) k n M_Mo_budgetsOf 0 [.ref 102, .long x1, ev_unk, .int x3, .long x4, ev_unk, ev_unk, ev_unk, ev_unk] [] h R :=
  Ev.go (pc' := 3) (ls' := [.ref 102, .long x1, ev_unk, .int x3, .long x4, ev_unk, .int (0 : Int32), ev_unk, ev_unk]) (st' := []) [.iconst 0, .istore 6] (by decide +kernel) rfl <|
  k1
theorem b_Mo_budgetsOf_3 {G : ev_G} {d k n : Nat} {h : ev_H} {R : Option Value → ev_H → Prop} {x1 : Int64} {x3 : Int32} {x4 : Int64} {x6 : Int32} {f_status_1 : Int32} {f_acts_2 : Int32} {f_marks_3 : Int32} {f_taped_4 : Int32} {f_size_5 : Int32} {f_token_6 : Int32} {f_begin_7 : Int32} {f_end_8 : Int32} {f_faults_9 : Int32} {f_faultPlace_10 : Int32} {f_faultKind_11 : Int32} {f_deep_12 : Int32} {f_value_13 : Int64} {f_broadMany_14 : Int32}
  (a1 : hat h 102 (oC 9 [.ref 103, .int f_status_1, .int f_acts_2, .int f_marks_3, .ref 104, .ref 105, .ref 106, .int f_taped_4, .int f_size_5, .int f_token_6, .int f_begin_7, .int f_end_8, .int f_faults_9, .int f_faultPlace_10, .int f_faultKind_11, .int f_deep_12, .long f_value_13, .ref 107, .ref 108, .ref 109, .ref 116, .int f_broadMany_14, .ref 124, .ref 125]))
  (k1 : x6 < f_broadMany_14 → Ev G (d + 1) k n M_Mo_budgetsOf 15 [.ref 102, .long x1, ev_unk, .int x3, .long x4, ev_unk, .int x6, .int (0 : Int32), ev_unk] [] h R)
  (k2 : ¬ x6 < f_broadMany_14 → Ev G (d + 1) k n M_Mo_budgetsOf 67 [.ref 102, .long x1, ev_unk, .int x3, .long x4, ev_unk, .int (0 : Int32), ev_unk, ev_unk] [] h R)
  : Ev G (d + 1) k n M_Mo_budgetsOf 3 [.ref 102, .long x1, ev_unk, .int x3, .long x4, ev_unk, .int x6, ev_unk, ev_unk] [] h R :=
  Ev.go (pc' := 6) (ls' := [.ref 102, .long x1, ev_unk, .int x3, .long x4, ev_unk, .int x6, ev_unk, ev_unk]) (st' := [.ref 102, .int x6]) [.iload 6, .aload_n 0] (by decide +kernel) rfl <|
  Ev.getf f_Mo_295 (by decide +kernel) a1 rfl <|
  Ev.br (i := .if_icmp .ge (55)) (P := x6 < f_broadMany_14) (t := 12) (f := 64) (r := []) (by decide +kernel) rfl (fun c1 =>
    Ev.go (pc' := 15) (ls' := [.ref 102, .long x1, ev_unk, .int x3, .long x4, ev_unk, .int x6, .int (0 : Int32), ev_unk]) (st' := []) [.iconst 0, .istore 7] (by decide +kernel) rfl <|
    (k1 c1)
  ) (fun c1 =>
    Ev.go (pc' := 67) (ls' := [.ref 102, .long x1, ev_unk, .int x3, .long x4, ev_unk, .int (0 : Int32), ev_unk, ev_unk]) (st' := []) [.iconst 0, .istore 6] (by decide +kernel) rfl <|
    (k2 c1)
  )
theorem b_Mo_budgetsOf_15 {G : ev_G} {d k n : Nat} {h : ev_H} {R : Option Value → ev_H → Prop} {x1 : Int64} {x3 : Int32} {x4 : Int64} {x6 : Int32} {x7 : Int32} {f_status_1 : Int32} {f_acts_2 : Int32} {f_marks_3 : Int32} {f_taped_4 : Int32} {f_size_5 : Int32} {f_token_6 : Int32} {f_begin_7 : Int32} {f_end_8 : Int32} {f_faults_9 : Int32} {f_faultPlace_10 : Int32} {f_faultKind_11 : Int32} {f_deep_12 : Int32} {f_value_13 : Int64} {f_broadMany_14 : Int32} {g15 : Nat → Int32} {j16 : Nat}
  (a1 : hat h 102 (oC 9 [.ref 103, .int f_status_1, .int f_acts_2, .int f_marks_3, .ref 104, .ref 105, .ref 106, .int f_taped_4, .int f_size_5, .int f_token_6, .int f_begin_7, .int f_end_8, .int f_faults_9, .int f_faultPlace_10, .int f_faultKind_11, .int f_deep_12, .long f_value_13, .ref 107, .ref 108, .ref 109, .ref 116, .int f_broadMany_14, .ref 124, .ref 125]))
  (a2 : hat h 107 (aI 6 g15))
  (a4 : hat h 109 (aG 6 (fun i => if i < 6 then some (109 + 1 + i) else none)))
  (i3 : ev_ix x6 j16 6)
  (i5 : ¬ ((g15 j16) + (1 : Int32)) < x7 → ev_ix x6 j16 6)
  (k1 : ((g15 j16) + (1 : Int32)) < x7 → Ev G (d + 1) k n M_Mo_budgetsOf 3 [.ref 102, .long x1, ev_unk, .int x3, .long x4, ev_unk, .int (x6 + (1 : Int32)), ev_unk, ev_unk] [] h R)
  (k2 : ¬ ((g15 j16) + (1 : Int32)) < x7 → Ev G d 0 0 M_Mo_costOf 0 [.ref 102, .long x1, ev_unk, .int x6, .int (x7 - (1 : Int32)), .long x4, ev_unk, ev_unk, ev_unk] [] h (fun r h1 => Ev G (d + 1) k n M_Mo_budgetsOf 51 [.ref 102, .long x1, ev_unk, .int x3, .long x4, ev_unk, .int x6, .int x7, ev_unk] (r.toList ++ [.int x7, .ref (109 + 1 + j16)]) h1 R))
  : Ev G (d + 1) k n M_Mo_budgetsOf 15 [.ref 102, .long x1, ev_unk, .int x3, .long x4, ev_unk, .int x6, .int x7, ev_unk] [] h R :=
  Ev.go (pc' := 18) (ls' := [.ref 102, .long x1, ev_unk, .int x3, .long x4, ev_unk, .int x6, .int x7, ev_unk]) (st' := [.ref 102, .int x7]) [.iload 7, .aload_n 0] (by decide +kernel) rfl <|
  Ev.getf f_Mo_30 (by decide +kernel) a1 rfl <|
  Ev.go (pc' := 23) (ls' := [.ref 102, .long x1, ev_unk, .int x3, .long x4, ev_unk, .int x6, .int x7, ev_unk]) (st' := [.int x6, .ref 107, .int x7]) [.iload 6] (by decide +kernel) rfl <|
  Ev.iald (j := j16) (by decide +kernel) a2 i3 <|
  Ev.go (pc' := 26) (ls' := [.ref 102, .long x1, ev_unk, .int x3, .long x4, ev_unk, .int x6, .int x7, ev_unk]) (st' := [.int ((g15 j16) + (1 : Int32)), .int x7]) [.iconst 1, .iadd] (by decide +kernel) rfl <|
  Ev.br (i := .if_icmp .gt (32)) (P := ((g15 j16) + (1 : Int32)) < x7) (t := 58) (f := 29) (r := []) (by decide +kernel) rfl (fun c1 =>
    Ev.go (pc' := 3) (ls' := [.ref 102, .long x1, ev_unk, .int x3, .long x4, ev_unk, .int (x6 + (1 : Int32)), .int x7, ev_unk]) (st' := []) [.iinc 6 (1), .goto (-58)] (by decide +kernel) rfl <|
    Ev.forget (ls' := [.ref 102, .long x1, ev_unk, .int x3, .long x4, ev_unk, .int (x6 + (1 : Int32)), ev_unk, ev_unk]) ⟨Or.inr rfl, Or.inr rfl, Or.inr rfl, Or.inr rfl, Or.inr rfl, Or.inr rfl, Or.inr rfl, Or.inl rfl, Or.inr rfl, trivial⟩ <|
    (k1 c1)
  ) (fun c1 =>
    Ev.go (pc' := 30) (ls' := [.ref 102, .long x1, ev_unk, .int x3, .long x4, ev_unk, .int x6, .int x7, ev_unk]) (st' := [.ref 102]) [.aload_n 0] (by decide +kernel) rfl <|
    Ev.getf f_Mo_39 (by decide +kernel) a1 rfl <|
    Ev.go (pc' := 35) (ls' := [.ref 102, .long x1, ev_unk, .int x3, .long x4, ev_unk, .int x6, .int x7, ev_unk]) (st' := [.int x6, .ref 109]) [.iload 6] (by decide +kernel) rfl <|
    Ev.gald (j := j16) (b := 109 + 1 + j16) (by decide +kernel) a4 (i5 c1) (if_pos (show j16 < 6 from ((i5 c1)).2.1)) <|
    Ev.go (pc' := 48) (ls' := [.ref 102, .long x1, ev_unk, .int x3, .long x4, ev_unk, .int x6, .int x7, ev_unk]) (st' := [.long x4, .int (x7 - (1 : Int32)), .int x6, .long x1, .ref 102, .int x7, .ref (109 + 1 + j16)]) [.iload 7, .aload_n 0, .lload_n 1, .iload 6, .iload 7, .iconst 1, .isub, .lload 4] (by decide +kernel) rfl <|
    Ev.cV0 (M' := M_Mo_costOf) (as := [.long x1, .int x6, .int (x7 - (1 : Int32)), .long x4]) (rest := [.int x7, .ref (109 + 1 + j16)]) l_Mo_301 M_Mo_costOf_ok M_Mo_costOf_in M_Mo_costOf_se (by decide +kernel) ⟨_, a1⟩ rfl rfl rfl (Nat.le_of_ble_eq_true rfl) (Nat.le_of_ble_eq_true rfl) (k2 c1)
  )
theorem b_Mo_budgetsOf_51 {G : ev_G} {d k n : Nat} {h : ev_H} {R : Option Value → ev_H → Prop} {x1 : Int64} {x3 : Int32} {x4 : Int64} {x6 : Int32} {x7 : Int32} {y0 : Nat} {y1 : Int32} {y2 : Int32} {g1 : Nat → Int32} {j2 : Nat}
  (a1 : hat h y0 (aI 26 g1))
  (i2 : ev_ix y1 j2 26)
  (k1 : Ev G (d + 1) k n M_Mo_budgetsOf 15 [.ref 102, .long x1, ev_unk, .int x3, .long x4, ev_unk, .int x6, .int (x7 + (1 : Int32)), ev_unk] [] (hset h y0 (aI 26 (upd g1 j2 y2))) R)
  : Ev G (d + 1) k n M_Mo_budgetsOf 51 [.ref 102, .long x1, ev_unk, .int x3, .long x4, ev_unk, .int x6, .int x7, ev_unk] [.int y2, .int y1, .ref y0] h R :=
  Ev.iast (j := j2) (by decide +kernel) a1 i2 <| show Ev G (d + 1) _ _ M_Mo_budgetsOf 52 [.ref 102, .long x1, ev_unk, .int x3, .long x4, ev_unk, .int x6, .int x7, ev_unk] [] (hset h y0 (aI 26 (upd g1 j2 y2))) R from
  Ev.go (pc' := 15) (ls' := [.ref 102, .long x1, ev_unk, .int x3, .long x4, ev_unk, .int x6, .int (x7 + (1 : Int32)), ev_unk]) (st' := []) [.iinc 7 (1), .goto (-40)] (by decide +kernel) rfl <|
  k1
theorem b_Mo_budgetsOf_67 {G : ev_G} {d k n : Nat} {h : ev_H} {R : Option Value → ev_H → Prop} {x1 : Int64} {x3 : Int32} {x4 : Int64} {x6 : Int32} {f_status_1 : Int32} {f_acts_2 : Int32} {f_marks_3 : Int32} {f_taped_4 : Int32} {f_size_5 : Int32} {f_token_6 : Int32} {f_begin_7 : Int32} {f_end_8 : Int32} {f_faults_9 : Int32} {f_faultPlace_10 : Int32} {f_faultKind_11 : Int32} {f_deep_12 : Int32} {f_value_13 : Int64} {f_broadMany_14 : Int32} {j15 : Nat} {g16 : Nat → Int32} {j17 : Nat}
  (a1 : hat h 102 (oC 9 [.ref 103, .int f_status_1, .int f_acts_2, .int f_marks_3, .ref 104, .ref 105, .ref 106, .int f_taped_4, .int f_size_5, .int f_token_6, .int f_begin_7, .int f_end_8, .int f_faults_9, .int f_faultPlace_10, .int f_faultKind_11, .int f_deep_12, .long f_value_13, .ref 107, .ref 108, .ref 109, .ref 116, .int f_broadMany_14, .ref 124, .ref 125]))
  (a2 : hat h 116 (aG 7 (fun i => if i < 7 then some (116 + 1 + i) else none)))
  (a4 : hat h (116 + 1 + j15) (aI 56 g16))
  (i3 : ¬ (x3 + (1 : Int32)) < x6 → ev_ix f_broadMany_14 j15 7)
  (i5 : ¬ (x3 + (1 : Int32)) < x6 → x6 = (0 : Int32) → ev_ix x6 j17 56)
  (e6 : ¬ (x3 + (1 : Int32)) < x6 → x6 = (0 : Int32) → 102 ≠ (116 + 1 + j15))
  (e7 : ¬ (x3 + (1 : Int32)) < x6 → x6 = (0 : Int32) → 116 ≠ (116 + 1 + j15))
  (i8 : ¬ (x3 + (1 : Int32)) < x6 → ¬ x6 = (0 : Int32) → ev_ix x6 j17 56)
  (e9 : ¬ (x3 + (1 : Int32)) < x6 → ¬ x6 = (0 : Int32) → 102 ≠ (116 + 1 + j15))
  (e10 : ¬ (x3 + (1 : Int32)) < x6 → ¬ x6 = (0 : Int32) → 116 ≠ (116 + 1 + j15))
  (k1 : (x3 + (1 : Int32)) < x6 → Ev G (d + 1) k n M_Mo_budgetsOf 113 [.ref 102, .long x1, ev_unk, .int x3, .long x4, ev_unk, .int (f_broadMany_14 - (1 : Int32)), ev_unk, ev_unk] [] h R)
  (k2 : ¬ (x3 + (1 : Int32)) < x6 → x6 = (0 : Int32) → Ev G (d + 1) k n M_Mo_budgetsOf 67 [.ref 102, .long x1, ev_unk, .int x3, .long x4, ev_unk, .int (x6 + (1 : Int32)), ev_unk, ev_unk] [] (hset h (116 + 1 + j15) (aI 56 (upd g16 j17 (0 : Int32)))) R)
  (k3 : ¬ (x3 + (1 : Int32)) < x6 → ¬ x6 = (0 : Int32) → Ev G (d + 1) k n M_Mo_budgetsOf 67 [.ref 102, .long x1, ev_unk, .int x3, .long x4, ev_unk, .int (x6 + (1 : Int32)), ev_unk, ev_unk] [] (hset h (116 + 1 + j15) (aI 56 (upd g16 j17 (1000000 : Int32)))) R)
  : Ev G (d + 1) k n M_Mo_budgetsOf 67 [.ref 102, .long x1, ev_unk, .int x3, .long x4, ev_unk, .int x6, ev_unk, ev_unk] [] h R :=
  Ev.go (pc' := 72) (ls' := [.ref 102, .long x1, ev_unk, .int x3, .long x4, ev_unk, .int x6, ev_unk, ev_unk]) (st' := [.int (x3 + (1 : Int32)), .int x6]) [.iload 6, .iload_n 3, .iconst 1, .iadd] (by decide +kernel) rfl <|
  Ev.br (i := .if_icmp .gt (33)) (P := (x3 + (1 : Int32)) < x6) (t := 105) (f := 75) (r := []) (by decide +kernel) rfl (fun c1 =>
    Ev.go (pc' := 106) (ls' := [.ref 102, .long x1, ev_unk, .int x3, .long x4, ev_unk, .int x6, ev_unk, ev_unk]) (st' := [.ref 102]) [.aload_n 0] (by decide +kernel) rfl <|
    Ev.getf f_Mo_295 (by decide +kernel) a1 rfl <|
    Ev.go (pc' := 113) (ls' := [.ref 102, .long x1, ev_unk, .int x3, .long x4, ev_unk, .int (f_broadMany_14 - (1 : Int32)), ev_unk, ev_unk]) (st' := []) [.iconst 1, .isub, .istore 6] (by decide +kernel) rfl <|
    (k1 c1)
  ) (fun c1 =>
    Ev.go (pc' := 76) (ls' := [.ref 102, .long x1, ev_unk, .int x3, .long x4, ev_unk, .int x6, ev_unk, ev_unk]) (st' := [.ref 102]) [.aload_n 0] (by decide +kernel) rfl <|
    Ev.getf f_Mo_42 (by decide +kernel) a1 rfl <|
    Ev.go (pc' := 80) (ls' := [.ref 102, .long x1, ev_unk, .int x3, .long x4, ev_unk, .int x6, ev_unk, ev_unk]) (st' := [.ref 102, .ref 116]) [.aload_n 0] (by decide +kernel) rfl <|
    Ev.getf f_Mo_295 (by decide +kernel) a1 rfl <|
    Ev.gald (j := j15) (b := 116 + 1 + j15) (by decide +kernel) a2 (i3 c1) (if_pos (show j15 < 7 from ((i3 c1)).2.1)) <|
    Ev.go (pc' := 88) (ls' := [.ref 102, .long x1, ev_unk, .int x3, .long x4, ev_unk, .int x6, ev_unk, ev_unk]) (st' := [.int x6, .int x6, .ref (116 + 1 + j15)]) [.iload 6, .iload 6] (by decide +kernel) rfl <|
    Ev.br (i := .ifCond .ne (7)) (P := x6 = (0 : Int32)) (t := 91) (f := 95) (r := [.int x6, .ref (116 + 1 + j15)]) (by decide +kernel) rfl (fun c2 =>
      Ev.go (pc' := 98) (ls' := [.ref 102, .long x1, ev_unk, .int x3, .long x4, ev_unk, .int x6, ev_unk, ev_unk]) (st' := [.int (0 : Int32), .int x6, .ref (116 + 1 + j15)]) [.iconst 0, .goto (6)] (by decide +kernel) rfl <|
      Ev.iast (j := j17) (by decide +kernel) a4 (i5 c1 c2) <| show Ev G (d + 1) _ _ M_Mo_budgetsOf 99 [.ref 102, .long x1, ev_unk, .int x3, .long x4, ev_unk, .int x6, ev_unk, ev_unk] [] (hset h (116 + 1 + j15) (aI 56 (upd g16 j17 (0 : Int32)))) R from
      Ev.go (pc' := 67) (ls' := [.ref 102, .long x1, ev_unk, .int x3, .long x4, ev_unk, .int (x6 + (1 : Int32)), ev_unk, ev_unk]) (st' := []) [.iinc 6 (1), .goto (-35)] (by decide +kernel) rfl <|
      (k2 c1 c2)
    ) (fun c2 =>
      Ev.ldcw k_Mo_305 (by decide +kernel) <|
      Ev.iast (j := j17) (by decide +kernel) a4 (i8 c1 c2) <| show Ev G (d + 1) _ _ M_Mo_budgetsOf 99 [.ref 102, .long x1, ev_unk, .int x3, .long x4, ev_unk, .int x6, ev_unk, ev_unk] [] (hset h (116 + 1 + j15) (aI 56 (upd g16 j17 (1000000 : Int32)))) R from
      Ev.go (pc' := 67) (ls' := [.ref 102, .long x1, ev_unk, .int x3, .long x4, ev_unk, .int (x6 + (1 : Int32)), ev_unk, ev_unk]) (st' := []) [.iinc 6 (1), .goto (-35)] (by decide +kernel) rfl <|
      (k3 c1 c2)
    )
  )
theorem b_Mo_budgetsOf_113 {G : ev_G} {d k n : Nat} {h : ev_H} {R : Option Value → ev_H → Prop} {x1 : Int64} {x3 : Int32} {x4 : Int64} {x6 : Int32}
  (k1 : x6 < (0 : Int32) → Ev G (d + 1) k n M_Mo_budgetsOf 241 [.ref 102, .long x1, ev_unk, .int x3, .long x4, ev_unk, .int (x3 + (1 : Int32)), .int (0 : Int32), ev_unk] [] h R)
  (k2 : ¬ x6 < (0 : Int32) → Ev G (d + 1) k n M_Mo_budgetsOf 121 [.ref 102, .long x1, ev_unk, .int x3, .long x4, ev_unk, .int x6, .int (0 : Int32), ev_unk] [] h R)
  : Ev G (d + 1) k n M_Mo_budgetsOf 113 [.ref 102, .long x1, ev_unk, .int x3, .long x4, ev_unk, .int x6, ev_unk, ev_unk] [] h R :=
  Ev.go (pc' := 115) (ls' := [.ref 102, .long x1, ev_unk, .int x3, .long x4, ev_unk, .int x6, ev_unk, ev_unk]) (st' := [.int x6]) [.iload 6] (by decide +kernel) rfl <|
  Ev.br (i := .ifCond .lt (118)) (P := x6 < (0 : Int32)) (t := 233) (f := 118) (r := []) (by decide +kernel) rfl (fun c1 =>
    Ev.go (pc' := 241) (ls' := [.ref 102, .long x1, ev_unk, .int x3, .long x4, ev_unk, .int (x3 + (1 : Int32)), .int (0 : Int32), ev_unk]) (st' := []) [.iload_n 3, .iconst 1, .iadd, .istore 6, .iconst 0, .istore 7] (by decide +kernel) rfl <|
    (k1 c1)
  ) (fun c1 =>
    Ev.go (pc' := 121) (ls' := [.ref 102, .long x1, ev_unk, .int x3, .long x4, ev_unk, .int x6, .int (0 : Int32), ev_unk]) (st' := []) [.iconst 0, .istore 7] (by decide +kernel) rfl <|
    (k2 c1)
  )
theorem b_Mo_budgetsOf_121 {G : ev_G} {d k n : Nat} {h : ev_H} {R : Option Value → ev_H → Prop} {x1 : Int64} {x3 : Int32} {x4 : Int64} {x6 : Int32} {x7 : Int32} {f_status_1 : Int32} {f_acts_2 : Int32} {f_marks_3 : Int32} {f_taped_4 : Int32} {f_size_5 : Int32} {f_token_6 : Int32} {f_begin_7 : Int32} {f_end_8 : Int32} {f_faults_9 : Int32} {f_faultPlace_10 : Int32} {f_faultKind_11 : Int32} {f_deep_12 : Int32} {f_value_13 : Int64} {f_broadMany_14 : Int32} {j15 : Nat} {g16 : Nat → Int32} {j17 : Nat}
  (a1 : hat h 102 (oC 9 [.ref 103, .int f_status_1, .int f_acts_2, .int f_marks_3, .ref 104, .ref 105, .ref 106, .int f_taped_4, .int f_size_5, .int f_token_6, .int f_begin_7, .int f_end_8, .int f_faults_9, .int f_faultPlace_10, .int f_faultKind_11, .int f_deep_12, .long f_value_13, .ref 107, .ref 108, .ref 109, .ref 116, .int f_broadMany_14, .ref 124, .ref 125]))
  (a2 : hat h 116 (aG 7 (fun i => if i < 7 then some (116 + 1 + i) else none)))
  (a4 : hat h (116 + 1 + j15) (aI 56 g16))
  (i3 : ¬ (x3 + (1 : Int32)) < x7 → ev_ix x6 j15 7)
  (i5 : ¬ (x3 + (1 : Int32)) < x7 → ev_ix x7 j17 56)
  (e6 : ¬ (x3 + (1 : Int32)) < x7 → 102 ≠ (116 + 1 + j15))
  (e7 : ¬ (x3 + (1 : Int32)) < x7 → 116 ≠ (116 + 1 + j15))
  (k1 : (x3 + (1 : Int32)) < x7 → Ev G (d + 1) k n M_Mo_budgetsOf 113 [.ref 102, .long x1, ev_unk, .int x3, .long x4, ev_unk, .int (x6 + (-1 : Int32)), ev_unk, ev_unk] [] h R)
  (k2 : ¬ (x3 + (1 : Int32)) < x7 → Ev G (d + 1) k n M_Mo_budgetsOf 145 [.ref 102, .long x1, ev_unk, .int x3, .long x4, ev_unk, .int x6, .int x7, .int (0 : Int32)] [] (hset h (116 + 1 + j15) (aI 56 (upd g16 j17 (1000000 : Int32)))) R)
  : Ev G (d + 1) k n M_Mo_budgetsOf 121 [.ref 102, .long x1, ev_unk, .int x3, .long x4, ev_unk, .int x6, .int x7, ev_unk] [] h R :=
  Ev.go (pc' := 126) (ls' := [.ref 102, .long x1, ev_unk, .int x3, .long x4, ev_unk, .int x6, .int x7, ev_unk]) (st' := [.int (x3 + (1 : Int32)), .int x7]) [.iload 7, .iload_n 3, .iconst 1, .iadd] (by decide +kernel) rfl <|
  Ev.br (i := .if_icmp .gt (101)) (P := (x3 + (1 : Int32)) < x7) (t := 227) (f := 129) (r := []) (by decide +kernel) rfl (fun c1 =>
    Ev.go (pc' := 113) (ls' := [.ref 102, .long x1, ev_unk, .int x3, .long x4, ev_unk, .int (x6 + (-1 : Int32)), .int x7, ev_unk]) (st' := []) [.iinc 6 (-1), .goto (-117)] (by decide +kernel) rfl <|
    Ev.forget (ls' := [.ref 102, .long x1, ev_unk, .int x3, .long x4, ev_unk, .int (x6 + (-1 : Int32)), ev_unk, ev_unk]) ⟨Or.inr rfl, Or.inr rfl, Or.inr rfl, Or.inr rfl, Or.inr rfl, Or.inr rfl, Or.inr rfl, Or.inl rfl, Or.inr rfl, trivial⟩ <|
    (k1 c1)
  ) (fun c1 =>
    Ev.go (pc' := 130) (ls' := [.ref 102, .long x1, ev_unk, .int x3, .long x4, ev_unk, .int x6, .int x7, ev_unk]) (st' := [.ref 102]) [.aload_n 0] (by decide +kernel) rfl <|
    Ev.getf f_Mo_42 (by decide +kernel) a1 rfl <|
    Ev.go (pc' := 135) (ls' := [.ref 102, .long x1, ev_unk, .int x3, .long x4, ev_unk, .int x6, .int x7, ev_unk]) (st' := [.int x6, .ref 116]) [.iload 6] (by decide +kernel) rfl <|
    Ev.gald (j := j15) (b := 116 + 1 + j15) (by decide +kernel) a2 (i3 c1) (if_pos (show j15 < 7 from ((i3 c1)).2.1)) <|
    Ev.go (pc' := 138) (ls' := [.ref 102, .long x1, ev_unk, .int x3, .long x4, ev_unk, .int x6, .int x7, ev_unk]) (st' := [.int x7, .ref (116 + 1 + j15)]) [.iload 7] (by decide +kernel) rfl <|
    Ev.ldcw k_Mo_305 (by decide +kernel) <|
    Ev.iast (j := j17) (by decide +kernel) a4 (i5 c1) <| show Ev G (d + 1) _ _ M_Mo_budgetsOf 142 [.ref 102, .long x1, ev_unk, .int x3, .long x4, ev_unk, .int x6, .int x7, ev_unk] [] (hset h (116 + 1 + j15) (aI 56 (upd g16 j17 (1000000 : Int32)))) R from
    Ev.go (pc' := 145) (ls' := [.ref 102, .long x1, ev_unk, .int x3, .long x4, ev_unk, .int x6, .int x7, .int (0 : Int32)]) (st' := []) [.iconst 0, .istore 8] (by decide +kernel) rfl <|
    (k2 c1)
  )
theorem b_Mo_budgetsOf_145 {G : ev_G} {d k n : Nat} {h : ev_H} {R : Option Value → ev_H → Prop} {x1 : Int64} {x3 : Int32} {x4 : Int64} {x6 : Int32} {x7 : Int32} {x8 : Int32} {f_status_1 : Int32} {f_acts_2 : Int32} {f_marks_3 : Int32} {f_taped_4 : Int32} {f_size_5 : Int32} {f_token_6 : Int32} {f_begin_7 : Int32} {f_end_8 : Int32} {f_faults_9 : Int32} {f_faultPlace_10 : Int32} {f_faultKind_11 : Int32} {f_deep_12 : Int32} {f_value_13 : Int64} {f_broadMany_14 : Int32} {g15 : Nat → Int32} {j16 : Nat} {g17 : Nat → Int32} {j18 : Nat} {g19 : Nat → Int32} {j20 : Nat} {j21 : Nat} {g22 : Nat → Int32} {j23 : Nat}
  (a1 : hat h 102 (oC 9 [.ref 103, .int f_status_1, .int f_acts_2, .int f_marks_3, .ref 104, .ref 105, .ref 106, .int f_taped_4, .int f_size_5, .int f_token_6, .int f_begin_7, .int f_end_8, .int f_faults_9, .int f_faultPlace_10, .int f_faultKind_11, .int f_deep_12, .long f_value_13, .ref 107, .ref 108, .ref 109, .ref 116, .int f_broadMany_14, .ref 124, .ref 125]))
  (a2 : hat h 107 (aI 6 g15))
  (a4 : hat h 116 (aG 7 (fun i => if i < 7 then some (116 + 1 + i) else none)))
  (a6 : hat h (116 + 1 + j16) (aI 56 g17))
  (a8 : hat h 109 (aG 6 (fun i => if i < 6 then some (109 + 1 + i) else none)))
  (a10 : hat h (109 + 1 + j16) (aI 26 g19))
  (a13 : hat h (116 + 1 + j21) (aI 56 g22))
  (i3 : ev_ix x6 j16 6)
  (i5 : ¬ ((g15 j16) + (1 : Int32)) < x8 → ¬ x7 < x8 → ev_ix x6 j16 7)
  (i7 : ¬ ((g15 j16) + (1 : Int32)) < x8 → ¬ x7 < x8 → ev_ix x7 j18 56)
  (i9 : ¬ ((g15 j16) + (1 : Int32)) < x8 → ¬ x7 < x8 → ev_ix x6 j16 6)
  (i11 : ¬ ((g15 j16) + (1 : Int32)) < x8 → ¬ x7 < x8 → ev_ix x8 j20 26)
  (i12 : ¬ ((g15 j16) + (1 : Int32)) < x8 → ¬ x7 < x8 → ev_ix (x6 + (1 : Int32)) j21 7)
  (i14 : ¬ ((g15 j16) + (1 : Int32)) < x8 → ¬ x7 < x8 → ev_ix (x7 - x8) j23 56)
  (e15 : ¬ ((g15 j16) + (1 : Int32)) < x8 → ¬ x7 < x8 → 102 ≠ (116 + 1 + j16))
  (e16 : ¬ ((g15 j16) + (1 : Int32)) < x8 → ¬ x7 < x8 → 107 ≠ (116 + 1 + j16))
  (e17 : ¬ ((g15 j16) + (1 : Int32)) < x8 → ¬ x7 < x8 → 116 ≠ (116 + 1 + j16))
  (e18 : ¬ ((g15 j16) + (1 : Int32)) < x8 → ¬ x7 < x8 → 109 ≠ (116 + 1 + j16))
  (e19 : ¬ ((g15 j16) + (1 : Int32)) < x8 → ¬ x7 < x8 → (109 + 1 + j16) ≠ (116 + 1 + j16))
  (e20 : ¬ ((g15 j16) + (1 : Int32)) < x8 → ¬ x7 < x8 → (116 + 1 + j21) ≠ (116 + 1 + j16))
  (k1 : ((g15 j16) + (1 : Int32)) < x8 → Ev G (d + 1) k n M_Mo_budgetsOf 121 [.ref 102, .long x1, ev_unk, .int x3, .long x4, ev_unk, .int x6, .int (x7 + (1 : Int32)), ev_unk] [] h R)
  (k2 : ¬ ((g15 j16) + (1 : Int32)) < x8 → x7 < x8 → Ev G (d + 1) k n M_Mo_budgetsOf 121 [.ref 102, .long x1, ev_unk, .int x3, .long x4, ev_unk, .int x6, .int (x7 + (1 : Int32)), ev_unk] [] h R)
  (k3 : ¬ ((g15 j16) + (1 : Int32)) < x8 → ¬ x7 < x8 → Ev G (d + 1) k n M_Mo_budgetsOf 145 [.ref 102, .long x1, ev_unk, .int x3, .long x4, ev_unk, .int x6, .int x7, .int (x8 + (1 : Int32))] [] (hset h (116 + 1 + j16) (aI 56 (upd g17 j18 (if ((g19 j20) + (g22 j23)) < (g17 j18) then ((g19 j20) + (g22 j23)) else (g17 j18))))) R)
  : Ev G (d + 1) k n M_Mo_budgetsOf 145 [.ref 102, .long x1, ev_unk, .int x3, .long x4, ev_unk, .int x6, .int x7, .int x8] [] h R :=
  Ev.go (pc' := 148) (ls' := [.ref 102, .long x1, ev_unk, .int x3, .long x4, ev_unk, .int x6, .int x7, .int x8]) (st' := [.ref 102, .int x8]) [.iload 8, .aload_n 0] (by decide +kernel) rfl <|
  Ev.getf f_Mo_30 (by decide +kernel) a1 rfl <|
  Ev.go (pc' := 153) (ls' := [.ref 102, .long x1, ev_unk, .int x3, .long x4, ev_unk, .int x6, .int x7, .int x8]) (st' := [.int x6, .ref 107, .int x8]) [.iload 6] (by decide +kernel) rfl <|
  Ev.iald (j := j16) (by decide +kernel) a2 i3 <|
  Ev.go (pc' := 156) (ls' := [.ref 102, .long x1, ev_unk, .int x3, .long x4, ev_unk, .int x6, .int x7, .int x8]) (st' := [.int ((g15 j16) + (1 : Int32)), .int x8]) [.iconst 1, .iadd] (by decide +kernel) rfl <|
  Ev.br (i := .if_icmp .gt (65)) (P := ((g15 j16) + (1 : Int32)) < x8) (t := 221) (f := 159) (r := []) (by decide +kernel) rfl (fun c1 =>
    Ev.go (pc' := 121) (ls' := [.ref 102, .long x1, ev_unk, .int x3, .long x4, ev_unk, .int x6, .int (x7 + (1 : Int32)), .int x8]) (st' := []) [.iinc 7 (1), .goto (-103)] (by decide +kernel) rfl <|
    Ev.forget (ls' := [.ref 102, .long x1, ev_unk, .int x3, .long x4, ev_unk, .int x6, .int (x7 + (1 : Int32)), ev_unk]) ⟨Or.inr rfl, Or.inr rfl, Or.inr rfl, Or.inr rfl, Or.inr rfl, Or.inr rfl, Or.inr rfl, Or.inr rfl, Or.inl rfl, trivial⟩ <|
    (k1 c1)
  ) (fun c1 =>
    Ev.go (pc' := 163) (ls' := [.ref 102, .long x1, ev_unk, .int x3, .long x4, ev_unk, .int x6, .int x7, .int x8]) (st' := [.int x7, .int x8]) [.iload 8, .iload 7] (by decide +kernel) rfl <|
    Ev.br (i := .if_icmp .gt (58)) (P := x7 < x8) (t := 221) (f := 166) (r := []) (by decide +kernel) rfl (fun c2 =>
      Ev.go (pc' := 121) (ls' := [.ref 102, .long x1, ev_unk, .int x3, .long x4, ev_unk, .int x6, .int (x7 + (1 : Int32)), .int x8]) (st' := []) [.iinc 7 (1), .goto (-103)] (by decide +kernel) rfl <|
      Ev.forget (ls' := [.ref 102, .long x1, ev_unk, .int x3, .long x4, ev_unk, .int x6, .int (x7 + (1 : Int32)), ev_unk]) ⟨Or.inr rfl, Or.inr rfl, Or.inr rfl, Or.inr rfl, Or.inr rfl, Or.inr rfl, Or.inr rfl, Or.inr rfl, Or.inl rfl, trivial⟩ <|
      (k2 c1 c2)
    ) (fun c2 =>
      Ev.go (pc' := 167) (ls' := [.ref 102, .long x1, ev_unk, .int x3, .long x4, ev_unk, .int x6, .int x7, .int x8]) (st' := [.ref 102]) [.aload_n 0] (by decide +kernel) rfl <|
      Ev.getf f_Mo_42 (by decide +kernel) a1 rfl <|
      Ev.go (pc' := 172) (ls' := [.ref 102, .long x1, ev_unk, .int x3, .long x4, ev_unk, .int x6, .int x7, .int x8]) (st' := [.int x6, .ref 116]) [.iload 6] (by decide +kernel) rfl <|
      Ev.gald (j := j16) (b := 116 + 1 + j16) (by decide +kernel) a4 (i5 c1 c2) (if_pos (show j16 < 7 from ((i5 c1 c2)).2.1)) <|
      Ev.go (pc' := 176) (ls' := [.ref 102, .long x1, ev_unk, .int x3, .long x4, ev_unk, .int x6, .int x7, .int x8]) (st' := [.ref 102, .int x7, .ref (116 + 1 + j16)]) [.iload 7, .aload_n 0] (by decide +kernel) rfl <|
      Ev.getf f_Mo_42 (by decide +kernel) a1 rfl <|
      Ev.go (pc' := 181) (ls' := [.ref 102, .long x1, ev_unk, .int x3, .long x4, ev_unk, .int x6, .int x7, .int x8]) (st' := [.int x6, .ref 116, .int x7, .ref (116 + 1 + j16)]) [.iload 6] (by decide +kernel) rfl <|
      Ev.gald (j := j16) (b := 116 + 1 + j16) (by decide +kernel) a4 (i5 c1 c2) (if_pos (show j16 < 7 from ((i5 c1 c2)).2.1)) <|
      Ev.go (pc' := 184) (ls' := [.ref 102, .long x1, ev_unk, .int x3, .long x4, ev_unk, .int x6, .int x7, .int x8]) (st' := [.int x7, .ref (116 + 1 + j16), .int x7, .ref (116 + 1 + j16)]) [.iload 7] (by decide +kernel) rfl <|
      Ev.iald (j := j18) (by decide +kernel) a6 (i7 c1 c2) <|
      Ev.go (pc' := 186) (ls' := [.ref 102, .long x1, ev_unk, .int x3, .long x4, ev_unk, .int x6, .int x7, .int x8]) (st' := [.ref 102, .int (g17 j18), .int x7, .ref (116 + 1 + j16)]) [.aload_n 0] (by decide +kernel) rfl <|
      Ev.getf f_Mo_39 (by decide +kernel) a1 rfl <|
      Ev.go (pc' := 191) (ls' := [.ref 102, .long x1, ev_unk, .int x3, .long x4, ev_unk, .int x6, .int x7, .int x8]) (st' := [.int x6, .ref 109, .int (g17 j18), .int x7, .ref (116 + 1 + j16)]) [.iload 6] (by decide +kernel) rfl <|
      Ev.gald (j := j16) (b := 109 + 1 + j16) (by decide +kernel) a8 (i9 c1 c2) (if_pos (show j16 < 6 from ((i9 c1 c2)).2.1)) <|
      Ev.go (pc' := 194) (ls' := [.ref 102, .long x1, ev_unk, .int x3, .long x4, ev_unk, .int x6, .int x7, .int x8]) (st' := [.int x8, .ref (109 + 1 + j16), .int (g17 j18), .int x7, .ref (116 + 1 + j16)]) [.iload 8] (by decide +kernel) rfl <|
      Ev.iald (j := j20) (by decide +kernel) a10 (i11 c1 c2) <|
      Ev.go (pc' := 196) (ls' := [.ref 102, .long x1, ev_unk, .int x3, .long x4, ev_unk, .int x6, .int x7, .int x8]) (st' := [.ref 102, .int (g19 j20), .int (g17 j18), .int x7, .ref (116 + 1 + j16)]) [.aload_n 0] (by decide +kernel) rfl <|
      Ev.getf f_Mo_42 (by decide +kernel) a1 rfl <|
      Ev.go (pc' := 203) (ls' := [.ref 102, .long x1, ev_unk, .int x3, .long x4, ev_unk, .int x6, .int x7, .int x8]) (st' := [.int (x6 + (1 : Int32)), .ref 116, .int (g19 j20), .int (g17 j18), .int x7, .ref (116 + 1 + j16)]) [.iload 6, .iconst 1, .iadd] (by decide +kernel) rfl <|
      Ev.gald (j := j21) (b := 116 + 1 + j21) (by decide +kernel) a4 (i12 c1 c2) (if_pos (show j21 < 7 from ((i12 c1 c2)).2.1)) <|
      Ev.go (pc' := 209) (ls' := [.ref 102, .long x1, ev_unk, .int x3, .long x4, ev_unk, .int x6, .int x7, .int x8]) (st' := [.int (x7 - x8), .ref (116 + 1 + j21), .int (g19 j20), .int (g17 j18), .int x7, .ref (116 + 1 + j16)]) [.iload 7, .iload 8, .isub] (by decide +kernel) rfl <|
      Ev.iald (j := j23) (by decide +kernel) a13 (i14 c1 c2) <|
      Ev.go (pc' := 211) (ls' := [.ref 102, .long x1, ev_unk, .int x3, .long x4, ev_unk, .int x6, .int x7, .int x8]) (st' := [.int ((g19 j20) + (g22 j23)), .int (g17 j18), .int x7, .ref (116 + 1 + j16)]) [.iadd] (by decide +kernel) rfl <|
      Ev.mmin lL_Mo_306 w_minS w_mathI w_minC (Nat.le_of_ble_eq_true rfl) (by decide +kernel) <|
      Ev.iast (j := j18) (by decide +kernel) a6 (i7 c1 c2) <| show Ev G (d + 1) _ _ M_Mo_budgetsOf 215 [.ref 102, .long x1, ev_unk, .int x3, .long x4, ev_unk, .int x6, .int x7, .int x8] [] (hset h (116 + 1 + j16) (aI 56 (upd g17 j18 (if ((g19 j20) + (g22 j23)) < (g17 j18) then ((g19 j20) + (g22 j23)) else (g17 j18))))) R from
      Ev.go (pc' := 145) (ls' := [.ref 102, .long x1, ev_unk, .int x3, .long x4, ev_unk, .int x6, .int x7, .int (x8 + (1 : Int32))]) (st' := []) [.iinc 8 (1), .goto (-73)] (by decide +kernel) rfl <|
      (k3 c1 c2)
    )
  )
theorem b_Mo_budgetsOf_241 {G : ev_G} {d k n : Nat} {h : ev_H} {R : Option Value → ev_H → Prop} {x1 : Int64} {x3 : Int32} {x4 : Int64} {x6 : Int32} {x7 : Int32} {f_status_1 : Int32} {f_acts_2 : Int32} {f_marks_3 : Int32} {f_taped_4 : Int32} {f_size_5 : Int32} {f_token_6 : Int32} {f_begin_7 : Int32} {f_end_8 : Int32} {f_faults_9 : Int32} {f_faultPlace_10 : Int32} {f_faultKind_11 : Int32} {f_deep_12 : Int32} {f_value_13 : Int64} {f_broadMany_14 : Int32} {g15 : Nat → Int32} {j16 : Nat}
  (a1 : hat h 102 (oC 9 [.ref 103, .int f_status_1, .int f_acts_2, .int f_marks_3, .ref 104, .ref 105, .ref 106, .int f_taped_4, .int f_size_5, .int f_token_6, .int f_begin_7, .int f_end_8, .int f_faults_9, .int f_faultPlace_10, .int f_faultKind_11, .int f_deep_12, .long f_value_13, .ref 107, .ref 108, .ref 109, .ref 116, .int f_broadMany_14, .ref 124, .ref 125]))
  (a2 : hat h 116 (aG 7 (fun i => if i < 7 then some (116 + 1 + i) else none)))
  (a3 : hat h (116 + 1 + 0) (aI 56 g15))
  (i4 : ¬ x7 < f_broadMany_14 → ev_ix (x3 + (1 : Int32)) j16 56)
  (k1 : x7 < f_broadMany_14 → Ev G (d + 1) k n M_Mo_budgetsOf 253 [.ref 102, .long x1, ev_unk, .int x3, .long x4, ev_unk, .int x6, .int x7, .int (0 : Int32)] [] h R)
  (k2 : ¬ x7 < f_broadMany_14 → R (some (.int (g15 j16))) h)
  : Ev G (d + 1) k n M_Mo_budgetsOf 241 [.ref 102, .long x1, ev_unk, .int x3, .long x4, ev_unk, .int x6, .int x7, ev_unk] [] h R :=
  Ev.go (pc' := 244) (ls' := [.ref 102, .long x1, ev_unk, .int x3, .long x4, ev_unk, .int x6, .int x7, ev_unk]) (st' := [.ref 102, .int x7]) [.iload 7, .aload_n 0] (by decide +kernel) rfl <|
  Ev.getf f_Mo_295 (by decide +kernel) a1 rfl <|
  Ev.br (i := .if_icmp .ge (75)) (P := x7 < f_broadMany_14) (t := 250) (f := 322) (r := []) (by decide +kernel) rfl (fun c1 =>
    Ev.go (pc' := 253) (ls' := [.ref 102, .long x1, ev_unk, .int x3, .long x4, ev_unk, .int x6, .int x7, .int (0 : Int32)]) (st' := []) [.iconst 0, .istore 8] (by decide +kernel) rfl <|
    (k1 c1)
  ) (fun c1 =>
    Ev.go (pc' := 323) (ls' := [.ref 102, .long x1, ev_unk, .int x3, .long x4, ev_unk, .int x6, .int x7, ev_unk]) (st' := [.ref 102]) [.aload_n 0] (by decide +kernel) rfl <|
    Ev.getf f_Mo_42 (by decide +kernel) a1 rfl <|
    Ev.go (pc' := 327) (ls' := [.ref 102, .long x1, ev_unk, .int x3, .long x4, ev_unk, .int x6, .int x7, ev_unk]) (st' := [.int (0 : Int32), .ref 116]) [.iconst 0] (by decide +kernel) rfl <|
    Ev.gald (j := 0) (b := 116 + 1 + 0) (by decide +kernel) a2 (show ev_ix (0 : Int32) 0 7 from ⟨rfl, by decide, by decide⟩) (if_pos (show 0 < 7 from ((show ev_ix (0 : Int32) 0 7 from ⟨rfl, by decide, by decide⟩)).2.1)) <|
    Ev.go (pc' := 331) (ls' := [.ref 102, .long x1, ev_unk, .int x3, .long x4, ev_unk, .int x6, .int x7, ev_unk]) (st' := [.int (x3 + (1 : Int32)), .ref (116 + 1 + 0)]) [.iload_n 3, .iconst 1, .iadd] (by decide +kernel) rfl <|
    Ev.iald (j := j16) (by decide +kernel) a3 (i4 c1) <|
    Ev.ret (r := (some (.int (g15 j16)))) (Or.inl ⟨_, rfl, by decide +kernel, _, rfl, rfl⟩) (k2 c1)
  )
theorem b_Mo_budgetsOf_253 {G : ev_G} {d k n : Nat} {h : ev_H} {R : Option Value → ev_H → Prop} {x1 : Int64} {x3 : Int32} {x4 : Int64} {x6 : Int32} {x7 : Int32} {x8 : Int32} {f_status_1 : Int32} {f_acts_2 : Int32} {f_marks_3 : Int32} {f_taped_4 : Int32} {f_size_5 : Int32} {f_token_6 : Int32} {f_begin_7 : Int32} {f_end_8 : Int32} {f_faults_9 : Int32} {f_faultPlace_10 : Int32} {f_faultKind_11 : Int32} {f_deep_12 : Int32} {f_value_13 : Int64} {f_broadMany_14 : Int32} {j15 : Nat} {g16 : Nat → Int32} {j17 : Nat} {j18 : Nat} {g19 : Nat → Int32} {j20 : Nat} {g21 : Nat → Int32} {j22 : Nat} {g23 : Nat → Int32}
  (a1 : hat h 102 (oC 9 [.ref 103, .int f_status_1, .int f_acts_2, .int f_marks_3, .ref 104, .ref 105, .ref 106, .int f_taped_4, .int f_size_5, .int f_token_6, .int f_begin_7, .int f_end_8, .int f_faults_9, .int f_faultPlace_10, .int f_faultKind_11, .int f_deep_12, .long f_value_13, .ref 107, .ref 108, .ref 109, .ref 116, .int f_broadMany_14, .ref 124, .ref 125]))
  (a2 : hat h 109 (aG 6 (fun i => if i < 6 then some (109 + 1 + i) else none)))
  (a4 : hat h (109 + 1 + j15) (aI 26 g16))
  (a6 : hat h 116 (aG 7 (fun i => if i < 7 then some (116 + 1 + i) else none)))
  (a8 : hat h (116 + 1 + j18) (aI 56 g19))
  (a11 : hat h (116 + 1 + j15) (aI 56 g21))
  (a13 : hat h 108 (aI 6 g23))
  (i3 : ev_ix x7 j15 6)
  (i5 : ev_ix x8 j17 26)
  (i7 : ev_ix (x7 + (1 : Int32)) j18 7)
  (i9 : ev_ix (x6 - x8) j20 56)
  (i10 : ev_ix x7 j15 7)
  (i12 : ev_ix x6 j22 56)
  (i14 : ((g16 j17) + (g19 j20)) = (g21 j22) → ev_ix x7 j15 6)
  (e15 : ((g16 j17) + (g19 j20)) = (g21 j22) → (109 + 1 + j15) ≠ 108)
  (e16 : ((g16 j17) + (g19 j20)) = (g21 j22) → (116 + 1 + j18) ≠ 108)
  (e17 : ((g16 j17) + (g19 j20)) = (g21 j22) → (116 + 1 + j15) ≠ 108)
  (k1 : ((g16 j17) + (g19 j20)) = (g21 j22) → Ev G (d + 1) k n M_Mo_budgetsOf 241 [.ref 102, .long x1, ev_unk, .int x3, .long x4, ev_unk, .int (x6 - x8), .int (x7 + (1 : Int32)), ev_unk] [] (hset h 108 (aI 6 (upd g23 j15 (x8 - (1 : Int32))))) R)
  (k2 : ¬ ((g16 j17) + (g19 j20)) = (g21 j22) → Ev G (d + 1) k n M_Mo_budgetsOf 253 [.ref 102, .long x1, ev_unk, .int x3, .long x4, ev_unk, .int x6, .int x7, .int (x8 + (1 : Int32))] [] h R)
  : Ev G (d + 1) k n M_Mo_budgetsOf 253 [.ref 102, .long x1, ev_unk, .int x3, .long x4, ev_unk, .int x6, .int x7, .int x8] [] h R :=
  Ev.go (pc' := 254) (ls' := [.ref 102, .long x1, ev_unk, .int x3, .long x4, ev_unk, .int x6, .int x7, .int x8]) (st' := [.ref 102]) [.aload_n 0] (by decide +kernel) rfl <|
  Ev.getf f_Mo_39 (by decide +kernel) a1 rfl <|
  Ev.go (pc' := 259) (ls' := [.ref 102, .long x1, ev_unk, .int x3, .long x4, ev_unk, .int x6, .int x7, .int x8]) (st' := [.int x7, .ref 109]) [.iload 7] (by decide +kernel) rfl <|
  Ev.gald (j := j15) (b := 109 + 1 + j15) (by decide +kernel) a2 i3 (if_pos (show j15 < 6 from (i3).2.1)) <|
  Ev.go (pc' := 262) (ls' := [.ref 102, .long x1, ev_unk, .int x3, .long x4, ev_unk, .int x6, .int x7, .int x8]) (st' := [.int x8, .ref (109 + 1 + j15)]) [.iload 8] (by decide +kernel) rfl <|
  Ev.iald (j := j17) (by decide +kernel) a4 i5 <|
  Ev.go (pc' := 264) (ls' := [.ref 102, .long x1, ev_unk, .int x3, .long x4, ev_unk, .int x6, .int x7, .int x8]) (st' := [.ref 102, .int (g16 j17)]) [.aload_n 0] (by decide +kernel) rfl <|
  Ev.getf f_Mo_42 (by decide +kernel) a1 rfl <|
  Ev.go (pc' := 271) (ls' := [.ref 102, .long x1, ev_unk, .int x3, .long x4, ev_unk, .int x6, .int x7, .int x8]) (st' := [.int (x7 + (1 : Int32)), .ref 116, .int (g16 j17)]) [.iload 7, .iconst 1, .iadd] (by decide +kernel) rfl <|
  Ev.gald (j := j18) (b := 116 + 1 + j18) (by decide +kernel) a6 i7 (if_pos (show j18 < 7 from (i7).2.1)) <|
  Ev.go (pc' := 277) (ls' := [.ref 102, .long x1, ev_unk, .int x3, .long x4, ev_unk, .int x6, .int x7, .int x8]) (st' := [.int (x6 - x8), .ref (116 + 1 + j18), .int (g16 j17)]) [.iload 6, .iload 8, .isub] (by decide +kernel) rfl <|
  Ev.iald (j := j20) (by decide +kernel) a8 i9 <|
  Ev.go (pc' := 280) (ls' := [.ref 102, .long x1, ev_unk, .int x3, .long x4, ev_unk, .int x6, .int x7, .int x8]) (st' := [.ref 102, .int ((g16 j17) + (g19 j20))]) [.iadd, .aload_n 0] (by decide +kernel) rfl <|
  Ev.getf f_Mo_42 (by decide +kernel) a1 rfl <|
  Ev.go (pc' := 285) (ls' := [.ref 102, .long x1, ev_unk, .int x3, .long x4, ev_unk, .int x6, .int x7, .int x8]) (st' := [.int x7, .ref 116, .int ((g16 j17) + (g19 j20))]) [.iload 7] (by decide +kernel) rfl <|
  Ev.gald (j := j15) (b := 116 + 1 + j15) (by decide +kernel) a6 i10 (if_pos (show j15 < 7 from (i10).2.1)) <|
  Ev.go (pc' := 288) (ls' := [.ref 102, .long x1, ev_unk, .int x3, .long x4, ev_unk, .int x6, .int x7, .int x8]) (st' := [.int x6, .ref (116 + 1 + j15), .int ((g16 j17) + (g19 j20))]) [.iload 6] (by decide +kernel) rfl <|
  Ev.iald (j := j22) (by decide +kernel) a11 i12 <|
  Ev.br (i := .if_icmp .eq (9)) (P := ((g16 j17) + (g19 j20)) = (g21 j22)) (t := 298) (f := 292) (r := []) (by decide +kernel) rfl (fun c1 =>
    Ev.go (pc' := 299) (ls' := [.ref 102, .long x1, ev_unk, .int x3, .long x4, ev_unk, .int x6, .int x7, .int x8]) (st' := [.ref 102]) [.aload_n 0] (by decide +kernel) rfl <|
    Ev.getf f_Mo_34 (by decide +kernel) a1 rfl <|
    Ev.go (pc' := 308) (ls' := [.ref 102, .long x1, ev_unk, .int x3, .long x4, ev_unk, .int x6, .int x7, .int x8]) (st' := [.int (x8 - (1 : Int32)), .int x7, .ref 108]) [.iload 7, .iload 8, .iconst 1, .isub] (by decide +kernel) rfl <|
    Ev.iast (j := j15) (by decide +kernel) a13 (i14 c1) <| show Ev G (d + 1) _ _ M_Mo_budgetsOf 309 [.ref 102, .long x1, ev_unk, .int x3, .long x4, ev_unk, .int x6, .int x7, .int x8] [] (hset h 108 (aI 6 (upd g23 j15 (x8 - (1 : Int32))))) R from
    Ev.go (pc' := 241) (ls' := [.ref 102, .long x1, ev_unk, .int x3, .long x4, ev_unk, .int (x6 - x8), .int (x7 + (1 : Int32)), .int x8]) (st' := []) [.iload 6, .iload 8, .isub, .istore 6, .iinc 7 (1), .goto (-78)] (by decide +kernel) rfl <|
    Ev.forget (ls' := [.ref 102, .long x1, ev_unk, .int x3, .long x4, ev_unk, .int (x6 - x8), .int (x7 + (1 : Int32)), ev_unk]) ⟨Or.inr rfl, Or.inr rfl, Or.inr rfl, Or.inr rfl, Or.inr rfl, Or.inr rfl, Or.inr rfl, Or.inr rfl, Or.inl rfl, trivial⟩ <|
    (k1 c1)
  ) (fun c1 =>
    Ev.go (pc' := 253) (ls' := [.ref 102, .long x1, ev_unk, .int x3, .long x4, ev_unk, .int x6, .int x7, .int (x8 + (1 : Int32))]) (st' := []) [.iinc 8 (1), .goto (-42)] (by decide +kernel) rfl <|
    (k2 c1)
  )
section S57
variable {G : ev_G} {d : Nat} {h h1 : ev_H} {R : Option Value → ev_H → Prop} {Q : QS} {P : Nat} {W : Nat → Nat}
theorem MX.row109 {i : Nat} (X : MX h) (hi : i < 6) (K : Kp h h1 (109 + 1 + i) (109 + 1 + i + 1)) (g : ∃ g, hat h1 (109 + 1 + i) (aI 26 g)) : MX h1 := by
  obtain ⟨⟨g1, a1⟩, ⟨g2, a2⟩, ⟨g3, a3⟩, ⟨g4, a4⟩, a5, a6, a7, a8, ⟨g9, a9⟩, ⟨g10, a10⟩⟩ := X
  refine ⟨⟨_, K.hat a1 (by omega)⟩, ⟨_, K.hat a2 (by omega)⟩, ⟨_, K.hat a3 (by omega)⟩, ⟨_, K.hat a4 (by omega)⟩, K.hat a5 (by omega), fun j hj => ?_, K.hat a7 (by omega), fun j hj => ⟨_, K.hat (a8 j hj).choose_spec (by omega)⟩, ⟨_, K.hat a9 (by omega)⟩, ⟨_, K.hat a10 (by omega)⟩⟩
  by_cases c : j = i
  · subst c; exact g
  · exact ⟨_, K.hat (a6 j hj).choose_spec (by omega)⟩
theorem MX.row116 {i : Nat} (X : MX h) (hi : i < 7) (K : Kp h h1 (116 + 1 + i) (116 + 1 + i + 1)) (g : ∃ g, hat h1 (116 + 1 + i) (aI 56 g)) : MX h1 := by
  obtain ⟨⟨g1, a1⟩, ⟨g2, a2⟩, ⟨g3, a3⟩, ⟨g4, a4⟩, a5, a6, a7, a8, ⟨g9, a9⟩, ⟨g10, a10⟩⟩ := X
  refine ⟨⟨_, K.hat a1 (by omega)⟩, ⟨_, K.hat a2 (by omega)⟩, ⟨_, K.hat a3 (by omega)⟩, ⟨_, K.hat a4 (by omega)⟩, K.hat a5 (by omega), fun j hj => ⟨_, K.hat (a6 j hj).choose_spec (by omega)⟩, K.hat a7 (by omega), fun j hj => ?_, ⟨_, K.hat a9 (by omega)⟩, ⟨_, K.hat a10 (by omega)⟩⟩
  by_cases c : j = i
  · subst c; exact g
  · exact ⟨_, K.hat (a8 j hj).choose_spec (by omega)⟩
theorem BR.row109 {i : Nat} (B : BR h Q P W) (hi : i < 6) (K : Kp h h1 (109 + 1 + i) (109 + 1 + i + 1)) (g : ∃ g, hat h1 (109 + 1 + i) (aI 26 g)) : BR h1 Q P W := by
  obtain ⟨H, z, g3, m1, m3, hg⟩ := B
  exact ⟨H.work (K.wide (by omega) (by omega)) (K.2 105 (by have := H.num; omega) (by omega)) (H.mx.row109 hi K g), z, g3, K.hat m1 (by omega), K.hat m3 (by omega), hg⟩
theorem BR.row116 {i : Nat} (B : BR h Q P W) (hi : i < 7) (K : Kp h h1 (116 + 1 + i) (116 + 1 + i + 1)) (g : ∃ g, hat h1 (116 + 1 + i) (aI 56 g)) : BR h1 Q P W := by
  obtain ⟨H, z, g3, m1, m3, hg⟩ := B
  exact ⟨H.work (K.wide (by omega) (by omega)) (K.2 105 (by have := H.num; omega) (by omega)) (H.mx.row116 hi K g), z, g3, K.hat m1 (by omega), K.hat m3 (by omega), hg⟩
/-- the first rows hold the costs -/
def CT (h : ev_H) (W : Nat → Nat) (c : Nat → Nat → Nat) (k : Nat) : Prop := ∀ i, i < k → ∃ g, hat h (109 + 1 + i) (aI 26 g) ∧ ∀ s, s ≤ W i + 1 → g s = nI (c i s)
theorem CT.kp {c : Nat → Nat → Nat} {k lo hi : Nat} (C : CT h W c k) (K : Kp h h1 lo hi) (q : hi ≤ 110 ∨ 109 + 1 + k ≤ lo) : CT h1 W c k := fun i hi => by
  obtain ⟨g, a, b⟩ := C i hi
  exact ⟨g, K.hat a (by omega), b⟩
theorem s_costs {x : Int64} {rI : Int32} {q : Nat → Bool} (B : BR h Q P W) (w : wOk P W) (hq : ∀ j, q j = true → j < sN (qS Q)) (go : ∀ h', Kp h h' 110 116 → BR h' Q P W → CT h' W (cstN q (sCo (qS Q)) x W) P → Ev G (d + 3) 0 0 M_Mo_budgetsOf 67 [.ref 102, .long x, ev_unk, .int rI, .long (setL q), ev_unk, .int (nI 0), ev_unk, ev_unk] [] h' R) : Ev G (d + 3) 0 0 M_Mo_budgetsOf 0 [.ref 102, .long x, ev_unk, .int rI, .long (setL q), ev_unk, ev_unk, ev_unk, ev_unk] [] h R := by
  have P6 := w.2.1
  refine b_Mo_budgetsOf_0 (d := d + 2) ?_
  have L := up_to (P := fun i => ∀ h', Kp h h' 110 116 → BR h' Q P W → CT h' W (cstN q (sCo (qS Q)) x W) i → Ev G (d + 3) 0 0 M_Mo_budgetsOf 3 [.ref 102, .long x, ev_unk, .int rI, .long (setL q), ev_unk, .int (nI i), ev_unk, ev_unk] [] h' R) (N := P) ?_ ?_ 0 (Nat.zero_le _)
  · exact L h (Kp.refl _ _ _) B fun i hi => absurd hi (Nat.not_lt_zero i)
  · intro i hi ih h1 K1 B C
    obtain ⟨H, z, g3, m1, m3, hg⟩ := id B
    have w24 := w.2.2.1 i hi
    have yes : nI i < nI P := nI_lt hi (by omega)
    refine b_Mo_budgetsOf_3 (d := d + 2) m1 (fun _ => ?_) (fun c => absurd yes c)
    have L2 := up_to (P := fun s => ∀ h' g, Kp h h' 110 116 → BR h' Q P W → CT h' W (cstN q (sCo (qS Q)) x W) i → hat h' (109 + 1 + i) (aI 26 g) → (∀ s', s' < s → g s' = nI (cstN q (sCo (qS Q)) x W i s')) → Ev G (d + 3) 0 0 M_Mo_budgetsOf 15 [.ref 102, .long x, ev_unk, .int rI, .long (setL q), ev_unk, .int (nI i), .int (nI s), ev_unk] [] h' R) (N := W i + 2) ?_ ?_ 0 (Nat.zero_le _)
    · obtain ⟨g, mg⟩ := H.mx.2.2.2.2.2.1 i (by omega)
      exact L2 h1 g K1 B C mg fun s hs => absurd hs (Nat.not_lt_zero s)
    · intro s hs ih2 h2 g K2 B C mg hs'
      obtain ⟨H, z, g3, m1, m3, hg⟩ := id B
      have no : ¬ g3 i + (1 : Int32) < nI s := by rw [hg i hi, nI_1]; exact nI_nlt (by omega) (by omega)
      refine b_Mo_budgetsOf_15 (d := d + 2) (j16 := i) m1 m3 H.mx.2.2.2.2.1 (ixn (by omega) (by omega)) (fun _ => ixn (by omega) (by omega)) (fun c => absurd c no) (fun _ => ?_)
      refine s_Mo_costOf (d := d) B w hi (by omega) hq ?_
      refine b_Mo_budgetsOf_51 (d := d + 2) (j2 := s) mg (ixn (by omega) (by omega)) ?_
      rw [nI_1]
      have K5 : Kp h2 (hset h2 (109 + 1 + i) (aI 26 (upd g s (nI (cstN q (sCo (qS Q)) x W i s))))) (109 + 1 + i) (109 + 1 + i + 1) := (Kp.refl h2 _ _).set _ (by omega) (by omega)
      have m5 := hat_set mg (c' := aI 26 (upd g s (nI (cstN q (sCo (qS Q)) x W i s))))
      refine ih2 _ _ (K2.trans (K5.wide (by omega) (by omega))) (B.row109 (by omega) K5 ⟨_, m5⟩) (C.kp K5 (by omega)) m5 fun s' hs2 => ?_
      show (if s' = s then _ else g s') = _
      by_cases c : s' = s
      · subst c; rw [if_pos rfl]
      · rw [if_neg c]; exact hs' s' (by omega)
    · intro h2 g K2 B C mg hs'
      obtain ⟨H, z, g3, m1, m3, hg⟩ := id B
      have yes : g3 i + (1 : Int32) < nI (W i + 2) := by rw [hg i hi, nI_1]; exact nI_lt (by omega) (by omega)
      refine b_Mo_budgetsOf_15 (d := d + 2) (j16 := i) m1 m3 H.mx.2.2.2.2.1 (ixn (by omega) (by omega)) (fun _ => ixn (by omega) (by omega)) (fun _ => ?_) (fun c => absurd yes c)
      rw [nI_1]
      refine ih h2 K2 B fun i' hi' => ?_
      by_cases c : i' = i
      · subst c
        exact ⟨g, mg, fun s hs => hs' s (by omega)⟩
      · exact C i' (by omega)
  · intro h1 K1 B C
    obtain ⟨H, z, g3, m1, m3, hg⟩ := id B
    have no := nl_self (n := P) (by omega)
    refine b_Mo_budgetsOf_3 (d := d + 2) m1 (fun c => absurd c no) (fun _ => ?_)
    exact go h1 K1 B C
/-- the least costs of the last t parts, up to r + 1 -/
def LT (h : ev_H) (W : Nat → Nat) (c : Nat → Nat → Nat) (P r t : Nat) : Prop := ∀ t', t' ≤ t → ∃ g, hat h (116 + 1 + (P - t')) (aI 56 g) ∧ ∀ s, s ≤ r + 1 → g s = nI (mLt c W P t' s)
theorem s_least0 {x : Int64} {r : Nat} {q : Nat → Bool} {c : Nat → Nat → Nat} (B : BR h Q P W) (w : wOk P W) (hr : r ≤ 48) (C : CT h W c P) (go : ∀ h', Kp h h' 117 124 → BR h' Q P W → CT h' W c P → LT h' W c P r 0 → Ev G (d + 3) 0 0 M_Mo_budgetsOf 113 [.ref 102, .long x, ev_unk, .int (nI r), .long (setL q), ev_unk, .int (nI P - 1), ev_unk, ev_unk] [] h' R) : Ev G (d + 3) 0 0 M_Mo_budgetsOf 67 [.ref 102, .long x, ev_unk, .int (nI r), .long (setL q), ev_unk, .int (nI 0), ev_unk, ev_unk] [] h R := by
  have P6 := w.2.1
  have i7 : ev_ix (nI P) P 7 := ixn (by omega) (by omega)
  refine up_to (P := fun s => ∀ h' g, Kp h h' 117 124 → BR h' Q P W → CT h' W c P → hat h' (116 + 1 + P) (aI 56 g) → (∀ s', s' < s → g s' = nI (if s' = 0 then 0 else 1000000)) → Ev G (d + 3) 0 0 M_Mo_budgetsOf 67 [.ref 102, .long x, ev_unk, .int (nI r), .long (setL q), ev_unk, .int (nI s), ev_unk, ev_unk] [] h' R) (N := r + 2) ?_ ?_ 0 (Nat.zero_le _) h (B.1.mx.2.2.2.2.2.2.2.1 P (by omega)).choose (Kp.refl _ _ _) B C (B.1.mx.2.2.2.2.2.2.2.1 P (by omega)).choose_spec (fun s hs => absurd hs (Nat.not_lt_zero s))
  · intro s hs ih h1 g K1 B C mg hg
    obtain ⟨H, z, g3, m1, m3, -⟩ := id B
    have no : ¬ nI r + (1 : Int32) < nI s := by rw [nI_1]; exact nI_nlt (by omega) (by omega)
    have step : ∀ y, nI (if s = 0 then 0 else 1000000) = y → Ev G (d + 3) 0 0 M_Mo_budgetsOf 67 [.ref 102, .long x, ev_unk, .int (nI r), .long (setL q), ev_unk, .int (nI s + 1), ev_unk, ev_unk] [] (hset h1 (116 + 1 + P) (aI 56 (upd g s y))) R := fun y ey => by
      have K5 : Kp h1 (hset h1 (116 + 1 + P) (aI 56 (upd g s y))) (116 + 1 + P) (116 + 1 + P + 1) := (Kp.refl h1 _ _).set _ (by omega) (by omega)
      have m5 := hat_set mg (c' := aI 56 (upd g s y))
      rw [nI_1]
      refine ih _ _ (K1.trans (K5.wide (by omega) (by omega))) (B.row116 (by omega) K5 ⟨_, m5⟩) (C.kp K5 (by omega)) m5 fun s' hs' => ?_
      show (if s' = s then y else g s') = _
      by_cases k : s' = s
      · subst k; rw [if_pos rfl, ey]
      · rw [if_neg k]; exact hg s' (by omega)
    refine b_Mo_budgetsOf_67 (d := d + 2) (j15 := P) (j17 := s) m1 H.mx.2.2.2.2.2.2.1 mg (fun _ => i7) (fun _ _ => ixn (by omega) (by omega)) (fun _ _ => by omega) (fun _ _ => by omega) (fun _ _ => ixn (by omega) (by omega)) (fun _ _ => by omega) (fun _ _ => by omega) (fun k => absurd k no) (fun _ k => ?_) (fun _ k => ?_)
    · exact step 0 (by rw [if_pos ((nI_eq (b := 0) (by omega) (by omega)).mp k)]; rfl)
    · exact step 1000000 (by rw [if_neg (fun y => k (by rw [y]; rfl))]; rfl)
  · intro h1 g K1 B C mg hg
    obtain ⟨H, z, g3, m1, m3, -⟩ := id B
    have yes : nI r + (1 : Int32) < nI (r + 2) := by rw [nI_1]; exact nI_lt (by omega) (by omega)
    refine b_Mo_budgetsOf_67 (d := d + 2) (j15 := P) (j17 := 0) m1 H.mx.2.2.2.2.2.2.1 mg (fun _ => i7) (fun k => absurd yes k) (fun _ _ => by omega) (fun _ _ => by omega) (fun k => absurd yes k) (fun _ _ => by omega) (fun _ _ => by omega) (fun _ => ?_) (fun k => absurd yes k) (fun k => absurd yes k)
    refine go h1 K1 B C fun t ht => ?_
    obtain rfl : t = 0 := by omega
    exact ⟨g, mg, fun s hs => hg s (by omega)⟩
theorem mLt_le {c : Nat → Nat → Nat} : ∀ t s, mLt c W P t s ≤ 1000000
  | 0, s => by
    show (if s = 0 then 0 else 1000000) ≤ 1000000
    split <;> omega
  | t + 1, s => mnC_le _ _
theorem LT.kp {c : Nat → Nat → Nat} {r t lo hi : Nat} (L : LT h W c P r t) (K : Kp h h1 lo hi) (q : ∀ t', t' ≤ t → 116 + 1 + (P - t') < lo ∨ hi ≤ 116 + 1 + (P - t')) : LT h1 W c P r t := fun t' ht => by
  obtain ⟨g, a, b⟩ := L t' ht
  exact ⟨g, K.hat a (q t' ht), b⟩
theorem s_leasts {x : Int64} {r : Nat} {q : Nat → Bool} {c : Nat → Nat → Nat} (B : BR h Q P W) (w : wOk P W) (hr : r ≤ 48) (hc : cOk c P) (C : CT h W c P) (L0 : LT h W c P r 0) (go : ∀ h', Kp h h' 117 124 → BR h' Q P W → CT h' W c P → LT h' W c P r P → Ev G (d + 3) 0 0 M_Mo_budgetsOf 241 [.ref 102, .long x, ev_unk, .int (nI r), .long (setL q), ev_unk, .int (nI (r + 1)), .int (nI 0), ev_unk] [] h' R) : Ev G (d + 3) 0 0 M_Mo_budgetsOf 113 [.ref 102, .long x, ev_unk, .int (nI r), .long (setL q), ev_unk, .int (nI P - 1), ev_unk, ev_unk] [] h R := by
  have P6 := w.2.1
  have A := up_to (P := fun t => ∀ h', Kp h h' 117 124 → BR h' Q P W → CT h' W c P → LT h' W c P r t → Ev G (d + 3) 0 0 M_Mo_budgetsOf 113 [.ref 102, .long x, ev_unk, .int (nI r), .long (setL q), ev_unk, .int (nI (P - t) - 1), ev_unk, ev_unk] [] h' R) (N := P) ?_ ?_ 0 (Nat.zero_le _)
  · exact A h (Kp.refl _ _ _) B C L0
  · intro t ht ih h1 K1 B C L
    obtain ⟨i, ei⟩ : ∃ i, P - t = i + 1 := ⟨P - t - 1, by omega⟩
    have iP : i < P := by omega
    have ei1 : P - (t + 1) = i := by omega
    have w24 := w.2.2.1 i iP
    rw [ei, nI_pred]
    rw [ei1] at ih
    refine b_Mo_budgetsOf_113 (d := d + 2) (fun k => absurd k (nI_pos (by omega))) (fun _ => ?_)
    have mrow : ∀ s, mLt c W P (t + 1) s = mnC (fun b => c i b + mLt c W P t (s - b)) (min s (W i + 1) + 1) := fun s => by
      show mnC (fun b => c (P - (t + 1)) b + mLt c W P t (s - b)) (min s (W (P - (t + 1)) + 1) + 1) = _
      rw [ei1]
    have rows : ∀ t', t' ≤ t → 116 + 1 + (P - t') < 116 + 1 + i ∨ 116 + 1 + i + 1 ≤ 116 + 1 + (P - t') := fun t' h => Or.inr (by omega)
    have L2 := up_to (P := fun s => ∀ h' g, Kp h h' 117 124 → BR h' Q P W → CT h' W c P → LT h' W c P r t → hat h' (116 + 1 + i) (aI 56 g) → (∀ s', s' < s → g s' = nI (mLt c W P (t + 1) s')) → Ev G (d + 3) 0 0 M_Mo_budgetsOf 121 [.ref 102, .long x, ev_unk, .int (nI r), .long (setL q), ev_unk, .int (nI i), .int (nI s), ev_unk] [] h' R) (N := r + 2) ?_ ?_ 0 (Nat.zero_le _)
    · obtain ⟨g, mg⟩ := B.1.mx.2.2.2.2.2.2.2.1 i (by omega)
      exact L2 h1 g K1 B C L mg fun s hs => absurd hs (Nat.not_lt_zero s)
    · intro s hs ih2 h2 g K2 B C L mg hg
      obtain ⟨H, z, g3, m1, m3, -⟩ := id B
      have no : ¬ nI r + (1 : Int32) < nI s := by rw [nI_1]; exact nI_nlt (by omega) (by omega)
      refine b_Mo_budgetsOf_121 (d := d + 2) (j15 := i) (j17 := s) m1 H.mx.2.2.2.2.2.2.1 mg (fun _ => ixn (by omega) (by omega)) (fun _ => ixn (by omega) (by omega)) (fun _ => by omega) (fun _ => by omega) (fun k => absurd k no) (fun _ => ?_)
      have K5 : Kp h2 (hset h2 (116 + 1 + i) (aI 56 (upd g s 1000000))) (116 + 1 + i) (116 + 1 + i + 1) := (Kp.refl h2 _ _).set _ (by omega) (by omega)
      have m5 := hat_set mg (c' := aI 56 (upd g s 1000000))
      have L3 := up_to (P := fun b => ∀ h' g, Kp h h' 117 124 → BR h' Q P W → CT h' W c P → LT h' W c P r t → hat h' (116 + 1 + i) (aI 56 g) → (∀ s', s' < s → g s' = nI (mLt c W P (t + 1) s')) → g s = nI (mnC (fun b => c i b + mLt c W P t (s - b)) b) → Ev G (d + 3) 0 0 M_Mo_budgetsOf 145 [.ref 102, .long x, ev_unk, .int (nI r), .long (setL q), ev_unk, .int (nI i), .int (nI s), .int (nI b)] [] h' R) (N := min s (W i + 1) + 1) ?_ ?_ 0 (Nat.zero_le _)
      · refine L3 _ _ (K2.trans (K5.wide (by omega) (by omega))) (B.row116 (by omega) K5 ⟨_, m5⟩) (C.kp K5 (by omega)) (L.kp K5 rows) m5 (fun s' hs' => (if_neg (by omega)).trans (hg s' hs')) (if_pos rfl)
      · intro b hb ih3 h3 g K3 B C L mg hg hgs
        obtain ⟨H, z, g3, m1, m3, hg3⟩ := id B
        obtain ⟨gc, mc, vc⟩ := C i iP
        obtain ⟨gl, ml, vl⟩ := L t (Nat.le_refl _)
        rw [ei] at ml
        have n1 : ¬ g3 i + (1 : Int32) < nI b := by rw [hg3 i iP, nI_1]; exact nI_nlt (by omega) (by omega)
        have n2 : ¬ nI s < nI b := nI_nlt (by omega) (by omega)
        refine b_Mo_budgetsOf_145 (d := d + 2) (j16 := i) (j18 := s) (j20 := b) (j21 := i + 1) (j23 := s - b) m1 m3 H.mx.2.2.2.2.2.2.1 mg H.mx.2.2.2.2.1 mc ml (ixn (by omega) (by omega)) (fun _ _ => ixn (by omega) (by omega)) (fun _ _ => ixn (by omega) (by omega)) (fun _ _ => ixn (by omega) (by omega)) (fun _ _ => ixn (by omega) (by omega)) (fun _ _ => ⟨nI_1 i, by omega, by omega⟩) (fun _ _ => ⟨nI_sub (by omega), by omega, by omega⟩) (fun _ _ => by omega) (fun _ _ => by omega) (fun _ _ => by omega) (fun _ _ => by omega) (fun _ _ => by omega) (fun _ _ => by omega) (fun k => absurd k n1) (fun _ k => absurd k n2) (fun _ _ => ?_)
        have cb := (hc i iP).2 b
        have lb := mLt_le (P := P) (W := W) (c := c) t (s - b)
        have mb := mnC_le (fun b => c i b + mLt c W P t (s - b)) b
        have st : mnC (fun b => c i b + mLt c W P t (s - b)) (b + 1) = min (mnC (fun b => c i b + mLt c W P t (s - b)) b) (c i b + mLt c W P t (s - b)) := rfl
        have ev : (if gc b + gl (s - b) < g s then gc b + gl (s - b) else g s) = nI (mnC (fun b => c i b + mLt c W P t (s - b)) (b + 1)) := by
          rw [vc b (by omega), vl (s - b) (by omega), hgs, nI_add, st]
          by_cases k : c i b + mLt c W P t (s - b) < mnC (fun b => c i b + mLt c W P t (s - b)) b
          · rw [if_pos (nI_lt k (by omega)), Nat.min_eq_right (by omega)]
          · rw [if_neg (fun y => k ((nI_ltI (by omega) (by omega)).mp y)), Nat.min_eq_left (by omega)]
        rw [ev, nI_1]
        have K5 : Kp h3 (hset h3 (116 + 1 + i) (aI 56 (upd g s (nI (mnC (fun b => c i b + mLt c W P t (s - b)) (b + 1)))))) (116 + 1 + i) (116 + 1 + i + 1) := (Kp.refl h3 _ _).set _ (by omega) (by omega)
        have m5 := hat_set mg (c' := aI 56 (upd g s (nI (mnC (fun b => c i b + mLt c W P t (s - b)) (b + 1)))))
        exact ih3 _ _ (K3.trans (K5.wide (by omega) (by omega))) (B.row116 (by omega) K5 ⟨_, m5⟩) (C.kp K5 (by omega)) (L.kp K5 rows) m5 (fun s' hs' => (if_neg (by omega)).trans (hg s' hs')) (if_pos rfl)
      · intro h3 g K3 B C L mg hg hgs
        obtain ⟨H, z, g3, m1, m3, hg3⟩ := id B
        obtain ⟨gc, mc, vc⟩ := C i iP
        obtain ⟨gl, ml, vl⟩ := L t (Nat.le_refl _)
        rw [ei] at ml
        rw [← mrow] at hgs
        have next : Ev G (d + 3) 0 0 M_Mo_budgetsOf 121 [.ref 102, .long x, ev_unk, .int (nI r), .long (setL q), ev_unk, .int (nI i), .int (nI s + 1), ev_unk] [] h3 R := by
          rw [nI_1]
          refine ih2 h3 g K3 B C L mg fun s' hs' => ?_
          by_cases k : s' = s
          · subst k; exact hgs
          · exact hg s' (by omega)
        have yes : ¬ g3 i + (1 : Int32) < nI (min s (W i + 1) + 1) → nI s < nI (min s (W i + 1) + 1) := fun k => by
          rw [hg3 i iP, nI_1] at k
          have : ¬ W i + 1 < min s (W i + 1) + 1 := fun y => k (nI_lt y (by omega))
          exact nI_lt (by omega) (by omega)
        refine b_Mo_budgetsOf_145 (d := d + 2) (j16 := i) (j18 := 0) (j20 := 0) (j21 := i + 1) (j23 := 0) m1 m3 H.mx.2.2.2.2.2.2.1 mg H.mx.2.2.2.2.1 mc ml (ixn (by omega) (by omega)) (fun a b => absurd (yes a) b) (fun a b => absurd (yes a) b) (fun a b => absurd (yes a) b) (fun a b => absurd (yes a) b) (fun a b => absurd (yes a) b) (fun a b => absurd (yes a) b) (fun a b => absurd (yes a) b) (fun a b => absurd (yes a) b) (fun a b => absurd (yes a) b) (fun a b => absurd (yes a) b) (fun a b => absurd (yes a) b) (fun a b => absurd (yes a) b) (fun _ => next) (fun _ _ => next) (fun a b => absurd (yes a) b)
    · intro h2 g K2 B C L mg hg
      obtain ⟨H, z, g3, m1, m3, -⟩ := id B
      have yes : nI r + (1 : Int32) < nI (r + 2) := by rw [nI_1]; exact nI_lt (by omega) (by omega)
      refine b_Mo_budgetsOf_121 (d := d + 2) (j15 := i) (j17 := 0) m1 H.mx.2.2.2.2.2.2.1 mg (fun k => absurd yes k) (fun k => absurd yes k) (fun _ => by omega) (fun _ => by omega) (fun _ => ?_) (fun k => absurd yes k)
      have := ih h2 K2 B C fun t' ht' => by
        by_cases k : t' = t + 1
        · subst k
          rw [ei1]
          exact ⟨g, mg, fun s hs => hg s (by omega)⟩
        · exact L t' (by omega)
      rw [Int32.sub_eq_add_neg] at this
      exact this
  · intro h1 K1 B C L
    rw [Nat.sub_self]
    refine b_Mo_budgetsOf_113 (d := d + 2) (fun _ => ?_) (fun k => absurd (by decide) k)
    rw [nI_1]
    exact go h1 K1 B C L
end S57
