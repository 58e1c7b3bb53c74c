/-! MORE ACTS -/
theorem b_X_flip_0 {G : ev_G} {d k n : Nat} {h : ev_H} {R : Option Value → ev_H → Prop} {x1 : Int32} {x2 : Int32} {S1 : AS} {la2 : Int32} {fk3 : Int32} {fp4 : Int32} {la5 : Int32} {fk6 : Int32} {fp7 : Int32} {S8 : AS} {la9 : Int32} {fk10 : Int32} {fp11 : Int32} {la12 : Int32} {fk13 : Int32} {fp14 : Int32} {f_latest_15 : Int32} {f_faultKind_16 : Int32} {f_faultPlace_17 : Int32} {f_bits_18 : Int32} {f_parts_19 : Int32} {f_size_20 : Int32} {fv21 : Value} {g22 : Nat → Int64} {j23 : Nat} {S24 : AS} {la25 : Int32} {fk26 : Int32} {fp27 : Int32}
  (a13 : hat h 0 (oC 8 [.ref 1, .ref 5, .ref 18, .ref 81, .ref 98, .int f_latest_15, .int f_faultKind_16, .int f_faultPlace_17]))
  (a14 : hat h 1 (oC 6 [.int f_bits_18, .int f_parts_19, .ref 2, .int f_size_20, .ref 3, .ref 4, fv21]))
  (a15 : hat h 3 (aL 32 g22))
  (pr1 : XO h la2 fk3 fp4)
  (pr2 : StR h 1 S1)
  (pr3 : sOk S1)
  (r4 : ∃ fs, hat h 0 (oC 8 fs))
  (pr5 : (b2i (inR x2 (sB S1))) = (0 : Int32) → XO h la5 fk6 fp7)
  (r6 : (b2i (inR x2 (sB S1))) = (0 : Int32) → ∃ fs, hat h 0 (oC 8 fs))
  (pr7 : ¬ (b2i (inR x2 (sB S1))) = (0 : Int32) → XO h la9 fk10 fp11)
  (pr8 : ¬ (b2i (inR x2 (sB S1))) = (0 : Int32) → StR h 1 S8)
  (pr9 : ¬ (b2i (inR x2 (sB S1))) = (0 : Int32) → sOk S8)
  (r10 : ¬ (b2i (inR x2 (sB S1))) = (0 : Int32) → ∃ fs, hat h 0 (oC 8 fs))
  (pr11 : ¬ (b2i (inR x2 (sB S1))) = (0 : Int32) → (b2i (inR x1 (sN S8))) = (0 : Int32) → XO h la12 fk13 fp14)
  (r12 : ¬ (b2i (inR x2 (sB S1))) = (0 : Int32) → (b2i (inR x1 (sN S8))) = (0 : Int32) → ∃ fs, hat h 0 (oC 8 fs))
  (i16 : ¬ (b2i (inR x2 (sB S1))) = (0 : Int32) → ¬ (b2i (inR x1 (sN S8))) = (0 : Int32) → ev_ix x1 j23 32)
  (pr17 : ¬ (b2i (inR x2 (sB S1))) = (0 : Int32) → ¬ (b2i (inR x1 (sN S8))) = (0 : Int32) → StR h 1 S24)
  (pr18 : ¬ (b2i (inR x2 (sB S1))) = (0 : Int32) → ¬ (b2i (inR x1 (sN S8))) = (0 : Int32) → sOk S24)
  (r19 : ¬ (b2i (inR x2 (sB S1))) = (0 : Int32) → ¬ (b2i (inR x1 (sN S8))) = (0 : Int32) → (frI (whP S24 ((g22 j23) ^^^ ((1 : Int64) <<< (x2.toInt64 &&& 63)))) (sN S24)) = (-1 : Int32) → ∃ fs, hat h 18 (oC 2 fs))
  (pr20 : ¬ (b2i (inR x2 (sB S1))) = (0 : Int32) → ¬ (b2i (inR x1 (sN S8))) = (0 : Int32) → ¬ (frI (whP S24 ((g22 j23) ^^^ ((1 : Int64) <<< (x2.toInt64 &&& 63)))) (sN S24)) = (-1 : Int32) → XO h la25 fk26 fp27)
  (k1 : (b2i (inR x2 (sB S1))) = (0 : Int32) → R (some (.int (-1 : Int32))) (xoS h (1 : Int32) fk6 fp7))
  (k2 : ¬ (b2i (inR x2 (sB S1))) = (0 : Int32) → (b2i (inR x1 (sN S8))) = (0 : Int32) → R (some (.int (-1 : Int32))) (xoS h (2 : Int32) fk13 fp14))
  (k3 : ¬ (b2i (inR x2 (sB S1))) = (0 : Int32) → ¬ (b2i (inR x1 (sN S8))) = (0 : Int32) → (frI (whP S24 ((g22 j23) ^^^ ((1 : Int64) <<< (x2.toInt64 &&& 63)))) (sN S24)) = (-1 : Int32) → Ev G d 0 0 M_Hi_keep 0 [.ref 18, .ref 1] [] h (fun r h1 => Ev G (d + 1) k n M_X_flip 71 [.ref 0, .int x1, .int x2, .long ((g22 j23) ^^^ ((1 : Int64) <<< (x2.toInt64 &&& 63))), ev_unk] (r.toList ++ []) h1 R))
  (k4 : ¬ (b2i (inR x2 (sB S1))) = (0 : Int32) → ¬ (b2i (inR x1 (sN S8))) = (0 : Int32) → ¬ (frI (whP S24 ((g22 j23) ^^^ ((1 : Int64) <<< (x2.toInt64 &&& 63)))) (sN S24)) = (-1 : Int32) → R (some (.int (-1 : Int32))) (xoS h (4 : Int32) fk26 fp27))
  : Ev G (d + 1) k n M_X_flip 0 [.ref 0, .int x1, .int x2, ev_unk, ev_unk] [] h R :=
  Ev.go (pc' := 2) (ls' := [.ref 0, .int x1, .int x2, ev_unk, ev_unk]) (st' := [.int x2, .ref 0]) [.aload_n 0, .iload_n 2] (by decide +kernel) rfl <|
  Ev.cV0 (M' := M_X_isBit) (as := [.int x2]) (rest := []) l_X_167 M_X_isBit_ok M_X_isBit_in M_X_isBit_se (by decide +kernel) r4 rfl rfl rfl (Nat.le_of_ble_eq_true rfl) (Nat.le_of_ble_eq_true rfl) (s_X_isBit pr1 pr2 pr3 <| show Ev G (d + 1) _ _ M_X_flip 5 [.ref 0, .int x1, .int x2, ev_unk, ev_unk] [.int (b2i (inR x2 (sB S1)))] h R from
    Ev.br (i := .ifCond .ne (9)) (P := (b2i (inR x2 (sB S1))) = (0 : Int32)) (t := 8) (f := 14) (r := []) (by decide +kernel) rfl (fun c1 =>
      Ev.go (pc' := 10) (ls' := [.ref 0, .int x1, .int x2, ev_unk, ev_unk]) (st' := [.int (1 : Int32), .ref 0]) [.aload_n 0, .iconst 1] (by decide +kernel) rfl <|
      Ev.cV0 (M' := M_X_refuse) (as := [.int (1 : Int32)]) (rest := []) l_X_67 M_X_refuse_ok M_X_refuse_in M_X_refuse_se (by decide +kernel) (r6 c1) rfl rfl rfl (Nat.le_of_ble_eq_true rfl) (Nat.le_of_ble_eq_true rfl) (s_X_refuse' (pr5 c1) <| show Ev G (d + 1) _ _ M_X_flip 13 [.ref 0, .int x1, .int x2, ev_unk, ev_unk] [.int (-1 : Int32)] (xoS h (1 : Int32) fk6 fp7) R from
        Ev.ret (r := (some (.int (-1 : Int32)))) (Or.inl ⟨_, rfl, by decide +kernel, _, rfl, rfl⟩) (k1 c1)
      )
    ) (fun c1 =>
      Ev.go (pc' := 16) (ls' := [.ref 0, .int x1, .int x2, ev_unk, ev_unk]) (st' := [.int x1, .ref 0]) [.aload_n 0, .iload_n 1] (by decide +kernel) rfl <|
      Ev.cV0 (M' := M_X_isCode) (as := [.int x1]) (rest := []) l_X_114 M_X_isCode_ok M_X_isCode_in M_X_isCode_se (by decide +kernel) (r10 c1) rfl rfl rfl (Nat.le_of_ble_eq_true rfl) (Nat.le_of_ble_eq_true rfl) (s_X_isCode (pr7 c1) (pr8 c1) (pr9 c1) <| show Ev G (d + 1) _ _ M_X_flip 19 [.ref 0, .int x1, .int x2, ev_unk, ev_unk] [.int (b2i (inR x1 (sN S8)))] h R from
        Ev.br (i := .ifCond .ne (9)) (P := (b2i (inR x1 (sN S8))) = (0 : Int32)) (t := 22) (f := 28) (r := []) (by decide +kernel) rfl (fun c2 =>
          Ev.go (pc' := 24) (ls' := [.ref 0, .int x1, .int x2, ev_unk, ev_unk]) (st' := [.int (2 : Int32), .ref 0]) [.aload_n 0, .iconst 2] (by decide +kernel) rfl <|
          Ev.cV0 (M' := M_X_refuse) (as := [.int (2 : Int32)]) (rest := []) l_X_67 M_X_refuse_ok M_X_refuse_in M_X_refuse_se (by decide +kernel) (r12 c1 c2) rfl rfl rfl (Nat.le_of_ble_eq_true rfl) (Nat.le_of_ble_eq_true rfl) (s_X_refuse' (pr11 c1 c2) <| show Ev G (d + 1) _ _ M_X_flip 27 [.ref 0, .int x1, .int x2, ev_unk, ev_unk] [.int (-1 : Int32)] (xoS h (2 : Int32) fk13 fp14) R from
            Ev.ret (r := (some (.int (-1 : Int32)))) (Or.inl ⟨_, rfl, by decide +kernel, _, rfl, rfl⟩) (k2 c1 c2)
          )
        ) (fun c2 =>
          Ev.go (pc' := 29) (ls' := [.ref 0, .int x1, .int x2, ev_unk, ev_unk]) (st' := [.ref 0]) [.aload_n 0] (by decide +kernel) rfl <|
          Ev.getf f_X_10 (by decide +kernel) a13 rfl <|
          Ev.getf f_X_118 (by decide +kernel) a14 rfl <|
          Ev.go (pc' := 36) (ls' := [.ref 0, .int x1, .int x2, ev_unk, ev_unk]) (st' := [.int x1, .ref 3]) [.iload_n 1] (by decide +kernel) rfl <|
          Ev.lald (j := j23) (by decide +kernel) a15 (i16 c1 c2) <|
          Ev.go (pc' := 43) (ls' := [.ref 0, .int x1, .int x2, .long ((g22 j23) ^^^ ((1 : Int64) <<< (x2.toInt64 &&& 63))), ev_unk]) (st' := [.ref 0]) [.lconst 1, .iload_n 2, .lshl, .lxor, .lstore_n 3, .aload_n 0] (by decide +kernel) rfl <|
          Ev.getf f_X_10 (by decide +kernel) a13 rfl <|
          Ev.go (pc' := 47) (ls' := [.ref 0, .int x1, .int x2, .long ((g22 j23) ^^^ ((1 : Int64) <<< (x2.toInt64 &&& 63))), ev_unk]) (st' := [.long ((g22 j23) ^^^ ((1 : Int64) <<< (x2.toInt64 &&& 63))), .ref 1]) [.lload_n 3] (by decide +kernel) rfl <|
          Ev.cV0 (M' := M_St_whereIs) (as := [.long ((g22 j23) ^^^ ((1 : Int64) <<< (x2.toInt64 &&& 63)))]) (rest := []) l_X_156 M_St_whereIs_ok M_St_whereIs_in M_St_whereIs_se (by decide +kernel) ⟨_, a14⟩ rfl rfl rfl (Nat.le_of_ble_eq_true rfl) (Nat.le_of_ble_eq_true rfl) (s_St_whereIs (pr17 c1 c2) (pr18 c1 c2) <| show Ev G (d + 1) _ _ M_X_flip 50 [.ref 0, .int x1, .int x2, .long ((g22 j23) ^^^ ((1 : Int64) <<< (x2.toInt64 &&& 63))), ev_unk] [.int (frI (whP S24 ((g22 j23) ^^^ ((1 : Int64) <<< (x2.toInt64 &&& 63)))) (sN S24))] h R from
            Ev.go (pc' := 51) (ls' := [.ref 0, .int x1, .int x2, .long ((g22 j23) ^^^ ((1 : Int64) <<< (x2.toInt64 &&& 63))), ev_unk]) (st' := [.int (-1 : Int32), .int (frI (whP S24 ((g22 j23) ^^^ ((1 : Int64) <<< (x2.toInt64 &&& 63)))) (sN S24))]) [.iconst (-1)] (by decide +kernel) rfl <|
            Ev.br (i := .if_icmp .eq (9)) (P := (frI (whP S24 ((g22 j23) ^^^ ((1 : Int64) <<< (x2.toInt64 &&& 63)))) (sN S24)) = (-1 : Int32)) (t := 60) (f := 54) (r := []) (by decide +kernel) rfl (fun c3 =>
              Ev.go (pc' := 61) (ls' := [.ref 0, .int x1, .int x2, .long ((g22 j23) ^^^ ((1 : Int64) <<< (x2.toInt64 &&& 63))), ev_unk]) (st' := [.ref 0]) [.aload_n 0] (by decide +kernel) rfl <|
              Ev.getf f_X_26 (by decide +kernel) a13 rfl <|
              Ev.go (pc' := 65) (ls' := [.ref 0, .int x1, .int x2, .long ((g22 j23) ^^^ ((1 : Int64) <<< (x2.toInt64 &&& 63))), ev_unk]) (st' := [.ref 0, .ref 18]) [.aload_n 0] (by decide +kernel) rfl <|
              Ev.getf f_X_10 (by decide +kernel) a13 rfl <|
              Ev.cV0 (M' := M_Hi_keep) (as := [.ref 1]) (rest := []) l_X_78 M_Hi_keep_ok M_Hi_keep_in M_Hi_keep_se (by decide +kernel) (r19 c1 c2 c3) rfl rfl rfl (Nat.le_of_ble_eq_true rfl) (Nat.le_of_ble_eq_true rfl) (k3 c1 c2 c3)
            ) (fun c3 =>
              Ev.go (pc' := 56) (ls' := [.ref 0, .int x1, .int x2, .long ((g22 j23) ^^^ ((1 : Int64) <<< (x2.toInt64 &&& 63))), ev_unk]) (st' := [.int (4 : Int32), .ref 0]) [.aload_n 0, .iconst 4] (by decide +kernel) rfl <|
              Ev.cV0 (M' := M_X_refuse) (as := [.int (4 : Int32)]) (rest := []) l_X_67 M_X_refuse_ok M_X_refuse_in M_X_refuse_se (by decide +kernel) ⟨_, a13⟩ rfl rfl rfl (Nat.le_of_ble_eq_true rfl) (Nat.le_of_ble_eq_true rfl) (s_X_refuse' (pr20 c1 c2 c3) <| show Ev G (d + 1) _ _ M_X_flip 59 [.ref 0, .int x1, .int x2, .long ((g22 j23) ^^^ ((1 : Int64) <<< (x2.toInt64 &&& 63))), ev_unk] [.int (-1 : Int32)] (xoS h (4 : Int32) fk26 fp27) R from
                Ev.ret (r := (some (.int (-1 : Int32)))) (Or.inl ⟨_, rfl, by decide +kernel, _, rfl, rfl⟩) (k4 c1 c2 c3)
              )
            )
          )
        )
      )
    )
  )
theorem b_X_flip_71 {G : ev_G} {d k n : Nat} {h : ev_H} {R : Option Value → ev_H → Prop} {x1 : Int32} {x2 : Int32} {x3 : Int64} {f_latest_1 : Int32} {f_faultKind_2 : Int32} {f_faultPlace_3 : Int32} {f_bits_4 : Int32} {f_parts_5 : Int32} {f_size_6 : Int32} {fv7 : Value} {g8 : Nat → Int64} {j9 : Nat} {la10 : Int32} {fk11 : Int32} {fp12 : Int32}
  (a1 : hat h 0 (oC 8 [.ref 1, .ref 5, .ref 18, .ref 81, .ref 98, .int f_latest_1, .int f_faultKind_2, .int f_faultPlace_3]))
  (a2 : hat h 1 (oC 6 [.int f_bits_4, .int f_parts_5, .ref 2, .int f_size_6, .ref 3, .ref 4, fv7]))
  (a3 : hat h 3 (aL 32 g8))
  (i4 : ev_ix x1 j9 32)
  (pr5 : XO (hset h 3 (aL 32 (vp_updL g8 j9 x3))) la10 fk11 fp12)
  (k1 : R (some (.int (b2i (tbL x3 x2)))) (xoS (hset h 3 (aL 32 (vp_updL g8 j9 x3))) 0 fk11 fp12))
  : Ev G (d + 1) k n M_X_flip 71 [.ref 0, .int x1, .int x2, .long x3, ev_unk] [] h R :=
  Ev.go (pc' := 72) (ls' := [.ref 0, .int x1, .int x2, .long x3, ev_unk]) (st' := [.ref 0]) [.aload_n 0] (by decide +kernel) rfl <|
  Ev.getf f_X_10 (by decide +kernel) a1 rfl <|
  Ev.getf f_X_118 (by decide +kernel) a2 rfl <|
  Ev.go (pc' := 80) (ls' := [.ref 0, .int x1, .int x2, .long x3, ev_unk]) (st' := [.long x3, .int x1, .ref 3]) [.iload_n 1, .lload_n 3] (by decide +kernel) rfl <|
  Ev.last (j := j9) (by decide +kernel) a3 i4 <| show Ev G (d + 1) _ _ M_X_flip 81 [.ref 0, .int x1, .int x2, .long x3, ev_unk] [] (hset h 3 (aL 32 (vp_updL g8 j9 x3))) R from
  Ev.go (pc' := 84) (ls' := [.ref 0, .int x1, .int x2, .long x3, ev_unk]) (st' := [.int x2, .long x3, .ref 0]) [.aload_n 0, .lload_n 3, .iload_n 2] (by decide +kernel) rfl <|
  Ev.cS0 (M' := M_X_bitOf) (as := [.long x3, .int x2]) (rest := [.ref 0]) l_X_170 M_X_bitOf_ok M_X_bitOf_st (by decide +kernel) rfl rfl (Nat.le_of_ble_eq_true rfl) (Nat.le_of_ble_eq_true rfl) (s_X_bitOf <| show Ev G (d + 1) _ _ M_X_flip 87 [.ref 0, .int x1, .int x2, .long x3, ev_unk] [.int (b2i (tbL x3 x2)), .ref 0] (hset h 3 (aL 32 (vp_updL g8 j9 x3))) R from
    Ev.cV0 (M' := M_X_answer) (as := [.int (b2i (tbL x3 x2))]) (rest := []) l_X_87 M_X_answer_ok M_X_answer_in M_X_answer_se (by decide +kernel) ⟨_, (hat_ne a1 (by decide))⟩ rfl rfl rfl (Nat.le_of_ble_eq_true rfl) (Nat.le_of_ble_eq_true rfl) (s_X_answer' pr5 <| show Ev G (d + 1) _ _ M_X_flip 90 [.ref 0, .int x1, .int x2, .long x3, ev_unk] [.int (b2i (tbL x3 x2))] (xoS (hset h 3 (aL 32 (vp_updL g8 j9 x3))) 0 fk11 fp12) R from
      Ev.ret (r := (some (.int (b2i (tbL x3 x2))))) (Or.inl ⟨_, rfl, by decide +kernel, _, rfl, rfl⟩) k1
    )
  )
theorem b_X_tag_0 {G : ev_G} {d k n : Nat} {h : ev_H} {R : Option Value → ev_H → Prop} {x1 : Int32} {x2 : Int32} {la1 : Int32} {fk2 : Int32} {fp3 : Int32} {la4 : Int32} {fk5 : Int32} {fp6 : Int32} {S7 : AS} {la8 : Int32} {fk9 : Int32} {fp10 : Int32} {la11 : Int32} {fk12 : Int32} {fp13 : Int32} {f_latest_14 : Int32} {f_faultKind_15 : Int32} {f_faultPlace_16 : Int32} {f_bits_17 : Int32} {f_parts_18 : Int32} {f_size_19 : Int32} {fv20 : Value} {g21 : Nat → Int32} {j22 : Nat} {la23 : Int32} {fk24 : Int32} {fp25 : Int32}
  (a11 : hat h 0 (oC 8 [.ref 1, .ref 5, .ref 18, .ref 81, .ref 98, .int f_latest_14, .int f_faultKind_15, .int f_faultPlace_16]))
  (a12 : hat h 1 (oC 6 [.int f_bits_17, .int f_parts_18, .ref 2, .int f_size_19, .ref 3, .ref 4, fv20]))
  (a13 : hat h 4 (aI 32 g21))
  (pr1 : x2 < (0 : Int32) → XO h la1 fk2 fp3)
  (r2 : x2 < (0 : Int32) → ∃ fs, hat h 0 (oC 8 fs))
  (pr3 : ¬ x2 < (0 : Int32) → (9 : Int32) < x2 → XO h la4 fk5 fp6)
  (r4 : ¬ x2 < (0 : Int32) → (9 : Int32) < x2 → ∃ fs, hat h 0 (oC 8 fs))
  (pr5 : ¬ x2 < (0 : Int32) → ¬ (9 : Int32) < x2 → XO h la8 fk9 fp10)
  (pr6 : ¬ x2 < (0 : Int32) → ¬ (9 : Int32) < x2 → StR h 1 S7)
  (pr7 : ¬ x2 < (0 : Int32) → ¬ (9 : Int32) < x2 → sOk S7)
  (r8 : ¬ x2 < (0 : Int32) → ¬ (9 : Int32) < x2 → ∃ fs, hat h 0 (oC 8 fs))
  (pr9 : ¬ x2 < (0 : Int32) → ¬ (9 : Int32) < x2 → (b2i (inR x1 (sN S7))) = (0 : Int32) → XO h la11 fk12 fp13)
  (r10 : ¬ x2 < (0 : Int32) → ¬ (9 : Int32) < x2 → (b2i (inR x1 (sN S7))) = (0 : Int32) → ∃ fs, hat h 0 (oC 8 fs))
  (i14 : ¬ x2 < (0 : Int32) → ¬ (9 : Int32) < x2 → ¬ (b2i (inR x1 (sN S7))) = (0 : Int32) → ev_ix x1 j22 32)
  (pr15 : ¬ x2 < (0 : Int32) → ¬ (9 : Int32) < x2 → ¬ (b2i (inR x1 (sN S7))) = (0 : Int32) → (g21 j22) = x2 → XO h la23 fk24 fp25)
  (r16 : ¬ x2 < (0 : Int32) → ¬ (9 : Int32) < x2 → ¬ (b2i (inR x1 (sN S7))) = (0 : Int32) → ¬ (g21 j22) = x2 → ∃ fs, hat h 18 (oC 2 fs))
  (k1 : x2 < (0 : Int32) → R (some (.int (-1 : Int32))) (xoS h (1 : Int32) fk2 fp3))
  (k2 : ¬ x2 < (0 : Int32) → (9 : Int32) < x2 → R (some (.int (-1 : Int32))) (xoS h (1 : Int32) fk5 fp6))
  (k3 : ¬ x2 < (0 : Int32) → ¬ (9 : Int32) < x2 → (b2i (inR x1 (sN S7))) = (0 : Int32) → R (some (.int (-1 : Int32))) (xoS h (2 : Int32) fk12 fp13))
  (k4 : ¬ x2 < (0 : Int32) → ¬ (9 : Int32) < x2 → ¬ (b2i (inR x1 (sN S7))) = (0 : Int32) → (g21 j22) = x2 → R (some (.int (-1 : Int32))) (xoS h (4 : Int32) fk24 fp25))
  (k5 : ¬ x2 < (0 : Int32) → ¬ (9 : Int32) < x2 → ¬ (b2i (inR x1 (sN S7))) = (0 : Int32) → ¬ (g21 j22) = x2 → Ev G d 0 0 M_Hi_keep 0 [.ref 18, .ref 1] [] h (fun r h1 => Ev G (d + 1) k n M_X_tag 62 [.ref 0, .int x1, .int x2, .int (g21 j22)] (r.toList ++ []) h1 R))
  : Ev G (d + 1) k n M_X_tag 0 [.ref 0, .int x1, .int x2, ev_unk] [] h R :=
  Ev.go (pc' := 1) (ls' := [.ref 0, .int x1, .int x2, ev_unk]) (st' := [.int x2]) [.iload_n 2] (by decide +kernel) rfl <|
  Ev.br (i := .ifCond .lt (9)) (P := x2 < (0 : Int32)) (t := 10) (f := 4) (r := []) (by decide +kernel) rfl (fun c1 =>
    Ev.go (pc' := 12) (ls' := [.ref 0, .int x1, .int x2, ev_unk]) (st' := [.int (1 : Int32), .ref 0]) [.aload_n 0, .iconst 1] (by decide +kernel) rfl <|
    Ev.cV0 (M' := M_X_refuse) (as := [.int (1 : Int32)]) (rest := []) l_X_67 M_X_refuse_ok M_X_refuse_in M_X_refuse_se (by decide +kernel) (r2 c1) rfl rfl rfl (Nat.le_of_ble_eq_true rfl) (Nat.le_of_ble_eq_true rfl) (s_X_refuse' (pr1 c1) <| show Ev G (d + 1) _ _ M_X_tag 15 [.ref 0, .int x1, .int x2, ev_unk] [.int (-1 : Int32)] (xoS h (1 : Int32) fk2 fp3) R from
      Ev.ret (r := (some (.int (-1 : Int32)))) (Or.inl ⟨_, rfl, by decide +kernel, _, rfl, rfl⟩) (k1 c1)
    )
  ) (fun c1 =>
    Ev.go (pc' := 7) (ls' := [.ref 0, .int x1, .int x2, ev_unk]) (st' := [.int (9 : Int32), .int x2]) [.iload_n 2, .bipush (9)] (by decide +kernel) rfl <|
    Ev.br (i := .if_icmp .le (9)) (P := (9 : Int32) < x2) (t := 10) (f := 16) (r := []) (by decide +kernel) rfl (fun c2 =>
      Ev.go (pc' := 12) (ls' := [.ref 0, .int x1, .int x2, ev_unk]) (st' := [.int (1 : Int32), .ref 0]) [.aload_n 0, .iconst 1] (by decide +kernel) rfl <|
      Ev.cV0 (M' := M_X_refuse) (as := [.int (1 : Int32)]) (rest := []) l_X_67 M_X_refuse_ok M_X_refuse_in M_X_refuse_se (by decide +kernel) (r4 c1 c2) rfl rfl rfl (Nat.le_of_ble_eq_true rfl) (Nat.le_of_ble_eq_true rfl) (s_X_refuse' (pr3 c1 c2) <| show Ev G (d + 1) _ _ M_X_tag 15 [.ref 0, .int x1, .int x2, ev_unk] [.int (-1 : Int32)] (xoS h (1 : Int32) fk5 fp6) R from
        Ev.ret (r := (some (.int (-1 : Int32)))) (Or.inl ⟨_, rfl, by decide +kernel, _, rfl, rfl⟩) (k2 c1 c2)
      )
    ) (fun c2 =>
      Ev.go (pc' := 18) (ls' := [.ref 0, .int x1, .int x2, ev_unk]) (st' := [.int x1, .ref 0]) [.aload_n 0, .iload_n 1] (by decide +kernel) rfl <|
      Ev.cV0 (M' := M_X_isCode) (as := [.int x1]) (rest := []) l_X_114 M_X_isCode_ok M_X_isCode_in M_X_isCode_se (by decide +kernel) (r8 c1 c2) rfl rfl rfl (Nat.le_of_ble_eq_true rfl) (Nat.le_of_ble_eq_true rfl) (s_X_isCode (pr5 c1 c2) (pr6 c1 c2) (pr7 c1 c2) <| show Ev G (d + 1) _ _ M_X_tag 21 [.ref 0, .int x1, .int x2, ev_unk] [.int (b2i (inR x1 (sN S7)))] h R from
        Ev.br (i := .ifCond .ne (9)) (P := (b2i (inR x1 (sN S7))) = (0 : Int32)) (t := 24) (f := 30) (r := []) (by decide +kernel) rfl (fun c3 =>
          Ev.go (pc' := 26) (ls' := [.ref 0, .int x1, .int x2, ev_unk]) (st' := [.int (2 : Int32), .ref 0]) [.aload_n 0, .iconst 2] (by decide +kernel) rfl <|
          Ev.cV0 (M' := M_X_refuse) (as := [.int (2 : Int32)]) (rest := []) l_X_67 M_X_refuse_ok M_X_refuse_in M_X_refuse_se (by decide +kernel) (r10 c1 c2 c3) rfl rfl rfl (Nat.le_of_ble_eq_true rfl) (Nat.le_of_ble_eq_true rfl) (s_X_refuse' (pr9 c1 c2 c3) <| show Ev G (d + 1) _ _ M_X_tag 29 [.ref 0, .int x1, .int x2, ev_unk] [.int (-1 : Int32)] (xoS h (2 : Int32) fk12 fp13) R from
            Ev.ret (r := (some (.int (-1 : Int32)))) (Or.inl ⟨_, rfl, by decide +kernel, _, rfl, rfl⟩) (k3 c1 c2 c3)
          )
        ) (fun c3 =>
          Ev.go (pc' := 31) (ls' := [.ref 0, .int x1, .int x2, ev_unk]) (st' := [.ref 0]) [.aload_n 0] (by decide +kernel) rfl <|
          Ev.getf f_X_10 (by decide +kernel) a11 rfl <|
          Ev.getf f_X_126 (by decide +kernel) a12 rfl <|
          Ev.go (pc' := 38) (ls' := [.ref 0, .int x1, .int x2, ev_unk]) (st' := [.int x1, .ref 4]) [.iload_n 1] (by decide +kernel) rfl <|
          Ev.iald (j := j22) (by decide +kernel) a13 (i14 c1 c2 c3) <|
          Ev.go (pc' := 42) (ls' := [.ref 0, .int x1, .int x2, .int (g21 j22)]) (st' := [.int x2, .int (g21 j22)]) [.istore_n 3, .iload_n 3, .iload_n 2] (by decide +kernel) rfl <|
          Ev.br (i := .if_icmp .ne (9)) (P := (g21 j22) = x2) (t := 45) (f := 51) (r := []) (by decide +kernel) rfl (fun c4 =>
            Ev.go (pc' := 47) (ls' := [.ref 0, .int x1, .int x2, .int (g21 j22)]) (st' := [.int (4 : Int32), .ref 0]) [.aload_n 0, .iconst 4] (by decide +kernel) rfl <|
            Ev.cV0 (M' := M_X_refuse) (as := [.int (4 : Int32)]) (rest := []) l_X_67 M_X_refuse_ok M_X_refuse_in M_X_refuse_se (by decide +kernel) ⟨_, a11⟩ rfl rfl rfl (Nat.le_of_ble_eq_true rfl) (Nat.le_of_ble_eq_true rfl) (s_X_refuse' (pr15 c1 c2 c3 c4) <| show Ev G (d + 1) _ _ M_X_tag 50 [.ref 0, .int x1, .int x2, .int (g21 j22)] [.int (-1 : Int32)] (xoS h (4 : Int32) fk24 fp25) R from
              Ev.ret (r := (some (.int (-1 : Int32)))) (Or.inl ⟨_, rfl, by decide +kernel, _, rfl, rfl⟩) (k4 c1 c2 c3 c4)
            )
          ) (fun c4 =>
            Ev.go (pc' := 52) (ls' := [.ref 0, .int x1, .int x2, .int (g21 j22)]) (st' := [.ref 0]) [.aload_n 0] (by decide +kernel) rfl <|
            Ev.getf f_X_26 (by decide +kernel) a11 rfl <|
            Ev.go (pc' := 56) (ls' := [.ref 0, .int x1, .int x2, .int (g21 j22)]) (st' := [.ref 0, .ref 18]) [.aload_n 0] (by decide +kernel) rfl <|
            Ev.getf f_X_10 (by decide +kernel) a11 rfl <|
            Ev.cV0 (M' := M_Hi_keep) (as := [.ref 1]) (rest := []) l_X_78 M_Hi_keep_ok M_Hi_keep_in M_Hi_keep_se (by decide +kernel) (r16 c1 c2 c3 c4) rfl rfl rfl (Nat.le_of_ble_eq_true rfl) (Nat.le_of_ble_eq_true rfl) (k5 c1 c2 c3 c4)
          )
        )
      )
    )
  )
theorem b_X_tag_62 {G : ev_G} {d k n : Nat} {h : ev_H} {R : Option Value → ev_H → Prop} {x1 : Int32} {x2 : Int32} {x3 : Int32} {f_latest_1 : Int32} {f_faultKind_2 : Int32} {f_faultPlace_3 : Int32} {f_bits_4 : Int32} {f_parts_5 : Int32} {f_size_6 : Int32} {fv7 : Value} {g8 : Nat → Int32} {j9 : Nat} {la10 : Int32} {fk11 : Int32} {fp12 : Int32}
  (a1 : hat h 0 (oC 8 [.ref 1, .ref 5, .ref 18, .ref 81, .ref 98, .int f_latest_1, .int f_faultKind_2, .int f_faultPlace_3]))
  (a2 : hat h 1 (oC 6 [.int f_bits_4, .int f_parts_5, .ref 2, .int f_size_6, .ref 3, .ref 4, fv7]))
  (a3 : hat h 4 (aI 32 g8))
  (i4 : ev_ix x1 j9 32)
  (pr5 : XO (hset h 4 (aI 32 (upd g8 j9 x2))) la10 fk11 fp12)
  (k1 : R (some (.int x3)) (xoS (hset h 4 (aI 32 (upd g8 j9 x2))) 0 fk11 fp12))
  : Ev G (d + 1) k n M_X_tag 62 [.ref 0, .int x1, .int x2, .int x3] [] h R :=
  Ev.go (pc' := 63) (ls' := [.ref 0, .int x1, .int x2, .int x3]) (st' := [.ref 0]) [.aload_n 0] (by decide +kernel) rfl <|
  Ev.getf f_X_10 (by decide +kernel) a1 rfl <|
  Ev.getf f_X_126 (by decide +kernel) a2 rfl <|
  Ev.go (pc' := 71) (ls' := [.ref 0, .int x1, .int x2, .int x3]) (st' := [.int x2, .int x1, .ref 4]) [.iload_n 1, .iload_n 2] (by decide +kernel) rfl <|
  Ev.iast (j := j9) (by decide +kernel) a3 i4 <| show Ev G (d + 1) _ _ M_X_tag 72 [.ref 0, .int x1, .int x2, .int x3] [] (hset h 4 (aI 32 (upd g8 j9 x2))) R from
  Ev.go (pc' := 74) (ls' := [.ref 0, .int x1, .int x2, .int x3]) (st' := [.int x3, .ref 0]) [.aload_n 0, .iload_n 3] (by decide +kernel) rfl <|
  Ev.cV0 (M' := M_X_answer) (as := [.int x3]) (rest := []) l_X_87 M_X_answer_ok M_X_answer_in M_X_answer_se (by decide +kernel) ⟨_, (hat_ne a1 (by decide))⟩ rfl rfl rfl (Nat.le_of_ble_eq_true rfl) (Nat.le_of_ble_eq_true rfl) (s_X_answer' pr5 <| show Ev G (d + 1) _ _ M_X_tag 77 [.ref 0, .int x1, .int x2, .int x3] [.int x3] (xoS (hset h 4 (aI 32 (upd g8 j9 x2))) 0 fk11 fp12) R from
    Ev.ret (r := (some (.int x3))) (Or.inl ⟨_, rfl, by decide +kernel, _, rfl, rfl⟩) k1
  )
theorem b_X_open_0n {G : ev_G} {d k n : Nat} {h : ev_H} {R : Option Value → ev_H → Prop} {f_latest_1 : Int32} {f_faultKind_2 : Int32} {f_faultPlace_3 : Int32} {f_bits_4 : Int32} {f_parts_5 : Int32} {f_size_6 : Int32} {la7 : Int32} {fk8 : Int32} {fp9 : Int32}
  (a1 : hat h 0 (oC 8 [.ref 1, .ref 5, .ref 18, .ref 81, .ref 98, .int f_latest_1, .int f_faultKind_2, .int f_faultPlace_3]))
  (a2 : hat h 1 (oC 6 [.int f_bits_4, .int f_parts_5, .ref 2, .int f_size_6, .ref 3, .ref 4, .null]))
  (pr3 : XO h la7 fk8 fp9)
  (k1 : R (some (.int (-1 : Int32))) (xoS h (5 : Int32) fk8 fp9))
  : Ev G (d + 1) k n M_X_open 0 [.ref 0] [] h R :=
  Ev.go (pc' := 1) (ls' := [.ref 0]) (st' := [.ref 0]) [.aload_n 0] (by decide +kernel) rfl <|
  Ev.getf f_X_10 (by decide +kernel) a1 rfl <|
  Ev.getf f_X_110 (by decide +kernel) a2 rfl <|
  Ev.nnN (o := 9) (by decide +kernel) <|
  Ev.go (pc' := 12) (ls' := [.ref 0]) (st' := [.int (5 : Int32), .ref 0]) [.aload_n 0, .iconst 5] (by decide +kernel) rfl <|
  Ev.cV0 (M' := M_X_refuse) (as := [.int (5 : Int32)]) (rest := []) l_X_67 M_X_refuse_ok M_X_refuse_in M_X_refuse_se (by decide +kernel) ⟨_, a1⟩ rfl rfl rfl (Nat.le_of_ble_eq_true rfl) (Nat.le_of_ble_eq_true rfl) (s_X_refuse' pr3 <| show Ev G (d + 1) _ _ M_X_open 15 [.ref 0] [.int (-1 : Int32)] (xoS h (5 : Int32) fk8 fp9) R from
    Ev.ret (r := (some (.int (-1 : Int32)))) (Or.inl ⟨_, rfl, by decide +kernel, _, rfl, rfl⟩) k1
  )
theorem b_X_open_0r {G : ev_G} {d k n : Nat} {h : ev_H} {R : Option Value → ev_H → Prop} {f_latest_1 : Int32} {f_faultKind_2 : Int32} {f_faultPlace_3 : Int32} {f_bits_4 : Int32} {f_parts_5 : Int32} {f_size_6 : Int32} {ff7 : Nat}
  (a1 : hat h 0 (oC 8 [.ref 1, .ref 5, .ref 18, .ref 81, .ref 98, .int f_latest_1, .int f_faultKind_2, .int f_faultPlace_3]))
  (a2 : hat h 1 (oC 6 [.int f_bits_4, .int f_parts_5, .ref 2, .int f_size_6, .ref 3, .ref 4, .ref ff7]))
  (r3 : ∃ fs, hat h 18 (oC 2 fs))
  (k1 : Ev G d 0 0 M_Hi_keep 0 [.ref 18, .ref 1] [] h (fun r h1 => Ev G (d + 1) k n M_X_open 27 [.ref 0] (r.toList ++ []) h1 R))
  : Ev G (d + 1) k n M_X_open 0 [.ref 0] [] h R :=
  Ev.go (pc' := 1) (ls' := [.ref 0]) (st' := [.ref 0]) [.aload_n 0] (by decide +kernel) rfl <|
  Ev.getf f_X_10 (by decide +kernel) a1 rfl <|
  Ev.getf f_X_110 (by decide +kernel) a2 rfl <|
  Ev.nnR (t := 16) (o := 9) (by decide +kernel) rfl <|
  Ev.go (pc' := 17) (ls' := [.ref 0]) (st' := [.ref 0]) [.aload_n 0] (by decide +kernel) rfl <|
  Ev.getf f_X_26 (by decide +kernel) a1 rfl <|
  Ev.go (pc' := 21) (ls' := [.ref 0]) (st' := [.ref 0, .ref 18]) [.aload_n 0] (by decide +kernel) rfl <|
  Ev.getf f_X_10 (by decide +kernel) a1 rfl <|
  Ev.cV0 (M' := M_Hi_keep) (as := [.ref 1]) (rest := []) l_X_78 M_Hi_keep_ok M_Hi_keep_in M_Hi_keep_se (by decide +kernel) r3 rfl rfl rfl (Nat.le_of_ble_eq_true rfl) (Nat.le_of_ble_eq_true rfl) k1
theorem b_X_open_27r {G : ev_G} {d k n : Nat} {h : ev_H} {R : Option Value → ev_H → Prop} {f_latest_1 : Int32} {f_faultKind_2 : Int32} {f_faultPlace_3 : Int32} {f_bits_4 : Int32} {f_parts_5 : Int32} {f_size_6 : Int32} {ff7 : Nat} {la8 : Int32} {fk9 : Int32} {fp10 : Int32}
  (a1 : hat h 0 (oC 8 [.ref 1, .ref 5, .ref 18, .ref 81, .ref 98, .int f_latest_1, .int f_faultKind_2, .int f_faultPlace_3]))
  (a2 : hat h 1 (oC 6 [.int f_bits_4, .int f_parts_5, .ref 2, .int f_size_6, .ref 3, .ref 4, .ref ff7]))
  (pr3 : XO (hset h 1 (oC 6 [.int f_bits_4, .int f_parts_5, .ref 2, .int f_size_6, .ref 3, .ref 4, .null])) la8 fk9 fp10)
  (k1 : R (some (.int (0 : Int32))) (xoS (hset h 1 (oC 6 [.int f_bits_4, .int f_parts_5, .ref 2, .int f_size_6, .ref 3, .ref 4, .null])) 0 fk9 fp10))
  : Ev G (d + 1) k n M_X_open 27 [.ref 0] [] h R :=
  Ev.go (pc' := 28) (ls' := [.ref 0]) (st' := [.ref 0]) [.aload_n 0] (by decide +kernel) rfl <|
  Ev.getf f_X_10 (by decide +kernel) a1 rfl <|
  Ev.go (pc' := 32) (ls' := [.ref 0]) (st' := [.null, .ref 1]) [.aconst_null] (by decide +kernel) rfl <|
  Ev.putf f_X_110 (by decide +kernel) a2 (Nat.le_of_ble_eq_true rfl) rfl (fun q => nomatch q) <| show Ev G (d + 1) _ _ M_X_open 35 [.ref 0] [] (hset h 1 (oC 6 [.int f_bits_4, .int f_parts_5, .ref 2, .int f_size_6, .ref 3, .ref 4, .null])) R from
  Ev.go (pc' := 37) (ls' := [.ref 0]) (st' := [.int (0 : Int32), .ref 0]) [.aload_n 0, .iconst 0] (by decide +kernel) rfl <|
  Ev.cV0 (M' := M_X_answer) (as := [.int (0 : Int32)]) (rest := []) l_X_87 M_X_answer_ok M_X_answer_in M_X_answer_se (by decide +kernel) ⟨_, (hat_ne a1 (by decide))⟩ rfl rfl rfl (Nat.le_of_ble_eq_true rfl) (Nat.le_of_ble_eq_true rfl) (s_X_answer' pr3 <| show Ev G (d + 1) _ _ M_X_open 40 [.ref 0] [.int (0 : Int32)] (xoS (hset h 1 (oC 6 [.int f_bits_4, .int f_parts_5, .ref 2, .int f_size_6, .ref 3, .ref 4, .null])) 0 fk9 fp10) R from
    Ev.ret (r := (some (.int (0 : Int32)))) (Or.inl ⟨_, rfl, by decide +kernel, _, rfl, rfl⟩) k1
  )
theorem b_X_undo_0 {G : ev_G} {d k n : Nat} {h : ev_H} {R : Option Value → ev_H → Prop} {f_latest_1 : Int32} {f_faultKind_2 : Int32} {f_faultPlace_3 : Int32} {f_first_4 : Int32} {f_kept_5 : Int32} {f_marked_6 : Int32} {la7 : Int32} {fk8 : Int32} {fp9 : Int32}
  (a1 : hat h 0 (oC 8 [.ref 1, .ref 5, .ref 18, .ref 81, .ref 98, .int f_latest_1, .int f_faultKind_2, .int f_faultPlace_3]))
  (a2 : hat h 18 (oC 2 [.ref 19, .ref 20, .int f_first_4, .int f_kept_5, .int f_marked_6]))
  (pr3 : f_kept_5 = (0 : Int32) → XO h la7 fk8 fp9)
  (k1 : f_kept_5 = (0 : Int32) → R (some (.int (-1 : Int32))) (xoS h (5 : Int32) fk8 fp9))
  (k2 : ¬ f_kept_5 = (0 : Int32) → Ev G d 0 0 M_Hi_takeBackAct 0 [.ref 18, .ref 1] [] h (fun r h1 => Ev G (d + 1) k n M_X_undo 27 [.ref 0] (r.toList ++ []) h1 R))
  : Ev G (d + 1) k n M_X_undo 0 [.ref 0] [] h R :=
  Ev.go (pc' := 1) (ls' := [.ref 0]) (st' := [.ref 0]) [.aload_n 0] (by decide +kernel) rfl <|
  Ev.getf f_X_26 (by decide +kernel) a1 rfl <|
  Ev.getf f_X_104 (by decide +kernel) a2 rfl <|
  Ev.br (i := .ifCond .ne (9)) (P := f_kept_5 = (0 : Int32)) (t := 10) (f := 16) (r := []) (by decide +kernel) rfl (fun c1 =>
    Ev.go (pc' := 12) (ls' := [.ref 0]) (st' := [.int (5 : Int32), .ref 0]) [.aload_n 0, .iconst 5] (by decide +kernel) rfl <|
    Ev.cV0 (M' := M_X_refuse) (as := [.int (5 : Int32)]) (rest := []) l_X_67 M_X_refuse_ok M_X_refuse_in M_X_refuse_se (by decide +kernel) ⟨_, a1⟩ rfl rfl rfl (Nat.le_of_ble_eq_true rfl) (Nat.le_of_ble_eq_true rfl) (s_X_refuse' (pr3 c1) <| show Ev G (d + 1) _ _ M_X_undo 15 [.ref 0] [.int (-1 : Int32)] (xoS h (5 : Int32) fk8 fp9) R from
      Ev.ret (r := (some (.int (-1 : Int32)))) (Or.inl ⟨_, rfl, by decide +kernel, _, rfl, rfl⟩) (k1 c1)
    )
  ) (fun c1 =>
    Ev.go (pc' := 17) (ls' := [.ref 0]) (st' := [.ref 0]) [.aload_n 0] (by decide +kernel) rfl <|
    Ev.getf f_X_26 (by decide +kernel) a1 rfl <|
    Ev.go (pc' := 21) (ls' := [.ref 0]) (st' := [.ref 0, .ref 18]) [.aload_n 0] (by decide +kernel) rfl <|
    Ev.getf f_X_10 (by decide +kernel) a1 rfl <|
    Ev.cV0 (M' := M_Hi_takeBackAct) (as := [.ref 1]) (rest := []) l_X_183 M_Hi_takeBackAct_ok M_Hi_takeBackAct_in M_Hi_takeBackAct_se (by decide +kernel) ⟨_, a2⟩ rfl rfl rfl (Nat.le_of_ble_eq_true rfl) (Nat.le_of_ble_eq_true rfl) (k2 c1)
  )
theorem b_X_undo_27 {G : ev_G} {d k n : Nat} {h : ev_H} {R : Option Value → ev_H → Prop} {f_latest_1 : Int32} {f_faultKind_2 : Int32} {f_faultPlace_3 : Int32} {f_first_4 : Int32} {f_kept_5 : Int32} {f_marked_6 : Int32} {la7 : Int32} {fk8 : Int32} {fp9 : Int32}
  (a1 : hat h 0 (oC 8 [.ref 1, .ref 5, .ref 18, .ref 81, .ref 98, .int f_latest_1, .int f_faultKind_2, .int f_faultPlace_3]))
  (a2 : hat h 18 (oC 2 [.ref 19, .ref 20, .int f_first_4, .int f_kept_5, .int f_marked_6]))
  (pr3 : XO h la7 fk8 fp9)
  (k1 : R (some (.int f_kept_5)) (xoS h 0 fk8 fp9))
  : Ev G (d + 1) k n M_X_undo 27 [.ref 0] [] h R :=
  Ev.go (pc' := 29) (ls' := [.ref 0]) (st' := [.ref 0, .ref 0]) [.aload_n 0, .aload_n 0] (by decide +kernel) rfl <|
  Ev.getf f_X_26 (by decide +kernel) a1 rfl <|
  Ev.getf f_X_104 (by decide +kernel) a2 rfl <|
  Ev.cV0 (M' := M_X_answer) (as := [.int f_kept_5]) (rest := []) l_X_87 M_X_answer_ok M_X_answer_in M_X_answer_se (by decide +kernel) ⟨_, a1⟩ rfl rfl rfl (Nat.le_of_ble_eq_true rfl) (Nat.le_of_ble_eq_true rfl) (s_X_answer' pr3 <| show Ev G (d + 1) _ _ M_X_undo 38 [.ref 0] [.int f_kept_5] (xoS h 0 fk8 fp9) R from
    Ev.ret (r := (some (.int f_kept_5))) (Or.inl ⟨_, rfl, by decide +kernel, _, rfl, rfl⟩) k1
  )
theorem b_X_mark_0 {G : ev_G} {d k n : Nat} {h : ev_H} {R : Option Value → ev_H → Prop} {f_latest_1 : Int32} {f_faultKind_2 : Int32} {f_faultPlace_3 : Int32} {f_first_4 : Int32} {f_kept_5 : Int32} {f_marked_6 : Int32} {la7 : Int32} {fk8 : Int32} {fp9 : Int32}
  (a1 : hat h 0 (oC 8 [.ref 1, .ref 5, .ref 18, .ref 81, .ref 98, .int f_latest_1, .int f_faultKind_2, .int f_faultPlace_3]))
  (a2 : hat h 18 (oC 2 [.ref 19, .ref 20, .int f_first_4, .int f_kept_5, .int f_marked_6]))
  (pr3 : ¬ f_marked_6 < (3 : Int32) → XO h la7 fk8 fp9)
  (k1 : f_marked_6 < (3 : Int32) → Ev G d 0 0 M_Hi_putMark 0 [.ref 18, .ref 1] [] h (fun r h1 => Ev G (d + 1) k n M_X_mark 28 [.ref 0] (r.toList ++ []) h1 R))
  (k2 : ¬ f_marked_6 < (3 : Int32) → R (some (.int (-1 : Int32))) (xoS h (3 : Int32) fk8 fp9))
  : Ev G (d + 1) k n M_X_mark 0 [.ref 0] [] h R :=
  Ev.go (pc' := 1) (ls' := [.ref 0]) (st' := [.ref 0]) [.aload_n 0] (by decide +kernel) rfl <|
  Ev.getf f_X_26 (by decide +kernel) a1 rfl <|
  Ev.getf f_X_107 (by decide +kernel) a2 rfl <|
  Ev.go (pc' := 8) (ls' := [.ref 0]) (st' := [.int (3 : Int32), .int f_marked_6]) [.iconst 3] (by decide +kernel) rfl <|
  Ev.br (i := .if_icmp .lt (9)) (P := f_marked_6 < (3 : Int32)) (t := 17) (f := 11) (r := []) (by decide +kernel) rfl (fun c1 =>
    Ev.go (pc' := 18) (ls' := [.ref 0]) (st' := [.ref 0]) [.aload_n 0] (by decide +kernel) rfl <|
    Ev.getf f_X_26 (by decide +kernel) a1 rfl <|
    Ev.go (pc' := 22) (ls' := [.ref 0]) (st' := [.ref 0, .ref 18]) [.aload_n 0] (by decide +kernel) rfl <|
    Ev.getf f_X_10 (by decide +kernel) a1 rfl <|
    Ev.cV0 (M' := M_Hi_putMark) (as := [.ref 1]) (rest := []) l_X_186 M_Hi_putMark_ok M_Hi_putMark_in M_Hi_putMark_se (by decide +kernel) ⟨_, a2⟩ rfl rfl rfl (Nat.le_of_ble_eq_true rfl) (Nat.le_of_ble_eq_true rfl) (k1 c1)
  ) (fun c1 =>
    Ev.go (pc' := 13) (ls' := [.ref 0]) (st' := [.int (3 : Int32), .ref 0]) [.aload_n 0, .iconst 3] (by decide +kernel) rfl <|
    Ev.cV0 (M' := M_X_refuse) (as := [.int (3 : Int32)]) (rest := []) l_X_67 M_X_refuse_ok M_X_refuse_in M_X_refuse_se (by decide +kernel) ⟨_, a1⟩ rfl rfl rfl (Nat.le_of_ble_eq_true rfl) (Nat.le_of_ble_eq_true rfl) (s_X_refuse' (pr3 c1) <| show Ev G (d + 1) _ _ M_X_mark 16 [.ref 0] [.int (-1 : Int32)] (xoS h (3 : Int32) fk8 fp9) R from
      Ev.ret (r := (some (.int (-1 : Int32)))) (Or.inl ⟨_, rfl, by decide +kernel, _, rfl, rfl⟩) (k2 c1)
    )
  )
theorem b_X_mark_28 {G : ev_G} {d k n : Nat} {h : ev_H} {R : Option Value → ev_H → Prop} {f_latest_1 : Int32} {f_faultKind_2 : Int32} {f_faultPlace_3 : Int32} {f_first_4 : Int32} {f_kept_5 : Int32} {f_marked_6 : Int32} {la7 : Int32} {fk8 : Int32} {fp9 : Int32}
  (a1 : hat h 0 (oC 8 [.ref 1, .ref 5, .ref 18, .ref 81, .ref 98, .int f_latest_1, .int f_faultKind_2, .int f_faultPlace_3]))
  (a2 : hat h 18 (oC 2 [.ref 19, .ref 20, .int f_first_4, .int f_kept_5, .int f_marked_6]))
  (pr3 : XO h la7 fk8 fp9)
  (k1 : R (some (.int f_marked_6)) (xoS h 0 fk8 fp9))
  : Ev G (d + 1) k n M_X_mark 28 [.ref 0] [] h R :=
  Ev.go (pc' := 30) (ls' := [.ref 0]) (st' := [.ref 0, .ref 0]) [.aload_n 0, .aload_n 0] (by decide +kernel) rfl <|
  Ev.getf f_X_26 (by decide +kernel) a1 rfl <|
  Ev.getf f_X_107 (by decide +kernel) a2 rfl <|
  Ev.cV0 (M' := M_X_answer) (as := [.int f_marked_6]) (rest := []) l_X_87 M_X_answer_ok M_X_answer_in M_X_answer_se (by decide +kernel) ⟨_, a1⟩ rfl rfl rfl (Nat.le_of_ble_eq_true rfl) (Nat.le_of_ble_eq_true rfl) (s_X_answer' pr3 <| show Ev G (d + 1) _ _ M_X_mark 39 [.ref 0] [.int f_marked_6] (xoS h 0 fk8 fp9) R from
    Ev.ret (r := (some (.int f_marked_6))) (Or.inl ⟨_, rfl, by decide +kernel, _, rfl, rfl⟩) k1
  )
theorem b_X_back_0 {G : ev_G} {d k n : Nat} {h : ev_H} {R : Option Value → ev_H → Prop} {f_latest_1 : Int32} {f_faultKind_2 : Int32} {f_faultPlace_3 : Int32} {f_first_4 : Int32} {f_kept_5 : Int32} {f_marked_6 : Int32} {la7 : Int32} {fk8 : Int32} {fp9 : Int32}
  (a1 : hat h 0 (oC 8 [.ref 1, .ref 5, .ref 18, .ref 81, .ref 98, .int f_latest_1, .int f_faultKind_2, .int f_faultPlace_3]))
  (a2 : hat h 18 (oC 2 [.ref 19, .ref 20, .int f_first_4, .int f_kept_5, .int f_marked_6]))
  (pr3 : f_marked_6 = (0 : Int32) → XO h la7 fk8 fp9)
  (k1 : f_marked_6 = (0 : Int32) → R (some (.int (-1 : Int32))) (xoS h (5 : Int32) fk8 fp9))
  (k2 : ¬ f_marked_6 = (0 : Int32) → Ev G d 0 0 M_Hi_takeBackMark 0 [.ref 18, .ref 1] [] h (fun r h1 => Ev G (d + 1) k n M_X_back 27 [.ref 0] (r.toList ++ []) h1 R))
  : Ev G (d + 1) k n M_X_back 0 [.ref 0] [] h R :=
  Ev.go (pc' := 1) (ls' := [.ref 0]) (st' := [.ref 0]) [.aload_n 0] (by decide +kernel) rfl <|
  Ev.getf f_X_26 (by decide +kernel) a1 rfl <|
  Ev.getf f_X_107 (by decide +kernel) a2 rfl <|
  Ev.br (i := .ifCond .ne (9)) (P := f_marked_6 = (0 : Int32)) (t := 10) (f := 16) (r := []) (by decide +kernel) rfl (fun c1 =>
    Ev.go (pc' := 12) (ls' := [.ref 0]) (st' := [.int (5 : Int32), .ref 0]) [.aload_n 0, .iconst 5] (by decide +kernel) rfl <|
    Ev.cV0 (M' := M_X_refuse) (as := [.int (5 : Int32)]) (rest := []) l_X_67 M_X_refuse_ok M_X_refuse_in M_X_refuse_se (by decide +kernel) ⟨_, a1⟩ rfl rfl rfl (Nat.le_of_ble_eq_true rfl) (Nat.le_of_ble_eq_true rfl) (s_X_refuse' (pr3 c1) <| show Ev G (d + 1) _ _ M_X_back 15 [.ref 0] [.int (-1 : Int32)] (xoS h (5 : Int32) fk8 fp9) R from
      Ev.ret (r := (some (.int (-1 : Int32)))) (Or.inl ⟨_, rfl, by decide +kernel, _, rfl, rfl⟩) (k1 c1)
    )
  ) (fun c1 =>
    Ev.go (pc' := 17) (ls' := [.ref 0]) (st' := [.ref 0]) [.aload_n 0] (by decide +kernel) rfl <|
    Ev.getf f_X_26 (by decide +kernel) a1 rfl <|
    Ev.go (pc' := 21) (ls' := [.ref 0]) (st' := [.ref 0, .ref 18]) [.aload_n 0] (by decide +kernel) rfl <|
    Ev.getf f_X_10 (by decide +kernel) a1 rfl <|
    Ev.cV0 (M' := M_Hi_takeBackMark) (as := [.ref 1]) (rest := []) l_X_189 M_Hi_takeBackMark_ok M_Hi_takeBackMark_in M_Hi_takeBackMark_se (by decide +kernel) ⟨_, a2⟩ rfl rfl rfl (Nat.le_of_ble_eq_true rfl) (Nat.le_of_ble_eq_true rfl) (k2 c1)
  )
theorem b_X_back_27 {G : ev_G} {d k n : Nat} {h : ev_H} {R : Option Value → ev_H → Prop} {f_latest_1 : Int32} {f_faultKind_2 : Int32} {f_faultPlace_3 : Int32} {f_first_4 : Int32} {f_kept_5 : Int32} {f_marked_6 : Int32} {la7 : Int32} {fk8 : Int32} {fp9 : Int32}
  (a1 : hat h 0 (oC 8 [.ref 1, .ref 5, .ref 18, .ref 81, .ref 98, .int f_latest_1, .int f_faultKind_2, .int f_faultPlace_3]))
  (a2 : hat h 18 (oC 2 [.ref 19, .ref 20, .int f_first_4, .int f_kept_5, .int f_marked_6]))
  (pr3 : XO h la7 fk8 fp9)
  (k1 : R (some (.int f_marked_6)) (xoS h 0 fk8 fp9))
  : Ev G (d + 1) k n M_X_back 27 [.ref 0] [] h R :=
  Ev.go (pc' := 29) (ls' := [.ref 0]) (st' := [.ref 0, .ref 0]) [.aload_n 0, .aload_n 0] (by decide +kernel) rfl <|
  Ev.getf f_X_26 (by decide +kernel) a1 rfl <|
  Ev.getf f_X_107 (by decide +kernel) a2 rfl <|
  Ev.cV0 (M' := M_X_answer) (as := [.int f_marked_6]) (rest := []) l_X_87 M_X_answer_ok M_X_answer_in M_X_answer_se (by decide +kernel) ⟨_, a1⟩ rfl rfl rfl (Nat.le_of_ble_eq_true rfl) (Nat.le_of_ble_eq_true rfl) (s_X_answer' pr3 <| show Ev G (d + 1) _ _ M_X_back 38 [.ref 0] [.int f_marked_6] (xoS h 0 fk8 fp9) R from
    Ev.ret (r := (some (.int f_marked_6))) (Or.inl ⟨_, rfl, by decide +kernel, _, rfl, rfl⟩) k1
  )
section S29
variable {G : ev_G} {d : Nat} {h h1 h2 : ev_H} {R : Option Value → ev_H → Prop} {Q : QS}
theorem StR.co {a c : Nat} {S : AS} (H : StR h a S) (ha : a + 4 ≤ 126) {cof : Nat → Int64} (t3 : hat h (a + 2) (aL 32 cof)) {y : Int64} : StR (hset h (a + 2) (aL 32 (vp_updL cof c y))) a (flS S c y) := by
  obtain ⟨brf, tgf, cof', fv, t1, t2, t3', t4, e1, e2, F⟩ := H
  have K := (Kp.refl h (a + 2) (a + 3)).set (k := a + 2) (aL 32 (vp_updL cof c y)) (by omega) (by omega)
  have ec : cof' = cof := by
    have := t3'.2.symm.trans t3.2
    unfold aL at this; simp_all
  subst ec
  refine ⟨brf, tgf, vp_updL cof' c y, fv, hat_ne t1 (by omega), hat_ne t2 (by omega), hat_set t3, hat_ne t4 (by omega), e1, fun i hi => ⟨?_, (e2 i hi).2⟩, F.kg K.g (by omega)⟩
  show vp_updL cof' c y i = (if i = c then y else sCo S i)
  unfold vp_updL
  by_cases q : i = c
  · rw [if_pos q, if_pos q]
  · rw [if_neg q, if_neg q]; exact (e2 i hi).1
theorem StR.tg {a c t : Nat} {S : AS} {tI : Int32} (H : StR h a S) (ha : a + 4 ≤ 126) {tgf : Nat → Int32} (t4 : hat h (a + 3) (aI 32 tgf)) (ht : tI = nI t) : StR (hset h (a + 3) (aI 32 (upd tgf c tI))) a (tgS S c t) := by
  obtain ⟨brf, tgf', cof, fv, t1, t2, t3, t4', e1, e2, F⟩ := H
  have K := (Kp.refl h (a + 3) (a + 4)).set (k := a + 3) (aI 32 (upd tgf c tI)) (by omega) (by omega)
  have ec := aI_inj (t4'.2.symm.trans t4.2)
  subst ec
  subst ht
  refine ⟨brf, upd tgf' c (nI t), cof, fv, hat_ne t1 (by omega), hat_ne t2 (by omega), hat_ne t3 (by omega), hat_set t4, e1, fun i hi => ⟨(e2 i hi).1, ?_⟩, F.kg K.g (by omega)⟩
  show upd tgf' c (nI t) i = nI (if i = c then t else sTg S i)
  unfold upd
  by_cases q : i = c
  · rw [if_pos q, if_pos q]
  · rw [if_neg q, if_neg q]; exact (e2 i hi).2
theorem s_X_flip {x b : Int32} (H : XR h Q) (hR : ∀ h', Kg h h' 0 102 → XR h' (a_flip Q x b).2 → R (some (.int (a_flip Q x b).1)) h') : Ev G (d + 3) 0 0 M_X_flip 0 [.ref 0, .int x, .int b, ev_unk, ev_unk] [] h R := by
  have hz := H.szN
  have hzB := H.szB
  have g : ∀ {v l : Int32}, a_flip Q x b = (v, stQ Q l) → R (some (.int v)) (xoS h l (qFk Q) (qFp Q)) := fun e => H.finQ (Kg.refl _ _ _) hR e
  obtain ⟨brf, tgf, cof, fv, t1, t2, t3, t4, e1, e2, -⟩ := H.s
  have et : inR b (sB (qS Q)) = true → inR x (sN (qS Q)) = true → (cof (vN x) ^^^ ((1 : Int64) <<< (b.toInt64 &&& 63))) = a_turn (qS Q) x b := fun c1 c2 => by
    unfold a_turn
    rw [(e2 _ (vN_lt (by omega) c2).2).1, ← (vN_lt (by omega) c1).1]
  refine b_X_flip_0 H.x t1 t3 H.x H.s H.ok ⟨_, H.x⟩ (fun c1 => H.x) (fun c1 => ⟨_, H.x⟩) (fun c1 => H.x) (fun c1 => H.s) (fun c1 => H.ok) (fun c1 => ⟨_, H.x⟩) (fun c1 c2 => H.x) (fun c1 c2 => ⟨_, H.x⟩) (fun c1 c2 => ixv (b2i_n0 c2) hz (by decide)) (fun c1 c2 => H.s) (fun c1 c2 => H.ok) (fun c1 c2 c3 => H.hist.obj) (fun c1 c2 c3 => H.x) (fun c1 => g (by unfold a_flip; rw [(b2i_e0 c1)]; rfl)) (fun c1 c2 => g (by unfold a_flip; rw [if_pos (b2i_n0 c1), (b2i_e0 c2)]; rfl)) (fun c1 c2 c3 => ?_) (fun c1 c2 c3 => g (by have := (c3); rw [et (b2i_n0 c1) (b2i_n0 c2)] at this; unfold a_flip; rw [if_pos (b2i_n0 c1), if_pos (b2i_n0 c2), if_neg this]))
  have vb := vN_lt (by omega) (b2i_n0 c1)
  have vx := vN_lt (by omega) (b2i_n0 c2)
  rw [et (b2i_n0 c1) (b2i_n0 c2)] at c3 ⊢
  have e : a_flip Q x b = (b2i (lt (a_turn (qS Q) x b) (vN b)), actQ Q (flS (qS Q) (vN x) (a_turn (qS Q) x b))) := by unfold a_flip; rw [if_pos (b2i_n0 c1), if_pos (b2i_n0 c2), if_pos c3]
  rw [e] at hR
  have gd := H.gd.fp (c := vN x) (numB_xor (by omega) (H.gd.2.2.2 _ vx.2) (numB_one (by omega) vb.2)) c3
  clear g t1 t2 t3 t4 et e1 e2
  refine s_keepQ H fun h1 K1 H => ?_
  obtain ⟨brf, tgf, cof, fv, t1, t2, t3, t4, e1, e2, -⟩ := H.s
  have K2 := (Kp.refl h1 1 5).set (k := 1 + 2) (aL 32 (vp_updL cof (vN x) (a_turn (qS Q) x b))) (by omega) (by omega)
  have H2 : XR _ (flS (qS Q) (vN x) (a_turn (qS Q) x b), (keepQ Q).2) := H.store K2 (H.s.co (by omega) t3) gd
  refine b_X_flip_71 H.x t1 t3 (ixv (b2i_n0 c2) hz (by decide)) H2.x ?_
  have eb : tbL (a_turn (qS Q) x b) b = lt (a_turn (qS Q) x b) (vN b) := by
    have q := tbL_n (x := a_turn (qS Q) x b) (j := vN b) (by omega)
    rw [← vb.1] at q
    exact q
  rw [eb]
  exact H2.finQ (l := 0) (K1.trans (K2.g.wide (by omega) (by omega))) hR rfl
theorem inR_two {t : Int32} (h0 : ¬ t < 0) (h9 : ¬ (9 : Int32) < t) : inR t 10 = true := by
  obtain ⟨j, hj, rfl⟩ := nI_of h0
  rw [inR_nI hj, decide_eq_true_iff]
  have : ¬ 9 < j := fun z => h9 (nI_lt (a := 9) z hj)
  omega
theorem s_X_tag {x t : Int32} (H : XR h Q) (hR : ∀ h', Kg h h' 0 102 → XR h' (a_tag Q x t).2 → R (some (.int (a_tag Q x t).1)) h') : Ev G (d + 3) 0 0 M_X_tag 0 [.ref 0, .int x, .int t, ev_unk] [] h R := by
  have hz := H.szN
  have o9 := H.ok.2.2.2.2.2.2.1
  have g : ∀ {v l : Int32}, a_tag Q x t = (v, stQ Q l) → R (some (.int v)) (xoS h l (qFk Q) (qFp Q)) := fun e => H.finQ (Kg.refl _ _ _) hR e
  obtain ⟨brf, tgf, cof, fv, t1, t2, t3, t4, e1, e2, -⟩ := H.s
  have u : inR t 10 = true → inR x (sN (qS Q)) = true → (tgf (vN x) = t ↔ sTg (qS Q) (vN x) = vN t) := fun c1 c2 => by
    have vt := vN_lt (by omega) c1
    have := o9 _ (vN_lt (by omega) c2).2
    rw [(e2 _ (vN_lt (by omega) c2).2).2]
    conv => lhs; rw [vt.1]
    exact nI_eq (by omega) (by omega)
  refine b_X_tag_0 H.x t1 t4 (fun c1 => H.x) (fun c1 => ⟨_, H.x⟩) (fun c1 c2 => H.x) (fun c1 c2 => ⟨_, H.x⟩) (fun c1 c2 => H.x) (fun c1 c2 => H.s) (fun c1 c2 => H.ok) (fun c1 c2 => ⟨_, H.x⟩) (fun c1 c2 c3 => H.x) (fun c1 c2 c3 => ⟨_, H.x⟩) (fun c1 c2 c3 => ixv (b2i_n0 c3) hz (by decide)) (fun c1 c2 c3 c4 => H.x) (fun c1 c2 c3 c4 => H.hist.obj) (fun c1 => g (by unfold a_tag; rw [inR_no1 c1]; rfl)) (fun c1 c2 => g (by unfold a_tag; rw [show inR t 10 = false from inR_no2 (by decide) (fun z => by rw [Int32.lt_iff_toInt_lt] at c2 z; rw [show (9 : Int32).toInt = 9 from rfl] at c2; rw [show (nI 10).toInt = 10 from rfl] at z; omega)]; rfl)) (fun c1 c2 c3 => g (by unfold a_tag; rw [if_pos (inR_two c1 c2), (b2i_e0 c3)]; rfl)) (fun c1 c2 c3 c4 => g (by unfold a_tag; rw [if_pos (inR_two c1 c2), if_pos (b2i_n0 c3), if_pos ((u (inR_two c1 c2) (b2i_n0 c3)).mp c4)])) (fun c1 c2 c3 c4 => ?_)
  have vt := vN_lt (by omega) (inR_two c1 c2)
  have c := b2i_n0 c3
  have vx := vN_lt (by omega) c
  have e : a_tag Q x t = (nI (sTg (qS Q) (vN x)), actQ Q (tgS (qS Q) (vN x) (vN t))) := by unfold a_tag; rw [if_pos (inR_two c1 c2), if_pos c, if_neg (fun z => c4 ((u (inR_two c1 c2) c).mpr z))]
  rw [e] at hR
  rw [(e2 _ vx.2).2]
  have gd := H.gd.tg (c := vN x) (t := vN t) (by omega)
  clear g t1 t2 t3 t4 u e1 e2 c4
  refine s_keepQ H fun h1 K1 H => ?_
  obtain ⟨brf, tgf, cof, fv, t1, t2, t3, t4, e1, e2, -⟩ := H.s
  have K2 := (Kp.refl h1 1 5).set (k := 1 + 3) (aI 32 (upd tgf (vN x) t)) (by omega) (by omega)
  have H2 : XR _ (tgS (qS Q) (vN x) (vN t), (keepQ Q).2) := H.store K2 (H.s.tg (by omega) t4 vt.1) gd
  refine b_X_tag_62 H.x t1 t4 (ixv c hz (by decide)) H2.x ?_
  exact H2.finQ (l := 0) (K1.trans (K2.g.wide (by omega) (by omega))) hR rfl
theorem s_X_open (H : XR h Q) (hR : ∀ h', Kg h h' 0 102 → XR h' (a_open Q).2 → R (some (.int (a_open Q).1)) h') : Ev G (d + 3) 0 0 M_X_open 0 [.ref 0] [] h R := by
  obtain ⟨brf, tgf, cof, fv, t1, t2, t3, t4, e1, e2, hv⟩ := H.s
  rcases hv with ⟨hn, rfl⟩ | ⟨hn, f, rfl, -, hF⟩
  · refine b_X_open_0n H.x t1 H.x (H.finQ (Kg.refl _ _ _) hR (by unfold a_open; rw [hn]; rfl))
  · have em : (sFl (qS Q)).isEmpty = false := by cases q : sFl (qS Q) <;> simp_all
    refine b_X_open_0r H.x t1 H.hist.obj ?_
    have e : a_open Q = (0, actQ Q (opS (qS Q))) := by unfold a_open; rw [em]; rfl
    rw [e] at hR
    have gd := H.gd.op
    clear t1 t2 t3 t4 e1 e2 hF
    refine s_keepQ H fun h1 K1 H => ?_
    obtain ⟨brf, tgf, cof, fv, t1, t2, t3, t4, e1, e2, hv⟩ := H.s
    have hn' : sFl (qS (keepQ Q)) ≠ [] := hn
    obtain ⟨-, f, rfl, -, hF⟩ := hv.resolve_left fun z => hn' z.1
    have K2 := (Kp.refl h1 1 5).set (k := 1) (oC 6 [.int (nI (sB (qS Q))), .int (nI (sP (qS Q))), .ref (1 + 1), .int (nI (sN (qS Q))), .ref (1 + 2), .ref (1 + 3), .null]) (by omega) (by omega)
    have st : StR (hset h1 1 (oC 6 [.int (nI (sB (qS Q))), .int (nI (sP (qS Q))), .ref (1 + 1), .int (nI (sN (qS Q))), .ref (1 + 2), .ref (1 + 3), .null])) 1 (opS (qS Q)) := ⟨brf, tgf, cof, .null, hat_set t1, hat_ne t2 (by omega), hat_ne t3 (by omega), hat_ne t4 (by omega), e1, e2, Or.inl ⟨rfl, rfl⟩⟩
    have H2 : XR _ (opS (qS Q), (keepQ Q).2) := H.store K2 st gd
    refine b_X_open_27r H.x t1 H2.x ?_
    exact H2.finQ (l := 0) (K1.trans (K2.g.wide (by omega) (by omega))) hR rfl
theorem s_X_undo (H : XR h Q) (hR : ∀ h', Kg h h' 0 102 → XR h' (a_undo Q).2 → R (some (.int (a_undo Q).1)) h') : Ev G (d + 3) 0 0 M_X_undo 0 [.ref 0] [] h R := by
  obtain ⟨first, ga, gm, l1, l2, l3, g1, -⟩ := H.hist
  refine b_X_undo_0 H.x g1 (fun c1 => H.x) (fun c1 => H.finQ (Kg.refl _ _ _) hR (by unfold a_undo; rw [if_pos ((nI_eq (b := 0) (by omega) (by omega)).mp c1)])) (fun c1 => ?_)
  have c : qKn Q ≠ 0 := fun z => c1 (by rw [z]; rfl)
  obtain ⟨kn, ek⟩ : ∃ kn, qKn Q = kn + 1 := ⟨qKn Q - 1, by omega⟩
  have e : a_undo Q = (nI (qKn Q - 1), undoQ Q) := by unfold a_undo; rw [if_neg c]
  rw [e] at hR
  have hh := H.hist
  rw [ek] at hh
  have gd := H.1.2.1 kn (by omega)
  refine s_Hi_takeBackAct hh H.s gd.1 fun h1 h2 K1 K2 hi2 st2 => ?_
  have KK := (K1.wide (lo' := 0) (hi' := 102) (by omega) (by omega)).trans (K2.wide (by omega) (by omega))
  have H2 : XR h2 (qKa Q kn, (kn, qKa Q), Q.2.2) := ⟨⟨gd, fun i hi => H.1.2.1 i (by have hi : i < kn := hi; omega), H.1.2.2.1, by have := H.1.2.2.2.1; show kn ≤ 12; omega, H.1.2.2.2.2⟩, (H.x.kg K1.g (by omega)).kg K2.g (by omega), st2, hi2, (H.ta.kg K1.g (by omega)).kg K2.g (by omega), (H.bu.kg K1.g (by omega)).kg K2.g (by omega), (H.ra.kg K1.g (by omega)).kg K2.g (by omega), (H.re.kg K1.g (by omega)).kg K2.g (by omega), (H.sp.kg K1.g (by omega)).kg K2.g (by omega), (H.st.kg K1.g (by omega) (by omega)).kg K2.g (by omega) (by omega), Nat.le_trans H.num KK.g.1⟩
  obtain ⟨first, ga, gm, l1, l2, l3, g1, -⟩ := hi2
  have H := H2
  refine b_X_undo_27 H.x g1 H.x ?_
  refine H.finQ (l := 0) KK.g hR ?_
  unfold undoQ
  rw [ek, Nat.add_sub_cancel]; rfl
theorem s_X_mark (H : XR h Q) (hR : ∀ h', Kg h h' 0 102 → XR h' (a_mark Q).2 → R (some (.int (a_mark Q).1)) h') : Ev G (d + 3) 0 0 M_X_mark 0 [.ref 0] [] h R := by
  obtain ⟨first, ga, gm, l1, l2, l3, g1, -⟩ := H.hist
  have u : nI (qMn Q) < 3 ↔ qMn Q < 3 := nI_ltI (b := 3) (by omega) (by omega)
  refine b_X_mark_0 H.x g1 (fun c1 => H.x) (fun c1 => ?_) (fun c1 => H.finQ (Kg.refl _ _ _) hR (by unfold a_mark; rw [if_neg (fun z => c1 (u.mpr z))]))
  have c := u.mp c1
  have e : a_mark Q = (nI (qMn Q + 1), markQ Q) := by unfold a_mark; rw [if_pos c]
  rw [e] at hR
  refine s_Hi_putMark H.hist c H.s H.ok fun h1 K1 hi1 => ?_
  have H2 : XR h1 (qS Q, Q.2.1, (qMn Q + 1, fun i => if i = qMn Q then qS Q else qMa Q i), Q.2.2.2) := ⟨⟨H.gd, H.1.2.1, fun i hi => by
      have hi : i < qMn Q + 1 := hi
      show sGd (if i = qMn Q then qS Q else qMa Q i)
      by_cases q : i = qMn Q
      · rw [if_pos q]; exact H.gd
      · rw [if_neg q]; exact H.1.2.2.1 i (by omega), H.1.2.2.2.1, c, H.1.2.2.2.2.2⟩, H.x.kg K1.g (by omega), H.s.kp K1 (by omega) (by omega), hi1, H.ta.kg K1.g (by omega), H.bu.kg K1.g (by omega), H.ra.kg K1.g (by omega), H.re.kg K1.g (by omega), H.sp.kg K1.g (by omega), H.st.kg K1.g (by omega) (by omega), Nat.le_trans H.num K1.g.1⟩
  obtain ⟨first, ga, gm, l1, l2, l3, g1, -⟩ := hi1
  have H := H2
  refine b_X_mark_28 H.x g1 H.x ?_
  exact H.finQ (l := 0) (K1.g.wide (by omega) (by omega)) hR rfl
theorem s_X_back (H : XR h Q) (hR : ∀ h', Kg h h' 0 102 → XR h' (a_back Q).2 → R (some (.int (a_back Q).1)) h') : Ev G (d + 3) 0 0 M_X_back 0 [.ref 0] [] h R := by
  obtain ⟨first, ga, gm, l1, l2, l3, g1, -⟩ := H.hist
  refine b_X_back_0 H.x g1 (fun c1 => H.x) (fun c1 => H.finQ (Kg.refl _ _ _) hR (by unfold a_back; rw [if_pos ((nI_eq (b := 0) (by omega) (by omega)).mp c1)])) (fun c1 => ?_)
  have c : qMn Q ≠ 0 := fun z => c1 (by rw [z]; rfl)
  obtain ⟨mn, ek⟩ : ∃ mn, qMn Q = mn + 1 := ⟨qMn Q - 1, by omega⟩
  have e : a_back Q = (nI (qMn Q - 1), backQ Q) := by unfold a_back; rw [if_neg c]
  rw [e] at hR
  have hh := H.hist
  rw [ek] at hh
  have gd := H.1.2.2.1 mn (by omega)
  refine s_Hi_takeBackMark hh H.s gd.1 fun h1 h2 h3 K1 K2 K3 hi3 st3 => ?_
  have KK := ((K1.wide (lo' := 0) (hi' := 102) (by omega) (by omega)).trans (K2.wide (by omega) (by omega))).trans (K3.wide (by omega) (by omega))
  have H2 : XR h3 (qMa Q mn, (0, qKa Q), (mn, qMa Q), Q.2.2.2) := ⟨⟨gd, fun i hi => absurd hi (Nat.not_lt_zero i), fun i hi => H.1.2.2.1 i (by have hi : i < mn := hi; omega), by show 0 ≤ 12; omega, by have := H.1.2.2.2.2.1; show mn ≤ 3; omega, H.1.2.2.2.2.2⟩, ((H.x.kg K1.g (by omega)).kg K2.g (by omega)).kg K3.g (by omega), st3, hi3, ((H.ta.kg K1.g (by omega)).kg K2.g (by omega)).kg K3.g (by omega), ((H.bu.kg K1.g (by omega)).kg K2.g (by omega)).kg K3.g (by omega), ((H.ra.kg K1.g (by omega)).kg K2.g (by omega)).kg K3.g (by omega), ((H.re.kg K1.g (by omega)).kg K2.g (by omega)).kg K3.g (by omega), ((H.sp.kg K1.g (by omega)).kg K2.g (by omega)).kg K3.g (by omega), ((H.st.kg K1.g (by omega) (by omega)).kg K2.g (by omega) (by omega)).kg K3.g (by omega) (by omega), Nat.le_trans H.num KK.g.1⟩
  obtain ⟨first, ga, gm, l1, l2, l3, g1, -⟩ := hi3
  have H := H2
  refine b_X_back_27 H.x g1 H.x ?_
  refine H.finQ (l := 0) KK.g hR ?_
  unfold backQ
  rw [ek, Nat.add_sub_cancel]; rfl
end S29
