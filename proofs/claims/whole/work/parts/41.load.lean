/-! load, feed, status: the last calls of the class -/
theorem b_Re_place_0 {G : ev_G} {d k n : Nat} {h : ev_H} {R : Option Value → ev_H → Prop} {f_length_1 : Int32} {f_kind_2 : Int32} {f_start_3 : Int32} {f_end_4 : Int32}
  (a1 : hat h 5 (oC 4 [.ref 6, .ref 12, .ref 14, .ref 13, .int f_length_1, .int f_kind_2, .int f_start_3, .int f_end_4]))
  (k1 : R (some (.int f_start_3)) h)
  : Ev G d k n M_Re_place 0 [.ref 5] [] h R :=
  Ev.go (pc' := 1) (ls' := [.ref 5]) (st' := [.ref 5]) [.aload_n 0] (by decide +kernel) rfl <|
  Ev.getf f_Re_46 (by decide +kernel) a1 rfl <|
  Ev.ret (r := (some (.int f_start_3))) (Or.inl ⟨_, rfl, by decide +kernel, _, rfl, rfl⟩) k1
theorem b_X_load_0 {G : ev_G} {d k n : Nat} {h : ev_H} {R : Option Value → ev_H → Prop} {x1 : Int32} {la1 : Int32} {fk2 : Int32} {fp3 : Int32} {f_latest_4 : Int32} {f_faultKind_5 : Int32} {f_faultPlace_6 : Int32} {f_length_7 : Int32} {f_kind_8 : Int32} {f_start_9 : Int32} {f_end_10 : Int32} {f_size_11 : Int32} {la12 : Int32} {fk13 : Int32} {fp14 : Int32}
  (a3 : hat h 0 (oC 8 [.ref 1, .ref 5, .ref 18, .ref 81, .ref 98, .int f_latest_4, .int f_faultKind_5, .int f_faultPlace_6]))
  (a4 : hat h 5 (oC 4 [.ref 6, .ref 12, .ref 14, .ref 13, .int f_length_7, .int f_kind_8, .int f_start_9, .int f_end_10]))
  (a5 : hat h 12 (oC 7 [.ref 13, .int f_size_11]))
  (pr1 : x1 < (0 : Int32) → XO h la1 fk2 fp3)
  (r2 : x1 < (0 : Int32) → ∃ fs, hat h 0 (oC 8 fs))
  (pr6 : ¬ x1 < (0 : Int32) → f_size_11 < x1 → XO h la12 fk13 fp14)
  (k1 : x1 < (0 : Int32) → R (some (.int (-1 : Int32))) (xoS h (1 : Int32) fk2 fp3))
  (k2 : ¬ x1 < (0 : Int32) → f_size_11 < x1 → R (some (.int (-1 : Int32))) (xoS h (1 : Int32) fk13 fp14))
  (k3 : ¬ x1 < (0 : Int32) → ¬ f_size_11 < x1 → Ev G (d + 1) k n M_X_load 24 [.ref 0, .int x1] [] h R)
  : Ev G (d + 1) k n M_X_load 0 [.ref 0, .int x1] [] h R :=
  Ev.go (pc' := 1) (ls' := [.ref 0, .int x1]) (st' := [.int x1]) [.iload_n 1] (by decide +kernel) rfl <|
  Ev.br (i := .ifCond .lt (17)) (P := x1 < (0 : Int32)) (t := 18) (f := 4) (r := []) (by decide +kernel) rfl (fun c1 =>
    Ev.go (pc' := 20) (ls' := [.ref 0, .int x1]) (st' := [.int (1 : Int32), .ref 0]) [.aload_n 0, .iconst 1] (by decide +kernel) rfl <|
    Ev.cV0 (M' := M_X_refuse) (as := [.int (1 : Int32)]) (rest := []) l_X_67 M_X_refuse_ok M_X_refuse_in M_X_refuse_se (by decide +kernel) (r2 c1) rfl rfl rfl (Nat.le_of_ble_eq_true rfl) (Nat.le_of_ble_eq_true rfl) (s_X_refuse' (pr1 c1) <| show Ev G (d + 1) _ _ M_X_load 23 [.ref 0, .int x1] [.int (-1 : Int32)] (xoS h (1 : Int32) fk2 fp3) R from
      Ev.ret (r := (some (.int (-1 : Int32)))) (Or.inl ⟨_, rfl, by decide +kernel, _, rfl, rfl⟩) (k1 c1)
    )
  ) (fun c1 =>
    Ev.go (pc' := 6) (ls' := [.ref 0, .int x1]) (st' := [.ref 0, .int x1]) [.iload_n 1, .aload_n 0] (by decide +kernel) rfl <|
    Ev.getf f_X_19 (by decide +kernel) a3 rfl <|
    Ev.getf f_X_54 (by decide +kernel) a4 rfl <|
    Ev.getf f_X_58 (by decide +kernel) a5 rfl <|
    Ev.br (i := .if_icmp .le (9)) (P := f_size_11 < x1) (t := 18) (f := 24) (r := []) (by decide +kernel) rfl (fun c2 =>
      Ev.go (pc' := 20) (ls' := [.ref 0, .int x1]) (st' := [.int (1 : Int32), .ref 0]) [.aload_n 0, .iconst 1] (by decide +kernel) rfl <|
      Ev.cV0 (M' := M_X_refuse) (as := [.int (1 : Int32)]) (rest := []) l_X_67 M_X_refuse_ok M_X_refuse_in M_X_refuse_se (by decide +kernel) ⟨_, a3⟩ rfl rfl rfl (Nat.le_of_ble_eq_true rfl) (Nat.le_of_ble_eq_true rfl) (s_X_refuse' (pr6 c1 c2) <| show Ev G (d + 1) _ _ M_X_load 23 [.ref 0, .int x1] [.int (-1 : Int32)] (xoS h (1 : Int32) fk13 fp14) R from
        Ev.ret (r := (some (.int (-1 : Int32)))) (Or.inl ⟨_, rfl, by decide +kernel, _, rfl, rfl⟩) (k2 c1 c2)
      )
    ) (fun c2 =>
      (k3 c1 c2)
    )
  )
theorem b_X_load_24 {G : ev_G} {d k n : Nat} {h : ev_H} {R : Option Value → ev_H → Prop} {x1 : Int32} {f_latest_1 : Int32} {f_faultKind_2 : Int32} {f_faultPlace_3 : Int32} {m4 : Nat}
  (a1 : hat h 0 (oC 8 [.ref 1, .ref 5, .ref 18, .ref 81, .ref 98, .int f_latest_1, .int f_faultKind_2, .int f_faultPlace_3]))
  (r2 : ∃ fs, hat h 5 (oC 4 fs))
  (k1 : Ev G d 6 m4 M_Re_read 0 [.ref 5, .int x1, ev_unk, ev_unk] [] h (fun r h1 => Ev G (d + 1) k n M_X_load 33 [.ref 0, .int x1] (r.toList ++ [.ref 0]) h1 R))
  : Ev G (d + 1) (6 + k) (m4 + n) M_X_load 24 [.ref 0, .int x1] [] h R :=
  Ev.go (pc' := 26) (ls' := [.ref 0, .int x1]) (st' := [.ref 0, .ref 0]) [.aload_n 0, .aload_n 0] (by decide +kernel) rfl <|
  Ev.getf f_X_19 (by decide +kernel) a1 rfl <|
  Ev.go (pc' := 30) (ls' := [.ref 0, .int x1]) (st' := [.int x1, .ref 5, .ref 0]) [.iload_n 1] (by decide +kernel) rfl <|
  Ev.cV (M' := M_Re_read) (as := [.int x1]) (rest := [.ref 0]) l_X_71 M_Re_read_ok M_Re_read_in M_Re_read_se (by decide +kernel) r2 rfl rfl rfl (Nat.le_of_ble_eq_true rfl) (Nat.le_of_ble_eq_true rfl) k1
theorem b_X_load_33 {G : ev_G} {d k n : Nat} {h : ev_H} {R : Option Value → ev_H → Prop} {x1 : Int32} {y1 : Int32} {f_latest_1 : Int32} {f_faultKind_2 : Int32} {f_faultPlace_3 : Int32}
  (a1 : hat h 0 (oC 8 [.ref 1, .ref 5, .ref 18, .ref 81, .ref 98, .int f_latest_1, .int f_faultKind_2, .int f_faultPlace_3]))
  (r2 : ¬ y1 = (0 : Int32) → ∃ fs, hat (hset h 0 (oC 8 [.ref 1, .ref 5, .ref 18, .ref 81, .ref 98, .int f_latest_1, .int y1, .int f_faultPlace_3])) 5 (oC 4 fs))
  (k1 : y1 = (0 : Int32) → Ev G (d + 1) k n M_X_load 55 [.ref 0, .int x1] [.int (-1 : Int32), .ref 0] (hset h 0 (oC 8 [.ref 1, .ref 5, .ref 18, .ref 81, .ref 98, .int f_latest_1, .int y1, .int f_faultPlace_3])) R)
  (k2 : ¬ y1 = (0 : Int32) → Ev G d 0 0 M_Re_place 0 [.ref 5] [] (hset h 0 (oC 8 [.ref 1, .ref 5, .ref 18, .ref 81, .ref 98, .int f_latest_1, .int y1, .int f_faultPlace_3])) (fun r h1 => Ev G (d + 1) k n M_X_load 55 [.ref 0, .int x1] (r.toList ++ [.ref 0]) h1 R))
  : Ev G (d + 1) k n M_X_load 33 [.ref 0, .int x1] [.int y1, .ref 0] h R :=
  Ev.putf f_X_48 (by decide +kernel) a1 (Nat.le_of_ble_eq_true rfl) rfl (fun q => nomatch q) <| show Ev G (d + 1) _ _ M_X_load 36 [.ref 0, .int x1] [] (hset h 0 (oC 8 [.ref 1, .ref 5, .ref 18, .ref 81, .ref 98, .int f_latest_1, .int y1, .int f_faultPlace_3])) R from
  Ev.go (pc' := 38) (ls' := [.ref 0, .int x1]) (st' := [.ref 0, .ref 0]) [.aload_n 0, .aload_n 0] (by decide +kernel) rfl <|
  Ev.getf f_X_48 (by decide +kernel) (hat_set a1) rfl <|
  Ev.br (i := .ifCond .ne (7)) (P := y1 = (0 : Int32)) (t := 44) (f := 48) (r := [.ref 0]) (by decide +kernel) rfl (fun c1 =>
    Ev.go (pc' := 55) (ls' := [.ref 0, .int x1]) (st' := [.int (-1 : Int32), .ref 0]) [.iconst (-1), .goto (10)] (by decide +kernel) rfl <|
    (k1 c1)
  ) (fun c1 =>
    Ev.go (pc' := 49) (ls' := [.ref 0, .int x1]) (st' := [.ref 0, .ref 0]) [.aload_n 0] (by decide +kernel) rfl <|
    Ev.getf f_X_19 (by decide +kernel) (hat_set a1) rfl <|
    Ev.cV0 (M' := M_Re_place) (as := []) (rest := [.ref 0]) l_X_74 M_Re_place_ok M_Re_place_in M_Re_place_se (by decide +kernel) (r2 c1) rfl rfl rfl (Nat.le_of_ble_eq_true rfl) (Nat.le_of_ble_eq_true rfl) (k2 c1)
  )
theorem b_X_load_55 {G : ev_G} {d k n : Nat} {h : ev_H} {R : Option Value → ev_H → Prop} {x1 : Int32} {y1 : Int32} {f_latest_1 : Int32} {f_faultKind_2 : Int32} {f_faultPlace_3 : Int32} {f_length_4 : Int32} {f_kind_5 : Int32} {f_start_6 : Int32} {f_end_7 : Int32} {f_size_8 : Int32} {la9 : Int32} {fk10 : Int32} {fp11 : Int32}
  (a1 : hat h 0 (oC 8 [.ref 1, .ref 5, .ref 18, .ref 81, .ref 98, .int f_latest_1, .int f_faultKind_2, .int f_faultPlace_3]))
  (a2 : hat h 5 (oC 4 [.ref 6, .ref 12, .ref 14, .ref 13, .int f_length_4, .int f_kind_5, .int f_start_6, .int f_end_7]))
  (a3 : hat h 12 (oC 7 [.ref 13, .int f_size_8]))
  (pr4 : ¬ f_faultKind_2 = (0 : Int32) → XO (hset (hset h 0 (oC 8 [.ref 1, .ref 5, .ref 18, .ref 81, .ref 98, .int f_latest_1, .int f_faultKind_2, .int y1])) 12 (oC 7 [.ref 13, .int (0 : Int32)])) la9 fk10 fp11)
  (k1 : f_faultKind_2 = (0 : Int32) → Ev G (d + 1) k n M_X_load 83 [.ref 0, .int x1] [] (hset (hset h 0 (oC 8 [.ref 1, .ref 5, .ref 18, .ref 81, .ref 98, .int f_latest_1, .int f_faultKind_2, .int y1])) 12 (oC 7 [.ref 13, .int (0 : Int32)])) R)
  (k2 : ¬ f_faultKind_2 = (0 : Int32) → R (some (.int (-1 : Int32))) (xoS (hset (hset h 0 (oC 8 [.ref 1, .ref 5, .ref 18, .ref 81, .ref 98, .int f_latest_1, .int f_faultKind_2, .int y1])) 12 (oC 7 [.ref 13, .int (0 : Int32)])) (9 : Int32) fk10 fp11))
  : Ev G (d + 1) k n M_X_load 55 [.ref 0, .int x1] [.int y1, .ref 0] h R :=
  Ev.putf f_X_51 (by decide +kernel) a1 (Nat.le_of_ble_eq_true rfl) rfl (fun q => nomatch q) <| show Ev G (d + 1) _ _ M_X_load 58 [.ref 0, .int x1] [] (hset h 0 (oC 8 [.ref 1, .ref 5, .ref 18, .ref 81, .ref 98, .int f_latest_1, .int f_faultKind_2, .int y1])) R from
  Ev.go (pc' := 59) (ls' := [.ref 0, .int x1]) (st' := [.ref 0]) [.aload_n 0] (by decide +kernel) rfl <|
  Ev.getf f_X_19 (by decide +kernel) (hat_set a1) rfl <|
  Ev.getf f_X_54 (by decide +kernel) (hat_ne a2 (by decide)) rfl <|
  Ev.go (pc' := 66) (ls' := [.ref 0, .int x1]) (st' := [.int (0 : Int32), .ref 12]) [.iconst 0] (by decide +kernel) rfl <|
  Ev.putf f_X_58 (by decide +kernel) (hat_ne a3 (by decide)) (Nat.le_of_ble_eq_true rfl) rfl (fun q => nomatch q) <| show Ev G (d + 1) _ _ M_X_load 69 [.ref 0, .int x1] [] (hset (hset h 0 (oC 8 [.ref 1, .ref 5, .ref 18, .ref 81, .ref 98, .int f_latest_1, .int f_faultKind_2, .int y1])) 12 (oC 7 [.ref 13, .int (0 : Int32)])) R from
  Ev.go (pc' := 70) (ls' := [.ref 0, .int x1]) (st' := [.ref 0]) [.aload_n 0] (by decide +kernel) rfl <|
  Ev.getf f_X_48 (by decide +kernel) (hat_ne (hat_set a1) (by decide)) rfl <|
  Ev.br (i := .ifCond .eq (10)) (P := f_faultKind_2 = (0 : Int32)) (t := 83) (f := 76) (r := []) (by decide +kernel) rfl (fun c1 =>
    (k1 c1)
  ) (fun c1 =>
    Ev.go (pc' := 79) (ls' := [.ref 0, .int x1]) (st' := [.int (9 : Int32), .ref 0]) [.aload_n 0, .bipush (9)] (by decide +kernel) rfl <|
    Ev.cV0 (M' := M_X_refuse) (as := [.int (9 : Int32)]) (rest := []) l_X_67 M_X_refuse_ok M_X_refuse_in M_X_refuse_se (by decide +kernel) ⟨_, (hat_ne (hat_set a1) (by decide))⟩ rfl rfl rfl (Nat.le_of_ble_eq_true rfl) (Nat.le_of_ble_eq_true rfl) (s_X_refuse' (pr4 c1) <| show Ev G (d + 1) _ _ M_X_load 82 [.ref 0, .int x1] [.int (-1 : Int32)] (xoS (hset (hset h 0 (oC 8 [.ref 1, .ref 5, .ref 18, .ref 81, .ref 98, .int f_latest_1, .int f_faultKind_2, .int y1])) 12 (oC 7 [.ref 13, .int (0 : Int32)])) (9 : Int32) fk10 fp11) R from
      Ev.ret (r := (some (.int (-1 : Int32)))) (Or.inl ⟨_, rfl, by decide +kernel, _, rfl, rfl⟩) (k2 c1)
    )
  )
theorem b_X_load_83 {G : ev_G} {d k n : Nat} {h : ev_H} {R : Option Value → ev_H → Prop} {x1 : Int32} {f_latest_1 : Int32} {f_faultKind_2 : Int32} {f_faultPlace_3 : Int32}
  (a1 : hat h 0 (oC 8 [.ref 1, .ref 5, .ref 18, .ref 81, .ref 98, .int f_latest_1, .int f_faultKind_2, .int f_faultPlace_3]))
  (r2 : ∃ fs, hat h 18 (oC 2 fs))
  (k1 : Ev G d 0 0 M_Hi_keep 0 [.ref 18, .ref 1] [] h (fun r h1 => Ev G (d + 1) k n M_X_load 94 [.ref 0, .int x1] (r.toList ++ []) h1 R))
  : Ev G (d + 1) k n M_X_load 83 [.ref 0, .int x1] [] h R :=
  Ev.go (pc' := 84) (ls' := [.ref 0, .int x1]) (st' := [.ref 0]) [.aload_n 0] (by decide +kernel) rfl <|
  Ev.getf f_X_26 (by decide +kernel) a1 rfl <|
  Ev.go (pc' := 88) (ls' := [.ref 0, .int x1]) (st' := [.ref 0, .ref 18]) [.aload_n 0] (by decide +kernel) rfl <|
  Ev.getf f_X_10 (by decide +kernel) a1 rfl <|
  Ev.cV0 (M' := M_Hi_keep) (as := [.ref 1]) (rest := []) l_X_78 M_Hi_keep_ok M_Hi_keep_in M_Hi_keep_se (by decide +kernel) r2 rfl rfl rfl (Nat.le_of_ble_eq_true rfl) (Nat.le_of_ble_eq_true rfl) k1
theorem b_X_load_94 {G : ev_G} {d k n : Nat} {h : ev_H} {R : Option Value → ev_H → Prop} {x1 : Int32} {f_latest_1 : Int32} {f_faultKind_2 : Int32} {f_faultPlace_3 : Int32} {f_length_4 : Int32} {f_kind_5 : Int32} {f_start_6 : Int32} {f_end_7 : Int32}
  (a1 : hat h 0 (oC 8 [.ref 1, .ref 5, .ref 18, .ref 81, .ref 98, .int f_latest_1, .int f_faultKind_2, .int f_faultPlace_3]))
  (a2 : hat h 5 (oC 4 [.ref 6, .ref 12, .ref 14, .ref 13, .int f_length_4, .int f_kind_5, .int f_start_6, .int f_end_7]))
  (r3 : ∃ fs, hat h 1 (oC 6 fs))
  (k1 : Ev G d 0 0 M_St_become 0 [.ref 1, .ref 14] [] h (fun r h1 => Ev G (d + 1) k n M_X_load 108 [.ref 0, .int x1] (r.toList ++ []) h1 R))
  : Ev G (d + 1) k n M_X_load 94 [.ref 0, .int x1] [] h R :=
  Ev.go (pc' := 95) (ls' := [.ref 0, .int x1]) (st' := [.ref 0]) [.aload_n 0] (by decide +kernel) rfl <|
  Ev.getf f_X_10 (by decide +kernel) a1 rfl <|
  Ev.go (pc' := 99) (ls' := [.ref 0, .int x1]) (st' := [.ref 0, .ref 1]) [.aload_n 0] (by decide +kernel) rfl <|
  Ev.getf f_X_19 (by decide +kernel) a1 rfl <|
  Ev.getf f_X_82 (by decide +kernel) a2 rfl <|
  Ev.cV0 (M' := M_St_become) (as := [.ref 14]) (rest := []) l_X_83 M_St_become_ok M_St_become_in M_St_become_se (by decide +kernel) r3 rfl rfl rfl (Nat.le_of_ble_eq_true rfl) (Nat.le_of_ble_eq_true rfl) k1
theorem b_X_load_108 {G : ev_G} {d k n : Nat} {h : ev_H} {R : Option Value → ev_H → Prop} {x1 : Int32} {f_latest_1 : Int32} {f_faultKind_2 : Int32} {f_faultPlace_3 : Int32} {f_bits_4 : Int32} {f_parts_5 : Int32} {f_size_6 : Int32} {fv7 : Value} {la8 : Int32} {fk9 : Int32} {fp10 : Int32}
  (a1 : hat h 0 (oC 8 [.ref 1, .ref 5, .ref 18, .ref 81, .ref 98, .int f_latest_1, .int f_faultKind_2, .int f_faultPlace_3]))
  (a2 : hat h 1 (oC 6 [.int f_bits_4, .int f_parts_5, .ref 2, .int f_size_6, .ref 3, .ref 4, fv7]))
  (pr3 : XO h la8 fk9 fp10)
  (k1 : R (some (.int f_size_6)) (xoS h 0 fk9 fp10))
  : Ev G (d + 1) k n M_X_load 108 [.ref 0, .int x1] [] h R :=
  Ev.go (pc' := 110) (ls' := [.ref 0, .int x1]) (st' := [.ref 0, .ref 0]) [.aload_n 0, .aload_n 0] (by decide +kernel) rfl <|
  Ev.getf f_X_10 (by decide +kernel) a1 rfl <|
  Ev.getf f_X_86 (by decide +kernel) a2 rfl <|
  Ev.cV0 (M' := M_X_answer) (as := [.int f_size_6]) (rest := []) l_X_87 M_X_answer_ok M_X_answer_in M_X_answer_se (by decide +kernel) ⟨_, a1⟩ rfl rfl rfl (Nat.le_of_ble_eq_true rfl) (Nat.le_of_ble_eq_true rfl) (s_X_answer' pr3 <| show Ev G (d + 1) _ _ M_X_load 119 [.ref 0, .int x1] [.int f_size_6] (xoS h 0 fk9 fp10) R from
    Ev.ret (r := (some (.int f_size_6))) (Or.inl ⟨_, rfl, by decide +kernel, _, rfl, rfl⟩) k1
  )
section S41
variable {G : ev_G} {d k n : Nat} {h : ev_H} {R : Option Value → ev_H → Prop} {B : Nat → Nat} {L : Nat} {T : Tk} {S : AS} {Q : QS}
theorem s_Re_end {r : LR} {x : Int32} {i : Nat} (HB : ReB h L r.2.1) (HT : TkOk B L r.2.1) (c : ¬ r.1 = 0) (c6 : r.1 ≤ 6) (fin : R (some (.int (nI (pFault r)))) h) : Ev G (d + 28) k n M_Re_read 74 [.ref 5, .int x, .int (nI r.1), .int (nI i)] [] h R := by
  have hf : pFault r = if r.2.1.1 = 1 then 1 else r.1 := if_neg c
  have cn : ¬ nI r.1 = 0 := fun z => c ((nI_eq (b := 0) (by omega) (by omega)).mp z)
  have ul : nI r.2.1.1 = 1 ↔ r.2.1.1 = 1 := nI_eq (b := 1) (by have := HT.1; omega) (by omega)
  rw [hf] at fin
  refine b_Re_read_74 HB (fun c1 c2 => absurd c2 cn) (fun c1 c2 c3 => by rw [if_pos (ul.mp c3)] at fin; exact fin) (fun c1 c2 c3 => by rw [if_neg (fun z => c3 (ul.mpr z))] at fin; exact fin) (fun c1 c2 => absurd c2 cn) (fun c1 c2 c3 => absurd c3 cn) (fun c1 c2 c3 c4 => by rw [if_pos (ul.mp c4)] at fin; exact fin) (fun c1 c2 c3 c4 => by rw [if_neg (fun z => c4 (ul.mpr z))] at fin; exact fin)
theorem pBits_f (h : TkOk B L T) (S : AS) : TkOk B L (pBits B L T S).2.1 ∧ (pBits B L T S).1 ≤ 6 ∧ ((pBits B L T S).1 = 0 → ∃ v, 4 ≤ v ∧ v ≤ 48 ∧ (pBits B L T S).2.2 = setB S v) := by
  have n1 := nx_ok h
  have pf := pNum_f (B := B) (T := nx B L T) 4 48
  unfold pBits
  split
  · next c =>
    unfold pSign
    split
    · exact ⟨nx_ok (nx_ok n1), by show 0 ≤ 6; omega, fun _ => ⟨_, (pf.2 c).2.1, (pf.2 c).2.2.1, rfl⟩⟩
    · exact ⟨nx_ok n1, by show 2 ≤ 6; omega, fun z => absurd z (by show ¬ 2 = 0; omega)⟩
  · next c => exact ⟨n1, by have := pf.1; show (pNum B (nx B L T) 4 48).1 ≤ 6; omega, fun z => absurd z c⟩
theorem pBits_S (S S' : AS) : (pBits B L T S).1 = (pBits B L T S').1 ∧ (pBits B L T S).2.1 = (pBits B L T S').2.1 ∧ ((pBits B L T S).1 = 0 → ∃ v, (pBits B L T S).2.2 = setB S v ∧ (pBits B L T S').2.2 = setB S' v ∧ 4 ≤ v ∧ v ≤ 48) := by
  have pf := pNum_f (B := B) (T := nx B L T) 4 48
  unfold pBits
  split
  · next c =>
    unfold pSign
    split
    · exact ⟨rfl, rfl, fun _ => ⟨_, rfl, rfl, (pf.2 c).2.1, (pf.2 c).2.2.1⟩⟩
    · exact ⟨rfl, rfl, fun z => absurd z (by show ¬ 2 = 0; omega)⟩
  · next c => exact ⟨rfl, rfl, fun z => absurd z c⟩
theorem hal_gd {S : AS} (h4 : 4 ≤ sB S) (h48 : sB S ≤ 48) (hN : sN S = 0) (hF : sFl S = []) : sGd (halS S) := by
  refine ⟨⟨h4, h48, by show 1 ≤ 2; omega, by show 2 ≤ 6; omega, by show sN S ≤ 32; omega, fun i hi => ?_, fun i hi => ?_, ?_⟩, Or.inl hF, fun i j hij hj => ?_, fun i hi => ?_⟩
  · have hi : i < 2 := hi
    show (if i = 0 then sB S - sB S / 2 else if i = 1 then sB S / 2 else sBr S i) ≤ 24
    by_cases c : i = 0
    · rw [if_pos c]; omega
    · rw [if_neg c, if_pos (by omega)]; omega
  · have hi : i < sN S := hi
    omega
  · have e : sumT (sBr (halS S)) (sP (halS S)) = 0 + (sB S - sB S / 2) + sB S / 2 := rfl
    rw [e]
    show 0 + (sB S - sB S / 2) + sB S / 2 = sB S
    omega
  · have hj : j < sN S := hj
    omega
  · have hi : i < sN S := hi
    omega
/-- what a text comes to -/
theorem pR2_f (hL : L ≤ 900) : TkOk B L (pR2 B L).2.1 ∧ (pR2 B L).1 ≤ 6 ∧ ((pR2 B L).1 = 0 → sGd (pR2 B L).2.2 ∧ sFl (pR2 B L).2.2 = []) ∧ TkOk B L (pR1 B L).2.1 ∧ (pR1 B L).1 ≤ 6 ∧ ((pR1 B L).1 = 0 → sGd (halS (pR1 B L).2.2) ∧ sN (halS (pR1 B L).2.2) = 0 ∧ sFl (halS (pR1 B L).2.2) = []) := by
  have t0 := tok_ok B (L := L) (e := 0) (by omega)
  have q1 : TkOk B L (pR1 B L).2.1 ∧ (pR1 B L).1 ≤ 6 ∧ ((pR1 B L).1 = 0 → sGd (halS (pR1 B L).2.2) ∧ sN (halS (pR1 B L).2.2) = 0 ∧ sFl (halS (pR1 B L).2.2) = []) := by
    unfold pR1
    split
    · obtain ⟨a, b, c⟩ := pBits_f t0 emS
      refine ⟨a, b, fun z => ?_⟩
      obtain ⟨v, v4, v48, e⟩ := c z
      rw [e]
      exact ⟨hal_gd v4 v48 rfl rfl, rfl, rfl⟩
    · exact ⟨t0, by show 0 ≤ 6; omega, fun _ => ⟨hal_gd (S := emS) (by decide) (by decide) rfl rfl, rfl, rfl⟩⟩
  obtain ⟨a, b, c⟩ := q1
  refine ⟨?_, ?_, ?_, a, b, c⟩ <;> unfold pR2 <;> split
  · next c0 =>
    split
    · exact (pParts_LG a (c c0).1 (c c0).2.1 (c c0).2.2).1.1
    · exact a
  · exact a
  · next c0 =>
    split
    · exact (pParts_LG a (c c0).1 (c c0).2.1 (c c0).2.2).1.2.2.1
    · show 0 ≤ 6; omega
  · exact b
  · next c0 =>
    split
    · have lp := pParts_LG a (c c0).1 (c c0).2.1 (c c0).2.2
      exact fun z => ⟨(lp.1.2.2.2 z).1, (lp.2 z).2⟩
    · exact fun _ => ⟨(c c0).1, (c c0).2.2⟩
  · next c0 => exact fun z => absurd z c0
theorem pLns_f (hL : L ≤ 900) : ∀ (n : Nat) (T : Tk) (S : AS), TkOk B L T → sGd S → TkOk B L (pLns B L n T S).2.1 ∧ (pLns B L n T S).1 ≤ 6 ∧ ((pLns B L n T S).1 = 0 → sGd (pLns B L n T S).2.2)
  | 0, T, S, h, g => ⟨h, by show 0 ≤ 6; omega, fun _ => g⟩
  | n + 1, T, S, h, g => by
    have lg := pLine_LG h hL g
    unfold pLns
    split
    · exact ⟨h, by show 0 ≤ 6; omega, fun _ => g⟩
    · split
      · next c => exact pLns_f hL n _ _ lg.1 (lg.2.2.2 c).1
      · next c => exact ⟨lg.1, lg.2.2.1, fun z => absurd z c⟩
theorem pRead_f (hL : L ≤ 900) : TkOk B L (pRead B L).2.1 ∧ (pRead B L).1 ≤ 6 ∧ ((pRead B L).1 = 0 → sGd (pRead B L).2.2) := by
  obtain ⟨a, b, c, -⟩ := pR2_f (B := B) hL
  unfold pRead
  split
  · next c0 => exact pLns_f hL 901 _ _ a (c c0).1
  · next c0 => exact ⟨a, b, fun z => absurd z c0⟩
theorem s_Re_read {n : Nat} {g : Nat → Int32} (HE : ReR h) (tx : hat h 13 (aB 900 g)) (hn : n ≤ 900) (hg : ∀ k, k < n → g k = sb (B k) ∧ B k < 256) (hx : SpX h) (HS : StX h) (h126 : 126 ≤ h.1) (hbig : h.1 + 6 ≤ ev_big) (hR : ∀ h', LnR h h' n (pRead B n) → h'.1 ≤ h.1 + 6 → R (some (.int (nI (pFault (pRead B n))))) h') : Ev G (d + 28) 6 1505 M_Re_read 0 [.ref 5, .int (nI n), ev_unk, ev_unk] [] h R := by
  obtain ⟨l, kd, s, e, HE⟩ := HE
  obtain ⟨S0, HS⟩ := HS
  obtain ⟨q1, q2, q3, q4, q5, q6⟩ := pR2_f (B := B) hn
  refine b_Re_read_0 (d := d + 23) HE tx ⟨_, hat_ne HS.obj.choose_spec (by omega)⟩ ?_
  rw [if_neg (nI_nlt (a := 900) hn (by omega))]
  have K1 := (Kp.refl h 5 6).set (k := 5) (oC 4 [.ref 6, .ref 12, .ref 14, .ref 13, .int (nI n), .int kd, .int s, .int e]) (by omega) (by omega)
  have HE1 : hat (hset h 5 (oC 4 [.ref 6, .ref 12, .ref 14, .ref 13, .int (nI n), .int kd, .int s, .int e])) 5 (oC 4 [.ref 6, .ref 12, .ref 14, .ref 13, .int (nI n), .int kd, .int s, .int e]) := hat_set HE
  revert K1 HE1
  generalize hset h 5 (oC 4 [.ref 6, .ref 12, .ref 14, .ref 13, .int (nI n), .int kd, .int s, .int e]) = h1
  intro K1 HE1
  have HS1 := HS.kp K1 (by omega) (by omega)
  refine s_St_clear HS1 fun h2 K2 HS2 => ?_
  have HE2 := K2.hat HE1 (by omega)
  have Kr2 : Kr h h2 := (K1.r (by omega)).trans (K2.r (by omega))
  refine b_Re_read_20 (d := d + 23) HE2 ?_
  have K3 := (Kp.refl h2 5 6).set (k := 5) (oC 4 [.ref 6, .ref 12, .ref 14, .ref 13, .int (nI n), .int kd, .int s, .int (0 : Int32)]) (by omega) (by omega)
  have HB3 : ReB (hset h2 5 (oC 4 [.ref 6, .ref 12, .ref 14, .ref 13, .int (nI n), .int kd, .int s, .int (0 : Int32)])) n (vN kd, vN s, 0) := by
    show hat _ 5 (oC 4 [.ref 6, .ref 12, .ref 14, .ref 13, .int (nI n), .int (nI (vN kd)), .int (nI (vN s)), .int (nI 0)])
    rw [← i_vN, ← i_vN]
    exact hat_set HE2
  have HX3 : TxB (hset h2 5 (oC 4 [.ref 6, .ref 12, .ref 14, .ref 13, .int (nI n), .int kd, .int s, .int (0 : Int32)])) B n := ⟨hn, g, K3.hat (Kr2.hat tx (by omega)) (by omega), hg⟩
  refine s_Re_next (T := (vN kd, vN s, 0)) HB3 HX3 (Nat.zero_le _) fun h4 K4 HB => ?_
  have K34 := K3.trans K4
  have HX := HX3.kg K4.g (by omega)
  have HS4 := HS2.kp K34 (by omega) (by omega)
  have Kr4 := Kr2.trans (K34.r (by omega))
  have en4 : h4.1 = h.1 := by rw [K34.1, K2.1, K1.1]
  have hx4 : SpX h4 := ((hx.kg K1.g (by omega)).kg K2.g (by omega)).kg K34.g (by omega)
  have HT : TkOk B n (tok B n 0) := tok_ok B (by omega)
  -- from the test of the first fault on
  have M54 : ∀ (h5 : ev_H), Kr h h5 → h5.1 = h.1 → ReB h5 n (pR1 B n).2.1 → SpX h5 → (∃ S', StR h5 14 S') → ((pR1 B n).1 = 0 → StR h5 14 (halS (pR1 B n).2.2)) → (¬ (pR1 B n).1 = 0 → ∃ S', sB S' ≤ 48 ∧ StR h5 14 S') → Ev G (d + 28) 6 1505 M_Re_read 54 [.ref 5, .int (nI n), .int (nI (pR1 B n).1), ev_unk] [] h5 R := by
    intro h5 Kr5 en5 HB hx5 hst s0 s1
    have HX := Kr5.tx ⟨hn, g, tx, hg⟩
    have HT := q4
    by_cases c0 : (pR1 B n).1 = 0
    · obtain ⟨g1, g2, g3⟩ := q6 c0
      have HS := s0 c0
      rw [c0]
      have go74 : ∀ h6, Kr h h6 → h6.1 = h.1 → LnR h5 h6 n (pR2 B n) → Ev G (d + 28) 6 1505 M_Re_read 74 [.ref 5, .int (nI n), .int (nI (pR2 B n).1), .int (nI 0)] [] h6 R := by
        intro h6 Kr6 en6 H6
        by_cases c2 : (pR2 B n).1 = 0
        · have e : pRead B n = pLns B n 901 (pR2 B n).2.1 (pR2 B n).2.2 := by unfold pRead; rw [if_pos c2]
          rw [e] at hR
          rw [c2]
          obtain ⟨y1, y2⟩ := q3 c2
          have rk : roK (pR2 B n).2.2 = 6 := by unfold roK; rw [y2]; rfl
          have rn' : roN (pR2 B n).2.2 = 1505 := by unfold roN; rw [y2]; rfl
          have := s_Re_lines (G := G) (d := d) (B := B) (L := n) 901 h6 _ _ (nI n) R (by omega) H6.2.1 (Kr6.tx ⟨hn, g, tx, hg⟩) q1 (H6.2.2.2.2 c2) y1 H6.2.2.1 (by omega) (by omega) fun h' H' n' => hR h' (H'.after Kr6) (by omega)
          rw [rk, rn'] at this
          exact this
        · have e : pRead B n = pR2 B n := by unfold pRead; rw [if_neg c2]
          rw [e] at hR
          exact s_Re_end H6.2.1 q1 c2 q2 (hR h6 ⟨Kr6, H6.2.1, H6.2.2.1, H6.2.2.2.1, fun z => absurd z c2⟩ (by omega))
      refine b_Re_read_54 (d := d + 23) (fun c1 => by decide) (fun c1 => HB) (fun c1 => HX) (fun c1 => HT) (fun c1 => ⟨_, HB⟩) (fun c1 c2 => ⟨_, HB⟩) (fun c1 c2 => ?_) (fun c1 c2 => ?_) (fun c1 => absurd rfl c1)
      · have w := b2i_e0 c2
        have e2 : pR2 B n = (0, (pR1 B n).2.1, halS (pR1 B n).2.2) := by unfold pR2; rw [if_pos c0, w]; rfl
        have := go74 h5 Kr5 en5 (by rw [e2]; exact ⟨Kr.refl _, HB, hx5, ⟨_, g1.1.2.1, HS⟩, fun _ => HS⟩)
        rw [e2] at this
        exact this
      · have w := b2i_n0 c2
        have e2 : pR2 B n = pParts B n (pR1 B n).2.1 (halS (pR1 B n).2.2) := by unfold pR2; rw [if_pos c0, w]; rfl
        rw [e2] at go74
        refine (s_Re_readParts (d := 0) HB HX HT HS g1 hx5 fun h6 H6 n6 => b_Re_read_71 ?_).room (by omega) (Nat.le_refl _) (Nat.le_refl _)
        exact go74 h6 (Kr5.trans H6.1) (by rw [n6, en5]) H6
    · have e2 : pR2 B n = pR1 B n := by unfold pR2; rw [if_neg c0]
      have e : pRead B n = pR1 B n := by unfold pRead; rw [e2, if_neg c0]
      rw [e] at hR
      have cn : ¬ nI (pR1 B n).1 = 0 := fun z => c0 ((nI_eq (b := 0) (by omega) (by omega)).mp z)
      refine b_Re_read_54 (d := d + 23) (fun c1 => by decide) (fun c1 => absurd c1 cn) (fun c1 => HX) (fun c1 => HT) (fun c1 => ⟨_, HB⟩) (fun c1 c2 => ⟨_, HB⟩) (fun c1 c2 => absurd c1 cn) (fun c1 c2 => absurd c1 cn) (fun c1 => ?_)
      exact s_Re_end HB q4 c0 q5 (hR h5 ⟨Kr5, HB, hx5, s1 c0, fun z => absurd z c0⟩ (by omega))
  have HS := HS4
  refine b_Re_read_29 (d := d + 23) HB (by decide) HB HX HT ⟨_, HB⟩ (fun _ => HS.obj) (fun _ => ⟨_, HB⟩) (fun c => ?_) (fun c => ?_)
  · have w := b2i_e0 c
    have e1 : pR1 B n = (0, tok B n 0, emS) := by unfold pR1; rw [w]; rfl
    rw [e1] at M54
    refine s_St_halve HS (by show 16 ≤ 48; omega) (by omega) fun h5 K5 HS5 => ?_
    have s5 : StR h5 14 (halS emS) := HS5.congr rfl rfl rfl (fun i hi => by
      have hi : i < 2 := hi
      show (if i = 0 then _ else if i = 1 then _ else _) = (if i = 0 then _ else if i = 1 then _ else _)
      by_cases z : i = 0
      · rw [if_pos z, if_pos z]; rfl
      · rw [if_neg z, if_neg z, if_pos (by omega), if_pos (by omega)]; rfl) (fun i hi => absurd hi (Nat.not_lt_zero i)) rfl
    exact M54 h5 (Kr4.trans (K5.r (by omega))) (by rw [K5.1, en4]) (HB.kg K5.g (by omega)) (hx4.kg K5.g (by omega)) ⟨_, s5⟩ (fun _ => s5) (fun z => absurd rfl z)
  · have w := b2i_n0 c
    have e1 : pR1 B n = pBits B n (tok B n 0) emS := by unfold pR1; rw [w]; rfl
    obtain ⟨p1, p2, p3⟩ := pBits_S (B := B) (L := n) (T := tok B n 0) (clrS S0) emS
    refine (s_Re_readBits (d := 0) HB HX HT HS (by show 16 ≤ 48; omega) hx4 fun h5 H5 n5 => ?_).room (by omega) (Nat.le_refl _) (Nat.le_refl _)
    obtain ⟨r1, r2, r3, ⟨S5, b5, st5⟩, r5⟩ := H5
    refine b_Re_read_42 (d := d + 23) r2 st5.obj ?_
    have fin : ∀ (S6 : AS), StR h5 14 S6 → sB S6 ≤ 48 → ((pBits B n (tok B n 0) (clrS S0)).1 = 0 → S6 = (pBits B n (tok B n 0) (clrS S0)).2.2) → Ev G (d + 27) 0 0 M_St_halve 0 [.ref 14] [] h5 (fun r h1 => Ev G (d + 28) 6 1505 M_Re_read 54 [.ref 5, .int (nI n), .int (nI (pBits B n (tok B n 0) (clrS S0)).1), ev_unk] (r.toList ++ []) h1 R) := by
      intro S6 st6 b6 e6
      refine s_St_halve st6 b6 (by omega) fun h6 K6 HS6 => ?_
      rw [p1, ← e1]
      rw [e1] at M54
      rw [e1]
      refine M54 h6 ((Kr4.trans r1).trans (K6.r (by omega))) (by rw [K6.1, n5, en4]) (by rw [← p2]; exact r2.kg K6.g (by omega)) (r3.kg K6.g (by omega)) ⟨_, HS6⟩ (fun z => ?_) (fun _ => ⟨halS S6, b6, HS6⟩)
      rw [← p1] at z
      obtain ⟨v, v1, v2, v4, v48⟩ := p3 z
      have e6 := e6 z
      rw [v1] at e6
      subst e6
      rw [v2]
      exact HS6.congr rfl rfl rfl (fun i hi => by
        have hi : i < 2 := hi
        show (if i = 0 then _ else if i = 1 then _ else _) = (if i = 0 then _ else if i = 1 then _ else _)
        by_cases z : i = 0
        · rw [if_pos z, if_pos z]; rfl
        · rw [if_neg z, if_neg z, if_pos (by omega), if_pos (by omega)]; rfl) (fun i hi => absurd hi (Nat.not_lt_zero i)) rfl
    by_cases z : (pBits B n (tok B n 0) (clrS S0)).1 = 0
    · obtain ⟨v, v1, v2, v4, v48⟩ := p3 z
      exact fin _ (r5 z) (by rw [v1]; exact v48) (fun _ => rfl)
    · exact fin S5 st5 b5 (fun y => absurd y z)
def ubT (Q : QS) : Nat → Nat := fun k => vN (qTg Q k &&& 255)
def a_rd (Q : QS) (n : Int32) : LR := pRead (ubT Q) (vN n)
def okQ (Q : QS) (n : Int32) : QS := ((a_rd Q n).2.2, (min (qKn Q + 1) 12, keepA (qKn Q) (qKa Q) (qS Q)), Q.2.2.1, (0, qTg Q), (0, 0, -1))
def badQ (Q : QS) (n : Int32) : QS := (qS Q, Q.2.1, Q.2.2.1, (0, qTg Q), (9, nI (pFault (a_rd Q n)), nI (a_rd Q n).2.1.2.1))
def a_load (Q : QS) (n : Int32) : Int32 × QS := if n < 0 then (-1, stQ Q 1) else if nI (qTn Q) < n then (-1, stQ Q 1) else if pFault (a_rd Q n) = 0 then (nI (sN (a_rd Q n).2.2), okQ Q n) else (-1, badQ Q n)
theorem XR.tx (H : XR h Q) : ∀ k, k < qTn Q → qTg Q k = sb (ubT Q k) ∧ ubT Q k < 256 := fun k hk => by
  obtain ⟨b, hb, e⟩ := H.1.2.2.2.2.2.2 k hk
  have e : qTg Q k = sb b := e
  have eu : ubT Q k = b := by unfold ubT; rw [e, sb_255 hb, vN_nI (by omega)]
  rw [eu]; exact ⟨e, hb⟩
theorem pFault_0 {r : LR} : pFault r = 0 ↔ r.1 = 0 := by
  unfold pFault
  constructor
  · intro h
    split at h
    · assumption
    · split at h
      · exact absurd h (by omega)
      · exact absurd h ‹_›
  · intro h; rw [if_pos h]
theorem pFault_6 {r : LR} (h : r.1 ≤ 6) : pFault r ≤ 6 := by
  unfold pFault
  split
  · omega
  · split <;> omega
theorem s_X_load {n : Int32} (H : XR h Q) (hbig : h.1 + 6 ≤ ev_big) (hR : ∀ h', Kg h h' 0 102 → h'.1 ≤ h.1 + 6 → XR h' (a_load Q n).2 → R (some (.int (a_load Q n).1)) h') : Ev G (d + 29) 6 1505 M_X_load 0 [.ref 0, .int n] [] h R := by
  have tn9 := H.1.2.2.2.2.2.1
  have g : ∀ {v l : Int32}, a_load Q n = (v, stQ Q l) → R (some (.int v)) (xoS h l (qFk Q) (qFp Q)) := fun {v l} e => by
    have := H.xo l
    rw [e] at hR
    exact hR _ ((xoS_kp h l (qFk Q) (qFp Q)).g.wide (by omega) (by omega)) (by show h.1 ≤ _; omega) this
  obtain ⟨l0, kd0, s0, e0, HE⟩ := H.re
  have HTa := H.ta
  refine b_X_load_0 H.x HE HTa.1 (fun c1 => H.x) (fun c1 => ⟨_, H.x⟩) (fun c1 c2 => H.x) (fun c1 => g (by unfold a_load; rw [if_pos c1])) (fun c1 c2 => g (by unfold a_load; rw [if_neg c1, if_pos c2])) (fun c1 c2 => ?_)
  have e : a_load Q n = if pFault (a_rd Q n) = 0 then (nI (sN (a_rd Q n).2.2), okQ Q n) else (-1, badQ Q n) := by unfold a_load; rw [if_neg c1, if_neg c2]
  rw [e] at hR
  obtain ⟨m, hm, rfl⟩ := nI_of c1
  have mt : m ≤ qTn Q := Nat.le_of_not_lt fun z => c2 (nI_lt z hm)
  have er : a_rd Q (nI m) = pRead (ubT Q) m := by unfold a_rd; rw [vN_nI (by omega)]
  obtain ⟨q1, q2, q3⟩ := pRead_f (B := ubT Q) (L := m) (by omega)
  rw [← er] at q1 q2 q3
  refine b_X_load_24 (d := d + 28) (k := 0) (m4 := 1505) (n := 0) H.x ⟨_, HE⟩ ?_
  refine s_Re_read (d := d) (B := ubT Q) (n := m) ⟨_, _, _, _, HE⟩ HTa.2 (by omega) (fun k hk => H.tx k (Nat.lt_of_lt_of_le hk mt)) H.sp H.st H.num hbig fun h1 H1 n1 => ?_
  rw [← er] at H1 ⊢
  unfold okQ badQ at hR
  generalize a_rd Q (nI m) = r at H1 hR q1 q2 q3 er ⊢
  obtain ⟨Kr1, r1, r2, ⟨S1, b1, st1⟩, r4⟩ := H1
  have K1 := Kr1.g
  have x1 := K1.hat H.x (by omega)
  have ta1 : TaR h1 (qTn Q) (qTg Q) := ⟨Kr1.hat HTa.1 (by omega), Kr1.hat HTa.2 (by omega)⟩
  -- what stands once the fault and the tape are set
  have fin : ∀ (y : Int32), (pFault r = 0 → y = -1) → (pFault r ≠ 0 → y = nI r.2.1.2.1) → Ev G (d + 29) 0 0 M_X_load 55 [.ref 0, .int (nI m)] [.int y, .ref 0] (hset h1 0 (oC 8 [.ref 1, .ref 5, .ref 18, .ref 81, .ref 98, .int (qL Q), .int (nI (pFault r)), .int (qFp Q)])) R := by
    intro y y0 y1
    have K2 : Kg h1 (hset h1 0 (oC 8 [.ref 1, .ref 5, .ref 18, .ref 81, .ref 98, .int (qL Q), .int (nI (pFault r)), .int (qFp Q)])) 0 1 := ((Kp.refl h1 0 1).set (k := 0) (oC 8 [.ref 1, .ref 5, .ref 18, .ref 81, .ref 98, .int (qL Q), .int (nI (pFault r)), .int (qFp Q)]) (by omega) (by omega)).g
    have x2 := hat_set x1 (c' := oC 8 [.ref 1, .ref 5, .ref 18, .ref 81, .ref 98, .int (qL Q), .int (nI (pFault r)), .int (qFp Q)])
    have e2 : (hset h1 0 (oC 8 [.ref 1, .ref 5, .ref 18, .ref 81, .ref 98, .int (qL Q), .int (nI (pFault r)), .int (qFp Q)])).1 = h1.1 := rfl
    revert K2 x2 e2
    generalize hset h1 0 (oC 8 [.ref 1, .ref 5, .ref 18, .ref 81, .ref 98, .int (qL Q), .int (nI (pFault r)), .int (qFp Q)]) = h2
    intro K2 x2 e2
    have r12 := K2.hat r1 (by omega)
    have ta2 := ta1.kg K2 (by omega)
    have K3 : Kg h2 (hset h2 0 (oC 8 [.ref 1, .ref 5, .ref 18, .ref 81, .ref 98, .int (qL Q), .int (nI (pFault r)), .int y])) 0 1 := ((Kp.refl h2 0 1).set (k := 0) _ (by omega) (by omega)).g
    have x3 := hat_set x2 (c' := oC 8 [.ref 1, .ref 5, .ref 18, .ref 81, .ref 98, .int (qL Q), .int (nI (pFault r)), .int y])
    have K4 : Kg (hset h2 0 (oC 8 [.ref 1, .ref 5, .ref 18, .ref 81, .ref 98, .int (qL Q), .int (nI (pFault r)), .int y])) (hset (hset h2 0 (oC 8 [.ref 1, .ref 5, .ref 18, .ref 81, .ref 98, .int (qL Q), .int (nI (pFault r)), .int y])) 12 (oC 7 [.ref 13, .int (0 : Int32)])) 12 13 := ((Kp.refl _ 12 13).set (k := 12) _ (by omega) (by omega)).g
    have ta4 : TaR (hset (hset h2 0 (oC 8 [.ref 1, .ref 5, .ref 18, .ref 81, .ref 98, .int (qL Q), .int (nI (pFault r)), .int y])) 12 (oC 7 [.ref 13, .int (0 : Int32)])) 0 (qTg Q) := ⟨hat_set (K3.hat ta2.1 (by omega)), K4.hat (K3.hat ta2.2 (by omega)) (by omega)⟩
    have x4 := K4.hat x3 (by omega)
    have KA : Kg h1 (hset (hset h2 0 (oC 8 [.ref 1, .ref 5, .ref 18, .ref 81, .ref 98, .int (qL Q), .int (nI (pFault r)), .int y])) 12 (oC 7 [.ref 13, .int (0 : Int32)])) 0 13 := (K2.wide (by omega) (by omega)).trans ((K3.wide (by omega) (by omega)).trans (K4.wide (by omega) (by omega)))
    have s4 : ∀ {b : Nat} {S : AS}, StR h1 b S → b = 1 ∨ b = 14 → StR (hset (hset h2 0 (oC 8 [.ref 1, .ref 5, .ref 18, .ref 81, .ref 98, .int (qL Q), .int (nI (pFault r)), .int y])) 12 (oC 7 [.ref 13, .int (0 : Int32)])) b S := fun z hb => ((z.kg K2 (by omega) (by omega)).kg K3 (by omega) (by omega)).kg K4 (by omega) (by omega)
    have sp4 : SpX (hset (hset h2 0 (oC 8 [.ref 1, .ref 5, .ref 18, .ref 81, .ref 98, .int (qL Q), .int (nI (pFault r)), .int y])) 12 (oC 7 [.ref 13, .int (0 : Int32)])) := ((r2.kg K2 (by omega)).kg K3 (by omega)).kg K4 (by omega)
    have hE4 := K4.hat (K3.hat r12 (by omega)) (by omega)
    have X4 : XR (hset (hset h2 0 (oC 8 [.ref 1, .ref 5, .ref 18, .ref 81, .ref 98, .int (qL Q), .int (nI (pFault r)), .int y])) 12 (oC 7 [.ref 13, .int (0 : Int32)])) (qS Q, Q.2.1, Q.2.2.1, (0, qTg Q), (qL Q, nI (pFault r), y)) := by
      refine ⟨⟨H.1.1, H.1.2.1, H.1.2.2.1, H.1.2.2.2.1, H.1.2.2.2.2.1, Nat.zero_le _, fun k hk => absurd hk (Nat.not_lt_zero k)⟩, x4, s4 (H.s.kg K1 (by omega) (by omega)) (Or.inl rfl), ?_, ta4, ?_, ?_, ?_, sp4, ⟨_, s4 st1 (Or.inr rfl)⟩, ?_⟩
      · exact (H.hist.kg K1 (by omega) (by omega)).kg KA (by omega) (by omega)
      · exact (H.bu.kg K1 (by omega)).kg KA (by omega)
      · exact (H.ra.kg K1 (by omega)).kg KA (by omega)
      · exact ⟨_, _, _, _, hE4⟩
      · exact Nat.le_trans H.num (Nat.le_trans K1.1 KA.1)
    have e4 : (hset (hset h2 0 (oC 8 [.ref 1, .ref 5, .ref 18, .ref 81, .ref 98, .int (qL Q), .int (nI (pFault r)), .int y])) 12 (oC 7 [.ref 13, .int (0 : Int32)])).1 = h1.1 := e2
    refine b_X_load_55 (d := d + 28) x2 r12 ta2.1 (fun _ => x4) (fun c => ?_) (fun c => ?_) <;> clear ta4 K4 K3 <;> revert X4 KA x4 sp4 hE4 s4 e4 <;> generalize hset (hset h2 0 (oC 8 [.ref 1, .ref 5, .ref 18, .ref 81, .ref 98, .int (qL Q), .int (nI (pFault r)), .int y])) 12 (oC 7 [.ref 13, .int (0 : Int32)]) = h4 <;> intro x4 KA s4 sp4 hE4 X4 e4
    · have c : pFault r = 0 := (nI_eq (b := 0) (by have := pFault_6 q2; omega) (by omega)).mp c
      rw [if_pos c] at hR
      rw [y0 c, c] at X4
      rw [c, y0 c] at x4
      refine b_X_load_83 (d := d + 28) X4.x (X4.hist.obj) ?_
      have gd : sGd r.2.2 := q3 (pFault_0.mp c)
      have st4 : StR h4 14 r.2.2 := s4 (r4 (pFault_0.mp c)) (Or.inr rfl)
      refine s_Hi_keep (d := d + 26) X4.hist X4.s X4.ok fun h5 K5 hi5 => ?_
      have KQ := K5.g
      have X5 : XR h5 (keepQ (qS Q, Q.2.1, Q.2.2.1, (0, qTg Q), (qL Q, nI 0, -1))) := ⟨⟨X4.gd, keepA_gd X4.1.2.1 X4.gd X4.1.2.2.2.1, X4.1.2.2.1, by show min (qKn Q + 1) 12 ≤ 12; omega, X4.1.2.2.2.2⟩, X4.x.kg KQ (by omega), X4.s.kg KQ (by omega) (by omega), hi5, X4.ta.kg KQ (by omega), X4.bu.kg KQ (by omega), X4.ra.kg KQ (by omega), X4.re.kg KQ (by omega), X4.sp.kg KQ (by omega), X4.st.kg KQ (by omega) (by omega), Nat.le_trans X4.num KQ.1⟩
      have st5 := st4.kg KQ (by omega) (by omega)
      obtain ⟨l5, k5, s5, e5, HE5⟩ := X5.re
      refine b_X_load_94 (d := d + 28) X5.x HE5 X5.s.obj ?_
      refine (s_St_become (d := d + 27) X5.s st5 gd.1 (by omega) (by omega) fun h6 K6 st6 => ?_)
      have X6 : XR h6 (r.2.2, (keepQ (qS Q, Q.2.1, Q.2.2.1, (0, qTg Q), (qL Q, nI 0, -1))).2) := X5.store K6 st6 gd
      obtain ⟨brf, tgf, cof, fv, t1, -⟩ := X6.s
      refine b_X_load_108 (d := d + 28) X6.x t1 X6.x ?_
      refine hR _ (((K1.wide (by omega) (by omega)).trans (KA.wide (by omega) (by omega))).trans ((KQ.wide (by omega) (by omega)).trans (K6.g.wide (by omega) (by omega))) |>.trans ((xoS_kp h6 0 _ _).g.wide (by omega) (by omega))) ?_ (X6.xo 0)
      show h6.1 ≤ _
      rw [K6.1, K5.1, e4]; omega
    · have c : pFault r ≠ 0 := fun z => c (by rw [z]; rfl)
      rw [if_neg c] at hR
      have y1 := y1 c
      subst y1
      exact hR _ (((K1.wide (by omega) (by omega)).trans (KA.wide (by omega) (by omega))).trans ((xoS_kp h4 9 _ _).g.wide (by omega) (by omega))) (by show h4.1 ≤ _; rw [e4]; omega) (X4.xo 9)
  refine b_X_load_33 (d := d + 28) x1 (fun _ => ⟨_, hat_ne r1 (by omega)⟩) (fun c => ?_) (fun c => ?_)
  · have c : pFault r = 0 := (nI_eq (b := 0) (by have := pFault_6 q2; omega) (by omega)).mp c
    exact fin (-1) (fun _ => rfl) (fun z => absurd c z)
  · have c : pFault r ≠ 0 := fun z => c (by rw [z]; rfl)
    have r3 := hat_ne (a := 5) (b := 0) (c' := oC 8 [.ref 1, .ref 5, .ref 18, .ref 81, .ref 98, .int (qL Q), .int (nI (pFault r)), .int (qFp Q)]) r1 (by omega)
    refine b_Re_place_0 (d := d + 28) r3 ?_
    exact fin _ (fun z => absurd z c) (fun _ => rfl)
def a_feed (Q : QS) (a b c d e : Int32) : Int32 × QS := if 880 < qTn Q then (-1, Q) else (nI (qTn Q + 20), (qS Q, Q.2.1, Q.2.2.1, (qTn Q + 20, tp20 (qTg Q) (qTn Q) a b c d e), Q.2.2.2.2))
theorem by_ex (c : Int8) : ∃ b, b < 256 ∧ c.toInt32 = (nI b).toInt8.toInt32 := by
  refine ⟨c.toBitVec.toNat, c.toBitVec.isLt, ?_⟩
  have := (by decide +kernel : ∀ b, b < 256 → (nI b).toInt8 = Int8.ofBitVec (BitVec.ofNat 8 b)) c.toBitVec.toNat c.toBitVec.isLt
  rw [this, BitVec.ofNat_toNat, BitVec.setWidth_eq]
  rfl
theorem byN_ex (x s : Int32) : ∃ b, b < 256 ∧ byN x s = (nI b).toInt8.toInt32 := by_ex _
theorem tp4_ex {g : Nat → Int32} {n k : Nat} {x : Int32} (H : ∀ k, k < n → ∃ b, b < 256 ∧ g k = (nI b).toInt8.toInt32) (hk : k < n + 4) : ∃ b, b < 256 ∧ tp4 g n x k = (nI b).toInt8.toInt32 := by
  have u : ∀ {g : Nat → Int32} {m : Nat} {y s : Int32}, (∀ k, k < m → ∃ b, b < 256 ∧ g k = (nI b).toInt8.toInt32) → ∀ k, k < m + 1 → ∃ b, b < 256 ∧ upd g m (byN y s) k = (nI b).toInt8.toInt32 := by
    intro g m y s H k hk
    unfold upd
    split
    · exact byN_ex y s
    · exact H k (by omega)
  exact u (u (u (u H))) k hk
theorem s_X_feed2 {x1 x2 x3 x4 x5 : Int32} (H : XR h Q) (hR : ∀ h', Kg h h' 0 102 → h'.1 = h.1 → XR h' (a_feed Q x1 x2 x3 x4 x5).2 → R (some (.int (a_feed Q x1 x2 x3 x4 x5).1)) h') : Ev G (d + 1) 0 0 M_X_feed 0 [.ref 0, .int x1, .int x2, .int x3, .int x4, .int x5, ev_unk] [] h R := by
  have tn9 := H.1.2.2.2.2.2.1
  refine s_X_feed H.x H.re H.ta tn9 (fun c => ?_) fun c h' K ta => ?_
  · unfold a_feed at hR; rw [if_pos c] at hR
    exact hR h (Kg.refl _ _ _) rfl H
  · unfold a_feed at hR; rw [if_neg (by omega)] at hR
    have t0 := H.1.2.2.2.2.2.2
    refine hR h' (K.g.wide (by omega) (by omega)) K.1 ⟨⟨H.1.1, H.1.2.1, H.1.2.2.1, H.1.2.2.2.1, H.1.2.2.2.2.1, by show qTn Q + 20 ≤ 900; omega, fun k hk => ?_⟩, H.x.kg K.g (by omega), H.s.kg K.g (by omega) (by omega), H.hist.kg K.g (by omega) (by omega), ta, H.bu.kg K.g (by omega), H.ra.kg K.g (by omega), H.re.kg K.g (by omega), H.sp.kg K.g (by omega), H.st.kg K.g (by omega) (by omega), Nat.le_trans H.num K.g.1⟩
    exact tp4_ex (n := qTn Q + 16) (fun k hk => tp4_ex (n := qTn Q + 12) (fun k hk => tp4_ex (n := qTn Q + 8) (fun k hk => tp4_ex (n := qTn Q + 4) (fun k hk => tp4_ex t0 hk) hk) hk) hk) hk
theorem s_X_status2 (H : XR h Q) (hR : R (some (.int (qL Q))) h) : Ev G d 0 0 M_X_status 0 [.ref 0] [] h R := s_X_status H.x hR
end S41
