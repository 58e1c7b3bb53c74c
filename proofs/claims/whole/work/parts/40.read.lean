/-! THE READER: filters are made; a whole text is read -/
theorem b_Re_read_118z {G : ev_G} {d k n : Nat} {h : ev_H} {R : Option Value → ev_H → Prop} {x1 : Int32} {x2 : Int32} {x3 : Int32}
  (r1 : ∃ fs, hat h 5 (oC 4 fs))
  (k1 : Ev G (d + 4) 0 0 M_Re_readFilter 0 [.ref 5, ev_unk] [] h (fun r h1 => Ev G (d + 5) k n M_Re_read 122 [.ref 5, .int x1, .int x2, .int x3] (r.toList ++ []) h1 R))
  : Ev G (d + 5) k n M_Re_read 118 [.ref 5, .int x1, .int x2, .int x3] [] h R :=
  Ev.go (pc' := 119) (ls' := [.ref 5, .int x1, .int x2, .int x3]) (st' := [.ref 5]) [.aload_n 0] (by decide +kernel) rfl <|
  Ev.cV0 (M' := M_Re_readFilter) (as := []) (rest := []) l_Re_89 M_Re_readFilter_ok M_Re_readFilter_in M_Re_readFilter_se (by decide +kernel) r1 rfl rfl rfl (Nat.le_of_ble_eq_true rfl) (Nat.le_of_ble_eq_true rfl) k1
theorem b_Re_readFilter_0n {G : ev_G} {d k n : Nat} {h : ev_H} {R : Option Value → ev_H → Prop} {f_length_1 : Int32} {f_kind_2 : Int32} {f_start_3 : Int32} {f_end_4 : Int32} {f_bits_5 : Int32} {f_parts_6 : Int32} {f_size_7 : Int32} {f_size_8 : Int32}
  (a1 : hat h 5 (oC 4 [.ref 6, .ref 12, .ref 14, .ref 13, .int f_length_1, .int f_kind_2, .int f_start_3, .int f_end_4]))
  (a2 : hat h 14 (oC 6 [.int f_bits_5, .int f_parts_6, .ref 15, .int f_size_7, .ref 16, .ref 17, .null]))
  (a3 : hat h 6 (oC 5 [.ref 7, .ref 8, .ref 9, .ref 10, .ref 11, .int f_size_8]))
  (k1 : Ev G d 0 0 M_Re_next 0 [.ref 5, ev_unk, ev_unk, ev_unk, ev_unk, ev_unk, ev_unk, ev_unk] [] (hset h 6 (oC 5 [.ref 7, .ref 8, .ref 9, .ref 10, .ref 11, .int (0 : Int32)])) (fun r h1 => Ev G (d + 1) k n M_Re_readFilter 24 [.ref 5, ev_unk] (r.toList ++ []) h1 R))
  : Ev G (d + 1) k n M_Re_readFilter 0 [.ref 5, ev_unk] [] h R :=
  Ev.go (pc' := 1) (ls' := [.ref 5, ev_unk]) (st' := [.ref 5]) [.aload_n 0] (by decide +kernel) rfl <|
  Ev.getf f_Re_28 (by decide +kernel) a1 rfl <|
  Ev.getf f_Re_141 (by decide +kernel) a2 rfl <|
  Ev.nN (t := 12) (o := 5) (by decide +kernel) rfl <|
  Ev.go (pc' := 13) (ls' := [.ref 5, ev_unk]) (st' := [.ref 5]) [.aload_n 0] (by decide +kernel) rfl <|
  Ev.getf f_Re_12 (by decide +kernel) a1 rfl <|
  Ev.go (pc' := 17) (ls' := [.ref 5, ev_unk]) (st' := [.int (0 : Int32), .ref 6]) [.iconst 0] (by decide +kernel) rfl <|
  Ev.putf f_Re_144 (by decide +kernel) a3 (Nat.le_of_ble_eq_true rfl) rfl (fun q => nomatch q) <| show Ev G (d + 1) _ _ M_Re_readFilter 20 [.ref 5, ev_unk] [] (hset h 6 (oC 5 [.ref 7, .ref 8, .ref 9, .ref 10, .ref 11, .int (0 : Int32)])) R from
  Ev.go (pc' := 21) (ls' := [.ref 5, ev_unk]) (st' := [.ref 5]) [.aload_n 0] (by decide +kernel) rfl <|
  Ev.cV0 (M' := M_Re_next) (as := []) (rest := []) l_Re_61 M_Re_next_ok M_Re_next_in M_Re_next_se (by decide +kernel) ⟨_, (hat_ne a1 (by decide))⟩ rfl rfl rfl (Nat.le_of_ble_eq_true rfl) (Nat.le_of_ble_eq_true rfl) k1
theorem b_Re_readFilter_24n {G : ev_G} {d k n : Nat} {h : ev_H} {R : Option Value → ev_H → Prop} 
  (r1 : ∃ fs, hat h 5 (oC 4 fs))
  (k1 : Ev G d 0 0 M_Re_readTest 0 [.ref 5, .int (0 : Int32), ev_unk, ev_unk] [] h (fun r h1 => Ev G (d + 1) k n M_Re_readFilter 29 [.ref 5, ev_unk] (r.toList ++ []) h1 R))
  : Ev G (d + 1) k n M_Re_readFilter 24 [.ref 5, ev_unk] [] h R :=
  Ev.go (pc' := 26) (ls' := [.ref 5, ev_unk]) (st' := [.int (0 : Int32), .ref 5]) [.aload_n 0, .iconst 0] (by decide +kernel) rfl <|
  Ev.cV0 (M' := M_Re_readTest) (as := [.int (0 : Int32)]) (rest := []) l_Re_145 M_Re_readTest_ok M_Re_readTest_in M_Re_readTest_se (by decide +kernel) r1 rfl rfl rfl (Nat.le_of_ble_eq_true rfl) (Nat.le_of_ble_eq_true rfl) k1
theorem b_Re_readFilter_29n {G : ev_G} {d k n : Nat} {h : ev_H} {R : Option Value → ev_H → Prop} {y0 : Int32}
  (k1 : y0 = (0 : Int32) → Ev G (d + 1) k n M_Re_readFilter 36 [.ref 5, .int y0] [] h R)
  (k2 : ¬ y0 = (0 : Int32) → R (some (.int y0)) h)
  : Ev G (d + 1) k n M_Re_readFilter 29 [.ref 5, ev_unk] [.int y0] h R :=
  Ev.go (pc' := 31) (ls' := [.ref 5, .int y0]) (st' := [.int y0]) [.istore_n 1, .iload_n 1] (by decide +kernel) rfl <|
  Ev.br (i := .ifCond .eq (5)) (P := y0 = (0 : Int32)) (t := 36) (f := 34) (r := []) (by decide +kernel) rfl (fun c1 =>
    (k1 c1)
  ) (fun c1 =>
    Ev.go (pc' := 35) (ls' := [.ref 5, .int y0]) (st' := [.int y0]) [.iload_n 1] (by decide +kernel) rfl <|
    Ev.ret (r := (some (.int y0))) (Or.inl ⟨_, rfl, by decide +kernel, _, rfl, rfl⟩) (k2 c1)
  )
theorem b_Re_readFilter_36n {G : ev_G} {d k n : Nat} {h : ev_H} {R : Option Value → ev_H → Prop} {x1 : Int32} {f_length_1 : Int32} {f_kind_2 : Int32} {f_start_3 : Int32} {f_end_4 : Int32} {nn5 : Nat} {m6 : Nat}
  (a1 : hat h 5 (oC 4 [.ref 6, .ref 12, .ref 14, .ref 13, .int f_length_1, .int f_kind_2, .int f_start_3, .int f_end_4]))
  (n2 : h.1 = nn5)
  (n3 : nn5 < ev_big)
  (k1 : Ev G d 5 m6 M_Fi_init 0 [.ref nn5, .ref 6, ev_unk] [] (hpush h (oC 1 [.null, .null, .null, .null, .null])) (fun r h1 => Ev G (d + 1) k n M_Re_readFilter 51 [.ref 5, .int x1] (r.toList ++ [.ref nn5, .ref 14]) h1 R))
  : Ev G (d + 1) ((5 + k) + 1) ((m6 + n) + 5) M_Re_readFilter 36 [.ref 5, .int x1] [] h R :=
  Ev.go (pc' := 37) (ls' := [.ref 5, .int x1]) (st' := [.ref 5]) [.aload_n 0] (by decide +kernel) rfl <|
  Ev.getf f_Re_28 (by decide +kernel) a1 rfl <|
  Ev.new' (a := nn5) (fs := [.null, .null, .null, .null, .null]) c_Fi q_Re_148 n_Fi z_Fi (by decide +kernel) n2 n3 (by decide) (no_ref rfl) <|
  Ev.go (pc' := 45) (ls' := [.ref 5, .int x1]) (st' := [.ref 5, .ref nn5, .ref nn5, .ref 14]) [.dup, .aload_n 0] (by decide +kernel) rfl <|
  Ev.getf f_Re_12 (by decide +kernel) (hat_push a1) rfl <|
  Ev.cI (M' := M_Fi_init) (a := nn5) (as := [.ref 6]) (rest := [.ref nn5, .ref 14]) l_Re_150 M_Fi_init_ok M_Fi_init_in rfl rfl (by decide +kernel) rfl rfl (Nat.le_of_ble_eq_true rfl) (Nat.le_of_ble_eq_true rfl) k1
theorem b_Re_readFilter_51n {G : ev_G} {d k n : Nat} {h : ev_H} {R : Option Value → ev_H → Prop} {x1 : Int32} {y0 : Nat} {y1 : Nat} {f_bits_1 : Int32} {f_parts_2 : Int32} {f_size_3 : Int32}
  (a1 : hat h y0 (oC 6 [.int f_bits_1, .int f_parts_2, .ref (y0 + 1), .int f_size_3, .ref (y0 + 2), .ref (y0 + 3), .null]))
  (r2 : ∃ fs, hat (hset h y0 (oC 6 [.int f_bits_1, .int f_parts_2, .ref (y0 + 1), .int f_size_3, .ref (y0 + 2), .ref (y0 + 3), .ref y1])) 5 (oC 4 fs))
  (k1 : Ev G d 0 0 M_Re_sign 0 [.ref 5, .int (59 : Int32)] [] (hset h y0 (oC 6 [.int f_bits_1, .int f_parts_2, .ref (y0 + 1), .int f_size_3, .ref (y0 + 2), .ref (y0 + 3), .ref y1])) (fun r h1 => Ev G (d + 1) k n M_Re_readFilter 60 [.ref 5, .int x1] (r.toList ++ []) h1 R))
  : Ev G (d + 1) k n M_Re_readFilter 51 [.ref 5, .int x1] [.ref y1, .ref y0] h R :=
  Ev.putf f_Re_141 (by decide +kernel) a1 (Nat.le_of_ble_eq_true rfl) rfl (fun q => nomatch q) <| show Ev G (d + 1) _ _ M_Re_readFilter 54 [.ref 5, .int x1] [] (hset h y0 (oC 6 [.int f_bits_1, .int f_parts_2, .ref (y0 + 1), .int f_size_3, .ref (y0 + 2), .ref (y0 + 3), .ref y1])) R from
  Ev.go (pc' := 57) (ls' := [.ref 5, .int x1]) (st' := [.int (59 : Int32), .ref 5]) [.aload_n 0, .bipush (59)] (by decide +kernel) rfl <|
  Ev.cV0 (M' := M_Re_sign) (as := [.int (59 : Int32)]) (rest := []) l_Re_115 M_Re_sign_ok M_Re_sign_in M_Re_sign_se (by decide +kernel) r2 rfl rfl rfl (Nat.le_of_ble_eq_true rfl) (Nat.le_of_ble_eq_true rfl) k1
theorem b_Re_readFilter_60n {G : ev_G} {d k n : Nat} {h : ev_H} {R : Option Value → ev_H → Prop} {x1 : Int32} {y0 : Int32}
  (k1 : R (some (.int y0)) h)
  : Ev G (d + 1) k n M_Re_readFilter 60 [.ref 5, .int x1] [.int y0] h R :=
  Ev.ret (r := (some (.int y0))) (Or.inl ⟨_, rfl, by decide +kernel, _, rfl, rfl⟩) k1
theorem b_Re_readFilter_0r {G : ev_G} {d k n : Nat} {h : ev_H} {R : Option Value → ev_H → Prop} {f_length_1 : Int32} {f_kind_2 : Int32} {f_start_3 : Int32} {f_end_4 : Int32} {f_bits_5 : Int32} {f_parts_6 : Int32} {f_size_7 : Int32} {ff8 : Nat}
  (a1 : hat h 5 (oC 4 [.ref 6, .ref 12, .ref 14, .ref 13, .int f_length_1, .int f_kind_2, .int f_start_3, .int f_end_4]))
  (a2 : hat h 14 (oC 6 [.int f_bits_5, .int f_parts_6, .ref 15, .int f_size_7, .ref 16, .ref 17, .ref ff8]))
  (k1 : R (some (.int (5 : Int32))) h)
  : Ev G (d + 1) k n M_Re_readFilter 0 [.ref 5, ev_unk] [] h R :=
  Ev.go (pc' := 1) (ls' := [.ref 5, ev_unk]) (st' := [.ref 5]) [.aload_n 0] (by decide +kernel) rfl <|
  Ev.getf f_Re_28 (by decide +kernel) a1 rfl <|
  Ev.getf f_Re_141 (by decide +kernel) a2 rfl <|
  Ev.nR (o := 5) (by decide +kernel) <|
  Ev.go (pc' := 11) (ls' := [.ref 5, ev_unk]) (st' := [.int (5 : Int32)]) [.iconst 5] (by decide +kernel) rfl <|
  Ev.ret (r := (some (.int (5 : Int32)))) (Or.inl ⟨_, rfl, by decide +kernel, _, rfl, rfl⟩) k1
theorem b_Re_read_0 {G : ev_G} {d k n : Nat} {h : ev_H} {R : Option Value → ev_H → Prop} {x1 : Int32} {f_length_1 : Int32} {f_kind_2 : Int32} {f_start_3 : Int32} {f_end_4 : Int32} {g5 : Nat → Int32}
  (a1 : hat h 5 (oC 4 [.ref 6, .ref 12, .ref 14, .ref 13, .int f_length_1, .int f_kind_2, .int f_start_3, .int f_end_4]))
  (a2 : hat h 13 (aB 900 g5))
  (r3 : ∃ fs, hat (hset h 5 (oC 4 [.ref 6, .ref 12, .ref 14, .ref 13, .int (if (nI 900) < x1 then (nI 900) else x1), .int f_kind_2, .int f_start_3, .int f_end_4])) 14 (oC 6 fs))
  (k1 : Ev G (d + 4) 0 0 M_St_clear 0 [.ref 14] [] (hset h 5 (oC 4 [.ref 6, .ref 12, .ref 14, .ref 13, .int (if (nI 900) < x1 then (nI 900) else x1), .int f_kind_2, .int f_start_3, .int f_end_4])) (fun r h1 => Ev G (d + 5) k n M_Re_read 20 [.ref 5, .int x1, ev_unk, ev_unk] (r.toList ++ []) h1 R))
  : Ev G (d + 5) k n M_Re_read 0 [.ref 5, .int x1, ev_unk, ev_unk] [] h R :=
  Ev.go (pc' := 3) (ls' := [.ref 5, .int x1, ev_unk, ev_unk]) (st' := [.ref 5, .int x1, .ref 5]) [.aload_n 0, .iload_n 1, .aload_n 0] (by decide +kernel) rfl <|
  Ev.getf f_Re_36 (by decide +kernel) a1 rfl <|
  Ev.alen (by decide +kernel) a2 (by decide) <|
  Ev.mmin lL_Re_52 w_minS w_mathI w_minC (Nat.le_of_ble_eq_true rfl) (by decide +kernel) <|
  Ev.putf f_Re_39 (by decide +kernel) a1 (Nat.le_of_ble_eq_true rfl) rfl (fun q => nomatch q) <| show Ev G (d + 5) _ _ M_Re_read 13 [.ref 5, .int x1, ev_unk, ev_unk] [] (hset h 5 (oC 4 [.ref 6, .ref 12, .ref 14, .ref 13, .int (if (nI 900) < x1 then (nI 900) else x1), .int f_kind_2, .int f_start_3, .int f_end_4])) R from
  Ev.go (pc' := 14) (ls' := [.ref 5, .int x1, ev_unk, ev_unk]) (st' := [.ref 5]) [.aload_n 0] (by decide +kernel) rfl <|
  Ev.getf f_Re_28 (by decide +kernel) (hat_set a1) rfl <|
  Ev.cV0 (M' := M_St_clear) (as := []) (rest := []) l_Re_58 M_St_clear_ok M_St_clear_in M_St_clear_se (by decide +kernel) r3 rfl rfl rfl (Nat.le_of_ble_eq_true rfl) (Nat.le_of_ble_eq_true rfl) k1
theorem b_Re_read_20 {G : ev_G} {d k n : Nat} {h : ev_H} {R : Option Value → ev_H → Prop} {x1 : Int32} {f_length_1 : Int32} {f_kind_2 : Int32} {f_start_3 : Int32} {f_end_4 : Int32}
  (a1 : hat h 5 (oC 4 [.ref 6, .ref 12, .ref 14, .ref 13, .int f_length_1, .int f_kind_2, .int f_start_3, .int f_end_4]))
  (k1 : Ev G (d + 4) 0 0 M_Re_next 0 [.ref 5, ev_unk, ev_unk, ev_unk, ev_unk, ev_unk, ev_unk, ev_unk] [] (hset h 5 (oC 4 [.ref 6, .ref 12, .ref 14, .ref 13, .int f_length_1, .int f_kind_2, .int f_start_3, .int (0 : Int32)])) (fun r h1 => Ev G (d + 5) k n M_Re_read 29 [.ref 5, .int x1, ev_unk, ev_unk] (r.toList ++ []) h1 R))
  : Ev G (d + 5) k n M_Re_read 20 [.ref 5, .int x1, ev_unk, ev_unk] [] h R :=
  Ev.go (pc' := 22) (ls' := [.ref 5, .int x1, ev_unk, ev_unk]) (st' := [.int (0 : Int32), .ref 5]) [.aload_n 0, .iconst 0] (by decide +kernel) rfl <|
  Ev.putf f_Re_49 (by decide +kernel) a1 (Nat.le_of_ble_eq_true rfl) rfl (fun q => nomatch q) <| show Ev G (d + 5) _ _ M_Re_read 25 [.ref 5, .int x1, ev_unk, ev_unk] [] (hset h 5 (oC 4 [.ref 6, .ref 12, .ref 14, .ref 13, .int f_length_1, .int f_kind_2, .int f_start_3, .int (0 : Int32)])) R from
  Ev.go (pc' := 26) (ls' := [.ref 5, .int x1, ev_unk, ev_unk]) (st' := [.ref 5]) [.aload_n 0] (by decide +kernel) rfl <|
  Ev.cV0 (M' := M_Re_next) (as := []) (rest := []) l_Re_61 M_Re_next_ok M_Re_next_in M_Re_next_se (by decide +kernel) ⟨_, (hat_set a1)⟩ rfl rfl rfl (Nat.le_of_ble_eq_true rfl) (Nat.le_of_ble_eq_true rfl) k1
theorem b_Re_read_29 {G : ev_G} {d k n : Nat} {h : ev_H} {R : Option Value → ev_H → Prop} {x1 : Int32} {L1 : Nat} {T2 : Tk} {B3 : Nat → Nat} {f_length_4 : Int32} {f_kind_5 : Int32} {f_start_6 : Int32} {f_end_7 : Int32}
  (a6 : hat h 5 (oC 4 [.ref 6, .ref 12, .ref 14, .ref 13, .int f_length_4, .int f_kind_5, .int f_start_6, .int f_end_7]))
  (pr1 : 0 < 15)
  (pr2 : ReB h L1 T2)
  (pr3 : TxB h B3 L1)
  (pr4 : TkOk B3 L1 T2)
  (r5 : ∃ fs, hat h 5 (oC 4 fs))
  (r7 : (b2i (wdB B3 T2 0)) = (0 : Int32) → ∃ fs, hat h 14 (oC 6 fs))
  (r8 : ¬ (b2i (wdB B3 T2 0)) = (0 : Int32) → ∃ fs, hat h 5 (oC 4 fs))
  (k1 : (b2i (wdB B3 T2 0)) = (0 : Int32) → Ev G (d + 4) 0 0 M_St_halve 0 [.ref 14] [] h (fun r h1 => Ev G (d + 5) k n M_Re_read 54 [.ref 5, .int x1, .int (0 : Int32), ev_unk] (r.toList ++ []) h1 R))
  (k2 : ¬ (b2i (wdB B3 T2 0)) = (0 : Int32) → Ev G (d + 4) 0 0 M_Re_readBits 0 [.ref 5, ev_unk] [] h (fun r h1 => Ev G (d + 5) k n M_Re_read 42 [.ref 5, .int x1, ev_unk, ev_unk] (r.toList ++ []) h1 R))
  : Ev G (d + 5) k n M_Re_read 29 [.ref 5, .int x1, ev_unk, ev_unk] [] h R :=
  Ev.go (pc' := 30) (ls' := [.ref 5, .int x1, ev_unk, ev_unk]) (st' := [.ref 5]) [.aload_n 0] (by decide +kernel) rfl <|
  Ev.ldcS (i := 0) rfl (by decide +kernel) <|
  Ev.cV0 (M' := M_Re_isWord) (as := [.ref (ev_big + 0)]) (rest := []) l_Re_66 M_Re_isWord_ok M_Re_isWord_in M_Re_isWord_se (by decide +kernel) r5 rfl rfl rfl (Nat.le_of_ble_eq_true rfl) (Nat.le_of_ble_eq_true rfl) (s_Re_isWord pr1 pr2 pr3 pr4 <| show Ev G (d + 5) _ _ M_Re_read 35 [.ref 5, .int x1, ev_unk, ev_unk] [.int (b2i (wdB B3 T2 0))] h R from
    Ev.br (i := .ifCond .eq (10)) (P := (b2i (wdB B3 T2 0)) = (0 : Int32)) (t := 45) (f := 38) (r := []) (by decide +kernel) rfl (fun c1 =>
      Ev.go (pc' := 48) (ls' := [.ref 5, .int x1, .int (0 : Int32), ev_unk]) (st' := [.ref 5]) [.iconst 0, .istore_n 2, .aload_n 0] (by decide +kernel) rfl <|
      Ev.getf f_Re_28 (by decide +kernel) a6 rfl <|
      Ev.cV0 (M' := M_St_halve) (as := []) (rest := []) l_Re_74 M_St_halve_ok M_St_halve_in M_St_halve_se (by decide +kernel) (r7 c1) rfl rfl rfl (Nat.le_of_ble_eq_true rfl) (Nat.le_of_ble_eq_true rfl) (k1 c1)
    ) (fun c1 =>
      Ev.go (pc' := 39) (ls' := [.ref 5, .int x1, ev_unk, ev_unk]) (st' := [.ref 5]) [.aload_n 0] (by decide +kernel) rfl <|
      Ev.cV0 (M' := M_Re_readBits) (as := []) (rest := []) l_Re_70 M_Re_readBits_ok M_Re_readBits_in M_Re_readBits_se (by decide +kernel) (r8 c1) rfl rfl rfl (Nat.le_of_ble_eq_true rfl) (Nat.le_of_ble_eq_true rfl) (k2 c1)
    )
  )
theorem b_Re_read_42 {G : ev_G} {d k n : Nat} {h : ev_H} {R : Option Value → ev_H → Prop} {x1 : Int32} {y0 : Int32} {f_length_1 : Int32} {f_kind_2 : Int32} {f_start_3 : Int32} {f_end_4 : Int32}
  (a1 : hat h 5 (oC 4 [.ref 6, .ref 12, .ref 14, .ref 13, .int f_length_1, .int f_kind_2, .int f_start_3, .int f_end_4]))
  (r2 : ∃ fs, hat h 14 (oC 6 fs))
  (k1 : Ev G (d + 4) 0 0 M_St_halve 0 [.ref 14] [] h (fun r h1 => Ev G (d + 5) k n M_Re_read 54 [.ref 5, .int x1, .int y0, ev_unk] (r.toList ++ []) h1 R))
  : Ev G (d + 5) k n M_Re_read 42 [.ref 5, .int x1, ev_unk, ev_unk] [.int y0] h R :=
  Ev.go (pc' := 48) (ls' := [.ref 5, .int x1, .int y0, ev_unk]) (st' := [.ref 5]) [.goto (4), .istore_n 2, .aload_n 0] (by decide +kernel) rfl <|
  Ev.getf f_Re_28 (by decide +kernel) a1 rfl <|
  Ev.cV0 (M' := M_St_halve) (as := []) (rest := []) l_Re_74 M_St_halve_ok M_St_halve_in M_St_halve_se (by decide +kernel) r2 rfl rfl rfl (Nat.le_of_ble_eq_true rfl) (Nat.le_of_ble_eq_true rfl) k1
theorem b_Re_read_54 {G : ev_G} {d k n : Nat} {h : ev_H} {R : Option Value → ev_H → Prop} {x1 : Int32} {x2 : Int32} {L1 : Nat} {T2 : Tk} {B3 : Nat → Nat}
  (pr1 : x2 = (0 : Int32) → 1 < 15)
  (pr2 : x2 = (0 : Int32) → ReB h L1 T2)
  (pr3 : x2 = (0 : Int32) → TxB h B3 L1)
  (pr4 : x2 = (0 : Int32) → TkOk B3 L1 T2)
  (r5 : x2 = (0 : Int32) → ∃ fs, hat h 5 (oC 4 fs))
  (r6 : x2 = (0 : Int32) → ¬ (b2i (wdB B3 T2 1)) = (0 : Int32) → ∃ fs, hat h 5 (oC 4 fs))
  (k1 : x2 = (0 : Int32) → (b2i (wdB B3 T2 1)) = (0 : Int32) → Ev G (d + 5) k n M_Re_read 74 [.ref 5, .int x1, .int x2, .int (0 : Int32)] [] h R)
  (k2 : x2 = (0 : Int32) → ¬ (b2i (wdB B3 T2 1)) = (0 : Int32) → Ev G (d + 4) 0 0 M_Re_readParts 0 [.ref 5, ev_unk, ev_unk, ev_unk] [] h (fun r h1 => Ev G (d + 5) k n M_Re_read 71 [.ref 5, .int x1, .int x2, ev_unk] (r.toList ++ []) h1 R))
  (k3 : ¬ x2 = (0 : Int32) → Ev G (d + 5) k n M_Re_read 74 [.ref 5, .int x1, .int x2, .int (0 : Int32)] [] h R)
  : Ev G (d + 5) k n M_Re_read 54 [.ref 5, .int x1, .int x2, ev_unk] [] h R :=
  Ev.go (pc' := 55) (ls' := [.ref 5, .int x1, .int x2, ev_unk]) (st' := [.int x2]) [.iload_n 2] (by decide +kernel) rfl <|
  Ev.br (i := .ifCond .ne (17)) (P := x2 = (0 : Int32)) (t := 58) (f := 72) (r := []) (by decide +kernel) rfl (fun c1 =>
    Ev.go (pc' := 59) (ls' := [.ref 5, .int x1, .int x2, ev_unk]) (st' := [.ref 5]) [.aload_n 0] (by decide +kernel) rfl <|
    Ev.ldcS (i := 1) rfl (by decide +kernel) <|
    Ev.cV0 (M' := M_Re_isWord) (as := [.ref (ev_big + 1)]) (rest := []) l_Re_66 M_Re_isWord_ok M_Re_isWord_in M_Re_isWord_se (by decide +kernel) (r5 c1) rfl rfl rfl (Nat.le_of_ble_eq_true rfl) (Nat.le_of_ble_eq_true rfl) (s_Re_isWord (pr1 c1) (pr2 c1) (pr3 c1) (pr4 c1) <| show Ev G (d + 5) _ _ M_Re_read 64 [.ref 5, .int x1, .int x2, ev_unk] [.int (b2i (wdB B3 T2 1))] h R from
      Ev.br (i := .ifCond .eq (8)) (P := (b2i (wdB B3 T2 1)) = (0 : Int32)) (t := 72) (f := 67) (r := []) (by decide +kernel) rfl (fun c2 =>
        Ev.go (pc' := 74) (ls' := [.ref 5, .int x1, .int x2, .int (0 : Int32)]) (st' := []) [.iconst 0, .istore_n 3] (by decide +kernel) rfl <|
        (k1 c1 c2)
      ) (fun c2 =>
        Ev.go (pc' := 68) (ls' := [.ref 5, .int x1, .int x2, ev_unk]) (st' := [.ref 5]) [.aload_n 0] (by decide +kernel) rfl <|
        Ev.cV0 (M' := M_Re_readParts) (as := []) (rest := []) l_Re_79 M_Re_readParts_ok M_Re_readParts_in M_Re_readParts_se (by decide +kernel) (r6 c1 c2) rfl rfl rfl (Nat.le_of_ble_eq_true rfl) (Nat.le_of_ble_eq_true rfl) (k2 c1 c2)
      )
    )
  ) (fun c1 =>
    Ev.go (pc' := 74) (ls' := [.ref 5, .int x1, .int x2, .int (0 : Int32)]) (st' := []) [.iconst 0, .istore_n 3] (by decide +kernel) rfl <|
    (k3 c1)
  )
theorem b_Re_read_71 {G : ev_G} {d k n : Nat} {h : ev_H} {R : Option Value → ev_H → Prop} {x1 : Int32} {x2 : Int32} {y0 : Int32}
  (k1 : Ev G (d + 5) k n M_Re_read 74 [.ref 5, .int x1, .int y0, .int (0 : Int32)] [] h R)
  : Ev G (d + 5) k n M_Re_read 71 [.ref 5, .int x1, .int x2, ev_unk] [.int y0] h R :=
  Ev.go (pc' := 74) (ls' := [.ref 5, .int x1, .int y0, .int (0 : Int32)]) (st' := []) [.istore_n 2, .iconst 0, .istore_n 3] (by decide +kernel) rfl <|
  k1
theorem b_Re_read_74 {G : ev_G} {d k n : Nat} {h : ev_H} {R : Option Value → ev_H → Prop} {x1 : Int32} {x2 : Int32} {x3 : Int32} {f_length_1 : Int32} {f_kind_2 : Int32} {f_start_3 : Int32} {f_end_4 : Int32}
  (a1 : hat h 5 (oC 4 [.ref 6, .ref 12, .ref 14, .ref 13, .int f_length_1, .int f_kind_2, .int f_start_3, .int f_end_4]))
  (k1 : (900 : Int32) < x3 → x2 = (0 : Int32) → R (some (.int x2)) h)
  (k2 : (900 : Int32) < x3 → ¬ x2 = (0 : Int32) → f_kind_2 = (1 : Int32) → R (some (.int (1 : Int32))) h)
  (k3 : (900 : Int32) < x3 → ¬ x2 = (0 : Int32) → ¬ f_kind_2 = (1 : Int32) → R (some (.int x2)) h)
  (k4 : ¬ (900 : Int32) < x3 → x2 = (0 : Int32) → Ev G (d + 5) k n M_Re_read 85 [.ref 5, .int x1, .int x2, .int x3] [] h R)
  (k5 : ¬ (900 : Int32) < x3 → ¬ x2 = (0 : Int32) → x2 = (0 : Int32) → R (some (.int x2)) h)
  (k6 : ¬ (900 : Int32) < x3 → ¬ x2 = (0 : Int32) → ¬ x2 = (0 : Int32) → f_kind_2 = (1 : Int32) → R (some (.int (1 : Int32))) h)
  (k7 : ¬ (900 : Int32) < x3 → ¬ x2 = (0 : Int32) → ¬ x2 = (0 : Int32) → ¬ f_kind_2 = (1 : Int32) → R (some (.int x2)) h)
  : Ev G (d + 5) k n M_Re_read 74 [.ref 5, .int x1, .int x2, .int x3] [] h R :=
  Ev.go (pc' := 78) (ls' := [.ref 5, .int x1, .int x2, .int x3]) (st' := [.int (900 : Int32), .int x3]) [.iload_n 3, .sipush (900)] (by decide +kernel) rfl <|
  Ev.br (i := .if_icmp .gt (55)) (P := (900 : Int32) < x3) (t := 133) (f := 81) (r := []) (by decide +kernel) rfl (fun c1 =>
    Ev.go (pc' := 134) (ls' := [.ref 5, .int x1, .int x2, .int x3]) (st' := [.int x2]) [.iload_n 2] (by decide +kernel) rfl <|
    Ev.br (i := .ifCond .eq (15)) (P := x2 = (0 : Int32)) (t := 149) (f := 137) (r := []) (by decide +kernel) rfl (fun c2 =>
      Ev.go (pc' := 150) (ls' := [.ref 5, .int x1, .int x2, .int x3]) (st' := [.int x2]) [.iload_n 2] (by decide +kernel) rfl <|
      Ev.ret (r := (some (.int x2))) (Or.inl ⟨_, rfl, by decide +kernel, _, rfl, rfl⟩) (k1 c1 c2)
    ) (fun c2 =>
      Ev.go (pc' := 138) (ls' := [.ref 5, .int x1, .int x2, .int x3]) (st' := [.ref 5]) [.aload_n 0] (by decide +kernel) rfl <|
      Ev.getf f_Re_43 (by decide +kernel) a1 rfl <|
      Ev.go (pc' := 142) (ls' := [.ref 5, .int x1, .int x2, .int x3]) (st' := [.int (1 : Int32), .int f_kind_2]) [.iconst 1] (by decide +kernel) rfl <|
      Ev.br (i := .if_icmp .ne (7)) (P := f_kind_2 = (1 : Int32)) (t := 145) (f := 149) (r := []) (by decide +kernel) rfl (fun c3 =>
        Ev.go (pc' := 150) (ls' := [.ref 5, .int x1, .int x2, .int x3]) (st' := [.int (1 : Int32)]) [.iconst 1, .goto (4)] (by decide +kernel) rfl <|
        Ev.ret (r := (some (.int (1 : Int32)))) (Or.inl ⟨_, rfl, by decide +kernel, _, rfl, rfl⟩) (k2 c1 c2 c3)
      ) (fun c3 =>
        Ev.go (pc' := 150) (ls' := [.ref 5, .int x1, .int x2, .int x3]) (st' := [.int x2]) [.iload_n 2] (by decide +kernel) rfl <|
        Ev.ret (r := (some (.int x2))) (Or.inl ⟨_, rfl, by decide +kernel, _, rfl, rfl⟩) (k3 c1 c2 c3)
      )
    )
  ) (fun c1 =>
    Ev.go (pc' := 82) (ls' := [.ref 5, .int x1, .int x2, .int x3]) (st' := [.int x2]) [.iload_n 2] (by decide +kernel) rfl <|
    Ev.br (i := .ifCond .ne (51)) (P := x2 = (0 : Int32)) (t := 85) (f := 133) (r := []) (by decide +kernel) rfl (fun c2 =>
      (k4 c1 c2)
    ) (fun c2 =>
      Ev.go (pc' := 134) (ls' := [.ref 5, .int x1, .int x2, .int x3]) (st' := [.int x2]) [.iload_n 2] (by decide +kernel) rfl <|
      Ev.br (i := .ifCond .eq (15)) (P := x2 = (0 : Int32)) (t := 149) (f := 137) (r := []) (by decide +kernel) rfl (fun c3 =>
        Ev.go (pc' := 150) (ls' := [.ref 5, .int x1, .int x2, .int x3]) (st' := [.int x2]) [.iload_n 2] (by decide +kernel) rfl <|
        Ev.ret (r := (some (.int x2))) (Or.inl ⟨_, rfl, by decide +kernel, _, rfl, rfl⟩) (k5 c1 c2 c3)
      ) (fun c3 =>
        Ev.go (pc' := 138) (ls' := [.ref 5, .int x1, .int x2, .int x3]) (st' := [.ref 5]) [.aload_n 0] (by decide +kernel) rfl <|
        Ev.getf f_Re_43 (by decide +kernel) a1 rfl <|
        Ev.go (pc' := 142) (ls' := [.ref 5, .int x1, .int x2, .int x3]) (st' := [.int (1 : Int32), .int f_kind_2]) [.iconst 1] (by decide +kernel) rfl <|
        Ev.br (i := .if_icmp .ne (7)) (P := f_kind_2 = (1 : Int32)) (t := 145) (f := 149) (r := []) (by decide +kernel) rfl (fun c4 =>
          Ev.go (pc' := 150) (ls' := [.ref 5, .int x1, .int x2, .int x3]) (st' := [.int (1 : Int32)]) [.iconst 1, .goto (4)] (by decide +kernel) rfl <|
          Ev.ret (r := (some (.int (1 : Int32)))) (Or.inl ⟨_, rfl, by decide +kernel, _, rfl, rfl⟩) (k6 c1 c2 c3 c4)
        ) (fun c4 =>
          Ev.go (pc' := 150) (ls' := [.ref 5, .int x1, .int x2, .int x3]) (st' := [.int x2]) [.iload_n 2] (by decide +kernel) rfl <|
          Ev.ret (r := (some (.int x2))) (Or.inl ⟨_, rfl, by decide +kernel, _, rfl, rfl⟩) (k7 c1 c2 c3 c4)
        )
      )
    )
  )
theorem b_Re_read_85 {G : ev_G} {d k n : Nat} {h : ev_H} {R : Option Value → ev_H → Prop} {x1 : Int32} {x2 : Int32} {x3 : Int32} {f_length_1 : Int32} {f_kind_2 : Int32} {f_start_3 : Int32} {f_end_4 : Int32}
  (a1 : hat h 5 (oC 4 [.ref 6, .ref 12, .ref 14, .ref 13, .int f_length_1, .int f_kind_2, .int f_start_3, .int f_end_4]))
  (k1 : f_kind_2 = (0 : Int32) → x2 = (0 : Int32) → R (some (.int x2)) h)
  (k2 : f_kind_2 = (0 : Int32) → ¬ x2 = (0 : Int32) → f_kind_2 = (1 : Int32) → R (some (.int (1 : Int32))) h)
  (k3 : f_kind_2 = (0 : Int32) → ¬ x2 = (0 : Int32) → ¬ f_kind_2 = (1 : Int32) → R (some (.int x2)) h)
  (k4 : ¬ f_kind_2 = (0 : Int32) → Ev G (d + 5) k n M_Re_read 92 [.ref 5, .int x1, .int x2, .int x3] [] h R)
  : Ev G (d + 5) k n M_Re_read 85 [.ref 5, .int x1, .int x2, .int x3] [] h R :=
  Ev.go (pc' := 86) (ls' := [.ref 5, .int x1, .int x2, .int x3]) (st' := [.ref 5]) [.aload_n 0] (by decide +kernel) rfl <|
  Ev.getf f_Re_43 (by decide +kernel) a1 rfl <|
  Ev.br (i := .ifCond .eq (44)) (P := f_kind_2 = (0 : Int32)) (t := 133) (f := 92) (r := []) (by decide +kernel) rfl (fun c1 =>
    Ev.go (pc' := 134) (ls' := [.ref 5, .int x1, .int x2, .int x3]) (st' := [.int x2]) [.iload_n 2] (by decide +kernel) rfl <|
    Ev.br (i := .ifCond .eq (15)) (P := x2 = (0 : Int32)) (t := 149) (f := 137) (r := []) (by decide +kernel) rfl (fun c2 =>
      Ev.go (pc' := 150) (ls' := [.ref 5, .int x1, .int x2, .int x3]) (st' := [.int x2]) [.iload_n 2] (by decide +kernel) rfl <|
      Ev.ret (r := (some (.int x2))) (Or.inl ⟨_, rfl, by decide +kernel, _, rfl, rfl⟩) (k1 c1 c2)
    ) (fun c2 =>
      Ev.go (pc' := 138) (ls' := [.ref 5, .int x1, .int x2, .int x3]) (st' := [.ref 5]) [.aload_n 0] (by decide +kernel) rfl <|
      Ev.getf f_Re_43 (by decide +kernel) a1 rfl <|
      Ev.go (pc' := 142) (ls' := [.ref 5, .int x1, .int x2, .int x3]) (st' := [.int (1 : Int32), .int f_kind_2]) [.iconst 1] (by decide +kernel) rfl <|
      Ev.br (i := .if_icmp .ne (7)) (P := f_kind_2 = (1 : Int32)) (t := 145) (f := 149) (r := []) (by decide +kernel) rfl (fun c3 =>
        Ev.go (pc' := 150) (ls' := [.ref 5, .int x1, .int x2, .int x3]) (st' := [.int (1 : Int32)]) [.iconst 1, .goto (4)] (by decide +kernel) rfl <|
        Ev.ret (r := (some (.int (1 : Int32)))) (Or.inl ⟨_, rfl, by decide +kernel, _, rfl, rfl⟩) (k2 c1 c2 c3)
      ) (fun c3 =>
        Ev.go (pc' := 150) (ls' := [.ref 5, .int x1, .int x2, .int x3]) (st' := [.int x2]) [.iload_n 2] (by decide +kernel) rfl <|
        Ev.ret (r := (some (.int x2))) (Or.inl ⟨_, rfl, by decide +kernel, _, rfl, rfl⟩) (k3 c1 c2 c3)
      )
    )
  ) (fun c1 =>
    (k4 c1)
  )
theorem b_Re_read_92 {G : ev_G} {d k n : Nat} {h : ev_H} {R : Option Value → ev_H → Prop} {x1 : Int32} {x2 : Int32} {x3 : Int32} {L1 : Nat} {T2 : Tk} {B3 : Nat → Nat}
  (pr1 : 2 < 15)
  (pr2 : ReB h L1 T2)
  (pr3 : TxB h B3 L1)
  (pr4 : TkOk B3 L1 T2)
  (r5 : ∃ fs, hat h 5 (oC 4 fs))
  (k1 : (b2i (wdB B3 T2 2)) = (0 : Int32) → Ev G (d + 5) k n M_Re_read 109 [.ref 5, .int x1, .int x2, .int x3] [] h R)
  (k2 : ¬ (b2i (wdB B3 T2 2)) = (0 : Int32) → Ev G (d + 5) k n M_Re_read 101 [.ref 5, .int x1, .int x2, .int x3] [] h R)
  : Ev G (d + 5) k n M_Re_read 92 [.ref 5, .int x1, .int x2, .int x3] [] h R :=
  Ev.go (pc' := 93) (ls' := [.ref 5, .int x1, .int x2, .int x3]) (st' := [.ref 5]) [.aload_n 0] (by decide +kernel) rfl <|
  Ev.ldcS (i := 2) rfl (by decide +kernel) <|
  Ev.cV0 (M' := M_Re_isWord) (as := [.ref (ev_big + 2)]) (rest := []) l_Re_66 M_Re_isWord_ok M_Re_isWord_in M_Re_isWord_se (by decide +kernel) r5 rfl rfl rfl (Nat.le_of_ble_eq_true rfl) (Nat.le_of_ble_eq_true rfl) (s_Re_isWord pr1 pr2 pr3 pr4 <| show Ev G (d + 5) _ _ M_Re_read 98 [.ref 5, .int x1, .int x2, .int x3] [.int (b2i (wdB B3 T2 2))] h R from
    Ev.br (i := .ifCond .eq (11)) (P := (b2i (wdB B3 T2 2)) = (0 : Int32)) (t := 109) (f := 101) (r := []) (by decide +kernel) rfl (fun c1 =>
      (k1 c1)
    ) (fun c1 =>
      (k2 c1)
    )
  )
theorem b_Re_read_101 {G : ev_G} {d k n : Nat} {h : ev_H} {R : Option Value → ev_H → Prop} {x1 : Int32} {x2 : Int32} {x3 : Int32}
  (r1 : ∃ fs, hat h 5 (oC 4 fs))
  (k1 : Ev G (d + 4) 0 0 M_Re_readCode 0 [.ref 5, ev_unk, ev_unk, ev_unk] [] h (fun r h1 => Ev G (d + 5) k n M_Re_read 105 [.ref 5, .int x1, .int x2, .int x3] (r.toList ++ []) h1 R))
  : Ev G (d + 5) k n M_Re_read 101 [.ref 5, .int x1, .int x2, .int x3] [] h R :=
  Ev.go (pc' := 102) (ls' := [.ref 5, .int x1, .int x2, .int x3]) (st' := [.ref 5]) [.aload_n 0] (by decide +kernel) rfl <|
  Ev.cV0 (M' := M_Re_readCode) (as := []) (rest := []) l_Re_84 M_Re_readCode_ok M_Re_readCode_in M_Re_readCode_se (by decide +kernel) r1 rfl rfl rfl (Nat.le_of_ble_eq_true rfl) (Nat.le_of_ble_eq_true rfl) k1
theorem b_Re_read_105 {G : ev_G} {d k n : Nat} {h : ev_H} {R : Option Value → ev_H → Prop} {x1 : Int32} {x2 : Int32} {x3 : Int32} {y0 : Int32}
  (k1 : Ev G (d + 5) k n M_Re_read 74 [.ref 5, .int x1, .int y0, .int (x3 + (1 : Int32))] [] h R)
  : Ev G (d + 5) k n M_Re_read 105 [.ref 5, .int x1, .int x2, .int x3] [.int y0] h R :=
  Ev.go (pc' := 74) (ls' := [.ref 5, .int x1, .int y0, .int (x3 + (1 : Int32))]) (st' := []) [.istore_n 2, .goto (21), .iinc 3 (1), .goto (-56)] (by decide +kernel) rfl <|
  k1
theorem b_Re_read_109 {G : ev_G} {d k n : Nat} {h : ev_H} {R : Option Value → ev_H → Prop} {x1 : Int32} {x2 : Int32} {x3 : Int32} {L1 : Nat} {T2 : Tk} {B3 : Nat → Nat}
  (pr1 : 3 < 15)
  (pr2 : ReB h L1 T2)
  (pr3 : TxB h B3 L1)
  (pr4 : TkOk B3 L1 T2)
  (r5 : ∃ fs, hat h 5 (oC 4 fs))
  (k1 : (b2i (wdB B3 T2 3)) = (0 : Int32) → Ev G (d + 5) k n M_Re_read 74 [.ref 5, .int x1, .int (2 : Int32), .int (x3 + (1 : Int32))] [] h R)
  (k2 : ¬ (b2i (wdB B3 T2 3)) = (0 : Int32) → Ev G (d + 5) k n M_Re_read 118 [.ref 5, .int x1, .int x2, .int x3] [] h R)
  : Ev G (d + 5) k n M_Re_read 109 [.ref 5, .int x1, .int x2, .int x3] [] h R :=
  Ev.go (pc' := 110) (ls' := [.ref 5, .int x1, .int x2, .int x3]) (st' := [.ref 5]) [.aload_n 0] (by decide +kernel) rfl <|
  Ev.ldcS (i := 3) rfl (by decide +kernel) <|
  Ev.cV0 (M' := M_Re_isWord) (as := [.ref (ev_big + 3)]) (rest := []) l_Re_66 M_Re_isWord_ok M_Re_isWord_in M_Re_isWord_se (by decide +kernel) r5 rfl rfl rfl (Nat.le_of_ble_eq_true rfl) (Nat.le_of_ble_eq_true rfl) (s_Re_isWord pr1 pr2 pr3 pr4 <| show Ev G (d + 5) _ _ M_Re_read 115 [.ref 5, .int x1, .int x2, .int x3] [.int (b2i (wdB B3 T2 3))] h R from
    Ev.br (i := .ifCond .eq (10)) (P := (b2i (wdB B3 T2 3)) = (0 : Int32)) (t := 125) (f := 118) (r := []) (by decide +kernel) rfl (fun c1 =>
      Ev.go (pc' := 74) (ls' := [.ref 5, .int x1, .int (2 : Int32), .int (x3 + (1 : Int32))]) (st' := []) [.iconst 2, .istore_n 2, .iinc 3 (1), .goto (-56)] (by decide +kernel) rfl <|
      (k1 c1)
    ) (fun c1 =>
      (k2 c1)
    )
  )
theorem b_Re_read_118 {G : ev_G} {d k n : Nat} {h : ev_H} {R : Option Value → ev_H → Prop} {x1 : Int32} {x2 : Int32} {x3 : Int32} {m1 : Nat}
  (r1 : ∃ fs, hat h 5 (oC 4 fs))
  (k1 : Ev G (d + 4) 6 m1 M_Re_readFilter 0 [.ref 5, ev_unk] [] h (fun r h1 => Ev G (d + 5) k n M_Re_read 122 [.ref 5, .int x1, .int x2, .int x3] (r.toList ++ []) h1 R))
  : Ev G (d + 5) (6 + k) (m1 + n) M_Re_read 118 [.ref 5, .int x1, .int x2, .int x3] [] h R :=
  Ev.go (pc' := 119) (ls' := [.ref 5, .int x1, .int x2, .int x3]) (st' := [.ref 5]) [.aload_n 0] (by decide +kernel) rfl <|
  Ev.cV (M' := M_Re_readFilter) (as := []) (rest := []) l_Re_89 M_Re_readFilter_ok M_Re_readFilter_in M_Re_readFilter_se (by decide +kernel) r1 rfl rfl rfl (Nat.le_of_ble_eq_true rfl) (Nat.le_of_ble_eq_true rfl) k1
theorem b_Re_read_122 {G : ev_G} {d k n : Nat} {h : ev_H} {R : Option Value → ev_H → Prop} {x1 : Int32} {x2 : Int32} {x3 : Int32} {y0 : Int32}
  (k1 : Ev G (d + 5) k n M_Re_read 74 [.ref 5, .int x1, .int y0, .int (x3 + (1 : Int32))] [] h R)
  : Ev G (d + 5) k n M_Re_read 122 [.ref 5, .int x1, .int x2, .int x3] [.int y0] h R :=
  Ev.go (pc' := 74) (ls' := [.ref 5, .int x1, .int y0, .int (x3 + (1 : Int32))]) (st' := []) [.goto (4), .istore_n 2, .iinc 3 (1), .goto (-56)] (by decide +kernel) rfl <|
  k1
def pLine (B : Nat → Nat) (L : Nat) (T : Tk) (S : AS) : LR := if wdB B T 2 then pCode B L T S else if wdB B T 3 then pFilt B L T S else (2, T, S)
def pLns (B : Nat → Nat) (L : Nat) : Nat → Tk → AS → LR
  | 0, T, S => (0, T, S)
  | n + 1, T, S => if T.1 = 0 then (0, T, S) else if (pLine B L T S).1 = 0 then pLns B L n (pLine B L T S).2.1 (pLine B L T S).2.2 else pLine B L T S
def emS : AS := mkS 16 2 0 (fun _ => 0) (fun _ => 0) (fun _ => 0) []
def pR1 (B : Nat → Nat) (L : Nat) : LR := if wdB B (tok B L 0) 0 then pBits B L (tok B L 0) emS else (0, tok B L 0, emS)
def pR2 (B : Nat → Nat) (L : Nat) : LR := if (pR1 B L).1 = 0 then (if wdB B (pR1 B L).2.1 1 then pParts B L (pR1 B L).2.1 (halS (pR1 B L).2.2) else (0, (pR1 B L).2.1, halS (pR1 B L).2.2)) else pR1 B L
def pRead (B : Nat → Nat) (L : Nat) : LR := if (pR2 B L).1 = 0 then pLns B L 901 (pR2 B L).2.1 (pR2 B L).2.2 else pR2 B L
def pFault (r : LR) : Nat := if r.1 = 0 then 0 else if r.2.1.1 = 1 then 1 else r.1
section S40
variable {G : ev_G} {d k n : Nat} {h : ev_H} {R : Option Value → ev_H → Prop} {B : Nat → Nat} {L : Nat} {T : Tk} {S : AS}
theorem s_Re_readFilterR (HB : ReB h L T) (HS : StR h 14 S) (hb : sB S ≤ 48) (hx : SpX h) (hf : (sFl S).isEmpty = false) (hR : ∀ h', LnR h h' L (pFilt B L T S) → h'.1 = h.1 → R (some (.int (nI (pFilt B L T S).1))) h') : Ev G (d + 1) 0 0 M_Re_readFilter 0 [.ref 5, ev_unk] [] h R := by
  have e : pFilt B L T S = (5, T, S) := by unfold pFilt; rw [hf]; rfl
  rw [e] at hR
  have HS0 := HS
  obtain ⟨brf, tgf, cof, fv, t1, t2, t3, t4, e1, e2, F⟩ := HS0
  rcases F with ⟨hn, rfl⟩ | ⟨hn, f, rfl, -, hF⟩
  · rw [hn] at hf; cases hf
  · refine b_Re_readFilter_0r HB t1 ?_
    exact hR h (LnR.fault HB hx HS hb (by omega)) rfl
theorem fiN_le {n : Nat} (h : n < 300) : fiN n ≤ 1500 := by unfold fiN; omega
theorem s_Re_readFilterN (HB : ReB h L T) (HX : TxB h B L) (HT : TkOk B L T) (hw : wdB B T 3 = true) (HS : StR h 14 S) (g : sGd S) (hx : SpX h) (hf : sFl S = []) (h126 : 126 ≤ h.1) (hbig : h.1 + 6 ≤ ev_big) (hR : ∀ h', LnR h h' L (pFilt B L T S) → h'.1 ≤ h.1 + 6 → R (some (.int (nI (pFilt B L T S).1))) h') : Ev G (d + 27) 6 1505 M_Re_readFilter 0 [.ref 5, ev_unk] [] h R := by
  have ok := g.1
  have n1 := nx_ok HT
  have e : pFilt B L T S = if (pTest B L S 6 (nx B L T)).1 = 0 then pSign B L 59 (pTest B L S 6 (nx B L T)).2.1 (setF S (pTest B L S 6 (nx B L T)).2.2) else ((pTest B L S 6 (nx B L T)).1, (pTest B L S 6 (nx B L T)).2.1, S) := by unfold pFilt; rw [hf]; rfl
  rw [e] at hR
  have HS0 := HS
  obtain ⟨brf, tgf, cof, fv, t1, t2, t3, t4, e1, e2, F⟩ := HS0
  have fn0 : fv = .null := F.elim (fun z => z.2) (fun z => absurd hf z.1)
  subst fn0
  obtain ⟨fl0, l0, ks, ss, ps, bs, frs, f0, f1, f2, f3, f4, f5, -⟩ := hx
  have ihT : RdP G B L S (6 + 3 * 6 + 1 + 1) M_Re_readTest (6 - 6) (pSd B L (pSd B L (pFact B L S 6) 7 1) 6 2) := s_Re_readTest (s_Re_readSide (s_Re_readFact ok 6 (by omega)) (pFact_GI ok 6) (by omega)) (pSide_GI ok 6) (by omega)
  obtain ⟨a1, a2, a3, a4⟩ := pTest_GI (B := B) (L := L) ok 6 _ n1
  have hL9 := HX.1
  refine b_Re_readFilter_0n HB t1 f0 ?_
  have K1 := (Kp.refl h 5 12).set (k := 6) (oC 5 [.ref 7, .ref 8, .ref 9, .ref 10, .ref 11, .int (0 : Int32)]) (by omega) (by omega)
  have P1 : SpR (hset h 6 (oC 5 [.ref 7, .ref 8, .ref 9, .ref 10, .ref 11, .int (0 : Int32)])) [] := ⟨ks, ss, ps, bs, frs, hat_set f0, hat_ne f1 (by omega), hat_ne f2 (by omega), hat_ne f3 (by omega), hat_ne f4 (by omega), hat_ne f5 (by omega), fun i s hi => by simp at hi⟩
  have HB1 : ReB (hset h 6 (oC 5 [.ref 7, .ref 8, .ref 9, .ref 10, .ref 11, .int (0 : Int32)])) L T := hat_ne HB (by omega)
  have HX1 := HX.kg K1.g (by omega)
  have HS1 := HS.kp K1 (by omega) (by omega)
  refine (s_Re_nx (d := 22) HB1 HX1 HT.2.2.1 fun h2 K2 HB => ?_).room (by omega) (Nat.le_refl _) (Nat.le_refl _)
  have K2w : Kp h h2 5 12 := K1.trans (K2.wide (by omega) (by omega))
  have HX2 := HX1.kg K2.g (by omega)
  have HS2 := HS1.kp K2 (by omega) (by omega)
  have P2 := P1.kg K2.g (by omega)
  refine b_Re_readFilter_24n ⟨_, HB⟩ ?_
  refine (ihT 0 h2 (nx B L T) [] _ HB HX2 n1 HS2 P2 (by show 3 * 0 ≤ _; omega) fun h3 K3 HB X3 P3 => ?_).room (by omega) (Nat.le_refl _) (Nat.le_refl _)
  change ReB h3 L (pTest B L S 6 (nx B L T)).2.1 at HB
  change (pTest B L S 6 (nx B L T)).1 = 0 → SpR h3 ([] ++ (pTest B L S 6 (nx B L T)).2.2) at P3
  show Ev G (d + 27) 6 1505 M_Re_readFilter 29 [.ref 5, ev_unk] [.int (nI (pTest B L S 6 (nx B L T)).1)] h3 R
  have K3w := K2w.trans K3
  have HX3 := HX2.kg K3.g (by omega)
  have HS3 := HS2.kp K3 (by omega) (by omega)
  have en3 : h3.1 = h.1 := K3w.1
  have Kr3 : Kr h h3 := K3w.r (by omega)
  by_cases c0 : (pTest B L S 6 (nx B L T)).1 = 0
  · rw [if_pos c0] at hR
    obtain ⟨b1, b2, b3, b4⟩ := a4 c0
    have P3 := P3 c0
    rw [List.nil_append] at P3
    have l1 := a1.2.1
    have l2 := a1.2.2.1
    have len : (pTest B L S 6 (nx B L T)).2.2.length < 300 := by omega
    have ne : (pTest B L S 6 (nx B L T)).2.2 ≠ [] := fun z => by
      have := (b4 0).2
      rw [z] at this
      exact absurd this (by show ¬ 0 = 0 + 1; omega)
    rw [c0]
    clear ihT b1 b2 b3 b4 a4
    generalize (pTest B L S 6 (nx B L T)).2.2 = seg at hR P3 len ne
    generalize (pTest B L S 6 (nx B L T)).2.1 = T4 at hR HB a1
    refine b_Re_readFilter_29n (fun _ => ?_) (fun c => absurd rfl c)
    have fn := fiN_le len
    refine (b_Re_readFilter_36n (d := d + 26) (k := 0) (n := 0) (m6 := fiN seg.length) (nn5 := h.1) HB en3 (by omega) ?_).room (Nat.le_refl _) (by omega) (by omega)
    have at3 : hat (hpush h3 (oC 1 [.null, .null, .null, .null, .null])) h.1 (oC 1 [.null, .null, .null, .null, .null]) := hat_at en3 (hat_pushed h3 _)
    have Kp3 := (Kg.refl h3 h.1 h.1).push (oC 1 [.null, .null, .null, .null, .null])
    refine (s_Fi_init (d := 0) (f := h.1) (fl := seg) h126 (by show h3.1 + 1 = h.1 + 1; omega) at3 (P3.kg Kp3 (by omega)) len (by omega) fun h4 K4 n4 F4 => ?_).room (by omega) (Nat.le_refl _) (Nat.le_refl _)
    have K4 : Kg h3 h4 h.1 (h.1 + 1) := (Kp3.wide (by omega) (by omega)).trans K4
    have Kr4 : Kr h h4 := Kr3.trans (K4.r (by omega))
    have t1' := K4.hat (K3w.hat t1 (by omega)) (by omega)
    have t2' := K4.hat (K3w.hat t2 (by omega)) (by omega)
    have t3' := K4.hat (K3w.hat t3 (by omega)) (by omega)
    have t4' := K4.hat (K3w.hat t4 (by omega)) (by omega)
    have HB4 : ReB h4 L T4 := K4.hat HB (by omega)
    have HX4 := Kr4.tx HX
    have X4 := X3.kg K4 (by omega)
    have K5 := (Kp.refl h4 14 18).set (k := 14) (oC 6 [.int (nI (sB S)), .int (nI (sP S)), .ref (14 + 1), .int (nI (sN S)), .ref (14 + 2), .ref (14 + 3), .ref h.1]) (by omega) (by omega)
    have HS5 : StR (hset h4 14 (oC 6 [.int (nI (sB S)), .int (nI (sP S)), .ref (14 + 1), .int (nI (sN S)), .ref (14 + 2), .ref (14 + 3), .ref h.1])) 14 (setF S seg) := ⟨brf, tgf, cof, _, hat_set t1', hat_ne t2' (by omega), hat_ne t3' (by omega), hat_ne t4' (by omega), e1, e2, Or.inr ⟨ne, h.1, rfl, h126, F4.kg K5.g (by omega)⟩⟩
    refine b_Re_readFilter_51n t1' ⟨_, hat_ne HB4 (by omega)⟩ ?_
    refine (s_signL (d := 0) (c := 59) (HB4.kg K5.g (by omega)) (HX4.kg K5.g (by omega)) a1 HS5 ok.2.1 (X4.kg K5.g (by omega)) ⟨rfl, by omega⟩ fun h6 H6 n6 => b_Re_readFilter_60n ?_).room (by omega) (Nat.le_refl _) (Nat.le_refl _)
    exact hR h6 (H6.after (Kr4.trans (K5.r (by omega)))) (by rw [n6, K5.1, n4]; omega)
  · rw [if_neg c0] at hR
    refine b_Re_readFilter_29n (fun c => absurd ((nI_eq (b := 0) (by omega) (by omega)).mp c) c0) (fun _ => ?_)
    exact hR h3 ⟨Kr3, HB, X3, ⟨S, ok.2.1, HS3⟩, fun z => absurd z c0⟩ (by omega)
theorem pLine_LG (h : TkOk B L T) (hL : L ≤ 900) (g : sGd S) : LG B L T (pLine B L T S) := by
  unfold pLine
  split
  · exact pCode_LG h g
  split
  · next c => exact pFilt_LG h c hL g
  · exact ⟨h, Nat.le_refl _, by show 2 ≤ 6; omega, fun z => absurd z (by show ¬ 2 = 0; omega)⟩
theorem pSign_S {c : Nat} (h : (pSign B L c T S).1 = 0) : (pSign B L c T S).2.2 = S := by
  unfold pSign at h ⊢
  split <;> rfl
def roK (S : AS) : Nat := if (sFl S).isEmpty then 6 else 0
def roN (S : AS) : Nat := if (sFl S).isEmpty then 1505 else 0
theorem pCode_F (h : (pCode B L T S).1 = 0) : sFl (pCode B L T S).2.2 = sFl S := by
  have ap : ∀ (y : Int64) (t : Nat), sFl (apS S y t) = sFl S := fun y t => by unfold apS; split <;> rfl
  revert h
  unfold pCode
  split
  · split
    · split
      · unfold pTag
        split
        · split
          · intro h; rw [pSign_S h, ap]
          · next c => exact fun h => absurd h c
        · intro h; rw [pSign_S h, ap]
      · exact fun h => absurd h (by show ¬ 5 = 0; omega)
    · next c => exact fun h => absurd h c
  · exact fun h => absurd h (by show ¬ 6 = 0; omega)
/-- a whole text's lines -/
theorem s_Re_lines : ∀ (m : Nat) (h1 : ev_H) (T : Tk) (S : AS) (x : Int32) (R : Option Value → ev_H → Prop), m ≤ 901 → ReB h1 L T → TxB h1 B L → TkOk B L T → StR h1 14 S → sGd S → SpX h1 → 126 ≤ h1.1 → h1.1 + roK S ≤ ev_big → (∀ h', LnR h1 h' L (pLns B L m T S) → h'.1 ≤ h1.1 + roK S → R (some (.int (nI (pFault (pLns B L m T S))))) h') → Ev G (d + 28) (roK S) (roN S) M_Re_read 74 [.ref 5, .int x, .int 0, .int (nI (901 - m))] [] h1 R
  | 0, h1, T, S, x, R, hm, HB, HX, HT, HS, g, hx, h126, hbig, hR => by
    have yes : (900 : Int32) < nI (901 - 0) := by decide
    refine b_Re_read_74 HB (fun c1 c2 => ?_) (fun c1 c2 c3 => absurd rfl c2) (fun c1 c2 c3 => absurd rfl c2) (fun c1 c2 => absurd yes c1) (fun c1 c2 c3 => absurd yes c1) (fun c1 c2 c3 c4 => absurd yes c1) (fun c1 c2 c3 c4 => absurd yes c1)
    exact hR h1 ⟨Kr.refl _, HB, hx, ⟨S, g.1.2.1, HS⟩, fun _ => HS⟩ (by omega)
  | m + 1, h1, T, S, x, R, hm, HB, HX, HT, HS, g, hx, h126, hbig, hR => by
    have no : ¬ (900 : Int32) < nI (901 - (m + 1)) := nI_nlt (b := 901 - (m + 1)) (a := 900) (by omega) (by omega)
    have k97 := HT.1
    have u0 : nI T.1 = 0 ↔ T.1 = 0 := nI_eq (b := 0) (by omega) (by omega)
    have u1 : nI T.1 = 1 ↔ T.1 = 1 := nI_eq (b := 1) (by omega) (by omega)
    have e : pLns B L (m + 1) T S = if T.1 = 0 then (0, T, S) else if (pLine B L T S).1 = 0 then pLns B L m (pLine B L T S).2.1 (pLine B L T S).2.2 else pLine B L T S := rfl
    rw [e] at hR
    refine b_Re_read_74 HB (fun c1 c2 => absurd c1 no) (fun c1 c2 c3 => absurd c1 no) (fun c1 c2 c3 => absurd c1 no) (fun c1 c2 => ?_) (fun c1 c2 c3 => absurd rfl c2) (fun c1 c2 c3 c4 => absurd rfl c2) (fun c1 c2 c3 c4 => absurd rfl c2)
    refine b_Re_read_85 HB (fun c1 c2 => ?_) (fun c1 c2 c3 => absurd rfl c2) (fun c1 c2 c3 => absurd rfl c2) (fun c1 => ?_)
    · rw [if_pos (u0.mp ‹_›)] at hR
      exact hR h1 ⟨Kr.refl _, HB, hx, ⟨S, g.1.2.1, HS⟩, fun _ => HS⟩ (by omega)
    have t0 : ¬ T.1 = 0 := fun z => ‹¬ nI T.1 = 0› (u0.mpr z)
    rw [if_neg t0] at hR
    have lg := pLine_LG HT HX.1 g
    have en : nI (901 - (m + 1)) + 1 = nI (901 - m) := by rw [nI_1, show 901 - (m + 1) + 1 = 901 - m by omega]
    -- what follows a line
    have after : ∀ (h2 : ev_H) (kk nn : Nat), roK (pLine B L T S).2.2 ≤ kk → roN (pLine B L T S).2.2 ≤ nn → LnR h1 h2 L (pLine B L T S) → ((pLine B L T S).1 = 0 → h2.1 + roK (pLine B L T S).2.2 ≤ h1.1 + roK S) → (¬ (pLine B L T S).1 = 0 → h2.1 ≤ h1.1 + roK S) → Ev G (d + 28) kk nn M_Re_read 74 [.ref 5, .int x, .int (nI (pLine B L T S).1), .int (nI (901 - (m + 1)) + 1)] [] h2 R := by
      intro h2 kk nn hk hn H2 l1 l2
      rw [en]
      have HX2 := H2.1.tx HX
      by_cases c : (pLine B L T S).1 = 0
      · rw [if_pos c] at hR
        rw [c]
        have l1 := l1 c
        exact (s_Re_lines m h2 _ _ x R (by omega) H2.2.1 HX2 lg.1 (H2.2.2.2.2 c) (lg.2.2.2 c).1 H2.2.2.1 (Nat.le_trans h126 H2.1.1) (by omega) fun h' H' n' => hR h' (H'.after H2.1) (by omega)).room (Nat.le_refl _) hk hn
      · rw [if_neg c] at hR
        have hf : pFault (pLine B L T S) = if (pLine B L T S).2.1.1 = 1 then 1 else (pLine B L T S).1 := if_neg c
        have cn : ¬ nI (pLine B L T S).1 = 0 := fun z => c ((nI_eq (b := 0) (by have := lg.2.2.1; omega) (by omega)).mp z)
        have ul : nI (pLine B L T S).2.1.1 = 1 ↔ (pLine B L T S).2.1.1 = 1 := nI_eq (b := 1) (by have := lg.1.1; omega) (by omega)
        have fin := hR h2 H2 (l2 c)
        rw [hf] at fin
        have HB := H2.2.1
        refine b_Re_read_74 HB (fun c1 c2 => absurd c2 cn) (fun c1 c2 c3 => by rw [if_pos (ul.mp c3)] at fin; exact fin) (fun c1 c2 c3 => by rw [if_neg (fun z => c3 (ul.mpr z))] at fin; exact fin) (fun c1 c2 => absurd c2 cn) (fun c1 c2 c3 => absurd c3 cn) (fun c1 c2 c3 c4 => by rw [if_pos (ul.mp c4)] at fin; exact fin) (fun c1 c2 c3 c4 => by rw [if_neg (fun z => c4 (ul.mpr z))] at fin; exact fin)
    have two : wdB B T 2 = false → wdB B T 3 = false → pLine B L T S = (2, T, S) := fun a b => by unfold pLine; rw [a, b]; rfl
    refine b_Re_read_92 (by decide) HB HX HT ⟨_, HB⟩ (fun c1 => ?_) (fun c1 => ?_)
    · have w2 := b2i_e0 ‹b2i (wdB B T 2) = 0›
      refine b_Re_read_109 (by decide) HB HX HT ⟨_, HB⟩ (fun c1 => ?_) (fun c1 => ?_)
      · have w3 := b2i_e0 ‹b2i (wdB B T 3) = 0›
        have el := two w2 w3
        have := after h1 (roK S) (roN S) (by rw [el]; exact Nat.le_refl _) (by rw [el]; exact Nat.le_refl _) (by rw [el]; exact LnR.fault HB hx HS g.1.2.1 (by omega)) (fun z => absurd z (by rw [el]; show ¬ 2 = 0; omega)) (fun _ => by omega)
        rw [el] at this
        exact this
      · have w3 := b2i_n0 ‹¬ b2i (wdB B T 3) = 0›
        have el : pLine B L T S = pFilt B L T S := by unfold pLine; rw [w2, w3]; rfl
        by_cases ce : (sFl S).isEmpty = true
        · have ef : sFl S = [] := List.isEmpty_iff.mp ce
          have rk : roK S = 6 := by unfold roK; rw [if_pos ce]
          have rn' : roN S = 1505 := by unfold roN; rw [if_pos ce]
          rw [rk] at hbig after ⊢
          rw [rn']
          have key : (pLine B L T S).1 = 0 → roK (pLine B L T S).2.2 = 0 ∧ roN (pLine B L T S).2.2 = 0 := fun c => by
            rw [el] at c ⊢
            have hne : (sFl (pFilt B L T S).2.2).isEmpty = false := by
              have g2 := (pFilt_LG HT w3 HX.1 g).2.2.2 c
              revert c
              unfold pFilt
              rw [if_pos ce]
              split
              · next c0 =>
                intro c
                rw [pSign_S c]
                show (pTest B L S 6 (nx B L T)).2.2.isEmpty = false
                obtain ⟨a1, a2, a3, a4⟩ := pTest_GI (B := B) (L := L) g.1 6 _ (nx_ok HT)
                have sg := ((a4 c0).2.2.2 0).2
                cases q : (pTest B L S 6 (nx B L T)).2.2
                · rw [q] at sg; exact absurd sg (by show ¬ 0 = 0 + 1; omega)
                · rfl
              · next c0 => exact fun c => absurd c c0
            unfold roK roN; rw [hne]; exact ⟨rfl, rfl⟩
          refine (b_Re_read_118 (d := d + 23) (k := 0) (n := 0) (m1 := 1505) ⟨_, HB⟩ ?_).room (Nat.le_refl _) (by omega) (by omega)
          refine s_Re_readFilterN (d := d) HB HX HT w3 HS g hx ef h126 hbig fun h2 H2 n2 => ?_
          rw [← el] at H2 ⊢
          refine b_Re_read_122 ?_
          by_cases c : (pLine B L T S).1 = 0
          · obtain ⟨k1, k2⟩ := key c
            exact after h2 0 0 (by omega) (by omega) H2 (fun _ => by omega) (fun z => absurd c z)
          · rw [if_neg c] at hR
            have hf : pFault (pLine B L T S) = if (pLine B L T S).2.1.1 = 1 then 1 else (pLine B L T S).1 := if_neg c
            have cn : ¬ nI (pLine B L T S).1 = 0 := fun z => c ((nI_eq (b := 0) (by have := lg.2.2.1; omega) (by omega)).mp z)
            have ul : nI (pLine B L T S).2.1.1 = 1 ↔ (pLine B L T S).2.1.1 = 1 := nI_eq (b := 1) (by have := lg.1.1; omega) (by omega)
            have fin := hR h2 H2 (by rw [rk]; exact n2)
            rw [hf] at fin
            have HB := H2.2.1
            refine b_Re_read_74 HB (fun c1 c2 => absurd c2 cn) (fun c1 c2 c3 => by rw [if_pos (ul.mp c3)] at fin; exact fin) (fun c1 c2 c3 => by rw [if_neg (fun z => c3 (ul.mpr z))] at fin; exact fin) (fun c1 c2 => absurd c2 cn) (fun c1 c2 c3 => absurd c3 cn) (fun c1 c2 c3 c4 => by rw [if_pos (ul.mp c4)] at fin; exact fin) (fun c1 c2 c3 c4 => by rw [if_neg (fun z => c4 (ul.mpr z))] at fin; exact fin)
        · have ce : (sFl S).isEmpty = false := by cases q : (sFl S).isEmpty <;> simp_all
          have rk : roK S = 0 := by unfold roK; rw [ce]; rfl
          have rn' : roN S = 0 := by unfold roN; rw [ce]; rfl
          refine b_Re_read_118z (d := d + 23) ⟨_, HB⟩ ?_
          refine (s_Re_readFilterR (d := 0) (B := B) HB HS g.1.2.1 hx ce fun h2 H2 n2 => ?_).room (by omega) (Nat.le_refl _) (Nat.le_refl _)
          rw [← el] at H2 ⊢
          have e5 : pLine B L T S = (5, T, S) := by rw [el]; unfold pFilt; rw [ce]; rfl
          refine b_Re_read_122 ?_
          exact after h2 _ _ (by rw [e5]; exact Nat.le_refl _) (by rw [e5]; exact Nat.le_refl _) H2 (fun z => absurd z (by rw [e5]; show ¬ 5 = 0; omega)) (fun _ => by omega)
    · have w2 := b2i_n0 ‹¬ b2i (wdB B T 2) = 0›
      have el : pLine B L T S = pCode B L T S := by unfold pLine; rw [w2]; rfl
      refine b_Re_read_101 (d := d + 23) ⟨_, HB⟩ ?_
      refine (s_Re_readCode (d := 0) HB HX HT HS g hx fun h2 H2 n2 => ?_).room (by omega) (Nat.le_refl _) (Nat.le_refl _)
      rw [← el] at H2 ⊢
      refine b_Re_read_105 ?_
      by_cases c : (pLine B L T S).1 = 0
      · have ef : sFl (pLine B L T S).2.2 = sFl S := by rw [el] at c ⊢; exact pCode_F c
        exact after h2 _ _ (by unfold roK; rw [ef]; exact Nat.le_refl _) (by unfold roN; rw [ef]; exact Nat.le_refl _) H2 (fun _ => by unfold roK; rw [ef]; omega) (fun z => absurd c z)
      · rw [if_neg c] at hR
        have hf : pFault (pLine B L T S) = if (pLine B L T S).2.1.1 = 1 then 1 else (pLine B L T S).1 := if_neg c
        have cn : ¬ nI (pLine B L T S).1 = 0 := fun z => c ((nI_eq (b := 0) (by have := lg.2.2.1; omega) (by omega)).mp z)
        have ul : nI (pLine B L T S).2.1.1 = 1 ↔ (pLine B L T S).2.1.1 = 1 := nI_eq (b := 1) (by have := lg.1.1; omega) (by omega)
        have fin := hR h2 H2 (by omega)
        rw [hf] at fin
        have HB := H2.2.1
        refine b_Re_read_74 HB (fun c1 c2 => absurd c2 cn) (fun c1 c2 c3 => by rw [if_pos (ul.mp c3)] at fin; exact fin) (fun c1 c2 c3 => by rw [if_neg (fun z => c3 (ul.mpr z))] at fin; exact fin) (fun c1 c2 => absurd c2 cn) (fun c1 c2 c3 => absurd c3 cn) (fun c1 c2 c3 c4 => by rw [if_pos (ul.mp c4)] at fin; exact fin) (fun c1 c2 c3 c4 => by rw [if_neg (fun z => c4 (ul.mpr z))] at fin; exact fin)
end S40
