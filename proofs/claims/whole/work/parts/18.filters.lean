/-! FILTERS are made -/
theorem hat_at {h h' : ev_H} {a : Nat} {c : ev_C} (e : h.1 = a) (H : hat h' h.1 c) : hat h' a c := e ▸ H
theorem b_JA_copyOf_AII_0 {G : ev_G} {d k n : Nat} {h : ev_H} {R : Option Value → ev_H → Prop} {x0 : Nat} {x1 : Int32} {g1 : Nat → Int32} {nn2 : Nat} {N3 : Nat} {q4 : Nat}
  (a1 : hat h x0 (aI 300 g1))
  (d2 : ¬ (x1 = (nI 300)))
  (n3 : ¬ x1 = (nI 300) → h.1 = nn2)
  (n4 : ¬ x1 = (nI 300) → x1 = nI N3)
  (n5 : ¬ x1 = (nI 300) → N3 < 100000)
  (n6 : nn2 < ev_big)
  (n7 : ¬ x1 = (nI 300) → (if x1 < (nI 300) then x1 else (nI 300)) = nI q4)
  (n8 : ¬ x1 = (nI 300) → 0 + q4 ≤ 300)
  (n9 : ¬ x1 = (nI 300) → 0 + q4 ≤ N3)
  (n10 : ¬ x1 = (nI 300) → N3 < 2147483648)
  (e11 : ¬ x1 = (nI 300) → x0 ≠ nn2)
  (k1 : ¬ x1 = (nI 300) → R (some (.ref nn2)) (hset (hpush h (aI N3 (fun _ => 0))) nn2 (aI N3 (va_cpy g1 (fun _ => 0) 0 0 q4))))
  : Ev G (d + 1) (k + 1) (n + N3) M_JA_copyOf_AII 0 [.ref x0, .int x1, ev_unk] [] h R :=
  Ev.go (pc' := 2) (ls' := [.ref x0, .int x1, ev_unk]) (st' := [.ref x0, .int x1]) [.iload_n 1, .aload_n 0] (by decide +kernel) rfl <|
  Ev.alen (by decide +kernel) a1 (by decide) <|
  Ev.br (i := .if_icmp .ne (11)) (P := x1 = (nI 300)) (t := 6) (f := 14) (r := []) (by decide +kernel) rfl (fun c1 =>
    absurd c1 d2
  ) (fun c1 =>
    Ev.go (pc' := 15) (ls' := [.ref x0, .int x1, ev_unk]) (st' := [.int x1]) [.iload_n 1] (by decide +kernel) rfl <|
    Ev.newI' (a := nn2) (N := N3) (by decide +kernel) a_int (n3 c1) n6 (n4 c1) (n5 c1) <|
    Ev.go (pc' := 23) (ls' := [.ref x0, .int x1, .ref nn2]) (st' := [.ref x0, .int (0 : Int32), .ref nn2, .int (0 : Int32), .ref x0]) [.astore_n 2, .aload_n 0, .iconst 0, .aload_n 2, .iconst 0, .aload_n 0] (by decide +kernel) rfl <|
    Ev.alen (by decide +kernel) (hat_push a1) (by decide) <|
    Ev.go (pc' := 25) (ls' := [.ref x0, .int x1, .ref nn2]) (st' := [.int x1, .int (nI 300), .int (0 : Int32), .ref nn2, .int (0 : Int32), .ref x0]) [.iload_n 1] (by decide +kernel) rfl <|
    Ev.mmin lL_JA_304 w_minS w_mathI w_minC (Nat.le_of_ble_eq_true rfl) (by decide +kernel) <|
    Ev.acpyI (sp := 0) (dp := 0) (cn := q4) lL_JA_150 w_cpN w_cpS w_sysI (by decide +kernel) (hat_push a1) (hat_at (n3 c1) (hat_pushed h _)) rfl rfl (n7 c1) (n8 c1) (n9 c1) (by decide) (n10 c1) (Nat.le_of_ble_eq_true rfl) <| show Ev G (d + 1) _ _ M_JA_copyOf_AII 31 [.ref x0, .int x1, .ref nn2] [] (hset (hpush h (aI N3 (fun _ => 0))) nn2 (aI N3 (va_cpy g1 (fun _ => 0) 0 0 q4))) R from
    Ev.go (pc' := 32) (ls' := [.ref x0, .int x1, .ref nn2]) (st' := [.ref nn2]) [.aload_n 2] (by decide +kernel) rfl <|
    Ev.ret (r := (some (.ref nn2))) (Or.inr (Or.inr (Or.inr ⟨_, rfl, by decide +kernel, _, rfl, Or.inr ⟨_, rfl⟩⟩))) (k1 c1)
  )
theorem b_JA_copyOf_AJI_0 {G : ev_G} {d k n : Nat} {h : ev_H} {R : Option Value → ev_H → Prop} {x0 : Nat} {x1 : Int32} {g1 : Nat → Int64} {nn2 : Nat} {N3 : Nat} {q4 : Nat}
  (a1 : hat h x0 (aL 300 g1))
  (d2 : ¬ (x1 = (nI 300)))
  (n3 : ¬ x1 = (nI 300) → h.1 = nn2)
  (n4 : ¬ x1 = (nI 300) → x1 = nI N3)
  (n5 : ¬ x1 = (nI 300) → N3 < 100000)
  (n6 : nn2 < ev_big)
  (n7 : ¬ x1 = (nI 300) → (if x1 < (nI 300) then x1 else (nI 300)) = nI q4)
  (n8 : ¬ x1 = (nI 300) → 0 + q4 ≤ 300)
  (n9 : ¬ x1 = (nI 300) → 0 + q4 ≤ N3)
  (n10 : ¬ x1 = (nI 300) → N3 < 2147483648)
  (e11 : ¬ x1 = (nI 300) → x0 ≠ nn2)
  (k1 : ¬ x1 = (nI 300) → R (some (.ref nn2)) (hset (hpush h (aL N3 (fun _ => 0))) nn2 (aL N3 (va_cpy g1 (fun _ => 0) 0 0 q4))))
  : Ev G (d + 1) (k + 1) (n + N3) M_JA_copyOf_AJI 0 [.ref x0, .int x1, ev_unk] [] h R :=
  Ev.go (pc' := 2) (ls' := [.ref x0, .int x1, ev_unk]) (st' := [.ref x0, .int x1]) [.iload_n 1, .aload_n 0] (by decide +kernel) rfl <|
  Ev.alen (by decide +kernel) a1 (by decide) <|
  Ev.br (i := .if_icmp .ne (11)) (P := x1 = (nI 300)) (t := 6) (f := 14) (r := []) (by decide +kernel) rfl (fun c1 =>
    absurd c1 d2
  ) (fun c1 =>
    Ev.go (pc' := 15) (ls' := [.ref x0, .int x1, ev_unk]) (st' := [.int x1]) [.iload_n 1] (by decide +kernel) rfl <|
    Ev.newL' (a := nn2) (N := N3) (by decide +kernel) a_long (n3 c1) n6 (n4 c1) (n5 c1) <|
    Ev.go (pc' := 23) (ls' := [.ref x0, .int x1, .ref nn2]) (st' := [.ref x0, .int (0 : Int32), .ref nn2, .int (0 : Int32), .ref x0]) [.astore_n 2, .aload_n 0, .iconst 0, .aload_n 2, .iconst 0, .aload_n 0] (by decide +kernel) rfl <|
    Ev.alen (by decide +kernel) (hat_push a1) (by decide) <|
    Ev.go (pc' := 25) (ls' := [.ref x0, .int x1, .ref nn2]) (st' := [.int x1, .int (nI 300), .int (0 : Int32), .ref nn2, .int (0 : Int32), .ref x0]) [.iload_n 1] (by decide +kernel) rfl <|
    Ev.mmin lL_JA_304 w_minS w_mathI w_minC (Nat.le_of_ble_eq_true rfl) (by decide +kernel) <|
    Ev.acpyL (sp := 0) (dp := 0) (cn := q4) lL_JA_150 w_cpN w_cpS w_sysI (by decide +kernel) (hat_push a1) (hat_at (n3 c1) (hat_pushed h _)) rfl rfl (n7 c1) (n8 c1) (n9 c1) (by decide) (n10 c1) (Nat.le_of_ble_eq_true rfl) <| show Ev G (d + 1) _ _ M_JA_copyOf_AJI 31 [.ref x0, .int x1, .ref nn2] [] (hset (hpush h (aL N3 (fun _ => 0))) nn2 (aL N3 (va_cpy g1 (fun _ => 0) 0 0 q4))) R from
    Ev.go (pc' := 32) (ls' := [.ref x0, .int x1, .ref nn2]) (st' := [.ref nn2]) [.aload_n 2] (by decide +kernel) rfl <|
    Ev.ret (r := (some (.ref nn2))) (Or.inr (Or.inr (Or.inr ⟨_, rfl, by decide +kernel, _, rfl, Or.inr ⟨_, rfl⟩⟩))) (k1 c1)
  )
theorem b_Fi_init_0 {G : ev_G} {d k n : Nat} {h : ev_H} {R : Option Value → ev_H → Prop} {x0 : Nat} {f_size_1 : Int32} {m2 : Nat}
  (a1 : hat h 6 (oC 5 [.ref 7, .ref 8, .ref 9, .ref 10, .ref 11, .int f_size_1]))
  (k1 : Ev G d 1 m2 M_JA_copyOf_AII 0 [.ref 7, .int f_size_1, ev_unk] [] h (fun r h1 => Ev G (d + 1) k n M_Fi_init 18 [.ref x0, .ref 6, .int f_size_1] (r.toList ++ [.ref x0]) h1 R))
  : Ev G (d + 1) (1 + k) (m2 + n) M_Fi_init 0 [.ref x0, .ref 6, ev_unk] [] h R :=
  Ev.go (pc' := 1) (ls' := [.ref x0, .ref 6, ev_unk]) (st' := [.ref x0]) [.aload_n 0] (by decide +kernel) rfl <|
  Ev.objI lL_Fi_1 w_objN w_objC (Nat.le_of_ble_eq_true rfl) (by decide +kernel) <|
  Ev.go (pc' := 5) (ls' := [.ref x0, .ref 6, ev_unk]) (st' := [.ref 6]) [.aload_n 1] (by decide +kernel) rfl <|
  Ev.getf f_Fi_7 (by decide +kernel) a1 rfl <|
  Ev.go (pc' := 11) (ls' := [.ref x0, .ref 6, .int f_size_1]) (st' := [.ref 6, .ref x0]) [.istore_n 2, .aload_n 0, .aload_n 1] (by decide +kernel) rfl <|
  Ev.getf f_Fi_13 (by decide +kernel) a1 rfl <|
  Ev.go (pc' := 15) (ls' := [.ref x0, .ref 6, .int f_size_1]) (st' := [.int f_size_1, .ref 7, .ref x0]) [.iload_n 2] (by decide +kernel) rfl <|
  Ev.cS (M' := M_JA_copyOf_AII) (as := [.ref 7, .int f_size_1]) (rest := [.ref x0]) l_Fi_17 M_JA_copyOf_AII_ok M_JA_copyOf_AII_st (by decide +kernel) rfl rfl (Nat.le_of_ble_eq_true rfl) (Nat.le_of_ble_eq_true rfl) k1
theorem b_Fi_init_18 {G : ev_G} {d k n : Nat} {h : ev_H} {R : Option Value → ev_H → Prop} {x0 : Nat} {x2 : Int32} {y0 : Nat} {y1 : Nat} {fv1 : Value} {fv2 : Value} {fv3 : Value} {fv4 : Value} {fv5 : Value} {f_size_6 : Int32} {m7 : Nat}
  (a1 : hat h y0 (oC 1 [fv1, fv2, fv3, fv4, fv5]))
  (a2 : hat h 6 (oC 5 [.ref 7, .ref 8, .ref 9, .ref 10, .ref 11, .int f_size_6]))
  (e3 : 6 ≠ y0)
  (k1 : Ev G d 1 m7 M_JA_copyOf_AII 0 [.ref 8, .int x2, ev_unk] [] (hset h y0 (oC 1 [.ref y1, fv2, fv3, fv4, fv5])) (fun r h1 => Ev G (d + 1) k n M_Fi_init 30 [.ref x0, .ref 6, .int x2] (r.toList ++ [.ref x0]) h1 R))
  : Ev G (d + 1) (1 + k) (m7 + n) M_Fi_init 18 [.ref x0, .ref 6, .int x2] [.ref y1, .ref y0] h R :=
  Ev.putf f_Fi_23 (by decide +kernel) a1 (Nat.le_of_ble_eq_true rfl) rfl (fun _ => ⟨rfl, _, rfl, rfl⟩) <| show Ev G (d + 1) _ _ M_Fi_init 21 [.ref x0, .ref 6, .int x2] [] (hset h y0 (oC 1 [.ref y1, fv2, fv3, fv4, fv5])) R from
  Ev.go (pc' := 23) (ls' := [.ref x0, .ref 6, .int x2]) (st' := [.ref 6, .ref x0]) [.aload_n 0, .aload_n 1] (by decide +kernel) rfl <|
  Ev.getf f_Fi_26 (by decide +kernel) (hat_ne a2 e3) rfl <|
  Ev.go (pc' := 27) (ls' := [.ref x0, .ref 6, .int x2]) (st' := [.int x2, .ref 8, .ref x0]) [.iload_n 2] (by decide +kernel) rfl <|
  Ev.cS (M' := M_JA_copyOf_AII) (as := [.ref 8, .int x2]) (rest := [.ref x0]) l_Fi_17 M_JA_copyOf_AII_ok M_JA_copyOf_AII_st (by decide +kernel) rfl rfl (Nat.le_of_ble_eq_true rfl) (Nat.le_of_ble_eq_true rfl) k1
theorem b_Fi_init_30 {G : ev_G} {d k n : Nat} {h : ev_H} {R : Option Value → ev_H → Prop} {x0 : Nat} {x2 : Int32} {y0 : Nat} {y1 : Nat} {fv1 : Value} {fv2 : Value} {fv3 : Value} {fv4 : Value} {fv5 : Value} {f_size_6 : Int32} {m7 : Nat}
  (a1 : hat h y0 (oC 1 [fv1, fv2, fv3, fv4, fv5]))
  (a2 : hat h 6 (oC 5 [.ref 7, .ref 8, .ref 9, .ref 10, .ref 11, .int f_size_6]))
  (e3 : 6 ≠ y0)
  (k1 : Ev G d 1 m7 M_JA_copyOf_AII 0 [.ref 9, .int x2, ev_unk] [] (hset h y0 (oC 1 [fv1, .ref y1, fv3, fv4, fv5])) (fun r h1 => Ev G (d + 1) k n M_Fi_init 42 [.ref x0, .ref 6, .int x2] (r.toList ++ [.ref x0]) h1 R))
  : Ev G (d + 1) (1 + k) (m7 + n) M_Fi_init 30 [.ref x0, .ref 6, .int x2] [.ref y1, .ref y0] h R :=
  Ev.putf f_Fi_29 (by decide +kernel) a1 (Nat.le_of_ble_eq_true rfl) rfl (fun _ => ⟨rfl, _, rfl, rfl⟩) <| show Ev G (d + 1) _ _ M_Fi_init 33 [.ref x0, .ref 6, .int x2] [] (hset h y0 (oC 1 [fv1, .ref y1, fv3, fv4, fv5])) R from
  Ev.go (pc' := 35) (ls' := [.ref x0, .ref 6, .int x2]) (st' := [.ref 6, .ref x0]) [.aload_n 0, .aload_n 1] (by decide +kernel) rfl <|
  Ev.getf f_Fi_30 (by decide +kernel) (hat_ne a2 e3) rfl <|
  Ev.go (pc' := 39) (ls' := [.ref x0, .ref 6, .int x2]) (st' := [.int x2, .ref 9, .ref x0]) [.iload_n 2] (by decide +kernel) rfl <|
  Ev.cS (M' := M_JA_copyOf_AII) (as := [.ref 9, .int x2]) (rest := [.ref x0]) l_Fi_17 M_JA_copyOf_AII_ok M_JA_copyOf_AII_st (by decide +kernel) rfl rfl (Nat.le_of_ble_eq_true rfl) (Nat.le_of_ble_eq_true rfl) k1
theorem b_Fi_init_42 {G : ev_G} {d k n : Nat} {h : ev_H} {R : Option Value → ev_H → Prop} {x0 : Nat} {x2 : Int32} {y0 : Nat} {y1 : Nat} {fv1 : Value} {fv2 : Value} {fv3 : Value} {fv4 : Value} {fv5 : Value} {f_size_6 : Int32} {m7 : Nat}
  (a1 : hat h y0 (oC 1 [fv1, fv2, fv3, fv4, fv5]))
  (a2 : hat h 6 (oC 5 [.ref 7, .ref 8, .ref 9, .ref 10, .ref 11, .int f_size_6]))
  (e3 : 6 ≠ y0)
  (k1 : Ev G d 1 m7 M_JA_copyOf_AII 0 [.ref 10, .int x2, ev_unk] [] (hset h y0 (oC 1 [fv1, fv2, .ref y1, fv4, fv5])) (fun r h1 => Ev G (d + 1) k n M_Fi_init 54 [.ref x0, .ref 6, .int x2] (r.toList ++ [.ref x0]) h1 R))
  : Ev G (d + 1) (1 + k) (m7 + n) M_Fi_init 42 [.ref x0, .ref 6, .int x2] [.ref y1, .ref y0] h R :=
  Ev.putf f_Fi_33 (by decide +kernel) a1 (Nat.le_of_ble_eq_true rfl) rfl (fun _ => ⟨rfl, _, rfl, rfl⟩) <| show Ev G (d + 1) _ _ M_Fi_init 45 [.ref x0, .ref 6, .int x2] [] (hset h y0 (oC 1 [fv1, fv2, .ref y1, fv4, fv5])) R from
  Ev.go (pc' := 47) (ls' := [.ref x0, .ref 6, .int x2]) (st' := [.ref 6, .ref x0]) [.aload_n 0, .aload_n 1] (by decide +kernel) rfl <|
  Ev.getf f_Fi_34 (by decide +kernel) (hat_ne a2 e3) rfl <|
  Ev.go (pc' := 51) (ls' := [.ref x0, .ref 6, .int x2]) (st' := [.int x2, .ref 10, .ref x0]) [.iload_n 2] (by decide +kernel) rfl <|
  Ev.cS (M' := M_JA_copyOf_AII) (as := [.ref 10, .int x2]) (rest := [.ref x0]) l_Fi_17 M_JA_copyOf_AII_ok M_JA_copyOf_AII_st (by decide +kernel) rfl rfl (Nat.le_of_ble_eq_true rfl) (Nat.le_of_ble_eq_true rfl) k1
theorem b_Fi_init_54 {G : ev_G} {d k n : Nat} {h : ev_H} {R : Option Value → ev_H → Prop} {x0 : Nat} {x2 : Int32} {y0 : Nat} {y1 : Nat} {fv1 : Value} {fv2 : Value} {fv3 : Value} {fv4 : Value} {fv5 : Value} {f_size_6 : Int32} {m7 : Nat}
  (a1 : hat h y0 (oC 1 [fv1, fv2, fv3, fv4, fv5]))
  (a2 : hat h 6 (oC 5 [.ref 7, .ref 8, .ref 9, .ref 10, .ref 11, .int f_size_6]))
  (e3 : 6 ≠ y0)
  (k1 : Ev G d 1 m7 M_JA_copyOf_AJI 0 [.ref 11, .int x2, ev_unk] [] (hset h y0 (oC 1 [fv1, fv2, fv3, .ref y1, fv5])) (fun r h1 => Ev G (d + 1) k n M_Fi_init 66 [.ref x0, .ref 6, .int x2] (r.toList ++ [.ref x0]) h1 R))
  : Ev G (d + 1) (1 + k) (m7 + n) M_Fi_init 54 [.ref x0, .ref 6, .int x2] [.ref y1, .ref y0] h R :=
  Ev.putf f_Fi_37 (by decide +kernel) a1 (Nat.le_of_ble_eq_true rfl) rfl (fun _ => ⟨rfl, _, rfl, rfl⟩) <| show Ev G (d + 1) _ _ M_Fi_init 57 [.ref x0, .ref 6, .int x2] [] (hset h y0 (oC 1 [fv1, fv2, fv3, .ref y1, fv5])) R from
  Ev.go (pc' := 59) (ls' := [.ref x0, .ref 6, .int x2]) (st' := [.ref 6, .ref x0]) [.aload_n 0, .aload_n 1] (by decide +kernel) rfl <|
  Ev.getf f_Fi_38 (by decide +kernel) (hat_ne a2 e3) rfl <|
  Ev.go (pc' := 63) (ls' := [.ref x0, .ref 6, .int x2]) (st' := [.int x2, .ref 11, .ref x0]) [.iload_n 2] (by decide +kernel) rfl <|
  Ev.cS (M' := M_JA_copyOf_AJI) (as := [.ref 11, .int x2]) (rest := [.ref x0]) l_Fi_42 M_JA_copyOf_AJI_ok M_JA_copyOf_AJI_st (by decide +kernel) rfl rfl (Nat.le_of_ble_eq_true rfl) (Nat.le_of_ble_eq_true rfl) k1
theorem b_Fi_init_66 {G : ev_G} {d k n : Nat} {h : ev_H} {R : Option Value → ev_H → Prop} {x0 : Nat} {x2 : Int32} {y0 : Nat} {y1 : Nat} {fv1 : Value} {fv2 : Value} {fv3 : Value} {fv4 : Value} {fv5 : Value}
  (a1 : hat h y0 (oC 1 [fv1, fv2, fv3, fv4, fv5]))
  (k1 : R none (hset h y0 (oC 1 [fv1, fv2, fv3, fv4, .ref y1])))
  : Ev G (d + 1) k n M_Fi_init 66 [.ref x0, .ref 6, .int x2] [.ref y1, .ref y0] h R :=
  Ev.putf f_Fi_45 (by decide +kernel) a1 (Nat.le_of_ble_eq_true rfl) rfl (fun _ => ⟨rfl, _, rfl, rfl⟩) <| show Ev G (d + 1) _ _ M_Fi_init 69 [.ref x0, .ref 6, .int x2] [] (hset h y0 (oC 1 [fv1, fv2, fv3, fv4, .ref y1])) R from
  Ev.ret (r := none) (Or.inr (Or.inr (Or.inl ⟨rfl, by decide +kernel, rfl⟩))) k1
section S18
variable {G : ev_G} {d : Nat} {h : ev_H} {R : Option Value → ev_H → Prop} {S : AS}
theorem hat.ne {b : Nat} {c : ev_C} (H : hat h b c) : b ≠ h.1 := Nat.ne_of_lt H.1
theorem s_copyI {x L : Nat} {g : Nat → Int32} {xI : Int32} (a1 : hat h x (aI 300 g)) (hx : xI = nI L) (hl : L < 300) (hb : h.1 < ev_big) (hR : ∀ h' g', Kg h h' h.1 h.1 → h'.1 = h.1 + 1 → hat h' h.1 (aI L g') → (∀ i, i < L → g' i = g i) → R (some (.ref h.1)) h') : Ev G (d + 1) 1 (0 + L) M_JA_copyOf_AII 0 [.ref x, .int xI, ev_unk] [] h R := by
  subst hx
  have hlt : nI L < nI 300 := nI_lt hl (by decide)
  refine b_JA_copyOf_AII_0 (q4 := L) (k := 0) (n := 0) (N3 := L) a1 (fun q => by have := (nI_eq (by omega) (by decide)).mp q; omega) (fun _ => rfl) (fun _ => rfl) (fun _ => by omega) hb (fun _ => if_pos hlt) (fun _ => by omega) (fun _ => by omega) (fun _ => by omega) (fun _ => a1.ne) (fun _ => ?_)
  refine hR _ _ ⟨Nat.le_succ _, fun b hb' _ => ?_⟩ rfl ⟨Nat.lt_succ_self _, hset_eq _ _ _⟩ fun i hi => ?_
  · rw [hset_ne _ _ (Nat.ne_of_lt hb'), hpush_ne _ _ (Nat.ne_of_lt hb')]
  · unfold va_cpy; rw [if_pos (by omega), Nat.zero_add, Nat.sub_zero]
theorem s_copyL {x L : Nat} {g : Nat → Int64} {xI : Int32} (a1 : hat h x (aL 300 g)) (hx : xI = nI L) (hl : L < 300) (hb : h.1 < ev_big) (hR : ∀ h' g', Kg h h' h.1 h.1 → h'.1 = h.1 + 1 → hat h' h.1 (aL L g') → (∀ i, i < L → g' i = g i) → R (some (.ref h.1)) h') : Ev G (d + 1) 1 (0 + L) M_JA_copyOf_AJI 0 [.ref x, .int xI, ev_unk] [] h R := by
  subst hx
  have hlt : nI L < nI 300 := nI_lt hl (by decide)
  refine b_JA_copyOf_AJI_0 (q4 := L) (k := 0) (n := 0) (N3 := L) a1 (fun q => by have := (nI_eq (by omega) (by decide)).mp q; omega) (fun _ => rfl) (fun _ => rfl) (fun _ => by omega) hb (fun _ => if_pos hlt) (fun _ => by omega) (fun _ => by omega) (fun _ => by omega) (fun _ => a1.ne) (fun _ => ?_)
  refine hR _ _ ⟨Nat.le_succ _, fun b hb' _ => ?_⟩ rfl ⟨Nat.lt_succ_self _, hset_eq _ _ _⟩ fun i hi => ?_
  · rw [hset_ne _ _ (Nat.ne_of_lt hb'), hpush_ne _ _ (Nat.ne_of_lt hb')]
  · unfold va_cpy; rw [if_pos (by omega), Nat.zero_add, Nat.sub_zero]
theorem fi_go {q h1 : ev_H} {f b : Nat} {c c' : ev_C} (K : Kg q h1 q.1 q.1) (H : hat q b c) (e : b ≠ f) : hat (hset h1 f c') b c := hat_ne (K.hat H (Or.inl H.1)) e
def fiN (L : Nat) : Nat := (0 + L) + ((0 + L) + ((0 + L) + ((0 + L) + ((0 + L) + 0))))
theorem Kg.any {q h1 : ev_H} {lo hi : Nat} (K : Kg q h1 q.1 q.1) : Kg q h1 lo hi := ⟨K.1, fun x hx _ => K.2 x hx (Or.inl hx)⟩
theorem s_Fi_init {f : Nat} {fl : List AStp} (hf : 126 ≤ f) (hn : h.1 = f + 1) (o : hat h f (oC 1 [.null, .null, .null, .null, .null])) (hS : SpR h fl) (hl : fl.length < 300) (hb : f + 6 ≤ ev_big) (hR : ∀ h', Kg h h' f (f + 1) → h'.1 = f + 6 → FiR h' f fl → R none h') : Ev G (d + 2) 5 (fiN fl.length) M_Fi_init 0 [.ref f, .ref 6, ev_unk] [] h R := by
  obtain ⟨ks, ss, ps, bs, frs, f0, f1, f2, f3, f4, f5, hst⟩ := hS
  show Ev G (d + 2) (1 + (1 + (1 + (1 + (1 + 0))))) ((0 + fl.length) + ((0 + fl.length) + ((0 + fl.length) + ((0 + fl.length) + ((0 + fl.length) + 0))))) M_Fi_init 0 [.ref f, .ref 6, ev_unk] [] h R
  refine b_Fi_init_0 f0 (s_copyI f1 rfl hl (by omega) fun h1 gk K1 n1 t1 v1 => ?_)
  have o1 : hat h1 f _ := K1.hat o (Or.inl o.1)
  refine b_Fi_init_18 (y0 := f) (y1 := h.1) o1 (K1.hat f0 (Or.inl f0.1)) (by omega) ?_
  have o1 : hat (hset h1 f (oC 1 [.ref h.1, .null, .null, .null, .null])) f (oC 1 [.ref (f + 1), .null, .null, .null, .null]) := ⟨o1.1, by rw [hset_eq, hn]⟩
  have W1 := ((Kg.any (lo := f) (hi := f + 1) K1).set (k := f) (oC 1 [.ref h.1, .null, .null, .null, .null]) (by omega) (by omega))
  have m1 : (hset h1 f (oC 1 [.ref h.1, .null, .null, .null, .null])).1 = f + 2 := by show h1.1 = _; omega
  have t1 : hat (hset h1 f (oC 1 [.ref h.1, .null, .null, .null, .null])) (f + 1) (aI fl.length gk) := by have := hat_ne (c' := oC 1 [.ref h.1, .null, .null, .null, .null]) (b := f) t1 (by omega); rw [hn] at this ⊢; exact this
  revert W1 m1 o1 t1
  generalize hset h1 f (oC 1 [.ref h.1, .null, .null, .null, .null]) = q1
  intro o1 W1 m1 t1
  refine s_copyI (W1.hat f2 (by omega)) rfl hl (by omega) fun h2 gs K2 n2 t2 v2 => ?_
  have o2 := K2.hat o1 (Or.inl o1.1)
  refine b_Fi_init_30 (y0 := f) (y1 := q1.1) o2 (K2.hat (W1.hat f0 (by omega)) (Or.inl (by omega))) (by omega) ?_
  have W2 := (W1.trans (Kg.any K2)).set (k := f) (oC 1 [.ref (f + 1), .ref q1.1, .null, .null, .null]) (by omega) (by omega)
  have o2 : hat (hset h2 f (oC 1 [.ref (f + 1), .ref q1.1, .null, .null, .null])) f (oC 1 [.ref (f + 1), .ref (f + 2), .null, .null, .null]) := ⟨o2.1, by rw [hset_eq, m1]⟩
  have m2 : (hset h2 f (oC 1 [.ref (f + 1), .ref q1.1, .null, .null, .null])).1 = f + 3 := by show h2.1 = _; omega
  have t1 := fi_go (f := f) (c' := oC 1 [.ref (f + 1), .ref q1.1, .null, .null, .null]) K2 t1 (by omega)
  have t2 : hat (hset h2 f (oC 1 [.ref (f + 1), .ref q1.1, .null, .null, .null])) (f + 2) (aI fl.length gs) := by have := hat_ne (c' := oC 1 [.ref (f + 1), .ref q1.1, .null, .null, .null]) (b := f) t2 (by omega); rw [m1] at this ⊢; exact this
  clear K1 K2 W1
  revert W2 m2 o2 t1 t2
  generalize hset h2 f (oC 1 [.ref (f + 1), .ref q1.1, .null, .null, .null]) = q2
  intro W2 o2 m2 t1 t2
  refine s_copyI (W2.hat f3 (by omega)) rfl hl (by omega) fun h3 gp K3 n3 t3 v3 => ?_
  have o3 := K3.hat o2 (Or.inl o2.1)
  refine b_Fi_init_42 (y0 := f) (y1 := q2.1) o3 (K3.hat (W2.hat f0 (by omega)) (Or.inl (by omega))) (by omega) ?_
  have W3 := (W2.trans (Kg.any K3)).set (k := f) (oC 1 [.ref (f + 1), .ref (f + 2), .ref q2.1, .null, .null]) (by omega) (by omega)
  have o3 : hat (hset h3 f (oC 1 [.ref (f + 1), .ref (f + 2), .ref q2.1, .null, .null])) f (oC 1 [.ref (f + 1), .ref (f + 2), .ref (f + 3), .null, .null]) := ⟨o3.1, by rw [hset_eq, m2]⟩
  have m3 : (hset h3 f (oC 1 [.ref (f + 1), .ref (f + 2), .ref q2.1, .null, .null])).1 = f + 4 := by show h3.1 = _; omega
  have t1 := fi_go (f := f) (c' := oC 1 [.ref (f + 1), .ref (f + 2), .ref q2.1, .null, .null]) K3 t1 (by omega)
  have t2 := fi_go (f := f) (c' := oC 1 [.ref (f + 1), .ref (f + 2), .ref q2.1, .null, .null]) K3 t2 (by omega)
  have t3 : hat (hset h3 f (oC 1 [.ref (f + 1), .ref (f + 2), .ref q2.1, .null, .null])) (f + 3) (aI fl.length gp) := by have := hat_ne (c' := oC 1 [.ref (f + 1), .ref (f + 2), .ref q2.1, .null, .null]) (b := f) t3 (by omega); rw [m2] at this ⊢; exact this
  clear K3 W2
  revert W3 m3 o3 t1 t2 t3
  generalize hset h3 f (oC 1 [.ref (f + 1), .ref (f + 2), .ref q2.1, .null, .null]) = q3
  intro W3 o3 m3 t1 t2 t3
  refine s_copyI (W3.hat f4 (by omega)) rfl hl (by omega) fun h4 gb K4 n4 t4 v4 => ?_
  have o4 := K4.hat o3 (Or.inl o3.1)
  refine b_Fi_init_54 (y0 := f) (y1 := q3.1) o4 (K4.hat (W3.hat f0 (by omega)) (Or.inl (by omega))) (by omega) ?_
  have W4 := (W3.trans (Kg.any K4)).set (k := f) (oC 1 [.ref (f + 1), .ref (f + 2), .ref (f + 3), .ref q3.1, .null]) (by omega) (by omega)
  have o4 : hat (hset h4 f (oC 1 [.ref (f + 1), .ref (f + 2), .ref (f + 3), .ref q3.1, .null])) f (oC 1 [.ref (f + 1), .ref (f + 2), .ref (f + 3), .ref (f + 4), .null]) := ⟨o4.1, by rw [hset_eq, m3]⟩
  have m4 : (hset h4 f (oC 1 [.ref (f + 1), .ref (f + 2), .ref (f + 3), .ref q3.1, .null])).1 = f + 5 := by show h4.1 = _; omega
  have t1 := fi_go (f := f) (c' := oC 1 [.ref (f + 1), .ref (f + 2), .ref (f + 3), .ref q3.1, .null]) K4 t1 (by omega)
  have t2 := fi_go (f := f) (c' := oC 1 [.ref (f + 1), .ref (f + 2), .ref (f + 3), .ref q3.1, .null]) K4 t2 (by omega)
  have t3 := fi_go (f := f) (c' := oC 1 [.ref (f + 1), .ref (f + 2), .ref (f + 3), .ref q3.1, .null]) K4 t3 (by omega)
  have t4 : hat (hset h4 f (oC 1 [.ref (f + 1), .ref (f + 2), .ref (f + 3), .ref q3.1, .null])) (f + 4) (aI fl.length gb) := by have := hat_ne (c' := oC 1 [.ref (f + 1), .ref (f + 2), .ref (f + 3), .ref q3.1, .null]) (b := f) t4 (by omega); rw [m3] at this ⊢; exact this
  clear K4 W3
  revert W4 m4 o4 t1 t2 t3 t4
  generalize hset h4 f (oC 1 [.ref (f + 1), .ref (f + 2), .ref (f + 3), .ref q3.1, .null]) = q4
  intro W4 o4 m4 t1 t2 t3 t4
  refine s_copyL (W4.hat f5 (by omega)) rfl hl (by omega) fun h5 gf K5 n5 t5 v5 => ?_
  have o5 := K5.hat o4 (Or.inl o4.1)
  refine b_Fi_init_66 (y0 := f) (y1 := q4.1) o5 (hR _ ((W4.trans (Kg.any K5)).set (k := f) _ (by omega) (by omega)) (by show h5.1 = _; omega) ⟨⟨o5.1, by rw [hset_eq, m4]⟩, gk, gs, gp, gb, gf, fi_go K5 t1 (by omega), fi_go K5 t2 (by omega), fi_go K5 t3 (by omega), fi_go K5 t4 (by omega), ?_, fun i s hi => ?_⟩)
  · have := hat_ne (c' := oC 1 [.ref (f + 1), .ref (f + 2), .ref (f + 3), .ref (f + 4), .ref q4.1]) (b := f) t5 (by omega); rw [m4] at this ⊢; exact this
  · have hl : i < fl.length := (List.getElem?_eq_some_iff.mp hi).1
    rw [v1 i hl, v2 i hl, v3 i hl, v4 i hl, v5 i hl]
    exact hst i s hi
end S18
