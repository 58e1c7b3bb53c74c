/-! the constructors: the class as it stands at its beginning -/
theorem b_Ta_init_0 {G : ev_G} {d k n : Nat} {h : ev_H} {R : Option Value → ev_H → Prop} {nn1 : Nat} {fv2 : Value} {f_size_3 : Int32}
  (a3 : hat h 12 (oC 7 [fv2, .int f_size_3]))
  (n1 : h.1 = nn1)
  (n2 : nn1 < ev_big)
  (e4 : nn1 ≠ 12)
  (k1 : R none (hset (hset (hpush h (aB 900 (fun _ => 0))) 12 (oC 7 [.ref nn1, .int f_size_3])) 12 (oC 7 [.ref nn1, .int (0 : Int32)])))
  : Ev G (d + 1) (k + 1) (n + 900) M_Ta_init 0 [.ref 12] [] h R :=
  Ev.go (pc' := 1) (ls' := [.ref 12]) (st' := [.ref 12]) [.aload_n 0] (by decide +kernel) rfl <|
  Ev.objI lL_Ta_3 w_objN w_objC (Nat.le_of_ble_eq_true rfl) (by decide +kernel) <|
  Ev.go (pc' := 8) (ls' := [.ref 12]) (st' := [.int (900 : Int32), .ref 12]) [.aload_n 0, .sipush (900)] (by decide +kernel) rfl <|
  Ev.newB' (a := nn1) (N := 900) (by decide +kernel) a_byte n1 n2 rfl (by decide) <|
  Ev.putf f_Ta_9 (by decide +kernel) (hat_push a3) (Nat.le_of_ble_eq_true rfl) rfl (fun _ => ⟨rfl, _, rfl, rfl⟩) <| show Ev G (d + 1) _ _ M_Ta_init 13 [.ref 12] [] (hset (hpush h (aB 900 (fun _ => 0))) 12 (oC 7 [.ref nn1, .int f_size_3])) R from
  Ev.go (pc' := 15) (ls' := [.ref 12]) (st' := [.int (0 : Int32), .ref 12]) [.aload_n 0, .iconst 0] (by decide +kernel) rfl <|
  Ev.putf f_Ta_15 (by decide +kernel) (hat_set (hat_push a3)) (Nat.le_of_ble_eq_true rfl) rfl (fun q => nomatch q) <| show Ev G (d + 1) _ _ M_Ta_init 18 [.ref 12] [] (hset (hset (hpush h (aB 900 (fun _ => 0))) 12 (oC 7 [.ref nn1, .int f_size_3])) 12 (oC 7 [.ref nn1, .int (0 : Int32)])) R from
  Ev.ret (r := none) (Or.inr (Or.inr (Or.inl ⟨rfl, by decide +kernel, rfl⟩))) k1
theorem b_Sp_init_0 {G : ev_G} {d k n : Nat} {h : ev_H} {R : Option Value → ev_H → Prop} {nn1 : Nat} {fv2 : Value} {fv3 : Value} {fv4 : Value} {fv5 : Value} {fv6 : Value} {f_size_7 : Int32}
  (a3 : hat h 6 (oC 5 [fv2, fv3, fv4, fv5, fv6, .int f_size_7]))
  (n1 : h.1 = nn1)
  (n2 : nn1 < ev_big)
  (e4 : nn1 ≠ 6)
  (n5 : (nn1 + 1) < ev_big)
  (e6 : (nn1 + 1) ≠ 6)
  (n7 : ((nn1 + 1) + 1) < ev_big)
  (e8 : ((nn1 + 1) + 1) ≠ 6)
  (n9 : (((nn1 + 1) + 1) + 1) < ev_big)
  (e10 : (((nn1 + 1) + 1) + 1) ≠ 6)
  (n11 : ((((nn1 + 1) + 1) + 1) + 1) < ev_big)
  (e12 : ((((nn1 + 1) + 1) + 1) + 1) ≠ 6)
  (k1 : R none (hset (hset (hpush (hset (hpush (hset (hpush (hset (hpush (hset (hpush h (aI 300 (fun _ => 0))) 6 (oC 5 [.ref nn1, fv3, fv4, fv5, fv6, .int f_size_7])) (aI 300 (fun _ => 0))) 6 (oC 5 [.ref nn1, .ref (nn1 + 1), fv4, fv5, fv6, .int f_size_7])) (aI 300 (fun _ => 0))) 6 (oC 5 [.ref nn1, .ref (nn1 + 1), .ref ((nn1 + 1) + 1), fv5, fv6, .int f_size_7])) (aI 300 (fun _ => 0))) 6 (oC 5 [.ref nn1, .ref (nn1 + 1), .ref ((nn1 + 1) + 1), .ref (((nn1 + 1) + 1) + 1), fv6, .int f_size_7])) (aL 300 (fun _ => 0))) 6 (oC 5 [.ref nn1, .ref (nn1 + 1), .ref ((nn1 + 1) + 1), .ref (((nn1 + 1) + 1) + 1), .ref ((((nn1 + 1) + 1) + 1) + 1), .int f_size_7])) 6 (oC 5 [.ref nn1, .ref (nn1 + 1), .ref ((nn1 + 1) + 1), .ref (((nn1 + 1) + 1) + 1), .ref ((((nn1 + 1) + 1) + 1) + 1), .int (0 : Int32)])))
  : Ev G (d + 1) (((((k + 1) + 1) + 1) + 1) + 1) (((((n + 300) + 300) + 300) + 300) + 300) M_Sp_init 0 [.ref 6] [] h R :=
  Ev.go (pc' := 1) (ls' := [.ref 6]) (st' := [.ref 6]) [.aload_n 0] (by decide +kernel) rfl <|
  Ev.objI lL_Sp_3 w_objN w_objC (Nat.le_of_ble_eq_true rfl) (by decide +kernel) <|
  Ev.go (pc' := 8) (ls' := [.ref 6]) (st' := [.int (300 : Int32), .ref 6]) [.aload_n 0, .sipush (300)] (by decide +kernel) rfl <|
  Ev.newI' (a := nn1) (N := 300) (by decide +kernel) a_int n1 n2 rfl (by decide) <|
  Ev.putf f_Sp_11 (by decide +kernel) (hat_push a3) (Nat.le_of_ble_eq_true rfl) rfl (fun _ => ⟨rfl, _, rfl, rfl⟩) <| show Ev G (d + 1) _ _ M_Sp_init 13 [.ref 6] [] (hset (hpush h (aI 300 (fun _ => 0))) 6 (oC 5 [.ref nn1, fv3, fv4, fv5, fv6, .int f_size_7])) R from
  Ev.go (pc' := 17) (ls' := [.ref 6]) (st' := [.int (300 : Int32), .ref 6]) [.aload_n 0, .sipush (300)] (by decide +kernel) rfl <|
  Ev.newI' (a := (nn1 + 1)) (N := 300) (by decide +kernel) a_int (congrArg (· + 1) n1) n5 rfl (by decide) <|
  Ev.putf f_Sp_15 (by decide +kernel) (hat_push (hat_set (hat_push a3))) (Nat.le_of_ble_eq_true rfl) rfl (fun _ => ⟨rfl, _, rfl, rfl⟩) <| show Ev G (d + 1) _ _ M_Sp_init 22 [.ref 6] [] (hset (hpush (hset (hpush h (aI 300 (fun _ => 0))) 6 (oC 5 [.ref nn1, fv3, fv4, fv5, fv6, .int f_size_7])) (aI 300 (fun _ => 0))) 6 (oC 5 [.ref nn1, .ref (nn1 + 1), fv4, fv5, fv6, .int f_size_7])) R from
  Ev.go (pc' := 26) (ls' := [.ref 6]) (st' := [.int (300 : Int32), .ref 6]) [.aload_n 0, .sipush (300)] (by decide +kernel) rfl <|
  Ev.newI' (a := ((nn1 + 1) + 1)) (N := 300) (by decide +kernel) a_int (congrArg (· + 1) (congrArg (· + 1) n1)) n7 rfl (by decide) <|
  Ev.putf f_Sp_18 (by decide +kernel) (hat_push (hat_set (hat_push (hat_set (hat_push a3))))) (Nat.le_of_ble_eq_true rfl) rfl (fun _ => ⟨rfl, _, rfl, rfl⟩) <| show Ev G (d + 1) _ _ M_Sp_init 31 [.ref 6] [] (hset (hpush (hset (hpush (hset (hpush h (aI 300 (fun _ => 0))) 6 (oC 5 [.ref nn1, fv3, fv4, fv5, fv6, .int f_size_7])) (aI 300 (fun _ => 0))) 6 (oC 5 [.ref nn1, .ref (nn1 + 1), fv4, fv5, fv6, .int f_size_7])) (aI 300 (fun _ => 0))) 6 (oC 5 [.ref nn1, .ref (nn1 + 1), .ref ((nn1 + 1) + 1), fv5, fv6, .int f_size_7])) R from
  Ev.go (pc' := 35) (ls' := [.ref 6]) (st' := [.int (300 : Int32), .ref 6]) [.aload_n 0, .sipush (300)] (by decide +kernel) rfl <|
  Ev.newI' (a := (((nn1 + 1) + 1) + 1)) (N := 300) (by decide +kernel) a_int (congrArg (· + 1) (congrArg (· + 1) (congrArg (· + 1) n1))) n9 rfl (by decide) <|
  Ev.putf f_Sp_21 (by decide +kernel) (hat_push (hat_set (hat_push (hat_set (hat_push (hat_set (hat_push a3))))))) (Nat.le_of_ble_eq_true rfl) rfl (fun _ => ⟨rfl, _, rfl, rfl⟩) <| show Ev G (d + 1) _ _ M_Sp_init 40 [.ref 6] [] (hset (hpush (hset (hpush (hset (hpush (hset (hpush h (aI 300 (fun _ => 0))) 6 (oC 5 [.ref nn1, fv3, fv4, fv5, fv6, .int f_size_7])) (aI 300 (fun _ => 0))) 6 (oC 5 [.ref nn1, .ref (nn1 + 1), fv4, fv5, fv6, .int f_size_7])) (aI 300 (fun _ => 0))) 6 (oC 5 [.ref nn1, .ref (nn1 + 1), .ref ((nn1 + 1) + 1), fv5, fv6, .int f_size_7])) (aI 300 (fun _ => 0))) 6 (oC 5 [.ref nn1, .ref (nn1 + 1), .ref ((nn1 + 1) + 1), .ref (((nn1 + 1) + 1) + 1), fv6, .int f_size_7])) R from
  Ev.go (pc' := 44) (ls' := [.ref 6]) (st' := [.int (300 : Int32), .ref 6]) [.aload_n 0, .sipush (300)] (by decide +kernel) rfl <|
  Ev.newL' (a := ((((nn1 + 1) + 1) + 1) + 1)) (N := 300) (by decide +kernel) a_long (congrArg (· + 1) (congrArg (· + 1) (congrArg (· + 1) (congrArg (· + 1) n1)))) n11 rfl (by decide) <|
  Ev.putf f_Sp_24 (by decide +kernel) (hat_push (hat_set (hat_push (hat_set (hat_push (hat_set (hat_push (hat_set (hat_push a3))))))))) (Nat.le_of_ble_eq_true rfl) rfl (fun _ => ⟨rfl, _, rfl, rfl⟩) <| show Ev G (d + 1) _ _ M_Sp_init 49 [.ref 6] [] (hset (hpush (hset (hpush (hset (hpush (hset (hpush (hset (hpush h (aI 300 (fun _ => 0))) 6 (oC 5 [.ref nn1, fv3, fv4, fv5, fv6, .int f_size_7])) (aI 300 (fun _ => 0))) 6 (oC 5 [.ref nn1, .ref (nn1 + 1), fv4, fv5, fv6, .int f_size_7])) (aI 300 (fun _ => 0))) 6 (oC 5 [.ref nn1, .ref (nn1 + 1), .ref ((nn1 + 1) + 1), fv5, fv6, .int f_size_7])) (aI 300 (fun _ => 0))) 6 (oC 5 [.ref nn1, .ref (nn1 + 1), .ref ((nn1 + 1) + 1), .ref (((nn1 + 1) + 1) + 1), fv6, .int f_size_7])) (aL 300 (fun _ => 0))) 6 (oC 5 [.ref nn1, .ref (nn1 + 1), .ref ((nn1 + 1) + 1), .ref (((nn1 + 1) + 1) + 1), .ref ((((nn1 + 1) + 1) + 1) + 1), .int f_size_7])) R from
  Ev.go (pc' := 51) (ls' := [.ref 6]) (st' := [.int (0 : Int32), .ref 6]) [.aload_n 0, .iconst 0] (by decide +kernel) rfl <|
  Ev.putf f_Sp_28 (by decide +kernel) (hat_set (hat_push (hat_set (hat_push (hat_set (hat_push (hat_set (hat_push (hat_set (hat_push a3)))))))))) (Nat.le_of_ble_eq_true rfl) rfl (fun q => nomatch q) <| show Ev G (d + 1) _ _ M_Sp_init 54 [.ref 6] [] (hset (hset (hpush (hset (hpush (hset (hpush (hset (hpush (hset (hpush h (aI 300 (fun _ => 0))) 6 (oC 5 [.ref nn1, fv3, fv4, fv5, fv6, .int f_size_7])) (aI 300 (fun _ => 0))) 6 (oC 5 [.ref nn1, .ref (nn1 + 1), fv4, fv5, fv6, .int f_size_7])) (aI 300 (fun _ => 0))) 6 (oC 5 [.ref nn1, .ref (nn1 + 1), .ref ((nn1 + 1) + 1), fv5, fv6, .int f_size_7])) (aI 300 (fun _ => 0))) 6 (oC 5 [.ref nn1, .ref (nn1 + 1), .ref ((nn1 + 1) + 1), .ref (((nn1 + 1) + 1) + 1), fv6, .int f_size_7])) (aL 300 (fun _ => 0))) 6 (oC 5 [.ref nn1, .ref (nn1 + 1), .ref ((nn1 + 1) + 1), .ref (((nn1 + 1) + 1) + 1), .ref ((((nn1 + 1) + 1) + 1) + 1), .int f_size_7])) 6 (oC 5 [.ref nn1, .ref (nn1 + 1), .ref ((nn1 + 1) + 1), .ref (((nn1 + 1) + 1) + 1), .ref ((((nn1 + 1) + 1) + 1) + 1), .int (0 : Int32)])) R from
  Ev.ret (r := none) (Or.inr (Or.inr (Or.inl ⟨rfl, by decide +kernel, rfl⟩))) k1
theorem hgrid_old {h : ev_H} {a N K : Nat} {c : ev_C} (H : hat h a c) : hat (hgrid h N K) a c := by
  have := H.1
  refine ⟨by show a < h.1 + 1 + N; omega, ?_⟩
  show (if a = h.1 then _ else if h.1 < a ∧ a < h.1 + 1 + N then _ else h.2 a) = c
  rw [if_neg (by omega), if_neg (by omega)]
  exact H.2
theorem hgrid_n {h : ev_H} {a N K : Nat} (e : h.1 = a) : (hgrid h N K).1 = a + 1 + N := by
  subst e; rfl
theorem hgrid_g {h : ev_H} {a N K : Nat} (e : h.1 = a) : hat (hgrid h N K) a (aG N (fun i => if i < N then some (a + 1 + i) else none)) := by
  subst e
  exact ⟨by show h.1 < h.1 + 1 + N; omega, if_pos rfl⟩
theorem hgrid_r {h : ev_H} {a N K : Nat} (e : h.1 = a) (i : Nat) (hi : i < N) : hat (hgrid h N K) (a + 1 + i) (aI K (fun _ => 0)) := by
  subst e
  refine ⟨by show h.1 + 1 + i < h.1 + 1 + N; omega, ?_⟩
  show (if h.1 + 1 + i = h.1 then _ else if h.1 < h.1 + 1 + i ∧ h.1 + 1 + i < h.1 + 1 + N then _ else h.2 _) = _
  rw [if_neg (by omega), if_pos ⟨by omega, by omega⟩]
theorem Kg.grid {h h1 : ev_H} {lo hi N K : Nat} (a : Kg h h1 lo hi) : Kg h (hgrid h1 N K) lo hi := by
  refine ⟨Nat.le_trans a.1 (by show h1.1 ≤ h1.1 + 1 + N; omega), fun b hb q => ?_⟩
  have := a.1
  show (if b = h1.1 then _ else if h1.1 < b ∧ b < h1.1 + 1 + N then _ else h1.2 b) = _
  rw [if_neg (by omega), if_neg (by omega)]
  exact a.2 b hb q
theorem b_Bu_init_0 {G : ev_G} {d k n : Nat} {h : ev_H} {R : Option Value → ev_H → Prop} {nn1 : Nat} {fv2 : Value} {f_parts_3 : Int32} {fv4 : Value} {fv5 : Value} {fv6 : Value}
  (a3 : hat h 81 (oC 0 [fv2, .int f_parts_3, fv4, fv5, fv6]))
  (n1 : h.1 = nn1)
  (n2 : nn1 < ev_big)
  (e4 : nn1 ≠ 81)
  (n5 : (nn1 + 1) + 1 + 6 ≤ ev_big)
  (n6 : ((nn1 + 1) + 7) + 1 + 6 ≤ ev_big)
  (n7 : (((nn1 + 1) + 7) + 7) < ev_big)
  (e8 : (((nn1 + 1) + 7) + 7) ≠ 81)
  (k1 : R none (hset (hpush (hset (hgrid (hset (hgrid (hset (hset (hpush h (aI 6 (fun _ => 0))) 81 (oC 0 [.ref nn1, .int f_parts_3, fv4, fv5, fv6])) 81 (oC 0 [.ref nn1, .int (1 : Int32), fv4, fv5, fv6])) 6 26) 81 (oC 0 [.ref nn1, .int (1 : Int32), .ref (nn1 + 1), fv5, fv6])) 6 50) 81 (oC 0 [.ref nn1, .int (1 : Int32), .ref (nn1 + 1), .ref ((nn1 + 1) + 7), fv6])) (aI 6 (fun _ => 0))) 81 (oC 0 [.ref nn1, .int (1 : Int32), .ref (nn1 + 1), .ref ((nn1 + 1) + 7), .ref (((nn1 + 1) + 7) + 7)])))
  : Ev G (d + 1) ((((k + 1) + (1 + 6)) + (1 + 6)) + 1) ((((n + 6) + (6 + 6 * 50)) + (6 + 6 * 26)) + 6) M_Bu_init 0 [.ref 81] [] h R :=
  Ev.go (pc' := 1) (ls' := [.ref 81]) (st' := [.ref 81]) [.aload_n 0] (by decide +kernel) rfl <|
  Ev.objI lL_Bu_3 w_objN w_objC (Nat.le_of_ble_eq_true rfl) (by decide +kernel) <|
  Ev.go (pc' := 7) (ls' := [.ref 81]) (st' := [.int (6 : Int32), .ref 81]) [.aload_n 0, .bipush (6)] (by decide +kernel) rfl <|
  Ev.newI' (a := nn1) (N := 6) (by decide +kernel) a_int n1 n2 rfl (by decide) <|
  Ev.putf f_Bu_9 (by decide +kernel) (hat_push a3) (Nat.le_of_ble_eq_true rfl) rfl (fun _ => ⟨rfl, _, rfl, rfl⟩) <| show Ev G (d + 1) _ _ M_Bu_init 12 [.ref 81] [] (hset (hpush h (aI 6 (fun _ => 0))) 81 (oC 0 [.ref nn1, .int f_parts_3, fv4, fv5, fv6])) R from
  Ev.go (pc' := 14) (ls' := [.ref 81]) (st' := [.int (1 : Int32), .ref 81]) [.aload_n 0, .iconst 1] (by decide +kernel) rfl <|
  Ev.putf f_Bu_15 (by decide +kernel) (hat_set (hat_push a3)) (Nat.le_of_ble_eq_true rfl) rfl (fun q => nomatch q) <| show Ev G (d + 1) _ _ M_Bu_init 17 [.ref 81] [] (hset (hset (hpush h (aI 6 (fun _ => 0))) 81 (oC 0 [.ref nn1, .int f_parts_3, fv4, fv5, fv6])) 81 (oC 0 [.ref nn1, .int (1 : Int32), fv4, fv5, fv6])) R from
  Ev.go (pc' := 22) (ls' := [.ref 81]) (st' := [.int (26 : Int32), .int (6 : Int32), .ref 81]) [.aload_n 0, .bipush (6), .bipush (26)] (by decide +kernel) rfl <|
  Ev.mna' (a := (nn1 + 1)) (N := 6) (K := 26) (by decide +kernel) q_Bu_19 a_int (congrArg (· + 1) n1) n5 rfl rfl (by decide) (by decide) <|
  Ev.putf f_Bu_21 (by decide +kernel) (hgrid_old (hat_set (hat_set (hat_push a3)))) (Nat.le_of_ble_eq_true rfl) rfl (fun _ => ⟨rfl, _, rfl, rfl⟩) <| show Ev G (d + 1) _ _ M_Bu_init 29 [.ref 81] [] (hset (hgrid (hset (hset (hpush h (aI 6 (fun _ => 0))) 81 (oC 0 [.ref nn1, .int f_parts_3, fv4, fv5, fv6])) 81 (oC 0 [.ref nn1, .int (1 : Int32), fv4, fv5, fv6])) 6 26) 81 (oC 0 [.ref nn1, .int (1 : Int32), .ref (nn1 + 1), fv5, fv6])) R from
  Ev.go (pc' := 34) (ls' := [.ref 81]) (st' := [.int (50 : Int32), .int (6 : Int32), .ref 81]) [.aload_n 0, .bipush (6), .bipush (50)] (by decide +kernel) rfl <|
  Ev.mna' (a := ((nn1 + 1) + 7)) (N := 6) (K := 50) (by decide +kernel) q_Bu_19 a_int (by exact hgrid_n (h := (hset (hset (hpush h (aI 6 (fun _ => 0))) 81 (oC 0 [.ref nn1, .int f_parts_3, fv4, fv5, fv6])) 81 (oC 0 [.ref nn1, .int (1 : Int32), fv4, fv5, fv6]))) (N := 6) (K := 26) (a := (nn1 + 1)) (congrArg (· + 1) n1)) n6 rfl rfl (by decide) (by decide) <|
  Ev.putf f_Bu_24 (by decide +kernel) (hgrid_old (hat_set (hgrid_old (hat_set (hat_set (hat_push a3)))))) (Nat.le_of_ble_eq_true rfl) rfl (fun _ => ⟨rfl, _, rfl, rfl⟩) <| show Ev G (d + 1) _ _ M_Bu_init 41 [.ref 81] [] (hset (hgrid (hset (hgrid (hset (hset (hpush h (aI 6 (fun _ => 0))) 81 (oC 0 [.ref nn1, .int f_parts_3, fv4, fv5, fv6])) 81 (oC 0 [.ref nn1, .int (1 : Int32), fv4, fv5, fv6])) 6 26) 81 (oC 0 [.ref nn1, .int (1 : Int32), .ref (nn1 + 1), fv5, fv6])) 6 50) 81 (oC 0 [.ref nn1, .int (1 : Int32), .ref (nn1 + 1), .ref ((nn1 + 1) + 7), fv6])) R from
  Ev.go (pc' := 44) (ls' := [.ref 81]) (st' := [.int (6 : Int32), .ref 81]) [.aload_n 0, .bipush (6)] (by decide +kernel) rfl <|
  Ev.newI' (a := (((nn1 + 1) + 7) + 7)) (N := 6) (by decide +kernel) a_int (by exact hgrid_n (h := (hset (hgrid (hset (hset (hpush h (aI 6 (fun _ => 0))) 81 (oC 0 [.ref nn1, .int f_parts_3, fv4, fv5, fv6])) 81 (oC 0 [.ref nn1, .int (1 : Int32), fv4, fv5, fv6])) 6 26) 81 (oC 0 [.ref nn1, .int (1 : Int32), .ref (nn1 + 1), fv5, fv6]))) (N := 6) (K := 50) (a := ((nn1 + 1) + 7)) (by exact hgrid_n (h := (hset (hset (hpush h (aI 6 (fun _ => 0))) 81 (oC 0 [.ref nn1, .int f_parts_3, fv4, fv5, fv6])) 81 (oC 0 [.ref nn1, .int (1 : Int32), fv4, fv5, fv6]))) (N := 6) (K := 26) (a := (nn1 + 1)) (congrArg (· + 1) n1))) n7 rfl (by decide) <|
  Ev.putf f_Bu_27 (by decide +kernel) (hat_push (hat_set (hgrid_old (hat_set (hgrid_old (hat_set (hat_set (hat_push a3)))))))) (Nat.le_of_ble_eq_true rfl) rfl (fun _ => ⟨rfl, _, rfl, rfl⟩) <| show Ev G (d + 1) _ _ M_Bu_init 49 [.ref 81] [] (hset (hpush (hset (hgrid (hset (hgrid (hset (hset (hpush h (aI 6 (fun _ => 0))) 81 (oC 0 [.ref nn1, .int f_parts_3, fv4, fv5, fv6])) 81 (oC 0 [.ref nn1, .int (1 : Int32), fv4, fv5, fv6])) 6 26) 81 (oC 0 [.ref nn1, .int (1 : Int32), .ref (nn1 + 1), fv5, fv6])) 6 50) 81 (oC 0 [.ref nn1, .int (1 : Int32), .ref (nn1 + 1), .ref ((nn1 + 1) + 7), fv6])) (aI 6 (fun _ => 0))) 81 (oC 0 [.ref nn1, .int (1 : Int32), .ref (nn1 + 1), .ref ((nn1 + 1) + 7), .ref (((nn1 + 1) + 7) + 7)])) R from
  Ev.ret (r := none) (Or.inr (Or.inr (Or.inl ⟨rfl, by decide +kernel, rfl⟩))) k1
theorem b_Ra_init_0 {G : ev_G} {d k n : Nat} {h : ev_H} {R : Option Value → ev_H → Prop} {nn1 : Nat} {fv2 : Value} {fv3 : Value} {fv4 : Value} {f_size_5 : Int32}
  (a3 : hat h 98 (oC 3 [fv2, fv3, fv4, .int f_size_5]))
  (n1 : h.1 = nn1)
  (n2 : nn1 < ev_big)
  (e4 : nn1 ≠ 98)
  (n5 : (nn1 + 1) < ev_big)
  (e6 : (nn1 + 1) ≠ 98)
  (n7 : ((nn1 + 1) + 1) < ev_big)
  (e8 : ((nn1 + 1) + 1) ≠ 98)
  (k1 : R none (hset (hset (hpush (hset (hpush (hset (hpush h (aI 32 (fun _ => 0))) 98 (oC 3 [.ref nn1, fv3, fv4, .int f_size_5])) (aI 32 (fun _ => 0))) 98 (oC 3 [.ref nn1, .ref (nn1 + 1), fv4, .int f_size_5])) (aI 32 (fun _ => 0))) 98 (oC 3 [.ref nn1, .ref (nn1 + 1), .ref ((nn1 + 1) + 1), .int f_size_5])) 98 (oC 3 [.ref nn1, .ref (nn1 + 1), .ref ((nn1 + 1) + 1), .int (0 : Int32)])))
  : Ev G (d + 1) (((k + 1) + 1) + 1) (((n + 32) + 32) + 32) M_Ra_init 0 [.ref 98] [] h R :=
  Ev.go (pc' := 1) (ls' := [.ref 98]) (st' := [.ref 98]) [.aload_n 0] (by decide +kernel) rfl <|
  Ev.objI lL_Ra_3 w_objN w_objC (Nat.le_of_ble_eq_true rfl) (by decide +kernel) <|
  Ev.go (pc' := 7) (ls' := [.ref 98]) (st' := [.int (32 : Int32), .ref 98]) [.aload_n 0, .bipush (32)] (by decide +kernel) rfl <|
  Ev.newI' (a := nn1) (N := 32) (by decide +kernel) a_int n1 n2 rfl (by decide) <|
  Ev.putf f_Ra_9 (by decide +kernel) (hat_push a3) (Nat.le_of_ble_eq_true rfl) rfl (fun _ => ⟨rfl, _, rfl, rfl⟩) <| show Ev G (d + 1) _ _ M_Ra_init 12 [.ref 98] [] (hset (hpush h (aI 32 (fun _ => 0))) 98 (oC 3 [.ref nn1, fv3, fv4, .int f_size_5])) R from
  Ev.go (pc' := 15) (ls' := [.ref 98]) (st' := [.int (32 : Int32), .ref 98]) [.aload_n 0, .bipush (32)] (by decide +kernel) rfl <|
  Ev.newI' (a := (nn1 + 1)) (N := 32) (by decide +kernel) a_int (congrArg (· + 1) n1) n5 rfl (by decide) <|
  Ev.putf f_Ra_15 (by decide +kernel) (hat_push (hat_set (hat_push a3))) (Nat.le_of_ble_eq_true rfl) rfl (fun _ => ⟨rfl, _, rfl, rfl⟩) <| show Ev G (d + 1) _ _ M_Ra_init 20 [.ref 98] [] (hset (hpush (hset (hpush h (aI 32 (fun _ => 0))) 98 (oC 3 [.ref nn1, fv3, fv4, .int f_size_5])) (aI 32 (fun _ => 0))) 98 (oC 3 [.ref nn1, .ref (nn1 + 1), fv4, .int f_size_5])) R from
  Ev.go (pc' := 23) (ls' := [.ref 98]) (st' := [.int (32 : Int32), .ref 98]) [.aload_n 0, .bipush (32)] (by decide +kernel) rfl <|
  Ev.newI' (a := ((nn1 + 1) + 1)) (N := 32) (by decide +kernel) a_int (congrArg (· + 1) (congrArg (· + 1) n1)) n7 rfl (by decide) <|
  Ev.putf f_Ra_18 (by decide +kernel) (hat_push (hat_set (hat_push (hat_set (hat_push a3))))) (Nat.le_of_ble_eq_true rfl) rfl (fun _ => ⟨rfl, _, rfl, rfl⟩) <| show Ev G (d + 1) _ _ M_Ra_init 28 [.ref 98] [] (hset (hpush (hset (hpush (hset (hpush h (aI 32 (fun _ => 0))) 98 (oC 3 [.ref nn1, fv3, fv4, .int f_size_5])) (aI 32 (fun _ => 0))) 98 (oC 3 [.ref nn1, .ref (nn1 + 1), fv4, .int f_size_5])) (aI 32 (fun _ => 0))) 98 (oC 3 [.ref nn1, .ref (nn1 + 1), .ref ((nn1 + 1) + 1), .int f_size_5])) R from
  Ev.go (pc' := 30) (ls' := [.ref 98]) (st' := [.int (0 : Int32), .ref 98]) [.aload_n 0, .iconst 0] (by decide +kernel) rfl <|
  Ev.putf f_Ra_21 (by decide +kernel) (hat_set (hat_push (hat_set (hat_push (hat_set (hat_push a3)))))) (Nat.le_of_ble_eq_true rfl) rfl (fun q => nomatch q) <| show Ev G (d + 1) _ _ M_Ra_init 33 [.ref 98] [] (hset (hset (hpush (hset (hpush (hset (hpush h (aI 32 (fun _ => 0))) 98 (oC 3 [.ref nn1, fv3, fv4, .int f_size_5])) (aI 32 (fun _ => 0))) 98 (oC 3 [.ref nn1, .ref (nn1 + 1), fv4, .int f_size_5])) (aI 32 (fun _ => 0))) 98 (oC 3 [.ref nn1, .ref (nn1 + 1), .ref ((nn1 + 1) + 1), .int f_size_5])) 98 (oC 3 [.ref nn1, .ref (nn1 + 1), .ref ((nn1 + 1) + 1), .int (0 : Int32)])) R from
  Ev.ret (r := none) (Or.inr (Or.inr (Or.inl ⟨rfl, by decide +kernel, rfl⟩))) k1
theorem b_St_init_0 {G : ev_G} {d k n : Nat} {h : ev_H} {R : Option Value → ev_H → Prop} {x0 : Nat} {f_bits_1 : Int32} {f_parts_2 : Int32} {fv3 : Value} {f_size_4 : Int32} {fv5 : Value} {fv6 : Value} {fv7 : Value} {nn8 : Nat}
  (a1 : hat h x0 (oC 6 [.int f_bits_1, .int f_parts_2, fv3, .int f_size_4, fv5, fv6, fv7]))
  (n2 : (hset (hset h x0 (oC 6 [.int (16 : Int32), .int f_parts_2, fv3, .int f_size_4, fv5, fv6, fv7])) x0 (oC 6 [.int (16 : Int32), .int (0 : Int32), fv3, .int f_size_4, fv5, fv6, fv7])).1 = nn8)
  (n3 : nn8 < ev_big)
  (e4 : nn8 ≠ x0)
  (n5 : (nn8 + 1) < ev_big)
  (e6 : (nn8 + 1) ≠ x0)
  (n7 : ((nn8 + 1) + 1) < ev_big)
  (e8 : ((nn8 + 1) + 1) ≠ x0)
  (k1 : Ev G d 0 0 M_St_halve 0 [.ref x0] [] (hset (hset (hpush (hset (hpush (hset (hset (hpush (hset (hset h x0 (oC 6 [.int (16 : Int32), .int f_parts_2, fv3, .int f_size_4, fv5, fv6, fv7])) x0 (oC 6 [.int (16 : Int32), .int (0 : Int32), fv3, .int f_size_4, fv5, fv6, fv7])) (aI 6 (fun _ => 0))) x0 (oC 6 [.int (16 : Int32), .int (0 : Int32), .ref nn8, .int f_size_4, fv5, fv6, fv7])) x0 (oC 6 [.int (16 : Int32), .int (0 : Int32), .ref nn8, .int (0 : Int32), fv5, fv6, fv7])) (aL 32 (fun _ => 0))) x0 (oC 6 [.int (16 : Int32), .int (0 : Int32), .ref nn8, .int (0 : Int32), .ref (nn8 + 1), fv6, fv7])) (aI 32 (fun _ => 0))) x0 (oC 6 [.int (16 : Int32), .int (0 : Int32), .ref nn8, .int (0 : Int32), .ref (nn8 + 1), .ref ((nn8 + 1) + 1), fv7])) x0 (oC 6 [.int (16 : Int32), .int (0 : Int32), .ref nn8, .int (0 : Int32), .ref (nn8 + 1), .ref ((nn8 + 1) + 1), .null])) (fun r h1 => Ev G (d + 1) k n M_St_init 53 [.ref x0] (r.toList ++ []) h1 R))
  : Ev G (d + 1) (((k + 1) + 1) + 1) (((n + 32) + 32) + 6) M_St_init 0 [.ref x0] [] h R :=
  Ev.go (pc' := 1) (ls' := [.ref x0]) (st' := [.ref x0]) [.aload_n 0] (by decide +kernel) rfl <|
  Ev.objI lL_St_3 w_objN w_objC (Nat.le_of_ble_eq_true rfl) (by decide +kernel) <|
  Ev.go (pc' := 7) (ls' := [.ref x0]) (st' := [.int (16 : Int32), .ref x0]) [.aload_n 0, .bipush (16)] (by decide +kernel) rfl <|
  Ev.putf f_St_9 (by decide +kernel) a1 (Nat.le_of_ble_eq_true rfl) rfl (fun q => nomatch q) <| show Ev G (d + 1) _ _ M_St_init 10 [.ref x0] [] (hset h x0 (oC 6 [.int (16 : Int32), .int f_parts_2, fv3, .int f_size_4, fv5, fv6, fv7])) R from
  Ev.go (pc' := 12) (ls' := [.ref x0]) (st' := [.int (0 : Int32), .ref x0]) [.aload_n 0, .iconst 0] (by decide +kernel) rfl <|
  Ev.putf f_St_15 (by decide +kernel) (hat_set a1) (Nat.le_of_ble_eq_true rfl) rfl (fun q => nomatch q) <| show Ev G (d + 1) _ _ M_St_init 15 [.ref x0] [] (hset (hset h x0 (oC 6 [.int (16 : Int32), .int f_parts_2, fv3, .int f_size_4, fv5, fv6, fv7])) x0 (oC 6 [.int (16 : Int32), .int (0 : Int32), fv3, .int f_size_4, fv5, fv6, fv7])) R from
  Ev.go (pc' := 18) (ls' := [.ref x0]) (st' := [.int (6 : Int32), .ref x0]) [.aload_n 0, .bipush (6)] (by decide +kernel) rfl <|
  Ev.newI' (a := nn8) (N := 6) (by decide +kernel) a_int n2 n3 rfl (by decide) <|
  Ev.putf f_St_18 (by decide +kernel) (hat_push (hat_set (hat_set a1))) (Nat.le_of_ble_eq_true rfl) rfl (fun _ => ⟨rfl, _, rfl, rfl⟩) <| show Ev G (d + 1) _ _ M_St_init 23 [.ref x0] [] (hset (hpush (hset (hset h x0 (oC 6 [.int (16 : Int32), .int f_parts_2, fv3, .int f_size_4, fv5, fv6, fv7])) x0 (oC 6 [.int (16 : Int32), .int (0 : Int32), fv3, .int f_size_4, fv5, fv6, fv7])) (aI 6 (fun _ => 0))) x0 (oC 6 [.int (16 : Int32), .int (0 : Int32), .ref nn8, .int f_size_4, fv5, fv6, fv7])) R from
  Ev.go (pc' := 25) (ls' := [.ref x0]) (st' := [.int (0 : Int32), .ref x0]) [.aload_n 0, .iconst 0] (by decide +kernel) rfl <|
  Ev.putf f_St_22 (by decide +kernel) (hat_set (hat_push (hat_set (hat_set a1)))) (Nat.le_of_ble_eq_true rfl) rfl (fun q => nomatch q) <| show Ev G (d + 1) _ _ M_St_init 28 [.ref x0] [] (hset (hset (hpush (hset (hset h x0 (oC 6 [.int (16 : Int32), .int f_parts_2, fv3, .int f_size_4, fv5, fv6, fv7])) x0 (oC 6 [.int (16 : Int32), .int (0 : Int32), fv3, .int f_size_4, fv5, fv6, fv7])) (aI 6 (fun _ => 0))) x0 (oC 6 [.int (16 : Int32), .int (0 : Int32), .ref nn8, .int f_size_4, fv5, fv6, fv7])) x0 (oC 6 [.int (16 : Int32), .int (0 : Int32), .ref nn8, .int (0 : Int32), fv5, fv6, fv7])) R from
  Ev.go (pc' := 31) (ls' := [.ref x0]) (st' := [.int (32 : Int32), .ref x0]) [.aload_n 0, .bipush (32)] (by decide +kernel) rfl <|
  Ev.newL' (a := (nn8 + 1)) (N := 32) (by decide +kernel) a_long (congrArg (· + 1) n2) n5 rfl (by decide) <|
  Ev.putf f_St_25 (by decide +kernel) (hat_push (hat_set (hat_set (hat_push (hat_set (hat_set a1)))))) (Nat.le_of_ble_eq_true rfl) rfl (fun _ => ⟨rfl, _, rfl, rfl⟩) <| show Ev G (d + 1) _ _ M_St_init 36 [.ref x0] [] (hset (hpush (hset (hset (hpush (hset (hset h x0 (oC 6 [.int (16 : Int32), .int f_parts_2, fv3, .int f_size_4, fv5, fv6, fv7])) x0 (oC 6 [.int (16 : Int32), .int (0 : Int32), fv3, .int f_size_4, fv5, fv6, fv7])) (aI 6 (fun _ => 0))) x0 (oC 6 [.int (16 : Int32), .int (0 : Int32), .ref nn8, .int f_size_4, fv5, fv6, fv7])) x0 (oC 6 [.int (16 : Int32), .int (0 : Int32), .ref nn8, .int (0 : Int32), fv5, fv6, fv7])) (aL 32 (fun _ => 0))) x0 (oC 6 [.int (16 : Int32), .int (0 : Int32), .ref nn8, .int (0 : Int32), .ref (nn8 + 1), fv6, fv7])) R from
  Ev.go (pc' := 39) (ls' := [.ref x0]) (st' := [.int (32 : Int32), .ref x0]) [.aload_n 0, .bipush (32)] (by decide +kernel) rfl <|
  Ev.newI' (a := ((nn8 + 1) + 1)) (N := 32) (by decide +kernel) a_int (congrArg (· + 1) (congrArg (· + 1) n2)) n7 rfl (by decide) <|
  Ev.putf f_St_29 (by decide +kernel) (hat_push (hat_set (hat_push (hat_set (hat_set (hat_push (hat_set (hat_set a1)))))))) (Nat.le_of_ble_eq_true rfl) rfl (fun _ => ⟨rfl, _, rfl, rfl⟩) <| show Ev G (d + 1) _ _ M_St_init 44 [.ref x0] [] (hset (hpush (hset (hpush (hset (hset (hpush (hset (hset h x0 (oC 6 [.int (16 : Int32), .int f_parts_2, fv3, .int f_size_4, fv5, fv6, fv7])) x0 (oC 6 [.int (16 : Int32), .int (0 : Int32), fv3, .int f_size_4, fv5, fv6, fv7])) (aI 6 (fun _ => 0))) x0 (oC 6 [.int (16 : Int32), .int (0 : Int32), .ref nn8, .int f_size_4, fv5, fv6, fv7])) x0 (oC 6 [.int (16 : Int32), .int (0 : Int32), .ref nn8, .int (0 : Int32), fv5, fv6, fv7])) (aL 32 (fun _ => 0))) x0 (oC 6 [.int (16 : Int32), .int (0 : Int32), .ref nn8, .int (0 : Int32), .ref (nn8 + 1), fv6, fv7])) (aI 32 (fun _ => 0))) x0 (oC 6 [.int (16 : Int32), .int (0 : Int32), .ref nn8, .int (0 : Int32), .ref (nn8 + 1), .ref ((nn8 + 1) + 1), fv7])) R from
  Ev.go (pc' := 46) (ls' := [.ref x0]) (st' := [.null, .ref x0]) [.aload_n 0, .aconst_null] (by decide +kernel) rfl <|
  Ev.putf f_St_32 (by decide +kernel) (hat_set (hat_push (hat_set (hat_push (hat_set (hat_set (hat_push (hat_set (hat_set a1))))))))) (Nat.le_of_ble_eq_true rfl) rfl (fun q => nomatch q) <| show Ev G (d + 1) _ _ M_St_init 49 [.ref x0] [] (hset (hset (hpush (hset (hpush (hset (hset (hpush (hset (hset h x0 (oC 6 [.int (16 : Int32), .int f_parts_2, fv3, .int f_size_4, fv5, fv6, fv7])) x0 (oC 6 [.int (16 : Int32), .int (0 : Int32), fv3, .int f_size_4, fv5, fv6, fv7])) (aI 6 (fun _ => 0))) x0 (oC 6 [.int (16 : Int32), .int (0 : Int32), .ref nn8, .int f_size_4, fv5, fv6, fv7])) x0 (oC 6 [.int (16 : Int32), .int (0 : Int32), .ref nn8, .int (0 : Int32), fv5, fv6, fv7])) (aL 32 (fun _ => 0))) x0 (oC 6 [.int (16 : Int32), .int (0 : Int32), .ref nn8, .int (0 : Int32), .ref (nn8 + 1), fv6, fv7])) (aI 32 (fun _ => 0))) x0 (oC 6 [.int (16 : Int32), .int (0 : Int32), .ref nn8, .int (0 : Int32), .ref (nn8 + 1), .ref ((nn8 + 1) + 1), fv7])) x0 (oC 6 [.int (16 : Int32), .int (0 : Int32), .ref nn8, .int (0 : Int32), .ref (nn8 + 1), .ref ((nn8 + 1) + 1), .null])) R from
  Ev.go (pc' := 50) (ls' := [.ref x0]) (st' := [.ref x0]) [.aload_n 0] (by decide +kernel) rfl <|
  Ev.cV0 (M' := M_St_halve) (as := []) (rest := []) l_St_36 M_St_halve_ok M_St_halve_in M_St_halve_se (by decide +kernel) ⟨_, (hat_set (hat_set (hat_push (hat_set (hat_push (hat_set (hat_set (hat_push (hat_set (hat_set a1))))))))))⟩ rfl rfl rfl (Nat.le_of_ble_eq_true rfl) (Nat.le_of_ble_eq_true rfl) k1
theorem b_St_init_53 {G : ev_G} {d k n : Nat} {h : ev_H} {R : Option Value → ev_H → Prop} {x0 : Nat}
  (k1 : R none h)
  : Ev G (d + 1) k n M_St_init 53 [.ref x0] [] h R :=
  Ev.ret (r := none) (Or.inr (Or.inr (Or.inl ⟨rfl, by decide +kernel, rfl⟩))) k1
theorem b_Hi_init_0 {G : ev_G} {d k n : Nat} {h : ev_H} {R : Option Value → ev_H → Prop} {nn1 : Nat} {fv2 : Value} {fv3 : Value} {f_first_4 : Int32} {f_kept_5 : Int32} {f_marked_6 : Int32}
  (a3 : hat h 18 (oC 2 [fv2, fv3, .int f_first_4, .int f_kept_5, .int f_marked_6]))
  (n1 : h.1 = nn1)
  (n2 : nn1 < ev_big)
  (e4 : nn1 ≠ 18)
  (n5 : (nn1 + 1) < ev_big)
  (e6 : (nn1 + 1) ≠ 18)
  (k1 : Ev G (d + 1) k n M_Hi_init 38 [.ref 18, .int (0 : Int32)] [] (hset (hset (hset (hset (hpush (hset (hpush h (aS 12 (fun _ => none))) 18 (oC 2 [.ref nn1, fv3, .int f_first_4, .int f_kept_5, .int f_marked_6])) (aS 3 (fun _ => none))) 18 (oC 2 [.ref nn1, .ref (nn1 + 1), .int f_first_4, .int f_kept_5, .int f_marked_6])) 18 (oC 2 [.ref nn1, .ref (nn1 + 1), .int (0 : Int32), .int f_kept_5, .int f_marked_6])) 18 (oC 2 [.ref nn1, .ref (nn1 + 1), .int (0 : Int32), .int (0 : Int32), .int f_marked_6])) 18 (oC 2 [.ref nn1, .ref (nn1 + 1), .int (0 : Int32), .int (0 : Int32), .int (0 : Int32)])) R)
  : Ev G (d + 1) ((k + 1) + 1) ((n + 3) + 12) M_Hi_init 0 [.ref 18, ev_unk] [] h R :=
  Ev.go (pc' := 1) (ls' := [.ref 18, ev_unk]) (st' := [.ref 18]) [.aload_n 0] (by decide +kernel) rfl <|
  Ev.objI lL_Hi_3 w_objN w_objC (Nat.le_of_ble_eq_true rfl) (by decide +kernel) <|
  Ev.go (pc' := 7) (ls' := [.ref 18, ev_unk]) (st' := [.int (12 : Int32), .ref 18]) [.aload_n 0, .bipush (12)] (by decide +kernel) rfl <|
  Ev.newS' (a := nn1) (N := 12) (by decide +kernel) q_Hi_9 n1 n2 rfl (by decide) <|
  Ev.putf f_Hi_11 (by decide +kernel) (hat_push a3) (Nat.le_of_ble_eq_true rfl) rfl (fun _ => ⟨rfl, _, rfl, rfl⟩) <| show Ev G (d + 1) _ _ M_Hi_init 13 [.ref 18, ev_unk] [] (hset (hpush h (aS 12 (fun _ => none))) 18 (oC 2 [.ref nn1, fv3, .int f_first_4, .int f_kept_5, .int f_marked_6])) R from
  Ev.go (pc' := 15) (ls' := [.ref 18, ev_unk]) (st' := [.int (3 : Int32), .ref 18]) [.aload_n 0, .iconst 3] (by decide +kernel) rfl <|
  Ev.newS' (a := (nn1 + 1)) (N := 3) (by decide +kernel) q_Hi_9 (congrArg (· + 1) n1) n5 rfl (by decide) <|
  Ev.putf f_Hi_17 (by decide +kernel) (hat_push (hat_set (hat_push a3))) (Nat.le_of_ble_eq_true rfl) rfl (fun _ => ⟨rfl, _, rfl, rfl⟩) <| show Ev G (d + 1) _ _ M_Hi_init 21 [.ref 18, ev_unk] [] (hset (hpush (hset (hpush h (aS 12 (fun _ => none))) 18 (oC 2 [.ref nn1, fv3, .int f_first_4, .int f_kept_5, .int f_marked_6])) (aS 3 (fun _ => none))) 18 (oC 2 [.ref nn1, .ref (nn1 + 1), .int f_first_4, .int f_kept_5, .int f_marked_6])) R from
  Ev.go (pc' := 23) (ls' := [.ref 18, ev_unk]) (st' := [.int (0 : Int32), .ref 18]) [.aload_n 0, .iconst 0] (by decide +kernel) rfl <|
  Ev.putf f_Hi_20 (by decide +kernel) (hat_set (hat_push (hat_set (hat_push a3)))) (Nat.le_of_ble_eq_true rfl) rfl (fun q => nomatch q) <| show Ev G (d + 1) _ _ M_Hi_init 26 [.ref 18, ev_unk] [] (hset (hset (hpush (hset (hpush h (aS 12 (fun _ => none))) 18 (oC 2 [.ref nn1, fv3, .int f_first_4, .int f_kept_5, .int f_marked_6])) (aS 3 (fun _ => none))) 18 (oC 2 [.ref nn1, .ref (nn1 + 1), .int f_first_4, .int f_kept_5, .int f_marked_6])) 18 (oC 2 [.ref nn1, .ref (nn1 + 1), .int (0 : Int32), .int f_kept_5, .int f_marked_6])) R from
  Ev.go (pc' := 28) (ls' := [.ref 18, ev_unk]) (st' := [.int (0 : Int32), .ref 18]) [.aload_n 0, .iconst 0] (by decide +kernel) rfl <|
  Ev.putf f_Hi_24 (by decide +kernel) (hat_set (hat_set (hat_push (hat_set (hat_push a3))))) (Nat.le_of_ble_eq_true rfl) rfl (fun q => nomatch q) <| show Ev G (d + 1) _ _ M_Hi_init 31 [.ref 18, ev_unk] [] (hset (hset (hset (hpush (hset (hpush h (aS 12 (fun _ => none))) 18 (oC 2 [.ref nn1, fv3, .int f_first_4, .int f_kept_5, .int f_marked_6])) (aS 3 (fun _ => none))) 18 (oC 2 [.ref nn1, .ref (nn1 + 1), .int f_first_4, .int f_kept_5, .int f_marked_6])) 18 (oC 2 [.ref nn1, .ref (nn1 + 1), .int (0 : Int32), .int f_kept_5, .int f_marked_6])) 18 (oC 2 [.ref nn1, .ref (nn1 + 1), .int (0 : Int32), .int (0 : Int32), .int f_marked_6])) R from
  Ev.go (pc' := 33) (ls' := [.ref 18, ev_unk]) (st' := [.int (0 : Int32), .ref 18]) [.aload_n 0, .iconst 0] (by decide +kernel) rfl <|
  Ev.putf f_Hi_27 (by decide +kernel) (hat_set (hat_set (hat_set (hat_push (hat_set (hat_push a3)))))) (Nat.le_of_ble_eq_true rfl) rfl (fun q => nomatch q) <| show Ev G (d + 1) _ _ M_Hi_init 36 [.ref 18, ev_unk] [] (hset (hset (hset (hset (hpush (hset (hpush h (aS 12 (fun _ => none))) 18 (oC 2 [.ref nn1, fv3, .int f_first_4, .int f_kept_5, .int f_marked_6])) (aS 3 (fun _ => none))) 18 (oC 2 [.ref nn1, .ref (nn1 + 1), .int f_first_4, .int f_kept_5, .int f_marked_6])) 18 (oC 2 [.ref nn1, .ref (nn1 + 1), .int (0 : Int32), .int f_kept_5, .int f_marked_6])) 18 (oC 2 [.ref nn1, .ref (nn1 + 1), .int (0 : Int32), .int (0 : Int32), .int f_marked_6])) 18 (oC 2 [.ref nn1, .ref (nn1 + 1), .int (0 : Int32), .int (0 : Int32), .int (0 : Int32)])) R from
  Ev.go (pc' := 38) (ls' := [.ref 18, .int (0 : Int32)]) (st' := []) [.iconst 0, .istore_n 1] (by decide +kernel) rfl <|
  k1
theorem b_Hi_init_38 {G : ev_G} {d k n : Nat} {h : ev_H} {R : Option Value → ev_H → Prop} {x1 : Int32}
  (k1 : x1 < (12 : Int32) → Ev G (d + 1) k n M_Hi_init 44 [.ref 18, .int x1] [] h R)
  (k2 : ¬ x1 < (12 : Int32) → Ev G (d + 1) k n M_Hi_init 65 [.ref 18, .int (0 : Int32)] [] h R)
  : Ev G (d + 1) k n M_Hi_init 38 [.ref 18, .int x1] [] h R :=
  Ev.go (pc' := 41) (ls' := [.ref 18, .int x1]) (st' := [.int (12 : Int32), .int x1]) [.iload_n 1, .bipush (12)] (by decide +kernel) rfl <|
  Ev.br (i := .if_icmp .ge (22)) (P := x1 < (12 : Int32)) (t := 44) (f := 63) (r := []) (by decide +kernel) rfl (fun c1 =>
    (k1 c1)
  ) (fun c1 =>
    Ev.go (pc' := 65) (ls' := [.ref 18, .int (0 : Int32)]) (st' := []) [.iconst 0, .istore_n 1] (by decide +kernel) rfl <|
    (k2 c1)
  )
theorem b_Hi_init_44 {G : ev_G} {d k n : Nat} {h : ev_H} {R : Option Value → ev_H → Prop} {x1 : Int32} {f_first_1 : Int32} {f_kept_2 : Int32} {f_marked_3 : Int32} {nn4 : Nat}
  (a1 : hat h 18 (oC 2 [.ref 19, .ref 20, .int f_first_1, .int f_kept_2, .int f_marked_3]))
  (n2 : h.1 = nn4)
  (n3 : nn4 < ev_big)
  (k1 : Ev G d 3 70 M_St_init 0 [.ref nn4] [] (hpush h (oC 6 [.int (0 : Int32), .int (0 : Int32), .null, .int (0 : Int32), .null, .null, .null])) (fun r h1 => Ev G (d + 1) k n M_Hi_init 56 [.ref 18, .int x1] (r.toList ++ [.ref nn4, .int x1, .ref 19]) h1 R))
  : Ev G (d + 1) ((3 + k) + 1) ((70 + n) + 7) M_Hi_init 44 [.ref 18, .int x1] [] h R :=
  Ev.go (pc' := 45) (ls' := [.ref 18, .int x1]) (st' := [.ref 18]) [.aload_n 0] (by decide +kernel) rfl <|
  Ev.getf f_Hi_11 (by decide +kernel) a1 rfl <|
  Ev.go (pc' := 49) (ls' := [.ref 18, .int x1]) (st' := [.int x1, .ref 19]) [.iload_n 1] (by decide +kernel) rfl <|
  Ev.new' (a := nn4) (fs := [.int (0 : Int32), .int (0 : Int32), .null, .int (0 : Int32), .null, .null, .null]) c_St q_Hi_9 n_St z_St (by decide +kernel) n2 n3 (by decide) (no_ref rfl) <|
  Ev.go (pc' := 53) (ls' := [.ref 18, .int x1]) (st' := [.ref nn4, .ref nn4, .int x1, .ref 19]) [.dup] (by decide +kernel) rfl <|
  Ev.cI (M' := M_St_init) (a := nn4) (as := []) (rest := [.ref nn4, .int x1, .ref 19]) l_Hi_30 M_St_init_ok M_St_init_in rfl rfl (by decide +kernel) rfl rfl (Nat.le_of_ble_eq_true rfl) (Nat.le_of_ble_eq_true rfl) k1
theorem b_Hi_init_56 {G : ev_G} {d k n : Nat} {h : ev_H} {R : Option Value → ev_H → Prop} {x1 : Int32} {y0 : Nat} {y1 : Int32} {y2 : Nat} {g1 : Nat → Option Nat} {j2 : Nat} {f_bits_3 : Int32} {f_parts_4 : Int32} {f_size_5 : Int32} {fv6 : Value}
  (a1 : hat h y0 (aS 12 g1))
  (a3 : hat h y2 (oC 6 [.int f_bits_3, .int f_parts_4, .ref (y2 + 1), .int f_size_5, .ref (y2 + 2), .ref (y2 + 3), fv6]))
  (i2 : ev_ix y1 j2 12)
  (e4 : y2 ≠ y0)
  (k1 : Ev G (d + 1) k n M_Hi_init 38 [.ref 18, .int (x1 + (1 : Int32))] [] (hset h y0 (aS 12 (va_up g1 j2 (some y2)))) R)
  : Ev G (d + 1) k n M_Hi_init 56 [.ref 18, .int x1] [.ref y2, .int y1, .ref y0] h R :=
  Ev.aast (j := j2) (by decide +kernel) a1 a3 i2 <| show Ev G (d + 1) _ _ M_Hi_init 57 [.ref 18, .int x1] [] (hset h y0 (aS 12 (va_up g1 j2 (some y2)))) R from
  Ev.go (pc' := 38) (ls' := [.ref 18, .int (x1 + (1 : Int32))]) (st' := []) [.iinc 1 (1), .goto (-22)] (by decide +kernel) rfl <|
  k1
theorem b_Hi_init_65 {G : ev_G} {d k n : Nat} {h : ev_H} {R : Option Value → ev_H → Prop} {x1 : Int32}
  (k1 : x1 < (3 : Int32) → Ev G (d + 1) k n M_Hi_init 70 [.ref 18, .int x1] [] h R)
  (k2 : ¬ x1 < (3 : Int32) → R none h)
  : Ev G (d + 1) k n M_Hi_init 65 [.ref 18, .int x1] [] h R :=
  Ev.go (pc' := 67) (ls' := [.ref 18, .int x1]) (st' := [.int (3 : Int32), .int x1]) [.iload_n 1, .iconst 3] (by decide +kernel) rfl <|
  Ev.br (i := .if_icmp .ge (22)) (P := x1 < (3 : Int32)) (t := 70) (f := 89) (r := []) (by decide +kernel) rfl (fun c1 =>
    (k1 c1)
  ) (fun c1 =>
    Ev.ret (r := none) (Or.inr (Or.inr (Or.inl ⟨rfl, by decide +kernel, rfl⟩))) (k2 c1)
  )
theorem b_Hi_init_70 {G : ev_G} {d k n : Nat} {h : ev_H} {R : Option Value → ev_H → Prop} {x1 : Int32} {f_first_1 : Int32} {f_kept_2 : Int32} {f_marked_3 : Int32} {nn4 : Nat}
  (a1 : hat h 18 (oC 2 [.ref 19, .ref 20, .int f_first_1, .int f_kept_2, .int f_marked_3]))
  (n2 : h.1 = nn4)
  (n3 : nn4 < ev_big)
  (k1 : Ev G d 3 70 M_St_init 0 [.ref nn4] [] (hpush h (oC 6 [.int (0 : Int32), .int (0 : Int32), .null, .int (0 : Int32), .null, .null, .null])) (fun r h1 => Ev G (d + 1) k n M_Hi_init 82 [.ref 18, .int x1] (r.toList ++ [.ref nn4, .int x1, .ref 20]) h1 R))
  : Ev G (d + 1) ((3 + k) + 1) ((70 + n) + 7) M_Hi_init 70 [.ref 18, .int x1] [] h R :=
  Ev.go (pc' := 71) (ls' := [.ref 18, .int x1]) (st' := [.ref 18]) [.aload_n 0] (by decide +kernel) rfl <|
  Ev.getf f_Hi_17 (by decide +kernel) a1 rfl <|
  Ev.go (pc' := 75) (ls' := [.ref 18, .int x1]) (st' := [.int x1, .ref 20]) [.iload_n 1] (by decide +kernel) rfl <|
  Ev.new' (a := nn4) (fs := [.int (0 : Int32), .int (0 : Int32), .null, .int (0 : Int32), .null, .null, .null]) c_St q_Hi_9 n_St z_St (by decide +kernel) n2 n3 (by decide) (no_ref rfl) <|
  Ev.go (pc' := 79) (ls' := [.ref 18, .int x1]) (st' := [.ref nn4, .ref nn4, .int x1, .ref 20]) [.dup] (by decide +kernel) rfl <|
  Ev.cI (M' := M_St_init) (a := nn4) (as := []) (rest := [.ref nn4, .int x1, .ref 20]) l_Hi_30 M_St_init_ok M_St_init_in rfl rfl (by decide +kernel) rfl rfl (Nat.le_of_ble_eq_true rfl) (Nat.le_of_ble_eq_true rfl) k1
theorem b_Hi_init_82 {G : ev_G} {d k n : Nat} {h : ev_H} {R : Option Value → ev_H → Prop} {x1 : Int32} {y0 : Nat} {y1 : Int32} {y2 : Nat} {g1 : Nat → Option Nat} {j2 : Nat} {f_bits_3 : Int32} {f_parts_4 : Int32} {f_size_5 : Int32} {fv6 : Value}
  (a1 : hat h y0 (aS 3 g1))
  (a3 : hat h y2 (oC 6 [.int f_bits_3, .int f_parts_4, .ref (y2 + 1), .int f_size_5, .ref (y2 + 2), .ref (y2 + 3), fv6]))
  (i2 : ev_ix y1 j2 3)
  (e4 : y2 ≠ y0)
  (k1 : Ev G (d + 1) k n M_Hi_init 65 [.ref 18, .int (x1 + (1 : Int32))] [] (hset h y0 (aS 3 (va_up g1 j2 (some y2)))) R)
  : Ev G (d + 1) k n M_Hi_init 82 [.ref 18, .int x1] [.ref y2, .int y1, .ref y0] h R :=
  Ev.aast (j := j2) (by decide +kernel) a1 a3 i2 <| show Ev G (d + 1) _ _ M_Hi_init 83 [.ref 18, .int x1] [] (hset h y0 (aS 3 (va_up g1 j2 (some y2)))) R from
  Ev.go (pc' := 65) (ls' := [.ref 18, .int (x1 + (1 : Int32))]) (st' := []) [.iinc 1 (1), .goto (-21)] (by decide +kernel) rfl <|
  k1
theorem b_Re_init_0 {G : ev_G} {d k n : Nat} {h : ev_H} {R : Option Value → ev_H → Prop} {nn1 : Nat}
  (n1 : h.1 = nn1)
  (n2 : nn1 < ev_big)
  (k1 : Ev G d 5 1500 M_Sp_init 0 [.ref nn1] [] (hpush h (oC 5 [.null, .null, .null, .null, .null, .int (0 : Int32)])) (fun r h1 => Ev G (d + 1) k n M_Re_init 12 [.ref 5] (r.toList ++ [.ref nn1, .ref 5]) h1 R))
  : Ev G (d + 1) ((5 + k) + 1) ((1500 + n) + 6) M_Re_init 0 [.ref 5] [] h R :=
  Ev.go (pc' := 1) (ls' := [.ref 5]) (st' := [.ref 5]) [.aload_n 0] (by decide +kernel) rfl <|
  Ev.objI lL_Re_3 w_objN w_objC (Nat.le_of_ble_eq_true rfl) (by decide +kernel) <|
  Ev.go (pc' := 5) (ls' := [.ref 5]) (st' := [.ref 5]) [.aload_n 0] (by decide +kernel) rfl <|
  Ev.new' (a := nn1) (fs := [.null, .null, .null, .null, .null, .int (0 : Int32)]) c_Sp q_Re_9 n_Sp z_Sp (by decide +kernel) n1 n2 (by decide) (no_ref rfl) <|
  Ev.go (pc' := 9) (ls' := [.ref 5]) (st' := [.ref nn1, .ref nn1, .ref 5]) [.dup] (by decide +kernel) rfl <|
  Ev.cIN (M' := M_Sp_init) (a := nn1) (as := []) (rest := [.ref nn1, .ref 5]) l_Re_11 M_Sp_init_ok M_Sp_init_in rfl rfl (by decide +kernel) rfl rfl (Nat.le_of_ble_eq_true rfl) (Nat.le_of_ble_eq_true rfl) k1
theorem b_Re_init_12 {G : ev_G} {d k n : Nat} {h : ev_H} {R : Option Value → ev_H → Prop} {fv1 : Value} {fv2 : Value} {fv3 : Value} {fv4 : Value} {f_length_5 : Int32} {f_kind_6 : Int32} {f_start_7 : Int32} {f_end_8 : Int32} {nn9 : Nat}
  (a1 : hat h 5 (oC 4 [fv1, fv2, fv3, fv4, .int f_length_5, .int f_kind_6, .int f_start_7, .int f_end_8]))
  (n2 : (hset h 5 (oC 4 [.ref 6, fv2, fv3, fv4, .int f_length_5, .int f_kind_6, .int f_start_7, .int f_end_8])).1 = nn9)
  (n3 : nn9 < ev_big)
  (k1 : Ev G d 1 900 M_Ta_init 0 [.ref nn9] [] (hpush (hset h 5 (oC 4 [.ref 6, fv2, fv3, fv4, .int f_length_5, .int f_kind_6, .int f_start_7, .int f_end_8])) (oC 7 [.null, .int (0 : Int32)])) (fun r h1 => Ev G (d + 1) k n M_Re_init 23 [.ref 5] (r.toList ++ [.ref nn9, .ref 5]) h1 R))
  : Ev G (d + 1) ((1 + k) + 1) ((900 + n) + 2) M_Re_init 12 [.ref 5] [.ref 6, .ref 5] h R :=
  Ev.putf f_Re_12 (by decide +kernel) a1 (Nat.le_of_ble_eq_true rfl) rfl (fun _ => ⟨rfl, _, rfl, rfl⟩) <| show Ev G (d + 1) _ _ M_Re_init 15 [.ref 5] [] (hset h 5 (oC 4 [.ref 6, fv2, fv3, fv4, .int f_length_5, .int f_kind_6, .int f_start_7, .int f_end_8])) R from
  Ev.go (pc' := 16) (ls' := [.ref 5]) (st' := [.ref 5]) [.aload_n 0] (by decide +kernel) rfl <|
  Ev.new' (a := nn9) (fs := [.null, .int (0 : Int32)]) c_Ta q_Re_18 n_Ta z_Ta (by decide +kernel) n2 n3 (by decide) (no_ref rfl) <|
  Ev.go (pc' := 20) (ls' := [.ref 5]) (st' := [.ref nn9, .ref nn9, .ref 5]) [.dup] (by decide +kernel) rfl <|
  Ev.cIN (M' := M_Ta_init) (a := nn9) (as := []) (rest := [.ref nn9, .ref 5]) l_Re_20 M_Ta_init_ok M_Ta_init_in rfl rfl (by decide +kernel) rfl rfl (Nat.le_of_ble_eq_true rfl) (Nat.le_of_ble_eq_true rfl) k1
theorem b_Re_init_23 {G : ev_G} {d k n : Nat} {h : ev_H} {R : Option Value → ev_H → Prop} {fv1 : Value} {fv2 : Value} {fv3 : Value} {fv4 : Value} {f_length_5 : Int32} {f_kind_6 : Int32} {f_start_7 : Int32} {f_end_8 : Int32} {nn9 : Nat}
  (a1 : hat h 5 (oC 4 [fv1, fv2, fv3, fv4, .int f_length_5, .int f_kind_6, .int f_start_7, .int f_end_8]))
  (n2 : (hset h 5 (oC 4 [fv1, .ref 12, fv3, fv4, .int f_length_5, .int f_kind_6, .int f_start_7, .int f_end_8])).1 = nn9)
  (n3 : nn9 < ev_big)
  (k1 : Ev G d 3 70 M_St_init 0 [.ref nn9] [] (hpush (hset h 5 (oC 4 [fv1, .ref 12, fv3, fv4, .int f_length_5, .int f_kind_6, .int f_start_7, .int f_end_8])) (oC 6 [.int (0 : Int32), .int (0 : Int32), .null, .int (0 : Int32), .null, .null, .null])) (fun r h1 => Ev G (d + 1) k n M_Re_init 34 [.ref 5] (r.toList ++ [.ref nn9, .ref 5]) h1 R))
  : Ev G (d + 1) ((3 + k) + 1) ((70 + n) + 7) M_Re_init 23 [.ref 5] [.ref 12, .ref 5] h R :=
  Ev.putf f_Re_21 (by decide +kernel) a1 (Nat.le_of_ble_eq_true rfl) rfl (fun _ => ⟨rfl, _, rfl, rfl⟩) <| show Ev G (d + 1) _ _ M_Re_init 26 [.ref 5] [] (hset h 5 (oC 4 [fv1, .ref 12, fv3, fv4, .int f_length_5, .int f_kind_6, .int f_start_7, .int f_end_8])) R from
  Ev.go (pc' := 27) (ls' := [.ref 5]) (st' := [.ref 5]) [.aload_n 0] (by decide +kernel) rfl <|
  Ev.new' (a := nn9) (fs := [.int (0 : Int32), .int (0 : Int32), .null, .int (0 : Int32), .null, .null, .null]) c_St q_Re_25 n_St z_St (by decide +kernel) n2 n3 (by decide) (no_ref rfl) <|
  Ev.go (pc' := 31) (ls' := [.ref 5]) (st' := [.ref nn9, .ref nn9, .ref 5]) [.dup] (by decide +kernel) rfl <|
  Ev.cI (M' := M_St_init) (a := nn9) (as := []) (rest := [.ref nn9, .ref 5]) l_Re_27 M_St_init_ok M_St_init_in rfl rfl (by decide +kernel) rfl rfl (Nat.le_of_ble_eq_true rfl) (Nat.le_of_ble_eq_true rfl) k1
theorem b_Re_init_34 {G : ev_G} {d k n : Nat} {h : ev_H} {R : Option Value → ev_H → Prop} {y1 : Nat} {fv1 : Value} {fv2 : Value} {f_length_3 : Int32} {f_kind_4 : Int32} {f_start_5 : Int32} {f_end_6 : Int32} {f_size_7 : Int32}
  (a1 : hat h 5 (oC 4 [.ref 6, .ref 12, fv1, fv2, .int f_length_3, .int f_kind_4, .int f_start_5, .int f_end_6]))
  (a2 : hat h 12 (oC 7 [.ref 13, .int f_size_7]))
  (k1 : R none (hset (hset (hset (hset (hset (hset h 5 (oC 4 [.ref 6, .ref 12, .ref y1, fv2, .int f_length_3, .int f_kind_4, .int f_start_5, .int f_end_6])) 5 (oC 4 [.ref 6, .ref 12, .ref y1, .ref 13, .int f_length_3, .int f_kind_4, .int f_start_5, .int f_end_6])) 5 (oC 4 [.ref 6, .ref 12, .ref y1, .ref 13, .int (0 : Int32), .int f_kind_4, .int f_start_5, .int f_end_6])) 5 (oC 4 [.ref 6, .ref 12, .ref y1, .ref 13, .int (0 : Int32), .int (0 : Int32), .int f_start_5, .int f_end_6])) 5 (oC 4 [.ref 6, .ref 12, .ref y1, .ref 13, .int (0 : Int32), .int (0 : Int32), .int (0 : Int32), .int f_end_6])) 5 (oC 4 [.ref 6, .ref 12, .ref y1, .ref 13, .int (0 : Int32), .int (0 : Int32), .int (0 : Int32), .int (0 : Int32)])))
  : Ev G (d + 1) k n M_Re_init 34 [.ref 5] [.ref y1, .ref 5] h R :=
  Ev.putf f_Re_28 (by decide +kernel) a1 (Nat.le_of_ble_eq_true rfl) rfl (fun _ => ⟨rfl, _, rfl, rfl⟩) <| show Ev G (d + 1) _ _ M_Re_init 37 [.ref 5] [] (hset h 5 (oC 4 [.ref 6, .ref 12, .ref y1, fv2, .int f_length_3, .int f_kind_4, .int f_start_5, .int f_end_6])) R from
  Ev.go (pc' := 39) (ls' := [.ref 5]) (st' := [.ref 5, .ref 5]) [.aload_n 0, .aload_n 0] (by decide +kernel) rfl <|
  Ev.getf f_Re_21 (by decide +kernel) (hat_set a1) rfl <|
  Ev.getf f_Re_32 (by decide +kernel) (hat_ne a2 (by decide)) rfl <|
  Ev.putf f_Re_36 (by decide +kernel) (hat_set a1) (Nat.le_of_ble_eq_true rfl) rfl (fun _ => ⟨rfl, _, rfl, rfl⟩) <| show Ev G (d + 1) _ _ M_Re_init 48 [.ref 5] [] (hset (hset h 5 (oC 4 [.ref 6, .ref 12, .ref y1, fv2, .int f_length_3, .int f_kind_4, .int f_start_5, .int f_end_6])) 5 (oC 4 [.ref 6, .ref 12, .ref y1, .ref 13, .int f_length_3, .int f_kind_4, .int f_start_5, .int f_end_6])) R from
  Ev.go (pc' := 50) (ls' := [.ref 5]) (st' := [.int (0 : Int32), .ref 5]) [.aload_n 0, .iconst 0] (by decide +kernel) rfl <|
  Ev.putf f_Re_39 (by decide +kernel) (hat_set (hat_set a1)) (Nat.le_of_ble_eq_true rfl) rfl (fun q => nomatch q) <| show Ev G (d + 1) _ _ M_Re_init 53 [.ref 5] [] (hset (hset (hset h 5 (oC 4 [.ref 6, .ref 12, .ref y1, fv2, .int f_length_3, .int f_kind_4, .int f_start_5, .int f_end_6])) 5 (oC 4 [.ref 6, .ref 12, .ref y1, .ref 13, .int f_length_3, .int f_kind_4, .int f_start_5, .int f_end_6])) 5 (oC 4 [.ref 6, .ref 12, .ref y1, .ref 13, .int (0 : Int32), .int f_kind_4, .int f_start_5, .int f_end_6])) R from
  Ev.go (pc' := 55) (ls' := [.ref 5]) (st' := [.int (0 : Int32), .ref 5]) [.aload_n 0, .iconst 0] (by decide +kernel) rfl <|
  Ev.putf f_Re_43 (by decide +kernel) (hat_set (hat_set (hat_set a1))) (Nat.le_of_ble_eq_true rfl) rfl (fun q => nomatch q) <| show Ev G (d + 1) _ _ M_Re_init 58 [.ref 5] [] (hset (hset (hset (hset h 5 (oC 4 [.ref 6, .ref 12, .ref y1, fv2, .int f_length_3, .int f_kind_4, .int f_start_5, .int f_end_6])) 5 (oC 4 [.ref 6, .ref 12, .ref y1, .ref 13, .int f_length_3, .int f_kind_4, .int f_start_5, .int f_end_6])) 5 (oC 4 [.ref 6, .ref 12, .ref y1, .ref 13, .int (0 : Int32), .int f_kind_4, .int f_start_5, .int f_end_6])) 5 (oC 4 [.ref 6, .ref 12, .ref y1, .ref 13, .int (0 : Int32), .int (0 : Int32), .int f_start_5, .int f_end_6])) R from
  Ev.go (pc' := 60) (ls' := [.ref 5]) (st' := [.int (0 : Int32), .ref 5]) [.aload_n 0, .iconst 0] (by decide +kernel) rfl <|
  Ev.putf f_Re_46 (by decide +kernel) (hat_set (hat_set (hat_set (hat_set a1)))) (Nat.le_of_ble_eq_true rfl) rfl (fun q => nomatch q) <| show Ev G (d + 1) _ _ M_Re_init 63 [.ref 5] [] (hset (hset (hset (hset (hset h 5 (oC 4 [.ref 6, .ref 12, .ref y1, fv2, .int f_length_3, .int f_kind_4, .int f_start_5, .int f_end_6])) 5 (oC 4 [.ref 6, .ref 12, .ref y1, .ref 13, .int f_length_3, .int f_kind_4, .int f_start_5, .int f_end_6])) 5 (oC 4 [.ref 6, .ref 12, .ref y1, .ref 13, .int (0 : Int32), .int f_kind_4, .int f_start_5, .int f_end_6])) 5 (oC 4 [.ref 6, .ref 12, .ref y1, .ref 13, .int (0 : Int32), .int (0 : Int32), .int f_start_5, .int f_end_6])) 5 (oC 4 [.ref 6, .ref 12, .ref y1, .ref 13, .int (0 : Int32), .int (0 : Int32), .int (0 : Int32), .int f_end_6])) R from
  Ev.go (pc' := 65) (ls' := [.ref 5]) (st' := [.int (0 : Int32), .ref 5]) [.aload_n 0, .iconst 0] (by decide +kernel) rfl <|
  Ev.putf f_Re_49 (by decide +kernel) (hat_set (hat_set (hat_set (hat_set (hat_set a1))))) (Nat.le_of_ble_eq_true rfl) rfl (fun q => nomatch q) <| show Ev G (d + 1) _ _ M_Re_init 68 [.ref 5] [] (hset (hset (hset (hset (hset (hset h 5 (oC 4 [.ref 6, .ref 12, .ref y1, fv2, .int f_length_3, .int f_kind_4, .int f_start_5, .int f_end_6])) 5 (oC 4 [.ref 6, .ref 12, .ref y1, .ref 13, .int f_length_3, .int f_kind_4, .int f_start_5, .int f_end_6])) 5 (oC 4 [.ref 6, .ref 12, .ref y1, .ref 13, .int (0 : Int32), .int f_kind_4, .int f_start_5, .int f_end_6])) 5 (oC 4 [.ref 6, .ref 12, .ref y1, .ref 13, .int (0 : Int32), .int (0 : Int32), .int f_start_5, .int f_end_6])) 5 (oC 4 [.ref 6, .ref 12, .ref y1, .ref 13, .int (0 : Int32), .int (0 : Int32), .int (0 : Int32), .int f_end_6])) 5 (oC 4 [.ref 6, .ref 12, .ref y1, .ref 13, .int (0 : Int32), .int (0 : Int32), .int (0 : Int32), .int (0 : Int32)])) R from
  Ev.ret (r := none) (Or.inr (Or.inr (Or.inl ⟨rfl, by decide +kernel, rfl⟩))) k1
theorem b_X_init_0 {G : ev_G} {d k n : Nat} {h : ev_H} {R : Option Value → ev_H → Prop} {nn1 : Nat}
  (n1 : h.1 = nn1)
  (n2 : nn1 < ev_big)
  (k1 : Ev G d 3 70 M_St_init 0 [.ref nn1] [] (hpush h (oC 6 [.int (0 : Int32), .int (0 : Int32), .null, .int (0 : Int32), .null, .null, .null])) (fun r h1 => Ev G (d + 1) k n M_X_init 12 [.ref 0] (r.toList ++ [.ref nn1, .ref 0]) h1 R))
  : Ev G (d + 1) ((3 + k) + 1) ((70 + n) + 7) M_X_init 0 [.ref 0] [] h R :=
  Ev.go (pc' := 1) (ls' := [.ref 0]) (st' := [.ref 0]) [.aload_n 0] (by decide +kernel) rfl <|
  Ev.objI lL_X_1 w_objN w_objC (Nat.le_of_ble_eq_true rfl) (by decide +kernel) <|
  Ev.go (pc' := 5) (ls' := [.ref 0]) (st' := [.ref 0]) [.aload_n 0] (by decide +kernel) rfl <|
  Ev.new' (a := nn1) (fs := [.int (0 : Int32), .int (0 : Int32), .null, .int (0 : Int32), .null, .null, .null]) c_St q_X_7 n_St z_St (by decide +kernel) n1 n2 (by decide) (no_ref rfl) <|
  Ev.go (pc' := 9) (ls' := [.ref 0]) (st' := [.ref nn1, .ref nn1, .ref 0]) [.dup] (by decide +kernel) rfl <|
  Ev.cI (M' := M_St_init) (a := nn1) (as := []) (rest := [.ref nn1, .ref 0]) l_X_9 M_St_init_ok M_St_init_in rfl rfl (by decide +kernel) rfl rfl (Nat.le_of_ble_eq_true rfl) (Nat.le_of_ble_eq_true rfl) k1
theorem b_X_init_12 {G : ev_G} {d k n : Nat} {h : ev_H} {R : Option Value → ev_H → Prop} {y1 : Nat} {fv1 : Value} {fv2 : Value} {fv3 : Value} {fv4 : Value} {fv5 : Value} {f_latest_6 : Int32} {f_faultKind_7 : Int32} {f_faultPlace_8 : Int32} {nn9 : Nat}
  (a1 : hat h 0 (oC 8 [fv1, fv2, fv3, fv4, fv5, .int f_latest_6, .int f_faultKind_7, .int f_faultPlace_8]))
  (n2 : (hset h 0 (oC 8 [.ref y1, fv2, fv3, fv4, fv5, .int f_latest_6, .int f_faultKind_7, .int f_faultPlace_8])).1 = nn9)
  (n3 : nn9 < ev_big)
  (k1 : Ev G d 12 2485 M_Re_init 0 [.ref nn9] [] (hpush (hset h 0 (oC 8 [.ref y1, fv2, fv3, fv4, fv5, .int f_latest_6, .int f_faultKind_7, .int f_faultPlace_8])) (oC 4 [.null, .null, .null, .null, .int (0 : Int32), .int (0 : Int32), .int (0 : Int32), .int (0 : Int32)])) (fun r h1 => Ev G (d + 1) k n M_X_init 23 [.ref 0] (r.toList ++ [.ref nn9, .ref 0]) h1 R))
  : Ev G (d + 1) ((12 + k) + 1) ((2485 + n) + 8) M_X_init 12 [.ref 0] [.ref y1, .ref 0] h R :=
  Ev.putf f_X_10 (by decide +kernel) a1 (Nat.le_of_ble_eq_true rfl) rfl (fun _ => ⟨rfl, _, rfl, rfl⟩) <| show Ev G (d + 1) _ _ M_X_init 15 [.ref 0] [] (hset h 0 (oC 8 [.ref y1, fv2, fv3, fv4, fv5, .int f_latest_6, .int f_faultKind_7, .int f_faultPlace_8])) R from
  Ev.go (pc' := 16) (ls' := [.ref 0]) (st' := [.ref 0]) [.aload_n 0] (by decide +kernel) rfl <|
  Ev.new' (a := nn9) (fs := [.null, .null, .null, .null, .int (0 : Int32), .int (0 : Int32), .int (0 : Int32), .int (0 : Int32)]) c_Re q_X_16 n_Re z_Re (by decide +kernel) n2 n3 (by decide) (no_ref rfl) <|
  Ev.go (pc' := 20) (ls' := [.ref 0]) (st' := [.ref nn9, .ref nn9, .ref 0]) [.dup] (by decide +kernel) rfl <|
  Ev.cIN (M' := M_Re_init) (a := nn9) (as := []) (rest := [.ref nn9, .ref 0]) l_X_18 M_Re_init_ok M_Re_init_in rfl rfl (by decide +kernel) rfl rfl (Nat.le_of_ble_eq_true rfl) (Nat.le_of_ble_eq_true rfl) k1
theorem b_X_init_23 {G : ev_G} {d k n : Nat} {h : ev_H} {R : Option Value → ev_H → Prop} {fv1 : Value} {fv2 : Value} {fv3 : Value} {fv4 : Value} {fv5 : Value} {f_latest_6 : Int32} {f_faultKind_7 : Int32} {f_faultPlace_8 : Int32} {nn9 : Nat}
  (a1 : hat h 0 (oC 8 [fv1, fv2, fv3, fv4, fv5, .int f_latest_6, .int f_faultKind_7, .int f_faultPlace_8]))
  (n2 : (hset h 0 (oC 8 [fv1, .ref 5, fv3, fv4, fv5, .int f_latest_6, .int f_faultKind_7, .int f_faultPlace_8])).1 = nn9)
  (n3 : nn9 < ev_big)
  (k1 : Ev G d 62 1170 M_Hi_init 0 [.ref nn9, ev_unk] [] (hpush (hset h 0 (oC 8 [fv1, .ref 5, fv3, fv4, fv5, .int f_latest_6, .int f_faultKind_7, .int f_faultPlace_8])) (oC 2 [.null, .null, .int (0 : Int32), .int (0 : Int32), .int (0 : Int32)])) (fun r h1 => Ev G (d + 1) k n M_X_init 34 [.ref 0] (r.toList ++ [.ref nn9, .ref 0]) h1 R))
  : Ev G (d + 1) ((62 + k) + 1) ((1170 + n) + 5) M_X_init 23 [.ref 0] [.ref 5, .ref 0] h R :=
  Ev.putf f_X_19 (by decide +kernel) a1 (Nat.le_of_ble_eq_true rfl) rfl (fun _ => ⟨rfl, _, rfl, rfl⟩) <| show Ev G (d + 1) _ _ M_X_init 26 [.ref 0] [] (hset h 0 (oC 8 [fv1, .ref 5, fv3, fv4, fv5, .int f_latest_6, .int f_faultKind_7, .int f_faultPlace_8])) R from
  Ev.go (pc' := 27) (ls' := [.ref 0]) (st' := [.ref 0]) [.aload_n 0] (by decide +kernel) rfl <|
  Ev.new' (a := nn9) (fs := [.null, .null, .int (0 : Int32), .int (0 : Int32), .int (0 : Int32)]) c_Hi q_X_23 n_Hi z_Hi (by decide +kernel) n2 n3 (by decide) (no_ref rfl) <|
  Ev.go (pc' := 31) (ls' := [.ref 0]) (st' := [.ref nn9, .ref nn9, .ref 0]) [.dup] (by decide +kernel) rfl <|
  Ev.cI (M' := M_Hi_init) (a := nn9) (as := []) (rest := [.ref nn9, .ref 0]) l_X_25 M_Hi_init_ok M_Hi_init_in rfl rfl (by decide +kernel) rfl rfl (Nat.le_of_ble_eq_true rfl) (Nat.le_of_ble_eq_true rfl) k1
theorem b_X_init_34 {G : ev_G} {d k n : Nat} {h : ev_H} {R : Option Value → ev_H → Prop} {fv1 : Value} {fv2 : Value} {fv3 : Value} {fv4 : Value} {fv5 : Value} {f_latest_6 : Int32} {f_faultKind_7 : Int32} {f_faultPlace_8 : Int32} {nn9 : Nat}
  (a1 : hat h 0 (oC 8 [fv1, fv2, fv3, fv4, fv5, .int f_latest_6, .int f_faultKind_7, .int f_faultPlace_8]))
  (n2 : (hset h 0 (oC 8 [fv1, fv2, .ref 18, fv4, fv5, .int f_latest_6, .int f_faultKind_7, .int f_faultPlace_8])).1 = nn9)
  (n3 : nn9 < ev_big)
  (k1 : Ev G d 16 480 M_Bu_init 0 [.ref nn9] [] (hpush (hset h 0 (oC 8 [fv1, fv2, .ref 18, fv4, fv5, .int f_latest_6, .int f_faultKind_7, .int f_faultPlace_8])) (oC 0 [.null, .int (0 : Int32), .null, .null, .null])) (fun r h1 => Ev G (d + 1) k n M_X_init 45 [.ref 0] (r.toList ++ [.ref nn9, .ref 0]) h1 R))
  : Ev G (d + 1) ((16 + k) + 1) ((480 + n) + 5) M_X_init 34 [.ref 0] [.ref 18, .ref 0] h R :=
  Ev.putf f_X_26 (by decide +kernel) a1 (Nat.le_of_ble_eq_true rfl) rfl (fun _ => ⟨rfl, _, rfl, rfl⟩) <| show Ev G (d + 1) _ _ M_X_init 37 [.ref 0] [] (hset h 0 (oC 8 [fv1, fv2, .ref 18, fv4, fv5, .int f_latest_6, .int f_faultKind_7, .int f_faultPlace_8])) R from
  Ev.go (pc' := 38) (ls' := [.ref 0]) (st' := [.ref 0]) [.aload_n 0] (by decide +kernel) rfl <|
  Ev.new' (a := nn9) (fs := [.null, .int (0 : Int32), .null, .null, .null]) c_Bu q_X_30 n_Bu z_Bu (by decide +kernel) n2 n3 (by decide) (no_ref rfl) <|
  Ev.go (pc' := 42) (ls' := [.ref 0]) (st' := [.ref nn9, .ref nn9, .ref 0]) [.dup] (by decide +kernel) rfl <|
  Ev.cIN (M' := M_Bu_init) (a := nn9) (as := []) (rest := [.ref nn9, .ref 0]) l_X_32 M_Bu_init_ok M_Bu_init_in rfl rfl (by decide +kernel) rfl rfl (Nat.le_of_ble_eq_true rfl) (Nat.le_of_ble_eq_true rfl) k1
theorem b_X_init_45 {G : ev_G} {d k n : Nat} {h : ev_H} {R : Option Value → ev_H → Prop} {fv1 : Value} {fv2 : Value} {fv3 : Value} {fv4 : Value} {fv5 : Value} {f_latest_6 : Int32} {f_faultKind_7 : Int32} {f_faultPlace_8 : Int32} {nn9 : Nat}
  (a1 : hat h 0 (oC 8 [fv1, fv2, fv3, fv4, fv5, .int f_latest_6, .int f_faultKind_7, .int f_faultPlace_8]))
  (n2 : (hset h 0 (oC 8 [fv1, fv2, fv3, .ref 81, fv5, .int f_latest_6, .int f_faultKind_7, .int f_faultPlace_8])).1 = nn9)
  (n3 : nn9 < ev_big)
  (k1 : Ev G d 3 96 M_Ra_init 0 [.ref nn9] [] (hpush (hset h 0 (oC 8 [fv1, fv2, fv3, .ref 81, fv5, .int f_latest_6, .int f_faultKind_7, .int f_faultPlace_8])) (oC 3 [.null, .null, .null, .int (0 : Int32)])) (fun r h1 => Ev G (d + 1) k n M_X_init 56 [.ref 0] (r.toList ++ [.ref nn9, .ref 0]) h1 R))
  : Ev G (d + 1) ((3 + k) + 1) ((96 + n) + 4) M_X_init 45 [.ref 0] [.ref 81, .ref 0] h R :=
  Ev.putf f_X_33 (by decide +kernel) a1 (Nat.le_of_ble_eq_true rfl) rfl (fun _ => ⟨rfl, _, rfl, rfl⟩) <| show Ev G (d + 1) _ _ M_X_init 48 [.ref 0] [] (hset h 0 (oC 8 [fv1, fv2, fv3, .ref 81, fv5, .int f_latest_6, .int f_faultKind_7, .int f_faultPlace_8])) R from
  Ev.go (pc' := 49) (ls' := [.ref 0]) (st' := [.ref 0]) [.aload_n 0] (by decide +kernel) rfl <|
  Ev.new' (a := nn9) (fs := [.null, .null, .null, .int (0 : Int32)]) c_Ra q_X_37 n_Ra z_Ra (by decide +kernel) n2 n3 (by decide) (no_ref rfl) <|
  Ev.go (pc' := 53) (ls' := [.ref 0]) (st' := [.ref nn9, .ref nn9, .ref 0]) [.dup] (by decide +kernel) rfl <|
  Ev.cIN (M' := M_Ra_init) (a := nn9) (as := []) (rest := [.ref nn9, .ref 0]) l_X_39 M_Ra_init_ok M_Ra_init_in rfl rfl (by decide +kernel) rfl rfl (Nat.le_of_ble_eq_true rfl) (Nat.le_of_ble_eq_true rfl) k1
theorem b_X_init_56 {G : ev_G} {d k n : Nat} {h : ev_H} {R : Option Value → ev_H → Prop} {fv1 : Value} {fv2 : Value} {fv3 : Value} {fv4 : Value} {fv5 : Value} {f_latest_6 : Int32} {f_faultKind_7 : Int32} {f_faultPlace_8 : Int32}
  (a1 : hat h 0 (oC 8 [fv1, fv2, fv3, fv4, fv5, .int f_latest_6, .int f_faultKind_7, .int f_faultPlace_8]))
  (k1 : R none (hset (hset (hset (hset h 0 (oC 8 [fv1, fv2, fv3, fv4, .ref 98, .int f_latest_6, .int f_faultKind_7, .int f_faultPlace_8])) 0 (oC 8 [fv1, fv2, fv3, fv4, .ref 98, .int (0 : Int32), .int f_faultKind_7, .int f_faultPlace_8])) 0 (oC 8 [fv1, fv2, fv3, fv4, .ref 98, .int (0 : Int32), .int (-1 : Int32), .int f_faultPlace_8])) 0 (oC 8 [fv1, fv2, fv3, fv4, .ref 98, .int (0 : Int32), .int (-1 : Int32), .int (-1 : Int32)])))
  : Ev G (d + 1) k n M_X_init 56 [.ref 0] [.ref 98, .ref 0] h R :=
  Ev.putf f_X_40 (by decide +kernel) a1 (Nat.le_of_ble_eq_true rfl) rfl (fun _ => ⟨rfl, _, rfl, rfl⟩) <| show Ev G (d + 1) _ _ M_X_init 59 [.ref 0] [] (hset h 0 (oC 8 [fv1, fv2, fv3, fv4, .ref 98, .int f_latest_6, .int f_faultKind_7, .int f_faultPlace_8])) R from
  Ev.go (pc' := 61) (ls' := [.ref 0]) (st' := [.int (0 : Int32), .ref 0]) [.aload_n 0, .iconst 0] (by decide +kernel) rfl <|
  Ev.putf f_X_44 (by decide +kernel) (hat_set a1) (Nat.le_of_ble_eq_true rfl) rfl (fun q => nomatch q) <| show Ev G (d + 1) _ _ M_X_init 64 [.ref 0] [] (hset (hset h 0 (oC 8 [fv1, fv2, fv3, fv4, .ref 98, .int f_latest_6, .int f_faultKind_7, .int f_faultPlace_8])) 0 (oC 8 [fv1, fv2, fv3, fv4, .ref 98, .int (0 : Int32), .int f_faultKind_7, .int f_faultPlace_8])) R from
  Ev.go (pc' := 66) (ls' := [.ref 0]) (st' := [.int (-1 : Int32), .ref 0]) [.aload_n 0, .iconst (-1)] (by decide +kernel) rfl <|
  Ev.putf f_X_48 (by decide +kernel) (hat_set (hat_set a1)) (Nat.le_of_ble_eq_true rfl) rfl (fun q => nomatch q) <| show Ev G (d + 1) _ _ M_X_init 69 [.ref 0] [] (hset (hset (hset h 0 (oC 8 [fv1, fv2, fv3, fv4, .ref 98, .int f_latest_6, .int f_faultKind_7, .int f_faultPlace_8])) 0 (oC 8 [fv1, fv2, fv3, fv4, .ref 98, .int (0 : Int32), .int f_faultKind_7, .int f_faultPlace_8])) 0 (oC 8 [fv1, fv2, fv3, fv4, .ref 98, .int (0 : Int32), .int (-1 : Int32), .int f_faultPlace_8])) R from
  Ev.go (pc' := 71) (ls' := [.ref 0]) (st' := [.int (-1 : Int32), .ref 0]) [.aload_n 0, .iconst (-1)] (by decide +kernel) rfl <|
  Ev.putf f_X_51 (by decide +kernel) (hat_set (hat_set (hat_set a1))) (Nat.le_of_ble_eq_true rfl) rfl (fun q => nomatch q) <| show Ev G (d + 1) _ _ M_X_init 74 [.ref 0] [] (hset (hset (hset (hset h 0 (oC 8 [fv1, fv2, fv3, fv4, .ref 98, .int f_latest_6, .int f_faultKind_7, .int f_faultPlace_8])) 0 (oC 8 [fv1, fv2, fv3, fv4, .ref 98, .int (0 : Int32), .int f_faultKind_7, .int f_faultPlace_8])) 0 (oC 8 [fv1, fv2, fv3, fv4, .ref 98, .int (0 : Int32), .int (-1 : Int32), .int f_faultPlace_8])) 0 (oC 8 [fv1, fv2, fv3, fv4, .ref 98, .int (0 : Int32), .int (-1 : Int32), .int (-1 : Int32)])) R from
  Ev.ret (r := none) (Or.inr (Or.inr (Or.inl ⟨rfl, by decide +kernel, rfl⟩))) k1
section S42
variable {G : ev_G} {d : Nat} {h : ev_H} {R : Option Value → ev_H → Prop}
theorem s_Ta_init {v : Value} {s : Int32} (H : hat h 12 (oC 7 [v, .int s])) (n : h.1 = 13) (hR : ∀ h', h'.1 = 14 → Kg h h' 12 14 → TaR h' 0 (fun _ => 0) → R none h') : Ev G (d + 1) 1 900 M_Ta_init 0 [.ref 12] [] h R := by
  refine b_Ta_init_0 (k := 0) (n := 0) H n (by unfold ev_big; omega) (by omega) (hR _ (congrArg (· + 1) n) ((((Kg.refl h 12 14).push _).set (k := 12) _ (by omega) (by omega)).set (k := 12) _ (by omega) (by omega)) ⟨hat_set (hat_set (hat_push H)), hat_ne (hat_ne (hat_at n (hat_pushed h _)) (by omega)) (by omega)⟩)
theorem s_Sp_init {v1 v2 v3 v4 v5 : Value} {s : Int32} (H : hat h 6 (oC 5 [v1, v2, v3, v4, v5, .int s])) (n : h.1 = 7) (hR : ∀ h', h'.1 = 12 → Kg h h' 6 12 → SpX h' → R none h') : Ev G (d + 1) 5 1500 M_Sp_init 0 [.ref 6] [] h R := by
  refine b_Sp_init_0 (k := 0) (n := 0) H n (by unfold ev_big; omega) (by omega) (by unfold ev_big; omega) (by omega) (by unfold ev_big; omega) (by omega) (by unfold ev_big; omega) (by omega) (by unfold ev_big; omega) (by omega) (hR _ (congrArg (· + 5) n) ?_ ⟨[], Nat.zero_le _, (fun _ => 0), (fun _ => 0), (fun _ => 0), (fun _ => 0), (fun _ => 0), ?_, ?_, ?_, ?_, ?_, ?_, fun i s z => by cases z⟩)
  · exact ((((((((((Kg.refl h 6 12).push _).set (k := 6) _ (by omega) (by omega)).push _).set (k := 6) _ (by omega) (by omega)).push _).set (k := 6) _ (by omega) (by omega)).push _).set (k := 6) _ (by omega) (by omega)).push _).set (k := 6) _ (by omega) (by omega) |>.set (k := 6) _ (by omega) (by omega)
  · exact hat_set (hat_set (hat_push (hat_set (hat_push (hat_set (hat_push (hat_set (hat_push (hat_set (hat_push H))))))))))
  · exact hat_ne (hat_ne (hat_push (hat_ne (hat_push (hat_ne (hat_push (hat_ne (hat_push (hat_ne (hat_at n (hat_pushed h _)) (by omega))) (by omega))) (by omega))) (by omega))) (by omega)) (by omega)
  · exact hat_ne (hat_ne (hat_push (hat_ne (hat_push (hat_ne (hat_push (hat_ne (hat_at (congrArg (· + 1) n) (hat_pushed _ _)) (by omega))) (by omega))) (by omega))) (by omega)) (by omega)
  · exact hat_ne (hat_ne (hat_push (hat_ne (hat_push (hat_ne (hat_at (congrArg (· + 2) n) (hat_pushed _ _)) (by omega))) (by omega))) (by omega)) (by omega)
  · exact hat_ne (hat_ne (hat_push (hat_ne (hat_at (congrArg (· + 3) n) (hat_pushed _ _)) (by omega))) (by omega)) (by omega)
  · exact hat_ne (hat_ne (hat_at (congrArg (· + 4) n) (hat_pushed _ _)) (by omega)) (by omega)
theorem s_Ra_init {v1 v2 v3 : Value} {s : Int32} (H : hat h 98 (oC 3 [v1, v2, v3, .int s])) (n : h.1 = 99) (hR : ∀ h', h'.1 = 102 → Kg h h' 98 102 → RaX h' → R none h') : Ev G (d + 1) 3 96 M_Ra_init 0 [.ref 98] [] h R := by
  refine b_Ra_init_0 (k := 0) (n := 0) H n (by unfold ev_big; omega) (by omega) (by unfold ev_big; omega) (by omega) (by unfold ev_big; omega) (by omega) (hR _ (congrArg (· + 3) n) ?_ ⟨0, (fun _ => 0), (fun _ => 0), Nat.zero_le _, (fun _ => 0), (fun _ => 0), (fun _ => 0), ?_, ?_, ?_, ?_, fun j z => absurd z (Nat.not_lt_zero j)⟩)
  · exact ((((((Kg.refl h 98 102).push _).set (k := 98) _ (by omega) (by omega)).push _).set (k := 98) _ (by omega) (by omega)).push _).set (k := 98) _ (by omega) (by omega) |>.set (k := 98) _ (by omega) (by omega)
  · exact hat_set (hat_set (hat_push (hat_set (hat_push (hat_set (hat_push H))))))
  · exact hat_ne (hat_ne (hat_push (hat_ne (hat_push (hat_ne (hat_at n (hat_pushed h _)) (by omega))) (by omega))) (by omega)) (by omega)
  · exact hat_ne (hat_ne (hat_push (hat_ne (hat_at (congrArg (· + 1) n) (hat_pushed _ _)) (by omega))) (by omega)) (by omega)
  · exact hat_ne (hat_ne (hat_at (congrArg (· + 2) n) (hat_pushed _ _)) (by omega)) (by omega)
theorem s_Bu_init {v1 v3 v4 v5 : Value} {s : Int32} (H : hat h 81 (oC 0 [v1, .int s, v3, v4, v5])) (n : h.1 = 82) (hR : ∀ h', h'.1 = 98 → Kg h h' 81 98 → BuX h' → R none h') : Ev G (d + 1) 16 480 M_Bu_init 0 [.ref 81] [] h R := by
  refine b_Bu_init_0 (k := 0) (n := 0) H n (by unfold ev_big; omega) (by omega) (by unfold ev_big; omega) (by unfold ev_big; omega) (by unfold ev_big; omega) (by omega) (hR _ (congrArg (· + 16) n) ?_ ⟨1, (fun _ => 0), (fun _ _ => 0), 0, 0, 1, ?_⟩)
  · exact (((((((((Kg.refl h 81 98).push _).set (k := 81) _ (by omega) (by omega)).set (k := 81) _ (by omega) (by omega)).grid).set (k := 81) _ (by omega) (by omega)).grid).set (k := 81) _ (by omega) (by omega)).push _).set (k := 81) _ (by omega) (by omega)
  refine ⟨by omega, by omega, fun i _ => by show 0 ≤ 24; omega, ?_, ⟨(fun _ => 0), ?_, fun i _ => rfl⟩, ?_, ?_, fun i hi => ⟨(fun _ => 0), ?_, fun z => absurd z (Nat.not_lt_zero i)⟩, fun i hi => ⟨(fun _ => 0), ?_, fun z1 z2 => absurd z2 (by omega)⟩, (fun _ => 0), ?_⟩
  · exact hat_set (hat_push (hat_set (hgrid_old (hat_set (hgrid_old (hat_set (hat_set (hat_push H))))))))
  · exact hat_ne (hat_push (hat_ne (hgrid_old (hat_ne (hgrid_old (hat_ne (hat_ne (hat_at n (hat_pushed h _)) (by omega)) (by omega))) (by omega))) (by omega))) (by omega)
  · exact hat_ne (hat_push (hat_ne (hgrid_old (hat_ne (hgrid_g (congrArg (· + 1) n)) (by omega))) (by omega))) (by omega)
  · exact hat_ne (hat_push (hat_ne (hgrid_g (congrArg (· + 8) n)) (by omega))) (by omega)
  · exact hat_ne (hat_push (hat_ne (hgrid_old (hat_ne (hgrid_r (congrArg (· + 1) n) i hi) (by omega))) (by omega))) (by omega)
  · exact hat_ne (hat_push (hat_ne (hgrid_r (congrArg (· + 8) n) i hi) (by omega))) (by omega)
  · exact hat_ne (hat_at (congrArg (· + 15) n) (hat_pushed _ _)) (by omega)
theorem s_St_init {a : Nat} {b p s : Int32} {v1 v2 v3 v4 : Value} (H : hat h a (oC 6 [.int b, .int p, v1, .int s, v2, v3, v4])) (n : h.1 = a + 1) (ha : a + 4 ≤ 126) (hR : ∀ h', h'.1 = a + 4 → Kg h h' a (a + 4) → StR h' a (halS emS) → R none h') : Ev G (d + 1) 3 70 M_St_init 0 [.ref a] [] h R := by
  refine b_St_init_0 (k := 0) (n := 0) H n (by unfold ev_big; omega) (by omega) (by unfold ev_big; omega) (by omega) (by unfold ev_big; omega) (by omega) ?_
  have K := (((((((((Kg.refl h a (a + 4)).set (k := a) (oC 6 [.int (16 : Int32), .int p, v1, .int s, v2, v3, v4]) (by omega) (by omega)).set (k := a) (oC 6 [.int (16 : Int32), .int (0 : Int32), v1, .int s, v2, v3, v4]) (by omega) (by omega)).push (aI 6 (fun _ => 0))).set (k := a) (oC 6 [.int (16 : Int32), .int (0 : Int32), .ref (a + 1), .int s, v2, v3, v4]) (by omega) (by omega)).set (k := a) (oC 6 [.int (16 : Int32), .int (0 : Int32), .ref (a + 1), .int (0 : Int32), v2, v3, v4]) (by omega) (by omega)).push (aL 32 (fun _ => 0))).set (k := a) (oC 6 [.int (16 : Int32), .int (0 : Int32), .ref (a + 1), .int (0 : Int32), .ref ((a + 1) + 1), v3, v4]) (by omega) (by omega)).push (aI 32 (fun _ => 0))).set (k := a) (oC 6 [.int (16 : Int32), .int (0 : Int32), .ref (a + 1), .int (0 : Int32), .ref ((a + 1) + 1), .ref (((a + 1) + 1) + 1), v4]) (by omega) (by omega) |>.set (k := a) (oC 6 [.int (16 : Int32), .int (0 : Int32), .ref (a + 1), .int (0 : Int32), .ref ((a + 1) + 1), .ref (((a + 1) + 1) + 1), .null]) (by omega) (by omega)
  refine s_St_halve (S := mkS 16 0 0 (fun _ => 0) (fun _ => 0) (fun _ => 0) []) ⟨(fun _ => 0), (fun _ => 0), (fun _ => 0), .null, ?_, ?_, ?_, ?_, fun i z => absurd z (Nat.not_lt_zero i), fun i z => absurd z (Nat.not_lt_zero i), Or.inl ⟨rfl, rfl⟩⟩ (by decide) ha fun h1 K1 s1 => ?_
  · exact hat_set (hat_set (hat_push (hat_set (hat_push (hat_set (hat_set (hat_push (hat_set (hat_set H)))))))))
  · exact hat_ne (hat_ne (hat_push (hat_ne (hat_push (hat_ne (hat_ne (hat_at (h := hset (hset h a _) a _) n (hat_pushed _ _)) (by omega)) (by omega))) (by omega))) (by omega)) (by omega)
  · exact hat_ne (hat_ne (hat_push (hat_ne (hat_at (congrArg (· + 1) n) (hat_pushed _ _)) (by omega))) (by omega)) (by omega)
  · exact hat_ne (hat_ne (hat_at (congrArg (· + 2) n) (hat_pushed _ _)) (by omega)) (by omega)
  · exact b_St_init_53 (hR h1 (by rw [K1.1]; exact congrArg (· + 3) n) (K.trans K1.g) (s1.congr rfl rfl rfl (fun i hi => rfl) (fun i hi => absurd hi (Nat.not_lt_zero i)) rfl))
def HiI (h : ev_H) (i j : Nat) : Prop := h.1 = 21 + 4 * (i + j) ∧ hat h 18 (oC 2 [.ref 19, .ref 20, .int 0, .int 0, .int 0]) ∧ ∃ ga gm : Nat → Option Nat, hat h 19 (aS 12 ga) ∧ hat h 20 (aS 3 gm) ∧ (∀ q, q < i → ga q = some (21 + 4 * q) ∧ ∃ T, StR h (21 + 4 * q) T) ∧ (∀ q, q < j → gm q = some (69 + 4 * q) ∧ ∃ T, StR h (69 + 4 * q) T)
theorem s_Hi_a : ∀ (m i : Nat) (h : ev_H) (R : Option Value → ev_H → Prop), i + m = 12 → HiI h i 0 → (∀ h', Kg h h' 18 81 → HiI h' 12 0 → Ev G (d + 2) 12 231 M_Hi_init 65 [.ref 18, .int 0] [] h' R) → Ev G (d + 2) (m * 4 + 12) (m * 77 + 231) M_Hi_init 38 [.ref 18, .int (nI i)] [] h R
  | 0, i, h, R, e, H, hR => by
    obtain rfl : i = 12 := by omega
    refine b_Hi_init_38 (fun c => absurd c (nI_nlt (b := 12) (Nat.le_refl _) (by omega))) (fun _ => ?_)
    exact (hR h (Kg.refl _ _ _) H).room (Nat.le_refl _) (by omega) (by omega)
  | m + 1, i, h, R, e, H, hR => by
    obtain ⟨n, o, ga, gm, l1, l2, g1, g2⟩ := H
    have hi : i < 12 := by omega
    refine b_Hi_init_38 (fun _ => ?_) (fun c => absurd (nI_lt (b := 12) hi (by omega)) c)
    have ek : (m + 1) * 4 + 12 = (3 + (m * 4 + 12)) + 1 := by omega
    have en : (m + 1) * 77 + 231 = (70 + (m * 77 + 231)) + 7 := by omega
    rw [ek, en]
    refine b_Hi_init_44 o n (by unfold ev_big; omega) ?_
    have K1 : Kg h (hpush h (oC 6 [.int (0 : Int32), .int (0 : Int32), .null, .int (0 : Int32), .null, .null, .null])) 18 81 := (Kg.refl h 18 81).push _
    refine s_St_init (hat_at n (hat_pushed h _)) (congrArg (· + 1) n) (by omega) fun h1 n1 K2 s1 => ?_
    have l11 := K2.hat (hat_push (c' := oC 6 [.int (0 : Int32), .int (0 : Int32), .null, .int (0 : Int32), .null, .null, .null]) l1) (by omega)
    obtain ⟨brf, tgf, cof, fv, t1, -⟩ := id s1
    refine b_Hi_init_56 (j2 := i) l11 t1 (ixn hi (by decide)) (by omega) ?_
    have ei : nI i + (1 : Int32) = nI (i + 1) := nI_1 i
    rw [ei]
    have K2' : Kg _ h1 18 81 := K2.wide (by omega) (by omega)
    have K3 : Kg h1 (hset h1 19 (aS 12 (va_up ga i (some (21 + 4 * (i + 0)))))) 19 20 := (Kg.refl h1 19 20).set _ (by omega) (by omega)
    have KK := (K1.trans K2').trans (K3.wide (by omega) (by omega))
    refine s_Hi_a m (i + 1) _ R (by omega) ⟨by show h1.1 = _; omega, K3.hat (K2.hat (hat_push o) (by omega)) (by omega), va_up ga i (some (21 + 4 * (i + 0))), gm, hat_set l11, K3.hat (K2.hat (hat_push l2) (by omega)) (by omega), fun q hq => ?_, fun q hq => absurd hq (Nat.not_lt_zero q)⟩ (fun h' K H' => hR h' (KK.trans K) H')
    unfold va_up
    by_cases c : q = i
    · subst c
      rw [if_pos rfl]
      exact ⟨rfl, _, s1.kg K3 (by omega) (by omega)⟩
    · rw [if_neg c]
      obtain ⟨a1, T, a2⟩ := g1 q (by omega)
      exact ⟨a1, T, ((a2.kg ((Kg.refl h (21 + 4 * (i + 0)) 126).push _) (by omega) (by omega)).kg K2 (by omega) (by omega)).kg K3 (by omega) (by omega)⟩
theorem s_Hi_b : ∀ (m j : Nat) (h : ev_H) (R : Option Value → ev_H → Prop), j + m = 3 → HiI h 12 j → (∀ h', Kg h h' 18 81 → HiI h' 12 3 → R none h') → Ev G (d + 2) (m * 4) (m * 77) M_Hi_init 65 [.ref 18, .int (nI j)] [] h R
  | 0, j, h, R, e, H, hR => by
    obtain rfl : j = 3 := by omega
    refine b_Hi_init_65 (fun c => absurd c (nI_nlt (b := 3) (Nat.le_refl _) (by omega))) (fun _ => hR h (Kg.refl _ _ _) H)
  | m + 1, j, h, R, e, H, hR => by
    obtain ⟨n, o, ga, gm, l1, l2, g1, g2⟩ := H
    have hj : j < 3 := by omega
    refine b_Hi_init_65 (fun _ => ?_) (fun c => absurd (nI_lt (b := 3) hj (by omega)) c)
    have ek : (m + 1) * 4 = (3 + m * 4) + 1 := by omega
    have en : (m + 1) * 77 = (70 + m * 77) + 7 := by omega
    have n : h.1 = 69 + 4 * j := by omega
    rw [ek, en]
    refine b_Hi_init_70 o n (by unfold ev_big; omega) ?_
    have K1 : Kg h (hpush h (oC 6 [.int (0 : Int32), .int (0 : Int32), .null, .int (0 : Int32), .null, .null, .null])) 18 81 := (Kg.refl h 18 81).push _
    refine s_St_init (hat_at n (hat_pushed h _)) (congrArg (· + 1) n) (by omega) fun h1 n1 K2 s1 => ?_
    have l21 := K2.hat (hat_push (c' := oC 6 [.int (0 : Int32), .int (0 : Int32), .null, .int (0 : Int32), .null, .null, .null]) l2) (by omega)
    obtain ⟨brf, tgf, cof, fv, t1, -⟩ := id s1
    refine b_Hi_init_82 (j2 := j) l21 t1 (ixn hj (by decide)) (by omega) ?_
    have ei : nI j + (1 : Int32) = nI (j + 1) := nI_1 j
    rw [ei]
    have K2' : Kg _ h1 18 81 := K2.wide (by omega) (by omega)
    have K3 : Kg h1 (hset h1 20 (aS 3 (va_up gm j (some (69 + 4 * j))))) 20 21 := (Kg.refl h1 20 21).set _ (by omega) (by omega)
    have KK := (K1.trans K2').trans (K3.wide (by omega) (by omega))
    refine s_Hi_b m (j + 1) _ R (by omega) ⟨by show h1.1 = _; omega, K3.hat (K2.hat (hat_push o) (by omega)) (by omega), ga, va_up gm j (some (69 + 4 * j)), K3.hat (K2.hat (hat_push l1) (by omega)) (by omega), hat_set l21, fun q hq => ?_, fun q hq => ?_⟩ (fun h' K H' => hR h' (KK.trans K) H')
    · obtain ⟨a1, T, a2⟩ := g1 q hq
      exact ⟨a1, T, ((a2.kg ((Kg.refl h (69 + 4 * j) 126).push _) (by omega) (by omega)).kg K2 (by omega) (by omega)).kg K3 (by omega) (by omega)⟩
    · unfold va_up
      by_cases c : q = j
      · subst c
        rw [if_pos rfl]
        exact ⟨rfl, _, s1.kg K3 (by omega) (by omega)⟩
      · rw [if_neg c]
        obtain ⟨a1, T, a2⟩ := g2 q (by omega)
        exact ⟨a1, T, ((a2.kg ((Kg.refl h (69 + 4 * j) 126).push _) (by omega) (by omega)).kg K2 (by omega) (by omega)).kg K3 (by omega) (by omega)⟩
theorem s_Hi_init {v1 v2 : Value} {a b c : Int32} (H : hat h 18 (oC 2 [v1, v2, .int a, .int b, .int c])) (n : h.1 = 19) (hR : ∀ h', h'.1 = 81 → Kg h h' 18 81 → HiR h' 0 (fun _ => emS) 0 (fun _ => emS) → R none h') : Ev G (d + 2) 62 1170 M_Hi_init 0 [.ref 18, ev_unk] [] h R := by
  refine b_Hi_init_0 (d := d + 1) (k := 60) (n := 1155) H n (by unfold ev_big; omega) (by omega) (by unfold ev_big; omega) (by omega) ?_
  have K1 : Kg h _ 18 81 := ((((((Kg.refl h 18 81).push (aS 12 (fun _ => none))).set (k := 18) (oC 2 [.ref 19, v2, .int a, .int b, .int c]) (by omega) (by omega)).push (aS 3 (fun _ => none))).set (k := 18) (oC 2 [.ref 19, .ref (19 + 1), .int a, .int b, .int c]) (by omega) (by omega)).set (k := 18) (oC 2 [.ref 19, .ref (19 + 1), .int (0 : Int32), .int b, .int c]) (by omega) (by omega)).set (k := 18) (oC 2 [.ref 19, .ref (19 + 1), .int (0 : Int32), .int (0 : Int32), .int c]) (by omega) (by omega) |>.set (k := 18) (oC 2 [.ref 19, .ref (19 + 1), .int (0 : Int32), .int (0 : Int32), .int (0 : Int32)]) (by omega) (by omega)
  refine s_Hi_a 12 0 _ R rfl ⟨congrArg (· + 2) n, hat_set (hat_set (hat_set (hat_set (hat_push (hat_set (hat_push H)))))), (fun _ => none), (fun _ => none), hat_ne (hat_ne (hat_ne (hat_ne (hat_push (hat_ne (hat_at n (hat_pushed h _)) (by omega))) (by omega)) (by omega)) (by omega)) (by omega), hat_ne (hat_ne (hat_ne (hat_ne (hat_at (congrArg (· + 1) n) (hat_pushed _ _)) (by omega)) (by omega)) (by omega)) (by omega), fun q hq => absurd hq (Nat.not_lt_zero q), fun q hq => absurd hq (Nat.not_lt_zero q)⟩ fun h1 K2 H1 => ?_
  refine s_Hi_b 3 0 h1 R rfl H1 fun h2 K3 H2 => ?_
  obtain ⟨n2, o, ga, gm, l1, l2, g1, g2⟩ := H2
  exact hR h2 n2 ((K1.trans K2).trans K3) ⟨0, ga, gm, by omega, by omega, by omega, o, l1, l2, g1, g2, fun i z => absurd z (Nat.not_lt_zero i), fun i z => absurd z (Nat.not_lt_zero i)⟩
theorem s_Re_init {v1 v2 v3 v4 : Value} {a b c e : Int32} (H : hat h 5 (oC 4 [v1, v2, v3, v4, .int a, .int b, .int c, .int e])) (n : h.1 = 6) (hR : ∀ h', h'.1 = 18 → Kg h h' 5 18 → TaR h' 0 (fun _ => 0) → ReR h' → SpX h' → StX h' → R none h') : Ev G (d + 2) 12 2485 M_Re_init 0 [.ref 5] [] h R := by
  refine b_Re_init_0 (d := d + 1) (k := 6) (n := 979) n (by unfold ev_big; omega) ?_
  refine s_Sp_init (d := d) (hat_at n (hat_pushed h _)) (congrArg (· + 1) n) fun h1 n1 K1 sp1 => ?_
  have K1' : Kg h h1 5 18 := ((Kg.refl h 5 18).push _).trans (K1.wide (by omega) (by omega))
  have HE1 := K1.hat (hat_push (c' := oC 5 [.null, .null, .null, .null, .null, .int (0 : Int32)]) H) (by omega)
  refine b_Re_init_12 (d := d + 1) (k := 4) (n := 77) HE1 n1 (by unfold ev_big; omega) ?_
  have K2 : Kg h1 (hset h1 5 (oC 4 [.ref 6, v2, v3, v4, .int a, .int b, .int c, .int e])) 5 6 := (Kg.refl h1 5 6).set _ (by omega) (by omega)
  have K2p : Kg h1 (hpush (hset h1 5 (oC 4 [.ref 6, v2, v3, v4, .int a, .int b, .int c, .int e])) (oC 7 [.null, .int (0 : Int32)])) 5 6 := K2.push _
  refine s_Ta_init (d := d) (hat_at (h := hset h1 5 _) n1 (hat_pushed _ _)) (congrArg (· + 1) n1) fun h2 n2 K3 ta2 => ?_
  have HE2 := K3.hat (hat_push (c' := oC 7 [.null, .int (0 : Int32)]) (hat_set (c' := oC 4 [.ref 6, v2, v3, v4, .int a, .int b, .int c, .int e]) HE1)) (by omega)
  have sp2 := (sp1.kg K2p (by omega)).kg K3 (by omega)
  have K3' := (K1'.trans (K2p.wide (by omega) (by omega))).trans (K3.wide (by omega) (by omega))
  refine b_Re_init_23 (d := d + 1) (k := 0) (n := 0) HE2 n2 (by unfold ev_big; omega) ?_
  have K4 : Kg h2 (hpush (hset h2 5 (oC 4 [.ref 6, .ref 12, v3, v4, .int a, .int b, .int c, .int e])) (oC 6 [.int (0 : Int32), .int (0 : Int32), .null, .int (0 : Int32), .null, .null, .null])) 5 6 := ((Kg.refl h2 5 6).set _ (by omega) (by omega)).push _
  refine s_St_init (d := d) (hat_at (h := hset h2 5 _) n2 (hat_pushed _ _)) (congrArg (· + 1) n2) (by omega) fun h3 n3 K5 st3 => ?_
  have HE3 := K5.hat (hat_push (c' := oC 6 [.int (0 : Int32), .int (0 : Int32), .null, .int (0 : Int32), .null, .null, .null]) (hat_set (c' := oC 4 [.ref 6, .ref 12, v3, v4, .int a, .int b, .int c, .int e]) HE2)) (by omega)
  have sp3 := (sp2.kg K4 (by omega)).kg K5 (by omega)
  have ta3 := (ta2.kg K4 (by omega)).kg K5 (by omega)
  have K5' := (K3'.trans (K4.wide (by omega) (by omega))).trans (K5.wide (by omega) (by omega))
  refine b_Re_init_34 (d := d + 1) HE3 ta3.1 ?_
  have K6 : Kg h3 _ 5 6 := ((((((Kg.refl h3 5 6).set (k := 5) (oC 4 [.ref 6, .ref 12, .ref 14, v4, .int a, .int b, .int c, .int e]) (by omega) (by omega)).set (k := 5) (oC 4 [.ref 6, .ref 12, .ref 14, .ref 13, .int a, .int b, .int c, .int e]) (by omega) (by omega)).set (k := 5) (oC 4 [.ref 6, .ref 12, .ref 14, .ref 13, .int (0 : Int32), .int b, .int c, .int e]) (by omega) (by omega)).set (k := 5) (oC 4 [.ref 6, .ref 12, .ref 14, .ref 13, .int (0 : Int32), .int (0 : Int32), .int c, .int e]) (by omega) (by omega)).set (k := 5) (oC 4 [.ref 6, .ref 12, .ref 14, .ref 13, .int (0 : Int32), .int (0 : Int32), .int (0 : Int32), .int e]) (by omega) (by omega)).set (k := 5) (oC 4 [.ref 6, .ref 12, .ref 14, .ref 13, .int (0 : Int32), .int (0 : Int32), .int (0 : Int32), .int (0 : Int32)]) (by omega) (by omega)
  exact hR _ n3 (K5'.trans (K6.wide (by omega) (by omega))) (ta3.kg K6 (by omega)) ⟨0, 0, 0, 0, hat_set (hat_set (hat_set (hat_set (hat_set (hat_set HE3)))))⟩ (sp3.kg K6 (by omega)) ⟨_, st3.kg K6 (by omega) (by omega)⟩
/-- the state at the beginning -/
def Q0 : QS := (halS emS, (0, fun _ => emS), (0, fun _ => emS), (0, fun _ => 0), (0, -1, -1))
def XW (h : ev_H) (Q : QS) : Prop := XO h (qL Q) (qFk Q) (qFp Q) ∧ StR h 1 (qS Q) ∧ HiR h (qKn Q) (qKa Q) (qMn Q) (qMa Q) ∧ TaR h (qTn Q) (qTg Q) ∧ BuX h ∧ RaX h ∧ ReR h ∧ SpX h ∧ StX h
theorem XW.xr {h h1 : ev_H} {Q : QS} (H : XW h Q) (gd : qGd Q) (K : Kg h h1 102 126) (n : 126 ≤ h1.1) : XR h1 Q := by
  obtain ⟨a, b, c, e, f, g, i, j, l⟩ := H
  exact ⟨gd, a.kg K (by omega), b.kg K (by omega) (by omega), c.kg K (by omega) (by omega), e.kg K (by omega), f.kg K (by omega), g.kg K (by omega), i.kg K (by omega), j.kg K (by omega), l.kg K (by omega) (by omega), n⟩
theorem s_X_init {v1 v2 v3 v4 v5 : Value} {a b c : Int32} (H : hat h 0 (oC 8 [v1, v2, v3, v4, v5, .int a, .int b, .int c])) (n : h.1 = 1) (hR : ∀ h', h'.1 = 102 → Kg h h' 0 102 → XW h' Q0 → R none h') : Ev G (d + 4) 101 4330 M_X_init 0 [.ref 0] [] h R := by
  refine b_X_init_0 (d := d + 3) (k := 97) (n := 4253) n (by unfold ev_big; omega) ?_
  have K1 : Kg h (hpush h (oC 6 [.int (0 : Int32), .int (0 : Int32), .null, .int (0 : Int32), .null, .null, .null])) 0 102 := (Kg.refl h 0 102).push _
  refine (s_St_init (d := 0) (hat_at n (hat_pushed h _)) (congrArg (· + 1) n) (by omega) fun h1 n1 K2 st1 => ?_).room (by omega) (Nat.le_refl _) (Nat.le_refl _)
  have x1 := K2.hat (hat_push (c' := oC 6 [.int (0 : Int32), .int (0 : Int32), .null, .int (0 : Int32), .null, .null, .null]) H) (by omega)
  have A1 := K1.trans (K2.wide (by omega) (by omega))
  clear K1 K2
  refine b_X_init_12 (d := d + 3) (k := 84) (n := 1760) x1 n1 (by unfold ev_big; omega) ?_
  have K3 : Kg h1 (hpush (hset h1 0 (oC 8 [.ref 1, v2, v3, v4, v5, .int a, .int b, .int c])) (oC 4 [.null, .null, .null, .null, .int (0 : Int32), .int (0 : Int32), .int (0 : Int32), .int (0 : Int32)])) 0 1 := ((Kg.refl h1 0 1).set _ (by omega) (by omega)).push _
  refine s_Re_init (d := d + 1) (hat_at (h := hset h1 0 _) n1 (hat_pushed _ _)) (congrArg (· + 1) n1) fun h2 n2 K4 ta2 re2 sp2 sx2 => ?_
  have x2 := K4.hat (hat_push (c' := oC 4 [.null, .null, .null, .null, .int (0 : Int32), .int (0 : Int32), .int (0 : Int32), .int (0 : Int32)]) (hat_set (c' := oC 8 [.ref 1, v2, v3, v4, v5, .int a, .int b, .int c]) x1)) (by omega)
  have st2 := (st1.kg K3 (by omega) (by omega)).kg K4 (by omega) (by omega)
  have A2 := (A1.trans (K3.wide (by omega) (by omega))).trans (K4.wide (by omega) (by omega))
  clear K3 K4 x1 st1 A1
  refine b_X_init_23 (d := d + 3) (k := 21) (n := 585) x2 n2 (by unfold ev_big; omega) ?_
  have K3 : Kg h2 (hpush (hset h2 0 (oC 8 [.ref 1, .ref 5, v3, v4, v5, .int a, .int b, .int c])) (oC 2 [.null, .null, .int (0 : Int32), .int (0 : Int32), .int (0 : Int32)])) 0 1 := ((Kg.refl h2 0 1).set _ (by omega) (by omega)).push _
  refine s_Hi_init (d := d + 1) (hat_at (h := hset h2 0 _) n2 (hat_pushed _ _)) (congrArg (· + 1) n2) fun h3 n3 K4 hi3 => ?_
  have x3 := K4.hat (hat_push (c' := oC 2 [.null, .null, .int (0 : Int32), .int (0 : Int32), .int (0 : Int32)]) (hat_set (c' := oC 8 [.ref 1, .ref 5, v3, v4, v5, .int a, .int b, .int c]) x2)) (by omega)
  have st3 := (st2.kg K3 (by omega) (by omega)).kg K4 (by omega) (by omega)
  have ta3 := (ta2.kg K3 (by omega)).kg K4 (by omega)
  have re3 := (re2.kg K3 (by omega)).kg K4 (by omega)
  have sp3 := (sp2.kg K3 (by omega)).kg K4 (by omega)
  have sx3 := (sx2.kg K3 (by omega) (by omega)).kg K4 (by omega) (by omega)
  have A3 := (A2.trans (K3.wide (by omega) (by omega))).trans (K4.wide (by omega) (by omega))
  clear K3 K4 x2 st2 A2 ta2 re2 sp2 sx2
  refine b_X_init_34 (d := d + 3) (k := 4) (n := 100) x3 n3 (by unfold ev_big; omega) ?_
  have K3 : Kg h3 (hpush (hset h3 0 (oC 8 [.ref 1, .ref 5, .ref 18, v4, v5, .int a, .int b, .int c])) (oC 0 [.null, .int (0 : Int32), .null, .null, .null])) 0 1 := ((Kg.refl h3 0 1).set _ (by omega) (by omega)).push _
  refine s_Bu_init (d := d + 2) (hat_at (h := hset h3 0 _) n3 (hat_pushed _ _)) (congrArg (· + 1) n3) fun h4 n4 K4 bu4 => ?_
  have x4 := K4.hat (hat_push (c' := oC 0 [.null, .int (0 : Int32), .null, .null, .null]) (hat_set (c' := oC 8 [.ref 1, .ref 5, .ref 18, v4, v5, .int a, .int b, .int c]) x3)) (by omega)
  have st4 := (st3.kg K3 (by omega) (by omega)).kg K4 (by omega) (by omega)
  have ta4 := (ta3.kg K3 (by omega)).kg K4 (by omega)
  have re4 := (re3.kg K3 (by omega)).kg K4 (by omega)
  have sp4 := (sp3.kg K3 (by omega)).kg K4 (by omega)
  have sx4 := (sx3.kg K3 (by omega) (by omega)).kg K4 (by omega) (by omega)
  have hi4 := (hi3.kg K3 (by omega) (by omega)).kg K4 (by omega) (by omega)
  have A4 := (A3.trans (K3.wide (by omega) (by omega))).trans (K4.wide (by omega) (by omega))
  clear K3 K4 x3 st3 A3 ta3 re3 sp3 sx3 hi3
  refine b_X_init_45 (d := d + 3) (k := 0) (n := 0) x4 n4 (by unfold ev_big; omega) ?_
  have K3 : Kg h4 (hpush (hset h4 0 (oC 8 [.ref 1, .ref 5, .ref 18, .ref 81, v5, .int a, .int b, .int c])) (oC 3 [.null, .null, .null, .int (0 : Int32)])) 0 1 := ((Kg.refl h4 0 1).set _ (by omega) (by omega)).push _
  refine s_Ra_init (d := d + 2) (hat_at (h := hset h4 0 _) n4 (hat_pushed _ _)) (congrArg (· + 1) n4) fun h5 n5 K4 ra5 => ?_
  have x5 := K4.hat (hat_push (c' := oC 3 [.null, .null, .null, .int (0 : Int32)]) (hat_set (c' := oC 8 [.ref 1, .ref 5, .ref 18, .ref 81, v5, .int a, .int b, .int c]) x4)) (by omega)
  refine b_X_init_56 (d := d + 3) x5 ?_
  have K6 : Kg h5 (hset (hset (hset (hset h5 0 (oC 8 [.ref 1, .ref 5, .ref 18, .ref 81, .ref 98, .int a, .int b, .int c])) 0 (oC 8 [.ref 1, .ref 5, .ref 18, .ref 81, .ref 98, .int (0 : Int32), .int b, .int c])) 0 (oC 8 [.ref 1, .ref 5, .ref 18, .ref 81, .ref 98, .int (0 : Int32), .int (-1 : Int32), .int c])) 0 (oC 8 [.ref 1, .ref 5, .ref 18, .ref 81, .ref 98, .int (0 : Int32), .int (-1 : Int32), .int (-1 : Int32)])) 0 1 := ((((Kg.refl h5 0 1).set _ (by omega) (by omega)).set _ (by omega) (by omega)).set _ (by omega) (by omega)).set _ (by omega) (by omega)
  refine hR _ n5 (((A4.trans (K3.wide (by omega) (by omega))).trans (K4.wide (by omega) (by omega))).trans (K6.wide (by omega) (by omega))) ⟨hat_set (hat_set (hat_set (hat_set x5))), ?_, ?_, ?_, ?_, ra5.kg K6 (by omega), ?_, ?_, ?_⟩
  · exact ((st4.kg K3 (by omega) (by omega)).kg K4 (by omega) (by omega)).kg K6 (by omega) (by omega)
  · exact ((hi4.kg K3 (by omega) (by omega)).kg K4 (by omega) (by omega)).kg K6 (by omega) (by omega)
  · exact ((ta4.kg K3 (by omega)).kg K4 (by omega)).kg K6 (by omega)
  · exact ((bu4.kg K3 (by omega)).kg K4 (by omega)).kg K6 (by omega)
  · exact ((re4.kg K3 (by omega)).kg K4 (by omega)).kg K6 (by omega)
  · exact ((sp4.kg K3 (by omega)).kg K4 (by omega)).kg K6 (by omega)
  · exact ((sx4.kg K3 (by omega) (by omega)).kg K4 (by omega) (by omega)).kg K6 (by omega) (by omega)
theorem Q0_gd : qGd Q0 := by
  have g : sGd (halS emS) := hal_gd (by decide) (by decide) rfl rfl
  exact ⟨g, fun i z => absurd z (Nat.not_lt_zero i), fun i z => absurd z (Nat.not_lt_zero i), by decide, by decide, by decide, fun i z => absurd z (Nat.not_lt_zero i)⟩
end S42
