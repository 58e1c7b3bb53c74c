/-! TAPE, STEPS, HISTORY -/
theorem b_Ta_put_0 {G : ev_G} {d k n : Nat} {h : ev_H} {R : Option Value → ev_H → Prop} {x1 : Int32}
  (k1 : Ev G d k n M_Ta_put 3 [.ref 12, .int x1, .int (24 : Int32)] [] h R)
  : Ev G d k n M_Ta_put 0 [.ref 12, .int x1, ev_unk] [] h R :=
  Ev.go (pc' := 3) (ls' := [.ref 12, .int x1, .int (24 : Int32)]) (st' := []) [.bipush (24), .istore_n 2] (by decide +kernel) rfl <|
  k1
theorem b_Ta_put_3 {G : ev_G} {d k n : Nat} {h : ev_H} {R : Option Value → ev_H → Prop} {x1 : Int32} {x2 : Int32} {f_size_1 : Int32} {g2 : Nat → Int32} {j3 : Nat}
  (a1 : hat h 12 (oC 7 [.ref 13, .int f_size_1]))
  (a2 : hat h 13 (aB 900 g2))
  (i3 : ¬ x2 < (0 : Int32) → f_size_1 < (900 : Int32) → ev_ix f_size_1 j3 900)
  (k1 : x2 < (0 : Int32) → R none h)
  (k2 : ¬ x2 < (0 : Int32) → f_size_1 < (900 : Int32) → Ev G d k n M_Ta_put 3 [.ref 12, .int x1, .int (x2 + (-8 : Int32))] [] (hset (hset h 13 (aB 900 (upd g2 j3 (vp_nar .byte (x1 >>> (x2 &&& 31)).toInt8.toInt32)))) 12 (oC 7 [.ref 13, .int (f_size_1 + (1 : Int32))])) R)
  (k3 : ¬ x2 < (0 : Int32) → ¬ f_size_1 < (900 : Int32) → R none h)
  : Ev G d k n M_Ta_put 3 [.ref 12, .int x1, .int x2] [] h R :=
  Ev.go (pc' := 4) (ls' := [.ref 12, .int x1, .int x2]) (st' := [.int x2]) [.iload_n 2] (by decide +kernel) rfl <|
  Ev.br (i := .ifCond .lt (42)) (P := x2 < (0 : Int32)) (t := 46) (f := 7) (r := []) (by decide +kernel) rfl (fun c1 =>
    Ev.ret (r := none) (Or.inr (Or.inr (Or.inl ⟨rfl, by decide +kernel, rfl⟩))) (k1 c1)
  ) (fun c1 =>
    Ev.go (pc' := 8) (ls' := [.ref 12, .int x1, .int x2]) (st' := [.ref 12]) [.aload_n 0] (by decide +kernel) rfl <|
    Ev.getf f_Ta_15 (by decide +kernel) a1 rfl <|
    Ev.go (pc' := 14) (ls' := [.ref 12, .int x1, .int x2]) (st' := [.int (900 : Int32), .int f_size_1]) [.sipush (900)] (by decide +kernel) rfl <|
    Ev.br (i := .if_icmp .ge (32)) (P := f_size_1 < (900 : Int32)) (t := 17) (f := 46) (r := []) (by decide +kernel) rfl (fun c2 =>
      Ev.go (pc' := 18) (ls' := [.ref 12, .int x1, .int x2]) (st' := [.ref 12]) [.aload_n 0] (by decide +kernel) rfl <|
      Ev.getf f_Ta_9 (by decide +kernel) a1 rfl <|
      Ev.go (pc' := 22) (ls' := [.ref 12, .int x1, .int x2]) (st' := [.ref 12, .ref 13]) [.aload_n 0] (by decide +kernel) rfl <|
      Ev.getf f_Ta_15 (by decide +kernel) a1 rfl <|
      Ev.go (pc' := 29) (ls' := [.ref 12, .int x1, .int x2]) (st' := [.int (x1 >>> (x2 &&& 31)).toInt8.toInt32, .int f_size_1, .ref 13]) [.iload_n 1, .iload_n 2, .ishr, .i2b] (by decide +kernel) rfl <|
      Ev.bast (j := j3) (by decide +kernel) a2 (i3 c1 c2) <| show Ev G d _ _ M_Ta_put 30 [.ref 12, .int x1, .int x2] [] (hset h 13 (aB 900 (upd g2 j3 (vp_nar .byte (x1 >>> (x2 &&& 31)).toInt8.toInt32)))) R from
      Ev.go (pc' := 32) (ls' := [.ref 12, .int x1, .int x2]) (st' := [.ref 12, .ref 12]) [.aload_n 0, .dup] (by decide +kernel) rfl <|
      Ev.getf f_Ta_15 (by decide +kernel) (hat_ne a1 (by decide)) rfl <|
      Ev.go (pc' := 37) (ls' := [.ref 12, .int x1, .int x2]) (st' := [.int (f_size_1 + (1 : Int32)), .ref 12]) [.iconst 1, .iadd] (by decide +kernel) rfl <|
      Ev.putf f_Ta_15 (by decide +kernel) (hat_ne a1 (by decide)) (Nat.le_of_ble_eq_true rfl) rfl (fun q => nomatch q) <| show Ev G d _ _ M_Ta_put 40 [.ref 12, .int x1, .int x2] [] (hset (hset h 13 (aB 900 (upd g2 j3 (vp_nar .byte (x1 >>> (x2 &&& 31)).toInt8.toInt32)))) 12 (oC 7 [.ref 13, .int (f_size_1 + (1 : Int32))])) R from
      Ev.go (pc' := 3) (ls' := [.ref 12, .int x1, .int (x2 + (-8 : Int32))]) (st' := []) [.iinc 2 (-8), .goto (-40)] (by decide +kernel) rfl <|
      (k2 c1 c2)
    ) (fun c2 =>
      Ev.ret (r := none) (Or.inr (Or.inr (Or.inl ⟨rfl, by decide +kernel, rfl⟩))) (k3 c1 c2)
    )
  )
theorem b_Sp_put_0 {G : ev_G} {d k n : Nat} {h : ev_H} {R : Option Value → ev_H → Prop} {x1 : Int32} {x2 : Int32} {x3 : Int32} {x4 : Int32} {x5 : Int64} {f_size_1 : Int32} {g2 : Nat → Int32} {j3 : Nat} {g4 : Nat → Int32} {g5 : Nat → Int32} {g6 : Nat → Int32} {g7 : Nat → Int64}
  (a1 : hat h 6 (oC 5 [.ref 7, .ref 8, .ref 9, .ref 10, .ref 11, .int f_size_1]))
  (a2 : hat h 7 (aI 300 g2))
  (a4 : hat h 8 (aI 300 g4))
  (a5 : hat h 9 (aI 300 g5))
  (a6 : hat h 10 (aI 300 g6))
  (a7 : hat h 11 (aL 300 g7))
  (i3 : f_size_1 < (300 : Int32) → ev_ix f_size_1 j3 300)
  (k1 : f_size_1 < (300 : Int32) → R none (hset (hset (hset (hset (hset (hset h 7 (aI 300 (upd g2 j3 x1))) 8 (aI 300 (upd g4 j3 x2))) 9 (aI 300 (upd g5 j3 x3))) 10 (aI 300 (upd g6 j3 x4))) 11 (aL 300 (vp_updL g7 j3 x5))) 6 (oC 5 [.ref 7, .ref 8, .ref 9, .ref 10, .ref 11, .int (f_size_1 + (1 : Int32))])))
  (k2 : ¬ f_size_1 < (300 : Int32) → R none h)
  : Ev G d k n M_Sp_put 0 [.ref 6, .int x1, .int x2, .int x3, .int x4, .long x5, ev_unk] [] h R :=
  Ev.go (pc' := 1) (ls' := [.ref 6, .int x1, .int x2, .int x3, .int x4, .long x5, ev_unk]) (st' := [.ref 6]) [.aload_n 0] (by decide +kernel) rfl <|
  Ev.getf f_Sp_28 (by decide +kernel) a1 rfl <|
  Ev.go (pc' := 7) (ls' := [.ref 6, .int x1, .int x2, .int x3, .int x4, .long x5, ev_unk]) (st' := [.int (300 : Int32), .int f_size_1]) [.sipush (300)] (by decide +kernel) rfl <|
  Ev.br (i := .if_icmp .ge (65)) (P := f_size_1 < (300 : Int32)) (t := 10) (f := 72) (r := []) (by decide +kernel) rfl (fun c1 =>
    Ev.go (pc' := 11) (ls' := [.ref 6, .int x1, .int x2, .int x3, .int x4, .long x5, ev_unk]) (st' := [.ref 6]) [.aload_n 0] (by decide +kernel) rfl <|
    Ev.getf f_Sp_11 (by decide +kernel) a1 rfl <|
    Ev.go (pc' := 15) (ls' := [.ref 6, .int x1, .int x2, .int x3, .int x4, .long x5, ev_unk]) (st' := [.ref 6, .ref 7]) [.aload_n 0] (by decide +kernel) rfl <|
    Ev.getf f_Sp_28 (by decide +kernel) a1 rfl <|
    Ev.go (pc' := 19) (ls' := [.ref 6, .int x1, .int x2, .int x3, .int x4, .long x5, ev_unk]) (st' := [.int x1, .int f_size_1, .ref 7]) [.iload_n 1] (by decide +kernel) rfl <|
    Ev.iast (j := j3) (by decide +kernel) a2 (i3 c1) <| show Ev G d _ _ M_Sp_put 20 [.ref 6, .int x1, .int x2, .int x3, .int x4, .long x5, ev_unk] [] (hset h 7 (aI 300 (upd g2 j3 x1))) R from
    Ev.go (pc' := 21) (ls' := [.ref 6, .int x1, .int x2, .int x3, .int x4, .long x5, ev_unk]) (st' := [.ref 6]) [.aload_n 0] (by decide +kernel) rfl <|
    Ev.getf f_Sp_15 (by decide +kernel) (hat_ne a1 (by decide)) rfl <|
    Ev.go (pc' := 25) (ls' := [.ref 6, .int x1, .int x2, .int x3, .int x4, .long x5, ev_unk]) (st' := [.ref 6, .ref 8]) [.aload_n 0] (by decide +kernel) rfl <|
    Ev.getf f_Sp_28 (by decide +kernel) (hat_ne a1 (by decide)) rfl <|
    Ev.go (pc' := 29) (ls' := [.ref 6, .int x1, .int x2, .int x3, .int x4, .long x5, ev_unk]) (st' := [.int x2, .int f_size_1, .ref 8]) [.iload_n 2] (by decide +kernel) rfl <|
    Ev.iast (j := j3) (by decide +kernel) (hat_ne a4 (by decide)) (i3 c1) <| show Ev G d _ _ M_Sp_put 30 [.ref 6, .int x1, .int x2, .int x3, .int x4, .long x5, ev_unk] [] (hset (hset h 7 (aI 300 (upd g2 j3 x1))) 8 (aI 300 (upd g4 j3 x2))) R from
    Ev.go (pc' := 31) (ls' := [.ref 6, .int x1, .int x2, .int x3, .int x4, .long x5, ev_unk]) (st' := [.ref 6]) [.aload_n 0] (by decide +kernel) rfl <|
    Ev.getf f_Sp_18 (by decide +kernel) (hat_ne (hat_ne a1 (by decide)) (by decide)) rfl <|
    Ev.go (pc' := 35) (ls' := [.ref 6, .int x1, .int x2, .int x3, .int x4, .long x5, ev_unk]) (st' := [.ref 6, .ref 9]) [.aload_n 0] (by decide +kernel) rfl <|
    Ev.getf f_Sp_28 (by decide +kernel) (hat_ne (hat_ne a1 (by decide)) (by decide)) rfl <|
    Ev.go (pc' := 39) (ls' := [.ref 6, .int x1, .int x2, .int x3, .int x4, .long x5, ev_unk]) (st' := [.int x3, .int f_size_1, .ref 9]) [.iload_n 3] (by decide +kernel) rfl <|
    Ev.iast (j := j3) (by decide +kernel) (hat_ne (hat_ne a5 (by decide)) (by decide)) (i3 c1) <| show Ev G d _ _ M_Sp_put 40 [.ref 6, .int x1, .int x2, .int x3, .int x4, .long x5, ev_unk] [] (hset (hset (hset h 7 (aI 300 (upd g2 j3 x1))) 8 (aI 300 (upd g4 j3 x2))) 9 (aI 300 (upd g5 j3 x3))) R from
    Ev.go (pc' := 41) (ls' := [.ref 6, .int x1, .int x2, .int x3, .int x4, .long x5, ev_unk]) (st' := [.ref 6]) [.aload_n 0] (by decide +kernel) rfl <|
    Ev.getf f_Sp_21 (by decide +kernel) (hat_ne (hat_ne (hat_ne a1 (by decide)) (by decide)) (by decide)) rfl <|
    Ev.go (pc' := 45) (ls' := [.ref 6, .int x1, .int x2, .int x3, .int x4, .long x5, ev_unk]) (st' := [.ref 6, .ref 10]) [.aload_n 0] (by decide +kernel) rfl <|
    Ev.getf f_Sp_28 (by decide +kernel) (hat_ne (hat_ne (hat_ne a1 (by decide)) (by decide)) (by decide)) rfl <|
    Ev.go (pc' := 50) (ls' := [.ref 6, .int x1, .int x2, .int x3, .int x4, .long x5, ev_unk]) (st' := [.int x4, .int f_size_1, .ref 10]) [.iload 4] (by decide +kernel) rfl <|
    Ev.iast (j := j3) (by decide +kernel) (hat_ne (hat_ne (hat_ne a6 (by decide)) (by decide)) (by decide)) (i3 c1) <| show Ev G d _ _ M_Sp_put 51 [.ref 6, .int x1, .int x2, .int x3, .int x4, .long x5, ev_unk] [] (hset (hset (hset (hset h 7 (aI 300 (upd g2 j3 x1))) 8 (aI 300 (upd g4 j3 x2))) 9 (aI 300 (upd g5 j3 x3))) 10 (aI 300 (upd g6 j3 x4))) R from
    Ev.go (pc' := 52) (ls' := [.ref 6, .int x1, .int x2, .int x3, .int x4, .long x5, ev_unk]) (st' := [.ref 6]) [.aload_n 0] (by decide +kernel) rfl <|
    Ev.getf f_Sp_24 (by decide +kernel) (hat_ne (hat_ne (hat_ne (hat_ne a1 (by decide)) (by decide)) (by decide)) (by decide)) rfl <|
    Ev.go (pc' := 56) (ls' := [.ref 6, .int x1, .int x2, .int x3, .int x4, .long x5, ev_unk]) (st' := [.ref 6, .ref 11]) [.aload_n 0] (by decide +kernel) rfl <|
    Ev.getf f_Sp_28 (by decide +kernel) (hat_ne (hat_ne (hat_ne (hat_ne a1 (by decide)) (by decide)) (by decide)) (by decide)) rfl <|
    Ev.go (pc' := 61) (ls' := [.ref 6, .int x1, .int x2, .int x3, .int x4, .long x5, ev_unk]) (st' := [.long x5, .int f_size_1, .ref 11]) [.lload 5] (by decide +kernel) rfl <|
    Ev.last (j := j3) (by decide +kernel) (hat_ne (hat_ne (hat_ne (hat_ne a7 (by decide)) (by decide)) (by decide)) (by decide)) (i3 c1) <| show Ev G d _ _ M_Sp_put 62 [.ref 6, .int x1, .int x2, .int x3, .int x4, .long x5, ev_unk] [] (hset (hset (hset (hset (hset h 7 (aI 300 (upd g2 j3 x1))) 8 (aI 300 (upd g4 j3 x2))) 9 (aI 300 (upd g5 j3 x3))) 10 (aI 300 (upd g6 j3 x4))) 11 (aL 300 (vp_updL g7 j3 x5))) R from
    Ev.go (pc' := 64) (ls' := [.ref 6, .int x1, .int x2, .int x3, .int x4, .long x5, ev_unk]) (st' := [.ref 6, .ref 6]) [.aload_n 0, .dup] (by decide +kernel) rfl <|
    Ev.getf f_Sp_28 (by decide +kernel) (hat_ne (hat_ne (hat_ne (hat_ne (hat_ne a1 (by decide)) (by decide)) (by decide)) (by decide)) (by decide)) rfl <|
    Ev.go (pc' := 69) (ls' := [.ref 6, .int x1, .int x2, .int x3, .int x4, .long x5, ev_unk]) (st' := [.int (f_size_1 + (1 : Int32)), .ref 6]) [.iconst 1, .iadd] (by decide +kernel) rfl <|
    Ev.putf f_Sp_28 (by decide +kernel) (hat_ne (hat_ne (hat_ne (hat_ne (hat_ne a1 (by decide)) (by decide)) (by decide)) (by decide)) (by decide)) (Nat.le_of_ble_eq_true rfl) rfl (fun q => nomatch q) <| show Ev G d _ _ M_Sp_put 72 [.ref 6, .int x1, .int x2, .int x3, .int x4, .long x5, ev_unk] [] (hset (hset (hset (hset (hset (hset h 7 (aI 300 (upd g2 j3 x1))) 8 (aI 300 (upd g4 j3 x2))) 9 (aI 300 (upd g5 j3 x3))) 10 (aI 300 (upd g6 j3 x4))) 11 (aL 300 (vp_updL g7 j3 x5))) 6 (oC 5 [.ref 7, .ref 8, .ref 9, .ref 10, .ref 11, .int (f_size_1 + (1 : Int32))])) R from
    Ev.ret (r := none) (Or.inr (Or.inr (Or.inl ⟨rfl, by decide +kernel, rfl⟩))) (k1 c1)
  ) (fun c1 =>
    Ev.ret (r := none) (Or.inr (Or.inr (Or.inl ⟨rfl, by decide +kernel, rfl⟩))) (k2 c1)
  )
theorem b_Hi_keep_0 {G : ev_G} {d k n : Nat} {h : ev_H} {R : Option Value → ev_H → Prop} {x1 : Nat} {f_first_1 : Int32} {f_kept_2 : Int32} {f_marked_3 : Int32} {g4 : Nat → Option Nat} {j5 : Nat} {b6 : Nat}
  (a1 : hat h 18 (oC 2 [.ref 19, .ref 20, .int f_first_1, .int f_kept_2, .int f_marked_3]))
  (a2 : hat h 19 (aS 12 g4))
  (i3 : ev_ix ((f_first_1 + f_kept_2) - (f_first_1 + f_kept_2) / (12 : Int32) * (12 : Int32)) j5 12)
  (gg4 : g4 j5 = some b6)
  (r5 : ∃ fs, hat h b6 (oC 6 fs))
  (k1 : Ev G d 0 0 M_St_become 0 [.ref b6, .ref x1] [] h (fun r h1 => Ev G (d + 1) k n M_Hi_keep 21 [.ref 18, .ref x1] (r.toList ++ []) h1 R))
  : Ev G (d + 1) k n M_Hi_keep 0 [.ref 18, .ref x1] [] h R :=
  Ev.go (pc' := 1) (ls' := [.ref 18, .ref x1]) (st' := [.ref 18]) [.aload_n 0] (by decide +kernel) rfl <|
  Ev.getf f_Hi_11 (by decide +kernel) a1 rfl <|
  Ev.go (pc' := 5) (ls' := [.ref 18, .ref x1]) (st' := [.ref 18, .ref 19]) [.aload_n 0] (by decide +kernel) rfl <|
  Ev.getf f_Hi_20 (by decide +kernel) a1 rfl <|
  Ev.go (pc' := 9) (ls' := [.ref 18, .ref x1]) (st' := [.ref 18, .int f_first_1, .ref 19]) [.aload_n 0] (by decide +kernel) rfl <|
  Ev.getf f_Hi_24 (by decide +kernel) a1 rfl <|
  Ev.go (pc' := 15) (ls' := [.ref 18, .ref x1]) (st' := [.int (12 : Int32), .int (f_first_1 + f_kept_2), .ref 19]) [.iadd, .bipush (12)] (by decide +kernel) rfl <|
  Ev.irem (by decide +kernel) (by decide) <|
  Ev.sald (j := j5) (by decide +kernel) a2 i3 gg4 <|
  Ev.go (pc' := 18) (ls' := [.ref 18, .ref x1]) (st' := [.ref x1, .ref b6]) [.aload_n 1] (by decide +kernel) rfl <|
  Ev.cV0 (M' := M_St_become) (as := [.ref x1]) (rest := []) l_Hi_31 M_St_become_ok M_St_become_in M_St_become_se (by decide +kernel) r5 rfl rfl rfl (Nat.le_of_ble_eq_true rfl) (Nat.le_of_ble_eq_true rfl) k1
theorem b_Hi_keep_21 {G : ev_G} {d k n : Nat} {h : ev_H} {R : Option Value → ev_H → Prop} {x1 : Nat} {f_first_1 : Int32} {f_kept_2 : Int32} {f_marked_3 : Int32}
  (a1 : hat h 18 (oC 2 [.ref 19, .ref 20, .int f_first_1, .int f_kept_2, .int f_marked_3]))
  (k1 : f_kept_2 < (12 : Int32) → R none (hset h 18 (oC 2 [.ref 19, .ref 20, .int f_first_1, .int (f_kept_2 + (1 : Int32)), .int f_marked_3])))
  (k2 : ¬ f_kept_2 < (12 : Int32) → R none (hset h 18 (oC 2 [.ref 19, .ref 20, .int ((f_first_1 + (1 : Int32)) - (f_first_1 + (1 : Int32)) / (12 : Int32) * (12 : Int32)), .int f_kept_2, .int f_marked_3])))
  : Ev G (d + 1) k n M_Hi_keep 21 [.ref 18, .ref x1] [] h R :=
  Ev.go (pc' := 22) (ls' := [.ref 18, .ref x1]) (st' := [.ref 18]) [.aload_n 0] (by decide +kernel) rfl <|
  Ev.getf f_Hi_24 (by decide +kernel) a1 rfl <|
  Ev.go (pc' := 27) (ls' := [.ref 18, .ref x1]) (st' := [.int (12 : Int32), .int f_kept_2]) [.bipush (12)] (by decide +kernel) rfl <|
  Ev.br (i := .if_icmp .ge (16)) (P := f_kept_2 < (12 : Int32)) (t := 30) (f := 43) (r := []) (by decide +kernel) rfl (fun c1 =>
    Ev.go (pc' := 32) (ls' := [.ref 18, .ref x1]) (st' := [.ref 18, .ref 18]) [.aload_n 0, .dup] (by decide +kernel) rfl <|
    Ev.getf f_Hi_24 (by decide +kernel) a1 rfl <|
    Ev.go (pc' := 37) (ls' := [.ref 18, .ref x1]) (st' := [.int (f_kept_2 + (1 : Int32)), .ref 18]) [.iconst 1, .iadd] (by decide +kernel) rfl <|
    Ev.putf f_Hi_24 (by decide +kernel) a1 (Nat.le_of_ble_eq_true rfl) rfl (fun q => nomatch q) <| show Ev G (d + 1) _ _ M_Hi_keep 40 [.ref 18, .ref x1] [] (hset h 18 (oC 2 [.ref 19, .ref 20, .int f_first_1, .int (f_kept_2 + (1 : Int32)), .int f_marked_3])) R from
    Ev.go (pc' := 56) (ls' := [.ref 18, .ref x1]) (st' := []) [.goto (16)] (by decide +kernel) rfl <|
    Ev.ret (r := none) (Or.inr (Or.inr (Or.inl ⟨rfl, by decide +kernel, rfl⟩))) (k1 c1)
  ) (fun c1 =>
    Ev.go (pc' := 45) (ls' := [.ref 18, .ref x1]) (st' := [.ref 18, .ref 18]) [.aload_n 0, .aload_n 0] (by decide +kernel) rfl <|
    Ev.getf f_Hi_20 (by decide +kernel) a1 rfl <|
    Ev.go (pc' := 52) (ls' := [.ref 18, .ref x1]) (st' := [.int (12 : Int32), .int (f_first_1 + (1 : Int32)), .ref 18]) [.iconst 1, .iadd, .bipush (12)] (by decide +kernel) rfl <|
    Ev.irem (by decide +kernel) (by decide) <|
    Ev.putf f_Hi_20 (by decide +kernel) a1 (Nat.le_of_ble_eq_true rfl) rfl (fun q => nomatch q) <| show Ev G (d + 1) _ _ M_Hi_keep 56 [.ref 18, .ref x1] [] (hset h 18 (oC 2 [.ref 19, .ref 20, .int ((f_first_1 + (1 : Int32)) - (f_first_1 + (1 : Int32)) / (12 : Int32) * (12 : Int32)), .int f_kept_2, .int f_marked_3])) R from
    Ev.ret (r := none) (Or.inr (Or.inr (Or.inl ⟨rfl, by decide +kernel, rfl⟩))) (k2 c1)
  )
theorem b_Hi_takeBackAct_0 {G : ev_G} {d k n : Nat} {h : ev_H} {R : Option Value → ev_H → Prop} {x1 : Nat} {f_first_1 : Int32} {f_kept_2 : Int32} {f_marked_3 : Int32} {g4 : Nat → Option Nat} {j5 : Nat} {b6 : Nat}
  (a1 : hat h 18 (oC 2 [.ref 19, .ref 20, .int f_first_1, .int f_kept_2, .int f_marked_3]))
  (a2 : hat h 19 (aS 12 g4))
  (i3 : (0 : Int32) < f_kept_2 → ev_ix ((f_first_1 + (f_kept_2 - (1 : Int32))) - (f_first_1 + (f_kept_2 - (1 : Int32))) / (12 : Int32) * (12 : Int32)) j5 12)
  (gg4 : (0 : Int32) < f_kept_2 → g4 j5 = some b6)
  (r5 : (0 : Int32) < f_kept_2 → ∃ fs, hat (hset h 18 (oC 2 [.ref 19, .ref 20, .int f_first_1, .int (f_kept_2 - (1 : Int32)), .int f_marked_3])) x1 (oC 6 fs))
  (k1 : (0 : Int32) < f_kept_2 → Ev G d 0 0 M_St_become 0 [.ref x1, .ref b6] [] (hset h 18 (oC 2 [.ref 19, .ref 20, .int f_first_1, .int (f_kept_2 - (1 : Int32)), .int f_marked_3])) (fun r h1 => Ev G (d + 1) k n M_Hi_takeBackAct 38 [.ref 18, .ref x1] (r.toList ++ []) h1 R))
  (k2 : ¬ (0 : Int32) < f_kept_2 → Ev G (d + 1) k n M_Hi_takeBackAct 38 [.ref 18, .ref x1] [] h R)
  : Ev G (d + 1) k n M_Hi_takeBackAct 0 [.ref 18, .ref x1] [] h R :=
  Ev.go (pc' := 1) (ls' := [.ref 18, .ref x1]) (st' := [.ref 18]) [.aload_n 0] (by decide +kernel) rfl <|
  Ev.getf f_Hi_24 (by decide +kernel) a1 rfl <|
  Ev.br (i := .ifCond .le (34)) (P := (0 : Int32) < f_kept_2) (t := 7) (f := 38) (r := []) (by decide +kernel) rfl (fun c1 =>
    Ev.go (pc' := 9) (ls' := [.ref 18, .ref x1]) (st' := [.ref 18, .ref 18]) [.aload_n 0, .dup] (by decide +kernel) rfl <|
    Ev.getf f_Hi_24 (by decide +kernel) a1 rfl <|
    Ev.go (pc' := 14) (ls' := [.ref 18, .ref x1]) (st' := [.int (f_kept_2 - (1 : Int32)), .ref 18]) [.iconst 1, .isub] (by decide +kernel) rfl <|
    Ev.putf f_Hi_24 (by decide +kernel) a1 (Nat.le_of_ble_eq_true rfl) rfl (fun q => nomatch q) <| show Ev G (d + 1) _ _ M_Hi_takeBackAct 17 [.ref 18, .ref x1] [] (hset h 18 (oC 2 [.ref 19, .ref 20, .int f_first_1, .int (f_kept_2 - (1 : Int32)), .int f_marked_3])) R from
    Ev.go (pc' := 19) (ls' := [.ref 18, .ref x1]) (st' := [.ref 18, .ref x1]) [.aload_n 1, .aload_n 0] (by decide +kernel) rfl <|
    Ev.getf f_Hi_11 (by decide +kernel) (hat_set a1) rfl <|
    Ev.go (pc' := 23) (ls' := [.ref 18, .ref x1]) (st' := [.ref 18, .ref 19, .ref x1]) [.aload_n 0] (by decide +kernel) rfl <|
    Ev.getf f_Hi_20 (by decide +kernel) (hat_set a1) rfl <|
    Ev.go (pc' := 27) (ls' := [.ref 18, .ref x1]) (st' := [.ref 18, .int f_first_1, .ref 19, .ref x1]) [.aload_n 0] (by decide +kernel) rfl <|
    Ev.getf f_Hi_24 (by decide +kernel) (hat_set a1) rfl <|
    Ev.go (pc' := 33) (ls' := [.ref 18, .ref x1]) (st' := [.int (12 : Int32), .int (f_first_1 + (f_kept_2 - (1 : Int32))), .ref 19, .ref x1]) [.iadd, .bipush (12)] (by decide +kernel) rfl <|
    Ev.irem (by decide +kernel) (by decide) <|
    Ev.sald (j := j5) (by decide +kernel) (hat_ne a2 (by decide)) (i3 c1) (gg4 c1) <|
    Ev.cV0 (M' := M_St_become) (as := [.ref b6]) (rest := []) l_Hi_31 M_St_become_ok M_St_become_in M_St_become_se (by decide +kernel) (r5 c1) rfl rfl rfl (Nat.le_of_ble_eq_true rfl) (Nat.le_of_ble_eq_true rfl) (k1 c1)
  ) (fun c1 =>
    (k2 c1)
  )
theorem b_Hi_takeBackAct_38 {G : ev_G} {d k n : Nat} {h : ev_H} {R : Option Value → ev_H → Prop} {x1 : Nat}
  (k1 : R none h)
  : Ev G (d + 1) k n M_Hi_takeBackAct 38 [.ref 18, .ref x1] [] h R :=
  Ev.ret (r := none) (Or.inr (Or.inr (Or.inl ⟨rfl, by decide +kernel, rfl⟩))) k1
theorem b_Hi_putMark_0 {G : ev_G} {d k n : Nat} {h : ev_H} {R : Option Value → ev_H → Prop} {x1 : Nat} {f_first_1 : Int32} {f_kept_2 : Int32} {f_marked_3 : Int32} {g4 : Nat → Option Nat} {j5 : Nat} {b6 : Nat}
  (a1 : hat h 18 (oC 2 [.ref 19, .ref 20, .int f_first_1, .int f_kept_2, .int f_marked_3]))
  (a2 : hat h 20 (aS 3 g4))
  (i3 : f_marked_3 < (3 : Int32) → ev_ix f_marked_3 j5 3)
  (gg4 : f_marked_3 < (3 : Int32) → g4 j5 = some b6)
  (r5 : f_marked_3 < (3 : Int32) → ∃ fs, hat h b6 (oC 6 fs))
  (k1 : f_marked_3 < (3 : Int32) → Ev G d 0 0 M_St_become 0 [.ref b6, .ref x1] [] h (fun r h1 => Ev G (d + 1) k n M_Hi_putMark 21 [.ref 18, .ref x1] (r.toList ++ []) h1 R))
  (k2 : ¬ f_marked_3 < (3 : Int32) → R none h)
  : Ev G (d + 1) k n M_Hi_putMark 0 [.ref 18, .ref x1] [] h R :=
  Ev.go (pc' := 1) (ls' := [.ref 18, .ref x1]) (st' := [.ref 18]) [.aload_n 0] (by decide +kernel) rfl <|
  Ev.getf f_Hi_27 (by decide +kernel) a1 rfl <|
  Ev.go (pc' := 5) (ls' := [.ref 18, .ref x1]) (st' := [.int (3 : Int32), .int f_marked_3]) [.iconst 3] (by decide +kernel) rfl <|
  Ev.br (i := .if_icmp .ge (26)) (P := f_marked_3 < (3 : Int32)) (t := 8) (f := 31) (r := []) (by decide +kernel) rfl (fun c1 =>
    Ev.go (pc' := 9) (ls' := [.ref 18, .ref x1]) (st' := [.ref 18]) [.aload_n 0] (by decide +kernel) rfl <|
    Ev.getf f_Hi_17 (by decide +kernel) a1 rfl <|
    Ev.go (pc' := 13) (ls' := [.ref 18, .ref x1]) (st' := [.ref 18, .ref 20]) [.aload_n 0] (by decide +kernel) rfl <|
    Ev.getf f_Hi_27 (by decide +kernel) a1 rfl <|
    Ev.sald (j := j5) (by decide +kernel) a2 (i3 c1) (gg4 c1) <|
    Ev.go (pc' := 18) (ls' := [.ref 18, .ref x1]) (st' := [.ref x1, .ref b6]) [.aload_n 1] (by decide +kernel) rfl <|
    Ev.cV0 (M' := M_St_become) (as := [.ref x1]) (rest := []) l_Hi_31 M_St_become_ok M_St_become_in M_St_become_se (by decide +kernel) (r5 c1) rfl rfl rfl (Nat.le_of_ble_eq_true rfl) (Nat.le_of_ble_eq_true rfl) (k1 c1)
  ) (fun c1 =>
    Ev.ret (r := none) (Or.inr (Or.inr (Or.inl ⟨rfl, by decide +kernel, rfl⟩))) (k2 c1)
  )
theorem b_Hi_putMark_21 {G : ev_G} {d k n : Nat} {h : ev_H} {R : Option Value → ev_H → Prop} {x1 : Nat} {f_first_1 : Int32} {f_kept_2 : Int32} {f_marked_3 : Int32}
  (a1 : hat h 18 (oC 2 [.ref 19, .ref 20, .int f_first_1, .int f_kept_2, .int f_marked_3]))
  (k1 : R none (hset h 18 (oC 2 [.ref 19, .ref 20, .int f_first_1, .int f_kept_2, .int (f_marked_3 + (1 : Int32))])))
  : Ev G (d + 1) k n M_Hi_putMark 21 [.ref 18, .ref x1] [] h R :=
  Ev.go (pc' := 23) (ls' := [.ref 18, .ref x1]) (st' := [.ref 18, .ref 18]) [.aload_n 0, .dup] (by decide +kernel) rfl <|
  Ev.getf f_Hi_27 (by decide +kernel) a1 rfl <|
  Ev.go (pc' := 28) (ls' := [.ref 18, .ref x1]) (st' := [.int (f_marked_3 + (1 : Int32)), .ref 18]) [.iconst 1, .iadd] (by decide +kernel) rfl <|
  Ev.putf f_Hi_27 (by decide +kernel) a1 (Nat.le_of_ble_eq_true rfl) rfl (fun q => nomatch q) <| show Ev G (d + 1) _ _ M_Hi_putMark 31 [.ref 18, .ref x1] [] (hset h 18 (oC 2 [.ref 19, .ref 20, .int f_first_1, .int f_kept_2, .int (f_marked_3 + (1 : Int32))])) R from
  Ev.ret (r := none) (Or.inr (Or.inr (Or.inl ⟨rfl, by decide +kernel, rfl⟩))) k1
theorem b_Hi_takeBackMark_0 {G : ev_G} {d k n : Nat} {h : ev_H} {R : Option Value → ev_H → Prop} {x1 : Nat} {f_first_1 : Int32} {f_kept_2 : Int32} {f_marked_3 : Int32} {g4 : Nat → Option Nat} {j5 : Nat} {b6 : Nat}
  (a1 : hat h 18 (oC 2 [.ref 19, .ref 20, .int f_first_1, .int f_kept_2, .int f_marked_3]))
  (a2 : hat h 20 (aS 3 g4))
  (i3 : (0 : Int32) < f_marked_3 → ev_ix (f_marked_3 - (1 : Int32)) j5 3)
  (gg4 : (0 : Int32) < f_marked_3 → g4 j5 = some b6)
  (r5 : (0 : Int32) < f_marked_3 → ∃ fs, hat (hset h 18 (oC 2 [.ref 19, .ref 20, .int f_first_1, .int f_kept_2, .int (f_marked_3 - (1 : Int32))])) x1 (oC 6 fs))
  (k1 : (0 : Int32) < f_marked_3 → Ev G d 0 0 M_St_become 0 [.ref x1, .ref b6] [] (hset h 18 (oC 2 [.ref 19, .ref 20, .int f_first_1, .int f_kept_2, .int (f_marked_3 - (1 : Int32))])) (fun r h1 => Ev G (d + 1) k n M_Hi_takeBackMark 30 [.ref 18, .ref x1] (r.toList ++ []) h1 R))
  (k2 : ¬ (0 : Int32) < f_marked_3 → R none h)
  : Ev G (d + 1) k n M_Hi_takeBackMark 0 [.ref 18, .ref x1] [] h R :=
  Ev.go (pc' := 1) (ls' := [.ref 18, .ref x1]) (st' := [.ref 18]) [.aload_n 0] (by decide +kernel) rfl <|
  Ev.getf f_Hi_27 (by decide +kernel) a1 rfl <|
  Ev.br (i := .ifCond .le (31)) (P := (0 : Int32) < f_marked_3) (t := 7) (f := 35) (r := []) (by decide +kernel) rfl (fun c1 =>
    Ev.go (pc' := 9) (ls' := [.ref 18, .ref x1]) (st' := [.ref 18, .ref 18]) [.aload_n 0, .dup] (by decide +kernel) rfl <|
    Ev.getf f_Hi_27 (by decide +kernel) a1 rfl <|
    Ev.go (pc' := 14) (ls' := [.ref 18, .ref x1]) (st' := [.int (f_marked_3 - (1 : Int32)), .ref 18]) [.iconst 1, .isub] (by decide +kernel) rfl <|
    Ev.putf f_Hi_27 (by decide +kernel) a1 (Nat.le_of_ble_eq_true rfl) rfl (fun q => nomatch q) <| show Ev G (d + 1) _ _ M_Hi_takeBackMark 17 [.ref 18, .ref x1] [] (hset h 18 (oC 2 [.ref 19, .ref 20, .int f_first_1, .int f_kept_2, .int (f_marked_3 - (1 : Int32))])) R from
    Ev.go (pc' := 19) (ls' := [.ref 18, .ref x1]) (st' := [.ref 18, .ref x1]) [.aload_n 1, .aload_n 0] (by decide +kernel) rfl <|
    Ev.getf f_Hi_17 (by decide +kernel) (hat_set a1) rfl <|
    Ev.go (pc' := 23) (ls' := [.ref 18, .ref x1]) (st' := [.ref 18, .ref 20, .ref x1]) [.aload_n 0] (by decide +kernel) rfl <|
    Ev.getf f_Hi_27 (by decide +kernel) (hat_set a1) rfl <|
    Ev.sald (j := j5) (by decide +kernel) (hat_ne a2 (by decide)) (i3 c1) (gg4 c1) <|
    Ev.cV0 (M' := M_St_become) (as := [.ref b6]) (rest := []) l_Hi_31 M_St_become_ok M_St_become_in M_St_become_se (by decide +kernel) (r5 c1) rfl rfl rfl (Nat.le_of_ble_eq_true rfl) (Nat.le_of_ble_eq_true rfl) (k1 c1)
  ) (fun c1 =>
    Ev.ret (r := none) (Or.inr (Or.inr (Or.inl ⟨rfl, by decide +kernel, rfl⟩))) (k2 c1)
  )
theorem b_Hi_takeBackMark_30 {G : ev_G} {d k n : Nat} {h : ev_H} {R : Option Value → ev_H → Prop} {x1 : Nat} {f_first_1 : Int32} {f_kept_2 : Int32} {f_marked_3 : Int32}
  (a1 : hat h 18 (oC 2 [.ref 19, .ref 20, .int f_first_1, .int f_kept_2, .int f_marked_3]))
  (k1 : R none (hset h 18 (oC 2 [.ref 19, .ref 20, .int f_first_1, .int (0 : Int32), .int f_marked_3])))
  : Ev G (d + 1) k n M_Hi_takeBackMark 30 [.ref 18, .ref x1] [] h R :=
  Ev.go (pc' := 32) (ls' := [.ref 18, .ref x1]) (st' := [.int (0 : Int32), .ref 18]) [.aload_n 0, .iconst 0] (by decide +kernel) rfl <|
  Ev.putf f_Hi_24 (by decide +kernel) a1 (Nat.le_of_ble_eq_true rfl) rfl (fun q => nomatch q) <| show Ev G (d + 1) _ _ M_Hi_takeBackMark 35 [.ref 18, .ref x1] [] (hset h 18 (oC 2 [.ref 19, .ref 20, .int f_first_1, .int (0 : Int32), .int f_marked_3])) R from
  Ev.ret (r := none) (Or.inr (Or.inr (Or.inl ⟨rfl, by decide +kernel, rfl⟩))) k1
def TaR (h : ev_H) (n : Nat) (g : Nat → Int32) : Prop := hat h 12 (oC 7 [.ref 13, .int (nI n)]) ∧ hat h 13 (aB 900 g)
def byN (x : Int32) (s : Int32) : Int32 := vp_nar .byte (x >>> (s &&& 31)).toInt8.toInt32
def tp4 (g : Nat → Int32) (n : Nat) (x : Int32) : Nat → Int32 := upd (upd (upd (upd g n (byN x 24)) (n + 1) (byN x 16)) (n + 2) (byN x 8)) (n + 3) (byN x 0)
def SpR (h : ev_H) (fl : List AStp) : Prop := ∃ (ks ss ps bs : Nat → Int32) (frs : Nat → Int64), hat h 6 (oC 5 [.ref 7, .ref 8, .ref 9, .ref 10, .ref 11, .int (nI fl.length)]) ∧ hat h 7 (aI 300 ks) ∧ hat h 8 (aI 300 ss) ∧ hat h 9 (aI 300 ps) ∧ hat h 10 (aI 300 bs) ∧ hat h 11 (aL 300 frs) ∧ ∀ i s, fl[i]? = some s → ks i = nI s.1 ∧ ss i = nI s.2.1 ∧ ps i = nI s.2.2.1 ∧ bs i = nI s.2.2.2.1 ∧ frs i = s.2.2.2.2
theorem nI_mul (a b : Nat) : nI a * nI b = nI (a * b) := (Int32.ofNat_mul a b).symm
theorem nI_rem {a b : Nat} (ha : a < 2147483648) (hb : b < 2147483648) : nI a - nI a / nI b * nI b = nI (a % b) := by
  rw [nI_div ha hb, nI_mul, nI_sub (Nat.div_mul_le_self a b), Nat.mod_eq_sub_div_mul]
section S17
variable {G : ev_G} {d : Nat} {h : ev_H} {R : Option Value → ev_H → Prop} {S : AS}
theorem s_Ta_put {n : Nat} {g : Nat → Int32} {x : Int32} (hT : TaR h n g) (hn : n + 4 ≤ 900) (hR : ∀ h', Kp h h' 12 14 → TaR h' (n + 4) (tp4 g n x) → R none h') : Ev G d 0 0 M_Ta_put 0 [.ref 12, .int x, ev_unk] [] h R := by
  have L : ∀ (s s' : Int32) (m : Nat) (h1 : ev_H) (g1 : Nat → Int32), ¬ s < 0 → s + (-8) = s' → m < 900 → TaR h1 m g1 → Kp h h1 12 14 → (∀ h2, Kp h h2 12 14 → TaR h2 (m + 1) (upd g1 m (byN x s)) → Ev G d 0 0 M_Ta_put 3 [.ref 12, .int x, .int s'] [] h2 R) → Ev G d 0 0 M_Ta_put 3 [.ref 12, .int x, .int s] [] h1 R := by
    intro s s' m h1 g1 hs e hm T K hK
    refine b_Ta_put_3 (j3 := m) T.1 T.2 (fun _ _ => ixn hm (by decide)) (fun q => absurd q hs) (fun _ _ => ?_) (fun _ q => absurd (nI_lt hm (by decide)) q)
    rw [e, nI_1]
    refine hK _ ((K.set _ (by omega) (by omega)).set _ (by omega) (by omega)) ⟨?_, ?_⟩
    · exact ⟨T.1.1, hset_eq _ _ _⟩
    · exact hat_ne ⟨T.2.1, hset_eq _ _ _⟩ (by omega)
  refine b_Ta_put_0 (L 24 16 n h g (by decide) (by decide) (by omega) hT (Kp.refl _ _ _) fun h1 K1 T1 => ?_)
  refine L 16 8 (n + 1) h1 _ (by decide) (by decide) (by omega) T1 K1 fun h2 K2 T2 => ?_
  refine L 8 0 (n + 2) h2 _ (by decide) (by decide) (by omega) T2 K2 fun h3 K3 T3 => ?_
  refine L 0 (-8) (n + 3) h3 _ (by decide) (by decide) (by omega) T3 K3 fun h4 K4 T4 => ?_
  exact b_Ta_put_3 (j3 := 0) T4.1 T4.2 (fun q => absurd (by decide) q) (fun _ => hR h4 K4 T4) (fun q => absurd (by decide) q) (fun q => absurd (by decide) q)
theorem s_Sp_put {fl : List AStp} {k s p b : Int32} {fr : Int64} {st : AStp} (hS : SpR h fl) (hl : fl.length < 300) (hk : k = nI st.1 ∧ s = nI st.2.1 ∧ p = nI st.2.2.1 ∧ b = nI st.2.2.2.1 ∧ fr = st.2.2.2.2) (hR : ∀ h', Kp h h' 6 12 → SpR h' (fl ++ [st]) → R none h') : Ev G d 0 0 M_Sp_put 0 [.ref 6, .int k, .int s, .int p, .int b, .long fr, ev_unk] [] h R := by
  obtain ⟨ks, ss, ps, bs, frs, f0, f1, f2, f3, f4, f5, hst⟩ := hS
  refine b_Sp_put_0 (j3 := fl.length) f0 f1 f2 f3 f4 f5 (fun _ => ixn hl (by decide)) (fun _ => ?_) (fun q => absurd (nI_lt hl (by decide)) q)
  have hR2 : ∀ h', Kp h h' 6 12 → (Kp h h' 6 12 → SpR h' (fl ++ [st])) → R none h' := fun h' K st => hR h' K (st K)
  refine hR2 _ (((((((Kp.refl h 6 12).set _ ?_ ?_).set _ ?_ ?_).set _ ?_ ?_).set _ ?_ ?_).set _ ?_ ?_).set _ ?_ ?_) (fun K => ?_)
  all_goals try omega
  rw [nI_1]
  refine ⟨_, _, _, _, _, ?_, hat_ne (hat_ne (hat_ne (hat_ne (hat_ne ⟨f1.1, hset_eq _ _ _⟩ (by omega)) (by omega)) (by omega)) (by omega)) (by omega), hat_ne (hat_ne (hat_ne (hat_ne ⟨f2.1, hset_eq _ _ _⟩ (by omega)) (by omega)) (by omega)) (by omega), hat_ne (hat_ne (hat_ne ⟨f3.1, hset_eq _ _ _⟩ (by omega)) (by omega)) (by omega), hat_ne (hat_ne ⟨f4.1, hset_eq _ _ _⟩ (by omega)) (by omega), hat_ne ⟨f5.1, hset_eq _ _ _⟩ (by omega), fun i s hi => ?_⟩
  · refine ⟨f0.1, ?_⟩
    rw [hset_eq]; simp
  · by_cases e : i = fl.length
    · subst e
      rw [List.getElem?_append_right (Nat.le_refl _), Nat.sub_self] at hi
      have hi : st = s := by simpa using hi
      subst hi
      simp only [upd, vp_updL, if_true]; exact hk
    · have hl2 : i < (fl ++ [st]).length := (List.getElem?_eq_some_iff.mp hi).1
      rw [List.length_append] at hl2
      have hl2 : i < fl.length := by simp at hl2; omega
      rw [List.getElem?_append_left hl2] at hi
      simp only [upd, vp_updL, if_neg e]; exact hst i s hi
end S17
theorem b_Sp_join_0 {G : ev_G} {d k n : Nat} {h : ev_H} {R : Option Value → ev_H → Prop} {x1 : Int32}
  (r1 : ∃ fs, hat h 6 (oC 5 fs))
  (k1 : Ev G d 0 0 M_Sp_put 0 [.ref 6, .int x1, .int (0 : Int32), .int (0 : Int32), .int (0 : Int32), .long (0 : Int64), ev_unk] [] h (fun r h1 => Ev G (d + 1) k n M_Sp_join 9 [.ref 6, .int x1] (r.toList ++ []) h1 R))
  : Ev G (d + 1) k n M_Sp_join 0 [.ref 6, .int x1] [] h R :=
  Ev.go (pc' := 6) (ls' := [.ref 6, .int x1]) (st' := [.long (0 : Int64), .int (0 : Int32), .int (0 : Int32), .int (0 : Int32), .int x1, .ref 6]) [.aload_n 0, .iload_n 1, .iconst 0, .iconst 0, .iconst 0, .lconst 0] (by decide +kernel) rfl <|
  Ev.cV0 (M' := M_Sp_put) (as := [.int x1, .int (0 : Int32), .int (0 : Int32), .int (0 : Int32), .long (0 : Int64)]) (rest := []) l_Sp_32 M_Sp_put_ok M_Sp_put_in M_Sp_put_se (by decide +kernel) r1 rfl rfl rfl (Nat.le_of_ble_eq_true rfl) (Nat.le_of_ble_eq_true rfl) k1
theorem b_Sp_join_9 {G : ev_G} {d k n : Nat} {h : ev_H} {R : Option Value → ev_H → Prop} {x1 : Int32}
  (k1 : R none h)
  : Ev G (d + 1) k n M_Sp_join 9 [.ref 6, .int x1] [] h R :=
  Ev.ret (r := none) (Or.inr (Or.inr (Or.inl ⟨rfl, by decide +kernel, rfl⟩))) k1
section S17
variable {G : ev_G} {d : Nat} {h : ev_H} {R : Option Value → ev_H → Prop} {S : AS}
theorem s_Sp_join {fl : List AStp} {k : Int32} {q : Nat} (hS : SpR h fl) (hl : fl.length < 300) (hk : k = nI q) (hR : ∀ h', Kp h h' 6 12 → SpR h' (fl ++ [(q, 0, 0, 0, 0)]) → R none h') : Ev G (d + 1) 0 0 M_Sp_join 0 [.ref 6, .int k] [] h R := by
  have hS0 := hS
  obtain ⟨ks, ss, ps, bs, frs, f0, -⟩ := hS
  refine b_Sp_join_0 ⟨_, f0⟩ (s_Sp_put hS0 hl (st := (q, 0, 0, 0, 0)) ⟨hk, rfl, rfl, rfl, rfl⟩ fun h' K st => ?_)
  exact b_Sp_join_9 (hR h' K st)
/-- the kept stores (acts, the oldest first) and the marks -/
def HiR (h : ev_H) (kept : Nat) (A : Nat → AS) (marked : Nat) (B : Nat → AS) : Prop := ∃ (first : Nat) (ga gm : Nat → Option Nat), first < 12 ∧ kept ≤ 12 ∧ marked ≤ 3 ∧ hat h 18 (oC 2 [.ref 19, .ref 20, .int (nI first), .int (nI kept), .int (nI marked)]) ∧ hat h 19 (aS 12 ga) ∧ hat h 20 (aS 3 gm) ∧ (∀ i, i < 12 → ga i = some (21 + 4 * i) ∧ ∃ T, StR h (21 + 4 * i) T) ∧ (∀ i, i < 3 → gm i = some (69 + 4 * i) ∧ ∃ T, StR h (69 + 4 * i) T) ∧ (∀ i, i < kept → StR h (21 + 4 * ((first + i) % 12)) (A i)) ∧ ∀ i, i < marked → StR h (69 + 4 * i) (B i)
theorem StR.obj {a : Nat} (H : StR h a S) : ∃ fs, hat h a (oC 6 fs) := by
  obtain ⟨brf, tgf, cof, fv, t1, -⟩ := H
  exact ⟨_, t1⟩
theorem HiR.kg {h1 : ev_H} {kept marked lo hi : Nat} {A B : Nat → AS} (H : HiR h kept A marked B) (a : Kg h h1 lo hi) (q : hi ≤ 126) (q2 : hi ≤ 18 ∨ 81 ≤ lo) : HiR h1 kept A marked B := by
  obtain ⟨first, ga, gm, l1, l2, l3, c1, c2, c3, p1, p2, p3, p4⟩ := H
  refine ⟨first, ga, gm, l1, l2, l3, a.hat c1 (by omega), a.hat c2 (by omega), a.hat c3 (by omega), fun i hi' => ⟨(p1 i hi').1, ?_⟩, fun i hi' => ⟨(p2 i hi').1, ?_⟩, fun i hi' => (p3 i hi').kg a q (by have := Nat.mod_lt (first + i) (show 12 > 0 by decide); omega), fun i hi' => (p4 i hi').kg a q (by omega)⟩
  · obtain ⟨T, t⟩ := (p1 i hi').2; exact ⟨T, t.kg a q (by omega)⟩
  · obtain ⟨T, t⟩ := (p2 i hi').2; exact ⟨T, t.kg a q (by omega)⟩
def keepA (kept : Nat) (A : Nat → AS) (S : AS) : Nat → AS := fun i => if kept < 12 then (if i = kept then S else A i) else (if i = 11 then S else A (i + 1))
theorem s_Hi_keep {kept marked : Nat} {A B : Nat → AS} (H : HiR h kept A marked B) (hS : StR h 1 S) (ok : sOk S) (hR : ∀ h', Kp h h' 18 81 → HiR h' (min (kept + 1) 12) (keepA kept A S) marked B → R none h') : Ev G (d + 2) 0 0 M_Hi_keep 0 [.ref 18, .ref 1] [] h R := by
  obtain ⟨first, ga, gm, l1, l2, l3, c1, c2, c3, p1, p2, p3, p4⟩ := H
  have hm := Nat.mod_lt (first + kept) (show 12 > 0 by decide)
  obtain ⟨g1, T, g2⟩ := p1 ((first + kept) % 12) hm
  refine b_Hi_keep_0 c1 c2 (by rw [nI_add, show (12 : Int32) = nI 12 from rfl, nI_rem (by omega) (by decide)]; exact ixn hm (by decide)) g1 g2.obj ?_
  refine s_St_become g2 hS ok (by omega) (by omega) fun h1 K1 st1 => ?_
  have c1' := K1.hat c1 (by omega)
  have c2' := K1.hat c2 (by omega)
  have c3' := K1.hat c3 (by omega)
  have oth : ∀ i, i < 12 → i ≠ (first + kept) % 12 → ∀ T, StR h (21 + 4 * i) T → StR h1 (21 + 4 * i) T := fun i hi ne T t => t.kp K1 (by omega) (by omega)
  have p1' : ∀ i, i < 12 → ga i = some (21 + 4 * i) ∧ ∃ T, StR h1 (21 + 4 * i) T := fun i hi => ⟨(p1 i hi).1, by
    by_cases e : i = (first + kept) % 12
    · subst e; exact ⟨_, st1⟩
    · obtain ⟨T, t⟩ := (p1 i hi).2; exact ⟨T, oth i hi e T t⟩⟩
  have p2' : ∀ i, i < 3 → gm i = some (69 + 4 * i) ∧ ∃ T, StR h1 (69 + 4 * i) T := fun i hi => ⟨(p2 i hi).1, by
    obtain ⟨T, t⟩ := (p2 i hi).2; exact ⟨T, t.kp K1 (by omega) (by omega)⟩⟩
  have p4' : ∀ i, i < marked → StR h1 (69 + 4 * i) (B i) := fun i hi => (p4 i hi).kp K1 (by omega) (by omega)
  have KK := K1.wide (lo' := 18) (hi' := 81) (by omega) (by omega)
  refine b_Hi_keep_21 c1' (fun q => ?_) (fun q => ?_)
  · have q : kept < 12 := (nI_ltI (by omega) (by decide)).mp q
    rw [nI_1]
    have K2 := (Kp.refl h1 18 19).set (k := 18) (oC 2 [.ref 19, .ref 20, .int (nI first), .int (nI (kept + 1)), .int (nI marked)]) (by omega) (by omega)
    refine hR _ (KK.trans (K2.wide (by omega) (by omega))) ⟨first, ga, gm, l1, by omega, l3, ⟨c1'.1, ?_⟩, K2.hat c2' (by omega), K2.hat c3' (by omega), fun i hi => ⟨(p1' i hi).1, ?_⟩, fun i hi => ⟨(p2' i hi).1, ?_⟩, fun i hi => ?_, fun i hi => (p4' i hi).kp K2 (by omega) (by omega)⟩
    · rw [hset_eq, Nat.min_eq_left (by omega)]
    · obtain ⟨T, t⟩ := (p1' i hi).2; exact ⟨T, t.kp K2 (by omega) (by omega)⟩
    · obtain ⟨T, t⟩ := (p2' i hi).2; exact ⟨T, t.kp K2 (by omega) (by omega)⟩
    · refine StR.kp ?_ K2 (by omega) (by omega)
      rw [Nat.min_eq_left (by omega)] at hi
      unfold keepA; rw [if_pos q]
      by_cases e : i = kept
      · rw [if_pos e, e]; exact st1
      · rw [if_neg e]; exact oth _ (Nat.mod_lt _ (by decide)) (by omega) _ (p3 i (by omega))
  · have q : ¬ kept < 12 := fun z => q (nI_lt z (by decide))
    have q : kept = 12 := by omega
    subst q
    have er : (nI first + 1) - (nI first + 1) / (12 : Int32) * (12 : Int32) = nI ((first + 1) % 12) := by rw [nI_1]; exact nI_rem (b := 12) (by omega) (by decide)
    rw [er]
    have K2 := (Kp.refl h1 18 19).set (k := 18) (oC 2 [.ref 19, .ref 20, .int (nI ((first + 1) % 12)), .int (nI 12), .int (nI marked)]) (by omega) (by omega)
    refine hR _ (KK.trans (K2.wide (by omega) (by omega))) ⟨(first + 1) % 12, ga, gm, Nat.mod_lt _ (by decide), by omega, l3, ⟨c1'.1, ?_⟩, K2.hat c2' (by omega), K2.hat c3' (by omega), fun i hi => ⟨(p1' i hi).1, ?_⟩, fun i hi => ⟨(p2' i hi).1, ?_⟩, fun i hi => ?_, fun i hi => (p4' i hi).kp K2 (by omega) (by omega)⟩
    · rw [hset_eq]; rfl
    · obtain ⟨T, t⟩ := (p1' i hi).2; exact ⟨T, t.kp K2 (by omega) (by omega)⟩
    · obtain ⟨T, t⟩ := (p2' i hi).2; exact ⟨T, t.kp K2 (by omega) (by omega)⟩
    · refine StR.kp ?_ K2 (by omega) (by omega)
      have hi : i < 12 := hi
      unfold keepA; rw [if_neg (by omega)]
      by_cases e : i = 11
      · rw [if_pos e, show ((first + 1) % 12 + i) % 12 = (first + 12) % 12 by omega]; exact st1
      · rw [if_neg e, show ((first + 1) % 12 + i) % 12 = (first + (i + 1)) % 12 by omega]
        exact oth _ (Nat.mod_lt _ (by decide)) (by omega) _ (p3 (i + 1) (by omega))
theorem s_Hi_takeBackAct {kept marked : Nat} {A B : Nat → AS} (H : HiR h (kept + 1) A marked B) (hS : StR h 1 S) (ok : sOk (A kept)) (hR : ∀ h1 h', Kp h h1 18 19 → Kp h1 h' 1 5 → HiR h' kept A marked B → StR h' 1 (A kept) → R none h') : Ev G (d + 2) 0 0 M_Hi_takeBackAct 0 [.ref 18, .ref 1] [] h R := by
  obtain ⟨first, ga, gm, l1, l2, l3, c1, c2, c3, p1, p2, p3, p4⟩ := H
  have hm := Nat.mod_lt (first + kept) (show 12 > 0 by decide)
  obtain ⟨g1, T, g2⟩ := p1 ((first + kept) % 12) hm
  have ek : nI (kept + 1) - 1 = nI kept := nI_pred kept
  have K1 := (Kp.refl h 18 19).set (k := 18) (oC 2 [.ref 19, .ref 20, .int (nI first), .int (nI (kept + 1) - 1), .int (nI marked)]) (by omega) (by omega)
  have pos : (0 : Int32) < nI (kept + 1) := nI_lt (a := 0) (by omega) (by omega)
  refine b_Hi_takeBackAct_0 c1 c2 (fun _ => by rw [ek, nI_add, show (12 : Int32) = nI 12 from rfl, nI_rem (by omega) (by decide)]; exact ixn hm (by decide)) (fun _ => g1) (fun _ => (hS.kp K1 (by omega) (by omega)).obj) (fun _ => ?_) (fun q => absurd pos q)
  refine s_St_become (hS.kp K1 (by omega) (by omega)) ((p3 kept (by omega)).kp K1 (by omega) (by omega)) ok (by omega) (by omega) fun h2 K2 st2 => ?_
  refine b_Hi_takeBackAct_38 (hR _ h2 K1 K2 ⟨first, ga, gm, l1, by omega, l3, ?_, K2.hat (K1.hat c2 (by omega)) (by omega), K2.hat (K1.hat c3 (by omega)) (by omega), fun i hi => ⟨(p1 i hi).1, ?_⟩, fun i hi => ⟨(p2 i hi).1, ?_⟩, fun i hi => ?_, fun i hi => ?_⟩ st2)
  · refine K2.hat ⟨c1.1, ?_⟩ (by omega)
    rw [hset_eq, ek]
  · obtain ⟨T, t⟩ := (p1 i hi).2; exact ⟨T, (t.kp K1 (by omega) (by omega)).kp K2 (by omega) (by omega)⟩
  · obtain ⟨T, t⟩ := (p2 i hi).2; exact ⟨T, (t.kp K1 (by omega) (by omega)).kp K2 (by omega) (by omega)⟩
  · exact ((p3 i (by omega)).kp K1 (by omega) (by omega)).kp K2 (by omega) (by omega)
  · exact ((p4 i hi).kp K1 (by omega) (by omega)).kp K2 (by omega) (by omega)
theorem s_Hi_putMark {kept marked : Nat} {A B : Nat → AS} (H : HiR h kept A marked B) (hm : marked < 3) (hS : StR h 1 S) (ok : sOk S) (hR : ∀ h', Kp h h' 18 81 → HiR h' kept A (marked + 1) (fun i => if i = marked then S else B i) → R none h') : Ev G (d + 2) 0 0 M_Hi_putMark 0 [.ref 18, .ref 1] [] h R := by
  obtain ⟨first, ga, gm, l1, l2, l3, c1, c2, c3, p1, p2, p3, p4⟩ := H
  obtain ⟨g1, T, g2⟩ := p2 marked hm
  have hmod := fun i => Nat.mod_lt (first + i) (show 12 > 0 by decide)
  refine b_Hi_putMark_0 c1 c3 (fun _ => ixn hm (by decide)) (fun _ => g1) (fun _ => g2.obj) (fun _ => ?_) (fun q => absurd (nI_lt hm (by decide)) q)
  refine s_St_become g2 hS ok (by omega) (by omega) fun h1 K1 st1 => ?_
  have K2 := (Kp.refl h1 18 19).set (k := 18) (oC 2 [.ref 19, .ref 20, .int (nI first), .int (nI kept), .int (nI marked + 1)]) (by omega) (by omega)
  refine b_Hi_putMark_21 (K1.hat c1 (by omega)) (hR _ ((K1.wide (by omega) (by omega)).trans (K2.wide (by omega) (by omega))) ⟨first, ga, gm, l1, l2, by omega, ?_, K2.hat (K1.hat c2 (by omega)) (by omega), K2.hat (K1.hat c3 (by omega)) (by omega), fun i hi => ⟨(p1 i hi).1, ?_⟩, fun i hi => ⟨(p2 i hi).1, ?_⟩, fun i hi => ?_, fun i hi => ?_⟩)
  · exact ⟨(K1.hat c1 (by omega)).1, by rw [hset_eq, nI_1]⟩
  · obtain ⟨T, t⟩ := (p1 i hi).2; exact ⟨T, (t.kp K1 (by omega) (by omega)).kp K2 (by omega) (by omega)⟩
  · by_cases e : i = marked
    · subst e; exact ⟨_, st1.kp K2 (by omega) (by omega)⟩
    · obtain ⟨T, t⟩ := (p2 i hi).2; exact ⟨T, (t.kp K1 (by omega) (by omega)).kp K2 (by omega) (by omega)⟩
  · exact ((p3 i hi).kp K1 (by omega) (by have := hmod i; omega)).kp K2 (by omega) (by omega)
  · show StR _ _ (if i = marked then S else B i)
    by_cases e : i = marked
    · subst e; rw [if_pos rfl]; exact st1.kp K2 (by omega) (by omega)
    · rw [if_neg e]; exact ((p4 i (by omega)).kp K1 (by omega) (by omega)).kp K2 (by omega) (by omega)
theorem s_Hi_takeBackMark {kept marked : Nat} {A B : Nat → AS} (H : HiR h kept A (marked + 1) B) (hS : StR h 1 S) (ok : sOk (B marked)) (hR : ∀ h1 h2 h', Kp h h1 18 19 → Kp h1 h2 1 5 → Kp h2 h' 18 19 → HiR h' 0 A marked B → StR h' 1 (B marked) → R none h') : Ev G (d + 2) 0 0 M_Hi_takeBackMark 0 [.ref 18, .ref 1] [] h R := by
  obtain ⟨first, ga, gm, l1, l2, l3, c1, c2, c3, p1, p2, p3, p4⟩ := H
  obtain ⟨g1, T, g2⟩ := p2 marked (by omega)
  have ek : nI (marked + 1) - 1 = nI marked := nI_pred marked
  have K1 := (Kp.refl h 18 19).set (k := 18) (oC 2 [.ref 19, .ref 20, .int (nI first), .int (nI kept), .int (nI (marked + 1) - 1)]) (by omega) (by omega)
  have pos : (0 : Int32) < nI (marked + 1) := nI_lt (a := 0) (by omega) (by omega)
  refine b_Hi_takeBackMark_0 c1 c3 (fun _ => by rw [ek]; exact ixn (by omega) (by decide)) (fun _ => g1) (fun _ => (hS.kp K1 (by omega) (by omega)).obj) (fun _ => ?_) (fun q => absurd pos q)
  refine s_St_become (hS.kp K1 (by omega) (by omega)) ((p4 marked (by omega)).kp K1 (by omega) (by omega)) ok (by omega) (by omega) fun h2 K2 st2 => ?_
  have c1' : hat h2 18 (oC 2 [.ref 19, .ref 20, .int (nI first), .int (nI kept), .int (nI (marked + 1) - 1)]) := K2.hat ⟨c1.1, hset_eq _ _ _⟩ (by omega)
  have K3 := (Kp.refl h2 18 19).set (k := 18) (oC 2 [.ref 19, .ref 20, .int (nI first), .int 0, .int (nI (marked + 1) - 1)]) (by omega) (by omega)
  refine b_Hi_takeBackMark_30 c1' (hR _ h2 _ K1 K2 K3 ⟨first, ga, gm, l1, by omega, by omega, ?_, K3.hat (K2.hat (K1.hat c2 (by omega)) (by omega)) (by omega), K3.hat (K2.hat (K1.hat c3 (by omega)) (by omega)) (by omega), fun i hi => ⟨(p1 i hi).1, ?_⟩, fun i hi => ⟨(p2 i hi).1, ?_⟩, fun i hi => absurd hi (Nat.not_lt_zero i), fun i hi => ?_⟩ (st2.kp K3 (by omega) (by omega)))
  · exact ⟨c1'.1, by rw [hset_eq, ek]; rfl⟩
  · obtain ⟨T, t⟩ := (p1 i hi).2; exact ⟨T, ((t.kp K1 (by omega) (by omega)).kp K2 (by omega) (by omega)).kp K3 (by omega) (by omega)⟩
  · obtain ⟨T, t⟩ := (p2 i hi).2; exact ⟨T, ((t.kp K1 (by omega) (by omega)).kp K2 (by omega) (by omega)).kp K3 (by omega) (by omega)⟩
  · exact (((p4 i (by omega)).kp K1 (by omega) (by omega)).kp K2 (by omega) (by omega)).kp K3 (by omega) (by omega)
end S17
