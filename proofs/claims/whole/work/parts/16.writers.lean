/-! WRITERS of a store -/
/-- only cells lo to hi - 1 changed, none made -/
def Kp (h h' : ev_H) (lo hi : Nat) : Prop := h'.1 = h.1 ∧ ∀ b, b < h.1 → (b < lo ∨ hi ≤ b) → h'.2 b = h.2 b
/-- cells may have been made -/
def Kg (h h' : ev_H) (lo hi : Nat) : Prop := h.1 ≤ h'.1 ∧ ∀ b, b < h.1 → (b < lo ∨ hi ≤ b) → h'.2 b = h.2 b
section S16
variable {h h1 h2 h3 : ev_H} {lo hi lo' hi' : Nat}
theorem Kp.g (a : Kp h1 h2 lo hi) : Kg h1 h2 lo hi := ⟨Nat.le_of_eq a.1.symm, a.2⟩
theorem Kp.refl (h : ev_H) (lo hi : Nat) : Kp h h lo hi := ⟨rfl, fun _ _ _ => rfl⟩
theorem Kg.trans (a : Kg h1 h2 lo hi) (b : Kg h2 h3 lo hi) : Kg h1 h3 lo hi := ⟨Nat.le_trans a.1 b.1, fun x hx q => (b.2 x (Nat.lt_of_lt_of_le hx a.1) q).trans (a.2 x hx q)⟩
theorem Kp.trans (a : Kp h1 h2 lo hi) (b : Kp h2 h3 lo hi) : Kp h1 h3 lo hi := ⟨b.1.trans a.1, fun x hx q => (b.2 x (by rw [a.1]; exact hx) q).trans (a.2 x hx q)⟩
theorem Kp.wide (a : Kp h1 h2 lo hi) (hl : lo' ≤ lo) (hh : hi ≤ hi') : Kp h1 h2 lo' hi' := ⟨a.1, fun x hx q => a.2 x hx (by omega)⟩
theorem Kg.wide (a : Kg h1 h2 lo hi) (hl : lo' ≤ lo) (hh : hi ≤ hi') : Kg h1 h2 lo' hi' := ⟨a.1, fun x hx q => a.2 x hx (by omega)⟩
theorem Kp.set (a : Kp h h1 lo hi) {k : Nat} (c : ev_C) (hl : lo ≤ k) (hh : k < hi) : Kp h (hset h1 k c) lo hi := ⟨a.1, fun x hx q => (hset_ne h1 c (by omega)).trans (a.2 x hx q)⟩
theorem Kg.set (a : Kg h h1 lo hi) {k : Nat} (c : ev_C) (hl : lo ≤ k) (hh : k < hi) : Kg h (hset h1 k c) lo hi := ⟨a.1, fun x hx q => (hset_ne h1 c (by omega)).trans (a.2 x hx q)⟩
theorem Kg.push (a : Kg h h1 lo hi) (c : ev_C) : Kg h (hpush h1 c) lo hi := ⟨Nat.le_succ_of_le a.1, fun x hx q => (hpush_ne h1 c (by have := a.1; omega)).trans (a.2 x hx q)⟩
theorem Kg.hat (a : Kg h h1 lo hi) {b : Nat} {c : ev_C} (H : hat h b c) (q : b < lo ∨ hi ≤ b) : hat h1 b c := ⟨Nat.lt_of_lt_of_le H.1 a.1, (a.2 b H.1 q).trans H.2⟩
theorem Kp.hat (a : Kp h h1 lo hi) {b : Nat} {c : ev_C} (H : hat h b c) (q : b < lo ∨ hi ≤ b) : hat h1 b c := a.g.hat H q
theorem FiR.kg {f : Nat} {fl : List AStp} (F : FiR h f fl) (a : Kg h h1 lo hi) (q : hi ≤ f) : FiR h1 f fl := by
  obtain ⟨f0, ks, ss, ps, bs, frs, f1, f2, f3, f4, f5, hst⟩ := F
  exact ⟨a.hat f0 (by omega), ks, ss, ps, bs, frs, a.hat f1 (by omega), a.hat f2 (by omega), a.hat f3 (by omega), a.hat f4 (by omega), a.hat f5 (by omega), hst⟩
theorem FvR.kg {fv : Value} {fl : List AStp} (F : FvR h fv fl) (a : Kg h h1 lo hi) (q : hi ≤ 126) : FvR h1 fv fl := by
  rcases F with F | ⟨e, f, e1, e2, F⟩
  · exact Or.inl F
  · exact Or.inr ⟨e, f, e1, e2, F.kg a (Nat.le_trans q e2)⟩
theorem StR.kg {b : Nat} {S : AS} (H : StR h b S) (a : Kg h h1 lo hi) (q : hi ≤ 126) (q2 : b + 4 ≤ lo ∨ hi ≤ b) : StR h1 b S := by
  obtain ⟨brf, tgf, cof, fv, t1, t2, t3, t4, e1, e2, F⟩ := H
  exact ⟨brf, tgf, cof, fv, a.hat t1 (by omega), a.hat t2 (by omega), a.hat t3 (by omega), a.hat t4 (by omega), e1, e2, F.kg a q⟩
theorem StR.kp {b : Nat} {S : AS} (H : StR h b S) (a : Kp h h1 lo hi) (q : hi ≤ 126) (q2 : b + 4 ≤ lo ∨ hi ≤ b) : StR h1 b S := H.kg a.g q q2
theorem hat.lt {b : Nat} {c : ev_C} (H : hat h b c) : b < h.1 := H.1
end S16
def mkS (B P N : Nat) (br : Nat → Nat) (co : Nat → Int64) (tg : Nat → Nat) (fl : List AStp) : AS := (B, P, N, br, co, tg, fl)
def clrS (S : AS) : AS := mkS 16 (sP S) 0 (sBr S) (sCo S) (sTg S) []
def halS (S : AS) : AS := mkS (sB S) 2 (sN S) (fun i => if i = 0 then sB S - sB S / 2 else if i = 1 then sB S / 2 else sBr S i) (sCo S) (sTg S) (sFl S)
def apS (S : AS) (c : Int64) (t : Nat) : AS := if sN S < 32 then mkS (sB S) (sP S) (sN S + 1) (sBr S) (fun i => if i = sN S then c else sCo S i) (fun i => if i = sN S then t else sTg S i) (sFl S) else S
def drS (S : AS) (c : Nat) : AS := mkS (sB S) (sP S) (sN S - 1) (sBr S) (fun i => if i < c then sCo S i else sCo S (i + 1)) (fun i => if i < c then sTg S i else sTg S (i + 1)) (sFl S)
def exC (x : Int64) (b o : Nat) : Int64 := if lt x b = lt x o then x else x ^^^ (((1 : Int64) <<< ((nI b).toInt64 &&& 63)) ||| ((1 : Int64) <<< ((nI o).toInt64 &&& 63)))
def exS (S : AS) (b o : Nat) : AS := mkS (sB S) (sP S) (sN S) (sBr S) (fun i => exC (sCo S i) b o) (sTg S) (sFl S)
def cutS (S : AS) (p w : Nat) : AS := mkS (sB S) (sP S + 1) (sN S) (fun i => if i < p then sBr S i else if i = p then w else if i = p + 1 then sBr S p - w else sBr S (i - 1)) (sCo S) (sTg S) (sFl S)
def joinS (S : AS) (p : Nat) : AS := mkS (sB S) (sP S - 1) (sN S) (fun i => if i < p then sBr S i else if i = p then sBr S p + sBr S (p + 1) else sBr S (i + 1)) (sCo S) (sTg S) (sFl S)
theorem nI_div {a b : Nat} (ha : a < 2147483648) (hb : b < 2147483648) : nI a / nI b = nI (a / b) := by
  have := Nat.div_le_self a b
  apply Int32.toInt_inj.mp
  rw [Int32.toInt_div, nI_toInt (by omega), nI_toInt (by omega), nI_toInt (by omega), ← Int.ofNat_tdiv]
  generalize a / b = c at *
  exact Int.bmod_eq_of_le (by omega) (by omega)
theorem nI_sub {a b : Nat} (h : b ≤ a) : nI a - nI b = nI (a - b) := by
  rw [show nI a = nI (a - b) + nI b from by rw [nI_add, Nat.sub_add_cancel h]]
  exact Int32.add_sub_cancel _ _
theorem b_St_clear_0 {G : ev_G} {d k n : Nat} {h : ev_H} {R : Option Value → ev_H → Prop} {x0 : Nat} {f_bits_1 : Int32} {f_parts_2 : Int32} {f_size_3 : Int32} {fv4 : Value}
  (a1 : hat h x0 (oC 6 [.int f_bits_1, .int f_parts_2, .ref (x0 + 1), .int f_size_3, .ref (x0 + 2), .ref (x0 + 3), fv4]))
  (k1 : R none (hset (hset (hset h x0 (oC 6 [.int (16 : Int32), .int f_parts_2, .ref (x0 + 1), .int f_size_3, .ref (x0 + 2), .ref (x0 + 3), fv4])) x0 (oC 6 [.int (16 : Int32), .int f_parts_2, .ref (x0 + 1), .int (0 : Int32), .ref (x0 + 2), .ref (x0 + 3), fv4])) x0 (oC 6 [.int (16 : Int32), .int f_parts_2, .ref (x0 + 1), .int (0 : Int32), .ref (x0 + 2), .ref (x0 + 3), .null])))
  : Ev G d k n M_St_clear 0 [.ref x0] [] h R :=
  Ev.go (pc' := 3) (ls' := [.ref x0]) (st' := [.int (16 : Int32), .ref x0]) [.aload_n 0, .bipush (16)] (by decide +kernel) rfl <|
  Ev.putf f_St_9 (by decide +kernel) a1 (Nat.le_of_ble_eq_true rfl) rfl (fun q => nomatch q) <| show Ev G d _ _ M_St_clear 6 [.ref x0] [] (hset h x0 (oC 6 [.int (16 : Int32), .int f_parts_2, .ref (x0 + 1), .int f_size_3, .ref (x0 + 2), .ref (x0 + 3), fv4])) R from
  Ev.go (pc' := 8) (ls' := [.ref x0]) (st' := [.int (0 : Int32), .ref x0]) [.aload_n 0, .iconst 0] (by decide +kernel) rfl <|
  Ev.putf f_St_22 (by decide +kernel) (hat_set a1) (Nat.le_of_ble_eq_true rfl) rfl (fun q => nomatch q) <| show Ev G d _ _ M_St_clear 11 [.ref x0] [] (hset (hset h x0 (oC 6 [.int (16 : Int32), .int f_parts_2, .ref (x0 + 1), .int f_size_3, .ref (x0 + 2), .ref (x0 + 3), fv4])) x0 (oC 6 [.int (16 : Int32), .int f_parts_2, .ref (x0 + 1), .int (0 : Int32), .ref (x0 + 2), .ref (x0 + 3), fv4])) R from
  Ev.go (pc' := 13) (ls' := [.ref x0]) (st' := [.null, .ref x0]) [.aload_n 0, .aconst_null] (by decide +kernel) rfl <|
  Ev.putf f_St_32 (by decide +kernel) (hat_set (hat_set a1)) (Nat.le_of_ble_eq_true rfl) rfl (fun q => nomatch q) <| show Ev G d _ _ M_St_clear 16 [.ref x0] [] (hset (hset (hset h x0 (oC 6 [.int (16 : Int32), .int f_parts_2, .ref (x0 + 1), .int f_size_3, .ref (x0 + 2), .ref (x0 + 3), fv4])) x0 (oC 6 [.int (16 : Int32), .int f_parts_2, .ref (x0 + 1), .int (0 : Int32), .ref (x0 + 2), .ref (x0 + 3), fv4])) x0 (oC 6 [.int (16 : Int32), .int f_parts_2, .ref (x0 + 1), .int (0 : Int32), .ref (x0 + 2), .ref (x0 + 3), .null])) R from
  Ev.ret (r := none) (Or.inr (Or.inr (Or.inl ⟨rfl, by decide +kernel, rfl⟩))) k1
theorem b_St_halve_0 {G : ev_G} {d k n : Nat} {h : ev_H} {R : Option Value → ev_H → Prop} {x0 : Nat} {f_bits_1 : Int32} {f_parts_2 : Int32} {f_size_3 : Int32} {fv4 : Value} {g5 : Nat → Int32}
  (a1 : hat h x0 (oC 6 [.int f_bits_1, .int f_parts_2, .ref (x0 + 1), .int f_size_3, .ref (x0 + 2), .ref (x0 + 3), fv4]))
  (a2 : hat h (x0 + 1) (aI 6 g5))
  (k1 : R none (hset (hset (hset h x0 (oC 6 [.int f_bits_1, .int (2 : Int32), .ref (x0 + 1), .int f_size_3, .ref (x0 + 2), .ref (x0 + 3), fv4])) (x0 + 1) (aI 6 (upd g5 0 (f_bits_1 - (f_bits_1 / (2 : Int32)))))) (x0 + 1) (aI 6 (upd (upd g5 0 (f_bits_1 - (f_bits_1 / (2 : Int32)))) 1 (f_bits_1 / (2 : Int32))))))
  : Ev G d k n M_St_halve 0 [.ref x0] [] h R :=
  Ev.go (pc' := 2) (ls' := [.ref x0]) (st' := [.int (2 : Int32), .ref x0]) [.aload_n 0, .iconst 2] (by decide +kernel) rfl <|
  Ev.putf f_St_15 (by decide +kernel) a1 (Nat.le_of_ble_eq_true rfl) rfl (fun q => nomatch q) <| show Ev G d _ _ M_St_halve 5 [.ref x0] [] (hset h x0 (oC 6 [.int f_bits_1, .int (2 : Int32), .ref (x0 + 1), .int f_size_3, .ref (x0 + 2), .ref (x0 + 3), fv4])) R from
  Ev.go (pc' := 6) (ls' := [.ref x0]) (st' := [.ref x0]) [.aload_n 0] (by decide +kernel) rfl <|
  Ev.getf f_St_18 (by decide +kernel) (hat_set a1) rfl <|
  Ev.go (pc' := 11) (ls' := [.ref x0]) (st' := [.ref x0, .int (0 : Int32), .ref (x0 + 1)]) [.iconst 0, .aload_n 0] (by decide +kernel) rfl <|
  Ev.getf f_St_9 (by decide +kernel) (hat_set a1) rfl <|
  Ev.go (pc' := 15) (ls' := [.ref x0]) (st' := [.ref x0, .int f_bits_1, .int (0 : Int32), .ref (x0 + 1)]) [.aload_n 0] (by decide +kernel) rfl <|
  Ev.getf f_St_9 (by decide +kernel) (hat_set a1) rfl <|
  Ev.go (pc' := 19) (ls' := [.ref x0]) (st' := [.int (2 : Int32), .int f_bits_1, .int f_bits_1, .int (0 : Int32), .ref (x0 + 1)]) [.iconst 2] (by decide +kernel) rfl <|
  Ev.idiv (by decide +kernel) (by decide) <|
  Ev.go (pc' := 21) (ls' := [.ref x0]) (st' := [.int (f_bits_1 - (f_bits_1 / (2 : Int32))), .int (0 : Int32), .ref (x0 + 1)]) [.isub] (by decide +kernel) rfl <|
  Ev.iast (j := 0) (by decide +kernel) (hat_ne a2 (by omega)) ⟨rfl, by decide, by decide⟩ <| show Ev G d _ _ M_St_halve 22 [.ref x0] [] (hset (hset h x0 (oC 6 [.int f_bits_1, .int (2 : Int32), .ref (x0 + 1), .int f_size_3, .ref (x0 + 2), .ref (x0 + 3), fv4])) (x0 + 1) (aI 6 (upd g5 0 (f_bits_1 - (f_bits_1 / (2 : Int32)))))) R from
  Ev.go (pc' := 23) (ls' := [.ref x0]) (st' := [.ref x0]) [.aload_n 0] (by decide +kernel) rfl <|
  Ev.getf f_St_18 (by decide +kernel) (hat_ne (hat_set a1) (by omega)) rfl <|
  Ev.go (pc' := 28) (ls' := [.ref x0]) (st' := [.ref x0, .int (1 : Int32), .ref (x0 + 1)]) [.iconst 1, .aload_n 0] (by decide +kernel) rfl <|
  Ev.getf f_St_9 (by decide +kernel) (hat_ne (hat_set a1) (by omega)) rfl <|
  Ev.go (pc' := 32) (ls' := [.ref x0]) (st' := [.int (2 : Int32), .int f_bits_1, .int (1 : Int32), .ref (x0 + 1)]) [.iconst 2] (by decide +kernel) rfl <|
  Ev.idiv (by decide +kernel) (by decide) <|
  Ev.iast (j := 1) (by decide +kernel) (hat_set (hat_ne a2 (by omega))) ⟨rfl, by decide, by decide⟩ <| show Ev G d _ _ M_St_halve 34 [.ref x0] [] (hset (hset (hset h x0 (oC 6 [.int f_bits_1, .int (2 : Int32), .ref (x0 + 1), .int f_size_3, .ref (x0 + 2), .ref (x0 + 3), fv4])) (x0 + 1) (aI 6 (upd g5 0 (f_bits_1 - (f_bits_1 / (2 : Int32)))))) (x0 + 1) (aI 6 (upd (upd g5 0 (f_bits_1 - (f_bits_1 / (2 : Int32)))) 1 (f_bits_1 / (2 : Int32))))) R from
  Ev.ret (r := none) (Or.inr (Or.inr (Or.inl ⟨rfl, by decide +kernel, rfl⟩))) k1
theorem b_St_become_0 {G : ev_G} {d k n : Nat} {h : ev_H} {R : Option Value → ev_H → Prop} {x0 : Nat} {x1 : Nat} {f_bits_1 : Int32} {f_parts_2 : Int32} {f_size_3 : Int32} {fv4 : Value} {f_bits_5 : Int32} {f_parts_6 : Int32} {f_size_7 : Int32} {fv8 : Value} {g9 : Nat → Int32} {g10 : Nat → Int32} {g11 : Nat → Int64} {g12 : Nat → Int64} {g13 : Nat → Int32} {g14 : Nat → Int32}
  (a1 : hat h x1 (oC 6 [.int f_bits_1, .int f_parts_2, .ref (x1 + 1), .int f_size_3, .ref (x1 + 2), .ref (x1 + 3), fv4]))
  (a2 : hat h x0 (oC 6 [.int f_bits_5, .int f_parts_6, .ref (x0 + 1), .int f_size_7, .ref (x0 + 2), .ref (x0 + 3), fv8]))
  (a5 : hat h (x1 + 1) (aI 6 g9))
  (a7 : hat h (x0 + 1) (aI 6 g10))
  (a10 : hat h (x1 + 2) (aL 32 g11))
  (a13 : hat h (x0 + 2) (aL 32 g12))
  (a17 : hat h (x1 + 3) (aI 32 g13))
  (a21 : hat h (x0 + 3) (aI 32 g14))
  (e3 : x1 ≠ x0)
  (w4 : ev_fit (.object "AlikeStore$Filter") fv4 = true)
  (e6 : (x1 + 1) ≠ x0)
  (e8 : x1 ≠ (x0 + 1))
  (e9 : (x1 + 1) ≠ (x0 + 1))
  (e11 : (x1 + 2) ≠ x0)
  (e12 : (x1 + 2) ≠ (x0 + 1))
  (e14 : x1 ≠ (x0 + 2))
  (e15 : (x1 + 1) ≠ (x0 + 2))
  (e16 : (x1 + 2) ≠ (x0 + 2))
  (e18 : (x1 + 3) ≠ x0)
  (e19 : (x1 + 3) ≠ (x0 + 1))
  (e20 : (x1 + 3) ≠ (x0 + 2))
  (e22 : x1 ≠ (x0 + 3))
  (e23 : (x1 + 1) ≠ (x0 + 3))
  (e24 : (x1 + 2) ≠ (x0 + 3))
  (e25 : (x1 + 3) ≠ (x0 + 3))
  (k1 : R none (hset (hset (hset (hset (hset (hset (hset h x0 (oC 6 [.int f_bits_1, .int f_parts_6, .ref (x0 + 1), .int f_size_7, .ref (x0 + 2), .ref (x0 + 3), fv8])) x0 (oC 6 [.int f_bits_1, .int f_parts_2, .ref (x0 + 1), .int f_size_7, .ref (x0 + 2), .ref (x0 + 3), fv8])) x0 (oC 6 [.int f_bits_1, .int f_parts_2, .ref (x0 + 1), .int f_size_3, .ref (x0 + 2), .ref (x0 + 3), fv8])) x0 (oC 6 [.int f_bits_1, .int f_parts_2, .ref (x0 + 1), .int f_size_3, .ref (x0 + 2), .ref (x0 + 3), fv4])) (x0 + 1) (aI 6 (va_cpy g9 g10 0 0 6))) (x0 + 2) (aL 32 (va_cpy g11 g12 0 0 32))) (x0 + 3) (aI 32 (va_cpy g13 g14 0 0 32))))
  : Ev G (d + 1) k n M_St_become 0 [.ref x0, .ref x1] [] h R :=
  Ev.go (pc' := 2) (ls' := [.ref x0, .ref x1]) (st' := [.ref x1, .ref x0]) [.aload_n 0, .aload_n 1] (by decide +kernel) rfl <|
  Ev.getf f_St_9 (by decide +kernel) a1 rfl <|
  Ev.putf f_St_9 (by decide +kernel) a2 (Nat.le_of_ble_eq_true rfl) rfl (fun q => nomatch q) <| show Ev G (d + 1) _ _ M_St_become 8 [.ref x0, .ref x1] [] (hset h x0 (oC 6 [.int f_bits_1, .int f_parts_6, .ref (x0 + 1), .int f_size_7, .ref (x0 + 2), .ref (x0 + 3), fv8])) R from
  Ev.go (pc' := 10) (ls' := [.ref x0, .ref x1]) (st' := [.ref x1, .ref x0]) [.aload_n 0, .aload_n 1] (by decide +kernel) rfl <|
  Ev.getf f_St_15 (by decide +kernel) (hat_ne a1 e3) rfl <|
  Ev.putf f_St_15 (by decide +kernel) (hat_set a2) (Nat.le_of_ble_eq_true rfl) rfl (fun q => nomatch q) <| show Ev G (d + 1) _ _ M_St_become 16 [.ref x0, .ref x1] [] (hset (hset h x0 (oC 6 [.int f_bits_1, .int f_parts_6, .ref (x0 + 1), .int f_size_7, .ref (x0 + 2), .ref (x0 + 3), fv8])) x0 (oC 6 [.int f_bits_1, .int f_parts_2, .ref (x0 + 1), .int f_size_7, .ref (x0 + 2), .ref (x0 + 3), fv8])) R from
  Ev.go (pc' := 18) (ls' := [.ref x0, .ref x1]) (st' := [.ref x1, .ref x0]) [.aload_n 0, .aload_n 1] (by decide +kernel) rfl <|
  Ev.getf f_St_22 (by decide +kernel) (hat_ne (hat_ne a1 e3) e3) rfl <|
  Ev.putf f_St_22 (by decide +kernel) (hat_set (hat_set a2)) (Nat.le_of_ble_eq_true rfl) rfl (fun q => nomatch q) <| show Ev G (d + 1) _ _ M_St_become 24 [.ref x0, .ref x1] [] (hset (hset (hset h x0 (oC 6 [.int f_bits_1, .int f_parts_6, .ref (x0 + 1), .int f_size_7, .ref (x0 + 2), .ref (x0 + 3), fv8])) x0 (oC 6 [.int f_bits_1, .int f_parts_2, .ref (x0 + 1), .int f_size_7, .ref (x0 + 2), .ref (x0 + 3), fv8])) x0 (oC 6 [.int f_bits_1, .int f_parts_2, .ref (x0 + 1), .int f_size_3, .ref (x0 + 2), .ref (x0 + 3), fv8])) R from
  Ev.go (pc' := 26) (ls' := [.ref x0, .ref x1]) (st' := [.ref x1, .ref x0]) [.aload_n 0, .aload_n 1] (by decide +kernel) rfl <|
  Ev.getf f_St_32 (by decide +kernel) (hat_ne (hat_ne (hat_ne a1 e3) e3) e3) rfl <|
  Ev.putf f_St_32 (by decide +kernel) (hat_set (hat_set (hat_set a2))) (Nat.le_of_ble_eq_true rfl) w4 (fun q => nomatch q) <| show Ev G (d + 1) _ _ M_St_become 32 [.ref x0, .ref x1] [] (hset (hset (hset (hset h x0 (oC 6 [.int f_bits_1, .int f_parts_6, .ref (x0 + 1), .int f_size_7, .ref (x0 + 2), .ref (x0 + 3), fv8])) x0 (oC 6 [.int f_bits_1, .int f_parts_2, .ref (x0 + 1), .int f_size_7, .ref (x0 + 2), .ref (x0 + 3), fv8])) x0 (oC 6 [.int f_bits_1, .int f_parts_2, .ref (x0 + 1), .int f_size_3, .ref (x0 + 2), .ref (x0 + 3), fv8])) x0 (oC 6 [.int f_bits_1, .int f_parts_2, .ref (x0 + 1), .int f_size_3, .ref (x0 + 2), .ref (x0 + 3), fv4])) R from
  Ev.go (pc' := 33) (ls' := [.ref x0, .ref x1]) (st' := [.ref x1]) [.aload_n 1] (by decide +kernel) rfl <|
  Ev.getf f_St_18 (by decide +kernel) (hat_ne (hat_ne (hat_ne (hat_ne a1 e3) e3) e3) e3) rfl <|
  Ev.go (pc' := 38) (ls' := [.ref x0, .ref x1]) (st' := [.ref x0, .int (0 : Int32), .ref (x1 + 1)]) [.iconst 0, .aload_n 0] (by decide +kernel) rfl <|
  Ev.getf f_St_18 (by decide +kernel) (hat_set (hat_set (hat_set (hat_set a2)))) rfl <|
  Ev.go (pc' := 44) (ls' := [.ref x0, .ref x1]) (st' := [.int (6 : Int32), .int (0 : Int32), .ref (x0 + 1), .int (0 : Int32), .ref (x1 + 1)]) [.iconst 0, .bipush (6)] (by decide +kernel) rfl <|
  Ev.acpyI (sp := 0) (dp := 0) (cn := 6) lL_St_39 w_cpN w_cpS w_sysI (by decide +kernel) (hat_ne (hat_ne (hat_ne (hat_ne a5 e6) e6) e6) e6) (hat_ne (hat_ne (hat_ne (hat_ne a7 (by omega)) (by omega)) (by omega)) (by omega)) rfl rfl rfl (by decide) (by decide) (by decide) (by decide) (Nat.le_of_ble_eq_true rfl) <| show Ev G (d + 1) _ _ M_St_become 47 [.ref x0, .ref x1] [] (hset (hset (hset (hset (hset h x0 (oC 6 [.int f_bits_1, .int f_parts_6, .ref (x0 + 1), .int f_size_7, .ref (x0 + 2), .ref (x0 + 3), fv8])) x0 (oC 6 [.int f_bits_1, .int f_parts_2, .ref (x0 + 1), .int f_size_7, .ref (x0 + 2), .ref (x0 + 3), fv8])) x0 (oC 6 [.int f_bits_1, .int f_parts_2, .ref (x0 + 1), .int f_size_3, .ref (x0 + 2), .ref (x0 + 3), fv8])) x0 (oC 6 [.int f_bits_1, .int f_parts_2, .ref (x0 + 1), .int f_size_3, .ref (x0 + 2), .ref (x0 + 3), fv4])) (x0 + 1) (aI 6 (va_cpy g9 g10 0 0 6))) R from
  Ev.go (pc' := 48) (ls' := [.ref x0, .ref x1]) (st' := [.ref x1]) [.aload_n 1] (by decide +kernel) rfl <|
  Ev.getf f_St_25 (by decide +kernel) (hat_ne (hat_ne (hat_ne (hat_ne (hat_ne a1 e3) e3) e3) e3) e8) rfl <|
  Ev.go (pc' := 53) (ls' := [.ref x0, .ref x1]) (st' := [.ref x0, .int (0 : Int32), .ref (x1 + 2)]) [.iconst 0, .aload_n 0] (by decide +kernel) rfl <|
  Ev.getf f_St_25 (by decide +kernel) (hat_ne (hat_set (hat_set (hat_set (hat_set a2)))) (by omega)) rfl <|
  Ev.go (pc' := 59) (ls' := [.ref x0, .ref x1]) (st' := [.int (32 : Int32), .int (0 : Int32), .ref (x0 + 2), .int (0 : Int32), .ref (x1 + 2)]) [.iconst 0, .bipush (32)] (by decide +kernel) rfl <|
  Ev.acpyL (sp := 0) (dp := 0) (cn := 32) lL_St_39 w_cpN w_cpS w_sysI (by decide +kernel) (hat_ne (hat_ne (hat_ne (hat_ne (hat_ne a10 e11) e11) e11) e11) e12) (hat_ne (hat_ne (hat_ne (hat_ne (hat_ne a13 (by omega)) (by omega)) (by omega)) (by omega)) (by omega)) rfl rfl rfl (by decide) (by decide) (by decide) (by decide) (Nat.le_of_ble_eq_true rfl) <| show Ev G (d + 1) _ _ M_St_become 62 [.ref x0, .ref x1] [] (hset (hset (hset (hset (hset (hset h x0 (oC 6 [.int f_bits_1, .int f_parts_6, .ref (x0 + 1), .int f_size_7, .ref (x0 + 2), .ref (x0 + 3), fv8])) x0 (oC 6 [.int f_bits_1, .int f_parts_2, .ref (x0 + 1), .int f_size_7, .ref (x0 + 2), .ref (x0 + 3), fv8])) x0 (oC 6 [.int f_bits_1, .int f_parts_2, .ref (x0 + 1), .int f_size_3, .ref (x0 + 2), .ref (x0 + 3), fv8])) x0 (oC 6 [.int f_bits_1, .int f_parts_2, .ref (x0 + 1), .int f_size_3, .ref (x0 + 2), .ref (x0 + 3), fv4])) (x0 + 1) (aI 6 (va_cpy g9 g10 0 0 6))) (x0 + 2) (aL 32 (va_cpy g11 g12 0 0 32))) R from
  Ev.go (pc' := 63) (ls' := [.ref x0, .ref x1]) (st' := [.ref x1]) [.aload_n 1] (by decide +kernel) rfl <|
  Ev.getf f_St_29 (by decide +kernel) (hat_ne (hat_ne (hat_ne (hat_ne (hat_ne (hat_ne a1 e3) e3) e3) e3) e8) e14) rfl <|
  Ev.go (pc' := 68) (ls' := [.ref x0, .ref x1]) (st' := [.ref x0, .int (0 : Int32), .ref (x1 + 3)]) [.iconst 0, .aload_n 0] (by decide +kernel) rfl <|
  Ev.getf f_St_29 (by decide +kernel) (hat_ne (hat_ne (hat_set (hat_set (hat_set (hat_set a2)))) (by omega)) (by omega)) rfl <|
  Ev.go (pc' := 74) (ls' := [.ref x0, .ref x1]) (st' := [.int (32 : Int32), .int (0 : Int32), .ref (x0 + 3), .int (0 : Int32), .ref (x1 + 3)]) [.iconst 0, .bipush (32)] (by decide +kernel) rfl <|
  Ev.acpyI (sp := 0) (dp := 0) (cn := 32) lL_St_39 w_cpN w_cpS w_sysI (by decide +kernel) (hat_ne (hat_ne (hat_ne (hat_ne (hat_ne (hat_ne a17 e18) e18) e18) e18) e19) e20) (hat_ne (hat_ne (hat_ne (hat_ne (hat_ne (hat_ne a21 (by omega)) (by omega)) (by omega)) (by omega)) (by omega)) (by omega)) rfl rfl rfl (by decide) (by decide) (by decide) (by decide) (Nat.le_of_ble_eq_true rfl) <| show Ev G (d + 1) _ _ M_St_become 77 [.ref x0, .ref x1] [] (hset (hset (hset (hset (hset (hset (hset h x0 (oC 6 [.int f_bits_1, .int f_parts_6, .ref (x0 + 1), .int f_size_7, .ref (x0 + 2), .ref (x0 + 3), fv8])) x0 (oC 6 [.int f_bits_1, .int f_parts_2, .ref (x0 + 1), .int f_size_7, .ref (x0 + 2), .ref (x0 + 3), fv8])) x0 (oC 6 [.int f_bits_1, .int f_parts_2, .ref (x0 + 1), .int f_size_3, .ref (x0 + 2), .ref (x0 + 3), fv8])) x0 (oC 6 [.int f_bits_1, .int f_parts_2, .ref (x0 + 1), .int f_size_3, .ref (x0 + 2), .ref (x0 + 3), fv4])) (x0 + 1) (aI 6 (va_cpy g9 g10 0 0 6))) (x0 + 2) (aL 32 (va_cpy g11 g12 0 0 32))) (x0 + 3) (aI 32 (va_cpy g13 g14 0 0 32))) R from
  Ev.ret (r := none) (Or.inr (Or.inr (Or.inl ⟨rfl, by decide +kernel, rfl⟩))) k1
theorem b_St_append_0 {G : ev_G} {d k n : Nat} {h : ev_H} {R : Option Value → ev_H → Prop} {x0 : Nat} {x1 : Int64} {x3 : Int32} {f_bits_1 : Int32} {f_parts_2 : Int32} {f_size_3 : Int32} {fv4 : Value} {g5 : Nat → Int64} {j6 : Nat} {g7 : Nat → Int32}
  (a1 : hat h x0 (oC 6 [.int f_bits_1, .int f_parts_2, .ref (x0 + 1), .int f_size_3, .ref (x0 + 2), .ref (x0 + 3), fv4]))
  (a2 : hat h (x0 + 2) (aL 32 g5))
  (a4 : hat h (x0 + 3) (aI 32 g7))
  (i3 : f_size_3 < (32 : Int32) → ev_ix f_size_3 j6 32)
  (k1 : f_size_3 < (32 : Int32) → R none (hset (hset (hset h (x0 + 2) (aL 32 (vp_updL g5 j6 x1))) (x0 + 3) (aI 32 (upd g7 j6 x3))) x0 (oC 6 [.int f_bits_1, .int f_parts_2, .ref (x0 + 1), .int (f_size_3 + (1 : Int32)), .ref (x0 + 2), .ref (x0 + 3), fv4])))
  (k2 : ¬ f_size_3 < (32 : Int32) → R none h)
  : Ev G d k n M_St_append 0 [.ref x0, .long x1, ev_unk, .int x3] [] h R :=
  Ev.go (pc' := 1) (ls' := [.ref x0, .long x1, ev_unk, .int x3]) (st' := [.ref x0]) [.aload_n 0] (by decide +kernel) rfl <|
  Ev.getf f_St_22 (by decide +kernel) a1 rfl <|
  Ev.go (pc' := 6) (ls' := [.ref x0, .long x1, ev_unk, .int x3]) (st' := [.int (32 : Int32), .int f_size_3]) [.bipush (32)] (by decide +kernel) rfl <|
  Ev.br (i := .if_icmp .ge (33)) (P := f_size_3 < (32 : Int32)) (t := 9) (f := 39) (r := []) (by decide +kernel) rfl (fun c1 =>
    Ev.go (pc' := 10) (ls' := [.ref x0, .long x1, ev_unk, .int x3]) (st' := [.ref x0]) [.aload_n 0] (by decide +kernel) rfl <|
    Ev.getf f_St_25 (by decide +kernel) a1 rfl <|
    Ev.go (pc' := 14) (ls' := [.ref x0, .long x1, ev_unk, .int x3]) (st' := [.ref x0, .ref (x0 + 2)]) [.aload_n 0] (by decide +kernel) rfl <|
    Ev.getf f_St_22 (by decide +kernel) a1 rfl <|
    Ev.go (pc' := 18) (ls' := [.ref x0, .long x1, ev_unk, .int x3]) (st' := [.long x1, .int f_size_3, .ref (x0 + 2)]) [.lload_n 1] (by decide +kernel) rfl <|
    Ev.last (j := j6) (by decide +kernel) a2 (i3 c1) <| show Ev G d _ _ M_St_append 19 [.ref x0, .long x1, ev_unk, .int x3] [] (hset h (x0 + 2) (aL 32 (vp_updL g5 j6 x1))) R from
    Ev.go (pc' := 20) (ls' := [.ref x0, .long x1, ev_unk, .int x3]) (st' := [.ref x0]) [.aload_n 0] (by decide +kernel) rfl <|
    Ev.getf f_St_29 (by decide +kernel) (hat_ne a1 (by omega)) rfl <|
    Ev.go (pc' := 24) (ls' := [.ref x0, .long x1, ev_unk, .int x3]) (st' := [.ref x0, .ref (x0 + 3)]) [.aload_n 0] (by decide +kernel) rfl <|
    Ev.getf f_St_22 (by decide +kernel) (hat_ne a1 (by omega)) rfl <|
    Ev.go (pc' := 28) (ls' := [.ref x0, .long x1, ev_unk, .int x3]) (st' := [.int x3, .int f_size_3, .ref (x0 + 3)]) [.iload_n 3] (by decide +kernel) rfl <|
    Ev.iast (j := j6) (by decide +kernel) (hat_ne a4 (by omega)) (i3 c1) <| show Ev G d _ _ M_St_append 29 [.ref x0, .long x1, ev_unk, .int x3] [] (hset (hset h (x0 + 2) (aL 32 (vp_updL g5 j6 x1))) (x0 + 3) (aI 32 (upd g7 j6 x3))) R from
    Ev.go (pc' := 31) (ls' := [.ref x0, .long x1, ev_unk, .int x3]) (st' := [.ref x0, .ref x0]) [.aload_n 0, .dup] (by decide +kernel) rfl <|
    Ev.getf f_St_22 (by decide +kernel) (hat_ne (hat_ne a1 (by omega)) (by omega)) rfl <|
    Ev.go (pc' := 36) (ls' := [.ref x0, .long x1, ev_unk, .int x3]) (st' := [.int (f_size_3 + (1 : Int32)), .ref x0]) [.iconst 1, .iadd] (by decide +kernel) rfl <|
    Ev.putf f_St_22 (by decide +kernel) (hat_ne (hat_ne a1 (by omega)) (by omega)) (Nat.le_of_ble_eq_true rfl) rfl (fun q => nomatch q) <| show Ev G d _ _ M_St_append 39 [.ref x0, .long x1, ev_unk, .int x3] [] (hset (hset (hset h (x0 + 2) (aL 32 (vp_updL g5 j6 x1))) (x0 + 3) (aI 32 (upd g7 j6 x3))) x0 (oC 6 [.int f_bits_1, .int f_parts_2, .ref (x0 + 1), .int (f_size_3 + (1 : Int32)), .ref (x0 + 2), .ref (x0 + 3), fv4])) R from
    Ev.ret (r := none) (Or.inr (Or.inr (Or.inl ⟨rfl, by decide +kernel, rfl⟩))) (k1 c1)
  ) (fun c1 =>
    Ev.ret (r := none) (Or.inr (Or.inr (Or.inl ⟨rfl, by decide +kernel, rfl⟩))) (k2 c1)
  )
theorem b_St_drop_0 {G : ev_G} {d k n : Nat} {h : ev_H} {R : Option Value → ev_H → Prop} {x0 : Nat} {x1 : Int32}
  (k1 : Ev G d k n M_St_drop 2 [.ref x0, .int x1, .int x1] [] h R)
  : Ev G d k n M_St_drop 0 [.ref x0, .int x1, ev_unk] [] h R :=
  Ev.go (pc' := 2) (ls' := [.ref x0, .int x1, .int x1]) (st' := []) [.iload_n 1, .istore_n 2] (by decide +kernel) rfl <|
  k1
theorem b_St_drop_2 {G : ev_G} {d k n : Nat} {h : ev_H} {R : Option Value → ev_H → Prop} {x0 : Nat} {x1 : Int32} {x2 : Int32} {f_bits_1 : Int32} {f_parts_2 : Int32} {f_size_3 : Int32} {fv4 : Value} {g5 : Nat → Int64} {j6 : Nat} {j7 : Nat} {g8 : Nat → Int32}
  (a1 : hat h x0 (oC 6 [.int f_bits_1, .int f_parts_2, .ref (x0 + 1), .int f_size_3, .ref (x0 + 2), .ref (x0 + 3), fv4]))
  (a2 : hat h (x0 + 2) (aL 32 g5))
  (a5 : hat h (x0 + 3) (aI 32 g8))
  (i3 : (x2 + (1 : Int32)) < f_size_3 → ev_ix (x2 + (1 : Int32)) j6 32)
  (i4 : (x2 + (1 : Int32)) < f_size_3 → ev_ix x2 j7 32)
  (k1 : (x2 + (1 : Int32)) < f_size_3 → Ev G d k n M_St_drop 2 [.ref x0, .int x1, .int (x2 + (1 : Int32))] [] (hset (hset h (x0 + 2) (aL 32 (vp_updL g5 j7 (g5 j6)))) (x0 + 3) (aI 32 (upd g8 j7 (g8 j6)))) R)
  (k2 : ¬ (x2 + (1 : Int32)) < f_size_3 → R none (hset h x0 (oC 6 [.int f_bits_1, .int f_parts_2, .ref (x0 + 1), .int (f_size_3 - (1 : Int32)), .ref (x0 + 2), .ref (x0 + 3), fv4])))
  : Ev G d k n M_St_drop 2 [.ref x0, .int x1, .int x2] [] h R :=
  Ev.go (pc' := 6) (ls' := [.ref x0, .int x1, .int x2]) (st' := [.ref x0, .int (x2 + (1 : Int32))]) [.iload_n 2, .iconst 1, .iadd, .aload_n 0] (by decide +kernel) rfl <|
  Ev.getf f_St_22 (by decide +kernel) a1 rfl <|
  Ev.br (i := .if_icmp .ge (37)) (P := (x2 + (1 : Int32)) < f_size_3) (t := 12) (f := 46) (r := []) (by decide +kernel) rfl (fun c1 =>
    Ev.go (pc' := 13) (ls' := [.ref x0, .int x1, .int x2]) (st' := [.ref x0]) [.aload_n 0] (by decide +kernel) rfl <|
    Ev.getf f_St_25 (by decide +kernel) a1 rfl <|
    Ev.go (pc' := 18) (ls' := [.ref x0, .int x1, .int x2]) (st' := [.ref x0, .int x2, .ref (x0 + 2)]) [.iload_n 2, .aload_n 0] (by decide +kernel) rfl <|
    Ev.getf f_St_25 (by decide +kernel) a1 rfl <|
    Ev.go (pc' := 24) (ls' := [.ref x0, .int x1, .int x2]) (st' := [.int (x2 + (1 : Int32)), .ref (x0 + 2), .int x2, .ref (x0 + 2)]) [.iload_n 2, .iconst 1, .iadd] (by decide +kernel) rfl <|
    Ev.lald (j := j6) (by decide +kernel) a2 (i3 c1) <|
    Ev.last (j := j7) (by decide +kernel) a2 (i4 c1) <| show Ev G d _ _ M_St_drop 26 [.ref x0, .int x1, .int x2] [] (hset h (x0 + 2) (aL 32 (vp_updL g5 j7 (g5 j6)))) R from
    Ev.go (pc' := 27) (ls' := [.ref x0, .int x1, .int x2]) (st' := [.ref x0]) [.aload_n 0] (by decide +kernel) rfl <|
    Ev.getf f_St_29 (by decide +kernel) (hat_ne a1 (by omega)) rfl <|
    Ev.go (pc' := 32) (ls' := [.ref x0, .int x1, .int x2]) (st' := [.ref x0, .int x2, .ref (x0 + 3)]) [.iload_n 2, .aload_n 0] (by decide +kernel) rfl <|
    Ev.getf f_St_29 (by decide +kernel) (hat_ne a1 (by omega)) rfl <|
    Ev.go (pc' := 38) (ls' := [.ref x0, .int x1, .int x2]) (st' := [.int (x2 + (1 : Int32)), .ref (x0 + 3), .int x2, .ref (x0 + 3)]) [.iload_n 2, .iconst 1, .iadd] (by decide +kernel) rfl <|
    Ev.iald (j := j6) (by decide +kernel) (hat_ne a5 (by omega)) (i3 c1) <|
    Ev.iast (j := j7) (by decide +kernel) (hat_ne a5 (by omega)) (i4 c1) <| show Ev G d _ _ M_St_drop 40 [.ref x0, .int x1, .int x2] [] (hset (hset h (x0 + 2) (aL 32 (vp_updL g5 j7 (g5 j6)))) (x0 + 3) (aI 32 (upd g8 j7 (g8 j6)))) R from
    Ev.go (pc' := 2) (ls' := [.ref x0, .int x1, .int (x2 + (1 : Int32))]) (st' := []) [.iinc 2 (1), .goto (-41)] (by decide +kernel) rfl <|
    (k1 c1)
  ) (fun c1 =>
    Ev.go (pc' := 48) (ls' := [.ref x0, .int x1, .int x2]) (st' := [.ref x0, .ref x0]) [.aload_n 0, .dup] (by decide +kernel) rfl <|
    Ev.getf f_St_22 (by decide +kernel) a1 rfl <|
    Ev.go (pc' := 53) (ls' := [.ref x0, .int x1, .int x2]) (st' := [.int (f_size_3 - (1 : Int32)), .ref x0]) [.iconst 1, .isub] (by decide +kernel) rfl <|
    Ev.putf f_St_22 (by decide +kernel) a1 (Nat.le_of_ble_eq_true rfl) rfl (fun q => nomatch q) <| show Ev G d _ _ M_St_drop 56 [.ref x0, .int x1, .int x2] [] (hset h x0 (oC 6 [.int f_bits_1, .int f_parts_2, .ref (x0 + 1), .int (f_size_3 - (1 : Int32)), .ref (x0 + 2), .ref (x0 + 3), fv4])) R from
    Ev.ret (r := none) (Or.inr (Or.inr (Or.inl ⟨rfl, by decide +kernel, rfl⟩))) (k2 c1)
  )
theorem b_St_exchange_0 {G : ev_G} {d k n : Nat} {h : ev_H} {R : Option Value → ev_H → Prop} {x0 : Nat} {x1 : Int32} {x2 : Int32}
  (k1 : Ev G (d + 1) k n M_St_exchange 5 [.ref x0, .int x1, .int x2, .int (0 : Int32), .int (0 : Int32)] [] h R)
  : Ev G (d + 1) k n M_St_exchange 0 [.ref x0, .int x1, .int x2, ev_unk, ev_unk] [] h R :=
  Ev.go (pc' := 5) (ls' := [.ref x0, .int x1, .int x2, .int (0 : Int32), .int (0 : Int32)]) (st' := []) [.iconst 0, .istore_n 3, .iconst 0, .istore 4] (by decide +kernel) rfl <|
  k1
theorem b_St_exchange_5 {G : ev_G} {d k n : Nat} {h : ev_H} {R : Option Value → ev_H → Prop} {x0 : Nat} {x1 : Int32} {x2 : Int32} {x3 : Int32} {x4 : Int32} {f_bits_1 : Int32} {f_parts_2 : Int32} {f_size_3 : Int32} {fv4 : Value} {g5 : Nat → Int64} {j6 : Nat}
  (a1 : hat h x0 (oC 6 [.int f_bits_1, .int f_parts_2, .ref (x0 + 1), .int f_size_3, .ref (x0 + 2), .ref (x0 + 3), fv4]))
  (a2 : hat h (x0 + 2) (aL 32 g5))
  (i3 : x4 < f_size_3 → ev_ix x4 j6 32)
  (i4 : x4 < f_size_3 → ¬ (b2i (tbL (g5 j6) x1)) = (b2i (tbL (g5 j6) x2)) → ev_ix x4 j6 32)
  (k1 : x4 < f_size_3 → (b2i (tbL (g5 j6) x1)) = (b2i (tbL (g5 j6) x2)) → Ev G (d + 1) k n M_St_exchange 5 [.ref x0, .int x1, .int x2, .int x3, .int (x4 + (1 : Int32))] [] h R)
  (k2 : x4 < f_size_3 → ¬ (b2i (tbL (g5 j6) x1)) = (b2i (tbL (g5 j6) x2)) → Ev G (d + 1) k n M_St_exchange 5 [.ref x0, .int x1, .int x2, .int (x3 + (1 : Int32)), .int (x4 + (1 : Int32))] [] (hset h (x0 + 2) (aL 32 (vp_updL g5 j6 ((g5 j6) ^^^ (((1 : Int64) <<< (x1.toInt64 &&& 63)) ||| ((1 : Int64) <<< (x2.toInt64 &&& 63))))))) R)
  (k3 : ¬ x4 < f_size_3 → R (some (.int x3)) h)
  : Ev G (d + 1) k n M_St_exchange 5 [.ref x0, .int x1, .int x2, .int x3, .int x4] [] h R :=
  Ev.go (pc' := 8) (ls' := [.ref x0, .int x1, .int x2, .int x3, .int x4]) (st' := [.ref x0, .int x4]) [.iload 4, .aload_n 0] (by decide +kernel) rfl <|
  Ev.getf f_St_22 (by decide +kernel) a1 rfl <|
  Ev.br (i := .if_icmp .ge (54)) (P := x4 < f_size_3) (t := 14) (f := 65) (r := []) (by decide +kernel) rfl (fun c1 =>
    Ev.go (pc' := 15) (ls' := [.ref x0, .int x1, .int x2, .int x3, .int x4]) (st' := [.ref x0]) [.aload_n 0] (by decide +kernel) rfl <|
    Ev.getf f_St_25 (by decide +kernel) a1 rfl <|
    Ev.go (pc' := 20) (ls' := [.ref x0, .int x1, .int x2, .int x3, .int x4]) (st' := [.int x4, .ref (x0 + 2)]) [.iload 4] (by decide +kernel) rfl <|
    Ev.lald (j := j6) (by decide +kernel) a2 (i3 c1) <|
    Ev.go (pc' := 22) (ls' := [.ref x0, .int x1, .int x2, .int x3, .int x4]) (st' := [.int x1, .long (g5 j6)]) [.iload_n 1] (by decide +kernel) rfl <|
    Ev.cSN0 (M' := M_X_bitOf) (as := [.long (g5 j6), .int x1]) (rest := []) l_St_45 M_X_bitOf_ok M_X_bitOf_st (by decide +kernel) rfl rfl (Nat.le_of_ble_eq_true rfl) (Nat.le_of_ble_eq_true rfl) (s_X_bitOf <| show Ev G (d + 1) _ _ M_St_exchange 25 [.ref x0, .int x1, .int x2, .int x3, .int x4] [.int (b2i (tbL (g5 j6) x1))] h R from
      Ev.go (pc' := 26) (ls' := [.ref x0, .int x1, .int x2, .int x3, .int x4]) (st' := [.ref x0, .int (b2i (tbL (g5 j6) x1))]) [.aload_n 0] (by decide +kernel) rfl <|
      Ev.getf f_St_25 (by decide +kernel) a1 rfl <|
      Ev.go (pc' := 31) (ls' := [.ref x0, .int x1, .int x2, .int x3, .int x4]) (st' := [.int x4, .ref (x0 + 2), .int (b2i (tbL (g5 j6) x1))]) [.iload 4] (by decide +kernel) rfl <|
      Ev.lald (j := j6) (by decide +kernel) a2 (i3 c1) <|
      Ev.go (pc' := 33) (ls' := [.ref x0, .int x1, .int x2, .int x3, .int x4]) (st' := [.int x2, .long (g5 j6), .int (b2i (tbL (g5 j6) x1))]) [.iload_n 2] (by decide +kernel) rfl <|
      Ev.cSN0 (M' := M_X_bitOf) (as := [.long (g5 j6), .int x2]) (rest := [.int (b2i (tbL (g5 j6) x1))]) l_St_45 M_X_bitOf_ok M_X_bitOf_st (by decide +kernel) rfl rfl (Nat.le_of_ble_eq_true rfl) (Nat.le_of_ble_eq_true rfl) (s_X_bitOf <| show Ev G (d + 1) _ _ M_St_exchange 36 [.ref x0, .int x1, .int x2, .int x3, .int x4] [.int (b2i (tbL (g5 j6) x2)), .int (b2i (tbL (g5 j6) x1))] h R from
        Ev.br (i := .if_icmp .eq (23)) (P := (b2i (tbL (g5 j6) x1)) = (b2i (tbL (g5 j6) x2))) (t := 59) (f := 39) (r := []) (by decide +kernel) rfl (fun c2 =>
          Ev.go (pc' := 5) (ls' := [.ref x0, .int x1, .int x2, .int x3, .int (x4 + (1 : Int32))]) (st' := []) [.iinc 4 (1), .goto (-57)] (by decide +kernel) rfl <|
          (k1 c1 c2)
        ) (fun c2 =>
          Ev.go (pc' := 40) (ls' := [.ref x0, .int x1, .int x2, .int x3, .int x4]) (st' := [.ref x0]) [.aload_n 0] (by decide +kernel) rfl <|
          Ev.getf f_St_25 (by decide +kernel) a1 rfl <|
          Ev.go (pc' := 46) (ls' := [.ref x0, .int x1, .int x2, .int x3, .int x4]) (st' := [.int x4, .ref (x0 + 2), .int x4, .ref (x0 + 2)]) [.iload 4, .dup2] (by decide +kernel) rfl <|
          Ev.lald (j := j6) (by decide +kernel) a2 (i4 c1 c2) <|
          Ev.go (pc' := 55) (ls' := [.ref x0, .int x1, .int x2, .int x3, .int x4]) (st' := [.long ((g5 j6) ^^^ (((1 : Int64) <<< (x1.toInt64 &&& 63)) ||| ((1 : Int64) <<< (x2.toInt64 &&& 63)))), .int x4, .ref (x0 + 2)]) [.lconst 1, .iload_n 1, .lshl, .lconst 1, .iload_n 2, .lshl, .lor, .lxor] (by decide +kernel) rfl <|
          Ev.last (j := j6) (by decide +kernel) a2 (i4 c1 c2) <| show Ev G (d + 1) _ _ M_St_exchange 56 [.ref x0, .int x1, .int x2, .int x3, .int x4] [] (hset h (x0 + 2) (aL 32 (vp_updL g5 j6 ((g5 j6) ^^^ (((1 : Int64) <<< (x1.toInt64 &&& 63)) ||| ((1 : Int64) <<< (x2.toInt64 &&& 63))))))) R from
          Ev.go (pc' := 5) (ls' := [.ref x0, .int x1, .int x2, .int (x3 + (1 : Int32)), .int (x4 + (1 : Int32))]) (st' := []) [.iinc 3 (1), .iinc 4 (1), .goto (-57)] (by decide +kernel) rfl <|
          (k2 c1 c2)
        )
      )
    )
  ) (fun c1 =>
    Ev.go (pc' := 66) (ls' := [.ref x0, .int x1, .int x2, .int x3, .int x4]) (st' := [.int x3]) [.iload_n 3] (by decide +kernel) rfl <|
    Ev.ret (r := (some (.int x3))) (Or.inl ⟨_, rfl, by decide +kernel, _, rfl, rfl⟩) (k3 c1)
  )
theorem b_St_cutPart_0 {G : ev_G} {d k n : Nat} {h : ev_H} {R : Option Value → ev_H → Prop} {x0 : Nat} {x1 : Int32} {x2 : Int32} {f_bits_1 : Int32} {f_parts_2 : Int32} {f_size_3 : Int32} {fv4 : Value}
  (a1 : hat h x0 (oC 6 [.int f_bits_1, .int f_parts_2, .ref (x0 + 1), .int f_size_3, .ref (x0 + 2), .ref (x0 + 3), fv4]))
  (k1 : Ev G (d + 1) k n M_St_cutPart 9 [.ref x0, .int x1, .int x2, .int (if (5 : Int32) < f_parts_2 then (5 : Int32) else f_parts_2)] [] h R)
  : Ev G (d + 1) k n M_St_cutPart 0 [.ref x0, .int x1, .int x2, ev_unk] [] h R :=
  Ev.go (pc' := 1) (ls' := [.ref x0, .int x1, .int x2, ev_unk]) (st' := [.ref x0]) [.aload_n 0] (by decide +kernel) rfl <|
  Ev.getf f_St_15 (by decide +kernel) a1 rfl <|
  Ev.go (pc' := 5) (ls' := [.ref x0, .int x1, .int x2, ev_unk]) (st' := [.int (5 : Int32), .int f_parts_2]) [.iconst 5] (by decide +kernel) rfl <|
  Ev.mmin lL_St_49 w_minS w_mathI w_minC (Nat.le_of_ble_eq_true rfl) (by decide +kernel) <|
  Ev.go (pc' := 9) (ls' := [.ref x0, .int x1, .int x2, .int (if (5 : Int32) < f_parts_2 then (5 : Int32) else f_parts_2)]) (st' := []) [.istore_n 3] (by decide +kernel) rfl <|
  k1
theorem b_St_cutPart_9 {G : ev_G} {d k n : Nat} {h : ev_H} {R : Option Value → ev_H → Prop} {x0 : Nat} {x1 : Int32} {x2 : Int32} {x3 : Int32} {f_bits_1 : Int32} {f_parts_2 : Int32} {f_size_3 : Int32} {fv4 : Value} {g5 : Nat → Int32} {j6 : Nat} {j7 : Nat} {j8 : Nat} {j9 : Nat}
  (a1 : hat h x0 (oC 6 [.int f_bits_1, .int f_parts_2, .ref (x0 + 1), .int f_size_3, .ref (x0 + 2), .ref (x0 + 3), fv4]))
  (a2 : hat h (x0 + 1) (aI 6 g5))
  (i3 : x1 < x3 → ev_ix (x3 - (1 : Int32)) j6 6)
  (i4 : x1 < x3 → ev_ix x3 j7 6)
  (i5 : ¬ x1 < x3 → ev_ix x1 j8 6)
  (i6 : ¬ x1 < x3 → ev_ix (x1 + (1 : Int32)) j9 6)
  (k1 : x1 < x3 → Ev G (d + 1) k n M_St_cutPart 9 [.ref x0, .int x1, .int x2, .int (x3 + (-1 : Int32))] [] (hset h (x0 + 1) (aI 6 (upd g5 j7 (g5 j6)))) R)
  (k2 : ¬ x1 < x3 → R none (hset (hset (hset h (x0 + 1) (aI 6 (upd g5 j8 x2))) (x0 + 1) (aI 6 (upd (upd g5 j8 x2) j9 (((upd g5 j8 x2) j9) - x2)))) x0 (oC 6 [.int f_bits_1, .int (f_parts_2 + (1 : Int32)), .ref (x0 + 1), .int f_size_3, .ref (x0 + 2), .ref (x0 + 3), fv4])))
  : Ev G (d + 1) k n M_St_cutPart 9 [.ref x0, .int x1, .int x2, .int x3] [] h R :=
  Ev.go (pc' := 11) (ls' := [.ref x0, .int x1, .int x2, .int x3]) (st' := [.int x1, .int x3]) [.iload_n 3, .iload_n 1] (by decide +kernel) rfl <|
  Ev.br (i := .if_icmp .le (23)) (P := x1 < x3) (t := 14) (f := 34) (r := []) (by decide +kernel) rfl (fun c1 =>
    Ev.go (pc' := 15) (ls' := [.ref x0, .int x1, .int x2, .int x3]) (st' := [.ref x0]) [.aload_n 0] (by decide +kernel) rfl <|
    Ev.getf f_St_18 (by decide +kernel) a1 rfl <|
    Ev.go (pc' := 20) (ls' := [.ref x0, .int x1, .int x2, .int x3]) (st' := [.ref x0, .int x3, .ref (x0 + 1)]) [.iload_n 3, .aload_n 0] (by decide +kernel) rfl <|
    Ev.getf f_St_18 (by decide +kernel) a1 rfl <|
    Ev.go (pc' := 26) (ls' := [.ref x0, .int x1, .int x2, .int x3]) (st' := [.int (x3 - (1 : Int32)), .ref (x0 + 1), .int x3, .ref (x0 + 1)]) [.iload_n 3, .iconst 1, .isub] (by decide +kernel) rfl <|
    Ev.iald (j := j6) (by decide +kernel) a2 (i3 c1) <|
    Ev.iast (j := j7) (by decide +kernel) a2 (i4 c1) <| show Ev G (d + 1) _ _ M_St_cutPart 28 [.ref x0, .int x1, .int x2, .int x3] [] (hset h (x0 + 1) (aI 6 (upd g5 j7 (g5 j6)))) R from
    Ev.go (pc' := 9) (ls' := [.ref x0, .int x1, .int x2, .int (x3 + (-1 : Int32))]) (st' := []) [.iinc 3 (-1), .goto (-22)] (by decide +kernel) rfl <|
    (k1 c1)
  ) (fun c1 =>
    Ev.go (pc' := 35) (ls' := [.ref x0, .int x1, .int x2, .int x3]) (st' := [.ref x0]) [.aload_n 0] (by decide +kernel) rfl <|
    Ev.getf f_St_18 (by decide +kernel) a1 rfl <|
    Ev.go (pc' := 40) (ls' := [.ref x0, .int x1, .int x2, .int x3]) (st' := [.int x2, .int x1, .ref (x0 + 1)]) [.iload_n 1, .iload_n 2] (by decide +kernel) rfl <|
    Ev.iast (j := j8) (by decide +kernel) a2 (i5 c1) <| show Ev G (d + 1) _ _ M_St_cutPart 41 [.ref x0, .int x1, .int x2, .int x3] [] (hset h (x0 + 1) (aI 6 (upd g5 j8 x2))) R from
    Ev.go (pc' := 42) (ls' := [.ref x0, .int x1, .int x2, .int x3]) (st' := [.ref x0]) [.aload_n 0] (by decide +kernel) rfl <|
    Ev.getf f_St_18 (by decide +kernel) (hat_ne a1 (by omega)) rfl <|
    Ev.go (pc' := 49) (ls' := [.ref x0, .int x1, .int x2, .int x3]) (st' := [.int (x1 + (1 : Int32)), .ref (x0 + 1), .int (x1 + (1 : Int32)), .ref (x0 + 1)]) [.iload_n 1, .iconst 1, .iadd, .dup2] (by decide +kernel) rfl <|
    Ev.iald (j := j9) (by decide +kernel) (hat_set a2) (i6 c1) <|
    Ev.go (pc' := 52) (ls' := [.ref x0, .int x1, .int x2, .int x3]) (st' := [.int (((upd g5 j8 x2) j9) - x2), .int (x1 + (1 : Int32)), .ref (x0 + 1)]) [.iload_n 2, .isub] (by decide +kernel) rfl <|
    Ev.iast (j := j9) (by decide +kernel) (hat_set a2) (i6 c1) <| show Ev G (d + 1) _ _ M_St_cutPart 53 [.ref x0, .int x1, .int x2, .int x3] [] (hset (hset h (x0 + 1) (aI 6 (upd g5 j8 x2))) (x0 + 1) (aI 6 (upd (upd g5 j8 x2) j9 (((upd g5 j8 x2) j9) - x2)))) R from
    Ev.go (pc' := 55) (ls' := [.ref x0, .int x1, .int x2, .int x3]) (st' := [.ref x0, .ref x0]) [.aload_n 0, .dup] (by decide +kernel) rfl <|
    Ev.getf f_St_15 (by decide +kernel) (hat_ne (hat_ne a1 (by omega)) (by omega)) rfl <|
    Ev.go (pc' := 60) (ls' := [.ref x0, .int x1, .int x2, .int x3]) (st' := [.int (f_parts_2 + (1 : Int32)), .ref x0]) [.iconst 1, .iadd] (by decide +kernel) rfl <|
    Ev.putf f_St_15 (by decide +kernel) (hat_ne (hat_ne a1 (by omega)) (by omega)) (Nat.le_of_ble_eq_true rfl) rfl (fun q => nomatch q) <| show Ev G (d + 1) _ _ M_St_cutPart 63 [.ref x0, .int x1, .int x2, .int x3] [] (hset (hset (hset h (x0 + 1) (aI 6 (upd g5 j8 x2))) (x0 + 1) (aI 6 (upd (upd g5 j8 x2) j9 (((upd g5 j8 x2) j9) - x2)))) x0 (oC 6 [.int f_bits_1, .int (f_parts_2 + (1 : Int32)), .ref (x0 + 1), .int f_size_3, .ref (x0 + 2), .ref (x0 + 3), fv4])) R from
    Ev.ret (r := none) (Or.inr (Or.inr (Or.inl ⟨rfl, by decide +kernel, rfl⟩))) (k2 c1)
  )
theorem b_St_joinPart_0 {G : ev_G} {d k n : Nat} {h : ev_H} {R : Option Value → ev_H → Prop} {x0 : Nat} {x1 : Int32} {f_bits_1 : Int32} {f_parts_2 : Int32} {f_size_3 : Int32} {fv4 : Value} {g5 : Nat → Int32} {j6 : Nat} {j7 : Nat}
  (a1 : hat h x0 (oC 6 [.int f_bits_1, .int f_parts_2, .ref (x0 + 1), .int f_size_3, .ref (x0 + 2), .ref (x0 + 3), fv4]))
  (a2 : hat h (x0 + 1) (aI 6 g5))
  (i3 : ev_ix x1 j6 6)
  (i4 : ev_ix (x1 + (1 : Int32)) j7 6)
  (k1 : Ev G d k n M_St_joinPart 21 [.ref x0, .int x1, .int (x1 + (1 : Int32))] [] (hset h (x0 + 1) (aI 6 (upd g5 j6 ((g5 j6) + (g5 j7))))) R)
  : Ev G d k n M_St_joinPart 0 [.ref x0, .int x1, ev_unk] [] h R :=
  Ev.go (pc' := 1) (ls' := [.ref x0, .int x1, ev_unk]) (st' := [.ref x0]) [.aload_n 0] (by decide +kernel) rfl <|
  Ev.getf f_St_18 (by decide +kernel) a1 rfl <|
  Ev.go (pc' := 6) (ls' := [.ref x0, .int x1, ev_unk]) (st' := [.int x1, .ref (x0 + 1), .int x1, .ref (x0 + 1)]) [.iload_n 1, .dup2] (by decide +kernel) rfl <|
  Ev.iald (j := j6) (by decide +kernel) a2 i3 <|
  Ev.go (pc' := 8) (ls' := [.ref x0, .int x1, ev_unk]) (st' := [.ref x0, .int (g5 j6), .int x1, .ref (x0 + 1)]) [.aload_n 0] (by decide +kernel) rfl <|
  Ev.getf f_St_18 (by decide +kernel) a1 rfl <|
  Ev.go (pc' := 14) (ls' := [.ref x0, .int x1, ev_unk]) (st' := [.int (x1 + (1 : Int32)), .ref (x0 + 1), .int (g5 j6), .int x1, .ref (x0 + 1)]) [.iload_n 1, .iconst 1, .iadd] (by decide +kernel) rfl <|
  Ev.iald (j := j7) (by decide +kernel) a2 i4 <|
  Ev.go (pc' := 16) (ls' := [.ref x0, .int x1, ev_unk]) (st' := [.int ((g5 j6) + (g5 j7)), .int x1, .ref (x0 + 1)]) [.iadd] (by decide +kernel) rfl <|
  Ev.iast (j := j6) (by decide +kernel) a2 i3 <| show Ev G d _ _ M_St_joinPart 17 [.ref x0, .int x1, ev_unk] [] (hset h (x0 + 1) (aI 6 (upd g5 j6 ((g5 j6) + (g5 j7))))) R from
  Ev.go (pc' := 21) (ls' := [.ref x0, .int x1, .int (x1 + (1 : Int32))]) (st' := []) [.iload_n 1, .iconst 1, .iadd, .istore_n 2] (by decide +kernel) rfl <|
  k1
theorem b_St_joinPart_21 {G : ev_G} {d k n : Nat} {h : ev_H} {R : Option Value → ev_H → Prop} {x0 : Nat} {x1 : Int32} {x2 : Int32} {f_bits_1 : Int32} {f_parts_2 : Int32} {f_size_3 : Int32} {fv4 : Value} {g5 : Nat → Int32} {j6 : Nat} {j7 : Nat}
  (a1 : hat h x0 (oC 6 [.int f_bits_1, .int f_parts_2, .ref (x0 + 1), .int f_size_3, .ref (x0 + 2), .ref (x0 + 3), fv4]))
  (a2 : hat h (x0 + 1) (aI 6 g5))
  (i3 : (x2 + (1 : Int32)) < f_parts_2 → ev_ix (x2 + (1 : Int32)) j6 6)
  (i4 : (x2 + (1 : Int32)) < f_parts_2 → ev_ix x2 j7 6)
  (k1 : (x2 + (1 : Int32)) < f_parts_2 → Ev G d k n M_St_joinPart 21 [.ref x0, .int x1, .int (x2 + (1 : Int32))] [] (hset h (x0 + 1) (aI 6 (upd g5 j7 (g5 j6)))) R)
  (k2 : ¬ (x2 + (1 : Int32)) < f_parts_2 → R none (hset h x0 (oC 6 [.int f_bits_1, .int (f_parts_2 - (1 : Int32)), .ref (x0 + 1), .int f_size_3, .ref (x0 + 2), .ref (x0 + 3), fv4])))
  : Ev G d k n M_St_joinPart 21 [.ref x0, .int x1, .int x2] [] h R :=
  Ev.go (pc' := 25) (ls' := [.ref x0, .int x1, .int x2]) (st' := [.ref x0, .int (x2 + (1 : Int32))]) [.iload_n 2, .iconst 1, .iadd, .aload_n 0] (by decide +kernel) rfl <|
  Ev.getf f_St_15 (by decide +kernel) a1 rfl <|
  Ev.br (i := .if_icmp .ge (23)) (P := (x2 + (1 : Int32)) < f_parts_2) (t := 31) (f := 51) (r := []) (by decide +kernel) rfl (fun c1 =>
    Ev.go (pc' := 32) (ls' := [.ref x0, .int x1, .int x2]) (st' := [.ref x0]) [.aload_n 0] (by decide +kernel) rfl <|
    Ev.getf f_St_18 (by decide +kernel) a1 rfl <|
    Ev.go (pc' := 37) (ls' := [.ref x0, .int x1, .int x2]) (st' := [.ref x0, .int x2, .ref (x0 + 1)]) [.iload_n 2, .aload_n 0] (by decide +kernel) rfl <|
    Ev.getf f_St_18 (by decide +kernel) a1 rfl <|
    Ev.go (pc' := 43) (ls' := [.ref x0, .int x1, .int x2]) (st' := [.int (x2 + (1 : Int32)), .ref (x0 + 1), .int x2, .ref (x0 + 1)]) [.iload_n 2, .iconst 1, .iadd] (by decide +kernel) rfl <|
    Ev.iald (j := j6) (by decide +kernel) a2 (i3 c1) <|
    Ev.iast (j := j7) (by decide +kernel) a2 (i4 c1) <| show Ev G d _ _ M_St_joinPart 45 [.ref x0, .int x1, .int x2] [] (hset h (x0 + 1) (aI 6 (upd g5 j7 (g5 j6)))) R from
    Ev.go (pc' := 21) (ls' := [.ref x0, .int x1, .int (x2 + (1 : Int32))]) (st' := []) [.iinc 2 (1), .goto (-27)] (by decide +kernel) rfl <|
    (k1 c1)
  ) (fun c1 =>
    Ev.go (pc' := 53) (ls' := [.ref x0, .int x1, .int x2]) (st' := [.ref x0, .ref x0]) [.aload_n 0, .dup] (by decide +kernel) rfl <|
    Ev.getf f_St_15 (by decide +kernel) a1 rfl <|
    Ev.go (pc' := 58) (ls' := [.ref x0, .int x1, .int x2]) (st' := [.int (f_parts_2 - (1 : Int32)), .ref x0]) [.iconst 1, .isub] (by decide +kernel) rfl <|
    Ev.putf f_St_15 (by decide +kernel) a1 (Nat.le_of_ble_eq_true rfl) rfl (fun q => nomatch q) <| show Ev G d _ _ M_St_joinPart 61 [.ref x0, .int x1, .int x2] [] (hset h x0 (oC 6 [.int f_bits_1, .int (f_parts_2 - (1 : Int32)), .ref (x0 + 1), .int f_size_3, .ref (x0 + 2), .ref (x0 + 3), fv4])) R from
    Ev.ret (r := none) (Or.inr (Or.inr (Or.inl ⟨rfl, by decide +kernel, rfl⟩))) (k2 c1)
  )
section S16
variable {G : ev_G} {d : Nat} {h : ev_H} {R : Option Value → ev_H → Prop} {a : Nat} {S T : AS}
theorem s_St_clear (hS : StR h a S) (hR : ∀ h', Kp h h' a (a + 4) → StR h' a (clrS S) → R none h') : Ev G d 0 0 M_St_clear 0 [.ref a] [] h R := by
  obtain ⟨brf, tgf, cof, fv, t1, t2, t3, t4, e1, e2, F⟩ := hS
  refine b_St_clear_0 t1 (hR _ ((((Kp.refl h _ _).set _ (by omega) (by omega)).set _ (by omega) (by omega)).set _ (by omega) (by omega)) ?_)
  exact ⟨brf, tgf, cof, .null, ⟨t1.1, hset_eq _ _ _⟩, ⟨t2.1, by simp [hset, t2.2]⟩, ⟨t3.1, by simp [hset, t3.2]⟩, ⟨t4.1, by simp [hset, t4.2]⟩, e1, fun i hi => absurd hi (Nat.not_lt_zero i), Or.inl ⟨rfl, rfl⟩⟩
theorem s_St_halve (hS : StR h a S) (hb : sB S ≤ 48) (ha : a + 4 ≤ 126) (hR : ∀ h', Kp h h' a (a + 4) → StR h' a (halS S) → R none h') : Ev G d 0 0 M_St_halve 0 [.ref a] [] h R := by
  obtain ⟨brf, tgf, cof, fv, t1, t2, t3, t4, e1, e2, F⟩ := hS
  have K := (((Kp.refl h a (a + 4)).set (k := a) (oC 6 [.int (nI (sB S)), .int 2, .ref (a + 1), .int (nI (sN S)), .ref (a + 2), .ref (a + 3), fv]) (by omega) (by omega)).set (k := a + 1) (aI 6 (upd brf 0 (nI (sB S) - (nI (sB S) / (2 : Int32))))) (by omega) (by omega)).set (k := a + 1) (aI 6 (upd (upd brf 0 (nI (sB S) - (nI (sB S) / (2 : Int32)))) 1 (nI (sB S) / (2 : Int32)))) (by omega) (by omega)
  refine b_St_halve_0 t1 t2 (hR _ K ?_)
  have q2 : nI (sB S) / (2 : Int32) = nI (sB S / 2) := nI_div (b := 2) (by omega) (by omega)
  have q1 : nI (sB S) - nI (sB S / 2) = nI (sB S - sB S / 2) := nI_sub (Nat.div_le_self _ _)
  refine ⟨_, tgf, cof, fv, hat_ne (hat_ne (hat_set t1) (by omega)) (by omega), ⟨t2.1, hset_eq _ _ _⟩, ⟨t3.1, by simp [hset, t3.2]⟩, ⟨t4.1, by simp [hset, t4.2]⟩, fun i hi => ?_, e2, ?_⟩
  · rw [q2, q1]
    have hi : i < 2 := hi
    have : i = 0 ∨ i = 1 := by omega
    rcases this with rfl | rfl <;> rfl
  · rcases F with F | ⟨e, f, w1, w2, F⟩
    · exact Or.inl F
    · exact Or.inr ⟨e, f, w1, w2, F.kg K.g (Nat.le_trans ha w2)⟩
theorem FvR.fit {h : ev_H} {fv : Value} {fl : List AStp} (F : FvR h fv fl) : ev_fit (.object "AlikeStore$Filter") fv = true := by
  rcases F with ⟨_, rfl⟩ | ⟨_, f, rfl, _⟩ <;> rfl
theorem s_St_become {b : Nat} (hS : StR h a S) (hT : StR h b T) (ok : sOk T) (ha : a + 4 ≤ 126) (hab : a + 4 ≤ b ∨ b + 4 ≤ a) (hR : ∀ h', Kp h h' a (a + 4) → StR h' a T → R none h') : Ev G (d + 1) 0 0 M_St_become 0 [.ref a, .ref b] [] h R := by
  obtain ⟨brf, tgf, cof, fv, t1, t2, t3, t4, e1, e2, F⟩ := hS
  obtain ⟨brg, tgg, cog, gv, u1, u2, u3, u4, v1, v2, E⟩ := hT
  have h6 := ok.2.2.2.1
  have hz := ok.2.2.2.2.1
  have hR2 : ∀ h', Kp h h' a (a + 4) → (Kp h h' a (a + 4) → StR h' a T) → R none h' := fun h' K st => hR h' K (st K)
  refine b_St_become_0 u1 t1 u2 t2 u3 t3 u4 t4 (by omega) E.fit (by omega) (by omega) (by omega) (by omega) (by omega) (by omega) (by omega) (by omega) (by omega) (by omega) (by omega) (by omega) (by omega) (by omega) (by omega) (hR2 _ (((((((Kp.refl h a (a + 4)).set _ ?_ ?_).set _ ?_ ?_).set _ ?_ ?_).set _ ?_ ?_).set _ ?_ ?_).set _ ?_ ?_ |>.set _ ?_ ?_) ?_)
  all_goals try omega
  intro K
  refine ⟨_, _, _, gv, hat_ne (hat_ne (hat_ne ⟨t1.1, hset_eq _ _ _⟩ (by omega)) (by omega)) (by omega), hat_ne (hat_ne ⟨t2.1, hset_eq _ _ _⟩ (by omega)) (by omega), hat_ne ⟨t3.1, hset_eq _ _ _⟩ (by omega), ⟨t4.1, hset_eq _ _ _⟩, fun i hi => ?_, fun i hi => ?_, E.kg K.g ha⟩
  · unfold va_cpy; rw [if_pos (by omega), Nat.zero_add, Nat.sub_zero]; exact v1 i hi
  · unfold va_cpy; rw [if_pos (by omega), Nat.zero_add, Nat.sub_zero, if_pos (by omega)]; exact v2 i hi
theorem s_St_append {tI : Int32} {c : Int64} {t : Nat} (hS : StR h a S) (ok : sOk S) (ha : a + 4 ≤ 126) (ht : tI = nI t) (hR : ∀ h', Kp h h' a (a + 4) → StR h' a (apS S c t) → R none h') : Ev G d 0 0 M_St_append 0 [.ref a, .long c, ev_unk, .int tI] [] h R := by
  have hS0 := hS
  obtain ⟨brf, tgf, cof, fv, t1, t2, t3, t4, e1, e2, F⟩ := hS
  have hz := ok.2.2.2.2.1
  refine b_St_append_0 (j6 := sN S) t1 t3 t4 (fun q => ixn ((nI_ltI (by omega) (by decide)).mp q) (by decide)) (fun q => ?_) (fun q => ?_)
  · have q : sN S < 32 := (nI_ltI (by omega) (by decide)).mp q
    have K := ((((Kp.refl h a (a + 4)).set (k := a + 2) (aL 32 (vp_updL cof (sN S) c)) (by omega) (by omega)).set (k := a + 3) (aI 32 (upd tgf (sN S) tI)) (by omega) (by omega)).set (k := a) (oC 6 [.int (nI (sB S)), .int (nI (sP S)), .ref (a + 1), .int (nI (sN S) + 1), .ref (a + 2), .ref (a + 3), fv]) (by omega) (by omega))
    refine hR _ K ?_
    rw [nI_1]
    have e : apS S c t = mkS (sB S) (sP S) (sN S + 1) (sBr S) (fun i => if i = sN S then c else sCo S i) (fun i => if i = sN S then t else sTg S i) (sFl S) := if_pos q
    rw [e]
    rw [nI_1] at K
    refine ⟨brf, _, _, fv, ⟨t1.1, hset_eq _ _ _⟩, hat_ne (hat_ne (hat_ne t2 (by omega)) (by omega)) (by omega), hat_ne (hat_ne (hat_set t3) (by omega)) (by omega), hat_ne ⟨t4.1, hset_eq _ _ _⟩ (by omega), e1, fun i hi => ?_, F.kg K.g ha⟩
    have hi : i < sN S + 1 := hi
    by_cases ei : i = sN S
    · subst ei
      refine ⟨?_, ?_⟩
      · show vp_updL cof (sN S) c (sN S) = (if sN S = sN S then c else sCo S (sN S)); simp [vp_updL]
      · show upd tgf (sN S) tI (sN S) = nI (if sN S = sN S then t else sTg S (sN S)); simp [upd, ht]
    · refine ⟨?_, ?_⟩
      · show vp_updL cof (sN S) c i = (if i = sN S then c else sCo S i); rw [if_neg ei, ← (e2 i (by omega)).1]; exact if_neg ei
      · show upd tgf (sN S) tI i = nI (if i = sN S then t else sTg S i); rw [if_neg ei, ← (e2 i (by omega)).2]; exact if_neg ei
  · have e : apS S c t = S := if_neg fun z => q (nI_lt z (by decide))
    exact hR _ (Kp.refl _ _ _) (by rw [e]; exact hS0)
theorem s_St_drop {cI : Int32} {c : Nat} (hS : StR h a S) (ok : sOk S) (ha : a + 4 ≤ 126) (hc : cI = nI c ∧ c < sN S) (hR : ∀ h', Kp h h' a (a + 4) → StR h' a (drS S c) → R none h') : Ev G d 0 0 M_St_drop 0 [.ref a, .int cI, ev_unk] [] h R := by
  obtain ⟨rfl, hc⟩ := hc
  obtain ⟨brf, tgf, cof, fv, t1, t2, t3, t4, e1, e2, F⟩ := hS
  have hz := ok.2.2.2.2.1
  refine b_St_drop_0 ?_
  have L := up_to (P := fun i => c ≤ i → ∀ h' cof' tgf', Kp h h' a (a + 4) → hat h' a (oC 6 [.int (nI (sB S)), .int (nI (sP S)), .ref (a + 1), .int (nI (sN S)), .ref (a + 2), .ref (a + 3), fv]) → hat h' (a + 1) (aI 6 brf) → hat h' (a + 2) (aL 32 cof') → hat h' (a + 3) (aI 32 tgf') → (∀ j, j < sN S → cof' j = (if c ≤ j ∧ j < i then sCo S (j + 1) else sCo S j) ∧ tgf' j = nI (if c ≤ j ∧ j < i then sTg S (j + 1) else sTg S j)) → Ev G d 0 0 M_St_drop 2 [.ref a, .int (nI c), .int (nI i)] [] h' R) (N := sN S - 1) ?_ ?_
  · refine L c (by omega) (Nat.le_refl _) h cof tgf (Kp.refl _ _ _) t1 t2 t3 t4 fun j hj => ?_
    rw [if_neg (by omega), if_neg (by omega)]; exact e2 j hj
  · intro i hi ih hci h' cof' tgf' K g1 g2 g3 g4 ge
    refine b_St_drop_2 (j6 := i + 1) (j7 := i) g1 g3 g4 (fun _ => by rw [nI_1]; exact ixn (by omega) (by decide)) (fun _ => ixn (by omega) (by decide)) (fun _ => ?_) (fun q => absurd (by rw [nI_1]; exact nI_lt (by omega) (by omega)) q)
    rw [nI_1]
    refine ih (by omega) _ _ _ ((K.set _ (by omega) (by omega)).set _ (by omega) (by omega)) (hat_ne (hat_ne g1 (by omega)) (by omega)) (hat_ne (hat_ne g2 (by omega)) (by omega)) (hat_ne (hat_set g3) (by omega)) (⟨g4.1, hset_eq _ _ _⟩) fun j hj => ?_
    obtain ⟨v1, v2⟩ := ge (i + 1) (by omega)
    rw [if_neg (by omega)] at v1 v2
    by_cases e : j = i
    · subst e
      rw [if_pos (by omega), if_pos (by omega)]
      exact ⟨by simp only [vp_updL, if_true]; exact v1, by simp only [upd, if_true]; exact v2⟩
    · obtain ⟨u1, u2⟩ := ge j hj
      have ec : (c ≤ j ∧ j < i + 1) ↔ (c ≤ j ∧ j < i) := by omega
      simp only [ec]
      exact ⟨by simp only [vp_updL, if_neg e]; exact u1, by simp only [upd, if_neg e]; exact u2⟩
  · intro hci h' cof' tgf' K g1 g2 g3 g4 ge
    have no : ¬ nI (sN S - 1) + 1 < nI (sN S) := by rw [nI_1, Nat.sub_add_cancel (by omega)]; exact nl_self (by omega)
    refine b_St_drop_2 (j6 := 0) (j7 := 0) g1 g3 g4 (fun q => absurd q no) (fun q => absurd q no) (fun q => absurd q no) (fun _ => ?_)
    have K2 := K.set (k := a) (oC 6 [.int (nI (sB S)), .int (nI (sP S)), .ref (a + 1), .int (nI (sN S) - 1), .ref (a + 2), .ref (a + 3), fv]) (by omega) (by omega)
    refine hR _ K2 ?_
    rw [show nI (sN S) - 1 = nI (sN S - 1) from nI_sub (b := 1) (by omega)] at K2 ⊢
    refine ⟨brf, _, _, fv, ⟨g1.1, hset_eq _ _ _⟩, hat_ne g2 (by omega), hat_ne g3 (by omega), hat_ne g4 (by omega), e1, fun i hi => ?_, F.kg K2.g ha⟩
    have hi : i < sN S - 1 := hi
    obtain ⟨u1, u2⟩ := ge i (by omega)
    rw [u1, u2]
    show (if c ≤ i ∧ i < sN S - 1 then sCo S (i + 1) else sCo S i) = (if i < c then sCo S i else sCo S (i + 1)) ∧ nI (if c ≤ i ∧ i < sN S - 1 then sTg S (i + 1) else sTg S i) = nI (if i < c then sTg S i else sTg S (i + 1))
    by_cases e : i < c
    · rw [if_neg (by omega), if_pos e, if_neg (by omega), if_pos e]; exact ⟨rfl, rfl⟩
    · rw [if_pos (by omega), if_neg e, if_pos (by omega), if_neg e]; exact ⟨rfl, rfl⟩
def exN (S : AS) (b o : Nat) : Nat := cnt (fun j => lt (sCo S j) b != lt (sCo S j) o) (sN S)
theorem s_St_exchange {bI oI : Int32} {b o : Nat} (hS : StR h a S) (ok : sOk S) (ha : a + 4 ≤ 126) (hb : bI = nI b ∧ b < 64) (ho : oI = nI o ∧ o < 64) (hR : ∀ h', Kp h h' a (a + 4) → StR h' a (exS S b o) → R (some (.int (nI (exN S b o)))) h') : Ev G (d + 1) 0 0 M_St_exchange 0 [.ref a, .int bI, .int oI, ev_unk, ev_unk] [] h R := by
  obtain ⟨rfl, hb⟩ := hb
  obtain ⟨rfl, ho⟩ := ho
  obtain ⟨brf, tgf, cof, fv, t1, t2, t3, t4, e1, e2, F⟩ := hS
  have hz := ok.2.2.2.2.1
  refine b_St_exchange_0 ?_
  have L := up0 (P := fun i => ∀ h' cof', Kp h h' a (a + 4) → hat h' a (oC 6 [.int (nI (sB S)), .int (nI (sP S)), .ref (a + 1), .int (nI (sN S)), .ref (a + 2), .ref (a + 3), fv]) → hat h' (a + 1) (aI 6 brf) → hat h' (a + 2) (aL 32 cof') → hat h' (a + 3) (aI 32 tgf) → (∀ j, j < sN S → cof' j = (if j < i then exC (sCo S j) b o else sCo S j)) → Ev G (d + 1) 0 0 M_St_exchange 5 [.ref a, .int (nI b), .int (nI o), .int (nI (cnt (fun j => lt (sCo S j) b != lt (sCo S j) o) i)), .int (nI i)] [] h' R) (sN S) ?_ ?_
  · exact L h cof (Kp.refl _ _ _) t1 t2 t3 t4 fun j hj => (e2 j hj).1
  · intro i hi ih h' cof' K g1 g2 g3 g4 ge
    have gi := ge i hi
    rw [if_neg (by omega)] at gi
    refine b_St_exchange_5 (j6 := i) g1 g3 (fun _ => ixn (by omega) (by decide)) (fun _ _ => ixn (by omega) (by decide)) (fun _ q => ?_) (fun _ q => ?_) (fun q => absurd (nI_lt hi (by omega)) q)
    · rw [tbL_n hb, tbL_n ho, gi] at q
      have q : lt (sCo S i) b = lt (sCo S i) o := by revert q; cases lt (sCo S i) b <;> cases lt (sCo S i) o <;> decide
      rw [nI_1]
      have st : cnt (fun j => lt (sCo S j) b != lt (sCo S j) o) (i + 1) = cnt (fun j => lt (sCo S j) b != lt (sCo S j) o) i + if lt (sCo S i) b != lt (sCo S i) o then 1 else 0 := rfl
      rw [q] at st
      simp only [bne_self_eq_false, Bool.false_eq_true, if_false, Nat.add_zero] at st
      rw [st] at ih
      refine ih h' cof' K g1 g2 g3 g4 fun j hj => ?_
      by_cases e : j = i
      · subst e; rw [if_pos (by omega), gi]; unfold exC; rw [if_pos q]
      · rw [ge j hj]; by_cases e2 : j < i
        · rw [if_pos e2, if_pos (by omega)]
        · rw [if_neg e2, if_neg (by omega)]
    · rw [tbL_n hb, tbL_n ho, gi] at q
      have q : ¬ lt (sCo S i) b = lt (sCo S i) o := fun z => q (by rw [z])
      rw [nI_1, nI_1]
      have st : cnt (fun j => lt (sCo S j) b != lt (sCo S j) o) (i + 1) = cnt (fun j => lt (sCo S j) b != lt (sCo S j) o) i + if lt (sCo S i) b != lt (sCo S i) o then 1 else 0 := rfl
      rw [bne_iff_ne.mpr q, if_pos rfl] at st
      rw [st] at ih
      refine ih _ _ (K.set _ (by omega) (by omega)) (hat_ne g1 (by omega)) (hat_ne g2 (by omega)) ⟨g3.1, hset_eq _ _ _⟩ (hat_ne g4 (by omega)) fun j hj => ?_
      by_cases e : j = i
      · subst e; rw [if_pos (by omega)]; simp only [vp_updL, if_true]; rw [gi]; unfold exC; rw [if_neg q]
      · simp only [vp_updL, if_neg e]; rw [ge j hj]; by_cases e2 : j < i
        · rw [if_pos e2, if_pos (by omega)]
        · rw [if_neg e2, if_neg (by omega)]
  · intro h' cof' K g1 g2 g3 g4 ge
    refine b_St_exchange_5 (j6 := 0) g1 g3 (fun q => absurd q (nl_self (by omega))) (fun q => absurd q (nl_self (by omega))) (fun q => absurd q (nl_self (by omega))) (fun q => absurd q (nl_self (by omega))) (fun _ => ?_)
    refine hR _ K ⟨brf, tgf, cof', fv, g1, g2, g3, g4, e1, fun i hi => ⟨?_, (e2 i hi).2⟩, F.kg K.g ha⟩
    have hi : i < sN S := hi
    rw [ge i hi, if_pos hi]; rfl
theorem nI_dec (n : Nat) : nI (n + 1) + (-1) = nI n := by rw [← Int32.sub_eq_add_neg]; exact nI_pred n
theorem s_St_cutPart {pI wI : Int32} {p w : Nat} (hS : StR h a S) (ok : sOk S) (ha : a + 4 ≤ 126) (hp : pI = nI p ∧ p < sP S) (h5 : sP S ≤ 5) (hw : wI = nI w ∧ w ≤ sBr S p) (hR : ∀ h', Kp h h' a (a + 4) → StR h' a (cutS S p w) → R none h') : Ev G (d + 1) 0 0 M_St_cutPart 0 [.ref a, .int pI, .int wI, ev_unk] [] h R := by
  obtain ⟨rfl, hp⟩ := hp
  obtain ⟨rfl, hw⟩ := hw
  obtain ⟨brf, tgf, cof, fv, t1, t2, t3, t4, e1, e2, F⟩ := hS
  refine b_St_cutPart_0 t1 ?_
  rw [if_neg (show ¬ (5 : Int32) < nI (sP S) from nI_nlt (a := 5) h5 (by decide))]
  have L : ∀ t, p + t ≤ sP S → ∀ h' brf', Kp h h' a (a + 4) → hat h' a (oC 6 [.int (nI (sB S)), .int (nI (sP S)), .ref (a + 1), .int (nI (sN S)), .ref (a + 2), .ref (a + 3), fv]) → hat h' (a + 1) (aI 6 brf') → hat h' (a + 2) (aL 32 cof) → hat h' (a + 3) (aI 32 tgf) → (∀ j, j ≤ sP S → brf' j = (if p + t < j then brf (j - 1) else brf j)) → Ev G (d + 1) 0 0 M_St_cutPart 9 [.ref a, .int (nI p), .int (nI w), .int (nI (p + t))] [] h' R := by
    intro t
    induction t with
    | zero =>
      intro _ h' brf' K g1 g2 g3 g4 ge
      refine b_St_cutPart_9 (j6 := 0) (j7 := 0) (j8 := p) (j9 := p + 1) g1 g2 (fun q => absurd q (nl_self (by omega))) (fun q => absurd q (nl_self (by omega))) (fun _ => ixn (by omega) (by decide)) (fun _ => by rw [nI_1]; exact ixn (by omega) (by decide)) (fun q => absurd q (nl_self (by omega))) (fun _ => ?_)
      have K2 := ((K.set (k := a + 1) (aI 6 (upd brf' p (nI w))) (by omega) (by omega)).set (k := a + 1) (aI 6 (upd (upd brf' p (nI w)) (p + 1) ((upd brf' p (nI w)) (p + 1) - nI w))) (by omega) (by omega)).set (k := a) (oC 6 [.int (nI (sB S)), .int (nI (sP S) + 1), .ref (a + 1), .int (nI (sN S)), .ref (a + 2), .ref (a + 3), fv]) (by omega) (by omega)
      refine hR _ K2 ?_
      rw [nI_1] at K2 ⊢
      refine ⟨_, tgf, cof, fv, ⟨g1.1, hset_eq _ _ _⟩, hat_ne ⟨g2.1, hset_eq _ _ _⟩ (by omega), hat_ne (hat_ne (hat_ne g3 (by omega)) (by omega)) (by omega), hat_ne (hat_ne (hat_ne g4 (by omega)) (by omega)) (by omega), fun i hi => ?_, e2, F.kg K2.g ha⟩
      have hi : i < sP S + 1 := hi
      show upd (upd brf' p (nI w)) (p + 1) ((upd brf' p (nI w)) (p + 1) - nI w) i = nI (if i < p then sBr S i else if i = p then w else if i = p + 1 then sBr S p - w else sBr S (i - 1))
      have hg := ge i (by omega)
      by_cases c1 : i < p
      · rw [if_pos c1]; simp only [upd, if_neg (show ¬ i = p + 1 by omega), if_neg (show ¬ i = p by omega)]
        rw [hg, if_neg (by omega)]; exact e1 i (by omega)
      · by_cases c2 : i = p
        · rw [if_neg c1, if_pos c2]; simp only [upd, if_neg (show ¬ i = p + 1 by omega), if_pos c2]
        · by_cases c3 : i = p + 1
          · rw [if_neg c1, if_neg c2, if_pos c3]; subst c3
            simp only [upd, if_true, if_neg (show ¬ p + 1 = p by omega)]
            rw [hg, if_pos (by omega), Nat.add_sub_cancel, e1 p hp]; exact nI_sub hw
          · rw [if_neg c1, if_neg c2, if_neg c3]; simp only [upd, if_neg c3, if_neg c2]
            rw [hg, if_pos (by omega)]; exact e1 (i - 1) (by omega)
    | succ t ih =>
      intro ht h' brf' K g1 g2 g3 g4 ge
      have lt : nI p < nI (p + (t + 1)) := nI_lt (by omega) (by omega)
      refine b_St_cutPart_9 (j6 := p + t) (j7 := p + (t + 1)) (j8 := 0) (j9 := 0) g1 g2 (fun _ => ?_) (fun _ => ixn (by omega) (by decide)) (fun q => absurd lt q) (fun q => absurd lt q) (fun _ => ?_) (fun q => absurd lt q)
      · rw [show nI (p + (t + 1)) - 1 = nI (p + t) from nI_pred (p + t)]; exact ixn (by omega) (by decide)
      · rw [show nI (p + (t + 1)) + (-1) = nI (p + t) from nI_dec (p + t)]
        refine ih (by omega) _ _ (K.set _ (by omega) (by omega)) (hat_ne g1 (by omega)) ⟨g2.1, hset_eq _ _ _⟩ (hat_ne g3 (by omega)) (hat_ne g4 (by omega)) fun j hj => ?_
        by_cases c1 : j = p + (t + 1)
        · subst c1; rw [if_pos (by omega)]; simp only [upd, if_true]
          rw [ge (p + t) (by omega), if_neg (by omega)]; rfl
        · simp only [upd, if_neg c1]; rw [ge j hj]
          by_cases c2 : p + t < j
          · rw [if_pos (by omega), if_pos c2]
          · rw [if_neg (by omega), if_neg c2]
  have := L (sP S - p) (by omega) h brf (Kp.refl _ _ _) t1 t2 t3 t4 fun j hj => by rw [if_neg (by omega)]
  rw [Nat.add_sub_cancel' (by omega)] at this
  exact this
theorem s_St_joinPart {pI : Int32} {p : Nat} (hS : StR h a S) (ok : sOk S) (ha : a + 4 ≤ 126) (hp : pI = nI p ∧ p + 1 < sP S) (hR : ∀ h', Kp h h' a (a + 4) → StR h' a (joinS S p) → R none h') : Ev G d 0 0 M_St_joinPart 0 [.ref a, .int pI, ev_unk] [] h R := by
  obtain ⟨rfl, hp⟩ := hp
  obtain ⟨brf, tgf, cof, fv, t1, t2, t3, t4, e1, e2, F⟩ := hS
  have h6 := ok.2.2.2.1
  refine b_St_joinPart_0 (j6 := p) (j7 := p + 1) t1 t2 (ixn (by omega) (by decide)) (by rw [nI_1]; exact ixn (by omega) (by decide)) ?_
  have L := up_to (P := fun i => p < i → ∀ h' brf', Kp h h' a (a + 4) → hat h' a (oC 6 [.int (nI (sB S)), .int (nI (sP S)), .ref (a + 1), .int (nI (sN S)), .ref (a + 2), .ref (a + 3), fv]) → hat h' (a + 1) (aI 6 brf') → hat h' (a + 2) (aL 32 cof) → hat h' (a + 3) (aI 32 tgf) → (∀ j, j < sP S → brf' j = if j = p then brf p + brf (p + 1) else if p < j ∧ j < i then brf (j + 1) else brf j) → Ev G d 0 0 M_St_joinPart 21 [.ref a, .int (nI p), .int (nI i)] [] h' R) (N := sP S - 1) ?_ ?_
  · rw [nI_1]
    refine L (p + 1) (by omega) (by omega) _ _ ((Kp.refl h _ _).set _ (by omega) (by omega)) (hat_ne t1 (by omega)) ⟨t2.1, hset_eq _ _ _⟩ (hat_ne t3 (by omega)) (hat_ne t4 (by omega)) fun j hj => ?_
    by_cases c : j = p
    · rw [if_pos c]; simp only [upd, if_pos c]
    · rw [if_neg c, if_neg (by omega)]; simp only [upd, if_neg c]
  · intro i hi ih hpi h' brf' K g1 g2 g3 g4 ge
    refine b_St_joinPart_21 (j6 := i + 1) (j7 := i) g1 g2 (fun _ => by rw [nI_1]; exact ixn (by omega) (by decide)) (fun _ => ixn (by omega) (by decide)) (fun _ => ?_) (fun q => absurd (by rw [nI_1]; exact nI_lt (by omega) (by omega)) q)
    rw [nI_1]
    refine ih (by omega) _ _ (K.set _ (by omega) (by omega)) (hat_ne g1 (by omega)) ⟨g2.1, hset_eq _ _ _⟩ (hat_ne g3 (by omega)) (hat_ne g4 (by omega)) fun j hj => ?_
    by_cases e : j = i
    · subst e
      rw [if_neg (by omega), if_pos (by omega)]
      simp only [upd, if_true]
      rw [ge (j + 1) (by omega), if_neg (by omega), if_neg (by omega)]
    · have ec : (p < j ∧ j < i + 1) ↔ (p < j ∧ j < i) := by omega
      simp only [ec, upd, if_neg e]
      exact ge j hj
  · intro hpi h' brf' K g1 g2 g3 g4 ge
    have no : ¬ nI (sP S - 1) + 1 < nI (sP S) := by rw [nI_1, Nat.sub_add_cancel (by omega)]; exact nl_self (by omega)
    refine b_St_joinPart_21 (j6 := 0) (j7 := 0) g1 g2 (fun q => absurd q no) (fun q => absurd q no) (fun q => absurd q no) (fun _ => ?_)
    have K2 := K.set (k := a) (oC 6 [.int (nI (sB S)), .int (nI (sP S) - 1), .ref (a + 1), .int (nI (sN S)), .ref (a + 2), .ref (a + 3), fv]) (by omega) (by omega)
    refine hR _ K2 ?_
    rw [show nI (sP S) - 1 = nI (sP S - 1) from nI_sub (b := 1) (by omega)] at K2 ⊢
    refine ⟨_, tgf, cof, fv, ⟨g1.1, hset_eq _ _ _⟩, hat_ne g2 (by omega), hat_ne g3 (by omega), hat_ne g4 (by omega), fun i hi => ?_, e2, F.kg K2.g ha⟩
    have hi : i < sP S - 1 := hi
    rw [ge i (by omega)]
    show _ = nI (if i < p then sBr S i else if i = p then sBr S p + sBr S (p + 1) else sBr S (i + 1))
    by_cases c1 : i < p
    · rw [if_neg (by omega), if_neg (by omega), if_pos c1]; exact e1 i (by omega)
    · by_cases c2 : i = p
      · rw [if_pos c2, if_neg c1, if_pos c2, e1 p (by omega), e1 (p + 1) hp]; exact nI_add _ _
      · rw [if_neg c2, if_neg c1, if_neg c2, if_pos (by omega)]; exact e1 (i + 1) (by omega)
end S16
