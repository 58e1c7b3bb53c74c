/-! NUMBERS, BINARIES, WORDS, SIGNS of the text -/
def dvN (B : Nat → Nat) (s : Nat) : Nat → Nat
  | 0 => 0
  | i + 1 => dvN B s i * 10 + (B (s + i) - 48)
def bvN (B : Nat → Nat) (s : Nat) : Nat → Nat
  | 0 => 0
  | i + 1 => bvN B s i * 2 + (B (s + i) - 48)
def pNum (B : Nat → Nat) (T : Tk) (lo hi : Nat) : Nat × Nat := if T.1 = 48 then (if 8 < T.2.2 - T.2.1 then (3, 0) else if dvN B T.2.1 (T.2.2 - T.2.1) < lo then (4, 0) else if hi < dvN B T.2.1 (T.2.2 - T.2.1) then (4, 0) else (0, dvN B T.2.1 (T.2.2 - T.2.1))) else (2, 0)
def nA (p : Nat × Nat) : Int32 := if p.1 = 0 then nI p.2 else if p.1 = 2 then -2 else if p.1 = 3 then -3 else -4
def pBin (B : Nat → Nat) (T : Tk) (b : Nat) : Nat × Int64 := if T.1 = 48 then (if T.2.2 - T.2.1 = b then (if ∀ k, k < b → B (T.2.1 + k) ≤ 49 then (0, lN (bvN B T.2.1 b)) else (3, 0)) else (3, 0)) else (2, 0)
def bA (p : Nat × Int64) : Int64 := if p.1 = 0 then p.2 else if p.1 = 2 then -2 else -3
def chN (i j : Nat) : Nat := vN (ev_chr i j)
/-- the token is the i-th literal -/
def wdB (B : Nat → Nat) (T : Tk) (i : Nat) : Bool := decide (T.1 = 97 ∧ T.2.2 - T.2.1 = ev_len.getD i 0 ∧ ∀ j, j < ev_len.getD i 0 → B (T.2.1 + j) = chN i j)
theorem dvN_lt {B : Nat → Nat} {s : Nat} : ∀ n, (∀ i, i < n → dgtB (B (s + i)) = true) → dvN B s n < 10 ^ n
  | 0, _ => by show 0 < 1; omega
  | n + 1, h => by
    have ih := dvN_lt n fun i hi => h i (by omega)
    have q := of_decide_eq_true (h n (by omega))
    show dvN B s n * 10 + (B (s + n) - 48) < 10 ^ (n + 1)
    rw [Nat.pow_succ]; omega
theorem bvN_lt {B : Nat → Nat} {s : Nat} : ∀ n, (∀ i, i < n → B (s + i) ≤ 49) → bvN B s n < 2 ^ n
  | 0, _ => by show 0 < 1; omega
  | n + 1, h => by
    have ih := bvN_lt n fun i hi => h i (by omega)
    have q := h n (by omega)
    show bvN B s n * 2 + (B (s + n) - 48) < 2 ^ (n + 1)
    rw [Nat.pow_succ]; omega
theorem sb_lo {b : Nat} (h : b < 128) : sb b = nI b := (by decide +kernel : ∀ b, b < 128 → sb b = nI b) b h
theorem sb_hi {b : Nat} (h : b < 256) (h2 : 128 ≤ b) : sb b < 0 := (by decide +kernel : ∀ b, b < 256 → 128 ≤ b → sb b < 0) b h h2
theorem chr_ok : ∀ i, i < 15 → ∀ j, j < ev_len.getD i 0 → ev_chr i j = nI (chN i j) ∧ chN i j < 128 := by decide +kernel
theorem sb_eq {b c : Nat} (h : b < 256) (hc : c < 128) : sb b = nI c ↔ b = c := by
  rcases Nat.lt_or_ge b 128 with q | q
  · rw [sb_lo q]; exact nI_eq (by omega) (by omega)
  · constructor
    · intro e
      have := sb_hi h q
      rw [e] at this
      exact absurd this (nI_pos (by omega))
    · intro e; omega
theorem l_orN (a b : Nat) : lN a ||| lN b = lN (a ||| b) := by
  apply Int64.toBitVec_inj.1
  show BitVec.ofNat 64 a ||| BitVec.ofNat 64 b = BitVec.ofNat 64 (a ||| b)
  apply BitVec.eq_of_getLsbD_eq
  intro i hi
  simp [hi]
section S35
variable {G : ev_G} {d : Nat} {h : ev_H} {R : Option Value → ev_H → Prop} {B : Nat → Nat} {L : Nat} {T : Tk}
theorem s_Re_sign {c : Nat} {cI : Int32} (H : ReB h L T) (X : TxB h B L) (he : TkOk B L T) (hc : cI = nI c ∧ c < 100) (hR1 : T.1 = c → ∀ h', Kp h h' 5 6 → ReB h' L (tok B L T.2.2) → R (some (.int 0)) h') (hR2 : ¬ T.1 = c → R (some (.int 2)) h) : Ev G (d + 5) 0 0 M_Re_sign 0 [.ref 5, .int cI] [] h R := by
  obtain ⟨rfl, hc⟩ := hc
  have u : nI T.1 = nI c ↔ T.1 = c := nI_eq (by have := he.1; omega) (by omega)
  refine b_Re_sign_0 H (fun q => ?_) (fun q => hR2 fun z => q (u.mpr z))
  exact s_Re_next H X he.2.2.1 fun h' K H' => b_Re_sign_14 (hR1 (u.mp q) h' K H')
theorem s_Re_number {lo hi : Nat} {loI hiI : Int32} (H : ReB h L T) (X : TxB h B L) (he : TkOk B L T) (hl : loI = nI lo ∧ lo < 2147483648) (hh : hiI = nI hi ∧ hi < 2147483648) (hR : R (some (.int (nA (pNum B T lo hi)))) h) : Ev G d 0 0 M_Re_number 0 [.ref 5, .int loI, .int hiI, ev_unk, ev_unk] [] h R := by
  obtain ⟨rfl, hl⟩ := hl
  obtain ⟨rfl, hh⟩ := hh
  obtain ⟨hL, g, tx, tb⟩ := X
  obtain ⟨k97, le, leL, hdg, -⟩ := he
  have u : nI T.1 = 48 ↔ T.1 = 48 := nI_eq (b := 48) (by omega) (by omega)
  have sub : nI T.2.2 - nI T.2.1 = nI (T.2.2 - T.2.1) := nI_sub le
  refine b_Re_number_0 H (fun c c2 => ?_) (fun c c2 => ?_) (fun c => ?_)
  · rw [sub] at c2
    have c2 : 8 < T.2.2 - T.2.1 := (nI_ltI (a := 8) (by omega) (by omega)).mp c2
    unfold pNum at hR; rw [if_pos (u.mp c), if_pos c2] at hR; exact hR
  · rw [sub] at c2
    have c2 : ¬ 8 < T.2.2 - T.2.1 := fun z => c2 (nI_lt (a := 8) z (by omega))
    obtain ⟨-, -, dg⟩ := hdg (u.mp c)
    have dg : ∀ i, i < T.2.2 - T.2.1 → dgtB (B (T.2.1 + i)) = true := fun i hi => dg _ (by omega) (by omega)
    have e : pNum B T lo hi = if dvN B T.2.1 (T.2.2 - T.2.1) < lo then (4, 0) else if hi < dvN B T.2.1 (T.2.2 - T.2.1) then (4, 0) else (0, dvN B T.2.1 (T.2.2 - T.2.1)) := by unfold pNum; rw [if_pos (u.mp c), if_neg c2]
    rw [e] at hR
    have lim := dvN_lt _ dg
    have lim : dvN B T.2.1 (T.2.2 - T.2.1) < 100000000 := Nat.lt_of_lt_of_le lim (Nat.pow_le_pow_right (by decide) (show T.2.2 - T.2.1 ≤ 8 by omega))
    have LP := up0 (P := fun i => Ev G d 0 0 M_Re_number 37 [.ref 5, .int (nI lo), .int (nI hi), .int (nI (dvN B T.2.1 i)), .int (nI (T.2.1 + i))] [] h R) (T.2.2 - T.2.1) ?_ ?_
    · exact LP
    · intro i hi' ih
      obtain ⟨gi, bb⟩ := tb (T.2.1 + i) (by omega)
      have yes : nI (T.2.1 + i) < nI T.2.2 := nI_lt (by omega) (by omega)
      have q := of_decide_eq_true (dg i hi')
      refine b_Re_number_37 (j6 := T.2.1 + i) H tx (fun _ => ixn (by omega) (by decide)) (fun _ => ?_) (fun c => absurd yes c) (fun c => absurd yes c) (fun c => absurd yes c)
      rw [gi, sb_lo (by omega), nI_1, show (10 : Int32) = nI 10 from rfl, nI_mul, nI_add, show (48 : Int32) = nI 48 from rfl, nI_sub (by omega)]
      have ed : dvN B T.2.1 (i + 1) = dvN B T.2.1 i * 10 + B (T.2.1 + i) - 48 := by
        show dvN B T.2.1 i * 10 + (B (T.2.1 + i) - 48) = _; omega
      rw [ed] at ih
      exact ih
    · have no : ¬ nI (T.2.1 + (T.2.2 - T.2.1)) < nI T.2.2 := nI_nlt (by omega) (by omega)
      refine b_Re_number_37 (j6 := 0) H tx (fun c => absurd c no) (fun c => absurd c no) (fun _ c2 => ?_) (fun _ c2 c3 => ?_) (fun _ c2 c3 => ?_)
      · rw [if_pos ((nI_ltI (by omega) hl).mp c2)] at hR; exact hR
      · rw [if_neg (fun z => c2 (nI_lt z hl)), if_pos ((nI_ltI hh (by omega)).mp c3)] at hR; exact hR
      · rw [if_neg (fun z => c2 (nI_lt z hl)), if_neg (fun z => c3 (nI_lt z (by omega)))] at hR; exact hR
  · unfold pNum at hR; rw [if_neg (fun z => c (u.mpr z))] at hR; exact hR
theorem s_Re_binary {S : AS} (H : ReB h L T) (X : TxB h B L) (he : TkOk B L T) (hS : StR h 14 S) (hb : sB S ≤ 48) (hR : R (some (.long (bA (pBin B T (sB S))))) h) : Ev G d 0 0 M_Re_binary 0 [.ref 5, ev_unk, ev_unk, ev_unk] [] h R := by
  obtain ⟨brf, tgf, cof, fv, t1, -⟩ := hS
  obtain ⟨hL, g, tx, tb⟩ := X
  obtain ⟨k97, le, leL, hdg, -⟩ := he
  have u : nI T.1 = 48 ↔ T.1 = 48 := nI_eq (b := 48) (by omega) (by omega)
  have sub : nI T.2.2 - nI T.2.1 = nI (T.2.2 - T.2.1) := nI_sub le
  refine b_Re_binary_0 H t1 (fun c c2 => ?_) (fun c c2 => ?_) (fun c => ?_)
  · rw [sub] at c2
    have c2 : T.2.2 - T.2.1 = sB S := (nI_eq (by omega) (by omega)).mp c2
    obtain ⟨-, -, dg⟩ := hdg (u.mp c)
    have dg : ∀ i, i < sB S → dgtB (B (T.2.1 + i)) = true := fun i hi => dg _ (by omega) (by omega)
    unfold pBin at hR
    rw [if_pos (u.mp c), if_pos c2] at hR
    have LP := up0 (P := fun i => (∀ k, k < i → B (T.2.1 + k) ≤ 49) → Ev G d 0 0 M_Re_binary 43 [.ref 5, .long (lN (bvN B T.2.1 i)), ev_unk, .int (nI (T.2.1 + i))] [] h R) (sB S) ?_ ?_
    · exact LP fun k hk => absurd hk (Nat.not_lt_zero k)
    · intro i hi ih hno
      obtain ⟨gi, bb⟩ := tb (T.2.1 + i) (by omega)
      have yes : nI (T.2.1 + i) < nI T.2.2 := nI_lt (by omega) (by omega)
      have q := of_decide_eq_true (dg i hi)
      have gi : g (T.2.1 + i) = nI (B (T.2.1 + i)) := by rw [gi, sb_lo (by omega)]
      have u49 : (49 : Int32) < g (T.2.1 + i) ↔ 49 < B (T.2.1 + i) := by rw [gi]; exact nI_ltI (a := 49) (by omega) (by omega)
      refine b_Re_binary_43 (j6 := T.2.1 + i) H tx (fun _ => ixn (by omega) (by decide)) (fun _ _ => ixn (by omega) (by decide)) (fun _ c3 => ?_) (fun _ c3 => ?_) (fun c => absurd yes c)
      · have c3 := u49.mp c3
        rw [if_neg (fun z => by have := z i hi; omega)] at hR
        exact hR
      · have c3 : ¬ 49 < B (T.2.1 + i) := fun z => c3 (u49.mpr z)
        have h1 : lN (bvN B T.2.1 i) <<< ((1 : Int32).toInt64 &&& 63) = lN (bvN B T.2.1 i * 2) := by
          have := l_shN (bvN B T.2.1 i) (k := 1) (by decide); rw [Nat.pow_one] at this; exact this
        have h2 : (nI (B (T.2.1 + i)) - 48).toInt64 = lN (B (T.2.1 + i) - 48) := by
          rw [show (48 : Int32) = nI 48 from rfl, nI_sub (by omega), nI_l (by omega)]
        have h3 : bvN B T.2.1 i * 2 ||| (B (T.2.1 + i) - 48) = bvN B T.2.1 (i + 1) := by
          show _ = bvN B T.2.1 i * 2 + (B (T.2.1 + i) - 48)
          have := Nat.two_pow_add_eq_or_of_lt (i := 1) (show B (T.2.1 + i) - 48 < 2 ^ 1 by omega) (bvN B T.2.1 i)
          rw [Nat.pow_one, Nat.mul_comm] at this
          exact this.symm
        rw [gi, h1, h2, l_orN, h3, nI_1]
        refine ih fun k hk => ?_
        by_cases e : k = i
        · subst e; omega
        · exact hno k (by omega)
    · intro hno
      have no : ¬ nI (T.2.1 + sB S) < nI T.2.2 := nI_nlt (by omega) (by omega)
      refine b_Re_binary_43 (j6 := 0) H tx (fun c => absurd c no) (fun c => absurd c no) (fun c => absurd c no) (fun c => absurd c no) (fun _ => ?_)
      rw [if_pos hno] at hR; exact hR
  · rw [sub] at c2
    have c2 : ¬ T.2.2 - T.2.1 = sB S := fun z => c2 (by rw [z])
    unfold pBin at hR; rw [if_pos (u.mp c), if_neg c2] at hR; exact hR
  · unfold pBin at hR; rw [if_neg (fun z => c (u.mpr z))] at hR; exact hR
theorem s_Re_isWord {i : Nat} (hi : i < 15) (H : ReB h L T) (X : TxB h B L) (he : TkOk B L T) (hR : R (some (.int (b2i (wdB B T i)))) h) : Ev G (d + 4) 0 0 M_Re_isWord 0 [.ref 5, .ref (ev_big + i), ev_unk] [] h R := by
  obtain ⟨hL, g, tx, tb⟩ := X
  obtain ⟨k97, le, leL, -⟩ := he
  have hl := ev_len_lt hi
  have u : nI T.1 = 97 ↔ T.1 = 97 := nI_eq (b := 97) (by omega) (by omega)
  have sub : nI T.2.2 - nI T.2.1 = nI (T.2.2 - T.2.1) := nI_sub le
  have no : ¬ (T.1 = 97 ∧ T.2.2 - T.2.1 = ev_len.getD i 0 ∧ ∀ j, j < ev_len.getD i 0 → B (T.2.1 + j) = chN i j) → R (some (.int 0)) h := fun z => by
    unfold wdB at hR; rw [decide_eq_false z] at hR; exact hR
  refine b_Re_isWord_0 H hi (fun c c2 => ?_) (fun c c2 => ?_) (fun c => no fun z => c (u.mpr z.1))
  · rw [sub] at c2
    have c2 : T.2.2 - T.2.1 = ev_len.getD i 0 := (nI_eq (by omega) (by omega)).mp c2
    have LP := up0 (P := fun j => (∀ q, q < j → B (T.2.1 + q) = chN i q) → Ev G (d + 4) 0 0 M_Re_isWord 29 [.ref 5, .ref (ev_big + i), .int (nI j)] [] h R) (ev_len.getD i 0) ?_ ?_
    · exact LP fun q hq => absurd hq (Nat.not_lt_zero q)
    · intro j hj ih hno
      have yes : nI j < nI (ev_len.getD i 0) := nI_lt hj (by omega)
      obtain ⟨gi, bb⟩ := tb (T.2.1 + j) (by omega)
      obtain ⟨ec, lc⟩ := chr_ok i hi j hj
      have ue : g (T.2.1 + j) = ev_chr i j ↔ B (T.2.1 + j) = chN i j := by rw [gi, ec]; exact sb_eq bb lc
      refine b_Re_isWord_29 (j6 := T.2.1 + j) (j7 := j) H tx hi (fun _ => by rw [nI_add]; exact ixn (by omega) (by decide)) (fun _ => ixn hj (by omega)) (fun _ c3 => ?_) (fun _ c3 => ?_) (fun c => absurd yes c)
      · rw [nI_1]
        refine ih fun q hq => ?_
        by_cases e : q = j
        · subst e; exact ue.mp c3
        · exact hno q (by omega)
      · exact no fun z => c3 (ue.mpr (z.2.2 j hj))
    · intro hno
      have nn := nl_self (n := ev_len.getD i 0) (by omega)
      refine b_Re_isWord_29 (j6 := 0) (j7 := 0) H tx hi (fun c => absurd c nn) (fun c => absurd c nn) (fun c => absurd c nn) (fun c => absurd c nn) (fun _ => ?_)
      unfold wdB at hR; rw [decide_eq_true ⟨u.mp c, c2, hno⟩] at hR; exact hR
  · rw [sub] at c2
    exact no fun z => c2 (by rw [z.2.1])
end S35
