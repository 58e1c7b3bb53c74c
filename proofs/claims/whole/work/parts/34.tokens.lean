/-! THE TEXT: bytes, tokens, numbers; and the reader's methods for them -/
def sb (b : Nat) : Int32 := (nI b).toInt8.toInt32
def blkB (b : Nat) : Bool := decide (b = 32 ∨ b = 10)
def ltrB (b : Nat) : Bool := decide (97 ≤ b ∧ b ≤ 122)
def dgtB (b : Nat) : Bool := decide (48 ≤ b ∧ b ≤ 57)
def sgnB (b : Nat) : Bool := decide (b = 60 ∨ b = 61 ∨ b = 62 ∨ b = 91 ∨ b = 93 ∨ b = 59)
theorem sb_32 {b : Nat} (h : b < 256) : sb b = 32 ↔ b = 32 := (by decide +kernel : ∀ b, b < 256 → (sb b = 32 ↔ b = 32)) b h
theorem sb_10 {b : Nat} (h : b < 256) : sb b = 10 ↔ b = 10 := (by decide +kernel : ∀ b, b < 256 → (sb b = 10 ↔ b = 10)) b h
theorem sb_255 {b : Nat} (h : b < 256) : sb b &&& 255 = nI b := (by decide +kernel : ∀ b, b < 256 → sb b &&& 255 = nI b) b h
theorem sb_ltr {b : Nat} (h : b < 256) : (¬ sb b < 97 ∧ ¬ 122 < sb b) ↔ ltrB b = true := (by decide +kernel : ∀ b, b < 256 → ((¬ sb b < 97 ∧ ¬ 122 < sb b) ↔ ltrB b = true)) b h
theorem sb_dgt {b : Nat} (h : b < 256) : (¬ sb b < 48 ∧ ¬ 57 < sb b) ↔ dgtB b = true := (by decide +kernel : ∀ b, b < 256 → ((¬ sb b < 48 ∧ ¬ 57 < sb b) ↔ dgtB b = true)) b h
theorem sb_dgN {b : Nat} (h : dgtB b = true) : sb b = nI b := by
  have h := of_decide_eq_true h
  exact (by decide +kernel : ∀ b, b < 58 → sb b = nI b) b (by omega)
theorem ixo_sgn {b : Nat} (h : b < 256) : ev_ixo 4 ((nI b).toUInt32 % 65536).toInt32 < 0 ↔ sgnB b = false := (by decide +kernel : ∀ b, b < 256 → (ev_ixo 4 ((nI b).toUInt32 % 65536).toInt32 < 0 ↔ sgnB b = false)) b h
def rnF (p : Nat → Bool) (B : Nat → Nat) (L : Nat) : Nat → Nat → Nat
  | 0, e => e
  | f + 1, e => if decide (e < L) && p (B e) then rnF p B L f (e + 1) else e
/-- where a run from e on ends -/
def rn (p : Nat → Bool) (B : Nat → Nat) (L e : Nat) : Nat := rnF p B L (L - e) e
section RN
variable {p : Nat → Bool} {B : Nat → Nat} {L e : Nat}
theorem rn_step (h : e < L) (hp : p (B e) = true) : rn p B L e = rn p B L (e + 1) := by
  unfold rn
  rw [show L - e = (L - (e + 1)) + 1 by omega]
  show (if decide (e < L) && p (B e) then rnF p B L (L - (e + 1)) (e + 1) else e) = _
  rw [decide_eq_true h, hp]; rfl
theorem rn_stop (h : e < L → p (B e) = false) : rn p B L e = e := by
  unfold rn
  cases q : L - e with
  | zero => rfl
  | succ f =>
    show (if decide (e < L) && p (B e) then rnF p B L f (e + 1) else e) = e
    rw [h (by omega), Bool.and_false]; rfl
theorem rn_all : ∀ (f e : Nat), L - e = f → e ≤ rn p B L e ∧ (e ≤ L → rn p B L e ≤ L) ∧ (∀ k, e ≤ k → k < rn p B L e → p (B k) = true) ∧ (rn p B L e < L → p (B (rn p B L e)) = false)
  | 0, e, h => by
    rw [rn_stop (fun q => absurd q (by omega))]
    exact ⟨Nat.le_refl _, fun q => q, fun k h1 h2 => absurd h2 (by omega), fun q => absurd q (by omega)⟩
  | f + 1, e, h => by
    cases q : p (B e)
    · rw [rn_stop (fun _ => q)]
      exact ⟨Nat.le_refl _, fun q => q, fun k h1 h2 => absurd h2 (by omega), fun _ => q⟩
    · obtain ⟨a, b, c, d⟩ := rn_all f (e + 1) (by omega)
      rw [rn_step (by omega) q]
      refine ⟨by omega, fun _ => b (by omega), fun k h1 h2 => ?_, d⟩
      by_cases ek : k = e
      · subst ek; exact q
      · exact c k (by omega) h2
theorem rn_ge (p : Nat → Bool) (B : Nat → Nat) (L e : Nat) : e ≤ rn p B L e := (rn_all _ e rfl).1
theorem rn_le (h : e ≤ L) : rn p B L e ≤ L := (rn_all _ e rfl).2.1 h
theorem rn_in {k : Nat} (h1 : e ≤ k) (h2 : k < rn p B L e) : p (B k) = true := (rn_all _ e rfl).2.2.1 k h1 h2
theorem rn_end (h : rn p B L e < L) : p (B (rn p B L e)) = false := (rn_all _ e rfl).2.2.2 h
end RN
/-- kind (0 the end, 1 none, 97 a word, 48 digits, or the sign), start, end -/
abbrev Tk : Type := Nat × Nat × Nat
def tokA (B : Nat → Nat) (L s : Nat) : Tk := if s < L then (if ltrB (B s) then (97, s, rn ltrB B L s) else if dgtB (B s) then (if 48 < rn dgtB B L s - s then 1 else 48, s, rn dgtB B L s) else (if sgnB (B s) then B s else 1, s, s + 1)) else (0, s, s)
def tok (B : Nat → Nat) (L e : Nat) : Tk := tokA B L (rn blkB B L e)
/-- a token of the text -/
def TkOk (B : Nat → Nat) (L : Nat) (T : Tk) : Prop := T.1 ≤ 97 ∧ T.2.1 ≤ T.2.2 ∧ T.2.2 ≤ L ∧ (T.1 = 48 → T.2.1 < T.2.2 ∧ T.2.2 - T.2.1 ≤ 48 ∧ ∀ k, T.2.1 ≤ k → k < T.2.2 → dgtB (B k) = true) ∧ (T.1 = 97 → T.2.1 < T.2.2 ∧ (∀ k, T.2.1 ≤ k → k < T.2.2 → ltrB (B k) = true) ∧ (T.2.2 < L → ltrB (B T.2.2) = false)) ∧ (T.1 = 0 → L ≤ T.2.1) ∧ (sgnB T.1 = true → T.2.2 = T.2.1 + 1 ∧ B T.2.1 = T.1) ∧ (T.1 ≠ 0 → T.2.1 < T.2.2) ∧ (T.1 ≠ 0 → T.1 ≠ 1 → T.1 ≠ 97 → T.1 ≠ 48 → sgnB T.1 = true)
theorem tokA_ok (B : Nat → Nat) {L s : Nat} (hs : s ≤ L) : TkOk B L (tokA B L s) := by
  unfold tokA
  by_cases c1 : s < L
  · rw [if_pos c1]
    by_cases c2 : ltrB (B s) = true
    · rw [if_pos c2]
      have r := rn_step (p := ltrB) c1 c2
      have g := rn_ge ltrB B L (s + 1)
      have l := rn_le (p := ltrB) (B := B) (L := L) (e := s) hs
      refine ⟨by show 97 ≤ 97; omega, by show s ≤ rn ltrB B L s; omega, l, fun q => absurd q (by show ¬ 97 = 48; omega), fun _ => ⟨by show s < rn ltrB B L s; omega, fun k h1 h2 => rn_in h1 h2, fun q => rn_end q⟩, fun q => absurd q (by show ¬ 97 = 0; omega), fun q => absurd q (by show ¬ sgnB 97 = true; decide), fun _ => by show s < rn ltrB B L s; omega, fun _ _ q => absurd rfl q⟩
    · rw [if_neg c2]
      by_cases c3 : dgtB (B s) = true
      · rw [if_pos c3]
        have r := rn_step (p := dgtB) c1 c3
        have g := rn_ge dgtB B L (s + 1)
        have l := rn_le (p := dgtB) (B := B) (L := L) (e := s) hs
        by_cases c4 : 48 < rn dgtB B L s - s
        · rw [if_pos c4]
          exact ⟨by show 1 ≤ 97; omega, by show s ≤ rn dgtB B L s; omega, l, fun q => absurd q (by show ¬ 1 = 48; omega), fun q => absurd q (by show ¬ 1 = 97; omega), fun q => absurd q (by show ¬ 1 = 0; omega), fun q => absurd q (by show ¬ sgnB 1 = true; decide), fun _ => by show s < rn dgtB B L s; omega, fun _ q => absurd rfl q⟩
        · rw [if_neg c4]
          exact ⟨by show 48 ≤ 97; omega, by show s ≤ rn dgtB B L s; omega, l, fun _ => ⟨by show s < rn dgtB B L s; omega, by show rn dgtB B L s - s ≤ 48; omega, fun k h1 h2 => rn_in h1 h2⟩, fun q => absurd q (by show ¬ 48 = 97; omega), fun q => absurd q (by show ¬ 48 = 0; omega), fun q => absurd q (by show ¬ sgnB 48 = true; decide), fun _ => by show s < rn dgtB B L s; omega, fun _ _ _ q => absurd rfl q⟩
      · rw [if_neg c3]
        by_cases c4 : sgnB (B s) = true
        · rw [if_pos c4]
          have q4 := of_decide_eq_true c4
          exact ⟨by show B s ≤ 97; omega, by show s ≤ s + 1; omega, by show s + 1 ≤ L; omega, fun q => absurd q (by show ¬ B s = 48; omega), fun q => absurd q (by show ¬ B s = 97; omega), fun q => absurd q (by show ¬ B s = 0; omega), fun _ => ⟨rfl, rfl⟩, fun _ => by show s < s + 1; omega, fun _ _ _ _ => c4⟩
        · rw [if_neg c4]
          exact ⟨by show 1 ≤ 97; omega, by show s ≤ s + 1; omega, by show s + 1 ≤ L; omega, fun q => absurd q (by show ¬ 1 = 48; omega), fun q => absurd q (by show ¬ 1 = 97; omega), fun q => absurd q (by show ¬ 1 = 0; omega), fun q => absurd q (by show ¬ sgnB 1 = true; decide), fun _ => by show s < s + 1; omega, fun _ q => absurd rfl q⟩
  · rw [if_neg c1]
    exact ⟨by show 0 ≤ 97; omega, by show s ≤ s; omega, by show s ≤ L; omega, fun q => absurd q (by show ¬ 0 = 48; omega), fun q => absurd q (by show ¬ 0 = 97; omega), fun _ => by show L ≤ s; omega, fun q => absurd q (by show ¬ sgnB 0 = true; decide), fun q => absurd rfl q, fun q => absurd rfl q⟩
theorem tok_ok (B : Nat → Nat) {L e : Nat} (he : e ≤ L) : TkOk B L (tok B L e) := tokA_ok B (rn_le he)
theorem tokA_s (B : Nat → Nat) (L s : Nat) : (tokA B L s).2.1 = s := by
  unfold tokA; split
  · split
    · rfl
    · split <;> rfl
  · rfl
theorem tok_ge (B : Nat → Nat) (L e : Nat) : e ≤ (tok B L e).2.1 := by
  unfold tok; rw [tokA_s]; exact rn_ge _ _ _ _
theorem b_Re_next_0 {G : ev_G} {d k n : Nat} {h : ev_H} {R : Option Value → ev_H → Prop} {f_length_1 : Int32} {f_kind_2 : Int32} {f_start_3 : Int32} {f_end_4 : Int32}
  (a1 : hat h 5 (oC 4 [.ref 6, .ref 12, .ref 14, .ref 13, .int f_length_1, .int f_kind_2, .int f_start_3, .int f_end_4]))
  (k1 : Ev G (d + 4) k n M_Re_next 5 [.ref 5, .int f_end_4, ev_unk, ev_unk, ev_unk, ev_unk, ev_unk, ev_unk] [] h R)
  : Ev G (d + 4) k n M_Re_next 0 [.ref 5, ev_unk, ev_unk, ev_unk, ev_unk, ev_unk, ev_unk, ev_unk] [] h R :=
  Ev.go (pc' := 1) (ls' := [.ref 5, ev_unk, ev_unk, ev_unk, ev_unk, ev_unk, ev_unk, ev_unk]) (st' := [.ref 5]) [.aload_n 0] (by decide +kernel) rfl <|
  Ev.getf f_Re_49 (by decide +kernel) a1 rfl <|
  Ev.go (pc' := 5) (ls' := [.ref 5, .int f_end_4, ev_unk, ev_unk, ev_unk, ev_unk, ev_unk, ev_unk]) (st' := []) [.istore_n 1] (by decide +kernel) rfl <|
  k1
theorem b_Re_next_5 {G : ev_G} {d k n : Nat} {h : ev_H} {R : Option Value → ev_H → Prop} {x1 : Int32} {f_length_1 : Int32} {f_kind_2 : Int32} {f_start_3 : Int32} {f_end_4 : Int32} {g5 : Nat → Int32} {j6 : Nat}
  (a1 : hat h 5 (oC 4 [.ref 6, .ref 12, .ref 14, .ref 13, .int f_length_1, .int f_kind_2, .int f_start_3, .int f_end_4]))
  (a2 : hat h 13 (aB 900 g5))
  (i3 : x1 < f_length_1 → ev_ix x1 j6 900)
  (i4 : x1 < f_length_1 → ¬ (g5 j6) = (32 : Int32) → ev_ix x1 j6 900)
  (k1 : x1 < f_length_1 → (g5 j6) = (32 : Int32) → Ev G (d + 4) k n M_Re_next 5 [.ref 5, .int (x1 + (1 : Int32)), ev_unk, ev_unk, ev_unk, ev_unk, ev_unk, ev_unk] [] h R)
  (k2 : x1 < f_length_1 → ¬ (g5 j6) = (32 : Int32) → (g5 j6) = (10 : Int32) → Ev G (d + 4) k n M_Re_next 5 [.ref 5, .int (x1 + (1 : Int32)), ev_unk, ev_unk, ev_unk, ev_unk, ev_unk, ev_unk] [] h R)
  (k3 : x1 < f_length_1 → ¬ (g5 j6) = (32 : Int32) → ¬ (g5 j6) = (10 : Int32) → Ev G (d + 4) k n M_Re_next 41 [.ref 5, .int x1, ev_unk, ev_unk, ev_unk, ev_unk, ev_unk, ev_unk] [] h R)
  (k4 : ¬ x1 < f_length_1 → Ev G (d + 4) k n M_Re_next 41 [.ref 5, .int x1, ev_unk, ev_unk, ev_unk, ev_unk, ev_unk, ev_unk] [] h R)
  : Ev G (d + 4) k n M_Re_next 5 [.ref 5, .int x1, ev_unk, ev_unk, ev_unk, ev_unk, ev_unk, ev_unk] [] h R :=
  Ev.go (pc' := 7) (ls' := [.ref 5, .int x1, ev_unk, ev_unk, ev_unk, ev_unk, ev_unk, ev_unk]) (st' := [.ref 5, .int x1]) [.iload_n 1, .aload_n 0] (by decide +kernel) rfl <|
  Ev.getf f_Re_39 (by decide +kernel) a1 rfl <|
  Ev.br (i := .if_icmp .ge (31)) (P := x1 < f_length_1) (t := 13) (f := 41) (r := []) (by decide +kernel) rfl (fun c1 =>
    Ev.go (pc' := 14) (ls' := [.ref 5, .int x1, ev_unk, ev_unk, ev_unk, ev_unk, ev_unk, ev_unk]) (st' := [.ref 5]) [.aload_n 0] (by decide +kernel) rfl <|
    Ev.getf f_Re_36 (by decide +kernel) a1 rfl <|
    Ev.go (pc' := 18) (ls' := [.ref 5, .int x1, ev_unk, ev_unk, ev_unk, ev_unk, ev_unk, ev_unk]) (st' := [.int x1, .ref 13]) [.iload_n 1] (by decide +kernel) rfl <|
    Ev.bald (j := j6) (by decide +kernel) a2 (i3 c1) <|
    Ev.go (pc' := 21) (ls' := [.ref 5, .int x1, ev_unk, ev_unk, ev_unk, ev_unk, ev_unk, ev_unk]) (st' := [.int (32 : Int32), .int (g5 j6)]) [.bipush (32)] (by decide +kernel) rfl <|
    Ev.br (i := .if_icmp .eq (14)) (P := (g5 j6) = (32 : Int32)) (t := 35) (f := 24) (r := []) (by decide +kernel) rfl (fun c2 =>
      Ev.go (pc' := 5) (ls' := [.ref 5, .int (x1 + (1 : Int32)), ev_unk, ev_unk, ev_unk, ev_unk, ev_unk, ev_unk]) (st' := []) [.iinc 1 (1), .goto (-33)] (by decide +kernel) rfl <|
      (k1 c1 c2)
    ) (fun c2 =>
      Ev.go (pc' := 25) (ls' := [.ref 5, .int x1, ev_unk, ev_unk, ev_unk, ev_unk, ev_unk, ev_unk]) (st' := [.ref 5]) [.aload_n 0] (by decide +kernel) rfl <|
      Ev.getf f_Re_36 (by decide +kernel) a1 rfl <|
      Ev.go (pc' := 29) (ls' := [.ref 5, .int x1, ev_unk, ev_unk, ev_unk, ev_unk, ev_unk, ev_unk]) (st' := [.int x1, .ref 13]) [.iload_n 1] (by decide +kernel) rfl <|
      Ev.bald (j := j6) (by decide +kernel) a2 (i4 c1 c2) <|
      Ev.go (pc' := 32) (ls' := [.ref 5, .int x1, ev_unk, ev_unk, ev_unk, ev_unk, ev_unk, ev_unk]) (st' := [.int (10 : Int32), .int (g5 j6)]) [.bipush (10)] (by decide +kernel) rfl <|
      Ev.br (i := .if_icmp .ne (9)) (P := (g5 j6) = (10 : Int32)) (t := 35) (f := 41) (r := []) (by decide +kernel) rfl (fun c3 =>
        Ev.go (pc' := 5) (ls' := [.ref 5, .int (x1 + (1 : Int32)), ev_unk, ev_unk, ev_unk, ev_unk, ev_unk, ev_unk]) (st' := []) [.iinc 1 (1), .goto (-33)] (by decide +kernel) rfl <|
        (k2 c1 c2 c3)
      ) (fun c3 =>
        (k3 c1 c2 c3)
      )
    )
  ) (fun c1 =>
    (k4 c1)
  )
theorem b_Re_next_41 {G : ev_G} {d k n : Nat} {h : ev_H} {R : Option Value → ev_H → Prop} {x1 : Int32} {f_length_1 : Int32} {f_kind_2 : Int32} {f_start_3 : Int32} {f_end_4 : Int32} {g5 : Nat → Int32} {j6 : Nat}
  (a1 : hat h 5 (oC 4 [.ref 6, .ref 12, .ref 14, .ref 13, .int f_length_1, .int f_kind_2, .int f_start_3, .int f_end_4]))
  (a2 : hat h 13 (aB 900 g5))
  (i3 : x1 < f_length_1 → ev_ix x1 j6 900)
  (k1 : x1 < f_length_1 → ((g5 j6) &&& (255 : Int32)) < (97 : Int32) → ((g5 j6) &&& (255 : Int32)) < (48 : Int32) → Ev G (d + 4) k n M_Re_next 110 [.ref 5, .int x1, .int ((g5 j6) &&& (255 : Int32)), .int (0 : Int32), ev_unk, ev_unk, ev_unk, ev_unk] [.int (0 : Int32)] (hset (hset (hset h 5 (oC 4 [.ref 6, .ref 12, .ref 14, .ref 13, .int f_length_1, .int f_kind_2, .int x1, .int f_end_4])) 5 (oC 4 [.ref 6, .ref 12, .ref 14, .ref 13, .int f_length_1, .int f_kind_2, .int x1, .int x1])) 5 (oC 4 [.ref 6, .ref 12, .ref 14, .ref 13, .int f_length_1, .int (0 : Int32), .int x1, .int x1])) R)
  (k2 : x1 < f_length_1 → ((g5 j6) &&& (255 : Int32)) < (97 : Int32) → ¬ ((g5 j6) &&& (255 : Int32)) < (48 : Int32) → (57 : Int32) < ((g5 j6) &&& (255 : Int32)) → Ev G (d + 4) k n M_Re_next 110 [.ref 5, .int x1, .int ((g5 j6) &&& (255 : Int32)), .int (0 : Int32), ev_unk, ev_unk, ev_unk, ev_unk] [.int (0 : Int32)] (hset (hset (hset h 5 (oC 4 [.ref 6, .ref 12, .ref 14, .ref 13, .int f_length_1, .int f_kind_2, .int x1, .int f_end_4])) 5 (oC 4 [.ref 6, .ref 12, .ref 14, .ref 13, .int f_length_1, .int f_kind_2, .int x1, .int x1])) 5 (oC 4 [.ref 6, .ref 12, .ref 14, .ref 13, .int f_length_1, .int (0 : Int32), .int x1, .int x1])) R)
  (k3 : x1 < f_length_1 → ((g5 j6) &&& (255 : Int32)) < (97 : Int32) → ¬ ((g5 j6) &&& (255 : Int32)) < (48 : Int32) → ¬ (57 : Int32) < ((g5 j6) &&& (255 : Int32)) → Ev G (d + 4) k n M_Re_next 110 [.ref 5, .int x1, .int ((g5 j6) &&& (255 : Int32)), .int (0 : Int32), ev_unk, ev_unk, ev_unk, ev_unk] [.int (1 : Int32)] (hset (hset (hset h 5 (oC 4 [.ref 6, .ref 12, .ref 14, .ref 13, .int f_length_1, .int f_kind_2, .int x1, .int f_end_4])) 5 (oC 4 [.ref 6, .ref 12, .ref 14, .ref 13, .int f_length_1, .int f_kind_2, .int x1, .int x1])) 5 (oC 4 [.ref 6, .ref 12, .ref 14, .ref 13, .int f_length_1, .int (0 : Int32), .int x1, .int x1])) R)
  (k4 : x1 < f_length_1 → ¬ ((g5 j6) &&& (255 : Int32)) < (97 : Int32) → (122 : Int32) < ((g5 j6) &&& (255 : Int32)) → ((g5 j6) &&& (255 : Int32)) < (48 : Int32) → Ev G (d + 4) k n M_Re_next 110 [.ref 5, .int x1, .int ((g5 j6) &&& (255 : Int32)), .int (0 : Int32), ev_unk, ev_unk, ev_unk, ev_unk] [.int (0 : Int32)] (hset (hset (hset h 5 (oC 4 [.ref 6, .ref 12, .ref 14, .ref 13, .int f_length_1, .int f_kind_2, .int x1, .int f_end_4])) 5 (oC 4 [.ref 6, .ref 12, .ref 14, .ref 13, .int f_length_1, .int f_kind_2, .int x1, .int x1])) 5 (oC 4 [.ref 6, .ref 12, .ref 14, .ref 13, .int f_length_1, .int (0 : Int32), .int x1, .int x1])) R)
  (k5 : x1 < f_length_1 → ¬ ((g5 j6) &&& (255 : Int32)) < (97 : Int32) → (122 : Int32) < ((g5 j6) &&& (255 : Int32)) → ¬ ((g5 j6) &&& (255 : Int32)) < (48 : Int32) → (57 : Int32) < ((g5 j6) &&& (255 : Int32)) → Ev G (d + 4) k n M_Re_next 110 [.ref 5, .int x1, .int ((g5 j6) &&& (255 : Int32)), .int (0 : Int32), ev_unk, ev_unk, ev_unk, ev_unk] [.int (0 : Int32)] (hset (hset (hset h 5 (oC 4 [.ref 6, .ref 12, .ref 14, .ref 13, .int f_length_1, .int f_kind_2, .int x1, .int f_end_4])) 5 (oC 4 [.ref 6, .ref 12, .ref 14, .ref 13, .int f_length_1, .int f_kind_2, .int x1, .int x1])) 5 (oC 4 [.ref 6, .ref 12, .ref 14, .ref 13, .int f_length_1, .int (0 : Int32), .int x1, .int x1])) R)
  (k6 : x1 < f_length_1 → ¬ ((g5 j6) &&& (255 : Int32)) < (97 : Int32) → (122 : Int32) < ((g5 j6) &&& (255 : Int32)) → ¬ ((g5 j6) &&& (255 : Int32)) < (48 : Int32) → ¬ (57 : Int32) < ((g5 j6) &&& (255 : Int32)) → Ev G (d + 4) k n M_Re_next 110 [.ref 5, .int x1, .int ((g5 j6) &&& (255 : Int32)), .int (0 : Int32), ev_unk, ev_unk, ev_unk, ev_unk] [.int (1 : Int32)] (hset (hset (hset h 5 (oC 4 [.ref 6, .ref 12, .ref 14, .ref 13, .int f_length_1, .int f_kind_2, .int x1, .int f_end_4])) 5 (oC 4 [.ref 6, .ref 12, .ref 14, .ref 13, .int f_length_1, .int f_kind_2, .int x1, .int x1])) 5 (oC 4 [.ref 6, .ref 12, .ref 14, .ref 13, .int f_length_1, .int (0 : Int32), .int x1, .int x1])) R)
  (k7 : x1 < f_length_1 → ¬ ((g5 j6) &&& (255 : Int32)) < (97 : Int32) → ¬ (122 : Int32) < ((g5 j6) &&& (255 : Int32)) → ((g5 j6) &&& (255 : Int32)) < (48 : Int32) → Ev G (d + 4) k n M_Re_next 110 [.ref 5, .int x1, .int ((g5 j6) &&& (255 : Int32)), .int (1 : Int32), ev_unk, ev_unk, ev_unk, ev_unk] [.int (0 : Int32)] (hset (hset (hset h 5 (oC 4 [.ref 6, .ref 12, .ref 14, .ref 13, .int f_length_1, .int f_kind_2, .int x1, .int f_end_4])) 5 (oC 4 [.ref 6, .ref 12, .ref 14, .ref 13, .int f_length_1, .int f_kind_2, .int x1, .int x1])) 5 (oC 4 [.ref 6, .ref 12, .ref 14, .ref 13, .int f_length_1, .int (0 : Int32), .int x1, .int x1])) R)
  (k8 : x1 < f_length_1 → ¬ ((g5 j6) &&& (255 : Int32)) < (97 : Int32) → ¬ (122 : Int32) < ((g5 j6) &&& (255 : Int32)) → ¬ ((g5 j6) &&& (255 : Int32)) < (48 : Int32) → (57 : Int32) < ((g5 j6) &&& (255 : Int32)) → Ev G (d + 4) k n M_Re_next 110 [.ref 5, .int x1, .int ((g5 j6) &&& (255 : Int32)), .int (1 : Int32), ev_unk, ev_unk, ev_unk, ev_unk] [.int (0 : Int32)] (hset (hset (hset h 5 (oC 4 [.ref 6, .ref 12, .ref 14, .ref 13, .int f_length_1, .int f_kind_2, .int x1, .int f_end_4])) 5 (oC 4 [.ref 6, .ref 12, .ref 14, .ref 13, .int f_length_1, .int f_kind_2, .int x1, .int x1])) 5 (oC 4 [.ref 6, .ref 12, .ref 14, .ref 13, .int f_length_1, .int (0 : Int32), .int x1, .int x1])) R)
  (k9 : x1 < f_length_1 → ¬ ((g5 j6) &&& (255 : Int32)) < (97 : Int32) → ¬ (122 : Int32) < ((g5 j6) &&& (255 : Int32)) → ¬ ((g5 j6) &&& (255 : Int32)) < (48 : Int32) → ¬ (57 : Int32) < ((g5 j6) &&& (255 : Int32)) → Ev G (d + 4) k n M_Re_next 110 [.ref 5, .int x1, .int ((g5 j6) &&& (255 : Int32)), .int (1 : Int32), ev_unk, ev_unk, ev_unk, ev_unk] [.int (1 : Int32)] (hset (hset (hset h 5 (oC 4 [.ref 6, .ref 12, .ref 14, .ref 13, .int f_length_1, .int f_kind_2, .int x1, .int f_end_4])) 5 (oC 4 [.ref 6, .ref 12, .ref 14, .ref 13, .int f_length_1, .int f_kind_2, .int x1, .int x1])) 5 (oC 4 [.ref 6, .ref 12, .ref 14, .ref 13, .int f_length_1, .int (0 : Int32), .int x1, .int x1])) R)
  (k10 : ¬ x1 < f_length_1 → R none (hset (hset (hset h 5 (oC 4 [.ref 6, .ref 12, .ref 14, .ref 13, .int f_length_1, .int f_kind_2, .int x1, .int f_end_4])) 5 (oC 4 [.ref 6, .ref 12, .ref 14, .ref 13, .int f_length_1, .int f_kind_2, .int x1, .int x1])) 5 (oC 4 [.ref 6, .ref 12, .ref 14, .ref 13, .int f_length_1, .int (0 : Int32), .int x1, .int x1])))
  : Ev G (d + 4) k n M_Re_next 41 [.ref 5, .int x1, ev_unk, ev_unk, ev_unk, ev_unk, ev_unk, ev_unk] [] h R :=
  Ev.go (pc' := 43) (ls' := [.ref 5, .int x1, ev_unk, ev_unk, ev_unk, ev_unk, ev_unk, ev_unk]) (st' := [.int x1, .ref 5]) [.aload_n 0, .iload_n 1] (by decide +kernel) rfl <|
  Ev.putf f_Re_46 (by decide +kernel) a1 (Nat.le_of_ble_eq_true rfl) rfl (fun q => nomatch q) <| show Ev G (d + 4) _ _ M_Re_next 46 [.ref 5, .int x1, ev_unk, ev_unk, ev_unk, ev_unk, ev_unk, ev_unk] [] (hset h 5 (oC 4 [.ref 6, .ref 12, .ref 14, .ref 13, .int f_length_1, .int f_kind_2, .int x1, .int f_end_4])) R from
  Ev.go (pc' := 48) (ls' := [.ref 5, .int x1, ev_unk, ev_unk, ev_unk, ev_unk, ev_unk, ev_unk]) (st' := [.int x1, .ref 5]) [.aload_n 0, .iload_n 1] (by decide +kernel) rfl <|
  Ev.putf f_Re_49 (by decide +kernel) (hat_set a1) (Nat.le_of_ble_eq_true rfl) rfl (fun q => nomatch q) <| show Ev G (d + 4) _ _ M_Re_next 51 [.ref 5, .int x1, ev_unk, ev_unk, ev_unk, ev_unk, ev_unk, ev_unk] [] (hset (hset h 5 (oC 4 [.ref 6, .ref 12, .ref 14, .ref 13, .int f_length_1, .int f_kind_2, .int x1, .int f_end_4])) 5 (oC 4 [.ref 6, .ref 12, .ref 14, .ref 13, .int f_length_1, .int f_kind_2, .int x1, .int x1])) R from
  Ev.go (pc' := 53) (ls' := [.ref 5, .int x1, ev_unk, ev_unk, ev_unk, ev_unk, ev_unk, ev_unk]) (st' := [.int (0 : Int32), .ref 5]) [.aload_n 0, .iconst 0] (by decide +kernel) rfl <|
  Ev.putf f_Re_43 (by decide +kernel) (hat_set (hat_set a1)) (Nat.le_of_ble_eq_true rfl) rfl (fun q => nomatch q) <| show Ev G (d + 4) _ _ M_Re_next 56 [.ref 5, .int x1, ev_unk, ev_unk, ev_unk, ev_unk, ev_unk, ev_unk] [] (hset (hset (hset h 5 (oC 4 [.ref 6, .ref 12, .ref 14, .ref 13, .int f_length_1, .int f_kind_2, .int x1, .int f_end_4])) 5 (oC 4 [.ref 6, .ref 12, .ref 14, .ref 13, .int f_length_1, .int f_kind_2, .int x1, .int x1])) 5 (oC 4 [.ref 6, .ref 12, .ref 14, .ref 13, .int f_length_1, .int (0 : Int32), .int x1, .int x1])) R from
  Ev.go (pc' := 58) (ls' := [.ref 5, .int x1, ev_unk, ev_unk, ev_unk, ev_unk, ev_unk, ev_unk]) (st' := [.ref 5, .int x1]) [.iload_n 1, .aload_n 0] (by decide +kernel) rfl <|
  Ev.getf f_Re_39 (by decide +kernel) (hat_set (hat_set (hat_set a1))) rfl <|
  Ev.br (i := .if_icmp .ge (223)) (P := x1 < f_length_1) (t := 64) (f := 284) (r := []) (by decide +kernel) rfl (fun c1 =>
    Ev.go (pc' := 65) (ls' := [.ref 5, .int x1, ev_unk, ev_unk, ev_unk, ev_unk, ev_unk, ev_unk]) (st' := [.ref 5]) [.aload_n 0] (by decide +kernel) rfl <|
    Ev.getf f_Re_36 (by decide +kernel) (hat_set (hat_set (hat_set a1))) rfl <|
    Ev.go (pc' := 69) (ls' := [.ref 5, .int x1, ev_unk, ev_unk, ev_unk, ev_unk, ev_unk, ev_unk]) (st' := [.int x1, .ref 13]) [.iload_n 1] (by decide +kernel) rfl <|
    Ev.bald (j := j6) (by decide +kernel) (hat_ne (hat_ne (hat_ne a2 (by decide)) (by decide)) (by decide)) (i3 c1) <|
    Ev.go (pc' := 78) (ls' := [.ref 5, .int x1, .int ((g5 j6) &&& (255 : Int32)), ev_unk, ev_unk, ev_unk, ev_unk, ev_unk]) (st' := [.int (97 : Int32), .int ((g5 j6) &&& (255 : Int32))]) [.sipush (255), .iand, .istore_n 2, .iload_n 2, .bipush (97)] (by decide +kernel) rfl <|
    Ev.br (i := .if_icmp .lt (13)) (P := ((g5 j6) &&& (255 : Int32)) < (97 : Int32)) (t := 91) (f := 81) (r := []) (by decide +kernel) rfl (fun c2 =>
      Ev.go (pc' := 96) (ls' := [.ref 5, .int x1, .int ((g5 j6) &&& (255 : Int32)), .int (0 : Int32), ev_unk, ev_unk, ev_unk, ev_unk]) (st' := [.int (48 : Int32), .int ((g5 j6) &&& (255 : Int32))]) [.iconst 0, .istore_n 3, .iload_n 2, .bipush (48)] (by decide +kernel) rfl <|
      Ev.br (i := .if_icmp .lt (13)) (P := ((g5 j6) &&& (255 : Int32)) < (48 : Int32)) (t := 109) (f := 99) (r := []) (by decide +kernel) rfl (fun c3 =>
        Ev.go (pc' := 110) (ls' := [.ref 5, .int x1, .int ((g5 j6) &&& (255 : Int32)), .int (0 : Int32), ev_unk, ev_unk, ev_unk, ev_unk]) (st' := [.int (0 : Int32)]) [.iconst 0] (by decide +kernel) rfl <|
        (k1 c1 c2 c3)
      ) (fun c3 =>
        Ev.go (pc' := 102) (ls' := [.ref 5, .int x1, .int ((g5 j6) &&& (255 : Int32)), .int (0 : Int32), ev_unk, ev_unk, ev_unk, ev_unk]) (st' := [.int (57 : Int32), .int ((g5 j6) &&& (255 : Int32))]) [.iload_n 2, .bipush (57)] (by decide +kernel) rfl <|
        Ev.br (i := .if_icmp .gt (7)) (P := (57 : Int32) < ((g5 j6) &&& (255 : Int32))) (t := 109) (f := 105) (r := []) (by decide +kernel) rfl (fun c4 =>
          Ev.go (pc' := 110) (ls' := [.ref 5, .int x1, .int ((g5 j6) &&& (255 : Int32)), .int (0 : Int32), ev_unk, ev_unk, ev_unk, ev_unk]) (st' := [.int (0 : Int32)]) [.iconst 0] (by decide +kernel) rfl <|
          (k2 c1 c2 c3 c4)
        ) (fun c4 =>
          Ev.go (pc' := 110) (ls' := [.ref 5, .int x1, .int ((g5 j6) &&& (255 : Int32)), .int (0 : Int32), ev_unk, ev_unk, ev_unk, ev_unk]) (st' := [.int (1 : Int32)]) [.iconst 1, .goto (4)] (by decide +kernel) rfl <|
          (k3 c1 c2 c3 c4)
        )
      )
    ) (fun c2 =>
      Ev.go (pc' := 84) (ls' := [.ref 5, .int x1, .int ((g5 j6) &&& (255 : Int32)), ev_unk, ev_unk, ev_unk, ev_unk, ev_unk]) (st' := [.int (122 : Int32), .int ((g5 j6) &&& (255 : Int32))]) [.iload_n 2, .bipush (122)] (by decide +kernel) rfl <|
      Ev.br (i := .if_icmp .gt (7)) (P := (122 : Int32) < ((g5 j6) &&& (255 : Int32))) (t := 91) (f := 87) (r := []) (by decide +kernel) rfl (fun c3 =>
        Ev.go (pc' := 96) (ls' := [.ref 5, .int x1, .int ((g5 j6) &&& (255 : Int32)), .int (0 : Int32), ev_unk, ev_unk, ev_unk, ev_unk]) (st' := [.int (48 : Int32), .int ((g5 j6) &&& (255 : Int32))]) [.iconst 0, .istore_n 3, .iload_n 2, .bipush (48)] (by decide +kernel) rfl <|
        Ev.br (i := .if_icmp .lt (13)) (P := ((g5 j6) &&& (255 : Int32)) < (48 : Int32)) (t := 109) (f := 99) (r := []) (by decide +kernel) rfl (fun c4 =>
          Ev.go (pc' := 110) (ls' := [.ref 5, .int x1, .int ((g5 j6) &&& (255 : Int32)), .int (0 : Int32), ev_unk, ev_unk, ev_unk, ev_unk]) (st' := [.int (0 : Int32)]) [.iconst 0] (by decide +kernel) rfl <|
          (k4 c1 c2 c3 c4)
        ) (fun c4 =>
          Ev.go (pc' := 102) (ls' := [.ref 5, .int x1, .int ((g5 j6) &&& (255 : Int32)), .int (0 : Int32), ev_unk, ev_unk, ev_unk, ev_unk]) (st' := [.int (57 : Int32), .int ((g5 j6) &&& (255 : Int32))]) [.iload_n 2, .bipush (57)] (by decide +kernel) rfl <|
          Ev.br (i := .if_icmp .gt (7)) (P := (57 : Int32) < ((g5 j6) &&& (255 : Int32))) (t := 109) (f := 105) (r := []) (by decide +kernel) rfl (fun c5 =>
            Ev.go (pc' := 110) (ls' := [.ref 5, .int x1, .int ((g5 j6) &&& (255 : Int32)), .int (0 : Int32), ev_unk, ev_unk, ev_unk, ev_unk]) (st' := [.int (0 : Int32)]) [.iconst 0] (by decide +kernel) rfl <|
            (k5 c1 c2 c3 c4 c5)
          ) (fun c5 =>
            Ev.go (pc' := 110) (ls' := [.ref 5, .int x1, .int ((g5 j6) &&& (255 : Int32)), .int (0 : Int32), ev_unk, ev_unk, ev_unk, ev_unk]) (st' := [.int (1 : Int32)]) [.iconst 1, .goto (4)] (by decide +kernel) rfl <|
            (k6 c1 c2 c3 c4 c5)
          )
        )
      ) (fun c3 =>
        Ev.go (pc' := 96) (ls' := [.ref 5, .int x1, .int ((g5 j6) &&& (255 : Int32)), .int (1 : Int32), ev_unk, ev_unk, ev_unk, ev_unk]) (st' := [.int (48 : Int32), .int ((g5 j6) &&& (255 : Int32))]) [.iconst 1, .goto (4), .istore_n 3, .iload_n 2, .bipush (48)] (by decide +kernel) rfl <|
        Ev.br (i := .if_icmp .lt (13)) (P := ((g5 j6) &&& (255 : Int32)) < (48 : Int32)) (t := 109) (f := 99) (r := []) (by decide +kernel) rfl (fun c4 =>
          Ev.go (pc' := 110) (ls' := [.ref 5, .int x1, .int ((g5 j6) &&& (255 : Int32)), .int (1 : Int32), ev_unk, ev_unk, ev_unk, ev_unk]) (st' := [.int (0 : Int32)]) [.iconst 0] (by decide +kernel) rfl <|
          (k7 c1 c2 c3 c4)
        ) (fun c4 =>
          Ev.go (pc' := 102) (ls' := [.ref 5, .int x1, .int ((g5 j6) &&& (255 : Int32)), .int (1 : Int32), ev_unk, ev_unk, ev_unk, ev_unk]) (st' := [.int (57 : Int32), .int ((g5 j6) &&& (255 : Int32))]) [.iload_n 2, .bipush (57)] (by decide +kernel) rfl <|
          Ev.br (i := .if_icmp .gt (7)) (P := (57 : Int32) < ((g5 j6) &&& (255 : Int32))) (t := 109) (f := 105) (r := []) (by decide +kernel) rfl (fun c5 =>
            Ev.go (pc' := 110) (ls' := [.ref 5, .int x1, .int ((g5 j6) &&& (255 : Int32)), .int (1 : Int32), ev_unk, ev_unk, ev_unk, ev_unk]) (st' := [.int (0 : Int32)]) [.iconst 0] (by decide +kernel) rfl <|
            (k8 c1 c2 c3 c4 c5)
          ) (fun c5 =>
            Ev.go (pc' := 110) (ls' := [.ref 5, .int x1, .int ((g5 j6) &&& (255 : Int32)), .int (1 : Int32), ev_unk, ev_unk, ev_unk, ev_unk]) (st' := [.int (1 : Int32)]) [.iconst 1, .goto (4)] (by decide +kernel) rfl <|
            (k9 c1 c2 c3 c4 c5)
          )
        )
      )
    )
  ) (fun c1 =>
    Ev.ret (r := none) (Or.inr (Or.inr (Or.inl ⟨rfl, by decide +kernel, rfl⟩))) (k10 c1)
  )
theorem b_Re_next_110 {G : ev_G} {d k n : Nat} {h : ev_H} {R : Option Value → ev_H → Prop} {x1 : Int32} {x2 : Int32} {x3 : Int32} {y0 : Int32} {f_length_1 : Int32} {f_kind_2 : Int32} {f_start_3 : Int32} {f_end_4 : Int32}
  (a1 : hat h 5 (oC 4 [.ref 6, .ref 12, .ref 14, .ref 13, .int f_length_1, .int f_kind_2, .int f_start_3, .int f_end_4]))
  (k1 : x3 = (0 : Int32) → x3 = (0 : Int32) → Ev G (d + 4) k n M_Re_next 145 [.ref 5, .int x1, .int x2, .int x3, .int y0, .int (48 : Int32), .int (57 : Int32), ev_unk] [] (hset h 5 (oC 4 [.ref 6, .ref 12, .ref 14, .ref 13, .int f_length_1, .int f_kind_2, .int f_start_3, .int (x1 + (1 : Int32))])) R)
  (k2 : x3 = (0 : Int32) → ¬ x3 = (0 : Int32) → Ev G (d + 4) k n M_Re_next 145 [.ref 5, .int x1, .int x2, .int x3, .int y0, .int (48 : Int32), .int (122 : Int32), ev_unk] [] (hset h 5 (oC 4 [.ref 6, .ref 12, .ref 14, .ref 13, .int f_length_1, .int f_kind_2, .int f_start_3, .int (x1 + (1 : Int32))])) R)
  (k3 : ¬ x3 = (0 : Int32) → x3 = (0 : Int32) → Ev G (d + 4) k n M_Re_next 145 [.ref 5, .int x1, .int x2, .int x3, .int y0, .int (97 : Int32), .int (57 : Int32), ev_unk] [] (hset h 5 (oC 4 [.ref 6, .ref 12, .ref 14, .ref 13, .int f_length_1, .int f_kind_2, .int f_start_3, .int (x1 + (1 : Int32))])) R)
  (k4 : ¬ x3 = (0 : Int32) → ¬ x3 = (0 : Int32) → Ev G (d + 4) k n M_Re_next 145 [.ref 5, .int x1, .int x2, .int x3, .int y0, .int (97 : Int32), .int (122 : Int32), ev_unk] [] (hset h 5 (oC 4 [.ref 6, .ref 12, .ref 14, .ref 13, .int f_length_1, .int f_kind_2, .int f_start_3, .int (x1 + (1 : Int32))])) R)
  : Ev G (d + 4) k n M_Re_next 110 [.ref 5, .int x1, .int x2, .int x3, ev_unk, ev_unk, ev_unk, ev_unk] [.int y0] h R :=
  Ev.go (pc' := 113) (ls' := [.ref 5, .int x1, .int x2, .int x3, .int y0, ev_unk, ev_unk, ev_unk]) (st' := [.int x3]) [.istore 4, .iload_n 3] (by decide +kernel) rfl <|
  Ev.br (i := .ifCond .eq (8)) (P := x3 = (0 : Int32)) (t := 121) (f := 116) (r := []) (by decide +kernel) rfl (fun c1 =>
    Ev.go (pc' := 126) (ls' := [.ref 5, .int x1, .int x2, .int x3, .int y0, .int (48 : Int32), ev_unk, ev_unk]) (st' := [.int x3]) [.bipush (48), .istore 5, .iload_n 3] (by decide +kernel) rfl <|
    Ev.br (i := .ifCond .eq (8)) (P := x3 = (0 : Int32)) (t := 134) (f := 129) (r := []) (by decide +kernel) rfl (fun c2 =>
      Ev.go (pc' := 142) (ls' := [.ref 5, .int x1, .int x2, .int x3, .int y0, .int (48 : Int32), .int (57 : Int32), ev_unk]) (st' := [.int (x1 + (1 : Int32)), .ref 5]) [.bipush (57), .istore 6, .aload_n 0, .iload_n 1, .iconst 1, .iadd] (by decide +kernel) rfl <|
      Ev.putf f_Re_49 (by decide +kernel) a1 (Nat.le_of_ble_eq_true rfl) rfl (fun q => nomatch q) <| show Ev G (d + 4) _ _ M_Re_next 145 [.ref 5, .int x1, .int x2, .int x3, .int y0, .int (48 : Int32), .int (57 : Int32), ev_unk] [] (hset h 5 (oC 4 [.ref 6, .ref 12, .ref 14, .ref 13, .int f_length_1, .int f_kind_2, .int f_start_3, .int (x1 + (1 : Int32))])) R from
      (k1 c1 c2)
    ) (fun c2 =>
      Ev.go (pc' := 142) (ls' := [.ref 5, .int x1, .int x2, .int x3, .int y0, .int (48 : Int32), .int (122 : Int32), ev_unk]) (st' := [.int (x1 + (1 : Int32)), .ref 5]) [.bipush (122), .goto (5), .istore 6, .aload_n 0, .iload_n 1, .iconst 1, .iadd] (by decide +kernel) rfl <|
      Ev.putf f_Re_49 (by decide +kernel) a1 (Nat.le_of_ble_eq_true rfl) rfl (fun q => nomatch q) <| show Ev G (d + 4) _ _ M_Re_next 145 [.ref 5, .int x1, .int x2, .int x3, .int y0, .int (48 : Int32), .int (122 : Int32), ev_unk] [] (hset h 5 (oC 4 [.ref 6, .ref 12, .ref 14, .ref 13, .int f_length_1, .int f_kind_2, .int f_start_3, .int (x1 + (1 : Int32))])) R from
      (k2 c1 c2)
    )
  ) (fun c1 =>
    Ev.go (pc' := 126) (ls' := [.ref 5, .int x1, .int x2, .int x3, .int y0, .int (97 : Int32), ev_unk, ev_unk]) (st' := [.int x3]) [.bipush (97), .goto (5), .istore 5, .iload_n 3] (by decide +kernel) rfl <|
    Ev.br (i := .ifCond .eq (8)) (P := x3 = (0 : Int32)) (t := 134) (f := 129) (r := []) (by decide +kernel) rfl (fun c2 =>
      Ev.go (pc' := 142) (ls' := [.ref 5, .int x1, .int x2, .int x3, .int y0, .int (97 : Int32), .int (57 : Int32), ev_unk]) (st' := [.int (x1 + (1 : Int32)), .ref 5]) [.bipush (57), .istore 6, .aload_n 0, .iload_n 1, .iconst 1, .iadd] (by decide +kernel) rfl <|
      Ev.putf f_Re_49 (by decide +kernel) a1 (Nat.le_of_ble_eq_true rfl) rfl (fun q => nomatch q) <| show Ev G (d + 4) _ _ M_Re_next 145 [.ref 5, .int x1, .int x2, .int x3, .int y0, .int (97 : Int32), .int (57 : Int32), ev_unk] [] (hset h 5 (oC 4 [.ref 6, .ref 12, .ref 14, .ref 13, .int f_length_1, .int f_kind_2, .int f_start_3, .int (x1 + (1 : Int32))])) R from
      (k3 c1 c2)
    ) (fun c2 =>
      Ev.go (pc' := 142) (ls' := [.ref 5, .int x1, .int x2, .int x3, .int y0, .int (97 : Int32), .int (122 : Int32), ev_unk]) (st' := [.int (x1 + (1 : Int32)), .ref 5]) [.bipush (122), .goto (5), .istore 6, .aload_n 0, .iload_n 1, .iconst 1, .iadd] (by decide +kernel) rfl <|
      Ev.putf f_Re_49 (by decide +kernel) a1 (Nat.le_of_ble_eq_true rfl) rfl (fun q => nomatch q) <| show Ev G (d + 4) _ _ M_Re_next 145 [.ref 5, .int x1, .int x2, .int x3, .int y0, .int (97 : Int32), .int (122 : Int32), ev_unk] [] (hset h 5 (oC 4 [.ref 6, .ref 12, .ref 14, .ref 13, .int f_length_1, .int f_kind_2, .int f_start_3, .int (x1 + (1 : Int32))])) R from
      (k4 c1 c2)
    )
  )
theorem b_Re_next_145 {G : ev_G} {d k n : Nat} {h : ev_H} {R : Option Value → ev_H → Prop} {x1 : Int32} {x2 : Int32} {x3 : Int32} {x4 : Int32} {x5 : Int32} {x6 : Int32}
  (k1 : x3 = (0 : Int32) → x4 = (0 : Int32) → Ev G (d + 4) k n M_Re_next 206 [.ref 5, .int x1, .int x2, .int x3, .int x4, .int x5, .int x6, ev_unk] [] h R)
  (k2 : x3 = (0 : Int32) → ¬ x4 = (0 : Int32) → Ev G (d + 4) k n M_Re_next 154 [.ref 5, .int x1, .int x2, .int x3, .int x4, .int x5, .int x6, ev_unk] [] h R)
  (k3 : ¬ x3 = (0 : Int32) → Ev G (d + 4) k n M_Re_next 154 [.ref 5, .int x1, .int x2, .int x3, .int x4, .int x5, .int x6, ev_unk] [] h R)
  : Ev G (d + 4) k n M_Re_next 145 [.ref 5, .int x1, .int x2, .int x3, .int x4, .int x5, .int x6, ev_unk] [] h R :=
  Ev.go (pc' := 146) (ls' := [.ref 5, .int x1, .int x2, .int x3, .int x4, .int x5, .int x6, ev_unk]) (st' := [.int x3]) [.iload_n 3] (by decide +kernel) rfl <|
  Ev.br (i := .ifCond .ne (8)) (P := x3 = (0 : Int32)) (t := 149) (f := 154) (r := []) (by decide +kernel) rfl (fun c1 =>
    Ev.go (pc' := 151) (ls' := [.ref 5, .int x1, .int x2, .int x3, .int x4, .int x5, .int x6, ev_unk]) (st' := [.int x4]) [.iload 4] (by decide +kernel) rfl <|
    Ev.br (i := .ifCond .eq (55)) (P := x4 = (0 : Int32)) (t := 206) (f := 154) (r := []) (by decide +kernel) rfl (fun c2 =>
      (k1 c1 c2)
    ) (fun c2 =>
      (k2 c1 c2)
    )
  ) (fun c1 =>
    (k3 c1)
  )
theorem b_Re_next_154 {G : ev_G} {d k n : Nat} {h : ev_H} {R : Option Value → ev_H → Prop} {x1 : Int32} {x2 : Int32} {x3 : Int32} {x4 : Int32} {x5 : Int32} {x6 : Int32} {f_length_1 : Int32} {f_kind_2 : Int32} {f_start_3 : Int32} {f_end_4 : Int32} {g5 : Nat → Int32} {j6 : Nat}
  (a1 : hat h 5 (oC 4 [.ref 6, .ref 12, .ref 14, .ref 13, .int f_length_1, .int f_kind_2, .int f_start_3, .int f_end_4]))
  (a2 : hat h 13 (aB 900 g5))
  (i3 : f_end_4 < f_length_1 → ev_ix f_end_4 j6 900)
  (i4 : f_end_4 < f_length_1 → ¬ (g5 j6) < x5 → ev_ix f_end_4 j6 900)
  (k1 : f_end_4 < f_length_1 → (g5 j6) < x5 → Ev G (d + 4) k n M_Re_next 206 [.ref 5, .int x1, .int x2, .int x3, .int x4, .int x5, .int x6, ev_unk] [] h R)
  (k2 : f_end_4 < f_length_1 → ¬ (g5 j6) < x5 → x6 < (g5 j6) → Ev G (d + 4) k n M_Re_next 206 [.ref 5, .int x1, .int x2, .int x3, .int x4, .int x5, .int x6, ev_unk] [] h R)
  (k3 : f_end_4 < f_length_1 → ¬ (g5 j6) < x5 → ¬ x6 < (g5 j6) → Ev G (d + 4) k n M_Re_next 145 [.ref 5, .int x1, .int x2, .int x3, .int x4, .int x5, .int x6, ev_unk] [] (hset h 5 (oC 4 [.ref 6, .ref 12, .ref 14, .ref 13, .int f_length_1, .int f_kind_2, .int f_start_3, .int (f_end_4 + (1 : Int32))])) R)
  (k4 : ¬ f_end_4 < f_length_1 → Ev G (d + 4) k n M_Re_next 206 [.ref 5, .int x1, .int x2, .int x3, .int x4, .int x5, .int x6, ev_unk] [] h R)
  : Ev G (d + 4) k n M_Re_next 154 [.ref 5, .int x1, .int x2, .int x3, .int x4, .int x5, .int x6, ev_unk] [] h R :=
  Ev.go (pc' := 155) (ls' := [.ref 5, .int x1, .int x2, .int x3, .int x4, .int x5, .int x6, ev_unk]) (st' := [.ref 5]) [.aload_n 0] (by decide +kernel) rfl <|
  Ev.getf f_Re_49 (by decide +kernel) a1 rfl <|
  Ev.go (pc' := 159) (ls' := [.ref 5, .int x1, .int x2, .int x3, .int x4, .int x5, .int x6, ev_unk]) (st' := [.ref 5, .int f_end_4]) [.aload_n 0] (by decide +kernel) rfl <|
  Ev.getf f_Re_39 (by decide +kernel) a1 rfl <|
  Ev.br (i := .if_icmp .ge (44)) (P := f_end_4 < f_length_1) (t := 165) (f := 206) (r := []) (by decide +kernel) rfl (fun c1 =>
    Ev.go (pc' := 166) (ls' := [.ref 5, .int x1, .int x2, .int x3, .int x4, .int x5, .int x6, ev_unk]) (st' := [.ref 5]) [.aload_n 0] (by decide +kernel) rfl <|
    Ev.getf f_Re_36 (by decide +kernel) a1 rfl <|
    Ev.go (pc' := 170) (ls' := [.ref 5, .int x1, .int x2, .int x3, .int x4, .int x5, .int x6, ev_unk]) (st' := [.ref 5, .ref 13]) [.aload_n 0] (by decide +kernel) rfl <|
    Ev.getf f_Re_49 (by decide +kernel) a1 rfl <|
    Ev.bald (j := j6) (by decide +kernel) a2 (i3 c1) <|
    Ev.go (pc' := 176) (ls' := [.ref 5, .int x1, .int x2, .int x3, .int x4, .int x5, .int x6, ev_unk]) (st' := [.int x5, .int (g5 j6)]) [.iload 5] (by decide +kernel) rfl <|
    Ev.br (i := .if_icmp .lt (30)) (P := (g5 j6) < x5) (t := 206) (f := 179) (r := []) (by decide +kernel) rfl (fun c2 =>
      (k1 c1 c2)
    ) (fun c2 =>
      Ev.go (pc' := 180) (ls' := [.ref 5, .int x1, .int x2, .int x3, .int x4, .int x5, .int x6, ev_unk]) (st' := [.ref 5]) [.aload_n 0] (by decide +kernel) rfl <|
      Ev.getf f_Re_36 (by decide +kernel) a1 rfl <|
      Ev.go (pc' := 184) (ls' := [.ref 5, .int x1, .int x2, .int x3, .int x4, .int x5, .int x6, ev_unk]) (st' := [.ref 5, .ref 13]) [.aload_n 0] (by decide +kernel) rfl <|
      Ev.getf f_Re_49 (by decide +kernel) a1 rfl <|
      Ev.bald (j := j6) (by decide +kernel) a2 (i4 c1 c2) <|
      Ev.go (pc' := 190) (ls' := [.ref 5, .int x1, .int x2, .int x3, .int x4, .int x5, .int x6, ev_unk]) (st' := [.int x6, .int (g5 j6)]) [.iload 6] (by decide +kernel) rfl <|
      Ev.br (i := .if_icmp .gt (16)) (P := x6 < (g5 j6)) (t := 206) (f := 193) (r := []) (by decide +kernel) rfl (fun c3 =>
        (k2 c1 c2 c3)
      ) (fun c3 =>
        Ev.go (pc' := 195) (ls' := [.ref 5, .int x1, .int x2, .int x3, .int x4, .int x5, .int x6, ev_unk]) (st' := [.ref 5, .ref 5]) [.aload_n 0, .dup] (by decide +kernel) rfl <|
        Ev.getf f_Re_49 (by decide +kernel) a1 rfl <|
        Ev.go (pc' := 200) (ls' := [.ref 5, .int x1, .int x2, .int x3, .int x4, .int x5, .int x6, ev_unk]) (st' := [.int (f_end_4 + (1 : Int32)), .ref 5]) [.iconst 1, .iadd] (by decide +kernel) rfl <|
        Ev.putf f_Re_49 (by decide +kernel) a1 (Nat.le_of_ble_eq_true rfl) rfl (fun q => nomatch q) <| show Ev G (d + 4) _ _ M_Re_next 203 [.ref 5, .int x1, .int x2, .int x3, .int x4, .int x5, .int x6, ev_unk] [] (hset h 5 (oC 4 [.ref 6, .ref 12, .ref 14, .ref 13, .int f_length_1, .int f_kind_2, .int f_start_3, .int (f_end_4 + (1 : Int32))])) R from
        Ev.go (pc' := 145) (ls' := [.ref 5, .int x1, .int x2, .int x3, .int x4, .int x5, .int x6, ev_unk]) (st' := []) [.goto (-58)] (by decide +kernel) rfl <|
        (k3 c1 c2 c3)
      )
    )
  ) (fun c1 =>
    (k4 c1)
  )
theorem b_Re_next_206 {G : ev_G} {d k n : Nat} {h : ev_H} {R : Option Value → ev_H → Prop} {x1 : Int32} {x2 : Int32} {x3 : Int32} {x4 : Int32} {x5 : Int32} {x6 : Int32} {f_length_1 : Int32} {f_kind_2 : Int32} {f_start_3 : Int32} {f_end_4 : Int32}
  (a1 : hat h 5 (oC 4 [.ref 6, .ref 12, .ref 14, .ref 13, .int f_length_1, .int f_kind_2, .int f_start_3, .int f_end_4]))
  (k1 : x4 = (0 : Int32) → x3 = (0 : Int32) → (ev_ixo 4 (x2.toUInt32 % 65536).toInt32) < (0 : Int32) → Ev G (d + 4) k n M_Re_next 249 [.ref 5, .int x1, .int x2, .int x3, .int x4, .int x5, .int x6, ev_unk] [.int (1 : Int32)] h R)
  (k2 : x4 = (0 : Int32) → x3 = (0 : Int32) → ¬ (ev_ixo 4 (x2.toUInt32 % 65536).toInt32) < (0 : Int32) → Ev G (d + 4) k n M_Re_next 249 [.ref 5, .int x1, .int x2, .int x3, .int x4, .int x5, .int x6, ev_unk] [.int (0 : Int32)] h R)
  (k3 : x4 = (0 : Int32) → ¬ x3 = (0 : Int32) → Ev G (d + 4) k n M_Re_next 249 [.ref 5, .int x1, .int x2, .int x3, .int x4, .int x5, .int x6, ev_unk] [.int (0 : Int32)] h R)
  (k4 : ¬ x4 = (0 : Int32) → (48 : Int32) < (f_end_4 - x1) → Ev G (d + 4) k n M_Re_next 249 [.ref 5, .int x1, .int x2, .int x3, .int x4, .int x5, .int x6, ev_unk] [.int (1 : Int32)] h R)
  (k5 : ¬ x4 = (0 : Int32) → ¬ (48 : Int32) < (f_end_4 - x1) → Ev G (d + 4) k n M_Re_next 249 [.ref 5, .int x1, .int x2, .int x3, .int x4, .int x5, .int x6, ev_unk] [.int (0 : Int32)] h R)
  : Ev G (d + 4) k n M_Re_next 206 [.ref 5, .int x1, .int x2, .int x3, .int x4, .int x5, .int x6, ev_unk] [] h R :=
  Ev.go (pc' := 208) (ls' := [.ref 5, .int x1, .int x2, .int x3, .int x4, .int x5, .int x6, ev_unk]) (st' := [.int x4]) [.iload 4] (by decide +kernel) rfl <|
  Ev.br (i := .ifCond .eq (22)) (P := x4 = (0 : Int32)) (t := 230) (f := 211) (r := []) (by decide +kernel) rfl (fun c1 =>
    Ev.go (pc' := 231) (ls' := [.ref 5, .int x1, .int x2, .int x3, .int x4, .int x5, .int x6, ev_unk]) (st' := [.int x3]) [.iload_n 3] (by decide +kernel) rfl <|
    Ev.br (i := .ifCond .ne (17)) (P := x3 = (0 : Int32)) (t := 234) (f := 248) (r := []) (by decide +kernel) rfl (fun c2 =>
      Ev.ldcS (i := 4) rfl (by decide +kernel) <|
      Ev.go (pc' := 238) (ls' := [.ref 5, .int x1, .int x2, .int x3, .int x4, .int x5, .int x6, ev_unk]) (st' := [.int (x2.toUInt32 % 65536).toInt32, .ref (ev_big + 4)]) [.iload_n 2, .i2c] (by decide +kernel) rfl <|
      Ev.sIx (i := 4) lL_Re_94 (by decide) (Nat.le_of_ble_eq_true rfl) (by decide +kernel) <|
      Ev.br (i := .ifCond .ge (7)) (P := (ev_ixo 4 (x2.toUInt32 % 65536).toInt32) < (0 : Int32)) (t := 244) (f := 248) (r := []) (by decide +kernel) rfl (fun c3 =>
        Ev.go (pc' := 249) (ls' := [.ref 5, .int x1, .int x2, .int x3, .int x4, .int x5, .int x6, ev_unk]) (st' := [.int (1 : Int32)]) [.iconst 1, .goto (4)] (by decide +kernel) rfl <|
        (k1 c1 c2 c3)
      ) (fun c3 =>
        Ev.go (pc' := 249) (ls' := [.ref 5, .int x1, .int x2, .int x3, .int x4, .int x5, .int x6, ev_unk]) (st' := [.int (0 : Int32)]) [.iconst 0] (by decide +kernel) rfl <|
        (k2 c1 c2 c3)
      )
    ) (fun c2 =>
      Ev.go (pc' := 249) (ls' := [.ref 5, .int x1, .int x2, .int x3, .int x4, .int x5, .int x6, ev_unk]) (st' := [.int (0 : Int32)]) [.iconst 0] (by decide +kernel) rfl <|
      (k3 c1 c2)
    )
  ) (fun c1 =>
    Ev.go (pc' := 212) (ls' := [.ref 5, .int x1, .int x2, .int x3, .int x4, .int x5, .int x6, ev_unk]) (st' := [.ref 5]) [.aload_n 0] (by decide +kernel) rfl <|
    Ev.getf f_Re_49 (by decide +kernel) a1 rfl <|
    Ev.go (pc' := 219) (ls' := [.ref 5, .int x1, .int x2, .int x3, .int x4, .int x5, .int x6, ev_unk]) (st' := [.int (48 : Int32), .int (f_end_4 - x1)]) [.iload_n 1, .isub, .bipush (48)] (by decide +kernel) rfl <|
    Ev.br (i := .if_icmp .le (7)) (P := (48 : Int32) < (f_end_4 - x1)) (t := 222) (f := 226) (r := []) (by decide +kernel) rfl (fun c2 =>
      Ev.go (pc' := 249) (ls' := [.ref 5, .int x1, .int x2, .int x3, .int x4, .int x5, .int x6, ev_unk]) (st' := [.int (1 : Int32)]) [.iconst 1, .goto (26)] (by decide +kernel) rfl <|
      (k4 c1 c2)
    ) (fun c2 =>
      Ev.go (pc' := 249) (ls' := [.ref 5, .int x1, .int x2, .int x3, .int x4, .int x5, .int x6, ev_unk]) (st' := [.int (0 : Int32)]) [.iconst 0, .goto (22)] (by decide +kernel) rfl <|
      (k5 c1 c2)
    )
  )
theorem b_Re_next_249 {G : ev_G} {d k n : Nat} {h : ev_H} {R : Option Value → ev_H → Prop} {x1 : Int32} {x2 : Int32} {x3 : Int32} {x4 : Int32} {x5 : Int32} {x6 : Int32} {y0 : Int32} {f_length_1 : Int32} {f_kind_2 : Int32} {f_start_3 : Int32} {f_end_4 : Int32}
  (a1 : hat h 5 (oC 4 [.ref 6, .ref 12, .ref 14, .ref 13, .int f_length_1, .int f_kind_2, .int f_start_3, .int f_end_4]))
  (k1 : y0 = (0 : Int32) → x3 = (0 : Int32) → x4 = (0 : Int32) → R none (hset h 5 (oC 4 [.ref 6, .ref 12, .ref 14, .ref 13, .int f_length_1, .int x2, .int f_start_3, .int f_end_4])))
  (k2 : y0 = (0 : Int32) → x3 = (0 : Int32) → ¬ x4 = (0 : Int32) → R none (hset h 5 (oC 4 [.ref 6, .ref 12, .ref 14, .ref 13, .int f_length_1, .int (48 : Int32), .int f_start_3, .int f_end_4])))
  (k3 : y0 = (0 : Int32) → ¬ x3 = (0 : Int32) → R none (hset h 5 (oC 4 [.ref 6, .ref 12, .ref 14, .ref 13, .int f_length_1, .int (97 : Int32), .int f_start_3, .int f_end_4])))
  (k4 : ¬ y0 = (0 : Int32) → R none (hset h 5 (oC 4 [.ref 6, .ref 12, .ref 14, .ref 13, .int f_length_1, .int (1 : Int32), .int f_start_3, .int f_end_4])))
  : Ev G (d + 4) k n M_Re_next 249 [.ref 5, .int x1, .int x2, .int x3, .int x4, .int x5, .int x6, ev_unk] [.int y0] h R :=
  Ev.go (pc' := 254) (ls' := [.ref 5, .int x1, .int x2, .int x3, .int x4, .int x5, .int x6, .int y0]) (st' := [.int y0, .ref 5]) [.istore 7, .aload_n 0, .iload 7] (by decide +kernel) rfl <|
  Ev.br (i := .ifCond .eq (7)) (P := y0 = (0 : Int32)) (t := 261) (f := 257) (r := [.ref 5]) (by decide +kernel) rfl (fun c1 =>
    Ev.go (pc' := 262) (ls' := [.ref 5, .int x1, .int x2, .int x3, .int x4, .int x5, .int x6, .int y0]) (st' := [.int x3, .ref 5]) [.iload_n 3] (by decide +kernel) rfl <|
    Ev.br (i := .ifCond .eq (8)) (P := x3 = (0 : Int32)) (t := 270) (f := 265) (r := [.ref 5]) (by decide +kernel) rfl (fun c2 =>
      Ev.go (pc' := 272) (ls' := [.ref 5, .int x1, .int x2, .int x3, .int x4, .int x5, .int x6, .int y0]) (st' := [.int x4, .ref 5]) [.iload 4] (by decide +kernel) rfl <|
      Ev.br (i := .ifCond .eq (8)) (P := x4 = (0 : Int32)) (t := 280) (f := 275) (r := [.ref 5]) (by decide +kernel) rfl (fun c3 =>
        Ev.go (pc' := 281) (ls' := [.ref 5, .int x1, .int x2, .int x3, .int x4, .int x5, .int x6, .int y0]) (st' := [.int x2, .ref 5]) [.iload_n 2] (by decide +kernel) rfl <|
        Ev.putf f_Re_43 (by decide +kernel) a1 (Nat.le_of_ble_eq_true rfl) rfl (fun q => nomatch q) <| show Ev G (d + 4) _ _ M_Re_next 284 [.ref 5, .int x1, .int x2, .int x3, .int x4, .int x5, .int x6, .int y0] [] (hset h 5 (oC 4 [.ref 6, .ref 12, .ref 14, .ref 13, .int f_length_1, .int x2, .int f_start_3, .int f_end_4])) R from
        Ev.ret (r := none) (Or.inr (Or.inr (Or.inl ⟨rfl, by decide +kernel, rfl⟩))) (k1 c1 c2 c3)
      ) (fun c3 =>
        Ev.go (pc' := 281) (ls' := [.ref 5, .int x1, .int x2, .int x3, .int x4, .int x5, .int x6, .int y0]) (st' := [.int (48 : Int32), .ref 5]) [.bipush (48), .goto (4)] (by decide +kernel) rfl <|
        Ev.putf f_Re_43 (by decide +kernel) a1 (Nat.le_of_ble_eq_true rfl) rfl (fun q => nomatch q) <| show Ev G (d + 4) _ _ M_Re_next 284 [.ref 5, .int x1, .int x2, .int x3, .int x4, .int x5, .int x6, .int y0] [] (hset h 5 (oC 4 [.ref 6, .ref 12, .ref 14, .ref 13, .int f_length_1, .int (48 : Int32), .int f_start_3, .int f_end_4])) R from
        Ev.ret (r := none) (Or.inr (Or.inr (Or.inl ⟨rfl, by decide +kernel, rfl⟩))) (k2 c1 c2 c3)
      )
    ) (fun c2 =>
      Ev.go (pc' := 281) (ls' := [.ref 5, .int x1, .int x2, .int x3, .int x4, .int x5, .int x6, .int y0]) (st' := [.int (97 : Int32), .ref 5]) [.bipush (97), .goto (14)] (by decide +kernel) rfl <|
      Ev.putf f_Re_43 (by decide +kernel) a1 (Nat.le_of_ble_eq_true rfl) rfl (fun q => nomatch q) <| show Ev G (d + 4) _ _ M_Re_next 284 [.ref 5, .int x1, .int x2, .int x3, .int x4, .int x5, .int x6, .int y0] [] (hset h 5 (oC 4 [.ref 6, .ref 12, .ref 14, .ref 13, .int f_length_1, .int (97 : Int32), .int f_start_3, .int f_end_4])) R from
      Ev.ret (r := none) (Or.inr (Or.inr (Or.inl ⟨rfl, by decide +kernel, rfl⟩))) (k3 c1 c2)
    )
  ) (fun c1 =>
    Ev.go (pc' := 281) (ls' := [.ref 5, .int x1, .int x2, .int x3, .int x4, .int x5, .int x6, .int y0]) (st' := [.int (1 : Int32), .ref 5]) [.iconst 1, .goto (23)] (by decide +kernel) rfl <|
    Ev.putf f_Re_43 (by decide +kernel) a1 (Nat.le_of_ble_eq_true rfl) rfl (fun q => nomatch q) <| show Ev G (d + 4) _ _ M_Re_next 284 [.ref 5, .int x1, .int x2, .int x3, .int x4, .int x5, .int x6, .int y0] [] (hset h 5 (oC 4 [.ref 6, .ref 12, .ref 14, .ref 13, .int f_length_1, .int (1 : Int32), .int f_start_3, .int f_end_4])) R from
    Ev.ret (r := none) (Or.inr (Or.inr (Or.inl ⟨rfl, by decide +kernel, rfl⟩))) (k4 c1)
  )
theorem b_Re_sign_0 {G : ev_G} {d k n : Nat} {h : ev_H} {R : Option Value → ev_H → Prop} {x1 : Int32} {f_length_1 : Int32} {f_kind_2 : Int32} {f_start_3 : Int32} {f_end_4 : Int32}
  (a1 : hat h 5 (oC 4 [.ref 6, .ref 12, .ref 14, .ref 13, .int f_length_1, .int f_kind_2, .int f_start_3, .int f_end_4]))
  (k1 : f_kind_2 = x1 → Ev G d 0 0 M_Re_next 0 [.ref 5, ev_unk, ev_unk, ev_unk, ev_unk, ev_unk, ev_unk, ev_unk] [] h (fun r h1 => Ev G (d + 1) k n M_Re_sign 14 [.ref 5, .int x1] (r.toList ++ []) h1 R))
  (k2 : ¬ f_kind_2 = x1 → R (some (.int (2 : Int32))) h)
  : Ev G (d + 1) k n M_Re_sign 0 [.ref 5, .int x1] [] h R :=
  Ev.go (pc' := 1) (ls' := [.ref 5, .int x1]) (st' := [.ref 5]) [.aload_n 0] (by decide +kernel) rfl <|
  Ev.getf f_Re_43 (by decide +kernel) a1 rfl <|
  Ev.go (pc' := 5) (ls' := [.ref 5, .int x1]) (st' := [.int x1, .int f_kind_2]) [.iload_n 1] (by decide +kernel) rfl <|
  Ev.br (i := .if_icmp .eq (5)) (P := f_kind_2 = x1) (t := 10) (f := 8) (r := []) (by decide +kernel) rfl (fun c1 =>
    Ev.go (pc' := 11) (ls' := [.ref 5, .int x1]) (st' := [.ref 5]) [.aload_n 0] (by decide +kernel) rfl <|
    Ev.cV0 (M' := M_Re_next) (as := []) (rest := []) l_Re_61 M_Re_next_ok M_Re_next_in M_Re_next_se (by decide +kernel) ⟨_, a1⟩ rfl rfl rfl (Nat.le_of_ble_eq_true rfl) (Nat.le_of_ble_eq_true rfl) (k1 c1)
  ) (fun c1 =>
    Ev.go (pc' := 9) (ls' := [.ref 5, .int x1]) (st' := [.int (2 : Int32)]) [.iconst 2] (by decide +kernel) rfl <|
    Ev.ret (r := (some (.int (2 : Int32)))) (Or.inl ⟨_, rfl, by decide +kernel, _, rfl, rfl⟩) (k2 c1)
  )
theorem b_Re_sign_14 {G : ev_G} {d k n : Nat} {h : ev_H} {R : Option Value → ev_H → Prop} {x1 : Int32}
  (k1 : R (some (.int (0 : Int32))) h)
  : Ev G (d + 1) k n M_Re_sign 14 [.ref 5, .int x1] [] h R :=
  Ev.go (pc' := 15) (ls' := [.ref 5, .int x1]) (st' := [.int (0 : Int32)]) [.iconst 0] (by decide +kernel) rfl <|
  Ev.ret (r := (some (.int (0 : Int32)))) (Or.inl ⟨_, rfl, by decide +kernel, _, rfl, rfl⟩) k1
theorem b_Re_number_0 {G : ev_G} {d k n : Nat} {h : ev_H} {R : Option Value → ev_H → Prop} {x1 : Int32} {x2 : Int32} {f_length_1 : Int32} {f_kind_2 : Int32} {f_start_3 : Int32} {f_end_4 : Int32}
  (a1 : hat h 5 (oC 4 [.ref 6, .ref 12, .ref 14, .ref 13, .int f_length_1, .int f_kind_2, .int f_start_3, .int f_end_4]))
  (k1 : f_kind_2 = (48 : Int32) → (8 : Int32) < (f_end_4 - f_start_3) → R (some (.int (-3 : Int32))) h)
  (k2 : f_kind_2 = (48 : Int32) → ¬ (8 : Int32) < (f_end_4 - f_start_3) → Ev G d k n M_Re_number 37 [.ref 5, .int x1, .int x2, .int (0 : Int32), .int f_start_3] [] h R)
  (k3 : ¬ f_kind_2 = (48 : Int32) → R (some (.int (-2 : Int32))) h)
  : Ev G d k n M_Re_number 0 [.ref 5, .int x1, .int x2, ev_unk, ev_unk] [] h R :=
  Ev.go (pc' := 1) (ls' := [.ref 5, .int x1, .int x2, ev_unk, ev_unk]) (st' := [.ref 5]) [.aload_n 0] (by decide +kernel) rfl <|
  Ev.getf f_Re_43 (by decide +kernel) a1 rfl <|
  Ev.go (pc' := 6) (ls' := [.ref 5, .int x1, .int x2, ev_unk, ev_unk]) (st' := [.int (48 : Int32), .int f_kind_2]) [.bipush (48)] (by decide +kernel) rfl <|
  Ev.br (i := .if_icmp .eq (6)) (P := f_kind_2 = (48 : Int32)) (t := 12) (f := 9) (r := []) (by decide +kernel) rfl (fun c1 =>
    Ev.go (pc' := 13) (ls' := [.ref 5, .int x1, .int x2, ev_unk, ev_unk]) (st' := [.ref 5]) [.aload_n 0] (by decide +kernel) rfl <|
    Ev.getf f_Re_49 (by decide +kernel) a1 rfl <|
    Ev.go (pc' := 17) (ls' := [.ref 5, .int x1, .int x2, ev_unk, ev_unk]) (st' := [.ref 5, .int f_end_4]) [.aload_n 0] (by decide +kernel) rfl <|
    Ev.getf f_Re_46 (by decide +kernel) a1 rfl <|
    Ev.go (pc' := 23) (ls' := [.ref 5, .int x1, .int x2, ev_unk, ev_unk]) (st' := [.int (8 : Int32), .int (f_end_4 - f_start_3)]) [.isub, .bipush (8)] (by decide +kernel) rfl <|
    Ev.br (i := .if_icmp .le (6)) (P := (8 : Int32) < (f_end_4 - f_start_3)) (t := 26) (f := 29) (r := []) (by decide +kernel) rfl (fun c2 =>
      Ev.go (pc' := 28) (ls' := [.ref 5, .int x1, .int x2, ev_unk, ev_unk]) (st' := [.int (-3 : Int32)]) [.bipush (-3)] (by decide +kernel) rfl <|
      Ev.ret (r := (some (.int (-3 : Int32)))) (Or.inl ⟨_, rfl, by decide +kernel, _, rfl, rfl⟩) (k1 c1 c2)
    ) (fun c2 =>
      Ev.go (pc' := 32) (ls' := [.ref 5, .int x1, .int x2, .int (0 : Int32), ev_unk]) (st' := [.ref 5]) [.iconst 0, .istore_n 3, .aload_n 0] (by decide +kernel) rfl <|
      Ev.getf f_Re_46 (by decide +kernel) a1 rfl <|
      Ev.go (pc' := 37) (ls' := [.ref 5, .int x1, .int x2, .int (0 : Int32), .int f_start_3]) (st' := []) [.istore 4] (by decide +kernel) rfl <|
      (k2 c1 c2)
    )
  ) (fun c1 =>
    Ev.go (pc' := 11) (ls' := [.ref 5, .int x1, .int x2, ev_unk, ev_unk]) (st' := [.int (-2 : Int32)]) [.bipush (-2)] (by decide +kernel) rfl <|
    Ev.ret (r := (some (.int (-2 : Int32)))) (Or.inl ⟨_, rfl, by decide +kernel, _, rfl, rfl⟩) (k3 c1)
  )
theorem b_Re_number_37 {G : ev_G} {d k n : Nat} {h : ev_H} {R : Option Value → ev_H → Prop} {x1 : Int32} {x2 : Int32} {x3 : Int32} {x4 : Int32} {f_length_1 : Int32} {f_kind_2 : Int32} {f_start_3 : Int32} {f_end_4 : Int32} {g5 : Nat → Int32} {j6 : Nat}
  (a1 : hat h 5 (oC 4 [.ref 6, .ref 12, .ref 14, .ref 13, .int f_length_1, .int f_kind_2, .int f_start_3, .int f_end_4]))
  (a2 : hat h 13 (aB 900 g5))
  (i3 : x4 < f_end_4 → ev_ix x4 j6 900)
  (k1 : x4 < f_end_4 → Ev G d k n M_Re_number 37 [.ref 5, .int x1, .int x2, .int (((x3 * (10 : Int32)) + (g5 j6)) - (48 : Int32)), .int (x4 + (1 : Int32))] [] h R)
  (k2 : ¬ x4 < f_end_4 → x3 < x1 → R (some (.int (-4 : Int32))) h)
  (k3 : ¬ x4 < f_end_4 → ¬ x3 < x1 → x2 < x3 → R (some (.int (-4 : Int32))) h)
  (k4 : ¬ x4 < f_end_4 → ¬ x3 < x1 → ¬ x2 < x3 → R (some (.int x3)) h)
  : Ev G d k n M_Re_number 37 [.ref 5, .int x1, .int x2, .int x3, .int x4] [] h R :=
  Ev.go (pc' := 40) (ls' := [.ref 5, .int x1, .int x2, .int x3, .int x4]) (st' := [.ref 5, .int x4]) [.iload 4, .aload_n 0] (by decide +kernel) rfl <|
  Ev.getf f_Re_49 (by decide +kernel) a1 rfl <|
  Ev.br (i := .if_icmp .ge (25)) (P := x4 < f_end_4) (t := 46) (f := 68) (r := []) (by decide +kernel) rfl (fun c1 =>
    Ev.go (pc' := 51) (ls' := [.ref 5, .int x1, .int x2, .int x3, .int x4]) (st' := [.ref 5, .int (x3 * (10 : Int32))]) [.iload_n 3, .bipush (10), .imul, .aload_n 0] (by decide +kernel) rfl <|
    Ev.getf f_Re_36 (by decide +kernel) a1 rfl <|
    Ev.go (pc' := 56) (ls' := [.ref 5, .int x1, .int x2, .int x3, .int x4]) (st' := [.int x4, .ref 13, .int (x3 * (10 : Int32))]) [.iload 4] (by decide +kernel) rfl <|
    Ev.bald (j := j6) (by decide +kernel) a2 (i3 c1) <|
    Ev.go (pc' := 37) (ls' := [.ref 5, .int x1, .int x2, .int (((x3 * (10 : Int32)) + (g5 j6)) - (48 : Int32)), .int (x4 + (1 : Int32))]) (st' := []) [.iadd, .bipush (48), .isub, .istore_n 3, .iinc 4 (1), .goto (-28)] (by decide +kernel) rfl <|
    (k1 c1)
  ) (fun c1 =>
    Ev.go (pc' := 70) (ls' := [.ref 5, .int x1, .int x2, .int x3, .int x4]) (st' := [.int x1, .int x3]) [.iload_n 3, .iload_n 1] (by decide +kernel) rfl <|
    Ev.br (i := .if_icmp .lt (8)) (P := x3 < x1) (t := 78) (f := 73) (r := []) (by decide +kernel) rfl (fun c2 =>
      Ev.go (pc' := 84) (ls' := [.ref 5, .int x1, .int x2, .int x3, .int x4]) (st' := [.int (-4 : Int32)]) [.bipush (-4), .goto (4)] (by decide +kernel) rfl <|
      Ev.ret (r := (some (.int (-4 : Int32)))) (Or.inl ⟨_, rfl, by decide +kernel, _, rfl, rfl⟩) (k2 c1 c2)
    ) (fun c2 =>
      Ev.go (pc' := 75) (ls' := [.ref 5, .int x1, .int x2, .int x3, .int x4]) (st' := [.int x2, .int x3]) [.iload_n 3, .iload_n 2] (by decide +kernel) rfl <|
      Ev.br (i := .if_icmp .le (8)) (P := x2 < x3) (t := 78) (f := 83) (r := []) (by decide +kernel) rfl (fun c3 =>
        Ev.go (pc' := 84) (ls' := [.ref 5, .int x1, .int x2, .int x3, .int x4]) (st' := [.int (-4 : Int32)]) [.bipush (-4), .goto (4)] (by decide +kernel) rfl <|
        Ev.ret (r := (some (.int (-4 : Int32)))) (Or.inl ⟨_, rfl, by decide +kernel, _, rfl, rfl⟩) (k3 c1 c2 c3)
      ) (fun c3 =>
        Ev.go (pc' := 84) (ls' := [.ref 5, .int x1, .int x2, .int x3, .int x4]) (st' := [.int x3]) [.iload_n 3] (by decide +kernel) rfl <|
        Ev.ret (r := (some (.int x3))) (Or.inl ⟨_, rfl, by decide +kernel, _, rfl, rfl⟩) (k4 c1 c2 c3)
      )
    )
  )
theorem b_Re_binary_0 {G : ev_G} {d k n : Nat} {h : ev_H} {R : Option Value → ev_H → Prop} {f_length_1 : Int32} {f_kind_2 : Int32} {f_start_3 : Int32} {f_end_4 : Int32} {f_bits_5 : Int32} {f_parts_6 : Int32} {f_size_7 : Int32} {fv8 : Value}
  (a1 : hat h 5 (oC 4 [.ref 6, .ref 12, .ref 14, .ref 13, .int f_length_1, .int f_kind_2, .int f_start_3, .int f_end_4]))
  (a2 : hat h 14 (oC 6 [.int f_bits_5, .int f_parts_6, .ref 15, .int f_size_7, .ref 16, .ref 17, fv8]))
  (k1 : f_kind_2 = (48 : Int32) → (f_end_4 - f_start_3) = f_bits_5 → Ev G d k n M_Re_binary 43 [.ref 5, .long (0 : Int64), ev_unk, .int f_start_3] [] h R)
  (k2 : f_kind_2 = (48 : Int32) → ¬ (f_end_4 - f_start_3) = f_bits_5 → R (some (.long (-3 : Int64))) h)
  (k3 : ¬ f_kind_2 = (48 : Int32) → R (some (.long (-2 : Int64))) h)
  : Ev G d k n M_Re_binary 0 [.ref 5, ev_unk, ev_unk, ev_unk] [] h R :=
  Ev.go (pc' := 1) (ls' := [.ref 5, ev_unk, ev_unk, ev_unk]) (st' := [.ref 5]) [.aload_n 0] (by decide +kernel) rfl <|
  Ev.getf f_Re_43 (by decide +kernel) a1 rfl <|
  Ev.go (pc' := 6) (ls' := [.ref 5, ev_unk, ev_unk, ev_unk]) (st' := [.int (48 : Int32), .int f_kind_2]) [.bipush (48)] (by decide +kernel) rfl <|
  Ev.br (i := .if_icmp .eq (7)) (P := f_kind_2 = (48 : Int32)) (t := 13) (f := 9) (r := []) (by decide +kernel) rfl (fun c1 =>
    Ev.go (pc' := 14) (ls' := [.ref 5, ev_unk, ev_unk, ev_unk]) (st' := [.ref 5]) [.aload_n 0] (by decide +kernel) rfl <|
    Ev.getf f_Re_49 (by decide +kernel) a1 rfl <|
    Ev.go (pc' := 18) (ls' := [.ref 5, ev_unk, ev_unk, ev_unk]) (st' := [.ref 5, .int f_end_4]) [.aload_n 0] (by decide +kernel) rfl <|
    Ev.getf f_Re_46 (by decide +kernel) a1 rfl <|
    Ev.go (pc' := 23) (ls' := [.ref 5, ev_unk, ev_unk, ev_unk]) (st' := [.ref 5, .int (f_end_4 - f_start_3)]) [.isub, .aload_n 0] (by decide +kernel) rfl <|
    Ev.getf f_Re_28 (by decide +kernel) a1 rfl <|
    Ev.getf f_Re_108 (by decide +kernel) a2 rfl <|
    Ev.br (i := .if_icmp .eq (7)) (P := (f_end_4 - f_start_3) = f_bits_5) (t := 36) (f := 32) (r := []) (by decide +kernel) rfl (fun c2 =>
      Ev.go (pc' := 39) (ls' := [.ref 5, .long (0 : Int64), ev_unk, ev_unk]) (st' := [.ref 5]) [.lconst 0, .lstore_n 1, .aload_n 0] (by decide +kernel) rfl <|
      Ev.getf f_Re_46 (by decide +kernel) a1 rfl <|
      Ev.go (pc' := 43) (ls' := [.ref 5, .long (0 : Int64), ev_unk, .int f_start_3]) (st' := []) [.istore_n 3] (by decide +kernel) rfl <|
      (k1 c1 c2)
    ) (fun c2 =>
      Ev.ldc2 k_Re_110 (by decide +kernel) <|
      Ev.ret (r := (some (.long (-3 : Int64)))) (Or.inr (Or.inl ⟨_, rfl, by decide +kernel, rfl⟩)) (k2 c1 c2)
    )
  ) (fun c1 =>
    Ev.ldc2 k_Re_106 (by decide +kernel) <|
    Ev.ret (r := (some (.long (-2 : Int64)))) (Or.inr (Or.inl ⟨_, rfl, by decide +kernel, rfl⟩)) (k3 c1)
  )
theorem b_Re_binary_43 {G : ev_G} {d k n : Nat} {h : ev_H} {R : Option Value → ev_H → Prop} {x1 : Int64} {x3 : Int32} {f_length_1 : Int32} {f_kind_2 : Int32} {f_start_3 : Int32} {f_end_4 : Int32} {g5 : Nat → Int32} {j6 : Nat}
  (a1 : hat h 5 (oC 4 [.ref 6, .ref 12, .ref 14, .ref 13, .int f_length_1, .int f_kind_2, .int f_start_3, .int f_end_4]))
  (a2 : hat h 13 (aB 900 g5))
  (i3 : x3 < f_end_4 → ev_ix x3 j6 900)
  (i4 : x3 < f_end_4 → ¬ (49 : Int32) < (g5 j6) → ev_ix x3 j6 900)
  (k1 : x3 < f_end_4 → (49 : Int32) < (g5 j6) → R (some (.long (-3 : Int64))) h)
  (k2 : x3 < f_end_4 → ¬ (49 : Int32) < (g5 j6) → Ev G d k n M_Re_binary 43 [.ref 5, .long ((x1 <<< ((1 : Int32).toInt64 &&& 63)) ||| ((g5 j6) - (48 : Int32)).toInt64), ev_unk, .int (x3 + (1 : Int32))] [] h R)
  (k3 : ¬ x3 < f_end_4 → R (some (.long x1)) h)
  : Ev G d k n M_Re_binary 43 [.ref 5, .long x1, ev_unk, .int x3] [] h R :=
  Ev.go (pc' := 45) (ls' := [.ref 5, .long x1, ev_unk, .int x3]) (st' := [.ref 5, .int x3]) [.iload_n 3, .aload_n 0] (by decide +kernel) rfl <|
  Ev.getf f_Re_49 (by decide +kernel) a1 rfl <|
  Ev.br (i := .if_icmp .ge (39)) (P := x3 < f_end_4) (t := 51) (f := 87) (r := []) (by decide +kernel) rfl (fun c1 =>
    Ev.go (pc' := 52) (ls' := [.ref 5, .long x1, ev_unk, .int x3]) (st' := [.ref 5]) [.aload_n 0] (by decide +kernel) rfl <|
    Ev.getf f_Re_36 (by decide +kernel) a1 rfl <|
    Ev.go (pc' := 56) (ls' := [.ref 5, .long x1, ev_unk, .int x3]) (st' := [.int x3, .ref 13]) [.iload_n 3] (by decide +kernel) rfl <|
    Ev.bald (j := j6) (by decide +kernel) a2 (i3 c1) <|
    Ev.go (pc' := 59) (ls' := [.ref 5, .long x1, ev_unk, .int x3]) (st' := [.int (49 : Int32), .int (g5 j6)]) [.bipush (49)] (by decide +kernel) rfl <|
    Ev.br (i := .if_icmp .le (7)) (P := (49 : Int32) < (g5 j6)) (t := 62) (f := 66) (r := []) (by decide +kernel) rfl (fun c2 =>
      Ev.ldc2 k_Re_110 (by decide +kernel) <|
      Ev.ret (r := (some (.long (-3 : Int64)))) (Or.inr (Or.inl ⟨_, rfl, by decide +kernel, rfl⟩)) (k1 c1 c2)
    ) (fun c2 =>
      Ev.go (pc' := 70) (ls' := [.ref 5, .long x1, ev_unk, .int x3]) (st' := [.ref 5, .long (x1 <<< ((1 : Int32).toInt64 &&& 63))]) [.lload_n 1, .iconst 1, .lshl, .aload_n 0] (by decide +kernel) rfl <|
      Ev.getf f_Re_36 (by decide +kernel) a1 rfl <|
      Ev.go (pc' := 74) (ls' := [.ref 5, .long x1, ev_unk, .int x3]) (st' := [.int x3, .ref 13, .long (x1 <<< ((1 : Int32).toInt64 &&& 63))]) [.iload_n 3] (by decide +kernel) rfl <|
      Ev.bald (j := j6) (by decide +kernel) a2 (i4 c1 c2) <|
      Ev.go (pc' := 43) (ls' := [.ref 5, .long ((x1 <<< ((1 : Int32).toInt64 &&& 63)) ||| ((g5 j6) - (48 : Int32)).toInt64), ev_unk, .int (x3 + (1 : Int32))]) (st' := []) [.bipush (48), .isub, .i2l, .lor, .lstore_n 1, .iinc 3 (1), .goto (-41)] (by decide +kernel) rfl <|
      (k2 c1 c2)
    )
  ) (fun c1 =>
    Ev.go (pc' := 88) (ls' := [.ref 5, .long x1, ev_unk, .int x3]) (st' := [.long x1]) [.lload_n 1] (by decide +kernel) rfl <|
    Ev.ret (r := (some (.long x1))) (Or.inr (Or.inl ⟨_, rfl, by decide +kernel, rfl⟩)) (k3 c1)
  )
theorem b_Re_isWord_0 {G : ev_G} {d k n : Nat} {h : ev_H} {R : Option Value → ev_H → Prop} {si : Nat} {f_length_1 : Int32} {f_kind_2 : Int32} {f_start_3 : Int32} {f_end_4 : Int32}
  (a1 : hat h 5 (oC 4 [.ref 6, .ref 12, .ref 14, .ref 13, .int f_length_1, .int f_kind_2, .int f_start_3, .int f_end_4]))
  (s2 : si < 15)
  (k1 : f_kind_2 = (97 : Int32) → (f_end_4 - f_start_3) = (nI (ev_len.getD si 0)) → Ev G (d + 4) k n M_Re_isWord 29 [.ref 5, .ref (ev_big + si), .int (0 : Int32)] [] h R)
  (k2 : f_kind_2 = (97 : Int32) → ¬ (f_end_4 - f_start_3) = (nI (ev_len.getD si 0)) → R (some (.int (0 : Int32))) h)
  (k3 : ¬ f_kind_2 = (97 : Int32) → R (some (.int (0 : Int32))) h)
  : Ev G (d + 4) k n M_Re_isWord 0 [.ref 5, .ref (ev_big + si), ev_unk] [] h R :=
  Ev.go (pc' := 1) (ls' := [.ref 5, .ref (ev_big + si), ev_unk]) (st' := [.ref 5]) [.aload_n 0] (by decide +kernel) rfl <|
  Ev.getf f_Re_43 (by decide +kernel) a1 rfl <|
  Ev.go (pc' := 6) (ls' := [.ref 5, .ref (ev_big + si), ev_unk]) (st' := [.int (97 : Int32), .int f_kind_2]) [.bipush (97)] (by decide +kernel) rfl <|
  Ev.br (i := .if_icmp .ne (19)) (P := f_kind_2 = (97 : Int32)) (t := 9) (f := 25) (r := []) (by decide +kernel) rfl (fun c1 =>
    Ev.go (pc' := 10) (ls' := [.ref 5, .ref (ev_big + si), ev_unk]) (st' := [.ref 5]) [.aload_n 0] (by decide +kernel) rfl <|
    Ev.getf f_Re_49 (by decide +kernel) a1 rfl <|
    Ev.go (pc' := 14) (ls' := [.ref 5, .ref (ev_big + si), ev_unk]) (st' := [.ref 5, .int f_end_4]) [.aload_n 0] (by decide +kernel) rfl <|
    Ev.getf f_Re_46 (by decide +kernel) a1 rfl <|
    Ev.go (pc' := 19) (ls' := [.ref 5, .ref (ev_big + si), ev_unk]) (st' := [.ref (ev_big + si), .int (f_end_4 - f_start_3)]) [.isub, .aload_n 1] (by decide +kernel) rfl <|
    Ev.sLen (i := si) lL_Re_100 s2 (Nat.le_of_ble_eq_true rfl) (by decide +kernel) <|
    Ev.br (i := .if_icmp .eq (5)) (P := (f_end_4 - f_start_3) = (nI (ev_len.getD si 0))) (t := 27) (f := 25) (r := []) (by decide +kernel) rfl (fun c2 =>
      Ev.go (pc' := 29) (ls' := [.ref 5, .ref (ev_big + si), .int (0 : Int32)]) (st' := []) [.iconst 0, .istore_n 2] (by decide +kernel) rfl <|
      (k1 c1 c2)
    ) (fun c2 =>
      Ev.go (pc' := 26) (ls' := [.ref 5, .ref (ev_big + si), ev_unk]) (st' := [.int (0 : Int32)]) [.iconst 0] (by decide +kernel) rfl <|
      Ev.ret (r := (some (.int (0 : Int32)))) (Or.inl ⟨_, rfl, by decide +kernel, _, rfl, rfl⟩) (k2 c1 c2)
    )
  ) (fun c1 =>
    Ev.go (pc' := 26) (ls' := [.ref 5, .ref (ev_big + si), ev_unk]) (st' := [.int (0 : Int32)]) [.iconst 0] (by decide +kernel) rfl <|
    Ev.ret (r := (some (.int (0 : Int32)))) (Or.inl ⟨_, rfl, by decide +kernel, _, rfl, rfl⟩) (k3 c1)
  )
theorem b_Re_isWord_29 {G : ev_G} {d k n : Nat} {h : ev_H} {R : Option Value → ev_H → Prop} {si : Nat} {x2 : Int32} {f_length_1 : Int32} {f_kind_2 : Int32} {f_start_3 : Int32} {f_end_4 : Int32} {g5 : Nat → Int32} {j6 : Nat} {j7 : Nat}
  (a2 : hat h 5 (oC 4 [.ref 6, .ref 12, .ref 14, .ref 13, .int f_length_1, .int f_kind_2, .int f_start_3, .int f_end_4]))
  (a3 : hat h 13 (aB 900 g5))
  (s1 : si < 15)
  (i4 : x2 < (nI (ev_len.getD si 0)) → ev_ix (f_start_3 + x2) j6 900)
  (i5 : x2 < (nI (ev_len.getD si 0)) → ev_ix x2 j7 (ev_len.getD si 0))
  (k1 : x2 < (nI (ev_len.getD si 0)) → (g5 j6) = (ev_chr si j7) → Ev G (d + 4) k n M_Re_isWord 29 [.ref 5, .ref (ev_big + si), .int (x2 + (1 : Int32))] [] h R)
  (k2 : x2 < (nI (ev_len.getD si 0)) → ¬ (g5 j6) = (ev_chr si j7) → R (some (.int (0 : Int32))) h)
  (k3 : ¬ x2 < (nI (ev_len.getD si 0)) → R (some (.int (1 : Int32))) h)
  : Ev G (d + 4) k n M_Re_isWord 29 [.ref 5, .ref (ev_big + si), .int x2] [] h R :=
  Ev.go (pc' := 31) (ls' := [.ref 5, .ref (ev_big + si), .int x2]) (st' := [.ref (ev_big + si), .int x2]) [.iload_n 2, .aload_n 1] (by decide +kernel) rfl <|
  Ev.sLen (i := si) lL_Re_100 s1 (Nat.le_of_ble_eq_true rfl) (by decide +kernel) <|
  Ev.br (i := .if_icmp .ge (30)) (P := x2 < (nI (ev_len.getD si 0))) (t := 37) (f := 64) (r := []) (by decide +kernel) rfl (fun c1 =>
    Ev.go (pc' := 38) (ls' := [.ref 5, .ref (ev_big + si), .int x2]) (st' := [.ref 5]) [.aload_n 0] (by decide +kernel) rfl <|
    Ev.getf f_Re_36 (by decide +kernel) a2 rfl <|
    Ev.go (pc' := 42) (ls' := [.ref 5, .ref (ev_big + si), .int x2]) (st' := [.ref 5, .ref 13]) [.aload_n 0] (by decide +kernel) rfl <|
    Ev.getf f_Re_46 (by decide +kernel) a2 rfl <|
    Ev.go (pc' := 47) (ls' := [.ref 5, .ref (ev_big + si), .int x2]) (st' := [.int (f_start_3 + x2), .ref 13]) [.iload_n 2, .iadd] (by decide +kernel) rfl <|
    Ev.bald (j := j6) (by decide +kernel) a3 (i4 c1) <|
    Ev.go (pc' := 50) (ls' := [.ref 5, .ref (ev_big + si), .int x2]) (st' := [.int x2, .ref (ev_big + si), .int (g5 j6)]) [.aload_n 1, .iload_n 2] (by decide +kernel) rfl <|
    Ev.sChr (i := si) (j := j7) lL_Re_102 s1 (i5 c1) (Nat.le_of_ble_eq_true rfl) (by decide +kernel) <|
    Ev.br (i := .if_icmp .eq (5)) (P := (g5 j6) = (ev_chr si j7)) (t := 58) (f := 56) (r := []) (by decide +kernel) rfl (fun c2 =>
      Ev.go (pc' := 29) (ls' := [.ref 5, .ref (ev_big + si), .int (x2 + (1 : Int32))]) (st' := []) [.iinc 2 (1), .goto (-32)] (by decide +kernel) rfl <|
      (k1 c1 c2)
    ) (fun c2 =>
      Ev.go (pc' := 57) (ls' := [.ref 5, .ref (ev_big + si), .int x2]) (st' := [.int (0 : Int32)]) [.iconst 0] (by decide +kernel) rfl <|
      Ev.ret (r := (some (.int (0 : Int32)))) (Or.inl ⟨_, rfl, by decide +kernel, _, rfl, rfl⟩) (k2 c1 c2)
    )
  ) (fun c1 =>
    Ev.go (pc' := 65) (ls' := [.ref 5, .ref (ev_big + si), .int x2]) (st' := [.int (1 : Int32)]) [.iconst 1] (by decide +kernel) rfl <|
    Ev.ret (r := (some (.int (1 : Int32)))) (Or.inl ⟨_, rfl, by decide +kernel, _, rfl, rfl⟩) (k3 c1)
  )
def ReB (h : ev_H) (L : Nat) (T : Tk) : Prop := hat h 5 (oC 4 [.ref 6, .ref 12, .ref 14, .ref 13, .int (nI L), .int (nI T.1), .int (nI T.2.1), .int (nI T.2.2)])
def TxB (h : ev_H) (B : Nat → Nat) (L : Nat) : Prop := L ≤ 900 ∧ ∃ g, hat h 13 (aB 900 g) ∧ ∀ k, k < L → g k = sb (B k) ∧ B k < 256
theorem TxB.kg {h h1 : ev_H} {B : Nat → Nat} {L lo hi : Nat} (X : TxB h B L) (K : Kg h h1 lo hi) (q : hi ≤ 13 ∨ 14 ≤ lo) : TxB h1 B L := by
  obtain ⟨a, g, b, c⟩ := X
  exact ⟨a, g, K.hat b (by omega), c⟩
theorem ReB.kg {h h1 : ev_H} {L lo hi : Nat} {T : Tk} (X : ReB h L T) (K : Kg h h1 lo hi) (q : hi ≤ 5 ∨ 6 ≤ lo) : ReB h1 L T := K.hat X (by omega)
theorem fl0 {b : Nat} (h : ¬ (97 ≤ b ∧ b ≤ 122)) : (0 : Int32) = b2i (ltrB b) := by unfold ltrB; rw [decide_eq_false h]; rfl
theorem fl1 {b : Nat} (h : 97 ≤ b ∧ b ≤ 122) : (1 : Int32) = b2i (ltrB b) := by unfold ltrB; rw [decide_eq_true h]; rfl
theorem fd0 {b : Nat} (h : ¬ (48 ≤ b ∧ b ≤ 57)) : (0 : Int32) = b2i (dgtB b) := by unfold dgtB; rw [decide_eq_false h]; rfl
theorem fd1 {b : Nat} (h : 48 ≤ b ∧ b ≤ 57) : (1 : Int32) = b2i (dgtB b) := by unfold dgtB; rw [decide_eq_true h]; rfl
section S34
variable {G : ev_G} {d : Nat} {h : ev_H} {R : Option Value → ev_H → Prop} {B : Nat → Nat} {L : Nat} {T : Tk}
theorem s_Re_next (H : ReB h L T) (X : TxB h B L) (he : T.2.2 ≤ L) (hR : ∀ h', Kp h h' 5 6 → ReB h' L (tok B L T.2.2) → R none h') : Ev G (d + 4) 0 0 M_Re_next 0 [.ref 5, ev_unk, ev_unk, ev_unk, ev_unk, ev_unk, ev_unk, ev_unk] [] h R := by
  obtain ⟨hL, g, tx, tb⟩ := X
  refine b_Re_next_0 H ?_
  have N206 : ∀ (h1 : ev_H) (s e : Nat) (lo hi : Int32), Kp h h1 5 6 → ReB h1 L (0, s, e) → s < L → s ≤ e → e ≤ L → rn blkB B L T.2.2 = s → e = (if ltrB (B s) then rn ltrB B L s else if dgtB (B s) then rn dgtB B L s else s + 1) → Ev G (d + 4) 0 0 M_Re_next 206 [.ref 5, .int (nI s), .int (nI (B s)), .int (b2i (ltrB (B s))), .int (b2i (dgtB (B s))), .int lo, .int hi, ev_unk] [] h1 R := by
    intro h1 s e lo hi K1 H1 hs hse heL es ee
    have hB := (tb s hs).2
    have N249 : ∀ (y : Int32) (kd : Nat), (y = 0 → kd = if ltrB (B s) then 97 else if dgtB (B s) then 48 else B s) → (¬ y = 0 → kd = 1) → tok B L T.2.2 = (kd, s, e) → Ev G (d + 4) 0 0 M_Re_next 249 [.ref 5, .int (nI s), .int (nI (B s)), .int (b2i (ltrB (B s))), .int (b2i (dgtB (B s))), .int lo, .int hi, ev_unk] [.int y] h1 R := by
      intro y kd y0 y1 et
      rw [et] at hR
      have fin : ∀ kI : Int32, kI = nI kd → R none (hset h1 5 (oC 4 [.ref 6, .ref 12, .ref 14, .ref 13, .int (nI L), .int kI, .int (nI s), .int (nI e)])) := fun kI q => by
        subst q
        exact hR _ (K1.trans ((Kp.refl h1 5 6).set _ (by omega) (by omega))) ⟨H1.1, hset_eq _ _ _⟩
      refine b_Re_next_249 H1 (fun c1 c2 c3 => fin _ ?_) (fun c1 c2 c3 => fin _ ?_) (fun c1 c2 => fin _ ?_) (fun c1 => fin _ ?_)
      · rw [y0 c1, b2i_e0 c2, b2i_e0 c3]; rfl
      · rw [y0 c1, b2i_e0 c2, b2i_n0 c3]; rfl
      · rw [y0 c1, b2i_n0 c2]; rfl
      · rw [y1 c1]; rfl
    have tk : tok B L T.2.2 = (if ltrB (B s) then (97, s, rn ltrB B L s) else if dgtB (B s) then (if 48 < rn dgtB B L s - s then 1 else 48, s, rn dgtB B L s) else (if sgnB (B s) then B s else 1, s, s + 1)) := by
      unfold tok tokA; rw [es, if_pos hs]
    have sub : nI e - nI s = nI (e - s) := nI_sub hse
    refine b_Re_next_206 (h := h1) H1 (fun c1 c2 c3 => ?_) (fun c1 c2 c3 => ?_) (fun c1 c2 => ?_) (fun c1 c2 => ?_) (fun c1 c2 => ?_)
    · have l := b2i_e0 c2
      have dd := b2i_e0 c1
      have c3 := (ixo_sgn hB).mp c3
      rw [l, dd] at tk ee
      rw [c3] at tk
      exact N249 1 1 (fun q => absurd q (by decide)) (fun _ => rfl) (by rw [tk, ee]; rfl)
    · have l := b2i_e0 c2
      have dd := b2i_e0 c1
      have c3 : sgnB (B s) = true := by
        cases q : sgnB (B s)
        · exact absurd ((ixo_sgn hB).mpr q) c3
        · rfl
      rw [l, dd] at tk ee
      rw [c3] at tk
      exact N249 0 (B s) (fun _ => by rw [l, dd]; rfl) (fun q => absurd rfl q) (by rw [tk, ee]; rfl)
    · have l := b2i_n0 c2
      rw [l] at tk ee
      exact N249 0 97 (fun _ => by rw [l]; rfl) (fun q => absurd rfl q) (by rw [tk, ee]; rfl)
    · have dd := b2i_n0 c1
      have l : ltrB (B s) = false := by
        have dd := of_decide_eq_true dd
        exact decide_eq_false (by omega)
      rw [l, dd] at tk ee
      simp only [Bool.false_eq_true, if_false, if_true] at tk ee
      rw [sub] at c2
      have c2 : 48 < e - s := (nI_ltI (a := 48) (by omega) (by omega)).mp c2
      rw [← ee, if_pos c2] at tk
      exact N249 1 1 (fun q => absurd q (by decide)) (fun _ => rfl) tk
    · have dd := b2i_n0 c1
      have l : ltrB (B s) = false := by
        have dd := of_decide_eq_true dd
        exact decide_eq_false (by omega)
      rw [l, dd] at tk ee
      simp only [Bool.false_eq_true, if_false, if_true] at tk ee
      rw [sub] at c2
      have c2 : ¬ 48 < e - s := fun q => c2 (nI_lt (a := 48) q (by omega))
      rw [← ee, if_neg c2] at tk
      exact N249 0 48 (fun _ => by rw [l, dd]; rfl) (fun q => absurd rfl q) tk
  have N145 : ∀ (s : Nat) (p : Nat → Bool) (lo hi : Int32), s < L → rn blkB B L T.2.2 = s → (∀ b, b < 256 → ((¬ sb b < lo ∧ ¬ hi < sb b) ↔ p b = true)) → p (B s) = true → (rn p B L s = (if ltrB (B s) then rn ltrB B L s else if dgtB (B s) then rn dgtB B L s else s + 1)) → ¬ (b2i (ltrB (B s)) = 0 ∧ b2i (dgtB (B s)) = 0) → ∀ (f e : Nat), L - e = f → s < e → e ≤ L → rn p B L e = rn p B L s → ∀ h1, Kp h h1 5 6 → ReB h1 L (0, s, e) → Ev G (d + 4) 0 0 M_Re_next 145 [.ref 5, .int (nI s), .int (nI (B s)), .int (b2i (ltrB (B s))), .int (b2i (dgtB (B s))), .int lo, .int hi, ev_unk] [] h1 R := by
    intro s p lo hi hs es hp ps ee nz f
    induction f with
    | zero =>
      intro e hf hse heL er h1 K1 H1
      have eL : e = L := by omega
      have no : ¬ nI e < nI L := by rw [eL]; exact nl_self (by omega)
      have go : Ev G (d + 4) 0 0 M_Re_next 154 [.ref 5, .int (nI s), .int (nI (B s)), .int (b2i (ltrB (B s))), .int (b2i (dgtB (B s))), .int lo, .int hi, ev_unk] [] h1 R := by
        refine b_Re_next_154 (j6 := 0) H1 (K1.hat tx (by omega)) (fun c => absurd c no) (fun c => absurd c no) (fun c => absurd c no) (fun c => absurd c no) (fun c => absurd c no) (fun _ => ?_)
        exact N206 h1 s e lo hi K1 H1 hs (by omega) heL es (by rw [← ee, ← er, eL, rn_stop (fun q => absurd q (Nat.lt_irrefl _))])
      exact b_Re_next_145 (fun c1 c2 => absurd ⟨c1, c2⟩ nz) (fun _ _ => go) (fun _ => go)
    | succ f ih =>
      intro e hf hse heL er h1 K1 H1
      have yes : nI e < nI L := nI_lt (by omega) (by omega)
      obtain ⟨ge, bb⟩ := tb e (by omega)
      have stop : p (B e) = false → Ev G (d + 4) 0 0 M_Re_next 206 [.ref 5, .int (nI s), .int (nI (B s)), .int (b2i (ltrB (B s))), .int (b2i (dgtB (B s))), .int lo, .int hi, ev_unk] [] h1 R := fun q =>
        N206 h1 s e lo hi K1 H1 hs (by omega) heL es (by rw [← ee, ← er, rn_stop (fun _ => q)])
      have go : Ev G (d + 4) 0 0 M_Re_next 154 [.ref 5, .int (nI s), .int (nI (B s)), .int (b2i (ltrB (B s))), .int (b2i (dgtB (B s))), .int lo, .int hi, ev_unk] [] h1 R := by
        refine b_Re_next_154 (j6 := e) H1 (K1.hat tx (by omega)) (fun _ => ixn (show e < 900 by omega) (by decide)) (fun _ _ => ixn (show e < 900 by omega) (by decide)) (fun _ c => stop ?_) (fun _ c c2 => stop ?_) (fun _ c c2 => ?_) (fun c => absurd yes c)
        · cases q : p (B e)
          · rfl
          · rw [ge] at c; exact absurd c ((hp _ bb).mpr q).1
        · cases q : p (B e)
          · rfl
          · rw [ge] at c2; exact absurd c2 ((hp _ bb).mpr q).2
        · rw [ge] at c c2
          have q := (hp _ bb).mp ⟨c, c2⟩
          rw [nI_1]
          refine ih (e + 1) (by omega) (by omega) (by omega) (by rw [← rn_step (by omega) q]; exact er) _ (K1.set _ (by omega) (by omega)) ⟨H1.1, hset_eq _ _ _⟩
      exact b_Re_next_145 (fun c1 c2 => absurd ⟨c1, c2⟩ nz) (fun _ _ => go) (fun _ => go)
  have N41 : Ev G (d + 4) 0 0 M_Re_next 41 [.ref 5, .int (nI (rn blkB B L T.2.2)), ev_unk, ev_unk, ev_unk, ev_unk, ev_unk, ev_unk] [] h R := by
    have hsL := rn_le (p := blkB) (B := B) (L := L) (e := T.2.2) he
    generalize es : rn blkB B L T.2.2 = s at hsL
    by_cases hs : s < L
    · obtain ⟨gs, bb⟩ := tb s hs
      have yes : nI s < nI L := nI_lt hs (by omega)
      have e255 : g s &&& 255 = nI (B s) := by rw [gs]; exact sb_255 bb
      have u97 : g s &&& 255 < 97 ↔ B s < 97 := by rw [e255]; exact nI_ltI (b := 97) (by omega) (by omega)
      have u48 : g s &&& 255 < 48 ↔ B s < 48 := by rw [e255]; exact nI_ltI (b := 48) (by omega) (by omega)
      have u122 : 122 < g s &&& 255 ↔ 122 < B s := by rw [e255]; exact nI_ltI (a := 122) (by omega) (by omega)
      have u57 : 57 < g s &&& 255 ↔ 57 < B s := by rw [e255]; exact nI_ltI (a := 57) (by omega) (by omega)
      have N110 : ∀ x3 y0 : Int32, x3 = b2i (ltrB (B s)) → y0 = b2i (dgtB (B s)) → Ev G (d + 4) 0 0 M_Re_next 110 [.ref 5, .int (nI s), .int (g s &&& 255), .int x3, ev_unk, ev_unk, ev_unk, ev_unk] [.int y0] (hset (hset (hset h 5 (oC 4 [.ref 6, .ref 12, .ref 14, .ref 13, .int (nI L), .int (nI T.1), .int (nI s), .int (nI T.2.2)])) 5 (oC 4 [.ref 6, .ref 12, .ref 14, .ref 13, .int (nI L), .int (nI T.1), .int (nI s), .int (nI s)])) 5 (oC 4 [.ref 6, .ref 12, .ref 14, .ref 13, .int (nI L), .int (0 : Int32), .int (nI s), .int (nI s)])) R := by
        intro x3 y0 e3 e0
        subst e3; subst e0
        rw [e255]
        have K1 := (((Kp.refl h 5 6).set (k := 5) (oC 4 [.ref 6, .ref 12, .ref 14, .ref 13, .int (nI L), .int (nI T.1), .int (nI s), .int (nI T.2.2)]) (by omega) (by omega)).set (k := 5) (oC 4 [.ref 6, .ref 12, .ref 14, .ref 13, .int (nI L), .int (nI T.1), .int (nI s), .int (nI s)]) (by omega) (by omega)).set (k := 5) (oC 4 [.ref 6, .ref 12, .ref 14, .ref 13, .int (nI L), .int (0 : Int32), .int (nI s), .int (nI s)]) (by omega) (by omega)
        have H1 : ReB (hset (hset (hset h 5 (oC 4 [.ref 6, .ref 12, .ref 14, .ref 13, .int (nI L), .int (nI T.1), .int (nI s), .int (nI T.2.2)])) 5 (oC 4 [.ref 6, .ref 12, .ref 14, .ref 13, .int (nI L), .int (nI T.1), .int (nI s), .int (nI s)])) 5 (oC 4 [.ref 6, .ref 12, .ref 14, .ref 13, .int (nI L), .int (0 : Int32), .int (nI s), .int (nI s)])) L (0, s, s) := ⟨H.1, hset_eq _ _ _⟩
        revert K1 H1
        generalize hset (hset (hset h 5 (oC 4 [.ref 6, .ref 12, .ref 14, .ref 13, .int (nI L), .int (nI T.1), .int (nI s), .int (nI T.2.2)])) 5 (oC 4 [.ref 6, .ref 12, .ref 14, .ref 13, .int (nI L), .int (nI T.1), .int (nI s), .int (nI s)])) 5 (oC 4 [.ref 6, .ref 12, .ref 14, .ref 13, .int (nI L), .int (0 : Int32), .int (nI s), .int (nI s)]) = h1
        intro K1 H1
        have K2 := K1.set (k := 5) (oC 4 [.ref 6, .ref 12, .ref 14, .ref 13, .int (nI L), .int (nI 0), .int (nI s), .int (nI (s + 1))]) (by omega) (by omega)
        have H2 : ReB (hset h1 5 (oC 4 [.ref 6, .ref 12, .ref 14, .ref 13, .int (nI L), .int (nI 0), .int (nI s), .int (nI (s + 1))])) L (0, s, s + 1) := ⟨H1.1, hset_eq _ _ _⟩
        refine b_Re_next_110 H1 (fun c _ => ?_) (fun c c2 => absurd c c2) (fun c c2 => absurd c2 c) (fun c _ => ?_)
        · rw [nI_1]
          have l := b2i_e0 c
          cases dd : dgtB (B s)
          · refine b_Re_next_145 (fun _ _ => ?_) (fun _ c2 => absurd (by decide) c2) (fun c2 => absurd c c2)
            have := N206 _ s (s + 1) 48 57 K2 H2 hs (by omega) (by omega) es (by rw [l, dd]; rfl)
            rw [dd] at this
            exact this
          · have := N145 s dgtB 48 57 hs es (fun b hb => sb_dgt hb) dd (by rw [l, dd]; rfl) (by rw [dd]; exact fun q => absurd q.2 (by decide)) (L - (s + 1)) (s + 1) rfl (by omega) (by omega) (rn_step hs dd).symm _ K2 H2
            rw [dd] at this
            exact this
        · rw [nI_1]
          have l := b2i_n0 c
          exact N145 s ltrB 97 122 hs es (fun b hb => sb_ltr hb) l (by rw [l]; rfl) (by rw [l]; exact fun q => absurd q.1 (by decide)) (L - (s + 1)) (s + 1) rfl (by omega) (by omega) (rn_step hs l).symm _ K2 H2
      refine b_Re_next_41 (j6 := s) H tx (fun _ => ixn (by omega) (by decide)) (fun _ c2 c3 => N110 _ _ (fl0 ?_) (fd0 ?_)) (fun _ c2 c3 c4 => N110 _ _ (fl0 ?_) (fd0 ?_)) (fun _ c2 c3 c4 => N110 _ _ (fl0 ?_) (fd1 ?_)) (fun _ c2 c3 c4 => N110 _ _ (fl0 ?_) (fd0 ?_)) (fun _ c2 c3 c4 c5 => N110 _ _ (fl0 ?_) (fd0 ?_)) (fun _ c2 c3 c4 c5 => N110 _ _ (fl0 ?_) (fd1 ?_)) (fun _ c2 c3 c4 => N110 _ _ (fl1 ?_) (fd0 ?_)) (fun _ c2 c3 c4 c5 => N110 _ _ (fl1 ?_) (fd0 ?_)) (fun _ c2 c3 c4 c5 => N110 _ _ (fl1 ?_) (fd1 ?_)) (fun c => absurd yes c)
      all_goals (simp only [u97, u48, u122, u57] at *; omega)
    · have no : ¬ nI s < nI L := nI_nlt (by omega) (by omega)
      refine b_Re_next_41 (j6 := 0) H tx (fun c => absurd c no) (fun c => absurd c no) (fun c => absurd c no) (fun c => absurd c no) (fun c => absurd c no) (fun c => absurd c no) (fun c => absurd c no) (fun c => absurd c no) (fun c => absurd c no) (fun c => absurd c no) (fun _ => ?_)
      have et : tok B L T.2.2 = (0, s, s) := by unfold tok tokA; rw [es, if_neg hs]
      rw [et] at hR
      exact hR _ ((((Kp.refl h 5 6).set _ (by omega) (by omega)).set _ (by omega) (by omega)).set _ (by omega) (by omega)) ⟨H.1, hset_eq _ _ _⟩
  have N5 : ∀ (f e : Nat), L - e = f → e ≤ L → rn blkB B L e = rn blkB B L T.2.2 → Ev G (d + 4) 0 0 M_Re_next 5 [.ref 5, .int (nI e), ev_unk, ev_unk, ev_unk, ev_unk, ev_unk, ev_unk] [] h R := by
    intro f
    induction f with
    | zero =>
      intro e hf heL er
      have no : ¬ nI e < nI L := nI_nlt (by omega) (by omega)
      refine b_Re_next_5 (j6 := 0) H tx (fun c => absurd c no) (fun c => absurd c no) (fun c => absurd c no) (fun c => absurd c no) (fun c => absurd c no) (fun _ => ?_)
      rw [← er, rn_stop (fun q => absurd q (by omega))] at N41
      exact N41
    | succ f ih =>
      intro e hf heL er
      have yes : nI e < nI L := nI_lt (by omega) (by omega)
      obtain ⟨ge, bb⟩ := tb e (by omega)
      have go : blkB (B e) = true → Ev G (d + 4) 0 0 M_Re_next 5 [.ref 5, .int (nI e + 1), ev_unk, ev_unk, ev_unk, ev_unk, ev_unk, ev_unk] [] h R := fun q => by
        rw [nI_1]
        exact ih (e + 1) (by omega) (by omega) (by rw [← rn_step (by omega) q]; exact er)
      refine b_Re_next_5 (j6 := e) H tx (fun _ => ixn (by omega) (by decide)) (fun _ _ => ixn (by omega) (by decide)) (fun _ c => go ?_) (fun _ c c2 => go ?_) (fun _ c c2 => ?_) (fun c => absurd yes c)
      · rw [ge, sb_32 bb] at c; exact decide_eq_true (Or.inl c)
      · rw [ge, sb_10 bb] at c2; exact decide_eq_true (Or.inr c2)
      · rw [ge, sb_32 bb] at c; rw [ge, sb_10 bb] at c2
        rw [← er, rn_stop (fun _ => decide_eq_false (by omega))] at N41
        exact N41
  exact N5 _ T.2.2 rfl he rfl
end S34
