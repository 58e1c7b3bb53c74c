/-! the law's cases: the class's call, the model's call, and the answers are the same -/
theorem XR.recv {h : ev_H} {Q : QS} (H : XR h Q) : ∃ fs, hat h 0 (oC 8 fs) := ⟨_, H.x⟩
theorem MR.recv {h : ev_H} {Q : QS} (M : MR h Q) : ∃ fs, hat h 102 (oC 9 fs) := by
  obtain ⟨-, ⟨bm, z, m⟩, -⟩ := M
  exact ⟨_, m⟩
section S83
variable {G : ev_G} {d k n i : Nat} {h : ev_H} {Q : QS} {R : Option Value → ev_H → Prop}
theorem la_ix {N : Nat} {v : Int32} (hi : i + 6 ≤ N) (hL : N ≤ 3072) (m : Nat) (e : v = nI m) (hm : m ≤ 5) : ev_ix (nI i + v) (i + m) N := ⟨by rw [e]; exact nI_add i m, by omega, by omega⟩
def laN (G : ev_G) (d k n : Nat) (i : Nat) (h : ev_H) (R : Option Value → ev_H → Prop) : Prop := ∀ h' Q', h'.1 ≤ h.1 + 6 → XR h' Q' → MR h' Q' → Ev G (d + 30) k n M_La_law 1811 [.ref (ev_big + 100), .ref 0, .ref 102, .int (nI i)] [] h' R
theorem la_220 (H : XR h Q) (M : MR h Q) (hi : i + 6 ≤ scL G) (hL : scL G ≤ 3072) (hb : h.1 + 6 ≤ ev_big) (hk : laN G d k n i h R) : Ev G (d + 30) (6 + k) (1505 + n) M_La_law 220 [.ref (ev_big + 100), .ref 0, .ref 102, .int (nI i)] [] h R := by
  refine Ev.room (k := k) (n := n) ?_ (Nat.le_refl _) (by omega) (by omega)
  refine b_La_law_220 H.recv ?_
  refine s_X_status2 (d := d + 29) H (fun z1 => ?_)
  refine b_La_law_224 M.recv ?_
  refine s_Mo_status2 (d := d + 29) M (fun z2 => ?_)
  refine b_La_law_228 (fun c1 => (hk h Q (by omega) H M)) (fun c1 => (absurd rfl c1))
theorem la_233 (H : XR h Q) (M : MR h Q) (hi : i + 6 ≤ scL G) (hL : scL G ≤ 3072) (hb : h.1 + 6 ≤ ev_big) (hk : laN G d k n i h R) : Ev G (d + 30) (6 + k) (1505 + n) M_La_law 233 [.ref (ev_big + 100), .ref 0, .ref 102, .int (nI i)] [] h R := by
  refine Ev.room (k := k) (n := n) ?_ (Nat.le_refl _) (by omega) (by omega)
  refine b_La_law_233 (la_ix hi hL 1 rfl (by omega)) (la_ix hi hL 2 rfl (by omega)) (la_ix hi hL 3 rfl (by omega)) (la_ix hi hL 4 rfl (by omega)) (la_ix hi hL 5 rfl (by omega)) H.recv ?_
  refine s_X_feed2 (d := d + 28) H (fun h1 K1 e1 X1 z1 => ?_)
  refine b_La_law_262 (la_ix hi hL 1 rfl (by omega)) (la_ix hi hL 2 rfl (by omega)) (la_ix hi hL 3 rfl (by omega)) (la_ix hi hL 4 rfl (by omega)) (la_ix hi hL 5 rfl (by omega)) ((M.other K1).recv) ?_
  refine s_Mo_feed2 (d := d + 28) (M.other K1) (fun h2 K2 M2 z2 => ?_)
  refine b_La_law_291 (fun c1 => (hk h2 _ (by omega) (X1.other K2.g) M2)) (fun c1 => (absurd rfl c1))
theorem la_296 (H : XR h Q) (M : MR h Q) (hi : i + 6 ≤ scL G) (hL : scL G ≤ 3072) (hb : h.1 + 6 ≤ ev_big) (hk : laN G d k n i h R) : Ev G (d + 30) (6 + k) (1505 + n) M_La_law 296 [.ref (ev_big + 100), .ref 0, .ref 102, .int (nI i)] [] h R := by
  refine b_La_law_296 (la_ix hi hL 1 rfl (by omega)) H.recv ?_
  refine s_X_load (d := d + 0) H hb (fun h1 K1 e1 X1 z1 => ?_)
  refine b_La_law_305 (la_ix hi hL 1 rfl (by omega)) ((M.other K1).recv) ?_
  refine s_Mo_load2 (d := d + 0) (M.other K1) (fun h2 K2 M2 z2 => ?_)
  refine b_La_law_314 (fun c1 => (hk h2 _ (by omega) (X1.other K2.g) M2)) (fun c1 => (absurd rfl c1))
theorem la_319 (H : XR h Q) (M : MR h Q) (hi : i + 6 ≤ scL G) (hL : scL G ≤ 3072) (hb : h.1 + 6 ≤ ev_big) (hk : laN G d k n i h R) : Ev G (d + 30) (6 + k) (1505 + n) M_La_law 319 [.ref (ev_big + 100), .ref 0, .ref 102, .int (nI i)] [] h R := by
  refine Ev.room (k := k) (n := n) ?_ (Nat.le_refl _) (by omega) (by omega)
  refine b_La_law_319 (la_ix hi hL 1 rfl (by omega)) H.recv ?_
  refine s_X_fault (d := d + 29) H (fun z1 => ?_)
  refine b_La_law_328 (la_ix hi hL 1 rfl (by omega)) M.recv ?_
  refine s_Mo_fault2 (d := d + 29) M (fun z2 => ?_)
  refine b_La_law_337 (fun c1 => (hk h Q (by omega) H M)) (fun c1 => (absurd rfl c1))
theorem la_342 (H : XR h Q) (M : MR h Q) (hi : i + 6 ≤ scL G) (hL : scL G ≤ 3072) (hb : h.1 + 6 ≤ ev_big) (hk : laN G d k n i h R) : Ev G (d + 30) (6 + k) (1505 + n) M_La_law 342 [.ref (ev_big + 100), .ref 0, .ref 102, .int (nI i)] [] h R := by
  refine Ev.room (k := k) (n := n) ?_ (Nat.le_refl _) (by omega) (by omega)
  refine b_La_law_342 (la_ix hi hL 1 rfl (by omega)) H.recv ?_
  refine s_X_many (d := d + 23) H (fun h1 K1 X1 z1 => ?_)
  refine b_La_law_351 (la_ix hi hL 1 rfl (by omega)) ((M.other K1).recv) ?_
  refine s_Mo_many2 (d := d + 22) (M.other K1) (fun h2 K2 M2 z2 => ?_)
  refine b_La_law_360 (fun c1 => (hk h2 _ (by omega) (X1.other K2.g) M2)) (fun c1 => (absurd rfl c1))
theorem la_365 (H : XR h Q) (M : MR h Q) (hi : i + 6 ≤ scL G) (hL : scL G ≤ 3072) (hb : h.1 + 6 ≤ ev_big) (hk : laN G d k n i h R) : Ev G (d + 30) (6 + k) (1505 + n) M_La_law 365 [.ref (ev_big + 100), .ref 0, .ref 102, .int (nI i)] [] h R := by
  refine Ev.room (k := k) (n := n) ?_ (Nat.le_refl _) (by omega) (by omega)
  refine b_La_law_365 (la_ix hi hL 1 rfl (by omega)) H.recv ?_
  refine s_X_code2 (d := d + 28) H (fun h1 K1 X1 z1 => ?_)
  refine b_La_law_374 (la_ix hi hL 1 rfl (by omega)) ((M.other K1).recv) ?_
  refine s_Mo_code2 (d := d + 26) (M.other K1) (fun h2 K2 M2 z2 => ?_)
  refine b_La_law_383 (fun c1 => (hk h2 _ (by omega) (X1.other K2.g) M2)) (fun c1 => (absurd rfl c1))
theorem la_389 (H : XR h Q) (M : MR h Q) (hi : i + 6 ≤ scL G) (hL : scL G ≤ 3072) (hb : h.1 + 6 ≤ ev_big) (hk : laN G d k n i h R) : Ev G (d + 30) (6 + k) (1505 + n) M_La_law 389 [.ref (ev_big + 100), .ref 0, .ref 102, .int (nI i)] [] h R := by
  refine Ev.room (k := k) (n := n) ?_ (Nat.le_refl _) (by omega) (by omega)
  refine b_La_law_389 (la_ix hi hL 1 rfl (by omega)) H.recv ?_
  refine s_X_tagOf (d := d + 28) H (fun h1 K1 X1 z1 => ?_)
  refine b_La_law_398 (la_ix hi hL 1 rfl (by omega)) ((M.other K1).recv) ?_
  refine s_Mo_tagOf2 (d := d + 26) (M.other K1) (fun h2 K2 M2 z2 => ?_)
  refine b_La_law_407 (fun c1 => (hk h2 _ (by omega) (X1.other K2.g) M2)) (fun c1 => (absurd rfl c1))
theorem la_412 (H : XR h Q) (M : MR h Q) (hi : i + 6 ≤ scL G) (hL : scL G ≤ 3072) (hb : h.1 + 6 ≤ ev_big) (hk : laN G d k n i h R) : Ev G (d + 30) (6 + k) (1505 + n) M_La_law 412 [.ref (ev_big + 100), .ref 0, .ref 102, .int (nI i)] [] h R := by
  refine Ev.room (k := k) (n := n) ?_ (Nat.le_refl _) (by omega) (by omega)
  refine b_La_law_412 (la_ix hi hL 1 rfl (by omega)) H.recv ?_
  refine s_X_breadth (d := d + 28) H (fun h1 K1 X1 z1 => ?_)
  refine b_La_law_421 (la_ix hi hL 1 rfl (by omega)) ((M.other K1).recv) ?_
  refine s_Mo_breadth2 (d := d + 26) (M.other K1) (fun h2 K2 M2 z2 => ?_)
  refine b_La_law_430 (fun c1 => (hk h2 _ (by omega) (X1.other K2.g) M2)) (fun c1 => (absurd rfl c1))
theorem la_435 (H : XR h Q) (M : MR h Q) (hi : i + 6 ≤ scL G) (hL : scL G ≤ 3072) (hb : h.1 + 6 ≤ ev_big) (hk : laN G d k n i h R) : Ev G (d + 30) (6 + k) (1505 + n) M_La_law 435 [.ref (ev_big + 100), .ref 0, .ref 102, .int (nI i)] [] h R := by
  refine Ev.room (k := k) (n := n) ?_ (Nat.le_refl _) (by omega) (by omega)
  refine b_La_law_435 (la_ix hi hL 1 rfl (by omega)) (la_ix hi hL 2 rfl (by omega)) H.recv ?_
  refine s_X_key (d := d + 28) H (fun h1 K1 X1 z1 => ?_)
  refine b_La_law_449 (la_ix hi hL 1 rfl (by omega)) (la_ix hi hL 2 rfl (by omega)) ((M.other K1).recv) ?_
  refine s_Mo_key2 (d := d + 26) (M.other K1) (fun h2 K2 M2 z2 => ?_)
  refine b_La_law_463 (fun c1 => (hk h2 _ (by omega) (X1.other K2.g) M2)) (fun c1 => (absurd rfl c1))
theorem la_468 (H : XR h Q) (M : MR h Q) (hi : i + 6 ≤ scL G) (hL : scL G ≤ 3072) (hb : h.1 + 6 ≤ ev_big) (hk : laN G d k n i h R) : Ev G (d + 30) (6 + k) (1505 + n) M_La_law 468 [.ref (ev_big + 100), .ref 0, .ref 102, .int (nI i)] [] h R := by
  refine Ev.room (k := k) (n := n) ?_ (Nat.le_refl _) (by omega) (by omega)
  refine b_La_law_468 (la_ix hi hL 1 rfl (by omega)) (la_ix hi hL 2 rfl (by omega)) (la_ix hi hL 3 rfl (by omega)) H.recv ?_
  refine s_X_far (d := d + 27) H (fun h1 K1 X1 z1 => ?_)
  refine b_La_law_497 (la_ix hi hL 1 rfl (by omega)) (la_ix hi hL 2 rfl (by omega)) (la_ix hi hL 3 rfl (by omega)) ((M.other K1).recv) ?_
  refine s_Mo_far2 (d := d + 26) (M.other K1) (fun h2 K2 M2 z2 => ?_)
  refine b_La_law_526 (fun c1 => (hk h2 _ (by omega) (X1.other K2.g) M2)) (fun c1 => (absurd rfl c1))
theorem la_531 (H : XR h Q) (M : MR h Q) (hi : i + 6 ≤ scL G) (hL : scL G ≤ 3072) (hb : h.1 + 6 ≤ ev_big) (hk : laN G d k n i h R) : Ev G (d + 30) (6 + k) (1505 + n) M_La_law 531 [.ref (ev_big + 100), .ref 0, .ref 102, .int (nI i)] [] h R := by
  refine Ev.room (k := k) (n := n) ?_ (Nat.le_refl _) (by omega) (by omega)
  refine b_La_law_531 (la_ix hi hL 1 rfl (by omega)) (la_ix hi hL 2 rfl (by omega)) (la_ix hi hL 3 rfl (by omega)) H.recv ?_
  refine s_X_measure (d := d + 26) H (fun h1 K1 X1 z1 => ?_)
  refine b_La_law_550 (la_ix hi hL 1 rfl (by omega)) (la_ix hi hL 2 rfl (by omega)) (la_ix hi hL 3 rfl (by omega)) ((M.other K1).recv) ?_
  refine s_Mo_measure2 (d := d + 26) (M.other K1) (fun h2 K2 M2 z2 => ?_)
  refine b_La_law_569 (fun c1 => (hk h2 _ (by omega) (X1.other K2.g) M2)) (fun c1 => (absurd rfl c1))
theorem la_574 (H : XR h Q) (M : MR h Q) (hi : i + 6 ≤ scL G) (hL : scL G ≤ 3072) (hb : h.1 + 6 ≤ ev_big) (hk : laN G d k n i h R) : Ev G (d + 30) (6 + k) (1505 + n) M_La_law 574 [.ref (ev_big + 100), .ref 0, .ref 102, .int (nI i)] [] h R := by
  refine Ev.room (k := k) (n := n) ?_ (Nat.le_refl _) (by omega) (by omega)
  refine b_La_law_574 (la_ix hi hL 1 rfl (by omega)) (la_ix hi hL 2 rfl (by omega)) H.recv ?_
  refine s_X_find (d := d + 28) H (fun h1 K1 X1 z1 => ?_)
  refine b_La_law_598 (la_ix hi hL 1 rfl (by omega)) (la_ix hi hL 2 rfl (by omega)) ((M.other K1).recv) ?_
  refine s_Mo_find2 (d := d + 26) (M.other K1) (fun h2 K2 M2 z2 => ?_)
  refine b_La_law_622 (fun c1 => (hk h2 _ (by omega) (X1.other K2.g) M2)) (fun c1 => (absurd rfl c1))
theorem la_627 (H : XR h Q) (M : MR h Q) (hi : i + 6 ≤ scL G) (hL : scL G ≤ 3072) (hb : h.1 + 6 ≤ ev_big) (hk : laN G d k n i h R) : Ev G (d + 30) (6 + k) (1505 + n) M_La_law 627 [.ref (ev_big + 100), .ref 0, .ref 102, .int (nI i)] [] h R := by
  refine Ev.room (k := k) (n := n) ?_ (Nat.le_refl _) (by omega) (by omega)
  refine b_La_law_627 (la_ix hi hL 1 rfl (by omega)) (la_ix hi hL 2 rfl (by omega)) H.recv ?_
  refine s_X_add (d := d + 26) H (fun h1 K1 X1 z1 => ?_)
  refine b_La_law_651 (la_ix hi hL 1 rfl (by omega)) (la_ix hi hL 2 rfl (by omega)) ((M.other K1).recv) ?_
  refine s_Mo_add2 (d := d + 26) (M.other K1) (fun h2 K2 M2 z2 => ?_)
  refine b_La_law_675 (fun c1 => (hk h2 _ (by omega) (X1.other K2.g) M2)) (fun c1 => (absurd rfl c1))
theorem la_680 (H : XR h Q) (M : MR h Q) (hi : i + 6 ≤ scL G) (hL : scL G ≤ 3072) (hb : h.1 + 6 ≤ ev_big) (hk : laN G d k n i h R) : Ev G (d + 30) (6 + k) (1505 + n) M_La_law 680 [.ref (ev_big + 100), .ref 0, .ref 102, .int (nI i)] [] h R := by
  refine Ev.room (k := k) (n := n) ?_ (Nat.le_refl _) (by omega) (by omega)
  refine b_La_law_680 (la_ix hi hL 1 rfl (by omega)) H.recv ?_
  refine s_X_strike (d := d + 26) H (fun h1 K1 X1 z1 => ?_)
  refine b_La_law_689 (la_ix hi hL 1 rfl (by omega)) ((M.other K1).recv) ?_
  refine s_Mo_strike2 (d := d + 26) (M.other K1) (fun h2 K2 M2 z2 => ?_)
  refine b_La_law_698 (fun c1 => (hk h2 _ (by omega) (X1.other K2.g) M2)) (fun c1 => (absurd rfl c1))
theorem la_703 (H : XR h Q) (M : MR h Q) (hi : i + 6 ≤ scL G) (hL : scL G ≤ 3072) (hb : h.1 + 6 ≤ ev_big) (hk : laN G d k n i h R) : Ev G (d + 30) (6 + k) (1505 + n) M_La_law 703 [.ref (ev_big + 100), .ref 0, .ref 102, .int (nI i)] [] h R := by
  refine Ev.room (k := k) (n := n) ?_ (Nat.le_refl _) (by omega) (by omega)
  refine b_La_law_703 (la_ix hi hL 1 rfl (by omega)) (la_ix hi hL 2 rfl (by omega)) H.recv ?_
  refine s_X_flip (d := d + 26) H (fun h1 K1 X1 z1 => ?_)
  refine b_La_law_717 (la_ix hi hL 1 rfl (by omega)) (la_ix hi hL 2 rfl (by omega)) ((M.other K1).recv) ?_
  refine s_Mo_flip2 (d := d + 26) (M.other K1) (fun h2 K2 M2 z2 => ?_)
  refine b_La_law_731 (fun c1 => (hk h2 _ (by omega) (X1.other K2.g) M2)) (fun c1 => (absurd rfl c1))
theorem la_736 (H : XR h Q) (M : MR h Q) (hi : i + 6 ≤ scL G) (hL : scL G ≤ 3072) (hb : h.1 + 6 ≤ ev_big) (hk : laN G d k n i h R) : Ev G (d + 30) (6 + k) (1505 + n) M_La_law 736 [.ref (ev_big + 100), .ref 0, .ref 102, .int (nI i)] [] h R := by
  refine Ev.room (k := k) (n := n) ?_ (Nat.le_refl _) (by omega) (by omega)
  refine b_La_law_736 (la_ix hi hL 1 rfl (by omega)) (la_ix hi hL 2 rfl (by omega)) H.recv ?_
  refine s_X_swap (d := d + 26) H (fun h1 K1 X1 z1 => ?_)
  refine b_La_law_750 (la_ix hi hL 1 rfl (by omega)) (la_ix hi hL 2 rfl (by omega)) ((M.other K1).recv) ?_
  refine s_Mo_swap2 (d := d + 26) (M.other K1) (fun h2 K2 M2 z2 => ?_)
  refine b_La_law_764 (fun c1 => (hk h2 _ (by omega) (X1.other K2.g) M2)) (fun c1 => (absurd rfl c1))
theorem la_769 (H : XR h Q) (M : MR h Q) (hi : i + 6 ≤ scL G) (hL : scL G ≤ 3072) (hb : h.1 + 6 ≤ ev_big) (hk : laN G d k n i h R) : Ev G (d + 30) (6 + k) (1505 + n) M_La_law 769 [.ref (ev_big + 100), .ref 0, .ref 102, .int (nI i)] [] h R := by
  refine Ev.room (k := k) (n := n) ?_ (Nat.le_refl _) (by omega) (by omega)
  refine b_La_law_769 (la_ix hi hL 1 rfl (by omega)) (la_ix hi hL 2 rfl (by omega)) H.recv ?_
  refine s_X_tag (d := d + 26) H (fun h1 K1 X1 z1 => ?_)
  refine b_La_law_783 (la_ix hi hL 1 rfl (by omega)) (la_ix hi hL 2 rfl (by omega)) ((M.other K1).recv) ?_
  refine s_Mo_tag2 (d := d + 26) (M.other K1) (fun h2 K2 M2 z2 => ?_)
  refine b_La_law_797 (fun c1 => (hk h2 _ (by omega) (X1.other K2.g) M2)) (fun c1 => (absurd rfl c1))
theorem la_802 (H : XR h Q) (M : MR h Q) (hi : i + 6 ≤ scL G) (hL : scL G ≤ 3072) (hb : h.1 + 6 ≤ ev_big) (hk : laN G d k n i h R) : Ev G (d + 30) (6 + k) (1505 + n) M_La_law 802 [.ref (ev_big + 100), .ref 0, .ref 102, .int (nI i)] [] h R := by
  refine Ev.room (k := k) (n := n) ?_ (Nat.le_refl _) (by omega) (by omega)
  refine b_La_law_802 (la_ix hi hL 1 rfl (by omega)) (la_ix hi hL 2 rfl (by omega)) H.recv ?_
  refine s_X_split (d := d + 26) H (fun h1 K1 X1 z1 => ?_)
  refine b_La_law_816 (la_ix hi hL 1 rfl (by omega)) (la_ix hi hL 2 rfl (by omega)) ((M.other K1).recv) ?_
  refine s_Mo_split2 (d := d + 26) (M.other K1) (fun h2 K2 M2 z2 => ?_)
  refine b_La_law_830 (fun c1 => (hk h2 _ (by omega) (X1.other K2.g) M2)) (fun c1 => (absurd rfl c1))
theorem la_835 (H : XR h Q) (M : MR h Q) (hi : i + 6 ≤ scL G) (hL : scL G ≤ 3072) (hb : h.1 + 6 ≤ ev_big) (hk : laN G d k n i h R) : Ev G (d + 30) (6 + k) (1505 + n) M_La_law 835 [.ref (ev_big + 100), .ref 0, .ref 102, .int (nI i)] [] h R := by
  refine Ev.room (k := k) (n := n) ?_ (Nat.le_refl _) (by omega) (by omega)
  refine b_La_law_835 (la_ix hi hL 1 rfl (by omega)) H.recv ?_
  refine s_X_merge (d := d + 26) H (fun h1 K1 X1 z1 => ?_)
  refine b_La_law_844 (la_ix hi hL 1 rfl (by omega)) ((M.other K1).recv) ?_
  refine s_Mo_merge2 (d := d + 26) (M.other K1) (fun h2 K2 M2 z2 => ?_)
  refine b_La_law_853 (fun c1 => (hk h2 _ (by omega) (X1.other K2.g) M2)) (fun c1 => (absurd rfl c1))
theorem la_858 (H : XR h Q) (M : MR h Q) (hi : i + 6 ≤ scL G) (hL : scL G ≤ 3072) (hb : h.1 + 6 ≤ ev_big) (hk : laN G d k n i h R) : Ev G (d + 30) (6 + k) (1505 + n) M_La_law 858 [.ref (ev_big + 100), .ref 0, .ref 102, .int (nI i)] [] h R := by
  refine Ev.room (k := k) (n := n) ?_ (Nat.le_refl _) (by omega) (by omega)
  refine b_La_law_858 H.recv ?_
  refine s_X_open (d := d + 26) H (fun h1 K1 X1 z1 => ?_)
  refine b_La_law_862 ((M.other K1).recv) ?_
  refine s_Mo_open2 (d := d + 27) (M.other K1) (fun h2 K2 M2 z2 => ?_)
  refine b_La_law_866 (fun c1 => (hk h2 _ (by omega) (X1.other K2.g) M2)) (fun c1 => (absurd rfl c1))
theorem la_871 (H : XR h Q) (M : MR h Q) (hi : i + 6 ≤ scL G) (hL : scL G ≤ 3072) (hb : h.1 + 6 ≤ ev_big) (hk : laN G d k n i h R) : Ev G (d + 30) (6 + k) (1505 + n) M_La_law 871 [.ref (ev_big + 100), .ref 0, .ref 102, .int (nI i)] [] h R := by
  refine Ev.room (k := k) (n := n) ?_ (Nat.le_refl _) (by omega) (by omega)
  refine b_La_law_871 H.recv ?_
  refine s_X_undo (d := d + 26) H (fun h1 K1 X1 z1 => ?_)
  refine b_La_law_875 ((M.other K1).recv) ?_
  refine s_Mo_undo2 (d := d + 28) (M.other K1) (fun h2 K2 M2 z2 => ?_)
  refine b_La_law_879 (fun c1 => (hk h2 _ (by omega) (X1.other K2.g) M2)) (fun c1 => (absurd rfl c1))
theorem la_884 (H : XR h Q) (M : MR h Q) (hi : i + 6 ≤ scL G) (hL : scL G ≤ 3072) (hb : h.1 + 6 ≤ ev_big) (hk : laN G d k n i h R) : Ev G (d + 30) (6 + k) (1505 + n) M_La_law 884 [.ref (ev_big + 100), .ref 0, .ref 102, .int (nI i)] [] h R := by
  refine Ev.room (k := k) (n := n) ?_ (Nat.le_refl _) (by omega) (by omega)
  refine b_La_law_884 H.recv ?_
  refine s_X_mark (d := d + 26) H (fun h1 K1 X1 z1 => ?_)
  refine b_La_law_888 ((M.other K1).recv) ?_
  refine s_Mo_mark2 (d := d + 28) (M.other K1) (fun h2 K2 M2 z2 => ?_)
  refine b_La_law_892 (fun c1 => (hk h2 _ (by omega) (X1.other K2.g) M2)) (fun c1 => (absurd rfl c1))
theorem la_897 (H : XR h Q) (M : MR h Q) (hi : i + 6 ≤ scL G) (hL : scL G ≤ 3072) (hb : h.1 + 6 ≤ ev_big) (hk : laN G d k n i h R) : Ev G (d + 30) (6 + k) (1505 + n) M_La_law 897 [.ref (ev_big + 100), .ref 0, .ref 102, .int (nI i)] [] h R := by
  refine Ev.room (k := k) (n := n) ?_ (Nat.le_refl _) (by omega) (by omega)
  refine b_La_law_897 H.recv ?_
  refine s_X_back (d := d + 26) H (fun h1 K1 X1 z1 => ?_)
  refine b_La_law_901 ((M.other K1).recv) ?_
  refine s_Mo_back2 (d := d + 28) (M.other K1) (fun h2 K2 M2 z2 => ?_)
  refine b_La_law_905 (fun c1 => (hk h2 _ (by omega) (X1.other K2.g) M2)) (fun c1 => (absurd rfl c1))
theorem la_910 (H : XR h Q) (M : MR h Q) (hi : i + 6 ≤ scL G) (hL : scL G ≤ 3072) (hb : h.1 + 6 ≤ ev_big) (hk : laN G d k n i h R) : Ev G (d + 30) (6 + k) (1505 + n) M_La_law 910 [.ref (ev_big + 100), .ref 0, .ref 102, .int (nI i)] [] h R := by
  refine Ev.room (k := k) (n := n) ?_ (Nat.le_refl _) (by omega) (by omega)
  refine b_La_law_910 (la_ix hi hL 1 rfl (by omega)) (la_ix hi hL 2 rfl (by omega)) (la_ix hi hL 3 rfl (by omega)) (la_ix hi hL 4 rfl (by omega)) H.recv ?_
  refine s_X_budget (d := d + 23) H (fun h1 K1 X1 z1 => ?_)
  refine b_La_law_944 (la_ix hi hL 1 rfl (by omega)) (la_ix hi hL 2 rfl (by omega)) (la_ix hi hL 3 rfl (by omega)) (la_ix hi hL 4 rfl (by omega)) ((M.other K1).recv) ?_
  refine s_Mo_budget2 (d := d + 22) (M.other K1) (fun h2 K2 M2 z2 => ?_)
  refine b_La_law_978 (fun c1 => (hk h2 _ (by omega) (X1.other K2.g) M2)) (fun c1 => (absurd rfl c1))
theorem la_983 (H : XR h Q) (M : MR h Q) (hi : i + 6 ≤ scL G) (hL : scL G ≤ 3072) (hb : h.1 + 6 ≤ ev_big) (hk : laN G d k n i h R) : Ev G (d + 30) (6 + k) (1505 + n) M_La_law 983 [.ref (ev_big + 100), .ref 0, .ref 102, .int (nI i)] [] h R := by
  refine Ev.room (k := k) (n := n) ?_ (Nat.le_refl _) (by omega) (by omega)
  refine b_La_law_983 (la_ix hi hL 1 rfl (by omega)) (la_ix hi hL 2 rfl (by omega)) (la_ix hi hL 3 rfl (by omega)) (la_ix hi hL 4 rfl (by omega)) H.recv ?_
  refine s_X_cost (d := d + 23) H (fun h1 K1 X1 z1 => ?_)
  refine b_La_law_1017 (la_ix hi hL 1 rfl (by omega)) (la_ix hi hL 2 rfl (by omega)) (la_ix hi hL 3 rfl (by omega)) (la_ix hi hL 4 rfl (by omega)) ((M.other K1).recv) ?_
  refine s_Mo_cost2 (d := d + 22) (M.other K1) (fun h2 K2 M2 z2 => ?_)
  refine b_La_law_1051 (fun c1 => (hk h2 _ (by omega) (X1.other K2.g) M2)) (fun c1 => (absurd rfl c1))
theorem la_1056 (H : XR h Q) (M : MR h Q) (hi : i + 6 ≤ scL G) (hL : scL G ≤ 3072) (hb : h.1 + 6 ≤ ev_big) (hk : laN G d k n i h R) : Ev G (d + 30) (6 + k) (1505 + n) M_La_law 1056 [.ref (ev_big + 100), .ref 0, .ref 102, .int (nI i)] [] h R := by
  refine Ev.room (k := k) (n := n) ?_ (Nat.le_refl _) (by omega) (by omega)
  refine b_La_law_1056 (la_ix hi hL 1 rfl (by omega)) (la_ix hi hL 2 rfl (by omega)) (la_ix hi hL 3 rfl (by omega)) (la_ix hi hL 4 rfl (by omega)) H.recv ?_
  refine s_X_near (d := d + 23) H (fun h1 K1 X1 z1 => ?_)
  refine b_La_law_1090 (la_ix hi hL 1 rfl (by omega)) (la_ix hi hL 2 rfl (by omega)) (la_ix hi hL 3 rfl (by omega)) (la_ix hi hL 4 rfl (by omega)) ((M.other K1).recv) ?_
  refine s_Mo_near2 (d := d + 22) (M.other K1) (fun h2 K2 M2 z2 => ?_)
  refine b_La_law_1124 (fun c1 => (hk h2 _ (by omega) (X1.other K2.g) M2)) (fun c1 => (absurd rfl c1))
theorem la_1129 (H : XR h Q) (M : MR h Q) (hi : i + 6 ≤ scL G) (hL : scL G ≤ 3072) (hb : h.1 + 6 ≤ ev_big) (hk : laN G d k n i h R) : Ev G (d + 30) (6 + k) (1505 + n) M_La_law 1129 [.ref (ev_big + 100), .ref 0, .ref 102, .int (nI i)] [] h R := by
  refine Ev.room (k := k) (n := n) ?_ (Nat.le_refl _) (by omega) (by omega)
  refine b_La_law_1129 (la_ix hi hL 1 rfl (by omega)) (la_ix hi hL 2 rfl (by omega)) (la_ix hi hL 3 rfl (by omega)) H.recv ?_
  refine s_X_ranked (d := d + 23) H (fun h1 K1 X1 z1 => ?_)
  refine b_La_law_1158 (la_ix hi hL 1 rfl (by omega)) (la_ix hi hL 2 rfl (by omega)) (la_ix hi hL 3 rfl (by omega)) ((M.other K1).recv) ?_
  refine s_Mo_ranked2 (d := d + 22) (M.other K1) (fun h2 K2 M2 z2 => ?_)
  refine b_La_law_1187 (fun c1 => (hk h2 _ (by omega) (X1.other K2.g) M2)) (fun c1 => (absurd rfl c1))
theorem la_1192 (H : XR h Q) (M : MR h Q) (hi : i + 6 ≤ scL G) (hL : scL G ≤ 3072) (hb : h.1 + 6 ≤ ev_big) (hk : laN G d k n i h R) : Ev G (d + 30) (6 + k) (1505 + n) M_La_law 1192 [.ref (ev_big + 100), .ref 0, .ref 102, .int (nI i)] [] h R := by
  refine Ev.room (k := k) (n := n) ?_ (Nat.le_refl _) (by omega) (by omega)
  refine b_La_law_1192 (la_ix hi hL 1 rfl (by omega)) (la_ix hi hL 2 rfl (by omega)) (la_ix hi hL 3 rfl (by omega)) (la_ix hi hL 4 rfl (by omega)) H.recv ?_
  refine s_X_grown (d := d + 23) H (fun h1 K1 X1 z1 => ?_)
  refine b_La_law_1226 (la_ix hi hL 1 rfl (by omega)) (la_ix hi hL 2 rfl (by omega)) (la_ix hi hL 3 rfl (by omega)) (la_ix hi hL 4 rfl (by omega)) ((M.other K1).recv) ?_
  refine s_Mo_grown2 (d := d + 22) (M.other K1) (fun h2 K2 M2 z2 => ?_)
  refine b_La_law_1260 (fun c1 => (hk h2 _ (by omega) (X1.other K2.g) M2)) (fun c1 => (absurd rfl c1))
theorem la_1265 (H : XR h Q) (M : MR h Q) (hi : i + 6 ≤ scL G) (hL : scL G ≤ 3072) (hb : h.1 + 6 ≤ ev_big) (hk : laN G d k n i h R) : Ev G (d + 30) (6 + k) (1505 + n) M_La_law 1265 [.ref (ev_big + 100), .ref 0, .ref 102, .int (nI i)] [] h R := by
  refine Ev.room (k := k) (n := n) ?_ (Nat.le_refl _) (by omega) (by omega)
  refine b_La_law_1265 (la_ix hi hL 1 rfl (by omega)) (la_ix hi hL 2 rfl (by omega)) (la_ix hi hL 3 rfl (by omega)) (la_ix hi hL 4 rfl (by omega)) (la_ix hi hL 5 rfl (by omega)) H.recv ?_
  refine s_X_apart (d := d + 23) H (fun h1 K1 X1 z1 => ?_)
  refine b_La_law_1304 (la_ix hi hL 1 rfl (by omega)) (la_ix hi hL 2 rfl (by omega)) (la_ix hi hL 3 rfl (by omega)) (la_ix hi hL 4 rfl (by omega)) (la_ix hi hL 5 rfl (by omega)) ((M.other K1).recv) ?_
  refine s_Mo_apart2 (d := d + 22) (M.other K1) (fun h2 K2 M2 z2 => ?_)
  refine b_La_law_1343 (fun c1 => (hk h2 _ (by omega) (X1.other K2.g) M2)) (fun c1 => (absurd rfl c1))
theorem la_1348 (H : XR h Q) (M : MR h Q) (hi : i + 6 ≤ scL G) (hL : scL G ≤ 3072) (hb : h.1 + 6 ≤ ev_big) (hk : laN G d k n i h R) : Ev G (d + 30) (6 + k) (1505 + n) M_La_law 1348 [.ref (ev_big + 100), .ref 0, .ref 102, .int (nI i)] [] h R := by
  refine Ev.room (k := k) (n := n) ?_ (Nat.le_refl _) (by omega) (by omega)
  refine b_La_law_1348 (la_ix hi hL 1 rfl (by omega)) H.recv ?_
  refine s_X_pairs (d := d + 23) H (fun h1 K1 X1 z1 => ?_)
  refine b_La_law_1357 (la_ix hi hL 1 rfl (by omega)) ((M.other K1).recv) ?_
  refine s_Mo_pairs2 (d := d + 22) (M.other K1) (fun h2 K2 M2 z2 => ?_)
  refine b_La_law_1366 (fun c1 => (hk h2 _ (by omega) (X1.other K2.g) M2)) (fun c1 => (absurd rfl c1))
theorem la_1371 (H : XR h Q) (M : MR h Q) (hi : i + 6 ≤ scL G) (hL : scL G ≤ 3072) (hb : h.1 + 6 ≤ ev_big) (hk : laN G d k n i h R) : Ev G (d + 30) (6 + k) (1505 + n) M_La_law 1371 [.ref (ev_big + 100), .ref 0, .ref 102, .int (nI i)] [] h R := by
  refine Ev.room (k := k) (n := n) ?_ (Nat.le_refl _) (by omega) (by omega)
  refine b_La_law_1371 (la_ix hi hL 1 rfl (by omega)) (la_ix hi hL 2 rfl (by omega)) (la_ix hi hL 3 rfl (by omega)) H.recv ?_
  refine s_X_pair (d := d + 23) H (fun h1 K1 X1 z1 => ?_)
  refine b_La_law_1390 (la_ix hi hL 1 rfl (by omega)) (la_ix hi hL 2 rfl (by omega)) (la_ix hi hL 3 rfl (by omega)) ((M.other K1).recv) ?_
  refine s_Mo_pair2 (d := d + 22) (M.other K1) (fun h2 K2 M2 z2 => ?_)
  refine b_La_law_1409 (fun c1 => (hk h2 _ (by omega) (X1.other K2.g) M2)) (fun c1 => (absurd rfl c1))
theorem la_1414 (H : XR h Q) (M : MR h Q) (hi : i + 6 ≤ scL G) (hL : scL G ≤ 3072) (hb : h.1 + 6 ≤ ev_big) (hk : laN G d k n i h R) : Ev G (d + 30) (6 + k) (1505 + n) M_La_law 1414 [.ref (ev_big + 100), .ref 0, .ref 102, .int (nI i)] [] h R := by
  refine Ev.room (k := k) (n := n) ?_ (Nat.le_refl _) (by omega) (by omega)
  refine b_La_law_1414 (la_ix hi hL 1 rfl (by omega)) H.recv ?_
  refine s_X_joined (d := d + 23) H (fun h1 K1 X1 z1 => ?_)
  refine b_La_law_1423 (la_ix hi hL 1 rfl (by omega)) ((M.other K1).recv) ?_
  refine s_Mo_joined2 (d := d + 22) (M.other K1) (fun h2 K2 M2 z2 => ?_)
  refine b_La_law_1432 (fun c1 => (hk h2 _ (by omega) (X1.other K2.g) M2)) (fun c1 => (absurd rfl c1))
theorem la_1437 (H : XR h Q) (M : MR h Q) (hi : i + 6 ≤ scL G) (hL : scL G ≤ 3072) (hb : h.1 + 6 ≤ ev_big) (hk : laN G d k n i h R) : Ev G (d + 30) (6 + k) (1505 + n) M_La_law 1437 [.ref (ev_big + 100), .ref 0, .ref 102, .int (nI i)] [] h R := by
  refine Ev.room (k := k) (n := n) ?_ (Nat.le_refl _) (by omega) (by omega)
  refine b_La_law_1437 (la_ix hi hL 1 rfl (by omega)) H.recv ?_
  refine s_X_closest (d := d + 23) H (fun h1 K1 X1 z1 => ?_)
  refine b_La_law_1446 (la_ix hi hL 1 rfl (by omega)) ((M.other K1).recv) ?_
  refine s_Mo_closest2 (d := d + 22) (M.other K1) (fun h2 K2 M2 z2 => ?_)
  refine b_La_law_1455 (fun c1 => (hk h2 _ (by omega) (X1.other K2.g) M2)) (fun c1 => (absurd rfl c1))
theorem la_1460 (H : XR h Q) (M : MR h Q) (hi : i + 6 ≤ scL G) (hL : scL G ≤ 3072) (hb : h.1 + 6 ≤ ev_big) (hk : laN G d k n i h R) : Ev G (d + 30) (6 + k) (1505 + n) M_La_law 1460 [.ref (ev_big + 100), .ref 0, .ref 102, .int (nI i)] [] h R := by
  refine Ev.room (k := k) (n := n) ?_ (Nat.le_refl _) (by omega) (by omega)
  refine b_La_law_1460 (la_ix hi hL 1 rfl (by omega)) (la_ix hi hL 2 rfl (by omega)) H.recv ?_
  refine s_X_clusters (d := d + 23) H (fun h1 K1 X1 z1 => ?_)
  refine b_La_law_1474 (la_ix hi hL 1 rfl (by omega)) (la_ix hi hL 2 rfl (by omega)) ((M.other K1).recv) ?_
  refine s_Mo_clusters2 (d := d + 22) (M.other K1) (fun h2 K2 M2 z2 => ?_)
  refine b_La_law_1488 (fun c1 => (hk h2 _ (by omega) (X1.other K2.g) M2)) (fun c1 => (absurd rfl c1))
theorem la_1493 (H : XR h Q) (M : MR h Q) (hi : i + 6 ≤ scL G) (hL : scL G ≤ 3072) (hb : h.1 + 6 ≤ ev_big) (hk : laN G d k n i h R) : Ev G (d + 30) (6 + k) (1505 + n) M_La_law 1493 [.ref (ev_big + 100), .ref 0, .ref 102, .int (nI i)] [] h R := by
  refine Ev.room (k := k) (n := n) ?_ (Nat.le_refl _) (by omega) (by omega)
  refine b_La_law_1493 (la_ix hi hL 1 rfl (by omega)) (la_ix hi hL 2 rfl (by omega)) (la_ix hi hL 3 rfl (by omega)) H.recv ?_
  refine s_X_cluster (d := d + 23) H (fun h1 K1 X1 z1 => ?_)
  refine b_La_law_1512 (la_ix hi hL 1 rfl (by omega)) (la_ix hi hL 2 rfl (by omega)) (la_ix hi hL 3 rfl (by omega)) ((M.other K1).recv) ?_
  refine s_Mo_cluster2 (d := d + 22) (M.other K1) (fun h2 K2 M2 z2 => ?_)
  refine b_La_law_1531 (fun c1 => (hk h2 _ (by omega) (X1.other K2.g) M2)) (fun c1 => (absurd rfl c1))
theorem la_1536 (H : XR h Q) (M : MR h Q) (hi : i + 6 ≤ scL G) (hL : scL G ≤ 3072) (hb : h.1 + 6 ≤ ev_big) (hk : laN G d k n i h R) : Ev G (d + 30) (6 + k) (1505 + n) M_La_law 1536 [.ref (ev_big + 100), .ref 0, .ref 102, .int (nI i)] [] h R := by
  refine Ev.room (k := k) (n := n) ?_ (Nat.le_refl _) (by omega) (by omega)
  refine b_La_law_1536 (la_ix hi hL 1 rfl (by omega)) H.recv ?_
  refine s_X_vote (d := d + 27) H (fun h1 K1 X1 z1 => ?_)
  refine b_La_law_1545 (la_ix hi hL 1 rfl (by omega)) ((M.other K1).recv) ?_
  refine s_Mo_vote2 (d := d + 27) (M.other K1) (fun h2 K2 M2 z2 => ?_)
  refine b_La_law_1554 (fun c1 => (hk h2 _ (by omega) (X1.other K2.g) M2)) (fun c1 => (absurd rfl c1))
theorem la_1560 (H : XR h Q) (M : MR h Q) (hi : i + 6 ≤ scL G) (hL : scL G ≤ 3072) (hb : h.1 + 6 ≤ ev_big) (hk : laN G d k n i h R) : Ev G (d + 30) (6 + k) (1505 + n) M_La_law 1560 [.ref (ev_big + 100), .ref 0, .ref 102, .int (nI i)] [] h R := by
  refine Ev.room (k := k) (n := n) ?_ (Nat.le_refl _) (by omega) (by omega)
  refine b_La_law_1560 (la_ix hi hL 1 rfl (by omega)) (la_ix hi hL 2 rfl (by omega)) (la_ix hi hL 3 rfl (by omega)) (la_ix hi hL 4 rfl (by omega)) H.recv ?_
  refine s_X_like (d := d + 23) H (fun h1 K1 X1 z1 => ?_)
  refine b_La_law_1604 (la_ix hi hL 1 rfl (by omega)) (la_ix hi hL 2 rfl (by omega)) (la_ix hi hL 3 rfl (by omega)) (la_ix hi hL 4 rfl (by omega)) ((M.other K1).recv) ?_
  refine s_Mo_like2 (d := d + 22) (M.other K1) (fun h2 K2 M2 z2 => ?_)
  refine b_La_law_1648 (fun c1 => (hk h2 _ (by omega) (X1.other K2.g) M2)) (fun c1 => (absurd rfl c1))
theorem la_1653 (H : XR h Q) (M : MR h Q) (hi : i + 6 ≤ scL G) (hL : scL G ≤ 3072) (hb : h.1 + 6 ≤ ev_big) (hk : laN G d k n i h R) : Ev G (d + 30) (6 + k) (1505 + n) M_La_law 1653 [.ref (ev_big + 100), .ref 0, .ref 102, .int (nI i)] [] h R := by
  refine Ev.room (k := k) (n := n) ?_ (Nat.le_refl _) (by omega) (by omega)
  refine b_La_law_1653 (la_ix hi hL 1 rfl (by omega)) H.recv ?_
  refine s_X_ones (d := d + 23) H (fun h1 K1 X1 z1 => ?_)
  refine b_La_law_1662 (la_ix hi hL 1 rfl (by omega)) ((M.other K1).recv) ?_
  refine s_Mo_ones2 (d := d + 22) (M.other K1) (fun h2 K2 M2 z2 => ?_)
  refine b_La_law_1671 (fun c1 => (hk h2 _ (by omega) (X1.other K2.g) M2)) (fun c1 => (absurd rfl c1))
theorem la_1676 (H : XR h Q) (M : MR h Q) (hi : i + 6 ≤ scL G) (hL : scL G ≤ 3072) (hb : h.1 + 6 ≤ ev_big) (hk : laN G d k n i h R) : Ev G (d + 30) (6 + k) (1505 + n) M_La_law 1676 [.ref (ev_big + 100), .ref 0, .ref 102, .int (nI i)] [] h R := by
  refine Ev.room (k := k) (n := n) ?_ (Nat.le_refl _) (by omega) (by omega)
  refine b_La_law_1676 H.recv ?_
  refine s_X_telling (d := d + 23) H (fun h1 K1 X1 z1 => ?_)
  refine b_La_law_1680 ((M.other K1).recv) ?_
  refine s_Mo_telling2 (d := d + 22) (M.other K1) (fun h2 K2 M2 z2 => ?_)
  refine b_La_law_1684 (fun c1 => (hk h2 _ (by omega) (X1.other K2.g) M2)) (fun c1 => (absurd rfl c1))
theorem la_1689 (H : XR h Q) (M : MR h Q) (hi : i + 6 ≤ scL G) (hL : scL G ≤ 3072) (hb : h.1 + 6 ≤ ev_big) (hk : laN G d k n i h R) : Ev G (d + 30) (6 + k) (1505 + n) M_La_law 1689 [.ref (ev_big + 100), .ref 0, .ref 102, .int (nI i)] [] h R := by
  refine Ev.room (k := k) (n := n) ?_ (Nat.le_refl _) (by omega) (by omega)
  refine b_La_law_1689 (la_ix hi hL 1 rfl (by omega)) (la_ix hi hL 2 rfl (by omega)) H.recv ?_
  refine s_X_alike (d := d + 23) H (fun h1 K1 X1 z1 => ?_)
  refine b_La_law_1703 (la_ix hi hL 1 rfl (by omega)) (la_ix hi hL 2 rfl (by omega)) ((M.other K1).recv) ?_
  refine s_Mo_alike2 (d := d + 22) (M.other K1) (fun h2 K2 M2 z2 => ?_)
  refine b_La_law_1717 (fun c1 => (hk h2 _ (by omega) (X1.other K2.g) M2)) (fun c1 => (absurd rfl c1))
theorem la_1722 (H : XR h Q) (M : MR h Q) (hi : i + 6 ≤ scL G) (hL : scL G ≤ 3072) (hb : h.1 + 6 ≤ ev_big) (hk : laN G d k n i h R) : Ev G (d + 30) (6 + k) (1505 + n) M_La_law 1722 [.ref (ev_big + 100), .ref 0, .ref 102, .int (nI i)] [] h R := by
  refine Ev.room (k := k) (n := n) ?_ (Nat.le_refl _) (by omega) (by omega)
  refine b_La_law_1722 (la_ix hi hL 1 rfl (by omega)) (la_ix hi hL 2 rfl (by omega)) H.recv ?_
  refine s_X_spread (d := d + 23) H (fun h1 K1 X1 z1 => ?_)
  refine b_La_law_1736 (la_ix hi hL 1 rfl (by omega)) (la_ix hi hL 2 rfl (by omega)) ((M.other K1).recv) ?_
  refine s_Mo_spread2 (d := d + 22) (M.other K1) (fun h2 K2 M2 z2 => ?_)
  refine b_La_law_1750 (fun c1 => (hk h2 _ (by omega) (X1.other K2.g) M2)) (fun c1 => (absurd rfl c1))
theorem la_1755 (H : XR h Q) (M : MR h Q) (hi : i + 6 ≤ scL G) (hL : scL G ≤ 3072) (hb : h.1 + 6 ≤ ev_big) (hk : laN G d k n i h R) : Ev G (d + 30) (6 + k) (1505 + n) M_La_law 1755 [.ref (ev_big + 100), .ref 0, .ref 102, .int (nI i)] [] h R := by
  refine Ev.room (k := k) (n := n) ?_ (Nat.le_refl _) (by omega) (by omega)
  refine b_La_law_1755 (la_ix hi hL 1 rfl (by omega)) (la_ix hi hL 2 rfl (by omega)) H.recv ?_
  refine s_X_parted (d := d + 23) H (fun h1 K1 X1 z1 => ?_)
  refine b_La_law_1769 (la_ix hi hL 1 rfl (by omega)) (la_ix hi hL 2 rfl (by omega)) ((M.other K1).recv) ?_
  refine s_Mo_parted2 (d := d + 21) (M.other K1) (fun h2 K2 M2 z2 => ?_)
  refine b_La_law_1783 (fun c1 => (hk h2 _ (by omega) (X1.other K2.g) M2)) (fun c1 => (absurd rfl c1))
theorem la_1788 (H : XR h Q) (M : MR h Q) (hi : i + 6 ≤ scL G) (hL : scL G ≤ 3072) (hb : h.1 + 6 ≤ ev_big) (hk : laN G d k n i h R) : Ev G (d + 30) (6 + k) (1505 + n) M_La_law 1788 [.ref (ev_big + 100), .ref 0, .ref 102, .int (nI i)] [] h R := by
  refine Ev.room (k := k) (n := n) ?_ (Nat.le_refl _) (by omega) (by omega)
  refine b_La_law_1788 (la_ix hi hL 1 rfl (by omega)) H.recv ?_
  refine s_X_bestPart (d := d + 23) H (fun h1 K1 X1 z1 => ?_)
  refine b_La_law_1797 (la_ix hi hL 1 rfl (by omega)) ((M.other K1).recv) ?_
  refine s_Mo_bestPart2 (d := d + 21) (M.other K1) (fun h2 K2 M2 z2 => ?_)
  refine b_La_law_1806 (fun c1 => (hk h2 _ (by omega) (X1.other K2.g) M2)) (fun c1 => (absurd rfl c1))
end S83
