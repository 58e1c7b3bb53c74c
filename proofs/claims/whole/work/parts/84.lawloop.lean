/-! the law's loop, and the law from its entry -/
section S84
variable {G : ev_G} {d k n : Nat} {R : Option Value → ev_H → Prop}
theorem la_cmp {L i : Nat} (hL : L ≤ 3072) (hi : i ≤ 3072) : nI L - (6 : Int32) < nI i ↔ L < i + 6 := by
  by_cases h : 6 ≤ L
  · rw [show (6 : Int32) = nI 6 from rfl, nI_sub h, nI_ltI (by omega) (by omega)]; omega
  · have h1 : nI L - (6 : Int32) < 0 := (by decide +kernel : ∀ L, L < 6 → nI L - (6 : Int32) < 0) L (by omega)
    have h2 : (0 : Int32) ≤ nI i := nI_pos' (by omega)
    exact ⟨fun _ => by omega, fun _ => Int32.lt_of_lt_of_le h1 h2⟩
theorem la_exit {i : Nat} {h : ev_H} (q : nI (scL G) - (6 : Int32) < nI i) (hR : ∀ h, R (some (.int 1)) h) : Ev G (d + 30) k n M_La_law 18 [.ref (ev_big + 100), .ref 0, .ref 102, .int (nI i)] [] h R :=
  b_La_law_18 (j1 := i) (fun c => absurd q c) (fun _ => b_La_law_1817 (hR h)) (fun c => absurd q c) (fun c => absurd q c) (fun c => absurd q c) (fun c => absurd q c) (fun c => absurd q c) (fun c => absurd q c) (fun c => absurd q c) (fun c => absurd q c) (fun c => absurd q c) (fun c => absurd q c) (fun c => absurd q c) (fun c => absurd q c) (fun c => absurd q c) (fun c => absurd q c) (fun c => absurd q c) (fun c => absurd q c) (fun c => absurd q c) (fun c => absurd q c) (fun c => absurd q c) (fun c => absurd q c) (fun c => absurd q c) (fun c => absurd q c) (fun c => absurd q c) (fun c => absurd q c) (fun c => absurd q c) (fun c => absurd q c) (fun c => absurd q c) (fun c => absurd q c) (fun c => absurd q c) (fun c => absurd q c) (fun c => absurd q c) (fun c => absurd q c) (fun c => absurd q c) (fun c => absurd q c) (fun c => absurd q c) (fun c => absurd q c) (fun c => absurd q c) (fun c => absurd q c) (fun c => absurd q c) (fun c => absurd q c) (fun c => absurd q c) (fun c => absurd q c) (fun c => absurd q c) (fun c => absurd q c)
theorem la_loop (hL : scL G ≤ 3072) (hR : ∀ h, R (some (.int 1)) h) : ∀ (c i : Nat) (h : ev_H) (Q : QS), i ≤ scL G → scL G < i + 6 * c + 6 → h.1 + 6 * c ≤ ev_big → XR h Q → MR h Q → Ev G (d + 30) (6 * c) (1505 * c) M_La_law 18 [.ref (ev_big + 100), .ref 0, .ref 102, .int (nI i)] [] h R := by
  intro c
  induction c with
  | zero =>
    intro i h Q hi hc hb H M
    exact la_exit ((la_cmp hL (by omega)).mpr (by omega)) hR
  | succ c ih =>
    intro i h Q hi hc hb H M
    by_cases q : scL G < i + 6
    · exact la_exit ((la_cmp hL (by omega)).mpr q) hR
    · have nq : ¬ nI (scL G) - (6 : Int32) < nI i := fun z => q ((la_cmp hL (by omega)).mp z)
      have hi6 : i + 6 ≤ scL G := by omega
      have hb6 : h.1 + 6 ≤ ev_big := by omega
      have hk : laN G d (6 * c) (1505 * c) i h R := fun h' Q' z X M => b_La_law_1811 (by
        rw [show nI i + (6 : Int32) = nI (i + 6) from nI_add i 6]
        exact ih (i + 6) h' Q' (by omega) (by omega) (by omega) X M)
      refine Ev.room (k := 6 + 6 * c) (n := 1505 + 1505 * c) ?_ (Nat.le_refl _) (by omega) (by omega)
      refine b_La_law_18 (j1 := i) (fun _ => ⟨rfl, by omega, by omega⟩) (fun z => absurd z nq) (fun _ _ => la_220 H M hi6 hL hb6 hk) (fun _ _ => la_233 H M hi6 hL hb6 hk) (fun _ _ => la_296 H M hi6 hL hb6 hk) (fun _ _ => la_319 H M hi6 hL hb6 hk) (fun _ _ => la_342 H M hi6 hL hb6 hk) (fun _ _ => la_365 H M hi6 hL hb6 hk) (fun _ _ => la_389 H M hi6 hL hb6 hk) (fun _ _ => la_412 H M hi6 hL hb6 hk) (fun _ _ => la_435 H M hi6 hL hb6 hk) (fun _ _ => la_468 H M hi6 hL hb6 hk) (fun _ _ => la_531 H M hi6 hL hb6 hk) (fun _ _ => la_574 H M hi6 hL hb6 hk) (fun _ _ => la_627 H M hi6 hL hb6 hk) (fun _ _ => la_680 H M hi6 hL hb6 hk) (fun _ _ => la_703 H M hi6 hL hb6 hk) (fun _ _ => la_736 H M hi6 hL hb6 hk) (fun _ _ => la_769 H M hi6 hL hb6 hk) (fun _ _ => la_802 H M hi6 hL hb6 hk) (fun _ _ => la_835 H M hi6 hL hb6 hk) (fun _ _ => la_858 H M hi6 hL hb6 hk) (fun _ _ => la_871 H M hi6 hL hb6 hk) (fun _ _ => la_884 H M hi6 hL hb6 hk) (fun _ _ => la_897 H M hi6 hL hb6 hk) (fun _ _ => la_910 H M hi6 hL hb6 hk) (fun _ _ => la_983 H M hi6 hL hb6 hk) (fun _ _ => la_1056 H M hi6 hL hb6 hk) (fun _ _ => la_1129 H M hi6 hL hb6 hk) (fun _ _ => la_1192 H M hi6 hL hb6 hk) (fun _ _ => la_1265 H M hi6 hL hb6 hk) (fun _ _ => la_1348 H M hi6 hL hb6 hk) (fun _ _ => la_1371 H M hi6 hL hb6 hk) (fun _ _ => la_1414 H M hi6 hL hb6 hk) (fun _ _ => la_1437 H M hi6 hL hb6 hk) (fun _ _ => la_1460 H M hi6 hL hb6 hk) (fun _ _ => la_1493 H M hi6 hL hb6 hk) (fun _ _ => la_1536 H M hi6 hL hb6 hk) (fun _ _ => la_1560 H M hi6 hL hb6 hk) (fun _ _ => la_1653 H M hi6 hL hb6 hk) (fun _ _ => la_1676 H M hi6 hL hb6 hk) (fun _ _ => la_1689 H M hi6 hL hb6 hk) (fun _ _ => la_1722 H M hi6 hL hb6 hk) (fun _ _ => la_1755 H M hi6 hL hb6 hk) (fun _ _ => la_1788 H M hi6 hL hb6 hk) (fun _ _ _ _ _ _ _ _ _ _ _ _ _ _ _ _ _ _ _ _ _ _ _ _ _ _ _ _ _ _ _ _ _ _ _ _ _ _ _ _ _ _ _ _ => Ev.room (hk h Q (by omega) H M) (Nat.le_refl _) (by omega) (by omega))
theorem la_start (hL : scL G ≤ 3072) (hR : ∀ h, R (some (.int 1)) h) : Ev G (d + 30) 4000 900000 M_La_law 0 [.ref (ev_big + 100), ev_unk, ev_unk, ev_unk] [] (0, fun _ => aI 0 (fun _ => 0)) R := by
  refine Ev.room (k := (101 + ((23 + 6 * 512) + 1)) + 1) (n := (4330 + ((12495 + 1505 * 512) + 24)) + 8) ?_ (Nat.le_refl _) (by omega) (by omega)
  refine b_La_law_0 rfl ?_
  refine s_X_init (d := d + 25) (hat_at rfl (hat_pushed _ _)) rfl (fun h1 n1 K1 W1 => ?_)
  refine b_La_law_7 (k := 3072) (n := 770560) n1 ?_
  refine s_Mo_init (d := d + 26) (hat_at n1 (hat_pushed _ _)) (congrArg (· + 1) n1) (fun h2 n2 K2 M2 => ?_)
  refine b_La_law_15 (k := 3072) (n := 770560) ?_
  have q := la_loop (d := d) hL hR 512 0 h2 Q0 (Nat.zero_le _) (by omega) (by unfold ev_big; omega) (W1.xr Q0_gd (((Kg.refl h1 102 126).push _).trans K2) (by omega)) M2
  rw [nI_0] at q
  exact q
end S84
