/-! the law's method -/
theorem b_La_law_0 {G : ev_G} {d k n : Nat} {h : ev_H} {R : Option Value → ev_H → Prop} 
  (n1 : h.1 = 0)
  (k1 : Ev G (d + 29) 101 4330 M_X_init 0 [.ref 0] [] (hpush h (oC 8 [.null, .null, .null, .null, .null, .int (0 : Int32), .int (0 : Int32), .int (0 : Int32)])) (fun r h1 => Ev G (d + 30) k n M_La_law 7 [.ref (ev_big + 100), ev_unk, ev_unk, ev_unk] (r.toList ++ [.ref 0]) h1 R))
  : Ev G (d + 30) ((101 + k) + 1) ((4330 + n) + 8) M_La_law 0 [.ref (ev_big + 100), ev_unk, ev_unk, ev_unk] [] h R :=
  Ev.new' (a := 0) (fs := [.null, .null, .null, .null, .null, .int (0 : Int32), .int (0 : Int32), .int (0 : Int32)]) c_X q_La_7 n_X z_X (by decide +kernel) n1 (by decide) (by decide) (no_ref rfl) <|
  Ev.go (pc' := 4) (ls' := [.ref (ev_big + 100), ev_unk, ev_unk, ev_unk]) (st' := [.ref 0, .ref 0]) [.dup] (by decide +kernel) rfl <|
  Ev.cI (M' := M_X_init) (a := 0) (as := []) (rest := [.ref 0]) l_La_9 M_X_init_ok M_X_init_in rfl rfl (by decide +kernel) rfl rfl (Nat.le_of_ble_eq_true rfl) (Nat.le_of_ble_eq_true rfl) k1
theorem b_La_law_7 {G : ev_G} {d k n : Nat} {h : ev_H} {R : Option Value → ev_H → Prop} 
  (n1 : h.1 = 102)
  (k1 : Ev G (d + 29) 23 12495 M_Mo_init 0 [.ref 102] [] (hpush h (oC 9 [.null, .int (0 : Int32), .int (0 : Int32), .int (0 : Int32), .null, .null, .null, .int (0 : Int32), .int (0 : Int32), .int (0 : Int32), .int (0 : Int32), .int (0 : Int32), .int (0 : Int32), .int (0 : Int32), .int (0 : Int32), .int (0 : Int32), .long (0 : Int64), .null, .null, .null, .null, .int (0 : Int32), .null, .null])) (fun r h1 => Ev G (d + 30) k n M_La_law 15 [.ref (ev_big + 100), .ref 0, ev_unk, ev_unk] (r.toList ++ [.ref 102]) h1 R))
  : Ev G (d + 30) ((23 + k) + 1) ((12495 + n) + 24) M_La_law 7 [.ref (ev_big + 100), ev_unk, ev_unk, ev_unk] [.ref 0] h R :=
  Ev.go (pc' := 8) (ls' := [.ref (ev_big + 100), .ref 0, ev_unk, ev_unk]) (st' := []) [.astore_n 1] (by decide +kernel) rfl <|
  Ev.new' (a := 102) (fs := [.null, .int (0 : Int32), .int (0 : Int32), .int (0 : Int32), .null, .null, .null, .int (0 : Int32), .int (0 : Int32), .int (0 : Int32), .int (0 : Int32), .int (0 : Int32), .int (0 : Int32), .int (0 : Int32), .int (0 : Int32), .int (0 : Int32), .long (0 : Int64), .null, .null, .null, .null, .int (0 : Int32), .null, .null]) c_Mo q_La_10 n_Mo z_Mo (by decide +kernel) n1 (by decide) (by decide) (no_ref rfl) <|
  Ev.go (pc' := 12) (ls' := [.ref (ev_big + 100), .ref 0, ev_unk, ev_unk]) (st' := [.ref 102, .ref 102]) [.dup] (by decide +kernel) rfl <|
  Ev.cI (M' := M_Mo_init) (a := 102) (as := []) (rest := [.ref 102]) l_La_12 M_Mo_init_ok M_Mo_init_in rfl rfl (by decide +kernel) rfl rfl (Nat.le_of_ble_eq_true rfl) (Nat.le_of_ble_eq_true rfl) k1
theorem b_La_law_15 {G : ev_G} {d k n : Nat} {h : ev_H} {R : Option Value → ev_H → Prop} 
  (k1 : Ev G (d + 30) k n M_La_law 18 [.ref (ev_big + 100), .ref 0, .ref 102, .int (0 : Int32)] [] h R)
  : Ev G (d + 30) k n M_La_law 15 [.ref (ev_big + 100), .ref 0, ev_unk, ev_unk] [.ref 102] h R :=
  Ev.go (pc' := 18) (ls' := [.ref (ev_big + 100), .ref 0, .ref 102, .int (0 : Int32)]) (st' := []) [.astore_n 2, .iconst 0, .istore_n 3] (by decide +kernel) rfl <|
  k1
theorem b_La_law_18 {G : ev_G} {d k n : Nat} {h : ev_H} {R : Option Value → ev_H → Prop} {x3 : Int32} {j1 : Nat}
  (i1 : ¬ ((nI (scL G)) - (6 : Int32)) < x3 → ev_ix x3 j1 (scL G))
  (k1 : ((nI (scL G)) - (6 : Int32)) < x3 → Ev G (d + 30) k n M_La_law 1817 [.ref (ev_big + 100), .ref 0, .ref 102, .int x3] [] h R)
  (k2 : ¬ ((nI (scL G)) - (6 : Int32)) < x3 → ((scV G j1) &&& (63 : Int32)) = (0 : Int32) → Ev G (d + 30) k n M_La_law 220 [.ref (ev_big + 100), .ref 0, .ref 102, .int x3] [] h R)
  (k3 : ¬ ((nI (scL G)) - (6 : Int32)) < x3 → ((scV G j1) &&& (63 : Int32)) = (1 : Int32) → Ev G (d + 30) k n M_La_law 233 [.ref (ev_big + 100), .ref 0, .ref 102, .int x3] [] h R)
  (k4 : ¬ ((nI (scL G)) - (6 : Int32)) < x3 → ((scV G j1) &&& (63 : Int32)) = (2 : Int32) → Ev G (d + 30) k n M_La_law 296 [.ref (ev_big + 100), .ref 0, .ref 102, .int x3] [] h R)
  (k5 : ¬ ((nI (scL G)) - (6 : Int32)) < x3 → ((scV G j1) &&& (63 : Int32)) = (3 : Int32) → Ev G (d + 30) k n M_La_law 319 [.ref (ev_big + 100), .ref 0, .ref 102, .int x3] [] h R)
  (k6 : ¬ ((nI (scL G)) - (6 : Int32)) < x3 → ((scV G j1) &&& (63 : Int32)) = (4 : Int32) → Ev G (d + 30) k n M_La_law 342 [.ref (ev_big + 100), .ref 0, .ref 102, .int x3] [] h R)
  (k7 : ¬ ((nI (scL G)) - (6 : Int32)) < x3 → ((scV G j1) &&& (63 : Int32)) = (5 : Int32) → Ev G (d + 30) k n M_La_law 365 [.ref (ev_big + 100), .ref 0, .ref 102, .int x3] [] h R)
  (k8 : ¬ ((nI (scL G)) - (6 : Int32)) < x3 → ((scV G j1) &&& (63 : Int32)) = (6 : Int32) → Ev G (d + 30) k n M_La_law 389 [.ref (ev_big + 100), .ref 0, .ref 102, .int x3] [] h R)
  (k9 : ¬ ((nI (scL G)) - (6 : Int32)) < x3 → ((scV G j1) &&& (63 : Int32)) = (7 : Int32) → Ev G (d + 30) k n M_La_law 412 [.ref (ev_big + 100), .ref 0, .ref 102, .int x3] [] h R)
  (k10 : ¬ ((nI (scL G)) - (6 : Int32)) < x3 → ((scV G j1) &&& (63 : Int32)) = (8 : Int32) → Ev G (d + 30) k n M_La_law 435 [.ref (ev_big + 100), .ref 0, .ref 102, .int x3] [] h R)
  (k11 : ¬ ((nI (scL G)) - (6 : Int32)) < x3 → ((scV G j1) &&& (63 : Int32)) = (9 : Int32) → Ev G (d + 30) k n M_La_law 468 [.ref (ev_big + 100), .ref 0, .ref 102, .int x3] [] h R)
  (k12 : ¬ ((nI (scL G)) - (6 : Int32)) < x3 → ((scV G j1) &&& (63 : Int32)) = (10 : Int32) → Ev G (d + 30) k n M_La_law 531 [.ref (ev_big + 100), .ref 0, .ref 102, .int x3] [] h R)
  (k13 : ¬ ((nI (scL G)) - (6 : Int32)) < x3 → ((scV G j1) &&& (63 : Int32)) = (11 : Int32) → Ev G (d + 30) k n M_La_law 574 [.ref (ev_big + 100), .ref 0, .ref 102, .int x3] [] h R)
  (k14 : ¬ ((nI (scL G)) - (6 : Int32)) < x3 → ((scV G j1) &&& (63 : Int32)) = (12 : Int32) → Ev G (d + 30) k n M_La_law 627 [.ref (ev_big + 100), .ref 0, .ref 102, .int x3] [] h R)
  (k15 : ¬ ((nI (scL G)) - (6 : Int32)) < x3 → ((scV G j1) &&& (63 : Int32)) = (13 : Int32) → Ev G (d + 30) k n M_La_law 680 [.ref (ev_big + 100), .ref 0, .ref 102, .int x3] [] h R)
  (k16 : ¬ ((nI (scL G)) - (6 : Int32)) < x3 → ((scV G j1) &&& (63 : Int32)) = (14 : Int32) → Ev G (d + 30) k n M_La_law 703 [.ref (ev_big + 100), .ref 0, .ref 102, .int x3] [] h R)
  (k17 : ¬ ((nI (scL G)) - (6 : Int32)) < x3 → ((scV G j1) &&& (63 : Int32)) = (15 : Int32) → Ev G (d + 30) k n M_La_law 736 [.ref (ev_big + 100), .ref 0, .ref 102, .int x3] [] h R)
  (k18 : ¬ ((nI (scL G)) - (6 : Int32)) < x3 → ((scV G j1) &&& (63 : Int32)) = (16 : Int32) → Ev G (d + 30) k n M_La_law 769 [.ref (ev_big + 100), .ref 0, .ref 102, .int x3] [] h R)
  (k19 : ¬ ((nI (scL G)) - (6 : Int32)) < x3 → ((scV G j1) &&& (63 : Int32)) = (17 : Int32) → Ev G (d + 30) k n M_La_law 802 [.ref (ev_big + 100), .ref 0, .ref 102, .int x3] [] h R)
  (k20 : ¬ ((nI (scL G)) - (6 : Int32)) < x3 → ((scV G j1) &&& (63 : Int32)) = (18 : Int32) → Ev G (d + 30) k n M_La_law 835 [.ref (ev_big + 100), .ref 0, .ref 102, .int x3] [] h R)
  (k21 : ¬ ((nI (scL G)) - (6 : Int32)) < x3 → ((scV G j1) &&& (63 : Int32)) = (19 : Int32) → Ev G (d + 30) k n M_La_law 858 [.ref (ev_big + 100), .ref 0, .ref 102, .int x3] [] h R)
  (k22 : ¬ ((nI (scL G)) - (6 : Int32)) < x3 → ((scV G j1) &&& (63 : Int32)) = (20 : Int32) → Ev G (d + 30) k n M_La_law 871 [.ref (ev_big + 100), .ref 0, .ref 102, .int x3] [] h R)
  (k23 : ¬ ((nI (scL G)) - (6 : Int32)) < x3 → ((scV G j1) &&& (63 : Int32)) = (21 : Int32) → Ev G (d + 30) k n M_La_law 884 [.ref (ev_big + 100), .ref 0, .ref 102, .int x3] [] h R)
  (k24 : ¬ ((nI (scL G)) - (6 : Int32)) < x3 → ((scV G j1) &&& (63 : Int32)) = (22 : Int32) → Ev G (d + 30) k n M_La_law 897 [.ref (ev_big + 100), .ref 0, .ref 102, .int x3] [] h R)
  (k25 : ¬ ((nI (scL G)) - (6 : Int32)) < x3 → ((scV G j1) &&& (63 : Int32)) = (23 : Int32) → Ev G (d + 30) k n M_La_law 910 [.ref (ev_big + 100), .ref 0, .ref 102, .int x3] [] h R)
  (k26 : ¬ ((nI (scL G)) - (6 : Int32)) < x3 → ((scV G j1) &&& (63 : Int32)) = (24 : Int32) → Ev G (d + 30) k n M_La_law 983 [.ref (ev_big + 100), .ref 0, .ref 102, .int x3] [] h R)
  (k27 : ¬ ((nI (scL G)) - (6 : Int32)) < x3 → ((scV G j1) &&& (63 : Int32)) = (25 : Int32) → Ev G (d + 30) k n M_La_law 1056 [.ref (ev_big + 100), .ref 0, .ref 102, .int x3] [] h R)
  (k28 : ¬ ((nI (scL G)) - (6 : Int32)) < x3 → ((scV G j1) &&& (63 : Int32)) = (26 : Int32) → Ev G (d + 30) k n M_La_law 1129 [.ref (ev_big + 100), .ref 0, .ref 102, .int x3] [] h R)
  (k29 : ¬ ((nI (scL G)) - (6 : Int32)) < x3 → ((scV G j1) &&& (63 : Int32)) = (27 : Int32) → Ev G (d + 30) k n M_La_law 1192 [.ref (ev_big + 100), .ref 0, .ref 102, .int x3] [] h R)
  (k30 : ¬ ((nI (scL G)) - (6 : Int32)) < x3 → ((scV G j1) &&& (63 : Int32)) = (28 : Int32) → Ev G (d + 30) k n M_La_law 1265 [.ref (ev_big + 100), .ref 0, .ref 102, .int x3] [] h R)
  (k31 : ¬ ((nI (scL G)) - (6 : Int32)) < x3 → ((scV G j1) &&& (63 : Int32)) = (29 : Int32) → Ev G (d + 30) k n M_La_law 1348 [.ref (ev_big + 100), .ref 0, .ref 102, .int x3] [] h R)
  (k32 : ¬ ((nI (scL G)) - (6 : Int32)) < x3 → ((scV G j1) &&& (63 : Int32)) = (30 : Int32) → Ev G (d + 30) k n M_La_law 1371 [.ref (ev_big + 100), .ref 0, .ref 102, .int x3] [] h R)
  (k33 : ¬ ((nI (scL G)) - (6 : Int32)) < x3 → ((scV G j1) &&& (63 : Int32)) = (31 : Int32) → Ev G (d + 30) k n M_La_law 1414 [.ref (ev_big + 100), .ref 0, .ref 102, .int x3] [] h R)
  (k34 : ¬ ((nI (scL G)) - (6 : Int32)) < x3 → ((scV G j1) &&& (63 : Int32)) = (32 : Int32) → Ev G (d + 30) k n M_La_law 1437 [.ref (ev_big + 100), .ref 0, .ref 102, .int x3] [] h R)
  (k35 : ¬ ((nI (scL G)) - (6 : Int32)) < x3 → ((scV G j1) &&& (63 : Int32)) = (33 : Int32) → Ev G (d + 30) k n M_La_law 1460 [.ref (ev_big + 100), .ref 0, .ref 102, .int x3] [] h R)
  (k36 : ¬ ((nI (scL G)) - (6 : Int32)) < x3 → ((scV G j1) &&& (63 : Int32)) = (34 : Int32) → Ev G (d + 30) k n M_La_law 1493 [.ref (ev_big + 100), .ref 0, .ref 102, .int x3] [] h R)
  (k37 : ¬ ((nI (scL G)) - (6 : Int32)) < x3 → ((scV G j1) &&& (63 : Int32)) = (35 : Int32) → Ev G (d + 30) k n M_La_law 1536 [.ref (ev_big + 100), .ref 0, .ref 102, .int x3] [] h R)
  (k38 : ¬ ((nI (scL G)) - (6 : Int32)) < x3 → ((scV G j1) &&& (63 : Int32)) = (36 : Int32) → Ev G (d + 30) k n M_La_law 1560 [.ref (ev_big + 100), .ref 0, .ref 102, .int x3] [] h R)
  (k39 : ¬ ((nI (scL G)) - (6 : Int32)) < x3 → ((scV G j1) &&& (63 : Int32)) = (37 : Int32) → Ev G (d + 30) k n M_La_law 1653 [.ref (ev_big + 100), .ref 0, .ref 102, .int x3] [] h R)
  (k40 : ¬ ((nI (scL G)) - (6 : Int32)) < x3 → ((scV G j1) &&& (63 : Int32)) = (38 : Int32) → Ev G (d + 30) k n M_La_law 1676 [.ref (ev_big + 100), .ref 0, .ref 102, .int x3] [] h R)
  (k41 : ¬ ((nI (scL G)) - (6 : Int32)) < x3 → ((scV G j1) &&& (63 : Int32)) = (39 : Int32) → Ev G (d + 30) k n M_La_law 1689 [.ref (ev_big + 100), .ref 0, .ref 102, .int x3] [] h R)
  (k42 : ¬ ((nI (scL G)) - (6 : Int32)) < x3 → ((scV G j1) &&& (63 : Int32)) = (40 : Int32) → Ev G (d + 30) k n M_La_law 1722 [.ref (ev_big + 100), .ref 0, .ref 102, .int x3] [] h R)
  (k43 : ¬ ((nI (scL G)) - (6 : Int32)) < x3 → ((scV G j1) &&& (63 : Int32)) = (41 : Int32) → Ev G (d + 30) k n M_La_law 1755 [.ref (ev_big + 100), .ref 0, .ref 102, .int x3] [] h R)
  (k44 : ¬ ((nI (scL G)) - (6 : Int32)) < x3 → ((scV G j1) &&& (63 : Int32)) = (42 : Int32) → Ev G (d + 30) k n M_La_law 1788 [.ref (ev_big + 100), .ref 0, .ref 102, .int x3] [] h R)
  (k45 : ¬ ((nI (scL G)) - (6 : Int32)) < x3 → ¬ ((scV G j1) &&& (63 : Int32)) = (0 : Int32) → ¬ ((scV G j1) &&& (63 : Int32)) = (1 : Int32) → ¬ ((scV G j1) &&& (63 : Int32)) = (2 : Int32) → ¬ ((scV G j1) &&& (63 : Int32)) = (3 : Int32) → ¬ ((scV G j1) &&& (63 : Int32)) = (4 : Int32) → ¬ ((scV G j1) &&& (63 : Int32)) = (5 : Int32) → ¬ ((scV G j1) &&& (63 : Int32)) = (6 : Int32) → ¬ ((scV G j1) &&& (63 : Int32)) = (7 : Int32) → ¬ ((scV G j1) &&& (63 : Int32)) = (8 : Int32) → ¬ ((scV G j1) &&& (63 : Int32)) = (9 : Int32) → ¬ ((scV G j1) &&& (63 : Int32)) = (10 : Int32) → ¬ ((scV G j1) &&& (63 : Int32)) = (11 : Int32) → ¬ ((scV G j1) &&& (63 : Int32)) = (12 : Int32) → ¬ ((scV G j1) &&& (63 : Int32)) = (13 : Int32) → ¬ ((scV G j1) &&& (63 : Int32)) = (14 : Int32) → ¬ ((scV G j1) &&& (63 : Int32)) = (15 : Int32) → ¬ ((scV G j1) &&& (63 : Int32)) = (16 : Int32) → ¬ ((scV G j1) &&& (63 : Int32)) = (17 : Int32) → ¬ ((scV G j1) &&& (63 : Int32)) = (18 : Int32) → ¬ ((scV G j1) &&& (63 : Int32)) = (19 : Int32) → ¬ ((scV G j1) &&& (63 : Int32)) = (20 : Int32) → ¬ ((scV G j1) &&& (63 : Int32)) = (21 : Int32) → ¬ ((scV G j1) &&& (63 : Int32)) = (22 : Int32) → ¬ ((scV G j1) &&& (63 : Int32)) = (23 : Int32) → ¬ ((scV G j1) &&& (63 : Int32)) = (24 : Int32) → ¬ ((scV G j1) &&& (63 : Int32)) = (25 : Int32) → ¬ ((scV G j1) &&& (63 : Int32)) = (26 : Int32) → ¬ ((scV G j1) &&& (63 : Int32)) = (27 : Int32) → ¬ ((scV G j1) &&& (63 : Int32)) = (28 : Int32) → ¬ ((scV G j1) &&& (63 : Int32)) = (29 : Int32) → ¬ ((scV G j1) &&& (63 : Int32)) = (30 : Int32) → ¬ ((scV G j1) &&& (63 : Int32)) = (31 : Int32) → ¬ ((scV G j1) &&& (63 : Int32)) = (32 : Int32) → ¬ ((scV G j1) &&& (63 : Int32)) = (33 : Int32) → ¬ ((scV G j1) &&& (63 : Int32)) = (34 : Int32) → ¬ ((scV G j1) &&& (63 : Int32)) = (35 : Int32) → ¬ ((scV G j1) &&& (63 : Int32)) = (36 : Int32) → ¬ ((scV G j1) &&& (63 : Int32)) = (37 : Int32) → ¬ ((scV G j1) &&& (63 : Int32)) = (38 : Int32) → ¬ ((scV G j1) &&& (63 : Int32)) = (39 : Int32) → ¬ ((scV G j1) &&& (63 : Int32)) = (40 : Int32) → ¬ ((scV G j1) &&& (63 : Int32)) = (41 : Int32) → ¬ ((scV G j1) &&& (63 : Int32)) = (42 : Int32) → Ev G (d + 30) k n M_La_law 1811 [.ref (ev_big + 100), .ref 0, .ref 102, .int x3] [] h R)
  : Ev G (d + 30) k n M_La_law 18 [.ref (ev_big + 100), .ref 0, .ref 102, .int x3] [] h R :=
  Ev.go (pc' := 20) (ls' := [.ref (ev_big + 100), .ref 0, .ref 102, .int x3]) (st' := [.ref (ev_big + 100), .int x3]) [.iload_n 3, .aload_n 0] (by decide +kernel) rfl <|
  Ev.sclen (by decide +kernel) <|
  Ev.go (pc' := 24) (ls' := [.ref (ev_big + 100), .ref 0, .ref 102, .int x3]) (st' := [.int ((nI (scL G)) - (6 : Int32)), .int x3]) [.bipush (6), .isub] (by decide +kernel) rfl <|
  Ev.br (i := .if_icmp .gt (1793)) (P := ((nI (scL G)) - (6 : Int32)) < x3) (t := 1817) (f := 27) (r := []) (by decide +kernel) rfl (fun c1 =>
    (k1 c1)
  ) (fun c1 =>
    Ev.go (pc' := 29) (ls' := [.ref (ev_big + 100), .ref 0, .ref 102, .int x3]) (st' := [.int x3, .ref (ev_big + 100)]) [.aload_n 0, .iload_n 3] (by decide +kernel) rfl <|
    Ev.scald (j := j1) (by decide +kernel) (i1 c1) <|
    Ev.go (pc' := 33) (ls' := [.ref (ev_big + 100), .ref 0, .ref 102, .int x3]) (st' := [.int ((scV G j1) &&& (63 : Int32))]) [.bipush (63), .iand] (by decide +kernel) rfl <|
    if c2_0 : ((scV G j1) &&& (63 : Int32)) = (0 : Int32) then Ev.tsw (t := 220) (off := 187) (o := 1778) (lo := 0) (hi := 42) (offs := #[187, 200, 263, 286, 309, 332, 356, 379, 402, 435, 498, 541, 594, 647, 670, 703, 736, 769, 802, 825, 838, 851, 864, 877, 950, 1023, 1096, 1159, 1232, 1315, 1338, 1381, 1404, 1427, 1460, 1503, 1527, 1620, 1643, 1656, 1689, 1722, 1755]) (len := 187) (by decide +kernel) (by rw [c2_0]; decide) (by rw [c2_0]; decide) (by rw [c2_0]; decide) rfl <|
      (k2 c1 c2_0)
    else
    if c2_1 : ((scV G j1) &&& (63 : Int32)) = (1 : Int32) then Ev.tsw (t := 233) (off := 200) (o := 1778) (lo := 0) (hi := 42) (offs := #[187, 200, 263, 286, 309, 332, 356, 379, 402, 435, 498, 541, 594, 647, 670, 703, 736, 769, 802, 825, 838, 851, 864, 877, 950, 1023, 1096, 1159, 1232, 1315, 1338, 1381, 1404, 1427, 1460, 1503, 1527, 1620, 1643, 1656, 1689, 1722, 1755]) (len := 187) (by decide +kernel) (by rw [c2_1]; decide) (by rw [c2_1]; decide) (by rw [c2_1]; decide) rfl <|
      (k3 c1 c2_1)
    else
    if c2_2 : ((scV G j1) &&& (63 : Int32)) = (2 : Int32) then Ev.tsw (t := 296) (off := 263) (o := 1778) (lo := 0) (hi := 42) (offs := #[187, 200, 263, 286, 309, 332, 356, 379, 402, 435, 498, 541, 594, 647, 670, 703, 736, 769, 802, 825, 838, 851, 864, 877, 950, 1023, 1096, 1159, 1232, 1315, 1338, 1381, 1404, 1427, 1460, 1503, 1527, 1620, 1643, 1656, 1689, 1722, 1755]) (len := 187) (by decide +kernel) (by rw [c2_2]; decide) (by rw [c2_2]; decide) (by rw [c2_2]; decide) rfl <|
      (k4 c1 c2_2)
    else
    if c2_3 : ((scV G j1) &&& (63 : Int32)) = (3 : Int32) then Ev.tsw (t := 319) (off := 286) (o := 1778) (lo := 0) (hi := 42) (offs := #[187, 200, 263, 286, 309, 332, 356, 379, 402, 435, 498, 541, 594, 647, 670, 703, 736, 769, 802, 825, 838, 851, 864, 877, 950, 1023, 1096, 1159, 1232, 1315, 1338, 1381, 1404, 1427, 1460, 1503, 1527, 1620, 1643, 1656, 1689, 1722, 1755]) (len := 187) (by decide +kernel) (by rw [c2_3]; decide) (by rw [c2_3]; decide) (by rw [c2_3]; decide) rfl <|
      (k5 c1 c2_3)
    else
    if c2_4 : ((scV G j1) &&& (63 : Int32)) = (4 : Int32) then Ev.tsw (t := 342) (off := 309) (o := 1778) (lo := 0) (hi := 42) (offs := #[187, 200, 263, 286, 309, 332, 356, 379, 402, 435, 498, 541, 594, 647, 670, 703, 736, 769, 802, 825, 838, 851, 864, 877, 950, 1023, 1096, 1159, 1232, 1315, 1338, 1381, 1404, 1427, 1460, 1503, 1527, 1620, 1643, 1656, 1689, 1722, 1755]) (len := 187) (by decide +kernel) (by rw [c2_4]; decide) (by rw [c2_4]; decide) (by rw [c2_4]; decide) rfl <|
      (k6 c1 c2_4)
    else
    if c2_5 : ((scV G j1) &&& (63 : Int32)) = (5 : Int32) then Ev.tsw (t := 365) (off := 332) (o := 1778) (lo := 0) (hi := 42) (offs := #[187, 200, 263, 286, 309, 332, 356, 379, 402, 435, 498, 541, 594, 647, 670, 703, 736, 769, 802, 825, 838, 851, 864, 877, 950, 1023, 1096, 1159, 1232, 1315, 1338, 1381, 1404, 1427, 1460, 1503, 1527, 1620, 1643, 1656, 1689, 1722, 1755]) (len := 187) (by decide +kernel) (by rw [c2_5]; decide) (by rw [c2_5]; decide) (by rw [c2_5]; decide) rfl <|
      (k7 c1 c2_5)
    else
    if c2_6 : ((scV G j1) &&& (63 : Int32)) = (6 : Int32) then Ev.tsw (t := 389) (off := 356) (o := 1778) (lo := 0) (hi := 42) (offs := #[187, 200, 263, 286, 309, 332, 356, 379, 402, 435, 498, 541, 594, 647, 670, 703, 736, 769, 802, 825, 838, 851, 864, 877, 950, 1023, 1096, 1159, 1232, 1315, 1338, 1381, 1404, 1427, 1460, 1503, 1527, 1620, 1643, 1656, 1689, 1722, 1755]) (len := 187) (by decide +kernel) (by rw [c2_6]; decide) (by rw [c2_6]; decide) (by rw [c2_6]; decide) rfl <|
      (k8 c1 c2_6)
    else
    if c2_7 : ((scV G j1) &&& (63 : Int32)) = (7 : Int32) then Ev.tsw (t := 412) (off := 379) (o := 1778) (lo := 0) (hi := 42) (offs := #[187, 200, 263, 286, 309, 332, 356, 379, 402, 435, 498, 541, 594, 647, 670, 703, 736, 769, 802, 825, 838, 851, 864, 877, 950, 1023, 1096, 1159, 1232, 1315, 1338, 1381, 1404, 1427, 1460, 1503, 1527, 1620, 1643, 1656, 1689, 1722, 1755]) (len := 187) (by decide +kernel) (by rw [c2_7]; decide) (by rw [c2_7]; decide) (by rw [c2_7]; decide) rfl <|
      (k9 c1 c2_7)
    else
    if c2_8 : ((scV G j1) &&& (63 : Int32)) = (8 : Int32) then Ev.tsw (t := 435) (off := 402) (o := 1778) (lo := 0) (hi := 42) (offs := #[187, 200, 263, 286, 309, 332, 356, 379, 402, 435, 498, 541, 594, 647, 670, 703, 736, 769, 802, 825, 838, 851, 864, 877, 950, 1023, 1096, 1159, 1232, 1315, 1338, 1381, 1404, 1427, 1460, 1503, 1527, 1620, 1643, 1656, 1689, 1722, 1755]) (len := 187) (by decide +kernel) (by rw [c2_8]; decide) (by rw [c2_8]; decide) (by rw [c2_8]; decide) rfl <|
      (k10 c1 c2_8)
    else
    if c2_9 : ((scV G j1) &&& (63 : Int32)) = (9 : Int32) then Ev.tsw (t := 468) (off := 435) (o := 1778) (lo := 0) (hi := 42) (offs := #[187, 200, 263, 286, 309, 332, 356, 379, 402, 435, 498, 541, 594, 647, 670, 703, 736, 769, 802, 825, 838, 851, 864, 877, 950, 1023, 1096, 1159, 1232, 1315, 1338, 1381, 1404, 1427, 1460, 1503, 1527, 1620, 1643, 1656, 1689, 1722, 1755]) (len := 187) (by decide +kernel) (by rw [c2_9]; decide) (by rw [c2_9]; decide) (by rw [c2_9]; decide) rfl <|
      (k11 c1 c2_9)
    else
    if c2_10 : ((scV G j1) &&& (63 : Int32)) = (10 : Int32) then Ev.tsw (t := 531) (off := 498) (o := 1778) (lo := 0) (hi := 42) (offs := #[187, 200, 263, 286, 309, 332, 356, 379, 402, 435, 498, 541, 594, 647, 670, 703, 736, 769, 802, 825, 838, 851, 864, 877, 950, 1023, 1096, 1159, 1232, 1315, 1338, 1381, 1404, 1427, 1460, 1503, 1527, 1620, 1643, 1656, 1689, 1722, 1755]) (len := 187) (by decide +kernel) (by rw [c2_10]; decide) (by rw [c2_10]; decide) (by rw [c2_10]; decide) rfl <|
      (k12 c1 c2_10)
    else
    if c2_11 : ((scV G j1) &&& (63 : Int32)) = (11 : Int32) then Ev.tsw (t := 574) (off := 541) (o := 1778) (lo := 0) (hi := 42) (offs := #[187, 200, 263, 286, 309, 332, 356, 379, 402, 435, 498, 541, 594, 647, 670, 703, 736, 769, 802, 825, 838, 851, 864, 877, 950, 1023, 1096, 1159, 1232, 1315, 1338, 1381, 1404, 1427, 1460, 1503, 1527, 1620, 1643, 1656, 1689, 1722, 1755]) (len := 187) (by decide +kernel) (by rw [c2_11]; decide) (by rw [c2_11]; decide) (by rw [c2_11]; decide) rfl <|
      (k13 c1 c2_11)
    else
    if c2_12 : ((scV G j1) &&& (63 : Int32)) = (12 : Int32) then Ev.tsw (t := 627) (off := 594) (o := 1778) (lo := 0) (hi := 42) (offs := #[187, 200, 263, 286, 309, 332, 356, 379, 402, 435, 498, 541, 594, 647, 670, 703, 736, 769, 802, 825, 838, 851, 864, 877, 950, 1023, 1096, 1159, 1232, 1315, 1338, 1381, 1404, 1427, 1460, 1503, 1527, 1620, 1643, 1656, 1689, 1722, 1755]) (len := 187) (by decide +kernel) (by rw [c2_12]; decide) (by rw [c2_12]; decide) (by rw [c2_12]; decide) rfl <|
      (k14 c1 c2_12)
    else
    if c2_13 : ((scV G j1) &&& (63 : Int32)) = (13 : Int32) then Ev.tsw (t := 680) (off := 647) (o := 1778) (lo := 0) (hi := 42) (offs := #[187, 200, 263, 286, 309, 332, 356, 379, 402, 435, 498, 541, 594, 647, 670, 703, 736, 769, 802, 825, 838, 851, 864, 877, 950, 1023, 1096, 1159, 1232, 1315, 1338, 1381, 1404, 1427, 1460, 1503, 1527, 1620, 1643, 1656, 1689, 1722, 1755]) (len := 187) (by decide +kernel) (by rw [c2_13]; decide) (by rw [c2_13]; decide) (by rw [c2_13]; decide) rfl <|
      (k15 c1 c2_13)
    else
    if c2_14 : ((scV G j1) &&& (63 : Int32)) = (14 : Int32) then Ev.tsw (t := 703) (off := 670) (o := 1778) (lo := 0) (hi := 42) (offs := #[187, 200, 263, 286, 309, 332, 356, 379, 402, 435, 498, 541, 594, 647, 670, 703, 736, 769, 802, 825, 838, 851, 864, 877, 950, 1023, 1096, 1159, 1232, 1315, 1338, 1381, 1404, 1427, 1460, 1503, 1527, 1620, 1643, 1656, 1689, 1722, 1755]) (len := 187) (by decide +kernel) (by rw [c2_14]; decide) (by rw [c2_14]; decide) (by rw [c2_14]; decide) rfl <|
      (k16 c1 c2_14)
    else
    if c2_15 : ((scV G j1) &&& (63 : Int32)) = (15 : Int32) then Ev.tsw (t := 736) (off := 703) (o := 1778) (lo := 0) (hi := 42) (offs := #[187, 200, 263, 286, 309, 332, 356, 379, 402, 435, 498, 541, 594, 647, 670, 703, 736, 769, 802, 825, 838, 851, 864, 877, 950, 1023, 1096, 1159, 1232, 1315, 1338, 1381, 1404, 1427, 1460, 1503, 1527, 1620, 1643, 1656, 1689, 1722, 1755]) (len := 187) (by decide +kernel) (by rw [c2_15]; decide) (by rw [c2_15]; decide) (by rw [c2_15]; decide) rfl <|
      (k17 c1 c2_15)
    else
    if c2_16 : ((scV G j1) &&& (63 : Int32)) = (16 : Int32) then Ev.tsw (t := 769) (off := 736) (o := 1778) (lo := 0) (hi := 42) (offs := #[187, 200, 263, 286, 309, 332, 356, 379, 402, 435, 498, 541, 594, 647, 670, 703, 736, 769, 802, 825, 838, 851, 864, 877, 950, 1023, 1096, 1159, 1232, 1315, 1338, 1381, 1404, 1427, 1460, 1503, 1527, 1620, 1643, 1656, 1689, 1722, 1755]) (len := 187) (by decide +kernel) (by rw [c2_16]; decide) (by rw [c2_16]; decide) (by rw [c2_16]; decide) rfl <|
      (k18 c1 c2_16)
    else
    if c2_17 : ((scV G j1) &&& (63 : Int32)) = (17 : Int32) then Ev.tsw (t := 802) (off := 769) (o := 1778) (lo := 0) (hi := 42) (offs := #[187, 200, 263, 286, 309, 332, 356, 379, 402, 435, 498, 541, 594, 647, 670, 703, 736, 769, 802, 825, 838, 851, 864, 877, 950, 1023, 1096, 1159, 1232, 1315, 1338, 1381, 1404, 1427, 1460, 1503, 1527, 1620, 1643, 1656, 1689, 1722, 1755]) (len := 187) (by decide +kernel) (by rw [c2_17]; decide) (by rw [c2_17]; decide) (by rw [c2_17]; decide) rfl <|
      (k19 c1 c2_17)
    else
    if c2_18 : ((scV G j1) &&& (63 : Int32)) = (18 : Int32) then Ev.tsw (t := 835) (off := 802) (o := 1778) (lo := 0) (hi := 42) (offs := #[187, 200, 263, 286, 309, 332, 356, 379, 402, 435, 498, 541, 594, 647, 670, 703, 736, 769, 802, 825, 838, 851, 864, 877, 950, 1023, 1096, 1159, 1232, 1315, 1338, 1381, 1404, 1427, 1460, 1503, 1527, 1620, 1643, 1656, 1689, 1722, 1755]) (len := 187) (by decide +kernel) (by rw [c2_18]; decide) (by rw [c2_18]; decide) (by rw [c2_18]; decide) rfl <|
      (k20 c1 c2_18)
    else
    if c2_19 : ((scV G j1) &&& (63 : Int32)) = (19 : Int32) then Ev.tsw (t := 858) (off := 825) (o := 1778) (lo := 0) (hi := 42) (offs := #[187, 200, 263, 286, 309, 332, 356, 379, 402, 435, 498, 541, 594, 647, 670, 703, 736, 769, 802, 825, 838, 851, 864, 877, 950, 1023, 1096, 1159, 1232, 1315, 1338, 1381, 1404, 1427, 1460, 1503, 1527, 1620, 1643, 1656, 1689, 1722, 1755]) (len := 187) (by decide +kernel) (by rw [c2_19]; decide) (by rw [c2_19]; decide) (by rw [c2_19]; decide) rfl <|
      (k21 c1 c2_19)
    else
    if c2_20 : ((scV G j1) &&& (63 : Int32)) = (20 : Int32) then Ev.tsw (t := 871) (off := 838) (o := 1778) (lo := 0) (hi := 42) (offs := #[187, 200, 263, 286, 309, 332, 356, 379, 402, 435, 498, 541, 594, 647, 670, 703, 736, 769, 802, 825, 838, 851, 864, 877, 950, 1023, 1096, 1159, 1232, 1315, 1338, 1381, 1404, 1427, 1460, 1503, 1527, 1620, 1643, 1656, 1689, 1722, 1755]) (len := 187) (by decide +kernel) (by rw [c2_20]; decide) (by rw [c2_20]; decide) (by rw [c2_20]; decide) rfl <|
      (k22 c1 c2_20)
    else
    if c2_21 : ((scV G j1) &&& (63 : Int32)) = (21 : Int32) then Ev.tsw (t := 884) (off := 851) (o := 1778) (lo := 0) (hi := 42) (offs := #[187, 200, 263, 286, 309, 332, 356, 379, 402, 435, 498, 541, 594, 647, 670, 703, 736, 769, 802, 825, 838, 851, 864, 877, 950, 1023, 1096, 1159, 1232, 1315, 1338, 1381, 1404, 1427, 1460, 1503, 1527, 1620, 1643, 1656, 1689, 1722, 1755]) (len := 187) (by decide +kernel) (by rw [c2_21]; decide) (by rw [c2_21]; decide) (by rw [c2_21]; decide) rfl <|
      (k23 c1 c2_21)
    else
    if c2_22 : ((scV G j1) &&& (63 : Int32)) = (22 : Int32) then Ev.tsw (t := 897) (off := 864) (o := 1778) (lo := 0) (hi := 42) (offs := #[187, 200, 263, 286, 309, 332, 356, 379, 402, 435, 498, 541, 594, 647, 670, 703, 736, 769, 802, 825, 838, 851, 864, 877, 950, 1023, 1096, 1159, 1232, 1315, 1338, 1381, 1404, 1427, 1460, 1503, 1527, 1620, 1643, 1656, 1689, 1722, 1755]) (len := 187) (by decide +kernel) (by rw [c2_22]; decide) (by rw [c2_22]; decide) (by rw [c2_22]; decide) rfl <|
      (k24 c1 c2_22)
    else
    if c2_23 : ((scV G j1) &&& (63 : Int32)) = (23 : Int32) then Ev.tsw (t := 910) (off := 877) (o := 1778) (lo := 0) (hi := 42) (offs := #[187, 200, 263, 286, 309, 332, 356, 379, 402, 435, 498, 541, 594, 647, 670, 703, 736, 769, 802, 825, 838, 851, 864, 877, 950, 1023, 1096, 1159, 1232, 1315, 1338, 1381, 1404, 1427, 1460, 1503, 1527, 1620, 1643, 1656, 1689, 1722, 1755]) (len := 187) (by decide +kernel) (by rw [c2_23]; decide) (by rw [c2_23]; decide) (by rw [c2_23]; decide) rfl <|
      (k25 c1 c2_23)
    else
    if c2_24 : ((scV G j1) &&& (63 : Int32)) = (24 : Int32) then Ev.tsw (t := 983) (off := 950) (o := 1778) (lo := 0) (hi := 42) (offs := #[187, 200, 263, 286, 309, 332, 356, 379, 402, 435, 498, 541, 594, 647, 670, 703, 736, 769, 802, 825, 838, 851, 864, 877, 950, 1023, 1096, 1159, 1232, 1315, 1338, 1381, 1404, 1427, 1460, 1503, 1527, 1620, 1643, 1656, 1689, 1722, 1755]) (len := 187) (by decide +kernel) (by rw [c2_24]; decide) (by rw [c2_24]; decide) (by rw [c2_24]; decide) rfl <|
      (k26 c1 c2_24)
    else
    if c2_25 : ((scV G j1) &&& (63 : Int32)) = (25 : Int32) then Ev.tsw (t := 1056) (off := 1023) (o := 1778) (lo := 0) (hi := 42) (offs := #[187, 200, 263, 286, 309, 332, 356, 379, 402, 435, 498, 541, 594, 647, 670, 703, 736, 769, 802, 825, 838, 851, 864, 877, 950, 1023, 1096, 1159, 1232, 1315, 1338, 1381, 1404, 1427, 1460, 1503, 1527, 1620, 1643, 1656, 1689, 1722, 1755]) (len := 187) (by decide +kernel) (by rw [c2_25]; decide) (by rw [c2_25]; decide) (by rw [c2_25]; decide) rfl <|
      (k27 c1 c2_25)
    else
    if c2_26 : ((scV G j1) &&& (63 : Int32)) = (26 : Int32) then Ev.tsw (t := 1129) (off := 1096) (o := 1778) (lo := 0) (hi := 42) (offs := #[187, 200, 263, 286, 309, 332, 356, 379, 402, 435, 498, 541, 594, 647, 670, 703, 736, 769, 802, 825, 838, 851, 864, 877, 950, 1023, 1096, 1159, 1232, 1315, 1338, 1381, 1404, 1427, 1460, 1503, 1527, 1620, 1643, 1656, 1689, 1722, 1755]) (len := 187) (by decide +kernel) (by rw [c2_26]; decide) (by rw [c2_26]; decide) (by rw [c2_26]; decide) rfl <|
      (k28 c1 c2_26)
    else
    if c2_27 : ((scV G j1) &&& (63 : Int32)) = (27 : Int32) then Ev.tsw (t := 1192) (off := 1159) (o := 1778) (lo := 0) (hi := 42) (offs := #[187, 200, 263, 286, 309, 332, 356, 379, 402, 435, 498, 541, 594, 647, 670, 703, 736, 769, 802, 825, 838, 851, 864, 877, 950, 1023, 1096, 1159, 1232, 1315, 1338, 1381, 1404, 1427, 1460, 1503, 1527, 1620, 1643, 1656, 1689, 1722, 1755]) (len := 187) (by decide +kernel) (by rw [c2_27]; decide) (by rw [c2_27]; decide) (by rw [c2_27]; decide) rfl <|
      (k29 c1 c2_27)
    else
    if c2_28 : ((scV G j1) &&& (63 : Int32)) = (28 : Int32) then Ev.tsw (t := 1265) (off := 1232) (o := 1778) (lo := 0) (hi := 42) (offs := #[187, 200, 263, 286, 309, 332, 356, 379, 402, 435, 498, 541, 594, 647, 670, 703, 736, 769, 802, 825, 838, 851, 864, 877, 950, 1023, 1096, 1159, 1232, 1315, 1338, 1381, 1404, 1427, 1460, 1503, 1527, 1620, 1643, 1656, 1689, 1722, 1755]) (len := 187) (by decide +kernel) (by rw [c2_28]; decide) (by rw [c2_28]; decide) (by rw [c2_28]; decide) rfl <|
      (k30 c1 c2_28)
    else
    if c2_29 : ((scV G j1) &&& (63 : Int32)) = (29 : Int32) then Ev.tsw (t := 1348) (off := 1315) (o := 1778) (lo := 0) (hi := 42) (offs := #[187, 200, 263, 286, 309, 332, 356, 379, 402, 435, 498, 541, 594, 647, 670, 703, 736, 769, 802, 825, 838, 851, 864, 877, 950, 1023, 1096, 1159, 1232, 1315, 1338, 1381, 1404, 1427, 1460, 1503, 1527, 1620, 1643, 1656, 1689, 1722, 1755]) (len := 187) (by decide +kernel) (by rw [c2_29]; decide) (by rw [c2_29]; decide) (by rw [c2_29]; decide) rfl <|
      (k31 c1 c2_29)
    else
    if c2_30 : ((scV G j1) &&& (63 : Int32)) = (30 : Int32) then Ev.tsw (t := 1371) (off := 1338) (o := 1778) (lo := 0) (hi := 42) (offs := #[187, 200, 263, 286, 309, 332, 356, 379, 402, 435, 498, 541, 594, 647, 670, 703, 736, 769, 802, 825, 838, 851, 864, 877, 950, 1023, 1096, 1159, 1232, 1315, 1338, 1381, 1404, 1427, 1460, 1503, 1527, 1620, 1643, 1656, 1689, 1722, 1755]) (len := 187) (by decide +kernel) (by rw [c2_30]; decide) (by rw [c2_30]; decide) (by rw [c2_30]; decide) rfl <|
      (k32 c1 c2_30)
    else
    if c2_31 : ((scV G j1) &&& (63 : Int32)) = (31 : Int32) then Ev.tsw (t := 1414) (off := 1381) (o := 1778) (lo := 0) (hi := 42) (offs := #[187, 200, 263, 286, 309, 332, 356, 379, 402, 435, 498, 541, 594, 647, 670, 703, 736, 769, 802, 825, 838, 851, 864, 877, 950, 1023, 1096, 1159, 1232, 1315, 1338, 1381, 1404, 1427, 1460, 1503, 1527, 1620, 1643, 1656, 1689, 1722, 1755]) (len := 187) (by decide +kernel) (by rw [c2_31]; decide) (by rw [c2_31]; decide) (by rw [c2_31]; decide) rfl <|
      (k33 c1 c2_31)
    else
    if c2_32 : ((scV G j1) &&& (63 : Int32)) = (32 : Int32) then Ev.tsw (t := 1437) (off := 1404) (o := 1778) (lo := 0) (hi := 42) (offs := #[187, 200, 263, 286, 309, 332, 356, 379, 402, 435, 498, 541, 594, 647, 670, 703, 736, 769, 802, 825, 838, 851, 864, 877, 950, 1023, 1096, 1159, 1232, 1315, 1338, 1381, 1404, 1427, 1460, 1503, 1527, 1620, 1643, 1656, 1689, 1722, 1755]) (len := 187) (by decide +kernel) (by rw [c2_32]; decide) (by rw [c2_32]; decide) (by rw [c2_32]; decide) rfl <|
      (k34 c1 c2_32)
    else
    if c2_33 : ((scV G j1) &&& (63 : Int32)) = (33 : Int32) then Ev.tsw (t := 1460) (off := 1427) (o := 1778) (lo := 0) (hi := 42) (offs := #[187, 200, 263, 286, 309, 332, 356, 379, 402, 435, 498, 541, 594, 647, 670, 703, 736, 769, 802, 825, 838, 851, 864, 877, 950, 1023, 1096, 1159, 1232, 1315, 1338, 1381, 1404, 1427, 1460, 1503, 1527, 1620, 1643, 1656, 1689, 1722, 1755]) (len := 187) (by decide +kernel) (by rw [c2_33]; decide) (by rw [c2_33]; decide) (by rw [c2_33]; decide) rfl <|
      (k35 c1 c2_33)
    else
    if c2_34 : ((scV G j1) &&& (63 : Int32)) = (34 : Int32) then Ev.tsw (t := 1493) (off := 1460) (o := 1778) (lo := 0) (hi := 42) (offs := #[187, 200, 263, 286, 309, 332, 356, 379, 402, 435, 498, 541, 594, 647, 670, 703, 736, 769, 802, 825, 838, 851, 864, 877, 950, 1023, 1096, 1159, 1232, 1315, 1338, 1381, 1404, 1427, 1460, 1503, 1527, 1620, 1643, 1656, 1689, 1722, 1755]) (len := 187) (by decide +kernel) (by rw [c2_34]; decide) (by rw [c2_34]; decide) (by rw [c2_34]; decide) rfl <|
      (k36 c1 c2_34)
    else
    if c2_35 : ((scV G j1) &&& (63 : Int32)) = (35 : Int32) then Ev.tsw (t := 1536) (off := 1503) (o := 1778) (lo := 0) (hi := 42) (offs := #[187, 200, 263, 286, 309, 332, 356, 379, 402, 435, 498, 541, 594, 647, 670, 703, 736, 769, 802, 825, 838, 851, 864, 877, 950, 1023, 1096, 1159, 1232, 1315, 1338, 1381, 1404, 1427, 1460, 1503, 1527, 1620, 1643, 1656, 1689, 1722, 1755]) (len := 187) (by decide +kernel) (by rw [c2_35]; decide) (by rw [c2_35]; decide) (by rw [c2_35]; decide) rfl <|
      (k37 c1 c2_35)
    else
    if c2_36 : ((scV G j1) &&& (63 : Int32)) = (36 : Int32) then Ev.tsw (t := 1560) (off := 1527) (o := 1778) (lo := 0) (hi := 42) (offs := #[187, 200, 263, 286, 309, 332, 356, 379, 402, 435, 498, 541, 594, 647, 670, 703, 736, 769, 802, 825, 838, 851, 864, 877, 950, 1023, 1096, 1159, 1232, 1315, 1338, 1381, 1404, 1427, 1460, 1503, 1527, 1620, 1643, 1656, 1689, 1722, 1755]) (len := 187) (by decide +kernel) (by rw [c2_36]; decide) (by rw [c2_36]; decide) (by rw [c2_36]; decide) rfl <|
      (k38 c1 c2_36)
    else
    if c2_37 : ((scV G j1) &&& (63 : Int32)) = (37 : Int32) then Ev.tsw (t := 1653) (off := 1620) (o := 1778) (lo := 0) (hi := 42) (offs := #[187, 200, 263, 286, 309, 332, 356, 379, 402, 435, 498, 541, 594, 647, 670, 703, 736, 769, 802, 825, 838, 851, 864, 877, 950, 1023, 1096, 1159, 1232, 1315, 1338, 1381, 1404, 1427, 1460, 1503, 1527, 1620, 1643, 1656, 1689, 1722, 1755]) (len := 187) (by decide +kernel) (by rw [c2_37]; decide) (by rw [c2_37]; decide) (by rw [c2_37]; decide) rfl <|
      (k39 c1 c2_37)
    else
    if c2_38 : ((scV G j1) &&& (63 : Int32)) = (38 : Int32) then Ev.tsw (t := 1676) (off := 1643) (o := 1778) (lo := 0) (hi := 42) (offs := #[187, 200, 263, 286, 309, 332, 356, 379, 402, 435, 498, 541, 594, 647, 670, 703, 736, 769, 802, 825, 838, 851, 864, 877, 950, 1023, 1096, 1159, 1232, 1315, 1338, 1381, 1404, 1427, 1460, 1503, 1527, 1620, 1643, 1656, 1689, 1722, 1755]) (len := 187) (by decide +kernel) (by rw [c2_38]; decide) (by rw [c2_38]; decide) (by rw [c2_38]; decide) rfl <|
      (k40 c1 c2_38)
    else
    if c2_39 : ((scV G j1) &&& (63 : Int32)) = (39 : Int32) then Ev.tsw (t := 1689) (off := 1656) (o := 1778) (lo := 0) (hi := 42) (offs := #[187, 200, 263, 286, 309, 332, 356, 379, 402, 435, 498, 541, 594, 647, 670, 703, 736, 769, 802, 825, 838, 851, 864, 877, 950, 1023, 1096, 1159, 1232, 1315, 1338, 1381, 1404, 1427, 1460, 1503, 1527, 1620, 1643, 1656, 1689, 1722, 1755]) (len := 187) (by decide +kernel) (by rw [c2_39]; decide) (by rw [c2_39]; decide) (by rw [c2_39]; decide) rfl <|
      (k41 c1 c2_39)
    else
    if c2_40 : ((scV G j1) &&& (63 : Int32)) = (40 : Int32) then Ev.tsw (t := 1722) (off := 1689) (o := 1778) (lo := 0) (hi := 42) (offs := #[187, 200, 263, 286, 309, 332, 356, 379, 402, 435, 498, 541, 594, 647, 670, 703, 736, 769, 802, 825, 838, 851, 864, 877, 950, 1023, 1096, 1159, 1232, 1315, 1338, 1381, 1404, 1427, 1460, 1503, 1527, 1620, 1643, 1656, 1689, 1722, 1755]) (len := 187) (by decide +kernel) (by rw [c2_40]; decide) (by rw [c2_40]; decide) (by rw [c2_40]; decide) rfl <|
      (k42 c1 c2_40)
    else
    if c2_41 : ((scV G j1) &&& (63 : Int32)) = (41 : Int32) then Ev.tsw (t := 1755) (off := 1722) (o := 1778) (lo := 0) (hi := 42) (offs := #[187, 200, 263, 286, 309, 332, 356, 379, 402, 435, 498, 541, 594, 647, 670, 703, 736, 769, 802, 825, 838, 851, 864, 877, 950, 1023, 1096, 1159, 1232, 1315, 1338, 1381, 1404, 1427, 1460, 1503, 1527, 1620, 1643, 1656, 1689, 1722, 1755]) (len := 187) (by decide +kernel) (by rw [c2_41]; decide) (by rw [c2_41]; decide) (by rw [c2_41]; decide) rfl <|
      (k43 c1 c2_41)
    else
    if c2_42 : ((scV G j1) &&& (63 : Int32)) = (42 : Int32) then Ev.tsw (t := 1788) (off := 1755) (o := 1778) (lo := 0) (hi := 42) (offs := #[187, 200, 263, 286, 309, 332, 356, 379, 402, 435, 498, 541, 594, 647, 670, 703, 736, 769, 802, 825, 838, 851, 864, 877, 950, 1023, 1096, 1159, 1232, 1315, 1338, 1381, 1404, 1427, 1460, 1503, 1527, 1620, 1643, 1656, 1689, 1722, 1755]) (len := 187) (by decide +kernel) (by rw [c2_42]; decide) (by rw [c2_42]; decide) (by rw [c2_42]; decide) rfl <|
      (k44 c1 c2_42)
    else
    Ev.tswd (t := 1811) (o := 1778) (lo := 0) (hi := 42) (offs := #[187, 200, 263, 286, 309, 332, 356, 379, 402, 435, 498, 541, 594, 647, 670, 703, 736, 769, 802, 825, 838, 851, 864, 877, 950, 1023, 1096, 1159, 1232, 1315, 1338, 1381, 1404, 1427, 1460, 1503, 1527, 1620, 1643, 1656, 1689, 1722, 1755]) (len := 187) (by decide +kernel) (by have qc2_0 := ne_i (v := 0) (0 : Int32) (by decide) c2_0; have qc2_1 := ne_i (v := 1) (1 : Int32) (by decide) c2_1; have qc2_2 := ne_i (v := 2) (2 : Int32) (by decide) c2_2; have qc2_3 := ne_i (v := 3) (3 : Int32) (by decide) c2_3; have qc2_4 := ne_i (v := 4) (4 : Int32) (by decide) c2_4; have qc2_5 := ne_i (v := 5) (5 : Int32) (by decide) c2_5; have qc2_6 := ne_i (v := 6) (6 : Int32) (by decide) c2_6; have qc2_7 := ne_i (v := 7) (7 : Int32) (by decide) c2_7; have qc2_8 := ne_i (v := 8) (8 : Int32) (by decide) c2_8; have qc2_9 := ne_i (v := 9) (9 : Int32) (by decide) c2_9; have qc2_10 := ne_i (v := 10) (10 : Int32) (by decide) c2_10; have qc2_11 := ne_i (v := 11) (11 : Int32) (by decide) c2_11; have qc2_12 := ne_i (v := 12) (12 : Int32) (by decide) c2_12; have qc2_13 := ne_i (v := 13) (13 : Int32) (by decide) c2_13; have qc2_14 := ne_i (v := 14) (14 : Int32) (by decide) c2_14; have qc2_15 := ne_i (v := 15) (15 : Int32) (by decide) c2_15; have qc2_16 := ne_i (v := 16) (16 : Int32) (by decide) c2_16; have qc2_17 := ne_i (v := 17) (17 : Int32) (by decide) c2_17; have qc2_18 := ne_i (v := 18) (18 : Int32) (by decide) c2_18; have qc2_19 := ne_i (v := 19) (19 : Int32) (by decide) c2_19; have qc2_20 := ne_i (v := 20) (20 : Int32) (by decide) c2_20; have qc2_21 := ne_i (v := 21) (21 : Int32) (by decide) c2_21; have qc2_22 := ne_i (v := 22) (22 : Int32) (by decide) c2_22; have qc2_23 := ne_i (v := 23) (23 : Int32) (by decide) c2_23; have qc2_24 := ne_i (v := 24) (24 : Int32) (by decide) c2_24; have qc2_25 := ne_i (v := 25) (25 : Int32) (by decide) c2_25; have qc2_26 := ne_i (v := 26) (26 : Int32) (by decide) c2_26; have qc2_27 := ne_i (v := 27) (27 : Int32) (by decide) c2_27; have qc2_28 := ne_i (v := 28) (28 : Int32) (by decide) c2_28; have qc2_29 := ne_i (v := 29) (29 : Int32) (by decide) c2_29; have qc2_30 := ne_i (v := 30) (30 : Int32) (by decide) c2_30; have qc2_31 := ne_i (v := 31) (31 : Int32) (by decide) c2_31; have qc2_32 := ne_i (v := 32) (32 : Int32) (by decide) c2_32; have qc2_33 := ne_i (v := 33) (33 : Int32) (by decide) c2_33; have qc2_34 := ne_i (v := 34) (34 : Int32) (by decide) c2_34; have qc2_35 := ne_i (v := 35) (35 : Int32) (by decide) c2_35; have qc2_36 := ne_i (v := 36) (36 : Int32) (by decide) c2_36; have qc2_37 := ne_i (v := 37) (37 : Int32) (by decide) c2_37; have qc2_38 := ne_i (v := 38) (38 : Int32) (by decide) c2_38; have qc2_39 := ne_i (v := 39) (39 : Int32) (by decide) c2_39; have qc2_40 := ne_i (v := 40) (40 : Int32) (by decide) c2_40; have qc2_41 := ne_i (v := 41) (41 : Int32) (by decide) c2_41; have qc2_42 := ne_i (v := 42) (42 : Int32) (by decide) c2_42; omega) rfl <|
      (k45 c1 c2_0 c2_1 c2_2 c2_3 c2_4 c2_5 c2_6 c2_7 c2_8 c2_9 c2_10 c2_11 c2_12 c2_13 c2_14 c2_15 c2_16 c2_17 c2_18 c2_19 c2_20 c2_21 c2_22 c2_23 c2_24 c2_25 c2_26 c2_27 c2_28 c2_29 c2_30 c2_31 c2_32 c2_33 c2_34 c2_35 c2_36 c2_37 c2_38 c2_39 c2_40 c2_41 c2_42)
    
  )
theorem b_La_law_220 {G : ev_G} {d k n : Nat} {h : ev_H} {R : Option Value → ev_H → Prop} {x3 : Int32}
  (r1 : ∃ fs, hat h 0 (oC 8 fs))
  (k1 : Ev G (d + 29) 0 0 M_X_status 0 [.ref 0] [] h (fun r h1 => h1.1 ≤ h.1 + 0 → Ev G (d + 30) k n M_La_law 224 [.ref (ev_big + 100), .ref 0, .ref 102, .int x3] (r.toList ++ []) h1 R))
  : Ev G (d + 30) k n M_La_law 220 [.ref (ev_big + 100), .ref 0, .ref 102, .int x3] [] h R :=
  Ev.go (pc' := 221) (ls' := [.ref (ev_big + 100), .ref 0, .ref 102, .int x3]) (st' := [.ref 0]) [.aload_n 1] (by decide +kernel) rfl <|
  Ev.cV0b (M' := M_X_status) (as := []) (rest := []) l_La_13 M_X_status_ok M_X_status_in M_X_status_se (by decide +kernel) r1 rfl rfl rfl (Nat.le_of_ble_eq_true rfl) (Nat.le_of_ble_eq_true rfl) k1
theorem b_La_law_224 {G : ev_G} {d k n : Nat} {h : ev_H} {R : Option Value → ev_H → Prop} {x3 : Int32} {y0 : Int32}
  (r1 : ∃ fs, hat h 102 (oC 9 fs))
  (k1 : Ev G (d + 29) 0 0 M_Mo_status 0 [.ref 102] [] h (fun r h1 => h1.1 ≤ h.1 + 0 → Ev G (d + 30) k n M_La_law 228 [.ref (ev_big + 100), .ref 0, .ref 102, .int x3] (r.toList ++ [.int y0]) h1 R))
  : Ev G (d + 30) k n M_La_law 224 [.ref (ev_big + 100), .ref 0, .ref 102, .int x3] [.int y0] h R :=
  Ev.go (pc' := 225) (ls' := [.ref (ev_big + 100), .ref 0, .ref 102, .int x3]) (st' := [.ref 102, .int y0]) [.aload_n 2] (by decide +kernel) rfl <|
  Ev.cV0b (M' := M_Mo_status) (as := []) (rest := [.int y0]) l_La_17 M_Mo_status_ok M_Mo_status_in M_Mo_status_se (by decide +kernel) r1 rfl rfl rfl (Nat.le_of_ble_eq_true rfl) (Nat.le_of_ble_eq_true rfl) k1
theorem b_La_law_228 {G : ev_G} {d k n : Nat} {h : ev_H} {R : Option Value → ev_H → Prop} {x3 : Int32} {y0 : Int32} {y1 : Int32}
  (k1 : y0 = y1 → Ev G (d + 30) k n M_La_law 1811 [.ref (ev_big + 100), .ref 0, .ref 102, .int x3] [] h R)
  (k2 : ¬ y0 = y1 → R (some (.int (0 : Int32))) h)
  : Ev G (d + 30) k n M_La_law 228 [.ref (ev_big + 100), .ref 0, .ref 102, .int x3] [.int y1, .int y0] h R :=
  Ev.br (i := .if_icmp .eq (1583)) (P := y0 = y1) (t := 1811) (f := 231) (r := []) (by decide +kernel) rfl (fun c1 =>
    (k1 c1)
  ) (fun c1 =>
    Ev.go (pc' := 232) (ls' := [.ref (ev_big + 100), .ref 0, .ref 102, .int x3]) (st' := [.int (0 : Int32)]) [.iconst 0] (by decide +kernel) rfl <|
    Ev.ret (r := (some (.int (0 : Int32)))) (Or.inl ⟨_, rfl, by decide +kernel, _, rfl, rfl⟩) (k2 c1)
  )
theorem b_La_law_233 {G : ev_G} {d k n : Nat} {h : ev_H} {R : Option Value → ev_H → Prop} {x3 : Int32} {j1 : Nat} {j2 : Nat} {j3 : Nat} {j4 : Nat} {j5 : Nat}
  (i1 : ev_ix (x3 + (1 : Int32)) j1 (scL G))
  (i2 : ev_ix (x3 + (2 : Int32)) j2 (scL G))
  (i3 : ev_ix (x3 + (3 : Int32)) j3 (scL G))
  (i4 : ev_ix (x3 + (4 : Int32)) j4 (scL G))
  (i5 : ev_ix (x3 + (5 : Int32)) j5 (scL G))
  (r6 : ∃ fs, hat h 0 (oC 8 fs))
  (k1 : Ev G (d + 29) 0 0 M_X_feed 0 [.ref 0, .int (scV G j1), .int (scV G j2), .int (scV G j3), .int (scV G j4), .int (scV G j5), ev_unk] [] h (fun r h1 => h1.1 ≤ h.1 + 0 → Ev G (d + 30) k n M_La_law 262 [.ref (ev_big + 100), .ref 0, .ref 102, .int x3] (r.toList ++ []) h1 R))
  : Ev G (d + 30) k n M_La_law 233 [.ref (ev_big + 100), .ref 0, .ref 102, .int x3] [] h R :=
  Ev.go (pc' := 238) (ls' := [.ref (ev_big + 100), .ref 0, .ref 102, .int x3]) (st' := [.int (x3 + (1 : Int32)), .ref (ev_big + 100), .ref 0]) [.aload_n 1, .aload_n 0, .iload_n 3, .iconst 1, .iadd] (by decide +kernel) rfl <|
  Ev.scald (j := j1) (by decide +kernel) i1 <|
  Ev.go (pc' := 243) (ls' := [.ref (ev_big + 100), .ref 0, .ref 102, .int x3]) (st' := [.int (x3 + (2 : Int32)), .ref (ev_big + 100), .int (scV G j1), .ref 0]) [.aload_n 0, .iload_n 3, .iconst 2, .iadd] (by decide +kernel) rfl <|
  Ev.scald (j := j2) (by decide +kernel) i2 <|
  Ev.go (pc' := 248) (ls' := [.ref (ev_big + 100), .ref 0, .ref 102, .int x3]) (st' := [.int (x3 + (3 : Int32)), .ref (ev_big + 100), .int (scV G j2), .int (scV G j1), .ref 0]) [.aload_n 0, .iload_n 3, .iconst 3, .iadd] (by decide +kernel) rfl <|
  Ev.scald (j := j3) (by decide +kernel) i3 <|
  Ev.go (pc' := 253) (ls' := [.ref (ev_big + 100), .ref 0, .ref 102, .int x3]) (st' := [.int (x3 + (4 : Int32)), .ref (ev_big + 100), .int (scV G j3), .int (scV G j2), .int (scV G j1), .ref 0]) [.aload_n 0, .iload_n 3, .iconst 4, .iadd] (by decide +kernel) rfl <|
  Ev.scald (j := j4) (by decide +kernel) i4 <|
  Ev.go (pc' := 258) (ls' := [.ref (ev_big + 100), .ref 0, .ref 102, .int x3]) (st' := [.int (x3 + (5 : Int32)), .ref (ev_big + 100), .int (scV G j4), .int (scV G j3), .int (scV G j2), .int (scV G j1), .ref 0]) [.aload_n 0, .iload_n 3, .iconst 5, .iadd] (by decide +kernel) rfl <|
  Ev.scald (j := j5) (by decide +kernel) i5 <|
  Ev.cV0b (M' := M_X_feed) (as := [.int (scV G j1), .int (scV G j2), .int (scV G j3), .int (scV G j4), .int (scV G j5)]) (rest := []) l_La_18 M_X_feed_ok M_X_feed_in M_X_feed_se (by decide +kernel) r6 rfl rfl rfl (Nat.le_of_ble_eq_true rfl) (Nat.le_of_ble_eq_true rfl) k1
theorem b_La_law_262 {G : ev_G} {d k n : Nat} {h : ev_H} {R : Option Value → ev_H → Prop} {x3 : Int32} {y0 : Int32} {j1 : Nat} {j2 : Nat} {j3 : Nat} {j4 : Nat} {j5 : Nat}
  (i1 : ev_ix (x3 + (1 : Int32)) j1 (scL G))
  (i2 : ev_ix (x3 + (2 : Int32)) j2 (scL G))
  (i3 : ev_ix (x3 + (3 : Int32)) j3 (scL G))
  (i4 : ev_ix (x3 + (4 : Int32)) j4 (scL G))
  (i5 : ev_ix (x3 + (5 : Int32)) j5 (scL G))
  (r6 : ∃ fs, hat h 102 (oC 9 fs))
  (k1 : Ev G (d + 29) 0 0 M_Mo_feed 0 [.ref 102, .int (scV G j1), .int (scV G j2), .int (scV G j3), .int (scV G j4), .int (scV G j5)] [] h (fun r h1 => h1.1 ≤ h.1 + 0 → Ev G (d + 30) k n M_La_law 291 [.ref (ev_big + 100), .ref 0, .ref 102, .int x3] (r.toList ++ [.int y0]) h1 R))
  : Ev G (d + 30) k n M_La_law 262 [.ref (ev_big + 100), .ref 0, .ref 102, .int x3] [.int y0] h R :=
  Ev.go (pc' := 267) (ls' := [.ref (ev_big + 100), .ref 0, .ref 102, .int x3]) (st' := [.int (x3 + (1 : Int32)), .ref (ev_big + 100), .ref 102, .int y0]) [.aload_n 2, .aload_n 0, .iload_n 3, .iconst 1, .iadd] (by decide +kernel) rfl <|
  Ev.scald (j := j1) (by decide +kernel) i1 <|
  Ev.go (pc' := 272) (ls' := [.ref (ev_big + 100), .ref 0, .ref 102, .int x3]) (st' := [.int (x3 + (2 : Int32)), .ref (ev_big + 100), .int (scV G j1), .ref 102, .int y0]) [.aload_n 0, .iload_n 3, .iconst 2, .iadd] (by decide +kernel) rfl <|
  Ev.scald (j := j2) (by decide +kernel) i2 <|
  Ev.go (pc' := 277) (ls' := [.ref (ev_big + 100), .ref 0, .ref 102, .int x3]) (st' := [.int (x3 + (3 : Int32)), .ref (ev_big + 100), .int (scV G j2), .int (scV G j1), .ref 102, .int y0]) [.aload_n 0, .iload_n 3, .iconst 3, .iadd] (by decide +kernel) rfl <|
  Ev.scald (j := j3) (by decide +kernel) i3 <|
  Ev.go (pc' := 282) (ls' := [.ref (ev_big + 100), .ref 0, .ref 102, .int x3]) (st' := [.int (x3 + (4 : Int32)), .ref (ev_big + 100), .int (scV G j3), .int (scV G j2), .int (scV G j1), .ref 102, .int y0]) [.aload_n 0, .iload_n 3, .iconst 4, .iadd] (by decide +kernel) rfl <|
  Ev.scald (j := j4) (by decide +kernel) i4 <|
  Ev.go (pc' := 287) (ls' := [.ref (ev_big + 100), .ref 0, .ref 102, .int x3]) (st' := [.int (x3 + (5 : Int32)), .ref (ev_big + 100), .int (scV G j4), .int (scV G j3), .int (scV G j2), .int (scV G j1), .ref 102, .int y0]) [.aload_n 0, .iload_n 3, .iconst 5, .iadd] (by decide +kernel) rfl <|
  Ev.scald (j := j5) (by decide +kernel) i5 <|
  Ev.cV0b (M' := M_Mo_feed) (as := [.int (scV G j1), .int (scV G j2), .int (scV G j3), .int (scV G j4), .int (scV G j5)]) (rest := [.int y0]) l_La_22 M_Mo_feed_ok M_Mo_feed_in M_Mo_feed_se (by decide +kernel) r6 rfl rfl rfl (Nat.le_of_ble_eq_true rfl) (Nat.le_of_ble_eq_true rfl) k1
theorem b_La_law_291 {G : ev_G} {d k n : Nat} {h : ev_H} {R : Option Value → ev_H → Prop} {x3 : Int32} {y0 : Int32} {y1 : Int32}
  (k1 : y0 = y1 → Ev G (d + 30) k n M_La_law 1811 [.ref (ev_big + 100), .ref 0, .ref 102, .int x3] [] h R)
  (k2 : ¬ y0 = y1 → R (some (.int (0 : Int32))) h)
  : Ev G (d + 30) k n M_La_law 291 [.ref (ev_big + 100), .ref 0, .ref 102, .int x3] [.int y1, .int y0] h R :=
  Ev.br (i := .if_icmp .eq (1520)) (P := y0 = y1) (t := 1811) (f := 294) (r := []) (by decide +kernel) rfl (fun c1 =>
    (k1 c1)
  ) (fun c1 =>
    Ev.go (pc' := 295) (ls' := [.ref (ev_big + 100), .ref 0, .ref 102, .int x3]) (st' := [.int (0 : Int32)]) [.iconst 0] (by decide +kernel) rfl <|
    Ev.ret (r := (some (.int (0 : Int32)))) (Or.inl ⟨_, rfl, by decide +kernel, _, rfl, rfl⟩) (k2 c1)
  )
theorem b_La_law_296 {G : ev_G} {d k n : Nat} {h : ev_H} {R : Option Value → ev_H → Prop} {x3 : Int32} {j1 : Nat}
  (i1 : ev_ix (x3 + (1 : Int32)) j1 (scL G))
  (r2 : ∃ fs, hat h 0 (oC 8 fs))
  (k1 : Ev G (d + 29) 6 1505 M_X_load 0 [.ref 0, .int (scV G j1)] [] h (fun r h1 => h1.1 ≤ h.1 + 6 → Ev G (d + 30) k n M_La_law 305 [.ref (ev_big + 100), .ref 0, .ref 102, .int x3] (r.toList ++ []) h1 R))
  : Ev G (d + 30) (6 + k) (1505 + n) M_La_law 296 [.ref (ev_big + 100), .ref 0, .ref 102, .int x3] [] h R :=
  Ev.go (pc' := 301) (ls' := [.ref (ev_big + 100), .ref 0, .ref 102, .int x3]) (st' := [.int (x3 + (1 : Int32)), .ref (ev_big + 100), .ref 0]) [.aload_n 1, .aload_n 0, .iload_n 3, .iconst 1, .iadd] (by decide +kernel) rfl <|
  Ev.scald (j := j1) (by decide +kernel) i1 <|
  Ev.cVb (M' := M_X_load) (as := [.int (scV G j1)]) (rest := []) l_La_23 M_X_load_ok M_X_load_in M_X_load_se (by decide +kernel) r2 rfl rfl rfl (Nat.le_of_ble_eq_true rfl) (Nat.le_of_ble_eq_true rfl) k1
theorem b_La_law_305 {G : ev_G} {d k n : Nat} {h : ev_H} {R : Option Value → ev_H → Prop} {x3 : Int32} {y0 : Int32} {j1 : Nat}
  (i1 : ev_ix (x3 + (1 : Int32)) j1 (scL G))
  (r2 : ∃ fs, hat h 102 (oC 9 fs))
  (k1 : Ev G (d + 29) 0 0 M_Mo_load 0 [.ref 102, .int (scV G j1), ev_unk] [] h (fun r h1 => h1.1 ≤ h.1 + 0 → Ev G (d + 30) k n M_La_law 314 [.ref (ev_big + 100), .ref 0, .ref 102, .int x3] (r.toList ++ [.int y0]) h1 R))
  : Ev G (d + 30) k n M_La_law 305 [.ref (ev_big + 100), .ref 0, .ref 102, .int x3] [.int y0] h R :=
  Ev.go (pc' := 310) (ls' := [.ref (ev_big + 100), .ref 0, .ref 102, .int x3]) (st' := [.int (x3 + (1 : Int32)), .ref (ev_big + 100), .ref 102, .int y0]) [.aload_n 2, .aload_n 0, .iload_n 3, .iconst 1, .iadd] (by decide +kernel) rfl <|
  Ev.scald (j := j1) (by decide +kernel) i1 <|
  Ev.cV0b (M' := M_Mo_load) (as := [.int (scV G j1)]) (rest := [.int y0]) l_La_27 M_Mo_load_ok M_Mo_load_in M_Mo_load_se (by decide +kernel) r2 rfl rfl rfl (Nat.le_of_ble_eq_true rfl) (Nat.le_of_ble_eq_true rfl) k1
theorem b_La_law_314 {G : ev_G} {d k n : Nat} {h : ev_H} {R : Option Value → ev_H → Prop} {x3 : Int32} {y0 : Int32} {y1 : Int32}
  (k1 : y0 = y1 → Ev G (d + 30) k n M_La_law 1811 [.ref (ev_big + 100), .ref 0, .ref 102, .int x3] [] h R)
  (k2 : ¬ y0 = y1 → R (some (.int (0 : Int32))) h)
  : Ev G (d + 30) k n M_La_law 314 [.ref (ev_big + 100), .ref 0, .ref 102, .int x3] [.int y1, .int y0] h R :=
  Ev.br (i := .if_icmp .eq (1497)) (P := y0 = y1) (t := 1811) (f := 317) (r := []) (by decide +kernel) rfl (fun c1 =>
    (k1 c1)
  ) (fun c1 =>
    Ev.go (pc' := 318) (ls' := [.ref (ev_big + 100), .ref 0, .ref 102, .int x3]) (st' := [.int (0 : Int32)]) [.iconst 0] (by decide +kernel) rfl <|
    Ev.ret (r := (some (.int (0 : Int32)))) (Or.inl ⟨_, rfl, by decide +kernel, _, rfl, rfl⟩) (k2 c1)
  )
theorem b_La_law_319 {G : ev_G} {d k n : Nat} {h : ev_H} {R : Option Value → ev_H → Prop} {x3 : Int32} {j1 : Nat}
  (i1 : ev_ix (x3 + (1 : Int32)) j1 (scL G))
  (r2 : ∃ fs, hat h 0 (oC 8 fs))
  (k1 : Ev G (d + 29) 0 0 M_X_fault 0 [.ref 0, .int (scV G j1)] [] h (fun r h1 => h1.1 ≤ h.1 + 0 → Ev G (d + 30) k n M_La_law 328 [.ref (ev_big + 100), .ref 0, .ref 102, .int x3] (r.toList ++ []) h1 R))
  : Ev G (d + 30) k n M_La_law 319 [.ref (ev_big + 100), .ref 0, .ref 102, .int x3] [] h R :=
  Ev.go (pc' := 324) (ls' := [.ref (ev_big + 100), .ref 0, .ref 102, .int x3]) (st' := [.int (x3 + (1 : Int32)), .ref (ev_big + 100), .ref 0]) [.aload_n 1, .aload_n 0, .iload_n 3, .iconst 1, .iadd] (by decide +kernel) rfl <|
  Ev.scald (j := j1) (by decide +kernel) i1 <|
  Ev.cV0b (M' := M_X_fault) (as := [.int (scV G j1)]) (rest := []) l_La_28 M_X_fault_ok M_X_fault_in M_X_fault_se (by decide +kernel) r2 rfl rfl rfl (Nat.le_of_ble_eq_true rfl) (Nat.le_of_ble_eq_true rfl) k1
theorem b_La_law_328 {G : ev_G} {d k n : Nat} {h : ev_H} {R : Option Value → ev_H → Prop} {x3 : Int32} {y0 : Int32} {j1 : Nat}
  (i1 : ev_ix (x3 + (1 : Int32)) j1 (scL G))
  (r2 : ∃ fs, hat h 102 (oC 9 fs))
  (k1 : Ev G (d + 29) 0 0 M_Mo_fault 0 [.ref 102, .int (scV G j1)] [] h (fun r h1 => h1.1 ≤ h.1 + 0 → Ev G (d + 30) k n M_La_law 337 [.ref (ev_big + 100), .ref 0, .ref 102, .int x3] (r.toList ++ [.int y0]) h1 R))
  : Ev G (d + 30) k n M_La_law 328 [.ref (ev_big + 100), .ref 0, .ref 102, .int x3] [.int y0] h R :=
  Ev.go (pc' := 333) (ls' := [.ref (ev_big + 100), .ref 0, .ref 102, .int x3]) (st' := [.int (x3 + (1 : Int32)), .ref (ev_big + 100), .ref 102, .int y0]) [.aload_n 2, .aload_n 0, .iload_n 3, .iconst 1, .iadd] (by decide +kernel) rfl <|
  Ev.scald (j := j1) (by decide +kernel) i1 <|
  Ev.cV0b (M' := M_Mo_fault) (as := [.int (scV G j1)]) (rest := [.int y0]) l_La_31 M_Mo_fault_ok M_Mo_fault_in M_Mo_fault_se (by decide +kernel) r2 rfl rfl rfl (Nat.le_of_ble_eq_true rfl) (Nat.le_of_ble_eq_true rfl) k1
theorem b_La_law_337 {G : ev_G} {d k n : Nat} {h : ev_H} {R : Option Value → ev_H → Prop} {x3 : Int32} {y0 : Int32} {y1 : Int32}
  (k1 : y0 = y1 → Ev G (d + 30) k n M_La_law 1811 [.ref (ev_big + 100), .ref 0, .ref 102, .int x3] [] h R)
  (k2 : ¬ y0 = y1 → R (some (.int (0 : Int32))) h)
  : Ev G (d + 30) k n M_La_law 337 [.ref (ev_big + 100), .ref 0, .ref 102, .int x3] [.int y1, .int y0] h R :=
  Ev.br (i := .if_icmp .eq (1474)) (P := y0 = y1) (t := 1811) (f := 340) (r := []) (by decide +kernel) rfl (fun c1 =>
    (k1 c1)
  ) (fun c1 =>
    Ev.go (pc' := 341) (ls' := [.ref (ev_big + 100), .ref 0, .ref 102, .int x3]) (st' := [.int (0 : Int32)]) [.iconst 0] (by decide +kernel) rfl <|
    Ev.ret (r := (some (.int (0 : Int32)))) (Or.inl ⟨_, rfl, by decide +kernel, _, rfl, rfl⟩) (k2 c1)
  )
theorem b_La_law_342 {G : ev_G} {d k n : Nat} {h : ev_H} {R : Option Value → ev_H → Prop} {x3 : Int32} {j1 : Nat}
  (i1 : ev_ix (x3 + (1 : Int32)) j1 (scL G))
  (r2 : ∃ fs, hat h 0 (oC 8 fs))
  (k1 : Ev G (d + 29) 0 0 M_X_many 0 [.ref 0, .int (scV G j1)] [] h (fun r h1 => h1.1 ≤ h.1 + 0 → Ev G (d + 30) k n M_La_law 351 [.ref (ev_big + 100), .ref 0, .ref 102, .int x3] (r.toList ++ []) h1 R))
  : Ev G (d + 30) k n M_La_law 342 [.ref (ev_big + 100), .ref 0, .ref 102, .int x3] [] h R :=
  Ev.go (pc' := 347) (ls' := [.ref (ev_big + 100), .ref 0, .ref 102, .int x3]) (st' := [.int (x3 + (1 : Int32)), .ref (ev_big + 100), .ref 0]) [.aload_n 1, .aload_n 0, .iload_n 3, .iconst 1, .iadd] (by decide +kernel) rfl <|
  Ev.scald (j := j1) (by decide +kernel) i1 <|
  Ev.cV0b (M' := M_X_many) (as := [.int (scV G j1)]) (rest := []) l_La_32 M_X_many_ok M_X_many_in M_X_many_se (by decide +kernel) r2 rfl rfl rfl (Nat.le_of_ble_eq_true rfl) (Nat.le_of_ble_eq_true rfl) k1
theorem b_La_law_351 {G : ev_G} {d k n : Nat} {h : ev_H} {R : Option Value → ev_H → Prop} {x3 : Int32} {y0 : Int32} {j1 : Nat}
  (i1 : ev_ix (x3 + (1 : Int32)) j1 (scL G))
  (r2 : ∃ fs, hat h 102 (oC 9 fs))
  (k1 : Ev G (d + 29) 0 0 M_Mo_many_I 0 [.ref 102, .int (scV G j1)] [] h (fun r h1 => h1.1 ≤ h.1 + 0 → Ev G (d + 30) k n M_La_law 360 [.ref (ev_big + 100), .ref 0, .ref 102, .int x3] (r.toList ++ [.int y0]) h1 R))
  : Ev G (d + 30) k n M_La_law 351 [.ref (ev_big + 100), .ref 0, .ref 102, .int x3] [.int y0] h R :=
  Ev.go (pc' := 356) (ls' := [.ref (ev_big + 100), .ref 0, .ref 102, .int x3]) (st' := [.int (x3 + (1 : Int32)), .ref (ev_big + 100), .ref 102, .int y0]) [.aload_n 2, .aload_n 0, .iload_n 3, .iconst 1, .iadd] (by decide +kernel) rfl <|
  Ev.scald (j := j1) (by decide +kernel) i1 <|
  Ev.cV0b (M' := M_Mo_many_I) (as := [.int (scV G j1)]) (rest := [.int y0]) l_La_35 M_Mo_many_I_ok M_Mo_many_I_in M_Mo_many_I_se (by decide +kernel) r2 rfl rfl rfl (Nat.le_of_ble_eq_true rfl) (Nat.le_of_ble_eq_true rfl) k1
theorem b_La_law_360 {G : ev_G} {d k n : Nat} {h : ev_H} {R : Option Value → ev_H → Prop} {x3 : Int32} {y0 : Int32} {y1 : Int32}
  (k1 : y0 = y1 → Ev G (d + 30) k n M_La_law 1811 [.ref (ev_big + 100), .ref 0, .ref 102, .int x3] [] h R)
  (k2 : ¬ y0 = y1 → R (some (.int (0 : Int32))) h)
  : Ev G (d + 30) k n M_La_law 360 [.ref (ev_big + 100), .ref 0, .ref 102, .int x3] [.int y1, .int y0] h R :=
  Ev.br (i := .if_icmp .eq (1451)) (P := y0 = y1) (t := 1811) (f := 363) (r := []) (by decide +kernel) rfl (fun c1 =>
    (k1 c1)
  ) (fun c1 =>
    Ev.go (pc' := 364) (ls' := [.ref (ev_big + 100), .ref 0, .ref 102, .int x3]) (st' := [.int (0 : Int32)]) [.iconst 0] (by decide +kernel) rfl <|
    Ev.ret (r := (some (.int (0 : Int32)))) (Or.inl ⟨_, rfl, by decide +kernel, _, rfl, rfl⟩) (k2 c1)
  )
theorem b_La_law_365 {G : ev_G} {d k n : Nat} {h : ev_H} {R : Option Value → ev_H → Prop} {x3 : Int32} {j1 : Nat}
  (i1 : ev_ix (x3 + (1 : Int32)) j1 (scL G))
  (r2 : ∃ fs, hat h 0 (oC 8 fs))
  (k1 : Ev G (d + 29) 0 0 M_X_code 0 [.ref 0, .int (scV G j1)] [] h (fun r h1 => h1.1 ≤ h.1 + 0 → Ev G (d + 30) k n M_La_law 374 [.ref (ev_big + 100), .ref 0, .ref 102, .int x3] (r.toList ++ []) h1 R))
  : Ev G (d + 30) k n M_La_law 365 [.ref (ev_big + 100), .ref 0, .ref 102, .int x3] [] h R :=
  Ev.go (pc' := 370) (ls' := [.ref (ev_big + 100), .ref 0, .ref 102, .int x3]) (st' := [.int (x3 + (1 : Int32)), .ref (ev_big + 100), .ref 0]) [.aload_n 1, .aload_n 0, .iload_n 3, .iconst 1, .iadd] (by decide +kernel) rfl <|
  Ev.scald (j := j1) (by decide +kernel) i1 <|
  Ev.cV0b (M' := M_X_code) (as := [.int (scV G j1)]) (rest := []) l_La_36 M_X_code_ok M_X_code_in M_X_code_se (by decide +kernel) r2 rfl rfl rfl (Nat.le_of_ble_eq_true rfl) (Nat.le_of_ble_eq_true rfl) k1
theorem b_La_law_374 {G : ev_G} {d k n : Nat} {h : ev_H} {R : Option Value → ev_H → Prop} {x3 : Int32} {y0 : Int64} {j1 : Nat}
  (i1 : ev_ix (x3 + (1 : Int32)) j1 (scL G))
  (r2 : ∃ fs, hat h 102 (oC 9 fs))
  (k1 : Ev G (d + 29) 0 0 M_Mo_code 0 [.ref 102, .int (scV G j1)] [] h (fun r h1 => h1.1 ≤ h.1 + 0 → Ev G (d + 30) k n M_La_law 383 [.ref (ev_big + 100), .ref 0, .ref 102, .int x3] (r.toList ++ [.long y0]) h1 R))
  : Ev G (d + 30) k n M_La_law 374 [.ref (ev_big + 100), .ref 0, .ref 102, .int x3] [.long y0] h R :=
  Ev.go (pc' := 379) (ls' := [.ref (ev_big + 100), .ref 0, .ref 102, .int x3]) (st' := [.int (x3 + (1 : Int32)), .ref (ev_big + 100), .ref 102, .long y0]) [.aload_n 2, .aload_n 0, .iload_n 3, .iconst 1, .iadd] (by decide +kernel) rfl <|
  Ev.scald (j := j1) (by decide +kernel) i1 <|
  Ev.cV0b (M' := M_Mo_code) (as := [.int (scV G j1)]) (rest := [.long y0]) l_La_40 M_Mo_code_ok M_Mo_code_in M_Mo_code_se (by decide +kernel) r2 rfl rfl rfl (Nat.le_of_ble_eq_true rfl) (Nat.le_of_ble_eq_true rfl) k1
theorem b_La_law_383 {G : ev_G} {d k n : Nat} {h : ev_H} {R : Option Value → ev_H → Prop} {x3 : Int32} {y0 : Int64} {y1 : Int64}
  (k1 : y0 = y1 → Ev G (d + 30) k n M_La_law 1811 [.ref (ev_big + 100), .ref 0, .ref 102, .int x3] [] h R)
  (k2 : ¬ y0 = y1 → R (some (.int (0 : Int32))) h)
  : Ev G (d + 30) k n M_La_law 383 [.ref (ev_big + 100), .ref 0, .ref 102, .int x3] [.long y1, .long y0] h R :=
  Ev.brl (c := .eq) (o := 1427) (P := y0 = y1) (t := 1811) (f := 387) (t1 := 1811) (by decide +kernel) (by decide +kernel) rfl rfl (fun c1 =>
    (k1 c1)
  ) (fun c1 =>
    Ev.go (pc' := 388) (ls' := [.ref (ev_big + 100), .ref 0, .ref 102, .int x3]) (st' := [.int (0 : Int32)]) [.iconst 0] (by decide +kernel) rfl <|
    Ev.ret (r := (some (.int (0 : Int32)))) (Or.inl ⟨_, rfl, by decide +kernel, _, rfl, rfl⟩) (k2 c1)
  )
theorem b_La_law_389 {G : ev_G} {d k n : Nat} {h : ev_H} {R : Option Value → ev_H → Prop} {x3 : Int32} {j1 : Nat}
  (i1 : ev_ix (x3 + (1 : Int32)) j1 (scL G))
  (r2 : ∃ fs, hat h 0 (oC 8 fs))
  (k1 : Ev G (d + 29) 0 0 M_X_tagOf 0 [.ref 0, .int (scV G j1)] [] h (fun r h1 => h1.1 ≤ h.1 + 0 → Ev G (d + 30) k n M_La_law 398 [.ref (ev_big + 100), .ref 0, .ref 102, .int x3] (r.toList ++ []) h1 R))
  : Ev G (d + 30) k n M_La_law 389 [.ref (ev_big + 100), .ref 0, .ref 102, .int x3] [] h R :=
  Ev.go (pc' := 394) (ls' := [.ref (ev_big + 100), .ref 0, .ref 102, .int x3]) (st' := [.int (x3 + (1 : Int32)), .ref (ev_big + 100), .ref 0]) [.aload_n 1, .aload_n 0, .iload_n 3, .iconst 1, .iadd] (by decide +kernel) rfl <|
  Ev.scald (j := j1) (by decide +kernel) i1 <|
  Ev.cV0b (M' := M_X_tagOf) (as := [.int (scV G j1)]) (rest := []) l_La_41 M_X_tagOf_ok M_X_tagOf_in M_X_tagOf_se (by decide +kernel) r2 rfl rfl rfl (Nat.le_of_ble_eq_true rfl) (Nat.le_of_ble_eq_true rfl) k1
theorem b_La_law_398 {G : ev_G} {d k n : Nat} {h : ev_H} {R : Option Value → ev_H → Prop} {x3 : Int32} {y0 : Int32} {j1 : Nat}
  (i1 : ev_ix (x3 + (1 : Int32)) j1 (scL G))
  (r2 : ∃ fs, hat h 102 (oC 9 fs))
  (k1 : Ev G (d + 29) 0 0 M_Mo_tagOf 0 [.ref 102, .int (scV G j1)] [] h (fun r h1 => h1.1 ≤ h.1 + 0 → Ev G (d + 30) k n M_La_law 407 [.ref (ev_big + 100), .ref 0, .ref 102, .int x3] (r.toList ++ [.int y0]) h1 R))
  : Ev G (d + 30) k n M_La_law 398 [.ref (ev_big + 100), .ref 0, .ref 102, .int x3] [.int y0] h R :=
  Ev.go (pc' := 403) (ls' := [.ref (ev_big + 100), .ref 0, .ref 102, .int x3]) (st' := [.int (x3 + (1 : Int32)), .ref (ev_big + 100), .ref 102, .int y0]) [.aload_n 2, .aload_n 0, .iload_n 3, .iconst 1, .iadd] (by decide +kernel) rfl <|
  Ev.scald (j := j1) (by decide +kernel) i1 <|
  Ev.cV0b (M' := M_Mo_tagOf) (as := [.int (scV G j1)]) (rest := [.int y0]) l_La_44 M_Mo_tagOf_ok M_Mo_tagOf_in M_Mo_tagOf_se (by decide +kernel) r2 rfl rfl rfl (Nat.le_of_ble_eq_true rfl) (Nat.le_of_ble_eq_true rfl) k1
theorem b_La_law_407 {G : ev_G} {d k n : Nat} {h : ev_H} {R : Option Value → ev_H → Prop} {x3 : Int32} {y0 : Int32} {y1 : Int32}
  (k1 : y0 = y1 → Ev G (d + 30) k n M_La_law 1811 [.ref (ev_big + 100), .ref 0, .ref 102, .int x3] [] h R)
  (k2 : ¬ y0 = y1 → R (some (.int (0 : Int32))) h)
  : Ev G (d + 30) k n M_La_law 407 [.ref (ev_big + 100), .ref 0, .ref 102, .int x3] [.int y1, .int y0] h R :=
  Ev.br (i := .if_icmp .eq (1404)) (P := y0 = y1) (t := 1811) (f := 410) (r := []) (by decide +kernel) rfl (fun c1 =>
    (k1 c1)
  ) (fun c1 =>
    Ev.go (pc' := 411) (ls' := [.ref (ev_big + 100), .ref 0, .ref 102, .int x3]) (st' := [.int (0 : Int32)]) [.iconst 0] (by decide +kernel) rfl <|
    Ev.ret (r := (some (.int (0 : Int32)))) (Or.inl ⟨_, rfl, by decide +kernel, _, rfl, rfl⟩) (k2 c1)
  )
theorem b_La_law_412 {G : ev_G} {d k n : Nat} {h : ev_H} {R : Option Value → ev_H → Prop} {x3 : Int32} {j1 : Nat}
  (i1 : ev_ix (x3 + (1 : Int32)) j1 (scL G))
  (r2 : ∃ fs, hat h 0 (oC 8 fs))
  (k1 : Ev G (d + 29) 0 0 M_X_breadth 0 [.ref 0, .int (scV G j1)] [] h (fun r h1 => h1.1 ≤ h.1 + 0 → Ev G (d + 30) k n M_La_law 421 [.ref (ev_big + 100), .ref 0, .ref 102, .int x3] (r.toList ++ []) h1 R))
  : Ev G (d + 30) k n M_La_law 412 [.ref (ev_big + 100), .ref 0, .ref 102, .int x3] [] h R :=
  Ev.go (pc' := 417) (ls' := [.ref (ev_big + 100), .ref 0, .ref 102, .int x3]) (st' := [.int (x3 + (1 : Int32)), .ref (ev_big + 100), .ref 0]) [.aload_n 1, .aload_n 0, .iload_n 3, .iconst 1, .iadd] (by decide +kernel) rfl <|
  Ev.scald (j := j1) (by decide +kernel) i1 <|
  Ev.cV0b (M' := M_X_breadth) (as := [.int (scV G j1)]) (rest := []) l_La_45 M_X_breadth_ok M_X_breadth_in M_X_breadth_se (by decide +kernel) r2 rfl rfl rfl (Nat.le_of_ble_eq_true rfl) (Nat.le_of_ble_eq_true rfl) k1
theorem b_La_law_421 {G : ev_G} {d k n : Nat} {h : ev_H} {R : Option Value → ev_H → Prop} {x3 : Int32} {y0 : Int32} {j1 : Nat}
  (i1 : ev_ix (x3 + (1 : Int32)) j1 (scL G))
  (r2 : ∃ fs, hat h 102 (oC 9 fs))
  (k1 : Ev G (d + 29) 0 0 M_Mo_breadth 0 [.ref 102, .int (scV G j1)] [] h (fun r h1 => h1.1 ≤ h.1 + 0 → Ev G (d + 30) k n M_La_law 430 [.ref (ev_big + 100), .ref 0, .ref 102, .int x3] (r.toList ++ [.int y0]) h1 R))
  : Ev G (d + 30) k n M_La_law 421 [.ref (ev_big + 100), .ref 0, .ref 102, .int x3] [.int y0] h R :=
  Ev.go (pc' := 426) (ls' := [.ref (ev_big + 100), .ref 0, .ref 102, .int x3]) (st' := [.int (x3 + (1 : Int32)), .ref (ev_big + 100), .ref 102, .int y0]) [.aload_n 2, .aload_n 0, .iload_n 3, .iconst 1, .iadd] (by decide +kernel) rfl <|
  Ev.scald (j := j1) (by decide +kernel) i1 <|
  Ev.cV0b (M' := M_Mo_breadth) (as := [.int (scV G j1)]) (rest := [.int y0]) l_La_48 M_Mo_breadth_ok M_Mo_breadth_in M_Mo_breadth_se (by decide +kernel) r2 rfl rfl rfl (Nat.le_of_ble_eq_true rfl) (Nat.le_of_ble_eq_true rfl) k1
theorem b_La_law_430 {G : ev_G} {d k n : Nat} {h : ev_H} {R : Option Value → ev_H → Prop} {x3 : Int32} {y0 : Int32} {y1 : Int32}
  (k1 : y0 = y1 → Ev G (d + 30) k n M_La_law 1811 [.ref (ev_big + 100), .ref 0, .ref 102, .int x3] [] h R)
  (k2 : ¬ y0 = y1 → R (some (.int (0 : Int32))) h)
  : Ev G (d + 30) k n M_La_law 430 [.ref (ev_big + 100), .ref 0, .ref 102, .int x3] [.int y1, .int y0] h R :=
  Ev.br (i := .if_icmp .eq (1381)) (P := y0 = y1) (t := 1811) (f := 433) (r := []) (by decide +kernel) rfl (fun c1 =>
    (k1 c1)
  ) (fun c1 =>
    Ev.go (pc' := 434) (ls' := [.ref (ev_big + 100), .ref 0, .ref 102, .int x3]) (st' := [.int (0 : Int32)]) [.iconst 0] (by decide +kernel) rfl <|
    Ev.ret (r := (some (.int (0 : Int32)))) (Or.inl ⟨_, rfl, by decide +kernel, _, rfl, rfl⟩) (k2 c1)
  )
theorem b_La_law_435 {G : ev_G} {d k n : Nat} {h : ev_H} {R : Option Value → ev_H → Prop} {x3 : Int32} {j1 : Nat} {j2 : Nat}
  (i1 : ev_ix (x3 + (1 : Int32)) j1 (scL G))
  (i2 : ev_ix (x3 + (2 : Int32)) j2 (scL G))
  (r3 : ∃ fs, hat h 0 (oC 8 fs))
  (k1 : Ev G (d + 29) 0 0 M_X_key 0 [.ref 0, .int (scV G j1), .int (scV G j2)] [] h (fun r h1 => h1.1 ≤ h.1 + 0 → Ev G (d + 30) k n M_La_law 449 [.ref (ev_big + 100), .ref 0, .ref 102, .int x3] (r.toList ++ []) h1 R))
  : Ev G (d + 30) k n M_La_law 435 [.ref (ev_big + 100), .ref 0, .ref 102, .int x3] [] h R :=
  Ev.go (pc' := 440) (ls' := [.ref (ev_big + 100), .ref 0, .ref 102, .int x3]) (st' := [.int (x3 + (1 : Int32)), .ref (ev_big + 100), .ref 0]) [.aload_n 1, .aload_n 0, .iload_n 3, .iconst 1, .iadd] (by decide +kernel) rfl <|
  Ev.scald (j := j1) (by decide +kernel) i1 <|
  Ev.go (pc' := 445) (ls' := [.ref (ev_big + 100), .ref 0, .ref 102, .int x3]) (st' := [.int (x3 + (2 : Int32)), .ref (ev_big + 100), .int (scV G j1), .ref 0]) [.aload_n 0, .iload_n 3, .iconst 2, .iadd] (by decide +kernel) rfl <|
  Ev.scald (j := j2) (by decide +kernel) i2 <|
  Ev.cV0b (M' := M_X_key) (as := [.int (scV G j1), .int (scV G j2)]) (rest := []) l_La_49 M_X_key_ok M_X_key_in M_X_key_se (by decide +kernel) r3 rfl rfl rfl (Nat.le_of_ble_eq_true rfl) (Nat.le_of_ble_eq_true rfl) k1
theorem b_La_law_449 {G : ev_G} {d k n : Nat} {h : ev_H} {R : Option Value → ev_H → Prop} {x3 : Int32} {y0 : Int32} {j1 : Nat} {j2 : Nat}
  (i1 : ev_ix (x3 + (1 : Int32)) j1 (scL G))
  (i2 : ev_ix (x3 + (2 : Int32)) j2 (scL G))
  (r3 : ∃ fs, hat h 102 (oC 9 fs))
  (k1 : Ev G (d + 29) 0 0 M_Mo_key_II 0 [.ref 102, .int (scV G j1), .int (scV G j2)] [] h (fun r h1 => h1.1 ≤ h.1 + 0 → Ev G (d + 30) k n M_La_law 463 [.ref (ev_big + 100), .ref 0, .ref 102, .int x3] (r.toList ++ [.int y0]) h1 R))
  : Ev G (d + 30) k n M_La_law 449 [.ref (ev_big + 100), .ref 0, .ref 102, .int x3] [.int y0] h R :=
  Ev.go (pc' := 454) (ls' := [.ref (ev_big + 100), .ref 0, .ref 102, .int x3]) (st' := [.int (x3 + (1 : Int32)), .ref (ev_big + 100), .ref 102, .int y0]) [.aload_n 2, .aload_n 0, .iload_n 3, .iconst 1, .iadd] (by decide +kernel) rfl <|
  Ev.scald (j := j1) (by decide +kernel) i1 <|
  Ev.go (pc' := 459) (ls' := [.ref (ev_big + 100), .ref 0, .ref 102, .int x3]) (st' := [.int (x3 + (2 : Int32)), .ref (ev_big + 100), .int (scV G j1), .ref 102, .int y0]) [.aload_n 0, .iload_n 3, .iconst 2, .iadd] (by decide +kernel) rfl <|
  Ev.scald (j := j2) (by decide +kernel) i2 <|
  Ev.cV0b (M' := M_Mo_key_II) (as := [.int (scV G j1), .int (scV G j2)]) (rest := [.int y0]) l_La_53 M_Mo_key_II_ok M_Mo_key_II_in M_Mo_key_II_se (by decide +kernel) r3 rfl rfl rfl (Nat.le_of_ble_eq_true rfl) (Nat.le_of_ble_eq_true rfl) k1
theorem b_La_law_463 {G : ev_G} {d k n : Nat} {h : ev_H} {R : Option Value → ev_H → Prop} {x3 : Int32} {y0 : Int32} {y1 : Int32}
  (k1 : y0 = y1 → Ev G (d + 30) k n M_La_law 1811 [.ref (ev_big + 100), .ref 0, .ref 102, .int x3] [] h R)
  (k2 : ¬ y0 = y1 → R (some (.int (0 : Int32))) h)
  : Ev G (d + 30) k n M_La_law 463 [.ref (ev_big + 100), .ref 0, .ref 102, .int x3] [.int y1, .int y0] h R :=
  Ev.br (i := .if_icmp .eq (1348)) (P := y0 = y1) (t := 1811) (f := 466) (r := []) (by decide +kernel) rfl (fun c1 =>
    (k1 c1)
  ) (fun c1 =>
    Ev.go (pc' := 467) (ls' := [.ref (ev_big + 100), .ref 0, .ref 102, .int x3]) (st' := [.int (0 : Int32)]) [.iconst 0] (by decide +kernel) rfl <|
    Ev.ret (r := (some (.int (0 : Int32)))) (Or.inl ⟨_, rfl, by decide +kernel, _, rfl, rfl⟩) (k2 c1)
  )
theorem b_La_law_468 {G : ev_G} {d k n : Nat} {h : ev_H} {R : Option Value → ev_H → Prop} {x3 : Int32} {j1 : Nat} {j2 : Nat} {j3 : Nat}
  (i1 : ev_ix (x3 + (1 : Int32)) j1 (scL G))
  (i2 : ev_ix (x3 + (2 : Int32)) j2 (scL G))
  (i3 : ev_ix (x3 + (3 : Int32)) j3 (scL G))
  (r4 : ∃ fs, hat h 0 (oC 8 fs))
  (k1 : Ev G (d + 29) 0 0 M_X_far 0 [.ref 0, .int (scV G j1), .long (((scV G j2).toInt64 <<< ((32 : Int32).toInt64 &&& 63)) ||| ((scV G j3).toInt64 &&& (4294967295 : Int64))), ev_unk] [] h (fun r h1 => h1.1 ≤ h.1 + 0 → Ev G (d + 30) k n M_La_law 497 [.ref (ev_big + 100), .ref 0, .ref 102, .int x3] (r.toList ++ []) h1 R))
  : Ev G (d + 30) k n M_La_law 468 [.ref (ev_big + 100), .ref 0, .ref 102, .int x3] [] h R :=
  Ev.go (pc' := 473) (ls' := [.ref (ev_big + 100), .ref 0, .ref 102, .int x3]) (st' := [.int (x3 + (1 : Int32)), .ref (ev_big + 100), .ref 0]) [.aload_n 1, .aload_n 0, .iload_n 3, .iconst 1, .iadd] (by decide +kernel) rfl <|
  Ev.scald (j := j1) (by decide +kernel) i1 <|
  Ev.go (pc' := 478) (ls' := [.ref (ev_big + 100), .ref 0, .ref 102, .int x3]) (st' := [.int (x3 + (2 : Int32)), .ref (ev_big + 100), .int (scV G j1), .ref 0]) [.aload_n 0, .iload_n 3, .iconst 2, .iadd] (by decide +kernel) rfl <|
  Ev.scald (j := j2) (by decide +kernel) i2 <|
  Ev.go (pc' := 487) (ls' := [.ref (ev_big + 100), .ref 0, .ref 102, .int x3]) (st' := [.int (x3 + (3 : Int32)), .ref (ev_big + 100), .long ((scV G j2).toInt64 <<< ((32 : Int32).toInt64 &&& 63)), .int (scV G j1), .ref 0]) [.i2l, .bipush (32), .lshl, .aload_n 0, .iload_n 3, .iconst 3, .iadd] (by decide +kernel) rfl <|
  Ev.scald (j := j3) (by decide +kernel) i3 <|
  Ev.go (pc' := 489) (ls' := [.ref (ev_big + 100), .ref 0, .ref 102, .int x3]) (st' := [.long (scV G j3).toInt64, .long ((scV G j2).toInt64 <<< ((32 : Int32).toInt64 &&& 63)), .int (scV G j1), .ref 0]) [.i2l] (by decide +kernel) rfl <|
  Ev.ldc2 k_La_54 (by decide +kernel) <|
  Ev.go (pc' := 494) (ls' := [.ref (ev_big + 100), .ref 0, .ref 102, .int x3]) (st' := [.long (((scV G j2).toInt64 <<< ((32 : Int32).toInt64 &&& 63)) ||| ((scV G j3).toInt64 &&& (4294967295 : Int64))), .int (scV G j1), .ref 0]) [.land, .lor] (by decide +kernel) rfl <|
  Ev.cV0b (M' := M_X_far) (as := [.int (scV G j1), .long (((scV G j2).toInt64 <<< ((32 : Int32).toInt64 &&& 63)) ||| ((scV G j3).toInt64 &&& (4294967295 : Int64)))]) (rest := []) l_La_56 M_X_far_ok M_X_far_in M_X_far_se (by decide +kernel) r4 rfl rfl rfl (Nat.le_of_ble_eq_true rfl) (Nat.le_of_ble_eq_true rfl) k1
theorem b_La_law_497 {G : ev_G} {d k n : Nat} {h : ev_H} {R : Option Value → ev_H → Prop} {x3 : Int32} {y0 : Int32} {j1 : Nat} {j2 : Nat} {j3 : Nat}
  (i1 : ev_ix (x3 + (1 : Int32)) j1 (scL G))
  (i2 : ev_ix (x3 + (2 : Int32)) j2 (scL G))
  (i3 : ev_ix (x3 + (3 : Int32)) j3 (scL G))
  (r4 : ∃ fs, hat h 102 (oC 9 fs))
  (k1 : Ev G (d + 29) 0 0 M_Mo_far 0 [.ref 102, .int (scV G j1), .long (((scV G j2).toInt64 <<< ((32 : Int32).toInt64 &&& 63)) ||| ((scV G j3).toInt64 &&& (4294967295 : Int64))), ev_unk] [] h (fun r h1 => h1.1 ≤ h.1 + 0 → Ev G (d + 30) k n M_La_law 526 [.ref (ev_big + 100), .ref 0, .ref 102, .int x3] (r.toList ++ [.int y0]) h1 R))
  : Ev G (d + 30) k n M_La_law 497 [.ref (ev_big + 100), .ref 0, .ref 102, .int x3] [.int y0] h R :=
  Ev.go (pc' := 502) (ls' := [.ref (ev_big + 100), .ref 0, .ref 102, .int x3]) (st' := [.int (x3 + (1 : Int32)), .ref (ev_big + 100), .ref 102, .int y0]) [.aload_n 2, .aload_n 0, .iload_n 3, .iconst 1, .iadd] (by decide +kernel) rfl <|
  Ev.scald (j := j1) (by decide +kernel) i1 <|
  Ev.go (pc' := 507) (ls' := [.ref (ev_big + 100), .ref 0, .ref 102, .int x3]) (st' := [.int (x3 + (2 : Int32)), .ref (ev_big + 100), .int (scV G j1), .ref 102, .int y0]) [.aload_n 0, .iload_n 3, .iconst 2, .iadd] (by decide +kernel) rfl <|
  Ev.scald (j := j2) (by decide +kernel) i2 <|
  Ev.go (pc' := 516) (ls' := [.ref (ev_big + 100), .ref 0, .ref 102, .int x3]) (st' := [.int (x3 + (3 : Int32)), .ref (ev_big + 100), .long ((scV G j2).toInt64 <<< ((32 : Int32).toInt64 &&& 63)), .int (scV G j1), .ref 102, .int y0]) [.i2l, .bipush (32), .lshl, .aload_n 0, .iload_n 3, .iconst 3, .iadd] (by decide +kernel) rfl <|
  Ev.scald (j := j3) (by decide +kernel) i3 <|
  Ev.go (pc' := 518) (ls' := [.ref (ev_big + 100), .ref 0, .ref 102, .int x3]) (st' := [.long (scV G j3).toInt64, .long ((scV G j2).toInt64 <<< ((32 : Int32).toInt64 &&& 63)), .int (scV G j1), .ref 102, .int y0]) [.i2l] (by decide +kernel) rfl <|
  Ev.ldc2 k_La_54 (by decide +kernel) <|
  Ev.go (pc' := 523) (ls' := [.ref (ev_big + 100), .ref 0, .ref 102, .int x3]) (st' := [.long (((scV G j2).toInt64 <<< ((32 : Int32).toInt64 &&& 63)) ||| ((scV G j3).toInt64 &&& (4294967295 : Int64))), .int (scV G j1), .ref 102, .int y0]) [.land, .lor] (by decide +kernel) rfl <|
  Ev.cV0b (M' := M_Mo_far) (as := [.int (scV G j1), .long (((scV G j2).toInt64 <<< ((32 : Int32).toInt64 &&& 63)) ||| ((scV G j3).toInt64 &&& (4294967295 : Int64)))]) (rest := [.int y0]) l_La_60 M_Mo_far_ok M_Mo_far_in M_Mo_far_se (by decide +kernel) r4 rfl rfl rfl (Nat.le_of_ble_eq_true rfl) (Nat.le_of_ble_eq_true rfl) k1
theorem b_La_law_526 {G : ev_G} {d k n : Nat} {h : ev_H} {R : Option Value → ev_H → Prop} {x3 : Int32} {y0 : Int32} {y1 : Int32}
  (k1 : y0 = y1 → Ev G (d + 30) k n M_La_law 1811 [.ref (ev_big + 100), .ref 0, .ref 102, .int x3] [] h R)
  (k2 : ¬ y0 = y1 → R (some (.int (0 : Int32))) h)
  : Ev G (d + 30) k n M_La_law 526 [.ref (ev_big + 100), .ref 0, .ref 102, .int x3] [.int y1, .int y0] h R :=
  Ev.br (i := .if_icmp .eq (1285)) (P := y0 = y1) (t := 1811) (f := 529) (r := []) (by decide +kernel) rfl (fun c1 =>
    (k1 c1)
  ) (fun c1 =>
    Ev.go (pc' := 530) (ls' := [.ref (ev_big + 100), .ref 0, .ref 102, .int x3]) (st' := [.int (0 : Int32)]) [.iconst 0] (by decide +kernel) rfl <|
    Ev.ret (r := (some (.int (0 : Int32)))) (Or.inl ⟨_, rfl, by decide +kernel, _, rfl, rfl⟩) (k2 c1)
  )
theorem b_La_law_531 {G : ev_G} {d k n : Nat} {h : ev_H} {R : Option Value → ev_H → Prop} {x3 : Int32} {j1 : Nat} {j2 : Nat} {j3 : Nat}
  (i1 : ev_ix (x3 + (1 : Int32)) j1 (scL G))
  (i2 : ev_ix (x3 + (2 : Int32)) j2 (scL G))
  (i3 : ev_ix (x3 + (3 : Int32)) j3 (scL G))
  (r4 : ∃ fs, hat h 0 (oC 8 fs))
  (k1 : Ev G (d + 29) 0 0 M_X_measure 0 [.ref 0, .int (scV G j1), .int (scV G j2), .int (scV G j3)] [] h (fun r h1 => h1.1 ≤ h.1 + 0 → Ev G (d + 30) k n M_La_law 550 [.ref (ev_big + 100), .ref 0, .ref 102, .int x3] (r.toList ++ []) h1 R))
  : Ev G (d + 30) k n M_La_law 531 [.ref (ev_big + 100), .ref 0, .ref 102, .int x3] [] h R :=
  Ev.go (pc' := 536) (ls' := [.ref (ev_big + 100), .ref 0, .ref 102, .int x3]) (st' := [.int (x3 + (1 : Int32)), .ref (ev_big + 100), .ref 0]) [.aload_n 1, .aload_n 0, .iload_n 3, .iconst 1, .iadd] (by decide +kernel) rfl <|
  Ev.scald (j := j1) (by decide +kernel) i1 <|
  Ev.go (pc' := 541) (ls' := [.ref (ev_big + 100), .ref 0, .ref 102, .int x3]) (st' := [.int (x3 + (2 : Int32)), .ref (ev_big + 100), .int (scV G j1), .ref 0]) [.aload_n 0, .iload_n 3, .iconst 2, .iadd] (by decide +kernel) rfl <|
  Ev.scald (j := j2) (by decide +kernel) i2 <|
  Ev.go (pc' := 546) (ls' := [.ref (ev_big + 100), .ref 0, .ref 102, .int x3]) (st' := [.int (x3 + (3 : Int32)), .ref (ev_big + 100), .int (scV G j2), .int (scV G j1), .ref 0]) [.aload_n 0, .iload_n 3, .iconst 3, .iadd] (by decide +kernel) rfl <|
  Ev.scald (j := j3) (by decide +kernel) i3 <|
  Ev.cV0b (M' := M_X_measure) (as := [.int (scV G j1), .int (scV G j2), .int (scV G j3)]) (rest := []) l_La_61 M_X_measure_ok M_X_measure_in M_X_measure_se (by decide +kernel) r4 rfl rfl rfl (Nat.le_of_ble_eq_true rfl) (Nat.le_of_ble_eq_true rfl) k1
theorem b_La_law_550 {G : ev_G} {d k n : Nat} {h : ev_H} {R : Option Value → ev_H → Prop} {x3 : Int32} {y0 : Int32} {j1 : Nat} {j2 : Nat} {j3 : Nat}
  (i1 : ev_ix (x3 + (1 : Int32)) j1 (scL G))
  (i2 : ev_ix (x3 + (2 : Int32)) j2 (scL G))
  (i3 : ev_ix (x3 + (3 : Int32)) j3 (scL G))
  (r4 : ∃ fs, hat h 102 (oC 9 fs))
  (k1 : Ev G (d + 29) 0 0 M_Mo_measure 0 [.ref 102, .int (scV G j1), .int (scV G j2), .int (scV G j3), ev_unk, ev_unk] [] h (fun r h1 => h1.1 ≤ h.1 + 0 → Ev G (d + 30) k n M_La_law 569 [.ref (ev_big + 100), .ref 0, .ref 102, .int x3] (r.toList ++ [.int y0]) h1 R))
  : Ev G (d + 30) k n M_La_law 550 [.ref (ev_big + 100), .ref 0, .ref 102, .int x3] [.int y0] h R :=
  Ev.go (pc' := 555) (ls' := [.ref (ev_big + 100), .ref 0, .ref 102, .int x3]) (st' := [.int (x3 + (1 : Int32)), .ref (ev_big + 100), .ref 102, .int y0]) [.aload_n 2, .aload_n 0, .iload_n 3, .iconst 1, .iadd] (by decide +kernel) rfl <|
  Ev.scald (j := j1) (by decide +kernel) i1 <|
  Ev.go (pc' := 560) (ls' := [.ref (ev_big + 100), .ref 0, .ref 102, .int x3]) (st' := [.int (x3 + (2 : Int32)), .ref (ev_big + 100), .int (scV G j1), .ref 102, .int y0]) [.aload_n 0, .iload_n 3, .iconst 2, .iadd] (by decide +kernel) rfl <|
  Ev.scald (j := j2) (by decide +kernel) i2 <|
  Ev.go (pc' := 565) (ls' := [.ref (ev_big + 100), .ref 0, .ref 102, .int x3]) (st' := [.int (x3 + (3 : Int32)), .ref (ev_big + 100), .int (scV G j2), .int (scV G j1), .ref 102, .int y0]) [.aload_n 0, .iload_n 3, .iconst 3, .iadd] (by decide +kernel) rfl <|
  Ev.scald (j := j3) (by decide +kernel) i3 <|
  Ev.cV0b (M' := M_Mo_measure) (as := [.int (scV G j1), .int (scV G j2), .int (scV G j3)]) (rest := [.int y0]) l_La_65 M_Mo_measure_ok M_Mo_measure_in M_Mo_measure_se (by decide +kernel) r4 rfl rfl rfl (Nat.le_of_ble_eq_true rfl) (Nat.le_of_ble_eq_true rfl) k1
theorem b_La_law_569 {G : ev_G} {d k n : Nat} {h : ev_H} {R : Option Value → ev_H → Prop} {x3 : Int32} {y0 : Int32} {y1 : Int32}
  (k1 : y0 = y1 → Ev G (d + 30) k n M_La_law 1811 [.ref (ev_big + 100), .ref 0, .ref 102, .int x3] [] h R)
  (k2 : ¬ y0 = y1 → R (some (.int (0 : Int32))) h)
  : Ev G (d + 30) k n M_La_law 569 [.ref (ev_big + 100), .ref 0, .ref 102, .int x3] [.int y1, .int y0] h R :=
  Ev.br (i := .if_icmp .eq (1242)) (P := y0 = y1) (t := 1811) (f := 572) (r := []) (by decide +kernel) rfl (fun c1 =>
    (k1 c1)
  ) (fun c1 =>
    Ev.go (pc' := 573) (ls' := [.ref (ev_big + 100), .ref 0, .ref 102, .int x3]) (st' := [.int (0 : Int32)]) [.iconst 0] (by decide +kernel) rfl <|
    Ev.ret (r := (some (.int (0 : Int32)))) (Or.inl ⟨_, rfl, by decide +kernel, _, rfl, rfl⟩) (k2 c1)
  )
theorem b_La_law_574 {G : ev_G} {d k n : Nat} {h : ev_H} {R : Option Value → ev_H → Prop} {x3 : Int32} {j1 : Nat} {j2 : Nat}
  (i1 : ev_ix (x3 + (1 : Int32)) j1 (scL G))
  (i2 : ev_ix (x3 + (2 : Int32)) j2 (scL G))
  (r3 : ∃ fs, hat h 0 (oC 8 fs))
  (k1 : Ev G (d + 29) 0 0 M_X_find 0 [.ref 0, .long (((scV G j1).toInt64 <<< ((32 : Int32).toInt64 &&& 63)) ||| ((scV G j2).toInt64 &&& (4294967295 : Int64))), ev_unk, ev_unk] [] h (fun r h1 => h1.1 ≤ h.1 + 0 → Ev G (d + 30) k n M_La_law 598 [.ref (ev_big + 100), .ref 0, .ref 102, .int x3] (r.toList ++ []) h1 R))
  : Ev G (d + 30) k n M_La_law 574 [.ref (ev_big + 100), .ref 0, .ref 102, .int x3] [] h R :=
  Ev.go (pc' := 579) (ls' := [.ref (ev_big + 100), .ref 0, .ref 102, .int x3]) (st' := [.int (x3 + (1 : Int32)), .ref (ev_big + 100), .ref 0]) [.aload_n 1, .aload_n 0, .iload_n 3, .iconst 1, .iadd] (by decide +kernel) rfl <|
  Ev.scald (j := j1) (by decide +kernel) i1 <|
  Ev.go (pc' := 588) (ls' := [.ref (ev_big + 100), .ref 0, .ref 102, .int x3]) (st' := [.int (x3 + (2 : Int32)), .ref (ev_big + 100), .long ((scV G j1).toInt64 <<< ((32 : Int32).toInt64 &&& 63)), .ref 0]) [.i2l, .bipush (32), .lshl, .aload_n 0, .iload_n 3, .iconst 2, .iadd] (by decide +kernel) rfl <|
  Ev.scald (j := j2) (by decide +kernel) i2 <|
  Ev.go (pc' := 590) (ls' := [.ref (ev_big + 100), .ref 0, .ref 102, .int x3]) (st' := [.long (scV G j2).toInt64, .long ((scV G j1).toInt64 <<< ((32 : Int32).toInt64 &&& 63)), .ref 0]) [.i2l] (by decide +kernel) rfl <|
  Ev.ldc2 k_La_54 (by decide +kernel) <|
  Ev.go (pc' := 595) (ls' := [.ref (ev_big + 100), .ref 0, .ref 102, .int x3]) (st' := [.long (((scV G j1).toInt64 <<< ((32 : Int32).toInt64 &&& 63)) ||| ((scV G j2).toInt64 &&& (4294967295 : Int64))), .ref 0]) [.land, .lor] (by decide +kernel) rfl <|
  Ev.cV0b (M' := M_X_find) (as := [.long (((scV G j1).toInt64 <<< ((32 : Int32).toInt64 &&& 63)) ||| ((scV G j2).toInt64 &&& (4294967295 : Int64)))]) (rest := []) l_La_66 M_X_find_ok M_X_find_in M_X_find_se (by decide +kernel) r3 rfl rfl rfl (Nat.le_of_ble_eq_true rfl) (Nat.le_of_ble_eq_true rfl) k1
theorem b_La_law_598 {G : ev_G} {d k n : Nat} {h : ev_H} {R : Option Value → ev_H → Prop} {x3 : Int32} {y0 : Int32} {j1 : Nat} {j2 : Nat}
  (i1 : ev_ix (x3 + (1 : Int32)) j1 (scL G))
  (i2 : ev_ix (x3 + (2 : Int32)) j2 (scL G))
  (r3 : ∃ fs, hat h 102 (oC 9 fs))
  (k1 : Ev G (d + 29) 0 0 M_Mo_find 0 [.ref 102, .long (((scV G j1).toInt64 <<< ((32 : Int32).toInt64 &&& 63)) ||| ((scV G j2).toInt64 &&& (4294967295 : Int64))), ev_unk] [] h (fun r h1 => h1.1 ≤ h.1 + 0 → Ev G (d + 30) k n M_La_law 622 [.ref (ev_big + 100), .ref 0, .ref 102, .int x3] (r.toList ++ [.int y0]) h1 R))
  : Ev G (d + 30) k n M_La_law 598 [.ref (ev_big + 100), .ref 0, .ref 102, .int x3] [.int y0] h R :=
  Ev.go (pc' := 603) (ls' := [.ref (ev_big + 100), .ref 0, .ref 102, .int x3]) (st' := [.int (x3 + (1 : Int32)), .ref (ev_big + 100), .ref 102, .int y0]) [.aload_n 2, .aload_n 0, .iload_n 3, .iconst 1, .iadd] (by decide +kernel) rfl <|
  Ev.scald (j := j1) (by decide +kernel) i1 <|
  Ev.go (pc' := 612) (ls' := [.ref (ev_big + 100), .ref 0, .ref 102, .int x3]) (st' := [.int (x3 + (2 : Int32)), .ref (ev_big + 100), .long ((scV G j1).toInt64 <<< ((32 : Int32).toInt64 &&& 63)), .ref 102, .int y0]) [.i2l, .bipush (32), .lshl, .aload_n 0, .iload_n 3, .iconst 2, .iadd] (by decide +kernel) rfl <|
  Ev.scald (j := j2) (by decide +kernel) i2 <|
  Ev.go (pc' := 614) (ls' := [.ref (ev_big + 100), .ref 0, .ref 102, .int x3]) (st' := [.long (scV G j2).toInt64, .long ((scV G j1).toInt64 <<< ((32 : Int32).toInt64 &&& 63)), .ref 102, .int y0]) [.i2l] (by decide +kernel) rfl <|
  Ev.ldc2 k_La_54 (by decide +kernel) <|
  Ev.go (pc' := 619) (ls' := [.ref (ev_big + 100), .ref 0, .ref 102, .int x3]) (st' := [.long (((scV G j1).toInt64 <<< ((32 : Int32).toInt64 &&& 63)) ||| ((scV G j2).toInt64 &&& (4294967295 : Int64))), .ref 102, .int y0]) [.land, .lor] (by decide +kernel) rfl <|
  Ev.cV0b (M' := M_Mo_find) (as := [.long (((scV G j1).toInt64 <<< ((32 : Int32).toInt64 &&& 63)) ||| ((scV G j2).toInt64 &&& (4294967295 : Int64)))]) (rest := [.int y0]) l_La_70 M_Mo_find_ok M_Mo_find_in M_Mo_find_se (by decide +kernel) r3 rfl rfl rfl (Nat.le_of_ble_eq_true rfl) (Nat.le_of_ble_eq_true rfl) k1
theorem b_La_law_622 {G : ev_G} {d k n : Nat} {h : ev_H} {R : Option Value → ev_H → Prop} {x3 : Int32} {y0 : Int32} {y1 : Int32}
  (k1 : y0 = y1 → Ev G (d + 30) k n M_La_law 1811 [.ref (ev_big + 100), .ref 0, .ref 102, .int x3] [] h R)
  (k2 : ¬ y0 = y1 → R (some (.int (0 : Int32))) h)
  : Ev G (d + 30) k n M_La_law 622 [.ref (ev_big + 100), .ref 0, .ref 102, .int x3] [.int y1, .int y0] h R :=
  Ev.br (i := .if_icmp .eq (1189)) (P := y0 = y1) (t := 1811) (f := 625) (r := []) (by decide +kernel) rfl (fun c1 =>
    (k1 c1)
  ) (fun c1 =>
    Ev.go (pc' := 626) (ls' := [.ref (ev_big + 100), .ref 0, .ref 102, .int x3]) (st' := [.int (0 : Int32)]) [.iconst 0] (by decide +kernel) rfl <|
    Ev.ret (r := (some (.int (0 : Int32)))) (Or.inl ⟨_, rfl, by decide +kernel, _, rfl, rfl⟩) (k2 c1)
  )
theorem b_La_law_627 {G : ev_G} {d k n : Nat} {h : ev_H} {R : Option Value → ev_H → Prop} {x3 : Int32} {j1 : Nat} {j2 : Nat}
  (i1 : ev_ix (x3 + (1 : Int32)) j1 (scL G))
  (i2 : ev_ix (x3 + (2 : Int32)) j2 (scL G))
  (r3 : ∃ fs, hat h 0 (oC 8 fs))
  (k1 : Ev G (d + 29) 0 0 M_X_add 0 [.ref 0, .long (((scV G j1).toInt64 <<< ((32 : Int32).toInt64 &&& 63)) ||| ((scV G j2).toInt64 &&& (4294967295 : Int64))), ev_unk] [] h (fun r h1 => h1.1 ≤ h.1 + 0 → Ev G (d + 30) k n M_La_law 651 [.ref (ev_big + 100), .ref 0, .ref 102, .int x3] (r.toList ++ []) h1 R))
  : Ev G (d + 30) k n M_La_law 627 [.ref (ev_big + 100), .ref 0, .ref 102, .int x3] [] h R :=
  Ev.go (pc' := 632) (ls' := [.ref (ev_big + 100), .ref 0, .ref 102, .int x3]) (st' := [.int (x3 + (1 : Int32)), .ref (ev_big + 100), .ref 0]) [.aload_n 1, .aload_n 0, .iload_n 3, .iconst 1, .iadd] (by decide +kernel) rfl <|
  Ev.scald (j := j1) (by decide +kernel) i1 <|
  Ev.go (pc' := 641) (ls' := [.ref (ev_big + 100), .ref 0, .ref 102, .int x3]) (st' := [.int (x3 + (2 : Int32)), .ref (ev_big + 100), .long ((scV G j1).toInt64 <<< ((32 : Int32).toInt64 &&& 63)), .ref 0]) [.i2l, .bipush (32), .lshl, .aload_n 0, .iload_n 3, .iconst 2, .iadd] (by decide +kernel) rfl <|
  Ev.scald (j := j2) (by decide +kernel) i2 <|
  Ev.go (pc' := 643) (ls' := [.ref (ev_big + 100), .ref 0, .ref 102, .int x3]) (st' := [.long (scV G j2).toInt64, .long ((scV G j1).toInt64 <<< ((32 : Int32).toInt64 &&& 63)), .ref 0]) [.i2l] (by decide +kernel) rfl <|
  Ev.ldc2 k_La_54 (by decide +kernel) <|
  Ev.go (pc' := 648) (ls' := [.ref (ev_big + 100), .ref 0, .ref 102, .int x3]) (st' := [.long (((scV G j1).toInt64 <<< ((32 : Int32).toInt64 &&& 63)) ||| ((scV G j2).toInt64 &&& (4294967295 : Int64))), .ref 0]) [.land, .lor] (by decide +kernel) rfl <|
  Ev.cV0b (M' := M_X_add) (as := [.long (((scV G j1).toInt64 <<< ((32 : Int32).toInt64 &&& 63)) ||| ((scV G j2).toInt64 &&& (4294967295 : Int64)))]) (rest := []) l_La_71 M_X_add_ok M_X_add_in M_X_add_se (by decide +kernel) r3 rfl rfl rfl (Nat.le_of_ble_eq_true rfl) (Nat.le_of_ble_eq_true rfl) k1
theorem b_La_law_651 {G : ev_G} {d k n : Nat} {h : ev_H} {R : Option Value → ev_H → Prop} {x3 : Int32} {y0 : Int32} {j1 : Nat} {j2 : Nat}
  (i1 : ev_ix (x3 + (1 : Int32)) j1 (scL G))
  (i2 : ev_ix (x3 + (2 : Int32)) j2 (scL G))
  (r3 : ∃ fs, hat h 102 (oC 9 fs))
  (k1 : Ev G (d + 29) 0 0 M_Mo_add 0 [.ref 102, .long (((scV G j1).toInt64 <<< ((32 : Int32).toInt64 &&& 63)) ||| ((scV G j2).toInt64 &&& (4294967295 : Int64))), ev_unk] [] h (fun r h1 => h1.1 ≤ h.1 + 0 → Ev G (d + 30) k n M_La_law 675 [.ref (ev_big + 100), .ref 0, .ref 102, .int x3] (r.toList ++ [.int y0]) h1 R))
  : Ev G (d + 30) k n M_La_law 651 [.ref (ev_big + 100), .ref 0, .ref 102, .int x3] [.int y0] h R :=
  Ev.go (pc' := 656) (ls' := [.ref (ev_big + 100), .ref 0, .ref 102, .int x3]) (st' := [.int (x3 + (1 : Int32)), .ref (ev_big + 100), .ref 102, .int y0]) [.aload_n 2, .aload_n 0, .iload_n 3, .iconst 1, .iadd] (by decide +kernel) rfl <|
  Ev.scald (j := j1) (by decide +kernel) i1 <|
  Ev.go (pc' := 665) (ls' := [.ref (ev_big + 100), .ref 0, .ref 102, .int x3]) (st' := [.int (x3 + (2 : Int32)), .ref (ev_big + 100), .long ((scV G j1).toInt64 <<< ((32 : Int32).toInt64 &&& 63)), .ref 102, .int y0]) [.i2l, .bipush (32), .lshl, .aload_n 0, .iload_n 3, .iconst 2, .iadd] (by decide +kernel) rfl <|
  Ev.scald (j := j2) (by decide +kernel) i2 <|
  Ev.go (pc' := 667) (ls' := [.ref (ev_big + 100), .ref 0, .ref 102, .int x3]) (st' := [.long (scV G j2).toInt64, .long ((scV G j1).toInt64 <<< ((32 : Int32).toInt64 &&& 63)), .ref 102, .int y0]) [.i2l] (by decide +kernel) rfl <|
  Ev.ldc2 k_La_54 (by decide +kernel) <|
  Ev.go (pc' := 672) (ls' := [.ref (ev_big + 100), .ref 0, .ref 102, .int x3]) (st' := [.long (((scV G j1).toInt64 <<< ((32 : Int32).toInt64 &&& 63)) ||| ((scV G j2).toInt64 &&& (4294967295 : Int64))), .ref 102, .int y0]) [.land, .lor] (by decide +kernel) rfl <|
  Ev.cV0b (M' := M_Mo_add) (as := [.long (((scV G j1).toInt64 <<< ((32 : Int32).toInt64 &&& 63)) ||| ((scV G j2).toInt64 &&& (4294967295 : Int64)))]) (rest := [.int y0]) l_La_74 M_Mo_add_ok M_Mo_add_in M_Mo_add_se (by decide +kernel) r3 rfl rfl rfl (Nat.le_of_ble_eq_true rfl) (Nat.le_of_ble_eq_true rfl) k1
theorem b_La_law_675 {G : ev_G} {d k n : Nat} {h : ev_H} {R : Option Value → ev_H → Prop} {x3 : Int32} {y0 : Int32} {y1 : Int32}
  (k1 : y0 = y1 → Ev G (d + 30) k n M_La_law 1811 [.ref (ev_big + 100), .ref 0, .ref 102, .int x3] [] h R)
  (k2 : ¬ y0 = y1 → R (some (.int (0 : Int32))) h)
  : Ev G (d + 30) k n M_La_law 675 [.ref (ev_big + 100), .ref 0, .ref 102, .int x3] [.int y1, .int y0] h R :=
  Ev.br (i := .if_icmp .eq (1136)) (P := y0 = y1) (t := 1811) (f := 678) (r := []) (by decide +kernel) rfl (fun c1 =>
    (k1 c1)
  ) (fun c1 =>
    Ev.go (pc' := 679) (ls' := [.ref (ev_big + 100), .ref 0, .ref 102, .int x3]) (st' := [.int (0 : Int32)]) [.iconst 0] (by decide +kernel) rfl <|
    Ev.ret (r := (some (.int (0 : Int32)))) (Or.inl ⟨_, rfl, by decide +kernel, _, rfl, rfl⟩) (k2 c1)
  )
theorem b_La_law_680 {G : ev_G} {d k n : Nat} {h : ev_H} {R : Option Value → ev_H → Prop} {x3 : Int32} {j1 : Nat}
  (i1 : ev_ix (x3 + (1 : Int32)) j1 (scL G))
  (r2 : ∃ fs, hat h 0 (oC 8 fs))
  (k1 : Ev G (d + 29) 0 0 M_X_strike 0 [.ref 0, .int (scV G j1)] [] h (fun r h1 => h1.1 ≤ h.1 + 0 → Ev G (d + 30) k n M_La_law 689 [.ref (ev_big + 100), .ref 0, .ref 102, .int x3] (r.toList ++ []) h1 R))
  : Ev G (d + 30) k n M_La_law 680 [.ref (ev_big + 100), .ref 0, .ref 102, .int x3] [] h R :=
  Ev.go (pc' := 685) (ls' := [.ref (ev_big + 100), .ref 0, .ref 102, .int x3]) (st' := [.int (x3 + (1 : Int32)), .ref (ev_big + 100), .ref 0]) [.aload_n 1, .aload_n 0, .iload_n 3, .iconst 1, .iadd] (by decide +kernel) rfl <|
  Ev.scald (j := j1) (by decide +kernel) i1 <|
  Ev.cV0b (M' := M_X_strike) (as := [.int (scV G j1)]) (rest := []) l_La_75 M_X_strike_ok M_X_strike_in M_X_strike_se (by decide +kernel) r2 rfl rfl rfl (Nat.le_of_ble_eq_true rfl) (Nat.le_of_ble_eq_true rfl) k1
theorem b_La_law_689 {G : ev_G} {d k n : Nat} {h : ev_H} {R : Option Value → ev_H → Prop} {x3 : Int32} {y0 : Int32} {j1 : Nat}
  (i1 : ev_ix (x3 + (1 : Int32)) j1 (scL G))
  (r2 : ∃ fs, hat h 102 (oC 9 fs))
  (k1 : Ev G (d + 29) 0 0 M_Mo_strike 0 [.ref 102, .int (scV G j1), ev_unk] [] h (fun r h1 => h1.1 ≤ h.1 + 0 → Ev G (d + 30) k n M_La_law 698 [.ref (ev_big + 100), .ref 0, .ref 102, .int x3] (r.toList ++ [.int y0]) h1 R))
  : Ev G (d + 30) k n M_La_law 689 [.ref (ev_big + 100), .ref 0, .ref 102, .int x3] [.int y0] h R :=
  Ev.go (pc' := 694) (ls' := [.ref (ev_big + 100), .ref 0, .ref 102, .int x3]) (st' := [.int (x3 + (1 : Int32)), .ref (ev_big + 100), .ref 102, .int y0]) [.aload_n 2, .aload_n 0, .iload_n 3, .iconst 1, .iadd] (by decide +kernel) rfl <|
  Ev.scald (j := j1) (by decide +kernel) i1 <|
  Ev.cV0b (M' := M_Mo_strike) (as := [.int (scV G j1)]) (rest := [.int y0]) l_La_78 M_Mo_strike_ok M_Mo_strike_in M_Mo_strike_se (by decide +kernel) r2 rfl rfl rfl (Nat.le_of_ble_eq_true rfl) (Nat.le_of_ble_eq_true rfl) k1
theorem b_La_law_698 {G : ev_G} {d k n : Nat} {h : ev_H} {R : Option Value → ev_H → Prop} {x3 : Int32} {y0 : Int32} {y1 : Int32}
  (k1 : y0 = y1 → Ev G (d + 30) k n M_La_law 1811 [.ref (ev_big + 100), .ref 0, .ref 102, .int x3] [] h R)
  (k2 : ¬ y0 = y1 → R (some (.int (0 : Int32))) h)
  : Ev G (d + 30) k n M_La_law 698 [.ref (ev_big + 100), .ref 0, .ref 102, .int x3] [.int y1, .int y0] h R :=
  Ev.br (i := .if_icmp .eq (1113)) (P := y0 = y1) (t := 1811) (f := 701) (r := []) (by decide +kernel) rfl (fun c1 =>
    (k1 c1)
  ) (fun c1 =>
    Ev.go (pc' := 702) (ls' := [.ref (ev_big + 100), .ref 0, .ref 102, .int x3]) (st' := [.int (0 : Int32)]) [.iconst 0] (by decide +kernel) rfl <|
    Ev.ret (r := (some (.int (0 : Int32)))) (Or.inl ⟨_, rfl, by decide +kernel, _, rfl, rfl⟩) (k2 c1)
  )
theorem b_La_law_703 {G : ev_G} {d k n : Nat} {h : ev_H} {R : Option Value → ev_H → Prop} {x3 : Int32} {j1 : Nat} {j2 : Nat}
  (i1 : ev_ix (x3 + (1 : Int32)) j1 (scL G))
  (i2 : ev_ix (x3 + (2 : Int32)) j2 (scL G))
  (r3 : ∃ fs, hat h 0 (oC 8 fs))
  (k1 : Ev G (d + 29) 0 0 M_X_flip 0 [.ref 0, .int (scV G j1), .int (scV G j2), ev_unk, ev_unk] [] h (fun r h1 => h1.1 ≤ h.1 + 0 → Ev G (d + 30) k n M_La_law 717 [.ref (ev_big + 100), .ref 0, .ref 102, .int x3] (r.toList ++ []) h1 R))
  : Ev G (d + 30) k n M_La_law 703 [.ref (ev_big + 100), .ref 0, .ref 102, .int x3] [] h R :=
  Ev.go (pc' := 708) (ls' := [.ref (ev_big + 100), .ref 0, .ref 102, .int x3]) (st' := [.int (x3 + (1 : Int32)), .ref (ev_big + 100), .ref 0]) [.aload_n 1, .aload_n 0, .iload_n 3, .iconst 1, .iadd] (by decide +kernel) rfl <|
  Ev.scald (j := j1) (by decide +kernel) i1 <|
  Ev.go (pc' := 713) (ls' := [.ref (ev_big + 100), .ref 0, .ref 102, .int x3]) (st' := [.int (x3 + (2 : Int32)), .ref (ev_big + 100), .int (scV G j1), .ref 0]) [.aload_n 0, .iload_n 3, .iconst 2, .iadd] (by decide +kernel) rfl <|
  Ev.scald (j := j2) (by decide +kernel) i2 <|
  Ev.cV0b (M' := M_X_flip) (as := [.int (scV G j1), .int (scV G j2)]) (rest := []) l_La_79 M_X_flip_ok M_X_flip_in M_X_flip_se (by decide +kernel) r3 rfl rfl rfl (Nat.le_of_ble_eq_true rfl) (Nat.le_of_ble_eq_true rfl) k1
theorem b_La_law_717 {G : ev_G} {d k n : Nat} {h : ev_H} {R : Option Value → ev_H → Prop} {x3 : Int32} {y0 : Int32} {j1 : Nat} {j2 : Nat}
  (i1 : ev_ix (x3 + (1 : Int32)) j1 (scL G))
  (i2 : ev_ix (x3 + (2 : Int32)) j2 (scL G))
  (r3 : ∃ fs, hat h 102 (oC 9 fs))
  (k1 : Ev G (d + 29) 0 0 M_Mo_flip 0 [.ref 102, .int (scV G j1), .int (scV G j2), ev_unk, ev_unk] [] h (fun r h1 => h1.1 ≤ h.1 + 0 → Ev G (d + 30) k n M_La_law 731 [.ref (ev_big + 100), .ref 0, .ref 102, .int x3] (r.toList ++ [.int y0]) h1 R))
  : Ev G (d + 30) k n M_La_law 717 [.ref (ev_big + 100), .ref 0, .ref 102, .int x3] [.int y0] h R :=
  Ev.go (pc' := 722) (ls' := [.ref (ev_big + 100), .ref 0, .ref 102, .int x3]) (st' := [.int (x3 + (1 : Int32)), .ref (ev_big + 100), .ref 102, .int y0]) [.aload_n 2, .aload_n 0, .iload_n 3, .iconst 1, .iadd] (by decide +kernel) rfl <|
  Ev.scald (j := j1) (by decide +kernel) i1 <|
  Ev.go (pc' := 727) (ls' := [.ref (ev_big + 100), .ref 0, .ref 102, .int x3]) (st' := [.int (x3 + (2 : Int32)), .ref (ev_big + 100), .int (scV G j1), .ref 102, .int y0]) [.aload_n 0, .iload_n 3, .iconst 2, .iadd] (by decide +kernel) rfl <|
  Ev.scald (j := j2) (by decide +kernel) i2 <|
  Ev.cV0b (M' := M_Mo_flip) (as := [.int (scV G j1), .int (scV G j2)]) (rest := [.int y0]) l_La_82 M_Mo_flip_ok M_Mo_flip_in M_Mo_flip_se (by decide +kernel) r3 rfl rfl rfl (Nat.le_of_ble_eq_true rfl) (Nat.le_of_ble_eq_true rfl) k1
theorem b_La_law_731 {G : ev_G} {d k n : Nat} {h : ev_H} {R : Option Value → ev_H → Prop} {x3 : Int32} {y0 : Int32} {y1 : Int32}
  (k1 : y0 = y1 → Ev G (d + 30) k n M_La_law 1811 [.ref (ev_big + 100), .ref 0, .ref 102, .int x3] [] h R)
  (k2 : ¬ y0 = y1 → R (some (.int (0 : Int32))) h)
  : Ev G (d + 30) k n M_La_law 731 [.ref (ev_big + 100), .ref 0, .ref 102, .int x3] [.int y1, .int y0] h R :=
  Ev.br (i := .if_icmp .eq (1080)) (P := y0 = y1) (t := 1811) (f := 734) (r := []) (by decide +kernel) rfl (fun c1 =>
    (k1 c1)
  ) (fun c1 =>
    Ev.go (pc' := 735) (ls' := [.ref (ev_big + 100), .ref 0, .ref 102, .int x3]) (st' := [.int (0 : Int32)]) [.iconst 0] (by decide +kernel) rfl <|
    Ev.ret (r := (some (.int (0 : Int32)))) (Or.inl ⟨_, rfl, by decide +kernel, _, rfl, rfl⟩) (k2 c1)
  )
theorem b_La_law_736 {G : ev_G} {d k n : Nat} {h : ev_H} {R : Option Value → ev_H → Prop} {x3 : Int32} {j1 : Nat} {j2 : Nat}
  (i1 : ev_ix (x3 + (1 : Int32)) j1 (scL G))
  (i2 : ev_ix (x3 + (2 : Int32)) j2 (scL G))
  (r3 : ∃ fs, hat h 0 (oC 8 fs))
  (k1 : Ev G (d + 29) 0 0 M_X_swap 0 [.ref 0, .int (scV G j1), .int (scV G j2)] [] h (fun r h1 => h1.1 ≤ h.1 + 0 → Ev G (d + 30) k n M_La_law 750 [.ref (ev_big + 100), .ref 0, .ref 102, .int x3] (r.toList ++ []) h1 R))
  : Ev G (d + 30) k n M_La_law 736 [.ref (ev_big + 100), .ref 0, .ref 102, .int x3] [] h R :=
  Ev.go (pc' := 741) (ls' := [.ref (ev_big + 100), .ref 0, .ref 102, .int x3]) (st' := [.int (x3 + (1 : Int32)), .ref (ev_big + 100), .ref 0]) [.aload_n 1, .aload_n 0, .iload_n 3, .iconst 1, .iadd] (by decide +kernel) rfl <|
  Ev.scald (j := j1) (by decide +kernel) i1 <|
  Ev.go (pc' := 746) (ls' := [.ref (ev_big + 100), .ref 0, .ref 102, .int x3]) (st' := [.int (x3 + (2 : Int32)), .ref (ev_big + 100), .int (scV G j1), .ref 0]) [.aload_n 0, .iload_n 3, .iconst 2, .iadd] (by decide +kernel) rfl <|
  Ev.scald (j := j2) (by decide +kernel) i2 <|
  Ev.cV0b (M' := M_X_swap) (as := [.int (scV G j1), .int (scV G j2)]) (rest := []) l_La_83 M_X_swap_ok M_X_swap_in M_X_swap_se (by decide +kernel) r3 rfl rfl rfl (Nat.le_of_ble_eq_true rfl) (Nat.le_of_ble_eq_true rfl) k1
theorem b_La_law_750 {G : ev_G} {d k n : Nat} {h : ev_H} {R : Option Value → ev_H → Prop} {x3 : Int32} {y0 : Int32} {j1 : Nat} {j2 : Nat}
  (i1 : ev_ix (x3 + (1 : Int32)) j1 (scL G))
  (i2 : ev_ix (x3 + (2 : Int32)) j2 (scL G))
  (r3 : ∃ fs, hat h 102 (oC 9 fs))
  (k1 : Ev G (d + 29) 0 0 M_Mo_swap 0 [.ref 102, .int (scV G j1), .int (scV G j2), ev_unk, ev_unk] [] h (fun r h1 => h1.1 ≤ h.1 + 0 → Ev G (d + 30) k n M_La_law 764 [.ref (ev_big + 100), .ref 0, .ref 102, .int x3] (r.toList ++ [.int y0]) h1 R))
  : Ev G (d + 30) k n M_La_law 750 [.ref (ev_big + 100), .ref 0, .ref 102, .int x3] [.int y0] h R :=
  Ev.go (pc' := 755) (ls' := [.ref (ev_big + 100), .ref 0, .ref 102, .int x3]) (st' := [.int (x3 + (1 : Int32)), .ref (ev_big + 100), .ref 102, .int y0]) [.aload_n 2, .aload_n 0, .iload_n 3, .iconst 1, .iadd] (by decide +kernel) rfl <|
  Ev.scald (j := j1) (by decide +kernel) i1 <|
  Ev.go (pc' := 760) (ls' := [.ref (ev_big + 100), .ref 0, .ref 102, .int x3]) (st' := [.int (x3 + (2 : Int32)), .ref (ev_big + 100), .int (scV G j1), .ref 102, .int y0]) [.aload_n 0, .iload_n 3, .iconst 2, .iadd] (by decide +kernel) rfl <|
  Ev.scald (j := j2) (by decide +kernel) i2 <|
  Ev.cV0b (M' := M_Mo_swap) (as := [.int (scV G j1), .int (scV G j2)]) (rest := [.int y0]) l_La_86 M_Mo_swap_ok M_Mo_swap_in M_Mo_swap_se (by decide +kernel) r3 rfl rfl rfl (Nat.le_of_ble_eq_true rfl) (Nat.le_of_ble_eq_true rfl) k1
theorem b_La_law_764 {G : ev_G} {d k n : Nat} {h : ev_H} {R : Option Value → ev_H → Prop} {x3 : Int32} {y0 : Int32} {y1 : Int32}
  (k1 : y0 = y1 → Ev G (d + 30) k n M_La_law 1811 [.ref (ev_big + 100), .ref 0, .ref 102, .int x3] [] h R)
  (k2 : ¬ y0 = y1 → R (some (.int (0 : Int32))) h)
  : Ev G (d + 30) k n M_La_law 764 [.ref (ev_big + 100), .ref 0, .ref 102, .int x3] [.int y1, .int y0] h R :=
  Ev.br (i := .if_icmp .eq (1047)) (P := y0 = y1) (t := 1811) (f := 767) (r := []) (by decide +kernel) rfl (fun c1 =>
    (k1 c1)
  ) (fun c1 =>
    Ev.go (pc' := 768) (ls' := [.ref (ev_big + 100), .ref 0, .ref 102, .int x3]) (st' := [.int (0 : Int32)]) [.iconst 0] (by decide +kernel) rfl <|
    Ev.ret (r := (some (.int (0 : Int32)))) (Or.inl ⟨_, rfl, by decide +kernel, _, rfl, rfl⟩) (k2 c1)
  )
theorem b_La_law_769 {G : ev_G} {d k n : Nat} {h : ev_H} {R : Option Value → ev_H → Prop} {x3 : Int32} {j1 : Nat} {j2 : Nat}
  (i1 : ev_ix (x3 + (1 : Int32)) j1 (scL G))
  (i2 : ev_ix (x3 + (2 : Int32)) j2 (scL G))
  (r3 : ∃ fs, hat h 0 (oC 8 fs))
  (k1 : Ev G (d + 29) 0 0 M_X_tag 0 [.ref 0, .int (scV G j1), .int (scV G j2), ev_unk] [] h (fun r h1 => h1.1 ≤ h.1 + 0 → Ev G (d + 30) k n M_La_law 783 [.ref (ev_big + 100), .ref 0, .ref 102, .int x3] (r.toList ++ []) h1 R))
  : Ev G (d + 30) k n M_La_law 769 [.ref (ev_big + 100), .ref 0, .ref 102, .int x3] [] h R :=
  Ev.go (pc' := 774) (ls' := [.ref (ev_big + 100), .ref 0, .ref 102, .int x3]) (st' := [.int (x3 + (1 : Int32)), .ref (ev_big + 100), .ref 0]) [.aload_n 1, .aload_n 0, .iload_n 3, .iconst 1, .iadd] (by decide +kernel) rfl <|
  Ev.scald (j := j1) (by decide +kernel) i1 <|
  Ev.go (pc' := 779) (ls' := [.ref (ev_big + 100), .ref 0, .ref 102, .int x3]) (st' := [.int (x3 + (2 : Int32)), .ref (ev_big + 100), .int (scV G j1), .ref 0]) [.aload_n 0, .iload_n 3, .iconst 2, .iadd] (by decide +kernel) rfl <|
  Ev.scald (j := j2) (by decide +kernel) i2 <|
  Ev.cV0b (M' := M_X_tag) (as := [.int (scV G j1), .int (scV G j2)]) (rest := []) l_La_87 M_X_tag_ok M_X_tag_in M_X_tag_se (by decide +kernel) r3 rfl rfl rfl (Nat.le_of_ble_eq_true rfl) (Nat.le_of_ble_eq_true rfl) k1
theorem b_La_law_783 {G : ev_G} {d k n : Nat} {h : ev_H} {R : Option Value → ev_H → Prop} {x3 : Int32} {y0 : Int32} {j1 : Nat} {j2 : Nat}
  (i1 : ev_ix (x3 + (1 : Int32)) j1 (scL G))
  (i2 : ev_ix (x3 + (2 : Int32)) j2 (scL G))
  (r3 : ∃ fs, hat h 102 (oC 9 fs))
  (k1 : Ev G (d + 29) 0 0 M_Mo_tag 0 [.ref 102, .int (scV G j1), .int (scV G j2), ev_unk] [] h (fun r h1 => h1.1 ≤ h.1 + 0 → Ev G (d + 30) k n M_La_law 797 [.ref (ev_big + 100), .ref 0, .ref 102, .int x3] (r.toList ++ [.int y0]) h1 R))
  : Ev G (d + 30) k n M_La_law 783 [.ref (ev_big + 100), .ref 0, .ref 102, .int x3] [.int y0] h R :=
  Ev.go (pc' := 788) (ls' := [.ref (ev_big + 100), .ref 0, .ref 102, .int x3]) (st' := [.int (x3 + (1 : Int32)), .ref (ev_big + 100), .ref 102, .int y0]) [.aload_n 2, .aload_n 0, .iload_n 3, .iconst 1, .iadd] (by decide +kernel) rfl <|
  Ev.scald (j := j1) (by decide +kernel) i1 <|
  Ev.go (pc' := 793) (ls' := [.ref (ev_big + 100), .ref 0, .ref 102, .int x3]) (st' := [.int (x3 + (2 : Int32)), .ref (ev_big + 100), .int (scV G j1), .ref 102, .int y0]) [.aload_n 0, .iload_n 3, .iconst 2, .iadd] (by decide +kernel) rfl <|
  Ev.scald (j := j2) (by decide +kernel) i2 <|
  Ev.cV0b (M' := M_Mo_tag) (as := [.int (scV G j1), .int (scV G j2)]) (rest := [.int y0]) l_La_90 M_Mo_tag_ok M_Mo_tag_in M_Mo_tag_se (by decide +kernel) r3 rfl rfl rfl (Nat.le_of_ble_eq_true rfl) (Nat.le_of_ble_eq_true rfl) k1
theorem b_La_law_797 {G : ev_G} {d k n : Nat} {h : ev_H} {R : Option Value → ev_H → Prop} {x3 : Int32} {y0 : Int32} {y1 : Int32}
  (k1 : y0 = y1 → Ev G (d + 30) k n M_La_law 1811 [.ref (ev_big + 100), .ref 0, .ref 102, .int x3] [] h R)
  (k2 : ¬ y0 = y1 → R (some (.int (0 : Int32))) h)
  : Ev G (d + 30) k n M_La_law 797 [.ref (ev_big + 100), .ref 0, .ref 102, .int x3] [.int y1, .int y0] h R :=
  Ev.br (i := .if_icmp .eq (1014)) (P := y0 = y1) (t := 1811) (f := 800) (r := []) (by decide +kernel) rfl (fun c1 =>
    (k1 c1)
  ) (fun c1 =>
    Ev.go (pc' := 801) (ls' := [.ref (ev_big + 100), .ref 0, .ref 102, .int x3]) (st' := [.int (0 : Int32)]) [.iconst 0] (by decide +kernel) rfl <|
    Ev.ret (r := (some (.int (0 : Int32)))) (Or.inl ⟨_, rfl, by decide +kernel, _, rfl, rfl⟩) (k2 c1)
  )
theorem b_La_law_802 {G : ev_G} {d k n : Nat} {h : ev_H} {R : Option Value → ev_H → Prop} {x3 : Int32} {j1 : Nat} {j2 : Nat}
  (i1 : ev_ix (x3 + (1 : Int32)) j1 (scL G))
  (i2 : ev_ix (x3 + (2 : Int32)) j2 (scL G))
  (r3 : ∃ fs, hat h 0 (oC 8 fs))
  (k1 : Ev G (d + 29) 0 0 M_X_split 0 [.ref 0, .int (scV G j1), .int (scV G j2)] [] h (fun r h1 => h1.1 ≤ h.1 + 0 → Ev G (d + 30) k n M_La_law 816 [.ref (ev_big + 100), .ref 0, .ref 102, .int x3] (r.toList ++ []) h1 R))
  : Ev G (d + 30) k n M_La_law 802 [.ref (ev_big + 100), .ref 0, .ref 102, .int x3] [] h R :=
  Ev.go (pc' := 807) (ls' := [.ref (ev_big + 100), .ref 0, .ref 102, .int x3]) (st' := [.int (x3 + (1 : Int32)), .ref (ev_big + 100), .ref 0]) [.aload_n 1, .aload_n 0, .iload_n 3, .iconst 1, .iadd] (by decide +kernel) rfl <|
  Ev.scald (j := j1) (by decide +kernel) i1 <|
  Ev.go (pc' := 812) (ls' := [.ref (ev_big + 100), .ref 0, .ref 102, .int x3]) (st' := [.int (x3 + (2 : Int32)), .ref (ev_big + 100), .int (scV G j1), .ref 0]) [.aload_n 0, .iload_n 3, .iconst 2, .iadd] (by decide +kernel) rfl <|
  Ev.scald (j := j2) (by decide +kernel) i2 <|
  Ev.cV0b (M' := M_X_split) (as := [.int (scV G j1), .int (scV G j2)]) (rest := []) l_La_91 M_X_split_ok M_X_split_in M_X_split_se (by decide +kernel) r3 rfl rfl rfl (Nat.le_of_ble_eq_true rfl) (Nat.le_of_ble_eq_true rfl) k1
theorem b_La_law_816 {G : ev_G} {d k n : Nat} {h : ev_H} {R : Option Value → ev_H → Prop} {x3 : Int32} {y0 : Int32} {j1 : Nat} {j2 : Nat}
  (i1 : ev_ix (x3 + (1 : Int32)) j1 (scL G))
  (i2 : ev_ix (x3 + (2 : Int32)) j2 (scL G))
  (r3 : ∃ fs, hat h 102 (oC 9 fs))
  (k1 : Ev G (d + 29) 0 0 M_Mo_split 0 [.ref 102, .int (scV G j1), .int (scV G j2), ev_unk] [] h (fun r h1 => h1.1 ≤ h.1 + 0 → Ev G (d + 30) k n M_La_law 830 [.ref (ev_big + 100), .ref 0, .ref 102, .int x3] (r.toList ++ [.int y0]) h1 R))
  : Ev G (d + 30) k n M_La_law 816 [.ref (ev_big + 100), .ref 0, .ref 102, .int x3] [.int y0] h R :=
  Ev.go (pc' := 821) (ls' := [.ref (ev_big + 100), .ref 0, .ref 102, .int x3]) (st' := [.int (x3 + (1 : Int32)), .ref (ev_big + 100), .ref 102, .int y0]) [.aload_n 2, .aload_n 0, .iload_n 3, .iconst 1, .iadd] (by decide +kernel) rfl <|
  Ev.scald (j := j1) (by decide +kernel) i1 <|
  Ev.go (pc' := 826) (ls' := [.ref (ev_big + 100), .ref 0, .ref 102, .int x3]) (st' := [.int (x3 + (2 : Int32)), .ref (ev_big + 100), .int (scV G j1), .ref 102, .int y0]) [.aload_n 0, .iload_n 3, .iconst 2, .iadd] (by decide +kernel) rfl <|
  Ev.scald (j := j2) (by decide +kernel) i2 <|
  Ev.cV0b (M' := M_Mo_split) (as := [.int (scV G j1), .int (scV G j2)]) (rest := [.int y0]) l_La_94 M_Mo_split_ok M_Mo_split_in M_Mo_split_se (by decide +kernel) r3 rfl rfl rfl (Nat.le_of_ble_eq_true rfl) (Nat.le_of_ble_eq_true rfl) k1
theorem b_La_law_830 {G : ev_G} {d k n : Nat} {h : ev_H} {R : Option Value → ev_H → Prop} {x3 : Int32} {y0 : Int32} {y1 : Int32}
  (k1 : y0 = y1 → Ev G (d + 30) k n M_La_law 1811 [.ref (ev_big + 100), .ref 0, .ref 102, .int x3] [] h R)
  (k2 : ¬ y0 = y1 → R (some (.int (0 : Int32))) h)
  : Ev G (d + 30) k n M_La_law 830 [.ref (ev_big + 100), .ref 0, .ref 102, .int x3] [.int y1, .int y0] h R :=
  Ev.br (i := .if_icmp .eq (981)) (P := y0 = y1) (t := 1811) (f := 833) (r := []) (by decide +kernel) rfl (fun c1 =>
    (k1 c1)
  ) (fun c1 =>
    Ev.go (pc' := 834) (ls' := [.ref (ev_big + 100), .ref 0, .ref 102, .int x3]) (st' := [.int (0 : Int32)]) [.iconst 0] (by decide +kernel) rfl <|
    Ev.ret (r := (some (.int (0 : Int32)))) (Or.inl ⟨_, rfl, by decide +kernel, _, rfl, rfl⟩) (k2 c1)
  )
theorem b_La_law_835 {G : ev_G} {d k n : Nat} {h : ev_H} {R : Option Value → ev_H → Prop} {x3 : Int32} {j1 : Nat}
  (i1 : ev_ix (x3 + (1 : Int32)) j1 (scL G))
  (r2 : ∃ fs, hat h 0 (oC 8 fs))
  (k1 : Ev G (d + 29) 0 0 M_X_merge 0 [.ref 0, .int (scV G j1)] [] h (fun r h1 => h1.1 ≤ h.1 + 0 → Ev G (d + 30) k n M_La_law 844 [.ref (ev_big + 100), .ref 0, .ref 102, .int x3] (r.toList ++ []) h1 R))
  : Ev G (d + 30) k n M_La_law 835 [.ref (ev_big + 100), .ref 0, .ref 102, .int x3] [] h R :=
  Ev.go (pc' := 840) (ls' := [.ref (ev_big + 100), .ref 0, .ref 102, .int x3]) (st' := [.int (x3 + (1 : Int32)), .ref (ev_big + 100), .ref 0]) [.aload_n 1, .aload_n 0, .iload_n 3, .iconst 1, .iadd] (by decide +kernel) rfl <|
  Ev.scald (j := j1) (by decide +kernel) i1 <|
  Ev.cV0b (M' := M_X_merge) (as := [.int (scV G j1)]) (rest := []) l_La_95 M_X_merge_ok M_X_merge_in M_X_merge_se (by decide +kernel) r2 rfl rfl rfl (Nat.le_of_ble_eq_true rfl) (Nat.le_of_ble_eq_true rfl) k1
theorem b_La_law_844 {G : ev_G} {d k n : Nat} {h : ev_H} {R : Option Value → ev_H → Prop} {x3 : Int32} {y0 : Int32} {j1 : Nat}
  (i1 : ev_ix (x3 + (1 : Int32)) j1 (scL G))
  (r2 : ∃ fs, hat h 102 (oC 9 fs))
  (k1 : Ev G (d + 29) 0 0 M_Mo_merge 0 [.ref 102, .int (scV G j1), ev_unk, ev_unk] [] h (fun r h1 => h1.1 ≤ h.1 + 0 → Ev G (d + 30) k n M_La_law 853 [.ref (ev_big + 100), .ref 0, .ref 102, .int x3] (r.toList ++ [.int y0]) h1 R))
  : Ev G (d + 30) k n M_La_law 844 [.ref (ev_big + 100), .ref 0, .ref 102, .int x3] [.int y0] h R :=
  Ev.go (pc' := 849) (ls' := [.ref (ev_big + 100), .ref 0, .ref 102, .int x3]) (st' := [.int (x3 + (1 : Int32)), .ref (ev_big + 100), .ref 102, .int y0]) [.aload_n 2, .aload_n 0, .iload_n 3, .iconst 1, .iadd] (by decide +kernel) rfl <|
  Ev.scald (j := j1) (by decide +kernel) i1 <|
  Ev.cV0b (M' := M_Mo_merge) (as := [.int (scV G j1)]) (rest := [.int y0]) l_La_98 M_Mo_merge_ok M_Mo_merge_in M_Mo_merge_se (by decide +kernel) r2 rfl rfl rfl (Nat.le_of_ble_eq_true rfl) (Nat.le_of_ble_eq_true rfl) k1
theorem b_La_law_853 {G : ev_G} {d k n : Nat} {h : ev_H} {R : Option Value → ev_H → Prop} {x3 : Int32} {y0 : Int32} {y1 : Int32}
  (k1 : y0 = y1 → Ev G (d + 30) k n M_La_law 1811 [.ref (ev_big + 100), .ref 0, .ref 102, .int x3] [] h R)
  (k2 : ¬ y0 = y1 → R (some (.int (0 : Int32))) h)
  : Ev G (d + 30) k n M_La_law 853 [.ref (ev_big + 100), .ref 0, .ref 102, .int x3] [.int y1, .int y0] h R :=
  Ev.br (i := .if_icmp .eq (958)) (P := y0 = y1) (t := 1811) (f := 856) (r := []) (by decide +kernel) rfl (fun c1 =>
    (k1 c1)
  ) (fun c1 =>
    Ev.go (pc' := 857) (ls' := [.ref (ev_big + 100), .ref 0, .ref 102, .int x3]) (st' := [.int (0 : Int32)]) [.iconst 0] (by decide +kernel) rfl <|
    Ev.ret (r := (some (.int (0 : Int32)))) (Or.inl ⟨_, rfl, by decide +kernel, _, rfl, rfl⟩) (k2 c1)
  )
theorem b_La_law_858 {G : ev_G} {d k n : Nat} {h : ev_H} {R : Option Value → ev_H → Prop} {x3 : Int32}
  (r1 : ∃ fs, hat h 0 (oC 8 fs))
  (k1 : Ev G (d + 29) 0 0 M_X_open 0 [.ref 0] [] h (fun r h1 => h1.1 ≤ h.1 + 0 → Ev G (d + 30) k n M_La_law 862 [.ref (ev_big + 100), .ref 0, .ref 102, .int x3] (r.toList ++ []) h1 R))
  : Ev G (d + 30) k n M_La_law 858 [.ref (ev_big + 100), .ref 0, .ref 102, .int x3] [] h R :=
  Ev.go (pc' := 859) (ls' := [.ref (ev_big + 100), .ref 0, .ref 102, .int x3]) (st' := [.ref 0]) [.aload_n 1] (by decide +kernel) rfl <|
  Ev.cV0b (M' := M_X_open) (as := []) (rest := []) l_La_99 M_X_open_ok M_X_open_in M_X_open_se (by decide +kernel) r1 rfl rfl rfl (Nat.le_of_ble_eq_true rfl) (Nat.le_of_ble_eq_true rfl) k1
theorem b_La_law_862 {G : ev_G} {d k n : Nat} {h : ev_H} {R : Option Value → ev_H → Prop} {x3 : Int32} {y0 : Int32}
  (r1 : ∃ fs, hat h 102 (oC 9 fs))
  (k1 : Ev G (d + 29) 0 0 M_Mo_open 0 [.ref 102] [] h (fun r h1 => h1.1 ≤ h.1 + 0 → Ev G (d + 30) k n M_La_law 866 [.ref (ev_big + 100), .ref 0, .ref 102, .int x3] (r.toList ++ [.int y0]) h1 R))
  : Ev G (d + 30) k n M_La_law 862 [.ref (ev_big + 100), .ref 0, .ref 102, .int x3] [.int y0] h R :=
  Ev.go (pc' := 863) (ls' := [.ref (ev_big + 100), .ref 0, .ref 102, .int x3]) (st' := [.ref 102, .int y0]) [.aload_n 2] (by decide +kernel) rfl <|
  Ev.cV0b (M' := M_Mo_open) (as := []) (rest := [.int y0]) l_La_102 M_Mo_open_ok M_Mo_open_in M_Mo_open_se (by decide +kernel) r1 rfl rfl rfl (Nat.le_of_ble_eq_true rfl) (Nat.le_of_ble_eq_true rfl) k1
theorem b_La_law_866 {G : ev_G} {d k n : Nat} {h : ev_H} {R : Option Value → ev_H → Prop} {x3 : Int32} {y0 : Int32} {y1 : Int32}
  (k1 : y0 = y1 → Ev G (d + 30) k n M_La_law 1811 [.ref (ev_big + 100), .ref 0, .ref 102, .int x3] [] h R)
  (k2 : ¬ y0 = y1 → R (some (.int (0 : Int32))) h)
  : Ev G (d + 30) k n M_La_law 866 [.ref (ev_big + 100), .ref 0, .ref 102, .int x3] [.int y1, .int y0] h R :=
  Ev.br (i := .if_icmp .eq (945)) (P := y0 = y1) (t := 1811) (f := 869) (r := []) (by decide +kernel) rfl (fun c1 =>
    (k1 c1)
  ) (fun c1 =>
    Ev.go (pc' := 870) (ls' := [.ref (ev_big + 100), .ref 0, .ref 102, .int x3]) (st' := [.int (0 : Int32)]) [.iconst 0] (by decide +kernel) rfl <|
    Ev.ret (r := (some (.int (0 : Int32)))) (Or.inl ⟨_, rfl, by decide +kernel, _, rfl, rfl⟩) (k2 c1)
  )
theorem b_La_law_871 {G : ev_G} {d k n : Nat} {h : ev_H} {R : Option Value → ev_H → Prop} {x3 : Int32}
  (r1 : ∃ fs, hat h 0 (oC 8 fs))
  (k1 : Ev G (d + 29) 0 0 M_X_undo 0 [.ref 0] [] h (fun r h1 => h1.1 ≤ h.1 + 0 → Ev G (d + 30) k n M_La_law 875 [.ref (ev_big + 100), .ref 0, .ref 102, .int x3] (r.toList ++ []) h1 R))
  : Ev G (d + 30) k n M_La_law 871 [.ref (ev_big + 100), .ref 0, .ref 102, .int x3] [] h R :=
  Ev.go (pc' := 872) (ls' := [.ref (ev_big + 100), .ref 0, .ref 102, .int x3]) (st' := [.ref 0]) [.aload_n 1] (by decide +kernel) rfl <|
  Ev.cV0b (M' := M_X_undo) (as := []) (rest := []) l_La_103 M_X_undo_ok M_X_undo_in M_X_undo_se (by decide +kernel) r1 rfl rfl rfl (Nat.le_of_ble_eq_true rfl) (Nat.le_of_ble_eq_true rfl) k1
theorem b_La_law_875 {G : ev_G} {d k n : Nat} {h : ev_H} {R : Option Value → ev_H → Prop} {x3 : Int32} {y0 : Int32}
  (r1 : ∃ fs, hat h 102 (oC 9 fs))
  (k1 : Ev G (d + 29) 0 0 M_Mo_undo 0 [.ref 102] [] h (fun r h1 => h1.1 ≤ h.1 + 0 → Ev G (d + 30) k n M_La_law 879 [.ref (ev_big + 100), .ref 0, .ref 102, .int x3] (r.toList ++ [.int y0]) h1 R))
  : Ev G (d + 30) k n M_La_law 875 [.ref (ev_big + 100), .ref 0, .ref 102, .int x3] [.int y0] h R :=
  Ev.go (pc' := 876) (ls' := [.ref (ev_big + 100), .ref 0, .ref 102, .int x3]) (st' := [.ref 102, .int y0]) [.aload_n 2] (by decide +kernel) rfl <|
  Ev.cV0b (M' := M_Mo_undo) (as := []) (rest := [.int y0]) l_La_106 M_Mo_undo_ok M_Mo_undo_in M_Mo_undo_se (by decide +kernel) r1 rfl rfl rfl (Nat.le_of_ble_eq_true rfl) (Nat.le_of_ble_eq_true rfl) k1
theorem b_La_law_879 {G : ev_G} {d k n : Nat} {h : ev_H} {R : Option Value → ev_H → Prop} {x3 : Int32} {y0 : Int32} {y1 : Int32}
  (k1 : y0 = y1 → Ev G (d + 30) k n M_La_law 1811 [.ref (ev_big + 100), .ref 0, .ref 102, .int x3] [] h R)
  (k2 : ¬ y0 = y1 → R (some (.int (0 : Int32))) h)
  : Ev G (d + 30) k n M_La_law 879 [.ref (ev_big + 100), .ref 0, .ref 102, .int x3] [.int y1, .int y0] h R :=
  Ev.br (i := .if_icmp .eq (932)) (P := y0 = y1) (t := 1811) (f := 882) (r := []) (by decide +kernel) rfl (fun c1 =>
    (k1 c1)
  ) (fun c1 =>
    Ev.go (pc' := 883) (ls' := [.ref (ev_big + 100), .ref 0, .ref 102, .int x3]) (st' := [.int (0 : Int32)]) [.iconst 0] (by decide +kernel) rfl <|
    Ev.ret (r := (some (.int (0 : Int32)))) (Or.inl ⟨_, rfl, by decide +kernel, _, rfl, rfl⟩) (k2 c1)
  )
theorem b_La_law_884 {G : ev_G} {d k n : Nat} {h : ev_H} {R : Option Value → ev_H → Prop} {x3 : Int32}
  (r1 : ∃ fs, hat h 0 (oC 8 fs))
  (k1 : Ev G (d + 29) 0 0 M_X_mark 0 [.ref 0] [] h (fun r h1 => h1.1 ≤ h.1 + 0 → Ev G (d + 30) k n M_La_law 888 [.ref (ev_big + 100), .ref 0, .ref 102, .int x3] (r.toList ++ []) h1 R))
  : Ev G (d + 30) k n M_La_law 884 [.ref (ev_big + 100), .ref 0, .ref 102, .int x3] [] h R :=
  Ev.go (pc' := 885) (ls' := [.ref (ev_big + 100), .ref 0, .ref 102, .int x3]) (st' := [.ref 0]) [.aload_n 1] (by decide +kernel) rfl <|
  Ev.cV0b (M' := M_X_mark) (as := []) (rest := []) l_La_107 M_X_mark_ok M_X_mark_in M_X_mark_se (by decide +kernel) r1 rfl rfl rfl (Nat.le_of_ble_eq_true rfl) (Nat.le_of_ble_eq_true rfl) k1
theorem b_La_law_888 {G : ev_G} {d k n : Nat} {h : ev_H} {R : Option Value → ev_H → Prop} {x3 : Int32} {y0 : Int32}
  (r1 : ∃ fs, hat h 102 (oC 9 fs))
  (k1 : Ev G (d + 29) 0 0 M_Mo_mark 0 [.ref 102] [] h (fun r h1 => h1.1 ≤ h.1 + 0 → Ev G (d + 30) k n M_La_law 892 [.ref (ev_big + 100), .ref 0, .ref 102, .int x3] (r.toList ++ [.int y0]) h1 R))
  : Ev G (d + 30) k n M_La_law 888 [.ref (ev_big + 100), .ref 0, .ref 102, .int x3] [.int y0] h R :=
  Ev.go (pc' := 889) (ls' := [.ref (ev_big + 100), .ref 0, .ref 102, .int x3]) (st' := [.ref 102, .int y0]) [.aload_n 2] (by decide +kernel) rfl <|
  Ev.cV0b (M' := M_Mo_mark) (as := []) (rest := [.int y0]) l_La_110 M_Mo_mark_ok M_Mo_mark_in M_Mo_mark_se (by decide +kernel) r1 rfl rfl rfl (Nat.le_of_ble_eq_true rfl) (Nat.le_of_ble_eq_true rfl) k1
theorem b_La_law_892 {G : ev_G} {d k n : Nat} {h : ev_H} {R : Option Value → ev_H → Prop} {x3 : Int32} {y0 : Int32} {y1 : Int32}
  (k1 : y0 = y1 → Ev G (d + 30) k n M_La_law 1811 [.ref (ev_big + 100), .ref 0, .ref 102, .int x3] [] h R)
  (k2 : ¬ y0 = y1 → R (some (.int (0 : Int32))) h)
  : Ev G (d + 30) k n M_La_law 892 [.ref (ev_big + 100), .ref 0, .ref 102, .int x3] [.int y1, .int y0] h R :=
  Ev.br (i := .if_icmp .eq (919)) (P := y0 = y1) (t := 1811) (f := 895) (r := []) (by decide +kernel) rfl (fun c1 =>
    (k1 c1)
  ) (fun c1 =>
    Ev.go (pc' := 896) (ls' := [.ref (ev_big + 100), .ref 0, .ref 102, .int x3]) (st' := [.int (0 : Int32)]) [.iconst 0] (by decide +kernel) rfl <|
    Ev.ret (r := (some (.int (0 : Int32)))) (Or.inl ⟨_, rfl, by decide +kernel, _, rfl, rfl⟩) (k2 c1)
  )
theorem b_La_law_897 {G : ev_G} {d k n : Nat} {h : ev_H} {R : Option Value → ev_H → Prop} {x3 : Int32}
  (r1 : ∃ fs, hat h 0 (oC 8 fs))
  (k1 : Ev G (d + 29) 0 0 M_X_back 0 [.ref 0] [] h (fun r h1 => h1.1 ≤ h.1 + 0 → Ev G (d + 30) k n M_La_law 901 [.ref (ev_big + 100), .ref 0, .ref 102, .int x3] (r.toList ++ []) h1 R))
  : Ev G (d + 30) k n M_La_law 897 [.ref (ev_big + 100), .ref 0, .ref 102, .int x3] [] h R :=
  Ev.go (pc' := 898) (ls' := [.ref (ev_big + 100), .ref 0, .ref 102, .int x3]) (st' := [.ref 0]) [.aload_n 1] (by decide +kernel) rfl <|
  Ev.cV0b (M' := M_X_back) (as := []) (rest := []) l_La_111 M_X_back_ok M_X_back_in M_X_back_se (by decide +kernel) r1 rfl rfl rfl (Nat.le_of_ble_eq_true rfl) (Nat.le_of_ble_eq_true rfl) k1
theorem b_La_law_901 {G : ev_G} {d k n : Nat} {h : ev_H} {R : Option Value → ev_H → Prop} {x3 : Int32} {y0 : Int32}
  (r1 : ∃ fs, hat h 102 (oC 9 fs))
  (k1 : Ev G (d + 29) 0 0 M_Mo_back 0 [.ref 102] [] h (fun r h1 => h1.1 ≤ h.1 + 0 → Ev G (d + 30) k n M_La_law 905 [.ref (ev_big + 100), .ref 0, .ref 102, .int x3] (r.toList ++ [.int y0]) h1 R))
  : Ev G (d + 30) k n M_La_law 901 [.ref (ev_big + 100), .ref 0, .ref 102, .int x3] [.int y0] h R :=
  Ev.go (pc' := 902) (ls' := [.ref (ev_big + 100), .ref 0, .ref 102, .int x3]) (st' := [.ref 102, .int y0]) [.aload_n 2] (by decide +kernel) rfl <|
  Ev.cV0b (M' := M_Mo_back) (as := []) (rest := [.int y0]) l_La_114 M_Mo_back_ok M_Mo_back_in M_Mo_back_se (by decide +kernel) r1 rfl rfl rfl (Nat.le_of_ble_eq_true rfl) (Nat.le_of_ble_eq_true rfl) k1
theorem b_La_law_905 {G : ev_G} {d k n : Nat} {h : ev_H} {R : Option Value → ev_H → Prop} {x3 : Int32} {y0 : Int32} {y1 : Int32}
  (k1 : y0 = y1 → Ev G (d + 30) k n M_La_law 1811 [.ref (ev_big + 100), .ref 0, .ref 102, .int x3] [] h R)
  (k2 : ¬ y0 = y1 → R (some (.int (0 : Int32))) h)
  : Ev G (d + 30) k n M_La_law 905 [.ref (ev_big + 100), .ref 0, .ref 102, .int x3] [.int y1, .int y0] h R :=
  Ev.br (i := .if_icmp .eq (906)) (P := y0 = y1) (t := 1811) (f := 908) (r := []) (by decide +kernel) rfl (fun c1 =>
    (k1 c1)
  ) (fun c1 =>
    Ev.go (pc' := 909) (ls' := [.ref (ev_big + 100), .ref 0, .ref 102, .int x3]) (st' := [.int (0 : Int32)]) [.iconst 0] (by decide +kernel) rfl <|
    Ev.ret (r := (some (.int (0 : Int32)))) (Or.inl ⟨_, rfl, by decide +kernel, _, rfl, rfl⟩) (k2 c1)
  )
theorem b_La_law_910 {G : ev_G} {d k n : Nat} {h : ev_H} {R : Option Value → ev_H → Prop} {x3 : Int32} {j1 : Nat} {j2 : Nat} {j3 : Nat} {j4 : Nat}
  (i1 : ev_ix (x3 + (1 : Int32)) j1 (scL G))
  (i2 : ev_ix (x3 + (2 : Int32)) j2 (scL G))
  (i3 : ev_ix (x3 + (3 : Int32)) j3 (scL G))
  (i4 : ev_ix (x3 + (4 : Int32)) j4 (scL G))
  (r5 : ∃ fs, hat h 0 (oC 8 fs))
  (k1 : Ev G (d + 29) 0 0 M_X_budget 0 [.ref 0, .long (((scV G j1).toInt64 <<< ((32 : Int32).toInt64 &&& 63)) ||| ((scV G j2).toInt64 &&& (4294967295 : Int64))), ev_unk, .int (scV G j3), .int (scV G j4)] [] h (fun r h1 => h1.1 ≤ h.1 + 0 → Ev G (d + 30) k n M_La_law 944 [.ref (ev_big + 100), .ref 0, .ref 102, .int x3] (r.toList ++ []) h1 R))
  : Ev G (d + 30) k n M_La_law 910 [.ref (ev_big + 100), .ref 0, .ref 102, .int x3] [] h R :=
  Ev.go (pc' := 915) (ls' := [.ref (ev_big + 100), .ref 0, .ref 102, .int x3]) (st' := [.int (x3 + (1 : Int32)), .ref (ev_big + 100), .ref 0]) [.aload_n 1, .aload_n 0, .iload_n 3, .iconst 1, .iadd] (by decide +kernel) rfl <|
  Ev.scald (j := j1) (by decide +kernel) i1 <|
  Ev.go (pc' := 924) (ls' := [.ref (ev_big + 100), .ref 0, .ref 102, .int x3]) (st' := [.int (x3 + (2 : Int32)), .ref (ev_big + 100), .long ((scV G j1).toInt64 <<< ((32 : Int32).toInt64 &&& 63)), .ref 0]) [.i2l, .bipush (32), .lshl, .aload_n 0, .iload_n 3, .iconst 2, .iadd] (by decide +kernel) rfl <|
  Ev.scald (j := j2) (by decide +kernel) i2 <|
  Ev.go (pc' := 926) (ls' := [.ref (ev_big + 100), .ref 0, .ref 102, .int x3]) (st' := [.long (scV G j2).toInt64, .long ((scV G j1).toInt64 <<< ((32 : Int32).toInt64 &&& 63)), .ref 0]) [.i2l] (by decide +kernel) rfl <|
  Ev.ldc2 k_La_54 (by decide +kernel) <|
  Ev.go (pc' := 935) (ls' := [.ref (ev_big + 100), .ref 0, .ref 102, .int x3]) (st' := [.int (x3 + (3 : Int32)), .ref (ev_big + 100), .long (((scV G j1).toInt64 <<< ((32 : Int32).toInt64 &&& 63)) ||| ((scV G j2).toInt64 &&& (4294967295 : Int64))), .ref 0]) [.land, .lor, .aload_n 0, .iload_n 3, .iconst 3, .iadd] (by decide +kernel) rfl <|
  Ev.scald (j := j3) (by decide +kernel) i3 <|
  Ev.go (pc' := 940) (ls' := [.ref (ev_big + 100), .ref 0, .ref 102, .int x3]) (st' := [.int (x3 + (4 : Int32)), .ref (ev_big + 100), .int (scV G j3), .long (((scV G j1).toInt64 <<< ((32 : Int32).toInt64 &&& 63)) ||| ((scV G j2).toInt64 &&& (4294967295 : Int64))), .ref 0]) [.aload_n 0, .iload_n 3, .iconst 4, .iadd] (by decide +kernel) rfl <|
  Ev.scald (j := j4) (by decide +kernel) i4 <|
  Ev.cV0b (M' := M_X_budget) (as := [.long (((scV G j1).toInt64 <<< ((32 : Int32).toInt64 &&& 63)) ||| ((scV G j2).toInt64 &&& (4294967295 : Int64))), .int (scV G j3), .int (scV G j4)]) (rest := []) l_La_115 M_X_budget_ok M_X_budget_in M_X_budget_se (by decide +kernel) r5 rfl rfl rfl (Nat.le_of_ble_eq_true rfl) (Nat.le_of_ble_eq_true rfl) k1
theorem b_La_law_944 {G : ev_G} {d k n : Nat} {h : ev_H} {R : Option Value → ev_H → Prop} {x3 : Int32} {y0 : Int32} {j1 : Nat} {j2 : Nat} {j3 : Nat} {j4 : Nat}
  (i1 : ev_ix (x3 + (1 : Int32)) j1 (scL G))
  (i2 : ev_ix (x3 + (2 : Int32)) j2 (scL G))
  (i3 : ev_ix (x3 + (3 : Int32)) j3 (scL G))
  (i4 : ev_ix (x3 + (4 : Int32)) j4 (scL G))
  (r5 : ∃ fs, hat h 102 (oC 9 fs))
  (k1 : Ev G (d + 29) 0 0 M_Mo_budget 0 [.ref 102, .long (((scV G j1).toInt64 <<< ((32 : Int32).toInt64 &&& 63)) ||| ((scV G j2).toInt64 &&& (4294967295 : Int64))), ev_unk, .int (scV G j3), .int (scV G j4)] [] h (fun r h1 => h1.1 ≤ h.1 + 0 → Ev G (d + 30) k n M_La_law 978 [.ref (ev_big + 100), .ref 0, .ref 102, .int x3] (r.toList ++ [.int y0]) h1 R))
  : Ev G (d + 30) k n M_La_law 944 [.ref (ev_big + 100), .ref 0, .ref 102, .int x3] [.int y0] h R :=
  Ev.go (pc' := 949) (ls' := [.ref (ev_big + 100), .ref 0, .ref 102, .int x3]) (st' := [.int (x3 + (1 : Int32)), .ref (ev_big + 100), .ref 102, .int y0]) [.aload_n 2, .aload_n 0, .iload_n 3, .iconst 1, .iadd] (by decide +kernel) rfl <|
  Ev.scald (j := j1) (by decide +kernel) i1 <|
  Ev.go (pc' := 958) (ls' := [.ref (ev_big + 100), .ref 0, .ref 102, .int x3]) (st' := [.int (x3 + (2 : Int32)), .ref (ev_big + 100), .long ((scV G j1).toInt64 <<< ((32 : Int32).toInt64 &&& 63)), .ref 102, .int y0]) [.i2l, .bipush (32), .lshl, .aload_n 0, .iload_n 3, .iconst 2, .iadd] (by decide +kernel) rfl <|
  Ev.scald (j := j2) (by decide +kernel) i2 <|
  Ev.go (pc' := 960) (ls' := [.ref (ev_big + 100), .ref 0, .ref 102, .int x3]) (st' := [.long (scV G j2).toInt64, .long ((scV G j1).toInt64 <<< ((32 : Int32).toInt64 &&& 63)), .ref 102, .int y0]) [.i2l] (by decide +kernel) rfl <|
  Ev.ldc2 k_La_54 (by decide +kernel) <|
  Ev.go (pc' := 969) (ls' := [.ref (ev_big + 100), .ref 0, .ref 102, .int x3]) (st' := [.int (x3 + (3 : Int32)), .ref (ev_big + 100), .long (((scV G j1).toInt64 <<< ((32 : Int32).toInt64 &&& 63)) ||| ((scV G j2).toInt64 &&& (4294967295 : Int64))), .ref 102, .int y0]) [.land, .lor, .aload_n 0, .iload_n 3, .iconst 3, .iadd] (by decide +kernel) rfl <|
  Ev.scald (j := j3) (by decide +kernel) i3 <|
  Ev.go (pc' := 974) (ls' := [.ref (ev_big + 100), .ref 0, .ref 102, .int x3]) (st' := [.int (x3 + (4 : Int32)), .ref (ev_big + 100), .int (scV G j3), .long (((scV G j1).toInt64 <<< ((32 : Int32).toInt64 &&& 63)) ||| ((scV G j2).toInt64 &&& (4294967295 : Int64))), .ref 102, .int y0]) [.aload_n 0, .iload_n 3, .iconst 4, .iadd] (by decide +kernel) rfl <|
  Ev.scald (j := j4) (by decide +kernel) i4 <|
  Ev.cV0b (M' := M_Mo_budget) (as := [.long (((scV G j1).toInt64 <<< ((32 : Int32).toInt64 &&& 63)) ||| ((scV G j2).toInt64 &&& (4294967295 : Int64))), .int (scV G j3), .int (scV G j4)]) (rest := [.int y0]) l_La_119 M_Mo_budget_ok M_Mo_budget_in M_Mo_budget_se (by decide +kernel) r5 rfl rfl rfl (Nat.le_of_ble_eq_true rfl) (Nat.le_of_ble_eq_true rfl) k1
theorem b_La_law_978 {G : ev_G} {d k n : Nat} {h : ev_H} {R : Option Value → ev_H → Prop} {x3 : Int32} {y0 : Int32} {y1 : Int32}
  (k1 : y0 = y1 → Ev G (d + 30) k n M_La_law 1811 [.ref (ev_big + 100), .ref 0, .ref 102, .int x3] [] h R)
  (k2 : ¬ y0 = y1 → R (some (.int (0 : Int32))) h)
  : Ev G (d + 30) k n M_La_law 978 [.ref (ev_big + 100), .ref 0, .ref 102, .int x3] [.int y1, .int y0] h R :=
  Ev.br (i := .if_icmp .eq (833)) (P := y0 = y1) (t := 1811) (f := 981) (r := []) (by decide +kernel) rfl (fun c1 =>
    (k1 c1)
  ) (fun c1 =>
    Ev.go (pc' := 982) (ls' := [.ref (ev_big + 100), .ref 0, .ref 102, .int x3]) (st' := [.int (0 : Int32)]) [.iconst 0] (by decide +kernel) rfl <|
    Ev.ret (r := (some (.int (0 : Int32)))) (Or.inl ⟨_, rfl, by decide +kernel, _, rfl, rfl⟩) (k2 c1)
  )
theorem b_La_law_983 {G : ev_G} {d k n : Nat} {h : ev_H} {R : Option Value → ev_H → Prop} {x3 : Int32} {j1 : Nat} {j2 : Nat} {j3 : Nat} {j4 : Nat}
  (i1 : ev_ix (x3 + (1 : Int32)) j1 (scL G))
  (i2 : ev_ix (x3 + (2 : Int32)) j2 (scL G))
  (i3 : ev_ix (x3 + (3 : Int32)) j3 (scL G))
  (i4 : ev_ix (x3 + (4 : Int32)) j4 (scL G))
  (r5 : ∃ fs, hat h 0 (oC 8 fs))
  (k1 : Ev G (d + 29) 0 0 M_X_cost 0 [.ref 0, .long (((scV G j1).toInt64 <<< ((32 : Int32).toInt64 &&& 63)) ||| ((scV G j2).toInt64 &&& (4294967295 : Int64))), ev_unk, .int (scV G j3), .int (scV G j4)] [] h (fun r h1 => h1.1 ≤ h.1 + 0 → Ev G (d + 30) k n M_La_law 1017 [.ref (ev_big + 100), .ref 0, .ref 102, .int x3] (r.toList ++ []) h1 R))
  : Ev G (d + 30) k n M_La_law 983 [.ref (ev_big + 100), .ref 0, .ref 102, .int x3] [] h R :=
  Ev.go (pc' := 988) (ls' := [.ref (ev_big + 100), .ref 0, .ref 102, .int x3]) (st' := [.int (x3 + (1 : Int32)), .ref (ev_big + 100), .ref 0]) [.aload_n 1, .aload_n 0, .iload_n 3, .iconst 1, .iadd] (by decide +kernel) rfl <|
  Ev.scald (j := j1) (by decide +kernel) i1 <|
  Ev.go (pc' := 997) (ls' := [.ref (ev_big + 100), .ref 0, .ref 102, .int x3]) (st' := [.int (x3 + (2 : Int32)), .ref (ev_big + 100), .long ((scV G j1).toInt64 <<< ((32 : Int32).toInt64 &&& 63)), .ref 0]) [.i2l, .bipush (32), .lshl, .aload_n 0, .iload_n 3, .iconst 2, .iadd] (by decide +kernel) rfl <|
  Ev.scald (j := j2) (by decide +kernel) i2 <|
  Ev.go (pc' := 999) (ls' := [.ref (ev_big + 100), .ref 0, .ref 102, .int x3]) (st' := [.long (scV G j2).toInt64, .long ((scV G j1).toInt64 <<< ((32 : Int32).toInt64 &&& 63)), .ref 0]) [.i2l] (by decide +kernel) rfl <|
  Ev.ldc2 k_La_54 (by decide +kernel) <|
  Ev.go (pc' := 1008) (ls' := [.ref (ev_big + 100), .ref 0, .ref 102, .int x3]) (st' := [.int (x3 + (3 : Int32)), .ref (ev_big + 100), .long (((scV G j1).toInt64 <<< ((32 : Int32).toInt64 &&& 63)) ||| ((scV G j2).toInt64 &&& (4294967295 : Int64))), .ref 0]) [.land, .lor, .aload_n 0, .iload_n 3, .iconst 3, .iadd] (by decide +kernel) rfl <|
  Ev.scald (j := j3) (by decide +kernel) i3 <|
  Ev.go (pc' := 1013) (ls' := [.ref (ev_big + 100), .ref 0, .ref 102, .int x3]) (st' := [.int (x3 + (4 : Int32)), .ref (ev_big + 100), .int (scV G j3), .long (((scV G j1).toInt64 <<< ((32 : Int32).toInt64 &&& 63)) ||| ((scV G j2).toInt64 &&& (4294967295 : Int64))), .ref 0]) [.aload_n 0, .iload_n 3, .iconst 4, .iadd] (by decide +kernel) rfl <|
  Ev.scald (j := j4) (by decide +kernel) i4 <|
  Ev.cV0b (M' := M_X_cost) (as := [.long (((scV G j1).toInt64 <<< ((32 : Int32).toInt64 &&& 63)) ||| ((scV G j2).toInt64 &&& (4294967295 : Int64))), .int (scV G j3), .int (scV G j4)]) (rest := []) l_La_120 M_X_cost_ok M_X_cost_in M_X_cost_se (by decide +kernel) r5 rfl rfl rfl (Nat.le_of_ble_eq_true rfl) (Nat.le_of_ble_eq_true rfl) k1
theorem b_La_law_1017 {G : ev_G} {d k n : Nat} {h : ev_H} {R : Option Value → ev_H → Prop} {x3 : Int32} {y0 : Int32} {j1 : Nat} {j2 : Nat} {j3 : Nat} {j4 : Nat}
  (i1 : ev_ix (x3 + (1 : Int32)) j1 (scL G))
  (i2 : ev_ix (x3 + (2 : Int32)) j2 (scL G))
  (i3 : ev_ix (x3 + (3 : Int32)) j3 (scL G))
  (i4 : ev_ix (x3 + (4 : Int32)) j4 (scL G))
  (r5 : ∃ fs, hat h 102 (oC 9 fs))
  (k1 : Ev G (d + 29) 0 0 M_Mo_cost 0 [.ref 102, .long (((scV G j1).toInt64 <<< ((32 : Int32).toInt64 &&& 63)) ||| ((scV G j2).toInt64 &&& (4294967295 : Int64))), ev_unk, .int (scV G j3), .int (scV G j4)] [] h (fun r h1 => h1.1 ≤ h.1 + 0 → Ev G (d + 30) k n M_La_law 1051 [.ref (ev_big + 100), .ref 0, .ref 102, .int x3] (r.toList ++ [.int y0]) h1 R))
  : Ev G (d + 30) k n M_La_law 1017 [.ref (ev_big + 100), .ref 0, .ref 102, .int x3] [.int y0] h R :=
  Ev.go (pc' := 1022) (ls' := [.ref (ev_big + 100), .ref 0, .ref 102, .int x3]) (st' := [.int (x3 + (1 : Int32)), .ref (ev_big + 100), .ref 102, .int y0]) [.aload_n 2, .aload_n 0, .iload_n 3, .iconst 1, .iadd] (by decide +kernel) rfl <|
  Ev.scald (j := j1) (by decide +kernel) i1 <|
  Ev.go (pc' := 1031) (ls' := [.ref (ev_big + 100), .ref 0, .ref 102, .int x3]) (st' := [.int (x3 + (2 : Int32)), .ref (ev_big + 100), .long ((scV G j1).toInt64 <<< ((32 : Int32).toInt64 &&& 63)), .ref 102, .int y0]) [.i2l, .bipush (32), .lshl, .aload_n 0, .iload_n 3, .iconst 2, .iadd] (by decide +kernel) rfl <|
  Ev.scald (j := j2) (by decide +kernel) i2 <|
  Ev.go (pc' := 1033) (ls' := [.ref (ev_big + 100), .ref 0, .ref 102, .int x3]) (st' := [.long (scV G j2).toInt64, .long ((scV G j1).toInt64 <<< ((32 : Int32).toInt64 &&& 63)), .ref 102, .int y0]) [.i2l] (by decide +kernel) rfl <|
  Ev.ldc2 k_La_54 (by decide +kernel) <|
  Ev.go (pc' := 1042) (ls' := [.ref (ev_big + 100), .ref 0, .ref 102, .int x3]) (st' := [.int (x3 + (3 : Int32)), .ref (ev_big + 100), .long (((scV G j1).toInt64 <<< ((32 : Int32).toInt64 &&& 63)) ||| ((scV G j2).toInt64 &&& (4294967295 : Int64))), .ref 102, .int y0]) [.land, .lor, .aload_n 0, .iload_n 3, .iconst 3, .iadd] (by decide +kernel) rfl <|
  Ev.scald (j := j3) (by decide +kernel) i3 <|
  Ev.go (pc' := 1047) (ls' := [.ref (ev_big + 100), .ref 0, .ref 102, .int x3]) (st' := [.int (x3 + (4 : Int32)), .ref (ev_big + 100), .int (scV G j3), .long (((scV G j1).toInt64 <<< ((32 : Int32).toInt64 &&& 63)) ||| ((scV G j2).toInt64 &&& (4294967295 : Int64))), .ref 102, .int y0]) [.aload_n 0, .iload_n 3, .iconst 4, .iadd] (by decide +kernel) rfl <|
  Ev.scald (j := j4) (by decide +kernel) i4 <|
  Ev.cV0b (M' := M_Mo_cost) (as := [.long (((scV G j1).toInt64 <<< ((32 : Int32).toInt64 &&& 63)) ||| ((scV G j2).toInt64 &&& (4294967295 : Int64))), .int (scV G j3), .int (scV G j4)]) (rest := [.int y0]) l_La_123 M_Mo_cost_ok M_Mo_cost_in M_Mo_cost_se (by decide +kernel) r5 rfl rfl rfl (Nat.le_of_ble_eq_true rfl) (Nat.le_of_ble_eq_true rfl) k1
theorem b_La_law_1051 {G : ev_G} {d k n : Nat} {h : ev_H} {R : Option Value → ev_H → Prop} {x3 : Int32} {y0 : Int32} {y1 : Int32}
  (k1 : y0 = y1 → Ev G (d + 30) k n M_La_law 1811 [.ref (ev_big + 100), .ref 0, .ref 102, .int x3] [] h R)
  (k2 : ¬ y0 = y1 → R (some (.int (0 : Int32))) h)
  : Ev G (d + 30) k n M_La_law 1051 [.ref (ev_big + 100), .ref 0, .ref 102, .int x3] [.int y1, .int y0] h R :=
  Ev.br (i := .if_icmp .eq (760)) (P := y0 = y1) (t := 1811) (f := 1054) (r := []) (by decide +kernel) rfl (fun c1 =>
    (k1 c1)
  ) (fun c1 =>
    Ev.go (pc' := 1055) (ls' := [.ref (ev_big + 100), .ref 0, .ref 102, .int x3]) (st' := [.int (0 : Int32)]) [.iconst 0] (by decide +kernel) rfl <|
    Ev.ret (r := (some (.int (0 : Int32)))) (Or.inl ⟨_, rfl, by decide +kernel, _, rfl, rfl⟩) (k2 c1)
  )
theorem b_La_law_1056 {G : ev_G} {d k n : Nat} {h : ev_H} {R : Option Value → ev_H → Prop} {x3 : Int32} {j1 : Nat} {j2 : Nat} {j3 : Nat} {j4 : Nat}
  (i1 : ev_ix (x3 + (1 : Int32)) j1 (scL G))
  (i2 : ev_ix (x3 + (2 : Int32)) j2 (scL G))
  (i3 : ev_ix (x3 + (3 : Int32)) j3 (scL G))
  (i4 : ev_ix (x3 + (4 : Int32)) j4 (scL G))
  (r5 : ∃ fs, hat h 0 (oC 8 fs))
  (k1 : Ev G (d + 29) 0 0 M_X_near 0 [.ref 0, .long (((scV G j1).toInt64 <<< ((32 : Int32).toInt64 &&& 63)) ||| ((scV G j2).toInt64 &&& (4294967295 : Int64))), ev_unk, .int (scV G j3), .int (scV G j4), ev_unk, ev_unk, ev_unk, ev_unk] [] h (fun r h1 => h1.1 ≤ h.1 + 0 → Ev G (d + 30) k n M_La_law 1090 [.ref (ev_big + 100), .ref 0, .ref 102, .int x3] (r.toList ++ []) h1 R))
  : Ev G (d + 30) k n M_La_law 1056 [.ref (ev_big + 100), .ref 0, .ref 102, .int x3] [] h R :=
  Ev.go (pc' := 1061) (ls' := [.ref (ev_big + 100), .ref 0, .ref 102, .int x3]) (st' := [.int (x3 + (1 : Int32)), .ref (ev_big + 100), .ref 0]) [.aload_n 1, .aload_n 0, .iload_n 3, .iconst 1, .iadd] (by decide +kernel) rfl <|
  Ev.scald (j := j1) (by decide +kernel) i1 <|
  Ev.go (pc' := 1070) (ls' := [.ref (ev_big + 100), .ref 0, .ref 102, .int x3]) (st' := [.int (x3 + (2 : Int32)), .ref (ev_big + 100), .long ((scV G j1).toInt64 <<< ((32 : Int32).toInt64 &&& 63)), .ref 0]) [.i2l, .bipush (32), .lshl, .aload_n 0, .iload_n 3, .iconst 2, .iadd] (by decide +kernel) rfl <|
  Ev.scald (j := j2) (by decide +kernel) i2 <|
  Ev.go (pc' := 1072) (ls' := [.ref (ev_big + 100), .ref 0, .ref 102, .int x3]) (st' := [.long (scV G j2).toInt64, .long ((scV G j1).toInt64 <<< ((32 : Int32).toInt64 &&& 63)), .ref 0]) [.i2l] (by decide +kernel) rfl <|
  Ev.ldc2 k_La_54 (by decide +kernel) <|
  Ev.go (pc' := 1081) (ls' := [.ref (ev_big + 100), .ref 0, .ref 102, .int x3]) (st' := [.int (x3 + (3 : Int32)), .ref (ev_big + 100), .long (((scV G j1).toInt64 <<< ((32 : Int32).toInt64 &&& 63)) ||| ((scV G j2).toInt64 &&& (4294967295 : Int64))), .ref 0]) [.land, .lor, .aload_n 0, .iload_n 3, .iconst 3, .iadd] (by decide +kernel) rfl <|
  Ev.scald (j := j3) (by decide +kernel) i3 <|
  Ev.go (pc' := 1086) (ls' := [.ref (ev_big + 100), .ref 0, .ref 102, .int x3]) (st' := [.int (x3 + (4 : Int32)), .ref (ev_big + 100), .int (scV G j3), .long (((scV G j1).toInt64 <<< ((32 : Int32).toInt64 &&& 63)) ||| ((scV G j2).toInt64 &&& (4294967295 : Int64))), .ref 0]) [.aload_n 0, .iload_n 3, .iconst 4, .iadd] (by decide +kernel) rfl <|
  Ev.scald (j := j4) (by decide +kernel) i4 <|
  Ev.cV0b (M' := M_X_near) (as := [.long (((scV G j1).toInt64 <<< ((32 : Int32).toInt64 &&& 63)) ||| ((scV G j2).toInt64 &&& (4294967295 : Int64))), .int (scV G j3), .int (scV G j4)]) (rest := []) l_La_124 M_X_near_ok M_X_near_in M_X_near_se (by decide +kernel) r5 rfl rfl rfl (Nat.le_of_ble_eq_true rfl) (Nat.le_of_ble_eq_true rfl) k1
theorem b_La_law_1090 {G : ev_G} {d k n : Nat} {h : ev_H} {R : Option Value → ev_H → Prop} {x3 : Int32} {y0 : Int32} {j1 : Nat} {j2 : Nat} {j3 : Nat} {j4 : Nat}
  (i1 : ev_ix (x3 + (1 : Int32)) j1 (scL G))
  (i2 : ev_ix (x3 + (2 : Int32)) j2 (scL G))
  (i3 : ev_ix (x3 + (3 : Int32)) j3 (scL G))
  (i4 : ev_ix (x3 + (4 : Int32)) j4 (scL G))
  (r5 : ∃ fs, hat h 102 (oC 9 fs))
  (k1 : Ev G (d + 29) 0 0 M_Mo_near 0 [.ref 102, .long (((scV G j1).toInt64 <<< ((32 : Int32).toInt64 &&& 63)) ||| ((scV G j2).toInt64 &&& (4294967295 : Int64))), ev_unk, .int (scV G j3), .int (scV G j4), ev_unk, ev_unk, ev_unk, ev_unk, ev_unk, ev_unk, ev_unk] [] h (fun r h1 => h1.1 ≤ h.1 + 0 → Ev G (d + 30) k n M_La_law 1124 [.ref (ev_big + 100), .ref 0, .ref 102, .int x3] (r.toList ++ [.int y0]) h1 R))
  : Ev G (d + 30) k n M_La_law 1090 [.ref (ev_big + 100), .ref 0, .ref 102, .int x3] [.int y0] h R :=
  Ev.go (pc' := 1095) (ls' := [.ref (ev_big + 100), .ref 0, .ref 102, .int x3]) (st' := [.int (x3 + (1 : Int32)), .ref (ev_big + 100), .ref 102, .int y0]) [.aload_n 2, .aload_n 0, .iload_n 3, .iconst 1, .iadd] (by decide +kernel) rfl <|
  Ev.scald (j := j1) (by decide +kernel) i1 <|
  Ev.go (pc' := 1104) (ls' := [.ref (ev_big + 100), .ref 0, .ref 102, .int x3]) (st' := [.int (x3 + (2 : Int32)), .ref (ev_big + 100), .long ((scV G j1).toInt64 <<< ((32 : Int32).toInt64 &&& 63)), .ref 102, .int y0]) [.i2l, .bipush (32), .lshl, .aload_n 0, .iload_n 3, .iconst 2, .iadd] (by decide +kernel) rfl <|
  Ev.scald (j := j2) (by decide +kernel) i2 <|
  Ev.go (pc' := 1106) (ls' := [.ref (ev_big + 100), .ref 0, .ref 102, .int x3]) (st' := [.long (scV G j2).toInt64, .long ((scV G j1).toInt64 <<< ((32 : Int32).toInt64 &&& 63)), .ref 102, .int y0]) [.i2l] (by decide +kernel) rfl <|
  Ev.ldc2 k_La_54 (by decide +kernel) <|
  Ev.go (pc' := 1115) (ls' := [.ref (ev_big + 100), .ref 0, .ref 102, .int x3]) (st' := [.int (x3 + (3 : Int32)), .ref (ev_big + 100), .long (((scV G j1).toInt64 <<< ((32 : Int32).toInt64 &&& 63)) ||| ((scV G j2).toInt64 &&& (4294967295 : Int64))), .ref 102, .int y0]) [.land, .lor, .aload_n 0, .iload_n 3, .iconst 3, .iadd] (by decide +kernel) rfl <|
  Ev.scald (j := j3) (by decide +kernel) i3 <|
  Ev.go (pc' := 1120) (ls' := [.ref (ev_big + 100), .ref 0, .ref 102, .int x3]) (st' := [.int (x3 + (4 : Int32)), .ref (ev_big + 100), .int (scV G j3), .long (((scV G j1).toInt64 <<< ((32 : Int32).toInt64 &&& 63)) ||| ((scV G j2).toInt64 &&& (4294967295 : Int64))), .ref 102, .int y0]) [.aload_n 0, .iload_n 3, .iconst 4, .iadd] (by decide +kernel) rfl <|
  Ev.scald (j := j4) (by decide +kernel) i4 <|
  Ev.cV0b (M' := M_Mo_near) (as := [.long (((scV G j1).toInt64 <<< ((32 : Int32).toInt64 &&& 63)) ||| ((scV G j2).toInt64 &&& (4294967295 : Int64))), .int (scV G j3), .int (scV G j4)]) (rest := [.int y0]) l_La_127 M_Mo_near_ok M_Mo_near_in M_Mo_near_se (by decide +kernel) r5 rfl rfl rfl (Nat.le_of_ble_eq_true rfl) (Nat.le_of_ble_eq_true rfl) k1
theorem b_La_law_1124 {G : ev_G} {d k n : Nat} {h : ev_H} {R : Option Value → ev_H → Prop} {x3 : Int32} {y0 : Int32} {y1 : Int32}
  (k1 : y0 = y1 → Ev G (d + 30) k n M_La_law 1811 [.ref (ev_big + 100), .ref 0, .ref 102, .int x3] [] h R)
  (k2 : ¬ y0 = y1 → R (some (.int (0 : Int32))) h)
  : Ev G (d + 30) k n M_La_law 1124 [.ref (ev_big + 100), .ref 0, .ref 102, .int x3] [.int y1, .int y0] h R :=
  Ev.br (i := .if_icmp .eq (687)) (P := y0 = y1) (t := 1811) (f := 1127) (r := []) (by decide +kernel) rfl (fun c1 =>
    (k1 c1)
  ) (fun c1 =>
    Ev.go (pc' := 1128) (ls' := [.ref (ev_big + 100), .ref 0, .ref 102, .int x3]) (st' := [.int (0 : Int32)]) [.iconst 0] (by decide +kernel) rfl <|
    Ev.ret (r := (some (.int (0 : Int32)))) (Or.inl ⟨_, rfl, by decide +kernel, _, rfl, rfl⟩) (k2 c1)
  )
theorem b_La_law_1129 {G : ev_G} {d k n : Nat} {h : ev_H} {R : Option Value → ev_H → Prop} {x3 : Int32} {j1 : Nat} {j2 : Nat} {j3 : Nat}
  (i1 : ev_ix (x3 + (1 : Int32)) j1 (scL G))
  (i2 : ev_ix (x3 + (2 : Int32)) j2 (scL G))
  (i3 : ev_ix (x3 + (3 : Int32)) j3 (scL G))
  (r4 : ∃ fs, hat h 0 (oC 8 fs))
  (k1 : Ev G (d + 29) 0 0 M_X_ranked 0 [.ref 0, .long (((scV G j1).toInt64 <<< ((32 : Int32).toInt64 &&& 63)) ||| ((scV G j2).toInt64 &&& (4294967295 : Int64))), ev_unk, .int (scV G j3)] [] h (fun r h1 => h1.1 ≤ h.1 + 0 → Ev G (d + 30) k n M_La_law 1158 [.ref (ev_big + 100), .ref 0, .ref 102, .int x3] (r.toList ++ []) h1 R))
  : Ev G (d + 30) k n M_La_law 1129 [.ref (ev_big + 100), .ref 0, .ref 102, .int x3] [] h R :=
  Ev.go (pc' := 1134) (ls' := [.ref (ev_big + 100), .ref 0, .ref 102, .int x3]) (st' := [.int (x3 + (1 : Int32)), .ref (ev_big + 100), .ref 0]) [.aload_n 1, .aload_n 0, .iload_n 3, .iconst 1, .iadd] (by decide +kernel) rfl <|
  Ev.scald (j := j1) (by decide +kernel) i1 <|
  Ev.go (pc' := 1143) (ls' := [.ref (ev_big + 100), .ref 0, .ref 102, .int x3]) (st' := [.int (x3 + (2 : Int32)), .ref (ev_big + 100), .long ((scV G j1).toInt64 <<< ((32 : Int32).toInt64 &&& 63)), .ref 0]) [.i2l, .bipush (32), .lshl, .aload_n 0, .iload_n 3, .iconst 2, .iadd] (by decide +kernel) rfl <|
  Ev.scald (j := j2) (by decide +kernel) i2 <|
  Ev.go (pc' := 1145) (ls' := [.ref (ev_big + 100), .ref 0, .ref 102, .int x3]) (st' := [.long (scV G j2).toInt64, .long ((scV G j1).toInt64 <<< ((32 : Int32).toInt64 &&& 63)), .ref 0]) [.i2l] (by decide +kernel) rfl <|
  Ev.ldc2 k_La_54 (by decide +kernel) <|
  Ev.go (pc' := 1154) (ls' := [.ref (ev_big + 100), .ref 0, .ref 102, .int x3]) (st' := [.int (x3 + (3 : Int32)), .ref (ev_big + 100), .long (((scV G j1).toInt64 <<< ((32 : Int32).toInt64 &&& 63)) ||| ((scV G j2).toInt64 &&& (4294967295 : Int64))), .ref 0]) [.land, .lor, .aload_n 0, .iload_n 3, .iconst 3, .iadd] (by decide +kernel) rfl <|
  Ev.scald (j := j3) (by decide +kernel) i3 <|
  Ev.cV0b (M' := M_X_ranked) (as := [.long (((scV G j1).toInt64 <<< ((32 : Int32).toInt64 &&& 63)) ||| ((scV G j2).toInt64 &&& (4294967295 : Int64))), .int (scV G j3)]) (rest := []) l_La_128 M_X_ranked_ok M_X_ranked_in M_X_ranked_se (by decide +kernel) r4 rfl rfl rfl (Nat.le_of_ble_eq_true rfl) (Nat.le_of_ble_eq_true rfl) k1
theorem b_La_law_1158 {G : ev_G} {d k n : Nat} {h : ev_H} {R : Option Value → ev_H → Prop} {x3 : Int32} {y0 : Int32} {j1 : Nat} {j2 : Nat} {j3 : Nat}
  (i1 : ev_ix (x3 + (1 : Int32)) j1 (scL G))
  (i2 : ev_ix (x3 + (2 : Int32)) j2 (scL G))
  (i3 : ev_ix (x3 + (3 : Int32)) j3 (scL G))
  (r4 : ∃ fs, hat h 102 (oC 9 fs))
  (k1 : Ev G (d + 29) 0 0 M_Mo_ranked 0 [.ref 102, .long (((scV G j1).toInt64 <<< ((32 : Int32).toInt64 &&& 63)) ||| ((scV G j2).toInt64 &&& (4294967295 : Int64))), ev_unk, .int (scV G j3)] [] h (fun r h1 => h1.1 ≤ h.1 + 0 → Ev G (d + 30) k n M_La_law 1187 [.ref (ev_big + 100), .ref 0, .ref 102, .int x3] (r.toList ++ [.int y0]) h1 R))
  : Ev G (d + 30) k n M_La_law 1158 [.ref (ev_big + 100), .ref 0, .ref 102, .int x3] [.int y0] h R :=
  Ev.go (pc' := 1163) (ls' := [.ref (ev_big + 100), .ref 0, .ref 102, .int x3]) (st' := [.int (x3 + (1 : Int32)), .ref (ev_big + 100), .ref 102, .int y0]) [.aload_n 2, .aload_n 0, .iload_n 3, .iconst 1, .iadd] (by decide +kernel) rfl <|
  Ev.scald (j := j1) (by decide +kernel) i1 <|
  Ev.go (pc' := 1172) (ls' := [.ref (ev_big + 100), .ref 0, .ref 102, .int x3]) (st' := [.int (x3 + (2 : Int32)), .ref (ev_big + 100), .long ((scV G j1).toInt64 <<< ((32 : Int32).toInt64 &&& 63)), .ref 102, .int y0]) [.i2l, .bipush (32), .lshl, .aload_n 0, .iload_n 3, .iconst 2, .iadd] (by decide +kernel) rfl <|
  Ev.scald (j := j2) (by decide +kernel) i2 <|
  Ev.go (pc' := 1174) (ls' := [.ref (ev_big + 100), .ref 0, .ref 102, .int x3]) (st' := [.long (scV G j2).toInt64, .long ((scV G j1).toInt64 <<< ((32 : Int32).toInt64 &&& 63)), .ref 102, .int y0]) [.i2l] (by decide +kernel) rfl <|
  Ev.ldc2 k_La_54 (by decide +kernel) <|
  Ev.go (pc' := 1183) (ls' := [.ref (ev_big + 100), .ref 0, .ref 102, .int x3]) (st' := [.int (x3 + (3 : Int32)), .ref (ev_big + 100), .long (((scV G j1).toInt64 <<< ((32 : Int32).toInt64 &&& 63)) ||| ((scV G j2).toInt64 &&& (4294967295 : Int64))), .ref 102, .int y0]) [.land, .lor, .aload_n 0, .iload_n 3, .iconst 3, .iadd] (by decide +kernel) rfl <|
  Ev.scald (j := j3) (by decide +kernel) i3 <|
  Ev.cV0b (M' := M_Mo_ranked) (as := [.long (((scV G j1).toInt64 <<< ((32 : Int32).toInt64 &&& 63)) ||| ((scV G j2).toInt64 &&& (4294967295 : Int64))), .int (scV G j3)]) (rest := [.int y0]) l_La_132 M_Mo_ranked_ok M_Mo_ranked_in M_Mo_ranked_se (by decide +kernel) r4 rfl rfl rfl (Nat.le_of_ble_eq_true rfl) (Nat.le_of_ble_eq_true rfl) k1
theorem b_La_law_1187 {G : ev_G} {d k n : Nat} {h : ev_H} {R : Option Value → ev_H → Prop} {x3 : Int32} {y0 : Int32} {y1 : Int32}
  (k1 : y0 = y1 → Ev G (d + 30) k n M_La_law 1811 [.ref (ev_big + 100), .ref 0, .ref 102, .int x3] [] h R)
  (k2 : ¬ y0 = y1 → R (some (.int (0 : Int32))) h)
  : Ev G (d + 30) k n M_La_law 1187 [.ref (ev_big + 100), .ref 0, .ref 102, .int x3] [.int y1, .int y0] h R :=
  Ev.br (i := .if_icmp .eq (624)) (P := y0 = y1) (t := 1811) (f := 1190) (r := []) (by decide +kernel) rfl (fun c1 =>
    (k1 c1)
  ) (fun c1 =>
    Ev.go (pc' := 1191) (ls' := [.ref (ev_big + 100), .ref 0, .ref 102, .int x3]) (st' := [.int (0 : Int32)]) [.iconst 0] (by decide +kernel) rfl <|
    Ev.ret (r := (some (.int (0 : Int32)))) (Or.inl ⟨_, rfl, by decide +kernel, _, rfl, rfl⟩) (k2 c1)
  )
theorem b_La_law_1192 {G : ev_G} {d k n : Nat} {h : ev_H} {R : Option Value → ev_H → Prop} {x3 : Int32} {j1 : Nat} {j2 : Nat} {j3 : Nat} {j4 : Nat}
  (i1 : ev_ix (x3 + (1 : Int32)) j1 (scL G))
  (i2 : ev_ix (x3 + (2 : Int32)) j2 (scL G))
  (i3 : ev_ix (x3 + (3 : Int32)) j3 (scL G))
  (i4 : ev_ix (x3 + (4 : Int32)) j4 (scL G))
  (r5 : ∃ fs, hat h 0 (oC 8 fs))
  (k1 : Ev G (d + 29) 0 0 M_X_grown 0 [.ref 0, .long (((scV G j1).toInt64 <<< ((32 : Int32).toInt64 &&& 63)) ||| ((scV G j2).toInt64 &&& (4294967295 : Int64))), ev_unk, .int (scV G j3), .int (scV G j4), ev_unk, ev_unk, ev_unk] [] h (fun r h1 => h1.1 ≤ h.1 + 0 → Ev G (d + 30) k n M_La_law 1226 [.ref (ev_big + 100), .ref 0, .ref 102, .int x3] (r.toList ++ []) h1 R))
  : Ev G (d + 30) k n M_La_law 1192 [.ref (ev_big + 100), .ref 0, .ref 102, .int x3] [] h R :=
  Ev.go (pc' := 1197) (ls' := [.ref (ev_big + 100), .ref 0, .ref 102, .int x3]) (st' := [.int (x3 + (1 : Int32)), .ref (ev_big + 100), .ref 0]) [.aload_n 1, .aload_n 0, .iload_n 3, .iconst 1, .iadd] (by decide +kernel) rfl <|
  Ev.scald (j := j1) (by decide +kernel) i1 <|
  Ev.go (pc' := 1206) (ls' := [.ref (ev_big + 100), .ref 0, .ref 102, .int x3]) (st' := [.int (x3 + (2 : Int32)), .ref (ev_big + 100), .long ((scV G j1).toInt64 <<< ((32 : Int32).toInt64 &&& 63)), .ref 0]) [.i2l, .bipush (32), .lshl, .aload_n 0, .iload_n 3, .iconst 2, .iadd] (by decide +kernel) rfl <|
  Ev.scald (j := j2) (by decide +kernel) i2 <|
  Ev.go (pc' := 1208) (ls' := [.ref (ev_big + 100), .ref 0, .ref 102, .int x3]) (st' := [.long (scV G j2).toInt64, .long ((scV G j1).toInt64 <<< ((32 : Int32).toInt64 &&& 63)), .ref 0]) [.i2l] (by decide +kernel) rfl <|
  Ev.ldc2 k_La_54 (by decide +kernel) <|
  Ev.go (pc' := 1217) (ls' := [.ref (ev_big + 100), .ref 0, .ref 102, .int x3]) (st' := [.int (x3 + (3 : Int32)), .ref (ev_big + 100), .long (((scV G j1).toInt64 <<< ((32 : Int32).toInt64 &&& 63)) ||| ((scV G j2).toInt64 &&& (4294967295 : Int64))), .ref 0]) [.land, .lor, .aload_n 0, .iload_n 3, .iconst 3, .iadd] (by decide +kernel) rfl <|
  Ev.scald (j := j3) (by decide +kernel) i3 <|
  Ev.go (pc' := 1222) (ls' := [.ref (ev_big + 100), .ref 0, .ref 102, .int x3]) (st' := [.int (x3 + (4 : Int32)), .ref (ev_big + 100), .int (scV G j3), .long (((scV G j1).toInt64 <<< ((32 : Int32).toInt64 &&& 63)) ||| ((scV G j2).toInt64 &&& (4294967295 : Int64))), .ref 0]) [.aload_n 0, .iload_n 3, .iconst 4, .iadd] (by decide +kernel) rfl <|
  Ev.scald (j := j4) (by decide +kernel) i4 <|
  Ev.cV0b (M' := M_X_grown) (as := [.long (((scV G j1).toInt64 <<< ((32 : Int32).toInt64 &&& 63)) ||| ((scV G j2).toInt64 &&& (4294967295 : Int64))), .int (scV G j3), .int (scV G j4)]) (rest := []) l_La_133 M_X_grown_ok M_X_grown_in M_X_grown_se (by decide +kernel) r5 rfl rfl rfl (Nat.le_of_ble_eq_true rfl) (Nat.le_of_ble_eq_true rfl) k1
theorem b_La_law_1226 {G : ev_G} {d k n : Nat} {h : ev_H} {R : Option Value → ev_H → Prop} {x3 : Int32} {y0 : Int32} {j1 : Nat} {j2 : Nat} {j3 : Nat} {j4 : Nat}
  (i1 : ev_ix (x3 + (1 : Int32)) j1 (scL G))
  (i2 : ev_ix (x3 + (2 : Int32)) j2 (scL G))
  (i3 : ev_ix (x3 + (3 : Int32)) j3 (scL G))
  (i4 : ev_ix (x3 + (4 : Int32)) j4 (scL G))
  (r5 : ∃ fs, hat h 102 (oC 9 fs))
  (k1 : Ev G (d + 29) 0 0 M_Mo_grown 0 [.ref 102, .long (((scV G j1).toInt64 <<< ((32 : Int32).toInt64 &&& 63)) ||| ((scV G j2).toInt64 &&& (4294967295 : Int64))), ev_unk, .int (scV G j3), .int (scV G j4), ev_unk, ev_unk, ev_unk, ev_unk] [] h (fun r h1 => h1.1 ≤ h.1 + 0 → Ev G (d + 30) k n M_La_law 1260 [.ref (ev_big + 100), .ref 0, .ref 102, .int x3] (r.toList ++ [.int y0]) h1 R))
  : Ev G (d + 30) k n M_La_law 1226 [.ref (ev_big + 100), .ref 0, .ref 102, .int x3] [.int y0] h R :=
  Ev.go (pc' := 1231) (ls' := [.ref (ev_big + 100), .ref 0, .ref 102, .int x3]) (st' := [.int (x3 + (1 : Int32)), .ref (ev_big + 100), .ref 102, .int y0]) [.aload_n 2, .aload_n 0, .iload_n 3, .iconst 1, .iadd] (by decide +kernel) rfl <|
  Ev.scald (j := j1) (by decide +kernel) i1 <|
  Ev.go (pc' := 1240) (ls' := [.ref (ev_big + 100), .ref 0, .ref 102, .int x3]) (st' := [.int (x3 + (2 : Int32)), .ref (ev_big + 100), .long ((scV G j1).toInt64 <<< ((32 : Int32).toInt64 &&& 63)), .ref 102, .int y0]) [.i2l, .bipush (32), .lshl, .aload_n 0, .iload_n 3, .iconst 2, .iadd] (by decide +kernel) rfl <|
  Ev.scald (j := j2) (by decide +kernel) i2 <|
  Ev.go (pc' := 1242) (ls' := [.ref (ev_big + 100), .ref 0, .ref 102, .int x3]) (st' := [.long (scV G j2).toInt64, .long ((scV G j1).toInt64 <<< ((32 : Int32).toInt64 &&& 63)), .ref 102, .int y0]) [.i2l] (by decide +kernel) rfl <|
  Ev.ldc2 k_La_54 (by decide +kernel) <|
  Ev.go (pc' := 1251) (ls' := [.ref (ev_big + 100), .ref 0, .ref 102, .int x3]) (st' := [.int (x3 + (3 : Int32)), .ref (ev_big + 100), .long (((scV G j1).toInt64 <<< ((32 : Int32).toInt64 &&& 63)) ||| ((scV G j2).toInt64 &&& (4294967295 : Int64))), .ref 102, .int y0]) [.land, .lor, .aload_n 0, .iload_n 3, .iconst 3, .iadd] (by decide +kernel) rfl <|
  Ev.scald (j := j3) (by decide +kernel) i3 <|
  Ev.go (pc' := 1256) (ls' := [.ref (ev_big + 100), .ref 0, .ref 102, .int x3]) (st' := [.int (x3 + (4 : Int32)), .ref (ev_big + 100), .int (scV G j3), .long (((scV G j1).toInt64 <<< ((32 : Int32).toInt64 &&& 63)) ||| ((scV G j2).toInt64 &&& (4294967295 : Int64))), .ref 102, .int y0]) [.aload_n 0, .iload_n 3, .iconst 4, .iadd] (by decide +kernel) rfl <|
  Ev.scald (j := j4) (by decide +kernel) i4 <|
  Ev.cV0b (M' := M_Mo_grown) (as := [.long (((scV G j1).toInt64 <<< ((32 : Int32).toInt64 &&& 63)) ||| ((scV G j2).toInt64 &&& (4294967295 : Int64))), .int (scV G j3), .int (scV G j4)]) (rest := [.int y0]) l_La_136 M_Mo_grown_ok M_Mo_grown_in M_Mo_grown_se (by decide +kernel) r5 rfl rfl rfl (Nat.le_of_ble_eq_true rfl) (Nat.le_of_ble_eq_true rfl) k1
theorem b_La_law_1260 {G : ev_G} {d k n : Nat} {h : ev_H} {R : Option Value → ev_H → Prop} {x3 : Int32} {y0 : Int32} {y1 : Int32}
  (k1 : y0 = y1 → Ev G (d + 30) k n M_La_law 1811 [.ref (ev_big + 100), .ref 0, .ref 102, .int x3] [] h R)
  (k2 : ¬ y0 = y1 → R (some (.int (0 : Int32))) h)
  : Ev G (d + 30) k n M_La_law 1260 [.ref (ev_big + 100), .ref 0, .ref 102, .int x3] [.int y1, .int y0] h R :=
  Ev.br (i := .if_icmp .eq (551)) (P := y0 = y1) (t := 1811) (f := 1263) (r := []) (by decide +kernel) rfl (fun c1 =>
    (k1 c1)
  ) (fun c1 =>
    Ev.go (pc' := 1264) (ls' := [.ref (ev_big + 100), .ref 0, .ref 102, .int x3]) (st' := [.int (0 : Int32)]) [.iconst 0] (by decide +kernel) rfl <|
    Ev.ret (r := (some (.int (0 : Int32)))) (Or.inl ⟨_, rfl, by decide +kernel, _, rfl, rfl⟩) (k2 c1)
  )
theorem b_La_law_1265 {G : ev_G} {d k n : Nat} {h : ev_H} {R : Option Value → ev_H → Prop} {x3 : Int32} {j1 : Nat} {j2 : Nat} {j3 : Nat} {j4 : Nat} {j5 : Nat}
  (i1 : ev_ix (x3 + (1 : Int32)) j1 (scL G))
  (i2 : ev_ix (x3 + (2 : Int32)) j2 (scL G))
  (i3 : ev_ix (x3 + (3 : Int32)) j3 (scL G))
  (i4 : ev_ix (x3 + (4 : Int32)) j4 (scL G))
  (i5 : ev_ix (x3 + (5 : Int32)) j5 (scL G))
  (r6 : ∃ fs, hat h 0 (oC 8 fs))
  (k1 : Ev G (d + 29) 0 0 M_X_apart 0 [.ref 0, .long (((scV G j1).toInt64 <<< ((32 : Int32).toInt64 &&& 63)) ||| ((scV G j2).toInt64 &&& (4294967295 : Int64))), ev_unk, .int (scV G j3), .int (scV G j4), .int (scV G j5)] [] h (fun r h1 => h1.1 ≤ h.1 + 0 → Ev G (d + 30) k n M_La_law 1304 [.ref (ev_big + 100), .ref 0, .ref 102, .int x3] (r.toList ++ []) h1 R))
  : Ev G (d + 30) k n M_La_law 1265 [.ref (ev_big + 100), .ref 0, .ref 102, .int x3] [] h R :=
  Ev.go (pc' := 1270) (ls' := [.ref (ev_big + 100), .ref 0, .ref 102, .int x3]) (st' := [.int (x3 + (1 : Int32)), .ref (ev_big + 100), .ref 0]) [.aload_n 1, .aload_n 0, .iload_n 3, .iconst 1, .iadd] (by decide +kernel) rfl <|
  Ev.scald (j := j1) (by decide +kernel) i1 <|
  Ev.go (pc' := 1279) (ls' := [.ref (ev_big + 100), .ref 0, .ref 102, .int x3]) (st' := [.int (x3 + (2 : Int32)), .ref (ev_big + 100), .long ((scV G j1).toInt64 <<< ((32 : Int32).toInt64 &&& 63)), .ref 0]) [.i2l, .bipush (32), .lshl, .aload_n 0, .iload_n 3, .iconst 2, .iadd] (by decide +kernel) rfl <|
  Ev.scald (j := j2) (by decide +kernel) i2 <|
  Ev.go (pc' := 1281) (ls' := [.ref (ev_big + 100), .ref 0, .ref 102, .int x3]) (st' := [.long (scV G j2).toInt64, .long ((scV G j1).toInt64 <<< ((32 : Int32).toInt64 &&& 63)), .ref 0]) [.i2l] (by decide +kernel) rfl <|
  Ev.ldc2 k_La_54 (by decide +kernel) <|
  Ev.go (pc' := 1290) (ls' := [.ref (ev_big + 100), .ref 0, .ref 102, .int x3]) (st' := [.int (x3 + (3 : Int32)), .ref (ev_big + 100), .long (((scV G j1).toInt64 <<< ((32 : Int32).toInt64 &&& 63)) ||| ((scV G j2).toInt64 &&& (4294967295 : Int64))), .ref 0]) [.land, .lor, .aload_n 0, .iload_n 3, .iconst 3, .iadd] (by decide +kernel) rfl <|
  Ev.scald (j := j3) (by decide +kernel) i3 <|
  Ev.go (pc' := 1295) (ls' := [.ref (ev_big + 100), .ref 0, .ref 102, .int x3]) (st' := [.int (x3 + (4 : Int32)), .ref (ev_big + 100), .int (scV G j3), .long (((scV G j1).toInt64 <<< ((32 : Int32).toInt64 &&& 63)) ||| ((scV G j2).toInt64 &&& (4294967295 : Int64))), .ref 0]) [.aload_n 0, .iload_n 3, .iconst 4, .iadd] (by decide +kernel) rfl <|
  Ev.scald (j := j4) (by decide +kernel) i4 <|
  Ev.go (pc' := 1300) (ls' := [.ref (ev_big + 100), .ref 0, .ref 102, .int x3]) (st' := [.int (x3 + (5 : Int32)), .ref (ev_big + 100), .int (scV G j4), .int (scV G j3), .long (((scV G j1).toInt64 <<< ((32 : Int32).toInt64 &&& 63)) ||| ((scV G j2).toInt64 &&& (4294967295 : Int64))), .ref 0]) [.aload_n 0, .iload_n 3, .iconst 5, .iadd] (by decide +kernel) rfl <|
  Ev.scald (j := j5) (by decide +kernel) i5 <|
  Ev.cV0b (M' := M_X_apart) (as := [.long (((scV G j1).toInt64 <<< ((32 : Int32).toInt64 &&& 63)) ||| ((scV G j2).toInt64 &&& (4294967295 : Int64))), .int (scV G j3), .int (scV G j4), .int (scV G j5)]) (rest := []) l_La_137 M_X_apart_ok M_X_apart_in M_X_apart_se (by decide +kernel) r6 rfl rfl rfl (Nat.le_of_ble_eq_true rfl) (Nat.le_of_ble_eq_true rfl) k1
theorem b_La_law_1304 {G : ev_G} {d k n : Nat} {h : ev_H} {R : Option Value → ev_H → Prop} {x3 : Int32} {y0 : Int32} {j1 : Nat} {j2 : Nat} {j3 : Nat} {j4 : Nat} {j5 : Nat}
  (i1 : ev_ix (x3 + (1 : Int32)) j1 (scL G))
  (i2 : ev_ix (x3 + (2 : Int32)) j2 (scL G))
  (i3 : ev_ix (x3 + (3 : Int32)) j3 (scL G))
  (i4 : ev_ix (x3 + (4 : Int32)) j4 (scL G))
  (i5 : ev_ix (x3 + (5 : Int32)) j5 (scL G))
  (r6 : ∃ fs, hat h 102 (oC 9 fs))
  (k1 : Ev G (d + 29) 0 0 M_Mo_apart 0 [.ref 102, .long (((scV G j1).toInt64 <<< ((32 : Int32).toInt64 &&& 63)) ||| ((scV G j2).toInt64 &&& (4294967295 : Int64))), ev_unk, .int (scV G j3), .int (scV G j4), .int (scV G j5), ev_unk, ev_unk, ev_unk, ev_unk, ev_unk, ev_unk, ev_unk] [] h (fun r h1 => h1.1 ≤ h.1 + 0 → Ev G (d + 30) k n M_La_law 1343 [.ref (ev_big + 100), .ref 0, .ref 102, .int x3] (r.toList ++ [.int y0]) h1 R))
  : Ev G (d + 30) k n M_La_law 1304 [.ref (ev_big + 100), .ref 0, .ref 102, .int x3] [.int y0] h R :=
  Ev.go (pc' := 1309) (ls' := [.ref (ev_big + 100), .ref 0, .ref 102, .int x3]) (st' := [.int (x3 + (1 : Int32)), .ref (ev_big + 100), .ref 102, .int y0]) [.aload_n 2, .aload_n 0, .iload_n 3, .iconst 1, .iadd] (by decide +kernel) rfl <|
  Ev.scald (j := j1) (by decide +kernel) i1 <|
  Ev.go (pc' := 1318) (ls' := [.ref (ev_big + 100), .ref 0, .ref 102, .int x3]) (st' := [.int (x3 + (2 : Int32)), .ref (ev_big + 100), .long ((scV G j1).toInt64 <<< ((32 : Int32).toInt64 &&& 63)), .ref 102, .int y0]) [.i2l, .bipush (32), .lshl, .aload_n 0, .iload_n 3, .iconst 2, .iadd] (by decide +kernel) rfl <|
  Ev.scald (j := j2) (by decide +kernel) i2 <|
  Ev.go (pc' := 1320) (ls' := [.ref (ev_big + 100), .ref 0, .ref 102, .int x3]) (st' := [.long (scV G j2).toInt64, .long ((scV G j1).toInt64 <<< ((32 : Int32).toInt64 &&& 63)), .ref 102, .int y0]) [.i2l] (by decide +kernel) rfl <|
  Ev.ldc2 k_La_54 (by decide +kernel) <|
  Ev.go (pc' := 1329) (ls' := [.ref (ev_big + 100), .ref 0, .ref 102, .int x3]) (st' := [.int (x3 + (3 : Int32)), .ref (ev_big + 100), .long (((scV G j1).toInt64 <<< ((32 : Int32).toInt64 &&& 63)) ||| ((scV G j2).toInt64 &&& (4294967295 : Int64))), .ref 102, .int y0]) [.land, .lor, .aload_n 0, .iload_n 3, .iconst 3, .iadd] (by decide +kernel) rfl <|
  Ev.scald (j := j3) (by decide +kernel) i3 <|
  Ev.go (pc' := 1334) (ls' := [.ref (ev_big + 100), .ref 0, .ref 102, .int x3]) (st' := [.int (x3 + (4 : Int32)), .ref (ev_big + 100), .int (scV G j3), .long (((scV G j1).toInt64 <<< ((32 : Int32).toInt64 &&& 63)) ||| ((scV G j2).toInt64 &&& (4294967295 : Int64))), .ref 102, .int y0]) [.aload_n 0, .iload_n 3, .iconst 4, .iadd] (by decide +kernel) rfl <|
  Ev.scald (j := j4) (by decide +kernel) i4 <|
  Ev.go (pc' := 1339) (ls' := [.ref (ev_big + 100), .ref 0, .ref 102, .int x3]) (st' := [.int (x3 + (5 : Int32)), .ref (ev_big + 100), .int (scV G j4), .int (scV G j3), .long (((scV G j1).toInt64 <<< ((32 : Int32).toInt64 &&& 63)) ||| ((scV G j2).toInt64 &&& (4294967295 : Int64))), .ref 102, .int y0]) [.aload_n 0, .iload_n 3, .iconst 5, .iadd] (by decide +kernel) rfl <|
  Ev.scald (j := j5) (by decide +kernel) i5 <|
  Ev.cV0b (M' := M_Mo_apart) (as := [.long (((scV G j1).toInt64 <<< ((32 : Int32).toInt64 &&& 63)) ||| ((scV G j2).toInt64 &&& (4294967295 : Int64))), .int (scV G j3), .int (scV G j4), .int (scV G j5)]) (rest := [.int y0]) l_La_141 M_Mo_apart_ok M_Mo_apart_in M_Mo_apart_se (by decide +kernel) r6 rfl rfl rfl (Nat.le_of_ble_eq_true rfl) (Nat.le_of_ble_eq_true rfl) k1
theorem b_La_law_1343 {G : ev_G} {d k n : Nat} {h : ev_H} {R : Option Value → ev_H → Prop} {x3 : Int32} {y0 : Int32} {y1 : Int32}
  (k1 : y0 = y1 → Ev G (d + 30) k n M_La_law 1811 [.ref (ev_big + 100), .ref 0, .ref 102, .int x3] [] h R)
  (k2 : ¬ y0 = y1 → R (some (.int (0 : Int32))) h)
  : Ev G (d + 30) k n M_La_law 1343 [.ref (ev_big + 100), .ref 0, .ref 102, .int x3] [.int y1, .int y0] h R :=
  Ev.br (i := .if_icmp .eq (468)) (P := y0 = y1) (t := 1811) (f := 1346) (r := []) (by decide +kernel) rfl (fun c1 =>
    (k1 c1)
  ) (fun c1 =>
    Ev.go (pc' := 1347) (ls' := [.ref (ev_big + 100), .ref 0, .ref 102, .int x3]) (st' := [.int (0 : Int32)]) [.iconst 0] (by decide +kernel) rfl <|
    Ev.ret (r := (some (.int (0 : Int32)))) (Or.inl ⟨_, rfl, by decide +kernel, _, rfl, rfl⟩) (k2 c1)
  )
theorem b_La_law_1348 {G : ev_G} {d k n : Nat} {h : ev_H} {R : Option Value → ev_H → Prop} {x3 : Int32} {j1 : Nat}
  (i1 : ev_ix (x3 + (1 : Int32)) j1 (scL G))
  (r2 : ∃ fs, hat h 0 (oC 8 fs))
  (k1 : Ev G (d + 29) 0 0 M_X_pairs 0 [.ref 0, .int (scV G j1), ev_unk, ev_unk, ev_unk] [] h (fun r h1 => h1.1 ≤ h.1 + 0 → Ev G (d + 30) k n M_La_law 1357 [.ref (ev_big + 100), .ref 0, .ref 102, .int x3] (r.toList ++ []) h1 R))
  : Ev G (d + 30) k n M_La_law 1348 [.ref (ev_big + 100), .ref 0, .ref 102, .int x3] [] h R :=
  Ev.go (pc' := 1353) (ls' := [.ref (ev_big + 100), .ref 0, .ref 102, .int x3]) (st' := [.int (x3 + (1 : Int32)), .ref (ev_big + 100), .ref 0]) [.aload_n 1, .aload_n 0, .iload_n 3, .iconst 1, .iadd] (by decide +kernel) rfl <|
  Ev.scald (j := j1) (by decide +kernel) i1 <|
  Ev.cV0b (M' := M_X_pairs) (as := [.int (scV G j1)]) (rest := []) l_La_142 M_X_pairs_ok M_X_pairs_in M_X_pairs_se (by decide +kernel) r2 rfl rfl rfl (Nat.le_of_ble_eq_true rfl) (Nat.le_of_ble_eq_true rfl) k1
theorem b_La_law_1357 {G : ev_G} {d k n : Nat} {h : ev_H} {R : Option Value → ev_H → Prop} {x3 : Int32} {y0 : Int32} {j1 : Nat}
  (i1 : ev_ix (x3 + (1 : Int32)) j1 (scL G))
  (r2 : ∃ fs, hat h 102 (oC 9 fs))
  (k1 : Ev G (d + 29) 0 0 M_Mo_pairs 0 [.ref 102, .int (scV G j1), ev_unk, ev_unk, ev_unk, ev_unk, ev_unk] [] h (fun r h1 => h1.1 ≤ h.1 + 0 → Ev G (d + 30) k n M_La_law 1366 [.ref (ev_big + 100), .ref 0, .ref 102, .int x3] (r.toList ++ [.int y0]) h1 R))
  : Ev G (d + 30) k n M_La_law 1357 [.ref (ev_big + 100), .ref 0, .ref 102, .int x3] [.int y0] h R :=
  Ev.go (pc' := 1362) (ls' := [.ref (ev_big + 100), .ref 0, .ref 102, .int x3]) (st' := [.int (x3 + (1 : Int32)), .ref (ev_big + 100), .ref 102, .int y0]) [.aload_n 2, .aload_n 0, .iload_n 3, .iconst 1, .iadd] (by decide +kernel) rfl <|
  Ev.scald (j := j1) (by decide +kernel) i1 <|
  Ev.cV0b (M' := M_Mo_pairs) (as := [.int (scV G j1)]) (rest := [.int y0]) l_La_145 M_Mo_pairs_ok M_Mo_pairs_in M_Mo_pairs_se (by decide +kernel) r2 rfl rfl rfl (Nat.le_of_ble_eq_true rfl) (Nat.le_of_ble_eq_true rfl) k1
theorem b_La_law_1366 {G : ev_G} {d k n : Nat} {h : ev_H} {R : Option Value → ev_H → Prop} {x3 : Int32} {y0 : Int32} {y1 : Int32}
  (k1 : y0 = y1 → Ev G (d + 30) k n M_La_law 1811 [.ref (ev_big + 100), .ref 0, .ref 102, .int x3] [] h R)
  (k2 : ¬ y0 = y1 → R (some (.int (0 : Int32))) h)
  : Ev G (d + 30) k n M_La_law 1366 [.ref (ev_big + 100), .ref 0, .ref 102, .int x3] [.int y1, .int y0] h R :=
  Ev.br (i := .if_icmp .eq (445)) (P := y0 = y1) (t := 1811) (f := 1369) (r := []) (by decide +kernel) rfl (fun c1 =>
    (k1 c1)
  ) (fun c1 =>
    Ev.go (pc' := 1370) (ls' := [.ref (ev_big + 100), .ref 0, .ref 102, .int x3]) (st' := [.int (0 : Int32)]) [.iconst 0] (by decide +kernel) rfl <|
    Ev.ret (r := (some (.int (0 : Int32)))) (Or.inl ⟨_, rfl, by decide +kernel, _, rfl, rfl⟩) (k2 c1)
  )
theorem b_La_law_1371 {G : ev_G} {d k n : Nat} {h : ev_H} {R : Option Value → ev_H → Prop} {x3 : Int32} {j1 : Nat} {j2 : Nat} {j3 : Nat}
  (i1 : ev_ix (x3 + (1 : Int32)) j1 (scL G))
  (i2 : ev_ix (x3 + (2 : Int32)) j2 (scL G))
  (i3 : ev_ix (x3 + (3 : Int32)) j3 (scL G))
  (r4 : ∃ fs, hat h 0 (oC 8 fs))
  (k1 : Ev G (d + 29) 0 0 M_X_pair 0 [.ref 0, .int (scV G j1), .int (scV G j2), .int (scV G j3), ev_unk] [] h (fun r h1 => h1.1 ≤ h.1 + 0 → Ev G (d + 30) k n M_La_law 1390 [.ref (ev_big + 100), .ref 0, .ref 102, .int x3] (r.toList ++ []) h1 R))
  : Ev G (d + 30) k n M_La_law 1371 [.ref (ev_big + 100), .ref 0, .ref 102, .int x3] [] h R :=
  Ev.go (pc' := 1376) (ls' := [.ref (ev_big + 100), .ref 0, .ref 102, .int x3]) (st' := [.int (x3 + (1 : Int32)), .ref (ev_big + 100), .ref 0]) [.aload_n 1, .aload_n 0, .iload_n 3, .iconst 1, .iadd] (by decide +kernel) rfl <|
  Ev.scald (j := j1) (by decide +kernel) i1 <|
  Ev.go (pc' := 1381) (ls' := [.ref (ev_big + 100), .ref 0, .ref 102, .int x3]) (st' := [.int (x3 + (2 : Int32)), .ref (ev_big + 100), .int (scV G j1), .ref 0]) [.aload_n 0, .iload_n 3, .iconst 2, .iadd] (by decide +kernel) rfl <|
  Ev.scald (j := j2) (by decide +kernel) i2 <|
  Ev.go (pc' := 1386) (ls' := [.ref (ev_big + 100), .ref 0, .ref 102, .int x3]) (st' := [.int (x3 + (3 : Int32)), .ref (ev_big + 100), .int (scV G j2), .int (scV G j1), .ref 0]) [.aload_n 0, .iload_n 3, .iconst 3, .iadd] (by decide +kernel) rfl <|
  Ev.scald (j := j3) (by decide +kernel) i3 <|
  Ev.cV0b (M' := M_X_pair) (as := [.int (scV G j1), .int (scV G j2), .int (scV G j3)]) (rest := []) l_La_146 M_X_pair_ok M_X_pair_in M_X_pair_se (by decide +kernel) r4 rfl rfl rfl (Nat.le_of_ble_eq_true rfl) (Nat.le_of_ble_eq_true rfl) k1
theorem b_La_law_1390 {G : ev_G} {d k n : Nat} {h : ev_H} {R : Option Value → ev_H → Prop} {x3 : Int32} {y0 : Int32} {j1 : Nat} {j2 : Nat} {j3 : Nat}
  (i1 : ev_ix (x3 + (1 : Int32)) j1 (scL G))
  (i2 : ev_ix (x3 + (2 : Int32)) j2 (scL G))
  (i3 : ev_ix (x3 + (3 : Int32)) j3 (scL G))
  (r4 : ∃ fs, hat h 102 (oC 9 fs))
  (k1 : Ev G (d + 29) 0 0 M_Mo_pair 0 [.ref 102, .int (scV G j1), .int (scV G j2), .int (scV G j3), ev_unk, ev_unk, ev_unk, ev_unk, ev_unk] [] h (fun r h1 => h1.1 ≤ h.1 + 0 → Ev G (d + 30) k n M_La_law 1409 [.ref (ev_big + 100), .ref 0, .ref 102, .int x3] (r.toList ++ [.int y0]) h1 R))
  : Ev G (d + 30) k n M_La_law 1390 [.ref (ev_big + 100), .ref 0, .ref 102, .int x3] [.int y0] h R :=
  Ev.go (pc' := 1395) (ls' := [.ref (ev_big + 100), .ref 0, .ref 102, .int x3]) (st' := [.int (x3 + (1 : Int32)), .ref (ev_big + 100), .ref 102, .int y0]) [.aload_n 2, .aload_n 0, .iload_n 3, .iconst 1, .iadd] (by decide +kernel) rfl <|
  Ev.scald (j := j1) (by decide +kernel) i1 <|
  Ev.go (pc' := 1400) (ls' := [.ref (ev_big + 100), .ref 0, .ref 102, .int x3]) (st' := [.int (x3 + (2 : Int32)), .ref (ev_big + 100), .int (scV G j1), .ref 102, .int y0]) [.aload_n 0, .iload_n 3, .iconst 2, .iadd] (by decide +kernel) rfl <|
  Ev.scald (j := j2) (by decide +kernel) i2 <|
  Ev.go (pc' := 1405) (ls' := [.ref (ev_big + 100), .ref 0, .ref 102, .int x3]) (st' := [.int (x3 + (3 : Int32)), .ref (ev_big + 100), .int (scV G j2), .int (scV G j1), .ref 102, .int y0]) [.aload_n 0, .iload_n 3, .iconst 3, .iadd] (by decide +kernel) rfl <|
  Ev.scald (j := j3) (by decide +kernel) i3 <|
  Ev.cV0b (M' := M_Mo_pair) (as := [.int (scV G j1), .int (scV G j2), .int (scV G j3)]) (rest := [.int y0]) l_La_149 M_Mo_pair_ok M_Mo_pair_in M_Mo_pair_se (by decide +kernel) r4 rfl rfl rfl (Nat.le_of_ble_eq_true rfl) (Nat.le_of_ble_eq_true rfl) k1
theorem b_La_law_1409 {G : ev_G} {d k n : Nat} {h : ev_H} {R : Option Value → ev_H → Prop} {x3 : Int32} {y0 : Int32} {y1 : Int32}
  (k1 : y0 = y1 → Ev G (d + 30) k n M_La_law 1811 [.ref (ev_big + 100), .ref 0, .ref 102, .int x3] [] h R)
  (k2 : ¬ y0 = y1 → R (some (.int (0 : Int32))) h)
  : Ev G (d + 30) k n M_La_law 1409 [.ref (ev_big + 100), .ref 0, .ref 102, .int x3] [.int y1, .int y0] h R :=
  Ev.br (i := .if_icmp .eq (402)) (P := y0 = y1) (t := 1811) (f := 1412) (r := []) (by decide +kernel) rfl (fun c1 =>
    (k1 c1)
  ) (fun c1 =>
    Ev.go (pc' := 1413) (ls' := [.ref (ev_big + 100), .ref 0, .ref 102, .int x3]) (st' := [.int (0 : Int32)]) [.iconst 0] (by decide +kernel) rfl <|
    Ev.ret (r := (some (.int (0 : Int32)))) (Or.inl ⟨_, rfl, by decide +kernel, _, rfl, rfl⟩) (k2 c1)
  )
theorem b_La_law_1414 {G : ev_G} {d k n : Nat} {h : ev_H} {R : Option Value → ev_H → Prop} {x3 : Int32} {j1 : Nat}
  (i1 : ev_ix (x3 + (1 : Int32)) j1 (scL G))
  (r2 : ∃ fs, hat h 0 (oC 8 fs))
  (k1 : Ev G (d + 29) 0 0 M_X_joined 0 [.ref 0, .int (scV G j1), ev_unk, ev_unk, ev_unk] [] h (fun r h1 => h1.1 ≤ h.1 + 0 → Ev G (d + 30) k n M_La_law 1423 [.ref (ev_big + 100), .ref 0, .ref 102, .int x3] (r.toList ++ []) h1 R))
  : Ev G (d + 30) k n M_La_law 1414 [.ref (ev_big + 100), .ref 0, .ref 102, .int x3] [] h R :=
  Ev.go (pc' := 1419) (ls' := [.ref (ev_big + 100), .ref 0, .ref 102, .int x3]) (st' := [.int (x3 + (1 : Int32)), .ref (ev_big + 100), .ref 0]) [.aload_n 1, .aload_n 0, .iload_n 3, .iconst 1, .iadd] (by decide +kernel) rfl <|
  Ev.scald (j := j1) (by decide +kernel) i1 <|
  Ev.cV0b (M' := M_X_joined) (as := [.int (scV G j1)]) (rest := []) l_La_150 M_X_joined_ok M_X_joined_in M_X_joined_se (by decide +kernel) r2 rfl rfl rfl (Nat.le_of_ble_eq_true rfl) (Nat.le_of_ble_eq_true rfl) k1
theorem b_La_law_1423 {G : ev_G} {d k n : Nat} {h : ev_H} {R : Option Value → ev_H → Prop} {x3 : Int32} {y0 : Int32} {j1 : Nat}
  (i1 : ev_ix (x3 + (1 : Int32)) j1 (scL G))
  (r2 : ∃ fs, hat h 102 (oC 9 fs))
  (k1 : Ev G (d + 29) 0 0 M_Mo_joined 0 [.ref 102, .int (scV G j1), ev_unk, ev_unk, ev_unk, ev_unk] [] h (fun r h1 => h1.1 ≤ h.1 + 0 → Ev G (d + 30) k n M_La_law 1432 [.ref (ev_big + 100), .ref 0, .ref 102, .int x3] (r.toList ++ [.int y0]) h1 R))
  : Ev G (d + 30) k n M_La_law 1423 [.ref (ev_big + 100), .ref 0, .ref 102, .int x3] [.int y0] h R :=
  Ev.go (pc' := 1428) (ls' := [.ref (ev_big + 100), .ref 0, .ref 102, .int x3]) (st' := [.int (x3 + (1 : Int32)), .ref (ev_big + 100), .ref 102, .int y0]) [.aload_n 2, .aload_n 0, .iload_n 3, .iconst 1, .iadd] (by decide +kernel) rfl <|
  Ev.scald (j := j1) (by decide +kernel) i1 <|
  Ev.cV0b (M' := M_Mo_joined) (as := [.int (scV G j1)]) (rest := [.int y0]) l_La_153 M_Mo_joined_ok M_Mo_joined_in M_Mo_joined_se (by decide +kernel) r2 rfl rfl rfl (Nat.le_of_ble_eq_true rfl) (Nat.le_of_ble_eq_true rfl) k1
theorem b_La_law_1432 {G : ev_G} {d k n : Nat} {h : ev_H} {R : Option Value → ev_H → Prop} {x3 : Int32} {y0 : Int32} {y1 : Int32}
  (k1 : y0 = y1 → Ev G (d + 30) k n M_La_law 1811 [.ref (ev_big + 100), .ref 0, .ref 102, .int x3] [] h R)
  (k2 : ¬ y0 = y1 → R (some (.int (0 : Int32))) h)
  : Ev G (d + 30) k n M_La_law 1432 [.ref (ev_big + 100), .ref 0, .ref 102, .int x3] [.int y1, .int y0] h R :=
  Ev.br (i := .if_icmp .eq (379)) (P := y0 = y1) (t := 1811) (f := 1435) (r := []) (by decide +kernel) rfl (fun c1 =>
    (k1 c1)
  ) (fun c1 =>
    Ev.go (pc' := 1436) (ls' := [.ref (ev_big + 100), .ref 0, .ref 102, .int x3]) (st' := [.int (0 : Int32)]) [.iconst 0] (by decide +kernel) rfl <|
    Ev.ret (r := (some (.int (0 : Int32)))) (Or.inl ⟨_, rfl, by decide +kernel, _, rfl, rfl⟩) (k2 c1)
  )
theorem b_La_law_1437 {G : ev_G} {d k n : Nat} {h : ev_H} {R : Option Value → ev_H → Prop} {x3 : Int32} {j1 : Nat}
  (i1 : ev_ix (x3 + (1 : Int32)) j1 (scL G))
  (r2 : ∃ fs, hat h 0 (oC 8 fs))
  (k1 : Ev G (d + 29) 0 0 M_X_closest 0 [.ref 0, .int (scV G j1), ev_unk] [] h (fun r h1 => h1.1 ≤ h.1 + 0 → Ev G (d + 30) k n M_La_law 1446 [.ref (ev_big + 100), .ref 0, .ref 102, .int x3] (r.toList ++ []) h1 R))
  : Ev G (d + 30) k n M_La_law 1437 [.ref (ev_big + 100), .ref 0, .ref 102, .int x3] [] h R :=
  Ev.go (pc' := 1442) (ls' := [.ref (ev_big + 100), .ref 0, .ref 102, .int x3]) (st' := [.int (x3 + (1 : Int32)), .ref (ev_big + 100), .ref 0]) [.aload_n 1, .aload_n 0, .iload_n 3, .iconst 1, .iadd] (by decide +kernel) rfl <|
  Ev.scald (j := j1) (by decide +kernel) i1 <|
  Ev.cV0b (M' := M_X_closest) (as := [.int (scV G j1)]) (rest := []) l_La_154 M_X_closest_ok M_X_closest_in M_X_closest_se (by decide +kernel) r2 rfl rfl rfl (Nat.le_of_ble_eq_true rfl) (Nat.le_of_ble_eq_true rfl) k1
theorem b_La_law_1446 {G : ev_G} {d k n : Nat} {h : ev_H} {R : Option Value → ev_H → Prop} {x3 : Int32} {y0 : Int32} {j1 : Nat}
  (i1 : ev_ix (x3 + (1 : Int32)) j1 (scL G))
  (r2 : ∃ fs, hat h 102 (oC 9 fs))
  (k1 : Ev G (d + 29) 0 0 M_Mo_closest 0 [.ref 102, .int (scV G j1), ev_unk, ev_unk, ev_unk, ev_unk, ev_unk, ev_unk, ev_unk] [] h (fun r h1 => h1.1 ≤ h.1 + 0 → Ev G (d + 30) k n M_La_law 1455 [.ref (ev_big + 100), .ref 0, .ref 102, .int x3] (r.toList ++ [.int y0]) h1 R))
  : Ev G (d + 30) k n M_La_law 1446 [.ref (ev_big + 100), .ref 0, .ref 102, .int x3] [.int y0] h R :=
  Ev.go (pc' := 1451) (ls' := [.ref (ev_big + 100), .ref 0, .ref 102, .int x3]) (st' := [.int (x3 + (1 : Int32)), .ref (ev_big + 100), .ref 102, .int y0]) [.aload_n 2, .aload_n 0, .iload_n 3, .iconst 1, .iadd] (by decide +kernel) rfl <|
  Ev.scald (j := j1) (by decide +kernel) i1 <|
  Ev.cV0b (M' := M_Mo_closest) (as := [.int (scV G j1)]) (rest := [.int y0]) l_La_157 M_Mo_closest_ok M_Mo_closest_in M_Mo_closest_se (by decide +kernel) r2 rfl rfl rfl (Nat.le_of_ble_eq_true rfl) (Nat.le_of_ble_eq_true rfl) k1
theorem b_La_law_1455 {G : ev_G} {d k n : Nat} {h : ev_H} {R : Option Value → ev_H → Prop} {x3 : Int32} {y0 : Int32} {y1 : Int32}
  (k1 : y0 = y1 → Ev G (d + 30) k n M_La_law 1811 [.ref (ev_big + 100), .ref 0, .ref 102, .int x3] [] h R)
  (k2 : ¬ y0 = y1 → R (some (.int (0 : Int32))) h)
  : Ev G (d + 30) k n M_La_law 1455 [.ref (ev_big + 100), .ref 0, .ref 102, .int x3] [.int y1, .int y0] h R :=
  Ev.br (i := .if_icmp .eq (356)) (P := y0 = y1) (t := 1811) (f := 1458) (r := []) (by decide +kernel) rfl (fun c1 =>
    (k1 c1)
  ) (fun c1 =>
    Ev.go (pc' := 1459) (ls' := [.ref (ev_big + 100), .ref 0, .ref 102, .int x3]) (st' := [.int (0 : Int32)]) [.iconst 0] (by decide +kernel) rfl <|
    Ev.ret (r := (some (.int (0 : Int32)))) (Or.inl ⟨_, rfl, by decide +kernel, _, rfl, rfl⟩) (k2 c1)
  )
theorem b_La_law_1460 {G : ev_G} {d k n : Nat} {h : ev_H} {R : Option Value → ev_H → Prop} {x3 : Int32} {j1 : Nat} {j2 : Nat}
  (i1 : ev_ix (x3 + (1 : Int32)) j1 (scL G))
  (i2 : ev_ix (x3 + (2 : Int32)) j2 (scL G))
  (r3 : ∃ fs, hat h 0 (oC 8 fs))
  (k1 : Ev G (d + 29) 0 0 M_X_clusters 0 [.ref 0, .int (scV G j1), .int (scV G j2), ev_unk, ev_unk, ev_unk, ev_unk, ev_unk, ev_unk] [] h (fun r h1 => h1.1 ≤ h.1 + 0 → Ev G (d + 30) k n M_La_law 1474 [.ref (ev_big + 100), .ref 0, .ref 102, .int x3] (r.toList ++ []) h1 R))
  : Ev G (d + 30) k n M_La_law 1460 [.ref (ev_big + 100), .ref 0, .ref 102, .int x3] [] h R :=
  Ev.go (pc' := 1465) (ls' := [.ref (ev_big + 100), .ref 0, .ref 102, .int x3]) (st' := [.int (x3 + (1 : Int32)), .ref (ev_big + 100), .ref 0]) [.aload_n 1, .aload_n 0, .iload_n 3, .iconst 1, .iadd] (by decide +kernel) rfl <|
  Ev.scald (j := j1) (by decide +kernel) i1 <|
  Ev.go (pc' := 1470) (ls' := [.ref (ev_big + 100), .ref 0, .ref 102, .int x3]) (st' := [.int (x3 + (2 : Int32)), .ref (ev_big + 100), .int (scV G j1), .ref 0]) [.aload_n 0, .iload_n 3, .iconst 2, .iadd] (by decide +kernel) rfl <|
  Ev.scald (j := j2) (by decide +kernel) i2 <|
  Ev.cV0b (M' := M_X_clusters) (as := [.int (scV G j1), .int (scV G j2)]) (rest := []) l_La_158 M_X_clusters_ok M_X_clusters_in M_X_clusters_se (by decide +kernel) r3 rfl rfl rfl (Nat.le_of_ble_eq_true rfl) (Nat.le_of_ble_eq_true rfl) k1
theorem b_La_law_1474 {G : ev_G} {d k n : Nat} {h : ev_H} {R : Option Value → ev_H → Prop} {x3 : Int32} {y0 : Int32} {j1 : Nat} {j2 : Nat}
  (i1 : ev_ix (x3 + (1 : Int32)) j1 (scL G))
  (i2 : ev_ix (x3 + (2 : Int32)) j2 (scL G))
  (r3 : ∃ fs, hat h 102 (oC 9 fs))
  (k1 : Ev G (d + 29) 0 0 M_Mo_clusters 0 [.ref 102, .int (scV G j1), .int (scV G j2), ev_unk, ev_unk, ev_unk, ev_unk, ev_unk, ev_unk, ev_unk, ev_unk] [] h (fun r h1 => h1.1 ≤ h.1 + 0 → Ev G (d + 30) k n M_La_law 1488 [.ref (ev_big + 100), .ref 0, .ref 102, .int x3] (r.toList ++ [.int y0]) h1 R))
  : Ev G (d + 30) k n M_La_law 1474 [.ref (ev_big + 100), .ref 0, .ref 102, .int x3] [.int y0] h R :=
  Ev.go (pc' := 1479) (ls' := [.ref (ev_big + 100), .ref 0, .ref 102, .int x3]) (st' := [.int (x3 + (1 : Int32)), .ref (ev_big + 100), .ref 102, .int y0]) [.aload_n 2, .aload_n 0, .iload_n 3, .iconst 1, .iadd] (by decide +kernel) rfl <|
  Ev.scald (j := j1) (by decide +kernel) i1 <|
  Ev.go (pc' := 1484) (ls' := [.ref (ev_big + 100), .ref 0, .ref 102, .int x3]) (st' := [.int (x3 + (2 : Int32)), .ref (ev_big + 100), .int (scV G j1), .ref 102, .int y0]) [.aload_n 0, .iload_n 3, .iconst 2, .iadd] (by decide +kernel) rfl <|
  Ev.scald (j := j2) (by decide +kernel) i2 <|
  Ev.cV0b (M' := M_Mo_clusters) (as := [.int (scV G j1), .int (scV G j2)]) (rest := [.int y0]) l_La_161 M_Mo_clusters_ok M_Mo_clusters_in M_Mo_clusters_se (by decide +kernel) r3 rfl rfl rfl (Nat.le_of_ble_eq_true rfl) (Nat.le_of_ble_eq_true rfl) k1
theorem b_La_law_1488 {G : ev_G} {d k n : Nat} {h : ev_H} {R : Option Value → ev_H → Prop} {x3 : Int32} {y0 : Int32} {y1 : Int32}
  (k1 : y0 = y1 → Ev G (d + 30) k n M_La_law 1811 [.ref (ev_big + 100), .ref 0, .ref 102, .int x3] [] h R)
  (k2 : ¬ y0 = y1 → R (some (.int (0 : Int32))) h)
  : Ev G (d + 30) k n M_La_law 1488 [.ref (ev_big + 100), .ref 0, .ref 102, .int x3] [.int y1, .int y0] h R :=
  Ev.br (i := .if_icmp .eq (323)) (P := y0 = y1) (t := 1811) (f := 1491) (r := []) (by decide +kernel) rfl (fun c1 =>
    (k1 c1)
  ) (fun c1 =>
    Ev.go (pc' := 1492) (ls' := [.ref (ev_big + 100), .ref 0, .ref 102, .int x3]) (st' := [.int (0 : Int32)]) [.iconst 0] (by decide +kernel) rfl <|
    Ev.ret (r := (some (.int (0 : Int32)))) (Or.inl ⟨_, rfl, by decide +kernel, _, rfl, rfl⟩) (k2 c1)
  )
theorem b_La_law_1493 {G : ev_G} {d k n : Nat} {h : ev_H} {R : Option Value → ev_H → Prop} {x3 : Int32} {j1 : Nat} {j2 : Nat} {j3 : Nat}
  (i1 : ev_ix (x3 + (1 : Int32)) j1 (scL G))
  (i2 : ev_ix (x3 + (2 : Int32)) j2 (scL G))
  (i3 : ev_ix (x3 + (3 : Int32)) j3 (scL G))
  (r4 : ∃ fs, hat h 0 (oC 8 fs))
  (k1 : Ev G (d + 29) 0 0 M_X_cluster 0 [.ref 0, .int (scV G j1), .int (scV G j2), .int (scV G j3), ev_unk, ev_unk] [] h (fun r h1 => h1.1 ≤ h.1 + 0 → Ev G (d + 30) k n M_La_law 1512 [.ref (ev_big + 100), .ref 0, .ref 102, .int x3] (r.toList ++ []) h1 R))
  : Ev G (d + 30) k n M_La_law 1493 [.ref (ev_big + 100), .ref 0, .ref 102, .int x3] [] h R :=
  Ev.go (pc' := 1498) (ls' := [.ref (ev_big + 100), .ref 0, .ref 102, .int x3]) (st' := [.int (x3 + (1 : Int32)), .ref (ev_big + 100), .ref 0]) [.aload_n 1, .aload_n 0, .iload_n 3, .iconst 1, .iadd] (by decide +kernel) rfl <|
  Ev.scald (j := j1) (by decide +kernel) i1 <|
  Ev.go (pc' := 1503) (ls' := [.ref (ev_big + 100), .ref 0, .ref 102, .int x3]) (st' := [.int (x3 + (2 : Int32)), .ref (ev_big + 100), .int (scV G j1), .ref 0]) [.aload_n 0, .iload_n 3, .iconst 2, .iadd] (by decide +kernel) rfl <|
  Ev.scald (j := j2) (by decide +kernel) i2 <|
  Ev.go (pc' := 1508) (ls' := [.ref (ev_big + 100), .ref 0, .ref 102, .int x3]) (st' := [.int (x3 + (3 : Int32)), .ref (ev_big + 100), .int (scV G j2), .int (scV G j1), .ref 0]) [.aload_n 0, .iload_n 3, .iconst 3, .iadd] (by decide +kernel) rfl <|
  Ev.scald (j := j3) (by decide +kernel) i3 <|
  Ev.cV0b (M' := M_X_cluster) (as := [.int (scV G j1), .int (scV G j2), .int (scV G j3)]) (rest := []) l_La_162 M_X_cluster_ok M_X_cluster_in M_X_cluster_se (by decide +kernel) r4 rfl rfl rfl (Nat.le_of_ble_eq_true rfl) (Nat.le_of_ble_eq_true rfl) k1
theorem b_La_law_1512 {G : ev_G} {d k n : Nat} {h : ev_H} {R : Option Value → ev_H → Prop} {x3 : Int32} {y0 : Int32} {j1 : Nat} {j2 : Nat} {j3 : Nat}
  (i1 : ev_ix (x3 + (1 : Int32)) j1 (scL G))
  (i2 : ev_ix (x3 + (2 : Int32)) j2 (scL G))
  (i3 : ev_ix (x3 + (3 : Int32)) j3 (scL G))
  (r4 : ∃ fs, hat h 102 (oC 9 fs))
  (k1 : Ev G (d + 29) 0 0 M_Mo_cluster 0 [.ref 102, .int (scV G j1), .int (scV G j2), .int (scV G j3), ev_unk, ev_unk, ev_unk, ev_unk] [] h (fun r h1 => h1.1 ≤ h.1 + 0 → Ev G (d + 30) k n M_La_law 1531 [.ref (ev_big + 100), .ref 0, .ref 102, .int x3] (r.toList ++ [.int y0]) h1 R))
  : Ev G (d + 30) k n M_La_law 1512 [.ref (ev_big + 100), .ref 0, .ref 102, .int x3] [.int y0] h R :=
  Ev.go (pc' := 1517) (ls' := [.ref (ev_big + 100), .ref 0, .ref 102, .int x3]) (st' := [.int (x3 + (1 : Int32)), .ref (ev_big + 100), .ref 102, .int y0]) [.aload_n 2, .aload_n 0, .iload_n 3, .iconst 1, .iadd] (by decide +kernel) rfl <|
  Ev.scald (j := j1) (by decide +kernel) i1 <|
  Ev.go (pc' := 1522) (ls' := [.ref (ev_big + 100), .ref 0, .ref 102, .int x3]) (st' := [.int (x3 + (2 : Int32)), .ref (ev_big + 100), .int (scV G j1), .ref 102, .int y0]) [.aload_n 0, .iload_n 3, .iconst 2, .iadd] (by decide +kernel) rfl <|
  Ev.scald (j := j2) (by decide +kernel) i2 <|
  Ev.go (pc' := 1527) (ls' := [.ref (ev_big + 100), .ref 0, .ref 102, .int x3]) (st' := [.int (x3 + (3 : Int32)), .ref (ev_big + 100), .int (scV G j2), .int (scV G j1), .ref 102, .int y0]) [.aload_n 0, .iload_n 3, .iconst 3, .iadd] (by decide +kernel) rfl <|
  Ev.scald (j := j3) (by decide +kernel) i3 <|
  Ev.cV0b (M' := M_Mo_cluster) (as := [.int (scV G j1), .int (scV G j2), .int (scV G j3)]) (rest := [.int y0]) l_La_165 M_Mo_cluster_ok M_Mo_cluster_in M_Mo_cluster_se (by decide +kernel) r4 rfl rfl rfl (Nat.le_of_ble_eq_true rfl) (Nat.le_of_ble_eq_true rfl) k1
theorem b_La_law_1531 {G : ev_G} {d k n : Nat} {h : ev_H} {R : Option Value → ev_H → Prop} {x3 : Int32} {y0 : Int32} {y1 : Int32}
  (k1 : y0 = y1 → Ev G (d + 30) k n M_La_law 1811 [.ref (ev_big + 100), .ref 0, .ref 102, .int x3] [] h R)
  (k2 : ¬ y0 = y1 → R (some (.int (0 : Int32))) h)
  : Ev G (d + 30) k n M_La_law 1531 [.ref (ev_big + 100), .ref 0, .ref 102, .int x3] [.int y1, .int y0] h R :=
  Ev.br (i := .if_icmp .eq (280)) (P := y0 = y1) (t := 1811) (f := 1534) (r := []) (by decide +kernel) rfl (fun c1 =>
    (k1 c1)
  ) (fun c1 =>
    Ev.go (pc' := 1535) (ls' := [.ref (ev_big + 100), .ref 0, .ref 102, .int x3]) (st' := [.int (0 : Int32)]) [.iconst 0] (by decide +kernel) rfl <|
    Ev.ret (r := (some (.int (0 : Int32)))) (Or.inl ⟨_, rfl, by decide +kernel, _, rfl, rfl⟩) (k2 c1)
  )
theorem b_La_law_1536 {G : ev_G} {d k n : Nat} {h : ev_H} {R : Option Value → ev_H → Prop} {x3 : Int32} {j1 : Nat}
  (i1 : ev_ix (x3 + (1 : Int32)) j1 (scL G))
  (r2 : ∃ fs, hat h 0 (oC 8 fs))
  (k1 : Ev G (d + 29) 0 0 M_X_vote 0 [.ref 0, .int (scV G j1), ev_unk, ev_unk, ev_unk, ev_unk] [] h (fun r h1 => h1.1 ≤ h.1 + 0 → Ev G (d + 30) k n M_La_law 1545 [.ref (ev_big + 100), .ref 0, .ref 102, .int x3] (r.toList ++ []) h1 R))
  : Ev G (d + 30) k n M_La_law 1536 [.ref (ev_big + 100), .ref 0, .ref 102, .int x3] [] h R :=
  Ev.go (pc' := 1541) (ls' := [.ref (ev_big + 100), .ref 0, .ref 102, .int x3]) (st' := [.int (x3 + (1 : Int32)), .ref (ev_big + 100), .ref 0]) [.aload_n 1, .aload_n 0, .iload_n 3, .iconst 1, .iadd] (by decide +kernel) rfl <|
  Ev.scald (j := j1) (by decide +kernel) i1 <|
  Ev.cV0b (M' := M_X_vote) (as := [.int (scV G j1)]) (rest := []) l_La_166 M_X_vote_ok M_X_vote_in M_X_vote_se (by decide +kernel) r2 rfl rfl rfl (Nat.le_of_ble_eq_true rfl) (Nat.le_of_ble_eq_true rfl) k1
theorem b_La_law_1545 {G : ev_G} {d k n : Nat} {h : ev_H} {R : Option Value → ev_H → Prop} {x3 : Int32} {y0 : Int64} {j1 : Nat}
  (i1 : ev_ix (x3 + (1 : Int32)) j1 (scL G))
  (r2 : ∃ fs, hat h 102 (oC 9 fs))
  (k1 : Ev G (d + 29) 0 0 M_Mo_vote 0 [.ref 102, .int (scV G j1), ev_unk, ev_unk, ev_unk, ev_unk, ev_unk, ev_unk, ev_unk] [] h (fun r h1 => h1.1 ≤ h.1 + 0 → Ev G (d + 30) k n M_La_law 1554 [.ref (ev_big + 100), .ref 0, .ref 102, .int x3] (r.toList ++ [.long y0]) h1 R))
  : Ev G (d + 30) k n M_La_law 1545 [.ref (ev_big + 100), .ref 0, .ref 102, .int x3] [.long y0] h R :=
  Ev.go (pc' := 1550) (ls' := [.ref (ev_big + 100), .ref 0, .ref 102, .int x3]) (st' := [.int (x3 + (1 : Int32)), .ref (ev_big + 100), .ref 102, .long y0]) [.aload_n 2, .aload_n 0, .iload_n 3, .iconst 1, .iadd] (by decide +kernel) rfl <|
  Ev.scald (j := j1) (by decide +kernel) i1 <|
  Ev.cV0b (M' := M_Mo_vote) (as := [.int (scV G j1)]) (rest := [.long y0]) l_La_169 M_Mo_vote_ok M_Mo_vote_in M_Mo_vote_se (by decide +kernel) r2 rfl rfl rfl (Nat.le_of_ble_eq_true rfl) (Nat.le_of_ble_eq_true rfl) k1
theorem b_La_law_1554 {G : ev_G} {d k n : Nat} {h : ev_H} {R : Option Value → ev_H → Prop} {x3 : Int32} {y0 : Int64} {y1 : Int64}
  (k1 : y0 = y1 → Ev G (d + 30) k n M_La_law 1811 [.ref (ev_big + 100), .ref 0, .ref 102, .int x3] [] h R)
  (k2 : ¬ y0 = y1 → R (some (.int (0 : Int32))) h)
  : Ev G (d + 30) k n M_La_law 1554 [.ref (ev_big + 100), .ref 0, .ref 102, .int x3] [.long y1, .long y0] h R :=
  Ev.brl (c := .eq) (o := 256) (P := y0 = y1) (t := 1811) (f := 1558) (t1 := 1811) (by decide +kernel) (by decide +kernel) rfl rfl (fun c1 =>
    (k1 c1)
  ) (fun c1 =>
    Ev.go (pc' := 1559) (ls' := [.ref (ev_big + 100), .ref 0, .ref 102, .int x3]) (st' := [.int (0 : Int32)]) [.iconst 0] (by decide +kernel) rfl <|
    Ev.ret (r := (some (.int (0 : Int32)))) (Or.inl ⟨_, rfl, by decide +kernel, _, rfl, rfl⟩) (k2 c1)
  )
theorem b_La_law_1560 {G : ev_G} {d k n : Nat} {h : ev_H} {R : Option Value → ev_H → Prop} {x3 : Int32} {j1 : Nat} {j2 : Nat} {j3 : Nat} {j4 : Nat}
  (i1 : ev_ix (x3 + (1 : Int32)) j1 (scL G))
  (i2 : ev_ix (x3 + (2 : Int32)) j2 (scL G))
  (i3 : ev_ix (x3 + (3 : Int32)) j3 (scL G))
  (i4 : ev_ix (x3 + (4 : Int32)) j4 (scL G))
  (r5 : ∃ fs, hat h 0 (oC 8 fs))
  (k1 : Ev G (d + 29) 0 0 M_X_like 0 [.ref 0, .long (((scV G j1).toInt64 <<< ((32 : Int32).toInt64 &&& 63)) ||| ((scV G j2).toInt64 &&& (4294967295 : Int64))), ev_unk, .long (((scV G j3).toInt64 <<< ((32 : Int32).toInt64 &&& 63)) ||| ((scV G j4).toInt64 &&& (4294967295 : Int64))), ev_unk, ev_unk, ev_unk, ev_unk] [] h (fun r h1 => h1.1 ≤ h.1 + 0 → Ev G (d + 30) k n M_La_law 1604 [.ref (ev_big + 100), .ref 0, .ref 102, .int x3] (r.toList ++ []) h1 R))
  : Ev G (d + 30) k n M_La_law 1560 [.ref (ev_big + 100), .ref 0, .ref 102, .int x3] [] h R :=
  Ev.go (pc' := 1565) (ls' := [.ref (ev_big + 100), .ref 0, .ref 102, .int x3]) (st' := [.int (x3 + (1 : Int32)), .ref (ev_big + 100), .ref 0]) [.aload_n 1, .aload_n 0, .iload_n 3, .iconst 1, .iadd] (by decide +kernel) rfl <|
  Ev.scald (j := j1) (by decide +kernel) i1 <|
  Ev.go (pc' := 1574) (ls' := [.ref (ev_big + 100), .ref 0, .ref 102, .int x3]) (st' := [.int (x3 + (2 : Int32)), .ref (ev_big + 100), .long ((scV G j1).toInt64 <<< ((32 : Int32).toInt64 &&& 63)), .ref 0]) [.i2l, .bipush (32), .lshl, .aload_n 0, .iload_n 3, .iconst 2, .iadd] (by decide +kernel) rfl <|
  Ev.scald (j := j2) (by decide +kernel) i2 <|
  Ev.go (pc' := 1576) (ls' := [.ref (ev_big + 100), .ref 0, .ref 102, .int x3]) (st' := [.long (scV G j2).toInt64, .long ((scV G j1).toInt64 <<< ((32 : Int32).toInt64 &&& 63)), .ref 0]) [.i2l] (by decide +kernel) rfl <|
  Ev.ldc2 k_La_54 (by decide +kernel) <|
  Ev.go (pc' := 1585) (ls' := [.ref (ev_big + 100), .ref 0, .ref 102, .int x3]) (st' := [.int (x3 + (3 : Int32)), .ref (ev_big + 100), .long (((scV G j1).toInt64 <<< ((32 : Int32).toInt64 &&& 63)) ||| ((scV G j2).toInt64 &&& (4294967295 : Int64))), .ref 0]) [.land, .lor, .aload_n 0, .iload_n 3, .iconst 3, .iadd] (by decide +kernel) rfl <|
  Ev.scald (j := j3) (by decide +kernel) i3 <|
  Ev.go (pc' := 1594) (ls' := [.ref (ev_big + 100), .ref 0, .ref 102, .int x3]) (st' := [.int (x3 + (4 : Int32)), .ref (ev_big + 100), .long ((scV G j3).toInt64 <<< ((32 : Int32).toInt64 &&& 63)), .long (((scV G j1).toInt64 <<< ((32 : Int32).toInt64 &&& 63)) ||| ((scV G j2).toInt64 &&& (4294967295 : Int64))), .ref 0]) [.i2l, .bipush (32), .lshl, .aload_n 0, .iload_n 3, .iconst 4, .iadd] (by decide +kernel) rfl <|
  Ev.scald (j := j4) (by decide +kernel) i4 <|
  Ev.go (pc' := 1596) (ls' := [.ref (ev_big + 100), .ref 0, .ref 102, .int x3]) (st' := [.long (scV G j4).toInt64, .long ((scV G j3).toInt64 <<< ((32 : Int32).toInt64 &&& 63)), .long (((scV G j1).toInt64 <<< ((32 : Int32).toInt64 &&& 63)) ||| ((scV G j2).toInt64 &&& (4294967295 : Int64))), .ref 0]) [.i2l] (by decide +kernel) rfl <|
  Ev.ldc2 k_La_54 (by decide +kernel) <|
  Ev.go (pc' := 1601) (ls' := [.ref (ev_big + 100), .ref 0, .ref 102, .int x3]) (st' := [.long (((scV G j3).toInt64 <<< ((32 : Int32).toInt64 &&& 63)) ||| ((scV G j4).toInt64 &&& (4294967295 : Int64))), .long (((scV G j1).toInt64 <<< ((32 : Int32).toInt64 &&& 63)) ||| ((scV G j2).toInt64 &&& (4294967295 : Int64))), .ref 0]) [.land, .lor] (by decide +kernel) rfl <|
  Ev.cV0b (M' := M_X_like) (as := [.long (((scV G j1).toInt64 <<< ((32 : Int32).toInt64 &&& 63)) ||| ((scV G j2).toInt64 &&& (4294967295 : Int64))), .long (((scV G j3).toInt64 <<< ((32 : Int32).toInt64 &&& 63)) ||| ((scV G j4).toInt64 &&& (4294967295 : Int64)))]) (rest := []) l_La_170 M_X_like_ok M_X_like_in M_X_like_se (by decide +kernel) r5 rfl rfl rfl (Nat.le_of_ble_eq_true rfl) (Nat.le_of_ble_eq_true rfl) k1
theorem b_La_law_1604 {G : ev_G} {d k n : Nat} {h : ev_H} {R : Option Value → ev_H → Prop} {x3 : Int32} {y0 : Int32} {j1 : Nat} {j2 : Nat} {j3 : Nat} {j4 : Nat}
  (i1 : ev_ix (x3 + (1 : Int32)) j1 (scL G))
  (i2 : ev_ix (x3 + (2 : Int32)) j2 (scL G))
  (i3 : ev_ix (x3 + (3 : Int32)) j3 (scL G))
  (i4 : ev_ix (x3 + (4 : Int32)) j4 (scL G))
  (r5 : ∃ fs, hat h 102 (oC 9 fs))
  (k1 : Ev G (d + 29) 0 0 M_Mo_like 0 [.ref 102, .long (((scV G j1).toInt64 <<< ((32 : Int32).toInt64 &&& 63)) ||| ((scV G j2).toInt64 &&& (4294967295 : Int64))), ev_unk, .long (((scV G j3).toInt64 <<< ((32 : Int32).toInt64 &&& 63)) ||| ((scV G j4).toInt64 &&& (4294967295 : Int64))), ev_unk, ev_unk, ev_unk, ev_unk] [] h (fun r h1 => h1.1 ≤ h.1 + 0 → Ev G (d + 30) k n M_La_law 1648 [.ref (ev_big + 100), .ref 0, .ref 102, .int x3] (r.toList ++ [.int y0]) h1 R))
  : Ev G (d + 30) k n M_La_law 1604 [.ref (ev_big + 100), .ref 0, .ref 102, .int x3] [.int y0] h R :=
  Ev.go (pc' := 1609) (ls' := [.ref (ev_big + 100), .ref 0, .ref 102, .int x3]) (st' := [.int (x3 + (1 : Int32)), .ref (ev_big + 100), .ref 102, .int y0]) [.aload_n 2, .aload_n 0, .iload_n 3, .iconst 1, .iadd] (by decide +kernel) rfl <|
  Ev.scald (j := j1) (by decide +kernel) i1 <|
  Ev.go (pc' := 1618) (ls' := [.ref (ev_big + 100), .ref 0, .ref 102, .int x3]) (st' := [.int (x3 + (2 : Int32)), .ref (ev_big + 100), .long ((scV G j1).toInt64 <<< ((32 : Int32).toInt64 &&& 63)), .ref 102, .int y0]) [.i2l, .bipush (32), .lshl, .aload_n 0, .iload_n 3, .iconst 2, .iadd] (by decide +kernel) rfl <|
  Ev.scald (j := j2) (by decide +kernel) i2 <|
  Ev.go (pc' := 1620) (ls' := [.ref (ev_big + 100), .ref 0, .ref 102, .int x3]) (st' := [.long (scV G j2).toInt64, .long ((scV G j1).toInt64 <<< ((32 : Int32).toInt64 &&& 63)), .ref 102, .int y0]) [.i2l] (by decide +kernel) rfl <|
  Ev.ldc2 k_La_54 (by decide +kernel) <|
  Ev.go (pc' := 1629) (ls' := [.ref (ev_big + 100), .ref 0, .ref 102, .int x3]) (st' := [.int (x3 + (3 : Int32)), .ref (ev_big + 100), .long (((scV G j1).toInt64 <<< ((32 : Int32).toInt64 &&& 63)) ||| ((scV G j2).toInt64 &&& (4294967295 : Int64))), .ref 102, .int y0]) [.land, .lor, .aload_n 0, .iload_n 3, .iconst 3, .iadd] (by decide +kernel) rfl <|
  Ev.scald (j := j3) (by decide +kernel) i3 <|
  Ev.go (pc' := 1638) (ls' := [.ref (ev_big + 100), .ref 0, .ref 102, .int x3]) (st' := [.int (x3 + (4 : Int32)), .ref (ev_big + 100), .long ((scV G j3).toInt64 <<< ((32 : Int32).toInt64 &&& 63)), .long (((scV G j1).toInt64 <<< ((32 : Int32).toInt64 &&& 63)) ||| ((scV G j2).toInt64 &&& (4294967295 : Int64))), .ref 102, .int y0]) [.i2l, .bipush (32), .lshl, .aload_n 0, .iload_n 3, .iconst 4, .iadd] (by decide +kernel) rfl <|
  Ev.scald (j := j4) (by decide +kernel) i4 <|
  Ev.go (pc' := 1640) (ls' := [.ref (ev_big + 100), .ref 0, .ref 102, .int x3]) (st' := [.long (scV G j4).toInt64, .long ((scV G j3).toInt64 <<< ((32 : Int32).toInt64 &&& 63)), .long (((scV G j1).toInt64 <<< ((32 : Int32).toInt64 &&& 63)) ||| ((scV G j2).toInt64 &&& (4294967295 : Int64))), .ref 102, .int y0]) [.i2l] (by decide +kernel) rfl <|
  Ev.ldc2 k_La_54 (by decide +kernel) <|
  Ev.go (pc' := 1645) (ls' := [.ref (ev_big + 100), .ref 0, .ref 102, .int x3]) (st' := [.long (((scV G j3).toInt64 <<< ((32 : Int32).toInt64 &&& 63)) ||| ((scV G j4).toInt64 &&& (4294967295 : Int64))), .long (((scV G j1).toInt64 <<< ((32 : Int32).toInt64 &&& 63)) ||| ((scV G j2).toInt64 &&& (4294967295 : Int64))), .ref 102, .int y0]) [.land, .lor] (by decide +kernel) rfl <|
  Ev.cV0b (M' := M_Mo_like) (as := [.long (((scV G j1).toInt64 <<< ((32 : Int32).toInt64 &&& 63)) ||| ((scV G j2).toInt64 &&& (4294967295 : Int64))), .long (((scV G j3).toInt64 <<< ((32 : Int32).toInt64 &&& 63)) ||| ((scV G j4).toInt64 &&& (4294967295 : Int64)))]) (rest := [.int y0]) l_La_174 M_Mo_like_ok M_Mo_like_in M_Mo_like_se (by decide +kernel) r5 rfl rfl rfl (Nat.le_of_ble_eq_true rfl) (Nat.le_of_ble_eq_true rfl) k1
theorem b_La_law_1648 {G : ev_G} {d k n : Nat} {h : ev_H} {R : Option Value → ev_H → Prop} {x3 : Int32} {y0 : Int32} {y1 : Int32}
  (k1 : y0 = y1 → Ev G (d + 30) k n M_La_law 1811 [.ref (ev_big + 100), .ref 0, .ref 102, .int x3] [] h R)
  (k2 : ¬ y0 = y1 → R (some (.int (0 : Int32))) h)
  : Ev G (d + 30) k n M_La_law 1648 [.ref (ev_big + 100), .ref 0, .ref 102, .int x3] [.int y1, .int y0] h R :=
  Ev.br (i := .if_icmp .eq (163)) (P := y0 = y1) (t := 1811) (f := 1651) (r := []) (by decide +kernel) rfl (fun c1 =>
    (k1 c1)
  ) (fun c1 =>
    Ev.go (pc' := 1652) (ls' := [.ref (ev_big + 100), .ref 0, .ref 102, .int x3]) (st' := [.int (0 : Int32)]) [.iconst 0] (by decide +kernel) rfl <|
    Ev.ret (r := (some (.int (0 : Int32)))) (Or.inl ⟨_, rfl, by decide +kernel, _, rfl, rfl⟩) (k2 c1)
  )
theorem b_La_law_1653 {G : ev_G} {d k n : Nat} {h : ev_H} {R : Option Value → ev_H → Prop} {x3 : Int32} {j1 : Nat}
  (i1 : ev_ix (x3 + (1 : Int32)) j1 (scL G))
  (r2 : ∃ fs, hat h 0 (oC 8 fs))
  (k1 : Ev G (d + 29) 0 0 M_X_ones 0 [.ref 0, .int (scV G j1)] [] h (fun r h1 => h1.1 ≤ h.1 + 0 → Ev G (d + 30) k n M_La_law 1662 [.ref (ev_big + 100), .ref 0, .ref 102, .int x3] (r.toList ++ []) h1 R))
  : Ev G (d + 30) k n M_La_law 1653 [.ref (ev_big + 100), .ref 0, .ref 102, .int x3] [] h R :=
  Ev.go (pc' := 1658) (ls' := [.ref (ev_big + 100), .ref 0, .ref 102, .int x3]) (st' := [.int (x3 + (1 : Int32)), .ref (ev_big + 100), .ref 0]) [.aload_n 1, .aload_n 0, .iload_n 3, .iconst 1, .iadd] (by decide +kernel) rfl <|
  Ev.scald (j := j1) (by decide +kernel) i1 <|
  Ev.cV0b (M' := M_X_ones) (as := [.int (scV G j1)]) (rest := []) l_La_175 M_X_ones_ok M_X_ones_in M_X_ones_se (by decide +kernel) r2 rfl rfl rfl (Nat.le_of_ble_eq_true rfl) (Nat.le_of_ble_eq_true rfl) k1
theorem b_La_law_1662 {G : ev_G} {d k n : Nat} {h : ev_H} {R : Option Value → ev_H → Prop} {x3 : Int32} {y0 : Int32} {j1 : Nat}
  (i1 : ev_ix (x3 + (1 : Int32)) j1 (scL G))
  (r2 : ∃ fs, hat h 102 (oC 9 fs))
  (k1 : Ev G (d + 29) 0 0 M_Mo_ones_I 0 [.ref 102, .int (scV G j1)] [] h (fun r h1 => h1.1 ≤ h.1 + 0 → Ev G (d + 30) k n M_La_law 1671 [.ref (ev_big + 100), .ref 0, .ref 102, .int x3] (r.toList ++ [.int y0]) h1 R))
  : Ev G (d + 30) k n M_La_law 1662 [.ref (ev_big + 100), .ref 0, .ref 102, .int x3] [.int y0] h R :=
  Ev.go (pc' := 1667) (ls' := [.ref (ev_big + 100), .ref 0, .ref 102, .int x3]) (st' := [.int (x3 + (1 : Int32)), .ref (ev_big + 100), .ref 102, .int y0]) [.aload_n 2, .aload_n 0, .iload_n 3, .iconst 1, .iadd] (by decide +kernel) rfl <|
  Ev.scald (j := j1) (by decide +kernel) i1 <|
  Ev.cV0b (M' := M_Mo_ones_I) (as := [.int (scV G j1)]) (rest := [.int y0]) l_La_178 M_Mo_ones_I_ok M_Mo_ones_I_in M_Mo_ones_I_se (by decide +kernel) r2 rfl rfl rfl (Nat.le_of_ble_eq_true rfl) (Nat.le_of_ble_eq_true rfl) k1
theorem b_La_law_1671 {G : ev_G} {d k n : Nat} {h : ev_H} {R : Option Value → ev_H → Prop} {x3 : Int32} {y0 : Int32} {y1 : Int32}
  (k1 : y0 = y1 → Ev G (d + 30) k n M_La_law 1811 [.ref (ev_big + 100), .ref 0, .ref 102, .int x3] [] h R)
  (k2 : ¬ y0 = y1 → R (some (.int (0 : Int32))) h)
  : Ev G (d + 30) k n M_La_law 1671 [.ref (ev_big + 100), .ref 0, .ref 102, .int x3] [.int y1, .int y0] h R :=
  Ev.br (i := .if_icmp .eq (140)) (P := y0 = y1) (t := 1811) (f := 1674) (r := []) (by decide +kernel) rfl (fun c1 =>
    (k1 c1)
  ) (fun c1 =>
    Ev.go (pc' := 1675) (ls' := [.ref (ev_big + 100), .ref 0, .ref 102, .int x3]) (st' := [.int (0 : Int32)]) [.iconst 0] (by decide +kernel) rfl <|
    Ev.ret (r := (some (.int (0 : Int32)))) (Or.inl ⟨_, rfl, by decide +kernel, _, rfl, rfl⟩) (k2 c1)
  )
theorem b_La_law_1676 {G : ev_G} {d k n : Nat} {h : ev_H} {R : Option Value → ev_H → Prop} {x3 : Int32}
  (r1 : ∃ fs, hat h 0 (oC 8 fs))
  (k1 : Ev G (d + 29) 0 0 M_X_telling 0 [.ref 0, ev_unk, ev_unk, ev_unk, ev_unk, ev_unk, ev_unk] [] h (fun r h1 => h1.1 ≤ h.1 + 0 → Ev G (d + 30) k n M_La_law 1680 [.ref (ev_big + 100), .ref 0, .ref 102, .int x3] (r.toList ++ []) h1 R))
  : Ev G (d + 30) k n M_La_law 1676 [.ref (ev_big + 100), .ref 0, .ref 102, .int x3] [] h R :=
  Ev.go (pc' := 1677) (ls' := [.ref (ev_big + 100), .ref 0, .ref 102, .int x3]) (st' := [.ref 0]) [.aload_n 1] (by decide +kernel) rfl <|
  Ev.cV0b (M' := M_X_telling) (as := []) (rest := []) l_La_179 M_X_telling_ok M_X_telling_in M_X_telling_se (by decide +kernel) r1 rfl rfl rfl (Nat.le_of_ble_eq_true rfl) (Nat.le_of_ble_eq_true rfl) k1
theorem b_La_law_1680 {G : ev_G} {d k n : Nat} {h : ev_H} {R : Option Value → ev_H → Prop} {x3 : Int32} {y0 : Int32}
  (r1 : ∃ fs, hat h 102 (oC 9 fs))
  (k1 : Ev G (d + 29) 0 0 M_Mo_telling 0 [.ref 102, ev_unk, ev_unk, ev_unk, ev_unk, ev_unk, ev_unk] [] h (fun r h1 => h1.1 ≤ h.1 + 0 → Ev G (d + 30) k n M_La_law 1684 [.ref (ev_big + 100), .ref 0, .ref 102, .int x3] (r.toList ++ [.int y0]) h1 R))
  : Ev G (d + 30) k n M_La_law 1680 [.ref (ev_big + 100), .ref 0, .ref 102, .int x3] [.int y0] h R :=
  Ev.go (pc' := 1681) (ls' := [.ref (ev_big + 100), .ref 0, .ref 102, .int x3]) (st' := [.ref 102, .int y0]) [.aload_n 2] (by decide +kernel) rfl <|
  Ev.cV0b (M' := M_Mo_telling) (as := []) (rest := [.int y0]) l_La_182 M_Mo_telling_ok M_Mo_telling_in M_Mo_telling_se (by decide +kernel) r1 rfl rfl rfl (Nat.le_of_ble_eq_true rfl) (Nat.le_of_ble_eq_true rfl) k1
theorem b_La_law_1684 {G : ev_G} {d k n : Nat} {h : ev_H} {R : Option Value → ev_H → Prop} {x3 : Int32} {y0 : Int32} {y1 : Int32}
  (k1 : y0 = y1 → Ev G (d + 30) k n M_La_law 1811 [.ref (ev_big + 100), .ref 0, .ref 102, .int x3] [] h R)
  (k2 : ¬ y0 = y1 → R (some (.int (0 : Int32))) h)
  : Ev G (d + 30) k n M_La_law 1684 [.ref (ev_big + 100), .ref 0, .ref 102, .int x3] [.int y1, .int y0] h R :=
  Ev.br (i := .if_icmp .eq (127)) (P := y0 = y1) (t := 1811) (f := 1687) (r := []) (by decide +kernel) rfl (fun c1 =>
    (k1 c1)
  ) (fun c1 =>
    Ev.go (pc' := 1688) (ls' := [.ref (ev_big + 100), .ref 0, .ref 102, .int x3]) (st' := [.int (0 : Int32)]) [.iconst 0] (by decide +kernel) rfl <|
    Ev.ret (r := (some (.int (0 : Int32)))) (Or.inl ⟨_, rfl, by decide +kernel, _, rfl, rfl⟩) (k2 c1)
  )
theorem b_La_law_1689 {G : ev_G} {d k n : Nat} {h : ev_H} {R : Option Value → ev_H → Prop} {x3 : Int32} {j1 : Nat} {j2 : Nat}
  (i1 : ev_ix (x3 + (1 : Int32)) j1 (scL G))
  (i2 : ev_ix (x3 + (2 : Int32)) j2 (scL G))
  (r3 : ∃ fs, hat h 0 (oC 8 fs))
  (k1 : Ev G (d + 29) 0 0 M_X_alike 0 [.ref 0, .int (scV G j1), .int (scV G j2), ev_unk, ev_unk, ev_unk] [] h (fun r h1 => h1.1 ≤ h.1 + 0 → Ev G (d + 30) k n M_La_law 1703 [.ref (ev_big + 100), .ref 0, .ref 102, .int x3] (r.toList ++ []) h1 R))
  : Ev G (d + 30) k n M_La_law 1689 [.ref (ev_big + 100), .ref 0, .ref 102, .int x3] [] h R :=
  Ev.go (pc' := 1694) (ls' := [.ref (ev_big + 100), .ref 0, .ref 102, .int x3]) (st' := [.int (x3 + (1 : Int32)), .ref (ev_big + 100), .ref 0]) [.aload_n 1, .aload_n 0, .iload_n 3, .iconst 1, .iadd] (by decide +kernel) rfl <|
  Ev.scald (j := j1) (by decide +kernel) i1 <|
  Ev.go (pc' := 1699) (ls' := [.ref (ev_big + 100), .ref 0, .ref 102, .int x3]) (st' := [.int (x3 + (2 : Int32)), .ref (ev_big + 100), .int (scV G j1), .ref 0]) [.aload_n 0, .iload_n 3, .iconst 2, .iadd] (by decide +kernel) rfl <|
  Ev.scald (j := j2) (by decide +kernel) i2 <|
  Ev.cV0b (M' := M_X_alike) (as := [.int (scV G j1), .int (scV G j2)]) (rest := []) l_La_183 M_X_alike_ok M_X_alike_in M_X_alike_se (by decide +kernel) r3 rfl rfl rfl (Nat.le_of_ble_eq_true rfl) (Nat.le_of_ble_eq_true rfl) k1
theorem b_La_law_1703 {G : ev_G} {d k n : Nat} {h : ev_H} {R : Option Value → ev_H → Prop} {x3 : Int32} {y0 : Int32} {j1 : Nat} {j2 : Nat}
  (i1 : ev_ix (x3 + (1 : Int32)) j1 (scL G))
  (i2 : ev_ix (x3 + (2 : Int32)) j2 (scL G))
  (r3 : ∃ fs, hat h 102 (oC 9 fs))
  (k1 : Ev G (d + 29) 0 0 M_Mo_alike 0 [.ref 102, .int (scV G j1), .int (scV G j2), ev_unk, ev_unk] [] h (fun r h1 => h1.1 ≤ h.1 + 0 → Ev G (d + 30) k n M_La_law 1717 [.ref (ev_big + 100), .ref 0, .ref 102, .int x3] (r.toList ++ [.int y0]) h1 R))
  : Ev G (d + 30) k n M_La_law 1703 [.ref (ev_big + 100), .ref 0, .ref 102, .int x3] [.int y0] h R :=
  Ev.go (pc' := 1708) (ls' := [.ref (ev_big + 100), .ref 0, .ref 102, .int x3]) (st' := [.int (x3 + (1 : Int32)), .ref (ev_big + 100), .ref 102, .int y0]) [.aload_n 2, .aload_n 0, .iload_n 3, .iconst 1, .iadd] (by decide +kernel) rfl <|
  Ev.scald (j := j1) (by decide +kernel) i1 <|
  Ev.go (pc' := 1713) (ls' := [.ref (ev_big + 100), .ref 0, .ref 102, .int x3]) (st' := [.int (x3 + (2 : Int32)), .ref (ev_big + 100), .int (scV G j1), .ref 102, .int y0]) [.aload_n 0, .iload_n 3, .iconst 2, .iadd] (by decide +kernel) rfl <|
  Ev.scald (j := j2) (by decide +kernel) i2 <|
  Ev.cV0b (M' := M_Mo_alike) (as := [.int (scV G j1), .int (scV G j2)]) (rest := [.int y0]) l_La_186 M_Mo_alike_ok M_Mo_alike_in M_Mo_alike_se (by decide +kernel) r3 rfl rfl rfl (Nat.le_of_ble_eq_true rfl) (Nat.le_of_ble_eq_true rfl) k1
theorem b_La_law_1717 {G : ev_G} {d k n : Nat} {h : ev_H} {R : Option Value → ev_H → Prop} {x3 : Int32} {y0 : Int32} {y1 : Int32}
  (k1 : y0 = y1 → Ev G (d + 30) k n M_La_law 1811 [.ref (ev_big + 100), .ref 0, .ref 102, .int x3] [] h R)
  (k2 : ¬ y0 = y1 → R (some (.int (0 : Int32))) h)
  : Ev G (d + 30) k n M_La_law 1717 [.ref (ev_big + 100), .ref 0, .ref 102, .int x3] [.int y1, .int y0] h R :=
  Ev.br (i := .if_icmp .eq (94)) (P := y0 = y1) (t := 1811) (f := 1720) (r := []) (by decide +kernel) rfl (fun c1 =>
    (k1 c1)
  ) (fun c1 =>
    Ev.go (pc' := 1721) (ls' := [.ref (ev_big + 100), .ref 0, .ref 102, .int x3]) (st' := [.int (0 : Int32)]) [.iconst 0] (by decide +kernel) rfl <|
    Ev.ret (r := (some (.int (0 : Int32)))) (Or.inl ⟨_, rfl, by decide +kernel, _, rfl, rfl⟩) (k2 c1)
  )
theorem b_La_law_1722 {G : ev_G} {d k n : Nat} {h : ev_H} {R : Option Value → ev_H → Prop} {x3 : Int32} {j1 : Nat} {j2 : Nat}
  (i1 : ev_ix (x3 + (1 : Int32)) j1 (scL G))
  (i2 : ev_ix (x3 + (2 : Int32)) j2 (scL G))
  (r3 : ∃ fs, hat h 0 (oC 8 fs))
  (k1 : Ev G (d + 29) 0 0 M_X_spread 0 [.ref 0, .int (scV G j1), .int (scV G j2), ev_unk, ev_unk, ev_unk, ev_unk, ev_unk] [] h (fun r h1 => h1.1 ≤ h.1 + 0 → Ev G (d + 30) k n M_La_law 1736 [.ref (ev_big + 100), .ref 0, .ref 102, .int x3] (r.toList ++ []) h1 R))
  : Ev G (d + 30) k n M_La_law 1722 [.ref (ev_big + 100), .ref 0, .ref 102, .int x3] [] h R :=
  Ev.go (pc' := 1727) (ls' := [.ref (ev_big + 100), .ref 0, .ref 102, .int x3]) (st' := [.int (x3 + (1 : Int32)), .ref (ev_big + 100), .ref 0]) [.aload_n 1, .aload_n 0, .iload_n 3, .iconst 1, .iadd] (by decide +kernel) rfl <|
  Ev.scald (j := j1) (by decide +kernel) i1 <|
  Ev.go (pc' := 1732) (ls' := [.ref (ev_big + 100), .ref 0, .ref 102, .int x3]) (st' := [.int (x3 + (2 : Int32)), .ref (ev_big + 100), .int (scV G j1), .ref 0]) [.aload_n 0, .iload_n 3, .iconst 2, .iadd] (by decide +kernel) rfl <|
  Ev.scald (j := j2) (by decide +kernel) i2 <|
  Ev.cV0b (M' := M_X_spread) (as := [.int (scV G j1), .int (scV G j2)]) (rest := []) l_La_187 M_X_spread_ok M_X_spread_in M_X_spread_se (by decide +kernel) r3 rfl rfl rfl (Nat.le_of_ble_eq_true rfl) (Nat.le_of_ble_eq_true rfl) k1
theorem b_La_law_1736 {G : ev_G} {d k n : Nat} {h : ev_H} {R : Option Value → ev_H → Prop} {x3 : Int32} {y0 : Int32} {j1 : Nat} {j2 : Nat}
  (i1 : ev_ix (x3 + (1 : Int32)) j1 (scL G))
  (i2 : ev_ix (x3 + (2 : Int32)) j2 (scL G))
  (r3 : ∃ fs, hat h 102 (oC 9 fs))
  (k1 : Ev G (d + 29) 0 0 M_Mo_spread 0 [.ref 102, .int (scV G j1), .int (scV G j2), ev_unk, ev_unk, ev_unk, ev_unk, ev_unk, ev_unk, ev_unk, ev_unk] [] h (fun r h1 => h1.1 ≤ h.1 + 0 → Ev G (d + 30) k n M_La_law 1750 [.ref (ev_big + 100), .ref 0, .ref 102, .int x3] (r.toList ++ [.int y0]) h1 R))
  : Ev G (d + 30) k n M_La_law 1736 [.ref (ev_big + 100), .ref 0, .ref 102, .int x3] [.int y0] h R :=
  Ev.go (pc' := 1741) (ls' := [.ref (ev_big + 100), .ref 0, .ref 102, .int x3]) (st' := [.int (x3 + (1 : Int32)), .ref (ev_big + 100), .ref 102, .int y0]) [.aload_n 2, .aload_n 0, .iload_n 3, .iconst 1, .iadd] (by decide +kernel) rfl <|
  Ev.scald (j := j1) (by decide +kernel) i1 <|
  Ev.go (pc' := 1746) (ls' := [.ref (ev_big + 100), .ref 0, .ref 102, .int x3]) (st' := [.int (x3 + (2 : Int32)), .ref (ev_big + 100), .int (scV G j1), .ref 102, .int y0]) [.aload_n 0, .iload_n 3, .iconst 2, .iadd] (by decide +kernel) rfl <|
  Ev.scald (j := j2) (by decide +kernel) i2 <|
  Ev.cV0b (M' := M_Mo_spread) (as := [.int (scV G j1), .int (scV G j2)]) (rest := [.int y0]) l_La_190 M_Mo_spread_ok M_Mo_spread_in M_Mo_spread_se (by decide +kernel) r3 rfl rfl rfl (Nat.le_of_ble_eq_true rfl) (Nat.le_of_ble_eq_true rfl) k1
theorem b_La_law_1750 {G : ev_G} {d k n : Nat} {h : ev_H} {R : Option Value → ev_H → Prop} {x3 : Int32} {y0 : Int32} {y1 : Int32}
  (k1 : y0 = y1 → Ev G (d + 30) k n M_La_law 1811 [.ref (ev_big + 100), .ref 0, .ref 102, .int x3] [] h R)
  (k2 : ¬ y0 = y1 → R (some (.int (0 : Int32))) h)
  : Ev G (d + 30) k n M_La_law 1750 [.ref (ev_big + 100), .ref 0, .ref 102, .int x3] [.int y1, .int y0] h R :=
  Ev.br (i := .if_icmp .eq (61)) (P := y0 = y1) (t := 1811) (f := 1753) (r := []) (by decide +kernel) rfl (fun c1 =>
    (k1 c1)
  ) (fun c1 =>
    Ev.go (pc' := 1754) (ls' := [.ref (ev_big + 100), .ref 0, .ref 102, .int x3]) (st' := [.int (0 : Int32)]) [.iconst 0] (by decide +kernel) rfl <|
    Ev.ret (r := (some (.int (0 : Int32)))) (Or.inl ⟨_, rfl, by decide +kernel, _, rfl, rfl⟩) (k2 c1)
  )
theorem b_La_law_1755 {G : ev_G} {d k n : Nat} {h : ev_H} {R : Option Value → ev_H → Prop} {x3 : Int32} {j1 : Nat} {j2 : Nat}
  (i1 : ev_ix (x3 + (1 : Int32)) j1 (scL G))
  (i2 : ev_ix (x3 + (2 : Int32)) j2 (scL G))
  (r3 : ∃ fs, hat h 0 (oC 8 fs))
  (k1 : Ev G (d + 29) 0 0 M_X_parted 0 [.ref 0, .int (scV G j1), .int (scV G j2)] [] h (fun r h1 => h1.1 ≤ h.1 + 0 → Ev G (d + 30) k n M_La_law 1769 [.ref (ev_big + 100), .ref 0, .ref 102, .int x3] (r.toList ++ []) h1 R))
  : Ev G (d + 30) k n M_La_law 1755 [.ref (ev_big + 100), .ref 0, .ref 102, .int x3] [] h R :=
  Ev.go (pc' := 1760) (ls' := [.ref (ev_big + 100), .ref 0, .ref 102, .int x3]) (st' := [.int (x3 + (1 : Int32)), .ref (ev_big + 100), .ref 0]) [.aload_n 1, .aload_n 0, .iload_n 3, .iconst 1, .iadd] (by decide +kernel) rfl <|
  Ev.scald (j := j1) (by decide +kernel) i1 <|
  Ev.go (pc' := 1765) (ls' := [.ref (ev_big + 100), .ref 0, .ref 102, .int x3]) (st' := [.int (x3 + (2 : Int32)), .ref (ev_big + 100), .int (scV G j1), .ref 0]) [.aload_n 0, .iload_n 3, .iconst 2, .iadd] (by decide +kernel) rfl <|
  Ev.scald (j := j2) (by decide +kernel) i2 <|
  Ev.cV0b (M' := M_X_parted) (as := [.int (scV G j1), .int (scV G j2)]) (rest := []) l_La_191 M_X_parted_ok M_X_parted_in M_X_parted_se (by decide +kernel) r3 rfl rfl rfl (Nat.le_of_ble_eq_true rfl) (Nat.le_of_ble_eq_true rfl) k1
theorem b_La_law_1769 {G : ev_G} {d k n : Nat} {h : ev_H} {R : Option Value → ev_H → Prop} {x3 : Int32} {y0 : Int32} {j1 : Nat} {j2 : Nat}
  (i1 : ev_ix (x3 + (1 : Int32)) j1 (scL G))
  (i2 : ev_ix (x3 + (2 : Int32)) j2 (scL G))
  (r3 : ∃ fs, hat h 102 (oC 9 fs))
  (k1 : Ev G (d + 29) 0 0 M_Mo_parted 0 [.ref 102, .int (scV G j1), .int (scV G j2)] [] h (fun r h1 => h1.1 ≤ h.1 + 0 → Ev G (d + 30) k n M_La_law 1783 [.ref (ev_big + 100), .ref 0, .ref 102, .int x3] (r.toList ++ [.int y0]) h1 R))
  : Ev G (d + 30) k n M_La_law 1769 [.ref (ev_big + 100), .ref 0, .ref 102, .int x3] [.int y0] h R :=
  Ev.go (pc' := 1774) (ls' := [.ref (ev_big + 100), .ref 0, .ref 102, .int x3]) (st' := [.int (x3 + (1 : Int32)), .ref (ev_big + 100), .ref 102, .int y0]) [.aload_n 2, .aload_n 0, .iload_n 3, .iconst 1, .iadd] (by decide +kernel) rfl <|
  Ev.scald (j := j1) (by decide +kernel) i1 <|
  Ev.go (pc' := 1779) (ls' := [.ref (ev_big + 100), .ref 0, .ref 102, .int x3]) (st' := [.int (x3 + (2 : Int32)), .ref (ev_big + 100), .int (scV G j1), .ref 102, .int y0]) [.aload_n 0, .iload_n 3, .iconst 2, .iadd] (by decide +kernel) rfl <|
  Ev.scald (j := j2) (by decide +kernel) i2 <|
  Ev.cV0b (M' := M_Mo_parted) (as := [.int (scV G j1), .int (scV G j2)]) (rest := [.int y0]) l_La_194 M_Mo_parted_ok M_Mo_parted_in M_Mo_parted_se (by decide +kernel) r3 rfl rfl rfl (Nat.le_of_ble_eq_true rfl) (Nat.le_of_ble_eq_true rfl) k1
theorem b_La_law_1783 {G : ev_G} {d k n : Nat} {h : ev_H} {R : Option Value → ev_H → Prop} {x3 : Int32} {y0 : Int32} {y1 : Int32}
  (k1 : y0 = y1 → Ev G (d + 30) k n M_La_law 1811 [.ref (ev_big + 100), .ref 0, .ref 102, .int x3] [] h R)
  (k2 : ¬ y0 = y1 → R (some (.int (0 : Int32))) h)
  : Ev G (d + 30) k n M_La_law 1783 [.ref (ev_big + 100), .ref 0, .ref 102, .int x3] [.int y1, .int y0] h R :=
  Ev.br (i := .if_icmp .eq (28)) (P := y0 = y1) (t := 1811) (f := 1786) (r := []) (by decide +kernel) rfl (fun c1 =>
    (k1 c1)
  ) (fun c1 =>
    Ev.go (pc' := 1787) (ls' := [.ref (ev_big + 100), .ref 0, .ref 102, .int x3]) (st' := [.int (0 : Int32)]) [.iconst 0] (by decide +kernel) rfl <|
    Ev.ret (r := (some (.int (0 : Int32)))) (Or.inl ⟨_, rfl, by decide +kernel, _, rfl, rfl⟩) (k2 c1)
  )
theorem b_La_law_1788 {G : ev_G} {d k n : Nat} {h : ev_H} {R : Option Value → ev_H → Prop} {x3 : Int32} {j1 : Nat}
  (i1 : ev_ix (x3 + (1 : Int32)) j1 (scL G))
  (r2 : ∃ fs, hat h 0 (oC 8 fs))
  (k1 : Ev G (d + 29) 0 0 M_X_bestPart 0 [.ref 0, .int (scV G j1), ev_unk, ev_unk, ev_unk, ev_unk, ev_unk] [] h (fun r h1 => h1.1 ≤ h.1 + 0 → Ev G (d + 30) k n M_La_law 1797 [.ref (ev_big + 100), .ref 0, .ref 102, .int x3] (r.toList ++ []) h1 R))
  : Ev G (d + 30) k n M_La_law 1788 [.ref (ev_big + 100), .ref 0, .ref 102, .int x3] [] h R :=
  Ev.go (pc' := 1793) (ls' := [.ref (ev_big + 100), .ref 0, .ref 102, .int x3]) (st' := [.int (x3 + (1 : Int32)), .ref (ev_big + 100), .ref 0]) [.aload_n 1, .aload_n 0, .iload_n 3, .iconst 1, .iadd] (by decide +kernel) rfl <|
  Ev.scald (j := j1) (by decide +kernel) i1 <|
  Ev.cV0b (M' := M_X_bestPart) (as := [.int (scV G j1)]) (rest := []) l_La_195 M_X_bestPart_ok M_X_bestPart_in M_X_bestPart_se (by decide +kernel) r2 rfl rfl rfl (Nat.le_of_ble_eq_true rfl) (Nat.le_of_ble_eq_true rfl) k1
theorem b_La_law_1797 {G : ev_G} {d k n : Nat} {h : ev_H} {R : Option Value → ev_H → Prop} {x3 : Int32} {y0 : Int32} {j1 : Nat}
  (i1 : ev_ix (x3 + (1 : Int32)) j1 (scL G))
  (r2 : ∃ fs, hat h 102 (oC 9 fs))
  (k1 : Ev G (d + 29) 0 0 M_Mo_bestPart 0 [.ref 102, .int (scV G j1), ev_unk, ev_unk, ev_unk, ev_unk] [] h (fun r h1 => h1.1 ≤ h.1 + 0 → Ev G (d + 30) k n M_La_law 1806 [.ref (ev_big + 100), .ref 0, .ref 102, .int x3] (r.toList ++ [.int y0]) h1 R))
  : Ev G (d + 30) k n M_La_law 1797 [.ref (ev_big + 100), .ref 0, .ref 102, .int x3] [.int y0] h R :=
  Ev.go (pc' := 1802) (ls' := [.ref (ev_big + 100), .ref 0, .ref 102, .int x3]) (st' := [.int (x3 + (1 : Int32)), .ref (ev_big + 100), .ref 102, .int y0]) [.aload_n 2, .aload_n 0, .iload_n 3, .iconst 1, .iadd] (by decide +kernel) rfl <|
  Ev.scald (j := j1) (by decide +kernel) i1 <|
  Ev.cV0b (M' := M_Mo_bestPart) (as := [.int (scV G j1)]) (rest := [.int y0]) l_La_198 M_Mo_bestPart_ok M_Mo_bestPart_in M_Mo_bestPart_se (by decide +kernel) r2 rfl rfl rfl (Nat.le_of_ble_eq_true rfl) (Nat.le_of_ble_eq_true rfl) k1
theorem b_La_law_1806 {G : ev_G} {d k n : Nat} {h : ev_H} {R : Option Value → ev_H → Prop} {x3 : Int32} {y0 : Int32} {y1 : Int32}
  (k1 : y0 = y1 → Ev G (d + 30) k n M_La_law 1811 [.ref (ev_big + 100), .ref 0, .ref 102, .int x3] [] h R)
  (k2 : ¬ y0 = y1 → R (some (.int (0 : Int32))) h)
  : Ev G (d + 30) k n M_La_law 1806 [.ref (ev_big + 100), .ref 0, .ref 102, .int x3] [.int y1, .int y0] h R :=
  Ev.br (i := .if_icmp .eq (5)) (P := y0 = y1) (t := 1811) (f := 1809) (r := []) (by decide +kernel) rfl (fun c1 =>
    (k1 c1)
  ) (fun c1 =>
    Ev.go (pc' := 1810) (ls' := [.ref (ev_big + 100), .ref 0, .ref 102, .int x3]) (st' := [.int (0 : Int32)]) [.iconst 0] (by decide +kernel) rfl <|
    Ev.ret (r := (some (.int (0 : Int32)))) (Or.inl ⟨_, rfl, by decide +kernel, _, rfl, rfl⟩) (k2 c1)
  )
theorem b_La_law_1811 {G : ev_G} {d k n : Nat} {h : ev_H} {R : Option Value → ev_H → Prop} {x3 : Int32}
  (k1 : Ev G (d + 30) k n M_La_law 18 [.ref (ev_big + 100), .ref 0, .ref 102, .int (x3 + (6 : Int32))] [] h R)
  : Ev G (d + 30) k n M_La_law 1811 [.ref (ev_big + 100), .ref 0, .ref 102, .int x3] [] h R :=
  Ev.go (pc' := 18) (ls' := [.ref (ev_big + 100), .ref 0, .ref 102, .int (x3 + (6 : Int32))]) (st' := []) [.iinc 3 (6), .goto (-1796)] (by decide +kernel) rfl <|
  k1
theorem b_La_law_1817 {G : ev_G} {d k n : Nat} {h : ev_H} {R : Option Value → ev_H → Prop} {x3 : Int32}
  (k1 : R (some (.int (1 : Int32))) h)
  : Ev G (d + 30) k n M_La_law 1817 [.ref (ev_big + 100), .ref 0, .ref 102, .int x3] [] h R :=
  Ev.go (pc' := 1818) (ls' := [.ref (ev_big + 100), .ref 0, .ref 102, .int x3]) (st' := [.int (1 : Int32)]) [.iconst 1] (by decide +kernel) rfl <|
  Ev.ret (r := (some (.int (1 : Int32)))) (Or.inl ⟨_, rfl, by decide +kernel, _, rfl, rfl⟩) k1
