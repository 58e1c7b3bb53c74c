/-! STRINGS: the literals, and the JDK's methods over them -/
abbrev M_JS_length : ev_M := (⟨"java/lang/String", "length", "()I"⟩, prog_17_method_54_code, 1, some .int)
set_option maxRecDepth 100000 in
theorem M_JS_length_ok : ev_ok M_JS_length 0 := ⟨ev_m 315 (by decide +kernel) rfl, ev_m 11 (by decide +kernel) rfl, by decide +kernel, ⟨by decide +kernel, by decide +kernel⟩, by decide +kernel, by decide +kernel⟩
set_option maxRecDepth 100000 in
theorem M_JS_length_in : Cond.instanceMethod M_JS_length.1 ∈ ev_ws := ev_m 313 (by decide +kernel) rfl
set_option maxRecDepth 100000 in
theorem M_JS_length_se : Cond.selects M_JS_length.1.cls M_JS_length.1 M_JS_length.1 ∈ ev_ws := ev_m 314 (by decide +kernel) rfl
abbrev M_JS_coder : ev_M := (⟨"java/lang/String", "coder", "()B"⟩, prog_17_method_152_code, 1, some .byte)
set_option maxRecDepth 100000 in
theorem M_JS_coder_ok : ev_ok M_JS_coder 0 := ⟨ev_m 319 (by decide +kernel) rfl, ev_m 11 (by decide +kernel) rfl, by decide +kernel, ⟨by decide +kernel, by decide +kernel⟩, by decide +kernel, by decide +kernel⟩
set_option maxRecDepth 100000 in
theorem M_JS_coder_in : Cond.instanceMethod M_JS_coder.1 ∈ ev_ws := ev_m 317 (by decide +kernel) rfl
set_option maxRecDepth 100000 in
theorem M_JS_coder_se : Cond.selects M_JS_coder.1.cls M_JS_coder.1 M_JS_coder.1 ∈ ev_ws := ev_m 318 (by decide +kernel) rfl
abbrev M_JS_isLatin1 : ev_M := (⟨"java/lang/String", "isLatin1", "()Z"⟩, prog_17_method_154_code, 1, some .boolean)
set_option maxRecDepth 100000 in
theorem M_JS_isLatin1_ok : ev_ok M_JS_isLatin1 0 := ⟨ev_m 309 (by decide +kernel) rfl, ev_m 11 (by decide +kernel) rfl, by decide +kernel, ⟨by decide +kernel, by decide +kernel⟩, by decide +kernel, by decide +kernel⟩
set_option maxRecDepth 100000 in
theorem M_JS_isLatin1_in : Cond.instanceMethod M_JS_isLatin1.1 ∈ ev_ws := ev_m 307 (by decide +kernel) rfl
set_option maxRecDepth 100000 in
theorem M_JS_isLatin1_se : Cond.selects M_JS_isLatin1.1.cls M_JS_isLatin1.1 M_JS_isLatin1.1 ∈ ev_ws := ev_m 308 (by decide +kernel) rfl
abbrev M_JS_charAt : ev_M := (⟨"java/lang/String", "charAt", "(I)C"⟩, prog_17_method_56_code, 2, some .char)
set_option maxRecDepth 100000 in
theorem M_JS_charAt_ok : ev_ok M_JS_charAt 1 := ⟨ev_m 391 (by decide +kernel) rfl, ev_m 11 (by decide +kernel) rfl, by decide +kernel, ⟨by decide +kernel, by decide +kernel⟩, by decide +kernel, by decide +kernel⟩
set_option maxRecDepth 100000 in
theorem M_JS_charAt_in : Cond.instanceMethod M_JS_charAt.1 ∈ ev_ws := ev_m 389 (by decide +kernel) rfl
set_option maxRecDepth 100000 in
theorem M_JS_charAt_se : Cond.selects M_JS_charAt.1.cls M_JS_charAt.1 M_JS_charAt.1 ∈ ev_ws := ev_m 390 (by decide +kernel) rfl
abbrev M_JS_indexOf : ev_M := (⟨"java/lang/String", "indexOf", "(I)I"⟩, prog_17_method_79_code, 2, some .int)
set_option maxRecDepth 100000 in
theorem M_JS_indexOf_ok : ev_ok M_JS_indexOf 1 := ⟨ev_m 301 (by decide +kernel) rfl, ev_m 11 (by decide +kernel) rfl, by decide +kernel, ⟨by decide +kernel, by decide +kernel⟩, by decide +kernel, by decide +kernel⟩
set_option maxRecDepth 100000 in
theorem M_JS_indexOf_in : Cond.instanceMethod M_JS_indexOf.1 ∈ ev_ws := ev_m 299 (by decide +kernel) rfl
set_option maxRecDepth 100000 in
theorem M_JS_indexOf_se : Cond.selects M_JS_indexOf.1.cls M_JS_indexOf.1 M_JS_indexOf.1 ∈ ev_ws := ev_m 300 (by decide +kernel) rfl
abbrev M_JS_indexOf2 : ev_M := (⟨"java/lang/String", "indexOf", "(II)I"⟩, prog_17_method_80_code, 3, some .int)
set_option maxRecDepth 100000 in
theorem M_JS_indexOf2_ok : ev_ok M_JS_indexOf2 2 := ⟨ev_m 305 (by decide +kernel) rfl, ev_m 11 (by decide +kernel) rfl, by decide +kernel, ⟨by decide +kernel, by decide +kernel⟩, by decide +kernel, by decide +kernel⟩
set_option maxRecDepth 100000 in
theorem M_JS_indexOf2_in : Cond.instanceMethod M_JS_indexOf2.1 ∈ ev_ws := ev_m 303 (by decide +kernel) rfl
set_option maxRecDepth 100000 in
theorem M_JS_indexOf2_se : Cond.selects M_JS_indexOf2.1.cls M_JS_indexOf2.1 M_JS_indexOf2.1 ∈ ev_ws := ev_m 304 (by decide +kernel) rfl
abbrev M_JS_checkIndex : ev_M := (⟨"java/lang/String", "checkIndex", "(II)V"⟩, prog_17_method_155_code, 2, none)
set_option maxRecDepth 100000 in
theorem M_JS_checkIndex_ok : ev_ok M_JS_checkIndex 2 := ⟨ev_m 397 (by decide +kernel) rfl, ev_m 11 (by decide +kernel) rfl, by decide +kernel, ⟨by decide +kernel, by decide +kernel⟩, by decide +kernel, by decide +kernel⟩
set_option maxRecDepth 100000 in
theorem M_JS_checkIndex_st : Cond.static M_JS_checkIndex.1 ∈ ev_ws := ev_m 396 (by decide +kernel) rfl
abbrev M_J1_charAt : ev_M := (⟨"java/lang/StringLatin1", "charAt", "([BI)C"⟩, prog_18_method_2_code, 2, some .char)
set_option maxRecDepth 100000 in
theorem M_J1_charAt_ok : ev_ok M_J1_charAt 2 := ⟨ev_m 394 (by decide +kernel) rfl, ev_m 12 (by decide +kernel) rfl, by decide +kernel, ⟨by decide +kernel, by decide +kernel⟩, by decide +kernel, by decide +kernel⟩
set_option maxRecDepth 100000 in
theorem M_J1_charAt_st : Cond.static M_J1_charAt.1 ∈ ev_ws := ev_m 393 (by decide +kernel) rfl
abbrev M_J1_indexOf : ev_M := (⟨"java/lang/StringLatin1", "indexOf", "([BIII)I"⟩, prog_18_method_22_code, 4, some .int)
set_option maxRecDepth 100000 in
theorem M_J1_indexOf_ok : ev_ok M_J1_indexOf 4 := ⟨ev_m 322 (by decide +kernel) rfl, ev_m 12 (by decide +kernel) rfl, by decide +kernel, ⟨by decide +kernel, by decide +kernel⟩, by decide +kernel, by decide +kernel⟩
set_option maxRecDepth 100000 in
theorem M_J1_indexOf_st : Cond.static M_J1_indexOf.1 ∈ ev_ws := ev_m 321 (by decide +kernel) rfl
abbrev M_J1_canEncode : ev_M := (⟨"java/lang/StringLatin1", "canEncode", "(I)Z"⟩, prog_18_method_4_code, 1, some .boolean)
set_option maxRecDepth 100000 in
theorem M_J1_canEncode_ok : ev_ok M_J1_canEncode 1 := ⟨ev_m 325 (by decide +kernel) rfl, ev_m 12 (by decide +kernel) rfl, by decide +kernel, ⟨by decide +kernel, by decide +kernel⟩, by decide +kernel, by decide +kernel⟩
set_option maxRecDepth 100000 in
theorem M_J1_canEncode_st : Cond.static M_J1_canEncode.1 ∈ ev_ws := ev_m 324 (by decide +kernel) rfl
abbrev M_J1_indexOfChar : ev_M := (⟨"java/lang/StringLatin1", "indexOfChar", "([BIII)I"⟩, prog_18_method_23_code, 6, some .int)
set_option maxRecDepth 100000 in
theorem M_J1_indexOfChar_ok : ev_ok M_J1_indexOfChar 4 := ⟨ev_m 332 (by decide +kernel) rfl, ev_m 12 (by decide +kernel) rfl, by decide +kernel, ⟨by decide +kernel, by decide +kernel⟩, by decide +kernel, by decide +kernel⟩
set_option maxRecDepth 100000 in
theorem M_J1_indexOfChar_st : Cond.static M_J1_indexOfChar.1 ∈ ev_ws := ev_m 331 (by decide +kernel) rfl
abbrev M_JP_checkIndex : ev_M := (⟨"jdk/internal/util/Preconditions", "checkIndex", "(IILjava/util/function/BiFunction;)I"⟩, prog_22_method_11_code, 3, some .int)
set_option maxRecDepth 100000 in
theorem M_JP_checkIndex_ok : ev_ok M_JP_checkIndex 3 := ⟨ev_m 400 (by decide +kernel) rfl, ev_m 14 (by decide +kernel) rfl, by decide +kernel, ⟨by decide +kernel, by decide +kernel⟩, by decide +kernel, by decide +kernel⟩
set_option maxRecDepth 100000 in
theorem M_JP_checkIndex_st : Cond.static M_JP_checkIndex.1 ∈ ev_ws := ev_m 399 (by decide +kernel) rfl
set_option maxRecDepth 100000 in
theorem l_JS_335 : Cond.methodLink "java/lang/String" 335 M_JS_coder.1 ∈ ev_ws := ev_m 316 (by decide +kernel) rfl
set_option maxRecDepth 100000 in
theorem l_JS_492 : Cond.methodLink "java/lang/String" 492 M_JS_isLatin1.1 ∈ ev_ws := ev_m 306 (by decide +kernel) rfl
set_option maxRecDepth 100000 in
theorem l_JS_495 : Cond.methodLink "java/lang/String" 495 M_J1_charAt.1 ∈ ev_ws := ev_m 392 (by decide +kernel) rfl
set_option maxRecDepth 100000 in
theorem l_J1_9 : Cond.methodLink "java/lang/StringLatin1" 9 M_JS_checkIndex.1 ∈ ev_ws := ev_m 395 (by decide +kernel) rfl
set_option maxRecDepth 100000 in
theorem l_JS_1059 : Cond.methodLink "java/lang/String" 1059 M_JP_checkIndex.1 ∈ ev_ws := ev_m 398 (by decide +kernel) rfl
set_option maxRecDepth 100000 in
theorem l_JS_633 : Cond.methodLink "java/lang/String" 633 M_JS_indexOf2.1 ∈ ev_ws := ev_m 302 (by decide +kernel) rfl
set_option maxRecDepth 100000 in
theorem l_JS_505 : Cond.methodLink "java/lang/String" 505 M_JS_length.1 ∈ ev_ws := ev_m 312 (by decide +kernel) rfl
set_option maxRecDepth 100000 in
theorem l_JS_637 : Cond.methodLink "java/lang/String" 637 M_J1_indexOf.1 ∈ ev_ws := ev_m 320 (by decide +kernel) rfl
set_option maxRecDepth 100000 in
theorem l_J1_88 : Cond.methodLink "java/lang/StringLatin1" 88 M_J1_canEncode.1 ∈ ev_ws := ev_m 323 (by decide +kernel) rfl
set_option maxRecDepth 100000 in
theorem l_J1_95 : Cond.methodLink "java/lang/StringLatin1" 95 M_J1_indexOfChar.1 ∈ ev_ws := ev_m 330 (by decide +kernel) rfl
set_option maxRecDepth 100000 in
theorem f_JS_9 : Cond.fieldLink "java/lang/String" 9 "java/lang/String" "value" "[B" ∈ ev_ws := ev_m 1491 (by decide +kernel) rfl
set_option maxRecDepth 100000 in
theorem f_JS_15 : Cond.fieldLink "java/lang/String" 15 "java/lang/String" "coder" "B" ∈ ev_ws := ev_m 1490 (by decide +kernel) rfl
set_option maxRecDepth 100000 in
theorem f_JS_38 : Cond.fieldLink "java/lang/String" 38 "java/lang/String" "COMPACT_STRINGS" "Z" ∈ ev_ws := ev_m 310 (by decide +kernel) rfl
set_option maxRecDepth 100000 in
theorem f_JS_1053 : Cond.fieldLink "java/lang/String" 1053 "jdk/internal/util/Preconditions" "SIOOBE_FORMATTER" "Ljava/util/function/BiFunction;" ∈ ev_ws := ev_m 351 (by decide +kernel) rfl
set_option maxRecDepth 100000 in
theorem lL_J1_92 : Cond.methodLink "java/lang/StringLatin1" 92 Lib.Math.max.name ∈ ev_ws := ev_m 326 (by decide +kernel) rfl
set_option maxRecDepth 100000 in
theorem lL_J1_38 : Cond.methodLink "java/lang/StringLatin1" 38 Lib.Math.min.name ∈ ev_ws := ev_m 329 (by decide +kernel) rfl
section S33
variable {G : ev_G} {d k n : Nat} {M M' : ev_M} {pc : Nat} {ls rest : List Value} {h : ev_H} {R : Option Value → ev_H → Prop} {i : Nat}
theorem ev_ad_big (G : ev_G) (x : Nat) : ev_ad G (ev_big + x) = G.2.2.2.2 x := by unfold ev_ad; rw [if_neg (by omega), Nat.add_sub_cancel_left]
theorem ev_Cx.x {p : Program} {s : State} {m : MethodId} {args : Array Value} {meth : Method} {c : Code} (hx : ev_Cx G M p s m args meth c) : ev_X G s := hx.2.2.2.2.2.2.2.2.2.2.2.1
theorem ev_old {H : Heap} (g1 : ev_Rel G h H) {a : Nat} {cell : Cell} (hc : G.2.1[a]? = some cell) : H[a]? = some cell := by
  rw [g1.2.2.1 a (Array.getElem?_eq_some_iff.mp hc).1]; exact hc
theorem Ev.strV (hcls : M.1.cls = "java/lang/String") (hi : i < 15) (hL : Cond.fieldLink "java/lang/String" 9 "java/lang/String" "value" "[B" ∈ ev_ws) (hd : decode M.2.1 pc = .ok (.getfield 9, 3)) (hE : Ev G d k n M (pc + 3) ls (.ref (ev_big + (20 + i)) :: rest) h R) : Ev G d k n M pc ls (.ref (ev_big + i) :: rest) h R := by
  intro p e Rm s m args below meth c Q hx h1 h2 hkk H locs cells slots A g1 g2 g3 g4 g5
  obtain ⟨cf, kf, fi, f, cell, w1, w2, w3, w4, w5, w6⟩ := (hx.x.1.1 i hi).2.2.1
  have := hE p e Rm s m args below meth c Q hx h1 h2 hkk H locs cells slots A g1 g2 g3 g4 g5
  simp only [List.map_cons, ev_tr, ev_ad_big] at this ⊢
  have hown := hx.2.2.2.1
  rw [hcls] at hown
  exact W.getf hx.1 hx.2.1 hown (hx.2.2.2.2.1 _ hL) w1 w2 (ev_old g1 w3) w4 w5 rfl rfl hd this
theorem Ev.strC (hcls : M.1.cls = "java/lang/String") (hi : i < 15) (hL : Cond.fieldLink "java/lang/String" 15 "java/lang/String" "coder" "B" ∈ ev_ws) (hd : decode M.2.1 pc = .ok (.getfield 15, 3)) (hE : Ev G d k n M (pc + 3) ls (.int 0 :: rest) h R) : Ev G d k n M pc ls (.ref (ev_big + i) :: rest) h R := by
  intro p e Rm s m args below meth c Q hx h1 h2 hkk H locs cells slots A g1 g2 g3 g4 g5
  obtain ⟨cf, kf, fi, f, cell, w1, w2, w3, w4, w5, w6⟩ := (hx.x.1.1 i hi).2.1
  have := hE p e Rm s m args below meth c Q hx h1 h2 hkk H locs cells slots A g1 g2 g3 g4 g5
  simp only [List.map_cons, ev_tr, ev_ad_big] at this ⊢
  have hown := hx.2.2.2.1
  rw [hcls] at hown
  exact W.getf hx.1 hx.2.1 hown (hx.2.2.2.2.1 _ hL) w1 w2 (ev_old g1 w3) w4 w5 rfl rfl hd this
theorem Ev.getsC (hcls : M.1.cls = "java/lang/String") (hL : Cond.fieldLink "java/lang/String" 38 "java/lang/String" "COMPACT_STRINGS" "Z" ∈ ev_ws) (hd : decode M.2.1 pc = .ok (.getstatic 38, 3)) (hE : Ev G d k n M (pc + 3) ls (.int 1 :: rest) h R) : Ev G d k n M pc ls rest h R := by
  intro p e Rm s m args below meth c Q hx h1 h2 hkk H locs cells slots A g1 g2 g3 g4 g5
  obtain ⟨cf, kf, fi, f, a, cell, w1, w2, w3, w4, w5, w6, w7, w8⟩ := hx.x.2.1
  have := hE p e Rm s m args below meth c Q hx h1 h2 hkk H locs cells slots A g1 g2 g3 g4 g5
  have hown := hx.2.2.2.1
  rw [hcls] at hown
  exact W.gets hx.1 hx.2.1 hown (hx.2.2.2.2.1 _ hL) w1 w2 w3 w4 (ev_old g1 w5) (fun e => by rw [e] at w6; cases w6) w7 rfl hd this
theorem Ev.getsF (hcls : M.1.cls = "java/lang/String") (hL : Cond.fieldLink "java/lang/String" 1053 "jdk/internal/util/Preconditions" "SIOOBE_FORMATTER" "Ljava/util/function/BiFunction;" ∈ ev_ws) (hd : decode M.2.1 pc = .ok (.getstatic 1053, 3)) (hE : ∀ f : Value, f = .null ∨ f = .ref (ev_big + 50) → Ev G d k n M (pc + 3) ls (f :: rest) h R) : Ev G d k n M pc ls rest h R := by
  intro p e Rm s m args below meth c Q hx h1 h2 hkk H locs cells slots A g1 g2 g3 g4 g5
  have hown := hx.2.2.2.1
  rw [hcls] at hown
  rcases hx.x.2.2.1 with ⟨cf, kf, fi, f, a, cell, w1, w2, w3, w4, w5, w6, w7, w8⟩ | ⟨cf, kf, fi, f, a, cell, w1, w2, w3, w4, w5, w6, w7, w8⟩
  · have := hE .null (Or.inl rfl) p e Rm s m args below meth c Q hx h1 h2 hkk H locs cells slots A g1 g2 g3 g4 g5
    exact W.gets hx.1 hx.2.1 hown (hx.2.2.2.2.1 _ hL) w1 w2 w3 w4 (ev_old g1 w5) (fun e => by rw [e] at w6; cases w6) w7 rfl hd this
  · have := hE (.ref (ev_big + 50)) (Or.inr rfl) p e Rm s m args below meth c Q hx h1 h2 hkk H locs cells slots A g1 g2 g3 g4 g5
    simp only [List.map_cons, ev_tr, ev_ad_big] at this
    exact W.gets hx.1 hx.2.1 hown (hx.2.2.2.2.1 _ hL) w1 w2 w3 w4 (ev_old g1 w5) (fun e => by rw [e] at w6; cases w6) w7 rfl hd this
theorem Ev.xlen (hi : i < 15) (hd : decode M.2.1 pc = .ok (.arraylength, 1)) (hE : Ev G d k n M (pc + 1) ls (.int (nI (ev_len.getD i 0)) :: rest) h R) : Ev G d k n M pc ls (.ref (ev_big + (20 + i)) :: rest) h R := by
  intro p e Rm s m args below meth c Q hx h1 h2 hkk H locs cells slots A g1 g2 g3 g4 g5
  obtain ⟨cell, w1, w2, w3, w4, w5, w6, w7⟩ := (hx.x.1.1 i hi).2.2.2
  have := hE p e Rm s m args below meth c Q hx h1 h2 hkk H locs cells slots A g1 g2 g3 g4 g5
  simp only [List.map_cons, ev_tr, ev_ad_big] at this ⊢
  exact W.alen hx.1 hx.2.1 (ev_old g1 w1) w2 w5 rfl rfl hd this
theorem Ev.xbald {j : Nat} {jI : Int32} (hi : i < 15) (hd : decode M.2.1 pc = .ok (.baload, 1)) (hj : jI = nI j ∧ j < ev_len.getD i 0) (hE : Ev G d k n M (pc + 1) ls (.int ((ev_byt.getD i []).getD j 0) :: rest) h R) : Ev G d k n M pc ls (.int jI :: .ref (ev_big + (20 + i)) :: rest) h R := by
  obtain ⟨rfl, hj⟩ := hj
  intro p e Rm s m args below meth c Q hx h1 h2 hkk H locs cells slots A g1 g2 g3 g4 g5
  obtain ⟨cell, w1, w2, w3, w4, w5, w6, w7⟩ := (hx.x.1.1 i hi).2.2.2
  have := hE p e Rm s m args below meth c Q hx h1 h2 hkk H locs cells slots A g1 g2 g3 g4 g5
  simp only [List.map_cons, ev_tr, ev_ad_big] at this ⊢
  have hl : ev_len.getD i 0 < 100 := (by decide +kernel : ∀ i, i < 15 → ev_len.getD i 0 < 100) i hi
  have hc : (nI j).toNatClampNeg = j := nI_clamp (by omega)
  exact W.bald hx.1 hx.2.1 (ev_old g1 w1) w2 w3 (by rw [hc]; exact fun z => z.elim (fun q => nI_pos (n := j) (by omega) q) (fun q => by omega)) (by rw [hc]; exact w6 j hj) rfl rfl hd this
/-- a call on a literal -/
theorem Ev.callX {idx na k1 n1 : Nat} {as st : List Value} {R1 : Option Value → ev_H → Prop} (hL : Cond.methodLink M.1.cls idx M'.1 ∈ ev_ws) (hok : ev_ok M' na) (hin : Cond.instanceMethod M'.1 ∈ ev_ws) (hse : Cond.selects M'.1.cls M'.1 M'.1 ∈ ev_ws) (hd : decode M.2.1 pc = .ok (.invokevirtual idx, 3)) (hi : i < 15) (hcl : M'.1.cls = "java/lang/String")
    (hst : st = as.reverse ++ .ref (ev_big + i) :: rest) (hn : as.length = na) (hr : (rest.map fun v => v.category).sum ≤ 8) (hf : (ev_flat (.ref (ev_big + i) :: as)).length ≤ M'.2.2.1) (hE : Ev G d k1 n1 M' 0 (ev_ent M'.2.2.1 (.ref (ev_big + i) :: as)) [] h R1)
    (hk : ∀ r h', R1 r h' → Ev G (d + 1) k n M (pc + 3) ls (r.toList ++ rest) h' R) : Ev G (d + 1) (k1 + k) (n1 + n) M pc ls st h R := by
  intro p e Rm s m args below meth c Q hx h1 h2 hkk H locs cells slots A g1 g2 g3 g4 g5
  obtain ⟨o1, o2, o3, o4, o5, o6⟩ := hok
  have hts := hx.2.2.2.2.1
  obtain ⟨cell, w1, w2, w3, w4⟩ := (hx.x.1.1 i hi).1
  have hrecv : ∃ cell : Cell, H[ev_ad G (ev_big + i)]? = some cell ∧ cell.vm.isStatics = false ∧ s.vm.findClass M'.1.cls = some cell.cls := by
    rw [ev_ad_big, hcl]
    exact ⟨cell, ev_old g1 w1, w2, w3⟩
  have hM := ev_met o3 hf hE
  have hrun := va_runV (p := p) (e := e) (R := Rm) (s := s) (m := m) (args := args) (below := below) (meth := meth) (c := c) (H := H) (locs := locs) (cells := cells) (slots := slots) (Ts := ev_ws) (own := M.1.cls) (C := M'.1.cls) (index := idx) (n := na) (bytes := M'.2.1) (maxL := M'.2.2.1) (ret := M'.2.2.2) (b := ev_ad G (ev_big + i)) (As := as.map (ev_tr G)) (rest := rest.map (ev_tr G)) (g := F0 m pc A (st.map (ev_tr G)))
    ⟨hx.1, hx.2.1, hx.2.2.1, hx.2.2.2.1, hts⟩ hM ⟨⟨rfl, rfl, by show d + 1 ≤ _; omega, by show 8 + (M'.2.2.1 + 11) + 64 * d ≤ _; omega, ev_words hts o1, List.mem_cons_self, hts _ o1, hts _ o2, o4, ev_npar o5, hts _ hL⟩, hts _ hin, hts _ hse⟩
    ⟨ev_blind G _ h, hrecv, fun U hU hW => ⟨by simp [ev_tr], by rw [hU]; exact g1, ev_K.warm hW hx.2.2.2.2.2.2.2.2⟩⟩ rfl (by rw [List.length_map]; exact hn) (g5.1.trans rfl) (by rw [hst]; show List.map (ev_tr G) (as.reverse ++ .ref (ev_big + i) :: rest) = _; rw [List.map_append, List.map_reverse, List.map_cons]; rfl) (ev_room hr) hd ⟨by omega, by omega⟩
  refine ev_after hrun g2 (fun q h => h) fun r h' H1 locs1 hR hrel hl => ?_
  have := hk r h' hR p e Rm s m args below meth c Q hx h1 h2 hkk H1 locs1 (cells + k1) (slots + n1) A hrel hl (by omega) (by omega) g5
  rw [List.map_append] at this
  cases r <;> exact this
theorem Ev.cX0 {idx na : Nat} {as st : List Value} (hL : Cond.methodLink M.1.cls idx M'.1 ∈ ev_ws) (hok : ev_ok M' na) (hin : Cond.instanceMethod M'.1 ∈ ev_ws) (hse : Cond.selects M'.1.cls M'.1 M'.1 ∈ ev_ws) (hd : decode M.2.1 pc = .ok (.invokevirtual idx, 3)) (hi : i < 15) (hcl : M'.1.cls = "java/lang/String")
    (hst : st = as.reverse ++ .ref (ev_big + i) :: rest) (hn : as.length = na) (hr : (rest.map fun v => v.category).sum ≤ 8) (hf : (ev_flat (.ref (ev_big + i) :: as)).length ≤ M'.2.2.1) (hE : Ev G d 0 0 M' 0 (ev_ent M'.2.2.1 (.ref (ev_big + i) :: as)) [] h (fun r h' => Ev G (d + 1) k n M (pc + 3) ls (r.toList ++ rest) h' R)) : Ev G (d + 1) k n M pc ls st h R :=
  ev_00 (Ev.callX hL hok hin hse hd hi hcl hst hn hr hf hE (fun r h' q => q))
theorem s_JS_coder (hi : i < 15) (hR : R (some (.int 0)) h) : Ev G d 0 0 M_JS_coder 0 [.ref (ev_big + i)] [] h R :=
  Ev.getsC rfl f_JS_38 (by decide +kernel) <|
  Ev.br (i := .ifCond .eq (10)) (P := (1 : Int32) = (0 : Int32)) (t := 13) (f := 6) (r := []) (by decide +kernel) rfl (fun c => absurd c (by decide)) (fun _ =>
  Ev.go (pc' := 7) (ls' := [.ref (ev_big + i)]) (st' := [.ref (ev_big + i)]) [.aload_n 0] (by decide +kernel) rfl <|
  Ev.strC rfl hi f_JS_15 (by decide +kernel) <|
  Ev.go (pc' := 14) (ls' := [.ref (ev_big + i)]) (st' := [.int (0 : Int32)]) [.goto (4)] (by decide +kernel) rfl <|
  Ev.ret (r := some (.int (0 : Int32))) (Or.inl ⟨_, rfl, by decide +kernel, _, rfl, rfl⟩) hR)
theorem s_JS_isLatin1 (hi : i < 15) (hR : R (some (.int 1)) h) : Ev G d 0 0 M_JS_isLatin1 0 [.ref (ev_big + i)] [] h R :=
  Ev.getsC rfl f_JS_38 (by decide +kernel) <|
  Ev.br (i := .ifCond .eq (14)) (P := (1 : Int32) = (0 : Int32)) (t := 17) (f := 6) (r := []) (by decide +kernel) rfl (fun c => absurd c (by decide)) (fun _ =>
  Ev.go (pc' := 7) (ls' := [.ref (ev_big + i)]) (st' := [.ref (ev_big + i)]) [.aload_n 0] (by decide +kernel) rfl <|
  Ev.strC rfl hi f_JS_15 (by decide +kernel) <|
  Ev.br (i := .ifCond .ne (7)) (P := (0 : Int32) = (0 : Int32)) (t := 13) (f := 17) (r := []) (by decide +kernel) rfl (fun _ =>
  Ev.go (pc' := 18) (ls' := [.ref (ev_big + i)]) (st' := [.int (1 : Int32)]) [.iconst 1, .goto (4)] (by decide +kernel) rfl <|
  Ev.ret (r := some (.int (1 : Int32))) (Or.inl ⟨_, rfl, by decide +kernel, _, rfl, rfl⟩) hR) (fun c => absurd rfl c))
theorem ev_len_lt (hi : i < 15) : ev_len.getD i 0 < 100 := (by decide +kernel : ∀ i, i < 15 → ev_len.getD i 0 < 100) i hi
theorem s_JS_length (hi : i < 15) (hR : R (some (.int (nI (ev_len.getD i 0)))) h) : Ev G (d + 1) 0 0 M_JS_length 0 [.ref (ev_big + i)] [] h R :=
  Ev.go (pc' := 1) (ls' := [.ref (ev_big + i)]) (st' := [.ref (ev_big + i)]) [.aload_n 0] (by decide +kernel) rfl <|
  Ev.strV rfl hi f_JS_9 (by decide +kernel) <|
  Ev.xlen hi (by decide +kernel) <|
  Ev.go (pc' := 6) (ls' := [.ref (ev_big + i)]) (st' := [.ref (ev_big + i), .int (nI (ev_len.getD i 0))]) [.aload_n 0] (by decide +kernel) rfl <|
  Ev.cX0 (M' := M_JS_coder) (as := []) (rest := [.int (nI (ev_len.getD i 0))]) l_JS_335 M_JS_coder_ok M_JS_coder_in M_JS_coder_se (by decide +kernel) hi rfl rfl rfl (Nat.le_of_ble_eq_true rfl) (Nat.le_of_ble_eq_true rfl) (s_JS_coder hi <| show Ev G (d + 1) 0 0 M_JS_length 9 [.ref (ev_big + i)] [.int (0 : Int32), .int (nI (ev_len.getD i 0))] h R from
  Ev.go (pc' := 10) (ls' := [.ref (ev_big + i)]) (st' := [.int (nI (ev_len.getD i 0) >>> ((0 : Int32) &&& 31))]) [.ishr] (by decide +kernel) rfl <|
  Ev.ret (r := some (.int (nI (ev_len.getD i 0) >>> ((0 : Int32) &&& 31)))) (Or.inl ⟨_, rfl, by decide +kernel, _, rfl, rfl⟩) (by
    have q := i_sarN (a := ev_len.getD i 0) (k := 0) (by have := ev_len_lt hi; omega) (by omega)
    rw [show (0 : Int32) = nI 0 from rfl, q, Nat.pow_zero, Nat.div_one]; exact hR))
theorem s_JP_checkIndex {x y : Int32} {f : Value} (h0 : ¬ x < 0) (h1 : x < y) (hR : R (some (.int x)) h) : Ev G d 0 0 M_JP_checkIndex 0 [.int x, .int y, f] [] h R :=
  Ev.go (pc' := 1) (ls' := [.int x, .int y, f]) (st' := [.int x]) [.iload_n 0] (by decide +kernel) rfl <|
  Ev.br (i := .ifCond .lt (8)) (P := x < (0 : Int32)) (t := 9) (f := 4) (r := []) (by decide +kernel) rfl (fun c => absurd c h0) (fun _ =>
  Ev.go (pc' := 6) (ls' := [.int x, .int y, f]) (st' := [.int y, .int x]) [.iload_n 0, .iload_n 1] (by decide +kernel) rfl <|
  Ev.br (i := .if_icmp .lt (10)) (P := x < y) (t := 16) (f := 9) (r := []) (by decide +kernel) rfl (fun _ =>
  Ev.go (pc' := 17) (ls' := [.int x, .int y, f]) (st' := [.int x]) [.iload_n 0] (by decide +kernel) rfl <|
  Ev.ret (r := some (.int x)) (Or.inl ⟨_, rfl, by decide +kernel, _, rfl, rfl⟩) hR) (fun c => absurd h1 c))
theorem s_JS_checkIndex {x y : Int32} (h0 : ¬ x < 0) (h1 : x < y) (hR : R none h) : Ev G (d + 1) 0 0 M_JS_checkIndex 0 [.int x, .int y] [] h R := by
  refine Ev.go (pc' := 2) (ls' := [.int x, .int y]) (st' := [.int y, .int x]) [.iload_n 0, .iload_n 1] (by decide +kernel) rfl <|
    Ev.getsF rfl f_JS_1053 (by decide +kernel) fun f hf => ?_
  have hend : Ev G (d + 1) 0 0 M_JS_checkIndex 8 [.int x, .int y] [.int x] h R :=
    Ev.go (pc' := 9) (ls' := [.int x, .int y]) (st' := []) [.pop] (by decide +kernel) rfl <|
    Ev.ret (r := none) (Or.inr (Or.inr (Or.inl ⟨rfl, by decide +kernel, rfl⟩))) hR
  rcases hf with rfl | rfl
  · exact Ev.cS0 (M' := M_JP_checkIndex) (as := [.int x, .int y, .null]) (rest := []) l_JS_1059 M_JP_checkIndex_ok M_JP_checkIndex_st (by decide +kernel) rfl rfl (Nat.le_of_ble_eq_true rfl) (Nat.le_of_ble_eq_true rfl) (s_JP_checkIndex h0 h1 hend)
  · exact Ev.cS0 (M' := M_JP_checkIndex) (as := [.int x, .int y, .ref (ev_big + 50)]) (rest := []) l_JS_1059 M_JP_checkIndex_ok M_JP_checkIndex_st (by decide +kernel) rfl rfl (Nat.le_of_ble_eq_true rfl) (Nat.le_of_ble_eq_true rfl) (s_JP_checkIndex h0 h1 hend)
def ev_chr (i j : Nat) : Int32 := ((((ev_byt.getD i []).getD j 0) &&& (Int16.ofInt 255).toInt32).toUInt32 % 65536).toInt32
theorem ev_chr_nb : ∀ i, i < 15 → ∀ j, j < 100 → narrow .char (.int (ev_chr i j)) = .int (ev_chr i j) := by decide +kernel
theorem s_J1_charAt {j : Nat} {jI : Int32} (hi : i < 15) (hj : jI = nI j ∧ j < ev_len.getD i 0) (hR : R (some (.int (ev_chr i j))) h) : Ev G (d + 2) 0 0 M_J1_charAt 0 [.ref (ev_big + (20 + i)), .int jI] [] h R := by
  have hl := ev_len_lt hi
  obtain ⟨rfl, hj⟩ := hj
  exact Ev.go (pc' := 2) (ls' := [.ref (ev_big + (20 + i)), .int (nI j)]) (st' := [.ref (ev_big + (20 + i)), .int (nI j)]) [.iload_n 1, .aload_n 0] (by decide +kernel) rfl <|
    Ev.xlen hi (by decide +kernel) <|
    Ev.cS0 (M' := M_JS_checkIndex) (as := [.int (nI j), .int (nI (ev_len.getD i 0))]) (rest := []) l_J1_9 M_JS_checkIndex_ok M_JS_checkIndex_st (by decide +kernel) rfl rfl (Nat.le_of_ble_eq_true rfl) (Nat.le_of_ble_eq_true rfl) (s_JS_checkIndex (nI_pos (by omega)) (nI_lt hj (by omega)) <| show Ev G (d + 2) 0 0 M_J1_charAt 6 [.ref (ev_big + (20 + i)), .int (nI j)] [] h R from
    Ev.go (pc' := 8) (ls' := [.ref (ev_big + (20 + i)), .int (nI j)]) (st' := [.int (nI j), .ref (ev_big + (20 + i))]) [.aload_n 0, .iload_n 1] (by decide +kernel) rfl <|
    Ev.xbald hi (by decide +kernel) ⟨rfl, hj⟩ <|
    Ev.go (pc' := 14) (ls' := [.ref (ev_big + (20 + i)), .int (nI j)]) (st' := [.int (ev_chr i j)]) [.sipush 255, .iand, .i2c] (by decide +kernel) rfl <|
    Ev.ret (r := some (.int (ev_chr i j))) (Or.inl ⟨_, rfl, by decide +kernel, _, rfl, ev_chr_nb i hi j (by omega)⟩) hR)
theorem s_JS_charAt {j : Nat} {jI : Int32} (hi : i < 15) (hj : jI = nI j ∧ j < ev_len.getD i 0) (hR : R (some (.int (ev_chr i j))) h) : Ev G (d + 3) 0 0 M_JS_charAt 0 [.ref (ev_big + i), .int jI] [] h R :=
  Ev.go (pc' := 1) (ls' := [.ref (ev_big + i), .int jI]) (st' := [.ref (ev_big + i)]) [.aload_n 0] (by decide +kernel) rfl <|
  Ev.cX0 (M' := M_JS_isLatin1) (as := []) (rest := []) l_JS_492 M_JS_isLatin1_ok M_JS_isLatin1_in M_JS_isLatin1_se (by decide +kernel) hi rfl rfl rfl (Nat.le_of_ble_eq_true rfl) (Nat.le_of_ble_eq_true rfl) (s_JS_isLatin1 hi <| show Ev G (d + 3) 0 0 M_JS_charAt 4 [.ref (ev_big + i), .int jI] [.int (1 : Int32)] h R from
  Ev.br (i := .ifCond .eq (12)) (P := (1 : Int32) = (0 : Int32)) (t := 16) (f := 7) (r := []) (by decide +kernel) rfl (fun c => absurd c (by decide)) (fun _ =>
  Ev.go (pc' := 8) (ls' := [.ref (ev_big + i), .int jI]) (st' := [.ref (ev_big + i)]) [.aload_n 0] (by decide +kernel) rfl <|
  Ev.strV rfl hi f_JS_9 (by decide +kernel) <|
  Ev.go (pc' := 12) (ls' := [.ref (ev_big + i), .int jI]) (st' := [.int jI, .ref (ev_big + (20 + i))]) [.iload_n 1] (by decide +kernel) rfl <|
  Ev.cS0 (M' := M_J1_charAt) (as := [.ref (ev_big + (20 + i)), .int jI]) (rest := []) l_JS_495 M_J1_charAt_ok M_J1_charAt_st (by decide +kernel) rfl rfl (Nat.le_of_ble_eq_true rfl) (Nat.le_of_ble_eq_true rfl) (s_J1_charAt hi hj <| show Ev G (d + 3) 0 0 M_JS_charAt 15 [.ref (ev_big + i), .int jI] [.int (ev_chr i j)] h R from
  Ev.ret (r := some (.int (ev_chr i j))) (Or.inl ⟨_, rfl, by decide +kernel, _, rfl, ev_chr_nb i hi j (by have := ev_len_lt hi; omega)⟩) hR)))
def ev_ixo (i : Nat) (c : Int32) : Int32 := if c < 0 then -1 else if 255 < c then -1 else frI (fun j => decide ((ev_byt.getD i []).getD j 0 = c.toInt8.toInt32)) (ev_len.getD i 0)
theorem s_J1_canEncode {c : Int32} (hR : R (some (.int (if c < 0 then 0 else if 255 < c then 0 else 1))) h) : Ev G d 0 0 M_J1_canEncode 0 [.int c] [] h R :=
  Ev.go (pc' := 1) (ls' := [.int c]) (st' := [.int c]) [.iload_n 0] (by decide +kernel) rfl <|
  Ev.br (i := .ifCond .lt (14)) (P := c < (0 : Int32)) (t := 15) (f := 4) (r := []) (by decide +kernel) rfl (fun q =>
    Ev.go (pc' := 16) (ls' := [.int c]) (st' := [.int (0 : Int32)]) [.iconst 0] (by decide +kernel) rfl <|
    Ev.ret (r := some (.int (0 : Int32))) (Or.inl ⟨_, rfl, by decide +kernel, _, rfl, rfl⟩) (by rw [if_pos q] at hR; exact hR)) (fun q =>
  Ev.go (pc' := 8) (ls' := [.int c]) (st' := [.int (255 : Int32), .int c]) [.iload_n 0, .sipush 255] (by decide +kernel) rfl <|
  Ev.br (i := .if_icmp .gt (7)) (P := (255 : Int32) < c) (t := 15) (f := 11) (r := []) (by decide +kernel) rfl (fun q2 =>
    Ev.go (pc' := 16) (ls' := [.int c]) (st' := [.int (0 : Int32)]) [.iconst 0] (by decide +kernel) rfl <|
    Ev.ret (r := some (.int (0 : Int32))) (Or.inl ⟨_, rfl, by decide +kernel, _, rfl, rfl⟩) (by rw [if_neg q, if_pos q2] at hR; exact hR)) (fun q2 =>
    Ev.go (pc' := 16) (ls' := [.int c]) (st' := [.int (1 : Int32)]) [.iconst 1, .goto (4)] (by decide +kernel) rfl <|
    Ev.ret (r := some (.int (1 : Int32))) (Or.inl ⟨_, rfl, by decide +kernel, _, rfl, rfl⟩) (by rw [if_neg q, if_neg q2] at hR; exact hR)))
theorem s_J1_indexOfChar {c : Int32} (hi : i < 15) (hR : R (some (.int (frI (fun j => decide ((ev_byt.getD i []).getD j 0 = c.toInt8.toInt32)) (ev_len.getD i 0)))) h) : Ev G d 0 0 M_J1_indexOfChar 0 [.ref (ev_big + (20 + i)), .int c, .int 0, .int (nI (ev_len.getD i 0)), ev_unk, ev_unk] [] h R := by
  have hl := ev_len_lt hi
  refine Ev.go (pc' := 7) (ls' := [.ref (ev_big + (20 + i)), .int c, .int 0, .int (nI (ev_len.getD i 0)), .int c.toInt8.toInt32, .int (nI 0)]) (st' := []) [.iload_n 1, .i2b, .istore 4, .iload_n 2, .istore 5] (by decide +kernel) rfl ?_
  have L := up0 (P := fun j => (∀ q, q < j → decide ((ev_byt.getD i []).getD q 0 = c.toInt8.toInt32) = false) → Ev G d 0 0 M_J1_indexOfChar 7 [.ref (ev_big + (20 + i)), .int c, .int 0, .int (nI (ev_len.getD i 0)), .int c.toInt8.toInt32, .int (nI j)] [] h R) (ev_len.getD i 0) ?_ ?_
  · exact L fun q hq => absurd hq (Nat.not_lt_zero q)
  · intro j hj ih hno
    refine Ev.go (pc' := 10) (ls' := [.ref (ev_big + (20 + i)), .int c, .int 0, .int (nI (ev_len.getD i 0)), .int c.toInt8.toInt32, .int (nI j)]) (st' := [.int (nI (ev_len.getD i 0)), .int (nI j)]) [.iload 5, .iload_n 3] (by decide +kernel) rfl ?_
    refine Ev.br (i := .if_icmp .ge (21)) (P := nI j < nI (ev_len.getD i 0)) (t := 13) (f := 31) (r := []) (by decide +kernel) rfl (fun _ => ?_) (fun q => absurd (nI_lt hj (by omega)) q)
    refine Ev.go (pc' := 16) (ls' := [.ref (ev_big + (20 + i)), .int c, .int 0, .int (nI (ev_len.getD i 0)), .int c.toInt8.toInt32, .int (nI j)]) (st' := [.int (nI j), .ref (ev_big + (20 + i))]) [.aload_n 0, .iload 5] (by decide +kernel) rfl ?_
    refine Ev.xbald hi (by decide +kernel) ⟨rfl, hj⟩ ?_
    refine Ev.go (pc' := 19) (ls' := [.ref (ev_big + (20 + i)), .int c, .int 0, .int (nI (ev_len.getD i 0)), .int c.toInt8.toInt32, .int (nI j)]) (st' := [.int c.toInt8.toInt32, .int ((ev_byt.getD i []).getD j 0)]) [.iload 4] (by decide +kernel) rfl ?_
    refine Ev.br (i := .if_icmp .ne (6)) (P := (ev_byt.getD i []).getD j 0 = c.toInt8.toInt32) (t := 22) (f := 25) (r := []) (by decide +kernel) rfl (fun q => ?_) (fun q => ?_)
    · refine Ev.go (pc' := 24) (ls' := [.ref (ev_big + (20 + i)), .int c, .int 0, .int (nI (ev_len.getD i 0)), .int c.toInt8.toInt32, .int (nI j)]) (st' := [.int (nI j)]) [.iload 5] (by decide +kernel) rfl ?_
      refine Ev.ret (r := some (.int (nI j))) (Or.inl ⟨_, rfl, by decide +kernel, _, rfl, rfl⟩) ?_
      rw [frI, fst_eq hj (decide_eq_true q) hno, if_pos hj] at hR
      exact hR
    · refine Ev.go (pc' := 7) (ls' := [.ref (ev_big + (20 + i)), .int c, .int 0, .int (nI (ev_len.getD i 0)), .int c.toInt8.toInt32, .int (nI j + 1)]) (st' := []) [.iinc 5 (1), .goto (-21)] (by decide +kernel) rfl ?_
      rw [nI_1]
      refine ih fun q' hq' => ?_
      by_cases e : q' = j
      · subst e; exact decide_eq_false q
      · exact hno q' (by omega)
  · intro hno
    refine Ev.go (pc' := 10) (ls' := [.ref (ev_big + (20 + i)), .int c, .int 0, .int (nI (ev_len.getD i 0)), .int c.toInt8.toInt32, .int (nI (ev_len.getD i 0))]) (st' := [.int (nI (ev_len.getD i 0)), .int (nI (ev_len.getD i 0))]) [.iload 5, .iload_n 3] (by decide +kernel) rfl ?_
    refine Ev.br (i := .if_icmp .ge (21)) (P := nI (ev_len.getD i 0) < nI (ev_len.getD i 0)) (t := 13) (f := 31) (r := []) (by decide +kernel) rfl (fun q => absurd q (nl_self (by omega))) (fun _ => ?_)
    refine Ev.go (pc' := 32) (ls' := [.ref (ev_big + (20 + i)), .int c, .int 0, .int (nI (ev_len.getD i 0)), .int c.toInt8.toInt32, .int (nI (ev_len.getD i 0))]) (st' := [.int (-1 : Int32)]) [.iconst (-1)] (by decide +kernel) rfl ?_
    refine Ev.ret (r := some (.int (-1 : Int32))) (Or.inl ⟨_, rfl, by decide +kernel, _, rfl, rfl⟩) ?_
    rw [frI, fst_none hno, if_neg (Nat.lt_irrefl _)] at hR
    exact hR
theorem ev_len_pos : ∀ i, i < 15 → 0 < ev_len.getD i 0 := by decide +kernel
theorem s_J1_indexOf {c : Int32} (hi : i < 15) (hR : R (some (.int (ev_ixo i c))) h) : Ev G (d + 1) 0 0 M_J1_indexOf 0 [.ref (ev_big + (20 + i)), .int c, .int 0, .int (nI (ev_len.getD i 0))] [] h R := by
  have hl := ev_len_lt hi
  have hp := ev_len_pos i hi
  refine Ev.go (pc' := 1) (ls' := [.ref (ev_big + (20 + i)), .int c, .int 0, .int (nI (ev_len.getD i 0))]) (st' := [.int c]) [.iload_n 1] (by decide +kernel) rfl ?_
  refine Ev.cS0 (M' := M_J1_canEncode) (as := [.int c]) (rest := []) l_J1_88 M_J1_canEncode_ok M_J1_canEncode_st (by decide +kernel) rfl rfl (Nat.le_of_ble_eq_true rfl) (Nat.le_of_ble_eq_true rfl) (s_J1_canEncode ?_)
  show Ev G (d + 1) 0 0 M_J1_indexOf 4 [.ref (ev_big + (20 + i)), .int c, .int 0, .int (nI (ev_len.getD i 0))] [.int (if c < 0 then 0 else if 255 < c then 0 else 1)] h R
  refine Ev.br (i := .ifCond .ne (5)) (P := (if c < 0 then (0 : Int32) else if 255 < c then 0 else 1) = (0 : Int32)) (t := 7) (f := 9) (r := []) (by decide +kernel) rfl (fun q => ?_) (fun q => ?_)
  · refine Ev.go (pc' := 8) (ls' := [.ref (ev_big + (20 + i)), .int c, .int 0, .int (nI (ev_len.getD i 0))]) (st' := [.int (-1 : Int32)]) [.iconst (-1)] (by decide +kernel) rfl ?_
    refine Ev.ret (r := some (.int (-1 : Int32))) (Or.inl ⟨_, rfl, by decide +kernel, _, rfl, rfl⟩) ?_
    unfold ev_ixo at hR
    by_cases c1 : c < 0
    · rw [if_pos c1] at hR; exact hR
    · by_cases c2 : 255 < c
      · rw [if_neg c1, if_pos c2] at hR; exact hR
      · rw [if_neg c1, if_neg c2] at q; exact absurd q (by decide)
  · have e : ev_ixo i c = frI (fun j => decide ((ev_byt.getD i []).getD j 0 = c.toInt8.toInt32)) (ev_len.getD i 0) := by
      unfold ev_ixo
      by_cases c1 : c < 0
      · rw [if_pos c1] at q; exact absurd rfl q
      · by_cases c2 : 255 < c
        · rw [if_neg c1, if_pos c2] at q; exact absurd rfl q
        · rw [if_neg c1, if_neg c2]
    rw [e] at hR
    refine Ev.go (pc' := 11) (ls' := [.ref (ev_big + (20 + i)), .int c, .int 0, .int (nI (ev_len.getD i 0))]) (st' := [.int (0 : Int32), .int 0]) [.iload_n 2, .iconst 0] (by decide +kernel) rfl ?_
    refine Ev.mmax lL_J1_92 w_maxS w_mathI w_maxC (Nat.le_of_ble_eq_true rfl) (by decide +kernel) ?_
    refine Ev.go (pc' := 17) (ls' := [.ref (ev_big + (20 + i)), .int c, .int (if (0 : Int32) < 0 then 0 else 0), .int (nI (ev_len.getD i 0))]) (st' := [.ref (ev_big + (20 + i)), .int (nI (ev_len.getD i 0))]) [.istore_n 2, .iload_n 3, .aload_n 0] (by decide +kernel) rfl ?_
    refine Ev.xlen hi (by decide +kernel) ?_
    refine Ev.mmin lL_J1_38 w_minS w_mathI w_minC (Nat.le_of_ble_eq_true rfl) (by decide +kernel) ?_
    rw [if_neg (nl_self (by omega)), if_neg (by decide : ¬ (0 : Int32) < 0)]
    refine Ev.go (pc' := 24) (ls' := [.ref (ev_big + (20 + i)), .int c, .int 0, .int (nI (ev_len.getD i 0))]) (st' := [.int (nI (ev_len.getD i 0)), .int 0]) [.istore_n 3, .iload_n 2, .iload_n 3] (by decide +kernel) rfl ?_
    refine Ev.br (i := .if_icmp .lt (5)) (P := (0 : Int32) < nI (ev_len.getD i 0)) (t := 29) (f := 27) (r := []) (by decide +kernel) rfl (fun _ => ?_) (fun q => absurd (nI_lt (a := 0) hp (by omega)) q)
    refine Ev.go (pc' := 33) (ls' := [.ref (ev_big + (20 + i)), .int c, .int 0, .int (nI (ev_len.getD i 0))]) (st' := [.int (nI (ev_len.getD i 0)), .int 0, .int c, .ref (ev_big + (20 + i))]) [.aload_n 0, .iload_n 1, .iload_n 2, .iload_n 3] (by decide +kernel) rfl ?_
    refine Ev.cS0 (M' := M_J1_indexOfChar) (as := [.ref (ev_big + (20 + i)), .int c, .int 0, .int (nI (ev_len.getD i 0))]) (rest := []) l_J1_95 M_J1_indexOfChar_ok M_J1_indexOfChar_st (by decide +kernel) rfl rfl (Nat.le_of_ble_eq_true rfl) (Nat.le_of_ble_eq_true rfl) (s_J1_indexOfChar hi ?_)
    show Ev G (d + 1) 0 0 M_J1_indexOf 36 [.ref (ev_big + (20 + i)), .int c, .int 0, .int (nI (ev_len.getD i 0))] [.int (frI (fun j => decide ((ev_byt.getD i []).getD j 0 = c.toInt8.toInt32)) (ev_len.getD i 0))] h R
    exact Ev.ret (r := some (.int (frI (fun j => decide ((ev_byt.getD i []).getD j 0 = c.toInt8.toInt32)) (ev_len.getD i 0)))) (Or.inl ⟨_, rfl, by decide +kernel, _, rfl, rfl⟩) hR
theorem s_JS_indexOf2 {c : Int32} (hi : i < 15) (hR : R (some (.int (ev_ixo i c))) h) : Ev G (d + 2) 0 0 M_JS_indexOf2 0 [.ref (ev_big + i), .int c, .int 0] [] h R :=
  Ev.go (pc' := 1) (ls' := [.ref (ev_big + i), .int c, .int 0]) (st' := [.ref (ev_big + i)]) [.aload_n 0] (by decide +kernel) rfl <|
  Ev.cX0 (M' := M_JS_isLatin1) (as := []) (rest := []) l_JS_492 M_JS_isLatin1_ok M_JS_isLatin1_in M_JS_isLatin1_se (by decide +kernel) hi rfl rfl rfl (Nat.le_of_ble_eq_true rfl) (Nat.le_of_ble_eq_true rfl) (s_JS_isLatin1 hi <| show Ev G (d + 2) 0 0 M_JS_indexOf2 4 [.ref (ev_big + i), .int c, .int 0] [.int (1 : Int32)] h R from
  Ev.br (i := .ifCond .eq (19)) (P := (1 : Int32) = (0 : Int32)) (t := 23) (f := 7) (r := []) (by decide +kernel) rfl (fun c => absurd c (by decide)) (fun _ =>
  Ev.go (pc' := 8) (ls' := [.ref (ev_big + i), .int c, .int 0]) (st' := [.ref (ev_big + i)]) [.aload_n 0] (by decide +kernel) rfl <|
  Ev.strV rfl hi f_JS_9 (by decide +kernel) <|
  Ev.go (pc' := 14) (ls' := [.ref (ev_big + i), .int c, .int 0]) (st' := [.ref (ev_big + i), .int 0, .int c, .ref (ev_big + (20 + i))]) [.iload_n 1, .iload_n 2, .aload_n 0] (by decide +kernel) rfl <|
  Ev.cX0 (M' := M_JS_length) (as := []) (rest := [.int 0, .int c, .ref (ev_big + (20 + i))]) l_JS_505 M_JS_length_ok M_JS_length_in M_JS_length_se (by decide +kernel) hi rfl rfl rfl (Nat.le_of_ble_eq_true rfl) (Nat.le_of_ble_eq_true rfl) (s_JS_length hi <| show Ev G (d + 2) 0 0 M_JS_indexOf2 17 [.ref (ev_big + i), .int c, .int 0] [.int (nI (ev_len.getD i 0)), .int 0, .int c, .ref (ev_big + (20 + i))] h R from
  Ev.cS0 (M' := M_J1_indexOf) (as := [.ref (ev_big + (20 + i)), .int c, .int 0, .int (nI (ev_len.getD i 0))]) (rest := []) l_JS_637 M_J1_indexOf_ok M_J1_indexOf_st (by decide +kernel) rfl rfl (Nat.le_of_ble_eq_true rfl) (Nat.le_of_ble_eq_true rfl) (s_J1_indexOf hi <| show Ev G (d + 2) 0 0 M_JS_indexOf2 20 [.ref (ev_big + i), .int c, .int 0] [.int (ev_ixo i c)] h R from
  Ev.go (pc' := 36) (ls' := [.ref (ev_big + i), .int c, .int 0]) (st' := [.int (ev_ixo i c)]) [.goto (16)] (by decide +kernel) rfl <|
  Ev.ret (r := some (.int (ev_ixo i c))) (Or.inl ⟨_, rfl, by decide +kernel, _, rfl, rfl⟩) hR))))
theorem s_JS_indexOf {c : Int32} (hi : i < 15) (hR : R (some (.int (ev_ixo i c))) h) : Ev G (d + 3) 0 0 M_JS_indexOf 0 [.ref (ev_big + i), .int c] [] h R :=
  Ev.go (pc' := 3) (ls' := [.ref (ev_big + i), .int c]) (st' := [.int (0 : Int32), .int c, .ref (ev_big + i)]) [.aload_n 0, .iload_n 1, .iconst 0] (by decide +kernel) rfl <|
  Ev.cX0 (M' := M_JS_indexOf2) (as := [.int c, .int 0]) (rest := []) l_JS_633 M_JS_indexOf2_ok M_JS_indexOf2_in M_JS_indexOf2_se (by decide +kernel) hi rfl rfl rfl (Nat.le_of_ble_eq_true rfl) (Nat.le_of_ble_eq_true rfl) (s_JS_indexOf2 hi <| show Ev G (d + 3) 0 0 M_JS_indexOf 6 [.ref (ev_big + i), .int c] [.int (ev_ixo i c)] h R from
  Ev.ret (r := some (.int (ev_ixo i c))) (Or.inl ⟨_, rfl, by decide +kernel, _, rfl, rfl⟩) hR)
variable {idx : Nat}
theorem Ev.sLen (hL : Cond.methodLink M.1.cls idx M_JS_length.1 ∈ ev_ws) (hi : i < 15) (hr : (rest.map fun v => v.category).sum ≤ 8) (hd : decode M.2.1 pc = .ok (.invokevirtual idx, 3)) (hE : Ev G (d + 2) k n M (pc + 3) ls (.int (nI (ev_len.getD i 0)) :: rest) h R) : Ev G (d + 2) k n M pc ls (.ref (ev_big + i) :: rest) h R :=
  Ev.cX0 (M' := M_JS_length) (as := []) (rest := rest) hL M_JS_length_ok M_JS_length_in M_JS_length_se hd hi rfl rfl rfl hr (Nat.le_of_ble_eq_true rfl) (s_JS_length hi hE)
theorem Ev.sChr {j : Nat} {jI : Int32} (hL : Cond.methodLink M.1.cls idx M_JS_charAt.1 ∈ ev_ws) (hi : i < 15) (hj : ev_ix jI j (ev_len.getD i 0)) (hr : (rest.map fun v => v.category).sum ≤ 8) (hd : decode M.2.1 pc = .ok (.invokevirtual idx, 3)) (hE : Ev G (d + 4) k n M (pc + 3) ls (.int (ev_chr i j) :: rest) h R) : Ev G (d + 4) k n M pc ls (.int jI :: .ref (ev_big + i) :: rest) h R :=
  Ev.cX0 (M' := M_JS_charAt) (as := [.int jI]) (rest := rest) hL M_JS_charAt_ok M_JS_charAt_in M_JS_charAt_se hd hi rfl rfl rfl hr (Nat.le_of_ble_eq_true rfl) (s_JS_charAt hi ⟨hj.1, hj.2.1⟩ hE)
theorem Ev.sIx {c : Int32} (hL : Cond.methodLink M.1.cls idx M_JS_indexOf.1 ∈ ev_ws) (hi : i < 15) (hr : (rest.map fun v => v.category).sum ≤ 8) (hd : decode M.2.1 pc = .ok (.invokevirtual idx, 3)) (hE : Ev G (d + 4) k n M (pc + 3) ls (.int (ev_ixo i c) :: rest) h R) : Ev G (d + 4) k n M pc ls (.int c :: .ref (ev_big + i) :: rest) h R :=
  Ev.cX0 (M' := M_JS_indexOf) (as := [.int c]) (rest := rest) hL M_JS_indexOf_ok M_JS_indexOf_in M_JS_indexOf_se hd hi rfl rfl rfl hr (Nat.le_of_ble_eq_true rfl) (s_JS_indexOf hi hE)
end S33
