set_option maxRecDepth 100000 in
theorem c_Bu : ev_cls 0 (RX0, TX0, 5) tyX0 := ⟨rfl, ev_cl0, nmX0, tyX0_ok⟩
set_option maxRecDepth 100000 in
theorem c_Fi : ev_cls 1 (RX1, TX1, 5) tyX1 := ⟨rfl, ev_cl1, nmX1, tyX1_ok⟩
set_option maxRecDepth 100000 in
theorem c_Hi : ev_cls 2 (RX2, TX2, 5) tyX2 := ⟨rfl, ev_cl2, nmX2, tyX2_ok⟩
set_option maxRecDepth 100000 in
theorem c_Ra : ev_cls 3 (RX3, TX3, 4) tyX3 := ⟨rfl, ev_cl3, nmX3, tyX3_ok⟩
set_option maxRecDepth 100000 in
theorem c_Re : ev_cls 4 (RX4, TX4, 8) tyX4 := ⟨rfl, ev_cl4, nmX4, tyX4_ok⟩
set_option maxRecDepth 100000 in
theorem c_Sp : ev_cls 5 (RX5, TX5, 6) tyX5 := ⟨rfl, ev_cl5, nmX5, tyX5_ok⟩
set_option maxRecDepth 100000 in
theorem c_St : ev_cls 6 (RX6, TX6, 7) tyX6 := ⟨rfl, ev_cl6, nmX6, tyX6_ok⟩
set_option maxRecDepth 100000 in
theorem c_Ta : ev_cls 7 (RX7, TX7, 2) tyX7 := ⟨rfl, ev_cl7, nmX7, tyX7_ok⟩
set_option maxRecDepth 100000 in
theorem c_X : ev_cls 8 (RX8, TX8, 8) tyX8 := ⟨rfl, ev_cl8, nmX8, tyX8_ok⟩
set_option maxRecDepth 100000 in
theorem c_Mo : ev_cls 9 (RX9, TX9, 24) tyX9 := ⟨rfl, ev_cl9, nmX9, tyX9_ok⟩
abbrev M_X_init : ev_M := (⟨"AlikeStore", "<init>", "()V"⟩, prog_1_method_1_code, 1, none)
set_option maxRecDepth 100000 in
theorem M_X_init_ok : ev_ok M_X_init 0 := ⟨ev_m 25 (by decide +kernel) rfl, ev_m 1 (by decide +kernel) rfl, by decide +kernel, ⟨by decide +kernel, by decide +kernel⟩, by decide +kernel, by decide +kernel⟩
set_option maxRecDepth 100000 in
theorem M_X_init_in : Cond.instanceMethod M_X_init.1 ∈ ev_ws := ev_m 24 (by decide +kernel) rfl
abbrev M_X_status : ev_M := (⟨"AlikeStore", "status", "()I"⟩, prog_1_method_2_code, 1, some .int)
set_option maxRecDepth 100000 in
theorem M_X_status_ok : ev_ok M_X_status 0 := ⟨ev_m 265 (by decide +kernel) rfl, ev_m 1 (by decide +kernel) rfl, by decide +kernel, ⟨by decide +kernel, by decide +kernel⟩, by decide +kernel, by decide +kernel⟩
set_option maxRecDepth 100000 in
theorem M_X_status_in : Cond.instanceMethod M_X_status.1 ∈ ev_ws := ev_m 263 (by decide +kernel) rfl
set_option maxRecDepth 100000 in
theorem M_X_status_se : Cond.selects M_X_status.1.cls M_X_status.1 M_X_status.1 ∈ ev_ws := ev_m 264 (by decide +kernel) rfl
abbrev M_X_feed : ev_M := (⟨"AlikeStore", "feed", "(IIIII)I"⟩, prog_1_method_3_code, 7, some .int)
set_option maxRecDepth 100000 in
theorem M_X_feed_ok : ev_ok M_X_feed 5 := ⟨ev_m 269 (by decide +kernel) rfl, ev_m 1 (by decide +kernel) rfl, by decide +kernel, ⟨by decide +kernel, by decide +kernel⟩, by decide +kernel, by decide +kernel⟩
set_option maxRecDepth 100000 in
theorem M_X_feed_in : Cond.instanceMethod M_X_feed.1 ∈ ev_ws := ev_m 267 (by decide +kernel) rfl
set_option maxRecDepth 100000 in
theorem M_X_feed_se : Cond.selects M_X_feed.1.cls M_X_feed.1 M_X_feed.1 ∈ ev_ws := ev_m 268 (by decide +kernel) rfl
abbrev M_X_load : ev_M := (⟨"AlikeStore", "load", "(I)I"⟩, prog_1_method_4_code, 2, some .int)
set_option maxRecDepth 100000 in
theorem M_X_load_ok : ev_ok M_X_load 1 := ⟨ev_m 277 (by decide +kernel) rfl, ev_m 1 (by decide +kernel) rfl, by decide +kernel, ⟨by decide +kernel, by decide +kernel⟩, by decide +kernel, by decide +kernel⟩
set_option maxRecDepth 100000 in
theorem M_X_load_in : Cond.instanceMethod M_X_load.1 ∈ ev_ws := ev_m 275 (by decide +kernel) rfl
set_option maxRecDepth 100000 in
theorem M_X_load_se : Cond.selects M_X_load.1.cls M_X_load.1 M_X_load.1 ∈ ev_ws := ev_m 276 (by decide +kernel) rfl
abbrev M_X_fault : ev_M := (⟨"AlikeStore", "fault", "(I)I"⟩, prog_1_method_5_code, 2, some .int)
set_option maxRecDepth 100000 in
theorem M_X_fault_ok : ev_ok M_X_fault 1 := ⟨ev_m 554 (by decide +kernel) rfl, ev_m 1 (by decide +kernel) rfl, by decide +kernel, ⟨by decide +kernel, by decide +kernel⟩, by decide +kernel, by decide +kernel⟩
set_option maxRecDepth 100000 in
theorem M_X_fault_in : Cond.instanceMethod M_X_fault.1 ∈ ev_ws := ev_m 552 (by decide +kernel) rfl
set_option maxRecDepth 100000 in
theorem M_X_fault_se : Cond.selects M_X_fault.1.cls M_X_fault.1 M_X_fault.1 ∈ ev_ws := ev_m 553 (by decide +kernel) rfl
abbrev M_X_many : ev_M := (⟨"AlikeStore", "many", "(I)I"⟩, prog_1_method_6_code, 2, some .int)
set_option maxRecDepth 100000 in
theorem M_X_many_ok : ev_ok M_X_many 1 := ⟨ev_m 558 (by decide +kernel) rfl, ev_m 1 (by decide +kernel) rfl, by decide +kernel, ⟨by decide +kernel, by decide +kernel⟩, by decide +kernel, by decide +kernel⟩
set_option maxRecDepth 100000 in
theorem M_X_many_in : Cond.instanceMethod M_X_many.1 ∈ ev_ws := ev_m 556 (by decide +kernel) rfl
set_option maxRecDepth 100000 in
theorem M_X_many_se : Cond.selects M_X_many.1.cls M_X_many.1 M_X_many.1 ∈ ev_ws := ev_m 557 (by decide +kernel) rfl
abbrev M_X_code : ev_M := (⟨"AlikeStore", "code", "(I)J"⟩, prog_1_method_7_code, 2, some .long)
set_option maxRecDepth 100000 in
theorem M_X_code_ok : ev_ok M_X_code 1 := ⟨ev_m 605 (by decide +kernel) rfl, ev_m 1 (by decide +kernel) rfl, by decide +kernel, ⟨by decide +kernel, by decide +kernel⟩, by decide +kernel, by decide +kernel⟩
set_option maxRecDepth 100000 in
theorem M_X_code_in : Cond.instanceMethod M_X_code.1 ∈ ev_ws := ev_m 603 (by decide +kernel) rfl
set_option maxRecDepth 100000 in
theorem M_X_code_se : Cond.selects M_X_code.1.cls M_X_code.1 M_X_code.1 ∈ ev_ws := ev_m 604 (by decide +kernel) rfl
abbrev M_X_tagOf : ev_M := (⟨"AlikeStore", "tagOf", "(I)I"⟩, prog_1_method_8_code, 2, some .int)
set_option maxRecDepth 100000 in
theorem M_X_tagOf_ok : ev_ok M_X_tagOf 1 := ⟨ev_m 617 (by decide +kernel) rfl, ev_m 1 (by decide +kernel) rfl, by decide +kernel, ⟨by decide +kernel, by decide +kernel⟩, by decide +kernel, by decide +kernel⟩
set_option maxRecDepth 100000 in
theorem M_X_tagOf_in : Cond.instanceMethod M_X_tagOf.1 ∈ ev_ws := ev_m 615 (by decide +kernel) rfl
set_option maxRecDepth 100000 in
theorem M_X_tagOf_se : Cond.selects M_X_tagOf.1.cls M_X_tagOf.1 M_X_tagOf.1 ∈ ev_ws := ev_m 616 (by decide +kernel) rfl
abbrev M_X_breadth : ev_M := (⟨"AlikeStore", "breadth", "(I)I"⟩, prog_1_method_9_code, 2, some .int)
set_option maxRecDepth 100000 in
theorem M_X_breadth_ok : ev_ok M_X_breadth 1 := ⟨ev_m 621 (by decide +kernel) rfl, ev_m 1 (by decide +kernel) rfl, by decide +kernel, ⟨by decide +kernel, by decide +kernel⟩, by decide +kernel, by decide +kernel⟩
set_option maxRecDepth 100000 in
theorem M_X_breadth_in : Cond.instanceMethod M_X_breadth.1 ∈ ev_ws := ev_m 619 (by decide +kernel) rfl
set_option maxRecDepth 100000 in
theorem M_X_breadth_se : Cond.selects M_X_breadth.1.cls M_X_breadth.1 M_X_breadth.1 ∈ ev_ws := ev_m 620 (by decide +kernel) rfl
abbrev M_X_key : ev_M := (⟨"AlikeStore", "key", "(II)I"⟩, prog_1_method_10_code, 3, some .int)
set_option maxRecDepth 100000 in
theorem M_X_key_ok : ev_ok M_X_key 2 := ⟨ev_m 629 (by decide +kernel) rfl, ev_m 1 (by decide +kernel) rfl, by decide +kernel, ⟨by decide +kernel, by decide +kernel⟩, by decide +kernel, by decide +kernel⟩
set_option maxRecDepth 100000 in
theorem M_X_key_in : Cond.instanceMethod M_X_key.1 ∈ ev_ws := ev_m 627 (by decide +kernel) rfl
set_option maxRecDepth 100000 in
theorem M_X_key_se : Cond.selects M_X_key.1.cls M_X_key.1 M_X_key.1 ∈ ev_ws := ev_m 628 (by decide +kernel) rfl
abbrev M_X_far : ev_M := (⟨"AlikeStore", "far", "(IJ)I"⟩, prog_1_method_11_code, 4, some .int)
set_option maxRecDepth 100000 in
theorem M_X_far_ok : ev_ok M_X_far 2 := ⟨ev_m 634 (by decide +kernel) rfl, ev_m 1 (by decide +kernel) rfl, by decide +kernel, ⟨by decide +kernel, by decide +kernel⟩, by decide +kernel, by decide +kernel⟩
set_option maxRecDepth 100000 in
theorem M_X_far_in : Cond.instanceMethod M_X_far.1 ∈ ev_ws := ev_m 632 (by decide +kernel) rfl
set_option maxRecDepth 100000 in
theorem M_X_far_se : Cond.selects M_X_far.1.cls M_X_far.1 M_X_far.1 ∈ ev_ws := ev_m 633 (by decide +kernel) rfl
abbrev M_X_measure : ev_M := (⟨"AlikeStore", "measure", "(III)I"⟩, prog_1_method_12_code, 4, some .int)
set_option maxRecDepth 100000 in
theorem M_X_measure_ok : ev_ok M_X_measure 3 := ⟨ev_m 643 (by decide +kernel) rfl, ev_m 1 (by decide +kernel) rfl, by decide +kernel, ⟨by decide +kernel, by decide +kernel⟩, by decide +kernel, by decide +kernel⟩
set_option maxRecDepth 100000 in
theorem M_X_measure_in : Cond.instanceMethod M_X_measure.1 ∈ ev_ws := ev_m 641 (by decide +kernel) rfl
set_option maxRecDepth 100000 in
theorem M_X_measure_se : Cond.selects M_X_measure.1.cls M_X_measure.1 M_X_measure.1 ∈ ev_ws := ev_m 642 (by decide +kernel) rfl
abbrev M_X_find : ev_M := (⟨"AlikeStore", "find", "(J)I"⟩, prog_1_method_13_code, 4, some .int)
set_option maxRecDepth 100000 in
theorem M_X_find_ok : ev_ok M_X_find 1 := ⟨ev_m 663 (by decide +kernel) rfl, ev_m 1 (by decide +kernel) rfl, by decide +kernel, ⟨by decide +kernel, by decide +kernel⟩, by decide +kernel, by decide +kernel⟩
set_option maxRecDepth 100000 in
theorem M_X_find_in : Cond.instanceMethod M_X_find.1 ∈ ev_ws := ev_m 661 (by decide +kernel) rfl
set_option maxRecDepth 100000 in
theorem M_X_find_se : Cond.selects M_X_find.1.cls M_X_find.1 M_X_find.1 ∈ ev_ws := ev_m 662 (by decide +kernel) rfl
abbrev M_X_add : ev_M := (⟨"AlikeStore", "add", "(J)I"⟩, prog_1_method_14_code, 3, some .int)
set_option maxRecDepth 100000 in
theorem M_X_add_ok : ev_ok M_X_add 1 := ⟨ev_m 668 (by decide +kernel) rfl, ev_m 1 (by decide +kernel) rfl, by decide +kernel, ⟨by decide +kernel, by decide +kernel⟩, by decide +kernel, by decide +kernel⟩
set_option maxRecDepth 100000 in
theorem M_X_add_in : Cond.instanceMethod M_X_add.1 ∈ ev_ws := ev_m 666 (by decide +kernel) rfl
set_option maxRecDepth 100000 in
theorem M_X_add_se : Cond.selects M_X_add.1.cls M_X_add.1 M_X_add.1 ∈ ev_ws := ev_m 667 (by decide +kernel) rfl
abbrev M_X_strike : ev_M := (⟨"AlikeStore", "strike", "(I)I"⟩, prog_1_method_15_code, 2, some .int)
set_option maxRecDepth 100000 in
theorem M_X_strike_ok : ev_ok M_X_strike 1 := ⟨ev_m 673 (by decide +kernel) rfl, ev_m 1 (by decide +kernel) rfl, by decide +kernel, ⟨by decide +kernel, by decide +kernel⟩, by decide +kernel, by decide +kernel⟩
set_option maxRecDepth 100000 in
theorem M_X_strike_in : Cond.instanceMethod M_X_strike.1 ∈ ev_ws := ev_m 671 (by decide +kernel) rfl
set_option maxRecDepth 100000 in
theorem M_X_strike_se : Cond.selects M_X_strike.1.cls M_X_strike.1 M_X_strike.1 ∈ ev_ws := ev_m 672 (by decide +kernel) rfl
abbrev M_X_flip : ev_M := (⟨"AlikeStore", "flip", "(II)I"⟩, prog_1_method_16_code, 5, some .int)
set_option maxRecDepth 100000 in
theorem M_X_flip_ok : ev_ok M_X_flip 2 := ⟨ev_m 681 (by decide +kernel) rfl, ev_m 1 (by decide +kernel) rfl, by decide +kernel, ⟨by decide +kernel, by decide +kernel⟩, by decide +kernel, by decide +kernel⟩
set_option maxRecDepth 100000 in
theorem M_X_flip_in : Cond.instanceMethod M_X_flip.1 ∈ ev_ws := ev_m 679 (by decide +kernel) rfl
set_option maxRecDepth 100000 in
theorem M_X_flip_se : Cond.selects M_X_flip.1.cls M_X_flip.1 M_X_flip.1 ∈ ev_ws := ev_m 680 (by decide +kernel) rfl
abbrev M_X_swap : ev_M := (⟨"AlikeStore", "swap", "(II)I"⟩, prog_1_method_17_code, 3, some .int)
set_option maxRecDepth 100000 in
theorem M_X_swap_ok : ev_ok M_X_swap 2 := ⟨ev_m 689 (by decide +kernel) rfl, ev_m 1 (by decide +kernel) rfl, by decide +kernel, ⟨by decide +kernel, by decide +kernel⟩, by decide +kernel, by decide +kernel⟩
set_option maxRecDepth 100000 in
theorem M_X_swap_in : Cond.instanceMethod M_X_swap.1 ∈ ev_ws := ev_m 687 (by decide +kernel) rfl
set_option maxRecDepth 100000 in
theorem M_X_swap_se : Cond.selects M_X_swap.1.cls M_X_swap.1 M_X_swap.1 ∈ ev_ws := ev_m 688 (by decide +kernel) rfl
abbrev M_X_tag : ev_M := (⟨"AlikeStore", "tag", "(II)I"⟩, prog_1_method_18_code, 4, some .int)
set_option maxRecDepth 100000 in
theorem M_X_tag_ok : ev_ok M_X_tag 2 := ⟨ev_m 698 (by decide +kernel) rfl, ev_m 1 (by decide +kernel) rfl, by decide +kernel, ⟨by decide +kernel, by decide +kernel⟩, by decide +kernel, by decide +kernel⟩
set_option maxRecDepth 100000 in
theorem M_X_tag_in : Cond.instanceMethod M_X_tag.1 ∈ ev_ws := ev_m 696 (by decide +kernel) rfl
set_option maxRecDepth 100000 in
theorem M_X_tag_se : Cond.selects M_X_tag.1.cls M_X_tag.1 M_X_tag.1 ∈ ev_ws := ev_m 697 (by decide +kernel) rfl
abbrev M_X_split : ev_M := (⟨"AlikeStore", "split", "(II)I"⟩, prog_1_method_19_code, 3, some .int)
set_option maxRecDepth 100000 in
theorem M_X_split_ok : ev_ok M_X_split 2 := ⟨ev_m 702 (by decide +kernel) rfl, ev_m 1 (by decide +kernel) rfl, by decide +kernel, ⟨by decide +kernel, by decide +kernel⟩, by decide +kernel, by decide +kernel⟩
set_option maxRecDepth 100000 in
theorem M_X_split_in : Cond.instanceMethod M_X_split.1 ∈ ev_ws := ev_m 700 (by decide +kernel) rfl
set_option maxRecDepth 100000 in
theorem M_X_split_se : Cond.selects M_X_split.1.cls M_X_split.1 M_X_split.1 ∈ ev_ws := ev_m 701 (by decide +kernel) rfl
abbrev M_X_merge : ev_M := (⟨"AlikeStore", "merge", "(I)I"⟩, prog_1_method_20_code, 2, some .int)
set_option maxRecDepth 100000 in
theorem M_X_merge_ok : ev_ok M_X_merge 1 := ⟨ev_m 711 (by decide +kernel) rfl, ev_m 1 (by decide +kernel) rfl, by decide +kernel, ⟨by decide +kernel, by decide +kernel⟩, by decide +kernel, by decide +kernel⟩
set_option maxRecDepth 100000 in
theorem M_X_merge_in : Cond.instanceMethod M_X_merge.1 ∈ ev_ws := ev_m 709 (by decide +kernel) rfl
set_option maxRecDepth 100000 in
theorem M_X_merge_se : Cond.selects M_X_merge.1.cls M_X_merge.1 M_X_merge.1 ∈ ev_ws := ev_m 710 (by decide +kernel) rfl
abbrev M_X_open : ev_M := (⟨"AlikeStore", "open", "()I"⟩, prog_1_method_21_code, 1, some .int)
set_option maxRecDepth 100000 in
theorem M_X_open_ok : ev_ok M_X_open 0 := ⟨ev_m 719 (by decide +kernel) rfl, ev_m 1 (by decide +kernel) rfl, by decide +kernel, ⟨by decide +kernel, by decide +kernel⟩, by decide +kernel, by decide +kernel⟩
set_option maxRecDepth 100000 in
theorem M_X_open_in : Cond.instanceMethod M_X_open.1 ∈ ev_ws := ev_m 717 (by decide +kernel) rfl
set_option maxRecDepth 100000 in
theorem M_X_open_se : Cond.selects M_X_open.1.cls M_X_open.1 M_X_open.1 ∈ ev_ws := ev_m 718 (by decide +kernel) rfl
abbrev M_X_undo : ev_M := (⟨"AlikeStore", "undo", "()I"⟩, prog_1_method_22_code, 1, some .int)
set_option maxRecDepth 100000 in
theorem M_X_undo_ok : ev_ok M_X_undo 0 := ⟨ev_m 723 (by decide +kernel) rfl, ev_m 1 (by decide +kernel) rfl, by decide +kernel, ⟨by decide +kernel, by decide +kernel⟩, by decide +kernel, by decide +kernel⟩
set_option maxRecDepth 100000 in
theorem M_X_undo_in : Cond.instanceMethod M_X_undo.1 ∈ ev_ws := ev_m 721 (by decide +kernel) rfl
set_option maxRecDepth 100000 in
theorem M_X_undo_se : Cond.selects M_X_undo.1.cls M_X_undo.1 M_X_undo.1 ∈ ev_ws := ev_m 722 (by decide +kernel) rfl
abbrev M_X_mark : ev_M := (⟨"AlikeStore", "mark", "()I"⟩, prog_1_method_23_code, 1, some .int)
set_option maxRecDepth 100000 in
theorem M_X_mark_ok : ev_ok M_X_mark 0 := ⟨ev_m 731 (by decide +kernel) rfl, ev_m 1 (by decide +kernel) rfl, by decide +kernel, ⟨by decide +kernel, by decide +kernel⟩, by decide +kernel, by decide +kernel⟩
set_option maxRecDepth 100000 in
theorem M_X_mark_in : Cond.instanceMethod M_X_mark.1 ∈ ev_ws := ev_m 729 (by decide +kernel) rfl
set_option maxRecDepth 100000 in
theorem M_X_mark_se : Cond.selects M_X_mark.1.cls M_X_mark.1 M_X_mark.1 ∈ ev_ws := ev_m 730 (by decide +kernel) rfl
abbrev M_X_back : ev_M := (⟨"AlikeStore", "back", "()I"⟩, prog_1_method_24_code, 1, some .int)
set_option maxRecDepth 100000 in
theorem M_X_back_ok : ev_ok M_X_back 0 := ⟨ev_m 739 (by decide +kernel) rfl, ev_m 1 (by decide +kernel) rfl, by decide +kernel, ⟨by decide +kernel, by decide +kernel⟩, by decide +kernel, by decide +kernel⟩
set_option maxRecDepth 100000 in
theorem M_X_back_in : Cond.instanceMethod M_X_back.1 ∈ ev_ws := ev_m 737 (by decide +kernel) rfl
set_option maxRecDepth 100000 in
theorem M_X_back_se : Cond.selects M_X_back.1.cls M_X_back.1 M_X_back.1 ∈ ev_ws := ev_m 738 (by decide +kernel) rfl
abbrev M_X_budget : ev_M := (⟨"AlikeStore", "budget", "(JII)I"⟩, prog_1_method_25_code, 5, some .int)
set_option maxRecDepth 100000 in
theorem M_X_budget_ok : ev_ok M_X_budget 3 := ⟨ev_m 747 (by decide +kernel) rfl, ev_m 1 (by decide +kernel) rfl, by decide +kernel, ⟨by decide +kernel, by decide +kernel⟩, by decide +kernel, by decide +kernel⟩
set_option maxRecDepth 100000 in
theorem M_X_budget_in : Cond.instanceMethod M_X_budget.1 ∈ ev_ws := ev_m 745 (by decide +kernel) rfl
set_option maxRecDepth 100000 in
theorem M_X_budget_se : Cond.selects M_X_budget.1.cls M_X_budget.1 M_X_budget.1 ∈ ev_ws := ev_m 746 (by decide +kernel) rfl
abbrev M_X_cost : ev_M := (⟨"AlikeStore", "cost", "(JII)I"⟩, prog_1_method_26_code, 5, some .int)
set_option maxRecDepth 100000 in
theorem M_X_cost_ok : ev_ok M_X_cost 3 := ⟨ev_m 793 (by decide +kernel) rfl, ev_m 1 (by decide +kernel) rfl, by decide +kernel, ⟨by decide +kernel, by decide +kernel⟩, by decide +kernel, by decide +kernel⟩
set_option maxRecDepth 100000 in
theorem M_X_cost_in : Cond.instanceMethod M_X_cost.1 ∈ ev_ws := ev_m 791 (by decide +kernel) rfl
set_option maxRecDepth 100000 in
theorem M_X_cost_se : Cond.selects M_X_cost.1.cls M_X_cost.1 M_X_cost.1 ∈ ev_ws := ev_m 792 (by decide +kernel) rfl
abbrev M_X_near : ev_M := (⟨"AlikeStore", "near", "(JII)I"⟩, prog_1_method_27_code, 9, some .int)
set_option maxRecDepth 100000 in
theorem M_X_near_ok : ev_ok M_X_near 3 := ⟨ev_m 798 (by decide +kernel) rfl, ev_m 1 (by decide +kernel) rfl, by decide +kernel, ⟨by decide +kernel, by decide +kernel⟩, by decide +kernel, by decide +kernel⟩
set_option maxRecDepth 100000 in
theorem M_X_near_in : Cond.instanceMethod M_X_near.1 ∈ ev_ws := ev_m 796 (by decide +kernel) rfl
set_option maxRecDepth 100000 in
theorem M_X_near_se : Cond.selects M_X_near.1.cls M_X_near.1 M_X_near.1 ∈ ev_ws := ev_m 797 (by decide +kernel) rfl
abbrev M_X_ranked : ev_M := (⟨"AlikeStore", "ranked", "(JI)I"⟩, prog_1_method_28_code, 4, some .int)
set_option maxRecDepth 100000 in
theorem M_X_ranked_ok : ev_ok M_X_ranked 2 := ⟨ev_m 812 (by decide +kernel) rfl, ev_m 1 (by decide +kernel) rfl, by decide +kernel, ⟨by decide +kernel, by decide +kernel⟩, by decide +kernel, by decide +kernel⟩
set_option maxRecDepth 100000 in
theorem M_X_ranked_in : Cond.instanceMethod M_X_ranked.1 ∈ ev_ws := ev_m 810 (by decide +kernel) rfl
set_option maxRecDepth 100000 in
theorem M_X_ranked_se : Cond.selects M_X_ranked.1.cls M_X_ranked.1 M_X_ranked.1 ∈ ev_ws := ev_m 811 (by decide +kernel) rfl
abbrev M_X_grown : ev_M := (⟨"AlikeStore", "grown", "(JII)I"⟩, prog_1_method_29_code, 8, some .int)
set_option maxRecDepth 100000 in
theorem M_X_grown_ok : ev_ok M_X_grown 3 := ⟨ev_m 826 (by decide +kernel) rfl, ev_m 1 (by decide +kernel) rfl, by decide +kernel, ⟨by decide +kernel, by decide +kernel⟩, by decide +kernel, by decide +kernel⟩
set_option maxRecDepth 100000 in
theorem M_X_grown_in : Cond.instanceMethod M_X_grown.1 ∈ ev_ws := ev_m 824 (by decide +kernel) rfl
set_option maxRecDepth 100000 in
theorem M_X_grown_se : Cond.selects M_X_grown.1.cls M_X_grown.1 M_X_grown.1 ∈ ev_ws := ev_m 825 (by decide +kernel) rfl
abbrev M_X_apart : ev_M := (⟨"AlikeStore", "apart", "(JIII)I"⟩, prog_1_method_30_code, 6, some .int)
set_option maxRecDepth 100000 in
theorem M_X_apart_ok : ev_ok M_X_apart 4 := ⟨ev_m 832 (by decide +kernel) rfl, ev_m 1 (by decide +kernel) rfl, by decide +kernel, ⟨by decide +kernel, by decide +kernel⟩, by decide +kernel, by decide +kernel⟩
set_option maxRecDepth 100000 in
theorem M_X_apart_in : Cond.instanceMethod M_X_apart.1 ∈ ev_ws := ev_m 830 (by decide +kernel) rfl
set_option maxRecDepth 100000 in
theorem M_X_apart_se : Cond.selects M_X_apart.1.cls M_X_apart.1 M_X_apart.1 ∈ ev_ws := ev_m 831 (by decide +kernel) rfl
abbrev M_X_pairs : ev_M := (⟨"AlikeStore", "pairs", "(I)I"⟩, prog_1_method_31_code, 5, some .int)
set_option maxRecDepth 100000 in
theorem M_X_pairs_ok : ev_ok M_X_pairs 1 := ⟨ev_m 842 (by decide +kernel) rfl, ev_m 1 (by decide +kernel) rfl, by decide +kernel, ⟨by decide +kernel, by decide +kernel⟩, by decide +kernel, by decide +kernel⟩
set_option maxRecDepth 100000 in
theorem M_X_pairs_in : Cond.instanceMethod M_X_pairs.1 ∈ ev_ws := ev_m 840 (by decide +kernel) rfl
set_option maxRecDepth 100000 in
theorem M_X_pairs_se : Cond.selects M_X_pairs.1.cls M_X_pairs.1 M_X_pairs.1 ∈ ev_ws := ev_m 841 (by decide +kernel) rfl
abbrev M_X_pair : ev_M := (⟨"AlikeStore", "pair", "(III)I"⟩, prog_1_method_32_code, 5, some .int)
set_option maxRecDepth 100000 in
theorem M_X_pair_ok : ev_ok M_X_pair 3 := ⟨ev_m 850 (by decide +kernel) rfl, ev_m 1 (by decide +kernel) rfl, by decide +kernel, ⟨by decide +kernel, by decide +kernel⟩, by decide +kernel, by decide +kernel⟩
set_option maxRecDepth 100000 in
theorem M_X_pair_in : Cond.instanceMethod M_X_pair.1 ∈ ev_ws := ev_m 848 (by decide +kernel) rfl
set_option maxRecDepth 100000 in
theorem M_X_pair_se : Cond.selects M_X_pair.1.cls M_X_pair.1 M_X_pair.1 ∈ ev_ws := ev_m 849 (by decide +kernel) rfl
abbrev M_X_joined : ev_M := (⟨"AlikeStore", "joined", "(I)I"⟩, prog_1_method_33_code, 5, some .int)
set_option maxRecDepth 100000 in
theorem M_X_joined_ok : ev_ok M_X_joined 1 := ⟨ev_m 865 (by decide +kernel) rfl, ev_m 1 (by decide +kernel) rfl, by decide +kernel, ⟨by decide +kernel, by decide +kernel⟩, by decide +kernel, by decide +kernel⟩
set_option maxRecDepth 100000 in
theorem M_X_joined_in : Cond.instanceMethod M_X_joined.1 ∈ ev_ws := ev_m 863 (by decide +kernel) rfl
set_option maxRecDepth 100000 in
theorem M_X_joined_se : Cond.selects M_X_joined.1.cls M_X_joined.1 M_X_joined.1 ∈ ev_ws := ev_m 864 (by decide +kernel) rfl
abbrev M_X_closest : ev_M := (⟨"AlikeStore", "closest", "(I)I"⟩, prog_1_method_34_code, 3, some .int)
set_option maxRecDepth 100000 in
theorem M_X_closest_ok : ev_ok M_X_closest 1 := ⟨ev_m 869 (by decide +kernel) rfl, ev_m 1 (by decide +kernel) rfl, by decide +kernel, ⟨by decide +kernel, by decide +kernel⟩, by decide +kernel, by decide +kernel⟩
set_option maxRecDepth 100000 in
theorem M_X_closest_in : Cond.instanceMethod M_X_closest.1 ∈ ev_ws := ev_m 867 (by decide +kernel) rfl
set_option maxRecDepth 100000 in
theorem M_X_closest_se : Cond.selects M_X_closest.1.cls M_X_closest.1 M_X_closest.1 ∈ ev_ws := ev_m 868 (by decide +kernel) rfl
abbrev M_X_clusters : ev_M := (⟨"AlikeStore", "clusters", "(II)I"⟩, prog_1_method_35_code, 9, some .int)
set_option maxRecDepth 100000 in
theorem M_X_clusters_ok : ev_ok M_X_clusters 2 := ⟨ev_m 877 (by decide +kernel) rfl, ev_m 1 (by decide +kernel) rfl, by decide +kernel, ⟨by decide +kernel, by decide +kernel⟩, by decide +kernel, by decide +kernel⟩
set_option maxRecDepth 100000 in
theorem M_X_clusters_in : Cond.instanceMethod M_X_clusters.1 ∈ ev_ws := ev_m 875 (by decide +kernel) rfl
set_option maxRecDepth 100000 in
theorem M_X_clusters_se : Cond.selects M_X_clusters.1.cls M_X_clusters.1 M_X_clusters.1 ∈ ev_ws := ev_m 876 (by decide +kernel) rfl
abbrev M_X_cluster : ev_M := (⟨"AlikeStore", "cluster", "(III)I"⟩, prog_1_method_36_code, 6, some .int)
set_option maxRecDepth 100000 in
theorem M_X_cluster_ok : ev_ok M_X_cluster 3 := ⟨ev_m 888 (by decide +kernel) rfl, ev_m 1 (by decide +kernel) rfl, by decide +kernel, ⟨by decide +kernel, by decide +kernel⟩, by decide +kernel, by decide +kernel⟩
set_option maxRecDepth 100000 in
theorem M_X_cluster_in : Cond.instanceMethod M_X_cluster.1 ∈ ev_ws := ev_m 886 (by decide +kernel) rfl
set_option maxRecDepth 100000 in
theorem M_X_cluster_se : Cond.selects M_X_cluster.1.cls M_X_cluster.1 M_X_cluster.1 ∈ ev_ws := ev_m 887 (by decide +kernel) rfl
abbrev M_X_vote : ev_M := (⟨"AlikeStore", "vote", "(I)J"⟩, prog_1_method_37_code, 6, some .long)
set_option maxRecDepth 100000 in
theorem M_X_vote_ok : ev_ok M_X_vote 1 := ⟨ev_m 900 (by decide +kernel) rfl, ev_m 1 (by decide +kernel) rfl, by decide +kernel, ⟨by decide +kernel, by decide +kernel⟩, by decide +kernel, by decide +kernel⟩
set_option maxRecDepth 100000 in
theorem M_X_vote_in : Cond.instanceMethod M_X_vote.1 ∈ ev_ws := ev_m 898 (by decide +kernel) rfl
set_option maxRecDepth 100000 in
theorem M_X_vote_se : Cond.selects M_X_vote.1.cls M_X_vote.1 M_X_vote.1 ∈ ev_ws := ev_m 899 (by decide +kernel) rfl
abbrev M_X_like : ev_M := (⟨"AlikeStore", "like", "(JJ)I"⟩, prog_1_method_38_code, 8, some .int)
set_option maxRecDepth 100000 in
theorem M_X_like_ok : ev_ok M_X_like 2 := ⟨ev_m 909 (by decide +kernel) rfl, ev_m 1 (by decide +kernel) rfl, by decide +kernel, ⟨by decide +kernel, by decide +kernel⟩, by decide +kernel, by decide +kernel⟩
set_option maxRecDepth 100000 in
theorem M_X_like_in : Cond.instanceMethod M_X_like.1 ∈ ev_ws := ev_m 907 (by decide +kernel) rfl
set_option maxRecDepth 100000 in
theorem M_X_like_se : Cond.selects M_X_like.1.cls M_X_like.1 M_X_like.1 ∈ ev_ws := ev_m 908 (by decide +kernel) rfl
abbrev M_X_ones : ev_M := (⟨"AlikeStore", "ones", "(I)I"⟩, prog_1_method_39_code, 2, some .int)
set_option maxRecDepth 100000 in
theorem M_X_ones_ok : ev_ok M_X_ones 1 := ⟨ev_m 913 (by decide +kernel) rfl, ev_m 1 (by decide +kernel) rfl, by decide +kernel, ⟨by decide +kernel, by decide +kernel⟩, by decide +kernel, by decide +kernel⟩
set_option maxRecDepth 100000 in
theorem M_X_ones_in : Cond.instanceMethod M_X_ones.1 ∈ ev_ws := ev_m 911 (by decide +kernel) rfl
set_option maxRecDepth 100000 in
theorem M_X_ones_se : Cond.selects M_X_ones.1.cls M_X_ones.1 M_X_ones.1 ∈ ev_ws := ev_m 912 (by decide +kernel) rfl
abbrev M_X_telling : ev_M := (⟨"AlikeStore", "telling", "()I"⟩, prog_1_method_40_code, 7, some .int)
set_option maxRecDepth 100000 in
theorem M_X_telling_ok : ev_ok M_X_telling 0 := ⟨ev_m 917 (by decide +kernel) rfl, ev_m 1 (by decide +kernel) rfl, by decide +kernel, ⟨by decide +kernel, by decide +kernel⟩, by decide +kernel, by decide +kernel⟩
set_option maxRecDepth 100000 in
theorem M_X_telling_in : Cond.instanceMethod M_X_telling.1 ∈ ev_ws := ev_m 915 (by decide +kernel) rfl
set_option maxRecDepth 100000 in
theorem M_X_telling_se : Cond.selects M_X_telling.1.cls M_X_telling.1 M_X_telling.1 ∈ ev_ws := ev_m 916 (by decide +kernel) rfl
abbrev M_X_alike : ev_M := (⟨"AlikeStore", "alike", "(II)I"⟩, prog_1_method_41_code, 6, some .int)
set_option maxRecDepth 100000 in
theorem M_X_alike_ok : ev_ok M_X_alike 2 := ⟨ev_m 924 (by decide +kernel) rfl, ev_m 1 (by decide +kernel) rfl, by decide +kernel, ⟨by decide +kernel, by decide +kernel⟩, by decide +kernel, by decide +kernel⟩
set_option maxRecDepth 100000 in
theorem M_X_alike_in : Cond.instanceMethod M_X_alike.1 ∈ ev_ws := ev_m 922 (by decide +kernel) rfl
set_option maxRecDepth 100000 in
theorem M_X_alike_se : Cond.selects M_X_alike.1.cls M_X_alike.1 M_X_alike.1 ∈ ev_ws := ev_m 923 (by decide +kernel) rfl
abbrev M_X_spread : ev_M := (⟨"AlikeStore", "spread", "(II)I"⟩, prog_1_method_42_code, 8, some .int)
set_option maxRecDepth 100000 in
theorem M_X_spread_ok : ev_ok M_X_spread 2 := ⟨ev_m 928 (by decide +kernel) rfl, ev_m 1 (by decide +kernel) rfl, by decide +kernel, ⟨by decide +kernel, by decide +kernel⟩, by decide +kernel, by decide +kernel⟩
set_option maxRecDepth 100000 in
theorem M_X_spread_in : Cond.instanceMethod M_X_spread.1 ∈ ev_ws := ev_m 926 (by decide +kernel) rfl
set_option maxRecDepth 100000 in
theorem M_X_spread_se : Cond.selects M_X_spread.1.cls M_X_spread.1 M_X_spread.1 ∈ ev_ws := ev_m 927 (by decide +kernel) rfl
abbrev M_X_parted : ev_M := (⟨"AlikeStore", "parted", "(II)I"⟩, prog_1_method_43_code, 3, some .int)
set_option maxRecDepth 100000 in
theorem M_X_parted_ok : ev_ok M_X_parted 2 := ⟨ev_m 937 (by decide +kernel) rfl, ev_m 1 (by decide +kernel) rfl, by decide +kernel, ⟨by decide +kernel, by decide +kernel⟩, by decide +kernel, by decide +kernel⟩
set_option maxRecDepth 100000 in
theorem M_X_parted_in : Cond.instanceMethod M_X_parted.1 ∈ ev_ws := ev_m 935 (by decide +kernel) rfl
set_option maxRecDepth 100000 in
theorem M_X_parted_se : Cond.selects M_X_parted.1.cls M_X_parted.1 M_X_parted.1 ∈ ev_ws := ev_m 936 (by decide +kernel) rfl
abbrev M_X_bestPart : ev_M := (⟨"AlikeStore", "bestPart", "(I)I"⟩, prog_1_method_44_code, 7, some .int)
set_option maxRecDepth 100000 in
theorem M_X_bestPart_ok : ev_ok M_X_bestPart 1 := ⟨ev_m 952 (by decide +kernel) rfl, ev_m 1 (by decide +kernel) rfl, by decide +kernel, ⟨by decide +kernel, by decide +kernel⟩, by decide +kernel, by decide +kernel⟩
set_option maxRecDepth 100000 in
theorem M_X_bestPart_in : Cond.instanceMethod M_X_bestPart.1 ∈ ev_ws := ev_m 950 (by decide +kernel) rfl
set_option maxRecDepth 100000 in
theorem M_X_bestPart_se : Cond.selects M_X_bestPart.1.cls M_X_bestPart.1 M_X_bestPart.1 ∈ ev_ws := ev_m 951 (by decide +kernel) rfl
abbrev M_X_refuse : ev_M := (⟨"AlikeStore", "refuse", "(I)I"⟩, prog_1_method_45_code, 2, some .int)
set_option maxRecDepth 100000 in
theorem M_X_refuse_ok : ev_ok M_X_refuse 1 := ⟨ev_m 281 (by decide +kernel) rfl, ev_m 1 (by decide +kernel) rfl, by decide +kernel, ⟨by decide +kernel, by decide +kernel⟩, by decide +kernel, by decide +kernel⟩
set_option maxRecDepth 100000 in
theorem M_X_refuse_in : Cond.instanceMethod M_X_refuse.1 ∈ ev_ws := ev_m 280 (by decide +kernel) rfl
set_option maxRecDepth 100000 in
theorem M_X_refuse_se : Cond.selects M_X_refuse.1.cls M_X_refuse.1 M_X_refuse.1 ∈ ev_ws := ev_mp 0 (by decide +kernel) rfl
abbrev M_X_answer : ev_M := (⟨"AlikeStore", "answer", "(I)I"⟩, prog_1_method_46_code, 2, some .int)
set_option maxRecDepth 100000 in
theorem M_X_answer_ok : ev_ok M_X_answer 1 := ⟨ev_m 550 (by decide +kernel) rfl, ev_m 1 (by decide +kernel) rfl, by decide +kernel, ⟨by decide +kernel, by decide +kernel⟩, by decide +kernel, by decide +kernel⟩
set_option maxRecDepth 100000 in
theorem M_X_answer_in : Cond.instanceMethod M_X_answer.1 ∈ ev_ws := ev_m 549 (by decide +kernel) rfl
set_option maxRecDepth 100000 in
theorem M_X_answer_se : Cond.selects M_X_answer.1.cls M_X_answer.1 M_X_answer.1 ∈ ev_ws := ev_mp 15 (by decide +kernel) rfl
abbrev M_X_answerLong : ev_M := (⟨"AlikeStore", "answerLong", "(J)J"⟩, prog_1_method_47_code, 3, some .long)
set_option maxRecDepth 100000 in
theorem M_X_answerLong_ok : ev_ok M_X_answerLong 1 := ⟨ev_m 613 (by decide +kernel) rfl, ev_m 1 (by decide +kernel) rfl, by decide +kernel, ⟨by decide +kernel, by decide +kernel⟩, by decide +kernel, by decide +kernel⟩
set_option maxRecDepth 100000 in
theorem M_X_answerLong_in : Cond.instanceMethod M_X_answerLong.1 ∈ ev_ws := ev_m 612 (by decide +kernel) rfl
set_option maxRecDepth 100000 in
theorem M_X_answerLong_se : Cond.selects M_X_answerLong.1.cls M_X_answerLong.1 M_X_answerLong.1 ∈ ev_ws := ev_mp 19 (by decide +kernel) rfl
abbrev M_X_isNumber : ev_M := (⟨"AlikeStore", "isNumber", "(J)Z"⟩, prog_1_method_48_code, 3, some .boolean)
set_option maxRecDepth 100000 in
theorem M_X_isNumber_ok : ev_ok M_X_isNumber 1 := ⟨ev_m 638 (by decide +kernel) rfl, ev_m 1 (by decide +kernel) rfl, by decide +kernel, ⟨by decide +kernel, by decide +kernel⟩, by decide +kernel, by decide +kernel⟩
set_option maxRecDepth 100000 in
theorem M_X_isNumber_in : Cond.instanceMethod M_X_isNumber.1 ∈ ev_ws := ev_m 637 (by decide +kernel) rfl
set_option maxRecDepth 100000 in
theorem M_X_isNumber_se : Cond.selects M_X_isNumber.1.cls M_X_isNumber.1 M_X_isNumber.1 ∈ ev_ws := ev_mp 21 (by decide +kernel) rfl
abbrev M_X_isRadius : ev_M := (⟨"AlikeStore", "isRadius", "(I)Z"⟩, prog_1_method_49_code, 2, some .boolean)
set_option maxRecDepth 100000 in
theorem M_X_isRadius_ok : ev_ok M_X_isRadius 1 := ⟨ev_m 751 (by decide +kernel) rfl, ev_m 1 (by decide +kernel) rfl, by decide +kernel, ⟨by decide +kernel, by decide +kernel⟩, by decide +kernel, by decide +kernel⟩
set_option maxRecDepth 100000 in
theorem M_X_isRadius_in : Cond.instanceMethod M_X_isRadius.1 ∈ ev_ws := ev_m 750 (by decide +kernel) rfl
set_option maxRecDepth 100000 in
theorem M_X_isRadius_se : Cond.selects M_X_isRadius.1.cls M_X_isRadius.1 M_X_isRadius.1 ∈ ev_ws := ev_mp 23 (by decide +kernel) rfl
abbrev M_X_isBit : ev_M := (⟨"AlikeStore", "isBit", "(I)Z"⟩, prog_1_method_50_code, 2, some .boolean)
set_option maxRecDepth 100000 in
theorem M_X_isBit_ok : ev_ok M_X_isBit 1 := ⟨ev_m 685 (by decide +kernel) rfl, ev_m 1 (by decide +kernel) rfl, by decide +kernel, ⟨by decide +kernel, by decide +kernel⟩, by decide +kernel, by decide +kernel⟩
set_option maxRecDepth 100000 in
theorem M_X_isBit_in : Cond.instanceMethod M_X_isBit.1 ∈ ev_ws := ev_m 684 (by decide +kernel) rfl
set_option maxRecDepth 100000 in
theorem M_X_isBit_se : Cond.selects M_X_isBit.1.cls M_X_isBit.1 M_X_isBit.1 ∈ ev_ws := ev_mp 22 (by decide +kernel) rfl
abbrev M_X_isCode : ev_M := (⟨"AlikeStore", "isCode", "(I)Z"⟩, prog_1_method_51_code, 2, some .boolean)
set_option maxRecDepth 100000 in
theorem M_X_isCode_ok : ev_ok M_X_isCode 1 := ⟨ev_m 609 (by decide +kernel) rfl, ev_m 1 (by decide +kernel) rfl, by decide +kernel, ⟨by decide +kernel, by decide +kernel⟩, by decide +kernel, by decide +kernel⟩
set_option maxRecDepth 100000 in
theorem M_X_isCode_in : Cond.instanceMethod M_X_isCode.1 ∈ ev_ws := ev_m 608 (by decide +kernel) rfl
set_option maxRecDepth 100000 in
theorem M_X_isCode_se : Cond.selects M_X_isCode.1.cls M_X_isCode.1 M_X_isCode.1 ∈ ev_ws := ev_mp 18 (by decide +kernel) rfl
abbrev M_X_isPart : ev_M := (⟨"AlikeStore", "isPart", "(I)Z"⟩, prog_1_method_52_code, 2, some .boolean)
set_option maxRecDepth 100000 in
theorem M_X_isPart_ok : ev_ok M_X_isPart 1 := ⟨ev_m 625 (by decide +kernel) rfl, ev_m 1 (by decide +kernel) rfl, by decide +kernel, ⟨by decide +kernel, by decide +kernel⟩, by decide +kernel, by decide +kernel⟩
set_option maxRecDepth 100000 in
theorem M_X_isPart_in : Cond.instanceMethod M_X_isPart.1 ∈ ev_ws := ev_m 624 (by decide +kernel) rfl
set_option maxRecDepth 100000 in
theorem M_X_isPart_se : Cond.selects M_X_isPart.1.cls M_X_isPart.1 M_X_isPart.1 ∈ ev_ws := ev_mp 20 (by decide +kernel) rfl
abbrev M_X_isUpper : ev_M := (⟨"AlikeStore", "isUpper", "(I)Z"⟩, prog_1_method_53_code, 1, some .boolean)
set_option maxRecDepth 100000 in
theorem M_X_isUpper_ok : ev_ok M_X_isUpper 1 := ⟨ev_m 940 (by decide +kernel) rfl, ev_m 1 (by decide +kernel) rfl, by decide +kernel, ⟨by decide +kernel, by decide +kernel⟩, by decide +kernel, by decide +kernel⟩
set_option maxRecDepth 100000 in
theorem M_X_isUpper_st : Cond.static M_X_isUpper.1 ∈ ev_ws := ev_m 939 (by decide +kernel) rfl
abbrev M_X_isBelow : ev_M := (⟨"AlikeStore", "isBelow", "(II)Z"⟩, prog_1_method_54_code, 2, some .boolean)
set_option maxRecDepth 100000 in
theorem M_X_isBelow_ok : ev_ok M_X_isBelow 2 := ⟨ev_m 646 (by decide +kernel) rfl, ev_m 1 (by decide +kernel) rfl, by decide +kernel, ⟨by decide +kernel, by decide +kernel⟩, by decide +kernel, by decide +kernel⟩
set_option maxRecDepth 100000 in
theorem M_X_isBelow_st : Cond.static M_X_isBelow.1 ∈ ev_ws := ev_m 645 (by decide +kernel) rfl
abbrev M_X_isIn : ev_M := (⟨"AlikeStore", "isIn", "(II)Z"⟩, prog_1_method_55_code, 2, some .boolean)
set_option maxRecDepth 100000 in
theorem M_X_isIn_ok : ev_ok M_X_isIn 2 := ⟨ev_m 770 (by decide +kernel) rfl, ev_m 1 (by decide +kernel) rfl, by decide +kernel, ⟨by decide +kernel, by decide +kernel⟩, by decide +kernel, by decide +kernel⟩
set_option maxRecDepth 100000 in
theorem M_X_isIn_st : Cond.static M_X_isIn.1 ∈ ev_ws := ev_m 769 (by decide +kernel) rfl
abbrev M_X_above : ev_M := (⟨"AlikeStore", "above", "(I)I"⟩, prog_1_method_56_code, 1, some .int)
set_option maxRecDepth 100000 in
theorem M_X_above_ok : ev_ok M_X_above 1 := ⟨ev_m 846 (by decide +kernel) rfl, ev_m 1 (by decide +kernel) rfl, by decide +kernel, ⟨by decide +kernel, by decide +kernel⟩, by decide +kernel, by decide +kernel⟩
set_option maxRecDepth 100000 in
theorem M_X_above_st : Cond.static M_X_above.1 ∈ ev_ws := ev_m 845 (by decide +kernel) rfl
abbrev M_X_leastOf : ev_M := (⟨"AlikeStore", "leastOf", "(I)I"⟩, prog_1_method_57_code, 2, some .int)
set_option maxRecDepth 100000 in
theorem M_X_leastOf_ok : ev_ok M_X_leastOf 1 := ⟨ev_m 884 (by decide +kernel) rfl, ev_m 1 (by decide +kernel) rfl, by decide +kernel, ⟨by decide +kernel, by decide +kernel⟩, by decide +kernel, by decide +kernel⟩
set_option maxRecDepth 100000 in
theorem M_X_leastOf_st : Cond.static M_X_leastOf.1 ∈ ev_ws := ev_m 883 (by decide +kernel) rfl
abbrev M_X_unlike : ev_M := (⟨"AlikeStore", "unlike", "(JJ)I"⟩, prog_1_method_58_code, 4, some .int)
set_option maxRecDepth 100000 in
theorem M_X_unlike_ok : ev_ok M_X_unlike 2 := ⟨ev_m 594 (by decide +kernel) rfl, ev_m 1 (by decide +kernel) rfl, by decide +kernel, ⟨by decide +kernel, by decide +kernel⟩, by decide +kernel, by decide +kernel⟩
set_option maxRecDepth 100000 in
theorem M_X_unlike_st : Cond.static M_X_unlike.1 ∈ ev_ws := ev_m 593 (by decide +kernel) rfl
abbrev M_X_bitOf : ev_M := (⟨"AlikeStore", "bitOf", "(JI)I"⟩, prog_1_method_59_code, 3, some .int)
set_option maxRecDepth 100000 in
theorem M_X_bitOf_ok : ev_ok M_X_bitOf 2 := ⟨ev_m 587 (by decide +kernel) rfl, ev_m 1 (by decide +kernel) rfl, by decide +kernel, ⟨by decide +kernel, by decide +kernel⟩, by decide +kernel, by decide +kernel⟩
set_option maxRecDepth 100000 in
theorem M_X_bitOf_st : Cond.static M_X_bitOf.1 ∈ ev_ws := ev_m 586 (by decide +kernel) rfl
abbrev M_X_measureOf : ev_M := (⟨"AlikeStore", "measureOf", "(JI)I"⟩, prog_1_method_60_code, 3, some .int)
set_option maxRecDepth 100000 in
theorem M_X_measureOf_ok : ev_ok M_X_measureOf 2 := ⟨ev_m 649 (by decide +kernel) rfl, ev_m 1 (by decide +kernel) rfl, by decide +kernel, ⟨by decide +kernel, by decide +kernel⟩, by decide +kernel, by decide +kernel⟩
set_option maxRecDepth 100000 in
theorem M_X_measureOf_st : Cond.static M_X_measureOf.1 ∈ ev_ws := ev_m 648 (by decide +kernel) rfl
abbrev M_X_reachOf : ev_M := (⟨"AlikeStore", "reachOf", "(J)I"⟩, prog_1_method_61_code, 5, some .int)
set_option maxRecDepth 100000 in
theorem M_X_reachOf_ok : ev_ok M_X_reachOf 1 := ⟨ev_m 653 (by decide +kernel) rfl, ev_m 1 (by decide +kernel) rfl, by decide +kernel, ⟨by decide +kernel, by decide +kernel⟩, by decide +kernel, by decide +kernel⟩
set_option maxRecDepth 100000 in
theorem M_X_reachOf_st : Cond.static M_X_reachOf.1 ∈ ev_ws := ev_m 652 (by decide +kernel) rfl
abbrev M_X_longestRun : ev_M := (⟨"AlikeStore", "longestRun", "(J)I"⟩, prog_1_method_62_code, 5, some .int)
set_option maxRecDepth 100000 in
theorem M_X_longestRun_ok : ev_ok M_X_longestRun 1 := ⟨ev_m 658 (by decide +kernel) rfl, ev_m 1 (by decide +kernel) rfl, by decide +kernel, ⟨by decide +kernel, by decide +kernel⟩, by decide +kernel, by decide +kernel⟩
set_option maxRecDepth 100000 in
theorem M_X_longestRun_st : Cond.static M_X_longestRun.1 ∈ ev_ws := ev_m 657 (by decide +kernel) rfl
abbrev M_X_packPair : ev_M := (⟨"AlikeStore", "packPair", "(II)I"⟩, prog_1_method_63_code, 3, some .int)
set_option maxRecDepth 100000 in
theorem M_X_packPair_ok : ev_ok M_X_packPair 2 := ⟨ev_m 858 (by decide +kernel) rfl, ev_m 1 (by decide +kernel) rfl, by decide +kernel, ⟨by decide +kernel, by decide +kernel⟩, by decide +kernel, by decide +kernel⟩
set_option maxRecDepth 100000 in
theorem M_X_packPair_in : Cond.instanceMethod M_X_packPair.1 ∈ ev_ws := ev_m 857 (by decide +kernel) rfl
set_option maxRecDepth 100000 in
theorem M_X_packPair_se : Cond.selects M_X_packPair.1.cls M_X_packPair.1 M_X_packPair.1 ∈ ev_ws := ev_mp 28 (by decide +kernel) rfl
abbrev M_X_ofPacked : ev_M := (⟨"AlikeStore", "ofPacked", "(II)I"⟩, prog_1_method_64_code, 2, some .int)
set_option maxRecDepth 100000 in
theorem M_X_ofPacked_ok : ev_ok M_X_ofPacked 2 := ⟨ev_m 861 (by decide +kernel) rfl, ev_m 1 (by decide +kernel) rfl, by decide +kernel, ⟨by decide +kernel, by decide +kernel⟩, by decide +kernel, by decide +kernel⟩
set_option maxRecDepth 100000 in
theorem M_X_ofPacked_st : Cond.static M_X_ofPacked.1 ∈ ev_ws := ev_m 860 (by decide +kernel) rfl
abbrev M_X_pairAt : ev_M := (⟨"AlikeStore", "pairAt", "(III)I"⟩, prog_1_method_65_code, 8, some .int)
set_option maxRecDepth 100000 in
theorem M_X_pairAt_ok : ev_ok M_X_pairAt 3 := ⟨ev_m 854 (by decide +kernel) rfl, ev_m 1 (by decide +kernel) rfl, by decide +kernel, ⟨by decide +kernel, by decide +kernel⟩, by decide +kernel, by decide +kernel⟩
set_option maxRecDepth 100000 in
theorem M_X_pairAt_in : Cond.instanceMethod M_X_pairAt.1 ∈ ev_ws := ev_m 853 (by decide +kernel) rfl
set_option maxRecDepth 100000 in
theorem M_X_pairAt_se : Cond.selects M_X_pairAt.1.cls M_X_pairAt.1 M_X_pairAt.1 ∈ ev_ws := ev_mp 27 (by decide +kernel) rfl
abbrev M_X_closestPair : ev_M := (⟨"AlikeStore", "closestPair", "(I)I"⟩, prog_1_method_66_code, 6, some .int)
set_option maxRecDepth 100000 in
theorem M_X_closestPair_ok : ev_ok M_X_closestPair 1 := ⟨ev_m 873 (by decide +kernel) rfl, ev_m 1 (by decide +kernel) rfl, by decide +kernel, ⟨by decide +kernel, by decide +kernel⟩, by decide +kernel, by decide +kernel⟩
set_option maxRecDepth 100000 in
theorem M_X_closestPair_in : Cond.instanceMethod M_X_closestPair.1 ∈ ev_ws := ev_m 872 (by decide +kernel) rfl
set_option maxRecDepth 100000 in
theorem M_X_closestPair_se : Cond.selects M_X_closestPair.1.cls M_X_closestPair.1 M_X_closestPair.1 ∈ ev_ws := ev_mp 29 (by decide +kernel) rfl
abbrev M_X_clusterWith : ev_M := (⟨"AlikeStore", "clusterWith", "(III)I"⟩, prog_1_method_67_code, 9, some .int)
set_option maxRecDepth 100000 in
theorem M_X_clusterWith_ok : ev_ok M_X_clusterWith 3 := ⟨ev_m 881 (by decide +kernel) rfl, ev_m 1 (by decide +kernel) rfl, by decide +kernel, ⟨by decide +kernel, by decide +kernel⟩, by decide +kernel, by decide +kernel⟩
set_option maxRecDepth 100000 in
theorem M_X_clusterWith_in : Cond.instanceMethod M_X_clusterWith.1 ∈ ev_ws := ev_m 880 (by decide +kernel) rfl
set_option maxRecDepth 100000 in
theorem M_X_clusterWith_se : Cond.selects M_X_clusterWith.1.cls M_X_clusterWith.1 M_X_clusterWith.1 ∈ ev_ws := ev_mp 30 (by decide +kernel) rfl
abbrev M_X_middleOf : ev_M := (⟨"AlikeStore", "middleOf", "(I)I"⟩, prog_1_method_68_code, 6, some .int)
set_option maxRecDepth 100000 in
theorem M_X_middleOf_ok : ev_ok M_X_middleOf 1 := ⟨ev_m 892 (by decide +kernel) rfl, ev_m 1 (by decide +kernel) rfl, by decide +kernel, ⟨by decide +kernel, by decide +kernel⟩, by decide +kernel, by decide +kernel⟩
set_option maxRecDepth 100000 in
theorem M_X_middleOf_in : Cond.instanceMethod M_X_middleOf.1 ∈ ev_ws := ev_m 891 (by decide +kernel) rfl
set_option maxRecDepth 100000 in
theorem M_X_middleOf_se : Cond.selects M_X_middleOf.1.cls M_X_middleOf.1 M_X_middleOf.1 ∈ ev_ws := ev_mp 31 (by decide +kernel) rfl
abbrev M_X_costParted : ev_M := (⟨"AlikeStore", "costParted", "(III)I"⟩, prog_1_method_69_code, 6, some .int)
set_option maxRecDepth 100000 in
theorem M_X_costParted_ok : ev_ok M_X_costParted 3 := ⟨ev_m 944 (by decide +kernel) rfl, ev_m 1 (by decide +kernel) rfl, by decide +kernel, ⟨by decide +kernel, by decide +kernel⟩, by decide +kernel, by decide +kernel⟩
set_option maxRecDepth 100000 in
theorem M_X_costParted_in : Cond.instanceMethod M_X_costParted.1 ∈ ev_ws := ev_m 943 (by decide +kernel) rfl
set_option maxRecDepth 100000 in
theorem M_X_costParted_se : Cond.selects M_X_costParted.1.cls M_X_costParted.1 M_X_costParted.1 ∈ ev_ws := ev_mp 32 (by decide +kernel) rfl
abbrev M_Mo_init : ev_M := (⟨"AlikeStoreModel", "<init>", "()V"⟩, prog_11_method_1_code, 1, none)
set_option maxRecDepth 100000 in
theorem M_Mo_init_ok : ev_ok M_Mo_init 0 := ⟨ev_m 957 (by decide +kernel) rfl, ev_m 9 (by decide +kernel) rfl, by decide +kernel, ⟨by decide +kernel, by decide +kernel⟩, by decide +kernel, by decide +kernel⟩
set_option maxRecDepth 100000 in
theorem M_Mo_init_in : Cond.instanceMethod M_Mo_init.1 ∈ ev_ws := ev_m 956 (by decide +kernel) rfl
abbrev M_Mo_status : ev_M := (⟨"AlikeStoreModel", "status", "()I"⟩, prog_11_method_2_code, 1, some .int)
set_option maxRecDepth 100000 in
theorem M_Mo_status_ok : ev_ok M_Mo_status 0 := ⟨ev_m 1053 (by decide +kernel) rfl, ev_m 9 (by decide +kernel) rfl, by decide +kernel, ⟨by decide +kernel, by decide +kernel⟩, by decide +kernel, by decide +kernel⟩
set_option maxRecDepth 100000 in
theorem M_Mo_status_in : Cond.instanceMethod M_Mo_status.1 ∈ ev_ws := ev_m 1051 (by decide +kernel) rfl
set_option maxRecDepth 100000 in
theorem M_Mo_status_se : Cond.selects M_Mo_status.1.cls M_Mo_status.1 M_Mo_status.1 ∈ ev_ws := ev_m 1052 (by decide +kernel) rfl
abbrev M_Mo_refuse : ev_M := (⟨"AlikeStoreModel", "refuse", "(I)I"⟩, prog_11_method_3_code, 2, some .int)
set_option maxRecDepth 100000 in
theorem M_Mo_refuse_ok : ev_ok M_Mo_refuse 1 := ⟨ev_m 1072 (by decide +kernel) rfl, ev_m 9 (by decide +kernel) rfl, by decide +kernel, ⟨by decide +kernel, by decide +kernel⟩, by decide +kernel, by decide +kernel⟩
set_option maxRecDepth 100000 in
theorem M_Mo_refuse_in : Cond.instanceMethod M_Mo_refuse.1 ∈ ev_ws := ev_m 1071 (by decide +kernel) rfl
set_option maxRecDepth 100000 in
theorem M_Mo_refuse_se : Cond.selects M_Mo_refuse.1.cls M_Mo_refuse.1 M_Mo_refuse.1 ∈ ev_ws := ev_mp 38 (by decide +kernel) rfl
abbrev M_Mo_gives_I : ev_M := (⟨"AlikeStoreModel", "gives", "(I)I"⟩, prog_11_method_4_code, 2, some .int)
set_option maxRecDepth 100000 in
theorem M_Mo_gives_I_ok : ev_ok M_Mo_gives_I 1 := ⟨ev_m 1204 (by decide +kernel) rfl, ev_m 9 (by decide +kernel) rfl, by decide +kernel, ⟨by decide +kernel, by decide +kernel⟩, by decide +kernel, by decide +kernel⟩
set_option maxRecDepth 100000 in
theorem M_Mo_gives_I_in : Cond.instanceMethod M_Mo_gives_I.1 ∈ ev_ws := ev_m 1203 (by decide +kernel) rfl
set_option maxRecDepth 100000 in
theorem M_Mo_gives_I_se : Cond.selects M_Mo_gives_I.1.cls M_Mo_gives_I.1 M_Mo_gives_I.1 ∈ ev_ws := ev_mp 68 (by decide +kernel) rfl
abbrev M_Mo_gives_J : ev_M := (⟨"AlikeStoreModel", "gives", "(J)J"⟩, prog_11_method_5_code, 3, some .long)
set_option maxRecDepth 100000 in
theorem M_Mo_gives_J_ok : ev_ok M_Mo_gives_J 1 := ⟨ev_m 1251 (by decide +kernel) rfl, ev_m 9 (by decide +kernel) rfl, by decide +kernel, ⟨by decide +kernel, by decide +kernel⟩, by decide +kernel, by decide +kernel⟩
set_option maxRecDepth 100000 in
theorem M_Mo_gives_J_in : Cond.instanceMethod M_Mo_gives_J.1 ∈ ev_ws := ev_m 1250 (by decide +kernel) rfl
set_option maxRecDepth 100000 in
theorem M_Mo_gives_J_se : Cond.selects M_Mo_gives_J.1.cls M_Mo_gives_J.1 M_Mo_gives_J.1 ∈ ev_ws := ev_mp 75 (by decide +kernel) rfl
abbrev M_Mo_isFrom : ev_M := (⟨"AlikeStoreModel", "isFrom", "(JJJ)Z"⟩, prog_11_method_6_code, 6, some .boolean)
set_option maxRecDepth 100000 in
theorem M_Mo_isFrom_ok : ev_ok M_Mo_isFrom 3 := ⟨ev_m 1068 (by decide +kernel) rfl, ev_m 9 (by decide +kernel) rfl, by decide +kernel, ⟨by decide +kernel, by decide +kernel⟩, by decide +kernel, by decide +kernel⟩
set_option maxRecDepth 100000 in
theorem M_Mo_isFrom_st : Cond.static M_Mo_isFrom.1 ∈ ev_ws := ev_m 1067 (by decide +kernel) rfl
abbrev M_Mo_has : ev_M := (⟨"AlikeStoreModel", "has", "(JI)Z"⟩, prog_11_method_7_code, 3, some .boolean)
set_option maxRecDepth 100000 in
theorem M_Mo_has_ok : ev_ok M_Mo_has 2 := ⟨ev_m 1286 (by decide +kernel) rfl, ev_m 9 (by decide +kernel) rfl, by decide +kernel, ⟨by decide +kernel, by decide +kernel⟩, by decide +kernel, by decide +kernel⟩
set_option maxRecDepth 100000 in
theorem M_Mo_has_st : Cond.static M_Mo_has.1 ∈ ev_ws := ev_m 1285 (by decide +kernel) rfl
abbrev M_Mo_ones_J : ev_M := (⟨"AlikeStoreModel", "ones", "(J)I"⟩, prog_11_method_8_code, 5, some .int)
set_option maxRecDepth 100000 in
theorem M_Mo_ones_J_ok : ev_ok M_Mo_ones_J 1 := ⟨ev_m 1228 (by decide +kernel) rfl, ev_m 9 (by decide +kernel) rfl, by decide +kernel, ⟨by decide +kernel, by decide +kernel⟩, by decide +kernel, by decide +kernel⟩
set_option maxRecDepth 100000 in
theorem M_Mo_ones_J_st : Cond.static M_Mo_ones_J.1 ∈ ev_ws := ev_m 1227 (by decide +kernel) rfl
abbrev M_Mo_of : ev_M := (⟨"AlikeStoreModel", "of", "(I)J"⟩, prog_11_method_9_code, 2, some .long)
set_option maxRecDepth 100000 in
theorem M_Mo_of_ok : ev_ok M_Mo_of 1 := ⟨ev_m 976 (by decide +kernel) rfl, ev_m 9 (by decide +kernel) rfl, by decide +kernel, ⟨by decide +kernel, by decide +kernel⟩, by decide +kernel, by decide +kernel⟩
set_option maxRecDepth 100000 in
theorem M_Mo_of_in : Cond.instanceMethod M_Mo_of.1 ∈ ev_ws := ev_m 975 (by decide +kernel) rfl
set_option maxRecDepth 100000 in
theorem M_Mo_of_se : Cond.selects M_Mo_of.1.cls M_Mo_of.1 M_Mo_of.1 ∈ ev_ws := ev_mp 36 (by decide +kernel) rfl
abbrev M_Mo_puts : ev_M := (⟨"AlikeStoreModel", "puts", "(IJ)V"⟩, prog_11_method_10_code, 4, none)
set_option maxRecDepth 100000 in
theorem M_Mo_puts_ok : ev_ok M_Mo_puts 2 := ⟨ev_m 967 (by decide +kernel) rfl, ev_m 9 (by decide +kernel) rfl, by decide +kernel, ⟨by decide +kernel, by decide +kernel⟩, by decide +kernel, by decide +kernel⟩
set_option maxRecDepth 100000 in
theorem M_Mo_puts_in : Cond.instanceMethod M_Mo_puts.1 ∈ ev_ws := ev_m 966 (by decide +kernel) rfl
set_option maxRecDepth 100000 in
theorem M_Mo_puts_se : Cond.selects M_Mo_puts.1.cls M_Mo_puts.1 M_Mo_puts.1 ∈ ev_ws := ev_mp 34 (by decide +kernel) rfl
abbrev M_Mo_copies : ev_M := (⟨"AlikeStoreModel", "copies", "(II)V"⟩, prog_11_method_11_code, 4, none)
set_option maxRecDepth 100000 in
theorem M_Mo_copies_ok : ev_ok M_Mo_copies 2 := ⟨ev_m 1076 (by decide +kernel) rfl, ev_m 9 (by decide +kernel) rfl, by decide +kernel, ⟨by decide +kernel, by decide +kernel⟩, by decide +kernel, by decide +kernel⟩
set_option maxRecDepth 100000 in
theorem M_Mo_copies_in : Cond.instanceMethod M_Mo_copies.1 ∈ ev_ws := ev_m 1075 (by decide +kernel) rfl
set_option maxRecDepth 100000 in
theorem M_Mo_copies_se : Cond.selects M_Mo_copies.1.cls M_Mo_copies.1 M_Mo_copies.1 ∈ ev_ws := ev_mp 39 (by decide +kernel) rfl
abbrev M_Mo_halves : ev_M := (⟨"AlikeStoreModel", "halves", "()V"⟩, prog_11_method_12_code, 1, none)
set_option maxRecDepth 100000 in
theorem M_Mo_halves_ok : ev_ok M_Mo_halves 0 := ⟨ev_m 971 (by decide +kernel) rfl, ev_m 9 (by decide +kernel) rfl, by decide +kernel, ⟨by decide +kernel, by decide +kernel⟩, by decide +kernel, by decide +kernel⟩
set_option maxRecDepth 100000 in
theorem M_Mo_halves_in : Cond.instanceMethod M_Mo_halves.1 ∈ ev_ws := ev_m 970 (by decide +kernel) rfl
set_option maxRecDepth 100000 in
theorem M_Mo_halves_se : Cond.selects M_Mo_halves.1.cls M_Mo_halves.1 M_Mo_halves.1 ∈ ev_ws := ev_mp 35 (by decide +kernel) rfl
abbrev M_Mo_begins : ev_M := (⟨"AlikeStoreModel", "begins", "(I)V"⟩, prog_11_method_13_code, 3, none)
set_option maxRecDepth 100000 in
theorem M_Mo_begins_ok : ev_ok M_Mo_begins 1 := ⟨ev_m 963 (by decide +kernel) rfl, ev_m 9 (by decide +kernel) rfl, by decide +kernel, ⟨by decide +kernel, by decide +kernel⟩, by decide +kernel, by decide +kernel⟩
set_option maxRecDepth 100000 in
theorem M_Mo_begins_in : Cond.instanceMethod M_Mo_begins.1 ∈ ev_ws := ev_m 962 (by decide +kernel) rfl
set_option maxRecDepth 100000 in
theorem M_Mo_begins_se : Cond.selects M_Mo_begins.1.cls M_Mo_begins.1 M_Mo_begins.1 ∈ ev_ws := ev_mp 33 (by decide +kernel) rfl
abbrev M_Mo_bits : ev_M := (⟨"AlikeStoreModel", "bits", "()I"⟩, prog_11_method_14_code, 1, some .int)
set_option maxRecDepth 100000 in
theorem M_Mo_bits_ok : ev_ok M_Mo_bits 0 := ⟨ev_m 1135 (by decide +kernel) rfl, ev_m 9 (by decide +kernel) rfl, by decide +kernel, ⟨by decide +kernel, by decide +kernel⟩, by decide +kernel, by decide +kernel⟩
set_option maxRecDepth 100000 in
theorem M_Mo_bits_in : Cond.instanceMethod M_Mo_bits.1 ∈ ev_ws := ev_m 1134 (by decide +kernel) rfl
set_option maxRecDepth 100000 in
theorem M_Mo_bits_se : Cond.selects M_Mo_bits.1.cls M_Mo_bits.1 M_Mo_bits.1 ∈ ev_ws := ev_mp 51 (by decide +kernel) rfl
abbrev M_Mo_parts : ev_M := (⟨"AlikeStoreModel", "parts", "()I"⟩, prog_11_method_15_code, 1, some .int)
set_option maxRecDepth 100000 in
theorem M_Mo_parts_ok : ev_ok M_Mo_parts 0 := ⟨ev_m 1131 (by decide +kernel) rfl, ev_m 9 (by decide +kernel) rfl, by decide +kernel, ⟨by decide +kernel, by decide +kernel⟩, by decide +kernel, by decide +kernel⟩
set_option maxRecDepth 100000 in
theorem M_Mo_parts_in : Cond.instanceMethod M_Mo_parts.1 ∈ ev_ws := ev_m 1130 (by decide +kernel) rfl
set_option maxRecDepth 100000 in
theorem M_Mo_parts_se : Cond.selects M_Mo_parts.1.cls M_Mo_parts.1 M_Mo_parts.1 ∈ ev_ws := ev_mp 50 (by decide +kernel) rfl
abbrev M_Mo_many_0 : ev_M := (⟨"AlikeStoreModel", "many", "()I"⟩, prog_11_method_16_code, 1, some .int)
set_option maxRecDepth 100000 in
theorem M_Mo_many_0_ok : ev_ok M_Mo_many_0 0 := ⟨ev_m 1147 (by decide +kernel) rfl, ev_m 9 (by decide +kernel) rfl, by decide +kernel, ⟨by decide +kernel, by decide +kernel⟩, by decide +kernel, by decide +kernel⟩
set_option maxRecDepth 100000 in
theorem M_Mo_many_0_in : Cond.instanceMethod M_Mo_many_0.1 ∈ ev_ws := ev_m 1146 (by decide +kernel) rfl
set_option maxRecDepth 100000 in
theorem M_Mo_many_0_se : Cond.selects M_Mo_many_0.1.cls M_Mo_many_0.1 M_Mo_many_0.1 ∈ ev_ws := ev_mp 54 (by decide +kernel) rfl
abbrev M_Mo_breadthOf : ev_M := (⟨"AlikeStoreModel", "breadthOf", "(I)I"⟩, prog_11_method_17_code, 2, some .int)
set_option maxRecDepth 100000 in
theorem M_Mo_breadthOf_ok : ev_ok M_Mo_breadthOf 1 := ⟨ev_m 1236 (by decide +kernel) rfl, ev_m 9 (by decide +kernel) rfl, by decide +kernel, ⟨by decide +kernel, by decide +kernel⟩, by decide +kernel, by decide +kernel⟩
set_option maxRecDepth 100000 in
theorem M_Mo_breadthOf_in : Cond.instanceMethod M_Mo_breadthOf.1 ∈ ev_ws := ev_m 1235 (by decide +kernel) rfl
set_option maxRecDepth 100000 in
theorem M_Mo_breadthOf_se : Cond.selects M_Mo_breadthOf.1.cls M_Mo_breadthOf.1 M_Mo_breadthOf.1 ∈ ev_ws := ev_mp 73 (by decide +kernel) rfl
abbrev M_Mo_isCode : ev_M := (⟨"AlikeStoreModel", "isCode", "(I)Z"⟩, prog_11_method_18_code, 2, some .boolean)
set_option maxRecDepth 100000 in
theorem M_Mo_isCode_ok : ev_ok M_Mo_isCode 1 := ⟨ev_m 1247 (by decide +kernel) rfl, ev_m 9 (by decide +kernel) rfl, by decide +kernel, ⟨by decide +kernel, by decide +kernel⟩, by decide +kernel, by decide +kernel⟩
set_option maxRecDepth 100000 in
theorem M_Mo_isCode_in : Cond.instanceMethod M_Mo_isCode.1 ∈ ev_ws := ev_m 1246 (by decide +kernel) rfl
set_option maxRecDepth 100000 in
theorem M_Mo_isCode_se : Cond.selects M_Mo_isCode.1.cls M_Mo_isCode.1 M_Mo_isCode.1 ∈ ev_ws := ev_mp 74 (by decide +kernel) rfl
abbrev M_Mo_isPart : ev_M := (⟨"AlikeStoreModel", "isPart", "(I)Z"⟩, prog_11_method_19_code, 2, some .boolean)
set_option maxRecDepth 100000 in
theorem M_Mo_isPart_ok : ev_ok M_Mo_isPart 1 := ⟨ev_m 1263 (by decide +kernel) rfl, ev_m 9 (by decide +kernel) rfl, by decide +kernel, ⟨by decide +kernel, by decide +kernel⟩, by decide +kernel, by decide +kernel⟩
set_option maxRecDepth 100000 in
theorem M_Mo_isPart_in : Cond.instanceMethod M_Mo_isPart.1 ∈ ev_ws := ev_m 1262 (by decide +kernel) rfl
set_option maxRecDepth 100000 in
theorem M_Mo_isPart_se : Cond.selects M_Mo_isPart.1.cls M_Mo_isPart.1 M_Mo_isPart.1 ∈ ev_ws := ev_mp 76 (by decide +kernel) rfl
abbrev M_Mo_isNumber : ev_M := (⟨"AlikeStoreModel", "isNumber", "(J)Z"⟩, prog_11_method_20_code, 3, some .boolean)
set_option maxRecDepth 100000 in
theorem M_Mo_isNumber_ok : ev_ok M_Mo_isNumber 1 := ⟨ev_m 1275 (by decide +kernel) rfl, ev_m 9 (by decide +kernel) rfl, by decide +kernel, ⟨by decide +kernel, by decide +kernel⟩, by decide +kernel, by decide +kernel⟩
set_option maxRecDepth 100000 in
theorem M_Mo_isNumber_in : Cond.instanceMethod M_Mo_isNumber.1 ∈ ev_ws := ev_m 1274 (by decide +kernel) rfl
set_option maxRecDepth 100000 in
theorem M_Mo_isNumber_se : Cond.selects M_Mo_isNumber.1.cls M_Mo_isNumber.1 M_Mo_isNumber.1 ∈ ev_ws := ev_mp 77 (by decide +kernel) rfl
abbrev M_Mo_isBit : ev_M := (⟨"AlikeStoreModel", "isBit", "(I)Z"⟩, prog_11_method_21_code, 2, some .boolean)
set_option maxRecDepth 100000 in
theorem M_Mo_isBit_ok : ev_ok M_Mo_isBit 1 := ⟨ev_m 1310 (by decide +kernel) rfl, ev_m 9 (by decide +kernel) rfl, by decide +kernel, ⟨by decide +kernel, by decide +kernel⟩, by decide +kernel, by decide +kernel⟩
set_option maxRecDepth 100000 in
theorem M_Mo_isBit_in : Cond.instanceMethod M_Mo_isBit.1 ∈ ev_ws := ev_m 1309 (by decide +kernel) rfl
set_option maxRecDepth 100000 in
theorem M_Mo_isBit_se : Cond.selects M_Mo_isBit.1.cls M_Mo_isBit.1 M_Mo_isBit.1 ∈ ev_ws := ev_mp 78 (by decide +kernel) rfl
abbrev M_Mo_isRadius : ev_M := (⟨"AlikeStoreModel", "isRadius", "(I)Z"⟩, prog_11_method_22_code, 2, some .boolean)
set_option maxRecDepth 100000 in
theorem M_Mo_isRadius_ok : ev_ok M_Mo_isRadius 1 := ⟨ev_m 1351 (by decide +kernel) rfl, ev_m 9 (by decide +kernel) rfl, by decide +kernel, ⟨by decide +kernel, by decide +kernel⟩, by decide +kernel, by decide +kernel⟩
set_option maxRecDepth 100000 in
theorem M_Mo_isRadius_in : Cond.instanceMethod M_Mo_isRadius.1 ∈ ev_ws := ev_m 1350 (by decide +kernel) rfl
set_option maxRecDepth 100000 in
theorem M_Mo_isRadius_se : Cond.selects M_Mo_isRadius.1.cls M_Mo_isRadius.1 M_Mo_isRadius.1 ∈ ev_ws := ev_mp 79 (by decide +kernel) rfl
abbrev M_Mo_codeOf : ev_M := (⟨"AlikeStoreModel", "codeOf", "(I)J"⟩, prog_11_method_23_code, 2, some .long)
set_option maxRecDepth 100000 in
theorem M_Mo_codeOf_ok : ev_ok M_Mo_codeOf 1 := ⟨ev_m 1159 (by decide +kernel) rfl, ev_m 9 (by decide +kernel) rfl, by decide +kernel, ⟨by decide +kernel, by decide +kernel⟩, by decide +kernel, by decide +kernel⟩
set_option maxRecDepth 100000 in
theorem M_Mo_codeOf_in : Cond.instanceMethod M_Mo_codeOf.1 ∈ ev_ws := ev_m 1158 (by decide +kernel) rfl
set_option maxRecDepth 100000 in
theorem M_Mo_codeOf_se : Cond.selects M_Mo_codeOf.1.cls M_Mo_codeOf.1 M_Mo_codeOf.1 ∈ ev_ws := ev_mp 57 (by decide +kernel) rfl
abbrev M_Mo_keyOf : ev_M := (⟨"AlikeStoreModel", "keyOf", "(JI)J"⟩, prog_11_method_24_code, 6, some .long)
set_option maxRecDepth 100000 in
theorem M_Mo_keyOf_ok : ev_ok M_Mo_keyOf 2 := ⟨ev_m 1232 (by decide +kernel) rfl, ev_m 9 (by decide +kernel) rfl, by decide +kernel, ⟨by decide +kernel, by decide +kernel⟩, by decide +kernel, by decide +kernel⟩
set_option maxRecDepth 100000 in
theorem M_Mo_keyOf_in : Cond.instanceMethod M_Mo_keyOf.1 ∈ ev_ws := ev_m 1231 (by decide +kernel) rfl
set_option maxRecDepth 100000 in
theorem M_Mo_keyOf_se : Cond.selects M_Mo_keyOf.1.cls M_Mo_keyOf.1 M_Mo_keyOf.1 ∈ ev_ws := ev_mp 72 (by decide +kernel) rfl
abbrev M_Mo_valueOf : ev_M := (⟨"AlikeStoreModel", "valueOf", "(IIJ)J"⟩, prog_11_method_25_code, 5, some .long)
set_option maxRecDepth 100000 in
theorem M_Mo_valueOf_ok : ev_ok M_Mo_valueOf 3 := ⟨ev_m 1225 (by decide +kernel) rfl, ev_m 9 (by decide +kernel) rfl, by decide +kernel, ⟨by decide +kernel, by decide +kernel⟩, by decide +kernel, by decide +kernel⟩
set_option maxRecDepth 100000 in
theorem M_Mo_valueOf_in : Cond.instanceMethod M_Mo_valueOf.1 ∈ ev_ws := ev_m 1224 (by decide +kernel) rfl
set_option maxRecDepth 100000 in
theorem M_Mo_valueOf_se : Cond.selects M_Mo_valueOf.1.cls M_Mo_valueOf.1 M_Mo_valueOf.1 ∈ ev_ws := ev_mp 71 (by decide +kernel) rfl
abbrev M_Mo_two : ev_M := (⟨"AlikeStoreModel", "two", "(IJJ)J"⟩, prog_11_method_26_code, 5, some .long)
set_option maxRecDepth 100000 in
theorem M_Mo_two_ok : ev_ok M_Mo_two 3 := ⟨ev_m 1239 (by decide +kernel) rfl, ev_m 9 (by decide +kernel) rfl, by decide +kernel, ⟨by decide +kernel, by decide +kernel⟩, by decide +kernel, by decide +kernel⟩
set_option maxRecDepth 100000 in
theorem M_Mo_two_st : Cond.static M_Mo_two.1 ∈ ev_ws := ev_m 1238 (by decide +kernel) rfl
abbrev M_Mo_isCounting : ev_M := (⟨"AlikeStoreModel", "isCounting", "(I)Z"⟩, prog_11_method_27_code, 5, some .boolean)
set_option maxRecDepth 100000 in
theorem M_Mo_isCounting_ok : ev_ok M_Mo_isCounting 1 := ⟨ev_m 1220 (by decide +kernel) rfl, ev_m 9 (by decide +kernel) rfl, by decide +kernel, ⟨by decide +kernel, by decide +kernel⟩, by decide +kernel, by decide +kernel⟩
set_option maxRecDepth 100000 in
theorem M_Mo_isCounting_in : Cond.instanceMethod M_Mo_isCounting.1 ∈ ev_ws := ev_m 1219 (by decide +kernel) rfl
set_option maxRecDepth 100000 in
theorem M_Mo_isCounting_se : Cond.selects M_Mo_isCounting.1.cls M_Mo_isCounting.1 M_Mo_isCounting.1 ∈ ev_ws := ev_mp 70 (by decide +kernel) rfl
abbrev M_Mo_counting : ev_M := (⟨"AlikeStoreModel", "counting", "()J"⟩, prog_11_method_28_code, 4, some .long)
set_option maxRecDepth 100000 in
theorem M_Mo_counting_ok : ev_ok M_Mo_counting 0 := ⟨ev_m 1216 (by decide +kernel) rfl, ev_m 9 (by decide +kernel) rfl, by decide +kernel, ⟨by decide +kernel, by decide +kernel⟩, by decide +kernel, by decide +kernel⟩
set_option maxRecDepth 100000 in
theorem M_Mo_counting_in : Cond.instanceMethod M_Mo_counting.1 ∈ ev_ws := ev_m 1215 (by decide +kernel) rfl
set_option maxRecDepth 100000 in
theorem M_Mo_counting_se : Cond.selects M_Mo_counting.1.cls M_Mo_counting.1 M_Mo_counting.1 ∈ ev_ws := ev_mp 69 (by decide +kernel) rfl
abbrev M_Mo_feed : ev_M := (⟨"AlikeStoreModel", "feed", "(IIIII)I"⟩, prog_11_method_29_code, 6, some .int)
set_option maxRecDepth 100000 in
theorem M_Mo_feed_ok : ev_ok M_Mo_feed 5 := ⟨ev_m 1057 (by decide +kernel) rfl, ev_m 9 (by decide +kernel) rfl, by decide +kernel, ⟨by decide +kernel, by decide +kernel⟩, by decide +kernel, by decide +kernel⟩
set_option maxRecDepth 100000 in
theorem M_Mo_feed_in : Cond.instanceMethod M_Mo_feed.1 ∈ ev_ws := ev_m 1055 (by decide +kernel) rfl
set_option maxRecDepth 100000 in
theorem M_Mo_feed_se : Cond.selects M_Mo_feed.1.cls M_Mo_feed.1 M_Mo_feed.1 ∈ ev_ws := ev_m 1056 (by decide +kernel) rfl
abbrev M_Mo_four : ev_M := (⟨"AlikeStoreModel", "four", "(I)V"⟩, prog_11_method_30_code, 3, none)
set_option maxRecDepth 100000 in
theorem M_Mo_four_ok : ev_ok M_Mo_four 1 := ⟨ev_m 1061 (by decide +kernel) rfl, ev_m 9 (by decide +kernel) rfl, by decide +kernel, ⟨by decide +kernel, by decide +kernel⟩, by decide +kernel, by decide +kernel⟩
set_option maxRecDepth 100000 in
theorem M_Mo_four_in : Cond.instanceMethod M_Mo_four.1 ∈ ev_ws := ev_m 1060 (by decide +kernel) rfl
set_option maxRecDepth 100000 in
theorem M_Mo_four_se : Cond.selects M_Mo_four.1.cls M_Mo_four.1 M_Mo_four.1 ∈ ev_ws := ev_mp 37 (by decide +kernel) rfl
abbrev M_Mo_byteAt : ev_M := (⟨"AlikeStoreModel", "byteAt", "(I)I"⟩, prog_11_method_31_code, 2, some .int)
set_option maxRecDepth 100000 in
theorem M_Mo_byteAt_ok : ev_ok M_Mo_byteAt 1 := ⟨ev_m 1084 (by decide +kernel) rfl, ev_m 9 (by decide +kernel) rfl, by decide +kernel, ⟨by decide +kernel, by decide +kernel⟩, by decide +kernel, by decide +kernel⟩
set_option maxRecDepth 100000 in
theorem M_Mo_byteAt_in : Cond.instanceMethod M_Mo_byteAt.1 ∈ ev_ws := ev_m 1083 (by decide +kernel) rfl
set_option maxRecDepth 100000 in
theorem M_Mo_byteAt_se : Cond.selects M_Mo_byteAt.1.cls M_Mo_byteAt.1 M_Mo_byteAt.1 ∈ ev_ws := ev_mp 41 (by decide +kernel) rfl
abbrev M_Mo_isSmall : ev_M := (⟨"AlikeStoreModel", "isSmall", "(I)Z"⟩, prog_11_method_32_code, 1, some .boolean)
set_option maxRecDepth 100000 in
theorem M_Mo_isSmall_ok : ev_ok M_Mo_isSmall 1 := ⟨ev_m 1087 (by decide +kernel) rfl, ev_m 9 (by decide +kernel) rfl, by decide +kernel, ⟨by decide +kernel, by decide +kernel⟩, by decide +kernel, by decide +kernel⟩
set_option maxRecDepth 100000 in
theorem M_Mo_isSmall_st : Cond.static M_Mo_isSmall.1 ∈ ev_ws := ev_m 1086 (by decide +kernel) rfl
abbrev M_Mo_isDigit : ev_M := (⟨"AlikeStoreModel", "isDigit", "(I)Z"⟩, prog_11_method_33_code, 1, some .boolean)
set_option maxRecDepth 100000 in
theorem M_Mo_isDigit_ok : ev_ok M_Mo_isDigit 1 := ⟨ev_m 1090 (by decide +kernel) rfl, ev_m 9 (by decide +kernel) rfl, by decide +kernel, ⟨by decide +kernel, by decide +kernel⟩, by decide +kernel, by decide +kernel⟩
set_option maxRecDepth 100000 in
theorem M_Mo_isDigit_st : Cond.static M_Mo_isDigit.1 ∈ ev_ws := ev_m 1089 (by decide +kernel) rfl
abbrev M_Mo_ahead : ev_M := (⟨"AlikeStoreModel", "ahead", "()V"⟩, prog_11_method_34_code, 2, none)
set_option maxRecDepth 100000 in
theorem M_Mo_ahead_ok : ev_ok M_Mo_ahead 0 := ⟨ev_m 1080 (by decide +kernel) rfl, ev_m 9 (by decide +kernel) rfl, by decide +kernel, ⟨by decide +kernel, by decide +kernel⟩, by decide +kernel, by decide +kernel⟩
set_option maxRecDepth 100000 in
theorem M_Mo_ahead_in : Cond.instanceMethod M_Mo_ahead.1 ∈ ev_ws := ev_m 1079 (by decide +kernel) rfl
set_option maxRecDepth 100000 in
theorem M_Mo_ahead_se : Cond.selects M_Mo_ahead.1.cls M_Mo_ahead.1 M_Mo_ahead.1 ∈ ev_ws := ev_mp 40 (by decide +kernel) rfl
abbrev M_Mo_key_0 : ev_M := (⟨"AlikeStoreModel", "key", "()I"⟩, prog_11_method_35_code, 6, some .int)
set_option maxRecDepth 100000 in
theorem M_Mo_key_0_ok : ev_ok M_Mo_key_0 0 := ⟨ev_m 1094 (by decide +kernel) rfl, ev_m 9 (by decide +kernel) rfl, by decide +kernel, ⟨by decide +kernel, by decide +kernel⟩, by decide +kernel, by decide +kernel⟩
set_option maxRecDepth 100000 in
theorem M_Mo_key_0_in : Cond.instanceMethod M_Mo_key_0.1 ∈ ev_ws := ev_m 1093 (by decide +kernel) rfl
set_option maxRecDepth 100000 in
theorem M_Mo_key_0_se : Cond.selects M_Mo_key_0.1.cls M_Mo_key_0.1 M_Mo_key_0.1 ∈ ev_ws := ev_mp 42 (by decide +kernel) rfl
abbrev M_Mo_fails : ev_M := (⟨"AlikeStoreModel", "fails", "(I)Z"⟩, prog_11_method_36_code, 2, some .boolean)
set_option maxRecDepth 100000 in
theorem M_Mo_fails_ok : ev_ok M_Mo_fails 1 := ⟨ev_m 1109 (by decide +kernel) rfl, ev_m 9 (by decide +kernel) rfl, by decide +kernel, ⟨by decide +kernel, by decide +kernel⟩, by decide +kernel, by decide +kernel⟩
set_option maxRecDepth 100000 in
theorem M_Mo_fails_in : Cond.instanceMethod M_Mo_fails.1 ∈ ev_ws := ev_m 1108 (by decide +kernel) rfl
set_option maxRecDepth 100000 in
theorem M_Mo_fails_se : Cond.selects M_Mo_fails.1.cls M_Mo_fails.1 M_Mo_fails.1 ∈ ev_ws := ev_mp 45 (by decide +kernel) rfl
abbrev M_Mo_takes : ev_M := (⟨"AlikeStoreModel", "takes", "()Z"⟩, prog_11_method_37_code, 1, some .boolean)
set_option maxRecDepth 100000 in
theorem M_Mo_takes_ok : ev_ok M_Mo_takes 0 := ⟨ev_m 1123 (by decide +kernel) rfl, ev_m 9 (by decide +kernel) rfl, by decide +kernel, ⟨by decide +kernel, by decide +kernel⟩, by decide +kernel, by decide +kernel⟩
set_option maxRecDepth 100000 in
theorem M_Mo_takes_in : Cond.instanceMethod M_Mo_takes.1 ∈ ev_ws := ev_m 1122 (by decide +kernel) rfl
set_option maxRecDepth 100000 in
theorem M_Mo_takes_se : Cond.selects M_Mo_takes.1.cls M_Mo_takes.1 M_Mo_takes.1 ∈ ev_ws := ev_mp 48 (by decide +kernel) rfl
abbrev M_Mo_isSign : ev_M := (⟨"AlikeStoreModel", "isSign", "(I)Z"⟩, prog_11_method_38_code, 2, some .boolean)
set_option maxRecDepth 100000 in
theorem M_Mo_isSign_ok : ev_ok M_Mo_isSign 1 := ⟨ev_m 1119 (by decide +kernel) rfl, ev_m 9 (by decide +kernel) rfl, by decide +kernel, ⟨by decide +kernel, by decide +kernel⟩, by decide +kernel, by decide +kernel⟩
set_option maxRecDepth 100000 in
theorem M_Mo_isSign_in : Cond.instanceMethod M_Mo_isSign.1 ∈ ev_ws := ev_m 1118 (by decide +kernel) rfl
set_option maxRecDepth 100000 in
theorem M_Mo_isSign_se : Cond.selects M_Mo_isSign.1.cls M_Mo_isSign.1 M_Mo_isSign.1 ∈ ev_ws := ev_mp 47 (by decide +kernel) rfl
abbrev M_Mo_takesSign : ev_M := (⟨"AlikeStoreModel", "takesSign", "(I)Z"⟩, prog_11_method_39_code, 2, some .boolean)
set_option maxRecDepth 100000 in
theorem M_Mo_takesSign_ok : ev_ok M_Mo_takesSign 1 := ⟨ev_m 1115 (by decide +kernel) rfl, ev_m 9 (by decide +kernel) rfl, by decide +kernel, ⟨by decide +kernel, by decide +kernel⟩, by decide +kernel, by decide +kernel⟩
set_option maxRecDepth 100000 in
theorem M_Mo_takesSign_in : Cond.instanceMethod M_Mo_takesSign.1 ∈ ev_ws := ev_m 1114 (by decide +kernel) rfl
set_option maxRecDepth 100000 in
theorem M_Mo_takesSign_se : Cond.selects M_Mo_takesSign.1.cls M_Mo_takesSign.1 M_Mo_takesSign.1 ∈ ev_ws := ev_mp 46 (by decide +kernel) rfl
abbrev M_Mo_isNumberHere : ev_M := (⟨"AlikeStoreModel", "isNumberHere", "(II)Z"⟩, prog_11_method_40_code, 4, some .boolean)
set_option maxRecDepth 100000 in
theorem M_Mo_isNumberHere_ok : ev_ok M_Mo_isNumberHere 2 := ⟨ev_m 1105 (by decide +kernel) rfl, ev_m 9 (by decide +kernel) rfl, by decide +kernel, ⟨by decide +kernel, by decide +kernel⟩, by decide +kernel, by decide +kernel⟩
set_option maxRecDepth 100000 in
theorem M_Mo_isNumberHere_in : Cond.instanceMethod M_Mo_isNumberHere.1 ∈ ev_ws := ev_m 1104 (by decide +kernel) rfl
set_option maxRecDepth 100000 in
theorem M_Mo_isNumberHere_se : Cond.selects M_Mo_isNumberHere.1.cls M_Mo_isNumberHere.1 M_Mo_isNumberHere.1 ∈ ev_ws := ev_mp 44 (by decide +kernel) rfl
abbrev M_Mo_isBinaryHere : ev_M := (⟨"AlikeStoreModel", "isBinaryHere", "()Z"⟩, prog_11_method_41_code, 2, some .boolean)
set_option maxRecDepth 100000 in
theorem M_Mo_isBinaryHere_ok : ev_ok M_Mo_isBinaryHere 0 := ⟨ev_m 1151 (by decide +kernel) rfl, ev_m 9 (by decide +kernel) rfl, by decide +kernel, ⟨by decide +kernel, by decide +kernel⟩, by decide +kernel, by decide +kernel⟩
set_option maxRecDepth 100000 in
theorem M_Mo_isBinaryHere_in : Cond.instanceMethod M_Mo_isBinaryHere.1 ∈ ev_ws := ev_m 1150 (by decide +kernel) rfl
set_option maxRecDepth 100000 in
theorem M_Mo_isBinaryHere_se : Cond.selects M_Mo_isBinaryHere.1.cls M_Mo_isBinaryHere.1 M_Mo_isBinaryHere.1 ∈ ev_ws := ev_mp 55 (by decide +kernel) rfl
abbrev M_Mo_emits : ev_M := (⟨"AlikeStoreModel", "emits", "(IJ)V"⟩, prog_11_method_42_code, 4, none)
set_option maxRecDepth 100000 in
theorem M_Mo_emits_ok : ev_ok M_Mo_emits 2 := ⟨ev_m 1187 (by decide +kernel) rfl, ev_m 9 (by decide +kernel) rfl, by decide +kernel, ⟨by decide +kernel, by decide +kernel⟩, by decide +kernel, by decide +kernel⟩
set_option maxRecDepth 100000 in
theorem M_Mo_emits_in : Cond.instanceMethod M_Mo_emits.1 ∈ ev_ws := ev_m 1186 (by decide +kernel) rfl
set_option maxRecDepth 100000 in
theorem M_Mo_emits_se : Cond.selects M_Mo_emits.1.cls M_Mo_emits.1 M_Mo_emits.1 ∈ ev_ws := ev_mp 64 (by decide +kernel) rfl
abbrev M_Mo_sinks : ev_M := (⟨"AlikeStoreModel", "sinks", "()Z"⟩, prog_11_method_43_code, 1, some .boolean)
set_option maxRecDepth 100000 in
theorem M_Mo_sinks_ok : ev_ok M_Mo_sinks 0 := ⟨ev_m 1179 (by decide +kernel) rfl, ev_m 9 (by decide +kernel) rfl, by decide +kernel, ⟨by decide +kernel, by decide +kernel⟩, by decide +kernel, by decide +kernel⟩
set_option maxRecDepth 100000 in
theorem M_Mo_sinks_in : Cond.instanceMethod M_Mo_sinks.1 ∈ ev_ws := ev_m 1178 (by decide +kernel) rfl
set_option maxRecDepth 100000 in
theorem M_Mo_sinks_se : Cond.selects M_Mo_sinks.1.cls M_Mo_sinks.1 M_Mo_sinks.1 ∈ ev_ws := ev_mp 62 (by decide +kernel) rfl
abbrev M_Mo_emitsNot : ev_M := (⟨"AlikeStoreModel", "emitsNot", "()Z"⟩, prog_11_method_44_code, 1, some .boolean)
set_option maxRecDepth 100000 in
theorem M_Mo_emitsNot_ok : ev_ok M_Mo_emitsNot 0 := ⟨ev_m 1183 (by decide +kernel) rfl, ev_m 9 (by decide +kernel) rfl, by decide +kernel, ⟨by decide +kernel, by decide +kernel⟩, by decide +kernel, by decide +kernel⟩
set_option maxRecDepth 100000 in
theorem M_Mo_emitsNot_in : Cond.instanceMethod M_Mo_emitsNot.1 ∈ ev_ws := ev_m 1182 (by decide +kernel) rfl
set_option maxRecDepth 100000 in
theorem M_Mo_emitsNot_se : Cond.selects M_Mo_emitsNot.1.cls M_Mo_emitsNot.1 M_Mo_emitsNot.1 ∈ ev_ws := ev_mp 63 (by decide +kernel) rfl
abbrev M_Mo_rises : ev_M := (⟨"AlikeStoreModel", "rises", "()Z"⟩, prog_11_method_45_code, 1, some .boolean)
set_option maxRecDepth 100000 in
theorem M_Mo_rises_ok : ev_ok M_Mo_rises 0 := ⟨ev_m 1191 (by decide +kernel) rfl, ev_m 9 (by decide +kernel) rfl, by decide +kernel, ⟨by decide +kernel, by decide +kernel⟩, by decide +kernel, by decide +kernel⟩
set_option maxRecDepth 100000 in
theorem M_Mo_rises_in : Cond.instanceMethod M_Mo_rises.1 ∈ ev_ws := ev_m 1190 (by decide +kernel) rfl
set_option maxRecDepth 100000 in
theorem M_Mo_rises_se : Cond.selects M_Mo_rises.1.cls M_Mo_rises.1 M_Mo_rises.1 ∈ ev_ws := ev_mp 65 (by decide +kernel) rfl
abbrev M_Mo_test : ev_M := (⟨"AlikeStoreModel", "test", "()Z"⟩, prog_11_method_46_code, 1, some .boolean)
set_option maxRecDepth 100000 in
theorem M_Mo_test_ok : ev_ok M_Mo_test 0 := ⟨ev_m 1167 (by decide +kernel) rfl, ev_m 9 (by decide +kernel) rfl, by decide +kernel, ⟨by decide +kernel, by decide +kernel⟩, by decide +kernel, by decide +kernel⟩
set_option maxRecDepth 100000 in
theorem M_Mo_test_in : Cond.instanceMethod M_Mo_test.1 ∈ ev_ws := ev_m 1166 (by decide +kernel) rfl
set_option maxRecDepth 100000 in
theorem M_Mo_test_se : Cond.selects M_Mo_test.1.cls M_Mo_test.1 M_Mo_test.1 ∈ ev_ws := ev_mp 59 (by decide +kernel) rfl
abbrev M_Mo_side : ev_M := (⟨"AlikeStoreModel", "side", "()Z"⟩, prog_11_method_47_code, 1, some .boolean)
set_option maxRecDepth 100000 in
theorem M_Mo_side_ok : ev_ok M_Mo_side 0 := ⟨ev_m 1171 (by decide +kernel) rfl, ev_m 9 (by decide +kernel) rfl, by decide +kernel, ⟨by decide +kernel, by decide +kernel⟩, by decide +kernel, by decide +kernel⟩
set_option maxRecDepth 100000 in
theorem M_Mo_side_in : Cond.instanceMethod M_Mo_side.1 ∈ ev_ws := ev_m 1170 (by decide +kernel) rfl
set_option maxRecDepth 100000 in
theorem M_Mo_side_se : Cond.selects M_Mo_side.1.cls M_Mo_side.1 M_Mo_side.1 ∈ ev_ws := ev_mp 60 (by decide +kernel) rfl
abbrev M_Mo_valueHere : ev_M := (⟨"AlikeStoreModel", "valueHere", "()Z"⟩, prog_11_method_48_code, 3, some .boolean)
set_option maxRecDepth 100000 in
theorem M_Mo_valueHere_ok : ev_ok M_Mo_valueHere 0 := ⟨ev_m 1195 (by decide +kernel) rfl, ev_m 9 (by decide +kernel) rfl, by decide +kernel, ⟨by decide +kernel, by decide +kernel⟩, by decide +kernel, by decide +kernel⟩
set_option maxRecDepth 100000 in
theorem M_Mo_valueHere_in : Cond.instanceMethod M_Mo_valueHere.1 ∈ ev_ws := ev_m 1194 (by decide +kernel) rfl
set_option maxRecDepth 100000 in
theorem M_Mo_valueHere_se : Cond.selects M_Mo_valueHere.1.cls M_Mo_valueHere.1 M_Mo_valueHere.1 ∈ ev_ws := ev_mp 66 (by decide +kernel) rfl
abbrev M_Mo_fact : ev_M := (⟨"AlikeStoreModel", "fact", "()Z"⟩, prog_11_method_49_code, 2, some .boolean)
set_option maxRecDepth 100000 in
theorem M_Mo_fact_ok : ev_ok M_Mo_fact 0 := ⟨ev_m 1175 (by decide +kernel) rfl, ev_m 9 (by decide +kernel) rfl, by decide +kernel, ⟨by decide +kernel, by decide +kernel⟩, by decide +kernel, by decide +kernel⟩
set_option maxRecDepth 100000 in
theorem M_Mo_fact_in : Cond.instanceMethod M_Mo_fact.1 ∈ ev_ws := ev_m 1174 (by decide +kernel) rfl
set_option maxRecDepth 100000 in
theorem M_Mo_fact_se : Cond.selects M_Mo_fact.1.cls M_Mo_fact.1 M_Mo_fact.1 ∈ ev_ws := ev_mp 61 (by decide +kernel) rfl
abbrev M_Mo_aFilter : ev_M := (⟨"AlikeStoreModel", "aFilter", "()Z"⟩, prog_11_method_50_code, 1, some .boolean)
set_option maxRecDepth 100000 in
theorem M_Mo_aFilter_ok : ev_ok M_Mo_aFilter 0 := ⟨ev_m 1163 (by decide +kernel) rfl, ev_m 9 (by decide +kernel) rfl, by decide +kernel, ⟨by decide +kernel, by decide +kernel⟩, by decide +kernel, by decide +kernel⟩
set_option maxRecDepth 100000 in
theorem M_Mo_aFilter_in : Cond.instanceMethod M_Mo_aFilter.1 ∈ ev_ws := ev_m 1162 (by decide +kernel) rfl
set_option maxRecDepth 100000 in
theorem M_Mo_aFilter_se : Cond.selects M_Mo_aFilter.1.cls M_Mo_aFilter.1 M_Mo_aFilter.1 ∈ ev_ws := ev_mp 58 (by decide +kernel) rfl
abbrev M_Mo_found : ev_M := (⟨"AlikeStoreModel", "found", "(J)I"⟩, prog_11_method_51_code, 4, some .int)
set_option maxRecDepth 100000 in
theorem M_Mo_found_ok : ev_ok M_Mo_found 1 := ⟨ev_m 1155 (by decide +kernel) rfl, ev_m 9 (by decide +kernel) rfl, by decide +kernel, ⟨by decide +kernel, by decide +kernel⟩, by decide +kernel, by decide +kernel⟩
set_option maxRecDepth 100000 in
theorem M_Mo_found_in : Cond.instanceMethod M_Mo_found.1 ∈ ev_ws := ev_m 1154 (by decide +kernel) rfl
set_option maxRecDepth 100000 in
theorem M_Mo_found_se : Cond.selects M_Mo_found.1.cls M_Mo_found.1 M_Mo_found.1 ∈ ev_ws := ev_mp 56 (by decide +kernel) rfl
abbrev M_Mo_aCode : ev_M := (⟨"AlikeStoreModel", "aCode", "()Z"⟩, prog_11_method_52_code, 2, some .boolean)
set_option maxRecDepth 100000 in
theorem M_Mo_aCode_ok : ev_ok M_Mo_aCode 0 := ⟨ev_m 1143 (by decide +kernel) rfl, ev_m 9 (by decide +kernel) rfl, by decide +kernel, ⟨by decide +kernel, by decide +kernel⟩, by decide +kernel, by decide +kernel⟩
set_option maxRecDepth 100000 in
theorem M_Mo_aCode_in : Cond.instanceMethod M_Mo_aCode.1 ∈ ev_ws := ev_m 1142 (by decide +kernel) rfl
set_option maxRecDepth 100000 in
theorem M_Mo_aCode_se : Cond.selects M_Mo_aCode.1.cls M_Mo_aCode.1 M_Mo_aCode.1 ∈ ev_ws := ev_mp 53 (by decide +kernel) rfl
abbrev M_Mo_theBits : ev_M := (⟨"AlikeStoreModel", "theBits", "()Z"⟩, prog_11_method_53_code, 1, some .boolean)
set_option maxRecDepth 100000 in
theorem M_Mo_theBits_ok : ev_ok M_Mo_theBits 0 := ⟨ev_m 1101 (by decide +kernel) rfl, ev_m 9 (by decide +kernel) rfl, by decide +kernel, ⟨by decide +kernel, by decide +kernel⟩, by decide +kernel, by decide +kernel⟩
set_option maxRecDepth 100000 in
theorem M_Mo_theBits_in : Cond.instanceMethod M_Mo_theBits.1 ∈ ev_ws := ev_m 1100 (by decide +kernel) rfl
set_option maxRecDepth 100000 in
theorem M_Mo_theBits_se : Cond.selects M_Mo_theBits.1.cls M_Mo_theBits.1 M_Mo_theBits.1 ∈ ev_ws := ev_mp 43 (by decide +kernel) rfl
abbrev M_Mo_theParts : ev_M := (⟨"AlikeStoreModel", "theParts", "()Z"⟩, prog_11_method_54_code, 2, some .boolean)
set_option maxRecDepth 100000 in
theorem M_Mo_theParts_ok : ev_ok M_Mo_theParts 0 := ⟨ev_m 1127 (by decide +kernel) rfl, ev_m 9 (by decide +kernel) rfl, by decide +kernel, ⟨by decide +kernel, by decide +kernel⟩, by decide +kernel, by decide +kernel⟩
set_option maxRecDepth 100000 in
theorem M_Mo_theParts_in : Cond.instanceMethod M_Mo_theParts.1 ∈ ev_ws := ev_m 1126 (by decide +kernel) rfl
set_option maxRecDepth 100000 in
theorem M_Mo_theParts_se : Cond.selects M_Mo_theParts.1.cls M_Mo_theParts.1 M_Mo_theParts.1 ∈ ev_ws := ev_mp 49 (by decide +kernel) rfl
abbrev M_Mo_aLine : ev_M := (⟨"AlikeStoreModel", "aLine", "()Z"⟩, prog_11_method_55_code, 3, some .boolean)
set_option maxRecDepth 100000 in
theorem M_Mo_aLine_ok : ev_ok M_Mo_aLine 0 := ⟨ev_m 1139 (by decide +kernel) rfl, ev_m 9 (by decide +kernel) rfl, by decide +kernel, ⟨by decide +kernel, by decide +kernel⟩, by decide +kernel, by decide +kernel⟩
set_option maxRecDepth 100000 in
theorem M_Mo_aLine_in : Cond.instanceMethod M_Mo_aLine.1 ∈ ev_ws := ev_m 1138 (by decide +kernel) rfl
set_option maxRecDepth 100000 in
theorem M_Mo_aLine_se : Cond.selects M_Mo_aLine.1.cls M_Mo_aLine.1 M_Mo_aLine.1 ∈ ev_ws := ev_mp 52 (by decide +kernel) rfl
abbrev M_Mo_load : ev_M := (⟨"AlikeStoreModel", "load", "(I)I"⟩, prog_11_method_56_code, 3, some .int)
set_option maxRecDepth 100000 in
theorem M_Mo_load_ok : ev_ok M_Mo_load 1 := ⟨ev_m 1065 (by decide +kernel) rfl, ev_m 9 (by decide +kernel) rfl, by decide +kernel, ⟨by decide +kernel, by decide +kernel⟩, by decide +kernel, by decide +kernel⟩
set_option maxRecDepth 100000 in
theorem M_Mo_load_in : Cond.instanceMethod M_Mo_load.1 ∈ ev_ws := ev_m 1063 (by decide +kernel) rfl
set_option maxRecDepth 100000 in
theorem M_Mo_load_se : Cond.selects M_Mo_load.1.cls M_Mo_load.1 M_Mo_load.1 ∈ ev_ws := ev_m 1064 (by decide +kernel) rfl
abbrev M_Mo_fault : ev_M := (⟨"AlikeStoreModel", "fault", "(I)I"⟩, prog_11_method_57_code, 2, some .int)
set_option maxRecDepth 100000 in
theorem M_Mo_fault_ok : ev_ok M_Mo_fault 1 := ⟨ev_m 1208 (by decide +kernel) rfl, ev_m 9 (by decide +kernel) rfl, by decide +kernel, ⟨by decide +kernel, by decide +kernel⟩, by decide +kernel, by decide +kernel⟩
set_option maxRecDepth 100000 in
theorem M_Mo_fault_in : Cond.instanceMethod M_Mo_fault.1 ∈ ev_ws := ev_m 1206 (by decide +kernel) rfl
set_option maxRecDepth 100000 in
theorem M_Mo_fault_se : Cond.selects M_Mo_fault.1.cls M_Mo_fault.1 M_Mo_fault.1 ∈ ev_ws := ev_m 1207 (by decide +kernel) rfl
abbrev M_Mo_many_I : ev_M := (⟨"AlikeStoreModel", "many", "(I)I"⟩, prog_11_method_58_code, 2, some .int)
set_option maxRecDepth 100000 in
theorem M_Mo_many_I_ok : ev_ok M_Mo_many_I 1 := ⟨ev_m 1212 (by decide +kernel) rfl, ev_m 9 (by decide +kernel) rfl, by decide +kernel, ⟨by decide +kernel, by decide +kernel⟩, by decide +kernel, by decide +kernel⟩
set_option maxRecDepth 100000 in
theorem M_Mo_many_I_in : Cond.instanceMethod M_Mo_many_I.1 ∈ ev_ws := ev_m 1210 (by decide +kernel) rfl
set_option maxRecDepth 100000 in
theorem M_Mo_many_I_se : Cond.selects M_Mo_many_I.1.cls M_Mo_many_I.1 M_Mo_many_I.1 ∈ ev_ws := ev_m 1211 (by decide +kernel) rfl
abbrev M_Mo_code : ev_M := (⟨"AlikeStoreModel", "code", "(I)J"⟩, prog_11_method_59_code, 2, some .long)
set_option maxRecDepth 100000 in
theorem M_Mo_code_ok : ev_ok M_Mo_code 1 := ⟨ev_m 1243 (by decide +kernel) rfl, ev_m 9 (by decide +kernel) rfl, by decide +kernel, ⟨by decide +kernel, by decide +kernel⟩, by decide +kernel, by decide +kernel⟩
set_option maxRecDepth 100000 in
theorem M_Mo_code_in : Cond.instanceMethod M_Mo_code.1 ∈ ev_ws := ev_m 1241 (by decide +kernel) rfl
set_option maxRecDepth 100000 in
theorem M_Mo_code_se : Cond.selects M_Mo_code.1.cls M_Mo_code.1 M_Mo_code.1 ∈ ev_ws := ev_m 1242 (by decide +kernel) rfl
abbrev M_Mo_tagOf : ev_M := (⟨"AlikeStoreModel", "tagOf", "(I)I"⟩, prog_11_method_60_code, 2, some .int)
set_option maxRecDepth 100000 in
theorem M_Mo_tagOf_ok : ev_ok M_Mo_tagOf 1 := ⟨ev_m 1255 (by decide +kernel) rfl, ev_m 9 (by decide +kernel) rfl, by decide +kernel, ⟨by decide +kernel, by decide +kernel⟩, by decide +kernel, by decide +kernel⟩
set_option maxRecDepth 100000 in
theorem M_Mo_tagOf_in : Cond.instanceMethod M_Mo_tagOf.1 ∈ ev_ws := ev_m 1253 (by decide +kernel) rfl
set_option maxRecDepth 100000 in
theorem M_Mo_tagOf_se : Cond.selects M_Mo_tagOf.1.cls M_Mo_tagOf.1 M_Mo_tagOf.1 ∈ ev_ws := ev_m 1254 (by decide +kernel) rfl
abbrev M_Mo_breadth : ev_M := (⟨"AlikeStoreModel", "breadth", "(I)I"⟩, prog_11_method_61_code, 2, some .int)
set_option maxRecDepth 100000 in
theorem M_Mo_breadth_ok : ev_ok M_Mo_breadth 1 := ⟨ev_m 1259 (by decide +kernel) rfl, ev_m 9 (by decide +kernel) rfl, by decide +kernel, ⟨by decide +kernel, by decide +kernel⟩, by decide +kernel, by decide +kernel⟩
set_option maxRecDepth 100000 in
theorem M_Mo_breadth_in : Cond.instanceMethod M_Mo_breadth.1 ∈ ev_ws := ev_m 1257 (by decide +kernel) rfl
set_option maxRecDepth 100000 in
theorem M_Mo_breadth_se : Cond.selects M_Mo_breadth.1.cls M_Mo_breadth.1 M_Mo_breadth.1 ∈ ev_ws := ev_m 1258 (by decide +kernel) rfl
abbrev M_Mo_key_II : ev_M := (⟨"AlikeStoreModel", "key", "(II)I"⟩, prog_11_method_62_code, 3, some .int)
set_option maxRecDepth 100000 in
theorem M_Mo_key_II_ok : ev_ok M_Mo_key_II 2 := ⟨ev_m 1267 (by decide +kernel) rfl, ev_m 9 (by decide +kernel) rfl, by decide +kernel, ⟨by decide +kernel, by decide +kernel⟩, by decide +kernel, by decide +kernel⟩
set_option maxRecDepth 100000 in
theorem M_Mo_key_II_in : Cond.instanceMethod M_Mo_key_II.1 ∈ ev_ws := ev_m 1265 (by decide +kernel) rfl
set_option maxRecDepth 100000 in
theorem M_Mo_key_II_se : Cond.selects M_Mo_key_II.1.cls M_Mo_key_II.1 M_Mo_key_II.1 ∈ ev_ws := ev_m 1266 (by decide +kernel) rfl
abbrev M_Mo_far : ev_M := (⟨"AlikeStoreModel", "far", "(IJ)I"⟩, prog_11_method_63_code, 4, some .int)
set_option maxRecDepth 100000 in
theorem M_Mo_far_ok : ev_ok M_Mo_far 2 := ⟨ev_m 1271 (by decide +kernel) rfl, ev_m 9 (by decide +kernel) rfl, by decide +kernel, ⟨by decide +kernel, by decide +kernel⟩, by decide +kernel, by decide +kernel⟩
set_option maxRecDepth 100000 in
theorem M_Mo_far_in : Cond.instanceMethod M_Mo_far.1 ∈ ev_ws := ev_m 1269 (by decide +kernel) rfl
set_option maxRecDepth 100000 in
theorem M_Mo_far_se : Cond.selects M_Mo_far.1.cls M_Mo_far.1 M_Mo_far.1 ∈ ev_ws := ev_m 1270 (by decide +kernel) rfl
abbrev M_Mo_runs : ev_M := (⟨"AlikeStoreModel", "runs", "(JZ)I"⟩, prog_11_method_64_code, 7, some .int)
set_option maxRecDepth 100000 in
theorem M_Mo_runs_ok : ev_ok M_Mo_runs 2 := ⟨ev_m 1289 (by decide +kernel) rfl, ev_m 9 (by decide +kernel) rfl, by decide +kernel, ⟨by decide +kernel, by decide +kernel⟩, by decide +kernel, by decide +kernel⟩
set_option maxRecDepth 100000 in
theorem M_Mo_runs_st : Cond.static M_Mo_runs.1 ∈ ev_ws := ev_m 1288 (by decide +kernel) rfl
abbrev M_Mo_span : ev_M := (⟨"AlikeStoreModel", "span", "(J)I"⟩, prog_11_method_65_code, 4, some .int)
set_option maxRecDepth 100000 in
theorem M_Mo_span_ok : ev_ok M_Mo_span 1 := ⟨ev_m 1283 (by decide +kernel) rfl, ev_m 9 (by decide +kernel) rfl, by decide +kernel, ⟨by decide +kernel, by decide +kernel⟩, by decide +kernel, by decide +kernel⟩
set_option maxRecDepth 100000 in
theorem M_Mo_span_st : Cond.static M_Mo_span.1 ∈ ev_ws := ev_m 1282 (by decide +kernel) rfl
abbrev M_Mo_measure : ev_M := (⟨"AlikeStoreModel", "measure", "(III)I"⟩, prog_11_method_66_code, 6, some .int)
set_option maxRecDepth 100000 in
theorem M_Mo_measure_ok : ev_ok M_Mo_measure 3 := ⟨ev_m 1279 (by decide +kernel) rfl, ev_m 9 (by decide +kernel) rfl, by decide +kernel, ⟨by decide +kernel, by decide +kernel⟩, by decide +kernel, by decide +kernel⟩
set_option maxRecDepth 100000 in
theorem M_Mo_measure_in : Cond.instanceMethod M_Mo_measure.1 ∈ ev_ws := ev_m 1277 (by decide +kernel) rfl
set_option maxRecDepth 100000 in
theorem M_Mo_measure_se : Cond.selects M_Mo_measure.1.cls M_Mo_measure.1 M_Mo_measure.1 ∈ ev_ws := ev_m 1278 (by decide +kernel) rfl
abbrev M_Mo_find : ev_M := (⟨"AlikeStoreModel", "find", "(J)I"⟩, prog_11_method_67_code, 3, some .int)
set_option maxRecDepth 100000 in
theorem M_Mo_find_ok : ev_ok M_Mo_find 1 := ⟨ev_m 1294 (by decide +kernel) rfl, ev_m 9 (by decide +kernel) rfl, by decide +kernel, ⟨by decide +kernel, by decide +kernel⟩, by decide +kernel, by decide +kernel⟩
set_option maxRecDepth 100000 in
theorem M_Mo_find_in : Cond.instanceMethod M_Mo_find.1 ∈ ev_ws := ev_m 1292 (by decide +kernel) rfl
set_option maxRecDepth 100000 in
theorem M_Mo_find_se : Cond.selects M_Mo_find.1.cls M_Mo_find.1 M_Mo_find.1 ∈ ev_ws := ev_m 1293 (by decide +kernel) rfl
abbrev M_Mo_acted : ev_M := (⟨"AlikeStoreModel", "acted", "(I)V"⟩, prog_11_method_68_code, 3, none)
set_option maxRecDepth 100000 in
theorem M_Mo_acted_ok : ev_ok M_Mo_acted 1 := ⟨ev_m 1200 (by decide +kernel) rfl, ev_m 9 (by decide +kernel) rfl, by decide +kernel, ⟨by decide +kernel, by decide +kernel⟩, by decide +kernel, by decide +kernel⟩
set_option maxRecDepth 100000 in
theorem M_Mo_acted_in : Cond.instanceMethod M_Mo_acted.1 ∈ ev_ws := ev_m 1199 (by decide +kernel) rfl
set_option maxRecDepth 100000 in
theorem M_Mo_acted_se : Cond.selects M_Mo_acted.1.cls M_Mo_acted.1 M_Mo_acted.1 ∈ ev_ws := ev_mp 67 (by decide +kernel) rfl
abbrev M_Mo_add : ev_M := (⟨"AlikeStoreModel", "add", "(J)I"⟩, prog_11_method_69_code, 3, some .int)
set_option maxRecDepth 100000 in
theorem M_Mo_add_ok : ev_ok M_Mo_add 1 := ⟨ev_m 1298 (by decide +kernel) rfl, ev_m 9 (by decide +kernel) rfl, by decide +kernel, ⟨by decide +kernel, by decide +kernel⟩, by decide +kernel, by decide +kernel⟩
set_option maxRecDepth 100000 in
theorem M_Mo_add_in : Cond.instanceMethod M_Mo_add.1 ∈ ev_ws := ev_m 1296 (by decide +kernel) rfl
set_option maxRecDepth 100000 in
theorem M_Mo_add_se : Cond.selects M_Mo_add.1.cls M_Mo_add.1 M_Mo_add.1 ∈ ev_ws := ev_m 1297 (by decide +kernel) rfl
abbrev M_Mo_strike : ev_M := (⟨"AlikeStoreModel", "strike", "(I)I"⟩, prog_11_method_70_code, 3, some .int)
set_option maxRecDepth 100000 in
theorem M_Mo_strike_ok : ev_ok M_Mo_strike 1 := ⟨ev_m 1302 (by decide +kernel) rfl, ev_m 9 (by decide +kernel) rfl, by decide +kernel, ⟨by decide +kernel, by decide +kernel⟩, by decide +kernel, by decide +kernel⟩
set_option maxRecDepth 100000 in
theorem M_Mo_strike_in : Cond.instanceMethod M_Mo_strike.1 ∈ ev_ws := ev_m 1300 (by decide +kernel) rfl
set_option maxRecDepth 100000 in
theorem M_Mo_strike_se : Cond.selects M_Mo_strike.1.cls M_Mo_strike.1 M_Mo_strike.1 ∈ ev_ws := ev_m 1301 (by decide +kernel) rfl
abbrev M_Mo_flip : ev_M := (⟨"AlikeStoreModel", "flip", "(II)I"⟩, prog_11_method_71_code, 5, some .int)
set_option maxRecDepth 100000 in
theorem M_Mo_flip_ok : ev_ok M_Mo_flip 2 := ⟨ev_m 1306 (by decide +kernel) rfl, ev_m 9 (by decide +kernel) rfl, by decide +kernel, ⟨by decide +kernel, by decide +kernel⟩, by decide +kernel, by decide +kernel⟩
set_option maxRecDepth 100000 in
theorem M_Mo_flip_in : Cond.instanceMethod M_Mo_flip.1 ∈ ev_ws := ev_m 1304 (by decide +kernel) rfl
set_option maxRecDepth 100000 in
theorem M_Mo_flip_se : Cond.selects M_Mo_flip.1.cls M_Mo_flip.1 M_Mo_flip.1 ∈ ev_ws := ev_m 1305 (by decide +kernel) rfl
abbrev M_Mo_swap : ev_M := (⟨"AlikeStoreModel", "swap", "(II)I"⟩, prog_11_method_72_code, 5, some .int)
set_option maxRecDepth 100000 in
theorem M_Mo_swap_ok : ev_ok M_Mo_swap 2 := ⟨ev_m 1314 (by decide +kernel) rfl, ev_m 9 (by decide +kernel) rfl, by decide +kernel, ⟨by decide +kernel, by decide +kernel⟩, by decide +kernel, by decide +kernel⟩
set_option maxRecDepth 100000 in
theorem M_Mo_swap_in : Cond.instanceMethod M_Mo_swap.1 ∈ ev_ws := ev_m 1312 (by decide +kernel) rfl
set_option maxRecDepth 100000 in
theorem M_Mo_swap_se : Cond.selects M_Mo_swap.1.cls M_Mo_swap.1 M_Mo_swap.1 ∈ ev_ws := ev_m 1313 (by decide +kernel) rfl
abbrev M_Mo_tag : ev_M := (⟨"AlikeStoreModel", "tag", "(II)I"⟩, prog_11_method_73_code, 4, some .int)
set_option maxRecDepth 100000 in
theorem M_Mo_tag_ok : ev_ok M_Mo_tag 2 := ⟨ev_m 1318 (by decide +kernel) rfl, ev_m 9 (by decide +kernel) rfl, by decide +kernel, ⟨by decide +kernel, by decide +kernel⟩, by decide +kernel, by decide +kernel⟩
set_option maxRecDepth 100000 in
theorem M_Mo_tag_in : Cond.instanceMethod M_Mo_tag.1 ∈ ev_ws := ev_m 1316 (by decide +kernel) rfl
set_option maxRecDepth 100000 in
theorem M_Mo_tag_se : Cond.selects M_Mo_tag.1.cls M_Mo_tag.1 M_Mo_tag.1 ∈ ev_ws := ev_m 1317 (by decide +kernel) rfl
abbrev M_Mo_split : ev_M := (⟨"AlikeStoreModel", "split", "(II)I"⟩, prog_11_method_74_code, 4, some .int)
set_option maxRecDepth 100000 in
theorem M_Mo_split_ok : ev_ok M_Mo_split 2 := ⟨ev_m 1323 (by decide +kernel) rfl, ev_m 9 (by decide +kernel) rfl, by decide +kernel, ⟨by decide +kernel, by decide +kernel⟩, by decide +kernel, by decide +kernel⟩
set_option maxRecDepth 100000 in
theorem M_Mo_split_in : Cond.instanceMethod M_Mo_split.1 ∈ ev_ws := ev_m 1321 (by decide +kernel) rfl
set_option maxRecDepth 100000 in
theorem M_Mo_split_se : Cond.selects M_Mo_split.1.cls M_Mo_split.1 M_Mo_split.1 ∈ ev_ws := ev_m 1322 (by decide +kernel) rfl
abbrev M_Mo_merge : ev_M := (⟨"AlikeStoreModel", "merge", "(I)I"⟩, prog_11_method_75_code, 4, some .int)
set_option maxRecDepth 100000 in
theorem M_Mo_merge_ok : ev_ok M_Mo_merge 1 := ⟨ev_m 1327 (by decide +kernel) rfl, ev_m 9 (by decide +kernel) rfl, by decide +kernel, ⟨by decide +kernel, by decide +kernel⟩, by decide +kernel, by decide +kernel⟩
set_option maxRecDepth 100000 in
theorem M_Mo_merge_in : Cond.instanceMethod M_Mo_merge.1 ∈ ev_ws := ev_m 1325 (by decide +kernel) rfl
set_option maxRecDepth 100000 in
theorem M_Mo_merge_se : Cond.selects M_Mo_merge.1.cls M_Mo_merge.1 M_Mo_merge.1 ∈ ev_ws := ev_m 1326 (by decide +kernel) rfl
abbrev M_Mo_open : ev_M := (⟨"AlikeStoreModel", "open", "()I"⟩, prog_11_method_76_code, 1, some .int)
set_option maxRecDepth 100000 in
theorem M_Mo_open_ok : ev_ok M_Mo_open 0 := ⟨ev_m 1331 (by decide +kernel) rfl, ev_m 9 (by decide +kernel) rfl, by decide +kernel, ⟨by decide +kernel, by decide +kernel⟩, by decide +kernel, by decide +kernel⟩
set_option maxRecDepth 100000 in
theorem M_Mo_open_in : Cond.instanceMethod M_Mo_open.1 ∈ ev_ws := ev_m 1329 (by decide +kernel) rfl
set_option maxRecDepth 100000 in
theorem M_Mo_open_se : Cond.selects M_Mo_open.1.cls M_Mo_open.1 M_Mo_open.1 ∈ ev_ws := ev_m 1330 (by decide +kernel) rfl
abbrev M_Mo_undo : ev_M := (⟨"AlikeStoreModel", "undo", "()I"⟩, prog_11_method_77_code, 1, some .int)
set_option maxRecDepth 100000 in
theorem M_Mo_undo_ok : ev_ok M_Mo_undo 0 := ⟨ev_m 1335 (by decide +kernel) rfl, ev_m 9 (by decide +kernel) rfl, by decide +kernel, ⟨by decide +kernel, by decide +kernel⟩, by decide +kernel, by decide +kernel⟩
set_option maxRecDepth 100000 in
theorem M_Mo_undo_in : Cond.instanceMethod M_Mo_undo.1 ∈ ev_ws := ev_m 1333 (by decide +kernel) rfl
set_option maxRecDepth 100000 in
theorem M_Mo_undo_se : Cond.selects M_Mo_undo.1.cls M_Mo_undo.1 M_Mo_undo.1 ∈ ev_ws := ev_m 1334 (by decide +kernel) rfl
abbrev M_Mo_mark : ev_M := (⟨"AlikeStoreModel", "mark", "()I"⟩, prog_11_method_78_code, 1, some .int)
set_option maxRecDepth 100000 in
theorem M_Mo_mark_ok : ev_ok M_Mo_mark 0 := ⟨ev_m 1339 (by decide +kernel) rfl, ev_m 9 (by decide +kernel) rfl, by decide +kernel, ⟨by decide +kernel, by decide +kernel⟩, by decide +kernel, by decide +kernel⟩
set_option maxRecDepth 100000 in
theorem M_Mo_mark_in : Cond.instanceMethod M_Mo_mark.1 ∈ ev_ws := ev_m 1337 (by decide +kernel) rfl
set_option maxRecDepth 100000 in
theorem M_Mo_mark_se : Cond.selects M_Mo_mark.1.cls M_Mo_mark.1 M_Mo_mark.1 ∈ ev_ws := ev_m 1338 (by decide +kernel) rfl
abbrev M_Mo_back : ev_M := (⟨"AlikeStoreModel", "back", "()I"⟩, prog_11_method_79_code, 1, some .int)
set_option maxRecDepth 100000 in
theorem M_Mo_back_ok : ev_ok M_Mo_back 0 := ⟨ev_m 1343 (by decide +kernel) rfl, ev_m 9 (by decide +kernel) rfl, by decide +kernel, ⟨by decide +kernel, by decide +kernel⟩, by decide +kernel, by decide +kernel⟩
set_option maxRecDepth 100000 in
theorem M_Mo_back_in : Cond.instanceMethod M_Mo_back.1 ∈ ev_ws := ev_m 1341 (by decide +kernel) rfl
set_option maxRecDepth 100000 in
theorem M_Mo_back_se : Cond.selects M_Mo_back.1.cls M_Mo_back.1 M_Mo_back.1 ∈ ev_ws := ev_m 1342 (by decide +kernel) rfl
abbrev M_Mo_ownParts : ev_M := (⟨"AlikeStoreModel", "ownParts", "()V"⟩, prog_11_method_80_code, 2, none)
set_option maxRecDepth 100000 in
theorem M_Mo_ownParts_ok : ev_ok M_Mo_ownParts 0 := ⟨ev_m 1355 (by decide +kernel) rfl, ev_m 9 (by decide +kernel) rfl, by decide +kernel, ⟨by decide +kernel, by decide +kernel⟩, by decide +kernel, by decide +kernel⟩
set_option maxRecDepth 100000 in
theorem M_Mo_ownParts_in : Cond.instanceMethod M_Mo_ownParts.1 ∈ ev_ws := ev_m 1354 (by decide +kernel) rfl
set_option maxRecDepth 100000 in
theorem M_Mo_ownParts_se : Cond.selects M_Mo_ownParts.1.cls M_Mo_ownParts.1 M_Mo_ownParts.1 ∈ ev_ws := ev_mp 80 (by decide +kernel) rfl
abbrev M_Mo_keyAt : ev_M := (⟨"AlikeStoreModel", "keyAt", "(JI)J"⟩, prog_11_method_81_code, 6, some .long)
set_option maxRecDepth 100000 in
theorem M_Mo_keyAt_ok : ev_ok M_Mo_keyAt 2 := ⟨ev_m 1367 (by decide +kernel) rfl, ev_m 9 (by decide +kernel) rfl, by decide +kernel, ⟨by decide +kernel, by decide +kernel⟩, by decide +kernel, by decide +kernel⟩
set_option maxRecDepth 100000 in
theorem M_Mo_keyAt_in : Cond.instanceMethod M_Mo_keyAt.1 ∈ ev_ws := ev_m 1366 (by decide +kernel) rfl
set_option maxRecDepth 100000 in
theorem M_Mo_keyAt_se : Cond.selects M_Mo_keyAt.1.cls M_Mo_keyAt.1 M_Mo_keyAt.1 ∈ ev_ws := ev_mp 83 (by decide +kernel) rfl
abbrev M_Mo_costOf : ev_M := (⟨"AlikeStoreModel", "costOf", "(JIIJ)I"⟩, prog_11_method_82_code, 9, some .int)
set_option maxRecDepth 100000 in
theorem M_Mo_costOf_ok : ev_ok M_Mo_costOf 4 := ⟨ev_m 1363 (by decide +kernel) rfl, ev_m 9 (by decide +kernel) rfl, by decide +kernel, ⟨by decide +kernel, by decide +kernel⟩, by decide +kernel, by decide +kernel⟩
set_option maxRecDepth 100000 in
theorem M_Mo_costOf_in : Cond.instanceMethod M_Mo_costOf.1 ∈ ev_ws := ev_m 1362 (by decide +kernel) rfl
set_option maxRecDepth 100000 in
theorem M_Mo_costOf_se : Cond.selects M_Mo_costOf.1.cls M_Mo_costOf.1 M_Mo_costOf.1 ∈ ev_ws := ev_mp 82 (by decide +kernel) rfl
abbrev M_Mo_budgetsOf : ev_M := (⟨"AlikeStoreModel", "budgetsOf", "(JIJ)I"⟩, prog_11_method_83_code, 9, some .int)
set_option maxRecDepth 100000 in
theorem M_Mo_budgetsOf_ok : ev_ok M_Mo_budgetsOf 3 := ⟨ev_m 1359 (by decide +kernel) rfl, ev_m 9 (by decide +kernel) rfl, by decide +kernel, ⟨by decide +kernel, by decide +kernel⟩, by decide +kernel, by decide +kernel⟩
set_option maxRecDepth 100000 in
theorem M_Mo_budgetsOf_in : Cond.instanceMethod M_Mo_budgetsOf.1 ∈ ev_ws := ev_m 1358 (by decide +kernel) rfl
set_option maxRecDepth 100000 in
theorem M_Mo_budgetsOf_se : Cond.selects M_Mo_budgetsOf.1.cls M_Mo_budgetsOf.1 M_Mo_budgetsOf.1 ∈ ev_ws := ev_mp 81 (by decide +kernel) rfl
abbrev M_Mo_budget : ev_M := (⟨"AlikeStoreModel", "budget", "(JII)I"⟩, prog_11_method_84_code, 5, some .int)
set_option maxRecDepth 100000 in
theorem M_Mo_budget_ok : ev_ok M_Mo_budget 3 := ⟨ev_m 1347 (by decide +kernel) rfl, ev_m 9 (by decide +kernel) rfl, by decide +kernel, ⟨by decide +kernel, by decide +kernel⟩, by decide +kernel, by decide +kernel⟩
set_option maxRecDepth 100000 in
theorem M_Mo_budget_in : Cond.instanceMethod M_Mo_budget.1 ∈ ev_ws := ev_m 1345 (by decide +kernel) rfl
set_option maxRecDepth 100000 in
theorem M_Mo_budget_se : Cond.selects M_Mo_budget.1.cls M_Mo_budget.1 M_Mo_budget.1 ∈ ev_ws := ev_m 1346 (by decide +kernel) rfl
abbrev M_Mo_cost : ev_M := (⟨"AlikeStoreModel", "cost", "(JII)I"⟩, prog_11_method_85_code, 5, some .int)
set_option maxRecDepth 100000 in
theorem M_Mo_cost_ok : ev_ok M_Mo_cost 3 := ⟨ev_m 1373 (by decide +kernel) rfl, ev_m 9 (by decide +kernel) rfl, by decide +kernel, ⟨by decide +kernel, by decide +kernel⟩, by decide +kernel, by decide +kernel⟩
set_option maxRecDepth 100000 in
theorem M_Mo_cost_in : Cond.instanceMethod M_Mo_cost.1 ∈ ev_ws := ev_m 1371 (by decide +kernel) rfl
set_option maxRecDepth 100000 in
theorem M_Mo_cost_se : Cond.selects M_Mo_cost.1.cls M_Mo_cost.1 M_Mo_cost.1 ∈ ev_ws := ev_m 1372 (by decide +kernel) rfl
abbrev M_Mo_isCandidate : ev_M := (⟨"AlikeStoreModel", "isCandidate", "(IJ)Z"⟩, prog_11_method_86_code, 6, some .boolean)
set_option maxRecDepth 100000 in
theorem M_Mo_isCandidate_ok : ev_ok M_Mo_isCandidate 2 := ⟨ev_m 1382 (by decide +kernel) rfl, ev_m 9 (by decide +kernel) rfl, by decide +kernel, ⟨by decide +kernel, by decide +kernel⟩, by decide +kernel, by decide +kernel⟩
set_option maxRecDepth 100000 in
theorem M_Mo_isCandidate_in : Cond.instanceMethod M_Mo_isCandidate.1 ∈ ev_ws := ev_m 1381 (by decide +kernel) rfl
set_option maxRecDepth 100000 in
theorem M_Mo_isCandidate_se : Cond.selects M_Mo_isCandidate.1.cls M_Mo_isCandidate.1 M_Mo_isCandidate.1 ∈ ev_ws := ev_mp 84 (by decide +kernel) rfl
abbrev M_Mo_nearSet : ev_M := (⟨"AlikeStoreModel", "nearSet", "(JI)J"⟩, prog_11_method_87_code, 7, some .long)
set_option maxRecDepth 100000 in
theorem M_Mo_nearSet_ok : ev_ok M_Mo_nearSet 2 := ⟨ev_m 1386 (by decide +kernel) rfl, ev_m 9 (by decide +kernel) rfl, by decide +kernel, ⟨by decide +kernel, by decide +kernel⟩, by decide +kernel, by decide +kernel⟩
set_option maxRecDepth 100000 in
theorem M_Mo_nearSet_in : Cond.instanceMethod M_Mo_nearSet.1 ∈ ev_ws := ev_m 1385 (by decide +kernel) rfl
set_option maxRecDepth 100000 in
theorem M_Mo_nearSet_se : Cond.selects M_Mo_nearSet.1.cls M_Mo_nearSet.1 M_Mo_nearSet.1 ∈ ev_ws := ev_mp 85 (by decide +kernel) rfl
abbrev M_Mo_near : ev_M := (⟨"AlikeStoreModel", "near", "(JII)I"⟩, prog_11_method_88_code, 12, some .int)
set_option maxRecDepth 100000 in
theorem M_Mo_near_ok : ev_ok M_Mo_near 3 := ⟨ev_m 1377 (by decide +kernel) rfl, ev_m 9 (by decide +kernel) rfl, by decide +kernel, ⟨by decide +kernel, by decide +kernel⟩, by decide +kernel, by decide +kernel⟩
set_option maxRecDepth 100000 in
theorem M_Mo_near_in : Cond.instanceMethod M_Mo_near.1 ∈ ev_ws := ev_m 1375 (by decide +kernel) rfl
set_option maxRecDepth 100000 in
theorem M_Mo_near_se : Cond.selects M_Mo_near.1.cls M_Mo_near.1 M_Mo_near.1 ∈ ev_ws := ev_m 1376 (by decide +kernel) rfl
abbrev M_Mo_ranks : ev_M := (⟨"AlikeStoreModel", "ranks", "(JJ)I"⟩, prog_11_method_89_code, 8, some .int)
set_option maxRecDepth 100000 in
theorem M_Mo_ranks_ok : ev_ok M_Mo_ranks 2 := ⟨ev_m 1394 (by decide +kernel) rfl, ev_m 9 (by decide +kernel) rfl, by decide +kernel, ⟨by decide +kernel, by decide +kernel⟩, by decide +kernel, by decide +kernel⟩
set_option maxRecDepth 100000 in
theorem M_Mo_ranks_in : Cond.instanceMethod M_Mo_ranks.1 ∈ ev_ws := ev_m 1393 (by decide +kernel) rfl
set_option maxRecDepth 100000 in
theorem M_Mo_ranks_se : Cond.selects M_Mo_ranks.1.cls M_Mo_ranks.1 M_Mo_ranks.1 ∈ ev_ws := ev_mp 86 (by decide +kernel) rfl
abbrev M_Mo_ranked : ev_M := (⟨"AlikeStoreModel", "ranked", "(JI)I"⟩, prog_11_method_90_code, 4, some .int)
set_option maxRecDepth 100000 in
theorem M_Mo_ranked_ok : ev_ok M_Mo_ranked 2 := ⟨ev_m 1390 (by decide +kernel) rfl, ev_m 9 (by decide +kernel) rfl, by decide +kernel, ⟨by decide +kernel, by decide +kernel⟩, by decide +kernel, by decide +kernel⟩
set_option maxRecDepth 100000 in
theorem M_Mo_ranked_in : Cond.instanceMethod M_Mo_ranked.1 ∈ ev_ws := ev_m 1388 (by decide +kernel) rfl
set_option maxRecDepth 100000 in
theorem M_Mo_ranked_se : Cond.selects M_Mo_ranked.1.cls M_Mo_ranked.1 M_Mo_ranked.1 ∈ ev_ws := ev_m 1389 (by decide +kernel) rfl
abbrev M_Mo_grown : ev_M := (⟨"AlikeStoreModel", "grown", "(JII)I"⟩, prog_11_method_91_code, 9, some .int)
set_option maxRecDepth 100000 in
theorem M_Mo_grown_ok : ev_ok M_Mo_grown 3 := ⟨ev_m 1398 (by decide +kernel) rfl, ev_m 9 (by decide +kernel) rfl, by decide +kernel, ⟨by decide +kernel, by decide +kernel⟩, by decide +kernel, by decide +kernel⟩
set_option maxRecDepth 100000 in
theorem M_Mo_grown_in : Cond.instanceMethod M_Mo_grown.1 ∈ ev_ws := ev_m 1396 (by decide +kernel) rfl
set_option maxRecDepth 100000 in
theorem M_Mo_grown_se : Cond.selects M_Mo_grown.1.cls M_Mo_grown.1 M_Mo_grown.1 ∈ ev_ws := ev_m 1397 (by decide +kernel) rfl
abbrev M_Mo_apart : ev_M := (⟨"AlikeStoreModel", "apart", "(JIII)I"⟩, prog_11_method_92_code, 13, some .int)
set_option maxRecDepth 100000 in
theorem M_Mo_apart_ok : ev_ok M_Mo_apart 4 := ⟨ev_m 1402 (by decide +kernel) rfl, ev_m 9 (by decide +kernel) rfl, by decide +kernel, ⟨by decide +kernel, by decide +kernel⟩, by decide +kernel, by decide +kernel⟩
set_option maxRecDepth 100000 in
theorem M_Mo_apart_in : Cond.instanceMethod M_Mo_apart.1 ∈ ev_ws := ev_m 1400 (by decide +kernel) rfl
set_option maxRecDepth 100000 in
theorem M_Mo_apart_se : Cond.selects M_Mo_apart.1.cls M_Mo_apart.1 M_Mo_apart.1 ∈ ev_ws := ev_m 1401 (by decide +kernel) rfl
abbrev M_Mo_isPair : ev_M := (⟨"AlikeStoreModel", "isPair", "(IIIJ)Z"⟩, prog_11_method_93_code, 6, some .boolean)
set_option maxRecDepth 100000 in
theorem M_Mo_isPair_ok : ev_ok M_Mo_isPair 4 := ⟨ev_m 1411 (by decide +kernel) rfl, ev_m 9 (by decide +kernel) rfl, by decide +kernel, ⟨by decide +kernel, by decide +kernel⟩, by decide +kernel, by decide +kernel⟩
set_option maxRecDepth 100000 in
theorem M_Mo_isPair_in : Cond.instanceMethod M_Mo_isPair.1 ∈ ev_ws := ev_m 1410 (by decide +kernel) rfl
set_option maxRecDepth 100000 in
theorem M_Mo_isPair_se : Cond.selects M_Mo_isPair.1.cls M_Mo_isPair.1 M_Mo_isPair.1 ∈ ev_ws := ev_mp 87 (by decide +kernel) rfl
abbrev M_Mo_pairs : ev_M := (⟨"AlikeStoreModel", "pairs", "(I)I"⟩, prog_11_method_94_code, 7, some .int)
set_option maxRecDepth 100000 in
theorem M_Mo_pairs_ok : ev_ok M_Mo_pairs 1 := ⟨ev_m 1407 (by decide +kernel) rfl, ev_m 9 (by decide +kernel) rfl, by decide +kernel, ⟨by decide +kernel, by decide +kernel⟩, by decide +kernel, by decide +kernel⟩
set_option maxRecDepth 100000 in
theorem M_Mo_pairs_in : Cond.instanceMethod M_Mo_pairs.1 ∈ ev_ws := ev_m 1405 (by decide +kernel) rfl
set_option maxRecDepth 100000 in
theorem M_Mo_pairs_se : Cond.selects M_Mo_pairs.1.cls M_Mo_pairs.1 M_Mo_pairs.1 ∈ ev_ws := ev_m 1406 (by decide +kernel) rfl
abbrev M_Mo_pair : ev_M := (⟨"AlikeStoreModel", "pair", "(III)I"⟩, prog_11_method_95_code, 9, some .int)
set_option maxRecDepth 100000 in
theorem M_Mo_pair_ok : ev_ok M_Mo_pair 3 := ⟨ev_m 1415 (by decide +kernel) rfl, ev_m 9 (by decide +kernel) rfl, by decide +kernel, ⟨by decide +kernel, by decide +kernel⟩, by decide +kernel, by decide +kernel⟩
set_option maxRecDepth 100000 in
theorem M_Mo_pair_in : Cond.instanceMethod M_Mo_pair.1 ∈ ev_ws := ev_m 1413 (by decide +kernel) rfl
set_option maxRecDepth 100000 in
theorem M_Mo_pair_se : Cond.selects M_Mo_pair.1.cls M_Mo_pair.1 M_Mo_pair.1 ∈ ev_ws := ev_m 1414 (by decide +kernel) rfl
abbrev M_Mo_joined : ev_M := (⟨"AlikeStoreModel", "joined", "(I)I"⟩, prog_11_method_96_code, 6, some .int)
set_option maxRecDepth 100000 in
theorem M_Mo_joined_ok : ev_ok M_Mo_joined 1 := ⟨ev_m 1419 (by decide +kernel) rfl, ev_m 9 (by decide +kernel) rfl, by decide +kernel, ⟨by decide +kernel, by decide +kernel⟩, by decide +kernel, by decide +kernel⟩
set_option maxRecDepth 100000 in
theorem M_Mo_joined_in : Cond.instanceMethod M_Mo_joined.1 ∈ ev_ws := ev_m 1417 (by decide +kernel) rfl
set_option maxRecDepth 100000 in
theorem M_Mo_joined_se : Cond.selects M_Mo_joined.1.cls M_Mo_joined.1 M_Mo_joined.1 ∈ ev_ws := ev_m 1418 (by decide +kernel) rfl
abbrev M_Mo_closest : ev_M := (⟨"AlikeStoreModel", "closest", "(I)I"⟩, prog_11_method_97_code, 9, some .int)
set_option maxRecDepth 100000 in
theorem M_Mo_closest_ok : ev_ok M_Mo_closest 1 := ⟨ev_m 1423 (by decide +kernel) rfl, ev_m 9 (by decide +kernel) rfl, by decide +kernel, ⟨by decide +kernel, by decide +kernel⟩, by decide +kernel, by decide +kernel⟩
set_option maxRecDepth 100000 in
theorem M_Mo_closest_in : Cond.instanceMethod M_Mo_closest.1 ∈ ev_ws := ev_m 1421 (by decide +kernel) rfl
set_option maxRecDepth 100000 in
theorem M_Mo_closest_se : Cond.selects M_Mo_closest.1.cls M_Mo_closest.1 M_Mo_closest.1 ∈ ev_ws := ev_m 1422 (by decide +kernel) rfl
abbrev M_Mo_clusterOf : ev_M := (⟨"AlikeStoreModel", "clusterOf", "(IIJ)J"⟩, prog_11_method_98_code, 11, some .long)
set_option maxRecDepth 100000 in
theorem M_Mo_clusterOf_ok : ev_ok M_Mo_clusterOf 3 := ⟨ev_m 1431 (by decide +kernel) rfl, ev_m 9 (by decide +kernel) rfl, by decide +kernel, ⟨by decide +kernel, by decide +kernel⟩, by decide +kernel, by decide +kernel⟩
set_option maxRecDepth 100000 in
theorem M_Mo_clusterOf_in : Cond.instanceMethod M_Mo_clusterOf.1 ∈ ev_ws := ev_m 1430 (by decide +kernel) rfl
set_option maxRecDepth 100000 in
theorem M_Mo_clusterOf_se : Cond.selects M_Mo_clusterOf.1.cls M_Mo_clusterOf.1 M_Mo_clusterOf.1 ∈ ev_ws := ev_mp 88 (by decide +kernel) rfl
abbrev M_Mo_leastIn : ev_M := (⟨"AlikeStoreModel", "leastIn", "(J)I"⟩, prog_11_method_99_code, 3, some .int)
set_option maxRecDepth 100000 in
theorem M_Mo_leastIn_ok : ev_ok M_Mo_leastIn 1 := ⟨ev_m 1434 (by decide +kernel) rfl, ev_m 9 (by decide +kernel) rfl, by decide +kernel, ⟨by decide +kernel, by decide +kernel⟩, by decide +kernel, by decide +kernel⟩
set_option maxRecDepth 100000 in
theorem M_Mo_leastIn_st : Cond.static M_Mo_leastIn.1 ∈ ev_ws := ev_m 1433 (by decide +kernel) rfl
abbrev M_Mo_clusters : ev_M := (⟨"AlikeStoreModel", "clusters", "(II)I"⟩, prog_11_method_100_code, 11, some .int)
set_option maxRecDepth 100000 in
theorem M_Mo_clusters_ok : ev_ok M_Mo_clusters 2 := ⟨ev_m 1427 (by decide +kernel) rfl, ev_m 9 (by decide +kernel) rfl, by decide +kernel, ⟨by decide +kernel, by decide +kernel⟩, by decide +kernel, by decide +kernel⟩
set_option maxRecDepth 100000 in
theorem M_Mo_clusters_in : Cond.instanceMethod M_Mo_clusters.1 ∈ ev_ws := ev_m 1425 (by decide +kernel) rfl
set_option maxRecDepth 100000 in
theorem M_Mo_clusters_se : Cond.selects M_Mo_clusters.1.cls M_Mo_clusters.1 M_Mo_clusters.1 ∈ ev_ws := ev_m 1426 (by decide +kernel) rfl
abbrev M_Mo_middle : ev_M := (⟨"AlikeStoreModel", "middle", "(J)I"⟩, prog_11_method_101_code, 8, some .int)
set_option maxRecDepth 100000 in
theorem M_Mo_middle_ok : ev_ok M_Mo_middle 1 := ⟨ev_m 1442 (by decide +kernel) rfl, ev_m 9 (by decide +kernel) rfl, by decide +kernel, ⟨by decide +kernel, by decide +kernel⟩, by decide +kernel, by decide +kernel⟩
set_option maxRecDepth 100000 in
theorem M_Mo_middle_in : Cond.instanceMethod M_Mo_middle.1 ∈ ev_ws := ev_m 1441 (by decide +kernel) rfl
set_option maxRecDepth 100000 in
theorem M_Mo_middle_se : Cond.selects M_Mo_middle.1.cls M_Mo_middle.1 M_Mo_middle.1 ∈ ev_ws := ev_mp 89 (by decide +kernel) rfl
abbrev M_Mo_cluster : ev_M := (⟨"AlikeStoreModel", "cluster", "(III)I"⟩, prog_11_method_102_code, 8, some .int)
set_option maxRecDepth 100000 in
theorem M_Mo_cluster_ok : ev_ok M_Mo_cluster 3 := ⟨ev_m 1438 (by decide +kernel) rfl, ev_m 9 (by decide +kernel) rfl, by decide +kernel, ⟨by decide +kernel, by decide +kernel⟩, by decide +kernel, by decide +kernel⟩
set_option maxRecDepth 100000 in
theorem M_Mo_cluster_in : Cond.instanceMethod M_Mo_cluster.1 ∈ ev_ws := ev_m 1436 (by decide +kernel) rfl
set_option maxRecDepth 100000 in
theorem M_Mo_cluster_se : Cond.selects M_Mo_cluster.1.cls M_Mo_cluster.1 M_Mo_cluster.1 ∈ ev_ws := ev_m 1437 (by decide +kernel) rfl
abbrev M_Mo_vote : ev_M := (⟨"AlikeStoreModel", "vote", "(I)J"⟩, prog_11_method_103_code, 9, some .long)
set_option maxRecDepth 100000 in
theorem M_Mo_vote_ok : ev_ok M_Mo_vote 1 := ⟨ev_m 1446 (by decide +kernel) rfl, ev_m 9 (by decide +kernel) rfl, by decide +kernel, ⟨by decide +kernel, by decide +kernel⟩, by decide +kernel, by decide +kernel⟩
set_option maxRecDepth 100000 in
theorem M_Mo_vote_in : Cond.instanceMethod M_Mo_vote.1 ∈ ev_ws := ev_m 1444 (by decide +kernel) rfl
set_option maxRecDepth 100000 in
theorem M_Mo_vote_se : Cond.selects M_Mo_vote.1.cls M_Mo_vote.1 M_Mo_vote.1 ∈ ev_ws := ev_m 1445 (by decide +kernel) rfl
abbrev M_Mo_like : ev_M := (⟨"AlikeStoreModel", "like", "(JJ)I"⟩, prog_11_method_104_code, 8, some .int)
set_option maxRecDepth 100000 in
theorem M_Mo_like_ok : ev_ok M_Mo_like 2 := ⟨ev_m 1451 (by decide +kernel) rfl, ev_m 9 (by decide +kernel) rfl, by decide +kernel, ⟨by decide +kernel, by decide +kernel⟩, by decide +kernel, by decide +kernel⟩
set_option maxRecDepth 100000 in
theorem M_Mo_like_in : Cond.instanceMethod M_Mo_like.1 ∈ ev_ws := ev_m 1449 (by decide +kernel) rfl
set_option maxRecDepth 100000 in
theorem M_Mo_like_se : Cond.selects M_Mo_like.1.cls M_Mo_like.1 M_Mo_like.1 ∈ ev_ws := ev_m 1450 (by decide +kernel) rfl
abbrev M_Mo_onesAt : ev_M := (⟨"AlikeStoreModel", "onesAt", "(IJ)I"⟩, prog_11_method_105_code, 6, some .int)
set_option maxRecDepth 100000 in
theorem M_Mo_onesAt_ok : ev_ok M_Mo_onesAt 2 := ⟨ev_m 1459 (by decide +kernel) rfl, ev_m 9 (by decide +kernel) rfl, by decide +kernel, ⟨by decide +kernel, by decide +kernel⟩, by decide +kernel, by decide +kernel⟩
set_option maxRecDepth 100000 in
theorem M_Mo_onesAt_in : Cond.instanceMethod M_Mo_onesAt.1 ∈ ev_ws := ev_m 1458 (by decide +kernel) rfl
set_option maxRecDepth 100000 in
theorem M_Mo_onesAt_se : Cond.selects M_Mo_onesAt.1.cls M_Mo_onesAt.1 M_Mo_onesAt.1 ∈ ev_ws := ev_mp 90 (by decide +kernel) rfl
abbrev M_Mo_ones_I : ev_M := (⟨"AlikeStoreModel", "ones", "(I)I"⟩, prog_11_method_106_code, 2, some .int)
set_option maxRecDepth 100000 in
theorem M_Mo_ones_I_ok : ev_ok M_Mo_ones_I 1 := ⟨ev_m 1455 (by decide +kernel) rfl, ev_m 9 (by decide +kernel) rfl, by decide +kernel, ⟨by decide +kernel, by decide +kernel⟩, by decide +kernel, by decide +kernel⟩
set_option maxRecDepth 100000 in
theorem M_Mo_ones_I_in : Cond.instanceMethod M_Mo_ones_I.1 ∈ ev_ws := ev_m 1453 (by decide +kernel) rfl
set_option maxRecDepth 100000 in
theorem M_Mo_ones_I_se : Cond.selects M_Mo_ones_I.1.cls M_Mo_ones_I.1 M_Mo_ones_I.1 ∈ ev_ws := ev_m 1454 (by decide +kernel) rfl
abbrev M_Mo_telling : ev_M := (⟨"AlikeStoreModel", "telling", "()I"⟩, prog_11_method_107_code, 7, some .int)
set_option maxRecDepth 100000 in
theorem M_Mo_telling_ok : ev_ok M_Mo_telling 0 := ⟨ev_m 1463 (by decide +kernel) rfl, ev_m 9 (by decide +kernel) rfl, by decide +kernel, ⟨by decide +kernel, by decide +kernel⟩, by decide +kernel, by decide +kernel⟩
set_option maxRecDepth 100000 in
theorem M_Mo_telling_in : Cond.instanceMethod M_Mo_telling.1 ∈ ev_ws := ev_m 1461 (by decide +kernel) rfl
set_option maxRecDepth 100000 in
theorem M_Mo_telling_se : Cond.selects M_Mo_telling.1.cls M_Mo_telling.1 M_Mo_telling.1 ∈ ev_ws := ev_m 1462 (by decide +kernel) rfl
abbrev M_Mo_alike : ev_M := (⟨"AlikeStoreModel", "alike", "(II)I"⟩, prog_11_method_108_code, 5, some .int)
set_option maxRecDepth 100000 in
theorem M_Mo_alike_ok : ev_ok M_Mo_alike 2 := ⟨ev_m 1467 (by decide +kernel) rfl, ev_m 9 (by decide +kernel) rfl, by decide +kernel, ⟨by decide +kernel, by decide +kernel⟩, by decide +kernel, by decide +kernel⟩
set_option maxRecDepth 100000 in
theorem M_Mo_alike_in : Cond.instanceMethod M_Mo_alike.1 ∈ ev_ws := ev_m 1465 (by decide +kernel) rfl
set_option maxRecDepth 100000 in
theorem M_Mo_alike_se : Cond.selects M_Mo_alike.1.cls M_Mo_alike.1 M_Mo_alike.1 ∈ ev_ws := ev_m 1466 (by decide +kernel) rfl
abbrev M_Mo_spread : ev_M := (⟨"AlikeStoreModel", "spread", "(II)I"⟩, prog_11_method_109_code, 11, some .int)
set_option maxRecDepth 100000 in
theorem M_Mo_spread_ok : ev_ok M_Mo_spread 2 := ⟨ev_m 1471 (by decide +kernel) rfl, ev_m 9 (by decide +kernel) rfl, by decide +kernel, ⟨by decide +kernel, by decide +kernel⟩, by decide +kernel, by decide +kernel⟩
set_option maxRecDepth 100000 in
theorem M_Mo_spread_in : Cond.instanceMethod M_Mo_spread.1 ∈ ev_ws := ev_m 1469 (by decide +kernel) rfl
set_option maxRecDepth 100000 in
theorem M_Mo_spread_se : Cond.selects M_Mo_spread.1.cls M_Mo_spread.1 M_Mo_spread.1 ∈ ev_ws := ev_m 1470 (by decide +kernel) rfl
abbrev M_Mo_isParted : ev_M := (⟨"AlikeStoreModel", "isParted", "(I)Z"⟩, prog_11_method_110_code, 2, some .boolean)
set_option maxRecDepth 100000 in
theorem M_Mo_isParted_ok : ev_ok M_Mo_isParted 1 := ⟨ev_m 1480 (by decide +kernel) rfl, ev_m 9 (by decide +kernel) rfl, by decide +kernel, ⟨by decide +kernel, by decide +kernel⟩, by decide +kernel, by decide +kernel⟩
set_option maxRecDepth 100000 in
theorem M_Mo_isParted_in : Cond.instanceMethod M_Mo_isParted.1 ∈ ev_ws := ev_m 1479 (by decide +kernel) rfl
set_option maxRecDepth 100000 in
theorem M_Mo_isParted_se : Cond.selects M_Mo_isParted.1.cls M_Mo_isParted.1 M_Mo_isParted.1 ∈ ev_ws := ev_mp 91 (by decide +kernel) rfl
abbrev M_Mo_partedBy : ev_M := (⟨"AlikeStoreModel", "partedBy", "(II)I"⟩, prog_11_method_111_code, 7, some .int)
set_option maxRecDepth 100000 in
theorem M_Mo_partedBy_ok : ev_ok M_Mo_partedBy 2 := ⟨ev_m 1484 (by decide +kernel) rfl, ev_m 9 (by decide +kernel) rfl, by decide +kernel, ⟨by decide +kernel, by decide +kernel⟩, by decide +kernel, by decide +kernel⟩
set_option maxRecDepth 100000 in
theorem M_Mo_partedBy_in : Cond.instanceMethod M_Mo_partedBy.1 ∈ ev_ws := ev_m 1483 (by decide +kernel) rfl
set_option maxRecDepth 100000 in
theorem M_Mo_partedBy_se : Cond.selects M_Mo_partedBy.1.cls M_Mo_partedBy.1 M_Mo_partedBy.1 ∈ ev_ws := ev_mp 92 (by decide +kernel) rfl
abbrev M_Mo_parted : ev_M := (⟨"AlikeStoreModel", "parted", "(II)I"⟩, prog_11_method_112_code, 3, some .int)
set_option maxRecDepth 100000 in
theorem M_Mo_parted_ok : ev_ok M_Mo_parted 2 := ⟨ev_m 1475 (by decide +kernel) rfl, ev_m 9 (by decide +kernel) rfl, by decide +kernel, ⟨by decide +kernel, by decide +kernel⟩, by decide +kernel, by decide +kernel⟩
set_option maxRecDepth 100000 in
theorem M_Mo_parted_in : Cond.instanceMethod M_Mo_parted.1 ∈ ev_ws := ev_m 1473 (by decide +kernel) rfl
set_option maxRecDepth 100000 in
theorem M_Mo_parted_se : Cond.selects M_Mo_parted.1.cls M_Mo_parted.1 M_Mo_parted.1 ∈ ev_ws := ev_m 1474 (by decide +kernel) rfl
abbrev M_Mo_bestPart : ev_M := (⟨"AlikeStoreModel", "bestPart", "(I)I"⟩, prog_11_method_113_code, 6, some .int)
set_option maxRecDepth 100000 in
theorem M_Mo_bestPart_ok : ev_ok M_Mo_bestPart 1 := ⟨ev_m 1488 (by decide +kernel) rfl, ev_m 9 (by decide +kernel) rfl, by decide +kernel, ⟨by decide +kernel, by decide +kernel⟩, by decide +kernel, by decide +kernel⟩
set_option maxRecDepth 100000 in
theorem M_Mo_bestPart_in : Cond.instanceMethod M_Mo_bestPart.1 ∈ ev_ws := ev_m 1486 (by decide +kernel) rfl
set_option maxRecDepth 100000 in
theorem M_Mo_bestPart_se : Cond.selects M_Mo_bestPart.1.cls M_Mo_bestPart.1 M_Mo_bestPart.1 ∈ ev_ws := ev_m 1487 (by decide +kernel) rfl
abbrev M_Bu_init : ev_M := (⟨"AlikeStore$Budgets", "<init>", "()V"⟩, prog_2_method_1_code, 1, none)
set_option maxRecDepth 100000 in
theorem M_Bu_init_ok : ev_ok M_Bu_init 0 := ⟨ev_m 194 (by decide +kernel) rfl, ev_m 7 (by decide +kernel) rfl, by decide +kernel, ⟨by decide +kernel, by decide +kernel⟩, by decide +kernel, by decide +kernel⟩
set_option maxRecDepth 100000 in
theorem M_Bu_init_in : Cond.instanceMethod M_Bu_init.1 ∈ ev_ws := ev_m 193 (by decide +kernel) rfl
abbrev M_Bu_partLike : ev_M := (⟨"AlikeStore$Budgets", "partLike", "(LAlikeStore$Store;)V"⟩, prog_2_method_2_code, 2, none)
set_option maxRecDepth 100000 in
theorem M_Bu_partLike_ok : ev_ok M_Bu_partLike 1 := ⟨ev_m 755 (by decide +kernel) rfl, ev_m 7 (by decide +kernel) rfl, by decide +kernel, ⟨by decide +kernel, by decide +kernel⟩, by decide +kernel, by decide +kernel⟩
set_option maxRecDepth 100000 in
theorem M_Bu_partLike_in : Cond.instanceMethod M_Bu_partLike.1 ∈ ev_ws := ev_m 753 (by decide +kernel) rfl
set_option maxRecDepth 100000 in
theorem M_Bu_partLike_se : Cond.selects M_Bu_partLike.1.cls M_Bu_partLike.1 M_Bu_partLike.1 ∈ ev_ws := ev_m 754 (by decide +kernel) rfl
abbrev M_Bu_partInTwo : ev_M := (⟨"AlikeStore$Budgets", "partInTwo", "(II)V"⟩, prog_2_method_3_code, 3, none)
set_option maxRecDepth 100000 in
theorem M_Bu_partInTwo_ok : ev_ok M_Bu_partInTwo 2 := ⟨ev_m 948 (by decide +kernel) rfl, ev_m 7 (by decide +kernel) rfl, by decide +kernel, ⟨by decide +kernel, by decide +kernel⟩, by decide +kernel, by decide +kernel⟩
set_option maxRecDepth 100000 in
theorem M_Bu_partInTwo_in : Cond.instanceMethod M_Bu_partInTwo.1 ∈ ev_ws := ev_m 946 (by decide +kernel) rfl
set_option maxRecDepth 100000 in
theorem M_Bu_partInTwo_se : Cond.selects M_Bu_partInTwo.1.cls M_Bu_partInTwo.1 M_Bu_partInTwo.1 ∈ ev_ws := ev_m 947 (by decide +kernel) rfl
abbrev M_Bu_plan : ev_M := (⟨"AlikeStore$Budgets", "plan", "([JIJI)I"⟩, prog_2_method_4_code, 6, some .int)
set_option maxRecDepth 100000 in
theorem M_Bu_plan_ok : ev_ok M_Bu_plan 4 := ⟨ev_m 760 (by decide +kernel) rfl, ev_m 7 (by decide +kernel) rfl, by decide +kernel, ⟨by decide +kernel, by decide +kernel⟩, by decide +kernel, by decide +kernel⟩
set_option maxRecDepth 100000 in
theorem M_Bu_plan_in : Cond.instanceMethod M_Bu_plan.1 ∈ ev_ws := ev_m 758 (by decide +kernel) rfl
set_option maxRecDepth 100000 in
theorem M_Bu_plan_se : Cond.selects M_Bu_plan.1.cls M_Bu_plan.1 M_Bu_plan.1 ∈ ev_ws := ev_m 759 (by decide +kernel) rfl
abbrev M_Bu_weigh : ev_M := (⟨"AlikeStore$Budgets", "weigh", "([JIJ)V"⟩, prog_2_method_5_code, 11, none)
set_option maxRecDepth 100000 in
theorem M_Bu_weigh_ok : ev_ok M_Bu_weigh 3 := ⟨ev_m 764 (by decide +kernel) rfl, ev_m 7 (by decide +kernel) rfl, by decide +kernel, ⟨by decide +kernel, by decide +kernel⟩, by decide +kernel, by decide +kernel⟩
set_option maxRecDepth 100000 in
theorem M_Bu_weigh_in : Cond.instanceMethod M_Bu_weigh.1 ∈ ev_ws := ev_m 762 (by decide +kernel) rfl
set_option maxRecDepth 100000 in
theorem M_Bu_weigh_se : Cond.selects M_Bu_weigh.1.cls M_Bu_weigh.1 M_Bu_weigh.1 ∈ ev_ws := ev_m 763 (by decide +kernel) rfl
abbrev M_Bu_tabulate : ev_M := (⟨"AlikeStore$Budgets", "tabulate", "(I)V"⟩, prog_2_method_6_code, 5, none)
set_option maxRecDepth 100000 in
theorem M_Bu_tabulate_ok : ev_ok M_Bu_tabulate 1 := ⟨ev_m 775 (by decide +kernel) rfl, ev_m 7 (by decide +kernel) rfl, by decide +kernel, ⟨by decide +kernel, by decide +kernel⟩, by decide +kernel, by decide +kernel⟩
set_option maxRecDepth 100000 in
theorem M_Bu_tabulate_in : Cond.instanceMethod M_Bu_tabulate.1 ∈ ev_ws := ev_m 773 (by decide +kernel) rfl
set_option maxRecDepth 100000 in
theorem M_Bu_tabulate_se : Cond.selects M_Bu_tabulate.1.cls M_Bu_tabulate.1 M_Bu_tabulate.1 ∈ ev_ws := ev_m 774 (by decide +kernel) rfl
abbrev M_Bu_choose : ev_M := (⟨"AlikeStore$Budgets", "choose", "(I)I"⟩, prog_2_method_7_code, 6, some .int)
set_option maxRecDepth 100000 in
theorem M_Bu_choose_ok : ev_ok M_Bu_choose 1 := ⟨ev_m 789 (by decide +kernel) rfl, ev_m 7 (by decide +kernel) rfl, by decide +kernel, ⟨by decide +kernel, by decide +kernel⟩, by decide +kernel, by decide +kernel⟩
set_option maxRecDepth 100000 in
theorem M_Bu_choose_in : Cond.instanceMethod M_Bu_choose.1 ∈ ev_ws := ev_m 787 (by decide +kernel) rfl
set_option maxRecDepth 100000 in
theorem M_Bu_choose_se : Cond.selects M_Bu_choose.1.cls M_Bu_choose.1 M_Bu_choose.1 ∈ ev_ws := ev_m 788 (by decide +kernel) rfl
abbrev M_Bu_cheapestShare : ev_M := (⟨"AlikeStore$Budgets", "cheapestShare", "(II)I"⟩, prog_2_method_8_code, 7, some .int)
set_option maxRecDepth 100000 in
theorem M_Bu_cheapestShare_ok : ev_ok M_Bu_cheapestShare 2 := ⟨ev_m 780 (by decide +kernel) rfl, ev_m 7 (by decide +kernel) rfl, by decide +kernel, ⟨by decide +kernel, by decide +kernel⟩, by decide +kernel, by decide +kernel⟩
set_option maxRecDepth 100000 in
theorem M_Bu_cheapestShare_in : Cond.instanceMethod M_Bu_cheapestShare.1 ∈ ev_ws := ev_m 779 (by decide +kernel) rfl
set_option maxRecDepth 100000 in
theorem M_Bu_cheapestShare_se : Cond.selects M_Bu_cheapestShare.1.cls M_Bu_cheapestShare.1 M_Bu_cheapestShare.1 ∈ ev_ws := ev_mp 24 (by decide +kernel) rfl
abbrev M_Bu_costWith : ev_M := (⟨"AlikeStore$Budgets", "costWith", "(III)I"⟩, prog_2_method_9_code, 4, some .int)
set_option maxRecDepth 100000 in
theorem M_Bu_costWith_ok : ev_ok M_Bu_costWith 3 := ⟨ev_m 784 (by decide +kernel) rfl, ev_m 7 (by decide +kernel) rfl, by decide +kernel, ⟨by decide +kernel, by decide +kernel⟩, by decide +kernel, by decide +kernel⟩
set_option maxRecDepth 100000 in
theorem M_Bu_costWith_in : Cond.instanceMethod M_Bu_costWith.1 ∈ ev_ws := ev_m 783 (by decide +kernel) rfl
set_option maxRecDepth 100000 in
theorem M_Bu_costWith_se : Cond.selects M_Bu_costWith.1.cls M_Bu_costWith.1 M_Bu_costWith.1 ∈ ev_ws := ev_mp 25 (by decide +kernel) rfl
abbrev M_Bu_candidates : ev_M := (⟨"AlikeStore$Budgets", "candidates", "([JIJ)I"⟩, prog_2_method_10_code, 11, some .int)
set_option maxRecDepth 100000 in
theorem M_Bu_candidates_ok : ev_ok M_Bu_candidates 3 := ⟨ev_m 802 (by decide +kernel) rfl, ev_m 7 (by decide +kernel) rfl, by decide +kernel, ⟨by decide +kernel, by decide +kernel⟩, by decide +kernel, by decide +kernel⟩
set_option maxRecDepth 100000 in
theorem M_Bu_candidates_in : Cond.instanceMethod M_Bu_candidates.1 ∈ ev_ws := ev_m 800 (by decide +kernel) rfl
set_option maxRecDepth 100000 in
theorem M_Bu_candidates_se : Cond.selects M_Bu_candidates.1.cls M_Bu_candidates.1 M_Bu_candidates.1 ∈ ev_ws := ev_m 801 (by decide +kernel) rfl
abbrev M_Fi_init : ev_M := (⟨"AlikeStore$Filter", "<init>", "(LAlikeStore$Steps;)V"⟩, prog_3_method_1_code, 3, none)
set_option maxRecDepth 100000 in
theorem M_Fi_init_ok : ev_ok M_Fi_init 1 := ⟨ev_m 493 (by decide +kernel) rfl, ev_m 16 (by decide +kernel) rfl, by decide +kernel, ⟨by decide +kernel, by decide +kernel⟩, by decide +kernel, by decide +kernel⟩
set_option maxRecDepth 100000 in
theorem M_Fi_init_in : Cond.instanceMethod M_Fi_init.1 ∈ ev_ws := ev_m 492 (by decide +kernel) rfl
abbrev M_Fi_holds : ev_M := (⟨"AlikeStore$Filter", "holds", "(LAlikeStore$Store;I)Z"⟩, prog_3_method_2_code, 7, some .boolean)
set_option maxRecDepth 100000 in
theorem M_Fi_holds_ok : ev_ok M_Fi_holds 2 := ⟨ev_m 570 (by decide +kernel) rfl, ev_m 16 (by decide +kernel) rfl, by decide +kernel, ⟨by decide +kernel, by decide +kernel⟩, by decide +kernel, by decide +kernel⟩
set_option maxRecDepth 100000 in
theorem M_Fi_holds_in : Cond.instanceMethod M_Fi_holds.1 ∈ ev_ws := ev_m 568 (by decide +kernel) rfl
set_option maxRecDepth 100000 in
theorem M_Fi_holds_se : Cond.selects M_Fi_holds.1.cls M_Fi_holds.1 M_Fi_holds.1 ∈ ev_ws := ev_m 569 (by decide +kernel) rfl
abbrev M_Fi_holdsFact : ev_M := (⟨"AlikeStore$Filter", "holdsFact", "(LAlikeStore$Store;II)Z"⟩, prog_3_method_3_code, 5, some .boolean)
set_option maxRecDepth 100000 in
theorem M_Fi_holdsFact_ok : ev_ok M_Fi_holdsFact 3 := ⟨ev_m 574 (by decide +kernel) rfl, ev_m 16 (by decide +kernel) rfl, by decide +kernel, ⟨by decide +kernel, by decide +kernel⟩, by decide +kernel, by decide +kernel⟩
set_option maxRecDepth 100000 in
theorem M_Fi_holdsFact_in : Cond.instanceMethod M_Fi_holdsFact.1 ∈ ev_ws := ev_m 573 (by decide +kernel) rfl
set_option maxRecDepth 100000 in
theorem M_Fi_holdsFact_se : Cond.selects M_Fi_holdsFact.1.cls M_Fi_holdsFact.1 M_Fi_holdsFact.1 ∈ ev_ws := ev_mp 16 (by decide +kernel) rfl
abbrev M_Fi_valueOf : ev_M := (⟨"AlikeStore$Filter", "valueOf", "(LAlikeStore$Store;II)I"⟩, prog_3_method_4_code, 5, some .int)
set_option maxRecDepth 100000 in
theorem M_Fi_valueOf_ok : ev_ok M_Fi_valueOf 3 := ⟨ev_m 578 (by decide +kernel) rfl, ev_m 16 (by decide +kernel) rfl, by decide +kernel, ⟨by decide +kernel, by decide +kernel⟩, by decide +kernel, by decide +kernel⟩
set_option maxRecDepth 100000 in
theorem M_Fi_valueOf_in : Cond.instanceMethod M_Fi_valueOf.1 ∈ ev_ws := ev_m 577 (by decide +kernel) rfl
set_option maxRecDepth 100000 in
theorem M_Fi_valueOf_se : Cond.selects M_Fi_valueOf.1.cls M_Fi_valueOf.1 M_Fi_valueOf.1 ∈ ev_ws := ev_mp 17 (by decide +kernel) rfl
abbrev M_Hi_init : ev_M := (⟨"AlikeStore$History", "<init>", "()V"⟩, prog_4_method_1_code, 2, none)
set_option maxRecDepth 100000 in
theorem M_Hi_init_ok : ev_ok M_Hi_init 0 := ⟨ev_m 167 (by decide +kernel) rfl, ev_m 6 (by decide +kernel) rfl, by decide +kernel, ⟨by decide +kernel, by decide +kernel⟩, by decide +kernel, by decide +kernel⟩
set_option maxRecDepth 100000 in
theorem M_Hi_init_in : Cond.instanceMethod M_Hi_init.1 ∈ ev_ws := ev_m 166 (by decide +kernel) rfl
abbrev M_Hi_keep : ev_M := (⟨"AlikeStore$History", "keep", "(LAlikeStore$Store;)V"⟩, prog_4_method_2_code, 2, none)
set_option maxRecDepth 100000 in
theorem M_Hi_keep_ok : ev_ok M_Hi_keep 1 := ⟨ev_m 540 (by decide +kernel) rfl, ev_m 6 (by decide +kernel) rfl, by decide +kernel, ⟨by decide +kernel, by decide +kernel⟩, by decide +kernel, by decide +kernel⟩
set_option maxRecDepth 100000 in
theorem M_Hi_keep_in : Cond.instanceMethod M_Hi_keep.1 ∈ ev_ws := ev_m 538 (by decide +kernel) rfl
set_option maxRecDepth 100000 in
theorem M_Hi_keep_se : Cond.selects M_Hi_keep.1.cls M_Hi_keep.1 M_Hi_keep.1 ∈ ev_ws := ev_m 539 (by decide +kernel) rfl
abbrev M_Hi_takeBackAct : ev_M := (⟨"AlikeStore$History", "takeBackAct", "(LAlikeStore$Store;)V"⟩, prog_4_method_3_code, 2, none)
set_option maxRecDepth 100000 in
theorem M_Hi_takeBackAct_ok : ev_ok M_Hi_takeBackAct 1 := ⟨ev_m 727 (by decide +kernel) rfl, ev_m 6 (by decide +kernel) rfl, by decide +kernel, ⟨by decide +kernel, by decide +kernel⟩, by decide +kernel, by decide +kernel⟩
set_option maxRecDepth 100000 in
theorem M_Hi_takeBackAct_in : Cond.instanceMethod M_Hi_takeBackAct.1 ∈ ev_ws := ev_m 725 (by decide +kernel) rfl
set_option maxRecDepth 100000 in
theorem M_Hi_takeBackAct_se : Cond.selects M_Hi_takeBackAct.1.cls M_Hi_takeBackAct.1 M_Hi_takeBackAct.1 ∈ ev_ws := ev_m 726 (by decide +kernel) rfl
abbrev M_Hi_putMark : ev_M := (⟨"AlikeStore$History", "putMark", "(LAlikeStore$Store;)V"⟩, prog_4_method_4_code, 2, none)
set_option maxRecDepth 100000 in
theorem M_Hi_putMark_ok : ev_ok M_Hi_putMark 1 := ⟨ev_m 735 (by decide +kernel) rfl, ev_m 6 (by decide +kernel) rfl, by decide +kernel, ⟨by decide +kernel, by decide +kernel⟩, by decide +kernel, by decide +kernel⟩
set_option maxRecDepth 100000 in
theorem M_Hi_putMark_in : Cond.instanceMethod M_Hi_putMark.1 ∈ ev_ws := ev_m 733 (by decide +kernel) rfl
set_option maxRecDepth 100000 in
theorem M_Hi_putMark_se : Cond.selects M_Hi_putMark.1.cls M_Hi_putMark.1 M_Hi_putMark.1 ∈ ev_ws := ev_m 734 (by decide +kernel) rfl
abbrev M_Hi_takeBackMark : ev_M := (⟨"AlikeStore$History", "takeBackMark", "(LAlikeStore$Store;)V"⟩, prog_4_method_5_code, 2, none)
set_option maxRecDepth 100000 in
theorem M_Hi_takeBackMark_ok : ev_ok M_Hi_takeBackMark 1 := ⟨ev_m 743 (by decide +kernel) rfl, ev_m 6 (by decide +kernel) rfl, by decide +kernel, ⟨by decide +kernel, by decide +kernel⟩, by decide +kernel, by decide +kernel⟩
set_option maxRecDepth 100000 in
theorem M_Hi_takeBackMark_in : Cond.instanceMethod M_Hi_takeBackMark.1 ∈ ev_ws := ev_m 741 (by decide +kernel) rfl
set_option maxRecDepth 100000 in
theorem M_Hi_takeBackMark_se : Cond.selects M_Hi_takeBackMark.1.cls M_Hi_takeBackMark.1 M_Hi_takeBackMark.1 ∈ ev_ws := ev_m 742 (by decide +kernel) rfl
abbrev M_Ra_init : ev_M := (⟨"AlikeStore$Ranking", "<init>", "()V"⟩, prog_5_method_1_code, 1, none)
set_option maxRecDepth 100000 in
theorem M_Ra_init_ok : ev_ok M_Ra_init 0 := ⟨ev_m 220 (by decide +kernel) rfl, ev_m 8 (by decide +kernel) rfl, by decide +kernel, ⟨by decide +kernel, by decide +kernel⟩, by decide +kernel, by decide +kernel⟩
set_option maxRecDepth 100000 in
theorem M_Ra_init_in : Cond.instanceMethod M_Ra_init.1 ∈ ev_ws := ev_m 219 (by decide +kernel) rfl
abbrev M_Ra_rank : ev_M := (⟨"AlikeStore$Ranking", "rank", "([JIJ)V"⟩, prog_5_method_2_code, 6, none)
set_option maxRecDepth 100000 in
theorem M_Ra_rank_ok : ev_ok M_Ra_rank 3 := ⟨ev_m 816 (by decide +kernel) rfl, ev_m 8 (by decide +kernel) rfl, by decide +kernel, ⟨by decide +kernel, by decide +kernel⟩, by decide +kernel, by decide +kernel⟩
set_option maxRecDepth 100000 in
theorem M_Ra_rank_in : Cond.instanceMethod M_Ra_rank.1 ∈ ev_ws := ev_m 814 (by decide +kernel) rfl
set_option maxRecDepth 100000 in
theorem M_Ra_rank_se : Cond.selects M_Ra_rank.1.cls M_Ra_rank.1 M_Ra_rank.1 ∈ ev_ws := ev_m 815 (by decide +kernel) rfl
abbrev M_Ra_insert : ev_M := (⟨"AlikeStore$Ranking", "insert", "(II)V"⟩, prog_5_method_3_code, 4, none)
set_option maxRecDepth 100000 in
theorem M_Ra_insert_ok : ev_ok M_Ra_insert 2 := ⟨ev_m 822 (by decide +kernel) rfl, ev_m 8 (by decide +kernel) rfl, by decide +kernel, ⟨by decide +kernel, by decide +kernel⟩, by decide +kernel, by decide +kernel⟩
set_option maxRecDepth 100000 in
theorem M_Ra_insert_in : Cond.instanceMethod M_Ra_insert.1 ∈ ev_ws := ev_m 821 (by decide +kernel) rfl
set_option maxRecDepth 100000 in
theorem M_Ra_insert_se : Cond.selects M_Ra_insert.1.cls M_Ra_insert.1 M_Ra_insert.1 ∈ ev_ws := ev_mp 26 (by decide +kernel) rfl
abbrev M_Ra_takenApart : ev_M := (⟨"AlikeStore$Ranking", "takenApart", "([JI)I"⟩, prog_5_method_4_code, 7, some .int)
set_option maxRecDepth 100000 in
theorem M_Ra_takenApart_ok : ev_ok M_Ra_takenApart 2 := ⟨ev_m 836 (by decide +kernel) rfl, ev_m 8 (by decide +kernel) rfl, by decide +kernel, ⟨by decide +kernel, by decide +kernel⟩, by decide +kernel, by decide +kernel⟩
set_option maxRecDepth 100000 in
theorem M_Ra_takenApart_in : Cond.instanceMethod M_Ra_takenApart.1 ∈ ev_ws := ev_m 834 (by decide +kernel) rfl
set_option maxRecDepth 100000 in
theorem M_Ra_takenApart_se : Cond.selects M_Ra_takenApart.1.cls M_Ra_takenApart.1 M_Ra_takenApart.1 ∈ ev_ws := ev_m 835 (by decide +kernel) rfl
abbrev M_Re_init : ev_M := (⟨"AlikeStore$Reader", "<init>", "()V"⟩, prog_6_method_1_code, 1, none)
set_option maxRecDepth 100000 in
theorem M_Re_init_ok : ev_ok M_Re_init 0 := ⟨ev_m 84 (by decide +kernel) rfl, ev_m 3 (by decide +kernel) rfl, by decide +kernel, ⟨by decide +kernel, by decide +kernel⟩, by decide +kernel, by decide +kernel⟩
set_option maxRecDepth 100000 in
theorem M_Re_init_in : Cond.instanceMethod M_Re_init.1 ∈ ev_ws := ev_m 83 (by decide +kernel) rfl
abbrev M_Re_read : ev_M := (⟨"AlikeStore$Reader", "read", "(I)I"⟩, prog_6_method_2_code, 4, some .int)
set_option maxRecDepth 100000 in
theorem M_Re_read_ok : ev_ok M_Re_read 1 := ⟨ev_m 285 (by decide +kernel) rfl, ev_m 3 (by decide +kernel) rfl, by decide +kernel, ⟨by decide +kernel, by decide +kernel⟩, by decide +kernel, by decide +kernel⟩
set_option maxRecDepth 100000 in
theorem M_Re_read_in : Cond.instanceMethod M_Re_read.1 ∈ ev_ws := ev_m 283 (by decide +kernel) rfl
set_option maxRecDepth 100000 in
theorem M_Re_read_se : Cond.selects M_Re_read.1.cls M_Re_read.1 M_Re_read.1 ∈ ev_ws := ev_m 284 (by decide +kernel) rfl
abbrev M_Re_place : ev_M := (⟨"AlikeStore$Reader", "place", "()I"⟩, prog_6_method_3_code, 1, some .int)
set_option maxRecDepth 100000 in
theorem M_Re_place_ok : ev_ok M_Re_place 0 := ⟨ev_m 536 (by decide +kernel) rfl, ev_m 3 (by decide +kernel) rfl, by decide +kernel, ⟨by decide +kernel, by decide +kernel⟩, by decide +kernel, by decide +kernel⟩
set_option maxRecDepth 100000 in
theorem M_Re_place_in : Cond.instanceMethod M_Re_place.1 ∈ ev_ws := ev_m 534 (by decide +kernel) rfl
set_option maxRecDepth 100000 in
theorem M_Re_place_se : Cond.selects M_Re_place.1.cls M_Re_place.1 M_Re_place.1 ∈ ev_ws := ev_m 535 (by decide +kernel) rfl
abbrev M_Re_next : ev_M := (⟨"AlikeStore$Reader", "next", "()V"⟩, prog_6_method_4_code, 8, none)
set_option maxRecDepth 100000 in
theorem M_Re_next_ok : ev_ok M_Re_next 0 := ⟨ev_m 296 (by decide +kernel) rfl, ev_m 3 (by decide +kernel) rfl, by decide +kernel, ⟨by decide +kernel, by decide +kernel⟩, by decide +kernel, by decide +kernel⟩
set_option maxRecDepth 100000 in
theorem M_Re_next_in : Cond.instanceMethod M_Re_next.1 ∈ ev_ws := ev_m 295 (by decide +kernel) rfl
set_option maxRecDepth 100000 in
theorem M_Re_next_se : Cond.selects M_Re_next.1.cls M_Re_next.1 M_Re_next.1 ∈ ev_ws := ev_mp 1 (by decide +kernel) rfl
abbrev M_Re_isWord : ev_M := (⟨"AlikeStore$Reader", "isWord", "(Ljava/lang/String;)Z"⟩, prog_6_method_5_code, 3, some .boolean)
set_option maxRecDepth 100000 in
theorem M_Re_isWord_ok : ev_ok M_Re_isWord 1 := ⟨ev_m 386 (by decide +kernel) rfl, ev_m 3 (by decide +kernel) rfl, by decide +kernel, ⟨by decide +kernel, by decide +kernel⟩, by decide +kernel, by decide +kernel⟩
set_option maxRecDepth 100000 in
theorem M_Re_isWord_in : Cond.instanceMethod M_Re_isWord.1 ∈ ev_ws := ev_m 385 (by decide +kernel) rfl
set_option maxRecDepth 100000 in
theorem M_Re_isWord_se : Cond.selects M_Re_isWord.1.cls M_Re_isWord.1 M_Re_isWord.1 ∈ ev_ws := ev_mp 2 (by decide +kernel) rfl
abbrev M_Re_sign : ev_M := (⟨"AlikeStore$Reader", "sign", "(I)I"⟩, prog_6_method_6_code, 2, some .int)
set_option maxRecDepth 100000 in
theorem M_Re_sign_ok : ev_ok M_Re_sign 1 := ⟨ev_m 419 (by decide +kernel) rfl, ev_m 3 (by decide +kernel) rfl, by decide +kernel, ⟨by decide +kernel, by decide +kernel⟩, by decide +kernel, by decide +kernel⟩
set_option maxRecDepth 100000 in
theorem M_Re_sign_in : Cond.instanceMethod M_Re_sign.1 ∈ ev_ws := ev_m 418 (by decide +kernel) rfl
set_option maxRecDepth 100000 in
theorem M_Re_sign_se : Cond.selects M_Re_sign.1.cls M_Re_sign.1 M_Re_sign.1 ∈ ev_ws := ev_mp 5 (by decide +kernel) rfl
abbrev M_Re_number : ev_M := (⟨"AlikeStore$Reader", "number", "(II)I"⟩, prog_6_method_7_code, 5, some .int)
set_option maxRecDepth 100000 in
theorem M_Re_number_ok : ev_ok M_Re_number 2 := ⟨ev_m 415 (by decide +kernel) rfl, ev_m 3 (by decide +kernel) rfl, by decide +kernel, ⟨by decide +kernel, by decide +kernel⟩, by decide +kernel, by decide +kernel⟩
set_option maxRecDepth 100000 in
theorem M_Re_number_in : Cond.instanceMethod M_Re_number.1 ∈ ev_ws := ev_m 414 (by decide +kernel) rfl
set_option maxRecDepth 100000 in
theorem M_Re_number_se : Cond.selects M_Re_number.1.cls M_Re_number.1 M_Re_number.1 ∈ ev_ws := ev_mp 4 (by decide +kernel) rfl
abbrev M_Re_binary : ev_M := (⟨"AlikeStore$Reader", "binary", "()J"⟩, prog_6_method_8_code, 4, some .long)
set_option maxRecDepth 100000 in
theorem M_Re_binary_ok : ev_ok M_Re_binary 0 := ⟨ev_m 434 (by decide +kernel) rfl, ev_m 3 (by decide +kernel) rfl, by decide +kernel, ⟨by decide +kernel, by decide +kernel⟩, by decide +kernel, by decide +kernel⟩
set_option maxRecDepth 100000 in
theorem M_Re_binary_in : Cond.instanceMethod M_Re_binary.1 ∈ ev_ws := ev_m 433 (by decide +kernel) rfl
set_option maxRecDepth 100000 in
theorem M_Re_binary_se : Cond.selects M_Re_binary.1.cls M_Re_binary.1 M_Re_binary.1 ∈ ev_ws := ev_mp 8 (by decide +kernel) rfl
abbrev M_Re_readBits : ev_M := (⟨"AlikeStore$Reader", "readBits", "()I"⟩, prog_6_method_9_code, 2, some .int)
set_option maxRecDepth 100000 in
theorem M_Re_readBits_ok : ev_ok M_Re_readBits 0 := ⟨ev_m 411 (by decide +kernel) rfl, ev_m 3 (by decide +kernel) rfl, by decide +kernel, ⟨by decide +kernel, by decide +kernel⟩, by decide +kernel, by decide +kernel⟩
set_option maxRecDepth 100000 in
theorem M_Re_readBits_in : Cond.instanceMethod M_Re_readBits.1 ∈ ev_ws := ev_m 410 (by decide +kernel) rfl
set_option maxRecDepth 100000 in
theorem M_Re_readBits_se : Cond.selects M_Re_readBits.1.cls M_Re_readBits.1 M_Re_readBits.1 ∈ ev_ws := ev_mp 3 (by decide +kernel) rfl
abbrev M_Re_readParts : ev_M := (⟨"AlikeStore$Reader", "readParts", "()I"⟩, prog_6_method_10_code, 4, some .int)
set_option maxRecDepth 100000 in
theorem M_Re_readParts_ok : ev_ok M_Re_readParts 0 := ⟨ev_m 425 (by decide +kernel) rfl, ev_m 3 (by decide +kernel) rfl, by decide +kernel, ⟨by decide +kernel, by decide +kernel⟩, by decide +kernel, by decide +kernel⟩
set_option maxRecDepth 100000 in
theorem M_Re_readParts_in : Cond.instanceMethod M_Re_readParts.1 ∈ ev_ws := ev_m 424 (by decide +kernel) rfl
set_option maxRecDepth 100000 in
theorem M_Re_readParts_se : Cond.selects M_Re_readParts.1.cls M_Re_readParts.1 M_Re_readParts.1 ∈ ev_ws := ev_mp 6 (by decide +kernel) rfl
abbrev M_Re_readCode : ev_M := (⟨"AlikeStore$Reader", "readCode", "()I"⟩, prog_6_method_11_code, 4, some .int)
set_option maxRecDepth 100000 in
theorem M_Re_readCode_ok : ev_ok M_Re_readCode 0 := ⟨ev_m 430 (by decide +kernel) rfl, ev_m 3 (by decide +kernel) rfl, by decide +kernel, ⟨by decide +kernel, by decide +kernel⟩, by decide +kernel, by decide +kernel⟩
set_option maxRecDepth 100000 in
theorem M_Re_readCode_in : Cond.instanceMethod M_Re_readCode.1 ∈ ev_ws := ev_m 429 (by decide +kernel) rfl
set_option maxRecDepth 100000 in
theorem M_Re_readCode_se : Cond.selects M_Re_readCode.1.cls M_Re_readCode.1 M_Re_readCode.1 ∈ ev_ws := ev_mp 7 (by decide +kernel) rfl
abbrev M_Re_readFilter : ev_M := (⟨"AlikeStore$Reader", "readFilter", "()I"⟩, prog_6_method_12_code, 2, some .int)
set_option maxRecDepth 100000 in
theorem M_Re_readFilter_ok : ev_ok M_Re_readFilter 0 := ⟨ev_m 450 (by decide +kernel) rfl, ev_m 3 (by decide +kernel) rfl, by decide +kernel, ⟨by decide +kernel, by decide +kernel⟩, by decide +kernel, by decide +kernel⟩
set_option maxRecDepth 100000 in
theorem M_Re_readFilter_in : Cond.instanceMethod M_Re_readFilter.1 ∈ ev_ws := ev_m 449 (by decide +kernel) rfl
set_option maxRecDepth 100000 in
theorem M_Re_readFilter_se : Cond.selects M_Re_readFilter.1.cls M_Re_readFilter.1 M_Re_readFilter.1 ∈ ev_ws := ev_mp 9 (by decide +kernel) rfl
abbrev M_Re_readTest : ev_M := (⟨"AlikeStore$Reader", "readTest", "(I)I"⟩, prog_6_method_13_code, 4, some .int)
set_option maxRecDepth 100000 in
theorem M_Re_readTest_ok : ev_ok M_Re_readTest 1 := ⟨ev_m 454 (by decide +kernel) rfl, ev_m 3 (by decide +kernel) rfl, by decide +kernel, ⟨by decide +kernel, by decide +kernel⟩, by decide +kernel, by decide +kernel⟩
set_option maxRecDepth 100000 in
theorem M_Re_readTest_in : Cond.instanceMethod M_Re_readTest.1 ∈ ev_ws := ev_m 453 (by decide +kernel) rfl
set_option maxRecDepth 100000 in
theorem M_Re_readTest_se : Cond.selects M_Re_readTest.1.cls M_Re_readTest.1 M_Re_readTest.1 ∈ ev_ws := ev_mp 10 (by decide +kernel) rfl
abbrev M_Re_readSide : ev_M := (⟨"AlikeStore$Reader", "readSide", "(I)I"⟩, prog_6_method_14_code, 4, some .int)
set_option maxRecDepth 100000 in
theorem M_Re_readSide_ok : ev_ok M_Re_readSide 1 := ⟨ev_m 458 (by decide +kernel) rfl, ev_m 3 (by decide +kernel) rfl, by decide +kernel, ⟨by decide +kernel, by decide +kernel⟩, by decide +kernel, by decide +kernel⟩
set_option maxRecDepth 100000 in
theorem M_Re_readSide_in : Cond.instanceMethod M_Re_readSide.1 ∈ ev_ws := ev_m 457 (by decide +kernel) rfl
set_option maxRecDepth 100000 in
theorem M_Re_readSide_se : Cond.selects M_Re_readSide.1.cls M_Re_readSide.1 M_Re_readSide.1 ∈ ev_ws := ev_mp 11 (by decide +kernel) rfl
abbrev M_Re_readFact : ev_M := (⟨"AlikeStore$Reader", "readFact", "(I)I"⟩, prog_6_method_15_code, 4, some .int)
set_option maxRecDepth 100000 in
theorem M_Re_readFact_ok : ev_ok M_Re_readFact 1 := ⟨ev_m 462 (by decide +kernel) rfl, ev_m 3 (by decide +kernel) rfl, by decide +kernel, ⟨by decide +kernel, by decide +kernel⟩, by decide +kernel, by decide +kernel⟩
set_option maxRecDepth 100000 in
theorem M_Re_readFact_in : Cond.instanceMethod M_Re_readFact.1 ∈ ev_ws := ev_m 461 (by decide +kernel) rfl
set_option maxRecDepth 100000 in
theorem M_Re_readFact_se : Cond.selects M_Re_readFact.1.cls M_Re_readFact.1 M_Re_readFact.1 ∈ ev_ws := ev_mp 12 (by decide +kernel) rfl
abbrev M_Re_readComparison : ev_M := (⟨"AlikeStore$Reader", "readComparison", "(I)I"⟩, prog_6_method_16_code, 7, some .int)
set_option maxRecDepth 100000 in
theorem M_Re_readComparison_ok : ev_ok M_Re_readComparison 1 := ⟨ev_m 476 (by decide +kernel) rfl, ev_m 3 (by decide +kernel) rfl, by decide +kernel, ⟨by decide +kernel, by decide +kernel⟩, by decide +kernel, by decide +kernel⟩
set_option maxRecDepth 100000 in
theorem M_Re_readComparison_in : Cond.instanceMethod M_Re_readComparison.1 ∈ ev_ws := ev_m 475 (by decide +kernel) rfl
set_option maxRecDepth 100000 in
theorem M_Re_readComparison_se : Cond.selects M_Re_readComparison.1.cls M_Re_readComparison.1 M_Re_readComparison.1 ∈ ev_ws := ev_mp 14 (by decide +kernel) rfl
abbrev M_Re_valueKind : ev_M := (⟨"AlikeStore$Reader", "valueKind", "()I"⟩, prog_6_method_17_code, 1, some .int)
set_option maxRecDepth 100000 in
theorem M_Re_valueKind_ok : ev_ok M_Re_valueKind 0 := ⟨ev_m 467 (by decide +kernel) rfl, ev_m 3 (by decide +kernel) rfl, by decide +kernel, ⟨by decide +kernel, by decide +kernel⟩, by decide +kernel, by decide +kernel⟩
set_option maxRecDepth 100000 in
theorem M_Re_valueKind_in : Cond.instanceMethod M_Re_valueKind.1 ∈ ev_ws := ev_m 466 (by decide +kernel) rfl
set_option maxRecDepth 100000 in
theorem M_Re_valueKind_se : Cond.selects M_Re_valueKind.1.cls M_Re_valueKind.1 M_Re_valueKind.1 ∈ ev_ws := ev_mp 13 (by decide +kernel) rfl
abbrev M_Sp_init : ev_M := (⟨"AlikeStore$Steps", "<init>", "()V"⟩, prog_7_method_1_code, 1, none)
set_option maxRecDepth 100000 in
theorem M_Sp_init_ok : ev_ok M_Sp_init 0 := ⟨ev_m 90 (by decide +kernel) rfl, ev_m 4 (by decide +kernel) rfl, by decide +kernel, ⟨by decide +kernel, by decide +kernel⟩, by decide +kernel, by decide +kernel⟩
set_option maxRecDepth 100000 in
theorem M_Sp_init_in : Cond.instanceMethod M_Sp_init.1 ∈ ev_ws := ev_m 89 (by decide +kernel) rfl
abbrev M_Sp_join : ev_M := (⟨"AlikeStore$Steps", "join", "(I)V"⟩, prog_7_method_2_code, 2, none)
set_option maxRecDepth 100000 in
theorem M_Sp_join_ok : ev_ok M_Sp_join 1 := ⟨ev_m 485 (by decide +kernel) rfl, ev_m 4 (by decide +kernel) rfl, by decide +kernel, ⟨by decide +kernel, by decide +kernel⟩, by decide +kernel, by decide +kernel⟩
set_option maxRecDepth 100000 in
theorem M_Sp_join_in : Cond.instanceMethod M_Sp_join.1 ∈ ev_ws := ev_m 483 (by decide +kernel) rfl
set_option maxRecDepth 100000 in
theorem M_Sp_join_se : Cond.selects M_Sp_join.1.cls M_Sp_join.1 M_Sp_join.1 ∈ ev_ws := ev_m 484 (by decide +kernel) rfl
abbrev M_Sp_put : ev_M := (⟨"AlikeStore$Steps", "put", "(IIIIJ)V"⟩, prog_7_method_3_code, 7, none)
set_option maxRecDepth 100000 in
theorem M_Sp_put_ok : ev_ok M_Sp_put 5 := ⟨ev_m 481 (by decide +kernel) rfl, ev_m 4 (by decide +kernel) rfl, by decide +kernel, ⟨by decide +kernel, by decide +kernel⟩, by decide +kernel, by decide +kernel⟩
set_option maxRecDepth 100000 in
theorem M_Sp_put_in : Cond.instanceMethod M_Sp_put.1 ∈ ev_ws := ev_m 479 (by decide +kernel) rfl
set_option maxRecDepth 100000 in
theorem M_Sp_put_se : Cond.selects M_Sp_put.1.cls M_Sp_put.1 M_Sp_put.1 ∈ ev_ws := ev_m 480 (by decide +kernel) rfl
abbrev M_St_init : ev_M := (⟨"AlikeStore$Store", "<init>", "()V"⟩, prog_8_method_1_code, 1, none)
set_option maxRecDepth 100000 in
theorem M_St_init_ok : ev_ok M_St_init 0 := ⟨ev_m 33 (by decide +kernel) rfl, ev_m 2 (by decide +kernel) rfl, by decide +kernel, ⟨by decide +kernel, by decide +kernel⟩, by decide +kernel, by decide +kernel⟩
set_option maxRecDepth 100000 in
theorem M_St_init_in : Cond.instanceMethod M_St_init.1 ∈ ev_ws := ev_m 32 (by decide +kernel) rfl
abbrev M_St_clear : ev_M := (⟨"AlikeStore$Store", "clear", "()V"⟩, prog_8_method_2_code, 1, none)
set_option maxRecDepth 100000 in
theorem M_St_clear_ok : ev_ok M_St_clear 0 := ⟨ev_m 292 (by decide +kernel) rfl, ev_m 2 (by decide +kernel) rfl, by decide +kernel, ⟨by decide +kernel, by decide +kernel⟩, by decide +kernel, by decide +kernel⟩
set_option maxRecDepth 100000 in
theorem M_St_clear_in : Cond.instanceMethod M_St_clear.1 ∈ ev_ws := ev_m 290 (by decide +kernel) rfl
set_option maxRecDepth 100000 in
theorem M_St_clear_se : Cond.selects M_St_clear.1.cls M_St_clear.1 M_St_clear.1 ∈ ev_ws := ev_m 291 (by decide +kernel) rfl
abbrev M_St_halve : ev_M := (⟨"AlikeStore$Store", "halve", "()V"⟩, prog_8_method_3_code, 1, none)
set_option maxRecDepth 100000 in
theorem M_St_halve_ok : ev_ok M_St_halve 0 := ⟨ev_m 38 (by decide +kernel) rfl, ev_m 2 (by decide +kernel) rfl, by decide +kernel, ⟨by decide +kernel, by decide +kernel⟩, by decide +kernel, by decide +kernel⟩
set_option maxRecDepth 100000 in
theorem M_St_halve_in : Cond.instanceMethod M_St_halve.1 ∈ ev_ws := ev_m 36 (by decide +kernel) rfl
set_option maxRecDepth 100000 in
theorem M_St_halve_se : Cond.selects M_St_halve.1.cls M_St_halve.1 M_St_halve.1 ∈ ev_ws := ev_m 37 (by decide +kernel) rfl
abbrev M_St_become : ev_M := (⟨"AlikeStore$Store", "become", "(LAlikeStore$Store;)V"⟩, prog_8_method_4_code, 2, none)
set_option maxRecDepth 100000 in
theorem M_St_become_ok : ev_ok M_St_become 1 := ⟨ev_m 544 (by decide +kernel) rfl, ev_m 2 (by decide +kernel) rfl, by decide +kernel, ⟨by decide +kernel, by decide +kernel⟩, by decide +kernel, by decide +kernel⟩
set_option maxRecDepth 100000 in
theorem M_St_become_in : Cond.instanceMethod M_St_become.1 ∈ ev_ws := ev_m 542 (by decide +kernel) rfl
set_option maxRecDepth 100000 in
theorem M_St_become_se : Cond.selects M_St_become.1.cls M_St_become.1 M_St_become.1 ∈ ev_ws := ev_m 543 (by decide +kernel) rfl
abbrev M_St_append : ev_M := (⟨"AlikeStore$Store", "append", "(JI)V"⟩, prog_8_method_5_code, 4, none)
set_option maxRecDepth 100000 in
theorem M_St_append_ok : ev_ok M_St_append 2 := ⟨ev_m 445 (by decide +kernel) rfl, ev_m 2 (by decide +kernel) rfl, by decide +kernel, ⟨by decide +kernel, by decide +kernel⟩, by decide +kernel, by decide +kernel⟩
set_option maxRecDepth 100000 in
theorem M_St_append_in : Cond.instanceMethod M_St_append.1 ∈ ev_ws := ev_m 443 (by decide +kernel) rfl
set_option maxRecDepth 100000 in
theorem M_St_append_se : Cond.selects M_St_append.1.cls M_St_append.1 M_St_append.1 ∈ ev_ws := ev_m 444 (by decide +kernel) rfl
abbrev M_St_drop : ev_M := (⟨"AlikeStore$Store", "drop", "(I)V"⟩, prog_8_method_6_code, 3, none)
set_option maxRecDepth 100000 in
theorem M_St_drop_ok : ev_ok M_St_drop 1 := ⟨ev_m 677 (by decide +kernel) rfl, ev_m 2 (by decide +kernel) rfl, by decide +kernel, ⟨by decide +kernel, by decide +kernel⟩, by decide +kernel, by decide +kernel⟩
set_option maxRecDepth 100000 in
theorem M_St_drop_in : Cond.instanceMethod M_St_drop.1 ∈ ev_ws := ev_m 675 (by decide +kernel) rfl
set_option maxRecDepth 100000 in
theorem M_St_drop_se : Cond.selects M_St_drop.1.cls M_St_drop.1 M_St_drop.1 ∈ ev_ws := ev_m 676 (by decide +kernel) rfl
abbrev M_St_exchange : ev_M := (⟨"AlikeStore$Store", "exchange", "(II)I"⟩, prog_8_method_7_code, 5, some .int)
set_option maxRecDepth 100000 in
theorem M_St_exchange_ok : ev_ok M_St_exchange 2 := ⟨ev_m 693 (by decide +kernel) rfl, ev_m 2 (by decide +kernel) rfl, by decide +kernel, ⟨by decide +kernel, by decide +kernel⟩, by decide +kernel, by decide +kernel⟩
set_option maxRecDepth 100000 in
theorem M_St_exchange_in : Cond.instanceMethod M_St_exchange.1 ∈ ev_ws := ev_m 691 (by decide +kernel) rfl
set_option maxRecDepth 100000 in
theorem M_St_exchange_se : Cond.selects M_St_exchange.1.cls M_St_exchange.1 M_St_exchange.1 ∈ ev_ws := ev_m 692 (by decide +kernel) rfl
abbrev M_St_cutPart : ev_M := (⟨"AlikeStore$Store", "cutPart", "(II)V"⟩, prog_8_method_8_code, 4, none)
set_option maxRecDepth 100000 in
theorem M_St_cutPart_ok : ev_ok M_St_cutPart 2 := ⟨ev_m 706 (by decide +kernel) rfl, ev_m 2 (by decide +kernel) rfl, by decide +kernel, ⟨by decide +kernel, by decide +kernel⟩, by decide +kernel, by decide +kernel⟩
set_option maxRecDepth 100000 in
theorem M_St_cutPart_in : Cond.instanceMethod M_St_cutPart.1 ∈ ev_ws := ev_m 704 (by decide +kernel) rfl
set_option maxRecDepth 100000 in
theorem M_St_cutPart_se : Cond.selects M_St_cutPart.1.cls M_St_cutPart.1 M_St_cutPart.1 ∈ ev_ws := ev_m 705 (by decide +kernel) rfl
abbrev M_St_joinPart : ev_M := (⟨"AlikeStore$Store", "joinPart", "(I)V"⟩, prog_8_method_9_code, 3, none)
set_option maxRecDepth 100000 in
theorem M_St_joinPart_ok : ev_ok M_St_joinPart 1 := ⟨ev_m 715 (by decide +kernel) rfl, ev_m 2 (by decide +kernel) rfl, by decide +kernel, ⟨by decide +kernel, by decide +kernel⟩, by decide +kernel, by decide +kernel⟩
set_option maxRecDepth 100000 in
theorem M_St_joinPart_in : Cond.instanceMethod M_St_joinPart.1 ∈ ev_ws := ev_m 713 (by decide +kernel) rfl
set_option maxRecDepth 100000 in
theorem M_St_joinPart_se : Cond.selects M_St_joinPart.1.cls M_St_joinPart.1 M_St_joinPart.1 ∈ ev_ws := ev_m 714 (by decide +kernel) rfl
abbrev M_St_whereIs : ev_M := (⟨"AlikeStore$Store", "whereIs", "(J)I"⟩, prog_8_method_10_code, 4, some .int)
set_option maxRecDepth 100000 in
theorem M_St_whereIs_ok : ev_ok M_St_whereIs 1 := ⟨ev_m 440 (by decide +kernel) rfl, ev_m 2 (by decide +kernel) rfl, by decide +kernel, ⟨by decide +kernel, by decide +kernel⟩, by decide +kernel, by decide +kernel⟩
set_option maxRecDepth 100000 in
theorem M_St_whereIs_in : Cond.instanceMethod M_St_whereIs.1 ∈ ev_ws := ev_m 438 (by decide +kernel) rfl
set_option maxRecDepth 100000 in
theorem M_St_whereIs_se : Cond.selects M_St_whereIs.1.cls M_St_whereIs.1 M_St_whereIs.1 ∈ ev_ws := ev_m 439 (by decide +kernel) rfl
abbrev M_St_keyOf : ev_M := (⟨"AlikeStore$Store", "keyOf", "(II)I"⟩, prog_8_method_11_code, 5, some .int)
set_option maxRecDepth 100000 in
theorem M_St_keyOf_ok : ev_ok M_St_keyOf 2 := ⟨ev_m 591 (by decide +kernel) rfl, ev_m 2 (by decide +kernel) rfl, by decide +kernel, ⟨by decide +kernel, by decide +kernel⟩, by decide +kernel, by decide +kernel⟩
set_option maxRecDepth 100000 in
theorem M_St_keyOf_in : Cond.instanceMethod M_St_keyOf.1 ∈ ev_ws := ev_m 589 (by decide +kernel) rfl
set_option maxRecDepth 100000 in
theorem M_St_keyOf_se : Cond.selects M_St_keyOf.1.cls M_St_keyOf.1 M_St_keyOf.1 ∈ ev_ws := ev_m 590 (by decide +kernel) rfl
abbrev M_St_all : ev_M := (⟨"AlikeStore$Store", "all", "()I"⟩, prog_8_method_12_code, 1, some .int)
set_option maxRecDepth 100000 in
theorem M_St_all_ok : ev_ok M_St_all 0 := ⟨ev_m 566 (by decide +kernel) rfl, ev_m 2 (by decide +kernel) rfl, by decide +kernel, ⟨by decide +kernel, by decide +kernel⟩, by decide +kernel, by decide +kernel⟩
set_option maxRecDepth 100000 in
theorem M_St_all_in : Cond.instanceMethod M_St_all.1 ∈ ev_ws := ev_m 564 (by decide +kernel) rfl
set_option maxRecDepth 100000 in
theorem M_St_all_se : Cond.selects M_St_all.1.cls M_St_all.1 M_St_all.1 ∈ ev_ws := ev_m 565 (by decide +kernel) rfl
abbrev M_St_counting : ev_M := (⟨"AlikeStore$Store", "counting", "()I"⟩, prog_8_method_13_code, 3, some .int)
set_option maxRecDepth 100000 in
theorem M_St_counting_ok : ev_ok M_St_counting 0 := ⟨ev_m 562 (by decide +kernel) rfl, ev_m 2 (by decide +kernel) rfl, by decide +kernel, ⟨by decide +kernel, by decide +kernel⟩, by decide +kernel, by decide +kernel⟩
set_option maxRecDepth 100000 in
theorem M_St_counting_in : Cond.instanceMethod M_St_counting.1 ∈ ev_ws := ev_m 560 (by decide +kernel) rfl
set_option maxRecDepth 100000 in
theorem M_St_counting_se : Cond.selects M_St_counting.1.cls M_St_counting.1 M_St_counting.1 ∈ ev_ws := ev_m 561 (by decide +kernel) rfl
abbrev M_St_within : ev_M := (⟨"AlikeStore$Store", "within", "(IJI)I"⟩, prog_8_method_14_code, 7, some .int)
set_option maxRecDepth 100000 in
theorem M_St_within_ok : ev_ok M_St_within 3 := ⟨ev_m 806 (by decide +kernel) rfl, ev_m 2 (by decide +kernel) rfl, by decide +kernel, ⟨by decide +kernel, by decide +kernel⟩, by decide +kernel, by decide +kernel⟩
set_option maxRecDepth 100000 in
theorem M_St_within_in : Cond.instanceMethod M_St_within.1 ∈ ev_ws := ev_m 804 (by decide +kernel) rfl
set_option maxRecDepth 100000 in
theorem M_St_within_se : Cond.selects M_St_within.1.cls M_St_within.1 M_St_within.1 ∈ ev_ws := ev_m 805 (by decide +kernel) rfl
abbrev M_St_sameKey : ev_M := (⟨"AlikeStore$Store", "sameKey", "(III)I"⟩, prog_8_method_15_code, 7, some .int)
set_option maxRecDepth 100000 in
theorem M_St_sameKey_ok : ev_ok M_St_sameKey 3 := ⟨ev_m 932 (by decide +kernel) rfl, ev_m 2 (by decide +kernel) rfl, by decide +kernel, ⟨by decide +kernel, by decide +kernel⟩, by decide +kernel, by decide +kernel⟩
set_option maxRecDepth 100000 in
theorem M_St_sameKey_in : Cond.instanceMethod M_St_sameKey.1 ∈ ev_ws := ev_m 930 (by decide +kernel) rfl
set_option maxRecDepth 100000 in
theorem M_St_sameKey_se : Cond.selects M_St_sameKey.1.cls M_St_sameKey.1 M_St_sameKey.1 ∈ ev_ws := ev_m 931 (by decide +kernel) rfl
abbrev M_St_onesAt : ev_M := (⟨"AlikeStore$Store", "onesAt", "(II)I"⟩, prog_8_method_16_code, 5, some .int)
set_option maxRecDepth 100000 in
theorem M_St_onesAt_ok : ev_ok M_St_onesAt 2 := ⟨ev_m 905 (by decide +kernel) rfl, ev_m 2 (by decide +kernel) rfl, by decide +kernel, ⟨by decide +kernel, by decide +kernel⟩, by decide +kernel, by decide +kernel⟩
set_option maxRecDepth 100000 in
theorem M_St_onesAt_in : Cond.instanceMethod M_St_onesAt.1 ∈ ev_ws := ev_m 903 (by decide +kernel) rfl
set_option maxRecDepth 100000 in
theorem M_St_onesAt_se : Cond.selects M_St_onesAt.1.cls M_St_onesAt.1 M_St_onesAt.1 ∈ ev_ws := ev_m 904 (by decide +kernel) rfl
abbrev M_St_farFromAll : ev_M := (⟨"AlikeStore$Store", "farFromAll", "(IJ)I"⟩, prog_8_method_17_code, 6, some .int)
set_option maxRecDepth 100000 in
theorem M_St_farFromAll_ok : ev_ok M_St_farFromAll 2 := ⟨ev_m 896 (by decide +kernel) rfl, ev_m 2 (by decide +kernel) rfl, by decide +kernel, ⟨by decide +kernel, by decide +kernel⟩, by decide +kernel, by decide +kernel⟩
set_option maxRecDepth 100000 in
theorem M_St_farFromAll_in : Cond.instanceMethod M_St_farFromAll.1 ∈ ev_ws := ev_m 894 (by decide +kernel) rfl
set_option maxRecDepth 100000 in
theorem M_St_farFromAll_se : Cond.selects M_St_farFromAll.1.cls M_St_farFromAll.1 M_St_farFromAll.1 ∈ ev_ws := ev_m 895 (by decide +kernel) rfl
abbrev M_Ta_init : ev_M := (⟨"AlikeStore$Tape", "<init>", "()V"⟩, prog_9_method_1_code, 1, none)
set_option maxRecDepth 100000 in
theorem M_Ta_init_ok : ev_ok M_Ta_init 0 := ⟨ev_m 122 (by decide +kernel) rfl, ev_m 5 (by decide +kernel) rfl, by decide +kernel, ⟨by decide +kernel, by decide +kernel⟩, by decide +kernel, by decide +kernel⟩
set_option maxRecDepth 100000 in
theorem M_Ta_init_in : Cond.instanceMethod M_Ta_init.1 ∈ ev_ws := ev_m 121 (by decide +kernel) rfl
abbrev M_Ta_put : ev_M := (⟨"AlikeStore$Tape", "put", "(I)V"⟩, prog_9_method_2_code, 3, none)
set_option maxRecDepth 100000 in
theorem M_Ta_put_ok : ev_ok M_Ta_put 1 := ⟨ev_m 273 (by decide +kernel) rfl, ev_m 5 (by decide +kernel) rfl, by decide +kernel, ⟨by decide +kernel, by decide +kernel⟩, by decide +kernel, by decide +kernel⟩
set_option maxRecDepth 100000 in
theorem M_Ta_put_in : Cond.instanceMethod M_Ta_put.1 ∈ ev_ws := ev_m 271 (by decide +kernel) rfl
set_option maxRecDepth 100000 in
theorem M_Ta_put_se : Cond.selects M_Ta_put.1.cls M_Ta_put.1 M_Ta_put.1 ∈ ev_ws := ev_m 272 (by decide +kernel) rfl
abbrev M_La_law : ev_M := (x, code, 4, ret)
abbrev M_JI_bitCount : ev_M := (⟨"java/lang/Integer", "bitCount", "(I)I"⟩, prog_14_method_49_code, 1, some .int)
set_option maxRecDepth 100000 in
theorem M_JI_bitCount_ok : ev_ok M_JI_bitCount 1 := ⟨ev_m 598 (by decide +kernel) rfl, ev_m 20 (by decide +kernel) rfl, by decide +kernel, ⟨by decide +kernel, by decide +kernel⟩, by decide +kernel, by decide +kernel⟩
set_option maxRecDepth 100000 in
theorem M_JI_bitCount_st : Cond.static M_JI_bitCount.1 ∈ ev_ws := ev_m 597 (by decide +kernel) rfl
abbrev M_JL_bitCount : ev_M := (⟨"java/lang/Long", "bitCount", "(J)I"⟩, prog_15_method_50_code, 2, some .int)
set_option maxRecDepth 100000 in
theorem M_JL_bitCount_ok : ev_ok M_JL_bitCount 1 := ⟨ev_m 581 (by decide +kernel) rfl, ev_m 19 (by decide +kernel) rfl, by decide +kernel, ⟨by decide +kernel, by decide +kernel⟩, by decide +kernel, by decide +kernel⟩
set_option maxRecDepth 100000 in
theorem M_JL_bitCount_st : Cond.static M_JL_bitCount.1 ∈ ev_ws := ev_m 580 (by decide +kernel) rfl
abbrev M_JA_copyOf_AII : ev_M := (⟨"java/util/Arrays", "copyOf", "([II)[I"⟩, prog_21_method_123_code, 3, some (.array (.int)))
set_option maxRecDepth 100000 in
theorem M_JA_copyOf_AII_ok : ev_ok M_JA_copyOf_AII 2 := ⟨ev_m 497 (by decide +kernel) rfl, ev_m 17 (by decide +kernel) rfl, by decide +kernel, ⟨by decide +kernel, by decide +kernel⟩, by decide +kernel, by decide +kernel⟩
set_option maxRecDepth 100000 in
theorem M_JA_copyOf_AII_st : Cond.static M_JA_copyOf_AII.1 ∈ ev_ws := ev_m 496 (by decide +kernel) rfl
abbrev M_JA_copyOf_AJI : ev_M := (⟨"java/util/Arrays", "copyOf", "([JI)[J"⟩, prog_21_method_124_code, 3, some (.array (.long)))
set_option maxRecDepth 100000 in
theorem M_JA_copyOf_AJI_ok : ev_ok M_JA_copyOf_AJI 2 := ⟨ev_m 511 (by decide +kernel) rfl, ev_m 17 (by decide +kernel) rfl, by decide +kernel, ⟨by decide +kernel, by decide +kernel⟩, by decide +kernel, by decide +kernel⟩
set_option maxRecDepth 100000 in
theorem M_JA_copyOf_AJI_st : Cond.static M_JA_copyOf_AJI.1 ∈ ev_ws := ev_m 510 (by decide +kernel) rfl
abbrev M_JA_fill : ev_M := (⟨"java/util/Arrays", "fill", "([II)V"⟩, prog_21_method_103_code, 4, none)
set_option maxRecDepth 100000 in
theorem M_JA_fill_ok : ev_ok M_JA_fill 2 := ⟨ev_m 767 (by decide +kernel) rfl, ev_m 17 (by decide +kernel) rfl, by decide +kernel, ⟨by decide +kernel, by decide +kernel⟩, by decide +kernel, by decide +kernel⟩
set_option maxRecDepth 100000 in
theorem M_JA_fill_st : Cond.static M_JA_fill.1 ∈ ev_ws := ev_m 766 (by decide +kernel) rfl
set_option maxRecDepth 100000 in
theorem f_X_10 : ev_fld "AlikeStore" 10 8 0 (.object "AlikeStore$Store") true := ⟨_, _, c_X, by decide, rfl, rfl, rfl, ev_m 237 (by decide +kernel) rfl⟩
set_option maxRecDepth 100000 in
theorem f_X_19 : ev_fld "AlikeStore" 19 8 1 (.object "AlikeStore$Reader") true := ⟨_, _, c_X, by decide, rfl, rfl, rfl, ev_m 238 (by decide +kernel) rfl⟩
set_option maxRecDepth 100000 in
theorem f_X_26 : ev_fld "AlikeStore" 26 8 2 (.object "AlikeStore$History") true := ⟨_, _, c_X, by decide, rfl, rfl, rfl, ev_m 239 (by decide +kernel) rfl⟩
set_option maxRecDepth 100000 in
theorem f_X_33 : ev_fld "AlikeStore" 33 8 3 (.object "AlikeStore$Budgets") true := ⟨_, _, c_X, by decide, rfl, rfl, rfl, ev_m 240 (by decide +kernel) rfl⟩
set_option maxRecDepth 100000 in
theorem f_X_40 : ev_fld "AlikeStore" 40 8 4 (.object "AlikeStore$Ranking") true := ⟨_, _, c_X, by decide, rfl, rfl, rfl, ev_m 241 (by decide +kernel) rfl⟩
set_option maxRecDepth 100000 in
theorem f_X_44 : ev_fld "AlikeStore" 44 8 5 (.int) false := ⟨_, _, c_X, by decide, rfl, rfl, rfl, ev_m 242 (by decide +kernel) rfl⟩
set_option maxRecDepth 100000 in
theorem f_X_48 : ev_fld "AlikeStore" 48 8 6 (.int) false := ⟨_, _, c_X, by decide, rfl, rfl, rfl, ev_m 243 (by decide +kernel) rfl⟩
set_option maxRecDepth 100000 in
theorem f_X_51 : ev_fld "AlikeStore" 51 8 7 (.int) false := ⟨_, _, c_X, by decide, rfl, rfl, rfl, ev_m 244 (by decide +kernel) rfl⟩
set_option maxRecDepth 100000 in
theorem f_X_54 : ev_fld "AlikeStore" 54 4 1 (.object "AlikeStore$Tape") true := ⟨_, _, c_Re, by decide, rfl, rfl, rfl, ev_m 138 (by decide +kernel) rfl⟩
set_option maxRecDepth 100000 in
theorem f_X_58 : ev_fld "AlikeStore" 58 7 1 (.int) false := ⟨_, _, c_Ta, by decide, rfl, rfl, rfl, ev_m 127 (by decide +kernel) rfl⟩
set_option maxRecDepth 100000 in
theorem f_X_82 : ev_fld "AlikeStore" 82 4 2 (.object "AlikeStore$Store") true := ⟨_, _, c_Re, by decide, rfl, rfl, rfl, ev_m 140 (by decide +kernel) rfl⟩
set_option maxRecDepth 100000 in
theorem f_X_86 : ev_fld "AlikeStore" 86 6 3 (.int) false := ⟨_, _, c_St, by decide, rfl, rfl, rfl, ev_m 52 (by decide +kernel) rfl⟩
set_option maxRecDepth 100000 in
theorem f_X_90 : ev_fld "AlikeStore" 90 6 0 (.int) false := ⟨_, _, c_St, by decide, rfl, rfl, rfl, ev_m 40 (by decide +kernel) rfl⟩
set_option maxRecDepth 100000 in
theorem f_X_93 : ev_fld "AlikeStore" 93 6 1 (.int) false := ⟨_, _, c_St, by decide, rfl, rfl, rfl, ev_m 45 (by decide +kernel) rfl⟩
set_option maxRecDepth 100000 in
theorem f_X_104 : ev_fld "AlikeStore" 104 2 3 (.int) false := ⟨_, _, c_Hi, by decide, rfl, rfl, rfl, ev_m 176 (by decide +kernel) rfl⟩
set_option maxRecDepth 100000 in
theorem f_X_107 : ev_fld "AlikeStore" 107 2 4 (.int) false := ⟨_, _, c_Hi, by decide, rfl, rfl, rfl, ev_m 178 (by decide +kernel) rfl⟩
set_option maxRecDepth 100000 in
theorem f_X_110 : ev_fld "AlikeStore" 110 6 6 (.object "AlikeStore$Filter") false := ⟨_, _, c_St, by decide, rfl, rfl, rfl, ev_m 61 (by decide +kernel) rfl⟩
set_option maxRecDepth 100000 in
theorem f_X_118 : ev_fld "AlikeStore" 118 6 4 (.array (.long)) true := ⟨_, _, c_St, by decide, rfl, rfl, rfl, ev_m 56 (by decide +kernel) rfl⟩
set_option maxRecDepth 100000 in
theorem f_X_126 : ev_fld "AlikeStore" 126 6 5 (.array (.int)) true := ⟨_, _, c_St, by decide, rfl, rfl, rfl, ev_m 59 (by decide +kernel) rfl⟩
set_option maxRecDepth 100000 in
theorem f_X_133 : ev_fld "AlikeStore" 133 6 2 (.array (.int)) true := ⟨_, _, c_St, by decide, rfl, rfl, rfl, ev_m 49 (by decide +kernel) rfl⟩
set_option maxRecDepth 100000 in
theorem f_X_202 : ev_fld "AlikeStore" 202 0 4 (.array (.int)) true := ⟨_, _, c_Bu, by decide, rfl, rfl, rfl, ev_m 204 (by decide +kernel) rfl⟩
set_option maxRecDepth 100000 in
theorem f_X_209 : ev_fld "AlikeStore" 209 0 2 (.array (.array (.int))) true := ⟨_, _, c_Bu, by decide, rfl, rfl, rfl, ev_m 201 (by decide +kernel) rfl⟩
set_option maxRecDepth 100000 in
theorem f_X_224 : ev_fld "AlikeStore" 224 3 3 (.int) false := ⟨_, _, c_Ra, by decide, rfl, rfl, rfl, ev_m 227 (by decide +kernel) rfl⟩
set_option maxRecDepth 100000 in
theorem f_X_225 : ev_fld "AlikeStore" 225 3 0 (.array (.int)) true := ⟨_, _, c_Ra, by decide, rfl, rfl, rfl, ev_m 223 (by decide +kernel) rfl⟩
set_option maxRecDepth 100000 in
theorem f_Bu_9 : ev_fld "AlikeStore$Budgets" 9 0 0 (.array (.int)) true := ⟨_, _, c_Bu, by decide, rfl, rfl, rfl, ev_m 198 (by decide +kernel) rfl⟩
set_option maxRecDepth 100000 in
theorem f_Bu_15 : ev_fld "AlikeStore$Budgets" 15 0 1 (.int) false := ⟨_, _, c_Bu, by decide, rfl, rfl, rfl, ev_m 199 (by decide +kernel) rfl⟩
set_option maxRecDepth 100000 in
theorem f_Bu_21 : ev_fld "AlikeStore$Budgets" 21 0 2 (.array (.array (.int))) true := ⟨_, _, c_Bu, by decide, rfl, rfl, rfl, ev_m 200 (by decide +kernel) rfl⟩
set_option maxRecDepth 100000 in
theorem f_Bu_24 : ev_fld "AlikeStore$Budgets" 24 0 3 (.array (.array (.int))) true := ⟨_, _, c_Bu, by decide, rfl, rfl, rfl, ev_m 202 (by decide +kernel) rfl⟩
set_option maxRecDepth 100000 in
theorem f_Bu_27 : ev_fld "AlikeStore$Budgets" 27 0 4 (.array (.int)) true := ⟨_, _, c_Bu, by decide, rfl, rfl, rfl, ev_m 203 (by decide +kernel) rfl⟩
set_option maxRecDepth 100000 in
theorem f_Bu_30 : ev_fld "AlikeStore$Budgets" 30 6 1 (.int) false := ⟨_, _, c_St, by decide, rfl, rfl, rfl, ev_m 43 (by decide +kernel) rfl⟩
set_option maxRecDepth 100000 in
theorem f_Bu_33 : ev_fld "AlikeStore$Budgets" 33 6 2 (.array (.int)) true := ⟨_, _, c_St, by decide, rfl, rfl, rfl, ev_m 48 (by decide +kernel) rfl⟩
set_option maxRecDepth 100000 in
theorem f_Fi_7 : ev_fld "AlikeStore$Filter" 7 5 5 (.int) false := ⟨_, _, c_Sp, by decide, rfl, rfl, rfl, ev_m 102 (by decide +kernel) rfl⟩
set_option maxRecDepth 100000 in
theorem f_Fi_13 : ev_fld "AlikeStore$Filter" 13 5 0 (.array (.int)) true := ⟨_, _, c_Sp, by decide, rfl, rfl, rfl, ev_m 93 (by decide +kernel) rfl⟩
set_option maxRecDepth 100000 in
theorem f_Fi_23 : ev_fld "AlikeStore$Filter" 23 1 0 (.array (.int)) true := ⟨_, _, c_Fi, by decide, rfl, rfl, rfl, ev_m 517 (by decide +kernel) rfl⟩
set_option maxRecDepth 100000 in
theorem f_Fi_26 : ev_fld "AlikeStore$Filter" 26 5 1 (.array (.int)) true := ⟨_, _, c_Sp, by decide, rfl, rfl, rfl, ev_m 95 (by decide +kernel) rfl⟩
set_option maxRecDepth 100000 in
theorem f_Fi_29 : ev_fld "AlikeStore$Filter" 29 1 1 (.array (.int)) true := ⟨_, _, c_Fi, by decide, rfl, rfl, rfl, ev_m 518 (by decide +kernel) rfl⟩
set_option maxRecDepth 100000 in
theorem f_Fi_30 : ev_fld "AlikeStore$Filter" 30 5 2 (.array (.int)) true := ⟨_, _, c_Sp, by decide, rfl, rfl, rfl, ev_m 97 (by decide +kernel) rfl⟩
set_option maxRecDepth 100000 in
theorem f_Fi_33 : ev_fld "AlikeStore$Filter" 33 1 2 (.array (.int)) true := ⟨_, _, c_Fi, by decide, rfl, rfl, rfl, ev_m 519 (by decide +kernel) rfl⟩
set_option maxRecDepth 100000 in
theorem f_Fi_34 : ev_fld "AlikeStore$Filter" 34 5 3 (.array (.int)) true := ⟨_, _, c_Sp, by decide, rfl, rfl, rfl, ev_m 99 (by decide +kernel) rfl⟩
set_option maxRecDepth 100000 in
theorem f_Fi_37 : ev_fld "AlikeStore$Filter" 37 1 3 (.array (.int)) true := ⟨_, _, c_Fi, by decide, rfl, rfl, rfl, ev_m 520 (by decide +kernel) rfl⟩
set_option maxRecDepth 100000 in
theorem f_Fi_38 : ev_fld "AlikeStore$Filter" 38 5 4 (.array (.long)) true := ⟨_, _, c_Sp, by decide, rfl, rfl, rfl, ev_m 101 (by decide +kernel) rfl⟩
set_option maxRecDepth 100000 in
theorem f_Fi_45 : ev_fld "AlikeStore$Filter" 45 1 4 (.array (.long)) true := ⟨_, _, c_Fi, by decide, rfl, rfl, rfl, ev_m 521 (by decide +kernel) rfl⟩
set_option maxRecDepth 100000 in
theorem f_Fi_54 : ev_fld "AlikeStore$Filter" 54 6 4 (.array (.long)) true := ⟨_, _, c_St, by decide, rfl, rfl, rfl, ev_m 55 (by decide +kernel) rfl⟩
set_option maxRecDepth 100000 in
theorem f_Fi_65 : ev_fld "AlikeStore$Filter" 65 6 5 (.array (.int)) true := ⟨_, _, c_St, by decide, rfl, rfl, rfl, ev_m 58 (by decide +kernel) rfl⟩
set_option maxRecDepth 100000 in
theorem f_Fi_74 : ev_fld "AlikeStore$Filter" 74 6 1 (.int) false := ⟨_, _, c_St, by decide, rfl, rfl, rfl, ev_m 44 (by decide +kernel) rfl⟩
set_option maxRecDepth 100000 in
theorem f_Hi_11 : ev_fld "AlikeStore$History" 11 2 0 (.array (.object "AlikeStore$Store")) true := ⟨_, _, c_Hi, by decide, rfl, rfl, rfl, ev_m 172 (by decide +kernel) rfl⟩
set_option maxRecDepth 100000 in
theorem f_Hi_17 : ev_fld "AlikeStore$History" 17 2 1 (.array (.object "AlikeStore$Store")) true := ⟨_, _, c_Hi, by decide, rfl, rfl, rfl, ev_m 173 (by decide +kernel) rfl⟩
set_option maxRecDepth 100000 in
theorem f_Hi_20 : ev_fld "AlikeStore$History" 20 2 2 (.int) false := ⟨_, _, c_Hi, by decide, rfl, rfl, rfl, ev_m 174 (by decide +kernel) rfl⟩
set_option maxRecDepth 100000 in
theorem f_Hi_24 : ev_fld "AlikeStore$History" 24 2 3 (.int) false := ⟨_, _, c_Hi, by decide, rfl, rfl, rfl, ev_m 175 (by decide +kernel) rfl⟩
set_option maxRecDepth 100000 in
theorem f_Hi_27 : ev_fld "AlikeStore$History" 27 2 4 (.int) false := ⟨_, _, c_Hi, by decide, rfl, rfl, rfl, ev_m 177 (by decide +kernel) rfl⟩
set_option maxRecDepth 100000 in
theorem f_Ra_9 : ev_fld "AlikeStore$Ranking" 9 3 0 (.array (.int)) true := ⟨_, _, c_Ra, by decide, rfl, rfl, rfl, ev_m 222 (by decide +kernel) rfl⟩
set_option maxRecDepth 100000 in
theorem f_Ra_15 : ev_fld "AlikeStore$Ranking" 15 3 1 (.array (.int)) true := ⟨_, _, c_Ra, by decide, rfl, rfl, rfl, ev_m 224 (by decide +kernel) rfl⟩
set_option maxRecDepth 100000 in
theorem f_Ra_18 : ev_fld "AlikeStore$Ranking" 18 3 2 (.array (.int)) true := ⟨_, _, c_Ra, by decide, rfl, rfl, rfl, ev_m 225 (by decide +kernel) rfl⟩
set_option maxRecDepth 100000 in
theorem f_Ra_21 : ev_fld "AlikeStore$Ranking" 21 3 3 (.int) false := ⟨_, _, c_Ra, by decide, rfl, rfl, rfl, ev_m 226 (by decide +kernel) rfl⟩
set_option maxRecDepth 100000 in
theorem f_Re_12 : ev_fld "AlikeStore$Reader" 12 4 0 (.object "AlikeStore$Steps") true := ⟨_, _, c_Re, by decide, rfl, rfl, rfl, ev_m 136 (by decide +kernel) rfl⟩
set_option maxRecDepth 100000 in
theorem f_Re_21 : ev_fld "AlikeStore$Reader" 21 4 1 (.object "AlikeStore$Tape") true := ⟨_, _, c_Re, by decide, rfl, rfl, rfl, ev_m 137 (by decide +kernel) rfl⟩
set_option maxRecDepth 100000 in
theorem f_Re_28 : ev_fld "AlikeStore$Reader" 28 4 2 (.object "AlikeStore$Store") true := ⟨_, _, c_Re, by decide, rfl, rfl, rfl, ev_m 139 (by decide +kernel) rfl⟩
set_option maxRecDepth 100000 in
theorem f_Re_32 : ev_fld "AlikeStore$Reader" 32 7 0 (.array (.byte)) true := ⟨_, _, c_Ta, by decide, rfl, rfl, rfl, ev_m 125 (by decide +kernel) rfl⟩
set_option maxRecDepth 100000 in
theorem f_Re_36 : ev_fld "AlikeStore$Reader" 36 4 3 (.array (.byte)) true := ⟨_, _, c_Re, by decide, rfl, rfl, rfl, ev_m 141 (by decide +kernel) rfl⟩
set_option maxRecDepth 100000 in
theorem f_Re_39 : ev_fld "AlikeStore$Reader" 39 4 4 (.int) false := ⟨_, _, c_Re, by decide, rfl, rfl, rfl, ev_m 142 (by decide +kernel) rfl⟩
set_option maxRecDepth 100000 in
theorem f_Re_43 : ev_fld "AlikeStore$Reader" 43 4 5 (.int) false := ⟨_, _, c_Re, by decide, rfl, rfl, rfl, ev_m 143 (by decide +kernel) rfl⟩
set_option maxRecDepth 100000 in
theorem f_Re_46 : ev_fld "AlikeStore$Reader" 46 4 6 (.int) false := ⟨_, _, c_Re, by decide, rfl, rfl, rfl, ev_m 144 (by decide +kernel) rfl⟩
set_option maxRecDepth 100000 in
theorem f_Re_49 : ev_fld "AlikeStore$Reader" 49 4 7 (.int) false := ⟨_, _, c_Re, by decide, rfl, rfl, rfl, ev_m 145 (by decide +kernel) rfl⟩
set_option maxRecDepth 100000 in
theorem f_Re_108 : ev_fld "AlikeStore$Reader" 108 6 0 (.int) false := ⟨_, _, c_St, by decide, rfl, rfl, rfl, ev_m 41 (by decide +kernel) rfl⟩
set_option maxRecDepth 100000 in
theorem f_Re_118 : ev_fld "AlikeStore$Reader" 118 6 2 (.array (.int)) true := ⟨_, _, c_St, by decide, rfl, rfl, rfl, ev_m 50 (by decide +kernel) rfl⟩
set_option maxRecDepth 100000 in
theorem f_Re_122 : ev_fld "AlikeStore$Reader" 122 6 1 (.int) false := ⟨_, _, c_St, by decide, rfl, rfl, rfl, ev_m 46 (by decide +kernel) rfl⟩
set_option maxRecDepth 100000 in
theorem f_Re_124 : ev_fld "AlikeStore$Reader" 124 6 3 (.int) false := ⟨_, _, c_St, by decide, rfl, rfl, rfl, ev_m 53 (by decide +kernel) rfl⟩
set_option maxRecDepth 100000 in
theorem f_Re_141 : ev_fld "AlikeStore$Reader" 141 6 6 (.object "AlikeStore$Filter") false := ⟨_, _, c_St, by decide, rfl, rfl, rfl, ev_m 62 (by decide +kernel) rfl⟩
set_option maxRecDepth 100000 in
theorem f_Re_144 : ev_fld "AlikeStore$Reader" 144 5 5 (.int) false := ⟨_, _, c_Sp, by decide, rfl, rfl, rfl, ev_m 104 (by decide +kernel) rfl⟩
set_option maxRecDepth 100000 in
theorem f_Sp_11 : ev_fld "AlikeStore$Steps" 11 5 0 (.array (.int)) true := ⟨_, _, c_Sp, by decide, rfl, rfl, rfl, ev_m 92 (by decide +kernel) rfl⟩
set_option maxRecDepth 100000 in
theorem f_Sp_15 : ev_fld "AlikeStore$Steps" 15 5 1 (.array (.int)) true := ⟨_, _, c_Sp, by decide, rfl, rfl, rfl, ev_m 94 (by decide +kernel) rfl⟩
set_option maxRecDepth 100000 in
theorem f_Sp_18 : ev_fld "AlikeStore$Steps" 18 5 2 (.array (.int)) true := ⟨_, _, c_Sp, by decide, rfl, rfl, rfl, ev_m 96 (by decide +kernel) rfl⟩
set_option maxRecDepth 100000 in
theorem f_Sp_21 : ev_fld "AlikeStore$Steps" 21 5 3 (.array (.int)) true := ⟨_, _, c_Sp, by decide, rfl, rfl, rfl, ev_m 98 (by decide +kernel) rfl⟩
set_option maxRecDepth 100000 in
theorem f_Sp_24 : ev_fld "AlikeStore$Steps" 24 5 4 (.array (.long)) true := ⟨_, _, c_Sp, by decide, rfl, rfl, rfl, ev_m 100 (by decide +kernel) rfl⟩
set_option maxRecDepth 100000 in
theorem f_Sp_28 : ev_fld "AlikeStore$Steps" 28 5 5 (.int) false := ⟨_, _, c_Sp, by decide, rfl, rfl, rfl, ev_m 103 (by decide +kernel) rfl⟩
set_option maxRecDepth 100000 in
theorem f_St_9 : ev_fld "AlikeStore$Store" 9 6 0 (.int) false := ⟨_, _, c_St, by decide, rfl, rfl, rfl, ev_m 39 (by decide +kernel) rfl⟩
set_option maxRecDepth 100000 in
theorem f_St_15 : ev_fld "AlikeStore$Store" 15 6 1 (.int) false := ⟨_, _, c_St, by decide, rfl, rfl, rfl, ev_m 42 (by decide +kernel) rfl⟩
set_option maxRecDepth 100000 in
theorem f_St_18 : ev_fld "AlikeStore$Store" 18 6 2 (.array (.int)) true := ⟨_, _, c_St, by decide, rfl, rfl, rfl, ev_m 47 (by decide +kernel) rfl⟩
set_option maxRecDepth 100000 in
theorem f_St_22 : ev_fld "AlikeStore$Store" 22 6 3 (.int) false := ⟨_, _, c_St, by decide, rfl, rfl, rfl, ev_m 51 (by decide +kernel) rfl⟩
set_option maxRecDepth 100000 in
theorem f_St_25 : ev_fld "AlikeStore$Store" 25 6 4 (.array (.long)) true := ⟨_, _, c_St, by decide, rfl, rfl, rfl, ev_m 54 (by decide +kernel) rfl⟩
set_option maxRecDepth 100000 in
theorem f_St_29 : ev_fld "AlikeStore$Store" 29 6 5 (.array (.int)) true := ⟨_, _, c_St, by decide, rfl, rfl, rfl, ev_m 57 (by decide +kernel) rfl⟩
set_option maxRecDepth 100000 in
theorem f_St_32 : ev_fld "AlikeStore$Store" 32 6 6 (.object "AlikeStore$Filter") false := ⟨_, _, c_St, by decide, rfl, rfl, rfl, ev_m 60 (by decide +kernel) rfl⟩
set_option maxRecDepth 100000 in
theorem f_Ta_9 : ev_fld "AlikeStore$Tape" 9 7 0 (.array (.byte)) true := ⟨_, _, c_Ta, by decide, rfl, rfl, rfl, ev_m 124 (by decide +kernel) rfl⟩
set_option maxRecDepth 100000 in
theorem f_Ta_15 : ev_fld "AlikeStore$Tape" 15 7 1 (.int) false := ⟨_, _, c_Ta, by decide, rfl, rfl, rfl, ev_m 126 (by decide +kernel) rfl⟩
set_option maxRecDepth 100000 in
theorem f_Mo_7 : ev_fld "AlikeStoreModel" 7 9 0 (.array (.long)) true := ⟨_, _, c_Mo, by decide, rfl, rfl, rfl, ev_m 977 (by decide +kernel) rfl⟩
set_option maxRecDepth 100000 in
theorem f_Mo_13 : ev_fld "AlikeStoreModel" 13 9 4 (.array (.long)) true := ⟨_, _, c_Mo, by decide, rfl, rfl, rfl, ev_m 981 (by decide +kernel) rfl⟩
set_option maxRecDepth 100000 in
theorem f_Mo_16 : ev_fld "AlikeStoreModel" 16 9 5 (.array (.byte)) true := ⟨_, _, c_Mo, by decide, rfl, rfl, rfl, ev_m 982 (by decide +kernel) rfl⟩
set_option maxRecDepth 100000 in
theorem f_Mo_20 : ev_fld "AlikeStoreModel" 20 9 6 (.array (.byte)) true := ⟨_, _, c_Mo, by decide, rfl, rfl, rfl, ev_m 983 (by decide +kernel) rfl⟩
set_option maxRecDepth 100000 in
theorem f_Mo_23 : ev_fld "AlikeStoreModel" 23 9 13 (.int) false := ⟨_, _, c_Mo, by decide, rfl, rfl, rfl, ev_m 990 (by decide +kernel) rfl⟩
set_option maxRecDepth 100000 in
theorem f_Mo_27 : ev_fld "AlikeStoreModel" 27 9 14 (.int) false := ⟨_, _, c_Mo, by decide, rfl, rfl, rfl, ev_m 991 (by decide +kernel) rfl⟩
set_option maxRecDepth 100000 in
theorem f_Mo_30 : ev_fld "AlikeStoreModel" 30 9 17 (.array (.int)) true := ⟨_, _, c_Mo, by decide, rfl, rfl, rfl, ev_m 994 (by decide +kernel) rfl⟩
set_option maxRecDepth 100000 in
theorem f_Mo_34 : ev_fld "AlikeStoreModel" 34 9 18 (.array (.int)) true := ⟨_, _, c_Mo, by decide, rfl, rfl, rfl, ev_m 995 (by decide +kernel) rfl⟩
set_option maxRecDepth 100000 in
theorem f_Mo_39 : ev_fld "AlikeStoreModel" 39 9 19 (.array (.array (.int))) true := ⟨_, _, c_Mo, by decide, rfl, rfl, rfl, ev_m 996 (by decide +kernel) rfl⟩
set_option maxRecDepth 100000 in
theorem f_Mo_42 : ev_fld "AlikeStoreModel" 42 9 20 (.array (.array (.int))) true := ⟨_, _, c_Mo, by decide, rfl, rfl, rfl, ev_m 997 (by decide +kernel) rfl⟩
set_option maxRecDepth 100000 in
theorem f_Mo_45 : ev_fld "AlikeStoreModel" 45 9 22 (.array (.int)) true := ⟨_, _, c_Mo, by decide, rfl, rfl, rfl, ev_m 999 (by decide +kernel) rfl⟩
set_option maxRecDepth 100000 in
theorem f_Mo_48 : ev_fld "AlikeStoreModel" 48 9 23 (.array (.int)) true := ⟨_, _, c_Mo, by decide, rfl, rfl, rfl, ev_m 1000 (by decide +kernel) rfl⟩
set_option maxRecDepth 100000 in
theorem f_Mo_55 : ev_fld "AlikeStoreModel" 55 9 1 (.int) false := ⟨_, _, c_Mo, by decide, rfl, rfl, rfl, ev_m 978 (by decide +kernel) rfl⟩
set_option maxRecDepth 100000 in
theorem f_Mo_110 : ev_fld "AlikeStoreModel" 110 9 7 (.int) false := ⟨_, _, c_Mo, by decide, rfl, rfl, rfl, ev_m 984 (by decide +kernel) rfl⟩
set_option maxRecDepth 100000 in
theorem f_Mo_116 : ev_fld "AlikeStoreModel" 116 9 8 (.int) false := ⟨_, _, c_Mo, by decide, rfl, rfl, rfl, ev_m 985 (by decide +kernel) rfl⟩
set_option maxRecDepth 100000 in
theorem f_Mo_119 : ev_fld "AlikeStoreModel" 119 9 11 (.int) false := ⟨_, _, c_Mo, by decide, rfl, rfl, rfl, ev_m 988 (by decide +kernel) rfl⟩
set_option maxRecDepth 100000 in
theorem f_Mo_125 : ev_fld "AlikeStoreModel" 125 9 10 (.int) false := ⟨_, _, c_Mo, by decide, rfl, rfl, rfl, ev_m 987 (by decide +kernel) rfl⟩
set_option maxRecDepth 100000 in
theorem f_Mo_128 : ev_fld "AlikeStoreModel" 128 9 9 (.int) false := ⟨_, _, c_Mo, by decide, rfl, rfl, rfl, ev_m 986 (by decide +kernel) rfl⟩
set_option maxRecDepth 100000 in
theorem f_Mo_148 : ev_fld "AlikeStoreModel" 148 9 12 (.int) false := ⟨_, _, c_Mo, by decide, rfl, rfl, rfl, ev_m 989 (by decide +kernel) rfl⟩
set_option maxRecDepth 100000 in
theorem f_Mo_164 : ev_fld "AlikeStoreModel" 164 9 16 (.long) false := ⟨_, _, c_Mo, by decide, rfl, rfl, rfl, ev_m 993 (by decide +kernel) rfl⟩
set_option maxRecDepth 100000 in
theorem f_Mo_176 : ev_fld "AlikeStoreModel" 176 9 15 (.int) false := ⟨_, _, c_Mo, by decide, rfl, rfl, rfl, ev_m 992 (by decide +kernel) rfl⟩
set_option maxRecDepth 100000 in
theorem f_Mo_252 : ev_fld "AlikeStoreModel" 252 9 2 (.int) false := ⟨_, _, c_Mo, by decide, rfl, rfl, rfl, ev_m 979 (by decide +kernel) rfl⟩
set_option maxRecDepth 100000 in
theorem f_Mo_255 : ev_fld "AlikeStoreModel" 255 9 3 (.int) false := ⟨_, _, c_Mo, by decide, rfl, rfl, rfl, ev_m 980 (by decide +kernel) rfl⟩
set_option maxRecDepth 100000 in
theorem f_Mo_295 : ev_fld "AlikeStoreModel" 295 9 21 (.int) false := ⟨_, _, c_Mo, by decide, rfl, rfl, rfl, ev_m 998 (by decide +kernel) rfl⟩
set_option maxRecDepth 100000 in
theorem lL_X_1 : Cond.methodLink "AlikeStore" 1 ⟨"java/lang/Object", "<init>", "()V"⟩ ∈ ev_ws := ev_m 26 (by decide +kernel) rfl
set_option maxRecDepth 100000 in
theorem l_X_9 : Cond.methodLink "AlikeStore" 9 M_St_init.1 ∈ ev_ws := ev_m 31 (by decide +kernel) rfl
set_option maxRecDepth 100000 in
theorem l_X_18 : Cond.methodLinkNest "AlikeStore" 18 M_Re_init.1 "AlikeStore" ∈ ev_nest := List.mem_filter.mpr ⟨List.mem_of_getElem? (i := 82) (by decide +kernel), rfl⟩
set_option maxRecDepth 100000 in
theorem l_X_25 : Cond.methodLink "AlikeStore" 25 M_Hi_init.1 ∈ ev_ws := ev_m 165 (by decide +kernel) rfl
set_option maxRecDepth 100000 in
theorem l_X_32 : Cond.methodLinkNest "AlikeStore" 32 M_Bu_init.1 "AlikeStore" ∈ ev_nest := List.mem_filter.mpr ⟨List.mem_of_getElem? (i := 192) (by decide +kernel), rfl⟩
set_option maxRecDepth 100000 in
theorem l_X_39 : Cond.methodLinkNest "AlikeStore" 39 M_Ra_init.1 "AlikeStore" ∈ ev_nest := List.mem_filter.mpr ⟨List.mem_of_getElem? (i := 218) (by decide +kernel), rfl⟩
set_option maxRecDepth 100000 in
theorem l_X_63 : Cond.methodLink "AlikeStore" 63 M_Ta_put.1 ∈ ev_ws := ev_m 270 (by decide +kernel) rfl
set_option maxRecDepth 100000 in
theorem l_X_67 : Cond.methodLink "AlikeStore" 67 M_X_refuse.1 ∈ ev_ws := ev_m 278 (by decide +kernel) rfl
set_option maxRecDepth 100000 in
theorem l_X_71 : Cond.methodLink "AlikeStore" 71 M_Re_read.1 ∈ ev_ws := ev_m 282 (by decide +kernel) rfl
set_option maxRecDepth 100000 in
theorem l_X_74 : Cond.methodLink "AlikeStore" 74 M_Re_place.1 ∈ ev_ws := ev_m 533 (by decide +kernel) rfl
set_option maxRecDepth 100000 in
theorem l_X_78 : Cond.methodLink "AlikeStore" 78 M_Hi_keep.1 ∈ ev_ws := ev_m 537 (by decide +kernel) rfl
set_option maxRecDepth 100000 in
theorem l_X_83 : Cond.methodLink "AlikeStore" 83 M_St_become.1 ∈ ev_ws := ev_m 546 (by decide +kernel) rfl
set_option maxRecDepth 100000 in
theorem l_X_87 : Cond.methodLink "AlikeStore" 87 M_X_answer.1 ∈ ev_ws := ev_m 547 (by decide +kernel) rfl
set_option maxRecDepth 100000 in
theorem l_X_96 : Cond.methodLink "AlikeStore" 96 M_St_counting.1 ∈ ev_ws := ev_m 559 (by decide +kernel) rfl
set_option maxRecDepth 100000 in
theorem l_X_99 : Cond.methodLink "AlikeStore" 99 M_JI_bitCount.1 ∈ ev_ws := ev_m 596 (by decide +kernel) rfl
set_option maxRecDepth 100000 in
theorem l_X_114 : Cond.methodLink "AlikeStore" 114 M_X_isCode.1 ∈ ev_ws := ev_m 606 (by decide +kernel) rfl
set_option maxRecDepth 100000 in
theorem l_X_122 : Cond.methodLink "AlikeStore" 122 M_X_answerLong.1 ∈ ev_ws := ev_m 610 (by decide +kernel) rfl
set_option maxRecDepth 100000 in
theorem l_X_130 : Cond.methodLink "AlikeStore" 130 M_X_isPart.1 ∈ ev_ws := ev_m 622 (by decide +kernel) rfl
set_option maxRecDepth 100000 in
theorem l_X_136 : Cond.methodLink "AlikeStore" 136 M_St_keyOf.1 ∈ ev_ws := ev_m 630 (by decide +kernel) rfl
set_option maxRecDepth 100000 in
theorem l_X_140 : Cond.methodLink "AlikeStore" 140 M_X_isNumber.1 ∈ ev_ws := ev_m 635 (by decide +kernel) rfl
set_option maxRecDepth 100000 in
theorem l_X_144 : Cond.methodLink "AlikeStore" 144 M_X_unlike.1 ∈ ev_ws := ev_m 639 (by decide +kernel) rfl
set_option maxRecDepth 100000 in
theorem l_X_148 : Cond.methodLink "AlikeStore" 148 M_X_isBelow.1 ∈ ev_ws := ev_m 644 (by decide +kernel) rfl
set_option maxRecDepth 100000 in
theorem l_X_152 : Cond.methodLink "AlikeStore" 152 M_X_measureOf.1 ∈ ev_ws := ev_m 647 (by decide +kernel) rfl
set_option maxRecDepth 100000 in
theorem l_X_156 : Cond.methodLink "AlikeStore" 156 M_St_whereIs.1 ∈ ev_ws := ev_m 664 (by decide +kernel) rfl
set_option maxRecDepth 100000 in
theorem l_X_160 : Cond.methodLink "AlikeStore" 160 M_St_append.1 ∈ ev_ws := ev_m 669 (by decide +kernel) rfl
set_option maxRecDepth 100000 in
theorem l_X_164 : Cond.methodLink "AlikeStore" 164 M_St_drop.1 ∈ ev_ws := ev_m 674 (by decide +kernel) rfl
set_option maxRecDepth 100000 in
theorem l_X_167 : Cond.methodLink "AlikeStore" 167 M_X_isBit.1 ∈ ev_ws := ev_m 682 (by decide +kernel) rfl
set_option maxRecDepth 100000 in
theorem l_X_170 : Cond.methodLink "AlikeStore" 170 M_X_bitOf.1 ∈ ev_ws := ev_m 654 (by decide +kernel) rfl
set_option maxRecDepth 100000 in
theorem l_X_173 : Cond.methodLink "AlikeStore" 173 M_St_exchange.1 ∈ ev_ws := ev_m 690 (by decide +kernel) rfl
set_option maxRecDepth 100000 in
theorem l_X_176 : Cond.methodLink "AlikeStore" 176 M_St_cutPart.1 ∈ ev_ws := ev_m 703 (by decide +kernel) rfl
set_option maxRecDepth 100000 in
theorem l_X_180 : Cond.methodLink "AlikeStore" 180 M_St_joinPart.1 ∈ ev_ws := ev_m 712 (by decide +kernel) rfl
set_option maxRecDepth 100000 in
theorem l_X_183 : Cond.methodLink "AlikeStore" 183 M_Hi_takeBackAct.1 ∈ ev_ws := ev_m 724 (by decide +kernel) rfl
set_option maxRecDepth 100000 in
theorem l_X_186 : Cond.methodLink "AlikeStore" 186 M_Hi_putMark.1 ∈ ev_ws := ev_m 732 (by decide +kernel) rfl
set_option maxRecDepth 100000 in
theorem l_X_189 : Cond.methodLink "AlikeStore" 189 M_Hi_takeBackMark.1 ∈ ev_ws := ev_m 740 (by decide +kernel) rfl
set_option maxRecDepth 100000 in
theorem l_X_192 : Cond.methodLink "AlikeStore" 192 M_X_isRadius.1 ∈ ev_ws := ev_m 748 (by decide +kernel) rfl
set_option maxRecDepth 100000 in
theorem l_X_195 : Cond.methodLink "AlikeStore" 195 M_Bu_partLike.1 ∈ ev_ws := ev_m 752 (by decide +kernel) rfl
set_option maxRecDepth 100000 in
theorem l_X_198 : Cond.methodLink "AlikeStore" 198 M_Bu_plan.1 ∈ ev_ws := ev_m 757 (by decide +kernel) rfl
set_option maxRecDepth 100000 in
theorem l_X_205 : Cond.methodLink "AlikeStore" 205 M_Bu_weigh.1 ∈ ev_ws := ev_m 794 (by decide +kernel) rfl
set_option maxRecDepth 100000 in
theorem l_X_213 : Cond.methodLink "AlikeStore" 213 M_Bu_candidates.1 ∈ ev_ws := ev_m 799 (by decide +kernel) rfl
set_option maxRecDepth 100000 in
theorem l_X_217 : Cond.methodLink "AlikeStore" 217 M_St_within.1 ∈ ev_ws := ev_m 803 (by decide +kernel) rfl
set_option maxRecDepth 100000 in
theorem l_X_221 : Cond.methodLink "AlikeStore" 221 M_Ra_rank.1 ∈ ev_ws := ev_m 813 (by decide +kernel) rfl
set_option maxRecDepth 100000 in
theorem l_X_228 : Cond.methodLink "AlikeStore" 228 M_Bu_tabulate.1 ∈ ev_ws := ev_m 827 (by decide +kernel) rfl
set_option maxRecDepth 100000 in
theorem l_X_231 : Cond.methodLink "AlikeStore" 231 M_Bu_choose.1 ∈ ev_ws := ev_m 828 (by decide +kernel) rfl
set_option maxRecDepth 100000 in
theorem l_X_234 : Cond.methodLink "AlikeStore" 234 M_Ra_takenApart.1 ∈ ev_ws := ev_m 833 (by decide +kernel) rfl
set_option maxRecDepth 100000 in
theorem l_X_238 : Cond.methodLink "AlikeStore" 238 M_X_isIn.1 ∈ ev_ws := ev_m 843 (by decide +kernel) rfl
set_option maxRecDepth 100000 in
theorem l_X_241 : Cond.methodLink "AlikeStore" 241 M_X_above.1 ∈ ev_ws := ev_m 844 (by decide +kernel) rfl
set_option maxRecDepth 100000 in
theorem l_X_244 : Cond.methodLink "AlikeStore" 244 M_X_pairAt.1 ∈ ev_ws := ev_m 851 (by decide +kernel) rfl
set_option maxRecDepth 100000 in
theorem l_X_248 : Cond.methodLink "AlikeStore" 248 M_X_ofPacked.1 ∈ ev_ws := ev_m 859 (by decide +kernel) rfl
set_option maxRecDepth 100000 in
theorem l_X_251 : Cond.methodLink "AlikeStore" 251 M_X_closestPair.1 ∈ ev_ws := ev_m 870 (by decide +kernel) rfl
set_option maxRecDepth 100000 in
theorem l_X_254 : Cond.methodLink "AlikeStore" 254 M_X_clusterWith.1 ∈ ev_ws := ev_m 878 (by decide +kernel) rfl
set_option maxRecDepth 100000 in
theorem l_X_257 : Cond.methodLink "AlikeStore" 257 M_X_leastOf.1 ∈ ev_ws := ev_m 882 (by decide +kernel) rfl
set_option maxRecDepth 100000 in
theorem l_X_260 : Cond.methodLink "AlikeStore" 260 M_X_middleOf.1 ∈ ev_ws := ev_m 889 (by decide +kernel) rfl
set_option maxRecDepth 100000 in
theorem l_X_263 : Cond.methodLink "AlikeStore" 263 M_St_all.1 ∈ ev_ws := ev_m 901 (by decide +kernel) rfl
set_option maxRecDepth 100000 in
theorem l_X_266 : Cond.methodLink "AlikeStore" 266 M_St_onesAt.1 ∈ ev_ws := ev_m 902 (by decide +kernel) rfl
set_option maxRecDepth 100000 in
theorem lL_X_269 : Cond.methodLink "AlikeStore" 269 ⟨"java/lang/Math", "abs", "(I)I"⟩ ∈ ev_ws := ev_m 918 (by decide +kernel) rfl
set_option maxRecDepth 100000 in
theorem l_X_274 : Cond.methodLink "AlikeStore" 274 M_St_sameKey.1 ∈ ev_ws := ev_m 929 (by decide +kernel) rfl
set_option maxRecDepth 100000 in
theorem lL_X_277 : Cond.methodLink "AlikeStore" 277 ⟨"java/lang/Math", "max", "(II)I"⟩ ∈ ev_ws := ev_m 659 (by decide +kernel) rfl
set_option maxRecDepth 100000 in
theorem l_X_280 : Cond.methodLink "AlikeStore" 280 M_X_isUpper.1 ∈ ev_ws := ev_m 938 (by decide +kernel) rfl
set_option maxRecDepth 100000 in
theorem l_X_283 : Cond.methodLink "AlikeStore" 283 M_X_costParted.1 ∈ ev_ws := ev_m 941 (by decide +kernel) rfl
set_option maxRecDepth 100000 in
theorem l_X_286 : Cond.methodLink "AlikeStore" 286 M_JL_bitCount.1 ∈ ev_ws := ev_m 595 (by decide +kernel) rfl
set_option maxRecDepth 100000 in
theorem l_X_292 : Cond.methodLink "AlikeStore" 292 M_X_reachOf.1 ∈ ev_ws := ev_m 651 (by decide +kernel) rfl
set_option maxRecDepth 100000 in
theorem l_X_295 : Cond.methodLink "AlikeStore" 295 M_X_longestRun.1 ∈ ev_ws := ev_m 656 (by decide +kernel) rfl
set_option maxRecDepth 100000 in
theorem lL_X_298 : Cond.methodLink "AlikeStore" 298 ⟨"java/lang/Math", "min", "(II)I"⟩ ∈ ev_ws := ev_m 655 (by decide +kernel) rfl
set_option maxRecDepth 100000 in
theorem l_X_301 : Cond.methodLink "AlikeStore" 301 M_X_packPair.1 ∈ ev_ws := ev_m 855 (by decide +kernel) rfl
set_option maxRecDepth 100000 in
theorem l_X_304 : Cond.methodLink "AlikeStore" 304 M_St_farFromAll.1 ∈ ev_ws := ev_m 893 (by decide +kernel) rfl
set_option maxRecDepth 100000 in
theorem l_X_308 : Cond.methodLink "AlikeStore" 308 M_Bu_partInTwo.1 ∈ ev_ws := ev_m 945 (by decide +kernel) rfl
set_option maxRecDepth 100000 in
theorem lL_Bu_3 : Cond.methodLink "AlikeStore$Budgets" 3 ⟨"java/lang/Object", "<init>", "()V"⟩ ∈ ev_ws := ev_m 195 (by decide +kernel) rfl
set_option maxRecDepth 100000 in
theorem lL_Bu_34 : Cond.methodLink "AlikeStore$Budgets" 34 ⟨"java/lang/System", "arraycopy", "(Ljava/lang/Object;ILjava/lang/Object;II)V"⟩ ∈ ev_ws := ev_m 756 (by decide +kernel) rfl
set_option maxRecDepth 100000 in
theorem l_Bu_40 : Cond.methodLink "AlikeStore$Budgets" 40 M_Bu_weigh.1 ∈ ev_ws := ev_m 761 (by decide +kernel) rfl
set_option maxRecDepth 100000 in
theorem l_Bu_44 : Cond.methodLink "AlikeStore$Budgets" 44 M_Bu_tabulate.1 ∈ ev_ws := ev_m 772 (by decide +kernel) rfl
set_option maxRecDepth 100000 in
theorem l_Bu_48 : Cond.methodLink "AlikeStore$Budgets" 48 M_Bu_choose.1 ∈ ev_ws := ev_m 786 (by decide +kernel) rfl
set_option maxRecDepth 100000 in
theorem l_Bu_52 : Cond.methodLink "AlikeStore$Budgets" 52 M_JA_fill.1 ∈ ev_ws := ev_m 765 (by decide +kernel) rfl
set_option maxRecDepth 100000 in
theorem l_Bu_58 : Cond.methodLinkNest "AlikeStore$Budgets" 58 M_X_isIn.1 "AlikeStore" ∈ ev_nest := List.mem_filter.mpr ⟨List.mem_of_getElem? (i := 768) (by decide +kernel), rfl⟩
set_option maxRecDepth 100000 in
theorem l_Bu_62 : Cond.methodLink "AlikeStore$Budgets" 62 M_JL_bitCount.1 ∈ ev_ws := ev_m 771 (by decide +kernel) rfl
set_option maxRecDepth 100000 in
theorem l_Bu_69 : Cond.methodLink "AlikeStore$Budgets" 69 M_Bu_cheapestShare.1 ∈ ev_ws := ev_m 777 (by decide +kernel) rfl
set_option maxRecDepth 100000 in
theorem l_Bu_73 : Cond.methodLink "AlikeStore$Budgets" 73 M_Bu_costWith.1 ∈ ev_ws := ev_m 781 (by decide +kernel) rfl
set_option maxRecDepth 100000 in
theorem lL_Bu_77 : Cond.methodLink "AlikeStore$Budgets" 77 ⟨"java/lang/Math", "min", "(II)I"⟩ ∈ ev_ws := ev_m 785 (by decide +kernel) rfl
set_option maxRecDepth 100000 in
theorem lL_Fi_1 : Cond.methodLink "AlikeStore$Filter" 1 ⟨"java/lang/Object", "<init>", "()V"⟩ ∈ ev_ws := ev_m 494 (by decide +kernel) rfl
set_option maxRecDepth 100000 in
theorem l_Fi_17 : Cond.methodLink "AlikeStore$Filter" 17 M_JA_copyOf_AII.1 ∈ ev_ws := ev_m 495 (by decide +kernel) rfl
set_option maxRecDepth 100000 in
theorem l_Fi_42 : Cond.methodLink "AlikeStore$Filter" 42 M_JA_copyOf_AJI.1 ∈ ev_ws := ev_m 509 (by decide +kernel) rfl
set_option maxRecDepth 100000 in
theorem l_Fi_46 : Cond.methodLink "AlikeStore$Filter" 46 M_Fi_holdsFact.1 ∈ ev_ws := ev_m 571 (by decide +kernel) rfl
set_option maxRecDepth 100000 in
theorem l_Fi_50 : Cond.methodLink "AlikeStore$Filter" 50 M_Fi_valueOf.1 ∈ ev_ws := ev_m 575 (by decide +kernel) rfl
set_option maxRecDepth 100000 in
theorem l_Fi_59 : Cond.methodLink "AlikeStore$Filter" 59 M_JL_bitCount.1 ∈ ev_ws := ev_m 579 (by decide +kernel) rfl
set_option maxRecDepth 100000 in
theorem l_Fi_68 : Cond.methodLinkNest "AlikeStore$Filter" 68 M_X_bitOf.1 "AlikeStore" ∈ ev_nest := List.mem_filter.mpr ⟨List.mem_of_getElem? (i := 585) (by decide +kernel), rfl⟩
set_option maxRecDepth 100000 in
theorem l_Fi_77 : Cond.methodLink "AlikeStore$Filter" 77 M_St_keyOf.1 ∈ ev_ws := ev_m 588 (by decide +kernel) rfl
set_option maxRecDepth 100000 in
theorem l_Fi_81 : Cond.methodLinkNest "AlikeStore$Filter" 81 M_X_unlike.1 "AlikeStore" ∈ ev_nest := List.mem_filter.mpr ⟨List.mem_of_getElem? (i := 592) (by decide +kernel), rfl⟩
set_option maxRecDepth 100000 in
theorem lL_Hi_3 : Cond.methodLink "AlikeStore$History" 3 ⟨"java/lang/Object", "<init>", "()V"⟩ ∈ ev_ws := ev_m 168 (by decide +kernel) rfl
set_option maxRecDepth 100000 in
theorem l_Hi_30 : Cond.methodLink "AlikeStore$History" 30 M_St_init.1 ∈ ev_ws := ev_m 171 (by decide +kernel) rfl
set_option maxRecDepth 100000 in
theorem l_Hi_31 : Cond.methodLink "AlikeStore$History" 31 M_St_become.1 ∈ ev_ws := ev_m 541 (by decide +kernel) rfl
set_option maxRecDepth 100000 in
theorem lL_Ra_3 : Cond.methodLink "AlikeStore$Ranking" 3 ⟨"java/lang/Object", "<init>", "()V"⟩ ∈ ev_ws := ev_m 221 (by decide +kernel) rfl
set_option maxRecDepth 100000 in
theorem l_Ra_25 : Cond.methodLinkNest "AlikeStore$Ranking" 25 M_X_isIn.1 "AlikeStore" ∈ ev_nest := List.mem_filter.mpr ⟨List.mem_of_getElem? (i := 817) (by decide +kernel), rfl⟩
set_option maxRecDepth 100000 in
theorem l_Ra_29 : Cond.methodLinkNest "AlikeStore$Ranking" 29 M_X_unlike.1 "AlikeStore" ∈ ev_nest := List.mem_filter.mpr ⟨List.mem_of_getElem? (i := 818) (by decide +kernel), rfl⟩
set_option maxRecDepth 100000 in
theorem l_Ra_33 : Cond.methodLink "AlikeStore$Ranking" 33 M_Ra_insert.1 ∈ ev_ws := ev_m 819 (by decide +kernel) rfl
set_option maxRecDepth 100000 in
theorem l_Ra_37 : Cond.methodLink "AlikeStore$Ranking" 37 M_JA_fill.1 ∈ ev_ws := ev_m 837 (by decide +kernel) rfl
set_option maxRecDepth 100000 in
theorem lL_Ra_43 : Cond.methodLink "AlikeStore$Ranking" 43 ⟨"java/lang/Math", "min", "(II)I"⟩ ∈ ev_ws := ev_m 838 (by decide +kernel) rfl
set_option maxRecDepth 100000 in
theorem lL_Re_3 : Cond.methodLink "AlikeStore$Reader" 3 ⟨"java/lang/Object", "<init>", "()V"⟩ ∈ ev_ws := ev_m 85 (by decide +kernel) rfl
set_option maxRecDepth 100000 in
theorem l_Re_11 : Cond.methodLinkNest "AlikeStore$Reader" 11 M_Sp_init.1 "AlikeStore" ∈ ev_nest := List.mem_filter.mpr ⟨List.mem_of_getElem? (i := 88) (by decide +kernel), rfl⟩
set_option maxRecDepth 100000 in
theorem l_Re_20 : Cond.methodLinkNest "AlikeStore$Reader" 20 M_Ta_init.1 "AlikeStore" ∈ ev_nest := List.mem_filter.mpr ⟨List.mem_of_getElem? (i := 120) (by decide +kernel), rfl⟩
set_option maxRecDepth 100000 in
theorem l_Re_27 : Cond.methodLink "AlikeStore$Reader" 27 M_St_init.1 ∈ ev_ws := ev_m 135 (by decide +kernel) rfl
set_option maxRecDepth 100000 in
theorem lL_Re_52 : Cond.methodLink "AlikeStore$Reader" 52 ⟨"java/lang/Math", "min", "(II)I"⟩ ∈ ev_ws := ev_m 286 (by decide +kernel) rfl
set_option maxRecDepth 100000 in
theorem l_Re_58 : Cond.methodLink "AlikeStore$Reader" 58 M_St_clear.1 ∈ ev_ws := ev_m 289 (by decide +kernel) rfl
set_option maxRecDepth 100000 in
theorem l_Re_61 : Cond.methodLink "AlikeStore$Reader" 61 M_Re_next.1 ∈ ev_ws := ev_m 293 (by decide +kernel) rfl
set_option maxRecDepth 100000 in
theorem l_Re_66 : Cond.methodLink "AlikeStore$Reader" 66 M_Re_isWord.1 ∈ ev_ws := ev_m 383 (by decide +kernel) rfl
set_option maxRecDepth 100000 in
theorem l_Re_70 : Cond.methodLink "AlikeStore$Reader" 70 M_Re_readBits.1 ∈ ev_ws := ev_m 408 (by decide +kernel) rfl
set_option maxRecDepth 100000 in
theorem l_Re_74 : Cond.methodLink "AlikeStore$Reader" 74 M_St_halve.1 ∈ ev_ws := ev_m 420 (by decide +kernel) rfl
set_option maxRecDepth 100000 in
theorem l_Re_79 : Cond.methodLink "AlikeStore$Reader" 79 M_Re_readParts.1 ∈ ev_ws := ev_m 422 (by decide +kernel) rfl
set_option maxRecDepth 100000 in
theorem l_Re_84 : Cond.methodLink "AlikeStore$Reader" 84 M_Re_readCode.1 ∈ ev_ws := ev_m 427 (by decide +kernel) rfl
set_option maxRecDepth 100000 in
theorem l_Re_89 : Cond.methodLink "AlikeStore$Reader" 89 M_Re_readFilter.1 ∈ ev_ws := ev_m 447 (by decide +kernel) rfl
set_option maxRecDepth 100000 in
theorem lL_Re_94 : Cond.methodLink "AlikeStore$Reader" 94 ⟨"java/lang/String", "indexOf", "(I)I"⟩ ∈ ev_ws := ev_m 298 (by decide +kernel) rfl
set_option maxRecDepth 100000 in
theorem lL_Re_100 : Cond.methodLink "AlikeStore$Reader" 100 ⟨"java/lang/String", "length", "()I"⟩ ∈ ev_ws := ev_m 387 (by decide +kernel) rfl
set_option maxRecDepth 100000 in
theorem lL_Re_102 : Cond.methodLink "AlikeStore$Reader" 102 ⟨"java/lang/String", "charAt", "(I)C"⟩ ∈ ev_ws := ev_m 388 (by decide +kernel) rfl
set_option maxRecDepth 100000 in
theorem l_Re_112 : Cond.methodLink "AlikeStore$Reader" 112 M_Re_number.1 ∈ ev_ws := ev_m 412 (by decide +kernel) rfl
set_option maxRecDepth 100000 in
theorem l_Re_115 : Cond.methodLink "AlikeStore$Reader" 115 M_Re_sign.1 ∈ ev_ws := ev_m 416 (by decide +kernel) rfl
set_option maxRecDepth 100000 in
theorem l_Re_127 : Cond.methodLink "AlikeStore$Reader" 127 M_Re_binary.1 ∈ ev_ws := ev_m 431 (by decide +kernel) rfl
set_option maxRecDepth 100000 in
theorem l_Re_131 : Cond.methodLink "AlikeStore$Reader" 131 M_St_whereIs.1 ∈ ev_ws := ev_m 437 (by decide +kernel) rfl
set_option maxRecDepth 100000 in
theorem l_Re_137 : Cond.methodLink "AlikeStore$Reader" 137 M_St_append.1 ∈ ev_ws := ev_m 442 (by decide +kernel) rfl
set_option maxRecDepth 100000 in
theorem l_Re_145 : Cond.methodLink "AlikeStore$Reader" 145 M_Re_readTest.1 ∈ ev_ws := ev_m 451 (by decide +kernel) rfl
set_option maxRecDepth 100000 in
theorem l_Re_150 : Cond.methodLink "AlikeStore$Reader" 150 M_Fi_init.1 ∈ ev_ws := ev_m 491 (by decide +kernel) rfl
set_option maxRecDepth 100000 in
theorem l_Re_153 : Cond.methodLink "AlikeStore$Reader" 153 M_Re_readSide.1 ∈ ev_ws := ev_m 455 (by decide +kernel) rfl
set_option maxRecDepth 100000 in
theorem l_Re_158 : Cond.methodLink "AlikeStore$Reader" 158 M_Sp_join.1 ∈ ev_ws := ev_m 482 (by decide +kernel) rfl
set_option maxRecDepth 100000 in
theorem l_Re_162 : Cond.methodLink "AlikeStore$Reader" 162 M_Re_readFact.1 ∈ ev_ws := ev_m 459 (by decide +kernel) rfl
set_option maxRecDepth 100000 in
theorem l_Re_169 : Cond.methodLink "AlikeStore$Reader" 169 M_Re_valueKind.1 ∈ ev_ws := ev_m 464 (by decide +kernel) rfl
set_option maxRecDepth 100000 in
theorem l_Re_172 : Cond.methodLink "AlikeStore$Reader" 172 M_Re_readComparison.1 ∈ ev_ws := ev_m 473 (by decide +kernel) rfl
set_option maxRecDepth 100000 in
theorem l_Re_176 : Cond.methodLink "AlikeStore$Reader" 176 M_Sp_put.1 ∈ ev_ws := ev_m 478 (by decide +kernel) rfl
set_option maxRecDepth 100000 in
theorem lL_Sp_3 : Cond.methodLink "AlikeStore$Steps" 3 ⟨"java/lang/Object", "<init>", "()V"⟩ ∈ ev_ws := ev_m 91 (by decide +kernel) rfl
set_option maxRecDepth 100000 in
theorem l_Sp_32 : Cond.methodLink "AlikeStore$Steps" 32 M_Sp_put.1 ∈ ev_ws := ev_m 486 (by decide +kernel) rfl
set_option maxRecDepth 100000 in
theorem lL_St_3 : Cond.methodLink "AlikeStore$Store" 3 ⟨"java/lang/Object", "<init>", "()V"⟩ ∈ ev_ws := ev_m 34 (by decide +kernel) rfl
set_option maxRecDepth 100000 in
theorem l_St_36 : Cond.methodLink "AlikeStore$Store" 36 M_St_halve.1 ∈ ev_ws := ev_m 35 (by decide +kernel) rfl
set_option maxRecDepth 100000 in
theorem lL_St_39 : Cond.methodLink "AlikeStore$Store" 39 ⟨"java/lang/System", "arraycopy", "(Ljava/lang/Object;ILjava/lang/Object;II)V"⟩ ∈ ev_ws := ev_m 545 (by decide +kernel) rfl
set_option maxRecDepth 100000 in
theorem l_St_45 : Cond.methodLinkNest "AlikeStore$Store" 45 M_X_bitOf.1 "AlikeStore" ∈ ev_nest := List.mem_filter.mpr ⟨List.mem_of_getElem? (i := 694) (by decide +kernel), rfl⟩
set_option maxRecDepth 100000 in
theorem lL_St_49 : Cond.methodLink "AlikeStore$Store" 49 ⟨"java/lang/Math", "min", "(II)I"⟩ ∈ ev_ws := ev_m 707 (by decide +kernel) rfl
set_option maxRecDepth 100000 in
theorem l_St_55 : Cond.methodLink "AlikeStore$Store" 55 M_St_all.1 ∈ ev_ws := ev_m 563 (by decide +kernel) rfl
set_option maxRecDepth 100000 in
theorem l_St_59 : Cond.methodLink "AlikeStore$Store" 59 M_Fi_holds.1 ∈ ev_ws := ev_m 567 (by decide +kernel) rfl
set_option maxRecDepth 100000 in
theorem l_St_65 : Cond.methodLinkNest "AlikeStore$Store" 65 M_X_isIn.1 "AlikeStore" ∈ ev_nest := List.mem_filter.mpr ⟨List.mem_of_getElem? (i := 807) (by decide +kernel), rfl⟩
set_option maxRecDepth 100000 in
theorem l_St_69 : Cond.methodLinkNest "AlikeStore$Store" 69 M_X_unlike.1 "AlikeStore" ∈ ev_nest := List.mem_filter.mpr ⟨List.mem_of_getElem? (i := 808) (by decide +kernel), rfl⟩
set_option maxRecDepth 100000 in
theorem l_St_73 : Cond.methodLink "AlikeStore$Store" 73 M_St_keyOf.1 ∈ ev_ws := ev_m 933 (by decide +kernel) rfl
set_option maxRecDepth 100000 in
theorem lL_Ta_3 : Cond.methodLink "AlikeStore$Tape" 3 ⟨"java/lang/Object", "<init>", "()V"⟩ ∈ ev_ws := ev_m 123 (by decide +kernel) rfl
set_option maxRecDepth 100000 in
theorem l_La_9 : Cond.methodLink "AlikeStoreLaw" 9 M_X_init.1 ∈ ev_ws := ev_m 23 (by decide +kernel) rfl
set_option maxRecDepth 100000 in
theorem l_La_12 : Cond.methodLink "AlikeStoreLaw" 12 M_Mo_init.1 ∈ ev_ws := ev_m 955 (by decide +kernel) rfl
set_option maxRecDepth 100000 in
theorem l_La_13 : Cond.methodLink "AlikeStoreLaw" 13 M_X_status.1 ∈ ev_ws := ev_m 262 (by decide +kernel) rfl
set_option maxRecDepth 100000 in
theorem l_La_17 : Cond.methodLink "AlikeStoreLaw" 17 M_Mo_status.1 ∈ ev_ws := ev_m 1050 (by decide +kernel) rfl
set_option maxRecDepth 100000 in
theorem l_La_18 : Cond.methodLink "AlikeStoreLaw" 18 M_X_feed.1 ∈ ev_ws := ev_m 266 (by decide +kernel) rfl
set_option maxRecDepth 100000 in
theorem l_La_22 : Cond.methodLink "AlikeStoreLaw" 22 M_Mo_feed.1 ∈ ev_ws := ev_m 1054 (by decide +kernel) rfl
set_option maxRecDepth 100000 in
theorem l_La_23 : Cond.methodLink "AlikeStoreLaw" 23 M_X_load.1 ∈ ev_ws := ev_m 274 (by decide +kernel) rfl
set_option maxRecDepth 100000 in
theorem l_La_27 : Cond.methodLink "AlikeStoreLaw" 27 M_Mo_load.1 ∈ ev_ws := ev_m 1062 (by decide +kernel) rfl
set_option maxRecDepth 100000 in
theorem l_La_28 : Cond.methodLink "AlikeStoreLaw" 28 M_X_fault.1 ∈ ev_ws := ev_m 551 (by decide +kernel) rfl
set_option maxRecDepth 100000 in
theorem l_La_31 : Cond.methodLink "AlikeStoreLaw" 31 M_Mo_fault.1 ∈ ev_ws := ev_m 1205 (by decide +kernel) rfl
set_option maxRecDepth 100000 in
theorem l_La_32 : Cond.methodLink "AlikeStoreLaw" 32 M_X_many.1 ∈ ev_ws := ev_m 555 (by decide +kernel) rfl
set_option maxRecDepth 100000 in
theorem l_La_35 : Cond.methodLink "AlikeStoreLaw" 35 M_Mo_many_I.1 ∈ ev_ws := ev_m 1209 (by decide +kernel) rfl
set_option maxRecDepth 100000 in
theorem l_La_36 : Cond.methodLink "AlikeStoreLaw" 36 M_X_code.1 ∈ ev_ws := ev_m 602 (by decide +kernel) rfl
set_option maxRecDepth 100000 in
theorem l_La_40 : Cond.methodLink "AlikeStoreLaw" 40 M_Mo_code.1 ∈ ev_ws := ev_m 1240 (by decide +kernel) rfl
set_option maxRecDepth 100000 in
theorem l_La_41 : Cond.methodLink "AlikeStoreLaw" 41 M_X_tagOf.1 ∈ ev_ws := ev_m 614 (by decide +kernel) rfl
set_option maxRecDepth 100000 in
theorem l_La_44 : Cond.methodLink "AlikeStoreLaw" 44 M_Mo_tagOf.1 ∈ ev_ws := ev_m 1252 (by decide +kernel) rfl
set_option maxRecDepth 100000 in
theorem l_La_45 : Cond.methodLink "AlikeStoreLaw" 45 M_X_breadth.1 ∈ ev_ws := ev_m 618 (by decide +kernel) rfl
set_option maxRecDepth 100000 in
theorem l_La_48 : Cond.methodLink "AlikeStoreLaw" 48 M_Mo_breadth.1 ∈ ev_ws := ev_m 1256 (by decide +kernel) rfl
set_option maxRecDepth 100000 in
theorem l_La_49 : Cond.methodLink "AlikeStoreLaw" 49 M_X_key.1 ∈ ev_ws := ev_m 626 (by decide +kernel) rfl
set_option maxRecDepth 100000 in
theorem l_La_53 : Cond.methodLink "AlikeStoreLaw" 53 M_Mo_key_II.1 ∈ ev_ws := ev_m 1264 (by decide +kernel) rfl
set_option maxRecDepth 100000 in
theorem l_La_56 : Cond.methodLink "AlikeStoreLaw" 56 M_X_far.1 ∈ ev_ws := ev_m 631 (by decide +kernel) rfl
set_option maxRecDepth 100000 in
theorem l_La_60 : Cond.methodLink "AlikeStoreLaw" 60 M_Mo_far.1 ∈ ev_ws := ev_m 1268 (by decide +kernel) rfl
set_option maxRecDepth 100000 in
theorem l_La_61 : Cond.methodLink "AlikeStoreLaw" 61 M_X_measure.1 ∈ ev_ws := ev_m 640 (by decide +kernel) rfl
set_option maxRecDepth 100000 in
theorem l_La_65 : Cond.methodLink "AlikeStoreLaw" 65 M_Mo_measure.1 ∈ ev_ws := ev_m 1276 (by decide +kernel) rfl
set_option maxRecDepth 100000 in
theorem l_La_66 : Cond.methodLink "AlikeStoreLaw" 66 M_X_find.1 ∈ ev_ws := ev_m 660 (by decide +kernel) rfl
set_option maxRecDepth 100000 in
theorem l_La_70 : Cond.methodLink "AlikeStoreLaw" 70 M_Mo_find.1 ∈ ev_ws := ev_m 1291 (by decide +kernel) rfl
set_option maxRecDepth 100000 in
theorem l_La_71 : Cond.methodLink "AlikeStoreLaw" 71 M_X_add.1 ∈ ev_ws := ev_m 665 (by decide +kernel) rfl
set_option maxRecDepth 100000 in
theorem l_La_74 : Cond.methodLink "AlikeStoreLaw" 74 M_Mo_add.1 ∈ ev_ws := ev_m 1295 (by decide +kernel) rfl
set_option maxRecDepth 100000 in
theorem l_La_75 : Cond.methodLink "AlikeStoreLaw" 75 M_X_strike.1 ∈ ev_ws := ev_m 670 (by decide +kernel) rfl
set_option maxRecDepth 100000 in
theorem l_La_78 : Cond.methodLink "AlikeStoreLaw" 78 M_Mo_strike.1 ∈ ev_ws := ev_m 1299 (by decide +kernel) rfl
set_option maxRecDepth 100000 in
theorem l_La_79 : Cond.methodLink "AlikeStoreLaw" 79 M_X_flip.1 ∈ ev_ws := ev_m 678 (by decide +kernel) rfl
set_option maxRecDepth 100000 in
theorem l_La_82 : Cond.methodLink "AlikeStoreLaw" 82 M_Mo_flip.1 ∈ ev_ws := ev_m 1303 (by decide +kernel) rfl
set_option maxRecDepth 100000 in
theorem l_La_83 : Cond.methodLink "AlikeStoreLaw" 83 M_X_swap.1 ∈ ev_ws := ev_m 686 (by decide +kernel) rfl
set_option maxRecDepth 100000 in
theorem l_La_86 : Cond.methodLink "AlikeStoreLaw" 86 M_Mo_swap.1 ∈ ev_ws := ev_m 1311 (by decide +kernel) rfl
set_option maxRecDepth 100000 in
theorem l_La_87 : Cond.methodLink "AlikeStoreLaw" 87 M_X_tag.1 ∈ ev_ws := ev_m 695 (by decide +kernel) rfl
set_option maxRecDepth 100000 in
theorem l_La_90 : Cond.methodLink "AlikeStoreLaw" 90 M_Mo_tag.1 ∈ ev_ws := ev_m 1315 (by decide +kernel) rfl
set_option maxRecDepth 100000 in
theorem l_La_91 : Cond.methodLink "AlikeStoreLaw" 91 M_X_split.1 ∈ ev_ws := ev_m 699 (by decide +kernel) rfl
set_option maxRecDepth 100000 in
theorem l_La_94 : Cond.methodLink "AlikeStoreLaw" 94 M_Mo_split.1 ∈ ev_ws := ev_m 1320 (by decide +kernel) rfl
set_option maxRecDepth 100000 in
theorem l_La_95 : Cond.methodLink "AlikeStoreLaw" 95 M_X_merge.1 ∈ ev_ws := ev_m 708 (by decide +kernel) rfl
set_option maxRecDepth 100000 in
theorem l_La_98 : Cond.methodLink "AlikeStoreLaw" 98 M_Mo_merge.1 ∈ ev_ws := ev_m 1324 (by decide +kernel) rfl
set_option maxRecDepth 100000 in
theorem l_La_99 : Cond.methodLink "AlikeStoreLaw" 99 M_X_open.1 ∈ ev_ws := ev_m 716 (by decide +kernel) rfl
set_option maxRecDepth 100000 in
theorem l_La_102 : Cond.methodLink "AlikeStoreLaw" 102 M_Mo_open.1 ∈ ev_ws := ev_m 1328 (by decide +kernel) rfl
set_option maxRecDepth 100000 in
theorem l_La_103 : Cond.methodLink "AlikeStoreLaw" 103 M_X_undo.1 ∈ ev_ws := ev_m 720 (by decide +kernel) rfl
set_option maxRecDepth 100000 in
theorem l_La_106 : Cond.methodLink "AlikeStoreLaw" 106 M_Mo_undo.1 ∈ ev_ws := ev_m 1332 (by decide +kernel) rfl
set_option maxRecDepth 100000 in
theorem l_La_107 : Cond.methodLink "AlikeStoreLaw" 107 M_X_mark.1 ∈ ev_ws := ev_m 728 (by decide +kernel) rfl
set_option maxRecDepth 100000 in
theorem l_La_110 : Cond.methodLink "AlikeStoreLaw" 110 M_Mo_mark.1 ∈ ev_ws := ev_m 1336 (by decide +kernel) rfl
set_option maxRecDepth 100000 in
theorem l_La_111 : Cond.methodLink "AlikeStoreLaw" 111 M_X_back.1 ∈ ev_ws := ev_m 736 (by decide +kernel) rfl
set_option maxRecDepth 100000 in
theorem l_La_114 : Cond.methodLink "AlikeStoreLaw" 114 M_Mo_back.1 ∈ ev_ws := ev_m 1340 (by decide +kernel) rfl
set_option maxRecDepth 100000 in
theorem l_La_115 : Cond.methodLink "AlikeStoreLaw" 115 M_X_budget.1 ∈ ev_ws := ev_m 744 (by decide +kernel) rfl
set_option maxRecDepth 100000 in
theorem l_La_119 : Cond.methodLink "AlikeStoreLaw" 119 M_Mo_budget.1 ∈ ev_ws := ev_m 1344 (by decide +kernel) rfl
set_option maxRecDepth 100000 in
theorem l_La_120 : Cond.methodLink "AlikeStoreLaw" 120 M_X_cost.1 ∈ ev_ws := ev_m 790 (by decide +kernel) rfl
set_option maxRecDepth 100000 in
theorem l_La_123 : Cond.methodLink "AlikeStoreLaw" 123 M_Mo_cost.1 ∈ ev_ws := ev_m 1370 (by decide +kernel) rfl
set_option maxRecDepth 100000 in
theorem l_La_124 : Cond.methodLink "AlikeStoreLaw" 124 M_X_near.1 ∈ ev_ws := ev_m 795 (by decide +kernel) rfl
set_option maxRecDepth 100000 in
theorem l_La_127 : Cond.methodLink "AlikeStoreLaw" 127 M_Mo_near.1 ∈ ev_ws := ev_m 1374 (by decide +kernel) rfl
set_option maxRecDepth 100000 in
theorem l_La_128 : Cond.methodLink "AlikeStoreLaw" 128 M_X_ranked.1 ∈ ev_ws := ev_m 809 (by decide +kernel) rfl
set_option maxRecDepth 100000 in
theorem l_La_132 : Cond.methodLink "AlikeStoreLaw" 132 M_Mo_ranked.1 ∈ ev_ws := ev_m 1387 (by decide +kernel) rfl
set_option maxRecDepth 100000 in
theorem l_La_133 : Cond.methodLink "AlikeStoreLaw" 133 M_X_grown.1 ∈ ev_ws := ev_m 823 (by decide +kernel) rfl
set_option maxRecDepth 100000 in
theorem l_La_136 : Cond.methodLink "AlikeStoreLaw" 136 M_Mo_grown.1 ∈ ev_ws := ev_m 1395 (by decide +kernel) rfl
set_option maxRecDepth 100000 in
theorem l_La_137 : Cond.methodLink "AlikeStoreLaw" 137 M_X_apart.1 ∈ ev_ws := ev_m 829 (by decide +kernel) rfl
set_option maxRecDepth 100000 in
theorem l_La_141 : Cond.methodLink "AlikeStoreLaw" 141 M_Mo_apart.1 ∈ ev_ws := ev_m 1399 (by decide +kernel) rfl
set_option maxRecDepth 100000 in
theorem l_La_142 : Cond.methodLink "AlikeStoreLaw" 142 M_X_pairs.1 ∈ ev_ws := ev_m 839 (by decide +kernel) rfl
set_option maxRecDepth 100000 in
theorem l_La_145 : Cond.methodLink "AlikeStoreLaw" 145 M_Mo_pairs.1 ∈ ev_ws := ev_m 1404 (by decide +kernel) rfl
set_option maxRecDepth 100000 in
theorem l_La_146 : Cond.methodLink "AlikeStoreLaw" 146 M_X_pair.1 ∈ ev_ws := ev_m 847 (by decide +kernel) rfl
set_option maxRecDepth 100000 in
theorem l_La_149 : Cond.methodLink "AlikeStoreLaw" 149 M_Mo_pair.1 ∈ ev_ws := ev_m 1412 (by decide +kernel) rfl
set_option maxRecDepth 100000 in
theorem l_La_150 : Cond.methodLink "AlikeStoreLaw" 150 M_X_joined.1 ∈ ev_ws := ev_m 862 (by decide +kernel) rfl
set_option maxRecDepth 100000 in
theorem l_La_153 : Cond.methodLink "AlikeStoreLaw" 153 M_Mo_joined.1 ∈ ev_ws := ev_m 1416 (by decide +kernel) rfl
set_option maxRecDepth 100000 in
theorem l_La_154 : Cond.methodLink "AlikeStoreLaw" 154 M_X_closest.1 ∈ ev_ws := ev_m 866 (by decide +kernel) rfl
set_option maxRecDepth 100000 in
theorem l_La_157 : Cond.methodLink "AlikeStoreLaw" 157 M_Mo_closest.1 ∈ ev_ws := ev_m 1420 (by decide +kernel) rfl
set_option maxRecDepth 100000 in
theorem l_La_158 : Cond.methodLink "AlikeStoreLaw" 158 M_X_clusters.1 ∈ ev_ws := ev_m 874 (by decide +kernel) rfl
set_option maxRecDepth 100000 in
theorem l_La_161 : Cond.methodLink "AlikeStoreLaw" 161 M_Mo_clusters.1 ∈ ev_ws := ev_m 1424 (by decide +kernel) rfl
set_option maxRecDepth 100000 in
theorem l_La_162 : Cond.methodLink "AlikeStoreLaw" 162 M_X_cluster.1 ∈ ev_ws := ev_m 885 (by decide +kernel) rfl
set_option maxRecDepth 100000 in
theorem l_La_165 : Cond.methodLink "AlikeStoreLaw" 165 M_Mo_cluster.1 ∈ ev_ws := ev_m 1435 (by decide +kernel) rfl
set_option maxRecDepth 100000 in
theorem l_La_166 : Cond.methodLink "AlikeStoreLaw" 166 M_X_vote.1 ∈ ev_ws := ev_m 897 (by decide +kernel) rfl
set_option maxRecDepth 100000 in
theorem l_La_169 : Cond.methodLink "AlikeStoreLaw" 169 M_Mo_vote.1 ∈ ev_ws := ev_m 1443 (by decide +kernel) rfl
set_option maxRecDepth 100000 in
theorem l_La_170 : Cond.methodLink "AlikeStoreLaw" 170 M_X_like.1 ∈ ev_ws := ev_m 906 (by decide +kernel) rfl
set_option maxRecDepth 100000 in
theorem l_La_174 : Cond.methodLink "AlikeStoreLaw" 174 M_Mo_like.1 ∈ ev_ws := ev_m 1448 (by decide +kernel) rfl
set_option maxRecDepth 100000 in
theorem l_La_175 : Cond.methodLink "AlikeStoreLaw" 175 M_X_ones.1 ∈ ev_ws := ev_m 910 (by decide +kernel) rfl
set_option maxRecDepth 100000 in
theorem l_La_178 : Cond.methodLink "AlikeStoreLaw" 178 M_Mo_ones_I.1 ∈ ev_ws := ev_m 1452 (by decide +kernel) rfl
set_option maxRecDepth 100000 in
theorem l_La_179 : Cond.methodLink "AlikeStoreLaw" 179 M_X_telling.1 ∈ ev_ws := ev_m 914 (by decide +kernel) rfl
set_option maxRecDepth 100000 in
theorem l_La_182 : Cond.methodLink "AlikeStoreLaw" 182 M_Mo_telling.1 ∈ ev_ws := ev_m 1460 (by decide +kernel) rfl
set_option maxRecDepth 100000 in
theorem l_La_183 : Cond.methodLink "AlikeStoreLaw" 183 M_X_alike.1 ∈ ev_ws := ev_m 921 (by decide +kernel) rfl
set_option maxRecDepth 100000 in
theorem l_La_186 : Cond.methodLink "AlikeStoreLaw" 186 M_Mo_alike.1 ∈ ev_ws := ev_m 1464 (by decide +kernel) rfl
set_option maxRecDepth 100000 in
theorem l_La_187 : Cond.methodLink "AlikeStoreLaw" 187 M_X_spread.1 ∈ ev_ws := ev_m 925 (by decide +kernel) rfl
set_option maxRecDepth 100000 in
theorem l_La_190 : Cond.methodLink "AlikeStoreLaw" 190 M_Mo_spread.1 ∈ ev_ws := ev_m 1468 (by decide +kernel) rfl
set_option maxRecDepth 100000 in
theorem l_La_191 : Cond.methodLink "AlikeStoreLaw" 191 M_X_parted.1 ∈ ev_ws := ev_m 934 (by decide +kernel) rfl
set_option maxRecDepth 100000 in
theorem l_La_194 : Cond.methodLink "AlikeStoreLaw" 194 M_Mo_parted.1 ∈ ev_ws := ev_m 1472 (by decide +kernel) rfl
set_option maxRecDepth 100000 in
theorem l_La_195 : Cond.methodLink "AlikeStoreLaw" 195 M_X_bestPart.1 ∈ ev_ws := ev_m 949 (by decide +kernel) rfl
set_option maxRecDepth 100000 in
theorem l_La_198 : Cond.methodLink "AlikeStoreLaw" 198 M_Mo_bestPart.1 ∈ ev_ws := ev_m 1485 (by decide +kernel) rfl
set_option maxRecDepth 100000 in
theorem lL_Mo_1 : Cond.methodLink "AlikeStoreModel" 1 ⟨"java/lang/Object", "<init>", "()V"⟩ ∈ ev_ws := ev_m 958 (by decide +kernel) rfl
set_option maxRecDepth 100000 in
theorem l_Mo_51 : Cond.methodLink "AlikeStoreModel" 51 M_Mo_begins.1 ∈ ev_ws := ev_m 960 (by decide +kernel) rfl
set_option maxRecDepth 100000 in
theorem l_Mo_60 : Cond.methodLink "AlikeStoreModel" 60 M_Mo_puts.1 ∈ ev_ws := ev_m 964 (by decide +kernel) rfl
set_option maxRecDepth 100000 in
theorem l_Mo_64 : Cond.methodLink "AlikeStoreModel" 64 M_Mo_of.1 ∈ ev_ws := ev_m 973 (by decide +kernel) rfl
set_option maxRecDepth 100000 in
theorem l_Mo_68 : Cond.methodLink "AlikeStoreModel" 68 M_Mo_halves.1 ∈ ev_ws := ev_m 968 (by decide +kernel) rfl
set_option maxRecDepth 100000 in
theorem l_Mo_71 : Cond.methodLink "AlikeStoreModel" 71 M_Mo_many_0.1 ∈ ev_ws := ev_m 1144 (by decide +kernel) rfl
set_option maxRecDepth 100000 in
theorem l_Mo_75 : Cond.methodLink "AlikeStoreModel" 75 M_Mo_parts.1 ∈ ev_ws := ev_m 1128 (by decide +kernel) rfl
set_option maxRecDepth 100000 in
theorem l_Mo_78 : Cond.methodLink "AlikeStoreModel" 78 M_Mo_bits.1 ∈ ev_ws := ev_m 1132 (by decide +kernel) rfl
set_option maxRecDepth 100000 in
theorem l_Mo_81 : Cond.methodLink "AlikeStoreModel" 81 M_Mo_breadthOf.1 ∈ ev_ws := ev_m 1233 (by decide +kernel) rfl
set_option maxRecDepth 100000 in
theorem l_Mo_85 : Cond.methodLink "AlikeStoreModel" 85 M_Mo_codeOf.1 ∈ ev_ws := ev_m 1156 (by decide +kernel) rfl
set_option maxRecDepth 100000 in
theorem l_Mo_88 : Cond.methodLink "AlikeStoreModel" 88 M_Mo_ones_J.1 ∈ ev_ws := ev_m 1226 (by decide +kernel) rfl
set_option maxRecDepth 100000 in
theorem l_Mo_92 : Cond.methodLink "AlikeStoreModel" 92 M_Mo_keyOf.1 ∈ ev_ws := ev_m 1229 (by decide +kernel) rfl
set_option maxRecDepth 100000 in
theorem l_Mo_98 : Cond.methodLink "AlikeStoreModel" 98 M_Mo_valueOf.1 ∈ ev_ws := ev_m 1222 (by decide +kernel) rfl
set_option maxRecDepth 100000 in
theorem l_Mo_102 : Cond.methodLink "AlikeStoreModel" 102 M_Mo_two.1 ∈ ev_ws := ev_m 1237 (by decide +kernel) rfl
set_option maxRecDepth 100000 in
theorem l_Mo_106 : Cond.methodLink "AlikeStoreModel" 106 M_Mo_isCounting.1 ∈ ev_ws := ev_m 1217 (by decide +kernel) rfl
set_option maxRecDepth 100000 in
theorem l_Mo_113 : Cond.methodLink "AlikeStoreModel" 113 M_Mo_four.1 ∈ ev_ws := ev_m 1058 (by decide +kernel) rfl
set_option maxRecDepth 100000 in
theorem l_Mo_122 : Cond.methodLink "AlikeStoreModel" 122 M_Mo_byteAt.1 ∈ ev_ws := ev_m 1081 (by decide +kernel) rfl
set_option maxRecDepth 100000 in
theorem l_Mo_131 : Cond.methodLink "AlikeStoreModel" 131 M_Mo_isSmall.1 ∈ ev_ws := ev_m 1085 (by decide +kernel) rfl
set_option maxRecDepth 100000 in
theorem l_Mo_134 : Cond.methodLink "AlikeStoreModel" 134 M_Mo_isDigit.1 ∈ ev_ws := ev_m 1088 (by decide +kernel) rfl
set_option maxRecDepth 100000 in
theorem lL_Mo_139 : Cond.methodLink "AlikeStoreModel" 139 ⟨"java/lang/String", "length", "()I"⟩ ∈ ev_ws := ev_m 1096 (by decide +kernel) rfl
set_option maxRecDepth 100000 in
theorem lL_Mo_144 : Cond.methodLink "AlikeStoreModel" 144 ⟨"java/lang/String", "charAt", "(I)C"⟩ ∈ ev_ws := ev_m 1097 (by decide +kernel) rfl
set_option maxRecDepth 100000 in
theorem l_Mo_151 : Cond.methodLink "AlikeStoreModel" 151 M_Mo_ahead.1 ∈ ev_ws := ev_m 1077 (by decide +kernel) rfl
set_option maxRecDepth 100000 in
theorem l_Mo_154 : Cond.methodLink "AlikeStoreModel" 154 M_Mo_isSign.1 ∈ ev_ws := ev_m 1116 (by decide +kernel) rfl
set_option maxRecDepth 100000 in
theorem l_Mo_157 : Cond.methodLink "AlikeStoreModel" 157 M_Mo_takes.1 ∈ ev_ws := ev_m 1120 (by decide +kernel) rfl
set_option maxRecDepth 100000 in
theorem l_Mo_161 : Cond.methodLink "AlikeStoreModel" 161 M_Mo_fails.1 ∈ ev_ws := ev_m 1106 (by decide +kernel) rfl
set_option maxRecDepth 100000 in
theorem l_Mo_172 : Cond.methodLink "AlikeStoreModel" 172 M_Mo_isFrom.1 ∈ ev_ws := ev_m 1066 (by decide +kernel) rfl
set_option maxRecDepth 100000 in
theorem l_Mo_179 : Cond.methodLink "AlikeStoreModel" 179 M_Mo_emits.1 ∈ ev_ws := ev_m 1184 (by decide +kernel) rfl
set_option maxRecDepth 100000 in
theorem l_Mo_182 : Cond.methodLink "AlikeStoreModel" 182 M_Mo_rises.1 ∈ ev_ws := ev_m 1188 (by decide +kernel) rfl
set_option maxRecDepth 100000 in
theorem l_Mo_185 : Cond.methodLink "AlikeStoreModel" 185 M_Mo_side.1 ∈ ev_ws := ev_m 1168 (by decide +kernel) rfl
set_option maxRecDepth 100000 in
theorem l_Mo_188 : Cond.methodLink "AlikeStoreModel" 188 M_Mo_key_0.1 ∈ ev_ws := ev_m 1091 (by decide +kernel) rfl
set_option maxRecDepth 100000 in
theorem l_Mo_191 : Cond.methodLink "AlikeStoreModel" 191 M_Mo_fact.1 ∈ ev_ws := ev_m 1172 (by decide +kernel) rfl
set_option maxRecDepth 100000 in
theorem l_Mo_194 : Cond.methodLink "AlikeStoreModel" 194 M_Mo_isBinaryHere.1 ∈ ev_ws := ev_m 1148 (by decide +kernel) rfl
set_option maxRecDepth 100000 in
theorem l_Mo_197 : Cond.methodLink "AlikeStoreModel" 197 M_Mo_isNumberHere.1 ∈ ev_ws := ev_m 1102 (by decide +kernel) rfl
set_option maxRecDepth 100000 in
theorem l_Mo_201 : Cond.methodLink "AlikeStoreModel" 201 M_Mo_sinks.1 ∈ ev_ws := ev_m 1176 (by decide +kernel) rfl
set_option maxRecDepth 100000 in
theorem l_Mo_204 : Cond.methodLink "AlikeStoreModel" 204 M_Mo_emitsNot.1 ∈ ev_ws := ev_m 1180 (by decide +kernel) rfl
set_option maxRecDepth 100000 in
theorem l_Mo_207 : Cond.methodLink "AlikeStoreModel" 207 M_Mo_test.1 ∈ ev_ws := ev_m 1164 (by decide +kernel) rfl
set_option maxRecDepth 100000 in
theorem l_Mo_210 : Cond.methodLink "AlikeStoreModel" 210 M_Mo_takesSign.1 ∈ ev_ws := ev_m 1112 (by decide +kernel) rfl
set_option maxRecDepth 100000 in
theorem l_Mo_213 : Cond.methodLink "AlikeStoreModel" 213 M_Mo_valueHere.1 ∈ ev_ws := ev_m 1192 (by decide +kernel) rfl
set_option maxRecDepth 100000 in
theorem l_Mo_217 : Cond.methodLink "AlikeStoreModel" 217 M_Mo_found.1 ∈ ev_ws := ev_m 1152 (by decide +kernel) rfl
set_option maxRecDepth 100000 in
theorem l_Mo_220 : Cond.methodLink "AlikeStoreModel" 220 M_Mo_aCode.1 ∈ ev_ws := ev_m 1140 (by decide +kernel) rfl
set_option maxRecDepth 100000 in
theorem l_Mo_223 : Cond.methodLink "AlikeStoreModel" 223 M_Mo_aFilter.1 ∈ ev_ws := ev_m 1160 (by decide +kernel) rfl
set_option maxRecDepth 100000 in
theorem l_Mo_226 : Cond.methodLink "AlikeStoreModel" 226 M_Mo_refuse.1 ∈ ev_ws := ev_m 1069 (by decide +kernel) rfl
set_option maxRecDepth 100000 in
theorem l_Mo_229 : Cond.methodLink "AlikeStoreModel" 229 M_Mo_copies.1 ∈ ev_ws := ev_m 1073 (by decide +kernel) rfl
set_option maxRecDepth 100000 in
theorem l_Mo_233 : Cond.methodLink "AlikeStoreModel" 233 M_Mo_theBits.1 ∈ ev_ws := ev_m 1098 (by decide +kernel) rfl
set_option maxRecDepth 100000 in
theorem l_Mo_236 : Cond.methodLink "AlikeStoreModel" 236 M_Mo_theParts.1 ∈ ev_ws := ev_m 1124 (by decide +kernel) rfl
set_option maxRecDepth 100000 in
theorem l_Mo_239 : Cond.methodLink "AlikeStoreModel" 239 M_Mo_aLine.1 ∈ ev_ws := ev_m 1136 (by decide +kernel) rfl
set_option maxRecDepth 100000 in
theorem l_Mo_242 : Cond.methodLink "AlikeStoreModel" 242 M_Mo_acted.1 ∈ ev_ws := ev_m 1197 (by decide +kernel) rfl
set_option maxRecDepth 100000 in
theorem l_Mo_245 : Cond.methodLink "AlikeStoreModel" 245 M_Mo_gives_I.1 ∈ ev_ws := ev_m 1201 (by decide +kernel) rfl
set_option maxRecDepth 100000 in
theorem l_Mo_248 : Cond.methodLink "AlikeStoreModel" 248 M_Mo_counting.1 ∈ ev_ws := ev_m 1213 (by decide +kernel) rfl
set_option maxRecDepth 100000 in
theorem l_Mo_258 : Cond.methodLink "AlikeStoreModel" 258 M_Mo_isCode.1 ∈ ev_ws := ev_m 1244 (by decide +kernel) rfl
set_option maxRecDepth 100000 in
theorem l_Mo_261 : Cond.methodLink "AlikeStoreModel" 261 M_Mo_gives_J.1 ∈ ev_ws := ev_m 1248 (by decide +kernel) rfl
set_option maxRecDepth 100000 in
theorem l_Mo_264 : Cond.methodLink "AlikeStoreModel" 264 M_Mo_isPart.1 ∈ ev_ws := ev_m 1260 (by decide +kernel) rfl
set_option maxRecDepth 100000 in
theorem l_Mo_267 : Cond.methodLink "AlikeStoreModel" 267 M_Mo_isNumber.1 ∈ ev_ws := ev_m 1272 (by decide +kernel) rfl
set_option maxRecDepth 100000 in
theorem l_Mo_271 : Cond.methodLink "AlikeStoreModel" 271 M_Mo_has.1 ∈ ev_ws := ev_m 1284 (by decide +kernel) rfl
set_option maxRecDepth 100000 in
theorem lL_Mo_275 : Cond.methodLink "AlikeStoreModel" 275 ⟨"java/lang/Math", "max", "(II)I"⟩ ∈ ev_ws := ev_m 1290 (by decide +kernel) rfl
set_option maxRecDepth 100000 in
theorem l_Mo_283 : Cond.methodLink "AlikeStoreModel" 283 M_Mo_span.1 ∈ ev_ws := ev_m 1281 (by decide +kernel) rfl
set_option maxRecDepth 100000 in
theorem l_Mo_286 : Cond.methodLink "AlikeStoreModel" 286 M_Mo_runs.1 ∈ ev_ws := ev_m 1287 (by decide +kernel) rfl
set_option maxRecDepth 100000 in
theorem l_Mo_290 : Cond.methodLink "AlikeStoreModel" 290 M_Mo_isBit.1 ∈ ev_ws := ev_m 1307 (by decide +kernel) rfl
set_option maxRecDepth 100000 in
theorem l_Mo_298 : Cond.methodLink "AlikeStoreModel" 298 M_Mo_keyAt.1 ∈ ev_ws := ev_m 1364 (by decide +kernel) rfl
set_option maxRecDepth 100000 in
theorem l_Mo_301 : Cond.methodLink "AlikeStoreModel" 301 M_Mo_costOf.1 ∈ ev_ws := ev_m 1360 (by decide +kernel) rfl
set_option maxRecDepth 100000 in
theorem lL_Mo_306 : Cond.methodLink "AlikeStoreModel" 306 ⟨"java/lang/Math", "min", "(II)I"⟩ ∈ ev_ws := ev_m 1369 (by decide +kernel) rfl
set_option maxRecDepth 100000 in
theorem l_Mo_309 : Cond.methodLink "AlikeStoreModel" 309 M_Mo_isRadius.1 ∈ ev_ws := ev_m 1348 (by decide +kernel) rfl
set_option maxRecDepth 100000 in
theorem l_Mo_312 : Cond.methodLink "AlikeStoreModel" 312 M_Mo_ownParts.1 ∈ ev_ws := ev_m 1352 (by decide +kernel) rfl
set_option maxRecDepth 100000 in
theorem l_Mo_315 : Cond.methodLink "AlikeStoreModel" 315 M_Mo_budgetsOf.1 ∈ ev_ws := ev_m 1356 (by decide +kernel) rfl
set_option maxRecDepth 100000 in
theorem l_Mo_321 : Cond.methodLink "AlikeStoreModel" 321 M_Mo_isCandidate.1 ∈ ev_ws := ev_m 1379 (by decide +kernel) rfl
set_option maxRecDepth 100000 in
theorem l_Mo_325 : Cond.methodLink "AlikeStoreModel" 325 M_Mo_nearSet.1 ∈ ev_ws := ev_m 1383 (by decide +kernel) rfl
set_option maxRecDepth 100000 in
theorem l_Mo_328 : Cond.methodLink "AlikeStoreModel" 328 M_Mo_ranks.1 ∈ ev_ws := ev_m 1391 (by decide +kernel) rfl
set_option maxRecDepth 100000 in
theorem l_Mo_334 : Cond.methodLink "AlikeStoreModel" 334 M_Mo_isPair.1 ∈ ev_ws := ev_m 1408 (by decide +kernel) rfl
set_option maxRecDepth 100000 in
theorem l_Mo_338 : Cond.methodLink "AlikeStoreModel" 338 M_Mo_clusterOf.1 ∈ ev_ws := ev_m 1428 (by decide +kernel) rfl
set_option maxRecDepth 100000 in
theorem l_Mo_341 : Cond.methodLink "AlikeStoreModel" 341 M_Mo_leastIn.1 ∈ ev_ws := ev_m 1432 (by decide +kernel) rfl
set_option maxRecDepth 100000 in
theorem l_Mo_344 : Cond.methodLink "AlikeStoreModel" 344 M_Mo_middle.1 ∈ ev_ws := ev_m 1439 (by decide +kernel) rfl
set_option maxRecDepth 100000 in
theorem l_Mo_349 : Cond.methodLink "AlikeStoreModel" 349 M_Mo_onesAt.1 ∈ ev_ws := ev_m 1456 (by decide +kernel) rfl
set_option maxRecDepth 100000 in
theorem l_Mo_355 : Cond.methodLink "AlikeStoreModel" 355 M_Mo_isParted.1 ∈ ev_ws := ev_m 1477 (by decide +kernel) rfl
set_option maxRecDepth 100000 in
theorem l_Mo_358 : Cond.methodLink "AlikeStoreModel" 358 M_Mo_partedBy.1 ∈ ev_ws := ev_m 1481 (by decide +kernel) rfl
set_option maxRecDepth 100000 in
theorem lL_JA_150 : Cond.methodLink "java/util/Arrays" 150 ⟨"java/lang/System", "arraycopy", "(Ljava/lang/Object;ILjava/lang/Object;II)V"⟩ ∈ ev_ws := ev_m 506 (by decide +kernel) rfl
set_option maxRecDepth 100000 in
theorem lL_JA_304 : Cond.methodLink "java/util/Arrays" 304 ⟨"java/lang/Math", "min", "(II)I"⟩ ∈ ev_ws := ev_m 505 (by decide +kernel) rfl
set_option maxRecDepth 100000 in
theorem lL_JA_316 : Cond.methodLink "java/util/Arrays" 316 ⟨"[I", "clone", "()Ljava/lang/Object;"⟩ ∈ ev_ws := ev_m 498 (by decide +kernel) rfl
set_option maxRecDepth 100000 in
theorem lL_JA_319 : Cond.methodLink "java/util/Arrays" 319 ⟨"[J", "clone", "()Ljava/lang/Object;"⟩ ∈ ev_ws := ev_m 512 (by decide +kernel) rfl
set_option maxRecDepth 100000 in
theorem k_X_290 : Cond.constantLong "AlikeStore" 290 (-1) ∈ ev_ws := ev_m 650 (by decide +kernel) rfl
set_option maxRecDepth 100000 in
theorem k_Bu_68 : Cond.constant "AlikeStore$Budgets" 68 (1000000) ∈ ev_ws := ev_m 776 (by decide +kernel) rfl
set_option maxRecDepth 100000 in
theorem k_Re_106 : Cond.constantLong "AlikeStore$Reader" 106 (-2) ∈ ev_ws := ev_m 435 (by decide +kernel) rfl
set_option maxRecDepth 100000 in
theorem k_Re_110 : Cond.constantLong "AlikeStore$Reader" 110 (-3) ∈ ev_ws := ev_m 436 (by decide +kernel) rfl
set_option maxRecDepth 100000 in
theorem k_Re_175 : Cond.constant "AlikeStore$Reader" 175 (99999999) ∈ ev_ws := ev_m 477 (by decide +kernel) rfl
set_option maxRecDepth 100000 in
theorem k_La_54 : Cond.constantLong "AlikeStoreLaw" 54 (4294967295) ∈ ev_ws := ev_m 1489 (by decide +kernel) rfl
set_option maxRecDepth 100000 in
theorem k_Mo_58 : Cond.constantLong "AlikeStoreModel" 58 (2) ∈ ev_ws := ev_m 972 (by decide +kernel) rfl
set_option maxRecDepth 100000 in
theorem k_Mo_96 : Cond.constantLong "AlikeStoreModel" 96 (15) ∈ ev_ws := ev_m 1221 (by decide +kernel) rfl
set_option maxRecDepth 100000 in
theorem k_Mo_168 : Cond.constantLong "AlikeStoreModel" 168 (10) ∈ ev_ws := ev_m 1110 (by decide +kernel) rfl
set_option maxRecDepth 100000 in
theorem k_Mo_170 : Cond.constantLong "AlikeStoreModel" 170 (48) ∈ ev_ws := ev_m 1111 (by decide +kernel) rfl
set_option maxRecDepth 100000 in
theorem k_Mo_216 : Cond.constant "AlikeStoreModel" 216 (99999999) ∈ ev_ws := ev_m 1196 (by decide +kernel) rfl
set_option maxRecDepth 100000 in
theorem k_Mo_281 : Cond.constantLong "AlikeStoreModel" 281 (3) ∈ ev_ws := ev_m 1280 (by decide +kernel) rfl
set_option maxRecDepth 100000 in
theorem k_Mo_293 : Cond.constantLong "AlikeStoreModel" 293 (9) ∈ ev_ws := ev_m 1319 (by decide +kernel) rfl
set_option maxRecDepth 100000 in
theorem k_Mo_305 : Cond.constant "AlikeStoreModel" 305 (1000000) ∈ ev_ws := ev_m 1368 (by decide +kernel) rfl
set_option maxRecDepth 100000 in
theorem k_Mo_319 : Cond.constantLong "AlikeStoreModel" 319 (4) ∈ ev_ws := ev_m 1378 (by decide +kernel) rfl
set_option maxRecDepth 100000 in
theorem k_Mo_332 : Cond.constantLong "AlikeStoreModel" 332 (32) ∈ ev_ws := ev_m 1403 (by decide +kernel) rfl
set_option maxRecDepth 100000 in
theorem k_Mo_347 : Cond.constantLong "AlikeStoreModel" 347 (4294967295) ∈ ev_ws := ev_m 1447 (by decide +kernel) rfl
set_option maxRecDepth 100000 in
theorem k_Mo_353 : Cond.constantLong "AlikeStoreModel" 353 (24) ∈ ev_ws := ev_m 1476 (by decide +kernel) rfl
set_option maxRecDepth 100000 in
theorem k_JI_265 : Cond.constant "java/lang/Integer" 265 (1431655765) ∈ ev_ws := ev_m 599 (by decide +kernel) rfl
set_option maxRecDepth 100000 in
theorem k_JI_266 : Cond.constant "java/lang/Integer" 266 (858993459) ∈ ev_ws := ev_m 600 (by decide +kernel) rfl
set_option maxRecDepth 100000 in
theorem k_JI_267 : Cond.constant "java/lang/Integer" 267 (252645135) ∈ ev_ws := ev_m 601 (by decide +kernel) rfl
set_option maxRecDepth 100000 in
theorem k_JL_314 : Cond.constantLong "java/lang/Long" 314 (6148914691236517205) ∈ ev_ws := ev_m 582 (by decide +kernel) rfl
set_option maxRecDepth 100000 in
theorem k_JL_316 : Cond.constantLong "java/lang/Long" 316 (3689348814741910323) ∈ ev_ws := ev_m 583 (by decide +kernel) rfl
set_option maxRecDepth 100000 in
theorem k_JL_318 : Cond.constantLong "java/lang/Long" 318 (1085102592571150095) ∈ ev_ws := ev_m 584 (by decide +kernel) rfl
set_option maxRecDepth 100000 in
theorem n_Bu : Cond.instantiable RX0 5 ∈ ev_ws := ev_m 191 (by decide +kernel) rfl
set_option maxRecDepth 100000 in
theorem z_Bu : Cond.initialized RX0 ∈ ev_ws := ev_m 7 (by decide +kernel) rfl
set_option maxRecDepth 100000 in
theorem n_Fi : Cond.instantiable RX1 5 ∈ ev_ws := ev_m 490 (by decide +kernel) rfl
set_option maxRecDepth 100000 in
theorem z_Fi : Cond.initialized RX1 ∈ ev_ws := ev_m 16 (by decide +kernel) rfl
set_option maxRecDepth 100000 in
theorem n_Hi : Cond.instantiable RX2 5 ∈ ev_ws := ev_m 164 (by decide +kernel) rfl
set_option maxRecDepth 100000 in
theorem z_Hi : Cond.initialized RX2 ∈ ev_ws := ev_m 6 (by decide +kernel) rfl
set_option maxRecDepth 100000 in
theorem n_Ra : Cond.instantiable RX3 4 ∈ ev_ws := ev_m 217 (by decide +kernel) rfl
set_option maxRecDepth 100000 in
theorem z_Ra : Cond.initialized RX3 ∈ ev_ws := ev_m 8 (by decide +kernel) rfl
set_option maxRecDepth 100000 in
theorem n_Re : Cond.instantiable RX4 8 ∈ ev_ws := ev_m 81 (by decide +kernel) rfl
set_option maxRecDepth 100000 in
theorem z_Re : Cond.initialized RX4 ∈ ev_ws := ev_m 3 (by decide +kernel) rfl
set_option maxRecDepth 100000 in
theorem n_Sp : Cond.instantiable RX5 6 ∈ ev_ws := ev_m 87 (by decide +kernel) rfl
set_option maxRecDepth 100000 in
theorem z_Sp : Cond.initialized RX5 ∈ ev_ws := ev_m 4 (by decide +kernel) rfl
set_option maxRecDepth 100000 in
theorem n_St : Cond.instantiable RX6 7 ∈ ev_ws := ev_m 30 (by decide +kernel) rfl
set_option maxRecDepth 100000 in
theorem z_St : Cond.initialized RX6 ∈ ev_ws := ev_m 2 (by decide +kernel) rfl
set_option maxRecDepth 100000 in
theorem n_Ta : Cond.instantiable RX7 2 ∈ ev_ws := ev_m 119 (by decide +kernel) rfl
set_option maxRecDepth 100000 in
theorem z_Ta : Cond.initialized RX7 ∈ ev_ws := ev_m 5 (by decide +kernel) rfl
set_option maxRecDepth 100000 in
theorem n_X : Cond.instantiable RX8 8 ∈ ev_ws := ev_m 22 (by decide +kernel) rfl
set_option maxRecDepth 100000 in
theorem z_X : Cond.initialized RX8 ∈ ev_ws := ev_m 1 (by decide +kernel) rfl
set_option maxRecDepth 100000 in
theorem n_Mo : Cond.instantiable RX9 24 ∈ ev_ws := ev_m 954 (by decide +kernel) rfl
set_option maxRecDepth 100000 in
theorem z_Mo : Cond.initialized RX9 ∈ ev_ws := ev_m 9 (by decide +kernel) rfl
set_option maxRecDepth 100000 in
theorem q_La_7 : Cond.classLink "AlikeStoreLaw" 7 "AlikeStore" ∈ ev_ws := ev_m 21 (by decide +kernel) rfl
set_option maxRecDepth 100000 in
theorem q_X_7 : Cond.classLink "AlikeStore" 7 "AlikeStore$Store" ∈ ev_ws := ev_m 29 (by decide +kernel) rfl
set_option maxRecDepth 100000 in
theorem q_X_16 : Cond.classLink "AlikeStore" 16 "AlikeStore$Reader" ∈ ev_ws := ev_m 80 (by decide +kernel) rfl
set_option maxRecDepth 100000 in
theorem q_Re_9 : Cond.classLink "AlikeStore$Reader" 9 "AlikeStore$Steps" ∈ ev_ws := ev_m 86 (by decide +kernel) rfl
set_option maxRecDepth 100000 in
theorem q_Re_18 : Cond.classLink "AlikeStore$Reader" 18 "AlikeStore$Tape" ∈ ev_ws := ev_m 118 (by decide +kernel) rfl
set_option maxRecDepth 100000 in
theorem q_Re_25 : Cond.classLink "AlikeStore$Reader" 25 "AlikeStore$Store" ∈ ev_ws := ev_m 134 (by decide +kernel) rfl
set_option maxRecDepth 100000 in
theorem q_X_23 : Cond.classLink "AlikeStore" 23 "AlikeStore$History" ∈ ev_ws := ev_m 163 (by decide +kernel) rfl
set_option maxRecDepth 100000 in
theorem q_Hi_9 : Cond.classLink "AlikeStore$History" 9 "AlikeStore$Store" ∈ ev_ws := ev_m 169 (by decide +kernel) rfl
set_option maxRecDepth 100000 in
theorem q_X_30 : Cond.classLink "AlikeStore" 30 "AlikeStore$Budgets" ∈ ev_ws := ev_m 190 (by decide +kernel) rfl
set_option maxRecDepth 100000 in
theorem q_Bu_19 : Cond.classLink "AlikeStore$Budgets" 19 "[[I" ∈ ev_ws := ev_m 196 (by decide +kernel) rfl
set_option maxRecDepth 100000 in
theorem q_X_37 : Cond.classLink "AlikeStore" 37 "AlikeStore$Ranking" ∈ ev_ws := ev_m 216 (by decide +kernel) rfl
set_option maxRecDepth 100000 in
theorem q_Re_148 : Cond.classLink "AlikeStore$Reader" 148 "AlikeStore$Filter" ∈ ev_ws := ev_m 489 (by decide +kernel) rfl
set_option maxRecDepth 100000 in
theorem q_JA_317 : Cond.classLink "java/util/Arrays" 317 "[I" ∈ ev_ws := ev_m 504 (by decide +kernel) rfl
set_option maxRecDepth 100000 in
theorem q_JA_320 : Cond.classLink "java/util/Arrays" 320 "[J" ∈ ev_ws := ev_m 516 (by decide +kernel) rfl
set_option maxRecDepth 100000 in
theorem q_La_10 : Cond.classLink "AlikeStoreLaw" 10 "AlikeStoreModel" ∈ ev_ws := ev_m 953 (by decide +kernel) rfl
set_option maxRecDepth 100000 in
theorem q_Mo_37 : Cond.classLink "AlikeStoreModel" 37 "[[I" ∈ ev_ws := ev_m 959 (by decide +kernel) rfl
set_option maxRecDepth 100000 in
theorem a_int : Cond.arrayClass .int ∈ ev_ws := ev_m 78 (by decide +kernel) rfl
set_option maxRecDepth 100000 in
theorem a_long : Cond.arrayClass .long ∈ ev_ws := ev_m 79 (by decide +kernel) rfl
set_option maxRecDepth 100000 in
theorem a_byte : Cond.arrayClass .byte ∈ ev_ws := ev_m 133 (by decide +kernel) rfl
set_option maxRecDepth 100000 in
theorem w_minS : Cond.static Lib.Math.min.name ∈ ev_ws := ev_m 287 (by decide +kernel) rfl
set_option maxRecDepth 100000 in
theorem w_maxS : Cond.static Lib.Math.max.name ∈ ev_ws := ev_m 327 (by decide +kernel) rfl
set_option maxRecDepth 100000 in
theorem w_absS : Cond.static Lib.Math.abs.name ∈ ev_ws := ev_m 919 (by decide +kernel) rfl
set_option maxRecDepth 100000 in
theorem w_mathI : Cond.initialized "java/lang/Math" ∈ ev_ws := ev_m 10 (by decide +kernel) rfl
set_option maxRecDepth 100000 in
theorem w_sysI : Cond.initialized "java/lang/System" ∈ ev_ws := ev_m 18 (by decide +kernel) rfl
set_option maxRecDepth 100000 in
theorem w_cpS : Cond.static arraycopyName ∈ ev_ws := ev_m 507 (by decide +kernel) rfl
set_option maxRecDepth 100000 in
theorem w_cpN : Cond.native arraycopyName ∈ ev_ws := ev_m 508 (by decide +kernel) rfl
set_option maxRecDepth 100000 in
theorem w_objN : Cond.instanceMethod objectInit ∈ ev_ws := ev_m 27 (by decide +kernel) rfl
set_option maxRecDepth 100000 in
theorem w_minC : Cond.code Lib.Math.min.name Lib.Math.min.code 2 (some .int) ∈ ev_ws := ev_m 288 (by decide +kernel) rfl
set_option maxRecDepth 100000 in
theorem w_maxC : Cond.code Lib.Math.max.name Lib.Math.max.code 2 (some .int) ∈ ev_ws := ev_m 328 (by decide +kernel) rfl
set_option maxRecDepth 100000 in
theorem w_absC : Cond.code Lib.Math.abs.name Lib.Math.abs.code 1 (some .int) ∈ ev_ws := ev_m 920 (by decide +kernel) rfl
set_option maxRecDepth 100000 in
theorem w_objC : Cond.code objectInit ⟨#[0xb1]⟩ 1 none ∈ ev_ws := ev_m 28 (by decide +kernel) rfl
