def RX0 : String := "AlikeStore$Budgets"
def TX0 : u_T := fun k => match k with
  | 0 => ("AlikeStore$Budgets", "breadths", "[I", true)
  | 1 => ("AlikeStore$Budgets", "parts", "I", false)
  | 2 => ("AlikeStore$Budgets", "costs", "[[I", true)
  | 3 => ("AlikeStore$Budgets", "least", "[[I", true)
  | _ => ("AlikeStore$Budgets", "chosen", "[I", true)
def tyX0 : Nat → FieldType := fun k => match k with
  | 0 => .array .int
  | 1 => .int
  | 2 => .array (.array .int)
  | 3 => .array (.array .int)
  | _ => .array .int
abbrev wsX00 : List Cond := u_ws RX0 TX0 5
theorem nmX0 : ∀ a, a < 5 → ∀ b, b < 5 → a ≠ b → (TX0 a).2.1 ≠ (TX0 b).2.1 := by decide +kernel
theorem tyX0_ok : ∀ k, k < 5 → parseFieldDescriptor (TX0 k).2.2.1 = some (tyX0 k) := by decide +kernel
def RX1 : String := "AlikeStore$Filter"
def TX1 : u_T := fun k => match k with
  | 0 => ("AlikeStore$Filter", "kinds", "[I", true)
  | 1 => ("AlikeStore$Filter", "signs", "[I", true)
  | 2 => ("AlikeStore$Filter", "places", "[I", true)
  | 3 => ("AlikeStore$Filter", "bounds", "[I", true)
  | _ => ("AlikeStore$Filter", "froms", "[J", true)
def tyX1 : Nat → FieldType := fun k => match k with
  | 0 => .array .int
  | 1 => .array .int
  | 2 => .array .int
  | 3 => .array .int
  | _ => .array .long
abbrev wsX10 : List Cond := u_ws RX1 TX1 5
theorem nmX1 : ∀ a, a < 5 → ∀ b, b < 5 → a ≠ b → (TX1 a).2.1 ≠ (TX1 b).2.1 := by decide +kernel
theorem tyX1_ok : ∀ k, k < 5 → parseFieldDescriptor (TX1 k).2.2.1 = some (tyX1 k) := by decide +kernel
def RX2 : String := "AlikeStore$History"
def TX2 : u_T := fun k => match k with
  | 0 => ("AlikeStore$History", "acts", "[LAlikeStore$Store;", true)
  | 1 => ("AlikeStore$History", "marks", "[LAlikeStore$Store;", true)
  | 2 => ("AlikeStore$History", "first", "I", false)
  | 3 => ("AlikeStore$History", "kept", "I", false)
  | _ => ("AlikeStore$History", "marked", "I", false)
def tyX2 : Nat → FieldType := fun k => match k with
  | 0 => .array (.object "AlikeStore$Store")
  | 1 => .array (.object "AlikeStore$Store")
  | 2 => .int
  | 3 => .int
  | _ => .int
abbrev wsX20 : List Cond := u_ws RX2 TX2 5
theorem nmX2 : ∀ a, a < 5 → ∀ b, b < 5 → a ≠ b → (TX2 a).2.1 ≠ (TX2 b).2.1 := by decide +kernel
theorem tyX2_ok : ∀ k, k < 5 → parseFieldDescriptor (TX2 k).2.2.1 = some (tyX2 k) := by decide +kernel
def RX3 : String := "AlikeStore$Ranking"
def TX3 : u_T := fun k => match k with
  | 0 => ("AlikeStore$Ranking", "order", "[I", true)
  | 1 => ("AlikeStore$Ranking", "fars", "[I", true)
  | 2 => ("AlikeStore$Ranking", "gaps", "[I", true)
  | _ => ("AlikeStore$Ranking", "size", "I", false)
def tyX3 : Nat → FieldType := fun k => match k with
  | 0 => .array .int
  | 1 => .array .int
  | 2 => .array .int
  | _ => .int
abbrev wsX30 : List Cond := u_ws RX3 TX3 4
theorem nmX3 : ∀ a, a < 4 → ∀ b, b < 4 → a ≠ b → (TX3 a).2.1 ≠ (TX3 b).2.1 := by decide +kernel
theorem tyX3_ok : ∀ k, k < 4 → parseFieldDescriptor (TX3 k).2.2.1 = some (tyX3 k) := by decide +kernel
def RX4 : String := "AlikeStore$Reader"
def TX4 : u_T := fun k => match k with
  | 0 => ("AlikeStore$Reader", "steps", "LAlikeStore$Steps;", true)
  | 1 => ("AlikeStore$Reader", "tape", "LAlikeStore$Tape;", true)
  | 2 => ("AlikeStore$Reader", "store", "LAlikeStore$Store;", true)
  | 3 => ("AlikeStore$Reader", "text", "[B", true)
  | 4 => ("AlikeStore$Reader", "length", "I", false)
  | 5 => ("AlikeStore$Reader", "kind", "I", false)
  | 6 => ("AlikeStore$Reader", "start", "I", false)
  | _ => ("AlikeStore$Reader", "end", "I", false)
def tyX4 : Nat → FieldType := fun k => match k with
  | 0 => .object "AlikeStore$Steps"
  | 1 => .object "AlikeStore$Tape"
  | 2 => .object "AlikeStore$Store"
  | 3 => .array .byte
  | 4 => .int
  | 5 => .int
  | 6 => .int
  | _ => .int
abbrev wsX40 : List Cond := u_ws RX4 TX4 8
theorem nmX4 : ∀ a, a < 8 → ∀ b, b < 8 → a ≠ b → (TX4 a).2.1 ≠ (TX4 b).2.1 := by decide +kernel
theorem tyX4_ok : ∀ k, k < 8 → parseFieldDescriptor (TX4 k).2.2.1 = some (tyX4 k) := by decide +kernel
def RX5 : String := "AlikeStore$Steps"
def TX5 : u_T := fun k => match k with
  | 0 => ("AlikeStore$Steps", "kinds", "[I", true)
  | 1 => ("AlikeStore$Steps", "signs", "[I", true)
  | 2 => ("AlikeStore$Steps", "places", "[I", true)
  | 3 => ("AlikeStore$Steps", "bounds", "[I", true)
  | 4 => ("AlikeStore$Steps", "froms", "[J", true)
  | _ => ("AlikeStore$Steps", "size", "I", false)
def tyX5 : Nat → FieldType := fun k => match k with
  | 0 => .array .int
  | 1 => .array .int
  | 2 => .array .int
  | 3 => .array .int
  | 4 => .array .long
  | _ => .int
abbrev wsX50 : List Cond := u_ws RX5 TX5 6
theorem nmX5 : ∀ a, a < 6 → ∀ b, b < 6 → a ≠ b → (TX5 a).2.1 ≠ (TX5 b).2.1 := by decide +kernel
theorem tyX5_ok : ∀ k, k < 6 → parseFieldDescriptor (TX5 k).2.2.1 = some (tyX5 k) := by decide +kernel
def RX6 : String := "AlikeStore$Store"
def TX6 : u_T := fun k => match k with
  | 0 => ("AlikeStore$Store", "bits", "I", false)
  | 1 => ("AlikeStore$Store", "parts", "I", false)
  | 2 => ("AlikeStore$Store", "breadths", "[I", true)
  | 3 => ("AlikeStore$Store", "size", "I", false)
  | 4 => ("AlikeStore$Store", "codes", "[J", true)
  | 5 => ("AlikeStore$Store", "tags", "[I", true)
  | _ => ("AlikeStore$Store", "filter", "LAlikeStore$Filter;", false)
def tyX6 : Nat → FieldType := fun k => match k with
  | 0 => .int
  | 1 => .int
  | 2 => .array .int
  | 3 => .int
  | 4 => .array .long
  | 5 => .array .int
  | _ => .object "AlikeStore$Filter"
abbrev wsX60 : List Cond := u_ws RX6 TX6 7
theorem nmX6 : ∀ a, a < 7 → ∀ b, b < 7 → a ≠ b → (TX6 a).2.1 ≠ (TX6 b).2.1 := by decide +kernel
theorem tyX6_ok : ∀ k, k < 7 → parseFieldDescriptor (TX6 k).2.2.1 = some (tyX6 k) := by decide +kernel
def RX7 : String := "AlikeStore$Tape"
def TX7 : u_T := fun k => match k with
  | 0 => ("AlikeStore$Tape", "bytes", "[B", true)
  | _ => ("AlikeStore$Tape", "size", "I", false)
def tyX7 : Nat → FieldType := fun k => match k with
  | 0 => .array .byte
  | _ => .int
abbrev wsX70 : List Cond := u_ws RX7 TX7 2
theorem nmX7 : ∀ a, a < 2 → ∀ b, b < 2 → a ≠ b → (TX7 a).2.1 ≠ (TX7 b).2.1 := by decide +kernel
theorem tyX7_ok : ∀ k, k < 2 → parseFieldDescriptor (TX7 k).2.2.1 = some (tyX7 k) := by decide +kernel
def RX8 : String := "AlikeStore"
def TX8 : u_T := fun k => match k with
  | 0 => ("AlikeStore", "store", "LAlikeStore$Store;", true)
  | 1 => ("AlikeStore", "reader", "LAlikeStore$Reader;", true)
  | 2 => ("AlikeStore", "history", "LAlikeStore$History;", true)
  | 3 => ("AlikeStore", "budgets", "LAlikeStore$Budgets;", true)
  | 4 => ("AlikeStore", "ranking", "LAlikeStore$Ranking;", true)
  | 5 => ("AlikeStore", "latest", "I", false)
  | 6 => ("AlikeStore", "faultKind", "I", false)
  | _ => ("AlikeStore", "faultPlace", "I", false)
def tyX8 : Nat → FieldType := fun k => match k with
  | 0 => .object "AlikeStore$Store"
  | 1 => .object "AlikeStore$Reader"
  | 2 => .object "AlikeStore$History"
  | 3 => .object "AlikeStore$Budgets"
  | 4 => .object "AlikeStore$Ranking"
  | 5 => .int
  | 6 => .int
  | _ => .int
abbrev wsX80 : List Cond := u_ws RX8 TX8 8
theorem nmX8 : ∀ a, a < 8 → ∀ b, b < 8 → a ≠ b → (TX8 a).2.1 ≠ (TX8 b).2.1 := by decide +kernel
theorem tyX8_ok : ∀ k, k < 8 → parseFieldDescriptor (TX8 k).2.2.1 = some (tyX8 k) := by decide +kernel
def RX9 : String := "AlikeStoreModel"
def TX9 : u_T := fun k => match k with
  | 0 => ("AlikeStoreModel", "all", "[J", true)
  | 1 => ("AlikeStoreModel", "status", "I", false)
  | 2 => ("AlikeStoreModel", "acts", "I", false)
  | 3 => ("AlikeStoreModel", "marks", "I", false)
  | 4 => ("AlikeStoreModel", "pile", "[J", true)
  | 5 => ("AlikeStoreModel", "tape", "[B", true)
  | 6 => ("AlikeStoreModel", "text", "[B", true)
  | 7 => ("AlikeStoreModel", "taped", "I", false)
  | 8 => ("AlikeStoreModel", "size", "I", false)
  | 9 => ("AlikeStoreModel", "token", "I", false)
  | 10 => ("AlikeStoreModel", "begin", "I", false)
  | 11 => ("AlikeStoreModel", "end", "I", false)
  | 12 => ("AlikeStoreModel", "faults", "I", false)
  | 13 => ("AlikeStoreModel", "faultPlace", "I", false)
  | 14 => ("AlikeStoreModel", "faultKind", "I", false)
  | 15 => ("AlikeStoreModel", "deep", "I", false)
  | 16 => ("AlikeStoreModel", "value", "J", false)
  | 17 => ("AlikeStoreModel", "broad", "[I", true)
  | 18 => ("AlikeStoreModel", "budgets", "[I", true)
  | 19 => ("AlikeStoreModel", "costs", "[[I", true)
  | 20 => ("AlikeStoreModel", "least", "[[I", true)
  | 21 => ("AlikeStoreModel", "broadMany", "I", false)
  | 22 => ("AlikeStoreModel", "rank", "[I", true)
  | _ => ("AlikeStoreModel", "taken", "[I", true)
def tyX9 : Nat → FieldType := fun k => match k with
  | 0 => .array .long
  | 1 => .int
  | 2 => .int
  | 3 => .int
  | 4 => .array .long
  | 5 => .array .byte
  | 6 => .array .byte
  | 7 => .int
  | 8 => .int
  | 9 => .int
  | 10 => .int
  | 11 => .int
  | 12 => .int
  | 13 => .int
  | 14 => .int
  | 15 => .int
  | 16 => .long
  | 17 => .array .int
  | 18 => .array .int
  | 19 => .array (.array .int)
  | 20 => .array (.array .int)
  | 21 => .int
  | 22 => .array .int
  | _ => .array .int
abbrev wsX90 : List Cond := u_ws RX9 TX9 24
theorem nmX9 : ∀ a, a < 24 → ∀ b, b < 24 → a ≠ b → (TX9 a).2.1 ≠ (TX9 b).2.1 := by decide +kernel
theorem tyX9_ok : ∀ k, k < 24 → parseFieldDescriptor (TX9 k).2.2.1 = some (tyX9 k) := by decide +kernel
abbrev vwCl : List vw_C := [(RX0, TX0, 5), (RX1, TX1, 5), (RX2, TX2, 5), (RX3, TX3, 4), (RX4, TX4, 8), (RX5, TX5, 6), (RX6, TX6, 7), (RX7, TX7, 2), (RX8, TX8, 8), (RX9, TX9, 24)]
def ev_ws : List Cond := lw_tbl.filter goodWord
theorem ev_m (i : Nat) {w : Cond} (h : tables_1[i]? = some w) (hg : goodWord w = true) : w ∈ ev_ws := List.mem_filter.mpr ⟨List.mem_append_right _ (List.mem_of_getElem? h), hg⟩
theorem ev_mp (i : Nat) {w : Cond} (h : (k2_sels lw_privs)[i]? = some w) (hg : goodWord w = true) : w ∈ ev_ws := List.mem_filter.mpr ⟨List.mem_append_left _ (List.mem_of_getElem? h), hg⟩
theorem ev_good : ∀ w ∈ ev_ws, ((w.onTables && w.keeps) = true ∨ ∃ ty, w = .arrayClass ty) := fun w h => good_of_word (List.mem_filter.mp h).2
theorem ev_sub {ws : List Cond} (is : List Nat) (h : ws = is.filterMap (fun i => tables_1[i]?)) (hg : ws.all goodWord = true) : ∀ w ∈ ws, w ∈ ev_ws := by
  intro w hw
  refine List.mem_filter.mpr ⟨?_, List.all_eq_true.mp hg w hw⟩
  rw [h] at hw
  obtain ⟨i, -, hi⟩ := List.mem_filterMap.mp hw
  exact List.mem_append_right _ (List.mem_of_getElem? hi)
set_option maxRecDepth 100000 in
theorem ev_cl0 : ∀ w ∈ wsX00, w ∈ ev_ws := ev_sub [205, 207, 209, 211, 213] (by decide +kernel) (by decide +kernel)
set_option maxRecDepth 100000 in
theorem ev_cl1 : ∀ w ∈ wsX10, w ∈ ev_ws := ev_sub [522, 524, 526, 528, 530] (by decide +kernel) (by decide +kernel)
set_option maxRecDepth 100000 in
theorem ev_cl2 : ∀ w ∈ wsX20, w ∈ ev_ws := ev_sub [179, 181, 183, 185, 187] (by decide +kernel) (by decide +kernel)
set_option maxRecDepth 100000 in
theorem ev_cl3 : ∀ w ∈ wsX30, w ∈ ev_ws := ev_sub [228, 230, 232, 234] (by decide +kernel) (by decide +kernel)
set_option maxRecDepth 100000 in
theorem ev_cl4 : ∀ w ∈ wsX40, w ∈ ev_ws := ev_sub [146, 148, 150, 152, 154, 156, 158, 160] (by decide +kernel) (by decide +kernel)
set_option maxRecDepth 100000 in
theorem ev_cl5 : ∀ w ∈ wsX50, w ∈ ev_ws := ev_sub [105, 107, 109, 111, 113, 115] (by decide +kernel) (by decide +kernel)
set_option maxRecDepth 100000 in
theorem ev_cl6 : ∀ w ∈ wsX60, w ∈ ev_ws := ev_sub [63, 65, 67, 69, 71, 73, 75] (by decide +kernel) (by decide +kernel)
set_option maxRecDepth 100000 in
theorem ev_cl7 : ∀ w ∈ wsX70, w ∈ ev_ws := ev_sub [128, 130] (by decide +kernel) (by decide +kernel)
set_option maxRecDepth 100000 in
theorem ev_cl8 : ∀ w ∈ wsX80, w ∈ ev_ws := ev_sub [245, 247, 249, 251, 253, 255, 257, 259] (by decide +kernel) (by decide +kernel)
set_option maxRecDepth 100000 in
theorem ev_cl9 : ∀ w ∈ wsX90, w ∈ ev_ws := ev_sub [1001, 1003, 1005, 1007, 1009, 1011, 1013, 1015, 1017, 1019, 1021, 1023, 1025, 1027, 1029, 1031, 1033, 1035, 1037, 1039, 1041, 1043, 1045, 1047] (by decide +kernel) (by decide +kernel)
