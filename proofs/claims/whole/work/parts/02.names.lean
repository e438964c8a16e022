theorem goodIn_r {big : List Cond} (ws : List Cond) (ps : List Nat) (hp : ws = ps.filterMap (fun i => big[i]?)) (h : ws.all goodWord = true) : GoodIn big ws := by
  intro w hw
  have h1 := List.all_eq_true.mp h w hw
  rw [hp] at hw
  obtain ⟨i, -, hi⟩ := List.mem_filterMap.mp hw
  have hm : w ∈ big := by first | exact List.mem_of_getElem? hi | exact List.getElem?_mem hi
  exact ⟨hm, good_of_word h1⟩
theorem goodIn_app {big a b : List Cond} (ha : GoodIn big a) (hb : GoodIn big b) : GoodIn big (a ++ b) := fun w h => (List.mem_append.mp h).elim (ha w) (hb w)
theorem goodIn_ca {big a b : List Cond} {c : Cond} (ha : GoodIn big (c :: a)) (hb : GoodIn big b) : GoodIn big (c :: (a ++ b)) := fun w h => (List.mem_cons.mp h).elim (fun e => ha w (List.mem_cons.mpr (Or.inl e))) (fun h => (List.mem_append.mp h).elim (fun h => ha w (List.mem_cons.mpr (Or.inr h))) (hb w))
theorem goodIn_sub {big ws : List Cond} (hm : ∀ w ∈ ws, w ∈ big) (h : ws.all goodWord = true) : GoodIn big ws := fun w hw => ⟨hm w hw, good_of_word (List.all_eq_true.mp h w hw)⟩
/-! names, fields, the words of the law: printed for the claim -/
def RX0 : String := "ThreeMasters$Finds"
def TX0 : u_T := fun k => match k with
  | 0 => ("ThreeMasters$Finds", "measures", "LThreeMasters$Measures;", true)
  | 1 => ("ThreeMasters$Finds", "tower", "LThreeMasters$Tower;", true)
  | 2 => ("ThreeMasters$Finds", "heights", "[I", true)
  | _ => ("ThreeMasters$Finds", "endings", "[J", true)
def tyX0 : Nat → FieldType := fun k => match k with
  | 0 => .object "ThreeMasters$Measures"
  | 1 => .object "ThreeMasters$Tower"
  | 2 => .array .int
  | _ => .array .long
abbrev wsX00 : List Cond := u_ws RX0 TX0 4
theorem nmX0 : ∀ a, a < 4 → ∀ b, b < 4 → a ≠ b → (TX0 a).2.1 ≠ (TX0 b).2.1 := by decide +kernel
theorem tyX0_ok : ∀ k, k < 4 → parseFieldDescriptor (TX0 k).2.2.1 = some (tyX0 k) := by decide +kernel
abbrev cX0_init : ByteArray := prog_2_method_1_code
def yX0_init : MethodName := ⟨RX0, "<init>", "(LThreeMasters$Measures;LThreeMasters$Tower;)V"⟩
abbrev cX0_howMany : ByteArray := prog_2_method_2_code
def yX0_howMany : MethodName := ⟨RX0, "howMany", "()I"⟩
abbrev cX0_fitBits : ByteArray := prog_2_method_3_code
def yX0_fitBits : MethodName := ⟨RX0, "fitBits", "(II)I"⟩
abbrev cX0_countWorlds : ByteArray := prog_2_method_4_code
def yX0_countWorlds : MethodName := ⟨RX0, "countWorlds", "(III)J"⟩
abbrev cX0_addFloor : ByteArray := prog_2_method_5_code
def yX0_addFloor : MethodName := ⟨RX0, "addFloor", "(IJ)J"⟩
def RX1 : String := "ThreeMasters$Loads"
def TX1 : u_T := fun k => match k with
  | 0 => ("ThreeMasters$Loads", "tower", "LThreeMasters$Tower;", true)
  | _ => ("ThreeMasters$Loads", "weights", "[I", true)
def tyX1 : Nat → FieldType := fun k => match k with
  | 0 => .object "ThreeMasters$Tower"
  | _ => .array .int
abbrev wsX10 : List Cond := u_ws RX1 TX1 2
theorem nmX1 : ∀ a, a < 2 → ∀ b, b < 2 → a ≠ b → (TX1 a).2.1 ≠ (TX1 b).2.1 := by decide +kernel
theorem tyX1_ok : ∀ k, k < 2 → parseFieldDescriptor (TX1 k).2.2.1 = some (tyX1 k) := by decide +kernel
abbrev cX1_init : ByteArray := prog_3_method_1_code
def yX1_init : MethodName := ⟨RX1, "<init>", "(LThreeMasters$Tower;)V"⟩
abbrev cX1_strength : ByteArray := prog_3_method_2_code
def yX1_strength : MethodName := ⟨RX1, "strength", "(II)I"⟩
abbrev cX1_firstOverborne : ByteArray := prog_3_method_3_code
def yX1_firstOverborne : MethodName := ⟨RX1, "firstOverborne", "(I)I"⟩
abbrev cX1_spareOnTop : ByteArray := prog_3_method_4_code
def yX1_spareOnTop : MethodName := ⟨RX1, "spareOnTop", "()I"⟩
abbrev cX1_reserve : ByteArray := prog_3_method_5_code
def yX1_reserve : MethodName := ⟨RX1, "reserve", "(II)I"⟩
def RX2 : String := "ThreeMasters$Measures"
def TX2 : u_T := fun k => match k with
  | 0 => ("ThreeMasters$Measures", "sizes", "[I", true)
  | _ => ("ThreeMasters$Measures", "grids", "[I", true)
def tyX2 : Nat → FieldType := fun k => match k with
  | 0 => .array .int
  | _ => .array .int
abbrev wsX20 : List Cond := u_ws RX2 TX2 2
theorem nmX2 : ∀ a, a < 2 → ∀ b, b < 2 → a ≠ b → (TX2 a).2.1 ≠ (TX2 b).2.1 := by decide +kernel
theorem tyX2_ok : ∀ k, k < 2 → parseFieldDescriptor (TX2 k).2.2.1 = some (tyX2 k) := by decide +kernel
abbrev cX2_init : ByteArray := prog_4_method_1_code
def yX2_init : MethodName := ⟨RX2, "<init>", "()V"⟩
abbrev cX2_exchange : ByteArray := prog_4_method_2_code
def yX2_exchange : MethodName := ⟨RX2, "exchange", "(III)I"⟩
abbrev cX2_toParts : ByteArray := prog_4_method_3_code
def yX2_toParts : MethodName := ⟨RX2, "toParts", "(III)I"⟩
def RX3 : String := "ThreeMasters$Mender"
def TX3 : u_T := fun k => match k with
  | _ => ("ThreeMasters$Mender", "row", "[I", true)
def tyX3 : Nat → FieldType := fun k => match k with
  | _ => .array .int
abbrev wsX30 : List Cond := u_ws RX3 TX3 1
theorem nmX3 : ∀ a, a < 1 → ∀ b, b < 1 → a ≠ b → (TX3 a).2.1 ≠ (TX3 b).2.1 := by decide +kernel
theorem tyX3_ok : ∀ k, k < 1 → parseFieldDescriptor (TX3 k).2.2.1 = some (tyX3 k) := by decide +kernel
abbrev cX3_init : ByteArray := prog_5_method_1_code
def yX3_init : MethodName := ⟨RX3, "<init>", "()V"⟩
abbrev cX3_work : ByteArray := prog_5_method_2_code
def yX3_work : MethodName := ⟨RX3, "work", "(LThreeMasters$Tower;III)I"⟩
abbrev cX3_share : ByteArray := prog_5_method_3_code
def yX3_share : MethodName := ⟨RX3, "share", "(IIIZ)V"⟩
def RX4 : String := "ThreeMasters$Plan"
def TX4 : u_T := fun k => match k with
  | 0 => ("ThreeMasters$Plan", "text", "[I", true)
  | 1 => ("ThreeMasters$Plan", "length", "I", false)
  | 2 => ("ThreeMasters$Plan", "fault", "I", false)
  | 3 => ("ThreeMasters$Plan", "floors", "I", false)
  | 4 => ("ThreeMasters$Plan", "unit", "[I", true)
  | 5 => ("ThreeMasters$Plan", "twelfths", "[I", true)
  | 6 => ("ThreeMasters$Plan", "way", "[I", true)
  | _ => ("ThreeMasters$Plan", "at", "I", false)
def tyX4 : Nat → FieldType := fun k => match k with
  | 0 => .array .int
  | 1 => .int
  | 2 => .int
  | 3 => .int
  | 4 => .array .int
  | 5 => .array .int
  | 6 => .array .int
  | _ => .int
abbrev wsX40 : List Cond := u_ws RX4 TX4 8
theorem nmX4 : ∀ a, a < 8 → ∀ b, b < 8 → a ≠ b → (TX4 a).2.1 ≠ (TX4 b).2.1 := by decide +kernel
theorem tyX4_ok : ∀ k, k < 8 → parseFieldDescriptor (TX4 k).2.2.1 = some (tyX4 k) := by decide +kernel
abbrev cX4_init : ByteArray := prog_6_method_1_code
def yX4_init : MethodName := ⟨RX4, "<init>", "()V"⟩
abbrev cX4_append : ByteArray := prog_6_method_2_code
def yX4_append : MethodName := ⟨RX4, "append", "(I)V"⟩
abbrev cX4_clear : ByteArray := prog_6_method_3_code
def yX4_clear : MethodName := ⟨RX4, "clear", "()V"⟩
abbrev cX4_master : ByteArray := prog_6_method_4_code
def yX4_master : MethodName := ⟨RX4, "master", "(I)I"⟩
abbrev cX4_habit : ByteArray := prog_6_method_5_code
def yX4_habit : MethodName := ⟨RX4, "habit", "(I)I"⟩
abbrev cX4_scan : ByteArray := prog_6_method_6_code
def yX4_scan : MethodName := ⟨RX4, "scan", "()V"⟩
abbrev cX4_takeFloor : ByteArray := prog_6_method_7_code
def yX4_takeFloor : MethodName := ⟨RX4, "takeFloor", "(I)Z"⟩
abbrev cX4_takeNumber : ByteArray := prog_6_method_8_code
def yX4_takeNumber : MethodName := ⟨RX4, "takeNumber", "(I)I"⟩
abbrev cX4_takeUnit : ByteArray := prog_6_method_9_code
def yX4_takeUnit : MethodName := ⟨RX4, "takeUnit", "(I)Z"⟩
abbrev cX4_takeWay : ByteArray := prog_6_method_10_code
def yX4_takeWay : MethodName := ⟨RX4, "takeWay", "(I)Z"⟩
abbrev cX4_takeSign : ByteArray := prog_6_method_11_code
def yX4_takeSign : MethodName := ⟨RX4, "takeSign", "(C)Z"⟩
abbrev cX4_sign : ByteArray := prog_6_method_12_code
def yX4_sign : MethodName := ⟨RX4, "sign", "()I"⟩
abbrev cX4_isFigure : ByteArray := prog_6_method_13_code
def yX4_isFigure : MethodName := ⟨RX4, "isFigure", "(I)Z"⟩
abbrev cX4_fail : ByteArray := prog_6_method_14_code
def yX4_fail : MethodName := ⟨RX4, "fail", "(I)Z"⟩
def RX5 : String := "ThreeMasters$Shaft"
def TX5 : u_T := fun k => match k with
  | _ => ("ThreeMasters$Shaft", "leaning", "[I", true)
def tyX5 : Nat → FieldType := fun k => match k with
  | _ => .array .int
abbrev wsX50 : List Cond := u_ws RX5 TX5 1
theorem nmX5 : ∀ a, a < 1 → ∀ b, b < 1 → a ≠ b → (TX5 a).2.1 ≠ (TX5 b).2.1 := by decide +kernel
theorem tyX5_ok : ∀ k, k < 1 → parseFieldDescriptor (TX5 k).2.2.1 = some (tyX5 k) := by decide +kernel
abbrev cX5_init : ByteArray := prog_7_method_1_code
def yX5_init : MethodName := ⟨RX5, "<init>", "()V"⟩
abbrev cX5_spread : ByteArray := prog_7_method_2_code
def yX5_spread : MethodName := ⟨RX5, "spread", "(II)I"⟩
abbrev cX5_lengthFrom : ByteArray := prog_7_method_3_code
def yX5_lengthFrom : MethodName := ⟨RX5, "lengthFrom", "(III)I"⟩
def RX6 : String := "ThreeMasters$Sheet"
def TX6 : u_T := fun k => match k with
  | 0 => ("ThreeMasters$Sheet", "items", "[I", true)
  | 1 => ("ThreeMasters$Sheet", "form", "I", false)
  | _ => ("ThreeMasters$Sheet", "size", "I", false)
def tyX6 : Nat → FieldType := fun k => match k with
  | 0 => .array .int
  | 1 => .int
  | _ => .int
abbrev wsX60 : List Cond := u_ws RX6 TX6 3
theorem nmX6 : ∀ a, a < 3 → ∀ b, b < 3 → a ≠ b → (TX6 a).2.1 ≠ (TX6 b).2.1 := by decide +kernel
theorem tyX6_ok : ∀ k, k < 3 → parseFieldDescriptor (TX6 k).2.2.1 = some (tyX6 k) := by decide +kernel
abbrev cX6_init : ByteArray := prog_8_method_1_code
def yX6_init : MethodName := ⟨RX6, "<init>", "()V"⟩
abbrev cX6_isLost : ByteArray := prog_8_method_2_code
def yX6_isLost : MethodName := ⟨RX6, "isLost", "()Z"⟩
abbrev cX6_renew : ByteArray := prog_8_method_3_code
def yX6_renew : MethodName := ⟨RX6, "renew", "(II)V"⟩
abbrev cX6_hasRun : ByteArray := prog_8_method_4_code
def yX6_hasRun : MethodName := ⟨RX6, "hasRun", "(II)Z"⟩
abbrev cX6_store : ByteArray := prog_8_method_5_code
def yX6_store : MethodName := ⟨RX6, "store", "(II)V"⟩
def RX7 : String := "ThreeMasters$Tower"
def TX7 : u_T := fun k => match k with
  | 0 => ("ThreeMasters$Tower", "measures", "LThreeMasters$Measures;", true)
  | 1 => ("ThreeMasters$Tower", "plan", "LThreeMasters$Plan;", true)
  | 2 => ("ThreeMasters$Tower", "meant", "[I", true)
  | 3 => ("ThreeMasters$Tower", "unshimmed", "[I", true)
  | 4 => ("ThreeMasters$Tower", "shims", "[I", true)
  | 5 => ("ThreeMasters$Tower", "sills", "[I", true)
  | _ => ("ThreeMasters$Tower", "shoulds", "[I", true)
def tyX7 : Nat → FieldType := fun k => match k with
  | 0 => .object "ThreeMasters$Measures"
  | 1 => .object "ThreeMasters$Plan"
  | 2 => .array .int
  | 3 => .array .int
  | 4 => .array .int
  | 5 => .array .int
  | _ => .array .int
abbrev wsX70 : List Cond := u_ws RX7 TX7 7
theorem nmX7 : ∀ a, a < 7 → ∀ b, b < 7 → a ≠ b → (TX7 a).2.1 ≠ (TX7 b).2.1 := by decide +kernel
theorem tyX7_ok : ∀ k, k < 7 → parseFieldDescriptor (TX7 k).2.2.1 = some (tyX7 k) := by decide +kernel
abbrev cX7_init : ByteArray := prog_9_method_1_code
def yX7_init : MethodName := ⟨RX7, "<init>", "(LThreeMasters$Measures;LThreeMasters$Plan;)V"⟩
abbrev cX7_reckon : ByteArray := prog_9_method_2_code
def yX7_reckon : MethodName := ⟨RX7, "reckon", "()V"⟩
abbrev cX7_floors : ByteArray := prog_9_method_3_code
def yX7_floors : MethodName := ⟨RX7, "floors", "()I"⟩
abbrev cX7_built : ByteArray := prog_9_method_4_code
def yX7_built : MethodName := ⟨RX7, "built", "(I)I"⟩
abbrev cX7_off : ByteArray := prog_9_method_5_code
def yX7_off : MethodName := ⟨RX7, "off", "(I)I"⟩
abbrev cX7_missBy : ByteArray := prog_9_method_6_code
def yX7_missBy : MethodName := ⟨RX7, "missBy", "(I)I"⟩
def RX8 : String := "ThreeMasters"
def TX8 : u_T := fun k => match k with
  | 0 => ("ThreeMasters", "measures", "LThreeMasters$Measures;", true)
  | 1 => ("ThreeMasters", "plan", "LThreeMasters$Plan;", true)
  | 2 => ("ThreeMasters", "tower", "LThreeMasters$Tower;", true)
  | 3 => ("ThreeMasters", "finds", "LThreeMasters$Finds;", true)
  | 4 => ("ThreeMasters", "shaft", "LThreeMasters$Shaft;", true)
  | 5 => ("ThreeMasters", "mender", "LThreeMasters$Mender;", true)
  | 6 => ("ThreeMasters", "loads", "LThreeMasters$Loads;", true)
  | 7 => ("ThreeMasters", "sheets", "[LThreeMasters$Sheet;", true)
  | 8 => ("ThreeMasters", "settings", "[I", true)
  | _ => ("ThreeMasters", "latestFinding", "I", false)
def tyX8 : Nat → FieldType := fun k => match k with
  | 0 => .object "ThreeMasters$Measures"
  | 1 => .object "ThreeMasters$Plan"
  | 2 => .object "ThreeMasters$Tower"
  | 3 => .object "ThreeMasters$Finds"
  | 4 => .object "ThreeMasters$Shaft"
  | 5 => .object "ThreeMasters$Mender"
  | 6 => .object "ThreeMasters$Loads"
  | 7 => .array (.object "ThreeMasters$Sheet")
  | 8 => .array .int
  | _ => .int
abbrev wsX80 : List Cond := u_ws RX8 TX8 10
theorem nmX8 : ∀ a, a < 10 → ∀ b, b < 10 → a ≠ b → (TX8 a).2.1 ≠ (TX8 b).2.1 := by decide +kernel
theorem tyX8_ok : ∀ k, k < 10 → parseFieldDescriptor (TX8 k).2.2.1 = some (tyX8 k) := by decide +kernel
abbrev cX8_init : ByteArray := prog_1_method_1_code
def yX8_init : MethodName := ⟨RX8, "<init>", "()V"⟩
abbrev cX8_measure : ByteArray := prog_1_method_2_code
def yX8_measure : MethodName := ⟨RX8, "measure", "(III)I"⟩
abbrev cX8_type : ByteArray := prog_1_method_3_code
def yX8_type : MethodName := ⟨RX8, "type", "(I)I"⟩
abbrev cX8_wipe : ByteArray := prog_1_method_4_code
def yX8_wipe : MethodName := ⟨RX8, "wipe", "()I"⟩
abbrev cX8_fault : ByteArray := prog_1_method_5_code
def yX8_fault : MethodName := ⟨RX8, "fault", "()I"⟩
abbrev cX8_floor : ByteArray := prog_1_method_6_code
def yX8_floor : MethodName := ⟨RX8, "floor", "(II)I"⟩
abbrev cX8_cut : ByteArray := prog_1_method_7_code
def yX8_cut : MethodName := ⟨RX8, "cut", "(III)I"⟩
abbrev cX8_shim : ByteArray := prog_1_method_8_code
def yX8_shim : MethodName := ⟨RX8, "shim", "(II)I"⟩
abbrev cX8_set : ByteArray := prog_1_method_9_code
def yX8_set : MethodName := ⟨RX8, "set", "(II)I"⟩
abbrev cX8_sill : ByteArray := prog_1_method_10_code
def yX8_sill : MethodName := ⟨RX8, "sill", "(II)I"⟩
abbrev cX8_worst : ByteArray := prog_1_method_11_code
def yX8_worst : MethodName := ⟨RX8, "worst", "()I"⟩
abbrev cX8_stairs : ByteArray := prog_1_method_12_code
def yX8_stairs : MethodName := ⟨RX8, "stairs", "(III)I"⟩
abbrev cX8_even : ByteArray := prog_1_method_13_code
def yX8_even : MethodName := ⟨RX8, "even", "(IIII)I"⟩
abbrev cX8_blame : ByteArray := prog_1_method_14_code
def yX8_blame : MethodName := ⟨RX8, "blame", "(III)J"⟩
abbrev cX8_found : ByteArray := prog_1_method_15_code
def yX8_found : MethodName := ⟨RX8, "found", "(II)I"⟩
abbrev cX8_read : ByteArray := prog_1_method_16_code
def yX8_read : MethodName := ⟨RX8, "read", "(I)I"⟩
abbrev cX8_fits : ByteArray := prog_1_method_17_code
def yX8_fits : MethodName := ⟨RX8, "fits", "(I)I"⟩
abbrev cX8_worlds : ByteArray := prog_1_method_18_code
def yX8_worlds : MethodName := ⟨RX8, "worlds", "()J"⟩
abbrev cX8_odds : ByteArray := prog_1_method_19_code
def yX8_odds : MethodName := ⟨RX8, "odds", "(III)J"⟩
abbrev cX8_lean : ByteArray := prog_1_method_20_code
def yX8_lean : MethodName := ⟨RX8, "lean", "(II)I"⟩
abbrev cX8_runs : ByteArray := prog_1_method_21_code
def yX8_runs : MethodName := ⟨RX8, "runs", "(III)I"⟩
abbrev cX8_lifts : ByteArray := prog_1_method_22_code
def yX8_lifts : MethodName := ⟨RX8, "lifts", "()I"⟩
abbrev cX8_longest : ByteArray := prog_1_method_23_code
def yX8_longest : MethodName := ⟨RX8, "longest", "(II)I"⟩
abbrev cX8_mended : ByteArray := prog_1_method_24_code
def yX8_mended : MethodName := ⟨RX8, "mended", "(II)I"⟩
abbrev cX8_next : ByteArray := prog_1_method_25_code
def yX8_next : MethodName := ⟨RX8, "next", "(II)I"⟩
abbrev cX8_weigh : ByteArray := prog_1_method_26_code
def yX8_weigh : MethodName := ⟨RX8, "weigh", "(II)I"⟩
abbrev cX8_bears : ByteArray := prog_1_method_27_code
def yX8_bears : MethodName := ⟨RX8, "bears", "(II)I"⟩
abbrev cX8_safe : ByteArray := prog_1_method_28_code
def yX8_safe : MethodName := ⟨RX8, "safe", "(I)I"⟩
abbrev cX8_more : ByteArray := prog_1_method_29_code
def yX8_more : MethodName := ⟨RX8, "more", "()I"⟩
abbrev cX8_stones : ByteArray := prog_1_method_30_code
def yX8_stones : MethodName := ⟨RX8, "stones", "(I)I"⟩
abbrev cX8_sheet : ByteArray := prog_1_method_31_code
def yX8_sheet : MethodName := ⟨RX8, "sheet", "(III)I"⟩
abbrev cX8_lose : ByteArray := prog_1_method_32_code
def yX8_lose : MethodName := ⟨RX8, "lose", "(I)I"⟩
abbrev cX8_put : ByteArray := prog_1_method_33_code
def yX8_put : MethodName := ⟨RX8, "put", "(IIII)I"⟩
abbrev cX8_get : ByteArray := prog_1_method_34_code
def yX8_get : MethodName := ⟨RX8, "get", "(III)I"⟩
abbrev cX8_copy : ByteArray := prog_1_method_35_code
def yX8_copy : MethodName := ⟨RX8, "copy", "(IIIII)I"⟩
abbrev cX8_write : ByteArray := prog_1_method_36_code
def yX8_write : MethodName := ⟨RX8, "write", "(I)I"⟩
abbrev cX8_count : ByteArray := prog_1_method_37_code
def yX8_count : MethodName := ⟨RX8, "count", "(I)I"⟩
abbrev cX8_digest : ByteArray := prog_1_method_38_code
def yX8_digest : MethodName := ⟨RX8, "digest", "()J"⟩
abbrev cX8_mixFloor : ByteArray := prog_1_method_39_code
def yX8_mixFloor : MethodName := ⟨RX8, "mixFloor", "(JI)J"⟩
abbrev cX8_mixMaster : ByteArray := prog_1_method_40_code
def yX8_mixMaster : MethodName := ⟨RX8, "mixMaster", "(JI)J"⟩
abbrev cX8_mix : ByteArray := prog_1_method_41_code
def yX8_mix : MethodName := ⟨RX8, "mix", "(JJ)J"⟩
abbrev cX8_within : ByteArray := prog_1_method_42_code
def yX8_within : MethodName := ⟨RX8, "within", "(III)Z"⟩
abbrev cX8_isMaster : ByteArray := prog_1_method_43_code
def yX8_isMaster : MethodName := ⟨RX8, "isMaster", "(I)Z"⟩
abbrev cX8_isSheet : ByteArray := prog_1_method_44_code
def yX8_isSheet : MethodName := ⟨RX8, "isSheet", "(I)Z"⟩
abbrev cX8_isForm : ByteArray := prog_1_method_45_code
def yX8_isForm : MethodName := ⟨RX8, "isForm", "(I)Z"⟩
abbrev cX8_isHeight : ByteArray := prog_1_method_46_code
def yX8_isHeight : MethodName := ⟨RX8, "isHeight", "(I)Z"⟩
abbrev cX8_isSpot : ByteArray := prog_1_method_47_code
def yX8_isSpot : MethodName := ⟨RX8, "isSpot", "(I)Z"⟩
abbrev cX8_isFloor : ByteArray := prog_1_method_48_code
def yX8_isFloor : MethodName := ⟨RX8, "isFloor", "(I)Z"⟩
abbrev cX8_isSill : ByteArray := prog_1_method_49_code
def yX8_isSill : MethodName := ⟨RX8, "isSill", "(I)Z"⟩
abbrev cX8_refuseLong : ByteArray := prog_1_method_50_code
def yX8_refuseLong : MethodName := ⟨RX8, "refuseLong", "(I)J"⟩
abbrev cX8_finding : ByteArray := prog_1_method_51_code
def yX8_finding : MethodName := ⟨RX8, "finding", "(I)I"⟩
abbrev cX8_refuseSheet : ByteArray := prog_1_method_52_code
def yX8_refuseSheet : MethodName := ⟨RX8, "refuseSheet", "(I)I"⟩
abbrev cX8_refuseItem : ByteArray := prog_1_method_53_code
def yX8_refuseItem : MethodName := ⟨RX8, "refuseItem", "(III)I"⟩
abbrev cX8_inLowestTerms : ByteArray := prog_1_method_54_code
def yX8_inLowestTerms : MethodName := ⟨RX8, "inLowestTerms", "(JJI)J"⟩
abbrev cX8_evenSteps : ByteArray := prog_1_method_55_code
def yX8_evenSteps : MethodName := ⟨RX8, "evenSteps", "(III)I"⟩
abbrev cX8_evenHeight : ByteArray := prog_1_method_56_code
def yX8_evenHeight : MethodName := ⟨RX8, "evenHeight", "(IIII)I"⟩
abbrev cX8_offAfter : ByteArray := prog_1_method_57_code
def yX8_offAfter : MethodName := ⟨RX8, "offAfter", "(II)I"⟩
abbrev cX8_stonesFor : ByteArray := prog_1_method_58_code
def yX8_stonesFor : MethodName := ⟨RX8, "stonesFor", "(I)I"⟩
def RX9 : String := "ThreeMastersModel"
def TX9 : u_T := fun k => match k with
  | 0 => ("ThreeMastersModel", "sizesOf", "[I", true)
  | 1 => ("ThreeMastersModel", "grids", "[I", true)
  | 2 => ("ThreeMastersModel", "setting", "[I", true)
  | 3 => ("ThreeMastersModel", "typed", "I", false)
  | 4 => ("ThreeMastersModel", "text", "[I", true)
  | 5 => ("ThreeMastersModel", "floors", "I", false)
  | 6 => ("ThreeMastersModel", "meant", "[I", true)
  | 7 => ("ThreeMastersModel", "ways", "[I", true)
  | 8 => ("ThreeMastersModel", "shims", "[I", true)
  | 9 => ("ThreeMastersModel", "foundOf", "[I", true)
  | 10 => ("ThreeMastersModel", "leans", "[I", true)
  | 11 => ("ThreeMastersModel", "weights", "[I", true)
  | 12 => ("ThreeMastersModel", "many", "[J", true)
  | 13 => ("ThreeMastersModel", "next", "[J", true)
  | 14 => ("ThreeMastersModel", "mend", "[I", true)
  | 15 => ("ThreeMastersModel", "isThere", "[Z", true)
  | 16 => ("ThreeMastersModel", "forms", "[I", true)
  | 17 => ("ThreeMastersModel", "sizes", "[I", true)
  | 18 => ("ThreeMastersModel", "items", "[I", true)
  | 19 => ("ThreeMastersModel", "moved", "[I", true)
  | _ => ("ThreeMastersModel", "finding", "I", false)
def tyX9 : Nat → FieldType := fun k => match k with
  | 0 => .array .int
  | 1 => .array .int
  | 2 => .array .int
  | 3 => .int
  | 4 => .array .int
  | 5 => .int
  | 6 => .array .int
  | 7 => .array .int
  | 8 => .array .int
  | 9 => .array .int
  | 10 => .array .int
  | 11 => .array .int
  | 12 => .array .long
  | 13 => .array .long
  | 14 => .array .int
  | 15 => .array .boolean
  | 16 => .array .int
  | 17 => .array .int
  | 18 => .array .int
  | 19 => .array .int
  | _ => .int
abbrev wsX90 : List Cond := u_ws RX9 TX9 21
theorem nmX9 : ∀ a, a < 21 → ∀ b, b < 21 → a ≠ b → (TX9 a).2.1 ≠ (TX9 b).2.1 := by decide +kernel
theorem tyX9_ok : ∀ k, k < 21 → parseFieldDescriptor (TX9 k).2.2.1 = some (tyX9 k) := by decide +kernel
abbrev cX9_init : ByteArray := prog_11_method_1_code
def yX9_init : MethodName := ⟨RX9, "<init>", "()V"⟩
abbrev cX9_in : ByteArray := prog_11_method_3_code
def yX9_in : MethodName := ⟨RX9, "in", "(III)Z"⟩
abbrev cX9_amount : ByteArray := prog_11_method_4_code
def yX9_amount : MethodName := ⟨RX9, "amount", "(I)I"⟩
abbrev cX9_no : ByteArray := prog_11_method_5_code
def yX9_no : MethodName := ⟨RX9, "no", "(I)J"⟩
abbrev cX9_lowest : ByteArray := prog_11_method_6_code
def yX9_lowest : MethodName := ⟨RX9, "lowest", "(JJI)J"⟩
abbrev cX9_measure : ByteArray := prog_11_method_7_code
def yX9_measure : MethodName := ⟨RX9, "measure", "(III)I"⟩
abbrev cX9_type : ByteArray := prog_11_method_8_code
def yX9_type : MethodName := ⟨RX9, "type", "(I)I"⟩
abbrev cX9_wipe : ByteArray := prog_11_method_9_code
def yX9_wipe : MethodName := ⟨RX9, "wipe", "()I"⟩
abbrev cX9_byteAt : ByteArray := prog_11_method_10_code
def yX9_byteAt : MethodName := ⟨RX9, "byteAt", "(I)I"⟩
abbrev cX9_figures : ByteArray := prog_11_method_11_code
def yX9_figures : MethodName := ⟨RX9, "figures", "(I)I"⟩
abbrev cX9_numberAt : ByteArray := prog_11_method_12_code
def yX9_numberAt : MethodName := ⟨RX9, "numberAt", "(I)I"⟩
abbrev cX9_reads : ByteArray := prog_11_method_13_code
def yX9_reads : MethodName := ⟨RX9, "reads", "()I"⟩
abbrev cX9_fault : ByteArray := prog_11_method_14_code
def yX9_fault : MethodName := ⟨RX9, "fault", "()I"⟩
abbrev cX9_floorsNow : ByteArray := prog_11_method_15_code
def yX9_floorsNow : MethodName := ⟨RX9, "floorsNow", "()I"⟩
abbrev cX9_cutBy : ByteArray := prog_11_method_16_code
def yX9_cutBy : MethodName := ⟨RX9, "cutBy", "(II)I"⟩
abbrev cX9_builtOf : ByteArray := prog_11_method_17_code
def yX9_builtOf : MethodName := ⟨RX9, "builtOf", "(I)I"⟩
abbrev cX9_isFloor : ByteArray := prog_11_method_18_code
def yX9_isFloor : MethodName := ⟨RX9, "isFloor", "(I)Z"⟩
abbrev cX9_floorOf : ByteArray := prog_11_method_19_code
def yX9_floorOf : MethodName := ⟨RX9, "floorOf", "(II)I"⟩
abbrev cX9_floor : ByteArray := prog_11_method_20_code
def yX9_floor : MethodName := ⟨RX9, "floor", "(II)I"⟩
abbrev cX9_cut : ByteArray := prog_11_method_21_code
def yX9_cut : MethodName := ⟨RX9, "cut", "(III)I"⟩
abbrev cX9_shim : ByteArray := prog_11_method_22_code
def yX9_shim : MethodName := ⟨RX9, "shim", "(II)I"⟩
abbrev cX9_set : ByteArray := prog_11_method_23_code
def yX9_set : MethodName := ⟨RX9, "set", "(II)I"⟩
abbrev cX9_sillOf : ByteArray := prog_11_method_24_code
def yX9_sillOf : MethodName := ⟨RX9, "sillOf", "(II)I"⟩
abbrev cX9_sill : ByteArray := prog_11_method_25_code
def yX9_sill : MethodName := ⟨RX9, "sill", "(II)I"⟩
abbrev cX9_worstNow : ByteArray := prog_11_method_26_code
def yX9_worstNow : MethodName := ⟨RX9, "worstNow", "()I"⟩
abbrev cX9_worst : ByteArray := prog_11_method_27_code
def yX9_worst : MethodName := ⟨RX9, "worst", "()I"⟩
abbrev cX9_stairs : ByteArray := prog_11_method_28_code
def yX9_stairs : MethodName := ⟨RX9, "stairs", "(III)I"⟩
abbrev cX9_evenOf : ByteArray := prog_11_method_29_code
def yX9_evenOf : MethodName := ⟨RX9, "evenOf", "(IIII)I"⟩
abbrev cX9_even : ByteArray := prog_11_method_30_code
def yX9_even : MethodName := ⟨RX9, "even", "(IIII)I"⟩
abbrev cX9_blameBy : ByteArray := prog_11_method_31_code
def yX9_blameBy : MethodName := ⟨RX9, "blameBy", "(I)I"⟩
abbrev cX9_blameOf : ByteArray := prog_11_method_32_code
def yX9_blameOf : MethodName := ⟨RX9, "blameOf", "(III)J"⟩
abbrev cX9_blame : ByteArray := prog_11_method_33_code
def yX9_blame : MethodName := ⟨RX9, "blame", "(III)J"⟩
abbrev cX9_isFound : ByteArray := prog_11_method_34_code
def yX9_isFound : MethodName := ⟨RX9, "isFound", "(I)Z"⟩
abbrev cX9_found : ByteArray := prog_11_method_35_code
def yX9_found : MethodName := ⟨RX9, "found", "(II)I"⟩
abbrev cX9_read : ByteArray := prog_11_method_36_code
def yX9_read : MethodName := ⟨RX9, "read", "(I)I"⟩
abbrev cX9_isFit : ByteArray := prog_11_method_37_code
def yX9_isFit : MethodName := ⟨RX9, "isFit", "(II)Z"⟩
abbrev cX9_fitsOf : ByteArray := prog_11_method_38_code
def yX9_fitsOf : MethodName := ⟨RX9, "fitsOf", "(I)I"⟩
abbrev cX9_fits : ByteArray := prog_11_method_39_code
def yX9_fits : MethodName := ⟨RX9, "fits", "(I)I"⟩
abbrev cX9_worldsBy : ByteArray := prog_11_method_40_code
def yX9_worldsBy : MethodName := ⟨RX9, "worldsBy", "(II)J"⟩
abbrev cX9_worlds : ByteArray := prog_11_method_41_code
def yX9_worlds : MethodName := ⟨RX9, "worlds", "()J"⟩
abbrev cX9_oddsOf : ByteArray := prog_11_method_42_code
def yX9_oddsOf : MethodName := ⟨RX9, "oddsOf", "(III)J"⟩
abbrev cX9_odds : ByteArray := prog_11_method_43_code
def yX9_odds : MethodName := ⟨RX9, "odds", "(III)J"⟩
abbrev cX9_lean : ByteArray := prog_11_method_44_code
def yX9_lean : MethodName := ⟨RX9, "lean", "(II)I"⟩
abbrev cX9_spread : ByteArray := prog_11_method_45_code
def yX9_spread : MethodName := ⟨RX9, "spread", "(II)I"⟩
abbrev cX9_runs : ByteArray := prog_11_method_46_code
def yX9_runs : MethodName := ⟨RX9, "runs", "(III)I"⟩
abbrev cX9_liftsNow : ByteArray := prog_11_method_47_code
def yX9_liftsNow : MethodName := ⟨RX9, "liftsNow", "()I"⟩
abbrev cX9_lifts : ByteArray := prog_11_method_48_code
def yX9_lifts : MethodName := ⟨RX9, "lifts", "()I"⟩
abbrev cX9_longestOf : ByteArray := prog_11_method_49_code
def yX9_longestOf : MethodName := ⟨RX9, "longestOf", "(II)I"⟩
abbrev cX9_longest : ByteArray := prog_11_method_50_code
def yX9_longest : MethodName := ⟨RX9, "longest", "(II)I"⟩
abbrev cX9_mends : ByteArray := prog_11_method_51_code
def yX9_mends : MethodName := ⟨RX9, "mends", "(I)I"⟩
abbrev cX9_mended : ByteArray := prog_11_method_52_code
def yX9_mended : MethodName := ⟨RX9, "mended", "(II)I"⟩
abbrev cX9_nextOf : ByteArray := prog_11_method_53_code
def yX9_nextOf : MethodName := ⟨RX9, "nextOf", "(II)I"⟩
abbrev cX9_next : ByteArray := prog_11_method_54_code
def yX9_next : MethodName := ⟨RX9, "next", "(II)I"⟩
abbrev cX9_weigh : ByteArray := prog_11_method_55_code
def yX9_weigh : MethodName := ⟨RX9, "weigh", "(II)I"⟩
abbrev cX9_bearsOf : ByteArray := prog_11_method_56_code
def yX9_bearsOf : MethodName := ⟨RX9, "bearsOf", "(II)I"⟩
abbrev cX9_bears : ByteArray := prog_11_method_57_code
def yX9_bears : MethodName := ⟨RX9, "bears", "(II)I"⟩
abbrev cX9_safeBy : ByteArray := prog_11_method_58_code
def yX9_safeBy : MethodName := ⟨RX9, "safeBy", "(II)I"⟩
abbrev cX9_safe : ByteArray := prog_11_method_59_code
def yX9_safe : MethodName := ⟨RX9, "safe", "(I)I"⟩
abbrev cX9_moreNow : ByteArray := prog_11_method_60_code
def yX9_moreNow : MethodName := ⟨RX9, "moreNow", "()I"⟩
abbrev cX9_more : ByteArray := prog_11_method_61_code
def yX9_more : MethodName := ⟨RX9, "more", "()I"⟩
abbrev cX9_up : ByteArray := prog_11_method_62_code
def yX9_up : MethodName := ⟨RX9, "up", "(I)I"⟩
abbrev cX9_stonesOf : ByteArray := prog_11_method_63_code
def yX9_stonesOf : MethodName := ⟨RX9, "stonesOf", "(I)I"⟩
abbrev cX9_stones : ByteArray := prog_11_method_64_code
def yX9_stones : MethodName := ⟨RX9, "stones", "(I)I"⟩
abbrev cX9_meets : ByteArray := prog_11_method_65_code
def yX9_meets : MethodName := ⟨RX9, "meets", "(I)I"⟩
abbrev cX9_isSheet : ByteArray := prog_11_method_66_code
def yX9_isSheet : MethodName := ⟨RX9, "isSheet", "(I)Z"⟩
abbrev cX9_sheet : ByteArray := prog_11_method_67_code
def yX9_sheet : MethodName := ⟨RX9, "sheet", "(III)I"⟩
abbrev cX9_lose : ByteArray := prog_11_method_68_code
def yX9_lose : MethodName := ⟨RX9, "lose", "(I)I"⟩
abbrev cX9_lacks : ByteArray := prog_11_method_69_code
def yX9_lacks : MethodName := ⟨RX9, "lacks", "(III)I"⟩
abbrev cX9_keep : ByteArray := prog_11_method_70_code
def yX9_keep : MethodName := ⟨RX9, "keep", "(III)V"⟩
abbrev cX9_put : ByteArray := prog_11_method_71_code
def yX9_put : MethodName := ⟨RX9, "put", "(IIII)I"⟩
abbrev cX9_get : ByteArray := prog_11_method_72_code
def yX9_get : MethodName := ⟨RX9, "get", "(III)I"⟩
abbrev cX9_copy : ByteArray := prog_11_method_73_code
def yX9_copy : MethodName := ⟨RX9, "copy", "(IIIII)I"⟩
abbrev cX9_write : ByteArray := prog_11_method_74_code
def yX9_write : MethodName := ⟨RX9, "write", "(I)I"⟩
abbrev cX9_sumOf : ByteArray := prog_11_method_75_code
def yX9_sumOf : MethodName := ⟨RX9, "sumOf", "(I)I"⟩
abbrev cX9_count : ByteArray := prog_11_method_76_code
def yX9_count : MethodName := ⟨RX9, "count", "(I)I"⟩
abbrev cX9_digest : ByteArray := prog_11_method_77_code
def yX9_digest : MethodName := ⟨RX9, "digest", "()J"⟩
def RJ9 : String := "java/lang/Math"
def TJ9 : u_T := fun k => match k with
  | _ => ("", "", "", false)
def tyJ9 : Nat → FieldType := fun k => match k with
  | _ => .int
abbrev wsJ90 : List Cond := u_ws RJ9 TJ9 0
theorem nmJ9 : ∀ a, a < 0 → ∀ b, b < 0 → a ≠ b → (TJ9 a).2.1 ≠ (TJ9 b).2.1 := by decide +kernel
theorem tyJ9_ok : ∀ k, k < 0 → parseFieldDescriptor (TJ9 k).2.2.1 = some (tyJ9 k) := by decide +kernel
abbrev cJ9_floorDiv_7cf53 : ByteArray := prog_12_method_47_code
def yJ9_floorDiv_7cf53 : MethodName := ⟨RJ9, "floorDiv", "(II)I"⟩
abbrev cJ9_abs_0f7a4 : ByteArray := prog_12_method_59_code
def yJ9_abs_0f7a4 : MethodName := ⟨RJ9, "abs", "(I)I"⟩
abbrev cJ9_max_7cf53 : ByteArray := prog_12_method_65_code
def yJ9_max_7cf53 : MethodName := ⟨RJ9, "max", "(II)I"⟩
abbrev cJ9_min_7cf53 : ByteArray := prog_12_method_69_code
def yJ9_min_7cf53 : MethodName := ⟨RJ9, "min", "(II)I"⟩
def RJ10 : String := "java/lang/System"
def TJ10 : u_T := fun k => match k with
  | _ => ("", "", "", false)
def tyJ10 : Nat → FieldType := fun k => match k with
  | _ => .int
abbrev wsJ100 : List Cond := u_ws RJ10 TJ10 0
theorem nmJ10 : ∀ a, a < 0 → ∀ b, b < 0 → a ≠ b → (TJ10 a).2.1 ≠ (TJ10 b).2.1 := by decide +kernel
theorem tyJ10_ok : ∀ k, k < 0 → parseFieldDescriptor (TJ10 k).2.2.1 = some (tyJ10 k) := by decide +kernel
def RJ7 : String := "java/util/Arrays"
def TJ7 : u_T := fun k => match k with
  | _ => ("", "", "", false)
def tyJ7 : Nat → FieldType := fun k => match k with
  | _ => .int
abbrev wsJ70 : List Cond := u_ws RJ7 TJ7 0
theorem nmJ7 : ∀ a, a < 0 → ∀ b, b < 0 → a ≠ b → (TJ7 a).2.1 ≠ (TJ7 b).2.1 := by decide +kernel
theorem tyJ7_ok : ∀ k, k < 0 → parseFieldDescriptor (TJ7 k).2.2.1 = some (tyJ7 k) := by decide +kernel
abbrev cJ7_fill_d0a16 : ByteArray := prog_14_method_101_code
def yJ7_fill_d0a16 : MethodName := ⟨RJ7, "fill", "([JJ)V"⟩
abbrev cJ7_fill_53178 : ByteArray := prog_14_method_103_code
def yJ7_fill_53178 : MethodName := ⟨RJ7, "fill", "([II)V"⟩
def RL : String := "ThreeMastersLaw"
abbrev cL_law : ByteArray := code
def yL_law : MethodName := ⟨RL, "law", "([I)Z"⟩
def wsL_law_r1 : List Cond := [Cond.classLink RL 7 RX8, Cond.instantiable RX8 10, Cond.initialized RX8, Cond.classLink RL 10 RX9, Cond.instantiable RX9 21, Cond.initialized RX9, Cond.methodLink RL 9 yX8_init, Cond.instanceMethod yX8_init, Cond.code yX8_init cX8_init 2 none, Cond.methodLink RX8 1 objectInit, Cond.instanceMethod objectInit, Cond.code objectInit ⟨#[0xb1]⟩ 1 none, Cond.arrayClass .int, Cond.fieldLink RX8 7 "ThreeMasters" "settings" "[I", Cond.classLink RX8 13 RX2, Cond.instantiable RX2 2, Cond.initialized RX2, Cond.fieldLink RX8 16 "ThreeMasters" "measures" "LThreeMasters$Measures;", Cond.classLink RX8 20 RX4, Cond.instantiable RX4 8, Cond.initialized RX4, Cond.fieldLink RX8 23 "ThreeMasters" "plan" "LThreeMasters$Plan;", Cond.classLink RX8 27 RX7, Cond.instantiable RX7 7]
def wsL_law_r2 : List Cond := [Cond.initialized RX7, Cond.fieldLink RX8 32 "ThreeMasters" "tower" "LThreeMasters$Tower;", Cond.classLink RX8 36 RX0, Cond.instantiable RX0 4, Cond.initialized RX0, Cond.fieldLink RX8 41 "ThreeMasters" "finds" "LThreeMasters$Finds;", Cond.classLink RX8 45 RX5, Cond.instantiable RX5 1, Cond.initialized RX5, Cond.fieldLink RX8 48 "ThreeMasters" "shaft" "LThreeMasters$Shaft;", Cond.classLink RX8 52 RX3, Cond.instantiable RX3 1, Cond.initialized RX3, Cond.fieldLink RX8 55 "ThreeMasters" "mender" "LThreeMasters$Mender;", Cond.classLink RX8 59 RX1, Cond.instantiable RX1 2, Cond.initialized RX1, Cond.fieldLink RX8 64 "ThreeMasters" "loads" "LThreeMasters$Loads;", Cond.classLink RX8 68 RX6, Cond.fieldLink RX8 70 "ThreeMasters" "sheets" "[LThreeMasters$Sheet;", Cond.instantiable RX6 3, Cond.initialized RX6, Cond.instanceMethod yX2_init, Cond.code yX2_init cX2_init 1 none]
def wsL_law_r3 : List Cond := [Cond.methodLink RX2 1 objectInit, Cond.fieldLink RX2 7 "ThreeMasters$Measures" "sizes" "[I", Cond.fieldLink RX2 13 "ThreeMasters$Measures" "grids" "[I", Cond.instanceMethod yX4_init, Cond.code yX4_init cX4_init 1 none, Cond.methodLink RX4 3 objectInit, Cond.fieldLink RX4 9 "ThreeMasters$Plan" "text" "[I", Cond.fieldLink RX4 15 "ThreeMasters$Plan" "fault" "I", Cond.fieldLink RX4 19 "ThreeMasters$Plan" "unit" "[I", Cond.fieldLink RX4 22 "ThreeMasters$Plan" "twelfths" "[I", Cond.fieldLink RX4 25 "ThreeMasters$Plan" "way" "[I", Cond.methodLink RX8 29 yX7_init, Cond.instanceMethod yX7_init, Cond.code yX7_init cX7_init 3 none, Cond.methodLink RX7 3 objectInit, Cond.fieldLink RX7 9 "ThreeMasters$Tower" "meant" "[I", Cond.fieldLink RX7 15 "ThreeMasters$Tower" "unshimmed" "[I", Cond.fieldLink RX7 18 "ThreeMasters$Tower" "shims" "[I", Cond.fieldLink RX7 21 "ThreeMasters$Tower" "sills" "[I", Cond.fieldLink RX7 24 "ThreeMasters$Tower" "shoulds" "[I", Cond.fieldLink RX7 27 "ThreeMasters$Tower" "measures" "LThreeMasters$Measures;", Cond.fieldLink RX7 31 "ThreeMasters$Tower" "plan" "LThreeMasters$Plan;", Cond.methodLink RX8 38 yX0_init, Cond.instanceMethod yX0_init]
def wsL_law_r4 : List Cond := [Cond.code yX0_init cX0_init 3 none, Cond.methodLink RX0 3 objectInit, Cond.fieldLink RX0 9 "ThreeMasters$Finds" "heights" "[I", Cond.arrayClass .long, Cond.fieldLink RX0 15 "ThreeMasters$Finds" "endings" "[J", Cond.fieldLink RX0 19 "ThreeMasters$Finds" "measures" "LThreeMasters$Measures;", Cond.fieldLink RX0 23 "ThreeMasters$Finds" "tower" "LThreeMasters$Tower;", Cond.methodLink RX0 27 yJ7_fill_53178, Cond.static yJ7_fill_53178, Cond.initialized RJ7, Cond.code yJ7_fill_53178 cJ7_fill_53178 4 none, Cond.instanceMethod yX5_init, Cond.code yX5_init cX5_init 1 none, Cond.methodLink RX5 3 objectInit, Cond.fieldLink RX5 9 "ThreeMasters$Shaft" "leaning" "[I", Cond.instanceMethod yX3_init, Cond.code yX3_init cX3_init 1 none, Cond.methodLink RX3 3 objectInit, Cond.fieldLink RX3 9 "ThreeMasters$Mender" "row" "[I", Cond.methodLink RX8 61 yX1_init, Cond.instanceMethod yX1_init, Cond.code yX1_init cX1_init 2 none, Cond.methodLink RX1 3 objectInit, Cond.fieldLink RX1 9 "ThreeMasters$Loads" "weights" "[I"]
def wsL_law_r5 : List Cond := [Cond.fieldLink RX1 15 "ThreeMasters$Loads" "tower" "LThreeMasters$Tower;", Cond.instanceMethod yX6_init, Cond.code yX6_init cX6_init 1 none, Cond.methodLink RX6 3 objectInit, Cond.fieldLink RX6 9 "ThreeMasters$Sheet" "items" "[I", Cond.fieldLink RX6 15 "ThreeMasters$Sheet" "form" "I", Cond.methodLink RL 12 yX9_init, Cond.instanceMethod yX9_init, Cond.code yX9_init cX9_init 2 none, Cond.methodLink RX9 1 objectInit, Cond.fieldLink RX9 7 "ThreeMastersModel" "sizesOf" "[I", Cond.fieldLink RX9 13 "ThreeMastersModel" "grids" "[I", Cond.fieldLink RX9 16 "ThreeMastersModel" "setting" "[I", Cond.fieldLink RX9 19 "ThreeMastersModel" "text" "[I", Cond.fieldLink RX9 22 "ThreeMastersModel" "meant" "[I", Cond.fieldLink RX9 25 "ThreeMastersModel" "ways" "[I", Cond.fieldLink RX9 28 "ThreeMastersModel" "shims" "[I", Cond.fieldLink RX9 31 "ThreeMastersModel" "foundOf" "[I", Cond.fieldLink RX9 34 "ThreeMastersModel" "leans" "[I", Cond.fieldLink RX9 37 "ThreeMastersModel" "weights" "[I", Cond.fieldLink RX9 40 "ThreeMastersModel" "many" "[J", Cond.fieldLink RX9 44 "ThreeMastersModel" "next" "[J", Cond.fieldLink RX9 47 "ThreeMastersModel" "mend" "[I", Cond.arrayClass .boolean]
def wsL_law_r6 : List Cond := [Cond.fieldLink RX9 50 "ThreeMastersModel" "isThere" "[Z", Cond.fieldLink RX9 54 "ThreeMastersModel" "forms" "[I", Cond.fieldLink RX9 57 "ThreeMastersModel" "sizes" "[I", Cond.fieldLink RX9 60 "ThreeMastersModel" "items" "[I", Cond.fieldLink RX9 63 "ThreeMastersModel" "moved" "[I", Cond.methodLink RL 13 yX8_measure, Cond.instanceMethod yX8_measure, Cond.selects RX8 yX8_measure yX8_measure, Cond.code yX8_measure cX8_measure 5 (some .int), Cond.methodLink RX8 75 yX8_isMaster, Cond.static yX8_isMaster, Cond.code yX8_isMaster cX8_isMaster 1 (some .boolean), Cond.methodLink RX8 79 yX8_within, Cond.static yX8_within, Cond.code yX8_within cX8_within 3 (some .boolean), Cond.methodLink RX8 83 yX2_exchange, Cond.instanceMethod yX2_exchange, Cond.selects RX2 yX2_exchange yX2_exchange, Cond.code yX2_exchange cX2_exchange 6 (some .int), Cond.methodLink RX8 87 yX7_reckon, Cond.instanceMethod yX7_reckon, Cond.selects RX7 yX7_reckon yX7_reckon, Cond.code yX7_reckon cX7_reckon 2 none, Cond.methodLink RX7 52 yX4_master]
def wsL_law_r7 : List Cond := [Cond.instanceMethod yX4_master, Cond.selects RX4 yX4_master yX4_master, Cond.code yX4_master cX4_master 2 (some .int), Cond.methodLink RX7 56 yX4_habit, Cond.instanceMethod yX4_habit, Cond.selects RX4 yX4_habit yX4_habit, Cond.code yX4_habit cX4_habit 2 (some .int), Cond.methodLink RX7 59 yX2_toParts, Cond.instanceMethod yX2_toParts, Cond.selects RX2 yX2_toParts yX2_toParts, Cond.code yX2_toParts cX2_toParts 8 (some .int), Cond.methodLink RX7 63 yX7_built, Cond.instanceMethod yX7_built, Cond.selects RX7 yX7_built yX7_built, Cond.code yX7_built cX7_built 2 (some .int), Cond.methodLink RL 17 yX9_measure, Cond.instanceMethod yX9_measure, Cond.selects RX9 yX9_measure yX9_measure, Cond.code yX9_measure cX9_measure 5 (some .int), Cond.methodLink RX9 68 yX9_in, Cond.static yX9_in, Cond.code yX9_in cX9_in 3 (some .boolean), Cond.methodLink RL 18 yX8_type, Cond.instanceMethod yX8_type]
def wsL_law_r8 : List Cond := [Cond.selects RX8 yX8_type yX8_type, Cond.code yX8_type cX8_type 2 (some .int), Cond.methodLink RX8 94 yX4_append, Cond.instanceMethod yX4_append, Cond.selects RX4 yX4_append yX4_append, Cond.code yX4_append cX4_append 2 none, Cond.fieldLink RX4 28 "ThreeMasters$Plan" "length" "I", Cond.methodLink RX4 31 yX4_scan, Cond.instanceMethod yX4_scan, Cond.selects RX4 yX4_scan yX4_scan, Cond.code yX4_scan cX4_scan 3 none, Cond.fieldLink RX4 34 "ThreeMasters$Plan" "at" "I", Cond.fieldLink RX4 48 "ThreeMasters$Plan" "floors" "I", Cond.methodLink RX4 37 yX4_takeFloor, Cond.instanceMethod yX4_takeFloor, Cond.selects RX4 yX4_takeFloor yX4_takeFloor, Cond.code yX4_takeFloor cX4_takeFloor 4 (some .boolean), Cond.methodLink RX4 51 yX4_takeNumber, Cond.instanceMethod yX4_takeNumber, Cond.selects RX4 yX4_takeNumber yX4_takeNumber, Cond.code yX4_takeNumber cX4_takeNumber 4 (some .int), Cond.methodLink RX4 58 yX4_sign, Cond.instanceMethod yX4_sign, Cond.selects RX4 yX4_sign yX4_sign]
def wsL_law_r9 : List Cond := [Cond.code yX4_sign cX4_sign 1 (some .int), Cond.methodLink RX4 65 yX4_isFigure, Cond.static yX4_isFigure, Cond.code yX4_isFigure cX4_isFigure 1 (some .boolean), Cond.methodLink RX4 45 yX4_fail, Cond.instanceMethod yX4_fail, Cond.selects RX4 yX4_fail yX4_fail, Cond.code yX4_fail cX4_fail 2 (some .boolean), Cond.methodLink RX4 55 yX4_takeUnit, Cond.instanceMethod yX4_takeUnit, Cond.selects RX4 yX4_takeUnit yX4_takeUnit, Cond.code yX4_takeUnit cX4_takeUnit 3 (some .boolean), Cond.methodLink RX4 41 yX4_takeSign, Cond.instanceMethod yX4_takeSign, Cond.selects RX4 yX4_takeSign yX4_takeSign, Cond.code yX4_takeSign cX4_takeSign 2 (some .boolean), Cond.methodLink RX4 62 yX4_takeWay, Cond.instanceMethod yX4_takeWay, Cond.selects RX4 yX4_takeWay yX4_takeWay, Cond.code yX4_takeWay cX4_takeWay 3 (some .boolean), Cond.methodLink RL 22 yX9_type, Cond.instanceMethod yX9_type, Cond.selects RX9 yX9_type yX9_type, Cond.code yX9_type cX9_type 2 (some .int)]
def wsL_law_r10 : List Cond := [Cond.fieldLink RX9 72 "ThreeMastersModel" "typed" "I", Cond.methodLink RL 23 yX8_wipe, Cond.instanceMethod yX8_wipe, Cond.selects RX8 yX8_wipe yX8_wipe, Cond.code yX8_wipe cX8_wipe 2 (some .int), Cond.methodLink RX8 98 yX4_clear, Cond.instanceMethod yX4_clear, Cond.selects RX4 yX4_clear yX4_clear, Cond.code yX4_clear cX4_clear 1 none, Cond.methodLink RL 27 yX9_wipe, Cond.instanceMethod yX9_wipe, Cond.selects RX9 yX9_wipe yX9_wipe, Cond.code yX9_wipe cX9_wipe 2 (some .int), Cond.methodLink RL 28 yX8_fault, Cond.instanceMethod yX8_fault, Cond.selects RX8 yX8_fault yX8_fault, Cond.code yX8_fault cX8_fault 1 (some .int), Cond.methodLink RL 31 yX9_fault, Cond.instanceMethod yX9_fault, Cond.selects RX9 yX9_fault yX9_fault, Cond.code yX9_fault cX9_fault 1 (some .int), Cond.methodLink RX9 89 yX9_reads, Cond.instanceMethod yX9_reads, Cond.selects RX9 yX9_reads yX9_reads]
def wsL_law_r11 : List Cond := [Cond.code yX9_reads cX9_reads 7 (some .int), Cond.fieldLink RX9 83 "ThreeMastersModel" "floors" "I", Cond.methodLink RX9 86 yX9_numberAt, Cond.instanceMethod yX9_numberAt, Cond.selects RX9 yX9_numberAt yX9_numberAt, Cond.code yX9_numberAt cX9_numberAt 3 (some .int), Cond.methodLink RX9 80 yX9_figures, Cond.instanceMethod yX9_figures, Cond.selects RX9 yX9_figures yX9_figures, Cond.code yX9_figures cX9_figures 3 (some .int), Cond.methodLink RX9 76 yX9_byteAt, Cond.instanceMethod yX9_byteAt, Cond.selects RX9 yX9_byteAt yX9_byteAt, Cond.code yX9_byteAt cX9_byteAt 2 (some .int), Cond.methodLink RL 32 yX8_floor, Cond.instanceMethod yX8_floor, Cond.selects RX8 yX8_floor yX8_floor, Cond.code yX8_floor cX8_floor 3 (some .int), Cond.constant RX8 107 (-100002), Cond.methodLink RX8 104 yX8_isFloor, Cond.instanceMethod yX8_isFloor, Cond.selects RX8 yX8_isFloor yX8_isFloor, Cond.code yX8_isFloor cX8_isFloor 2 (some .boolean), Cond.methodLink RX8 111 yX7_built]
def wsL_law_r12 : List Cond := [Cond.methodLink RX8 115 yX4_master, Cond.methodLink RX8 118 yX4_habit, Cond.methodLink RL 36 yX9_floor, Cond.instanceMethod yX9_floor, Cond.selects RX9 yX9_floor yX9_floor, Cond.code yX9_floor cX9_floor 3 (some .int), Cond.constant RX9 110 (-100002), Cond.methodLink RX9 103 yX9_isFloor, Cond.instanceMethod yX9_isFloor, Cond.selects RX9 yX9_isFloor yX9_isFloor, Cond.code yX9_isFloor cX9_isFloor 2 (some .boolean), Cond.methodLink RX9 97 yX9_floorsNow, Cond.instanceMethod yX9_floorsNow, Cond.selects RX9 yX9_floorsNow yX9_floorsNow, Cond.code yX9_floorsNow cX9_floorsNow 2 (some .int), Cond.methodLink RX9 107 yX9_floorOf, Cond.instanceMethod yX9_floorOf, Cond.selects RX9 yX9_floorOf yX9_floorOf, Cond.code yX9_floorOf cX9_floorOf 3 (some .int), Cond.methodLink RX9 100 yX9_builtOf, Cond.instanceMethod yX9_builtOf, Cond.selects RX9 yX9_builtOf yX9_builtOf, Cond.code yX9_builtOf cX9_builtOf 2 (some .int), Cond.methodLink RX9 93 yX9_cutBy]
def wsL_law_r13 : List Cond := [Cond.instanceMethod yX9_cutBy, Cond.selects RX9 yX9_cutBy yX9_cutBy, Cond.code yX9_cutBy cX9_cutBy 7 (some .int), Cond.methodLink RL 37 yX8_cut, Cond.instanceMethod yX8_cut, Cond.selects RX8 yX8_cut yX8_cut, Cond.code yX8_cut cX8_cut 4 (some .int), Cond.constant RX8 127 (99999), Cond.methodLink RX8 128 yX2_toParts, Cond.methodLink RL 40 yX9_cut, Cond.instanceMethod yX9_cut, Cond.selects RX9 yX9_cut yX9_cut, Cond.code yX9_cut cX9_cut 4 (some .int), Cond.constant RX9 111 (99999), Cond.methodLink RL 41 yX8_shim, Cond.instanceMethod yX8_shim, Cond.selects RX8 yX8_shim yX8_shim, Cond.code yX8_shim cX8_shim 4 (some .int), Cond.methodLink RX8 131 yX8_isSpot, Cond.static yX8_isSpot, Cond.code yX8_isSpot cX8_isSpot 1 (some .boolean), Cond.methodLink RL 44 yX9_shim, Cond.instanceMethod yX9_shim, Cond.selects RX9 yX9_shim yX9_shim]
def wsL_law_r14 : List Cond := [Cond.code yX9_shim cX9_shim 4 (some .int), Cond.methodLink RL 45 yX8_set, Cond.instanceMethod yX8_set, Cond.selects RX8 yX8_set yX8_set, Cond.code yX8_set cX8_set 4 (some .int), Cond.fieldLink RX8 134 "ThreeMasters" "LEAST_SET" "[I", Cond.fieldLink RX8 137 "ThreeMasters" "MOST_SET" "[I", Cond.methodLink RL 48 yX9_set, Cond.instanceMethod yX9_set, Cond.selects RX9 yX9_set yX9_set, Cond.code yX9_set cX9_set 4 (some .int), Cond.methodLink RL 49 yX8_sill, Cond.instanceMethod yX8_sill, Cond.selects RX8 yX8_sill yX8_sill, Cond.code yX8_sill cX8_sill 3 (some .int), Cond.methodLink RX8 140 yX8_isSill, Cond.instanceMethod yX8_isSill, Cond.selects RX8 yX8_isSill yX8_isSill, Cond.code yX8_isSill cX8_isSill 2 (some .boolean), Cond.methodLink RX8 149 yX7_off, Cond.instanceMethod yX7_off, Cond.selects RX7 yX7_off yX7_off, Cond.code yX7_off cX7_off 2 (some .int), Cond.methodLink RL 52 yX9_sill]
def wsL_law_r15 : List Cond := [Cond.instanceMethod yX9_sill, Cond.selects RX9 yX9_sill yX9_sill, Cond.code yX9_sill cX9_sill 3 (some .int), Cond.methodLink RX9 112 yX9_sillOf, Cond.instanceMethod yX9_sillOf, Cond.selects RX9 yX9_sillOf yX9_sillOf, Cond.code yX9_sillOf cX9_sillOf 6 (some .int), Cond.methodLink RL 53 yX8_worst, Cond.instanceMethod yX8_worst, Cond.selects RX8 yX8_worst yX8_worst, Cond.code yX8_worst cX8_worst 3 (some .int), Cond.methodLink RX8 155 Lib.Math.abs.name, Cond.static Lib.Math.abs.name, Cond.initialized "java/lang/Math", Cond.code Lib.Math.abs.name Lib.Math.abs.code 1 (some .int), Cond.methodLink RL 56 yX9_worst, Cond.instanceMethod yX9_worst, Cond.selects RX9 yX9_worst yX9_worst, Cond.code yX9_worst cX9_worst 1 (some .int), Cond.methodLink RX9 118 yX9_worstNow, Cond.instanceMethod yX9_worstNow, Cond.selects RX9 yX9_worstNow yX9_worstNow, Cond.code yX9_worstNow cX9_worstNow 3 (some .int), Cond.methodLink RX9 115 yX9_amount]
def wsL_law_r16 : List Cond := [Cond.static yX9_amount, Cond.code yX9_amount cX9_amount 1 (some .int), Cond.methodLink RL 57 yX8_stairs, Cond.instanceMethod yX8_stairs, Cond.selects RX8 yX8_stairs yX8_stairs, Cond.code yX8_stairs cX8_stairs 4 (some .int), Cond.methodLink RL 60 yX9_stairs, Cond.instanceMethod yX9_stairs, Cond.selects RX9 yX9_stairs yX9_stairs, Cond.code yX9_stairs cX9_stairs 4 (some .int), Cond.methodLink RL 61 yX8_even, Cond.instanceMethod yX8_even, Cond.selects RX8 yX8_even yX8_even, Cond.code yX8_even cX8_even 8 (some .int), Cond.methodLink RX8 160 yX8_evenSteps, Cond.static yX8_evenSteps, Cond.code yX8_evenSteps cX8_evenSteps 7 (some .int), Cond.methodLink RX8 163 yX8_evenHeight, Cond.static yX8_evenHeight, Cond.code yX8_evenHeight cX8_evenHeight 6 (some .int), Cond.methodLink RX8 187 Lib.Math.min.name, Cond.static Lib.Math.min.name, Cond.code Lib.Math.min.name Lib.Math.min.code 2 (some .int), Cond.methodLink RX8 211 Lib.Math.max.name]
def wsL_law_r17 : List Cond := [Cond.static Lib.Math.max.name, Cond.code Lib.Math.max.name Lib.Math.max.code 2 (some .int), Cond.methodLink RX8 358 yJ9_floorDiv_7cf53, Cond.static yJ9_floorDiv_7cf53, Cond.initialized RJ9, Cond.code yJ9_floorDiv_7cf53 cJ9_floorDiv_7cf53 3 (some .int), Cond.methodLink RL 65 yX9_even, Cond.instanceMethod yX9_even, Cond.selects RX9 yX9_even yX9_even, Cond.code yX9_even cX9_even 5 (some .int), Cond.methodLink RX9 121 yX9_evenOf, Cond.instanceMethod yX9_evenOf, Cond.selects RX9 yX9_evenOf yX9_evenOf, Cond.code yX9_evenOf cX9_evenOf 11 (some .int), Cond.methodLink RL 66 yX8_blame, Cond.instanceMethod yX8_blame, Cond.selects RX8 yX8_blame yX8_blame, Cond.code yX8_blame cX8_blame 9 (some .long), Cond.methodLink RX8 167 yX8_refuseLong, Cond.static yX8_refuseLong, Cond.code yX8_refuseLong cX8_refuseLong 1 (some .long), Cond.constantLong RX8 356 (-9223372036854775808), Cond.methodLink RX8 171 yX7_missBy, Cond.instanceMethod yX7_missBy]
def wsL_law_r18 : List Cond := [Cond.selects RX7 yX7_missBy yX7_missBy, Cond.code yX7_missBy cX7_missBy 4 (some .int), Cond.methodLink RX7 66 Lib.Math.abs.name, Cond.methodLink RX8 174 yX8_inLowestTerms, Cond.static yX8_inLowestTerms, Cond.code yX8_inLowestTerms cX8_inLowestTerms 12 (some .long), Cond.methodLink RL 70 yX9_blame, Cond.instanceMethod yX9_blame, Cond.selects RX9 yX9_blame yX9_blame, Cond.code yX9_blame cX9_blame 4 (some .long), Cond.methodLink RX9 136 yX9_blameOf, Cond.instanceMethod yX9_blameOf, Cond.selects RX9 yX9_blameOf yX9_blameOf, Cond.code yX9_blameOf cX9_blameOf 7 (some .long), Cond.methodLink RX9 125 yX9_blameBy, Cond.instanceMethod yX9_blameBy, Cond.selects RX9 yX9_blameBy yX9_blameBy, Cond.code yX9_blameBy cX9_blameBy 4 (some .int), Cond.methodLink RX9 128 yX9_no, Cond.static yX9_no, Cond.code yX9_no cX9_no 1 (some .long), Cond.constantLong RX9 66 (-9223372036854775808), Cond.methodLink RX9 132 yX9_lowest, Cond.static yX9_lowest]
def wsL_law_r19 : List Cond := [Cond.code yX9_lowest cX9_lowest 11 (some .long), Cond.methodLink RL 71 yX8_found, Cond.instanceMethod yX8_found, Cond.selects RX8 yX8_found yX8_found, Cond.code yX8_found cX8_found 4 (some .int), Cond.methodLink RX8 178 yX8_isHeight, Cond.static yX8_isHeight, Cond.code yX8_isHeight cX8_isHeight 1 (some .boolean), Cond.methodLink RL 74 yX9_found, Cond.instanceMethod yX9_found, Cond.selects RX9 yX9_found yX9_found, Cond.code yX9_found cX9_found 4 (some .int), Cond.methodLink RX9 140 yX9_isFound, Cond.static yX9_isFound, Cond.code yX9_isFound cX9_isFound 1 (some .boolean), Cond.methodLink RL 75 yX8_read, Cond.instanceMethod yX8_read, Cond.selects RX8 yX8_read yX8_read, Cond.code yX8_read cX8_read 6 (some .int), Cond.methodLink RX8 181 yX8_refuseSheet, Cond.instanceMethod yX8_refuseSheet, Cond.selects RX8 yX8_refuseSheet yX8_refuseSheet, Cond.code yX8_refuseSheet cX8_refuseSheet 2 (some .int), Cond.methodLink RX8 244 yX8_isSheet]
def wsL_law_r20 : List Cond := [Cond.static yX8_isSheet, Cond.code yX8_isSheet cX8_isSheet 1 (some .boolean), Cond.methodLink RX8 266 yX6_isLost, Cond.instanceMethod yX6_isLost, Cond.selects RX6 yX6_isLost yX6_isLost, Cond.code yX6_isLost cX6_isLost 1 (some .boolean), Cond.methodLink RX8 250 yX8_finding, Cond.instanceMethod yX8_finding, Cond.selects RX8 yX8_finding yX8_finding, Cond.code yX8_finding cX8_finding 2 (some .int), Cond.fieldLink RX8 286 "ThreeMasters" "latestFinding" "I", Cond.methodLink RL 78 yX9_read, Cond.instanceMethod yX9_read, Cond.selects RX9 yX9_read yX9_read, Cond.code yX9_read cX9_read 3 (some .int), Cond.methodLink RX9 143 yX9_isSheet, Cond.static yX9_isSheet, Cond.code yX9_isSheet cX9_isSheet 1 (some .boolean), Cond.methodLink RX9 146 yX9_meets, Cond.instanceMethod yX9_meets, Cond.selects RX9 yX9_meets yX9_meets, Cond.code yX9_meets cX9_meets 2 (some .int), Cond.fieldLink RX9 194 "ThreeMastersModel" "finding" "I", Cond.methodLink RL 79 yX8_fits]
def wsL_law_r21 : List Cond := [Cond.instanceMethod yX8_fits, Cond.selects RX8 yX8_fits yX8_fits, Cond.code yX8_fits cX8_fits 2 (some .int), Cond.methodLink RX8 194 yX0_fitBits, Cond.instanceMethod yX0_fitBits, Cond.selects RX0 yX0_fitBits yX0_fitBits, Cond.code yX0_fitBits cX0_fitBits 6 (some .int), Cond.methodLink RX0 44 Lib.Math.abs.name, Cond.methodLink RX0 38 yX2_toParts, Cond.methodLink RL 82 yX9_fits, Cond.instanceMethod yX9_fits, Cond.selects RX9 yX9_fits yX9_fits, Cond.code yX9_fits cX9_fits 2 (some .int), Cond.methodLink RX9 153 yX9_fitsOf, Cond.instanceMethod yX9_fitsOf, Cond.selects RX9 yX9_fitsOf yX9_fitsOf, Cond.code yX9_fitsOf cX9_fitsOf 4 (some .int), Cond.methodLink RX9 149 yX9_isFit, Cond.instanceMethod yX9_isFit, Cond.selects RX9 yX9_isFit yX9_isFit, Cond.code yX9_isFit cX9_isFit 3 (some .boolean), Cond.methodLink RL 83 yX8_worlds, Cond.instanceMethod yX8_worlds, Cond.selects RX8 yX8_worlds yX8_worlds]
def wsL_law_r22 : List Cond := [Cond.code yX8_worlds cX8_worlds 1 (some .long), Cond.methodLink RX8 197 yX0_countWorlds, Cond.instanceMethod yX0_countWorlds, Cond.selects RX0 yX0_countWorlds yX0_countWorlds, Cond.code yX0_countWorlds cX0_countWorlds 8 (some .long), Cond.methodLink RX0 50 yJ7_fill_d0a16, Cond.static yJ7_fill_d0a16, Cond.code yJ7_fill_d0a16 cJ7_fill_d0a16 5 none, Cond.methodLink RX0 53 yX7_floors, Cond.instanceMethod yX7_floors, Cond.selects RX7 yX7_floors yX7_floors, Cond.code yX7_floors cX7_floors 1 (some .int), Cond.methodLink RX0 57 yX0_fitBits, Cond.methodLink RX0 61 yX0_addFloor, Cond.instanceMethod yX0_addFloor, Cond.selects RX0 yX0_addFloor yX0_addFloor, Cond.code yX0_addFloor cX0_addFloor 10 (some .long), Cond.methodLink RL 87 yX9_worlds, Cond.instanceMethod yX9_worlds, Cond.selects RX9 yX9_worlds yX9_worlds, Cond.code yX9_worlds cX9_worlds 1 (some .long), Cond.methodLink RX9 156 yX9_worldsBy, Cond.instanceMethod yX9_worldsBy, Cond.selects RX9 yX9_worldsBy yX9_worldsBy]
def wsL_law_r23 : List Cond := [Cond.code yX9_worldsBy cX9_worldsBy 10 (some .long), Cond.methodLink RL 88 yX8_odds, Cond.instanceMethod yX8_odds, Cond.selects RX8 yX8_odds yX8_odds, Cond.code yX8_odds cX8_odds 6 (some .long), Cond.methodLink RX8 201 yX8_worlds, Cond.methodLink RL 91 yX9_odds, Cond.instanceMethod yX9_odds, Cond.selects RX9 yX9_odds yX9_odds, Cond.code yX9_odds cX9_odds 4 (some .long), Cond.methodLink RX9 160 yX9_oddsOf, Cond.instanceMethod yX9_oddsOf, Cond.selects RX9 yX9_oddsOf yX9_oddsOf, Cond.code yX9_oddsOf cX9_oddsOf 6 (some .long), Cond.methodLink RL 92 yX8_lean, Cond.instanceMethod yX8_lean, Cond.selects RX8 yX8_lean yX8_lean, Cond.code yX8_lean cX8_lean 4 (some .int), Cond.methodLink RL 95 yX9_lean, Cond.instanceMethod yX9_lean, Cond.selects RX9 yX9_lean yX9_lean, Cond.code yX9_lean cX9_lean 4 (some .int), Cond.methodLink RL 96 yX8_runs, Cond.instanceMethod yX8_runs]
def wsL_law_r24 : List Cond := [Cond.selects RX8 yX8_runs yX8_runs, Cond.code yX8_runs cX8_runs 4 (some .int), Cond.methodLink RX8 208 yX5_spread, Cond.instanceMethod yX5_spread, Cond.selects RX5 yX5_spread yX5_spread, Cond.code yX5_spread cX5_spread 6 (some .int), Cond.methodLink RX5 15 Lib.Math.min.name, Cond.methodLink RX5 21 Lib.Math.max.name, Cond.methodLink RL 99 yX9_runs, Cond.instanceMethod yX9_runs, Cond.selects RX9 yX9_runs yX9_runs, Cond.code yX9_runs cX9_runs 4 (some .int), Cond.methodLink RX9 163 yX9_spread, Cond.instanceMethod yX9_spread, Cond.selects RX9 yX9_spread yX9_spread, Cond.code yX9_spread cX9_spread 6 (some .int), Cond.methodLink RL 100 yX8_lifts, Cond.instanceMethod yX8_lifts, Cond.selects RX8 yX8_lifts yX8_lifts, Cond.code yX8_lifts cX8_lifts 1 (some .int), Cond.methodLink RL 103 yX9_lifts, Cond.instanceMethod yX9_lifts, Cond.selects RX9 yX9_lifts yX9_lifts, Cond.code yX9_lifts cX9_lifts 1 (some .int)]
def wsL_law_r25 : List Cond := [Cond.methodLink RX9 166 yX9_liftsNow, Cond.instanceMethod yX9_liftsNow, Cond.selects RX9 yX9_liftsNow yX9_liftsNow, Cond.code yX9_liftsNow cX9_liftsNow 2 (some .int), Cond.methodLink RL 104 yX8_longest, Cond.instanceMethod yX8_longest, Cond.selects RX8 yX8_longest yX8_longest, Cond.code yX8_longest cX8_longest 7 (some .int), Cond.methodLink RX8 214 yX5_lengthFrom, Cond.instanceMethod yX5_lengthFrom, Cond.selects RX5 yX5_lengthFrom yX5_lengthFrom, Cond.code yX5_lengthFrom cX5_lengthFrom 5 (some .int), Cond.methodLink RX5 24 yX5_spread, Cond.methodLink RL 107 yX9_longest, Cond.instanceMethod yX9_longest, Cond.selects RX9 yX9_longest yX9_longest, Cond.code yX9_longest cX9_longest 3 (some .int), Cond.methodLink RX9 169 yX9_longestOf, Cond.instanceMethod yX9_longestOf, Cond.selects RX9 yX9_longestOf yX9_longestOf, Cond.code yX9_longestOf cX9_longestOf 9 (some .int), Cond.methodLink RL 108 yX8_mended, Cond.instanceMethod yX8_mended, Cond.selects RX8 yX8_mended yX8_mended]
def wsL_law_r26 : List Cond := [Cond.code yX8_mended cX8_mended 4 (some .int), Cond.constant RX8 221 (-100003), Cond.methodLink RX8 217 yX3_work, Cond.instanceMethod yX3_work, Cond.selects RX3 yX3_work yX3_work, Cond.code yX3_work cX3_work 10 (some .int), Cond.methodLink RX3 31 Lib.Math.abs.name, Cond.methodLink RX3 15 yJ7_fill_53178, Cond.methodLink RX3 21 yX7_floors, Cond.methodLink RX3 27 yX7_off, Cond.methodLink RX3 36 yX3_share, Cond.instanceMethod yX3_share, Cond.selects RX3 yX3_share yX3_share, Cond.code yX3_share cX3_share 9 none, Cond.methodLink RX3 40 Lib.Math.max.name, Cond.methodLink RL 111 yX9_mended, Cond.instanceMethod yX9_mended, Cond.selects RX9 yX9_mended yX9_mended, Cond.code yX9_mended cX9_mended 4 (some .int), Cond.constant RX9 175 (-100003), Cond.methodLink RX9 172 yX9_mends, Cond.instanceMethod yX9_mends, Cond.selects RX9 yX9_mends yX9_mends, Cond.code yX9_mends cX9_mends 14 (some .int)]
def wsL_law_r27 : List Cond := [Cond.methodLink RL 112 yX8_next, Cond.instanceMethod yX8_next, Cond.selects RX8 yX8_next yX8_next, Cond.code yX8_next cX8_next 5 (some .int), Cond.methodLink RX8 225 yX8_offAfter, Cond.instanceMethod yX8_offAfter, Cond.selects RX8 yX8_offAfter yX8_offAfter, Cond.code yX8_offAfter cX8_offAfter 3 (some .int), Cond.methodLink RL 115 yX9_next, Cond.instanceMethod yX9_next, Cond.selects RX9 yX9_next yX9_next, Cond.code yX9_next cX9_next 3 (some .int), Cond.methodLink RX9 176 yX9_nextOf, Cond.instanceMethod yX9_nextOf, Cond.selects RX9 yX9_nextOf yX9_nextOf, Cond.code yX9_nextOf cX9_nextOf 8 (some .int), Cond.methodLink RL 116 yX8_weigh, Cond.instanceMethod yX8_weigh, Cond.selects RX8 yX8_weigh yX8_weigh, Cond.code yX8_weigh cX8_weigh 4 (some .int), Cond.methodLink RL 119 yX9_weigh, Cond.instanceMethod yX9_weigh, Cond.selects RX9 yX9_weigh yX9_weigh, Cond.code yX9_weigh cX9_weigh 4 (some .int)]
def wsL_law_r28 : List Cond := [Cond.methodLink RL 120 yX8_bears, Cond.instanceMethod yX8_bears, Cond.selects RX8 yX8_bears yX8_bears, Cond.code yX8_bears cX8_bears 3 (some .int), Cond.methodLink RX8 231 yX1_strength, Cond.instanceMethod yX1_strength, Cond.selects RX1 yX1_strength yX1_strength, Cond.code yX1_strength cX1_strength 3 (some .int), Cond.methodLink RX1 19 yX7_built, Cond.methodLink RL 123 yX9_bears, Cond.instanceMethod yX9_bears, Cond.selects RX9 yX9_bears yX9_bears, Cond.code yX9_bears cX9_bears 3 (some .int), Cond.methodLink RX9 179 yX9_bearsOf, Cond.instanceMethod yX9_bearsOf, Cond.selects RX9 yX9_bearsOf yX9_bearsOf, Cond.code yX9_bearsOf cX9_bearsOf 3 (some .int), Cond.methodLink RL 124 yX8_safe, Cond.instanceMethod yX8_safe, Cond.selects RX8 yX8_safe yX8_safe, Cond.code yX8_safe cX8_safe 2 (some .int), Cond.methodLink RX8 234 yX1_firstOverborne, Cond.instanceMethod yX1_firstOverborne, Cond.selects RX1 yX1_firstOverborne yX1_firstOverborne]
def wsL_law_r29 : List Cond := [Cond.code yX1_firstOverborne cX1_firstOverborne 3 (some .int), Cond.methodLink RX1 25 yX7_floors, Cond.methodLink RX1 29 yX1_reserve, Cond.instanceMethod yX1_reserve, Cond.selects RX1 yX1_reserve yX1_reserve, Cond.code yX1_reserve cX1_reserve 5 (some .int), Cond.methodLink RX1 41 yX1_strength, Cond.methodLink RL 127 yX9_safe, Cond.instanceMethod yX9_safe, Cond.selects RX9 yX9_safe yX9_safe, Cond.code yX9_safe cX9_safe 2 (some .int), Cond.methodLink RX9 182 yX9_safeBy, Cond.instanceMethod yX9_safeBy, Cond.selects RX9 yX9_safeBy yX9_safeBy, Cond.code yX9_safeBy cX9_safeBy 7 (some .int), Cond.methodLink RL 128 yX8_more, Cond.instanceMethod yX8_more, Cond.selects RX8 yX8_more yX8_more, Cond.code yX8_more cX8_more 1 (some .int), Cond.methodLink RX8 237 yX1_spareOnTop, Cond.instanceMethod yX1_spareOnTop, Cond.selects RX1 yX1_spareOnTop yX1_spareOnTop, Cond.code yX1_spareOnTop cX1_spareOnTop 5 (some .int), Cond.methodLink RX1 36 Lib.Math.min.name]
def wsL_law_r30 : List Cond := [Cond.methodLink RX1 33 yX1_firstOverborne, Cond.methodLink RL 131 yX9_more, Cond.instanceMethod yX9_more, Cond.selects RX9 yX9_more yX9_more, Cond.code yX9_more cX9_more 1 (some .int), Cond.methodLink RX9 185 yX9_moreNow, Cond.instanceMethod yX9_moreNow, Cond.selects RX9 yX9_moreNow yX9_moreNow, Cond.code yX9_moreNow cX9_moreNow 4 (some .int), Cond.methodLink RL 132 yX8_stones, Cond.instanceMethod yX8_stones, Cond.selects RX8 yX8_stones yX8_stones, Cond.code yX8_stones cX8_stones 5 (some .int), Cond.methodLink RX8 241 yX8_stonesFor, Cond.static yX8_stonesFor, Cond.code yX8_stonesFor cX8_stonesFor 1 (some .int), Cond.methodLink RL 135 yX9_stones, Cond.instanceMethod yX9_stones, Cond.selects RX9 yX9_stones yX9_stones, Cond.code yX9_stones cX9_stones 2 (some .int), Cond.methodLink RX9 191 yX9_stonesOf, Cond.instanceMethod yX9_stonesOf, Cond.selects RX9 yX9_stonesOf yX9_stonesOf, Cond.code yX9_stonesOf cX9_stonesOf 6 (some .int)]
def wsL_law_r31 : List Cond := [Cond.methodLink RX9 188 yX9_up, Cond.static yX9_up, Cond.code yX9_up cX9_up 1 (some .int), Cond.methodLink RL 136 yX8_sheet, Cond.instanceMethod yX8_sheet, Cond.selects RX8 yX8_sheet yX8_sheet, Cond.code yX8_sheet cX8_sheet 4 (some .int), Cond.methodLink RX8 247 yX8_isForm, Cond.static yX8_isForm, Cond.code yX8_isForm cX8_isForm 1 (some .boolean), Cond.methodLink RX8 253 yX6_renew, Cond.instanceMethod yX6_renew, Cond.selects RX6 yX6_renew yX6_renew, Cond.code yX6_renew cX6_renew 3 none, Cond.fieldLink RX6 19 "ThreeMasters$Sheet" "size" "I", Cond.methodLink RX6 22 yJ7_fill_53178, Cond.methodLink RL 139 yX9_sheet, Cond.instanceMethod yX9_sheet, Cond.selects RX9 yX9_sheet yX9_sheet, Cond.code yX9_sheet cX9_sheet 5 (some .int), Cond.methodLink RL 140 yX8_lose, Cond.instanceMethod yX8_lose, Cond.selects RX8 yX8_lose yX8_lose, Cond.code yX8_lose cX8_lose 4 (some .int)]
def wsL_law_r32 : List Cond := [Cond.methodLink RL 143 yX9_lose, Cond.instanceMethod yX9_lose, Cond.selects RX9 yX9_lose yX9_lose, Cond.code yX9_lose cX9_lose 2 (some .int), Cond.methodLink RL 144 yX8_put, Cond.instanceMethod yX8_put, Cond.selects RX8 yX8_put yX8_put, Cond.code yX8_put cX8_put 6 (some .int), Cond.methodLink RX8 257 yX8_refuseItem, Cond.instanceMethod yX8_refuseItem, Cond.selects RX8 yX8_refuseItem yX8_refuseItem, Cond.code yX8_refuseItem cX8_refuseItem 5 (some .int), Cond.methodLink RX8 260 yX6_store, Cond.instanceMethod yX6_store, Cond.selects RX6 yX6_store yX6_store, Cond.code yX6_store cX6_store 3 none, Cond.methodLink RL 147 yX9_put, Cond.instanceMethod yX9_put, Cond.selects RX9 yX9_put yX9_put, Cond.code yX9_put cX9_put 6 (some .int), Cond.methodLink RX9 197 yX9_lacks, Cond.instanceMethod yX9_lacks, Cond.selects RX9 yX9_lacks yX9_lacks, Cond.code yX9_lacks cX9_lacks 4 (some .int)]
def wsL_law_r33 : List Cond := [Cond.methodLink RX9 201 yX9_keep, Cond.instanceMethod yX9_keep, Cond.selects RX9 yX9_keep yX9_keep, Cond.code yX9_keep cX9_keep 4 none, Cond.methodLink RL 148 yX8_get, Cond.instanceMethod yX8_get, Cond.selects RX8 yX8_get yX8_get, Cond.code yX8_get cX8_get 4 (some .int), Cond.constant RX8 265 (-2147483648), Cond.methodLink RL 151 yX9_get, Cond.instanceMethod yX9_get, Cond.selects RX9 yX9_get yX9_get, Cond.code yX9_get cX9_get 5 (some .int), Cond.constant RX9 205 (-2147483648), Cond.methodLink RL 152 yX8_copy, Cond.instanceMethod yX8_copy, Cond.selects RX8 yX8_copy yX8_copy, Cond.code yX8_copy cX8_copy 8 (some .int), Cond.methodLink RX8 277 arraycopyName, Cond.native arraycopyName, Cond.static arraycopyName, Cond.initialized "java/lang/System", Cond.methodLink RX8 273 yX6_hasRun, Cond.instanceMethod yX6_hasRun]
def wsL_law_r34 : List Cond := [Cond.selects RX6 yX6_hasRun yX6_hasRun, Cond.code yX6_hasRun cX6_hasRun 3 (some .boolean), Cond.methodLink RL 156 yX9_copy, Cond.instanceMethod yX9_copy, Cond.selects RX9 yX9_copy yX9_copy, Cond.code yX9_copy cX9_copy 7 (some .int), Cond.methodLink RL 157 yX8_write, Cond.instanceMethod yX8_write, Cond.selects RX8 yX8_write yX8_write, Cond.code yX8_write cX8_write 5 (some .int), Cond.methodLink RL 160 yX9_write, Cond.instanceMethod yX9_write, Cond.selects RX9 yX9_write yX9_write, Cond.code yX9_write cX9_write 3 (some .int), Cond.methodLink RL 161 yX8_count, Cond.instanceMethod yX8_count, Cond.selects RX8 yX8_count yX8_count, Cond.code yX8_count cX8_count 2 (some .int), Cond.methodLink RX8 283 yX0_howMany, Cond.instanceMethod yX0_howMany, Cond.selects RX0 yX0_howMany yX0_howMany, Cond.code yX0_howMany cX0_howMany 3 (some .int), Cond.methodLink RL 164 yX9_count, Cond.instanceMethod yX9_count]
def wsL_law_r35 : List Cond := [Cond.selects RX9 yX9_count yX9_count, Cond.code yX9_count cX9_count 2 (some .int), Cond.methodLink RX9 206 yX9_sumOf, Cond.instanceMethod yX9_sumOf, Cond.selects RX9 yX9_sumOf yX9_sumOf, Cond.code yX9_sumOf cX9_sumOf 4 (some .int), Cond.methodLink RL 165 yX8_digest, Cond.instanceMethod yX8_digest, Cond.selects RX8 yX8_digest yX8_digest, Cond.code yX8_digest cX8_digest 4 (some .long), Cond.constantLong RX8 289 (17), Cond.methodLink RX8 291 yX8_count, Cond.methodLink RX8 294 yX8_mix, Cond.static yX8_mix, Cond.code yX8_mix cX8_mix 4 (some .long), Cond.constantLong RX8 352 (31), Cond.methodLink RX8 298 yX8_fault, Cond.methodLink RX8 300 yX8_mixFloor, Cond.instanceMethod yX8_mixFloor, Cond.selects RX8 yX8_mixFloor yX8_mixFloor, Cond.code yX8_mixFloor cX8_mixFloor 7 (some .long), Cond.methodLink RX8 331 yX8_floor, Cond.methodLink RX8 304 yX8_sill, Cond.methodLink RX8 334 yX8_fits]
def wsL_law_r36 : List Cond := [Cond.methodLink RX8 337 yX8_even, Cond.methodLink RX8 340 yX8_odds, Cond.methodLink RX8 343 yX8_bears, Cond.methodLink RX8 307 yX8_worst, Cond.methodLink RX8 310 yX8_mixMaster, Cond.instanceMethod yX8_mixMaster, Cond.selects RX8 yX8_mixMaster yX8_mixMaster, Cond.code yX8_mixMaster cX8_mixMaster 6 (some .long), Cond.methodLink RX8 346 yX8_blame, Cond.methodLink RX8 349 yX8_safe, Cond.methodLink RX8 313 yX8_lifts, Cond.methodLink RX8 316 yX8_longest, Cond.methodLink RX8 319 yX8_mended, Cond.methodLink RX8 322 yX8_next, Cond.methodLink RX8 325 yX8_more, Cond.methodLink RX8 328 yX8_stones, Cond.methodLink RL 168 yX9_digest, Cond.instanceMethod yX9_digest, Cond.selects RX9 yX9_digest yX9_digest, Cond.code yX9_digest cX9_digest 5 (some .long), Cond.constantLong RX9 209 (17), Cond.constantLong RX9 211 (31), Cond.methodLink RX9 213 yX9_count]
def wsL_law : List Cond := (wsL_law_r1 ++ (wsL_law_r2 ++ (wsL_law_r3 ++ (wsL_law_r4 ++ (wsL_law_r5 ++ (wsL_law_r6 ++ (wsL_law_r7 ++ (wsL_law_r8 ++ (wsL_law_r9 ++ (wsL_law_r10 ++ (wsL_law_r11 ++ (wsL_law_r12 ++ (wsL_law_r13 ++ (wsL_law_r14 ++ (wsL_law_r15 ++ (wsL_law_r16 ++ (wsL_law_r17 ++ (wsL_law_r18 ++ (wsL_law_r19 ++ (wsL_law_r20 ++ (wsL_law_r21 ++ (wsL_law_r22 ++ (wsL_law_r23 ++ (wsL_law_r24 ++ (wsL_law_r25 ++ (wsL_law_r26 ++ (wsL_law_r27 ++ (wsL_law_r28 ++ (wsL_law_r29 ++ (wsL_law_r30 ++ (wsL_law_r31 ++ (wsL_law_r32 ++ (wsL_law_r33 ++ (wsL_law_r34 ++ (wsL_law_r35 ++ wsL_law_r36))))))))))))))))))))))))))))))))))) ++ wsX80 ++ wsX90 ++ wsX20 ++ wsX40 ++ wsX70 ++ wsX00 ++ wsX50 ++ wsX30 ++ wsX10 ++ wsX60 ++ ([] : List Cond)
set_option maxRecDepth 20000 in
theorem wsL_law_in : ∀ w ∈ wsL_law, w ∈ lw_tbl := fun w h => (goodIn_p wsL_law [68, 71, 76, 91, 128, 161, 165, 185, 196, 207, 222, 702, 271, 274, 277, 281, 285, 289, 293, 297, 301, 772, 775, 305, 309, 313, 317, 321, 325, 328, 333, 337, 341, 345, 779, 349, 353, 783, 357, 787, 791, 795, 799, 803, 361, 365, 807, 811, 815, 819, 823, 827, 373, 832, 379, 382, 837, 386, 841, 394, 398, 402, 845, 849, 406, 409, 853, 857, 860, 413, 864, 417, 420, 423, 429, 432, 426, 868, 872, 436, 439, 444, 448, 876, 880, 884, 887, 891, 452, 455, 895, 898, 459, 463, 466, 470, 474, 902, 905, 909, 478, 482, 913, 917, 921, 488, 492, 495, 499, 504, 925, 929, 508, 933, 937, 513, 941, 517, 521, 945, 949, 527, 953, 957, 531, 535, 961, 965, 540, 544, 552, 969, 973, 558, 562, 978, 982, 566, 986, 570, 574, 990, 994, 579, 583, 588, 998, 1002, 593, 597, 1006, 1010, 603, 606, 1014, 1018, 1021, 610, 613, 617, 1025, 622, 1029, 626, 630, 634, 1033, 1037, 1041, 639, 1045, 644, 648, 1050, 655, 1054, 659, 663, 1058, 1062, 667, 672, 678, 689, 1066] (by decide +kernel) (by decide +kernel) w h).1
theorem inlX0 : ∀ w ∈ wsX00, w ∈ wsL_law := fun _ h => List.mem_append_left _ (List.mem_append_left _ (List.mem_append_left _ (List.mem_append_left _ (List.mem_append_left _ (List.mem_append_right _ h)))))
theorem inX0 : ∀ w ∈ wsX00, w ∈ lw_tbl := fun w h => wsL_law_in w (inlX0 w h)
theorem inlX1 : ∀ w ∈ wsX10, w ∈ wsL_law := fun _ h => List.mem_append_left _ (List.mem_append_left _ (List.mem_append_right _ h))
theorem inX1 : ∀ w ∈ wsX10, w ∈ lw_tbl := fun w h => wsL_law_in w (inlX1 w h)
theorem inlX2 : ∀ w ∈ wsX20, w ∈ wsL_law := fun _ h => List.mem_append_left _ (List.mem_append_left _ (List.mem_append_left _ (List.mem_append_left _ (List.mem_append_left _ (List.mem_append_left _ (List.mem_append_left _ (List.mem_append_left _ (List.mem_append_right _ h))))))))
theorem inX2 : ∀ w ∈ wsX20, w ∈ lw_tbl := fun w h => wsL_law_in w (inlX2 w h)
theorem inlX3 : ∀ w ∈ wsX30, w ∈ wsL_law := fun _ h => List.mem_append_left _ (List.mem_append_left _ (List.mem_append_left _ (List.mem_append_right _ h)))
theorem inX3 : ∀ w ∈ wsX30, w ∈ lw_tbl := fun w h => wsL_law_in w (inlX3 w h)
theorem inlX4 : ∀ w ∈ wsX40, w ∈ wsL_law := fun _ h => List.mem_append_left _ (List.mem_append_left _ (List.mem_append_left _ (List.mem_append_left _ (List.mem_append_left _ (List.mem_append_left _ (List.mem_append_left _ (List.mem_append_right _ h)))))))
theorem inX4 : ∀ w ∈ wsX40, w ∈ lw_tbl := fun w h => wsL_law_in w (inlX4 w h)
theorem inlX5 : ∀ w ∈ wsX50, w ∈ wsL_law := fun _ h => List.mem_append_left _ (List.mem_append_left _ (List.mem_append_left _ (List.mem_append_left _ (List.mem_append_right _ h))))
theorem inX5 : ∀ w ∈ wsX50, w ∈ lw_tbl := fun w h => wsL_law_in w (inlX5 w h)
theorem inlX6 : ∀ w ∈ wsX60, w ∈ wsL_law := fun _ h => List.mem_append_left _ (List.mem_append_right _ h)
theorem inX6 : ∀ w ∈ wsX60, w ∈ lw_tbl := fun w h => wsL_law_in w (inlX6 w h)
theorem inlX7 : ∀ w ∈ wsX70, w ∈ wsL_law := fun _ h => List.mem_append_left _ (List.mem_append_left _ (List.mem_append_left _ (List.mem_append_left _ (List.mem_append_left _ (List.mem_append_left _ (List.mem_append_right _ h))))))
theorem inX7 : ∀ w ∈ wsX70, w ∈ lw_tbl := fun w h => wsL_law_in w (inlX7 w h)
theorem inlX8 : ∀ w ∈ wsX80, w ∈ wsL_law := fun _ h => List.mem_append_left _ (List.mem_append_left _ (List.mem_append_left _ (List.mem_append_left _ (List.mem_append_left _ (List.mem_append_left _ (List.mem_append_left _ (List.mem_append_left _ (List.mem_append_left _ (List.mem_append_left _ (List.mem_append_right _ h))))))))))
theorem inX8 : ∀ w ∈ wsX80, w ∈ lw_tbl := fun w h => wsL_law_in w (inlX8 w h)
theorem inlX9 : ∀ w ∈ wsX90, w ∈ wsL_law := fun _ h => List.mem_append_left _ (List.mem_append_left _ (List.mem_append_left _ (List.mem_append_left _ (List.mem_append_left _ (List.mem_append_left _ (List.mem_append_left _ (List.mem_append_left _ (List.mem_append_left _ (List.mem_append_right _ h)))))))))
theorem inX9 : ∀ w ∈ wsX90, w ∈ lw_tbl := fun w h => wsL_law_in w (inlX9 w h)
abbrev vwCl : List vw_C := [(RX0, TX0, 4), (RX1, TX1, 2), (RX2, TX2, 2), (RX3, TX3, 1), (RX4, TX4, 8), (RX5, TX5, 1), (RX6, TX6, 3), (RX7, TX7, 7), (RX8, TX8, 10), (RX9, TX9, 21)]
theorem kw_good : GoodIn wsL_law wsL_law := goodIn_sub (fun _ h => h) (by decide +kernel)
