/-! ===== BEGIN words of one list among another's, by their places ===== -/
theorem goodIn_r {big : List Cond} (ws : List Cond) (ps : List Nat) (hp : ws = ps.filterMap (fun i => big[i]?)) (h : ws.all goodWord = true) : GoodIn big ws := by
  intro w hw
  have h1 := List.all_eq_true.mp h w hw
  rw [hp] at hw
  obtain ⟨i, -, hi⟩ := List.mem_filterMap.mp hw
  have hm : w ∈ big := by first | exact List.mem_of_getElem? hi | exact List.getElem?_mem hi
  exact ⟨hm, good_of_word h1⟩
theorem goodIn_app {big a b : List Cond} (ha : GoodIn big a) (hb : GoodIn big b) : GoodIn big (a ++ b) := fun w h => (List.mem_append.mp h).elim (ha w) (hb w)
theorem goodIn_ca {big a b : List Cond} {c : Cond} (ha : GoodIn big (c :: a)) (hb : GoodIn big b) : GoodIn big (c :: (a ++ b)) := fun w h => (List.mem_cons.mp h).elim (fun e => ha w (List.mem_cons.mpr (Or.inl e))) (fun h => (List.mem_append.mp h).elim (fun h => ha w (List.mem_cons.mpr (Or.inr h))) (hb w))
theorem goodIn_sub {big ws : List Cond} (hm : ∀ w ∈ ws, w ∈ big) (h : ws.all goodWord = true) : GoodIn big ws := fun w hw => ⟨hm w hw, good_of_word (List.all_eq_true.mp h w hw)⟩
/-! ===== END ===== -/

def RX0 : String := "EntailedLand$Acts"
def TX0 : u_T := fun k => match k with
  | 0 => ("EntailedLand$Acts", "before", "[LEntailedLand$Land;", true)
  | 1 => ("EntailedLand$Acts", "first", "I", false)
  | _ => ("EntailedLand$Acts", "size", "I", false)
def tyX0 : Nat → FieldType := fun k => match k with
  | 0 => .array (.object "EntailedLand$Land")
  | 1 => .int
  | _ => .int
abbrev wsX00 : List Cond := u_ws RX0 TX0 3
theorem nmX0 : ∀ a, a < 3 → ∀ b, b < 3 → a ≠ b → (TX0 a).2.1 ≠ (TX0 b).2.1 := by decide +kernel
theorem tyX0_ok : ∀ k, k < 3 → parseFieldDescriptor (TX0 k).2.2.1 = some (tyX0 k) := by decide +kernel
abbrev cX0_init : ByteArray := prog_2_method_1_code
def yX0_init : MethodName := ⟨RX0, "<init>", "()V"⟩
abbrev cX0_remember : ByteArray := prog_2_method_2_code
def yX0_remember : MethodName := ⟨RX0, "remember", "(LEntailedLand$Land;)V"⟩
abbrev cX0_takeBack : ByteArray := prog_2_method_3_code
def yX0_takeBack : MethodName := ⟨RX0, "takeBack", "(LEntailedLand$Land;)Z"⟩
abbrev cX0_forgetAll : ByteArray := prog_2_method_4_code
def yX0_forgetAll : MethodName := ⟨RX0, "forgetAll", "()V"⟩
def RX1 : String := "EntailedLand$Bargain"
def TX1 : u_T := fun k => match k with
  | _ => ("", "", "", false)
def tyX1 : Nat → FieldType := fun k => match k with
  | _ => .int
abbrev wsX10 : List Cond := u_ws RX1 TX1 0
theorem nmX1 : ∀ a, a < 0 → ∀ b, b < 0 → a ≠ b → (TX1 a).2.1 ≠ (TX1 b).2.1 := by decide +kernel
theorem tyX1_ok : ∀ k, k < 0 → parseFieldDescriptor (TX1 k).2.2.1 = some (tyX1 k) := by decide +kernel
abbrev cX1_countRests : ByteArray := prog_3_method_2_code
def yX1_countRests : MethodName := ⟨RX1, "countRests", "(I)I"⟩
abbrev cX1_firstRest : ByteArray := prog_3_method_3_code
def yX1_firstRest : MethodName := ⟨RX1, "firstRest", "(I)I"⟩
abbrev cX1_isAtRest : ByteArray := prog_3_method_4_code
def yX1_isAtRest : MethodName := ⟨RX1, "isAtRest", "(III)Z"⟩
abbrev cX1_holderHas : ByteArray := prog_3_method_5_code
def yX1_holderHas : MethodName := ⟨RX1, "holderHas", "(II)I"⟩
abbrev cX1_heirHas : ByteArray := prog_3_method_6_code
def yX1_heirHas : MethodName := ⟨RX1, "heirHas", "(III)I"⟩
def RX2 : String := "EntailedLand$Deaths"
def TX2 : u_T := fun k => match k with
  | 0 => ("EntailedLand$Deaths", "people", "[I", true)
  | _ => ("EntailedLand$Deaths", "size", "I", false)
def tyX2 : Nat → FieldType := fun k => match k with
  | 0 => .array .int
  | _ => .int
abbrev wsX20 : List Cond := u_ws RX2 TX2 2
theorem nmX2 : ∀ a, a < 2 → ∀ b, b < 2 → a ≠ b → (TX2 a).2.1 ≠ (TX2 b).2.1 := by decide +kernel
theorem tyX2_ok : ∀ k, k < 2 → parseFieldDescriptor (TX2 k).2.2.1 = some (tyX2 k) := by decide +kernel
abbrev cX2_init : ByteArray := prog_4_method_1_code
def yX2_init : MethodName := ⟨RX2, "<init>", "()V"⟩
abbrev cX2_read : ByteArray := prog_4_method_2_code
def yX2_read : MethodName := ⟨RX2, "read", "(IILEntailedLand$Land;)Z"⟩
abbrev cX2_befall : ByteArray := prog_4_method_3_code
def yX2_befall : MethodName := ⟨RX2, "befall", "(LEntailedLand$Land;LEntailedLand$Kin;)V"⟩
def RX3 : String := "EntailedLand$Felling"
def TX3 : u_T := fun k => match k with
  | _ => ("EntailedLand$Felling", "most", "[[I", true)
def tyX3 : Nat → FieldType := fun k => match k with
  | _ => .array (.array .int)
abbrev wsX30 : List Cond := u_ws RX3 TX3 1
theorem nmX3 : ∀ a, a < 1 → ∀ b, b < 1 → a ≠ b → (TX3 a).2.1 ≠ (TX3 b).2.1 := by decide +kernel
theorem tyX3_ok : ∀ k, k < 1 → parseFieldDescriptor (TX3 k).2.2.1 = some (tyX3 k) := by decide +kernel
abbrev cX3_init : ByteArray := prog_5_method_1_code
def yX3_init : MethodName := ⟨RX3, "<init>", "()V"⟩
abbrev cX3_reckon : ByteArray := prog_5_method_2_code
def yX3_reckon : MethodName := ⟨RX3, "reckon", "(IZ)V"⟩
abbrev cX3_mostFor : ByteArray := prog_5_method_3_code
def yX3_mostFor : MethodName := ⟨RX3, "mostFor", "(II)I"⟩
abbrev cX3_firstRow : ByteArray := prog_5_method_4_code
def yX3_firstRow : MethodName := ⟨RX3, "firstRow", "(II)I"⟩
abbrev cX3_firstBestCut : ByteArray := prog_5_method_5_code
def yX3_firstBestCut : MethodName := ⟨RX3, "firstBestCut", "(II)I"⟩
abbrev cX3_worth : ByteArray := prog_5_method_6_code
def yX3_worth : MethodName := ⟨RX3, "worth", "(III)I"⟩
abbrev cX3_grown : ByteArray := prog_5_method_7_code
def yX3_grown : MethodName := ⟨RX3, "grown", "(I)I"⟩
def RX4 : String := "EntailedLand$Fraction"
def TX4 : u_T := fun k => match k with
  | _ => ("", "", "", false)
def tyX4 : Nat → FieldType := fun k => match k with
  | _ => .int
abbrev wsX40 : List Cond := u_ws RX4 TX4 0
theorem nmX4 : ∀ a, a < 0 → ∀ b, b < 0 → a ≠ b → (TX4 a).2.1 ≠ (TX4 b).2.1 := by decide +kernel
theorem tyX4_ok : ∀ k, k < 0 → parseFieldDescriptor (TX4 k).2.2.1 = some (tyX4 k) := by decide +kernel
abbrev cX4_part : ByteArray := prog_6_method_2_code
def yX4_part : MethodName := ⟨RX4, "part", "(IIZ)I"⟩
abbrev cX4_greatestCommon : ByteArray := prog_6_method_3_code
def yX4_greatestCommon : MethodName := ⟨RX4, "greatestCommon", "(II)I"⟩
def RX5 : String := "EntailedLand$Kin"
def TX5 : u_T := fun k => match k with
  | 0 => ("EntailedLand$Kin", "row", "[I", true)
  | 1 => ("EntailedLand$Kin", "size", "I", false)
  | _ => ("EntailedLand$Kin", "seen", "I", false)
def tyX5 : Nat → FieldType := fun k => match k with
  | 0 => .array .int
  | 1 => .int
  | _ => .int
abbrev wsX50 : List Cond := u_ws RX5 TX5 3
theorem nmX5 : ∀ a, a < 3 → ∀ b, b < 3 → a ≠ b → (TX5 a).2.1 ≠ (TX5 b).2.1 := by decide +kernel
theorem tyX5_ok : ∀ k, k < 3 → parseFieldDescriptor (TX5 k).2.2.1 = some (tyX5 k) := by decide +kernel
abbrev cX5_init : ByteArray := prog_7_method_1_code
def yX5_init : MethodName := ⟨RX5, "<init>", "()V"⟩
abbrev cX5_listLine : ByteArray := prog_7_method_2_code
def yX5_listLine : MethodName := ⟨RX5, "listLine", "(LEntailedLand$Land;II)V"⟩
abbrev cX5_listHeirs : ByteArray := prog_7_method_3_code
def yX5_listHeirs : MethodName := ⟨RX5, "listHeirs", "(LEntailedLand$Land;II)V"⟩
abbrev cX5_addLine : ByteArray := prog_7_method_4_code
def yX5_addLine : MethodName := ⟨RX5, "addLine", "(LEntailedLand$Land;III)V"⟩
abbrev cX5_addChildren : ByteArray := prog_7_method_5_code
def yX5_addChildren : MethodName := ⟨RX5, "addChildren", "(LEntailedLand$Land;III)V"⟩
abbrev cX5_firstOf : ByteArray := prog_7_method_6_code
def yX5_firstOf : MethodName := ⟨RX5, "firstOf", "(I)I"⟩
abbrev cX5_allOf : ByteArray := prog_7_method_7_code
def yX5_allOf : MethodName := ⟨RX5, "allOf", "(I)I"⟩
abbrev cX5_placeOf : ByteArray := prog_7_method_8_code
def yX5_placeOf : MethodName := ⟨RX5, "placeOf", "(I)I"⟩
def RX6 : String := "EntailedLand$Land"
def TX6 : u_T := fun k => match k with
  | 0 => ("EntailedLand$Land", "parents", "[I", true)
  | 1 => ("EntailedLand$Land", "ages", "[I", true)
  | 2 => ("EntailedLand$Land", "women", "I", false)
  | 3 => ("EntailedLand$Land", "people", "I", false)
  | 4 => ("EntailedLand$Land", "living", "I", false)
  | 5 => ("EntailedLand$Land", "holder", "I", false)
  | 6 => ("EntailedLand$Land", "tie", "I", false)
  | 7 => ("EntailedLand$Land", "timber", "I", false)
  | 8 => ("EntailedLand$Land", "loans", "I", false)
  | _ => ("EntailedLand$Land", "time", "I", false)
def tyX6 : Nat → FieldType := fun k => match k with
  | 0 => .array .int
  | 1 => .array .int
  | 2 => .int
  | 3 => .int
  | 4 => .int
  | 5 => .int
  | 6 => .int
  | 7 => .int
  | 8 => .int
  | _ => .int
abbrev wsX60 : List Cond := u_ws RX6 TX6 10
theorem nmX6 : ∀ a, a < 10 → ∀ b, b < 10 → a ≠ b → (TX6 a).2.1 ≠ (TX6 b).2.1 := by decide +kernel
theorem tyX6_ok : ∀ k, k < 10 → parseFieldDescriptor (TX6 k).2.2.1 = some (tyX6 k) := by decide +kernel
abbrev cX6_init : ByteArray := prog_8_method_1_code
def yX6_init : MethodName := ⟨RX6, "<init>", "()V"⟩
abbrev cX6_clear : ByteArray := prog_8_method_2_code
def yX6_clear : MethodName := ⟨RX6, "clear", "()V"⟩
abbrev cX6_copy : ByteArray := prog_8_method_3_code
def yX6_copy : MethodName := ⟨RX6, "copy", "(LEntailedLand$Land;)V"⟩
abbrev cX6_has : ByteArray := prog_8_method_4_code
def yX6_has : MethodName := ⟨RX6, "has", "(I)Z"⟩
abbrev cX6_lives : ByteArray := prog_8_method_5_code
def yX6_lives : MethodName := ⟨RX6, "lives", "(I)Z"⟩
abbrev cX6_isWoman : ByteArray := prog_8_method_6_code
def yX6_isWoman : MethodName := ⟨RX6, "isWoman", "(I)Z"⟩
abbrev cX6_parentOf : ByteArray := prog_8_method_7_code
def yX6_parentOf : MethodName := ⟨RX6, "parentOf", "(I)I"⟩
abbrev cX6_ageOf : ByteArray := prog_8_method_8_code
def yX6_ageOf : MethodName := ⟨RX6, "ageOf", "(I)I"⟩
abbrev cX6_childrenOf : ByteArray := prog_8_method_9_code
def yX6_childrenOf : MethodName := ⟨RX6, "childrenOf", "(I)I"⟩
abbrev cX6_firstChild : ByteArray := prog_8_method_10_code
def yX6_firstChild : MethodName := ⟨RX6, "firstChild", "(II)I"⟩
abbrev cX6_goesAhead : ByteArray := prog_8_method_11_code
def yX6_goesAhead : MethodName := ⟨RX6, "goesAhead", "(III)Z"⟩
abbrev cX6_gains : ByteArray := prog_8_method_12_code
def yX6_gains : MethodName := ⟨RX6, "gains", "(IZI)V"⟩
abbrev cX6_loses : ByteArray := prog_8_method_13_code
def yX6_loses : MethodName := ⟨RX6, "loses", "(ILEntailedLand$Kin;)V"⟩
abbrev cX6_grows : ByteArray := prog_8_method_14_code
def yX6_grows : MethodName := ⟨RX6, "grows", "()V"⟩
def RX7 : String := "EntailedLand$Orders"
def TX7 : u_T := fun k => match k with
  | 0 => ("EntailedLand$Orders", "heirs", "[LEntailedLand$Kin;", true)
  | _ => ("EntailedLand$Orders", "ways", "[I", true)
def tyX7 : Nat → FieldType := fun k => match k with
  | 0 => .array (.object "EntailedLand$Kin")
  | _ => .array .int
abbrev wsX70 : List Cond := u_ws RX7 TX7 2
theorem nmX7 : ∀ a, a < 2 → ∀ b, b < 2 → a ≠ b → (TX7 a).2.1 ≠ (TX7 b).2.1 := by decide +kernel
theorem tyX7_ok : ∀ k, k < 2 → parseFieldDescriptor (TX7 k).2.2.1 = some (tyX7 k) := by decide +kernel
abbrev cX7_init : ByteArray := prog_9_method_1_code
def yX7_init : MethodName := ⟨RX7, "<init>", "()V"⟩
abbrev cX7_ofSoMany : ByteArray := prog_9_method_2_code
def yX7_ofSoMany : MethodName := ⟨RX7, "ofSoMany", "(I)I"⟩
abbrev cX7_inWhichHolds : ByteArray := prog_9_method_3_code
def yX7_inWhichHolds : MethodName := ⟨RX7, "inWhichHolds", "(LEntailedLand$Land;I)I"⟩
abbrev cX7_begin : ByteArray := prog_9_method_4_code
def yX7_begin : MethodName := ⟨RX7, "begin", "(LEntailedLand$Land;)V"⟩
abbrev cX7_goOn : ByteArray := prog_9_method_5_code
def yX7_goOn : MethodName := ⟨RX7, "goOn", "(IIII)V"⟩
abbrev cX7_add : ByteArray := prog_9_method_6_code
def yX7_add : MethodName := ⟨RX7, "add", "(III)V"⟩
def RX8 : String := "EntailedLand$Told"
def TX8 : u_T := fun k => match k with
  | 0 => ("EntailedLand$Told", "bytes", "[I", true)
  | _ => ("EntailedLand$Told", "length", "I", false)
def tyX8 : Nat → FieldType := fun k => match k with
  | 0 => .array .int
  | _ => .int
abbrev wsX80 : List Cond := u_ws RX8 TX8 2
theorem nmX8 : ∀ a, a < 2 → ∀ b, b < 2 → a ≠ b → (TX8 a).2.1 ≠ (TX8 b).2.1 := by decide +kernel
theorem tyX8_ok : ∀ k, k < 2 → parseFieldDescriptor (TX8 k).2.2.1 = some (tyX8 k) := by decide +kernel
abbrev cX8_init : ByteArray := prog_10_method_1_code
def yX8_init : MethodName := ⟨RX8, "<init>", "()V"⟩
abbrev cX8_add : ByteArray := prog_10_method_2_code
def yX8_add : MethodName := ⟨RX8, "add", "(I)Z"⟩
abbrev cX8_firstFault : ByteArray := prog_10_method_3_code
def yX8_firstFault : MethodName := ⟨RX8, "firstFault", "()I"⟩
abbrev cX8_mayStand : ByteArray := prog_10_method_4_code
def yX8_mayStand : MethodName := ⟨RX8, "mayStand", "(II)Z"⟩
abbrev cX8_isFigure : ByteArray := prog_10_method_5_code
def yX8_isFigure : MethodName := ⟨RX8, "isFigure", "(II)Z"⟩
abbrev cX8_figureAt : ByteArray := prog_10_method_6_code
def yX8_figureAt : MethodName := ⟨RX8, "figureAt", "(I)I"⟩
abbrev cX8_makeAnew : ByteArray := prog_10_method_7_code
def yX8_makeAnew : MethodName := ⟨RX8, "makeAnew", "(LEntailedLand$Land;)V"⟩
def RX9 : String := "EntailedLand"
def TX9 : u_T := fun k => match k with
  | 0 => ("EntailedLand", "told", "LEntailedLand$Told;", true)
  | 1 => ("EntailedLand", "now", "LEntailedLand$Land;", true)
  | 2 => ("EntailedLand", "trial", "LEntailedLand$Land;", true)
  | 3 => ("EntailedLand", "acts", "LEntailedLand$Acts;", true)
  | 4 => ("EntailedLand", "kept", "[LEntailedLand$Land;", true)
  | 5 => ("EntailedLand", "isKept", "[Z", true)
  | 6 => ("EntailedLand", "kin", "LEntailedLand$Kin;", true)
  | 7 => ("EntailedLand", "felling", "LEntailedLand$Felling;", true)
  | 8 => ("EntailedLand", "deathsTold", "LEntailedLand$Deaths;", true)
  | 9 => ("EntailedLand", "orders", "LEntailedLand$Orders;", true)
  | _ => ("EntailedLand", "seedNow", "J", false)
def tyX9 : Nat → FieldType := fun k => match k with
  | 0 => .object "EntailedLand$Told"
  | 1 => .object "EntailedLand$Land"
  | 2 => .object "EntailedLand$Land"
  | 3 => .object "EntailedLand$Acts"
  | 4 => .array (.object "EntailedLand$Land")
  | 5 => .array .boolean
  | 6 => .object "EntailedLand$Kin"
  | 7 => .object "EntailedLand$Felling"
  | 8 => .object "EntailedLand$Deaths"
  | 9 => .object "EntailedLand$Orders"
  | _ => .long
abbrev wsX90 : List Cond := u_ws RX9 TX9 11
theorem nmX9 : ∀ a, a < 11 → ∀ b, b < 11 → a ≠ b → (TX9 a).2.1 ≠ (TX9 b).2.1 := by decide +kernel
theorem tyX9_ok : ∀ k, k < 11 → parseFieldDescriptor (TX9 k).2.2.1 = some (tyX9 k) := by decide +kernel
abbrev cX9_init : ByteArray := prog_1_method_1_code
def yX9_init : MethodName := ⟨RX9, "<init>", "()V"⟩
abbrev cX9_write : ByteArray := prog_1_method_2_code
def yX9_write : MethodName := ⟨RX9, "write", "(I)I"⟩
abbrev cX9_wipe : ByteArray := prog_1_method_3_code
def yX9_wipe : MethodName := ⟨RX9, "wipe", "()I"⟩
abbrev cX9_fault : ByteArray := prog_1_method_4_code
def yX9_fault : MethodName := ⟨RX9, "fault", "()I"⟩
abbrev cX9_land : ByteArray := prog_1_method_5_code
def yX9_land : MethodName := ⟨RX9, "land", "()I"⟩
abbrev cX9_about : ByteArray := prog_1_method_6_code
def yX9_about : MethodName := ⟨RX9, "about", "(I)I"⟩
abbrev cX9_person : ByteArray := prog_1_method_7_code
def yX9_person : MethodName := ⟨RX9, "person", "(II)I"⟩
abbrev cX9_die : ByteArray := prog_1_method_8_code
def yX9_die : MethodName := ⟨RX9, "die", "(I)I"⟩
abbrev cX9_bear : ByteArray := prog_1_method_9_code
def yX9_bear : MethodName := ⟨RX9, "bear", "(II)I"⟩
abbrev cX9_cut : ByteArray := prog_1_method_10_code
def yX9_cut : MethodName := ⟨RX9, "cut", "(I)I"⟩
abbrev cX9_borrow : ByteArray := prog_1_method_11_code
def yX9_borrow : MethodName := ⟨RX9, "borrow", "(I)I"⟩
abbrev cX9_breakTie : ByteArray := prog_1_method_12_code
def yX9_breakTie : MethodName := ⟨RX9, "breakTie", "(I)I"⟩
abbrev cX9_tens : ByteArray := prog_1_method_13_code
def yX9_tens : MethodName := ⟨RX9, "tens", "()I"⟩
abbrev cX9_undo : ByteArray := prog_1_method_14_code
def yX9_undo : MethodName := ⟨RX9, "undo", "()I"⟩
abbrev cX9_heir : ByteArray := prog_1_method_15_code
def yX9_heir : MethodName := ⟨RX9, "heir", "(II)I"⟩
abbrev cX9_line : ByteArray := prog_1_method_16_code
def yX9_line : MethodName := ⟨RX9, "line", "(III)I"⟩
abbrev cX9_next : ByteArray := prog_1_method_17_code
def yX9_next : MethodName := ⟨RX9, "next", "(I)I"⟩
abbrev cX9_ever : ByteArray := prog_1_method_18_code
def yX9_ever : MethodName := ⟨RX9, "ever", "(I)I"⟩
abbrev cX9_best : ByteArray := prog_1_method_19_code
def yX9_best : MethodName := ⟨RX9, "best", "(IZZ)I"⟩
abbrev cX9_ties : ByteArray := prog_1_method_20_code
def yX9_ties : MethodName := ⟨RX9, "ties", "(III)I"⟩
abbrev cX9_rests : ByteArray := prog_1_method_21_code
def yX9_rests : MethodName := ⟨RX9, "rests", "(II)I"⟩
abbrev cX9_odds : ByteArray := prog_1_method_22_code
def yX9_odds : MethodName := ⟨RX9, "odds", "(IZ)I"⟩
abbrev cX9_lender : ByteArray := prog_1_method_23_code
def yX9_lender : MethodName := ⟨RX9, "lender", "(IIZ)I"⟩
abbrev cX9_seed : ByteArray := prog_1_method_24_code
def yX9_seed : MethodName := ⟨RX9, "seed", "(J)J"⟩
abbrev cX9_families : ByteArray := prog_1_method_25_code
def yX9_families : MethodName := ⟨RX9, "families", "(I)I"⟩
abbrev cX9_keep : ByteArray := prog_1_method_26_code
def yX9_keep : MethodName := ⟨RX9, "keep", "(I)I"⟩
abbrev cX9_again : ByteArray := prog_1_method_27_code
def yX9_again : MethodName := ⟨RX9, "again", "(I)I"⟩
abbrev cX9_isTie : ByteArray := prog_1_method_28_code
def yX9_isTie : MethodName := ⟨RX9, "isTie", "(I)Z"⟩
abbrev cX9_isSlot : ByteArray := prog_1_method_29_code
def yX9_isSlot : MethodName := ⟨RX9, "isSlot", "(I)Z"⟩
abbrev cX9_hasChildOfAgeAsHeir : ByteArray := prog_1_method_30_code
def yX9_hasChildOfAgeAsHeir : MethodName := ⟨RX9, "hasChildOfAgeAsHeir", "()Z"⟩
def RX10 : String := "EntailedLandModel"
def TX10 : u_T := fun k => match k with
  | 0 => ("EntailedLandModel", "thrown", "I", false)
  | 1 => ("EntailedLandModel", "text", "[I", true)
  | 2 => ("EntailedLandModel", "textSize", "I", false)
  | 3 => ("EntailedLandModel", "place", "I", false)
  | 4 => ("EntailedLandModel", "readTie", "I", false)
  | 5 => ("EntailedLandModel", "readTimber", "I", false)
  | 6 => ("EntailedLandModel", "readPeople", "I", false)
  | 7 => ("EntailedLandModel", "readPerson", "[I", true)
  | 8 => ("EntailedLandModel", "page", "[I", true)
  | 9 => ("EntailedLandModel", "trial", "[I", true)
  | 10 => ("EntailedLandModel", "book", "[I", true)
  | 11 => ("EntailedLandModel", "acts", "I", false)
  | 12 => ("EntailedLandModel", "kept", "[I", true)
  | 13 => ("EntailedLandModel", "isKept", "[Z", true)
  | 14 => ("EntailedLandModel", "seed", "J", false)
  | 15 => ("EntailedLandModel", "row", "[I", true)
  | 16 => ("EntailedLandModel", "rowSize", "I", false)
  | 17 => ("EntailedLandModel", "open", "[I", true)
  | 18 => ("EntailedLandModel", "bestMost", "I", false)
  | 19 => ("EntailedLandModel", "bestRow", "I", false)
  | 20 => ("EntailedLandModel", "restMany", "I", false)
  | 21 => ("EntailedLandModel", "restFirst", "I", false)
  | _ => ("EntailedLandModel", "ways", "[I", true)
def tyX10 : Nat → FieldType := fun k => match k with
  | 0 => .int
  | 1 => .array .int
  | 2 => .int
  | 3 => .int
  | 4 => .int
  | 5 => .int
  | 6 => .int
  | 7 => .array .int
  | 8 => .array .int
  | 9 => .array .int
  | 10 => .array .int
  | 11 => .int
  | 12 => .array .int
  | 13 => .array .boolean
  | 14 => .long
  | 15 => .array .int
  | 16 => .int
  | 17 => .array .int
  | 18 => .int
  | 19 => .int
  | 20 => .int
  | 21 => .int
  | _ => .array .int
abbrev wsX100 : List Cond := u_ws RX10 TX10 23
theorem nmX10 : ∀ a, a < 23 → ∀ b, b < 23 → a ≠ b → (TX10 a).2.1 ≠ (TX10 b).2.1 := by decide +kernel
theorem tyX10_ok : ∀ k, k < 23 → parseFieldDescriptor (TX10 k).2.2.1 = some (tyX10 k) := by decide +kernel
abbrev cX10_init : ByteArray := prog_12_method_1_code
def yX10_init : MethodName := ⟨RX10, "<init>", "()V"⟩
abbrev cX10_in : ByteArray := prog_12_method_3_code
def yX10_in : MethodName := ⟨RX10, "in", "(JJJ)Z"⟩
abbrev cX10_has : ByteArray := prog_12_method_4_code
def yX10_has : MethodName := ⟨RX10, "has", "(II)Z"⟩
abbrev cX10_noPerson : ByteArray := prog_12_method_5_code
def yX10_noPerson : MethodName := ⟨RX10, "noPerson", "(I)Z"⟩
abbrev cX10_noTie : ByteArray := prog_12_method_6_code
def yX10_noTie : MethodName := ⟨RX10, "noTie", "(I)Z"⟩
abbrev cX10_write : ByteArray := prog_12_method_7_code
def yX10_write : MethodName := ⟨RX10, "write", "(I)I"⟩
abbrev cX10_wipe : ByteArray := prog_12_method_8_code
def yX10_wipe : MethodName := ⟨RX10, "wipe", "()I"⟩
abbrev cX10_figure : ByteArray := prog_12_method_9_code
def yX10_figure : MethodName := ⟨RX10, "figure", "(II)I"⟩
abbrev cX10_readPerson : ByteArray := prog_12_method_10_code
def yX10_readPerson : MethodName := ⟨RX10, "readPerson", "()Z"⟩
abbrev cX10_readLand : ByteArray := prog_12_method_11_code
def yX10_readLand : MethodName := ⟨RX10, "readLand", "()I"⟩
abbrev cX10_fault : ByteArray := prog_12_method_12_code
def yX10_fault : MethodName := ⟨RX10, "fault", "()I"⟩
abbrev cX10_land : ByteArray := prog_12_method_13_code
def yX10_land : MethodName := ⟨RX10, "land", "()I"⟩
abbrev cX10_isAhead : ByteArray := prog_12_method_14_code
def yX10_isAhead : MethodName := ⟨RX10, "isAhead", "([IIII)Z"⟩
abbrev cX10_childrenOf : ByteArray := prog_12_method_15_code
def yX10_childrenOf : MethodName := ⟨RX10, "childrenOf", "([II)I"⟩
abbrev cX10_layLine : ByteArray := prog_12_method_16_code
def yX10_layLine : MethodName := ⟨RX10, "layLine", "([III)V"⟩
abbrev cX10_firstOf : ByteArray := prog_12_method_17_code
def yX10_firstOf : MethodName := ⟨RX10, "firstOf", "(II)I"⟩
abbrev cX10_heirOf : ByteArray := prog_12_method_18_code
def yX10_heirOf : MethodName := ⟨RX10, "heirOf", "([III)I"⟩
abbrev cX10_about : ByteArray := prog_12_method_19_code
def yX10_about : MethodName := ⟨RX10, "about", "(I)I"⟩
abbrev cX10_person : ByteArray := prog_12_method_20_code
def yX10_person : MethodName := ⟨RX10, "person", "(II)I"⟩
abbrev cX10_note : ByteArray := prog_12_method_21_code
def yX10_note : MethodName := ⟨RX10, "note", "()V"⟩
abbrev cX10_goDie : ByteArray := prog_12_method_22_code
def yX10_goDie : MethodName := ⟨RX10, "goDie", "([II)V"⟩
abbrev cX10_die : ByteArray := prog_12_method_23_code
def yX10_die : MethodName := ⟨RX10, "die", "(I)I"⟩
abbrev cX10_bear : ByteArray := prog_12_method_24_code
def yX10_bear : MethodName := ⟨RX10, "bear", "(II)I"⟩
abbrev cX10_cut : ByteArray := prog_12_method_25_code
def yX10_cut : MethodName := ⟨RX10, "cut", "(I)I"⟩
abbrev cX10_borrow : ByteArray := prog_12_method_26_code
def yX10_borrow : MethodName := ⟨RX10, "borrow", "(I)I"⟩
abbrev cX10_isOfAge : ByteArray := prog_12_method_27_code
def yX10_isOfAge : MethodName := ⟨RX10, "isOfAge", "()Z"⟩
abbrev cX10_breakTie : ByteArray := prog_12_method_28_code
def yX10_breakTie : MethodName := ⟨RX10, "breakTie", "(I)I"⟩
abbrev cX10_tens : ByteArray := prog_12_method_29_code
def yX10_tens : MethodName := ⟨RX10, "tens", "()I"⟩
abbrev cX10_undo : ByteArray := prog_12_method_30_code
def yX10_undo : MethodName := ⟨RX10, "undo", "()I"⟩
abbrev cX10_begin : ByteArray := prog_12_method_31_code
def yX10_begin : MethodName := ⟨RX10, "begin", "()V"⟩
abbrev cX10_heir : ByteArray := prog_12_method_32_code
def yX10_heir : MethodName := ⟨RX10, "heir", "(II)I"⟩
abbrev cX10_line : ByteArray := prog_12_method_33_code
def yX10_line : MethodName := ⟨RX10, "line", "(III)I"⟩
abbrev cX10_next : ByteArray := prog_12_method_34_code
def yX10_next : MethodName := ⟨RX10, "next", "(I)I"⟩
abbrev cX10_ever : ByteArray := prog_12_method_35_code
def yX10_ever : MethodName := ⟨RX10, "ever", "(I)I"⟩
abbrev cX10_power : ByteArray := prog_12_method_36_code
def yX10_power : MethodName := ⟨RX10, "power", "(II)I"⟩
abbrev cX10_findBest : ByteArray := prog_12_method_37_code
def yX10_findBest : MethodName := ⟨RX10, "findBest", "(IZ)V"⟩
abbrev cX10_best : ByteArray := prog_12_method_38_code
def yX10_best : MethodName := ⟨RX10, "best", "(IZZ)I"⟩
abbrev cX10_noDeaths : ByteArray := prog_12_method_39_code
def yX10_noDeaths : MethodName := ⟨RX10, "noDeaths", "(II)Z"⟩
abbrev cX10_ties : ByteArray := prog_12_method_40_code
def yX10_ties : MethodName := ⟨RX10, "ties", "(III)I"⟩
abbrev cX10_gainOf : ByteArray := prog_12_method_41_code
def yX10_gainOf : MethodName := ⟨RX10, "gainOf", "(IIIZ)I"⟩
abbrev cX10_findRests : ByteArray := prog_12_method_42_code
def yX10_findRests : MethodName := ⟨RX10, "findRests", "(I)V"⟩
abbrev cX10_rests : ByteArray := prog_12_method_43_code
def yX10_rests : MethodName := ⟨RX10, "rests", "(II)I"⟩
abbrev cX10_divisor : ByteArray := prog_12_method_44_code
def yX10_divisor : MethodName := ⟨RX10, "divisor", "(II)I"⟩
abbrev cX10_fraction : ByteArray := prog_12_method_45_code
def yX10_fraction : MethodName := ⟨RX10, "fraction", "(IIZ)I"⟩
abbrev cX10_goOn : ByteArray := prog_12_method_46_code
def yX10_goOn : MethodName := ⟨RX10, "goOn", "(IIIZI)V"⟩
abbrev cX10_odds : ByteArray := prog_12_method_47_code
def yX10_odds : MethodName := ⟨RX10, "odds", "(IZ)I"⟩
abbrev cX10_lender : ByteArray := prog_12_method_48_code
def yX10_lender : MethodName := ⟨RX10, "lender", "(IIZ)I"⟩
abbrev cX10_seed : ByteArray := prog_12_method_49_code
def yX10_seed : MethodName := ⟨RX10, "seed", "(J)J"⟩
abbrev cX10_families : ByteArray := prog_12_method_50_code
def yX10_families : MethodName := ⟨RX10, "families", "(I)I"⟩
abbrev cX10_keep : ByteArray := prog_12_method_51_code
def yX10_keep : MethodName := ⟨RX10, "keep", "(I)I"⟩
abbrev cX10_again : ByteArray := prog_12_method_52_code
def yX10_again : MethodName := ⟨RX10, "again", "(I)I"⟩
def RJ6 : String := "java/lang/Integer"
def TJ6 : u_T := fun k => match k with
  | _ => ("", "", "", false)
def tyJ6 : Nat → FieldType := fun k => match k with
  | _ => .int
abbrev wsJ60 : List Cond := u_ws RJ6 TJ6 0
theorem nmJ6 : ∀ a, a < 0 → ∀ b, b < 0 → a ≠ b → (TJ6 a).2.1 ≠ (TJ6 b).2.1 := by decide +kernel
theorem tyJ6_ok : ∀ k, k < 0 → parseFieldDescriptor (TJ6 k).2.2.1 = some (tyJ6 k) := by decide +kernel
abbrev cJ6_bitCount_0f7a4 : ByteArray := prog_13_method_49_code
def yJ6_bitCount_0f7a4 : MethodName := ⟨RJ6, "bitCount", "(I)I"⟩
def RJ9 : String := "java/lang/Math"
def TJ9 : u_T := fun k => match k with
  | _ => ("", "", "", false)
def tyJ9 : Nat → FieldType := fun k => match k with
  | _ => .int
abbrev wsJ90 : List Cond := u_ws RJ9 TJ9 0
theorem nmJ9 : ∀ a, a < 0 → ∀ b, b < 0 → a ≠ b → (TJ9 a).2.1 ≠ (TJ9 b).2.1 := by decide +kernel
theorem tyJ9_ok : ∀ k, k < 0 → parseFieldDescriptor (TJ9 k).2.2.1 = some (tyJ9 k) := by decide +kernel
abbrev cJ9_max_7cf53 : ByteArray := prog_14_method_65_code
def yJ9_max_7cf53 : MethodName := ⟨RJ9, "max", "(II)I"⟩
abbrev cJ9_min_7cf53 : ByteArray := prog_14_method_69_code
def yJ9_min_7cf53 : MethodName := ⟨RJ9, "min", "(II)I"⟩
def RJ10 : String := "java/lang/System"
def TJ10 : u_T := fun k => match k with
  | _ => ("", "", "", false)
def tyJ10 : Nat → FieldType := fun k => match k with
  | _ => .int
abbrev wsJ100 : List Cond := u_ws RJ10 TJ10 0
theorem nmJ10 : ∀ a, a < 0 → ∀ b, b < 0 → a ≠ b → (TJ10 a).2.1 ≠ (TJ10 b).2.1 := by decide +kernel
theorem tyJ10_ok : ∀ k, k < 0 → parseFieldDescriptor (TJ10 k).2.2.1 = some (tyJ10 k) := by decide +kernel
def RJ7 : String := "java/util/Arrays"
def TJ7 : u_T := fun k => match k with
  | _ => ("", "", "", false)
def tyJ7 : Nat → FieldType := fun k => match k with
  | _ => .int
abbrev wsJ70 : List Cond := u_ws RJ7 TJ7 0
theorem nmJ7 : ∀ a, a < 0 → ∀ b, b < 0 → a ≠ b → (TJ7 a).2.1 ≠ (TJ7 b).2.1 := by decide +kernel
theorem tyJ7_ok : ∀ k, k < 0 → parseFieldDescriptor (TJ7 k).2.2.1 = some (tyJ7 k) := by decide +kernel
abbrev cJ7_fill_53178 : ByteArray := prog_16_method_103_code
def yJ7_fill_53178 : MethodName := ⟨RJ7, "fill", "([II)V"⟩
def RL : String := "EntailedLandLaw"
abbrev cL_law : ByteArray := code
def yL_law : MethodName := ⟨RL, "law", "([I)Z"⟩
abbrev vwCl : List vw_C := [(RX0, TX0, 3), (RX2, TX2, 2), (RX3, TX3, 1), (RX5, TX5, 3), (RX6, TX6, 10), (RX7, TX7, 2), (RX8, TX8, 2), (RX9, TX9, 11), (RX10, TX10, 23)]
