section
-- ===== PART A: goes FIRST, ahead of the names: the tables' words, and 'selects' of the private methods out of them =====
/-- a private method of a class that the tables say can be made, by its rows of tables_1 -/
def lw_okq (q : MethodName × Nat) : Prop := (q.1.cls ≠ "java/lang/invoke/MethodHandle" ∧ q.1.cls ≠ "java/lang/invoke/VarHandle") ∧ Cond.instantiable q.1.cls q.2 ∈ tables_1 ∧ Cond.privateMethod q.1 ∈ tables_1 ∧ Cond.instanceMethod q.1 ∈ tables_1
theorem lw_p0 : lw_okq (⟨"EntailedLand$Told", "figureAt", "(I)I"⟩, 2) := ⟨⟨by decide +kernel, by decide +kernel⟩, List.mem_of_getElem? (i := 25) (by decide +kernel), List.mem_of_getElem? (i := 244) (by decide +kernel), List.mem_of_getElem? (i := 245) (by decide +kernel)⟩
theorem lw_p1 : lw_okq (⟨"EntailedLand$Kin", "addChildren", "(LEntailedLand$Land;III)V"⟩, 3) := ⟨⟨by decide +kernel, by decide +kernel⟩, List.mem_of_getElem? (i := 111) (by decide +kernel), List.mem_of_getElem? (i := 314) (by decide +kernel), List.mem_of_getElem? (i := 315) (by decide +kernel)⟩
theorem lw_p2 : lw_okq (⟨"EntailedLand$Kin", "addLine", "(LEntailedLand$Land;III)V"⟩, 3) := ⟨⟨by decide +kernel, by decide +kernel⟩, List.mem_of_getElem? (i := 111) (by decide +kernel), List.mem_of_getElem? (i := 327) (by decide +kernel), List.mem_of_getElem? (i := 328) (by decide +kernel)⟩
theorem lw_p3 : lw_okq (⟨"EntailedLand", "hasChildOfAgeAsHeir", "()Z"⟩, 11) := ⟨⟨by decide +kernel, by decide +kernel⟩, List.mem_of_getElem? (i := 17) (by decide +kernel), List.mem_of_getElem? (i := 356) (by decide +kernel), List.mem_of_getElem? (i := 357) (by decide +kernel)⟩
theorem lw_p4 : lw_okq (⟨"EntailedLand$Felling", "firstBestCut", "(II)I"⟩, 1) := ⟨⟨by decide +kernel, by decide +kernel⟩, List.mem_of_getElem? (i := 128) (by decide +kernel), List.mem_of_getElem? (i := 418) (by decide +kernel), List.mem_of_getElem? (i := 419) (by decide +kernel)⟩
theorem lw_p5 : lw_okq (⟨"EntailedLand$Felling", "worth", "(III)I"⟩, 1) := ⟨⟨by decide +kernel, by decide +kernel⟩, List.mem_of_getElem? (i := 128) (by decide +kernel), List.mem_of_getElem? (i := 422) (by decide +kernel), List.mem_of_getElem? (i := 423) (by decide +kernel)⟩
theorem lw_p6 : lw_okq (⟨"EntailedLand$Orders", "begin", "(LEntailedLand$Land;)V"⟩, 2) := ⟨⟨by decide +kernel, by decide +kernel⟩, List.mem_of_getElem? (i := 153) (by decide +kernel), List.mem_of_getElem? (i := 495) (by decide +kernel), List.mem_of_getElem? (i := 496) (by decide +kernel)⟩
theorem lw_p7 : lw_okq (⟨"EntailedLand$Orders", "add", "(III)V"⟩, 2) := ⟨⟨by decide +kernel, by decide +kernel⟩, List.mem_of_getElem? (i := 153) (by decide +kernel), List.mem_of_getElem? (i := 503) (by decide +kernel), List.mem_of_getElem? (i := 504) (by decide +kernel)⟩
theorem lw_p8 : lw_okq (⟨"EntailedLand$Orders", "goOn", "(IIII)V"⟩, 2) := ⟨⟨by decide +kernel, by decide +kernel⟩, List.mem_of_getElem? (i := 153) (by decide +kernel), List.mem_of_getElem? (i := 510) (by decide +kernel), List.mem_of_getElem? (i := 511) (by decide +kernel)⟩
theorem lw_p9 : lw_okq (⟨"EntailedLandModel", "readLand", "()I"⟩, 23) := ⟨⟨by decide +kernel, by decide +kernel⟩, List.mem_of_getElem? (i := 542) (by decide +kernel), List.mem_of_getElem? (i := 634) (by decide +kernel), List.mem_of_getElem? (i := 635) (by decide +kernel)⟩
theorem lw_p10 : lw_okq (⟨"EntailedLandModel", "figure", "(II)I"⟩, 23) := ⟨⟨by decide +kernel, by decide +kernel⟩, List.mem_of_getElem? (i := 542) (by decide +kernel), List.mem_of_getElem? (i := 638) (by decide +kernel), List.mem_of_getElem? (i := 639) (by decide +kernel)⟩
theorem lw_p11 : lw_okq (⟨"EntailedLandModel", "readPerson", "()Z"⟩, 23) := ⟨⟨by decide +kernel, by decide +kernel⟩, List.mem_of_getElem? (i := 542) (by decide +kernel), List.mem_of_getElem? (i := 642) (by decide +kernel), List.mem_of_getElem? (i := 643) (by decide +kernel)⟩
theorem lw_p12 : lw_okq (⟨"EntailedLandModel", "noPerson", "(I)Z"⟩, 23) := ⟨⟨by decide +kernel, by decide +kernel⟩, List.mem_of_getElem? (i := 542) (by decide +kernel), List.mem_of_getElem? (i := 658) (by decide +kernel), List.mem_of_getElem? (i := 659) (by decide +kernel)⟩
theorem lw_p13 : lw_okq (⟨"EntailedLandModel", "childrenOf", "([II)I"⟩, 23) := ⟨⟨by decide +kernel, by decide +kernel⟩, List.mem_of_getElem? (i := 542) (by decide +kernel), List.mem_of_getElem? (i := 662) (by decide +kernel), List.mem_of_getElem? (i := 663) (by decide +kernel)⟩
theorem lw_p14 : lw_okq (⟨"EntailedLandModel", "note", "()V"⟩, 23) := ⟨⟨by decide +kernel, by decide +kernel⟩, List.mem_of_getElem? (i := 542) (by decide +kernel), List.mem_of_getElem? (i := 673) (by decide +kernel), List.mem_of_getElem? (i := 674) (by decide +kernel)⟩
theorem lw_p15 : lw_okq (⟨"EntailedLandModel", "goDie", "([II)V"⟩, 23) := ⟨⟨by decide +kernel, by decide +kernel⟩, List.mem_of_getElem? (i := 542) (by decide +kernel), List.mem_of_getElem? (i := 677) (by decide +kernel), List.mem_of_getElem? (i := 678) (by decide +kernel)⟩
def lw_privs_1 : List (MethodName × Nat) := [(⟨"EntailedLand$Told", "figureAt", "(I)I"⟩, 2), (⟨"EntailedLand$Kin", "addChildren", "(LEntailedLand$Land;III)V"⟩, 3), (⟨"EntailedLand$Kin", "addLine", "(LEntailedLand$Land;III)V"⟩, 3), (⟨"EntailedLand", "hasChildOfAgeAsHeir", "()Z"⟩, 11), (⟨"EntailedLand$Felling", "firstBestCut", "(II)I"⟩, 1), (⟨"EntailedLand$Felling", "worth", "(III)I"⟩, 1), (⟨"EntailedLand$Orders", "begin", "(LEntailedLand$Land;)V"⟩, 2), (⟨"EntailedLand$Orders", "add", "(III)V"⟩, 2), (⟨"EntailedLand$Orders", "goOn", "(IIII)V"⟩, 2), (⟨"EntailedLandModel", "readLand", "()I"⟩, 23), (⟨"EntailedLandModel", "figure", "(II)I"⟩, 23), (⟨"EntailedLandModel", "readPerson", "()Z"⟩, 23), (⟨"EntailedLandModel", "noPerson", "(I)Z"⟩, 23), (⟨"EntailedLandModel", "childrenOf", "([II)I"⟩, 23), (⟨"EntailedLandModel", "note", "()V"⟩, 23), (⟨"EntailedLandModel", "goDie", "([II)V"⟩, 23)]
theorem lw_r1 : ∀ q ∈ lw_privs_1, lw_okq q := List.forall_mem_cons.mpr ⟨lw_p0, List.forall_mem_cons.mpr ⟨lw_p1, List.forall_mem_cons.mpr ⟨lw_p2, List.forall_mem_cons.mpr ⟨lw_p3, List.forall_mem_cons.mpr ⟨lw_p4, List.forall_mem_cons.mpr ⟨lw_p5, List.forall_mem_cons.mpr ⟨lw_p6, List.forall_mem_cons.mpr ⟨lw_p7, List.forall_mem_cons.mpr ⟨lw_p8, List.forall_mem_cons.mpr ⟨lw_p9, List.forall_mem_cons.mpr ⟨lw_p10, List.forall_mem_cons.mpr ⟨lw_p11, List.forall_mem_cons.mpr ⟨lw_p12, List.forall_mem_cons.mpr ⟨lw_p13, List.forall_mem_cons.mpr ⟨lw_p14, List.forall_mem_cons.mpr ⟨lw_p15, fun _ h => absurd h List.not_mem_nil⟩⟩⟩⟩⟩⟩⟩⟩⟩⟩⟩⟩⟩⟩⟩⟩
theorem lw_p16 : lw_okq (⟨"EntailedLandModel", "heirOf", "([III)I"⟩, 23) := ⟨⟨by decide +kernel, by decide +kernel⟩, List.mem_of_getElem? (i := 542) (by decide +kernel), List.mem_of_getElem? (i := 681) (by decide +kernel), List.mem_of_getElem? (i := 682) (by decide +kernel)⟩
theorem lw_p17 : lw_okq (⟨"EntailedLandModel", "isAhead", "([IIII)Z"⟩, 23) := ⟨⟨by decide +kernel, by decide +kernel⟩, List.mem_of_getElem? (i := 542) (by decide +kernel), List.mem_of_getElem? (i := 685) (by decide +kernel), List.mem_of_getElem? (i := 686) (by decide +kernel)⟩
theorem lw_p18 : lw_okq (⟨"EntailedLandModel", "layLine", "([III)V"⟩, 23) := ⟨⟨by decide +kernel, by decide +kernel⟩, List.mem_of_getElem? (i := 542) (by decide +kernel), List.mem_of_getElem? (i := 689) (by decide +kernel), List.mem_of_getElem? (i := 690) (by decide +kernel)⟩
theorem lw_p19 : lw_okq (⟨"EntailedLandModel", "firstOf", "(II)I"⟩, 23) := ⟨⟨by decide +kernel, by decide +kernel⟩, List.mem_of_getElem? (i := 542) (by decide +kernel), List.mem_of_getElem? (i := 693) (by decide +kernel), List.mem_of_getElem? (i := 694) (by decide +kernel)⟩
theorem lw_p20 : lw_okq (⟨"EntailedLandModel", "isOfAge", "()Z"⟩, 23) := ⟨⟨by decide +kernel, by decide +kernel⟩, List.mem_of_getElem? (i := 542) (by decide +kernel), List.mem_of_getElem? (i := 718) (by decide +kernel), List.mem_of_getElem? (i := 719) (by decide +kernel)⟩
theorem lw_p21 : lw_okq (⟨"EntailedLandModel", "begin", "()V"⟩, 23) := ⟨⟨by decide +kernel, by decide +kernel⟩, List.mem_of_getElem? (i := 542) (by decide +kernel), List.mem_of_getElem? (i := 742) (by decide +kernel), List.mem_of_getElem? (i := 743) (by decide +kernel)⟩
theorem lw_p22 : lw_okq (⟨"EntailedLandModel", "findBest", "(IZ)V"⟩, 23) := ⟨⟨by decide +kernel, by decide +kernel⟩, List.mem_of_getElem? (i := 542) (by decide +kernel), List.mem_of_getElem? (i := 755) (by decide +kernel), List.mem_of_getElem? (i := 756) (by decide +kernel)⟩
theorem lw_p23 : lw_okq (⟨"EntailedLandModel", "noDeaths", "(II)Z"⟩, 23) := ⟨⟨by decide +kernel, by decide +kernel⟩, List.mem_of_getElem? (i := 542) (by decide +kernel), List.mem_of_getElem? (i := 766) (by decide +kernel), List.mem_of_getElem? (i := 767) (by decide +kernel)⟩
theorem lw_p24 : lw_okq (⟨"EntailedLandModel", "findRests", "(I)V"⟩, 23) := ⟨⟨by decide +kernel, by decide +kernel⟩, List.mem_of_getElem? (i := 542) (by decide +kernel), List.mem_of_getElem? (i := 774) (by decide +kernel), List.mem_of_getElem? (i := 775) (by decide +kernel)⟩
theorem lw_p25 : lw_okq (⟨"EntailedLandModel", "goOn", "(IIIZI)V"⟩, 23) := ⟨⟨by decide +kernel, by decide +kernel⟩, List.mem_of_getElem? (i := 542) (by decide +kernel), List.mem_of_getElem? (i := 785) (by decide +kernel), List.mem_of_getElem? (i := 786) (by decide +kernel)⟩
def lw_privs_2 : List (MethodName × Nat) := [(⟨"EntailedLandModel", "heirOf", "([III)I"⟩, 23), (⟨"EntailedLandModel", "isAhead", "([IIII)Z"⟩, 23), (⟨"EntailedLandModel", "layLine", "([III)V"⟩, 23), (⟨"EntailedLandModel", "firstOf", "(II)I"⟩, 23), (⟨"EntailedLandModel", "isOfAge", "()Z"⟩, 23), (⟨"EntailedLandModel", "begin", "()V"⟩, 23), (⟨"EntailedLandModel", "findBest", "(IZ)V"⟩, 23), (⟨"EntailedLandModel", "noDeaths", "(II)Z"⟩, 23), (⟨"EntailedLandModel", "findRests", "(I)V"⟩, 23), (⟨"EntailedLandModel", "goOn", "(IIIZI)V"⟩, 23)]
theorem lw_r2 : ∀ q ∈ lw_privs_2, lw_okq q := List.forall_mem_cons.mpr ⟨lw_p16, List.forall_mem_cons.mpr ⟨lw_p17, List.forall_mem_cons.mpr ⟨lw_p18, List.forall_mem_cons.mpr ⟨lw_p19, List.forall_mem_cons.mpr ⟨lw_p20, List.forall_mem_cons.mpr ⟨lw_p21, List.forall_mem_cons.mpr ⟨lw_p22, List.forall_mem_cons.mpr ⟨lw_p23, List.forall_mem_cons.mpr ⟨lw_p24, List.forall_mem_cons.mpr ⟨lw_p25, fun _ h => absurd h List.not_mem_nil⟩⟩⟩⟩⟩⟩⟩⟩⟩⟩
def lw_privs : List (MethodName × Nat) := lw_privs_1 ++ (lw_privs_2)
def lw_tbl : List Cond := k2_sels lw_privs ++ tables_1
theorem lw_privs_ok : ∀ q ∈ lw_privs, lw_okq q := by
  show ∀ q ∈ lw_privs_1 ++ (lw_privs_2), lw_okq q
  exact List.forall_mem_append.mpr ⟨lw_r1, lw_r2⟩
end
section
/-! ===== BEGIN words of one list among another's, by their places ===== -/
theorem goodIn_r {big : List Cond} (ws : List Cond) (ps : List Nat) (hp : ws = ps.filterMap (fun i => big[i]?)) (h : ws.all goodWord = true) : GoodIn big ws := by
  intro w hw
  have h1 := List.all_eq_true.mp h w hw
  rw [hp] at hw
  obtain ⟨i, -, hi⟩ := List.mem_filterMap.mp hw
  have hm : w ∈ big := by first | exact List.mem_of_getElem? hi | exact List.getElem?_mem hi
  exact ⟨hm, good_of_word h1⟩
theorem goodIn_app {big a b : List Cond} (ha : GoodIn big a) (hb : GoodIn big b) : GoodIn big (a ++ b) := fun w h => (List.mem_append.mp h).elim (ha w) (hb w)
theorem goodIn_ca {big a b : List Cond} {c : Cond} (ha : GoodIn big (c :: a)) (hb : GoodIn big b) : GoodIn big (c :: (a ++ b)) := fun w h => (List.mem_cons.mp h).elim (fun e => ha w (List.mem_cons.mpr (Or.inl e))) (fun h => (List.mem_append.mp h).elim (fun h => ha w (List.mem_cons.mpr (Or.inr h))) (hb w))
theorem goodIn_sub {big ws : List Cond} (hm : ∀ w ∈ ws, w ∈ big) (h : ws.all goodWord = true) : GoodIn big ws := fun w hw => ⟨hm w hw, good_of_word (List.all_eq_true.mp h w hw)⟩
/-! ===== END ===== -/

def RX0 : String := "EntailedLand$Acts"
def TX0 : u_T := fun k => match k with
  | 0 => ("EntailedLand$Acts", "before", "[LEntailedLand$Land;", true)
  | 1 => ("EntailedLand$Acts", "first", "I", false)
  | _ => ("EntailedLand$Acts", "size", "I", false)
def tyX0 : Nat → FieldType := fun k => match k with
  | 0 => .array (.object "EntailedLand$Land")
  | 1 => .int
  | _ => .int
abbrev wsX00 : List Cond := u_ws RX0 TX0 3
theorem nmX0 : ∀ a, a < 3 → ∀ b, b < 3 → a ≠ b → (TX0 a).2.1 ≠ (TX0 b).2.1 := by decide +kernel
theorem tyX0_ok : ∀ k, k < 3 → parseFieldDescriptor (TX0 k).2.2.1 = some (tyX0 k) := by decide +kernel
abbrev cX0_init : ByteArray := prog_2_method_1_code
def yX0_init : MethodName := ⟨RX0, "<init>", "()V"⟩
abbrev cX0_remember : ByteArray := prog_2_method_2_code
def yX0_remember : MethodName := ⟨RX0, "remember", "(LEntailedLand$Land;)V"⟩
abbrev cX0_takeBack : ByteArray := prog_2_method_3_code
def yX0_takeBack : MethodName := ⟨RX0, "takeBack", "(LEntailedLand$Land;)Z"⟩
abbrev cX0_forgetAll : ByteArray := prog_2_method_4_code
def yX0_forgetAll : MethodName := ⟨RX0, "forgetAll", "()V"⟩
def RX1 : String := "EntailedLand$Bargain"
def TX1 : u_T := fun k => match k with
  | _ => ("", "", "", false)
def tyX1 : Nat → FieldType := fun k => match k with
  | _ => .int
abbrev wsX10 : List Cond := u_ws RX1 TX1 0
theorem nmX1 : ∀ a, a < 0 → ∀ b, b < 0 → a ≠ b → (TX1 a).2.1 ≠ (TX1 b).2.1 := by decide +kernel
theorem tyX1_ok : ∀ k, k < 0 → parseFieldDescriptor (TX1 k).2.2.1 = some (tyX1 k) := by decide +kernel
abbrev cX1_countRests : ByteArray := prog_3_method_2_code
def yX1_countRests : MethodName := ⟨RX1, "countRests", "(I)I"⟩
abbrev cX1_firstRest : ByteArray := prog_3_method_3_code
def yX1_firstRest : MethodName := ⟨RX1, "firstRest", "(I)I"⟩
abbrev cX1_isAtRest : ByteArray := prog_3_method_4_code
def yX1_isAtRest : MethodName := ⟨RX1, "isAtRest", "(III)Z"⟩
abbrev cX1_holderHas : ByteArray := prog_3_method_5_code
def yX1_holderHas : MethodName := ⟨RX1, "holderHas", "(II)I"⟩
abbrev cX1_heirHas : ByteArray := prog_3_method_6_code
def yX1_heirHas : MethodName := ⟨RX1, "heirHas", "(III)I"⟩
def RX2 : String := "EntailedLand$Deaths"
def TX2 : u_T := fun k => match k with
  | 0 => ("EntailedLand$Deaths", "people", "[I", true)
  | _ => ("EntailedLand$Deaths", "size", "I", false)
def tyX2 : Nat → FieldType := fun k => match k with
  | 0 => .array .int
  | _ => .int
abbrev wsX20 : List Cond := u_ws RX2 TX2 2
theorem nmX2 : ∀ a, a < 2 → ∀ b, b < 2 → a ≠ b → (TX2 a).2.1 ≠ (TX2 b).2.1 := by decide +kernel
theorem tyX2_ok : ∀ k, k < 2 → parseFieldDescriptor (TX2 k).2.2.1 = some (tyX2 k) := by decide +kernel
abbrev cX2_init : ByteArray := prog_4_method_1_code
def yX2_init : MethodName := ⟨RX2, "<init>", "()V"⟩
abbrev cX2_read : ByteArray := prog_4_method_2_code
def yX2_read : MethodName := ⟨RX2, "read", "(IILEntailedLand$Land;)Z"⟩
abbrev cX2_befall : ByteArray := prog_4_method_3_code
def yX2_befall : MethodName := ⟨RX2, "befall", "(LEntailedLand$Land;LEntailedLand$Kin;)V"⟩
def RX3 : String := "EntailedLand$Felling"
def TX3 : u_T := fun k => match k with
  | _ => ("EntailedLand$Felling", "most", "[[I", true)
def tyX3 : Nat → FieldType := fun k => match k with
  | _ => .array (.array .int)
abbrev wsX30 : List Cond := u_ws RX3 TX3 1
theorem nmX3 : ∀ a, a < 1 → ∀ b, b < 1 → a ≠ b → (TX3 a).2.1 ≠ (TX3 b).2.1 := by decide +kernel
theorem tyX3_ok : ∀ k, k < 1 → parseFieldDescriptor (TX3 k).2.2.1 = some (tyX3 k) := by decide +kernel
abbrev cX3_init : ByteArray := prog_5_method_1_code
def yX3_init : MethodName := ⟨RX3, "<init>", "()V"⟩
abbrev cX3_reckon : ByteArray := prog_5_method_2_code
def yX3_reckon : MethodName := ⟨RX3, "reckon", "(IZ)V"⟩
abbrev cX3_mostFor : ByteArray := prog_5_method_3_code
def yX3_mostFor : MethodName := ⟨RX3, "mostFor", "(II)I"⟩
abbrev cX3_firstRow : ByteArray := prog_5_method_4_code
def yX3_firstRow : MethodName := ⟨RX3, "firstRow", "(II)I"⟩
abbrev cX3_firstBestCut : ByteArray := prog_5_method_5_code
def yX3_firstBestCut : MethodName := ⟨RX3, "firstBestCut", "(II)I"⟩
abbrev cX3_worth : ByteArray := prog_5_method_6_code
def yX3_worth : MethodName := ⟨RX3, "worth", "(III)I"⟩
abbrev cX3_grown : ByteArray := prog_5_method_7_code
def yX3_grown : MethodName := ⟨RX3, "grown", "(I)I"⟩
def RX4 : String := "EntailedLand$Fraction"
def TX4 : u_T := fun k => match k with
  | _ => ("", "", "", false)
def tyX4 : Nat → FieldType := fun k => match k with
  | _ => .int
abbrev wsX40 : List Cond := u_ws RX4 TX4 0
theorem nmX4 : ∀ a, a < 0 → ∀ b, b < 0 → a ≠ b → (TX4 a).2.1 ≠ (TX4 b).2.1 := by decide +kernel
theorem tyX4_ok : ∀ k, k < 0 → parseFieldDescriptor (TX4 k).2.2.1 = some (tyX4 k) := by decide +kernel
abbrev cX4_part : ByteArray := prog_6_method_2_code
def yX4_part : MethodName := ⟨RX4, "part", "(IIZ)I"⟩
abbrev cX4_greatestCommon : ByteArray := prog_6_method_3_code
def yX4_greatestCommon : MethodName := ⟨RX4, "greatestCommon", "(II)I"⟩
def RX5 : String := "EntailedLand$Kin"
def TX5 : u_T := fun k => match k with
  | 0 => ("EntailedLand$Kin", "row", "[I", true)
  | 1 => ("EntailedLand$Kin", "size", "I", false)
  | _ => ("EntailedLand$Kin", "seen", "I", false)
def tyX5 : Nat → FieldType := fun k => match k with
  | 0 => .array .int
  | 1 => .int
  | _ => .int
abbrev wsX50 : List Cond := u_ws RX5 TX5 3
theorem nmX5 : ∀ a, a < 3 → ∀ b, b < 3 → a ≠ b → (TX5 a).2.1 ≠ (TX5 b).2.1 := by decide +kernel
theorem tyX5_ok : ∀ k, k < 3 → parseFieldDescriptor (TX5 k).2.2.1 = some (tyX5 k) := by decide +kernel
abbrev cX5_init : ByteArray := prog_7_method_1_code
def yX5_init : MethodName := ⟨RX5, "<init>", "()V"⟩
abbrev cX5_listLine : ByteArray := prog_7_method_2_code
def yX5_listLine : MethodName := ⟨RX5, "listLine", "(LEntailedLand$Land;II)V"⟩
abbrev cX5_listHeirs : ByteArray := prog_7_method_3_code
def yX5_listHeirs : MethodName := ⟨RX5, "listHeirs", "(LEntailedLand$Land;II)V"⟩
abbrev cX5_addLine : ByteArray := prog_7_method_4_code
def yX5_addLine : MethodName := ⟨RX5, "addLine", "(LEntailedLand$Land;III)V"⟩
abbrev cX5_addChildren : ByteArray := prog_7_method_5_code
def yX5_addChildren : MethodName := ⟨RX5, "addChildren", "(LEntailedLand$Land;III)V"⟩
abbrev cX5_firstChild : ByteArray := prog_7_method_6_code
def yX5_firstChild : MethodName := ⟨RX5, "firstChild", "(LEntailedLand$Land;II)I"⟩
abbrev cX5_goesAhead : ByteArray := prog_7_method_7_code
def yX5_goesAhead : MethodName := ⟨RX5, "goesAhead", "(LEntailedLand$Land;III)Z"⟩
abbrev cX5_firstOf : ByteArray := prog_7_method_8_code
def yX5_firstOf : MethodName := ⟨RX5, "firstOf", "(I)I"⟩
abbrev cX5_allOf : ByteArray := prog_7_method_9_code
def yX5_allOf : MethodName := ⟨RX5, "allOf", "(I)I"⟩
abbrev cX5_placeOf : ByteArray := prog_7_method_10_code
def yX5_placeOf : MethodName := ⟨RX5, "placeOf", "(I)I"⟩
def RX6 : String := "EntailedLand$Land"
def TX6 : u_T := fun k => match k with
  | 0 => ("EntailedLand$Land", "parents", "[I", true)
  | 1 => ("EntailedLand$Land", "ages", "[I", true)
  | 2 => ("EntailedLand$Land", "women", "I", false)
  | 3 => ("EntailedLand$Land", "people", "I", false)
  | 4 => ("EntailedLand$Land", "living", "I", false)
  | 5 => ("EntailedLand$Land", "holder", "I", false)
  | 6 => ("EntailedLand$Land", "tie", "I", false)
  | 7 => ("EntailedLand$Land", "timber", "I", false)
  | 8 => ("EntailedLand$Land", "loans", "I", false)
  | _ => ("EntailedLand$Land", "time", "I", false)
def tyX6 : Nat → FieldType := fun k => match k with
  | 0 => .array .int
  | 1 => .array .int
  | 2 => .int
  | 3 => .int
  | 4 => .int
  | 5 => .int
  | 6 => .int
  | 7 => .int
  | 8 => .int
  | _ => .int
abbrev wsX60 : List Cond := u_ws RX6 TX6 10
theorem nmX6 : ∀ a, a < 10 → ∀ b, b < 10 → a ≠ b → (TX6 a).2.1 ≠ (TX6 b).2.1 := by decide +kernel
theorem tyX6_ok : ∀ k, k < 10 → parseFieldDescriptor (TX6 k).2.2.1 = some (tyX6 k) := by decide +kernel
abbrev cX6_init : ByteArray := prog_8_method_1_code
def yX6_init : MethodName := ⟨RX6, "<init>", "()V"⟩
abbrev cX6_clear : ByteArray := prog_8_method_2_code
def yX6_clear : MethodName := ⟨RX6, "clear", "()V"⟩
abbrev cX6_copy : ByteArray := prog_8_method_3_code
def yX6_copy : MethodName := ⟨RX6, "copy", "(LEntailedLand$Land;)V"⟩
abbrev cX6_has : ByteArray := prog_8_method_4_code
def yX6_has : MethodName := ⟨RX6, "has", "(I)Z"⟩
abbrev cX6_lives : ByteArray := prog_8_method_5_code
def yX6_lives : MethodName := ⟨RX6, "lives", "(I)Z"⟩
abbrev cX6_isWoman : ByteArray := prog_8_method_6_code
def yX6_isWoman : MethodName := ⟨RX6, "isWoman", "(I)Z"⟩
abbrev cX6_parentOf : ByteArray := prog_8_method_7_code
def yX6_parentOf : MethodName := ⟨RX6, "parentOf", "(I)I"⟩
abbrev cX6_ageOf : ByteArray := prog_8_method_8_code
def yX6_ageOf : MethodName := ⟨RX6, "ageOf", "(I)I"⟩
abbrev cX6_childrenOf : ByteArray := prog_8_method_9_code
def yX6_childrenOf : MethodName := ⟨RX6, "childrenOf", "(I)I"⟩
abbrev cX6_gains : ByteArray := prog_8_method_10_code
def yX6_gains : MethodName := ⟨RX6, "gains", "(IZI)V"⟩
abbrev cX6_loses : ByteArray := prog_8_method_11_code
def yX6_loses : MethodName := ⟨RX6, "loses", "(ILEntailedLand$Kin;)V"⟩
abbrev cX6_grows : ByteArray := prog_8_method_12_code
def yX6_grows : MethodName := ⟨RX6, "grows", "()V"⟩
def RX7 : String := "EntailedLand$Orders"
def TX7 : u_T := fun k => match k with
  | 0 => ("EntailedLand$Orders", "heirs", "[LEntailedLand$Kin;", true)
  | _ => ("EntailedLand$Orders", "ways", "[I", true)
def tyX7 : Nat → FieldType := fun k => match k with
  | 0 => .array (.object "EntailedLand$Kin")
  | _ => .array .int
abbrev wsX70 : List Cond := u_ws RX7 TX7 2
theorem nmX7 : ∀ a, a < 2 → ∀ b, b < 2 → a ≠ b → (TX7 a).2.1 ≠ (TX7 b).2.1 := by decide +kernel
theorem tyX7_ok : ∀ k, k < 2 → parseFieldDescriptor (TX7 k).2.2.1 = some (tyX7 k) := by decide +kernel
abbrev cX7_init : ByteArray := prog_9_method_1_code
def yX7_init : MethodName := ⟨RX7, "<init>", "()V"⟩
abbrev cX7_ofSoMany : ByteArray := prog_9_method_2_code
def yX7_ofSoMany : MethodName := ⟨RX7, "ofSoMany", "(I)I"⟩
abbrev cX7_inWhichHolds : ByteArray := prog_9_method_3_code
def yX7_inWhichHolds : MethodName := ⟨RX7, "inWhichHolds", "(LEntailedLand$Land;I)I"⟩
abbrev cX7_begin : ByteArray := prog_9_method_4_code
def yX7_begin : MethodName := ⟨RX7, "begin", "(LEntailedLand$Land;)V"⟩
abbrev cX7_goOn : ByteArray := prog_9_method_5_code
def yX7_goOn : MethodName := ⟨RX7, "goOn", "(IIII)V"⟩
abbrev cX7_add : ByteArray := prog_9_method_6_code
def yX7_add : MethodName := ⟨RX7, "add", "(III)V"⟩
def RX8 : String := "EntailedLand$Told"
def TX8 : u_T := fun k => match k with
  | 0 => ("EntailedLand$Told", "bytes", "[I", true)
  | _ => ("EntailedLand$Told", "length", "I", false)
def tyX8 : Nat → FieldType := fun k => match k with
  | 0 => .array .int
  | _ => .int
abbrev wsX80 : List Cond := u_ws RX8 TX8 2
theorem nmX8 : ∀ a, a < 2 → ∀ b, b < 2 → a ≠ b → (TX8 a).2.1 ≠ (TX8 b).2.1 := by decide +kernel
theorem tyX8_ok : ∀ k, k < 2 → parseFieldDescriptor (TX8 k).2.2.1 = some (tyX8 k) := by decide +kernel
abbrev cX8_init : ByteArray := prog_10_method_1_code
def yX8_init : MethodName := ⟨RX8, "<init>", "()V"⟩
abbrev cX8_add : ByteArray := prog_10_method_2_code
def yX8_add : MethodName := ⟨RX8, "add", "(I)Z"⟩
abbrev cX8_firstFault : ByteArray := prog_10_method_3_code
def yX8_firstFault : MethodName := ⟨RX8, "firstFault", "()I"⟩
abbrev cX8_mayStand : ByteArray := prog_10_method_4_code
def yX8_mayStand : MethodName := ⟨RX8, "mayStand", "(II)Z"⟩
abbrev cX8_isFigure : ByteArray := prog_10_method_5_code
def yX8_isFigure : MethodName := ⟨RX8, "isFigure", "(II)Z"⟩
abbrev cX8_figureAt : ByteArray := prog_10_method_6_code
def yX8_figureAt : MethodName := ⟨RX8, "figureAt", "(I)I"⟩
abbrev cX8_makeAnew : ByteArray := prog_10_method_7_code
def yX8_makeAnew : MethodName := ⟨RX8, "makeAnew", "(LEntailedLand$Land;)V"⟩
def RX9 : String := "EntailedLand"
def TX9 : u_T := fun k => match k with
  | 0 => ("EntailedLand", "told", "LEntailedLand$Told;", true)
  | 1 => ("EntailedLand", "now", "LEntailedLand$Land;", true)
  | 2 => ("EntailedLand", "trial", "LEntailedLand$Land;", true)
  | 3 => ("EntailedLand", "acts", "LEntailedLand$Acts;", true)
  | 4 => ("EntailedLand", "kept", "[LEntailedLand$Land;", true)
  | 5 => ("EntailedLand", "isKept", "[Z", true)
  | 6 => ("EntailedLand", "kin", "LEntailedLand$Kin;", true)
  | 7 => ("EntailedLand", "felling", "LEntailedLand$Felling;", true)
  | 8 => ("EntailedLand", "deathsTold", "LEntailedLand$Deaths;", true)
  | 9 => ("EntailedLand", "orders", "LEntailedLand$Orders;", true)
  | _ => ("EntailedLand", "seedNow", "J", false)
def tyX9 : Nat → FieldType := fun k => match k with
  | 0 => .object "EntailedLand$Told"
  | 1 => .object "EntailedLand$Land"
  | 2 => .object "EntailedLand$Land"
  | 3 => .object "EntailedLand$Acts"
  | 4 => .array (.object "EntailedLand$Land")
  | 5 => .array .boolean
  | 6 => .object "EntailedLand$Kin"
  | 7 => .object "EntailedLand$Felling"
  | 8 => .object "EntailedLand$Deaths"
  | 9 => .object "EntailedLand$Orders"
  | _ => .long
abbrev wsX90 : List Cond := u_ws RX9 TX9 11
theorem nmX9 : ∀ a, a < 11 → ∀ b, b < 11 → a ≠ b → (TX9 a).2.1 ≠ (TX9 b).2.1 := by decide +kernel
theorem tyX9_ok : ∀ k, k < 11 → parseFieldDescriptor (TX9 k).2.2.1 = some (tyX9 k) := by decide +kernel
abbrev cX9_init : ByteArray := prog_1_method_1_code
def yX9_init : MethodName := ⟨RX9, "<init>", "()V"⟩
abbrev cX9_write : ByteArray := prog_1_method_2_code
def yX9_write : MethodName := ⟨RX9, "write", "(I)I"⟩
abbrev cX9_wipe : ByteArray := prog_1_method_3_code
def yX9_wipe : MethodName := ⟨RX9, "wipe", "()I"⟩
abbrev cX9_fault : ByteArray := prog_1_method_4_code
def yX9_fault : MethodName := ⟨RX9, "fault", "()I"⟩
abbrev cX9_land : ByteArray := prog_1_method_5_code
def yX9_land : MethodName := ⟨RX9, "land", "()I"⟩
abbrev cX9_about : ByteArray := prog_1_method_6_code
def yX9_about : MethodName := ⟨RX9, "about", "(I)I"⟩
abbrev cX9_person : ByteArray := prog_1_method_7_code
def yX9_person : MethodName := ⟨RX9, "person", "(II)I"⟩
abbrev cX9_die : ByteArray := prog_1_method_8_code
def yX9_die : MethodName := ⟨RX9, "die", "(I)I"⟩
abbrev cX9_bear : ByteArray := prog_1_method_9_code
def yX9_bear : MethodName := ⟨RX9, "bear", "(II)I"⟩
abbrev cX9_cut : ByteArray := prog_1_method_10_code
def yX9_cut : MethodName := ⟨RX9, "cut", "(I)I"⟩
abbrev cX9_borrow : ByteArray := prog_1_method_11_code
def yX9_borrow : MethodName := ⟨RX9, "borrow", "(I)I"⟩
abbrev cX9_breakTie : ByteArray := prog_1_method_12_code
def yX9_breakTie : MethodName := ⟨RX9, "breakTie", "(I)I"⟩
abbrev cX9_tens : ByteArray := prog_1_method_13_code
def yX9_tens : MethodName := ⟨RX9, "tens", "()I"⟩
abbrev cX9_undo : ByteArray := prog_1_method_14_code
def yX9_undo : MethodName := ⟨RX9, "undo", "()I"⟩
abbrev cX9_heir : ByteArray := prog_1_method_15_code
def yX9_heir : MethodName := ⟨RX9, "heir", "(II)I"⟩
abbrev cX9_line : ByteArray := prog_1_method_16_code
def yX9_line : MethodName := ⟨RX9, "line", "(III)I"⟩
abbrev cX9_next : ByteArray := prog_1_method_17_code
def yX9_next : MethodName := ⟨RX9, "next", "(I)I"⟩
abbrev cX9_ever : ByteArray := prog_1_method_18_code
def yX9_ever : MethodName := ⟨RX9, "ever", "(I)I"⟩
abbrev cX9_best : ByteArray := prog_1_method_19_code
def yX9_best : MethodName := ⟨RX9, "best", "(IZZ)I"⟩
abbrev cX9_ties : ByteArray := prog_1_method_20_code
def yX9_ties : MethodName := ⟨RX9, "ties", "(III)I"⟩
abbrev cX9_rests : ByteArray := prog_1_method_21_code
def yX9_rests : MethodName := ⟨RX9, "rests", "(II)I"⟩
abbrev cX9_odds : ByteArray := prog_1_method_22_code
def yX9_odds : MethodName := ⟨RX9, "odds", "(IZ)I"⟩
abbrev cX9_lender : ByteArray := prog_1_method_23_code
def yX9_lender : MethodName := ⟨RX9, "lender", "(IIZ)I"⟩
abbrev cX9_seed : ByteArray := prog_1_method_24_code
def yX9_seed : MethodName := ⟨RX9, "seed", "(J)J"⟩
abbrev cX9_families : ByteArray := prog_1_method_25_code
def yX9_families : MethodName := ⟨RX9, "families", "(I)I"⟩
abbrev cX9_keep : ByteArray := prog_1_method_26_code
def yX9_keep : MethodName := ⟨RX9, "keep", "(I)I"⟩
abbrev cX9_again : ByteArray := prog_1_method_27_code
def yX9_again : MethodName := ⟨RX9, "again", "(I)I"⟩
abbrev cX9_isTie : ByteArray := prog_1_method_28_code
def yX9_isTie : MethodName := ⟨RX9, "isTie", "(I)Z"⟩
abbrev cX9_isSlot : ByteArray := prog_1_method_29_code
def yX9_isSlot : MethodName := ⟨RX9, "isSlot", "(I)Z"⟩
abbrev cX9_hasChildOfAgeAsHeir : ByteArray := prog_1_method_30_code
def yX9_hasChildOfAgeAsHeir : MethodName := ⟨RX9, "hasChildOfAgeAsHeir", "()Z"⟩
def RX10 : String := "EntailedLandModel"
def TX10 : u_T := fun k => match k with
  | 0 => ("EntailedLandModel", "thrown", "I", false)
  | 1 => ("EntailedLandModel", "text", "[I", true)
  | 2 => ("EntailedLandModel", "textSize", "I", false)
  | 3 => ("EntailedLandModel", "place", "I", false)
  | 4 => ("EntailedLandModel", "readTie", "I", false)
  | 5 => ("EntailedLandModel", "readTimber", "I", false)
  | 6 => ("EntailedLandModel", "readPeople", "I", false)
  | 7 => ("EntailedLandModel", "readPerson", "[I", true)
  | 8 => ("EntailedLandModel", "page", "[I", true)
  | 9 => ("EntailedLandModel", "trial", "[I", true)
  | 10 => ("EntailedLandModel", "book", "[I", true)
  | 11 => ("EntailedLandModel", "acts", "I", false)
  | 12 => ("EntailedLandModel", "kept", "[I", true)
  | 13 => ("EntailedLandModel", "isKept", "[Z", true)
  | 14 => ("EntailedLandModel", "seed", "J", false)
  | 15 => ("EntailedLandModel", "row", "[I", true)
  | 16 => ("EntailedLandModel", "rowSize", "I", false)
  | 17 => ("EntailedLandModel", "open", "[I", true)
  | 18 => ("EntailedLandModel", "bestMost", "I", false)
  | 19 => ("EntailedLandModel", "bestRow", "I", false)
  | 20 => ("EntailedLandModel", "restMany", "I", false)
  | 21 => ("EntailedLandModel", "restFirst", "I", false)
  | _ => ("EntailedLandModel", "ways", "[I", true)
def tyX10 : Nat → FieldType := fun k => match k with
  | 0 => .int
  | 1 => .array .int
  | 2 => .int
  | 3 => .int
  | 4 => .int
  | 5 => .int
  | 6 => .int
  | 7 => .array .int
  | 8 => .array .int
  | 9 => .array .int
  | 10 => .array .int
  | 11 => .int
  | 12 => .array .int
  | 13 => .array .boolean
  | 14 => .long
  | 15 => .array .int
  | 16 => .int
  | 17 => .array .int
  | 18 => .int
  | 19 => .int
  | 20 => .int
  | 21 => .int
  | _ => .array .int
abbrev wsX100 : List Cond := u_ws RX10 TX10 23
theorem nmX10 : ∀ a, a < 23 → ∀ b, b < 23 → a ≠ b → (TX10 a).2.1 ≠ (TX10 b).2.1 := by decide +kernel
theorem tyX10_ok : ∀ k, k < 23 → parseFieldDescriptor (TX10 k).2.2.1 = some (tyX10 k) := by decide +kernel
abbrev cX10_init : ByteArray := prog_12_method_1_code
def yX10_init : MethodName := ⟨RX10, "<init>", "()V"⟩
abbrev cX10_in : ByteArray := prog_12_method_3_code
def yX10_in : MethodName := ⟨RX10, "in", "(JJJ)Z"⟩
abbrev cX10_has : ByteArray := prog_12_method_4_code
def yX10_has : MethodName := ⟨RX10, "has", "(II)Z"⟩
abbrev cX10_noPerson : ByteArray := prog_12_method_5_code
def yX10_noPerson : MethodName := ⟨RX10, "noPerson", "(I)Z"⟩
abbrev cX10_noTie : ByteArray := prog_12_method_6_code
def yX10_noTie : MethodName := ⟨RX10, "noTie", "(I)Z"⟩
abbrev cX10_write : ByteArray := prog_12_method_7_code
def yX10_write : MethodName := ⟨RX10, "write", "(I)I"⟩
abbrev cX10_wipe : ByteArray := prog_12_method_8_code
def yX10_wipe : MethodName := ⟨RX10, "wipe", "()I"⟩
abbrev cX10_figure : ByteArray := prog_12_method_9_code
def yX10_figure : MethodName := ⟨RX10, "figure", "(II)I"⟩
abbrev cX10_readPerson : ByteArray := prog_12_method_10_code
def yX10_readPerson : MethodName := ⟨RX10, "readPerson", "()Z"⟩
abbrev cX10_readLand : ByteArray := prog_12_method_11_code
def yX10_readLand : MethodName := ⟨RX10, "readLand", "()I"⟩
abbrev cX10_fault : ByteArray := prog_12_method_12_code
def yX10_fault : MethodName := ⟨RX10, "fault", "()I"⟩
abbrev cX10_land : ByteArray := prog_12_method_13_code
def yX10_land : MethodName := ⟨RX10, "land", "()I"⟩
abbrev cX10_isAhead : ByteArray := prog_12_method_14_code
def yX10_isAhead : MethodName := ⟨RX10, "isAhead", "([IIII)Z"⟩
abbrev cX10_childrenOf : ByteArray := prog_12_method_15_code
def yX10_childrenOf : MethodName := ⟨RX10, "childrenOf", "([II)I"⟩
abbrev cX10_layLine : ByteArray := prog_12_method_16_code
def yX10_layLine : MethodName := ⟨RX10, "layLine", "([III)V"⟩
abbrev cX10_firstOf : ByteArray := prog_12_method_17_code
def yX10_firstOf : MethodName := ⟨RX10, "firstOf", "(II)I"⟩
abbrev cX10_heirOf : ByteArray := prog_12_method_18_code
def yX10_heirOf : MethodName := ⟨RX10, "heirOf", "([III)I"⟩
abbrev cX10_about : ByteArray := prog_12_method_19_code
def yX10_about : MethodName := ⟨RX10, "about", "(I)I"⟩
abbrev cX10_person : ByteArray := prog_12_method_20_code
def yX10_person : MethodName := ⟨RX10, "person", "(II)I"⟩
abbrev cX10_note : ByteArray := prog_12_method_21_code
def yX10_note : MethodName := ⟨RX10, "note", "()V"⟩
abbrev cX10_goDie : ByteArray := prog_12_method_22_code
def yX10_goDie : MethodName := ⟨RX10, "goDie", "([II)V"⟩
abbrev cX10_die : ByteArray := prog_12_method_23_code
def yX10_die : MethodName := ⟨RX10, "die", "(I)I"⟩
abbrev cX10_bear : ByteArray := prog_12_method_24_code
def yX10_bear : MethodName := ⟨RX10, "bear", "(II)I"⟩
abbrev cX10_cut : ByteArray := prog_12_method_25_code
def yX10_cut : MethodName := ⟨RX10, "cut", "(I)I"⟩
abbrev cX10_borrow : ByteArray := prog_12_method_26_code
def yX10_borrow : MethodName := ⟨RX10, "borrow", "(I)I"⟩
abbrev cX10_isOfAge : ByteArray := prog_12_method_27_code
def yX10_isOfAge : MethodName := ⟨RX10, "isOfAge", "()Z"⟩
abbrev cX10_breakTie : ByteArray := prog_12_method_28_code
def yX10_breakTie : MethodName := ⟨RX10, "breakTie", "(I)I"⟩
abbrev cX10_tens : ByteArray := prog_12_method_29_code
def yX10_tens : MethodName := ⟨RX10, "tens", "()I"⟩
abbrev cX10_undo : ByteArray := prog_12_method_30_code
def yX10_undo : MethodName := ⟨RX10, "undo", "()I"⟩
abbrev cX10_begin : ByteArray := prog_12_method_31_code
def yX10_begin : MethodName := ⟨RX10, "begin", "()V"⟩
abbrev cX10_heir : ByteArray := prog_12_method_32_code
def yX10_heir : MethodName := ⟨RX10, "heir", "(II)I"⟩
abbrev cX10_line : ByteArray := prog_12_method_33_code
def yX10_line : MethodName := ⟨RX10, "line", "(III)I"⟩
abbrev cX10_next : ByteArray := prog_12_method_34_code
def yX10_next : MethodName := ⟨RX10, "next", "(I)I"⟩
abbrev cX10_ever : ByteArray := prog_12_method_35_code
def yX10_ever : MethodName := ⟨RX10, "ever", "(I)I"⟩
abbrev cX10_power : ByteArray := prog_12_method_36_code
def yX10_power : MethodName := ⟨RX10, "power", "(II)I"⟩
abbrev cX10_findBest : ByteArray := prog_12_method_37_code
def yX10_findBest : MethodName := ⟨RX10, "findBest", "(IZ)V"⟩
abbrev cX10_best : ByteArray := prog_12_method_38_code
def yX10_best : MethodName := ⟨RX10, "best", "(IZZ)I"⟩
abbrev cX10_noDeaths : ByteArray := prog_12_method_39_code
def yX10_noDeaths : MethodName := ⟨RX10, "noDeaths", "(II)Z"⟩
abbrev cX10_ties : ByteArray := prog_12_method_40_code
def yX10_ties : MethodName := ⟨RX10, "ties", "(III)I"⟩
abbrev cX10_gainOf : ByteArray := prog_12_method_41_code
def yX10_gainOf : MethodName := ⟨RX10, "gainOf", "(IIIZ)I"⟩
abbrev cX10_findRests : ByteArray := prog_12_method_42_code
def yX10_findRests : MethodName := ⟨RX10, "findRests", "(I)V"⟩
abbrev cX10_rests : ByteArray := prog_12_method_43_code
def yX10_rests : MethodName := ⟨RX10, "rests", "(II)I"⟩
abbrev cX10_divisor : ByteArray := prog_12_method_44_code
def yX10_divisor : MethodName := ⟨RX10, "divisor", "(II)I"⟩
abbrev cX10_fraction : ByteArray := prog_12_method_45_code
def yX10_fraction : MethodName := ⟨RX10, "fraction", "(IIZ)I"⟩
abbrev cX10_goOn : ByteArray := prog_12_method_46_code
def yX10_goOn : MethodName := ⟨RX10, "goOn", "(IIIZI)V"⟩
abbrev cX10_odds : ByteArray := prog_12_method_47_code
def yX10_odds : MethodName := ⟨RX10, "odds", "(IZ)I"⟩
abbrev cX10_lender : ByteArray := prog_12_method_48_code
def yX10_lender : MethodName := ⟨RX10, "lender", "(IIZ)I"⟩
abbrev cX10_seed : ByteArray := prog_12_method_49_code
def yX10_seed : MethodName := ⟨RX10, "seed", "(J)J"⟩
abbrev cX10_families : ByteArray := prog_12_method_50_code
def yX10_families : MethodName := ⟨RX10, "families", "(I)I"⟩
abbrev cX10_keep : ByteArray := prog_12_method_51_code
def yX10_keep : MethodName := ⟨RX10, "keep", "(I)I"⟩
abbrev cX10_again : ByteArray := prog_12_method_52_code
def yX10_again : MethodName := ⟨RX10, "again", "(I)I"⟩
def RJ6 : String := "java/lang/Integer"
def TJ6 : u_T := fun k => match k with
  | _ => ("", "", "", false)
def tyJ6 : Nat → FieldType := fun k => match k with
  | _ => .int
abbrev wsJ60 : List Cond := u_ws RJ6 TJ6 0
theorem nmJ6 : ∀ a, a < 0 → ∀ b, b < 0 → a ≠ b → (TJ6 a).2.1 ≠ (TJ6 b).2.1 := by decide +kernel
theorem tyJ6_ok : ∀ k, k < 0 → parseFieldDescriptor (TJ6 k).2.2.1 = some (tyJ6 k) := by decide +kernel
abbrev cJ6_bitCount_0f7a4 : ByteArray := prog_13_method_49_code
def yJ6_bitCount_0f7a4 : MethodName := ⟨RJ6, "bitCount", "(I)I"⟩
def RJ9 : String := "java/lang/Math"
def TJ9 : u_T := fun k => match k with
  | _ => ("", "", "", false)
def tyJ9 : Nat → FieldType := fun k => match k with
  | _ => .int
abbrev wsJ90 : List Cond := u_ws RJ9 TJ9 0
theorem nmJ9 : ∀ a, a < 0 → ∀ b, b < 0 → a ≠ b → (TJ9 a).2.1 ≠ (TJ9 b).2.1 := by decide +kernel
theorem tyJ9_ok : ∀ k, k < 0 → parseFieldDescriptor (TJ9 k).2.2.1 = some (tyJ9 k) := by decide +kernel
abbrev cJ9_max_7cf53 : ByteArray := prog_14_method_65_code
def yJ9_max_7cf53 : MethodName := ⟨RJ9, "max", "(II)I"⟩
abbrev cJ9_min_7cf53 : ByteArray := prog_14_method_69_code
def yJ9_min_7cf53 : MethodName := ⟨RJ9, "min", "(II)I"⟩
def RJ10 : String := "java/lang/System"
def TJ10 : u_T := fun k => match k with
  | _ => ("", "", "", false)
def tyJ10 : Nat → FieldType := fun k => match k with
  | _ => .int
abbrev wsJ100 : List Cond := u_ws RJ10 TJ10 0
theorem nmJ10 : ∀ a, a < 0 → ∀ b, b < 0 → a ≠ b → (TJ10 a).2.1 ≠ (TJ10 b).2.1 := by decide +kernel
theorem tyJ10_ok : ∀ k, k < 0 → parseFieldDescriptor (TJ10 k).2.2.1 = some (tyJ10 k) := by decide +kernel
def RJ7 : String := "java/util/Arrays"
def TJ7 : u_T := fun k => match k with
  | _ => ("", "", "", false)
def tyJ7 : Nat → FieldType := fun k => match k with
  | _ => .int
abbrev wsJ70 : List Cond := u_ws RJ7 TJ7 0
theorem nmJ7 : ∀ a, a < 0 → ∀ b, b < 0 → a ≠ b → (TJ7 a).2.1 ≠ (TJ7 b).2.1 := by decide +kernel
theorem tyJ7_ok : ∀ k, k < 0 → parseFieldDescriptor (TJ7 k).2.2.1 = some (tyJ7 k) := by decide +kernel
abbrev cJ7_fill_53178 : ByteArray := prog_16_method_103_code
def yJ7_fill_53178 : MethodName := ⟨RJ7, "fill", "([II)V"⟩
def RL : String := "EntailedLandLaw"
abbrev cL_law : ByteArray := code
def yL_law : MethodName := ⟨RL, "law", "([I)Z"⟩
abbrev vwCl : List vw_C := [(RX0, TX0, 3), (RX2, TX2, 2), (RX3, TX3, 1), (RX5, TX5, 3), (RX6, TX6, 10), (RX7, TX7, 2), (RX8, TX8, 2), (RX9, TX9, 11), (RX10, TX10, 23)]
end
section
theorem dX0_init_0 : decode cX0_init 0 = .ok (.aload_n 0, 1) := by decide +kernel
theorem dX0_init_1 : decode cX0_init 1 = .ok (.invokespecial 3, 3) := by decide +kernel
theorem dX0_init_4 : decode cX0_init 4 = .ok (.aload_n 0, 1) := by decide +kernel
theorem dX0_init_5 : decode cX0_init 5 = .ok (.bipush 14, 2) := by decide +kernel
theorem dX0_init_7 : decode cX0_init 7 = .ok (.anewarray 9, 3) := by decide +kernel
theorem dX0_init_10 : decode cX0_init 10 = .ok (.putfield 11, 3) := by decide +kernel
theorem dX0_init_13 : decode cX0_init 13 = .ok (.iconst 0, 1) := by decide +kernel
theorem dX0_init_14 : decode cX0_init 14 = .ok (.istore_n 1, 1) := by decide +kernel
theorem dX0_init_15 : decode cX0_init 15 = .ok (.iload_n 1, 1) := by decide +kernel
theorem dX0_init_16 : decode cX0_init 16 = .ok (.bipush 14, 2) := by decide +kernel
theorem dX0_init_18 : decode cX0_init 18 = .ok (.if_icmp .ge 22, 3) := by decide +kernel
theorem dX0_init_21 : decode cX0_init 21 = .ok (.aload_n 0, 1) := by decide +kernel
theorem dX0_init_22 : decode cX0_init 22 = .ok (.getfield 11, 3) := by decide +kernel
theorem dX0_init_25 : decode cX0_init 25 = .ok (.iload_n 1, 1) := by decide +kernel
theorem dX0_init_26 : decode cX0_init 26 = .ok (.new 9, 3) := by decide +kernel
theorem dX0_init_29 : decode cX0_init 29 = .ok (.dup, 1) := by decide +kernel
theorem dX0_init_30 : decode cX0_init 30 = .ok (.invokespecial 17, 3) := by decide +kernel
theorem dX0_init_33 : decode cX0_init 33 = .ok (.aastore, 1) := by decide +kernel
theorem dX0_init_34 : decode cX0_init 34 = .ok (.iinc 1 1, 3) := by decide +kernel
theorem dX0_init_37 : decode cX0_init 37 = .ok (.goto (-22), 3) := by decide +kernel
theorem dX0_init_40 : decode cX0_init 40 = .ok (.return_, 1) := by decide +kernel
theorem dX0_remember_0 : decode cX0_remember 0 = .ok (.aload_n 0, 1) := by decide +kernel
theorem dX0_remember_1 : decode cX0_remember 1 = .ok (.getfield 18, 3) := by decide +kernel
theorem dX0_remember_4 : decode cX0_remember 4 = .ok (.bipush 14, 2) := by decide +kernel
theorem dX0_remember_6 : decode cX0_remember 6 = .ok (.if_icmp .ne 26, 3) := by decide +kernel
theorem dX0_remember_9 : decode cX0_remember 9 = .ok (.aload_n 0, 1) := by decide +kernel
theorem dX0_remember_10 : decode cX0_remember 10 = .ok (.aload_n 0, 1) := by decide +kernel
theorem dX0_remember_11 : decode cX0_remember 11 = .ok (.getfield 22, 3) := by decide +kernel
theorem dX0_remember_14 : decode cX0_remember 14 = .ok (.iconst 1, 1) := by decide +kernel
theorem dX0_remember_15 : decode cX0_remember 15 = .ok (.iadd, 1) := by decide +kernel
theorem dX0_remember_16 : decode cX0_remember 16 = .ok (.bipush 14, 2) := by decide +kernel
theorem dX0_remember_18 : decode cX0_remember 18 = .ok (.irem, 1) := by decide +kernel
theorem dX0_remember_19 : decode cX0_remember 19 = .ok (.putfield 22, 3) := by decide +kernel
theorem dX0_remember_22 : decode cX0_remember 22 = .ok (.aload_n 0, 1) := by decide +kernel
theorem dX0_remember_23 : decode cX0_remember 23 = .ok (.dup, 1) := by decide +kernel
theorem dX0_remember_24 : decode cX0_remember 24 = .ok (.getfield 18, 3) := by decide +kernel
theorem dX0_remember_27 : decode cX0_remember 27 = .ok (.iconst 1, 1) := by decide +kernel
theorem dX0_remember_28 : decode cX0_remember 28 = .ok (.isub, 1) := by decide +kernel
theorem dX0_remember_29 : decode cX0_remember 29 = .ok (.putfield 18, 3) := by decide +kernel
theorem dX0_remember_32 : decode cX0_remember 32 = .ok (.aload_n 0, 1) := by decide +kernel
theorem dX0_remember_33 : decode cX0_remember 33 = .ok (.getfield 11, 3) := by decide +kernel
theorem dX0_remember_36 : decode cX0_remember 36 = .ok (.aload_n 0, 1) := by decide +kernel
theorem dX0_remember_37 : decode cX0_remember 37 = .ok (.getfield 22, 3) := by decide +kernel
theorem dX0_remember_40 : decode cX0_remember 40 = .ok (.aload_n 0, 1) := by decide +kernel
theorem dX0_remember_41 : decode cX0_remember 41 = .ok (.getfield 18, 3) := by decide +kernel
theorem dX0_remember_44 : decode cX0_remember 44 = .ok (.iadd, 1) := by decide +kernel
theorem dX0_remember_45 : decode cX0_remember 45 = .ok (.bipush 14, 2) := by decide +kernel
theorem dX0_remember_47 : decode cX0_remember 47 = .ok (.irem, 1) := by decide +kernel
theorem dX0_remember_48 : decode cX0_remember 48 = .ok (.aaload, 1) := by decide +kernel
theorem dX0_remember_49 : decode cX0_remember 49 = .ok (.aload_n 1, 1) := by decide +kernel
theorem dX0_remember_50 : decode cX0_remember 50 = .ok (.invokevirtual 25, 3) := by decide +kernel
theorem dX0_remember_53 : decode cX0_remember 53 = .ok (.aload_n 0, 1) := by decide +kernel
theorem dX0_remember_54 : decode cX0_remember 54 = .ok (.dup, 1) := by decide +kernel
theorem dX0_remember_55 : decode cX0_remember 55 = .ok (.getfield 18, 3) := by decide +kernel
theorem dX0_remember_58 : decode cX0_remember 58 = .ok (.iconst 1, 1) := by decide +kernel
theorem dX0_remember_59 : decode cX0_remember 59 = .ok (.iadd, 1) := by decide +kernel
theorem dX0_remember_60 : decode cX0_remember 60 = .ok (.putfield 18, 3) := by decide +kernel
theorem dX0_remember_63 : decode cX0_remember 63 = .ok (.return_, 1) := by decide +kernel
theorem dX0_takeBack_0 : decode cX0_takeBack 0 = .ok (.aload_n 0, 1) := by decide +kernel
theorem dX0_takeBack_1 : decode cX0_takeBack 1 = .ok (.getfield 18, 3) := by decide +kernel
theorem dX0_takeBack_4 : decode cX0_takeBack 4 = .ok (.ifCond .gt 5, 3) := by decide +kernel
theorem dX0_takeBack_7 : decode cX0_takeBack 7 = .ok (.iconst 0, 1) := by decide +kernel
theorem dX0_takeBack_8 : decode cX0_takeBack 8 = .ok (.ireturn, 1) := by decide +kernel
theorem dX0_takeBack_9 : decode cX0_takeBack 9 = .ok (.aload_n 0, 1) := by decide +kernel
theorem dX0_takeBack_10 : decode cX0_takeBack 10 = .ok (.dup, 1) := by decide +kernel
theorem dX0_takeBack_11 : decode cX0_takeBack 11 = .ok (.getfield 18, 3) := by decide +kernel
theorem dX0_takeBack_14 : decode cX0_takeBack 14 = .ok (.iconst 1, 1) := by decide +kernel
theorem dX0_takeBack_15 : decode cX0_takeBack 15 = .ok (.isub, 1) := by decide +kernel
theorem dX0_takeBack_16 : decode cX0_takeBack 16 = .ok (.putfield 18, 3) := by decide +kernel
theorem dX0_takeBack_19 : decode cX0_takeBack 19 = .ok (.aload_n 1, 1) := by decide +kernel
theorem dX0_takeBack_20 : decode cX0_takeBack 20 = .ok (.aload_n 0, 1) := by decide +kernel
theorem dX0_takeBack_21 : decode cX0_takeBack 21 = .ok (.getfield 11, 3) := by decide +kernel
theorem dX0_takeBack_24 : decode cX0_takeBack 24 = .ok (.aload_n 0, 1) := by decide +kernel
theorem dX0_takeBack_25 : decode cX0_takeBack 25 = .ok (.getfield 22, 3) := by decide +kernel
theorem dX0_takeBack_28 : decode cX0_takeBack 28 = .ok (.aload_n 0, 1) := by decide +kernel
theorem dX0_takeBack_29 : decode cX0_takeBack 29 = .ok (.getfield 18, 3) := by decide +kernel
theorem dX0_takeBack_32 : decode cX0_takeBack 32 = .ok (.iadd, 1) := by decide +kernel
theorem dX0_takeBack_33 : decode cX0_takeBack 33 = .ok (.bipush 14, 2) := by decide +kernel
theorem dX0_takeBack_35 : decode cX0_takeBack 35 = .ok (.irem, 1) := by decide +kernel
theorem dX0_takeBack_36 : decode cX0_takeBack 36 = .ok (.aaload, 1) := by decide +kernel
theorem dX0_takeBack_37 : decode cX0_takeBack 37 = .ok (.invokevirtual 25, 3) := by decide +kernel
theorem dX0_takeBack_40 : decode cX0_takeBack 40 = .ok (.iconst 1, 1) := by decide +kernel
theorem dX0_takeBack_41 : decode cX0_takeBack 41 = .ok (.ireturn, 1) := by decide +kernel
theorem dX0_forgetAll_0 : decode cX0_forgetAll 0 = .ok (.aload_n 0, 1) := by decide +kernel
theorem dX0_forgetAll_1 : decode cX0_forgetAll 1 = .ok (.iconst 0, 1) := by decide +kernel
theorem dX0_forgetAll_2 : decode cX0_forgetAll 2 = .ok (.putfield 22, 3) := by decide +kernel
theorem dX0_forgetAll_5 : decode cX0_forgetAll 5 = .ok (.aload_n 0, 1) := by decide +kernel
theorem dX0_forgetAll_6 : decode cX0_forgetAll 6 = .ok (.iconst 0, 1) := by decide +kernel
theorem dX0_forgetAll_7 : decode cX0_forgetAll 7 = .ok (.putfield 18, 3) := by decide +kernel
theorem dX0_forgetAll_10 : decode cX0_forgetAll 10 = .ok (.return_, 1) := by decide +kernel
theorem dX1_countRests_0 : decode cX1_countRests 0 = .ok (.iconst 0, 1) := by decide +kernel
theorem dX1_countRests_1 : decode cX1_countRests 1 = .ok (.istore_n 1, 1) := by decide +kernel
theorem dX1_countRests_2 : decode cX1_countRests 2 = .ok (.iconst 0, 1) := by decide +kernel
theorem dX1_countRests_3 : decode cX1_countRests 3 = .ok (.istore_n 2, 1) := by decide +kernel
theorem dX1_countRests_4 : decode cX1_countRests 4 = .ok (.iload_n 2, 1) := by decide +kernel
theorem dX1_countRests_5 : decode cX1_countRests 5 = .ok (.iconst 5, 1) := by decide +kernel
theorem dX1_countRests_6 : decode cX1_countRests 6 = .ok (.if_icmp .ge 34, 3) := by decide +kernel
theorem dX1_countRests_9 : decode cX1_countRests 9 = .ok (.iconst 0, 1) := by decide +kernel
theorem dX1_countRests_10 : decode cX1_countRests 10 = .ok (.istore_n 3, 1) := by decide +kernel
theorem dX1_countRests_11 : decode cX1_countRests 11 = .ok (.iload_n 3, 1) := by decide +kernel
theorem dX1_countRests_12 : decode cX1_countRests 12 = .ok (.iconst 5, 1) := by decide +kernel
theorem dX1_countRests_13 : decode cX1_countRests 13 = .ok (.if_icmp .ge 21, 3) := by decide +kernel
theorem dX1_countRests_16 : decode cX1_countRests 16 = .ok (.iload_n 2, 1) := by decide +kernel
theorem dX1_countRests_17 : decode cX1_countRests 17 = .ok (.iload_n 3, 1) := by decide +kernel
theorem dX1_countRests_18 : decode cX1_countRests 18 = .ok (.iload_n 0, 1) := by decide +kernel
theorem dX1_countRests_19 : decode cX1_countRests 19 = .ok (.invokestatic 11, 3) := by decide +kernel
theorem dX1_countRests_22 : decode cX1_countRests 22 = .ok (.ifCond .eq 6, 3) := by decide +kernel
theorem dX1_countRests_25 : decode cX1_countRests 25 = .ok (.iinc 1 1, 3) := by decide +kernel
theorem dX1_countRests_28 : decode cX1_countRests 28 = .ok (.iinc 3 1, 3) := by decide +kernel
theorem dX1_countRests_31 : decode cX1_countRests 31 = .ok (.goto (-20), 3) := by decide +kernel
theorem dX1_countRests_34 : decode cX1_countRests 34 = .ok (.iinc 2 1, 3) := by decide +kernel
theorem dX1_countRests_37 : decode cX1_countRests 37 = .ok (.goto (-33), 3) := by decide +kernel
theorem dX1_countRests_40 : decode cX1_countRests 40 = .ok (.iload_n 1, 1) := by decide +kernel
theorem dX1_countRests_41 : decode cX1_countRests 41 = .ok (.ireturn, 1) := by decide +kernel
theorem dX1_firstRest_0 : decode cX1_firstRest 0 = .ok (.iconst 0, 1) := by decide +kernel
theorem dX1_firstRest_1 : decode cX1_firstRest 1 = .ok (.istore_n 1, 1) := by decide +kernel
theorem dX1_firstRest_2 : decode cX1_firstRest 2 = .ok (.iload_n 1, 1) := by decide +kernel
theorem dX1_firstRest_3 : decode cX1_firstRest 3 = .ok (.iconst 5, 1) := by decide +kernel
theorem dX1_firstRest_4 : decode cX1_firstRest 4 = .ok (.if_icmp .ge 38, 3) := by decide +kernel
theorem dX1_firstRest_7 : decode cX1_firstRest 7 = .ok (.iconst 0, 1) := by decide +kernel
theorem dX1_firstRest_8 : decode cX1_firstRest 8 = .ok (.istore_n 2, 1) := by decide +kernel
theorem dX1_firstRest_9 : decode cX1_firstRest 9 = .ok (.iload_n 2, 1) := by decide +kernel
theorem dX1_firstRest_10 : decode cX1_firstRest 10 = .ok (.iconst 5, 1) := by decide +kernel
theorem dX1_firstRest_11 : decode cX1_firstRest 11 = .ok (.if_icmp .ge 25, 3) := by decide +kernel
theorem dX1_firstRest_14 : decode cX1_firstRest 14 = .ok (.iload_n 1, 1) := by decide +kernel
theorem dX1_firstRest_15 : decode cX1_firstRest 15 = .ok (.iload_n 2, 1) := by decide +kernel
theorem dX1_firstRest_16 : decode cX1_firstRest 16 = .ok (.iload_n 0, 1) := by decide +kernel
theorem dX1_firstRest_17 : decode cX1_firstRest 17 = .ok (.invokestatic 11, 3) := by decide +kernel
theorem dX1_firstRest_20 : decode cX1_firstRest 20 = .ok (.ifCond .eq 10, 3) := by decide +kernel
theorem dX1_firstRest_23 : decode cX1_firstRest 23 = .ok (.bipush 10, 2) := by decide +kernel
theorem dX1_firstRest_25 : decode cX1_firstRest 25 = .ok (.iload_n 1, 1) := by decide +kernel
theorem dX1_firstRest_26 : decode cX1_firstRest 26 = .ok (.imul, 1) := by decide +kernel
theorem dX1_firstRest_27 : decode cX1_firstRest 27 = .ok (.iload_n 2, 1) := by decide +kernel
theorem dX1_firstRest_28 : decode cX1_firstRest 28 = .ok (.iadd, 1) := by decide +kernel
theorem dX1_firstRest_29 : decode cX1_firstRest 29 = .ok (.ireturn, 1) := by decide +kernel
theorem dX1_firstRest_30 : decode cX1_firstRest 30 = .ok (.iinc 2 1, 3) := by decide +kernel
theorem dX1_firstRest_33 : decode cX1_firstRest 33 = .ok (.goto (-24), 3) := by decide +kernel
theorem dX1_firstRest_36 : decode cX1_firstRest 36 = .ok (.iinc 1 1, 3) := by decide +kernel
theorem dX1_firstRest_39 : decode cX1_firstRest 39 = .ok (.goto (-37), 3) := by decide +kernel
theorem dX1_firstRest_42 : decode cX1_firstRest 42 = .ok (.bipush (-9), 2) := by decide +kernel
theorem dX1_firstRest_44 : decode cX1_firstRest 44 = .ok (.ireturn, 1) := by decide +kernel
theorem dX1_isAtRest_0 : decode cX1_isAtRest 0 = .ok (.iconst 0, 1) := by decide +kernel
theorem dX1_isAtRest_1 : decode cX1_isAtRest 1 = .ok (.istore_n 3, 1) := by decide +kernel
theorem dX1_isAtRest_2 : decode cX1_isAtRest 2 = .ok (.iload_n 3, 1) := by decide +kernel
theorem dX1_isAtRest_3 : decode cX1_isAtRest 3 = .ok (.iconst 5, 1) := by decide +kernel
theorem dX1_isAtRest_4 : decode cX1_isAtRest 4 = .ok (.if_icmp .ge 41, 3) := by decide +kernel
theorem dX1_isAtRest_7 : decode cX1_isAtRest 7 = .ok (.iload_n 3, 1) := by decide +kernel
theorem dX1_isAtRest_8 : decode cX1_isAtRest 8 = .ok (.iload_n 1, 1) := by decide +kernel
theorem dX1_isAtRest_9 : decode cX1_isAtRest 9 = .ok (.invokestatic 15, 3) := by decide +kernel
theorem dX1_isAtRest_12 : decode cX1_isAtRest 12 = .ok (.iload_n 0, 1) := by decide +kernel
theorem dX1_isAtRest_13 : decode cX1_isAtRest 13 = .ok (.iload_n 1, 1) := by decide +kernel
theorem dX1_isAtRest_14 : decode cX1_isAtRest 14 = .ok (.invokestatic 15, 3) := by decide +kernel
theorem dX1_isAtRest_17 : decode cX1_isAtRest 17 = .ok (.if_icmp .le 5, 3) := by decide +kernel
theorem dX1_isAtRest_20 : decode cX1_isAtRest 20 = .ok (.iconst 0, 1) := by decide +kernel
theorem dX1_isAtRest_21 : decode cX1_isAtRest 21 = .ok (.ireturn, 1) := by decide +kernel
theorem dX1_isAtRest_22 : decode cX1_isAtRest 22 = .ok (.iload_n 0, 1) := by decide +kernel
theorem dX1_isAtRest_23 : decode cX1_isAtRest 23 = .ok (.iload_n 3, 1) := by decide +kernel
theorem dX1_isAtRest_24 : decode cX1_isAtRest 24 = .ok (.iload_n 2, 1) := by decide +kernel
theorem dX1_isAtRest_25 : decode cX1_isAtRest 25 = .ok (.invokestatic 19, 3) := by decide +kernel
theorem dX1_isAtRest_28 : decode cX1_isAtRest 28 = .ok (.iload_n 0, 1) := by decide +kernel
theorem dX1_isAtRest_29 : decode cX1_isAtRest 29 = .ok (.iload_n 1, 1) := by decide +kernel
theorem dX1_isAtRest_30 : decode cX1_isAtRest 30 = .ok (.iload_n 2, 1) := by decide +kernel
theorem dX1_isAtRest_31 : decode cX1_isAtRest 31 = .ok (.invokestatic 19, 3) := by decide +kernel
theorem dX1_isAtRest_34 : decode cX1_isAtRest 34 = .ok (.if_icmp .le 5, 3) := by decide +kernel
theorem dX1_isAtRest_37 : decode cX1_isAtRest 37 = .ok (.iconst 0, 1) := by decide +kernel
theorem dX1_isAtRest_38 : decode cX1_isAtRest 38 = .ok (.ireturn, 1) := by decide +kernel
theorem dX1_isAtRest_39 : decode cX1_isAtRest 39 = .ok (.iinc 3 1, 3) := by decide +kernel
theorem dX1_isAtRest_42 : decode cX1_isAtRest 42 = .ok (.goto (-40), 3) := by decide +kernel
theorem dX1_isAtRest_45 : decode cX1_isAtRest 45 = .ok (.iconst 1, 1) := by decide +kernel
theorem dX1_isAtRest_46 : decode cX1_isAtRest 46 = .ok (.ireturn, 1) := by decide +kernel
theorem dX1_holderHas_0 : decode cX1_holderHas 0 = .ok (.iload_n 1, 1) := by decide +kernel
theorem dX1_holderHas_1 : decode cX1_holderHas 1 = .ok (.iload_n 0, 1) := by decide +kernel
theorem dX1_holderHas_2 : decode cX1_holderHas 2 = .ok (.if_icmp .lt 7, 3) := by decide +kernel
theorem dX1_holderHas_5 : decode cX1_holderHas 5 = .ok (.iload_n 1, 1) := by decide +kernel
theorem dX1_holderHas_6 : decode cX1_holderHas 6 = .ok (.goto 4, 3) := by decide +kernel
theorem dX1_holderHas_9 : decode cX1_holderHas 9 = .ok (.iconst 0, 1) := by decide +kernel
theorem dX1_holderHas_10 : decode cX1_holderHas 10 = .ok (.ireturn, 1) := by decide +kernel
theorem dX1_heirHas_0 : decode cX1_heirHas 0 = .ok (.iload_n 1, 1) := by decide +kernel
theorem dX1_heirHas_1 : decode cX1_heirHas 1 = .ok (.iload_n 0, 1) := by decide +kernel
theorem dX1_heirHas_2 : decode cX1_heirHas 2 = .ok (.if_icmp .lt 9, 3) := by decide +kernel
theorem dX1_heirHas_5 : decode cX1_heirHas 5 = .ok (.iload_n 2, 1) := by decide +kernel
theorem dX1_heirHas_6 : decode cX1_heirHas 6 = .ok (.iload_n 1, 1) := by decide +kernel
theorem dX1_heirHas_7 : decode cX1_heirHas 7 = .ok (.isub, 1) := by decide +kernel
theorem dX1_heirHas_8 : decode cX1_heirHas 8 = .ok (.goto 4, 3) := by decide +kernel
theorem dX1_heirHas_11 : decode cX1_heirHas 11 = .ok (.iconst 0, 1) := by decide +kernel
theorem dX1_heirHas_12 : decode cX1_heirHas 12 = .ok (.ireturn, 1) := by decide +kernel
theorem dX2_init_0 : decode cX2_init 0 = .ok (.aload_n 0, 1) := by decide +kernel
theorem dX2_init_1 : decode cX2_init 1 = .ok (.invokespecial 3, 3) := by decide +kernel
theorem dX2_init_4 : decode cX2_init 4 = .ok (.aload_n 0, 1) := by decide +kernel
theorem dX2_init_5 : decode cX2_init 5 = .ok (.iconst 4, 1) := by decide +kernel
theorem dX2_init_6 : decode cX2_init 6 = .ok (.newarray .int, 2) := by decide +kernel
theorem dX2_init_8 : decode cX2_init 8 = .ok (.putfield 9, 3) := by decide +kernel
theorem dX2_init_11 : decode cX2_init 11 = .ok (.return_, 1) := by decide +kernel
theorem dX2_read_0 : decode cX2_read 0 = .ok (.aload_n 0, 1) := by decide +kernel
theorem dX2_read_1 : decode cX2_read 1 = .ok (.iconst 0, 1) := by decide +kernel
theorem dX2_read_2 : decode cX2_read 2 = .ok (.putfield 15, 3) := by decide +kernel
theorem dX2_read_5 : decode cX2_read 5 = .ok (.iload_n 1, 1) := by decide +kernel
theorem dX2_read_6 : decode cX2_read 6 = .ok (.iconst 1, 1) := by decide +kernel
theorem dX2_read_7 : decode cX2_read 7 = .ok (.if_icmp .lt 12, 3) := by decide +kernel
theorem dX2_read_10 : decode cX2_read 10 = .ok (.iload_n 1, 1) := by decide +kernel
theorem dX2_read_11 : decode cX2_read 11 = .ok (.iconst 4, 1) := by decide +kernel
theorem dX2_read_12 : decode cX2_read 12 = .ok (.if_icmp .gt 7, 3) := by decide +kernel
theorem dX2_read_15 : decode cX2_read 15 = .ok (.iload_n 2, 1) := by decide +kernel
theorem dX2_read_16 : decode cX2_read 16 = .ok (.ifCond .ge 5, 3) := by decide +kernel
theorem dX2_read_19 : decode cX2_read 19 = .ok (.iconst 0, 1) := by decide +kernel
theorem dX2_read_20 : decode cX2_read 20 = .ok (.ireturn, 1) := by decide +kernel
theorem dX2_read_21 : decode cX2_read 21 = .ok (.iload_n 2, 1) := by decide +kernel
theorem dX2_read_22 : decode cX2_read 22 = .ok (.istore 4, 2) := by decide +kernel
theorem dX2_read_24 : decode cX2_read 24 = .ok (.iconst 0, 1) := by decide +kernel
theorem dX2_read_25 : decode cX2_read 25 = .ok (.istore 5, 2) := by decide +kernel
theorem dX2_read_27 : decode cX2_read 27 = .ok (.iload_n 1, 1) := by decide +kernel
theorem dX2_read_28 : decode cX2_read 28 = .ok (.iconst 1, 1) := by decide +kernel
theorem dX2_read_29 : decode cX2_read 29 = .ok (.isub, 1) := by decide +kernel
theorem dX2_read_30 : decode cX2_read 30 = .ok (.istore 6, 2) := by decide +kernel
theorem dX2_read_32 : decode cX2_read 32 = .ok (.iload 6, 2) := by decide +kernel
theorem dX2_read_34 : decode cX2_read 34 = .ok (.ifCond .lt 65, 3) := by decide +kernel
theorem dX2_read_37 : decode cX2_read 37 = .ok (.iload 4, 2) := by decide +kernel
theorem dX2_read_39 : decode cX2_read 39 = .ok (.bipush 10, 2) := by decide +kernel
theorem dX2_read_41 : decode cX2_read 41 = .ok (.irem, 1) := by decide +kernel
theorem dX2_read_42 : decode cX2_read 42 = .ok (.iconst 1, 1) := by decide +kernel
theorem dX2_read_43 : decode cX2_read 43 = .ok (.isub, 1) := by decide +kernel
theorem dX2_read_44 : decode cX2_read 44 = .ok (.istore 7, 2) := by decide +kernel
theorem dX2_read_46 : decode cX2_read 46 = .ok (.aload_n 3, 1) := by decide +kernel
theorem dX2_read_47 : decode cX2_read 47 = .ok (.iload 7, 2) := by decide +kernel
theorem dX2_read_49 : decode cX2_read 49 = .ok (.invokevirtual 19, 3) := by decide +kernel
theorem dX2_read_52 : decode cX2_read 52 = .ok (.ifCond .eq 14, 3) := by decide +kernel
theorem dX2_read_55 : decode cX2_read 55 = .ok (.iload 5, 2) := by decide +kernel
theorem dX2_read_57 : decode cX2_read 57 = .ok (.iload 7, 2) := by decide +kernel
theorem dX2_read_59 : decode cX2_read 59 = .ok (.ishr, 1) := by decide +kernel
theorem dX2_read_60 : decode cX2_read 60 = .ok (.iconst 1, 1) := by decide +kernel
theorem dX2_read_61 : decode cX2_read 61 = .ok (.iand, 1) := by decide +kernel
theorem dX2_read_62 : decode cX2_read 62 = .ok (.iconst 1, 1) := by decide +kernel
theorem dX2_read_63 : decode cX2_read 63 = .ok (.if_icmp .ne 5, 3) := by decide +kernel
theorem dX2_read_66 : decode cX2_read 66 = .ok (.iconst 0, 1) := by decide +kernel
theorem dX2_read_67 : decode cX2_read 67 = .ok (.ireturn, 1) := by decide +kernel
theorem dX2_read_68 : decode cX2_read 68 = .ok (.iload 5, 2) := by decide +kernel
theorem dX2_read_70 : decode cX2_read 70 = .ok (.iconst 1, 1) := by decide +kernel
theorem dX2_read_71 : decode cX2_read 71 = .ok (.iload 7, 2) := by decide +kernel
theorem dX2_read_73 : decode cX2_read 73 = .ok (.ishl, 1) := by decide +kernel
theorem dX2_read_74 : decode cX2_read 74 = .ok (.ior, 1) := by decide +kernel
theorem dX2_read_75 : decode cX2_read 75 = .ok (.istore 5, 2) := by decide +kernel
theorem dX2_read_77 : decode cX2_read 77 = .ok (.aload_n 0, 1) := by decide +kernel
theorem dX2_read_78 : decode cX2_read 78 = .ok (.getfield 9, 3) := by decide +kernel
theorem dX2_read_81 : decode cX2_read 81 = .ok (.iload 6, 2) := by decide +kernel
theorem dX2_read_83 : decode cX2_read 83 = .ok (.iload 7, 2) := by decide +kernel
theorem dX2_read_85 : decode cX2_read 85 = .ok (.iastore, 1) := by decide +kernel
theorem dX2_read_86 : decode cX2_read 86 = .ok (.iload 4, 2) := by decide +kernel
theorem dX2_read_88 : decode cX2_read 88 = .ok (.bipush 10, 2) := by decide +kernel
theorem dX2_read_90 : decode cX2_read 90 = .ok (.idiv, 1) := by decide +kernel
theorem dX2_read_91 : decode cX2_read 91 = .ok (.istore 4, 2) := by decide +kernel
theorem dX2_read_93 : decode cX2_read 93 = .ok (.iinc 6 (-1), 3) := by decide +kernel
theorem dX2_read_96 : decode cX2_read 96 = .ok (.goto (-64), 3) := by decide +kernel
theorem dX2_read_99 : decode cX2_read 99 = .ok (.aload_n 0, 1) := by decide +kernel
theorem dX2_read_100 : decode cX2_read 100 = .ok (.iload_n 1, 1) := by decide +kernel
theorem dX2_read_101 : decode cX2_read 101 = .ok (.putfield 15, 3) := by decide +kernel
theorem dX2_read_104 : decode cX2_read 104 = .ok (.iload 4, 2) := by decide +kernel
theorem dX2_read_106 : decode cX2_read 106 = .ok (.ifCond .ne 7, 3) := by decide +kernel
theorem dX2_read_109 : decode cX2_read 109 = .ok (.iconst 1, 1) := by decide +kernel
theorem dX2_read_110 : decode cX2_read 110 = .ok (.goto 4, 3) := by decide +kernel
theorem dX2_read_113 : decode cX2_read 113 = .ok (.iconst 0, 1) := by decide +kernel
theorem dX2_read_114 : decode cX2_read 114 = .ok (.ireturn, 1) := by decide +kernel
theorem dX2_befall_0 : decode cX2_befall 0 = .ok (.iconst 0, 1) := by decide +kernel
theorem dX2_befall_1 : decode cX2_befall 1 = .ok (.istore_n 3, 1) := by decide +kernel
theorem dX2_befall_2 : decode cX2_befall 2 = .ok (.iload_n 3, 1) := by decide +kernel
theorem dX2_befall_3 : decode cX2_befall 3 = .ok (.aload_n 0, 1) := by decide +kernel
theorem dX2_befall_4 : decode cX2_befall 4 = .ok (.getfield 15, 3) := by decide +kernel
theorem dX2_befall_7 : decode cX2_befall 7 = .ok (.if_icmp .ge 25, 3) := by decide +kernel
theorem dX2_befall_10 : decode cX2_befall 10 = .ok (.iload_n 3, 1) := by decide +kernel
theorem dX2_befall_11 : decode cX2_befall 11 = .ok (.iconst 4, 1) := by decide +kernel
theorem dX2_befall_12 : decode cX2_befall 12 = .ok (.if_icmp .ge 20, 3) := by decide +kernel
theorem dX2_befall_15 : decode cX2_befall 15 = .ok (.aload_n 1, 1) := by decide +kernel
theorem dX2_befall_16 : decode cX2_befall 16 = .ok (.aload_n 0, 1) := by decide +kernel
theorem dX2_befall_17 : decode cX2_befall 17 = .ok (.getfield 9, 3) := by decide +kernel
theorem dX2_befall_20 : decode cX2_befall 20 = .ok (.iload_n 3, 1) := by decide +kernel
theorem dX2_befall_21 : decode cX2_befall 21 = .ok (.iaload, 1) := by decide +kernel
theorem dX2_befall_22 : decode cX2_befall 22 = .ok (.aload_n 2, 1) := by decide +kernel
theorem dX2_befall_23 : decode cX2_befall 23 = .ok (.invokevirtual 25, 3) := by decide +kernel
theorem dX2_befall_26 : decode cX2_befall 26 = .ok (.iinc 3 1, 3) := by decide +kernel
theorem dX2_befall_29 : decode cX2_befall 29 = .ok (.goto (-27), 3) := by decide +kernel
theorem dX2_befall_32 : decode cX2_befall 32 = .ok (.return_, 1) := by decide +kernel
theorem dX3_init_0 : decode cX3_init 0 = .ok (.aload_n 0, 1) := by decide +kernel
theorem dX3_init_1 : decode cX3_init 1 = .ok (.invokespecial 3, 3) := by decide +kernel
theorem dX3_init_4 : decode cX3_init 4 = .ok (.aload_n 0, 1) := by decide +kernel
theorem dX3_init_5 : decode cX3_init 5 = .ok (.iconst 5, 1) := by decide +kernel
theorem dX3_init_6 : decode cX3_init 6 = .ok (.bipush 10, 2) := by decide +kernel
theorem dX3_init_8 : decode cX3_init 8 = .ok (.multianewarray 9 2, 4) := by decide +kernel
theorem dX3_init_12 : decode cX3_init 12 = .ok (.putfield 11, 3) := by decide +kernel
theorem dX3_init_15 : decode cX3_init 15 = .ok (.return_, 1) := by decide +kernel
theorem dX3_reckon_0 : decode cX3_reckon 0 = .ok (.iconst 0, 1) := by decide +kernel
theorem dX3_reckon_1 : decode cX3_reckon 1 = .ok (.istore_n 3, 1) := by decide +kernel
theorem dX3_reckon_2 : decode cX3_reckon 2 = .ok (.iload_n 3, 1) := by decide +kernel
theorem dX3_reckon_3 : decode cX3_reckon 3 = .ok (.bipush 9, 2) := by decide +kernel
theorem dX3_reckon_5 : decode cX3_reckon 5 = .ok (.if_icmp .gt 28, 3) := by decide +kernel
theorem dX3_reckon_8 : decode cX3_reckon 8 = .ok (.aload_n 0, 1) := by decide +kernel
theorem dX3_reckon_9 : decode cX3_reckon 9 = .ok (.getfield 11, 3) := by decide +kernel
theorem dX3_reckon_12 : decode cX3_reckon 12 = .ok (.iconst 0, 1) := by decide +kernel
theorem dX3_reckon_13 : decode cX3_reckon 13 = .ok (.aaload, 1) := by decide +kernel
theorem dX3_reckon_14 : decode cX3_reckon 14 = .ok (.iload_n 3, 1) := by decide +kernel
theorem dX3_reckon_15 : decode cX3_reckon 15 = .ok (.iload_n 2, 1) := by decide +kernel
theorem dX3_reckon_16 : decode cX3_reckon 16 = .ok (.ifCond .eq 9, 3) := by decide +kernel
theorem dX3_reckon_19 : decode cX3_reckon 19 = .ok (.iconst 2, 1) := by decide +kernel
theorem dX3_reckon_20 : decode cX3_reckon 20 = .ok (.iload_n 3, 1) := by decide +kernel
theorem dX3_reckon_21 : decode cX3_reckon 21 = .ok (.imul, 1) := by decide +kernel
theorem dX3_reckon_22 : decode cX3_reckon 22 = .ok (.goto 4, 3) := by decide +kernel
theorem dX3_reckon_25 : decode cX3_reckon 25 = .ok (.iconst 0, 1) := by decide +kernel
theorem dX3_reckon_26 : decode cX3_reckon 26 = .ok (.iastore, 1) := by decide +kernel
theorem dX3_reckon_27 : decode cX3_reckon 27 = .ok (.iinc 3 1, 3) := by decide +kernel
theorem dX3_reckon_30 : decode cX3_reckon 30 = .ok (.goto (-28), 3) := by decide +kernel
theorem dX3_reckon_33 : decode cX3_reckon 33 = .ok (.iconst 1, 1) := by decide +kernel
theorem dX3_reckon_34 : decode cX3_reckon 34 = .ok (.istore_n 3, 1) := by decide +kernel
theorem dX3_reckon_35 : decode cX3_reckon 35 = .ok (.iload_n 3, 1) := by decide +kernel
theorem dX3_reckon_36 : decode cX3_reckon 36 = .ok (.iload_n 1, 1) := by decide +kernel
theorem dX3_reckon_37 : decode cX3_reckon 37 = .ok (.if_icmp .gt 57, 3) := by decide +kernel
theorem dX3_reckon_40 : decode cX3_reckon 40 = .ok (.iload_n 3, 1) := by decide +kernel
theorem dX3_reckon_41 : decode cX3_reckon 41 = .ok (.iconst 4, 1) := by decide +kernel
theorem dX3_reckon_42 : decode cX3_reckon 42 = .ok (.if_icmp .gt 52, 3) := by decide +kernel
theorem dX3_reckon_45 : decode cX3_reckon 45 = .ok (.iconst 0, 1) := by decide +kernel
theorem dX3_reckon_46 : decode cX3_reckon 46 = .ok (.istore 4, 2) := by decide +kernel
theorem dX3_reckon_48 : decode cX3_reckon 48 = .ok (.iload 4, 2) := by decide +kernel
theorem dX3_reckon_50 : decode cX3_reckon 50 = .ok (.bipush 9, 2) := by decide +kernel
theorem dX3_reckon_52 : decode cX3_reckon 52 = .ok (.if_icmp .gt 36, 3) := by decide +kernel
theorem dX3_reckon_55 : decode cX3_reckon 55 = .ok (.aload_n 0, 1) := by decide +kernel
theorem dX3_reckon_56 : decode cX3_reckon 56 = .ok (.iload_n 3, 1) := by decide +kernel
theorem dX3_reckon_57 : decode cX3_reckon 57 = .ok (.iload 4, 2) := by decide +kernel
theorem dX3_reckon_59 : decode cX3_reckon 59 = .ok (.invokevirtual 16, 3) := by decide +kernel
theorem dX3_reckon_62 : decode cX3_reckon 62 = .ok (.istore 5, 2) := by decide +kernel
theorem dX3_reckon_64 : decode cX3_reckon 64 = .ok (.aload_n 0, 1) := by decide +kernel
theorem dX3_reckon_65 : decode cX3_reckon 65 = .ok (.getfield 11, 3) := by decide +kernel
theorem dX3_reckon_68 : decode cX3_reckon 68 = .ok (.iload_n 3, 1) := by decide +kernel
theorem dX3_reckon_69 : decode cX3_reckon 69 = .ok (.aaload, 1) := by decide +kernel
theorem dX3_reckon_70 : decode cX3_reckon 70 = .ok (.iload 4, 2) := by decide +kernel
theorem dX3_reckon_72 : decode cX3_reckon 72 = .ok (.aload_n 0, 1) := by decide +kernel
theorem dX3_reckon_73 : decode cX3_reckon 73 = .ok (.iload_n 3, 1) := by decide +kernel
theorem dX3_reckon_74 : decode cX3_reckon 74 = .ok (.iload 4, 2) := by decide +kernel
theorem dX3_reckon_76 : decode cX3_reckon 76 = .ok (.iload 5, 2) := by decide +kernel
theorem dX3_reckon_78 : decode cX3_reckon 78 = .ok (.invokevirtual 20, 3) := by decide +kernel
theorem dX3_reckon_81 : decode cX3_reckon 81 = .ok (.iastore, 1) := by decide +kernel
theorem dX3_reckon_82 : decode cX3_reckon 82 = .ok (.iinc 4 1, 3) := by decide +kernel
theorem dX3_reckon_85 : decode cX3_reckon 85 = .ok (.goto (-37), 3) := by decide +kernel
theorem dX3_reckon_88 : decode cX3_reckon 88 = .ok (.iinc 3 1, 3) := by decide +kernel
theorem dX3_reckon_91 : decode cX3_reckon 91 = .ok (.goto (-56), 3) := by decide +kernel
theorem dX3_reckon_94 : decode cX3_reckon 94 = .ok (.return_, 1) := by decide +kernel
theorem dX3_mostFor_0 : decode cX3_mostFor 0 = .ok (.iload_n 1, 1) := by decide +kernel
theorem dX3_mostFor_1 : decode cX3_mostFor 1 = .ok (.ifCond .lt 18, 3) := by decide +kernel
theorem dX3_mostFor_4 : decode cX3_mostFor 4 = .ok (.iload_n 1, 1) := by decide +kernel
theorem dX3_mostFor_5 : decode cX3_mostFor 5 = .ok (.iconst 4, 1) := by decide +kernel
theorem dX3_mostFor_6 : decode cX3_mostFor 6 = .ok (.if_icmp .gt 13, 3) := by decide +kernel
theorem dX3_mostFor_9 : decode cX3_mostFor 9 = .ok (.iload_n 2, 1) := by decide +kernel
theorem dX3_mostFor_10 : decode cX3_mostFor 10 = .ok (.ifCond .lt 9, 3) := by decide +kernel
theorem dX3_mostFor_13 : decode cX3_mostFor 13 = .ok (.iload_n 2, 1) := by decide +kernel
theorem dX3_mostFor_14 : decode cX3_mostFor 14 = .ok (.bipush 9, 2) := by decide +kernel
theorem dX3_mostFor_16 : decode cX3_mostFor 16 = .ok (.if_icmp .le 5, 3) := by decide +kernel
theorem dX3_mostFor_19 : decode cX3_mostFor 19 = .ok (.iconst 0, 1) := by decide +kernel
theorem dX3_mostFor_20 : decode cX3_mostFor 20 = .ok (.ireturn, 1) := by decide +kernel
theorem dX3_mostFor_21 : decode cX3_mostFor 21 = .ok (.aload_n 0, 1) := by decide +kernel
theorem dX3_mostFor_22 : decode cX3_mostFor 22 = .ok (.getfield 11, 3) := by decide +kernel
theorem dX3_mostFor_25 : decode cX3_mostFor 25 = .ok (.iload_n 1, 1) := by decide +kernel
theorem dX3_mostFor_26 : decode cX3_mostFor 26 = .ok (.aaload, 1) := by decide +kernel
theorem dX3_mostFor_27 : decode cX3_mostFor 27 = .ok (.iload_n 2, 1) := by decide +kernel
theorem dX3_mostFor_28 : decode cX3_mostFor 28 = .ok (.iaload, 1) := by decide +kernel
theorem dX3_mostFor_29 : decode cX3_mostFor 29 = .ok (.ireturn, 1) := by decide +kernel
theorem dX3_firstRow_0 : decode cX3_firstRow 0 = .ok (.iconst 1, 1) := by decide +kernel
theorem dX3_firstRow_1 : decode cX3_firstRow 1 = .ok (.istore_n 3, 1) := by decide +kernel
theorem dX3_firstRow_2 : decode cX3_firstRow 2 = .ok (.iload_n 2, 1) := by decide +kernel
theorem dX3_firstRow_3 : decode cX3_firstRow 3 = .ok (.istore 4, 2) := by decide +kernel
theorem dX3_firstRow_5 : decode cX3_firstRow 5 = .ok (.iload_n 1, 1) := by decide +kernel
theorem dX3_firstRow_6 : decode cX3_firstRow 6 = .ok (.iconst 4, 1) := by decide +kernel
theorem dX3_firstRow_7 : decode cX3_firstRow 7 = .ok (.invokestatic 24, 3) := by decide +kernel
theorem dX3_firstRow_10 : decode cX3_firstRow 10 = .ok (.istore 5, 2) := by decide +kernel
theorem dX3_firstRow_12 : decode cX3_firstRow 12 = .ok (.iload 5, 2) := by decide +kernel
theorem dX3_firstRow_14 : decode cX3_firstRow 14 = .ok (.ifCond .le 37, 3) := by decide +kernel
theorem dX3_firstRow_17 : decode cX3_firstRow 17 = .ok (.aload_n 0, 1) := by decide +kernel
theorem dX3_firstRow_18 : decode cX3_firstRow 18 = .ok (.iload 5, 2) := by decide +kernel
theorem dX3_firstRow_20 : decode cX3_firstRow 20 = .ok (.iload 4, 2) := by decide +kernel
theorem dX3_firstRow_22 : decode cX3_firstRow 22 = .ok (.invokevirtual 16, 3) := by decide +kernel
theorem dX3_firstRow_25 : decode cX3_firstRow 25 = .ok (.istore 6, 2) := by decide +kernel
theorem dX3_firstRow_27 : decode cX3_firstRow 27 = .ok (.iload_n 3, 1) := by decide +kernel
theorem dX3_firstRow_28 : decode cX3_firstRow 28 = .ok (.bipush 10, 2) := by decide +kernel
theorem dX3_firstRow_30 : decode cX3_firstRow 30 = .ok (.imul, 1) := by decide +kernel
theorem dX3_firstRow_31 : decode cX3_firstRow 31 = .ok (.iload 6, 2) := by decide +kernel
theorem dX3_firstRow_33 : decode cX3_firstRow 33 = .ok (.iadd, 1) := by decide +kernel
theorem dX3_firstRow_34 : decode cX3_firstRow 34 = .ok (.istore_n 3, 1) := by decide +kernel
theorem dX3_firstRow_35 : decode cX3_firstRow 35 = .ok (.iload 4, 2) := by decide +kernel
theorem dX3_firstRow_37 : decode cX3_firstRow 37 = .ok (.iload 6, 2) := by decide +kernel
theorem dX3_firstRow_39 : decode cX3_firstRow 39 = .ok (.isub, 1) := by decide +kernel
theorem dX3_firstRow_40 : decode cX3_firstRow 40 = .ok (.invokestatic 29, 3) := by decide +kernel
theorem dX3_firstRow_43 : decode cX3_firstRow 43 = .ok (.istore 4, 2) := by decide +kernel
theorem dX3_firstRow_45 : decode cX3_firstRow 45 = .ok (.iinc 5 (-1), 3) := by decide +kernel
theorem dX3_firstRow_48 : decode cX3_firstRow 48 = .ok (.goto (-36), 3) := by decide +kernel
theorem dX3_firstRow_51 : decode cX3_firstRow 51 = .ok (.iload_n 3, 1) := by decide +kernel
theorem dX3_firstRow_52 : decode cX3_firstRow 52 = .ok (.ireturn, 1) := by decide +kernel
theorem dX3_firstBestCut_0 : decode cX3_firstBestCut 0 = .ok (.iconst 0, 1) := by decide +kernel
theorem dX3_firstBestCut_1 : decode cX3_firstBestCut 1 = .ok (.istore_n 3, 1) := by decide +kernel
theorem dX3_firstBestCut_2 : decode cX3_firstBestCut 2 = .ok (.iconst 1, 1) := by decide +kernel
theorem dX3_firstBestCut_3 : decode cX3_firstBestCut 3 = .ok (.istore 4, 2) := by decide +kernel
theorem dX3_firstBestCut_5 : decode cX3_firstBestCut 5 = .ok (.iload 4, 2) := by decide +kernel
theorem dX3_firstBestCut_7 : decode cX3_firstBestCut 7 = .ok (.iconst 3, 1) := by decide +kernel
theorem dX3_firstBestCut_8 : decode cX3_firstBestCut 8 = .ok (.if_icmp .gt 36, 3) := by decide +kernel
theorem dX3_firstBestCut_11 : decode cX3_firstBestCut 11 = .ok (.iload 4, 2) := by decide +kernel
theorem dX3_firstBestCut_13 : decode cX3_firstBestCut 13 = .ok (.iload_n 2, 1) := by decide +kernel
theorem dX3_firstBestCut_14 : decode cX3_firstBestCut 14 = .ok (.if_icmp .gt 30, 3) := by decide +kernel
theorem dX3_firstBestCut_17 : decode cX3_firstBestCut 17 = .ok (.aload_n 0, 1) := by decide +kernel
theorem dX3_firstBestCut_18 : decode cX3_firstBestCut 18 = .ok (.iload_n 1, 1) := by decide +kernel
theorem dX3_firstBestCut_19 : decode cX3_firstBestCut 19 = .ok (.iload_n 2, 1) := by decide +kernel
theorem dX3_firstBestCut_20 : decode cX3_firstBestCut 20 = .ok (.iload 4, 2) := by decide +kernel
theorem dX3_firstBestCut_22 : decode cX3_firstBestCut 22 = .ok (.invokevirtual 20, 3) := by decide +kernel
theorem dX3_firstBestCut_25 : decode cX3_firstBestCut 25 = .ok (.aload_n 0, 1) := by decide +kernel
theorem dX3_firstBestCut_26 : decode cX3_firstBestCut 26 = .ok (.iload_n 1, 1) := by decide +kernel
theorem dX3_firstBestCut_27 : decode cX3_firstBestCut 27 = .ok (.iload_n 2, 1) := by decide +kernel
theorem dX3_firstBestCut_28 : decode cX3_firstBestCut 28 = .ok (.iload_n 3, 1) := by decide +kernel
theorem dX3_firstBestCut_29 : decode cX3_firstBestCut 29 = .ok (.invokevirtual 20, 3) := by decide +kernel
theorem dX3_firstBestCut_32 : decode cX3_firstBestCut 32 = .ok (.if_icmp .le 6, 3) := by decide +kernel
theorem dX3_firstBestCut_35 : decode cX3_firstBestCut 35 = .ok (.iload 4, 2) := by decide +kernel
theorem dX3_firstBestCut_37 : decode cX3_firstBestCut 37 = .ok (.istore_n 3, 1) := by decide +kernel
theorem dX3_firstBestCut_38 : decode cX3_firstBestCut 38 = .ok (.iinc 4 1, 3) := by decide +kernel
theorem dX3_firstBestCut_41 : decode cX3_firstBestCut 41 = .ok (.goto (-36), 3) := by decide +kernel
theorem dX3_firstBestCut_44 : decode cX3_firstBestCut 44 = .ok (.iload_n 3, 1) := by decide +kernel
theorem dX3_firstBestCut_45 : decode cX3_firstBestCut 45 = .ok (.ireturn, 1) := by decide +kernel
theorem dX3_worth_0 : decode cX3_worth 0 = .ok (.iload_n 3, 1) := by decide +kernel
theorem dX3_worth_1 : decode cX3_worth 1 = .ok (.aload_n 0, 1) := by decide +kernel
theorem dX3_worth_2 : decode cX3_worth 2 = .ok (.iload_n 1, 1) := by decide +kernel
theorem dX3_worth_3 : decode cX3_worth 3 = .ok (.iconst 1, 1) := by decide +kernel
theorem dX3_worth_4 : decode cX3_worth 4 = .ok (.isub, 1) := by decide +kernel
theorem dX3_worth_5 : decode cX3_worth 5 = .ok (.iload_n 2, 1) := by decide +kernel
theorem dX3_worth_6 : decode cX3_worth 6 = .ok (.iload_n 3, 1) := by decide +kernel
theorem dX3_worth_7 : decode cX3_worth 7 = .ok (.isub, 1) := by decide +kernel
theorem dX3_worth_8 : decode cX3_worth 8 = .ok (.invokestatic 29, 3) := by decide +kernel
theorem dX3_worth_11 : decode cX3_worth 11 = .ok (.invokevirtual 33, 3) := by decide +kernel
theorem dX3_worth_14 : decode cX3_worth 14 = .ok (.iadd, 1) := by decide +kernel
theorem dX3_worth_15 : decode cX3_worth 15 = .ok (.ireturn, 1) := by decide +kernel
theorem dX3_grown_0 : decode cX3_grown 0 = .ok (.bipush 9, 2) := by decide +kernel
theorem dX3_grown_2 : decode cX3_grown 2 = .ok (.iload_n 0, 1) := by decide +kernel
theorem dX3_grown_3 : decode cX3_grown 3 = .ok (.iconst 1, 1) := by decide +kernel
theorem dX3_grown_4 : decode cX3_grown 4 = .ok (.iadd, 1) := by decide +kernel
theorem dX3_grown_5 : decode cX3_grown 5 = .ok (.invokestatic 24, 3) := by decide +kernel
theorem dX3_grown_8 : decode cX3_grown 8 = .ok (.ireturn, 1) := by decide +kernel
theorem dX4_part_0 : decode cX4_part 0 = .ok (.iload_n 0, 1) := by decide +kernel
theorem dX4_part_1 : decode cX4_part 1 = .ok (.iload_n 1, 1) := by decide +kernel
theorem dX4_part_2 : decode cX4_part 2 = .ok (.invokestatic 7, 3) := by decide +kernel
theorem dX4_part_5 : decode cX4_part 5 = .ok (.istore_n 3, 1) := by decide +kernel
theorem dX4_part_6 : decode cX4_part 6 = .ok (.iload_n 3, 1) := by decide +kernel
theorem dX4_part_7 : decode cX4_part 7 = .ok (.ifCond .ne 5, 3) := by decide +kernel
theorem dX4_part_10 : decode cX4_part 10 = .ok (.iconst 0, 1) := by decide +kernel
theorem dX4_part_11 : decode cX4_part 11 = .ok (.ireturn, 1) := by decide +kernel
theorem dX4_part_12 : decode cX4_part 12 = .ok (.iload_n 2, 1) := by decide +kernel
theorem dX4_part_13 : decode cX4_part 13 = .ok (.ifCond .eq 9, 3) := by decide +kernel
theorem dX4_part_16 : decode cX4_part 16 = .ok (.iload_n 0, 1) := by decide +kernel
theorem dX4_part_17 : decode cX4_part 17 = .ok (.iload_n 3, 1) := by decide +kernel
theorem dX4_part_18 : decode cX4_part 18 = .ok (.idiv, 1) := by decide +kernel
theorem dX4_part_19 : decode cX4_part 19 = .ok (.goto 6, 3) := by decide +kernel
theorem dX4_part_22 : decode cX4_part 22 = .ok (.iload_n 1, 1) := by decide +kernel
theorem dX4_part_23 : decode cX4_part 23 = .ok (.iload_n 3, 1) := by decide +kernel
theorem dX4_part_24 : decode cX4_part 24 = .ok (.idiv, 1) := by decide +kernel
theorem dX4_part_25 : decode cX4_part 25 = .ok (.ireturn, 1) := by decide +kernel
theorem dX4_greatestCommon_0 : decode cX4_greatestCommon 0 = .ok (.iload_n 0, 1) := by decide +kernel
theorem dX4_greatestCommon_1 : decode cX4_greatestCommon 1 = .ok (.istore_n 2, 1) := by decide +kernel
theorem dX4_greatestCommon_2 : decode cX4_greatestCommon 2 = .ok (.iload_n 1, 1) := by decide +kernel
theorem dX4_greatestCommon_3 : decode cX4_greatestCommon 3 = .ok (.istore_n 3, 1) := by decide +kernel
theorem dX4_greatestCommon_4 : decode cX4_greatestCommon 4 = .ok (.iconst 0, 1) := by decide +kernel
theorem dX4_greatestCommon_5 : decode cX4_greatestCommon 5 = .ok (.istore 4, 2) := by decide +kernel
theorem dX4_greatestCommon_7 : decode cX4_greatestCommon 7 = .ok (.iload 4, 2) := by decide +kernel
theorem dX4_greatestCommon_9 : decode cX4_greatestCommon 9 = .ok (.bipush 64, 2) := by decide +kernel
theorem dX4_greatestCommon_11 : decode cX4_greatestCommon 11 = .ok (.if_icmp .ge 23, 3) := by decide +kernel
theorem dX4_greatestCommon_14 : decode cX4_greatestCommon 14 = .ok (.iload_n 3, 1) := by decide +kernel
theorem dX4_greatestCommon_15 : decode cX4_greatestCommon 15 = .ok (.ifCond .eq 19, 3) := by decide +kernel
theorem dX4_greatestCommon_18 : decode cX4_greatestCommon 18 = .ok (.iload_n 2, 1) := by decide +kernel
theorem dX4_greatestCommon_19 : decode cX4_greatestCommon 19 = .ok (.iload_n 3, 1) := by decide +kernel
theorem dX4_greatestCommon_20 : decode cX4_greatestCommon 20 = .ok (.irem, 1) := by decide +kernel
theorem dX4_greatestCommon_21 : decode cX4_greatestCommon 21 = .ok (.istore 5, 2) := by decide +kernel
theorem dX4_greatestCommon_23 : decode cX4_greatestCommon 23 = .ok (.iload_n 3, 1) := by decide +kernel
theorem dX4_greatestCommon_24 : decode cX4_greatestCommon 24 = .ok (.istore_n 2, 1) := by decide +kernel
theorem dX4_greatestCommon_25 : decode cX4_greatestCommon 25 = .ok (.iload 5, 2) := by decide +kernel
theorem dX4_greatestCommon_27 : decode cX4_greatestCommon 27 = .ok (.istore_n 3, 1) := by decide +kernel
theorem dX4_greatestCommon_28 : decode cX4_greatestCommon 28 = .ok (.iinc 4 1, 3) := by decide +kernel
theorem dX4_greatestCommon_31 : decode cX4_greatestCommon 31 = .ok (.goto (-24), 3) := by decide +kernel
theorem dX4_greatestCommon_34 : decode cX4_greatestCommon 34 = .ok (.iload_n 2, 1) := by decide +kernel
theorem dX4_greatestCommon_35 : decode cX4_greatestCommon 35 = .ok (.ireturn, 1) := by decide +kernel
theorem dX5_init_0 : decode cX5_init 0 = .ok (.aload_n 0, 1) := by decide +kernel
theorem dX5_init_1 : decode cX5_init 1 = .ok (.invokespecial 3, 3) := by decide +kernel
theorem dX5_init_4 : decode cX5_init 4 = .ok (.aload_n 0, 1) := by decide +kernel
theorem dX5_init_5 : decode cX5_init 5 = .ok (.bipush 7, 2) := by decide +kernel
theorem dX5_init_7 : decode cX5_init 7 = .ok (.newarray .int, 2) := by decide +kernel
theorem dX5_init_9 : decode cX5_init 9 = .ok (.putfield 9, 3) := by decide +kernel
theorem dX5_init_12 : decode cX5_init 12 = .ok (.return_, 1) := by decide +kernel
theorem dX5_listLine_0 : decode cX5_listLine 0 = .ok (.aload_n 0, 1) := by decide +kernel
theorem dX5_listLine_1 : decode cX5_listLine 1 = .ok (.iconst 0, 1) := by decide +kernel
theorem dX5_listLine_2 : decode cX5_listLine 2 = .ok (.putfield 15, 3) := by decide +kernel
theorem dX5_listLine_5 : decode cX5_listLine 5 = .ok (.aload_n 0, 1) := by decide +kernel
theorem dX5_listLine_6 : decode cX5_listLine 6 = .ok (.iconst 0, 1) := by decide +kernel
theorem dX5_listLine_7 : decode cX5_listLine 7 = .ok (.putfield 19, 3) := by decide +kernel
theorem dX5_listLine_10 : decode cX5_listLine 10 = .ok (.aload_n 0, 1) := by decide +kernel
theorem dX5_listLine_11 : decode cX5_listLine 11 = .ok (.aload_n 1, 1) := by decide +kernel
theorem dX5_listLine_12 : decode cX5_listLine 12 = .ok (.iload_n 2, 1) := by decide +kernel
theorem dX5_listLine_13 : decode cX5_listLine 13 = .ok (.iload_n 3, 1) := by decide +kernel
theorem dX5_listLine_14 : decode cX5_listLine 14 = .ok (.iconst 0, 1) := by decide +kernel
theorem dX5_listLine_15 : decode cX5_listLine 15 = .ok (.invokevirtual 22, 3) := by decide +kernel
theorem dX5_listLine_18 : decode cX5_listLine 18 = .ok (.return_, 1) := by decide +kernel
theorem dX5_listHeirs_0 : decode cX5_listHeirs 0 = .ok (.aload_n 0, 1) := by decide +kernel
theorem dX5_listHeirs_1 : decode cX5_listHeirs 1 = .ok (.iconst 0, 1) := by decide +kernel
theorem dX5_listHeirs_2 : decode cX5_listHeirs 2 = .ok (.putfield 15, 3) := by decide +kernel
theorem dX5_listHeirs_5 : decode cX5_listHeirs 5 = .ok (.aload_n 1, 1) := by decide +kernel
theorem dX5_listHeirs_6 : decode cX5_listHeirs 6 = .ok (.iload_n 2, 1) := by decide +kernel
theorem dX5_listHeirs_7 : decode cX5_listHeirs 7 = .ok (.invokevirtual 26, 3) := by decide +kernel
theorem dX5_listHeirs_10 : decode cX5_listHeirs 10 = .ok (.ifCond .ne 4, 3) := by decide +kernel
theorem dX5_listHeirs_13 : decode cX5_listHeirs 13 = .ok (.return_, 1) := by decide +kernel
theorem dX5_listHeirs_14 : decode cX5_listHeirs 14 = .ok (.aload_n 0, 1) := by decide +kernel
theorem dX5_listHeirs_15 : decode cX5_listHeirs 15 = .ok (.iconst 1, 1) := by decide +kernel
theorem dX5_listHeirs_16 : decode cX5_listHeirs 16 = .ok (.iload_n 2, 1) := by decide +kernel
theorem dX5_listHeirs_17 : decode cX5_listHeirs 17 = .ok (.ishl, 1) := by decide +kernel
theorem dX5_listHeirs_18 : decode cX5_listHeirs 18 = .ok (.putfield 19, 3) := by decide +kernel
theorem dX5_listHeirs_21 : decode cX5_listHeirs 21 = .ok (.aload_n 0, 1) := by decide +kernel
theorem dX5_listHeirs_22 : decode cX5_listHeirs 22 = .ok (.aload_n 1, 1) := by decide +kernel
theorem dX5_listHeirs_23 : decode cX5_listHeirs 23 = .ok (.iload_n 2, 1) := by decide +kernel
theorem dX5_listHeirs_24 : decode cX5_listHeirs 24 = .ok (.iload_n 3, 1) := by decide +kernel
theorem dX5_listHeirs_25 : decode cX5_listHeirs 25 = .ok (.iconst 0, 1) := by decide +kernel
theorem dX5_listHeirs_26 : decode cX5_listHeirs 26 = .ok (.invokevirtual 32, 3) := by decide +kernel
theorem dX5_listHeirs_29 : decode cX5_listHeirs 29 = .ok (.aload_n 1, 1) := by decide +kernel
theorem dX5_listHeirs_30 : decode cX5_listHeirs 30 = .ok (.iload_n 2, 1) := by decide +kernel
theorem dX5_listHeirs_31 : decode cX5_listHeirs 31 = .ok (.invokevirtual 35, 3) := by decide +kernel
theorem dX5_listHeirs_34 : decode cX5_listHeirs 34 = .ok (.istore 4, 2) := by decide +kernel
theorem dX5_listHeirs_36 : decode cX5_listHeirs 36 = .ok (.iconst 0, 1) := by decide +kernel
theorem dX5_listHeirs_37 : decode cX5_listHeirs 37 = .ok (.istore 5, 2) := by decide +kernel
theorem dX5_listHeirs_39 : decode cX5_listHeirs 39 = .ok (.iload 5, 2) := by decide +kernel
theorem dX5_listHeirs_41 : decode cX5_listHeirs 41 = .ok (.bipush 7, 2) := by decide +kernel
theorem dX5_listHeirs_43 : decode cX5_listHeirs 43 = .ok (.if_icmp .ge 33, 3) := by decide +kernel
theorem dX5_listHeirs_46 : decode cX5_listHeirs 46 = .ok (.iload 4, 2) := by decide +kernel
theorem dX5_listHeirs_48 : decode cX5_listHeirs 48 = .ok (.bipush (-9), 2) := by decide +kernel
theorem dX5_listHeirs_50 : decode cX5_listHeirs 50 = .ok (.if_icmp .eq 26, 3) := by decide +kernel
theorem dX5_listHeirs_53 : decode cX5_listHeirs 53 = .ok (.aload_n 0, 1) := by decide +kernel
theorem dX5_listHeirs_54 : decode cX5_listHeirs 54 = .ok (.aload_n 1, 1) := by decide +kernel
theorem dX5_listHeirs_55 : decode cX5_listHeirs 55 = .ok (.iload 4, 2) := by decide +kernel
theorem dX5_listHeirs_57 : decode cX5_listHeirs 57 = .ok (.iload_n 3, 1) := by decide +kernel
theorem dX5_listHeirs_58 : decode cX5_listHeirs 58 = .ok (.iconst 0, 1) := by decide +kernel
theorem dX5_listHeirs_59 : decode cX5_listHeirs 59 = .ok (.invokevirtual 22, 3) := by decide +kernel
theorem dX5_listHeirs_62 : decode cX5_listHeirs 62 = .ok (.aload_n 1, 1) := by decide +kernel
theorem dX5_listHeirs_63 : decode cX5_listHeirs 63 = .ok (.iload 4, 2) := by decide +kernel
theorem dX5_listHeirs_65 : decode cX5_listHeirs 65 = .ok (.invokevirtual 35, 3) := by decide +kernel
theorem dX5_listHeirs_68 : decode cX5_listHeirs 68 = .ok (.istore 4, 2) := by decide +kernel
theorem dX5_listHeirs_70 : decode cX5_listHeirs 70 = .ok (.iinc 5 1, 3) := by decide +kernel
theorem dX5_listHeirs_73 : decode cX5_listHeirs 73 = .ok (.goto (-34), 3) := by decide +kernel
theorem dX5_listHeirs_76 : decode cX5_listHeirs 76 = .ok (.return_, 1) := by decide +kernel
theorem dX5_addLine_0 : decode cX5_addLine 0 = .ok (.iload 4, 2) := by decide +kernel
theorem dX5_addLine_2 : decode cX5_addLine 2 = .ok (.bipush 7, 2) := by decide +kernel
theorem dX5_addLine_4 : decode cX5_addLine 4 = .ok (.if_icmp .ge 20, 3) := by decide +kernel
theorem dX5_addLine_7 : decode cX5_addLine 7 = .ok (.aload_n 0, 1) := by decide +kernel
theorem dX5_addLine_8 : decode cX5_addLine 8 = .ok (.getfield 15, 3) := by decide +kernel
theorem dX5_addLine_11 : decode cX5_addLine 11 = .ok (.bipush 7, 2) := by decide +kernel
theorem dX5_addLine_13 : decode cX5_addLine 13 = .ok (.if_icmp .ge 11, 3) := by decide +kernel
theorem dX5_addLine_16 : decode cX5_addLine 16 = .ok (.aload_n 1, 1) := by decide +kernel
theorem dX5_addLine_17 : decode cX5_addLine 17 = .ok (.iload_n 2, 1) := by decide +kernel
theorem dX5_addLine_18 : decode cX5_addLine 18 = .ok (.invokevirtual 26, 3) := by decide +kernel
theorem dX5_addLine_21 : decode cX5_addLine 21 = .ok (.ifCond .ne 4, 3) := by decide +kernel
theorem dX5_addLine_24 : decode cX5_addLine 24 = .ok (.return_, 1) := by decide +kernel
theorem dX5_addLine_25 : decode cX5_addLine 25 = .ok (.aload_n 0, 1) := by decide +kernel
theorem dX5_addLine_26 : decode cX5_addLine 26 = .ok (.getfield 19, 3) := by decide +kernel
theorem dX5_addLine_29 : decode cX5_addLine 29 = .ok (.iload_n 2, 1) := by decide +kernel
theorem dX5_addLine_30 : decode cX5_addLine 30 = .ok (.ishr, 1) := by decide +kernel
theorem dX5_addLine_31 : decode cX5_addLine 31 = .ok (.iconst 1, 1) := by decide +kernel
theorem dX5_addLine_32 : decode cX5_addLine 32 = .ok (.iand, 1) := by decide +kernel
theorem dX5_addLine_33 : decode cX5_addLine 33 = .ok (.iconst 1, 1) := by decide +kernel
theorem dX5_addLine_34 : decode cX5_addLine 34 = .ok (.if_icmp .eq 15, 3) := by decide +kernel
theorem dX5_addLine_37 : decode cX5_addLine 37 = .ok (.iload_n 3, 1) := by decide +kernel
theorem dX5_addLine_38 : decode cX5_addLine 38 = .ok (.ifCond .ne 12, 3) := by decide +kernel
theorem dX5_addLine_41 : decode cX5_addLine 41 = .ok (.aload_n 1, 1) := by decide +kernel
theorem dX5_addLine_42 : decode cX5_addLine 42 = .ok (.iload_n 2, 1) := by decide +kernel
theorem dX5_addLine_43 : decode cX5_addLine 43 = .ok (.invokevirtual 39, 3) := by decide +kernel
theorem dX5_addLine_46 : decode cX5_addLine 46 = .ok (.ifCond .eq 4, 3) := by decide +kernel
theorem dX5_addLine_49 : decode cX5_addLine 49 = .ok (.return_, 1) := by decide +kernel
theorem dX5_addLine_50 : decode cX5_addLine 50 = .ok (.aload_n 0, 1) := by decide +kernel
theorem dX5_addLine_51 : decode cX5_addLine 51 = .ok (.dup, 1) := by decide +kernel
theorem dX5_addLine_52 : decode cX5_addLine 52 = .ok (.getfield 19, 3) := by decide +kernel
theorem dX5_addLine_55 : decode cX5_addLine 55 = .ok (.iconst 1, 1) := by decide +kernel
theorem dX5_addLine_56 : decode cX5_addLine 56 = .ok (.iload_n 2, 1) := by decide +kernel
theorem dX5_addLine_57 : decode cX5_addLine 57 = .ok (.ishl, 1) := by decide +kernel
theorem dX5_addLine_58 : decode cX5_addLine 58 = .ok (.ior, 1) := by decide +kernel
theorem dX5_addLine_59 : decode cX5_addLine 59 = .ok (.putfield 19, 3) := by decide +kernel
theorem dX5_addLine_62 : decode cX5_addLine 62 = .ok (.aload_n 0, 1) := by decide +kernel
theorem dX5_addLine_63 : decode cX5_addLine 63 = .ok (.getfield 9, 3) := by decide +kernel
theorem dX5_addLine_66 : decode cX5_addLine 66 = .ok (.aload_n 0, 1) := by decide +kernel
theorem dX5_addLine_67 : decode cX5_addLine 67 = .ok (.getfield 15, 3) := by decide +kernel
theorem dX5_addLine_70 : decode cX5_addLine 70 = .ok (.iload_n 2, 1) := by decide +kernel
theorem dX5_addLine_71 : decode cX5_addLine 71 = .ok (.iastore, 1) := by decide +kernel
theorem dX5_addLine_72 : decode cX5_addLine 72 = .ok (.aload_n 0, 1) := by decide +kernel
theorem dX5_addLine_73 : decode cX5_addLine 73 = .ok (.dup, 1) := by decide +kernel
theorem dX5_addLine_74 : decode cX5_addLine 74 = .ok (.getfield 15, 3) := by decide +kernel
theorem dX5_addLine_77 : decode cX5_addLine 77 = .ok (.iconst 1, 1) := by decide +kernel
theorem dX5_addLine_78 : decode cX5_addLine 78 = .ok (.iadd, 1) := by decide +kernel
theorem dX5_addLine_79 : decode cX5_addLine 79 = .ok (.putfield 15, 3) := by decide +kernel
theorem dX5_addLine_82 : decode cX5_addLine 82 = .ok (.aload_n 0, 1) := by decide +kernel
theorem dX5_addLine_83 : decode cX5_addLine 83 = .ok (.aload_n 1, 1) := by decide +kernel
theorem dX5_addLine_84 : decode cX5_addLine 84 = .ok (.iload_n 2, 1) := by decide +kernel
theorem dX5_addLine_85 : decode cX5_addLine 85 = .ok (.iload_n 3, 1) := by decide +kernel
theorem dX5_addLine_86 : decode cX5_addLine 86 = .ok (.iload 4, 2) := by decide +kernel
theorem dX5_addLine_88 : decode cX5_addLine 88 = .ok (.iconst 1, 1) := by decide +kernel
theorem dX5_addLine_89 : decode cX5_addLine 89 = .ok (.iadd, 1) := by decide +kernel
theorem dX5_addLine_90 : decode cX5_addLine 90 = .ok (.invokevirtual 32, 3) := by decide +kernel
theorem dX5_addLine_93 : decode cX5_addLine 93 = .ok (.return_, 1) := by decide +kernel
theorem dX5_addChildren_0 : decode cX5_addChildren 0 = .ok (.aload_n 1, 1) := by decide +kernel
theorem dX5_addChildren_1 : decode cX5_addChildren 1 = .ok (.iload_n 2, 1) := by decide +kernel
theorem dX5_addChildren_2 : decode cX5_addChildren 2 = .ok (.invokevirtual 42, 3) := by decide +kernel
theorem dX5_addChildren_5 : decode cX5_addChildren 5 = .ok (.istore 5, 2) := by decide +kernel
theorem dX5_addChildren_7 : decode cX5_addChildren 7 = .ok (.iconst 0, 1) := by decide +kernel
theorem dX5_addChildren_8 : decode cX5_addChildren 8 = .ok (.istore 6, 2) := by decide +kernel
theorem dX5_addChildren_10 : decode cX5_addChildren 10 = .ok (.iload 6, 2) := by decide +kernel
theorem dX5_addChildren_12 : decode cX5_addChildren 12 = .ok (.bipush 7, 2) := by decide +kernel
theorem dX5_addChildren_14 : decode cX5_addChildren 14 = .ok (.if_icmp .ge 44, 3) := by decide +kernel
theorem dX5_addChildren_17 : decode cX5_addChildren 17 = .ok (.iload 5, 2) := by decide +kernel
theorem dX5_addChildren_19 : decode cX5_addChildren 19 = .ok (.ifCond .eq 39, 3) := by decide +kernel
theorem dX5_addChildren_22 : decode cX5_addChildren 22 = .ok (.aload_n 1, 1) := by decide +kernel
theorem dX5_addChildren_23 : decode cX5_addChildren 23 = .ok (.iload 5, 2) := by decide +kernel
theorem dX5_addChildren_25 : decode cX5_addChildren 25 = .ok (.iload_n 3, 1) := by decide +kernel
theorem dX5_addChildren_26 : decode cX5_addChildren 26 = .ok (.invokestatic 45, 3) := by decide +kernel
theorem dX5_addChildren_29 : decode cX5_addChildren 29 = .ok (.istore 7, 2) := by decide +kernel
theorem dX5_addChildren_31 : decode cX5_addChildren 31 = .ok (.iload 5, 2) := by decide +kernel
theorem dX5_addChildren_33 : decode cX5_addChildren 33 = .ok (.iconst 1, 1) := by decide +kernel
theorem dX5_addChildren_34 : decode cX5_addChildren 34 = .ok (.iload 7, 2) := by decide +kernel
theorem dX5_addChildren_36 : decode cX5_addChildren 36 = .ok (.ishl, 1) := by decide +kernel
theorem dX5_addChildren_37 : decode cX5_addChildren 37 = .ok (.iconst (-1), 1) := by decide +kernel
theorem dX5_addChildren_38 : decode cX5_addChildren 38 = .ok (.ixor, 1) := by decide +kernel
theorem dX5_addChildren_39 : decode cX5_addChildren 39 = .ok (.iand, 1) := by decide +kernel
theorem dX5_addChildren_40 : decode cX5_addChildren 40 = .ok (.istore 5, 2) := by decide +kernel
theorem dX5_addChildren_42 : decode cX5_addChildren 42 = .ok (.aload_n 0, 1) := by decide +kernel
theorem dX5_addChildren_43 : decode cX5_addChildren 43 = .ok (.aload_n 1, 1) := by decide +kernel
theorem dX5_addChildren_44 : decode cX5_addChildren 44 = .ok (.iload 7, 2) := by decide +kernel
theorem dX5_addChildren_46 : decode cX5_addChildren 46 = .ok (.iload_n 3, 1) := by decide +kernel
theorem dX5_addChildren_47 : decode cX5_addChildren 47 = .ok (.iload 4, 2) := by decide +kernel
theorem dX5_addChildren_49 : decode cX5_addChildren 49 = .ok (.invokevirtual 22, 3) := by decide +kernel
theorem dX5_addChildren_52 : decode cX5_addChildren 52 = .ok (.iinc 6 1, 3) := by decide +kernel
theorem dX5_addChildren_55 : decode cX5_addChildren 55 = .ok (.goto (-45), 3) := by decide +kernel
theorem dX5_addChildren_58 : decode cX5_addChildren 58 = .ok (.return_, 1) := by decide +kernel
theorem dX5_firstChild_0 : decode cX5_firstChild 0 = .ok (.bipush (-9), 2) := by decide +kernel
theorem dX5_firstChild_2 : decode cX5_firstChild 2 = .ok (.istore_n 3, 1) := by decide +kernel
theorem dX5_firstChild_3 : decode cX5_firstChild 3 = .ok (.iconst 0, 1) := by decide +kernel
theorem dX5_firstChild_4 : decode cX5_firstChild 4 = .ok (.istore 4, 2) := by decide +kernel
theorem dX5_firstChild_6 : decode cX5_firstChild 6 = .ok (.iload 4, 2) := by decide +kernel
theorem dX5_firstChild_8 : decode cX5_firstChild 8 = .ok (.bipush 7, 2) := by decide +kernel
theorem dX5_firstChild_10 : decode cX5_firstChild 10 = .ok (.if_icmp .ge 39, 3) := by decide +kernel
theorem dX5_firstChild_13 : decode cX5_firstChild 13 = .ok (.iload_n 1, 1) := by decide +kernel
theorem dX5_firstChild_14 : decode cX5_firstChild 14 = .ok (.iload 4, 2) := by decide +kernel
theorem dX5_firstChild_16 : decode cX5_firstChild 16 = .ok (.ishr, 1) := by decide +kernel
theorem dX5_firstChild_17 : decode cX5_firstChild 17 = .ok (.iconst 1, 1) := by decide +kernel
theorem dX5_firstChild_18 : decode cX5_firstChild 18 = .ok (.iand, 1) := by decide +kernel
theorem dX5_firstChild_19 : decode cX5_firstChild 19 = .ok (.iconst 1, 1) := by decide +kernel
theorem dX5_firstChild_20 : decode cX5_firstChild 20 = .ok (.if_icmp .ne 23, 3) := by decide +kernel
theorem dX5_firstChild_23 : decode cX5_firstChild 23 = .ok (.iload_n 3, 1) := by decide +kernel
theorem dX5_firstChild_24 : decode cX5_firstChild 24 = .ok (.bipush (-9), 2) := by decide +kernel
theorem dX5_firstChild_26 : decode cX5_firstChild 26 = .ok (.if_icmp .eq 14, 3) := by decide +kernel
theorem dX5_firstChild_29 : decode cX5_firstChild 29 = .ok (.aload_n 0, 1) := by decide +kernel
theorem dX5_firstChild_30 : decode cX5_firstChild 30 = .ok (.iload 4, 2) := by decide +kernel
theorem dX5_firstChild_32 : decode cX5_firstChild 32 = .ok (.iload_n 3, 1) := by decide +kernel
theorem dX5_firstChild_33 : decode cX5_firstChild 33 = .ok (.iload_n 2, 1) := by decide +kernel
theorem dX5_firstChild_34 : decode cX5_firstChild 34 = .ok (.invokestatic 49, 3) := by decide +kernel
theorem dX5_firstChild_37 : decode cX5_firstChild 37 = .ok (.ifCond .eq 6, 3) := by decide +kernel
theorem dX5_firstChild_40 : decode cX5_firstChild 40 = .ok (.iload 4, 2) := by decide +kernel
theorem dX5_firstChild_42 : decode cX5_firstChild 42 = .ok (.istore_n 3, 1) := by decide +kernel
theorem dX5_firstChild_43 : decode cX5_firstChild 43 = .ok (.iinc 4 1, 3) := by decide +kernel
theorem dX5_firstChild_46 : decode cX5_firstChild 46 = .ok (.goto (-40), 3) := by decide +kernel
theorem dX5_firstChild_49 : decode cX5_firstChild 49 = .ok (.iload_n 3, 1) := by decide +kernel
theorem dX5_firstChild_50 : decode cX5_firstChild 50 = .ok (.ireturn, 1) := by decide +kernel
theorem dX5_goesAhead_0 : decode cX5_goesAhead 0 = .ok (.iload_n 3, 1) := by decide +kernel
theorem dX5_goesAhead_1 : decode cX5_goesAhead 1 = .ok (.iconst 2, 1) := by decide +kernel
theorem dX5_goesAhead_2 : decode cX5_goesAhead 2 = .ok (.if_icmp .ne 22, 3) := by decide +kernel
theorem dX5_goesAhead_5 : decode cX5_goesAhead 5 = .ok (.aload_n 0, 1) := by decide +kernel
theorem dX5_goesAhead_6 : decode cX5_goesAhead 6 = .ok (.iload_n 1, 1) := by decide +kernel
theorem dX5_goesAhead_7 : decode cX5_goesAhead 7 = .ok (.invokevirtual 39, 3) := by decide +kernel
theorem dX5_goesAhead_10 : decode cX5_goesAhead 10 = .ok (.aload_n 0, 1) := by decide +kernel
theorem dX5_goesAhead_11 : decode cX5_goesAhead 11 = .ok (.iload_n 2, 1) := by decide +kernel
theorem dX5_goesAhead_12 : decode cX5_goesAhead 12 = .ok (.invokevirtual 39, 3) := by decide +kernel
theorem dX5_goesAhead_15 : decode cX5_goesAhead 15 = .ok (.if_icmp .eq 9, 3) := by decide +kernel
theorem dX5_goesAhead_18 : decode cX5_goesAhead 18 = .ok (.aload_n 0, 1) := by decide +kernel
theorem dX5_goesAhead_19 : decode cX5_goesAhead 19 = .ok (.iload_n 1, 1) := by decide +kernel
theorem dX5_goesAhead_20 : decode cX5_goesAhead 20 = .ok (.invokevirtual 39, 3) := by decide +kernel
theorem dX5_goesAhead_23 : decode cX5_goesAhead 23 = .ok (.ireturn, 1) := by decide +kernel
theorem dX5_goesAhead_24 : decode cX5_goesAhead 24 = .ok (.aload_n 0, 1) := by decide +kernel
theorem dX5_goesAhead_25 : decode cX5_goesAhead 25 = .ok (.iload_n 1, 1) := by decide +kernel
theorem dX5_goesAhead_26 : decode cX5_goesAhead 26 = .ok (.invokevirtual 53, 3) := by decide +kernel
theorem dX5_goesAhead_29 : decode cX5_goesAhead 29 = .ok (.aload_n 0, 1) := by decide +kernel
theorem dX5_goesAhead_30 : decode cX5_goesAhead 30 = .ok (.iload_n 2, 1) := by decide +kernel
theorem dX5_goesAhead_31 : decode cX5_goesAhead 31 = .ok (.invokevirtual 53, 3) := by decide +kernel
theorem dX5_goesAhead_34 : decode cX5_goesAhead 34 = .ok (.if_icmp .le 7, 3) := by decide +kernel
theorem dX5_goesAhead_37 : decode cX5_goesAhead 37 = .ok (.iconst 1, 1) := by decide +kernel
theorem dX5_goesAhead_38 : decode cX5_goesAhead 38 = .ok (.goto 4, 3) := by decide +kernel
theorem dX5_goesAhead_41 : decode cX5_goesAhead 41 = .ok (.iconst 0, 1) := by decide +kernel
theorem dX5_goesAhead_42 : decode cX5_goesAhead 42 = .ok (.istore 4, 2) := by decide +kernel
theorem dX5_goesAhead_44 : decode cX5_goesAhead 44 = .ok (.iload 4, 2) := by decide +kernel
theorem dX5_goesAhead_46 : decode cX5_goesAhead 46 = .ok (.iload_n 3, 1) := by decide +kernel
theorem dX5_goesAhead_47 : decode cX5_goesAhead 47 = .ok (.iconst 3, 1) := by decide +kernel
theorem dX5_goesAhead_48 : decode cX5_goesAhead 48 = .ok (.if_icmp .ne 7, 3) := by decide +kernel
theorem dX5_goesAhead_51 : decode cX5_goesAhead 51 = .ok (.iconst 1, 1) := by decide +kernel
theorem dX5_goesAhead_52 : decode cX5_goesAhead 52 = .ok (.goto 4, 3) := by decide +kernel
theorem dX5_goesAhead_55 : decode cX5_goesAhead 55 = .ok (.iconst 0, 1) := by decide +kernel
theorem dX5_goesAhead_56 : decode cX5_goesAhead 56 = .ok (.if_icmp .eq 7, 3) := by decide +kernel
theorem dX5_goesAhead_59 : decode cX5_goesAhead 59 = .ok (.iconst 1, 1) := by decide +kernel
theorem dX5_goesAhead_60 : decode cX5_goesAhead 60 = .ok (.goto 4, 3) := by decide +kernel
theorem dX5_goesAhead_63 : decode cX5_goesAhead 63 = .ok (.iconst 0, 1) := by decide +kernel
theorem dX5_goesAhead_64 : decode cX5_goesAhead 64 = .ok (.ireturn, 1) := by decide +kernel
theorem dX5_firstOf_0 : decode cX5_firstOf 0 = .ok (.iconst 0, 1) := by decide +kernel
theorem dX5_firstOf_1 : decode cX5_firstOf 1 = .ok (.istore_n 2, 1) := by decide +kernel
theorem dX5_firstOf_2 : decode cX5_firstOf 2 = .ok (.iload_n 2, 1) := by decide +kernel
theorem dX5_firstOf_3 : decode cX5_firstOf 3 = .ok (.aload_n 0, 1) := by decide +kernel
theorem dX5_firstOf_4 : decode cX5_firstOf 4 = .ok (.getfield 15, 3) := by decide +kernel
theorem dX5_firstOf_7 : decode cX5_firstOf 7 = .ok (.if_icmp .ge 36, 3) := by decide +kernel
theorem dX5_firstOf_10 : decode cX5_firstOf 10 = .ok (.iload_n 2, 1) := by decide +kernel
theorem dX5_firstOf_11 : decode cX5_firstOf 11 = .ok (.bipush 7, 2) := by decide +kernel
theorem dX5_firstOf_13 : decode cX5_firstOf 13 = .ok (.if_icmp .ge 30, 3) := by decide +kernel
theorem dX5_firstOf_16 : decode cX5_firstOf 16 = .ok (.iload_n 1, 1) := by decide +kernel
theorem dX5_firstOf_17 : decode cX5_firstOf 17 = .ok (.aload_n 0, 1) := by decide +kernel
theorem dX5_firstOf_18 : decode cX5_firstOf 18 = .ok (.getfield 9, 3) := by decide +kernel
theorem dX5_firstOf_21 : decode cX5_firstOf 21 = .ok (.iload_n 2, 1) := by decide +kernel
theorem dX5_firstOf_22 : decode cX5_firstOf 22 = .ok (.iaload, 1) := by decide +kernel
theorem dX5_firstOf_23 : decode cX5_firstOf 23 = .ok (.ishr, 1) := by decide +kernel
theorem dX5_firstOf_24 : decode cX5_firstOf 24 = .ok (.iconst 1, 1) := by decide +kernel
theorem dX5_firstOf_25 : decode cX5_firstOf 25 = .ok (.iand, 1) := by decide +kernel
theorem dX5_firstOf_26 : decode cX5_firstOf 26 = .ok (.iconst 1, 1) := by decide +kernel
theorem dX5_firstOf_27 : decode cX5_firstOf 27 = .ok (.if_icmp .ne 10, 3) := by decide +kernel
theorem dX5_firstOf_30 : decode cX5_firstOf 30 = .ok (.aload_n 0, 1) := by decide +kernel
theorem dX5_firstOf_31 : decode cX5_firstOf 31 = .ok (.getfield 9, 3) := by decide +kernel
theorem dX5_firstOf_34 : decode cX5_firstOf 34 = .ok (.iload_n 2, 1) := by decide +kernel
theorem dX5_firstOf_35 : decode cX5_firstOf 35 = .ok (.iaload, 1) := by decide +kernel
theorem dX5_firstOf_36 : decode cX5_firstOf 36 = .ok (.ireturn, 1) := by decide +kernel
theorem dX5_firstOf_37 : decode cX5_firstOf 37 = .ok (.iinc 2 1, 3) := by decide +kernel
theorem dX5_firstOf_40 : decode cX5_firstOf 40 = .ok (.goto (-38), 3) := by decide +kernel
theorem dX5_firstOf_43 : decode cX5_firstOf 43 = .ok (.bipush (-9), 2) := by decide +kernel
theorem dX5_firstOf_45 : decode cX5_firstOf 45 = .ok (.ireturn, 1) := by decide +kernel
theorem dX5_allOf_0 : decode cX5_allOf 0 = .ok (.iconst 0, 1) := by decide +kernel
theorem dX5_allOf_1 : decode cX5_allOf 1 = .ok (.istore_n 2, 1) := by decide +kernel
theorem dX5_allOf_2 : decode cX5_allOf 2 = .ok (.iconst 0, 1) := by decide +kernel
theorem dX5_allOf_3 : decode cX5_allOf 3 = .ok (.istore_n 3, 1) := by decide +kernel
theorem dX5_allOf_4 : decode cX5_allOf 4 = .ok (.iload_n 3, 1) := by decide +kernel
theorem dX5_allOf_5 : decode cX5_allOf 5 = .ok (.aload_n 0, 1) := by decide +kernel
theorem dX5_allOf_6 : decode cX5_allOf 6 = .ok (.getfield 15, 3) := by decide +kernel
theorem dX5_allOf_9 : decode cX5_allOf 9 = .ok (.if_icmp .ge 26, 3) := by decide +kernel
theorem dX5_allOf_12 : decode cX5_allOf 12 = .ok (.iload_n 3, 1) := by decide +kernel
theorem dX5_allOf_13 : decode cX5_allOf 13 = .ok (.bipush 7, 2) := by decide +kernel
theorem dX5_allOf_15 : decode cX5_allOf 15 = .ok (.if_icmp .ge 20, 3) := by decide +kernel
theorem dX5_allOf_18 : decode cX5_allOf 18 = .ok (.iload_n 2, 1) := by decide +kernel
theorem dX5_allOf_19 : decode cX5_allOf 19 = .ok (.iconst 1, 1) := by decide +kernel
theorem dX5_allOf_20 : decode cX5_allOf 20 = .ok (.aload_n 0, 1) := by decide +kernel
theorem dX5_allOf_21 : decode cX5_allOf 21 = .ok (.getfield 9, 3) := by decide +kernel
theorem dX5_allOf_24 : decode cX5_allOf 24 = .ok (.iload_n 3, 1) := by decide +kernel
theorem dX5_allOf_25 : decode cX5_allOf 25 = .ok (.iaload, 1) := by decide +kernel
theorem dX5_allOf_26 : decode cX5_allOf 26 = .ok (.ishl, 1) := by decide +kernel
theorem dX5_allOf_27 : decode cX5_allOf 27 = .ok (.ior, 1) := by decide +kernel
theorem dX5_allOf_28 : decode cX5_allOf 28 = .ok (.istore_n 2, 1) := by decide +kernel
theorem dX5_allOf_29 : decode cX5_allOf 29 = .ok (.iinc 3 1, 3) := by decide +kernel
theorem dX5_allOf_32 : decode cX5_allOf 32 = .ok (.goto (-28), 3) := by decide +kernel
theorem dX5_allOf_35 : decode cX5_allOf 35 = .ok (.iload_n 2, 1) := by decide +kernel
theorem dX5_allOf_36 : decode cX5_allOf 36 = .ok (.iload_n 1, 1) := by decide +kernel
theorem dX5_allOf_37 : decode cX5_allOf 37 = .ok (.iand, 1) := by decide +kernel
theorem dX5_allOf_38 : decode cX5_allOf 38 = .ok (.ireturn, 1) := by decide +kernel
theorem dX5_placeOf_0 : decode cX5_placeOf 0 = .ok (.iconst 0, 1) := by decide +kernel
theorem dX5_placeOf_1 : decode cX5_placeOf 1 = .ok (.istore_n 2, 1) := by decide +kernel
theorem dX5_placeOf_2 : decode cX5_placeOf 2 = .ok (.iload_n 2, 1) := by decide +kernel
theorem dX5_placeOf_3 : decode cX5_placeOf 3 = .ok (.aload_n 0, 1) := by decide +kernel
theorem dX5_placeOf_4 : decode cX5_placeOf 4 = .ok (.getfield 15, 3) := by decide +kernel
theorem dX5_placeOf_7 : decode cX5_placeOf 7 = .ok (.if_icmp .ge 27, 3) := by decide +kernel
theorem dX5_placeOf_10 : decode cX5_placeOf 10 = .ok (.iload_n 2, 1) := by decide +kernel
theorem dX5_placeOf_11 : decode cX5_placeOf 11 = .ok (.bipush 7, 2) := by decide +kernel
theorem dX5_placeOf_13 : decode cX5_placeOf 13 = .ok (.if_icmp .ge 21, 3) := by decide +kernel
theorem dX5_placeOf_16 : decode cX5_placeOf 16 = .ok (.aload_n 0, 1) := by decide +kernel
theorem dX5_placeOf_17 : decode cX5_placeOf 17 = .ok (.getfield 9, 3) := by decide +kernel
theorem dX5_placeOf_20 : decode cX5_placeOf 20 = .ok (.iload_n 2, 1) := by decide +kernel
theorem dX5_placeOf_21 : decode cX5_placeOf 21 = .ok (.iaload, 1) := by decide +kernel
theorem dX5_placeOf_22 : decode cX5_placeOf 22 = .ok (.iload_n 1, 1) := by decide +kernel
theorem dX5_placeOf_23 : decode cX5_placeOf 23 = .ok (.if_icmp .ne 5, 3) := by decide +kernel
theorem dX5_placeOf_26 : decode cX5_placeOf 26 = .ok (.iload_n 2, 1) := by decide +kernel
theorem dX5_placeOf_27 : decode cX5_placeOf 27 = .ok (.ireturn, 1) := by decide +kernel
theorem dX5_placeOf_28 : decode cX5_placeOf 28 = .ok (.iinc 2 1, 3) := by decide +kernel
theorem dX5_placeOf_31 : decode cX5_placeOf 31 = .ok (.goto (-29), 3) := by decide +kernel
theorem dX5_placeOf_34 : decode cX5_placeOf 34 = .ok (.bipush (-9), 2) := by decide +kernel
theorem dX5_placeOf_36 : decode cX5_placeOf 36 = .ok (.ireturn, 1) := by decide +kernel
theorem dX6_init_0 : decode cX6_init 0 = .ok (.aload_n 0, 1) := by decide +kernel
theorem dX6_init_1 : decode cX6_init 1 = .ok (.invokespecial 3, 3) := by decide +kernel
theorem dX6_init_4 : decode cX6_init 4 = .ok (.aload_n 0, 1) := by decide +kernel
theorem dX6_init_5 : decode cX6_init 5 = .ok (.bipush 7, 2) := by decide +kernel
theorem dX6_init_7 : decode cX6_init 7 = .ok (.newarray .int, 2) := by decide +kernel
theorem dX6_init_9 : decode cX6_init 9 = .ok (.putfield 9, 3) := by decide +kernel
theorem dX6_init_12 : decode cX6_init 12 = .ok (.aload_n 0, 1) := by decide +kernel
theorem dX6_init_13 : decode cX6_init 13 = .ok (.bipush 7, 2) := by decide +kernel
theorem dX6_init_15 : decode cX6_init 15 = .ok (.newarray .int, 2) := by decide +kernel
theorem dX6_init_17 : decode cX6_init 17 = .ok (.putfield 15, 3) := by decide +kernel
theorem dX6_init_20 : decode cX6_init 20 = .ok (.aload_n 0, 1) := by decide +kernel
theorem dX6_init_21 : decode cX6_init 21 = .ok (.bipush (-9), 2) := by decide +kernel
theorem dX6_init_23 : decode cX6_init 23 = .ok (.putfield 18, 3) := by decide +kernel
theorem dX6_init_26 : decode cX6_init 26 = .ok (.return_, 1) := by decide +kernel
theorem dX6_clear_0 : decode cX6_clear 0 = .ok (.aload_n 0, 1) := by decide +kernel
theorem dX6_clear_1 : decode cX6_clear 1 = .ok (.iconst 0, 1) := by decide +kernel
theorem dX6_clear_2 : decode cX6_clear 2 = .ok (.putfield 22, 3) := by decide +kernel
theorem dX6_clear_5 : decode cX6_clear 5 = .ok (.aload_n 0, 1) := by decide +kernel
theorem dX6_clear_6 : decode cX6_clear 6 = .ok (.iconst 0, 1) := by decide +kernel
theorem dX6_clear_7 : decode cX6_clear 7 = .ok (.putfield 25, 3) := by decide +kernel
theorem dX6_clear_10 : decode cX6_clear 10 = .ok (.aload_n 0, 1) := by decide +kernel
theorem dX6_clear_11 : decode cX6_clear 11 = .ok (.iconst 0, 1) := by decide +kernel
theorem dX6_clear_12 : decode cX6_clear 12 = .ok (.putfield 28, 3) := by decide +kernel
theorem dX6_clear_15 : decode cX6_clear 15 = .ok (.aload_n 0, 1) := by decide +kernel
theorem dX6_clear_16 : decode cX6_clear 16 = .ok (.bipush (-9), 2) := by decide +kernel
theorem dX6_clear_18 : decode cX6_clear 18 = .ok (.putfield 18, 3) := by decide +kernel
theorem dX6_clear_21 : decode cX6_clear 21 = .ok (.aload_n 0, 1) := by decide +kernel
theorem dX6_clear_22 : decode cX6_clear 22 = .ok (.iconst 0, 1) := by decide +kernel
theorem dX6_clear_23 : decode cX6_clear 23 = .ok (.putfield 31, 3) := by decide +kernel
theorem dX6_clear_26 : decode cX6_clear 26 = .ok (.aload_n 0, 1) := by decide +kernel
theorem dX6_clear_27 : decode cX6_clear 27 = .ok (.iconst 0, 1) := by decide +kernel
theorem dX6_clear_28 : decode cX6_clear 28 = .ok (.putfield 34, 3) := by decide +kernel
theorem dX6_clear_31 : decode cX6_clear 31 = .ok (.aload_n 0, 1) := by decide +kernel
theorem dX6_clear_32 : decode cX6_clear 32 = .ok (.iconst 0, 1) := by decide +kernel
theorem dX6_clear_33 : decode cX6_clear 33 = .ok (.putfield 37, 3) := by decide +kernel
theorem dX6_clear_36 : decode cX6_clear 36 = .ok (.aload_n 0, 1) := by decide +kernel
theorem dX6_clear_37 : decode cX6_clear 37 = .ok (.iconst 0, 1) := by decide +kernel
theorem dX6_clear_38 : decode cX6_clear 38 = .ok (.putfield 40, 3) := by decide +kernel
theorem dX6_clear_41 : decode cX6_clear 41 = .ok (.return_, 1) := by decide +kernel
theorem dX6_copy_0 : decode cX6_copy 0 = .ok (.aload_n 1, 1) := by decide +kernel
theorem dX6_copy_1 : decode cX6_copy 1 = .ok (.getfield 9, 3) := by decide +kernel
theorem dX6_copy_4 : decode cX6_copy 4 = .ok (.iconst 0, 1) := by decide +kernel
theorem dX6_copy_5 : decode cX6_copy 5 = .ok (.aload_n 0, 1) := by decide +kernel
theorem dX6_copy_6 : decode cX6_copy 6 = .ok (.getfield 9, 3) := by decide +kernel
theorem dX6_copy_9 : decode cX6_copy 9 = .ok (.iconst 0, 1) := by decide +kernel
theorem dX6_copy_10 : decode cX6_copy 10 = .ok (.bipush 7, 2) := by decide +kernel
theorem dX6_copy_12 : decode cX6_copy 12 = .ok (.invokestatic 43, 3) := by decide +kernel
theorem dX6_copy_15 : decode cX6_copy 15 = .ok (.aload_n 1, 1) := by decide +kernel
theorem dX6_copy_16 : decode cX6_copy 16 = .ok (.getfield 15, 3) := by decide +kernel
theorem dX6_copy_19 : decode cX6_copy 19 = .ok (.iconst 0, 1) := by decide +kernel
theorem dX6_copy_20 : decode cX6_copy 20 = .ok (.aload_n 0, 1) := by decide +kernel
theorem dX6_copy_21 : decode cX6_copy 21 = .ok (.getfield 15, 3) := by decide +kernel
theorem dX6_copy_24 : decode cX6_copy 24 = .ok (.iconst 0, 1) := by decide +kernel
theorem dX6_copy_25 : decode cX6_copy 25 = .ok (.bipush 7, 2) := by decide +kernel
theorem dX6_copy_27 : decode cX6_copy 27 = .ok (.invokestatic 43, 3) := by decide +kernel
theorem dX6_copy_30 : decode cX6_copy 30 = .ok (.aload_n 0, 1) := by decide +kernel
theorem dX6_copy_31 : decode cX6_copy 31 = .ok (.aload_n 1, 1) := by decide +kernel
theorem dX6_copy_32 : decode cX6_copy 32 = .ok (.getfield 22, 3) := by decide +kernel
theorem dX6_copy_35 : decode cX6_copy 35 = .ok (.putfield 22, 3) := by decide +kernel
theorem dX6_copy_38 : decode cX6_copy 38 = .ok (.aload_n 0, 1) := by decide +kernel
theorem dX6_copy_39 : decode cX6_copy 39 = .ok (.aload_n 1, 1) := by decide +kernel
theorem dX6_copy_40 : decode cX6_copy 40 = .ok (.getfield 25, 3) := by decide +kernel
theorem dX6_copy_43 : decode cX6_copy 43 = .ok (.putfield 25, 3) := by decide +kernel
theorem dX6_copy_46 : decode cX6_copy 46 = .ok (.aload_n 0, 1) := by decide +kernel
theorem dX6_copy_47 : decode cX6_copy 47 = .ok (.aload_n 1, 1) := by decide +kernel
theorem dX6_copy_48 : decode cX6_copy 48 = .ok (.getfield 28, 3) := by decide +kernel
theorem dX6_copy_51 : decode cX6_copy 51 = .ok (.putfield 28, 3) := by decide +kernel
theorem dX6_copy_54 : decode cX6_copy 54 = .ok (.aload_n 0, 1) := by decide +kernel
theorem dX6_copy_55 : decode cX6_copy 55 = .ok (.aload_n 1, 1) := by decide +kernel
theorem dX6_copy_56 : decode cX6_copy 56 = .ok (.getfield 18, 3) := by decide +kernel
theorem dX6_copy_59 : decode cX6_copy 59 = .ok (.putfield 18, 3) := by decide +kernel
theorem dX6_copy_62 : decode cX6_copy 62 = .ok (.aload_n 0, 1) := by decide +kernel
theorem dX6_copy_63 : decode cX6_copy 63 = .ok (.aload_n 1, 1) := by decide +kernel
theorem dX6_copy_64 : decode cX6_copy 64 = .ok (.getfield 31, 3) := by decide +kernel
theorem dX6_copy_67 : decode cX6_copy 67 = .ok (.putfield 31, 3) := by decide +kernel
theorem dX6_copy_70 : decode cX6_copy 70 = .ok (.aload_n 0, 1) := by decide +kernel
theorem dX6_copy_71 : decode cX6_copy 71 = .ok (.aload_n 1, 1) := by decide +kernel
theorem dX6_copy_72 : decode cX6_copy 72 = .ok (.getfield 34, 3) := by decide +kernel
theorem dX6_copy_75 : decode cX6_copy 75 = .ok (.putfield 34, 3) := by decide +kernel
theorem dX6_copy_78 : decode cX6_copy 78 = .ok (.aload_n 0, 1) := by decide +kernel
theorem dX6_copy_79 : decode cX6_copy 79 = .ok (.aload_n 1, 1) := by decide +kernel
theorem dX6_copy_80 : decode cX6_copy 80 = .ok (.getfield 37, 3) := by decide +kernel
theorem dX6_copy_83 : decode cX6_copy 83 = .ok (.putfield 37, 3) := by decide +kernel
theorem dX6_copy_86 : decode cX6_copy 86 = .ok (.aload_n 0, 1) := by decide +kernel
theorem dX6_copy_87 : decode cX6_copy 87 = .ok (.aload_n 1, 1) := by decide +kernel
theorem dX6_copy_88 : decode cX6_copy 88 = .ok (.getfield 40, 3) := by decide +kernel
theorem dX6_copy_91 : decode cX6_copy 91 = .ok (.putfield 40, 3) := by decide +kernel
theorem dX6_copy_94 : decode cX6_copy 94 = .ok (.return_, 1) := by decide +kernel
theorem dX6_has_0 : decode cX6_has 0 = .ok (.iload_n 1, 1) := by decide +kernel
theorem dX6_has_1 : decode cX6_has 1 = .ok (.ifCond .lt 21, 3) := by decide +kernel
theorem dX6_has_4 : decode cX6_has 4 = .ok (.iload_n 1, 1) := by decide +kernel
theorem dX6_has_5 : decode cX6_has 5 = .ok (.aload_n 0, 1) := by decide +kernel
theorem dX6_has_6 : decode cX6_has 6 = .ok (.getfield 25, 3) := by decide +kernel
theorem dX6_has_9 : decode cX6_has 9 = .ok (.if_icmp .ge 13, 3) := by decide +kernel
theorem dX6_has_12 : decode cX6_has 12 = .ok (.iload_n 1, 1) := by decide +kernel
theorem dX6_has_13 : decode cX6_has 13 = .ok (.bipush 7, 2) := by decide +kernel
theorem dX6_has_15 : decode cX6_has 15 = .ok (.if_icmp .ge 7, 3) := by decide +kernel
theorem dX6_has_18 : decode cX6_has 18 = .ok (.iconst 1, 1) := by decide +kernel
theorem dX6_has_19 : decode cX6_has 19 = .ok (.goto 4, 3) := by decide +kernel
theorem dX6_has_22 : decode cX6_has 22 = .ok (.iconst 0, 1) := by decide +kernel
theorem dX6_has_23 : decode cX6_has 23 = .ok (.ireturn, 1) := by decide +kernel
theorem dX6_lives_0 : decode cX6_lives 0 = .ok (.aload_n 0, 1) := by decide +kernel
theorem dX6_lives_1 : decode cX6_lives 1 = .ok (.iload_n 1, 1) := by decide +kernel
theorem dX6_lives_2 : decode cX6_lives 2 = .ok (.invokevirtual 49, 3) := by decide +kernel
theorem dX6_lives_5 : decode cX6_lives 5 = .ok (.ifCond .eq 19, 3) := by decide +kernel
theorem dX6_lives_8 : decode cX6_lives 8 = .ok (.aload_n 0, 1) := by decide +kernel
theorem dX6_lives_9 : decode cX6_lives 9 = .ok (.getfield 28, 3) := by decide +kernel
theorem dX6_lives_12 : decode cX6_lives 12 = .ok (.iload_n 1, 1) := by decide +kernel
theorem dX6_lives_13 : decode cX6_lives 13 = .ok (.ishr, 1) := by decide +kernel
theorem dX6_lives_14 : decode cX6_lives 14 = .ok (.iconst 1, 1) := by decide +kernel
theorem dX6_lives_15 : decode cX6_lives 15 = .ok (.iand, 1) := by decide +kernel
theorem dX6_lives_16 : decode cX6_lives 16 = .ok (.iconst 1, 1) := by decide +kernel
theorem dX6_lives_17 : decode cX6_lives 17 = .ok (.if_icmp .ne 7, 3) := by decide +kernel
theorem dX6_lives_20 : decode cX6_lives 20 = .ok (.iconst 1, 1) := by decide +kernel
theorem dX6_lives_21 : decode cX6_lives 21 = .ok (.goto 4, 3) := by decide +kernel
theorem dX6_lives_24 : decode cX6_lives 24 = .ok (.iconst 0, 1) := by decide +kernel
theorem dX6_lives_25 : decode cX6_lives 25 = .ok (.ireturn, 1) := by decide +kernel
theorem dX6_isWoman_0 : decode cX6_isWoman 0 = .ok (.aload_n 0, 1) := by decide +kernel
theorem dX6_isWoman_1 : decode cX6_isWoman 1 = .ok (.iload_n 1, 1) := by decide +kernel
theorem dX6_isWoman_2 : decode cX6_isWoman 2 = .ok (.invokevirtual 49, 3) := by decide +kernel
theorem dX6_isWoman_5 : decode cX6_isWoman 5 = .ok (.ifCond .eq 19, 3) := by decide +kernel
theorem dX6_isWoman_8 : decode cX6_isWoman 8 = .ok (.aload_n 0, 1) := by decide +kernel
theorem dX6_isWoman_9 : decode cX6_isWoman 9 = .ok (.getfield 22, 3) := by decide +kernel
theorem dX6_isWoman_12 : decode cX6_isWoman 12 = .ok (.iload_n 1, 1) := by decide +kernel
theorem dX6_isWoman_13 : decode cX6_isWoman 13 = .ok (.ishr, 1) := by decide +kernel
theorem dX6_isWoman_14 : decode cX6_isWoman 14 = .ok (.iconst 1, 1) := by decide +kernel
theorem dX6_isWoman_15 : decode cX6_isWoman 15 = .ok (.iand, 1) := by decide +kernel
theorem dX6_isWoman_16 : decode cX6_isWoman 16 = .ok (.iconst 1, 1) := by decide +kernel
theorem dX6_isWoman_17 : decode cX6_isWoman 17 = .ok (.if_icmp .ne 7, 3) := by decide +kernel
theorem dX6_isWoman_20 : decode cX6_isWoman 20 = .ok (.iconst 1, 1) := by decide +kernel
theorem dX6_isWoman_21 : decode cX6_isWoman 21 = .ok (.goto 4, 3) := by decide +kernel
theorem dX6_isWoman_24 : decode cX6_isWoman 24 = .ok (.iconst 0, 1) := by decide +kernel
theorem dX6_isWoman_25 : decode cX6_isWoman 25 = .ok (.ireturn, 1) := by decide +kernel
theorem dX6_parentOf_0 : decode cX6_parentOf 0 = .ok (.aload_n 0, 1) := by decide +kernel
theorem dX6_parentOf_1 : decode cX6_parentOf 1 = .ok (.iload_n 1, 1) := by decide +kernel
theorem dX6_parentOf_2 : decode cX6_parentOf 2 = .ok (.invokevirtual 49, 3) := by decide +kernel
theorem dX6_parentOf_5 : decode cX6_parentOf 5 = .ok (.ifCond .eq 12, 3) := by decide +kernel
theorem dX6_parentOf_8 : decode cX6_parentOf 8 = .ok (.aload_n 0, 1) := by decide +kernel
theorem dX6_parentOf_9 : decode cX6_parentOf 9 = .ok (.getfield 9, 3) := by decide +kernel
theorem dX6_parentOf_12 : decode cX6_parentOf 12 = .ok (.iload_n 1, 1) := by decide +kernel
theorem dX6_parentOf_13 : decode cX6_parentOf 13 = .ok (.iaload, 1) := by decide +kernel
theorem dX6_parentOf_14 : decode cX6_parentOf 14 = .ok (.goto 5, 3) := by decide +kernel
theorem dX6_parentOf_17 : decode cX6_parentOf 17 = .ok (.bipush (-9), 2) := by decide +kernel
theorem dX6_parentOf_19 : decode cX6_parentOf 19 = .ok (.ireturn, 1) := by decide +kernel
theorem dX6_ageOf_0 : decode cX6_ageOf 0 = .ok (.aload_n 0, 1) := by decide +kernel
theorem dX6_ageOf_1 : decode cX6_ageOf 1 = .ok (.iload_n 1, 1) := by decide +kernel
theorem dX6_ageOf_2 : decode cX6_ageOf 2 = .ok (.invokevirtual 49, 3) := by decide +kernel
theorem dX6_ageOf_5 : decode cX6_ageOf 5 = .ok (.ifCond .eq 12, 3) := by decide +kernel
theorem dX6_ageOf_8 : decode cX6_ageOf 8 = .ok (.aload_n 0, 1) := by decide +kernel
theorem dX6_ageOf_9 : decode cX6_ageOf 9 = .ok (.getfield 15, 3) := by decide +kernel
theorem dX6_ageOf_12 : decode cX6_ageOf 12 = .ok (.iload_n 1, 1) := by decide +kernel
theorem dX6_ageOf_13 : decode cX6_ageOf 13 = .ok (.iaload, 1) := by decide +kernel
theorem dX6_ageOf_14 : decode cX6_ageOf 14 = .ok (.goto 4, 3) := by decide +kernel
theorem dX6_ageOf_17 : decode cX6_ageOf 17 = .ok (.iconst 0, 1) := by decide +kernel
theorem dX6_ageOf_18 : decode cX6_ageOf 18 = .ok (.ireturn, 1) := by decide +kernel
theorem dX6_childrenOf_0 : decode cX6_childrenOf 0 = .ok (.iconst 0, 1) := by decide +kernel
theorem dX6_childrenOf_1 : decode cX6_childrenOf 1 = .ok (.istore_n 2, 1) := by decide +kernel
theorem dX6_childrenOf_2 : decode cX6_childrenOf 2 = .ok (.iconst 0, 1) := by decide +kernel
theorem dX6_childrenOf_3 : decode cX6_childrenOf 3 = .ok (.istore_n 3, 1) := by decide +kernel
theorem dX6_childrenOf_4 : decode cX6_childrenOf 4 = .ok (.iload_n 3, 1) := by decide +kernel
theorem dX6_childrenOf_5 : decode cX6_childrenOf 5 = .ok (.aload_n 0, 1) := by decide +kernel
theorem dX6_childrenOf_6 : decode cX6_childrenOf 6 = .ok (.getfield 25, 3) := by decide +kernel
theorem dX6_childrenOf_9 : decode cX6_childrenOf 9 = .ok (.if_icmp .ge 31, 3) := by decide +kernel
theorem dX6_childrenOf_12 : decode cX6_childrenOf 12 = .ok (.iload_n 3, 1) := by decide +kernel
theorem dX6_childrenOf_13 : decode cX6_childrenOf 13 = .ok (.bipush 7, 2) := by decide +kernel
theorem dX6_childrenOf_15 : decode cX6_childrenOf 15 = .ok (.if_icmp .ge 25, 3) := by decide +kernel
theorem dX6_childrenOf_18 : decode cX6_childrenOf 18 = .ok (.aload_n 0, 1) := by decide +kernel
theorem dX6_childrenOf_19 : decode cX6_childrenOf 19 = .ok (.getfield 9, 3) := by decide +kernel
theorem dX6_childrenOf_22 : decode cX6_childrenOf 22 = .ok (.iload_n 3, 1) := by decide +kernel
theorem dX6_childrenOf_23 : decode cX6_childrenOf 23 = .ok (.iaload, 1) := by decide +kernel
theorem dX6_childrenOf_24 : decode cX6_childrenOf 24 = .ok (.iload_n 1, 1) := by decide +kernel
theorem dX6_childrenOf_25 : decode cX6_childrenOf 25 = .ok (.if_icmp .ne 9, 3) := by decide +kernel
theorem dX6_childrenOf_28 : decode cX6_childrenOf 28 = .ok (.iload_n 2, 1) := by decide +kernel
theorem dX6_childrenOf_29 : decode cX6_childrenOf 29 = .ok (.iconst 1, 1) := by decide +kernel
theorem dX6_childrenOf_30 : decode cX6_childrenOf 30 = .ok (.iload_n 3, 1) := by decide +kernel
theorem dX6_childrenOf_31 : decode cX6_childrenOf 31 = .ok (.ishl, 1) := by decide +kernel
theorem dX6_childrenOf_32 : decode cX6_childrenOf 32 = .ok (.ior, 1) := by decide +kernel
theorem dX6_childrenOf_33 : decode cX6_childrenOf 33 = .ok (.istore_n 2, 1) := by decide +kernel
theorem dX6_childrenOf_34 : decode cX6_childrenOf 34 = .ok (.iinc 3 1, 3) := by decide +kernel
theorem dX6_childrenOf_37 : decode cX6_childrenOf 37 = .ok (.goto (-33), 3) := by decide +kernel
theorem dX6_childrenOf_40 : decode cX6_childrenOf 40 = .ok (.iload_n 2, 1) := by decide +kernel
theorem dX6_childrenOf_41 : decode cX6_childrenOf 41 = .ok (.ireturn, 1) := by decide +kernel
theorem dX6_gains_0 : decode cX6_gains 0 = .ok (.aload_n 0, 1) := by decide +kernel
theorem dX6_gains_1 : decode cX6_gains 1 = .ok (.getfield 25, 3) := by decide +kernel
theorem dX6_gains_4 : decode cX6_gains 4 = .ok (.ifCond .lt 12, 3) := by decide +kernel
theorem dX6_gains_7 : decode cX6_gains 7 = .ok (.aload_n 0, 1) := by decide +kernel
theorem dX6_gains_8 : decode cX6_gains 8 = .ok (.getfield 25, 3) := by decide +kernel
theorem dX6_gains_11 : decode cX6_gains 11 = .ok (.bipush 7, 2) := by decide +kernel
theorem dX6_gains_13 : decode cX6_gains 13 = .ok (.if_icmp .lt 4, 3) := by decide +kernel
theorem dX6_gains_16 : decode cX6_gains 16 = .ok (.return_, 1) := by decide +kernel
theorem dX6_gains_17 : decode cX6_gains 17 = .ok (.aload_n 0, 1) := by decide +kernel
theorem dX6_gains_18 : decode cX6_gains 18 = .ok (.getfield 9, 3) := by decide +kernel
theorem dX6_gains_21 : decode cX6_gains 21 = .ok (.aload_n 0, 1) := by decide +kernel
theorem dX6_gains_22 : decode cX6_gains 22 = .ok (.getfield 25, 3) := by decide +kernel
theorem dX6_gains_25 : decode cX6_gains 25 = .ok (.iload_n 1, 1) := by decide +kernel
theorem dX6_gains_26 : decode cX6_gains 26 = .ok (.iastore, 1) := by decide +kernel
theorem dX6_gains_27 : decode cX6_gains 27 = .ok (.aload_n 0, 1) := by decide +kernel
theorem dX6_gains_28 : decode cX6_gains 28 = .ok (.getfield 15, 3) := by decide +kernel
theorem dX6_gains_31 : decode cX6_gains 31 = .ok (.aload_n 0, 1) := by decide +kernel
theorem dX6_gains_32 : decode cX6_gains 32 = .ok (.getfield 25, 3) := by decide +kernel
theorem dX6_gains_35 : decode cX6_gains 35 = .ok (.iload_n 3, 1) := by decide +kernel
theorem dX6_gains_36 : decode cX6_gains 36 = .ok (.iastore, 1) := by decide +kernel
theorem dX6_gains_37 : decode cX6_gains 37 = .ok (.aload_n 0, 1) := by decide +kernel
theorem dX6_gains_38 : decode cX6_gains 38 = .ok (.dup, 1) := by decide +kernel
theorem dX6_gains_39 : decode cX6_gains 39 = .ok (.getfield 28, 3) := by decide +kernel
theorem dX6_gains_42 : decode cX6_gains 42 = .ok (.iconst 1, 1) := by decide +kernel
theorem dX6_gains_43 : decode cX6_gains 43 = .ok (.aload_n 0, 1) := by decide +kernel
theorem dX6_gains_44 : decode cX6_gains 44 = .ok (.getfield 25, 3) := by decide +kernel
theorem dX6_gains_47 : decode cX6_gains 47 = .ok (.ishl, 1) := by decide +kernel
theorem dX6_gains_48 : decode cX6_gains 48 = .ok (.ior, 1) := by decide +kernel
theorem dX6_gains_49 : decode cX6_gains 49 = .ok (.putfield 28, 3) := by decide +kernel
theorem dX6_gains_52 : decode cX6_gains 52 = .ok (.iload_n 2, 1) := by decide +kernel
theorem dX6_gains_53 : decode cX6_gains 53 = .ok (.ifCond .eq 18, 3) := by decide +kernel
theorem dX6_gains_56 : decode cX6_gains 56 = .ok (.aload_n 0, 1) := by decide +kernel
theorem dX6_gains_57 : decode cX6_gains 57 = .ok (.dup, 1) := by decide +kernel
theorem dX6_gains_58 : decode cX6_gains 58 = .ok (.getfield 22, 3) := by decide +kernel
theorem dX6_gains_61 : decode cX6_gains 61 = .ok (.iconst 1, 1) := by decide +kernel
theorem dX6_gains_62 : decode cX6_gains 62 = .ok (.aload_n 0, 1) := by decide +kernel
theorem dX6_gains_63 : decode cX6_gains 63 = .ok (.getfield 25, 3) := by decide +kernel
theorem dX6_gains_66 : decode cX6_gains 66 = .ok (.ishl, 1) := by decide +kernel
theorem dX6_gains_67 : decode cX6_gains 67 = .ok (.ior, 1) := by decide +kernel
theorem dX6_gains_68 : decode cX6_gains 68 = .ok (.putfield 22, 3) := by decide +kernel
theorem dX6_gains_71 : decode cX6_gains 71 = .ok (.aload_n 0, 1) := by decide +kernel
theorem dX6_gains_72 : decode cX6_gains 72 = .ok (.dup, 1) := by decide +kernel
theorem dX6_gains_73 : decode cX6_gains 73 = .ok (.getfield 25, 3) := by decide +kernel
theorem dX6_gains_76 : decode cX6_gains 76 = .ok (.iconst 1, 1) := by decide +kernel
theorem dX6_gains_77 : decode cX6_gains 77 = .ok (.iadd, 1) := by decide +kernel
theorem dX6_gains_78 : decode cX6_gains 78 = .ok (.putfield 25, 3) := by decide +kernel
theorem dX6_gains_81 : decode cX6_gains 81 = .ok (.return_, 1) := by decide +kernel
theorem dX6_loses_0 : decode cX6_loses 0 = .ok (.aload_n 0, 1) := by decide +kernel
theorem dX6_loses_1 : decode cX6_loses 1 = .ok (.iload_n 1, 1) := by decide +kernel
theorem dX6_loses_2 : decode cX6_loses 2 = .ok (.invokevirtual 53, 3) := by decide +kernel
theorem dX6_loses_5 : decode cX6_loses 5 = .ok (.ifCond .ne 4, 3) := by decide +kernel
theorem dX6_loses_8 : decode cX6_loses 8 = .ok (.return_, 1) := by decide +kernel
theorem dX6_loses_9 : decode cX6_loses 9 = .ok (.aload_n 0, 1) := by decide +kernel
theorem dX6_loses_10 : decode cX6_loses 10 = .ok (.dup, 1) := by decide +kernel
theorem dX6_loses_11 : decode cX6_loses 11 = .ok (.getfield 28, 3) := by decide +kernel
theorem dX6_loses_14 : decode cX6_loses 14 = .ok (.iconst 1, 1) := by decide +kernel
theorem dX6_loses_15 : decode cX6_loses 15 = .ok (.iload_n 1, 1) := by decide +kernel
theorem dX6_loses_16 : decode cX6_loses 16 = .ok (.ishl, 1) := by decide +kernel
theorem dX6_loses_17 : decode cX6_loses 17 = .ok (.iconst (-1), 1) := by decide +kernel
theorem dX6_loses_18 : decode cX6_loses 18 = .ok (.ixor, 1) := by decide +kernel
theorem dX6_loses_19 : decode cX6_loses 19 = .ok (.iand, 1) := by decide +kernel
theorem dX6_loses_20 : decode cX6_loses 20 = .ok (.putfield 28, 3) := by decide +kernel
theorem dX6_loses_23 : decode cX6_loses 23 = .ok (.iload_n 1, 1) := by decide +kernel
theorem dX6_loses_24 : decode cX6_loses 24 = .ok (.aload_n 0, 1) := by decide +kernel
theorem dX6_loses_25 : decode cX6_loses 25 = .ok (.getfield 18, 3) := by decide +kernel
theorem dX6_loses_28 : decode cX6_loses 28 = .ok (.if_icmp .ne 30, 3) := by decide +kernel
theorem dX6_loses_31 : decode cX6_loses 31 = .ok (.aload_n 2, 1) := by decide +kernel
theorem dX6_loses_32 : decode cX6_loses 32 = .ok (.aload_n 0, 1) := by decide +kernel
theorem dX6_loses_33 : decode cX6_loses 33 = .ok (.iload_n 1, 1) := by decide +kernel
theorem dX6_loses_34 : decode cX6_loses 34 = .ok (.aload_n 0, 1) := by decide +kernel
theorem dX6_loses_35 : decode cX6_loses 35 = .ok (.getfield 31, 3) := by decide +kernel
theorem dX6_loses_38 : decode cX6_loses 38 = .ok (.invokevirtual 56, 3) := by decide +kernel
theorem dX6_loses_41 : decode cX6_loses 41 = .ok (.aload_n 0, 1) := by decide +kernel
theorem dX6_loses_42 : decode cX6_loses 42 = .ok (.aload_n 2, 1) := by decide +kernel
theorem dX6_loses_43 : decode cX6_loses 43 = .ok (.aload_n 0, 1) := by decide +kernel
theorem dX6_loses_44 : decode cX6_loses 44 = .ok (.getfield 28, 3) := by decide +kernel
theorem dX6_loses_47 : decode cX6_loses 47 = .ok (.invokevirtual 62, 3) := by decide +kernel
theorem dX6_loses_50 : decode cX6_loses 50 = .ok (.putfield 18, 3) := by decide +kernel
theorem dX6_loses_53 : decode cX6_loses 53 = .ok (.aload_n 0, 1) := by decide +kernel
theorem dX6_loses_54 : decode cX6_loses 54 = .ok (.iconst 0, 1) := by decide +kernel
theorem dX6_loses_55 : decode cX6_loses 55 = .ok (.putfield 37, 3) := by decide +kernel
theorem dX6_loses_58 : decode cX6_loses 58 = .ok (.return_, 1) := by decide +kernel
theorem dX6_grows_0 : decode cX6_grows 0 = .ok (.iconst 0, 1) := by decide +kernel
theorem dX6_grows_1 : decode cX6_grows 1 = .ok (.istore_n 1, 1) := by decide +kernel
theorem dX6_grows_2 : decode cX6_grows 2 = .ok (.iload_n 1, 1) := by decide +kernel
theorem dX6_grows_3 : decode cX6_grows 3 = .ok (.aload_n 0, 1) := by decide +kernel
theorem dX6_grows_4 : decode cX6_grows 4 = .ok (.getfield 25, 3) := by decide +kernel
theorem dX6_grows_7 : decode cX6_grows 7 = .ok (.if_icmp .ge 25, 3) := by decide +kernel
theorem dX6_grows_10 : decode cX6_grows 10 = .ok (.iload_n 1, 1) := by decide +kernel
theorem dX6_grows_11 : decode cX6_grows 11 = .ok (.bipush 7, 2) := by decide +kernel
theorem dX6_grows_13 : decode cX6_grows 13 = .ok (.if_icmp .ge 19, 3) := by decide +kernel
theorem dX6_grows_16 : decode cX6_grows 16 = .ok (.aload_n 0, 1) := by decide +kernel
theorem dX6_grows_17 : decode cX6_grows 17 = .ok (.getfield 15, 3) := by decide +kernel
theorem dX6_grows_20 : decode cX6_grows 20 = .ok (.iload_n 1, 1) := by decide +kernel
theorem dX6_grows_21 : decode cX6_grows 21 = .ok (.dup2, 1) := by decide +kernel
theorem dX6_grows_22 : decode cX6_grows 22 = .ok (.iaload, 1) := by decide +kernel
theorem dX6_grows_23 : decode cX6_grows 23 = .ok (.iconst 1, 1) := by decide +kernel
theorem dX6_grows_24 : decode cX6_grows 24 = .ok (.iadd, 1) := by decide +kernel
theorem dX6_grows_25 : decode cX6_grows 25 = .ok (.iastore, 1) := by decide +kernel
theorem dX6_grows_26 : decode cX6_grows 26 = .ok (.iinc 1 1, 3) := by decide +kernel
theorem dX6_grows_29 : decode cX6_grows 29 = .ok (.goto (-27), 3) := by decide +kernel
theorem dX6_grows_32 : decode cX6_grows 32 = .ok (.aload_n 0, 1) := by decide +kernel
theorem dX6_grows_33 : decode cX6_grows 33 = .ok (.bipush 9, 2) := by decide +kernel
theorem dX6_grows_35 : decode cX6_grows 35 = .ok (.aload_n 0, 1) := by decide +kernel
theorem dX6_grows_36 : decode cX6_grows 36 = .ok (.getfield 34, 3) := by decide +kernel
theorem dX6_grows_39 : decode cX6_grows 39 = .ok (.iconst 1, 1) := by decide +kernel
theorem dX6_grows_40 : decode cX6_grows 40 = .ok (.iadd, 1) := by decide +kernel
theorem dX6_grows_41 : decode cX6_grows 41 = .ok (.invokestatic 66, 3) := by decide +kernel
theorem dX6_grows_44 : decode cX6_grows 44 = .ok (.putfield 34, 3) := by decide +kernel
theorem dX6_grows_47 : decode cX6_grows 47 = .ok (.aload_n 0, 1) := by decide +kernel
theorem dX6_grows_48 : decode cX6_grows 48 = .ok (.dup, 1) := by decide +kernel
theorem dX6_grows_49 : decode cX6_grows 49 = .ok (.getfield 40, 3) := by decide +kernel
theorem dX6_grows_52 : decode cX6_grows 52 = .ok (.iconst 1, 1) := by decide +kernel
theorem dX6_grows_53 : decode cX6_grows 53 = .ok (.iadd, 1) := by decide +kernel
theorem dX6_grows_54 : decode cX6_grows 54 = .ok (.putfield 40, 3) := by decide +kernel
theorem dX6_grows_57 : decode cX6_grows 57 = .ok (.return_, 1) := by decide +kernel
theorem dX7_init_0 : decode cX7_init 0 = .ok (.aload_n 0, 1) := by decide +kernel
theorem dX7_init_1 : decode cX7_init 1 = .ok (.invokespecial 3, 3) := by decide +kernel
theorem dX7_init_4 : decode cX7_init 4 = .ok (.aload_n 0, 1) := by decide +kernel
theorem dX7_init_5 : decode cX7_init 5 = .ok (.bipush 7, 2) := by decide +kernel
theorem dX7_init_7 : decode cX7_init 7 = .ok (.anewarray 9, 3) := by decide +kernel
theorem dX7_init_10 : decode cX7_init 10 = .ok (.putfield 11, 3) := by decide +kernel
theorem dX7_init_13 : decode cX7_init 13 = .ok (.aload_n 0, 1) := by decide +kernel
theorem dX7_init_14 : decode cX7_init 14 = .ok (.sipush 896, 3) := by decide +kernel
theorem dX7_init_17 : decode cX7_init 17 = .ok (.newarray .int, 2) := by decide +kernel
theorem dX7_init_19 : decode cX7_init 19 = .ok (.putfield 17, 3) := by decide +kernel
theorem dX7_init_22 : decode cX7_init 22 = .ok (.iconst 0, 1) := by decide +kernel
theorem dX7_init_23 : decode cX7_init 23 = .ok (.istore_n 1, 1) := by decide +kernel
theorem dX7_init_24 : decode cX7_init 24 = .ok (.iload_n 1, 1) := by decide +kernel
theorem dX7_init_25 : decode cX7_init 25 = .ok (.bipush 7, 2) := by decide +kernel
theorem dX7_init_27 : decode cX7_init 27 = .ok (.if_icmp .ge 22, 3) := by decide +kernel
theorem dX7_init_30 : decode cX7_init 30 = .ok (.aload_n 0, 1) := by decide +kernel
theorem dX7_init_31 : decode cX7_init 31 = .ok (.getfield 11, 3) := by decide +kernel
theorem dX7_init_34 : decode cX7_init 34 = .ok (.iload_n 1, 1) := by decide +kernel
theorem dX7_init_35 : decode cX7_init 35 = .ok (.new 9, 3) := by decide +kernel
theorem dX7_init_38 : decode cX7_init 38 = .ok (.dup, 1) := by decide +kernel
theorem dX7_init_39 : decode cX7_init 39 = .ok (.invokespecial 21, 3) := by decide +kernel
theorem dX7_init_42 : decode cX7_init 42 = .ok (.aastore, 1) := by decide +kernel
theorem dX7_init_43 : decode cX7_init 43 = .ok (.iinc 1 1, 3) := by decide +kernel
theorem dX7_init_46 : decode cX7_init 46 = .ok (.goto (-22), 3) := by decide +kernel
theorem dX7_init_49 : decode cX7_init 49 = .ok (.return_, 1) := by decide +kernel
theorem dX7_ofSoMany_0 : decode cX7_ofSoMany 0 = .ok (.iconst 1, 1) := by decide +kernel
theorem dX7_ofSoMany_1 : decode cX7_ofSoMany 1 = .ok (.istore_n 1, 1) := by decide +kernel
theorem dX7_ofSoMany_2 : decode cX7_ofSoMany 2 = .ok (.iconst 2, 1) := by decide +kernel
theorem dX7_ofSoMany_3 : decode cX7_ofSoMany 3 = .ok (.istore_n 2, 1) := by decide +kernel
theorem dX7_ofSoMany_4 : decode cX7_ofSoMany 4 = .ok (.iload_n 2, 1) := by decide +kernel
theorem dX7_ofSoMany_5 : decode cX7_ofSoMany 5 = .ok (.iload_n 0, 1) := by decide +kernel
theorem dX7_ofSoMany_6 : decode cX7_ofSoMany 6 = .ok (.if_icmp .gt 19, 3) := by decide +kernel
theorem dX7_ofSoMany_9 : decode cX7_ofSoMany 9 = .ok (.iload_n 2, 1) := by decide +kernel
theorem dX7_ofSoMany_10 : decode cX7_ofSoMany 10 = .ok (.bipush 7, 2) := by decide +kernel
theorem dX7_ofSoMany_12 : decode cX7_ofSoMany 12 = .ok (.if_icmp .gt 13, 3) := by decide +kernel
theorem dX7_ofSoMany_15 : decode cX7_ofSoMany 15 = .ok (.iload_n 1, 1) := by decide +kernel
theorem dX7_ofSoMany_16 : decode cX7_ofSoMany 16 = .ok (.iload_n 2, 1) := by decide +kernel
theorem dX7_ofSoMany_17 : decode cX7_ofSoMany 17 = .ok (.imul, 1) := by decide +kernel
theorem dX7_ofSoMany_18 : decode cX7_ofSoMany 18 = .ok (.istore_n 1, 1) := by decide +kernel
theorem dX7_ofSoMany_19 : decode cX7_ofSoMany 19 = .ok (.iinc 2 1, 3) := by decide +kernel
theorem dX7_ofSoMany_22 : decode cX7_ofSoMany 22 = .ok (.goto (-18), 3) := by decide +kernel
theorem dX7_ofSoMany_25 : decode cX7_ofSoMany 25 = .ok (.iload_n 1, 1) := by decide +kernel
theorem dX7_ofSoMany_26 : decode cX7_ofSoMany 26 = .ok (.ireturn, 1) := by decide +kernel
theorem dX7_inWhichHolds_0 : decode cX7_inWhichHolds 0 = .ok (.aload_n 0, 1) := by decide +kernel
theorem dX7_inWhichHolds_1 : decode cX7_inWhichHolds 1 = .ok (.aload_n 1, 1) := by decide +kernel
theorem dX7_inWhichHolds_2 : decode cX7_inWhichHolds 2 = .ok (.invokevirtual 22, 3) := by decide +kernel
theorem dX7_inWhichHolds_5 : decode cX7_inWhichHolds 5 = .ok (.iconst 0, 1) := by decide +kernel
theorem dX7_inWhichHolds_6 : decode cX7_inWhichHolds 6 = .ok (.istore_n 3, 1) := by decide +kernel
theorem dX7_inWhichHolds_7 : decode cX7_inWhichHolds 7 = .ok (.aload_n 1, 1) := by decide +kernel
theorem dX7_inWhichHolds_8 : decode cX7_inWhichHolds 8 = .ok (.getfield 26, 3) := by decide +kernel
theorem dX7_inWhichHolds_11 : decode cX7_inWhichHolds 11 = .ok (.bipush 127, 2) := by decide +kernel
theorem dX7_inWhichHolds_13 : decode cX7_inWhichHolds 13 = .ok (.invokestatic 32, 3) := by decide +kernel
theorem dX7_inWhichHolds_16 : decode cX7_inWhichHolds 16 = .ok (.istore 4, 2) := by decide +kernel
theorem dX7_inWhichHolds_18 : decode cX7_inWhichHolds 18 = .ok (.iload 4, 2) := by decide +kernel
theorem dX7_inWhichHolds_20 : decode cX7_inWhichHolds 20 = .ok (.ifCond .le 84, 3) := by decide +kernel
theorem dX7_inWhichHolds_23 : decode cX7_inWhichHolds 23 = .ok (.iconst 0, 1) := by decide +kernel
theorem dX7_inWhichHolds_24 : decode cX7_inWhichHolds 24 = .ok (.istore 5, 2) := by decide +kernel
theorem dX7_inWhichHolds_26 : decode cX7_inWhichHolds 26 = .ok (.iload 5, 2) := by decide +kernel
theorem dX7_inWhichHolds_28 : decode cX7_inWhichHolds 28 = .ok (.bipush 7, 2) := by decide +kernel
theorem dX7_inWhichHolds_30 : decode cX7_inWhichHolds 30 = .ok (.if_icmp .ge 68, 3) := by decide +kernel
theorem dX7_inWhichHolds_33 : decode cX7_inWhichHolds 33 = .ok (.aload_n 0, 1) := by decide +kernel
theorem dX7_inWhichHolds_34 : decode cX7_inWhichHolds 34 = .ok (.getfield 17, 3) := by decide +kernel
theorem dX7_inWhichHolds_37 : decode cX7_inWhichHolds 37 = .ok (.iload 4, 2) := by decide +kernel
theorem dX7_inWhichHolds_39 : decode cX7_inWhichHolds 39 = .ok (.bipush 7, 2) := by decide +kernel
theorem dX7_inWhichHolds_41 : decode cX7_inWhichHolds 41 = .ok (.imul, 1) := by decide +kernel
theorem dX7_inWhichHolds_42 : decode cX7_inWhichHolds 42 = .ok (.iload 5, 2) := by decide +kernel
theorem dX7_inWhichHolds_44 : decode cX7_inWhichHolds 44 = .ok (.iadd, 1) := by decide +kernel
theorem dX7_inWhichHolds_45 : decode cX7_inWhichHolds 45 = .ok (.iaload, 1) := by decide +kernel
theorem dX7_inWhichHolds_46 : decode cX7_inWhichHolds 46 = .ok (.istore 6, 2) := by decide +kernel
theorem dX7_inWhichHolds_48 : decode cX7_inWhichHolds 48 = .ok (.iload 6, 2) := by decide +kernel
theorem dX7_inWhichHolds_50 : decode cX7_inWhichHolds 50 = .ok (.ifCond .le 26, 3) := by decide +kernel
theorem dX7_inWhichHolds_53 : decode cX7_inWhichHolds 53 = .ok (.iload 5, 2) := by decide +kernel
theorem dX7_inWhichHolds_55 : decode cX7_inWhichHolds 55 = .ok (.iload_n 2, 1) := by decide +kernel
theorem dX7_inWhichHolds_56 : decode cX7_inWhichHolds 56 = .ok (.if_icmp .ne 20, 3) := by decide +kernel
theorem dX7_inWhichHolds_59 : decode cX7_inWhichHolds 59 = .ok (.iload_n 3, 1) := by decide +kernel
theorem dX7_inWhichHolds_60 : decode cX7_inWhichHolds 60 = .ok (.iload 6, 2) := by decide +kernel
theorem dX7_inWhichHolds_62 : decode cX7_inWhichHolds 62 = .ok (.iload 4, 2) := by decide +kernel
theorem dX7_inWhichHolds_64 : decode cX7_inWhichHolds 64 = .ok (.invokestatic 38, 3) := by decide +kernel
theorem dX7_inWhichHolds_67 : decode cX7_inWhichHolds 67 = .ok (.invokestatic 44, 3) := by decide +kernel
theorem dX7_inWhichHolds_70 : decode cX7_inWhichHolds 70 = .ok (.imul, 1) := by decide +kernel
theorem dX7_inWhichHolds_71 : decode cX7_inWhichHolds 71 = .ok (.iadd, 1) := by decide +kernel
theorem dX7_inWhichHolds_72 : decode cX7_inWhichHolds 72 = .ok (.istore_n 3, 1) := by decide +kernel
theorem dX7_inWhichHolds_73 : decode cX7_inWhichHolds 73 = .ok (.goto 19, 3) := by decide +kernel
theorem dX7_inWhichHolds_76 : decode cX7_inWhichHolds 76 = .ok (.iload 6, 2) := by decide +kernel
theorem dX7_inWhichHolds_78 : decode cX7_inWhichHolds 78 = .ok (.ifCond .le 14, 3) := by decide +kernel
theorem dX7_inWhichHolds_81 : decode cX7_inWhichHolds 81 = .ok (.aload_n 0, 1) := by decide +kernel
theorem dX7_inWhichHolds_82 : decode cX7_inWhichHolds 82 = .ok (.iload 4, 2) := by decide +kernel
theorem dX7_inWhichHolds_84 : decode cX7_inWhichHolds 84 = .ok (.iload 5, 2) := by decide +kernel
theorem dX7_inWhichHolds_86 : decode cX7_inWhichHolds 86 = .ok (.iload_n 2, 1) := by decide +kernel
theorem dX7_inWhichHolds_87 : decode cX7_inWhichHolds 87 = .ok (.iload 6, 2) := by decide +kernel
theorem dX7_inWhichHolds_89 : decode cX7_inWhichHolds 89 = .ok (.invokevirtual 47, 3) := by decide +kernel
theorem dX7_inWhichHolds_92 : decode cX7_inWhichHolds 92 = .ok (.iinc 5 1, 3) := by decide +kernel
theorem dX7_inWhichHolds_95 : decode cX7_inWhichHolds 95 = .ok (.goto (-69), 3) := by decide +kernel
theorem dX7_inWhichHolds_98 : decode cX7_inWhichHolds 98 = .ok (.iinc 4 (-1), 3) := by decide +kernel
theorem dX7_inWhichHolds_101 : decode cX7_inWhichHolds 101 = .ok (.goto (-83), 3) := by decide +kernel
theorem dX7_inWhichHolds_104 : decode cX7_inWhichHolds 104 = .ok (.iload_n 3, 1) := by decide +kernel
theorem dX7_inWhichHolds_105 : decode cX7_inWhichHolds 105 = .ok (.ireturn, 1) := by decide +kernel
theorem dX7_begin_0 : decode cX7_begin 0 = .ok (.aload_n 0, 1) := by decide +kernel
theorem dX7_begin_1 : decode cX7_begin 1 = .ok (.getfield 17, 3) := by decide +kernel
theorem dX7_begin_4 : decode cX7_begin 4 = .ok (.iconst 0, 1) := by decide +kernel
theorem dX7_begin_5 : decode cX7_begin 5 = .ok (.invokestatic 51, 3) := by decide +kernel
theorem dX7_begin_8 : decode cX7_begin 8 = .ok (.iconst 0, 1) := by decide +kernel
theorem dX7_begin_9 : decode cX7_begin 9 = .ok (.istore_n 2, 1) := by decide +kernel
theorem dX7_begin_10 : decode cX7_begin 10 = .ok (.iload_n 2, 1) := by decide +kernel
theorem dX7_begin_11 : decode cX7_begin 11 = .ok (.bipush 7, 2) := by decide +kernel
theorem dX7_begin_13 : decode cX7_begin 13 = .ok (.if_icmp .ge 24, 3) := by decide +kernel
theorem dX7_begin_16 : decode cX7_begin 16 = .ok (.aload_n 0, 1) := by decide +kernel
theorem dX7_begin_17 : decode cX7_begin 17 = .ok (.getfield 11, 3) := by decide +kernel
theorem dX7_begin_20 : decode cX7_begin 20 = .ok (.iload_n 2, 1) := by decide +kernel
theorem dX7_begin_21 : decode cX7_begin 21 = .ok (.aaload, 1) := by decide +kernel
theorem dX7_begin_22 : decode cX7_begin 22 = .ok (.aload_n 1, 1) := by decide +kernel
theorem dX7_begin_23 : decode cX7_begin 23 = .ok (.iload_n 2, 1) := by decide +kernel
theorem dX7_begin_24 : decode cX7_begin 24 = .ok (.aload_n 1, 1) := by decide +kernel
theorem dX7_begin_25 : decode cX7_begin 25 = .ok (.getfield 57, 3) := by decide +kernel
theorem dX7_begin_28 : decode cX7_begin 28 = .ok (.invokevirtual 60, 3) := by decide +kernel
theorem dX7_begin_31 : decode cX7_begin 31 = .ok (.iinc 2 1, 3) := by decide +kernel
theorem dX7_begin_34 : decode cX7_begin 34 = .ok (.goto (-24), 3) := by decide +kernel
theorem dX7_begin_37 : decode cX7_begin 37 = .ok (.aload_n 0, 1) := by decide +kernel
theorem dX7_begin_38 : decode cX7_begin 38 = .ok (.aload_n 1, 1) := by decide +kernel
theorem dX7_begin_39 : decode cX7_begin 39 = .ok (.getfield 26, 3) := by decide +kernel
theorem dX7_begin_42 : decode cX7_begin 42 = .ok (.aload_n 1, 1) := by decide +kernel
theorem dX7_begin_43 : decode cX7_begin 43 = .ok (.getfield 64, 3) := by decide +kernel
theorem dX7_begin_46 : decode cX7_begin 46 = .ok (.iconst 1, 1) := by decide +kernel
theorem dX7_begin_47 : decode cX7_begin 47 = .ok (.invokevirtual 67, 3) := by decide +kernel
theorem dX7_begin_50 : decode cX7_begin 50 = .ok (.return_, 1) := by decide +kernel
theorem dX7_goOn_0 : decode cX7_goOn 0 = .ok (.iconst 0, 1) := by decide +kernel
theorem dX7_goOn_1 : decode cX7_goOn 1 = .ok (.istore 5, 2) := by decide +kernel
theorem dX7_goOn_3 : decode cX7_goOn 3 = .ok (.iload 5, 2) := by decide +kernel
theorem dX7_goOn_5 : decode cX7_goOn 5 = .ok (.bipush 7, 2) := by decide +kernel
theorem dX7_goOn_7 : decode cX7_goOn 7 = .ok (.if_icmp .ge 65, 3) := by decide +kernel
theorem dX7_goOn_10 : decode cX7_goOn 10 = .ok (.iload_n 1, 1) := by decide +kernel
theorem dX7_goOn_11 : decode cX7_goOn 11 = .ok (.iload 5, 2) := by decide +kernel
theorem dX7_goOn_13 : decode cX7_goOn 13 = .ok (.ishr, 1) := by decide +kernel
theorem dX7_goOn_14 : decode cX7_goOn 14 = .ok (.iconst 1, 1) := by decide +kernel
theorem dX7_goOn_15 : decode cX7_goOn 15 = .ok (.iand, 1) := by decide +kernel
theorem dX7_goOn_16 : decode cX7_goOn 16 = .ok (.iconst 1, 1) := by decide +kernel
theorem dX7_goOn_17 : decode cX7_goOn 17 = .ok (.if_icmp .ne 49, 3) := by decide +kernel
theorem dX7_goOn_20 : decode cX7_goOn 20 = .ok (.iload 5, 2) := by decide +kernel
theorem dX7_goOn_22 : decode cX7_goOn 22 = .ok (.iload_n 3, 1) := by decide +kernel
theorem dX7_goOn_23 : decode cX7_goOn 23 = .ok (.if_icmp .eq 43, 3) := by decide +kernel
theorem dX7_goOn_26 : decode cX7_goOn 26 = .ok (.iload_n 1, 1) := by decide +kernel
theorem dX7_goOn_27 : decode cX7_goOn 27 = .ok (.iconst 1, 1) := by decide +kernel
theorem dX7_goOn_28 : decode cX7_goOn 28 = .ok (.iload 5, 2) := by decide +kernel
theorem dX7_goOn_30 : decode cX7_goOn 30 = .ok (.ishl, 1) := by decide +kernel
theorem dX7_goOn_31 : decode cX7_goOn 31 = .ok (.iconst (-1), 1) := by decide +kernel
theorem dX7_goOn_32 : decode cX7_goOn 32 = .ok (.ixor, 1) := by decide +kernel
theorem dX7_goOn_33 : decode cX7_goOn 33 = .ok (.iand, 1) := by decide +kernel
theorem dX7_goOn_34 : decode cX7_goOn 34 = .ok (.istore 6, 2) := by decide +kernel
theorem dX7_goOn_36 : decode cX7_goOn 36 = .ok (.aload_n 0, 1) := by decide +kernel
theorem dX7_goOn_37 : decode cX7_goOn 37 = .ok (.iload 6, 2) := by decide +kernel
theorem dX7_goOn_39 : decode cX7_goOn 39 = .ok (.iload 5, 2) := by decide +kernel
theorem dX7_goOn_41 : decode cX7_goOn 41 = .ok (.iload_n 2, 1) := by decide +kernel
theorem dX7_goOn_42 : decode cX7_goOn 42 = .ok (.if_icmp .ne 18, 3) := by decide +kernel
theorem dX7_goOn_45 : decode cX7_goOn 45 = .ok (.aload_n 0, 1) := by decide +kernel
theorem dX7_goOn_46 : decode cX7_goOn 46 = .ok (.getfield 11, 3) := by decide +kernel
theorem dX7_goOn_49 : decode cX7_goOn 49 = .ok (.iload 5, 2) := by decide +kernel
theorem dX7_goOn_51 : decode cX7_goOn 51 = .ok (.aaload, 1) := by decide +kernel
theorem dX7_goOn_52 : decode cX7_goOn 52 = .ok (.iload 6, 2) := by decide +kernel
theorem dX7_goOn_54 : decode cX7_goOn 54 = .ok (.invokevirtual 71, 3) := by decide +kernel
theorem dX7_goOn_57 : decode cX7_goOn 57 = .ok (.goto 4, 3) := by decide +kernel
theorem dX7_goOn_60 : decode cX7_goOn 60 = .ok (.iload_n 2, 1) := by decide +kernel
theorem dX7_goOn_61 : decode cX7_goOn 61 = .ok (.iload 4, 2) := by decide +kernel
theorem dX7_goOn_63 : decode cX7_goOn 63 = .ok (.invokevirtual 67, 3) := by decide +kernel
theorem dX7_goOn_66 : decode cX7_goOn 66 = .ok (.iinc 5 1, 3) := by decide +kernel
theorem dX7_goOn_69 : decode cX7_goOn 69 = .ok (.goto (-66), 3) := by decide +kernel
theorem dX7_goOn_72 : decode cX7_goOn 72 = .ok (.return_, 1) := by decide +kernel
theorem dX7_add_0 : decode cX7_add 0 = .ok (.iload_n 1, 1) := by decide +kernel
theorem dX7_add_1 : decode cX7_add 1 = .ok (.ifCond .lt 35, 3) := by decide +kernel
theorem dX7_add_4 : decode cX7_add 4 = .ok (.iload_n 1, 1) := by decide +kernel
theorem dX7_add_5 : decode cX7_add 5 = .ok (.sipush 128, 3) := by decide +kernel
theorem dX7_add_8 : decode cX7_add 8 = .ok (.if_icmp .ge 28, 3) := by decide +kernel
theorem dX7_add_11 : decode cX7_add 11 = .ok (.iload_n 2, 1) := by decide +kernel
theorem dX7_add_12 : decode cX7_add 12 = .ok (.ifCond .lt 24, 3) := by decide +kernel
theorem dX7_add_15 : decode cX7_add 15 = .ok (.iload_n 2, 1) := by decide +kernel
theorem dX7_add_16 : decode cX7_add 16 = .ok (.bipush 7, 2) := by decide +kernel
theorem dX7_add_18 : decode cX7_add 18 = .ok (.if_icmp .ge 18, 3) := by decide +kernel
theorem dX7_add_21 : decode cX7_add 21 = .ok (.aload_n 0, 1) := by decide +kernel
theorem dX7_add_22 : decode cX7_add 22 = .ok (.getfield 17, 3) := by decide +kernel
theorem dX7_add_25 : decode cX7_add 25 = .ok (.iload_n 1, 1) := by decide +kernel
theorem dX7_add_26 : decode cX7_add 26 = .ok (.bipush 7, 2) := by decide +kernel
theorem dX7_add_28 : decode cX7_add 28 = .ok (.imul, 1) := by decide +kernel
theorem dX7_add_29 : decode cX7_add 29 = .ok (.iload_n 2, 1) := by decide +kernel
theorem dX7_add_30 : decode cX7_add 30 = .ok (.iadd, 1) := by decide +kernel
theorem dX7_add_31 : decode cX7_add 31 = .ok (.dup2, 1) := by decide +kernel
theorem dX7_add_32 : decode cX7_add 32 = .ok (.iaload, 1) := by decide +kernel
theorem dX7_add_33 : decode cX7_add 33 = .ok (.iload_n 3, 1) := by decide +kernel
theorem dX7_add_34 : decode cX7_add 34 = .ok (.iadd, 1) := by decide +kernel
theorem dX7_add_35 : decode cX7_add 35 = .ok (.iastore, 1) := by decide +kernel
theorem dX7_add_36 : decode cX7_add 36 = .ok (.return_, 1) := by decide +kernel
theorem dX8_init_0 : decode cX8_init 0 = .ok (.aload_n 0, 1) := by decide +kernel
theorem dX8_init_1 : decode cX8_init 1 = .ok (.invokespecial 3, 3) := by decide +kernel
theorem dX8_init_4 : decode cX8_init 4 = .ok (.aload_n 0, 1) := by decide +kernel
theorem dX8_init_5 : decode cX8_init 5 = .ok (.bipush 40, 2) := by decide +kernel
theorem dX8_init_7 : decode cX8_init 7 = .ok (.newarray .int, 2) := by decide +kernel
theorem dX8_init_9 : decode cX8_init 9 = .ok (.putfield 9, 3) := by decide +kernel
theorem dX8_init_12 : decode cX8_init 12 = .ok (.return_, 1) := by decide +kernel
theorem dX8_add_0 : decode cX8_add 0 = .ok (.aload_n 0, 1) := by decide +kernel
theorem dX8_add_1 : decode cX8_add 1 = .ok (.getfield 15, 3) := by decide +kernel
theorem dX8_add_4 : decode cX8_add 4 = .ok (.ifCond .lt 12, 3) := by decide +kernel
theorem dX8_add_7 : decode cX8_add 7 = .ok (.aload_n 0, 1) := by decide +kernel
theorem dX8_add_8 : decode cX8_add 8 = .ok (.getfield 15, 3) := by decide +kernel
theorem dX8_add_11 : decode cX8_add 11 = .ok (.bipush 40, 2) := by decide +kernel
theorem dX8_add_13 : decode cX8_add 13 = .ok (.if_icmp .lt 5, 3) := by decide +kernel
theorem dX8_add_16 : decode cX8_add 16 = .ok (.iconst 0, 1) := by decide +kernel
theorem dX8_add_17 : decode cX8_add 17 = .ok (.ireturn, 1) := by decide +kernel
theorem dX8_add_18 : decode cX8_add 18 = .ok (.aload_n 0, 1) := by decide +kernel
theorem dX8_add_19 : decode cX8_add 19 = .ok (.getfield 9, 3) := by decide +kernel
theorem dX8_add_22 : decode cX8_add 22 = .ok (.aload_n 0, 1) := by decide +kernel
theorem dX8_add_23 : decode cX8_add 23 = .ok (.getfield 15, 3) := by decide +kernel
theorem dX8_add_26 : decode cX8_add 26 = .ok (.iload_n 1, 1) := by decide +kernel
theorem dX8_add_27 : decode cX8_add 27 = .ok (.iastore, 1) := by decide +kernel
theorem dX8_add_28 : decode cX8_add 28 = .ok (.aload_n 0, 1) := by decide +kernel
theorem dX8_add_29 : decode cX8_add 29 = .ok (.dup, 1) := by decide +kernel
theorem dX8_add_30 : decode cX8_add 30 = .ok (.getfield 15, 3) := by decide +kernel
theorem dX8_add_33 : decode cX8_add 33 = .ok (.iconst 1, 1) := by decide +kernel
theorem dX8_add_34 : decode cX8_add 34 = .ok (.iadd, 1) := by decide +kernel
theorem dX8_add_35 : decode cX8_add 35 = .ok (.putfield 15, 3) := by decide +kernel
theorem dX8_add_38 : decode cX8_add 38 = .ok (.iconst 1, 1) := by decide +kernel
theorem dX8_add_39 : decode cX8_add 39 = .ok (.ireturn, 1) := by decide +kernel
theorem dX8_firstFault_0 : decode cX8_firstFault 0 = .ok (.iconst 0, 1) := by decide +kernel
theorem dX8_firstFault_1 : decode cX8_firstFault 1 = .ok (.istore_n 1, 1) := by decide +kernel
theorem dX8_firstFault_2 : decode cX8_firstFault 2 = .ok (.iload_n 1, 1) := by decide +kernel
theorem dX8_firstFault_3 : decode cX8_firstFault 3 = .ok (.aload_n 0, 1) := by decide +kernel
theorem dX8_firstFault_4 : decode cX8_firstFault 4 = .ok (.getfield 15, 3) := by decide +kernel
theorem dX8_firstFault_7 : decode cX8_firstFault 7 = .ok (.if_icmp .ge 30, 3) := by decide +kernel
theorem dX8_firstFault_10 : decode cX8_firstFault 10 = .ok (.iload_n 1, 1) := by decide +kernel
theorem dX8_firstFault_11 : decode cX8_firstFault 11 = .ok (.bipush 40, 2) := by decide +kernel
theorem dX8_firstFault_13 : decode cX8_firstFault 13 = .ok (.if_icmp .ge 24, 3) := by decide +kernel
theorem dX8_firstFault_16 : decode cX8_firstFault 16 = .ok (.iload_n 1, 1) := by decide +kernel
theorem dX8_firstFault_17 : decode cX8_firstFault 17 = .ok (.aload_n 0, 1) := by decide +kernel
theorem dX8_firstFault_18 : decode cX8_firstFault 18 = .ok (.getfield 9, 3) := by decide +kernel
theorem dX8_firstFault_21 : decode cX8_firstFault 21 = .ok (.iload_n 1, 1) := by decide +kernel
theorem dX8_firstFault_22 : decode cX8_firstFault 22 = .ok (.iaload, 1) := by decide +kernel
theorem dX8_firstFault_23 : decode cX8_firstFault 23 = .ok (.invokestatic 19, 3) := by decide +kernel
theorem dX8_firstFault_26 : decode cX8_firstFault 26 = .ok (.ifCond .ne 5, 3) := by decide +kernel
theorem dX8_firstFault_29 : decode cX8_firstFault 29 = .ok (.iload_n 1, 1) := by decide +kernel
theorem dX8_firstFault_30 : decode cX8_firstFault 30 = .ok (.ireturn, 1) := by decide +kernel
theorem dX8_firstFault_31 : decode cX8_firstFault 31 = .ok (.iinc 1 1, 3) := by decide +kernel
theorem dX8_firstFault_34 : decode cX8_firstFault 34 = .ok (.goto (-32), 3) := by decide +kernel
theorem dX8_firstFault_37 : decode cX8_firstFault 37 = .ok (.aload_n 0, 1) := by decide +kernel
theorem dX8_firstFault_38 : decode cX8_firstFault 38 = .ok (.getfield 15, 3) := by decide +kernel
theorem dX8_firstFault_41 : decode cX8_firstFault 41 = .ok (.iconst 3, 1) := by decide +kernel
theorem dX8_firstFault_42 : decode cX8_firstFault 42 = .ok (.if_icmp .lt 18, 3) := by decide +kernel
theorem dX8_firstFault_45 : decode cX8_firstFault 45 = .ok (.aload_n 0, 1) := by decide +kernel
theorem dX8_firstFault_46 : decode cX8_firstFault 46 = .ok (.getfield 15, 3) := by decide +kernel
theorem dX8_firstFault_49 : decode cX8_firstFault 49 = .ok (.iconst 3, 1) := by decide +kernel
theorem dX8_firstFault_50 : decode cX8_firstFault 50 = .ok (.isub, 1) := by decide +kernel
theorem dX8_firstFault_51 : decode cX8_firstFault 51 = .ok (.iconst 4, 1) := by decide +kernel
theorem dX8_firstFault_52 : decode cX8_firstFault 52 = .ok (.irem, 1) := by decide +kernel
theorem dX8_firstFault_53 : decode cX8_firstFault 53 = .ok (.ifCond .ne 7, 3) := by decide +kernel
theorem dX8_firstFault_56 : decode cX8_firstFault 56 = .ok (.iconst 1, 1) := by decide +kernel
theorem dX8_firstFault_57 : decode cX8_firstFault 57 = .ok (.goto 4, 3) := by decide +kernel
theorem dX8_firstFault_60 : decode cX8_firstFault 60 = .ok (.iconst 0, 1) := by decide +kernel
theorem dX8_firstFault_61 : decode cX8_firstFault 61 = .ok (.istore_n 1, 1) := by decide +kernel
theorem dX8_firstFault_62 : decode cX8_firstFault 62 = .ok (.iload_n 1, 1) := by decide +kernel
theorem dX8_firstFault_63 : decode cX8_firstFault 63 = .ok (.ifCond .eq 8, 3) := by decide +kernel
theorem dX8_firstFault_66 : decode cX8_firstFault 66 = .ok (.bipush (-9), 2) := by decide +kernel
theorem dX8_firstFault_68 : decode cX8_firstFault 68 = .ok (.goto 7, 3) := by decide +kernel
theorem dX8_firstFault_71 : decode cX8_firstFault 71 = .ok (.aload_n 0, 1) := by decide +kernel
theorem dX8_firstFault_72 : decode cX8_firstFault 72 = .ok (.getfield 15, 3) := by decide +kernel
theorem dX8_firstFault_75 : decode cX8_firstFault 75 = .ok (.ireturn, 1) := by decide +kernel
theorem dX8_mayStand_0 : decode cX8_mayStand 0 = .ok (.iload_n 0, 1) := by decide +kernel
theorem dX8_mayStand_1 : decode cX8_mayStand 1 = .ok (.ifCond .ne 15, 3) := by decide +kernel
theorem dX8_mayStand_4 : decode cX8_mayStand 4 = .ok (.iload_n 1, 1) := by decide +kernel
theorem dX8_mayStand_5 : decode cX8_mayStand 5 = .ok (.bipush 84, 2) := by decide +kernel
theorem dX8_mayStand_7 : decode cX8_mayStand 7 = .ok (.if_icmp .ne 7, 3) := by decide +kernel
theorem dX8_mayStand_10 : decode cX8_mayStand 10 = .ok (.iconst 1, 1) := by decide +kernel
theorem dX8_mayStand_11 : decode cX8_mayStand 11 = .ok (.goto 4, 3) := by decide +kernel
theorem dX8_mayStand_14 : decode cX8_mayStand 14 = .ok (.iconst 0, 1) := by decide +kernel
theorem dX8_mayStand_15 : decode cX8_mayStand 15 = .ok (.ireturn, 1) := by decide +kernel
theorem dX8_mayStand_16 : decode cX8_mayStand 16 = .ok (.iload_n 0, 1) := by decide +kernel
theorem dX8_mayStand_17 : decode cX8_mayStand 17 = .ok (.iconst 3, 1) := by decide +kernel
theorem dX8_mayStand_18 : decode cX8_mayStand 18 = .ok (.if_icmp .ge 19, 3) := by decide +kernel
theorem dX8_mayStand_21 : decode cX8_mayStand 21 = .ok (.iload_n 1, 1) := by decide +kernel
theorem dX8_mayStand_22 : decode cX8_mayStand 22 = .ok (.iload_n 0, 1) := by decide +kernel
theorem dX8_mayStand_23 : decode cX8_mayStand 23 = .ok (.iconst 1, 1) := by decide +kernel
theorem dX8_mayStand_24 : decode cX8_mayStand 24 = .ok (.if_icmp .ne 7, 3) := by decide +kernel
theorem dX8_mayStand_27 : decode cX8_mayStand 27 = .ok (.iconst 3, 1) := by decide +kernel
theorem dX8_mayStand_28 : decode cX8_mayStand 28 = .ok (.goto 5, 3) := by decide +kernel
theorem dX8_mayStand_31 : decode cX8_mayStand 31 = .ok (.bipush 9, 2) := by decide +kernel
theorem dX8_mayStand_33 : decode cX8_mayStand 33 = .ok (.invokestatic 23, 3) := by decide +kernel
theorem dX8_mayStand_36 : decode cX8_mayStand 36 = .ok (.ireturn, 1) := by decide +kernel
theorem dX8_mayStand_37 : decode cX8_mayStand 37 = .ok (.iload_n 0, 1) := by decide +kernel
theorem dX8_mayStand_38 : decode cX8_mayStand 38 = .ok (.iconst 3, 1) := by decide +kernel
theorem dX8_mayStand_39 : decode cX8_mayStand 39 = .ok (.isub, 1) := by decide +kernel
theorem dX8_mayStand_40 : decode cX8_mayStand 40 = .ok (.iconst 4, 1) := by decide +kernel
theorem dX8_mayStand_41 : decode cX8_mayStand 41 = .ok (.idiv, 1) := by decide +kernel
theorem dX8_mayStand_42 : decode cX8_mayStand 42 = .ok (.istore_n 2, 1) := by decide +kernel
theorem dX8_mayStand_43 : decode cX8_mayStand 43 = .ok (.iload_n 2, 1) := by decide +kernel
theorem dX8_mayStand_44 : decode cX8_mayStand 44 = .ok (.bipush 7, 2) := by decide +kernel
theorem dX8_mayStand_46 : decode cX8_mayStand 46 = .ok (.if_icmp .lt 5, 3) := by decide +kernel
theorem dX8_mayStand_49 : decode cX8_mayStand 49 = .ok (.iconst 0, 1) := by decide +kernel
theorem dX8_mayStand_50 : decode cX8_mayStand 50 = .ok (.ireturn, 1) := by decide +kernel
theorem dX8_mayStand_51 : decode cX8_mayStand 51 = .ok (.iload_n 0, 1) := by decide +kernel
theorem dX8_mayStand_52 : decode cX8_mayStand 52 = .ok (.iconst 3, 1) := by decide +kernel
theorem dX8_mayStand_53 : decode cX8_mayStand 53 = .ok (.isub, 1) := by decide +kernel
theorem dX8_mayStand_54 : decode cX8_mayStand 54 = .ok (.iconst 4, 1) := by decide +kernel
theorem dX8_mayStand_55 : decode cX8_mayStand 55 = .ok (.irem, 1) := by decide +kernel
theorem dX8_mayStand_56 : decode cX8_mayStand 56 = .ok (.tableswitch 58 0 2 #[28, 40, 52], 28) := by decide +kernel
theorem dX8_mayStand_84 : decode cX8_mayStand 84 = .ok (.iload_n 1, 1) := by decide +kernel
theorem dX8_mayStand_85 : decode cX8_mayStand 85 = .ok (.bipush 80, 2) := by decide +kernel
theorem dX8_mayStand_87 : decode cX8_mayStand 87 = .ok (.if_icmp .ne 7, 3) := by decide +kernel
theorem dX8_mayStand_90 : decode cX8_mayStand 90 = .ok (.iconst 1, 1) := by decide +kernel
theorem dX8_mayStand_91 : decode cX8_mayStand 91 = .ok (.goto 4, 3) := by decide +kernel
theorem dX8_mayStand_94 : decode cX8_mayStand 94 = .ok (.iconst 0, 1) := by decide +kernel
theorem dX8_mayStand_95 : decode cX8_mayStand 95 = .ok (.ireturn, 1) := by decide +kernel
theorem dX8_mayStand_96 : decode cX8_mayStand 96 = .ok (.iload_n 1, 1) := by decide +kernel
theorem dX8_mayStand_97 : decode cX8_mayStand 97 = .ok (.iconst 0, 1) := by decide +kernel
theorem dX8_mayStand_98 : decode cX8_mayStand 98 = .ok (.iload_n 2, 1) := by decide +kernel
theorem dX8_mayStand_99 : decode cX8_mayStand 99 = .ok (.iconst 1, 1) := by decide +kernel
theorem dX8_mayStand_100 : decode cX8_mayStand 100 = .ok (.isub, 1) := by decide +kernel
theorem dX8_mayStand_101 : decode cX8_mayStand 101 = .ok (.invokestatic 26, 3) := by decide +kernel
theorem dX8_mayStand_104 : decode cX8_mayStand 104 = .ok (.invokestatic 23, 3) := by decide +kernel
theorem dX8_mayStand_107 : decode cX8_mayStand 107 = .ok (.ireturn, 1) := by decide +kernel
theorem dX8_mayStand_108 : decode cX8_mayStand 108 = .ok (.iload_n 1, 1) := by decide +kernel
theorem dX8_mayStand_109 : decode cX8_mayStand 109 = .ok (.iconst 1, 1) := by decide +kernel
theorem dX8_mayStand_110 : decode cX8_mayStand 110 = .ok (.invokestatic 23, 3) := by decide +kernel
theorem dX8_mayStand_113 : decode cX8_mayStand 113 = .ok (.ireturn, 1) := by decide +kernel
theorem dX8_mayStand_114 : decode cX8_mayStand 114 = .ok (.iload_n 1, 1) := by decide +kernel
theorem dX8_mayStand_115 : decode cX8_mayStand 115 = .ok (.bipush 9, 2) := by decide +kernel
theorem dX8_mayStand_117 : decode cX8_mayStand 117 = .ok (.invokestatic 23, 3) := by decide +kernel
theorem dX8_mayStand_120 : decode cX8_mayStand 120 = .ok (.ireturn, 1) := by decide +kernel
theorem dX8_isFigure_0 : decode cX8_isFigure 0 = .ok (.iload_n 0, 1) := by decide +kernel
theorem dX8_isFigure_1 : decode cX8_isFigure 1 = .ok (.bipush 48, 2) := by decide +kernel
theorem dX8_isFigure_3 : decode cX8_isFigure 3 = .ok (.if_icmp .lt 15, 3) := by decide +kernel
theorem dX8_isFigure_6 : decode cX8_isFigure 6 = .ok (.iload_n 0, 1) := by decide +kernel
theorem dX8_isFigure_7 : decode cX8_isFigure 7 = .ok (.bipush 48, 2) := by decide +kernel
theorem dX8_isFigure_9 : decode cX8_isFigure 9 = .ok (.iload_n 1, 1) := by decide +kernel
theorem dX8_isFigure_10 : decode cX8_isFigure 10 = .ok (.iadd, 1) := by decide +kernel
theorem dX8_isFigure_11 : decode cX8_isFigure 11 = .ok (.if_icmp .gt 7, 3) := by decide +kernel
theorem dX8_isFigure_14 : decode cX8_isFigure 14 = .ok (.iconst 1, 1) := by decide +kernel
theorem dX8_isFigure_15 : decode cX8_isFigure 15 = .ok (.goto 4, 3) := by decide +kernel
theorem dX8_isFigure_18 : decode cX8_isFigure 18 = .ok (.iconst 0, 1) := by decide +kernel
theorem dX8_isFigure_19 : decode cX8_isFigure 19 = .ok (.ireturn, 1) := by decide +kernel
theorem dX8_figureAt_0 : decode cX8_figureAt 0 = .ok (.iload_n 1, 1) := by decide +kernel
theorem dX8_figureAt_1 : decode cX8_figureAt 1 = .ok (.ifCond .lt 21, 3) := by decide +kernel
theorem dX8_figureAt_4 : decode cX8_figureAt 4 = .ok (.iload_n 1, 1) := by decide +kernel
theorem dX8_figureAt_5 : decode cX8_figureAt 5 = .ok (.bipush 40, 2) := by decide +kernel
theorem dX8_figureAt_7 : decode cX8_figureAt 7 = .ok (.if_icmp .ge 15, 3) := by decide +kernel
theorem dX8_figureAt_10 : decode cX8_figureAt 10 = .ok (.aload_n 0, 1) := by decide +kernel
theorem dX8_figureAt_11 : decode cX8_figureAt 11 = .ok (.getfield 9, 3) := by decide +kernel
theorem dX8_figureAt_14 : decode cX8_figureAt 14 = .ok (.iload_n 1, 1) := by decide +kernel
theorem dX8_figureAt_15 : decode cX8_figureAt 15 = .ok (.iaload, 1) := by decide +kernel
theorem dX8_figureAt_16 : decode cX8_figureAt 16 = .ok (.bipush 48, 2) := by decide +kernel
theorem dX8_figureAt_18 : decode cX8_figureAt 18 = .ok (.isub, 1) := by decide +kernel
theorem dX8_figureAt_19 : decode cX8_figureAt 19 = .ok (.goto 4, 3) := by decide +kernel
theorem dX8_figureAt_22 : decode cX8_figureAt 22 = .ok (.iconst 0, 1) := by decide +kernel
theorem dX8_figureAt_23 : decode cX8_figureAt 23 = .ok (.ireturn, 1) := by decide +kernel
theorem dX8_makeAnew_0 : decode cX8_makeAnew 0 = .ok (.aload_n 1, 1) := by decide +kernel
theorem dX8_makeAnew_1 : decode cX8_makeAnew 1 = .ok (.invokevirtual 32, 3) := by decide +kernel
theorem dX8_makeAnew_4 : decode cX8_makeAnew 4 = .ok (.aload_n 1, 1) := by decide +kernel
theorem dX8_makeAnew_5 : decode cX8_makeAnew 5 = .ok (.aload_n 0, 1) := by decide +kernel
theorem dX8_makeAnew_6 : decode cX8_makeAnew 6 = .ok (.iconst 1, 1) := by decide +kernel
theorem dX8_makeAnew_7 : decode cX8_makeAnew 7 = .ok (.invokevirtual 37, 3) := by decide +kernel
theorem dX8_makeAnew_10 : decode cX8_makeAnew 10 = .ok (.putfield 41, 3) := by decide +kernel
theorem dX8_makeAnew_13 : decode cX8_makeAnew 13 = .ok (.aload_n 1, 1) := by decide +kernel
theorem dX8_makeAnew_14 : decode cX8_makeAnew 14 = .ok (.aload_n 0, 1) := by decide +kernel
theorem dX8_makeAnew_15 : decode cX8_makeAnew 15 = .ok (.iconst 2, 1) := by decide +kernel
theorem dX8_makeAnew_16 : decode cX8_makeAnew 16 = .ok (.invokevirtual 37, 3) := by decide +kernel
theorem dX8_makeAnew_19 : decode cX8_makeAnew 19 = .ok (.putfield 44, 3) := by decide +kernel
theorem dX8_makeAnew_22 : decode cX8_makeAnew 22 = .ok (.iconst 3, 1) := by decide +kernel
theorem dX8_makeAnew_23 : decode cX8_makeAnew 23 = .ok (.istore_n 2, 1) := by decide +kernel
theorem dX8_makeAnew_24 : decode cX8_makeAnew 24 = .ok (.iload_n 2, 1) := by decide +kernel
theorem dX8_makeAnew_25 : decode cX8_makeAnew 25 = .ok (.iconst 4, 1) := by decide +kernel
theorem dX8_makeAnew_26 : decode cX8_makeAnew 26 = .ok (.iadd, 1) := by decide +kernel
theorem dX8_makeAnew_27 : decode cX8_makeAnew 27 = .ok (.aload_n 0, 1) := by decide +kernel
theorem dX8_makeAnew_28 : decode cX8_makeAnew 28 = .ok (.getfield 15, 3) := by decide +kernel
theorem dX8_makeAnew_31 : decode cX8_makeAnew 31 = .ok (.if_icmp .gt 65, 3) := by decide +kernel
theorem dX8_makeAnew_34 : decode cX8_makeAnew 34 = .ok (.iload_n 2, 1) := by decide +kernel
theorem dX8_makeAnew_35 : decode cX8_makeAnew 35 = .ok (.iconst 4, 1) := by decide +kernel
theorem dX8_makeAnew_36 : decode cX8_makeAnew 36 = .ok (.iadd, 1) := by decide +kernel
theorem dX8_makeAnew_37 : decode cX8_makeAnew 37 = .ok (.bipush 40, 2) := by decide +kernel
theorem dX8_makeAnew_39 : decode cX8_makeAnew 39 = .ok (.if_icmp .gt 57, 3) := by decide +kernel
theorem dX8_makeAnew_42 : decode cX8_makeAnew 42 = .ok (.aload_n 1, 1) := by decide +kernel
theorem dX8_makeAnew_43 : decode cX8_makeAnew 43 = .ok (.getfield 47, 3) := by decide +kernel
theorem dX8_makeAnew_46 : decode cX8_makeAnew 46 = .ok (.ifCond .ne 8, 3) := by decide +kernel
theorem dX8_makeAnew_49 : decode cX8_makeAnew 49 = .ok (.bipush (-9), 2) := by decide +kernel
theorem dX8_makeAnew_51 : decode cX8_makeAnew 51 = .ok (.goto 10, 3) := by decide +kernel
theorem dX8_makeAnew_54 : decode cX8_makeAnew 54 = .ok (.aload_n 0, 1) := by decide +kernel
theorem dX8_makeAnew_55 : decode cX8_makeAnew 55 = .ok (.iload_n 2, 1) := by decide +kernel
theorem dX8_makeAnew_56 : decode cX8_makeAnew 56 = .ok (.iconst 1, 1) := by decide +kernel
theorem dX8_makeAnew_57 : decode cX8_makeAnew 57 = .ok (.iadd, 1) := by decide +kernel
theorem dX8_makeAnew_58 : decode cX8_makeAnew 58 = .ok (.invokevirtual 37, 3) := by decide +kernel
theorem dX8_makeAnew_61 : decode cX8_makeAnew 61 = .ok (.istore_n 3, 1) := by decide +kernel
theorem dX8_makeAnew_62 : decode cX8_makeAnew 62 = .ok (.aload_n 1, 1) := by decide +kernel
theorem dX8_makeAnew_63 : decode cX8_makeAnew 63 = .ok (.iload_n 3, 1) := by decide +kernel
theorem dX8_makeAnew_64 : decode cX8_makeAnew 64 = .ok (.aload_n 0, 1) := by decide +kernel
theorem dX8_makeAnew_65 : decode cX8_makeAnew 65 = .ok (.iload_n 2, 1) := by decide +kernel
theorem dX8_makeAnew_66 : decode cX8_makeAnew 66 = .ok (.iconst 2, 1) := by decide +kernel
theorem dX8_makeAnew_67 : decode cX8_makeAnew 67 = .ok (.iadd, 1) := by decide +kernel
theorem dX8_makeAnew_68 : decode cX8_makeAnew 68 = .ok (.invokevirtual 37, 3) := by decide +kernel
theorem dX8_makeAnew_71 : decode cX8_makeAnew 71 = .ok (.iconst 1, 1) := by decide +kernel
theorem dX8_makeAnew_72 : decode cX8_makeAnew 72 = .ok (.if_icmp .ne 7, 3) := by decide +kernel
theorem dX8_makeAnew_75 : decode cX8_makeAnew 75 = .ok (.iconst 1, 1) := by decide +kernel
theorem dX8_makeAnew_76 : decode cX8_makeAnew 76 = .ok (.goto 4, 3) := by decide +kernel
theorem dX8_makeAnew_79 : decode cX8_makeAnew 79 = .ok (.iconst 0, 1) := by decide +kernel
theorem dX8_makeAnew_80 : decode cX8_makeAnew 80 = .ok (.aload_n 0, 1) := by decide +kernel
theorem dX8_makeAnew_81 : decode cX8_makeAnew 81 = .ok (.iload_n 2, 1) := by decide +kernel
theorem dX8_makeAnew_82 : decode cX8_makeAnew 82 = .ok (.iconst 3, 1) := by decide +kernel
theorem dX8_makeAnew_83 : decode cX8_makeAnew 83 = .ok (.iadd, 1) := by decide +kernel
theorem dX8_makeAnew_84 : decode cX8_makeAnew 84 = .ok (.invokevirtual 37, 3) := by decide +kernel
theorem dX8_makeAnew_87 : decode cX8_makeAnew 87 = .ok (.invokevirtual 50, 3) := by decide +kernel
theorem dX8_makeAnew_90 : decode cX8_makeAnew 90 = .ok (.iinc 2 4, 3) := by decide +kernel
theorem dX8_makeAnew_93 : decode cX8_makeAnew 93 = .ok (.goto (-69), 3) := by decide +kernel
theorem dX8_makeAnew_96 : decode cX8_makeAnew 96 = .ok (.aload_n 1, 1) := by decide +kernel
theorem dX8_makeAnew_97 : decode cX8_makeAnew 97 = .ok (.aload_n 1, 1) := by decide +kernel
theorem dX8_makeAnew_98 : decode cX8_makeAnew 98 = .ok (.getfield 47, 3) := by decide +kernel
theorem dX8_makeAnew_101 : decode cX8_makeAnew 101 = .ok (.ifCond .ne 8, 3) := by decide +kernel
theorem dX8_makeAnew_104 : decode cX8_makeAnew 104 = .ok (.bipush (-9), 2) := by decide +kernel
theorem dX8_makeAnew_106 : decode cX8_makeAnew 106 = .ok (.goto 4, 3) := by decide +kernel
theorem dX8_makeAnew_109 : decode cX8_makeAnew 109 = .ok (.iconst 0, 1) := by decide +kernel
theorem dX8_makeAnew_110 : decode cX8_makeAnew 110 = .ok (.putfield 54, 3) := by decide +kernel
theorem dX8_makeAnew_113 : decode cX8_makeAnew 113 = .ok (.return_, 1) := by decide +kernel
theorem dX9_init_0 : decode cX9_init 0 = .ok (.aload_n 0, 1) := by decide +kernel
theorem dX9_init_1 : decode cX9_init 1 = .ok (.invokespecial 1, 3) := by decide +kernel
theorem dX9_init_4 : decode cX9_init 4 = .ok (.aload_n 0, 1) := by decide +kernel
theorem dX9_init_5 : decode cX9_init 5 = .ok (.new 7, 3) := by decide +kernel
theorem dX9_init_8 : decode cX9_init 8 = .ok (.dup, 1) := by decide +kernel
theorem dX9_init_9 : decode cX9_init 9 = .ok (.invokespecial 9, 3) := by decide +kernel
theorem dX9_init_12 : decode cX9_init 12 = .ok (.putfield 10, 3) := by decide +kernel
theorem dX9_init_15 : decode cX9_init 15 = .ok (.aload_n 0, 1) := by decide +kernel
theorem dX9_init_16 : decode cX9_init 16 = .ok (.new 16, 3) := by decide +kernel
theorem dX9_init_19 : decode cX9_init 19 = .ok (.dup, 1) := by decide +kernel
theorem dX9_init_20 : decode cX9_init 20 = .ok (.invokespecial 18, 3) := by decide +kernel
theorem dX9_init_23 : decode cX9_init 23 = .ok (.putfield 19, 3) := by decide +kernel
theorem dX9_init_26 : decode cX9_init 26 = .ok (.aload_n 0, 1) := by decide +kernel
theorem dX9_init_27 : decode cX9_init 27 = .ok (.new 16, 3) := by decide +kernel
theorem dX9_init_30 : decode cX9_init 30 = .ok (.dup, 1) := by decide +kernel
theorem dX9_init_31 : decode cX9_init 31 = .ok (.invokespecial 18, 3) := by decide +kernel
theorem dX9_init_34 : decode cX9_init 34 = .ok (.putfield 23, 3) := by decide +kernel
theorem dX9_init_37 : decode cX9_init 37 = .ok (.aload_n 0, 1) := by decide +kernel
theorem dX9_init_38 : decode cX9_init 38 = .ok (.new 26, 3) := by decide +kernel
theorem dX9_init_41 : decode cX9_init 41 = .ok (.dup, 1) := by decide +kernel
theorem dX9_init_42 : decode cX9_init 42 = .ok (.invokespecial 28, 3) := by decide +kernel
theorem dX9_init_45 : decode cX9_init 45 = .ok (.putfield 29, 3) := by decide +kernel
theorem dX9_init_48 : decode cX9_init 48 = .ok (.aload_n 0, 1) := by decide +kernel
theorem dX9_init_49 : decode cX9_init 49 = .ok (.iconst 2, 1) := by decide +kernel
theorem dX9_init_50 : decode cX9_init 50 = .ok (.anewarray 16, 3) := by decide +kernel
theorem dX9_init_53 : decode cX9_init 53 = .ok (.putfield 33, 3) := by decide +kernel
theorem dX9_init_56 : decode cX9_init 56 = .ok (.aload_n 0, 1) := by decide +kernel
theorem dX9_init_57 : decode cX9_init 57 = .ok (.iconst 2, 1) := by decide +kernel
theorem dX9_init_58 : decode cX9_init 58 = .ok (.newarray .boolean, 2) := by decide +kernel
theorem dX9_init_60 : decode cX9_init 60 = .ok (.putfield 37, 3) := by decide +kernel
theorem dX9_init_63 : decode cX9_init 63 = .ok (.aload_n 0, 1) := by decide +kernel
theorem dX9_init_64 : decode cX9_init 64 = .ok (.new 41, 3) := by decide +kernel
theorem dX9_init_67 : decode cX9_init 67 = .ok (.dup, 1) := by decide +kernel
theorem dX9_init_68 : decode cX9_init 68 = .ok (.invokespecial 43, 3) := by decide +kernel
theorem dX9_init_71 : decode cX9_init 71 = .ok (.putfield 44, 3) := by decide +kernel
theorem dX9_init_74 : decode cX9_init 74 = .ok (.aload_n 0, 1) := by decide +kernel
theorem dX9_init_75 : decode cX9_init 75 = .ok (.new 48, 3) := by decide +kernel
theorem dX9_init_78 : decode cX9_init 78 = .ok (.dup, 1) := by decide +kernel
theorem dX9_init_79 : decode cX9_init 79 = .ok (.invokespecial 50, 3) := by decide +kernel
theorem dX9_init_82 : decode cX9_init 82 = .ok (.putfield 51, 3) := by decide +kernel
theorem dX9_init_85 : decode cX9_init 85 = .ok (.aload_n 0, 1) := by decide +kernel
theorem dX9_init_86 : decode cX9_init 86 = .ok (.new 55, 3) := by decide +kernel
theorem dX9_init_89 : decode cX9_init 89 = .ok (.dup, 1) := by decide +kernel
theorem dX9_init_90 : decode cX9_init 90 = .ok (.invokespecial 57, 3) := by decide +kernel
theorem dX9_init_93 : decode cX9_init 93 = .ok (.putfield 58, 3) := by decide +kernel
theorem dX9_init_96 : decode cX9_init 96 = .ok (.aload_n 0, 1) := by decide +kernel
theorem dX9_init_97 : decode cX9_init 97 = .ok (.new 62, 3) := by decide +kernel
theorem dX9_init_100 : decode cX9_init 100 = .ok (.dup, 1) := by decide +kernel
theorem dX9_init_101 : decode cX9_init 101 = .ok (.invokespecial 64, 3) := by decide +kernel
theorem dX9_init_104 : decode cX9_init 104 = .ok (.putfield 65, 3) := by decide +kernel
theorem dX9_init_107 : decode cX9_init 107 = .ok (.iconst 0, 1) := by decide +kernel
theorem dX9_init_108 : decode cX9_init 108 = .ok (.istore_n 1, 1) := by decide +kernel
theorem dX9_init_109 : decode cX9_init 109 = .ok (.iload_n 1, 1) := by decide +kernel
theorem dX9_init_110 : decode cX9_init 110 = .ok (.iconst 2, 1) := by decide +kernel
theorem dX9_init_111 : decode cX9_init 111 = .ok (.if_icmp .ge 22, 3) := by decide +kernel
theorem dX9_init_114 : decode cX9_init 114 = .ok (.aload_n 0, 1) := by decide +kernel
theorem dX9_init_115 : decode cX9_init 115 = .ok (.getfield 33, 3) := by decide +kernel
theorem dX9_init_118 : decode cX9_init 118 = .ok (.iload_n 1, 1) := by decide +kernel
theorem dX9_init_119 : decode cX9_init 119 = .ok (.new 16, 3) := by decide +kernel
theorem dX9_init_122 : decode cX9_init 122 = .ok (.dup, 1) := by decide +kernel
theorem dX9_init_123 : decode cX9_init 123 = .ok (.invokespecial 18, 3) := by decide +kernel
theorem dX9_init_126 : decode cX9_init 126 = .ok (.aastore, 1) := by decide +kernel
theorem dX9_init_127 : decode cX9_init 127 = .ok (.iinc 1 1, 3) := by decide +kernel
theorem dX9_init_130 : decode cX9_init 130 = .ok (.goto (-21), 3) := by decide +kernel
theorem dX9_init_133 : decode cX9_init 133 = .ok (.return_, 1) := by decide +kernel
theorem dX9_write_0 : decode cX9_write 0 = .ok (.iload_n 1, 1) := by decide +kernel
theorem dX9_write_1 : decode cX9_write 1 = .ok (.ifCond .lt 10, 3) := by decide +kernel
theorem dX9_write_4 : decode cX9_write 4 = .ok (.iload_n 1, 1) := by decide +kernel
theorem dX9_write_5 : decode cX9_write 5 = .ok (.sipush 255, 3) := by decide +kernel
theorem dX9_write_8 : decode cX9_write 8 = .ok (.if_icmp .le 6, 3) := by decide +kernel
theorem dX9_write_11 : decode cX9_write 11 = .ok (.bipush (-2), 2) := by decide +kernel
theorem dX9_write_13 : decode cX9_write 13 = .ok (.ireturn, 1) := by decide +kernel
theorem dX9_write_14 : decode cX9_write 14 = .ok (.aload_n 0, 1) := by decide +kernel
theorem dX9_write_15 : decode cX9_write 15 = .ok (.getfield 10, 3) := by decide +kernel
theorem dX9_write_18 : decode cX9_write 18 = .ok (.iload_n 1, 1) := by decide +kernel
theorem dX9_write_19 : decode cX9_write 19 = .ok (.invokevirtual 69, 3) := by decide +kernel
theorem dX9_write_22 : decode cX9_write 22 = .ok (.ifCond .eq 13, 3) := by decide +kernel
theorem dX9_write_25 : decode cX9_write 25 = .ok (.aload_n 0, 1) := by decide +kernel
theorem dX9_write_26 : decode cX9_write 26 = .ok (.getfield 10, 3) := by decide +kernel
theorem dX9_write_29 : decode cX9_write 29 = .ok (.getfield 73, 3) := by decide +kernel
theorem dX9_write_32 : decode cX9_write 32 = .ok (.goto 5, 3) := by decide +kernel
theorem dX9_write_35 : decode cX9_write 35 = .ok (.bipush (-4), 2) := by decide +kernel
theorem dX9_write_37 : decode cX9_write 37 = .ok (.ireturn, 1) := by decide +kernel
theorem dX9_wipe_0 : decode cX9_wipe 0 = .ok (.aload_n 0, 1) := by decide +kernel
theorem dX9_wipe_1 : decode cX9_wipe 1 = .ok (.getfield 10, 3) := by decide +kernel
theorem dX9_wipe_4 : decode cX9_wipe 4 = .ok (.getfield 73, 3) := by decide +kernel
theorem dX9_wipe_7 : decode cX9_wipe 7 = .ok (.istore_n 1, 1) := by decide +kernel
theorem dX9_wipe_8 : decode cX9_wipe 8 = .ok (.aload_n 0, 1) := by decide +kernel
theorem dX9_wipe_9 : decode cX9_wipe 9 = .ok (.getfield 10, 3) := by decide +kernel
theorem dX9_wipe_12 : decode cX9_wipe 12 = .ok (.iconst 0, 1) := by decide +kernel
theorem dX9_wipe_13 : decode cX9_wipe 13 = .ok (.putfield 73, 3) := by decide +kernel
theorem dX9_wipe_16 : decode cX9_wipe 16 = .ok (.iload_n 1, 1) := by decide +kernel
theorem dX9_wipe_17 : decode cX9_wipe 17 = .ok (.ireturn, 1) := by decide +kernel
theorem dX9_fault_0 : decode cX9_fault 0 = .ok (.aload_n 0, 1) := by decide +kernel
theorem dX9_fault_1 : decode cX9_fault 1 = .ok (.getfield 10, 3) := by decide +kernel
theorem dX9_fault_4 : decode cX9_fault 4 = .ok (.invokevirtual 77, 3) := by decide +kernel
theorem dX9_fault_7 : decode cX9_fault 7 = .ok (.ireturn, 1) := by decide +kernel
theorem dX9_land_0 : decode cX9_land 0 = .ok (.aload_n 0, 1) := by decide +kernel
theorem dX9_land_1 : decode cX9_land 1 = .ok (.getfield 10, 3) := by decide +kernel
theorem dX9_land_4 : decode cX9_land 4 = .ok (.invokevirtual 77, 3) := by decide +kernel
theorem dX9_land_7 : decode cX9_land 7 = .ok (.bipush (-9), 2) := by decide +kernel
theorem dX9_land_9 : decode cX9_land 9 = .ok (.if_icmp .eq 6, 3) := by decide +kernel
theorem dX9_land_12 : decode cX9_land 12 = .ok (.bipush (-3), 2) := by decide +kernel
theorem dX9_land_14 : decode cX9_land 14 = .ok (.ireturn, 1) := by decide +kernel
theorem dX9_land_15 : decode cX9_land 15 = .ok (.aload_n 0, 1) := by decide +kernel
theorem dX9_land_16 : decode cX9_land 16 = .ok (.getfield 10, 3) := by decide +kernel
theorem dX9_land_19 : decode cX9_land 19 = .ok (.aload_n 0, 1) := by decide +kernel
theorem dX9_land_20 : decode cX9_land 20 = .ok (.getfield 19, 3) := by decide +kernel
theorem dX9_land_23 : decode cX9_land 23 = .ok (.invokevirtual 81, 3) := by decide +kernel
theorem dX9_land_26 : decode cX9_land 26 = .ok (.aload_n 0, 1) := by decide +kernel
theorem dX9_land_27 : decode cX9_land 27 = .ok (.getfield 29, 3) := by decide +kernel
theorem dX9_land_30 : decode cX9_land 30 = .ok (.invokevirtual 85, 3) := by decide +kernel
theorem dX9_land_33 : decode cX9_land 33 = .ok (.iconst 0, 1) := by decide +kernel
theorem dX9_land_34 : decode cX9_land 34 = .ok (.istore_n 1, 1) := by decide +kernel
theorem dX9_land_35 : decode cX9_land 35 = .ok (.iload_n 1, 1) := by decide +kernel
theorem dX9_land_36 : decode cX9_land 36 = .ok (.iconst 2, 1) := by decide +kernel
theorem dX9_land_37 : decode cX9_land 37 = .ok (.if_icmp .ge 16, 3) := by decide +kernel
theorem dX9_land_40 : decode cX9_land 40 = .ok (.aload_n 0, 1) := by decide +kernel
theorem dX9_land_41 : decode cX9_land 41 = .ok (.getfield 37, 3) := by decide +kernel
theorem dX9_land_44 : decode cX9_land 44 = .ok (.iload_n 1, 1) := by decide +kernel
theorem dX9_land_45 : decode cX9_land 45 = .ok (.iconst 0, 1) := by decide +kernel
theorem dX9_land_46 : decode cX9_land 46 = .ok (.bastore, 1) := by decide +kernel
theorem dX9_land_47 : decode cX9_land 47 = .ok (.iinc 1 1, 3) := by decide +kernel
theorem dX9_land_50 : decode cX9_land 50 = .ok (.goto (-15), 3) := by decide +kernel
theorem dX9_land_53 : decode cX9_land 53 = .ok (.aload_n 0, 1) := by decide +kernel
theorem dX9_land_54 : decode cX9_land 54 = .ok (.getfield 19, 3) := by decide +kernel
theorem dX9_land_57 : decode cX9_land 57 = .ok (.getfield 88, 3) := by decide +kernel
theorem dX9_land_60 : decode cX9_land 60 = .ok (.ireturn, 1) := by decide +kernel
theorem dX9_about_0 : decode cX9_about 0 = .ok (.iload_n 1, 1) := by decide +kernel
theorem dX9_about_1 : decode cX9_about 1 = .ok (.tableswitch 123 0 8 #[51, 59, 67, 75, 83, 91, 99, 107, 115], 51) := by decide +kernel
theorem dX9_about_52 : decode cX9_about 52 = .ok (.aload_n 0, 1) := by decide +kernel
theorem dX9_about_53 : decode cX9_about 53 = .ok (.getfield 19, 3) := by decide +kernel
theorem dX9_about_56 : decode cX9_about 56 = .ok (.getfield 88, 3) := by decide +kernel
theorem dX9_about_59 : decode cX9_about 59 = .ok (.ireturn, 1) := by decide +kernel
theorem dX9_about_60 : decode cX9_about 60 = .ok (.aload_n 0, 1) := by decide +kernel
theorem dX9_about_61 : decode cX9_about 61 = .ok (.getfield 19, 3) := by decide +kernel
theorem dX9_about_64 : decode cX9_about 64 = .ok (.getfield 91, 3) := by decide +kernel
theorem dX9_about_67 : decode cX9_about 67 = .ok (.ireturn, 1) := by decide +kernel
theorem dX9_about_68 : decode cX9_about 68 = .ok (.aload_n 0, 1) := by decide +kernel
theorem dX9_about_69 : decode cX9_about 69 = .ok (.getfield 19, 3) := by decide +kernel
theorem dX9_about_72 : decode cX9_about 72 = .ok (.getfield 94, 3) := by decide +kernel
theorem dX9_about_75 : decode cX9_about 75 = .ok (.ireturn, 1) := by decide +kernel
theorem dX9_about_76 : decode cX9_about 76 = .ok (.aload_n 0, 1) := by decide +kernel
theorem dX9_about_77 : decode cX9_about 77 = .ok (.getfield 19, 3) := by decide +kernel
theorem dX9_about_80 : decode cX9_about 80 = .ok (.getfield 97, 3) := by decide +kernel
theorem dX9_about_83 : decode cX9_about 83 = .ok (.ireturn, 1) := by decide +kernel
theorem dX9_about_84 : decode cX9_about 84 = .ok (.aload_n 0, 1) := by decide +kernel
theorem dX9_about_85 : decode cX9_about 85 = .ok (.getfield 19, 3) := by decide +kernel
theorem dX9_about_88 : decode cX9_about 88 = .ok (.getfield 100, 3) := by decide +kernel
theorem dX9_about_91 : decode cX9_about 91 = .ok (.ireturn, 1) := by decide +kernel
theorem dX9_about_92 : decode cX9_about 92 = .ok (.aload_n 0, 1) := by decide +kernel
theorem dX9_about_93 : decode cX9_about 93 = .ok (.getfield 19, 3) := by decide +kernel
theorem dX9_about_96 : decode cX9_about 96 = .ok (.getfield 103, 3) := by decide +kernel
theorem dX9_about_99 : decode cX9_about 99 = .ok (.ireturn, 1) := by decide +kernel
theorem dX9_about_100 : decode cX9_about 100 = .ok (.aload_n 0, 1) := by decide +kernel
theorem dX9_about_101 : decode cX9_about 101 = .ok (.getfield 19, 3) := by decide +kernel
theorem dX9_about_104 : decode cX9_about 104 = .ok (.getfield 106, 3) := by decide +kernel
theorem dX9_about_107 : decode cX9_about 107 = .ok (.ireturn, 1) := by decide +kernel
theorem dX9_about_108 : decode cX9_about 108 = .ok (.aload_n 0, 1) := by decide +kernel
theorem dX9_about_109 : decode cX9_about 109 = .ok (.getfield 29, 3) := by decide +kernel
theorem dX9_about_112 : decode cX9_about 112 = .ok (.getfield 109, 3) := by decide +kernel
theorem dX9_about_115 : decode cX9_about 115 = .ok (.ireturn, 1) := by decide +kernel
theorem dX9_about_116 : decode cX9_about 116 = .ok (.aload_n 0, 1) := by decide +kernel
theorem dX9_about_117 : decode cX9_about 117 = .ok (.getfield 10, 3) := by decide +kernel
theorem dX9_about_120 : decode cX9_about 120 = .ok (.getfield 73, 3) := by decide +kernel
theorem dX9_about_123 : decode cX9_about 123 = .ok (.ireturn, 1) := by decide +kernel
theorem dX9_about_124 : decode cX9_about 124 = .ok (.bipush (-2), 2) := by decide +kernel
theorem dX9_about_126 : decode cX9_about 126 = .ok (.ireturn, 1) := by decide +kernel
theorem dX9_person_0 : decode cX9_person 0 = .ok (.aload_n 0, 1) := by decide +kernel
theorem dX9_person_1 : decode cX9_person 1 = .ok (.getfield 19, 3) := by decide +kernel
theorem dX9_person_4 : decode cX9_person 4 = .ok (.iload_n 1, 1) := by decide +kernel
theorem dX9_person_5 : decode cX9_person 5 = .ok (.invokevirtual 112, 3) := by decide +kernel
theorem dX9_person_8 : decode cX9_person 8 = .ok (.ifCond .ne 5, 3) := by decide +kernel
theorem dX9_person_11 : decode cX9_person 11 = .ok (.iconst (-1), 1) := by decide +kernel
theorem dX9_person_12 : decode cX9_person 12 = .ok (.ireturn, 1) := by decide +kernel
theorem dX9_person_13 : decode cX9_person 13 = .ok (.iload_n 2, 1) := by decide +kernel
theorem dX9_person_14 : decode cX9_person 14 = .ok (.tableswitch 95 0 4 #[34, 43, 60, 69, 86], 34) := by decide +kernel
theorem dX9_person_48 : decode cX9_person 48 = .ok (.aload_n 0, 1) := by decide +kernel
theorem dX9_person_49 : decode cX9_person 49 = .ok (.getfield 19, 3) := by decide +kernel
theorem dX9_person_52 : decode cX9_person 52 = .ok (.iload_n 1, 1) := by decide +kernel
theorem dX9_person_53 : decode cX9_person 53 = .ok (.invokevirtual 115, 3) := by decide +kernel
theorem dX9_person_56 : decode cX9_person 56 = .ok (.ireturn, 1) := by decide +kernel
theorem dX9_person_57 : decode cX9_person 57 = .ok (.aload_n 0, 1) := by decide +kernel
theorem dX9_person_58 : decode cX9_person 58 = .ok (.getfield 19, 3) := by decide +kernel
theorem dX9_person_61 : decode cX9_person 61 = .ok (.iload_n 1, 1) := by decide +kernel
theorem dX9_person_62 : decode cX9_person 62 = .ok (.invokevirtual 119, 3) := by decide +kernel
theorem dX9_person_65 : decode cX9_person 65 = .ok (.ifCond .eq 7, 3) := by decide +kernel
theorem dX9_person_68 : decode cX9_person 68 = .ok (.iconst 1, 1) := by decide +kernel
theorem dX9_person_69 : decode cX9_person 69 = .ok (.goto 4, 3) := by decide +kernel
theorem dX9_person_72 : decode cX9_person 72 = .ok (.iconst 0, 1) := by decide +kernel
theorem dX9_person_73 : decode cX9_person 73 = .ok (.ireturn, 1) := by decide +kernel
theorem dX9_person_74 : decode cX9_person 74 = .ok (.aload_n 0, 1) := by decide +kernel
theorem dX9_person_75 : decode cX9_person 75 = .ok (.getfield 19, 3) := by decide +kernel
theorem dX9_person_78 : decode cX9_person 78 = .ok (.iload_n 1, 1) := by decide +kernel
theorem dX9_person_79 : decode cX9_person 79 = .ok (.invokevirtual 122, 3) := by decide +kernel
theorem dX9_person_82 : decode cX9_person 82 = .ok (.ireturn, 1) := by decide +kernel
theorem dX9_person_83 : decode cX9_person 83 = .ok (.aload_n 0, 1) := by decide +kernel
theorem dX9_person_84 : decode cX9_person 84 = .ok (.getfield 19, 3) := by decide +kernel
theorem dX9_person_87 : decode cX9_person 87 = .ok (.iload_n 1, 1) := by decide +kernel
theorem dX9_person_88 : decode cX9_person 88 = .ok (.invokevirtual 125, 3) := by decide +kernel
theorem dX9_person_91 : decode cX9_person 91 = .ok (.ifCond .eq 7, 3) := by decide +kernel
theorem dX9_person_94 : decode cX9_person 94 = .ok (.iconst 1, 1) := by decide +kernel
theorem dX9_person_95 : decode cX9_person 95 = .ok (.goto 4, 3) := by decide +kernel
theorem dX9_person_98 : decode cX9_person 98 = .ok (.iconst 0, 1) := by decide +kernel
theorem dX9_person_99 : decode cX9_person 99 = .ok (.ireturn, 1) := by decide +kernel
theorem dX9_person_100 : decode cX9_person 100 = .ok (.aload_n 0, 1) := by decide +kernel
theorem dX9_person_101 : decode cX9_person 101 = .ok (.getfield 19, 3) := by decide +kernel
theorem dX9_person_104 : decode cX9_person 104 = .ok (.iload_n 1, 1) := by decide +kernel
theorem dX9_person_105 : decode cX9_person 105 = .ok (.invokevirtual 128, 3) := by decide +kernel
theorem dX9_person_108 : decode cX9_person 108 = .ok (.ireturn, 1) := by decide +kernel
theorem dX9_person_109 : decode cX9_person 109 = .ok (.bipush (-2), 2) := by decide +kernel
theorem dX9_person_111 : decode cX9_person 111 = .ok (.ireturn, 1) := by decide +kernel
theorem dX9_die_0 : decode cX9_die 0 = .ok (.aload_n 0, 1) := by decide +kernel
theorem dX9_die_1 : decode cX9_die 1 = .ok (.getfield 19, 3) := by decide +kernel
theorem dX9_die_4 : decode cX9_die 4 = .ok (.iload_n 1, 1) := by decide +kernel
theorem dX9_die_5 : decode cX9_die 5 = .ok (.invokevirtual 112, 3) := by decide +kernel
theorem dX9_die_8 : decode cX9_die 8 = .ok (.ifCond .ne 5, 3) := by decide +kernel
theorem dX9_die_11 : decode cX9_die 11 = .ok (.iconst (-1), 1) := by decide +kernel
theorem dX9_die_12 : decode cX9_die 12 = .ok (.ireturn, 1) := by decide +kernel
theorem dX9_die_13 : decode cX9_die 13 = .ok (.aload_n 0, 1) := by decide +kernel
theorem dX9_die_14 : decode cX9_die 14 = .ok (.getfield 19, 3) := by decide +kernel
theorem dX9_die_17 : decode cX9_die 17 = .ok (.iload_n 1, 1) := by decide +kernel
theorem dX9_die_18 : decode cX9_die 18 = .ok (.invokevirtual 125, 3) := by decide +kernel
theorem dX9_die_21 : decode cX9_die 21 = .ok (.ifCond .ne 6, 3) := by decide +kernel
theorem dX9_die_24 : decode cX9_die 24 = .ok (.bipush (-3), 2) := by decide +kernel
theorem dX9_die_26 : decode cX9_die 26 = .ok (.ireturn, 1) := by decide +kernel
theorem dX9_die_27 : decode cX9_die 27 = .ok (.aload_n 0, 1) := by decide +kernel
theorem dX9_die_28 : decode cX9_die 28 = .ok (.getfield 29, 3) := by decide +kernel
theorem dX9_die_31 : decode cX9_die 31 = .ok (.aload_n 0, 1) := by decide +kernel
theorem dX9_die_32 : decode cX9_die 32 = .ok (.getfield 19, 3) := by decide +kernel
theorem dX9_die_35 : decode cX9_die 35 = .ok (.invokevirtual 131, 3) := by decide +kernel
theorem dX9_die_38 : decode cX9_die 38 = .ok (.aload_n 0, 1) := by decide +kernel
theorem dX9_die_39 : decode cX9_die 39 = .ok (.getfield 19, 3) := by decide +kernel
theorem dX9_die_42 : decode cX9_die 42 = .ok (.iload_n 1, 1) := by decide +kernel
theorem dX9_die_43 : decode cX9_die 43 = .ok (.aload_n 0, 1) := by decide +kernel
theorem dX9_die_44 : decode cX9_die 44 = .ok (.getfield 44, 3) := by decide +kernel
theorem dX9_die_47 : decode cX9_die 47 = .ok (.invokevirtual 134, 3) := by decide +kernel
theorem dX9_die_50 : decode cX9_die 50 = .ok (.aload_n 0, 1) := by decide +kernel
theorem dX9_die_51 : decode cX9_die 51 = .ok (.getfield 19, 3) := by decide +kernel
theorem dX9_die_54 : decode cX9_die 54 = .ok (.getfield 94, 3) := by decide +kernel
theorem dX9_die_57 : decode cX9_die 57 = .ok (.ireturn, 1) := by decide +kernel
theorem dX9_bear_0 : decode cX9_bear 0 = .ok (.aload_n 0, 1) := by decide +kernel
theorem dX9_bear_1 : decode cX9_bear 1 = .ok (.getfield 19, 3) := by decide +kernel
theorem dX9_bear_4 : decode cX9_bear 4 = .ok (.iload_n 1, 1) := by decide +kernel
theorem dX9_bear_5 : decode cX9_bear 5 = .ok (.invokevirtual 112, 3) := by decide +kernel
theorem dX9_bear_8 : decode cX9_bear 8 = .ok (.ifCond .ne 5, 3) := by decide +kernel
theorem dX9_bear_11 : decode cX9_bear 11 = .ok (.iconst (-1), 1) := by decide +kernel
theorem dX9_bear_12 : decode cX9_bear 12 = .ok (.ireturn, 1) := by decide +kernel
theorem dX9_bear_13 : decode cX9_bear 13 = .ok (.iload_n 2, 1) := by decide +kernel
theorem dX9_bear_14 : decode cX9_bear 14 = .ok (.ifCond .eq 11, 3) := by decide +kernel
theorem dX9_bear_17 : decode cX9_bear 17 = .ok (.iload_n 2, 1) := by decide +kernel
theorem dX9_bear_18 : decode cX9_bear 18 = .ok (.iconst 1, 1) := by decide +kernel
theorem dX9_bear_19 : decode cX9_bear 19 = .ok (.if_icmp .eq 6, 3) := by decide +kernel
theorem dX9_bear_22 : decode cX9_bear 22 = .ok (.bipush (-2), 2) := by decide +kernel
theorem dX9_bear_24 : decode cX9_bear 24 = .ok (.ireturn, 1) := by decide +kernel
theorem dX9_bear_25 : decode cX9_bear 25 = .ok (.aload_n 0, 1) := by decide +kernel
theorem dX9_bear_26 : decode cX9_bear 26 = .ok (.getfield 19, 3) := by decide +kernel
theorem dX9_bear_29 : decode cX9_bear 29 = .ok (.iload_n 1, 1) := by decide +kernel
theorem dX9_bear_30 : decode cX9_bear 30 = .ok (.invokevirtual 125, 3) := by decide +kernel
theorem dX9_bear_33 : decode cX9_bear 33 = .ok (.ifCond .ne 6, 3) := by decide +kernel
theorem dX9_bear_36 : decode cX9_bear 36 = .ok (.bipush (-3), 2) := by decide +kernel
theorem dX9_bear_38 : decode cX9_bear 38 = .ok (.ireturn, 1) := by decide +kernel
theorem dX9_bear_39 : decode cX9_bear 39 = .ok (.aload_n 0, 1) := by decide +kernel
theorem dX9_bear_40 : decode cX9_bear 40 = .ok (.getfield 19, 3) := by decide +kernel
theorem dX9_bear_43 : decode cX9_bear 43 = .ok (.getfield 88, 3) := by decide +kernel
theorem dX9_bear_46 : decode cX9_bear 46 = .ok (.bipush 7, 2) := by decide +kernel
theorem dX9_bear_48 : decode cX9_bear 48 = .ok (.if_icmp .lt 6, 3) := by decide +kernel
theorem dX9_bear_51 : decode cX9_bear 51 = .ok (.bipush (-4), 2) := by decide +kernel
theorem dX9_bear_53 : decode cX9_bear 53 = .ok (.ireturn, 1) := by decide +kernel
theorem dX9_bear_54 : decode cX9_bear 54 = .ok (.aload_n 0, 1) := by decide +kernel
theorem dX9_bear_55 : decode cX9_bear 55 = .ok (.getfield 29, 3) := by decide +kernel
theorem dX9_bear_58 : decode cX9_bear 58 = .ok (.aload_n 0, 1) := by decide +kernel
theorem dX9_bear_59 : decode cX9_bear 59 = .ok (.getfield 19, 3) := by decide +kernel
theorem dX9_bear_62 : decode cX9_bear 62 = .ok (.invokevirtual 131, 3) := by decide +kernel
theorem dX9_bear_65 : decode cX9_bear 65 = .ok (.aload_n 0, 1) := by decide +kernel
theorem dX9_bear_66 : decode cX9_bear 66 = .ok (.getfield 19, 3) := by decide +kernel
theorem dX9_bear_69 : decode cX9_bear 69 = .ok (.iload_n 1, 1) := by decide +kernel
theorem dX9_bear_70 : decode cX9_bear 70 = .ok (.iload_n 2, 1) := by decide +kernel
theorem dX9_bear_71 : decode cX9_bear 71 = .ok (.iconst 1, 1) := by decide +kernel
theorem dX9_bear_72 : decode cX9_bear 72 = .ok (.if_icmp .ne 7, 3) := by decide +kernel
theorem dX9_bear_75 : decode cX9_bear 75 = .ok (.iconst 1, 1) := by decide +kernel
theorem dX9_bear_76 : decode cX9_bear 76 = .ok (.goto 4, 3) := by decide +kernel
theorem dX9_bear_79 : decode cX9_bear 79 = .ok (.iconst 0, 1) := by decide +kernel
theorem dX9_bear_80 : decode cX9_bear 80 = .ok (.iconst 0, 1) := by decide +kernel
theorem dX9_bear_81 : decode cX9_bear 81 = .ok (.invokevirtual 138, 3) := by decide +kernel
theorem dX9_bear_84 : decode cX9_bear 84 = .ok (.aload_n 0, 1) := by decide +kernel
theorem dX9_bear_85 : decode cX9_bear 85 = .ok (.getfield 19, 3) := by decide +kernel
theorem dX9_bear_88 : decode cX9_bear 88 = .ok (.getfield 88, 3) := by decide +kernel
theorem dX9_bear_91 : decode cX9_bear 91 = .ok (.iconst 1, 1) := by decide +kernel
theorem dX9_bear_92 : decode cX9_bear 92 = .ok (.isub, 1) := by decide +kernel
theorem dX9_bear_93 : decode cX9_bear 93 = .ok (.ireturn, 1) := by decide +kernel
theorem dX9_cut_0 : decode cX9_cut 0 = .ok (.iload_n 1, 1) := by decide +kernel
theorem dX9_cut_1 : decode cX9_cut 1 = .ok (.iconst 1, 1) := by decide +kernel
theorem dX9_cut_2 : decode cX9_cut 2 = .ok (.if_icmp .lt 9, 3) := by decide +kernel
theorem dX9_cut_5 : decode cX9_cut 5 = .ok (.iload_n 1, 1) := by decide +kernel
theorem dX9_cut_6 : decode cX9_cut 6 = .ok (.bipush 9, 2) := by decide +kernel
theorem dX9_cut_8 : decode cX9_cut 8 = .ok (.if_icmp .le 6, 3) := by decide +kernel
theorem dX9_cut_11 : decode cX9_cut 11 = .ok (.bipush (-2), 2) := by decide +kernel
theorem dX9_cut_13 : decode cX9_cut 13 = .ok (.ireturn, 1) := by decide +kernel
theorem dX9_cut_14 : decode cX9_cut 14 = .ok (.aload_n 0, 1) := by decide +kernel
theorem dX9_cut_15 : decode cX9_cut 15 = .ok (.getfield 19, 3) := by decide +kernel
theorem dX9_cut_18 : decode cX9_cut 18 = .ok (.getfield 100, 3) := by decide +kernel
theorem dX9_cut_21 : decode cX9_cut 21 = .ok (.iload_n 1, 1) := by decide +kernel
theorem dX9_cut_22 : decode cX9_cut 22 = .ok (.if_icmp .lt 15, 3) := by decide +kernel
theorem dX9_cut_25 : decode cX9_cut 25 = .ok (.aload_n 0, 1) := by decide +kernel
theorem dX9_cut_26 : decode cX9_cut 26 = .ok (.getfield 19, 3) := by decide +kernel
theorem dX9_cut_29 : decode cX9_cut 29 = .ok (.getfield 94, 3) := by decide +kernel
theorem dX9_cut_32 : decode cX9_cut 32 = .ok (.bipush (-9), 2) := by decide +kernel
theorem dX9_cut_34 : decode cX9_cut 34 = .ok (.if_icmp .ne 6, 3) := by decide +kernel
theorem dX9_cut_37 : decode cX9_cut 37 = .ok (.bipush (-3), 2) := by decide +kernel
theorem dX9_cut_39 : decode cX9_cut 39 = .ok (.ireturn, 1) := by decide +kernel
theorem dX9_cut_40 : decode cX9_cut 40 = .ok (.aload_n 0, 1) := by decide +kernel
theorem dX9_cut_41 : decode cX9_cut 41 = .ok (.getfield 29, 3) := by decide +kernel
theorem dX9_cut_44 : decode cX9_cut 44 = .ok (.aload_n 0, 1) := by decide +kernel
theorem dX9_cut_45 : decode cX9_cut 45 = .ok (.getfield 19, 3) := by decide +kernel
theorem dX9_cut_48 : decode cX9_cut 48 = .ok (.invokevirtual 131, 3) := by decide +kernel
theorem dX9_cut_51 : decode cX9_cut 51 = .ok (.aload_n 0, 1) := by decide +kernel
theorem dX9_cut_52 : decode cX9_cut 52 = .ok (.getfield 19, 3) := by decide +kernel
theorem dX9_cut_55 : decode cX9_cut 55 = .ok (.dup, 1) := by decide +kernel
theorem dX9_cut_56 : decode cX9_cut 56 = .ok (.getfield 100, 3) := by decide +kernel
theorem dX9_cut_59 : decode cX9_cut 59 = .ok (.iload_n 1, 1) := by decide +kernel
theorem dX9_cut_60 : decode cX9_cut 60 = .ok (.isub, 1) := by decide +kernel
theorem dX9_cut_61 : decode cX9_cut 61 = .ok (.putfield 100, 3) := by decide +kernel
theorem dX9_cut_64 : decode cX9_cut 64 = .ok (.aload_n 0, 1) := by decide +kernel
theorem dX9_cut_65 : decode cX9_cut 65 = .ok (.getfield 19, 3) := by decide +kernel
theorem dX9_cut_68 : decode cX9_cut 68 = .ok (.getfield 100, 3) := by decide +kernel
theorem dX9_cut_71 : decode cX9_cut 71 = .ok (.ireturn, 1) := by decide +kernel
theorem dX9_borrow_0 : decode cX9_borrow 0 = .ok (.iload_n 1, 1) := by decide +kernel
theorem dX9_borrow_1 : decode cX9_borrow 1 = .ok (.iconst 1, 1) := by decide +kernel
theorem dX9_borrow_2 : decode cX9_borrow 2 = .ok (.if_icmp .lt 9, 3) := by decide +kernel
theorem dX9_borrow_5 : decode cX9_borrow 5 = .ok (.iload_n 1, 1) := by decide +kernel
theorem dX9_borrow_6 : decode cX9_borrow 6 = .ok (.bipush 9, 2) := by decide +kernel
theorem dX9_borrow_8 : decode cX9_borrow 8 = .ok (.if_icmp .le 6, 3) := by decide +kernel
theorem dX9_borrow_11 : decode cX9_borrow 11 = .ok (.bipush (-2), 2) := by decide +kernel
theorem dX9_borrow_13 : decode cX9_borrow 13 = .ok (.ireturn, 1) := by decide +kernel
theorem dX9_borrow_14 : decode cX9_borrow 14 = .ok (.aload_n 0, 1) := by decide +kernel
theorem dX9_borrow_15 : decode cX9_borrow 15 = .ok (.getfield 19, 3) := by decide +kernel
theorem dX9_borrow_18 : decode cX9_borrow 18 = .ok (.getfield 103, 3) := by decide +kernel
theorem dX9_borrow_21 : decode cX9_borrow 21 = .ok (.iload_n 1, 1) := by decide +kernel
theorem dX9_borrow_22 : decode cX9_borrow 22 = .ok (.iadd, 1) := by decide +kernel
theorem dX9_borrow_23 : decode cX9_borrow 23 = .ok (.bipush 9, 2) := by decide +kernel
theorem dX9_borrow_25 : decode cX9_borrow 25 = .ok (.if_icmp .gt 15, 3) := by decide +kernel
theorem dX9_borrow_28 : decode cX9_borrow 28 = .ok (.aload_n 0, 1) := by decide +kernel
theorem dX9_borrow_29 : decode cX9_borrow 29 = .ok (.getfield 19, 3) := by decide +kernel
theorem dX9_borrow_32 : decode cX9_borrow 32 = .ok (.getfield 94, 3) := by decide +kernel
theorem dX9_borrow_35 : decode cX9_borrow 35 = .ok (.bipush (-9), 2) := by decide +kernel
theorem dX9_borrow_37 : decode cX9_borrow 37 = .ok (.if_icmp .ne 6, 3) := by decide +kernel
theorem dX9_borrow_40 : decode cX9_borrow 40 = .ok (.bipush (-3), 2) := by decide +kernel
theorem dX9_borrow_42 : decode cX9_borrow 42 = .ok (.ireturn, 1) := by decide +kernel
theorem dX9_borrow_43 : decode cX9_borrow 43 = .ok (.aload_n 0, 1) := by decide +kernel
theorem dX9_borrow_44 : decode cX9_borrow 44 = .ok (.getfield 29, 3) := by decide +kernel
theorem dX9_borrow_47 : decode cX9_borrow 47 = .ok (.aload_n 0, 1) := by decide +kernel
theorem dX9_borrow_48 : decode cX9_borrow 48 = .ok (.getfield 19, 3) := by decide +kernel
theorem dX9_borrow_51 : decode cX9_borrow 51 = .ok (.invokevirtual 131, 3) := by decide +kernel
theorem dX9_borrow_54 : decode cX9_borrow 54 = .ok (.aload_n 0, 1) := by decide +kernel
theorem dX9_borrow_55 : decode cX9_borrow 55 = .ok (.getfield 19, 3) := by decide +kernel
theorem dX9_borrow_58 : decode cX9_borrow 58 = .ok (.dup, 1) := by decide +kernel
theorem dX9_borrow_59 : decode cX9_borrow 59 = .ok (.getfield 103, 3) := by decide +kernel
theorem dX9_borrow_62 : decode cX9_borrow 62 = .ok (.iload_n 1, 1) := by decide +kernel
theorem dX9_borrow_63 : decode cX9_borrow 63 = .ok (.iadd, 1) := by decide +kernel
theorem dX9_borrow_64 : decode cX9_borrow 64 = .ok (.putfield 103, 3) := by decide +kernel
theorem dX9_borrow_67 : decode cX9_borrow 67 = .ok (.aload_n 0, 1) := by decide +kernel
theorem dX9_borrow_68 : decode cX9_borrow 68 = .ok (.getfield 19, 3) := by decide +kernel
theorem dX9_borrow_71 : decode cX9_borrow 71 = .ok (.getfield 103, 3) := by decide +kernel
theorem dX9_borrow_74 : decode cX9_borrow 74 = .ok (.ireturn, 1) := by decide +kernel
theorem dX9_breakTie_0 : decode cX9_breakTie 0 = .ok (.iload_n 1, 1) := by decide +kernel
theorem dX9_breakTie_1 : decode cX9_breakTie 1 = .ok (.invokestatic 142, 3) := by decide +kernel
theorem dX9_breakTie_4 : decode cX9_breakTie 4 = .ok (.ifCond .ne 6, 3) := by decide +kernel
theorem dX9_breakTie_7 : decode cX9_breakTie 7 = .ok (.bipush (-2), 2) := by decide +kernel
theorem dX9_breakTie_9 : decode cX9_breakTie 9 = .ok (.ireturn, 1) := by decide +kernel
theorem dX9_breakTie_10 : decode cX9_breakTie 10 = .ok (.aload_n 0, 1) := by decide +kernel
theorem dX9_breakTie_11 : decode cX9_breakTie 11 = .ok (.invokevirtual 145, 3) := by decide +kernel
theorem dX9_breakTie_14 : decode cX9_breakTie 14 = .ok (.ifCond .eq 14, 3) := by decide +kernel
theorem dX9_breakTie_17 : decode cX9_breakTie 17 = .ok (.aload_n 0, 1) := by decide +kernel
theorem dX9_breakTie_18 : decode cX9_breakTie 18 = .ok (.getfield 19, 3) := by decide +kernel
theorem dX9_breakTie_21 : decode cX9_breakTie 21 = .ok (.getfield 97, 3) := by decide +kernel
theorem dX9_breakTie_24 : decode cX9_breakTie 24 = .ok (.iload_n 1, 1) := by decide +kernel
theorem dX9_breakTie_25 : decode cX9_breakTie 25 = .ok (.if_icmp .ne 6, 3) := by decide +kernel
theorem dX9_breakTie_28 : decode cX9_breakTie 28 = .ok (.bipush (-3), 2) := by decide +kernel
end
section
theorem dX9_breakTie_30 : decode cX9_breakTie 30 = .ok (.ireturn, 1) := by decide +kernel
theorem dX9_breakTie_31 : decode cX9_breakTie 31 = .ok (.aload_n 0, 1) := by decide +kernel
theorem dX9_breakTie_32 : decode cX9_breakTie 32 = .ok (.getfield 29, 3) := by decide +kernel
theorem dX9_breakTie_35 : decode cX9_breakTie 35 = .ok (.aload_n 0, 1) := by decide +kernel
theorem dX9_breakTie_36 : decode cX9_breakTie 36 = .ok (.getfield 19, 3) := by decide +kernel
theorem dX9_breakTie_39 : decode cX9_breakTie 39 = .ok (.invokevirtual 131, 3) := by decide +kernel
theorem dX9_breakTie_42 : decode cX9_breakTie 42 = .ok (.aload_n 0, 1) := by decide +kernel
theorem dX9_breakTie_43 : decode cX9_breakTie 43 = .ok (.getfield 19, 3) := by decide +kernel
theorem dX9_breakTie_46 : decode cX9_breakTie 46 = .ok (.getfield 97, 3) := by decide +kernel
theorem dX9_breakTie_49 : decode cX9_breakTie 49 = .ok (.istore_n 2, 1) := by decide +kernel
theorem dX9_breakTie_50 : decode cX9_breakTie 50 = .ok (.aload_n 0, 1) := by decide +kernel
theorem dX9_breakTie_51 : decode cX9_breakTie 51 = .ok (.getfield 19, 3) := by decide +kernel
theorem dX9_breakTie_54 : decode cX9_breakTie 54 = .ok (.iload_n 1, 1) := by decide +kernel
theorem dX9_breakTie_55 : decode cX9_breakTie 55 = .ok (.putfield 97, 3) := by decide +kernel
theorem dX9_breakTie_58 : decode cX9_breakTie 58 = .ok (.iload_n 2, 1) := by decide +kernel
theorem dX9_breakTie_59 : decode cX9_breakTie 59 = .ok (.ireturn, 1) := by decide +kernel
theorem dX9_tens_0 : decode cX9_tens 0 = .ok (.aload_n 0, 1) := by decide +kernel
theorem dX9_tens_1 : decode cX9_tens 1 = .ok (.getfield 29, 3) := by decide +kernel
theorem dX9_tens_4 : decode cX9_tens 4 = .ok (.aload_n 0, 1) := by decide +kernel
theorem dX9_tens_5 : decode cX9_tens 5 = .ok (.getfield 19, 3) := by decide +kernel
theorem dX9_tens_8 : decode cX9_tens 8 = .ok (.invokevirtual 131, 3) := by decide +kernel
theorem dX9_tens_11 : decode cX9_tens 11 = .ok (.aload_n 0, 1) := by decide +kernel
theorem dX9_tens_12 : decode cX9_tens 12 = .ok (.getfield 19, 3) := by decide +kernel
theorem dX9_tens_15 : decode cX9_tens 15 = .ok (.invokevirtual 149, 3) := by decide +kernel
theorem dX9_tens_18 : decode cX9_tens 18 = .ok (.aload_n 0, 1) := by decide +kernel
theorem dX9_tens_19 : decode cX9_tens 19 = .ok (.getfield 19, 3) := by decide +kernel
theorem dX9_tens_22 : decode cX9_tens 22 = .ok (.getfield 106, 3) := by decide +kernel
theorem dX9_tens_25 : decode cX9_tens 25 = .ok (.ireturn, 1) := by decide +kernel
theorem dX9_undo_0 : decode cX9_undo 0 = .ok (.aload_n 0, 1) := by decide +kernel
theorem dX9_undo_1 : decode cX9_undo 1 = .ok (.getfield 29, 3) := by decide +kernel
theorem dX9_undo_4 : decode cX9_undo 4 = .ok (.aload_n 0, 1) := by decide +kernel
theorem dX9_undo_5 : decode cX9_undo 5 = .ok (.getfield 19, 3) := by decide +kernel
theorem dX9_undo_8 : decode cX9_undo 8 = .ok (.invokevirtual 152, 3) := by decide +kernel
theorem dX9_undo_11 : decode cX9_undo 11 = .ok (.ifCond .eq 13, 3) := by decide +kernel
theorem dX9_undo_14 : decode cX9_undo 14 = .ok (.aload_n 0, 1) := by decide +kernel
theorem dX9_undo_15 : decode cX9_undo 15 = .ok (.getfield 29, 3) := by decide +kernel
theorem dX9_undo_18 : decode cX9_undo 18 = .ok (.getfield 109, 3) := by decide +kernel
theorem dX9_undo_21 : decode cX9_undo 21 = .ok (.goto 5, 3) := by decide +kernel
theorem dX9_undo_24 : decode cX9_undo 24 = .ok (.bipush (-3), 2) := by decide +kernel
theorem dX9_undo_26 : decode cX9_undo 26 = .ok (.ireturn, 1) := by decide +kernel
theorem dX9_heir_0 : decode cX9_heir 0 = .ok (.aload_n 0, 1) := by decide +kernel
theorem dX9_heir_1 : decode cX9_heir 1 = .ok (.getfield 19, 3) := by decide +kernel
theorem dX9_heir_4 : decode cX9_heir 4 = .ok (.iload_n 1, 1) := by decide +kernel
theorem dX9_heir_5 : decode cX9_heir 5 = .ok (.invokevirtual 112, 3) := by decide +kernel
theorem dX9_heir_8 : decode cX9_heir 8 = .ok (.ifCond .ne 5, 3) := by decide +kernel
theorem dX9_heir_11 : decode cX9_heir 11 = .ok (.iconst (-1), 1) := by decide +kernel
theorem dX9_heir_12 : decode cX9_heir 12 = .ok (.ireturn, 1) := by decide +kernel
theorem dX9_heir_13 : decode cX9_heir 13 = .ok (.iload_n 2, 1) := by decide +kernel
theorem dX9_heir_14 : decode cX9_heir 14 = .ok (.invokestatic 142, 3) := by decide +kernel
theorem dX9_heir_17 : decode cX9_heir 17 = .ok (.ifCond .ne 6, 3) := by decide +kernel
theorem dX9_heir_20 : decode cX9_heir 20 = .ok (.bipush (-2), 2) := by decide +kernel
theorem dX9_heir_22 : decode cX9_heir 22 = .ok (.ireturn, 1) := by decide +kernel
theorem dX9_heir_23 : decode cX9_heir 23 = .ok (.aload_n 0, 1) := by decide +kernel
theorem dX9_heir_24 : decode cX9_heir 24 = .ok (.getfield 44, 3) := by decide +kernel
theorem dX9_heir_27 : decode cX9_heir 27 = .ok (.aload_n 0, 1) := by decide +kernel
theorem dX9_heir_28 : decode cX9_heir 28 = .ok (.getfield 19, 3) := by decide +kernel
theorem dX9_heir_31 : decode cX9_heir 31 = .ok (.iload_n 1, 1) := by decide +kernel
theorem dX9_heir_32 : decode cX9_heir 32 = .ok (.iload_n 2, 1) := by decide +kernel
theorem dX9_heir_33 : decode cX9_heir 33 = .ok (.invokevirtual 156, 3) := by decide +kernel
theorem dX9_heir_36 : decode cX9_heir 36 = .ok (.aload_n 0, 1) := by decide +kernel
theorem dX9_heir_37 : decode cX9_heir 37 = .ok (.getfield 44, 3) := by decide +kernel
theorem dX9_heir_40 : decode cX9_heir 40 = .ok (.aload_n 0, 1) := by decide +kernel
theorem dX9_heir_41 : decode cX9_heir 41 = .ok (.getfield 19, 3) := by decide +kernel
theorem dX9_heir_44 : decode cX9_heir 44 = .ok (.getfield 91, 3) := by decide +kernel
theorem dX9_heir_47 : decode cX9_heir 47 = .ok (.invokevirtual 160, 3) := by decide +kernel
theorem dX9_heir_50 : decode cX9_heir 50 = .ok (.ireturn, 1) := by decide +kernel
theorem dX9_line_0 : decode cX9_line 0 = .ok (.aload_n 0, 1) := by decide +kernel
theorem dX9_line_1 : decode cX9_line 1 = .ok (.getfield 19, 3) := by decide +kernel
theorem dX9_line_4 : decode cX9_line 4 = .ok (.iload_n 1, 1) := by decide +kernel
theorem dX9_line_5 : decode cX9_line 5 = .ok (.invokevirtual 112, 3) := by decide +kernel
theorem dX9_line_8 : decode cX9_line 8 = .ok (.ifCond .eq 14, 3) := by decide +kernel
theorem dX9_line_11 : decode cX9_line 11 = .ok (.aload_n 0, 1) := by decide +kernel
theorem dX9_line_12 : decode cX9_line 12 = .ok (.getfield 19, 3) := by decide +kernel
theorem dX9_line_15 : decode cX9_line 15 = .ok (.iload_n 2, 1) := by decide +kernel
theorem dX9_line_16 : decode cX9_line 16 = .ok (.invokevirtual 112, 3) := by decide +kernel
theorem dX9_line_19 : decode cX9_line 19 = .ok (.ifCond .ne 5, 3) := by decide +kernel
theorem dX9_line_22 : decode cX9_line 22 = .ok (.iconst (-1), 1) := by decide +kernel
theorem dX9_line_23 : decode cX9_line 23 = .ok (.ireturn, 1) := by decide +kernel
theorem dX9_line_24 : decode cX9_line 24 = .ok (.iload_n 3, 1) := by decide +kernel
theorem dX9_line_25 : decode cX9_line 25 = .ok (.invokestatic 142, 3) := by decide +kernel
theorem dX9_line_28 : decode cX9_line 28 = .ok (.ifCond .ne 6, 3) := by decide +kernel
theorem dX9_line_31 : decode cX9_line 31 = .ok (.bipush (-2), 2) := by decide +kernel
theorem dX9_line_33 : decode cX9_line 33 = .ok (.ireturn, 1) := by decide +kernel
theorem dX9_line_34 : decode cX9_line 34 = .ok (.aload_n 0, 1) := by decide +kernel
theorem dX9_line_35 : decode cX9_line 35 = .ok (.getfield 44, 3) := by decide +kernel
theorem dX9_line_38 : decode cX9_line 38 = .ok (.aload_n 0, 1) := by decide +kernel
theorem dX9_line_39 : decode cX9_line 39 = .ok (.getfield 19, 3) := by decide +kernel
theorem dX9_line_42 : decode cX9_line 42 = .ok (.iload_n 1, 1) := by decide +kernel
theorem dX9_line_43 : decode cX9_line 43 = .ok (.iload_n 3, 1) := by decide +kernel
theorem dX9_line_44 : decode cX9_line 44 = .ok (.invokevirtual 163, 3) := by decide +kernel
theorem dX9_line_47 : decode cX9_line 47 = .ok (.aload_n 0, 1) := by decide +kernel
theorem dX9_line_48 : decode cX9_line 48 = .ok (.getfield 44, 3) := by decide +kernel
theorem dX9_line_51 : decode cX9_line 51 = .ok (.iload_n 2, 1) := by decide +kernel
theorem dX9_line_52 : decode cX9_line 52 = .ok (.invokevirtual 166, 3) := by decide +kernel
theorem dX9_line_55 : decode cX9_line 55 = .ok (.ireturn, 1) := by decide +kernel
theorem dX9_next_0 : decode cX9_next 0 = .ok (.iload_n 1, 1) := by decide +kernel
theorem dX9_next_1 : decode cX9_next 1 = .ok (.invokestatic 142, 3) := by decide +kernel
theorem dX9_next_4 : decode cX9_next 4 = .ok (.ifCond .ne 6, 3) := by decide +kernel
theorem dX9_next_7 : decode cX9_next 7 = .ok (.bipush (-2), 2) := by decide +kernel
theorem dX9_next_9 : decode cX9_next 9 = .ok (.ireturn, 1) := by decide +kernel
theorem dX9_next_10 : decode cX9_next 10 = .ok (.aload_n 0, 1) := by decide +kernel
theorem dX9_next_11 : decode cX9_next 11 = .ok (.getfield 23, 3) := by decide +kernel
theorem dX9_next_14 : decode cX9_next 14 = .ok (.aload_n 0, 1) := by decide +kernel
theorem dX9_next_15 : decode cX9_next 15 = .ok (.getfield 19, 3) := by decide +kernel
theorem dX9_next_18 : decode cX9_next 18 = .ok (.invokevirtual 169, 3) := by decide +kernel
theorem dX9_next_21 : decode cX9_next 21 = .ok (.aload_n 0, 1) := by decide +kernel
theorem dX9_next_22 : decode cX9_next 22 = .ok (.getfield 23, 3) := by decide +kernel
theorem dX9_next_25 : decode cX9_next 25 = .ok (.iload_n 1, 1) := by decide +kernel
theorem dX9_next_26 : decode cX9_next 26 = .ok (.putfield 97, 3) := by decide +kernel
theorem dX9_next_29 : decode cX9_next 29 = .ok (.iconst 0, 1) := by decide +kernel
theorem dX9_next_30 : decode cX9_next 30 = .ok (.istore_n 2, 1) := by decide +kernel
theorem dX9_next_31 : decode cX9_next 31 = .ok (.iconst 0, 1) := by decide +kernel
theorem dX9_next_32 : decode cX9_next 32 = .ok (.istore_n 3, 1) := by decide +kernel
theorem dX9_next_33 : decode cX9_next 33 = .ok (.iload_n 3, 1) := by decide +kernel
theorem dX9_next_34 : decode cX9_next 34 = .ok (.bipush 7, 2) := by decide +kernel
theorem dX9_next_36 : decode cX9_next 36 = .ok (.if_icmp .ge 54, 3) := by decide +kernel
theorem dX9_next_39 : decode cX9_next 39 = .ok (.aload_n 0, 1) := by decide +kernel
theorem dX9_next_40 : decode cX9_next 40 = .ok (.getfield 23, 3) := by decide +kernel
theorem dX9_next_43 : decode cX9_next 43 = .ok (.getfield 94, 3) := by decide +kernel
theorem dX9_next_46 : decode cX9_next 46 = .ok (.bipush (-9), 2) := by decide +kernel
theorem dX9_next_48 : decode cX9_next 48 = .ok (.if_icmp .eq 42, 3) := by decide +kernel
theorem dX9_next_51 : decode cX9_next 51 = .ok (.iload_n 2, 1) := by decide +kernel
theorem dX9_next_52 : decode cX9_next 52 = .ok (.bipush 10, 2) := by decide +kernel
theorem dX9_next_54 : decode cX9_next 54 = .ok (.imul, 1) := by decide +kernel
theorem dX9_next_55 : decode cX9_next 55 = .ok (.aload_n 0, 1) := by decide +kernel
theorem dX9_next_56 : decode cX9_next 56 = .ok (.getfield 23, 3) := by decide +kernel
theorem dX9_next_59 : decode cX9_next 59 = .ok (.getfield 94, 3) := by decide +kernel
theorem dX9_next_62 : decode cX9_next 62 = .ok (.iadd, 1) := by decide +kernel
theorem dX9_next_63 : decode cX9_next 63 = .ok (.iconst 1, 1) := by decide +kernel
theorem dX9_next_64 : decode cX9_next 64 = .ok (.iadd, 1) := by decide +kernel
theorem dX9_next_65 : decode cX9_next 65 = .ok (.istore_n 2, 1) := by decide +kernel
theorem dX9_next_66 : decode cX9_next 66 = .ok (.aload_n 0, 1) := by decide +kernel
theorem dX9_next_67 : decode cX9_next 67 = .ok (.getfield 23, 3) := by decide +kernel
theorem dX9_next_70 : decode cX9_next 70 = .ok (.aload_n 0, 1) := by decide +kernel
theorem dX9_next_71 : decode cX9_next 71 = .ok (.getfield 23, 3) := by decide +kernel
theorem dX9_next_74 : decode cX9_next 74 = .ok (.getfield 94, 3) := by decide +kernel
theorem dX9_next_77 : decode cX9_next 77 = .ok (.aload_n 0, 1) := by decide +kernel
theorem dX9_next_78 : decode cX9_next 78 = .ok (.getfield 44, 3) := by decide +kernel
theorem dX9_next_81 : decode cX9_next 81 = .ok (.invokevirtual 134, 3) := by decide +kernel
theorem dX9_next_84 : decode cX9_next 84 = .ok (.iinc 3 1, 3) := by decide +kernel
theorem dX9_next_87 : decode cX9_next 87 = .ok (.goto (-54), 3) := by decide +kernel
theorem dX9_next_90 : decode cX9_next 90 = .ok (.iload_n 2, 1) := by decide +kernel
theorem dX9_next_91 : decode cX9_next 91 = .ok (.ireturn, 1) := by decide +kernel
theorem dX9_ever_0 : decode cX9_ever 0 = .ok (.iload_n 1, 1) := by decide +kernel
theorem dX9_ever_1 : decode cX9_ever 1 = .ok (.invokestatic 142, 3) := by decide +kernel
theorem dX9_ever_4 : decode cX9_ever 4 = .ok (.ifCond .ne 6, 3) := by decide +kernel
theorem dX9_ever_7 : decode cX9_ever 7 = .ok (.bipush (-2), 2) := by decide +kernel
theorem dX9_ever_9 : decode cX9_ever 9 = .ok (.ireturn, 1) := by decide +kernel
theorem dX9_ever_10 : decode cX9_ever 10 = .ok (.aload_n 0, 1) := by decide +kernel
theorem dX9_ever_11 : decode cX9_ever 11 = .ok (.getfield 19, 3) := by decide +kernel
theorem dX9_ever_14 : decode cX9_ever 14 = .ok (.getfield 94, 3) := by decide +kernel
theorem dX9_ever_17 : decode cX9_ever 17 = .ok (.bipush (-9), 2) := by decide +kernel
theorem dX9_ever_19 : decode cX9_ever 19 = .ok (.if_icmp .ne 5, 3) := by decide +kernel
theorem dX9_ever_22 : decode cX9_ever 22 = .ok (.iconst 0, 1) := by decide +kernel
theorem dX9_ever_23 : decode cX9_ever 23 = .ok (.ireturn, 1) := by decide +kernel
theorem dX9_ever_24 : decode cX9_ever 24 = .ok (.aload_n 0, 1) := by decide +kernel
theorem dX9_ever_25 : decode cX9_ever 25 = .ok (.getfield 44, 3) := by decide +kernel
theorem dX9_ever_28 : decode cX9_ever 28 = .ok (.aload_n 0, 1) := by decide +kernel
theorem dX9_ever_29 : decode cX9_ever 29 = .ok (.getfield 19, 3) := by decide +kernel
theorem dX9_ever_32 : decode cX9_ever 32 = .ok (.aload_n 0, 1) := by decide +kernel
theorem dX9_ever_33 : decode cX9_ever 33 = .ok (.getfield 19, 3) := by decide +kernel
theorem dX9_ever_36 : decode cX9_ever 36 = .ok (.getfield 94, 3) := by decide +kernel
theorem dX9_ever_39 : decode cX9_ever 39 = .ok (.iload_n 1, 1) := by decide +kernel
theorem dX9_ever_40 : decode cX9_ever 40 = .ok (.invokevirtual 156, 3) := by decide +kernel
theorem dX9_ever_43 : decode cX9_ever 43 = .ok (.iconst 1, 1) := by decide +kernel
theorem dX9_ever_44 : decode cX9_ever 44 = .ok (.aload_n 0, 1) := by decide +kernel
theorem dX9_ever_45 : decode cX9_ever 45 = .ok (.getfield 19, 3) := by decide +kernel
theorem dX9_ever_48 : decode cX9_ever 48 = .ok (.getfield 94, 3) := by decide +kernel
theorem dX9_ever_51 : decode cX9_ever 51 = .ok (.ishl, 1) := by decide +kernel
theorem dX9_ever_52 : decode cX9_ever 52 = .ok (.aload_n 0, 1) := by decide +kernel
theorem dX9_ever_53 : decode cX9_ever 53 = .ok (.getfield 44, 3) := by decide +kernel
theorem dX9_ever_56 : decode cX9_ever 56 = .ok (.aload_n 0, 1) := by decide +kernel
theorem dX9_ever_57 : decode cX9_ever 57 = .ok (.getfield 19, 3) := by decide +kernel
theorem dX9_ever_60 : decode cX9_ever 60 = .ok (.getfield 91, 3) := by decide +kernel
theorem dX9_ever_63 : decode cX9_ever 63 = .ok (.invokevirtual 172, 3) := by decide +kernel
theorem dX9_ever_66 : decode cX9_ever 66 = .ok (.ior, 1) := by decide +kernel
theorem dX9_ever_67 : decode cX9_ever 67 = .ok (.ireturn, 1) := by decide +kernel
theorem dX9_best_0 : decode cX9_best 0 = .ok (.iload_n 1, 1) := by decide +kernel
theorem dX9_best_1 : decode cX9_best 1 = .ok (.iconst 1, 1) := by decide +kernel
theorem dX9_best_2 : decode cX9_best 2 = .ok (.if_icmp .lt 8, 3) := by decide +kernel
theorem dX9_best_5 : decode cX9_best 5 = .ok (.iload_n 1, 1) := by decide +kernel
theorem dX9_best_6 : decode cX9_best 6 = .ok (.iconst 4, 1) := by decide +kernel
theorem dX9_best_7 : decode cX9_best 7 = .ok (.if_icmp .le 6, 3) := by decide +kernel
theorem dX9_best_10 : decode cX9_best 10 = .ok (.bipush (-2), 2) := by decide +kernel
theorem dX9_best_12 : decode cX9_best 12 = .ok (.ireturn, 1) := by decide +kernel
theorem dX9_best_13 : decode cX9_best 13 = .ok (.aload_n 0, 1) := by decide +kernel
theorem dX9_best_14 : decode cX9_best 14 = .ok (.getfield 19, 3) := by decide +kernel
theorem dX9_best_17 : decode cX9_best 17 = .ok (.getfield 94, 3) := by decide +kernel
theorem dX9_best_20 : decode cX9_best 20 = .ok (.bipush (-9), 2) := by decide +kernel
theorem dX9_best_22 : decode cX9_best 22 = .ok (.if_icmp .ne 6, 3) := by decide +kernel
theorem dX9_best_25 : decode cX9_best 25 = .ok (.bipush (-3), 2) := by decide +kernel
theorem dX9_best_27 : decode cX9_best 27 = .ok (.ireturn, 1) := by decide +kernel
theorem dX9_best_28 : decode cX9_best 28 = .ok (.aload_n 0, 1) := by decide +kernel
theorem dX9_best_29 : decode cX9_best 29 = .ok (.getfield 51, 3) := by decide +kernel
theorem dX9_best_32 : decode cX9_best 32 = .ok (.iload_n 1, 1) := by decide +kernel
theorem dX9_best_33 : decode cX9_best 33 = .ok (.iload_n 2, 1) := by decide +kernel
theorem dX9_best_34 : decode cX9_best 34 = .ok (.invokevirtual 175, 3) := by decide +kernel
theorem dX9_best_37 : decode cX9_best 37 = .ok (.iload_n 3, 1) := by decide +kernel
theorem dX9_best_38 : decode cX9_best 38 = .ok (.ifCond .eq 21, 3) := by decide +kernel
theorem dX9_best_41 : decode cX9_best 41 = .ok (.aload_n 0, 1) := by decide +kernel
theorem dX9_best_42 : decode cX9_best 42 = .ok (.getfield 51, 3) := by decide +kernel
theorem dX9_best_45 : decode cX9_best 45 = .ok (.iload_n 1, 1) := by decide +kernel
theorem dX9_best_46 : decode cX9_best 46 = .ok (.aload_n 0, 1) := by decide +kernel
theorem dX9_best_47 : decode cX9_best 47 = .ok (.getfield 19, 3) := by decide +kernel
theorem dX9_best_50 : decode cX9_best 50 = .ok (.getfield 100, 3) := by decide +kernel
theorem dX9_best_53 : decode cX9_best 53 = .ok (.invokevirtual 179, 3) := by decide +kernel
theorem dX9_best_56 : decode cX9_best 56 = .ok (.goto 18, 3) := by decide +kernel
theorem dX9_best_59 : decode cX9_best 59 = .ok (.aload_n 0, 1) := by decide +kernel
theorem dX9_best_60 : decode cX9_best 60 = .ok (.getfield 51, 3) := by decide +kernel
theorem dX9_best_63 : decode cX9_best 63 = .ok (.iload_n 1, 1) := by decide +kernel
theorem dX9_best_64 : decode cX9_best 64 = .ok (.aload_n 0, 1) := by decide +kernel
theorem dX9_best_65 : decode cX9_best 65 = .ok (.getfield 19, 3) := by decide +kernel
theorem dX9_best_68 : decode cX9_best 68 = .ok (.getfield 100, 3) := by decide +kernel
theorem dX9_best_71 : decode cX9_best 71 = .ok (.invokevirtual 183, 3) := by decide +kernel
theorem dX9_best_74 : decode cX9_best 74 = .ok (.ireturn, 1) := by decide +kernel
theorem dX9_ties_0 : decode cX9_ties 0 = .ok (.iload_n 1, 1) := by decide +kernel
theorem dX9_ties_1 : decode cX9_ties 1 = .ok (.iconst 1, 1) := by decide +kernel
theorem dX9_ties_2 : decode cX9_ties 2 = .ok (.if_icmp .lt 24, 3) := by decide +kernel
theorem dX9_ties_5 : decode cX9_ties 5 = .ok (.iload_n 1, 1) := by decide +kernel
theorem dX9_ties_6 : decode cX9_ties 6 = .ok (.iconst 4, 1) := by decide +kernel
theorem dX9_ties_7 : decode cX9_ties 7 = .ok (.if_icmp .gt 19, 3) := by decide +kernel
theorem dX9_ties_10 : decode cX9_ties 10 = .ok (.aload_n 0, 1) := by decide +kernel
theorem dX9_ties_11 : decode cX9_ties 11 = .ok (.getfield 58, 3) := by decide +kernel
theorem dX9_ties_14 : decode cX9_ties 14 = .ok (.iload_n 1, 1) := by decide +kernel
theorem dX9_ties_15 : decode cX9_ties 15 = .ok (.iload_n 2, 1) := by decide +kernel
theorem dX9_ties_16 : decode cX9_ties 16 = .ok (.aload_n 0, 1) := by decide +kernel
theorem dX9_ties_17 : decode cX9_ties 17 = .ok (.getfield 19, 3) := by decide +kernel
theorem dX9_ties_20 : decode cX9_ties 20 = .ok (.invokevirtual 186, 3) := by decide +kernel
theorem dX9_ties_23 : decode cX9_ties 23 = .ok (.ifCond .ne 6, 3) := by decide +kernel
theorem dX9_ties_26 : decode cX9_ties 26 = .ok (.bipush (-2), 2) := by decide +kernel
theorem dX9_ties_28 : decode cX9_ties 28 = .ok (.ireturn, 1) := by decide +kernel
theorem dX9_ties_29 : decode cX9_ties 29 = .ok (.aload_n 0, 1) := by decide +kernel
theorem dX9_ties_30 : decode cX9_ties 30 = .ok (.getfield 19, 3) := by decide +kernel
theorem dX9_ties_33 : decode cX9_ties 33 = .ok (.iload_n 3, 1) := by decide +kernel
theorem dX9_ties_34 : decode cX9_ties 34 = .ok (.invokevirtual 112, 3) := by decide +kernel
theorem dX9_ties_37 : decode cX9_ties 37 = .ok (.ifCond .ne 5, 3) := by decide +kernel
theorem dX9_ties_40 : decode cX9_ties 40 = .ok (.iconst (-1), 1) := by decide +kernel
theorem dX9_ties_41 : decode cX9_ties 41 = .ok (.ireturn, 1) := by decide +kernel
theorem dX9_ties_42 : decode cX9_ties 42 = .ok (.iconst 0, 1) := by decide +kernel
theorem dX9_ties_43 : decode cX9_ties 43 = .ok (.istore 4, 2) := by decide +kernel
theorem dX9_ties_45 : decode cX9_ties 45 = .ok (.iconst 0, 1) := by decide +kernel
theorem dX9_ties_46 : decode cX9_ties 46 = .ok (.istore 5, 2) := by decide +kernel
theorem dX9_ties_48 : decode cX9_ties 48 = .ok (.iload 5, 2) := by decide +kernel
theorem dX9_ties_50 : decode cX9_ties 50 = .ok (.iconst 4, 1) := by decide +kernel
theorem dX9_ties_51 : decode cX9_ties 51 = .ok (.if_icmp .ge 64, 3) := by decide +kernel
theorem dX9_ties_54 : decode cX9_ties 54 = .ok (.aload_n 0, 1) := by decide +kernel
theorem dX9_ties_55 : decode cX9_ties 55 = .ok (.getfield 23, 3) := by decide +kernel
theorem dX9_ties_58 : decode cX9_ties 58 = .ok (.aload_n 0, 1) := by decide +kernel
theorem dX9_ties_59 : decode cX9_ties 59 = .ok (.getfield 19, 3) := by decide +kernel
theorem dX9_ties_62 : decode cX9_ties 62 = .ok (.invokevirtual 169, 3) := by decide +kernel
theorem dX9_ties_65 : decode cX9_ties 65 = .ok (.aload_n 0, 1) := by decide +kernel
theorem dX9_ties_66 : decode cX9_ties 66 = .ok (.getfield 23, 3) := by decide +kernel
theorem dX9_ties_69 : decode cX9_ties 69 = .ok (.iload 5, 2) := by decide +kernel
theorem dX9_ties_71 : decode cX9_ties 71 = .ok (.putfield 97, 3) := by decide +kernel
theorem dX9_ties_74 : decode cX9_ties 74 = .ok (.aload_n 0, 1) := by decide +kernel
theorem dX9_ties_75 : decode cX9_ties 75 = .ok (.getfield 58, 3) := by decide +kernel
theorem dX9_ties_78 : decode cX9_ties 78 = .ok (.aload_n 0, 1) := by decide +kernel
theorem dX9_ties_79 : decode cX9_ties 79 = .ok (.getfield 23, 3) := by decide +kernel
theorem dX9_ties_82 : decode cX9_ties 82 = .ok (.aload_n 0, 1) := by decide +kernel
theorem dX9_ties_83 : decode cX9_ties 83 = .ok (.getfield 44, 3) := by decide +kernel
theorem dX9_ties_86 : decode cX9_ties 86 = .ok (.invokevirtual 190, 3) := by decide +kernel
theorem dX9_ties_89 : decode cX9_ties 89 = .ok (.aload_n 0, 1) := by decide +kernel
theorem dX9_ties_90 : decode cX9_ties 90 = .ok (.getfield 23, 3) := by decide +kernel
theorem dX9_ties_93 : decode cX9_ties 93 = .ok (.getfield 94, 3) := by decide +kernel
theorem dX9_ties_96 : decode cX9_ties 96 = .ok (.iload_n 3, 1) := by decide +kernel
theorem dX9_ties_97 : decode cX9_ties 97 = .ok (.if_icmp .ne 12, 3) := by decide +kernel
theorem dX9_ties_100 : decode cX9_ties 100 = .ok (.iload 4, 2) := by decide +kernel
theorem dX9_ties_102 : decode cX9_ties 102 = .ok (.iconst 1, 1) := by decide +kernel
theorem dX9_ties_103 : decode cX9_ties 103 = .ok (.iload 5, 2) := by decide +kernel
theorem dX9_ties_105 : decode cX9_ties 105 = .ok (.ishl, 1) := by decide +kernel
theorem dX9_ties_106 : decode cX9_ties 106 = .ok (.ior, 1) := by decide +kernel
theorem dX9_ties_107 : decode cX9_ties 107 = .ok (.istore 4, 2) := by decide +kernel
theorem dX9_ties_109 : decode cX9_ties 109 = .ok (.iinc 5 1, 3) := by decide +kernel
theorem dX9_ties_112 : decode cX9_ties 112 = .ok (.goto (-64), 3) := by decide +kernel
theorem dX9_ties_115 : decode cX9_ties 115 = .ok (.iload 4, 2) := by decide +kernel
theorem dX9_ties_117 : decode cX9_ties 117 = .ok (.ireturn, 1) := by decide +kernel
theorem dX9_rests_0 : decode cX9_rests 0 = .ok (.iload_n 1, 1) := by decide +kernel
theorem dX9_rests_1 : decode cX9_rests 1 = .ok (.ifCond .lt 18, 3) := by decide +kernel
theorem dX9_rests_4 : decode cX9_rests 4 = .ok (.iload_n 1, 1) := by decide +kernel
theorem dX9_rests_5 : decode cX9_rests 5 = .ok (.bipush 9, 2) := by decide +kernel
theorem dX9_rests_7 : decode cX9_rests 7 = .ok (.if_icmp .gt 12, 3) := by decide +kernel
theorem dX9_rests_10 : decode cX9_rests 10 = .ok (.iload_n 2, 1) := by decide +kernel
theorem dX9_rests_11 : decode cX9_rests 11 = .ok (.ifCond .lt 8, 3) := by decide +kernel
theorem dX9_rests_14 : decode cX9_rests 14 = .ok (.iload_n 2, 1) := by decide +kernel
theorem dX9_rests_15 : decode cX9_rests 15 = .ok (.iconst 1, 1) := by decide +kernel
theorem dX9_rests_16 : decode cX9_rests 16 = .ok (.if_icmp .le 6, 3) := by decide +kernel
theorem dX9_rests_19 : decode cX9_rests 19 = .ok (.bipush (-2), 2) := by decide +kernel
theorem dX9_rests_21 : decode cX9_rests 21 = .ok (.ireturn, 1) := by decide +kernel
theorem dX9_rests_22 : decode cX9_rests 22 = .ok (.aload_n 0, 1) := by decide +kernel
theorem dX9_rests_23 : decode cX9_rests 23 = .ok (.invokevirtual 145, 3) := by decide +kernel
theorem dX9_rests_26 : decode cX9_rests 26 = .ok (.ifCond .ne 6, 3) := by decide +kernel
theorem dX9_rests_29 : decode cX9_rests 29 = .ok (.bipush (-3), 2) := by decide +kernel
theorem dX9_rests_31 : decode cX9_rests 31 = .ok (.ireturn, 1) := by decide +kernel
theorem dX9_rests_32 : decode cX9_rests 32 = .ok (.iload_n 2, 1) := by decide +kernel
theorem dX9_rests_33 : decode cX9_rests 33 = .ok (.ifCond .ne 10, 3) := by decide +kernel
theorem dX9_rests_36 : decode cX9_rests 36 = .ok (.iload_n 1, 1) := by decide +kernel
theorem dX9_rests_37 : decode cX9_rests 37 = .ok (.invokestatic 194, 3) := by decide +kernel
theorem dX9_rests_40 : decode cX9_rests 40 = .ok (.goto 7, 3) := by decide +kernel
theorem dX9_rests_43 : decode cX9_rests 43 = .ok (.iload_n 1, 1) := by decide +kernel
theorem dX9_rests_44 : decode cX9_rests 44 = .ok (.invokestatic 199, 3) := by decide +kernel
theorem dX9_rests_47 : decode cX9_rests 47 = .ok (.ireturn, 1) := by decide +kernel
theorem dX9_odds_0 : decode cX9_odds 0 = .ok (.aload_n 0, 1) := by decide +kernel
theorem dX9_odds_1 : decode cX9_odds 1 = .ok (.getfield 19, 3) := by decide +kernel
theorem dX9_odds_4 : decode cX9_odds 4 = .ok (.iload_n 1, 1) := by decide +kernel
theorem dX9_odds_5 : decode cX9_odds 5 = .ok (.invokevirtual 112, 3) := by decide +kernel
theorem dX9_odds_8 : decode cX9_odds 8 = .ok (.ifCond .ne 5, 3) := by decide +kernel
theorem dX9_odds_11 : decode cX9_odds 11 = .ok (.iconst (-1), 1) := by decide +kernel
theorem dX9_odds_12 : decode cX9_odds 12 = .ok (.ireturn, 1) := by decide +kernel
theorem dX9_odds_13 : decode cX9_odds 13 = .ok (.aload_n 0, 1) := by decide +kernel
theorem dX9_odds_14 : decode cX9_odds 14 = .ok (.getfield 19, 3) := by decide +kernel
theorem dX9_odds_17 : decode cX9_odds 17 = .ok (.iload_n 1, 1) := by decide +kernel
theorem dX9_odds_18 : decode cX9_odds 18 = .ok (.invokevirtual 125, 3) := by decide +kernel
theorem dX9_odds_21 : decode cX9_odds 21 = .ok (.ifCond .eq 15, 3) := by decide +kernel
theorem dX9_odds_24 : decode cX9_odds 24 = .ok (.aload_n 0, 1) := by decide +kernel
theorem dX9_odds_25 : decode cX9_odds 25 = .ok (.getfield 19, 3) := by decide +kernel
theorem dX9_odds_28 : decode cX9_odds 28 = .ok (.getfield 94, 3) := by decide +kernel
theorem dX9_odds_31 : decode cX9_odds 31 = .ok (.bipush (-9), 2) := by decide +kernel
theorem dX9_odds_33 : decode cX9_odds 33 = .ok (.if_icmp .ne 10, 3) := by decide +kernel
theorem dX9_odds_36 : decode cX9_odds 36 = .ok (.iconst 0, 1) := by decide +kernel
theorem dX9_odds_37 : decode cX9_odds 37 = .ok (.iconst 1, 1) := by decide +kernel
theorem dX9_odds_38 : decode cX9_odds 38 = .ok (.iload_n 2, 1) := by decide +kernel
theorem dX9_odds_39 : decode cX9_odds 39 = .ok (.invokestatic 202, 3) := by decide +kernel
theorem dX9_odds_42 : decode cX9_odds 42 = .ok (.ireturn, 1) := by decide +kernel
theorem dX9_odds_43 : decode cX9_odds 43 = .ok (.aload_n 0, 1) := by decide +kernel
theorem dX9_odds_44 : decode cX9_odds 44 = .ok (.getfield 19, 3) := by decide +kernel
theorem dX9_odds_47 : decode cX9_odds 47 = .ok (.getfield 91, 3) := by decide +kernel
theorem dX9_odds_50 : decode cX9_odds 50 = .ok (.invokestatic 208, 3) := by decide +kernel
theorem dX9_odds_53 : decode cX9_odds 53 = .ok (.invokestatic 213, 3) := by decide +kernel
theorem dX9_odds_56 : decode cX9_odds 56 = .ok (.istore_n 3, 1) := by decide +kernel
theorem dX9_odds_57 : decode cX9_odds 57 = .ok (.aload_n 0, 1) := by decide +kernel
theorem dX9_odds_58 : decode cX9_odds 58 = .ok (.getfield 65, 3) := by decide +kernel
theorem dX9_odds_61 : decode cX9_odds 61 = .ok (.aload_n 0, 1) := by decide +kernel
theorem dX9_odds_62 : decode cX9_odds 62 = .ok (.getfield 19, 3) := by decide +kernel
theorem dX9_odds_65 : decode cX9_odds 65 = .ok (.iload_n 1, 1) := by decide +kernel
theorem dX9_odds_66 : decode cX9_odds 66 = .ok (.invokevirtual 216, 3) := by decide +kernel
theorem dX9_odds_69 : decode cX9_odds 69 = .ok (.iload_n 3, 1) := by decide +kernel
theorem dX9_odds_70 : decode cX9_odds 70 = .ok (.iload_n 2, 1) := by decide +kernel
theorem dX9_odds_71 : decode cX9_odds 71 = .ok (.invokestatic 202, 3) := by decide +kernel
theorem dX9_odds_74 : decode cX9_odds 74 = .ok (.ireturn, 1) := by decide +kernel
theorem dX9_lender_0 : decode cX9_lender 0 = .ok (.iload_n 1, 1) := by decide +kernel
theorem dX9_lender_1 : decode cX9_lender 1 = .ok (.iconst 1, 1) := by decide +kernel
theorem dX9_lender_2 : decode cX9_lender 2 = .ok (.if_icmp .lt 18, 3) := by decide +kernel
theorem dX9_lender_5 : decode cX9_lender 5 = .ok (.iload_n 1, 1) := by decide +kernel
theorem dX9_lender_6 : decode cX9_lender 6 = .ok (.iconst 5, 1) := by decide +kernel
theorem dX9_lender_7 : decode cX9_lender 7 = .ok (.if_icmp .gt 13, 3) := by decide +kernel
theorem dX9_lender_10 : decode cX9_lender 10 = .ok (.iload_n 2, 1) := by decide +kernel
theorem dX9_lender_11 : decode cX9_lender 11 = .ok (.ifCond .lt 9, 3) := by decide +kernel
theorem dX9_lender_14 : decode cX9_lender 14 = .ok (.iload_n 2, 1) := by decide +kernel
theorem dX9_lender_15 : decode cX9_lender 15 = .ok (.bipush 9, 2) := by decide +kernel
theorem dX9_lender_17 : decode cX9_lender 17 = .ok (.if_icmp .le 6, 3) := by decide +kernel
theorem dX9_lender_20 : decode cX9_lender 20 = .ok (.bipush (-2), 2) := by decide +kernel
theorem dX9_lender_22 : decode cX9_lender 22 = .ok (.ireturn, 1) := by decide +kernel
theorem dX9_lender_23 : decode cX9_lender 23 = .ok (.aload_n 0, 1) := by decide +kernel
theorem dX9_lender_24 : decode cX9_lender 24 = .ok (.getfield 19, 3) := by decide +kernel
theorem dX9_lender_27 : decode cX9_lender 27 = .ok (.getfield 94, 3) := by decide +kernel
theorem dX9_lender_30 : decode cX9_lender 30 = .ok (.bipush (-9), 2) := by decide +kernel
theorem dX9_lender_32 : decode cX9_lender 32 = .ok (.if_icmp .ne 10, 3) := by decide +kernel
theorem dX9_lender_35 : decode cX9_lender 35 = .ok (.iconst 0, 1) := by decide +kernel
theorem dX9_lender_36 : decode cX9_lender 36 = .ok (.iconst 1, 1) := by decide +kernel
theorem dX9_lender_37 : decode cX9_lender 37 = .ok (.iload_n 3, 1) := by decide +kernel
theorem dX9_lender_38 : decode cX9_lender 38 = .ok (.invokestatic 202, 3) := by decide +kernel
theorem dX9_lender_41 : decode cX9_lender 41 = .ok (.ireturn, 1) := by decide +kernel
theorem dX9_lender_42 : decode cX9_lender 42 = .ok (.iconst 1, 1) := by decide +kernel
theorem dX9_lender_43 : decode cX9_lender 43 = .ok (.istore 4, 2) := by decide +kernel
theorem dX9_lender_45 : decode cX9_lender 45 = .ok (.iconst 1, 1) := by decide +kernel
theorem dX9_lender_46 : decode cX9_lender 46 = .ok (.istore 5, 2) := by decide +kernel
theorem dX9_lender_48 : decode cX9_lender 48 = .ok (.iload_n 2, 1) := by decide +kernel
theorem dX9_lender_49 : decode cX9_lender 49 = .ok (.aload_n 0, 1) := by decide +kernel
theorem dX9_lender_50 : decode cX9_lender 50 = .ok (.getfield 19, 3) := by decide +kernel
theorem dX9_lender_53 : decode cX9_lender 53 = .ok (.aload_n 0, 1) := by decide +kernel
theorem dX9_lender_54 : decode cX9_lender 54 = .ok (.getfield 19, 3) := by decide +kernel
theorem dX9_lender_57 : decode cX9_lender 57 = .ok (.getfield 94, 3) := by decide +kernel
theorem dX9_lender_60 : decode cX9_lender 60 = .ok (.invokevirtual 122, 3) := by decide +kernel
theorem dX9_lender_63 : decode cX9_lender 63 = .ok (.iadd, 1) := by decide +kernel
theorem dX9_lender_64 : decode cX9_lender 64 = .ok (.istore 6, 2) := by decide +kernel
theorem dX9_lender_66 : decode cX9_lender 66 = .ok (.iconst 0, 1) := by decide +kernel
theorem dX9_lender_67 : decode cX9_lender 67 = .ok (.istore 7, 2) := by decide +kernel
theorem dX9_lender_69 : decode cX9_lender 69 = .ok (.iload 7, 2) := by decide +kernel
theorem dX9_lender_71 : decode cX9_lender 71 = .ok (.iload_n 1, 1) := by decide +kernel
theorem dX9_lender_72 : decode cX9_lender 72 = .ok (.if_icmp .ge 34, 3) := by decide +kernel
theorem dX9_lender_75 : decode cX9_lender 75 = .ok (.iload 4, 2) := by decide +kernel
theorem dX9_lender_77 : decode cX9_lender 77 = .ok (.bipush 10, 2) := by decide +kernel
theorem dX9_lender_79 : decode cX9_lender 79 = .ok (.bipush 10, 2) := by decide +kernel
theorem dX9_lender_81 : decode cX9_lender 81 = .ok (.iload 6, 2) := by decide +kernel
theorem dX9_lender_83 : decode cX9_lender 83 = .ok (.iload 7, 2) := by decide +kernel
theorem dX9_lender_85 : decode cX9_lender 85 = .ok (.iadd, 1) := by decide +kernel
theorem dX9_lender_86 : decode cX9_lender 86 = .ok (.invokestatic 220, 3) := by decide +kernel
theorem dX9_lender_89 : decode cX9_lender 89 = .ok (.isub, 1) := by decide +kernel
theorem dX9_lender_90 : decode cX9_lender 90 = .ok (.imul, 1) := by decide +kernel
theorem dX9_lender_91 : decode cX9_lender 91 = .ok (.istore 4, 2) := by decide +kernel
theorem dX9_lender_93 : decode cX9_lender 93 = .ok (.iload 5, 2) := by decide +kernel
theorem dX9_lender_95 : decode cX9_lender 95 = .ok (.bipush 10, 2) := by decide +kernel
theorem dX9_lender_97 : decode cX9_lender 97 = .ok (.imul, 1) := by decide +kernel
theorem dX9_lender_98 : decode cX9_lender 98 = .ok (.istore 5, 2) := by decide +kernel
theorem dX9_lender_100 : decode cX9_lender 100 = .ok (.iinc 7 1, 3) := by decide +kernel
theorem dX9_lender_103 : decode cX9_lender 103 = .ok (.goto (-34), 3) := by decide +kernel
theorem dX9_lender_106 : decode cX9_lender 106 = .ok (.iload 4, 2) := by decide +kernel
theorem dX9_lender_108 : decode cX9_lender 108 = .ok (.iload 5, 2) := by decide +kernel
theorem dX9_lender_110 : decode cX9_lender 110 = .ok (.iload_n 3, 1) := by decide +kernel
theorem dX9_lender_111 : decode cX9_lender 111 = .ok (.invokestatic 202, 3) := by decide +kernel
theorem dX9_lender_114 : decode cX9_lender 114 = .ok (.ireturn, 1) := by decide +kernel
theorem dX9_seed_0 : decode cX9_seed 0 = .ok (.aload_n 0, 1) := by decide +kernel
theorem dX9_seed_1 : decode cX9_seed 1 = .ok (.getfield 225, 3) := by decide +kernel
theorem dX9_seed_4 : decode cX9_seed 4 = .ok (.lstore_n 3, 1) := by decide +kernel
theorem dX9_seed_5 : decode cX9_seed 5 = .ok (.aload_n 0, 1) := by decide +kernel
theorem dX9_seed_6 : decode cX9_seed 6 = .ok (.lload_n 1, 1) := by decide +kernel
theorem dX9_seed_7 : decode cX9_seed 7 = .ok (.putfield 225, 3) := by decide +kernel
theorem dX9_seed_10 : decode cX9_seed 10 = .ok (.lload_n 3, 1) := by decide +kernel
theorem dX9_seed_11 : decode cX9_seed 11 = .ok (.lreturn, 1) := by decide +kernel
theorem dX9_families_0 : decode cX9_families 0 = .ok (.iload_n 1, 1) := by decide +kernel
theorem dX9_families_1 : decode cX9_families 1 = .ok (.iconst 1, 1) := by decide +kernel
theorem dX9_families_2 : decode cX9_families 2 = .ok (.if_icmp .lt 9, 3) := by decide +kernel
theorem dX9_families_5 : decode cX9_families 5 = .ok (.iload_n 1, 1) := by decide +kernel
theorem dX9_families_6 : decode cX9_families 6 = .ok (.bipush 20, 2) := by decide +kernel
theorem dX9_families_8 : decode cX9_families 8 = .ok (.if_icmp .le 6, 3) := by decide +kernel
theorem dX9_families_11 : decode cX9_families 11 = .ok (.bipush (-2), 2) := by decide +kernel
theorem dX9_families_13 : decode cX9_families 13 = .ok (.ireturn, 1) := by decide +kernel
theorem dX9_families_14 : decode cX9_families 14 = .ok (.aload_n 0, 1) := by decide +kernel
theorem dX9_families_15 : decode cX9_families 15 = .ok (.getfield 23, 3) := by decide +kernel
theorem dX9_families_18 : decode cX9_families 18 = .ok (.aload_n 0, 1) := by decide +kernel
theorem dX9_families_19 : decode cX9_families 19 = .ok (.getfield 19, 3) := by decide +kernel
theorem dX9_families_22 : decode cX9_families 22 = .ok (.invokevirtual 169, 3) := by decide +kernel
theorem dX9_families_25 : decode cX9_families 25 = .ok (.iconst 0, 1) := by decide +kernel
theorem dX9_families_26 : decode cX9_families 26 = .ok (.istore_n 2, 1) := by decide +kernel
theorem dX9_families_27 : decode cX9_families 27 = .ok (.iconst 0, 1) := by decide +kernel
theorem dX9_families_28 : decode cX9_families 28 = .ok (.istore_n 3, 1) := by decide +kernel
theorem dX9_families_29 : decode cX9_families 29 = .ok (.iload_n 3, 1) := by decide +kernel
theorem dX9_families_30 : decode cX9_families 30 = .ok (.iload_n 1, 1) := by decide +kernel
theorem dX9_families_31 : decode cX9_families 31 = .ok (.if_icmp .ge 88, 3) := by decide +kernel
theorem dX9_families_34 : decode cX9_families 34 = .ok (.aload_n 0, 1) := by decide +kernel
theorem dX9_families_35 : decode cX9_families 35 = .ok (.aload_n 0, 1) := by decide +kernel
theorem dX9_families_36 : decode cX9_families 36 = .ok (.getfield 225, 3) := by decide +kernel
theorem dX9_families_39 : decode cX9_families 39 = .ok (.ldc2_w 229, 3) := by decide +kernel
theorem dX9_families_42 : decode cX9_families 42 = .ok (.lmul, 1) := by decide +kernel
theorem dX9_families_43 : decode cX9_families 43 = .ok (.ldc2_w 231, 3) := by decide +kernel
theorem dX9_families_46 : decode cX9_families 46 = .ok (.ladd, 1) := by decide +kernel
theorem dX9_families_47 : decode cX9_families 47 = .ok (.putfield 225, 3) := by decide +kernel
theorem dX9_families_50 : decode cX9_families 50 = .ok (.aload_n 0, 1) := by decide +kernel
theorem dX9_families_51 : decode cX9_families 51 = .ok (.getfield 225, 3) := by decide +kernel
theorem dX9_families_54 : decode cX9_families 54 = .ok (.bipush 33, 2) := by decide +kernel
theorem dX9_families_56 : decode cX9_families 56 = .ok (.lushr, 1) := by decide +kernel
theorem dX9_families_57 : decode cX9_families 57 = .ok (.ldc2_w 233, 3) := by decide +kernel
theorem dX9_families_60 : decode cX9_families 60 = .ok (.lrem, 1) := by decide +kernel
theorem dX9_families_61 : decode cX9_families 61 = .ok (.l2i, 1) := by decide +kernel
theorem dX9_families_62 : decode cX9_families 62 = .ok (.istore 4, 2) := by decide +kernel
theorem dX9_families_64 : decode cX9_families 64 = .ok (.aload_n 0, 1) := by decide +kernel
theorem dX9_families_65 : decode cX9_families 65 = .ok (.getfield 23, 3) := by decide +kernel
theorem dX9_families_68 : decode cX9_families 68 = .ok (.getfield 94, 3) := by decide +kernel
theorem dX9_families_71 : decode cX9_families 71 = .ok (.istore 5, 2) := by decide +kernel
theorem dX9_families_73 : decode cX9_families 73 = .ok (.aload_n 0, 1) := by decide +kernel
theorem dX9_families_74 : decode cX9_families 74 = .ok (.getfield 23, 3) := by decide +kernel
theorem dX9_families_77 : decode cX9_families 77 = .ok (.iload 4, 2) := by decide +kernel
theorem dX9_families_79 : decode cX9_families 79 = .ok (.invokevirtual 125, 3) := by decide +kernel
theorem dX9_families_82 : decode cX9_families 82 = .ok (.ifCond .eq 16, 3) := by decide +kernel
theorem dX9_families_85 : decode cX9_families 85 = .ok (.aload_n 0, 1) := by decide +kernel
theorem dX9_families_86 : decode cX9_families 86 = .ok (.getfield 23, 3) := by decide +kernel
theorem dX9_families_89 : decode cX9_families 89 = .ok (.iload 4, 2) := by decide +kernel
theorem dX9_families_91 : decode cX9_families 91 = .ok (.aload_n 0, 1) := by decide +kernel
theorem dX9_families_92 : decode cX9_families 92 = .ok (.getfield 44, 3) := by decide +kernel
theorem dX9_families_95 : decode cX9_families 95 = .ok (.invokevirtual 134, 3) := by decide +kernel
theorem dX9_families_98 : decode cX9_families 98 = .ok (.aload_n 0, 1) := by decide +kernel
theorem dX9_families_99 : decode cX9_families 99 = .ok (.getfield 23, 3) := by decide +kernel
theorem dX9_families_102 : decode cX9_families 102 = .ok (.getfield 94, 3) := by decide +kernel
theorem dX9_families_105 : decode cX9_families 105 = .ok (.iload 5, 2) := by decide +kernel
theorem dX9_families_107 : decode cX9_families 107 = .ok (.if_icmp .eq 6, 3) := by decide +kernel
theorem dX9_families_110 : decode cX9_families 110 = .ok (.iinc 2 1, 3) := by decide +kernel
theorem dX9_families_113 : decode cX9_families 113 = .ok (.iinc 3 1, 3) := by decide +kernel
theorem dX9_families_116 : decode cX9_families 116 = .ok (.goto (-87), 3) := by decide +kernel
theorem dX9_families_119 : decode cX9_families 119 = .ok (.iload_n 2, 1) := by decide +kernel
theorem dX9_families_120 : decode cX9_families 120 = .ok (.ireturn, 1) := by decide +kernel
theorem dX9_keep_0 : decode cX9_keep 0 = .ok (.iload_n 1, 1) := by decide +kernel
theorem dX9_keep_1 : decode cX9_keep 1 = .ok (.invokestatic 235, 3) := by decide +kernel
theorem dX9_keep_4 : decode cX9_keep 4 = .ok (.ifCond .ne 5, 3) := by decide +kernel
theorem dX9_keep_7 : decode cX9_keep 7 = .ok (.iconst (-1), 1) := by decide +kernel
theorem dX9_keep_8 : decode cX9_keep 8 = .ok (.ireturn, 1) := by decide +kernel
theorem dX9_keep_9 : decode cX9_keep 9 = .ok (.aload_n 0, 1) := by decide +kernel
theorem dX9_keep_10 : decode cX9_keep 10 = .ok (.getfield 33, 3) := by decide +kernel
theorem dX9_keep_13 : decode cX9_keep 13 = .ok (.iload_n 1, 1) := by decide +kernel
theorem dX9_keep_14 : decode cX9_keep 14 = .ok (.aaload, 1) := by decide +kernel
theorem dX9_keep_15 : decode cX9_keep 15 = .ok (.aload_n 0, 1) := by decide +kernel
theorem dX9_keep_16 : decode cX9_keep 16 = .ok (.getfield 19, 3) := by decide +kernel
theorem dX9_keep_19 : decode cX9_keep 19 = .ok (.invokevirtual 169, 3) := by decide +kernel
theorem dX9_keep_22 : decode cX9_keep 22 = .ok (.aload_n 0, 1) := by decide +kernel
theorem dX9_keep_23 : decode cX9_keep 23 = .ok (.getfield 37, 3) := by decide +kernel
theorem dX9_keep_26 : decode cX9_keep 26 = .ok (.iload_n 1, 1) := by decide +kernel
theorem dX9_keep_27 : decode cX9_keep 27 = .ok (.iconst 1, 1) := by decide +kernel
theorem dX9_keep_28 : decode cX9_keep 28 = .ok (.bastore, 1) := by decide +kernel
theorem dX9_keep_29 : decode cX9_keep 29 = .ok (.aload_n 0, 1) := by decide +kernel
theorem dX9_keep_30 : decode cX9_keep 30 = .ok (.getfield 19, 3) := by decide +kernel
theorem dX9_keep_33 : decode cX9_keep 33 = .ok (.getfield 106, 3) := by decide +kernel
theorem dX9_keep_36 : decode cX9_keep 36 = .ok (.ireturn, 1) := by decide +kernel
theorem dX9_again_0 : decode cX9_again 0 = .ok (.iload_n 1, 1) := by decide +kernel
theorem dX9_again_1 : decode cX9_again 1 = .ok (.invokestatic 235, 3) := by decide +kernel
theorem dX9_again_4 : decode cX9_again 4 = .ok (.ifCond .ne 5, 3) := by decide +kernel
theorem dX9_again_7 : decode cX9_again 7 = .ok (.iconst (-1), 1) := by decide +kernel
theorem dX9_again_8 : decode cX9_again 8 = .ok (.ireturn, 1) := by decide +kernel
theorem dX9_again_9 : decode cX9_again 9 = .ok (.aload_n 0, 1) := by decide +kernel
theorem dX9_again_10 : decode cX9_again 10 = .ok (.getfield 37, 3) := by decide +kernel
theorem dX9_again_13 : decode cX9_again 13 = .ok (.iload_n 1, 1) := by decide +kernel
theorem dX9_again_14 : decode cX9_again 14 = .ok (.baload, 1) := by decide +kernel
theorem dX9_again_15 : decode cX9_again 15 = .ok (.ifCond .ne 6, 3) := by decide +kernel
theorem dX9_again_18 : decode cX9_again 18 = .ok (.bipush (-3), 2) := by decide +kernel
theorem dX9_again_20 : decode cX9_again 20 = .ok (.ireturn, 1) := by decide +kernel
theorem dX9_again_21 : decode cX9_again 21 = .ok (.aload_n 0, 1) := by decide +kernel
theorem dX9_again_22 : decode cX9_again 22 = .ok (.getfield 19, 3) := by decide +kernel
theorem dX9_again_25 : decode cX9_again 25 = .ok (.aload_n 0, 1) := by decide +kernel
theorem dX9_again_26 : decode cX9_again 26 = .ok (.getfield 33, 3) := by decide +kernel
theorem dX9_again_29 : decode cX9_again 29 = .ok (.iload_n 1, 1) := by decide +kernel
theorem dX9_again_30 : decode cX9_again 30 = .ok (.aaload, 1) := by decide +kernel
theorem dX9_again_31 : decode cX9_again 31 = .ok (.invokevirtual 169, 3) := by decide +kernel
theorem dX9_again_34 : decode cX9_again 34 = .ok (.aload_n 0, 1) := by decide +kernel
theorem dX9_again_35 : decode cX9_again 35 = .ok (.getfield 29, 3) := by decide +kernel
theorem dX9_again_38 : decode cX9_again 38 = .ok (.invokevirtual 85, 3) := by decide +kernel
theorem dX9_again_41 : decode cX9_again 41 = .ok (.aload_n 0, 1) := by decide +kernel
theorem dX9_again_42 : decode cX9_again 42 = .ok (.getfield 19, 3) := by decide +kernel
theorem dX9_again_45 : decode cX9_again 45 = .ok (.getfield 106, 3) := by decide +kernel
theorem dX9_again_48 : decode cX9_again 48 = .ok (.ireturn, 1) := by decide +kernel
theorem dX9_isTie_0 : decode cX9_isTie 0 = .ok (.iload_n 0, 1) := by decide +kernel
theorem dX9_isTie_1 : decode cX9_isTie 1 = .ok (.ifCond .lt 12, 3) := by decide +kernel
theorem dX9_isTie_4 : decode cX9_isTie 4 = .ok (.iload_n 0, 1) := by decide +kernel
theorem dX9_isTie_5 : decode cX9_isTie 5 = .ok (.iconst 4, 1) := by decide +kernel
theorem dX9_isTie_6 : decode cX9_isTie 6 = .ok (.if_icmp .ge 7, 3) := by decide +kernel
theorem dX9_isTie_9 : decode cX9_isTie 9 = .ok (.iconst 1, 1) := by decide +kernel
theorem dX9_isTie_10 : decode cX9_isTie 10 = .ok (.goto 4, 3) := by decide +kernel
theorem dX9_isTie_13 : decode cX9_isTie 13 = .ok (.iconst 0, 1) := by decide +kernel
theorem dX9_isTie_14 : decode cX9_isTie 14 = .ok (.ireturn, 1) := by decide +kernel
theorem dX9_isSlot_0 : decode cX9_isSlot 0 = .ok (.iload_n 0, 1) := by decide +kernel
theorem dX9_isSlot_1 : decode cX9_isSlot 1 = .ok (.ifCond .lt 12, 3) := by decide +kernel
theorem dX9_isSlot_4 : decode cX9_isSlot 4 = .ok (.iload_n 0, 1) := by decide +kernel
theorem dX9_isSlot_5 : decode cX9_isSlot 5 = .ok (.iconst 2, 1) := by decide +kernel
theorem dX9_isSlot_6 : decode cX9_isSlot 6 = .ok (.if_icmp .ge 7, 3) := by decide +kernel
theorem dX9_isSlot_9 : decode cX9_isSlot 9 = .ok (.iconst 1, 1) := by decide +kernel
theorem dX9_isSlot_10 : decode cX9_isSlot 10 = .ok (.goto 4, 3) := by decide +kernel
theorem dX9_isSlot_13 : decode cX9_isSlot 13 = .ok (.iconst 0, 1) := by decide +kernel
theorem dX9_isSlot_14 : decode cX9_isSlot 14 = .ok (.ireturn, 1) := by decide +kernel
theorem dX9_hasChildOfAgeAsHeir_0 : decode cX9_hasChildOfAgeAsHeir 0 = .ok (.aload_n 0, 1) := by decide +kernel
theorem dX9_hasChildOfAgeAsHeir_1 : decode cX9_hasChildOfAgeAsHeir 1 = .ok (.getfield 19, 3) := by decide +kernel
theorem dX9_hasChildOfAgeAsHeir_4 : decode cX9_hasChildOfAgeAsHeir 4 = .ok (.getfield 94, 3) := by decide +kernel
theorem dX9_hasChildOfAgeAsHeir_7 : decode cX9_hasChildOfAgeAsHeir 7 = .ok (.bipush (-9), 2) := by decide +kernel
theorem dX9_hasChildOfAgeAsHeir_9 : decode cX9_hasChildOfAgeAsHeir 9 = .ok (.if_icmp .ne 5, 3) := by decide +kernel
theorem dX9_hasChildOfAgeAsHeir_12 : decode cX9_hasChildOfAgeAsHeir 12 = .ok (.iconst 0, 1) := by decide +kernel
theorem dX9_hasChildOfAgeAsHeir_13 : decode cX9_hasChildOfAgeAsHeir 13 = .ok (.ireturn, 1) := by decide +kernel
theorem dX9_hasChildOfAgeAsHeir_14 : decode cX9_hasChildOfAgeAsHeir 14 = .ok (.aload_n 0, 1) := by decide +kernel
theorem dX9_hasChildOfAgeAsHeir_15 : decode cX9_hasChildOfAgeAsHeir 15 = .ok (.getfield 44, 3) := by decide +kernel
theorem dX9_hasChildOfAgeAsHeir_18 : decode cX9_hasChildOfAgeAsHeir 18 = .ok (.aload_n 0, 1) := by decide +kernel
theorem dX9_hasChildOfAgeAsHeir_19 : decode cX9_hasChildOfAgeAsHeir 19 = .ok (.getfield 19, 3) := by decide +kernel
theorem dX9_hasChildOfAgeAsHeir_22 : decode cX9_hasChildOfAgeAsHeir 22 = .ok (.aload_n 0, 1) := by decide +kernel
theorem dX9_hasChildOfAgeAsHeir_23 : decode cX9_hasChildOfAgeAsHeir 23 = .ok (.getfield 19, 3) := by decide +kernel
theorem dX9_hasChildOfAgeAsHeir_26 : decode cX9_hasChildOfAgeAsHeir 26 = .ok (.getfield 94, 3) := by decide +kernel
theorem dX9_hasChildOfAgeAsHeir_29 : decode cX9_hasChildOfAgeAsHeir 29 = .ok (.aload_n 0, 1) := by decide +kernel
theorem dX9_hasChildOfAgeAsHeir_30 : decode cX9_hasChildOfAgeAsHeir 30 = .ok (.getfield 19, 3) := by decide +kernel
theorem dX9_hasChildOfAgeAsHeir_33 : decode cX9_hasChildOfAgeAsHeir 33 = .ok (.getfield 97, 3) := by decide +kernel
theorem dX9_hasChildOfAgeAsHeir_36 : decode cX9_hasChildOfAgeAsHeir 36 = .ok (.invokevirtual 156, 3) := by decide +kernel
theorem dX9_hasChildOfAgeAsHeir_39 : decode cX9_hasChildOfAgeAsHeir 39 = .ok (.aload_n 0, 1) := by decide +kernel
theorem dX9_hasChildOfAgeAsHeir_40 : decode cX9_hasChildOfAgeAsHeir 40 = .ok (.getfield 44, 3) := by decide +kernel
theorem dX9_hasChildOfAgeAsHeir_43 : decode cX9_hasChildOfAgeAsHeir 43 = .ok (.aload_n 0, 1) := by decide +kernel
theorem dX9_hasChildOfAgeAsHeir_44 : decode cX9_hasChildOfAgeAsHeir 44 = .ok (.getfield 19, 3) := by decide +kernel
theorem dX9_hasChildOfAgeAsHeir_47 : decode cX9_hasChildOfAgeAsHeir 47 = .ok (.getfield 91, 3) := by decide +kernel
theorem dX9_hasChildOfAgeAsHeir_50 : decode cX9_hasChildOfAgeAsHeir 50 = .ok (.invokevirtual 160, 3) := by decide +kernel
theorem dX9_hasChildOfAgeAsHeir_53 : decode cX9_hasChildOfAgeAsHeir 53 = .ok (.istore_n 1, 1) := by decide +kernel
theorem dX9_hasChildOfAgeAsHeir_54 : decode cX9_hasChildOfAgeAsHeir 54 = .ok (.iload_n 1, 1) := by decide +kernel
theorem dX9_hasChildOfAgeAsHeir_55 : decode cX9_hasChildOfAgeAsHeir 55 = .ok (.bipush (-9), 2) := by decide +kernel
theorem dX9_hasChildOfAgeAsHeir_57 : decode cX9_hasChildOfAgeAsHeir 57 = .ok (.if_icmp .eq 37, 3) := by decide +kernel
theorem dX9_hasChildOfAgeAsHeir_60 : decode cX9_hasChildOfAgeAsHeir 60 = .ok (.aload_n 0, 1) := by decide +kernel
theorem dX9_hasChildOfAgeAsHeir_61 : decode cX9_hasChildOfAgeAsHeir 61 = .ok (.getfield 19, 3) := by decide +kernel
theorem dX9_hasChildOfAgeAsHeir_64 : decode cX9_hasChildOfAgeAsHeir 64 = .ok (.iload_n 1, 1) := by decide +kernel
theorem dX9_hasChildOfAgeAsHeir_65 : decode cX9_hasChildOfAgeAsHeir 65 = .ok (.invokevirtual 115, 3) := by decide +kernel
theorem dX9_hasChildOfAgeAsHeir_68 : decode cX9_hasChildOfAgeAsHeir 68 = .ok (.aload_n 0, 1) := by decide +kernel
theorem dX9_hasChildOfAgeAsHeir_69 : decode cX9_hasChildOfAgeAsHeir 69 = .ok (.getfield 19, 3) := by decide +kernel
theorem dX9_hasChildOfAgeAsHeir_72 : decode cX9_hasChildOfAgeAsHeir 72 = .ok (.getfield 94, 3) := by decide +kernel
theorem dX9_hasChildOfAgeAsHeir_75 : decode cX9_hasChildOfAgeAsHeir 75 = .ok (.if_icmp .ne 19, 3) := by decide +kernel
theorem dX9_hasChildOfAgeAsHeir_78 : decode cX9_hasChildOfAgeAsHeir 78 = .ok (.aload_n 0, 1) := by decide +kernel
theorem dX9_hasChildOfAgeAsHeir_79 : decode cX9_hasChildOfAgeAsHeir 79 = .ok (.getfield 19, 3) := by decide +kernel
theorem dX9_hasChildOfAgeAsHeir_82 : decode cX9_hasChildOfAgeAsHeir 82 = .ok (.iload_n 1, 1) := by decide +kernel
theorem dX9_hasChildOfAgeAsHeir_83 : decode cX9_hasChildOfAgeAsHeir 83 = .ok (.invokevirtual 122, 3) := by decide +kernel
theorem dX9_hasChildOfAgeAsHeir_86 : decode cX9_hasChildOfAgeAsHeir 86 = .ok (.iconst 2, 1) := by decide +kernel
theorem dX9_hasChildOfAgeAsHeir_87 : decode cX9_hasChildOfAgeAsHeir 87 = .ok (.if_icmp .lt 7, 3) := by decide +kernel
theorem dX9_hasChildOfAgeAsHeir_90 : decode cX9_hasChildOfAgeAsHeir 90 = .ok (.iconst 1, 1) := by decide +kernel
theorem dX9_hasChildOfAgeAsHeir_91 : decode cX9_hasChildOfAgeAsHeir 91 = .ok (.goto 4, 3) := by decide +kernel
theorem dX9_hasChildOfAgeAsHeir_94 : decode cX9_hasChildOfAgeAsHeir 94 = .ok (.iconst 0, 1) := by decide +kernel
theorem dX9_hasChildOfAgeAsHeir_95 : decode cX9_hasChildOfAgeAsHeir 95 = .ok (.ireturn, 1) := by decide +kernel
theorem dX10_init_0 : decode cX10_init 0 = .ok (.aload_n 0, 1) := by decide +kernel
theorem dX10_init_1 : decode cX10_init 1 = .ok (.invokespecial 1, 3) := by decide +kernel
theorem dX10_init_4 : decode cX10_init 4 = .ok (.aload_n 0, 1) := by decide +kernel
theorem dX10_init_5 : decode cX10_init 5 = .ok (.bipush 40, 2) := by decide +kernel
theorem dX10_init_7 : decode cX10_init 7 = .ok (.newarray .int, 2) := by decide +kernel
theorem dX10_init_9 : decode cX10_init 9 = .ok (.putfield 7, 3) := by decide +kernel
theorem dX10_init_12 : decode cX10_init 12 = .ok (.aload_n 0, 1) := by decide +kernel
theorem dX10_init_13 : decode cX10_init 13 = .ok (.bipush 21, 2) := by decide +kernel
theorem dX10_init_15 : decode cX10_init 15 = .ok (.newarray .int, 2) := by decide +kernel
theorem dX10_init_17 : decode cX10_init 17 = .ok (.putfield 13, 3) := by decide +kernel
theorem dX10_init_20 : decode cX10_init 20 = .ok (.aload_n 0, 1) := by decide +kernel
theorem dX10_init_21 : decode cX10_init 21 = .ok (.bipush 22, 2) := by decide +kernel
theorem dX10_init_23 : decode cX10_init 23 = .ok (.newarray .int, 2) := by decide +kernel
theorem dX10_init_25 : decode cX10_init 25 = .ok (.putfield 16, 3) := by decide +kernel
theorem dX10_init_28 : decode cX10_init 28 = .ok (.aload_n 0, 1) := by decide +kernel
theorem dX10_init_29 : decode cX10_init 29 = .ok (.bipush 22, 2) := by decide +kernel
theorem dX10_init_31 : decode cX10_init 31 = .ok (.newarray .int, 2) := by decide +kernel
theorem dX10_init_33 : decode cX10_init 33 = .ok (.putfield 19, 3) := by decide +kernel
theorem dX10_init_36 : decode cX10_init 36 = .ok (.aload_n 0, 1) := by decide +kernel
theorem dX10_init_37 : decode cX10_init 37 = .ok (.sipush 308, 3) := by decide +kernel
theorem dX10_init_40 : decode cX10_init 40 = .ok (.newarray .int, 2) := by decide +kernel
theorem dX10_init_42 : decode cX10_init 42 = .ok (.putfield 22, 3) := by decide +kernel
theorem dX10_init_45 : decode cX10_init 45 = .ok (.aload_n 0, 1) := by decide +kernel
theorem dX10_init_46 : decode cX10_init 46 = .ok (.bipush 44, 2) := by decide +kernel
theorem dX10_init_48 : decode cX10_init 48 = .ok (.newarray .int, 2) := by decide +kernel
theorem dX10_init_50 : decode cX10_init 50 = .ok (.putfield 25, 3) := by decide +kernel
theorem dX10_init_53 : decode cX10_init 53 = .ok (.aload_n 0, 1) := by decide +kernel
theorem dX10_init_54 : decode cX10_init 54 = .ok (.iconst 2, 1) := by decide +kernel
theorem dX10_init_55 : decode cX10_init 55 = .ok (.newarray .boolean, 2) := by decide +kernel
theorem dX10_init_57 : decode cX10_init 57 = .ok (.putfield 28, 3) := by decide +kernel
theorem dX10_init_60 : decode cX10_init 60 = .ok (.aload_n 0, 1) := by decide +kernel
theorem dX10_init_61 : decode cX10_init 61 = .ok (.bipush 8, 2) := by decide +kernel
theorem dX10_init_63 : decode cX10_init 63 = .ok (.newarray .int, 2) := by decide +kernel
theorem dX10_init_65 : decode cX10_init 65 = .ok (.putfield 32, 3) := by decide +kernel
theorem dX10_init_68 : decode cX10_init 68 = .ok (.aload_n 0, 1) := by decide +kernel
theorem dX10_init_69 : decode cX10_init 69 = .ok (.bipush 8, 2) := by decide +kernel
theorem dX10_init_71 : decode cX10_init 71 = .ok (.newarray .int, 2) := by decide +kernel
theorem dX10_init_73 : decode cX10_init 73 = .ok (.putfield 35, 3) := by decide +kernel
theorem dX10_init_76 : decode cX10_init 76 = .ok (.aload_n 0, 1) := by decide +kernel
theorem dX10_init_77 : decode cX10_init 77 = .ok (.sipush 2048, 3) := by decide +kernel
theorem dX10_init_80 : decode cX10_init 80 = .ok (.newarray .int, 2) := by decide +kernel
theorem dX10_init_82 : decode cX10_init 82 = .ok (.putfield 38, 3) := by decide +kernel
theorem dX10_init_85 : decode cX10_init 85 = .ok (.aload_n 0, 1) := by decide +kernel
theorem dX10_init_86 : decode cX10_init 86 = .ok (.getfield 16, 3) := by decide +kernel
theorem dX10_init_89 : decode cX10_init 89 = .ok (.iconst 1, 1) := by decide +kernel
theorem dX10_init_90 : decode cX10_init 90 = .ok (.bipush (-9), 2) := by decide +kernel
theorem dX10_init_92 : decode cX10_init 92 = .ok (.iastore, 1) := by decide +kernel
theorem dX10_init_93 : decode cX10_init 93 = .ok (.return_, 1) := by decide +kernel
theorem dX10_in_0 : decode cX10_in 0 = .ok (.lload_n 0, 1) := by decide +kernel
theorem dX10_in_1 : decode cX10_in 1 = .ok (.lload_n 2, 1) := by decide +kernel
theorem dX10_in_2 : decode cX10_in 2 = .ok (.lcmp, 1) := by decide +kernel
theorem dX10_in_3 : decode cX10_in 3 = .ok (.ifCond .lt 14, 3) := by decide +kernel
theorem dX10_in_6 : decode cX10_in 6 = .ok (.lload_n 0, 1) := by decide +kernel
theorem dX10_in_7 : decode cX10_in 7 = .ok (.lload 4, 2) := by decide +kernel
theorem dX10_in_9 : decode cX10_in 9 = .ok (.lcmp, 1) := by decide +kernel
theorem dX10_in_10 : decode cX10_in 10 = .ok (.ifCond .gt 7, 3) := by decide +kernel
theorem dX10_in_13 : decode cX10_in 13 = .ok (.iconst 1, 1) := by decide +kernel
theorem dX10_in_14 : decode cX10_in 14 = .ok (.goto 4, 3) := by decide +kernel
theorem dX10_in_17 : decode cX10_in 17 = .ok (.iconst 0, 1) := by decide +kernel
theorem dX10_in_18 : decode cX10_in 18 = .ok (.ireturn, 1) := by decide +kernel
theorem dX10_has_0 : decode cX10_has 0 = .ok (.iload_n 0, 1) := by decide +kernel
theorem dX10_has_1 : decode cX10_has 1 = .ok (.iload_n 1, 1) := by decide +kernel
theorem dX10_has_2 : decode cX10_has 2 = .ok (.ishr, 1) := by decide +kernel
theorem dX10_has_3 : decode cX10_has 3 = .ok (.iconst 1, 1) := by decide +kernel
theorem dX10_has_4 : decode cX10_has 4 = .ok (.iand, 1) := by decide +kernel
theorem dX10_has_5 : decode cX10_has 5 = .ok (.iconst 1, 1) := by decide +kernel
theorem dX10_has_6 : decode cX10_has 6 = .ok (.if_icmp .ne 7, 3) := by decide +kernel
theorem dX10_has_9 : decode cX10_has 9 = .ok (.iconst 1, 1) := by decide +kernel
theorem dX10_has_10 : decode cX10_has 10 = .ok (.goto 4, 3) := by decide +kernel
theorem dX10_has_13 : decode cX10_has 13 = .ok (.iconst 0, 1) := by decide +kernel
theorem dX10_has_14 : decode cX10_has 14 = .ok (.ireturn, 1) := by decide +kernel
theorem dX10_noPerson_0 : decode cX10_noPerson 0 = .ok (.iload_n 1, 1) := by decide +kernel
theorem dX10_noPerson_1 : decode cX10_noPerson 1 = .ok (.i2l, 1) := by decide +kernel
theorem dX10_noPerson_2 : decode cX10_noPerson 2 = .ok (.lconst 0, 1) := by decide +kernel
theorem dX10_noPerson_3 : decode cX10_noPerson 3 = .ok (.aload_n 0, 1) := by decide +kernel
theorem dX10_noPerson_4 : decode cX10_noPerson 4 = .ok (.getfield 16, 3) := by decide +kernel
theorem dX10_noPerson_7 : decode cX10_noPerson 7 = .ok (.bipush 6, 2) := by decide +kernel
theorem dX10_noPerson_9 : decode cX10_noPerson 9 = .ok (.iaload, 1) := by decide +kernel
theorem dX10_noPerson_10 : decode cX10_noPerson 10 = .ok (.iconst 1, 1) := by decide +kernel
theorem dX10_noPerson_11 : decode cX10_noPerson 11 = .ok (.isub, 1) := by decide +kernel
theorem dX10_noPerson_12 : decode cX10_noPerson 12 = .ok (.i2l, 1) := by decide +kernel
theorem dX10_noPerson_13 : decode cX10_noPerson 13 = .ok (.invokestatic 45, 3) := by decide +kernel
theorem dX10_noPerson_16 : decode cX10_noPerson 16 = .ok (.ifCond .ne 7, 3) := by decide +kernel
theorem dX10_noPerson_19 : decode cX10_noPerson 19 = .ok (.iconst 1, 1) := by decide +kernel
theorem dX10_noPerson_20 : decode cX10_noPerson 20 = .ok (.goto 4, 3) := by decide +kernel
theorem dX10_noPerson_23 : decode cX10_noPerson 23 = .ok (.iconst 0, 1) := by decide +kernel
theorem dX10_noPerson_24 : decode cX10_noPerson 24 = .ok (.ireturn, 1) := by decide +kernel
theorem dX10_noTie_0 : decode cX10_noTie 0 = .ok (.iload_n 0, 1) := by decide +kernel
theorem dX10_noTie_1 : decode cX10_noTie 1 = .ok (.i2l, 1) := by decide +kernel
theorem dX10_noTie_2 : decode cX10_noTie 2 = .ok (.lconst 0, 1) := by decide +kernel
theorem dX10_noTie_3 : decode cX10_noTie 3 = .ok (.ldc2_w 49, 3) := by decide +kernel
theorem dX10_noTie_6 : decode cX10_noTie 6 = .ok (.invokestatic 45, 3) := by decide +kernel
theorem dX10_noTie_9 : decode cX10_noTie 9 = .ok (.ifCond .ne 7, 3) := by decide +kernel
theorem dX10_noTie_12 : decode cX10_noTie 12 = .ok (.iconst 1, 1) := by decide +kernel
theorem dX10_noTie_13 : decode cX10_noTie 13 = .ok (.goto 4, 3) := by decide +kernel
theorem dX10_noTie_16 : decode cX10_noTie 16 = .ok (.iconst 0, 1) := by decide +kernel
theorem dX10_noTie_17 : decode cX10_noTie 17 = .ok (.ireturn, 1) := by decide +kernel
theorem dX10_write_0 : decode cX10_write 0 = .ok (.aload_n 0, 1) := by decide +kernel
theorem dX10_write_1 : decode cX10_write 1 = .ok (.iconst 0, 1) := by decide +kernel
theorem dX10_write_2 : decode cX10_write 2 = .ok (.putfield 41, 3) := by decide +kernel
theorem dX10_write_5 : decode cX10_write 5 = .ok (.iload_n 1, 1) := by decide +kernel
theorem dX10_write_6 : decode cX10_write 6 = .ok (.i2l, 1) := by decide +kernel
theorem dX10_write_7 : decode cX10_write 7 = .ok (.lconst 0, 1) := by decide +kernel
theorem dX10_write_8 : decode cX10_write 8 = .ok (.ldc2_w 51, 3) := by decide +kernel
theorem dX10_write_11 : decode cX10_write 11 = .ok (.invokestatic 45, 3) := by decide +kernel
theorem dX10_write_14 : decode cX10_write 14 = .ok (.ifCond .ne 6, 3) := by decide +kernel
theorem dX10_write_17 : decode cX10_write 17 = .ok (.bipush (-2), 2) := by decide +kernel
theorem dX10_write_19 : decode cX10_write 19 = .ok (.ireturn, 1) := by decide +kernel
theorem dX10_write_20 : decode cX10_write 20 = .ok (.aload_n 0, 1) := by decide +kernel
theorem dX10_write_21 : decode cX10_write 21 = .ok (.getfield 53, 3) := by decide +kernel
theorem dX10_write_24 : decode cX10_write 24 = .ok (.bipush 40, 2) := by decide +kernel
theorem dX10_write_26 : decode cX10_write 26 = .ok (.if_icmp .ne 6, 3) := by decide +kernel
theorem dX10_write_29 : decode cX10_write 29 = .ok (.bipush (-4), 2) := by decide +kernel
theorem dX10_write_31 : decode cX10_write 31 = .ok (.ireturn, 1) := by decide +kernel
theorem dX10_write_32 : decode cX10_write 32 = .ok (.aload_n 0, 1) := by decide +kernel
theorem dX10_write_33 : decode cX10_write 33 = .ok (.getfield 7, 3) := by decide +kernel
theorem dX10_write_36 : decode cX10_write 36 = .ok (.aload_n 0, 1) := by decide +kernel
theorem dX10_write_37 : decode cX10_write 37 = .ok (.getfield 53, 3) := by decide +kernel
theorem dX10_write_40 : decode cX10_write 40 = .ok (.iload_n 1, 1) := by decide +kernel
theorem dX10_write_41 : decode cX10_write 41 = .ok (.iastore, 1) := by decide +kernel
theorem dX10_write_42 : decode cX10_write 42 = .ok (.aload_n 0, 1) := by decide +kernel
theorem dX10_write_43 : decode cX10_write 43 = .ok (.dup, 1) := by decide +kernel
theorem dX10_write_44 : decode cX10_write 44 = .ok (.getfield 53, 3) := by decide +kernel
theorem dX10_write_47 : decode cX10_write 47 = .ok (.iconst 1, 1) := by decide +kernel
theorem dX10_write_48 : decode cX10_write 48 = .ok (.iadd, 1) := by decide +kernel
theorem dX10_write_49 : decode cX10_write 49 = .ok (.putfield 53, 3) := by decide +kernel
theorem dX10_write_52 : decode cX10_write 52 = .ok (.aload_n 0, 1) := by decide +kernel
theorem dX10_write_53 : decode cX10_write 53 = .ok (.getfield 53, 3) := by decide +kernel
theorem dX10_write_56 : decode cX10_write 56 = .ok (.ireturn, 1) := by decide +kernel
theorem dX10_wipe_0 : decode cX10_wipe 0 = .ok (.aload_n 0, 1) := by decide +kernel
theorem dX10_wipe_1 : decode cX10_wipe 1 = .ok (.iconst 0, 1) := by decide +kernel
theorem dX10_wipe_2 : decode cX10_wipe 2 = .ok (.putfield 41, 3) := by decide +kernel
theorem dX10_wipe_5 : decode cX10_wipe 5 = .ok (.aload_n 0, 1) := by decide +kernel
theorem dX10_wipe_6 : decode cX10_wipe 6 = .ok (.getfield 53, 3) := by decide +kernel
theorem dX10_wipe_9 : decode cX10_wipe 9 = .ok (.istore_n 1, 1) := by decide +kernel
theorem dX10_wipe_10 : decode cX10_wipe 10 = .ok (.aload_n 0, 1) := by decide +kernel
theorem dX10_wipe_11 : decode cX10_wipe 11 = .ok (.iconst 0, 1) := by decide +kernel
theorem dX10_wipe_12 : decode cX10_wipe 12 = .ok (.putfield 53, 3) := by decide +kernel
theorem dX10_wipe_15 : decode cX10_wipe 15 = .ok (.iload_n 1, 1) := by decide +kernel
theorem dX10_wipe_16 : decode cX10_wipe 16 = .ok (.ireturn, 1) := by decide +kernel
theorem dX10_figure_0 : decode cX10_figure 0 = .ok (.aload_n 0, 1) := by decide +kernel
theorem dX10_figure_1 : decode cX10_figure 1 = .ok (.getfield 56, 3) := by decide +kernel
theorem dX10_figure_4 : decode cX10_figure 4 = .ok (.aload_n 0, 1) := by decide +kernel
theorem dX10_figure_5 : decode cX10_figure 5 = .ok (.getfield 53, 3) := by decide +kernel
theorem dX10_figure_8 : decode cX10_figure 8 = .ok (.if_icmp .eq 26, 3) := by decide +kernel
theorem dX10_figure_11 : decode cX10_figure 11 = .ok (.aload_n 0, 1) := by decide +kernel
theorem dX10_figure_12 : decode cX10_figure 12 = .ok (.getfield 7, 3) := by decide +kernel
theorem dX10_figure_15 : decode cX10_figure 15 = .ok (.aload_n 0, 1) := by decide +kernel
theorem dX10_figure_16 : decode cX10_figure 16 = .ok (.getfield 56, 3) := by decide +kernel
theorem dX10_figure_19 : decode cX10_figure 19 = .ok (.iaload, 1) := by decide +kernel
theorem dX10_figure_20 : decode cX10_figure 20 = .ok (.bipush 48, 2) := by decide +kernel
theorem dX10_figure_22 : decode cX10_figure 22 = .ok (.isub, 1) := by decide +kernel
theorem dX10_figure_23 : decode cX10_figure 23 = .ok (.i2l, 1) := by decide +kernel
theorem dX10_figure_24 : decode cX10_figure 24 = .ok (.iload_n 1, 1) := by decide +kernel
theorem dX10_figure_25 : decode cX10_figure 25 = .ok (.i2l, 1) := by decide +kernel
theorem dX10_figure_26 : decode cX10_figure 26 = .ok (.iload_n 2, 1) := by decide +kernel
theorem dX10_figure_27 : decode cX10_figure 27 = .ok (.i2l, 1) := by decide +kernel
theorem dX10_figure_28 : decode cX10_figure 28 = .ok (.invokestatic 45, 3) := by decide +kernel
theorem dX10_figure_31 : decode cX10_figure 31 = .ok (.ifCond .ne 6, 3) := by decide +kernel
theorem dX10_figure_34 : decode cX10_figure 34 = .ok (.bipush (-9), 2) := by decide +kernel
theorem dX10_figure_36 : decode cX10_figure 36 = .ok (.ireturn, 1) := by decide +kernel
theorem dX10_figure_37 : decode cX10_figure 37 = .ok (.aload_n 0, 1) := by decide +kernel
theorem dX10_figure_38 : decode cX10_figure 38 = .ok (.dup, 1) := by decide +kernel
theorem dX10_figure_39 : decode cX10_figure 39 = .ok (.getfield 56, 3) := by decide +kernel
theorem dX10_figure_42 : decode cX10_figure 42 = .ok (.iconst 1, 1) := by decide +kernel
theorem dX10_figure_43 : decode cX10_figure 43 = .ok (.iadd, 1) := by decide +kernel
theorem dX10_figure_44 : decode cX10_figure 44 = .ok (.putfield 56, 3) := by decide +kernel
theorem dX10_figure_47 : decode cX10_figure 47 = .ok (.aload_n 0, 1) := by decide +kernel
theorem dX10_figure_48 : decode cX10_figure 48 = .ok (.getfield 7, 3) := by decide +kernel
theorem dX10_figure_51 : decode cX10_figure 51 = .ok (.aload_n 0, 1) := by decide +kernel
theorem dX10_figure_52 : decode cX10_figure 52 = .ok (.getfield 56, 3) := by decide +kernel
theorem dX10_figure_55 : decode cX10_figure 55 = .ok (.iconst 1, 1) := by decide +kernel
theorem dX10_figure_56 : decode cX10_figure 56 = .ok (.isub, 1) := by decide +kernel
theorem dX10_figure_57 : decode cX10_figure 57 = .ok (.iaload, 1) := by decide +kernel
theorem dX10_figure_58 : decode cX10_figure 58 = .ok (.bipush 48, 2) := by decide +kernel
theorem dX10_figure_60 : decode cX10_figure 60 = .ok (.isub, 1) := by decide +kernel
theorem dX10_figure_61 : decode cX10_figure 61 = .ok (.ireturn, 1) := by decide +kernel
theorem dX10_readPerson_0 : decode cX10_readPerson 0 = .ok (.aload_n 0, 1) := by decide +kernel
theorem dX10_readPerson_1 : decode cX10_readPerson 1 = .ok (.iconst 0, 1) := by decide +kernel
theorem dX10_readPerson_2 : decode cX10_readPerson 2 = .ok (.aload_n 0, 1) := by decide +kernel
theorem dX10_readPerson_3 : decode cX10_readPerson 3 = .ok (.getfield 59, 3) := by decide +kernel
theorem dX10_readPerson_6 : decode cX10_readPerson 6 = .ok (.ifCond .ne 7, 3) := by decide +kernel
theorem dX10_readPerson_9 : decode cX10_readPerson 9 = .ok (.iconst 0, 1) := by decide +kernel
theorem dX10_readPerson_10 : decode cX10_readPerson 10 = .ok (.goto 9, 3) := by decide +kernel
theorem dX10_readPerson_13 : decode cX10_readPerson 13 = .ok (.aload_n 0, 1) := by decide +kernel
theorem dX10_readPerson_14 : decode cX10_readPerson 14 = .ok (.getfield 59, 3) := by decide +kernel
theorem dX10_readPerson_17 : decode cX10_readPerson 17 = .ok (.iconst 1, 1) := by decide +kernel
theorem dX10_readPerson_18 : decode cX10_readPerson 18 = .ok (.isub, 1) := by decide +kernel
theorem dX10_readPerson_19 : decode cX10_readPerson 19 = .ok (.invokevirtual 62, 3) := by decide +kernel
theorem dX10_readPerson_22 : decode cX10_readPerson 22 = .ok (.istore_n 1, 1) := by decide +kernel
theorem dX10_readPerson_23 : decode cX10_readPerson 23 = .ok (.iload_n 1, 1) := by decide +kernel
theorem dX10_readPerson_24 : decode cX10_readPerson 24 = .ok (.bipush (-9), 2) := by decide +kernel
theorem dX10_readPerson_26 : decode cX10_readPerson 26 = .ok (.if_icmp .ne 8, 3) := by decide +kernel
theorem dX10_readPerson_29 : decode cX10_readPerson 29 = .ok (.bipush (-9), 2) := by decide +kernel
theorem dX10_readPerson_31 : decode cX10_readPerson 31 = .ok (.goto 9, 3) := by decide +kernel
theorem dX10_readPerson_34 : decode cX10_readPerson 34 = .ok (.aload_n 0, 1) := by decide +kernel
theorem dX10_readPerson_35 : decode cX10_readPerson 35 = .ok (.iconst 0, 1) := by decide +kernel
theorem dX10_readPerson_36 : decode cX10_readPerson 36 = .ok (.iconst 1, 1) := by decide +kernel
theorem dX10_readPerson_37 : decode cX10_readPerson 37 = .ok (.invokevirtual 62, 3) := by decide +kernel
theorem dX10_readPerson_40 : decode cX10_readPerson 40 = .ok (.istore_n 2, 1) := by decide +kernel
theorem dX10_readPerson_41 : decode cX10_readPerson 41 = .ok (.iload_n 2, 1) := by decide +kernel
theorem dX10_readPerson_42 : decode cX10_readPerson 42 = .ok (.bipush (-9), 2) := by decide +kernel
theorem dX10_readPerson_44 : decode cX10_readPerson 44 = .ok (.if_icmp .ne 8, 3) := by decide +kernel
theorem dX10_readPerson_47 : decode cX10_readPerson 47 = .ok (.bipush (-9), 2) := by decide +kernel
theorem dX10_readPerson_49 : decode cX10_readPerson 49 = .ok (.goto 10, 3) := by decide +kernel
theorem dX10_readPerson_52 : decode cX10_readPerson 52 = .ok (.aload_n 0, 1) := by decide +kernel
theorem dX10_readPerson_53 : decode cX10_readPerson 53 = .ok (.iconst 0, 1) := by decide +kernel
theorem dX10_readPerson_54 : decode cX10_readPerson 54 = .ok (.bipush 9, 2) := by decide +kernel
theorem dX10_readPerson_56 : decode cX10_readPerson 56 = .ok (.invokevirtual 62, 3) := by decide +kernel
theorem dX10_readPerson_59 : decode cX10_readPerson 59 = .ok (.istore_n 3, 1) := by decide +kernel
theorem dX10_readPerson_60 : decode cX10_readPerson 60 = .ok (.iload_n 3, 1) := by decide +kernel
theorem dX10_readPerson_61 : decode cX10_readPerson 61 = .ok (.bipush (-9), 2) := by decide +kernel
theorem dX10_readPerson_63 : decode cX10_readPerson 63 = .ok (.if_icmp .ne 5, 3) := by decide +kernel
theorem dX10_readPerson_66 : decode cX10_readPerson 66 = .ok (.iconst 0, 1) := by decide +kernel
theorem dX10_readPerson_67 : decode cX10_readPerson 67 = .ok (.ireturn, 1) := by decide +kernel
theorem dX10_readPerson_68 : decode cX10_readPerson 68 = .ok (.aload_n 0, 1) := by decide +kernel
theorem dX10_readPerson_69 : decode cX10_readPerson 69 = .ok (.getfield 13, 3) := by decide +kernel
theorem dX10_readPerson_72 : decode cX10_readPerson 72 = .ok (.iconst 3, 1) := by decide +kernel
theorem dX10_readPerson_73 : decode cX10_readPerson 73 = .ok (.aload_n 0, 1) := by decide +kernel
theorem dX10_readPerson_74 : decode cX10_readPerson 74 = .ok (.getfield 59, 3) := by decide +kernel
theorem dX10_readPerson_77 : decode cX10_readPerson 77 = .ok (.imul, 1) := by decide +kernel
theorem dX10_readPerson_78 : decode cX10_readPerson 78 = .ok (.aload_n 0, 1) := by decide +kernel
theorem dX10_readPerson_79 : decode cX10_readPerson 79 = .ok (.getfield 59, 3) := by decide +kernel
theorem dX10_readPerson_82 : decode cX10_readPerson 82 = .ok (.ifCond .ne 8, 3) := by decide +kernel
theorem dX10_readPerson_85 : decode cX10_readPerson 85 = .ok (.bipush (-9), 2) := by decide +kernel
theorem dX10_readPerson_87 : decode cX10_readPerson 87 = .ok (.goto 4, 3) := by decide +kernel
theorem dX10_readPerson_90 : decode cX10_readPerson 90 = .ok (.iload_n 1, 1) := by decide +kernel
theorem dX10_readPerson_91 : decode cX10_readPerson 91 = .ok (.iastore, 1) := by decide +kernel
theorem dX10_readPerson_92 : decode cX10_readPerson 92 = .ok (.aload_n 0, 1) := by decide +kernel
theorem dX10_readPerson_93 : decode cX10_readPerson 93 = .ok (.getfield 13, 3) := by decide +kernel
theorem dX10_readPerson_96 : decode cX10_readPerson 96 = .ok (.iconst 3, 1) := by decide +kernel
theorem dX10_readPerson_97 : decode cX10_readPerson 97 = .ok (.aload_n 0, 1) := by decide +kernel
theorem dX10_readPerson_98 : decode cX10_readPerson 98 = .ok (.getfield 59, 3) := by decide +kernel
theorem dX10_readPerson_101 : decode cX10_readPerson 101 = .ok (.imul, 1) := by decide +kernel
theorem dX10_readPerson_102 : decode cX10_readPerson 102 = .ok (.iconst 1, 1) := by decide +kernel
theorem dX10_readPerson_103 : decode cX10_readPerson 103 = .ok (.iadd, 1) := by decide +kernel
theorem dX10_readPerson_104 : decode cX10_readPerson 104 = .ok (.iload_n 2, 1) := by decide +kernel
theorem dX10_readPerson_105 : decode cX10_readPerson 105 = .ok (.iastore, 1) := by decide +kernel
theorem dX10_readPerson_106 : decode cX10_readPerson 106 = .ok (.aload_n 0, 1) := by decide +kernel
theorem dX10_readPerson_107 : decode cX10_readPerson 107 = .ok (.getfield 13, 3) := by decide +kernel
theorem dX10_readPerson_110 : decode cX10_readPerson 110 = .ok (.iconst 3, 1) := by decide +kernel
theorem dX10_readPerson_111 : decode cX10_readPerson 111 = .ok (.aload_n 0, 1) := by decide +kernel
theorem dX10_readPerson_112 : decode cX10_readPerson 112 = .ok (.getfield 59, 3) := by decide +kernel
theorem dX10_readPerson_115 : decode cX10_readPerson 115 = .ok (.imul, 1) := by decide +kernel
theorem dX10_readPerson_116 : decode cX10_readPerson 116 = .ok (.iconst 2, 1) := by decide +kernel
theorem dX10_readPerson_117 : decode cX10_readPerson 117 = .ok (.iadd, 1) := by decide +kernel
theorem dX10_readPerson_118 : decode cX10_readPerson 118 = .ok (.iload_n 3, 1) := by decide +kernel
theorem dX10_readPerson_119 : decode cX10_readPerson 119 = .ok (.iastore, 1) := by decide +kernel
theorem dX10_readPerson_120 : decode cX10_readPerson 120 = .ok (.aload_n 0, 1) := by decide +kernel
theorem dX10_readPerson_121 : decode cX10_readPerson 121 = .ok (.dup, 1) := by decide +kernel
theorem dX10_readPerson_122 : decode cX10_readPerson 122 = .ok (.getfield 59, 3) := by decide +kernel
theorem dX10_readPerson_125 : decode cX10_readPerson 125 = .ok (.iconst 1, 1) := by decide +kernel
theorem dX10_readPerson_126 : decode cX10_readPerson 126 = .ok (.iadd, 1) := by decide +kernel
theorem dX10_readPerson_127 : decode cX10_readPerson 127 = .ok (.putfield 59, 3) := by decide +kernel
theorem dX10_readPerson_130 : decode cX10_readPerson 130 = .ok (.iconst 1, 1) := by decide +kernel
theorem dX10_readPerson_131 : decode cX10_readPerson 131 = .ok (.ireturn, 1) := by decide +kernel
theorem dX10_readLand_0 : decode cX10_readLand 0 = .ok (.aload_n 0, 1) := by decide +kernel
theorem dX10_readLand_1 : decode cX10_readLand 1 = .ok (.iconst 0, 1) := by decide +kernel
theorem dX10_readLand_2 : decode cX10_readLand 2 = .ok (.putfield 56, 3) := by decide +kernel
theorem dX10_readLand_5 : decode cX10_readLand 5 = .ok (.aload_n 0, 1) := by decide +kernel
theorem dX10_readLand_6 : decode cX10_readLand 6 = .ok (.iconst 0, 1) := by decide +kernel
theorem dX10_readLand_7 : decode cX10_readLand 7 = .ok (.putfield 59, 3) := by decide +kernel
theorem dX10_readLand_10 : decode cX10_readLand 10 = .ok (.aload_n 0, 1) := by decide +kernel
theorem dX10_readLand_11 : decode cX10_readLand 11 = .ok (.getfield 53, 3) := by decide +kernel
theorem dX10_readLand_14 : decode cX10_readLand 14 = .ok (.ifCond .eq 14, 3) := by decide +kernel
theorem dX10_readLand_17 : decode cX10_readLand 17 = .ok (.aload_n 0, 1) := by decide +kernel
theorem dX10_readLand_18 : decode cX10_readLand 18 = .ok (.getfield 7, 3) := by decide +kernel
theorem dX10_readLand_21 : decode cX10_readLand 21 = .ok (.iconst 0, 1) := by decide +kernel
theorem dX10_readLand_22 : decode cX10_readLand 22 = .ok (.iaload, 1) := by decide +kernel
theorem dX10_readLand_23 : decode cX10_readLand 23 = .ok (.bipush 84, 2) := by decide +kernel
theorem dX10_readLand_25 : decode cX10_readLand 25 = .ok (.if_icmp .eq 5, 3) := by decide +kernel
theorem dX10_readLand_28 : decode cX10_readLand 28 = .ok (.iconst 0, 1) := by decide +kernel
theorem dX10_readLand_29 : decode cX10_readLand 29 = .ok (.ireturn, 1) := by decide +kernel
theorem dX10_readLand_30 : decode cX10_readLand 30 = .ok (.aload_n 0, 1) := by decide +kernel
theorem dX10_readLand_31 : decode cX10_readLand 31 = .ok (.iconst 1, 1) := by decide +kernel
theorem dX10_readLand_32 : decode cX10_readLand 32 = .ok (.putfield 56, 3) := by decide +kernel
theorem dX10_readLand_35 : decode cX10_readLand 35 = .ok (.aload_n 0, 1) := by decide +kernel
theorem dX10_readLand_36 : decode cX10_readLand 36 = .ok (.aload_n 0, 1) := by decide +kernel
theorem dX10_readLand_37 : decode cX10_readLand 37 = .ok (.iconst 0, 1) := by decide +kernel
theorem dX10_readLand_38 : decode cX10_readLand 38 = .ok (.iconst 3, 1) := by decide +kernel
theorem dX10_readLand_39 : decode cX10_readLand 39 = .ok (.invokevirtual 62, 3) := by decide +kernel
theorem dX10_readLand_42 : decode cX10_readLand 42 = .ok (.putfield 66, 3) := by decide +kernel
theorem dX10_readLand_45 : decode cX10_readLand 45 = .ok (.aload_n 0, 1) := by decide +kernel
theorem dX10_readLand_46 : decode cX10_readLand 46 = .ok (.aload_n 0, 1) := by decide +kernel
theorem dX10_readLand_47 : decode cX10_readLand 47 = .ok (.getfield 66, 3) := by decide +kernel
theorem dX10_readLand_50 : decode cX10_readLand 50 = .ok (.bipush (-9), 2) := by decide +kernel
theorem dX10_readLand_52 : decode cX10_readLand 52 = .ok (.if_icmp .ne 8, 3) := by decide +kernel
theorem dX10_readLand_55 : decode cX10_readLand 55 = .ok (.bipush (-9), 2) := by decide +kernel
theorem dX10_readLand_57 : decode cX10_readLand 57 = .ok (.goto 10, 3) := by decide +kernel
theorem dX10_readLand_60 : decode cX10_readLand 60 = .ok (.aload_n 0, 1) := by decide +kernel
theorem dX10_readLand_61 : decode cX10_readLand 61 = .ok (.iconst 0, 1) := by decide +kernel
theorem dX10_readLand_62 : decode cX10_readLand 62 = .ok (.bipush 9, 2) := by decide +kernel
theorem dX10_readLand_64 : decode cX10_readLand 64 = .ok (.invokevirtual 62, 3) := by decide +kernel
theorem dX10_readLand_67 : decode cX10_readLand 67 = .ok (.putfield 69, 3) := by decide +kernel
theorem dX10_readLand_70 : decode cX10_readLand 70 = .ok (.aload_n 0, 1) := by decide +kernel
theorem dX10_readLand_71 : decode cX10_readLand 71 = .ok (.getfield 69, 3) := by decide +kernel
theorem dX10_readLand_74 : decode cX10_readLand 74 = .ok (.bipush (-9), 2) := by decide +kernel
theorem dX10_readLand_76 : decode cX10_readLand 76 = .ok (.if_icmp .ne 8, 3) := by decide +kernel
theorem dX10_readLand_79 : decode cX10_readLand 79 = .ok (.aload_n 0, 1) := by decide +kernel
theorem dX10_readLand_80 : decode cX10_readLand 80 = .ok (.getfield 56, 3) := by decide +kernel
theorem dX10_readLand_83 : decode cX10_readLand 83 = .ok (.ireturn, 1) := by decide +kernel
theorem dX10_readLand_84 : decode cX10_readLand 84 = .ok (.aload_n 0, 1) := by decide +kernel
theorem dX10_readLand_85 : decode cX10_readLand 85 = .ok (.getfield 56, 3) := by decide +kernel
theorem dX10_readLand_88 : decode cX10_readLand 88 = .ok (.aload_n 0, 1) := by decide +kernel
theorem dX10_readLand_89 : decode cX10_readLand 89 = .ok (.getfield 53, 3) := by decide +kernel
theorem dX10_readLand_92 : decode cX10_readLand 92 = .ok (.if_icmp .ge 53, 3) := by decide +kernel
theorem dX10_readLand_95 : decode cX10_readLand 95 = .ok (.aload_n 0, 1) := by decide +kernel
theorem dX10_readLand_96 : decode cX10_readLand 96 = .ok (.getfield 7, 3) := by decide +kernel
theorem dX10_readLand_99 : decode cX10_readLand 99 = .ok (.aload_n 0, 1) := by decide +kernel
theorem dX10_readLand_100 : decode cX10_readLand 100 = .ok (.getfield 56, 3) := by decide +kernel
theorem dX10_readLand_103 : decode cX10_readLand 103 = .ok (.iaload, 1) := by decide +kernel
theorem dX10_readLand_104 : decode cX10_readLand 104 = .ok (.bipush 80, 2) := by decide +kernel
theorem dX10_readLand_106 : decode cX10_readLand 106 = .ok (.if_icmp .ne 12, 3) := by decide +kernel
theorem dX10_readLand_109 : decode cX10_readLand 109 = .ok (.aload_n 0, 1) := by decide +kernel
theorem dX10_readLand_110 : decode cX10_readLand 110 = .ok (.getfield 59, 3) := by decide +kernel
theorem dX10_readLand_113 : decode cX10_readLand 113 = .ok (.bipush 7, 2) := by decide +kernel
theorem dX10_readLand_115 : decode cX10_readLand 115 = .ok (.if_icmp .ne 8, 3) := by decide +kernel
theorem dX10_readLand_118 : decode cX10_readLand 118 = .ok (.aload_n 0, 1) := by decide +kernel
theorem dX10_readLand_119 : decode cX10_readLand 119 = .ok (.getfield 56, 3) := by decide +kernel
theorem dX10_readLand_122 : decode cX10_readLand 122 = .ok (.ireturn, 1) := by decide +kernel
theorem dX10_readLand_123 : decode cX10_readLand 123 = .ok (.aload_n 0, 1) := by decide +kernel
theorem dX10_readLand_124 : decode cX10_readLand 124 = .ok (.dup, 1) := by decide +kernel
theorem dX10_readLand_125 : decode cX10_readLand 125 = .ok (.getfield 56, 3) := by decide +kernel
theorem dX10_readLand_128 : decode cX10_readLand 128 = .ok (.iconst 1, 1) := by decide +kernel
theorem dX10_readLand_129 : decode cX10_readLand 129 = .ok (.iadd, 1) := by decide +kernel
theorem dX10_readLand_130 : decode cX10_readLand 130 = .ok (.putfield 56, 3) := by decide +kernel
theorem dX10_readLand_133 : decode cX10_readLand 133 = .ok (.aload_n 0, 1) := by decide +kernel
theorem dX10_readLand_134 : decode cX10_readLand 134 = .ok (.invokevirtual 72, 3) := by decide +kernel
theorem dX10_readLand_137 : decode cX10_readLand 137 = .ok (.ifCond .ne (-53), 3) := by decide +kernel
theorem dX10_readLand_140 : decode cX10_readLand 140 = .ok (.aload_n 0, 1) := by decide +kernel
theorem dX10_readLand_141 : decode cX10_readLand 141 = .ok (.getfield 56, 3) := by decide +kernel
theorem dX10_readLand_144 : decode cX10_readLand 144 = .ok (.ireturn, 1) := by decide +kernel
theorem dX10_readLand_145 : decode cX10_readLand 145 = .ok (.bipush (-9), 2) := by decide +kernel
theorem dX10_readLand_147 : decode cX10_readLand 147 = .ok (.ireturn, 1) := by decide +kernel
theorem dX10_fault_0 : decode cX10_fault 0 = .ok (.aload_n 0, 1) := by decide +kernel
theorem dX10_fault_1 : decode cX10_fault 1 = .ok (.iconst 0, 1) := by decide +kernel
theorem dX10_fault_2 : decode cX10_fault 2 = .ok (.putfield 41, 3) := by decide +kernel
theorem dX10_fault_5 : decode cX10_fault 5 = .ok (.aload_n 0, 1) := by decide +kernel
theorem dX10_fault_6 : decode cX10_fault 6 = .ok (.invokevirtual 75, 3) := by decide +kernel
theorem dX10_fault_9 : decode cX10_fault 9 = .ok (.ireturn, 1) := by decide +kernel
theorem dX10_land_0 : decode cX10_land 0 = .ok (.aload_n 0, 1) := by decide +kernel
theorem dX10_land_1 : decode cX10_land 1 = .ok (.iconst 0, 1) := by decide +kernel
theorem dX10_land_2 : decode cX10_land 2 = .ok (.putfield 41, 3) := by decide +kernel
theorem dX10_land_5 : decode cX10_land 5 = .ok (.aload_n 0, 1) := by decide +kernel
theorem dX10_land_6 : decode cX10_land 6 = .ok (.invokevirtual 75, 3) := by decide +kernel
theorem dX10_land_9 : decode cX10_land 9 = .ok (.bipush (-9), 2) := by decide +kernel
theorem dX10_land_11 : decode cX10_land 11 = .ok (.if_icmp .eq 6, 3) := by decide +kernel
theorem dX10_land_14 : decode cX10_land 14 = .ok (.bipush (-3), 2) := by decide +kernel
theorem dX10_land_16 : decode cX10_land 16 = .ok (.ireturn, 1) := by decide +kernel
theorem dX10_land_17 : decode cX10_land 17 = .ok (.iconst 0, 1) := by decide +kernel
theorem dX10_land_18 : decode cX10_land 18 = .ok (.istore_n 1, 1) := by decide +kernel
theorem dX10_land_19 : decode cX10_land 19 = .ok (.iload_n 1, 1) := by decide +kernel
theorem dX10_land_20 : decode cX10_land 20 = .ok (.bipush 22, 2) := by decide +kernel
theorem dX10_land_22 : decode cX10_land 22 = .ok (.if_icmp .ge 16, 3) := by decide +kernel
theorem dX10_land_25 : decode cX10_land 25 = .ok (.aload_n 0, 1) := by decide +kernel
theorem dX10_land_26 : decode cX10_land 26 = .ok (.getfield 16, 3) := by decide +kernel
theorem dX10_land_29 : decode cX10_land 29 = .ok (.iload_n 1, 1) := by decide +kernel
theorem dX10_land_30 : decode cX10_land 30 = .ok (.iconst 0, 1) := by decide +kernel
theorem dX10_land_31 : decode cX10_land 31 = .ok (.iastore, 1) := by decide +kernel
theorem dX10_land_32 : decode cX10_land 32 = .ok (.iinc 1 1, 3) := by decide +kernel
theorem dX10_land_35 : decode cX10_land 35 = .ok (.goto (-16), 3) := by decide +kernel
theorem dX10_land_38 : decode cX10_land 38 = .ok (.aload_n 0, 1) := by decide +kernel
theorem dX10_land_39 : decode cX10_land 39 = .ok (.getfield 16, 3) := by decide +kernel
theorem dX10_land_42 : decode cX10_land 42 = .ok (.iconst 0, 1) := by decide +kernel
theorem dX10_land_43 : decode cX10_land 43 = .ok (.iconst 1, 1) := by decide +kernel
theorem dX10_land_44 : decode cX10_land 44 = .ok (.aload_n 0, 1) := by decide +kernel
theorem dX10_land_45 : decode cX10_land 45 = .ok (.getfield 59, 3) := by decide +kernel
theorem dX10_land_48 : decode cX10_land 48 = .ok (.ishl, 1) := by decide +kernel
theorem dX10_land_49 : decode cX10_land 49 = .ok (.iconst 1, 1) := by decide +kernel
theorem dX10_land_50 : decode cX10_land 50 = .ok (.isub, 1) := by decide +kernel
theorem dX10_land_51 : decode cX10_land 51 = .ok (.iastore, 1) := by decide +kernel
theorem dX10_land_52 : decode cX10_land 52 = .ok (.aload_n 0, 1) := by decide +kernel
theorem dX10_land_53 : decode cX10_land 53 = .ok (.getfield 16, 3) := by decide +kernel
theorem dX10_land_56 : decode cX10_land 56 = .ok (.iconst 1, 1) := by decide +kernel
theorem dX10_land_57 : decode cX10_land 57 = .ok (.aload_n 0, 1) := by decide +kernel
theorem dX10_land_58 : decode cX10_land 58 = .ok (.getfield 59, 3) := by decide +kernel
theorem dX10_land_61 : decode cX10_land 61 = .ok (.ifCond .ne 8, 3) := by decide +kernel
theorem dX10_land_64 : decode cX10_land 64 = .ok (.bipush (-9), 2) := by decide +kernel
theorem dX10_land_66 : decode cX10_land 66 = .ok (.goto 4, 3) := by decide +kernel
theorem dX10_land_69 : decode cX10_land 69 = .ok (.iconst 0, 1) := by decide +kernel
theorem dX10_land_70 : decode cX10_land 70 = .ok (.iastore, 1) := by decide +kernel
theorem dX10_land_71 : decode cX10_land 71 = .ok (.aload_n 0, 1) := by decide +kernel
theorem dX10_land_72 : decode cX10_land 72 = .ok (.getfield 16, 3) := by decide +kernel
theorem dX10_land_75 : decode cX10_land 75 = .ok (.iconst 2, 1) := by decide +kernel
theorem dX10_land_76 : decode cX10_land 76 = .ok (.aload_n 0, 1) := by decide +kernel
theorem dX10_land_77 : decode cX10_land 77 = .ok (.getfield 66, 3) := by decide +kernel
theorem dX10_land_80 : decode cX10_land 80 = .ok (.iastore, 1) := by decide +kernel
theorem dX10_land_81 : decode cX10_land 81 = .ok (.aload_n 0, 1) := by decide +kernel
theorem dX10_land_82 : decode cX10_land 82 = .ok (.getfield 16, 3) := by decide +kernel
theorem dX10_land_85 : decode cX10_land 85 = .ok (.iconst 3, 1) := by decide +kernel
theorem dX10_land_86 : decode cX10_land 86 = .ok (.aload_n 0, 1) := by decide +kernel
theorem dX10_land_87 : decode cX10_land 87 = .ok (.getfield 69, 3) := by decide +kernel
theorem dX10_land_90 : decode cX10_land 90 = .ok (.iastore, 1) := by decide +kernel
theorem dX10_land_91 : decode cX10_land 91 = .ok (.aload_n 0, 1) := by decide +kernel
theorem dX10_land_92 : decode cX10_land 92 = .ok (.getfield 16, 3) := by decide +kernel
theorem dX10_land_95 : decode cX10_land 95 = .ok (.bipush 6, 2) := by decide +kernel
theorem dX10_land_97 : decode cX10_land 97 = .ok (.aload_n 0, 1) := by decide +kernel
theorem dX10_land_98 : decode cX10_land 98 = .ok (.getfield 59, 3) := by decide +kernel
theorem dX10_land_101 : decode cX10_land 101 = .ok (.iastore, 1) := by decide +kernel
theorem dX10_land_102 : decode cX10_land 102 = .ok (.iconst 0, 1) := by decide +kernel
theorem dX10_land_103 : decode cX10_land 103 = .ok (.istore_n 1, 1) := by decide +kernel
theorem dX10_land_104 : decode cX10_land 104 = .ok (.iload_n 1, 1) := by decide +kernel
theorem dX10_land_105 : decode cX10_land 105 = .ok (.aload_n 0, 1) := by decide +kernel
theorem dX10_land_106 : decode cX10_land 106 = .ok (.getfield 59, 3) := by decide +kernel
theorem dX10_land_109 : decode cX10_land 109 = .ok (.if_icmp .ge 67, 3) := by decide +kernel
theorem dX10_land_112 : decode cX10_land 112 = .ok (.aload_n 0, 1) := by decide +kernel
theorem dX10_land_113 : decode cX10_land 113 = .ok (.getfield 16, 3) := by decide +kernel
theorem dX10_land_116 : decode cX10_land 116 = .ok (.bipush 7, 2) := by decide +kernel
theorem dX10_land_118 : decode cX10_land 118 = .ok (.iload_n 1, 1) := by decide +kernel
theorem dX10_land_119 : decode cX10_land 119 = .ok (.iadd, 1) := by decide +kernel
theorem dX10_land_120 : decode cX10_land 120 = .ok (.aload_n 0, 1) := by decide +kernel
theorem dX10_land_121 : decode cX10_land 121 = .ok (.getfield 13, 3) := by decide +kernel
theorem dX10_land_124 : decode cX10_land 124 = .ok (.iconst 3, 1) := by decide +kernel
theorem dX10_land_125 : decode cX10_land 125 = .ok (.iload_n 1, 1) := by decide +kernel
theorem dX10_land_126 : decode cX10_land 126 = .ok (.imul, 1) := by decide +kernel
theorem dX10_land_127 : decode cX10_land 127 = .ok (.iaload, 1) := by decide +kernel
theorem dX10_land_128 : decode cX10_land 128 = .ok (.iastore, 1) := by decide +kernel
theorem dX10_land_129 : decode cX10_land 129 = .ok (.aload_n 0, 1) := by decide +kernel
theorem dX10_land_130 : decode cX10_land 130 = .ok (.getfield 16, 3) := by decide +kernel
theorem dX10_land_133 : decode cX10_land 133 = .ok (.bipush 14, 2) := by decide +kernel
theorem dX10_land_135 : decode cX10_land 135 = .ok (.dup2, 1) := by decide +kernel
theorem dX10_land_136 : decode cX10_land 136 = .ok (.iaload, 1) := by decide +kernel
theorem dX10_land_137 : decode cX10_land 137 = .ok (.aload_n 0, 1) := by decide +kernel
theorem dX10_land_138 : decode cX10_land 138 = .ok (.getfield 13, 3) := by decide +kernel
theorem dX10_land_141 : decode cX10_land 141 = .ok (.iconst 3, 1) := by decide +kernel
theorem dX10_land_142 : decode cX10_land 142 = .ok (.iload_n 1, 1) := by decide +kernel
theorem dX10_land_143 : decode cX10_land 143 = .ok (.imul, 1) := by decide +kernel
theorem dX10_land_144 : decode cX10_land 144 = .ok (.iconst 1, 1) := by decide +kernel
theorem dX10_land_145 : decode cX10_land 145 = .ok (.iadd, 1) := by decide +kernel
theorem dX10_land_146 : decode cX10_land 146 = .ok (.iaload, 1) := by decide +kernel
theorem dX10_land_147 : decode cX10_land 147 = .ok (.iload_n 1, 1) := by decide +kernel
theorem dX10_land_148 : decode cX10_land 148 = .ok (.ishl, 1) := by decide +kernel
theorem dX10_land_149 : decode cX10_land 149 = .ok (.ior, 1) := by decide +kernel
theorem dX10_land_150 : decode cX10_land 150 = .ok (.iastore, 1) := by decide +kernel
theorem dX10_land_151 : decode cX10_land 151 = .ok (.aload_n 0, 1) := by decide +kernel
theorem dX10_land_152 : decode cX10_land 152 = .ok (.getfield 16, 3) := by decide +kernel
theorem dX10_land_155 : decode cX10_land 155 = .ok (.bipush 15, 2) := by decide +kernel
theorem dX10_land_157 : decode cX10_land 157 = .ok (.iload_n 1, 1) := by decide +kernel
theorem dX10_land_158 : decode cX10_land 158 = .ok (.iadd, 1) := by decide +kernel
theorem dX10_land_159 : decode cX10_land 159 = .ok (.aload_n 0, 1) := by decide +kernel
theorem dX10_land_160 : decode cX10_land 160 = .ok (.getfield 13, 3) := by decide +kernel
theorem dX10_land_163 : decode cX10_land 163 = .ok (.iconst 3, 1) := by decide +kernel
theorem dX10_land_164 : decode cX10_land 164 = .ok (.iload_n 1, 1) := by decide +kernel
theorem dX10_land_165 : decode cX10_land 165 = .ok (.imul, 1) := by decide +kernel
theorem dX10_land_166 : decode cX10_land 166 = .ok (.iconst 2, 1) := by decide +kernel
theorem dX10_land_167 : decode cX10_land 167 = .ok (.iadd, 1) := by decide +kernel
theorem dX10_land_168 : decode cX10_land 168 = .ok (.iaload, 1) := by decide +kernel
theorem dX10_land_169 : decode cX10_land 169 = .ok (.iastore, 1) := by decide +kernel
theorem dX10_land_170 : decode cX10_land 170 = .ok (.iinc 1 1, 3) := by decide +kernel
theorem dX10_land_173 : decode cX10_land 173 = .ok (.goto (-69), 3) := by decide +kernel
theorem dX10_land_176 : decode cX10_land 176 = .ok (.aload_n 0, 1) := by decide +kernel
theorem dX10_land_177 : decode cX10_land 177 = .ok (.iconst 0, 1) := by decide +kernel
theorem dX10_land_178 : decode cX10_land 178 = .ok (.putfield 79, 3) := by decide +kernel
theorem dX10_land_181 : decode cX10_land 181 = .ok (.aload_n 0, 1) := by decide +kernel
theorem dX10_land_182 : decode cX10_land 182 = .ok (.getfield 28, 3) := by decide +kernel
theorem dX10_land_185 : decode cX10_land 185 = .ok (.iconst 0, 1) := by decide +kernel
theorem dX10_land_186 : decode cX10_land 186 = .ok (.iconst 0, 1) := by decide +kernel
theorem dX10_land_187 : decode cX10_land 187 = .ok (.bastore, 1) := by decide +kernel
theorem dX10_land_188 : decode cX10_land 188 = .ok (.aload_n 0, 1) := by decide +kernel
theorem dX10_land_189 : decode cX10_land 189 = .ok (.getfield 28, 3) := by decide +kernel
theorem dX10_land_192 : decode cX10_land 192 = .ok (.iconst 1, 1) := by decide +kernel
theorem dX10_land_193 : decode cX10_land 193 = .ok (.iconst 0, 1) := by decide +kernel
theorem dX10_land_194 : decode cX10_land 194 = .ok (.bastore, 1) := by decide +kernel
theorem dX10_land_195 : decode cX10_land 195 = .ok (.aload_n 0, 1) := by decide +kernel
theorem dX10_land_196 : decode cX10_land 196 = .ok (.getfield 16, 3) := by decide +kernel
theorem dX10_land_199 : decode cX10_land 199 = .ok (.bipush 6, 2) := by decide +kernel
theorem dX10_land_201 : decode cX10_land 201 = .ok (.iaload, 1) := by decide +kernel
theorem dX10_land_202 : decode cX10_land 202 = .ok (.ireturn, 1) := by decide +kernel
theorem dX10_isAhead_0 : decode cX10_isAhead 0 = .ok (.aload_n 1, 1) := by decide +kernel
theorem dX10_isAhead_1 : decode cX10_isAhead 1 = .ok (.bipush 14, 2) := by decide +kernel
theorem dX10_isAhead_3 : decode cX10_isAhead 3 = .ok (.iaload, 1) := by decide +kernel
theorem dX10_isAhead_4 : decode cX10_isAhead 4 = .ok (.iload_n 2, 1) := by decide +kernel
theorem dX10_isAhead_5 : decode cX10_isAhead 5 = .ok (.invokestatic 82, 3) := by decide +kernel
theorem dX10_isAhead_8 : decode cX10_isAhead 8 = .ok (.istore 5, 2) := by decide +kernel
theorem dX10_isAhead_10 : decode cX10_isAhead 10 = .ok (.aload_n 1, 1) := by decide +kernel
theorem dX10_isAhead_11 : decode cX10_isAhead 11 = .ok (.bipush 14, 2) := by decide +kernel
theorem dX10_isAhead_13 : decode cX10_isAhead 13 = .ok (.iaload, 1) := by decide +kernel
theorem dX10_isAhead_14 : decode cX10_isAhead 14 = .ok (.iload_n 3, 1) := by decide +kernel
theorem dX10_isAhead_15 : decode cX10_isAhead 15 = .ok (.invokestatic 82, 3) := by decide +kernel
theorem dX10_isAhead_18 : decode cX10_isAhead 18 = .ok (.istore 6, 2) := by decide +kernel
theorem dX10_isAhead_20 : decode cX10_isAhead 20 = .ok (.iload 4, 2) := by decide +kernel
theorem dX10_isAhead_22 : decode cX10_isAhead 22 = .ok (.iconst 2, 1) := by decide +kernel
theorem dX10_isAhead_23 : decode cX10_isAhead 23 = .ok (.if_icmp .ne 13, 3) := by decide +kernel
theorem dX10_isAhead_26 : decode cX10_isAhead 26 = .ok (.iload 5, 2) := by decide +kernel
theorem dX10_isAhead_28 : decode cX10_isAhead 28 = .ok (.iload 6, 2) := by decide +kernel
theorem dX10_isAhead_30 : decode cX10_isAhead 30 = .ok (.if_icmp .eq 6, 3) := by decide +kernel
theorem dX10_isAhead_33 : decode cX10_isAhead 33 = .ok (.iload 5, 2) := by decide +kernel
theorem dX10_isAhead_35 : decode cX10_isAhead 35 = .ok (.ireturn, 1) := by decide +kernel
theorem dX10_isAhead_36 : decode cX10_isAhead 36 = .ok (.aload_n 1, 1) := by decide +kernel
theorem dX10_isAhead_37 : decode cX10_isAhead 37 = .ok (.bipush 15, 2) := by decide +kernel
theorem dX10_isAhead_39 : decode cX10_isAhead 39 = .ok (.iload_n 2, 1) := by decide +kernel
theorem dX10_isAhead_40 : decode cX10_isAhead 40 = .ok (.iadd, 1) := by decide +kernel
theorem dX10_isAhead_41 : decode cX10_isAhead 41 = .ok (.iaload, 1) := by decide +kernel
theorem dX10_isAhead_42 : decode cX10_isAhead 42 = .ok (.aload_n 1, 1) := by decide +kernel
theorem dX10_isAhead_43 : decode cX10_isAhead 43 = .ok (.bipush 15, 2) := by decide +kernel
theorem dX10_isAhead_45 : decode cX10_isAhead 45 = .ok (.iload_n 3, 1) := by decide +kernel
theorem dX10_isAhead_46 : decode cX10_isAhead 46 = .ok (.iadd, 1) := by decide +kernel
theorem dX10_isAhead_47 : decode cX10_isAhead 47 = .ok (.iaload, 1) := by decide +kernel
theorem dX10_isAhead_48 : decode cX10_isAhead 48 = .ok (.if_icmp .gt 23, 3) := by decide +kernel
theorem dX10_isAhead_51 : decode cX10_isAhead 51 = .ok (.aload_n 1, 1) := by decide +kernel
theorem dX10_isAhead_52 : decode cX10_isAhead 52 = .ok (.bipush 15, 2) := by decide +kernel
theorem dX10_isAhead_54 : decode cX10_isAhead 54 = .ok (.iload_n 2, 1) := by decide +kernel
theorem dX10_isAhead_55 : decode cX10_isAhead 55 = .ok (.iadd, 1) := by decide +kernel
theorem dX10_isAhead_56 : decode cX10_isAhead 56 = .ok (.iaload, 1) := by decide +kernel
theorem dX10_isAhead_57 : decode cX10_isAhead 57 = .ok (.aload_n 1, 1) := by decide +kernel
theorem dX10_isAhead_58 : decode cX10_isAhead 58 = .ok (.bipush 15, 2) := by decide +kernel
theorem dX10_isAhead_60 : decode cX10_isAhead 60 = .ok (.iload_n 3, 1) := by decide +kernel
theorem dX10_isAhead_61 : decode cX10_isAhead 61 = .ok (.iadd, 1) := by decide +kernel
theorem dX10_isAhead_62 : decode cX10_isAhead 62 = .ok (.iaload, 1) := by decide +kernel
theorem dX10_isAhead_63 : decode cX10_isAhead 63 = .ok (.if_icmp .ne 12, 3) := by decide +kernel
theorem dX10_isAhead_66 : decode cX10_isAhead 66 = .ok (.iload_n 2, 1) := by decide +kernel
theorem dX10_isAhead_67 : decode cX10_isAhead 67 = .ok (.iload_n 3, 1) := by decide +kernel
theorem dX10_isAhead_68 : decode cX10_isAhead 68 = .ok (.if_icmp .ge 7, 3) := by decide +kernel
theorem dX10_isAhead_71 : decode cX10_isAhead 71 = .ok (.iconst 1, 1) := by decide +kernel
theorem dX10_isAhead_72 : decode cX10_isAhead 72 = .ok (.goto 4, 3) := by decide +kernel
theorem dX10_isAhead_75 : decode cX10_isAhead 75 = .ok (.iconst 0, 1) := by decide +kernel
theorem dX10_isAhead_76 : decode cX10_isAhead 76 = .ok (.istore 7, 2) := by decide +kernel
theorem dX10_isAhead_78 : decode cX10_isAhead 78 = .ok (.iload 4, 2) := by decide +kernel
theorem dX10_isAhead_80 : decode cX10_isAhead 80 = .ok (.iconst 3, 1) := by decide +kernel
theorem dX10_isAhead_81 : decode cX10_isAhead 81 = .ok (.if_icmp .ne 16, 3) := by decide +kernel
theorem dX10_isAhead_84 : decode cX10_isAhead 84 = .ok (.iload 7, 2) := by decide +kernel
theorem dX10_isAhead_86 : decode cX10_isAhead 86 = .ok (.ifCond .ne 7, 3) := by decide +kernel
theorem dX10_isAhead_89 : decode cX10_isAhead 89 = .ok (.iconst 1, 1) := by decide +kernel
theorem dX10_isAhead_90 : decode cX10_isAhead 90 = .ok (.goto 9, 3) := by decide +kernel
theorem dX10_isAhead_93 : decode cX10_isAhead 93 = .ok (.iconst 0, 1) := by decide +kernel
theorem dX10_isAhead_94 : decode cX10_isAhead 94 = .ok (.goto 5, 3) := by decide +kernel
theorem dX10_isAhead_97 : decode cX10_isAhead 97 = .ok (.iload 7, 2) := by decide +kernel
theorem dX10_isAhead_99 : decode cX10_isAhead 99 = .ok (.ireturn, 1) := by decide +kernel
theorem dX10_childrenOf_0 : decode cX10_childrenOf 0 = .ok (.iconst 0, 1) := by decide +kernel
theorem dX10_childrenOf_1 : decode cX10_childrenOf 1 = .ok (.istore_n 3, 1) := by decide +kernel
theorem dX10_childrenOf_2 : decode cX10_childrenOf 2 = .ok (.iconst 0, 1) := by decide +kernel
theorem dX10_childrenOf_3 : decode cX10_childrenOf 3 = .ok (.istore 4, 2) := by decide +kernel
theorem dX10_childrenOf_5 : decode cX10_childrenOf 5 = .ok (.iload 4, 2) := by decide +kernel
theorem dX10_childrenOf_7 : decode cX10_childrenOf 7 = .ok (.aload_n 1, 1) := by decide +kernel
theorem dX10_childrenOf_8 : decode cX10_childrenOf 8 = .ok (.bipush 6, 2) := by decide +kernel
theorem dX10_childrenOf_10 : decode cX10_childrenOf 10 = .ok (.iaload, 1) := by decide +kernel
theorem dX10_childrenOf_11 : decode cX10_childrenOf 11 = .ok (.if_icmp .ge 31, 3) := by decide +kernel
theorem dX10_childrenOf_14 : decode cX10_childrenOf 14 = .ok (.iload_n 3, 1) := by decide +kernel
theorem dX10_childrenOf_15 : decode cX10_childrenOf 15 = .ok (.aload_n 1, 1) := by decide +kernel
theorem dX10_childrenOf_16 : decode cX10_childrenOf 16 = .ok (.bipush 7, 2) := by decide +kernel
theorem dX10_childrenOf_18 : decode cX10_childrenOf 18 = .ok (.iload 4, 2) := by decide +kernel
theorem dX10_childrenOf_20 : decode cX10_childrenOf 20 = .ok (.iadd, 1) := by decide +kernel
theorem dX10_childrenOf_21 : decode cX10_childrenOf 21 = .ok (.iaload, 1) := by decide +kernel
theorem dX10_childrenOf_22 : decode cX10_childrenOf 22 = .ok (.iload_n 2, 1) := by decide +kernel
theorem dX10_childrenOf_23 : decode cX10_childrenOf 23 = .ok (.if_icmp .ne 10, 3) := by decide +kernel
theorem dX10_childrenOf_26 : decode cX10_childrenOf 26 = .ok (.iconst 1, 1) := by decide +kernel
theorem dX10_childrenOf_27 : decode cX10_childrenOf 27 = .ok (.iload 4, 2) := by decide +kernel
theorem dX10_childrenOf_29 : decode cX10_childrenOf 29 = .ok (.ishl, 1) := by decide +kernel
theorem dX10_childrenOf_30 : decode cX10_childrenOf 30 = .ok (.goto 4, 3) := by decide +kernel
theorem dX10_childrenOf_33 : decode cX10_childrenOf 33 = .ok (.iconst 0, 1) := by decide +kernel
theorem dX10_childrenOf_34 : decode cX10_childrenOf 34 = .ok (.ior, 1) := by decide +kernel
theorem dX10_childrenOf_35 : decode cX10_childrenOf 35 = .ok (.istore_n 3, 1) := by decide +kernel
theorem dX10_childrenOf_36 : decode cX10_childrenOf 36 = .ok (.iinc 4 1, 3) := by decide +kernel
theorem dX10_childrenOf_39 : decode cX10_childrenOf 39 = .ok (.goto (-34), 3) := by decide +kernel
theorem dX10_childrenOf_42 : decode cX10_childrenOf 42 = .ok (.iload_n 3, 1) := by decide +kernel
theorem dX10_childrenOf_43 : decode cX10_childrenOf 43 = .ok (.ireturn, 1) := by decide +kernel
theorem dX10_layLine_0 : decode cX10_layLine 0 = .ok (.iconst 1, 1) := by decide +kernel
theorem dX10_layLine_1 : decode cX10_layLine 1 = .ok (.istore 4, 2) := by decide +kernel
theorem dX10_layLine_3 : decode cX10_layLine 3 = .ok (.aload_n 0, 1) := by decide +kernel
theorem dX10_layLine_4 : decode cX10_layLine 4 = .ok (.iconst 0, 1) := by decide +kernel
theorem dX10_layLine_5 : decode cX10_layLine 5 = .ok (.putfield 86, 3) := by decide +kernel
theorem dX10_layLine_8 : decode cX10_layLine 8 = .ok (.aload_n 0, 1) := by decide +kernel
theorem dX10_layLine_9 : decode cX10_layLine 9 = .ok (.getfield 35, 3) := by decide +kernel
theorem dX10_layLine_12 : decode cX10_layLine 12 = .ok (.iconst 0, 1) := by decide +kernel
theorem dX10_layLine_13 : decode cX10_layLine 13 = .ok (.iload_n 2, 1) := by decide +kernel
theorem dX10_layLine_14 : decode cX10_layLine 14 = .ok (.iastore, 1) := by decide +kernel
theorem dX10_layLine_15 : decode cX10_layLine 15 = .ok (.iload 4, 2) := by decide +kernel
theorem dX10_layLine_17 : decode cX10_layLine 17 = .ok (.ifCond .le 164, 3) := by decide +kernel
theorem dX10_layLine_20 : decode cX10_layLine 20 = .ok (.iinc 4 (-1), 3) := by decide +kernel
theorem dX10_layLine_23 : decode cX10_layLine 23 = .ok (.aload_n 0, 1) := by decide +kernel
theorem dX10_layLine_24 : decode cX10_layLine 24 = .ok (.getfield 35, 3) := by decide +kernel
theorem dX10_layLine_27 : decode cX10_layLine 27 = .ok (.iload 4, 2) := by decide +kernel
theorem dX10_layLine_29 : decode cX10_layLine 29 = .ok (.iaload, 1) := by decide +kernel
theorem dX10_layLine_30 : decode cX10_layLine 30 = .ok (.istore 5, 2) := by decide +kernel
theorem dX10_layLine_32 : decode cX10_layLine 32 = .ok (.iload_n 3, 1) := by decide +kernel
theorem dX10_layLine_33 : decode cX10_layLine 33 = .ok (.ifCond .ne 15, 3) := by decide +kernel
theorem dX10_layLine_36 : decode cX10_layLine 36 = .ok (.aload_n 1, 1) := by decide +kernel
theorem dX10_layLine_37 : decode cX10_layLine 37 = .ok (.bipush 14, 2) := by decide +kernel
theorem dX10_layLine_39 : decode cX10_layLine 39 = .ok (.iaload, 1) := by decide +kernel
theorem dX10_layLine_40 : decode cX10_layLine 40 = .ok (.iload 5, 2) := by decide +kernel
theorem dX10_layLine_42 : decode cX10_layLine 42 = .ok (.invokestatic 82, 3) := by decide +kernel
theorem dX10_layLine_45 : decode cX10_layLine 45 = .ok (.ifCond .ne 133, 3) := by decide +kernel
theorem dX10_layLine_48 : decode cX10_layLine 48 = .ok (.aload_n 0, 1) := by decide +kernel
theorem dX10_layLine_49 : decode cX10_layLine 49 = .ok (.getfield 32, 3) := by decide +kernel
theorem dX10_layLine_52 : decode cX10_layLine 52 = .ok (.aload_n 0, 1) := by decide +kernel
theorem dX10_layLine_53 : decode cX10_layLine 53 = .ok (.getfield 86, 3) := by decide +kernel
theorem dX10_layLine_56 : decode cX10_layLine 56 = .ok (.iload 5, 2) := by decide +kernel
theorem dX10_layLine_58 : decode cX10_layLine 58 = .ok (.iastore, 1) := by decide +kernel
theorem dX10_layLine_59 : decode cX10_layLine 59 = .ok (.aload_n 0, 1) := by decide +kernel
theorem dX10_layLine_60 : decode cX10_layLine 60 = .ok (.dup, 1) := by decide +kernel
theorem dX10_layLine_61 : decode cX10_layLine 61 = .ok (.getfield 86, 3) := by decide +kernel
theorem dX10_layLine_64 : decode cX10_layLine 64 = .ok (.iconst 1, 1) := by decide +kernel
theorem dX10_layLine_65 : decode cX10_layLine 65 = .ok (.iadd, 1) := by decide +kernel
theorem dX10_layLine_66 : decode cX10_layLine 66 = .ok (.putfield 86, 3) := by decide +kernel
theorem dX10_layLine_69 : decode cX10_layLine 69 = .ok (.aload_n 0, 1) := by decide +kernel
theorem dX10_layLine_70 : decode cX10_layLine 70 = .ok (.aload_n 1, 1) := by decide +kernel
theorem dX10_layLine_71 : decode cX10_layLine 71 = .ok (.iload 5, 2) := by decide +kernel
theorem dX10_layLine_73 : decode cX10_layLine 73 = .ok (.invokevirtual 89, 3) := by decide +kernel
theorem dX10_layLine_76 : decode cX10_layLine 76 = .ok (.istore 6, 2) := by decide +kernel
theorem dX10_layLine_78 : decode cX10_layLine 78 = .ok (.iload 4, 2) := by decide +kernel
theorem dX10_layLine_80 : decode cX10_layLine 80 = .ok (.istore 7, 2) := by decide +kernel
theorem dX10_layLine_82 : decode cX10_layLine 82 = .ok (.iload 6, 2) := by decide +kernel
theorem dX10_layLine_84 : decode cX10_layLine 84 = .ok (.ifCond .eq 90, 3) := by decide +kernel
theorem dX10_layLine_87 : decode cX10_layLine 87 = .ok (.bipush (-9), 2) := by decide +kernel
theorem dX10_layLine_89 : decode cX10_layLine 89 = .ok (.istore 8, 2) := by decide +kernel
theorem dX10_layLine_91 : decode cX10_layLine 91 = .ok (.iconst 0, 1) := by decide +kernel
theorem dX10_layLine_92 : decode cX10_layLine 92 = .ok (.istore 9, 2) := by decide +kernel
theorem dX10_layLine_94 : decode cX10_layLine 94 = .ok (.iload 9, 2) := by decide +kernel
theorem dX10_layLine_96 : decode cX10_layLine 96 = .ok (.aload_n 1, 1) := by decide +kernel
theorem dX10_layLine_97 : decode cX10_layLine 97 = .ok (.bipush 6, 2) := by decide +kernel
theorem dX10_layLine_99 : decode cX10_layLine 99 = .ok (.iaload, 1) := by decide +kernel
theorem dX10_layLine_100 : decode cX10_layLine 100 = .ok (.if_icmp .ge 48, 3) := by decide +kernel
theorem dX10_layLine_103 : decode cX10_layLine 103 = .ok (.iload 6, 2) := by decide +kernel
theorem dX10_layLine_105 : decode cX10_layLine 105 = .ok (.iload 9, 2) := by decide +kernel
theorem dX10_layLine_107 : decode cX10_layLine 107 = .ok (.invokestatic 82, 3) := by decide +kernel
theorem dX10_layLine_110 : decode cX10_layLine 110 = .ok (.ifCond .eq 28, 3) := by decide +kernel
theorem dX10_layLine_113 : decode cX10_layLine 113 = .ok (.iload 8, 2) := by decide +kernel
theorem dX10_layLine_115 : decode cX10_layLine 115 = .ok (.bipush (-9), 2) := by decide +kernel
theorem dX10_layLine_117 : decode cX10_layLine 117 = .ok (.if_icmp .eq 16, 3) := by decide +kernel
theorem dX10_layLine_120 : decode cX10_layLine 120 = .ok (.aload_n 0, 1) := by decide +kernel
theorem dX10_layLine_121 : decode cX10_layLine 121 = .ok (.aload_n 1, 1) := by decide +kernel
theorem dX10_layLine_122 : decode cX10_layLine 122 = .ok (.iload 8, 2) := by decide +kernel
theorem dX10_layLine_124 : decode cX10_layLine 124 = .ok (.iload 9, 2) := by decide +kernel
theorem dX10_layLine_126 : decode cX10_layLine 126 = .ok (.iload_n 3, 1) := by decide +kernel
theorem dX10_layLine_127 : decode cX10_layLine 127 = .ok (.invokevirtual 93, 3) := by decide +kernel
theorem dX10_layLine_130 : decode cX10_layLine 130 = .ok (.ifCond .eq 8, 3) := by decide +kernel
theorem dX10_layLine_133 : decode cX10_layLine 133 = .ok (.iload 9, 2) := by decide +kernel
theorem dX10_layLine_135 : decode cX10_layLine 135 = .ok (.goto 5, 3) := by decide +kernel
theorem dX10_layLine_138 : decode cX10_layLine 138 = .ok (.iload 8, 2) := by decide +kernel
theorem dX10_layLine_140 : decode cX10_layLine 140 = .ok (.istore 8, 2) := by decide +kernel
theorem dX10_layLine_142 : decode cX10_layLine 142 = .ok (.iinc 9 1, 3) := by decide +kernel
theorem dX10_layLine_145 : decode cX10_layLine 145 = .ok (.goto (-51), 3) := by decide +kernel
theorem dX10_layLine_148 : decode cX10_layLine 148 = .ok (.iload 6, 2) := by decide +kernel
theorem dX10_layLine_150 : decode cX10_layLine 150 = .ok (.iconst 1, 1) := by decide +kernel
theorem dX10_layLine_151 : decode cX10_layLine 151 = .ok (.iload 8, 2) := by decide +kernel
theorem dX10_layLine_153 : decode cX10_layLine 153 = .ok (.ishl, 1) := by decide +kernel
theorem dX10_layLine_154 : decode cX10_layLine 154 = .ok (.iconst (-1), 1) := by decide +kernel
theorem dX10_layLine_155 : decode cX10_layLine 155 = .ok (.ixor, 1) := by decide +kernel
theorem dX10_layLine_156 : decode cX10_layLine 156 = .ok (.iand, 1) := by decide +kernel
theorem dX10_layLine_157 : decode cX10_layLine 157 = .ok (.istore 6, 2) := by decide +kernel
theorem dX10_layLine_159 : decode cX10_layLine 159 = .ok (.aload_n 0, 1) := by decide +kernel
theorem dX10_layLine_160 : decode cX10_layLine 160 = .ok (.getfield 35, 3) := by decide +kernel
theorem dX10_layLine_163 : decode cX10_layLine 163 = .ok (.iload 7, 2) := by decide +kernel
theorem dX10_layLine_165 : decode cX10_layLine 165 = .ok (.iload 8, 2) := by decide +kernel
theorem dX10_layLine_167 : decode cX10_layLine 167 = .ok (.iastore, 1) := by decide +kernel
theorem dX10_layLine_168 : decode cX10_layLine 168 = .ok (.iinc 7 1, 3) := by decide +kernel
theorem dX10_layLine_171 : decode cX10_layLine 171 = .ok (.goto (-89), 3) := by decide +kernel
theorem dX10_layLine_174 : decode cX10_layLine 174 = .ok (.iload 7, 2) := by decide +kernel
theorem dX10_layLine_176 : decode cX10_layLine 176 = .ok (.istore 4, 2) := by decide +kernel
theorem dX10_layLine_178 : decode cX10_layLine 178 = .ok (.goto (-163), 3) := by decide +kernel
theorem dX10_layLine_181 : decode cX10_layLine 181 = .ok (.return_, 1) := by decide +kernel
theorem dX10_firstOf_0 : decode cX10_firstOf 0 = .ok (.iconst 0, 1) := by decide +kernel
theorem dX10_firstOf_1 : decode cX10_firstOf 1 = .ok (.istore_n 3, 1) := by decide +kernel
theorem dX10_firstOf_2 : decode cX10_firstOf 2 = .ok (.iload_n 3, 1) := by decide +kernel
theorem dX10_firstOf_3 : decode cX10_firstOf 3 = .ok (.aload_n 0, 1) := by decide +kernel
theorem dX10_firstOf_4 : decode cX10_firstOf 4 = .ok (.getfield 86, 3) := by decide +kernel
theorem dX10_firstOf_7 : decode cX10_firstOf 7 = .ok (.if_icmp .ge 39, 3) := by decide +kernel
theorem dX10_firstOf_10 : decode cX10_firstOf 10 = .ok (.aload_n 0, 1) := by decide +kernel
theorem dX10_firstOf_11 : decode cX10_firstOf 11 = .ok (.getfield 32, 3) := by decide +kernel
theorem dX10_firstOf_14 : decode cX10_firstOf 14 = .ok (.iload_n 3, 1) := by decide +kernel
theorem dX10_firstOf_15 : decode cX10_firstOf 15 = .ok (.iaload, 1) := by decide +kernel
theorem dX10_firstOf_16 : decode cX10_firstOf 16 = .ok (.iload_n 2, 1) := by decide +kernel
theorem dX10_firstOf_17 : decode cX10_firstOf 17 = .ok (.if_icmp .eq 23, 3) := by decide +kernel
theorem dX10_firstOf_20 : decode cX10_firstOf 20 = .ok (.iload_n 1, 1) := by decide +kernel
theorem dX10_firstOf_21 : decode cX10_firstOf 21 = .ok (.aload_n 0, 1) := by decide +kernel
theorem dX10_firstOf_22 : decode cX10_firstOf 22 = .ok (.getfield 32, 3) := by decide +kernel
theorem dX10_firstOf_25 : decode cX10_firstOf 25 = .ok (.iload_n 3, 1) := by decide +kernel
theorem dX10_firstOf_26 : decode cX10_firstOf 26 = .ok (.iaload, 1) := by decide +kernel
theorem dX10_firstOf_27 : decode cX10_firstOf 27 = .ok (.invokestatic 82, 3) := by decide +kernel
theorem dX10_firstOf_30 : decode cX10_firstOf 30 = .ok (.ifCond .eq 10, 3) := by decide +kernel
theorem dX10_firstOf_33 : decode cX10_firstOf 33 = .ok (.aload_n 0, 1) := by decide +kernel
theorem dX10_firstOf_34 : decode cX10_firstOf 34 = .ok (.getfield 32, 3) := by decide +kernel
theorem dX10_firstOf_37 : decode cX10_firstOf 37 = .ok (.iload_n 3, 1) := by decide +kernel
theorem dX10_firstOf_38 : decode cX10_firstOf 38 = .ok (.iaload, 1) := by decide +kernel
theorem dX10_firstOf_39 : decode cX10_firstOf 39 = .ok (.ireturn, 1) := by decide +kernel
theorem dX10_firstOf_40 : decode cX10_firstOf 40 = .ok (.iinc 3 1, 3) := by decide +kernel
theorem dX10_firstOf_43 : decode cX10_firstOf 43 = .ok (.goto (-41), 3) := by decide +kernel
theorem dX10_firstOf_46 : decode cX10_firstOf 46 = .ok (.bipush (-9), 2) := by decide +kernel
theorem dX10_firstOf_48 : decode cX10_firstOf 48 = .ok (.ireturn, 1) := by decide +kernel
theorem dX10_heirOf_0 : decode cX10_heirOf 0 = .ok (.bipush (-9), 2) := by decide +kernel
theorem dX10_heirOf_2 : decode cX10_heirOf 2 = .ok (.istore 4, 2) := by decide +kernel
theorem dX10_heirOf_4 : decode cX10_heirOf 4 = .ok (.aload_n 0, 1) := by decide +kernel
theorem dX10_heirOf_5 : decode cX10_heirOf 5 = .ok (.aload_n 1, 1) := by decide +kernel
theorem dX10_heirOf_6 : decode cX10_heirOf 6 = .ok (.iload_n 2, 1) := by decide +kernel
theorem dX10_heirOf_7 : decode cX10_heirOf 7 = .ok (.invokevirtual 89, 3) := by decide +kernel
theorem dX10_heirOf_10 : decode cX10_heirOf 10 = .ok (.istore 5, 2) := by decide +kernel
theorem dX10_heirOf_12 : decode cX10_heirOf 12 = .ok (.iload 5, 2) := by decide +kernel
theorem dX10_heirOf_14 : decode cX10_heirOf 14 = .ok (.ifCond .eq 103, 3) := by decide +kernel
theorem dX10_heirOf_17 : decode cX10_heirOf 17 = .ok (.iload 4, 2) := by decide +kernel
theorem dX10_heirOf_19 : decode cX10_heirOf 19 = .ok (.bipush (-9), 2) := by decide +kernel
theorem dX10_heirOf_21 : decode cX10_heirOf 21 = .ok (.if_icmp .ne 96, 3) := by decide +kernel
theorem dX10_heirOf_24 : decode cX10_heirOf 24 = .ok (.bipush (-9), 2) := by decide +kernel
theorem dX10_heirOf_26 : decode cX10_heirOf 26 = .ok (.istore 6, 2) := by decide +kernel
theorem dX10_heirOf_28 : decode cX10_heirOf 28 = .ok (.iconst 0, 1) := by decide +kernel
theorem dX10_heirOf_29 : decode cX10_heirOf 29 = .ok (.istore 7, 2) := by decide +kernel
theorem dX10_heirOf_31 : decode cX10_heirOf 31 = .ok (.iload 7, 2) := by decide +kernel
theorem dX10_heirOf_33 : decode cX10_heirOf 33 = .ok (.aload_n 1, 1) := by decide +kernel
theorem dX10_heirOf_34 : decode cX10_heirOf 34 = .ok (.bipush 6, 2) := by decide +kernel
theorem dX10_heirOf_36 : decode cX10_heirOf 36 = .ok (.iaload, 1) := by decide +kernel
theorem dX10_heirOf_37 : decode cX10_heirOf 37 = .ok (.if_icmp .ge 48, 3) := by decide +kernel
theorem dX10_heirOf_40 : decode cX10_heirOf 40 = .ok (.iload 5, 2) := by decide +kernel
theorem dX10_heirOf_42 : decode cX10_heirOf 42 = .ok (.iload 7, 2) := by decide +kernel
theorem dX10_heirOf_44 : decode cX10_heirOf 44 = .ok (.invokestatic 82, 3) := by decide +kernel
theorem dX10_heirOf_47 : decode cX10_heirOf 47 = .ok (.ifCond .eq 28, 3) := by decide +kernel
theorem dX10_heirOf_50 : decode cX10_heirOf 50 = .ok (.iload 6, 2) := by decide +kernel
theorem dX10_heirOf_52 : decode cX10_heirOf 52 = .ok (.bipush (-9), 2) := by decide +kernel
theorem dX10_heirOf_54 : decode cX10_heirOf 54 = .ok (.if_icmp .eq 16, 3) := by decide +kernel
theorem dX10_heirOf_57 : decode cX10_heirOf 57 = .ok (.aload_n 0, 1) := by decide +kernel
theorem dX10_heirOf_58 : decode cX10_heirOf 58 = .ok (.aload_n 1, 1) := by decide +kernel
theorem dX10_heirOf_59 : decode cX10_heirOf 59 = .ok (.iload 7, 2) := by decide +kernel
theorem dX10_heirOf_61 : decode cX10_heirOf 61 = .ok (.iload 6, 2) := by decide +kernel
theorem dX10_heirOf_63 : decode cX10_heirOf 63 = .ok (.iload_n 3, 1) := by decide +kernel
theorem dX10_heirOf_64 : decode cX10_heirOf 64 = .ok (.invokevirtual 93, 3) := by decide +kernel
theorem dX10_heirOf_67 : decode cX10_heirOf 67 = .ok (.ifCond .eq 8, 3) := by decide +kernel
theorem dX10_heirOf_70 : decode cX10_heirOf 70 = .ok (.iload 7, 2) := by decide +kernel
theorem dX10_heirOf_72 : decode cX10_heirOf 72 = .ok (.goto 5, 3) := by decide +kernel
theorem dX10_heirOf_75 : decode cX10_heirOf 75 = .ok (.iload 6, 2) := by decide +kernel
theorem dX10_heirOf_77 : decode cX10_heirOf 77 = .ok (.istore 6, 2) := by decide +kernel
theorem dX10_heirOf_79 : decode cX10_heirOf 79 = .ok (.iinc 7 1, 3) := by decide +kernel
theorem dX10_heirOf_82 : decode cX10_heirOf 82 = .ok (.goto (-51), 3) := by decide +kernel
theorem dX10_heirOf_85 : decode cX10_heirOf 85 = .ok (.iload 5, 2) := by decide +kernel
theorem dX10_heirOf_87 : decode cX10_heirOf 87 = .ok (.iconst 1, 1) := by decide +kernel
theorem dX10_heirOf_88 : decode cX10_heirOf 88 = .ok (.iload 6, 2) := by decide +kernel
theorem dX10_heirOf_90 : decode cX10_heirOf 90 = .ok (.ishl, 1) := by decide +kernel
theorem dX10_heirOf_91 : decode cX10_heirOf 91 = .ok (.iconst (-1), 1) := by decide +kernel
theorem dX10_heirOf_92 : decode cX10_heirOf 92 = .ok (.ixor, 1) := by decide +kernel
theorem dX10_heirOf_93 : decode cX10_heirOf 93 = .ok (.iand, 1) := by decide +kernel
theorem dX10_heirOf_94 : decode cX10_heirOf 94 = .ok (.istore 5, 2) := by decide +kernel
theorem dX10_heirOf_96 : decode cX10_heirOf 96 = .ok (.aload_n 0, 1) := by decide +kernel
theorem dX10_heirOf_97 : decode cX10_heirOf 97 = .ok (.aload_n 1, 1) := by decide +kernel
theorem dX10_heirOf_98 : decode cX10_heirOf 98 = .ok (.iload 6, 2) := by decide +kernel
theorem dX10_heirOf_100 : decode cX10_heirOf 100 = .ok (.iload_n 3, 1) := by decide +kernel
theorem dX10_heirOf_101 : decode cX10_heirOf 101 = .ok (.invokevirtual 97, 3) := by decide +kernel
theorem dX10_heirOf_104 : decode cX10_heirOf 104 = .ok (.aload_n 0, 1) := by decide +kernel
theorem dX10_heirOf_105 : decode cX10_heirOf 105 = .ok (.aload_n 1, 1) := by decide +kernel
theorem dX10_heirOf_106 : decode cX10_heirOf 106 = .ok (.iconst 0, 1) := by decide +kernel
theorem dX10_heirOf_107 : decode cX10_heirOf 107 = .ok (.iaload, 1) := by decide +kernel
theorem dX10_heirOf_108 : decode cX10_heirOf 108 = .ok (.iload_n 2, 1) := by decide +kernel
theorem dX10_heirOf_109 : decode cX10_heirOf 109 = .ok (.invokevirtual 101, 3) := by decide +kernel
theorem dX10_heirOf_112 : decode cX10_heirOf 112 = .ok (.istore 4, 2) := by decide +kernel
theorem dX10_heirOf_114 : decode cX10_heirOf 114 = .ok (.goto (-102), 3) := by decide +kernel
theorem dX10_heirOf_117 : decode cX10_heirOf 117 = .ok (.aload_n 1, 1) := by decide +kernel
theorem dX10_heirOf_118 : decode cX10_heirOf 118 = .ok (.bipush 7, 2) := by decide +kernel
theorem dX10_heirOf_120 : decode cX10_heirOf 120 = .ok (.iload_n 2, 1) := by decide +kernel
theorem dX10_heirOf_121 : decode cX10_heirOf 121 = .ok (.iadd, 1) := by decide +kernel
theorem dX10_heirOf_122 : decode cX10_heirOf 122 = .ok (.iaload, 1) := by decide +kernel
theorem dX10_heirOf_123 : decode cX10_heirOf 123 = .ok (.istore 6, 2) := by decide +kernel
theorem dX10_heirOf_125 : decode cX10_heirOf 125 = .ok (.iload 4, 2) := by decide +kernel
theorem dX10_heirOf_127 : decode cX10_heirOf 127 = .ok (.bipush (-9), 2) := by decide +kernel
theorem dX10_heirOf_129 : decode cX10_heirOf 129 = .ok (.if_icmp .ne 40, 3) := by decide +kernel
theorem dX10_heirOf_132 : decode cX10_heirOf 132 = .ok (.iload 6, 2) := by decide +kernel
theorem dX10_heirOf_134 : decode cX10_heirOf 134 = .ok (.bipush (-9), 2) := by decide +kernel
theorem dX10_heirOf_136 : decode cX10_heirOf 136 = .ok (.if_icmp .eq 33, 3) := by decide +kernel
theorem dX10_heirOf_139 : decode cX10_heirOf 139 = .ok (.aload_n 0, 1) := by decide +kernel
theorem dX10_heirOf_140 : decode cX10_heirOf 140 = .ok (.aload_n 1, 1) := by decide +kernel
theorem dX10_heirOf_141 : decode cX10_heirOf 141 = .ok (.iload 6, 2) := by decide +kernel
theorem dX10_heirOf_143 : decode cX10_heirOf 143 = .ok (.iload_n 3, 1) := by decide +kernel
theorem dX10_heirOf_144 : decode cX10_heirOf 144 = .ok (.invokevirtual 97, 3) := by decide +kernel
theorem dX10_heirOf_147 : decode cX10_heirOf 147 = .ok (.aload_n 0, 1) := by decide +kernel
theorem dX10_heirOf_148 : decode cX10_heirOf 148 = .ok (.aload_n 1, 1) := by decide +kernel
theorem dX10_heirOf_149 : decode cX10_heirOf 149 = .ok (.iconst 0, 1) := by decide +kernel
theorem dX10_heirOf_150 : decode cX10_heirOf 150 = .ok (.iaload, 1) := by decide +kernel
theorem dX10_heirOf_151 : decode cX10_heirOf 151 = .ok (.iload_n 2, 1) := by decide +kernel
theorem dX10_heirOf_152 : decode cX10_heirOf 152 = .ok (.invokevirtual 101, 3) := by decide +kernel
theorem dX10_heirOf_155 : decode cX10_heirOf 155 = .ok (.istore 4, 2) := by decide +kernel
theorem dX10_heirOf_157 : decode cX10_heirOf 157 = .ok (.aload_n 1, 1) := by decide +kernel
theorem dX10_heirOf_158 : decode cX10_heirOf 158 = .ok (.bipush 7, 2) := by decide +kernel
theorem dX10_heirOf_160 : decode cX10_heirOf 160 = .ok (.iload 6, 2) := by decide +kernel
theorem dX10_heirOf_162 : decode cX10_heirOf 162 = .ok (.iadd, 1) := by decide +kernel
theorem dX10_heirOf_163 : decode cX10_heirOf 163 = .ok (.iaload, 1) := by decide +kernel
theorem dX10_heirOf_164 : decode cX10_heirOf 164 = .ok (.istore 6, 2) := by decide +kernel
theorem dX10_heirOf_166 : decode cX10_heirOf 166 = .ok (.goto (-41), 3) := by decide +kernel
theorem dX10_heirOf_169 : decode cX10_heirOf 169 = .ok (.iload 4, 2) := by decide +kernel
theorem dX10_heirOf_171 : decode cX10_heirOf 171 = .ok (.ireturn, 1) := by decide +kernel
theorem dX10_about_0 : decode cX10_about 0 = .ok (.aload_n 0, 1) := by decide +kernel
theorem dX10_about_1 : decode cX10_about 1 = .ok (.iconst 0, 1) := by decide +kernel
theorem dX10_about_2 : decode cX10_about 2 = .ok (.putfield 41, 3) := by decide +kernel
theorem dX10_about_5 : decode cX10_about 5 = .ok (.iload_n 1, 1) := by decide +kernel
theorem dX10_about_6 : decode cX10_about 6 = .ok (.tableswitch 110 0 8 #[50, 58, 65, 72, 79, 86, 93, 100, 105], 50) := by decide +kernel
theorem dX10_about_56 : decode cX10_about 56 = .ok (.aload_n 0, 1) := by decide +kernel
theorem dX10_about_57 : decode cX10_about 57 = .ok (.getfield 16, 3) := by decide +kernel
theorem dX10_about_60 : decode cX10_about 60 = .ok (.bipush 6, 2) := by decide +kernel
theorem dX10_about_62 : decode cX10_about 62 = .ok (.iaload, 1) := by decide +kernel
theorem dX10_about_63 : decode cX10_about 63 = .ok (.ireturn, 1) := by decide +kernel
theorem dX10_about_64 : decode cX10_about 64 = .ok (.aload_n 0, 1) := by decide +kernel
theorem dX10_about_65 : decode cX10_about 65 = .ok (.getfield 16, 3) := by decide +kernel
theorem dX10_about_68 : decode cX10_about 68 = .ok (.iconst 0, 1) := by decide +kernel
theorem dX10_about_69 : decode cX10_about 69 = .ok (.iaload, 1) := by decide +kernel
theorem dX10_about_70 : decode cX10_about 70 = .ok (.ireturn, 1) := by decide +kernel
theorem dX10_about_71 : decode cX10_about 71 = .ok (.aload_n 0, 1) := by decide +kernel
theorem dX10_about_72 : decode cX10_about 72 = .ok (.getfield 16, 3) := by decide +kernel
theorem dX10_about_75 : decode cX10_about 75 = .ok (.iconst 1, 1) := by decide +kernel
theorem dX10_about_76 : decode cX10_about 76 = .ok (.iaload, 1) := by decide +kernel
theorem dX10_about_77 : decode cX10_about 77 = .ok (.ireturn, 1) := by decide +kernel
theorem dX10_about_78 : decode cX10_about 78 = .ok (.aload_n 0, 1) := by decide +kernel
theorem dX10_about_79 : decode cX10_about 79 = .ok (.getfield 16, 3) := by decide +kernel
theorem dX10_about_82 : decode cX10_about 82 = .ok (.iconst 2, 1) := by decide +kernel
theorem dX10_about_83 : decode cX10_about 83 = .ok (.iaload, 1) := by decide +kernel
theorem dX10_about_84 : decode cX10_about 84 = .ok (.ireturn, 1) := by decide +kernel
theorem dX10_about_85 : decode cX10_about 85 = .ok (.aload_n 0, 1) := by decide +kernel
theorem dX10_about_86 : decode cX10_about 86 = .ok (.getfield 16, 3) := by decide +kernel
theorem dX10_about_89 : decode cX10_about 89 = .ok (.iconst 3, 1) := by decide +kernel
theorem dX10_about_90 : decode cX10_about 90 = .ok (.iaload, 1) := by decide +kernel
theorem dX10_about_91 : decode cX10_about 91 = .ok (.ireturn, 1) := by decide +kernel
theorem dX10_about_92 : decode cX10_about 92 = .ok (.aload_n 0, 1) := by decide +kernel
theorem dX10_about_93 : decode cX10_about 93 = .ok (.getfield 16, 3) := by decide +kernel
theorem dX10_about_96 : decode cX10_about 96 = .ok (.iconst 4, 1) := by decide +kernel
theorem dX10_about_97 : decode cX10_about 97 = .ok (.iaload, 1) := by decide +kernel
theorem dX10_about_98 : decode cX10_about 98 = .ok (.ireturn, 1) := by decide +kernel
theorem dX10_about_99 : decode cX10_about 99 = .ok (.aload_n 0, 1) := by decide +kernel
theorem dX10_about_100 : decode cX10_about 100 = .ok (.getfield 16, 3) := by decide +kernel
theorem dX10_about_103 : decode cX10_about 103 = .ok (.iconst 5, 1) := by decide +kernel
theorem dX10_about_104 : decode cX10_about 104 = .ok (.iaload, 1) := by decide +kernel
theorem dX10_about_105 : decode cX10_about 105 = .ok (.ireturn, 1) := by decide +kernel
theorem dX10_about_106 : decode cX10_about 106 = .ok (.aload_n 0, 1) := by decide +kernel
theorem dX10_about_107 : decode cX10_about 107 = .ok (.getfield 79, 3) := by decide +kernel
theorem dX10_about_110 : decode cX10_about 110 = .ok (.ireturn, 1) := by decide +kernel
theorem dX10_about_111 : decode cX10_about 111 = .ok (.aload_n 0, 1) := by decide +kernel
theorem dX10_about_112 : decode cX10_about 112 = .ok (.getfield 53, 3) := by decide +kernel
theorem dX10_about_115 : decode cX10_about 115 = .ok (.ireturn, 1) := by decide +kernel
theorem dX10_about_116 : decode cX10_about 116 = .ok (.bipush (-2), 2) := by decide +kernel
theorem dX10_about_118 : decode cX10_about 118 = .ok (.ireturn, 1) := by decide +kernel
theorem dX10_person_0 : decode cX10_person 0 = .ok (.aload_n 0, 1) := by decide +kernel
theorem dX10_person_1 : decode cX10_person 1 = .ok (.iconst 0, 1) := by decide +kernel
theorem dX10_person_2 : decode cX10_person 2 = .ok (.putfield 41, 3) := by decide +kernel
theorem dX10_person_5 : decode cX10_person 5 = .ok (.aload_n 0, 1) := by decide +kernel
theorem dX10_person_6 : decode cX10_person 6 = .ok (.iload_n 1, 1) := by decide +kernel
theorem dX10_person_7 : decode cX10_person 7 = .ok (.invokevirtual 104, 3) := by decide +kernel
theorem dX10_person_10 : decode cX10_person 10 = .ok (.ifCond .eq 5, 3) := by decide +kernel
theorem dX10_person_13 : decode cX10_person 13 = .ok (.iconst (-1), 1) := by decide +kernel
theorem dX10_person_14 : decode cX10_person 14 = .ok (.ireturn, 1) := by decide +kernel
theorem dX10_person_15 : decode cX10_person 15 = .ok (.iload_n 2, 1) := by decide +kernel
theorem dX10_person_16 : decode cX10_person 16 = .ok (.tableswitch 89 0 4 #[36, 46, 58, 68, 79], 36) := by decide +kernel
theorem dX10_person_52 : decode cX10_person 52 = .ok (.aload_n 0, 1) := by decide +kernel
theorem dX10_person_53 : decode cX10_person 53 = .ok (.getfield 16, 3) := by decide +kernel
theorem dX10_person_56 : decode cX10_person 56 = .ok (.bipush 7, 2) := by decide +kernel
theorem dX10_person_58 : decode cX10_person 58 = .ok (.iload_n 1, 1) := by decide +kernel
theorem dX10_person_59 : decode cX10_person 59 = .ok (.iadd, 1) := by decide +kernel
theorem dX10_person_60 : decode cX10_person 60 = .ok (.iaload, 1) := by decide +kernel
theorem dX10_person_61 : decode cX10_person 61 = .ok (.ireturn, 1) := by decide +kernel
theorem dX10_person_62 : decode cX10_person 62 = .ok (.aload_n 0, 1) := by decide +kernel
theorem dX10_person_63 : decode cX10_person 63 = .ok (.getfield 16, 3) := by decide +kernel
theorem dX10_person_66 : decode cX10_person 66 = .ok (.bipush 14, 2) := by decide +kernel
theorem dX10_person_68 : decode cX10_person 68 = .ok (.iaload, 1) := by decide +kernel
theorem dX10_person_69 : decode cX10_person 69 = .ok (.iload_n 1, 1) := by decide +kernel
theorem dX10_person_70 : decode cX10_person 70 = .ok (.ishr, 1) := by decide +kernel
theorem dX10_person_71 : decode cX10_person 71 = .ok (.iconst 1, 1) := by decide +kernel
theorem dX10_person_72 : decode cX10_person 72 = .ok (.iand, 1) := by decide +kernel
theorem dX10_person_73 : decode cX10_person 73 = .ok (.ireturn, 1) := by decide +kernel
theorem dX10_person_74 : decode cX10_person 74 = .ok (.aload_n 0, 1) := by decide +kernel
theorem dX10_person_75 : decode cX10_person 75 = .ok (.getfield 16, 3) := by decide +kernel
theorem dX10_person_78 : decode cX10_person 78 = .ok (.bipush 15, 2) := by decide +kernel
theorem dX10_person_80 : decode cX10_person 80 = .ok (.iload_n 1, 1) := by decide +kernel
theorem dX10_person_81 : decode cX10_person 81 = .ok (.iadd, 1) := by decide +kernel
theorem dX10_person_82 : decode cX10_person 82 = .ok (.iaload, 1) := by decide +kernel
theorem dX10_person_83 : decode cX10_person 83 = .ok (.ireturn, 1) := by decide +kernel
theorem dX10_person_84 : decode cX10_person 84 = .ok (.aload_n 0, 1) := by decide +kernel
theorem dX10_person_85 : decode cX10_person 85 = .ok (.getfield 16, 3) := by decide +kernel
theorem dX10_person_88 : decode cX10_person 88 = .ok (.iconst 0, 1) := by decide +kernel
theorem dX10_person_89 : decode cX10_person 89 = .ok (.iaload, 1) := by decide +kernel
theorem dX10_person_90 : decode cX10_person 90 = .ok (.iload_n 1, 1) := by decide +kernel
theorem dX10_person_91 : decode cX10_person 91 = .ok (.ishr, 1) := by decide +kernel
theorem dX10_person_92 : decode cX10_person 92 = .ok (.iconst 1, 1) := by decide +kernel
theorem dX10_person_93 : decode cX10_person 93 = .ok (.iand, 1) := by decide +kernel
theorem dX10_person_94 : decode cX10_person 94 = .ok (.ireturn, 1) := by decide +kernel
theorem dX10_person_95 : decode cX10_person 95 = .ok (.aload_n 0, 1) := by decide +kernel
theorem dX10_person_96 : decode cX10_person 96 = .ok (.aload_n 0, 1) := by decide +kernel
theorem dX10_person_97 : decode cX10_person 97 = .ok (.getfield 16, 3) := by decide +kernel
theorem dX10_person_100 : decode cX10_person 100 = .ok (.iload_n 1, 1) := by decide +kernel
theorem dX10_person_101 : decode cX10_person 101 = .ok (.invokevirtual 89, 3) := by decide +kernel
theorem dX10_person_104 : decode cX10_person 104 = .ok (.ireturn, 1) := by decide +kernel
theorem dX10_person_105 : decode cX10_person 105 = .ok (.bipush (-2), 2) := by decide +kernel
theorem dX10_person_107 : decode cX10_person 107 = .ok (.ireturn, 1) := by decide +kernel
theorem dX10_note_0 : decode cX10_note 0 = .ok (.aload_n 0, 1) := by decide +kernel
theorem dX10_note_1 : decode cX10_note 1 = .ok (.getfield 79, 3) := by decide +kernel
theorem dX10_note_4 : decode cX10_note 4 = .ok (.bipush 14, 2) := by decide +kernel
theorem dX10_note_6 : decode cX10_note 6 = .ok (.if_icmp .ne 43, 3) := by decide +kernel
theorem dX10_note_9 : decode cX10_note 9 = .ok (.iconst 0, 1) := by decide +kernel
theorem dX10_note_10 : decode cX10_note 10 = .ok (.istore_n 1, 1) := by decide +kernel
theorem dX10_note_11 : decode cX10_note 11 = .ok (.iload_n 1, 1) := by decide +kernel
theorem dX10_note_12 : decode cX10_note 12 = .ok (.sipush 286, 3) := by decide +kernel
theorem dX10_note_15 : decode cX10_note 15 = .ok (.if_icmp .ge 24, 3) := by decide +kernel
theorem dX10_note_18 : decode cX10_note 18 = .ok (.aload_n 0, 1) := by decide +kernel
theorem dX10_note_19 : decode cX10_note 19 = .ok (.getfield 22, 3) := by decide +kernel
theorem dX10_note_22 : decode cX10_note 22 = .ok (.iload_n 1, 1) := by decide +kernel
theorem dX10_note_23 : decode cX10_note 23 = .ok (.aload_n 0, 1) := by decide +kernel
theorem dX10_note_24 : decode cX10_note 24 = .ok (.getfield 22, 3) := by decide +kernel
theorem dX10_note_27 : decode cX10_note 27 = .ok (.iload_n 1, 1) := by decide +kernel
theorem dX10_note_28 : decode cX10_note 28 = .ok (.bipush 22, 2) := by decide +kernel
theorem dX10_note_30 : decode cX10_note 30 = .ok (.iadd, 1) := by decide +kernel
theorem dX10_note_31 : decode cX10_note 31 = .ok (.iaload, 1) := by decide +kernel
theorem dX10_note_32 : decode cX10_note 32 = .ok (.iastore, 1) := by decide +kernel
theorem dX10_note_33 : decode cX10_note 33 = .ok (.iinc 1 1, 3) := by decide +kernel
theorem dX10_note_36 : decode cX10_note 36 = .ok (.goto (-25), 3) := by decide +kernel
theorem dX10_note_39 : decode cX10_note 39 = .ok (.aload_n 0, 1) := by decide +kernel
theorem dX10_note_40 : decode cX10_note 40 = .ok (.dup, 1) := by decide +kernel
theorem dX10_note_41 : decode cX10_note 41 = .ok (.getfield 79, 3) := by decide +kernel
theorem dX10_note_44 : decode cX10_note 44 = .ok (.iconst 1, 1) := by decide +kernel
theorem dX10_note_45 : decode cX10_note 45 = .ok (.isub, 1) := by decide +kernel
theorem dX10_note_46 : decode cX10_note 46 = .ok (.putfield 79, 3) := by decide +kernel
theorem dX10_note_49 : decode cX10_note 49 = .ok (.iconst 0, 1) := by decide +kernel
theorem dX10_note_50 : decode cX10_note 50 = .ok (.istore_n 1, 1) := by decide +kernel
theorem dX10_note_51 : decode cX10_note 51 = .ok (.iload_n 1, 1) := by decide +kernel
theorem dX10_note_52 : decode cX10_note 52 = .ok (.bipush 22, 2) := by decide +kernel
theorem dX10_note_54 : decode cX10_note 54 = .ok (.if_icmp .ge 29, 3) := by decide +kernel
theorem dX10_note_57 : decode cX10_note 57 = .ok (.aload_n 0, 1) := by decide +kernel
theorem dX10_note_58 : decode cX10_note 58 = .ok (.getfield 22, 3) := by decide +kernel
theorem dX10_note_61 : decode cX10_note 61 = .ok (.bipush 22, 2) := by decide +kernel
theorem dX10_note_63 : decode cX10_note 63 = .ok (.aload_n 0, 1) := by decide +kernel
theorem dX10_note_64 : decode cX10_note 64 = .ok (.getfield 79, 3) := by decide +kernel
theorem dX10_note_67 : decode cX10_note 67 = .ok (.imul, 1) := by decide +kernel
theorem dX10_note_68 : decode cX10_note 68 = .ok (.iload_n 1, 1) := by decide +kernel
theorem dX10_note_69 : decode cX10_note 69 = .ok (.iadd, 1) := by decide +kernel
theorem dX10_note_70 : decode cX10_note 70 = .ok (.aload_n 0, 1) := by decide +kernel
theorem dX10_note_71 : decode cX10_note 71 = .ok (.getfield 16, 3) := by decide +kernel
theorem dX10_note_74 : decode cX10_note 74 = .ok (.iload_n 1, 1) := by decide +kernel
theorem dX10_note_75 : decode cX10_note 75 = .ok (.iaload, 1) := by decide +kernel
theorem dX10_note_76 : decode cX10_note 76 = .ok (.iastore, 1) := by decide +kernel
theorem dX10_note_77 : decode cX10_note 77 = .ok (.iinc 1 1, 3) := by decide +kernel
theorem dX10_note_80 : decode cX10_note 80 = .ok (.goto (-29), 3) := by decide +kernel
theorem dX10_note_83 : decode cX10_note 83 = .ok (.aload_n 0, 1) := by decide +kernel
theorem dX10_note_84 : decode cX10_note 84 = .ok (.dup, 1) := by decide +kernel
theorem dX10_note_85 : decode cX10_note 85 = .ok (.getfield 79, 3) := by decide +kernel
theorem dX10_note_88 : decode cX10_note 88 = .ok (.iconst 1, 1) := by decide +kernel
theorem dX10_note_89 : decode cX10_note 89 = .ok (.iadd, 1) := by decide +kernel
theorem dX10_note_90 : decode cX10_note 90 = .ok (.putfield 79, 3) := by decide +kernel
theorem dX10_note_93 : decode cX10_note 93 = .ok (.return_, 1) := by decide +kernel
theorem dX10_goDie_0 : decode cX10_goDie 0 = .ok (.aload_n 1, 1) := by decide +kernel
theorem dX10_goDie_1 : decode cX10_goDie 1 = .ok (.iconst 0, 1) := by decide +kernel
theorem dX10_goDie_2 : decode cX10_goDie 2 = .ok (.dup2, 1) := by decide +kernel
theorem dX10_goDie_3 : decode cX10_goDie 3 = .ok (.iaload, 1) := by decide +kernel
theorem dX10_goDie_4 : decode cX10_goDie 4 = .ok (.iconst 1, 1) := by decide +kernel
theorem dX10_goDie_5 : decode cX10_goDie 5 = .ok (.iload_n 2, 1) := by decide +kernel
theorem dX10_goDie_6 : decode cX10_goDie 6 = .ok (.ishl, 1) := by decide +kernel
theorem dX10_goDie_7 : decode cX10_goDie 7 = .ok (.iconst (-1), 1) := by decide +kernel
theorem dX10_goDie_8 : decode cX10_goDie 8 = .ok (.ixor, 1) := by decide +kernel
theorem dX10_goDie_9 : decode cX10_goDie 9 = .ok (.iand, 1) := by decide +kernel
theorem dX10_goDie_10 : decode cX10_goDie 10 = .ok (.iastore, 1) := by decide +kernel
theorem dX10_goDie_11 : decode cX10_goDie 11 = .ok (.aload_n 1, 1) := by decide +kernel
theorem dX10_goDie_12 : decode cX10_goDie 12 = .ok (.iconst 1, 1) := by decide +kernel
theorem dX10_goDie_13 : decode cX10_goDie 13 = .ok (.iaload, 1) := by decide +kernel
theorem dX10_goDie_14 : decode cX10_goDie 14 = .ok (.iload_n 2, 1) := by decide +kernel
theorem dX10_goDie_15 : decode cX10_goDie 15 = .ok (.if_icmp .ne 19, 3) := by decide +kernel
theorem dX10_goDie_18 : decode cX10_goDie 18 = .ok (.aload_n 1, 1) := by decide +kernel
theorem dX10_goDie_19 : decode cX10_goDie 19 = .ok (.iconst 1, 1) := by decide +kernel
theorem dX10_goDie_20 : decode cX10_goDie 20 = .ok (.aload_n 0, 1) := by decide +kernel
theorem dX10_goDie_21 : decode cX10_goDie 21 = .ok (.aload_n 1, 1) := by decide +kernel
theorem dX10_goDie_22 : decode cX10_goDie 22 = .ok (.iload_n 2, 1) := by decide +kernel
theorem dX10_goDie_23 : decode cX10_goDie 23 = .ok (.aload_n 1, 1) := by decide +kernel
theorem dX10_goDie_24 : decode cX10_goDie 24 = .ok (.iconst 2, 1) := by decide +kernel
theorem dX10_goDie_25 : decode cX10_goDie 25 = .ok (.iaload, 1) := by decide +kernel
theorem dX10_goDie_26 : decode cX10_goDie 26 = .ok (.invokevirtual 108, 3) := by decide +kernel
theorem dX10_goDie_29 : decode cX10_goDie 29 = .ok (.iastore, 1) := by decide +kernel
theorem dX10_goDie_30 : decode cX10_goDie 30 = .ok (.aload_n 1, 1) := by decide +kernel
theorem dX10_goDie_31 : decode cX10_goDie 31 = .ok (.iconst 4, 1) := by decide +kernel
theorem dX10_goDie_32 : decode cX10_goDie 32 = .ok (.iconst 0, 1) := by decide +kernel
theorem dX10_goDie_33 : decode cX10_goDie 33 = .ok (.iastore, 1) := by decide +kernel
theorem dX10_goDie_34 : decode cX10_goDie 34 = .ok (.return_, 1) := by decide +kernel
theorem dX10_die_0 : decode cX10_die 0 = .ok (.aload_n 0, 1) := by decide +kernel
theorem dX10_die_1 : decode cX10_die 1 = .ok (.iconst 0, 1) := by decide +kernel
theorem dX10_die_2 : decode cX10_die 2 = .ok (.putfield 41, 3) := by decide +kernel
theorem dX10_die_5 : decode cX10_die 5 = .ok (.aload_n 0, 1) := by decide +kernel
theorem dX10_die_6 : decode cX10_die 6 = .ok (.iload_n 1, 1) := by decide +kernel
theorem dX10_die_7 : decode cX10_die 7 = .ok (.invokevirtual 104, 3) := by decide +kernel
theorem dX10_die_10 : decode cX10_die 10 = .ok (.ifCond .eq 5, 3) := by decide +kernel
theorem dX10_die_13 : decode cX10_die 13 = .ok (.iconst (-1), 1) := by decide +kernel
theorem dX10_die_14 : decode cX10_die 14 = .ok (.ireturn, 1) := by decide +kernel
theorem dX10_die_15 : decode cX10_die 15 = .ok (.aload_n 0, 1) := by decide +kernel
theorem dX10_die_16 : decode cX10_die 16 = .ok (.getfield 16, 3) := by decide +kernel
theorem dX10_die_19 : decode cX10_die 19 = .ok (.iconst 0, 1) := by decide +kernel
theorem dX10_die_20 : decode cX10_die 20 = .ok (.iaload, 1) := by decide +kernel
theorem dX10_die_21 : decode cX10_die 21 = .ok (.iload_n 1, 1) := by decide +kernel
theorem dX10_die_22 : decode cX10_die 22 = .ok (.invokestatic 82, 3) := by decide +kernel
theorem dX10_die_25 : decode cX10_die 25 = .ok (.ifCond .ne 6, 3) := by decide +kernel
theorem dX10_die_28 : decode cX10_die 28 = .ok (.bipush (-3), 2) := by decide +kernel
theorem dX10_die_30 : decode cX10_die 30 = .ok (.ireturn, 1) := by decide +kernel
theorem dX10_die_31 : decode cX10_die 31 = .ok (.aload_n 0, 1) := by decide +kernel
theorem dX10_die_32 : decode cX10_die 32 = .ok (.invokevirtual 112, 3) := by decide +kernel
theorem dX10_die_35 : decode cX10_die 35 = .ok (.aload_n 0, 1) := by decide +kernel
theorem dX10_die_36 : decode cX10_die 36 = .ok (.aload_n 0, 1) := by decide +kernel
theorem dX10_die_37 : decode cX10_die 37 = .ok (.getfield 16, 3) := by decide +kernel
theorem dX10_die_40 : decode cX10_die 40 = .ok (.iload_n 1, 1) := by decide +kernel
theorem dX10_die_41 : decode cX10_die 41 = .ok (.invokevirtual 115, 3) := by decide +kernel
theorem dX10_die_44 : decode cX10_die 44 = .ok (.aload_n 0, 1) := by decide +kernel
theorem dX10_die_45 : decode cX10_die 45 = .ok (.getfield 16, 3) := by decide +kernel
theorem dX10_die_48 : decode cX10_die 48 = .ok (.iconst 1, 1) := by decide +kernel
theorem dX10_die_49 : decode cX10_die 49 = .ok (.iaload, 1) := by decide +kernel
theorem dX10_die_50 : decode cX10_die 50 = .ok (.ireturn, 1) := by decide +kernel
theorem dX10_bear_0 : decode cX10_bear 0 = .ok (.aload_n 0, 1) := by decide +kernel
theorem dX10_bear_1 : decode cX10_bear 1 = .ok (.iconst 0, 1) := by decide +kernel
theorem dX10_bear_2 : decode cX10_bear 2 = .ok (.putfield 41, 3) := by decide +kernel
theorem dX10_bear_5 : decode cX10_bear 5 = .ok (.aload_n 0, 1) := by decide +kernel
theorem dX10_bear_6 : decode cX10_bear 6 = .ok (.iload_n 1, 1) := by decide +kernel
theorem dX10_bear_7 : decode cX10_bear 7 = .ok (.invokevirtual 104, 3) := by decide +kernel
theorem dX10_bear_10 : decode cX10_bear 10 = .ok (.ifCond .eq 5, 3) := by decide +kernel
theorem dX10_bear_13 : decode cX10_bear 13 = .ok (.iconst (-1), 1) := by decide +kernel
theorem dX10_bear_14 : decode cX10_bear 14 = .ok (.ireturn, 1) := by decide +kernel
theorem dX10_bear_15 : decode cX10_bear 15 = .ok (.iload_n 2, 1) := by decide +kernel
theorem dX10_bear_16 : decode cX10_bear 16 = .ok (.i2l, 1) := by decide +kernel
theorem dX10_bear_17 : decode cX10_bear 17 = .ok (.lconst 0, 1) := by decide +kernel
theorem dX10_bear_18 : decode cX10_bear 18 = .ok (.lconst 1, 1) := by decide +kernel
theorem dX10_bear_19 : decode cX10_bear 19 = .ok (.invokestatic 45, 3) := by decide +kernel
theorem dX10_bear_22 : decode cX10_bear 22 = .ok (.ifCond .ne 6, 3) := by decide +kernel
theorem dX10_bear_25 : decode cX10_bear 25 = .ok (.bipush (-2), 2) := by decide +kernel
theorem dX10_bear_27 : decode cX10_bear 27 = .ok (.ireturn, 1) := by decide +kernel
theorem dX10_bear_28 : decode cX10_bear 28 = .ok (.aload_n 0, 1) := by decide +kernel
theorem dX10_bear_29 : decode cX10_bear 29 = .ok (.getfield 16, 3) := by decide +kernel
theorem dX10_bear_32 : decode cX10_bear 32 = .ok (.iconst 0, 1) := by decide +kernel
theorem dX10_bear_33 : decode cX10_bear 33 = .ok (.iaload, 1) := by decide +kernel
theorem dX10_bear_34 : decode cX10_bear 34 = .ok (.iload_n 1, 1) := by decide +kernel
theorem dX10_bear_35 : decode cX10_bear 35 = .ok (.invokestatic 82, 3) := by decide +kernel
theorem dX10_bear_38 : decode cX10_bear 38 = .ok (.ifCond .ne 6, 3) := by decide +kernel
theorem dX10_bear_41 : decode cX10_bear 41 = .ok (.bipush (-3), 2) := by decide +kernel
theorem dX10_bear_43 : decode cX10_bear 43 = .ok (.ireturn, 1) := by decide +kernel
theorem dX10_bear_44 : decode cX10_bear 44 = .ok (.aload_n 0, 1) := by decide +kernel
theorem dX10_bear_45 : decode cX10_bear 45 = .ok (.getfield 16, 3) := by decide +kernel
theorem dX10_bear_48 : decode cX10_bear 48 = .ok (.bipush 6, 2) := by decide +kernel
theorem dX10_bear_50 : decode cX10_bear 50 = .ok (.iaload, 1) := by decide +kernel
theorem dX10_bear_51 : decode cX10_bear 51 = .ok (.bipush 7, 2) := by decide +kernel
theorem dX10_bear_53 : decode cX10_bear 53 = .ok (.if_icmp .ne 6, 3) := by decide +kernel
theorem dX10_bear_56 : decode cX10_bear 56 = .ok (.bipush (-4), 2) := by decide +kernel
theorem dX10_bear_58 : decode cX10_bear 58 = .ok (.ireturn, 1) := by decide +kernel
theorem dX10_bear_59 : decode cX10_bear 59 = .ok (.aload_n 0, 1) := by decide +kernel
theorem dX10_bear_60 : decode cX10_bear 60 = .ok (.invokevirtual 112, 3) := by decide +kernel
theorem dX10_bear_63 : decode cX10_bear 63 = .ok (.aload_n 0, 1) := by decide +kernel
theorem dX10_bear_64 : decode cX10_bear 64 = .ok (.getfield 16, 3) := by decide +kernel
theorem dX10_bear_67 : decode cX10_bear 67 = .ok (.bipush 6, 2) := by decide +kernel
theorem dX10_bear_69 : decode cX10_bear 69 = .ok (.iaload, 1) := by decide +kernel
theorem dX10_bear_70 : decode cX10_bear 70 = .ok (.istore_n 3, 1) := by decide +kernel
theorem dX10_bear_71 : decode cX10_bear 71 = .ok (.aload_n 0, 1) := by decide +kernel
theorem dX10_bear_72 : decode cX10_bear 72 = .ok (.getfield 16, 3) := by decide +kernel
theorem dX10_bear_75 : decode cX10_bear 75 = .ok (.bipush 6, 2) := by decide +kernel
theorem dX10_bear_77 : decode cX10_bear 77 = .ok (.dup2, 1) := by decide +kernel
theorem dX10_bear_78 : decode cX10_bear 78 = .ok (.iaload, 1) := by decide +kernel
theorem dX10_bear_79 : decode cX10_bear 79 = .ok (.iconst 1, 1) := by decide +kernel
theorem dX10_bear_80 : decode cX10_bear 80 = .ok (.iadd, 1) := by decide +kernel
theorem dX10_bear_81 : decode cX10_bear 81 = .ok (.iastore, 1) := by decide +kernel
theorem dX10_bear_82 : decode cX10_bear 82 = .ok (.aload_n 0, 1) := by decide +kernel
theorem dX10_bear_83 : decode cX10_bear 83 = .ok (.getfield 16, 3) := by decide +kernel
theorem dX10_bear_86 : decode cX10_bear 86 = .ok (.bipush 7, 2) := by decide +kernel
theorem dX10_bear_88 : decode cX10_bear 88 = .ok (.iload_n 3, 1) := by decide +kernel
theorem dX10_bear_89 : decode cX10_bear 89 = .ok (.iadd, 1) := by decide +kernel
theorem dX10_bear_90 : decode cX10_bear 90 = .ok (.iload_n 1, 1) := by decide +kernel
theorem dX10_bear_91 : decode cX10_bear 91 = .ok (.iastore, 1) := by decide +kernel
theorem dX10_bear_92 : decode cX10_bear 92 = .ok (.aload_n 0, 1) := by decide +kernel
theorem dX10_bear_93 : decode cX10_bear 93 = .ok (.getfield 16, 3) := by decide +kernel
theorem dX10_bear_96 : decode cX10_bear 96 = .ok (.bipush 14, 2) := by decide +kernel
theorem dX10_bear_98 : decode cX10_bear 98 = .ok (.dup2, 1) := by decide +kernel
theorem dX10_bear_99 : decode cX10_bear 99 = .ok (.iaload, 1) := by decide +kernel
theorem dX10_bear_100 : decode cX10_bear 100 = .ok (.iload_n 2, 1) := by decide +kernel
theorem dX10_bear_101 : decode cX10_bear 101 = .ok (.iload_n 3, 1) := by decide +kernel
theorem dX10_bear_102 : decode cX10_bear 102 = .ok (.ishl, 1) := by decide +kernel
theorem dX10_bear_103 : decode cX10_bear 103 = .ok (.ior, 1) := by decide +kernel
theorem dX10_bear_104 : decode cX10_bear 104 = .ok (.iastore, 1) := by decide +kernel
theorem dX10_bear_105 : decode cX10_bear 105 = .ok (.aload_n 0, 1) := by decide +kernel
theorem dX10_bear_106 : decode cX10_bear 106 = .ok (.getfield 16, 3) := by decide +kernel
theorem dX10_bear_109 : decode cX10_bear 109 = .ok (.bipush 15, 2) := by decide +kernel
theorem dX10_bear_111 : decode cX10_bear 111 = .ok (.iload_n 3, 1) := by decide +kernel
theorem dX10_bear_112 : decode cX10_bear 112 = .ok (.iadd, 1) := by decide +kernel
theorem dX10_bear_113 : decode cX10_bear 113 = .ok (.iconst 0, 1) := by decide +kernel
theorem dX10_bear_114 : decode cX10_bear 114 = .ok (.iastore, 1) := by decide +kernel
theorem dX10_bear_115 : decode cX10_bear 115 = .ok (.aload_n 0, 1) := by decide +kernel
theorem dX10_bear_116 : decode cX10_bear 116 = .ok (.getfield 16, 3) := by decide +kernel
theorem dX10_bear_119 : decode cX10_bear 119 = .ok (.iconst 0, 1) := by decide +kernel
theorem dX10_bear_120 : decode cX10_bear 120 = .ok (.dup2, 1) := by decide +kernel
theorem dX10_bear_121 : decode cX10_bear 121 = .ok (.iaload, 1) := by decide +kernel
theorem dX10_bear_122 : decode cX10_bear 122 = .ok (.iconst 1, 1) := by decide +kernel
theorem dX10_bear_123 : decode cX10_bear 123 = .ok (.iload_n 3, 1) := by decide +kernel
theorem dX10_bear_124 : decode cX10_bear 124 = .ok (.ishl, 1) := by decide +kernel
theorem dX10_bear_125 : decode cX10_bear 125 = .ok (.ior, 1) := by decide +kernel
theorem dX10_bear_126 : decode cX10_bear 126 = .ok (.iastore, 1) := by decide +kernel
theorem dX10_bear_127 : decode cX10_bear 127 = .ok (.iload_n 3, 1) := by decide +kernel
theorem dX10_bear_128 : decode cX10_bear 128 = .ok (.ireturn, 1) := by decide +kernel
theorem dX10_cut_0 : decode cX10_cut 0 = .ok (.aload_n 0, 1) := by decide +kernel
theorem dX10_cut_1 : decode cX10_cut 1 = .ok (.iconst 0, 1) := by decide +kernel
theorem dX10_cut_2 : decode cX10_cut 2 = .ok (.putfield 41, 3) := by decide +kernel
theorem dX10_cut_5 : decode cX10_cut 5 = .ok (.iload_n 1, 1) := by decide +kernel
theorem dX10_cut_6 : decode cX10_cut 6 = .ok (.i2l, 1) := by decide +kernel
theorem dX10_cut_7 : decode cX10_cut 7 = .ok (.lconst 1, 1) := by decide +kernel
theorem dX10_cut_8 : decode cX10_cut 8 = .ok (.ldc2_w 119, 3) := by decide +kernel
theorem dX10_cut_11 : decode cX10_cut 11 = .ok (.invokestatic 45, 3) := by decide +kernel
theorem dX10_cut_14 : decode cX10_cut 14 = .ok (.ifCond .ne 6, 3) := by decide +kernel
theorem dX10_cut_17 : decode cX10_cut 17 = .ok (.bipush (-2), 2) := by decide +kernel
theorem dX10_cut_19 : decode cX10_cut 19 = .ok (.ireturn, 1) := by decide +kernel
theorem dX10_cut_20 : decode cX10_cut 20 = .ok (.aload_n 0, 1) := by decide +kernel
theorem dX10_cut_21 : decode cX10_cut 21 = .ok (.getfield 16, 3) := by decide +kernel
theorem dX10_cut_24 : decode cX10_cut 24 = .ok (.iconst 3, 1) := by decide +kernel
theorem dX10_cut_25 : decode cX10_cut 25 = .ok (.iaload, 1) := by decide +kernel
theorem dX10_cut_26 : decode cX10_cut 26 = .ok (.iload_n 1, 1) := by decide +kernel
theorem dX10_cut_27 : decode cX10_cut 27 = .ok (.if_icmp .lt 14, 3) := by decide +kernel
theorem dX10_cut_30 : decode cX10_cut 30 = .ok (.aload_n 0, 1) := by decide +kernel
theorem dX10_cut_31 : decode cX10_cut 31 = .ok (.getfield 16, 3) := by decide +kernel
theorem dX10_cut_34 : decode cX10_cut 34 = .ok (.iconst 1, 1) := by decide +kernel
theorem dX10_cut_35 : decode cX10_cut 35 = .ok (.iaload, 1) := by decide +kernel
theorem dX10_cut_36 : decode cX10_cut 36 = .ok (.bipush (-9), 2) := by decide +kernel
theorem dX10_cut_38 : decode cX10_cut 38 = .ok (.if_icmp .ne 6, 3) := by decide +kernel
theorem dX10_cut_41 : decode cX10_cut 41 = .ok (.bipush (-3), 2) := by decide +kernel
theorem dX10_cut_43 : decode cX10_cut 43 = .ok (.ireturn, 1) := by decide +kernel
theorem dX10_cut_44 : decode cX10_cut 44 = .ok (.aload_n 0, 1) := by decide +kernel
theorem dX10_cut_45 : decode cX10_cut 45 = .ok (.invokevirtual 112, 3) := by decide +kernel
theorem dX10_cut_48 : decode cX10_cut 48 = .ok (.aload_n 0, 1) := by decide +kernel
theorem dX10_cut_49 : decode cX10_cut 49 = .ok (.getfield 16, 3) := by decide +kernel
theorem dX10_cut_52 : decode cX10_cut 52 = .ok (.iconst 3, 1) := by decide +kernel
theorem dX10_cut_53 : decode cX10_cut 53 = .ok (.dup2, 1) := by decide +kernel
theorem dX10_cut_54 : decode cX10_cut 54 = .ok (.iaload, 1) := by decide +kernel
theorem dX10_cut_55 : decode cX10_cut 55 = .ok (.iload_n 1, 1) := by decide +kernel
theorem dX10_cut_56 : decode cX10_cut 56 = .ok (.isub, 1) := by decide +kernel
theorem dX10_cut_57 : decode cX10_cut 57 = .ok (.iastore, 1) := by decide +kernel
theorem dX10_cut_58 : decode cX10_cut 58 = .ok (.aload_n 0, 1) := by decide +kernel
theorem dX10_cut_59 : decode cX10_cut 59 = .ok (.getfield 16, 3) := by decide +kernel
theorem dX10_cut_62 : decode cX10_cut 62 = .ok (.iconst 3, 1) := by decide +kernel
theorem dX10_cut_63 : decode cX10_cut 63 = .ok (.iaload, 1) := by decide +kernel
theorem dX10_cut_64 : decode cX10_cut 64 = .ok (.ireturn, 1) := by decide +kernel
theorem dX10_borrow_0 : decode cX10_borrow 0 = .ok (.aload_n 0, 1) := by decide +kernel
theorem dX10_borrow_1 : decode cX10_borrow 1 = .ok (.iconst 0, 1) := by decide +kernel
theorem dX10_borrow_2 : decode cX10_borrow 2 = .ok (.putfield 41, 3) := by decide +kernel
theorem dX10_borrow_5 : decode cX10_borrow 5 = .ok (.iload_n 1, 1) := by decide +kernel
theorem dX10_borrow_6 : decode cX10_borrow 6 = .ok (.i2l, 1) := by decide +kernel
theorem dX10_borrow_7 : decode cX10_borrow 7 = .ok (.lconst 1, 1) := by decide +kernel
theorem dX10_borrow_8 : decode cX10_borrow 8 = .ok (.ldc2_w 119, 3) := by decide +kernel
theorem dX10_borrow_11 : decode cX10_borrow 11 = .ok (.invokestatic 45, 3) := by decide +kernel
theorem dX10_borrow_14 : decode cX10_borrow 14 = .ok (.ifCond .ne 6, 3) := by decide +kernel
theorem dX10_borrow_17 : decode cX10_borrow 17 = .ok (.bipush (-2), 2) := by decide +kernel
theorem dX10_borrow_19 : decode cX10_borrow 19 = .ok (.ireturn, 1) := by decide +kernel
theorem dX10_borrow_20 : decode cX10_borrow 20 = .ok (.aload_n 0, 1) := by decide +kernel
theorem dX10_borrow_21 : decode cX10_borrow 21 = .ok (.getfield 16, 3) := by decide +kernel
theorem dX10_borrow_24 : decode cX10_borrow 24 = .ok (.iconst 4, 1) := by decide +kernel
theorem dX10_borrow_25 : decode cX10_borrow 25 = .ok (.iaload, 1) := by decide +kernel
theorem dX10_borrow_26 : decode cX10_borrow 26 = .ok (.iload_n 1, 1) := by decide +kernel
theorem dX10_borrow_27 : decode cX10_borrow 27 = .ok (.iadd, 1) := by decide +kernel
theorem dX10_borrow_28 : decode cX10_borrow 28 = .ok (.bipush 9, 2) := by decide +kernel
theorem dX10_borrow_30 : decode cX10_borrow 30 = .ok (.if_icmp .gt 14, 3) := by decide +kernel
theorem dX10_borrow_33 : decode cX10_borrow 33 = .ok (.aload_n 0, 1) := by decide +kernel
theorem dX10_borrow_34 : decode cX10_borrow 34 = .ok (.getfield 16, 3) := by decide +kernel
theorem dX10_borrow_37 : decode cX10_borrow 37 = .ok (.iconst 1, 1) := by decide +kernel
theorem dX10_borrow_38 : decode cX10_borrow 38 = .ok (.iaload, 1) := by decide +kernel
theorem dX10_borrow_39 : decode cX10_borrow 39 = .ok (.bipush (-9), 2) := by decide +kernel
theorem dX10_borrow_41 : decode cX10_borrow 41 = .ok (.if_icmp .ne 6, 3) := by decide +kernel
theorem dX10_borrow_44 : decode cX10_borrow 44 = .ok (.bipush (-3), 2) := by decide +kernel
theorem dX10_borrow_46 : decode cX10_borrow 46 = .ok (.ireturn, 1) := by decide +kernel
theorem dX10_borrow_47 : decode cX10_borrow 47 = .ok (.aload_n 0, 1) := by decide +kernel
theorem dX10_borrow_48 : decode cX10_borrow 48 = .ok (.invokevirtual 112, 3) := by decide +kernel
theorem dX10_borrow_51 : decode cX10_borrow 51 = .ok (.aload_n 0, 1) := by decide +kernel
theorem dX10_borrow_52 : decode cX10_borrow 52 = .ok (.getfield 16, 3) := by decide +kernel
theorem dX10_borrow_55 : decode cX10_borrow 55 = .ok (.iconst 4, 1) := by decide +kernel
theorem dX10_borrow_56 : decode cX10_borrow 56 = .ok (.dup2, 1) := by decide +kernel
theorem dX10_borrow_57 : decode cX10_borrow 57 = .ok (.iaload, 1) := by decide +kernel
theorem dX10_borrow_58 : decode cX10_borrow 58 = .ok (.iload_n 1, 1) := by decide +kernel
theorem dX10_borrow_59 : decode cX10_borrow 59 = .ok (.iadd, 1) := by decide +kernel
theorem dX10_borrow_60 : decode cX10_borrow 60 = .ok (.iastore, 1) := by decide +kernel
theorem dX10_borrow_61 : decode cX10_borrow 61 = .ok (.aload_n 0, 1) := by decide +kernel
theorem dX10_borrow_62 : decode cX10_borrow 62 = .ok (.getfield 16, 3) := by decide +kernel
theorem dX10_borrow_65 : decode cX10_borrow 65 = .ok (.iconst 4, 1) := by decide +kernel
theorem dX10_borrow_66 : decode cX10_borrow 66 = .ok (.iaload, 1) := by decide +kernel
theorem dX10_borrow_67 : decode cX10_borrow 67 = .ok (.ireturn, 1) := by decide +kernel
theorem dX10_isOfAge_0 : decode cX10_isOfAge 0 = .ok (.aload_n 0, 1) := by decide +kernel
theorem dX10_isOfAge_1 : decode cX10_isOfAge 1 = .ok (.getfield 16, 3) := by decide +kernel
theorem dX10_isOfAge_4 : decode cX10_isOfAge 4 = .ok (.iconst 1, 1) := by decide +kernel
theorem dX10_isOfAge_5 : decode cX10_isOfAge 5 = .ok (.iaload, 1) := by decide +kernel
theorem dX10_isOfAge_6 : decode cX10_isOfAge 6 = .ok (.bipush (-9), 2) := by decide +kernel
theorem dX10_isOfAge_8 : decode cX10_isOfAge 8 = .ok (.if_icmp .ne 5, 3) := by decide +kernel
theorem dX10_isOfAge_11 : decode cX10_isOfAge 11 = .ok (.iconst 0, 1) := by decide +kernel
theorem dX10_isOfAge_12 : decode cX10_isOfAge 12 = .ok (.ireturn, 1) := by decide +kernel
theorem dX10_isOfAge_13 : decode cX10_isOfAge 13 = .ok (.aload_n 0, 1) := by decide +kernel
theorem dX10_isOfAge_14 : decode cX10_isOfAge 14 = .ok (.aload_n 0, 1) := by decide +kernel
theorem dX10_isOfAge_15 : decode cX10_isOfAge 15 = .ok (.getfield 16, 3) := by decide +kernel
theorem dX10_isOfAge_18 : decode cX10_isOfAge 18 = .ok (.aload_n 0, 1) := by decide +kernel
theorem dX10_isOfAge_19 : decode cX10_isOfAge 19 = .ok (.getfield 16, 3) := by decide +kernel
theorem dX10_isOfAge_22 : decode cX10_isOfAge 22 = .ok (.iconst 1, 1) := by decide +kernel
theorem dX10_isOfAge_23 : decode cX10_isOfAge 23 = .ok (.iaload, 1) := by decide +kernel
theorem dX10_isOfAge_24 : decode cX10_isOfAge 24 = .ok (.aload_n 0, 1) := by decide +kernel
theorem dX10_isOfAge_25 : decode cX10_isOfAge 25 = .ok (.getfield 16, 3) := by decide +kernel
theorem dX10_isOfAge_28 : decode cX10_isOfAge 28 = .ok (.iconst 2, 1) := by decide +kernel
theorem dX10_isOfAge_29 : decode cX10_isOfAge 29 = .ok (.iaload, 1) := by decide +kernel
theorem dX10_isOfAge_30 : decode cX10_isOfAge 30 = .ok (.invokevirtual 108, 3) := by decide +kernel
theorem dX10_isOfAge_33 : decode cX10_isOfAge 33 = .ok (.istore_n 1, 1) := by decide +kernel
theorem dX10_isOfAge_34 : decode cX10_isOfAge 34 = .ok (.iload_n 1, 1) := by decide +kernel
theorem dX10_isOfAge_35 : decode cX10_isOfAge 35 = .ok (.bipush (-9), 2) := by decide +kernel
theorem dX10_isOfAge_37 : decode cX10_isOfAge 37 = .ok (.if_icmp .eq 38, 3) := by decide +kernel
theorem dX10_isOfAge_40 : decode cX10_isOfAge 40 = .ok (.aload_n 0, 1) := by decide +kernel
theorem dX10_isOfAge_41 : decode cX10_isOfAge 41 = .ok (.getfield 16, 3) := by decide +kernel
theorem dX10_isOfAge_44 : decode cX10_isOfAge 44 = .ok (.bipush 7, 2) := by decide +kernel
theorem dX10_isOfAge_46 : decode cX10_isOfAge 46 = .ok (.iload_n 1, 1) := by decide +kernel
theorem dX10_isOfAge_47 : decode cX10_isOfAge 47 = .ok (.iadd, 1) := by decide +kernel
theorem dX10_isOfAge_48 : decode cX10_isOfAge 48 = .ok (.iaload, 1) := by decide +kernel
theorem dX10_isOfAge_49 : decode cX10_isOfAge 49 = .ok (.aload_n 0, 1) := by decide +kernel
theorem dX10_isOfAge_50 : decode cX10_isOfAge 50 = .ok (.getfield 16, 3) := by decide +kernel
theorem dX10_isOfAge_53 : decode cX10_isOfAge 53 = .ok (.iconst 1, 1) := by decide +kernel
theorem dX10_isOfAge_54 : decode cX10_isOfAge 54 = .ok (.iaload, 1) := by decide +kernel
theorem dX10_isOfAge_55 : decode cX10_isOfAge 55 = .ok (.if_icmp .ne 20, 3) := by decide +kernel
theorem dX10_isOfAge_58 : decode cX10_isOfAge 58 = .ok (.aload_n 0, 1) := by decide +kernel
theorem dX10_isOfAge_59 : decode cX10_isOfAge 59 = .ok (.getfield 16, 3) := by decide +kernel
theorem dX10_isOfAge_62 : decode cX10_isOfAge 62 = .ok (.bipush 15, 2) := by decide +kernel
theorem dX10_isOfAge_64 : decode cX10_isOfAge 64 = .ok (.iload_n 1, 1) := by decide +kernel
theorem dX10_isOfAge_65 : decode cX10_isOfAge 65 = .ok (.iadd, 1) := by decide +kernel
theorem dX10_isOfAge_66 : decode cX10_isOfAge 66 = .ok (.iaload, 1) := by decide +kernel
theorem dX10_isOfAge_67 : decode cX10_isOfAge 67 = .ok (.iconst 2, 1) := by decide +kernel
theorem dX10_isOfAge_68 : decode cX10_isOfAge 68 = .ok (.if_icmp .lt 7, 3) := by decide +kernel
theorem dX10_isOfAge_71 : decode cX10_isOfAge 71 = .ok (.iconst 1, 1) := by decide +kernel
theorem dX10_isOfAge_72 : decode cX10_isOfAge 72 = .ok (.goto 4, 3) := by decide +kernel
theorem dX10_isOfAge_75 : decode cX10_isOfAge 75 = .ok (.iconst 0, 1) := by decide +kernel
theorem dX10_isOfAge_76 : decode cX10_isOfAge 76 = .ok (.ireturn, 1) := by decide +kernel
theorem dX10_breakTie_0 : decode cX10_breakTie 0 = .ok (.aload_n 0, 1) := by decide +kernel
theorem dX10_breakTie_1 : decode cX10_breakTie 1 = .ok (.iconst 0, 1) := by decide +kernel
theorem dX10_breakTie_2 : decode cX10_breakTie 2 = .ok (.putfield 41, 3) := by decide +kernel
theorem dX10_breakTie_5 : decode cX10_breakTie 5 = .ok (.iload_n 1, 1) := by decide +kernel
theorem dX10_breakTie_6 : decode cX10_breakTie 6 = .ok (.invokestatic 121, 3) := by decide +kernel
theorem dX10_breakTie_9 : decode cX10_breakTie 9 = .ok (.ifCond .eq 6, 3) := by decide +kernel
theorem dX10_breakTie_12 : decode cX10_breakTie 12 = .ok (.bipush (-2), 2) := by decide +kernel
theorem dX10_breakTie_14 : decode cX10_breakTie 14 = .ok (.ireturn, 1) := by decide +kernel
theorem dX10_breakTie_15 : decode cX10_breakTie 15 = .ok (.aload_n 0, 1) := by decide +kernel
theorem dX10_breakTie_16 : decode cX10_breakTie 16 = .ok (.getfield 16, 3) := by decide +kernel
theorem dX10_breakTie_19 : decode cX10_breakTie 19 = .ok (.iconst 2, 1) := by decide +kernel
theorem dX10_breakTie_20 : decode cX10_breakTie 20 = .ok (.iaload, 1) := by decide +kernel
theorem dX10_breakTie_21 : decode cX10_breakTie 21 = .ok (.istore_n 2, 1) := by decide +kernel
theorem dX10_breakTie_22 : decode cX10_breakTie 22 = .ok (.iload_n 2, 1) := by decide +kernel
theorem dX10_breakTie_23 : decode cX10_breakTie 23 = .ok (.iload_n 1, 1) := by decide +kernel
theorem dX10_breakTie_24 : decode cX10_breakTie 24 = .ok (.if_icmp .eq 10, 3) := by decide +kernel
theorem dX10_breakTie_27 : decode cX10_breakTie 27 = .ok (.aload_n 0, 1) := by decide +kernel
theorem dX10_breakTie_28 : decode cX10_breakTie 28 = .ok (.invokevirtual 124, 3) := by decide +kernel
theorem dX10_breakTie_31 : decode cX10_breakTie 31 = .ok (.ifCond .ne 6, 3) := by decide +kernel
theorem dX10_breakTie_34 : decode cX10_breakTie 34 = .ok (.bipush (-3), 2) := by decide +kernel
theorem dX10_breakTie_36 : decode cX10_breakTie 36 = .ok (.ireturn, 1) := by decide +kernel
theorem dX10_breakTie_37 : decode cX10_breakTie 37 = .ok (.aload_n 0, 1) := by decide +kernel
theorem dX10_breakTie_38 : decode cX10_breakTie 38 = .ok (.invokevirtual 112, 3) := by decide +kernel
theorem dX10_breakTie_41 : decode cX10_breakTie 41 = .ok (.aload_n 0, 1) := by decide +kernel
theorem dX10_breakTie_42 : decode cX10_breakTie 42 = .ok (.getfield 16, 3) := by decide +kernel
theorem dX10_breakTie_45 : decode cX10_breakTie 45 = .ok (.iconst 2, 1) := by decide +kernel
theorem dX10_breakTie_46 : decode cX10_breakTie 46 = .ok (.iload_n 1, 1) := by decide +kernel
theorem dX10_breakTie_47 : decode cX10_breakTie 47 = .ok (.iastore, 1) := by decide +kernel
theorem dX10_breakTie_48 : decode cX10_breakTie 48 = .ok (.iload_n 2, 1) := by decide +kernel
theorem dX10_breakTie_49 : decode cX10_breakTie 49 = .ok (.ireturn, 1) := by decide +kernel
theorem dX10_tens_0 : decode cX10_tens 0 = .ok (.aload_n 0, 1) := by decide +kernel
theorem dX10_tens_1 : decode cX10_tens 1 = .ok (.iconst 0, 1) := by decide +kernel
theorem dX10_tens_2 : decode cX10_tens 2 = .ok (.putfield 41, 3) := by decide +kernel
theorem dX10_tens_5 : decode cX10_tens 5 = .ok (.aload_n 0, 1) := by decide +kernel
theorem dX10_tens_6 : decode cX10_tens 6 = .ok (.invokevirtual 112, 3) := by decide +kernel
theorem dX10_tens_9 : decode cX10_tens 9 = .ok (.iconst 0, 1) := by decide +kernel
theorem dX10_tens_10 : decode cX10_tens 10 = .ok (.istore_n 1, 1) := by decide +kernel
theorem dX10_tens_11 : decode cX10_tens 11 = .ok (.iload_n 1, 1) := by decide +kernel
theorem dX10_tens_12 : decode cX10_tens 12 = .ok (.aload_n 0, 1) := by decide +kernel
theorem dX10_tens_13 : decode cX10_tens 13 = .ok (.getfield 16, 3) := by decide +kernel
theorem dX10_tens_16 : decode cX10_tens 16 = .ok (.bipush 6, 2) := by decide +kernel
theorem dX10_tens_18 : decode cX10_tens 18 = .ok (.iaload, 1) := by decide +kernel
theorem dX10_tens_19 : decode cX10_tens 19 = .ok (.if_icmp .ge 22, 3) := by decide +kernel
theorem dX10_tens_22 : decode cX10_tens 22 = .ok (.aload_n 0, 1) := by decide +kernel
theorem dX10_tens_23 : decode cX10_tens 23 = .ok (.getfield 16, 3) := by decide +kernel
theorem dX10_tens_26 : decode cX10_tens 26 = .ok (.bipush 15, 2) := by decide +kernel
theorem dX10_tens_28 : decode cX10_tens 28 = .ok (.iload_n 1, 1) := by decide +kernel
theorem dX10_tens_29 : decode cX10_tens 29 = .ok (.iadd, 1) := by decide +kernel
theorem dX10_tens_30 : decode cX10_tens 30 = .ok (.dup2, 1) := by decide +kernel
theorem dX10_tens_31 : decode cX10_tens 31 = .ok (.iaload, 1) := by decide +kernel
theorem dX10_tens_32 : decode cX10_tens 32 = .ok (.iconst 1, 1) := by decide +kernel
theorem dX10_tens_33 : decode cX10_tens 33 = .ok (.iadd, 1) := by decide +kernel
theorem dX10_tens_34 : decode cX10_tens 34 = .ok (.iastore, 1) := by decide +kernel
theorem dX10_tens_35 : decode cX10_tens 35 = .ok (.iinc 1 1, 3) := by decide +kernel
theorem dX10_tens_38 : decode cX10_tens 38 = .ok (.goto (-27), 3) := by decide +kernel
theorem dX10_tens_41 : decode cX10_tens 41 = .ok (.aload_n 0, 1) := by decide +kernel
theorem dX10_tens_42 : decode cX10_tens 42 = .ok (.getfield 16, 3) := by decide +kernel
theorem dX10_tens_45 : decode cX10_tens 45 = .ok (.iconst 3, 1) := by decide +kernel
theorem dX10_tens_46 : decode cX10_tens 46 = .ok (.dup2, 1) := by decide +kernel
theorem dX10_tens_47 : decode cX10_tens 47 = .ok (.iaload, 1) := by decide +kernel
theorem dX10_tens_48 : decode cX10_tens 48 = .ok (.aload_n 0, 1) := by decide +kernel
theorem dX10_tens_49 : decode cX10_tens 49 = .ok (.getfield 16, 3) := by decide +kernel
theorem dX10_tens_52 : decode cX10_tens 52 = .ok (.iconst 3, 1) := by decide +kernel
theorem dX10_tens_53 : decode cX10_tens 53 = .ok (.iaload, 1) := by decide +kernel
theorem dX10_tens_54 : decode cX10_tens 54 = .ok (.bipush 9, 2) := by decide +kernel
theorem dX10_tens_56 : decode cX10_tens 56 = .ok (.if_icmp .ge 7, 3) := by decide +kernel
theorem dX10_tens_59 : decode cX10_tens 59 = .ok (.iconst 1, 1) := by decide +kernel
theorem dX10_tens_60 : decode cX10_tens 60 = .ok (.goto 4, 3) := by decide +kernel
theorem dX10_tens_63 : decode cX10_tens 63 = .ok (.iconst 0, 1) := by decide +kernel
theorem dX10_tens_64 : decode cX10_tens 64 = .ok (.iadd, 1) := by decide +kernel
theorem dX10_tens_65 : decode cX10_tens 65 = .ok (.iastore, 1) := by decide +kernel
theorem dX10_tens_66 : decode cX10_tens 66 = .ok (.aload_n 0, 1) := by decide +kernel
theorem dX10_tens_67 : decode cX10_tens 67 = .ok (.getfield 16, 3) := by decide +kernel
theorem dX10_tens_70 : decode cX10_tens 70 = .ok (.iconst 5, 1) := by decide +kernel
theorem dX10_tens_71 : decode cX10_tens 71 = .ok (.dup2, 1) := by decide +kernel
theorem dX10_tens_72 : decode cX10_tens 72 = .ok (.iaload, 1) := by decide +kernel
theorem dX10_tens_73 : decode cX10_tens 73 = .ok (.iconst 1, 1) := by decide +kernel
theorem dX10_tens_74 : decode cX10_tens 74 = .ok (.iadd, 1) := by decide +kernel
theorem dX10_tens_75 : decode cX10_tens 75 = .ok (.iastore, 1) := by decide +kernel
end
section
theorem dX10_tens_76 : decode cX10_tens 76 = .ok (.aload_n 0, 1) := by decide +kernel
theorem dX10_tens_77 : decode cX10_tens 77 = .ok (.getfield 16, 3) := by decide +kernel
theorem dX10_tens_80 : decode cX10_tens 80 = .ok (.iconst 5, 1) := by decide +kernel
theorem dX10_tens_81 : decode cX10_tens 81 = .ok (.iaload, 1) := by decide +kernel
theorem dX10_tens_82 : decode cX10_tens 82 = .ok (.ireturn, 1) := by decide +kernel
theorem dX10_undo_0 : decode cX10_undo 0 = .ok (.aload_n 0, 1) := by decide +kernel
theorem dX10_undo_1 : decode cX10_undo 1 = .ok (.iconst 0, 1) := by decide +kernel
theorem dX10_undo_2 : decode cX10_undo 2 = .ok (.putfield 41, 3) := by decide +kernel
theorem dX10_undo_5 : decode cX10_undo 5 = .ok (.aload_n 0, 1) := by decide +kernel
theorem dX10_undo_6 : decode cX10_undo 6 = .ok (.getfield 79, 3) := by decide +kernel
theorem dX10_undo_9 : decode cX10_undo 9 = .ok (.ifCond .ne 6, 3) := by decide +kernel
theorem dX10_undo_12 : decode cX10_undo 12 = .ok (.bipush (-3), 2) := by decide +kernel
theorem dX10_undo_14 : decode cX10_undo 14 = .ok (.ireturn, 1) := by decide +kernel
theorem dX10_undo_15 : decode cX10_undo 15 = .ok (.aload_n 0, 1) := by decide +kernel
theorem dX10_undo_16 : decode cX10_undo 16 = .ok (.dup, 1) := by decide +kernel
theorem dX10_undo_17 : decode cX10_undo 17 = .ok (.getfield 79, 3) := by decide +kernel
theorem dX10_undo_20 : decode cX10_undo 20 = .ok (.iconst 1, 1) := by decide +kernel
theorem dX10_undo_21 : decode cX10_undo 21 = .ok (.isub, 1) := by decide +kernel
theorem dX10_undo_22 : decode cX10_undo 22 = .ok (.putfield 79, 3) := by decide +kernel
theorem dX10_undo_25 : decode cX10_undo 25 = .ok (.iconst 0, 1) := by decide +kernel
theorem dX10_undo_26 : decode cX10_undo 26 = .ok (.istore_n 1, 1) := by decide +kernel
theorem dX10_undo_27 : decode cX10_undo 27 = .ok (.iload_n 1, 1) := by decide +kernel
theorem dX10_undo_28 : decode cX10_undo 28 = .ok (.bipush 22, 2) := by decide +kernel
theorem dX10_undo_30 : decode cX10_undo 30 = .ok (.if_icmp .ge 29, 3) := by decide +kernel
theorem dX10_undo_33 : decode cX10_undo 33 = .ok (.aload_n 0, 1) := by decide +kernel
theorem dX10_undo_34 : decode cX10_undo 34 = .ok (.getfield 16, 3) := by decide +kernel
theorem dX10_undo_37 : decode cX10_undo 37 = .ok (.iload_n 1, 1) := by decide +kernel
theorem dX10_undo_38 : decode cX10_undo 38 = .ok (.aload_n 0, 1) := by decide +kernel
theorem dX10_undo_39 : decode cX10_undo 39 = .ok (.getfield 22, 3) := by decide +kernel
theorem dX10_undo_42 : decode cX10_undo 42 = .ok (.bipush 22, 2) := by decide +kernel
theorem dX10_undo_44 : decode cX10_undo 44 = .ok (.aload_n 0, 1) := by decide +kernel
theorem dX10_undo_45 : decode cX10_undo 45 = .ok (.getfield 79, 3) := by decide +kernel
theorem dX10_undo_48 : decode cX10_undo 48 = .ok (.imul, 1) := by decide +kernel
theorem dX10_undo_49 : decode cX10_undo 49 = .ok (.iload_n 1, 1) := by decide +kernel
theorem dX10_undo_50 : decode cX10_undo 50 = .ok (.iadd, 1) := by decide +kernel
theorem dX10_undo_51 : decode cX10_undo 51 = .ok (.iaload, 1) := by decide +kernel
theorem dX10_undo_52 : decode cX10_undo 52 = .ok (.iastore, 1) := by decide +kernel
theorem dX10_undo_53 : decode cX10_undo 53 = .ok (.iinc 1 1, 3) := by decide +kernel
theorem dX10_undo_56 : decode cX10_undo 56 = .ok (.goto (-29), 3) := by decide +kernel
theorem dX10_undo_59 : decode cX10_undo 59 = .ok (.aload_n 0, 1) := by decide +kernel
theorem dX10_undo_60 : decode cX10_undo 60 = .ok (.getfield 79, 3) := by decide +kernel
theorem dX10_undo_63 : decode cX10_undo 63 = .ok (.ireturn, 1) := by decide +kernel
theorem dX10_begin_0 : decode cX10_begin 0 = .ok (.iconst 0, 1) := by decide +kernel
theorem dX10_begin_1 : decode cX10_begin 1 = .ok (.istore_n 1, 1) := by decide +kernel
theorem dX10_begin_2 : decode cX10_begin 2 = .ok (.iload_n 1, 1) := by decide +kernel
theorem dX10_begin_3 : decode cX10_begin 3 = .ok (.bipush 22, 2) := by decide +kernel
theorem dX10_begin_5 : decode cX10_begin 5 = .ok (.if_icmp .ge 21, 3) := by decide +kernel
theorem dX10_begin_8 : decode cX10_begin 8 = .ok (.aload_n 0, 1) := by decide +kernel
theorem dX10_begin_9 : decode cX10_begin 9 = .ok (.getfield 19, 3) := by decide +kernel
theorem dX10_begin_12 : decode cX10_begin 12 = .ok (.iload_n 1, 1) := by decide +kernel
theorem dX10_begin_13 : decode cX10_begin 13 = .ok (.aload_n 0, 1) := by decide +kernel
theorem dX10_begin_14 : decode cX10_begin 14 = .ok (.getfield 16, 3) := by decide +kernel
theorem dX10_begin_17 : decode cX10_begin 17 = .ok (.iload_n 1, 1) := by decide +kernel
theorem dX10_begin_18 : decode cX10_begin 18 = .ok (.iaload, 1) := by decide +kernel
theorem dX10_begin_19 : decode cX10_begin 19 = .ok (.iastore, 1) := by decide +kernel
theorem dX10_begin_20 : decode cX10_begin 20 = .ok (.iinc 1 1, 3) := by decide +kernel
theorem dX10_begin_23 : decode cX10_begin 23 = .ok (.goto (-21), 3) := by decide +kernel
theorem dX10_begin_26 : decode cX10_begin 26 = .ok (.return_, 1) := by decide +kernel
theorem dX10_heir_0 : decode cX10_heir 0 = .ok (.aload_n 0, 1) := by decide +kernel
theorem dX10_heir_1 : decode cX10_heir 1 = .ok (.iconst 0, 1) := by decide +kernel
theorem dX10_heir_2 : decode cX10_heir 2 = .ok (.putfield 41, 3) := by decide +kernel
theorem dX10_heir_5 : decode cX10_heir 5 = .ok (.aload_n 0, 1) := by decide +kernel
theorem dX10_heir_6 : decode cX10_heir 6 = .ok (.iload_n 1, 1) := by decide +kernel
theorem dX10_heir_7 : decode cX10_heir 7 = .ok (.invokevirtual 104, 3) := by decide +kernel
theorem dX10_heir_10 : decode cX10_heir 10 = .ok (.ifCond .eq 5, 3) := by decide +kernel
theorem dX10_heir_13 : decode cX10_heir 13 = .ok (.iconst (-1), 1) := by decide +kernel
theorem dX10_heir_14 : decode cX10_heir 14 = .ok (.ireturn, 1) := by decide +kernel
theorem dX10_heir_15 : decode cX10_heir 15 = .ok (.iload_n 2, 1) := by decide +kernel
theorem dX10_heir_16 : decode cX10_heir 16 = .ok (.invokestatic 121, 3) := by decide +kernel
theorem dX10_heir_19 : decode cX10_heir 19 = .ok (.ifCond .eq 8, 3) := by decide +kernel
theorem dX10_heir_22 : decode cX10_heir 22 = .ok (.bipush (-2), 2) := by decide +kernel
theorem dX10_heir_24 : decode cX10_heir 24 = .ok (.goto 13, 3) := by decide +kernel
theorem dX10_heir_27 : decode cX10_heir 27 = .ok (.aload_n 0, 1) := by decide +kernel
theorem dX10_heir_28 : decode cX10_heir 28 = .ok (.aload_n 0, 1) := by decide +kernel
theorem dX10_heir_29 : decode cX10_heir 29 = .ok (.getfield 16, 3) := by decide +kernel
theorem dX10_heir_32 : decode cX10_heir 32 = .ok (.iload_n 1, 1) := by decide +kernel
theorem dX10_heir_33 : decode cX10_heir 33 = .ok (.iload_n 2, 1) := by decide +kernel
theorem dX10_heir_34 : decode cX10_heir 34 = .ok (.invokevirtual 108, 3) := by decide +kernel
theorem dX10_heir_37 : decode cX10_heir 37 = .ok (.ireturn, 1) := by decide +kernel
theorem dX10_line_0 : decode cX10_line 0 = .ok (.aload_n 0, 1) := by decide +kernel
theorem dX10_line_1 : decode cX10_line 1 = .ok (.iconst 0, 1) := by decide +kernel
theorem dX10_line_2 : decode cX10_line 2 = .ok (.putfield 41, 3) := by decide +kernel
theorem dX10_line_5 : decode cX10_line 5 = .ok (.aload_n 0, 1) := by decide +kernel
theorem dX10_line_6 : decode cX10_line 6 = .ok (.iload_n 1, 1) := by decide +kernel
theorem dX10_line_7 : decode cX10_line 7 = .ok (.invokevirtual 104, 3) := by decide +kernel
theorem dX10_line_10 : decode cX10_line 10 = .ok (.ifCond .ne 11, 3) := by decide +kernel
theorem dX10_line_13 : decode cX10_line 13 = .ok (.aload_n 0, 1) := by decide +kernel
theorem dX10_line_14 : decode cX10_line 14 = .ok (.iload_n 2, 1) := by decide +kernel
theorem dX10_line_15 : decode cX10_line 15 = .ok (.invokevirtual 104, 3) := by decide +kernel
theorem dX10_line_18 : decode cX10_line 18 = .ok (.ifCond .eq 5, 3) := by decide +kernel
theorem dX10_line_21 : decode cX10_line 21 = .ok (.iconst (-1), 1) := by decide +kernel
theorem dX10_line_22 : decode cX10_line 22 = .ok (.ireturn, 1) := by decide +kernel
theorem dX10_line_23 : decode cX10_line 23 = .ok (.iload_n 3, 1) := by decide +kernel
theorem dX10_line_24 : decode cX10_line 24 = .ok (.invokestatic 121, 3) := by decide +kernel
theorem dX10_line_27 : decode cX10_line 27 = .ok (.ifCond .eq 6, 3) := by decide +kernel
theorem dX10_line_30 : decode cX10_line 30 = .ok (.bipush (-2), 2) := by decide +kernel
theorem dX10_line_32 : decode cX10_line 32 = .ok (.ireturn, 1) := by decide +kernel
theorem dX10_line_33 : decode cX10_line 33 = .ok (.aload_n 0, 1) := by decide +kernel
theorem dX10_line_34 : decode cX10_line 34 = .ok (.aload_n 0, 1) := by decide +kernel
theorem dX10_line_35 : decode cX10_line 35 = .ok (.getfield 16, 3) := by decide +kernel
theorem dX10_line_38 : decode cX10_line 38 = .ok (.iload_n 1, 1) := by decide +kernel
theorem dX10_line_39 : decode cX10_line 39 = .ok (.iload_n 3, 1) := by decide +kernel
theorem dX10_line_40 : decode cX10_line 40 = .ok (.invokevirtual 97, 3) := by decide +kernel
theorem dX10_line_43 : decode cX10_line 43 = .ok (.bipush (-9), 2) := by decide +kernel
theorem dX10_line_45 : decode cX10_line 45 = .ok (.istore 4, 2) := by decide +kernel
theorem dX10_line_47 : decode cX10_line 47 = .ok (.iconst 0, 1) := by decide +kernel
theorem dX10_line_48 : decode cX10_line 48 = .ok (.istore 5, 2) := by decide +kernel
theorem dX10_line_50 : decode cX10_line 50 = .ok (.iload 5, 2) := by decide +kernel
theorem dX10_line_52 : decode cX10_line 52 = .ok (.aload_n 0, 1) := by decide +kernel
theorem dX10_line_53 : decode cX10_line 53 = .ok (.getfield 86, 3) := by decide +kernel
theorem dX10_line_56 : decode cX10_line 56 = .ok (.if_icmp .ge 29, 3) := by decide +kernel
theorem dX10_line_59 : decode cX10_line 59 = .ok (.aload_n 0, 1) := by decide +kernel
theorem dX10_line_60 : decode cX10_line 60 = .ok (.getfield 32, 3) := by decide +kernel
theorem dX10_line_63 : decode cX10_line 63 = .ok (.iload 5, 2) := by decide +kernel
theorem dX10_line_65 : decode cX10_line 65 = .ok (.iaload, 1) := by decide +kernel
theorem dX10_line_66 : decode cX10_line 66 = .ok (.iload_n 2, 1) := by decide +kernel
theorem dX10_line_67 : decode cX10_line 67 = .ok (.if_icmp .ne 8, 3) := by decide +kernel
theorem dX10_line_70 : decode cX10_line 70 = .ok (.iload 5, 2) := by decide +kernel
theorem dX10_line_72 : decode cX10_line 72 = .ok (.goto 5, 3) := by decide +kernel
theorem dX10_line_75 : decode cX10_line 75 = .ok (.iload 4, 2) := by decide +kernel
theorem dX10_line_77 : decode cX10_line 77 = .ok (.istore 4, 2) := by decide +kernel
theorem dX10_line_79 : decode cX10_line 79 = .ok (.iinc 5 1, 3) := by decide +kernel
theorem dX10_line_82 : decode cX10_line 82 = .ok (.goto (-32), 3) := by decide +kernel
theorem dX10_line_85 : decode cX10_line 85 = .ok (.iload 4, 2) := by decide +kernel
theorem dX10_line_87 : decode cX10_line 87 = .ok (.ireturn, 1) := by decide +kernel
theorem dX10_next_0 : decode cX10_next 0 = .ok (.aload_n 0, 1) := by decide +kernel
theorem dX10_next_1 : decode cX10_next 1 = .ok (.iconst 0, 1) := by decide +kernel
theorem dX10_next_2 : decode cX10_next 2 = .ok (.putfield 41, 3) := by decide +kernel
theorem dX10_next_5 : decode cX10_next 5 = .ok (.iload_n 1, 1) := by decide +kernel
theorem dX10_next_6 : decode cX10_next 6 = .ok (.invokestatic 121, 3) := by decide +kernel
theorem dX10_next_9 : decode cX10_next 9 = .ok (.ifCond .eq 6, 3) := by decide +kernel
theorem dX10_next_12 : decode cX10_next 12 = .ok (.bipush (-2), 2) := by decide +kernel
theorem dX10_next_14 : decode cX10_next 14 = .ok (.ireturn, 1) := by decide +kernel
theorem dX10_next_15 : decode cX10_next 15 = .ok (.aload_n 0, 1) := by decide +kernel
theorem dX10_next_16 : decode cX10_next 16 = .ok (.invokevirtual 127, 3) := by decide +kernel
theorem dX10_next_19 : decode cX10_next 19 = .ok (.aload_n 0, 1) := by decide +kernel
theorem dX10_next_20 : decode cX10_next 20 = .ok (.getfield 19, 3) := by decide +kernel
theorem dX10_next_23 : decode cX10_next 23 = .ok (.iconst 2, 1) := by decide +kernel
theorem dX10_next_24 : decode cX10_next 24 = .ok (.iload_n 1, 1) := by decide +kernel
theorem dX10_next_25 : decode cX10_next 25 = .ok (.iastore, 1) := by decide +kernel
theorem dX10_next_26 : decode cX10_next 26 = .ok (.iconst 0, 1) := by decide +kernel
theorem dX10_next_27 : decode cX10_next 27 = .ok (.istore_n 2, 1) := by decide +kernel
theorem dX10_next_28 : decode cX10_next 28 = .ok (.aload_n 0, 1) := by decide +kernel
theorem dX10_next_29 : decode cX10_next 29 = .ok (.getfield 19, 3) := by decide +kernel
theorem dX10_next_32 : decode cX10_next 32 = .ok (.iconst 1, 1) := by decide +kernel
theorem dX10_next_33 : decode cX10_next 33 = .ok (.iaload, 1) := by decide +kernel
theorem dX10_next_34 : decode cX10_next 34 = .ok (.bipush (-9), 2) := by decide +kernel
theorem dX10_next_36 : decode cX10_next 36 = .ok (.if_icmp .eq 34, 3) := by decide +kernel
theorem dX10_next_39 : decode cX10_next 39 = .ok (.bipush 10, 2) := by decide +kernel
theorem dX10_next_41 : decode cX10_next 41 = .ok (.iload_n 2, 1) := by decide +kernel
theorem dX10_next_42 : decode cX10_next 42 = .ok (.imul, 1) := by decide +kernel
theorem dX10_next_43 : decode cX10_next 43 = .ok (.aload_n 0, 1) := by decide +kernel
theorem dX10_next_44 : decode cX10_next 44 = .ok (.getfield 19, 3) := by decide +kernel
theorem dX10_next_47 : decode cX10_next 47 = .ok (.iconst 1, 1) := by decide +kernel
theorem dX10_next_48 : decode cX10_next 48 = .ok (.iaload, 1) := by decide +kernel
theorem dX10_next_49 : decode cX10_next 49 = .ok (.iadd, 1) := by decide +kernel
theorem dX10_next_50 : decode cX10_next 50 = .ok (.iconst 1, 1) := by decide +kernel
theorem dX10_next_51 : decode cX10_next 51 = .ok (.iadd, 1) := by decide +kernel
theorem dX10_next_52 : decode cX10_next 52 = .ok (.istore_n 2, 1) := by decide +kernel
theorem dX10_next_53 : decode cX10_next 53 = .ok (.aload_n 0, 1) := by decide +kernel
theorem dX10_next_54 : decode cX10_next 54 = .ok (.aload_n 0, 1) := by decide +kernel
theorem dX10_next_55 : decode cX10_next 55 = .ok (.getfield 19, 3) := by decide +kernel
theorem dX10_next_58 : decode cX10_next 58 = .ok (.aload_n 0, 1) := by decide +kernel
theorem dX10_next_59 : decode cX10_next 59 = .ok (.getfield 19, 3) := by decide +kernel
theorem dX10_next_62 : decode cX10_next 62 = .ok (.iconst 1, 1) := by decide +kernel
theorem dX10_next_63 : decode cX10_next 63 = .ok (.iaload, 1) := by decide +kernel
theorem dX10_next_64 : decode cX10_next 64 = .ok (.invokevirtual 115, 3) := by decide +kernel
theorem dX10_next_67 : decode cX10_next 67 = .ok (.goto (-39), 3) := by decide +kernel
theorem dX10_next_70 : decode cX10_next 70 = .ok (.iload_n 2, 1) := by decide +kernel
theorem dX10_next_71 : decode cX10_next 71 = .ok (.ireturn, 1) := by decide +kernel
theorem dX10_ever_0 : decode cX10_ever 0 = .ok (.aload_n 0, 1) := by decide +kernel
theorem dX10_ever_1 : decode cX10_ever 1 = .ok (.iconst 0, 1) := by decide +kernel
theorem dX10_ever_2 : decode cX10_ever 2 = .ok (.putfield 41, 3) := by decide +kernel
theorem dX10_ever_5 : decode cX10_ever 5 = .ok (.iload_n 1, 1) := by decide +kernel
theorem dX10_ever_6 : decode cX10_ever 6 = .ok (.invokestatic 121, 3) := by decide +kernel
theorem dX10_ever_9 : decode cX10_ever 9 = .ok (.ifCond .eq 6, 3) := by decide +kernel
theorem dX10_ever_12 : decode cX10_ever 12 = .ok (.bipush (-2), 2) := by decide +kernel
theorem dX10_ever_14 : decode cX10_ever 14 = .ok (.ireturn, 1) := by decide +kernel
theorem dX10_ever_15 : decode cX10_ever 15 = .ok (.aload_n 0, 1) := by decide +kernel
theorem dX10_ever_16 : decode cX10_ever 16 = .ok (.getfield 16, 3) := by decide +kernel
theorem dX10_ever_19 : decode cX10_ever 19 = .ok (.iconst 1, 1) := by decide +kernel
theorem dX10_ever_20 : decode cX10_ever 20 = .ok (.iaload, 1) := by decide +kernel
theorem dX10_ever_21 : decode cX10_ever 21 = .ok (.istore_n 2, 1) := by decide +kernel
theorem dX10_ever_22 : decode cX10_ever 22 = .ok (.iload_n 2, 1) := by decide +kernel
theorem dX10_ever_23 : decode cX10_ever 23 = .ok (.bipush (-9), 2) := by decide +kernel
theorem dX10_ever_25 : decode cX10_ever 25 = .ok (.if_icmp .ne 5, 3) := by decide +kernel
theorem dX10_ever_28 : decode cX10_ever 28 = .ok (.iconst 0, 1) := by decide +kernel
theorem dX10_ever_29 : decode cX10_ever 29 = .ok (.ireturn, 1) := by decide +kernel
theorem dX10_ever_30 : decode cX10_ever 30 = .ok (.iconst 1, 1) := by decide +kernel
theorem dX10_ever_31 : decode cX10_ever 31 = .ok (.iload_n 2, 1) := by decide +kernel
theorem dX10_ever_32 : decode cX10_ever 32 = .ok (.ishl, 1) := by decide +kernel
theorem dX10_ever_33 : decode cX10_ever 33 = .ok (.istore_n 3, 1) := by decide +kernel
theorem dX10_ever_34 : decode cX10_ever 34 = .ok (.aload_n 0, 1) := by decide +kernel
theorem dX10_ever_35 : decode cX10_ever 35 = .ok (.invokevirtual 127, 3) := by decide +kernel
theorem dX10_ever_38 : decode cX10_ever 38 = .ok (.aload_n 0, 1) := by decide +kernel
theorem dX10_ever_39 : decode cX10_ever 39 = .ok (.getfield 19, 3) := by decide +kernel
theorem dX10_ever_42 : decode cX10_ever 42 = .ok (.iconst 0, 1) := by decide +kernel
theorem dX10_ever_43 : decode cX10_ever 43 = .ok (.dup2, 1) := by decide +kernel
theorem dX10_ever_44 : decode cX10_ever 44 = .ok (.iaload, 1) := by decide +kernel
theorem dX10_ever_45 : decode cX10_ever 45 = .ok (.iconst 1, 1) := by decide +kernel
theorem dX10_ever_46 : decode cX10_ever 46 = .ok (.iload_n 2, 1) := by decide +kernel
theorem dX10_ever_47 : decode cX10_ever 47 = .ok (.ishl, 1) := by decide +kernel
theorem dX10_ever_48 : decode cX10_ever 48 = .ok (.iconst (-1), 1) := by decide +kernel
theorem dX10_ever_49 : decode cX10_ever 49 = .ok (.ixor, 1) := by decide +kernel
theorem dX10_ever_50 : decode cX10_ever 50 = .ok (.iand, 1) := by decide +kernel
theorem dX10_ever_51 : decode cX10_ever 51 = .ok (.iastore, 1) := by decide +kernel
theorem dX10_ever_52 : decode cX10_ever 52 = .ok (.aload_n 0, 1) := by decide +kernel
theorem dX10_ever_53 : decode cX10_ever 53 = .ok (.aload_n 0, 1) := by decide +kernel
theorem dX10_ever_54 : decode cX10_ever 54 = .ok (.getfield 19, 3) := by decide +kernel
theorem dX10_ever_57 : decode cX10_ever 57 = .ok (.iload_n 2, 1) := by decide +kernel
theorem dX10_ever_58 : decode cX10_ever 58 = .ok (.iload_n 1, 1) := by decide +kernel
theorem dX10_ever_59 : decode cX10_ever 59 = .ok (.invokevirtual 108, 3) := by decide +kernel
theorem dX10_ever_62 : decode cX10_ever 62 = .ok (.istore 4, 2) := by decide +kernel
theorem dX10_ever_64 : decode cX10_ever 64 = .ok (.iload 4, 2) := by decide +kernel
theorem dX10_ever_66 : decode cX10_ever 66 = .ok (.bipush (-9), 2) := by decide +kernel
theorem dX10_ever_68 : decode cX10_ever 68 = .ok (.if_icmp .eq 40, 3) := by decide +kernel
theorem dX10_ever_71 : decode cX10_ever 71 = .ok (.iload_n 3, 1) := by decide +kernel
theorem dX10_ever_72 : decode cX10_ever 72 = .ok (.iconst 1, 1) := by decide +kernel
theorem dX10_ever_73 : decode cX10_ever 73 = .ok (.iload 4, 2) := by decide +kernel
theorem dX10_ever_75 : decode cX10_ever 75 = .ok (.ishl, 1) := by decide +kernel
theorem dX10_ever_76 : decode cX10_ever 76 = .ok (.ior, 1) := by decide +kernel
theorem dX10_ever_77 : decode cX10_ever 77 = .ok (.istore_n 3, 1) := by decide +kernel
theorem dX10_ever_78 : decode cX10_ever 78 = .ok (.aload_n 0, 1) := by decide +kernel
theorem dX10_ever_79 : decode cX10_ever 79 = .ok (.getfield 19, 3) := by decide +kernel
theorem dX10_ever_82 : decode cX10_ever 82 = .ok (.iconst 0, 1) := by decide +kernel
theorem dX10_ever_83 : decode cX10_ever 83 = .ok (.dup2, 1) := by decide +kernel
theorem dX10_ever_84 : decode cX10_ever 84 = .ok (.iaload, 1) := by decide +kernel
theorem dX10_ever_85 : decode cX10_ever 85 = .ok (.iconst 1, 1) := by decide +kernel
theorem dX10_ever_86 : decode cX10_ever 86 = .ok (.iload 4, 2) := by decide +kernel
theorem dX10_ever_88 : decode cX10_ever 88 = .ok (.ishl, 1) := by decide +kernel
theorem dX10_ever_89 : decode cX10_ever 89 = .ok (.iconst (-1), 1) := by decide +kernel
theorem dX10_ever_90 : decode cX10_ever 90 = .ok (.ixor, 1) := by decide +kernel
theorem dX10_ever_91 : decode cX10_ever 91 = .ok (.iand, 1) := by decide +kernel
theorem dX10_ever_92 : decode cX10_ever 92 = .ok (.iastore, 1) := by decide +kernel
theorem dX10_ever_93 : decode cX10_ever 93 = .ok (.aload_n 0, 1) := by decide +kernel
theorem dX10_ever_94 : decode cX10_ever 94 = .ok (.aload_n 0, 1) := by decide +kernel
theorem dX10_ever_95 : decode cX10_ever 95 = .ok (.getfield 19, 3) := by decide +kernel
theorem dX10_ever_98 : decode cX10_ever 98 = .ok (.iload_n 2, 1) := by decide +kernel
theorem dX10_ever_99 : decode cX10_ever 99 = .ok (.iload_n 1, 1) := by decide +kernel
theorem dX10_ever_100 : decode cX10_ever 100 = .ok (.invokevirtual 108, 3) := by decide +kernel
theorem dX10_ever_103 : decode cX10_ever 103 = .ok (.istore 4, 2) := by decide +kernel
theorem dX10_ever_105 : decode cX10_ever 105 = .ok (.goto (-41), 3) := by decide +kernel
theorem dX10_ever_108 : decode cX10_ever 108 = .ok (.iload_n 3, 1) := by decide +kernel
theorem dX10_ever_109 : decode cX10_ever 109 = .ok (.ireturn, 1) := by decide +kernel
theorem dX10_power_0 : decode cX10_power 0 = .ok (.iconst 1, 1) := by decide +kernel
theorem dX10_power_1 : decode cX10_power 1 = .ok (.istore_n 2, 1) := by decide +kernel
theorem dX10_power_2 : decode cX10_power 2 = .ok (.iconst 0, 1) := by decide +kernel
theorem dX10_power_3 : decode cX10_power 3 = .ok (.istore_n 3, 1) := by decide +kernel
theorem dX10_power_4 : decode cX10_power 4 = .ok (.iload_n 3, 1) := by decide +kernel
theorem dX10_power_5 : decode cX10_power 5 = .ok (.iload_n 1, 1) := by decide +kernel
theorem dX10_power_6 : decode cX10_power 6 = .ok (.if_icmp .ge 13, 3) := by decide +kernel
theorem dX10_power_9 : decode cX10_power 9 = .ok (.iload_n 2, 1) := by decide +kernel
theorem dX10_power_10 : decode cX10_power 10 = .ok (.iload_n 0, 1) := by decide +kernel
theorem dX10_power_11 : decode cX10_power 11 = .ok (.imul, 1) := by decide +kernel
theorem dX10_power_12 : decode cX10_power 12 = .ok (.istore_n 2, 1) := by decide +kernel
theorem dX10_power_13 : decode cX10_power 13 = .ok (.iinc 3 1, 3) := by decide +kernel
theorem dX10_power_16 : decode cX10_power 16 = .ok (.goto (-12), 3) := by decide +kernel
theorem dX10_power_19 : decode cX10_power 19 = .ok (.iload_n 2, 1) := by decide +kernel
theorem dX10_power_20 : decode cX10_power 20 = .ok (.ireturn, 1) := by decide +kernel
theorem dX10_findBest_0 : decode cX10_findBest 0 = .ok (.aload_n 0, 1) := by decide +kernel
theorem dX10_findBest_1 : decode cX10_findBest 1 = .ok (.bipush (-9), 2) := by decide +kernel
theorem dX10_findBest_3 : decode cX10_findBest 3 = .ok (.putfield 130, 3) := by decide +kernel
theorem dX10_findBest_6 : decode cX10_findBest 6 = .ok (.aload_n 0, 1) := by decide +kernel
theorem dX10_findBest_7 : decode cX10_findBest 7 = .ok (.iconst 0, 1) := by decide +kernel
theorem dX10_findBest_8 : decode cX10_findBest 8 = .ok (.putfield 133, 3) := by decide +kernel
theorem dX10_findBest_11 : decode cX10_findBest 11 = .ok (.iconst 0, 1) := by decide +kernel
theorem dX10_findBest_12 : decode cX10_findBest 12 = .ok (.istore_n 3, 1) := by decide +kernel
theorem dX10_findBest_13 : decode cX10_findBest 13 = .ok (.iload_n 3, 1) := by decide +kernel
theorem dX10_findBest_14 : decode cX10_findBest 14 = .ok (.iconst 4, 1) := by decide +kernel
theorem dX10_findBest_15 : decode cX10_findBest 15 = .ok (.iload_n 1, 1) := by decide +kernel
theorem dX10_findBest_16 : decode cX10_findBest 16 = .ok (.invokestatic 136, 3) := by decide +kernel
theorem dX10_findBest_19 : decode cX10_findBest 19 = .ok (.if_icmp .ge 158, 3) := by decide +kernel
theorem dX10_findBest_22 : decode cX10_findBest 22 = .ok (.aload_n 0, 1) := by decide +kernel
theorem dX10_findBest_23 : decode cX10_findBest 23 = .ok (.getfield 16, 3) := by decide +kernel
theorem dX10_findBest_26 : decode cX10_findBest 26 = .ok (.iconst 3, 1) := by decide +kernel
theorem dX10_findBest_27 : decode cX10_findBest 27 = .ok (.iaload, 1) := by decide +kernel
theorem dX10_findBest_28 : decode cX10_findBest 28 = .ok (.istore 4, 2) := by decide +kernel
theorem dX10_findBest_30 : decode cX10_findBest 30 = .ok (.iconst 0, 1) := by decide +kernel
theorem dX10_findBest_31 : decode cX10_findBest 31 = .ok (.istore 5, 2) := by decide +kernel
theorem dX10_findBest_33 : decode cX10_findBest 33 = .ok (.iconst 1, 1) := by decide +kernel
theorem dX10_findBest_34 : decode cX10_findBest 34 = .ok (.istore 6, 2) := by decide +kernel
theorem dX10_findBest_36 : decode cX10_findBest 36 = .ok (.iconst 1, 1) := by decide +kernel
theorem dX10_findBest_37 : decode cX10_findBest 37 = .ok (.istore 7, 2) := by decide +kernel
theorem dX10_findBest_39 : decode cX10_findBest 39 = .ok (.iload_n 1, 1) := by decide +kernel
theorem dX10_findBest_40 : decode cX10_findBest 40 = .ok (.iconst 1, 1) := by decide +kernel
theorem dX10_findBest_41 : decode cX10_findBest 41 = .ok (.isub, 1) := by decide +kernel
theorem dX10_findBest_42 : decode cX10_findBest 42 = .ok (.istore 8, 2) := by decide +kernel
theorem dX10_findBest_44 : decode cX10_findBest 44 = .ok (.iload 8, 2) := by decide +kernel
theorem dX10_findBest_46 : decode cX10_findBest 46 = .ok (.ifCond .lt 82, 3) := by decide +kernel
theorem dX10_findBest_49 : decode cX10_findBest 49 = .ok (.iload 7, 2) := by decide +kernel
theorem dX10_findBest_51 : decode cX10_findBest 51 = .ok (.ifCond .eq 77, 3) := by decide +kernel
theorem dX10_findBest_54 : decode cX10_findBest 54 = .ok (.iload_n 3, 1) := by decide +kernel
theorem dX10_findBest_55 : decode cX10_findBest 55 = .ok (.iconst 4, 1) := by decide +kernel
theorem dX10_findBest_56 : decode cX10_findBest 56 = .ok (.iload 8, 2) := by decide +kernel
theorem dX10_findBest_58 : decode cX10_findBest 58 = .ok (.invokestatic 136, 3) := by decide +kernel
theorem dX10_findBest_61 : decode cX10_findBest 61 = .ok (.idiv, 1) := by decide +kernel
theorem dX10_findBest_62 : decode cX10_findBest 62 = .ok (.iconst 4, 1) := by decide +kernel
theorem dX10_findBest_63 : decode cX10_findBest 63 = .ok (.irem, 1) := by decide +kernel
theorem dX10_findBest_64 : decode cX10_findBest 64 = .ok (.istore 9, 2) := by decide +kernel
theorem dX10_findBest_66 : decode cX10_findBest 66 = .ok (.iload 9, 2) := by decide +kernel
theorem dX10_findBest_68 : decode cX10_findBest 68 = .ok (.iload 4, 2) := by decide +kernel
theorem dX10_findBest_70 : decode cX10_findBest 70 = .ok (.if_icmp .gt 7, 3) := by decide +kernel
theorem dX10_findBest_73 : decode cX10_findBest 73 = .ok (.iconst 1, 1) := by decide +kernel
theorem dX10_findBest_74 : decode cX10_findBest 74 = .ok (.goto 4, 3) := by decide +kernel
theorem dX10_findBest_77 : decode cX10_findBest 77 = .ok (.iconst 0, 1) := by decide +kernel
theorem dX10_findBest_78 : decode cX10_findBest 78 = .ok (.istore 7, 2) := by decide +kernel
theorem dX10_findBest_80 : decode cX10_findBest 80 = .ok (.iload 4, 2) := by decide +kernel
theorem dX10_findBest_82 : decode cX10_findBest 82 = .ok (.iload 9, 2) := by decide +kernel
theorem dX10_findBest_84 : decode cX10_findBest 84 = .ok (.ifCond .ne 14, 3) := by decide +kernel
theorem dX10_findBest_87 : decode cX10_findBest 87 = .ok (.iload 4, 2) := by decide +kernel
theorem dX10_findBest_89 : decode cX10_findBest 89 = .ok (.bipush 9, 2) := by decide +kernel
theorem dX10_findBest_91 : decode cX10_findBest 91 = .ok (.if_icmp .ne 7, 3) := by decide +kernel
theorem dX10_findBest_94 : decode cX10_findBest 94 = .ok (.iconst 0, 1) := by decide +kernel
theorem dX10_findBest_95 : decode cX10_findBest 95 = .ok (.goto 7, 3) := by decide +kernel
theorem dX10_findBest_98 : decode cX10_findBest 98 = .ok (.iconst 1, 1) := by decide +kernel
theorem dX10_findBest_99 : decode cX10_findBest 99 = .ok (.iload 9, 2) := by decide +kernel
theorem dX10_findBest_101 : decode cX10_findBest 101 = .ok (.isub, 1) := by decide +kernel
theorem dX10_findBest_102 : decode cX10_findBest 102 = .ok (.iadd, 1) := by decide +kernel
theorem dX10_findBest_103 : decode cX10_findBest 103 = .ok (.istore 4, 2) := by decide +kernel
theorem dX10_findBest_105 : decode cX10_findBest 105 = .ok (.iload 5, 2) := by decide +kernel
theorem dX10_findBest_107 : decode cX10_findBest 107 = .ok (.iload 9, 2) := by decide +kernel
theorem dX10_findBest_109 : decode cX10_findBest 109 = .ok (.iadd, 1) := by decide +kernel
theorem dX10_findBest_110 : decode cX10_findBest 110 = .ok (.istore 5, 2) := by decide +kernel
theorem dX10_findBest_112 : decode cX10_findBest 112 = .ok (.bipush 10, 2) := by decide +kernel
theorem dX10_findBest_114 : decode cX10_findBest 114 = .ok (.iload 6, 2) := by decide +kernel
theorem dX10_findBest_116 : decode cX10_findBest 116 = .ok (.imul, 1) := by decide +kernel
theorem dX10_findBest_117 : decode cX10_findBest 117 = .ok (.iload 9, 2) := by decide +kernel
theorem dX10_findBest_119 : decode cX10_findBest 119 = .ok (.iadd, 1) := by decide +kernel
theorem dX10_findBest_120 : decode cX10_findBest 120 = .ok (.istore 6, 2) := by decide +kernel
theorem dX10_findBest_122 : decode cX10_findBest 122 = .ok (.iinc 8 (-1), 3) := by decide +kernel
theorem dX10_findBest_125 : decode cX10_findBest 125 = .ok (.goto (-81), 3) := by decide +kernel
theorem dX10_findBest_128 : decode cX10_findBest 128 = .ok (.iload 5, 2) := by decide +kernel
theorem dX10_findBest_130 : decode cX10_findBest 130 = .ok (.iload_n 2, 1) := by decide +kernel
theorem dX10_findBest_131 : decode cX10_findBest 131 = .ok (.ifCond .eq 10, 3) := by decide +kernel
theorem dX10_findBest_134 : decode cX10_findBest 134 = .ok (.iconst 2, 1) := by decide +kernel
theorem dX10_findBest_135 : decode cX10_findBest 135 = .ok (.iload 4, 2) := by decide +kernel
theorem dX10_findBest_137 : decode cX10_findBest 137 = .ok (.imul, 1) := by decide +kernel
theorem dX10_findBest_138 : decode cX10_findBest 138 = .ok (.goto 4, 3) := by decide +kernel
theorem dX10_findBest_141 : decode cX10_findBest 141 = .ok (.iconst 0, 1) := by decide +kernel
theorem dX10_findBest_142 : decode cX10_findBest 142 = .ok (.iadd, 1) := by decide +kernel
theorem dX10_findBest_143 : decode cX10_findBest 143 = .ok (.istore 8, 2) := by decide +kernel
theorem dX10_findBest_145 : decode cX10_findBest 145 = .ok (.iload 7, 2) := by decide +kernel
theorem dX10_findBest_147 : decode cX10_findBest 147 = .ok (.ifCond .eq 24, 3) := by decide +kernel
theorem dX10_findBest_150 : decode cX10_findBest 150 = .ok (.iload 8, 2) := by decide +kernel
theorem dX10_findBest_152 : decode cX10_findBest 152 = .ok (.aload_n 0, 1) := by decide +kernel
theorem dX10_findBest_153 : decode cX10_findBest 153 = .ok (.getfield 130, 3) := by decide +kernel
theorem dX10_findBest_156 : decode cX10_findBest 156 = .ok (.if_icmp .le 15, 3) := by decide +kernel
theorem dX10_findBest_159 : decode cX10_findBest 159 = .ok (.aload_n 0, 1) := by decide +kernel
theorem dX10_findBest_160 : decode cX10_findBest 160 = .ok (.iload 8, 2) := by decide +kernel
theorem dX10_findBest_162 : decode cX10_findBest 162 = .ok (.putfield 130, 3) := by decide +kernel
theorem dX10_findBest_165 : decode cX10_findBest 165 = .ok (.aload_n 0, 1) := by decide +kernel
theorem dX10_findBest_166 : decode cX10_findBest 166 = .ok (.iload 6, 2) := by decide +kernel
theorem dX10_findBest_168 : decode cX10_findBest 168 = .ok (.putfield 133, 3) := by decide +kernel
theorem dX10_findBest_171 : decode cX10_findBest 171 = .ok (.iinc 3 1, 3) := by decide +kernel
theorem dX10_findBest_174 : decode cX10_findBest 174 = .ok (.goto (-161), 3) := by decide +kernel
theorem dX10_findBest_177 : decode cX10_findBest 177 = .ok (.return_, 1) := by decide +kernel
theorem dX10_best_0 : decode cX10_best 0 = .ok (.aload_n 0, 1) := by decide +kernel
theorem dX10_best_1 : decode cX10_best 1 = .ok (.iconst 0, 1) := by decide +kernel
theorem dX10_best_2 : decode cX10_best 2 = .ok (.putfield 41, 3) := by decide +kernel
theorem dX10_best_5 : decode cX10_best 5 = .ok (.iload_n 1, 1) := by decide +kernel
theorem dX10_best_6 : decode cX10_best 6 = .ok (.i2l, 1) := by decide +kernel
theorem dX10_best_7 : decode cX10_best 7 = .ok (.lconst 1, 1) := by decide +kernel
theorem dX10_best_8 : decode cX10_best 8 = .ok (.ldc2_w 139, 3) := by decide +kernel
theorem dX10_best_11 : decode cX10_best 11 = .ok (.invokestatic 45, 3) := by decide +kernel
theorem dX10_best_14 : decode cX10_best 14 = .ok (.ifCond .ne 6, 3) := by decide +kernel
theorem dX10_best_17 : decode cX10_best 17 = .ok (.bipush (-2), 2) := by decide +kernel
theorem dX10_best_19 : decode cX10_best 19 = .ok (.ireturn, 1) := by decide +kernel
theorem dX10_best_20 : decode cX10_best 20 = .ok (.aload_n 0, 1) := by decide +kernel
theorem dX10_best_21 : decode cX10_best 21 = .ok (.getfield 16, 3) := by decide +kernel
theorem dX10_best_24 : decode cX10_best 24 = .ok (.iconst 1, 1) := by decide +kernel
theorem dX10_best_25 : decode cX10_best 25 = .ok (.iaload, 1) := by decide +kernel
theorem dX10_best_26 : decode cX10_best 26 = .ok (.bipush (-9), 2) := by decide +kernel
theorem dX10_best_28 : decode cX10_best 28 = .ok (.if_icmp .ne 6, 3) := by decide +kernel
theorem dX10_best_31 : decode cX10_best 31 = .ok (.bipush (-3), 2) := by decide +kernel
theorem dX10_best_33 : decode cX10_best 33 = .ok (.ireturn, 1) := by decide +kernel
theorem dX10_best_34 : decode cX10_best 34 = .ok (.aload_n 0, 1) := by decide +kernel
theorem dX10_best_35 : decode cX10_best 35 = .ok (.iload_n 1, 1) := by decide +kernel
theorem dX10_best_36 : decode cX10_best 36 = .ok (.iload_n 2, 1) := by decide +kernel
theorem dX10_best_37 : decode cX10_best 37 = .ok (.invokevirtual 141, 3) := by decide +kernel
theorem dX10_best_40 : decode cX10_best 40 = .ok (.iload_n 3, 1) := by decide +kernel
theorem dX10_best_41 : decode cX10_best 41 = .ok (.ifCond .eq 10, 3) := by decide +kernel
theorem dX10_best_44 : decode cX10_best 44 = .ok (.aload_n 0, 1) := by decide +kernel
theorem dX10_best_45 : decode cX10_best 45 = .ok (.getfield 133, 3) := by decide +kernel
theorem dX10_best_48 : decode cX10_best 48 = .ok (.goto 7, 3) := by decide +kernel
theorem dX10_best_51 : decode cX10_best 51 = .ok (.aload_n 0, 1) := by decide +kernel
theorem dX10_best_52 : decode cX10_best 52 = .ok (.getfield 130, 3) := by decide +kernel
theorem dX10_best_55 : decode cX10_best 55 = .ok (.ireturn, 1) := by decide +kernel
theorem dX10_noDeaths_0 : decode cX10_noDeaths 0 = .ok (.iload_n 1, 1) := by decide +kernel
theorem dX10_noDeaths_1 : decode cX10_noDeaths 1 = .ok (.i2l, 1) := by decide +kernel
theorem dX10_noDeaths_2 : decode cX10_noDeaths 2 = .ok (.lconst 1, 1) := by decide +kernel
theorem dX10_noDeaths_3 : decode cX10_noDeaths 3 = .ok (.ldc2_w 139, 3) := by decide +kernel
theorem dX10_noDeaths_6 : decode cX10_noDeaths 6 = .ok (.invokestatic 45, 3) := by decide +kernel
theorem dX10_noDeaths_9 : decode cX10_noDeaths 9 = .ok (.ifCond .eq 21, 3) := by decide +kernel
theorem dX10_noDeaths_12 : decode cX10_noDeaths 12 = .ok (.iload_n 2, 1) := by decide +kernel
theorem dX10_noDeaths_13 : decode cX10_noDeaths 13 = .ok (.i2l, 1) := by decide +kernel
theorem dX10_noDeaths_14 : decode cX10_noDeaths 14 = .ok (.lconst 0, 1) := by decide +kernel
theorem dX10_noDeaths_15 : decode cX10_noDeaths 15 = .ok (.bipush 10, 2) := by decide +kernel
theorem dX10_noDeaths_17 : decode cX10_noDeaths 17 = .ok (.iload_n 1, 1) := by decide +kernel
theorem dX10_noDeaths_18 : decode cX10_noDeaths 18 = .ok (.invokestatic 136, 3) := by decide +kernel
theorem dX10_noDeaths_21 : decode cX10_noDeaths 21 = .ok (.iconst 1, 1) := by decide +kernel
theorem dX10_noDeaths_22 : decode cX10_noDeaths 22 = .ok (.isub, 1) := by decide +kernel
theorem dX10_noDeaths_23 : decode cX10_noDeaths 23 = .ok (.i2l, 1) := by decide +kernel
theorem dX10_noDeaths_24 : decode cX10_noDeaths 24 = .ok (.invokestatic 45, 3) := by decide +kernel
theorem dX10_noDeaths_27 : decode cX10_noDeaths 27 = .ok (.ifCond .ne 5, 3) := by decide +kernel
theorem dX10_noDeaths_30 : decode cX10_noDeaths 30 = .ok (.iconst 1, 1) := by decide +kernel
theorem dX10_noDeaths_31 : decode cX10_noDeaths 31 = .ok (.ireturn, 1) := by decide +kernel
theorem dX10_noDeaths_32 : decode cX10_noDeaths 32 = .ok (.iconst 0, 1) := by decide +kernel
theorem dX10_noDeaths_33 : decode cX10_noDeaths 33 = .ok (.istore_n 3, 1) := by decide +kernel
theorem dX10_noDeaths_34 : decode cX10_noDeaths 34 = .ok (.iconst 1, 1) := by decide +kernel
theorem dX10_noDeaths_35 : decode cX10_noDeaths 35 = .ok (.istore 4, 2) := by decide +kernel
theorem dX10_noDeaths_37 : decode cX10_noDeaths 37 = .ok (.iconst 0, 1) := by decide +kernel
theorem dX10_noDeaths_38 : decode cX10_noDeaths 38 = .ok (.istore 5, 2) := by decide +kernel
theorem dX10_noDeaths_40 : decode cX10_noDeaths 40 = .ok (.iload 5, 2) := by decide +kernel
theorem dX10_noDeaths_42 : decode cX10_noDeaths 42 = .ok (.iload_n 1, 1) := by decide +kernel
theorem dX10_noDeaths_43 : decode cX10_noDeaths 43 = .ok (.if_icmp .ge 85, 3) := by decide +kernel
theorem dX10_noDeaths_46 : decode cX10_noDeaths 46 = .ok (.iload 4, 2) := by decide +kernel
theorem dX10_noDeaths_48 : decode cX10_noDeaths 48 = .ok (.ifCond .eq 80, 3) := by decide +kernel
theorem dX10_noDeaths_51 : decode cX10_noDeaths 51 = .ok (.iload_n 2, 1) := by decide +kernel
theorem dX10_noDeaths_52 : decode cX10_noDeaths 52 = .ok (.bipush 10, 2) := by decide +kernel
theorem dX10_noDeaths_54 : decode cX10_noDeaths 54 = .ok (.iload 5, 2) := by decide +kernel
theorem dX10_noDeaths_56 : decode cX10_noDeaths 56 = .ok (.invokestatic 136, 3) := by decide +kernel
theorem dX10_noDeaths_59 : decode cX10_noDeaths 59 = .ok (.idiv, 1) := by decide +kernel
theorem dX10_noDeaths_60 : decode cX10_noDeaths 60 = .ok (.bipush 10, 2) := by decide +kernel
theorem dX10_noDeaths_62 : decode cX10_noDeaths 62 = .ok (.irem, 1) := by decide +kernel
theorem dX10_noDeaths_63 : decode cX10_noDeaths 63 = .ok (.iconst 1, 1) := by decide +kernel
theorem dX10_noDeaths_64 : decode cX10_noDeaths 64 = .ok (.isub, 1) := by decide +kernel
theorem dX10_noDeaths_65 : decode cX10_noDeaths 65 = .ok (.istore 6, 2) := by decide +kernel
theorem dX10_noDeaths_67 : decode cX10_noDeaths 67 = .ok (.aload_n 0, 1) := by decide +kernel
theorem dX10_noDeaths_68 : decode cX10_noDeaths 68 = .ok (.iload 6, 2) := by decide +kernel
theorem dX10_noDeaths_70 : decode cX10_noDeaths 70 = .ok (.invokevirtual 104, 3) := by decide +kernel
theorem dX10_noDeaths_73 : decode cX10_noDeaths 73 = .ok (.ifCond .ne 30, 3) := by decide +kernel
theorem dX10_noDeaths_76 : decode cX10_noDeaths 76 = .ok (.aload_n 0, 1) := by decide +kernel
theorem dX10_noDeaths_77 : decode cX10_noDeaths 77 = .ok (.getfield 16, 3) := by decide +kernel
theorem dX10_noDeaths_80 : decode cX10_noDeaths 80 = .ok (.iconst 0, 1) := by decide +kernel
theorem dX10_noDeaths_81 : decode cX10_noDeaths 81 = .ok (.iaload, 1) := by decide +kernel
theorem dX10_noDeaths_82 : decode cX10_noDeaths 82 = .ok (.iload 6, 2) := by decide +kernel
theorem dX10_noDeaths_84 : decode cX10_noDeaths 84 = .ok (.invokestatic 82, 3) := by decide +kernel
theorem dX10_noDeaths_87 : decode cX10_noDeaths 87 = .ok (.ifCond .eq 16, 3) := by decide +kernel
theorem dX10_noDeaths_90 : decode cX10_noDeaths 90 = .ok (.iload_n 3, 1) := by decide +kernel
theorem dX10_noDeaths_91 : decode cX10_noDeaths 91 = .ok (.iload 6, 2) := by decide +kernel
theorem dX10_noDeaths_93 : decode cX10_noDeaths 93 = .ok (.invokestatic 82, 3) := by decide +kernel
theorem dX10_noDeaths_96 : decode cX10_noDeaths 96 = .ok (.ifCond .ne 7, 3) := by decide +kernel
theorem dX10_noDeaths_99 : decode cX10_noDeaths 99 = .ok (.iconst 1, 1) := by decide +kernel
theorem dX10_noDeaths_100 : decode cX10_noDeaths 100 = .ok (.goto 4, 3) := by decide +kernel
theorem dX10_noDeaths_103 : decode cX10_noDeaths 103 = .ok (.iconst 0, 1) := by decide +kernel
theorem dX10_noDeaths_104 : decode cX10_noDeaths 104 = .ok (.istore 4, 2) := by decide +kernel
theorem dX10_noDeaths_106 : decode cX10_noDeaths 106 = .ok (.iload_n 3, 1) := by decide +kernel
theorem dX10_noDeaths_107 : decode cX10_noDeaths 107 = .ok (.iload 4, 2) := by decide +kernel
theorem dX10_noDeaths_109 : decode cX10_noDeaths 109 = .ok (.ifCond .eq 10, 3) := by decide +kernel
theorem dX10_noDeaths_112 : decode cX10_noDeaths 112 = .ok (.iconst 1, 1) := by decide +kernel
theorem dX10_noDeaths_113 : decode cX10_noDeaths 113 = .ok (.iload 6, 2) := by decide +kernel
theorem dX10_noDeaths_115 : decode cX10_noDeaths 115 = .ok (.ishl, 1) := by decide +kernel
theorem dX10_noDeaths_116 : decode cX10_noDeaths 116 = .ok (.goto 4, 3) := by decide +kernel
theorem dX10_noDeaths_119 : decode cX10_noDeaths 119 = .ok (.iconst 0, 1) := by decide +kernel
theorem dX10_noDeaths_120 : decode cX10_noDeaths 120 = .ok (.ior, 1) := by decide +kernel
theorem dX10_noDeaths_121 : decode cX10_noDeaths 121 = .ok (.istore_n 3, 1) := by decide +kernel
theorem dX10_noDeaths_122 : decode cX10_noDeaths 122 = .ok (.iinc 5 1, 3) := by decide +kernel
theorem dX10_noDeaths_125 : decode cX10_noDeaths 125 = .ok (.goto (-85), 3) := by decide +kernel
theorem dX10_noDeaths_128 : decode cX10_noDeaths 128 = .ok (.iload 4, 2) := by decide +kernel
theorem dX10_noDeaths_130 : decode cX10_noDeaths 130 = .ok (.ifCond .ne 7, 3) := by decide +kernel
theorem dX10_noDeaths_133 : decode cX10_noDeaths 133 = .ok (.iconst 1, 1) := by decide +kernel
theorem dX10_noDeaths_134 : decode cX10_noDeaths 134 = .ok (.goto 4, 3) := by decide +kernel
theorem dX10_noDeaths_137 : decode cX10_noDeaths 137 = .ok (.iconst 0, 1) := by decide +kernel
theorem dX10_noDeaths_138 : decode cX10_noDeaths 138 = .ok (.ireturn, 1) := by decide +kernel
theorem dX10_ties_0 : decode cX10_ties 0 = .ok (.aload_n 0, 1) := by decide +kernel
theorem dX10_ties_1 : decode cX10_ties 1 = .ok (.iconst 0, 1) := by decide +kernel
theorem dX10_ties_2 : decode cX10_ties 2 = .ok (.putfield 41, 3) := by decide +kernel
theorem dX10_ties_5 : decode cX10_ties 5 = .ok (.aload_n 0, 1) := by decide +kernel
theorem dX10_ties_6 : decode cX10_ties 6 = .ok (.iload_n 1, 1) := by decide +kernel
theorem dX10_ties_7 : decode cX10_ties 7 = .ok (.iload_n 2, 1) := by decide +kernel
theorem dX10_ties_8 : decode cX10_ties 8 = .ok (.invokevirtual 145, 3) := by decide +kernel
theorem dX10_ties_11 : decode cX10_ties 11 = .ok (.ifCond .eq 6, 3) := by decide +kernel
theorem dX10_ties_14 : decode cX10_ties 14 = .ok (.bipush (-2), 2) := by decide +kernel
theorem dX10_ties_16 : decode cX10_ties 16 = .ok (.ireturn, 1) := by decide +kernel
theorem dX10_ties_17 : decode cX10_ties 17 = .ok (.aload_n 0, 1) := by decide +kernel
theorem dX10_ties_18 : decode cX10_ties 18 = .ok (.iload_n 3, 1) := by decide +kernel
theorem dX10_ties_19 : decode cX10_ties 19 = .ok (.invokevirtual 104, 3) := by decide +kernel
theorem dX10_ties_22 : decode cX10_ties 22 = .ok (.ifCond .eq 5, 3) := by decide +kernel
theorem dX10_ties_25 : decode cX10_ties 25 = .ok (.iconst (-1), 1) := by decide +kernel
theorem dX10_ties_26 : decode cX10_ties 26 = .ok (.ireturn, 1) := by decide +kernel
theorem dX10_ties_27 : decode cX10_ties 27 = .ok (.iconst 0, 1) := by decide +kernel
theorem dX10_ties_28 : decode cX10_ties 28 = .ok (.istore 4, 2) := by decide +kernel
theorem dX10_ties_30 : decode cX10_ties 30 = .ok (.iconst 0, 1) := by decide +kernel
theorem dX10_ties_31 : decode cX10_ties 31 = .ok (.istore 5, 2) := by decide +kernel
theorem dX10_ties_33 : decode cX10_ties 33 = .ok (.iload 5, 2) := by decide +kernel
theorem dX10_ties_35 : decode cX10_ties 35 = .ok (.iconst 4, 1) := by decide +kernel
theorem dX10_ties_36 : decode cX10_ties 36 = .ok (.if_icmp .ge 82, 3) := by decide +kernel
theorem dX10_ties_39 : decode cX10_ties 39 = .ok (.aload_n 0, 1) := by decide +kernel
theorem dX10_ties_40 : decode cX10_ties 40 = .ok (.invokevirtual 127, 3) := by decide +kernel
theorem dX10_ties_43 : decode cX10_ties 43 = .ok (.aload_n 0, 1) := by decide +kernel
theorem dX10_ties_44 : decode cX10_ties 44 = .ok (.getfield 19, 3) := by decide +kernel
theorem dX10_ties_47 : decode cX10_ties 47 = .ok (.iconst 2, 1) := by decide +kernel
theorem dX10_ties_48 : decode cX10_ties 48 = .ok (.iload 5, 2) := by decide +kernel
theorem dX10_ties_50 : decode cX10_ties 50 = .ok (.iastore, 1) := by decide +kernel
theorem dX10_ties_51 : decode cX10_ties 51 = .ok (.iload_n 1, 1) := by decide +kernel
theorem dX10_ties_52 : decode cX10_ties 52 = .ok (.iconst 1, 1) := by decide +kernel
theorem dX10_ties_53 : decode cX10_ties 53 = .ok (.isub, 1) := by decide +kernel
theorem dX10_ties_54 : decode cX10_ties 54 = .ok (.istore 6, 2) := by decide +kernel
theorem dX10_ties_56 : decode cX10_ties 56 = .ok (.iload 6, 2) := by decide +kernel
theorem dX10_ties_58 : decode cX10_ties 58 = .ok (.ifCond .lt 31, 3) := by decide +kernel
theorem dX10_ties_61 : decode cX10_ties 61 = .ok (.aload_n 0, 1) := by decide +kernel
theorem dX10_ties_62 : decode cX10_ties 62 = .ok (.aload_n 0, 1) := by decide +kernel
theorem dX10_ties_63 : decode cX10_ties 63 = .ok (.getfield 19, 3) := by decide +kernel
theorem dX10_ties_66 : decode cX10_ties 66 = .ok (.iload_n 2, 1) := by decide +kernel
theorem dX10_ties_67 : decode cX10_ties 67 = .ok (.bipush 10, 2) := by decide +kernel
theorem dX10_ties_69 : decode cX10_ties 69 = .ok (.iload 6, 2) := by decide +kernel
theorem dX10_ties_71 : decode cX10_ties 71 = .ok (.invokestatic 136, 3) := by decide +kernel
theorem dX10_ties_74 : decode cX10_ties 74 = .ok (.idiv, 1) := by decide +kernel
theorem dX10_ties_75 : decode cX10_ties 75 = .ok (.bipush 10, 2) := by decide +kernel
theorem dX10_ties_77 : decode cX10_ties 77 = .ok (.irem, 1) := by decide +kernel
theorem dX10_ties_78 : decode cX10_ties 78 = .ok (.iconst 1, 1) := by decide +kernel
theorem dX10_ties_79 : decode cX10_ties 79 = .ok (.isub, 1) := by decide +kernel
theorem dX10_ties_80 : decode cX10_ties 80 = .ok (.invokevirtual 115, 3) := by decide +kernel
theorem dX10_ties_83 : decode cX10_ties 83 = .ok (.iinc 6 (-1), 3) := by decide +kernel
theorem dX10_ties_86 : decode cX10_ties 86 = .ok (.goto (-30), 3) := by decide +kernel
theorem dX10_ties_89 : decode cX10_ties 89 = .ok (.iload 4, 2) := by decide +kernel
theorem dX10_ties_91 : decode cX10_ties 91 = .ok (.aload_n 0, 1) := by decide +kernel
theorem dX10_ties_92 : decode cX10_ties 92 = .ok (.getfield 19, 3) := by decide +kernel
theorem dX10_ties_95 : decode cX10_ties 95 = .ok (.iconst 1, 1) := by decide +kernel
theorem dX10_ties_96 : decode cX10_ties 96 = .ok (.iaload, 1) := by decide +kernel
theorem dX10_ties_97 : decode cX10_ties 97 = .ok (.iload_n 3, 1) := by decide +kernel
theorem dX10_ties_98 : decode cX10_ties 98 = .ok (.if_icmp .ne 10, 3) := by decide +kernel
theorem dX10_ties_101 : decode cX10_ties 101 = .ok (.iconst 1, 1) := by decide +kernel
theorem dX10_ties_102 : decode cX10_ties 102 = .ok (.iload 5, 2) := by decide +kernel
theorem dX10_ties_104 : decode cX10_ties 104 = .ok (.ishl, 1) := by decide +kernel
theorem dX10_ties_105 : decode cX10_ties 105 = .ok (.goto 4, 3) := by decide +kernel
theorem dX10_ties_108 : decode cX10_ties 108 = .ok (.iconst 0, 1) := by decide +kernel
theorem dX10_ties_109 : decode cX10_ties 109 = .ok (.ior, 1) := by decide +kernel
theorem dX10_ties_110 : decode cX10_ties 110 = .ok (.istore 4, 2) := by decide +kernel
theorem dX10_ties_112 : decode cX10_ties 112 = .ok (.iinc 5 1, 3) := by decide +kernel
theorem dX10_ties_115 : decode cX10_ties 115 = .ok (.goto (-82), 3) := by decide +kernel
theorem dX10_ties_118 : decode cX10_ties 118 = .ok (.iload 4, 2) := by decide +kernel
theorem dX10_ties_120 : decode cX10_ties 120 = .ok (.ireturn, 1) := by decide +kernel
theorem dX10_gainOf_0 : decode cX10_gainOf 0 = .ok (.iload_n 1, 1) := by decide +kernel
theorem dX10_gainOf_1 : decode cX10_gainOf 1 = .ok (.iload_n 0, 1) := by decide +kernel
theorem dX10_gainOf_2 : decode cX10_gainOf 2 = .ok (.if_icmp .ge 7, 3) := by decide +kernel
theorem dX10_gainOf_5 : decode cX10_gainOf 5 = .ok (.iconst 0, 1) := by decide +kernel
theorem dX10_gainOf_6 : decode cX10_gainOf 6 = .ok (.goto 14, 3) := by decide +kernel
theorem dX10_gainOf_9 : decode cX10_gainOf 9 = .ok (.iload_n 3, 1) := by decide +kernel
theorem dX10_gainOf_10 : decode cX10_gainOf 10 = .ok (.ifCond .eq 7, 3) := by decide +kernel
theorem dX10_gainOf_13 : decode cX10_gainOf 13 = .ok (.iload_n 1, 1) := by decide +kernel
theorem dX10_gainOf_14 : decode cX10_gainOf 14 = .ok (.goto 6, 3) := by decide +kernel
theorem dX10_gainOf_17 : decode cX10_gainOf 17 = .ok (.iload_n 2, 1) := by decide +kernel
theorem dX10_gainOf_18 : decode cX10_gainOf 18 = .ok (.iload_n 1, 1) := by decide +kernel
theorem dX10_gainOf_19 : decode cX10_gainOf 19 = .ok (.isub, 1) := by decide +kernel
theorem dX10_gainOf_20 : decode cX10_gainOf 20 = .ok (.ireturn, 1) := by decide +kernel
theorem dX10_findRests_0 : decode cX10_findRests 0 = .ok (.aload_n 0, 1) := by decide +kernel
theorem dX10_findRests_1 : decode cX10_findRests 1 = .ok (.iconst 0, 1) := by decide +kernel
theorem dX10_findRests_2 : decode cX10_findRests 2 = .ok (.putfield 148, 3) := by decide +kernel
theorem dX10_findRests_5 : decode cX10_findRests 5 = .ok (.aload_n 0, 1) := by decide +kernel
theorem dX10_findRests_6 : decode cX10_findRests 6 = .ok (.bipush (-9), 2) := by decide +kernel
theorem dX10_findRests_8 : decode cX10_findRests 8 = .ok (.putfield 151, 3) := by decide +kernel
theorem dX10_findRests_11 : decode cX10_findRests 11 = .ok (.iconst 0, 1) := by decide +kernel
theorem dX10_findRests_12 : decode cX10_findRests 12 = .ok (.istore_n 2, 1) := by decide +kernel
theorem dX10_findRests_13 : decode cX10_findRests 13 = .ok (.iload_n 2, 1) := by decide +kernel
theorem dX10_findRests_14 : decode cX10_findRests 14 = .ok (.iconst 5, 1) := by decide +kernel
theorem dX10_findRests_15 : decode cX10_findRests 15 = .ok (.if_icmp .ge 136, 3) := by decide +kernel
theorem dX10_findRests_18 : decode cX10_findRests 18 = .ok (.iconst 0, 1) := by decide +kernel
theorem dX10_findRests_19 : decode cX10_findRests 19 = .ok (.istore_n 3, 1) := by decide +kernel
theorem dX10_findRests_20 : decode cX10_findRests 20 = .ok (.iload_n 3, 1) := by decide +kernel
theorem dX10_findRests_21 : decode cX10_findRests 21 = .ok (.iconst 5, 1) := by decide +kernel
theorem dX10_findRests_22 : decode cX10_findRests 22 = .ok (.if_icmp .ge 123, 3) := by decide +kernel
theorem dX10_findRests_25 : decode cX10_findRests 25 = .ok (.iconst 1, 1) := by decide +kernel
theorem dX10_findRests_26 : decode cX10_findRests 26 = .ok (.istore 4, 2) := by decide +kernel
theorem dX10_findRests_28 : decode cX10_findRests 28 = .ok (.iconst 0, 1) := by decide +kernel
theorem dX10_findRests_29 : decode cX10_findRests 29 = .ok (.istore 5, 2) := by decide +kernel
theorem dX10_findRests_31 : decode cX10_findRests 31 = .ok (.iload 5, 2) := by decide +kernel
theorem dX10_findRests_33 : decode cX10_findRests 33 = .ok (.iconst 5, 1) := by decide +kernel
theorem dX10_findRests_34 : decode cX10_findRests 34 = .ok (.if_icmp .ge 57, 3) := by decide +kernel
theorem dX10_findRests_37 : decode cX10_findRests 37 = .ok (.iload 4, 2) := by decide +kernel
theorem dX10_findRests_39 : decode cX10_findRests 39 = .ok (.ifCond .eq 43, 3) := by decide +kernel
theorem dX10_findRests_42 : decode cX10_findRests 42 = .ok (.iload 5, 2) := by decide +kernel
theorem dX10_findRests_44 : decode cX10_findRests 44 = .ok (.iload_n 3, 1) := by decide +kernel
theorem dX10_findRests_45 : decode cX10_findRests 45 = .ok (.iload_n 1, 1) := by decide +kernel
theorem dX10_findRests_46 : decode cX10_findRests 46 = .ok (.iconst 1, 1) := by decide +kernel
theorem dX10_findRests_47 : decode cX10_findRests 47 = .ok (.invokestatic 154, 3) := by decide +kernel
theorem dX10_findRests_50 : decode cX10_findRests 50 = .ok (.iload_n 2, 1) := by decide +kernel
theorem dX10_findRests_51 : decode cX10_findRests 51 = .ok (.iload_n 3, 1) := by decide +kernel
theorem dX10_findRests_52 : decode cX10_findRests 52 = .ok (.iload_n 1, 1) := by decide +kernel
theorem dX10_findRests_53 : decode cX10_findRests 53 = .ok (.iconst 1, 1) := by decide +kernel
theorem dX10_findRests_54 : decode cX10_findRests 54 = .ok (.invokestatic 154, 3) := by decide +kernel
theorem dX10_findRests_57 : decode cX10_findRests 57 = .ok (.if_icmp .gt 25, 3) := by decide +kernel
theorem dX10_findRests_60 : decode cX10_findRests 60 = .ok (.iload_n 2, 1) := by decide +kernel
theorem dX10_findRests_61 : decode cX10_findRests 61 = .ok (.iload 5, 2) := by decide +kernel
theorem dX10_findRests_63 : decode cX10_findRests 63 = .ok (.iload_n 1, 1) := by decide +kernel
theorem dX10_findRests_64 : decode cX10_findRests 64 = .ok (.iconst 0, 1) := by decide +kernel
theorem dX10_findRests_65 : decode cX10_findRests 65 = .ok (.invokestatic 154, 3) := by decide +kernel
theorem dX10_findRests_68 : decode cX10_findRests 68 = .ok (.iload_n 2, 1) := by decide +kernel
theorem dX10_findRests_69 : decode cX10_findRests 69 = .ok (.iload_n 3, 1) := by decide +kernel
theorem dX10_findRests_70 : decode cX10_findRests 70 = .ok (.iload_n 1, 1) := by decide +kernel
theorem dX10_findRests_71 : decode cX10_findRests 71 = .ok (.iconst 0, 1) := by decide +kernel
theorem dX10_findRests_72 : decode cX10_findRests 72 = .ok (.invokestatic 154, 3) := by decide +kernel
theorem dX10_findRests_75 : decode cX10_findRests 75 = .ok (.if_icmp .gt 7, 3) := by decide +kernel
theorem dX10_findRests_78 : decode cX10_findRests 78 = .ok (.iconst 1, 1) := by decide +kernel
theorem dX10_findRests_79 : decode cX10_findRests 79 = .ok (.goto 4, 3) := by decide +kernel
theorem dX10_findRests_82 : decode cX10_findRests 82 = .ok (.iconst 0, 1) := by decide +kernel
theorem dX10_findRests_83 : decode cX10_findRests 83 = .ok (.istore 4, 2) := by decide +kernel
theorem dX10_findRests_85 : decode cX10_findRests 85 = .ok (.iinc 5 1, 3) := by decide +kernel
theorem dX10_findRests_88 : decode cX10_findRests 88 = .ok (.goto (-57), 3) := by decide +kernel
theorem dX10_findRests_91 : decode cX10_findRests 91 = .ok (.aload_n 0, 1) := by decide +kernel
theorem dX10_findRests_92 : decode cX10_findRests 92 = .ok (.iload 4, 2) := by decide +kernel
theorem dX10_findRests_94 : decode cX10_findRests 94 = .ok (.ifCond .eq 19, 3) := by decide +kernel
theorem dX10_findRests_97 : decode cX10_findRests 97 = .ok (.aload_n 0, 1) := by decide +kernel
theorem dX10_findRests_98 : decode cX10_findRests 98 = .ok (.getfield 148, 3) := by decide +kernel
theorem dX10_findRests_101 : decode cX10_findRests 101 = .ok (.ifCond .ne 12, 3) := by decide +kernel
theorem dX10_findRests_104 : decode cX10_findRests 104 = .ok (.bipush 10, 2) := by decide +kernel
theorem dX10_findRests_106 : decode cX10_findRests 106 = .ok (.iload_n 2, 1) := by decide +kernel
theorem dX10_findRests_107 : decode cX10_findRests 107 = .ok (.imul, 1) := by decide +kernel
theorem dX10_findRests_108 : decode cX10_findRests 108 = .ok (.iload_n 3, 1) := by decide +kernel
theorem dX10_findRests_109 : decode cX10_findRests 109 = .ok (.iadd, 1) := by decide +kernel
theorem dX10_findRests_110 : decode cX10_findRests 110 = .ok (.goto 7, 3) := by decide +kernel
theorem dX10_findRests_113 : decode cX10_findRests 113 = .ok (.aload_n 0, 1) := by decide +kernel
theorem dX10_findRests_114 : decode cX10_findRests 114 = .ok (.getfield 151, 3) := by decide +kernel
theorem dX10_findRests_117 : decode cX10_findRests 117 = .ok (.putfield 151, 3) := by decide +kernel
theorem dX10_findRests_120 : decode cX10_findRests 120 = .ok (.aload_n 0, 1) := by decide +kernel
theorem dX10_findRests_121 : decode cX10_findRests 121 = .ok (.dup, 1) := by decide +kernel
theorem dX10_findRests_122 : decode cX10_findRests 122 = .ok (.getfield 148, 3) := by decide +kernel
theorem dX10_findRests_125 : decode cX10_findRests 125 = .ok (.iload 4, 2) := by decide +kernel
theorem dX10_findRests_127 : decode cX10_findRests 127 = .ok (.ifCond .eq 7, 3) := by decide +kernel
theorem dX10_findRests_130 : decode cX10_findRests 130 = .ok (.iconst 1, 1) := by decide +kernel
theorem dX10_findRests_131 : decode cX10_findRests 131 = .ok (.goto 4, 3) := by decide +kernel
theorem dX10_findRests_134 : decode cX10_findRests 134 = .ok (.iconst 0, 1) := by decide +kernel
theorem dX10_findRests_135 : decode cX10_findRests 135 = .ok (.iadd, 1) := by decide +kernel
theorem dX10_findRests_136 : decode cX10_findRests 136 = .ok (.putfield 148, 3) := by decide +kernel
theorem dX10_findRests_139 : decode cX10_findRests 139 = .ok (.iinc 3 1, 3) := by decide +kernel
theorem dX10_findRests_142 : decode cX10_findRests 142 = .ok (.goto (-122), 3) := by decide +kernel
theorem dX10_findRests_145 : decode cX10_findRests 145 = .ok (.iinc 2 1, 3) := by decide +kernel
theorem dX10_findRests_148 : decode cX10_findRests 148 = .ok (.goto (-135), 3) := by decide +kernel
theorem dX10_findRests_151 : decode cX10_findRests 151 = .ok (.return_, 1) := by decide +kernel
theorem dX10_rests_0 : decode cX10_rests 0 = .ok (.aload_n 0, 1) := by decide +kernel
theorem dX10_rests_1 : decode cX10_rests 1 = .ok (.iconst 0, 1) := by decide +kernel
theorem dX10_rests_2 : decode cX10_rests 2 = .ok (.putfield 41, 3) := by decide +kernel
theorem dX10_rests_5 : decode cX10_rests 5 = .ok (.iload_n 1, 1) := by decide +kernel
theorem dX10_rests_6 : decode cX10_rests 6 = .ok (.i2l, 1) := by decide +kernel
theorem dX10_rests_7 : decode cX10_rests 7 = .ok (.lconst 0, 1) := by decide +kernel
theorem dX10_rests_8 : decode cX10_rests 8 = .ok (.ldc2_w 119, 3) := by decide +kernel
theorem dX10_rests_11 : decode cX10_rests 11 = .ok (.invokestatic 45, 3) := by decide +kernel
theorem dX10_rests_14 : decode cX10_rests 14 = .ok (.ifCond .eq 13, 3) := by decide +kernel
theorem dX10_rests_17 : decode cX10_rests 17 = .ok (.iload_n 2, 1) := by decide +kernel
theorem dX10_rests_18 : decode cX10_rests 18 = .ok (.i2l, 1) := by decide +kernel
theorem dX10_rests_19 : decode cX10_rests 19 = .ok (.lconst 0, 1) := by decide +kernel
theorem dX10_rests_20 : decode cX10_rests 20 = .ok (.lconst 1, 1) := by decide +kernel
theorem dX10_rests_21 : decode cX10_rests 21 = .ok (.invokestatic 45, 3) := by decide +kernel
theorem dX10_rests_24 : decode cX10_rests 24 = .ok (.ifCond .ne 6, 3) := by decide +kernel
theorem dX10_rests_27 : decode cX10_rests 27 = .ok (.bipush (-2), 2) := by decide +kernel
theorem dX10_rests_29 : decode cX10_rests 29 = .ok (.ireturn, 1) := by decide +kernel
theorem dX10_rests_30 : decode cX10_rests 30 = .ok (.aload_n 0, 1) := by decide +kernel
theorem dX10_rests_31 : decode cX10_rests 31 = .ok (.invokevirtual 124, 3) := by decide +kernel
theorem dX10_rests_34 : decode cX10_rests 34 = .ok (.ifCond .ne 6, 3) := by decide +kernel
theorem dX10_rests_37 : decode cX10_rests 37 = .ok (.bipush (-3), 2) := by decide +kernel
theorem dX10_rests_39 : decode cX10_rests 39 = .ok (.ireturn, 1) := by decide +kernel
theorem dX10_rests_40 : decode cX10_rests 40 = .ok (.aload_n 0, 1) := by decide +kernel
theorem dX10_rests_41 : decode cX10_rests 41 = .ok (.iload_n 1, 1) := by decide +kernel
theorem dX10_rests_42 : decode cX10_rests 42 = .ok (.invokevirtual 158, 3) := by decide +kernel
theorem dX10_rests_45 : decode cX10_rests 45 = .ok (.iload_n 2, 1) := by decide +kernel
theorem dX10_rests_46 : decode cX10_rests 46 = .ok (.ifCond .ne 10, 3) := by decide +kernel
theorem dX10_rests_49 : decode cX10_rests 49 = .ok (.aload_n 0, 1) := by decide +kernel
theorem dX10_rests_50 : decode cX10_rests 50 = .ok (.getfield 148, 3) := by decide +kernel
theorem dX10_rests_53 : decode cX10_rests 53 = .ok (.goto 7, 3) := by decide +kernel
theorem dX10_rests_56 : decode cX10_rests 56 = .ok (.aload_n 0, 1) := by decide +kernel
theorem dX10_rests_57 : decode cX10_rests 57 = .ok (.getfield 151, 3) := by decide +kernel
theorem dX10_rests_60 : decode cX10_rests 60 = .ok (.ireturn, 1) := by decide +kernel
theorem dX10_divisor_0 : decode cX10_divisor 0 = .ok (.iload_n 0, 1) := by decide +kernel
theorem dX10_divisor_1 : decode cX10_divisor 1 = .ok (.ifCond .ge 8, 3) := by decide +kernel
theorem dX10_divisor_4 : decode cX10_divisor 4 = .ok (.iload_n 0, 1) := by decide +kernel
theorem dX10_divisor_5 : decode cX10_divisor 5 = .ok (.ineg, 1) := by decide +kernel
theorem dX10_divisor_6 : decode cX10_divisor 6 = .ok (.goto 4, 3) := by decide +kernel
theorem dX10_divisor_9 : decode cX10_divisor 9 = .ok (.iload_n 0, 1) := by decide +kernel
theorem dX10_divisor_10 : decode cX10_divisor 10 = .ok (.istore_n 2, 1) := by decide +kernel
theorem dX10_divisor_11 : decode cX10_divisor 11 = .ok (.iload_n 1, 1) := by decide +kernel
theorem dX10_divisor_12 : decode cX10_divisor 12 = .ok (.istore_n 3, 1) := by decide +kernel
theorem dX10_divisor_13 : decode cX10_divisor 13 = .ok (.iload_n 3, 1) := by decide +kernel
theorem dX10_divisor_14 : decode cX10_divisor 14 = .ok (.ifCond .eq 16, 3) := by decide +kernel
theorem dX10_divisor_17 : decode cX10_divisor 17 = .ok (.iload_n 2, 1) := by decide +kernel
theorem dX10_divisor_18 : decode cX10_divisor 18 = .ok (.iload_n 3, 1) := by decide +kernel
theorem dX10_divisor_19 : decode cX10_divisor 19 = .ok (.irem, 1) := by decide +kernel
theorem dX10_divisor_20 : decode cX10_divisor 20 = .ok (.istore 4, 2) := by decide +kernel
theorem dX10_divisor_22 : decode cX10_divisor 22 = .ok (.iload_n 3, 1) := by decide +kernel
theorem dX10_divisor_23 : decode cX10_divisor 23 = .ok (.istore_n 2, 1) := by decide +kernel
theorem dX10_divisor_24 : decode cX10_divisor 24 = .ok (.iload 4, 2) := by decide +kernel
theorem dX10_divisor_26 : decode cX10_divisor 26 = .ok (.istore_n 3, 1) := by decide +kernel
theorem dX10_divisor_27 : decode cX10_divisor 27 = .ok (.goto (-14), 3) := by decide +kernel
theorem dX10_divisor_30 : decode cX10_divisor 30 = .ok (.iload_n 2, 1) := by decide +kernel
theorem dX10_divisor_31 : decode cX10_divisor 31 = .ok (.ireturn, 1) := by decide +kernel
theorem dX10_fraction_0 : decode cX10_fraction 0 = .ok (.iload_n 0, 1) := by decide +kernel
theorem dX10_fraction_1 : decode cX10_fraction 1 = .ok (.iload_n 1, 1) := by decide +kernel
theorem dX10_fraction_2 : decode cX10_fraction 2 = .ok (.invokestatic 162, 3) := by decide +kernel
theorem dX10_fraction_5 : decode cX10_fraction 5 = .ok (.istore_n 3, 1) := by decide +kernel
theorem dX10_fraction_6 : decode cX10_fraction 6 = .ok (.iload_n 2, 1) := by decide +kernel
theorem dX10_fraction_7 : decode cX10_fraction 7 = .ok (.ifCond .eq 9, 3) := by decide +kernel
theorem dX10_fraction_10 : decode cX10_fraction 10 = .ok (.iload_n 0, 1) := by decide +kernel
theorem dX10_fraction_11 : decode cX10_fraction 11 = .ok (.iload_n 3, 1) := by decide +kernel
theorem dX10_fraction_12 : decode cX10_fraction 12 = .ok (.idiv, 1) := by decide +kernel
theorem dX10_fraction_13 : decode cX10_fraction 13 = .ok (.goto 6, 3) := by decide +kernel
theorem dX10_fraction_16 : decode cX10_fraction 16 = .ok (.iload_n 1, 1) := by decide +kernel
theorem dX10_fraction_17 : decode cX10_fraction 17 = .ok (.iload_n 3, 1) := by decide +kernel
theorem dX10_fraction_18 : decode cX10_fraction 18 = .ok (.idiv, 1) := by decide +kernel
theorem dX10_fraction_19 : decode cX10_fraction 19 = .ok (.ireturn, 1) := by decide +kernel
theorem dX10_goOn_0 : decode cX10_goOn 0 = .ok (.iconst 0, 1) := by decide +kernel
theorem dX10_goOn_1 : decode cX10_goOn 1 = .ok (.istore 6, 2) := by decide +kernel
theorem dX10_goOn_3 : decode cX10_goOn 3 = .ok (.iload 6, 2) := by decide +kernel
theorem dX10_goOn_5 : decode cX10_goOn 5 = .ok (.aload_n 0, 1) := by decide +kernel
theorem dX10_goOn_6 : decode cX10_goOn 6 = .ok (.getfield 16, 3) := by decide +kernel
theorem dX10_goOn_9 : decode cX10_goOn 9 = .ok (.bipush 6, 2) := by decide +kernel
theorem dX10_goOn_11 : decode cX10_goOn 11 = .ok (.iaload, 1) := by decide +kernel
theorem dX10_goOn_12 : decode cX10_goOn 12 = .ok (.if_icmp .ge 137, 3) := by decide +kernel
theorem dX10_goOn_15 : decode cX10_goOn 15 = .ok (.aload_n 0, 1) := by decide +kernel
theorem dX10_goOn_16 : decode cX10_goOn 16 = .ok (.getfield 16, 3) := by decide +kernel
theorem dX10_goOn_19 : decode cX10_goOn 19 = .ok (.iconst 0, 1) := by decide +kernel
theorem dX10_goOn_20 : decode cX10_goOn 20 = .ok (.iaload, 1) := by decide +kernel
theorem dX10_goOn_21 : decode cX10_goOn 21 = .ok (.iload_n 2, 1) := by decide +kernel
theorem dX10_goOn_22 : decode cX10_goOn 22 = .ok (.iconst (-1), 1) := by decide +kernel
theorem dX10_goOn_23 : decode cX10_goOn 23 = .ok (.ixor, 1) := by decide +kernel
theorem dX10_goOn_24 : decode cX10_goOn 24 = .ok (.iand, 1) := by decide +kernel
theorem dX10_goOn_25 : decode cX10_goOn 25 = .ok (.iload 6, 2) := by decide +kernel
theorem dX10_goOn_27 : decode cX10_goOn 27 = .ok (.invokestatic 82, 3) := by decide +kernel
theorem dX10_goOn_30 : decode cX10_goOn 30 = .ok (.ifCond .eq 113, 3) := by decide +kernel
theorem dX10_goOn_33 : decode cX10_goOn 33 = .ok (.aload_n 0, 1) := by decide +kernel
theorem dX10_goOn_34 : decode cX10_goOn 34 = .ok (.invokevirtual 127, 3) := by decide +kernel
theorem dX10_goOn_37 : decode cX10_goOn 37 = .ok (.aload_n 0, 1) := by decide +kernel
theorem dX10_goOn_38 : decode cX10_goOn 38 = .ok (.getfield 19, 3) := by decide +kernel
theorem dX10_goOn_41 : decode cX10_goOn 41 = .ok (.iconst 0, 1) := by decide +kernel
theorem dX10_goOn_42 : decode cX10_goOn 42 = .ok (.dup2, 1) := by decide +kernel
theorem dX10_goOn_43 : decode cX10_goOn 43 = .ok (.iaload, 1) := by decide +kernel
theorem dX10_goOn_44 : decode cX10_goOn 44 = .ok (.iload_n 2, 1) := by decide +kernel
theorem dX10_goOn_45 : decode cX10_goOn 45 = .ok (.iconst (-1), 1) := by decide +kernel
theorem dX10_goOn_46 : decode cX10_goOn 46 = .ok (.ixor, 1) := by decide +kernel
theorem dX10_goOn_47 : decode cX10_goOn 47 = .ok (.iand, 1) := by decide +kernel
theorem dX10_goOn_48 : decode cX10_goOn 48 = .ok (.iastore, 1) := by decide +kernel
theorem dX10_goOn_49 : decode cX10_goOn 49 = .ok (.aload_n 0, 1) := by decide +kernel
theorem dX10_goOn_50 : decode cX10_goOn 50 = .ok (.getfield 19, 3) := by decide +kernel
theorem dX10_goOn_53 : decode cX10_goOn 53 = .ok (.iconst 1, 1) := by decide +kernel
theorem dX10_goOn_54 : decode cX10_goOn 54 = .ok (.iload_n 3, 1) := by decide +kernel
theorem dX10_goOn_55 : decode cX10_goOn 55 = .ok (.iastore, 1) := by decide +kernel
theorem dX10_goOn_56 : decode cX10_goOn 56 = .ok (.aload_n 0, 1) := by decide +kernel
theorem dX10_goOn_57 : decode cX10_goOn 57 = .ok (.aload_n 0, 1) := by decide +kernel
theorem dX10_goOn_58 : decode cX10_goOn 58 = .ok (.getfield 19, 3) := by decide +kernel
theorem dX10_goOn_61 : decode cX10_goOn 61 = .ok (.iload 6, 2) := by decide +kernel
theorem dX10_goOn_63 : decode cX10_goOn 63 = .ok (.invokevirtual 115, 3) := by decide +kernel
theorem dX10_goOn_66 : decode cX10_goOn 66 = .ok (.aload_n 0, 1) := by decide +kernel
theorem dX10_goOn_67 : decode cX10_goOn 67 = .ok (.getfield 19, 3) := by decide +kernel
theorem dX10_goOn_70 : decode cX10_goOn 70 = .ok (.iconst 1, 1) := by decide +kernel
theorem dX10_goOn_71 : decode cX10_goOn 71 = .ok (.iaload, 1) := by decide +kernel
theorem dX10_goOn_72 : decode cX10_goOn 72 = .ok (.bipush (-9), 2) := by decide +kernel
theorem dX10_goOn_74 : decode cX10_goOn 74 = .ok (.if_icmp .ne 8, 3) := by decide +kernel
theorem dX10_goOn_77 : decode cX10_goOn 77 = .ok (.bipush 7, 2) := by decide +kernel
theorem dX10_goOn_79 : decode cX10_goOn 79 = .ok (.goto 9, 3) := by decide +kernel
theorem dX10_goOn_82 : decode cX10_goOn 82 = .ok (.aload_n 0, 1) := by decide +kernel
theorem dX10_goOn_83 : decode cX10_goOn 83 = .ok (.getfield 19, 3) := by decide +kernel
theorem dX10_goOn_86 : decode cX10_goOn 86 = .ok (.iconst 1, 1) := by decide +kernel
theorem dX10_goOn_87 : decode cX10_goOn 87 = .ok (.iaload, 1) := by decide +kernel
theorem dX10_goOn_88 : decode cX10_goOn 88 = .ok (.istore 7, 2) := by decide +kernel
theorem dX10_goOn_90 : decode cX10_goOn 90 = .ok (.iload 4, 2) := by decide +kernel
theorem dX10_goOn_92 : decode cX10_goOn 92 = .ok (.ifCond .ne 9, 3) := by decide +kernel
theorem dX10_goOn_95 : decode cX10_goOn 95 = .ok (.iload 7, 2) := by decide +kernel
theorem dX10_goOn_97 : decode cX10_goOn 97 = .ok (.iload_n 1, 1) := by decide +kernel
theorem dX10_goOn_98 : decode cX10_goOn 98 = .ok (.if_icmp .ne 7, 3) := by decide +kernel
theorem dX10_goOn_101 : decode cX10_goOn 101 = .ok (.iconst 1, 1) := by decide +kernel
theorem dX10_goOn_102 : decode cX10_goOn 102 = .ok (.goto 4, 3) := by decide +kernel
theorem dX10_goOn_105 : decode cX10_goOn 105 = .ok (.iconst 0, 1) := by decide +kernel
theorem dX10_goOn_106 : decode cX10_goOn 106 = .ok (.istore 8, 2) := by decide +kernel
theorem dX10_goOn_108 : decode cX10_goOn 108 = .ok (.aload_n 0, 1) := by decide +kernel
theorem dX10_goOn_109 : decode cX10_goOn 109 = .ok (.getfield 38, 3) := by decide +kernel
theorem dX10_goOn_112 : decode cX10_goOn 112 = .ok (.bipush 16, 2) := by decide +kernel
theorem dX10_goOn_114 : decode cX10_goOn 114 = .ok (.iload_n 2, 1) := by decide +kernel
theorem dX10_goOn_115 : decode cX10_goOn 115 = .ok (.iconst 1, 1) := by decide +kernel
theorem dX10_goOn_116 : decode cX10_goOn 116 = .ok (.iload 6, 2) := by decide +kernel
theorem dX10_goOn_118 : decode cX10_goOn 118 = .ok (.ishl, 1) := by decide +kernel
theorem dX10_goOn_119 : decode cX10_goOn 119 = .ok (.ior, 1) := by decide +kernel
theorem dX10_goOn_120 : decode cX10_goOn 120 = .ok (.imul, 1) := by decide +kernel
theorem dX10_goOn_121 : decode cX10_goOn 121 = .ok (.iconst 2, 1) := by decide +kernel
theorem dX10_goOn_122 : decode cX10_goOn 122 = .ok (.iload 7, 2) := by decide +kernel
theorem dX10_goOn_124 : decode cX10_goOn 124 = .ok (.imul, 1) := by decide +kernel
theorem dX10_goOn_125 : decode cX10_goOn 125 = .ok (.iadd, 1) := by decide +kernel
theorem dX10_goOn_126 : decode cX10_goOn 126 = .ok (.iload 8, 2) := by decide +kernel
theorem dX10_goOn_128 : decode cX10_goOn 128 = .ok (.ifCond .eq 7, 3) := by decide +kernel
theorem dX10_goOn_131 : decode cX10_goOn 131 = .ok (.iconst 1, 1) := by decide +kernel
theorem dX10_goOn_132 : decode cX10_goOn 132 = .ok (.goto 4, 3) := by decide +kernel
theorem dX10_goOn_135 : decode cX10_goOn 135 = .ok (.iconst 0, 1) := by decide +kernel
theorem dX10_goOn_136 : decode cX10_goOn 136 = .ok (.iadd, 1) := by decide +kernel
theorem dX10_goOn_137 : decode cX10_goOn 137 = .ok (.dup2, 1) := by decide +kernel
theorem dX10_goOn_138 : decode cX10_goOn 138 = .ok (.iaload, 1) := by decide +kernel
theorem dX10_goOn_139 : decode cX10_goOn 139 = .ok (.iload 5, 2) := by decide +kernel
theorem dX10_goOn_141 : decode cX10_goOn 141 = .ok (.iadd, 1) := by decide +kernel
theorem dX10_goOn_142 : decode cX10_goOn 142 = .ok (.iastore, 1) := by decide +kernel
theorem dX10_goOn_143 : decode cX10_goOn 143 = .ok (.iinc 6 1, 3) := by decide +kernel
theorem dX10_goOn_146 : decode cX10_goOn 146 = .ok (.goto (-143), 3) := by decide +kernel
theorem dX10_goOn_149 : decode cX10_goOn 149 = .ok (.return_, 1) := by decide +kernel
theorem dX10_odds_0 : decode cX10_odds 0 = .ok (.aload_n 0, 1) := by decide +kernel
theorem dX10_odds_1 : decode cX10_odds 1 = .ok (.iconst 0, 1) := by decide +kernel
theorem dX10_odds_2 : decode cX10_odds 2 = .ok (.putfield 41, 3) := by decide +kernel
theorem dX10_odds_5 : decode cX10_odds 5 = .ok (.aload_n 0, 1) := by decide +kernel
theorem dX10_odds_6 : decode cX10_odds 6 = .ok (.iload_n 1, 1) := by decide +kernel
theorem dX10_odds_7 : decode cX10_odds 7 = .ok (.invokevirtual 104, 3) := by decide +kernel
theorem dX10_odds_10 : decode cX10_odds 10 = .ok (.ifCond .eq 5, 3) := by decide +kernel
theorem dX10_odds_13 : decode cX10_odds 13 = .ok (.iconst (-1), 1) := by decide +kernel
theorem dX10_odds_14 : decode cX10_odds 14 = .ok (.ireturn, 1) := by decide +kernel
theorem dX10_odds_15 : decode cX10_odds 15 = .ok (.aload_n 0, 1) := by decide +kernel
theorem dX10_odds_16 : decode cX10_odds 16 = .ok (.getfield 16, 3) := by decide +kernel
theorem dX10_odds_19 : decode cX10_odds 19 = .ok (.iconst 0, 1) := by decide +kernel
theorem dX10_odds_20 : decode cX10_odds 20 = .ok (.iaload, 1) := by decide +kernel
theorem dX10_odds_21 : decode cX10_odds 21 = .ok (.iload_n 1, 1) := by decide +kernel
theorem dX10_odds_22 : decode cX10_odds 22 = .ok (.invokestatic 82, 3) := by decide +kernel
theorem dX10_odds_25 : decode cX10_odds 25 = .ok (.ifCond .ne 13, 3) := by decide +kernel
theorem dX10_odds_28 : decode cX10_odds 28 = .ok (.iload_n 2, 1) := by decide +kernel
theorem dX10_odds_29 : decode cX10_odds 29 = .ok (.ifCond .eq 7, 3) := by decide +kernel
theorem dX10_odds_32 : decode cX10_odds 32 = .ok (.iconst 0, 1) := by decide +kernel
theorem dX10_odds_33 : decode cX10_odds 33 = .ok (.goto 4, 3) := by decide +kernel
theorem dX10_odds_36 : decode cX10_odds 36 = .ok (.iconst 1, 1) := by decide +kernel
theorem dX10_odds_37 : decode cX10_odds 37 = .ok (.ireturn, 1) := by decide +kernel
theorem dX10_odds_38 : decode cX10_odds 38 = .ok (.iconst 0, 1) := by decide +kernel
theorem dX10_odds_39 : decode cX10_odds 39 = .ok (.istore_n 3, 1) := by decide +kernel
theorem dX10_odds_40 : decode cX10_odds 40 = .ok (.iload_n 3, 1) := by decide +kernel
theorem dX10_odds_41 : decode cX10_odds 41 = .ok (.sipush 2048, 3) := by decide +kernel
theorem dX10_odds_44 : decode cX10_odds 44 = .ok (.if_icmp .ge 16, 3) := by decide +kernel
theorem dX10_odds_47 : decode cX10_odds 47 = .ok (.aload_n 0, 1) := by decide +kernel
theorem dX10_odds_48 : decode cX10_odds 48 = .ok (.getfield 38, 3) := by decide +kernel
theorem dX10_odds_51 : decode cX10_odds 51 = .ok (.iload_n 3, 1) := by decide +kernel
theorem dX10_odds_52 : decode cX10_odds 52 = .ok (.iconst 0, 1) := by decide +kernel
theorem dX10_odds_53 : decode cX10_odds 53 = .ok (.iastore, 1) := by decide +kernel
theorem dX10_odds_54 : decode cX10_odds 54 = .ok (.iinc 3 1, 3) := by decide +kernel
theorem dX10_odds_57 : decode cX10_odds 57 = .ok (.goto (-17), 3) := by decide +kernel
theorem dX10_odds_60 : decode cX10_odds 60 = .ok (.aload_n 0, 1) := by decide +kernel
theorem dX10_odds_61 : decode cX10_odds 61 = .ok (.getfield 16, 3) := by decide +kernel
theorem dX10_odds_64 : decode cX10_odds 64 = .ok (.iconst 1, 1) := by decide +kernel
theorem dX10_odds_65 : decode cX10_odds 65 = .ok (.iaload, 1) := by decide +kernel
theorem dX10_odds_66 : decode cX10_odds 66 = .ok (.bipush (-9), 2) := by decide +kernel
theorem dX10_odds_68 : decode cX10_odds 68 = .ok (.if_icmp .ne 8, 3) := by decide +kernel
theorem dX10_odds_71 : decode cX10_odds 71 = .ok (.bipush 7, 2) := by decide +kernel
theorem dX10_odds_73 : decode cX10_odds 73 = .ok (.goto 9, 3) := by decide +kernel
theorem dX10_odds_76 : decode cX10_odds 76 = .ok (.aload_n 0, 1) := by decide +kernel
theorem dX10_odds_77 : decode cX10_odds 77 = .ok (.getfield 16, 3) := by decide +kernel
theorem dX10_odds_80 : decode cX10_odds 80 = .ok (.iconst 1, 1) := by decide +kernel
theorem dX10_odds_81 : decode cX10_odds 81 = .ok (.iaload, 1) := by decide +kernel
theorem dX10_odds_82 : decode cX10_odds 82 = .ok (.istore_n 3, 1) := by decide +kernel
theorem dX10_odds_83 : decode cX10_odds 83 = .ok (.aload_n 0, 1) := by decide +kernel
theorem dX10_odds_84 : decode cX10_odds 84 = .ok (.getfield 38, 3) := by decide +kernel
theorem dX10_odds_87 : decode cX10_odds 87 = .ok (.iconst 2, 1) := by decide +kernel
theorem dX10_odds_88 : decode cX10_odds 88 = .ok (.iload_n 3, 1) := by decide +kernel
theorem dX10_odds_89 : decode cX10_odds 89 = .ok (.imul, 1) := by decide +kernel
theorem dX10_odds_90 : decode cX10_odds 90 = .ok (.iload_n 3, 1) := by decide +kernel
theorem dX10_odds_91 : decode cX10_odds 91 = .ok (.iload_n 1, 1) := by decide +kernel
theorem dX10_odds_92 : decode cX10_odds 92 = .ok (.if_icmp .ne 7, 3) := by decide +kernel
theorem dX10_odds_95 : decode cX10_odds 95 = .ok (.iconst 1, 1) := by decide +kernel
theorem dX10_odds_96 : decode cX10_odds 96 = .ok (.goto 4, 3) := by decide +kernel
theorem dX10_odds_99 : decode cX10_odds 99 = .ok (.iconst 0, 1) := by decide +kernel
theorem dX10_odds_100 : decode cX10_odds 100 = .ok (.iadd, 1) := by decide +kernel
theorem dX10_odds_101 : decode cX10_odds 101 = .ok (.iconst 1, 1) := by decide +kernel
theorem dX10_odds_102 : decode cX10_odds 102 = .ok (.iastore, 1) := by decide +kernel
theorem dX10_odds_103 : decode cX10_odds 103 = .ok (.iconst 0, 1) := by decide +kernel
theorem dX10_odds_104 : decode cX10_odds 104 = .ok (.istore 4, 2) := by decide +kernel
theorem dX10_odds_106 : decode cX10_odds 106 = .ok (.iload 4, 2) := by decide +kernel
theorem dX10_odds_108 : decode cX10_odds 108 = .ok (.bipush 16, 2) := by decide +kernel
theorem dX10_odds_110 : decode cX10_odds 110 = .ok (.aload_n 0, 1) := by decide +kernel
theorem dX10_odds_111 : decode cX10_odds 111 = .ok (.getfield 16, 3) := by decide +kernel
theorem dX10_odds_114 : decode cX10_odds 114 = .ok (.iconst 0, 1) := by decide +kernel
theorem dX10_odds_115 : decode cX10_odds 115 = .ok (.iaload, 1) := by decide +kernel
theorem dX10_odds_116 : decode cX10_odds 116 = .ok (.imul, 1) := by decide +kernel
theorem dX10_odds_117 : decode cX10_odds 117 = .ok (.if_icmp .ge 72, 3) := by decide +kernel
theorem dX10_odds_120 : decode cX10_odds 120 = .ok (.aload_n 0, 1) := by decide +kernel
theorem dX10_odds_121 : decode cX10_odds 121 = .ok (.getfield 38, 3) := by decide +kernel
theorem dX10_odds_124 : decode cX10_odds 124 = .ok (.iload 4, 2) := by decide +kernel
theorem dX10_odds_126 : decode cX10_odds 126 = .ok (.iaload, 1) := by decide +kernel
theorem dX10_odds_127 : decode cX10_odds 127 = .ok (.ifCond .le 56, 3) := by decide +kernel
theorem dX10_odds_130 : decode cX10_odds 130 = .ok (.iload 4, 2) := by decide +kernel
theorem dX10_odds_132 : decode cX10_odds 132 = .ok (.bipush 16, 2) := by decide +kernel
theorem dX10_odds_134 : decode cX10_odds 134 = .ok (.irem, 1) := by decide +kernel
theorem dX10_odds_135 : decode cX10_odds 135 = .ok (.iconst 2, 1) := by decide +kernel
theorem dX10_odds_136 : decode cX10_odds 136 = .ok (.idiv, 1) := by decide +kernel
theorem dX10_odds_137 : decode cX10_odds 137 = .ok (.istore 5, 2) := by decide +kernel
theorem dX10_odds_139 : decode cX10_odds 139 = .ok (.aload_n 0, 1) := by decide +kernel
theorem dX10_odds_140 : decode cX10_odds 140 = .ok (.iload_n 1, 1) := by decide +kernel
theorem dX10_odds_141 : decode cX10_odds 141 = .ok (.iload 4, 2) := by decide +kernel
theorem dX10_odds_143 : decode cX10_odds 143 = .ok (.bipush 16, 2) := by decide +kernel
theorem dX10_odds_145 : decode cX10_odds 145 = .ok (.idiv, 1) := by decide +kernel
theorem dX10_odds_146 : decode cX10_odds 146 = .ok (.iload 5, 2) := by decide +kernel
theorem dX10_odds_148 : decode cX10_odds 148 = .ok (.bipush 7, 2) := by decide +kernel
theorem dX10_odds_150 : decode cX10_odds 150 = .ok (.if_icmp .ne 8, 3) := by decide +kernel
theorem dX10_odds_153 : decode cX10_odds 153 = .ok (.bipush (-9), 2) := by decide +kernel
theorem dX10_odds_155 : decode cX10_odds 155 = .ok (.goto 5, 3) := by decide +kernel
theorem dX10_odds_158 : decode cX10_odds 158 = .ok (.iload 5, 2) := by decide +kernel
theorem dX10_odds_160 : decode cX10_odds 160 = .ok (.iload 4, 2) := by decide +kernel
theorem dX10_odds_162 : decode cX10_odds 162 = .ok (.iconst 2, 1) := by decide +kernel
theorem dX10_odds_163 : decode cX10_odds 163 = .ok (.irem, 1) := by decide +kernel
theorem dX10_odds_164 : decode cX10_odds 164 = .ok (.iconst 1, 1) := by decide +kernel
theorem dX10_odds_165 : decode cX10_odds 165 = .ok (.if_icmp .ne 7, 3) := by decide +kernel
theorem dX10_odds_168 : decode cX10_odds 168 = .ok (.iconst 1, 1) := by decide +kernel
theorem dX10_odds_169 : decode cX10_odds 169 = .ok (.goto 4, 3) := by decide +kernel
theorem dX10_odds_172 : decode cX10_odds 172 = .ok (.iconst 0, 1) := by decide +kernel
theorem dX10_odds_173 : decode cX10_odds 173 = .ok (.aload_n 0, 1) := by decide +kernel
theorem dX10_odds_174 : decode cX10_odds 174 = .ok (.getfield 38, 3) := by decide +kernel
theorem dX10_odds_177 : decode cX10_odds 177 = .ok (.iload 4, 2) := by decide +kernel
theorem dX10_odds_179 : decode cX10_odds 179 = .ok (.iaload, 1) := by decide +kernel
theorem dX10_odds_180 : decode cX10_odds 180 = .ok (.invokevirtual 165, 3) := by decide +kernel
theorem dX10_odds_183 : decode cX10_odds 183 = .ok (.iinc 4 1, 3) := by decide +kernel
theorem dX10_odds_186 : decode cX10_odds 186 = .ok (.goto (-80), 3) := by decide +kernel
theorem dX10_odds_189 : decode cX10_odds 189 = .ok (.iconst 0, 1) := by decide +kernel
theorem dX10_odds_190 : decode cX10_odds 190 = .ok (.istore 4, 2) := by decide +kernel
theorem dX10_odds_192 : decode cX10_odds 192 = .ok (.iconst 0, 1) := by decide +kernel
theorem dX10_odds_193 : decode cX10_odds 193 = .ok (.istore 5, 2) := by decide +kernel
theorem dX10_odds_195 : decode cX10_odds 195 = .ok (.iconst 0, 1) := by decide +kernel
theorem dX10_odds_196 : decode cX10_odds 196 = .ok (.istore 6, 2) := by decide +kernel
theorem dX10_odds_198 : decode cX10_odds 198 = .ok (.iload 6, 2) := by decide +kernel
theorem dX10_odds_200 : decode cX10_odds 200 = .ok (.bipush 16, 2) := by decide +kernel
theorem dX10_odds_202 : decode cX10_odds 202 = .ok (.if_icmp .ge 54, 3) := by decide +kernel
theorem dX10_odds_205 : decode cX10_odds 205 = .ok (.aload_n 0, 1) := by decide +kernel
theorem dX10_odds_206 : decode cX10_odds 206 = .ok (.getfield 38, 3) := by decide +kernel
theorem dX10_odds_209 : decode cX10_odds 209 = .ok (.bipush 16, 2) := by decide +kernel
theorem dX10_odds_211 : decode cX10_odds 211 = .ok (.aload_n 0, 1) := by decide +kernel
theorem dX10_odds_212 : decode cX10_odds 212 = .ok (.getfield 16, 3) := by decide +kernel
theorem dX10_odds_215 : decode cX10_odds 215 = .ok (.iconst 0, 1) := by decide +kernel
theorem dX10_odds_216 : decode cX10_odds 216 = .ok (.iaload, 1) := by decide +kernel
theorem dX10_odds_217 : decode cX10_odds 217 = .ok (.imul, 1) := by decide +kernel
theorem dX10_odds_218 : decode cX10_odds 218 = .ok (.iload 6, 2) := by decide +kernel
theorem dX10_odds_220 : decode cX10_odds 220 = .ok (.iadd, 1) := by decide +kernel
theorem dX10_odds_221 : decode cX10_odds 221 = .ok (.iaload, 1) := by decide +kernel
theorem dX10_odds_222 : decode cX10_odds 222 = .ok (.istore 7, 2) := by decide +kernel
theorem dX10_odds_224 : decode cX10_odds 224 = .ok (.iload 5, 2) := by decide +kernel
theorem dX10_odds_226 : decode cX10_odds 226 = .ok (.iload 7, 2) := by decide +kernel
theorem dX10_odds_228 : decode cX10_odds 228 = .ok (.iadd, 1) := by decide +kernel
theorem dX10_odds_229 : decode cX10_odds 229 = .ok (.istore 5, 2) := by decide +kernel
theorem dX10_odds_231 : decode cX10_odds 231 = .ok (.iload 4, 2) := by decide +kernel
theorem dX10_odds_233 : decode cX10_odds 233 = .ok (.iload 6, 2) := by decide +kernel
theorem dX10_odds_235 : decode cX10_odds 235 = .ok (.iconst 2, 1) := by decide +kernel
theorem dX10_odds_236 : decode cX10_odds 236 = .ok (.irem, 1) := by decide +kernel
theorem dX10_odds_237 : decode cX10_odds 237 = .ok (.iconst 1, 1) := by decide +kernel
theorem dX10_odds_238 : decode cX10_odds 238 = .ok (.if_icmp .ne 8, 3) := by decide +kernel
theorem dX10_odds_241 : decode cX10_odds 241 = .ok (.iload 7, 2) := by decide +kernel
theorem dX10_odds_243 : decode cX10_odds 243 = .ok (.goto 4, 3) := by decide +kernel
theorem dX10_odds_246 : decode cX10_odds 246 = .ok (.iconst 0, 1) := by decide +kernel
theorem dX10_odds_247 : decode cX10_odds 247 = .ok (.iadd, 1) := by decide +kernel
theorem dX10_odds_248 : decode cX10_odds 248 = .ok (.istore 4, 2) := by decide +kernel
theorem dX10_odds_250 : decode cX10_odds 250 = .ok (.iinc 6 1, 3) := by decide +kernel
theorem dX10_odds_253 : decode cX10_odds 253 = .ok (.goto (-55), 3) := by decide +kernel
theorem dX10_odds_256 : decode cX10_odds 256 = .ok (.iload 4, 2) := by decide +kernel
theorem dX10_odds_258 : decode cX10_odds 258 = .ok (.iload 5, 2) := by decide +kernel
theorem dX10_odds_260 : decode cX10_odds 260 = .ok (.iload_n 2, 1) := by decide +kernel
theorem dX10_odds_261 : decode cX10_odds 261 = .ok (.invokestatic 169, 3) := by decide +kernel
theorem dX10_odds_264 : decode cX10_odds 264 = .ok (.ireturn, 1) := by decide +kernel
theorem dX10_lender_0 : decode cX10_lender 0 = .ok (.aload_n 0, 1) := by decide +kernel
theorem dX10_lender_1 : decode cX10_lender 1 = .ok (.iconst 0, 1) := by decide +kernel
theorem dX10_lender_2 : decode cX10_lender 2 = .ok (.putfield 41, 3) := by decide +kernel
theorem dX10_lender_5 : decode cX10_lender 5 = .ok (.iload_n 1, 1) := by decide +kernel
theorem dX10_lender_6 : decode cX10_lender 6 = .ok (.i2l, 1) := by decide +kernel
theorem dX10_lender_7 : decode cX10_lender 7 = .ok (.lconst 1, 1) := by decide +kernel
theorem dX10_lender_8 : decode cX10_lender 8 = .ok (.ldc2_w 173, 3) := by decide +kernel
theorem dX10_lender_11 : decode cX10_lender 11 = .ok (.invokestatic 45, 3) := by decide +kernel
theorem dX10_lender_14 : decode cX10_lender 14 = .ok (.ifCond .eq 15, 3) := by decide +kernel
theorem dX10_lender_17 : decode cX10_lender 17 = .ok (.iload_n 2, 1) := by decide +kernel
theorem dX10_lender_18 : decode cX10_lender 18 = .ok (.i2l, 1) := by decide +kernel
theorem dX10_lender_19 : decode cX10_lender 19 = .ok (.lconst 0, 1) := by decide +kernel
theorem dX10_lender_20 : decode cX10_lender 20 = .ok (.ldc2_w 119, 3) := by decide +kernel
theorem dX10_lender_23 : decode cX10_lender 23 = .ok (.invokestatic 45, 3) := by decide +kernel
theorem dX10_lender_26 : decode cX10_lender 26 = .ok (.ifCond .ne 6, 3) := by decide +kernel
theorem dX10_lender_29 : decode cX10_lender 29 = .ok (.bipush (-2), 2) := by decide +kernel
theorem dX10_lender_31 : decode cX10_lender 31 = .ok (.ireturn, 1) := by decide +kernel
theorem dX10_lender_32 : decode cX10_lender 32 = .ok (.aload_n 0, 1) := by decide +kernel
theorem dX10_lender_33 : decode cX10_lender 33 = .ok (.getfield 16, 3) := by decide +kernel
theorem dX10_lender_36 : decode cX10_lender 36 = .ok (.iconst 1, 1) := by decide +kernel
theorem dX10_lender_37 : decode cX10_lender 37 = .ok (.iaload, 1) := by decide +kernel
theorem dX10_lender_38 : decode cX10_lender 38 = .ok (.bipush (-9), 2) := by decide +kernel
theorem dX10_lender_40 : decode cX10_lender 40 = .ok (.if_icmp .ne 7, 3) := by decide +kernel
theorem dX10_lender_43 : decode cX10_lender 43 = .ok (.iconst 0, 1) := by decide +kernel
theorem dX10_lender_44 : decode cX10_lender 44 = .ok (.goto 4, 3) := by decide +kernel
theorem dX10_lender_47 : decode cX10_lender 47 = .ok (.iconst 1, 1) := by decide +kernel
theorem dX10_lender_48 : decode cX10_lender 48 = .ok (.istore 4, 2) := by decide +kernel
theorem dX10_lender_50 : decode cX10_lender 50 = .ok (.aload_n 0, 1) := by decide +kernel
theorem dX10_lender_51 : decode cX10_lender 51 = .ok (.getfield 16, 3) := by decide +kernel
theorem dX10_lender_54 : decode cX10_lender 54 = .ok (.iconst 1, 1) := by decide +kernel
theorem dX10_lender_55 : decode cX10_lender 55 = .ok (.iaload, 1) := by decide +kernel
theorem dX10_lender_56 : decode cX10_lender 56 = .ok (.bipush (-9), 2) := by decide +kernel
theorem dX10_lender_58 : decode cX10_lender 58 = .ok (.if_icmp .ne 7, 3) := by decide +kernel
theorem dX10_lender_61 : decode cX10_lender 61 = .ok (.iconst 1, 1) := by decide +kernel
theorem dX10_lender_62 : decode cX10_lender 62 = .ok (.goto 9, 3) := by decide +kernel
theorem dX10_lender_65 : decode cX10_lender 65 = .ok (.bipush 10, 2) := by decide +kernel
theorem dX10_lender_67 : decode cX10_lender 67 = .ok (.iload_n 1, 1) := by decide +kernel
theorem dX10_lender_68 : decode cX10_lender 68 = .ok (.invokestatic 136, 3) := by decide +kernel
theorem dX10_lender_71 : decode cX10_lender 71 = .ok (.istore 5, 2) := by decide +kernel
theorem dX10_lender_73 : decode cX10_lender 73 = .ok (.iconst 0, 1) := by decide +kernel
theorem dX10_lender_74 : decode cX10_lender 74 = .ok (.istore 6, 2) := by decide +kernel
theorem dX10_lender_76 : decode cX10_lender 76 = .ok (.iload 6, 2) := by decide +kernel
theorem dX10_lender_78 : decode cX10_lender 78 = .ok (.iload_n 1, 1) := by decide +kernel
theorem dX10_lender_79 : decode cX10_lender 79 = .ok (.if_icmp .ge 56, 3) := by decide +kernel
theorem dX10_lender_82 : decode cX10_lender 82 = .ok (.iload 4, 2) := by decide +kernel
theorem dX10_lender_84 : decode cX10_lender 84 = .ok (.ifCond .le 51, 3) := by decide +kernel
theorem dX10_lender_87 : decode cX10_lender 87 = .ok (.iload_n 2, 1) := by decide +kernel
theorem dX10_lender_88 : decode cX10_lender 88 = .ok (.aload_n 0, 1) := by decide +kernel
theorem dX10_lender_89 : decode cX10_lender 89 = .ok (.getfield 16, 3) := by decide +kernel
theorem dX10_lender_92 : decode cX10_lender 92 = .ok (.bipush 15, 2) := by decide +kernel
theorem dX10_lender_94 : decode cX10_lender 94 = .ok (.aload_n 0, 1) := by decide +kernel
theorem dX10_lender_95 : decode cX10_lender 95 = .ok (.getfield 16, 3) := by decide +kernel
theorem dX10_lender_98 : decode cX10_lender 98 = .ok (.iconst 1, 1) := by decide +kernel
theorem dX10_lender_99 : decode cX10_lender 99 = .ok (.iaload, 1) := by decide +kernel
theorem dX10_lender_100 : decode cX10_lender 100 = .ok (.iadd, 1) := by decide +kernel
theorem dX10_lender_101 : decode cX10_lender 101 = .ok (.iaload, 1) := by decide +kernel
theorem dX10_lender_102 : decode cX10_lender 102 = .ok (.iadd, 1) := by decide +kernel
theorem dX10_lender_103 : decode cX10_lender 103 = .ok (.iload 6, 2) := by decide +kernel
theorem dX10_lender_105 : decode cX10_lender 105 = .ok (.iadd, 1) := by decide +kernel
theorem dX10_lender_106 : decode cX10_lender 106 = .ok (.istore 7, 2) := by decide +kernel
theorem dX10_lender_108 : decode cX10_lender 108 = .ok (.iload 4, 2) := by decide +kernel
theorem dX10_lender_110 : decode cX10_lender 110 = .ok (.iload 7, 2) := by decide +kernel
theorem dX10_lender_112 : decode cX10_lender 112 = .ok (.bipush 10, 2) := by decide +kernel
theorem dX10_lender_114 : decode cX10_lender 114 = .ok (.if_icmp .le 7, 3) := by decide +kernel
theorem dX10_lender_117 : decode cX10_lender 117 = .ok (.iconst 0, 1) := by decide +kernel
theorem dX10_lender_118 : decode cX10_lender 118 = .ok (.goto 8, 3) := by decide +kernel
theorem dX10_lender_121 : decode cX10_lender 121 = .ok (.bipush 10, 2) := by decide +kernel
theorem dX10_lender_123 : decode cX10_lender 123 = .ok (.iload 7, 2) := by decide +kernel
theorem dX10_lender_125 : decode cX10_lender 125 = .ok (.isub, 1) := by decide +kernel
theorem dX10_lender_126 : decode cX10_lender 126 = .ok (.imul, 1) := by decide +kernel
theorem dX10_lender_127 : decode cX10_lender 127 = .ok (.istore 4, 2) := by decide +kernel
theorem dX10_lender_129 : decode cX10_lender 129 = .ok (.iinc 6 1, 3) := by decide +kernel
theorem dX10_lender_132 : decode cX10_lender 132 = .ok (.goto (-56), 3) := by decide +kernel
theorem dX10_lender_135 : decode cX10_lender 135 = .ok (.iload 4, 2) := by decide +kernel
theorem dX10_lender_137 : decode cX10_lender 137 = .ok (.iload 5, 2) := by decide +kernel
theorem dX10_lender_139 : decode cX10_lender 139 = .ok (.iload_n 3, 1) := by decide +kernel
theorem dX10_lender_140 : decode cX10_lender 140 = .ok (.invokestatic 169, 3) := by decide +kernel
theorem dX10_lender_143 : decode cX10_lender 143 = .ok (.ireturn, 1) := by decide +kernel
theorem dX10_seed_0 : decode cX10_seed 0 = .ok (.aload_n 0, 1) := by decide +kernel
theorem dX10_seed_1 : decode cX10_seed 1 = .ok (.iconst 0, 1) := by decide +kernel
theorem dX10_seed_2 : decode cX10_seed 2 = .ok (.putfield 41, 3) := by decide +kernel
theorem dX10_seed_5 : decode cX10_seed 5 = .ok (.aload_n 0, 1) := by decide +kernel
theorem dX10_seed_6 : decode cX10_seed 6 = .ok (.getfield 175, 3) := by decide +kernel
theorem dX10_seed_9 : decode cX10_seed 9 = .ok (.lstore_n 3, 1) := by decide +kernel
theorem dX10_seed_10 : decode cX10_seed 10 = .ok (.aload_n 0, 1) := by decide +kernel
theorem dX10_seed_11 : decode cX10_seed 11 = .ok (.lload_n 1, 1) := by decide +kernel
theorem dX10_seed_12 : decode cX10_seed 12 = .ok (.putfield 175, 3) := by decide +kernel
theorem dX10_seed_15 : decode cX10_seed 15 = .ok (.lload_n 3, 1) := by decide +kernel
theorem dX10_seed_16 : decode cX10_seed 16 = .ok (.lreturn, 1) := by decide +kernel
theorem dX10_families_0 : decode cX10_families 0 = .ok (.aload_n 0, 1) := by decide +kernel
theorem dX10_families_1 : decode cX10_families 1 = .ok (.iconst 0, 1) := by decide +kernel
theorem dX10_families_2 : decode cX10_families 2 = .ok (.putfield 41, 3) := by decide +kernel
theorem dX10_families_5 : decode cX10_families 5 = .ok (.iload_n 1, 1) := by decide +kernel
theorem dX10_families_6 : decode cX10_families 6 = .ok (.i2l, 1) := by decide +kernel
theorem dX10_families_7 : decode cX10_families 7 = .ok (.lconst 1, 1) := by decide +kernel
theorem dX10_families_8 : decode cX10_families 8 = .ok (.ldc2_w 179, 3) := by decide +kernel
theorem dX10_families_11 : decode cX10_families 11 = .ok (.invokestatic 45, 3) := by decide +kernel
theorem dX10_families_14 : decode cX10_families 14 = .ok (.ifCond .ne 6, 3) := by decide +kernel
theorem dX10_families_17 : decode cX10_families 17 = .ok (.bipush (-2), 2) := by decide +kernel
theorem dX10_families_19 : decode cX10_families 19 = .ok (.ireturn, 1) := by decide +kernel
theorem dX10_families_20 : decode cX10_families 20 = .ok (.aload_n 0, 1) := by decide +kernel
theorem dX10_families_21 : decode cX10_families 21 = .ok (.invokevirtual 127, 3) := by decide +kernel
theorem dX10_families_24 : decode cX10_families 24 = .ok (.iconst 0, 1) := by decide +kernel
theorem dX10_families_25 : decode cX10_families 25 = .ok (.istore_n 2, 1) := by decide +kernel
theorem dX10_families_26 : decode cX10_families 26 = .ok (.iconst 0, 1) := by decide +kernel
theorem dX10_families_27 : decode cX10_families 27 = .ok (.istore_n 3, 1) := by decide +kernel
theorem dX10_families_28 : decode cX10_families 28 = .ok (.iload_n 3, 1) := by decide +kernel
theorem dX10_families_29 : decode cX10_families 29 = .ok (.iload_n 1, 1) := by decide +kernel
theorem dX10_families_30 : decode cX10_families 30 = .ok (.if_icmp .ge 99, 3) := by decide +kernel
theorem dX10_families_33 : decode cX10_families 33 = .ok (.aload_n 0, 1) := by decide +kernel
theorem dX10_families_34 : decode cX10_families 34 = .ok (.aload_n 0, 1) := by decide +kernel
theorem dX10_families_35 : decode cX10_families 35 = .ok (.getfield 175, 3) := by decide +kernel
theorem dX10_families_38 : decode cX10_families 38 = .ok (.ldc2_w 181, 3) := by decide +kernel
theorem dX10_families_41 : decode cX10_families 41 = .ok (.lmul, 1) := by decide +kernel
theorem dX10_families_42 : decode cX10_families 42 = .ok (.ldc2_w 183, 3) := by decide +kernel
theorem dX10_families_45 : decode cX10_families 45 = .ok (.ladd, 1) := by decide +kernel
theorem dX10_families_46 : decode cX10_families 46 = .ok (.putfield 175, 3) := by decide +kernel
theorem dX10_families_49 : decode cX10_families 49 = .ok (.aload_n 0, 1) := by decide +kernel
theorem dX10_families_50 : decode cX10_families 50 = .ok (.getfield 175, 3) := by decide +kernel
theorem dX10_families_53 : decode cX10_families 53 = .ok (.bipush 33, 2) := by decide +kernel
theorem dX10_families_55 : decode cX10_families 55 = .ok (.lushr, 1) := by decide +kernel
theorem dX10_families_56 : decode cX10_families 56 = .ok (.ldc2_w 185, 3) := by decide +kernel
theorem dX10_families_59 : decode cX10_families 59 = .ok (.lrem, 1) := by decide +kernel
theorem dX10_families_60 : decode cX10_families 60 = .ok (.l2i, 1) := by decide +kernel
theorem dX10_families_61 : decode cX10_families 61 = .ok (.istore 4, 2) := by decide +kernel
theorem dX10_families_63 : decode cX10_families 63 = .ok (.aload_n 0, 1) := by decide +kernel
theorem dX10_families_64 : decode cX10_families 64 = .ok (.iload 4, 2) := by decide +kernel
theorem dX10_families_66 : decode cX10_families 66 = .ok (.invokevirtual 104, 3) := by decide +kernel
theorem dX10_families_69 : decode cX10_families 69 = .ok (.ifCond .ne 54, 3) := by decide +kernel
theorem dX10_families_72 : decode cX10_families 72 = .ok (.aload_n 0, 1) := by decide +kernel
theorem dX10_families_73 : decode cX10_families 73 = .ok (.getfield 19, 3) := by decide +kernel
theorem dX10_families_76 : decode cX10_families 76 = .ok (.iconst 0, 1) := by decide +kernel
theorem dX10_families_77 : decode cX10_families 77 = .ok (.iaload, 1) := by decide +kernel
theorem dX10_families_78 : decode cX10_families 78 = .ok (.iload 4, 2) := by decide +kernel
theorem dX10_families_80 : decode cX10_families 80 = .ok (.invokestatic 82, 3) := by decide +kernel
theorem dX10_families_83 : decode cX10_families 83 = .ok (.ifCond .eq 40, 3) := by decide +kernel
theorem dX10_families_86 : decode cX10_families 86 = .ok (.aload_n 0, 1) := by decide +kernel
theorem dX10_families_87 : decode cX10_families 87 = .ok (.getfield 19, 3) := by decide +kernel
theorem dX10_families_90 : decode cX10_families 90 = .ok (.iconst 1, 1) := by decide +kernel
theorem dX10_families_91 : decode cX10_families 91 = .ok (.iaload, 1) := by decide +kernel
theorem dX10_families_92 : decode cX10_families 92 = .ok (.istore 5, 2) := by decide +kernel
theorem dX10_families_94 : decode cX10_families 94 = .ok (.aload_n 0, 1) := by decide +kernel
theorem dX10_families_95 : decode cX10_families 95 = .ok (.aload_n 0, 1) := by decide +kernel
theorem dX10_families_96 : decode cX10_families 96 = .ok (.getfield 19, 3) := by decide +kernel
theorem dX10_families_99 : decode cX10_families 99 = .ok (.iload 4, 2) := by decide +kernel
theorem dX10_families_101 : decode cX10_families 101 = .ok (.invokevirtual 115, 3) := by decide +kernel
theorem dX10_families_104 : decode cX10_families 104 = .ok (.iload_n 2, 1) := by decide +kernel
theorem dX10_families_105 : decode cX10_families 105 = .ok (.aload_n 0, 1) := by decide +kernel
theorem dX10_families_106 : decode cX10_families 106 = .ok (.getfield 19, 3) := by decide +kernel
theorem dX10_families_109 : decode cX10_families 109 = .ok (.iconst 1, 1) := by decide +kernel
theorem dX10_families_110 : decode cX10_families 110 = .ok (.iaload, 1) := by decide +kernel
theorem dX10_families_111 : decode cX10_families 111 = .ok (.iload 5, 2) := by decide +kernel
theorem dX10_families_113 : decode cX10_families 113 = .ok (.if_icmp .eq 7, 3) := by decide +kernel
theorem dX10_families_116 : decode cX10_families 116 = .ok (.iconst 1, 1) := by decide +kernel
theorem dX10_families_117 : decode cX10_families 117 = .ok (.goto 4, 3) := by decide +kernel
theorem dX10_families_120 : decode cX10_families 120 = .ok (.iconst 0, 1) := by decide +kernel
theorem dX10_families_121 : decode cX10_families 121 = .ok (.iadd, 1) := by decide +kernel
theorem dX10_families_122 : decode cX10_families 122 = .ok (.istore_n 2, 1) := by decide +kernel
theorem dX10_families_123 : decode cX10_families 123 = .ok (.iinc 3 1, 3) := by decide +kernel
theorem dX10_families_126 : decode cX10_families 126 = .ok (.goto (-98), 3) := by decide +kernel
theorem dX10_families_129 : decode cX10_families 129 = .ok (.iload_n 2, 1) := by decide +kernel
theorem dX10_families_130 : decode cX10_families 130 = .ok (.ireturn, 1) := by decide +kernel
theorem dX10_keep_0 : decode cX10_keep 0 = .ok (.aload_n 0, 1) := by decide +kernel
theorem dX10_keep_1 : decode cX10_keep 1 = .ok (.iconst 0, 1) := by decide +kernel
theorem dX10_keep_2 : decode cX10_keep 2 = .ok (.putfield 41, 3) := by decide +kernel
theorem dX10_keep_5 : decode cX10_keep 5 = .ok (.iload_n 1, 1) := by decide +kernel
theorem dX10_keep_6 : decode cX10_keep 6 = .ok (.i2l, 1) := by decide +kernel
theorem dX10_keep_7 : decode cX10_keep 7 = .ok (.lconst 0, 1) := by decide +kernel
theorem dX10_keep_8 : decode cX10_keep 8 = .ok (.lconst 1, 1) := by decide +kernel
theorem dX10_keep_9 : decode cX10_keep 9 = .ok (.invokestatic 45, 3) := by decide +kernel
theorem dX10_keep_12 : decode cX10_keep 12 = .ok (.ifCond .ne 5, 3) := by decide +kernel
theorem dX10_keep_15 : decode cX10_keep 15 = .ok (.iconst (-1), 1) := by decide +kernel
theorem dX10_keep_16 : decode cX10_keep 16 = .ok (.ireturn, 1) := by decide +kernel
theorem dX10_keep_17 : decode cX10_keep 17 = .ok (.aload_n 0, 1) := by decide +kernel
theorem dX10_keep_18 : decode cX10_keep 18 = .ok (.getfield 28, 3) := by decide +kernel
theorem dX10_keep_21 : decode cX10_keep 21 = .ok (.iload_n 1, 1) := by decide +kernel
theorem dX10_keep_22 : decode cX10_keep 22 = .ok (.iconst 1, 1) := by decide +kernel
theorem dX10_keep_23 : decode cX10_keep 23 = .ok (.bastore, 1) := by decide +kernel
theorem dX10_keep_24 : decode cX10_keep 24 = .ok (.iconst 0, 1) := by decide +kernel
theorem dX10_keep_25 : decode cX10_keep 25 = .ok (.istore_n 2, 1) := by decide +kernel
theorem dX10_keep_26 : decode cX10_keep 26 = .ok (.iload_n 2, 1) := by decide +kernel
theorem dX10_keep_27 : decode cX10_keep 27 = .ok (.bipush 22, 2) := by decide +kernel
theorem dX10_keep_29 : decode cX10_keep 29 = .ok (.if_icmp .ge 26, 3) := by decide +kernel
theorem dX10_keep_32 : decode cX10_keep 32 = .ok (.aload_n 0, 1) := by decide +kernel
theorem dX10_keep_33 : decode cX10_keep 33 = .ok (.getfield 25, 3) := by decide +kernel
theorem dX10_keep_36 : decode cX10_keep 36 = .ok (.bipush 22, 2) := by decide +kernel
theorem dX10_keep_38 : decode cX10_keep 38 = .ok (.iload_n 1, 1) := by decide +kernel
theorem dX10_keep_39 : decode cX10_keep 39 = .ok (.imul, 1) := by decide +kernel
theorem dX10_keep_40 : decode cX10_keep 40 = .ok (.iload_n 2, 1) := by decide +kernel
theorem dX10_keep_41 : decode cX10_keep 41 = .ok (.iadd, 1) := by decide +kernel
theorem dX10_keep_42 : decode cX10_keep 42 = .ok (.aload_n 0, 1) := by decide +kernel
theorem dX10_keep_43 : decode cX10_keep 43 = .ok (.getfield 16, 3) := by decide +kernel
theorem dX10_keep_46 : decode cX10_keep 46 = .ok (.iload_n 2, 1) := by decide +kernel
theorem dX10_keep_47 : decode cX10_keep 47 = .ok (.iaload, 1) := by decide +kernel
theorem dX10_keep_48 : decode cX10_keep 48 = .ok (.iastore, 1) := by decide +kernel
theorem dX10_keep_49 : decode cX10_keep 49 = .ok (.iinc 2 1, 3) := by decide +kernel
theorem dX10_keep_52 : decode cX10_keep 52 = .ok (.goto (-26), 3) := by decide +kernel
theorem dX10_keep_55 : decode cX10_keep 55 = .ok (.aload_n 0, 1) := by decide +kernel
theorem dX10_keep_56 : decode cX10_keep 56 = .ok (.getfield 16, 3) := by decide +kernel
theorem dX10_keep_59 : decode cX10_keep 59 = .ok (.iconst 5, 1) := by decide +kernel
theorem dX10_keep_60 : decode cX10_keep 60 = .ok (.iaload, 1) := by decide +kernel
theorem dX10_keep_61 : decode cX10_keep 61 = .ok (.ireturn, 1) := by decide +kernel
theorem dX10_again_0 : decode cX10_again 0 = .ok (.aload_n 0, 1) := by decide +kernel
theorem dX10_again_1 : decode cX10_again 1 = .ok (.iconst 0, 1) := by decide +kernel
theorem dX10_again_2 : decode cX10_again 2 = .ok (.putfield 41, 3) := by decide +kernel
theorem dX10_again_5 : decode cX10_again 5 = .ok (.iload_n 1, 1) := by decide +kernel
theorem dX10_again_6 : decode cX10_again 6 = .ok (.i2l, 1) := by decide +kernel
theorem dX10_again_7 : decode cX10_again 7 = .ok (.lconst 0, 1) := by decide +kernel
theorem dX10_again_8 : decode cX10_again 8 = .ok (.lconst 1, 1) := by decide +kernel
theorem dX10_again_9 : decode cX10_again 9 = .ok (.invokestatic 45, 3) := by decide +kernel
theorem dX10_again_12 : decode cX10_again 12 = .ok (.ifCond .ne 5, 3) := by decide +kernel
theorem dX10_again_15 : decode cX10_again 15 = .ok (.iconst (-1), 1) := by decide +kernel
theorem dX10_again_16 : decode cX10_again 16 = .ok (.ireturn, 1) := by decide +kernel
theorem dX10_again_17 : decode cX10_again 17 = .ok (.aload_n 0, 1) := by decide +kernel
theorem dX10_again_18 : decode cX10_again 18 = .ok (.getfield 28, 3) := by decide +kernel
theorem dX10_again_21 : decode cX10_again 21 = .ok (.iload_n 1, 1) := by decide +kernel
theorem dX10_again_22 : decode cX10_again 22 = .ok (.baload, 1) := by decide +kernel
theorem dX10_again_23 : decode cX10_again 23 = .ok (.ifCond .ne 6, 3) := by decide +kernel
theorem dX10_again_26 : decode cX10_again 26 = .ok (.bipush (-3), 2) := by decide +kernel
theorem dX10_again_28 : decode cX10_again 28 = .ok (.ireturn, 1) := by decide +kernel
theorem dX10_again_29 : decode cX10_again 29 = .ok (.iconst 0, 1) := by decide +kernel
theorem dX10_again_30 : decode cX10_again 30 = .ok (.istore_n 2, 1) := by decide +kernel
theorem dX10_again_31 : decode cX10_again 31 = .ok (.iload_n 2, 1) := by decide +kernel
theorem dX10_again_32 : decode cX10_again 32 = .ok (.bipush 22, 2) := by decide +kernel
theorem dX10_again_34 : decode cX10_again 34 = .ok (.if_icmp .ge 26, 3) := by decide +kernel
theorem dX10_again_37 : decode cX10_again 37 = .ok (.aload_n 0, 1) := by decide +kernel
theorem dX10_again_38 : decode cX10_again 38 = .ok (.getfield 16, 3) := by decide +kernel
theorem dX10_again_41 : decode cX10_again 41 = .ok (.iload_n 2, 1) := by decide +kernel
theorem dX10_again_42 : decode cX10_again 42 = .ok (.aload_n 0, 1) := by decide +kernel
theorem dX10_again_43 : decode cX10_again 43 = .ok (.getfield 25, 3) := by decide +kernel
theorem dX10_again_46 : decode cX10_again 46 = .ok (.bipush 22, 2) := by decide +kernel
theorem dX10_again_48 : decode cX10_again 48 = .ok (.iload_n 1, 1) := by decide +kernel
theorem dX10_again_49 : decode cX10_again 49 = .ok (.imul, 1) := by decide +kernel
theorem dX10_again_50 : decode cX10_again 50 = .ok (.iload_n 2, 1) := by decide +kernel
theorem dX10_again_51 : decode cX10_again 51 = .ok (.iadd, 1) := by decide +kernel
theorem dX10_again_52 : decode cX10_again 52 = .ok (.iaload, 1) := by decide +kernel
theorem dX10_again_53 : decode cX10_again 53 = .ok (.iastore, 1) := by decide +kernel
theorem dX10_again_54 : decode cX10_again 54 = .ok (.iinc 2 1, 3) := by decide +kernel
theorem dX10_again_57 : decode cX10_again 57 = .ok (.goto (-26), 3) := by decide +kernel
theorem dX10_again_60 : decode cX10_again 60 = .ok (.aload_n 0, 1) := by decide +kernel
theorem dX10_again_61 : decode cX10_again 61 = .ok (.iconst 0, 1) := by decide +kernel
theorem dX10_again_62 : decode cX10_again 62 = .ok (.putfield 79, 3) := by decide +kernel
theorem dX10_again_65 : decode cX10_again 65 = .ok (.aload_n 0, 1) := by decide +kernel
theorem dX10_again_66 : decode cX10_again 66 = .ok (.getfield 16, 3) := by decide +kernel
theorem dX10_again_69 : decode cX10_again 69 = .ok (.iconst 5, 1) := by decide +kernel
theorem dX10_again_70 : decode cX10_again 70 = .ok (.iaload, 1) := by decide +kernel
theorem dX10_again_71 : decode cX10_again 71 = .ok (.ireturn, 1) := by decide +kernel
theorem dJ6_bitCount_0f7a4_0 : decode cJ6_bitCount_0f7a4 0 = .ok (.iload_n 0, 1) := by decide +kernel
theorem dJ6_bitCount_0f7a4_1 : decode cJ6_bitCount_0f7a4 1 = .ok (.iload_n 0, 1) := by decide +kernel
theorem dJ6_bitCount_0f7a4_2 : decode cJ6_bitCount_0f7a4 2 = .ok (.iconst 1, 1) := by decide +kernel
theorem dJ6_bitCount_0f7a4_3 : decode cJ6_bitCount_0f7a4 3 = .ok (.iushr, 1) := by decide +kernel
theorem dJ6_bitCount_0f7a4_4 : decode cJ6_bitCount_0f7a4 4 = .ok (.ldc_w 265, 3) := by decide +kernel
theorem dJ6_bitCount_0f7a4_7 : decode cJ6_bitCount_0f7a4 7 = .ok (.iand, 1) := by decide +kernel
theorem dJ6_bitCount_0f7a4_8 : decode cJ6_bitCount_0f7a4 8 = .ok (.isub, 1) := by decide +kernel
theorem dJ6_bitCount_0f7a4_9 : decode cJ6_bitCount_0f7a4 9 = .ok (.istore_n 0, 1) := by decide +kernel
theorem dJ6_bitCount_0f7a4_10 : decode cJ6_bitCount_0f7a4 10 = .ok (.iload_n 0, 1) := by decide +kernel
theorem dJ6_bitCount_0f7a4_11 : decode cJ6_bitCount_0f7a4 11 = .ok (.ldc_w 266, 3) := by decide +kernel
theorem dJ6_bitCount_0f7a4_14 : decode cJ6_bitCount_0f7a4 14 = .ok (.iand, 1) := by decide +kernel
theorem dJ6_bitCount_0f7a4_15 : decode cJ6_bitCount_0f7a4 15 = .ok (.iload_n 0, 1) := by decide +kernel
theorem dJ6_bitCount_0f7a4_16 : decode cJ6_bitCount_0f7a4 16 = .ok (.iconst 2, 1) := by decide +kernel
theorem dJ6_bitCount_0f7a4_17 : decode cJ6_bitCount_0f7a4 17 = .ok (.iushr, 1) := by decide +kernel
theorem dJ6_bitCount_0f7a4_18 : decode cJ6_bitCount_0f7a4 18 = .ok (.ldc_w 266, 3) := by decide +kernel
theorem dJ6_bitCount_0f7a4_21 : decode cJ6_bitCount_0f7a4 21 = .ok (.iand, 1) := by decide +kernel
theorem dJ6_bitCount_0f7a4_22 : decode cJ6_bitCount_0f7a4 22 = .ok (.iadd, 1) := by decide +kernel
theorem dJ6_bitCount_0f7a4_23 : decode cJ6_bitCount_0f7a4 23 = .ok (.istore_n 0, 1) := by decide +kernel
theorem dJ6_bitCount_0f7a4_24 : decode cJ6_bitCount_0f7a4 24 = .ok (.iload_n 0, 1) := by decide +kernel
theorem dJ6_bitCount_0f7a4_25 : decode cJ6_bitCount_0f7a4 25 = .ok (.iload_n 0, 1) := by decide +kernel
theorem dJ6_bitCount_0f7a4_26 : decode cJ6_bitCount_0f7a4 26 = .ok (.iconst 4, 1) := by decide +kernel
theorem dJ6_bitCount_0f7a4_27 : decode cJ6_bitCount_0f7a4 27 = .ok (.iushr, 1) := by decide +kernel
theorem dJ6_bitCount_0f7a4_28 : decode cJ6_bitCount_0f7a4 28 = .ok (.iadd, 1) := by decide +kernel
theorem dJ6_bitCount_0f7a4_29 : decode cJ6_bitCount_0f7a4 29 = .ok (.ldc_w 267, 3) := by decide +kernel
theorem dJ6_bitCount_0f7a4_32 : decode cJ6_bitCount_0f7a4 32 = .ok (.iand, 1) := by decide +kernel
theorem dJ6_bitCount_0f7a4_33 : decode cJ6_bitCount_0f7a4 33 = .ok (.istore_n 0, 1) := by decide +kernel
theorem dJ6_bitCount_0f7a4_34 : decode cJ6_bitCount_0f7a4 34 = .ok (.iload_n 0, 1) := by decide +kernel
theorem dJ6_bitCount_0f7a4_35 : decode cJ6_bitCount_0f7a4 35 = .ok (.iload_n 0, 1) := by decide +kernel
theorem dJ6_bitCount_0f7a4_36 : decode cJ6_bitCount_0f7a4 36 = .ok (.bipush 8, 2) := by decide +kernel
theorem dJ6_bitCount_0f7a4_38 : decode cJ6_bitCount_0f7a4 38 = .ok (.iushr, 1) := by decide +kernel
theorem dJ6_bitCount_0f7a4_39 : decode cJ6_bitCount_0f7a4 39 = .ok (.iadd, 1) := by decide +kernel
theorem dJ6_bitCount_0f7a4_40 : decode cJ6_bitCount_0f7a4 40 = .ok (.istore_n 0, 1) := by decide +kernel
theorem dJ6_bitCount_0f7a4_41 : decode cJ6_bitCount_0f7a4 41 = .ok (.iload_n 0, 1) := by decide +kernel
theorem dJ6_bitCount_0f7a4_42 : decode cJ6_bitCount_0f7a4 42 = .ok (.iload_n 0, 1) := by decide +kernel
theorem dJ6_bitCount_0f7a4_43 : decode cJ6_bitCount_0f7a4 43 = .ok (.bipush 16, 2) := by decide +kernel
theorem dJ6_bitCount_0f7a4_45 : decode cJ6_bitCount_0f7a4 45 = .ok (.iushr, 1) := by decide +kernel
theorem dJ6_bitCount_0f7a4_46 : decode cJ6_bitCount_0f7a4 46 = .ok (.iadd, 1) := by decide +kernel
theorem dJ6_bitCount_0f7a4_47 : decode cJ6_bitCount_0f7a4 47 = .ok (.istore_n 0, 1) := by decide +kernel
theorem dJ6_bitCount_0f7a4_48 : decode cJ6_bitCount_0f7a4 48 = .ok (.iload_n 0, 1) := by decide +kernel
theorem dJ6_bitCount_0f7a4_49 : decode cJ6_bitCount_0f7a4 49 = .ok (.bipush 63, 2) := by decide +kernel
theorem dJ6_bitCount_0f7a4_51 : decode cJ6_bitCount_0f7a4 51 = .ok (.iand, 1) := by decide +kernel
theorem dJ6_bitCount_0f7a4_52 : decode cJ6_bitCount_0f7a4 52 = .ok (.ireturn, 1) := by decide +kernel
theorem dJ9_max_7cf53_0 : decode cJ9_max_7cf53 0 = .ok (.iload_n 0, 1) := by decide +kernel
theorem dJ9_max_7cf53_1 : decode cJ9_max_7cf53 1 = .ok (.iload_n 1, 1) := by decide +kernel
theorem dJ9_max_7cf53_2 : decode cJ9_max_7cf53 2 = .ok (.if_icmp .lt 7, 3) := by decide +kernel
theorem dJ9_max_7cf53_5 : decode cJ9_max_7cf53 5 = .ok (.iload_n 0, 1) := by decide +kernel
theorem dJ9_max_7cf53_6 : decode cJ9_max_7cf53 6 = .ok (.goto 4, 3) := by decide +kernel
theorem dJ9_max_7cf53_9 : decode cJ9_max_7cf53 9 = .ok (.iload_n 1, 1) := by decide +kernel
theorem dJ9_max_7cf53_10 : decode cJ9_max_7cf53 10 = .ok (.ireturn, 1) := by decide +kernel
theorem dJ9_min_7cf53_0 : decode cJ9_min_7cf53 0 = .ok (.iload_n 0, 1) := by decide +kernel
theorem dJ9_min_7cf53_1 : decode cJ9_min_7cf53 1 = .ok (.iload_n 1, 1) := by decide +kernel
theorem dJ9_min_7cf53_2 : decode cJ9_min_7cf53 2 = .ok (.if_icmp .gt 7, 3) := by decide +kernel
theorem dJ9_min_7cf53_5 : decode cJ9_min_7cf53 5 = .ok (.iload_n 0, 1) := by decide +kernel
theorem dJ9_min_7cf53_6 : decode cJ9_min_7cf53 6 = .ok (.goto 4, 3) := by decide +kernel
theorem dJ9_min_7cf53_9 : decode cJ9_min_7cf53 9 = .ok (.iload_n 1, 1) := by decide +kernel
theorem dJ9_min_7cf53_10 : decode cJ9_min_7cf53 10 = .ok (.ireturn, 1) := by decide +kernel
theorem dJ7_fill_53178_0 : decode cJ7_fill_53178 0 = .ok (.iconst 0, 1) := by decide +kernel
theorem dJ7_fill_53178_1 : decode cJ7_fill_53178 1 = .ok (.istore_n 2, 1) := by decide +kernel
theorem dJ7_fill_53178_2 : decode cJ7_fill_53178 2 = .ok (.aload_n 0, 1) := by decide +kernel
theorem dJ7_fill_53178_3 : decode cJ7_fill_53178 3 = .ok (.arraylength, 1) := by decide +kernel
theorem dJ7_fill_53178_4 : decode cJ7_fill_53178 4 = .ok (.istore_n 3, 1) := by decide +kernel
theorem dJ7_fill_53178_5 : decode cJ7_fill_53178 5 = .ok (.iload_n 2, 1) := by decide +kernel
theorem dJ7_fill_53178_6 : decode cJ7_fill_53178 6 = .ok (.iload_n 3, 1) := by decide +kernel
theorem dJ7_fill_53178_7 : decode cJ7_fill_53178 7 = .ok (.if_icmp .ge 13, 3) := by decide +kernel
theorem dJ7_fill_53178_10 : decode cJ7_fill_53178 10 = .ok (.aload_n 0, 1) := by decide +kernel
theorem dJ7_fill_53178_11 : decode cJ7_fill_53178 11 = .ok (.iload_n 2, 1) := by decide +kernel
theorem dJ7_fill_53178_12 : decode cJ7_fill_53178 12 = .ok (.iload_n 1, 1) := by decide +kernel
theorem dJ7_fill_53178_13 : decode cJ7_fill_53178 13 = .ok (.iastore, 1) := by decide +kernel
theorem dJ7_fill_53178_14 : decode cJ7_fill_53178 14 = .ok (.iinc 2 1, 3) := by decide +kernel
theorem dJ7_fill_53178_17 : decode cJ7_fill_53178 17 = .ok (.goto (-12), 3) := by decide +kernel
theorem dJ7_fill_53178_20 : decode cJ7_fill_53178 20 = .ok (.return_, 1) := by decide +kernel
theorem dL_law_0 : decode cL_law 0 = .ok (.new 7, 3) := by decide +kernel
theorem dL_law_3 : decode cL_law 3 = .ok (.dup, 1) := by decide +kernel
theorem dL_law_4 : decode cL_law 4 = .ok (.invokespecial 9, 3) := by decide +kernel
theorem dL_law_7 : decode cL_law 7 = .ok (.astore_n 1, 1) := by decide +kernel
theorem dL_law_8 : decode cL_law 8 = .ok (.new 10, 3) := by decide +kernel
theorem dL_law_11 : decode cL_law 11 = .ok (.dup, 1) := by decide +kernel
theorem dL_law_12 : decode cL_law 12 = .ok (.invokespecial 12, 3) := by decide +kernel
theorem dL_law_15 : decode cL_law 15 = .ok (.astore_n 2, 1) := by decide +kernel
theorem dL_law_16 : decode cL_law 16 = .ok (.iconst 0, 1) := by decide +kernel
theorem dL_law_17 : decode cL_law 17 = .ok (.istore_n 3, 1) := by decide +kernel
theorem dL_law_18 : decode cL_law 18 = .ok (.iload_n 3, 1) := by decide +kernel
theorem dL_law_19 : decode cL_law 19 = .ok (.aload_n 0, 1) := by decide +kernel
theorem dL_law_20 : decode cL_law 20 = .ok (.arraylength, 1) := by decide +kernel
theorem dL_law_21 : decode cL_law 21 = .ok (.iconst 4, 1) := by decide +kernel
theorem dL_law_22 : decode cL_law 22 = .ok (.isub, 1) := by decide +kernel
theorem dL_law_23 : decode cL_law 23 = .ok (.if_icmp .gt 908, 3) := by decide +kernel
theorem dL_law_26 : decode cL_law 26 = .ok (.aload_n 0, 1) := by decide +kernel
theorem dL_law_27 : decode cL_law 27 = .ok (.iload_n 3, 1) := by decide +kernel
theorem dL_law_28 : decode cL_law 28 = .ok (.iaload, 1) := by decide +kernel
theorem dL_law_29 : decode cL_law 29 = .ok (.bipush 31, 2) := by decide +kernel
theorem dL_law_31 : decode cL_law 31 = .ok (.iand, 1) := by decide +kernel
theorem dL_law_32 : decode cL_law 32 = .ok (.tableswitch 893 0 25 #[120, 143, 156, 169, 182, 205, 238, 261, 294, 317, 340, 363, 376, 389, 422, 465, 488, 511, 586, 629, 662, 711, 770, 824, 847, 870], 120) := by decide +kernel
theorem dL_law_152 : decode cL_law 152 = .ok (.aload_n 1, 1) := by decide +kernel
theorem dL_law_153 : decode cL_law 153 = .ok (.aload_n 0, 1) := by decide +kernel
theorem dL_law_154 : decode cL_law 154 = .ok (.iload_n 3, 1) := by decide +kernel
theorem dL_law_155 : decode cL_law 155 = .ok (.iconst 1, 1) := by decide +kernel
theorem dL_law_156 : decode cL_law 156 = .ok (.iadd, 1) := by decide +kernel
theorem dL_law_157 : decode cL_law 157 = .ok (.iaload, 1) := by decide +kernel
theorem dL_law_158 : decode cL_law 158 = .ok (.invokevirtual 13, 3) := by decide +kernel
theorem dL_law_161 : decode cL_law 161 = .ok (.aload_n 2, 1) := by decide +kernel
theorem dL_law_162 : decode cL_law 162 = .ok (.aload_n 0, 1) := by decide +kernel
theorem dL_law_163 : decode cL_law 163 = .ok (.iload_n 3, 1) := by decide +kernel
theorem dL_law_164 : decode cL_law 164 = .ok (.iconst 1, 1) := by decide +kernel
theorem dL_law_165 : decode cL_law 165 = .ok (.iadd, 1) := by decide +kernel
theorem dL_law_166 : decode cL_law 166 = .ok (.iaload, 1) := by decide +kernel
theorem dL_law_167 : decode cL_law 167 = .ok (.invokevirtual 17, 3) := by decide +kernel
theorem dL_law_170 : decode cL_law 170 = .ok (.if_icmp .eq 755, 3) := by decide +kernel
theorem dL_law_173 : decode cL_law 173 = .ok (.iconst 0, 1) := by decide +kernel
theorem dL_law_174 : decode cL_law 174 = .ok (.ireturn, 1) := by decide +kernel
theorem dL_law_175 : decode cL_law 175 = .ok (.aload_n 1, 1) := by decide +kernel
theorem dL_law_176 : decode cL_law 176 = .ok (.invokevirtual 18, 3) := by decide +kernel
theorem dL_law_179 : decode cL_law 179 = .ok (.aload_n 2, 1) := by decide +kernel
theorem dL_law_180 : decode cL_law 180 = .ok (.invokevirtual 22, 3) := by decide +kernel
theorem dL_law_183 : decode cL_law 183 = .ok (.if_icmp .eq 742, 3) := by decide +kernel
theorem dL_law_186 : decode cL_law 186 = .ok (.iconst 0, 1) := by decide +kernel
theorem dL_law_187 : decode cL_law 187 = .ok (.ireturn, 1) := by decide +kernel
theorem dL_law_188 : decode cL_law 188 = .ok (.aload_n 1, 1) := by decide +kernel
theorem dL_law_189 : decode cL_law 189 = .ok (.invokevirtual 23, 3) := by decide +kernel
theorem dL_law_192 : decode cL_law 192 = .ok (.aload_n 2, 1) := by decide +kernel
theorem dL_law_193 : decode cL_law 193 = .ok (.invokevirtual 26, 3) := by decide +kernel
theorem dL_law_196 : decode cL_law 196 = .ok (.if_icmp .eq 729, 3) := by decide +kernel
theorem dL_law_199 : decode cL_law 199 = .ok (.iconst 0, 1) := by decide +kernel
theorem dL_law_200 : decode cL_law 200 = .ok (.ireturn, 1) := by decide +kernel
theorem dL_law_201 : decode cL_law 201 = .ok (.aload_n 1, 1) := by decide +kernel
theorem dL_law_202 : decode cL_law 202 = .ok (.invokevirtual 27, 3) := by decide +kernel
theorem dL_law_205 : decode cL_law 205 = .ok (.aload_n 2, 1) := by decide +kernel
theorem dL_law_206 : decode cL_law 206 = .ok (.invokevirtual 30, 3) := by decide +kernel
theorem dL_law_209 : decode cL_law 209 = .ok (.if_icmp .eq 716, 3) := by decide +kernel
theorem dL_law_212 : decode cL_law 212 = .ok (.iconst 0, 1) := by decide +kernel
theorem dL_law_213 : decode cL_law 213 = .ok (.ireturn, 1) := by decide +kernel
theorem dL_law_214 : decode cL_law 214 = .ok (.aload_n 1, 1) := by decide +kernel
theorem dL_law_215 : decode cL_law 215 = .ok (.aload_n 0, 1) := by decide +kernel
theorem dL_law_216 : decode cL_law 216 = .ok (.iload_n 3, 1) := by decide +kernel
theorem dL_law_217 : decode cL_law 217 = .ok (.iconst 1, 1) := by decide +kernel
theorem dL_law_218 : decode cL_law 218 = .ok (.iadd, 1) := by decide +kernel
theorem dL_law_219 : decode cL_law 219 = .ok (.iaload, 1) := by decide +kernel
theorem dL_law_220 : decode cL_law 220 = .ok (.invokevirtual 31, 3) := by decide +kernel
theorem dL_law_223 : decode cL_law 223 = .ok (.aload_n 2, 1) := by decide +kernel
theorem dL_law_224 : decode cL_law 224 = .ok (.aload_n 0, 1) := by decide +kernel
theorem dL_law_225 : decode cL_law 225 = .ok (.iload_n 3, 1) := by decide +kernel
theorem dL_law_226 : decode cL_law 226 = .ok (.iconst 1, 1) := by decide +kernel
theorem dL_law_227 : decode cL_law 227 = .ok (.iadd, 1) := by decide +kernel
theorem dL_law_228 : decode cL_law 228 = .ok (.iaload, 1) := by decide +kernel
theorem dL_law_229 : decode cL_law 229 = .ok (.invokevirtual 34, 3) := by decide +kernel
theorem dL_law_232 : decode cL_law 232 = .ok (.if_icmp .eq 693, 3) := by decide +kernel
theorem dL_law_235 : decode cL_law 235 = .ok (.iconst 0, 1) := by decide +kernel
theorem dL_law_236 : decode cL_law 236 = .ok (.ireturn, 1) := by decide +kernel
theorem dL_law_237 : decode cL_law 237 = .ok (.aload_n 1, 1) := by decide +kernel
theorem dL_law_238 : decode cL_law 238 = .ok (.aload_n 0, 1) := by decide +kernel
theorem dL_law_239 : decode cL_law 239 = .ok (.iload_n 3, 1) := by decide +kernel
theorem dL_law_240 : decode cL_law 240 = .ok (.iconst 1, 1) := by decide +kernel
theorem dL_law_241 : decode cL_law 241 = .ok (.iadd, 1) := by decide +kernel
theorem dL_law_242 : decode cL_law 242 = .ok (.iaload, 1) := by decide +kernel
theorem dL_law_243 : decode cL_law 243 = .ok (.aload_n 0, 1) := by decide +kernel
theorem dL_law_244 : decode cL_law 244 = .ok (.iload_n 3, 1) := by decide +kernel
theorem dL_law_245 : decode cL_law 245 = .ok (.iconst 2, 1) := by decide +kernel
theorem dL_law_246 : decode cL_law 246 = .ok (.iadd, 1) := by decide +kernel
theorem dL_law_247 : decode cL_law 247 = .ok (.iaload, 1) := by decide +kernel
theorem dL_law_248 : decode cL_law 248 = .ok (.invokevirtual 35, 3) := by decide +kernel
theorem dL_law_251 : decode cL_law 251 = .ok (.aload_n 2, 1) := by decide +kernel
theorem dL_law_252 : decode cL_law 252 = .ok (.aload_n 0, 1) := by decide +kernel
theorem dL_law_253 : decode cL_law 253 = .ok (.iload_n 3, 1) := by decide +kernel
theorem dL_law_254 : decode cL_law 254 = .ok (.iconst 1, 1) := by decide +kernel
theorem dL_law_255 : decode cL_law 255 = .ok (.iadd, 1) := by decide +kernel
theorem dL_law_256 : decode cL_law 256 = .ok (.iaload, 1) := by decide +kernel
theorem dL_law_257 : decode cL_law 257 = .ok (.aload_n 0, 1) := by decide +kernel
theorem dL_law_258 : decode cL_law 258 = .ok (.iload_n 3, 1) := by decide +kernel
theorem dL_law_259 : decode cL_law 259 = .ok (.iconst 2, 1) := by decide +kernel
theorem dL_law_260 : decode cL_law 260 = .ok (.iadd, 1) := by decide +kernel
theorem dL_law_261 : decode cL_law 261 = .ok (.iaload, 1) := by decide +kernel
theorem dL_law_262 : decode cL_law 262 = .ok (.invokevirtual 39, 3) := by decide +kernel
theorem dL_law_265 : decode cL_law 265 = .ok (.if_icmp .eq 660, 3) := by decide +kernel
theorem dL_law_268 : decode cL_law 268 = .ok (.iconst 0, 1) := by decide +kernel
theorem dL_law_269 : decode cL_law 269 = .ok (.ireturn, 1) := by decide +kernel
theorem dL_law_270 : decode cL_law 270 = .ok (.aload_n 1, 1) := by decide +kernel
theorem dL_law_271 : decode cL_law 271 = .ok (.aload_n 0, 1) := by decide +kernel
theorem dL_law_272 : decode cL_law 272 = .ok (.iload_n 3, 1) := by decide +kernel
theorem dL_law_273 : decode cL_law 273 = .ok (.iconst 1, 1) := by decide +kernel
theorem dL_law_274 : decode cL_law 274 = .ok (.iadd, 1) := by decide +kernel
theorem dL_law_275 : decode cL_law 275 = .ok (.iaload, 1) := by decide +kernel
theorem dL_law_276 : decode cL_law 276 = .ok (.invokevirtual 40, 3) := by decide +kernel
theorem dL_law_279 : decode cL_law 279 = .ok (.aload_n 2, 1) := by decide +kernel
theorem dL_law_280 : decode cL_law 280 = .ok (.aload_n 0, 1) := by decide +kernel
theorem dL_law_281 : decode cL_law 281 = .ok (.iload_n 3, 1) := by decide +kernel
theorem dL_law_282 : decode cL_law 282 = .ok (.iconst 1, 1) := by decide +kernel
theorem dL_law_283 : decode cL_law 283 = .ok (.iadd, 1) := by decide +kernel
theorem dL_law_284 : decode cL_law 284 = .ok (.iaload, 1) := by decide +kernel
theorem dL_law_285 : decode cL_law 285 = .ok (.invokevirtual 43, 3) := by decide +kernel
theorem dL_law_288 : decode cL_law 288 = .ok (.if_icmp .eq 637, 3) := by decide +kernel
theorem dL_law_291 : decode cL_law 291 = .ok (.iconst 0, 1) := by decide +kernel
theorem dL_law_292 : decode cL_law 292 = .ok (.ireturn, 1) := by decide +kernel
theorem dL_law_293 : decode cL_law 293 = .ok (.aload_n 1, 1) := by decide +kernel
theorem dL_law_294 : decode cL_law 294 = .ok (.aload_n 0, 1) := by decide +kernel
theorem dL_law_295 : decode cL_law 295 = .ok (.iload_n 3, 1) := by decide +kernel
theorem dL_law_296 : decode cL_law 296 = .ok (.iconst 1, 1) := by decide +kernel
theorem dL_law_297 : decode cL_law 297 = .ok (.iadd, 1) := by decide +kernel
theorem dL_law_298 : decode cL_law 298 = .ok (.iaload, 1) := by decide +kernel
theorem dL_law_299 : decode cL_law 299 = .ok (.aload_n 0, 1) := by decide +kernel
theorem dL_law_300 : decode cL_law 300 = .ok (.iload_n 3, 1) := by decide +kernel
theorem dL_law_301 : decode cL_law 301 = .ok (.iconst 2, 1) := by decide +kernel
theorem dL_law_302 : decode cL_law 302 = .ok (.iadd, 1) := by decide +kernel
theorem dL_law_303 : decode cL_law 303 = .ok (.iaload, 1) := by decide +kernel
theorem dL_law_304 : decode cL_law 304 = .ok (.invokevirtual 44, 3) := by decide +kernel
theorem dL_law_307 : decode cL_law 307 = .ok (.aload_n 2, 1) := by decide +kernel
theorem dL_law_308 : decode cL_law 308 = .ok (.aload_n 0, 1) := by decide +kernel
theorem dL_law_309 : decode cL_law 309 = .ok (.iload_n 3, 1) := by decide +kernel
theorem dL_law_310 : decode cL_law 310 = .ok (.iconst 1, 1) := by decide +kernel
theorem dL_law_311 : decode cL_law 311 = .ok (.iadd, 1) := by decide +kernel
theorem dL_law_312 : decode cL_law 312 = .ok (.iaload, 1) := by decide +kernel
theorem dL_law_313 : decode cL_law 313 = .ok (.aload_n 0, 1) := by decide +kernel
theorem dL_law_314 : decode cL_law 314 = .ok (.iload_n 3, 1) := by decide +kernel
theorem dL_law_315 : decode cL_law 315 = .ok (.iconst 2, 1) := by decide +kernel
theorem dL_law_316 : decode cL_law 316 = .ok (.iadd, 1) := by decide +kernel
theorem dL_law_317 : decode cL_law 317 = .ok (.iaload, 1) := by decide +kernel
theorem dL_law_318 : decode cL_law 318 = .ok (.invokevirtual 47, 3) := by decide +kernel
theorem dL_law_321 : decode cL_law 321 = .ok (.if_icmp .eq 604, 3) := by decide +kernel
theorem dL_law_324 : decode cL_law 324 = .ok (.iconst 0, 1) := by decide +kernel
theorem dL_law_325 : decode cL_law 325 = .ok (.ireturn, 1) := by decide +kernel
theorem dL_law_326 : decode cL_law 326 = .ok (.aload_n 1, 1) := by decide +kernel
theorem dL_law_327 : decode cL_law 327 = .ok (.aload_n 0, 1) := by decide +kernel
theorem dL_law_328 : decode cL_law 328 = .ok (.iload_n 3, 1) := by decide +kernel
theorem dL_law_329 : decode cL_law 329 = .ok (.iconst 1, 1) := by decide +kernel
theorem dL_law_330 : decode cL_law 330 = .ok (.iadd, 1) := by decide +kernel
theorem dL_law_331 : decode cL_law 331 = .ok (.iaload, 1) := by decide +kernel
theorem dL_law_332 : decode cL_law 332 = .ok (.invokevirtual 48, 3) := by decide +kernel
theorem dL_law_335 : decode cL_law 335 = .ok (.aload_n 2, 1) := by decide +kernel
theorem dL_law_336 : decode cL_law 336 = .ok (.aload_n 0, 1) := by decide +kernel
theorem dL_law_337 : decode cL_law 337 = .ok (.iload_n 3, 1) := by decide +kernel
theorem dL_law_338 : decode cL_law 338 = .ok (.iconst 1, 1) := by decide +kernel
theorem dL_law_339 : decode cL_law 339 = .ok (.iadd, 1) := by decide +kernel
theorem dL_law_340 : decode cL_law 340 = .ok (.iaload, 1) := by decide +kernel
theorem dL_law_341 : decode cL_law 341 = .ok (.invokevirtual 51, 3) := by decide +kernel
theorem dL_law_344 : decode cL_law 344 = .ok (.if_icmp .eq 581, 3) := by decide +kernel
theorem dL_law_347 : decode cL_law 347 = .ok (.iconst 0, 1) := by decide +kernel
theorem dL_law_348 : decode cL_law 348 = .ok (.ireturn, 1) := by decide +kernel
theorem dL_law_349 : decode cL_law 349 = .ok (.aload_n 1, 1) := by decide +kernel
theorem dL_law_350 : decode cL_law 350 = .ok (.aload_n 0, 1) := by decide +kernel
theorem dL_law_351 : decode cL_law 351 = .ok (.iload_n 3, 1) := by decide +kernel
theorem dL_law_352 : decode cL_law 352 = .ok (.iconst 1, 1) := by decide +kernel
theorem dL_law_353 : decode cL_law 353 = .ok (.iadd, 1) := by decide +kernel
theorem dL_law_354 : decode cL_law 354 = .ok (.iaload, 1) := by decide +kernel
theorem dL_law_355 : decode cL_law 355 = .ok (.invokevirtual 52, 3) := by decide +kernel
theorem dL_law_358 : decode cL_law 358 = .ok (.aload_n 2, 1) := by decide +kernel
theorem dL_law_359 : decode cL_law 359 = .ok (.aload_n 0, 1) := by decide +kernel
theorem dL_law_360 : decode cL_law 360 = .ok (.iload_n 3, 1) := by decide +kernel
theorem dL_law_361 : decode cL_law 361 = .ok (.iconst 1, 1) := by decide +kernel
theorem dL_law_362 : decode cL_law 362 = .ok (.iadd, 1) := by decide +kernel
theorem dL_law_363 : decode cL_law 363 = .ok (.iaload, 1) := by decide +kernel
theorem dL_law_364 : decode cL_law 364 = .ok (.invokevirtual 55, 3) := by decide +kernel
theorem dL_law_367 : decode cL_law 367 = .ok (.if_icmp .eq 558, 3) := by decide +kernel
theorem dL_law_370 : decode cL_law 370 = .ok (.iconst 0, 1) := by decide +kernel
theorem dL_law_371 : decode cL_law 371 = .ok (.ireturn, 1) := by decide +kernel
theorem dL_law_372 : decode cL_law 372 = .ok (.aload_n 1, 1) := by decide +kernel
theorem dL_law_373 : decode cL_law 373 = .ok (.aload_n 0, 1) := by decide +kernel
theorem dL_law_374 : decode cL_law 374 = .ok (.iload_n 3, 1) := by decide +kernel
theorem dL_law_375 : decode cL_law 375 = .ok (.iconst 1, 1) := by decide +kernel
theorem dL_law_376 : decode cL_law 376 = .ok (.iadd, 1) := by decide +kernel
theorem dL_law_377 : decode cL_law 377 = .ok (.iaload, 1) := by decide +kernel
theorem dL_law_378 : decode cL_law 378 = .ok (.invokevirtual 56, 3) := by decide +kernel
theorem dL_law_381 : decode cL_law 381 = .ok (.aload_n 2, 1) := by decide +kernel
theorem dL_law_382 : decode cL_law 382 = .ok (.aload_n 0, 1) := by decide +kernel
theorem dL_law_383 : decode cL_law 383 = .ok (.iload_n 3, 1) := by decide +kernel
theorem dL_law_384 : decode cL_law 384 = .ok (.iconst 1, 1) := by decide +kernel
theorem dL_law_385 : decode cL_law 385 = .ok (.iadd, 1) := by decide +kernel
theorem dL_law_386 : decode cL_law 386 = .ok (.iaload, 1) := by decide +kernel
theorem dL_law_387 : decode cL_law 387 = .ok (.invokevirtual 59, 3) := by decide +kernel
theorem dL_law_390 : decode cL_law 390 = .ok (.if_icmp .eq 535, 3) := by decide +kernel
theorem dL_law_393 : decode cL_law 393 = .ok (.iconst 0, 1) := by decide +kernel
theorem dL_law_394 : decode cL_law 394 = .ok (.ireturn, 1) := by decide +kernel
theorem dL_law_395 : decode cL_law 395 = .ok (.aload_n 1, 1) := by decide +kernel
theorem dL_law_396 : decode cL_law 396 = .ok (.invokevirtual 60, 3) := by decide +kernel
theorem dL_law_399 : decode cL_law 399 = .ok (.aload_n 2, 1) := by decide +kernel
theorem dL_law_400 : decode cL_law 400 = .ok (.invokevirtual 63, 3) := by decide +kernel
theorem dL_law_403 : decode cL_law 403 = .ok (.if_icmp .eq 522, 3) := by decide +kernel
theorem dL_law_406 : decode cL_law 406 = .ok (.iconst 0, 1) := by decide +kernel
theorem dL_law_407 : decode cL_law 407 = .ok (.ireturn, 1) := by decide +kernel
theorem dL_law_408 : decode cL_law 408 = .ok (.aload_n 1, 1) := by decide +kernel
theorem dL_law_409 : decode cL_law 409 = .ok (.invokevirtual 64, 3) := by decide +kernel
theorem dL_law_412 : decode cL_law 412 = .ok (.aload_n 2, 1) := by decide +kernel
theorem dL_law_413 : decode cL_law 413 = .ok (.invokevirtual 67, 3) := by decide +kernel
theorem dL_law_416 : decode cL_law 416 = .ok (.if_icmp .eq 509, 3) := by decide +kernel
theorem dL_law_419 : decode cL_law 419 = .ok (.iconst 0, 1) := by decide +kernel
theorem dL_law_420 : decode cL_law 420 = .ok (.ireturn, 1) := by decide +kernel
theorem dL_law_421 : decode cL_law 421 = .ok (.aload_n 1, 1) := by decide +kernel
theorem dL_law_422 : decode cL_law 422 = .ok (.aload_n 0, 1) := by decide +kernel
theorem dL_law_423 : decode cL_law 423 = .ok (.iload_n 3, 1) := by decide +kernel
theorem dL_law_424 : decode cL_law 424 = .ok (.iconst 1, 1) := by decide +kernel
theorem dL_law_425 : decode cL_law 425 = .ok (.iadd, 1) := by decide +kernel
theorem dL_law_426 : decode cL_law 426 = .ok (.iaload, 1) := by decide +kernel
theorem dL_law_427 : decode cL_law 427 = .ok (.aload_n 0, 1) := by decide +kernel
theorem dL_law_428 : decode cL_law 428 = .ok (.iload_n 3, 1) := by decide +kernel
theorem dL_law_429 : decode cL_law 429 = .ok (.iconst 2, 1) := by decide +kernel
theorem dL_law_430 : decode cL_law 430 = .ok (.iadd, 1) := by decide +kernel
theorem dL_law_431 : decode cL_law 431 = .ok (.iaload, 1) := by decide +kernel
theorem dL_law_432 : decode cL_law 432 = .ok (.invokevirtual 68, 3) := by decide +kernel
theorem dL_law_435 : decode cL_law 435 = .ok (.aload_n 2, 1) := by decide +kernel
theorem dL_law_436 : decode cL_law 436 = .ok (.aload_n 0, 1) := by decide +kernel
theorem dL_law_437 : decode cL_law 437 = .ok (.iload_n 3, 1) := by decide +kernel
theorem dL_law_438 : decode cL_law 438 = .ok (.iconst 1, 1) := by decide +kernel
theorem dL_law_439 : decode cL_law 439 = .ok (.iadd, 1) := by decide +kernel
theorem dL_law_440 : decode cL_law 440 = .ok (.iaload, 1) := by decide +kernel
theorem dL_law_441 : decode cL_law 441 = .ok (.aload_n 0, 1) := by decide +kernel
theorem dL_law_442 : decode cL_law 442 = .ok (.iload_n 3, 1) := by decide +kernel
theorem dL_law_443 : decode cL_law 443 = .ok (.iconst 2, 1) := by decide +kernel
theorem dL_law_444 : decode cL_law 444 = .ok (.iadd, 1) := by decide +kernel
theorem dL_law_445 : decode cL_law 445 = .ok (.iaload, 1) := by decide +kernel
theorem dL_law_446 : decode cL_law 446 = .ok (.invokevirtual 71, 3) := by decide +kernel
theorem dL_law_449 : decode cL_law 449 = .ok (.if_icmp .eq 476, 3) := by decide +kernel
theorem dL_law_452 : decode cL_law 452 = .ok (.iconst 0, 1) := by decide +kernel
theorem dL_law_453 : decode cL_law 453 = .ok (.ireturn, 1) := by decide +kernel
theorem dL_law_454 : decode cL_law 454 = .ok (.aload_n 1, 1) := by decide +kernel
theorem dL_law_455 : decode cL_law 455 = .ok (.aload_n 0, 1) := by decide +kernel
theorem dL_law_456 : decode cL_law 456 = .ok (.iload_n 3, 1) := by decide +kernel
theorem dL_law_457 : decode cL_law 457 = .ok (.iconst 1, 1) := by decide +kernel
theorem dL_law_458 : decode cL_law 458 = .ok (.iadd, 1) := by decide +kernel
theorem dL_law_459 : decode cL_law 459 = .ok (.iaload, 1) := by decide +kernel
theorem dL_law_460 : decode cL_law 460 = .ok (.aload_n 0, 1) := by decide +kernel
theorem dL_law_461 : decode cL_law 461 = .ok (.iload_n 3, 1) := by decide +kernel
theorem dL_law_462 : decode cL_law 462 = .ok (.iconst 2, 1) := by decide +kernel
theorem dL_law_463 : decode cL_law 463 = .ok (.iadd, 1) := by decide +kernel
theorem dL_law_464 : decode cL_law 464 = .ok (.iaload, 1) := by decide +kernel
theorem dL_law_465 : decode cL_law 465 = .ok (.aload_n 0, 1) := by decide +kernel
theorem dL_law_466 : decode cL_law 466 = .ok (.iload_n 3, 1) := by decide +kernel
theorem dL_law_467 : decode cL_law 467 = .ok (.iconst 3, 1) := by decide +kernel
theorem dL_law_468 : decode cL_law 468 = .ok (.iadd, 1) := by decide +kernel
theorem dL_law_469 : decode cL_law 469 = .ok (.iaload, 1) := by decide +kernel
theorem dL_law_470 : decode cL_law 470 = .ok (.invokevirtual 72, 3) := by decide +kernel
theorem dL_law_473 : decode cL_law 473 = .ok (.aload_n 2, 1) := by decide +kernel
theorem dL_law_474 : decode cL_law 474 = .ok (.aload_n 0, 1) := by decide +kernel
theorem dL_law_475 : decode cL_law 475 = .ok (.iload_n 3, 1) := by decide +kernel
theorem dL_law_476 : decode cL_law 476 = .ok (.iconst 1, 1) := by decide +kernel
theorem dL_law_477 : decode cL_law 477 = .ok (.iadd, 1) := by decide +kernel
theorem dL_law_478 : decode cL_law 478 = .ok (.iaload, 1) := by decide +kernel
theorem dL_law_479 : decode cL_law 479 = .ok (.aload_n 0, 1) := by decide +kernel
theorem dL_law_480 : decode cL_law 480 = .ok (.iload_n 3, 1) := by decide +kernel
theorem dL_law_481 : decode cL_law 481 = .ok (.iconst 2, 1) := by decide +kernel
theorem dL_law_482 : decode cL_law 482 = .ok (.iadd, 1) := by decide +kernel
theorem dL_law_483 : decode cL_law 483 = .ok (.iaload, 1) := by decide +kernel
theorem dL_law_484 : decode cL_law 484 = .ok (.aload_n 0, 1) := by decide +kernel
theorem dL_law_485 : decode cL_law 485 = .ok (.iload_n 3, 1) := by decide +kernel
theorem dL_law_486 : decode cL_law 486 = .ok (.iconst 3, 1) := by decide +kernel
theorem dL_law_487 : decode cL_law 487 = .ok (.iadd, 1) := by decide +kernel
theorem dL_law_488 : decode cL_law 488 = .ok (.iaload, 1) := by decide +kernel
theorem dL_law_489 : decode cL_law 489 = .ok (.invokevirtual 76, 3) := by decide +kernel
theorem dL_law_492 : decode cL_law 492 = .ok (.if_icmp .eq 433, 3) := by decide +kernel
theorem dL_law_495 : decode cL_law 495 = .ok (.iconst 0, 1) := by decide +kernel
theorem dL_law_496 : decode cL_law 496 = .ok (.ireturn, 1) := by decide +kernel
theorem dL_law_497 : decode cL_law 497 = .ok (.aload_n 1, 1) := by decide +kernel
theorem dL_law_498 : decode cL_law 498 = .ok (.aload_n 0, 1) := by decide +kernel
theorem dL_law_499 : decode cL_law 499 = .ok (.iload_n 3, 1) := by decide +kernel
theorem dL_law_500 : decode cL_law 500 = .ok (.iconst 1, 1) := by decide +kernel
theorem dL_law_501 : decode cL_law 501 = .ok (.iadd, 1) := by decide +kernel
theorem dL_law_502 : decode cL_law 502 = .ok (.iaload, 1) := by decide +kernel
theorem dL_law_503 : decode cL_law 503 = .ok (.invokevirtual 77, 3) := by decide +kernel
theorem dL_law_506 : decode cL_law 506 = .ok (.aload_n 2, 1) := by decide +kernel
theorem dL_law_507 : decode cL_law 507 = .ok (.aload_n 0, 1) := by decide +kernel
theorem dL_law_508 : decode cL_law 508 = .ok (.iload_n 3, 1) := by decide +kernel
theorem dL_law_509 : decode cL_law 509 = .ok (.iconst 1, 1) := by decide +kernel
theorem dL_law_510 : decode cL_law 510 = .ok (.iadd, 1) := by decide +kernel
theorem dL_law_511 : decode cL_law 511 = .ok (.iaload, 1) := by decide +kernel
theorem dL_law_512 : decode cL_law 512 = .ok (.invokevirtual 80, 3) := by decide +kernel
theorem dL_law_515 : decode cL_law 515 = .ok (.if_icmp .eq 410, 3) := by decide +kernel
theorem dL_law_518 : decode cL_law 518 = .ok (.iconst 0, 1) := by decide +kernel
theorem dL_law_519 : decode cL_law 519 = .ok (.ireturn, 1) := by decide +kernel
theorem dL_law_520 : decode cL_law 520 = .ok (.aload_n 1, 1) := by decide +kernel
theorem dL_law_521 : decode cL_law 521 = .ok (.aload_n 0, 1) := by decide +kernel
theorem dL_law_522 : decode cL_law 522 = .ok (.iload_n 3, 1) := by decide +kernel
theorem dL_law_523 : decode cL_law 523 = .ok (.iconst 1, 1) := by decide +kernel
theorem dL_law_524 : decode cL_law 524 = .ok (.iadd, 1) := by decide +kernel
theorem dL_law_525 : decode cL_law 525 = .ok (.iaload, 1) := by decide +kernel
theorem dL_law_526 : decode cL_law 526 = .ok (.invokevirtual 81, 3) := by decide +kernel
theorem dL_law_529 : decode cL_law 529 = .ok (.aload_n 2, 1) := by decide +kernel
theorem dL_law_530 : decode cL_law 530 = .ok (.aload_n 0, 1) := by decide +kernel
theorem dL_law_531 : decode cL_law 531 = .ok (.iload_n 3, 1) := by decide +kernel
theorem dL_law_532 : decode cL_law 532 = .ok (.iconst 1, 1) := by decide +kernel
theorem dL_law_533 : decode cL_law 533 = .ok (.iadd, 1) := by decide +kernel
theorem dL_law_534 : decode cL_law 534 = .ok (.iaload, 1) := by decide +kernel
theorem dL_law_535 : decode cL_law 535 = .ok (.invokevirtual 84, 3) := by decide +kernel
theorem dL_law_538 : decode cL_law 538 = .ok (.if_icmp .eq 387, 3) := by decide +kernel
theorem dL_law_541 : decode cL_law 541 = .ok (.iconst 0, 1) := by decide +kernel
theorem dL_law_542 : decode cL_law 542 = .ok (.ireturn, 1) := by decide +kernel
theorem dL_law_543 : decode cL_law 543 = .ok (.aload_n 1, 1) := by decide +kernel
theorem dL_law_544 : decode cL_law 544 = .ok (.aload_n 0, 1) := by decide +kernel
theorem dL_law_545 : decode cL_law 545 = .ok (.iload_n 3, 1) := by decide +kernel
theorem dL_law_546 : decode cL_law 546 = .ok (.iconst 1, 1) := by decide +kernel
theorem dL_law_547 : decode cL_law 547 = .ok (.iadd, 1) := by decide +kernel
theorem dL_law_548 : decode cL_law 548 = .ok (.iaload, 1) := by decide +kernel
theorem dL_law_549 : decode cL_law 549 = .ok (.aload_n 0, 1) := by decide +kernel
theorem dL_law_550 : decode cL_law 550 = .ok (.iload_n 3, 1) := by decide +kernel
theorem dL_law_551 : decode cL_law 551 = .ok (.iconst 2, 1) := by decide +kernel
theorem dL_law_552 : decode cL_law 552 = .ok (.iadd, 1) := by decide +kernel
theorem dL_law_553 : decode cL_law 553 = .ok (.iaload, 1) := by decide +kernel
theorem dL_law_554 : decode cL_law 554 = .ok (.ifCond .eq 7, 3) := by decide +kernel
theorem dL_law_557 : decode cL_law 557 = .ok (.iconst 1, 1) := by decide +kernel
theorem dL_law_558 : decode cL_law 558 = .ok (.goto 4, 3) := by decide +kernel
theorem dL_law_561 : decode cL_law 561 = .ok (.iconst 0, 1) := by decide +kernel
theorem dL_law_562 : decode cL_law 562 = .ok (.aload_n 0, 1) := by decide +kernel
theorem dL_law_563 : decode cL_law 563 = .ok (.iload_n 3, 1) := by decide +kernel
theorem dL_law_564 : decode cL_law 564 = .ok (.iconst 3, 1) := by decide +kernel
theorem dL_law_565 : decode cL_law 565 = .ok (.iadd, 1) := by decide +kernel
theorem dL_law_566 : decode cL_law 566 = .ok (.iaload, 1) := by decide +kernel
theorem dL_law_567 : decode cL_law 567 = .ok (.ifCond .eq 7, 3) := by decide +kernel
theorem dL_law_570 : decode cL_law 570 = .ok (.iconst 1, 1) := by decide +kernel
theorem dL_law_571 : decode cL_law 571 = .ok (.goto 4, 3) := by decide +kernel
theorem dL_law_574 : decode cL_law 574 = .ok (.iconst 0, 1) := by decide +kernel
theorem dL_law_575 : decode cL_law 575 = .ok (.invokevirtual 85, 3) := by decide +kernel
theorem dL_law_578 : decode cL_law 578 = .ok (.aload_n 2, 1) := by decide +kernel
theorem dL_law_579 : decode cL_law 579 = .ok (.aload_n 0, 1) := by decide +kernel
theorem dL_law_580 : decode cL_law 580 = .ok (.iload_n 3, 1) := by decide +kernel
theorem dL_law_581 : decode cL_law 581 = .ok (.iconst 1, 1) := by decide +kernel
theorem dL_law_582 : decode cL_law 582 = .ok (.iadd, 1) := by decide +kernel
theorem dL_law_583 : decode cL_law 583 = .ok (.iaload, 1) := by decide +kernel
theorem dL_law_584 : decode cL_law 584 = .ok (.aload_n 0, 1) := by decide +kernel
theorem dL_law_585 : decode cL_law 585 = .ok (.iload_n 3, 1) := by decide +kernel
theorem dL_law_586 : decode cL_law 586 = .ok (.iconst 2, 1) := by decide +kernel
theorem dL_law_587 : decode cL_law 587 = .ok (.iadd, 1) := by decide +kernel
theorem dL_law_588 : decode cL_law 588 = .ok (.iaload, 1) := by decide +kernel
theorem dL_law_589 : decode cL_law 589 = .ok (.ifCond .eq 7, 3) := by decide +kernel
theorem dL_law_592 : decode cL_law 592 = .ok (.iconst 1, 1) := by decide +kernel
theorem dL_law_593 : decode cL_law 593 = .ok (.goto 4, 3) := by decide +kernel
theorem dL_law_596 : decode cL_law 596 = .ok (.iconst 0, 1) := by decide +kernel
theorem dL_law_597 : decode cL_law 597 = .ok (.aload_n 0, 1) := by decide +kernel
theorem dL_law_598 : decode cL_law 598 = .ok (.iload_n 3, 1) := by decide +kernel
theorem dL_law_599 : decode cL_law 599 = .ok (.iconst 3, 1) := by decide +kernel
theorem dL_law_600 : decode cL_law 600 = .ok (.iadd, 1) := by decide +kernel
theorem dL_law_601 : decode cL_law 601 = .ok (.iaload, 1) := by decide +kernel
theorem dL_law_602 : decode cL_law 602 = .ok (.ifCond .eq 7, 3) := by decide +kernel
theorem dL_law_605 : decode cL_law 605 = .ok (.iconst 1, 1) := by decide +kernel
theorem dL_law_606 : decode cL_law 606 = .ok (.goto 4, 3) := by decide +kernel
theorem dL_law_609 : decode cL_law 609 = .ok (.iconst 0, 1) := by decide +kernel
theorem dL_law_610 : decode cL_law 610 = .ok (.invokevirtual 89, 3) := by decide +kernel
theorem dL_law_613 : decode cL_law 613 = .ok (.if_icmp .eq 312, 3) := by decide +kernel
theorem dL_law_616 : decode cL_law 616 = .ok (.iconst 0, 1) := by decide +kernel
theorem dL_law_617 : decode cL_law 617 = .ok (.ireturn, 1) := by decide +kernel
theorem dL_law_618 : decode cL_law 618 = .ok (.aload_n 1, 1) := by decide +kernel
theorem dL_law_619 : decode cL_law 619 = .ok (.aload_n 0, 1) := by decide +kernel
theorem dL_law_620 : decode cL_law 620 = .ok (.iload_n 3, 1) := by decide +kernel
theorem dL_law_621 : decode cL_law 621 = .ok (.iconst 1, 1) := by decide +kernel
theorem dL_law_622 : decode cL_law 622 = .ok (.iadd, 1) := by decide +kernel
theorem dL_law_623 : decode cL_law 623 = .ok (.iaload, 1) := by decide +kernel
theorem dL_law_624 : decode cL_law 624 = .ok (.aload_n 0, 1) := by decide +kernel
theorem dL_law_625 : decode cL_law 625 = .ok (.iload_n 3, 1) := by decide +kernel
theorem dL_law_626 : decode cL_law 626 = .ok (.iconst 2, 1) := by decide +kernel
theorem dL_law_627 : decode cL_law 627 = .ok (.iadd, 1) := by decide +kernel
theorem dL_law_628 : decode cL_law 628 = .ok (.iaload, 1) := by decide +kernel
theorem dL_law_629 : decode cL_law 629 = .ok (.aload_n 0, 1) := by decide +kernel
theorem dL_law_630 : decode cL_law 630 = .ok (.iload_n 3, 1) := by decide +kernel
theorem dL_law_631 : decode cL_law 631 = .ok (.iconst 3, 1) := by decide +kernel
theorem dL_law_632 : decode cL_law 632 = .ok (.iadd, 1) := by decide +kernel
theorem dL_law_633 : decode cL_law 633 = .ok (.iaload, 1) := by decide +kernel
theorem dL_law_634 : decode cL_law 634 = .ok (.invokevirtual 90, 3) := by decide +kernel
theorem dL_law_637 : decode cL_law 637 = .ok (.aload_n 2, 1) := by decide +kernel
theorem dL_law_638 : decode cL_law 638 = .ok (.aload_n 0, 1) := by decide +kernel
theorem dL_law_639 : decode cL_law 639 = .ok (.iload_n 3, 1) := by decide +kernel
theorem dL_law_640 : decode cL_law 640 = .ok (.iconst 1, 1) := by decide +kernel
theorem dL_law_641 : decode cL_law 641 = .ok (.iadd, 1) := by decide +kernel
theorem dL_law_642 : decode cL_law 642 = .ok (.iaload, 1) := by decide +kernel
theorem dL_law_643 : decode cL_law 643 = .ok (.aload_n 0, 1) := by decide +kernel
theorem dL_law_644 : decode cL_law 644 = .ok (.iload_n 3, 1) := by decide +kernel
theorem dL_law_645 : decode cL_law 645 = .ok (.iconst 2, 1) := by decide +kernel
theorem dL_law_646 : decode cL_law 646 = .ok (.iadd, 1) := by decide +kernel
theorem dL_law_647 : decode cL_law 647 = .ok (.iaload, 1) := by decide +kernel
theorem dL_law_648 : decode cL_law 648 = .ok (.aload_n 0, 1) := by decide +kernel
theorem dL_law_649 : decode cL_law 649 = .ok (.iload_n 3, 1) := by decide +kernel
theorem dL_law_650 : decode cL_law 650 = .ok (.iconst 3, 1) := by decide +kernel
theorem dL_law_651 : decode cL_law 651 = .ok (.iadd, 1) := by decide +kernel
theorem dL_law_652 : decode cL_law 652 = .ok (.iaload, 1) := by decide +kernel
theorem dL_law_653 : decode cL_law 653 = .ok (.invokevirtual 93, 3) := by decide +kernel
theorem dL_law_656 : decode cL_law 656 = .ok (.if_icmp .eq 269, 3) := by decide +kernel
theorem dL_law_659 : decode cL_law 659 = .ok (.iconst 0, 1) := by decide +kernel
theorem dL_law_660 : decode cL_law 660 = .ok (.ireturn, 1) := by decide +kernel
theorem dL_law_661 : decode cL_law 661 = .ok (.aload_n 1, 1) := by decide +kernel
theorem dL_law_662 : decode cL_law 662 = .ok (.aload_n 0, 1) := by decide +kernel
theorem dL_law_663 : decode cL_law 663 = .ok (.iload_n 3, 1) := by decide +kernel
theorem dL_law_664 : decode cL_law 664 = .ok (.iconst 1, 1) := by decide +kernel
theorem dL_law_665 : decode cL_law 665 = .ok (.iadd, 1) := by decide +kernel
theorem dL_law_666 : decode cL_law 666 = .ok (.iaload, 1) := by decide +kernel
theorem dL_law_667 : decode cL_law 667 = .ok (.aload_n 0, 1) := by decide +kernel
theorem dL_law_668 : decode cL_law 668 = .ok (.iload_n 3, 1) := by decide +kernel
theorem dL_law_669 : decode cL_law 669 = .ok (.iconst 2, 1) := by decide +kernel
theorem dL_law_670 : decode cL_law 670 = .ok (.iadd, 1) := by decide +kernel
theorem dL_law_671 : decode cL_law 671 = .ok (.iaload, 1) := by decide +kernel
theorem dL_law_672 : decode cL_law 672 = .ok (.invokevirtual 94, 3) := by decide +kernel
theorem dL_law_675 : decode cL_law 675 = .ok (.aload_n 2, 1) := by decide +kernel
theorem dL_law_676 : decode cL_law 676 = .ok (.aload_n 0, 1) := by decide +kernel
theorem dL_law_677 : decode cL_law 677 = .ok (.iload_n 3, 1) := by decide +kernel
theorem dL_law_678 : decode cL_law 678 = .ok (.iconst 1, 1) := by decide +kernel
theorem dL_law_679 : decode cL_law 679 = .ok (.iadd, 1) := by decide +kernel
theorem dL_law_680 : decode cL_law 680 = .ok (.iaload, 1) := by decide +kernel
theorem dL_law_681 : decode cL_law 681 = .ok (.aload_n 0, 1) := by decide +kernel
theorem dL_law_682 : decode cL_law 682 = .ok (.iload_n 3, 1) := by decide +kernel
theorem dL_law_683 : decode cL_law 683 = .ok (.iconst 2, 1) := by decide +kernel
theorem dL_law_684 : decode cL_law 684 = .ok (.iadd, 1) := by decide +kernel
theorem dL_law_685 : decode cL_law 685 = .ok (.iaload, 1) := by decide +kernel
theorem dL_law_686 : decode cL_law 686 = .ok (.invokevirtual 97, 3) := by decide +kernel
theorem dL_law_689 : decode cL_law 689 = .ok (.if_icmp .eq 236, 3) := by decide +kernel
theorem dL_law_692 : decode cL_law 692 = .ok (.iconst 0, 1) := by decide +kernel
theorem dL_law_693 : decode cL_law 693 = .ok (.ireturn, 1) := by decide +kernel
theorem dL_law_694 : decode cL_law 694 = .ok (.aload_n 1, 1) := by decide +kernel
theorem dL_law_695 : decode cL_law 695 = .ok (.aload_n 0, 1) := by decide +kernel
theorem dL_law_696 : decode cL_law 696 = .ok (.iload_n 3, 1) := by decide +kernel
theorem dL_law_697 : decode cL_law 697 = .ok (.iconst 1, 1) := by decide +kernel
theorem dL_law_698 : decode cL_law 698 = .ok (.iadd, 1) := by decide +kernel
theorem dL_law_699 : decode cL_law 699 = .ok (.iaload, 1) := by decide +kernel
theorem dL_law_700 : decode cL_law 700 = .ok (.aload_n 0, 1) := by decide +kernel
theorem dL_law_701 : decode cL_law 701 = .ok (.iload_n 3, 1) := by decide +kernel
theorem dL_law_702 : decode cL_law 702 = .ok (.iconst 2, 1) := by decide +kernel
theorem dL_law_703 : decode cL_law 703 = .ok (.iadd, 1) := by decide +kernel
theorem dL_law_704 : decode cL_law 704 = .ok (.iaload, 1) := by decide +kernel
theorem dL_law_705 : decode cL_law 705 = .ok (.ifCond .eq 7, 3) := by decide +kernel
theorem dL_law_708 : decode cL_law 708 = .ok (.iconst 1, 1) := by decide +kernel
theorem dL_law_709 : decode cL_law 709 = .ok (.goto 4, 3) := by decide +kernel
theorem dL_law_712 : decode cL_law 712 = .ok (.iconst 0, 1) := by decide +kernel
theorem dL_law_713 : decode cL_law 713 = .ok (.invokevirtual 98, 3) := by decide +kernel
theorem dL_law_716 : decode cL_law 716 = .ok (.aload_n 2, 1) := by decide +kernel
theorem dL_law_717 : decode cL_law 717 = .ok (.aload_n 0, 1) := by decide +kernel
theorem dL_law_718 : decode cL_law 718 = .ok (.iload_n 3, 1) := by decide +kernel
theorem dL_law_719 : decode cL_law 719 = .ok (.iconst 1, 1) := by decide +kernel
theorem dL_law_720 : decode cL_law 720 = .ok (.iadd, 1) := by decide +kernel
theorem dL_law_721 : decode cL_law 721 = .ok (.iaload, 1) := by decide +kernel
theorem dL_law_722 : decode cL_law 722 = .ok (.aload_n 0, 1) := by decide +kernel
theorem dL_law_723 : decode cL_law 723 = .ok (.iload_n 3, 1) := by decide +kernel
theorem dL_law_724 : decode cL_law 724 = .ok (.iconst 2, 1) := by decide +kernel
theorem dL_law_725 : decode cL_law 725 = .ok (.iadd, 1) := by decide +kernel
theorem dL_law_726 : decode cL_law 726 = .ok (.iaload, 1) := by decide +kernel
theorem dL_law_727 : decode cL_law 727 = .ok (.ifCond .eq 7, 3) := by decide +kernel
theorem dL_law_730 : decode cL_law 730 = .ok (.iconst 1, 1) := by decide +kernel
theorem dL_law_731 : decode cL_law 731 = .ok (.goto 4, 3) := by decide +kernel
theorem dL_law_734 : decode cL_law 734 = .ok (.iconst 0, 1) := by decide +kernel
theorem dL_law_735 : decode cL_law 735 = .ok (.invokevirtual 102, 3) := by decide +kernel
theorem dL_law_738 : decode cL_law 738 = .ok (.if_icmp .eq 187, 3) := by decide +kernel
theorem dL_law_741 : decode cL_law 741 = .ok (.iconst 0, 1) := by decide +kernel
theorem dL_law_742 : decode cL_law 742 = .ok (.ireturn, 1) := by decide +kernel
theorem dL_law_743 : decode cL_law 743 = .ok (.aload_n 1, 1) := by decide +kernel
theorem dL_law_744 : decode cL_law 744 = .ok (.aload_n 0, 1) := by decide +kernel
theorem dL_law_745 : decode cL_law 745 = .ok (.iload_n 3, 1) := by decide +kernel
theorem dL_law_746 : decode cL_law 746 = .ok (.iconst 1, 1) := by decide +kernel
theorem dL_law_747 : decode cL_law 747 = .ok (.iadd, 1) := by decide +kernel
theorem dL_law_748 : decode cL_law 748 = .ok (.iaload, 1) := by decide +kernel
theorem dL_law_749 : decode cL_law 749 = .ok (.aload_n 0, 1) := by decide +kernel
theorem dL_law_750 : decode cL_law 750 = .ok (.iload_n 3, 1) := by decide +kernel
theorem dL_law_751 : decode cL_law 751 = .ok (.iconst 2, 1) := by decide +kernel
theorem dL_law_752 : decode cL_law 752 = .ok (.iadd, 1) := by decide +kernel
theorem dL_law_753 : decode cL_law 753 = .ok (.iaload, 1) := by decide +kernel
theorem dL_law_754 : decode cL_law 754 = .ok (.aload_n 0, 1) := by decide +kernel
theorem dL_law_755 : decode cL_law 755 = .ok (.iload_n 3, 1) := by decide +kernel
theorem dL_law_756 : decode cL_law 756 = .ok (.iconst 3, 1) := by decide +kernel
theorem dL_law_757 : decode cL_law 757 = .ok (.iadd, 1) := by decide +kernel
theorem dL_law_758 : decode cL_law 758 = .ok (.iaload, 1) := by decide +kernel
theorem dL_law_759 : decode cL_law 759 = .ok (.ifCond .eq 7, 3) := by decide +kernel
theorem dL_law_762 : decode cL_law 762 = .ok (.iconst 1, 1) := by decide +kernel
theorem dL_law_763 : decode cL_law 763 = .ok (.goto 4, 3) := by decide +kernel
theorem dL_law_766 : decode cL_law 766 = .ok (.iconst 0, 1) := by decide +kernel
theorem dL_law_767 : decode cL_law 767 = .ok (.invokevirtual 103, 3) := by decide +kernel
theorem dL_law_770 : decode cL_law 770 = .ok (.aload_n 2, 1) := by decide +kernel
theorem dL_law_771 : decode cL_law 771 = .ok (.aload_n 0, 1) := by decide +kernel
theorem dL_law_772 : decode cL_law 772 = .ok (.iload_n 3, 1) := by decide +kernel
theorem dL_law_773 : decode cL_law 773 = .ok (.iconst 1, 1) := by decide +kernel
theorem dL_law_774 : decode cL_law 774 = .ok (.iadd, 1) := by decide +kernel
theorem dL_law_775 : decode cL_law 775 = .ok (.iaload, 1) := by decide +kernel
theorem dL_law_776 : decode cL_law 776 = .ok (.aload_n 0, 1) := by decide +kernel
theorem dL_law_777 : decode cL_law 777 = .ok (.iload_n 3, 1) := by decide +kernel
theorem dL_law_778 : decode cL_law 778 = .ok (.iconst 2, 1) := by decide +kernel
theorem dL_law_779 : decode cL_law 779 = .ok (.iadd, 1) := by decide +kernel
theorem dL_law_780 : decode cL_law 780 = .ok (.iaload, 1) := by decide +kernel
theorem dL_law_781 : decode cL_law 781 = .ok (.aload_n 0, 1) := by decide +kernel
theorem dL_law_782 : decode cL_law 782 = .ok (.iload_n 3, 1) := by decide +kernel
theorem dL_law_783 : decode cL_law 783 = .ok (.iconst 3, 1) := by decide +kernel
theorem dL_law_784 : decode cL_law 784 = .ok (.iadd, 1) := by decide +kernel
theorem dL_law_785 : decode cL_law 785 = .ok (.iaload, 1) := by decide +kernel
theorem dL_law_786 : decode cL_law 786 = .ok (.ifCond .eq 7, 3) := by decide +kernel
theorem dL_law_789 : decode cL_law 789 = .ok (.iconst 1, 1) := by decide +kernel
theorem dL_law_790 : decode cL_law 790 = .ok (.goto 4, 3) := by decide +kernel
theorem dL_law_793 : decode cL_law 793 = .ok (.iconst 0, 1) := by decide +kernel
theorem dL_law_794 : decode cL_law 794 = .ok (.invokevirtual 107, 3) := by decide +kernel
theorem dL_law_797 : decode cL_law 797 = .ok (.if_icmp .eq 128, 3) := by decide +kernel
theorem dL_law_800 : decode cL_law 800 = .ok (.iconst 0, 1) := by decide +kernel
theorem dL_law_801 : decode cL_law 801 = .ok (.ireturn, 1) := by decide +kernel
theorem dL_law_802 : decode cL_law 802 = .ok (.aload_n 1, 1) := by decide +kernel
theorem dL_law_803 : decode cL_law 803 = .ok (.aload_n 0, 1) := by decide +kernel
theorem dL_law_804 : decode cL_law 804 = .ok (.iload_n 3, 1) := by decide +kernel
theorem dL_law_805 : decode cL_law 805 = .ok (.iconst 1, 1) := by decide +kernel
theorem dL_law_806 : decode cL_law 806 = .ok (.iadd, 1) := by decide +kernel
theorem dL_law_807 : decode cL_law 807 = .ok (.iaload, 1) := by decide +kernel
theorem dL_law_808 : decode cL_law 808 = .ok (.i2l, 1) := by decide +kernel
theorem dL_law_809 : decode cL_law 809 = .ok (.bipush 32, 2) := by decide +kernel
theorem dL_law_811 : decode cL_law 811 = .ok (.lshl, 1) := by decide +kernel
theorem dL_law_812 : decode cL_law 812 = .ok (.aload_n 0, 1) := by decide +kernel
theorem dL_law_813 : decode cL_law 813 = .ok (.iload_n 3, 1) := by decide +kernel
theorem dL_law_814 : decode cL_law 814 = .ok (.iconst 2, 1) := by decide +kernel
theorem dL_law_815 : decode cL_law 815 = .ok (.iadd, 1) := by decide +kernel
theorem dL_law_816 : decode cL_law 816 = .ok (.iaload, 1) := by decide +kernel
theorem dL_law_817 : decode cL_law 817 = .ok (.i2l, 1) := by decide +kernel
theorem dL_law_818 : decode cL_law 818 = .ok (.ldc2_w 108, 3) := by decide +kernel
theorem dL_law_821 : decode cL_law 821 = .ok (.land, 1) := by decide +kernel
theorem dL_law_822 : decode cL_law 822 = .ok (.lor, 1) := by decide +kernel
theorem dL_law_823 : decode cL_law 823 = .ok (.invokevirtual 110, 3) := by decide +kernel
theorem dL_law_826 : decode cL_law 826 = .ok (.aload_n 2, 1) := by decide +kernel
theorem dL_law_827 : decode cL_law 827 = .ok (.aload_n 0, 1) := by decide +kernel
theorem dL_law_828 : decode cL_law 828 = .ok (.iload_n 3, 1) := by decide +kernel
theorem dL_law_829 : decode cL_law 829 = .ok (.iconst 1, 1) := by decide +kernel
theorem dL_law_830 : decode cL_law 830 = .ok (.iadd, 1) := by decide +kernel
theorem dL_law_831 : decode cL_law 831 = .ok (.iaload, 1) := by decide +kernel
theorem dL_law_832 : decode cL_law 832 = .ok (.i2l, 1) := by decide +kernel
theorem dL_law_833 : decode cL_law 833 = .ok (.bipush 32, 2) := by decide +kernel
theorem dL_law_835 : decode cL_law 835 = .ok (.lshl, 1) := by decide +kernel
theorem dL_law_836 : decode cL_law 836 = .ok (.aload_n 0, 1) := by decide +kernel
theorem dL_law_837 : decode cL_law 837 = .ok (.iload_n 3, 1) := by decide +kernel
theorem dL_law_838 : decode cL_law 838 = .ok (.iconst 2, 1) := by decide +kernel
theorem dL_law_839 : decode cL_law 839 = .ok (.iadd, 1) := by decide +kernel
theorem dL_law_840 : decode cL_law 840 = .ok (.iaload, 1) := by decide +kernel
theorem dL_law_841 : decode cL_law 841 = .ok (.i2l, 1) := by decide +kernel
theorem dL_law_842 : decode cL_law 842 = .ok (.ldc2_w 108, 3) := by decide +kernel
theorem dL_law_845 : decode cL_law 845 = .ok (.land, 1) := by decide +kernel
theorem dL_law_846 : decode cL_law 846 = .ok (.lor, 1) := by decide +kernel
theorem dL_law_847 : decode cL_law 847 = .ok (.invokevirtual 114, 3) := by decide +kernel
theorem dL_law_850 : decode cL_law 850 = .ok (.lcmp, 1) := by decide +kernel
theorem dL_law_851 : decode cL_law 851 = .ok (.ifCond .eq 74, 3) := by decide +kernel
theorem dL_law_854 : decode cL_law 854 = .ok (.iconst 0, 1) := by decide +kernel
theorem dL_law_855 : decode cL_law 855 = .ok (.ireturn, 1) := by decide +kernel
theorem dL_law_856 : decode cL_law 856 = .ok (.aload_n 1, 1) := by decide +kernel
theorem dL_law_857 : decode cL_law 857 = .ok (.aload_n 0, 1) := by decide +kernel
theorem dL_law_858 : decode cL_law 858 = .ok (.iload_n 3, 1) := by decide +kernel
theorem dL_law_859 : decode cL_law 859 = .ok (.iconst 1, 1) := by decide +kernel
theorem dL_law_860 : decode cL_law 860 = .ok (.iadd, 1) := by decide +kernel
theorem dL_law_861 : decode cL_law 861 = .ok (.iaload, 1) := by decide +kernel
theorem dL_law_862 : decode cL_law 862 = .ok (.invokevirtual 115, 3) := by decide +kernel
theorem dL_law_865 : decode cL_law 865 = .ok (.aload_n 2, 1) := by decide +kernel
theorem dL_law_866 : decode cL_law 866 = .ok (.aload_n 0, 1) := by decide +kernel
theorem dL_law_867 : decode cL_law 867 = .ok (.iload_n 3, 1) := by decide +kernel
theorem dL_law_868 : decode cL_law 868 = .ok (.iconst 1, 1) := by decide +kernel
theorem dL_law_869 : decode cL_law 869 = .ok (.iadd, 1) := by decide +kernel
theorem dL_law_870 : decode cL_law 870 = .ok (.iaload, 1) := by decide +kernel
theorem dL_law_871 : decode cL_law 871 = .ok (.invokevirtual 118, 3) := by decide +kernel
theorem dL_law_874 : decode cL_law 874 = .ok (.if_icmp .eq 51, 3) := by decide +kernel
theorem dL_law_877 : decode cL_law 877 = .ok (.iconst 0, 1) := by decide +kernel
theorem dL_law_878 : decode cL_law 878 = .ok (.ireturn, 1) := by decide +kernel
theorem dL_law_879 : decode cL_law 879 = .ok (.aload_n 1, 1) := by decide +kernel
theorem dL_law_880 : decode cL_law 880 = .ok (.aload_n 0, 1) := by decide +kernel
theorem dL_law_881 : decode cL_law 881 = .ok (.iload_n 3, 1) := by decide +kernel
theorem dL_law_882 : decode cL_law 882 = .ok (.iconst 1, 1) := by decide +kernel
theorem dL_law_883 : decode cL_law 883 = .ok (.iadd, 1) := by decide +kernel
theorem dL_law_884 : decode cL_law 884 = .ok (.iaload, 1) := by decide +kernel
theorem dL_law_885 : decode cL_law 885 = .ok (.invokevirtual 119, 3) := by decide +kernel
theorem dL_law_888 : decode cL_law 888 = .ok (.aload_n 2, 1) := by decide +kernel
theorem dL_law_889 : decode cL_law 889 = .ok (.aload_n 0, 1) := by decide +kernel
theorem dL_law_890 : decode cL_law 890 = .ok (.iload_n 3, 1) := by decide +kernel
theorem dL_law_891 : decode cL_law 891 = .ok (.iconst 1, 1) := by decide +kernel
theorem dL_law_892 : decode cL_law 892 = .ok (.iadd, 1) := by decide +kernel
theorem dL_law_893 : decode cL_law 893 = .ok (.iaload, 1) := by decide +kernel
theorem dL_law_894 : decode cL_law 894 = .ok (.invokevirtual 122, 3) := by decide +kernel
theorem dL_law_897 : decode cL_law 897 = .ok (.if_icmp .eq 28, 3) := by decide +kernel
theorem dL_law_900 : decode cL_law 900 = .ok (.iconst 0, 1) := by decide +kernel
theorem dL_law_901 : decode cL_law 901 = .ok (.ireturn, 1) := by decide +kernel
theorem dL_law_902 : decode cL_law 902 = .ok (.aload_n 1, 1) := by decide +kernel
theorem dL_law_903 : decode cL_law 903 = .ok (.aload_n 0, 1) := by decide +kernel
theorem dL_law_904 : decode cL_law 904 = .ok (.iload_n 3, 1) := by decide +kernel
theorem dL_law_905 : decode cL_law 905 = .ok (.iconst 1, 1) := by decide +kernel
theorem dL_law_906 : decode cL_law 906 = .ok (.iadd, 1) := by decide +kernel
theorem dL_law_907 : decode cL_law 907 = .ok (.iaload, 1) := by decide +kernel
theorem dL_law_908 : decode cL_law 908 = .ok (.invokevirtual 123, 3) := by decide +kernel
theorem dL_law_911 : decode cL_law 911 = .ok (.aload_n 2, 1) := by decide +kernel
theorem dL_law_912 : decode cL_law 912 = .ok (.aload_n 0, 1) := by decide +kernel
theorem dL_law_913 : decode cL_law 913 = .ok (.iload_n 3, 1) := by decide +kernel
theorem dL_law_914 : decode cL_law 914 = .ok (.iconst 1, 1) := by decide +kernel
theorem dL_law_915 : decode cL_law 915 = .ok (.iadd, 1) := by decide +kernel
theorem dL_law_916 : decode cL_law 916 = .ok (.iaload, 1) := by decide +kernel
theorem dL_law_917 : decode cL_law 917 = .ok (.invokevirtual 126, 3) := by decide +kernel
theorem dL_law_920 : decode cL_law 920 = .ok (.if_icmp .eq 5, 3) := by decide +kernel
theorem dL_law_923 : decode cL_law 923 = .ok (.iconst 0, 1) := by decide +kernel
theorem dL_law_924 : decode cL_law 924 = .ok (.ireturn, 1) := by decide +kernel
theorem dL_law_925 : decode cL_law 925 = .ok (.iinc 3 4, 3) := by decide +kernel
theorem dL_law_928 : decode cL_law 928 = .ok (.goto (-910), 3) := by decide +kernel
theorem dL_law_931 : decode cL_law 931 = .ok (.iconst 1, 1) := by decide +kernel
theorem dL_law_932 : decode cL_law 932 = .ok (.ireturn, 1) := by decide +kernel
end
section
/-! A small machine over the kit's: places instead of addresses, one flat memory of ints, a list of shapes. -/
abbrev Mem : Type := Nat → Nat → Int32
abbrev Lng : Type := Nat → Int64
abbrev Ent : Type := Nat × Nat × List (Option Nat)
abbrev Shp : Type := List Ent
def q_U : List Cond := lw_tbl.filter goodWord
theorem q_in {w : Cond} (i : Nat) (h : lw_tbl[i]? = some w) (hg : goodWord w = true) : w ∈ q_U := List.mem_filter.mpr ⟨List.mem_of_getElem? h, hg⟩
theorem q_good {ws : List Cond} (h : ∀ w ∈ ws, w ∈ q_U) : GoodIn q_U ws := fun w hw => ⟨h w hw, good_of_word (List.mem_filter.mp (h w hw)).2⟩
/-- the kinds of a class's fields: 0 int, 1 long, 2 reference -/
def q_fk (c : Nat) : List Nat := match c with
  | 0 => [2, 0, 0]
  | 1 => [2, 0]
  | 2 => [2]
  | 3 => [2, 0, 0]
  | 4 => [2, 2, 0, 0, 0, 0, 0, 0, 0, 0]
  | 5 => [2, 2]
  | 6 => [2, 0]
  | 7 => [2, 2, 2, 2, 2, 2, 2, 2, 2, 2, 1]
  | 8 => [0, 2, 0, 0, 0, 0, 0, 2, 2, 2, 2, 0, 2, 2, 1, 2, 0, 2, 0, 0, 0, 0, 2]
  | _ => []
def q_fd (base : Nat) (rs : List (Option Nat)) (f : Nat → Int32) (j : Int64) (kd k : Nat) : Value := match kd with
  | 0 => .int (f k)
  | 1 => .long j
  | _ => va_rf ((rs.getD k none).map (base + ·))
def q_fs (base : Nat) (rs : List (Option Nat)) (f : Nat → Int32) (j : Int64) : Nat → List Nat → List Value
  | _, [] => []
  | k, kd :: r => q_fd base rs f j kd k :: q_fs base rs f j (k + 1) r
def q_rw (base : Nat) (rs : List (Option Nat)) : Nat → Option Nat := fun i => (rs.getD i none).map (base + ·)
def q_cell (cy : Nat → ClassId) (base : Nat) (e : Ent) (f : Nat → Int32) (j : Int64) : va_E :=
  if e.1 < 2 then .inl (cy e.1, e.2.1, .inl f)
  else if e.1 < 10 then .inl (cy e.1, e.2.1, .inr (.inr (.inr (.inr (q_rw base e.2.2)))))
  else .inr (e.1 - 10, q_fs base e.2.2 f j 0 (q_fk (e.1 - 10)))
def q_ws (cy : Nat → ClassId) (base : Nat) (I : Mem) (J : Lng) : Nat → Shp → va_W
  | _, [] => []
  | k, e :: r => (base + k, q_cell cy base e (I k) (J k)) :: q_ws cy base I J (k + 1) r
theorem q_fs_get (base : Nat) (rs : List (Option Nat)) (f : Nat → Int32) (j : Int64) : ∀ (l : List Nat) (k i : Nat), (q_fs base rs f j k l)[i]? = (l[i]?).map (fun kd => q_fd base rs f j kd (k + i))
  | [], k, i => by simp [q_fs]
  | kd :: r, k, 0 => by simp [q_fs]
  | kd :: r, k, i + 1 => by
    have h := q_fs_get base rs f j r (k + 1) i
    simp only [q_fs, List.getElem?_cons_succ, h]
    rw [show k + 1 + i = k + (i + 1) by omega]
theorem q_fs_len (base : Nat) (rs : List (Option Nat)) (f : Nat → Int32) (j : Int64) : ∀ (l : List Nat) (k : Nat), (q_fs base rs f j k l).length = l.length
  | [], k => rfl
  | kd :: r, k => by simp [q_fs, q_fs_len base rs f j r (k + 1)]
theorem q_ws_get (cy : Nat → ClassId) (base : Nat) (I : Mem) (J : Lng) : ∀ (σ : Shp) (k i : Nat), (q_ws cy base I J k σ)[i]? = (σ[i]?).map (fun e => (base + (k + i), q_cell cy base e (I (k + i)) (J (k + i))))
  | [], k, i => by simp [q_ws]
  | e :: r, k, 0 => by simp [q_ws]
  | e :: r, k, i + 1 => by
    have h := q_ws_get cy base I J r (k + 1) i
    simp only [q_ws, List.getElem?_cons_succ, h]
    rw [show k + 1 + i = k + (i + 1) by omega]
theorem q_ws_at {cy : Nat → ClassId} {base : Nat} {I : Mem} {J : Lng} {σ : Shp} {t : Nat} {e : Ent} (he : σ[t]? = some e) : (q_ws cy base I J 0 σ)[t]? = some (base + t, q_cell cy base e (I t) (J t)) := by
  rw [q_ws_get, he]; simp
theorem q_ws_D (cy : Nat → ClassId) (base : Nat) (I : Mem) (J : Lng) (σ : Shp) : va_D (fun q => base ≤ q) (q_ws cy base I J 0 σ) := by
  refine ⟨fun i j p q hi hj hpq => ?_, fun k q hk => ?_⟩
  · rw [q_ws_get] at hi hj
    cases h1 : σ[i]? with
    | none => rw [h1] at hi; cases hi
    | some a =>
      cases h2 : σ[j]? with
      | none => rw [h2] at hj; cases hj
      | some b =>
        rw [h1] at hi; rw [h2] at hj
        cases hi; cases hj
        have h3 : base + (0 + i) = base + (0 + j) := hpq
        omega
  · rw [q_ws_get] at hk
    cases h1 : σ[k]? with
    | none => rw [h1] at hk; cases hk
    | some a =>
      rw [h1] at hk; cases hk
      show base ≤ base + (0 + k)
      omega
theorem q_ws_set {cy : Nat → ClassId} {base : Nat} {I I' : Mem} {J J' : Lng} {σ σ' : Shp} {t : Nat} {e' : Ent} (hσ : ∀ i, i ≠ t → σ'[i]? = σ[i]?) (hI : ∀ i, i ≠ t → I' i = I i) (hJ : ∀ i, i ≠ t → J' i = J i) (he : σ'[t]? = some e') (ht : t < σ.length) :
    (q_ws cy base I J 0 σ).set t (base + t, q_cell cy base e' (I' t) (J' t)) = q_ws cy base I' J' 0 σ' := by
  apply List.ext_getElem?
  intro i
  by_cases hi : i = t
  · subst hi
    have hl : i < (q_ws cy base I J 0 σ).length := by
      have h1 : (q_ws cy base I J 0 σ)[i]? ≠ none := by
        rw [q_ws_get]
        obtain ⟨x, hx⟩ : ∃ x, σ[i]? = some x := ⟨_, List.getElem?_eq_getElem ht⟩
        rw [hx]; simp
      exact Nat.not_le.mp fun q => h1 (List.getElem?_eq_none q)
    rw [List.getElem?_set_self hl, q_ws_at he]
  · rw [List.getElem?_set_ne (fun q => hi q.symm), q_ws_get, q_ws_get, hσ i hi, Nat.zero_add, hI i hi, hJ i hi]
def upI (I : Mem) (t k : Nat) (v : Int32) : Mem := fun p q => if p = t then (if q = k then v else I p q) else I p q
def upJ (J : Lng) (t : Nat) (v : Int64) : Lng := fun p => if p = t then v else J p
theorem upI_self (I : Mem) (t k : Nat) (v : Int32) : upI I t k v t = upd (I t) k v := by
  funext q; simp [upI, upd]
theorem upI_ne {I : Mem} {t k : Nat} {v : Int32} {p : Nat} (h : p ≠ t) : upI I t k v p = I p := by
  funext q; simp [upI, h]
theorem q_fs_int {base : Nat} {rs : List (Option Nat)} {f : Nat → Int32} {j : Int64} {l : List Nat} {k : Nat} (v : Int32) (hk : l[k]? = some 0) : (q_fs base rs f j 0 l).set k (.int v) = q_fs base rs (upd f k v) j 0 l := by
  have hl : k < l.length := (List.getElem?_eq_some_iff.mp hk).1
  apply List.ext_getElem?
  intro i
  by_cases hi : i = k
  · subst hi
    rw [List.getElem?_set_self (by rw [q_fs_len]; exact hl), q_fs_get, hk]
    simp [q_fd, upd]
  · rw [List.getElem?_set_ne (fun q => hi q.symm), q_fs_get, q_fs_get]
    congr 1
    funext kd
    rw [Nat.zero_add]
    unfold q_fd
    split <;> simp [upd, hi]
theorem q_fs_long {base : Nat} {rs : List (Option Nat)} {f : Nat → Int32} {j : Int64} {l : List Nat} {k : Nat} (v : Int64) (hk : l[k]? = some 1) (hu : ∀ i, l[i]? = some 1 → i = k) : (q_fs base rs f j 0 l).set k (.long v) = q_fs base rs f v 0 l := by
  have hl : k < l.length := (List.getElem?_eq_some_iff.mp hk).1
  apply List.ext_getElem?
  intro i
  by_cases hi : i = k
  · subst hi
    rw [List.getElem?_set_self (by rw [q_fs_len]; exact hl), q_fs_get, hk]
    simp [q_fd]
  · rw [List.getElem?_set_ne (fun q => hi q.symm), q_fs_get, q_fs_get]
    cases h : l[i]? with
    | none => rfl
    | some kd =>
      have h1 : kd ≠ 1 := fun q => hi (hu i (by rw [h, q]))
      simp only [Option.map_some]
      congr 1
      unfold q_fd
      split
      · rfl
      · exact absurd rfl h1
      · rfl
theorem q_fs_ref {base : Nat} {rs : List (Option Nat)} {f : Nat → Int32} {j : Int64} {l : List Nat} {k r : Nat} (hk : l[k]? = some 2) (hr : k < rs.length) : (q_fs base rs f j 0 l).set k (.ref (base + r)) = q_fs base (rs.set k (some r)) f j 0 l := by
  have hl : k < l.length := (List.getElem?_eq_some_iff.mp hk).1
  apply List.ext_getElem?
  intro i
  by_cases hi : i = k
  · subst hi
    rw [List.getElem?_set_self (by rw [q_fs_len]; exact hl), q_fs_get, hk]
    simp [q_fd, va_rf, List.getD, List.getElem?_set_self hr]
  · rw [List.getElem?_set_ne (fun q => hi q.symm), q_fs_get, q_fs_get]
    congr 1
    funext kd
    rw [Nat.zero_add]
    unfold q_fd
    split <;> simp [List.getD, List.getElem?_set_ne (fun q => hi q.symm)]
theorem q_cell_o {cy : Nat → ClassId} {base : Nat} {e : Ent} {f : Nat → Int32} {j : Int64} {c : Nat} (h : e.1 = 10 + c) : q_cell cy base e f j = .inr (c, q_fs base e.2.2 f j 0 (q_fk c)) := by
  unfold q_cell
  rw [if_neg (by omega), if_neg (by omega), show e.1 - 10 = c by omega]
theorem q_cell_i {cy : Nat → ClassId} {base : Nat} {e : Ent} {f : Nat → Int32} {j : Int64} {c : Nat} (h : e.1 = c) (hc : c < 2) : q_cell cy base e f j = .inl (cy c, e.2.1, .inl f) := by
  unfold q_cell
  rw [if_pos (by omega), h]
theorem q_cell_q {cy : Nat → ClassId} {base : Nat} {e : Ent} {f : Nat → Int32} {j : Int64} {c : Nat} (h : e.1 = c) (hc : ¬ c < 2) (hc2 : c < 10) : q_cell cy base e f j = .inl (cy c, e.2.1, .inr (.inr (.inr (.inr (q_rw base e.2.2))))) := by
  unfold q_cell
  rw [if_neg (by omega), if_pos (by omega), h]
/-- the world: the places hold what shape and memory say; z: how many cells there may be at most -/
def q_W (cy : Nat → ClassId) (D : va_G) (base z : Nat) (σ : Shp) (I : Mem) (J : Lng) (H : Heap) : Prop := va_P D vwCl (q_ws cy base I J 0 σ) H ∧ z = base + σ.length
abbrev q_ty (cy : Nat → ClassId) : List (ClassId × FieldType) := [(cy 0, .int), (cy 1, .boolean), (cy 2, .object "EntailedLand$Land"), (cy 3, .object "EntailedLand$Kin"), (cy 4, .array .int)]
/-- links of private constructors -/
def q_nest : List (String × Nat × MethodName) := [("EntailedLand", 9, yX8_init), ("EntailedLand", 18, yX6_init), ("EntailedLand$Acts", 17, yX6_init), ("EntailedLand", 43, yX5_init), ("EntailedLand", 50, yX3_init), ("EntailedLand", 57, yX2_init), ("EntailedLand$Orders", 21, yX5_init)]
def q_AO (ty : FieldType) (U : State) : Prop := (Cond.arrayOver ty).before #[] U = true
theorem q_AO.moved {ty : FieldType} {u U : State} (h : u.vm.Alike U.vm) (hA : q_AO ty u) : q_AO ty U := by
  have e := Cond.arrayOver_setVmC (args := #[]) (s := u) h ty
  exact e.trans hA
def q_K (cy : Nat → ClassId) (D : va_G) (U : State) : Prop := va_K D vwCl (q_ty cy) U ∧ (∀ q ∈ q_nest, va_Nw (.methodLinkNest q.1 q.2.1 q.2.2 "EntailedLand") U) ∧ q_AO (.object "EntailedLand$Land") U ∧ q_AO (.object "EntailedLand$Kin") U ∧ q_AO (.array .int) U
theorem q_K.same {cy : Nat → ClassId} {D : va_G} {u U : State} (h : u.vm = U.vm) (hK : q_K cy D u) : q_K cy D U := by
  obtain ⟨h1, h2, h3, h4, h5⟩ := hK
  have hA : u.vm.Alike U.vm := by rw [h]; exact Vm.Alike.refl _
  exact ⟨va_K.moved hA h1, fun q hq => va_Nw.same rfl h (h2 q hq), h3.moved hA, h4.moved hA, h5.moved hA⟩
theorem q_K.warm {cy : Nat → ClassId} {D : va_G} {s U : State} (hW : s.WarmedH U.vm) (hK : q_K cy D s) : q_K cy D U := by
  obtain ⟨h1, h2, h3, h4, h5⟩ := hK
  exact ⟨va_K.moved hW.alike h1, fun q hq => va_Nw.warmM hW (h2 q hq), h3.moved hW.alike, h4.moved hW.alike, h5.moved hW.alike⟩
/-- a value of the small machine as the machine has it; null stands for the law's script -/
def q_tr (base b : Nat) (v : Value) : Value := match v with
  | .ref k => .ref (base + k)
  | .null => .ref b
  | v => v
/-- the locals -/
def q_L (base b : Nat) (ls : Array Slot) (nL : Nat) (L : List (Option Value)) : Prop := ls.size = nL ∧ lv_wf ls ∧ ∀ (i : Nat) (v : Value), L[i]? = some (some v) → ls[i]? = some (.val (q_tr base b v))
def q_as (base b : Nat) : Nat → List (Option Value) → List (Nat × Value)
  | _, [] => []
  | i, none :: r => q_as base b (i + 1) r
  | i, some v :: r => (i, q_tr base b v) :: q_as base b (i + 1) r
theorem q_as_mem (base b : Nat) : ∀ (L : List (Option Value)) (i : Nat) (q : Nat × Value), q ∈ q_as base b i L ↔ ∃ (k : Nat) (v : Value), L[k]? = some (some v) ∧ q = (i + k, q_tr base b v)
  | [], i, q => by simp [q_as]
  | none :: r, i, q => by
    simp only [q_as]
    rw [q_as_mem base b r (i + 1) q]
    constructor
    · rintro ⟨k, v, h1, h2⟩
      exact ⟨k + 1, v, by simpa using h1, by rw [h2]; congr 1; omega⟩
    · rintro ⟨k, v, h1, h2⟩
      cases k with
      | zero => simp at h1
      | succ k => exact ⟨k, v, by simpa using h1, by rw [h2]; congr 1; omega⟩
  | some v :: r, i, q => by
    simp only [q_as, List.mem_cons]
    rw [q_as_mem base b r (i + 1) q]
    constructor
    · rintro (h | ⟨k, w, h1, h2⟩)
      · exact ⟨0, v, rfl, h⟩
      · exact ⟨k + 1, w, by simpa using h1, by rw [h2]; congr 1; omega⟩
    · rintro ⟨k, w, h1, h2⟩
      cases k with
      | zero =>
        simp at h1
        subst h1
        exact Or.inl h2
      | succ k => exact Or.inr ⟨k, w, by simpa using h1, by rw [h2]; congr 1; omega⟩
theorem q_L.has {base b : Nat} {ls : Array Slot} {nL : Nat} {L : List (Option Value)} (h : q_L base b ls nL L) : lv_has ls nL (q_as base b 0 L) := by
  refine ⟨h.1, h.2.1, fun q hq => ?_⟩
  obtain ⟨k, v, h1, rfl⟩ := (q_as_mem base b L 0 q).mp hq
  rw [Nat.zero_add]
  exact h.2.2 k v h1
/-- no long begins one place ahead -/
def q_ok (L : List (Option Value)) (i : Nat) : Bool := match i with
  | 0 => true
  | j + 1 => match L[j]? with
    | some (some (.long _)) => false
    | some (some (.double _)) => false
    | _ => true
theorem q_tr_cat (base b : Nat) (v : Value) : (q_tr base b v).category = v.category := by cases v <;> rfl
theorem q_L.set1 {base b : Nat} {ls' : Array Slot} {nL : Nat} {L : List (Option Value)} {i : Nat} {v : Value} (ho : q_ok L i = true)
    (h : lv_has ls' nL ((i, q_tr base b v) :: (q_as base b 0 L).filter (fun q => !(q.1 == i) && !(q.1 + 1 == i && q.2.category == 2)))) : q_L base b ls' nL (L.set i (some v)) := by
  refine ⟨h.1, h.2.1, fun j w hj => ?_⟩
  by_cases hji : j = i
  · subst hji
    have hlt : j < (L.set j (some v)).length := (List.getElem?_eq_some_iff.mp hj).1
    rw [List.length_set] at hlt
    rw [List.getElem?_set_self hlt] at hj
    cases hj
    exact h.2.2 _ List.mem_cons_self
  · rw [List.getElem?_set_ne (fun q => hji q.symm)] at hj
    refine h.2.2 (j, q_tr base b w) (List.mem_cons_of_mem _ (List.mem_filter.mpr ⟨(q_as_mem base b L 0 _).mpr ⟨j, w, hj, by rw [Nat.zero_add]⟩, ?_⟩))
    simp only [Bool.and_eq_true, Bool.not_eq_true', beq_eq_false_iff_ne, ne_eq, Bool.and_eq_false_iff]
    refine ⟨hji, ?_⟩
    by_cases hi : j + 1 = i
    · right
      rw [q_tr_cat]
      subst hi
      simp only [q_ok, hj] at ho
      cases w <;> simp_all [Value.category]
    · exact Or.inl hi
theorem q_L.set2 {base b : Nat} {ls' : Array Slot} {nL : Nat} {L : List (Option Value)} {i : Nat} {v : Value} (ho : q_ok L i = true)
    (h : lv_has ls' nL ((i, q_tr base b v) :: (q_as base b 0 L).filter (fun q => !(q.1 == i) && (!(q.1 == i + 1) && !(q.1 + 1 == i && q.2.category == 2))))) : q_L base b ls' nL ((L.set i (some v)).set (i + 1) none) := by
  refine ⟨h.1, h.2.1, fun j w hj => ?_⟩
  by_cases hj1 : j = i + 1
  · subst hj1
    have hlt : i + 1 < ((L.set i (some v)).set (i + 1) none).length := (List.getElem?_eq_some_iff.mp hj).1
    rw [List.length_set] at hlt
    rw [List.getElem?_set_self hlt] at hj
    cases hj
  · rw [List.getElem?_set_ne (fun q => hj1 q.symm)] at hj
    by_cases hji : j = i
    · subst hji
      have hlt : j < (L.set j (some v)).length := (List.getElem?_eq_some_iff.mp hj).1
      rw [List.length_set] at hlt
      rw [List.getElem?_set_self hlt] at hj
      cases hj
      exact h.2.2 _ List.mem_cons_self
    · rw [List.getElem?_set_ne (fun q => hji q.symm)] at hj
      refine h.2.2 (j, q_tr base b w) (List.mem_cons_of_mem _ (List.mem_filter.mpr ⟨(q_as_mem base b L 0 _).mpr ⟨j, w, hj, by rw [Nat.zero_add]⟩, ?_⟩))
      simp only [Bool.and_eq_true, Bool.not_eq_true', beq_eq_false_iff_ne, ne_eq, Bool.and_eq_false_iff]
      refine ⟨hji, hj1, ?_⟩
      by_cases hi : j + 1 = i
      · right
        rw [q_tr_cat]
        subst hi
        simp only [q_ok, hj] at ho
        cases w <;> simp_all [Value.category]
      · exact Or.inl hi
/-- the machine's side of a method's walk -/
def q_Cx (own nm : String) (cc : ByteArray) (nL d mc ms : Nat) (X : Option (Nat × (Nat → Int32))) (p : Program) (R : Room) (s : State) (m : MethodId) (args : Array Value) (meth : Method) (c : Code) (cy : Nat → ClassId) (D : va_G) (base b : Nat) : Prop :=
  p.tables.exec = Jvm.exec ∧ c.code = cc ∧ c.maxLocals = nL ∧ s.vm.findClass own = some m.cls ∧ (∀ w ∈ q_U, w.before args s = true) ∧ q_K cy D s ∧ (d ≤ R.frames ∧ 40 * d ≤ R.locals ∧ mc ≤ R.cells ∧ ms ≤ R.slots) ∧ base ≤ s.heap.size ∧ meth.name = nm ∧ (∀ x, X = some x → va_X b x.1 x.2 s s.heap ∧ b < s.heap.size ∧ ¬ base ≤ b)
/-- from here the method comes to its return with Q -/
def q_WP (own nm : String) (cc : ByteArray) (nL : Nat) (rop : Instr) (d mc ms : Nat) (X : Option (Nat × (Nat → Int32))) (Q : List Value → Shp → Mem → Lng → Nat → Nat → Prop) (k n pc : Nat) (L : List (Option Value)) (st : List Value) (σ : Shp) (I : Mem) (J : Lng) : Prop :=
  ∀ (p : Program) (l : Launch) (e : Env) (R : Room) (s : State) (m : MethodId) (args : Array Value) (below : List Frame) (meth : Method) (c : Code) (Qm : State → Prop) (cy : Nat → ClassId) (D : va_G) (base b : Nat), q_Cx own nm cc nL d mc ms X p R s m args meth c cy D base b →
    (∀ (pc' : Nat) (ls' : Array Slot) (st' : List Value) (σ' : Shp) (I' : Mem) (J' : Lng) (k' n' : Nat) (H' : Heap) (locs' : List Loc), decode cc pc' = .ok (rop, 1) → Q st' σ' I' J' k' n' → q_W cy D base (s.heap.size + k') σ' I' J' H' → va_S (fun q => base ≤ q) s.heap H' locs' → W p l e R s m args below meth c H' locs' k' n' Qm (F0 m pc' ls' (st'.map (q_tr base b)))) →
    ∀ (H : Heap) (locs : List Loc) (ls : Array Slot), q_W cy D base (s.heap.size + k) σ I J H → va_S (fun q => base ≤ q) s.heap H locs → q_L base b ls nL L → W p l e R s m args below meth c H locs k n Qm (F0 m pc ls (st.map (q_tr base b)))
end
section
section
variable {own nm : String} {cc : ByteArray} {nL : Nat} {rop : Instr} {d mc ms : Nat} {X : Option (Nat × (Nat → Int32))} {Q : List Value → Shp → Mem → Lng → Nat → Nat → Prop} {k n pc : Nat} {L : List (Option Value)} {st : List Value} {σ : Shp} {I : Mem} {J : Lng}

theorem s_iconst {a : Int} {v : Int32} (hd : decode cc pc = .ok (.iconst a, 1)) (hv : Int32.ofInt a = v) (K : q_WP own nm cc nL rop d mc ms X Q k n (pc + 1) L (.int v :: st) σ I J) : q_WP own nm cc nL rop d mc ms X Q k n pc L (st) σ I J := fun p l e R s m args below meth c Qm cy D base b C E H locs ls hW hS hL => lv_iconst C.1 C.2.1 hd hv (K p l e R s m args below meth c Qm cy D base b C E H locs ls hW hS hL)
theorem s_bipush {a : Int} {v : Int32} (hd : decode cc pc = .ok (.bipush a, 2)) (hv : (Int8.ofInt a).toInt32 = v) (K : q_WP own nm cc nL rop d mc ms X Q k n (pc + 2) L (.int v :: st) σ I J) : q_WP own nm cc nL rop d mc ms X Q k n pc L (st) σ I J := fun p l e R s m args below meth c Qm cy D base b C E H locs ls hW hS hL => lv_bipush C.1 C.2.1 hd hv (K p l e R s m args below meth c Qm cy D base b C E H locs ls hW hS hL)
theorem s_sipush {a : Int} {v : Int32} (hd : decode cc pc = .ok (.sipush a, 3)) (hv : (Int16.ofInt a).toInt32 = v) (K : q_WP own nm cc nL rop d mc ms X Q k n (pc + 3) L (.int v :: st) σ I J) : q_WP own nm cc nL rop d mc ms X Q k n pc L (st) σ I J := fun p l e R s m args below meth c Qm cy D base b C E H locs ls hW hS hL => lv_sipush C.1 C.2.1 hd hv (K p l e R s m args below meth c Qm cy D base b C E H locs ls hW hS hL)
theorem s_lconst {a : Fin 2} {v : Int64} (hd : decode cc pc = .ok (.lconst a, 1)) (hv : Int64.ofNat (a : Nat) = v) (K : q_WP own nm cc nL rop d mc ms X Q k n (pc + 1) L (.long v :: st) σ I J) : q_WP own nm cc nL rop d mc ms X Q k n pc L (st) σ I J := fun p l e R s m args below meth c Qm cy D base b C E H locs ls hW hS hL => lv_lconst C.1 C.2.1 hd hv (K p l e R s m args below meth c Qm cy D base b C E H locs ls hW hS hL)
theorem s_iadd {x y : Int32} (hd : decode cc pc = .ok (.iadd, 1)) (K : q_WP own nm cc nL rop d mc ms X Q k n (pc + 1) L (.int (x + y) :: st) σ I J) : q_WP own nm cc nL rop d mc ms X Q k n pc L (.int y :: .int x :: st) σ I J := fun p l e R s m args below meth c Qm cy D base b C E H locs ls hW hS hL => lv_iadd C.1 C.2.1 hd  (K p l e R s m args below meth c Qm cy D base b C E H locs ls hW hS hL)
theorem s_isub {x y : Int32} (hd : decode cc pc = .ok (.isub, 1)) (K : q_WP own nm cc nL rop d mc ms X Q k n (pc + 1) L (.int (x - y) :: st) σ I J) : q_WP own nm cc nL rop d mc ms X Q k n pc L (.int y :: .int x :: st) σ I J := fun p l e R s m args below meth c Qm cy D base b C E H locs ls hW hS hL => lv_isub C.1 C.2.1 hd  (K p l e R s m args below meth c Qm cy D base b C E H locs ls hW hS hL)
theorem s_imul {x y : Int32} (hd : decode cc pc = .ok (.imul, 1)) (K : q_WP own nm cc nL rop d mc ms X Q k n (pc + 1) L (.int (x * y) :: st) σ I J) : q_WP own nm cc nL rop d mc ms X Q k n pc L (.int y :: .int x :: st) σ I J := fun p l e R s m args below meth c Qm cy D base b C E H locs ls hW hS hL => lv_imul C.1 C.2.1 hd  (K p l e R s m args below meth c Qm cy D base b C E H locs ls hW hS hL)
theorem s_iand {x y : Int32} (hd : decode cc pc = .ok (.iand, 1)) (K : q_WP own nm cc nL rop d mc ms X Q k n (pc + 1) L (.int (x &&& y) :: st) σ I J) : q_WP own nm cc nL rop d mc ms X Q k n pc L (.int y :: .int x :: st) σ I J := fun p l e R s m args below meth c Qm cy D base b C E H locs ls hW hS hL => lv_iand C.1 C.2.1 hd  (K p l e R s m args below meth c Qm cy D base b C E H locs ls hW hS hL)
theorem s_ior {x y : Int32} (hd : decode cc pc = .ok (.ior, 1)) (K : q_WP own nm cc nL rop d mc ms X Q k n (pc + 1) L (.int (x ||| y) :: st) σ I J) : q_WP own nm cc nL rop d mc ms X Q k n pc L (.int y :: .int x :: st) σ I J := fun p l e R s m args below meth c Qm cy D base b C E H locs ls hW hS hL => lv_ior C.1 C.2.1 hd  (K p l e R s m args below meth c Qm cy D base b C E H locs ls hW hS hL)
theorem s_ixor {x y : Int32} (hd : decode cc pc = .ok (.ixor, 1)) (K : q_WP own nm cc nL rop d mc ms X Q k n (pc + 1) L (.int (x ^^^ y) :: st) σ I J) : q_WP own nm cc nL rop d mc ms X Q k n pc L (.int y :: .int x :: st) σ I J := fun p l e R s m args below meth c Qm cy D base b C E H locs ls hW hS hL => lv_ixor C.1 C.2.1 hd  (K p l e R s m args below meth c Qm cy D base b C E H locs ls hW hS hL)
theorem s_idiv {x y : Int32} (hd : decode cc pc = .ok (.idiv, 1)) (hne : ¬ y = 0) (K : q_WP own nm cc nL rop d mc ms X Q k n (pc + 1) L (.int (x / y) :: st) σ I J) : q_WP own nm cc nL rop d mc ms X Q k n pc L (.int y :: .int x :: st) σ I J := fun p l e R s m args below meth c Qm cy D base b C E H locs ls hW hS hL => lv_idiv C.1 C.2.1 hd hne (K p l e R s m args below meth c Qm cy D base b C E H locs ls hW hS hL)
theorem s_irem {x y : Int32} (hd : decode cc pc = .ok (.irem, 1)) (hne : ¬ y = 0) (K : q_WP own nm cc nL rop d mc ms X Q k n (pc + 1) L (.int (x - x / y * y) :: st) σ I J) : q_WP own nm cc nL rop d mc ms X Q k n pc L (.int y :: .int x :: st) σ I J := fun p l e R s m args below meth c Qm cy D base b C E H locs ls hW hS hL => lv_irem C.1 C.2.1 hd hne (K p l e R s m args below meth c Qm cy D base b C E H locs ls hW hS hL)
theorem s_ineg {x : Int32} (hd : decode cc pc = .ok (.ineg, 1)) (K : q_WP own nm cc nL rop d mc ms X Q k n (pc + 1) L (.int (-x) :: st) σ I J) : q_WP own nm cc nL rop d mc ms X Q k n pc L (.int x :: st) σ I J := fun p l e R s m args below meth c Qm cy D base b C E H locs ls hW hS hL => lv_ineg C.1 C.2.1 hd  (K p l e R s m args below meth c Qm cy D base b C E H locs ls hW hS hL)
theorem s_ladd {x y : Int64} (hd : decode cc pc = .ok (.ladd, 1)) (K : q_WP own nm cc nL rop d mc ms X Q k n (pc + 1) L (.long (x + y) :: st) σ I J) : q_WP own nm cc nL rop d mc ms X Q k n pc L (.long y :: .long x :: st) σ I J := fun p l e R s m args below meth c Qm cy D base b C E H locs ls hW hS hL => lv_ladd C.1 C.2.1 hd  (K p l e R s m args below meth c Qm cy D base b C E H locs ls hW hS hL)
theorem s_lmul {x y : Int64} (hd : decode cc pc = .ok (.lmul, 1)) (K : q_WP own nm cc nL rop d mc ms X Q k n (pc + 1) L (.long (x * y) :: st) σ I J) : q_WP own nm cc nL rop d mc ms X Q k n pc L (.long y :: .long x :: st) σ I J := fun p l e R s m args below meth c Qm cy D base b C E H locs ls hW hS hL => lv_lmul C.1 C.2.1 hd  (K p l e R s m args below meth c Qm cy D base b C E H locs ls hW hS hL)
theorem s_land {x y : Int64} (hd : decode cc pc = .ok (.land, 1)) (K : q_WP own nm cc nL rop d mc ms X Q k n (pc + 1) L (.long (x &&& y) :: st) σ I J) : q_WP own nm cc nL rop d mc ms X Q k n pc L (.long y :: .long x :: st) σ I J := fun p l e R s m args below meth c Qm cy D base b C E H locs ls hW hS hL => lv_land C.1 C.2.1 hd  (K p l e R s m args below meth c Qm cy D base b C E H locs ls hW hS hL)
theorem s_lor {x y : Int64} (hd : decode cc pc = .ok (.lor, 1)) (K : q_WP own nm cc nL rop d mc ms X Q k n (pc + 1) L (.long (x ||| y) :: st) σ I J) : q_WP own nm cc nL rop d mc ms X Q k n pc L (.long y :: .long x :: st) σ I J := fun p l e R s m args below meth c Qm cy D base b C E H locs ls hW hS hL => lv_lor C.1 C.2.1 hd  (K p l e R s m args below meth c Qm cy D base b C E H locs ls hW hS hL)
theorem s_lrem {x y : Int64} (hd : decode cc pc = .ok (.lrem, 1)) (hne : ¬ y = 0) (K : q_WP own nm cc nL rop d mc ms X Q k n (pc + 1) L (.long (x - x / y * y) :: st) σ I J) : q_WP own nm cc nL rop d mc ms X Q k n pc L (.long y :: .long x :: st) σ I J := fun p l e R s m args below meth c Qm cy D base b C E H locs ls hW hS hL => lv_lrem C.1 C.2.1 hd hne (K p l e R s m args below meth c Qm cy D base b C E H locs ls hW hS hL)
theorem s_ishl {x y : Int32} (hd : decode cc pc = .ok (.ishl, 1)) (K : q_WP own nm cc nL rop d mc ms X Q k n (pc + 1) L (.int (x <<< (y &&& 31)) :: st) σ I J) : q_WP own nm cc nL rop d mc ms X Q k n pc L (.int y :: .int x :: st) σ I J := fun p l e R s m args below meth c Qm cy D base b C E H locs ls hW hS hL => lv_ishl C.1 C.2.1 hd  (K p l e R s m args below meth c Qm cy D base b C E H locs ls hW hS hL)
theorem s_ishr {x y : Int32} (hd : decode cc pc = .ok (.ishr, 1)) (K : q_WP own nm cc nL rop d mc ms X Q k n (pc + 1) L (.int (x >>> (y &&& 31)) :: st) σ I J) : q_WP own nm cc nL rop d mc ms X Q k n pc L (.int y :: .int x :: st) σ I J := fun p l e R s m args below meth c Qm cy D base b C E H locs ls hW hS hL => lv_ishr C.1 C.2.1 hd  (K p l e R s m args below meth c Qm cy D base b C E H locs ls hW hS hL)
theorem s_iushr {x y : Int32} (hd : decode cc pc = .ok (.iushr, 1)) (K : q_WP own nm cc nL rop d mc ms X Q k n (pc + 1) L (.int ((x.toUInt32 >>> (y.toUInt32 &&& Int32.toUInt32 31)).toInt32) :: st) σ I J) : q_WP own nm cc nL rop d mc ms X Q k n pc L (.int y :: .int x :: st) σ I J := fun p l e R s m args below meth c Qm cy D base b C E H locs ls hW hS hL => lv_iushr C.1 C.2.1 hd rfl (K p l e R s m args below meth c Qm cy D base b C E H locs ls hW hS hL)
theorem s_i2l {x : Int32} (hd : decode cc pc = .ok (.i2l, 1)) (K : q_WP own nm cc nL rop d mc ms X Q k n (pc + 1) L (.long x.toInt64 :: st) σ I J) : q_WP own nm cc nL rop d mc ms X Q k n pc L (.int x :: st) σ I J := fun p l e R s m args below meth c Qm cy D base b C E H locs ls hW hS hL => lv_i2l C.1 C.2.1 hd rfl (K p l e R s m args below meth c Qm cy D base b C E H locs ls hW hS hL)
theorem s_l2i {x : Int64} (hd : decode cc pc = .ok (.l2i, 1)) (K : q_WP own nm cc nL rop d mc ms X Q k n (pc + 1) L (.int x.toInt32 :: st) σ I J) : q_WP own nm cc nL rop d mc ms X Q k n pc L (.long x :: st) σ I J := fun p l e R s m args below meth c Qm cy D base b C E H locs ls hW hS hL => lv_l2i C.1 C.2.1 hd rfl (K p l e R s m args below meth c Qm cy D base b C E H locs ls hW hS hL)
theorem s_lushr {x : Int64} {y : Int32} (hd : decode cc pc = .ok (.lushr, 1)) (K : q_WP own nm cc nL rop d mc ms X Q k n (pc + 1) L (.long ((x.toUInt64 >>> (y.toInt64.toUInt64 &&& Int64.toUInt64 63)).toInt64) :: st) σ I J) : q_WP own nm cc nL rop d mc ms X Q k n pc L (.int y :: .long x :: st) σ I J := fun p l e R s m args below meth c Qm cy D base b C E H locs ls hW hS hL => lv_lushr C.1 C.2.1 hd rfl (K p l e R s m args below meth c Qm cy D base b C E H locs ls hW hS hL)
theorem s_lshl {x : Int64} {y : Int32} (hd : decode cc pc = .ok (.lshl, 1)) (K : q_WP own nm cc nL rop d mc ms X Q k n (pc + 1) L (.long (x <<< (y.toInt64 &&& 63)) :: st) σ I J) : q_WP own nm cc nL rop d mc ms X Q k n pc L (.int y :: .long x :: st) σ I J := fun p l e R s m args below meth c Qm cy D base b C E H locs ls hW hS hL => lv_lshl C.1 C.2.1 hd rfl (K p l e R s m args below meth c Qm cy D base b C E H locs ls hW hS hL)
theorem s_lcmp {x y : Int64} (hd : decode cc pc = .ok (.lcmp, 1)) (K : q_WP own nm cc nL rop d mc ms X Q k n (pc + 1) L (.int (lg_cmp x y) :: st) σ I J) : q_WP own nm cc nL rop d mc ms X Q k n pc L (.long y :: .long x :: st) σ I J := fun p l e R s m args below meth c Qm cy D base b C E H locs ls hW hS hL => W.lcmp C.1 C.2.1 hd  (K p l e R s m args below meth c Qm cy D base b C E H locs ls hW hS hL)
theorem s_dup {v : Value} (hd : decode cc pc = .ok (.dup, 1)) (hc : v.category = 1) (K : q_WP own nm cc nL rop d mc ms X Q k n (pc + 1) L (v :: v :: st) σ I J) : q_WP own nm cc nL rop d mc ms X Q k n pc L (v :: st) σ I J := fun p l e R s m args below meth c Qm cy D base b C E H locs ls hW hS hL => lv_dup C.1 C.2.1 hd (by rw [q_tr_cat]; exact hc) (K p l e R s m args below meth c Qm cy D base b C E H locs ls hW hS hL)
theorem s_dup2 {v w : Value} (hd : decode cc pc = .ok (.dup2, 1)) (hc : v.category = 1) (hc2 : w.category = 1) (K : q_WP own nm cc nL rop d mc ms X Q k n (pc + 1) L (v :: w :: v :: w :: st) σ I J) : q_WP own nm cc nL rop d mc ms X Q k n pc L (v :: w :: st) σ I J := fun p l e R s m args below meth c Qm cy D base b C E H locs ls hW hS hL => lv_dup2_11 C.1 C.2.1 hd (by rw [q_tr_cat]; exact hc) (by rw [q_tr_cat]; exact hc2) (K p l e R s m args below meth c Qm cy D base b C E H locs ls hW hS hL)
theorem s_pop {v : Value} (hd : decode cc pc = .ok (.pop, 1)) (hc : v.category = 1) (K : q_WP own nm cc nL rop d mc ms X Q k n (pc + 1) L (st) σ I J) : q_WP own nm cc nL rop d mc ms X Q k n pc L (v :: st) σ I J := fun p l e R s m args below meth c Qm cy D base b C E H locs ls hW hS hL => lv_pop C.1 C.2.1 hd (by rw [q_tr_cat]; exact hc) (K p l e R s m args below meth c Qm cy D base b C E H locs ls hW hS hL)
theorem s_iload_n {a : Fin 4} {x : Int32} (hd : decode cc pc = .ok (.iload_n a, 1)) (hv : L[(a : Nat)]? = some (some (.int x))) (K : q_WP own nm cc nL rop d mc ms X Q k n (pc + 1) L (.int x :: st) σ I J) : q_WP own nm cc nL rop d mc ms X Q k n pc L (st) σ I J := fun p l e R s m args below meth c Qm cy D base b C E H locs ls hW hS hL => lv_iload_n C.1 C.2.1 hd rfl (hL.2.2 _ _ hv) (K p l e R s m args below meth c Qm cy D base b C E H locs ls hW hS hL)
theorem s_iload {a : Nat} {x : Int32} (hd : decode cc pc = .ok (.iload a, 2)) (hv : L[a]? = some (some (.int x))) (K : q_WP own nm cc nL rop d mc ms X Q k n (pc + 2) L (.int x :: st) σ I J) : q_WP own nm cc nL rop d mc ms X Q k n pc L (st) σ I J := fun p l e R s m args below meth c Qm cy D base b C E H locs ls hW hS hL => lv_iload C.1 C.2.1 hd (hL.2.2 _ _ hv) (K p l e R s m args below meth c Qm cy D base b C E H locs ls hW hS hL)
theorem s_lload_n {a : Fin 4} {x : Int64} (hd : decode cc pc = .ok (.lload_n a, 1)) (hv : L[(a : Nat)]? = some (some (.long x))) (K : q_WP own nm cc nL rop d mc ms X Q k n (pc + 1) L (.long x :: st) σ I J) : q_WP own nm cc nL rop d mc ms X Q k n pc L (st) σ I J := fun p l e R s m args below meth c Qm cy D base b C E H locs ls hW hS hL => lv_lload_n C.1 C.2.1 hd rfl (hL.2.2 _ _ hv) (K p l e R s m args below meth c Qm cy D base b C E H locs ls hW hS hL)
theorem s_lload {a : Nat} {x : Int64} (hd : decode cc pc = .ok (.lload a, 2)) (hv : L[a]? = some (some (.long x))) (K : q_WP own nm cc nL rop d mc ms X Q k n (pc + 2) L (.long x :: st) σ I J) : q_WP own nm cc nL rop d mc ms X Q k n pc L (st) σ I J := fun p l e R s m args below meth c Qm cy D base b C E H locs ls hW hS hL => lv_lload C.1 C.2.1 hd (hL.2.2 _ _ hv) (K p l e R s m args below meth c Qm cy D base b C E H locs ls hW hS hL)
theorem s_aload_n {a : Fin 4} {x : Nat} (hd : decode cc pc = .ok (.aload_n a, 1)) (hv : L[(a : Nat)]? = some (some (.ref x))) (K : q_WP own nm cc nL rop d mc ms X Q k n (pc + 1) L (.ref x :: st) σ I J) : q_WP own nm cc nL rop d mc ms X Q k n pc L (st) σ I J := fun p l e R s m args below meth c Qm cy D base b C E H locs ls hW hS hL => lv_aload_n C.1 C.2.1 hd rfl (hL.2.2 _ _ hv) (K p l e R s m args below meth c Qm cy D base b C E H locs ls hW hS hL)
theorem s_aload_x {a : Fin 4} (hd : decode cc pc = .ok (.aload_n a, 1)) (hv : L[(a : Nat)]? = some (some .null)) (K : q_WP own nm cc nL rop d mc ms X Q k n (pc + 1) L (.null :: st) σ I J) : q_WP own nm cc nL rop d mc ms X Q k n pc L (st) σ I J := fun p l e R s m args below meth c Qm cy D base b C E H locs ls hW hS hL => lv_aload_n C.1 C.2.1 hd rfl (hL.2.2 _ _ hv) (K p l e R s m args below meth c Qm cy D base b C E H locs ls hW hS hL)
theorem s_istore_n {a : Fin 4} {x : Int32} (hd : decode cc pc = .ok (.istore_n a, 1)) (hn : (a : Nat) < nL) (ho : q_ok L (a : Nat) = true) (K : q_WP own nm cc nL rop d mc ms X Q k n (pc + 1) (L.set (a : Nat) (some (.int x))) st σ I J) : q_WP own nm cc nL rop d mc ms X Q k n pc L (.int x :: st) σ I J := fun p l e R s m args below meth c Qm cy D base b C E H locs ls hW hS hL => lv_istore_n C.1 C.2.1 hd rfl hL.has hn rfl (fun ls h => K p l e R s m args below meth c Qm cy D base b C E H locs ls hW hS (q_L.set1 ho h))
theorem s_istore {a : Nat} {x : Int32} (hd : decode cc pc = .ok (.istore a, 2)) (hn : a < nL) (ho : q_ok L a = true) (K : q_WP own nm cc nL rop d mc ms X Q k n (pc + 2) (L.set a (some (.int x))) st σ I J) : q_WP own nm cc nL rop d mc ms X Q k n pc L (.int x :: st) σ I J := fun p l e R s m args below meth c Qm cy D base b C E H locs ls hW hS hL => lv_istore C.1 C.2.1 hd  hL.has hn rfl (fun ls h => K p l e R s m args below meth c Qm cy D base b C E H locs ls hW hS (q_L.set1 ho h))
theorem s_astore_n {a : Fin 4} {x : Nat} (hd : decode cc pc = .ok (.astore_n a, 1)) (hn : (a : Nat) < nL) (ho : q_ok L (a : Nat) = true) (K : q_WP own nm cc nL rop d mc ms X Q k n (pc + 1) (L.set (a : Nat) (some (.ref x))) st σ I J) : q_WP own nm cc nL rop d mc ms X Q k n pc L (.ref x :: st) σ I J := fun p l e R s m args below meth c Qm cy D base b C E H locs ls hW hS hL => lv_astore_n C.1 C.2.1 hd rfl hL.has hn rfl (fun ls h => K p l e R s m args below meth c Qm cy D base b C E H locs ls hW hS (q_L.set1 ho h))
theorem s_lstore_n {a : Fin 4} {x : Int64} (hd : decode cc pc = .ok (.lstore_n a, 1)) (hn : (a : Nat) + 1 < nL) (ho : q_ok L (a : Nat) = true) (K : q_WP own nm cc nL rop d mc ms X Q k n (pc + 1) ((L.set (a : Nat) (some (.long x))).set ((a : Nat) + 1) none) st σ I J) : q_WP own nm cc nL rop d mc ms X Q k n pc L (.long x :: st) σ I J := fun p l e R s m args below meth c Qm cy D base b C E H locs ls hW hS hL => lv_lstore_n C.1 C.2.1 hd rfl hL.has hn rfl (fun ls h => K p l e R s m args below meth c Qm cy D base b C E H locs ls hW hS (q_L.set2 ho h))
theorem s_iinc {a : Nat} {i : Int} {x : Int32} (hd : decode cc pc = .ok (.iinc a i, 3)) (hv : L[a]? = some (some (.int x))) (hn : a < nL) (ho : q_ok L a = true) (K : q_WP own nm cc nL rop d mc ms X Q k n (pc + 3) (L.set a (some (.int (x + Int32.ofInt i)))) st σ I J) : q_WP own nm cc nL rop d mc ms X Q k n pc L st σ I J := by
  intro p l e R s m args below meth c Qm cy D base b C E H locs ls hW hS hL
  obtain ⟨j, hj⟩ := List.getElem?_of_mem ((q_as_mem base b L 0 (a, .int x)).mpr ⟨a, .int x, hv, by rw [Nat.zero_add]; rfl⟩)
  exact lv_iinc C.1 C.2.1 hd hL.has hj rfl hn rfl (fun ls h => K p l e R s m args below meth c Qm cy D base b C E H locs ls hW hS (q_L.set1 ho h))
theorem s_if_eq {x : Int32} {off : Int} {tgt : Nat} (hd : decode cc pc = .ok (.ifCond .eq off, 3)) (ht : (pc : Int) + off = (tgt : Int)) (Kt : x = 0 → q_WP own nm cc nL rop d mc ms X Q k n tgt L st σ I J) (Kf : ¬ x = 0 → q_WP own nm cc nL rop d mc ms X Q k n (pc + 3) L st σ I J) : q_WP own nm cc nL rop d mc ms X Q k n pc L (.int x :: st) σ I J := fun p l e R s m args below meth c Qm cy D base b C E H locs ls hW hS hL => lv_if_eq C.1 C.2.1 hd ht (fun h => Kt h p l e R s m args below meth c Qm cy D base b C E H locs ls hW hS hL) (fun h => Kf h p l e R s m args below meth c Qm cy D base b C E H locs ls hW hS hL)
theorem s_icmp_eq {x y : Int32} {off : Int} {tgt : Nat} (hd : decode cc pc = .ok (.if_icmp .eq off, 3)) (ht : (pc : Int) + off = (tgt : Int)) (Kt : x = y → q_WP own nm cc nL rop d mc ms X Q k n tgt L st σ I J) (Kf : ¬ x = y → q_WP own nm cc nL rop d mc ms X Q k n (pc + 3) L st σ I J) : q_WP own nm cc nL rop d mc ms X Q k n pc L (.int y :: .int x :: st) σ I J := fun p l e R s m args below meth c Qm cy D base b C E H locs ls hW hS hL => lv_icmp_eq C.1 C.2.1 hd ht (fun h => Kt h p l e R s m args below meth c Qm cy D base b C E H locs ls hW hS hL) (fun h => Kf h p l e R s m args below meth c Qm cy D base b C E H locs ls hW hS hL)
theorem s_if_ne {x : Int32} {off : Int} {tgt : Nat} (hd : decode cc pc = .ok (.ifCond .ne off, 3)) (ht : (pc : Int) + off = (tgt : Int)) (Kt : ¬ x = 0 → q_WP own nm cc nL rop d mc ms X Q k n tgt L st σ I J) (Kf : x = 0 → q_WP own nm cc nL rop d mc ms X Q k n (pc + 3) L st σ I J) : q_WP own nm cc nL rop d mc ms X Q k n pc L (.int x :: st) σ I J := fun p l e R s m args below meth c Qm cy D base b C E H locs ls hW hS hL => lv_if_ne C.1 C.2.1 hd ht (fun h => Kt h p l e R s m args below meth c Qm cy D base b C E H locs ls hW hS hL) (fun h => Kf h p l e R s m args below meth c Qm cy D base b C E H locs ls hW hS hL)
theorem s_icmp_ne {x y : Int32} {off : Int} {tgt : Nat} (hd : decode cc pc = .ok (.if_icmp .ne off, 3)) (ht : (pc : Int) + off = (tgt : Int)) (Kt : ¬ x = y → q_WP own nm cc nL rop d mc ms X Q k n tgt L st σ I J) (Kf : x = y → q_WP own nm cc nL rop d mc ms X Q k n (pc + 3) L st σ I J) : q_WP own nm cc nL rop d mc ms X Q k n pc L (.int y :: .int x :: st) σ I J := fun p l e R s m args below meth c Qm cy D base b C E H locs ls hW hS hL => lv_icmp_ne C.1 C.2.1 hd ht (fun h => Kt h p l e R s m args below meth c Qm cy D base b C E H locs ls hW hS hL) (fun h => Kf h p l e R s m args below meth c Qm cy D base b C E H locs ls hW hS hL)
theorem s_if_lt {x : Int32} {off : Int} {tgt : Nat} (hd : decode cc pc = .ok (.ifCond .lt off, 3)) (ht : (pc : Int) + off = (tgt : Int)) (Kt : x < 0 → q_WP own nm cc nL rop d mc ms X Q k n tgt L st σ I J) (Kf : ¬ x < 0 → q_WP own nm cc nL rop d mc ms X Q k n (pc + 3) L st σ I J) : q_WP own nm cc nL rop d mc ms X Q k n pc L (.int x :: st) σ I J := fun p l e R s m args below meth c Qm cy D base b C E H locs ls hW hS hL => lv_if_lt C.1 C.2.1 hd ht (fun h => Kt h p l e R s m args below meth c Qm cy D base b C E H locs ls hW hS hL) (fun h => Kf h p l e R s m args below meth c Qm cy D base b C E H locs ls hW hS hL)
theorem s_icmp_lt {x y : Int32} {off : Int} {tgt : Nat} (hd : decode cc pc = .ok (.if_icmp .lt off, 3)) (ht : (pc : Int) + off = (tgt : Int)) (Kt : x < y → q_WP own nm cc nL rop d mc ms X Q k n tgt L st σ I J) (Kf : ¬ x < y → q_WP own nm cc nL rop d mc ms X Q k n (pc + 3) L st σ I J) : q_WP own nm cc nL rop d mc ms X Q k n pc L (.int y :: .int x :: st) σ I J := fun p l e R s m args below meth c Qm cy D base b C E H locs ls hW hS hL => lv_icmp_lt C.1 C.2.1 hd ht (fun h => Kt h p l e R s m args below meth c Qm cy D base b C E H locs ls hW hS hL) (fun h => Kf h p l e R s m args below meth c Qm cy D base b C E H locs ls hW hS hL)
theorem s_if_ge {x : Int32} {off : Int} {tgt : Nat} (hd : decode cc pc = .ok (.ifCond .ge off, 3)) (ht : (pc : Int) + off = (tgt : Int)) (Kt : 0 ≤ x → q_WP own nm cc nL rop d mc ms X Q k n tgt L st σ I J) (Kf : ¬ 0 ≤ x → q_WP own nm cc nL rop d mc ms X Q k n (pc + 3) L st σ I J) : q_WP own nm cc nL rop d mc ms X Q k n pc L (.int x :: st) σ I J := fun p l e R s m args below meth c Qm cy D base b C E H locs ls hW hS hL => lv_if_ge C.1 C.2.1 hd ht (fun h => Kt h p l e R s m args below meth c Qm cy D base b C E H locs ls hW hS hL) (fun h => Kf h p l e R s m args below meth c Qm cy D base b C E H locs ls hW hS hL)
theorem s_icmp_ge {x y : Int32} {off : Int} {tgt : Nat} (hd : decode cc pc = .ok (.if_icmp .ge off, 3)) (ht : (pc : Int) + off = (tgt : Int)) (Kt : y ≤ x → q_WP own nm cc nL rop d mc ms X Q k n tgt L st σ I J) (Kf : ¬ y ≤ x → q_WP own nm cc nL rop d mc ms X Q k n (pc + 3) L st σ I J) : q_WP own nm cc nL rop d mc ms X Q k n pc L (.int y :: .int x :: st) σ I J := fun p l e R s m args below meth c Qm cy D base b C E H locs ls hW hS hL => lv_icmp_ge C.1 C.2.1 hd ht (fun h => Kt h p l e R s m args below meth c Qm cy D base b C E H locs ls hW hS hL) (fun h => Kf h p l e R s m args below meth c Qm cy D base b C E H locs ls hW hS hL)
theorem s_if_gt {x : Int32} {off : Int} {tgt : Nat} (hd : decode cc pc = .ok (.ifCond .gt off, 3)) (ht : (pc : Int) + off = (tgt : Int)) (Kt : 0 < x → q_WP own nm cc nL rop d mc ms X Q k n tgt L st σ I J) (Kf : ¬ 0 < x → q_WP own nm cc nL rop d mc ms X Q k n (pc + 3) L st σ I J) : q_WP own nm cc nL rop d mc ms X Q k n pc L (.int x :: st) σ I J := fun p l e R s m args below meth c Qm cy D base b C E H locs ls hW hS hL => lv_if_gt C.1 C.2.1 hd ht (fun h => Kt h p l e R s m args below meth c Qm cy D base b C E H locs ls hW hS hL) (fun h => Kf h p l e R s m args below meth c Qm cy D base b C E H locs ls hW hS hL)
theorem s_icmp_gt {x y : Int32} {off : Int} {tgt : Nat} (hd : decode cc pc = .ok (.if_icmp .gt off, 3)) (ht : (pc : Int) + off = (tgt : Int)) (Kt : y < x → q_WP own nm cc nL rop d mc ms X Q k n tgt L st σ I J) (Kf : ¬ y < x → q_WP own nm cc nL rop d mc ms X Q k n (pc + 3) L st σ I J) : q_WP own nm cc nL rop d mc ms X Q k n pc L (.int y :: .int x :: st) σ I J := fun p l e R s m args below meth c Qm cy D base b C E H locs ls hW hS hL => lv_icmp_gt C.1 C.2.1 hd ht (fun h => Kt h p l e R s m args below meth c Qm cy D base b C E H locs ls hW hS hL) (fun h => Kf h p l e R s m args below meth c Qm cy D base b C E H locs ls hW hS hL)
theorem s_if_le {x : Int32} {off : Int} {tgt : Nat} (hd : decode cc pc = .ok (.ifCond .le off, 3)) (ht : (pc : Int) + off = (tgt : Int)) (Kt : x ≤ 0 → q_WP own nm cc nL rop d mc ms X Q k n tgt L st σ I J) (Kf : ¬ x ≤ 0 → q_WP own nm cc nL rop d mc ms X Q k n (pc + 3) L st σ I J) : q_WP own nm cc nL rop d mc ms X Q k n pc L (.int x :: st) σ I J := fun p l e R s m args below meth c Qm cy D base b C E H locs ls hW hS hL => lv_if_le C.1 C.2.1 hd ht (fun h => Kt h p l e R s m args below meth c Qm cy D base b C E H locs ls hW hS hL) (fun h => Kf h p l e R s m args below meth c Qm cy D base b C E H locs ls hW hS hL)
theorem s_icmp_le {x y : Int32} {off : Int} {tgt : Nat} (hd : decode cc pc = .ok (.if_icmp .le off, 3)) (ht : (pc : Int) + off = (tgt : Int)) (Kt : x ≤ y → q_WP own nm cc nL rop d mc ms X Q k n tgt L st σ I J) (Kf : ¬ x ≤ y → q_WP own nm cc nL rop d mc ms X Q k n (pc + 3) L st σ I J) : q_WP own nm cc nL rop d mc ms X Q k n pc L (.int y :: .int x :: st) σ I J := fun p l e R s m args below meth c Qm cy D base b C E H locs ls hW hS hL => lv_icmp_le C.1 C.2.1 hd ht (fun h => Kt h p l e R s m args below meth c Qm cy D base b C E H locs ls hW hS hL) (fun h => Kf h p l e R s m args below meth c Qm cy D base b C E H locs ls hW hS hL)
theorem s_goto {off : Int} {tgt : Nat} (hd : decode cc pc = .ok (.goto off, 3)) (ht : (pc : Int) + off = (tgt : Int)) (K : q_WP own nm cc nL rop d mc ms X Q k n tgt L st σ I J) : q_WP own nm cc nL rop d mc ms X Q k n pc L st σ I J := fun p l e R s m args below meth c Qm cy D base b C E H locs ls hW hS hL => lv_goto C.1 C.2.1 hd ht (K p l e R s m args below meth c Qm cy D base b C E H locs ls hW hS hL)
theorem s_tableOut {dflt lo hi : Int} {offs : Array Int} {len : Nat} {x : Int32} {tgt : Nat} (hd : decode cc pc = .ok (.tableswitch dflt lo hi offs, len)) (h : x.toInt < lo ∨ hi < x.toInt) (ht : (pc : Int) + dflt = (tgt : Int)) (K : q_WP own nm cc nL rop d mc ms X Q k n tgt L st σ I J) : q_WP own nm cc nL rop d mc ms X Q k n pc L (.int x :: st) σ I J := fun p l e R s m args below meth c Qm cy D base b C E H locs ls hW hS hL => lv_tableOut C.1 C.2.1 hd h ht (K p l e R s m args below meth c Qm cy D base b C E H locs ls hW hS hL)
theorem s_tableIn {dflt lo hi : Int} {offs : Array Int} {len : Nat} {x : Int32} {off : Int} {tgt : Nat} (hd : decode cc pc = .ok (.tableswitch dflt lo hi offs, len)) (h1 : ¬ x.toInt < lo) (h2 : ¬ hi < x.toInt) (ho : offs[(x.toInt - lo).toNat]? = some off) (ht : (pc : Int) + off = (tgt : Int)) (K : q_WP own nm cc nL rop d mc ms X Q k n tgt L st σ I J) : q_WP own nm cc nL rop d mc ms X Q k n pc L (.int x :: st) σ I J := fun p l e R s m args below meth c Qm cy D base b C E H locs ls hW hS hL => lv_tableIn C.1 C.2.1 hd h1 h2 ho ht (K p l e R s m args below meth c Qm cy D base b C E H locs ls hW hS hL)
theorem s_ldcw {a : Nat} {v : Int32} (hd : decode cc pc = .ok (.ldc_w a, 3)) (hc : Cond.constant own a v ∈ q_U) (K : q_WP own nm cc nL rop d mc ms X Q k n (pc + 3) L (.int v :: st) σ I J) : q_WP own nm cc nL rop d mc ms X Q k n pc L st σ I J := fun p l e R s m args below meth c Qm cy D base b C E H locs ls hW hS hL => lv_ldcw C.1 C.2.1 C.2.2.2.1 (C.2.2.2.2.1 _ hc) hd (K p l e R s m args below meth c Qm cy D base b C E H locs ls hW hS hL)
theorem s_ldc2 {a : Nat} {v : Int64} (hd : decode cc pc = .ok (.ldc2_w a, 3)) (hc : Cond.constantLong own a v ∈ q_U) (K : q_WP own nm cc nL rop d mc ms X Q k n (pc + 3) L (.long v :: st) σ I J) : q_WP own nm cc nL rop d mc ms X Q k n pc L st σ I J := fun p l e R s m args below meth c Qm cy D base b C E H locs ls hW hS hL => lv_ldc2 C.1 C.2.1 C.2.2.2.1 (C.2.2.2.2.1 _ hc) hd (K p l e R s m args below meth c Qm cy D base b C E H locs ls hW hS hL)
theorem s_ret (hd : decode cc pc = .ok (rop, 1)) (K : Q st σ I J k n) : q_WP own nm cc nL rop d mc ms X Q k n pc L st σ I J := fun p l e R s m args below meth c Qm cy D base b C E H locs ls hW hS hL => E pc ls st σ I J k n H locs hd K hW hS
theorem s_xlen {N : Nat} {xs : Nat → Int32} (hx : X = some (N, xs)) (hd : decode cc pc = .ok (.arraylength, 1)) (K : q_WP own nm cc nL rop d mc ms X Q k n (pc + 1) L (.int (Int32.ofNat N) :: st) σ I J) : q_WP own nm cc nL rop d mc ms X Q k n pc L (.null :: st) σ I J := fun p l e R s m args below meth c Qm cy D base b C E H locs ls hW hS hL => va_slen C.1 C.2.1 (C.2.2.2.2.2.2.2.2.2 _ hx).1 (C.2.2.2.2.2.2.2.2.2 _ hx).2.1 (C.2.2.2.2.2.2.2.2.2 _ hx).2.2 hS hd (K p l e R s m args below meth c Qm cy D base b C E H locs ls hW hS hL)
theorem s_xld {N : Nat} {xs : Nat → Int32} {i : Int32} (hx : X = some (N, xs)) (hd : decode cc pc = .ok (.iaload, 1)) (hin : vp_in i N) (K : q_WP own nm cc nL rop d mc ms X Q k n (pc + 1) L (.int (xs i.toNatClampNeg) :: st) σ I J) : q_WP own nm cc nL rop d mc ms X Q k n pc L (.int i :: .null :: st) σ I J := fun p l e R s m args below meth c Qm cy D base b C E H locs ls hW hS hL => va_sld C.1 C.2.1 (C.2.2.2.2.2.2.2.2.2 _ hx).1 (C.2.2.2.2.2.2.2.2.2 _ hx).2.1 (C.2.2.2.2.2.2.2.2.2 _ hx).2.2 hS hin hd (K p l e R s m args below meth c Qm cy D base b C E H locs ls hW hS hL)
end
end
section
/-- there are just as many cells as the world has -/
theorem q_size {p : Program} {l : Launch} {e : Env} {R : Room} {s : State} {m : MethodId} {args : Array Value} {below : List Frame} {meth : Method} {c : Code} {T : State} {H : Heap} {locs : List Loc} {k n : Nat} {cy : Nat → ClassId} {D : va_G} {base : Nat} {σ : Shp} {I : Mem} {J : Lng}
    (hT : T.heap = H) (X : Stand p l e R s m args below meth c T locs k n) (hW : q_W cy D base (s.heap.size + k) σ I J H) (hb : base ≤ s.heap.size) (hS : s.heap.size ≤ H.size) : H.size = base + σ.length := by
  have h1 : (T.setVm s.vm).heap.size ≤ s.heap.size + k := X.same.2.2.1
  have h2 : T.heap.size ≤ s.heap.size + k := h1
  rw [hT, hW.2] at h2
  refine Nat.le_antisymm h2 ?_
  cases hn : σ.length with
  | zero => omega
  | succ j =>
    have hj : j < σ.length := by omega
    have h3 := (hW.1 j _ (q_ws_at (List.getElem?_eq_getElem hj))).lt
    have h4 : base + j < H.size := h3
    omega
def q_Cls (c : Nat) (C : String) (T : u_T) (N : Nat) (ty0 : Nat → FieldType) : Prop := vwCl[c]? = some (C, T, N) ∧ (∀ w ∈ u_ws C T N, w ∈ q_U) ∧ (∀ k, k < N → parseFieldDescriptor (T k).2.2.1 = some (ty0 k)) ∧ (∀ a, a < N → ∀ b, b < N → a ≠ b → (T a).2.1 ≠ (T b).2.1) ∧ (q_fk c).length = N
/-- a field's link: of the class own, entry idx, names the field f of class c, of kind kd -/
def q_Fld (own : String) (idx c f kd : Nat) (fin : Bool) : Prop := ∃ (C : String) (T : u_T) (N : Nat) (ty0 : Nat → FieldType), q_Cls c C T N ty0 ∧ f < N ∧ Cond.fieldLink own idx (T f).1 (T f).2.1 (T f).2.2.1 ∈ q_U ∧ (q_fk c)[f]? = some kd ∧ (T f).2.2.2 = fin ∧ (fin = true → (T f).1 = own) ∧ (kd = 0 → ty0 f = .int) ∧ (kd = 1 → ty0 f = .long ∧ ∀ i, (q_fk c)[i]? = some 1 → i = f) ∧ (kd = 2 → (∃ a, ty0 f = .object a) ∨ ∃ a, ty0 f = .array a)
section
variable {own nm : String} {cc : ByteArray} {nL : Nat} {rop : Instr} {d mc ms : Nat} {X : Option (Nat × (Nat → Int32))} {Q : List Value → Shp → Mem → Lng → Nat → Nat → Prop} {k n pc : Nat} {L : List (Option Value)} {st : List Value} {σ : Shp} {I : Mem} {J : Lng}
theorem s_getI {idx c f t : Nat} {fin : Bool} {e : Ent} (hd : decode cc pc = .ok (.getfield idx, 3)) (hf : q_Fld own idx c f 0 fin) (he : σ[t]? = some e) (hc : e.1 = 10 + c) (K : q_WP own nm cc nL rop d mc ms X Q k n (pc + 3) L (.int (I t f) :: st) σ I J) : q_WP own nm cc nL rop d mc ms X Q k n pc L (.ref t :: st) σ I J := by
  intro p l e0 R s m args below meth c0 Qm cy D base b C E H locs ls hW hS hL
  obtain ⟨C', T, N, ty0, ⟨h1, h2, h3, h4, h5⟩, hk, hl, hfk, -⟩ := hf
  exact va_get (D := D) (ci := c) (v := .int (I t f)) (C := C') (T := T) (N := N) C.1 C.2.1 C.2.2.2.2.1 h2 C.2.2.2.1 C.2.2.2.2.2.1.1 hW.1 t (by rw [q_ws_at he, q_cell_o hc]) h1 f hk (C.2.2.2.2.1 _ hl) (fun _ h9 => h9) (by rw [q_fs_get, hfk, Nat.zero_add]; rfl) hd (K p l e0 R s m args below meth c0 Qm cy D base b C E H locs ls hW hS hL)
theorem s_getJ {idx c f t : Nat} {fin : Bool} {e : Ent} (hd : decode cc pc = .ok (.getfield idx, 3)) (hf : q_Fld own idx c f 1 fin) (he : σ[t]? = some e) (hc : e.1 = 10 + c) (K : q_WP own nm cc nL rop d mc ms X Q k n (pc + 3) L (.long (J t) :: st) σ I J) : q_WP own nm cc nL rop d mc ms X Q k n pc L (.ref t :: st) σ I J := by
  intro p l e0 R s m args below meth c0 Qm cy D base b C E H locs ls hW hS hL
  obtain ⟨C', T, N, ty0, ⟨h1, h2, h3, h4, h5⟩, hk, hl, hfk, -⟩ := hf
  exact va_get (D := D) (ci := c) (v := .long (J t)) (C := C') (T := T) (N := N) C.1 C.2.1 C.2.2.2.2.1 h2 C.2.2.2.1 C.2.2.2.2.2.1.1 hW.1 t (by rw [q_ws_at he, q_cell_o hc]) h1 f hk (C.2.2.2.2.1 _ hl) (fun _ h9 => h9) (by rw [q_fs_get, hfk, Nat.zero_add]; rfl) hd (K p l e0 R s m args below meth c0 Qm cy D base b C E H locs ls hW hS hL)
theorem s_getR {idx c f t r : Nat} {fin : Bool} {e : Ent} (hd : decode cc pc = .ok (.getfield idx, 3)) (hf : q_Fld own idx c f 2 fin) (he : σ[t]? = some e) (hc : e.1 = 10 + c) (hr : e.2.2.getD f none = some r) (K : q_WP own nm cc nL rop d mc ms X Q k n (pc + 3) L (.ref r :: st) σ I J) : q_WP own nm cc nL rop d mc ms X Q k n pc L (.ref t :: st) σ I J := by
  intro p l e0 R s m args below meth c0 Qm cy D base b C E H locs ls hW hS hL
  obtain ⟨C', T, N, ty0, ⟨h1, h2, h3, h4, h5⟩, hk, hl, hfk, -⟩ := hf
  exact va_get (D := D) (ci := c) (v := .ref (base + r)) (C := C') (T := T) (N := N) C.1 C.2.1 C.2.2.2.2.1 h2 C.2.2.2.1 C.2.2.2.2.2.1.1 hW.1 t (by rw [q_ws_at he, q_cell_o hc]) h1 f hk (C.2.2.2.2.1 _ hl) (fun _ h9 => h9) (by rw [q_fs_get, hfk, Nat.zero_add]; simp only [Option.map_some, q_fd, hr]; rfl) hd (K p l e0 R s m args below meth c0 Qm cy D base b C E H locs ls hW hS hL)
theorem s_putI {idx c f t : Nat} {e : Ent} {v : Int32} (hd : decode cc pc = .ok (.putfield idx, 3)) (hf : q_Fld own idx c f 0 false) (he : σ[t]? = some e) (hc : e.1 = 10 + c) (K : q_WP own nm cc nL rop d mc ms X Q k n (pc + 3) L st σ (upI I t f v) J) : q_WP own nm cc nL rop d mc ms X Q k n pc L (.int v :: .ref t :: st) σ I J := by
  intro p l e0 R s m args below meth c0 Qm cy D base b C E H locs ls hW hS hL
  obtain ⟨C', T, N, ty0, ⟨h1, h2, h3, h4, h5⟩, hk, hl, hfk, hfin, -, hty, -⟩ := hf
  have hlt : t < σ.length := (List.getElem?_eq_some_iff.mp he).1
  refine va_put (D := D) (ci := c) (v := .int v) (ty := .int) (C := C') (T := T) (N := N) C.1 C.2.1 C.2.2.2.2.1 h2 ty0 h3 h4 C.2.2.2.1 C.2.2.2.2.2.1.1 hW.1 (q_ws_D cy base I J σ) hS t (by rw [q_ws_at he, q_cell_o hc]) h1 f hk (C.2.2.2.2.1 _ hl) (fun _ h9 => h9) hfin (by rw [h3 f hk, hty rfl]) rfl rfl (by rw [q_fs_len, h5]; exact hk) hd (fun H1 locs1 hP _ hS1 => ?_)
  refine K p l e0 R s m args below meth c0 Qm cy D base b C E H1 locs1 ls ⟨?_, hW.2⟩ hS1 hL
  rw [← q_ws_set (cy := cy) (base := base) (I := I) (I' := upI I t f v) (J := J) (J' := J) (σ := σ) (t := t) (fun _ _ => rfl) (fun i hi => upI_ne hi) (fun _ _ => rfl) he hlt, q_cell_o hc, upI_self, ← q_fs_int v hfk]
  exact hP
theorem s_putJ {idx c f t : Nat} {e : Ent} {v : Int64} (hd : decode cc pc = .ok (.putfield idx, 3)) (hf : q_Fld own idx c f 1 false) (he : σ[t]? = some e) (hc : e.1 = 10 + c) (K : q_WP own nm cc nL rop d mc ms X Q k n (pc + 3) L st σ I (upJ J t v)) : q_WP own nm cc nL rop d mc ms X Q k n pc L (.long v :: .ref t :: st) σ I J := by
  intro p l e0 R s m args below meth c0 Qm cy D base b C E H locs ls hW hS hL
  obtain ⟨C', T, N, ty0, ⟨h1, h2, h3, h4, h5⟩, hk, hl, hfk, hfin, -, -, hty, -⟩ := hf
  have hlt : t < σ.length := (List.getElem?_eq_some_iff.mp he).1
  refine va_put (D := D) (ci := c) (v := .long v) (ty := .long) (C := C') (T := T) (N := N) C.1 C.2.1 C.2.2.2.2.1 h2 ty0 h3 h4 C.2.2.2.1 C.2.2.2.2.2.1.1 hW.1 (q_ws_D cy base I J σ) hS t (by rw [q_ws_at he, q_cell_o hc]) h1 f hk (C.2.2.2.2.1 _ hl) (fun _ h9 => h9) hfin (by rw [h3 f hk, (hty rfl).1]) rfl rfl (by rw [q_fs_len, h5]; exact hk) hd (fun H1 locs1 hP _ hS1 => ?_)
  refine K p l e0 R s m args below meth c0 Qm cy D base b C E H1 locs1 ls ⟨?_, hW.2⟩ hS1 hL
  rw [← q_ws_set (cy := cy) (base := base) (I := I) (I' := I) (J := J) (J' := upJ J t v) (σ := σ) (t := t) (fun _ _ => rfl) (fun _ _ => rfl) (fun i hi => if_neg hi) he hlt, q_cell_o hc, show upJ J t v t = v from if_pos rfl, ← q_fs_long v hfk (hty rfl).2]
  exact hP
/-- a final reference field, in a constructor -/
theorem s_putF {idx c f t r : Nat} {e e' : Ent} (hd : decode cc pc = .ok (.putfield idx, 3)) (hf : q_Fld own idx c f 2 true) (hn : nm = "<init>") (he : σ[t]? = some e) (hc : e.1 = 10 + c) (hl : f < e.2.2.length) (he' : (e.1, e.2.1, e.2.2.set f (some r)) = e') (K : q_WP own nm cc nL rop d mc ms X Q k n (pc + 3) L st (σ.set t e') I J) : q_WP own nm cc nL rop d mc ms X Q k n pc L (.ref r :: .ref t :: st) σ I J := by
  intro p l e0 R s m args below meth c0 Qm cy D base b C E H locs ls hW hS hL
  subst he'
  obtain ⟨C', T, N, ty0, ⟨h1, h2, h3, h4, h5⟩, hk, hl2, hfk, hfin, hdc, -, -, hty⟩ := hf
  have hlt : t < σ.length := (List.getElem?_eq_some_iff.mp he).1
  have hfin2 : narrow (ty0 f) (Value.ref (base + r)) = Value.ref (base + r) ∧ fits (ty0 f) (Value.ref (base + r)) = true := by
    rcases hty rfl with ⟨a, h⟩ | ⟨a, h⟩ <;> rw [h] <;> exact ⟨rfl, rfl⟩
  refine va_putF (D := D) (ci := c) (v := .ref (base + r)) (ty := ty0 f) (C := C') (T := T) (N := N) C.1 C.2.1 C.2.2.2.2.1 h2 ty0 h3 h4 C.2.2.2.1 C.2.2.2.2.2.1.1 hW.1 (q_ws_D cy base I J σ) hS t (by rw [q_ws_at he, q_cell_o hc]) h1 f hk (C.2.2.2.2.1 _ hl2) (fun _ h9 => h9) hfin (by rw [C.2.2.2.2.2.2.2.2.1]; exact hn) (hdc rfl) (h3 f hk) hfin2.1 hfin2.2 (by rw [q_fs_len, h5]; exact hk) hd (fun H1 locs1 hP _ hS1 => ?_)
  refine K p l e0 R s m args below meth c0 Qm cy D base b C E H1 locs1 ls ⟨?_, by rw [List.length_set]; exact hW.2⟩ hS1 hL
  rw [← q_ws_set (cy := cy) (base := base) (I := I) (I' := I) (J := J) (J' := J) (σ := σ) (t := t) (e' := (e.1, e.2.1, e.2.2.set f (some r))) (fun i hi => List.getElem?_set_ne (fun q => hi q.symm)) (fun _ _ => rfl) (fun _ _ => rfl) (List.getElem?_set_self hlt) hlt, q_cell_o (e := (e.1, e.2.1, e.2.2.set f (some r))) hc, ← q_fs_ref hfk hl]
  exact hP
theorem s_iaload {t : Nat} {e : Ent} {i : Int32} (hd : decode cc pc = .ok (.iaload, 1)) (he : σ[t]? = some e) (hc : e.1 = 0) (hin : vp_in i e.2.1) (K : q_WP own nm cc nL rop d mc ms X Q k n (pc + 1) L (.int (I t i.toNatClampNeg) :: st) σ I J) : q_WP own nm cc nL rop d mc ms X Q k n pc L (.int i :: .ref t :: st) σ I J := by
  intro p l e0 R s m args below meth c0 Qm cy D base b C E H locs ls hW hS hL
  exact va_iald C.1 C.2.1 C.2.2.2.2.2.1.1 hW.1 t 0 (by rw [q_ws_at he, q_cell_i hc (by decide)]) rfl hin hd (K p l e0 R s m args below meth c0 Qm cy D base b C E H locs ls hW hS hL)
theorem s_baload {t : Nat} {e : Ent} {i : Int32} (hd : decode cc pc = .ok (.baload, 1)) (he : σ[t]? = some e) (hc : e.1 = 1) (hin : vp_in i e.2.1) (K : q_WP own nm cc nL rop d mc ms X Q k n (pc + 1) L (.int (I t i.toNatClampNeg) :: st) σ I J) : q_WP own nm cc nL rop d mc ms X Q k n pc L (.int i :: .ref t :: st) σ I J := by
  intro p l e0 R s m args below meth c0 Qm cy D base b C E H locs ls hW hS hL
  exact va_zald C.1 C.2.1 C.2.2.2.2.2.1.1 hW.1 t 1 (by rw [q_ws_at he, q_cell_i hc (by decide)]) rfl hin hd (K p l e0 R s m args below meth c0 Qm cy D base b C E H locs ls hW hS hL)
theorem s_alen {t : Nat} {e : Ent} (hd : decode cc pc = .ok (.arraylength, 1)) (he : σ[t]? = some e) (hc : e.1 = 0) (K : q_WP own nm cc nL rop d mc ms X Q k n (pc + 1) L (.int (Int32.ofNat e.2.1) :: st) σ I J) : q_WP own nm cc nL rop d mc ms X Q k n pc L (.ref t :: st) σ I J := by
  intro p l e0 R s m args below meth c0 Qm cy D base b C E H locs ls hW hS hL
  exact va_alen (x := (e.2.1, .inl (I t))) C.1 C.2.1 C.2.2.2.2.2.1.1 hW.1 t 0 (by rw [q_ws_at he, q_cell_i hc (by decide)]) rfl rfl hd (K p l e0 R s m args below meth c0 Qm cy D base b C E H locs ls hW hS hL)
theorem s_iastore {t : Nat} {e : Ent} {i v : Int32} (hd : decode cc pc = .ok (.iastore, 1)) (he : σ[t]? = some e) (hc : e.1 = 0) (hin : vp_in i e.2.1) (K : q_WP own nm cc nL rop d mc ms X Q k n (pc + 1) L st σ (upI I t i.toNatClampNeg v) J) : q_WP own nm cc nL rop d mc ms X Q k n pc L (.int v :: .int i :: .ref t :: st) σ I J := by
  intro p l e0 R s m args below meth c0 Qm cy D base b C E H locs ls hW hS hL
  have hlt : t < σ.length := (List.getElem?_eq_some_iff.mp he).1
  refine va_iast C.1 C.2.1 C.2.2.2.2.2.1.1 hW.1 (q_ws_D cy base I J σ) hS t 0 (by rw [q_ws_at he, q_cell_i hc (by decide)]) rfl hin hd (fun H1 locs1 hP _ hS1 => ?_)
  refine K p l e0 R s m args below meth c0 Qm cy D base b C E H1 locs1 ls ⟨?_, hW.2⟩ hS1 hL
  rw [← q_ws_set (cy := cy) (base := base) (I := I) (I' := upI I t i.toNatClampNeg v) (J := J) (J' := J) (σ := σ) (t := t) (fun _ _ => rfl) (fun i hi => upI_ne hi) (fun _ _ => rfl) he hlt, q_cell_i hc (by decide), upI_self]
  exact hP
theorem s_bastore {t : Nat} {e : Ent} {i v : Int32} (hd : decode cc pc = .ok (.bastore, 1)) (he : σ[t]? = some e) (hc : e.1 = 1) (hin : vp_in i e.2.1) (hv : vp_nar .boolean v = v) (K : q_WP own nm cc nL rop d mc ms X Q k n (pc + 1) L st σ (upI I t i.toNatClampNeg v) J) : q_WP own nm cc nL rop d mc ms X Q k n pc L (.int v :: .int i :: .ref t :: st) σ I J := by
  intro p l e0 R s m args below meth c0 Qm cy D base b C E H locs ls hW hS hL
  have hlt : t < σ.length := (List.getElem?_eq_some_iff.mp he).1
  refine va_zast C.1 C.2.1 C.2.2.2.2.2.1.1 hW.1 (q_ws_D cy base I J σ) hS t 1 (by rw [q_ws_at he, q_cell_i hc (by decide)]) rfl hin hd (fun H1 locs1 hP _ hS1 => ?_)
  rw [hv] at hP
  refine K p l e0 R s m args below meth c0 Qm cy D base b C E H1 locs1 ls ⟨?_, hW.2⟩ hS1 hL
  rw [← q_ws_set (cy := cy) (base := base) (I := I) (I' := upI I t i.toNatClampNeg v) (J := J) (J' := J) (σ := σ) (t := t) (fun _ _ => rfl) (fun i hi => upI_ne hi) (fun _ _ => rfl) he hlt, q_cell_i hc (by decide), upI_self]
  exact hP
/-- an array of objects: a = 2 Land, 3 Kin -/
theorem s_aaload {t r a : Nat} {e : Ent} {i : Int32} (hd : decode cc pc = .ok (.aaload, 1)) (he : σ[t]? = some e) (hc : e.1 = a) (ha : a = 2 ∨ a = 3 ∨ a = 4) (hin : vp_in i e.2.1) (hr : e.2.2.getD i.toNatClampNeg none = some r) (K : q_WP own nm cc nL rop d mc ms X Q k n (pc + 1) L (.ref r :: st) σ I J) : q_WP own nm cc nL rop d mc ms X Q k n pc L (.int i :: .ref t :: st) σ I J := by
  intro p l e0 R s m args below meth c0 Qm cy D base b C E H locs ls hW hS hL
  have hr2 : va_rf (q_rw base e.2.2 i.toNatClampNeg) = .ref (base + r) := by unfold q_rw; rw [hr]; rfl
  have hlt : i.toNatClampNeg < e.2.1 := Nat.not_le.mp fun q => hin (Or.inr q)
  have h2 : a < 10 := by omega
  have h3 : ¬ a < 2 := by omega
  have hP := hW.1 t _ (q_ws_at he)
  rw [q_cell_q hc h3 h2] at hP
  obtain ⟨ty, hty, ht⟩ : ∃ ty : FieldType, ty.isReference = true ∧ (q_ty cy)[a]? = some (cy a, ty) := by
    rcases ha with rfl | rfl | rfl
    · exact ⟨_, rfl, rfl⟩
    · exact ⟨_, rfl, rfl⟩
    · exact ⟨_, rfl, rfl⟩
  refine W.aald (v := va_rf (q_rw base e.2.2 i.toNatClampNeg)) (ty := ty) C.1 C.2.1 hP ((C.2.2.2.2.2.1.1.2 a _ ht).1 e.2.1 (fun j => va_rf (q_rw base e.2.2 j))) hty (fun q => by cases q) (by show ¬ (i < 0 ∨ (arrV _ _ _).slots.size ≤ _); rw [arrV_size]; exact hin) (by show (arrV _ _ _).slots[_]? = _; rw [arrV_read _ _ hlt]) rfl rfl hd ?_
  rw [hr2]
  exact K p l e0 R s m args below meth c0 Qm cy D base b C E H locs ls hW hS hL
end
end
section
/-- what is called, as the tables have it -/
def q_Me (y : MethodName) (cc : ByteArray) (nL : Nat) (ret : Option FieldType) (na : Nat) : Prop := Cond.code y cc nL ret ∈ q_U ∧ Cond.initialized y.cls ∈ q_U ∧ (y.cls ≠ "java/lang/invoke/MethodHandle" ∧ y.cls ≠ "java/lang/invoke/VarHandle") ∧ (parseMethodDescriptor y.desc).map (fun d => d.parameters.length) = some na ∧ nL ≤ 21 ∧ plainName y.cls = true
def q_Rm (d mc ms : Nat) : Room := { frames := d, cells := mc, slots := ms, locals := 40 * d }
def q_Pc (cy : Nat → ClassId) (D : va_G) (base : Nat) (av : List Value) (σ : Shp) (I : Mem) (J : Lng) : Array Value → State → Prop := va_Pc (av.map (q_tr base 0)) (fun U => q_W cy D base U.heap.size σ I J U.heap ∧ q_K cy D U)
def q_Qc (cy : Nat → ClassId) (D : va_G) (base mc : Nat) (Q : Option Value → Shp → Mem → Lng → Prop) : Array Value → State → Outcome → State → Prop := fun _ st o t => ∃ (r : Option Value) (σ' : Shp) (I' : Mem) (J' : Lng), o = .returned (r.map (q_tr base 0)) ∧ (∀ v, r = some v → v ≠ .null) ∧ Q r σ' I' J' ∧ q_W cy D base (st.heap.size + mc) σ' I' J' t.heap ∧ va_F (fun q => base ≤ q) st t
/-- the contract of a method at a depth: from this memory it returns, and Q holds of its answer and the memory then -/
def q_C (y : MethodName) (cc : ByteArray) (nL : Nat) (ret : Option FieldType) (d mc ms : Nat) (av : List Value) (σ : Shp) (I : Mem) (J : Lng) (Q : Option Value → Shp → Mem → Lng → Prop) : Prop :=
  ∀ (l : Launch) (cy : Nat → ClassId) (D : va_G) (base : Nat), Met l y (.code y cc nL ret :: q_U) (q_Rm d mc ms) (q_Pc cy D base av σ I J) (q_Qc cy D base mc Q) mc ms (fun q => base ≤ q)
/-- the locals at a method's entry -/
def q_args : List Value → List (Option Value)
  | [] => []
  | .long v :: r => some (.long v) :: none :: q_args r
  | v :: r => some v :: q_args r
def q_ent (nL : Nat) (av : List Value) : List (Option Value) := q_args av ++ List.replicate (nL - (q_args av).length) none
def q_one (v : Value) : Bool := match v with
  | .int _ => true
  | .long _ => true
  | .ref _ => true
  | _ => false
theorem q_args_mem (base b : Nat) : ∀ (av : List Value) (i0 : Nat), (av.all q_one = true) → ∀ (i : Nat) (v : Value), (q_args av)[i]? = some (some v) → (i0 + i, q_tr base b v) ∈ lv_args i0 (av.map (q_tr base b))
  | [], i0, _, i, v, h => by simp [q_args] at h
  | x :: r, i0, ha, i, v, h => by
    simp only [List.all_cons, Bool.and_eq_true] at ha
    cases x with
    | long a =>
      simp only [List.map_cons, lv_args, q_tr, Value.category]
      cases i with
      | zero => simp [q_args] at h; subst h; simp [q_tr]
      | succ i =>
        cases i with
        | zero => simp [q_args] at h
        | succ i =>
          have h2 : (q_args r)[i]? = some (some v) := by simpa [q_args] using h
          have := q_args_mem base b r (i0 + 2) ha.2 i v h2
          rw [show i0 + (i + 1 + 1) = i0 + 2 + i by omega]
          exact List.mem_cons_of_mem _ this
    | int a =>
      simp only [List.map_cons, lv_args, q_tr, Value.category]
      cases i with
      | zero => simp [q_args] at h; subst h; simp [q_tr]
      | succ i =>
        have h2 : (q_args r)[i]? = some (some v) := by simpa [q_args] using h
        have := q_args_mem base b r (i0 + 1) ha.2 i v h2
        rw [show i0 + (i + 1) = i0 + 1 + i by omega]
        exact List.mem_cons_of_mem _ this
    | ref a =>
      simp only [List.map_cons, lv_args, q_tr, Value.category]
      cases i with
      | zero => simp [q_args] at h; subst h; simp [q_tr]
      | succ i =>
        have h2 : (q_args r)[i]? = some (some v) := by simpa [q_args] using h
        have := q_args_mem base b r (i0 + 1) ha.2 i v h2
        rw [show i0 + (i + 1) = i0 + 1 + i by omega]
        exact List.mem_cons_of_mem _ this
    | _ => simp [q_one] at ha
theorem q_args_len (base b : Nat) : ∀ (av : List Value), (av.all q_one = true) → (lg_sl (av.map (q_tr base b))).length = (q_args av).length
  | [], _ => rfl
  | x :: r, ha => by
    simp only [List.all_cons, Bool.and_eq_true] at ha
    have ih := q_args_len base b r ha.2
    unfold lg_sl at ih ⊢
    cases x with
    | long a =>
      rw [List.map_cons, List.flatMap_cons, List.length_append, ih]
      show 2 + (q_args r).length = (q_args r).length + 1 + 1
      omega
    | int a =>
      rw [List.map_cons, List.flatMap_cons, List.length_append, ih]
      show 1 + (q_args r).length = (q_args r).length + 1
      omega
    | ref a =>
      rw [List.map_cons, List.flatMap_cons, List.length_append, ih]
      show 1 + (q_args r).length = (q_args r).length + 1
      omega
    | _ => simp [q_one] at ha
theorem q_one_tr {av : List Value} (ha : av.all q_one = true) (base b b' : Nat) : av.map (q_tr base b) = av.map (q_tr base b') := by
  apply List.map_congr_left
  intro v hv
  have h := List.all_eq_true.mp ha v hv
  cases v <;> first | rfl | (simp [q_one] at h)
theorem q_L.entry {base b : Nat} {nL : Nat} {av : List Value} (ha : av.all q_one = true) (hl : (q_args av).length ≤ nL) : q_L base b ((lg_sl (av.map (q_tr base b)) ++ List.replicate (nL - (lg_sl (av.map (q_tr base b))).length) Slot.unset).toArray) nL (q_ent nL av) := by
  have h := lv_entry (av.map (q_tr base b)) (n := nL) (by rw [q_args_len base b av ha]; exact hl)
  refine ⟨h.1, h.2.1, fun i v hv => ?_⟩
  have hv2 : (q_args av)[i]? = some (some v) := by
    unfold q_ent at hv
    by_cases hi : i < (q_args av).length
    · rwa [List.getElem?_append_left hi] at hv
    · rw [List.getElem?_append_right (by omega), List.getElem?_replicate] at hv
      split at hv <;> cases hv
  have := h.2.2 _ (q_args_mem base b av 0 ha i v hv2)
  simpa using this
/-- the answer of a method as its return has it -/
def q_Rt (ret : Option FieldType) (rop : Instr) (st : List Value) (r : Option Value) : Prop :=
  (ret = some .int ∧ rop = .ireturn ∧ ∃ v : Int32, st = [.int v] ∧ r = some (.int v)) ∨ (ret = some .boolean ∧ rop = .ireturn ∧ ∃ v : Int32, (v = 0 ∨ v = 1) ∧ st = [.int v] ∧ r = some (.int v)) ∨ (ret = some .long ∧ rop = .lreturn ∧ ∃ v : Int64, st = [.long v] ∧ r = some (.long v)) ∨ (ret = none ∧ rop = .return_ ∧ st = [] ∧ r = none)
theorem q_C.of {y : MethodName} {cc : ByteArray} {nL na : Nat} {ret : Option FieldType} {rop : Instr} {d mc ms : Nat} {av : List Value} {σ : Shp} {I : Mem} {J : Lng} {Q : Option Value → Shp → Mem → Lng → Prop} (hM : q_Me y cc nL ret na) (ha : av.all q_one = true) (hl : (q_args av).length ≤ nL)
    (K : q_WP y.cls y.name cc nL rop d mc ms none (fun st σ' I' J' k n => ∃ r, q_Rt ret rop st r ∧ Q r σ' I' J' ∧ k = mc ∧ n = ms) 0 0 0 (q_ent nL av) [] σ I J) : q_C y cc nL ret d mc ms av σ I J Q := by
  intro l cy D base
  refine Met.ofW (cc := cc) (maxL := nL) (ret := ret) hM.2.2.2.2.2 rfl ?_
  intro p e s m args below meth c s₁ B hml hv
  obtain ⟨rfl, hW, hK⟩ := hv
  have hx := B.exec
  have hb := B.bytes
  have hr := B.returns
  have hts := atoms_spec (ws := .code y cc nL ret :: q_U) B.pre
  have hown : s.vm.findClass y.cls = some m.cls := findClass_of_methodNamed B.named
  have hlocks := B.notSynchronized
  have hin : meth.name = y.name := (name_of_methodNamed B.named B.method).1
  have hbs : base ≤ s.heap.size := by rw [hW.2]; exact Nat.le_add_right _ _
  rw [lg_entry_eq]
  refine K p l e _ s m _ below meth c _ cy D base 0 ⟨hx, hb, hml, hown, fun w hw => hts w (List.mem_cons_of_mem _ hw), hK, ⟨Nat.le_refl _, Nat.le_refl _, Nat.le_refl _, Nat.le_refl _⟩, hbs, hin, fun x hx => by cases hx⟩ ?_ s.heap [] _ hW va_S.rf (q_L.entry ha hl)
  intro pc' ls' st' σ' I' J' k' n' H' locs' hd hQ hW' hS'
  obtain ⟨r, hrt, hq, rfl, rfl⟩ := hQ
  rcases hrt with ⟨e1, e2, v, rfl, rfl⟩ | ⟨e1, e2, v, hv, rfl, rfl⟩ | ⟨e1, e2, v, rfl, rfl⟩ | ⟨e1, e2, rfl, rfl⟩
  · subst e1; subst e2
    exact W.iret (v := v) hx hb hr (fun t ht hWt => ⟨_, σ', I', J', rfl, (fun w h => by cases h; exact fun q => by cases q), hq, by rw [ht]; exact hW', hS'.F ht⟩) hS'.2.2 hd
  · subst e1; subst e2
    exact W.zret (v := v) (ty := .boolean) hx hb hr (by rcases hv with rfl | rfl <;> rfl) (fun t ht hWt => ⟨_, σ', I', J', rfl, (fun w h => by cases h; exact fun q => by cases q), hq, by rw [ht]; exact hW', hS'.F ht⟩) hS'.2.2 hd
  · subst e1; subst e2
    exact W.lret (v := v) hx hb hr (fun t ht hWt => ⟨_, σ', I', J', rfl, (fun w h => by cases h; exact fun q => by cases q), hq, by rw [ht]; exact hW', hS'.F ht⟩) hS'.2.2 hd
  · subst e1; subst e2
    exact W.vret hx hb hr (fun t ht hWt => ⟨_, σ', I', J', rfl, (fun w h => by cases h), hq, by rw [ht]; exact hW', hS'.F ht⟩) hS'.2.2 hd
end
section
theorem q_blind (cy : Nat → ClassId) (D : va_G) (base : Nat) (av : List Value) (σ : Shp) (I : Mem) (J : Lng) : FrameBlind (q_Pc cy D base av σ I J) := fun a U g mk q => by
  obtain ⟨q0, qW, qK⟩ := q
  exact ⟨q0, qW, q_K.same (u := U) (U := U.calling g mk a) rfl qK⟩
theorem q_tr_r {base b : Nat} {r : Option Value} (h : ∀ v, r = some v → v ≠ .null) (st : List Value) : (r.map (q_tr base 0)).toList ++ st.map (q_tr base b) = (r.toList ++ st).map (q_tr base b) := by
  cases r with
  | none => rfl
  | some v =>
    have hv := h v rfl
    cases v <;> first | rfl | exact absurd rfl hv
section
variable {own nm : String} {cc : ByteArray} {nL : Nat} {rop : Instr} {d mc ms : Nat} {X : Option (Nat × (Nat → Int32))} {Q : List Value → Shp → Mem → Lng → Nat → Nat → Prop} {k n pc : Nat} {L : List (Option Value)} {st : List Value} {σ : Shp} {I : Mem} {J : Lng}
theorem q_go {p : Program} {l : Launch} {e : Env} {R : Room} {s : State} {m : MethodId} {args : Array Value} {below : List Frame} {meth : Method} {c : Code} {Qm : State → Prop} {cy : Nat → ClassId} {D : va_G} {base b : Nat} {H : Heap} {locs : List Loc} {ls : Array Slot} {S : List Value} {mc' ms' : Nat} {Q' : Option Value → Shp → Mem → Lng → Prop} {a : Array Value} {T : State}
    (C : q_Cx own nm cc nL d mc ms X p R s m args meth c cy D base b)
    (E : ∀ (pc' : Nat) (ls' : Array Slot) (st' : List Value) (σ' : Shp) (I' : Mem) (J' : Lng) (k' n' : Nat) (H' : Heap) (locs' : List Loc), decode cc pc' = .ok (rop, 1) → Q st' σ' I' J' k' n' → q_W cy D base (s.heap.size + k') σ' I' J' H' → va_S (fun q => base ≤ q) s.heap H' locs' → W p l e R s m args below meth c H' locs' k' n' Qm (F0 m pc' ls' (st'.map (q_tr base b))))
    (hW : q_W cy D base (s.heap.size + k) σ I J H) (hS : va_S (fun q => base ≤ q) s.heap H locs) (hL : q_L base b ls nL L) (hT : T.heap = H) (Xs : Stand p l e R s m args below meth c T locs k n) (hsz : H.size = base + σ.length)
    (hr : va_Run p l e R s m args below meth c H locs k n mc' ms' (F0 m pc ls S) (st.map (q_tr base b)) (q_Qc cy D base mc' Q' a) (fun q => base ≤ q))
    (K : ∀ (r : Option Value) (σ' : Shp) (I' : Mem) (J' : Lng), Q' r σ' I' J' → q_WP own nm cc nL rop d mc ms X Q (k + mc') (n + ms') (pc + 3) L (r.toList ++ st) σ' I' J') : ∃ t, Steps p.tables e below (T.setTop (F0 m pc ls S)) t ∧ Qm t := by
  obtain ⟨v, st₀, t, T', Lc, h0, X', hLc, e1, e2, ⟨r, σ', I', J', hv, hnn, hq, hW', hz, hk⟩, go⟩ := hr T hT Xs
  cases hv
  rw [h0] at hz hk hW'
  have hS1 : va_S (fun q => base ≤ q) s.heap T'.heap (locs ++ Lc) := ⟨Nat.le_trans hS.1 (by rw [e1]; exact hz), fun q h1 h2 => by rw [e1, hk q (Nat.lt_of_lt_of_le h1 hS.1) h2]; exact hS.2.1 q h1 h2, fun q hq => by
      rcases List.mem_append.mp hq with h | h
      · exact hS.2.2 q h
      · exact hLc q h⟩
  have hW1 : q_W cy D base (s.heap.size + (k + mc')) σ' I' J' T'.heap := by
    rw [e1]
    have h1 := hW.2
    have h2 := hW'.2
    exact ⟨hW'.1, by omega⟩
  obtain ⟨t2, a1, b1⟩ := K r σ' I' J' hq p l e R s m args below meth c Qm cy D base b C E T'.heap (locs ++ Lc) ls hW1 hS1 hL T' rfl X'
  rw [← q_tr_r hnn] at a1
  exact ⟨t2, go t2 a1, b1⟩
theorem q_cb {R : Room} {s : State} {args : Array Value} {idx na mc' ms' d' nL' : Nat} {y : MethodName} {cc' : ByteArray} {ret : Option FieldType} (hts : ∀ w ∈ q_U, w.before args s = true) (hM : q_Me y cc' nL' ret na) (hl : Cond.methodLink own idx y ∈ q_U) (hdd : d' + 1 ≤ d) (hR : d ≤ R.frames ∧ 40 * d ≤ R.locals) : CallB R s args own idx y cc' nL' ret (.code y cc' nL' ret :: q_U) (q_Rm d' mc' ms') mc' ms' na := by
  obtain ⟨h1, h2, h3, h4, h5, h6⟩ := hM
  refine callB_of na hts (q_good (fun w hw => ?_)) rfl rfl rfl (hts _ h2) (hts _ hl) ⟨h3.1, h3.2, h4⟩ ⟨?_, ?_⟩
  · rcases List.mem_cons.mp hw with rfl | hw
    · exact h1
    · exact hw
  · show d' + 1 ≤ R.frames
    omega
  · show 8 + (nL' + 11) + 40 * d' ≤ R.locals
    omega
/-- an instance method's call: the receiver's place t is of y's class -/
def q_CaV (own : String) (idx : Nat) (y : MethodName) (cc : ByteArray) (nL : Nat) (ret : Option FieldType) (na ci : Nat) : Prop := q_Me y cc nL ret na ∧ Cond.methodLink own idx y ∈ q_U ∧ Cond.instanceMethod y ∈ q_U ∧ Cond.selects y.cls y y ∈ q_U ∧ ∃ T N, vwCl[ci]? = some (y.cls, T, N)
def q_CaS (own : String) (idx : Nat) (y : MethodName) (cc : ByteArray) (nL : Nat) (ret : Option FieldType) (na : Nat) : Prop := q_Me y cc nL ret na ∧ Cond.methodLink own idx y ∈ q_U ∧ Cond.static y ∈ q_U
theorem s_callV {idx na ci t d' mc' ms' nL' : Nat} {y : MethodName} {cc' : ByteArray} {ret : Option FieldType} {av S : List Value} {e : Ent} {Q' : Option Value → Shp → Mem → Lng → Prop} (hd : decode cc pc = .ok (.invokevirtual idx, 3)) (hc : q_CaV own idx y cc' nL' ret na ci) (he : σ[t]? = some e) (hci : e.1 = 10 + ci) (hM : q_C y cc' nL' ret d' mc' ms' (.ref t :: av) σ I J Q') (hS' : S = av.reverse ++ .ref t :: st) (hna : av.length = na) (hav : av.all q_one = true) (hst : (st.map fun v => v.category).sum ≤ 8) (hdd : d' + 1 ≤ d) (hmc : k + mc' ≤ mc) (hms : n + ms' ≤ ms)
    (K : ∀ (r : Option Value) (σ' : Shp) (I' : Mem) (J' : Lng), Q' r σ' I' J' → q_WP own nm cc nL rop d mc ms X Q (k + mc') (n + ms') (pc + 3) L (r.toList ++ st) σ' I' J') : q_WP own nm cc nL rop d mc ms X Q k n pc L S σ I J := by
  subst hS'
  intro p l e0 R s m args below meth c0 Qm cy D base b C E H locs ls hW hS hL T hT Xs
  have hsz := q_size hT Xs hW C.2.2.2.2.2.2.2.1 hS.1
  obtain ⟨hme, hl, hin, hse, T0, N0, hcl⟩ := hc
  have hR := C.2.2.2.2.2.2.1
  have hws : (q_ws cy base I J 0 σ)[t]? = some (base + t, .inr (ci, q_fs base e.2.2 (I t) (J t) 0 (q_fk ci))) := by rw [q_ws_at he, q_cell_o hci]
  refine q_go (S := (av.reverse ++ .ref t :: st).map (q_tr base b)) C E hW hS hL hT Xs hsz (va_runV (Ts := q_U) (C := y.cls) (As := av.map (q_tr base b)) (b := base + t) (n := na) ⟨C.1, C.2.1, C.2.2.1, C.2.2.2.1, C.2.2.2.2.1⟩ (hM l cy D base) ⟨q_cb C.2.2.2.2.1 hme hl hdd ⟨hR.1, hR.2.1⟩, C.2.2.2.2.1 _ hin, C.2.2.2.2.1 _ hse⟩ ⟨q_blind _ _ _ _ _ _ _, va_recv C.2.2.2.2.2.1.1 hW.1 hcl hws, fun U hU hWm => ⟨?_, ?_, q_K.warm hWm C.2.2.2.2.2.1⟩⟩ rfl (by rw [List.length_map]; exact hna) hL.1 ?_ (lv_room ?_) hd ⟨?_, ?_⟩) K
  · rw [List.map_cons, q_one_tr hav base 0 b]; rfl
  · rw [hU]; exact ⟨hW.1, hsz⟩
  · rw [List.map_append, List.map_reverse, List.map_cons]; rfl
  · rw [List.map_map, show (fun v : Value => v.category) ∘ q_tr base b = fun v => v.category from funext fun v => q_tr_cat base b v]
    exact hst
  · omega
  · omega
theorem s_callS {idx na d' mc' ms' nL' : Nat} {y : MethodName} {cc' : ByteArray} {ret : Option FieldType} {av S : List Value} {Q' : Option Value → Shp → Mem → Lng → Prop} (hd : decode cc pc = .ok (.invokestatic idx, 3)) (hc : q_CaS own idx y cc' nL' ret na) (hM : q_C y cc' nL' ret d' mc' ms' av σ I J Q') (hS' : S = av.reverse ++ st) (hna : av.length = na) (hav : av.all q_one = true) (hst : (st.map fun v => v.category).sum ≤ 8) (hdd : d' + 1 ≤ d) (hmc : k + mc' ≤ mc) (hms : n + ms' ≤ ms)
    (K : ∀ (r : Option Value) (σ' : Shp) (I' : Mem) (J' : Lng), Q' r σ' I' J' → q_WP own nm cc nL rop d mc ms X Q (k + mc') (n + ms') (pc + 3) L (r.toList ++ st) σ' I' J') : q_WP own nm cc nL rop d mc ms X Q k n pc L S σ I J := by
  subst hS'
  intro p l e0 R s m args below meth c0 Qm cy D base b C E H locs ls hW hS hL T hT Xs
  have hsz := q_size hT Xs hW C.2.2.2.2.2.2.2.1 hS.1
  obtain ⟨hme, hl, hst2⟩ := hc
  have hR := C.2.2.2.2.2.2.1
  refine q_go (S := (av.reverse ++ st).map (q_tr base b)) C E hW hS hL hT Xs hsz (va_runS (Ts := q_U) (As := av.map (q_tr base b)) (n := na) ⟨C.1, C.2.1, C.2.2.1, C.2.2.2.1, C.2.2.2.2.1⟩ (hM l cy D base) ⟨q_cb C.2.2.2.2.1 hme hl hdd ⟨hR.1, hR.2.1⟩, C.2.2.2.2.1 _ hst2⟩ ⟨q_blind _ _ _ _ _ _ _, fun U hU hWm => ⟨?_, ?_, q_K.warm hWm C.2.2.2.2.2.1⟩⟩ rfl (by rw [List.length_map]; exact hna) hL.1 ?_ (lv_room ?_) hd ⟨?_, ?_⟩) K
  · rw [q_one_tr hav base 0 b]
  · rw [hU]; exact ⟨hW.1, hsz⟩
  · rw [List.map_append, List.map_reverse]
  · rw [List.map_map, show (fun v : Value => v.category) ∘ q_tr base b = fun v => v.category from funext fun v => q_tr_cat base b v]
    exact hst
  · omega
  · omega
/-- Math.min, Math.max -/
theorem s_min {idx : Nat} {x y : Int32} (hd : decode cc pc = .ok (.invokestatic idx, 3)) (hl : Cond.methodLink own idx Lib.Math.min.name ∈ q_U) (hst : Cond.static Lib.Math.min.name ∈ q_U) (hin : Cond.initialized "java/lang/Math" ∈ q_U) (hco : Cond.code Lib.Math.min.name Lib.Math.min.code 2 (some .int) ∈ q_U) (hss : (st.map fun v => v.category).sum ≤ 8) (hdd : 1 ≤ d) (hk : k ≤ mc) (hn : n ≤ ms) (K : q_WP own nm cc nL rop d mc ms X Q k n (pc + 3) L (.int (if y < x then y else x) :: st) σ I J) : q_WP own nm cc nL rop d mc ms X Q k n pc L (.int y :: .int x :: st) σ I J := by
  intro p l e0 R s m args below meth c0 Qm cy D base b C E H locs ls hW hS hL
  have hR := C.2.2.2.2.2.2.1
  have hss2 : ((st.map (q_tr base b)).map fun v => v.category).sum ≤ 8 := by
    rw [List.map_map, show (fun v : Value => v.category) ∘ q_tr base b = fun v => v.category from funext fun v => q_tr_cat base b v]
    exact hss
  exact va_mmin C.1 C.2.1 (by rw [C.2.2.1]; exact hL.1.symm) C.2.2.2.1 (C.2.2.2.2.1 _ hl) (C.2.2.2.2.1 _ hst) (C.2.2.2.2.1 _ hin) (C.2.2.2.2.1 _ hco) (by omega) (by omega) (by omega) (by omega) hd (K p l e0 R s m args below meth c0 Qm cy D base b C E H locs ls hW hS hL)
theorem s_max {idx : Nat} {x y : Int32} (hd : decode cc pc = .ok (.invokestatic idx, 3)) (hl : Cond.methodLink own idx Lib.Math.max.name ∈ q_U) (hst : Cond.static Lib.Math.max.name ∈ q_U) (hin : Cond.initialized "java/lang/Math" ∈ q_U) (hco : Cond.code Lib.Math.max.name Lib.Math.max.code 2 (some .int) ∈ q_U) (hss : (st.map fun v => v.category).sum ≤ 8) (hdd : 1 ≤ d) (hk : k ≤ mc) (hn : n ≤ ms) (K : q_WP own nm cc nL rop d mc ms X Q k n (pc + 3) L (.int (if x < y then y else x) :: st) σ I J) : q_WP own nm cc nL rop d mc ms X Q k n pc L (.int y :: .int x :: st) σ I J := by
  intro p l e0 R s m args below meth c0 Qm cy D base b C E H locs ls hW hS hL
  have hR := C.2.2.2.2.2.2.1
  have hss2 : ((st.map (q_tr base b)).map fun v => v.category).sum ≤ 8 := by
    rw [List.map_map, show (fun v : Value => v.category) ∘ q_tr base b = fun v => v.category from funext fun v => q_tr_cat base b v]
    exact hss
  exact va_mmax C.1 C.2.1 (by rw [C.2.2.1]; exact hL.1.symm) C.2.2.2.1 (C.2.2.2.2.1 _ hl) (C.2.2.2.2.1 _ hst) (C.2.2.2.2.1 _ hin) (C.2.2.2.2.1 _ hco) (by omega) (by omega) (by omega) (by omega) hd (K p l e0 R s m args below meth c0 Qm cy D base b C E H locs ls hW hS hL)
/-- a whole row's memory -/
def upR (I : Mem) (t : Nat) (g : Nat → Int32) : Mem := fun p q => if p = t then g q else I p q
/-- System.arraycopy of ints, from place t0 to another place t -/
theorem s_copy {idx t0 t : Nat} {e0 e1 : Ent} {sp dp cn : Int32} (hd : decode cc pc = .ok (.invokestatic idx, 3)) (hl : Cond.methodLink own idx arraycopyName ∈ q_U) (hnat : Cond.native arraycopyName ∈ q_U) (hst : Cond.static arraycopyName ∈ q_U) (hin : Cond.initialized "java/lang/System" ∈ q_U) (he0 : σ[t0]? = some e0) (he1 : σ[t]? = some e1) (hc0 : e0.1 = 0) (hc1 : e1.1 = 0)
    (h1 : ¬ sp < 0) (h2 : ¬ dp < 0) (h3 : ¬ cn < 0) (h4 : sp.toNatClampNeg + cn.toNatClampNeg ≤ e0.2.1) (h5 : dp.toNatClampNeg + cn.toNatClampNeg ≤ e1.2.1) (hss : (st.map fun v => v.category).sum ≤ 8) (hdd : 1 ≤ d)
    (K : q_WP own nm cc nL rop d mc ms X Q k n (pc + 3) L st σ (upR I t (va_cpy (I t0) (I t) sp.toNatClampNeg dp.toNatClampNeg cn.toNatClampNeg)) J) : q_WP own nm cc nL rop d mc ms X Q k n pc L (.int cn :: .int dp :: .ref t :: .int sp :: .ref t0 :: st) σ I J := by
  intro p l e R s m args below meth c0 Qm cy D base b C E H locs ls hW hS hL
  have hR := C.2.2.2.2.2.2.1
  have hlt : t < σ.length := (List.getElem?_eq_some_iff.mp he1).1
  have hss2 : ((st.map (q_tr base b)).map fun v => v.category).sum ≤ 8 := by
    rw [List.map_map, show (fun v : Value => v.category) ∘ q_tr base b = fun v => v.category from funext fun v => q_tr_cat base b v]
    exact hss
  refine va_copyi C.1 C.2.1 (by rw [C.2.2.1]; exact hL.1.symm) C.2.2.2.1 (C.2.2.2.2.1 _ hl) (C.2.2.2.2.1 _ hnat) (C.2.2.2.2.1 _ hst) (C.2.2.2.2.1 _ hin) C.2.2.2.2.2.1.1 hW.1 (q_ws_D cy base I J σ) hS t0 t 0 0 (by rw [q_ws_at he0, q_cell_i hc0 (by decide)]) (by rw [q_ws_at he1, q_cell_i hc1 (by decide)]) rfl rfl rfl h1 h2 h3 h4 h5 (fun _ _ => rfl) (by omega) ?_ hd (fun H1 locs1 hP _ hS1 => ?_)
  · have : nativeFrameWords "java/lang/System" "arraycopy" 5 + 11 ≤ 32 := by decide
    omega
  refine K p l e R s m args below meth c0 Qm cy D base b C E H1 locs1 ls ⟨?_, hW.2⟩ hS1 hL
  rw [← q_ws_set (cy := cy) (base := base) (I := I) (I' := upR I t (va_cpy (I t0) (I t) sp.toNatClampNeg dp.toNatClampNeg cn.toNatClampNeg)) (J := J) (J' := J) (σ := σ) (t := t) (fun _ _ => rfl) (fun i hi => funext fun q => if_neg hi) (fun _ _ => rfl) he1 hlt, q_cell_i hc1 (by decide), show upR I t (va_cpy (I t0) (I t) sp.toNatClampNeg dp.toNatClampNeg cn.toNatClampNeg) t = va_cpy (I t0) (I t) sp.toNatClampNeg dp.toNatClampNeg cn.toNatClampNeg from funext fun q => if_pos rfl]
  exact hP
end
end
section
set_option maxRecDepth 20000
theorem q_uniq (l : List Nat) (k : Nat) (h : (List.range l.length).all (fun i => !(l[i]? == some 1) || i == k) = true) : ∀ i, l[i]? = some 1 → i = k := by
  intro i hi
  have hlt : i < l.length := (List.getElem?_eq_some_iff.mp hi).1
  have h2 := List.all_eq_true.mp h i (List.mem_range.mpr hlt)
  simpa [hi] using h2
theorem cw_0 : ∀ k, k < 3 → u_lay RX0 TX0 k ∈ q_U := by
  intro k hk
  match k, hk with
  | 0, _ => exact q_in 129 rfl rfl
  | 1, _ => exact q_in 131 rfl rfl
  | 2, _ => exact q_in 133 rfl rfl
  | k + 3, h => exact absurd h (by omega)
theorem cl_0 : q_Cls 0 RX0 TX0 3 tyX0 := ⟨rfl, fun w hw => by obtain ⟨k, hk, rfl⟩ := List.mem_map.mp hw; exact cw_0 k (List.mem_range.mp hk), tyX0_ok, nmX0, rfl⟩
theorem cw_1 : ∀ k, k < 2 → u_lay RX2 TX2 k ∈ q_U := by
  intro k hk
  match k, hk with
  | 0, _ => exact q_in 173 rfl rfl
  | 1, _ => exact q_in 175 rfl rfl
  | k + 2, h => exact absurd h (by omega)
theorem cl_1 : q_Cls 1 RX2 TX2 2 tyX2 := ⟨rfl, fun w hw => by obtain ⟨k, hk, rfl⟩ := List.mem_map.mp hw; exact cw_1 k (List.mem_range.mp hk), tyX2_ok, nmX2, rfl⟩
theorem cw_2 : ∀ k, k < 1 → u_lay RX3 TX3 k ∈ q_U := by
  intro k hk
  match k, hk with
  | 0, _ => exact q_in 162 rfl rfl
  | k + 1, h => exact absurd h (by omega)
theorem cl_2 : q_Cls 2 RX3 TX3 1 tyX3 := ⟨rfl, fun w hw => by obtain ⟨k, hk, rfl⟩ := List.mem_map.mp hw; exact cw_2 k (List.mem_range.mp hk), tyX3_ok, nmX3, rfl⟩
theorem cw_3 : ∀ k, k < 3 → u_lay RX5 TX5 k ∈ q_U := by
  intro k hk
  match k, hk with
  | 0, _ => exact q_in 145 rfl rfl
  | 1, _ => exact q_in 147 rfl rfl
  | 2, _ => exact q_in 149 rfl rfl
  | k + 3, h => exact absurd h (by omega)
theorem cl_3 : q_Cls 3 RX5 TX5 3 tyX5 := ⟨rfl, fun w hw => by obtain ⟨k, hk, rfl⟩ := List.mem_map.mp hw; exact cw_3 k (List.mem_range.mp hk), tyX5_ok, nmX5, rfl⟩
theorem cw_4 : ∀ k, k < 10 → u_lay RX6 TX6 k ∈ q_U := by
  intro k hk
  match k, hk with
  | 0, _ => exact q_in 95 rfl rfl
  | 1, _ => exact q_in 97 rfl rfl
  | 2, _ => exact q_in 99 rfl rfl
  | 3, _ => exact q_in 101 rfl rfl
  | 4, _ => exact q_in 103 rfl rfl
  | 5, _ => exact q_in 105 rfl rfl
  | 6, _ => exact q_in 107 rfl rfl
  | 7, _ => exact q_in 109 rfl rfl
  | 8, _ => exact q_in 111 rfl rfl
  | 9, _ => exact q_in 113 rfl rfl
  | k + 10, h => exact absurd h (by omega)
theorem cl_4 : q_Cls 4 RX6 TX6 10 tyX6 := ⟨rfl, fun w hw => by obtain ⟨k, hk, rfl⟩ := List.mem_map.mp hw; exact cw_4 k (List.mem_range.mp hk), tyX6_ok, nmX6, rfl⟩
theorem cw_5 : ∀ k, k < 2 → u_lay RX7 TX7 k ∈ q_U := by
  intro k hk
  match k, hk with
  | 0, _ => exact q_in 189 rfl rfl
  | 1, _ => exact q_in 191 rfl rfl
  | k + 2, h => exact absurd h (by omega)
theorem cl_5 : q_Cls 5 RX7 TX7 2 tyX7 := ⟨rfl, fun w hw => by obtain ⟨k, hk, rfl⟩ := List.mem_map.mp hw; exact cw_5 k (List.mem_range.mp hk), tyX7_ok, nmX7, rfl⟩
theorem cw_6 : ∀ k, k < 2 → u_lay RX8 TX8 k ∈ q_U := by
  intro k hk
  match k, hk with
  | 0, _ => exact q_in 59 rfl rfl
  | 1, _ => exact q_in 61 rfl rfl
  | k + 2, h => exact absurd h (by omega)
theorem cl_6 : q_Cls 6 RX8 TX8 2 tyX8 := ⟨rfl, fun w hw => by obtain ⟨k, hk, rfl⟩ := List.mem_map.mp hw; exact cw_6 k (List.mem_range.mp hk), tyX8_ok, nmX8, rfl⟩
theorem cw_7 : ∀ k, k < 11 → u_lay RX9 TX9 k ∈ q_U := by
  intro k hk
  match k, hk with
  | 0, _ => exact q_in 205 rfl rfl
  | 1, _ => exact q_in 207 rfl rfl
  | 2, _ => exact q_in 209 rfl rfl
  | 3, _ => exact q_in 211 rfl rfl
  | 4, _ => exact q_in 213 rfl rfl
  | 5, _ => exact q_in 215 rfl rfl
  | 6, _ => exact q_in 217 rfl rfl
  | 7, _ => exact q_in 219 rfl rfl
  | 8, _ => exact q_in 221 rfl rfl
  | 9, _ => exact q_in 223 rfl rfl
  | 10, _ => exact q_in 225 rfl rfl
  | k + 11, h => exact absurd h (by omega)
theorem cl_7 : q_Cls 7 RX9 TX9 11 tyX9 := ⟨rfl, fun w hw => by obtain ⟨k, hk, rfl⟩ := List.mem_map.mp hw; exact cw_7 k (List.mem_range.mp hk), tyX9_ok, nmX9, rfl⟩
theorem cw_8 : ∀ k, k < 23 → u_lay RX10 TX10 k ∈ q_U := by
  intro k hk
  match k, hk with
  | 0, _ => exact q_in 596 rfl rfl
  | 1, _ => exact q_in 598 rfl rfl
  | 2, _ => exact q_in 600 rfl rfl
  | 3, _ => exact q_in 602 rfl rfl
  | 4, _ => exact q_in 604 rfl rfl
  | 5, _ => exact q_in 606 rfl rfl
  | 6, _ => exact q_in 608 rfl rfl
  | 7, _ => exact q_in 610 rfl rfl
  | 8, _ => exact q_in 612 rfl rfl
  | 9, _ => exact q_in 614 rfl rfl
  | 10, _ => exact q_in 616 rfl rfl
  | 11, _ => exact q_in 618 rfl rfl
  | 12, _ => exact q_in 620 rfl rfl
  | 13, _ => exact q_in 622 rfl rfl
  | 14, _ => exact q_in 624 rfl rfl
  | 15, _ => exact q_in 626 rfl rfl
  | 16, _ => exact q_in 628 rfl rfl
  | 17, _ => exact q_in 630 rfl rfl
  | 18, _ => exact q_in 632 rfl rfl
  | 19, _ => exact q_in 634 rfl rfl
  | 20, _ => exact q_in 636 rfl rfl
  | 21, _ => exact q_in 638 rfl rfl
  | 22, _ => exact q_in 640 rfl rfl
  | k + 23, h => exact absurd h (by omega)
theorem cl_8 : q_Cls 8 RX10 TX10 23 tyX10 := ⟨rfl, fun w hw => by obtain ⟨k, hk, rfl⟩ := List.mem_map.mp hw; exact cw_8 k (List.mem_range.mp hk), tyX10_ok, nmX10, rfl⟩
theorem f_X8_9 : q_Fld RX8 9 6 0 2 true := ⟨RX8, TX8, 2, tyX8, cl_6, by decide, q_in 56 rfl rfl, rfl, rfl, (fun _ => rfl), (fun h => by cases h), (fun h => by cases h), (fun _ => Or.inr ⟨_, rfl⟩)⟩
theorem f_X8_15 : q_Fld RX8 15 6 1 0 false := ⟨RX8, TX8, 2, tyX8, cl_6, by decide, q_in 57 rfl rfl, rfl, rfl, (fun h => by cases h), (fun _ => rfl), (fun h => by cases h), (fun h => by cases h)⟩
theorem f_X9_73 : q_Fld RX9 73 6 1 0 false := ⟨RX8, TX8, 2, tyX8, cl_6, by decide, q_in 58 rfl rfl, rfl, rfl, (fun h => by cases h), (fun _ => rfl), (fun h => by cases h), (fun h => by cases h)⟩
theorem f_X6_9 : q_Fld RX6 9 4 0 2 true := ⟨RX6, TX6, 10, tyX6, cl_4, by decide, q_in 71 rfl rfl, rfl, rfl, (fun _ => rfl), (fun h => by cases h), (fun h => by cases h), (fun _ => Or.inr ⟨_, rfl⟩)⟩
theorem f_X6_15 : q_Fld RX6 15 4 1 2 true := ⟨RX6, TX6, 10, tyX6, cl_4, by decide, q_in 72 rfl rfl, rfl, rfl, (fun _ => rfl), (fun h => by cases h), (fun h => by cases h), (fun _ => Or.inr ⟨_, rfl⟩)⟩
theorem f_X6_22 : q_Fld RX6 22 4 2 0 false := ⟨RX6, TX6, 10, tyX6, cl_4, by decide, q_in 73 rfl rfl, rfl, rfl, (fun h => by cases h), (fun _ => rfl), (fun h => by cases h), (fun h => by cases h)⟩
theorem f_X6_25 : q_Fld RX6 25 4 3 0 false := ⟨RX6, TX6, 10, tyX6, cl_4, by decide, q_in 74 rfl rfl, rfl, rfl, (fun h => by cases h), (fun _ => rfl), (fun h => by cases h), (fun h => by cases h)⟩
theorem f_X9_88 : q_Fld RX9 88 4 3 0 false := ⟨RX6, TX6, 10, tyX6, cl_4, by decide, q_in 75 rfl rfl, rfl, rfl, (fun h => by cases h), (fun _ => rfl), (fun h => by cases h), (fun h => by cases h)⟩
theorem f_X8_47 : q_Fld RX8 47 4 3 0 false := ⟨RX6, TX6, 10, tyX6, cl_4, by decide, q_in 76 rfl rfl, rfl, rfl, (fun h => by cases h), (fun _ => rfl), (fun h => by cases h), (fun h => by cases h)⟩
theorem f_X6_28 : q_Fld RX6 28 4 4 0 false := ⟨RX6, TX6, 10, tyX6, cl_4, by decide, q_in 77 rfl rfl, rfl, rfl, (fun h => by cases h), (fun _ => rfl), (fun h => by cases h), (fun h => by cases h)⟩
theorem f_X7_26 : q_Fld RX7 26 4 4 0 false := ⟨RX6, TX6, 10, tyX6, cl_4, by decide, q_in 78 rfl rfl, rfl, rfl, (fun h => by cases h), (fun _ => rfl), (fun h => by cases h), (fun h => by cases h)⟩
theorem f_X9_91 : q_Fld RX9 91 4 4 0 false := ⟨RX6, TX6, 10, tyX6, cl_4, by decide, q_in 79 rfl rfl, rfl, rfl, (fun h => by cases h), (fun _ => rfl), (fun h => by cases h), (fun h => by cases h)⟩
theorem f_X6_18 : q_Fld RX6 18 4 5 0 false := ⟨RX6, TX6, 10, tyX6, cl_4, by decide, q_in 80 rfl rfl, rfl, rfl, (fun h => by cases h), (fun _ => rfl), (fun h => by cases h), (fun h => by cases h)⟩
theorem f_X7_64 : q_Fld RX7 64 4 5 0 false := ⟨RX6, TX6, 10, tyX6, cl_4, by decide, q_in 81 rfl rfl, rfl, rfl, (fun h => by cases h), (fun _ => rfl), (fun h => by cases h), (fun h => by cases h)⟩
theorem f_X9_94 : q_Fld RX9 94 4 5 0 false := ⟨RX6, TX6, 10, tyX6, cl_4, by decide, q_in 82 rfl rfl, rfl, rfl, (fun h => by cases h), (fun _ => rfl), (fun h => by cases h), (fun h => by cases h)⟩
theorem f_X8_54 : q_Fld RX8 54 4 5 0 false := ⟨RX6, TX6, 10, tyX6, cl_4, by decide, q_in 83 rfl rfl, rfl, rfl, (fun h => by cases h), (fun _ => rfl), (fun h => by cases h), (fun h => by cases h)⟩
theorem f_X6_31 : q_Fld RX6 31 4 6 0 false := ⟨RX6, TX6, 10, tyX6, cl_4, by decide, q_in 84 rfl rfl, rfl, rfl, (fun h => by cases h), (fun _ => rfl), (fun h => by cases h), (fun h => by cases h)⟩
theorem f_X7_57 : q_Fld RX7 57 4 6 0 false := ⟨RX6, TX6, 10, tyX6, cl_4, by decide, q_in 85 rfl rfl, rfl, rfl, (fun h => by cases h), (fun _ => rfl), (fun h => by cases h), (fun h => by cases h)⟩
theorem f_X9_97 : q_Fld RX9 97 4 6 0 false := ⟨RX6, TX6, 10, tyX6, cl_4, by decide, q_in 86 rfl rfl, rfl, rfl, (fun h => by cases h), (fun _ => rfl), (fun h => by cases h), (fun h => by cases h)⟩
theorem f_X8_41 : q_Fld RX8 41 4 6 0 false := ⟨RX6, TX6, 10, tyX6, cl_4, by decide, q_in 87 rfl rfl, rfl, rfl, (fun h => by cases h), (fun _ => rfl), (fun h => by cases h), (fun h => by cases h)⟩
theorem f_X6_34 : q_Fld RX6 34 4 7 0 false := ⟨RX6, TX6, 10, tyX6, cl_4, by decide, q_in 88 rfl rfl, rfl, rfl, (fun h => by cases h), (fun _ => rfl), (fun h => by cases h), (fun h => by cases h)⟩
theorem f_X9_100 : q_Fld RX9 100 4 7 0 false := ⟨RX6, TX6, 10, tyX6, cl_4, by decide, q_in 89 rfl rfl, rfl, rfl, (fun h => by cases h), (fun _ => rfl), (fun h => by cases h), (fun h => by cases h)⟩
theorem f_X8_44 : q_Fld RX8 44 4 7 0 false := ⟨RX6, TX6, 10, tyX6, cl_4, by decide, q_in 90 rfl rfl, rfl, rfl, (fun h => by cases h), (fun _ => rfl), (fun h => by cases h), (fun h => by cases h)⟩
theorem f_X6_37 : q_Fld RX6 37 4 8 0 false := ⟨RX6, TX6, 10, tyX6, cl_4, by decide, q_in 91 rfl rfl, rfl, rfl, (fun h => by cases h), (fun _ => rfl), (fun h => by cases h), (fun h => by cases h)⟩
theorem f_X9_103 : q_Fld RX9 103 4 8 0 false := ⟨RX6, TX6, 10, tyX6, cl_4, by decide, q_in 92 rfl rfl, rfl, rfl, (fun h => by cases h), (fun _ => rfl), (fun h => by cases h), (fun h => by cases h)⟩
theorem f_X6_40 : q_Fld RX6 40 4 9 0 false := ⟨RX6, TX6, 10, tyX6, cl_4, by decide, q_in 93 rfl rfl, rfl, rfl, (fun h => by cases h), (fun _ => rfl), (fun h => by cases h), (fun h => by cases h)⟩
theorem f_X9_106 : q_Fld RX9 106 4 9 0 false := ⟨RX6, TX6, 10, tyX6, cl_4, by decide, q_in 94 rfl rfl, rfl, rfl, (fun h => by cases h), (fun _ => rfl), (fun h => by cases h), (fun h => by cases h)⟩
theorem f_X0_11 : q_Fld RX0 11 0 0 2 true := ⟨RX0, TX0, 3, tyX0, cl_0, by decide, q_in 125 rfl rfl, rfl, rfl, (fun _ => rfl), (fun h => by cases h), (fun h => by cases h), (fun _ => Or.inr ⟨_, rfl⟩)⟩
theorem f_X0_22 : q_Fld RX0 22 0 1 0 false := ⟨RX0, TX0, 3, tyX0, cl_0, by decide, q_in 126 rfl rfl, rfl, rfl, (fun h => by cases h), (fun _ => rfl), (fun h => by cases h), (fun h => by cases h)⟩
theorem f_X0_18 : q_Fld RX0 18 0 2 0 false := ⟨RX0, TX0, 3, tyX0, cl_0, by decide, q_in 127 rfl rfl, rfl, rfl, (fun h => by cases h), (fun _ => rfl), (fun h => by cases h), (fun h => by cases h)⟩
theorem f_X9_109 : q_Fld RX9 109 0 2 0 false := ⟨RX0, TX0, 3, tyX0, cl_0, by decide, q_in 128 rfl rfl, rfl, rfl, (fun h => by cases h), (fun _ => rfl), (fun h => by cases h), (fun h => by cases h)⟩
theorem f_X5_9 : q_Fld RX5 9 3 0 2 true := ⟨RX5, TX5, 3, tyX5, cl_3, by decide, q_in 142 rfl rfl, rfl, rfl, (fun _ => rfl), (fun h => by cases h), (fun h => by cases h), (fun _ => Or.inr ⟨_, rfl⟩)⟩
theorem f_X5_15 : q_Fld RX5 15 3 1 0 false := ⟨RX5, TX5, 3, tyX5, cl_3, by decide, q_in 143 rfl rfl, rfl, rfl, (fun h => by cases h), (fun _ => rfl), (fun h => by cases h), (fun h => by cases h)⟩
theorem f_X5_19 : q_Fld RX5 19 3 2 0 false := ⟨RX5, TX5, 3, tyX5, cl_3, by decide, q_in 144 rfl rfl, rfl, rfl, (fun h => by cases h), (fun _ => rfl), (fun h => by cases h), (fun h => by cases h)⟩
theorem f_X3_11 : q_Fld RX3 11 2 0 2 true := ⟨RX3, TX3, 1, tyX3, cl_2, by decide, q_in 161 rfl rfl, rfl, rfl, (fun _ => rfl), (fun h => by cases h), (fun h => by cases h), (fun _ => Or.inr ⟨_, rfl⟩)⟩
theorem f_X2_9 : q_Fld RX2 9 1 0 2 true := ⟨RX2, TX2, 2, tyX2, cl_1, by decide, q_in 171 rfl rfl, rfl, rfl, (fun _ => rfl), (fun h => by cases h), (fun h => by cases h), (fun _ => Or.inr ⟨_, rfl⟩)⟩
theorem f_X2_15 : q_Fld RX2 15 1 1 0 false := ⟨RX2, TX2, 2, tyX2, cl_1, by decide, q_in 172 rfl rfl, rfl, rfl, (fun h => by cases h), (fun _ => rfl), (fun h => by cases h), (fun h => by cases h)⟩
theorem f_X7_11 : q_Fld RX7 11 5 0 2 true := ⟨RX7, TX7, 2, tyX7, cl_5, by decide, q_in 187 rfl rfl, rfl, rfl, (fun _ => rfl), (fun h => by cases h), (fun h => by cases h), (fun _ => Or.inr ⟨_, rfl⟩)⟩
theorem f_X7_17 : q_Fld RX7 17 5 1 2 true := ⟨RX7, TX7, 2, tyX7, cl_5, by decide, q_in 188 rfl rfl, rfl, rfl, (fun _ => rfl), (fun h => by cases h), (fun h => by cases h), (fun _ => Or.inr ⟨_, rfl⟩)⟩
theorem f_X9_10 : q_Fld RX9 10 7 0 2 true := ⟨RX9, TX9, 11, tyX9, cl_7, by decide, q_in 194 rfl rfl, rfl, rfl, (fun _ => rfl), (fun h => by cases h), (fun h => by cases h), (fun _ => Or.inl ⟨_, rfl⟩)⟩
theorem f_X9_19 : q_Fld RX9 19 7 1 2 true := ⟨RX9, TX9, 11, tyX9, cl_7, by decide, q_in 195 rfl rfl, rfl, rfl, (fun _ => rfl), (fun h => by cases h), (fun h => by cases h), (fun _ => Or.inl ⟨_, rfl⟩)⟩
theorem f_X9_23 : q_Fld RX9 23 7 2 2 true := ⟨RX9, TX9, 11, tyX9, cl_7, by decide, q_in 196 rfl rfl, rfl, rfl, (fun _ => rfl), (fun h => by cases h), (fun h => by cases h), (fun _ => Or.inl ⟨_, rfl⟩)⟩
theorem f_X9_29 : q_Fld RX9 29 7 3 2 true := ⟨RX9, TX9, 11, tyX9, cl_7, by decide, q_in 197 rfl rfl, rfl, rfl, (fun _ => rfl), (fun h => by cases h), (fun h => by cases h), (fun _ => Or.inl ⟨_, rfl⟩)⟩
theorem f_X9_33 : q_Fld RX9 33 7 4 2 true := ⟨RX9, TX9, 11, tyX9, cl_7, by decide, q_in 198 rfl rfl, rfl, rfl, (fun _ => rfl), (fun h => by cases h), (fun h => by cases h), (fun _ => Or.inr ⟨_, rfl⟩)⟩
theorem f_X9_37 : q_Fld RX9 37 7 5 2 true := ⟨RX9, TX9, 11, tyX9, cl_7, by decide, q_in 199 rfl rfl, rfl, rfl, (fun _ => rfl), (fun h => by cases h), (fun h => by cases h), (fun _ => Or.inr ⟨_, rfl⟩)⟩
theorem f_X9_44 : q_Fld RX9 44 7 6 2 true := ⟨RX9, TX9, 11, tyX9, cl_7, by decide, q_in 200 rfl rfl, rfl, rfl, (fun _ => rfl), (fun h => by cases h), (fun h => by cases h), (fun _ => Or.inl ⟨_, rfl⟩)⟩
theorem f_X9_51 : q_Fld RX9 51 7 7 2 true := ⟨RX9, TX9, 11, tyX9, cl_7, by decide, q_in 201 rfl rfl, rfl, rfl, (fun _ => rfl), (fun h => by cases h), (fun h => by cases h), (fun _ => Or.inl ⟨_, rfl⟩)⟩
theorem f_X9_58 : q_Fld RX9 58 7 8 2 true := ⟨RX9, TX9, 11, tyX9, cl_7, by decide, q_in 202 rfl rfl, rfl, rfl, (fun _ => rfl), (fun h => by cases h), (fun h => by cases h), (fun _ => Or.inl ⟨_, rfl⟩)⟩
theorem f_X9_65 : q_Fld RX9 65 7 9 2 true := ⟨RX9, TX9, 11, tyX9, cl_7, by decide, q_in 203 rfl rfl, rfl, rfl, (fun _ => rfl), (fun h => by cases h), (fun h => by cases h), (fun _ => Or.inl ⟨_, rfl⟩)⟩
theorem f_X9_225 : q_Fld RX9 225 7 10 1 false := ⟨RX9, TX9, 11, tyX9, cl_7, by decide, q_in 204 rfl rfl, rfl, rfl, (fun h => by cases h), (fun h => by cases h), (fun _ => ⟨rfl, q_uniq _ _ (by decide)⟩), (fun h => by cases h)⟩
theorem f_X10_41 : q_Fld RX10 41 8 0 0 false := ⟨RX10, TX10, 23, tyX10, cl_8, by decide, q_in 573 rfl rfl, rfl, rfl, (fun h => by cases h), (fun _ => rfl), (fun h => by cases h), (fun h => by cases h)⟩
theorem f_X10_7 : q_Fld RX10 7 8 1 2 true := ⟨RX10, TX10, 23, tyX10, cl_8, by decide, q_in 574 rfl rfl, rfl, rfl, (fun _ => rfl), (fun h => by cases h), (fun h => by cases h), (fun _ => Or.inr ⟨_, rfl⟩)⟩
theorem f_X10_53 : q_Fld RX10 53 8 2 0 false := ⟨RX10, TX10, 23, tyX10, cl_8, by decide, q_in 575 rfl rfl, rfl, rfl, (fun h => by cases h), (fun _ => rfl), (fun h => by cases h), (fun h => by cases h)⟩
theorem f_X10_56 : q_Fld RX10 56 8 3 0 false := ⟨RX10, TX10, 23, tyX10, cl_8, by decide, q_in 576 rfl rfl, rfl, rfl, (fun h => by cases h), (fun _ => rfl), (fun h => by cases h), (fun h => by cases h)⟩
theorem f_X10_66 : q_Fld RX10 66 8 4 0 false := ⟨RX10, TX10, 23, tyX10, cl_8, by decide, q_in 577 rfl rfl, rfl, rfl, (fun h => by cases h), (fun _ => rfl), (fun h => by cases h), (fun h => by cases h)⟩
theorem f_X10_69 : q_Fld RX10 69 8 5 0 false := ⟨RX10, TX10, 23, tyX10, cl_8, by decide, q_in 578 rfl rfl, rfl, rfl, (fun h => by cases h), (fun _ => rfl), (fun h => by cases h), (fun h => by cases h)⟩
theorem f_X10_59 : q_Fld RX10 59 8 6 0 false := ⟨RX10, TX10, 23, tyX10, cl_8, by decide, q_in 579 rfl rfl, rfl, rfl, (fun h => by cases h), (fun _ => rfl), (fun h => by cases h), (fun h => by cases h)⟩
theorem f_X10_13 : q_Fld RX10 13 8 7 2 true := ⟨RX10, TX10, 23, tyX10, cl_8, by decide, q_in 580 rfl rfl, rfl, rfl, (fun _ => rfl), (fun h => by cases h), (fun h => by cases h), (fun _ => Or.inr ⟨_, rfl⟩)⟩
theorem f_X10_16 : q_Fld RX10 16 8 8 2 true := ⟨RX10, TX10, 23, tyX10, cl_8, by decide, q_in 581 rfl rfl, rfl, rfl, (fun _ => rfl), (fun h => by cases h), (fun h => by cases h), (fun _ => Or.inr ⟨_, rfl⟩)⟩
theorem f_X10_19 : q_Fld RX10 19 8 9 2 true := ⟨RX10, TX10, 23, tyX10, cl_8, by decide, q_in 582 rfl rfl, rfl, rfl, (fun _ => rfl), (fun h => by cases h), (fun h => by cases h), (fun _ => Or.inr ⟨_, rfl⟩)⟩
theorem f_X10_22 : q_Fld RX10 22 8 10 2 true := ⟨RX10, TX10, 23, tyX10, cl_8, by decide, q_in 583 rfl rfl, rfl, rfl, (fun _ => rfl), (fun h => by cases h), (fun h => by cases h), (fun _ => Or.inr ⟨_, rfl⟩)⟩
theorem f_X10_79 : q_Fld RX10 79 8 11 0 false := ⟨RX10, TX10, 23, tyX10, cl_8, by decide, q_in 584 rfl rfl, rfl, rfl, (fun h => by cases h), (fun _ => rfl), (fun h => by cases h), (fun h => by cases h)⟩
theorem f_X10_25 : q_Fld RX10 25 8 12 2 true := ⟨RX10, TX10, 23, tyX10, cl_8, by decide, q_in 585 rfl rfl, rfl, rfl, (fun _ => rfl), (fun h => by cases h), (fun h => by cases h), (fun _ => Or.inr ⟨_, rfl⟩)⟩
theorem f_X10_28 : q_Fld RX10 28 8 13 2 true := ⟨RX10, TX10, 23, tyX10, cl_8, by decide, q_in 586 rfl rfl, rfl, rfl, (fun _ => rfl), (fun h => by cases h), (fun h => by cases h), (fun _ => Or.inr ⟨_, rfl⟩)⟩
theorem f_X10_175 : q_Fld RX10 175 8 14 1 false := ⟨RX10, TX10, 23, tyX10, cl_8, by decide, q_in 587 rfl rfl, rfl, rfl, (fun h => by cases h), (fun h => by cases h), (fun _ => ⟨rfl, q_uniq _ _ (by decide)⟩), (fun h => by cases h)⟩
theorem f_X10_32 : q_Fld RX10 32 8 15 2 true := ⟨RX10, TX10, 23, tyX10, cl_8, by decide, q_in 588 rfl rfl, rfl, rfl, (fun _ => rfl), (fun h => by cases h), (fun h => by cases h), (fun _ => Or.inr ⟨_, rfl⟩)⟩
theorem f_X10_86 : q_Fld RX10 86 8 16 0 false := ⟨RX10, TX10, 23, tyX10, cl_8, by decide, q_in 589 rfl rfl, rfl, rfl, (fun h => by cases h), (fun _ => rfl), (fun h => by cases h), (fun h => by cases h)⟩
theorem f_X10_35 : q_Fld RX10 35 8 17 2 true := ⟨RX10, TX10, 23, tyX10, cl_8, by decide, q_in 590 rfl rfl, rfl, rfl, (fun _ => rfl), (fun h => by cases h), (fun h => by cases h), (fun _ => Or.inr ⟨_, rfl⟩)⟩
theorem f_X10_130 : q_Fld RX10 130 8 18 0 false := ⟨RX10, TX10, 23, tyX10, cl_8, by decide, q_in 591 rfl rfl, rfl, rfl, (fun h => by cases h), (fun _ => rfl), (fun h => by cases h), (fun h => by cases h)⟩
theorem f_X10_133 : q_Fld RX10 133 8 19 0 false := ⟨RX10, TX10, 23, tyX10, cl_8, by decide, q_in 592 rfl rfl, rfl, rfl, (fun h => by cases h), (fun _ => rfl), (fun h => by cases h), (fun h => by cases h)⟩
theorem f_X10_148 : q_Fld RX10 148 8 20 0 false := ⟨RX10, TX10, 23, tyX10, cl_8, by decide, q_in 593 rfl rfl, rfl, rfl, (fun h => by cases h), (fun _ => rfl), (fun h => by cases h), (fun h => by cases h)⟩
theorem f_X10_151 : q_Fld RX10 151 8 21 0 false := ⟨RX10, TX10, 23, tyX10, cl_8, by decide, q_in 594 rfl rfl, rfl, rfl, (fun h => by cases h), (fun _ => rfl), (fun h => by cases h), (fun h => by cases h)⟩
theorem f_X10_38 : q_Fld RX10 38 8 22 2 true := ⟨RX10, TX10, 23, tyX10, cl_8, by decide, q_in 595 rfl rfl, rfl, rfl, (fun _ => rfl), (fun h => by cases h), (fun h => by cases h), (fun _ => Or.inr ⟨_, rfl⟩)⟩
theorem me_X0_init : q_Me yX0_init cX0_init 2 none 0 := ⟨q_in 120 rfl rfl, q_in 30 rfl rfl, by decide +kernel, by decide +kernel, by decide, by decide +kernel⟩
theorem me_X0_remember : q_Me yX0_remember cX0_remember 2 none 1 := ⟨q_in 321 rfl rfl, q_in 30 rfl rfl, by decide +kernel, by decide +kernel, by decide, by decide +kernel⟩
theorem me_X0_takeBack : q_Me yX0_takeBack cX0_takeBack 2 (some .boolean) 1 := ⟨q_in 405 rfl rfl, q_in 30 rfl rfl, by decide +kernel, by decide +kernel, by decide, by decide +kernel⟩
theorem me_X0_forgetAll : q_Me yX0_forgetAll cX0_forgetAll 1 none 0 := ⟨q_in 280 rfl rfl, q_in 30 rfl rfl, by decide +kernel, by decide +kernel, by decide, by decide +kernel⟩
theorem me_X1_countRests : q_Me yX1_countRests cX1_countRests 4 (some .int) 1 := ⟨q_in 484 rfl rfl, q_in 38 rfl rfl, by decide +kernel, by decide +kernel, by decide, by decide +kernel⟩
theorem me_X1_firstRest : q_Me yX1_firstRest cX1_firstRest 3 (some .int) 1 := ⟨q_in 496 rfl rfl, q_in 38 rfl rfl, by decide +kernel, by decide +kernel, by decide, by decide +kernel⟩
theorem me_X1_isAtRest : q_Me yX1_isAtRest cX1_isAtRest 4 (some .boolean) 3 := ⟨q_in 487 rfl rfl, q_in 38 rfl rfl, by decide +kernel, by decide +kernel, by decide, by decide +kernel⟩
theorem me_X1_holderHas : q_Me yX1_holderHas cX1_holderHas 2 (some .int) 2 := ⟨q_in 490 rfl rfl, q_in 38 rfl rfl, by decide +kernel, by decide +kernel, by decide, by decide +kernel⟩
theorem me_X1_heirHas : q_Me yX1_heirHas cX1_heirHas 3 (some .int) 3 := ⟨q_in 493 rfl rfl, q_in 38 rfl rfl, by decide +kernel, by decide +kernel, by decide, by decide +kernel⟩
theorem me_X2_init : q_Me yX2_init cX2_init 1 none 0 := ⟨q_in 169 rfl rfl, q_in 33 rfl rfl, by decide +kernel, by decide +kernel, by decide, by decide +kernel⟩
theorem me_X2_read : q_Me yX2_read cX2_read 8 (some .boolean) 3 := ⟨q_in 471 rfl rfl, q_in 33 rfl rfl, by decide +kernel, by decide +kernel, by decide, by decide +kernel⟩
theorem me_X2_befall : q_Me yX2_befall cX2_befall 4 none 2 := ⟨q_in 476 rfl rfl, q_in 33 rfl rfl, by decide +kernel, by decide +kernel, by decide, by decide +kernel⟩
theorem me_X3_init : q_Me yX3_init cX3_init 1 none 0 := ⟨q_in 157 rfl rfl, q_in 32 rfl rfl, by decide +kernel, by decide +kernel, by decide, by decide +kernel⟩
theorem me_X3_reckon : q_Me yX3_reckon cX3_reckon 6 none 2 := ⟨q_in 442 rfl rfl, q_in 32 rfl rfl, by decide +kernel, by decide +kernel, by decide, by decide +kernel⟩
theorem me_X3_mostFor : q_Me yX3_mostFor cX3_mostFor 3 (some .int) 2 := ⟨q_in 458 rfl rfl, q_in 32 rfl rfl, by decide +kernel, by decide +kernel, by decide, by decide +kernel⟩
theorem me_X3_firstRow : q_Me yX3_firstRow cX3_firstRow 7 (some .int) 2 := ⟨q_in 462 rfl rfl, q_in 32 rfl rfl, by decide +kernel, by decide +kernel, by decide, by decide +kernel⟩
theorem me_X3_firstBestCut : q_Me yX3_firstBestCut cX3_firstBestCut 5 (some .int) 2 := ⟨q_in 446 rfl rfl, q_in 32 rfl rfl, by decide +kernel, by decide +kernel, by decide, by decide +kernel⟩
theorem me_X3_worth : q_Me yX3_worth cX3_worth 4 (some .int) 3 := ⟨q_in 450 rfl rfl, q_in 32 rfl rfl, by decide +kernel, by decide +kernel, by decide, by decide +kernel⟩
theorem me_X3_grown : q_Me yX3_grown cX3_grown 1 (some .int) 1 := ⟨q_in 453 rfl rfl, q_in 32 rfl rfl, by decide +kernel, by decide +kernel, by decide, by decide +kernel⟩
theorem me_X4_part : q_Me yX4_part cX4_part 4 (some .int) 3 := ⟨q_in 503 rfl rfl, q_in 39 rfl rfl, by decide +kernel, by decide +kernel, by decide, by decide +kernel⟩
theorem me_X4_greatestCommon : q_Me yX4_greatestCommon cX4_greatestCommon 6 (some .int) 2 := ⟨q_in 506 rfl rfl, q_in 39 rfl rfl, by decide +kernel, by decide +kernel, by decide, by decide +kernel⟩
theorem me_X5_init : q_Me yX5_init cX5_init 1 none 0 := ⟨q_in 140 rfl rfl, q_in 31 rfl rfl, by decide +kernel, by decide +kernel, by decide, by decide +kernel⟩
theorem me_X5_listLine : q_Me yX5_listLine cX5_listLine 4 none 3 := ⟨q_in 417 rfl rfl, q_in 31 rfl rfl, by decide +kernel, by decide +kernel, by decide, by decide +kernel⟩
theorem me_X5_listHeirs : q_Me yX5_listHeirs cX5_listHeirs 6 none 3 := ⟨q_in 337 rfl rfl, q_in 31 rfl rfl, by decide +kernel, by decide +kernel, by decide, by decide +kernel⟩
theorem me_X5_addLine : q_Me yX5_addLine cX5_addLine 5 none 4 := ⟨q_in 355 rfl rfl, q_in 31 rfl rfl, by decide +kernel, by decide +kernel, by decide, by decide +kernel⟩
theorem me_X5_addChildren : q_Me yX5_addChildren cX5_addChildren 8 none 4 := ⟨q_in 342 rfl rfl, q_in 31 rfl rfl, by decide +kernel, by decide +kernel, by decide, by decide +kernel⟩
theorem me_X5_firstChild : q_Me yX5_firstChild cX5_firstChild 5 (some .int) 3 := ⟨q_in 346 rfl rfl, q_in 31 rfl rfl, by decide +kernel, by decide +kernel, by decide, by decide +kernel⟩
theorem me_X5_goesAhead : q_Me yX5_goesAhead cX5_goesAhead 5 (some .boolean) 4 := ⟨q_in 349 rfl rfl, q_in 31 rfl rfl, by decide +kernel, by decide +kernel, by decide, by decide +kernel⟩
theorem me_X5_firstOf : q_Me yX5_firstOf cX5_firstOf 3 (some .int) 1 := ⟨q_in 360 rfl rfl, q_in 31 rfl rfl, by decide +kernel, by decide +kernel, by decide, by decide +kernel⟩
theorem me_X5_allOf : q_Me yX5_allOf cX5_allOf 4 (some .int) 1 := ⟨q_in 434 rfl rfl, q_in 31 rfl rfl, by decide +kernel, by decide +kernel, by decide, by decide +kernel⟩
theorem me_X5_placeOf : q_Me yX5_placeOf cX5_placeOf 3 (some .int) 1 := ⟨q_in 421 rfl rfl, q_in 31 rfl rfl, by decide +kernel, by decide +kernel, by decide, by decide +kernel⟩
theorem me_X6_init : q_Me yX6_init cX6_init 1 none 0 := ⟨q_in 69 rfl rfl, q_in 29 rfl rfl, by decide +kernel, by decide +kernel, by decide, by decide +kernel⟩
theorem me_X6_clear : q_Me yX6_clear cX6_clear 1 none 0 := ⟨q_in 268 rfl rfl, q_in 29 rfl rfl, by decide +kernel, by decide +kernel, by decide, by decide +kernel⟩
theorem me_X6_copy : q_Me yX6_copy cX6_copy 2 none 1 := ⟨q_in 325 rfl rfl, q_in 29 rfl rfl, by decide +kernel, by decide +kernel, by decide, by decide +kernel⟩
theorem me_X6_has : q_Me yX6_has cX6_has 2 (some .boolean) 1 := ⟨q_in 292 rfl rfl, q_in 29 rfl rfl, by decide +kernel, by decide +kernel, by decide, by decide +kernel⟩
theorem me_X6_lives : q_Me yX6_lives cX6_lives 2 (some .boolean) 1 := ⟨q_in 309 rfl rfl, q_in 29 rfl rfl, by decide +kernel, by decide +kernel, by decide, by decide +kernel⟩
theorem me_X6_isWoman : q_Me yX6_isWoman cX6_isWoman 2 (some .boolean) 1 := ⟨q_in 301 rfl rfl, q_in 29 rfl rfl, by decide +kernel, by decide +kernel, by decide, by decide +kernel⟩
theorem me_X6_parentOf : q_Me yX6_parentOf cX6_parentOf 2 (some .int) 1 := ⟨q_in 296 rfl rfl, q_in 29 rfl rfl, by decide +kernel, by decide +kernel, by decide, by decide +kernel⟩
theorem me_X6_ageOf : q_Me yX6_ageOf cX6_ageOf 2 (some .int) 1 := ⟨q_in 305 rfl rfl, q_in 29 rfl rfl, by decide +kernel, by decide +kernel, by decide, by decide +kernel⟩
theorem me_X6_childrenOf : q_Me yX6_childrenOf cX6_childrenOf 4 (some .int) 1 := ⟨q_in 313 rfl rfl, q_in 29 rfl rfl, by decide +kernel, by decide +kernel, by decide, by decide +kernel⟩
theorem me_X6_gains : q_Me yX6_gains cX6_gains 4 none 3 := ⟨q_in 276 rfl rfl, q_in 29 rfl rfl, by decide +kernel, by decide +kernel, by decide, by decide +kernel⟩
theorem me_X6_loses : q_Me yX6_loses cX6_loses 3 none 2 := ⟨q_in 332 rfl rfl, q_in 29 rfl rfl, by decide +kernel, by decide +kernel, by decide, by decide +kernel⟩
theorem me_X6_grows : q_Me yX6_grows cX6_grows 2 none 0 := ⟨q_in 394 rfl rfl, q_in 29 rfl rfl, by decide +kernel, by decide +kernel, by decide, by decide +kernel⟩
theorem me_X7_init : q_Me yX7_init cX7_init 2 none 0 := ⟨q_in 182 rfl rfl, q_in 34 rfl rfl, by decide +kernel, by decide +kernel, by decide, by decide +kernel⟩
theorem me_X7_ofSoMany : q_Me yX7_ofSoMany cX7_ofSoMany 3 (some .int) 1 := ⟨q_in 515 rfl rfl, q_in 34 rfl rfl, by decide +kernel, by decide +kernel, by decide, by decide +kernel⟩
theorem me_X7_inWhichHolds : q_Me yX7_inWhichHolds cX7_inWhichHolds 7 (some .int) 2 := ⟨q_in 519 rfl rfl, q_in 34 rfl rfl, by decide +kernel, by decide +kernel, by decide, by decide +kernel⟩
theorem me_X7_begin : q_Me yX7_begin cX7_begin 3 none 1 := ⟨q_in 523 rfl rfl, q_in 34 rfl rfl, by decide +kernel, by decide +kernel, by decide, by decide +kernel⟩
theorem me_X7_goOn : q_Me yX7_goOn cX7_goOn 7 none 4 := ⟨q_in 538 rfl rfl, q_in 34 rfl rfl, by decide +kernel, by decide +kernel, by decide, by decide +kernel⟩
theorem me_X7_add : q_Me yX7_add cX7_add 4 none 3 := ⟨q_in 531 rfl rfl, q_in 34 rfl rfl, by decide +kernel, by decide +kernel, by decide, by decide +kernel⟩
theorem me_X8_init : q_Me yX8_init cX8_init 1 none 0 := ⟨q_in 54 rfl rfl, q_in 28 rfl rfl, by decide +kernel, by decide +kernel, by decide, by decide +kernel⟩
theorem me_X8_add : q_Me yX8_add cX8_add 2 (some .boolean) 1 := ⟨q_in 235 rfl rfl, q_in 28 rfl rfl, by decide +kernel, by decide +kernel, by decide, by decide +kernel⟩
theorem me_X8_firstFault : q_Me yX8_firstFault cX8_firstFault 2 (some .int) 0 := ⟨q_in 247 rfl rfl, q_in 28 rfl rfl, by decide +kernel, by decide +kernel, by decide, by decide +kernel⟩
theorem me_X8_mayStand : q_Me yX8_mayStand cX8_mayStand 3 (some .boolean) 2 := ⟨q_in 250 rfl rfl, q_in 28 rfl rfl, by decide +kernel, by decide +kernel, by decide, by decide +kernel⟩
theorem me_X8_isFigure : q_Me yX8_isFigure cX8_isFigure 2 (some .boolean) 2 := ⟨q_in 253 rfl rfl, q_in 28 rfl rfl, by decide +kernel, by decide +kernel, by decide, by decide +kernel⟩
theorem me_X8_figureAt : q_Me yX8_figureAt cX8_figureAt 2 (some .int) 1 := ⟨q_in 272 rfl rfl, q_in 28 rfl rfl, by decide +kernel, by decide +kernel, by decide, by decide +kernel⟩
theorem me_X8_makeAnew : q_Me yX8_makeAnew cX8_makeAnew 4 none 1 := ⟨q_in 264 rfl rfl, q_in 28 rfl rfl, by decide +kernel, by decide +kernel, by decide, by decide +kernel⟩
theorem me_X9_init : q_Me yX9_init cX9_init 2 none 0 := ⟨q_in 46 rfl rfl, q_in 27 rfl rfl, by decide +kernel, by decide +kernel, by decide, by decide +kernel⟩
theorem me_X9_write : q_Me yX9_write cX9_write 2 (some .int) 1 := ⟨q_in 231 rfl rfl, q_in 27 rfl rfl, by decide +kernel, by decide +kernel, by decide, by decide +kernel⟩
theorem me_X9_wipe : q_Me yX9_wipe cX9_wipe 2 (some .int) 0 := ⟨q_in 239 rfl rfl, q_in 27 rfl rfl, by decide +kernel, by decide +kernel, by decide, by decide +kernel⟩
theorem me_X9_fault : q_Me yX9_fault cX9_fault 1 (some .int) 0 := ⟨q_in 243 rfl rfl, q_in 27 rfl rfl, by decide +kernel, by decide +kernel, by decide, by decide +kernel⟩
theorem me_X9_land : q_Me yX9_land cX9_land 2 (some .int) 0 := ⟨q_in 260 rfl rfl, q_in 27 rfl rfl, by decide +kernel, by decide +kernel, by decide, by decide +kernel⟩
theorem me_X9_about : q_Me yX9_about cX9_about 2 (some .int) 1 := ⟨q_in 284 rfl rfl, q_in 27 rfl rfl, by decide +kernel, by decide +kernel, by decide, by decide +kernel⟩
theorem me_X9_person : q_Me yX9_person cX9_person 3 (some .int) 2 := ⟨q_in 288 rfl rfl, q_in 27 rfl rfl, by decide +kernel, by decide +kernel, by decide, by decide +kernel⟩
theorem me_X9_die : q_Me yX9_die cX9_die 2 (some .int) 1 := ⟨q_in 317 rfl rfl, q_in 27 rfl rfl, by decide +kernel, by decide +kernel, by decide, by decide +kernel⟩
theorem me_X9_bear : q_Me yX9_bear cX9_bear 3 (some .int) 2 := ⟨q_in 364 rfl rfl, q_in 27 rfl rfl, by decide +kernel, by decide +kernel, by decide, by decide +kernel⟩
theorem me_X9_cut : q_Me yX9_cut cX9_cut 2 (some .int) 1 := ⟨q_in 369 rfl rfl, q_in 27 rfl rfl, by decide +kernel, by decide +kernel, by decide, by decide +kernel⟩
theorem me_X9_borrow : q_Me yX9_borrow cX9_borrow 2 (some .int) 1 := ⟨q_in 373 rfl rfl, q_in 27 rfl rfl, by decide +kernel, by decide +kernel, by decide, by decide +kernel⟩
theorem me_X9_breakTie : q_Me yX9_breakTie cX9_breakTie 3 (some .int) 1 := ⟨q_in 377 rfl rfl, q_in 27 rfl rfl, by decide +kernel, by decide +kernel, by decide, by decide +kernel⟩
theorem me_X9_tens : q_Me yX9_tens cX9_tens 1 (some .int) 0 := ⟨q_in 390 rfl rfl, q_in 27 rfl rfl, by decide +kernel, by decide +kernel, by decide, by decide +kernel⟩
theorem me_X9_undo : q_Me yX9_undo cX9_undo 1 (some .int) 0 := ⟨q_in 401 rfl rfl, q_in 27 rfl rfl, by decide +kernel, by decide +kernel, by decide, by decide +kernel⟩
theorem me_X9_heir : q_Me yX9_heir cX9_heir 3 (some .int) 2 := ⟨q_in 409 rfl rfl, q_in 27 rfl rfl, by decide +kernel, by decide +kernel, by decide, by decide +kernel⟩
theorem me_X9_line : q_Me yX9_line cX9_line 4 (some .int) 3 := ⟨q_in 413 rfl rfl, q_in 27 rfl rfl, by decide +kernel, by decide +kernel, by decide, by decide +kernel⟩
theorem me_X9_next : q_Me yX9_next cX9_next 4 (some .int) 1 := ⟨q_in 425 rfl rfl, q_in 27 rfl rfl, by decide +kernel, by decide +kernel, by decide, by decide +kernel⟩
theorem me_X9_ever : q_Me yX9_ever cX9_ever 2 (some .int) 1 := ⟨q_in 430 rfl rfl, q_in 27 rfl rfl, by decide +kernel, by decide +kernel, by decide, by decide +kernel⟩
theorem me_X9_best : q_Me yX9_best cX9_best 4 (some .int) 3 := ⟨q_in 438 rfl rfl, q_in 27 rfl rfl, by decide +kernel, by decide +kernel, by decide, by decide +kernel⟩
theorem me_X9_ties : q_Me yX9_ties cX9_ties 6 (some .int) 3 := ⟨q_in 467 rfl rfl, q_in 27 rfl rfl, by decide +kernel, by decide +kernel, by decide, by decide +kernel⟩
theorem me_X9_rests : q_Me yX9_rests cX9_rests 3 (some .int) 2 := ⟨q_in 481 rfl rfl, q_in 27 rfl rfl, by decide +kernel, by decide +kernel, by decide, by decide +kernel⟩
theorem me_X9_odds : q_Me yX9_odds cX9_odds 4 (some .int) 2 := ⟨q_in 500 rfl rfl, q_in 27 rfl rfl, by decide +kernel, by decide +kernel, by decide, by decide +kernel⟩
theorem me_X9_lender : q_Me yX9_lender cX9_lender 8 (some .int) 3 := ⟨q_in 543 rfl rfl, q_in 27 rfl rfl, by decide +kernel, by decide +kernel, by decide, by decide +kernel⟩
theorem me_X9_seed : q_Me yX9_seed cX9_seed 5 (some .long) 1 := ⟨q_in 548 rfl rfl, q_in 27 rfl rfl, by decide +kernel, by decide +kernel, by decide, by decide +kernel⟩
theorem me_X9_families : q_Me yX9_families cX9_families 6 (some .int) 1 := ⟨q_in 552 rfl rfl, q_in 27 rfl rfl, by decide +kernel, by decide +kernel, by decide, by decide +kernel⟩
theorem me_X9_keep : q_Me yX9_keep cX9_keep 2 (some .int) 1 := ⟨q_in 559 rfl rfl, q_in 27 rfl rfl, by decide +kernel, by decide +kernel, by decide, by decide +kernel⟩
theorem me_X9_again : q_Me yX9_again cX9_again 2 (some .int) 1 := ⟨q_in 566 rfl rfl, q_in 27 rfl rfl, by decide +kernel, by decide +kernel, by decide, by decide +kernel⟩
theorem me_X9_isTie : q_Me yX9_isTie cX9_isTie 1 (some .boolean) 1 := ⟨q_in 380 rfl rfl, q_in 27 rfl rfl, by decide +kernel, by decide +kernel, by decide, by decide +kernel⟩
theorem me_X9_isSlot : q_Me yX9_isSlot cX9_isSlot 1 (some .boolean) 1 := ⟨q_in 562 rfl rfl, q_in 27 rfl rfl, by decide +kernel, by decide +kernel, by decide, by decide +kernel⟩
theorem me_X9_hasChildOfAgeAsHeir : q_Me yX9_hasChildOfAgeAsHeir cX9_hasChildOfAgeAsHeir 2 (some .boolean) 0 := ⟨q_in 384 rfl rfl, q_in 27 rfl rfl, by decide +kernel, by decide +kernel, by decide, by decide +kernel⟩
theorem me_X10_init : q_Me yX10_init cX10_init 1 none 0 := ⟨q_in 571 rfl rfl, q_in 35 rfl rfl, by decide +kernel, by decide +kernel, by decide, by decide +kernel⟩
theorem me_X10_in : q_Me yX10_in cX10_in 6 (some .boolean) 3 := ⟨q_in 650 rfl rfl, q_in 35 rfl rfl, by decide +kernel, by decide +kernel, by decide, by decide +kernel⟩
theorem me_X10_has : q_Me yX10_has cX10_has 2 (some .boolean) 2 := ⟨q_in 697 rfl rfl, q_in 35 rfl rfl, by decide +kernel, by decide +kernel, by decide, by decide +kernel⟩
theorem me_X10_noPerson : q_Me yX10_noPerson cX10_noPerson 2 (some .boolean) 1 := ⟨q_in 686 rfl rfl, q_in 35 rfl rfl, by decide +kernel, by decide +kernel, by decide, by decide +kernel⟩
theorem me_X10_noTie : q_Me yX10_noTie cX10_noTie 1 (some .boolean) 1 := ⟨q_in 741 rfl rfl, q_in 35 rfl rfl, by decide +kernel, by decide +kernel, by decide, by decide +kernel⟩
theorem me_X10_write : q_Me yX10_write cX10_write 2 (some .int) 1 := ⟨q_in 646 rfl rfl, q_in 35 rfl rfl, by decide +kernel, by decide +kernel, by decide, by decide +kernel⟩
theorem me_X10_wipe : q_Me yX10_wipe cX10_wipe 2 (some .int) 0 := ⟨q_in 654 rfl rfl, q_in 35 rfl rfl, by decide +kernel, by decide +kernel, by decide, by decide +kernel⟩
theorem me_X10_figure : q_Me yX10_figure cX10_figure 3 (some .int) 2 := ⟨q_in 666 rfl rfl, q_in 35 rfl rfl, by decide +kernel, by decide +kernel, by decide, by decide +kernel⟩
theorem me_X10_readPerson : q_Me yX10_readPerson cX10_readPerson 4 (some .boolean) 0 := ⟨q_in 670 rfl rfl, q_in 35 rfl rfl, by decide +kernel, by decide +kernel, by decide, by decide +kernel⟩
theorem me_X10_readLand : q_Me yX10_readLand cX10_readLand 1 (some .int) 0 := ⟨q_in 662 rfl rfl, q_in 35 rfl rfl, by decide +kernel, by decide +kernel, by decide, by decide +kernel⟩
theorem me_X10_fault : q_Me yX10_fault cX10_fault 1 (some .int) 0 := ⟨q_in 658 rfl rfl, q_in 35 rfl rfl, by decide +kernel, by decide +kernel, by decide, by decide +kernel⟩
theorem me_X10_land : q_Me yX10_land cX10_land 2 (some .int) 0 := ⟨q_in 674 rfl rfl, q_in 35 rfl rfl, by decide +kernel, by decide +kernel, by decide, by decide +kernel⟩
theorem me_X10_isAhead : q_Me yX10_isAhead cX10_isAhead 8 (some .boolean) 4 := ⟨q_in 713 rfl rfl, q_in 35 rfl rfl, by decide +kernel, by decide +kernel, by decide, by decide +kernel⟩
theorem me_X10_childrenOf : q_Me yX10_childrenOf cX10_childrenOf 5 (some .int) 2 := ⟨q_in 690 rfl rfl, q_in 35 rfl rfl, by decide +kernel, by decide +kernel, by decide, by decide +kernel⟩
theorem me_X10_layLine : q_Me yX10_layLine cX10_layLine 10 none 3 := ⟨q_in 717 rfl rfl, q_in 35 rfl rfl, by decide +kernel, by decide +kernel, by decide, by decide +kernel⟩
theorem me_X10_firstOf : q_Me yX10_firstOf cX10_firstOf 4 (some .int) 2 := ⟨q_in 721 rfl rfl, q_in 35 rfl rfl, by decide +kernel, by decide +kernel, by decide, by decide +kernel⟩
theorem me_X10_heirOf : q_Me yX10_heirOf cX10_heirOf 8 (some .int) 3 := ⟨q_in 709 rfl rfl, q_in 35 rfl rfl, by decide +kernel, by decide +kernel, by decide, by decide +kernel⟩
theorem me_X10_about : q_Me yX10_about cX10_about 2 (some .int) 1 := ⟨q_in 678 rfl rfl, q_in 35 rfl rfl, by decide +kernel, by decide +kernel, by decide, by decide +kernel⟩
theorem me_X10_person : q_Me yX10_person cX10_person 3 (some .int) 2 := ⟨q_in 682 rfl rfl, q_in 35 rfl rfl, by decide +kernel, by decide +kernel, by decide, by decide +kernel⟩
theorem me_X10_note : q_Me yX10_note cX10_note 2 none 0 := ⟨q_in 701 rfl rfl, q_in 35 rfl rfl, by decide +kernel, by decide +kernel, by decide, by decide +kernel⟩
theorem me_X10_goDie : q_Me yX10_goDie cX10_goDie 3 none 2 := ⟨q_in 705 rfl rfl, q_in 35 rfl rfl, by decide +kernel, by decide +kernel, by decide, by decide +kernel⟩
theorem me_X10_die : q_Me yX10_die cX10_die 2 (some .int) 1 := ⟨q_in 694 rfl rfl, q_in 35 rfl rfl, by decide +kernel, by decide +kernel, by decide, by decide +kernel⟩
theorem me_X10_bear : q_Me yX10_bear cX10_bear 4 (some .int) 2 := ⟨q_in 725 rfl rfl, q_in 35 rfl rfl, by decide +kernel, by decide +kernel, by decide, by decide +kernel⟩
theorem me_X10_cut : q_Me yX10_cut cX10_cut 2 (some .int) 1 := ⟨q_in 729 rfl rfl, q_in 35 rfl rfl, by decide +kernel, by decide +kernel, by decide, by decide +kernel⟩
theorem me_X10_borrow : q_Me yX10_borrow cX10_borrow 2 (some .int) 1 := ⟨q_in 734 rfl rfl, q_in 35 rfl rfl, by decide +kernel, by decide +kernel, by decide, by decide +kernel⟩
theorem me_X10_isOfAge : q_Me yX10_isOfAge cX10_isOfAge 2 (some .boolean) 0 := ⟨q_in 746 rfl rfl, q_in 35 rfl rfl, by decide +kernel, by decide +kernel, by decide, by decide +kernel⟩
theorem me_X10_breakTie : q_Me yX10_breakTie cX10_breakTie 3 (some .int) 1 := ⟨q_in 738 rfl rfl, q_in 35 rfl rfl, by decide +kernel, by decide +kernel, by decide, by decide +kernel⟩
theorem me_X10_tens : q_Me yX10_tens cX10_tens 2 (some .int) 0 := ⟨q_in 750 rfl rfl, q_in 35 rfl rfl, by decide +kernel, by decide +kernel, by decide, by decide +kernel⟩
theorem me_X10_undo : q_Me yX10_undo cX10_undo 2 (some .int) 0 := ⟨q_in 754 rfl rfl, q_in 35 rfl rfl, by decide +kernel, by decide +kernel, by decide, by decide +kernel⟩
theorem me_X10_begin : q_Me yX10_begin cX10_begin 2 none 0 := ⟨q_in 770 rfl rfl, q_in 35 rfl rfl, by decide +kernel, by decide +kernel, by decide, by decide +kernel⟩
theorem me_X10_heir : q_Me yX10_heir cX10_heir 3 (some .int) 2 := ⟨q_in 758 rfl rfl, q_in 35 rfl rfl, by decide +kernel, by decide +kernel, by decide, by decide +kernel⟩
theorem me_X10_line : q_Me yX10_line cX10_line 6 (some .int) 3 := ⟨q_in 762 rfl rfl, q_in 35 rfl rfl, by decide +kernel, by decide +kernel, by decide, by decide +kernel⟩
theorem me_X10_next : q_Me yX10_next cX10_next 3 (some .int) 1 := ⟨q_in 766 rfl rfl, q_in 35 rfl rfl, by decide +kernel, by decide +kernel, by decide, by decide +kernel⟩
theorem me_X10_ever : q_Me yX10_ever cX10_ever 5 (some .int) 1 := ⟨q_in 774 rfl rfl, q_in 35 rfl rfl, by decide +kernel, by decide +kernel, by decide, by decide +kernel⟩
theorem me_X10_power : q_Me yX10_power cX10_power 4 (some .int) 2 := ⟨q_in 786 rfl rfl, q_in 35 rfl rfl, by decide +kernel, by decide +kernel, by decide, by decide +kernel⟩
theorem me_X10_findBest : q_Me yX10_findBest cX10_findBest 10 none 2 := ⟨q_in 783 rfl rfl, q_in 35 rfl rfl, by decide +kernel, by decide +kernel, by decide, by decide +kernel⟩
theorem me_X10_best : q_Me yX10_best cX10_best 4 (some .int) 3 := ⟨q_in 778 rfl rfl, q_in 35 rfl rfl, by decide +kernel, by decide +kernel, by decide, by decide +kernel⟩
theorem me_X10_noDeaths : q_Me yX10_noDeaths cX10_noDeaths 7 (some .boolean) 2 := ⟨q_in 794 rfl rfl, q_in 35 rfl rfl, by decide +kernel, by decide +kernel, by decide, by decide +kernel⟩
theorem me_X10_ties : q_Me yX10_ties cX10_ties 7 (some .int) 3 := ⟨q_in 790 rfl rfl, q_in 35 rfl rfl, by decide +kernel, by decide +kernel, by decide, by decide +kernel⟩
theorem me_X10_gainOf : q_Me yX10_gainOf cX10_gainOf 4 (some .int) 4 := ⟨q_in 805 rfl rfl, q_in 35 rfl rfl, by decide +kernel, by decide +kernel, by decide, by decide +kernel⟩
theorem me_X10_findRests : q_Me yX10_findRests cX10_findRests 6 none 1 := ⟨q_in 802 rfl rfl, q_in 35 rfl rfl, by decide +kernel, by decide +kernel, by decide, by decide +kernel⟩
theorem me_X10_rests : q_Me yX10_rests cX10_rests 3 (some .int) 2 := ⟨q_in 798 rfl rfl, q_in 35 rfl rfl, by decide +kernel, by decide +kernel, by decide, by decide +kernel⟩
theorem me_X10_divisor : q_Me yX10_divisor cX10_divisor 5 (some .int) 2 := ⟨q_in 819 rfl rfl, q_in 35 rfl rfl, by decide +kernel, by decide +kernel, by decide, by decide +kernel⟩
theorem me_X10_fraction : q_Me yX10_fraction cX10_fraction 4 (some .int) 3 := ⟨q_in 816 rfl rfl, q_in 35 rfl rfl, by decide +kernel, by decide +kernel, by decide, by decide +kernel⟩
theorem me_X10_goOn : q_Me yX10_goOn cX10_goOn 9 none 5 := ⟨q_in 813 rfl rfl, q_in 35 rfl rfl, by decide +kernel, by decide +kernel, by decide, by decide +kernel⟩
theorem me_X10_odds : q_Me yX10_odds cX10_odds 8 (some .int) 2 := ⟨q_in 809 rfl rfl, q_in 35 rfl rfl, by decide +kernel, by decide +kernel, by decide, by decide +kernel⟩
theorem me_X10_lender : q_Me yX10_lender cX10_lender 8 (some .int) 3 := ⟨q_in 823 rfl rfl, q_in 35 rfl rfl, by decide +kernel, by decide +kernel, by decide, by decide +kernel⟩
theorem me_X10_seed : q_Me yX10_seed cX10_seed 5 (some .long) 1 := ⟨q_in 828 rfl rfl, q_in 35 rfl rfl, by decide +kernel, by decide +kernel, by decide, by decide +kernel⟩
theorem me_X10_families : q_Me yX10_families cX10_families 6 (some .int) 1 := ⟨q_in 832 rfl rfl, q_in 35 rfl rfl, by decide +kernel, by decide +kernel, by decide, by decide +kernel⟩
theorem me_X10_keep : q_Me yX10_keep cX10_keep 3 (some .int) 1 := ⟨q_in 840 rfl rfl, q_in 35 rfl rfl, by decide +kernel, by decide +kernel, by decide, by decide +kernel⟩
theorem me_X10_again : q_Me yX10_again cX10_again 3 (some .int) 1 := ⟨q_in 844 rfl rfl, q_in 35 rfl rfl, by decide +kernel, by decide +kernel, by decide, by decide +kernel⟩
theorem me_J6_bitCount_0f7a4 : q_Me yJ6_bitCount_0f7a4 cJ6_bitCount_0f7a4 1 (some .int) 1 := ⟨q_in 509 rfl rfl, q_in 40 rfl rfl, by decide +kernel, by decide +kernel, by decide, by decide +kernel⟩
theorem me_J7_fill_53178 : q_Me yJ7_fill_53178 cJ7_fill_53178 4 none 2 := ⟨q_in 526 rfl rfl, q_in 41 rfl rfl, by decide +kernel, by decide +kernel, by decide, by decide +kernel⟩
theorem k_L_13 : q_CaV RL 13 yX9_write cX9_write 2 (some .int) 1 7 := ⟨me_X9_write, q_in 228 rfl rfl, q_in 229 rfl rfl, q_in 230 rfl rfl, TX9, 11, rfl⟩
theorem k_X9_69 : q_CaV RX9 69 yX8_add cX8_add 2 (some .boolean) 1 6 := ⟨me_X8_add, q_in 232 rfl rfl, q_in 233 rfl rfl, q_in 234 rfl rfl, TX8, 2, rfl⟩
theorem k_L_18 : q_CaV RL 18 yX9_wipe cX9_wipe 2 (some .int) 0 7 := ⟨me_X9_wipe, q_in 236 rfl rfl, q_in 237 rfl rfl, q_in 238 rfl rfl, TX9, 11, rfl⟩
theorem k_L_23 : q_CaV RL 23 yX9_fault cX9_fault 1 (some .int) 0 7 := ⟨me_X9_fault, q_in 240 rfl rfl, q_in 241 rfl rfl, q_in 242 rfl rfl, TX9, 11, rfl⟩
theorem k_X9_77 : q_CaV RX9 77 yX8_firstFault cX8_firstFault 2 (some .int) 0 6 := ⟨me_X8_firstFault, q_in 244 rfl rfl, q_in 245 rfl rfl, q_in 246 rfl rfl, TX8, 2, rfl⟩
theorem k_X8_19 : q_CaS RX8 19 yX8_mayStand cX8_mayStand 3 (some .boolean) 2 := ⟨me_X8_mayStand, q_in 248 rfl rfl, q_in 249 rfl rfl⟩
theorem k_X8_23 : q_CaS RX8 23 yX8_isFigure cX8_isFigure 2 (some .boolean) 2 := ⟨me_X8_isFigure, q_in 251 rfl rfl, q_in 252 rfl rfl⟩
theorem k_L_27 : q_CaV RL 27 yX9_land cX9_land 2 (some .int) 0 7 := ⟨me_X9_land, q_in 257 rfl rfl, q_in 258 rfl rfl, q_in 259 rfl rfl, TX9, 11, rfl⟩
theorem k_X9_81 : q_CaV RX9 81 yX8_makeAnew cX8_makeAnew 4 none 1 6 := ⟨me_X8_makeAnew, q_in 261 rfl rfl, q_in 262 rfl rfl, q_in 263 rfl rfl, TX8, 2, rfl⟩
theorem k_X8_32 : q_CaV RX8 32 yX6_clear cX6_clear 1 none 0 4 := ⟨me_X6_clear, q_in 265 rfl rfl, q_in 266 rfl rfl, q_in 267 rfl rfl, TX6, 10, rfl⟩
theorem k_X8_37 : q_CaV RX8 37 yX8_figureAt cX8_figureAt 2 (some .int) 1 6 := ⟨me_X8_figureAt, q_in 269 rfl rfl, q_in 271 rfl rfl, q_in 0 rfl rfl, TX8, 2, rfl⟩
theorem k_X8_50 : q_CaV RX8 50 yX6_gains cX6_gains 4 none 3 4 := ⟨me_X6_gains, q_in 273 rfl rfl, q_in 274 rfl rfl, q_in 275 rfl rfl, TX6, 10, rfl⟩
theorem k_X9_85 : q_CaV RX9 85 yX0_forgetAll cX0_forgetAll 1 none 0 0 := ⟨me_X0_forgetAll, q_in 277 rfl rfl, q_in 278 rfl rfl, q_in 279 rfl rfl, TX0, 3, rfl⟩
theorem k_L_31 : q_CaV RL 31 yX9_about cX9_about 2 (some .int) 1 7 := ⟨me_X9_about, q_in 281 rfl rfl, q_in 282 rfl rfl, q_in 283 rfl rfl, TX9, 11, rfl⟩
theorem k_L_35 : q_CaV RL 35 yX9_person cX9_person 3 (some .int) 2 7 := ⟨me_X9_person, q_in 285 rfl rfl, q_in 286 rfl rfl, q_in 287 rfl rfl, TX9, 11, rfl⟩
theorem k_X9_112 : q_CaV RX9 112 yX6_has cX6_has 2 (some .boolean) 1 4 := ⟨me_X6_has, q_in 289 rfl rfl, q_in 290 rfl rfl, q_in 291 rfl rfl, TX6, 10, rfl⟩
theorem k_X9_115 : q_CaV RX9 115 yX6_parentOf cX6_parentOf 2 (some .int) 1 4 := ⟨me_X6_parentOf, q_in 293 rfl rfl, q_in 294 rfl rfl, q_in 295 rfl rfl, TX6, 10, rfl⟩
theorem k_X6_49 : q_CaV RX6 49 yX6_has cX6_has 2 (some .boolean) 1 4 := ⟨me_X6_has, q_in 297 rfl rfl, q_in 290 rfl rfl, q_in 291 rfl rfl, TX6, 10, rfl⟩
theorem k_X9_119 : q_CaV RX9 119 yX6_isWoman cX6_isWoman 2 (some .boolean) 1 4 := ⟨me_X6_isWoman, q_in 298 rfl rfl, q_in 299 rfl rfl, q_in 300 rfl rfl, TX6, 10, rfl⟩
theorem k_X9_122 : q_CaV RX9 122 yX6_ageOf cX6_ageOf 2 (some .int) 1 4 := ⟨me_X6_ageOf, q_in 302 rfl rfl, q_in 303 rfl rfl, q_in 304 rfl rfl, TX6, 10, rfl⟩
theorem k_X9_125 : q_CaV RX9 125 yX6_lives cX6_lives 2 (some .boolean) 1 4 := ⟨me_X6_lives, q_in 306 rfl rfl, q_in 307 rfl rfl, q_in 308 rfl rfl, TX6, 10, rfl⟩
theorem k_X9_128 : q_CaV RX9 128 yX6_childrenOf cX6_childrenOf 4 (some .int) 1 4 := ⟨me_X6_childrenOf, q_in 310 rfl rfl, q_in 311 rfl rfl, q_in 312 rfl rfl, TX6, 10, rfl⟩
theorem k_L_40 : q_CaV RL 40 yX9_die cX9_die 2 (some .int) 1 7 := ⟨me_X9_die, q_in 314 rfl rfl, q_in 315 rfl rfl, q_in 316 rfl rfl, TX9, 11, rfl⟩
theorem k_X9_131 : q_CaV RX9 131 yX0_remember cX0_remember 2 none 1 0 := ⟨me_X0_remember, q_in 318 rfl rfl, q_in 319 rfl rfl, q_in 320 rfl rfl, TX0, 3, rfl⟩
theorem k_X0_25 : q_CaV RX0 25 yX6_copy cX6_copy 2 none 1 4 := ⟨me_X6_copy, q_in 322 rfl rfl, q_in 323 rfl rfl, q_in 324 rfl rfl, TX6, 10, rfl⟩
theorem k_X9_134 : q_CaV RX9 134 yX6_loses cX6_loses 3 none 2 4 := ⟨me_X6_loses, q_in 329 rfl rfl, q_in 330 rfl rfl, q_in 331 rfl rfl, TX6, 10, rfl⟩
theorem k_X6_53 : q_CaV RX6 53 yX6_lives cX6_lives 2 (some .boolean) 1 4 := ⟨me_X6_lives, q_in 333 rfl rfl, q_in 307 rfl rfl, q_in 308 rfl rfl, TX6, 10, rfl⟩
theorem k_X6_56 : q_CaV RX6 56 yX5_listHeirs cX5_listHeirs 6 none 3 3 := ⟨me_X5_listHeirs, q_in 334 rfl rfl, q_in 335 rfl rfl, q_in 336 rfl rfl, TX5, 3, rfl⟩
theorem k_X5_26 : q_CaV RX5 26 yX6_has cX6_has 2 (some .boolean) 1 4 := ⟨me_X6_has, q_in 338 rfl rfl, q_in 290 rfl rfl, q_in 291 rfl rfl, TX6, 10, rfl⟩
theorem k_X5_32 : q_CaV RX5 32 yX5_addChildren cX5_addChildren 8 none 4 3 := ⟨me_X5_addChildren, q_in 339 rfl rfl, q_in 341 rfl rfl, q_in 1 rfl rfl, TX5, 3, rfl⟩
theorem k_X5_42 : q_CaV RX5 42 yX6_childrenOf cX6_childrenOf 4 (some .int) 1 4 := ⟨me_X6_childrenOf, q_in 343 rfl rfl, q_in 311 rfl rfl, q_in 312 rfl rfl, TX6, 10, rfl⟩
theorem k_X5_45 : q_CaS RX5 45 yX5_firstChild cX5_firstChild 5 (some .int) 3 := ⟨me_X5_firstChild, q_in 344 rfl rfl, q_in 345 rfl rfl⟩
theorem k_X5_49 : q_CaS RX5 49 yX5_goesAhead cX5_goesAhead 5 (some .boolean) 4 := ⟨me_X5_goesAhead, q_in 347 rfl rfl, q_in 348 rfl rfl⟩
theorem k_X5_39 : q_CaV RX5 39 yX6_isWoman cX6_isWoman 2 (some .boolean) 1 4 := ⟨me_X6_isWoman, q_in 350 rfl rfl, q_in 299 rfl rfl, q_in 300 rfl rfl, TX6, 10, rfl⟩
theorem k_X5_53 : q_CaV RX5 53 yX6_ageOf cX6_ageOf 2 (some .int) 1 4 := ⟨me_X6_ageOf, q_in 351 rfl rfl, q_in 303 rfl rfl, q_in 304 rfl rfl, TX6, 10, rfl⟩
theorem k_X5_22 : q_CaV RX5 22 yX5_addLine cX5_addLine 5 none 4 3 := ⟨me_X5_addLine, q_in 352 rfl rfl, q_in 354 rfl rfl, q_in 2 rfl rfl, TX5, 3, rfl⟩
theorem k_X5_35 : q_CaV RX5 35 yX6_parentOf cX6_parentOf 2 (some .int) 1 4 := ⟨me_X6_parentOf, q_in 356 rfl rfl, q_in 294 rfl rfl, q_in 295 rfl rfl, TX6, 10, rfl⟩
theorem k_X6_62 : q_CaV RX6 62 yX5_firstOf cX5_firstOf 3 (some .int) 1 3 := ⟨me_X5_firstOf, q_in 357 rfl rfl, q_in 358 rfl rfl, q_in 359 rfl rfl, TX5, 3, rfl⟩
theorem k_L_44 : q_CaV RL 44 yX9_bear cX9_bear 3 (some .int) 2 7 := ⟨me_X9_bear, q_in 361 rfl rfl, q_in 362 rfl rfl, q_in 363 rfl rfl, TX9, 11, rfl⟩
theorem k_X9_138 : q_CaV RX9 138 yX6_gains cX6_gains 4 none 3 4 := ⟨me_X6_gains, q_in 365 rfl rfl, q_in 274 rfl rfl, q_in 275 rfl rfl, TX6, 10, rfl⟩
theorem k_L_48 : q_CaV RL 48 yX9_cut cX9_cut 2 (some .int) 1 7 := ⟨me_X9_cut, q_in 366 rfl rfl, q_in 367 rfl rfl, q_in 368 rfl rfl, TX9, 11, rfl⟩
theorem k_L_52 : q_CaV RL 52 yX9_borrow cX9_borrow 2 (some .int) 1 7 := ⟨me_X9_borrow, q_in 370 rfl rfl, q_in 371 rfl rfl, q_in 372 rfl rfl, TX9, 11, rfl⟩
theorem k_L_56 : q_CaV RL 56 yX9_breakTie cX9_breakTie 3 (some .int) 1 7 := ⟨me_X9_breakTie, q_in 374 rfl rfl, q_in 375 rfl rfl, q_in 376 rfl rfl, TX9, 11, rfl⟩
theorem k_X9_142 : q_CaS RX9 142 yX9_isTie cX9_isTie 1 (some .boolean) 1 := ⟨me_X9_isTie, q_in 378 rfl rfl, q_in 379 rfl rfl⟩
theorem k_X9_145 : q_CaV RX9 145 yX9_hasChildOfAgeAsHeir cX9_hasChildOfAgeAsHeir 2 (some .boolean) 0 7 := ⟨me_X9_hasChildOfAgeAsHeir, q_in 381 rfl rfl, q_in 383 rfl rfl, q_in 3 rfl rfl, TX9, 11, rfl⟩
theorem k_X9_156 : q_CaV RX9 156 yX5_listHeirs cX5_listHeirs 6 none 3 3 := ⟨me_X5_listHeirs, q_in 385 rfl rfl, q_in 335 rfl rfl, q_in 336 rfl rfl, TX5, 3, rfl⟩
theorem k_X9_160 : q_CaV RX9 160 yX5_firstOf cX5_firstOf 3 (some .int) 1 3 := ⟨me_X5_firstOf, q_in 386 rfl rfl, q_in 358 rfl rfl, q_in 359 rfl rfl, TX5, 3, rfl⟩
theorem k_L_60 : q_CaV RL 60 yX9_tens cX9_tens 1 (some .int) 0 7 := ⟨me_X9_tens, q_in 387 rfl rfl, q_in 388 rfl rfl, q_in 389 rfl rfl, TX9, 11, rfl⟩
theorem k_X9_149 : q_CaV RX9 149 yX6_grows cX6_grows 2 none 0 4 := ⟨me_X6_grows, q_in 391 rfl rfl, q_in 392 rfl rfl, q_in 393 rfl rfl, TX6, 10, rfl⟩
theorem k_L_64 : q_CaV RL 64 yX9_undo cX9_undo 1 (some .int) 0 7 := ⟨me_X9_undo, q_in 398 rfl rfl, q_in 399 rfl rfl, q_in 400 rfl rfl, TX9, 11, rfl⟩
theorem k_X9_152 : q_CaV RX9 152 yX0_takeBack cX0_takeBack 2 (some .boolean) 1 0 := ⟨me_X0_takeBack, q_in 402 rfl rfl, q_in 403 rfl rfl, q_in 404 rfl rfl, TX0, 3, rfl⟩
theorem k_L_68 : q_CaV RL 68 yX9_heir cX9_heir 3 (some .int) 2 7 := ⟨me_X9_heir, q_in 406 rfl rfl, q_in 407 rfl rfl, q_in 408 rfl rfl, TX9, 11, rfl⟩
theorem k_L_72 : q_CaV RL 72 yX9_line cX9_line 4 (some .int) 3 7 := ⟨me_X9_line, q_in 410 rfl rfl, q_in 411 rfl rfl, q_in 412 rfl rfl, TX9, 11, rfl⟩
theorem k_X9_163 : q_CaV RX9 163 yX5_listLine cX5_listLine 4 none 3 3 := ⟨me_X5_listLine, q_in 414 rfl rfl, q_in 415 rfl rfl, q_in 416 rfl rfl, TX5, 3, rfl⟩
theorem k_X9_166 : q_CaV RX9 166 yX5_placeOf cX5_placeOf 3 (some .int) 1 3 := ⟨me_X5_placeOf, q_in 418 rfl rfl, q_in 419 rfl rfl, q_in 420 rfl rfl, TX5, 3, rfl⟩
theorem k_L_77 : q_CaV RL 77 yX9_next cX9_next 4 (some .int) 1 7 := ⟨me_X9_next, q_in 422 rfl rfl, q_in 423 rfl rfl, q_in 424 rfl rfl, TX9, 11, rfl⟩
theorem k_X9_169 : q_CaV RX9 169 yX6_copy cX6_copy 2 none 1 4 := ⟨me_X6_copy, q_in 426 rfl rfl, q_in 323 rfl rfl, q_in 324 rfl rfl, TX6, 10, rfl⟩
theorem k_L_81 : q_CaV RL 81 yX9_ever cX9_ever 2 (some .int) 1 7 := ⟨me_X9_ever, q_in 427 rfl rfl, q_in 428 rfl rfl, q_in 429 rfl rfl, TX9, 11, rfl⟩
theorem k_X9_172 : q_CaV RX9 172 yX5_allOf cX5_allOf 4 (some .int) 1 3 := ⟨me_X5_allOf, q_in 431 rfl rfl, q_in 432 rfl rfl, q_in 433 rfl rfl, TX5, 3, rfl⟩
theorem k_L_85 : q_CaV RL 85 yX9_best cX9_best 4 (some .int) 3 7 := ⟨me_X9_best, q_in 435 rfl rfl, q_in 436 rfl rfl, q_in 437 rfl rfl, TX9, 11, rfl⟩
theorem k_X9_175 : q_CaV RX9 175 yX3_reckon cX3_reckon 6 none 2 2 := ⟨me_X3_reckon, q_in 439 rfl rfl, q_in 440 rfl rfl, q_in 441 rfl rfl, TX3, 1, rfl⟩
theorem k_X3_16 : q_CaV RX3 16 yX3_firstBestCut cX3_firstBestCut 5 (some .int) 2 2 := ⟨me_X3_firstBestCut, q_in 443 rfl rfl, q_in 445 rfl rfl, q_in 4 rfl rfl, TX3, 1, rfl⟩
theorem k_X3_20 : q_CaV RX3 20 yX3_worth cX3_worth 4 (some .int) 3 2 := ⟨me_X3_worth, q_in 447 rfl rfl, q_in 449 rfl rfl, q_in 5 rfl rfl, TX3, 1, rfl⟩
theorem k_X3_29 : q_CaS RX3 29 yX3_grown cX3_grown 1 (some .int) 1 := ⟨me_X3_grown, q_in 451 rfl rfl, q_in 452 rfl rfl⟩
theorem k_X3_33 : q_CaV RX3 33 yX3_mostFor cX3_mostFor 3 (some .int) 2 2 := ⟨me_X3_mostFor, q_in 455 rfl rfl, q_in 456 rfl rfl, q_in 457 rfl rfl, TX3, 1, rfl⟩
theorem k_X9_179 : q_CaV RX9 179 yX3_firstRow cX3_firstRow 7 (some .int) 2 2 := ⟨me_X3_firstRow, q_in 459 rfl rfl, q_in 460 rfl rfl, q_in 461 rfl rfl, TX3, 1, rfl⟩
theorem k_X9_183 : q_CaV RX9 183 yX3_mostFor cX3_mostFor 3 (some .int) 2 2 := ⟨me_X3_mostFor, q_in 463 rfl rfl, q_in 456 rfl rfl, q_in 457 rfl rfl, TX3, 1, rfl⟩
theorem k_L_90 : q_CaV RL 90 yX9_ties cX9_ties 6 (some .int) 3 7 := ⟨me_X9_ties, q_in 464 rfl rfl, q_in 465 rfl rfl, q_in 466 rfl rfl, TX9, 11, rfl⟩
theorem k_X9_186 : q_CaV RX9 186 yX2_read cX2_read 8 (some .boolean) 3 1 := ⟨me_X2_read, q_in 468 rfl rfl, q_in 469 rfl rfl, q_in 470 rfl rfl, TX2, 2, rfl⟩
theorem k_X2_19 : q_CaV RX2 19 yX6_lives cX6_lives 2 (some .boolean) 1 4 := ⟨me_X6_lives, q_in 472 rfl rfl, q_in 307 rfl rfl, q_in 308 rfl rfl, TX6, 10, rfl⟩
theorem k_X9_190 : q_CaV RX9 190 yX2_befall cX2_befall 4 none 2 1 := ⟨me_X2_befall, q_in 473 rfl rfl, q_in 474 rfl rfl, q_in 475 rfl rfl, TX2, 2, rfl⟩
theorem k_X2_25 : q_CaV RX2 25 yX6_loses cX6_loses 3 none 2 4 := ⟨me_X6_loses, q_in 477 rfl rfl, q_in 330 rfl rfl, q_in 331 rfl rfl, TX6, 10, rfl⟩
theorem k_L_94 : q_CaV RL 94 yX9_rests cX9_rests 3 (some .int) 2 7 := ⟨me_X9_rests, q_in 478 rfl rfl, q_in 479 rfl rfl, q_in 480 rfl rfl, TX9, 11, rfl⟩
theorem k_X9_194 : q_CaS RX9 194 yX1_countRests cX1_countRests 4 (some .int) 1 := ⟨me_X1_countRests, q_in 482 rfl rfl, q_in 483 rfl rfl⟩
theorem k_X1_11 : q_CaS RX1 11 yX1_isAtRest cX1_isAtRest 4 (some .boolean) 3 := ⟨me_X1_isAtRest, q_in 485 rfl rfl, q_in 486 rfl rfl⟩
theorem k_X1_15 : q_CaS RX1 15 yX1_holderHas cX1_holderHas 2 (some .int) 2 := ⟨me_X1_holderHas, q_in 488 rfl rfl, q_in 489 rfl rfl⟩
theorem k_X1_19 : q_CaS RX1 19 yX1_heirHas cX1_heirHas 3 (some .int) 3 := ⟨me_X1_heirHas, q_in 491 rfl rfl, q_in 492 rfl rfl⟩
theorem k_X9_199 : q_CaS RX9 199 yX1_firstRest cX1_firstRest 3 (some .int) 1 := ⟨me_X1_firstRest, q_in 494 rfl rfl, q_in 495 rfl rfl⟩
theorem k_L_98 : q_CaV RL 98 yX9_odds cX9_odds 4 (some .int) 2 7 := ⟨me_X9_odds, q_in 497 rfl rfl, q_in 498 rfl rfl, q_in 499 rfl rfl, TX9, 11, rfl⟩
theorem k_X9_202 : q_CaS RX9 202 yX4_part cX4_part 4 (some .int) 3 := ⟨me_X4_part, q_in 501 rfl rfl, q_in 502 rfl rfl⟩
theorem k_X4_7 : q_CaS RX4 7 yX4_greatestCommon cX4_greatestCommon 6 (some .int) 2 := ⟨me_X4_greatestCommon, q_in 504 rfl rfl, q_in 505 rfl rfl⟩
theorem k_X9_208 : q_CaS RX9 208 yJ6_bitCount_0f7a4 cJ6_bitCount_0f7a4 1 (some .int) 1 := ⟨me_J6_bitCount_0f7a4, q_in 507 rfl rfl, q_in 508 rfl rfl⟩
theorem k_X9_213 : q_CaS RX9 213 yX7_ofSoMany cX7_ofSoMany 3 (some .int) 1 := ⟨me_X7_ofSoMany, q_in 513 rfl rfl, q_in 514 rfl rfl⟩
theorem k_X9_216 : q_CaV RX9 216 yX7_inWhichHolds cX7_inWhichHolds 7 (some .int) 2 5 := ⟨me_X7_inWhichHolds, q_in 516 rfl rfl, q_in 517 rfl rfl, q_in 518 rfl rfl, TX7, 2, rfl⟩
theorem k_X7_22 : q_CaV RX7 22 yX7_begin cX7_begin 3 none 1 5 := ⟨me_X7_begin, q_in 520 rfl rfl, q_in 522 rfl rfl, q_in 6 rfl rfl, TX7, 2, rfl⟩
theorem k_X7_51 : q_CaS RX7 51 yJ7_fill_53178 cJ7_fill_53178 4 none 2 := ⟨me_J7_fill_53178, q_in 524 rfl rfl, q_in 525 rfl rfl⟩
theorem k_X7_60 : q_CaV RX7 60 yX5_listHeirs cX5_listHeirs 6 none 3 3 := ⟨me_X5_listHeirs, q_in 527 rfl rfl, q_in 335 rfl rfl, q_in 336 rfl rfl, TX5, 3, rfl⟩
theorem k_X7_67 : q_CaV RX7 67 yX7_add cX7_add 4 none 3 5 := ⟨me_X7_add, q_in 528 rfl rfl, q_in 530 rfl rfl, q_in 7 rfl rfl, TX7, 2, rfl⟩
theorem k_X7_38 : q_CaS RX7 38 yJ6_bitCount_0f7a4 cJ6_bitCount_0f7a4 1 (some .int) 1 := ⟨me_J6_bitCount_0f7a4, q_in 533 rfl rfl, q_in 508 rfl rfl⟩
theorem k_X7_44 : q_CaS RX7 44 yX7_ofSoMany cX7_ofSoMany 3 (some .int) 1 := ⟨me_X7_ofSoMany, q_in 534 rfl rfl, q_in 514 rfl rfl⟩
theorem k_X7_47 : q_CaV RX7 47 yX7_goOn cX7_goOn 7 none 4 5 := ⟨me_X7_goOn, q_in 535 rfl rfl, q_in 537 rfl rfl, q_in 8 rfl rfl, TX7, 2, rfl⟩
theorem k_X7_71 : q_CaV RX7 71 yX5_firstOf cX5_firstOf 3 (some .int) 1 3 := ⟨me_X5_firstOf, q_in 539 rfl rfl, q_in 358 rfl rfl, q_in 359 rfl rfl, TX5, 3, rfl⟩
theorem k_L_103 : q_CaV RL 103 yX9_lender cX9_lender 8 (some .int) 3 7 := ⟨me_X9_lender, q_in 540 rfl rfl, q_in 541 rfl rfl, q_in 542 rfl rfl, TX9, 11, rfl⟩
theorem k_L_110 : q_CaV RL 110 yX9_seed cX9_seed 5 (some .long) 1 7 := ⟨me_X9_seed, q_in 545 rfl rfl, q_in 546 rfl rfl, q_in 547 rfl rfl, TX9, 11, rfl⟩
theorem k_L_115 : q_CaV RL 115 yX9_families cX9_families 6 (some .int) 1 7 := ⟨me_X9_families, q_in 549 rfl rfl, q_in 550 rfl rfl, q_in 551 rfl rfl, TX9, 11, rfl⟩
theorem k_L_119 : q_CaV RL 119 yX9_keep cX9_keep 2 (some .int) 1 7 := ⟨me_X9_keep, q_in 556 rfl rfl, q_in 557 rfl rfl, q_in 558 rfl rfl, TX9, 11, rfl⟩
theorem k_X9_235 : q_CaS RX9 235 yX9_isSlot cX9_isSlot 1 (some .boolean) 1 := ⟨me_X9_isSlot, q_in 560 rfl rfl, q_in 561 rfl rfl⟩
theorem k_L_123 : q_CaV RL 123 yX9_again cX9_again 2 (some .int) 1 7 := ⟨me_X9_again, q_in 563 rfl rfl, q_in 564 rfl rfl, q_in 565 rfl rfl, TX9, 11, rfl⟩
theorem k_L_17 : q_CaV RL 17 yX10_write cX10_write 2 (some .int) 1 8 := ⟨me_X10_write, q_in 643 rfl rfl, q_in 644 rfl rfl, q_in 645 rfl rfl, TX10, 23, rfl⟩
theorem k_X10_45 : q_CaS RX10 45 yX10_in cX10_in 6 (some .boolean) 3 := ⟨me_X10_in, q_in 648 rfl rfl, q_in 649 rfl rfl⟩
theorem k_L_22 : q_CaV RL 22 yX10_wipe cX10_wipe 2 (some .int) 0 8 := ⟨me_X10_wipe, q_in 651 rfl rfl, q_in 652 rfl rfl, q_in 653 rfl rfl, TX10, 23, rfl⟩
theorem k_L_26 : q_CaV RL 26 yX10_fault cX10_fault 1 (some .int) 0 8 := ⟨me_X10_fault, q_in 655 rfl rfl, q_in 656 rfl rfl, q_in 657 rfl rfl, TX10, 23, rfl⟩
theorem k_X10_75 : q_CaV RX10 75 yX10_readLand cX10_readLand 1 (some .int) 0 8 := ⟨me_X10_readLand, q_in 659 rfl rfl, q_in 661 rfl rfl, q_in 9 rfl rfl, TX10, 23, rfl⟩
theorem k_X10_62 : q_CaV RX10 62 yX10_figure cX10_figure 3 (some .int) 2 8 := ⟨me_X10_figure, q_in 663 rfl rfl, q_in 665 rfl rfl, q_in 10 rfl rfl, TX10, 23, rfl⟩
theorem k_X10_72 : q_CaV RX10 72 yX10_readPerson cX10_readPerson 4 (some .boolean) 0 8 := ⟨me_X10_readPerson, q_in 667 rfl rfl, q_in 669 rfl rfl, q_in 11 rfl rfl, TX10, 23, rfl⟩
theorem k_L_30 : q_CaV RL 30 yX10_land cX10_land 2 (some .int) 0 8 := ⟨me_X10_land, q_in 671 rfl rfl, q_in 672 rfl rfl, q_in 673 rfl rfl, TX10, 23, rfl⟩
theorem k_L_34 : q_CaV RL 34 yX10_about cX10_about 2 (some .int) 1 8 := ⟨me_X10_about, q_in 675 rfl rfl, q_in 676 rfl rfl, q_in 677 rfl rfl, TX10, 23, rfl⟩
theorem k_L_39 : q_CaV RL 39 yX10_person cX10_person 3 (some .int) 2 8 := ⟨me_X10_person, q_in 679 rfl rfl, q_in 680 rfl rfl, q_in 681 rfl rfl, TX10, 23, rfl⟩
theorem k_X10_104 : q_CaV RX10 104 yX10_noPerson cX10_noPerson 2 (some .boolean) 1 8 := ⟨me_X10_noPerson, q_in 683 rfl rfl, q_in 685 rfl rfl, q_in 12 rfl rfl, TX10, 23, rfl⟩
theorem k_X10_89 : q_CaV RX10 89 yX10_childrenOf cX10_childrenOf 5 (some .int) 2 8 := ⟨me_X10_childrenOf, q_in 687 rfl rfl, q_in 689 rfl rfl, q_in 13 rfl rfl, TX10, 23, rfl⟩
theorem k_L_43 : q_CaV RL 43 yX10_die cX10_die 2 (some .int) 1 8 := ⟨me_X10_die, q_in 691 rfl rfl, q_in 692 rfl rfl, q_in 693 rfl rfl, TX10, 23, rfl⟩
theorem k_X10_82 : q_CaS RX10 82 yX10_has cX10_has 2 (some .boolean) 2 := ⟨me_X10_has, q_in 695 rfl rfl, q_in 696 rfl rfl⟩
theorem k_X10_112 : q_CaV RX10 112 yX10_note cX10_note 2 none 0 8 := ⟨me_X10_note, q_in 698 rfl rfl, q_in 700 rfl rfl, q_in 14 rfl rfl, TX10, 23, rfl⟩
theorem k_X10_115 : q_CaV RX10 115 yX10_goDie cX10_goDie 3 none 2 8 := ⟨me_X10_goDie, q_in 702 rfl rfl, q_in 704 rfl rfl, q_in 15 rfl rfl, TX10, 23, rfl⟩
theorem k_X10_108 : q_CaV RX10 108 yX10_heirOf cX10_heirOf 8 (some .int) 3 8 := ⟨me_X10_heirOf, q_in 706 rfl rfl, q_in 708 rfl rfl, q_in 16 rfl rfl, TX10, 23, rfl⟩
theorem k_X10_93 : q_CaV RX10 93 yX10_isAhead cX10_isAhead 8 (some .boolean) 4 8 := ⟨me_X10_isAhead, q_in 710 rfl rfl, q_in 712 rfl rfl, q_in 17 rfl rfl, TX10, 23, rfl⟩
theorem k_X10_97 : q_CaV RX10 97 yX10_layLine cX10_layLine 10 none 3 8 := ⟨me_X10_layLine, q_in 714 rfl rfl, q_in 716 rfl rfl, q_in 18 rfl rfl, TX10, 23, rfl⟩
theorem k_X10_101 : q_CaV RX10 101 yX10_firstOf cX10_firstOf 4 (some .int) 2 8 := ⟨me_X10_firstOf, q_in 718 rfl rfl, q_in 720 rfl rfl, q_in 19 rfl rfl, TX10, 23, rfl⟩
theorem k_L_47 : q_CaV RL 47 yX10_bear cX10_bear 4 (some .int) 2 8 := ⟨me_X10_bear, q_in 722 rfl rfl, q_in 723 rfl rfl, q_in 724 rfl rfl, TX10, 23, rfl⟩
theorem k_L_51 : q_CaV RL 51 yX10_cut cX10_cut 2 (some .int) 1 8 := ⟨me_X10_cut, q_in 726 rfl rfl, q_in 727 rfl rfl, q_in 728 rfl rfl, TX10, 23, rfl⟩
theorem k_L_55 : q_CaV RL 55 yX10_borrow cX10_borrow 2 (some .int) 1 8 := ⟨me_X10_borrow, q_in 731 rfl rfl, q_in 732 rfl rfl, q_in 733 rfl rfl, TX10, 23, rfl⟩
theorem k_L_59 : q_CaV RL 59 yX10_breakTie cX10_breakTie 3 (some .int) 1 8 := ⟨me_X10_breakTie, q_in 735 rfl rfl, q_in 736 rfl rfl, q_in 737 rfl rfl, TX10, 23, rfl⟩
theorem k_X10_121 : q_CaS RX10 121 yX10_noTie cX10_noTie 1 (some .boolean) 1 := ⟨me_X10_noTie, q_in 739 rfl rfl, q_in 740 rfl rfl⟩
theorem k_X10_124 : q_CaV RX10 124 yX10_isOfAge cX10_isOfAge 2 (some .boolean) 0 8 := ⟨me_X10_isOfAge, q_in 743 rfl rfl, q_in 745 rfl rfl, q_in 20 rfl rfl, TX10, 23, rfl⟩
theorem k_L_63 : q_CaV RL 63 yX10_tens cX10_tens 2 (some .int) 0 8 := ⟨me_X10_tens, q_in 747 rfl rfl, q_in 748 rfl rfl, q_in 749 rfl rfl, TX10, 23, rfl⟩
theorem k_L_67 : q_CaV RL 67 yX10_undo cX10_undo 2 (some .int) 0 8 := ⟨me_X10_undo, q_in 751 rfl rfl, q_in 752 rfl rfl, q_in 753 rfl rfl, TX10, 23, rfl⟩
theorem k_L_71 : q_CaV RL 71 yX10_heir cX10_heir 3 (some .int) 2 8 := ⟨me_X10_heir, q_in 755 rfl rfl, q_in 756 rfl rfl, q_in 757 rfl rfl, TX10, 23, rfl⟩
theorem k_L_76 : q_CaV RL 76 yX10_line cX10_line 6 (some .int) 3 8 := ⟨me_X10_line, q_in 759 rfl rfl, q_in 760 rfl rfl, q_in 761 rfl rfl, TX10, 23, rfl⟩
theorem k_L_80 : q_CaV RL 80 yX10_next cX10_next 3 (some .int) 1 8 := ⟨me_X10_next, q_in 763 rfl rfl, q_in 764 rfl rfl, q_in 765 rfl rfl, TX10, 23, rfl⟩
theorem k_X10_127 : q_CaV RX10 127 yX10_begin cX10_begin 2 none 0 8 := ⟨me_X10_begin, q_in 767 rfl rfl, q_in 769 rfl rfl, q_in 21 rfl rfl, TX10, 23, rfl⟩
theorem k_L_84 : q_CaV RL 84 yX10_ever cX10_ever 5 (some .int) 1 8 := ⟨me_X10_ever, q_in 771 rfl rfl, q_in 772 rfl rfl, q_in 773 rfl rfl, TX10, 23, rfl⟩
theorem k_L_89 : q_CaV RL 89 yX10_best cX10_best 4 (some .int) 3 8 := ⟨me_X10_best, q_in 775 rfl rfl, q_in 776 rfl rfl, q_in 777 rfl rfl, TX10, 23, rfl⟩
theorem k_X10_141 : q_CaV RX10 141 yX10_findBest cX10_findBest 10 none 2 8 := ⟨me_X10_findBest, q_in 780 rfl rfl, q_in 782 rfl rfl, q_in 22 rfl rfl, TX10, 23, rfl⟩
theorem k_X10_136 : q_CaS RX10 136 yX10_power cX10_power 4 (some .int) 2 := ⟨me_X10_power, q_in 784 rfl rfl, q_in 785 rfl rfl⟩
theorem k_L_93 : q_CaV RL 93 yX10_ties cX10_ties 7 (some .int) 3 8 := ⟨me_X10_ties, q_in 787 rfl rfl, q_in 788 rfl rfl, q_in 789 rfl rfl, TX10, 23, rfl⟩
theorem k_X10_145 : q_CaV RX10 145 yX10_noDeaths cX10_noDeaths 7 (some .boolean) 2 8 := ⟨me_X10_noDeaths, q_in 791 rfl rfl, q_in 793 rfl rfl, q_in 23 rfl rfl, TX10, 23, rfl⟩
theorem k_L_97 : q_CaV RL 97 yX10_rests cX10_rests 3 (some .int) 2 8 := ⟨me_X10_rests, q_in 795 rfl rfl, q_in 796 rfl rfl, q_in 797 rfl rfl, TX10, 23, rfl⟩
theorem k_X10_158 : q_CaV RX10 158 yX10_findRests cX10_findRests 6 none 1 8 := ⟨me_X10_findRests, q_in 799 rfl rfl, q_in 801 rfl rfl, q_in 24 rfl rfl, TX10, 23, rfl⟩
theorem k_X10_154 : q_CaS RX10 154 yX10_gainOf cX10_gainOf 4 (some .int) 4 := ⟨me_X10_gainOf, q_in 803 rfl rfl, q_in 804 rfl rfl⟩
theorem k_L_102 : q_CaV RL 102 yX10_odds cX10_odds 8 (some .int) 2 8 := ⟨me_X10_odds, q_in 806 rfl rfl, q_in 807 rfl rfl, q_in 808 rfl rfl, TX10, 23, rfl⟩
theorem k_X10_165 : q_CaV RX10 165 yX10_goOn cX10_goOn 9 none 5 8 := ⟨me_X10_goOn, q_in 810 rfl rfl, q_in 812 rfl rfl, q_in 25 rfl rfl, TX10, 23, rfl⟩
theorem k_X10_169 : q_CaS RX10 169 yX10_fraction cX10_fraction 4 (some .int) 3 := ⟨me_X10_fraction, q_in 814 rfl rfl, q_in 815 rfl rfl⟩
theorem k_X10_162 : q_CaS RX10 162 yX10_divisor cX10_divisor 5 (some .int) 2 := ⟨me_X10_divisor, q_in 817 rfl rfl, q_in 818 rfl rfl⟩
theorem k_L_107 : q_CaV RL 107 yX10_lender cX10_lender 8 (some .int) 3 8 := ⟨me_X10_lender, q_in 820 rfl rfl, q_in 821 rfl rfl, q_in 822 rfl rfl, TX10, 23, rfl⟩
theorem k_L_114 : q_CaV RL 114 yX10_seed cX10_seed 5 (some .long) 1 8 := ⟨me_X10_seed, q_in 825 rfl rfl, q_in 826 rfl rfl, q_in 827 rfl rfl, TX10, 23, rfl⟩
theorem k_L_118 : q_CaV RL 118 yX10_families cX10_families 6 (some .int) 1 8 := ⟨me_X10_families, q_in 829 rfl rfl, q_in 830 rfl rfl, q_in 831 rfl rfl, TX10, 23, rfl⟩
theorem k_L_122 : q_CaV RL 122 yX10_keep cX10_keep 3 (some .int) 1 8 := ⟨me_X10_keep, q_in 837 rfl rfl, q_in 838 rfl rfl, q_in 839 rfl rfl, TX10, 23, rfl⟩
theorem k_L_126 : q_CaV RL 126 yX10_again cX10_again 3 (some .int) 1 8 := ⟨me_X10_again, q_in 841 rfl rfl, q_in 842 rfl rfl, q_in 843 rfl rfl, TX10, 23, rfl⟩
theorem kM_min_s : Cond.static Lib.Math.min.name ∈ q_U := q_in 396 rfl rfl
theorem kM_min_c : Cond.code Lib.Math.min.name Lib.Math.min.code 2 (some .int) ∈ q_U := q_in 397 (by decide +kernel) rfl
theorem k_X6_66 : Cond.methodLink RX6 66 Lib.Math.min.name ∈ q_U := q_in 395 rfl rfl
theorem k_X3_24 : Cond.methodLink RX3 24 Lib.Math.min.name ∈ q_U := q_in 454 rfl rfl
theorem k_X7_32 : Cond.methodLink RX7 32 Lib.Math.min.name ∈ q_U := q_in 532 rfl rfl
theorem k_X9_220 : Cond.methodLink RX9 220 Lib.Math.min.name ∈ q_U := q_in 544 rfl rfl
theorem kM_max_s : Cond.static Lib.Math.max.name ∈ q_U := q_in 255 rfl rfl
theorem kM_max_c : Cond.code Lib.Math.max.name Lib.Math.max.code 2 (some .int) ∈ q_U := q_in 256 (by decide +kernel) rfl
theorem k_X8_26 : Cond.methodLink RX8 26 Lib.Math.max.name ∈ q_U := q_in 254 rfl rfl
theorem kM_i : Cond.initialized "java/lang/Math" ∈ q_U := q_in 36 rfl rfl
theorem k_X6_43 : Cond.methodLink RX6 43 arraycopyName ∈ q_U := q_in 326 rfl rfl
theorem kA_static : Cond.static arraycopyName ∈ q_U := q_in 327 rfl rfl
theorem kA_native : Cond.native arraycopyName ∈ q_U := q_in 328 rfl rfl
theorem kA_i : Cond.initialized "java/lang/System" ∈ q_U := q_in 37 rfl rfl
theorem c_J6_265 : Cond.constant RJ6 265 1431655765 ∈ q_U := q_in 510 rfl rfl
theorem c_J6_266 : Cond.constant RJ6 266 858993459 ∈ q_U := q_in 511 rfl rfl
theorem c_J6_267 : Cond.constant RJ6 267 252645135 ∈ q_U := q_in 512 rfl rfl
theorem c_X9_229 : Cond.constantLong RX9 229 6364136223846793005 ∈ q_U := q_in 553 rfl rfl
theorem c_X9_231 : Cond.constantLong RX9 231 1442695040888963407 ∈ q_U := q_in 554 rfl rfl
theorem c_X9_233 : Cond.constantLong RX9 233 10 ∈ q_U := q_in 555 rfl rfl
theorem c_X10_51 : Cond.constantLong RX10 51 255 ∈ q_U := q_in 647 rfl rfl
theorem c_X10_119 : Cond.constantLong RX10 119 9 ∈ q_U := q_in 730 rfl rfl
theorem c_X10_49 : Cond.constantLong RX10 49 3 ∈ q_U := q_in 742 rfl rfl
theorem c_X10_139 : Cond.constantLong RX10 139 4 ∈ q_U := q_in 779 rfl rfl
theorem c_X10_173 : Cond.constantLong RX10 173 5 ∈ q_U := q_in 824 rfl rfl
theorem c_X10_179 : Cond.constantLong RX10 179 20 ∈ q_U := q_in 833 rfl rfl
theorem c_X10_181 : Cond.constantLong RX10 181 6364136223846793005 ∈ q_U := q_in 834 rfl rfl
theorem c_X10_183 : Cond.constantLong RX10 183 1442695040888963407 ∈ q_U := q_in 835 rfl rfl
theorem c_X10_185 : Cond.constantLong RX10 185 10 ∈ q_U := q_in 836 rfl rfl
theorem c_L_108 : Cond.constantLong RL 108 4294967295 ∈ q_U := q_in 845 rfl rfl
end
section
/-- the shape of all places, once both objects are made: 0 the class's object, 89 the reference's -/
def SH : Shp := [(17, 11, [some 1, some 3, some 6, some 9, some 53, some 54, some 55, some 57, some 64, some 66, none]), (16, 2, [some 2, none]), (0, 40, []), (14, 10, [some 4, some 5, none, none, none, none, none, none, none, none]), (0, 7, []), (0, 7, []), (14, 10, [some 7, some 8, none, none, none, none, none, none, none, none]), (0, 7, []), (0, 7, []), (10, 3, [some 10, none, none]), (2, 14, [some 11, some 14, some 17, some 20, some 23, some 26, some 29, some 32, some 35, some 38, some 41, some 44, some 47, some 50]), (14, 10, [some 12, some 13, none, none, none, none, none, none, none, none]), (0, 7, []), (0, 7, []), (14, 10, [some 15, some 16, none, none, none, none, none, none, none, none]), (0, 7, []), (0, 7, []), (14, 10, [some 18, some 19, none, none, none, none, none, none, none, none]), (0, 7, []), (0, 7, []), (14, 10, [some 21, some 22, none, none, none, none, none, none, none, none]), (0, 7, []), (0, 7, []), (14, 10, [some 24, some 25, none, none, none, none, none, none, none, none]), (0, 7, []), (0, 7, []), (14, 10, [some 27, some 28, none, none, none, none, none, none, none, none]), (0, 7, []), (0, 7, []), (14, 10, [some 30, some 31, none, none, none, none, none, none, none, none]), (0, 7, []), (0, 7, []), (14, 10, [some 33, some 34, none, none, none, none, none, none, none, none]), (0, 7, []), (0, 7, []), (14, 10, [some 36, some 37, none, none, none, none, none, none, none, none]), (0, 7, []), (0, 7, []), (14, 10, [some 39, some 40, none, none, none, none, none, none, none, none]), (0, 7, []), (0, 7, []), (14, 10, [some 42, some 43, none, none, none, none, none, none, none, none]), (0, 7, []), (0, 7, []), (14, 10, [some 45, some 46, none, none, none, none, none, none, none, none]), (0, 7, []), (0, 7, []), (14, 10, [some 48, some 49, none, none, none, none, none, none, none, none]), (0, 7, []), (0, 7, []), (14, 10, [some 51, some 52, none, none, none, none, none, none, none, none]), (0, 7, []), (0, 7, []), (2, 2, [some 83, some 86]), (1, 2, []), (13, 3, [some 56, none, none]), (0, 7, []), (12, 1, [some 58]), (4, 5, [some 59, some 60, some 61, some 62, some 63]), (0, 10, []), (0, 10, []), (0, 10, []), (0, 10, []), (0, 10, []), (11, 2, [some 65, none]), (0, 4, []), (15, 2, [some 67, some 68]), (3, 7, [some 69, some 71, some 73, some 75, some 77, some 79, some 81]), (0, 896, []), (13, 3, [some 70, none, none]), (0, 7, []), (13, 3, [some 72, none, none]), (0, 7, []), (13, 3, [some 74, none, none]), (0, 7, []), (13, 3, [some 76, none, none]), (0, 7, []), (13, 3, [some 78, none, none]), (0, 7, []), (13, 3, [some 80, none, none]), (0, 7, []), (13, 3, [some 82, none, none]), (0, 7, []), (14, 10, [some 84, some 85, none, none, none, none, none, none, none, none]), (0, 7, []), (0, 7, []), (14, 10, [some 87, some 88, none, none, none, none, none, none, none, none]), (0, 7, []), (0, 7, []), (18, 23, [none, some 90, none, none, none, none, none, some 91, some 92, some 93, some 94, none, some 95, some 96, none, some 97, none, some 98, none, none, none, none, some 99]), (0, 40, []), (0, 21, []), (0, 22, []), (0, 22, []), (0, 308, []), (0, 44, []), (1, 2, []), (0, 8, []), (0, 8, []), (0, 2048, [])]
def q_lands : List Nat := [3, 6, 11, 14, 17, 20, 23, 26, 29, 32, 35, 38, 41, 44, 47, 50, 83, 86]
def q_kins : List Nat := [55, 69, 71, 73, 75, 77, 79, 81]
theorem SH_land {t : Nat} (h : t ∈ q_lands) : SH[t]? = some (14, 10, [some (t + 1), some (t + 2), none, none, none, none, none, none, none, none]) ∧ SH[t + 1]? = some (0, 7, []) ∧ SH[t + 2]? = some (0, 7, []) := by
  have : ∀ t ∈ q_lands, SH[t]? = some (14, 10, [some (t + 1), some (t + 2), none, none, none, none, none, none, none, none]) ∧ SH[t + 1]? = some (0, 7, []) ∧ SH[t + 2]? = some (0, 7, []) := by decide
  exact this t h
theorem SH_kin {t : Nat} (h : t ∈ q_kins) : SH[t]? = some (13, 3, [some (t + 1), none, none]) ∧ SH[t + 1]? = some (0, 7, []) := by
  have : ∀ t ∈ q_kins, SH[t]? = some (13, 3, [some (t + 1), none, none]) ∧ SH[t + 1]? = some (0, 7, []) := by decide
  exact this t h
/-- a method that makes nothing, from the whole shape: it answers r and leaves the memory I', J' -/
def q_E (y : MethodName) (cc : ByteArray) (nL : Nat) (ret : Option FieldType) (d : Nat) (av : List Value) (I : Mem) (J : Lng) (r : Option Value) (I' : Mem) (J' : Lng) : Prop := q_C y cc nL ret d 0 0 av SH I J (fun r1 σ1 I1 J1 => r1 = r ∧ σ1 = SH ∧ I1 = I' ∧ J1 = J')
/-- the same with a relation -/
def q_F (y : MethodName) (cc : ByteArray) (nL : Nat) (ret : Option FieldType) (d : Nat) (av : List Value) (I : Mem) (J : Lng) (Q : Option Value → Mem → Lng → Prop) : Prop := q_C y cc nL ret d 0 0 av SH I J (fun r1 σ1 I1 J1 => σ1 = SH ∧ Q r1 I1 J1)
/-- the walk of such a method -/
def q_w (own nm : String) (cc : ByteArray) (nL : Nat) (rop : Instr) (d : Nat) (Q : List Value → Mem → Lng → Prop) (pc : Nat) (L : List (Option Value)) (st : List Value) (I : Mem) (J : Lng) : Prop := q_WP own nm cc nL rop d 0 0 none (fun st σ I J k n => σ = SH ∧ k = 0 ∧ n = 0 ∧ Q st I J) 0 0 pc L st SH I J
end
section
section
variable {own nm : String} {cc : ByteArray} {nL : Nat} {rop : Instr} {d : Nat} {Q : List Value → Mem → Lng → Prop} {pc : Nat} {L : List (Option Value)} {st : List Value} {I : Mem} {J : Lng}
theorem w_iconst {a : Int} {v : Int32} (hd : decode cc pc = .ok (.iconst a, 1)) (hv : Int32.ofInt a = v) (K : q_w own nm cc nL rop d Q (pc + 1) L (.int v :: st) I J) : q_w own nm cc nL rop d Q pc L (st) I J := s_iconst hd hv K
theorem w_bipush {a : Int} {v : Int32} (hd : decode cc pc = .ok (.bipush a, 2)) (hv : (Int8.ofInt a).toInt32 = v) (K : q_w own nm cc nL rop d Q (pc + 2) L (.int v :: st) I J) : q_w own nm cc nL rop d Q pc L (st) I J := s_bipush hd hv K
theorem w_sipush {a : Int} {v : Int32} (hd : decode cc pc = .ok (.sipush a, 3)) (hv : (Int16.ofInt a).toInt32 = v) (K : q_w own nm cc nL rop d Q (pc + 3) L (.int v :: st) I J) : q_w own nm cc nL rop d Q pc L (st) I J := s_sipush hd hv K
theorem w_lconst {a : Fin 2} {v : Int64} (hd : decode cc pc = .ok (.lconst a, 1)) (hv : Int64.ofNat (a : Nat) = v) (K : q_w own nm cc nL rop d Q (pc + 1) L (.long v :: st) I J) : q_w own nm cc nL rop d Q pc L (st) I J := s_lconst hd hv K
theorem w_iadd {x y : Int32} (hd : decode cc pc = .ok (.iadd, 1)) (K : q_w own nm cc nL rop d Q (pc + 1) L (.int (x + y) :: st) I J) : q_w own nm cc nL rop d Q pc L (.int y :: .int x :: st) I J := s_iadd hd K
theorem w_isub {x y : Int32} (hd : decode cc pc = .ok (.isub, 1)) (K : q_w own nm cc nL rop d Q (pc + 1) L (.int (x - y) :: st) I J) : q_w own nm cc nL rop d Q pc L (.int y :: .int x :: st) I J := s_isub hd K
theorem w_imul {x y : Int32} (hd : decode cc pc = .ok (.imul, 1)) (K : q_w own nm cc nL rop d Q (pc + 1) L (.int (x * y) :: st) I J) : q_w own nm cc nL rop d Q pc L (.int y :: .int x :: st) I J := s_imul hd K
theorem w_iand {x y : Int32} (hd : decode cc pc = .ok (.iand, 1)) (K : q_w own nm cc nL rop d Q (pc + 1) L (.int (x &&& y) :: st) I J) : q_w own nm cc nL rop d Q pc L (.int y :: .int x :: st) I J := s_iand hd K
theorem w_ior {x y : Int32} (hd : decode cc pc = .ok (.ior, 1)) (K : q_w own nm cc nL rop d Q (pc + 1) L (.int (x ||| y) :: st) I J) : q_w own nm cc nL rop d Q pc L (.int y :: .int x :: st) I J := s_ior hd K
theorem w_ixor {x y : Int32} (hd : decode cc pc = .ok (.ixor, 1)) (K : q_w own nm cc nL rop d Q (pc + 1) L (.int (x ^^^ y) :: st) I J) : q_w own nm cc nL rop d Q pc L (.int y :: .int x :: st) I J := s_ixor hd K
theorem w_idiv {x y : Int32} (hd : decode cc pc = .ok (.idiv, 1)) (hne : ¬ y = 0) (K : q_w own nm cc nL rop d Q (pc + 1) L (.int (x / y) :: st) I J) : q_w own nm cc nL rop d Q pc L (.int y :: .int x :: st) I J := s_idiv hd hne K
theorem w_irem {x y : Int32} (hd : decode cc pc = .ok (.irem, 1)) (hne : ¬ y = 0) (K : q_w own nm cc nL rop d Q (pc + 1) L (.int (x - x / y * y) :: st) I J) : q_w own nm cc nL rop d Q pc L (.int y :: .int x :: st) I J := s_irem hd hne K
theorem w_ineg {x : Int32} (hd : decode cc pc = .ok (.ineg, 1)) (K : q_w own nm cc nL rop d Q (pc + 1) L (.int (-x) :: st) I J) : q_w own nm cc nL rop d Q pc L (.int x :: st) I J := s_ineg hd K
theorem w_ladd {x y : Int64} (hd : decode cc pc = .ok (.ladd, 1)) (K : q_w own nm cc nL rop d Q (pc + 1) L (.long (x + y) :: st) I J) : q_w own nm cc nL rop d Q pc L (.long y :: .long x :: st) I J := s_ladd hd K
theorem w_lmul {x y : Int64} (hd : decode cc pc = .ok (.lmul, 1)) (K : q_w own nm cc nL rop d Q (pc + 1) L (.long (x * y) :: st) I J) : q_w own nm cc nL rop d Q pc L (.long y :: .long x :: st) I J := s_lmul hd K
theorem w_land {x y : Int64} (hd : decode cc pc = .ok (.land, 1)) (K : q_w own nm cc nL rop d Q (pc + 1) L (.long (x &&& y) :: st) I J) : q_w own nm cc nL rop d Q pc L (.long y :: .long x :: st) I J := s_land hd K
theorem w_lor {x y : Int64} (hd : decode cc pc = .ok (.lor, 1)) (K : q_w own nm cc nL rop d Q (pc + 1) L (.long (x ||| y) :: st) I J) : q_w own nm cc nL rop d Q pc L (.long y :: .long x :: st) I J := s_lor hd K
theorem w_lrem {x y : Int64} (hd : decode cc pc = .ok (.lrem, 1)) (hne : ¬ y = 0) (K : q_w own nm cc nL rop d Q (pc + 1) L (.long (x - x / y * y) :: st) I J) : q_w own nm cc nL rop d Q pc L (.long y :: .long x :: st) I J := s_lrem hd hne K
theorem w_ishl {x y : Int32} (hd : decode cc pc = .ok (.ishl, 1)) (K : q_w own nm cc nL rop d Q (pc + 1) L (.int (x <<< (y &&& 31)) :: st) I J) : q_w own nm cc nL rop d Q pc L (.int y :: .int x :: st) I J := s_ishl hd K
theorem w_ishr {x y : Int32} (hd : decode cc pc = .ok (.ishr, 1)) (K : q_w own nm cc nL rop d Q (pc + 1) L (.int (x >>> (y &&& 31)) :: st) I J) : q_w own nm cc nL rop d Q pc L (.int y :: .int x :: st) I J := s_ishr hd K
theorem w_iushr {x y : Int32} (hd : decode cc pc = .ok (.iushr, 1)) (K : q_w own nm cc nL rop d Q (pc + 1) L (.int ((x.toUInt32 >>> (y.toUInt32 &&& Int32.toUInt32 31)).toInt32) :: st) I J) : q_w own nm cc nL rop d Q pc L (.int y :: .int x :: st) I J := s_iushr hd K
theorem w_i2l {x : Int32} (hd : decode cc pc = .ok (.i2l, 1)) (K : q_w own nm cc nL rop d Q (pc + 1) L (.long x.toInt64 :: st) I J) : q_w own nm cc nL rop d Q pc L (.int x :: st) I J := s_i2l hd K
theorem w_l2i {x : Int64} (hd : decode cc pc = .ok (.l2i, 1)) (K : q_w own nm cc nL rop d Q (pc + 1) L (.int x.toInt32 :: st) I J) : q_w own nm cc nL rop d Q pc L (.long x :: st) I J := s_l2i hd K
theorem w_lushr {x : Int64} {y : Int32} (hd : decode cc pc = .ok (.lushr, 1)) (K : q_w own nm cc nL rop d Q (pc + 1) L (.long ((x.toUInt64 >>> (y.toInt64.toUInt64 &&& Int64.toUInt64 63)).toInt64) :: st) I J) : q_w own nm cc nL rop d Q pc L (.int y :: .long x :: st) I J := s_lushr hd K
theorem w_lshl {x : Int64} {y : Int32} (hd : decode cc pc = .ok (.lshl, 1)) (K : q_w own nm cc nL rop d Q (pc + 1) L (.long (x <<< (y.toInt64 &&& 63)) :: st) I J) : q_w own nm cc nL rop d Q pc L (.int y :: .long x :: st) I J := s_lshl hd K
theorem w_lcmp {x y : Int64} (hd : decode cc pc = .ok (.lcmp, 1)) (K : q_w own nm cc nL rop d Q (pc + 1) L (.int (lg_cmp x y) :: st) I J) : q_w own nm cc nL rop d Q pc L (.long y :: .long x :: st) I J := s_lcmp hd K
theorem w_dup {v : Value} (hd : decode cc pc = .ok (.dup, 1)) (hc : v.category = 1) (K : q_w own nm cc nL rop d Q (pc + 1) L (v :: v :: st) I J) : q_w own nm cc nL rop d Q pc L (v :: st) I J := s_dup hd hc K
theorem w_dup2 {v w : Value} (hd : decode cc pc = .ok (.dup2, 1)) (hc : v.category = 1) (hc2 : w.category = 1) (K : q_w own nm cc nL rop d Q (pc + 1) L (v :: w :: v :: w :: st) I J) : q_w own nm cc nL rop d Q pc L (v :: w :: st) I J := s_dup2 hd hc hc2 K
theorem w_pop {v : Value} (hd : decode cc pc = .ok (.pop, 1)) (hc : v.category = 1) (K : q_w own nm cc nL rop d Q (pc + 1) L (st) I J) : q_w own nm cc nL rop d Q pc L (v :: st) I J := s_pop hd hc K
theorem w_iload_n {a : Fin 4} {x : Int32} (hd : decode cc pc = .ok (.iload_n a, 1)) (hv : L[(a : Nat)]? = some (some (.int x))) (K : q_w own nm cc nL rop d Q (pc + 1) L (.int x :: st) I J) : q_w own nm cc nL rop d Q pc L (st) I J := s_iload_n hd hv K
theorem w_iload {a : Nat} {x : Int32} (hd : decode cc pc = .ok (.iload a, 2)) (hv : L[a]? = some (some (.int x))) (K : q_w own nm cc nL rop d Q (pc + 2) L (.int x :: st) I J) : q_w own nm cc nL rop d Q pc L (st) I J := s_iload hd hv K
theorem w_lload_n {a : Fin 4} {x : Int64} (hd : decode cc pc = .ok (.lload_n a, 1)) (hv : L[(a : Nat)]? = some (some (.long x))) (K : q_w own nm cc nL rop d Q (pc + 1) L (.long x :: st) I J) : q_w own nm cc nL rop d Q pc L (st) I J := s_lload_n hd hv K
theorem w_lload {a : Nat} {x : Int64} (hd : decode cc pc = .ok (.lload a, 2)) (hv : L[a]? = some (some (.long x))) (K : q_w own nm cc nL rop d Q (pc + 2) L (.long x :: st) I J) : q_w own nm cc nL rop d Q pc L (st) I J := s_lload hd hv K
theorem w_aload_n {a : Fin 4} {x : Nat} (hd : decode cc pc = .ok (.aload_n a, 1)) (hv : L[(a : Nat)]? = some (some (.ref x))) (K : q_w own nm cc nL rop d Q (pc + 1) L (.ref x :: st) I J) : q_w own nm cc nL rop d Q pc L (st) I J := s_aload_n hd hv K
theorem w_aload_x {a : Fin 4} (hd : decode cc pc = .ok (.aload_n a, 1)) (hv : L[(a : Nat)]? = some (some .null)) (K : q_w own nm cc nL rop d Q (pc + 1) L (.null :: st) I J) : q_w own nm cc nL rop d Q pc L (st) I J := s_aload_x hd hv K
theorem w_istore_n {a : Fin 4} {x : Int32} (hd : decode cc pc = .ok (.istore_n a, 1)) (hn : (a : Nat) < nL) (ho : q_ok L (a : Nat) = true) (K : q_w own nm cc nL rop d Q (pc + 1) (L.set (a : Nat) (some (.int x))) st I J) : q_w own nm cc nL rop d Q pc L (.int x :: st) I J := s_istore_n hd hn ho K
theorem w_istore {a : Nat} {x : Int32} (hd : decode cc pc = .ok (.istore a, 2)) (hn : a < nL) (ho : q_ok L a = true) (K : q_w own nm cc nL rop d Q (pc + 2) (L.set a (some (.int x))) st I J) : q_w own nm cc nL rop d Q pc L (.int x :: st) I J := s_istore hd hn ho K
theorem w_astore_n {a : Fin 4} {x : Nat} (hd : decode cc pc = .ok (.astore_n a, 1)) (hn : (a : Nat) < nL) (ho : q_ok L (a : Nat) = true) (K : q_w own nm cc nL rop d Q (pc + 1) (L.set (a : Nat) (some (.ref x))) st I J) : q_w own nm cc nL rop d Q pc L (.ref x :: st) I J := s_astore_n hd hn ho K
theorem w_lstore_n {a : Fin 4} {x : Int64} (hd : decode cc pc = .ok (.lstore_n a, 1)) (hn : (a : Nat) + 1 < nL) (ho : q_ok L (a : Nat) = true) (K : q_w own nm cc nL rop d Q (pc + 1) ((L.set (a : Nat) (some (.long x))).set ((a : Nat) + 1) none) st I J) : q_w own nm cc nL rop d Q pc L (.long x :: st) I J := s_lstore_n hd hn ho K
theorem w_iinc {a : Nat} {i : Int} {x : Int32} (hd : decode cc pc = .ok (.iinc a i, 3)) (hv : L[a]? = some (some (.int x))) (hn : a < nL) (ho : q_ok L a = true) (K : q_w own nm cc nL rop d Q (pc + 3) (L.set a (some (.int (x + Int32.ofInt i)))) st I J) : q_w own nm cc nL rop d Q pc L st I J := s_iinc hd hv hn ho K
theorem w_if_eq {x : Int32} {off : Int} {tgt : Nat} (hd : decode cc pc = .ok (.ifCond .eq off, 3)) (ht : (pc : Int) + off = (tgt : Int)) (Kt : x = 0 → q_w own nm cc nL rop d Q tgt L st I J) (Kf : ¬ x = 0 → q_w own nm cc nL rop d Q (pc + 3) L st I J) : q_w own nm cc nL rop d Q pc L (.int x :: st) I J := s_if_eq hd ht Kt Kf
theorem w_icmp_eq {x y : Int32} {off : Int} {tgt : Nat} (hd : decode cc pc = .ok (.if_icmp .eq off, 3)) (ht : (pc : Int) + off = (tgt : Int)) (Kt : x = y → q_w own nm cc nL rop d Q tgt L st I J) (Kf : ¬ x = y → q_w own nm cc nL rop d Q (pc + 3) L st I J) : q_w own nm cc nL rop d Q pc L (.int y :: .int x :: st) I J := s_icmp_eq hd ht Kt Kf
theorem w_if_ne {x : Int32} {off : Int} {tgt : Nat} (hd : decode cc pc = .ok (.ifCond .ne off, 3)) (ht : (pc : Int) + off = (tgt : Int)) (Kt : ¬ x = 0 → q_w own nm cc nL rop d Q tgt L st I J) (Kf : x = 0 → q_w own nm cc nL rop d Q (pc + 3) L st I J) : q_w own nm cc nL rop d Q pc L (.int x :: st) I J := s_if_ne hd ht Kt Kf
theorem w_icmp_ne {x y : Int32} {off : Int} {tgt : Nat} (hd : decode cc pc = .ok (.if_icmp .ne off, 3)) (ht : (pc : Int) + off = (tgt : Int)) (Kt : ¬ x = y → q_w own nm cc nL rop d Q tgt L st I J) (Kf : x = y → q_w own nm cc nL rop d Q (pc + 3) L st I J) : q_w own nm cc nL rop d Q pc L (.int y :: .int x :: st) I J := s_icmp_ne hd ht Kt Kf
theorem w_if_lt {x : Int32} {off : Int} {tgt : Nat} (hd : decode cc pc = .ok (.ifCond .lt off, 3)) (ht : (pc : Int) + off = (tgt : Int)) (Kt : x < 0 → q_w own nm cc nL rop d Q tgt L st I J) (Kf : ¬ x < 0 → q_w own nm cc nL rop d Q (pc + 3) L st I J) : q_w own nm cc nL rop d Q pc L (.int x :: st) I J := s_if_lt hd ht Kt Kf
theorem w_icmp_lt {x y : Int32} {off : Int} {tgt : Nat} (hd : decode cc pc = .ok (.if_icmp .lt off, 3)) (ht : (pc : Int) + off = (tgt : Int)) (Kt : x < y → q_w own nm cc nL rop d Q tgt L st I J) (Kf : ¬ x < y → q_w own nm cc nL rop d Q (pc + 3) L st I J) : q_w own nm cc nL rop d Q pc L (.int y :: .int x :: st) I J := s_icmp_lt hd ht Kt Kf
theorem w_if_ge {x : Int32} {off : Int} {tgt : Nat} (hd : decode cc pc = .ok (.ifCond .ge off, 3)) (ht : (pc : Int) + off = (tgt : Int)) (Kt : 0 ≤ x → q_w own nm cc nL rop d Q tgt L st I J) (Kf : ¬ 0 ≤ x → q_w own nm cc nL rop d Q (pc + 3) L st I J) : q_w own nm cc nL rop d Q pc L (.int x :: st) I J := s_if_ge hd ht Kt Kf
theorem w_icmp_ge {x y : Int32} {off : Int} {tgt : Nat} (hd : decode cc pc = .ok (.if_icmp .ge off, 3)) (ht : (pc : Int) + off = (tgt : Int)) (Kt : y ≤ x → q_w own nm cc nL rop d Q tgt L st I J) (Kf : ¬ y ≤ x → q_w own nm cc nL rop d Q (pc + 3) L st I J) : q_w own nm cc nL rop d Q pc L (.int y :: .int x :: st) I J := s_icmp_ge hd ht Kt Kf
theorem w_if_gt {x : Int32} {off : Int} {tgt : Nat} (hd : decode cc pc = .ok (.ifCond .gt off, 3)) (ht : (pc : Int) + off = (tgt : Int)) (Kt : 0 < x → q_w own nm cc nL rop d Q tgt L st I J) (Kf : ¬ 0 < x → q_w own nm cc nL rop d Q (pc + 3) L st I J) : q_w own nm cc nL rop d Q pc L (.int x :: st) I J := s_if_gt hd ht Kt Kf
theorem w_icmp_gt {x y : Int32} {off : Int} {tgt : Nat} (hd : decode cc pc = .ok (.if_icmp .gt off, 3)) (ht : (pc : Int) + off = (tgt : Int)) (Kt : y < x → q_w own nm cc nL rop d Q tgt L st I J) (Kf : ¬ y < x → q_w own nm cc nL rop d Q (pc + 3) L st I J) : q_w own nm cc nL rop d Q pc L (.int y :: .int x :: st) I J := s_icmp_gt hd ht Kt Kf
theorem w_if_le {x : Int32} {off : Int} {tgt : Nat} (hd : decode cc pc = .ok (.ifCond .le off, 3)) (ht : (pc : Int) + off = (tgt : Int)) (Kt : x ≤ 0 → q_w own nm cc nL rop d Q tgt L st I J) (Kf : ¬ x ≤ 0 → q_w own nm cc nL rop d Q (pc + 3) L st I J) : q_w own nm cc nL rop d Q pc L (.int x :: st) I J := s_if_le hd ht Kt Kf
theorem w_icmp_le {x y : Int32} {off : Int} {tgt : Nat} (hd : decode cc pc = .ok (.if_icmp .le off, 3)) (ht : (pc : Int) + off = (tgt : Int)) (Kt : x ≤ y → q_w own nm cc nL rop d Q tgt L st I J) (Kf : ¬ x ≤ y → q_w own nm cc nL rop d Q (pc + 3) L st I J) : q_w own nm cc nL rop d Q pc L (.int y :: .int x :: st) I J := s_icmp_le hd ht Kt Kf
theorem w_goto {off : Int} {tgt : Nat} (hd : decode cc pc = .ok (.goto off, 3)) (ht : (pc : Int) + off = (tgt : Int)) (K : q_w own nm cc nL rop d Q tgt L st I J) : q_w own nm cc nL rop d Q pc L st I J := s_goto hd ht K
theorem w_tableOut {dflt lo hi : Int} {offs : Array Int} {len : Nat} {x : Int32} {tgt : Nat} (hd : decode cc pc = .ok (.tableswitch dflt lo hi offs, len)) (h : x.toInt < lo ∨ hi < x.toInt) (ht : (pc : Int) + dflt = (tgt : Int)) (K : q_w own nm cc nL rop d Q tgt L st I J) : q_w own nm cc nL rop d Q pc L (.int x :: st) I J := s_tableOut hd h ht K
theorem w_tableIn {dflt lo hi : Int} {offs : Array Int} {len : Nat} {x : Int32} {off : Int} {tgt : Nat} (hd : decode cc pc = .ok (.tableswitch dflt lo hi offs, len)) (h1 : ¬ x.toInt < lo) (h2 : ¬ hi < x.toInt) (ho : offs[(x.toInt - lo).toNat]? = some off) (ht : (pc : Int) + off = (tgt : Int)) (K : q_w own nm cc nL rop d Q tgt L st I J) : q_w own nm cc nL rop d Q pc L (.int x :: st) I J := s_tableIn hd h1 h2 ho ht K
theorem w_ldcw {a : Nat} {v : Int32} (hd : decode cc pc = .ok (.ldc_w a, 3)) (hc : Cond.constant own a v ∈ q_U) (K : q_w own nm cc nL rop d Q (pc + 3) L (.int v :: st) I J) : q_w own nm cc nL rop d Q pc L st I J := s_ldcw hd hc K
theorem w_ldc2 {a : Nat} {v : Int64} (hd : decode cc pc = .ok (.ldc2_w a, 3)) (hc : Cond.constantLong own a v ∈ q_U) (K : q_w own nm cc nL rop d Q (pc + 3) L (.long v :: st) I J) : q_w own nm cc nL rop d Q pc L st I J := s_ldc2 hd hc K
theorem w_getI {idx c f t : Nat} {fin : Bool} {e : Ent} (hd : decode cc pc = .ok (.getfield idx, 3)) (hf : q_Fld own idx c f 0 fin) (he : SH[t]? = some e) (hc : e.1 = 10 + c) (K : q_w own nm cc nL rop d Q (pc + 3) L (.int (I t f) :: st) I J) : q_w own nm cc nL rop d Q pc L (.ref t :: st) I J := s_getI hd hf he hc K
theorem w_getJ {idx c f t : Nat} {fin : Bool} {e : Ent} (hd : decode cc pc = .ok (.getfield idx, 3)) (hf : q_Fld own idx c f 1 fin) (he : SH[t]? = some e) (hc : e.1 = 10 + c) (K : q_w own nm cc nL rop d Q (pc + 3) L (.long (J t) :: st) I J) : q_w own nm cc nL rop d Q pc L (.ref t :: st) I J := s_getJ hd hf he hc K
theorem w_getR {idx c f t r : Nat} {fin : Bool} {e : Ent} (hd : decode cc pc = .ok (.getfield idx, 3)) (hf : q_Fld own idx c f 2 fin) (he : SH[t]? = some e) (hc : e.1 = 10 + c) (hr : e.2.2.getD f none = some r) (K : q_w own nm cc nL rop d Q (pc + 3) L (.ref r :: st) I J) : q_w own nm cc nL rop d Q pc L (.ref t :: st) I J := s_getR hd hf he hc hr K
theorem w_putI {idx c f t : Nat} {e : Ent} {v : Int32} (hd : decode cc pc = .ok (.putfield idx, 3)) (hf : q_Fld own idx c f 0 false) (he : SH[t]? = some e) (hc : e.1 = 10 + c) (K : q_w own nm cc nL rop d Q (pc + 3) L st (upI I t f v) J) : q_w own nm cc nL rop d Q pc L (.int v :: .ref t :: st) I J := s_putI hd hf he hc K
theorem w_putJ {idx c f t : Nat} {e : Ent} {v : Int64} (hd : decode cc pc = .ok (.putfield idx, 3)) (hf : q_Fld own idx c f 1 false) (he : SH[t]? = some e) (hc : e.1 = 10 + c) (K : q_w own nm cc nL rop d Q (pc + 3) L st I (upJ J t v)) : q_w own nm cc nL rop d Q pc L (.long v :: .ref t :: st) I J := s_putJ hd hf he hc K
theorem w_iaload {t : Nat} {e : Ent} {i : Int32} (hd : decode cc pc = .ok (.iaload, 1)) (he : SH[t]? = some e) (hc : e.1 = 0) (hin : vp_in i e.2.1) (K : q_w own nm cc nL rop d Q (pc + 1) L (.int (I t i.toNatClampNeg) :: st) I J) : q_w own nm cc nL rop d Q pc L (.int i :: .ref t :: st) I J := s_iaload hd he hc hin K
theorem w_baload {t : Nat} {e : Ent} {i : Int32} (hd : decode cc pc = .ok (.baload, 1)) (he : SH[t]? = some e) (hc : e.1 = 1) (hin : vp_in i e.2.1) (K : q_w own nm cc nL rop d Q (pc + 1) L (.int (I t i.toNatClampNeg) :: st) I J) : q_w own nm cc nL rop d Q pc L (.int i :: .ref t :: st) I J := s_baload hd he hc hin K
theorem w_alen {t : Nat} {e : Ent} (hd : decode cc pc = .ok (.arraylength, 1)) (he : SH[t]? = some e) (hc : e.1 = 0) (K : q_w own nm cc nL rop d Q (pc + 1) L (.int (Int32.ofNat e.2.1) :: st) I J) : q_w own nm cc nL rop d Q pc L (.ref t :: st) I J := s_alen hd he hc K
theorem w_iastore {t : Nat} {e : Ent} {i v : Int32} (hd : decode cc pc = .ok (.iastore, 1)) (he : SH[t]? = some e) (hc : e.1 = 0) (hin : vp_in i e.2.1) (K : q_w own nm cc nL rop d Q (pc + 1) L st (upI I t i.toNatClampNeg v) J) : q_w own nm cc nL rop d Q pc L (.int v :: .int i :: .ref t :: st) I J := s_iastore hd he hc hin K
theorem w_bastore {t : Nat} {e : Ent} {i v : Int32} (hd : decode cc pc = .ok (.bastore, 1)) (he : SH[t]? = some e) (hc : e.1 = 1) (hin : vp_in i e.2.1) (hv : vp_nar .boolean v = v) (K : q_w own nm cc nL rop d Q (pc + 1) L st (upI I t i.toNatClampNeg v) J) : q_w own nm cc nL rop d Q pc L (.int v :: .int i :: .ref t :: st) I J := s_bastore hd he hc hin hv K
theorem w_aaload {t r a : Nat} {e : Ent} {i : Int32} (hd : decode cc pc = .ok (.aaload, 1)) (he : SH[t]? = some e) (hc : e.1 = a) (ha : a = 2 ∨ a = 3 ∨ a = 4) (hin : vp_in i e.2.1) (hr : e.2.2.getD i.toNatClampNeg none = some r) (K : q_w own nm cc nL rop d Q (pc + 1) L (.ref r :: st) I J) : q_w own nm cc nL rop d Q pc L (.int i :: .ref t :: st) I J := s_aaload hd he hc ha hin hr K
theorem w_min {idx : Nat} {x y : Int32} (hd : decode cc pc = .ok (.invokestatic idx, 3)) (hl : Cond.methodLink own idx Lib.Math.min.name ∈ q_U) (hst : Cond.static Lib.Math.min.name ∈ q_U) (hin : Cond.initialized "java/lang/Math" ∈ q_U) (hco : Cond.code Lib.Math.min.name Lib.Math.min.code 2 (some .int) ∈ q_U) (hss : (st.map fun v => v.category).sum ≤ 8) (hdd : 1 ≤ d) (K : q_w own nm cc nL rop d Q (pc + 3) L (.int (if y < x then y else x) :: st) I J) : q_w own nm cc nL rop d Q pc L (.int y :: .int x :: st) I J := s_min hd hl hst hin hco hss hdd (Nat.le_refl 0) (Nat.le_refl 0) K
theorem w_max {idx : Nat} {x y : Int32} (hd : decode cc pc = .ok (.invokestatic idx, 3)) (hl : Cond.methodLink own idx Lib.Math.max.name ∈ q_U) (hst : Cond.static Lib.Math.max.name ∈ q_U) (hin : Cond.initialized "java/lang/Math" ∈ q_U) (hco : Cond.code Lib.Math.max.name Lib.Math.max.code 2 (some .int) ∈ q_U) (hss : (st.map fun v => v.category).sum ≤ 8) (hdd : 1 ≤ d) (K : q_w own nm cc nL rop d Q (pc + 3) L (.int (if x < y then y else x) :: st) I J) : q_w own nm cc nL rop d Q pc L (.int y :: .int x :: st) I J := s_max hd hl hst hin hco hss hdd (Nat.le_refl 0) (Nat.le_refl 0) K
theorem w_copy {idx t0 t : Nat} {e0 e1 : Ent} {sp dp cn : Int32} (hd : decode cc pc = .ok (.invokestatic idx, 3)) (hl : Cond.methodLink own idx arraycopyName ∈ q_U) (hnat : Cond.native arraycopyName ∈ q_U) (hst : Cond.static arraycopyName ∈ q_U) (hin : Cond.initialized "java/lang/System" ∈ q_U) (he0 : SH[t0]? = some e0) (he1 : SH[t]? = some e1) (hc0 : e0.1 = 0) (hc1 : e1.1 = 0) (h1 : ¬ sp < 0) (h2 : ¬ dp < 0) (h3 : ¬ cn < 0) (h4 : sp.toNatClampNeg + cn.toNatClampNeg ≤ e0.2.1) (h5 : dp.toNatClampNeg + cn.toNatClampNeg ≤ e1.2.1) (hss : (st.map fun v => v.category).sum ≤ 8) (hdd : 1 ≤ d) (K : q_w own nm cc nL rop d Q (pc + 3) L st (upR I t (va_cpy (I t0) (I t) sp.toNatClampNeg dp.toNatClampNeg cn.toNatClampNeg)) J) : q_w own nm cc nL rop d Q pc L (.int cn :: .int dp :: .ref t :: .int sp :: .ref t0 :: st) I J := s_copy hd hl hnat hst hin he0 he1 hc0 hc1 h1 h2 h3 h4 h5 hss hdd K
theorem w_ret (hd : decode cc pc = .ok (rop, 1)) (K : Q st I J) : q_w own nm cc nL rop d Q pc L st I J := s_ret hd ⟨rfl, rfl, rfl, K⟩
theorem w_callVi {idx na ci t d' nL' : Nat} {y : MethodName} {cc' : ByteArray} {ret : Option FieldType} {av S : List Value} {e : Ent} {v : Int32} {I' : Mem} {J' : Lng} (hd : decode cc pc = .ok (.invokevirtual idx, 3)) (hc : q_CaV own idx y cc' nL' ret na ci) (he : SH[t]? = some e) (hci : e.1 = 10 + ci) (hM : q_E y cc' nL' ret d' (.ref t :: av) I J (some (.int v)) I' J') (hS' : S = av.reverse ++ .ref t :: st) (hna : av.length = na) (hav : av.all q_one = true) (hst : (st.map fun v => v.category).sum ≤ 8) (hdd : d' + 1 ≤ d) (K : q_w own nm cc nL rop d Q (pc + 3) L (.int v :: st) I' J') : q_w own nm cc nL rop d Q pc L S I J := s_callV hd hc he hci hM hS' hna hav hst hdd (Nat.le_refl 0) (Nat.le_refl 0) (fun r σ' I1 J1 h => by obtain ⟨rfl, rfl, rfl, rfl⟩ := h; exact K)
theorem w_callVl {idx na ci t d' nL' : Nat} {y : MethodName} {cc' : ByteArray} {ret : Option FieldType} {av S : List Value} {e : Ent} {v : Int64} {I' : Mem} {J' : Lng} (hd : decode cc pc = .ok (.invokevirtual idx, 3)) (hc : q_CaV own idx y cc' nL' ret na ci) (he : SH[t]? = some e) (hci : e.1 = 10 + ci) (hM : q_E y cc' nL' ret d' (.ref t :: av) I J (some (.long v)) I' J') (hS' : S = av.reverse ++ .ref t :: st) (hna : av.length = na) (hav : av.all q_one = true) (hst : (st.map fun v => v.category).sum ≤ 8) (hdd : d' + 1 ≤ d) (K : q_w own nm cc nL rop d Q (pc + 3) L (.long v :: st) I' J') : q_w own nm cc nL rop d Q pc L S I J := s_callV hd hc he hci hM hS' hna hav hst hdd (Nat.le_refl 0) (Nat.le_refl 0) (fun r σ' I1 J1 h => by obtain ⟨rfl, rfl, rfl, rfl⟩ := h; exact K)
theorem w_callVv {idx na ci t d' nL' : Nat} {y : MethodName} {cc' : ByteArray} {ret : Option FieldType} {av S : List Value} {e : Ent} {I' : Mem} {J' : Lng} (hd : decode cc pc = .ok (.invokevirtual idx, 3)) (hc : q_CaV own idx y cc' nL' ret na ci) (he : SH[t]? = some e) (hci : e.1 = 10 + ci) (hM : q_E y cc' nL' ret d' (.ref t :: av) I J none I' J') (hS' : S = av.reverse ++ .ref t :: st) (hna : av.length = na) (hav : av.all q_one = true) (hst : (st.map fun v => v.category).sum ≤ 8) (hdd : d' + 1 ≤ d) (K : q_w own nm cc nL rop d Q (pc + 3) L st I' J') : q_w own nm cc nL rop d Q pc L S I J := s_callV hd hc he hci hM hS' hna hav hst hdd (Nat.le_refl 0) (Nat.le_refl 0) (fun r σ' I1 J1 h => by obtain ⟨rfl, rfl, rfl, rfl⟩ := h; exact K)
theorem w_callVF {idx na ci t d' nL' : Nat} {y : MethodName} {cc' : ByteArray} {ret : Option FieldType} {av S : List Value} {e : Ent} {Q' : Option Value → Mem → Lng → Prop} (hd : decode cc pc = .ok (.invokevirtual idx, 3)) (hc : q_CaV own idx y cc' nL' ret na ci) (he : SH[t]? = some e) (hci : e.1 = 10 + ci) (hM : q_F y cc' nL' ret d' (.ref t :: av) I J Q') (hS' : S = av.reverse ++ .ref t :: st) (hna : av.length = na) (hav : av.all q_one = true) (hst : (st.map fun v => v.category).sum ≤ 8) (hdd : d' + 1 ≤ d) (K : ∀ (r : Option Value) (I' : Mem) (J' : Lng), Q' r I' J' → q_w own nm cc nL rop d Q (pc + 3) L (r.toList ++ st) I' J') : q_w own nm cc nL rop d Q pc L S I J := s_callV hd hc he hci hM hS' hna hav hst hdd (Nat.le_refl 0) (Nat.le_refl 0) (fun r σ' I1 J1 h => by obtain ⟨rfl, h⟩ := h; exact K r I1 J1 h)
theorem w_callSi {idx na d' nL' : Nat} {y : MethodName} {cc' : ByteArray} {ret : Option FieldType} {av S : List Value} {v : Int32} {I' : Mem} {J' : Lng} (hd : decode cc pc = .ok (.invokestatic idx, 3)) (hc : q_CaS own idx y cc' nL' ret na) (hM : q_E y cc' nL' ret d' av I J (some (.int v)) I' J') (hS' : S = av.reverse ++ st) (hna : av.length = na) (hav : av.all q_one = true) (hst : (st.map fun v => v.category).sum ≤ 8) (hdd : d' + 1 ≤ d) (K : q_w own nm cc nL rop d Q (pc + 3) L (.int v :: st) I' J') : q_w own nm cc nL rop d Q pc L S I J := s_callS hd hc hM hS' hna hav hst hdd (Nat.le_refl 0) (Nat.le_refl 0) (fun r σ' I1 J1 h => by obtain ⟨rfl, rfl, rfl, rfl⟩ := h; exact K)
theorem w_callSv {idx na d' nL' : Nat} {y : MethodName} {cc' : ByteArray} {ret : Option FieldType} {av S : List Value} {I' : Mem} {J' : Lng} (hd : decode cc pc = .ok (.invokestatic idx, 3)) (hc : q_CaS own idx y cc' nL' ret na) (hM : q_E y cc' nL' ret d' av I J none I' J') (hS' : S = av.reverse ++ st) (hna : av.length = na) (hav : av.all q_one = true) (hst : (st.map fun v => v.category).sum ≤ 8) (hdd : d' + 1 ≤ d) (K : q_w own nm cc nL rop d Q (pc + 3) L st I' J') : q_w own nm cc nL rop d Q pc L S I J := s_callS hd hc hM hS' hna hav hst hdd (Nat.le_refl 0) (Nat.le_refl 0) (fun r σ' I1 J1 h => by obtain ⟨rfl, rfl, rfl, rfl⟩ := h; exact K)
theorem w_conseq {Q2 : List Value → Mem → Lng → Prop} (hq : ∀ s i j, Q2 s i j → Q s i j) (K : q_w own nm cc nL rop d Q2 pc L st I J) : q_w own nm cc nL rop d Q pc L st I J := fun p l e R s m args below meth c Qm cy D base b C E H locs ls hW hS hL => K p l e R s m args below meth c Qm cy D base b C (fun pc' ls' st' σ' I' J' k' n' H' locs' h1 h2 h3 h4 => E pc' ls' st' σ' I' J' k' n' H' locs' h1 ⟨h2.1, h2.2.1, h2.2.2.1, hq _ _ _ h2.2.2.2⟩ h3 h4) H locs ls hW hS hL
end
section
variable {y : MethodName} {cc : ByteArray} {nL na d : Nat} {av : List Value} {I I' : Mem} {J J' : Lng}
theorem q_Ei {v : Int32} (hM : q_Me y cc nL (some .int) na) (ha : av.all q_one = true) (hl : (q_args av).length ≤ nL) (K : q_w y.cls y.name cc nL .ireturn d (fun st I1 J1 => st = [.int v] ∧ I1 = I' ∧ J1 = J') 0 (q_ent nL av) [] I J) : q_E y cc nL (some .int) d av I J (some (.int v)) I' J' := by
  refine q_C.of hM ha hl (fun p l e R s m args below meth c Qm cy D base b C E H locs ls hW hS hL => K p l e R s m args below meth c Qm cy D base b C (fun pc' ls' st' σ' I1 J1 k' n' H' locs' h1 h2 h3 h4 => E pc' ls' st' σ' I1 J1 k' n' H' locs' h1 ?_ h3 h4) H locs ls hW hS hL)
  obtain ⟨rfl, rfl, rfl, rfl, rfl, rfl⟩ := h2
  exact ⟨_, Or.inl ⟨rfl, rfl, v, rfl, rfl⟩, ⟨rfl, rfl, rfl, rfl⟩, rfl, rfl⟩
theorem q_Ez {v : Int32} (hv : v = 0 ∨ v = 1) (hM : q_Me y cc nL (some .boolean) na) (ha : av.all q_one = true) (hl : (q_args av).length ≤ nL) (K : q_w y.cls y.name cc nL .ireturn d (fun st I1 J1 => st = [.int v] ∧ I1 = I' ∧ J1 = J') 0 (q_ent nL av) [] I J) : q_E y cc nL (some .boolean) d av I J (some (.int v)) I' J' := by
  refine q_C.of hM ha hl (fun p l e R s m args below meth c Qm cy D base b C E H locs ls hW hS hL => K p l e R s m args below meth c Qm cy D base b C (fun pc' ls' st' σ' I1 J1 k' n' H' locs' h1 h2 h3 h4 => E pc' ls' st' σ' I1 J1 k' n' H' locs' h1 ?_ h3 h4) H locs ls hW hS hL)
  obtain ⟨rfl, rfl, rfl, rfl, rfl, rfl⟩ := h2
  exact ⟨_, Or.inr (Or.inl ⟨rfl, rfl, v, hv, rfl, rfl⟩), ⟨rfl, rfl, rfl, rfl⟩, rfl, rfl⟩
theorem q_El {v : Int64} (hM : q_Me y cc nL (some .long) na) (ha : av.all q_one = true) (hl : (q_args av).length ≤ nL) (K : q_w y.cls y.name cc nL .lreturn d (fun st I1 J1 => st = [.long v] ∧ I1 = I' ∧ J1 = J') 0 (q_ent nL av) [] I J) : q_E y cc nL (some .long) d av I J (some (.long v)) I' J' := by
  refine q_C.of hM ha hl (fun p l e R s m args below meth c Qm cy D base b C E H locs ls hW hS hL => K p l e R s m args below meth c Qm cy D base b C (fun pc' ls' st' σ' I1 J1 k' n' H' locs' h1 h2 h3 h4 => E pc' ls' st' σ' I1 J1 k' n' H' locs' h1 ?_ h3 h4) H locs ls hW hS hL)
  obtain ⟨rfl, rfl, rfl, rfl, rfl, rfl⟩ := h2
  exact ⟨_, Or.inr (Or.inr (Or.inl ⟨rfl, rfl, v, rfl, rfl⟩)), ⟨rfl, rfl, rfl, rfl⟩, rfl, rfl⟩
theorem q_Ev (hM : q_Me y cc nL none na) (ha : av.all q_one = true) (hl : (q_args av).length ≤ nL) (K : q_w y.cls y.name cc nL .return_ d (fun st I1 J1 => st = [] ∧ I1 = I' ∧ J1 = J') 0 (q_ent nL av) [] I J) : q_E y cc nL none d av I J none I' J' := by
  refine q_C.of hM ha hl (fun p l e R s m args below meth c Qm cy D base b C E H locs ls hW hS hL => K p l e R s m args below meth c Qm cy D base b C (fun pc' ls' st' σ' I1 J1 k' n' H' locs' h1 h2 h3 h4 => E pc' ls' st' σ' I1 J1 k' n' H' locs' h1 ?_ h3 h4) H locs ls hW hS hL)
  obtain ⟨rfl, rfl, rfl, rfl, rfl, rfl⟩ := h2
  exact ⟨_, Or.inr (Or.inr (Or.inr ⟨rfl, rfl, rfl, rfl⟩)), ⟨rfl, rfl, rfl, rfl⟩, rfl, rfl⟩
theorem q_Fi {Q : Option Value → Mem → Lng → Prop} (hM : q_Me y cc nL (some .int) na) (ha : av.all q_one = true) (hl : (q_args av).length ≤ nL) (K : q_w y.cls y.name cc nL .ireturn d (fun st I1 J1 => ∃ v : Int32, st = [.int v] ∧ Q (some (.int v)) I1 J1) 0 (q_ent nL av) [] I J) : q_F y cc nL (some .int) d av I J Q := by
  refine q_C.of hM ha hl (fun p l e R s m args below meth c Qm cy D base b C E H locs ls hW hS hL => K p l e R s m args below meth c Qm cy D base b C (fun pc' ls' st' σ' I1 J1 k' n' H' locs' h1 h2 h3 h4 => E pc' ls' st' σ' I1 J1 k' n' H' locs' h1 ?_ h3 h4) H locs ls hW hS hL)
  obtain ⟨rfl, rfl, rfl, v, rfl, h⟩ := h2
  exact ⟨_, Or.inl ⟨rfl, rfl, v, rfl, rfl⟩, ⟨rfl, h⟩, rfl, rfl⟩
theorem q_Fz {Q : Option Value → Mem → Lng → Prop} (hM : q_Me y cc nL (some .boolean) na) (ha : av.all q_one = true) (hl : (q_args av).length ≤ nL) (K : q_w y.cls y.name cc nL .ireturn d (fun st I1 J1 => ∃ v : Int32, (v = 0 ∨ v = 1) ∧ st = [.int v] ∧ Q (some (.int v)) I1 J1) 0 (q_ent nL av) [] I J) : q_F y cc nL (some .boolean) d av I J Q := by
  refine q_C.of hM ha hl (fun p l e R s m args below meth c Qm cy D base b C E H locs ls hW hS hL => K p l e R s m args below meth c Qm cy D base b C (fun pc' ls' st' σ' I1 J1 k' n' H' locs' h1 h2 h3 h4 => E pc' ls' st' σ' I1 J1 k' n' H' locs' h1 ?_ h3 h4) H locs ls hW hS hL)
  obtain ⟨rfl, rfl, rfl, v, hv, rfl, h⟩ := h2
  exact ⟨_, Or.inr (Or.inl ⟨rfl, rfl, v, hv, rfl, rfl⟩), ⟨rfl, h⟩, rfl, rfl⟩
theorem q_Fv {Q : Option Value → Mem → Lng → Prop} (hM : q_Me y cc nL none na) (ha : av.all q_one = true) (hl : (q_args av).length ≤ nL) (K : q_w y.cls y.name cc nL .return_ d (fun st I1 J1 => st = [] ∧ Q none I1 J1) 0 (q_ent nL av) [] I J) : q_F y cc nL none d av I J Q := by
  refine q_C.of hM ha hl (fun p l e R s m args below meth c Qm cy D base b C E H locs ls hW hS hL => K p l e R s m args below meth c Qm cy D base b C (fun pc' ls' st' σ' I1 J1 k' n' H' locs' h1 h2 h3 h4 => E pc' ls' st' σ' I1 J1 k' n' H' locs' h1 ?_ h3 h4) H locs ls hW hS hL)
  obtain ⟨rfl, rfl, rfl, rfl, h⟩ := h2
  exact ⟨_, Or.inr (Or.inr (Or.inr ⟨rfl, rfl, rfl, rfl⟩)), ⟨rfl, h⟩, rfl, rfl⟩
end
end
section
theorem q_ws_app (cy : Nat → ClassId) (base : Nat) (I : Mem) (J : Lng) (σ : Shp) (e : Ent) : q_ws cy base I J 0 (σ ++ [e]) = q_ws cy base I J 0 σ ++ [(base + σ.length, q_cell cy base e (I σ.length) (J σ.length))] := by
  have gen : ∀ (σ : Shp) (k : Nat), q_ws cy base I J k (σ ++ [e]) = q_ws cy base I J k σ ++ [(base + (k + σ.length), q_cell cy base e (I (k + σ.length)) (J (k + σ.length)))] := by
    intro σ
    induction σ with
    | nil => intro k; rfl
    | cons a r ih =>
      intro k
      simp only [List.cons_append, q_ws, ih (k + 1), List.length_cons]
      rw [show k + 1 + r.length = k + (r.length + 1) by omega]
  have := gen σ 0
  simpa using this
theorem q_P_app {cy : Nat → ClassId} {D : va_G} {base : Nat} {σ : Shp} {I : Mem} {J : Lng} {H H1 : Heap} {e : Ent} (hP : va_P D vwCl (q_ws cy base I J 0 σ) H) (ho : ∀ q, q < H.size → H1[q]? = H[q]?) (h1 : va_at D vwCl (base + σ.length, q_cell cy base e (I σ.length) (J σ.length)) H1) : va_P D vwCl (q_ws cy base I J 0 (σ ++ [e])) H1 := by
  rw [q_ws_app]
  refine (hP.kept (fun k x hx => ho x.1 ((hP k x hx).lt))).app (fun k x hx => ?_)
  have hz : k < 1 := (List.getElem?_eq_some_iff.mp hx).1
  rw [show k = 0 by omega] at hx
  cases hx
  exact h1
theorem q_S_app {base : Nat} {H0 H H1 : Heap} {locs : List Loc} (hS : va_S (fun q => base ≤ q) H0 H locs) (hz : H.size ≤ H1.size) (ho : ∀ q, q < H.size → H1[q]? = H[q]?) : va_S (fun q => base ≤ q) H0 H1 locs := ⟨Nat.le_trans hS.1 hz, fun x h1 h2 => (ho x (Nat.lt_of_lt_of_le h1 hS.1)).trans (hS.2.1 x h1 h2), hS.2.2⟩
/-- a class that is made -/
def q_New (own : String) (idx c N : Nat) : Prop := ∃ (C : String) (T : u_T) (ty0 : Nat → FieldType), q_Cls c C T N ty0 ∧ Cond.classLink own idx C ∈ q_U ∧ Cond.instantiable C N ∈ q_U ∧ Cond.initialized C ∈ q_U ∧ ∀ j, j < N → ∀ base, defaultValue (ty0 j) = vp_V (q_fs base (List.replicate N none) (fun _ => 0) 0 0 (q_fk c)) j
section
variable {own nm : String} {cc : ByteArray} {nL : Nat} {rop : Instr} {d mc ms : Nat} {X : Option (Nat × (Nat → Int32))} {Q : List Value → Shp → Mem → Lng → Nat → Nat → Prop} {k n pc : Nat} {L : List (Option Value)} {st : List Value} {σ : Shp} {I : Mem} {J : Lng}
theorem s_new {idx c N : Nat} (hd : decode cc pc = .ok (.new idx, 3)) (hc : q_New own idx c N) (hI : I σ.length = fun _ => 0) (hJ : J σ.length = 0) (hk : k + 1 ≤ mc) (hn : n + N ≤ ms) (K : q_WP own nm cc nL rop d mc ms X Q (k + 1) (n + N) (pc + 3) L (.ref σ.length :: st) (σ ++ [(10 + c, N, List.replicate N none)]) I J) : q_WP own nm cc nL rop d mc ms X Q k n pc L st σ I J := by
  intro p l e0 R s m args below meth c0 Qm cy D base b C E H locs ls hW hS hL T hT Xs
  have hsz := q_size hT Xs hW C.2.2.2.2.2.2.2.1 hS.1
  have hR := C.2.2.2.2.2.2.1
  obtain ⟨C', T', ty0, ⟨h1, h2, h3, h4, h5⟩, g1, g2, g3, g4⟩ := hc
  have hKn := C.2.2.2.2.2.1.1.1 c _ h1
  refine W.newcK (g := F0 m pc ls (st.map (q_tr base b))) (n := N) (h := H.size) C.1 C.2.1 C.2.2.2.1 (C.2.2.2.2.1 _ g1) (C.2.2.2.2.1 _ g2) (C.2.2.2.2.1 _ g3) rfl hd (by omega) (by omega) hKn.2.1 rfl (fun H1 kC hkC e1 z1 o1 => ?_) T hT Xs
  have hz : s.heap.size + (k + 1) = base + (σ ++ [(10 + c, N, List.replicate N none)]).length := by
    have := hW.2
    simp only [List.length_append, List.length_cons, List.length_nil]; omega
  have hP1 : va_P D vwCl (q_ws cy base I J 0 (σ ++ [(10 + c, N, List.replicate N none)])) H1 := by
    refine q_P_app hW.1 o1 ?_
    rw [q_cell_o (e := (10 + c, N, List.replicate N none)) (c := c) rfl, hI, hJ]
    refine ⟨(C', T', N), h1, ?_⟩
    have hb := (u_born ty0 C.2.2.2.2.1 h2 hKn hkC e1 h3).to (fun j hj => g4 j hj base)
    rw [hsz] at hb
    exact hb
  have hK := K p l e0 R s m args below meth c0 Qm cy D base b C E H1 locs ls ⟨hP1, hz⟩ (q_S_app hS (by omega) o1) hL
  have e : (F0 m (pc + 3) ls ((Value.ref σ.length :: st).map (q_tr base b))) = { (F0 m pc ls (st.map (q_tr base b))) with pc := (F0 m pc ls (st.map (q_tr base b))).pc + 3, stack := Value.ref H.size :: (F0 m pc ls (st.map (q_tr base b))).stack } := by rw [hsz]; rfl
  rw [e] at hK
  exact hK
theorem s_newarr {at_ : ArrayType} {a N : Nat} {v : Int32} (hd : decode cc pc = .ok (.newarray at_, 2)) (ha : a < 2) (hty : newarray.typeOf at_ = (if a = 0 then .int else .boolean)) (hw : Cond.arrayClass (newarray.typeOf at_) ∈ q_U) (hv : ¬ v < 0) (hN : v.toNatClampNeg = N) (hNb : N ≤ 100000) (hI : I σ.length = fun _ => 0) (hk : k + 1 ≤ mc) (hn : n + N ≤ ms) (K : q_WP own nm cc nL rop d mc ms X Q (k + 1) (n + N) (pc + 2) L (.ref σ.length :: st) (σ ++ [(a, N, [])]) I J) : q_WP own nm cc nL rop d mc ms X Q k n pc L (.int v :: st) σ I J := by
  intro p l e0 R s m args below meth c0 Qm cy D base b C E H locs ls hW hS hL T hT Xs
  have hsz := q_size hT Xs hW C.2.2.2.2.2.2.2.1 hS.1
  have hR := C.2.2.2.2.2.2.1
  refine va_newaK C.1 C.2.1 (C.2.2.2.2.1 _ hw) (g := F0 m pc ls (.int v :: st.map (q_tr base b))) rfl hd rfl hv hN ?_ (by omega) (by omega) rfl (fun H1 cA e1 z1 o1 hAr hNm => ?_) T hT Xs
  · have : componentBytes (newarray.typeOf at_) ≤ 4 := by rw [hty]; split <;> decide
    calc N * componentBytes (newarray.typeOf at_) ≤ 100000 * 4 := Nat.mul_le_mul hNb this
      _ ≤ 536870912 := by decide
  have hz : s.heap.size + (k + 1) = base + (σ ++ [(a, N, [])] : Shp).length := by
    have := hW.2
    simp only [List.length_append, List.length_cons, List.length_nil]; omega
  have hP1 : va_P D vwCl (q_ws cy base I J 0 (σ ++ [(a, N, [])])) H1 := by
    refine q_P_app hW.1 o1 ?_
    rw [q_cell_i (e := (a, N, [])) rfl ha, hI]
    show H1[base + σ.length]? = some (vp_cell _ _)
    rw [← hsz, vp_cell_i, e1]
    rcases (show a = 0 ∨ a = 1 by omega) with rfl | rfl
    · rw [if_pos rfl] at hty
      rw [hty] at hNm ⊢
      have h0 := (C.2.2.2.2.2.1.1.2 0 _ rfl).2
      have e3 : cA = cy 0 := Option.some.inj (hNm.symm.trans h0)
      rw [e3]; rfl
    · rw [if_neg (by decide)] at hty
      rw [hty] at hNm ⊢
      have h0 := (C.2.2.2.2.2.1.1.2 1 _ rfl).2
      have e3 : cA = cy 1 := Option.some.inj (hNm.symm.trans h0)
      rw [e3]; rfl
  have hK := K p l e0 R s m args below meth c0 Qm cy D base b C E H1 locs ls ⟨hP1, hz⟩ (q_S_app hS (by omega) o1) hL
  have e : (F0 m (pc + 2) ls ((Value.ref σ.length :: st).map (q_tr base b))) = { (F0 m pc ls (Value.int v :: st.map (q_tr base b))) with pc := (F0 m pc ls (Value.int v :: st.map (q_tr base b))).pc + 2, stack := Value.ref H.size :: st.map (q_tr base b) } := by rw [hsz]; rfl
  rw [e] at hK
  exact hK
theorem s_anew {a idx N : Nat} {C0 : String} {v : Int32} (hd : decode cc pc = .ok (.anewarray idx, 3)) (ha : a = 2 ∧ C0 = "EntailedLand$Land" ∨ a = 3 ∧ C0 = "EntailedLand$Kin") (hl : Cond.classLink own idx C0 ∈ q_U) (hv : ¬ v < 0) (hN : v.toNatClampNeg = N) (hNb : N ≤ 100000) (hk : k + 1 ≤ mc) (hn : n + N ≤ ms) (K : q_WP own nm cc nL rop d mc ms X Q (k + 1) (n + N) (pc + 3) L (.ref σ.length :: st) (σ ++ [(a, N, List.replicate N none)]) I J) : q_WP own nm cc nL rop d mc ms X Q k n pc L (.int v :: st) σ I J := by
  intro p l e0 R s m args below meth c0 Qm cy D base b C E H locs ls hW hS hL T hT Xs
  have hsz := q_size hT Xs hW C.2.2.2.2.2.2.2.1 hS.1
  have hR := C.2.2.2.2.2.2.1
  subst hN
  have hover : (Cond.arrayOver (.object C0)).before args s = true := by
    rcases ha with ⟨-, rfl⟩ | ⟨-, rfl⟩
    · exact C.2.2.2.2.2.1.2.2.1
    · exact C.2.2.2.2.2.1.2.2.2.1
  refine W.anew C.1 C.2.1 C.2.2.2.1 (C.2.2.2.2.1 _ hl) hover (g := F0 m pc ls (.int v :: st.map (q_tr base b))) rfl hd rfl hv (by omega) (by omega) (by omega) (fun cA kA comp f1 f2 f3 f4 => ?_) T hT Xs
  generalize hH1 : H.push ({ cls := cA, slots := Array.replicate v.toNatClampNeg .null, vm := .none } : Cell) = H1
  have z1 : H1.size = H.size + 1 := by rw [← hH1, Array.size_push]
  have e1 : H1[H.size]? = some (arrV cA v.toNatClampNeg (fun _ => .null)) := by rw [← hH1, Array.getElem?_push_size, ← arrV_new]
  have o1 : ∀ q : Nat, q < H.size → H1[q]? = H[q]? := fun q hq => by rw [← hH1, Array.getElem?_push, if_neg (Nat.ne_of_lt hq)]
  have hz : s.heap.size + (k + 1) = base + (σ ++ [(a, v.toNatClampNeg, List.replicate v.toNatClampNeg none)] : Shp).length := by
    have := hW.2
    simp only [List.length_append, List.length_cons, List.length_nil]; omega
  have hrw : q_rw base (List.replicate v.toNatClampNeg none) = fun _ => none := by
    funext i
    unfold q_rw
    rw [List.getD, List.getElem?_replicate]
    split <;> rfl
  have hP1 : va_P D vwCl (q_ws cy base I J 0 (σ ++ [(a, v.toNatClampNeg, List.replicate v.toNatClampNeg none)])) H1 := by
    refine q_P_app hW.1 o1 ?_
    rw [q_cell_q (e := (a, v.toNatClampNeg, List.replicate v.toNatClampNeg none)) rfl (by omega) (by omega), hrw]
    show H1[base + σ.length]? = some (vp_cell _ _)
    rw [← hsz, vp_cell_q, e1]
    rcases ha with ⟨rfl, rfl⟩ | ⟨rfl, rfl⟩
    · obtain ⟨_, _, _, _, _, h0⟩ := (C.2.2.2.2.2.1.1.2 2 _ rfl).2
      have e3 : cA = cy 2 := Option.some.inj (f1.symm.trans h0)
      rw [e3]; rfl
    · obtain ⟨_, _, _, _, _, h0⟩ := (C.2.2.2.2.2.1.1.2 3 _ rfl).2
      have e3 : cA = cy 3 := Option.some.inj (f1.symm.trans h0)
      rw [e3]; rfl
  have hK := K p l e0 R s m args below meth c0 Qm cy D base b C E H1 locs ls ⟨hP1, hz⟩ (q_S_app hS (by omega) o1) hL
  have e : (F0 m (pc + 3) ls ((Value.ref σ.length :: st).map (q_tr base b))) = { (F0 m pc ls (Value.int v :: st.map (q_tr base b))) with pc := (F0 m pc ls (Value.int v :: st.map (q_tr base b))).pc + 3, stack := Value.ref H.size :: st.map (q_tr base b) } := by rw [hsz]; rfl
  rw [e] at hK
  exact hK
theorem s_aastore {t r a ci : Nat} {e e' er : Ent} {i : Int32} (hd : decode cc pc = .ok (.aastore, 1)) (he : σ[t]? = some e) (hc : e.1 = a) (ha : a = 2 ∧ ci = 4 ∨ a = 3 ∧ ci = 3) (hin : vp_in i e.2.1) (hr : σ[r]? = some er) (hrc : er.1 = 10 + ci) (hl : i.toNatClampNeg < e.2.2.length) (he' : (e.1, e.2.1, e.2.2.set i.toNatClampNeg (some r)) = e') (K : q_WP own nm cc nL rop d mc ms X Q k n (pc + 1) L st (σ.set t e') I J) : q_WP own nm cc nL rop d mc ms X Q k n pc L (.ref r :: .int i :: .ref t :: st) σ I J := by
  intro p l e0 R s m args below meth c0 Qm cy D base b C E H locs ls hW hS hL
  subst he'
  have hlt : t < σ.length := (List.getElem?_eq_some_iff.mp he).1
  have h2 : a < 10 := by omega
  have h3 : ¬ a < 2 := by omega
  have main : ∀ rr : vw_C, vwCl[ci]? = some rr → (q_ty cy)[a]? = some (cy a, .object rr.1) → W p l e0 R s m args below meth c0 H locs k n Qm (F0 m pc ls ((.ref r :: .int i :: .ref t :: st).map (q_tr base b))) := by
    intro rr hrr hty
    refine va_astq C.1 C.2.1 C.2.2.2.2.2.1.1 hW.1 (q_ws_D cy base I J σ) hS t a r ci (r := rr) (by rw [q_ws_at he, q_cell_q hc h3 h2]) hty (by rw [q_ws_at hr, q_cell_o hrc]) hrr hin hd (fun H1 locs1 hP _ hS1 => ?_)
    refine K p l e0 R s m args below meth c0 Qm cy D base b C E H1 locs1 ls ⟨?_, by rw [List.length_set]; exact hW.2⟩ hS1 hL
    rw [← q_ws_set (cy := cy) (base := base) (I := I) (I' := I) (J := J) (J' := J) (σ := σ) (t := t) (e' := (e.1, e.2.1, e.2.2.set i.toNatClampNeg (some r))) (fun i hi => List.getElem?_set_ne (fun q => hi q.symm)) (fun _ _ => rfl) (fun _ _ => rfl) (List.getElem?_set_self hlt) hlt, q_cell_q (e := (e.1, e.2.1, e.2.2.set i.toNatClampNeg (some r))) hc h3 h2]
    have hrw : q_rw base (e.2.2.set i.toNatClampNeg (some r)) = va_up (q_rw base e.2.2) i.toNatClampNeg (some (base + r)) := by
      funext j
      unfold q_rw va_up
      by_cases hj : j = i.toNatClampNeg
      · subst hj
        rw [if_pos rfl, List.getD, List.getElem?_set_self hl]; rfl
      · rw [if_neg hj, List.getD, List.getElem?_set_ne (fun q => hj q.symm)]; rfl
    rw [hrw]
    exact hP
  rcases ha with ⟨rfl, rfl⟩ | ⟨rfl, rfl⟩
  · exact main _ rfl rfl
  · exact main _ rfl rfl
/-- Object's constructor -/
theorem s_objInit {idx t : Nat} (hd : decode cc pc = .ok (.invokespecial idx, 3)) (hl : Cond.methodLink own idx objectInit ∈ q_U) (hin : Cond.instanceMethod objectInit ∈ q_U) (hco : Cond.code objectInit ⟨#[0xb1]⟩ 1 none ∈ q_U) (hss : (st.map fun v => v.category).sum ≤ 8) (hdd : 1 ≤ d) (K : q_WP own nm cc nL rop d mc ms X Q k n (pc + 3) L st σ I J) : q_WP own nm cc nL rop d mc ms X Q k n pc L (.ref t :: st) σ I J := by
  intro p l e0 R s m args below meth c0 Qm cy D base b C E H locs ls hW hS hL
  have hR := C.2.2.2.2.2.2.1
  have hss2 : ((st.map (q_tr base b)).map fun v => v.category).sum ≤ 8 := by
    rw [List.map_map, show (fun v : Value => v.category) ∘ q_tr base b = fun v => v.category from funext fun v => q_tr_cat base b v]
    exact hss
  exact W.objInit C.1 C.2.1 C.2.2.2.1 (C.2.2.2.2.1 _ hl) (C.2.2.2.2.1 _ hin) (C.2.2.2.2.1 _ hco) rfl (by rw [C.2.2.1]; exact hL.1) rfl hd (by omega) (by show 2 * 0 + _ + 12 ≤ _; omega) (K p l e0 R s m args below meth c0 Qm cy D base b C E H locs ls hW hS hL)
/-- a constructor's call, by an ordinary link or one of the nest's -/
def q_CaI (own : String) (idx : Nat) (y : MethodName) (cc : ByteArray) (nL na : Nat) : Prop := q_Me y cc nL none na ∧ y.name = "<init>" ∧ Cond.instanceMethod y ∈ q_U ∧ (Cond.methodLink own idx y ∈ q_U ∨ (own, idx, y) ∈ q_nest)
theorem s_callI {idx na t d' mc' ms' nL' : Nat} {y : MethodName} {cc' : ByteArray} {av S : List Value} {Q' : Option Value → Shp → Mem → Lng → Prop} (hd : decode cc pc = .ok (.invokespecial idx, 3)) (hc : q_CaI own idx y cc' nL' na) (hM : q_C y cc' nL' none d' mc' ms' (.ref t :: av) σ I J Q') (hS' : S = av.reverse ++ .ref t :: st) (hna : av.length = na) (hav : av.all q_one = true) (hst : (st.map fun v => v.category).sum ≤ 8) (hdd : d' + 1 ≤ d) (hmc : k + mc' ≤ mc) (hms : n + ms' ≤ ms)
    (K : ∀ (r : Option Value) (σ' : Shp) (I' : Mem) (J' : Lng), Q' r σ' I' J' → q_WP own nm cc nL rop d mc ms X Q (k + mc') (n + ms') (pc + 3) L (r.toList ++ st) σ' I' J') : q_WP own nm cc nL rop d mc ms X Q k n pc L S σ I J := by
  subst hS'
  intro p l e0 R s m args below meth c0 Qm cy D base b C E H locs ls hW hS hL T hT Xs
  have hsz := q_size hT Xs hW C.2.2.2.2.2.2.2.1 hS.1
  obtain ⟨hme, hnm, hin, hl⟩ := hc
  have hR := C.2.2.2.2.2.2.1
  have hpre : PreS s H (q_Pc cy D base (.ref t :: av) σ I J) (.ref (base + t) :: av.map (q_tr base b)) := by
    refine ⟨q_blind _ _ _ _ _ _ _, fun U hU hWm => ⟨?_, ?_, q_K.warm hWm C.2.2.2.2.2.1⟩⟩
    · rw [List.map_cons, q_one_tr hav base 0 b]; rfl
    · rw [hU]; exact ⟨hW.1, hsz⟩
  have hstk : (F0 m pc ls ((av.reverse ++ .ref t :: st).map (q_tr base b))).stack = (av.map (q_tr base b)).reverse ++ .ref (base + t) :: st.map (q_tr base b) := by
    show ((av.reverse ++ .ref t :: st).map (q_tr base b)) = _
    rw [List.map_append, List.map_reverse, List.map_cons]; rfl
  have hss : ((st.map (q_tr base b)).map fun v => v.category).sum ≤ 8 := by
    rw [List.map_map, show (fun v : Value => v.category) ∘ q_tr base b = fun v => v.category from funext fun v => q_tr_cat base b v]
    exact hst
  rcases hl with hl | hl
  · exact q_go (S := (av.reverse ++ .ref t :: st).map (q_tr base b)) C E hW hS hL hT Xs hsz (va_runI (Ts := q_U) (As := av.map (q_tr base b)) (b := base + t) (n := na) ⟨C.1, C.2.1, C.2.2.1, C.2.2.2.1, C.2.2.2.2.1⟩ (hM l cy D base) ⟨q_cb C.2.2.2.2.1 hme hl hdd ⟨hR.1, hR.2.1⟩, hnm, C.2.2.2.2.1 _ hin⟩ hpre rfl (by rw [List.length_map]; exact hna) hL.1 hstk (lv_room hss) hd ⟨by omega, by omega⟩) K
  · obtain ⟨h1, h2, h3, h4, h5, h6⟩ := hme
    have hG : GoodIn q_U (.code y cc' nL' none :: q_U) := q_good (fun w hw => by
      rcases List.mem_cons.mp hw with rfl | hw
      · exact h1
      · exact hw)
    have hcn : va_CN R s args own idx y "EntailedLand" cc' nL' none (.code y cc' nL' none :: q_U) (q_Rm d' mc' ms') mc' ms' na := va_cnB na C.2.2.2.2.1 hG rfl rfl rfl (C.2.2.2.2.2.1.2.1 _ hl) (C.2.2.2.2.1 _ h2) ⟨h3.1, h3.2, h4⟩ ⟨by show d' + 1 ≤ R.frames; omega, by show 8 + (nL' + 11) + 40 * d' ≤ R.locals; omega⟩
    exact q_go (S := (av.reverse ++ .ref t :: st).map (q_tr base b)) C E hW hS hL hT Xs hsz (va_runIN (Ts := q_U) (As := av.map (q_tr base b)) (b := base + t) (n := na) ⟨C.1, C.2.1, C.2.2.1, C.2.2.2.1, C.2.2.2.2.1⟩ (hM l cy D base) ⟨hcn, hnm, C.2.2.2.2.1 _ hin⟩ hpre rfl (by rw [List.length_map]; exact hna) hL.1 hstk (lv_room hss) hd ⟨by omega, by omega⟩) K
end
end
section
/-- the outer row of N places at h, when i of its places have their rows -/
def mn_o (c : ClassId) (N h : Nat) : Nat → Cell
  | 0 => { cls := c, slots := Array.replicate N .null, vm := .none }
  | i + 1 => (mn_o c N h i).setSlot i (.ref (h + 1 + i))
/-- a row of M ints -/
def mn_r (c : ClassId) (M : Nat) : Cell := { cls := c, slots := Array.replicate M (.int 0), vm := .none }
/-- the state, when i of the rows stand -/
def mn_s (co ci : ClassId) (N M : Nat) (T : State) : Nat → State
  | 0 => T.pushCell (mn_o co N T.heap.size 0)
  | i + 1 => ((mn_s co ci N M T i).pushCell (mn_r ci M)).setCell T.heap.size (mn_o co N T.heap.size (i + 1))
theorem mn_o_facts (c : ClassId) (N h : Nat) : ∀ i : Nat, (mn_o c N h i).cls = c ∧ (mn_o c N h i).vm = .none ∧ (mn_o c N h i).slots.size = N
  | 0 => ⟨rfl, rfl, by simp [mn_o]⟩
  | i + 1 => by
    obtain ⟨h1, h2, h3⟩ := mn_o_facts c N h i
    exact ⟨h1, h2, by simpa [mn_o, Cell.setSlot] using h3⟩
theorem mn_s_facts (co ci : ClassId) (N M : Nat) (T : State) : ∀ i : Nat, (mn_s co ci N M T i).heap.size = T.heap.size + 1 + i ∧ (mn_s co ci N M T i).heap[T.heap.size]? = some (mn_o co N T.heap.size i) ∧ (∀ a : Nat, a < T.heap.size → (mn_s co ci N M T i).heap[a]? = T.heap[a]?) ∧ (∀ j : Nat, j < i → (mn_s co ci N M T i).heap[T.heap.size + 1 + j]? = some (mn_r ci M)) ∧ (mn_s co ci N M T i).slotsUsed = T.slotsUsed + N + i * M ∧ (mn_s co ci N M T i).vm = T.vm
  | 0 => by
    refine ⟨by simp [mn_s], by simp [mn_s], fun a ha => ?_, fun j hj => absurd hj (Nat.not_lt_zero j), ?_, rfl⟩
    · show (T.heap.push _)[a]? = _
      rw [Array.getElem?_push, if_neg (by omega)]
    · show T.slotsUsed + (Array.replicate N Value.null).size = _
      rw [Array.size_replicate]; omega
  | i + 1 => by
    obtain ⟨h1, h2, h3, h4, h5, h6⟩ := mn_s_facts co ci N M T i
    have hg : ∀ a : Nat, (mn_s co ci N M T (i + 1)).heap[a]? = (((mn_s co ci N M T i).heap.push (mn_r ci M)).setIfInBounds T.heap.size (mn_o co N T.heap.size (i + 1)))[a]? := fun _ => rfl
    refine ⟨?_, ?_, fun a ha => ?_, fun j hj => ?_, ?_, h6⟩
    · show (((mn_s co ci N M T i).heap.push (mn_r ci M)).setIfInBounds T.heap.size (mn_o co N T.heap.size (i + 1))).size = _
      rw [Array.size_setIfInBounds, Array.size_push, h1]; omega
    · rw [hg, Array.getElem?_setIfInBounds, if_pos rfl, if_pos (by rw [Array.size_push, h1]; omega)]
    · rw [hg, Array.getElem?_setIfInBounds, if_neg (by omega), Array.getElem?_push, if_neg (by omega), h3 a ha]
    · rw [hg, Array.getElem?_setIfInBounds, if_neg (by omega), Array.getElem?_push]
      by_cases e : j = i
      · rw [if_pos (by rw [h1, e])]
      · rw [if_neg (by rw [h1]; omega), h4 j (by omega)]
    · show (mn_s co ci N M T i).slotsUsed + (Array.replicate M (Value.int 0)).size = _
      rw [Array.size_replicate, h5, Nat.succ_mul]; omega
/-- a frame on top is carried along -/
theorem mn_s_top (co ci : ClassId) (N M : Nat) (T : State) (f : JFrame) : ∀ i : Nat, mn_s co ci N M (T.setTop f) i = (mn_s co ci N M T i).setTop f
  | 0 => rfl
  | i + 1 => by
    show ((mn_s co ci N M (T.setTop f) i).pushCell (mn_r ci M)).setCell _ _ = _
    rw [mn_s_top co ci N M T f i]
    rfl
theorem mn_s_java (co ci : ClassId) (N M : Nat) (T : State) : ∀ i : Nat, (mn_s co ci N M T i).topJava? = T.topJava?
  | 0 => rfl
  | i + 1 => mn_s_java co ci N M T i
section
variable {E : CtlPost} {e : Env} {d : Bool} {acts : List Action} {s : State}
/-- one row -/
theorem mn_row {ci comp : ClassId} {k : Class} {w : Int32} {M : Nat} {Q : Addr → Pre} (hk : s.vm.classes[ci]? = some k) (hkind : k.kind = .array comp .int) (hw : ¬ w < 0) (hM : w.toNatClampNeg = M) (hlim : ¬ M > e.platform.arrayLengthLimit) (hheap : ¬ M * componentBytes .int > e.platform.maxHeapBytes) (hcells : s.heap.size < e.platform.maxCells) (hslots : s.slotsUsed + M ≤ e.platform.maxSlots) (hq : ∀ d' acts', Q s.heap.size d' acts' (s.pushCell (mn_r ci M))) : wp (multianewarray.make ci [w]) Q E e d acts s := by
  subst hM
  simp only [multianewarray.make, wp_bind', W.ite, hw, if_false, wp_pure', W.theClass]
  refine ⟨k, hk, ?_⟩
  simp only [hkind]
  exact W.newArray_of hk hkind hlim hheap hcells hslots rfl (fun a => hq _ a)
/-- the rows of a row -/
theorem mn_rows {co ci comp : ClassId} {ko ki : Class} {v w : Int32} {N M : Nat} {Q : Addr → Pre} (hko : s.vm.classes[co]? = some ko) (hkindo : ko.kind = .array ci (.array .int)) (hki : s.vm.classes[ci]? = some ki) (hkindi : ki.kind = .array comp .int) (hv : ¬ v < 0) (hN : v.toNatClampNeg = N) (hw : ¬ w < 0) (hM : w.toNatClampNeg = M) (hl1 : ¬ N > e.platform.arrayLengthLimit) (hh1 : ¬ N * componentBytes (.array .int) > e.platform.maxHeapBytes) (hl2 : ¬ M > e.platform.arrayLengthLimit) (hh2 : ¬ M * componentBytes .int > e.platform.maxHeapBytes) (hcells : s.heap.size + (1 + N) ≤ e.platform.maxCells) (hslots : s.slotsUsed + (N + N * M) ≤ e.platform.maxSlots) (hq : ∀ d' acts', Q s.heap.size d' acts' (mn_s co ci N M s N)) : wp (multianewarray.make co [v, w]) Q E e d acts s := by
  subst hN
  rw [multianewarray.make]
  simp only [wp_bind', W.ite, hv, if_false, wp_pure', W.theClass]
  refine ⟨ko, hko, ?_⟩
  simp only [hkindo, wp_bind']
  refine W.newArray_of hko hkindo hl1 hh1 (by omega) (by omega) rfl (fun a1 => ?_)
  have hfind : List.find? (fun x : Int32 => decide (x < 0)) [w] = none := by simp [hw]
  simp only [hfind, ite_self, wp_bind', Std.Legacy.Range.forIn_eq_forIn_range', Std.Legacy.Range.size, Nat.sub_zero, Nat.add_sub_cancel, Nat.div_one]
  refine wp_forIn_inv (fun rest s' => ∃ i : Nat, i ≤ v.toNatClampNeg ∧ rest = List.range' i (v.toNatClampNeg - i) ∧ s' = mn_s co ci v.toNatClampNeg M s i) _ _ ⟨0, Nat.zero_le _, rfl, rfl⟩ ?_ ?_
  · rintro x rest s' d' acts' Q' ⟨i, hi, hr, rfl⟩ hQ
    have hlt : i < v.toNatClampNeg := by
      rcases Nat.lt_or_ge i v.toNatClampNeg with h | h
      · exact h
      · rw [Nat.sub_eq_zero_of_le h] at hr; cases hr
    rw [show v.toNatClampNeg - i = (v.toNatClampNeg - (i + 1)) + 1 by omega, List.range'_succ] at hr
    obtain ⟨rfl, rfl⟩ := List.cons.inj hr
    obtain ⟨h1, h2, h3, h4, h5, h6⟩ := mn_s_facts co ci v.toNatClampNeg M s x
    have hm : x * M + M ≤ v.toNatClampNeg * M := by
      rw [← Nat.succ_mul]; exact Nat.mul_le_mul_right _ hlt
    simp only [wp_bind']
    refine mn_row (by rw [h6]; exact hki) hkindi hw hM hl2 hh2 (by rw [h1]; omega) (by rw [h5]; omega) (fun d1 b1 => ?_)
    rw [h1]
    simp only [wp_bind', W.writeLoc, wp_pure']
    obtain ⟨o1, o2, o3⟩ := mn_o_facts co v.toNatClampNeg s.heap.size x
    refine ⟨mn_o co v.toNatClampNeg s.heap.size x, ?_, (by rw [o2]; exact fun h => nomatch h), (by rw [o3]; exact hlt), ?_, hQ _ _ _ ⟨x + 1, hlt, rfl, rfl⟩⟩
    · show ((mn_s co ci v.toNatClampNeg M s x).heap.push _)[s.heap.size]? = _
      rw [Array.getElem?_push, if_neg (by rw [h1]; omega), h2]
    · rw [o1, o2]
      have hk' : (mn_s co ci v.toNatClampNeg M s x).vm.classes[co]? = some ko := by rw [h6]; exact hko
      simp [State.fitsSlot, State.slotType?, hk', hkindo, fits]
  · rintro s' d' acts' ⟨i, hi, hr, rfl⟩
    have hz : v.toNatClampNeg - i = 0 := by
      cases h : v.toNatClampNeg - i with
      | zero => rfl
      | succ n => rw [h, List.range'_succ] at hr; cases hr
    have : i = v.toNatClampNeg := by omega
    subst this
    exact hq _ _
/-- the instruction, by its own words -/
theorem mn_op {idx : Nat} {f : JFrame} {co ci comp : ClassId} {ko ki : Class} {vm₁ : Vm} {v w : Int32} {N M : Nat} {rest : List Value} {Q : Unit → Pre} (hs : s.topJava?.isSome) (hg : (Jvm.resolveClass f.method.cls idx).Gives e.toSetting s.vm (.ok co) vm₁) (hsz : vm₁.classes.size ≤ s.vm.classes.size) (hst : f.stack = .int w :: .int v :: rest) (hko : vm₁.classes[co]? = some ko) (hkindo : ko.kind = .array ci (.array .int)) (hki : vm₁.classes[ci]? = some ki) (hkindi : ki.kind = .array comp .int) (hv : ¬ v < 0) (hN : v.toNatClampNeg = N) (hw : ¬ w < 0) (hM : w.toNatClampNeg = M) (hl1 : ¬ N > e.platform.arrayLengthLimit) (hh1 : ¬ N * componentBytes (.array .int) > e.platform.maxHeapBytes) (hl2 : ¬ M > e.platform.arrayLengthLimit) (hh2 : ¬ M * componentBytes .int > e.platform.maxHeapBytes) (hcells : s.heap.size + (1 + N) ≤ e.platform.maxCells) (hslots : s.slotsUsed + (N + N * M) ≤ e.platform.maxSlots) (hq : ∀ d' acts', Q () d' acts' ((mn_s co ci N M (s.setVm vm₁) N).setTop { f with stack := .ref s.heap.size :: rest })) : wp (multianewarray.sem idx 2) Q E e d acts (s.setTop f) := by
  unfold multianewarray.sem
  rw [wp_bind', W.resolveClassAt_links (mm := f.method) (State.method?_setTop f hs) hg hsz]
  have hs1 : (s.setVm vm₁).topJava?.isSome := hs
  simp only [State.setVm_setTop, Jvm.popN, wp_bind', W.pop, wp_pure', State.topJava?_setTop' _ hs1, Option.some.injEq, exists_eq_left', hst, List.cons.injEq, State.setTop_setTop, List.nil_append, List.cons_append, List.mapM_cons, List.mapM_nil]
  refine ⟨_, _, ⟨rfl, rfl⟩, _, _, rfl, ?_⟩
  simp only [wp_bind', wp_pure']
  refine mn_rows (co := co) (ci := ci) (N := N) (M := M) hko hkindo hki hkindi hv hN hw hM hl1 hh1 hl2 hh2 hcells hslots (fun d1 b1 => ?_)
  rw [mn_s_top]
  have hs2 : (mn_s co ci N M (s.setVm vm₁) N).topJava?.isSome := by rw [mn_s_java]; exact hs
  simp only [W.mark, wp_bind', W.pushRef, State.topJava?_setTop' _ hs2, Option.some.injEq, exists_eq_left', State.setTop_setTop]
  exact hq _ _
end
/-- where the walk stands, when i of the rows stand -/
theorem mn_stand {p : Program} {l : Launch} {e : Env} {R : Room} {s : State} {m : MethodId} {args : Array Value} {below : List Frame} {meth : Method} {c : Code} {T : State} {locs : List Loc} {cells slots : Nat} (X : Stand p l e R s m args below meth c T locs cells slots) (co ci : ClassId) (N M : Nat) : ∀ i : Nat, Stand p l e R s m args below meth c (mn_s co ci N M T i) locs (cells + 1 + i) (slots + N + i * M)
  | 0 => by
    have := X.pushed (mn_o co N T.heap.size 0)
    rw [(mn_o_facts co N T.heap.size 0).2.2] at this
    rw [Nat.zero_mul]
    exact this
  | i + 1 => by
    have h := (mn_stand X co ci N M i).pushed (mn_r ci M)
    obtain ⟨h1, h2, -⟩ := mn_s_facts co ci N M T i
    have hc : ((mn_s co ci N M T i).pushCell (mn_r ci M)).heap[T.heap.size]? = some (mn_o co N T.heap.size i) := by
      show ((mn_s co ci N M T i).heap.push _)[T.heap.size]? = _
      rw [Array.getElem?_push, if_neg (by rw [h1]; omega), h2]
    have h3 := (h.stored hc i (.ref (T.heap.size + 1 + i))).dropFresh (fun x hx => by
      cases List.mem_singleton.mp hx
      exact X.heapGrown)
    have e : slots + N + i * M + (mn_r ci M).slots.size = slots + N + (i + 1) * M := by
      rw [show (mn_r ci M).slots.size = M from Array.size_replicate, Nat.succ_mul]; omega
    rw [e] at h3
    exact h3
/-- what is said of the class of rows of rows -/
theorem mn_over {A : Array Value} {s : State} {t : FieldType} (h : (Cond.arrayOver (.array t)).before A s = true) : ∃ (ci co : ClassId) (k : Class), s.vm.findClass (FieldType.array t).toString = some ci ∧ s.vm.findClass ("[" ++ (FieldType.array t).toString) = some co ∧ s.vm.classes[co]? = some k ∧ k.kind = .array ci (.array t) := by
  simp only [Cond.before, Cond.holds, Cond.value, beq_iff_eq, Option.bind_eq_some_iff, Option.map_eq_some_iff] at h
  obtain ⟨ci, h1, co, h2, k, h3, h4⟩ := h
  obtain ⟨hlt, hp, -⟩ := Array.findIdx?_eq_some_iff_getElem.mp h2
  have hk : s.vm.classes[co]'hlt = k := Option.some.inj ((Array.getElem?_eq_getElem hlt).symm.trans h3)
  rw [hk] at hp
  cases e : k.kind with
  | array a ty =>
    rw [e] at hp h4
    simp only [Bool.and_eq_true, decide_eq_true_eq, beq_iff_eq] at hp h4
    exact ⟨ci, co, k, h1, h4.2, h3, by rw [e, hp, h4.1]⟩
  | _ => rw [e] at h4; exact absurd h4 Bool.false_ne_true
/-- the step -/
theorem mn_step {p : Program} {l : Launch} {e : Env} {R : Room} {s : State} {m : MethodId} {args : Array Value} {below : List Frame} {meth : Method} {c : Code} {T : State} {locs : List Loc} {cells slots : Nat} (X : Stand p l e R s m args below meth c T locs cells slots) (hexec : p.tables.exec = Jvm.exec) {own : String} {idx : Nat} (hown : s.vm.findClass own = some m.cls) (hlink : (Cond.classLink own idx ("[" ++ (FieldType.array .int).toString)).before args s = true) (hover : (Cond.arrayOver (.array .int)).before args s = true) (harr : (Cond.arrayClass .int).before args s = true) {g : JFrame} (hg : g.method = m) (hd : decode c.code g.pc = .ok (.multianewarray idx 2, 4)) {v w : Int32} {N M : Nat} {rest : List Value} (hst : g.stack = .int w :: .int v :: rest) (hv : ¬ v < 0) (hN : v.toNatClampNeg = N) (hw : ¬ w < 0) (hM : w.toNatClampNeg = M) (hNb : N ≤ 100000) (hMb : M ≤ 100000) (hc : cells + (1 + N) ≤ R.cells) (hn : slots + (N + N * M) ≤ R.slots) : ∃ (vm₁ : Vm) (co ci : ClassId), s.vm.findClass ("[" ++ (FieldType.array .int).toString) = some co ∧ s.vm.findClass (FieldType.array .int).toString = some ci ∧ Stand p l e R s m args below meth c (mn_s co ci N M (T.setVm vm₁) N) locs (cells + 1 + N) (slots + N + N * M) ∧ ∀ target, Steps p.tables e below ((mn_s co ci N M (T.setVm vm₁) N).setTop { g with pc := g.pc + 4, stack := .ref T.heap.size :: rest }) target → Steps p.tables e below (T.setTop g) target := by
  subst hg
  have hpl : e.platform.magicAccessors = ({} : Platform).magicAccessors := by rw [X.admits.platform]
  obtain ⟨ci, co, ko, f1, f2, f3, f4⟩ := mn_over hover
  obtain ⟨ci', ki, comp, g1, g2, g3⟩ := Cond.arrayClass_spec harr
  cases f1.symm.trans g1
  obtain ⟨co', l1, l2⟩ := Cond.classLink_spec hown hlink e.platform hpl
  cases f2.symm.trans l1
  obtain ⟨r1, r2, -⟩ := State.classEntry (e := e) X.warmed l2
  generalize T.vm.noted g.method.cls idx (.cls co) = vm₁ at r1 r2
  obtain ⟨ko1, k1, k2⟩ := r2.alike.2.2 _ _ f3
  obtain ⟨ki1, k3, k4⟩ := r2.alike.2.2 _ _ g2
  obtain ⟨hr1, hr2⟩ := X.roomAbove hc hn
  have hsz : vm₁.classes.size ≤ T.vm.classes.size := by rw [r2.alike.2.1, X.warmed.alike.2.1]; exact Nat.le_refl _
  refine ⟨vm₁, co, ci, f2, f1, mn_stand (X.noted r2) co ci N M N, fun target hrest => ?_⟩
  refine Steps.instr (c := c) X.here ?_
  rw [hd]
  show wpRun (p.tables.exec _) _ _ _ _
  rw [hexec]
  show wp (multianewarray.sem idx 2) _ _ _ _ _ _
  have lim := Launch.admits_arrayLengthLimit X.admits
  have mx := Launch.admits_maxHeapBytes X.admits
  refine mn_op (N := N) (M := M) (co := co) (ci := ci) X.here.top r1 hsz hst k1 (by rw [k2]; exact f4) k3 (by rw [k4]; exact g3) hv hN hw hM (by rw [lim]; omega) (by rw [mx]; show ¬ N * 4 > 536870912; omega) (by rw [lim]; omega) (by rw [mx]; show ¬ M * 4 > 536870912; omega) hr1 hr2 (fun d' a' acts2 => ?_)
  rw [afterInstr_ok]
  exact hrest
/-- the outer row as a row of places -/
theorem mn_o_arr (c : ClassId) (N h : Nat) : ∀ i : Nat, mn_o c N h i = arrV c N (fun j => va_rf (if j < i then some (h + 1 + j) else none))
  | 0 => by
    show ({ cls := c, slots := Array.replicate N .null, vm := .none } : Cell) = _
    rw [arrV_new]
    refine congrArg (arrV c N) (funext fun j => ?_)
    simp [va_rf]
  | i + 1 => by
    show (mn_o c N h i).setSlot i (.ref (h + 1 + i)) = _
    rw [mn_o_arr c N h i, arrV_store]
    refine congrArg (arrV c N) (funext fun j => ?_)
    by_cases e : j = i
    · subst e
      simp [updV, va_rf]
    · by_cases h : j < i
      · simp [updV, e, h, Nat.lt_succ_of_lt h]
      · simp [updV, e, h, show ¬ j < i + 1 by omega]
theorem q_P_apps {cy : Nat → ClassId} {D : va_G} {base : Nat} {σ es : Shp} {I : Mem} {J : Lng} {H H1 : Heap} (hP : va_P D vwCl (q_ws cy base I J 0 σ) H) (ho : ∀ q, q < H.size → H1[q]? = H[q]?) (h1 : ∀ (j : Nat) (e : Ent), es[j]? = some e → va_at D vwCl (base + (σ.length + j), q_cell cy base e (I (σ.length + j)) (J (σ.length + j))) H1) : va_P D vwCl (q_ws cy base I J 0 (σ ++ es)) H1 := by
  intro k q hk
  rw [q_ws_get, Nat.zero_add] at hk
  by_cases hl : k < σ.length
  · rw [List.getElem?_append_left hl] at hk
    have hk2 : (q_ws cy base I J 0 σ)[k]? = some q := by rw [q_ws_get, Nat.zero_add]; exact hk
    have h := hP k q hk2
    exact h.kept (ho _ h.lt)
  · rw [List.getElem?_append_right (by omega)] at hk
    cases he : es[k - σ.length]? with
    | none => rw [he] at hk; cases hk
    | some e =>
      rw [he] at hk
      cases hk
      have := h1 (k - σ.length) e he
      rw [show σ.length + (k - σ.length) = k by omega] at this
      exact this
section
variable {own nm : String} {cc : ByteArray} {nL : Nat} {rop : Instr} {d mc ms : Nat} {X : Option (Nat × (Nat → Int32))} {Q : List Value → Shp → Mem → Lng → Nat → Nat → Prop} {k n pc : Nat} {L : List (Option Value)} {st : List Value} {σ : Shp} {I : Mem} {J : Lng}
set_option maxHeartbeats 4000000 in
theorem s_mna {idx N M : Nat} {v w : Int32} (hd : decode cc pc = .ok (.multianewarray idx 2, 4)) (hl : Cond.classLink own idx ("[" ++ (FieldType.array FieldType.int).toString) ∈ q_U) (harr : Cond.arrayClass .int ∈ q_U) (hv : ¬ v < 0) (hw : ¬ w < 0) (hN : v.toNatClampNeg = N) (hM : w.toNatClampNeg = M) (hNb : N ≤ 100000) (hMb : M ≤ 100000) (hI : ∀ j, I (σ.length + j) = fun _ => 0) (hk : k + (1 + N) ≤ mc) (hn : n + (N + N * M) ≤ ms)
    (K : q_WP own nm cc nL rop d mc ms X Q (k + 1 + N) (n + N + N * M) (pc + 4) L (.ref σ.length :: st) (σ ++ ((4, N, (List.range N).map (fun j => some (σ.length + 1 + j))) :: List.replicate N (0, M, []))) I J) : q_WP own nm cc nL rop d mc ms X Q k n pc L (.int w :: .int v :: st) σ I J := by
  intro p l e0 R s m args below meth c0 Qm cy D base b C E H locs ls hW hS hL T hT Xs
  have hsz := q_size hT Xs hW C.2.2.2.2.2.2.2.1 hS.1
  have hR := C.2.2.2.2.2.2.1
  subst hN
  subst hM
  obtain ⟨vm₁, cA, comp, fA, fC, X', step⟩ := mn_step Xs C.1 C.2.2.2.1 (C.2.2.2.2.1 _ hl) C.2.2.2.2.2.1.2.2.2.2 (C.2.2.2.2.1 _ harr) (g := F0 m pc ls (.int w :: .int v :: st.map (q_tr base b))) rfl (by rw [C.2.1]; exact hd) rfl hv rfl hw rfl hNb hMb (by omega) (by omega)
  have h0 : s.vm.findClass ("[" ++ (FieldType.int).toString) = some (cy 0) := (C.2.2.2.2.2.1.1.2 0 _ rfl).2
  have e0' : comp = cy 0 := Option.some.inj (fC.symm.trans h0)
  have h4 : s.vm.findClass ("[" ++ (FieldType.array FieldType.int).toString) = some (cy 4) := (C.2.2.2.2.2.1.1.2 4 _ rfl).2
  have e4 : cA = cy 4 := Option.some.inj (fA.symm.trans h4)
  subst e0'; subst e4
  obtain ⟨f1, f2, hold, hrow, -, -⟩ := mn_s_facts (cy 4) (cy 0) v.toNatClampNeg w.toNatClampNeg (T.setVm vm₁) v.toNatClampNeg
  generalize mn_s (cy 4) (cy 0) v.toNatClampNeg w.toNatClampNeg (T.setVm vm₁) v.toNatClampNeg = F at X' step f1 f2 hold hrow
  have hTh : (T.setVm vm₁).heap = H := hT
  rw [hTh] at f1 f2 hold hrow
  have hz : s.heap.size + (k + 1 + v.toNatClampNeg) = base + (σ ++ ((4, v.toNatClampNeg, (List.range v.toNatClampNeg).map (fun j => some (σ.length + 1 + j))) :: List.replicate v.toNatClampNeg (0, w.toNatClampNeg, [])) : Shp).length := by
    have := hW.2
    simp only [List.length_append, List.length_cons, List.length_replicate]; omega
  have hP1 : va_P D vwCl (q_ws cy base I J 0 (σ ++ ((4, v.toNatClampNeg, (List.range v.toNatClampNeg).map (fun j => some (σ.length + 1 + j))) :: List.replicate v.toNatClampNeg (0, w.toNatClampNeg, [])))) F.heap := by
    refine q_P_apps hW.1 hold (fun j e he => ?_)
    cases j with
    | zero =>
      cases he
      rw [q_cell_q (e := (4, v.toNatClampNeg, (List.range v.toNatClampNeg).map (fun j => some (σ.length + 1 + j)))) (c := 4) rfl (by decide) (by decide)]
      show F.heap[base + (σ.length + 0)]? = some (vp_cell _ _)
      rw [Nat.add_zero, ← hsz, f2, vp_cell_q, mn_o_arr]
      congr 2
      funext i
      unfold q_rw
      by_cases hi : i < v.toNatClampNeg
      · rw [if_pos hi, List.getD, List.getElem?_map, List.getElem?_range hi]
        show va_rf (some (H.size + 1 + i)) = va_rf (some (base + (σ.length + 1 + i)))
        rw [hsz]; congr 2; omega
      · rw [if_neg hi, List.getD, List.getElem?_map, List.getElem?_eq_none (by rw [List.length_range]; omega)]
        rfl
    | succ j =>
      rw [List.getElem?_cons_succ, List.getElem?_replicate] at he
      split at he
      · rename_i hj
        cases he
        rw [q_cell_i (e := (0, w.toNatClampNeg, [])) (c := 0) rfl (by decide), hI]
        show F.heap[base + (σ.length + (j + 1))]? = some (vp_cell _ _)
        rw [show base + (σ.length + (j + 1)) = H.size + 1 + j by rw [hsz]; omega, hrow j hj, vp_cell_i]
        show some ({ cls := cy 0, slots := Array.replicate w.toNatClampNeg (.int 0), vm := .none } : Cell) = _
        rw [arrV_new]
      · cases he
  have hS1 : va_S (fun q => base ≤ q) s.heap F.heap locs := q_S_app hS (by rw [f1]; omega) hold
  obtain ⟨t2, a1, b1⟩ := K p l e0 R s m args below meth c0 Qm cy D base b C E F.heap locs ls ⟨hP1, hz⟩ hS1 hL F rfl X'
  refine ⟨t2, step t2 ?_, b1⟩
  have e : (F0 m (pc + 4) ls ((Value.ref σ.length :: st).map (q_tr base b))) = { (F0 m pc ls (Value.int w :: Value.int v :: st.map (q_tr base b))) with pc := (F0 m pc ls (Value.int w :: Value.int v :: st.map (q_tr base b))).pc + 4, stack := Value.ref T.heap.size :: st.map (q_tr base b) } := by rw [hT, hsz]; rfl
  rw [← e]
  exact a1
end
end
