/-! ===== BEGIN words of one list among another's, by their places ===== -/
theorem goodIn_r {big : List Cond} (ws : List Cond) (ps : List Nat) (hp : ws = ps.filterMap (fun i => big[i]?)) (h : ws.all goodWord = true) : GoodIn big ws := by
  intro w hw
  have h1 := List.all_eq_true.mp h w hw
  rw [hp] at hw
  obtain ⟨i, -, hi⟩ := List.mem_filterMap.mp hw
  have hm : w ∈ big := by first | exact List.mem_of_getElem? hi | exact List.getElem?_mem hi
  exact ⟨hm, good_of_word h1⟩
theorem goodIn_app {big a b : List Cond} (ha : GoodIn big a) (hb : GoodIn big b) : GoodIn big (a ++ b) := fun w h => (List.mem_append.mp h).elim (ha w) (hb w)
theorem goodIn_ca {big a b : List Cond} {c : Cond} (ha : GoodIn big (c :: a)) (hb : GoodIn big b) : GoodIn big (c :: (a ++ b)) := fun w h => (List.mem_cons.mp h).elim (fun e => ha w (List.mem_cons.mpr (Or.inl e))) (fun h => (List.mem_append.mp h).elim (fun h => ha w (List.mem_cons.mpr (Or.inr h))) (hb w))
theorem goodIn_sub {big ws : List Cond} (hm : ∀ w ∈ ws, w ∈ big) (h : ws.all goodWord = true) : GoodIn big ws := fun w hw => ⟨hm w hw, good_of_word (List.all_eq_true.mp h w hw)⟩
/-! ===== END ===== -/

/-! ===== BEGIN printed: names, fields, word lists, decode rows ===== -/
def RX0 : String := "DotCover$Layer"
def TX0 : u_T := fun k => match k with
  | 0 => ("DotCover$Layer", "xs", "[I", true)
  | 1 => ("DotCover$Layer", "ys", "[I", true)
  | 2 => ("DotCover$Layer", "size", "I", false)
  | _ => ("DotCover$Layer", "folding", "I", false)
def tyX0 : Nat → FieldType := fun k => match k with
  | 0 => .array .int
  | 1 => .array .int
  | 2 => .int
  | _ => .int
abbrev wsX00 : List Cond := u_ws RX0 TX0 4
theorem nmX0 : ∀ a, a < 4 → ∀ b, b < 4 → a ≠ b → (TX0 a).2.1 ≠ (TX0 b).2.1 := by decide +kernel
theorem tyX0_ok : ∀ k, k < 4 → parseFieldDescriptor (TX0 k).2.2.1 = some (tyX0 k) := by decide +kernel
abbrev cX0_init : ByteArray := prog_2_method_1_code
def yX0_init : MethodName := ⟨RX0, "<init>", "()V"⟩
abbrev cX0_has : ByteArray := prog_2_method_2_code
def yX0_has : MethodName := ⟨RX0, "has", "(I)Z"⟩
abbrev cX0_add : ByteArray := prog_2_method_3_code
def yX0_add : MethodName := ⟨RX0, "add", "(II)I"⟩
abbrev cX0_copyFrom : ByteArray := prog_2_method_4_code
def yX0_copyFrom : MethodName := ⟨RX0, "copyFrom", "(LDotCover$Layer;)V"⟩
abbrev cX0_staysInField : ByteArray := prog_2_method_5_code
def yX0_staysInField : MethodName := ⟨RX0, "staysInField", "(II)Z"⟩
abbrev cX0_shift : ByteArray := prog_2_method_6_code
def yX0_shift : MethodName := ⟨RX0, "shift", "(II)V"⟩
abbrev cX0_reverse : ByteArray := prog_2_method_7_code
def yX0_reverse : MethodName := ⟨RX0, "reverse", "(II)V"⟩
abbrev cX0_swap : ByteArray := prog_2_method_8_code
def yX0_swap : MethodName := ⟨RX0, "swap", "(II)V"⟩
abbrev cX0_startAt : ByteArray := prog_2_method_9_code
def yX0_startAt : MethodName := ⟨RX0, "startAt", "(I)V"⟩
abbrev cX0_bestMove : ByteArray := prog_2_method_10_code
def yX0_bestMove : MethodName := ⟨RX0, "bestMove", "(I)I"⟩
abbrev cX0_least : ByteArray := prog_2_method_11_code
def yX0_least : MethodName := ⟨RX0, "least", "([I)I"⟩
abbrev cX0_greatest : ByteArray := prog_2_method_12_code
def yX0_greatest : MethodName := ⟨RX0, "greatest", "([I)I"⟩
abbrev cX0_wholeDots : ByteArray := prog_2_method_13_code
def yX0_wholeDots : MethodName := ⟨RX0, "wholeDots", "(IIIII)I"⟩
abbrev cX0_coverParts : ByteArray := prog_2_method_14_code
def yX0_coverParts : MethodName := ⟨RX0, "coverParts", "(III)J"⟩
abbrev cX0_rawParts : ByteArray := prog_2_method_15_code
def yX0_rawParts : MethodName := ⟨RX0, "rawParts", "(III)J"⟩
abbrev cX0_leftOfEdge : ByteArray := prog_2_method_16_code
def yX0_leftOfEdge : MethodName := ⟨RX0, "leftOfEdge", "(IIIIII)J"⟩
abbrev cX0_beforeEdge : ByteArray := prog_2_method_17_code
def yX0_beforeEdge : MethodName := ⟨RX0, "beforeEdge", "(IIIII)J"⟩
def RX1 : String := "DotCover$Scene"
def TX1 : u_T := fun k => match k with
  | _ => ("DotCover$Scene", "layers", "[LDotCover$Layer;", true)
def tyX1 : Nat → FieldType := fun k => match k with
  | _ => .array (.object "DotCover$Layer")
abbrev wsX10 : List Cond := u_ws RX1 TX1 1
theorem nmX1 : ∀ a, a < 1 → ∀ b, b < 1 → a ≠ b → (TX1 a).2.1 ≠ (TX1 b).2.1 := by decide +kernel
theorem tyX1_ok : ∀ k, k < 1 → parseFieldDescriptor (TX1 k).2.2.1 = some (tyX1 k) := by decide +kernel
abbrev cX1_init : ByteArray := prog_3_method_1_code
def yX1_init : MethodName := ⟨RX1, "<init>", "()V"⟩
abbrev cX1_layerOf : ByteArray := prog_3_method_2_code
def yX1_layerOf : MethodName := ⟨RX1, "layerOf", "(I)LDotCover$Layer;"⟩
abbrev cX1_copyFrom : ByteArray := prog_3_method_3_code
def yX1_copyFrom : MethodName := ⟨RX1, "copyFrom", "(LDotCover$Scene;)V"⟩
abbrev cX1_pointsOfAll : ByteArray := prog_3_method_4_code
def yX1_pointsOfAll : MethodName := ⟨RX1, "pointsOfAll", "()I"⟩
abbrev cX1_togetherParts : ByteArray := prog_3_method_5_code
def yX1_togetherParts : MethodName := ⟨RX1, "togetherParts", "(I)J"⟩
abbrev cX1_mostCoveredDot : ByteArray := prog_3_method_6_code
def yX1_mostCoveredDot : MethodName := ⟨RX1, "mostCoveredDot", "()I"⟩
abbrev cX1_leastCoveredDot : ByteArray := prog_3_method_7_code
def yX1_leastCoveredDot : MethodName := ⟨RX1, "leastCoveredDot", "()I"⟩
abbrev cX1_dotsWithTogether : ByteArray := prog_3_method_8_code
def yX1_dotsWithTogether : MethodName := ⟨RX1, "dotsWithTogether", "(J)I"⟩
def RX2 : String := "DotCover"
def TX2 : u_T := fun k => match k with
  | 0 => ("DotCover", "now", "LDotCover$Scene;", true)
  | 1 => ("DotCover", "images", "[LDotCover$Scene;", true)
  | _ => ("DotCover", "keptImages", "I", false)
def tyX2 : Nat → FieldType := fun k => match k with
  | 0 => .object "DotCover$Scene"
  | 1 => .array (.object "DotCover$Scene")
  | _ => .int
abbrev wsX20 : List Cond := u_ws RX2 TX2 3
theorem nmX2 : ∀ a, a < 3 → ∀ b, b < 3 → a ≠ b → (TX2 a).2.1 ≠ (TX2 b).2.1 := by decide +kernel
theorem tyX2_ok : ∀ k, k < 3 → parseFieldDescriptor (TX2 k).2.2.1 = some (tyX2 k) := by decide +kernel
abbrev cX2_init : ByteArray := prog_1_method_1_code
def yX2_init : MethodName := ⟨RX2, "<init>", "()V"⟩
abbrev cX2_point : ByteArray := prog_1_method_2_code
def yX2_point : MethodName := ⟨RX2, "point", "(III)I"⟩
abbrev cX2_pop : ByteArray := prog_1_method_3_code
def yX2_pop : MethodName := ⟨RX2, "pop", "(I)I"⟩
abbrev cX2_set : ByteArray := prog_1_method_4_code
def yX2_set : MethodName := ⟨RX2, "set", "(IIII)I"⟩
abbrev cX2_rule : ByteArray := prog_1_method_5_code
def yX2_rule : MethodName := ⟨RX2, "rule", "(II)I"⟩
abbrev cX2_move : ByteArray := prog_1_method_6_code
def yX2_move : MethodName := ⟨RX2, "move", "(III)I"⟩
abbrev cX2_back : ByteArray := prog_1_method_7_code
def yX2_back : MethodName := ⟨RX2, "back", "(I)I"⟩
abbrev cX2_begin : ByteArray := prog_1_method_8_code
def yX2_begin : MethodName := ⟨RX2, "begin", "(II)I"⟩
abbrev cX2_at : ByteArray := prog_1_method_9_code
def yX2_at : MethodName := ⟨RX2, "at", "(III)I"⟩
abbrev cX2_raw : ByteArray := prog_1_method_10_code
def yX2_raw : MethodName := ⟨RX2, "raw", "(III)J"⟩
abbrev cX2_cover : ByteArray := prog_1_method_11_code
def yX2_cover : MethodName := ⟨RX2, "cover", "(III)J"⟩
abbrev cX2_together : ByteArray := prog_1_method_12_code
def yX2_together : MethodName := ⟨RX2, "together", "(II)J"⟩
abbrev cX2_area : ByteArray := prog_1_method_13_code
def yX2_area : MethodName := ⟨RX2, "area", "(II)J"⟩
abbrev cX2_enough : ByteArray := prog_1_method_14_code
def yX2_enough : MethodName := ⟨RX2, "enough", "(III)I"⟩
abbrev cX2_field : ByteArray := prog_1_method_15_code
def yX2_field : MethodName := ⟨RX2, "field", "(I)I"⟩
abbrev cX2_best : ByteArray := prog_1_method_16_code
def yX2_best : MethodName := ⟨RX2, "best", "(II)I"⟩
abbrev cX2_same : ByteArray := prog_1_method_17_code
def yX2_same : MethodName := ⟨RX2, "same", "(II)I"⟩
abbrev cX2_image : ByteArray := prog_1_method_18_code
def yX2_image : MethodName := ⟨RX2, "image", "(I)I"⟩
abbrev cX2_restore : ByteArray := prog_1_method_19_code
def yX2_restore : MethodName := ⟨RX2, "restore", "(I)I"⟩
abbrev cX2_count : ByteArray := prog_1_method_20_code
def yX2_count : MethodName := ⟨RX2, "count", "(I)I"⟩
abbrev cX2_within : ByteArray := prog_1_method_21_code
def yX2_within : MethodName := ⟨RX2, "within", "(III)Z"⟩
abbrev cX2_inField : ByteArray := prog_1_method_22_code
def yX2_inField : MethodName := ⟨RX2, "inField", "(I)Z"⟩
abbrev cX2_isDot : ByteArray := prog_1_method_23_code
def yX2_isDot : MethodName := ⟨RX2, "isDot", "(I)Z"⟩
abbrev cX2_lowestTerms : ByteArray := prog_1_method_24_code
def yX2_lowestTerms : MethodName := ⟨RX2, "lowestTerms", "(JJI)J"⟩
abbrev cX2_greatestDivisor : ByteArray := prog_1_method_25_code
def yX2_greatestDivisor : MethodName := ⟨RX2, "greatestDivisor", "(JJ)J"⟩
def RX3 : String := "DotCoverModel"
def TX3 : u_T := fun k => match k with
  | 0 => ("DotCoverModel", "state", "[I", true)
  | 1 => ("DotCoverModel", "images", "[I", true)
  | 2 => ("DotCoverModel", "isKept", "[Z", true)
  | 3 => ("DotCoverModel", "wasX", "[I", true)
  | 4 => ("DotCoverModel", "wasY", "[I", true)
  | 5 => ("DotCoverModel", "px", "[J", true)
  | 6 => ("DotCoverModel", "py", "[J", true)
  | 7 => ("DotCoverModel", "corners", "I", false)
  | 8 => ("DotCoverModel", "leftX", "[J", true)
  | 9 => ("DotCoverModel", "leftY", "[J", true)
  | _ => ("DotCoverModel", "left", "I", false)
def tyX3 : Nat → FieldType := fun k => match k with
  | 0 => .array .int
  | 1 => .array .int
  | 2 => .array .boolean
  | 3 => .array .int
  | 4 => .array .int
  | 5 => .array .long
  | 6 => .array .long
  | 7 => .int
  | 8 => .array .long
  | 9 => .array .long
  | _ => .int
abbrev wsX30 : List Cond := u_ws RX3 TX3 11
theorem nmX3 : ∀ a, a < 11 → ∀ b, b < 11 → a ≠ b → (TX3 a).2.1 ≠ (TX3 b).2.1 := by decide +kernel
theorem tyX3_ok : ∀ k, k < 11 → parseFieldDescriptor (TX3 k).2.2.1 = some (tyX3 k) := by decide +kernel
abbrev cX3_init : ByteArray := prog_5_method_1_code
def yX3_init : MethodName := ⟨RX3, "<init>", "()V"⟩
abbrev cX3_in : ByteArray := prog_5_method_2_code
def yX3_in : MethodName := ⟨RX3, "in", "(III)Z"⟩
abbrev cX3_isLayer : ByteArray := prog_5_method_3_code
def yX3_isLayer : MethodName := ⟨RX3, "isLayer", "(I)Z"⟩
abbrev cX3_isDot : ByteArray := prog_5_method_4_code
def yX3_isDot : MethodName := ⟨RX3, "isDot", "(I)Z"⟩
abbrev cX3_isHere : ByteArray := prog_5_method_5_code
def yX3_isHere : MethodName := ⟨RX3, "isHere", "(II)Z"⟩
abbrev cX3_isPoint : ByteArray := prog_5_method_6_code
def yX3_isPoint : MethodName := ⟨RX3, "isPoint", "(II)Z"⟩
abbrev cX3_place : ByteArray := prog_5_method_7_code
def yX3_place : MethodName := ⟨RX3, "place", "(II)I"⟩
abbrev cX3_point : ByteArray := prog_5_method_8_code
def yX3_point : MethodName := ⟨RX3, "point", "(III)I"⟩
abbrev cX3_pop : ByteArray := prog_5_method_9_code
def yX3_pop : MethodName := ⟨RX3, "pop", "(I)I"⟩
abbrev cX3_set : ByteArray := prog_5_method_10_code
def yX3_set : MethodName := ⟨RX3, "set", "(IIII)I"⟩
abbrev cX3_rule : ByteArray := prog_5_method_11_code
def yX3_rule : MethodName := ⟨RX3, "rule", "(II)I"⟩
abbrev cX3_canMove : ByteArray := prog_5_method_12_code
def yX3_canMove : MethodName := ⟨RX3, "canMove", "(III)Z"⟩
abbrev cX3_move : ByteArray := prog_5_method_13_code
def yX3_move : MethodName := ⟨RX3, "move", "(III)I"⟩
abbrev cX3_putAside : ByteArray := prog_5_method_14_code
def yX3_putAside : MethodName := ⟨RX3, "putAside", "(I)V"⟩
abbrev cX3_layFrom : ByteArray := prog_5_method_15_code
def yX3_layFrom : MethodName := ⟨RX3, "layFrom", "(III)V"⟩
abbrev cX3_back : ByteArray := prog_5_method_16_code
def yX3_back : MethodName := ⟨RX3, "back", "(I)I"⟩
abbrev cX3_begin : ByteArray := prog_5_method_17_code
def yX3_begin : MethodName := ⟨RX3, "begin", "(II)I"⟩
abbrev cX3_at : ByteArray := prog_5_method_18_code
def yX3_at : MethodName := ⟨RX3, "at", "(III)I"⟩
abbrev cX3_layPath : ByteArray := prog_5_method_19_code
def yX3_layPath : MethodName := ⟨RX3, "layPath", "(III)V"⟩
abbrev cX3_leave : ByteArray := prog_5_method_20_code
def yX3_leave : MethodName := ⟨RX3, "leave", "(JJ)V"⟩
abbrev cX3_within : ByteArray := prog_5_method_21_code
def yX3_within : MethodName := ⟨RX3, "within", "(IIJ)J"⟩
abbrev cX3_leaveCrossing : ByteArray := prog_5_method_22_code
def yX3_leaveCrossing : MethodName := ⟨RX3, "leaveCrossing", "(IIIJ)V"⟩
abbrev cX3_cutSide : ByteArray := prog_5_method_23_code
def yX3_cutSide : MethodName := ⟨RX3, "cutSide", "(IJ)V"⟩
abbrev cX3_twiceArea : ByteArray := prog_5_method_24_code
def yX3_twiceArea : MethodName := ⟨RX3, "twiceArea", "()J"⟩
abbrev cX3_rawOf : ByteArray := prog_5_method_25_code
def yX3_rawOf : MethodName := ⟨RX3, "rawOf", "(IIII)J"⟩
abbrev cX3_plain : ByteArray := prog_5_method_26_code
def yX3_plain : MethodName := ⟨RX3, "plain", "(J)J"⟩
abbrev cX3_coverMoved : ByteArray := prog_5_method_27_code
def yX3_coverMoved : MethodName := ⟨RX3, "coverMoved", "(IIII)J"⟩
abbrev cX3_coverOf : ByteArray := prog_5_method_28_code
def yX3_coverOf : MethodName := ⟨RX3, "coverOf", "(II)J"⟩
abbrev cX3_common : ByteArray := prog_5_method_29_code
def yX3_common : MethodName := ⟨RX3, "common", "(JJ)J"⟩
abbrev cX3_told : ByteArray := prog_5_method_30_code
def yX3_told : MethodName := ⟨RX3, "told", "(JJI)J"⟩
abbrev cX3_isPart : ByteArray := prog_5_method_31_code
def yX3_isPart : MethodName := ⟨RX3, "isPart", "(I)Z"⟩
abbrev cX3_raw : ByteArray := prog_5_method_32_code
def yX3_raw : MethodName := ⟨RX3, "raw", "(III)J"⟩
abbrev cX3_cover : ByteArray := prog_5_method_33_code
def yX3_cover : MethodName := ⟨RX3, "cover", "(III)J"⟩
abbrev cX3_openOf : ByteArray := prog_5_method_34_code
def yX3_openOf : MethodName := ⟨RX3, "openOf", "(I)J"⟩
abbrev cX3_whole : ByteArray := prog_5_method_35_code
def yX3_whole : MethodName := ⟨RX3, "whole", "()J"⟩
abbrev cX3_together : ByteArray := prog_5_method_36_code
def yX3_together : MethodName := ⟨RX3, "together", "(II)J"⟩
abbrev cX3_area : ByteArray := prog_5_method_37_code
def yX3_area : MethodName := ⟨RX3, "area", "(II)J"⟩
abbrev cX3_enough : ByteArray := prog_5_method_38_code
def yX3_enough : MethodName := ⟨RX3, "enough", "(III)I"⟩
abbrev cX3_field : ByteArray := prog_5_method_39_code
def yX3_field : MethodName := ⟨RX3, "field", "(I)I"⟩
abbrev cX3_fullMoved : ByteArray := prog_5_method_40_code
def yX3_fullMoved : MethodName := ⟨RX3, "fullMoved", "(III)I"⟩
abbrev cX3_best : ByteArray := prog_5_method_41_code
def yX3_best : MethodName := ⟨RX3, "best", "(II)I"⟩
abbrev cX3_same : ByteArray := prog_5_method_42_code
def yX3_same : MethodName := ⟨RX3, "same", "(II)I"⟩
abbrev cX3_image : ByteArray := prog_5_method_43_code
def yX3_image : MethodName := ⟨RX3, "image", "(I)I"⟩
abbrev cX3_restore : ByteArray := prog_5_method_44_code
def yX3_restore : MethodName := ⟨RX3, "restore", "(I)I"⟩
abbrev cX3_count : ByteArray := prog_5_method_45_code
def yX3_count : MethodName := ⟨RX3, "count", "(I)I"⟩
def RJ9 : String := "java/lang/Math"
def TJ9 : u_T := fun k => match k with
  | _ => ("", "", "", false)
def tyJ9 : Nat → FieldType := fun k => match k with
  | _ => .int
abbrev wsJ90 : List Cond := u_ws RJ9 TJ9 0
theorem nmJ9 : ∀ a, a < 0 → ∀ b, b < 0 → a ≠ b → (TJ9 a).2.1 ≠ (TJ9 b).2.1 := by decide +kernel
theorem tyJ9_ok : ∀ k, k < 0 → parseFieldDescriptor (TJ9 k).2.2.1 = some (tyJ9 k) := by decide +kernel
abbrev cJ9_abs_0f7a4 : ByteArray := prog_6_method_59_code
def yJ9_abs_0f7a4 : MethodName := ⟨RJ9, "abs", "(I)I"⟩
abbrev cJ9_abs_067f4 : ByteArray := prog_6_method_61_code
def yJ9_abs_067f4 : MethodName := ⟨RJ9, "abs", "(J)J"⟩
abbrev cJ9_max_7cf53 : ByteArray := prog_6_method_65_code
def yJ9_max_7cf53 : MethodName := ⟨RJ9, "max", "(II)I"⟩
abbrev cJ9_min_7cf53 : ByteArray := prog_6_method_69_code
def yJ9_min_7cf53 : MethodName := ⟨RJ9, "min", "(II)I"⟩
abbrev cJ9_min_f86c9 : ByteArray := prog_6_method_70_code
def yJ9_min_f86c9 : MethodName := ⟨RJ9, "min", "(JJ)J"⟩
def RL : String := "DotCoverLaw"
abbrev cL_law : ByteArray := code
def yL_law : MethodName := ⟨RL, "law", "([I)Z"⟩
def wsX0_init : List Cond := .code yX0_init cX0_init 1 none :: ([.methodLink RX0 3 objectInit, .instanceMethod objectInit, .code objectInit ⟨#[0xb1]⟩ 1 none, .arrayClass .int, .fieldLink RX0 9 "DotCover$Layer" "xs" "[I", .fieldLink RX0 15 "DotCover$Layer" "ys" "[I", .fieldLink RX0 18 "DotCover$Layer" "size" "I", .fieldLink RX0 22 "DotCover$Layer" "folding" "I"] ++ wsX00)
def wsX0_has : List Cond := .code yX0_has cX0_has 2 (some .boolean) :: ([.fieldLink RX0 18 "DotCover$Layer" "size" "I"] ++ wsX00)
def wsX0_add : List Cond := .code yX0_add cX0_add 4 (some .int) :: ([.fieldLink RX0 18 "DotCover$Layer" "size" "I", .fieldLink RX0 9 "DotCover$Layer" "xs" "[I", .fieldLink RX0 15 "DotCover$Layer" "ys" "[I"] ++ wsX00)
def wsX0_copyFrom : List Cond := .code yX0_copyFrom cX0_copyFrom 3 none :: ([.fieldLink RX0 9 "DotCover$Layer" "xs" "[I", .fieldLink RX0 15 "DotCover$Layer" "ys" "[I", .fieldLink RX0 18 "DotCover$Layer" "size" "I", .fieldLink RX0 22 "DotCover$Layer" "folding" "I"] ++ wsX00)
def wsX2_within : List Cond := .code yX2_within cX2_within 3 (some .boolean) :: ([])
def wsX2_inField : List Cond := .code yX2_inField cX2_inField 1 (some .boolean) :: ([.methodLink RX2 51 yX2_within, .static yX2_within, .initialized RX2, .code yX2_within cX2_within 3 (some .boolean)])
def wsX0_staysInField : List Cond := .code yX0_staysInField cX0_staysInField 4 (some .boolean) :: ([.fieldLink RX0 18 "DotCover$Layer" "size" "I", .fieldLink RX0 9 "DotCover$Layer" "xs" "[I", .fieldLink RX0 15 "DotCover$Layer" "ys" "[I", .static yX2_inField, .initialized RX2, .code yX2_inField cX2_inField 1 (some .boolean), .methodLink RX2 51 yX2_within, .static yX2_within, .code yX2_within cX2_within 3 (some .boolean)] ++ wsX00)
def wsX0_shift : List Cond := .code yX0_shift cX0_shift 4 none :: ([.fieldLink RX0 18 "DotCover$Layer" "size" "I", .fieldLink RX0 9 "DotCover$Layer" "xs" "[I", .fieldLink RX0 15 "DotCover$Layer" "ys" "[I"] ++ wsX00)
def wsX0_swap : List Cond := .code yX0_swap cX0_swap 5 none :: ([.fieldLink RX0 9 "DotCover$Layer" "xs" "[I", .fieldLink RX0 15 "DotCover$Layer" "ys" "[I"] ++ wsX00)
def wsX0_reverse : List Cond := .code yX0_reverse cX0_reverse 5 none :: ([.methodLink RX0 29 yX0_swap, .instanceMethod yX0_swap, .selects RX0 yX0_swap yX0_swap, .initialized RX0, .code yX0_swap cX0_swap 5 none, .fieldLink RX0 9 "DotCover$Layer" "xs" "[I", .fieldLink RX0 15 "DotCover$Layer" "ys" "[I"] ++ wsX00)
def wsX0_startAt : List Cond := .code yX0_startAt cX0_startAt 2 none :: ([.fieldLink RX0 18 "DotCover$Layer" "size" "I", .methodLink RX0 33 yX0_reverse, .instanceMethod yX0_reverse, .selects RX0 yX0_reverse yX0_reverse, .initialized RX0, .code yX0_reverse cX0_reverse 5 none, .methodLink RX0 29 yX0_swap, .instanceMethod yX0_swap, .selects RX0 yX0_swap yX0_swap, .code yX0_swap cX0_swap 5 none, .fieldLink RX0 9 "DotCover$Layer" "xs" "[I", .fieldLink RX0 15 "DotCover$Layer" "ys" "[I"] ++ wsX00)
def wsX0_least : List Cond := .code yX0_least cX0_least 4 (some .int) :: ([.fieldLink RX0 18 "DotCover$Layer" "size" "I", .methodLink RX0 47 Lib.Math.min.name, .static Lib.Math.min.name, .initialized "java/lang/Math", .code Lib.Math.min.name Lib.Math.min.code 2 (some .int)] ++ wsX00)
def wsX0_greatest : List Cond := .code yX0_greatest cX0_greatest 4 (some .int) :: ([.fieldLink RX0 18 "DotCover$Layer" "size" "I", .methodLink RX0 53 Lib.Math.max.name, .static Lib.Math.max.name, .initialized "java/lang/Math", .code Lib.Math.max.name Lib.Math.max.code 2 (some .int)] ++ wsX00)
def wsX0_beforeEdge : List Cond := .code yX0_beforeEdge cX0_beforeEdge 6 (some .long) :: ([.constantLong RX0 85 (27720)])
def wsX0_leftOfEdge : List Cond := .code yX0_leftOfEdge cX0_leftOfEdge 14 (some .long) :: ([.methodLink RX0 53 Lib.Math.max.name, .static Lib.Math.max.name, .initialized "java/lang/Math", .code Lib.Math.max.name Lib.Math.max.code 2 (some .int), .methodLink RX0 47 Lib.Math.min.name, .static Lib.Math.min.name, .code Lib.Math.min.name Lib.Math.min.code 2 (some .int), .methodLink RX0 78 Lib.Math.abs.name, .static Lib.Math.abs.name, .code Lib.Math.abs.name Lib.Math.abs.code 1 (some .int), .methodLink RX0 81 yX0_beforeEdge, .static yX0_beforeEdge, .initialized RX0, .code yX0_beforeEdge cX0_beforeEdge 6 (some .long), .constantLong RX0 85 (27720)])
def wsX0_rawParts : List Cond := .code yX0_rawParts cX0_rawParts 10 (some .long) :: ([.fieldLink RX0 18 "DotCover$Layer" "size" "I", .fieldLink RX0 15 "DotCover$Layer" "ys" "[I", .fieldLink RX0 9 "DotCover$Layer" "xs" "[I", .methodLink RX0 74 yX0_leftOfEdge, .static yX0_leftOfEdge, .initialized RX0, .code yX0_leftOfEdge cX0_leftOfEdge 14 (some .long), .methodLink RX0 53 Lib.Math.max.name, .static Lib.Math.max.name, .initialized "java/lang/Math", .code Lib.Math.max.name Lib.Math.max.code 2 (some .int), .methodLink RX0 47 Lib.Math.min.name, .static Lib.Math.min.name, .code Lib.Math.min.name Lib.Math.min.code 2 (some .int), .methodLink RX0 78 Lib.Math.abs.name, .static Lib.Math.abs.name, .code Lib.Math.abs.name Lib.Math.abs.code 1 (some .int), .methodLink RX0 81 yX0_beforeEdge, .static yX0_beforeEdge, .code yX0_beforeEdge cX0_beforeEdge 6 (some .long), .constantLong RX0 85 (27720)] ++ wsX00)
def wsX0_coverParts_r1 : List Cond := [Cond.methodLink RX0 65 Lib.MathLoose.abs_long.x, Cond.static Lib.MathLoose.abs_long.x, Cond.initialized "java/lang/Math", Cond.code Lib.MathLoose.abs_long.x Lib.MathLoose.abs_long.code 2 (some .long), Cond.fieldLink RX0 22 "DotCover$Layer" "folding" "I", Cond.constantLong RX0 60 (498960), Cond.methodLink RX0 69 Lib.MathLoose.min_long.x, Cond.static Lib.MathLoose.min_long.x, Cond.code Lib.MathLoose.min_long.x Lib.MathLoose.min_long.code 4 (some .long), Cond.constantLong RX0 72 (997920), Cond.methodLink RX0 62 yX0_rawParts, Cond.instanceMethod yX0_rawParts, Cond.selects RX0 yX0_rawParts yX0_rawParts, Cond.initialized RX0, Cond.code yX0_rawParts cX0_rawParts 10 (some .long), Cond.fieldLink RX0 18 "DotCover$Layer" "size" "I", Cond.fieldLink RX0 15 "DotCover$Layer" "ys" "[I", Cond.fieldLink RX0 9 "DotCover$Layer" "xs" "[I", Cond.methodLink RX0 74 yX0_leftOfEdge, Cond.static yX0_leftOfEdge, Cond.code yX0_leftOfEdge cX0_leftOfEdge 14 (some .long), Cond.methodLink RX0 53 Lib.Math.max.name, Cond.static Lib.Math.max.name, Cond.code Lib.Math.max.name Lib.Math.max.code 2 (some .int)]
def wsX0_coverParts_r2 : List Cond := [Cond.methodLink RX0 47 Lib.Math.min.name, Cond.static Lib.Math.min.name, Cond.code Lib.Math.min.name Lib.Math.min.code 2 (some .int), Cond.methodLink RX0 78 Lib.Math.abs.name, Cond.static Lib.Math.abs.name, Cond.code Lib.Math.abs.name Lib.Math.abs.code 1 (some .int), Cond.methodLink RX0 81 yX0_beforeEdge, Cond.static yX0_beforeEdge, Cond.code yX0_beforeEdge cX0_beforeEdge 6 (some .long), Cond.constantLong RX0 85 (27720)]
def wsX0_coverParts : List Cond := .code yX0_coverParts cX0_coverParts 8 (some .long) :: ((wsX0_coverParts_r1 ++ wsX0_coverParts_r2) ++ wsX00)
def wsX0_wholeDots_r1 : List Cond := [Cond.constantLong RX0 60 (498960), Cond.methodLink RX0 56 yX0_coverParts, Cond.instanceMethod yX0_coverParts, Cond.selects RX0 yX0_coverParts yX0_coverParts, Cond.initialized RX0, Cond.code yX0_coverParts cX0_coverParts 8 (some .long), Cond.methodLink RX0 65 Lib.MathLoose.abs_long.x, Cond.static Lib.MathLoose.abs_long.x, Cond.initialized "java/lang/Math", Cond.code Lib.MathLoose.abs_long.x Lib.MathLoose.abs_long.code 2 (some .long), Cond.fieldLink RX0 22 "DotCover$Layer" "folding" "I", Cond.methodLink RX0 69 Lib.MathLoose.min_long.x, Cond.static Lib.MathLoose.min_long.x, Cond.code Lib.MathLoose.min_long.x Lib.MathLoose.min_long.code 4 (some .long), Cond.constantLong RX0 72 (997920), Cond.methodLink RX0 62 yX0_rawParts, Cond.instanceMethod yX0_rawParts, Cond.selects RX0 yX0_rawParts yX0_rawParts, Cond.code yX0_rawParts cX0_rawParts 10 (some .long), Cond.fieldLink RX0 18 "DotCover$Layer" "size" "I", Cond.fieldLink RX0 15 "DotCover$Layer" "ys" "[I", Cond.fieldLink RX0 9 "DotCover$Layer" "xs" "[I", Cond.methodLink RX0 74 yX0_leftOfEdge, Cond.static yX0_leftOfEdge]
def wsX0_wholeDots_r2 : List Cond := [Cond.code yX0_leftOfEdge cX0_leftOfEdge 14 (some .long), Cond.methodLink RX0 53 Lib.Math.max.name, Cond.static Lib.Math.max.name, Cond.code Lib.Math.max.name Lib.Math.max.code 2 (some .int), Cond.methodLink RX0 47 Lib.Math.min.name, Cond.static Lib.Math.min.name, Cond.code Lib.Math.min.name Lib.Math.min.code 2 (some .int), Cond.methodLink RX0 78 Lib.Math.abs.name, Cond.static Lib.Math.abs.name, Cond.code Lib.Math.abs.name Lib.Math.abs.code 1 (some .int), Cond.methodLink RX0 81 yX0_beforeEdge, Cond.static yX0_beforeEdge, Cond.code yX0_beforeEdge cX0_beforeEdge 6 (some .long), Cond.constantLong RX0 85 (27720)]
def wsX0_wholeDots : List Cond := .code yX0_wholeDots cX0_wholeDots 8 (some .int) :: ((wsX0_wholeDots_r1 ++ wsX0_wholeDots_r2) ++ wsX00)
def wsX0_bestMove_r1 : List Cond := [Cond.fieldLink RX0 9 "DotCover$Layer" "xs" "[I", Cond.fieldLink RX0 15 "DotCover$Layer" "ys" "[I", Cond.methodLink RX0 36 yX0_least, Cond.instanceMethod yX0_least, Cond.selects RX0 yX0_least yX0_least, Cond.initialized RX0, Cond.code yX0_least cX0_least 4 (some .int), Cond.fieldLink RX0 18 "DotCover$Layer" "size" "I", Cond.methodLink RX0 47 Lib.Math.min.name, Cond.static Lib.Math.min.name, Cond.initialized "java/lang/Math", Cond.code Lib.Math.min.name Lib.Math.min.code 2 (some .int), Cond.methodLink RX0 40 yX0_greatest, Cond.instanceMethod yX0_greatest, Cond.selects RX0 yX0_greatest yX0_greatest, Cond.code yX0_greatest cX0_greatest 4 (some .int), Cond.methodLink RX0 53 Lib.Math.max.name, Cond.static Lib.Math.max.name, Cond.code Lib.Math.max.name Lib.Math.max.code 2 (some .int), Cond.methodLink RX0 43 yX0_wholeDots, Cond.instanceMethod yX0_wholeDots, Cond.selects RX0 yX0_wholeDots yX0_wholeDots, Cond.code yX0_wholeDots cX0_wholeDots 8 (some .int), Cond.constantLong RX0 60 (498960)]
def wsX0_bestMove_r2 : List Cond := [Cond.methodLink RX0 56 yX0_coverParts, Cond.instanceMethod yX0_coverParts, Cond.selects RX0 yX0_coverParts yX0_coverParts, Cond.code yX0_coverParts cX0_coverParts 8 (some .long), Cond.methodLink RX0 65 Lib.MathLoose.abs_long.x, Cond.static Lib.MathLoose.abs_long.x, Cond.code Lib.MathLoose.abs_long.x Lib.MathLoose.abs_long.code 2 (some .long), Cond.fieldLink RX0 22 "DotCover$Layer" "folding" "I", Cond.methodLink RX0 69 Lib.MathLoose.min_long.x, Cond.static Lib.MathLoose.min_long.x, Cond.code Lib.MathLoose.min_long.x Lib.MathLoose.min_long.code 4 (some .long), Cond.constantLong RX0 72 (997920), Cond.methodLink RX0 62 yX0_rawParts, Cond.instanceMethod yX0_rawParts, Cond.selects RX0 yX0_rawParts yX0_rawParts, Cond.code yX0_rawParts cX0_rawParts 10 (some .long), Cond.methodLink RX0 74 yX0_leftOfEdge, Cond.static yX0_leftOfEdge, Cond.code yX0_leftOfEdge cX0_leftOfEdge 14 (some .long), Cond.methodLink RX0 78 Lib.Math.abs.name, Cond.static Lib.Math.abs.name, Cond.code Lib.Math.abs.name Lib.Math.abs.code 1 (some .int), Cond.methodLink RX0 81 yX0_beforeEdge, Cond.static yX0_beforeEdge]
def wsX0_bestMove_r3 : List Cond := [Cond.code yX0_beforeEdge cX0_beforeEdge 6 (some .long), Cond.constantLong RX0 85 (27720)]
def wsX0_bestMove : List Cond := .code yX0_bestMove cX0_bestMove 13 (some .int) :: ((wsX0_bestMove_r1 ++ (wsX0_bestMove_r2 ++ wsX0_bestMove_r3)) ++ wsX00)
def wsX1_init : List Cond := .code yX1_init cX1_init 2 none :: ([.methodLink RX1 3 objectInit, .instanceMethod objectInit, .code objectInit ⟨#[0xb1]⟩ 1 none, .classLink RX1 9 RX0, .fieldLink RX1 11 "DotCover$Scene" "layers" "[LDotCover$Layer;", .instantiable RX0 4, .initialized RX0, .methodLink RX1 17 yX0_init, .instanceMethod yX0_init, .code yX0_init cX0_init 1 none, .methodLink RX0 3 objectInit, .arrayClass .int, .fieldLink RX0 9 "DotCover$Layer" "xs" "[I", .fieldLink RX0 15 "DotCover$Layer" "ys" "[I", .fieldLink RX0 18 "DotCover$Layer" "size" "I", .fieldLink RX0 22 "DotCover$Layer" "folding" "I"] ++ wsX10 ++ wsX00)
def wsX1_layerOf : List Cond := .code yX1_layerOf cX1_layerOf 2 (some (.object "DotCover$Layer")) :: ([.fieldLink RX1 11 "DotCover$Scene" "layers" "[LDotCover$Layer;", .static yX2_within, .initialized RX2, .code yX2_within cX2_within 3 (some .boolean)] ++ wsX10)
def wsX1_copyFrom : List Cond := .code yX1_copyFrom cX1_copyFrom 3 none :: ([.fieldLink RX1 11 "DotCover$Scene" "layers" "[LDotCover$Layer;", .methodLink RX1 22 yX0_copyFrom, .instanceMethod yX0_copyFrom, .selects RX0 yX0_copyFrom yX0_copyFrom, .initialized RX0, .code yX0_copyFrom cX0_copyFrom 3 none, .fieldLink RX0 9 "DotCover$Layer" "xs" "[I", .fieldLink RX0 15 "DotCover$Layer" "ys" "[I", .fieldLink RX0 18 "DotCover$Layer" "size" "I", .fieldLink RX0 22 "DotCover$Layer" "folding" "I"] ++ wsX10 ++ wsX00)
def wsX1_pointsOfAll : List Cond := .code yX1_pointsOfAll cX1_pointsOfAll 3 (some .int) :: ([.fieldLink RX1 11 "DotCover$Scene" "layers" "[LDotCover$Layer;"] ++ wsX10 ++ wsX00)
def wsX1_togetherParts_r1 : List Cond := [Cond.constantLong RX1 30 (498960), Cond.fieldLink RX1 11 "DotCover$Scene" "layers" "[LDotCover$Layer;", Cond.constantLong RX1 36 (124221621275136000), Cond.methodLink RX1 32 yX0_coverParts, Cond.instanceMethod yX0_coverParts, Cond.selects RX0 yX0_coverParts yX0_coverParts, Cond.initialized RX0, Cond.code yX0_coverParts cX0_coverParts 8 (some .long), Cond.methodLink RX0 65 Lib.MathLoose.abs_long.x, Cond.static Lib.MathLoose.abs_long.x, Cond.initialized "java/lang/Math", Cond.code Lib.MathLoose.abs_long.x Lib.MathLoose.abs_long.code 2 (some .long), Cond.fieldLink RX0 22 "DotCover$Layer" "folding" "I", Cond.constantLong RX0 60 (498960), Cond.methodLink RX0 69 Lib.MathLoose.min_long.x, Cond.static Lib.MathLoose.min_long.x, Cond.code Lib.MathLoose.min_long.x Lib.MathLoose.min_long.code 4 (some .long), Cond.constantLong RX0 72 (997920), Cond.methodLink RX0 62 yX0_rawParts, Cond.instanceMethod yX0_rawParts, Cond.selects RX0 yX0_rawParts yX0_rawParts, Cond.code yX0_rawParts cX0_rawParts 10 (some .long), Cond.fieldLink RX0 18 "DotCover$Layer" "size" "I", Cond.fieldLink RX0 15 "DotCover$Layer" "ys" "[I"]
def wsX1_togetherParts_r2 : List Cond := [Cond.fieldLink RX0 9 "DotCover$Layer" "xs" "[I", Cond.methodLink RX0 74 yX0_leftOfEdge, Cond.static yX0_leftOfEdge, Cond.code yX0_leftOfEdge cX0_leftOfEdge 14 (some .long), Cond.methodLink RX0 53 Lib.Math.max.name, Cond.static Lib.Math.max.name, Cond.code Lib.Math.max.name Lib.Math.max.code 2 (some .int), Cond.methodLink RX0 47 Lib.Math.min.name, Cond.static Lib.Math.min.name, Cond.code Lib.Math.min.name Lib.Math.min.code 2 (some .int), Cond.methodLink RX0 78 Lib.Math.abs.name, Cond.static Lib.Math.abs.name, Cond.code Lib.Math.abs.name Lib.Math.abs.code 1 (some .int), Cond.methodLink RX0 81 yX0_beforeEdge, Cond.static yX0_beforeEdge, Cond.code yX0_beforeEdge cX0_beforeEdge 6 (some .long), Cond.constantLong RX0 85 (27720)]
def wsX1_togetherParts : List Cond := .code yX1_togetherParts cX1_togetherParts 5 (some .long) :: ((wsX1_togetherParts_r1 ++ wsX1_togetherParts_r2) ++ wsX10 ++ wsX00)
def wsX1_mostCoveredDot_r1 : List Cond := [Cond.methodLink RX1 38 yX1_togetherParts, Cond.instanceMethod yX1_togetherParts, Cond.selects RX1 yX1_togetherParts yX1_togetherParts, Cond.initialized RX1, Cond.code yX1_togetherParts cX1_togetherParts 5 (some .long), Cond.constantLong RX1 30 (498960), Cond.fieldLink RX1 11 "DotCover$Scene" "layers" "[LDotCover$Layer;", Cond.constantLong RX1 36 (124221621275136000), Cond.methodLink RX1 32 yX0_coverParts, Cond.instanceMethod yX0_coverParts, Cond.selects RX0 yX0_coverParts yX0_coverParts, Cond.initialized RX0, Cond.code yX0_coverParts cX0_coverParts 8 (some .long), Cond.methodLink RX0 65 Lib.MathLoose.abs_long.x, Cond.static Lib.MathLoose.abs_long.x, Cond.initialized "java/lang/Math", Cond.code Lib.MathLoose.abs_long.x Lib.MathLoose.abs_long.code 2 (some .long), Cond.fieldLink RX0 22 "DotCover$Layer" "folding" "I", Cond.constantLong RX0 60 (498960), Cond.methodLink RX0 69 Lib.MathLoose.min_long.x, Cond.static Lib.MathLoose.min_long.x, Cond.code Lib.MathLoose.min_long.x Lib.MathLoose.min_long.code 4 (some .long), Cond.constantLong RX0 72 (997920), Cond.methodLink RX0 62 yX0_rawParts]
def wsX1_mostCoveredDot_r2 : List Cond := [Cond.instanceMethod yX0_rawParts, Cond.selects RX0 yX0_rawParts yX0_rawParts, Cond.code yX0_rawParts cX0_rawParts 10 (some .long), Cond.fieldLink RX0 18 "DotCover$Layer" "size" "I", Cond.fieldLink RX0 15 "DotCover$Layer" "ys" "[I", Cond.fieldLink RX0 9 "DotCover$Layer" "xs" "[I", Cond.methodLink RX0 74 yX0_leftOfEdge, Cond.static yX0_leftOfEdge, Cond.code yX0_leftOfEdge cX0_leftOfEdge 14 (some .long), Cond.methodLink RX0 53 Lib.Math.max.name, Cond.static Lib.Math.max.name, Cond.code Lib.Math.max.name Lib.Math.max.code 2 (some .int), Cond.methodLink RX0 47 Lib.Math.min.name, Cond.static Lib.Math.min.name, Cond.code Lib.Math.min.name Lib.Math.min.code 2 (some .int), Cond.methodLink RX0 78 Lib.Math.abs.name, Cond.static Lib.Math.abs.name, Cond.code Lib.Math.abs.name Lib.Math.abs.code 1 (some .int), Cond.methodLink RX0 81 yX0_beforeEdge, Cond.static yX0_beforeEdge, Cond.code yX0_beforeEdge cX0_beforeEdge 6 (some .long), Cond.constantLong RX0 85 (27720)]
def wsX1_mostCoveredDot : List Cond := .code yX1_mostCoveredDot cX1_mostCoveredDot 7 (some .int) :: ((wsX1_mostCoveredDot_r1 ++ wsX1_mostCoveredDot_r2) ++ wsX10 ++ wsX00)
def wsX1_leastCoveredDot_r1 : List Cond := [Cond.methodLink RX1 38 yX1_togetherParts, Cond.instanceMethod yX1_togetherParts, Cond.selects RX1 yX1_togetherParts yX1_togetherParts, Cond.initialized RX1, Cond.code yX1_togetherParts cX1_togetherParts 5 (some .long), Cond.constantLong RX1 30 (498960), Cond.fieldLink RX1 11 "DotCover$Scene" "layers" "[LDotCover$Layer;", Cond.constantLong RX1 36 (124221621275136000), Cond.methodLink RX1 32 yX0_coverParts, Cond.instanceMethod yX0_coverParts, Cond.selects RX0 yX0_coverParts yX0_coverParts, Cond.initialized RX0, Cond.code yX0_coverParts cX0_coverParts 8 (some .long), Cond.methodLink RX0 65 Lib.MathLoose.abs_long.x, Cond.static Lib.MathLoose.abs_long.x, Cond.initialized "java/lang/Math", Cond.code Lib.MathLoose.abs_long.x Lib.MathLoose.abs_long.code 2 (some .long), Cond.fieldLink RX0 22 "DotCover$Layer" "folding" "I", Cond.constantLong RX0 60 (498960), Cond.methodLink RX0 69 Lib.MathLoose.min_long.x, Cond.static Lib.MathLoose.min_long.x, Cond.code Lib.MathLoose.min_long.x Lib.MathLoose.min_long.code 4 (some .long), Cond.constantLong RX0 72 (997920), Cond.methodLink RX0 62 yX0_rawParts]
def wsX1_leastCoveredDot_r2 : List Cond := [Cond.instanceMethod yX0_rawParts, Cond.selects RX0 yX0_rawParts yX0_rawParts, Cond.code yX0_rawParts cX0_rawParts 10 (some .long), Cond.fieldLink RX0 18 "DotCover$Layer" "size" "I", Cond.fieldLink RX0 15 "DotCover$Layer" "ys" "[I", Cond.fieldLink RX0 9 "DotCover$Layer" "xs" "[I", Cond.methodLink RX0 74 yX0_leftOfEdge, Cond.static yX0_leftOfEdge, Cond.code yX0_leftOfEdge cX0_leftOfEdge 14 (some .long), Cond.methodLink RX0 53 Lib.Math.max.name, Cond.static Lib.Math.max.name, Cond.code Lib.Math.max.name Lib.Math.max.code 2 (some .int), Cond.methodLink RX0 47 Lib.Math.min.name, Cond.static Lib.Math.min.name, Cond.code Lib.Math.min.name Lib.Math.min.code 2 (some .int), Cond.methodLink RX0 78 Lib.Math.abs.name, Cond.static Lib.Math.abs.name, Cond.code Lib.Math.abs.name Lib.Math.abs.code 1 (some .int), Cond.methodLink RX0 81 yX0_beforeEdge, Cond.static yX0_beforeEdge, Cond.code yX0_beforeEdge cX0_beforeEdge 6 (some .long), Cond.constantLong RX0 85 (27720)]
def wsX1_leastCoveredDot : List Cond := .code yX1_leastCoveredDot cX1_leastCoveredDot 7 (some .int) :: ((wsX1_leastCoveredDot_r1 ++ wsX1_leastCoveredDot_r2) ++ wsX10 ++ wsX00)
def wsX1_dotsWithTogether_r1 : List Cond := [Cond.methodLink RX1 38 yX1_togetherParts, Cond.instanceMethod yX1_togetherParts, Cond.selects RX1 yX1_togetherParts yX1_togetherParts, Cond.initialized RX1, Cond.code yX1_togetherParts cX1_togetherParts 5 (some .long), Cond.constantLong RX1 30 (498960), Cond.fieldLink RX1 11 "DotCover$Scene" "layers" "[LDotCover$Layer;", Cond.constantLong RX1 36 (124221621275136000), Cond.methodLink RX1 32 yX0_coverParts, Cond.instanceMethod yX0_coverParts, Cond.selects RX0 yX0_coverParts yX0_coverParts, Cond.initialized RX0, Cond.code yX0_coverParts cX0_coverParts 8 (some .long), Cond.methodLink RX0 65 Lib.MathLoose.abs_long.x, Cond.static Lib.MathLoose.abs_long.x, Cond.initialized "java/lang/Math", Cond.code Lib.MathLoose.abs_long.x Lib.MathLoose.abs_long.code 2 (some .long), Cond.fieldLink RX0 22 "DotCover$Layer" "folding" "I", Cond.constantLong RX0 60 (498960), Cond.methodLink RX0 69 Lib.MathLoose.min_long.x, Cond.static Lib.MathLoose.min_long.x, Cond.code Lib.MathLoose.min_long.x Lib.MathLoose.min_long.code 4 (some .long), Cond.constantLong RX0 72 (997920), Cond.methodLink RX0 62 yX0_rawParts]
def wsX1_dotsWithTogether_r2 : List Cond := [Cond.instanceMethod yX0_rawParts, Cond.selects RX0 yX0_rawParts yX0_rawParts, Cond.code yX0_rawParts cX0_rawParts 10 (some .long), Cond.fieldLink RX0 18 "DotCover$Layer" "size" "I", Cond.fieldLink RX0 15 "DotCover$Layer" "ys" "[I", Cond.fieldLink RX0 9 "DotCover$Layer" "xs" "[I", Cond.methodLink RX0 74 yX0_leftOfEdge, Cond.static yX0_leftOfEdge, Cond.code yX0_leftOfEdge cX0_leftOfEdge 14 (some .long), Cond.methodLink RX0 53 Lib.Math.max.name, Cond.static Lib.Math.max.name, Cond.code Lib.Math.max.name Lib.Math.max.code 2 (some .int), Cond.methodLink RX0 47 Lib.Math.min.name, Cond.static Lib.Math.min.name, Cond.code Lib.Math.min.name Lib.Math.min.code 2 (some .int), Cond.methodLink RX0 78 Lib.Math.abs.name, Cond.static Lib.Math.abs.name, Cond.code Lib.Math.abs.name Lib.Math.abs.code 1 (some .int), Cond.methodLink RX0 81 yX0_beforeEdge, Cond.static yX0_beforeEdge, Cond.code yX0_beforeEdge cX0_beforeEdge 6 (some .long), Cond.constantLong RX0 85 (27720)]
def wsX1_dotsWithTogether : List Cond := .code yX1_dotsWithTogether cX1_dotsWithTogether 5 (some .int) :: ((wsX1_dotsWithTogether_r1 ++ wsX1_dotsWithTogether_r2) ++ wsX10 ++ wsX00)
def wsX2_init_r1 : List Cond := [Cond.methodLink RX2 3 objectInit, Cond.instanceMethod objectInit, Cond.code objectInit ⟨#[0xb1]⟩ 1 none, Cond.classLink RX2 9 RX1, Cond.instantiable RX1 1, Cond.initialized RX1, Cond.fieldLink RX2 12 "DotCover" "now" "LDotCover$Scene;", Cond.fieldLink RX2 16 "DotCover" "images" "[LDotCover$Scene;", Cond.fieldLink RX2 20 "DotCover" "keptImages" "I", Cond.methodLink RX2 11 yX1_init, Cond.instanceMethod yX1_init, Cond.code yX1_init cX1_init 2 none, Cond.methodLink RX1 3 objectInit, Cond.classLink RX1 9 RX0, Cond.fieldLink RX1 11 "DotCover$Scene" "layers" "[LDotCover$Layer;", Cond.instantiable RX0 4, Cond.initialized RX0, Cond.methodLink RX1 17 yX0_init, Cond.instanceMethod yX0_init, Cond.code yX0_init cX0_init 1 none, Cond.methodLink RX0 3 objectInit, Cond.arrayClass .int, Cond.fieldLink RX0 9 "DotCover$Layer" "xs" "[I", Cond.fieldLink RX0 15 "DotCover$Layer" "ys" "[I"]
def wsX2_init_r2 : List Cond := [Cond.fieldLink RX0 18 "DotCover$Layer" "size" "I", Cond.fieldLink RX0 22 "DotCover$Layer" "folding" "I"]
def wsX2_init : List Cond := .code yX2_init cX2_init 2 none :: ((wsX2_init_r1 ++ wsX2_init_r2) ++ wsX10 ++ wsX20 ++ wsX00)
def wsX2_point : List Cond := .code yX2_point cX2_point 5 (some .int) :: ([.fieldLink RX2 12 "DotCover" "now" "LDotCover$Scene;", .methodLink RX2 24 yX1_layerOf, .instanceMethod yX1_layerOf, .selects RX1 yX1_layerOf yX1_layerOf, .initialized RX1, .code yX1_layerOf cX1_layerOf 2 (some (.object "DotCover$Layer")), .fieldLink RX1 11 "DotCover$Scene" "layers" "[LDotCover$Layer;", .static yX2_within, .initialized RX2, .code yX2_within cX2_within 3 (some .boolean), .methodLink RX2 28 yX2_inField, .static yX2_inField, .code yX2_inField cX2_inField 1 (some .boolean), .methodLink RX2 51 yX2_within, .methodLink RX2 37 yX0_add, .instanceMethod yX0_add, .selects RX0 yX0_add yX0_add, .initialized RX0, .code yX0_add cX0_add 4 (some .int), .fieldLink RX0 18 "DotCover$Layer" "size" "I", .fieldLink RX0 9 "DotCover$Layer" "xs" "[I", .fieldLink RX0 15 "DotCover$Layer" "ys" "[I"] ++ wsX20 ++ wsX00 ++ wsX10)
def wsX2_pop : List Cond := .code yX2_pop cX2_pop 3 (some .int) :: ([.fieldLink RX2 12 "DotCover" "now" "LDotCover$Scene;", .methodLink RX2 24 yX1_layerOf, .instanceMethod yX1_layerOf, .selects RX1 yX1_layerOf yX1_layerOf, .initialized RX1, .code yX1_layerOf cX1_layerOf 2 (some (.object "DotCover$Layer")), .fieldLink RX1 11 "DotCover$Scene" "layers" "[LDotCover$Layer;", .static yX2_within, .initialized RX2, .code yX2_within cX2_within 3 (some .boolean)] ++ wsX20 ++ wsX00 ++ wsX10)
def wsX2_set : List Cond := .code yX2_set cX2_set 7 (some .int) :: ([.fieldLink RX2 12 "DotCover" "now" "LDotCover$Scene;", .methodLink RX2 24 yX1_layerOf, .instanceMethod yX1_layerOf, .selects RX1 yX1_layerOf yX1_layerOf, .initialized RX1, .code yX1_layerOf cX1_layerOf 2 (some (.object "DotCover$Layer")), .fieldLink RX1 11 "DotCover$Scene" "layers" "[LDotCover$Layer;", .static yX2_within, .initialized RX2, .code yX2_within cX2_within 3 (some .boolean), .methodLink RX2 41 yX0_has, .instanceMethod yX0_has, .selects RX0 yX0_has yX0_has, .initialized RX0, .code yX0_has cX0_has 2 (some .boolean), .fieldLink RX0 18 "DotCover$Layer" "size" "I", .methodLink RX2 28 yX2_inField, .static yX2_inField, .code yX2_inField cX2_inField 1 (some .boolean), .methodLink RX2 51 yX2_within] ++ wsX20 ++ wsX00 ++ wsX10)
def wsX2_rule : List Cond := .code yX2_rule cX2_rule 5 (some .int) :: ([.fieldLink RX2 12 "DotCover" "now" "LDotCover$Scene;", .methodLink RX2 24 yX1_layerOf, .instanceMethod yX1_layerOf, .selects RX1 yX1_layerOf yX1_layerOf, .initialized RX1, .code yX1_layerOf cX1_layerOf 2 (some (.object "DotCover$Layer")), .fieldLink RX1 11 "DotCover$Scene" "layers" "[LDotCover$Layer;", .static yX2_within, .initialized RX2, .code yX2_within cX2_within 3 (some .boolean), .methodLink RX2 51 yX2_within] ++ wsX20 ++ wsX00 ++ wsX10)
def wsX2_move_r1 : List Cond := [Cond.fieldLink RX2 12 "DotCover" "now" "LDotCover$Scene;", Cond.methodLink RX2 24 yX1_layerOf, Cond.instanceMethod yX1_layerOf, Cond.selects RX1 yX1_layerOf yX1_layerOf, Cond.initialized RX1, Cond.code yX1_layerOf cX1_layerOf 2 (some (.object "DotCover$Layer")), Cond.fieldLink RX1 11 "DotCover$Scene" "layers" "[LDotCover$Layer;", Cond.static yX2_within, Cond.initialized RX2, Cond.code yX2_within cX2_within 3 (some .boolean), Cond.methodLink RX2 51 yX2_within, Cond.methodLink RX2 58 yX0_staysInField, Cond.instanceMethod yX0_staysInField, Cond.selects RX0 yX0_staysInField yX0_staysInField, Cond.initialized RX0, Cond.code yX0_staysInField cX0_staysInField 4 (some .boolean), Cond.fieldLink RX0 18 "DotCover$Layer" "size" "I", Cond.fieldLink RX0 9 "DotCover$Layer" "xs" "[I", Cond.fieldLink RX0 15 "DotCover$Layer" "ys" "[I", Cond.static yX2_inField, Cond.code yX2_inField cX2_inField 1 (some .boolean), Cond.methodLink RX2 62 yX0_shift, Cond.instanceMethod yX0_shift, Cond.selects RX0 yX0_shift yX0_shift]
def wsX2_move_r2 : List Cond := [Cond.code yX0_shift cX0_shift 4 none]
def wsX2_move : List Cond := .code yX2_move cX2_move 5 (some .int) :: ((wsX2_move_r1 ++ wsX2_move_r2) ++ wsX20 ++ wsX00 ++ wsX10)
def wsX2_back : List Cond := .code yX2_back cX2_back 3 (some .int) :: ([.fieldLink RX2 12 "DotCover" "now" "LDotCover$Scene;", .methodLink RX2 24 yX1_layerOf, .instanceMethod yX1_layerOf, .selects RX1 yX1_layerOf yX1_layerOf, .initialized RX1, .code yX1_layerOf cX1_layerOf 2 (some (.object "DotCover$Layer")), .fieldLink RX1 11 "DotCover$Scene" "layers" "[LDotCover$Layer;", .static yX2_within, .initialized RX2, .code yX2_within cX2_within 3 (some .boolean), .methodLink RX2 66 yX0_reverse, .instanceMethod yX0_reverse, .selects RX0 yX0_reverse yX0_reverse, .initialized RX0, .code yX0_reverse cX0_reverse 5 none, .methodLink RX0 29 yX0_swap, .instanceMethod yX0_swap, .selects RX0 yX0_swap yX0_swap, .code yX0_swap cX0_swap 5 none, .fieldLink RX0 9 "DotCover$Layer" "xs" "[I", .fieldLink RX0 15 "DotCover$Layer" "ys" "[I"] ++ wsX20 ++ wsX00 ++ wsX10)
def wsX2_begin_r1 : List Cond := [Cond.fieldLink RX2 12 "DotCover" "now" "LDotCover$Scene;", Cond.methodLink RX2 24 yX1_layerOf, Cond.instanceMethod yX1_layerOf, Cond.selects RX1 yX1_layerOf yX1_layerOf, Cond.initialized RX1, Cond.code yX1_layerOf cX1_layerOf 2 (some (.object "DotCover$Layer")), Cond.fieldLink RX1 11 "DotCover$Scene" "layers" "[LDotCover$Layer;", Cond.static yX2_within, Cond.initialized RX2, Cond.code yX2_within cX2_within 3 (some .boolean), Cond.methodLink RX2 41 yX0_has, Cond.instanceMethod yX0_has, Cond.selects RX0 yX0_has yX0_has, Cond.initialized RX0, Cond.code yX0_has cX0_has 2 (some .boolean), Cond.fieldLink RX0 18 "DotCover$Layer" "size" "I", Cond.methodLink RX2 69 yX0_startAt, Cond.instanceMethod yX0_startAt, Cond.selects RX0 yX0_startAt yX0_startAt, Cond.code yX0_startAt cX0_startAt 2 none, Cond.methodLink RX0 33 yX0_reverse, Cond.instanceMethod yX0_reverse, Cond.selects RX0 yX0_reverse yX0_reverse, Cond.code yX0_reverse cX0_reverse 5 none]
def wsX2_begin_r2 : List Cond := [Cond.methodLink RX0 29 yX0_swap, Cond.instanceMethod yX0_swap, Cond.selects RX0 yX0_swap yX0_swap, Cond.code yX0_swap cX0_swap 5 none, Cond.fieldLink RX0 9 "DotCover$Layer" "xs" "[I", Cond.fieldLink RX0 15 "DotCover$Layer" "ys" "[I"]
def wsX2_begin : List Cond := .code yX2_begin cX2_begin 4 (some .int) :: ((wsX2_begin_r1 ++ wsX2_begin_r2) ++ wsX20 ++ wsX00 ++ wsX10)
def wsX2_at : List Cond := .code yX2_at cX2_at 5 (some .int) :: ([.fieldLink RX2 12 "DotCover" "now" "LDotCover$Scene;", .methodLink RX2 24 yX1_layerOf, .instanceMethod yX1_layerOf, .selects RX1 yX1_layerOf yX1_layerOf, .initialized RX1, .code yX1_layerOf cX1_layerOf 2 (some (.object "DotCover$Layer")), .fieldLink RX1 11 "DotCover$Scene" "layers" "[LDotCover$Layer;", .static yX2_within, .initialized RX2, .code yX2_within cX2_within 3 (some .boolean), .methodLink RX2 41 yX0_has, .instanceMethod yX0_has, .selects RX0 yX0_has yX0_has, .initialized RX0, .code yX0_has cX0_has 2 (some .boolean), .fieldLink RX0 18 "DotCover$Layer" "size" "I", .methodLink RX2 51 yX2_within] ++ wsX20 ++ wsX00 ++ wsX10)
def wsX2_isDot : List Cond := .code yX2_isDot cX2_isDot 1 (some .boolean) :: ([.methodLink RX2 51 yX2_within, .static yX2_within, .initialized RX2, .code yX2_within cX2_within 3 (some .boolean)])
def wsX2_greatestDivisor : List Cond := .code yX2_greatestDivisor cX2_greatestDivisor 11 (some .long) :: ([])
def wsX2_lowestTerms : List Cond := .code yX2_lowestTerms cX2_lowestTerms 7 (some .long) :: ([.methodLink RX2 127 Lib.MathLoose.abs_long.x, .static Lib.MathLoose.abs_long.x, .initialized "java/lang/Math", .code Lib.MathLoose.abs_long.x Lib.MathLoose.abs_long.code 2 (some .long), .methodLink RX2 133 yX2_greatestDivisor, .static yX2_greatestDivisor, .initialized RX2, .code yX2_greatestDivisor cX2_greatestDivisor 11 (some .long)])
def wsX2_raw_r1 : List Cond := [Cond.fieldLink RX2 12 "DotCover" "now" "LDotCover$Scene;", Cond.constantLong RX2 76 (-1000000000000000001), Cond.constantLong RX2 78 (-1000000000000000002), Cond.constantLong RX2 84 (498960), Cond.methodLink RX2 24 yX1_layerOf, Cond.instanceMethod yX1_layerOf, Cond.selects RX1 yX1_layerOf yX1_layerOf, Cond.initialized RX1, Cond.code yX1_layerOf cX1_layerOf 2 (some (.object "DotCover$Layer")), Cond.fieldLink RX1 11 "DotCover$Scene" "layers" "[LDotCover$Layer;", Cond.static yX2_within, Cond.initialized RX2, Cond.code yX2_within cX2_within 3 (some .boolean), Cond.methodLink RX2 73 yX2_isDot, Cond.static yX2_isDot, Cond.code yX2_isDot cX2_isDot 1 (some .boolean), Cond.methodLink RX2 51 yX2_within, Cond.methodLink RX2 80 yX0_rawParts, Cond.instanceMethod yX0_rawParts, Cond.selects RX0 yX0_rawParts yX0_rawParts, Cond.initialized RX0, Cond.code yX0_rawParts cX0_rawParts 10 (some .long), Cond.fieldLink RX0 18 "DotCover$Layer" "size" "I", Cond.fieldLink RX0 15 "DotCover$Layer" "ys" "[I"]
def wsX2_raw_r2 : List Cond := [Cond.fieldLink RX0 9 "DotCover$Layer" "xs" "[I", Cond.methodLink RX0 74 yX0_leftOfEdge, Cond.static yX0_leftOfEdge, Cond.code yX0_leftOfEdge cX0_leftOfEdge 14 (some .long), Cond.methodLink RX0 53 Lib.Math.max.name, Cond.static Lib.Math.max.name, Cond.initialized "java/lang/Math", Cond.code Lib.Math.max.name Lib.Math.max.code 2 (some .int), Cond.methodLink RX0 47 Lib.Math.min.name, Cond.static Lib.Math.min.name, Cond.code Lib.Math.min.name Lib.Math.min.code 2 (some .int), Cond.methodLink RX0 78 Lib.Math.abs.name, Cond.static Lib.Math.abs.name, Cond.code Lib.Math.abs.name Lib.Math.abs.code 1 (some .int), Cond.methodLink RX0 81 yX0_beforeEdge, Cond.static yX0_beforeEdge, Cond.code yX0_beforeEdge cX0_beforeEdge 6 (some .long), Cond.constantLong RX0 85 (27720), Cond.methodLink RX2 86 yX2_lowestTerms, Cond.static yX2_lowestTerms, Cond.code yX2_lowestTerms cX2_lowestTerms 7 (some .long), Cond.methodLink RX2 127 Lib.MathLoose.abs_long.x, Cond.static Lib.MathLoose.abs_long.x, Cond.code Lib.MathLoose.abs_long.x Lib.MathLoose.abs_long.code 2 (some .long)]
def wsX2_raw_r3 : List Cond := [Cond.methodLink RX2 133 yX2_greatestDivisor, Cond.static yX2_greatestDivisor, Cond.code yX2_greatestDivisor cX2_greatestDivisor 11 (some .long)]
def wsX2_raw : List Cond := .code yX2_raw cX2_raw 5 (some .long) :: ((wsX2_raw_r1 ++ (wsX2_raw_r2 ++ wsX2_raw_r3)) ++ wsX20 ++ wsX10 ++ wsX00)
def wsX2_cover_r1 : List Cond := [Cond.fieldLink RX2 12 "DotCover" "now" "LDotCover$Scene;", Cond.constantLong RX2 90 (-1), Cond.constantLong RX2 92 (-2), Cond.constantLong RX2 84 (498960), Cond.methodLink RX2 24 yX1_layerOf, Cond.instanceMethod yX1_layerOf, Cond.selects RX1 yX1_layerOf yX1_layerOf, Cond.initialized RX1, Cond.code yX1_layerOf cX1_layerOf 2 (some (.object "DotCover$Layer")), Cond.fieldLink RX1 11 "DotCover$Scene" "layers" "[LDotCover$Layer;", Cond.static yX2_within, Cond.initialized RX2, Cond.code yX2_within cX2_within 3 (some .boolean), Cond.methodLink RX2 73 yX2_isDot, Cond.static yX2_isDot, Cond.code yX2_isDot cX2_isDot 1 (some .boolean), Cond.methodLink RX2 51 yX2_within, Cond.methodLink RX2 94 yX0_coverParts, Cond.instanceMethod yX0_coverParts, Cond.selects RX0 yX0_coverParts yX0_coverParts, Cond.initialized RX0, Cond.code yX0_coverParts cX0_coverParts 8 (some .long), Cond.methodLink RX0 65 Lib.MathLoose.abs_long.x, Cond.static Lib.MathLoose.abs_long.x]
def wsX2_cover_r2 : List Cond := [Cond.initialized "java/lang/Math", Cond.code Lib.MathLoose.abs_long.x Lib.MathLoose.abs_long.code 2 (some .long), Cond.fieldLink RX0 22 "DotCover$Layer" "folding" "I", Cond.constantLong RX0 60 (498960), Cond.methodLink RX0 69 Lib.MathLoose.min_long.x, Cond.static Lib.MathLoose.min_long.x, Cond.code Lib.MathLoose.min_long.x Lib.MathLoose.min_long.code 4 (some .long), Cond.constantLong RX0 72 (997920), Cond.methodLink RX0 62 yX0_rawParts, Cond.instanceMethod yX0_rawParts, Cond.selects RX0 yX0_rawParts yX0_rawParts, Cond.code yX0_rawParts cX0_rawParts 10 (some .long), Cond.fieldLink RX0 18 "DotCover$Layer" "size" "I", Cond.fieldLink RX0 15 "DotCover$Layer" "ys" "[I", Cond.fieldLink RX0 9 "DotCover$Layer" "xs" "[I", Cond.methodLink RX0 74 yX0_leftOfEdge, Cond.static yX0_leftOfEdge, Cond.code yX0_leftOfEdge cX0_leftOfEdge 14 (some .long), Cond.methodLink RX0 53 Lib.Math.max.name, Cond.static Lib.Math.max.name, Cond.code Lib.Math.max.name Lib.Math.max.code 2 (some .int), Cond.methodLink RX0 47 Lib.Math.min.name, Cond.static Lib.Math.min.name, Cond.code Lib.Math.min.name Lib.Math.min.code 2 (some .int)]
def wsX2_cover_r3 : List Cond := [Cond.methodLink RX0 78 Lib.Math.abs.name, Cond.static Lib.Math.abs.name, Cond.code Lib.Math.abs.name Lib.Math.abs.code 1 (some .int), Cond.methodLink RX0 81 yX0_beforeEdge, Cond.static yX0_beforeEdge, Cond.code yX0_beforeEdge cX0_beforeEdge 6 (some .long), Cond.constantLong RX0 85 (27720), Cond.methodLink RX2 86 yX2_lowestTerms, Cond.static yX2_lowestTerms, Cond.code yX2_lowestTerms cX2_lowestTerms 7 (some .long), Cond.methodLink RX2 127 Lib.MathLoose.abs_long.x, Cond.methodLink RX2 133 yX2_greatestDivisor, Cond.static yX2_greatestDivisor, Cond.code yX2_greatestDivisor cX2_greatestDivisor 11 (some .long)]
def wsX2_cover : List Cond := .code yX2_cover cX2_cover 5 (some .long) :: ((wsX2_cover_r1 ++ (wsX2_cover_r2 ++ wsX2_cover_r3)) ++ wsX20 ++ wsX10 ++ wsX00)
def wsX2_together_r1 : List Cond := [Cond.constantLong RX2 90 (-1), Cond.constantLong RX2 92 (-2), Cond.fieldLink RX2 12 "DotCover" "now" "LDotCover$Scene;", Cond.constantLong RX2 101 (124221621275136000), Cond.methodLink RX2 73 yX2_isDot, Cond.static yX2_isDot, Cond.initialized RX2, Cond.code yX2_isDot cX2_isDot 1 (some .boolean), Cond.methodLink RX2 51 yX2_within, Cond.static yX2_within, Cond.code yX2_within cX2_within 3 (some .boolean), Cond.methodLink RX2 97 yX1_togetherParts, Cond.instanceMethod yX1_togetherParts, Cond.selects RX1 yX1_togetherParts yX1_togetherParts, Cond.initialized RX1, Cond.code yX1_togetherParts cX1_togetherParts 5 (some .long), Cond.constantLong RX1 30 (498960), Cond.fieldLink RX1 11 "DotCover$Scene" "layers" "[LDotCover$Layer;", Cond.constantLong RX1 36 (124221621275136000), Cond.methodLink RX1 32 yX0_coverParts, Cond.instanceMethod yX0_coverParts, Cond.selects RX0 yX0_coverParts yX0_coverParts, Cond.initialized RX0, Cond.code yX0_coverParts cX0_coverParts 8 (some .long)]
def wsX2_together_r2 : List Cond := [Cond.methodLink RX0 65 Lib.MathLoose.abs_long.x, Cond.static Lib.MathLoose.abs_long.x, Cond.initialized "java/lang/Math", Cond.code Lib.MathLoose.abs_long.x Lib.MathLoose.abs_long.code 2 (some .long), Cond.fieldLink RX0 22 "DotCover$Layer" "folding" "I", Cond.constantLong RX0 60 (498960), Cond.methodLink RX0 69 Lib.MathLoose.min_long.x, Cond.static Lib.MathLoose.min_long.x, Cond.code Lib.MathLoose.min_long.x Lib.MathLoose.min_long.code 4 (some .long), Cond.constantLong RX0 72 (997920), Cond.methodLink RX0 62 yX0_rawParts, Cond.instanceMethod yX0_rawParts, Cond.selects RX0 yX0_rawParts yX0_rawParts, Cond.code yX0_rawParts cX0_rawParts 10 (some .long), Cond.fieldLink RX0 18 "DotCover$Layer" "size" "I", Cond.fieldLink RX0 15 "DotCover$Layer" "ys" "[I", Cond.fieldLink RX0 9 "DotCover$Layer" "xs" "[I", Cond.methodLink RX0 74 yX0_leftOfEdge, Cond.static yX0_leftOfEdge, Cond.code yX0_leftOfEdge cX0_leftOfEdge 14 (some .long), Cond.methodLink RX0 53 Lib.Math.max.name, Cond.static Lib.Math.max.name, Cond.code Lib.Math.max.name Lib.Math.max.code 2 (some .int), Cond.methodLink RX0 47 Lib.Math.min.name]
def wsX2_together_r3 : List Cond := [Cond.static Lib.Math.min.name, Cond.code Lib.Math.min.name Lib.Math.min.code 2 (some .int), Cond.methodLink RX0 78 Lib.Math.abs.name, Cond.static Lib.Math.abs.name, Cond.code Lib.Math.abs.name Lib.Math.abs.code 1 (some .int), Cond.methodLink RX0 81 yX0_beforeEdge, Cond.static yX0_beforeEdge, Cond.code yX0_beforeEdge cX0_beforeEdge 6 (some .long), Cond.constantLong RX0 85 (27720), Cond.methodLink RX2 86 yX2_lowestTerms, Cond.static yX2_lowestTerms, Cond.code yX2_lowestTerms cX2_lowestTerms 7 (some .long), Cond.methodLink RX2 127 Lib.MathLoose.abs_long.x, Cond.methodLink RX2 133 yX2_greatestDivisor, Cond.static yX2_greatestDivisor, Cond.code yX2_greatestDivisor cX2_greatestDivisor 11 (some .long)]
def wsX2_together : List Cond := .code yX2_together cX2_together 3 (some .long) :: ((wsX2_together_r1 ++ (wsX2_together_r2 ++ wsX2_together_r3)) ++ wsX20 ++ wsX10 ++ wsX00)
def wsX2_area_r1 : List Cond := [Cond.fieldLink RX2 12 "DotCover" "now" "LDotCover$Scene;", Cond.constantLong RX2 76 (-1000000000000000001), Cond.constantLong RX2 78 (-1000000000000000002), Cond.constantLong RX2 103 (55440), Cond.methodLink RX2 24 yX1_layerOf, Cond.instanceMethod yX1_layerOf, Cond.selects RX1 yX1_layerOf yX1_layerOf, Cond.initialized RX1, Cond.code yX1_layerOf cX1_layerOf 2 (some (.object "DotCover$Layer")), Cond.fieldLink RX1 11 "DotCover$Scene" "layers" "[LDotCover$Layer;", Cond.static yX2_within, Cond.initialized RX2, Cond.code yX2_within cX2_within 3 (some .boolean), Cond.methodLink RX2 51 yX2_within, Cond.methodLink RX2 80 yX0_rawParts, Cond.instanceMethod yX0_rawParts, Cond.selects RX0 yX0_rawParts yX0_rawParts, Cond.initialized RX0, Cond.code yX0_rawParts cX0_rawParts 10 (some .long), Cond.fieldLink RX0 18 "DotCover$Layer" "size" "I", Cond.fieldLink RX0 15 "DotCover$Layer" "ys" "[I", Cond.fieldLink RX0 9 "DotCover$Layer" "xs" "[I", Cond.methodLink RX0 74 yX0_leftOfEdge, Cond.static yX0_leftOfEdge]
def wsX2_area_r2 : List Cond := [Cond.code yX0_leftOfEdge cX0_leftOfEdge 14 (some .long), Cond.methodLink RX0 53 Lib.Math.max.name, Cond.static Lib.Math.max.name, Cond.initialized "java/lang/Math", Cond.code Lib.Math.max.name Lib.Math.max.code 2 (some .int), Cond.methodLink RX0 47 Lib.Math.min.name, Cond.static Lib.Math.min.name, Cond.code Lib.Math.min.name Lib.Math.min.code 2 (some .int), Cond.methodLink RX0 78 Lib.Math.abs.name, Cond.static Lib.Math.abs.name, Cond.code Lib.Math.abs.name Lib.Math.abs.code 1 (some .int), Cond.methodLink RX0 81 yX0_beforeEdge, Cond.static yX0_beforeEdge, Cond.code yX0_beforeEdge cX0_beforeEdge 6 (some .long), Cond.constantLong RX0 85 (27720), Cond.methodLink RX2 86 yX2_lowestTerms, Cond.static yX2_lowestTerms, Cond.code yX2_lowestTerms cX2_lowestTerms 7 (some .long), Cond.methodLink RX2 127 Lib.MathLoose.abs_long.x, Cond.static Lib.MathLoose.abs_long.x, Cond.code Lib.MathLoose.abs_long.x Lib.MathLoose.abs_long.code 2 (some .long), Cond.methodLink RX2 133 yX2_greatestDivisor, Cond.static yX2_greatestDivisor, Cond.code yX2_greatestDivisor cX2_greatestDivisor 11 (some .long)]
def wsX2_area : List Cond := .code yX2_area cX2_area 7 (some .long) :: ((wsX2_area_r1 ++ wsX2_area_r2) ++ wsX20 ++ wsX10 ++ wsX00)
def wsX2_enough_r1 : List Cond := [Cond.fieldLink RX2 12 "DotCover" "now" "LDotCover$Scene;", Cond.constantLong RX2 84 (498960), Cond.methodLink RX2 24 yX1_layerOf, Cond.instanceMethod yX1_layerOf, Cond.selects RX1 yX1_layerOf yX1_layerOf, Cond.initialized RX1, Cond.code yX1_layerOf cX1_layerOf 2 (some (.object "DotCover$Layer")), Cond.fieldLink RX1 11 "DotCover$Scene" "layers" "[LDotCover$Layer;", Cond.static yX2_within, Cond.initialized RX2, Cond.code yX2_within cX2_within 3 (some .boolean), Cond.methodLink RX2 51 yX2_within, Cond.methodLink RX2 94 yX0_coverParts, Cond.instanceMethod yX0_coverParts, Cond.selects RX0 yX0_coverParts yX0_coverParts, Cond.initialized RX0, Cond.code yX0_coverParts cX0_coverParts 8 (some .long), Cond.methodLink RX0 65 Lib.MathLoose.abs_long.x, Cond.static Lib.MathLoose.abs_long.x, Cond.initialized "java/lang/Math", Cond.code Lib.MathLoose.abs_long.x Lib.MathLoose.abs_long.code 2 (some .long), Cond.fieldLink RX0 22 "DotCover$Layer" "folding" "I", Cond.constantLong RX0 60 (498960), Cond.methodLink RX0 69 Lib.MathLoose.min_long.x]
def wsX2_enough_r2 : List Cond := [Cond.static Lib.MathLoose.min_long.x, Cond.code Lib.MathLoose.min_long.x Lib.MathLoose.min_long.code 4 (some .long), Cond.constantLong RX0 72 (997920), Cond.methodLink RX0 62 yX0_rawParts, Cond.instanceMethod yX0_rawParts, Cond.selects RX0 yX0_rawParts yX0_rawParts, Cond.code yX0_rawParts cX0_rawParts 10 (some .long), Cond.fieldLink RX0 18 "DotCover$Layer" "size" "I", Cond.fieldLink RX0 15 "DotCover$Layer" "ys" "[I", Cond.fieldLink RX0 9 "DotCover$Layer" "xs" "[I", Cond.methodLink RX0 74 yX0_leftOfEdge, Cond.static yX0_leftOfEdge, Cond.code yX0_leftOfEdge cX0_leftOfEdge 14 (some .long), Cond.methodLink RX0 53 Lib.Math.max.name, Cond.static Lib.Math.max.name, Cond.code Lib.Math.max.name Lib.Math.max.code 2 (some .int), Cond.methodLink RX0 47 Lib.Math.min.name, Cond.static Lib.Math.min.name, Cond.code Lib.Math.min.name Lib.Math.min.code 2 (some .int), Cond.methodLink RX0 78 Lib.Math.abs.name, Cond.static Lib.Math.abs.name, Cond.code Lib.Math.abs.name Lib.Math.abs.code 1 (some .int), Cond.methodLink RX0 81 yX0_beforeEdge, Cond.static yX0_beforeEdge]
def wsX2_enough_r3 : List Cond := [Cond.code yX0_beforeEdge cX0_beforeEdge 6 (some .long), Cond.constantLong RX0 85 (27720)]
def wsX2_enough : List Cond := .code yX2_enough cX2_enough 7 (some .int) :: ((wsX2_enough_r1 ++ (wsX2_enough_r2 ++ wsX2_enough_r3)) ++ wsX20 ++ wsX10 ++ wsX00)
def wsX2_field_r1 : List Cond := [Cond.fieldLink RX2 12 "DotCover" "now" "LDotCover$Scene;", Cond.constantLong RX2 101 (124221621275136000), Cond.methodLink RX2 105 yX1_mostCoveredDot, Cond.instanceMethod yX1_mostCoveredDot, Cond.selects RX1 yX1_mostCoveredDot yX1_mostCoveredDot, Cond.initialized RX1, Cond.code yX1_mostCoveredDot cX1_mostCoveredDot 7 (some .int), Cond.methodLink RX1 38 yX1_togetherParts, Cond.instanceMethod yX1_togetherParts, Cond.selects RX1 yX1_togetherParts yX1_togetherParts, Cond.code yX1_togetherParts cX1_togetherParts 5 (some .long), Cond.constantLong RX1 30 (498960), Cond.fieldLink RX1 11 "DotCover$Scene" "layers" "[LDotCover$Layer;", Cond.constantLong RX1 36 (124221621275136000), Cond.methodLink RX1 32 yX0_coverParts, Cond.instanceMethod yX0_coverParts, Cond.selects RX0 yX0_coverParts yX0_coverParts, Cond.initialized RX0, Cond.code yX0_coverParts cX0_coverParts 8 (some .long), Cond.methodLink RX0 65 Lib.MathLoose.abs_long.x, Cond.static Lib.MathLoose.abs_long.x, Cond.initialized "java/lang/Math", Cond.code Lib.MathLoose.abs_long.x Lib.MathLoose.abs_long.code 2 (some .long), Cond.fieldLink RX0 22 "DotCover$Layer" "folding" "I"]
def wsX2_field_r2 : List Cond := [Cond.constantLong RX0 60 (498960), Cond.methodLink RX0 69 Lib.MathLoose.min_long.x, Cond.static Lib.MathLoose.min_long.x, Cond.code Lib.MathLoose.min_long.x Lib.MathLoose.min_long.code 4 (some .long), Cond.constantLong RX0 72 (997920), Cond.methodLink RX0 62 yX0_rawParts, Cond.instanceMethod yX0_rawParts, Cond.selects RX0 yX0_rawParts yX0_rawParts, Cond.code yX0_rawParts cX0_rawParts 10 (some .long), Cond.fieldLink RX0 18 "DotCover$Layer" "size" "I", Cond.fieldLink RX0 15 "DotCover$Layer" "ys" "[I", Cond.fieldLink RX0 9 "DotCover$Layer" "xs" "[I", Cond.methodLink RX0 74 yX0_leftOfEdge, Cond.static yX0_leftOfEdge, Cond.code yX0_leftOfEdge cX0_leftOfEdge 14 (some .long), Cond.methodLink RX0 53 Lib.Math.max.name, Cond.static Lib.Math.max.name, Cond.code Lib.Math.max.name Lib.Math.max.code 2 (some .int), Cond.methodLink RX0 47 Lib.Math.min.name, Cond.static Lib.Math.min.name, Cond.code Lib.Math.min.name Lib.Math.min.code 2 (some .int), Cond.methodLink RX0 78 Lib.Math.abs.name, Cond.static Lib.Math.abs.name, Cond.code Lib.Math.abs.name Lib.Math.abs.code 1 (some .int)]
def wsX2_field_r3 : List Cond := [Cond.methodLink RX0 81 yX0_beforeEdge, Cond.static yX0_beforeEdge, Cond.code yX0_beforeEdge cX0_beforeEdge 6 (some .long), Cond.constantLong RX0 85 (27720), Cond.methodLink RX2 109 yX1_leastCoveredDot, Cond.instanceMethod yX1_leastCoveredDot, Cond.selects RX1 yX1_leastCoveredDot yX1_leastCoveredDot, Cond.code yX1_leastCoveredDot cX1_leastCoveredDot 7 (some .int), Cond.methodLink RX2 112 yX1_dotsWithTogether, Cond.instanceMethod yX1_dotsWithTogether, Cond.selects RX1 yX1_dotsWithTogether yX1_dotsWithTogether, Cond.code yX1_dotsWithTogether cX1_dotsWithTogether 5 (some .int)]
def wsX2_field : List Cond := .code yX2_field cX2_field 2 (some .int) :: ((wsX2_field_r1 ++ (wsX2_field_r2 ++ wsX2_field_r3)) ++ wsX20 ++ wsX10 ++ wsX00)
def wsX2_best_r1 : List Cond := [Cond.fieldLink RX2 12 "DotCover" "now" "LDotCover$Scene;", Cond.methodLink RX2 24 yX1_layerOf, Cond.instanceMethod yX1_layerOf, Cond.selects RX1 yX1_layerOf yX1_layerOf, Cond.initialized RX1, Cond.code yX1_layerOf cX1_layerOf 2 (some (.object "DotCover$Layer")), Cond.fieldLink RX1 11 "DotCover$Scene" "layers" "[LDotCover$Layer;", Cond.static yX2_within, Cond.initialized RX2, Cond.code yX2_within cX2_within 3 (some .boolean), Cond.methodLink RX2 51 yX2_within, Cond.methodLink RX2 116 yX0_bestMove, Cond.instanceMethod yX0_bestMove, Cond.selects RX0 yX0_bestMove yX0_bestMove, Cond.initialized RX0, Cond.code yX0_bestMove cX0_bestMove 13 (some .int), Cond.fieldLink RX0 9 "DotCover$Layer" "xs" "[I", Cond.fieldLink RX0 15 "DotCover$Layer" "ys" "[I", Cond.methodLink RX0 36 yX0_least, Cond.instanceMethod yX0_least, Cond.selects RX0 yX0_least yX0_least, Cond.code yX0_least cX0_least 4 (some .int), Cond.fieldLink RX0 18 "DotCover$Layer" "size" "I", Cond.methodLink RX0 47 Lib.Math.min.name]
def wsX2_best_r2 : List Cond := [Cond.static Lib.Math.min.name, Cond.initialized "java/lang/Math", Cond.code Lib.Math.min.name Lib.Math.min.code 2 (some .int), Cond.methodLink RX0 40 yX0_greatest, Cond.instanceMethod yX0_greatest, Cond.selects RX0 yX0_greatest yX0_greatest, Cond.code yX0_greatest cX0_greatest 4 (some .int), Cond.methodLink RX0 53 Lib.Math.max.name, Cond.static Lib.Math.max.name, Cond.code Lib.Math.max.name Lib.Math.max.code 2 (some .int), Cond.methodLink RX0 43 yX0_wholeDots, Cond.instanceMethod yX0_wholeDots, Cond.selects RX0 yX0_wholeDots yX0_wholeDots, Cond.code yX0_wholeDots cX0_wholeDots 8 (some .int), Cond.constantLong RX0 60 (498960), Cond.methodLink RX0 56 yX0_coverParts, Cond.instanceMethod yX0_coverParts, Cond.selects RX0 yX0_coverParts yX0_coverParts, Cond.code yX0_coverParts cX0_coverParts 8 (some .long), Cond.methodLink RX0 65 Lib.MathLoose.abs_long.x, Cond.static Lib.MathLoose.abs_long.x, Cond.code Lib.MathLoose.abs_long.x Lib.MathLoose.abs_long.code 2 (some .long), Cond.fieldLink RX0 22 "DotCover$Layer" "folding" "I", Cond.methodLink RX0 69 Lib.MathLoose.min_long.x]
def wsX2_best_r3 : List Cond := [Cond.static Lib.MathLoose.min_long.x, Cond.code Lib.MathLoose.min_long.x Lib.MathLoose.min_long.code 4 (some .long), Cond.constantLong RX0 72 (997920), Cond.methodLink RX0 62 yX0_rawParts, Cond.instanceMethod yX0_rawParts, Cond.selects RX0 yX0_rawParts yX0_rawParts, Cond.code yX0_rawParts cX0_rawParts 10 (some .long), Cond.methodLink RX0 74 yX0_leftOfEdge, Cond.static yX0_leftOfEdge, Cond.code yX0_leftOfEdge cX0_leftOfEdge 14 (some .long), Cond.methodLink RX0 78 Lib.Math.abs.name, Cond.static Lib.Math.abs.name, Cond.code Lib.Math.abs.name Lib.Math.abs.code 1 (some .int), Cond.methodLink RX0 81 yX0_beforeEdge, Cond.static yX0_beforeEdge, Cond.code yX0_beforeEdge cX0_beforeEdge 6 (some .long), Cond.constantLong RX0 85 (27720)]
def wsX2_best : List Cond := .code yX2_best cX2_best 4 (some .int) :: ((wsX2_best_r1 ++ (wsX2_best_r2 ++ wsX2_best_r3)) ++ wsX20 ++ wsX00 ++ wsX10)
def wsX2_same_r1 : List Cond := [Cond.fieldLink RX2 12 "DotCover" "now" "LDotCover$Scene;", Cond.methodLink RX2 24 yX1_layerOf, Cond.instanceMethod yX1_layerOf, Cond.selects RX1 yX1_layerOf yX1_layerOf, Cond.initialized RX1, Cond.code yX1_layerOf cX1_layerOf 2 (some (.object "DotCover$Layer")), Cond.fieldLink RX1 11 "DotCover$Scene" "layers" "[LDotCover$Layer;", Cond.static yX2_within, Cond.initialized RX2, Cond.code yX2_within cX2_within 3 (some .boolean), Cond.methodLink RX2 94 yX0_coverParts, Cond.instanceMethod yX0_coverParts, Cond.selects RX0 yX0_coverParts yX0_coverParts, Cond.initialized RX0, Cond.code yX0_coverParts cX0_coverParts 8 (some .long), Cond.methodLink RX0 65 Lib.MathLoose.abs_long.x, Cond.static Lib.MathLoose.abs_long.x, Cond.initialized "java/lang/Math", Cond.code Lib.MathLoose.abs_long.x Lib.MathLoose.abs_long.code 2 (some .long), Cond.fieldLink RX0 22 "DotCover$Layer" "folding" "I", Cond.constantLong RX0 60 (498960), Cond.methodLink RX0 69 Lib.MathLoose.min_long.x, Cond.static Lib.MathLoose.min_long.x, Cond.code Lib.MathLoose.min_long.x Lib.MathLoose.min_long.code 4 (some .long)]
def wsX2_same_r2 : List Cond := [Cond.constantLong RX0 72 (997920), Cond.methodLink RX0 62 yX0_rawParts, Cond.instanceMethod yX0_rawParts, Cond.selects RX0 yX0_rawParts yX0_rawParts, Cond.code yX0_rawParts cX0_rawParts 10 (some .long), Cond.fieldLink RX0 18 "DotCover$Layer" "size" "I", Cond.fieldLink RX0 15 "DotCover$Layer" "ys" "[I", Cond.fieldLink RX0 9 "DotCover$Layer" "xs" "[I", Cond.methodLink RX0 74 yX0_leftOfEdge, Cond.static yX0_leftOfEdge, Cond.code yX0_leftOfEdge cX0_leftOfEdge 14 (some .long), Cond.methodLink RX0 53 Lib.Math.max.name, Cond.static Lib.Math.max.name, Cond.code Lib.Math.max.name Lib.Math.max.code 2 (some .int), Cond.methodLink RX0 47 Lib.Math.min.name, Cond.static Lib.Math.min.name, Cond.code Lib.Math.min.name Lib.Math.min.code 2 (some .int), Cond.methodLink RX0 78 Lib.Math.abs.name, Cond.static Lib.Math.abs.name, Cond.code Lib.Math.abs.name Lib.Math.abs.code 1 (some .int), Cond.methodLink RX0 81 yX0_beforeEdge, Cond.static yX0_beforeEdge, Cond.code yX0_beforeEdge cX0_beforeEdge 6 (some .long), Cond.constantLong RX0 85 (27720)]
def wsX2_same : List Cond := .code yX2_same cX2_same 7 (some .int) :: ((wsX2_same_r1 ++ wsX2_same_r2) ++ wsX20 ++ wsX10 ++ wsX00)
def wsX2_image : List Cond := .code yX2_image cX2_image 2 (some .int) :: ([.fieldLink RX2 16 "DotCover" "images" "[LDotCover$Scene;", .fieldLink RX2 12 "DotCover" "now" "LDotCover$Scene;", .fieldLink RX2 20 "DotCover" "keptImages" "I", .methodLink RX2 51 yX2_within, .static yX2_within, .initialized RX2, .code yX2_within cX2_within 3 (some .boolean), .methodLink RX2 120 yX1_copyFrom, .instanceMethod yX1_copyFrom, .selects RX1 yX1_copyFrom yX1_copyFrom, .initialized RX1, .code yX1_copyFrom cX1_copyFrom 3 none, .fieldLink RX1 11 "DotCover$Scene" "layers" "[LDotCover$Layer;", .methodLink RX1 22 yX0_copyFrom, .instanceMethod yX0_copyFrom, .selects RX0 yX0_copyFrom yX0_copyFrom, .initialized RX0, .code yX0_copyFrom cX0_copyFrom 3 none, .fieldLink RX0 9 "DotCover$Layer" "xs" "[I", .fieldLink RX0 15 "DotCover$Layer" "ys" "[I", .fieldLink RX0 18 "DotCover$Layer" "size" "I", .fieldLink RX0 22 "DotCover$Layer" "folding" "I"] ++ wsX20 ++ wsX10 ++ wsX00)
def wsX2_restore : List Cond := .code yX2_restore cX2_restore 2 (some .int) :: ([.fieldLink RX2 20 "DotCover" "keptImages" "I", .fieldLink RX2 12 "DotCover" "now" "LDotCover$Scene;", .fieldLink RX2 16 "DotCover" "images" "[LDotCover$Scene;", .methodLink RX2 51 yX2_within, .static yX2_within, .initialized RX2, .code yX2_within cX2_within 3 (some .boolean), .methodLink RX2 120 yX1_copyFrom, .instanceMethod yX1_copyFrom, .selects RX1 yX1_copyFrom yX1_copyFrom, .initialized RX1, .code yX1_copyFrom cX1_copyFrom 3 none, .fieldLink RX1 11 "DotCover$Scene" "layers" "[LDotCover$Layer;", .methodLink RX1 22 yX0_copyFrom, .instanceMethod yX0_copyFrom, .selects RX0 yX0_copyFrom yX0_copyFrom, .initialized RX0, .code yX0_copyFrom cX0_copyFrom 3 none, .fieldLink RX0 9 "DotCover$Layer" "xs" "[I", .fieldLink RX0 15 "DotCover$Layer" "ys" "[I", .fieldLink RX0 18 "DotCover$Layer" "size" "I", .fieldLink RX0 22 "DotCover$Layer" "folding" "I"] ++ wsX20 ++ wsX10 ++ wsX00)
def wsX2_count : List Cond := .code yX2_count cX2_count 4 (some .int) :: ([.fieldLink RX2 12 "DotCover" "now" "LDotCover$Scene;", .fieldLink RX2 20 "DotCover" "keptImages" "I", .methodLink RX2 124 yX1_pointsOfAll, .instanceMethod yX1_pointsOfAll, .selects RX1 yX1_pointsOfAll yX1_pointsOfAll, .initialized RX1, .code yX1_pointsOfAll cX1_pointsOfAll 3 (some .int), .fieldLink RX1 11 "DotCover$Scene" "layers" "[LDotCover$Layer;", .methodLink RX2 24 yX1_layerOf, .instanceMethod yX1_layerOf, .selects RX1 yX1_layerOf yX1_layerOf, .code yX1_layerOf cX1_layerOf 2 (some (.object "DotCover$Layer")), .static yX2_within, .initialized RX2, .code yX2_within cX2_within 3 (some .boolean)] ++ wsX20 ++ wsX00 ++ wsX10)
def wsX3_init : List Cond := .code yX3_init cX3_init 1 none :: ([.methodLink RX3 1 objectInit, .instanceMethod objectInit, .code objectInit ⟨#[0xb1]⟩ 1 none, .arrayClass .int, .fieldLink RX3 7 "DotCoverModel" "state" "[I", .fieldLink RX3 13 "DotCoverModel" "images" "[I", .arrayClass .boolean, .fieldLink RX3 16 "DotCoverModel" "isKept" "[Z", .fieldLink RX3 20 "DotCoverModel" "wasX" "[I", .fieldLink RX3 23 "DotCoverModel" "wasY" "[I", .arrayClass .long, .fieldLink RX3 26 "DotCoverModel" "px" "[J", .fieldLink RX3 30 "DotCoverModel" "py" "[J", .fieldLink RX3 33 "DotCoverModel" "leftX" "[J", .fieldLink RX3 36 "DotCoverModel" "leftY" "[J"] ++ wsX30)
def wsX3_in : List Cond := .code yX3_in cX3_in 3 (some .boolean) :: ([])
def wsX3_isLayer : List Cond := .code yX3_isLayer cX3_isLayer 1 (some .boolean) :: ([.methodLink RX3 39 yX3_in, .static yX3_in, .initialized RX3, .code yX3_in cX3_in 3 (some .boolean)])
def wsX3_isDot : List Cond := .code yX3_isDot cX3_isDot 1 (some .boolean) :: ([.methodLink RX3 39 yX3_in, .static yX3_in, .initialized RX3, .code yX3_in cX3_in 3 (some .boolean)])
def wsX3_isHere : List Cond := .code yX3_isHere cX3_isHere 2 (some .boolean) :: ([.methodLink RX3 39 yX3_in, .static yX3_in, .initialized RX3, .code yX3_in cX3_in 3 (some .boolean)])
def wsX3_isPoint : List Cond := .code yX3_isPoint cX3_isPoint 3 (some .boolean) :: ([.fieldLink RX3 7 "DotCoverModel" "state" "[I", .methodLink RX3 39 yX3_in, .static yX3_in, .initialized RX3, .code yX3_in cX3_in 3 (some .boolean)] ++ wsX30)
def wsX3_place : List Cond := .code yX3_place cX3_place 2 (some .int) :: ([])
def wsX3_point : List Cond := .code yX3_point cX3_point 5 (some .int) :: ([.fieldLink RX3 7 "DotCoverModel" "state" "[I", .methodLink RX3 43 yX3_isLayer, .static yX3_isLayer, .initialized RX3, .code yX3_isLayer cX3_isLayer 1 (some .boolean), .methodLink RX3 39 yX3_in, .static yX3_in, .code yX3_in cX3_in 3 (some .boolean), .methodLink RX3 47 yX3_isHere, .static yX3_isHere, .code yX3_isHere cX3_isHere 2 (some .boolean), .methodLink RX3 51 yX3_place, .static yX3_place, .code yX3_place cX3_place 2 (some .int)] ++ wsX30)
def wsX3_pop : List Cond := .code yX3_pop cX3_pop 2 (some .int) :: ([.fieldLink RX3 7 "DotCoverModel" "state" "[I", .methodLink RX3 43 yX3_isLayer, .static yX3_isLayer, .initialized RX3, .code yX3_isLayer cX3_isLayer 1 (some .boolean), .methodLink RX3 39 yX3_in, .static yX3_in, .code yX3_in cX3_in 3 (some .boolean)] ++ wsX30)
def wsX3_set : List Cond := .code yX3_set cX3_set 7 (some .int) :: ([.fieldLink RX3 7 "DotCoverModel" "state" "[I", .methodLink RX3 43 yX3_isLayer, .static yX3_isLayer, .initialized RX3, .code yX3_isLayer cX3_isLayer 1 (some .boolean), .methodLink RX3 39 yX3_in, .static yX3_in, .code yX3_in cX3_in 3 (some .boolean), .methodLink RX3 55 yX3_isPoint, .instanceMethod yX3_isPoint, .selects RX3 yX3_isPoint yX3_isPoint, .code yX3_isPoint cX3_isPoint 3 (some .boolean), .methodLink RX3 47 yX3_isHere, .static yX3_isHere, .code yX3_isHere cX3_isHere 2 (some .boolean), .methodLink RX3 51 yX3_place, .static yX3_place, .code yX3_place cX3_place 2 (some .int)] ++ wsX30)
def wsX3_rule : List Cond := .code yX3_rule cX3_rule 4 (some .int) :: ([.fieldLink RX3 7 "DotCoverModel" "state" "[I", .methodLink RX3 43 yX3_isLayer, .static yX3_isLayer, .initialized RX3, .code yX3_isLayer cX3_isLayer 1 (some .boolean), .methodLink RX3 39 yX3_in, .static yX3_in, .code yX3_in cX3_in 3 (some .boolean)] ++ wsX30)
def wsX3_canMove : List Cond := .code yX3_canMove cX3_canMove 6 (some .boolean) :: ([.fieldLink RX3 7 "DotCoverModel" "state" "[I", .methodLink RX3 51 yX3_place, .static yX3_place, .initialized RX3, .code yX3_place cX3_place 2 (some .int), .methodLink RX3 47 yX3_isHere, .static yX3_isHere, .code yX3_isHere cX3_isHere 2 (some .boolean), .methodLink RX3 39 yX3_in, .static yX3_in, .code yX3_in cX3_in 3 (some .boolean)] ++ wsX30)
def wsX3_move : List Cond := .code yX3_move cX3_move 5 (some .int) :: ([.fieldLink RX3 7 "DotCoverModel" "state" "[I", .methodLink RX3 43 yX3_isLayer, .static yX3_isLayer, .initialized RX3, .code yX3_isLayer cX3_isLayer 1 (some .boolean), .methodLink RX3 39 yX3_in, .static yX3_in, .code yX3_in cX3_in 3 (some .boolean), .methodLink RX3 58 yX3_canMove, .instanceMethod yX3_canMove, .selects RX3 yX3_canMove yX3_canMove, .code yX3_canMove cX3_canMove 6 (some .boolean), .methodLink RX3 51 yX3_place, .static yX3_place, .code yX3_place cX3_place 2 (some .int), .methodLink RX3 47 yX3_isHere, .static yX3_isHere, .code yX3_isHere cX3_isHere 2 (some .boolean)] ++ wsX30)
def wsX3_putAside : List Cond := .code yX3_putAside cX3_putAside 3 none :: ([.fieldLink RX3 7 "DotCoverModel" "state" "[I", .fieldLink RX3 20 "DotCoverModel" "wasX" "[I", .fieldLink RX3 23 "DotCoverModel" "wasY" "[I", .methodLink RX3 51 yX3_place, .static yX3_place, .initialized RX3, .code yX3_place cX3_place 2 (some .int)] ++ wsX30)
def wsX3_layFrom : List Cond := .code yX3_layFrom cX3_layFrom 4 none :: ([.fieldLink RX3 7 "DotCoverModel" "state" "[I", .fieldLink RX3 20 "DotCoverModel" "wasX" "[I", .fieldLink RX3 23 "DotCoverModel" "wasY" "[I", .methodLink RX3 51 yX3_place, .static yX3_place, .initialized RX3, .code yX3_place cX3_place 2 (some .int)] ++ wsX30)
def wsX3_back : List Cond := .code yX3_back cX3_back 4 (some .int) :: ([.fieldLink RX3 7 "DotCoverModel" "state" "[I", .methodLink RX3 43 yX3_isLayer, .static yX3_isLayer, .initialized RX3, .code yX3_isLayer cX3_isLayer 1 (some .boolean), .methodLink RX3 39 yX3_in, .static yX3_in, .code yX3_in cX3_in 3 (some .boolean), .methodLink RX3 61 yX3_putAside, .instanceMethod yX3_putAside, .selects RX3 yX3_putAside yX3_putAside, .code yX3_putAside cX3_putAside 3 none, .fieldLink RX3 20 "DotCoverModel" "wasX" "[I", .fieldLink RX3 23 "DotCoverModel" "wasY" "[I", .methodLink RX3 51 yX3_place, .static yX3_place, .code yX3_place cX3_place 2 (some .int), .methodLink RX3 65 yX3_layFrom, .instanceMethod yX3_layFrom, .selects RX3 yX3_layFrom yX3_layFrom, .code yX3_layFrom cX3_layFrom 4 none] ++ wsX30)
def wsX3_begin_r1 : List Cond := [Cond.fieldLink RX3 7 "DotCoverModel" "state" "[I", Cond.methodLink RX3 43 yX3_isLayer, Cond.static yX3_isLayer, Cond.initialized RX3, Cond.code yX3_isLayer cX3_isLayer 1 (some .boolean), Cond.methodLink RX3 39 yX3_in, Cond.static yX3_in, Cond.code yX3_in cX3_in 3 (some .boolean), Cond.methodLink RX3 55 yX3_isPoint, Cond.instanceMethod yX3_isPoint, Cond.selects RX3 yX3_isPoint yX3_isPoint, Cond.code yX3_isPoint cX3_isPoint 3 (some .boolean), Cond.methodLink RX3 61 yX3_putAside, Cond.instanceMethod yX3_putAside, Cond.selects RX3 yX3_putAside yX3_putAside, Cond.code yX3_putAside cX3_putAside 3 none, Cond.fieldLink RX3 20 "DotCoverModel" "wasX" "[I", Cond.fieldLink RX3 23 "DotCoverModel" "wasY" "[I", Cond.methodLink RX3 51 yX3_place, Cond.static yX3_place, Cond.code yX3_place cX3_place 2 (some .int), Cond.methodLink RX3 65 yX3_layFrom, Cond.instanceMethod yX3_layFrom, Cond.selects RX3 yX3_layFrom yX3_layFrom]
def wsX3_begin_r2 : List Cond := [Cond.code yX3_layFrom cX3_layFrom 4 none]
def wsX3_begin : List Cond := .code yX3_begin cX3_begin 5 (some .int) :: ((wsX3_begin_r1 ++ wsX3_begin_r2) ++ wsX30)
def wsX3_at : List Cond := .code yX3_at cX3_at 4 (some .int) :: ([.fieldLink RX3 7 "DotCoverModel" "state" "[I", .methodLink RX3 43 yX3_isLayer, .static yX3_isLayer, .initialized RX3, .code yX3_isLayer cX3_isLayer 1 (some .boolean), .methodLink RX3 39 yX3_in, .static yX3_in, .code yX3_in cX3_in 3 (some .boolean), .methodLink RX3 55 yX3_isPoint, .instanceMethod yX3_isPoint, .selects RX3 yX3_isPoint yX3_isPoint, .code yX3_isPoint cX3_isPoint 3 (some .boolean), .methodLink RX3 51 yX3_place, .static yX3_place, .code yX3_place cX3_place 2 (some .int)] ++ wsX30)
def wsX3_layPath : List Cond := .code yX3_layPath cX3_layPath 5 none :: ([.fieldLink RX3 7 "DotCoverModel" "state" "[I", .fieldLink RX3 69 "DotCoverModel" "corners" "I", .fieldLink RX3 26 "DotCoverModel" "px" "[J", .constantLong RX3 73 (27720), .fieldLink RX3 30 "DotCoverModel" "py" "[J", .methodLink RX3 51 yX3_place, .static yX3_place, .initialized RX3, .code yX3_place cX3_place 2 (some .int)] ++ wsX30)
def wsX3_leave : List Cond := .code yX3_leave cX3_leave 5 none :: ([.fieldLink RX3 33 "DotCoverModel" "leftX" "[J", .fieldLink RX3 75 "DotCoverModel" "left" "I", .fieldLink RX3 36 "DotCoverModel" "leftY" "[J"] ++ wsX30)
def wsX3_within : List Cond := .code yX3_within cX3_within 5 (some .long) :: ([.fieldLink RX3 26 "DotCoverModel" "px" "[J", .fieldLink RX3 30 "DotCoverModel" "py" "[J"] ++ wsX30)
def wsX3_leaveCrossing : List Cond := .code yX3_leaveCrossing cX3_leaveCrossing 6 none :: ([.fieldLink RX3 30 "DotCoverModel" "py" "[J", .fieldLink RX3 26 "DotCoverModel" "px" "[J", .methodLink RX3 78 yX3_leave, .instanceMethod yX3_leave, .selects RX3 yX3_leave yX3_leave, .initialized RX3, .code yX3_leave cX3_leave 5 none, .fieldLink RX3 33 "DotCoverModel" "leftX" "[J", .fieldLink RX3 75 "DotCoverModel" "left" "I", .fieldLink RX3 36 "DotCoverModel" "leftY" "[J"] ++ wsX30)
def wsX3_cutSide : List Cond := .code yX3_cutSide cX3_cutSide 10 none :: ([.fieldLink RX3 75 "DotCoverModel" "left" "I", .fieldLink RX3 69 "DotCoverModel" "corners" "I", .fieldLink RX3 26 "DotCoverModel" "px" "[J", .fieldLink RX3 30 "DotCoverModel" "py" "[J", .fieldLink RX3 33 "DotCoverModel" "leftX" "[J", .fieldLink RX3 36 "DotCoverModel" "leftY" "[J", .methodLink RX3 82 yX3_within, .instanceMethod yX3_within, .selects RX3 yX3_within yX3_within, .initialized RX3, .code yX3_within cX3_within 5 (some .long), .methodLink RX3 78 yX3_leave, .instanceMethod yX3_leave, .selects RX3 yX3_leave yX3_leave, .code yX3_leave cX3_leave 5 none, .methodLink RX3 86 yX3_leaveCrossing, .instanceMethod yX3_leaveCrossing, .selects RX3 yX3_leaveCrossing yX3_leaveCrossing, .code yX3_leaveCrossing cX3_leaveCrossing 6 none] ++ wsX30)
def wsX3_twiceArea : List Cond := .code yX3_twiceArea cX3_twiceArea 5 (some .long) :: ([.fieldLink RX3 69 "DotCoverModel" "corners" "I", .fieldLink RX3 26 "DotCoverModel" "px" "[J", .fieldLink RX3 30 "DotCoverModel" "py" "[J"] ++ wsX30)
def wsX3_rawOf_r1 : List Cond := [Cond.constantLong RX3 93 (83160), Cond.constantLong RX3 73 (27720), Cond.methodLink RX3 90 yX3_layPath, Cond.instanceMethod yX3_layPath, Cond.selects RX3 yX3_layPath yX3_layPath, Cond.initialized RX3, Cond.code yX3_layPath cX3_layPath 5 none, Cond.fieldLink RX3 7 "DotCoverModel" "state" "[I", Cond.fieldLink RX3 69 "DotCoverModel" "corners" "I", Cond.fieldLink RX3 26 "DotCoverModel" "px" "[J", Cond.fieldLink RX3 30 "DotCoverModel" "py" "[J", Cond.methodLink RX3 51 yX3_place, Cond.static yX3_place, Cond.code yX3_place cX3_place 2 (some .int), Cond.methodLink RX3 95 yX3_cutSide, Cond.instanceMethod yX3_cutSide, Cond.selects RX3 yX3_cutSide yX3_cutSide, Cond.code yX3_cutSide cX3_cutSide 10 none, Cond.fieldLink RX3 75 "DotCoverModel" "left" "I", Cond.fieldLink RX3 33 "DotCoverModel" "leftX" "[J", Cond.fieldLink RX3 36 "DotCoverModel" "leftY" "[J", Cond.methodLink RX3 82 yX3_within, Cond.instanceMethod yX3_within, Cond.selects RX3 yX3_within yX3_within]
def wsX3_rawOf_r2 : List Cond := [Cond.code yX3_within cX3_within 5 (some .long), Cond.methodLink RX3 78 yX3_leave, Cond.instanceMethod yX3_leave, Cond.selects RX3 yX3_leave yX3_leave, Cond.code yX3_leave cX3_leave 5 none, Cond.methodLink RX3 86 yX3_leaveCrossing, Cond.instanceMethod yX3_leaveCrossing, Cond.selects RX3 yX3_leaveCrossing yX3_leaveCrossing, Cond.code yX3_leaveCrossing cX3_leaveCrossing 6 none, Cond.methodLink RX3 99 yX3_twiceArea, Cond.instanceMethod yX3_twiceArea, Cond.selects RX3 yX3_twiceArea yX3_twiceArea, Cond.code yX3_twiceArea cX3_twiceArea 5 (some .long)]
def wsX3_rawOf : List Cond := .code yX3_rawOf cX3_rawOf 9 (some .long) :: ((wsX3_rawOf_r1 ++ wsX3_rawOf_r2) ++ wsX30)
def wsX3_plain : List Cond := .code yX3_plain cX3_plain 2 (some .long) :: ([])
def wsX3_coverMoved_r1 : List Cond := [Cond.fieldLink RX3 7 "DotCoverModel" "state" "[I", Cond.constantLong RX3 111 (498960), Cond.constantLong RX3 113 (997920), Cond.methodLink RX3 103 yX3_rawOf, Cond.instanceMethod yX3_rawOf, Cond.selects RX3 yX3_rawOf yX3_rawOf, Cond.initialized RX3, Cond.code yX3_rawOf cX3_rawOf 9 (some .long), Cond.constantLong RX3 93 (83160), Cond.constantLong RX3 73 (27720), Cond.methodLink RX3 90 yX3_layPath, Cond.instanceMethod yX3_layPath, Cond.selects RX3 yX3_layPath yX3_layPath, Cond.code yX3_layPath cX3_layPath 5 none, Cond.fieldLink RX3 69 "DotCoverModel" "corners" "I", Cond.fieldLink RX3 26 "DotCoverModel" "px" "[J", Cond.fieldLink RX3 30 "DotCoverModel" "py" "[J", Cond.methodLink RX3 51 yX3_place, Cond.static yX3_place, Cond.code yX3_place cX3_place 2 (some .int), Cond.methodLink RX3 95 yX3_cutSide, Cond.instanceMethod yX3_cutSide, Cond.selects RX3 yX3_cutSide yX3_cutSide, Cond.code yX3_cutSide cX3_cutSide 10 none]
def wsX3_coverMoved_r2 : List Cond := [Cond.fieldLink RX3 75 "DotCoverModel" "left" "I", Cond.fieldLink RX3 33 "DotCoverModel" "leftX" "[J", Cond.fieldLink RX3 36 "DotCoverModel" "leftY" "[J", Cond.methodLink RX3 82 yX3_within, Cond.instanceMethod yX3_within, Cond.selects RX3 yX3_within yX3_within, Cond.code yX3_within cX3_within 5 (some .long), Cond.methodLink RX3 78 yX3_leave, Cond.instanceMethod yX3_leave, Cond.selects RX3 yX3_leave yX3_leave, Cond.code yX3_leave cX3_leave 5 none, Cond.methodLink RX3 86 yX3_leaveCrossing, Cond.instanceMethod yX3_leaveCrossing, Cond.selects RX3 yX3_leaveCrossing yX3_leaveCrossing, Cond.code yX3_leaveCrossing cX3_leaveCrossing 6 none, Cond.methodLink RX3 99 yX3_twiceArea, Cond.instanceMethod yX3_twiceArea, Cond.selects RX3 yX3_twiceArea yX3_twiceArea, Cond.code yX3_twiceArea cX3_twiceArea 5 (some .long), Cond.methodLink RX3 107 yX3_plain, Cond.static yX3_plain, Cond.code yX3_plain cX3_plain 2 (some .long)]
def wsX3_coverMoved : List Cond := .code yX3_coverMoved cX3_coverMoved 9 (some .long) :: ((wsX3_coverMoved_r1 ++ wsX3_coverMoved_r2) ++ wsX30)
def wsX3_coverOf_r1 : List Cond := [Cond.methodLink RX3 115 yX3_coverMoved, Cond.instanceMethod yX3_coverMoved, Cond.selects RX3 yX3_coverMoved yX3_coverMoved, Cond.initialized RX3, Cond.code yX3_coverMoved cX3_coverMoved 9 (some .long), Cond.fieldLink RX3 7 "DotCoverModel" "state" "[I", Cond.constantLong RX3 111 (498960), Cond.constantLong RX3 113 (997920), Cond.methodLink RX3 103 yX3_rawOf, Cond.instanceMethod yX3_rawOf, Cond.selects RX3 yX3_rawOf yX3_rawOf, Cond.code yX3_rawOf cX3_rawOf 9 (some .long), Cond.constantLong RX3 93 (83160), Cond.constantLong RX3 73 (27720), Cond.methodLink RX3 90 yX3_layPath, Cond.instanceMethod yX3_layPath, Cond.selects RX3 yX3_layPath yX3_layPath, Cond.code yX3_layPath cX3_layPath 5 none, Cond.fieldLink RX3 69 "DotCoverModel" "corners" "I", Cond.fieldLink RX3 26 "DotCoverModel" "px" "[J", Cond.fieldLink RX3 30 "DotCoverModel" "py" "[J", Cond.methodLink RX3 51 yX3_place, Cond.static yX3_place, Cond.code yX3_place cX3_place 2 (some .int)]
def wsX3_coverOf_r2 : List Cond := [Cond.methodLink RX3 95 yX3_cutSide, Cond.instanceMethod yX3_cutSide, Cond.selects RX3 yX3_cutSide yX3_cutSide, Cond.code yX3_cutSide cX3_cutSide 10 none, Cond.fieldLink RX3 75 "DotCoverModel" "left" "I", Cond.fieldLink RX3 33 "DotCoverModel" "leftX" "[J", Cond.fieldLink RX3 36 "DotCoverModel" "leftY" "[J", Cond.methodLink RX3 82 yX3_within, Cond.instanceMethod yX3_within, Cond.selects RX3 yX3_within yX3_within, Cond.code yX3_within cX3_within 5 (some .long), Cond.methodLink RX3 78 yX3_leave, Cond.instanceMethod yX3_leave, Cond.selects RX3 yX3_leave yX3_leave, Cond.code yX3_leave cX3_leave 5 none, Cond.methodLink RX3 86 yX3_leaveCrossing, Cond.instanceMethod yX3_leaveCrossing, Cond.selects RX3 yX3_leaveCrossing yX3_leaveCrossing, Cond.code yX3_leaveCrossing cX3_leaveCrossing 6 none, Cond.methodLink RX3 99 yX3_twiceArea, Cond.instanceMethod yX3_twiceArea, Cond.selects RX3 yX3_twiceArea yX3_twiceArea, Cond.code yX3_twiceArea cX3_twiceArea 5 (some .long), Cond.methodLink RX3 107 yX3_plain]
def wsX3_coverOf_r3 : List Cond := [Cond.static yX3_plain, Cond.code yX3_plain cX3_plain 2 (some .long)]
def wsX3_coverOf : List Cond := .code yX3_coverOf cX3_coverOf 3 (some .long) :: ((wsX3_coverOf_r1 ++ (wsX3_coverOf_r2 ++ wsX3_coverOf_r3)) ++ wsX30)
def wsX3_common : List Cond := .code yX3_common cX3_common 10 (some .long) :: ([])
def wsX3_told : List Cond := .code yX3_told cX3_told 7 (some .long) :: ([.methodLink RX3 107 yX3_plain, .static yX3_plain, .initialized RX3, .code yX3_plain cX3_plain 2 (some .long), .methodLink RX3 118 yX3_common, .static yX3_common, .code yX3_common cX3_common 10 (some .long)])
def wsX3_isPart : List Cond := .code yX3_isPart cX3_isPart 1 (some .boolean) :: ([.methodLink RX3 39 yX3_in, .static yX3_in, .initialized RX3, .code yX3_in cX3_in 3 (some .boolean)])
def wsX3_raw_r1 : List Cond := [Cond.constantLong RX3 125 (-1000000000000000001), Cond.constantLong RX3 111 (498960), Cond.constantLong RX3 134 (-1000000000000000002), Cond.methodLink RX3 43 yX3_isLayer, Cond.static yX3_isLayer, Cond.initialized RX3, Cond.code yX3_isLayer cX3_isLayer 1 (some .boolean), Cond.methodLink RX3 39 yX3_in, Cond.static yX3_in, Cond.code yX3_in cX3_in 3 (some .boolean), Cond.methodLink RX3 122 yX3_isDot, Cond.static yX3_isDot, Cond.code yX3_isDot cX3_isDot 1 (some .boolean), Cond.methodLink RX3 127 yX3_isPart, Cond.static yX3_isPart, Cond.code yX3_isPart cX3_isPart 1 (some .boolean), Cond.methodLink RX3 103 yX3_rawOf, Cond.instanceMethod yX3_rawOf, Cond.selects RX3 yX3_rawOf yX3_rawOf, Cond.code yX3_rawOf cX3_rawOf 9 (some .long), Cond.constantLong RX3 93 (83160), Cond.constantLong RX3 73 (27720), Cond.methodLink RX3 90 yX3_layPath, Cond.instanceMethod yX3_layPath]
def wsX3_raw_r2 : List Cond := [Cond.selects RX3 yX3_layPath yX3_layPath, Cond.code yX3_layPath cX3_layPath 5 none, Cond.fieldLink RX3 7 "DotCoverModel" "state" "[I", Cond.fieldLink RX3 69 "DotCoverModel" "corners" "I", Cond.fieldLink RX3 26 "DotCoverModel" "px" "[J", Cond.fieldLink RX3 30 "DotCoverModel" "py" "[J", Cond.methodLink RX3 51 yX3_place, Cond.static yX3_place, Cond.code yX3_place cX3_place 2 (some .int), Cond.methodLink RX3 95 yX3_cutSide, Cond.instanceMethod yX3_cutSide, Cond.selects RX3 yX3_cutSide yX3_cutSide, Cond.code yX3_cutSide cX3_cutSide 10 none, Cond.fieldLink RX3 75 "DotCoverModel" "left" "I", Cond.fieldLink RX3 33 "DotCoverModel" "leftX" "[J", Cond.fieldLink RX3 36 "DotCoverModel" "leftY" "[J", Cond.methodLink RX3 82 yX3_within, Cond.instanceMethod yX3_within, Cond.selects RX3 yX3_within yX3_within, Cond.code yX3_within cX3_within 5 (some .long), Cond.methodLink RX3 78 yX3_leave, Cond.instanceMethod yX3_leave, Cond.selects RX3 yX3_leave yX3_leave, Cond.code yX3_leave cX3_leave 5 none]
def wsX3_raw_r3 : List Cond := [Cond.methodLink RX3 86 yX3_leaveCrossing, Cond.instanceMethod yX3_leaveCrossing, Cond.selects RX3 yX3_leaveCrossing yX3_leaveCrossing, Cond.code yX3_leaveCrossing cX3_leaveCrossing 6 none, Cond.methodLink RX3 99 yX3_twiceArea, Cond.instanceMethod yX3_twiceArea, Cond.selects RX3 yX3_twiceArea yX3_twiceArea, Cond.code yX3_twiceArea cX3_twiceArea 5 (some .long), Cond.methodLink RX3 130 yX3_told, Cond.static yX3_told, Cond.code yX3_told cX3_told 7 (some .long), Cond.methodLink RX3 107 yX3_plain, Cond.static yX3_plain, Cond.code yX3_plain cX3_plain 2 (some .long), Cond.methodLink RX3 118 yX3_common, Cond.static yX3_common, Cond.code yX3_common cX3_common 10 (some .long)]
def wsX3_raw : List Cond := .code yX3_raw cX3_raw 4 (some .long) :: ((wsX3_raw_r1 ++ (wsX3_raw_r2 ++ wsX3_raw_r3)) ++ wsX30)
def wsX3_cover_r1 : List Cond := [Cond.constantLong RX3 136 (-1), Cond.constantLong RX3 111 (498960), Cond.constantLong RX3 142 (-2), Cond.methodLink RX3 43 yX3_isLayer, Cond.static yX3_isLayer, Cond.initialized RX3, Cond.code yX3_isLayer cX3_isLayer 1 (some .boolean), Cond.methodLink RX3 39 yX3_in, Cond.static yX3_in, Cond.code yX3_in cX3_in 3 (some .boolean), Cond.methodLink RX3 122 yX3_isDot, Cond.static yX3_isDot, Cond.code yX3_isDot cX3_isDot 1 (some .boolean), Cond.methodLink RX3 127 yX3_isPart, Cond.static yX3_isPart, Cond.code yX3_isPart cX3_isPart 1 (some .boolean), Cond.methodLink RX3 138 yX3_coverOf, Cond.instanceMethod yX3_coverOf, Cond.selects RX3 yX3_coverOf yX3_coverOf, Cond.code yX3_coverOf cX3_coverOf 3 (some .long), Cond.methodLink RX3 115 yX3_coverMoved, Cond.instanceMethod yX3_coverMoved, Cond.selects RX3 yX3_coverMoved yX3_coverMoved, Cond.code yX3_coverMoved cX3_coverMoved 9 (some .long)]
def wsX3_cover_r2 : List Cond := [Cond.fieldLink RX3 7 "DotCoverModel" "state" "[I", Cond.constantLong RX3 113 (997920), Cond.methodLink RX3 103 yX3_rawOf, Cond.instanceMethod yX3_rawOf, Cond.selects RX3 yX3_rawOf yX3_rawOf, Cond.code yX3_rawOf cX3_rawOf 9 (some .long), Cond.constantLong RX3 93 (83160), Cond.constantLong RX3 73 (27720), Cond.methodLink RX3 90 yX3_layPath, Cond.instanceMethod yX3_layPath, Cond.selects RX3 yX3_layPath yX3_layPath, Cond.code yX3_layPath cX3_layPath 5 none, Cond.fieldLink RX3 69 "DotCoverModel" "corners" "I", Cond.fieldLink RX3 26 "DotCoverModel" "px" "[J", Cond.fieldLink RX3 30 "DotCoverModel" "py" "[J", Cond.methodLink RX3 51 yX3_place, Cond.static yX3_place, Cond.code yX3_place cX3_place 2 (some .int), Cond.methodLink RX3 95 yX3_cutSide, Cond.instanceMethod yX3_cutSide, Cond.selects RX3 yX3_cutSide yX3_cutSide, Cond.code yX3_cutSide cX3_cutSide 10 none, Cond.fieldLink RX3 75 "DotCoverModel" "left" "I", Cond.fieldLink RX3 33 "DotCoverModel" "leftX" "[J"]
def wsX3_cover_r3 : List Cond := [Cond.fieldLink RX3 36 "DotCoverModel" "leftY" "[J", Cond.methodLink RX3 82 yX3_within, Cond.instanceMethod yX3_within, Cond.selects RX3 yX3_within yX3_within, Cond.code yX3_within cX3_within 5 (some .long), Cond.methodLink RX3 78 yX3_leave, Cond.instanceMethod yX3_leave, Cond.selects RX3 yX3_leave yX3_leave, Cond.code yX3_leave cX3_leave 5 none, Cond.methodLink RX3 86 yX3_leaveCrossing, Cond.instanceMethod yX3_leaveCrossing, Cond.selects RX3 yX3_leaveCrossing yX3_leaveCrossing, Cond.code yX3_leaveCrossing cX3_leaveCrossing 6 none, Cond.methodLink RX3 99 yX3_twiceArea, Cond.instanceMethod yX3_twiceArea, Cond.selects RX3 yX3_twiceArea yX3_twiceArea, Cond.code yX3_twiceArea cX3_twiceArea 5 (some .long), Cond.methodLink RX3 107 yX3_plain, Cond.static yX3_plain, Cond.code yX3_plain cX3_plain 2 (some .long), Cond.methodLink RX3 130 yX3_told, Cond.static yX3_told, Cond.code yX3_told cX3_told 7 (some .long), Cond.methodLink RX3 118 yX3_common]
def wsX3_cover_r4 : List Cond := [Cond.static yX3_common, Cond.code yX3_common cX3_common 10 (some .long)]
def wsX3_cover : List Cond := .code yX3_cover cX3_cover 4 (some .long) :: ((wsX3_cover_r1 ++ (wsX3_cover_r2 ++ (wsX3_cover_r3 ++ wsX3_cover_r4))) ++ wsX30)
def wsX3_openOf_r1 : List Cond := [Cond.constantLong RX3 111 (498960), Cond.methodLink RX3 138 yX3_coverOf, Cond.instanceMethod yX3_coverOf, Cond.selects RX3 yX3_coverOf yX3_coverOf, Cond.initialized RX3, Cond.code yX3_coverOf cX3_coverOf 3 (some .long), Cond.methodLink RX3 115 yX3_coverMoved, Cond.instanceMethod yX3_coverMoved, Cond.selects RX3 yX3_coverMoved yX3_coverMoved, Cond.code yX3_coverMoved cX3_coverMoved 9 (some .long), Cond.fieldLink RX3 7 "DotCoverModel" "state" "[I", Cond.constantLong RX3 113 (997920), Cond.methodLink RX3 103 yX3_rawOf, Cond.instanceMethod yX3_rawOf, Cond.selects RX3 yX3_rawOf yX3_rawOf, Cond.code yX3_rawOf cX3_rawOf 9 (some .long), Cond.constantLong RX3 93 (83160), Cond.constantLong RX3 73 (27720), Cond.methodLink RX3 90 yX3_layPath, Cond.instanceMethod yX3_layPath, Cond.selects RX3 yX3_layPath yX3_layPath, Cond.code yX3_layPath cX3_layPath 5 none, Cond.fieldLink RX3 69 "DotCoverModel" "corners" "I", Cond.fieldLink RX3 26 "DotCoverModel" "px" "[J"]
def wsX3_openOf_r2 : List Cond := [Cond.fieldLink RX3 30 "DotCoverModel" "py" "[J", Cond.methodLink RX3 51 yX3_place, Cond.static yX3_place, Cond.code yX3_place cX3_place 2 (some .int), Cond.methodLink RX3 95 yX3_cutSide, Cond.instanceMethod yX3_cutSide, Cond.selects RX3 yX3_cutSide yX3_cutSide, Cond.code yX3_cutSide cX3_cutSide 10 none, Cond.fieldLink RX3 75 "DotCoverModel" "left" "I", Cond.fieldLink RX3 33 "DotCoverModel" "leftX" "[J", Cond.fieldLink RX3 36 "DotCoverModel" "leftY" "[J", Cond.methodLink RX3 82 yX3_within, Cond.instanceMethod yX3_within, Cond.selects RX3 yX3_within yX3_within, Cond.code yX3_within cX3_within 5 (some .long), Cond.methodLink RX3 78 yX3_leave, Cond.instanceMethod yX3_leave, Cond.selects RX3 yX3_leave yX3_leave, Cond.code yX3_leave cX3_leave 5 none, Cond.methodLink RX3 86 yX3_leaveCrossing, Cond.instanceMethod yX3_leaveCrossing, Cond.selects RX3 yX3_leaveCrossing yX3_leaveCrossing, Cond.code yX3_leaveCrossing cX3_leaveCrossing 6 none, Cond.methodLink RX3 99 yX3_twiceArea]
def wsX3_openOf_r3 : List Cond := [Cond.instanceMethod yX3_twiceArea, Cond.selects RX3 yX3_twiceArea yX3_twiceArea, Cond.code yX3_twiceArea cX3_twiceArea 5 (some .long), Cond.methodLink RX3 107 yX3_plain, Cond.static yX3_plain, Cond.code yX3_plain cX3_plain 2 (some .long)]
def wsX3_openOf : List Cond := .code yX3_openOf cX3_openOf 5 (some .long) :: ((wsX3_openOf_r1 ++ (wsX3_openOf_r2 ++ wsX3_openOf_r3)) ++ wsX30)
def wsX3_whole : List Cond := .code yX3_whole cX3_whole 0 (some .long) :: ([.constantLong RX3 144 (124221621275136000)])
def wsX3_together_r1 : List Cond := [Cond.constantLong RX3 136 (-1), Cond.constantLong RX3 142 (-2), Cond.methodLink RX3 122 yX3_isDot, Cond.static yX3_isDot, Cond.initialized RX3, Cond.code yX3_isDot cX3_isDot 1 (some .boolean), Cond.methodLink RX3 39 yX3_in, Cond.static yX3_in, Cond.code yX3_in cX3_in 3 (some .boolean), Cond.methodLink RX3 127 yX3_isPart, Cond.static yX3_isPart, Cond.code yX3_isPart cX3_isPart 1 (some .boolean), Cond.methodLink RX3 146 yX3_whole, Cond.static yX3_whole, Cond.code yX3_whole cX3_whole 0 (some .long), Cond.constantLong RX3 144 (124221621275136000), Cond.methodLink RX3 149 yX3_openOf, Cond.instanceMethod yX3_openOf, Cond.selects RX3 yX3_openOf yX3_openOf, Cond.code yX3_openOf cX3_openOf 5 (some .long), Cond.constantLong RX3 111 (498960), Cond.methodLink RX3 138 yX3_coverOf, Cond.instanceMethod yX3_coverOf, Cond.selects RX3 yX3_coverOf yX3_coverOf]
def wsX3_together_r2 : List Cond := [Cond.code yX3_coverOf cX3_coverOf 3 (some .long), Cond.methodLink RX3 115 yX3_coverMoved, Cond.instanceMethod yX3_coverMoved, Cond.selects RX3 yX3_coverMoved yX3_coverMoved, Cond.code yX3_coverMoved cX3_coverMoved 9 (some .long), Cond.fieldLink RX3 7 "DotCoverModel" "state" "[I", Cond.constantLong RX3 113 (997920), Cond.methodLink RX3 103 yX3_rawOf, Cond.instanceMethod yX3_rawOf, Cond.selects RX3 yX3_rawOf yX3_rawOf, Cond.code yX3_rawOf cX3_rawOf 9 (some .long), Cond.constantLong RX3 93 (83160), Cond.constantLong RX3 73 (27720), Cond.methodLink RX3 90 yX3_layPath, Cond.instanceMethod yX3_layPath, Cond.selects RX3 yX3_layPath yX3_layPath, Cond.code yX3_layPath cX3_layPath 5 none, Cond.fieldLink RX3 69 "DotCoverModel" "corners" "I", Cond.fieldLink RX3 26 "DotCoverModel" "px" "[J", Cond.fieldLink RX3 30 "DotCoverModel" "py" "[J", Cond.methodLink RX3 51 yX3_place, Cond.static yX3_place, Cond.code yX3_place cX3_place 2 (some .int), Cond.methodLink RX3 95 yX3_cutSide]
def wsX3_together_r3 : List Cond := [Cond.instanceMethod yX3_cutSide, Cond.selects RX3 yX3_cutSide yX3_cutSide, Cond.code yX3_cutSide cX3_cutSide 10 none, Cond.fieldLink RX3 75 "DotCoverModel" "left" "I", Cond.fieldLink RX3 33 "DotCoverModel" "leftX" "[J", Cond.fieldLink RX3 36 "DotCoverModel" "leftY" "[J", Cond.methodLink RX3 82 yX3_within, Cond.instanceMethod yX3_within, Cond.selects RX3 yX3_within yX3_within, Cond.code yX3_within cX3_within 5 (some .long), Cond.methodLink RX3 78 yX3_leave, Cond.instanceMethod yX3_leave, Cond.selects RX3 yX3_leave yX3_leave, Cond.code yX3_leave cX3_leave 5 none, Cond.methodLink RX3 86 yX3_leaveCrossing, Cond.instanceMethod yX3_leaveCrossing, Cond.selects RX3 yX3_leaveCrossing yX3_leaveCrossing, Cond.code yX3_leaveCrossing cX3_leaveCrossing 6 none, Cond.methodLink RX3 99 yX3_twiceArea, Cond.instanceMethod yX3_twiceArea, Cond.selects RX3 yX3_twiceArea yX3_twiceArea, Cond.code yX3_twiceArea cX3_twiceArea 5 (some .long), Cond.methodLink RX3 107 yX3_plain, Cond.static yX3_plain]
def wsX3_together_r4 : List Cond := [Cond.code yX3_plain cX3_plain 2 (some .long), Cond.methodLink RX3 130 yX3_told, Cond.static yX3_told, Cond.code yX3_told cX3_told 7 (some .long), Cond.methodLink RX3 118 yX3_common, Cond.static yX3_common, Cond.code yX3_common cX3_common 10 (some .long)]
def wsX3_together : List Cond := .code yX3_together cX3_together 3 (some .long) :: ((wsX3_together_r1 ++ (wsX3_together_r2 ++ (wsX3_together_r3 ++ wsX3_together_r4))) ++ wsX30)
def wsX3_area_r1 : List Cond := [Cond.constantLong RX3 125 (-1000000000000000001), Cond.constantLong RX3 134 (-1000000000000000002), Cond.constantLong RX3 153 (9), Cond.constantLong RX3 111 (498960), Cond.methodLink RX3 43 yX3_isLayer, Cond.static yX3_isLayer, Cond.initialized RX3, Cond.code yX3_isLayer cX3_isLayer 1 (some .boolean), Cond.methodLink RX3 39 yX3_in, Cond.static yX3_in, Cond.code yX3_in cX3_in 3 (some .boolean), Cond.methodLink RX3 127 yX3_isPart, Cond.static yX3_isPart, Cond.code yX3_isPart cX3_isPart 1 (some .boolean), Cond.methodLink RX3 103 yX3_rawOf, Cond.instanceMethod yX3_rawOf, Cond.selects RX3 yX3_rawOf yX3_rawOf, Cond.code yX3_rawOf cX3_rawOf 9 (some .long), Cond.constantLong RX3 93 (83160), Cond.constantLong RX3 73 (27720), Cond.methodLink RX3 90 yX3_layPath, Cond.instanceMethod yX3_layPath, Cond.selects RX3 yX3_layPath yX3_layPath, Cond.code yX3_layPath cX3_layPath 5 none]
def wsX3_area_r2 : List Cond := [Cond.fieldLink RX3 7 "DotCoverModel" "state" "[I", Cond.fieldLink RX3 69 "DotCoverModel" "corners" "I", Cond.fieldLink RX3 26 "DotCoverModel" "px" "[J", Cond.fieldLink RX3 30 "DotCoverModel" "py" "[J", Cond.methodLink RX3 51 yX3_place, Cond.static yX3_place, Cond.code yX3_place cX3_place 2 (some .int), Cond.methodLink RX3 95 yX3_cutSide, Cond.instanceMethod yX3_cutSide, Cond.selects RX3 yX3_cutSide yX3_cutSide, Cond.code yX3_cutSide cX3_cutSide 10 none, Cond.fieldLink RX3 75 "DotCoverModel" "left" "I", Cond.fieldLink RX3 33 "DotCoverModel" "leftX" "[J", Cond.fieldLink RX3 36 "DotCoverModel" "leftY" "[J", Cond.methodLink RX3 82 yX3_within, Cond.instanceMethod yX3_within, Cond.selects RX3 yX3_within yX3_within, Cond.code yX3_within cX3_within 5 (some .long), Cond.methodLink RX3 78 yX3_leave, Cond.instanceMethod yX3_leave, Cond.selects RX3 yX3_leave yX3_leave, Cond.code yX3_leave cX3_leave 5 none, Cond.methodLink RX3 86 yX3_leaveCrossing, Cond.instanceMethod yX3_leaveCrossing]
def wsX3_area_r3 : List Cond := [Cond.selects RX3 yX3_leaveCrossing yX3_leaveCrossing, Cond.code yX3_leaveCrossing cX3_leaveCrossing 6 none, Cond.methodLink RX3 99 yX3_twiceArea, Cond.instanceMethod yX3_twiceArea, Cond.selects RX3 yX3_twiceArea yX3_twiceArea, Cond.code yX3_twiceArea cX3_twiceArea 5 (some .long), Cond.methodLink RX3 130 yX3_told, Cond.static yX3_told, Cond.code yX3_told cX3_told 7 (some .long), Cond.methodLink RX3 107 yX3_plain, Cond.static yX3_plain, Cond.code yX3_plain cX3_plain 2 (some .long), Cond.methodLink RX3 118 yX3_common, Cond.static yX3_common, Cond.code yX3_common cX3_common 10 (some .long)]
def wsX3_area : List Cond := .code yX3_area cX3_area 6 (some .long) :: ((wsX3_area_r1 ++ (wsX3_area_r2 ++ wsX3_area_r3)) ++ wsX30)
def wsX3_enough_r1 : List Cond := [Cond.constantLong RX3 111 (498960), Cond.methodLink RX3 43 yX3_isLayer, Cond.static yX3_isLayer, Cond.initialized RX3, Cond.code yX3_isLayer cX3_isLayer 1 (some .boolean), Cond.methodLink RX3 39 yX3_in, Cond.static yX3_in, Cond.code yX3_in cX3_in 3 (some .boolean), Cond.methodLink RX3 138 yX3_coverOf, Cond.instanceMethod yX3_coverOf, Cond.selects RX3 yX3_coverOf yX3_coverOf, Cond.code yX3_coverOf cX3_coverOf 3 (some .long), Cond.methodLink RX3 115 yX3_coverMoved, Cond.instanceMethod yX3_coverMoved, Cond.selects RX3 yX3_coverMoved yX3_coverMoved, Cond.code yX3_coverMoved cX3_coverMoved 9 (some .long), Cond.fieldLink RX3 7 "DotCoverModel" "state" "[I", Cond.constantLong RX3 113 (997920), Cond.methodLink RX3 103 yX3_rawOf, Cond.instanceMethod yX3_rawOf, Cond.selects RX3 yX3_rawOf yX3_rawOf, Cond.code yX3_rawOf cX3_rawOf 9 (some .long), Cond.constantLong RX3 93 (83160), Cond.constantLong RX3 73 (27720)]
def wsX3_enough_r2 : List Cond := [Cond.methodLink RX3 90 yX3_layPath, Cond.instanceMethod yX3_layPath, Cond.selects RX3 yX3_layPath yX3_layPath, Cond.code yX3_layPath cX3_layPath 5 none, Cond.fieldLink RX3 69 "DotCoverModel" "corners" "I", Cond.fieldLink RX3 26 "DotCoverModel" "px" "[J", Cond.fieldLink RX3 30 "DotCoverModel" "py" "[J", Cond.methodLink RX3 51 yX3_place, Cond.static yX3_place, Cond.code yX3_place cX3_place 2 (some .int), Cond.methodLink RX3 95 yX3_cutSide, Cond.instanceMethod yX3_cutSide, Cond.selects RX3 yX3_cutSide yX3_cutSide, Cond.code yX3_cutSide cX3_cutSide 10 none, Cond.fieldLink RX3 75 "DotCoverModel" "left" "I", Cond.fieldLink RX3 33 "DotCoverModel" "leftX" "[J", Cond.fieldLink RX3 36 "DotCoverModel" "leftY" "[J", Cond.methodLink RX3 82 yX3_within, Cond.instanceMethod yX3_within, Cond.selects RX3 yX3_within yX3_within, Cond.code yX3_within cX3_within 5 (some .long), Cond.methodLink RX3 78 yX3_leave, Cond.instanceMethod yX3_leave, Cond.selects RX3 yX3_leave yX3_leave]
def wsX3_enough_r3 : List Cond := [Cond.code yX3_leave cX3_leave 5 none, Cond.methodLink RX3 86 yX3_leaveCrossing, Cond.instanceMethod yX3_leaveCrossing, Cond.selects RX3 yX3_leaveCrossing yX3_leaveCrossing, Cond.code yX3_leaveCrossing cX3_leaveCrossing 6 none, Cond.methodLink RX3 99 yX3_twiceArea, Cond.instanceMethod yX3_twiceArea, Cond.selects RX3 yX3_twiceArea yX3_twiceArea, Cond.code yX3_twiceArea cX3_twiceArea 5 (some .long), Cond.methodLink RX3 107 yX3_plain, Cond.static yX3_plain, Cond.code yX3_plain cX3_plain 2 (some .long)]
def wsX3_enough : List Cond := .code yX3_enough cX3_enough 6 (some .int) :: ((wsX3_enough_r1 ++ (wsX3_enough_r2 ++ wsX3_enough_r3)) ++ wsX30)
def wsX3_field_r1 : List Cond := [Cond.methodLink RX3 39 yX3_in, Cond.static yX3_in, Cond.initialized RX3, Cond.code yX3_in cX3_in 3 (some .boolean), Cond.methodLink RX3 149 yX3_openOf, Cond.instanceMethod yX3_openOf, Cond.selects RX3 yX3_openOf yX3_openOf, Cond.code yX3_openOf cX3_openOf 5 (some .long), Cond.constantLong RX3 111 (498960), Cond.methodLink RX3 138 yX3_coverOf, Cond.instanceMethod yX3_coverOf, Cond.selects RX3 yX3_coverOf yX3_coverOf, Cond.code yX3_coverOf cX3_coverOf 3 (some .long), Cond.methodLink RX3 115 yX3_coverMoved, Cond.instanceMethod yX3_coverMoved, Cond.selects RX3 yX3_coverMoved yX3_coverMoved, Cond.code yX3_coverMoved cX3_coverMoved 9 (some .long), Cond.fieldLink RX3 7 "DotCoverModel" "state" "[I", Cond.constantLong RX3 113 (997920), Cond.methodLink RX3 103 yX3_rawOf, Cond.instanceMethod yX3_rawOf, Cond.selects RX3 yX3_rawOf yX3_rawOf, Cond.code yX3_rawOf cX3_rawOf 9 (some .long), Cond.constantLong RX3 93 (83160)]
def wsX3_field_r2 : List Cond := [Cond.constantLong RX3 73 (27720), Cond.methodLink RX3 90 yX3_layPath, Cond.instanceMethod yX3_layPath, Cond.selects RX3 yX3_layPath yX3_layPath, Cond.code yX3_layPath cX3_layPath 5 none, Cond.fieldLink RX3 69 "DotCoverModel" "corners" "I", Cond.fieldLink RX3 26 "DotCoverModel" "px" "[J", Cond.fieldLink RX3 30 "DotCoverModel" "py" "[J", Cond.methodLink RX3 51 yX3_place, Cond.static yX3_place, Cond.code yX3_place cX3_place 2 (some .int), Cond.methodLink RX3 95 yX3_cutSide, Cond.instanceMethod yX3_cutSide, Cond.selects RX3 yX3_cutSide yX3_cutSide, Cond.code yX3_cutSide cX3_cutSide 10 none, Cond.fieldLink RX3 75 "DotCoverModel" "left" "I", Cond.fieldLink RX3 33 "DotCoverModel" "leftX" "[J", Cond.fieldLink RX3 36 "DotCoverModel" "leftY" "[J", Cond.methodLink RX3 82 yX3_within, Cond.instanceMethod yX3_within, Cond.selects RX3 yX3_within yX3_within, Cond.code yX3_within cX3_within 5 (some .long), Cond.methodLink RX3 78 yX3_leave, Cond.instanceMethod yX3_leave]
def wsX3_field_r3 : List Cond := [Cond.selects RX3 yX3_leave yX3_leave, Cond.code yX3_leave cX3_leave 5 none, Cond.methodLink RX3 86 yX3_leaveCrossing, Cond.instanceMethod yX3_leaveCrossing, Cond.selects RX3 yX3_leaveCrossing yX3_leaveCrossing, Cond.code yX3_leaveCrossing cX3_leaveCrossing 6 none, Cond.methodLink RX3 99 yX3_twiceArea, Cond.instanceMethod yX3_twiceArea, Cond.selects RX3 yX3_twiceArea yX3_twiceArea, Cond.code yX3_twiceArea cX3_twiceArea 5 (some .long), Cond.methodLink RX3 107 yX3_plain, Cond.static yX3_plain, Cond.code yX3_plain cX3_plain 2 (some .long), Cond.methodLink RX3 146 yX3_whole, Cond.static yX3_whole, Cond.code yX3_whole cX3_whole 0 (some .long), Cond.constantLong RX3 144 (124221621275136000)]
def wsX3_field : List Cond := .code yX3_field cX3_field 9 (some .int) :: ((wsX3_field_r1 ++ (wsX3_field_r2 ++ wsX3_field_r3)) ++ wsX30)
def wsX3_fullMoved_r1 : List Cond := [Cond.constantLong RX3 111 (498960), Cond.methodLink RX3 115 yX3_coverMoved, Cond.instanceMethod yX3_coverMoved, Cond.selects RX3 yX3_coverMoved yX3_coverMoved, Cond.initialized RX3, Cond.code yX3_coverMoved cX3_coverMoved 9 (some .long), Cond.fieldLink RX3 7 "DotCoverModel" "state" "[I", Cond.constantLong RX3 113 (997920), Cond.methodLink RX3 103 yX3_rawOf, Cond.instanceMethod yX3_rawOf, Cond.selects RX3 yX3_rawOf yX3_rawOf, Cond.code yX3_rawOf cX3_rawOf 9 (some .long), Cond.constantLong RX3 93 (83160), Cond.constantLong RX3 73 (27720), Cond.methodLink RX3 90 yX3_layPath, Cond.instanceMethod yX3_layPath, Cond.selects RX3 yX3_layPath yX3_layPath, Cond.code yX3_layPath cX3_layPath 5 none, Cond.fieldLink RX3 69 "DotCoverModel" "corners" "I", Cond.fieldLink RX3 26 "DotCoverModel" "px" "[J", Cond.fieldLink RX3 30 "DotCoverModel" "py" "[J", Cond.methodLink RX3 51 yX3_place, Cond.static yX3_place, Cond.code yX3_place cX3_place 2 (some .int)]
def wsX3_fullMoved_r2 : List Cond := [Cond.methodLink RX3 95 yX3_cutSide, Cond.instanceMethod yX3_cutSide, Cond.selects RX3 yX3_cutSide yX3_cutSide, Cond.code yX3_cutSide cX3_cutSide 10 none, Cond.fieldLink RX3 75 "DotCoverModel" "left" "I", Cond.fieldLink RX3 33 "DotCoverModel" "leftX" "[J", Cond.fieldLink RX3 36 "DotCoverModel" "leftY" "[J", Cond.methodLink RX3 82 yX3_within, Cond.instanceMethod yX3_within, Cond.selects RX3 yX3_within yX3_within, Cond.code yX3_within cX3_within 5 (some .long), Cond.methodLink RX3 78 yX3_leave, Cond.instanceMethod yX3_leave, Cond.selects RX3 yX3_leave yX3_leave, Cond.code yX3_leave cX3_leave 5 none, Cond.methodLink RX3 86 yX3_leaveCrossing, Cond.instanceMethod yX3_leaveCrossing, Cond.selects RX3 yX3_leaveCrossing yX3_leaveCrossing, Cond.code yX3_leaveCrossing cX3_leaveCrossing 6 none, Cond.methodLink RX3 99 yX3_twiceArea, Cond.instanceMethod yX3_twiceArea, Cond.selects RX3 yX3_twiceArea yX3_twiceArea, Cond.code yX3_twiceArea cX3_twiceArea 5 (some .long), Cond.methodLink RX3 107 yX3_plain]
def wsX3_fullMoved_r3 : List Cond := [Cond.static yX3_plain, Cond.code yX3_plain cX3_plain 2 (some .long)]
def wsX3_fullMoved : List Cond := .code yX3_fullMoved cX3_fullMoved 6 (some .int) :: ((wsX3_fullMoved_r1 ++ (wsX3_fullMoved_r2 ++ wsX3_fullMoved_r3)) ++ wsX30)
def wsX3_best_r1 : List Cond := [Cond.fieldLink RX3 7 "DotCoverModel" "state" "[I", Cond.methodLink RX3 43 yX3_isLayer, Cond.static yX3_isLayer, Cond.initialized RX3, Cond.code yX3_isLayer cX3_isLayer 1 (some .boolean), Cond.methodLink RX3 39 yX3_in, Cond.static yX3_in, Cond.code yX3_in cX3_in 3 (some .boolean), Cond.methodLink RX3 58 yX3_canMove, Cond.instanceMethod yX3_canMove, Cond.selects RX3 yX3_canMove yX3_canMove, Cond.code yX3_canMove cX3_canMove 6 (some .boolean), Cond.methodLink RX3 51 yX3_place, Cond.static yX3_place, Cond.code yX3_place cX3_place 2 (some .int), Cond.methodLink RX3 47 yX3_isHere, Cond.static yX3_isHere, Cond.code yX3_isHere cX3_isHere 2 (some .boolean), Cond.methodLink RX3 155 yX3_fullMoved, Cond.instanceMethod yX3_fullMoved, Cond.selects RX3 yX3_fullMoved yX3_fullMoved, Cond.code yX3_fullMoved cX3_fullMoved 6 (some .int), Cond.constantLong RX3 111 (498960), Cond.methodLink RX3 115 yX3_coverMoved]
def wsX3_best_r2 : List Cond := [Cond.instanceMethod yX3_coverMoved, Cond.selects RX3 yX3_coverMoved yX3_coverMoved, Cond.code yX3_coverMoved cX3_coverMoved 9 (some .long), Cond.constantLong RX3 113 (997920), Cond.methodLink RX3 103 yX3_rawOf, Cond.instanceMethod yX3_rawOf, Cond.selects RX3 yX3_rawOf yX3_rawOf, Cond.code yX3_rawOf cX3_rawOf 9 (some .long), Cond.constantLong RX3 93 (83160), Cond.constantLong RX3 73 (27720), Cond.methodLink RX3 90 yX3_layPath, Cond.instanceMethod yX3_layPath, Cond.selects RX3 yX3_layPath yX3_layPath, Cond.code yX3_layPath cX3_layPath 5 none, Cond.fieldLink RX3 69 "DotCoverModel" "corners" "I", Cond.fieldLink RX3 26 "DotCoverModel" "px" "[J", Cond.fieldLink RX3 30 "DotCoverModel" "py" "[J", Cond.methodLink RX3 95 yX3_cutSide, Cond.instanceMethod yX3_cutSide, Cond.selects RX3 yX3_cutSide yX3_cutSide, Cond.code yX3_cutSide cX3_cutSide 10 none, Cond.fieldLink RX3 75 "DotCoverModel" "left" "I", Cond.fieldLink RX3 33 "DotCoverModel" "leftX" "[J", Cond.fieldLink RX3 36 "DotCoverModel" "leftY" "[J"]
def wsX3_best_r3 : List Cond := [Cond.methodLink RX3 82 yX3_within, Cond.instanceMethod yX3_within, Cond.selects RX3 yX3_within yX3_within, Cond.code yX3_within cX3_within 5 (some .long), Cond.methodLink RX3 78 yX3_leave, Cond.instanceMethod yX3_leave, Cond.selects RX3 yX3_leave yX3_leave, Cond.code yX3_leave cX3_leave 5 none, Cond.methodLink RX3 86 yX3_leaveCrossing, Cond.instanceMethod yX3_leaveCrossing, Cond.selects RX3 yX3_leaveCrossing yX3_leaveCrossing, Cond.code yX3_leaveCrossing cX3_leaveCrossing 6 none, Cond.methodLink RX3 99 yX3_twiceArea, Cond.instanceMethod yX3_twiceArea, Cond.selects RX3 yX3_twiceArea yX3_twiceArea, Cond.code yX3_twiceArea cX3_twiceArea 5 (some .long), Cond.methodLink RX3 107 yX3_plain, Cond.static yX3_plain, Cond.code yX3_plain cX3_plain 2 (some .long)]
def wsX3_best : List Cond := .code yX3_best cX3_best 9 (some .int) :: ((wsX3_best_r1 ++ (wsX3_best_r2 ++ wsX3_best_r3)) ++ wsX30)
def wsX3_same_r1 : List Cond := [Cond.methodLink RX3 43 yX3_isLayer, Cond.static yX3_isLayer, Cond.initialized RX3, Cond.code yX3_isLayer cX3_isLayer 1 (some .boolean), Cond.methodLink RX3 39 yX3_in, Cond.static yX3_in, Cond.code yX3_in cX3_in 3 (some .boolean), Cond.methodLink RX3 138 yX3_coverOf, Cond.instanceMethod yX3_coverOf, Cond.selects RX3 yX3_coverOf yX3_coverOf, Cond.code yX3_coverOf cX3_coverOf 3 (some .long), Cond.methodLink RX3 115 yX3_coverMoved, Cond.instanceMethod yX3_coverMoved, Cond.selects RX3 yX3_coverMoved yX3_coverMoved, Cond.code yX3_coverMoved cX3_coverMoved 9 (some .long), Cond.fieldLink RX3 7 "DotCoverModel" "state" "[I", Cond.constantLong RX3 111 (498960), Cond.constantLong RX3 113 (997920), Cond.methodLink RX3 103 yX3_rawOf, Cond.instanceMethod yX3_rawOf, Cond.selects RX3 yX3_rawOf yX3_rawOf, Cond.code yX3_rawOf cX3_rawOf 9 (some .long), Cond.constantLong RX3 93 (83160), Cond.constantLong RX3 73 (27720)]
def wsX3_same_r2 : List Cond := [Cond.methodLink RX3 90 yX3_layPath, Cond.instanceMethod yX3_layPath, Cond.selects RX3 yX3_layPath yX3_layPath, Cond.code yX3_layPath cX3_layPath 5 none, Cond.fieldLink RX3 69 "DotCoverModel" "corners" "I", Cond.fieldLink RX3 26 "DotCoverModel" "px" "[J", Cond.fieldLink RX3 30 "DotCoverModel" "py" "[J", Cond.methodLink RX3 51 yX3_place, Cond.static yX3_place, Cond.code yX3_place cX3_place 2 (some .int), Cond.methodLink RX3 95 yX3_cutSide, Cond.instanceMethod yX3_cutSide, Cond.selects RX3 yX3_cutSide yX3_cutSide, Cond.code yX3_cutSide cX3_cutSide 10 none, Cond.fieldLink RX3 75 "DotCoverModel" "left" "I", Cond.fieldLink RX3 33 "DotCoverModel" "leftX" "[J", Cond.fieldLink RX3 36 "DotCoverModel" "leftY" "[J", Cond.methodLink RX3 82 yX3_within, Cond.instanceMethod yX3_within, Cond.selects RX3 yX3_within yX3_within, Cond.code yX3_within cX3_within 5 (some .long), Cond.methodLink RX3 78 yX3_leave, Cond.instanceMethod yX3_leave, Cond.selects RX3 yX3_leave yX3_leave]
def wsX3_same_r3 : List Cond := [Cond.code yX3_leave cX3_leave 5 none, Cond.methodLink RX3 86 yX3_leaveCrossing, Cond.instanceMethod yX3_leaveCrossing, Cond.selects RX3 yX3_leaveCrossing yX3_leaveCrossing, Cond.code yX3_leaveCrossing cX3_leaveCrossing 6 none, Cond.methodLink RX3 99 yX3_twiceArea, Cond.instanceMethod yX3_twiceArea, Cond.selects RX3 yX3_twiceArea yX3_twiceArea, Cond.code yX3_twiceArea cX3_twiceArea 5 (some .long), Cond.methodLink RX3 107 yX3_plain, Cond.static yX3_plain, Cond.code yX3_plain cX3_plain 2 (some .long)]
def wsX3_same : List Cond := .code yX3_same cX3_same 5 (some .int) :: ((wsX3_same_r1 ++ (wsX3_same_r2 ++ wsX3_same_r3)) ++ wsX30)
def wsX3_image : List Cond := .code yX3_image cX3_image 3 (some .int) :: ([.fieldLink RX3 13 "DotCoverModel" "images" "[I", .fieldLink RX3 7 "DotCoverModel" "state" "[I", .fieldLink RX3 16 "DotCoverModel" "isKept" "[Z", .methodLink RX3 39 yX3_in, .static yX3_in, .initialized RX3, .code yX3_in cX3_in 3 (some .boolean)] ++ wsX30)
def wsX3_restore : List Cond := .code yX3_restore cX3_restore 3 (some .int) :: ([.fieldLink RX3 16 "DotCoverModel" "isKept" "[Z", .fieldLink RX3 7 "DotCoverModel" "state" "[I", .fieldLink RX3 13 "DotCoverModel" "images" "[I", .methodLink RX3 39 yX3_in, .static yX3_in, .initialized RX3, .code yX3_in cX3_in 3 (some .boolean)] ++ wsX30)
def wsX3_count : List Cond := .code yX3_count cX3_count 2 (some .int) :: ([.fieldLink RX3 7 "DotCoverModel" "state" "[I", .fieldLink RX3 16 "DotCoverModel" "isKept" "[Z", .methodLink RX3 39 yX3_in, .static yX3_in, .initialized RX3, .code yX3_in cX3_in 3 (some .boolean)] ++ wsX30)
def wsJ9_abs_0f7a4 : List Cond := .code yJ9_abs_0f7a4 cJ9_abs_0f7a4 1 (some .int) :: ([])
def wsJ9_abs_067f4 : List Cond := .code yJ9_abs_067f4 cJ9_abs_067f4 2 (some .long) :: ([])
def wsJ9_max_7cf53 : List Cond := .code yJ9_max_7cf53 cJ9_max_7cf53 2 (some .int) :: ([])
def wsJ9_min_7cf53 : List Cond := .code yJ9_min_7cf53 cJ9_min_7cf53 2 (some .int) :: ([])
def wsJ9_min_f86c9 : List Cond := .code yJ9_min_f86c9 cJ9_min_f86c9 4 (some .long) :: ([])
def wsL_law_r1 : List Cond := [Cond.classLink RL 7 RX2, Cond.instantiable RX2 3, Cond.initialized RX2, Cond.classLink RL 10 RX3, Cond.instantiable RX3 11, Cond.initialized RX3, Cond.methodLink RL 9 yX2_init, Cond.instanceMethod yX2_init, Cond.code yX2_init cX2_init 2 none, Cond.methodLink RX2 3 objectInit, Cond.instanceMethod objectInit, Cond.code objectInit ⟨#[0xb1]⟩ 1 none, Cond.classLink RX2 9 RX1, Cond.instantiable RX1 1, Cond.initialized RX1, Cond.fieldLink RX2 12 "DotCover" "now" "LDotCover$Scene;", Cond.fieldLink RX2 16 "DotCover" "images" "[LDotCover$Scene;", Cond.fieldLink RX2 20 "DotCover" "keptImages" "I", Cond.methodLink RX2 11 yX1_init, Cond.instanceMethod yX1_init, Cond.code yX1_init cX1_init 2 none, Cond.methodLink RX1 3 objectInit, Cond.classLink RX1 9 RX0, Cond.fieldLink RX1 11 "DotCover$Scene" "layers" "[LDotCover$Layer;"]
def wsL_law_r2 : List Cond := [Cond.instantiable RX0 4, Cond.initialized RX0, Cond.methodLink RX1 17 yX0_init, Cond.instanceMethod yX0_init, Cond.code yX0_init cX0_init 1 none, Cond.methodLink RX0 3 objectInit, Cond.arrayClass .int, Cond.fieldLink RX0 9 "DotCover$Layer" "xs" "[I", Cond.fieldLink RX0 15 "DotCover$Layer" "ys" "[I", Cond.fieldLink RX0 18 "DotCover$Layer" "size" "I", Cond.fieldLink RX0 22 "DotCover$Layer" "folding" "I", Cond.methodLink RL 12 yX3_init, Cond.instanceMethod yX3_init, Cond.code yX3_init cX3_init 1 none, Cond.methodLink RX3 1 objectInit, Cond.fieldLink RX3 7 "DotCoverModel" "state" "[I", Cond.fieldLink RX3 13 "DotCoverModel" "images" "[I", Cond.arrayClass .boolean, Cond.fieldLink RX3 16 "DotCoverModel" "isKept" "[Z", Cond.fieldLink RX3 20 "DotCoverModel" "wasX" "[I", Cond.fieldLink RX3 23 "DotCoverModel" "wasY" "[I", Cond.arrayClass .long, Cond.fieldLink RX3 26 "DotCoverModel" "px" "[J", Cond.fieldLink RX3 30 "DotCoverModel" "py" "[J"]
def wsL_law_r3 : List Cond := [Cond.fieldLink RX3 33 "DotCoverModel" "leftX" "[J", Cond.fieldLink RX3 36 "DotCoverModel" "leftY" "[J", Cond.methodLink RL 13 yX2_point, Cond.instanceMethod yX2_point, Cond.selects RX2 yX2_point yX2_point, Cond.code yX2_point cX2_point 5 (some .int), Cond.methodLink RX2 24 yX1_layerOf, Cond.instanceMethod yX1_layerOf, Cond.selects RX1 yX1_layerOf yX1_layerOf, Cond.code yX1_layerOf cX1_layerOf 2 (some (.object "DotCover$Layer")), Cond.static yX2_within, Cond.code yX2_within cX2_within 3 (some .boolean), Cond.methodLink RX2 28 yX2_inField, Cond.static yX2_inField, Cond.code yX2_inField cX2_inField 1 (some .boolean), Cond.methodLink RX2 51 yX2_within, Cond.methodLink RX2 37 yX0_add, Cond.instanceMethod yX0_add, Cond.selects RX0 yX0_add yX0_add, Cond.code yX0_add cX0_add 4 (some .int), Cond.methodLink RL 17 yX3_point, Cond.instanceMethod yX3_point, Cond.selects RX3 yX3_point yX3_point, Cond.code yX3_point cX3_point 5 (some .int)]
def wsL_law_r4 : List Cond := [Cond.methodLink RX3 43 yX3_isLayer, Cond.static yX3_isLayer, Cond.code yX3_isLayer cX3_isLayer 1 (some .boolean), Cond.methodLink RX3 39 yX3_in, Cond.static yX3_in, Cond.code yX3_in cX3_in 3 (some .boolean), Cond.methodLink RX3 47 yX3_isHere, Cond.static yX3_isHere, Cond.code yX3_isHere cX3_isHere 2 (some .boolean), Cond.methodLink RX3 51 yX3_place, Cond.static yX3_place, Cond.code yX3_place cX3_place 2 (some .int), Cond.methodLink RL 18 yX2_pop, Cond.instanceMethod yX2_pop, Cond.selects RX2 yX2_pop yX2_pop, Cond.code yX2_pop cX2_pop 3 (some .int), Cond.methodLink RL 22 yX3_pop, Cond.instanceMethod yX3_pop, Cond.selects RX3 yX3_pop yX3_pop, Cond.code yX3_pop cX3_pop 2 (some .int), Cond.methodLink RL 23 yX2_set, Cond.instanceMethod yX2_set, Cond.selects RX2 yX2_set yX2_set, Cond.code yX2_set cX2_set 7 (some .int)]
def wsL_law_r5 : List Cond := [Cond.methodLink RX2 41 yX0_has, Cond.instanceMethod yX0_has, Cond.selects RX0 yX0_has yX0_has, Cond.code yX0_has cX0_has 2 (some .boolean), Cond.methodLink RL 27 yX3_set, Cond.instanceMethod yX3_set, Cond.selects RX3 yX3_set yX3_set, Cond.code yX3_set cX3_set 7 (some .int), Cond.methodLink RX3 55 yX3_isPoint, Cond.instanceMethod yX3_isPoint, Cond.selects RX3 yX3_isPoint yX3_isPoint, Cond.code yX3_isPoint cX3_isPoint 3 (some .boolean), Cond.methodLink RL 28 yX2_rule, Cond.instanceMethod yX2_rule, Cond.selects RX2 yX2_rule yX2_rule, Cond.code yX2_rule cX2_rule 5 (some .int), Cond.methodLink RL 32 yX3_rule, Cond.instanceMethod yX3_rule, Cond.selects RX3 yX3_rule yX3_rule, Cond.code yX3_rule cX3_rule 4 (some .int), Cond.methodLink RL 33 yX2_move, Cond.instanceMethod yX2_move, Cond.selects RX2 yX2_move yX2_move, Cond.code yX2_move cX2_move 5 (some .int)]
def wsL_law_r6 : List Cond := [Cond.methodLink RX2 58 yX0_staysInField, Cond.instanceMethod yX0_staysInField, Cond.selects RX0 yX0_staysInField yX0_staysInField, Cond.code yX0_staysInField cX0_staysInField 4 (some .boolean), Cond.methodLink RX2 62 yX0_shift, Cond.instanceMethod yX0_shift, Cond.selects RX0 yX0_shift yX0_shift, Cond.code yX0_shift cX0_shift 4 none, Cond.methodLink RL 36 yX3_move, Cond.instanceMethod yX3_move, Cond.selects RX3 yX3_move yX3_move, Cond.code yX3_move cX3_move 5 (some .int), Cond.methodLink RX3 58 yX3_canMove, Cond.instanceMethod yX3_canMove, Cond.selects RX3 yX3_canMove yX3_canMove, Cond.code yX3_canMove cX3_canMove 6 (some .boolean), Cond.methodLink RL 37 yX2_back, Cond.instanceMethod yX2_back, Cond.selects RX2 yX2_back yX2_back, Cond.code yX2_back cX2_back 3 (some .int), Cond.methodLink RX2 66 yX0_reverse, Cond.instanceMethod yX0_reverse, Cond.selects RX0 yX0_reverse yX0_reverse, Cond.code yX0_reverse cX0_reverse 5 none]
def wsL_law_r7 : List Cond := [Cond.methodLink RX0 29 yX0_swap, Cond.instanceMethod yX0_swap, Cond.selects RX0 yX0_swap yX0_swap, Cond.code yX0_swap cX0_swap 5 none, Cond.methodLink RL 40 yX3_back, Cond.instanceMethod yX3_back, Cond.selects RX3 yX3_back yX3_back, Cond.code yX3_back cX3_back 4 (some .int), Cond.methodLink RX3 61 yX3_putAside, Cond.instanceMethod yX3_putAside, Cond.selects RX3 yX3_putAside yX3_putAside, Cond.code yX3_putAside cX3_putAside 3 none, Cond.methodLink RX3 65 yX3_layFrom, Cond.instanceMethod yX3_layFrom, Cond.selects RX3 yX3_layFrom yX3_layFrom, Cond.code yX3_layFrom cX3_layFrom 4 none, Cond.methodLink RL 41 yX2_begin, Cond.instanceMethod yX2_begin, Cond.selects RX2 yX2_begin yX2_begin, Cond.code yX2_begin cX2_begin 4 (some .int), Cond.methodLink RX2 69 yX0_startAt, Cond.instanceMethod yX0_startAt, Cond.selects RX0 yX0_startAt yX0_startAt, Cond.code yX0_startAt cX0_startAt 2 none]
def wsL_law_r8 : List Cond := [Cond.methodLink RX0 33 yX0_reverse, Cond.methodLink RL 44 yX3_begin, Cond.instanceMethod yX3_begin, Cond.selects RX3 yX3_begin yX3_begin, Cond.code yX3_begin cX3_begin 5 (some .int), Cond.methodLink RL 45 yX2_at, Cond.instanceMethod yX2_at, Cond.selects RX2 yX2_at yX2_at, Cond.code yX2_at cX2_at 5 (some .int), Cond.methodLink RL 48 yX3_at, Cond.instanceMethod yX3_at, Cond.selects RX3 yX3_at yX3_at, Cond.code yX3_at cX3_at 4 (some .int), Cond.methodLink RL 49 yX2_raw, Cond.instanceMethod yX2_raw, Cond.selects RX2 yX2_raw yX2_raw, Cond.code yX2_raw cX2_raw 5 (some .long), Cond.constantLong RX2 76 (-1000000000000000001), Cond.constantLong RX2 78 (-1000000000000000002), Cond.constantLong RX2 84 (498960), Cond.methodLink RX2 73 yX2_isDot, Cond.static yX2_isDot, Cond.code yX2_isDot cX2_isDot 1 (some .boolean), Cond.methodLink RX2 80 yX0_rawParts]
def wsL_law_r9 : List Cond := [Cond.instanceMethod yX0_rawParts, Cond.selects RX0 yX0_rawParts yX0_rawParts, Cond.code yX0_rawParts cX0_rawParts 10 (some .long), Cond.methodLink RX0 74 yX0_leftOfEdge, Cond.static yX0_leftOfEdge, Cond.code yX0_leftOfEdge cX0_leftOfEdge 14 (some .long), Cond.methodLink RX0 53 Lib.Math.max.name, Cond.static Lib.Math.max.name, Cond.initialized "java/lang/Math", Cond.code Lib.Math.max.name Lib.Math.max.code 2 (some .int), Cond.methodLink RX0 47 Lib.Math.min.name, Cond.static Lib.Math.min.name, Cond.code Lib.Math.min.name Lib.Math.min.code 2 (some .int), Cond.methodLink RX0 78 Lib.Math.abs.name, Cond.static Lib.Math.abs.name, Cond.code Lib.Math.abs.name Lib.Math.abs.code 1 (some .int), Cond.methodLink RX0 81 yX0_beforeEdge, Cond.static yX0_beforeEdge, Cond.code yX0_beforeEdge cX0_beforeEdge 6 (some .long), Cond.constantLong RX0 85 (27720), Cond.methodLink RX2 86 yX2_lowestTerms, Cond.static yX2_lowestTerms, Cond.code yX2_lowestTerms cX2_lowestTerms 7 (some .long), Cond.methodLink RX2 127 Lib.MathLoose.abs_long.x]
def wsL_law_r10 : List Cond := [Cond.static Lib.MathLoose.abs_long.x, Cond.code Lib.MathLoose.abs_long.x Lib.MathLoose.abs_long.code 2 (some .long), Cond.methodLink RX2 133 yX2_greatestDivisor, Cond.static yX2_greatestDivisor, Cond.code yX2_greatestDivisor cX2_greatestDivisor 11 (some .long), Cond.methodLink RL 53 yX3_raw, Cond.instanceMethod yX3_raw, Cond.selects RX3 yX3_raw yX3_raw, Cond.code yX3_raw cX3_raw 4 (some .long), Cond.constantLong RX3 125 (-1000000000000000001), Cond.constantLong RX3 111 (498960), Cond.constantLong RX3 134 (-1000000000000000002), Cond.methodLink RX3 122 yX3_isDot, Cond.static yX3_isDot, Cond.code yX3_isDot cX3_isDot 1 (some .boolean), Cond.methodLink RX3 127 yX3_isPart, Cond.static yX3_isPart, Cond.code yX3_isPart cX3_isPart 1 (some .boolean), Cond.methodLink RX3 103 yX3_rawOf, Cond.instanceMethod yX3_rawOf, Cond.selects RX3 yX3_rawOf yX3_rawOf, Cond.code yX3_rawOf cX3_rawOf 9 (some .long), Cond.constantLong RX3 93 (83160), Cond.constantLong RX3 73 (27720)]
def wsL_law_r11 : List Cond := [Cond.methodLink RX3 90 yX3_layPath, Cond.instanceMethod yX3_layPath, Cond.selects RX3 yX3_layPath yX3_layPath, Cond.code yX3_layPath cX3_layPath 5 none, Cond.fieldLink RX3 69 "DotCoverModel" "corners" "I", Cond.methodLink RX3 95 yX3_cutSide, Cond.instanceMethod yX3_cutSide, Cond.selects RX3 yX3_cutSide yX3_cutSide, Cond.code yX3_cutSide cX3_cutSide 10 none, Cond.fieldLink RX3 75 "DotCoverModel" "left" "I", Cond.methodLink RX3 82 yX3_within, Cond.instanceMethod yX3_within, Cond.selects RX3 yX3_within yX3_within, Cond.code yX3_within cX3_within 5 (some .long), Cond.methodLink RX3 78 yX3_leave, Cond.instanceMethod yX3_leave, Cond.selects RX3 yX3_leave yX3_leave, Cond.code yX3_leave cX3_leave 5 none, Cond.methodLink RX3 86 yX3_leaveCrossing, Cond.instanceMethod yX3_leaveCrossing, Cond.selects RX3 yX3_leaveCrossing yX3_leaveCrossing, Cond.code yX3_leaveCrossing cX3_leaveCrossing 6 none, Cond.methodLink RX3 99 yX3_twiceArea, Cond.instanceMethod yX3_twiceArea]
def wsL_law_r12 : List Cond := [Cond.selects RX3 yX3_twiceArea yX3_twiceArea, Cond.code yX3_twiceArea cX3_twiceArea 5 (some .long), Cond.methodLink RX3 130 yX3_told, Cond.static yX3_told, Cond.code yX3_told cX3_told 7 (some .long), Cond.methodLink RX3 107 yX3_plain, Cond.static yX3_plain, Cond.code yX3_plain cX3_plain 2 (some .long), Cond.methodLink RX3 118 yX3_common, Cond.static yX3_common, Cond.code yX3_common cX3_common 10 (some .long), Cond.methodLink RL 54 yX2_cover, Cond.instanceMethod yX2_cover, Cond.selects RX2 yX2_cover yX2_cover, Cond.code yX2_cover cX2_cover 5 (some .long), Cond.constantLong RX2 90 (-1), Cond.constantLong RX2 92 (-2), Cond.methodLink RX2 94 yX0_coverParts, Cond.instanceMethod yX0_coverParts, Cond.selects RX0 yX0_coverParts yX0_coverParts, Cond.code yX0_coverParts cX0_coverParts 8 (some .long), Cond.methodLink RX0 65 Lib.MathLoose.abs_long.x, Cond.constantLong RX0 60 (498960), Cond.methodLink RX0 69 Lib.MathLoose.min_long.x]
def wsL_law_r13 : List Cond := [Cond.static Lib.MathLoose.min_long.x, Cond.code Lib.MathLoose.min_long.x Lib.MathLoose.min_long.code 4 (some .long), Cond.constantLong RX0 72 (997920), Cond.methodLink RX0 62 yX0_rawParts, Cond.methodLink RL 57 yX3_cover, Cond.instanceMethod yX3_cover, Cond.selects RX3 yX3_cover yX3_cover, Cond.code yX3_cover cX3_cover 4 (some .long), Cond.constantLong RX3 136 (-1), Cond.constantLong RX3 142 (-2), Cond.methodLink RX3 138 yX3_coverOf, Cond.instanceMethod yX3_coverOf, Cond.selects RX3 yX3_coverOf yX3_coverOf, Cond.code yX3_coverOf cX3_coverOf 3 (some .long), Cond.methodLink RX3 115 yX3_coverMoved, Cond.instanceMethod yX3_coverMoved, Cond.selects RX3 yX3_coverMoved yX3_coverMoved, Cond.code yX3_coverMoved cX3_coverMoved 9 (some .long), Cond.constantLong RX3 113 (997920), Cond.methodLink RL 58 yX2_together, Cond.instanceMethod yX2_together, Cond.selects RX2 yX2_together yX2_together, Cond.code yX2_together cX2_together 3 (some .long), Cond.constantLong RX2 101 (124221621275136000)]
def wsL_law_r14 : List Cond := [Cond.methodLink RX2 97 yX1_togetherParts, Cond.instanceMethod yX1_togetherParts, Cond.selects RX1 yX1_togetherParts yX1_togetherParts, Cond.code yX1_togetherParts cX1_togetherParts 5 (some .long), Cond.constantLong RX1 30 (498960), Cond.constantLong RX1 36 (124221621275136000), Cond.methodLink RX1 32 yX0_coverParts, Cond.methodLink RL 62 yX3_together, Cond.instanceMethod yX3_together, Cond.selects RX3 yX3_together yX3_together, Cond.code yX3_together cX3_together 3 (some .long), Cond.methodLink RX3 146 yX3_whole, Cond.static yX3_whole, Cond.code yX3_whole cX3_whole 0 (some .long), Cond.constantLong RX3 144 (124221621275136000), Cond.methodLink RX3 149 yX3_openOf, Cond.instanceMethod yX3_openOf, Cond.selects RX3 yX3_openOf yX3_openOf, Cond.code yX3_openOf cX3_openOf 5 (some .long), Cond.methodLink RL 63 yX2_area, Cond.instanceMethod yX2_area, Cond.selects RX2 yX2_area yX2_area, Cond.code yX2_area cX2_area 7 (some .long), Cond.constantLong RX2 103 (55440)]
def wsL_law_r15 : List Cond := [Cond.methodLink RL 66 yX3_area, Cond.instanceMethod yX3_area, Cond.selects RX3 yX3_area yX3_area, Cond.code yX3_area cX3_area 6 (some .long), Cond.constantLong RX3 153 (9), Cond.methodLink RL 67 yX2_enough, Cond.instanceMethod yX2_enough, Cond.selects RX2 yX2_enough yX2_enough, Cond.code yX2_enough cX2_enough 7 (some .int), Cond.methodLink RL 70 yX3_enough, Cond.instanceMethod yX3_enough, Cond.selects RX3 yX3_enough yX3_enough, Cond.code yX3_enough cX3_enough 6 (some .int), Cond.methodLink RL 71 yX2_field, Cond.instanceMethod yX2_field, Cond.selects RX2 yX2_field yX2_field, Cond.code yX2_field cX2_field 2 (some .int), Cond.methodLink RX2 105 yX1_mostCoveredDot, Cond.instanceMethod yX1_mostCoveredDot, Cond.selects RX1 yX1_mostCoveredDot yX1_mostCoveredDot, Cond.code yX1_mostCoveredDot cX1_mostCoveredDot 7 (some .int), Cond.methodLink RX1 38 yX1_togetherParts, Cond.methodLink RX2 109 yX1_leastCoveredDot, Cond.instanceMethod yX1_leastCoveredDot]
def wsL_law_r16 : List Cond := [Cond.selects RX1 yX1_leastCoveredDot yX1_leastCoveredDot, Cond.code yX1_leastCoveredDot cX1_leastCoveredDot 7 (some .int), Cond.methodLink RX2 112 yX1_dotsWithTogether, Cond.instanceMethod yX1_dotsWithTogether, Cond.selects RX1 yX1_dotsWithTogether yX1_dotsWithTogether, Cond.code yX1_dotsWithTogether cX1_dotsWithTogether 5 (some .int), Cond.methodLink RL 74 yX3_field, Cond.instanceMethod yX3_field, Cond.selects RX3 yX3_field yX3_field, Cond.code yX3_field cX3_field 9 (some .int), Cond.methodLink RL 75 yX2_best, Cond.instanceMethod yX2_best, Cond.selects RX2 yX2_best yX2_best, Cond.code yX2_best cX2_best 4 (some .int), Cond.methodLink RX2 116 yX0_bestMove, Cond.instanceMethod yX0_bestMove, Cond.selects RX0 yX0_bestMove yX0_bestMove, Cond.code yX0_bestMove cX0_bestMove 13 (some .int), Cond.methodLink RX0 36 yX0_least, Cond.instanceMethod yX0_least, Cond.selects RX0 yX0_least yX0_least, Cond.code yX0_least cX0_least 4 (some .int), Cond.methodLink RX0 40 yX0_greatest, Cond.instanceMethod yX0_greatest]
def wsL_law_r17 : List Cond := [Cond.selects RX0 yX0_greatest yX0_greatest, Cond.code yX0_greatest cX0_greatest 4 (some .int), Cond.methodLink RX0 43 yX0_wholeDots, Cond.instanceMethod yX0_wholeDots, Cond.selects RX0 yX0_wholeDots yX0_wholeDots, Cond.code yX0_wholeDots cX0_wholeDots 8 (some .int), Cond.methodLink RX0 56 yX0_coverParts, Cond.methodLink RL 78 yX3_best, Cond.instanceMethod yX3_best, Cond.selects RX3 yX3_best yX3_best, Cond.code yX3_best cX3_best 9 (some .int), Cond.methodLink RX3 155 yX3_fullMoved, Cond.instanceMethod yX3_fullMoved, Cond.selects RX3 yX3_fullMoved yX3_fullMoved, Cond.code yX3_fullMoved cX3_fullMoved 6 (some .int), Cond.methodLink RL 79 yX2_same, Cond.instanceMethod yX2_same, Cond.selects RX2 yX2_same yX2_same, Cond.code yX2_same cX2_same 7 (some .int), Cond.methodLink RL 82 yX3_same, Cond.instanceMethod yX3_same, Cond.selects RX3 yX3_same yX3_same, Cond.code yX3_same cX3_same 5 (some .int), Cond.methodLink RL 83 yX2_image]
def wsL_law_r18 : List Cond := [Cond.instanceMethod yX2_image, Cond.selects RX2 yX2_image yX2_image, Cond.code yX2_image cX2_image 2 (some .int), Cond.methodLink RX2 120 yX1_copyFrom, Cond.instanceMethod yX1_copyFrom, Cond.selects RX1 yX1_copyFrom yX1_copyFrom, Cond.code yX1_copyFrom cX1_copyFrom 3 none, Cond.methodLink RX1 22 yX0_copyFrom, Cond.instanceMethod yX0_copyFrom, Cond.selects RX0 yX0_copyFrom yX0_copyFrom, Cond.code yX0_copyFrom cX0_copyFrom 3 none, Cond.methodLink RL 86 yX3_image, Cond.instanceMethod yX3_image, Cond.selects RX3 yX3_image yX3_image, Cond.code yX3_image cX3_image 3 (some .int), Cond.methodLink RL 87 yX2_restore, Cond.instanceMethod yX2_restore, Cond.selects RX2 yX2_restore yX2_restore, Cond.code yX2_restore cX2_restore 2 (some .int), Cond.methodLink RL 90 yX3_restore, Cond.instanceMethod yX3_restore, Cond.selects RX3 yX3_restore yX3_restore, Cond.code yX3_restore cX3_restore 3 (some .int), Cond.methodLink RL 91 yX2_count]
def wsL_law_r19 : List Cond := [Cond.instanceMethod yX2_count, Cond.selects RX2 yX2_count yX2_count, Cond.code yX2_count cX2_count 4 (some .int), Cond.methodLink RX2 124 yX1_pointsOfAll, Cond.instanceMethod yX1_pointsOfAll, Cond.selects RX1 yX1_pointsOfAll yX1_pointsOfAll, Cond.code yX1_pointsOfAll cX1_pointsOfAll 3 (some .int), Cond.methodLink RL 94 yX3_count, Cond.instanceMethod yX3_count, Cond.selects RX3 yX3_count yX3_count, Cond.code yX3_count cX3_count 2 (some .int)]
def wsL_law : List Cond := (wsL_law_r1 ++ (wsL_law_r2 ++ (wsL_law_r3 ++ (wsL_law_r4 ++ (wsL_law_r5 ++ (wsL_law_r6 ++ (wsL_law_r7 ++ (wsL_law_r8 ++ (wsL_law_r9 ++ (wsL_law_r10 ++ (wsL_law_r11 ++ (wsL_law_r12 ++ (wsL_law_r13 ++ (wsL_law_r14 ++ (wsL_law_r15 ++ (wsL_law_r16 ++ (wsL_law_r17 ++ (wsL_law_r18 ++ wsL_law_r19)))))))))))))))))) ++ wsX20 ++ wsX30 ++ wsX10 ++ wsX00 ++ ([] : List Cond)
theorem dX0_init_0 : decode cX0_init 0 = .ok (.aload_n 0, 1) := by decide +kernel
theorem dX0_init_1 : decode cX0_init 1 = .ok (.invokespecial 3, 3) := by decide +kernel
theorem dX0_init_4 : decode cX0_init 4 = .ok (.aload_n 0, 1) := by decide +kernel
theorem dX0_init_5 : decode cX0_init 5 = .ok (.bipush 8, 2) := by decide +kernel
theorem dX0_init_7 : decode cX0_init 7 = .ok (.newarray .int, 2) := by decide +kernel
theorem dX0_init_9 : decode cX0_init 9 = .ok (.putfield 9, 3) := by decide +kernel
theorem dX0_init_12 : decode cX0_init 12 = .ok (.aload_n 0, 1) := by decide +kernel
theorem dX0_init_13 : decode cX0_init 13 = .ok (.bipush 8, 2) := by decide +kernel
theorem dX0_init_15 : decode cX0_init 15 = .ok (.newarray .int, 2) := by decide +kernel
theorem dX0_init_17 : decode cX0_init 17 = .ok (.putfield 15, 3) := by decide +kernel
theorem dX0_init_20 : decode cX0_init 20 = .ok (.aload_n 0, 1) := by decide +kernel
theorem dX0_init_21 : decode cX0_init 21 = .ok (.iconst 0, 1) := by decide +kernel
theorem dX0_init_22 : decode cX0_init 22 = .ok (.putfield 18, 3) := by decide +kernel
theorem dX0_init_25 : decode cX0_init 25 = .ok (.aload_n 0, 1) := by decide +kernel
theorem dX0_init_26 : decode cX0_init 26 = .ok (.iconst 0, 1) := by decide +kernel
theorem dX0_init_27 : decode cX0_init 27 = .ok (.putfield 22, 3) := by decide +kernel
theorem dX0_init_30 : decode cX0_init 30 = .ok (.return_, 1) := by decide +kernel
theorem dX0_has_0 : decode cX0_has 0 = .ok (.iload_n 1, 1) := by decide +kernel
theorem dX0_has_1 : decode cX0_has 1 = .ok (.ifCond .lt 15, 3) := by decide +kernel
theorem dX0_has_4 : decode cX0_has 4 = .ok (.iload_n 1, 1) := by decide +kernel
theorem dX0_has_5 : decode cX0_has 5 = .ok (.aload_n 0, 1) := by decide +kernel
theorem dX0_has_6 : decode cX0_has 6 = .ok (.getfield 18, 3) := by decide +kernel
theorem dX0_has_9 : decode cX0_has 9 = .ok (.if_icmp .ge 7, 3) := by decide +kernel
theorem dX0_has_12 : decode cX0_has 12 = .ok (.iconst 1, 1) := by decide +kernel
theorem dX0_has_13 : decode cX0_has 13 = .ok (.goto 4, 3) := by decide +kernel
theorem dX0_has_16 : decode cX0_has 16 = .ok (.iconst 0, 1) := by decide +kernel
theorem dX0_has_17 : decode cX0_has 17 = .ok (.ireturn, 1) := by decide +kernel
theorem dX0_add_0 : decode cX0_add 0 = .ok (.aload_n 0, 1) := by decide +kernel
theorem dX0_add_1 : decode cX0_add 1 = .ok (.getfield 18, 3) := by decide +kernel
theorem dX0_add_4 : decode cX0_add 4 = .ok (.istore_n 3, 1) := by decide +kernel
theorem dX0_add_5 : decode cX0_add 5 = .ok (.aload_n 0, 1) := by decide +kernel
theorem dX0_add_6 : decode cX0_add 6 = .ok (.getfield 9, 3) := by decide +kernel
theorem dX0_add_9 : decode cX0_add 9 = .ok (.iload_n 3, 1) := by decide +kernel
theorem dX0_add_10 : decode cX0_add 10 = .ok (.iload_n 1, 1) := by decide +kernel
theorem dX0_add_11 : decode cX0_add 11 = .ok (.iastore, 1) := by decide +kernel
theorem dX0_add_12 : decode cX0_add 12 = .ok (.aload_n 0, 1) := by decide +kernel
theorem dX0_add_13 : decode cX0_add 13 = .ok (.getfield 15, 3) := by decide +kernel
theorem dX0_add_16 : decode cX0_add 16 = .ok (.iload_n 3, 1) := by decide +kernel
theorem dX0_add_17 : decode cX0_add 17 = .ok (.iload_n 2, 1) := by decide +kernel
theorem dX0_add_18 : decode cX0_add 18 = .ok (.iastore, 1) := by decide +kernel
theorem dX0_add_19 : decode cX0_add 19 = .ok (.aload_n 0, 1) := by decide +kernel
theorem dX0_add_20 : decode cX0_add 20 = .ok (.dup, 1) := by decide +kernel
theorem dX0_add_21 : decode cX0_add 21 = .ok (.getfield 18, 3) := by decide +kernel
theorem dX0_add_24 : decode cX0_add 24 = .ok (.iconst 1, 1) := by decide +kernel
theorem dX0_add_25 : decode cX0_add 25 = .ok (.iadd, 1) := by decide +kernel
theorem dX0_add_26 : decode cX0_add 26 = .ok (.putfield 18, 3) := by decide +kernel
theorem dX0_add_29 : decode cX0_add 29 = .ok (.iload_n 3, 1) := by decide +kernel
theorem dX0_add_30 : decode cX0_add 30 = .ok (.ireturn, 1) := by decide +kernel
theorem dX0_copyFrom_0 : decode cX0_copyFrom 0 = .ok (.iconst 0, 1) := by decide +kernel
theorem dX0_copyFrom_1 : decode cX0_copyFrom 1 = .ok (.istore_n 2, 1) := by decide +kernel
theorem dX0_copyFrom_2 : decode cX0_copyFrom 2 = .ok (.iload_n 2, 1) := by decide +kernel
theorem dX0_copyFrom_3 : decode cX0_copyFrom 3 = .ok (.bipush 8, 2) := by decide +kernel
theorem dX0_copyFrom_5 : decode cX0_copyFrom 5 = .ok (.if_icmp .ge 33, 3) := by decide +kernel
theorem dX0_copyFrom_8 : decode cX0_copyFrom 8 = .ok (.aload_n 0, 1) := by decide +kernel
theorem dX0_copyFrom_9 : decode cX0_copyFrom 9 = .ok (.getfield 9, 3) := by decide +kernel
theorem dX0_copyFrom_12 : decode cX0_copyFrom 12 = .ok (.iload_n 2, 1) := by decide +kernel
theorem dX0_copyFrom_13 : decode cX0_copyFrom 13 = .ok (.aload_n 1, 1) := by decide +kernel
theorem dX0_copyFrom_14 : decode cX0_copyFrom 14 = .ok (.getfield 9, 3) := by decide +kernel
theorem dX0_copyFrom_17 : decode cX0_copyFrom 17 = .ok (.iload_n 2, 1) := by decide +kernel
theorem dX0_copyFrom_18 : decode cX0_copyFrom 18 = .ok (.iaload, 1) := by decide +kernel
theorem dX0_copyFrom_19 : decode cX0_copyFrom 19 = .ok (.iastore, 1) := by decide +kernel
theorem dX0_copyFrom_20 : decode cX0_copyFrom 20 = .ok (.aload_n 0, 1) := by decide +kernel
theorem dX0_copyFrom_21 : decode cX0_copyFrom 21 = .ok (.getfield 15, 3) := by decide +kernel
theorem dX0_copyFrom_24 : decode cX0_copyFrom 24 = .ok (.iload_n 2, 1) := by decide +kernel
theorem dX0_copyFrom_25 : decode cX0_copyFrom 25 = .ok (.aload_n 1, 1) := by decide +kernel
theorem dX0_copyFrom_26 : decode cX0_copyFrom 26 = .ok (.getfield 15, 3) := by decide +kernel
theorem dX0_copyFrom_29 : decode cX0_copyFrom 29 = .ok (.iload_n 2, 1) := by decide +kernel
theorem dX0_copyFrom_30 : decode cX0_copyFrom 30 = .ok (.iaload, 1) := by decide +kernel
theorem dX0_copyFrom_31 : decode cX0_copyFrom 31 = .ok (.iastore, 1) := by decide +kernel
theorem dX0_copyFrom_32 : decode cX0_copyFrom 32 = .ok (.iinc 2 1, 3) := by decide +kernel
theorem dX0_copyFrom_35 : decode cX0_copyFrom 35 = .ok (.goto (-33), 3) := by decide +kernel
theorem dX0_copyFrom_38 : decode cX0_copyFrom 38 = .ok (.aload_n 0, 1) := by decide +kernel
theorem dX0_copyFrom_39 : decode cX0_copyFrom 39 = .ok (.aload_n 1, 1) := by decide +kernel
theorem dX0_copyFrom_40 : decode cX0_copyFrom 40 = .ok (.getfield 18, 3) := by decide +kernel
theorem dX0_copyFrom_43 : decode cX0_copyFrom 43 = .ok (.putfield 18, 3) := by decide +kernel
theorem dX0_copyFrom_46 : decode cX0_copyFrom 46 = .ok (.aload_n 0, 1) := by decide +kernel
theorem dX0_copyFrom_47 : decode cX0_copyFrom 47 = .ok (.aload_n 1, 1) := by decide +kernel
theorem dX0_copyFrom_48 : decode cX0_copyFrom 48 = .ok (.getfield 22, 3) := by decide +kernel
theorem dX0_copyFrom_51 : decode cX0_copyFrom 51 = .ok (.putfield 22, 3) := by decide +kernel
theorem dX0_copyFrom_54 : decode cX0_copyFrom 54 = .ok (.return_, 1) := by decide +kernel
set_option maxRecDepth 20000 in
theorem ggX0_staysInField_X2_inField : GoodIn wsX0_staysInField wsX2_inField := goodIn_r _ [6, 7, 8, 5, 9] (by decide +kernel) (by decide +kernel)
set_option maxRecDepth 20000 in
theorem gX0_staysInField_X2_inField_n25 : GoodIn wsX0_staysInField (wsX2_inField) := ggX0_staysInField_X2_inField
theorem dX0_staysInField_0 : decode cX0_staysInField 0 = .ok (.iconst 0, 1) := by decide +kernel
theorem dX0_staysInField_1 : decode cX0_staysInField 1 = .ok (.istore_n 3, 1) := by decide +kernel
theorem dX0_staysInField_2 : decode cX0_staysInField 2 = .ok (.iload_n 3, 1) := by decide +kernel
theorem dX0_staysInField_3 : decode cX0_staysInField 3 = .ok (.aload_n 0, 1) := by decide +kernel
theorem dX0_staysInField_4 : decode cX0_staysInField 4 = .ok (.getfield 18, 3) := by decide +kernel
theorem dX0_staysInField_7 : decode cX0_staysInField 7 = .ok (.if_icmp .ge 39, 3) := by decide +kernel
theorem dX0_staysInField_10 : decode cX0_staysInField 10 = .ok (.aload_n 0, 1) := by decide +kernel
theorem dX0_staysInField_11 : decode cX0_staysInField 11 = .ok (.getfield 9, 3) := by decide +kernel
theorem dX0_staysInField_14 : decode cX0_staysInField 14 = .ok (.iload_n 3, 1) := by decide +kernel
theorem dX0_staysInField_15 : decode cX0_staysInField 15 = .ok (.iaload, 1) := by decide +kernel
theorem dX0_staysInField_16 : decode cX0_staysInField 16 = .ok (.iload_n 1, 1) := by decide +kernel
theorem dX0_staysInField_17 : decode cX0_staysInField 17 = .ok (.iadd, 1) := by decide +kernel
theorem dX0_staysInField_18 : decode cX0_staysInField 18 = .ok (.invokestatic 25, 3) := by decide +kernel
theorem dX0_staysInField_21 : decode cX0_staysInField 21 = .ok (.ifCond .eq 17, 3) := by decide +kernel
theorem dX0_staysInField_24 : decode cX0_staysInField 24 = .ok (.aload_n 0, 1) := by decide +kernel
theorem dX0_staysInField_25 : decode cX0_staysInField 25 = .ok (.getfield 15, 3) := by decide +kernel
theorem dX0_staysInField_28 : decode cX0_staysInField 28 = .ok (.iload_n 3, 1) := by decide +kernel
theorem dX0_staysInField_29 : decode cX0_staysInField 29 = .ok (.iaload, 1) := by decide +kernel
theorem dX0_staysInField_30 : decode cX0_staysInField 30 = .ok (.iload_n 2, 1) := by decide +kernel
theorem dX0_staysInField_31 : decode cX0_staysInField 31 = .ok (.iadd, 1) := by decide +kernel
theorem dX0_staysInField_32 : decode cX0_staysInField 32 = .ok (.invokestatic 25, 3) := by decide +kernel
theorem dX0_staysInField_35 : decode cX0_staysInField 35 = .ok (.ifCond .ne 5, 3) := by decide +kernel
theorem dX0_staysInField_38 : decode cX0_staysInField 38 = .ok (.iconst 0, 1) := by decide +kernel
theorem dX0_staysInField_39 : decode cX0_staysInField 39 = .ok (.ireturn, 1) := by decide +kernel
theorem dX0_staysInField_40 : decode cX0_staysInField 40 = .ok (.iinc 3 1, 3) := by decide +kernel
theorem dX0_staysInField_43 : decode cX0_staysInField 43 = .ok (.goto (-41), 3) := by decide +kernel
theorem dX0_staysInField_46 : decode cX0_staysInField 46 = .ok (.iconst 1, 1) := by decide +kernel
theorem dX0_staysInField_47 : decode cX0_staysInField 47 = .ok (.ireturn, 1) := by decide +kernel
theorem dX0_shift_0 : decode cX0_shift 0 = .ok (.iconst 0, 1) := by decide +kernel
theorem dX0_shift_1 : decode cX0_shift 1 = .ok (.istore_n 3, 1) := by decide +kernel
theorem dX0_shift_2 : decode cX0_shift 2 = .ok (.iload_n 3, 1) := by decide +kernel
theorem dX0_shift_3 : decode cX0_shift 3 = .ok (.aload_n 0, 1) := by decide +kernel
theorem dX0_shift_4 : decode cX0_shift 4 = .ok (.getfield 18, 3) := by decide +kernel
theorem dX0_shift_7 : decode cX0_shift 7 = .ok (.if_icmp .ge 29, 3) := by decide +kernel
theorem dX0_shift_10 : decode cX0_shift 10 = .ok (.aload_n 0, 1) := by decide +kernel
theorem dX0_shift_11 : decode cX0_shift 11 = .ok (.getfield 9, 3) := by decide +kernel
theorem dX0_shift_14 : decode cX0_shift 14 = .ok (.iload_n 3, 1) := by decide +kernel
theorem dX0_shift_15 : decode cX0_shift 15 = .ok (.dup2, 1) := by decide +kernel
theorem dX0_shift_16 : decode cX0_shift 16 = .ok (.iaload, 1) := by decide +kernel
theorem dX0_shift_17 : decode cX0_shift 17 = .ok (.iload_n 1, 1) := by decide +kernel
theorem dX0_shift_18 : decode cX0_shift 18 = .ok (.iadd, 1) := by decide +kernel
theorem dX0_shift_19 : decode cX0_shift 19 = .ok (.iastore, 1) := by decide +kernel
theorem dX0_shift_20 : decode cX0_shift 20 = .ok (.aload_n 0, 1) := by decide +kernel
theorem dX0_shift_21 : decode cX0_shift 21 = .ok (.getfield 15, 3) := by decide +kernel
theorem dX0_shift_24 : decode cX0_shift 24 = .ok (.iload_n 3, 1) := by decide +kernel
theorem dX0_shift_25 : decode cX0_shift 25 = .ok (.dup2, 1) := by decide +kernel
theorem dX0_shift_26 : decode cX0_shift 26 = .ok (.iaload, 1) := by decide +kernel
theorem dX0_shift_27 : decode cX0_shift 27 = .ok (.iload_n 2, 1) := by decide +kernel
theorem dX0_shift_28 : decode cX0_shift 28 = .ok (.iadd, 1) := by decide +kernel
theorem dX0_shift_29 : decode cX0_shift 29 = .ok (.iastore, 1) := by decide +kernel
theorem dX0_shift_30 : decode cX0_shift 30 = .ok (.iinc 3 1, 3) := by decide +kernel
theorem dX0_shift_33 : decode cX0_shift 33 = .ok (.goto (-31), 3) := by decide +kernel
theorem dX0_shift_36 : decode cX0_shift 36 = .ok (.return_, 1) := by decide +kernel
set_option maxRecDepth 20000 in
theorem ggX0_reverse_X0_swap : GoodIn wsX0_reverse wsX0_swap := goodIn_r _ [5, 6, 7, 8, 9, 10, 11] (by decide +kernel) (by decide +kernel)
set_option maxRecDepth 20000 in
theorem gX0_reverse_X0_swap : GoodIn wsX0_reverse (wsV RX0 29 RX0 yX0_swap wsX0_swap) := goodIn_app (goodIn_of _ (by decide +kernel)) ggX0_reverse_X0_swap
theorem dX0_reverse_0 : decode cX0_reverse 0 = .ok (.iload_n 2, 1) := by decide +kernel
theorem dX0_reverse_1 : decode cX0_reverse 1 = .ok (.iconst 1, 1) := by decide +kernel
theorem dX0_reverse_2 : decode cX0_reverse 2 = .ok (.isub, 1) := by decide +kernel
theorem dX0_reverse_3 : decode cX0_reverse 3 = .ok (.istore_n 3, 1) := by decide +kernel
theorem dX0_reverse_4 : decode cX0_reverse 4 = .ok (.iload_n 1, 1) := by decide +kernel
theorem dX0_reverse_5 : decode cX0_reverse 5 = .ok (.istore 4, 2) := by decide +kernel
theorem dX0_reverse_7 : decode cX0_reverse 7 = .ok (.iload 4, 2) := by decide +kernel
theorem dX0_reverse_9 : decode cX0_reverse 9 = .ok (.iload_n 3, 1) := by decide +kernel
theorem dX0_reverse_10 : decode cX0_reverse 10 = .ok (.if_icmp .ge 19, 3) := by decide +kernel
theorem dX0_reverse_13 : decode cX0_reverse 13 = .ok (.aload_n 0, 1) := by decide +kernel
theorem dX0_reverse_14 : decode cX0_reverse 14 = .ok (.iload 4, 2) := by decide +kernel
theorem dX0_reverse_16 : decode cX0_reverse 16 = .ok (.iload_n 3, 1) := by decide +kernel
theorem dX0_reverse_17 : decode cX0_reverse 17 = .ok (.invokevirtual 29, 3) := by decide +kernel
theorem dX0_reverse_20 : decode cX0_reverse 20 = .ok (.iinc 3 (-1), 3) := by decide +kernel
theorem dX0_reverse_23 : decode cX0_reverse 23 = .ok (.iinc 4 1, 3) := by decide +kernel
theorem dX0_reverse_26 : decode cX0_reverse 26 = .ok (.goto (-19), 3) := by decide +kernel
theorem dX0_reverse_29 : decode cX0_reverse 29 = .ok (.return_, 1) := by decide +kernel
theorem dX0_swap_0 : decode cX0_swap 0 = .ok (.aload_n 0, 1) := by decide +kernel
theorem dX0_swap_1 : decode cX0_swap 1 = .ok (.getfield 9, 3) := by decide +kernel
theorem dX0_swap_4 : decode cX0_swap 4 = .ok (.iload_n 1, 1) := by decide +kernel
theorem dX0_swap_5 : decode cX0_swap 5 = .ok (.iaload, 1) := by decide +kernel
theorem dX0_swap_6 : decode cX0_swap 6 = .ok (.istore_n 3, 1) := by decide +kernel
theorem dX0_swap_7 : decode cX0_swap 7 = .ok (.aload_n 0, 1) := by decide +kernel
theorem dX0_swap_8 : decode cX0_swap 8 = .ok (.getfield 15, 3) := by decide +kernel
theorem dX0_swap_11 : decode cX0_swap 11 = .ok (.iload_n 1, 1) := by decide +kernel
theorem dX0_swap_12 : decode cX0_swap 12 = .ok (.iaload, 1) := by decide +kernel
theorem dX0_swap_13 : decode cX0_swap 13 = .ok (.istore 4, 2) := by decide +kernel
theorem dX0_swap_15 : decode cX0_swap 15 = .ok (.aload_n 0, 1) := by decide +kernel
theorem dX0_swap_16 : decode cX0_swap 16 = .ok (.getfield 9, 3) := by decide +kernel
theorem dX0_swap_19 : decode cX0_swap 19 = .ok (.iload_n 1, 1) := by decide +kernel
theorem dX0_swap_20 : decode cX0_swap 20 = .ok (.aload_n 0, 1) := by decide +kernel
theorem dX0_swap_21 : decode cX0_swap 21 = .ok (.getfield 9, 3) := by decide +kernel
theorem dX0_swap_24 : decode cX0_swap 24 = .ok (.iload_n 2, 1) := by decide +kernel
theorem dX0_swap_25 : decode cX0_swap 25 = .ok (.iaload, 1) := by decide +kernel
theorem dX0_swap_26 : decode cX0_swap 26 = .ok (.iastore, 1) := by decide +kernel
theorem dX0_swap_27 : decode cX0_swap 27 = .ok (.aload_n 0, 1) := by decide +kernel
theorem dX0_swap_28 : decode cX0_swap 28 = .ok (.getfield 15, 3) := by decide +kernel
theorem dX0_swap_31 : decode cX0_swap 31 = .ok (.iload_n 1, 1) := by decide +kernel
theorem dX0_swap_32 : decode cX0_swap 32 = .ok (.aload_n 0, 1) := by decide +kernel
theorem dX0_swap_33 : decode cX0_swap 33 = .ok (.getfield 15, 3) := by decide +kernel
theorem dX0_swap_36 : decode cX0_swap 36 = .ok (.iload_n 2, 1) := by decide +kernel
theorem dX0_swap_37 : decode cX0_swap 37 = .ok (.iaload, 1) := by decide +kernel
theorem dX0_swap_38 : decode cX0_swap 38 = .ok (.iastore, 1) := by decide +kernel
theorem dX0_swap_39 : decode cX0_swap 39 = .ok (.aload_n 0, 1) := by decide +kernel
theorem dX0_swap_40 : decode cX0_swap 40 = .ok (.getfield 9, 3) := by decide +kernel
theorem dX0_swap_43 : decode cX0_swap 43 = .ok (.iload_n 2, 1) := by decide +kernel
theorem dX0_swap_44 : decode cX0_swap 44 = .ok (.iload_n 3, 1) := by decide +kernel
theorem dX0_swap_45 : decode cX0_swap 45 = .ok (.iastore, 1) := by decide +kernel
theorem dX0_swap_46 : decode cX0_swap 46 = .ok (.aload_n 0, 1) := by decide +kernel
theorem dX0_swap_47 : decode cX0_swap 47 = .ok (.getfield 15, 3) := by decide +kernel
theorem dX0_swap_50 : decode cX0_swap 50 = .ok (.iload_n 2, 1) := by decide +kernel
theorem dX0_swap_51 : decode cX0_swap 51 = .ok (.iload 4, 2) := by decide +kernel
theorem dX0_swap_53 : decode cX0_swap 53 = .ok (.iastore, 1) := by decide +kernel
theorem dX0_swap_54 : decode cX0_swap 54 = .ok (.return_, 1) := by decide +kernel
set_option maxRecDepth 20000 in
theorem ggX0_startAt_X0_reverse : GoodIn wsX0_startAt wsX0_reverse := goodIn_r _ [6, 7, 8, 9, 5, 10, 11, 12, 13, 14, 15, 16] (by decide +kernel) (by decide +kernel)
set_option maxRecDepth 20000 in
theorem gX0_startAt_X0_reverse : GoodIn wsX0_startAt (wsV RX0 33 RX0 yX0_reverse wsX0_reverse) := goodIn_app (goodIn_of _ (by decide +kernel)) ggX0_startAt_X0_reverse
theorem dX0_startAt_0 : decode cX0_startAt 0 = .ok (.aload_n 0, 1) := by decide +kernel
theorem dX0_startAt_1 : decode cX0_startAt 1 = .ok (.iconst 0, 1) := by decide +kernel
theorem dX0_startAt_2 : decode cX0_startAt 2 = .ok (.iload_n 1, 1) := by decide +kernel
theorem dX0_startAt_3 : decode cX0_startAt 3 = .ok (.invokevirtual 33, 3) := by decide +kernel
theorem dX0_startAt_6 : decode cX0_startAt 6 = .ok (.aload_n 0, 1) := by decide +kernel
theorem dX0_startAt_7 : decode cX0_startAt 7 = .ok (.iload_n 1, 1) := by decide +kernel
theorem dX0_startAt_8 : decode cX0_startAt 8 = .ok (.aload_n 0, 1) := by decide +kernel
theorem dX0_startAt_9 : decode cX0_startAt 9 = .ok (.getfield 18, 3) := by decide +kernel
theorem dX0_startAt_12 : decode cX0_startAt 12 = .ok (.invokevirtual 33, 3) := by decide +kernel
theorem dX0_startAt_15 : decode cX0_startAt 15 = .ok (.aload_n 0, 1) := by decide +kernel
theorem dX0_startAt_16 : decode cX0_startAt 16 = .ok (.iconst 0, 1) := by decide +kernel
theorem dX0_startAt_17 : decode cX0_startAt 17 = .ok (.aload_n 0, 1) := by decide +kernel
theorem dX0_startAt_18 : decode cX0_startAt 18 = .ok (.getfield 18, 3) := by decide +kernel
theorem dX0_startAt_21 : decode cX0_startAt 21 = .ok (.invokevirtual 33, 3) := by decide +kernel
theorem dX0_startAt_24 : decode cX0_startAt 24 = .ok (.return_, 1) := by decide +kernel
set_option maxRecDepth 20000 in
theorem ggX0_bestMove_X0_least : GoodIn wsX0_bestMove wsX0_least := goodIn_r _ [7, 8, 9, 10, 11, 12, 51, 52, 53, 54] (by decide +kernel) (by decide +kernel)
set_option maxRecDepth 20000 in
theorem gX0_bestMove_X0_least : GoodIn wsX0_bestMove (wsV RX0 36 RX0 yX0_least wsX0_least) := goodIn_app (goodIn_of _ (by decide +kernel)) ggX0_bestMove_X0_least
set_option maxRecDepth 20000 in
theorem ggX0_bestMove_X0_greatest : GoodIn wsX0_bestMove wsX0_greatest := goodIn_r _ [16, 8, 17, 18, 11, 19, 51, 52, 53, 54] (by decide +kernel) (by decide +kernel)
set_option maxRecDepth 20000 in
theorem gX0_bestMove_X0_greatest : GoodIn wsX0_bestMove (wsV RX0 40 RX0 yX0_greatest wsX0_greatest) := goodIn_app (goodIn_of _ (by decide +kernel)) ggX0_bestMove_X0_greatest
set_option maxRecDepth 20000 in
theorem ggX0_bestMove_X0_wholeDots : GoodIn wsX0_bestMove wsX0_wholeDots := goodIn_r _ [23, 24, 25, 26, 27, 6, 28, 29, 30, 11, 31, 32, 33, 34, 35, 36, 37, 38, 39, 40, 8, 2, 1, 41, 42, 43, 17, 18, 19, 9, 10, 12, 44, 45, 46, 47, 48, 49, 50, 51, 52, 53, 54] (by decide +kernel) (by decide +kernel)
set_option maxRecDepth 20000 in
theorem gX0_bestMove_X0_wholeDots : GoodIn wsX0_bestMove (wsV RX0 43 RX0 yX0_wholeDots wsX0_wholeDots) := goodIn_app (goodIn_of _ (by decide +kernel)) ggX0_bestMove_X0_wholeDots
theorem dX0_bestMove_0 : decode cX0_bestMove 0 = .ok (.aload_n 0, 1) := by decide +kernel
theorem dX0_bestMove_1 : decode cX0_bestMove 1 = .ok (.aload_n 0, 1) := by decide +kernel
theorem dX0_bestMove_2 : decode cX0_bestMove 2 = .ok (.getfield 9, 3) := by decide +kernel
theorem dX0_bestMove_5 : decode cX0_bestMove 5 = .ok (.invokevirtual 36, 3) := by decide +kernel
theorem dX0_bestMove_8 : decode cX0_bestMove 8 = .ok (.istore_n 2, 1) := by decide +kernel
theorem dX0_bestMove_9 : decode cX0_bestMove 9 = .ok (.aload_n 0, 1) := by decide +kernel
theorem dX0_bestMove_10 : decode cX0_bestMove 10 = .ok (.aload_n 0, 1) := by decide +kernel
theorem dX0_bestMove_11 : decode cX0_bestMove 11 = .ok (.getfield 9, 3) := by decide +kernel
theorem dX0_bestMove_14 : decode cX0_bestMove 14 = .ok (.invokevirtual 40, 3) := by decide +kernel
theorem dX0_bestMove_17 : decode cX0_bestMove 17 = .ok (.istore_n 3, 1) := by decide +kernel
theorem dX0_bestMove_18 : decode cX0_bestMove 18 = .ok (.aload_n 0, 1) := by decide +kernel
theorem dX0_bestMove_19 : decode cX0_bestMove 19 = .ok (.aload_n 0, 1) := by decide +kernel
theorem dX0_bestMove_20 : decode cX0_bestMove 20 = .ok (.getfield 15, 3) := by decide +kernel
theorem dX0_bestMove_23 : decode cX0_bestMove 23 = .ok (.invokevirtual 36, 3) := by decide +kernel
theorem dX0_bestMove_26 : decode cX0_bestMove 26 = .ok (.istore 4, 2) := by decide +kernel
theorem dX0_bestMove_28 : decode cX0_bestMove 28 = .ok (.aload_n 0, 1) := by decide +kernel
theorem dX0_bestMove_29 : decode cX0_bestMove 29 = .ok (.aload_n 0, 1) := by decide +kernel
theorem dX0_bestMove_30 : decode cX0_bestMove 30 = .ok (.getfield 15, 3) := by decide +kernel
theorem dX0_bestMove_33 : decode cX0_bestMove 33 = .ok (.invokevirtual 40, 3) := by decide +kernel
theorem dX0_bestMove_36 : decode cX0_bestMove 36 = .ok (.istore 5, 2) := by decide +kernel
theorem dX0_bestMove_38 : decode cX0_bestMove 38 = .ok (.iconst (-1), 1) := by decide +kernel
theorem dX0_bestMove_39 : decode cX0_bestMove 39 = .ok (.istore 6, 2) := by decide +kernel
theorem dX0_bestMove_41 : decode cX0_bestMove 41 = .ok (.iconst 0, 1) := by decide +kernel
theorem dX0_bestMove_42 : decode cX0_bestMove 42 = .ok (.istore 7, 2) := by decide +kernel
theorem dX0_bestMove_44 : decode cX0_bestMove 44 = .ok (.iconst 0, 1) := by decide +kernel
theorem dX0_bestMove_45 : decode cX0_bestMove 45 = .ok (.istore 8, 2) := by decide +kernel
theorem dX0_bestMove_47 : decode cX0_bestMove 47 = .ok (.iload_n 2, 1) := by decide +kernel
theorem dX0_bestMove_48 : decode cX0_bestMove 48 = .ok (.ineg, 1) := by decide +kernel
theorem dX0_bestMove_49 : decode cX0_bestMove 49 = .ok (.istore 9, 2) := by decide +kernel
theorem dX0_bestMove_51 : decode cX0_bestMove 51 = .ok (.iload 9, 2) := by decide +kernel
theorem dX0_bestMove_53 : decode cX0_bestMove 53 = .ok (.bipush 12, 2) := by decide +kernel
theorem dX0_bestMove_55 : decode cX0_bestMove 55 = .ok (.iload_n 3, 1) := by decide +kernel
theorem dX0_bestMove_56 : decode cX0_bestMove 56 = .ok (.isub, 1) := by decide +kernel
theorem dX0_bestMove_57 : decode cX0_bestMove 57 = .ok (.if_icmp .gt 96, 3) := by decide +kernel
theorem dX0_bestMove_60 : decode cX0_bestMove 60 = .ok (.iload 4, 2) := by decide +kernel
theorem dX0_bestMove_62 : decode cX0_bestMove 62 = .ok (.ineg, 1) := by decide +kernel
theorem dX0_bestMove_63 : decode cX0_bestMove 63 = .ok (.istore 10, 2) := by decide +kernel
theorem dX0_bestMove_65 : decode cX0_bestMove 65 = .ok (.iload 10, 2) := by decide +kernel
theorem dX0_bestMove_67 : decode cX0_bestMove 67 = .ok (.bipush 12, 2) := by decide +kernel
theorem dX0_bestMove_69 : decode cX0_bestMove 69 = .ok (.iload 5, 2) := by decide +kernel
theorem dX0_bestMove_71 : decode cX0_bestMove 71 = .ok (.isub, 1) := by decide +kernel
theorem dX0_bestMove_72 : decode cX0_bestMove 72 = .ok (.if_icmp .gt 75, 3) := by decide +kernel
theorem dX0_bestMove_75 : decode cX0_bestMove 75 = .ok (.iconst 0, 1) := by decide +kernel
theorem dX0_bestMove_76 : decode cX0_bestMove 76 = .ok (.istore 11, 2) := by decide +kernel
theorem dX0_bestMove_78 : decode cX0_bestMove 78 = .ok (.iload 4, 2) := by decide +kernel
theorem dX0_bestMove_80 : decode cX0_bestMove 80 = .ok (.iload 10, 2) := by decide +kernel
theorem dX0_bestMove_82 : decode cX0_bestMove 82 = .ok (.iadd, 1) := by decide +kernel
theorem dX0_bestMove_83 : decode cX0_bestMove 83 = .ok (.iconst 3, 1) := by decide +kernel
theorem dX0_bestMove_84 : decode cX0_bestMove 84 = .ok (.idiv, 1) := by decide +kernel
theorem dX0_bestMove_85 : decode cX0_bestMove 85 = .ok (.istore 12, 2) := by decide +kernel
theorem dX0_bestMove_87 : decode cX0_bestMove 87 = .ok (.iconst 3, 1) := by decide +kernel
theorem dX0_bestMove_88 : decode cX0_bestMove 88 = .ok (.iload 12, 2) := by decide +kernel
theorem dX0_bestMove_90 : decode cX0_bestMove 90 = .ok (.imul, 1) := by decide +kernel
theorem dX0_bestMove_91 : decode cX0_bestMove 91 = .ok (.iload 5, 2) := by decide +kernel
theorem dX0_bestMove_93 : decode cX0_bestMove 93 = .ok (.iload 10, 2) := by decide +kernel
theorem dX0_bestMove_95 : decode cX0_bestMove 95 = .ok (.iadd, 1) := by decide +kernel
theorem dX0_bestMove_96 : decode cX0_bestMove 96 = .ok (.if_icmp .ge 26, 3) := by decide +kernel
theorem dX0_bestMove_99 : decode cX0_bestMove 99 = .ok (.iload 11, 2) := by decide +kernel
theorem dX0_bestMove_101 : decode cX0_bestMove 101 = .ok (.aload_n 0, 1) := by decide +kernel
theorem dX0_bestMove_102 : decode cX0_bestMove 102 = .ok (.iload 12, 2) := by decide +kernel
theorem dX0_bestMove_104 : decode cX0_bestMove 104 = .ok (.iload_n 2, 1) := by decide +kernel
theorem dX0_bestMove_105 : decode cX0_bestMove 105 = .ok (.iload_n 3, 1) := by decide +kernel
theorem dX0_bestMove_106 : decode cX0_bestMove 106 = .ok (.iload 9, 2) := by decide +kernel
theorem dX0_bestMove_108 : decode cX0_bestMove 108 = .ok (.iload 10, 2) := by decide +kernel
theorem dX0_bestMove_110 : decode cX0_bestMove 110 = .ok (.invokevirtual 43, 3) := by decide +kernel
theorem dX0_bestMove_113 : decode cX0_bestMove 113 = .ok (.iadd, 1) := by decide +kernel
theorem dX0_bestMove_114 : decode cX0_bestMove 114 = .ok (.istore 11, 2) := by decide +kernel
theorem dX0_bestMove_116 : decode cX0_bestMove 116 = .ok (.iinc 12 1, 3) := by decide +kernel
theorem dX0_bestMove_119 : decode cX0_bestMove 119 = .ok (.goto (-32), 3) := by decide +kernel
theorem dX0_bestMove_122 : decode cX0_bestMove 122 = .ok (.iload 11, 2) := by decide +kernel
theorem dX0_bestMove_124 : decode cX0_bestMove 124 = .ok (.iload 6, 2) := by decide +kernel
theorem dX0_bestMove_126 : decode cX0_bestMove 126 = .ok (.if_icmp .le 15, 3) := by decide +kernel
theorem dX0_bestMove_129 : decode cX0_bestMove 129 = .ok (.iload 11, 2) := by decide +kernel
theorem dX0_bestMove_131 : decode cX0_bestMove 131 = .ok (.istore 6, 2) := by decide +kernel
theorem dX0_bestMove_133 : decode cX0_bestMove 133 = .ok (.iload 9, 2) := by decide +kernel
theorem dX0_bestMove_135 : decode cX0_bestMove 135 = .ok (.istore 7, 2) := by decide +kernel
theorem dX0_bestMove_137 : decode cX0_bestMove 137 = .ok (.iload 10, 2) := by decide +kernel
theorem dX0_bestMove_139 : decode cX0_bestMove 139 = .ok (.istore 8, 2) := by decide +kernel
theorem dX0_bestMove_141 : decode cX0_bestMove 141 = .ok (.iinc 10 1, 3) := by decide +kernel
theorem dX0_bestMove_144 : decode cX0_bestMove 144 = .ok (.goto (-79), 3) := by decide +kernel
theorem dX0_bestMove_147 : decode cX0_bestMove 147 = .ok (.iinc 9 1, 3) := by decide +kernel
theorem dX0_bestMove_150 : decode cX0_bestMove 150 = .ok (.goto (-99), 3) := by decide +kernel
theorem dX0_bestMove_153 : decode cX0_bestMove 153 = .ok (.iload_n 1, 1) := by decide +kernel
theorem dX0_bestMove_154 : decode cX0_bestMove 154 = .ok (.iconst 2, 1) := by decide +kernel
theorem dX0_bestMove_155 : decode cX0_bestMove 155 = .ok (.if_icmp .ne 6, 3) := by decide +kernel
theorem dX0_bestMove_158 : decode cX0_bestMove 158 = .ok (.iload 6, 2) := by decide +kernel
theorem dX0_bestMove_160 : decode cX0_bestMove 160 = .ok (.ireturn, 1) := by decide +kernel
theorem dX0_bestMove_161 : decode cX0_bestMove 161 = .ok (.bipush 100, 2) := by decide +kernel
theorem dX0_bestMove_163 : decode cX0_bestMove 163 = .ok (.iload_n 1, 1) := by decide +kernel
theorem dX0_bestMove_164 : decode cX0_bestMove 164 = .ok (.ifCond .ne 8, 3) := by decide +kernel
theorem dX0_bestMove_167 : decode cX0_bestMove 167 = .ok (.iload 7, 2) := by decide +kernel
theorem dX0_bestMove_169 : decode cX0_bestMove 169 = .ok (.goto 5, 3) := by decide +kernel
theorem dX0_bestMove_172 : decode cX0_bestMove 172 = .ok (.iload 8, 2) := by decide +kernel
theorem dX0_bestMove_174 : decode cX0_bestMove 174 = .ok (.iadd, 1) := by decide +kernel
theorem dX0_bestMove_175 : decode cX0_bestMove 175 = .ok (.ireturn, 1) := by decide +kernel
theorem dX0_least_0 : decode cX0_least 0 = .ok (.bipush 12, 2) := by decide +kernel
theorem dX0_least_2 : decode cX0_least 2 = .ok (.istore_n 2, 1) := by decide +kernel
theorem dX0_least_3 : decode cX0_least 3 = .ok (.iconst 0, 1) := by decide +kernel
theorem dX0_least_4 : decode cX0_least 4 = .ok (.istore_n 3, 1) := by decide +kernel
theorem dX0_least_5 : decode cX0_least 5 = .ok (.iload_n 3, 1) := by decide +kernel
theorem dX0_least_6 : decode cX0_least 6 = .ok (.aload_n 0, 1) := by decide +kernel
theorem dX0_least_7 : decode cX0_least 7 = .ok (.getfield 18, 3) := by decide +kernel
theorem dX0_least_10 : decode cX0_least 10 = .ok (.if_icmp .ge 17, 3) := by decide +kernel
theorem dX0_least_13 : decode cX0_least 13 = .ok (.iload_n 2, 1) := by decide +kernel
theorem dX0_least_14 : decode cX0_least 14 = .ok (.aload_n 1, 1) := by decide +kernel
theorem dX0_least_15 : decode cX0_least 15 = .ok (.iload_n 3, 1) := by decide +kernel
theorem dX0_least_16 : decode cX0_least 16 = .ok (.iaload, 1) := by decide +kernel
theorem dX0_least_17 : decode cX0_least 17 = .ok (.invokestatic 47, 3) := by decide +kernel
theorem dX0_least_20 : decode cX0_least 20 = .ok (.istore_n 2, 1) := by decide +kernel
theorem dX0_least_21 : decode cX0_least 21 = .ok (.iinc 3 1, 3) := by decide +kernel
theorem dX0_least_24 : decode cX0_least 24 = .ok (.goto (-19), 3) := by decide +kernel
theorem dX0_least_27 : decode cX0_least 27 = .ok (.iload_n 2, 1) := by decide +kernel
theorem dX0_least_28 : decode cX0_least 28 = .ok (.ireturn, 1) := by decide +kernel
theorem dX0_greatest_0 : decode cX0_greatest 0 = .ok (.iconst 0, 1) := by decide +kernel
theorem dX0_greatest_1 : decode cX0_greatest 1 = .ok (.istore_n 2, 1) := by decide +kernel
theorem dX0_greatest_2 : decode cX0_greatest 2 = .ok (.iconst 0, 1) := by decide +kernel
theorem dX0_greatest_3 : decode cX0_greatest 3 = .ok (.istore_n 3, 1) := by decide +kernel
theorem dX0_greatest_4 : decode cX0_greatest 4 = .ok (.iload_n 3, 1) := by decide +kernel
theorem dX0_greatest_5 : decode cX0_greatest 5 = .ok (.aload_n 0, 1) := by decide +kernel
theorem dX0_greatest_6 : decode cX0_greatest 6 = .ok (.getfield 18, 3) := by decide +kernel
theorem dX0_greatest_9 : decode cX0_greatest 9 = .ok (.if_icmp .ge 17, 3) := by decide +kernel
theorem dX0_greatest_12 : decode cX0_greatest 12 = .ok (.iload_n 2, 1) := by decide +kernel
theorem dX0_greatest_13 : decode cX0_greatest 13 = .ok (.aload_n 1, 1) := by decide +kernel
theorem dX0_greatest_14 : decode cX0_greatest 14 = .ok (.iload_n 3, 1) := by decide +kernel
theorem dX0_greatest_15 : decode cX0_greatest 15 = .ok (.iaload, 1) := by decide +kernel
theorem dX0_greatest_16 : decode cX0_greatest 16 = .ok (.invokestatic 53, 3) := by decide +kernel
theorem dX0_greatest_19 : decode cX0_greatest 19 = .ok (.istore_n 2, 1) := by decide +kernel
theorem dX0_greatest_20 : decode cX0_greatest 20 = .ok (.iinc 3 1, 3) := by decide +kernel
theorem dX0_greatest_23 : decode cX0_greatest 23 = .ok (.goto (-19), 3) := by decide +kernel
theorem dX0_greatest_26 : decode cX0_greatest 26 = .ok (.iload_n 2, 1) := by decide +kernel
theorem dX0_greatest_27 : decode cX0_greatest 27 = .ok (.ireturn, 1) := by decide +kernel
set_option maxRecDepth 20000 in
theorem ggX0_wholeDots_X0_coverParts : GoodIn wsX0_wholeDots wsX0_coverParts := goodIn_r _ [6, 7, 8, 9, 10, 11, 1, 12, 13, 14, 15, 16, 17, 18, 5, 19, 20, 21, 22, 23, 24, 25, 26, 27, 28, 29, 30, 31, 32, 33, 34, 35, 36, 37, 38, 39, 40, 41, 42] (by decide +kernel) (by decide +kernel)
set_option maxRecDepth 20000 in
theorem gX0_wholeDots_X0_coverParts : GoodIn wsX0_wholeDots (wsV RX0 56 RX0 yX0_coverParts wsX0_coverParts) := goodIn_app (goodIn_of _ (by decide +kernel)) ggX0_wholeDots_X0_coverParts
theorem dX0_wholeDots_0 : decode cX0_wholeDots 0 = .ok (.iconst 0, 1) := by decide +kernel
theorem dX0_wholeDots_1 : decode cX0_wholeDots 1 = .ok (.istore 6, 2) := by decide +kernel
theorem dX0_wholeDots_3 : decode cX0_wholeDots 3 = .ok (.iload_n 2, 1) := by decide +kernel
theorem dX0_wholeDots_4 : decode cX0_wholeDots 4 = .ok (.iload 4, 2) := by decide +kernel
theorem dX0_wholeDots_6 : decode cX0_wholeDots 6 = .ok (.iadd, 1) := by decide +kernel
theorem dX0_wholeDots_7 : decode cX0_wholeDots 7 = .ok (.iconst 3, 1) := by decide +kernel
theorem dX0_wholeDots_8 : decode cX0_wholeDots 8 = .ok (.idiv, 1) := by decide +kernel
theorem dX0_wholeDots_9 : decode cX0_wholeDots 9 = .ok (.istore 7, 2) := by decide +kernel
theorem dX0_wholeDots_11 : decode cX0_wholeDots 11 = .ok (.iconst 3, 1) := by decide +kernel
theorem dX0_wholeDots_12 : decode cX0_wholeDots 12 = .ok (.iload 7, 2) := by decide +kernel
theorem dX0_wholeDots_14 : decode cX0_wholeDots 14 = .ok (.imul, 1) := by decide +kernel
theorem dX0_wholeDots_15 : decode cX0_wholeDots 15 = .ok (.iload_n 3, 1) := by decide +kernel
theorem dX0_wholeDots_16 : decode cX0_wholeDots 16 = .ok (.iload 4, 2) := by decide +kernel
theorem dX0_wholeDots_18 : decode cX0_wholeDots 18 = .ok (.iadd, 1) := by decide +kernel
theorem dX0_wholeDots_19 : decode cX0_wholeDots 19 = .ok (.if_icmp .ge 33, 3) := by decide +kernel
theorem dX0_wholeDots_22 : decode cX0_wholeDots 22 = .ok (.aload_n 0, 1) := by decide +kernel
theorem dX0_wholeDots_23 : decode cX0_wholeDots 23 = .ok (.iconst 4, 1) := by decide +kernel
theorem dX0_wholeDots_24 : decode cX0_wholeDots 24 = .ok (.iload_n 1, 1) := by decide +kernel
theorem dX0_wholeDots_25 : decode cX0_wholeDots 25 = .ok (.imul, 1) := by decide +kernel
theorem dX0_wholeDots_26 : decode cX0_wholeDots 26 = .ok (.iload 7, 2) := by decide +kernel
theorem dX0_wholeDots_28 : decode cX0_wholeDots 28 = .ok (.iadd, 1) := by decide +kernel
theorem dX0_wholeDots_29 : decode cX0_wholeDots 29 = .ok (.iload 4, 2) := by decide +kernel
theorem dX0_wholeDots_31 : decode cX0_wholeDots 31 = .ok (.iload 5, 2) := by decide +kernel
theorem dX0_wholeDots_33 : decode cX0_wholeDots 33 = .ok (.invokevirtual 56, 3) := by decide +kernel
theorem dX0_wholeDots_36 : decode cX0_wholeDots 36 = .ok (.ldc2_w 60, 3) := by decide +kernel
theorem dX0_wholeDots_39 : decode cX0_wholeDots 39 = .ok (.lcmp, 1) := by decide +kernel
theorem dX0_wholeDots_40 : decode cX0_wholeDots 40 = .ok (.ifCond .ne 6, 3) := by decide +kernel
theorem dX0_wholeDots_43 : decode cX0_wholeDots 43 = .ok (.iinc 6 1, 3) := by decide +kernel
theorem dX0_wholeDots_46 : decode cX0_wholeDots 46 = .ok (.iinc 7 1, 3) := by decide +kernel
theorem dX0_wholeDots_49 : decode cX0_wholeDots 49 = .ok (.goto (-38), 3) := by decide +kernel
theorem dX0_wholeDots_52 : decode cX0_wholeDots 52 = .ok (.iload 6, 2) := by decide +kernel
theorem dX0_wholeDots_54 : decode cX0_wholeDots 54 = .ok (.ireturn, 1) := by decide +kernel
set_option maxRecDepth 20000 in
theorem ggX0_coverParts_X0_rawParts : GoodIn wsX0_coverParts wsX0_rawParts := goodIn_r _ [15, 16, 17, 18, 19, 20, 14, 21, 22, 23, 3, 24, 25, 26, 27, 28, 29, 30, 31, 32, 33, 34, 35, 36, 37, 38] (by decide +kernel) (by decide +kernel)
set_option maxRecDepth 20000 in
theorem gX0_coverParts_X0_rawParts : GoodIn wsX0_coverParts (wsV RX0 62 RX0 yX0_rawParts wsX0_rawParts) := goodIn_app (goodIn_of _ (by decide +kernel)) ggX0_coverParts_X0_rawParts
theorem dX0_coverParts_0 : decode cX0_coverParts 0 = .ok (.aload_n 0, 1) := by decide +kernel
theorem dX0_coverParts_1 : decode cX0_coverParts 1 = .ok (.iload_n 1, 1) := by decide +kernel
theorem dX0_coverParts_2 : decode cX0_coverParts 2 = .ok (.iload_n 2, 1) := by decide +kernel
theorem dX0_coverParts_3 : decode cX0_coverParts 3 = .ok (.iload_n 3, 1) := by decide +kernel
theorem dX0_coverParts_4 : decode cX0_coverParts 4 = .ok (.invokevirtual 62, 3) := by decide +kernel
theorem dX0_coverParts_7 : decode cX0_coverParts 7 = .ok (.invokestatic 65, 3) := by decide +kernel
theorem dX0_coverParts_10 : decode cX0_coverParts 10 = .ok (.lstore 4, 2) := by decide +kernel
theorem dX0_coverParts_12 : decode cX0_coverParts 12 = .ok (.aload_n 0, 1) := by decide +kernel
theorem dX0_coverParts_13 : decode cX0_coverParts 13 = .ok (.getfield 22, 3) := by decide +kernel
theorem dX0_coverParts_16 : decode cX0_coverParts 16 = .ok (.ifCond .ne 12, 3) := by decide +kernel
theorem dX0_coverParts_19 : decode cX0_coverParts 19 = .ok (.lload 4, 2) := by decide +kernel
theorem dX0_coverParts_21 : decode cX0_coverParts 21 = .ok (.ldc2_w 60, 3) := by decide +kernel
theorem dX0_coverParts_24 : decode cX0_coverParts 24 = .ok (.invokestatic 69, 3) := by decide +kernel
theorem dX0_coverParts_27 : decode cX0_coverParts 27 = .ok (.lreturn, 1) := by decide +kernel
theorem dX0_coverParts_28 : decode cX0_coverParts 28 = .ok (.lload 4, 2) := by decide +kernel
theorem dX0_coverParts_30 : decode cX0_coverParts 30 = .ok (.ldc2_w 72, 3) := by decide +kernel
theorem dX0_coverParts_33 : decode cX0_coverParts 33 = .ok (.lrem, 1) := by decide +kernel
theorem dX0_coverParts_34 : decode cX0_coverParts 34 = .ok (.lstore 6, 2) := by decide +kernel
theorem dX0_coverParts_36 : decode cX0_coverParts 36 = .ok (.lload 6, 2) := by decide +kernel
theorem dX0_coverParts_38 : decode cX0_coverParts 38 = .ok (.ldc2_w 60, 3) := by decide +kernel
theorem dX0_coverParts_41 : decode cX0_coverParts 41 = .ok (.lcmp, 1) := by decide +kernel
theorem dX0_coverParts_42 : decode cX0_coverParts 42 = .ok (.ifCond .le 12, 3) := by decide +kernel
theorem dX0_coverParts_45 : decode cX0_coverParts 45 = .ok (.ldc2_w 72, 3) := by decide +kernel
theorem dX0_coverParts_48 : decode cX0_coverParts 48 = .ok (.lload 6, 2) := by decide +kernel
theorem dX0_coverParts_50 : decode cX0_coverParts 50 = .ok (.lsub, 1) := by decide +kernel
theorem dX0_coverParts_51 : decode cX0_coverParts 51 = .ok (.goto 5, 3) := by decide +kernel
theorem dX0_coverParts_54 : decode cX0_coverParts 54 = .ok (.lload 6, 2) := by decide +kernel
theorem dX0_coverParts_56 : decode cX0_coverParts 56 = .ok (.lreturn, 1) := by decide +kernel
set_option maxRecDepth 20000 in
theorem ggX0_rawParts_X0_leftOfEdge : GoodIn wsX0_rawParts wsX0_leftOfEdge := goodIn_r _ [7, 8, 9, 10, 11, 12, 13, 14, 15, 16, 17, 18, 19, 6, 20, 21] (by decide +kernel) (by decide +kernel)
set_option maxRecDepth 20000 in
theorem gX0_rawParts_X0_leftOfEdge : GoodIn wsX0_rawParts (va_wsS RX0 74 yX0_leftOfEdge wsX0_leftOfEdge) := goodIn_app (goodIn_of _ (by decide +kernel)) ggX0_rawParts_X0_leftOfEdge
theorem dX0_rawParts_0 : decode cX0_rawParts 0 = .ok (.iconst 3, 1) := by decide +kernel
theorem dX0_rawParts_1 : decode cX0_rawParts 1 = .ok (.iload_n 1, 1) := by decide +kernel
theorem dX0_rawParts_2 : decode cX0_rawParts 2 = .ok (.iconst 4, 1) := by decide +kernel
theorem dX0_rawParts_3 : decode cX0_rawParts 3 = .ok (.irem, 1) := by decide +kernel
theorem dX0_rawParts_4 : decode cX0_rawParts 4 = .ok (.imul, 1) := by decide +kernel
theorem dX0_rawParts_5 : decode cX0_rawParts 5 = .ok (.iload_n 2, 1) := by decide +kernel
theorem dX0_rawParts_6 : decode cX0_rawParts 6 = .ok (.isub, 1) := by decide +kernel
theorem dX0_rawParts_7 : decode cX0_rawParts 7 = .ok (.istore 4, 2) := by decide +kernel
theorem dX0_rawParts_9 : decode cX0_rawParts 9 = .ok (.iconst 3, 1) := by decide +kernel
theorem dX0_rawParts_10 : decode cX0_rawParts 10 = .ok (.iload_n 1, 1) := by decide +kernel
theorem dX0_rawParts_11 : decode cX0_rawParts 11 = .ok (.iconst 4, 1) := by decide +kernel
theorem dX0_rawParts_12 : decode cX0_rawParts 12 = .ok (.idiv, 1) := by decide +kernel
theorem dX0_rawParts_13 : decode cX0_rawParts 13 = .ok (.imul, 1) := by decide +kernel
theorem dX0_rawParts_14 : decode cX0_rawParts 14 = .ok (.iload_n 3, 1) := by decide +kernel
theorem dX0_rawParts_15 : decode cX0_rawParts 15 = .ok (.isub, 1) := by decide +kernel
theorem dX0_rawParts_16 : decode cX0_rawParts 16 = .ok (.istore 5, 2) := by decide +kernel
theorem dX0_rawParts_18 : decode cX0_rawParts 18 = .ok (.lconst 0, 1) := by decide +kernel
theorem dX0_rawParts_19 : decode cX0_rawParts 19 = .ok (.lstore 6, 2) := by decide +kernel
theorem dX0_rawParts_21 : decode cX0_rawParts 21 = .ok (.iconst 0, 1) := by decide +kernel
theorem dX0_rawParts_22 : decode cX0_rawParts 22 = .ok (.istore 8, 2) := by decide +kernel
theorem dX0_rawParts_24 : decode cX0_rawParts 24 = .ok (.iload 8, 2) := by decide +kernel
theorem dX0_rawParts_26 : decode cX0_rawParts 26 = .ok (.aload_n 0, 1) := by decide +kernel
theorem dX0_rawParts_27 : decode cX0_rawParts 27 = .ok (.getfield 18, 3) := by decide +kernel
theorem dX0_rawParts_30 : decode cX0_rawParts 30 = .ok (.if_icmp .ge 147, 3) := by decide +kernel
theorem dX0_rawParts_33 : decode cX0_rawParts 33 = .ok (.iload 8, 2) := by decide +kernel
theorem dX0_rawParts_35 : decode cX0_rawParts 35 = .ok (.iconst 1, 1) := by decide +kernel
theorem dX0_rawParts_36 : decode cX0_rawParts 36 = .ok (.iadd, 1) := by decide +kernel
theorem dX0_rawParts_37 : decode cX0_rawParts 37 = .ok (.aload_n 0, 1) := by decide +kernel
theorem dX0_rawParts_38 : decode cX0_rawParts 38 = .ok (.getfield 18, 3) := by decide +kernel
theorem dX0_rawParts_41 : decode cX0_rawParts 41 = .ok (.if_icmp .ge 10, 3) := by decide +kernel
theorem dX0_rawParts_44 : decode cX0_rawParts 44 = .ok (.iload 8, 2) := by decide +kernel
theorem dX0_rawParts_46 : decode cX0_rawParts 46 = .ok (.iconst 1, 1) := by decide +kernel
theorem dX0_rawParts_47 : decode cX0_rawParts 47 = .ok (.iadd, 1) := by decide +kernel
theorem dX0_rawParts_48 : decode cX0_rawParts 48 = .ok (.goto 4, 3) := by decide +kernel
theorem dX0_rawParts_51 : decode cX0_rawParts 51 = .ok (.iconst 0, 1) := by decide +kernel
theorem dX0_rawParts_52 : decode cX0_rawParts 52 = .ok (.istore 9, 2) := by decide +kernel
theorem dX0_rawParts_54 : decode cX0_rawParts 54 = .ok (.aload_n 0, 1) := by decide +kernel
theorem dX0_rawParts_55 : decode cX0_rawParts 55 = .ok (.getfield 15, 3) := by decide +kernel
theorem dX0_rawParts_58 : decode cX0_rawParts 58 = .ok (.iload 8, 2) := by decide +kernel
theorem dX0_rawParts_60 : decode cX0_rawParts 60 = .ok (.iaload, 1) := by decide +kernel
theorem dX0_rawParts_61 : decode cX0_rawParts 61 = .ok (.aload_n 0, 1) := by decide +kernel
theorem dX0_rawParts_62 : decode cX0_rawParts 62 = .ok (.getfield 15, 3) := by decide +kernel
theorem dX0_rawParts_65 : decode cX0_rawParts 65 = .ok (.iload 9, 2) := by decide +kernel
theorem dX0_rawParts_67 : decode cX0_rawParts 67 = .ok (.iaload, 1) := by decide +kernel
theorem dX0_rawParts_68 : decode cX0_rawParts 68 = .ok (.if_icmp .ge 46, 3) := by decide +kernel
theorem dX0_rawParts_71 : decode cX0_rawParts 71 = .ok (.lload 6, 2) := by decide +kernel
theorem dX0_rawParts_73 : decode cX0_rawParts 73 = .ok (.aload_n 0, 1) := by decide +kernel
theorem dX0_rawParts_74 : decode cX0_rawParts 74 = .ok (.getfield 9, 3) := by decide +kernel
theorem dX0_rawParts_77 : decode cX0_rawParts 77 = .ok (.iload 8, 2) := by decide +kernel
theorem dX0_rawParts_79 : decode cX0_rawParts 79 = .ok (.iaload, 1) := by decide +kernel
theorem dX0_rawParts_80 : decode cX0_rawParts 80 = .ok (.aload_n 0, 1) := by decide +kernel
theorem dX0_rawParts_81 : decode cX0_rawParts 81 = .ok (.getfield 15, 3) := by decide +kernel
theorem dX0_rawParts_84 : decode cX0_rawParts 84 = .ok (.iload 8, 2) := by decide +kernel
