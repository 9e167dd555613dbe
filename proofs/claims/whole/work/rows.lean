section
-- ===== PART A: goes FIRST, ahead of the names: the tables' words, and 'selects' of the private methods out of them =====
/-- a private method of a class that the tables say can be made, by its rows of tables_1 -/
def lw_okq (q : MethodName × Nat) : Prop := (q.1.cls ≠ "java/lang/invoke/MethodHandle" ∧ q.1.cls ≠ "java/lang/invoke/VarHandle") ∧ Cond.instantiable q.1.cls q.2 ∈ tables_1 ∧ Cond.privateMethod q.1 ∈ tables_1 ∧ Cond.instanceMethod q.1 ∈ tables_1
theorem lw_p0 : lw_okq (⟨"DotCover$Layer", "swap", "(II)V"⟩, 4) := ⟨⟨by decide +kernel, by decide +kernel⟩, List.mem_of_getElem? (i := 22) (by decide +kernel), List.mem_of_getElem? (i := 118) (by decide +kernel), List.mem_of_getElem? (i := 119) (by decide +kernel)⟩
theorem lw_p1 : lw_okq (⟨"DotCover$Layer", "least", "([I)I"⟩, 4) := ⟨⟨by decide +kernel, by decide +kernel⟩, List.mem_of_getElem? (i := 22) (by decide +kernel), List.mem_of_getElem? (i := 237) (by decide +kernel), List.mem_of_getElem? (i := 238) (by decide +kernel)⟩
theorem lw_p2 : lw_okq (⟨"DotCover$Layer", "greatest", "([I)I"⟩, 4) := ⟨⟨by decide +kernel, by decide +kernel⟩, List.mem_of_getElem? (i := 22) (by decide +kernel), List.mem_of_getElem? (i := 241) (by decide +kernel), List.mem_of_getElem? (i := 242) (by decide +kernel)⟩
theorem lw_p3 : lw_okq (⟨"DotCover$Layer", "wholeDots", "(IIIII)I"⟩, 4) := ⟨⟨by decide +kernel, by decide +kernel⟩, List.mem_of_getElem? (i := 22) (by decide +kernel), List.mem_of_getElem? (i := 245) (by decide +kernel), List.mem_of_getElem? (i := 246) (by decide +kernel)⟩
theorem lw_p4 : lw_okq (⟨"DotCoverModel", "isPoint", "(II)Z"⟩, 11) := ⟨⟨by decide +kernel, by decide +kernel⟩, List.mem_of_getElem? (i := 278) (by decide +kernel), List.mem_of_getElem? (i := 344) (by decide +kernel), List.mem_of_getElem? (i := 345) (by decide +kernel)⟩
theorem lw_p5 : lw_okq (⟨"DotCoverModel", "canMove", "(III)Z"⟩, 11) := ⟨⟨by decide +kernel, by decide +kernel⟩, List.mem_of_getElem? (i := 278) (by decide +kernel), List.mem_of_getElem? (i := 356) (by decide +kernel), List.mem_of_getElem? (i := 357) (by decide +kernel)⟩
theorem lw_p6 : lw_okq (⟨"DotCoverModel", "putAside", "(I)V"⟩, 11) := ⟨⟨by decide +kernel, by decide +kernel⟩, List.mem_of_getElem? (i := 278) (by decide +kernel), List.mem_of_getElem? (i := 364) (by decide +kernel), List.mem_of_getElem? (i := 365) (by decide +kernel)⟩
theorem lw_p7 : lw_okq (⟨"DotCoverModel", "layFrom", "(III)V"⟩, 11) := ⟨⟨by decide +kernel, by decide +kernel⟩, List.mem_of_getElem? (i := 278) (by decide +kernel), List.mem_of_getElem? (i := 368) (by decide +kernel), List.mem_of_getElem? (i := 369) (by decide +kernel)⟩
theorem lw_p8 : lw_okq (⟨"DotCoverModel", "rawOf", "(IIII)J"⟩, 11) := ⟨⟨by decide +kernel, by decide +kernel⟩, List.mem_of_getElem? (i := 278) (by decide +kernel), List.mem_of_getElem? (i := 391) (by decide +kernel), List.mem_of_getElem? (i := 392) (by decide +kernel)⟩
theorem lw_p9 : lw_okq (⟨"DotCoverModel", "layPath", "(III)V"⟩, 11) := ⟨⟨by decide +kernel, by decide +kernel⟩, List.mem_of_getElem? (i := 278) (by decide +kernel), List.mem_of_getElem? (i := 395) (by decide +kernel), List.mem_of_getElem? (i := 396) (by decide +kernel)⟩
theorem lw_p10 : lw_okq (⟨"DotCoverModel", "cutSide", "(IJ)V"⟩, 11) := ⟨⟨by decide +kernel, by decide +kernel⟩, List.mem_of_getElem? (i := 278) (by decide +kernel), List.mem_of_getElem? (i := 401) (by decide +kernel), List.mem_of_getElem? (i := 402) (by decide +kernel)⟩
theorem lw_p11 : lw_okq (⟨"DotCoverModel", "within", "(IIJ)J"⟩, 11) := ⟨⟨by decide +kernel, by decide +kernel⟩, List.mem_of_getElem? (i := 278) (by decide +kernel), List.mem_of_getElem? (i := 405) (by decide +kernel), List.mem_of_getElem? (i := 406) (by decide +kernel)⟩
theorem lw_p12 : lw_okq (⟨"DotCoverModel", "leave", "(JJ)V"⟩, 11) := ⟨⟨by decide +kernel, by decide +kernel⟩, List.mem_of_getElem? (i := 278) (by decide +kernel), List.mem_of_getElem? (i := 409) (by decide +kernel), List.mem_of_getElem? (i := 410) (by decide +kernel)⟩
theorem lw_p13 : lw_okq (⟨"DotCoverModel", "leaveCrossing", "(IIIJ)V"⟩, 11) := ⟨⟨by decide +kernel, by decide +kernel⟩, List.mem_of_getElem? (i := 278) (by decide +kernel), List.mem_of_getElem? (i := 413) (by decide +kernel), List.mem_of_getElem? (i := 414) (by decide +kernel)⟩
theorem lw_p14 : lw_okq (⟨"DotCoverModel", "twiceArea", "()J"⟩, 11) := ⟨⟨by decide +kernel, by decide +kernel⟩, List.mem_of_getElem? (i := 278) (by decide +kernel), List.mem_of_getElem? (i := 417) (by decide +kernel), List.mem_of_getElem? (i := 418) (by decide +kernel)⟩
theorem lw_p15 : lw_okq (⟨"DotCoverModel", "coverOf", "(II)J"⟩, 11) := ⟨⟨by decide +kernel, by decide +kernel⟩, List.mem_of_getElem? (i := 278) (by decide +kernel), List.mem_of_getElem? (i := 437) (by decide +kernel), List.mem_of_getElem? (i := 438) (by decide +kernel)⟩
def lw_privs_1 : List (MethodName × Nat) := [(⟨"DotCover$Layer", "swap", "(II)V"⟩, 4), (⟨"DotCover$Layer", "least", "([I)I"⟩, 4), (⟨"DotCover$Layer", "greatest", "([I)I"⟩, 4), (⟨"DotCover$Layer", "wholeDots", "(IIIII)I"⟩, 4), (⟨"DotCoverModel", "isPoint", "(II)Z"⟩, 11), (⟨"DotCoverModel", "canMove", "(III)Z"⟩, 11), (⟨"DotCoverModel", "putAside", "(I)V"⟩, 11), (⟨"DotCoverModel", "layFrom", "(III)V"⟩, 11), (⟨"DotCoverModel", "rawOf", "(IIII)J"⟩, 11), (⟨"DotCoverModel", "layPath", "(III)V"⟩, 11), (⟨"DotCoverModel", "cutSide", "(IJ)V"⟩, 11), (⟨"DotCoverModel", "within", "(IIJ)J"⟩, 11), (⟨"DotCoverModel", "leave", "(JJ)V"⟩, 11), (⟨"DotCoverModel", "leaveCrossing", "(IIIJ)V"⟩, 11), (⟨"DotCoverModel", "twiceArea", "()J"⟩, 11), (⟨"DotCoverModel", "coverOf", "(II)J"⟩, 11)]
theorem lw_r1 : ∀ q ∈ lw_privs_1, lw_okq q := List.forall_mem_cons.mpr ⟨lw_p0, List.forall_mem_cons.mpr ⟨lw_p1, List.forall_mem_cons.mpr ⟨lw_p2, List.forall_mem_cons.mpr ⟨lw_p3, List.forall_mem_cons.mpr ⟨lw_p4, List.forall_mem_cons.mpr ⟨lw_p5, List.forall_mem_cons.mpr ⟨lw_p6, List.forall_mem_cons.mpr ⟨lw_p7, List.forall_mem_cons.mpr ⟨lw_p8, List.forall_mem_cons.mpr ⟨lw_p9, List.forall_mem_cons.mpr ⟨lw_p10, List.forall_mem_cons.mpr ⟨lw_p11, List.forall_mem_cons.mpr ⟨lw_p12, List.forall_mem_cons.mpr ⟨lw_p13, List.forall_mem_cons.mpr ⟨lw_p14, List.forall_mem_cons.mpr ⟨lw_p15, fun _ h => absurd h List.not_mem_nil⟩⟩⟩⟩⟩⟩⟩⟩⟩⟩⟩⟩⟩⟩⟩⟩
theorem lw_p16 : lw_okq (⟨"DotCoverModel", "coverMoved", "(IIII)J"⟩, 11) := ⟨⟨by decide +kernel, by decide +kernel⟩, List.mem_of_getElem? (i := 278) (by decide +kernel), List.mem_of_getElem? (i := 441) (by decide +kernel), List.mem_of_getElem? (i := 442) (by decide +kernel)⟩
theorem lw_p17 : lw_okq (⟨"DotCoverModel", "openOf", "(I)J"⟩, 11) := ⟨⟨by decide +kernel, by decide +kernel⟩, List.mem_of_getElem? (i := 278) (by decide +kernel), List.mem_of_getElem? (i := 455) (by decide +kernel), List.mem_of_getElem? (i := 456) (by decide +kernel)⟩
theorem lw_p18 : lw_okq (⟨"DotCoverModel", "fullMoved", "(III)I"⟩, 11) := ⟨⟨by decide +kernel, by decide +kernel⟩, List.mem_of_getElem? (i := 278) (by decide +kernel), List.mem_of_getElem? (i := 476) (by decide +kernel), List.mem_of_getElem? (i := 477) (by decide +kernel)⟩
def lw_privs_2 : List (MethodName × Nat) := [(⟨"DotCoverModel", "coverMoved", "(IIII)J"⟩, 11), (⟨"DotCoverModel", "openOf", "(I)J"⟩, 11), (⟨"DotCoverModel", "fullMoved", "(III)I"⟩, 11)]
theorem lw_r2 : ∀ q ∈ lw_privs_2, lw_okq q := List.forall_mem_cons.mpr ⟨lw_p16, List.forall_mem_cons.mpr ⟨lw_p17, List.forall_mem_cons.mpr ⟨lw_p18, fun _ h => absurd h List.not_mem_nil⟩⟩⟩
def lw_privs : List (MethodName × Nat) := lw_privs_1 ++ (lw_privs_2)
def lw_tbl : List Cond := k2_sels lw_privs ++ tables_1
theorem lw_privs_ok : ∀ q ∈ lw_privs, lw_okq q := by
  show ∀ q ∈ lw_privs_1 ++ (lw_privs_2), lw_okq q
  exact List.forall_mem_append.mpr ⟨lw_r1, lw_r2⟩
-- ===== end of PART A; then your names; then what follows =====
end
section
/-! ===== BEGIN words of one list among another's, by their places ===== -/
theorem goodIn_r {big : List Cond} (ws : List Cond) (ps : List Nat) (hp : ws = ps.filterMap (fun i => big[i]?)) (h : ws.all goodWord = true) : GoodIn big ws := by
  intro w hw
  have h1 := List.all_eq_true.mp h w hw
  rw [hp] at hw
  obtain ⟨i, -, hi⟩ := List.mem_filterMap.mp hw
  have hm : w ∈ big := by first | exact List.mem_of_getElem? hi | exact List.getElem?_mem hi
  exact ⟨hm, good_of_word h1⟩
theorem goodIn_app {big a b : List Cond} (ha : GoodIn big a) (hb : GoodIn big b) : GoodIn big (a ++ b) := fun w h => (List.mem_append.mp h).elim (ha w) (hb w)
theorem goodIn_ca {big a b : List Cond} {c : Cond} (ha : GoodIn big (c :: a)) (hb : GoodIn big b) : GoodIn big (c :: (a ++ b)) := fun w h => (List.mem_cons.mp h).elim (fun e => ha w (List.mem_cons.mpr (Or.inl e))) (fun h => (List.mem_append.mp h).elim (fun h => ha w (List.mem_cons.mpr (Or.inr h))) (hb w))
theorem goodIn_sub {big ws : List Cond} (hm : ∀ w ∈ ws, w ∈ big) (h : ws.all goodWord = true) : GoodIn big ws := fun w hw => ⟨hm w hw, good_of_word (List.all_eq_true.mp h w hw)⟩
/-! ===== END ===== -/

/-! ===== BEGIN printed: names, fields, word lists, decode rows ===== -/
def RX0 : String := "DotCover$Layer"
def TX0 : u_T := fun k => match k with
  | 0 => ("DotCover$Layer", "xs", "[I", true)
  | 1 => ("DotCover$Layer", "ys", "[I", true)
  | 2 => ("DotCover$Layer", "size", "I", false)
  | _ => ("DotCover$Layer", "folding", "I", false)
def tyX0 : Nat → FieldType := fun k => match k with
  | 0 => .array .int
  | 1 => .array .int
  | 2 => .int
  | _ => .int
abbrev wsX00 : List Cond := u_ws RX0 TX0 4
theorem nmX0 : ∀ a, a < 4 → ∀ b, b < 4 → a ≠ b → (TX0 a).2.1 ≠ (TX0 b).2.1 := by decide +kernel
theorem tyX0_ok : ∀ k, k < 4 → parseFieldDescriptor (TX0 k).2.2.1 = some (tyX0 k) := by decide +kernel
abbrev cX0_init : ByteArray := prog_2_method_1_code
def yX0_init : MethodName := ⟨RX0, "<init>", "()V"⟩
abbrev cX0_has : ByteArray := prog_2_method_2_code
def yX0_has : MethodName := ⟨RX0, "has", "(I)Z"⟩
abbrev cX0_add : ByteArray := prog_2_method_3_code
def yX0_add : MethodName := ⟨RX0, "add", "(II)I"⟩
abbrev cX0_copyFrom : ByteArray := prog_2_method_4_code
def yX0_copyFrom : MethodName := ⟨RX0, "copyFrom", "(LDotCover$Layer;)V"⟩
abbrev cX0_staysInField : ByteArray := prog_2_method_5_code
def yX0_staysInField : MethodName := ⟨RX0, "staysInField", "(II)Z"⟩
abbrev cX0_shift : ByteArray := prog_2_method_6_code
def yX0_shift : MethodName := ⟨RX0, "shift", "(II)V"⟩
abbrev cX0_reverse : ByteArray := prog_2_method_7_code
def yX0_reverse : MethodName := ⟨RX0, "reverse", "(II)V"⟩
abbrev cX0_swap : ByteArray := prog_2_method_8_code
def yX0_swap : MethodName := ⟨RX0, "swap", "(II)V"⟩
abbrev cX0_startAt : ByteArray := prog_2_method_9_code
def yX0_startAt : MethodName := ⟨RX0, "startAt", "(I)V"⟩
abbrev cX0_bestMove : ByteArray := prog_2_method_10_code
def yX0_bestMove : MethodName := ⟨RX0, "bestMove", "(I)I"⟩
abbrev cX0_least : ByteArray := prog_2_method_11_code
def yX0_least : MethodName := ⟨RX0, "least", "([I)I"⟩
abbrev cX0_greatest : ByteArray := prog_2_method_12_code
def yX0_greatest : MethodName := ⟨RX0, "greatest", "([I)I"⟩
abbrev cX0_wholeDots : ByteArray := prog_2_method_13_code
def yX0_wholeDots : MethodName := ⟨RX0, "wholeDots", "(IIIII)I"⟩
abbrev cX0_coverParts : ByteArray := prog_2_method_14_code
def yX0_coverParts : MethodName := ⟨RX0, "coverParts", "(III)J"⟩
abbrev cX0_rawParts : ByteArray := prog_2_method_15_code
def yX0_rawParts : MethodName := ⟨RX0, "rawParts", "(III)J"⟩
abbrev cX0_leftOfEdge : ByteArray := prog_2_method_16_code
def yX0_leftOfEdge : MethodName := ⟨RX0, "leftOfEdge", "(IIIIII)J"⟩
abbrev cX0_beforeEdge : ByteArray := prog_2_method_17_code
def yX0_beforeEdge : MethodName := ⟨RX0, "beforeEdge", "(IIIII)J"⟩
def RX1 : String := "DotCover$Scene"
def TX1 : u_T := fun k => match k with
  | _ => ("DotCover$Scene", "layers", "[LDotCover$Layer;", true)
def tyX1 : Nat → FieldType := fun k => match k with
  | _ => .array (.object "DotCover$Layer")
abbrev wsX10 : List Cond := u_ws RX1 TX1 1
theorem nmX1 : ∀ a, a < 1 → ∀ b, b < 1 → a ≠ b → (TX1 a).2.1 ≠ (TX1 b).2.1 := by decide +kernel
theorem tyX1_ok : ∀ k, k < 1 → parseFieldDescriptor (TX1 k).2.2.1 = some (tyX1 k) := by decide +kernel
abbrev cX1_init : ByteArray := prog_3_method_1_code
def yX1_init : MethodName := ⟨RX1, "<init>", "()V"⟩
abbrev cX1_layerOf : ByteArray := prog_3_method_2_code
def yX1_layerOf : MethodName := ⟨RX1, "layerOf", "(I)LDotCover$Layer;"⟩
abbrev cX1_copyFrom : ByteArray := prog_3_method_3_code
def yX1_copyFrom : MethodName := ⟨RX1, "copyFrom", "(LDotCover$Scene;)V"⟩
abbrev cX1_pointsOfAll : ByteArray := prog_3_method_4_code
def yX1_pointsOfAll : MethodName := ⟨RX1, "pointsOfAll", "()I"⟩
abbrev cX1_togetherParts : ByteArray := prog_3_method_5_code
def yX1_togetherParts : MethodName := ⟨RX1, "togetherParts", "(I)J"⟩
abbrev cX1_mostCoveredDot : ByteArray := prog_3_method_6_code
def yX1_mostCoveredDot : MethodName := ⟨RX1, "mostCoveredDot", "()I"⟩
abbrev cX1_leastCoveredDot : ByteArray := prog_3_method_7_code
def yX1_leastCoveredDot : MethodName := ⟨RX1, "leastCoveredDot", "()I"⟩
abbrev cX1_dotsWithTogether : ByteArray := prog_3_method_8_code
def yX1_dotsWithTogether : MethodName := ⟨RX1, "dotsWithTogether", "(J)I"⟩
def RX2 : String := "DotCover"
def TX2 : u_T := fun k => match k with
  | 0 => ("DotCover", "now", "LDotCover$Scene;", true)
  | 1 => ("DotCover", "images", "[LDotCover$Scene;", true)
  | _ => ("DotCover", "keptImages", "I", false)
def tyX2 : Nat → FieldType := fun k => match k with
  | 0 => .object "DotCover$Scene"
  | 1 => .array (.object "DotCover$Scene")
  | _ => .int
abbrev wsX20 : List Cond := u_ws RX2 TX2 3
theorem nmX2 : ∀ a, a < 3 → ∀ b, b < 3 → a ≠ b → (TX2 a).2.1 ≠ (TX2 b).2.1 := by decide +kernel
theorem tyX2_ok : ∀ k, k < 3 → parseFieldDescriptor (TX2 k).2.2.1 = some (tyX2 k) := by decide +kernel
abbrev cX2_init : ByteArray := prog_1_method_1_code
def yX2_init : MethodName := ⟨RX2, "<init>", "()V"⟩
abbrev cX2_point : ByteArray := prog_1_method_2_code
def yX2_point : MethodName := ⟨RX2, "point", "(III)I"⟩
abbrev cX2_pop : ByteArray := prog_1_method_3_code
def yX2_pop : MethodName := ⟨RX2, "pop", "(I)I"⟩
abbrev cX2_set : ByteArray := prog_1_method_4_code
def yX2_set : MethodName := ⟨RX2, "set", "(IIII)I"⟩
abbrev cX2_rule : ByteArray := prog_1_method_5_code
def yX2_rule : MethodName := ⟨RX2, "rule", "(II)I"⟩
abbrev cX2_move : ByteArray := prog_1_method_6_code
def yX2_move : MethodName := ⟨RX2, "move", "(III)I"⟩
abbrev cX2_back : ByteArray := prog_1_method_7_code
def yX2_back : MethodName := ⟨RX2, "back", "(I)I"⟩
abbrev cX2_begin : ByteArray := prog_1_method_8_code
def yX2_begin : MethodName := ⟨RX2, "begin", "(II)I"⟩
abbrev cX2_at : ByteArray := prog_1_method_9_code
def yX2_at : MethodName := ⟨RX2, "at", "(III)I"⟩
abbrev cX2_raw : ByteArray := prog_1_method_10_code
def yX2_raw : MethodName := ⟨RX2, "raw", "(III)J"⟩
abbrev cX2_cover : ByteArray := prog_1_method_11_code
def yX2_cover : MethodName := ⟨RX2, "cover", "(III)J"⟩
abbrev cX2_together : ByteArray := prog_1_method_12_code
def yX2_together : MethodName := ⟨RX2, "together", "(II)J"⟩
abbrev cX2_area : ByteArray := prog_1_method_13_code
def yX2_area : MethodName := ⟨RX2, "area", "(II)J"⟩
abbrev cX2_enough : ByteArray := prog_1_method_14_code
def yX2_enough : MethodName := ⟨RX2, "enough", "(III)I"⟩
abbrev cX2_field : ByteArray := prog_1_method_15_code
def yX2_field : MethodName := ⟨RX2, "field", "(I)I"⟩
abbrev cX2_best : ByteArray := prog_1_method_16_code
def yX2_best : MethodName := ⟨RX2, "best", "(II)I"⟩
abbrev cX2_same : ByteArray := prog_1_method_17_code
def yX2_same : MethodName := ⟨RX2, "same", "(II)I"⟩
abbrev cX2_image : ByteArray := prog_1_method_18_code
def yX2_image : MethodName := ⟨RX2, "image", "(I)I"⟩
abbrev cX2_restore : ByteArray := prog_1_method_19_code
def yX2_restore : MethodName := ⟨RX2, "restore", "(I)I"⟩
abbrev cX2_count : ByteArray := prog_1_method_20_code
def yX2_count : MethodName := ⟨RX2, "count", "(I)I"⟩
abbrev cX2_within : ByteArray := prog_1_method_21_code
def yX2_within : MethodName := ⟨RX2, "within", "(III)Z"⟩
abbrev cX2_inField : ByteArray := prog_1_method_22_code
def yX2_inField : MethodName := ⟨RX2, "inField", "(I)Z"⟩
abbrev cX2_isDot : ByteArray := prog_1_method_23_code
def yX2_isDot : MethodName := ⟨RX2, "isDot", "(I)Z"⟩
abbrev cX2_lowestTerms : ByteArray := prog_1_method_24_code
def yX2_lowestTerms : MethodName := ⟨RX2, "lowestTerms", "(JJI)J"⟩
abbrev cX2_greatestDivisor : ByteArray := prog_1_method_25_code
def yX2_greatestDivisor : MethodName := ⟨RX2, "greatestDivisor", "(JJ)J"⟩
def RX3 : String := "DotCoverModel"
def TX3 : u_T := fun k => match k with
  | 0 => ("DotCoverModel", "state", "[I", true)
  | 1 => ("DotCoverModel", "images", "[I", true)
  | 2 => ("DotCoverModel", "isKept", "[Z", true)
  | 3 => ("DotCoverModel", "wasX", "[I", true)
  | 4 => ("DotCoverModel", "wasY", "[I", true)
  | 5 => ("DotCoverModel", "px", "[J", true)
  | 6 => ("DotCoverModel", "py", "[J", true)
  | 7 => ("DotCoverModel", "corners", "I", false)
  | 8 => ("DotCoverModel", "leftX", "[J", true)
  | 9 => ("DotCoverModel", "leftY", "[J", true)
  | _ => ("DotCoverModel", "left", "I", false)
def tyX3 : Nat → FieldType := fun k => match k with
  | 0 => .array .int
  | 1 => .array .int
  | 2 => .array .boolean
  | 3 => .array .int
  | 4 => .array .int
  | 5 => .array .long
  | 6 => .array .long
  | 7 => .int
  | 8 => .array .long
  | 9 => .array .long
  | _ => .int
abbrev wsX30 : List Cond := u_ws RX3 TX3 11
theorem nmX3 : ∀ a, a < 11 → ∀ b, b < 11 → a ≠ b → (TX3 a).2.1 ≠ (TX3 b).2.1 := by decide +kernel
theorem tyX3_ok : ∀ k, k < 11 → parseFieldDescriptor (TX3 k).2.2.1 = some (tyX3 k) := by decide +kernel
abbrev cX3_init : ByteArray := prog_5_method_1_code
def yX3_init : MethodName := ⟨RX3, "<init>", "()V"⟩
abbrev cX3_in : ByteArray := prog_5_method_2_code
def yX3_in : MethodName := ⟨RX3, "in", "(III)Z"⟩
abbrev cX3_isLayer : ByteArray := prog_5_method_3_code
def yX3_isLayer : MethodName := ⟨RX3, "isLayer", "(I)Z"⟩
abbrev cX3_isDot : ByteArray := prog_5_method_4_code
def yX3_isDot : MethodName := ⟨RX3, "isDot", "(I)Z"⟩
abbrev cX3_isHere : ByteArray := prog_5_method_5_code
def yX3_isHere : MethodName := ⟨RX3, "isHere", "(II)Z"⟩
abbrev cX3_isPoint : ByteArray := prog_5_method_6_code
def yX3_isPoint : MethodName := ⟨RX3, "isPoint", "(II)Z"⟩
abbrev cX3_place : ByteArray := prog_5_method_7_code
def yX3_place : MethodName := ⟨RX3, "place", "(II)I"⟩
abbrev cX3_point : ByteArray := prog_5_method_8_code
def yX3_point : MethodName := ⟨RX3, "point", "(III)I"⟩
abbrev cX3_pop : ByteArray := prog_5_method_9_code
def yX3_pop : MethodName := ⟨RX3, "pop", "(I)I"⟩
abbrev cX3_set : ByteArray := prog_5_method_10_code
def yX3_set : MethodName := ⟨RX3, "set", "(IIII)I"⟩
abbrev cX3_rule : ByteArray := prog_5_method_11_code
def yX3_rule : MethodName := ⟨RX3, "rule", "(II)I"⟩
abbrev cX3_canMove : ByteArray := prog_5_method_12_code
def yX3_canMove : MethodName := ⟨RX3, "canMove", "(III)Z"⟩
abbrev cX3_move : ByteArray := prog_5_method_13_code
def yX3_move : MethodName := ⟨RX3, "move", "(III)I"⟩
abbrev cX3_putAside : ByteArray := prog_5_method_14_code
def yX3_putAside : MethodName := ⟨RX3, "putAside", "(I)V"⟩
abbrev cX3_layFrom : ByteArray := prog_5_method_15_code
def yX3_layFrom : MethodName := ⟨RX3, "layFrom", "(III)V"⟩
abbrev cX3_back : ByteArray := prog_5_method_16_code
def yX3_back : MethodName := ⟨RX3, "back", "(I)I"⟩
abbrev cX3_begin : ByteArray := prog_5_method_17_code
def yX3_begin : MethodName := ⟨RX3, "begin", "(II)I"⟩
abbrev cX3_at : ByteArray := prog_5_method_18_code
def yX3_at : MethodName := ⟨RX3, "at", "(III)I"⟩
abbrev cX3_layPath : ByteArray := prog_5_method_19_code
def yX3_layPath : MethodName := ⟨RX3, "layPath", "(III)V"⟩
abbrev cX3_leave : ByteArray := prog_5_method_20_code
def yX3_leave : MethodName := ⟨RX3, "leave", "(JJ)V"⟩
abbrev cX3_within : ByteArray := prog_5_method_21_code
def yX3_within : MethodName := ⟨RX3, "within", "(IIJ)J"⟩
abbrev cX3_leaveCrossing : ByteArray := prog_5_method_22_code
def yX3_leaveCrossing : MethodName := ⟨RX3, "leaveCrossing", "(IIIJ)V"⟩
abbrev cX3_cutSide : ByteArray := prog_5_method_23_code
def yX3_cutSide : MethodName := ⟨RX3, "cutSide", "(IJ)V"⟩
abbrev cX3_twiceArea : ByteArray := prog_5_method_24_code
def yX3_twiceArea : MethodName := ⟨RX3, "twiceArea", "()J"⟩
abbrev cX3_rawOf : ByteArray := prog_5_method_25_code
def yX3_rawOf : MethodName := ⟨RX3, "rawOf", "(IIII)J"⟩
abbrev cX3_plain : ByteArray := prog_5_method_26_code
def yX3_plain : MethodName := ⟨RX3, "plain", "(J)J"⟩
abbrev cX3_coverMoved : ByteArray := prog_5_method_27_code
def yX3_coverMoved : MethodName := ⟨RX3, "coverMoved", "(IIII)J"⟩
abbrev cX3_coverOf : ByteArray := prog_5_method_28_code
def yX3_coverOf : MethodName := ⟨RX3, "coverOf", "(II)J"⟩
abbrev cX3_common : ByteArray := prog_5_method_29_code
def yX3_common : MethodName := ⟨RX3, "common", "(JJ)J"⟩
abbrev cX3_told : ByteArray := prog_5_method_30_code
def yX3_told : MethodName := ⟨RX3, "told", "(JJI)J"⟩
abbrev cX3_isPart : ByteArray := prog_5_method_31_code
def yX3_isPart : MethodName := ⟨RX3, "isPart", "(I)Z"⟩
abbrev cX3_raw : ByteArray := prog_5_method_32_code
def yX3_raw : MethodName := ⟨RX3, "raw", "(III)J"⟩
abbrev cX3_cover : ByteArray := prog_5_method_33_code
def yX3_cover : MethodName := ⟨RX3, "cover", "(III)J"⟩
abbrev cX3_openOf : ByteArray := prog_5_method_34_code
def yX3_openOf : MethodName := ⟨RX3, "openOf", "(I)J"⟩
abbrev cX3_whole : ByteArray := prog_5_method_35_code
def yX3_whole : MethodName := ⟨RX3, "whole", "()J"⟩
abbrev cX3_together : ByteArray := prog_5_method_36_code
def yX3_together : MethodName := ⟨RX3, "together", "(II)J"⟩
abbrev cX3_area : ByteArray := prog_5_method_37_code
def yX3_area : MethodName := ⟨RX3, "area", "(II)J"⟩
abbrev cX3_enough : ByteArray := prog_5_method_38_code
def yX3_enough : MethodName := ⟨RX3, "enough", "(III)I"⟩
abbrev cX3_field : ByteArray := prog_5_method_39_code
def yX3_field : MethodName := ⟨RX3, "field", "(I)I"⟩
abbrev cX3_fullMoved : ByteArray := prog_5_method_40_code
def yX3_fullMoved : MethodName := ⟨RX3, "fullMoved", "(III)I"⟩
abbrev cX3_best : ByteArray := prog_5_method_41_code
def yX3_best : MethodName := ⟨RX3, "best", "(II)I"⟩
abbrev cX3_same : ByteArray := prog_5_method_42_code
def yX3_same : MethodName := ⟨RX3, "same", "(II)I"⟩
abbrev cX3_image : ByteArray := prog_5_method_43_code
def yX3_image : MethodName := ⟨RX3, "image", "(I)I"⟩
abbrev cX3_restore : ByteArray := prog_5_method_44_code
def yX3_restore : MethodName := ⟨RX3, "restore", "(I)I"⟩
abbrev cX3_count : ByteArray := prog_5_method_45_code
def yX3_count : MethodName := ⟨RX3, "count", "(I)I"⟩
def RJ9 : String := "java/lang/Math"
def TJ9 : u_T := fun k => match k with
  | _ => ("", "", "", false)
def tyJ9 : Nat → FieldType := fun k => match k with
  | _ => .int
abbrev wsJ90 : List Cond := u_ws RJ9 TJ9 0
theorem nmJ9 : ∀ a, a < 0 → ∀ b, b < 0 → a ≠ b → (TJ9 a).2.1 ≠ (TJ9 b).2.1 := by decide +kernel
theorem tyJ9_ok : ∀ k, k < 0 → parseFieldDescriptor (TJ9 k).2.2.1 = some (tyJ9 k) := by decide +kernel
abbrev cJ9_abs_0f7a4 : ByteArray := prog_6_method_59_code
def yJ9_abs_0f7a4 : MethodName := ⟨RJ9, "abs", "(I)I"⟩
abbrev cJ9_abs_067f4 : ByteArray := prog_6_method_61_code
def yJ9_abs_067f4 : MethodName := ⟨RJ9, "abs", "(J)J"⟩
abbrev cJ9_max_7cf53 : ByteArray := prog_6_method_65_code
def yJ9_max_7cf53 : MethodName := ⟨RJ9, "max", "(II)I"⟩
abbrev cJ9_min_7cf53 : ByteArray := prog_6_method_69_code
def yJ9_min_7cf53 : MethodName := ⟨RJ9, "min", "(II)I"⟩
abbrev cJ9_min_f86c9 : ByteArray := prog_6_method_70_code
def yJ9_min_f86c9 : MethodName := ⟨RJ9, "min", "(JJ)J"⟩
def RL : String := "DotCoverLaw"
abbrev cL_law : ByteArray := code
def yL_law : MethodName := ⟨RL, "law", "([I)Z"⟩
def wsX0_init : List Cond := .code yX0_init cX0_init 1 none :: ([.methodLink RX0 3 objectInit, .instanceMethod objectInit, .code objectInit ⟨#[0xb1]⟩ 1 none, .arrayClass .int, .fieldLink RX0 9 "DotCover$Layer" "xs" "[I", .fieldLink RX0 15 "DotCover$Layer" "ys" "[I", .fieldLink RX0 18 "DotCover$Layer" "size" "I", .fieldLink RX0 22 "DotCover$Layer" "folding" "I"] ++ wsX00)
def wsX0_has : List Cond := .code yX0_has cX0_has 2 (some .boolean) :: ([.fieldLink RX0 18 "DotCover$Layer" "size" "I"] ++ wsX00)
def wsX0_add : List Cond := .code yX0_add cX0_add 4 (some .int) :: ([.fieldLink RX0 18 "DotCover$Layer" "size" "I", .fieldLink RX0 9 "DotCover$Layer" "xs" "[I", .fieldLink RX0 15 "DotCover$Layer" "ys" "[I"] ++ wsX00)
def wsX0_copyFrom : List Cond := .code yX0_copyFrom cX0_copyFrom 3 none :: ([.fieldLink RX0 9 "DotCover$Layer" "xs" "[I", .fieldLink RX0 15 "DotCover$Layer" "ys" "[I", .fieldLink RX0 18 "DotCover$Layer" "size" "I", .fieldLink RX0 22 "DotCover$Layer" "folding" "I"] ++ wsX00)
def wsX2_within : List Cond := .code yX2_within cX2_within 3 (some .boolean) :: ([])
def wsX2_inField : List Cond := .code yX2_inField cX2_inField 1 (some .boolean) :: ([.methodLink RX2 51 yX2_within, .static yX2_within, .initialized RX2, .code yX2_within cX2_within 3 (some .boolean)])
def wsX0_staysInField : List Cond := .code yX0_staysInField cX0_staysInField 4 (some .boolean) :: ([.fieldLink RX0 18 "DotCover$Layer" "size" "I", .fieldLink RX0 9 "DotCover$Layer" "xs" "[I", .fieldLink RX0 15 "DotCover$Layer" "ys" "[I", .static yX2_inField, .initialized RX2, .code yX2_inField cX2_inField 1 (some .boolean), .methodLink RX2 51 yX2_within, .static yX2_within, .code yX2_within cX2_within 3 (some .boolean)] ++ wsX00)
def wsX0_shift : List Cond := .code yX0_shift cX0_shift 4 none :: ([.fieldLink RX0 18 "DotCover$Layer" "size" "I", .fieldLink RX0 9 "DotCover$Layer" "xs" "[I", .fieldLink RX0 15 "DotCover$Layer" "ys" "[I"] ++ wsX00)
def wsX0_swap : List Cond := .code yX0_swap cX0_swap 5 none :: ([.fieldLink RX0 9 "DotCover$Layer" "xs" "[I", .fieldLink RX0 15 "DotCover$Layer" "ys" "[I"] ++ wsX00)
def wsX0_reverse : List Cond := .code yX0_reverse cX0_reverse 5 none :: ([.methodLink RX0 29 yX0_swap, .instanceMethod yX0_swap, .selects RX0 yX0_swap yX0_swap, .initialized RX0, .code yX0_swap cX0_swap 5 none, .fieldLink RX0 9 "DotCover$Layer" "xs" "[I", .fieldLink RX0 15 "DotCover$Layer" "ys" "[I"] ++ wsX00)
def wsX0_startAt : List Cond := .code yX0_startAt cX0_startAt 2 none :: ([.fieldLink RX0 18 "DotCover$Layer" "size" "I", .methodLink RX0 33 yX0_reverse, .instanceMethod yX0_reverse, .selects RX0 yX0_reverse yX0_reverse, .initialized RX0, .code yX0_reverse cX0_reverse 5 none, .methodLink RX0 29 yX0_swap, .instanceMethod yX0_swap, .selects RX0 yX0_swap yX0_swap, .code yX0_swap cX0_swap 5 none, .fieldLink RX0 9 "DotCover$Layer" "xs" "[I", .fieldLink RX0 15 "DotCover$Layer" "ys" "[I"] ++ wsX00)
def wsX0_least : List Cond := .code yX0_least cX0_least 4 (some .int) :: ([.fieldLink RX0 18 "DotCover$Layer" "size" "I", .methodLink RX0 47 Lib.Math.min.name, .static Lib.Math.min.name, .initialized "java/lang/Math", .code Lib.Math.min.name Lib.Math.min.code 2 (some .int)] ++ wsX00)
def wsX0_greatest : List Cond := .code yX0_greatest cX0_greatest 4 (some .int) :: ([.fieldLink RX0 18 "DotCover$Layer" "size" "I", .methodLink RX0 53 Lib.Math.max.name, .static Lib.Math.max.name, .initialized "java/lang/Math", .code Lib.Math.max.name Lib.Math.max.code 2 (some .int)] ++ wsX00)
def wsX0_beforeEdge : List Cond := .code yX0_beforeEdge cX0_beforeEdge 6 (some .long) :: ([.constantLong RX0 85 (27720)])
def wsX0_leftOfEdge : List Cond := .code yX0_leftOfEdge cX0_leftOfEdge 14 (some .long) :: ([.methodLink RX0 53 Lib.Math.max.name, .static Lib.Math.max.name, .initialized "java/lang/Math", .code Lib.Math.max.name Lib.Math.max.code 2 (some .int), .methodLink RX0 47 Lib.Math.min.name, .static Lib.Math.min.name, .code Lib.Math.min.name Lib.Math.min.code 2 (some .int), .methodLink RX0 78 Lib.Math.abs.name, .static Lib.Math.abs.name, .code Lib.Math.abs.name Lib.Math.abs.code 1 (some .int), .methodLink RX0 81 yX0_beforeEdge, .static yX0_beforeEdge, .initialized RX0, .code yX0_beforeEdge cX0_beforeEdge 6 (some .long), .constantLong RX0 85 (27720)])
def wsX0_rawParts : List Cond := .code yX0_rawParts cX0_rawParts 10 (some .long) :: ([.fieldLink RX0 18 "DotCover$Layer" "size" "I", .fieldLink RX0 15 "DotCover$Layer" "ys" "[I", .fieldLink RX0 9 "DotCover$Layer" "xs" "[I", .methodLink RX0 74 yX0_leftOfEdge, .static yX0_leftOfEdge, .initialized RX0, .code yX0_leftOfEdge cX0_leftOfEdge 14 (some .long), .methodLink RX0 53 Lib.Math.max.name, .static Lib.Math.max.name, .initialized "java/lang/Math", .code Lib.Math.max.name Lib.Math.max.code 2 (some .int), .methodLink RX0 47 Lib.Math.min.name, .static Lib.Math.min.name, .code Lib.Math.min.name Lib.Math.min.code 2 (some .int), .methodLink RX0 78 Lib.Math.abs.name, .static Lib.Math.abs.name, .code Lib.Math.abs.name Lib.Math.abs.code 1 (some .int), .methodLink RX0 81 yX0_beforeEdge, .static yX0_beforeEdge, .code yX0_beforeEdge cX0_beforeEdge 6 (some .long), .constantLong RX0 85 (27720)] ++ wsX00)
def wsX0_coverParts_r1 : List Cond := [Cond.methodLink RX0 65 Lib.MathLoose.abs_long.x, Cond.static Lib.MathLoose.abs_long.x, Cond.initialized "java/lang/Math", Cond.code Lib.MathLoose.abs_long.x Lib.MathLoose.abs_long.code 2 (some .long), Cond.fieldLink RX0 22 "DotCover$Layer" "folding" "I", Cond.constantLong RX0 60 (498960), Cond.methodLink RX0 69 Lib.MathLoose.min_long.x, Cond.static Lib.MathLoose.min_long.x, Cond.code Lib.MathLoose.min_long.x Lib.MathLoose.min_long.code 4 (some .long), Cond.constantLong RX0 72 (997920), Cond.methodLink RX0 62 yX0_rawParts, Cond.instanceMethod yX0_rawParts, Cond.selects RX0 yX0_rawParts yX0_rawParts, Cond.initialized RX0, Cond.code yX0_rawParts cX0_rawParts 10 (some .long), Cond.fieldLink RX0 18 "DotCover$Layer" "size" "I", Cond.fieldLink RX0 15 "DotCover$Layer" "ys" "[I", Cond.fieldLink RX0 9 "DotCover$Layer" "xs" "[I", Cond.methodLink RX0 74 yX0_leftOfEdge, Cond.static yX0_leftOfEdge, Cond.code yX0_leftOfEdge cX0_leftOfEdge 14 (some .long), Cond.methodLink RX0 53 Lib.Math.max.name, Cond.static Lib.Math.max.name, Cond.code Lib.Math.max.name Lib.Math.max.code 2 (some .int)]
def wsX0_coverParts_r2 : List Cond := [Cond.methodLink RX0 47 Lib.Math.min.name, Cond.static Lib.Math.min.name, Cond.code Lib.Math.min.name Lib.Math.min.code 2 (some .int), Cond.methodLink RX0 78 Lib.Math.abs.name, Cond.static Lib.Math.abs.name, Cond.code Lib.Math.abs.name Lib.Math.abs.code 1 (some .int), Cond.methodLink RX0 81 yX0_beforeEdge, Cond.static yX0_beforeEdge, Cond.code yX0_beforeEdge cX0_beforeEdge 6 (some .long), Cond.constantLong RX0 85 (27720)]
def wsX0_coverParts : List Cond := .code yX0_coverParts cX0_coverParts 8 (some .long) :: ((wsX0_coverParts_r1 ++ wsX0_coverParts_r2) ++ wsX00)
def wsX0_wholeDots_r1 : List Cond := [Cond.constantLong RX0 60 (498960), Cond.methodLink RX0 56 yX0_coverParts, Cond.instanceMethod yX0_coverParts, Cond.selects RX0 yX0_coverParts yX0_coverParts, Cond.initialized RX0, Cond.code yX0_coverParts cX0_coverParts 8 (some .long), Cond.methodLink RX0 65 Lib.MathLoose.abs_long.x, Cond.static Lib.MathLoose.abs_long.x, Cond.initialized "java/lang/Math", Cond.code Lib.MathLoose.abs_long.x Lib.MathLoose.abs_long.code 2 (some .long), Cond.fieldLink RX0 22 "DotCover$Layer" "folding" "I", Cond.methodLink RX0 69 Lib.MathLoose.min_long.x, Cond.static Lib.MathLoose.min_long.x, Cond.code Lib.MathLoose.min_long.x Lib.MathLoose.min_long.code 4 (some .long), Cond.constantLong RX0 72 (997920), Cond.methodLink RX0 62 yX0_rawParts, Cond.instanceMethod yX0_rawParts, Cond.selects RX0 yX0_rawParts yX0_rawParts, Cond.code yX0_rawParts cX0_rawParts 10 (some .long), Cond.fieldLink RX0 18 "DotCover$Layer" "size" "I", Cond.fieldLink RX0 15 "DotCover$Layer" "ys" "[I", Cond.fieldLink RX0 9 "DotCover$Layer" "xs" "[I", Cond.methodLink RX0 74 yX0_leftOfEdge, Cond.static yX0_leftOfEdge]
def wsX0_wholeDots_r2 : List Cond := [Cond.code yX0_leftOfEdge cX0_leftOfEdge 14 (some .long), Cond.methodLink RX0 53 Lib.Math.max.name, Cond.static Lib.Math.max.name, Cond.code Lib.Math.max.name Lib.Math.max.code 2 (some .int), Cond.methodLink RX0 47 Lib.Math.min.name, Cond.static Lib.Math.min.name, Cond.code Lib.Math.min.name Lib.Math.min.code 2 (some .int), Cond.methodLink RX0 78 Lib.Math.abs.name, Cond.static Lib.Math.abs.name, Cond.code Lib.Math.abs.name Lib.Math.abs.code 1 (some .int), Cond.methodLink RX0 81 yX0_beforeEdge, Cond.static yX0_beforeEdge, Cond.code yX0_beforeEdge cX0_beforeEdge 6 (some .long), Cond.constantLong RX0 85 (27720)]
def wsX0_wholeDots : List Cond := .code yX0_wholeDots cX0_wholeDots 8 (some .int) :: ((wsX0_wholeDots_r1 ++ wsX0_wholeDots_r2) ++ wsX00)
def wsX0_bestMove_r1 : List Cond := [Cond.fieldLink RX0 9 "DotCover$Layer" "xs" "[I", Cond.fieldLink RX0 15 "DotCover$Layer" "ys" "[I", Cond.methodLink RX0 36 yX0_least, Cond.instanceMethod yX0_least, Cond.selects RX0 yX0_least yX0_least, Cond.initialized RX0, Cond.code yX0_least cX0_least 4 (some .int), Cond.fieldLink RX0 18 "DotCover$Layer" "size" "I", Cond.methodLink RX0 47 Lib.Math.min.name, Cond.static Lib.Math.min.name, Cond.initialized "java/lang/Math", Cond.code Lib.Math.min.name Lib.Math.min.code 2 (some .int), Cond.methodLink RX0 40 yX0_greatest, Cond.instanceMethod yX0_greatest, Cond.selects RX0 yX0_greatest yX0_greatest, Cond.code yX0_greatest cX0_greatest 4 (some .int), Cond.methodLink RX0 53 Lib.Math.max.name, Cond.static Lib.Math.max.name, Cond.code Lib.Math.max.name Lib.Math.max.code 2 (some .int), Cond.methodLink RX0 43 yX0_wholeDots, Cond.instanceMethod yX0_wholeDots, Cond.selects RX0 yX0_wholeDots yX0_wholeDots, Cond.code yX0_wholeDots cX0_wholeDots 8 (some .int), Cond.constantLong RX0 60 (498960)]
def wsX0_bestMove_r2 : List Cond := [Cond.methodLink RX0 56 yX0_coverParts, Cond.instanceMethod yX0_coverParts, Cond.selects RX0 yX0_coverParts yX0_coverParts, Cond.code yX0_coverParts cX0_coverParts 8 (some .long), Cond.methodLink RX0 65 Lib.MathLoose.abs_long.x, Cond.static Lib.MathLoose.abs_long.x, Cond.code Lib.MathLoose.abs_long.x Lib.MathLoose.abs_long.code 2 (some .long), Cond.fieldLink RX0 22 "DotCover$Layer" "folding" "I", Cond.methodLink RX0 69 Lib.MathLoose.min_long.x, Cond.static Lib.MathLoose.min_long.x, Cond.code Lib.MathLoose.min_long.x Lib.MathLoose.min_long.code 4 (some .long), Cond.constantLong RX0 72 (997920), Cond.methodLink RX0 62 yX0_rawParts, Cond.instanceMethod yX0_rawParts, Cond.selects RX0 yX0_rawParts yX0_rawParts, Cond.code yX0_rawParts cX0_rawParts 10 (some .long), Cond.methodLink RX0 74 yX0_leftOfEdge, Cond.static yX0_leftOfEdge, Cond.code yX0_leftOfEdge cX0_leftOfEdge 14 (some .long), Cond.methodLink RX0 78 Lib.Math.abs.name, Cond.static Lib.Math.abs.name, Cond.code Lib.Math.abs.name Lib.Math.abs.code 1 (some .int), Cond.methodLink RX0 81 yX0_beforeEdge, Cond.static yX0_beforeEdge]
def wsX0_bestMove_r3 : List Cond := [Cond.code yX0_beforeEdge cX0_beforeEdge 6 (some .long), Cond.constantLong RX0 85 (27720)]
def wsX0_bestMove : List Cond := .code yX0_bestMove cX0_bestMove 13 (some .int) :: ((wsX0_bestMove_r1 ++ (wsX0_bestMove_r2 ++ wsX0_bestMove_r3)) ++ wsX00)
def wsX1_init : List Cond := .code yX1_init cX1_init 2 none :: ([.methodLink RX1 3 objectInit, .instanceMethod objectInit, .code objectInit ⟨#[0xb1]⟩ 1 none, .classLink RX1 9 RX0, .fieldLink RX1 11 "DotCover$Scene" "layers" "[LDotCover$Layer;", .instantiable RX0 4, .initialized RX0, .methodLink RX1 17 yX0_init, .instanceMethod yX0_init, .code yX0_init cX0_init 1 none, .methodLink RX0 3 objectInit, .arrayClass .int, .fieldLink RX0 9 "DotCover$Layer" "xs" "[I", .fieldLink RX0 15 "DotCover$Layer" "ys" "[I", .fieldLink RX0 18 "DotCover$Layer" "size" "I", .fieldLink RX0 22 "DotCover$Layer" "folding" "I"] ++ wsX10 ++ wsX00)
def wsX1_layerOf : List Cond := .code yX1_layerOf cX1_layerOf 2 (some (.object "DotCover$Layer")) :: ([.fieldLink RX1 11 "DotCover$Scene" "layers" "[LDotCover$Layer;", .static yX2_within, .initialized RX2, .code yX2_within cX2_within 3 (some .boolean)] ++ wsX10)
def wsX1_copyFrom : List Cond := .code yX1_copyFrom cX1_copyFrom 3 none :: ([.fieldLink RX1 11 "DotCover$Scene" "layers" "[LDotCover$Layer;", .methodLink RX1 22 yX0_copyFrom, .instanceMethod yX0_copyFrom, .selects RX0 yX0_copyFrom yX0_copyFrom, .initialized RX0, .code yX0_copyFrom cX0_copyFrom 3 none, .fieldLink RX0 9 "DotCover$Layer" "xs" "[I", .fieldLink RX0 15 "DotCover$Layer" "ys" "[I", .fieldLink RX0 18 "DotCover$Layer" "size" "I", .fieldLink RX0 22 "DotCover$Layer" "folding" "I"] ++ wsX10 ++ wsX00)
def wsX1_pointsOfAll : List Cond := .code yX1_pointsOfAll cX1_pointsOfAll 3 (some .int) :: ([.fieldLink RX1 11 "DotCover$Scene" "layers" "[LDotCover$Layer;"] ++ wsX10 ++ wsX00)
def wsX1_togetherParts_r1 : List Cond := [Cond.constantLong RX1 30 (498960), Cond.fieldLink RX1 11 "DotCover$Scene" "layers" "[LDotCover$Layer;", Cond.constantLong RX1 36 (124221621275136000), Cond.methodLink RX1 32 yX0_coverParts, Cond.instanceMethod yX0_coverParts, Cond.selects RX0 yX0_coverParts yX0_coverParts, Cond.initialized RX0, Cond.code yX0_coverParts cX0_coverParts 8 (some .long), Cond.methodLink RX0 65 Lib.MathLoose.abs_long.x, Cond.static Lib.MathLoose.abs_long.x, Cond.initialized "java/lang/Math", Cond.code Lib.MathLoose.abs_long.x Lib.MathLoose.abs_long.code 2 (some .long), Cond.fieldLink RX0 22 "DotCover$Layer" "folding" "I", Cond.constantLong RX0 60 (498960), Cond.methodLink RX0 69 Lib.MathLoose.min_long.x, Cond.static Lib.MathLoose.min_long.x, Cond.code Lib.MathLoose.min_long.x Lib.MathLoose.min_long.code 4 (some .long), Cond.constantLong RX0 72 (997920), Cond.methodLink RX0 62 yX0_rawParts, Cond.instanceMethod yX0_rawParts, Cond.selects RX0 yX0_rawParts yX0_rawParts, Cond.code yX0_rawParts cX0_rawParts 10 (some .long), Cond.fieldLink RX0 18 "DotCover$Layer" "size" "I", Cond.fieldLink RX0 15 "DotCover$Layer" "ys" "[I"]
def wsX1_togetherParts_r2 : List Cond := [Cond.fieldLink RX0 9 "DotCover$Layer" "xs" "[I", Cond.methodLink RX0 74 yX0_leftOfEdge, Cond.static yX0_leftOfEdge, Cond.code yX0_leftOfEdge cX0_leftOfEdge 14 (some .long), Cond.methodLink RX0 53 Lib.Math.max.name, Cond.static Lib.Math.max.name, Cond.code Lib.Math.max.name Lib.Math.max.code 2 (some .int), Cond.methodLink RX0 47 Lib.Math.min.name, Cond.static Lib.Math.min.name, Cond.code Lib.Math.min.name Lib.Math.min.code 2 (some .int), Cond.methodLink RX0 78 Lib.Math.abs.name, Cond.static Lib.Math.abs.name, Cond.code Lib.Math.abs.name Lib.Math.abs.code 1 (some .int), Cond.methodLink RX0 81 yX0_beforeEdge, Cond.static yX0_beforeEdge, Cond.code yX0_beforeEdge cX0_beforeEdge 6 (some .long), Cond.constantLong RX0 85 (27720)]
def wsX1_togetherParts : List Cond := .code yX1_togetherParts cX1_togetherParts 5 (some .long) :: ((wsX1_togetherParts_r1 ++ wsX1_togetherParts_r2) ++ wsX10 ++ wsX00)
def wsX1_mostCoveredDot_r1 : List Cond := [Cond.methodLink RX1 38 yX1_togetherParts, Cond.instanceMethod yX1_togetherParts, Cond.selects RX1 yX1_togetherParts yX1_togetherParts, Cond.initialized RX1, Cond.code yX1_togetherParts cX1_togetherParts 5 (some .long), Cond.constantLong RX1 30 (498960), Cond.fieldLink RX1 11 "DotCover$Scene" "layers" "[LDotCover$Layer;", Cond.constantLong RX1 36 (124221621275136000), Cond.methodLink RX1 32 yX0_coverParts, Cond.instanceMethod yX0_coverParts, Cond.selects RX0 yX0_coverParts yX0_coverParts, Cond.initialized RX0, Cond.code yX0_coverParts cX0_coverParts 8 (some .long), Cond.methodLink RX0 65 Lib.MathLoose.abs_long.x, Cond.static Lib.MathLoose.abs_long.x, Cond.initialized "java/lang/Math", Cond.code Lib.MathLoose.abs_long.x Lib.MathLoose.abs_long.code 2 (some .long), Cond.fieldLink RX0 22 "DotCover$Layer" "folding" "I", Cond.constantLong RX0 60 (498960), Cond.methodLink RX0 69 Lib.MathLoose.min_long.x, Cond.static Lib.MathLoose.min_long.x, Cond.code Lib.MathLoose.min_long.x Lib.MathLoose.min_long.code 4 (some .long), Cond.constantLong RX0 72 (997920), Cond.methodLink RX0 62 yX0_rawParts]
def wsX1_mostCoveredDot_r2 : List Cond := [Cond.instanceMethod yX0_rawParts, Cond.selects RX0 yX0_rawParts yX0_rawParts, Cond.code yX0_rawParts cX0_rawParts 10 (some .long), Cond.fieldLink RX0 18 "DotCover$Layer" "size" "I", Cond.fieldLink RX0 15 "DotCover$Layer" "ys" "[I", Cond.fieldLink RX0 9 "DotCover$Layer" "xs" "[I", Cond.methodLink RX0 74 yX0_leftOfEdge, Cond.static yX0_leftOfEdge, Cond.code yX0_leftOfEdge cX0_leftOfEdge 14 (some .long), Cond.methodLink RX0 53 Lib.Math.max.name, Cond.static Lib.Math.max.name, Cond.code Lib.Math.max.name Lib.Math.max.code 2 (some .int), Cond.methodLink RX0 47 Lib.Math.min.name, Cond.static Lib.Math.min.name, Cond.code Lib.Math.min.name Lib.Math.min.code 2 (some .int), Cond.methodLink RX0 78 Lib.Math.abs.name, Cond.static Lib.Math.abs.name, Cond.code Lib.Math.abs.name Lib.Math.abs.code 1 (some .int), Cond.methodLink RX0 81 yX0_beforeEdge, Cond.static yX0_beforeEdge, Cond.code yX0_beforeEdge cX0_beforeEdge 6 (some .long), Cond.constantLong RX0 85 (27720)]
def wsX1_mostCoveredDot : List Cond := .code yX1_mostCoveredDot cX1_mostCoveredDot 7 (some .int) :: ((wsX1_mostCoveredDot_r1 ++ wsX1_mostCoveredDot_r2) ++ wsX10 ++ wsX00)
def wsX1_leastCoveredDot_r1 : List Cond := [Cond.methodLink RX1 38 yX1_togetherParts, Cond.instanceMethod yX1_togetherParts, Cond.selects RX1 yX1_togetherParts yX1_togetherParts, Cond.initialized RX1, Cond.code yX1_togetherParts cX1_togetherParts 5 (some .long), Cond.constantLong RX1 30 (498960), Cond.fieldLink RX1 11 "DotCover$Scene" "layers" "[LDotCover$Layer;", Cond.constantLong RX1 36 (124221621275136000), Cond.methodLink RX1 32 yX0_coverParts, Cond.instanceMethod yX0_coverParts, Cond.selects RX0 yX0_coverParts yX0_coverParts, Cond.initialized RX0, Cond.code yX0_coverParts cX0_coverParts 8 (some .long), Cond.methodLink RX0 65 Lib.MathLoose.abs_long.x, Cond.static Lib.MathLoose.abs_long.x, Cond.initialized "java/lang/Math", Cond.code Lib.MathLoose.abs_long.x Lib.MathLoose.abs_long.code 2 (some .long), Cond.fieldLink RX0 22 "DotCover$Layer" "folding" "I", Cond.constantLong RX0 60 (498960), Cond.methodLink RX0 69 Lib.MathLoose.min_long.x, Cond.static Lib.MathLoose.min_long.x, Cond.code Lib.MathLoose.min_long.x Lib.MathLoose.min_long.code 4 (some .long), Cond.constantLong RX0 72 (997920), Cond.methodLink RX0 62 yX0_rawParts]
def wsX1_leastCoveredDot_r2 : List Cond := [Cond.instanceMethod yX0_rawParts, Cond.selects RX0 yX0_rawParts yX0_rawParts, Cond.code yX0_rawParts cX0_rawParts 10 (some .long), Cond.fieldLink RX0 18 "DotCover$Layer" "size" "I", Cond.fieldLink RX0 15 "DotCover$Layer" "ys" "[I", Cond.fieldLink RX0 9 "DotCover$Layer" "xs" "[I", Cond.methodLink RX0 74 yX0_leftOfEdge, Cond.static yX0_leftOfEdge, Cond.code yX0_leftOfEdge cX0_leftOfEdge 14 (some .long), Cond.methodLink RX0 53 Lib.Math.max.name, Cond.static Lib.Math.max.name, Cond.code Lib.Math.max.name Lib.Math.max.code 2 (some .int), Cond.methodLink RX0 47 Lib.Math.min.name, Cond.static Lib.Math.min.name, Cond.code Lib.Math.min.name Lib.Math.min.code 2 (some .int), Cond.methodLink RX0 78 Lib.Math.abs.name, Cond.static Lib.Math.abs.name, Cond.code Lib.Math.abs.name Lib.Math.abs.code 1 (some .int), Cond.methodLink RX0 81 yX0_beforeEdge, Cond.static yX0_beforeEdge, Cond.code yX0_beforeEdge cX0_beforeEdge 6 (some .long), Cond.constantLong RX0 85 (27720)]
def wsX1_leastCoveredDot : List Cond := .code yX1_leastCoveredDot cX1_leastCoveredDot 7 (some .int) :: ((wsX1_leastCoveredDot_r1 ++ wsX1_leastCoveredDot_r2) ++ wsX10 ++ wsX00)
def wsX1_dotsWithTogether_r1 : List Cond := [Cond.methodLink RX1 38 yX1_togetherParts, Cond.instanceMethod yX1_togetherParts, Cond.selects RX1 yX1_togetherParts yX1_togetherParts, Cond.initialized RX1, Cond.code yX1_togetherParts cX1_togetherParts 5 (some .long), Cond.constantLong RX1 30 (498960), Cond.fieldLink RX1 11 "DotCover$Scene" "layers" "[LDotCover$Layer;", Cond.constantLong RX1 36 (124221621275136000), Cond.methodLink RX1 32 yX0_coverParts, Cond.instanceMethod yX0_coverParts, Cond.selects RX0 yX0_coverParts yX0_coverParts, Cond.initialized RX0, Cond.code yX0_coverParts cX0_coverParts 8 (some .long), Cond.methodLink RX0 65 Lib.MathLoose.abs_long.x, Cond.static Lib.MathLoose.abs_long.x, Cond.initialized "java/lang/Math", Cond.code Lib.MathLoose.abs_long.x Lib.MathLoose.abs_long.code 2 (some .long), Cond.fieldLink RX0 22 "DotCover$Layer" "folding" "I", Cond.constantLong RX0 60 (498960), Cond.methodLink RX0 69 Lib.MathLoose.min_long.x, Cond.static Lib.MathLoose.min_long.x, Cond.code Lib.MathLoose.min_long.x Lib.MathLoose.min_long.code 4 (some .long), Cond.constantLong RX0 72 (997920), Cond.methodLink RX0 62 yX0_rawParts]
def wsX1_dotsWithTogether_r2 : List Cond := [Cond.instanceMethod yX0_rawParts, Cond.selects RX0 yX0_rawParts yX0_rawParts, Cond.code yX0_rawParts cX0_rawParts 10 (some .long), Cond.fieldLink RX0 18 "DotCover$Layer" "size" "I", Cond.fieldLink RX0 15 "DotCover$Layer" "ys" "[I", Cond.fieldLink RX0 9 "DotCover$Layer" "xs" "[I", Cond.methodLink RX0 74 yX0_leftOfEdge, Cond.static yX0_leftOfEdge, Cond.code yX0_leftOfEdge cX0_leftOfEdge 14 (some .long), Cond.methodLink RX0 53 Lib.Math.max.name, Cond.static Lib.Math.max.name, Cond.code Lib.Math.max.name Lib.Math.max.code 2 (some .int), Cond.methodLink RX0 47 Lib.Math.min.name, Cond.static Lib.Math.min.name, Cond.code Lib.Math.min.name Lib.Math.min.code 2 (some .int), Cond.methodLink RX0 78 Lib.Math.abs.name, Cond.static Lib.Math.abs.name, Cond.code Lib.Math.abs.name Lib.Math.abs.code 1 (some .int), Cond.methodLink RX0 81 yX0_beforeEdge, Cond.static yX0_beforeEdge, Cond.code yX0_beforeEdge cX0_beforeEdge 6 (some .long), Cond.constantLong RX0 85 (27720)]
def wsX1_dotsWithTogether : List Cond := .code yX1_dotsWithTogether cX1_dotsWithTogether 5 (some .int) :: ((wsX1_dotsWithTogether_r1 ++ wsX1_dotsWithTogether_r2) ++ wsX10 ++ wsX00)
def wsX2_init_r1 : List Cond := [Cond.methodLink RX2 3 objectInit, Cond.instanceMethod objectInit, Cond.code objectInit ⟨#[0xb1]⟩ 1 none, Cond.classLink RX2 9 RX1, Cond.instantiable RX1 1, Cond.initialized RX1, Cond.fieldLink RX2 12 "DotCover" "now" "LDotCover$Scene;", Cond.fieldLink RX2 16 "DotCover" "images" "[LDotCover$Scene;", Cond.fieldLink RX2 20 "DotCover" "keptImages" "I", Cond.methodLink RX2 11 yX1_init, Cond.instanceMethod yX1_init, Cond.code yX1_init cX1_init 2 none, Cond.methodLink RX1 3 objectInit, Cond.classLink RX1 9 RX0, Cond.fieldLink RX1 11 "DotCover$Scene" "layers" "[LDotCover$Layer;", Cond.instantiable RX0 4, Cond.initialized RX0, Cond.methodLink RX1 17 yX0_init, Cond.instanceMethod yX0_init, Cond.code yX0_init cX0_init 1 none, Cond.methodLink RX0 3 objectInit, Cond.arrayClass .int, Cond.fieldLink RX0 9 "DotCover$Layer" "xs" "[I", Cond.fieldLink RX0 15 "DotCover$Layer" "ys" "[I"]
def wsX2_init_r2 : List Cond := [Cond.fieldLink RX0 18 "DotCover$Layer" "size" "I", Cond.fieldLink RX0 22 "DotCover$Layer" "folding" "I"]
def wsX2_init : List Cond := .code yX2_init cX2_init 2 none :: ((wsX2_init_r1 ++ wsX2_init_r2) ++ wsX10 ++ wsX20 ++ wsX00)
def wsX2_point : List Cond := .code yX2_point cX2_point 5 (some .int) :: ([.fieldLink RX2 12 "DotCover" "now" "LDotCover$Scene;", .methodLink RX2 24 yX1_layerOf, .instanceMethod yX1_layerOf, .selects RX1 yX1_layerOf yX1_layerOf, .initialized RX1, .code yX1_layerOf cX1_layerOf 2 (some (.object "DotCover$Layer")), .fieldLink RX1 11 "DotCover$Scene" "layers" "[LDotCover$Layer;", .static yX2_within, .initialized RX2, .code yX2_within cX2_within 3 (some .boolean), .methodLink RX2 28 yX2_inField, .static yX2_inField, .code yX2_inField cX2_inField 1 (some .boolean), .methodLink RX2 51 yX2_within, .methodLink RX2 37 yX0_add, .instanceMethod yX0_add, .selects RX0 yX0_add yX0_add, .initialized RX0, .code yX0_add cX0_add 4 (some .int), .fieldLink RX0 18 "DotCover$Layer" "size" "I", .fieldLink RX0 9 "DotCover$Layer" "xs" "[I", .fieldLink RX0 15 "DotCover$Layer" "ys" "[I"] ++ wsX20 ++ wsX00 ++ wsX10)
def wsX2_pop : List Cond := .code yX2_pop cX2_pop 3 (some .int) :: ([.fieldLink RX2 12 "DotCover" "now" "LDotCover$Scene;", .methodLink RX2 24 yX1_layerOf, .instanceMethod yX1_layerOf, .selects RX1 yX1_layerOf yX1_layerOf, .initialized RX1, .code yX1_layerOf cX1_layerOf 2 (some (.object "DotCover$Layer")), .fieldLink RX1 11 "DotCover$Scene" "layers" "[LDotCover$Layer;", .static yX2_within, .initialized RX2, .code yX2_within cX2_within 3 (some .boolean)] ++ wsX20 ++ wsX00 ++ wsX10)
def wsX2_set : List Cond := .code yX2_set cX2_set 7 (some .int) :: ([.fieldLink RX2 12 "DotCover" "now" "LDotCover$Scene;", .methodLink RX2 24 yX1_layerOf, .instanceMethod yX1_layerOf, .selects RX1 yX1_layerOf yX1_layerOf, .initialized RX1, .code yX1_layerOf cX1_layerOf 2 (some (.object "DotCover$Layer")), .fieldLink RX1 11 "DotCover$Scene" "layers" "[LDotCover$Layer;", .static yX2_within, .initialized RX2, .code yX2_within cX2_within 3 (some .boolean), .methodLink RX2 41 yX0_has, .instanceMethod yX0_has, .selects RX0 yX0_has yX0_has, .initialized RX0, .code yX0_has cX0_has 2 (some .boolean), .fieldLink RX0 18 "DotCover$Layer" "size" "I", .methodLink RX2 28 yX2_inField, .static yX2_inField, .code yX2_inField cX2_inField 1 (some .boolean), .methodLink RX2 51 yX2_within] ++ wsX20 ++ wsX00 ++ wsX10)
def wsX2_rule : List Cond := .code yX2_rule cX2_rule 5 (some .int) :: ([.fieldLink RX2 12 "DotCover" "now" "LDotCover$Scene;", .methodLink RX2 24 yX1_layerOf, .instanceMethod yX1_layerOf, .selects RX1 yX1_layerOf yX1_layerOf, .initialized RX1, .code yX1_layerOf cX1_layerOf 2 (some (.object "DotCover$Layer")), .fieldLink RX1 11 "DotCover$Scene" "layers" "[LDotCover$Layer;", .static yX2_within, .initialized RX2, .code yX2_within cX2_within 3 (some .boolean), .methodLink RX2 51 yX2_within] ++ wsX20 ++ wsX00 ++ wsX10)
def wsX2_move_r1 : List Cond := [Cond.fieldLink RX2 12 "DotCover" "now" "LDotCover$Scene;", Cond.methodLink RX2 24 yX1_layerOf, Cond.instanceMethod yX1_layerOf, Cond.selects RX1 yX1_layerOf yX1_layerOf, Cond.initialized RX1, Cond.code yX1_layerOf cX1_layerOf 2 (some (.object "DotCover$Layer")), Cond.fieldLink RX1 11 "DotCover$Scene" "layers" "[LDotCover$Layer;", Cond.static yX2_within, Cond.initialized RX2, Cond.code yX2_within cX2_within 3 (some .boolean), Cond.methodLink RX2 51 yX2_within, Cond.methodLink RX2 58 yX0_staysInField, Cond.instanceMethod yX0_staysInField, Cond.selects RX0 yX0_staysInField yX0_staysInField, Cond.initialized RX0, Cond.code yX0_staysInField cX0_staysInField 4 (some .boolean), Cond.fieldLink RX0 18 "DotCover$Layer" "size" "I", Cond.fieldLink RX0 9 "DotCover$Layer" "xs" "[I", Cond.fieldLink RX0 15 "DotCover$Layer" "ys" "[I", Cond.static yX2_inField, Cond.code yX2_inField cX2_inField 1 (some .boolean), Cond.methodLink RX2 62 yX0_shift, Cond.instanceMethod yX0_shift, Cond.selects RX0 yX0_shift yX0_shift]
def wsX2_move_r2 : List Cond := [Cond.code yX0_shift cX0_shift 4 none]
def wsX2_move : List Cond := .code yX2_move cX2_move 5 (some .int) :: ((wsX2_move_r1 ++ wsX2_move_r2) ++ wsX20 ++ wsX00 ++ wsX10)
def wsX2_back : List Cond := .code yX2_back cX2_back 3 (some .int) :: ([.fieldLink RX2 12 "DotCover" "now" "LDotCover$Scene;", .methodLink RX2 24 yX1_layerOf, .instanceMethod yX1_layerOf, .selects RX1 yX1_layerOf yX1_layerOf, .initialized RX1, .code yX1_layerOf cX1_layerOf 2 (some (.object "DotCover$Layer")), .fieldLink RX1 11 "DotCover$Scene" "layers" "[LDotCover$Layer;", .static yX2_within, .initialized RX2, .code yX2_within cX2_within 3 (some .boolean), .methodLink RX2 66 yX0_reverse, .instanceMethod yX0_reverse, .selects RX0 yX0_reverse yX0_reverse, .initialized RX0, .code yX0_reverse cX0_reverse 5 none, .methodLink RX0 29 yX0_swap, .instanceMethod yX0_swap, .selects RX0 yX0_swap yX0_swap, .code yX0_swap cX0_swap 5 none, .fieldLink RX0 9 "DotCover$Layer" "xs" "[I", .fieldLink RX0 15 "DotCover$Layer" "ys" "[I"] ++ wsX20 ++ wsX00 ++ wsX10)
def wsX2_begin_r1 : List Cond := [Cond.fieldLink RX2 12 "DotCover" "now" "LDotCover$Scene;", Cond.methodLink RX2 24 yX1_layerOf, Cond.instanceMethod yX1_layerOf, Cond.selects RX1 yX1_layerOf yX1_layerOf, Cond.initialized RX1, Cond.code yX1_layerOf cX1_layerOf 2 (some (.object "DotCover$Layer")), Cond.fieldLink RX1 11 "DotCover$Scene" "layers" "[LDotCover$Layer;", Cond.static yX2_within, Cond.initialized RX2, Cond.code yX2_within cX2_within 3 (some .boolean), Cond.methodLink RX2 41 yX0_has, Cond.instanceMethod yX0_has, Cond.selects RX0 yX0_has yX0_has, Cond.initialized RX0, Cond.code yX0_has cX0_has 2 (some .boolean), Cond.fieldLink RX0 18 "DotCover$Layer" "size" "I", Cond.methodLink RX2 69 yX0_startAt, Cond.instanceMethod yX0_startAt, Cond.selects RX0 yX0_startAt yX0_startAt, Cond.code yX0_startAt cX0_startAt 2 none, Cond.methodLink RX0 33 yX0_reverse, Cond.instanceMethod yX0_reverse, Cond.selects RX0 yX0_reverse yX0_reverse, Cond.code yX0_reverse cX0_reverse 5 none]
def wsX2_begin_r2 : List Cond := [Cond.methodLink RX0 29 yX0_swap, Cond.instanceMethod yX0_swap, Cond.selects RX0 yX0_swap yX0_swap, Cond.code yX0_swap cX0_swap 5 none, Cond.fieldLink RX0 9 "DotCover$Layer" "xs" "[I", Cond.fieldLink RX0 15 "DotCover$Layer" "ys" "[I"]
def wsX2_begin : List Cond := .code yX2_begin cX2_begin 4 (some .int) :: ((wsX2_begin_r1 ++ wsX2_begin_r2) ++ wsX20 ++ wsX00 ++ wsX10)
def wsX2_at : List Cond := .code yX2_at cX2_at 5 (some .int) :: ([.fieldLink RX2 12 "DotCover" "now" "LDotCover$Scene;", .methodLink RX2 24 yX1_layerOf, .instanceMethod yX1_layerOf, .selects RX1 yX1_layerOf yX1_layerOf, .initialized RX1, .code yX1_layerOf cX1_layerOf 2 (some (.object "DotCover$Layer")), .fieldLink RX1 11 "DotCover$Scene" "layers" "[LDotCover$Layer;", .static yX2_within, .initialized RX2, .code yX2_within cX2_within 3 (some .boolean), .methodLink RX2 41 yX0_has, .instanceMethod yX0_has, .selects RX0 yX0_has yX0_has, .initialized RX0, .code yX0_has cX0_has 2 (some .boolean), .fieldLink RX0 18 "DotCover$Layer" "size" "I", .methodLink RX2 51 yX2_within] ++ wsX20 ++ wsX00 ++ wsX10)
def wsX2_isDot : List Cond := .code yX2_isDot cX2_isDot 1 (some .boolean) :: ([.methodLink RX2 51 yX2_within, .static yX2_within, .initialized RX2, .code yX2_within cX2_within 3 (some .boolean)])
def wsX2_greatestDivisor : List Cond := .code yX2_greatestDivisor cX2_greatestDivisor 11 (some .long) :: ([])
def wsX2_lowestTerms : List Cond := .code yX2_lowestTerms cX2_lowestTerms 7 (some .long) :: ([.methodLink RX2 127 Lib.MathLoose.abs_long.x, .static Lib.MathLoose.abs_long.x, .initialized "java/lang/Math", .code Lib.MathLoose.abs_long.x Lib.MathLoose.abs_long.code 2 (some .long), .methodLink RX2 133 yX2_greatestDivisor, .static yX2_greatestDivisor, .initialized RX2, .code yX2_greatestDivisor cX2_greatestDivisor 11 (some .long)])
def wsX2_raw_r1 : List Cond := [Cond.fieldLink RX2 12 "DotCover" "now" "LDotCover$Scene;", Cond.constantLong RX2 76 (-1000000000000000001), Cond.constantLong RX2 78 (-1000000000000000002), Cond.constantLong RX2 84 (498960), Cond.methodLink RX2 24 yX1_layerOf, Cond.instanceMethod yX1_layerOf, Cond.selects RX1 yX1_layerOf yX1_layerOf, Cond.initialized RX1, Cond.code yX1_layerOf cX1_layerOf 2 (some (.object "DotCover$Layer")), Cond.fieldLink RX1 11 "DotCover$Scene" "layers" "[LDotCover$Layer;", Cond.static yX2_within, Cond.initialized RX2, Cond.code yX2_within cX2_within 3 (some .boolean), Cond.methodLink RX2 73 yX2_isDot, Cond.static yX2_isDot, Cond.code yX2_isDot cX2_isDot 1 (some .boolean), Cond.methodLink RX2 51 yX2_within, Cond.methodLink RX2 80 yX0_rawParts, Cond.instanceMethod yX0_rawParts, Cond.selects RX0 yX0_rawParts yX0_rawParts, Cond.initialized RX0, Cond.code yX0_rawParts cX0_rawParts 10 (some .long), Cond.fieldLink RX0 18 "DotCover$Layer" "size" "I", Cond.fieldLink RX0 15 "DotCover$Layer" "ys" "[I"]
def wsX2_raw_r2 : List Cond := [Cond.fieldLink RX0 9 "DotCover$Layer" "xs" "[I", Cond.methodLink RX0 74 yX0_leftOfEdge, Cond.static yX0_leftOfEdge, Cond.code yX0_leftOfEdge cX0_leftOfEdge 14 (some .long), Cond.methodLink RX0 53 Lib.Math.max.name, Cond.static Lib.Math.max.name, Cond.initialized "java/lang/Math", Cond.code Lib.Math.max.name Lib.Math.max.code 2 (some .int), Cond.methodLink RX0 47 Lib.Math.min.name, Cond.static Lib.Math.min.name, Cond.code Lib.Math.min.name Lib.Math.min.code 2 (some .int), Cond.methodLink RX0 78 Lib.Math.abs.name, Cond.static Lib.Math.abs.name, Cond.code Lib.Math.abs.name Lib.Math.abs.code 1 (some .int), Cond.methodLink RX0 81 yX0_beforeEdge, Cond.static yX0_beforeEdge, Cond.code yX0_beforeEdge cX0_beforeEdge 6 (some .long), Cond.constantLong RX0 85 (27720), Cond.methodLink RX2 86 yX2_lowestTerms, Cond.static yX2_lowestTerms, Cond.code yX2_lowestTerms cX2_lowestTerms 7 (some .long), Cond.methodLink RX2 127 Lib.MathLoose.abs_long.x, Cond.static Lib.MathLoose.abs_long.x, Cond.code Lib.MathLoose.abs_long.x Lib.MathLoose.abs_long.code 2 (some .long)]
def wsX2_raw_r3 : List Cond := [Cond.methodLink RX2 133 yX2_greatestDivisor, Cond.static yX2_greatestDivisor, Cond.code yX2_greatestDivisor cX2_greatestDivisor 11 (some .long)]
def wsX2_raw : List Cond := .code yX2_raw cX2_raw 5 (some .long) :: ((wsX2_raw_r1 ++ (wsX2_raw_r2 ++ wsX2_raw_r3)) ++ wsX20 ++ wsX10 ++ wsX00)
def wsX2_cover_r1 : List Cond := [Cond.fieldLink RX2 12 "DotCover" "now" "LDotCover$Scene;", Cond.constantLong RX2 90 (-1), Cond.constantLong RX2 92 (-2), Cond.constantLong RX2 84 (498960), Cond.methodLink RX2 24 yX1_layerOf, Cond.instanceMethod yX1_layerOf, Cond.selects RX1 yX1_layerOf yX1_layerOf, Cond.initialized RX1, Cond.code yX1_layerOf cX1_layerOf 2 (some (.object "DotCover$Layer")), Cond.fieldLink RX1 11 "DotCover$Scene" "layers" "[LDotCover$Layer;", Cond.static yX2_within, Cond.initialized RX2, Cond.code yX2_within cX2_within 3 (some .boolean), Cond.methodLink RX2 73 yX2_isDot, Cond.static yX2_isDot, Cond.code yX2_isDot cX2_isDot 1 (some .boolean), Cond.methodLink RX2 51 yX2_within, Cond.methodLink RX2 94 yX0_coverParts, Cond.instanceMethod yX0_coverParts, Cond.selects RX0 yX0_coverParts yX0_coverParts, Cond.initialized RX0, Cond.code yX0_coverParts cX0_coverParts 8 (some .long), Cond.methodLink RX0 65 Lib.MathLoose.abs_long.x, Cond.static Lib.MathLoose.abs_long.x]
def wsX2_cover_r2 : List Cond := [Cond.initialized "java/lang/Math", Cond.code Lib.MathLoose.abs_long.x Lib.MathLoose.abs_long.code 2 (some .long), Cond.fieldLink RX0 22 "DotCover$Layer" "folding" "I", Cond.constantLong RX0 60 (498960), Cond.methodLink RX0 69 Lib.MathLoose.min_long.x, Cond.static Lib.MathLoose.min_long.x, Cond.code Lib.MathLoose.min_long.x Lib.MathLoose.min_long.code 4 (some .long), Cond.constantLong RX0 72 (997920), Cond.methodLink RX0 62 yX0_rawParts, Cond.instanceMethod yX0_rawParts, Cond.selects RX0 yX0_rawParts yX0_rawParts, Cond.code yX0_rawParts cX0_rawParts 10 (some .long), Cond.fieldLink RX0 18 "DotCover$Layer" "size" "I", Cond.fieldLink RX0 15 "DotCover$Layer" "ys" "[I", Cond.fieldLink RX0 9 "DotCover$Layer" "xs" "[I", Cond.methodLink RX0 74 yX0_leftOfEdge, Cond.static yX0_leftOfEdge, Cond.code yX0_leftOfEdge cX0_leftOfEdge 14 (some .long), Cond.methodLink RX0 53 Lib.Math.max.name, Cond.static Lib.Math.max.name, Cond.code Lib.Math.max.name Lib.Math.max.code 2 (some .int), Cond.methodLink RX0 47 Lib.Math.min.name, Cond.static Lib.Math.min.name, Cond.code Lib.Math.min.name Lib.Math.min.code 2 (some .int)]
def wsX2_cover_r3 : List Cond := [Cond.methodLink RX0 78 Lib.Math.abs.name, Cond.static Lib.Math.abs.name, Cond.code Lib.Math.abs.name Lib.Math.abs.code 1 (some .int), Cond.methodLink RX0 81 yX0_beforeEdge, Cond.static yX0_beforeEdge, Cond.code yX0_beforeEdge cX0_beforeEdge 6 (some .long), Cond.constantLong RX0 85 (27720), Cond.methodLink RX2 86 yX2_lowestTerms, Cond.static yX2_lowestTerms, Cond.code yX2_lowestTerms cX2_lowestTerms 7 (some .long), Cond.methodLink RX2 127 Lib.MathLoose.abs_long.x, Cond.methodLink RX2 133 yX2_greatestDivisor, Cond.static yX2_greatestDivisor, Cond.code yX2_greatestDivisor cX2_greatestDivisor 11 (some .long)]
def wsX2_cover : List Cond := .code yX2_cover cX2_cover 5 (some .long) :: ((wsX2_cover_r1 ++ (wsX2_cover_r2 ++ wsX2_cover_r3)) ++ wsX20 ++ wsX10 ++ wsX00)
def wsX2_together_r1 : List Cond := [Cond.constantLong RX2 90 (-1), Cond.constantLong RX2 92 (-2), Cond.fieldLink RX2 12 "DotCover" "now" "LDotCover$Scene;", Cond.constantLong RX2 101 (124221621275136000), Cond.methodLink RX2 73 yX2_isDot, Cond.static yX2_isDot, Cond.initialized RX2, Cond.code yX2_isDot cX2_isDot 1 (some .boolean), Cond.methodLink RX2 51 yX2_within, Cond.static yX2_within, Cond.code yX2_within cX2_within 3 (some .boolean), Cond.methodLink RX2 97 yX1_togetherParts, Cond.instanceMethod yX1_togetherParts, Cond.selects RX1 yX1_togetherParts yX1_togetherParts, Cond.initialized RX1, Cond.code yX1_togetherParts cX1_togetherParts 5 (some .long), Cond.constantLong RX1 30 (498960), Cond.fieldLink RX1 11 "DotCover$Scene" "layers" "[LDotCover$Layer;", Cond.constantLong RX1 36 (124221621275136000), Cond.methodLink RX1 32 yX0_coverParts, Cond.instanceMethod yX0_coverParts, Cond.selects RX0 yX0_coverParts yX0_coverParts, Cond.initialized RX0, Cond.code yX0_coverParts cX0_coverParts 8 (some .long)]
def wsX2_together_r2 : List Cond := [Cond.methodLink RX0 65 Lib.MathLoose.abs_long.x, Cond.static Lib.MathLoose.abs_long.x, Cond.initialized "java/lang/Math", Cond.code Lib.MathLoose.abs_long.x Lib.MathLoose.abs_long.code 2 (some .long), Cond.fieldLink RX0 22 "DotCover$Layer" "folding" "I", Cond.constantLong RX0 60 (498960), Cond.methodLink RX0 69 Lib.MathLoose.min_long.x, Cond.static Lib.MathLoose.min_long.x, Cond.code Lib.MathLoose.min_long.x Lib.MathLoose.min_long.code 4 (some .long), Cond.constantLong RX0 72 (997920), Cond.methodLink RX0 62 yX0_rawParts, Cond.instanceMethod yX0_rawParts, Cond.selects RX0 yX0_rawParts yX0_rawParts, Cond.code yX0_rawParts cX0_rawParts 10 (some .long), Cond.fieldLink RX0 18 "DotCover$Layer" "size" "I", Cond.fieldLink RX0 15 "DotCover$Layer" "ys" "[I", Cond.fieldLink RX0 9 "DotCover$Layer" "xs" "[I", Cond.methodLink RX0 74 yX0_leftOfEdge, Cond.static yX0_leftOfEdge, Cond.code yX0_leftOfEdge cX0_leftOfEdge 14 (some .long), Cond.methodLink RX0 53 Lib.Math.max.name, Cond.static Lib.Math.max.name, Cond.code Lib.Math.max.name Lib.Math.max.code 2 (some .int), Cond.methodLink RX0 47 Lib.Math.min.name]
def wsX2_together_r3 : List Cond := [Cond.static Lib.Math.min.name, Cond.code Lib.Math.min.name Lib.Math.min.code 2 (some .int), Cond.methodLink RX0 78 Lib.Math.abs.name, Cond.static Lib.Math.abs.name, Cond.code Lib.Math.abs.name Lib.Math.abs.code 1 (some .int), Cond.methodLink RX0 81 yX0_beforeEdge, Cond.static yX0_beforeEdge, Cond.code yX0_beforeEdge cX0_beforeEdge 6 (some .long), Cond.constantLong RX0 85 (27720), Cond.methodLink RX2 86 yX2_lowestTerms, Cond.static yX2_lowestTerms, Cond.code yX2_lowestTerms cX2_lowestTerms 7 (some .long), Cond.methodLink RX2 127 Lib.MathLoose.abs_long.x, Cond.methodLink RX2 133 yX2_greatestDivisor, Cond.static yX2_greatestDivisor, Cond.code yX2_greatestDivisor cX2_greatestDivisor 11 (some .long)]
def wsX2_together : List Cond := .code yX2_together cX2_together 3 (some .long) :: ((wsX2_together_r1 ++ (wsX2_together_r2 ++ wsX2_together_r3)) ++ wsX20 ++ wsX10 ++ wsX00)
def wsX2_area_r1 : List Cond := [Cond.fieldLink RX2 12 "DotCover" "now" "LDotCover$Scene;", Cond.constantLong RX2 76 (-1000000000000000001), Cond.constantLong RX2 78 (-1000000000000000002), Cond.constantLong RX2 103 (55440), Cond.methodLink RX2 24 yX1_layerOf, Cond.instanceMethod yX1_layerOf, Cond.selects RX1 yX1_layerOf yX1_layerOf, Cond.initialized RX1, Cond.code yX1_layerOf cX1_layerOf 2 (some (.object "DotCover$Layer")), Cond.fieldLink RX1 11 "DotCover$Scene" "layers" "[LDotCover$Layer;", Cond.static yX2_within, Cond.initialized RX2, Cond.code yX2_within cX2_within 3 (some .boolean), Cond.methodLink RX2 51 yX2_within, Cond.methodLink RX2 80 yX0_rawParts, Cond.instanceMethod yX0_rawParts, Cond.selects RX0 yX0_rawParts yX0_rawParts, Cond.initialized RX0, Cond.code yX0_rawParts cX0_rawParts 10 (some .long), Cond.fieldLink RX0 18 "DotCover$Layer" "size" "I", Cond.fieldLink RX0 15 "DotCover$Layer" "ys" "[I", Cond.fieldLink RX0 9 "DotCover$Layer" "xs" "[I", Cond.methodLink RX0 74 yX0_leftOfEdge, Cond.static yX0_leftOfEdge]
def wsX2_area_r2 : List Cond := [Cond.code yX0_leftOfEdge cX0_leftOfEdge 14 (some .long), Cond.methodLink RX0 53 Lib.Math.max.name, Cond.static Lib.Math.max.name, Cond.initialized "java/lang/Math", Cond.code Lib.Math.max.name Lib.Math.max.code 2 (some .int), Cond.methodLink RX0 47 Lib.Math.min.name, Cond.static Lib.Math.min.name, Cond.code Lib.Math.min.name Lib.Math.min.code 2 (some .int), Cond.methodLink RX0 78 Lib.Math.abs.name, Cond.static Lib.Math.abs.name, Cond.code Lib.Math.abs.name Lib.Math.abs.code 1 (some .int), Cond.methodLink RX0 81 yX0_beforeEdge, Cond.static yX0_beforeEdge, Cond.code yX0_beforeEdge cX0_beforeEdge 6 (some .long), Cond.constantLong RX0 85 (27720), Cond.methodLink RX2 86 yX2_lowestTerms, Cond.static yX2_lowestTerms, Cond.code yX2_lowestTerms cX2_lowestTerms 7 (some .long), Cond.methodLink RX2 127 Lib.MathLoose.abs_long.x, Cond.static Lib.MathLoose.abs_long.x, Cond.code Lib.MathLoose.abs_long.x Lib.MathLoose.abs_long.code 2 (some .long), Cond.methodLink RX2 133 yX2_greatestDivisor, Cond.static yX2_greatestDivisor, Cond.code yX2_greatestDivisor cX2_greatestDivisor 11 (some .long)]
def wsX2_area : List Cond := .code yX2_area cX2_area 7 (some .long) :: ((wsX2_area_r1 ++ wsX2_area_r2) ++ wsX20 ++ wsX10 ++ wsX00)
def wsX2_enough_r1 : List Cond := [Cond.fieldLink RX2 12 "DotCover" "now" "LDotCover$Scene;", Cond.constantLong RX2 84 (498960), Cond.methodLink RX2 24 yX1_layerOf, Cond.instanceMethod yX1_layerOf, Cond.selects RX1 yX1_layerOf yX1_layerOf, Cond.initialized RX1, Cond.code yX1_layerOf cX1_layerOf 2 (some (.object "DotCover$Layer")), Cond.fieldLink RX1 11 "DotCover$Scene" "layers" "[LDotCover$Layer;", Cond.static yX2_within, Cond.initialized RX2, Cond.code yX2_within cX2_within 3 (some .boolean), Cond.methodLink RX2 51 yX2_within, Cond.methodLink RX2 94 yX0_coverParts, Cond.instanceMethod yX0_coverParts, Cond.selects RX0 yX0_coverParts yX0_coverParts, Cond.initialized RX0, Cond.code yX0_coverParts cX0_coverParts 8 (some .long), Cond.methodLink RX0 65 Lib.MathLoose.abs_long.x, Cond.static Lib.MathLoose.abs_long.x, Cond.initialized "java/lang/Math", Cond.code Lib.MathLoose.abs_long.x Lib.MathLoose.abs_long.code 2 (some .long), Cond.fieldLink RX0 22 "DotCover$Layer" "folding" "I", Cond.constantLong RX0 60 (498960), Cond.methodLink RX0 69 Lib.MathLoose.min_long.x]
def wsX2_enough_r2 : List Cond := [Cond.static Lib.MathLoose.min_long.x, Cond.code Lib.MathLoose.min_long.x Lib.MathLoose.min_long.code 4 (some .long), Cond.constantLong RX0 72 (997920), Cond.methodLink RX0 62 yX0_rawParts, Cond.instanceMethod yX0_rawParts, Cond.selects RX0 yX0_rawParts yX0_rawParts, Cond.code yX0_rawParts cX0_rawParts 10 (some .long), Cond.fieldLink RX0 18 "DotCover$Layer" "size" "I", Cond.fieldLink RX0 15 "DotCover$Layer" "ys" "[I", Cond.fieldLink RX0 9 "DotCover$Layer" "xs" "[I", Cond.methodLink RX0 74 yX0_leftOfEdge, Cond.static yX0_leftOfEdge, Cond.code yX0_leftOfEdge cX0_leftOfEdge 14 (some .long), Cond.methodLink RX0 53 Lib.Math.max.name, Cond.static Lib.Math.max.name, Cond.code Lib.Math.max.name Lib.Math.max.code 2 (some .int), Cond.methodLink RX0 47 Lib.Math.min.name, Cond.static Lib.Math.min.name, Cond.code Lib.Math.min.name Lib.Math.min.code 2 (some .int), Cond.methodLink RX0 78 Lib.Math.abs.name, Cond.static Lib.Math.abs.name, Cond.code Lib.Math.abs.name Lib.Math.abs.code 1 (some .int), Cond.methodLink RX0 81 yX0_beforeEdge, Cond.static yX0_beforeEdge]
def wsX2_enough_r3 : List Cond := [Cond.code yX0_beforeEdge cX0_beforeEdge 6 (some .long), Cond.constantLong RX0 85 (27720)]
def wsX2_enough : List Cond := .code yX2_enough cX2_enough 7 (some .int) :: ((wsX2_enough_r1 ++ (wsX2_enough_r2 ++ wsX2_enough_r3)) ++ wsX20 ++ wsX10 ++ wsX00)
def wsX2_field_r1 : List Cond := [Cond.fieldLink RX2 12 "DotCover" "now" "LDotCover$Scene;", Cond.constantLong RX2 101 (124221621275136000), Cond.methodLink RX2 105 yX1_mostCoveredDot, Cond.instanceMethod yX1_mostCoveredDot, Cond.selects RX1 yX1_mostCoveredDot yX1_mostCoveredDot, Cond.initialized RX1, Cond.code yX1_mostCoveredDot cX1_mostCoveredDot 7 (some .int), Cond.methodLink RX1 38 yX1_togetherParts, Cond.instanceMethod yX1_togetherParts, Cond.selects RX1 yX1_togetherParts yX1_togetherParts, Cond.code yX1_togetherParts cX1_togetherParts 5 (some .long), Cond.constantLong RX1 30 (498960), Cond.fieldLink RX1 11 "DotCover$Scene" "layers" "[LDotCover$Layer;", Cond.constantLong RX1 36 (124221621275136000), Cond.methodLink RX1 32 yX0_coverParts, Cond.instanceMethod yX0_coverParts, Cond.selects RX0 yX0_coverParts yX0_coverParts, Cond.initialized RX0, Cond.code yX0_coverParts cX0_coverParts 8 (some .long), Cond.methodLink RX0 65 Lib.MathLoose.abs_long.x, Cond.static Lib.MathLoose.abs_long.x, Cond.initialized "java/lang/Math", Cond.code Lib.MathLoose.abs_long.x Lib.MathLoose.abs_long.code 2 (some .long), Cond.fieldLink RX0 22 "DotCover$Layer" "folding" "I"]
def wsX2_field_r2 : List Cond := [Cond.constantLong RX0 60 (498960), Cond.methodLink RX0 69 Lib.MathLoose.min_long.x, Cond.static Lib.MathLoose.min_long.x, Cond.code Lib.MathLoose.min_long.x Lib.MathLoose.min_long.code 4 (some .long), Cond.constantLong RX0 72 (997920), Cond.methodLink RX0 62 yX0_rawParts, Cond.instanceMethod yX0_rawParts, Cond.selects RX0 yX0_rawParts yX0_rawParts, Cond.code yX0_rawParts cX0_rawParts 10 (some .long), Cond.fieldLink RX0 18 "DotCover$Layer" "size" "I", Cond.fieldLink RX0 15 "DotCover$Layer" "ys" "[I", Cond.fieldLink RX0 9 "DotCover$Layer" "xs" "[I", Cond.methodLink RX0 74 yX0_leftOfEdge, Cond.static yX0_leftOfEdge, Cond.code yX0_leftOfEdge cX0_leftOfEdge 14 (some .long), Cond.methodLink RX0 53 Lib.Math.max.name, Cond.static Lib.Math.max.name, Cond.code Lib.Math.max.name Lib.Math.max.code 2 (some .int), Cond.methodLink RX0 47 Lib.Math.min.name, Cond.static Lib.Math.min.name, Cond.code Lib.Math.min.name Lib.Math.min.code 2 (some .int), Cond.methodLink RX0 78 Lib.Math.abs.name, Cond.static Lib.Math.abs.name, Cond.code Lib.Math.abs.name Lib.Math.abs.code 1 (some .int)]
def wsX2_field_r3 : List Cond := [Cond.methodLink RX0 81 yX0_beforeEdge, Cond.static yX0_beforeEdge, Cond.code yX0_beforeEdge cX0_beforeEdge 6 (some .long), Cond.constantLong RX0 85 (27720), Cond.methodLink RX2 109 yX1_leastCoveredDot, Cond.instanceMethod yX1_leastCoveredDot, Cond.selects RX1 yX1_leastCoveredDot yX1_leastCoveredDot, Cond.code yX1_leastCoveredDot cX1_leastCoveredDot 7 (some .int), Cond.methodLink RX2 112 yX1_dotsWithTogether, Cond.instanceMethod yX1_dotsWithTogether, Cond.selects RX1 yX1_dotsWithTogether yX1_dotsWithTogether, Cond.code yX1_dotsWithTogether cX1_dotsWithTogether 5 (some .int)]
def wsX2_field : List Cond := .code yX2_field cX2_field 2 (some .int) :: ((wsX2_field_r1 ++ (wsX2_field_r2 ++ wsX2_field_r3)) ++ wsX20 ++ wsX10 ++ wsX00)
def wsX2_best_r1 : List Cond := [Cond.fieldLink RX2 12 "DotCover" "now" "LDotCover$Scene;", Cond.methodLink RX2 24 yX1_layerOf, Cond.instanceMethod yX1_layerOf, Cond.selects RX1 yX1_layerOf yX1_layerOf, Cond.initialized RX1, Cond.code yX1_layerOf cX1_layerOf 2 (some (.object "DotCover$Layer")), Cond.fieldLink RX1 11 "DotCover$Scene" "layers" "[LDotCover$Layer;", Cond.static yX2_within, Cond.initialized RX2, Cond.code yX2_within cX2_within 3 (some .boolean), Cond.methodLink RX2 51 yX2_within, Cond.methodLink RX2 116 yX0_bestMove, Cond.instanceMethod yX0_bestMove, Cond.selects RX0 yX0_bestMove yX0_bestMove, Cond.initialized RX0, Cond.code yX0_bestMove cX0_bestMove 13 (some .int), Cond.fieldLink RX0 9 "DotCover$Layer" "xs" "[I", Cond.fieldLink RX0 15 "DotCover$Layer" "ys" "[I", Cond.methodLink RX0 36 yX0_least, Cond.instanceMethod yX0_least, Cond.selects RX0 yX0_least yX0_least, Cond.code yX0_least cX0_least 4 (some .int), Cond.fieldLink RX0 18 "DotCover$Layer" "size" "I", Cond.methodLink RX0 47 Lib.Math.min.name]
def wsX2_best_r2 : List Cond := [Cond.static Lib.Math.min.name, Cond.initialized "java/lang/Math", Cond.code Lib.Math.min.name Lib.Math.min.code 2 (some .int), Cond.methodLink RX0 40 yX0_greatest, Cond.instanceMethod yX0_greatest, Cond.selects RX0 yX0_greatest yX0_greatest, Cond.code yX0_greatest cX0_greatest 4 (some .int), Cond.methodLink RX0 53 Lib.Math.max.name, Cond.static Lib.Math.max.name, Cond.code Lib.Math.max.name Lib.Math.max.code 2 (some .int), Cond.methodLink RX0 43 yX0_wholeDots, Cond.instanceMethod yX0_wholeDots, Cond.selects RX0 yX0_wholeDots yX0_wholeDots, Cond.code yX0_wholeDots cX0_wholeDots 8 (some .int), Cond.constantLong RX0 60 (498960), Cond.methodLink RX0 56 yX0_coverParts, Cond.instanceMethod yX0_coverParts, Cond.selects RX0 yX0_coverParts yX0_coverParts, Cond.code yX0_coverParts cX0_coverParts 8 (some .long), Cond.methodLink RX0 65 Lib.MathLoose.abs_long.x, Cond.static Lib.MathLoose.abs_long.x, Cond.code Lib.MathLoose.abs_long.x Lib.MathLoose.abs_long.code 2 (some .long), Cond.fieldLink RX0 22 "DotCover$Layer" "folding" "I", Cond.methodLink RX0 69 Lib.MathLoose.min_long.x]
def wsX2_best_r3 : List Cond := [Cond.static Lib.MathLoose.min_long.x, Cond.code Lib.MathLoose.min_long.x Lib.MathLoose.min_long.code 4 (some .long), Cond.constantLong RX0 72 (997920), Cond.methodLink RX0 62 yX0_rawParts, Cond.instanceMethod yX0_rawParts, Cond.selects RX0 yX0_rawParts yX0_rawParts, Cond.code yX0_rawParts cX0_rawParts 10 (some .long), Cond.methodLink RX0 74 yX0_leftOfEdge, Cond.static yX0_leftOfEdge, Cond.code yX0_leftOfEdge cX0_leftOfEdge 14 (some .long), Cond.methodLink RX0 78 Lib.Math.abs.name, Cond.static Lib.Math.abs.name, Cond.code Lib.Math.abs.name Lib.Math.abs.code 1 (some .int), Cond.methodLink RX0 81 yX0_beforeEdge, Cond.static yX0_beforeEdge, Cond.code yX0_beforeEdge cX0_beforeEdge 6 (some .long), Cond.constantLong RX0 85 (27720)]
def wsX2_best : List Cond := .code yX2_best cX2_best 4 (some .int) :: ((wsX2_best_r1 ++ (wsX2_best_r2 ++ wsX2_best_r3)) ++ wsX20 ++ wsX00 ++ wsX10)
def wsX2_same_r1 : List Cond := [Cond.fieldLink RX2 12 "DotCover" "now" "LDotCover$Scene;", Cond.methodLink RX2 24 yX1_layerOf, Cond.instanceMethod yX1_layerOf, Cond.selects RX1 yX1_layerOf yX1_layerOf, Cond.initialized RX1, Cond.code yX1_layerOf cX1_layerOf 2 (some (.object "DotCover$Layer")), Cond.fieldLink RX1 11 "DotCover$Scene" "layers" "[LDotCover$Layer;", Cond.static yX2_within, Cond.initialized RX2, Cond.code yX2_within cX2_within 3 (some .boolean), Cond.methodLink RX2 94 yX0_coverParts, Cond.instanceMethod yX0_coverParts, Cond.selects RX0 yX0_coverParts yX0_coverParts, Cond.initialized RX0, Cond.code yX0_coverParts cX0_coverParts 8 (some .long), Cond.methodLink RX0 65 Lib.MathLoose.abs_long.x, Cond.static Lib.MathLoose.abs_long.x, Cond.initialized "java/lang/Math", Cond.code Lib.MathLoose.abs_long.x Lib.MathLoose.abs_long.code 2 (some .long), Cond.fieldLink RX0 22 "DotCover$Layer" "folding" "I", Cond.constantLong RX0 60 (498960), Cond.methodLink RX0 69 Lib.MathLoose.min_long.x, Cond.static Lib.MathLoose.min_long.x, Cond.code Lib.MathLoose.min_long.x Lib.MathLoose.min_long.code 4 (some .long)]
def wsX2_same_r2 : List Cond := [Cond.constantLong RX0 72 (997920), Cond.methodLink RX0 62 yX0_rawParts, Cond.instanceMethod yX0_rawParts, Cond.selects RX0 yX0_rawParts yX0_rawParts, Cond.code yX0_rawParts cX0_rawParts 10 (some .long), Cond.fieldLink RX0 18 "DotCover$Layer" "size" "I", Cond.fieldLink RX0 15 "DotCover$Layer" "ys" "[I", Cond.fieldLink RX0 9 "DotCover$Layer" "xs" "[I", Cond.methodLink RX0 74 yX0_leftOfEdge, Cond.static yX0_leftOfEdge, Cond.code yX0_leftOfEdge cX0_leftOfEdge 14 (some .long), Cond.methodLink RX0 53 Lib.Math.max.name, Cond.static Lib.Math.max.name, Cond.code Lib.Math.max.name Lib.Math.max.code 2 (some .int), Cond.methodLink RX0 47 Lib.Math.min.name, Cond.static Lib.Math.min.name, Cond.code Lib.Math.min.name Lib.Math.min.code 2 (some .int), Cond.methodLink RX0 78 Lib.Math.abs.name, Cond.static Lib.Math.abs.name, Cond.code Lib.Math.abs.name Lib.Math.abs.code 1 (some .int), Cond.methodLink RX0 81 yX0_beforeEdge, Cond.static yX0_beforeEdge, Cond.code yX0_beforeEdge cX0_beforeEdge 6 (some .long), Cond.constantLong RX0 85 (27720)]
def wsX2_same : List Cond := .code yX2_same cX2_same 7 (some .int) :: ((wsX2_same_r1 ++ wsX2_same_r2) ++ wsX20 ++ wsX10 ++ wsX00)
def wsX2_image : List Cond := .code yX2_image cX2_image 2 (some .int) :: ([.fieldLink RX2 16 "DotCover" "images" "[LDotCover$Scene;", .fieldLink RX2 12 "DotCover" "now" "LDotCover$Scene;", .fieldLink RX2 20 "DotCover" "keptImages" "I", .methodLink RX2 51 yX2_within, .static yX2_within, .initialized RX2, .code yX2_within cX2_within 3 (some .boolean), .methodLink RX2 120 yX1_copyFrom, .instanceMethod yX1_copyFrom, .selects RX1 yX1_copyFrom yX1_copyFrom, .initialized RX1, .code yX1_copyFrom cX1_copyFrom 3 none, .fieldLink RX1 11 "DotCover$Scene" "layers" "[LDotCover$Layer;", .methodLink RX1 22 yX0_copyFrom, .instanceMethod yX0_copyFrom, .selects RX0 yX0_copyFrom yX0_copyFrom, .initialized RX0, .code yX0_copyFrom cX0_copyFrom 3 none, .fieldLink RX0 9 "DotCover$Layer" "xs" "[I", .fieldLink RX0 15 "DotCover$Layer" "ys" "[I", .fieldLink RX0 18 "DotCover$Layer" "size" "I", .fieldLink RX0 22 "DotCover$Layer" "folding" "I"] ++ wsX20 ++ wsX10 ++ wsX00)
def wsX2_restore : List Cond := .code yX2_restore cX2_restore 2 (some .int) :: ([.fieldLink RX2 20 "DotCover" "keptImages" "I", .fieldLink RX2 12 "DotCover" "now" "LDotCover$Scene;", .fieldLink RX2 16 "DotCover" "images" "[LDotCover$Scene;", .methodLink RX2 51 yX2_within, .static yX2_within, .initialized RX2, .code yX2_within cX2_within 3 (some .boolean), .methodLink RX2 120 yX1_copyFrom, .instanceMethod yX1_copyFrom, .selects RX1 yX1_copyFrom yX1_copyFrom, .initialized RX1, .code yX1_copyFrom cX1_copyFrom 3 none, .fieldLink RX1 11 "DotCover$Scene" "layers" "[LDotCover$Layer;", .methodLink RX1 22 yX0_copyFrom, .instanceMethod yX0_copyFrom, .selects RX0 yX0_copyFrom yX0_copyFrom, .initialized RX0, .code yX0_copyFrom cX0_copyFrom 3 none, .fieldLink RX0 9 "DotCover$Layer" "xs" "[I", .fieldLink RX0 15 "DotCover$Layer" "ys" "[I", .fieldLink RX0 18 "DotCover$Layer" "size" "I", .fieldLink RX0 22 "DotCover$Layer" "folding" "I"] ++ wsX20 ++ wsX10 ++ wsX00)
def wsX2_count : List Cond := .code yX2_count cX2_count 4 (some .int) :: ([.fieldLink RX2 12 "DotCover" "now" "LDotCover$Scene;", .fieldLink RX2 20 "DotCover" "keptImages" "I", .methodLink RX2 124 yX1_pointsOfAll, .instanceMethod yX1_pointsOfAll, .selects RX1 yX1_pointsOfAll yX1_pointsOfAll, .initialized RX1, .code yX1_pointsOfAll cX1_pointsOfAll 3 (some .int), .fieldLink RX1 11 "DotCover$Scene" "layers" "[LDotCover$Layer;", .methodLink RX2 24 yX1_layerOf, .instanceMethod yX1_layerOf, .selects RX1 yX1_layerOf yX1_layerOf, .code yX1_layerOf cX1_layerOf 2 (some (.object "DotCover$Layer")), .static yX2_within, .initialized RX2, .code yX2_within cX2_within 3 (some .boolean)] ++ wsX20 ++ wsX00 ++ wsX10)
def wsX3_init : List Cond := .code yX3_init cX3_init 1 none :: ([.methodLink RX3 1 objectInit, .instanceMethod objectInit, .code objectInit ⟨#[0xb1]⟩ 1 none, .arrayClass .int, .fieldLink RX3 7 "DotCoverModel" "state" "[I", .fieldLink RX3 13 "DotCoverModel" "images" "[I", .arrayClass .boolean, .fieldLink RX3 16 "DotCoverModel" "isKept" "[Z", .fieldLink RX3 20 "DotCoverModel" "wasX" "[I", .fieldLink RX3 23 "DotCoverModel" "wasY" "[I", .arrayClass .long, .fieldLink RX3 26 "DotCoverModel" "px" "[J", .fieldLink RX3 30 "DotCoverModel" "py" "[J", .fieldLink RX3 33 "DotCoverModel" "leftX" "[J", .fieldLink RX3 36 "DotCoverModel" "leftY" "[J"] ++ wsX30)
def wsX3_in : List Cond := .code yX3_in cX3_in 3 (some .boolean) :: ([])
def wsX3_isLayer : List Cond := .code yX3_isLayer cX3_isLayer 1 (some .boolean) :: ([.methodLink RX3 39 yX3_in, .static yX3_in, .initialized RX3, .code yX3_in cX3_in 3 (some .boolean)])
def wsX3_isDot : List Cond := .code yX3_isDot cX3_isDot 1 (some .boolean) :: ([.methodLink RX3 39 yX3_in, .static yX3_in, .initialized RX3, .code yX3_in cX3_in 3 (some .boolean)])
def wsX3_isHere : List Cond := .code yX3_isHere cX3_isHere 2 (some .boolean) :: ([.methodLink RX3 39 yX3_in, .static yX3_in, .initialized RX3, .code yX3_in cX3_in 3 (some .boolean)])
def wsX3_isPoint : List Cond := .code yX3_isPoint cX3_isPoint 3 (some .boolean) :: ([.fieldLink RX3 7 "DotCoverModel" "state" "[I", .methodLink RX3 39 yX3_in, .static yX3_in, .initialized RX3, .code yX3_in cX3_in 3 (some .boolean)] ++ wsX30)
def wsX3_place : List Cond := .code yX3_place cX3_place 2 (some .int) :: ([])
def wsX3_point : List Cond := .code yX3_point cX3_point 5 (some .int) :: ([.fieldLink RX3 7 "DotCoverModel" "state" "[I", .methodLink RX3 43 yX3_isLayer, .static yX3_isLayer, .initialized RX3, .code yX3_isLayer cX3_isLayer 1 (some .boolean), .methodLink RX3 39 yX3_in, .static yX3_in, .code yX3_in cX3_in 3 (some .boolean), .methodLink RX3 47 yX3_isHere, .static yX3_isHere, .code yX3_isHere cX3_isHere 2 (some .boolean), .methodLink RX3 51 yX3_place, .static yX3_place, .code yX3_place cX3_place 2 (some .int)] ++ wsX30)
def wsX3_pop : List Cond := .code yX3_pop cX3_pop 2 (some .int) :: ([.fieldLink RX3 7 "DotCoverModel" "state" "[I", .methodLink RX3 43 yX3_isLayer, .static yX3_isLayer, .initialized RX3, .code yX3_isLayer cX3_isLayer 1 (some .boolean), .methodLink RX3 39 yX3_in, .static yX3_in, .code yX3_in cX3_in 3 (some .boolean)] ++ wsX30)
def wsX3_set : List Cond := .code yX3_set cX3_set 7 (some .int) :: ([.fieldLink RX3 7 "DotCoverModel" "state" "[I", .methodLink RX3 43 yX3_isLayer, .static yX3_isLayer, .initialized RX3, .code yX3_isLayer cX3_isLayer 1 (some .boolean), .methodLink RX3 39 yX3_in, .static yX3_in, .code yX3_in cX3_in 3 (some .boolean), .methodLink RX3 55 yX3_isPoint, .instanceMethod yX3_isPoint, .selects RX3 yX3_isPoint yX3_isPoint, .code yX3_isPoint cX3_isPoint 3 (some .boolean), .methodLink RX3 47 yX3_isHere, .static yX3_isHere, .code yX3_isHere cX3_isHere 2 (some .boolean), .methodLink RX3 51 yX3_place, .static yX3_place, .code yX3_place cX3_place 2 (some .int)] ++ wsX30)
def wsX3_rule : List Cond := .code yX3_rule cX3_rule 4 (some .int) :: ([.fieldLink RX3 7 "DotCoverModel" "state" "[I", .methodLink RX3 43 yX3_isLayer, .static yX3_isLayer, .initialized RX3, .code yX3_isLayer cX3_isLayer 1 (some .boolean), .methodLink RX3 39 yX3_in, .static yX3_in, .code yX3_in cX3_in 3 (some .boolean)] ++ wsX30)
def wsX3_canMove : List Cond := .code yX3_canMove cX3_canMove 6 (some .boolean) :: ([.fieldLink RX3 7 "DotCoverModel" "state" "[I", .methodLink RX3 51 yX3_place, .static yX3_place, .initialized RX3, .code yX3_place cX3_place 2 (some .int), .methodLink RX3 47 yX3_isHere, .static yX3_isHere, .code yX3_isHere cX3_isHere 2 (some .boolean), .methodLink RX3 39 yX3_in, .static yX3_in, .code yX3_in cX3_in 3 (some .boolean)] ++ wsX30)
def wsX3_move : List Cond := .code yX3_move cX3_move 5 (some .int) :: ([.fieldLink RX3 7 "DotCoverModel" "state" "[I", .methodLink RX3 43 yX3_isLayer, .static yX3_isLayer, .initialized RX3, .code yX3_isLayer cX3_isLayer 1 (some .boolean), .methodLink RX3 39 yX3_in, .static yX3_in, .code yX3_in cX3_in 3 (some .boolean), .methodLink RX3 58 yX3_canMove, .instanceMethod yX3_canMove, .selects RX3 yX3_canMove yX3_canMove, .code yX3_canMove cX3_canMove 6 (some .boolean), .methodLink RX3 51 yX3_place, .static yX3_place, .code yX3_place cX3_place 2 (some .int), .methodLink RX3 47 yX3_isHere, .static yX3_isHere, .code yX3_isHere cX3_isHere 2 (some .boolean)] ++ wsX30)
def wsX3_putAside : List Cond := .code yX3_putAside cX3_putAside 3 none :: ([.fieldLink RX3 7 "DotCoverModel" "state" "[I", .fieldLink RX3 20 "DotCoverModel" "wasX" "[I", .fieldLink RX3 23 "DotCoverModel" "wasY" "[I", .methodLink RX3 51 yX3_place, .static yX3_place, .initialized RX3, .code yX3_place cX3_place 2 (some .int)] ++ wsX30)
def wsX3_layFrom : List Cond := .code yX3_layFrom cX3_layFrom 4 none :: ([.fieldLink RX3 7 "DotCoverModel" "state" "[I", .fieldLink RX3 20 "DotCoverModel" "wasX" "[I", .fieldLink RX3 23 "DotCoverModel" "wasY" "[I", .methodLink RX3 51 yX3_place, .static yX3_place, .initialized RX3, .code yX3_place cX3_place 2 (some .int)] ++ wsX30)
def wsX3_back : List Cond := .code yX3_back cX3_back 4 (some .int) :: ([.fieldLink RX3 7 "DotCoverModel" "state" "[I", .methodLink RX3 43 yX3_isLayer, .static yX3_isLayer, .initialized RX3, .code yX3_isLayer cX3_isLayer 1 (some .boolean), .methodLink RX3 39 yX3_in, .static yX3_in, .code yX3_in cX3_in 3 (some .boolean), .methodLink RX3 61 yX3_putAside, .instanceMethod yX3_putAside, .selects RX3 yX3_putAside yX3_putAside, .code yX3_putAside cX3_putAside 3 none, .fieldLink RX3 20 "DotCoverModel" "wasX" "[I", .fieldLink RX3 23 "DotCoverModel" "wasY" "[I", .methodLink RX3 51 yX3_place, .static yX3_place, .code yX3_place cX3_place 2 (some .int), .methodLink RX3 65 yX3_layFrom, .instanceMethod yX3_layFrom, .selects RX3 yX3_layFrom yX3_layFrom, .code yX3_layFrom cX3_layFrom 4 none] ++ wsX30)
def wsX3_begin_r1 : List Cond := [Cond.fieldLink RX3 7 "DotCoverModel" "state" "[I", Cond.methodLink RX3 43 yX3_isLayer, Cond.static yX3_isLayer, Cond.initialized RX3, Cond.code yX3_isLayer cX3_isLayer 1 (some .boolean), Cond.methodLink RX3 39 yX3_in, Cond.static yX3_in, Cond.code yX3_in cX3_in 3 (some .boolean), Cond.methodLink RX3 55 yX3_isPoint, Cond.instanceMethod yX3_isPoint, Cond.selects RX3 yX3_isPoint yX3_isPoint, Cond.code yX3_isPoint cX3_isPoint 3 (some .boolean), Cond.methodLink RX3 61 yX3_putAside, Cond.instanceMethod yX3_putAside, Cond.selects RX3 yX3_putAside yX3_putAside, Cond.code yX3_putAside cX3_putAside 3 none, Cond.fieldLink RX3 20 "DotCoverModel" "wasX" "[I", Cond.fieldLink RX3 23 "DotCoverModel" "wasY" "[I", Cond.methodLink RX3 51 yX3_place, Cond.static yX3_place, Cond.code yX3_place cX3_place 2 (some .int), Cond.methodLink RX3 65 yX3_layFrom, Cond.instanceMethod yX3_layFrom, Cond.selects RX3 yX3_layFrom yX3_layFrom]
def wsX3_begin_r2 : List Cond := [Cond.code yX3_layFrom cX3_layFrom 4 none]
def wsX3_begin : List Cond := .code yX3_begin cX3_begin 5 (some .int) :: ((wsX3_begin_r1 ++ wsX3_begin_r2) ++ wsX30)
def wsX3_at : List Cond := .code yX3_at cX3_at 4 (some .int) :: ([.fieldLink RX3 7 "DotCoverModel" "state" "[I", .methodLink RX3 43 yX3_isLayer, .static yX3_isLayer, .initialized RX3, .code yX3_isLayer cX3_isLayer 1 (some .boolean), .methodLink RX3 39 yX3_in, .static yX3_in, .code yX3_in cX3_in 3 (some .boolean), .methodLink RX3 55 yX3_isPoint, .instanceMethod yX3_isPoint, .selects RX3 yX3_isPoint yX3_isPoint, .code yX3_isPoint cX3_isPoint 3 (some .boolean), .methodLink RX3 51 yX3_place, .static yX3_place, .code yX3_place cX3_place 2 (some .int)] ++ wsX30)
def wsX3_layPath : List Cond := .code yX3_layPath cX3_layPath 5 none :: ([.fieldLink RX3 7 "DotCoverModel" "state" "[I", .fieldLink RX3 69 "DotCoverModel" "corners" "I", .fieldLink RX3 26 "DotCoverModel" "px" "[J", .constantLong RX3 73 (27720), .fieldLink RX3 30 "DotCoverModel" "py" "[J", .methodLink RX3 51 yX3_place, .static yX3_place, .initialized RX3, .code yX3_place cX3_place 2 (some .int)] ++ wsX30)
def wsX3_leave : List Cond := .code yX3_leave cX3_leave 5 none :: ([.fieldLink RX3 33 "DotCoverModel" "leftX" "[J", .fieldLink RX3 75 "DotCoverModel" "left" "I", .fieldLink RX3 36 "DotCoverModel" "leftY" "[J"] ++ wsX30)
def wsX3_within : List Cond := .code yX3_within cX3_within 5 (some .long) :: ([.fieldLink RX3 26 "DotCoverModel" "px" "[J", .fieldLink RX3 30 "DotCoverModel" "py" "[J"] ++ wsX30)
def wsX3_leaveCrossing : List Cond := .code yX3_leaveCrossing cX3_leaveCrossing 6 none :: ([.fieldLink RX3 30 "DotCoverModel" "py" "[J", .fieldLink RX3 26 "DotCoverModel" "px" "[J", .methodLink RX3 78 yX3_leave, .instanceMethod yX3_leave, .selects RX3 yX3_leave yX3_leave, .initialized RX3, .code yX3_leave cX3_leave 5 none, .fieldLink RX3 33 "DotCoverModel" "leftX" "[J", .fieldLink RX3 75 "DotCoverModel" "left" "I", .fieldLink RX3 36 "DotCoverModel" "leftY" "[J"] ++ wsX30)
def wsX3_cutSide : List Cond := .code yX3_cutSide cX3_cutSide 10 none :: ([.fieldLink RX3 75 "DotCoverModel" "left" "I", .fieldLink RX3 69 "DotCoverModel" "corners" "I", .fieldLink RX3 26 "DotCoverModel" "px" "[J", .fieldLink RX3 30 "DotCoverModel" "py" "[J", .fieldLink RX3 33 "DotCoverModel" "leftX" "[J", .fieldLink RX3 36 "DotCoverModel" "leftY" "[J", .methodLink RX3 82 yX3_within, .instanceMethod yX3_within, .selects RX3 yX3_within yX3_within, .initialized RX3, .code yX3_within cX3_within 5 (some .long), .methodLink RX3 78 yX3_leave, .instanceMethod yX3_leave, .selects RX3 yX3_leave yX3_leave, .code yX3_leave cX3_leave 5 none, .methodLink RX3 86 yX3_leaveCrossing, .instanceMethod yX3_leaveCrossing, .selects RX3 yX3_leaveCrossing yX3_leaveCrossing, .code yX3_leaveCrossing cX3_leaveCrossing 6 none] ++ wsX30)
def wsX3_twiceArea : List Cond := .code yX3_twiceArea cX3_twiceArea 5 (some .long) :: ([.fieldLink RX3 69 "DotCoverModel" "corners" "I", .fieldLink RX3 26 "DotCoverModel" "px" "[J", .fieldLink RX3 30 "DotCoverModel" "py" "[J"] ++ wsX30)
def wsX3_rawOf_r1 : List Cond := [Cond.constantLong RX3 93 (83160), Cond.constantLong RX3 73 (27720), Cond.methodLink RX3 90 yX3_layPath, Cond.instanceMethod yX3_layPath, Cond.selects RX3 yX3_layPath yX3_layPath, Cond.initialized RX3, Cond.code yX3_layPath cX3_layPath 5 none, Cond.fieldLink RX3 7 "DotCoverModel" "state" "[I", Cond.fieldLink RX3 69 "DotCoverModel" "corners" "I", Cond.fieldLink RX3 26 "DotCoverModel" "px" "[J", Cond.fieldLink RX3 30 "DotCoverModel" "py" "[J", Cond.methodLink RX3 51 yX3_place, Cond.static yX3_place, Cond.code yX3_place cX3_place 2 (some .int), Cond.methodLink RX3 95 yX3_cutSide, Cond.instanceMethod yX3_cutSide, Cond.selects RX3 yX3_cutSide yX3_cutSide, Cond.code yX3_cutSide cX3_cutSide 10 none, Cond.fieldLink RX3 75 "DotCoverModel" "left" "I", Cond.fieldLink RX3 33 "DotCoverModel" "leftX" "[J", Cond.fieldLink RX3 36 "DotCoverModel" "leftY" "[J", Cond.methodLink RX3 82 yX3_within, Cond.instanceMethod yX3_within, Cond.selects RX3 yX3_within yX3_within]
def wsX3_rawOf_r2 : List Cond := [Cond.code yX3_within cX3_within 5 (some .long), Cond.methodLink RX3 78 yX3_leave, Cond.instanceMethod yX3_leave, Cond.selects RX3 yX3_leave yX3_leave, Cond.code yX3_leave cX3_leave 5 none, Cond.methodLink RX3 86 yX3_leaveCrossing, Cond.instanceMethod yX3_leaveCrossing, Cond.selects RX3 yX3_leaveCrossing yX3_leaveCrossing, Cond.code yX3_leaveCrossing cX3_leaveCrossing 6 none, Cond.methodLink RX3 99 yX3_twiceArea, Cond.instanceMethod yX3_twiceArea, Cond.selects RX3 yX3_twiceArea yX3_twiceArea, Cond.code yX3_twiceArea cX3_twiceArea 5 (some .long)]
def wsX3_rawOf : List Cond := .code yX3_rawOf cX3_rawOf 9 (some .long) :: ((wsX3_rawOf_r1 ++ wsX3_rawOf_r2) ++ wsX30)
def wsX3_plain : List Cond := .code yX3_plain cX3_plain 2 (some .long) :: ([])
def wsX3_coverMoved_r1 : List Cond := [Cond.fieldLink RX3 7 "DotCoverModel" "state" "[I", Cond.constantLong RX3 111 (498960), Cond.constantLong RX3 113 (997920), Cond.methodLink RX3 103 yX3_rawOf, Cond.instanceMethod yX3_rawOf, Cond.selects RX3 yX3_rawOf yX3_rawOf, Cond.initialized RX3, Cond.code yX3_rawOf cX3_rawOf 9 (some .long), Cond.constantLong RX3 93 (83160), Cond.constantLong RX3 73 (27720), Cond.methodLink RX3 90 yX3_layPath, Cond.instanceMethod yX3_layPath, Cond.selects RX3 yX3_layPath yX3_layPath, Cond.code yX3_layPath cX3_layPath 5 none, Cond.fieldLink RX3 69 "DotCoverModel" "corners" "I", Cond.fieldLink RX3 26 "DotCoverModel" "px" "[J", Cond.fieldLink RX3 30 "DotCoverModel" "py" "[J", Cond.methodLink RX3 51 yX3_place, Cond.static yX3_place, Cond.code yX3_place cX3_place 2 (some .int), Cond.methodLink RX3 95 yX3_cutSide, Cond.instanceMethod yX3_cutSide, Cond.selects RX3 yX3_cutSide yX3_cutSide, Cond.code yX3_cutSide cX3_cutSide 10 none]
def wsX3_coverMoved_r2 : List Cond := [Cond.fieldLink RX3 75 "DotCoverModel" "left" "I", Cond.fieldLink RX3 33 "DotCoverModel" "leftX" "[J", Cond.fieldLink RX3 36 "DotCoverModel" "leftY" "[J", Cond.methodLink RX3 82 yX3_within, Cond.instanceMethod yX3_within, Cond.selects RX3 yX3_within yX3_within, Cond.code yX3_within cX3_within 5 (some .long), Cond.methodLink RX3 78 yX3_leave, Cond.instanceMethod yX3_leave, Cond.selects RX3 yX3_leave yX3_leave, Cond.code yX3_leave cX3_leave 5 none, Cond.methodLink RX3 86 yX3_leaveCrossing, Cond.instanceMethod yX3_leaveCrossing, Cond.selects RX3 yX3_leaveCrossing yX3_leaveCrossing, Cond.code yX3_leaveCrossing cX3_leaveCrossing 6 none, Cond.methodLink RX3 99 yX3_twiceArea, Cond.instanceMethod yX3_twiceArea, Cond.selects RX3 yX3_twiceArea yX3_twiceArea, Cond.code yX3_twiceArea cX3_twiceArea 5 (some .long), Cond.methodLink RX3 107 yX3_plain, Cond.static yX3_plain, Cond.code yX3_plain cX3_plain 2 (some .long)]
def wsX3_coverMoved : List Cond := .code yX3_coverMoved cX3_coverMoved 9 (some .long) :: ((wsX3_coverMoved_r1 ++ wsX3_coverMoved_r2) ++ wsX30)
def wsX3_coverOf_r1 : List Cond := [Cond.methodLink RX3 115 yX3_coverMoved, Cond.instanceMethod yX3_coverMoved, Cond.selects RX3 yX3_coverMoved yX3_coverMoved, Cond.initialized RX3, Cond.code yX3_coverMoved cX3_coverMoved 9 (some .long), Cond.fieldLink RX3 7 "DotCoverModel" "state" "[I", Cond.constantLong RX3 111 (498960), Cond.constantLong RX3 113 (997920), Cond.methodLink RX3 103 yX3_rawOf, Cond.instanceMethod yX3_rawOf, Cond.selects RX3 yX3_rawOf yX3_rawOf, Cond.code yX3_rawOf cX3_rawOf 9 (some .long), Cond.constantLong RX3 93 (83160), Cond.constantLong RX3 73 (27720), Cond.methodLink RX3 90 yX3_layPath, Cond.instanceMethod yX3_layPath, Cond.selects RX3 yX3_layPath yX3_layPath, Cond.code yX3_layPath cX3_layPath 5 none, Cond.fieldLink RX3 69 "DotCoverModel" "corners" "I", Cond.fieldLink RX3 26 "DotCoverModel" "px" "[J", Cond.fieldLink RX3 30 "DotCoverModel" "py" "[J", Cond.methodLink RX3 51 yX3_place, Cond.static yX3_place, Cond.code yX3_place cX3_place 2 (some .int)]
def wsX3_coverOf_r2 : List Cond := [Cond.methodLink RX3 95 yX3_cutSide, Cond.instanceMethod yX3_cutSide, Cond.selects RX3 yX3_cutSide yX3_cutSide, Cond.code yX3_cutSide cX3_cutSide 10 none, Cond.fieldLink RX3 75 "DotCoverModel" "left" "I", Cond.fieldLink RX3 33 "DotCoverModel" "leftX" "[J", Cond.fieldLink RX3 36 "DotCoverModel" "leftY" "[J", Cond.methodLink RX3 82 yX3_within, Cond.instanceMethod yX3_within, Cond.selects RX3 yX3_within yX3_within, Cond.code yX3_within cX3_within 5 (some .long), Cond.methodLink RX3 78 yX3_leave, Cond.instanceMethod yX3_leave, Cond.selects RX3 yX3_leave yX3_leave, Cond.code yX3_leave cX3_leave 5 none, Cond.methodLink RX3 86 yX3_leaveCrossing, Cond.instanceMethod yX3_leaveCrossing, Cond.selects RX3 yX3_leaveCrossing yX3_leaveCrossing, Cond.code yX3_leaveCrossing cX3_leaveCrossing 6 none, Cond.methodLink RX3 99 yX3_twiceArea, Cond.instanceMethod yX3_twiceArea, Cond.selects RX3 yX3_twiceArea yX3_twiceArea, Cond.code yX3_twiceArea cX3_twiceArea 5 (some .long), Cond.methodLink RX3 107 yX3_plain]
def wsX3_coverOf_r3 : List Cond := [Cond.static yX3_plain, Cond.code yX3_plain cX3_plain 2 (some .long)]
def wsX3_coverOf : List Cond := .code yX3_coverOf cX3_coverOf 3 (some .long) :: ((wsX3_coverOf_r1 ++ (wsX3_coverOf_r2 ++ wsX3_coverOf_r3)) ++ wsX30)
def wsX3_common : List Cond := .code yX3_common cX3_common 10 (some .long) :: ([])
def wsX3_told : List Cond := .code yX3_told cX3_told 7 (some .long) :: ([.methodLink RX3 107 yX3_plain, .static yX3_plain, .initialized RX3, .code yX3_plain cX3_plain 2 (some .long), .methodLink RX3 118 yX3_common, .static yX3_common, .code yX3_common cX3_common 10 (some .long)])
def wsX3_isPart : List Cond := .code yX3_isPart cX3_isPart 1 (some .boolean) :: ([.methodLink RX3 39 yX3_in, .static yX3_in, .initialized RX3, .code yX3_in cX3_in 3 (some .boolean)])
def wsX3_raw_r1 : List Cond := [Cond.constantLong RX3 125 (-1000000000000000001), Cond.constantLong RX3 111 (498960), Cond.constantLong RX3 134 (-1000000000000000002), Cond.methodLink RX3 43 yX3_isLayer, Cond.static yX3_isLayer, Cond.initialized RX3, Cond.code yX3_isLayer cX3_isLayer 1 (some .boolean), Cond.methodLink RX3 39 yX3_in, Cond.static yX3_in, Cond.code yX3_in cX3_in 3 (some .boolean), Cond.methodLink RX3 122 yX3_isDot, Cond.static yX3_isDot, Cond.code yX3_isDot cX3_isDot 1 (some .boolean), Cond.methodLink RX3 127 yX3_isPart, Cond.static yX3_isPart, Cond.code yX3_isPart cX3_isPart 1 (some .boolean), Cond.methodLink RX3 103 yX3_rawOf, Cond.instanceMethod yX3_rawOf, Cond.selects RX3 yX3_rawOf yX3_rawOf, Cond.code yX3_rawOf cX3_rawOf 9 (some .long), Cond.constantLong RX3 93 (83160), Cond.constantLong RX3 73 (27720), Cond.methodLink RX3 90 yX3_layPath, Cond.instanceMethod yX3_layPath]
def wsX3_raw_r2 : List Cond := [Cond.selects RX3 yX3_layPath yX3_layPath, Cond.code yX3_layPath cX3_layPath 5 none, Cond.fieldLink RX3 7 "DotCoverModel" "state" "[I", Cond.fieldLink RX3 69 "DotCoverModel" "corners" "I", Cond.fieldLink RX3 26 "DotCoverModel" "px" "[J", Cond.fieldLink RX3 30 "DotCoverModel" "py" "[J", Cond.methodLink RX3 51 yX3_place, Cond.static yX3_place, Cond.code yX3_place cX3_place 2 (some .int), Cond.methodLink RX3 95 yX3_cutSide, Cond.instanceMethod yX3_cutSide, Cond.selects RX3 yX3_cutSide yX3_cutSide, Cond.code yX3_cutSide cX3_cutSide 10 none, Cond.fieldLink RX3 75 "DotCoverModel" "left" "I", Cond.fieldLink RX3 33 "DotCoverModel" "leftX" "[J", Cond.fieldLink RX3 36 "DotCoverModel" "leftY" "[J", Cond.methodLink RX3 82 yX3_within, Cond.instanceMethod yX3_within, Cond.selects RX3 yX3_within yX3_within, Cond.code yX3_within cX3_within 5 (some .long), Cond.methodLink RX3 78 yX3_leave, Cond.instanceMethod yX3_leave, Cond.selects RX3 yX3_leave yX3_leave, Cond.code yX3_leave cX3_leave 5 none]
def wsX3_raw_r3 : List Cond := [Cond.methodLink RX3 86 yX3_leaveCrossing, Cond.instanceMethod yX3_leaveCrossing, Cond.selects RX3 yX3_leaveCrossing yX3_leaveCrossing, Cond.code yX3_leaveCrossing cX3_leaveCrossing 6 none, Cond.methodLink RX3 99 yX3_twiceArea, Cond.instanceMethod yX3_twiceArea, Cond.selects RX3 yX3_twiceArea yX3_twiceArea, Cond.code yX3_twiceArea cX3_twiceArea 5 (some .long), Cond.methodLink RX3 130 yX3_told, Cond.static yX3_told, Cond.code yX3_told cX3_told 7 (some .long), Cond.methodLink RX3 107 yX3_plain, Cond.static yX3_plain, Cond.code yX3_plain cX3_plain 2 (some .long), Cond.methodLink RX3 118 yX3_common, Cond.static yX3_common, Cond.code yX3_common cX3_common 10 (some .long)]
def wsX3_raw : List Cond := .code yX3_raw cX3_raw 4 (some .long) :: ((wsX3_raw_r1 ++ (wsX3_raw_r2 ++ wsX3_raw_r3)) ++ wsX30)
def wsX3_cover_r1 : List Cond := [Cond.constantLong RX3 136 (-1), Cond.constantLong RX3 111 (498960), Cond.constantLong RX3 142 (-2), Cond.methodLink RX3 43 yX3_isLayer, Cond.static yX3_isLayer, Cond.initialized RX3, Cond.code yX3_isLayer cX3_isLayer 1 (some .boolean), Cond.methodLink RX3 39 yX3_in, Cond.static yX3_in, Cond.code yX3_in cX3_in 3 (some .boolean), Cond.methodLink RX3 122 yX3_isDot, Cond.static yX3_isDot, Cond.code yX3_isDot cX3_isDot 1 (some .boolean), Cond.methodLink RX3 127 yX3_isPart, Cond.static yX3_isPart, Cond.code yX3_isPart cX3_isPart 1 (some .boolean), Cond.methodLink RX3 138 yX3_coverOf, Cond.instanceMethod yX3_coverOf, Cond.selects RX3 yX3_coverOf yX3_coverOf, Cond.code yX3_coverOf cX3_coverOf 3 (some .long), Cond.methodLink RX3 115 yX3_coverMoved, Cond.instanceMethod yX3_coverMoved, Cond.selects RX3 yX3_coverMoved yX3_coverMoved, Cond.code yX3_coverMoved cX3_coverMoved 9 (some .long)]
def wsX3_cover_r2 : List Cond := [Cond.fieldLink RX3 7 "DotCoverModel" "state" "[I", Cond.constantLong RX3 113 (997920), Cond.methodLink RX3 103 yX3_rawOf, Cond.instanceMethod yX3_rawOf, Cond.selects RX3 yX3_rawOf yX3_rawOf, Cond.code yX3_rawOf cX3_rawOf 9 (some .long), Cond.constantLong RX3 93 (83160), Cond.constantLong RX3 73 (27720), Cond.methodLink RX3 90 yX3_layPath, Cond.instanceMethod yX3_layPath, Cond.selects RX3 yX3_layPath yX3_layPath, Cond.code yX3_layPath cX3_layPath 5 none, Cond.fieldLink RX3 69 "DotCoverModel" "corners" "I", Cond.fieldLink RX3 26 "DotCoverModel" "px" "[J", Cond.fieldLink RX3 30 "DotCoverModel" "py" "[J", Cond.methodLink RX3 51 yX3_place, Cond.static yX3_place, Cond.code yX3_place cX3_place 2 (some .int), Cond.methodLink RX3 95 yX3_cutSide, Cond.instanceMethod yX3_cutSide, Cond.selects RX3 yX3_cutSide yX3_cutSide, Cond.code yX3_cutSide cX3_cutSide 10 none, Cond.fieldLink RX3 75 "DotCoverModel" "left" "I", Cond.fieldLink RX3 33 "DotCoverModel" "leftX" "[J"]
def wsX3_cover_r3 : List Cond := [Cond.fieldLink RX3 36 "DotCoverModel" "leftY" "[J", Cond.methodLink RX3 82 yX3_within, Cond.instanceMethod yX3_within, Cond.selects RX3 yX3_within yX3_within, Cond.code yX3_within cX3_within 5 (some .long), Cond.methodLink RX3 78 yX3_leave, Cond.instanceMethod yX3_leave, Cond.selects RX3 yX3_leave yX3_leave, Cond.code yX3_leave cX3_leave 5 none, Cond.methodLink RX3 86 yX3_leaveCrossing, Cond.instanceMethod yX3_leaveCrossing, Cond.selects RX3 yX3_leaveCrossing yX3_leaveCrossing, Cond.code yX3_leaveCrossing cX3_leaveCrossing 6 none, Cond.methodLink RX3 99 yX3_twiceArea, Cond.instanceMethod yX3_twiceArea, Cond.selects RX3 yX3_twiceArea yX3_twiceArea, Cond.code yX3_twiceArea cX3_twiceArea 5 (some .long), Cond.methodLink RX3 107 yX3_plain, Cond.static yX3_plain, Cond.code yX3_plain cX3_plain 2 (some .long), Cond.methodLink RX3 130 yX3_told, Cond.static yX3_told, Cond.code yX3_told cX3_told 7 (some .long), Cond.methodLink RX3 118 yX3_common]
def wsX3_cover_r4 : List Cond := [Cond.static yX3_common, Cond.code yX3_common cX3_common 10 (some .long)]
def wsX3_cover : List Cond := .code yX3_cover cX3_cover 4 (some .long) :: ((wsX3_cover_r1 ++ (wsX3_cover_r2 ++ (wsX3_cover_r3 ++ wsX3_cover_r4))) ++ wsX30)
def wsX3_openOf_r1 : List Cond := [Cond.constantLong RX3 111 (498960), Cond.methodLink RX3 138 yX3_coverOf, Cond.instanceMethod yX3_coverOf, Cond.selects RX3 yX3_coverOf yX3_coverOf, Cond.initialized RX3, Cond.code yX3_coverOf cX3_coverOf 3 (some .long), Cond.methodLink RX3 115 yX3_coverMoved, Cond.instanceMethod yX3_coverMoved, Cond.selects RX3 yX3_coverMoved yX3_coverMoved, Cond.code yX3_coverMoved cX3_coverMoved 9 (some .long), Cond.fieldLink RX3 7 "DotCoverModel" "state" "[I", Cond.constantLong RX3 113 (997920), Cond.methodLink RX3 103 yX3_rawOf, Cond.instanceMethod yX3_rawOf, Cond.selects RX3 yX3_rawOf yX3_rawOf, Cond.code yX3_rawOf cX3_rawOf 9 (some .long), Cond.constantLong RX3 93 (83160), Cond.constantLong RX3 73 (27720), Cond.methodLink RX3 90 yX3_layPath, Cond.instanceMethod yX3_layPath, Cond.selects RX3 yX3_layPath yX3_layPath, Cond.code yX3_layPath cX3_layPath 5 none, Cond.fieldLink RX3 69 "DotCoverModel" "corners" "I", Cond.fieldLink RX3 26 "DotCoverModel" "px" "[J"]
def wsX3_openOf_r2 : List Cond := [Cond.fieldLink RX3 30 "DotCoverModel" "py" "[J", Cond.methodLink RX3 51 yX3_place, Cond.static yX3_place, Cond.code yX3_place cX3_place 2 (some .int), Cond.methodLink RX3 95 yX3_cutSide, Cond.instanceMethod yX3_cutSide, Cond.selects RX3 yX3_cutSide yX3_cutSide, Cond.code yX3_cutSide cX3_cutSide 10 none, Cond.fieldLink RX3 75 "DotCoverModel" "left" "I", Cond.fieldLink RX3 33 "DotCoverModel" "leftX" "[J", Cond.fieldLink RX3 36 "DotCoverModel" "leftY" "[J", Cond.methodLink RX3 82 yX3_within, Cond.instanceMethod yX3_within, Cond.selects RX3 yX3_within yX3_within, Cond.code yX3_within cX3_within 5 (some .long), Cond.methodLink RX3 78 yX3_leave, Cond.instanceMethod yX3_leave, Cond.selects RX3 yX3_leave yX3_leave, Cond.code yX3_leave cX3_leave 5 none, Cond.methodLink RX3 86 yX3_leaveCrossing, Cond.instanceMethod yX3_leaveCrossing, Cond.selects RX3 yX3_leaveCrossing yX3_leaveCrossing, Cond.code yX3_leaveCrossing cX3_leaveCrossing 6 none, Cond.methodLink RX3 99 yX3_twiceArea]
def wsX3_openOf_r3 : List Cond := [Cond.instanceMethod yX3_twiceArea, Cond.selects RX3 yX3_twiceArea yX3_twiceArea, Cond.code yX3_twiceArea cX3_twiceArea 5 (some .long), Cond.methodLink RX3 107 yX3_plain, Cond.static yX3_plain, Cond.code yX3_plain cX3_plain 2 (some .long)]
def wsX3_openOf : List Cond := .code yX3_openOf cX3_openOf 5 (some .long) :: ((wsX3_openOf_r1 ++ (wsX3_openOf_r2 ++ wsX3_openOf_r3)) ++ wsX30)
def wsX3_whole : List Cond := .code yX3_whole cX3_whole 0 (some .long) :: ([.constantLong RX3 144 (124221621275136000)])
def wsX3_together_r1 : List Cond := [Cond.constantLong RX3 136 (-1), Cond.constantLong RX3 142 (-2), Cond.methodLink RX3 122 yX3_isDot, Cond.static yX3_isDot, Cond.initialized RX3, Cond.code yX3_isDot cX3_isDot 1 (some .boolean), Cond.methodLink RX3 39 yX3_in, Cond.static yX3_in, Cond.code yX3_in cX3_in 3 (some .boolean), Cond.methodLink RX3 127 yX3_isPart, Cond.static yX3_isPart, Cond.code yX3_isPart cX3_isPart 1 (some .boolean), Cond.methodLink RX3 146 yX3_whole, Cond.static yX3_whole, Cond.code yX3_whole cX3_whole 0 (some .long), Cond.constantLong RX3 144 (124221621275136000), Cond.methodLink RX3 149 yX3_openOf, Cond.instanceMethod yX3_openOf, Cond.selects RX3 yX3_openOf yX3_openOf, Cond.code yX3_openOf cX3_openOf 5 (some .long), Cond.constantLong RX3 111 (498960), Cond.methodLink RX3 138 yX3_coverOf, Cond.instanceMethod yX3_coverOf, Cond.selects RX3 yX3_coverOf yX3_coverOf]
def wsX3_together_r2 : List Cond := [Cond.code yX3_coverOf cX3_coverOf 3 (some .long), Cond.methodLink RX3 115 yX3_coverMoved, Cond.instanceMethod yX3_coverMoved, Cond.selects RX3 yX3_coverMoved yX3_coverMoved, Cond.code yX3_coverMoved cX3_coverMoved 9 (some .long), Cond.fieldLink RX3 7 "DotCoverModel" "state" "[I", Cond.constantLong RX3 113 (997920), Cond.methodLink RX3 103 yX3_rawOf, Cond.instanceMethod yX3_rawOf, Cond.selects RX3 yX3_rawOf yX3_rawOf, Cond.code yX3_rawOf cX3_rawOf 9 (some .long), Cond.constantLong RX3 93 (83160), Cond.constantLong RX3 73 (27720), Cond.methodLink RX3 90 yX3_layPath, Cond.instanceMethod yX3_layPath, Cond.selects RX3 yX3_layPath yX3_layPath, Cond.code yX3_layPath cX3_layPath 5 none, Cond.fieldLink RX3 69 "DotCoverModel" "corners" "I", Cond.fieldLink RX3 26 "DotCoverModel" "px" "[J", Cond.fieldLink RX3 30 "DotCoverModel" "py" "[J", Cond.methodLink RX3 51 yX3_place, Cond.static yX3_place, Cond.code yX3_place cX3_place 2 (some .int), Cond.methodLink RX3 95 yX3_cutSide]
def wsX3_together_r3 : List Cond := [Cond.instanceMethod yX3_cutSide, Cond.selects RX3 yX3_cutSide yX3_cutSide, Cond.code yX3_cutSide cX3_cutSide 10 none, Cond.fieldLink RX3 75 "DotCoverModel" "left" "I", Cond.fieldLink RX3 33 "DotCoverModel" "leftX" "[J", Cond.fieldLink RX3 36 "DotCoverModel" "leftY" "[J", Cond.methodLink RX3 82 yX3_within, Cond.instanceMethod yX3_within, Cond.selects RX3 yX3_within yX3_within, Cond.code yX3_within cX3_within 5 (some .long), Cond.methodLink RX3 78 yX3_leave, Cond.instanceMethod yX3_leave, Cond.selects RX3 yX3_leave yX3_leave, Cond.code yX3_leave cX3_leave 5 none, Cond.methodLink RX3 86 yX3_leaveCrossing, Cond.instanceMethod yX3_leaveCrossing, Cond.selects RX3 yX3_leaveCrossing yX3_leaveCrossing, Cond.code yX3_leaveCrossing cX3_leaveCrossing 6 none, Cond.methodLink RX3 99 yX3_twiceArea, Cond.instanceMethod yX3_twiceArea, Cond.selects RX3 yX3_twiceArea yX3_twiceArea, Cond.code yX3_twiceArea cX3_twiceArea 5 (some .long), Cond.methodLink RX3 107 yX3_plain, Cond.static yX3_plain]
def wsX3_together_r4 : List Cond := [Cond.code yX3_plain cX3_plain 2 (some .long), Cond.methodLink RX3 130 yX3_told, Cond.static yX3_told, Cond.code yX3_told cX3_told 7 (some .long), Cond.methodLink RX3 118 yX3_common, Cond.static yX3_common, Cond.code yX3_common cX3_common 10 (some .long)]
def wsX3_together : List Cond := .code yX3_together cX3_together 3 (some .long) :: ((wsX3_together_r1 ++ (wsX3_together_r2 ++ (wsX3_together_r3 ++ wsX3_together_r4))) ++ wsX30)
def wsX3_area_r1 : List Cond := [Cond.constantLong RX3 125 (-1000000000000000001), Cond.constantLong RX3 134 (-1000000000000000002), Cond.constantLong RX3 153 (9), Cond.constantLong RX3 111 (498960), Cond.methodLink RX3 43 yX3_isLayer, Cond.static yX3_isLayer, Cond.initialized RX3, Cond.code yX3_isLayer cX3_isLayer 1 (some .boolean), Cond.methodLink RX3 39 yX3_in, Cond.static yX3_in, Cond.code yX3_in cX3_in 3 (some .boolean), Cond.methodLink RX3 127 yX3_isPart, Cond.static yX3_isPart, Cond.code yX3_isPart cX3_isPart 1 (some .boolean), Cond.methodLink RX3 103 yX3_rawOf, Cond.instanceMethod yX3_rawOf, Cond.selects RX3 yX3_rawOf yX3_rawOf, Cond.code yX3_rawOf cX3_rawOf 9 (some .long), Cond.constantLong RX3 93 (83160), Cond.constantLong RX3 73 (27720), Cond.methodLink RX3 90 yX3_layPath, Cond.instanceMethod yX3_layPath, Cond.selects RX3 yX3_layPath yX3_layPath, Cond.code yX3_layPath cX3_layPath 5 none]
def wsX3_area_r2 : List Cond := [Cond.fieldLink RX3 7 "DotCoverModel" "state" "[I", Cond.fieldLink RX3 69 "DotCoverModel" "corners" "I", Cond.fieldLink RX3 26 "DotCoverModel" "px" "[J", Cond.fieldLink RX3 30 "DotCoverModel" "py" "[J", Cond.methodLink RX3 51 yX3_place, Cond.static yX3_place, Cond.code yX3_place cX3_place 2 (some .int), Cond.methodLink RX3 95 yX3_cutSide, Cond.instanceMethod yX3_cutSide, Cond.selects RX3 yX3_cutSide yX3_cutSide, Cond.code yX3_cutSide cX3_cutSide 10 none, Cond.fieldLink RX3 75 "DotCoverModel" "left" "I", Cond.fieldLink RX3 33 "DotCoverModel" "leftX" "[J", Cond.fieldLink RX3 36 "DotCoverModel" "leftY" "[J", Cond.methodLink RX3 82 yX3_within, Cond.instanceMethod yX3_within, Cond.selects RX3 yX3_within yX3_within, Cond.code yX3_within cX3_within 5 (some .long), Cond.methodLink RX3 78 yX3_leave, Cond.instanceMethod yX3_leave, Cond.selects RX3 yX3_leave yX3_leave, Cond.code yX3_leave cX3_leave 5 none, Cond.methodLink RX3 86 yX3_leaveCrossing, Cond.instanceMethod yX3_leaveCrossing]
def wsX3_area_r3 : List Cond := [Cond.selects RX3 yX3_leaveCrossing yX3_leaveCrossing, Cond.code yX3_leaveCrossing cX3_leaveCrossing 6 none, Cond.methodLink RX3 99 yX3_twiceArea, Cond.instanceMethod yX3_twiceArea, Cond.selects RX3 yX3_twiceArea yX3_twiceArea, Cond.code yX3_twiceArea cX3_twiceArea 5 (some .long), Cond.methodLink RX3 130 yX3_told, Cond.static yX3_told, Cond.code yX3_told cX3_told 7 (some .long), Cond.methodLink RX3 107 yX3_plain, Cond.static yX3_plain, Cond.code yX3_plain cX3_plain 2 (some .long), Cond.methodLink RX3 118 yX3_common, Cond.static yX3_common, Cond.code yX3_common cX3_common 10 (some .long)]
def wsX3_area : List Cond := .code yX3_area cX3_area 6 (some .long) :: ((wsX3_area_r1 ++ (wsX3_area_r2 ++ wsX3_area_r3)) ++ wsX30)
def wsX3_enough_r1 : List Cond := [Cond.constantLong RX3 111 (498960), Cond.methodLink RX3 43 yX3_isLayer, Cond.static yX3_isLayer, Cond.initialized RX3, Cond.code yX3_isLayer cX3_isLayer 1 (some .boolean), Cond.methodLink RX3 39 yX3_in, Cond.static yX3_in, Cond.code yX3_in cX3_in 3 (some .boolean), Cond.methodLink RX3 138 yX3_coverOf, Cond.instanceMethod yX3_coverOf, Cond.selects RX3 yX3_coverOf yX3_coverOf, Cond.code yX3_coverOf cX3_coverOf 3 (some .long), Cond.methodLink RX3 115 yX3_coverMoved, Cond.instanceMethod yX3_coverMoved, Cond.selects RX3 yX3_coverMoved yX3_coverMoved, Cond.code yX3_coverMoved cX3_coverMoved 9 (some .long), Cond.fieldLink RX3 7 "DotCoverModel" "state" "[I", Cond.constantLong RX3 113 (997920), Cond.methodLink RX3 103 yX3_rawOf, Cond.instanceMethod yX3_rawOf, Cond.selects RX3 yX3_rawOf yX3_rawOf, Cond.code yX3_rawOf cX3_rawOf 9 (some .long), Cond.constantLong RX3 93 (83160), Cond.constantLong RX3 73 (27720)]
def wsX3_enough_r2 : List Cond := [Cond.methodLink RX3 90 yX3_layPath, Cond.instanceMethod yX3_layPath, Cond.selects RX3 yX3_layPath yX3_layPath, Cond.code yX3_layPath cX3_layPath 5 none, Cond.fieldLink RX3 69 "DotCoverModel" "corners" "I", Cond.fieldLink RX3 26 "DotCoverModel" "px" "[J", Cond.fieldLink RX3 30 "DotCoverModel" "py" "[J", Cond.methodLink RX3 51 yX3_place, Cond.static yX3_place, Cond.code yX3_place cX3_place 2 (some .int), Cond.methodLink RX3 95 yX3_cutSide, Cond.instanceMethod yX3_cutSide, Cond.selects RX3 yX3_cutSide yX3_cutSide, Cond.code yX3_cutSide cX3_cutSide 10 none, Cond.fieldLink RX3 75 "DotCoverModel" "left" "I", Cond.fieldLink RX3 33 "DotCoverModel" "leftX" "[J", Cond.fieldLink RX3 36 "DotCoverModel" "leftY" "[J", Cond.methodLink RX3 82 yX3_within, Cond.instanceMethod yX3_within, Cond.selects RX3 yX3_within yX3_within, Cond.code yX3_within cX3_within 5 (some .long), Cond.methodLink RX3 78 yX3_leave, Cond.instanceMethod yX3_leave, Cond.selects RX3 yX3_leave yX3_leave]
def wsX3_enough_r3 : List Cond := [Cond.code yX3_leave cX3_leave 5 none, Cond.methodLink RX3 86 yX3_leaveCrossing, Cond.instanceMethod yX3_leaveCrossing, Cond.selects RX3 yX3_leaveCrossing yX3_leaveCrossing, Cond.code yX3_leaveCrossing cX3_leaveCrossing 6 none, Cond.methodLink RX3 99 yX3_twiceArea, Cond.instanceMethod yX3_twiceArea, Cond.selects RX3 yX3_twiceArea yX3_twiceArea, Cond.code yX3_twiceArea cX3_twiceArea 5 (some .long), Cond.methodLink RX3 107 yX3_plain, Cond.static yX3_plain, Cond.code yX3_plain cX3_plain 2 (some .long)]
def wsX3_enough : List Cond := .code yX3_enough cX3_enough 6 (some .int) :: ((wsX3_enough_r1 ++ (wsX3_enough_r2 ++ wsX3_enough_r3)) ++ wsX30)
def wsX3_field_r1 : List Cond := [Cond.methodLink RX3 39 yX3_in, Cond.static yX3_in, Cond.initialized RX3, Cond.code yX3_in cX3_in 3 (some .boolean), Cond.methodLink RX3 149 yX3_openOf, Cond.instanceMethod yX3_openOf, Cond.selects RX3 yX3_openOf yX3_openOf, Cond.code yX3_openOf cX3_openOf 5 (some .long), Cond.constantLong RX3 111 (498960), Cond.methodLink RX3 138 yX3_coverOf, Cond.instanceMethod yX3_coverOf, Cond.selects RX3 yX3_coverOf yX3_coverOf, Cond.code yX3_coverOf cX3_coverOf 3 (some .long), Cond.methodLink RX3 115 yX3_coverMoved, Cond.instanceMethod yX3_coverMoved, Cond.selects RX3 yX3_coverMoved yX3_coverMoved, Cond.code yX3_coverMoved cX3_coverMoved 9 (some .long), Cond.fieldLink RX3 7 "DotCoverModel" "state" "[I", Cond.constantLong RX3 113 (997920), Cond.methodLink RX3 103 yX3_rawOf, Cond.instanceMethod yX3_rawOf, Cond.selects RX3 yX3_rawOf yX3_rawOf, Cond.code yX3_rawOf cX3_rawOf 9 (some .long), Cond.constantLong RX3 93 (83160)]
def wsX3_field_r2 : List Cond := [Cond.constantLong RX3 73 (27720), Cond.methodLink RX3 90 yX3_layPath, Cond.instanceMethod yX3_layPath, Cond.selects RX3 yX3_layPath yX3_layPath, Cond.code yX3_layPath cX3_layPath 5 none, Cond.fieldLink RX3 69 "DotCoverModel" "corners" "I", Cond.fieldLink RX3 26 "DotCoverModel" "px" "[J", Cond.fieldLink RX3 30 "DotCoverModel" "py" "[J", Cond.methodLink RX3 51 yX3_place, Cond.static yX3_place, Cond.code yX3_place cX3_place 2 (some .int), Cond.methodLink RX3 95 yX3_cutSide, Cond.instanceMethod yX3_cutSide, Cond.selects RX3 yX3_cutSide yX3_cutSide, Cond.code yX3_cutSide cX3_cutSide 10 none, Cond.fieldLink RX3 75 "DotCoverModel" "left" "I", Cond.fieldLink RX3 33 "DotCoverModel" "leftX" "[J", Cond.fieldLink RX3 36 "DotCoverModel" "leftY" "[J", Cond.methodLink RX3 82 yX3_within, Cond.instanceMethod yX3_within, Cond.selects RX3 yX3_within yX3_within, Cond.code yX3_within cX3_within 5 (some .long), Cond.methodLink RX3 78 yX3_leave, Cond.instanceMethod yX3_leave]
def wsX3_field_r3 : List Cond := [Cond.selects RX3 yX3_leave yX3_leave, Cond.code yX3_leave cX3_leave 5 none, Cond.methodLink RX3 86 yX3_leaveCrossing, Cond.instanceMethod yX3_leaveCrossing, Cond.selects RX3 yX3_leaveCrossing yX3_leaveCrossing, Cond.code yX3_leaveCrossing cX3_leaveCrossing 6 none, Cond.methodLink RX3 99 yX3_twiceArea, Cond.instanceMethod yX3_twiceArea, Cond.selects RX3 yX3_twiceArea yX3_twiceArea, Cond.code yX3_twiceArea cX3_twiceArea 5 (some .long), Cond.methodLink RX3 107 yX3_plain, Cond.static yX3_plain, Cond.code yX3_plain cX3_plain 2 (some .long), Cond.methodLink RX3 146 yX3_whole, Cond.static yX3_whole, Cond.code yX3_whole cX3_whole 0 (some .long), Cond.constantLong RX3 144 (124221621275136000)]
def wsX3_field : List Cond := .code yX3_field cX3_field 9 (some .int) :: ((wsX3_field_r1 ++ (wsX3_field_r2 ++ wsX3_field_r3)) ++ wsX30)
def wsX3_fullMoved_r1 : List Cond := [Cond.constantLong RX3 111 (498960), Cond.methodLink RX3 115 yX3_coverMoved, Cond.instanceMethod yX3_coverMoved, Cond.selects RX3 yX3_coverMoved yX3_coverMoved, Cond.initialized RX3, Cond.code yX3_coverMoved cX3_coverMoved 9 (some .long), Cond.fieldLink RX3 7 "DotCoverModel" "state" "[I", Cond.constantLong RX3 113 (997920), Cond.methodLink RX3 103 yX3_rawOf, Cond.instanceMethod yX3_rawOf, Cond.selects RX3 yX3_rawOf yX3_rawOf, Cond.code yX3_rawOf cX3_rawOf 9 (some .long), Cond.constantLong RX3 93 (83160), Cond.constantLong RX3 73 (27720), Cond.methodLink RX3 90 yX3_layPath, Cond.instanceMethod yX3_layPath, Cond.selects RX3 yX3_layPath yX3_layPath, Cond.code yX3_layPath cX3_layPath 5 none, Cond.fieldLink RX3 69 "DotCoverModel" "corners" "I", Cond.fieldLink RX3 26 "DotCoverModel" "px" "[J", Cond.fieldLink RX3 30 "DotCoverModel" "py" "[J", Cond.methodLink RX3 51 yX3_place, Cond.static yX3_place, Cond.code yX3_place cX3_place 2 (some .int)]
def wsX3_fullMoved_r2 : List Cond := [Cond.methodLink RX3 95 yX3_cutSide, Cond.instanceMethod yX3_cutSide, Cond.selects RX3 yX3_cutSide yX3_cutSide, Cond.code yX3_cutSide cX3_cutSide 10 none, Cond.fieldLink RX3 75 "DotCoverModel" "left" "I", Cond.fieldLink RX3 33 "DotCoverModel" "leftX" "[J", Cond.fieldLink RX3 36 "DotCoverModel" "leftY" "[J", Cond.methodLink RX3 82 yX3_within, Cond.instanceMethod yX3_within, Cond.selects RX3 yX3_within yX3_within, Cond.code yX3_within cX3_within 5 (some .long), Cond.methodLink RX3 78 yX3_leave, Cond.instanceMethod yX3_leave, Cond.selects RX3 yX3_leave yX3_leave, Cond.code yX3_leave cX3_leave 5 none, Cond.methodLink RX3 86 yX3_leaveCrossing, Cond.instanceMethod yX3_leaveCrossing, Cond.selects RX3 yX3_leaveCrossing yX3_leaveCrossing, Cond.code yX3_leaveCrossing cX3_leaveCrossing 6 none, Cond.methodLink RX3 99 yX3_twiceArea, Cond.instanceMethod yX3_twiceArea, Cond.selects RX3 yX3_twiceArea yX3_twiceArea, Cond.code yX3_twiceArea cX3_twiceArea 5 (some .long), Cond.methodLink RX3 107 yX3_plain]
def wsX3_fullMoved_r3 : List Cond := [Cond.static yX3_plain, Cond.code yX3_plain cX3_plain 2 (some .long)]
def wsX3_fullMoved : List Cond := .code yX3_fullMoved cX3_fullMoved 6 (some .int) :: ((wsX3_fullMoved_r1 ++ (wsX3_fullMoved_r2 ++ wsX3_fullMoved_r3)) ++ wsX30)
def wsX3_best_r1 : List Cond := [Cond.fieldLink RX3 7 "DotCoverModel" "state" "[I", Cond.methodLink RX3 43 yX3_isLayer, Cond.static yX3_isLayer, Cond.initialized RX3, Cond.code yX3_isLayer cX3_isLayer 1 (some .boolean), Cond.methodLink RX3 39 yX3_in, Cond.static yX3_in, Cond.code yX3_in cX3_in 3 (some .boolean), Cond.methodLink RX3 58 yX3_canMove, Cond.instanceMethod yX3_canMove, Cond.selects RX3 yX3_canMove yX3_canMove, Cond.code yX3_canMove cX3_canMove 6 (some .boolean), Cond.methodLink RX3 51 yX3_place, Cond.static yX3_place, Cond.code yX3_place cX3_place 2 (some .int), Cond.methodLink RX3 47 yX3_isHere, Cond.static yX3_isHere, Cond.code yX3_isHere cX3_isHere 2 (some .boolean), Cond.methodLink RX3 155 yX3_fullMoved, Cond.instanceMethod yX3_fullMoved, Cond.selects RX3 yX3_fullMoved yX3_fullMoved, Cond.code yX3_fullMoved cX3_fullMoved 6 (some .int), Cond.constantLong RX3 111 (498960), Cond.methodLink RX3 115 yX3_coverMoved]
def wsX3_best_r2 : List Cond := [Cond.instanceMethod yX3_coverMoved, Cond.selects RX3 yX3_coverMoved yX3_coverMoved, Cond.code yX3_coverMoved cX3_coverMoved 9 (some .long), Cond.constantLong RX3 113 (997920), Cond.methodLink RX3 103 yX3_rawOf, Cond.instanceMethod yX3_rawOf, Cond.selects RX3 yX3_rawOf yX3_rawOf, Cond.code yX3_rawOf cX3_rawOf 9 (some .long), Cond.constantLong RX3 93 (83160), Cond.constantLong RX3 73 (27720), Cond.methodLink RX3 90 yX3_layPath, Cond.instanceMethod yX3_layPath, Cond.selects RX3 yX3_layPath yX3_layPath, Cond.code yX3_layPath cX3_layPath 5 none, Cond.fieldLink RX3 69 "DotCoverModel" "corners" "I", Cond.fieldLink RX3 26 "DotCoverModel" "px" "[J", Cond.fieldLink RX3 30 "DotCoverModel" "py" "[J", Cond.methodLink RX3 95 yX3_cutSide, Cond.instanceMethod yX3_cutSide, Cond.selects RX3 yX3_cutSide yX3_cutSide, Cond.code yX3_cutSide cX3_cutSide 10 none, Cond.fieldLink RX3 75 "DotCoverModel" "left" "I", Cond.fieldLink RX3 33 "DotCoverModel" "leftX" "[J", Cond.fieldLink RX3 36 "DotCoverModel" "leftY" "[J"]
def wsX3_best_r3 : List Cond := [Cond.methodLink RX3 82 yX3_within, Cond.instanceMethod yX3_within, Cond.selects RX3 yX3_within yX3_within, Cond.code yX3_within cX3_within 5 (some .long), Cond.methodLink RX3 78 yX3_leave, Cond.instanceMethod yX3_leave, Cond.selects RX3 yX3_leave yX3_leave, Cond.code yX3_leave cX3_leave 5 none, Cond.methodLink RX3 86 yX3_leaveCrossing, Cond.instanceMethod yX3_leaveCrossing, Cond.selects RX3 yX3_leaveCrossing yX3_leaveCrossing, Cond.code yX3_leaveCrossing cX3_leaveCrossing 6 none, Cond.methodLink RX3 99 yX3_twiceArea, Cond.instanceMethod yX3_twiceArea, Cond.selects RX3 yX3_twiceArea yX3_twiceArea, Cond.code yX3_twiceArea cX3_twiceArea 5 (some .long), Cond.methodLink RX3 107 yX3_plain, Cond.static yX3_plain, Cond.code yX3_plain cX3_plain 2 (some .long)]
def wsX3_best : List Cond := .code yX3_best cX3_best 9 (some .int) :: ((wsX3_best_r1 ++ (wsX3_best_r2 ++ wsX3_best_r3)) ++ wsX30)
def wsX3_same_r1 : List Cond := [Cond.methodLink RX3 43 yX3_isLayer, Cond.static yX3_isLayer, Cond.initialized RX3, Cond.code yX3_isLayer cX3_isLayer 1 (some .boolean), Cond.methodLink RX3 39 yX3_in, Cond.static yX3_in, Cond.code yX3_in cX3_in 3 (some .boolean), Cond.methodLink RX3 138 yX3_coverOf, Cond.instanceMethod yX3_coverOf, Cond.selects RX3 yX3_coverOf yX3_coverOf, Cond.code yX3_coverOf cX3_coverOf 3 (some .long), Cond.methodLink RX3 115 yX3_coverMoved, Cond.instanceMethod yX3_coverMoved, Cond.selects RX3 yX3_coverMoved yX3_coverMoved, Cond.code yX3_coverMoved cX3_coverMoved 9 (some .long), Cond.fieldLink RX3 7 "DotCoverModel" "state" "[I", Cond.constantLong RX3 111 (498960), Cond.constantLong RX3 113 (997920), Cond.methodLink RX3 103 yX3_rawOf, Cond.instanceMethod yX3_rawOf, Cond.selects RX3 yX3_rawOf yX3_rawOf, Cond.code yX3_rawOf cX3_rawOf 9 (some .long), Cond.constantLong RX3 93 (83160), Cond.constantLong RX3 73 (27720)]
def wsX3_same_r2 : List Cond := [Cond.methodLink RX3 90 yX3_layPath, Cond.instanceMethod yX3_layPath, Cond.selects RX3 yX3_layPath yX3_layPath, Cond.code yX3_layPath cX3_layPath 5 none, Cond.fieldLink RX3 69 "DotCoverModel" "corners" "I", Cond.fieldLink RX3 26 "DotCoverModel" "px" "[J", Cond.fieldLink RX3 30 "DotCoverModel" "py" "[J", Cond.methodLink RX3 51 yX3_place, Cond.static yX3_place, Cond.code yX3_place cX3_place 2 (some .int), Cond.methodLink RX3 95 yX3_cutSide, Cond.instanceMethod yX3_cutSide, Cond.selects RX3 yX3_cutSide yX3_cutSide, Cond.code yX3_cutSide cX3_cutSide 10 none, Cond.fieldLink RX3 75 "DotCoverModel" "left" "I", Cond.fieldLink RX3 33 "DotCoverModel" "leftX" "[J", Cond.fieldLink RX3 36 "DotCoverModel" "leftY" "[J", Cond.methodLink RX3 82 yX3_within, Cond.instanceMethod yX3_within, Cond.selects RX3 yX3_within yX3_within, Cond.code yX3_within cX3_within 5 (some .long), Cond.methodLink RX3 78 yX3_leave, Cond.instanceMethod yX3_leave, Cond.selects RX3 yX3_leave yX3_leave]
def wsX3_same_r3 : List Cond := [Cond.code yX3_leave cX3_leave 5 none, Cond.methodLink RX3 86 yX3_leaveCrossing, Cond.instanceMethod yX3_leaveCrossing, Cond.selects RX3 yX3_leaveCrossing yX3_leaveCrossing, Cond.code yX3_leaveCrossing cX3_leaveCrossing 6 none, Cond.methodLink RX3 99 yX3_twiceArea, Cond.instanceMethod yX3_twiceArea, Cond.selects RX3 yX3_twiceArea yX3_twiceArea, Cond.code yX3_twiceArea cX3_twiceArea 5 (some .long), Cond.methodLink RX3 107 yX3_plain, Cond.static yX3_plain, Cond.code yX3_plain cX3_plain 2 (some .long)]
def wsX3_same : List Cond := .code yX3_same cX3_same 5 (some .int) :: ((wsX3_same_r1 ++ (wsX3_same_r2 ++ wsX3_same_r3)) ++ wsX30)
def wsX3_image : List Cond := .code yX3_image cX3_image 3 (some .int) :: ([.fieldLink RX3 13 "DotCoverModel" "images" "[I", .fieldLink RX3 7 "DotCoverModel" "state" "[I", .fieldLink RX3 16 "DotCoverModel" "isKept" "[Z", .methodLink RX3 39 yX3_in, .static yX3_in, .initialized RX3, .code yX3_in cX3_in 3 (some .boolean)] ++ wsX30)
def wsX3_restore : List Cond := .code yX3_restore cX3_restore 3 (some .int) :: ([.fieldLink RX3 16 "DotCoverModel" "isKept" "[Z", .fieldLink RX3 7 "DotCoverModel" "state" "[I", .fieldLink RX3 13 "DotCoverModel" "images" "[I", .methodLink RX3 39 yX3_in, .static yX3_in, .initialized RX3, .code yX3_in cX3_in 3 (some .boolean)] ++ wsX30)
def wsX3_count : List Cond := .code yX3_count cX3_count 2 (some .int) :: ([.fieldLink RX3 7 "DotCoverModel" "state" "[I", .fieldLink RX3 16 "DotCoverModel" "isKept" "[Z", .methodLink RX3 39 yX3_in, .static yX3_in, .initialized RX3, .code yX3_in cX3_in 3 (some .boolean)] ++ wsX30)
def wsJ9_abs_0f7a4 : List Cond := .code yJ9_abs_0f7a4 cJ9_abs_0f7a4 1 (some .int) :: ([])
def wsJ9_abs_067f4 : List Cond := .code yJ9_abs_067f4 cJ9_abs_067f4 2 (some .long) :: ([])
def wsJ9_max_7cf53 : List Cond := .code yJ9_max_7cf53 cJ9_max_7cf53 2 (some .int) :: ([])
def wsJ9_min_7cf53 : List Cond := .code yJ9_min_7cf53 cJ9_min_7cf53 2 (some .int) :: ([])
def wsJ9_min_f86c9 : List Cond := .code yJ9_min_f86c9 cJ9_min_f86c9 4 (some .long) :: ([])
def wsL_law_r1 : List Cond := [Cond.classLink RL 7 RX2, Cond.instantiable RX2 3, Cond.initialized RX2, Cond.classLink RL 10 RX3, Cond.instantiable RX3 11, Cond.initialized RX3, Cond.methodLink RL 9 yX2_init, Cond.instanceMethod yX2_init, Cond.code yX2_init cX2_init 2 none, Cond.methodLink RX2 3 objectInit, Cond.instanceMethod objectInit, Cond.code objectInit ⟨#[0xb1]⟩ 1 none, Cond.classLink RX2 9 RX1, Cond.instantiable RX1 1, Cond.initialized RX1, Cond.fieldLink RX2 12 "DotCover" "now" "LDotCover$Scene;", Cond.fieldLink RX2 16 "DotCover" "images" "[LDotCover$Scene;", Cond.fieldLink RX2 20 "DotCover" "keptImages" "I", Cond.methodLink RX2 11 yX1_init, Cond.instanceMethod yX1_init, Cond.code yX1_init cX1_init 2 none, Cond.methodLink RX1 3 objectInit, Cond.classLink RX1 9 RX0, Cond.fieldLink RX1 11 "DotCover$Scene" "layers" "[LDotCover$Layer;"]
def wsL_law_r2 : List Cond := [Cond.instantiable RX0 4, Cond.initialized RX0, Cond.methodLink RX1 17 yX0_init, Cond.instanceMethod yX0_init, Cond.code yX0_init cX0_init 1 none, Cond.methodLink RX0 3 objectInit, Cond.arrayClass .int, Cond.fieldLink RX0 9 "DotCover$Layer" "xs" "[I", Cond.fieldLink RX0 15 "DotCover$Layer" "ys" "[I", Cond.fieldLink RX0 18 "DotCover$Layer" "size" "I", Cond.fieldLink RX0 22 "DotCover$Layer" "folding" "I", Cond.methodLink RL 12 yX3_init, Cond.instanceMethod yX3_init, Cond.code yX3_init cX3_init 1 none, Cond.methodLink RX3 1 objectInit, Cond.fieldLink RX3 7 "DotCoverModel" "state" "[I", Cond.fieldLink RX3 13 "DotCoverModel" "images" "[I", Cond.arrayClass .boolean, Cond.fieldLink RX3 16 "DotCoverModel" "isKept" "[Z", Cond.fieldLink RX3 20 "DotCoverModel" "wasX" "[I", Cond.fieldLink RX3 23 "DotCoverModel" "wasY" "[I", Cond.arrayClass .long, Cond.fieldLink RX3 26 "DotCoverModel" "px" "[J", Cond.fieldLink RX3 30 "DotCoverModel" "py" "[J"]
def wsL_law_r3 : List Cond := [Cond.fieldLink RX3 33 "DotCoverModel" "leftX" "[J", Cond.fieldLink RX3 36 "DotCoverModel" "leftY" "[J", Cond.methodLink RL 13 yX2_point, Cond.instanceMethod yX2_point, Cond.selects RX2 yX2_point yX2_point, Cond.code yX2_point cX2_point 5 (some .int), Cond.methodLink RX2 24 yX1_layerOf, Cond.instanceMethod yX1_layerOf, Cond.selects RX1 yX1_layerOf yX1_layerOf, Cond.code yX1_layerOf cX1_layerOf 2 (some (.object "DotCover$Layer")), Cond.static yX2_within, Cond.code yX2_within cX2_within 3 (some .boolean), Cond.methodLink RX2 28 yX2_inField, Cond.static yX2_inField, Cond.code yX2_inField cX2_inField 1 (some .boolean), Cond.methodLink RX2 51 yX2_within, Cond.methodLink RX2 37 yX0_add, Cond.instanceMethod yX0_add, Cond.selects RX0 yX0_add yX0_add, Cond.code yX0_add cX0_add 4 (some .int), Cond.methodLink RL 17 yX3_point, Cond.instanceMethod yX3_point, Cond.selects RX3 yX3_point yX3_point, Cond.code yX3_point cX3_point 5 (some .int)]
def wsL_law_r4 : List Cond := [Cond.methodLink RX3 43 yX3_isLayer, Cond.static yX3_isLayer, Cond.code yX3_isLayer cX3_isLayer 1 (some .boolean), Cond.methodLink RX3 39 yX3_in, Cond.static yX3_in, Cond.code yX3_in cX3_in 3 (some .boolean), Cond.methodLink RX3 47 yX3_isHere, Cond.static yX3_isHere, Cond.code yX3_isHere cX3_isHere 2 (some .boolean), Cond.methodLink RX3 51 yX3_place, Cond.static yX3_place, Cond.code yX3_place cX3_place 2 (some .int), Cond.methodLink RL 18 yX2_pop, Cond.instanceMethod yX2_pop, Cond.selects RX2 yX2_pop yX2_pop, Cond.code yX2_pop cX2_pop 3 (some .int), Cond.methodLink RL 22 yX3_pop, Cond.instanceMethod yX3_pop, Cond.selects RX3 yX3_pop yX3_pop, Cond.code yX3_pop cX3_pop 2 (some .int), Cond.methodLink RL 23 yX2_set, Cond.instanceMethod yX2_set, Cond.selects RX2 yX2_set yX2_set, Cond.code yX2_set cX2_set 7 (some .int)]
def wsL_law_r5 : List Cond := [Cond.methodLink RX2 41 yX0_has, Cond.instanceMethod yX0_has, Cond.selects RX0 yX0_has yX0_has, Cond.code yX0_has cX0_has 2 (some .boolean), Cond.methodLink RL 27 yX3_set, Cond.instanceMethod yX3_set, Cond.selects RX3 yX3_set yX3_set, Cond.code yX3_set cX3_set 7 (some .int), Cond.methodLink RX3 55 yX3_isPoint, Cond.instanceMethod yX3_isPoint, Cond.selects RX3 yX3_isPoint yX3_isPoint, Cond.code yX3_isPoint cX3_isPoint 3 (some .boolean), Cond.methodLink RL 28 yX2_rule, Cond.instanceMethod yX2_rule, Cond.selects RX2 yX2_rule yX2_rule, Cond.code yX2_rule cX2_rule 5 (some .int), Cond.methodLink RL 32 yX3_rule, Cond.instanceMethod yX3_rule, Cond.selects RX3 yX3_rule yX3_rule, Cond.code yX3_rule cX3_rule 4 (some .int), Cond.methodLink RL 33 yX2_move, Cond.instanceMethod yX2_move, Cond.selects RX2 yX2_move yX2_move, Cond.code yX2_move cX2_move 5 (some .int)]
def wsL_law_r6 : List Cond := [Cond.methodLink RX2 58 yX0_staysInField, Cond.instanceMethod yX0_staysInField, Cond.selects RX0 yX0_staysInField yX0_staysInField, Cond.code yX0_staysInField cX0_staysInField 4 (some .boolean), Cond.methodLink RX2 62 yX0_shift, Cond.instanceMethod yX0_shift, Cond.selects RX0 yX0_shift yX0_shift, Cond.code yX0_shift cX0_shift 4 none, Cond.methodLink RL 36 yX3_move, Cond.instanceMethod yX3_move, Cond.selects RX3 yX3_move yX3_move, Cond.code yX3_move cX3_move 5 (some .int), Cond.methodLink RX3 58 yX3_canMove, Cond.instanceMethod yX3_canMove, Cond.selects RX3 yX3_canMove yX3_canMove, Cond.code yX3_canMove cX3_canMove 6 (some .boolean), Cond.methodLink RL 37 yX2_back, Cond.instanceMethod yX2_back, Cond.selects RX2 yX2_back yX2_back, Cond.code yX2_back cX2_back 3 (some .int), Cond.methodLink RX2 66 yX0_reverse, Cond.instanceMethod yX0_reverse, Cond.selects RX0 yX0_reverse yX0_reverse, Cond.code yX0_reverse cX0_reverse 5 none]
def wsL_law_r7 : List Cond := [Cond.methodLink RX0 29 yX0_swap, Cond.instanceMethod yX0_swap, Cond.selects RX0 yX0_swap yX0_swap, Cond.code yX0_swap cX0_swap 5 none, Cond.methodLink RL 40 yX3_back, Cond.instanceMethod yX3_back, Cond.selects RX3 yX3_back yX3_back, Cond.code yX3_back cX3_back 4 (some .int), Cond.methodLink RX3 61 yX3_putAside, Cond.instanceMethod yX3_putAside, Cond.selects RX3 yX3_putAside yX3_putAside, Cond.code yX3_putAside cX3_putAside 3 none, Cond.methodLink RX3 65 yX3_layFrom, Cond.instanceMethod yX3_layFrom, Cond.selects RX3 yX3_layFrom yX3_layFrom, Cond.code yX3_layFrom cX3_layFrom 4 none, Cond.methodLink RL 41 yX2_begin, Cond.instanceMethod yX2_begin, Cond.selects RX2 yX2_begin yX2_begin, Cond.code yX2_begin cX2_begin 4 (some .int), Cond.methodLink RX2 69 yX0_startAt, Cond.instanceMethod yX0_startAt, Cond.selects RX0 yX0_startAt yX0_startAt, Cond.code yX0_startAt cX0_startAt 2 none]
def wsL_law_r8 : List Cond := [Cond.methodLink RX0 33 yX0_reverse, Cond.methodLink RL 44 yX3_begin, Cond.instanceMethod yX3_begin, Cond.selects RX3 yX3_begin yX3_begin, Cond.code yX3_begin cX3_begin 5 (some .int), Cond.methodLink RL 45 yX2_at, Cond.instanceMethod yX2_at, Cond.selects RX2 yX2_at yX2_at, Cond.code yX2_at cX2_at 5 (some .int), Cond.methodLink RL 48 yX3_at, Cond.instanceMethod yX3_at, Cond.selects RX3 yX3_at yX3_at, Cond.code yX3_at cX3_at 4 (some .int), Cond.methodLink RL 49 yX2_raw, Cond.instanceMethod yX2_raw, Cond.selects RX2 yX2_raw yX2_raw, Cond.code yX2_raw cX2_raw 5 (some .long), Cond.constantLong RX2 76 (-1000000000000000001), Cond.constantLong RX2 78 (-1000000000000000002), Cond.constantLong RX2 84 (498960), Cond.methodLink RX2 73 yX2_isDot, Cond.static yX2_isDot, Cond.code yX2_isDot cX2_isDot 1 (some .boolean), Cond.methodLink RX2 80 yX0_rawParts]
def wsL_law_r9 : List Cond := [Cond.instanceMethod yX0_rawParts, Cond.selects RX0 yX0_rawParts yX0_rawParts, Cond.code yX0_rawParts cX0_rawParts 10 (some .long), Cond.methodLink RX0 74 yX0_leftOfEdge, Cond.static yX0_leftOfEdge, Cond.code yX0_leftOfEdge cX0_leftOfEdge 14 (some .long), Cond.methodLink RX0 53 Lib.Math.max.name, Cond.static Lib.Math.max.name, Cond.initialized "java/lang/Math", Cond.code Lib.Math.max.name Lib.Math.max.code 2 (some .int), Cond.methodLink RX0 47 Lib.Math.min.name, Cond.static Lib.Math.min.name, Cond.code Lib.Math.min.name Lib.Math.min.code 2 (some .int), Cond.methodLink RX0 78 Lib.Math.abs.name, Cond.static Lib.Math.abs.name, Cond.code Lib.Math.abs.name Lib.Math.abs.code 1 (some .int), Cond.methodLink RX0 81 yX0_beforeEdge, Cond.static yX0_beforeEdge, Cond.code yX0_beforeEdge cX0_beforeEdge 6 (some .long), Cond.constantLong RX0 85 (27720), Cond.methodLink RX2 86 yX2_lowestTerms, Cond.static yX2_lowestTerms, Cond.code yX2_lowestTerms cX2_lowestTerms 7 (some .long), Cond.methodLink RX2 127 Lib.MathLoose.abs_long.x]
def wsL_law_r10 : List Cond := [Cond.static Lib.MathLoose.abs_long.x, Cond.code Lib.MathLoose.abs_long.x Lib.MathLoose.abs_long.code 2 (some .long), Cond.methodLink RX2 133 yX2_greatestDivisor, Cond.static yX2_greatestDivisor, Cond.code yX2_greatestDivisor cX2_greatestDivisor 11 (some .long), Cond.methodLink RL 53 yX3_raw, Cond.instanceMethod yX3_raw, Cond.selects RX3 yX3_raw yX3_raw, Cond.code yX3_raw cX3_raw 4 (some .long), Cond.constantLong RX3 125 (-1000000000000000001), Cond.constantLong RX3 111 (498960), Cond.constantLong RX3 134 (-1000000000000000002), Cond.methodLink RX3 122 yX3_isDot, Cond.static yX3_isDot, Cond.code yX3_isDot cX3_isDot 1 (some .boolean), Cond.methodLink RX3 127 yX3_isPart, Cond.static yX3_isPart, Cond.code yX3_isPart cX3_isPart 1 (some .boolean), Cond.methodLink RX3 103 yX3_rawOf, Cond.instanceMethod yX3_rawOf, Cond.selects RX3 yX3_rawOf yX3_rawOf, Cond.code yX3_rawOf cX3_rawOf 9 (some .long), Cond.constantLong RX3 93 (83160), Cond.constantLong RX3 73 (27720)]
def wsL_law_r11 : List Cond := [Cond.methodLink RX3 90 yX3_layPath, Cond.instanceMethod yX3_layPath, Cond.selects RX3 yX3_layPath yX3_layPath, Cond.code yX3_layPath cX3_layPath 5 none, Cond.fieldLink RX3 69 "DotCoverModel" "corners" "I", Cond.methodLink RX3 95 yX3_cutSide, Cond.instanceMethod yX3_cutSide, Cond.selects RX3 yX3_cutSide yX3_cutSide, Cond.code yX3_cutSide cX3_cutSide 10 none, Cond.fieldLink RX3 75 "DotCoverModel" "left" "I", Cond.methodLink RX3 82 yX3_within, Cond.instanceMethod yX3_within, Cond.selects RX3 yX3_within yX3_within, Cond.code yX3_within cX3_within 5 (some .long), Cond.methodLink RX3 78 yX3_leave, Cond.instanceMethod yX3_leave, Cond.selects RX3 yX3_leave yX3_leave, Cond.code yX3_leave cX3_leave 5 none, Cond.methodLink RX3 86 yX3_leaveCrossing, Cond.instanceMethod yX3_leaveCrossing, Cond.selects RX3 yX3_leaveCrossing yX3_leaveCrossing, Cond.code yX3_leaveCrossing cX3_leaveCrossing 6 none, Cond.methodLink RX3 99 yX3_twiceArea, Cond.instanceMethod yX3_twiceArea]
def wsL_law_r12 : List Cond := [Cond.selects RX3 yX3_twiceArea yX3_twiceArea, Cond.code yX3_twiceArea cX3_twiceArea 5 (some .long), Cond.methodLink RX3 130 yX3_told, Cond.static yX3_told, Cond.code yX3_told cX3_told 7 (some .long), Cond.methodLink RX3 107 yX3_plain, Cond.static yX3_plain, Cond.code yX3_plain cX3_plain 2 (some .long), Cond.methodLink RX3 118 yX3_common, Cond.static yX3_common, Cond.code yX3_common cX3_common 10 (some .long), Cond.methodLink RL 54 yX2_cover, Cond.instanceMethod yX2_cover, Cond.selects RX2 yX2_cover yX2_cover, Cond.code yX2_cover cX2_cover 5 (some .long), Cond.constantLong RX2 90 (-1), Cond.constantLong RX2 92 (-2), Cond.methodLink RX2 94 yX0_coverParts, Cond.instanceMethod yX0_coverParts, Cond.selects RX0 yX0_coverParts yX0_coverParts, Cond.code yX0_coverParts cX0_coverParts 8 (some .long), Cond.methodLink RX0 65 Lib.MathLoose.abs_long.x, Cond.constantLong RX0 60 (498960), Cond.methodLink RX0 69 Lib.MathLoose.min_long.x]
def wsL_law_r13 : List Cond := [Cond.static Lib.MathLoose.min_long.x, Cond.code Lib.MathLoose.min_long.x Lib.MathLoose.min_long.code 4 (some .long), Cond.constantLong RX0 72 (997920), Cond.methodLink RX0 62 yX0_rawParts, Cond.methodLink RL 57 yX3_cover, Cond.instanceMethod yX3_cover, Cond.selects RX3 yX3_cover yX3_cover, Cond.code yX3_cover cX3_cover 4 (some .long), Cond.constantLong RX3 136 (-1), Cond.constantLong RX3 142 (-2), Cond.methodLink RX3 138 yX3_coverOf, Cond.instanceMethod yX3_coverOf, Cond.selects RX3 yX3_coverOf yX3_coverOf, Cond.code yX3_coverOf cX3_coverOf 3 (some .long), Cond.methodLink RX3 115 yX3_coverMoved, Cond.instanceMethod yX3_coverMoved, Cond.selects RX3 yX3_coverMoved yX3_coverMoved, Cond.code yX3_coverMoved cX3_coverMoved 9 (some .long), Cond.constantLong RX3 113 (997920), Cond.methodLink RL 58 yX2_together, Cond.instanceMethod yX2_together, Cond.selects RX2 yX2_together yX2_together, Cond.code yX2_together cX2_together 3 (some .long), Cond.constantLong RX2 101 (124221621275136000)]
def wsL_law_r14 : List Cond := [Cond.methodLink RX2 97 yX1_togetherParts, Cond.instanceMethod yX1_togetherParts, Cond.selects RX1 yX1_togetherParts yX1_togetherParts, Cond.code yX1_togetherParts cX1_togetherParts 5 (some .long), Cond.constantLong RX1 30 (498960), Cond.constantLong RX1 36 (124221621275136000), Cond.methodLink RX1 32 yX0_coverParts, Cond.methodLink RL 62 yX3_together, Cond.instanceMethod yX3_together, Cond.selects RX3 yX3_together yX3_together, Cond.code yX3_together cX3_together 3 (some .long), Cond.methodLink RX3 146 yX3_whole, Cond.static yX3_whole, Cond.code yX3_whole cX3_whole 0 (some .long), Cond.constantLong RX3 144 (124221621275136000), Cond.methodLink RX3 149 yX3_openOf, Cond.instanceMethod yX3_openOf, Cond.selects RX3 yX3_openOf yX3_openOf, Cond.code yX3_openOf cX3_openOf 5 (some .long), Cond.methodLink RL 63 yX2_area, Cond.instanceMethod yX2_area, Cond.selects RX2 yX2_area yX2_area, Cond.code yX2_area cX2_area 7 (some .long), Cond.constantLong RX2 103 (55440)]
def wsL_law_r15 : List Cond := [Cond.methodLink RL 66 yX3_area, Cond.instanceMethod yX3_area, Cond.selects RX3 yX3_area yX3_area, Cond.code yX3_area cX3_area 6 (some .long), Cond.constantLong RX3 153 (9), Cond.methodLink RL 67 yX2_enough, Cond.instanceMethod yX2_enough, Cond.selects RX2 yX2_enough yX2_enough, Cond.code yX2_enough cX2_enough 7 (some .int), Cond.methodLink RL 70 yX3_enough, Cond.instanceMethod yX3_enough, Cond.selects RX3 yX3_enough yX3_enough, Cond.code yX3_enough cX3_enough 6 (some .int), Cond.methodLink RL 71 yX2_field, Cond.instanceMethod yX2_field, Cond.selects RX2 yX2_field yX2_field, Cond.code yX2_field cX2_field 2 (some .int), Cond.methodLink RX2 105 yX1_mostCoveredDot, Cond.instanceMethod yX1_mostCoveredDot, Cond.selects RX1 yX1_mostCoveredDot yX1_mostCoveredDot, Cond.code yX1_mostCoveredDot cX1_mostCoveredDot 7 (some .int), Cond.methodLink RX1 38 yX1_togetherParts, Cond.methodLink RX2 109 yX1_leastCoveredDot, Cond.instanceMethod yX1_leastCoveredDot]
def wsL_law_r16 : List Cond := [Cond.selects RX1 yX1_leastCoveredDot yX1_leastCoveredDot, Cond.code yX1_leastCoveredDot cX1_leastCoveredDot 7 (some .int), Cond.methodLink RX2 112 yX1_dotsWithTogether, Cond.instanceMethod yX1_dotsWithTogether, Cond.selects RX1 yX1_dotsWithTogether yX1_dotsWithTogether, Cond.code yX1_dotsWithTogether cX1_dotsWithTogether 5 (some .int), Cond.methodLink RL 74 yX3_field, Cond.instanceMethod yX3_field, Cond.selects RX3 yX3_field yX3_field, Cond.code yX3_field cX3_field 9 (some .int), Cond.methodLink RL 75 yX2_best, Cond.instanceMethod yX2_best, Cond.selects RX2 yX2_best yX2_best, Cond.code yX2_best cX2_best 4 (some .int), Cond.methodLink RX2 116 yX0_bestMove, Cond.instanceMethod yX0_bestMove, Cond.selects RX0 yX0_bestMove yX0_bestMove, Cond.code yX0_bestMove cX0_bestMove 13 (some .int), Cond.methodLink RX0 36 yX0_least, Cond.instanceMethod yX0_least, Cond.selects RX0 yX0_least yX0_least, Cond.code yX0_least cX0_least 4 (some .int), Cond.methodLink RX0 40 yX0_greatest, Cond.instanceMethod yX0_greatest]
def wsL_law_r17 : List Cond := [Cond.selects RX0 yX0_greatest yX0_greatest, Cond.code yX0_greatest cX0_greatest 4 (some .int), Cond.methodLink RX0 43 yX0_wholeDots, Cond.instanceMethod yX0_wholeDots, Cond.selects RX0 yX0_wholeDots yX0_wholeDots, Cond.code yX0_wholeDots cX0_wholeDots 8 (some .int), Cond.methodLink RX0 56 yX0_coverParts, Cond.methodLink RL 78 yX3_best, Cond.instanceMethod yX3_best, Cond.selects RX3 yX3_best yX3_best, Cond.code yX3_best cX3_best 9 (some .int), Cond.methodLink RX3 155 yX3_fullMoved, Cond.instanceMethod yX3_fullMoved, Cond.selects RX3 yX3_fullMoved yX3_fullMoved, Cond.code yX3_fullMoved cX3_fullMoved 6 (some .int), Cond.methodLink RL 79 yX2_same, Cond.instanceMethod yX2_same, Cond.selects RX2 yX2_same yX2_same, Cond.code yX2_same cX2_same 7 (some .int), Cond.methodLink RL 82 yX3_same, Cond.instanceMethod yX3_same, Cond.selects RX3 yX3_same yX3_same, Cond.code yX3_same cX3_same 5 (some .int), Cond.methodLink RL 83 yX2_image]
def wsL_law_r18 : List Cond := [Cond.instanceMethod yX2_image, Cond.selects RX2 yX2_image yX2_image, Cond.code yX2_image cX2_image 2 (some .int), Cond.methodLink RX2 120 yX1_copyFrom, Cond.instanceMethod yX1_copyFrom, Cond.selects RX1 yX1_copyFrom yX1_copyFrom, Cond.code yX1_copyFrom cX1_copyFrom 3 none, Cond.methodLink RX1 22 yX0_copyFrom, Cond.instanceMethod yX0_copyFrom, Cond.selects RX0 yX0_copyFrom yX0_copyFrom, Cond.code yX0_copyFrom cX0_copyFrom 3 none, Cond.methodLink RL 86 yX3_image, Cond.instanceMethod yX3_image, Cond.selects RX3 yX3_image yX3_image, Cond.code yX3_image cX3_image 3 (some .int), Cond.methodLink RL 87 yX2_restore, Cond.instanceMethod yX2_restore, Cond.selects RX2 yX2_restore yX2_restore, Cond.code yX2_restore cX2_restore 2 (some .int), Cond.methodLink RL 90 yX3_restore, Cond.instanceMethod yX3_restore, Cond.selects RX3 yX3_restore yX3_restore, Cond.code yX3_restore cX3_restore 3 (some .int), Cond.methodLink RL 91 yX2_count]
def wsL_law_r19 : List Cond := [Cond.instanceMethod yX2_count, Cond.selects RX2 yX2_count yX2_count, Cond.code yX2_count cX2_count 4 (some .int), Cond.methodLink RX2 124 yX1_pointsOfAll, Cond.instanceMethod yX1_pointsOfAll, Cond.selects RX1 yX1_pointsOfAll yX1_pointsOfAll, Cond.code yX1_pointsOfAll cX1_pointsOfAll 3 (some .int), Cond.methodLink RL 94 yX3_count, Cond.instanceMethod yX3_count, Cond.selects RX3 yX3_count yX3_count, Cond.code yX3_count cX3_count 2 (some .int)]
def wsL_law : List Cond := (wsL_law_r1 ++ (wsL_law_r2 ++ (wsL_law_r3 ++ (wsL_law_r4 ++ (wsL_law_r5 ++ (wsL_law_r6 ++ (wsL_law_r7 ++ (wsL_law_r8 ++ (wsL_law_r9 ++ (wsL_law_r10 ++ (wsL_law_r11 ++ (wsL_law_r12 ++ (wsL_law_r13 ++ (wsL_law_r14 ++ (wsL_law_r15 ++ (wsL_law_r16 ++ (wsL_law_r17 ++ (wsL_law_r18 ++ wsL_law_r19)))))))))))))))))) ++ wsX20 ++ wsX30 ++ wsX10 ++ wsX00 ++ ([] : List Cond)
theorem dX0_init_0 : decode cX0_init 0 = .ok (.aload_n 0, 1) := by decide +kernel
theorem dX0_init_1 : decode cX0_init 1 = .ok (.invokespecial 3, 3) := by decide +kernel
theorem dX0_init_4 : decode cX0_init 4 = .ok (.aload_n 0, 1) := by decide +kernel
theorem dX0_init_5 : decode cX0_init 5 = .ok (.bipush 8, 2) := by decide +kernel
theorem dX0_init_7 : decode cX0_init 7 = .ok (.newarray .int, 2) := by decide +kernel
theorem dX0_init_9 : decode cX0_init 9 = .ok (.putfield 9, 3) := by decide +kernel
theorem dX0_init_12 : decode cX0_init 12 = .ok (.aload_n 0, 1) := by decide +kernel
theorem dX0_init_13 : decode cX0_init 13 = .ok (.bipush 8, 2) := by decide +kernel
theorem dX0_init_15 : decode cX0_init 15 = .ok (.newarray .int, 2) := by decide +kernel
theorem dX0_init_17 : decode cX0_init 17 = .ok (.putfield 15, 3) := by decide +kernel
theorem dX0_init_20 : decode cX0_init 20 = .ok (.aload_n 0, 1) := by decide +kernel
theorem dX0_init_21 : decode cX0_init 21 = .ok (.iconst 0, 1) := by decide +kernel
theorem dX0_init_22 : decode cX0_init 22 = .ok (.putfield 18, 3) := by decide +kernel
theorem dX0_init_25 : decode cX0_init 25 = .ok (.aload_n 0, 1) := by decide +kernel
theorem dX0_init_26 : decode cX0_init 26 = .ok (.iconst 0, 1) := by decide +kernel
theorem dX0_init_27 : decode cX0_init 27 = .ok (.putfield 22, 3) := by decide +kernel
theorem dX0_init_30 : decode cX0_init 30 = .ok (.return_, 1) := by decide +kernel
theorem dX0_has_0 : decode cX0_has 0 = .ok (.iload_n 1, 1) := by decide +kernel
theorem dX0_has_1 : decode cX0_has 1 = .ok (.ifCond .lt 15, 3) := by decide +kernel
theorem dX0_has_4 : decode cX0_has 4 = .ok (.iload_n 1, 1) := by decide +kernel
theorem dX0_has_5 : decode cX0_has 5 = .ok (.aload_n 0, 1) := by decide +kernel
theorem dX0_has_6 : decode cX0_has 6 = .ok (.getfield 18, 3) := by decide +kernel
theorem dX0_has_9 : decode cX0_has 9 = .ok (.if_icmp .ge 7, 3) := by decide +kernel
theorem dX0_has_12 : decode cX0_has 12 = .ok (.iconst 1, 1) := by decide +kernel
theorem dX0_has_13 : decode cX0_has 13 = .ok (.goto 4, 3) := by decide +kernel
theorem dX0_has_16 : decode cX0_has 16 = .ok (.iconst 0, 1) := by decide +kernel
theorem dX0_has_17 : decode cX0_has 17 = .ok (.ireturn, 1) := by decide +kernel
theorem dX0_add_0 : decode cX0_add 0 = .ok (.aload_n 0, 1) := by decide +kernel
theorem dX0_add_1 : decode cX0_add 1 = .ok (.getfield 18, 3) := by decide +kernel
theorem dX0_add_4 : decode cX0_add 4 = .ok (.istore_n 3, 1) := by decide +kernel
theorem dX0_add_5 : decode cX0_add 5 = .ok (.aload_n 0, 1) := by decide +kernel
theorem dX0_add_6 : decode cX0_add 6 = .ok (.getfield 9, 3) := by decide +kernel
theorem dX0_add_9 : decode cX0_add 9 = .ok (.iload_n 3, 1) := by decide +kernel
theorem dX0_add_10 : decode cX0_add 10 = .ok (.iload_n 1, 1) := by decide +kernel
theorem dX0_add_11 : decode cX0_add 11 = .ok (.iastore, 1) := by decide +kernel
theorem dX0_add_12 : decode cX0_add 12 = .ok (.aload_n 0, 1) := by decide +kernel
theorem dX0_add_13 : decode cX0_add 13 = .ok (.getfield 15, 3) := by decide +kernel
theorem dX0_add_16 : decode cX0_add 16 = .ok (.iload_n 3, 1) := by decide +kernel
theorem dX0_add_17 : decode cX0_add 17 = .ok (.iload_n 2, 1) := by decide +kernel
theorem dX0_add_18 : decode cX0_add 18 = .ok (.iastore, 1) := by decide +kernel
theorem dX0_add_19 : decode cX0_add 19 = .ok (.aload_n 0, 1) := by decide +kernel
theorem dX0_add_20 : decode cX0_add 20 = .ok (.dup, 1) := by decide +kernel
theorem dX0_add_21 : decode cX0_add 21 = .ok (.getfield 18, 3) := by decide +kernel
theorem dX0_add_24 : decode cX0_add 24 = .ok (.iconst 1, 1) := by decide +kernel
theorem dX0_add_25 : decode cX0_add 25 = .ok (.iadd, 1) := by decide +kernel
theorem dX0_add_26 : decode cX0_add 26 = .ok (.putfield 18, 3) := by decide +kernel
theorem dX0_add_29 : decode cX0_add 29 = .ok (.iload_n 3, 1) := by decide +kernel
theorem dX0_add_30 : decode cX0_add 30 = .ok (.ireturn, 1) := by decide +kernel
theorem dX0_copyFrom_0 : decode cX0_copyFrom 0 = .ok (.iconst 0, 1) := by decide +kernel
theorem dX0_copyFrom_1 : decode cX0_copyFrom 1 = .ok (.istore_n 2, 1) := by decide +kernel
theorem dX0_copyFrom_2 : decode cX0_copyFrom 2 = .ok (.iload_n 2, 1) := by decide +kernel
theorem dX0_copyFrom_3 : decode cX0_copyFrom 3 = .ok (.bipush 8, 2) := by decide +kernel
theorem dX0_copyFrom_5 : decode cX0_copyFrom 5 = .ok (.if_icmp .ge 33, 3) := by decide +kernel
theorem dX0_copyFrom_8 : decode cX0_copyFrom 8 = .ok (.aload_n 0, 1) := by decide +kernel
theorem dX0_copyFrom_9 : decode cX0_copyFrom 9 = .ok (.getfield 9, 3) := by decide +kernel
theorem dX0_copyFrom_12 : decode cX0_copyFrom 12 = .ok (.iload_n 2, 1) := by decide +kernel
theorem dX0_copyFrom_13 : decode cX0_copyFrom 13 = .ok (.aload_n 1, 1) := by decide +kernel
theorem dX0_copyFrom_14 : decode cX0_copyFrom 14 = .ok (.getfield 9, 3) := by decide +kernel
theorem dX0_copyFrom_17 : decode cX0_copyFrom 17 = .ok (.iload_n 2, 1) := by decide +kernel
theorem dX0_copyFrom_18 : decode cX0_copyFrom 18 = .ok (.iaload, 1) := by decide +kernel
theorem dX0_copyFrom_19 : decode cX0_copyFrom 19 = .ok (.iastore, 1) := by decide +kernel
theorem dX0_copyFrom_20 : decode cX0_copyFrom 20 = .ok (.aload_n 0, 1) := by decide +kernel
theorem dX0_copyFrom_21 : decode cX0_copyFrom 21 = .ok (.getfield 15, 3) := by decide +kernel
theorem dX0_copyFrom_24 : decode cX0_copyFrom 24 = .ok (.iload_n 2, 1) := by decide +kernel
theorem dX0_copyFrom_25 : decode cX0_copyFrom 25 = .ok (.aload_n 1, 1) := by decide +kernel
theorem dX0_copyFrom_26 : decode cX0_copyFrom 26 = .ok (.getfield 15, 3) := by decide +kernel
theorem dX0_copyFrom_29 : decode cX0_copyFrom 29 = .ok (.iload_n 2, 1) := by decide +kernel
theorem dX0_copyFrom_30 : decode cX0_copyFrom 30 = .ok (.iaload, 1) := by decide +kernel
theorem dX0_copyFrom_31 : decode cX0_copyFrom 31 = .ok (.iastore, 1) := by decide +kernel
theorem dX0_copyFrom_32 : decode cX0_copyFrom 32 = .ok (.iinc 2 1, 3) := by decide +kernel
theorem dX0_copyFrom_35 : decode cX0_copyFrom 35 = .ok (.goto (-33), 3) := by decide +kernel
theorem dX0_copyFrom_38 : decode cX0_copyFrom 38 = .ok (.aload_n 0, 1) := by decide +kernel
theorem dX0_copyFrom_39 : decode cX0_copyFrom 39 = .ok (.aload_n 1, 1) := by decide +kernel
theorem dX0_copyFrom_40 : decode cX0_copyFrom 40 = .ok (.getfield 18, 3) := by decide +kernel
theorem dX0_copyFrom_43 : decode cX0_copyFrom 43 = .ok (.putfield 18, 3) := by decide +kernel
theorem dX0_copyFrom_46 : decode cX0_copyFrom 46 = .ok (.aload_n 0, 1) := by decide +kernel
theorem dX0_copyFrom_47 : decode cX0_copyFrom 47 = .ok (.aload_n 1, 1) := by decide +kernel
theorem dX0_copyFrom_48 : decode cX0_copyFrom 48 = .ok (.getfield 22, 3) := by decide +kernel
theorem dX0_copyFrom_51 : decode cX0_copyFrom 51 = .ok (.putfield 22, 3) := by decide +kernel
theorem dX0_copyFrom_54 : decode cX0_copyFrom 54 = .ok (.return_, 1) := by decide +kernel
set_option maxRecDepth 20000 in
theorem ggX0_staysInField_X2_inField : GoodIn wsX0_staysInField wsX2_inField := goodIn_r _ [6, 7, 8, 5, 9] (by decide +kernel) (by decide +kernel)
set_option maxRecDepth 20000 in
theorem gX0_staysInField_X2_inField_n25 : GoodIn wsX0_staysInField (wsX2_inField) := ggX0_staysInField_X2_inField
theorem dX0_staysInField_0 : decode cX0_staysInField 0 = .ok (.iconst 0, 1) := by decide +kernel
theorem dX0_staysInField_1 : decode cX0_staysInField 1 = .ok (.istore_n 3, 1) := by decide +kernel
theorem dX0_staysInField_2 : decode cX0_staysInField 2 = .ok (.iload_n 3, 1) := by decide +kernel
theorem dX0_staysInField_3 : decode cX0_staysInField 3 = .ok (.aload_n 0, 1) := by decide +kernel
theorem dX0_staysInField_4 : decode cX0_staysInField 4 = .ok (.getfield 18, 3) := by decide +kernel
theorem dX0_staysInField_7 : decode cX0_staysInField 7 = .ok (.if_icmp .ge 39, 3) := by decide +kernel
theorem dX0_staysInField_10 : decode cX0_staysInField 10 = .ok (.aload_n 0, 1) := by decide +kernel
theorem dX0_staysInField_11 : decode cX0_staysInField 11 = .ok (.getfield 9, 3) := by decide +kernel
theorem dX0_staysInField_14 : decode cX0_staysInField 14 = .ok (.iload_n 3, 1) := by decide +kernel
theorem dX0_staysInField_15 : decode cX0_staysInField 15 = .ok (.iaload, 1) := by decide +kernel
theorem dX0_staysInField_16 : decode cX0_staysInField 16 = .ok (.iload_n 1, 1) := by decide +kernel
theorem dX0_staysInField_17 : decode cX0_staysInField 17 = .ok (.iadd, 1) := by decide +kernel
theorem dX0_staysInField_18 : decode cX0_staysInField 18 = .ok (.invokestatic 25, 3) := by decide +kernel
theorem dX0_staysInField_21 : decode cX0_staysInField 21 = .ok (.ifCond .eq 17, 3) := by decide +kernel
theorem dX0_staysInField_24 : decode cX0_staysInField 24 = .ok (.aload_n 0, 1) := by decide +kernel
theorem dX0_staysInField_25 : decode cX0_staysInField 25 = .ok (.getfield 15, 3) := by decide +kernel
theorem dX0_staysInField_28 : decode cX0_staysInField 28 = .ok (.iload_n 3, 1) := by decide +kernel
theorem dX0_staysInField_29 : decode cX0_staysInField 29 = .ok (.iaload, 1) := by decide +kernel
theorem dX0_staysInField_30 : decode cX0_staysInField 30 = .ok (.iload_n 2, 1) := by decide +kernel
theorem dX0_staysInField_31 : decode cX0_staysInField 31 = .ok (.iadd, 1) := by decide +kernel
theorem dX0_staysInField_32 : decode cX0_staysInField 32 = .ok (.invokestatic 25, 3) := by decide +kernel
theorem dX0_staysInField_35 : decode cX0_staysInField 35 = .ok (.ifCond .ne 5, 3) := by decide +kernel
theorem dX0_staysInField_38 : decode cX0_staysInField 38 = .ok (.iconst 0, 1) := by decide +kernel
theorem dX0_staysInField_39 : decode cX0_staysInField 39 = .ok (.ireturn, 1) := by decide +kernel
theorem dX0_staysInField_40 : decode cX0_staysInField 40 = .ok (.iinc 3 1, 3) := by decide +kernel
theorem dX0_staysInField_43 : decode cX0_staysInField 43 = .ok (.goto (-41), 3) := by decide +kernel
theorem dX0_staysInField_46 : decode cX0_staysInField 46 = .ok (.iconst 1, 1) := by decide +kernel
theorem dX0_staysInField_47 : decode cX0_staysInField 47 = .ok (.ireturn, 1) := by decide +kernel
theorem dX0_shift_0 : decode cX0_shift 0 = .ok (.iconst 0, 1) := by decide +kernel
theorem dX0_shift_1 : decode cX0_shift 1 = .ok (.istore_n 3, 1) := by decide +kernel
theorem dX0_shift_2 : decode cX0_shift 2 = .ok (.iload_n 3, 1) := by decide +kernel
theorem dX0_shift_3 : decode cX0_shift 3 = .ok (.aload_n 0, 1) := by decide +kernel
theorem dX0_shift_4 : decode cX0_shift 4 = .ok (.getfield 18, 3) := by decide +kernel
theorem dX0_shift_7 : decode cX0_shift 7 = .ok (.if_icmp .ge 29, 3) := by decide +kernel
theorem dX0_shift_10 : decode cX0_shift 10 = .ok (.aload_n 0, 1) := by decide +kernel
theorem dX0_shift_11 : decode cX0_shift 11 = .ok (.getfield 9, 3) := by decide +kernel
theorem dX0_shift_14 : decode cX0_shift 14 = .ok (.iload_n 3, 1) := by decide +kernel
theorem dX0_shift_15 : decode cX0_shift 15 = .ok (.dup2, 1) := by decide +kernel
theorem dX0_shift_16 : decode cX0_shift 16 = .ok (.iaload, 1) := by decide +kernel
theorem dX0_shift_17 : decode cX0_shift 17 = .ok (.iload_n 1, 1) := by decide +kernel
theorem dX0_shift_18 : decode cX0_shift 18 = .ok (.iadd, 1) := by decide +kernel
theorem dX0_shift_19 : decode cX0_shift 19 = .ok (.iastore, 1) := by decide +kernel
theorem dX0_shift_20 : decode cX0_shift 20 = .ok (.aload_n 0, 1) := by decide +kernel
theorem dX0_shift_21 : decode cX0_shift 21 = .ok (.getfield 15, 3) := by decide +kernel
theorem dX0_shift_24 : decode cX0_shift 24 = .ok (.iload_n 3, 1) := by decide +kernel
theorem dX0_shift_25 : decode cX0_shift 25 = .ok (.dup2, 1) := by decide +kernel
theorem dX0_shift_26 : decode cX0_shift 26 = .ok (.iaload, 1) := by decide +kernel
theorem dX0_shift_27 : decode cX0_shift 27 = .ok (.iload_n 2, 1) := by decide +kernel
theorem dX0_shift_28 : decode cX0_shift 28 = .ok (.iadd, 1) := by decide +kernel
theorem dX0_shift_29 : decode cX0_shift 29 = .ok (.iastore, 1) := by decide +kernel
theorem dX0_shift_30 : decode cX0_shift 30 = .ok (.iinc 3 1, 3) := by decide +kernel
theorem dX0_shift_33 : decode cX0_shift 33 = .ok (.goto (-31), 3) := by decide +kernel
theorem dX0_shift_36 : decode cX0_shift 36 = .ok (.return_, 1) := by decide +kernel
set_option maxRecDepth 20000 in
theorem ggX0_reverse_X0_swap : GoodIn wsX0_reverse wsX0_swap := goodIn_r _ [5, 6, 7, 8, 9, 10, 11] (by decide +kernel) (by decide +kernel)
set_option maxRecDepth 20000 in
theorem gX0_reverse_X0_swap : GoodIn wsX0_reverse (wsV RX0 29 RX0 yX0_swap wsX0_swap) := goodIn_app (goodIn_of _ (by decide +kernel)) ggX0_reverse_X0_swap
theorem dX0_reverse_0 : decode cX0_reverse 0 = .ok (.iload_n 2, 1) := by decide +kernel
theorem dX0_reverse_1 : decode cX0_reverse 1 = .ok (.iconst 1, 1) := by decide +kernel
theorem dX0_reverse_2 : decode cX0_reverse 2 = .ok (.isub, 1) := by decide +kernel
theorem dX0_reverse_3 : decode cX0_reverse 3 = .ok (.istore_n 3, 1) := by decide +kernel
theorem dX0_reverse_4 : decode cX0_reverse 4 = .ok (.iload_n 1, 1) := by decide +kernel
theorem dX0_reverse_5 : decode cX0_reverse 5 = .ok (.istore 4, 2) := by decide +kernel
theorem dX0_reverse_7 : decode cX0_reverse 7 = .ok (.iload 4, 2) := by decide +kernel
theorem dX0_reverse_9 : decode cX0_reverse 9 = .ok (.iload_n 3, 1) := by decide +kernel
theorem dX0_reverse_10 : decode cX0_reverse 10 = .ok (.if_icmp .ge 19, 3) := by decide +kernel
theorem dX0_reverse_13 : decode cX0_reverse 13 = .ok (.aload_n 0, 1) := by decide +kernel
theorem dX0_reverse_14 : decode cX0_reverse 14 = .ok (.iload 4, 2) := by decide +kernel
theorem dX0_reverse_16 : decode cX0_reverse 16 = .ok (.iload_n 3, 1) := by decide +kernel
theorem dX0_reverse_17 : decode cX0_reverse 17 = .ok (.invokevirtual 29, 3) := by decide +kernel
theorem dX0_reverse_20 : decode cX0_reverse 20 = .ok (.iinc 3 (-1), 3) := by decide +kernel
theorem dX0_reverse_23 : decode cX0_reverse 23 = .ok (.iinc 4 1, 3) := by decide +kernel
theorem dX0_reverse_26 : decode cX0_reverse 26 = .ok (.goto (-19), 3) := by decide +kernel
theorem dX0_reverse_29 : decode cX0_reverse 29 = .ok (.return_, 1) := by decide +kernel
theorem dX0_swap_0 : decode cX0_swap 0 = .ok (.aload_n 0, 1) := by decide +kernel
theorem dX0_swap_1 : decode cX0_swap 1 = .ok (.getfield 9, 3) := by decide +kernel
theorem dX0_swap_4 : decode cX0_swap 4 = .ok (.iload_n 1, 1) := by decide +kernel
theorem dX0_swap_5 : decode cX0_swap 5 = .ok (.iaload, 1) := by decide +kernel
theorem dX0_swap_6 : decode cX0_swap 6 = .ok (.istore_n 3, 1) := by decide +kernel
theorem dX0_swap_7 : decode cX0_swap 7 = .ok (.aload_n 0, 1) := by decide +kernel
theorem dX0_swap_8 : decode cX0_swap 8 = .ok (.getfield 15, 3) := by decide +kernel
theorem dX0_swap_11 : decode cX0_swap 11 = .ok (.iload_n 1, 1) := by decide +kernel
theorem dX0_swap_12 : decode cX0_swap 12 = .ok (.iaload, 1) := by decide +kernel
theorem dX0_swap_13 : decode cX0_swap 13 = .ok (.istore 4, 2) := by decide +kernel
theorem dX0_swap_15 : decode cX0_swap 15 = .ok (.aload_n 0, 1) := by decide +kernel
theorem dX0_swap_16 : decode cX0_swap 16 = .ok (.getfield 9, 3) := by decide +kernel
theorem dX0_swap_19 : decode cX0_swap 19 = .ok (.iload_n 1, 1) := by decide +kernel
theorem dX0_swap_20 : decode cX0_swap 20 = .ok (.aload_n 0, 1) := by decide +kernel
theorem dX0_swap_21 : decode cX0_swap 21 = .ok (.getfield 9, 3) := by decide +kernel
theorem dX0_swap_24 : decode cX0_swap 24 = .ok (.iload_n 2, 1) := by decide +kernel
theorem dX0_swap_25 : decode cX0_swap 25 = .ok (.iaload, 1) := by decide +kernel
theorem dX0_swap_26 : decode cX0_swap 26 = .ok (.iastore, 1) := by decide +kernel
theorem dX0_swap_27 : decode cX0_swap 27 = .ok (.aload_n 0, 1) := by decide +kernel
theorem dX0_swap_28 : decode cX0_swap 28 = .ok (.getfield 15, 3) := by decide +kernel
theorem dX0_swap_31 : decode cX0_swap 31 = .ok (.iload_n 1, 1) := by decide +kernel
theorem dX0_swap_32 : decode cX0_swap 32 = .ok (.aload_n 0, 1) := by decide +kernel
theorem dX0_swap_33 : decode cX0_swap 33 = .ok (.getfield 15, 3) := by decide +kernel
theorem dX0_swap_36 : decode cX0_swap 36 = .ok (.iload_n 2, 1) := by decide +kernel
theorem dX0_swap_37 : decode cX0_swap 37 = .ok (.iaload, 1) := by decide +kernel
theorem dX0_swap_38 : decode cX0_swap 38 = .ok (.iastore, 1) := by decide +kernel
theorem dX0_swap_39 : decode cX0_swap 39 = .ok (.aload_n 0, 1) := by decide +kernel
theorem dX0_swap_40 : decode cX0_swap 40 = .ok (.getfield 9, 3) := by decide +kernel
theorem dX0_swap_43 : decode cX0_swap 43 = .ok (.iload_n 2, 1) := by decide +kernel
theorem dX0_swap_44 : decode cX0_swap 44 = .ok (.iload_n 3, 1) := by decide +kernel
theorem dX0_swap_45 : decode cX0_swap 45 = .ok (.iastore, 1) := by decide +kernel
theorem dX0_swap_46 : decode cX0_swap 46 = .ok (.aload_n 0, 1) := by decide +kernel
theorem dX0_swap_47 : decode cX0_swap 47 = .ok (.getfield 15, 3) := by decide +kernel
theorem dX0_swap_50 : decode cX0_swap 50 = .ok (.iload_n 2, 1) := by decide +kernel
theorem dX0_swap_51 : decode cX0_swap 51 = .ok (.iload 4, 2) := by decide +kernel
theorem dX0_swap_53 : decode cX0_swap 53 = .ok (.iastore, 1) := by decide +kernel
theorem dX0_swap_54 : decode cX0_swap 54 = .ok (.return_, 1) := by decide +kernel
set_option maxRecDepth 20000 in
theorem ggX0_startAt_X0_reverse : GoodIn wsX0_startAt wsX0_reverse := goodIn_r _ [6, 7, 8, 9, 5, 10, 11, 12, 13, 14, 15, 16] (by decide +kernel) (by decide +kernel)
set_option maxRecDepth 20000 in
theorem gX0_startAt_X0_reverse : GoodIn wsX0_startAt (wsV RX0 33 RX0 yX0_reverse wsX0_reverse) := goodIn_app (goodIn_of _ (by decide +kernel)) ggX0_startAt_X0_reverse
theorem dX0_startAt_0 : decode cX0_startAt 0 = .ok (.aload_n 0, 1) := by decide +kernel
theorem dX0_startAt_1 : decode cX0_startAt 1 = .ok (.iconst 0, 1) := by decide +kernel
theorem dX0_startAt_2 : decode cX0_startAt 2 = .ok (.iload_n 1, 1) := by decide +kernel
theorem dX0_startAt_3 : decode cX0_startAt 3 = .ok (.invokevirtual 33, 3) := by decide +kernel
theorem dX0_startAt_6 : decode cX0_startAt 6 = .ok (.aload_n 0, 1) := by decide +kernel
theorem dX0_startAt_7 : decode cX0_startAt 7 = .ok (.iload_n 1, 1) := by decide +kernel
theorem dX0_startAt_8 : decode cX0_startAt 8 = .ok (.aload_n 0, 1) := by decide +kernel
theorem dX0_startAt_9 : decode cX0_startAt 9 = .ok (.getfield 18, 3) := by decide +kernel
theorem dX0_startAt_12 : decode cX0_startAt 12 = .ok (.invokevirtual 33, 3) := by decide +kernel
theorem dX0_startAt_15 : decode cX0_startAt 15 = .ok (.aload_n 0, 1) := by decide +kernel
theorem dX0_startAt_16 : decode cX0_startAt 16 = .ok (.iconst 0, 1) := by decide +kernel
theorem dX0_startAt_17 : decode cX0_startAt 17 = .ok (.aload_n 0, 1) := by decide +kernel
theorem dX0_startAt_18 : decode cX0_startAt 18 = .ok (.getfield 18, 3) := by decide +kernel
theorem dX0_startAt_21 : decode cX0_startAt 21 = .ok (.invokevirtual 33, 3) := by decide +kernel
theorem dX0_startAt_24 : decode cX0_startAt 24 = .ok (.return_, 1) := by decide +kernel
set_option maxRecDepth 20000 in
theorem ggX0_bestMove_X0_least : GoodIn wsX0_bestMove wsX0_least := goodIn_r _ [7, 8, 9, 10, 11, 12, 51, 52, 53, 54] (by decide +kernel) (by decide +kernel)
set_option maxRecDepth 20000 in
theorem gX0_bestMove_X0_least : GoodIn wsX0_bestMove (wsV RX0 36 RX0 yX0_least wsX0_least) := goodIn_app (goodIn_of _ (by decide +kernel)) ggX0_bestMove_X0_least
set_option maxRecDepth 20000 in
theorem ggX0_bestMove_X0_greatest : GoodIn wsX0_bestMove wsX0_greatest := goodIn_r _ [16, 8, 17, 18, 11, 19, 51, 52, 53, 54] (by decide +kernel) (by decide +kernel)
set_option maxRecDepth 20000 in
theorem gX0_bestMove_X0_greatest : GoodIn wsX0_bestMove (wsV RX0 40 RX0 yX0_greatest wsX0_greatest) := goodIn_app (goodIn_of _ (by decide +kernel)) ggX0_bestMove_X0_greatest
set_option maxRecDepth 20000 in
theorem ggX0_bestMove_X0_wholeDots : GoodIn wsX0_bestMove wsX0_wholeDots := goodIn_r _ [23, 24, 25, 26, 27, 6, 28, 29, 30, 11, 31, 32, 33, 34, 35, 36, 37, 38, 39, 40, 8, 2, 1, 41, 42, 43, 17, 18, 19, 9, 10, 12, 44, 45, 46, 47, 48, 49, 50, 51, 52, 53, 54] (by decide +kernel) (by decide +kernel)
set_option maxRecDepth 20000 in
theorem gX0_bestMove_X0_wholeDots : GoodIn wsX0_bestMove (wsV RX0 43 RX0 yX0_wholeDots wsX0_wholeDots) := goodIn_app (goodIn_of _ (by decide +kernel)) ggX0_bestMove_X0_wholeDots
theorem dX0_bestMove_0 : decode cX0_bestMove 0 = .ok (.aload_n 0, 1) := by decide +kernel
theorem dX0_bestMove_1 : decode cX0_bestMove 1 = .ok (.aload_n 0, 1) := by decide +kernel
theorem dX0_bestMove_2 : decode cX0_bestMove 2 = .ok (.getfield 9, 3) := by decide +kernel
theorem dX0_bestMove_5 : decode cX0_bestMove 5 = .ok (.invokevirtual 36, 3) := by decide +kernel
theorem dX0_bestMove_8 : decode cX0_bestMove 8 = .ok (.istore_n 2, 1) := by decide +kernel
theorem dX0_bestMove_9 : decode cX0_bestMove 9 = .ok (.aload_n 0, 1) := by decide +kernel
theorem dX0_bestMove_10 : decode cX0_bestMove 10 = .ok (.aload_n 0, 1) := by decide +kernel
theorem dX0_bestMove_11 : decode cX0_bestMove 11 = .ok (.getfield 9, 3) := by decide +kernel
theorem dX0_bestMove_14 : decode cX0_bestMove 14 = .ok (.invokevirtual 40, 3) := by decide +kernel
theorem dX0_bestMove_17 : decode cX0_bestMove 17 = .ok (.istore_n 3, 1) := by decide +kernel
theorem dX0_bestMove_18 : decode cX0_bestMove 18 = .ok (.aload_n 0, 1) := by decide +kernel
theorem dX0_bestMove_19 : decode cX0_bestMove 19 = .ok (.aload_n 0, 1) := by decide +kernel
theorem dX0_bestMove_20 : decode cX0_bestMove 20 = .ok (.getfield 15, 3) := by decide +kernel
theorem dX0_bestMove_23 : decode cX0_bestMove 23 = .ok (.invokevirtual 36, 3) := by decide +kernel
theorem dX0_bestMove_26 : decode cX0_bestMove 26 = .ok (.istore 4, 2) := by decide +kernel
theorem dX0_bestMove_28 : decode cX0_bestMove 28 = .ok (.aload_n 0, 1) := by decide +kernel
theorem dX0_bestMove_29 : decode cX0_bestMove 29 = .ok (.aload_n 0, 1) := by decide +kernel
theorem dX0_bestMove_30 : decode cX0_bestMove 30 = .ok (.getfield 15, 3) := by decide +kernel
theorem dX0_bestMove_33 : decode cX0_bestMove 33 = .ok (.invokevirtual 40, 3) := by decide +kernel
theorem dX0_bestMove_36 : decode cX0_bestMove 36 = .ok (.istore 5, 2) := by decide +kernel
theorem dX0_bestMove_38 : decode cX0_bestMove 38 = .ok (.iconst (-1), 1) := by decide +kernel
theorem dX0_bestMove_39 : decode cX0_bestMove 39 = .ok (.istore 6, 2) := by decide +kernel
theorem dX0_bestMove_41 : decode cX0_bestMove 41 = .ok (.iconst 0, 1) := by decide +kernel
theorem dX0_bestMove_42 : decode cX0_bestMove 42 = .ok (.istore 7, 2) := by decide +kernel
theorem dX0_bestMove_44 : decode cX0_bestMove 44 = .ok (.iconst 0, 1) := by decide +kernel
theorem dX0_bestMove_45 : decode cX0_bestMove 45 = .ok (.istore 8, 2) := by decide +kernel
theorem dX0_bestMove_47 : decode cX0_bestMove 47 = .ok (.iload_n 2, 1) := by decide +kernel
theorem dX0_bestMove_48 : decode cX0_bestMove 48 = .ok (.ineg, 1) := by decide +kernel
theorem dX0_bestMove_49 : decode cX0_bestMove 49 = .ok (.istore 9, 2) := by decide +kernel
theorem dX0_bestMove_51 : decode cX0_bestMove 51 = .ok (.iload 9, 2) := by decide +kernel
theorem dX0_bestMove_53 : decode cX0_bestMove 53 = .ok (.bipush 12, 2) := by decide +kernel
theorem dX0_bestMove_55 : decode cX0_bestMove 55 = .ok (.iload_n 3, 1) := by decide +kernel
theorem dX0_bestMove_56 : decode cX0_bestMove 56 = .ok (.isub, 1) := by decide +kernel
theorem dX0_bestMove_57 : decode cX0_bestMove 57 = .ok (.if_icmp .gt 96, 3) := by decide +kernel
theorem dX0_bestMove_60 : decode cX0_bestMove 60 = .ok (.iload 4, 2) := by decide +kernel
theorem dX0_bestMove_62 : decode cX0_bestMove 62 = .ok (.ineg, 1) := by decide +kernel
theorem dX0_bestMove_63 : decode cX0_bestMove 63 = .ok (.istore 10, 2) := by decide +kernel
theorem dX0_bestMove_65 : decode cX0_bestMove 65 = .ok (.iload 10, 2) := by decide +kernel
theorem dX0_bestMove_67 : decode cX0_bestMove 67 = .ok (.bipush 12, 2) := by decide +kernel
theorem dX0_bestMove_69 : decode cX0_bestMove 69 = .ok (.iload 5, 2) := by decide +kernel
theorem dX0_bestMove_71 : decode cX0_bestMove 71 = .ok (.isub, 1) := by decide +kernel
theorem dX0_bestMove_72 : decode cX0_bestMove 72 = .ok (.if_icmp .gt 75, 3) := by decide +kernel
theorem dX0_bestMove_75 : decode cX0_bestMove 75 = .ok (.iconst 0, 1) := by decide +kernel
theorem dX0_bestMove_76 : decode cX0_bestMove 76 = .ok (.istore 11, 2) := by decide +kernel
theorem dX0_bestMove_78 : decode cX0_bestMove 78 = .ok (.iload 4, 2) := by decide +kernel
theorem dX0_bestMove_80 : decode cX0_bestMove 80 = .ok (.iload 10, 2) := by decide +kernel
theorem dX0_bestMove_82 : decode cX0_bestMove 82 = .ok (.iadd, 1) := by decide +kernel
theorem dX0_bestMove_83 : decode cX0_bestMove 83 = .ok (.iconst 3, 1) := by decide +kernel
theorem dX0_bestMove_84 : decode cX0_bestMove 84 = .ok (.idiv, 1) := by decide +kernel
theorem dX0_bestMove_85 : decode cX0_bestMove 85 = .ok (.istore 12, 2) := by decide +kernel
theorem dX0_bestMove_87 : decode cX0_bestMove 87 = .ok (.iconst 3, 1) := by decide +kernel
theorem dX0_bestMove_88 : decode cX0_bestMove 88 = .ok (.iload 12, 2) := by decide +kernel
theorem dX0_bestMove_90 : decode cX0_bestMove 90 = .ok (.imul, 1) := by decide +kernel
theorem dX0_bestMove_91 : decode cX0_bestMove 91 = .ok (.iload 5, 2) := by decide +kernel
theorem dX0_bestMove_93 : decode cX0_bestMove 93 = .ok (.iload 10, 2) := by decide +kernel
theorem dX0_bestMove_95 : decode cX0_bestMove 95 = .ok (.iadd, 1) := by decide +kernel
theorem dX0_bestMove_96 : decode cX0_bestMove 96 = .ok (.if_icmp .ge 26, 3) := by decide +kernel
theorem dX0_bestMove_99 : decode cX0_bestMove 99 = .ok (.iload 11, 2) := by decide +kernel
theorem dX0_bestMove_101 : decode cX0_bestMove 101 = .ok (.aload_n 0, 1) := by decide +kernel
theorem dX0_bestMove_102 : decode cX0_bestMove 102 = .ok (.iload 12, 2) := by decide +kernel
theorem dX0_bestMove_104 : decode cX0_bestMove 104 = .ok (.iload_n 2, 1) := by decide +kernel
theorem dX0_bestMove_105 : decode cX0_bestMove 105 = .ok (.iload_n 3, 1) := by decide +kernel
theorem dX0_bestMove_106 : decode cX0_bestMove 106 = .ok (.iload 9, 2) := by decide +kernel
theorem dX0_bestMove_108 : decode cX0_bestMove 108 = .ok (.iload 10, 2) := by decide +kernel
theorem dX0_bestMove_110 : decode cX0_bestMove 110 = .ok (.invokevirtual 43, 3) := by decide +kernel
theorem dX0_bestMove_113 : decode cX0_bestMove 113 = .ok (.iadd, 1) := by decide +kernel
theorem dX0_bestMove_114 : decode cX0_bestMove 114 = .ok (.istore 11, 2) := by decide +kernel
theorem dX0_bestMove_116 : decode cX0_bestMove 116 = .ok (.iinc 12 1, 3) := by decide +kernel
theorem dX0_bestMove_119 : decode cX0_bestMove 119 = .ok (.goto (-32), 3) := by decide +kernel
theorem dX0_bestMove_122 : decode cX0_bestMove 122 = .ok (.iload 11, 2) := by decide +kernel
theorem dX0_bestMove_124 : decode cX0_bestMove 124 = .ok (.iload 6, 2) := by decide +kernel
theorem dX0_bestMove_126 : decode cX0_bestMove 126 = .ok (.if_icmp .le 15, 3) := by decide +kernel
theorem dX0_bestMove_129 : decode cX0_bestMove 129 = .ok (.iload 11, 2) := by decide +kernel
theorem dX0_bestMove_131 : decode cX0_bestMove 131 = .ok (.istore 6, 2) := by decide +kernel
theorem dX0_bestMove_133 : decode cX0_bestMove 133 = .ok (.iload 9, 2) := by decide +kernel
theorem dX0_bestMove_135 : decode cX0_bestMove 135 = .ok (.istore 7, 2) := by decide +kernel
theorem dX0_bestMove_137 : decode cX0_bestMove 137 = .ok (.iload 10, 2) := by decide +kernel
theorem dX0_bestMove_139 : decode cX0_bestMove 139 = .ok (.istore 8, 2) := by decide +kernel
theorem dX0_bestMove_141 : decode cX0_bestMove 141 = .ok (.iinc 10 1, 3) := by decide +kernel
theorem dX0_bestMove_144 : decode cX0_bestMove 144 = .ok (.goto (-79), 3) := by decide +kernel
theorem dX0_bestMove_147 : decode cX0_bestMove 147 = .ok (.iinc 9 1, 3) := by decide +kernel
theorem dX0_bestMove_150 : decode cX0_bestMove 150 = .ok (.goto (-99), 3) := by decide +kernel
theorem dX0_bestMove_153 : decode cX0_bestMove 153 = .ok (.iload_n 1, 1) := by decide +kernel
theorem dX0_bestMove_154 : decode cX0_bestMove 154 = .ok (.iconst 2, 1) := by decide +kernel
theorem dX0_bestMove_155 : decode cX0_bestMove 155 = .ok (.if_icmp .ne 6, 3) := by decide +kernel
theorem dX0_bestMove_158 : decode cX0_bestMove 158 = .ok (.iload 6, 2) := by decide +kernel
theorem dX0_bestMove_160 : decode cX0_bestMove 160 = .ok (.ireturn, 1) := by decide +kernel
theorem dX0_bestMove_161 : decode cX0_bestMove 161 = .ok (.bipush 100, 2) := by decide +kernel
theorem dX0_bestMove_163 : decode cX0_bestMove 163 = .ok (.iload_n 1, 1) := by decide +kernel
theorem dX0_bestMove_164 : decode cX0_bestMove 164 = .ok (.ifCond .ne 8, 3) := by decide +kernel
theorem dX0_bestMove_167 : decode cX0_bestMove 167 = .ok (.iload 7, 2) := by decide +kernel
theorem dX0_bestMove_169 : decode cX0_bestMove 169 = .ok (.goto 5, 3) := by decide +kernel
theorem dX0_bestMove_172 : decode cX0_bestMove 172 = .ok (.iload 8, 2) := by decide +kernel
theorem dX0_bestMove_174 : decode cX0_bestMove 174 = .ok (.iadd, 1) := by decide +kernel
theorem dX0_bestMove_175 : decode cX0_bestMove 175 = .ok (.ireturn, 1) := by decide +kernel
theorem dX0_least_0 : decode cX0_least 0 = .ok (.bipush 12, 2) := by decide +kernel
theorem dX0_least_2 : decode cX0_least 2 = .ok (.istore_n 2, 1) := by decide +kernel
theorem dX0_least_3 : decode cX0_least 3 = .ok (.iconst 0, 1) := by decide +kernel
theorem dX0_least_4 : decode cX0_least 4 = .ok (.istore_n 3, 1) := by decide +kernel
theorem dX0_least_5 : decode cX0_least 5 = .ok (.iload_n 3, 1) := by decide +kernel
theorem dX0_least_6 : decode cX0_least 6 = .ok (.aload_n 0, 1) := by decide +kernel
theorem dX0_least_7 : decode cX0_least 7 = .ok (.getfield 18, 3) := by decide +kernel
theorem dX0_least_10 : decode cX0_least 10 = .ok (.if_icmp .ge 17, 3) := by decide +kernel
theorem dX0_least_13 : decode cX0_least 13 = .ok (.iload_n 2, 1) := by decide +kernel
theorem dX0_least_14 : decode cX0_least 14 = .ok (.aload_n 1, 1) := by decide +kernel
theorem dX0_least_15 : decode cX0_least 15 = .ok (.iload_n 3, 1) := by decide +kernel
theorem dX0_least_16 : decode cX0_least 16 = .ok (.iaload, 1) := by decide +kernel
theorem dX0_least_17 : decode cX0_least 17 = .ok (.invokestatic 47, 3) := by decide +kernel
theorem dX0_least_20 : decode cX0_least 20 = .ok (.istore_n 2, 1) := by decide +kernel
theorem dX0_least_21 : decode cX0_least 21 = .ok (.iinc 3 1, 3) := by decide +kernel
theorem dX0_least_24 : decode cX0_least 24 = .ok (.goto (-19), 3) := by decide +kernel
theorem dX0_least_27 : decode cX0_least 27 = .ok (.iload_n 2, 1) := by decide +kernel
theorem dX0_least_28 : decode cX0_least 28 = .ok (.ireturn, 1) := by decide +kernel
theorem dX0_greatest_0 : decode cX0_greatest 0 = .ok (.iconst 0, 1) := by decide +kernel
theorem dX0_greatest_1 : decode cX0_greatest 1 = .ok (.istore_n 2, 1) := by decide +kernel
theorem dX0_greatest_2 : decode cX0_greatest 2 = .ok (.iconst 0, 1) := by decide +kernel
theorem dX0_greatest_3 : decode cX0_greatest 3 = .ok (.istore_n 3, 1) := by decide +kernel
theorem dX0_greatest_4 : decode cX0_greatest 4 = .ok (.iload_n 3, 1) := by decide +kernel
theorem dX0_greatest_5 : decode cX0_greatest 5 = .ok (.aload_n 0, 1) := by decide +kernel
theorem dX0_greatest_6 : decode cX0_greatest 6 = .ok (.getfield 18, 3) := by decide +kernel
theorem dX0_greatest_9 : decode cX0_greatest 9 = .ok (.if_icmp .ge 17, 3) := by decide +kernel
theorem dX0_greatest_12 : decode cX0_greatest 12 = .ok (.iload_n 2, 1) := by decide +kernel
theorem dX0_greatest_13 : decode cX0_greatest 13 = .ok (.aload_n 1, 1) := by decide +kernel
theorem dX0_greatest_14 : decode cX0_greatest 14 = .ok (.iload_n 3, 1) := by decide +kernel
theorem dX0_greatest_15 : decode cX0_greatest 15 = .ok (.iaload, 1) := by decide +kernel
theorem dX0_greatest_16 : decode cX0_greatest 16 = .ok (.invokestatic 53, 3) := by decide +kernel
theorem dX0_greatest_19 : decode cX0_greatest 19 = .ok (.istore_n 2, 1) := by decide +kernel
theorem dX0_greatest_20 : decode cX0_greatest 20 = .ok (.iinc 3 1, 3) := by decide +kernel
theorem dX0_greatest_23 : decode cX0_greatest 23 = .ok (.goto (-19), 3) := by decide +kernel
theorem dX0_greatest_26 : decode cX0_greatest 26 = .ok (.iload_n 2, 1) := by decide +kernel
theorem dX0_greatest_27 : decode cX0_greatest 27 = .ok (.ireturn, 1) := by decide +kernel
set_option maxRecDepth 20000 in
theorem ggX0_wholeDots_X0_coverParts : GoodIn wsX0_wholeDots wsX0_coverParts := goodIn_r _ [6, 7, 8, 9, 10, 11, 1, 12, 13, 14, 15, 16, 17, 18, 5, 19, 20, 21, 22, 23, 24, 25, 26, 27, 28, 29, 30, 31, 32, 33, 34, 35, 36, 37, 38, 39, 40, 41, 42] (by decide +kernel) (by decide +kernel)
set_option maxRecDepth 20000 in
theorem gX0_wholeDots_X0_coverParts : GoodIn wsX0_wholeDots (wsV RX0 56 RX0 yX0_coverParts wsX0_coverParts) := goodIn_app (goodIn_of _ (by decide +kernel)) ggX0_wholeDots_X0_coverParts
theorem dX0_wholeDots_0 : decode cX0_wholeDots 0 = .ok (.iconst 0, 1) := by decide +kernel
theorem dX0_wholeDots_1 : decode cX0_wholeDots 1 = .ok (.istore 6, 2) := by decide +kernel
theorem dX0_wholeDots_3 : decode cX0_wholeDots 3 = .ok (.iload_n 2, 1) := by decide +kernel
theorem dX0_wholeDots_4 : decode cX0_wholeDots 4 = .ok (.iload 4, 2) := by decide +kernel
theorem dX0_wholeDots_6 : decode cX0_wholeDots 6 = .ok (.iadd, 1) := by decide +kernel
theorem dX0_wholeDots_7 : decode cX0_wholeDots 7 = .ok (.iconst 3, 1) := by decide +kernel
theorem dX0_wholeDots_8 : decode cX0_wholeDots 8 = .ok (.idiv, 1) := by decide +kernel
theorem dX0_wholeDots_9 : decode cX0_wholeDots 9 = .ok (.istore 7, 2) := by decide +kernel
theorem dX0_wholeDots_11 : decode cX0_wholeDots 11 = .ok (.iconst 3, 1) := by decide +kernel
theorem dX0_wholeDots_12 : decode cX0_wholeDots 12 = .ok (.iload 7, 2) := by decide +kernel
theorem dX0_wholeDots_14 : decode cX0_wholeDots 14 = .ok (.imul, 1) := by decide +kernel
theorem dX0_wholeDots_15 : decode cX0_wholeDots 15 = .ok (.iload_n 3, 1) := by decide +kernel
theorem dX0_wholeDots_16 : decode cX0_wholeDots 16 = .ok (.iload 4, 2) := by decide +kernel
theorem dX0_wholeDots_18 : decode cX0_wholeDots 18 = .ok (.iadd, 1) := by decide +kernel
theorem dX0_wholeDots_19 : decode cX0_wholeDots 19 = .ok (.if_icmp .ge 33, 3) := by decide +kernel
theorem dX0_wholeDots_22 : decode cX0_wholeDots 22 = .ok (.aload_n 0, 1) := by decide +kernel
theorem dX0_wholeDots_23 : decode cX0_wholeDots 23 = .ok (.iconst 4, 1) := by decide +kernel
theorem dX0_wholeDots_24 : decode cX0_wholeDots 24 = .ok (.iload_n 1, 1) := by decide +kernel
theorem dX0_wholeDots_25 : decode cX0_wholeDots 25 = .ok (.imul, 1) := by decide +kernel
theorem dX0_wholeDots_26 : decode cX0_wholeDots 26 = .ok (.iload 7, 2) := by decide +kernel
theorem dX0_wholeDots_28 : decode cX0_wholeDots 28 = .ok (.iadd, 1) := by decide +kernel
theorem dX0_wholeDots_29 : decode cX0_wholeDots 29 = .ok (.iload 4, 2) := by decide +kernel
theorem dX0_wholeDots_31 : decode cX0_wholeDots 31 = .ok (.iload 5, 2) := by decide +kernel
theorem dX0_wholeDots_33 : decode cX0_wholeDots 33 = .ok (.invokevirtual 56, 3) := by decide +kernel
theorem dX0_wholeDots_36 : decode cX0_wholeDots 36 = .ok (.ldc2_w 60, 3) := by decide +kernel
theorem dX0_wholeDots_39 : decode cX0_wholeDots 39 = .ok (.lcmp, 1) := by decide +kernel
theorem dX0_wholeDots_40 : decode cX0_wholeDots 40 = .ok (.ifCond .ne 6, 3) := by decide +kernel
theorem dX0_wholeDots_43 : decode cX0_wholeDots 43 = .ok (.iinc 6 1, 3) := by decide +kernel
theorem dX0_wholeDots_46 : decode cX0_wholeDots 46 = .ok (.iinc 7 1, 3) := by decide +kernel
theorem dX0_wholeDots_49 : decode cX0_wholeDots 49 = .ok (.goto (-38), 3) := by decide +kernel
theorem dX0_wholeDots_52 : decode cX0_wholeDots 52 = .ok (.iload 6, 2) := by decide +kernel
theorem dX0_wholeDots_54 : decode cX0_wholeDots 54 = .ok (.ireturn, 1) := by decide +kernel
set_option maxRecDepth 20000 in
theorem ggX0_coverParts_X0_rawParts : GoodIn wsX0_coverParts wsX0_rawParts := goodIn_r _ [15, 16, 17, 18, 19, 20, 14, 21, 22, 23, 3, 24, 25, 26, 27, 28, 29, 30, 31, 32, 33, 34, 35, 36, 37, 38] (by decide +kernel) (by decide +kernel)
set_option maxRecDepth 20000 in
theorem gX0_coverParts_X0_rawParts : GoodIn wsX0_coverParts (wsV RX0 62 RX0 yX0_rawParts wsX0_rawParts) := goodIn_app (goodIn_of _ (by decide +kernel)) ggX0_coverParts_X0_rawParts
theorem dX0_coverParts_0 : decode cX0_coverParts 0 = .ok (.aload_n 0, 1) := by decide +kernel
theorem dX0_coverParts_1 : decode cX0_coverParts 1 = .ok (.iload_n 1, 1) := by decide +kernel
theorem dX0_coverParts_2 : decode cX0_coverParts 2 = .ok (.iload_n 2, 1) := by decide +kernel
theorem dX0_coverParts_3 : decode cX0_coverParts 3 = .ok (.iload_n 3, 1) := by decide +kernel
theorem dX0_coverParts_4 : decode cX0_coverParts 4 = .ok (.invokevirtual 62, 3) := by decide +kernel
theorem dX0_coverParts_7 : decode cX0_coverParts 7 = .ok (.invokestatic 65, 3) := by decide +kernel
theorem dX0_coverParts_10 : decode cX0_coverParts 10 = .ok (.lstore 4, 2) := by decide +kernel
theorem dX0_coverParts_12 : decode cX0_coverParts 12 = .ok (.aload_n 0, 1) := by decide +kernel
theorem dX0_coverParts_13 : decode cX0_coverParts 13 = .ok (.getfield 22, 3) := by decide +kernel
theorem dX0_coverParts_16 : decode cX0_coverParts 16 = .ok (.ifCond .ne 12, 3) := by decide +kernel
theorem dX0_coverParts_19 : decode cX0_coverParts 19 = .ok (.lload 4, 2) := by decide +kernel
theorem dX0_coverParts_21 : decode cX0_coverParts 21 = .ok (.ldc2_w 60, 3) := by decide +kernel
theorem dX0_coverParts_24 : decode cX0_coverParts 24 = .ok (.invokestatic 69, 3) := by decide +kernel
theorem dX0_coverParts_27 : decode cX0_coverParts 27 = .ok (.lreturn, 1) := by decide +kernel
theorem dX0_coverParts_28 : decode cX0_coverParts 28 = .ok (.lload 4, 2) := by decide +kernel
theorem dX0_coverParts_30 : decode cX0_coverParts 30 = .ok (.ldc2_w 72, 3) := by decide +kernel
theorem dX0_coverParts_33 : decode cX0_coverParts 33 = .ok (.lrem, 1) := by decide +kernel
theorem dX0_coverParts_34 : decode cX0_coverParts 34 = .ok (.lstore 6, 2) := by decide +kernel
theorem dX0_coverParts_36 : decode cX0_coverParts 36 = .ok (.lload 6, 2) := by decide +kernel
theorem dX0_coverParts_38 : decode cX0_coverParts 38 = .ok (.ldc2_w 60, 3) := by decide +kernel
theorem dX0_coverParts_41 : decode cX0_coverParts 41 = .ok (.lcmp, 1) := by decide +kernel
theorem dX0_coverParts_42 : decode cX0_coverParts 42 = .ok (.ifCond .le 12, 3) := by decide +kernel
theorem dX0_coverParts_45 : decode cX0_coverParts 45 = .ok (.ldc2_w 72, 3) := by decide +kernel
theorem dX0_coverParts_48 : decode cX0_coverParts 48 = .ok (.lload 6, 2) := by decide +kernel
theorem dX0_coverParts_50 : decode cX0_coverParts 50 = .ok (.lsub, 1) := by decide +kernel
theorem dX0_coverParts_51 : decode cX0_coverParts 51 = .ok (.goto 5, 3) := by decide +kernel
theorem dX0_coverParts_54 : decode cX0_coverParts 54 = .ok (.lload 6, 2) := by decide +kernel
theorem dX0_coverParts_56 : decode cX0_coverParts 56 = .ok (.lreturn, 1) := by decide +kernel
set_option maxRecDepth 20000 in
theorem ggX0_rawParts_X0_leftOfEdge : GoodIn wsX0_rawParts wsX0_leftOfEdge := goodIn_r _ [7, 8, 9, 10, 11, 12, 13, 14, 15, 16, 17, 18, 19, 6, 20, 21] (by decide +kernel) (by decide +kernel)
set_option maxRecDepth 20000 in
theorem gX0_rawParts_X0_leftOfEdge : GoodIn wsX0_rawParts (va_wsS RX0 74 yX0_leftOfEdge wsX0_leftOfEdge) := goodIn_app (goodIn_of _ (by decide +kernel)) ggX0_rawParts_X0_leftOfEdge
theorem dX0_rawParts_0 : decode cX0_rawParts 0 = .ok (.iconst 3, 1) := by decide +kernel
theorem dX0_rawParts_1 : decode cX0_rawParts 1 = .ok (.iload_n 1, 1) := by decide +kernel
theorem dX0_rawParts_2 : decode cX0_rawParts 2 = .ok (.iconst 4, 1) := by decide +kernel
theorem dX0_rawParts_3 : decode cX0_rawParts 3 = .ok (.irem, 1) := by decide +kernel
theorem dX0_rawParts_4 : decode cX0_rawParts 4 = .ok (.imul, 1) := by decide +kernel
theorem dX0_rawParts_5 : decode cX0_rawParts 5 = .ok (.iload_n 2, 1) := by decide +kernel
theorem dX0_rawParts_6 : decode cX0_rawParts 6 = .ok (.isub, 1) := by decide +kernel
theorem dX0_rawParts_7 : decode cX0_rawParts 7 = .ok (.istore 4, 2) := by decide +kernel
theorem dX0_rawParts_9 : decode cX0_rawParts 9 = .ok (.iconst 3, 1) := by decide +kernel
theorem dX0_rawParts_10 : decode cX0_rawParts 10 = .ok (.iload_n 1, 1) := by decide +kernel
theorem dX0_rawParts_11 : decode cX0_rawParts 11 = .ok (.iconst 4, 1) := by decide +kernel
theorem dX0_rawParts_12 : decode cX0_rawParts 12 = .ok (.idiv, 1) := by decide +kernel
theorem dX0_rawParts_13 : decode cX0_rawParts 13 = .ok (.imul, 1) := by decide +kernel
theorem dX0_rawParts_14 : decode cX0_rawParts 14 = .ok (.iload_n 3, 1) := by decide +kernel
theorem dX0_rawParts_15 : decode cX0_rawParts 15 = .ok (.isub, 1) := by decide +kernel
theorem dX0_rawParts_16 : decode cX0_rawParts 16 = .ok (.istore 5, 2) := by decide +kernel
theorem dX0_rawParts_18 : decode cX0_rawParts 18 = .ok (.lconst 0, 1) := by decide +kernel
theorem dX0_rawParts_19 : decode cX0_rawParts 19 = .ok (.lstore 6, 2) := by decide +kernel
theorem dX0_rawParts_21 : decode cX0_rawParts 21 = .ok (.iconst 0, 1) := by decide +kernel
theorem dX0_rawParts_22 : decode cX0_rawParts 22 = .ok (.istore 8, 2) := by decide +kernel
theorem dX0_rawParts_24 : decode cX0_rawParts 24 = .ok (.iload 8, 2) := by decide +kernel
theorem dX0_rawParts_26 : decode cX0_rawParts 26 = .ok (.aload_n 0, 1) := by decide +kernel
theorem dX0_rawParts_27 : decode cX0_rawParts 27 = .ok (.getfield 18, 3) := by decide +kernel
theorem dX0_rawParts_30 : decode cX0_rawParts 30 = .ok (.if_icmp .ge 147, 3) := by decide +kernel
theorem dX0_rawParts_33 : decode cX0_rawParts 33 = .ok (.iload 8, 2) := by decide +kernel
theorem dX0_rawParts_35 : decode cX0_rawParts 35 = .ok (.iconst 1, 1) := by decide +kernel
theorem dX0_rawParts_36 : decode cX0_rawParts 36 = .ok (.iadd, 1) := by decide +kernel
theorem dX0_rawParts_37 : decode cX0_rawParts 37 = .ok (.aload_n 0, 1) := by decide +kernel
theorem dX0_rawParts_38 : decode cX0_rawParts 38 = .ok (.getfield 18, 3) := by decide +kernel
theorem dX0_rawParts_41 : decode cX0_rawParts 41 = .ok (.if_icmp .ge 10, 3) := by decide +kernel
theorem dX0_rawParts_44 : decode cX0_rawParts 44 = .ok (.iload 8, 2) := by decide +kernel
theorem dX0_rawParts_46 : decode cX0_rawParts 46 = .ok (.iconst 1, 1) := by decide +kernel
theorem dX0_rawParts_47 : decode cX0_rawParts 47 = .ok (.iadd, 1) := by decide +kernel
theorem dX0_rawParts_48 : decode cX0_rawParts 48 = .ok (.goto 4, 3) := by decide +kernel
theorem dX0_rawParts_51 : decode cX0_rawParts 51 = .ok (.iconst 0, 1) := by decide +kernel
theorem dX0_rawParts_52 : decode cX0_rawParts 52 = .ok (.istore 9, 2) := by decide +kernel
theorem dX0_rawParts_54 : decode cX0_rawParts 54 = .ok (.aload_n 0, 1) := by decide +kernel
theorem dX0_rawParts_55 : decode cX0_rawParts 55 = .ok (.getfield 15, 3) := by decide +kernel
theorem dX0_rawParts_58 : decode cX0_rawParts 58 = .ok (.iload 8, 2) := by decide +kernel
theorem dX0_rawParts_60 : decode cX0_rawParts 60 = .ok (.iaload, 1) := by decide +kernel
theorem dX0_rawParts_61 : decode cX0_rawParts 61 = .ok (.aload_n 0, 1) := by decide +kernel
theorem dX0_rawParts_62 : decode cX0_rawParts 62 = .ok (.getfield 15, 3) := by decide +kernel
theorem dX0_rawParts_65 : decode cX0_rawParts 65 = .ok (.iload 9, 2) := by decide +kernel
theorem dX0_rawParts_67 : decode cX0_rawParts 67 = .ok (.iaload, 1) := by decide +kernel
theorem dX0_rawParts_68 : decode cX0_rawParts 68 = .ok (.if_icmp .ge 46, 3) := by decide +kernel
theorem dX0_rawParts_71 : decode cX0_rawParts 71 = .ok (.lload 6, 2) := by decide +kernel
theorem dX0_rawParts_73 : decode cX0_rawParts 73 = .ok (.aload_n 0, 1) := by decide +kernel
theorem dX0_rawParts_74 : decode cX0_rawParts 74 = .ok (.getfield 9, 3) := by decide +kernel
theorem dX0_rawParts_77 : decode cX0_rawParts 77 = .ok (.iload 8, 2) := by decide +kernel
theorem dX0_rawParts_79 : decode cX0_rawParts 79 = .ok (.iaload, 1) := by decide +kernel
theorem dX0_rawParts_80 : decode cX0_rawParts 80 = .ok (.aload_n 0, 1) := by decide +kernel
theorem dX0_rawParts_81 : decode cX0_rawParts 81 = .ok (.getfield 15, 3) := by decide +kernel
theorem dX0_rawParts_84 : decode cX0_rawParts 84 = .ok (.iload 8, 2) := by decide +kernel
end
section
theorem dX0_rawParts_86 : decode cX0_rawParts 86 = .ok (.iaload, 1) := by decide +kernel
theorem dX0_rawParts_87 : decode cX0_rawParts 87 = .ok (.aload_n 0, 1) := by decide +kernel
theorem dX0_rawParts_88 : decode cX0_rawParts 88 = .ok (.getfield 9, 3) := by decide +kernel
theorem dX0_rawParts_91 : decode cX0_rawParts 91 = .ok (.iload 9, 2) := by decide +kernel
theorem dX0_rawParts_93 : decode cX0_rawParts 93 = .ok (.iaload, 1) := by decide +kernel
theorem dX0_rawParts_94 : decode cX0_rawParts 94 = .ok (.aload_n 0, 1) := by decide +kernel
theorem dX0_rawParts_95 : decode cX0_rawParts 95 = .ok (.getfield 15, 3) := by decide +kernel
theorem dX0_rawParts_98 : decode cX0_rawParts 98 = .ok (.iload 9, 2) := by decide +kernel
theorem dX0_rawParts_100 : decode cX0_rawParts 100 = .ok (.iaload, 1) := by decide +kernel
theorem dX0_rawParts_101 : decode cX0_rawParts 101 = .ok (.iload 4, 2) := by decide +kernel
theorem dX0_rawParts_103 : decode cX0_rawParts 103 = .ok (.iload 5, 2) := by decide +kernel
theorem dX0_rawParts_105 : decode cX0_rawParts 105 = .ok (.invokestatic 74, 3) := by decide +kernel
theorem dX0_rawParts_108 : decode cX0_rawParts 108 = .ok (.ladd, 1) := by decide +kernel
theorem dX0_rawParts_109 : decode cX0_rawParts 109 = .ok (.lstore 6, 2) := by decide +kernel
theorem dX0_rawParts_111 : decode cX0_rawParts 111 = .ok (.goto 60, 3) := by decide +kernel
theorem dX0_rawParts_114 : decode cX0_rawParts 114 = .ok (.aload_n 0, 1) := by decide +kernel
theorem dX0_rawParts_115 : decode cX0_rawParts 115 = .ok (.getfield 15, 3) := by decide +kernel
theorem dX0_rawParts_118 : decode cX0_rawParts 118 = .ok (.iload 8, 2) := by decide +kernel
theorem dX0_rawParts_120 : decode cX0_rawParts 120 = .ok (.iaload, 1) := by decide +kernel
theorem dX0_rawParts_121 : decode cX0_rawParts 121 = .ok (.aload_n 0, 1) := by decide +kernel
theorem dX0_rawParts_122 : decode cX0_rawParts 122 = .ok (.getfield 15, 3) := by decide +kernel
theorem dX0_rawParts_125 : decode cX0_rawParts 125 = .ok (.iload 9, 2) := by decide +kernel
theorem dX0_rawParts_127 : decode cX0_rawParts 127 = .ok (.iaload, 1) := by decide +kernel
theorem dX0_rawParts_128 : decode cX0_rawParts 128 = .ok (.if_icmp .le 43, 3) := by decide +kernel
theorem dX0_rawParts_131 : decode cX0_rawParts 131 = .ok (.lload 6, 2) := by decide +kernel
theorem dX0_rawParts_133 : decode cX0_rawParts 133 = .ok (.aload_n 0, 1) := by decide +kernel
theorem dX0_rawParts_134 : decode cX0_rawParts 134 = .ok (.getfield 9, 3) := by decide +kernel
theorem dX0_rawParts_137 : decode cX0_rawParts 137 = .ok (.iload 9, 2) := by decide +kernel
theorem dX0_rawParts_139 : decode cX0_rawParts 139 = .ok (.iaload, 1) := by decide +kernel
theorem dX0_rawParts_140 : decode cX0_rawParts 140 = .ok (.aload_n 0, 1) := by decide +kernel
theorem dX0_rawParts_141 : decode cX0_rawParts 141 = .ok (.getfield 15, 3) := by decide +kernel
theorem dX0_rawParts_144 : decode cX0_rawParts 144 = .ok (.iload 9, 2) := by decide +kernel
theorem dX0_rawParts_146 : decode cX0_rawParts 146 = .ok (.iaload, 1) := by decide +kernel
theorem dX0_rawParts_147 : decode cX0_rawParts 147 = .ok (.aload_n 0, 1) := by decide +kernel
theorem dX0_rawParts_148 : decode cX0_rawParts 148 = .ok (.getfield 9, 3) := by decide +kernel
theorem dX0_rawParts_151 : decode cX0_rawParts 151 = .ok (.iload 8, 2) := by decide +kernel
theorem dX0_rawParts_153 : decode cX0_rawParts 153 = .ok (.iaload, 1) := by decide +kernel
theorem dX0_rawParts_154 : decode cX0_rawParts 154 = .ok (.aload_n 0, 1) := by decide +kernel
theorem dX0_rawParts_155 : decode cX0_rawParts 155 = .ok (.getfield 15, 3) := by decide +kernel
theorem dX0_rawParts_158 : decode cX0_rawParts 158 = .ok (.iload 8, 2) := by decide +kernel
theorem dX0_rawParts_160 : decode cX0_rawParts 160 = .ok (.iaload, 1) := by decide +kernel
theorem dX0_rawParts_161 : decode cX0_rawParts 161 = .ok (.iload 4, 2) := by decide +kernel
theorem dX0_rawParts_163 : decode cX0_rawParts 163 = .ok (.iload 5, 2) := by decide +kernel
theorem dX0_rawParts_165 : decode cX0_rawParts 165 = .ok (.invokestatic 74, 3) := by decide +kernel
theorem dX0_rawParts_168 : decode cX0_rawParts 168 = .ok (.lsub, 1) := by decide +kernel
theorem dX0_rawParts_169 : decode cX0_rawParts 169 = .ok (.lstore 6, 2) := by decide +kernel
theorem dX0_rawParts_171 : decode cX0_rawParts 171 = .ok (.iinc 8 1, 3) := by decide +kernel
theorem dX0_rawParts_174 : decode cX0_rawParts 174 = .ok (.goto (-150), 3) := by decide +kernel
theorem dX0_rawParts_177 : decode cX0_rawParts 177 = .ok (.lload 6, 2) := by decide +kernel
theorem dX0_rawParts_179 : decode cX0_rawParts 179 = .ok (.lreturn, 1) := by decide +kernel
set_option maxRecDepth 20000 in
theorem ggX0_leftOfEdge_X0_beforeEdge : GoodIn wsX0_leftOfEdge wsX0_beforeEdge := goodIn_r _ [14, 15] (by decide +kernel) (by decide +kernel)
set_option maxRecDepth 20000 in
theorem gX0_leftOfEdge_X0_beforeEdge : GoodIn wsX0_leftOfEdge (va_wsS RX0 81 yX0_beforeEdge wsX0_beforeEdge) := goodIn_app (goodIn_of _ (by decide +kernel)) ggX0_leftOfEdge_X0_beforeEdge
theorem dX0_leftOfEdge_0 : decode cX0_leftOfEdge 0 = .ok (.iload_n 1, 1) := by decide +kernel
theorem dX0_leftOfEdge_1 : decode cX0_leftOfEdge 1 = .ok (.iload 5, 2) := by decide +kernel
theorem dX0_leftOfEdge_3 : decode cX0_leftOfEdge 3 = .ok (.invokestatic 53, 3) := by decide +kernel
theorem dX0_leftOfEdge_6 : decode cX0_leftOfEdge 6 = .ok (.istore 6, 2) := by decide +kernel
theorem dX0_leftOfEdge_8 : decode cX0_leftOfEdge 8 = .ok (.iload_n 3, 1) := by decide +kernel
theorem dX0_leftOfEdge_9 : decode cX0_leftOfEdge 9 = .ok (.iload 5, 2) := by decide +kernel
theorem dX0_leftOfEdge_11 : decode cX0_leftOfEdge 11 = .ok (.iconst 3, 1) := by decide +kernel
theorem dX0_leftOfEdge_12 : decode cX0_leftOfEdge 12 = .ok (.iadd, 1) := by decide +kernel
theorem dX0_leftOfEdge_13 : decode cX0_leftOfEdge 13 = .ok (.invokestatic 47, 3) := by decide +kernel
theorem dX0_leftOfEdge_16 : decode cX0_leftOfEdge 16 = .ok (.istore 7, 2) := by decide +kernel
theorem dX0_leftOfEdge_18 : decode cX0_leftOfEdge 18 = .ok (.iload 6, 2) := by decide +kernel
theorem dX0_leftOfEdge_20 : decode cX0_leftOfEdge 20 = .ok (.iload 7, 2) := by decide +kernel
theorem dX0_leftOfEdge_22 : decode cX0_leftOfEdge 22 = .ok (.if_icmp .lt 5, 3) := by decide +kernel
theorem dX0_leftOfEdge_25 : decode cX0_leftOfEdge 25 = .ok (.lconst 0, 1) := by decide +kernel
theorem dX0_leftOfEdge_26 : decode cX0_leftOfEdge 26 = .ok (.lreturn, 1) := by decide +kernel
theorem dX0_leftOfEdge_27 : decode cX0_leftOfEdge 27 = .ok (.iload_n 2, 1) := by decide +kernel
theorem dX0_leftOfEdge_28 : decode cX0_leftOfEdge 28 = .ok (.iload_n 0, 1) := by decide +kernel
theorem dX0_leftOfEdge_29 : decode cX0_leftOfEdge 29 = .ok (.isub, 1) := by decide +kernel
theorem dX0_leftOfEdge_30 : decode cX0_leftOfEdge 30 = .ok (.istore 8, 2) := by decide +kernel
theorem dX0_leftOfEdge_32 : decode cX0_leftOfEdge 32 = .ok (.iload_n 3, 1) := by decide +kernel
theorem dX0_leftOfEdge_33 : decode cX0_leftOfEdge 33 = .ok (.iload_n 1, 1) := by decide +kernel
theorem dX0_leftOfEdge_34 : decode cX0_leftOfEdge 34 = .ok (.isub, 1) := by decide +kernel
theorem dX0_leftOfEdge_35 : decode cX0_leftOfEdge 35 = .ok (.istore 9, 2) := by decide +kernel
theorem dX0_leftOfEdge_37 : decode cX0_leftOfEdge 37 = .ok (.iload_n 0, 1) := by decide +kernel
theorem dX0_leftOfEdge_38 : decode cX0_leftOfEdge 38 = .ok (.iload 4, 2) := by decide +kernel
theorem dX0_leftOfEdge_40 : decode cX0_leftOfEdge 40 = .ok (.isub, 1) := by decide +kernel
theorem dX0_leftOfEdge_41 : decode cX0_leftOfEdge 41 = .ok (.iload 9, 2) := by decide +kernel
theorem dX0_leftOfEdge_43 : decode cX0_leftOfEdge 43 = .ok (.imul, 1) := by decide +kernel
theorem dX0_leftOfEdge_44 : decode cX0_leftOfEdge 44 = .ok (.iload 8, 2) := by decide +kernel
theorem dX0_leftOfEdge_46 : decode cX0_leftOfEdge 46 = .ok (.iload 6, 2) := by decide +kernel
theorem dX0_leftOfEdge_48 : decode cX0_leftOfEdge 48 = .ok (.iload_n 1, 1) := by decide +kernel
theorem dX0_leftOfEdge_49 : decode cX0_leftOfEdge 49 = .ok (.isub, 1) := by decide +kernel
theorem dX0_leftOfEdge_50 : decode cX0_leftOfEdge 50 = .ok (.imul, 1) := by decide +kernel
theorem dX0_leftOfEdge_51 : decode cX0_leftOfEdge 51 = .ok (.iadd, 1) := by decide +kernel
theorem dX0_leftOfEdge_52 : decode cX0_leftOfEdge 52 = .ok (.istore 10, 2) := by decide +kernel
theorem dX0_leftOfEdge_54 : decode cX0_leftOfEdge 54 = .ok (.iload_n 0, 1) := by decide +kernel
theorem dX0_leftOfEdge_55 : decode cX0_leftOfEdge 55 = .ok (.iload 4, 2) := by decide +kernel
theorem dX0_leftOfEdge_57 : decode cX0_leftOfEdge 57 = .ok (.isub, 1) := by decide +kernel
theorem dX0_leftOfEdge_58 : decode cX0_leftOfEdge 58 = .ok (.iload 9, 2) := by decide +kernel
theorem dX0_leftOfEdge_60 : decode cX0_leftOfEdge 60 = .ok (.imul, 1) := by decide +kernel
theorem dX0_leftOfEdge_61 : decode cX0_leftOfEdge 61 = .ok (.iload 8, 2) := by decide +kernel
theorem dX0_leftOfEdge_63 : decode cX0_leftOfEdge 63 = .ok (.iload 7, 2) := by decide +kernel
theorem dX0_leftOfEdge_65 : decode cX0_leftOfEdge 65 = .ok (.iload_n 1, 1) := by decide +kernel
theorem dX0_leftOfEdge_66 : decode cX0_leftOfEdge 66 = .ok (.isub, 1) := by decide +kernel
theorem dX0_leftOfEdge_67 : decode cX0_leftOfEdge 67 = .ok (.imul, 1) := by decide +kernel
theorem dX0_leftOfEdge_68 : decode cX0_leftOfEdge 68 = .ok (.iadd, 1) := by decide +kernel
theorem dX0_leftOfEdge_69 : decode cX0_leftOfEdge 69 = .ok (.istore 11, 2) := by decide +kernel
theorem dX0_leftOfEdge_71 : decode cX0_leftOfEdge 71 = .ok (.iconst 3, 1) := by decide +kernel
theorem dX0_leftOfEdge_72 : decode cX0_leftOfEdge 72 = .ok (.iload 9, 2) := by decide +kernel
theorem dX0_leftOfEdge_74 : decode cX0_leftOfEdge 74 = .ok (.imul, 1) := by decide +kernel
theorem dX0_leftOfEdge_75 : decode cX0_leftOfEdge 75 = .ok (.istore 12, 2) := by decide +kernel
theorem dX0_leftOfEdge_77 : decode cX0_leftOfEdge 77 = .ok (.iload 8, 2) := by decide +kernel
theorem dX0_leftOfEdge_79 : decode cX0_leftOfEdge 79 = .ok (.invokestatic 78, 3) := by decide +kernel
theorem dX0_leftOfEdge_82 : decode cX0_leftOfEdge 82 = .ok (.istore 13, 2) := by decide +kernel
theorem dX0_leftOfEdge_84 : decode cX0_leftOfEdge 84 = .ok (.iload 10, 2) := by decide +kernel
theorem dX0_leftOfEdge_86 : decode cX0_leftOfEdge 86 = .ok (.iload 11, 2) := by decide +kernel
theorem dX0_leftOfEdge_88 : decode cX0_leftOfEdge 88 = .ok (.iload 13, 2) := by decide +kernel
theorem dX0_leftOfEdge_90 : decode cX0_leftOfEdge 90 = .ok (.iload 9, 2) := by decide +kernel
theorem dX0_leftOfEdge_92 : decode cX0_leftOfEdge 92 = .ok (.iload 7, 2) := by decide +kernel
theorem dX0_leftOfEdge_94 : decode cX0_leftOfEdge 94 = .ok (.iload 6, 2) := by decide +kernel
theorem dX0_leftOfEdge_96 : decode cX0_leftOfEdge 96 = .ok (.isub, 1) := by decide +kernel
theorem dX0_leftOfEdge_97 : decode cX0_leftOfEdge 97 = .ok (.invokestatic 81, 3) := by decide +kernel
theorem dX0_leftOfEdge_100 : decode cX0_leftOfEdge 100 = .ok (.iload 10, 2) := by decide +kernel
theorem dX0_leftOfEdge_102 : decode cX0_leftOfEdge 102 = .ok (.iload 12, 2) := by decide +kernel
theorem dX0_leftOfEdge_104 : decode cX0_leftOfEdge 104 = .ok (.isub, 1) := by decide +kernel
theorem dX0_leftOfEdge_105 : decode cX0_leftOfEdge 105 = .ok (.iload 11, 2) := by decide +kernel
theorem dX0_leftOfEdge_107 : decode cX0_leftOfEdge 107 = .ok (.iload 12, 2) := by decide +kernel
theorem dX0_leftOfEdge_109 : decode cX0_leftOfEdge 109 = .ok (.isub, 1) := by decide +kernel
theorem dX0_leftOfEdge_110 : decode cX0_leftOfEdge 110 = .ok (.iload 13, 2) := by decide +kernel
theorem dX0_leftOfEdge_112 : decode cX0_leftOfEdge 112 = .ok (.iload 9, 2) := by decide +kernel
theorem dX0_leftOfEdge_114 : decode cX0_leftOfEdge 114 = .ok (.iload 7, 2) := by decide +kernel
theorem dX0_leftOfEdge_116 : decode cX0_leftOfEdge 116 = .ok (.iload 6, 2) := by decide +kernel
theorem dX0_leftOfEdge_118 : decode cX0_leftOfEdge 118 = .ok (.isub, 1) := by decide +kernel
theorem dX0_leftOfEdge_119 : decode cX0_leftOfEdge 119 = .ok (.invokestatic 81, 3) := by decide +kernel
theorem dX0_leftOfEdge_122 : decode cX0_leftOfEdge 122 = .ok (.lsub, 1) := by decide +kernel
theorem dX0_leftOfEdge_123 : decode cX0_leftOfEdge 123 = .ok (.lreturn, 1) := by decide +kernel
theorem dX0_beforeEdge_0 : decode cX0_beforeEdge 0 = .ok (.iload_n 3, 1) := by decide +kernel
theorem dX0_beforeEdge_1 : decode cX0_beforeEdge 1 = .ok (.ifCond .eq 11, 3) := by decide +kernel
theorem dX0_beforeEdge_4 : decode cX0_beforeEdge 4 = .ok (.iload_n 0, 1) := by decide +kernel
theorem dX0_beforeEdge_5 : decode cX0_beforeEdge 5 = .ok (.ifCond .gt 9, 3) := by decide +kernel
theorem dX0_beforeEdge_8 : decode cX0_beforeEdge 8 = .ok (.iload_n 1, 1) := by decide +kernel
theorem dX0_beforeEdge_9 : decode cX0_beforeEdge 9 = .ok (.ifCond .gt 5, 3) := by decide +kernel
theorem dX0_beforeEdge_12 : decode cX0_beforeEdge 12 = .ok (.lconst 0, 1) := by decide +kernel
theorem dX0_beforeEdge_13 : decode cX0_beforeEdge 13 = .ok (.lreturn, 1) := by decide +kernel
theorem dX0_beforeEdge_14 : decode cX0_beforeEdge 14 = .ok (.iload_n 0, 1) := by decide +kernel
theorem dX0_beforeEdge_15 : decode cX0_beforeEdge 15 = .ok (.ifCond .lt 23, 3) := by decide +kernel
theorem dX0_beforeEdge_18 : decode cX0_beforeEdge 18 = .ok (.iload_n 1, 1) := by decide +kernel
theorem dX0_beforeEdge_19 : decode cX0_beforeEdge 19 = .ok (.ifCond .lt 19, 3) := by decide +kernel
theorem dX0_beforeEdge_22 : decode cX0_beforeEdge 22 = .ok (.ldc2_w 85, 3) := by decide +kernel
theorem dX0_beforeEdge_25 : decode cX0_beforeEdge 25 = .ok (.iload_n 0, 1) := by decide +kernel
theorem dX0_beforeEdge_26 : decode cX0_beforeEdge 26 = .ok (.iload_n 1, 1) := by decide +kernel
theorem dX0_beforeEdge_27 : decode cX0_beforeEdge 27 = .ok (.iadd, 1) := by decide +kernel
theorem dX0_beforeEdge_28 : decode cX0_beforeEdge 28 = .ok (.i2l, 1) := by decide +kernel
theorem dX0_beforeEdge_29 : decode cX0_beforeEdge 29 = .ok (.lmul, 1) := by decide +kernel
theorem dX0_beforeEdge_30 : decode cX0_beforeEdge 30 = .ok (.iload 4, 2) := by decide +kernel
theorem dX0_beforeEdge_32 : decode cX0_beforeEdge 32 = .ok (.i2l, 1) := by decide +kernel
theorem dX0_beforeEdge_33 : decode cX0_beforeEdge 33 = .ok (.lmul, 1) := by decide +kernel
theorem dX0_beforeEdge_34 : decode cX0_beforeEdge 34 = .ok (.iload_n 3, 1) := by decide +kernel
theorem dX0_beforeEdge_35 : decode cX0_beforeEdge 35 = .ok (.i2l, 1) := by decide +kernel
theorem dX0_beforeEdge_36 : decode cX0_beforeEdge 36 = .ok (.ldiv, 1) := by decide +kernel
theorem dX0_beforeEdge_37 : decode cX0_beforeEdge 37 = .ok (.lreturn, 1) := by decide +kernel
theorem dX0_beforeEdge_38 : decode cX0_beforeEdge 38 = .ok (.iload_n 2, 1) := by decide +kernel
theorem dX0_beforeEdge_39 : decode cX0_beforeEdge 39 = .ok (.ifCond .ne 5, 3) := by decide +kernel
theorem dX0_beforeEdge_42 : decode cX0_beforeEdge 42 = .ok (.lconst 0, 1) := by decide +kernel
theorem dX0_beforeEdge_43 : decode cX0_beforeEdge 43 = .ok (.lreturn, 1) := by decide +kernel
theorem dX0_beforeEdge_44 : decode cX0_beforeEdge 44 = .ok (.iload_n 0, 1) := by decide +kernel
theorem dX0_beforeEdge_45 : decode cX0_beforeEdge 45 = .ok (.iload_n 1, 1) := by decide +kernel
theorem dX0_beforeEdge_46 : decode cX0_beforeEdge 46 = .ok (.if_icmp .le 7, 3) := by decide +kernel
theorem dX0_beforeEdge_49 : decode cX0_beforeEdge 49 = .ok (.iload_n 0, 1) := by decide +kernel
theorem dX0_beforeEdge_50 : decode cX0_beforeEdge 50 = .ok (.goto 4, 3) := by decide +kernel
theorem dX0_beforeEdge_53 : decode cX0_beforeEdge 53 = .ok (.iload_n 1, 1) := by decide +kernel
theorem dX0_beforeEdge_54 : decode cX0_beforeEdge 54 = .ok (.istore 5, 2) := by decide +kernel
theorem dX0_beforeEdge_56 : decode cX0_beforeEdge 56 = .ok (.ldc2_w 85, 3) := by decide +kernel
theorem dX0_beforeEdge_59 : decode cX0_beforeEdge 59 = .ok (.iload 5, 2) := by decide +kernel
theorem dX0_beforeEdge_61 : decode cX0_beforeEdge 61 = .ok (.i2l, 1) := by decide +kernel
theorem dX0_beforeEdge_62 : decode cX0_beforeEdge 62 = .ok (.lmul, 1) := by decide +kernel
theorem dX0_beforeEdge_63 : decode cX0_beforeEdge 63 = .ok (.iload 5, 2) := by decide +kernel
theorem dX0_beforeEdge_65 : decode cX0_beforeEdge 65 = .ok (.i2l, 1) := by decide +kernel
theorem dX0_beforeEdge_66 : decode cX0_beforeEdge 66 = .ok (.lmul, 1) := by decide +kernel
theorem dX0_beforeEdge_67 : decode cX0_beforeEdge 67 = .ok (.iload_n 2, 1) := by decide +kernel
theorem dX0_beforeEdge_68 : decode cX0_beforeEdge 68 = .ok (.iload_n 3, 1) := by decide +kernel
theorem dX0_beforeEdge_69 : decode cX0_beforeEdge 69 = .ok (.imul, 1) := by decide +kernel
theorem dX0_beforeEdge_70 : decode cX0_beforeEdge 70 = .ok (.i2l, 1) := by decide +kernel
theorem dX0_beforeEdge_71 : decode cX0_beforeEdge 71 = .ok (.ldiv, 1) := by decide +kernel
theorem dX0_beforeEdge_72 : decode cX0_beforeEdge 72 = .ok (.lreturn, 1) := by decide +kernel
set_option maxRecDepth 20000 in
theorem ggX1_init_X0_init : GoodIn wsX1_init wsX0_init := goodIn_r _ [10, 11, 2, 3, 12, 13, 14, 15, 16, 18, 19, 20, 21] (by decide +kernel) (by decide +kernel)
set_option maxRecDepth 20000 in
theorem gX1_init_X0_init : GoodIn wsX1_init (wsX0_init) := ggX1_init_X0_init
theorem dX1_init_0 : decode cX1_init 0 = .ok (.aload_n 0, 1) := by decide +kernel
theorem dX1_init_1 : decode cX1_init 1 = .ok (.invokespecial 3, 3) := by decide +kernel
theorem dX1_init_4 : decode cX1_init 4 = .ok (.aload_n 0, 1) := by decide +kernel
theorem dX1_init_5 : decode cX1_init 5 = .ok (.iconst 3, 1) := by decide +kernel
theorem dX1_init_6 : decode cX1_init 6 = .ok (.anewarray 9, 3) := by decide +kernel
theorem dX1_init_9 : decode cX1_init 9 = .ok (.putfield 11, 3) := by decide +kernel
theorem dX1_init_12 : decode cX1_init 12 = .ok (.iconst 0, 1) := by decide +kernel
theorem dX1_init_13 : decode cX1_init 13 = .ok (.istore_n 1, 1) := by decide +kernel
theorem dX1_init_14 : decode cX1_init 14 = .ok (.iload_n 1, 1) := by decide +kernel
theorem dX1_init_15 : decode cX1_init 15 = .ok (.iconst 3, 1) := by decide +kernel
theorem dX1_init_16 : decode cX1_init 16 = .ok (.if_icmp .ge 22, 3) := by decide +kernel
theorem dX1_init_19 : decode cX1_init 19 = .ok (.aload_n 0, 1) := by decide +kernel
theorem dX1_init_20 : decode cX1_init 20 = .ok (.getfield 11, 3) := by decide +kernel
theorem dX1_init_23 : decode cX1_init 23 = .ok (.iload_n 1, 1) := by decide +kernel
theorem dX1_init_24 : decode cX1_init 24 = .ok (.new 9, 3) := by decide +kernel
theorem dX1_init_27 : decode cX1_init 27 = .ok (.dup, 1) := by decide +kernel
theorem dX1_init_28 : decode cX1_init 28 = .ok (.invokespecial 17, 3) := by decide +kernel
theorem dX1_init_31 : decode cX1_init 31 = .ok (.aastore, 1) := by decide +kernel
theorem dX1_init_32 : decode cX1_init 32 = .ok (.iinc 1 1, 3) := by decide +kernel
theorem dX1_init_35 : decode cX1_init 35 = .ok (.goto (-21), 3) := by decide +kernel
theorem dX1_init_38 : decode cX1_init 38 = .ok (.return_, 1) := by decide +kernel
set_option maxRecDepth 20000 in
theorem ggX1_layerOf_X2_within : GoodIn wsX1_layerOf wsX2_within := goodIn_r _ [4] (by decide +kernel) (by decide +kernel)
set_option maxRecDepth 20000 in
theorem gX1_layerOf_X2_within_n18 : GoodIn wsX1_layerOf (wsX2_within) := ggX1_layerOf_X2_within
theorem dX1_layerOf_0 : decode cX1_layerOf 0 = .ok (.iload_n 1, 1) := by decide +kernel
theorem dX1_layerOf_1 : decode cX1_layerOf 1 = .ok (.iconst 0, 1) := by decide +kernel
theorem dX1_layerOf_2 : decode cX1_layerOf 2 = .ok (.iconst 2, 1) := by decide +kernel
theorem dX1_layerOf_3 : decode cX1_layerOf 3 = .ok (.invokestatic 18, 3) := by decide +kernel
theorem dX1_layerOf_6 : decode cX1_layerOf 6 = .ok (.ifCond .eq 12, 3) := by decide +kernel
theorem dX1_layerOf_9 : decode cX1_layerOf 9 = .ok (.aload_n 0, 1) := by decide +kernel
theorem dX1_layerOf_10 : decode cX1_layerOf 10 = .ok (.getfield 11, 3) := by decide +kernel
theorem dX1_layerOf_13 : decode cX1_layerOf 13 = .ok (.iload_n 1, 1) := by decide +kernel
theorem dX1_layerOf_14 : decode cX1_layerOf 14 = .ok (.aaload, 1) := by decide +kernel
theorem dX1_layerOf_15 : decode cX1_layerOf 15 = .ok (.goto 4, 3) := by decide +kernel
theorem dX1_layerOf_18 : decode cX1_layerOf 18 = .ok (.aconst_null, 1) := by decide +kernel
theorem dX1_layerOf_19 : decode cX1_layerOf 19 = .ok (.areturn, 1) := by decide +kernel
set_option maxRecDepth 20000 in
theorem ggX1_copyFrom_X0_copyFrom : GoodIn wsX1_copyFrom wsX0_copyFrom := goodIn_r _ [6, 7, 8, 9, 10, 12, 13, 14, 15] (by decide +kernel) (by decide +kernel)
set_option maxRecDepth 20000 in
theorem gX1_copyFrom_X0_copyFrom : GoodIn wsX1_copyFrom (wsV RX1 22 RX0 yX0_copyFrom wsX0_copyFrom) := goodIn_app (goodIn_of _ (by decide +kernel)) ggX1_copyFrom_X0_copyFrom
theorem dX1_copyFrom_0 : decode cX1_copyFrom 0 = .ok (.iconst 0, 1) := by decide +kernel
theorem dX1_copyFrom_1 : decode cX1_copyFrom 1 = .ok (.istore_n 2, 1) := by decide +kernel
theorem dX1_copyFrom_2 : decode cX1_copyFrom 2 = .ok (.iload_n 2, 1) := by decide +kernel
theorem dX1_copyFrom_3 : decode cX1_copyFrom 3 = .ok (.iconst 3, 1) := by decide +kernel
theorem dX1_copyFrom_4 : decode cX1_copyFrom 4 = .ok (.if_icmp .ge 24, 3) := by decide +kernel
theorem dX1_copyFrom_7 : decode cX1_copyFrom 7 = .ok (.aload_n 0, 1) := by decide +kernel
theorem dX1_copyFrom_8 : decode cX1_copyFrom 8 = .ok (.getfield 11, 3) := by decide +kernel
theorem dX1_copyFrom_11 : decode cX1_copyFrom 11 = .ok (.iload_n 2, 1) := by decide +kernel
theorem dX1_copyFrom_12 : decode cX1_copyFrom 12 = .ok (.aaload, 1) := by decide +kernel
theorem dX1_copyFrom_13 : decode cX1_copyFrom 13 = .ok (.aload_n 1, 1) := by decide +kernel
theorem dX1_copyFrom_14 : decode cX1_copyFrom 14 = .ok (.getfield 11, 3) := by decide +kernel
theorem dX1_copyFrom_17 : decode cX1_copyFrom 17 = .ok (.iload_n 2, 1) := by decide +kernel
theorem dX1_copyFrom_18 : decode cX1_copyFrom 18 = .ok (.aaload, 1) := by decide +kernel
theorem dX1_copyFrom_19 : decode cX1_copyFrom 19 = .ok (.invokevirtual 22, 3) := by decide +kernel
theorem dX1_copyFrom_22 : decode cX1_copyFrom 22 = .ok (.iinc 2 1, 3) := by decide +kernel
theorem dX1_copyFrom_25 : decode cX1_copyFrom 25 = .ok (.goto (-23), 3) := by decide +kernel
theorem dX1_copyFrom_28 : decode cX1_copyFrom 28 = .ok (.return_, 1) := by decide +kernel
theorem dX1_pointsOfAll_0 : decode cX1_pointsOfAll 0 = .ok (.iconst 0, 1) := by decide +kernel
theorem dX1_pointsOfAll_1 : decode cX1_pointsOfAll 1 = .ok (.istore_n 1, 1) := by decide +kernel
theorem dX1_pointsOfAll_2 : decode cX1_pointsOfAll 2 = .ok (.iconst 0, 1) := by decide +kernel
theorem dX1_pointsOfAll_3 : decode cX1_pointsOfAll 3 = .ok (.istore_n 2, 1) := by decide +kernel
theorem dX1_pointsOfAll_4 : decode cX1_pointsOfAll 4 = .ok (.iload_n 2, 1) := by decide +kernel
theorem dX1_pointsOfAll_5 : decode cX1_pointsOfAll 5 = .ok (.iconst 3, 1) := by decide +kernel
theorem dX1_pointsOfAll_6 : decode cX1_pointsOfAll 6 = .ok (.if_icmp .ge 21, 3) := by decide +kernel
theorem dX1_pointsOfAll_9 : decode cX1_pointsOfAll 9 = .ok (.iload_n 1, 1) := by decide +kernel
theorem dX1_pointsOfAll_10 : decode cX1_pointsOfAll 10 = .ok (.aload_n 0, 1) := by decide +kernel
theorem dX1_pointsOfAll_11 : decode cX1_pointsOfAll 11 = .ok (.getfield 11, 3) := by decide +kernel
theorem dX1_pointsOfAll_14 : decode cX1_pointsOfAll 14 = .ok (.iload_n 2, 1) := by decide +kernel
theorem dX1_pointsOfAll_15 : decode cX1_pointsOfAll 15 = .ok (.aaload, 1) := by decide +kernel
theorem dX1_pointsOfAll_16 : decode cX1_pointsOfAll 16 = .ok (.getfield 26, 3) := by decide +kernel
theorem dX1_pointsOfAll_19 : decode cX1_pointsOfAll 19 = .ok (.iadd, 1) := by decide +kernel
theorem dX1_pointsOfAll_20 : decode cX1_pointsOfAll 20 = .ok (.istore_n 1, 1) := by decide +kernel
theorem dX1_pointsOfAll_21 : decode cX1_pointsOfAll 21 = .ok (.iinc 2 1, 3) := by decide +kernel
theorem dX1_pointsOfAll_24 : decode cX1_pointsOfAll 24 = .ok (.goto (-20), 3) := by decide +kernel
theorem dX1_pointsOfAll_27 : decode cX1_pointsOfAll 27 = .ok (.iload_n 1, 1) := by decide +kernel
theorem dX1_pointsOfAll_28 : decode cX1_pointsOfAll 28 = .ok (.ireturn, 1) := by decide +kernel
set_option maxRecDepth 20000 in
theorem ggX1_togetherParts_X0_coverParts : GoodIn wsX1_togetherParts wsX0_coverParts := goodIn_r _ [8, 9, 10, 11, 12, 13, 14, 15, 16, 17, 18, 19, 20, 21, 7, 22, 23, 24, 25, 26, 27, 28, 29, 30, 31, 32, 33, 34, 35, 36, 37, 38, 39, 40, 41, 43, 44, 45, 46] (by decide +kernel) (by decide +kernel)
set_option maxRecDepth 20000 in
theorem gX1_togetherParts_X0_coverParts : GoodIn wsX1_togetherParts (wsV RX1 32 RX0 yX0_coverParts wsX0_coverParts) := goodIn_app (goodIn_of _ (by decide +kernel)) ggX1_togetherParts_X0_coverParts
theorem dX1_togetherParts_0 : decode cX1_togetherParts 0 = .ok (.lconst 1, 1) := by decide +kernel
theorem dX1_togetherParts_1 : decode cX1_togetherParts 1 = .ok (.lstore_n 2, 1) := by decide +kernel
theorem dX1_togetherParts_2 : decode cX1_togetherParts 2 = .ok (.iconst 0, 1) := by decide +kernel
theorem dX1_togetherParts_3 : decode cX1_togetherParts 3 = .ok (.istore 4, 2) := by decide +kernel
theorem dX1_togetherParts_5 : decode cX1_togetherParts 5 = .ok (.iload 4, 2) := by decide +kernel
theorem dX1_togetherParts_7 : decode cX1_togetherParts 7 = .ok (.iconst 3, 1) := by decide +kernel
theorem dX1_togetherParts_8 : decode cX1_togetherParts 8 = .ok (.if_icmp .ge 29, 3) := by decide +kernel
theorem dX1_togetherParts_11 : decode cX1_togetherParts 11 = .ok (.lload_n 2, 1) := by decide +kernel
theorem dX1_togetherParts_12 : decode cX1_togetherParts 12 = .ok (.ldc2_w 30, 3) := by decide +kernel
theorem dX1_togetherParts_15 : decode cX1_togetherParts 15 = .ok (.aload_n 0, 1) := by decide +kernel
theorem dX1_togetherParts_16 : decode cX1_togetherParts 16 = .ok (.getfield 11, 3) := by decide +kernel
theorem dX1_togetherParts_19 : decode cX1_togetherParts 19 = .ok (.iload 4, 2) := by decide +kernel
theorem dX1_togetherParts_21 : decode cX1_togetherParts 21 = .ok (.aaload, 1) := by decide +kernel
theorem dX1_togetherParts_22 : decode cX1_togetherParts 22 = .ok (.iload_n 1, 1) := by decide +kernel
theorem dX1_togetherParts_23 : decode cX1_togetherParts 23 = .ok (.iconst 0, 1) := by decide +kernel
theorem dX1_togetherParts_24 : decode cX1_togetherParts 24 = .ok (.iconst 0, 1) := by decide +kernel
theorem dX1_togetherParts_25 : decode cX1_togetherParts 25 = .ok (.invokevirtual 32, 3) := by decide +kernel
theorem dX1_togetherParts_28 : decode cX1_togetherParts 28 = .ok (.lsub, 1) := by decide +kernel
theorem dX1_togetherParts_29 : decode cX1_togetherParts 29 = .ok (.lmul, 1) := by decide +kernel
theorem dX1_togetherParts_30 : decode cX1_togetherParts 30 = .ok (.lstore_n 2, 1) := by decide +kernel
theorem dX1_togetherParts_31 : decode cX1_togetherParts 31 = .ok (.iinc 4 1, 3) := by decide +kernel
theorem dX1_togetherParts_34 : decode cX1_togetherParts 34 = .ok (.goto (-29), 3) := by decide +kernel
theorem dX1_togetherParts_37 : decode cX1_togetherParts 37 = .ok (.ldc2_w 36, 3) := by decide +kernel
theorem dX1_togetherParts_40 : decode cX1_togetherParts 40 = .ok (.lload_n 2, 1) := by decide +kernel
theorem dX1_togetherParts_41 : decode cX1_togetherParts 41 = .ok (.lsub, 1) := by decide +kernel
theorem dX1_togetherParts_42 : decode cX1_togetherParts 42 = .ok (.lreturn, 1) := by decide +kernel
set_option maxRecDepth 20000 in
theorem ggX1_mostCoveredDot_X1_togetherParts : GoodIn wsX1_mostCoveredDot wsX1_togetherParts := goodIn_r _ [5, 6, 7, 8, 9, 10, 11, 12, 13, 14, 15, 16, 17, 18, 19, 20, 21, 22, 23, 24, 25, 26, 27, 28, 29, 30, 31, 32, 33, 34, 35, 36, 37, 38, 39, 40, 41, 42, 43, 44, 45, 46, 47, 48, 49, 50, 51] (by decide +kernel) (by decide +kernel)
set_option maxRecDepth 20000 in
theorem gX1_mostCoveredDot_X1_togetherParts : GoodIn wsX1_mostCoveredDot (wsV RX1 38 RX1 yX1_togetherParts wsX1_togetherParts) := goodIn_app (goodIn_of _ (by decide +kernel)) ggX1_mostCoveredDot_X1_togetherParts
theorem dX1_mostCoveredDot_0 : decode cX1_mostCoveredDot 0 = .ok (.iconst 0, 1) := by decide +kernel
theorem dX1_mostCoveredDot_1 : decode cX1_mostCoveredDot 1 = .ok (.istore_n 1, 1) := by decide +kernel
theorem dX1_mostCoveredDot_2 : decode cX1_mostCoveredDot 2 = .ok (.aload_n 0, 1) := by decide +kernel
theorem dX1_mostCoveredDot_3 : decode cX1_mostCoveredDot 3 = .ok (.iconst 0, 1) := by decide +kernel
theorem dX1_mostCoveredDot_4 : decode cX1_mostCoveredDot 4 = .ok (.invokevirtual 38, 3) := by decide +kernel
theorem dX1_mostCoveredDot_7 : decode cX1_mostCoveredDot 7 = .ok (.lstore_n 2, 1) := by decide +kernel
theorem dX1_mostCoveredDot_8 : decode cX1_mostCoveredDot 8 = .ok (.iconst 1, 1) := by decide +kernel
theorem dX1_mostCoveredDot_9 : decode cX1_mostCoveredDot 9 = .ok (.istore 4, 2) := by decide +kernel
theorem dX1_mostCoveredDot_11 : decode cX1_mostCoveredDot 11 = .ok (.iload 4, 2) := by decide +kernel
theorem dX1_mostCoveredDot_13 : decode cX1_mostCoveredDot 13 = .ok (.bipush 16, 2) := by decide +kernel
theorem dX1_mostCoveredDot_15 : decode cX1_mostCoveredDot 15 = .ok (.if_icmp .ge 30, 3) := by decide +kernel
theorem dX1_mostCoveredDot_18 : decode cX1_mostCoveredDot 18 = .ok (.aload_n 0, 1) := by decide +kernel
theorem dX1_mostCoveredDot_19 : decode cX1_mostCoveredDot 19 = .ok (.iload 4, 2) := by decide +kernel
theorem dX1_mostCoveredDot_21 : decode cX1_mostCoveredDot 21 = .ok (.invokevirtual 38, 3) := by decide +kernel
theorem dX1_mostCoveredDot_24 : decode cX1_mostCoveredDot 24 = .ok (.lstore 5, 2) := by decide +kernel
theorem dX1_mostCoveredDot_26 : decode cX1_mostCoveredDot 26 = .ok (.lload 5, 2) := by decide +kernel
theorem dX1_mostCoveredDot_28 : decode cX1_mostCoveredDot 28 = .ok (.lload_n 2, 1) := by decide +kernel
theorem dX1_mostCoveredDot_29 : decode cX1_mostCoveredDot 29 = .ok (.lcmp, 1) := by decide +kernel
theorem dX1_mostCoveredDot_30 : decode cX1_mostCoveredDot 30 = .ok (.ifCond .le 9, 3) := by decide +kernel
theorem dX1_mostCoveredDot_33 : decode cX1_mostCoveredDot 33 = .ok (.lload 5, 2) := by decide +kernel
theorem dX1_mostCoveredDot_35 : decode cX1_mostCoveredDot 35 = .ok (.lstore_n 2, 1) := by decide +kernel
theorem dX1_mostCoveredDot_36 : decode cX1_mostCoveredDot 36 = .ok (.iload 4, 2) := by decide +kernel
theorem dX1_mostCoveredDot_38 : decode cX1_mostCoveredDot 38 = .ok (.istore_n 1, 1) := by decide +kernel
theorem dX1_mostCoveredDot_39 : decode cX1_mostCoveredDot 39 = .ok (.iinc 4 1, 3) := by decide +kernel
theorem dX1_mostCoveredDot_42 : decode cX1_mostCoveredDot 42 = .ok (.goto (-31), 3) := by decide +kernel
theorem dX1_mostCoveredDot_45 : decode cX1_mostCoveredDot 45 = .ok (.iload_n 1, 1) := by decide +kernel
theorem dX1_mostCoveredDot_46 : decode cX1_mostCoveredDot 46 = .ok (.ireturn, 1) := by decide +kernel
set_option maxRecDepth 20000 in
theorem ggX1_leastCoveredDot_X1_togetherParts : GoodIn wsX1_leastCoveredDot wsX1_togetherParts := goodIn_r _ [5, 6, 7, 8, 9, 10, 11, 12, 13, 14, 15, 16, 17, 18, 19, 20, 21, 22, 23, 24, 25, 26, 27, 28, 29, 30, 31, 32, 33, 34, 35, 36, 37, 38, 39, 40, 41, 42, 43, 44, 45, 46, 47, 48, 49, 50, 51] (by decide +kernel) (by decide +kernel)
set_option maxRecDepth 20000 in
theorem gX1_leastCoveredDot_X1_togetherParts : GoodIn wsX1_leastCoveredDot (wsV RX1 38 RX1 yX1_togetherParts wsX1_togetherParts) := goodIn_app (goodIn_of _ (by decide +kernel)) ggX1_leastCoveredDot_X1_togetherParts
theorem dX1_leastCoveredDot_0 : decode cX1_leastCoveredDot 0 = .ok (.iconst 0, 1) := by decide +kernel
theorem dX1_leastCoveredDot_1 : decode cX1_leastCoveredDot 1 = .ok (.istore_n 1, 1) := by decide +kernel
theorem dX1_leastCoveredDot_2 : decode cX1_leastCoveredDot 2 = .ok (.aload_n 0, 1) := by decide +kernel
theorem dX1_leastCoveredDot_3 : decode cX1_leastCoveredDot 3 = .ok (.iconst 0, 1) := by decide +kernel
theorem dX1_leastCoveredDot_4 : decode cX1_leastCoveredDot 4 = .ok (.invokevirtual 38, 3) := by decide +kernel
theorem dX1_leastCoveredDot_7 : decode cX1_leastCoveredDot 7 = .ok (.lstore_n 2, 1) := by decide +kernel
theorem dX1_leastCoveredDot_8 : decode cX1_leastCoveredDot 8 = .ok (.iconst 1, 1) := by decide +kernel
theorem dX1_leastCoveredDot_9 : decode cX1_leastCoveredDot 9 = .ok (.istore 4, 2) := by decide +kernel
theorem dX1_leastCoveredDot_11 : decode cX1_leastCoveredDot 11 = .ok (.iload 4, 2) := by decide +kernel
theorem dX1_leastCoveredDot_13 : decode cX1_leastCoveredDot 13 = .ok (.bipush 16, 2) := by decide +kernel
theorem dX1_leastCoveredDot_15 : decode cX1_leastCoveredDot 15 = .ok (.if_icmp .ge 30, 3) := by decide +kernel
theorem dX1_leastCoveredDot_18 : decode cX1_leastCoveredDot 18 = .ok (.aload_n 0, 1) := by decide +kernel
theorem dX1_leastCoveredDot_19 : decode cX1_leastCoveredDot 19 = .ok (.iload 4, 2) := by decide +kernel
theorem dX1_leastCoveredDot_21 : decode cX1_leastCoveredDot 21 = .ok (.invokevirtual 38, 3) := by decide +kernel
theorem dX1_leastCoveredDot_24 : decode cX1_leastCoveredDot 24 = .ok (.lstore 5, 2) := by decide +kernel
theorem dX1_leastCoveredDot_26 : decode cX1_leastCoveredDot 26 = .ok (.lload 5, 2) := by decide +kernel
theorem dX1_leastCoveredDot_28 : decode cX1_leastCoveredDot 28 = .ok (.lload_n 2, 1) := by decide +kernel
theorem dX1_leastCoveredDot_29 : decode cX1_leastCoveredDot 29 = .ok (.lcmp, 1) := by decide +kernel
theorem dX1_leastCoveredDot_30 : decode cX1_leastCoveredDot 30 = .ok (.ifCond .ge 9, 3) := by decide +kernel
theorem dX1_leastCoveredDot_33 : decode cX1_leastCoveredDot 33 = .ok (.lload 5, 2) := by decide +kernel
theorem dX1_leastCoveredDot_35 : decode cX1_leastCoveredDot 35 = .ok (.lstore_n 2, 1) := by decide +kernel
theorem dX1_leastCoveredDot_36 : decode cX1_leastCoveredDot 36 = .ok (.iload 4, 2) := by decide +kernel
theorem dX1_leastCoveredDot_38 : decode cX1_leastCoveredDot 38 = .ok (.istore_n 1, 1) := by decide +kernel
theorem dX1_leastCoveredDot_39 : decode cX1_leastCoveredDot 39 = .ok (.iinc 4 1, 3) := by decide +kernel
theorem dX1_leastCoveredDot_42 : decode cX1_leastCoveredDot 42 = .ok (.goto (-31), 3) := by decide +kernel
theorem dX1_leastCoveredDot_45 : decode cX1_leastCoveredDot 45 = .ok (.iload_n 1, 1) := by decide +kernel
theorem dX1_leastCoveredDot_46 : decode cX1_leastCoveredDot 46 = .ok (.ireturn, 1) := by decide +kernel
set_option maxRecDepth 20000 in
theorem ggX1_dotsWithTogether_X1_togetherParts : GoodIn wsX1_dotsWithTogether wsX1_togetherParts := goodIn_r _ [5, 6, 7, 8, 9, 10, 11, 12, 13, 14, 15, 16, 17, 18, 19, 20, 21, 22, 23, 24, 25, 26, 27, 28, 29, 30, 31, 32, 33, 34, 35, 36, 37, 38, 39, 40, 41, 42, 43, 44, 45, 46, 47, 48, 49, 50, 51] (by decide +kernel) (by decide +kernel)
set_option maxRecDepth 20000 in
theorem gX1_dotsWithTogether_X1_togetherParts : GoodIn wsX1_dotsWithTogether (wsV RX1 38 RX1 yX1_togetherParts wsX1_togetherParts) := goodIn_app (goodIn_of _ (by decide +kernel)) ggX1_dotsWithTogether_X1_togetherParts
theorem dX1_dotsWithTogether_0 : decode cX1_dotsWithTogether 0 = .ok (.iconst 0, 1) := by decide +kernel
theorem dX1_dotsWithTogether_1 : decode cX1_dotsWithTogether 1 = .ok (.istore_n 3, 1) := by decide +kernel
theorem dX1_dotsWithTogether_2 : decode cX1_dotsWithTogether 2 = .ok (.iconst 0, 1) := by decide +kernel
theorem dX1_dotsWithTogether_3 : decode cX1_dotsWithTogether 3 = .ok (.istore 4, 2) := by decide +kernel
theorem dX1_dotsWithTogether_5 : decode cX1_dotsWithTogether 5 = .ok (.iload 4, 2) := by decide +kernel
theorem dX1_dotsWithTogether_7 : decode cX1_dotsWithTogether 7 = .ok (.bipush 16, 2) := by decide +kernel
theorem dX1_dotsWithTogether_9 : decode cX1_dotsWithTogether 9 = .ok (.if_icmp .ge 23, 3) := by decide +kernel
theorem dX1_dotsWithTogether_12 : decode cX1_dotsWithTogether 12 = .ok (.aload_n 0, 1) := by decide +kernel
theorem dX1_dotsWithTogether_13 : decode cX1_dotsWithTogether 13 = .ok (.iload 4, 2) := by decide +kernel
theorem dX1_dotsWithTogether_15 : decode cX1_dotsWithTogether 15 = .ok (.invokevirtual 38, 3) := by decide +kernel
theorem dX1_dotsWithTogether_18 : decode cX1_dotsWithTogether 18 = .ok (.lload_n 1, 1) := by decide +kernel
theorem dX1_dotsWithTogether_19 : decode cX1_dotsWithTogether 19 = .ok (.lcmp, 1) := by decide +kernel
theorem dX1_dotsWithTogether_20 : decode cX1_dotsWithTogether 20 = .ok (.ifCond .ne 6, 3) := by decide +kernel
theorem dX1_dotsWithTogether_23 : decode cX1_dotsWithTogether 23 = .ok (.iinc 3 1, 3) := by decide +kernel
theorem dX1_dotsWithTogether_26 : decode cX1_dotsWithTogether 26 = .ok (.iinc 4 1, 3) := by decide +kernel
theorem dX1_dotsWithTogether_29 : decode cX1_dotsWithTogether 29 = .ok (.goto (-24), 3) := by decide +kernel
theorem dX1_dotsWithTogether_32 : decode cX1_dotsWithTogether 32 = .ok (.iload_n 3, 1) := by decide +kernel
theorem dX1_dotsWithTogether_33 : decode cX1_dotsWithTogether 33 = .ok (.ireturn, 1) := by decide +kernel
set_option maxRecDepth 20000 in
theorem ggX2_init_X1_init : GoodIn wsX2_init wsX1_init := goodIn_r _ [12, 13, 2, 3, 14, 15, 16, 17, 18, 19, 20, 21, 22, 23, 24, 25, 26, 27, 31, 32, 33, 34] (by decide +kernel) (by decide +kernel)
set_option maxRecDepth 20000 in
theorem gX2_init_X1_init : GoodIn wsX2_init (wsX1_init) := ggX2_init_X1_init
theorem dX2_init_0 : decode cX2_init 0 = .ok (.aload_n 0, 1) := by decide +kernel
theorem dX2_init_1 : decode cX2_init 1 = .ok (.invokespecial 3, 3) := by decide +kernel
theorem dX2_init_4 : decode cX2_init 4 = .ok (.aload_n 0, 1) := by decide +kernel
theorem dX2_init_5 : decode cX2_init 5 = .ok (.new 9, 3) := by decide +kernel
theorem dX2_init_8 : decode cX2_init 8 = .ok (.dup, 1) := by decide +kernel
theorem dX2_init_9 : decode cX2_init 9 = .ok (.invokespecial 11, 3) := by decide +kernel
theorem dX2_init_12 : decode cX2_init 12 = .ok (.putfield 12, 3) := by decide +kernel
theorem dX2_init_15 : decode cX2_init 15 = .ok (.aload_n 0, 1) := by decide +kernel
theorem dX2_init_16 : decode cX2_init 16 = .ok (.iconst 2, 1) := by decide +kernel
theorem dX2_init_17 : decode cX2_init 17 = .ok (.anewarray 9, 3) := by decide +kernel
theorem dX2_init_20 : decode cX2_init 20 = .ok (.putfield 16, 3) := by decide +kernel
theorem dX2_init_23 : decode cX2_init 23 = .ok (.iconst 0, 1) := by decide +kernel
theorem dX2_init_24 : decode cX2_init 24 = .ok (.istore_n 1, 1) := by decide +kernel
theorem dX2_init_25 : decode cX2_init 25 = .ok (.iload_n 1, 1) := by decide +kernel
theorem dX2_init_26 : decode cX2_init 26 = .ok (.iconst 2, 1) := by decide +kernel
theorem dX2_init_27 : decode cX2_init 27 = .ok (.if_icmp .ge 22, 3) := by decide +kernel
theorem dX2_init_30 : decode cX2_init 30 = .ok (.aload_n 0, 1) := by decide +kernel
theorem dX2_init_31 : decode cX2_init 31 = .ok (.getfield 16, 3) := by decide +kernel
theorem dX2_init_34 : decode cX2_init 34 = .ok (.iload_n 1, 1) := by decide +kernel
theorem dX2_init_35 : decode cX2_init 35 = .ok (.new 9, 3) := by decide +kernel
theorem dX2_init_38 : decode cX2_init 38 = .ok (.dup, 1) := by decide +kernel
theorem dX2_init_39 : decode cX2_init 39 = .ok (.invokespecial 11, 3) := by decide +kernel
theorem dX2_init_42 : decode cX2_init 42 = .ok (.aastore, 1) := by decide +kernel
theorem dX2_init_43 : decode cX2_init 43 = .ok (.iinc 1 1, 3) := by decide +kernel
theorem dX2_init_46 : decode cX2_init 46 = .ok (.goto (-21), 3) := by decide +kernel
theorem dX2_init_49 : decode cX2_init 49 = .ok (.aload_n 0, 1) := by decide +kernel
theorem dX2_init_50 : decode cX2_init 50 = .ok (.iconst 0, 1) := by decide +kernel
theorem dX2_init_51 : decode cX2_init 51 = .ok (.putfield 20, 3) := by decide +kernel
theorem dX2_init_54 : decode cX2_init 54 = .ok (.return_, 1) := by decide +kernel
set_option maxRecDepth 20000 in
theorem ggX2_point_X1_layerOf : GoodIn wsX2_point wsX1_layerOf := goodIn_r _ [6, 7, 8, 9, 10, 30] (by decide +kernel) (by decide +kernel)
set_option maxRecDepth 20000 in
theorem gX2_point_X1_layerOf : GoodIn wsX2_point (wsV RX2 24 RX1 yX1_layerOf wsX1_layerOf) := goodIn_app (goodIn_of _ (by decide +kernel)) ggX2_point_X1_layerOf
set_option maxRecDepth 20000 in
theorem ggX2_point_X2_inField : GoodIn wsX2_point wsX2_inField := goodIn_r _ [13, 14, 8, 9, 10] (by decide +kernel) (by decide +kernel)
set_option maxRecDepth 20000 in
theorem gX2_point_X2_inField : GoodIn wsX2_point (va_wsS RX2 28 yX2_inField wsX2_inField) := goodIn_app (goodIn_of _ (by decide +kernel)) ggX2_point_X2_inField
set_option maxRecDepth 20000 in
theorem ggX2_point_X0_add : GoodIn wsX2_point wsX0_add := goodIn_r _ [19, 20, 21, 22, 26, 27, 28, 29] (by decide +kernel) (by decide +kernel)
set_option maxRecDepth 20000 in
theorem gX2_point_X0_add : GoodIn wsX2_point (wsV RX2 37 RX0 yX0_add wsX0_add) := goodIn_app (goodIn_of _ (by decide +kernel)) ggX2_point_X0_add
theorem dX2_point_0 : decode cX2_point 0 = .ok (.aload_n 0, 1) := by decide +kernel
theorem dX2_point_1 : decode cX2_point 1 = .ok (.getfield 12, 3) := by decide +kernel
theorem dX2_point_4 : decode cX2_point 4 = .ok (.iload_n 1, 1) := by decide +kernel
theorem dX2_point_5 : decode cX2_point 5 = .ok (.invokevirtual 24, 3) := by decide +kernel
theorem dX2_point_8 : decode cX2_point 8 = .ok (.astore 4, 2) := by decide +kernel
theorem dX2_point_10 : decode cX2_point 10 = .ok (.aload 4, 2) := by decide +kernel
theorem dX2_point_12 : decode cX2_point 12 = .ok (.ifnonnull 5, 3) := by decide +kernel
theorem dX2_point_15 : decode cX2_point 15 = .ok (.iconst (-1), 1) := by decide +kernel
theorem dX2_point_16 : decode cX2_point 16 = .ok (.ireturn, 1) := by decide +kernel
theorem dX2_point_17 : decode cX2_point 17 = .ok (.iload_n 2, 1) := by decide +kernel
theorem dX2_point_18 : decode cX2_point 18 = .ok (.invokestatic 28, 3) := by decide +kernel
theorem dX2_point_21 : decode cX2_point 21 = .ok (.ifCond .eq 10, 3) := by decide +kernel
theorem dX2_point_24 : decode cX2_point 24 = .ok (.iload_n 3, 1) := by decide +kernel
theorem dX2_point_25 : decode cX2_point 25 = .ok (.invokestatic 28, 3) := by decide +kernel
theorem dX2_point_28 : decode cX2_point 28 = .ok (.ifCond .ne 6, 3) := by decide +kernel
theorem dX2_point_31 : decode cX2_point 31 = .ok (.bipush (-2), 2) := by decide +kernel
theorem dX2_point_33 : decode cX2_point 33 = .ok (.ireturn, 1) := by decide +kernel
theorem dX2_point_34 : decode cX2_point 34 = .ok (.aload 4, 2) := by decide +kernel
theorem dX2_point_36 : decode cX2_point 36 = .ok (.getfield 32, 3) := by decide +kernel
theorem dX2_point_39 : decode cX2_point 39 = .ok (.bipush 8, 2) := by decide +kernel
theorem dX2_point_41 : decode cX2_point 41 = .ok (.if_icmp .lt 6, 3) := by decide +kernel
theorem dX2_point_44 : decode cX2_point 44 = .ok (.bipush (-4), 2) := by decide +kernel
theorem dX2_point_46 : decode cX2_point 46 = .ok (.ireturn, 1) := by decide +kernel
theorem dX2_point_47 : decode cX2_point 47 = .ok (.aload 4, 2) := by decide +kernel
theorem dX2_point_49 : decode cX2_point 49 = .ok (.iload_n 2, 1) := by decide +kernel
theorem dX2_point_50 : decode cX2_point 50 = .ok (.iload_n 3, 1) := by decide +kernel
theorem dX2_point_51 : decode cX2_point 51 = .ok (.invokevirtual 37, 3) := by decide +kernel
theorem dX2_point_54 : decode cX2_point 54 = .ok (.ireturn, 1) := by decide +kernel
set_option maxRecDepth 20000 in
theorem ggX2_pop_X1_layerOf : GoodIn wsX2_pop wsX1_layerOf := goodIn_r _ [6, 7, 8, 9, 10, 18] (by decide +kernel) (by decide +kernel)
set_option maxRecDepth 20000 in
theorem gX2_pop_X1_layerOf : GoodIn wsX2_pop (wsV RX2 24 RX1 yX1_layerOf wsX1_layerOf) := goodIn_app (goodIn_of _ (by decide +kernel)) ggX2_pop_X1_layerOf
theorem dX2_pop_0 : decode cX2_pop 0 = .ok (.aload_n 0, 1) := by decide +kernel
theorem dX2_pop_1 : decode cX2_pop 1 = .ok (.getfield 12, 3) := by decide +kernel
theorem dX2_pop_4 : decode cX2_pop 4 = .ok (.iload_n 1, 1) := by decide +kernel
theorem dX2_pop_5 : decode cX2_pop 5 = .ok (.invokevirtual 24, 3) := by decide +kernel
theorem dX2_pop_8 : decode cX2_pop 8 = .ok (.astore_n 2, 1) := by decide +kernel
theorem dX2_pop_9 : decode cX2_pop 9 = .ok (.aload_n 2, 1) := by decide +kernel
theorem dX2_pop_10 : decode cX2_pop 10 = .ok (.ifnonnull 5, 3) := by decide +kernel
theorem dX2_pop_13 : decode cX2_pop 13 = .ok (.iconst (-1), 1) := by decide +kernel
theorem dX2_pop_14 : decode cX2_pop 14 = .ok (.ireturn, 1) := by decide +kernel
theorem dX2_pop_15 : decode cX2_pop 15 = .ok (.aload_n 2, 1) := by decide +kernel
theorem dX2_pop_16 : decode cX2_pop 16 = .ok (.getfield 32, 3) := by decide +kernel
theorem dX2_pop_19 : decode cX2_pop 19 = .ok (.ifCond .gt 6, 3) := by decide +kernel
theorem dX2_pop_22 : decode cX2_pop 22 = .ok (.bipush (-3), 2) := by decide +kernel
theorem dX2_pop_24 : decode cX2_pop 24 = .ok (.ireturn, 1) := by decide +kernel
theorem dX2_pop_25 : decode cX2_pop 25 = .ok (.aload_n 2, 1) := by decide +kernel
theorem dX2_pop_26 : decode cX2_pop 26 = .ok (.dup, 1) := by decide +kernel
theorem dX2_pop_27 : decode cX2_pop 27 = .ok (.getfield 32, 3) := by decide +kernel
theorem dX2_pop_30 : decode cX2_pop 30 = .ok (.iconst 1, 1) := by decide +kernel
theorem dX2_pop_31 : decode cX2_pop 31 = .ok (.isub, 1) := by decide +kernel
theorem dX2_pop_32 : decode cX2_pop 32 = .ok (.putfield 32, 3) := by decide +kernel
theorem dX2_pop_35 : decode cX2_pop 35 = .ok (.aload_n 2, 1) := by decide +kernel
theorem dX2_pop_36 : decode cX2_pop 36 = .ok (.getfield 32, 3) := by decide +kernel
theorem dX2_pop_39 : decode cX2_pop 39 = .ok (.ireturn, 1) := by decide +kernel
set_option maxRecDepth 20000 in
theorem ggX2_set_X1_layerOf : GoodIn wsX2_set wsX1_layerOf := goodIn_r _ [6, 7, 8, 9, 10, 28] (by decide +kernel) (by decide +kernel)
set_option maxRecDepth 20000 in
theorem gX2_set_X1_layerOf : GoodIn wsX2_set (wsV RX2 24 RX1 yX1_layerOf wsX1_layerOf) := goodIn_app (goodIn_of _ (by decide +kernel)) ggX2_set_X1_layerOf
set_option maxRecDepth 20000 in
theorem ggX2_set_X0_has : GoodIn wsX2_set wsX0_has := goodIn_r _ [15, 16, 24, 25, 26, 27] (by decide +kernel) (by decide +kernel)
set_option maxRecDepth 20000 in
theorem gX2_set_X0_has : GoodIn wsX2_set (wsV RX2 41 RX0 yX0_has wsX0_has) := goodIn_app (goodIn_of _ (by decide +kernel)) ggX2_set_X0_has
set_option maxRecDepth 20000 in
theorem ggX2_set_X2_inField : GoodIn wsX2_set wsX2_inField := goodIn_r _ [19, 20, 8, 9, 10] (by decide +kernel) (by decide +kernel)
set_option maxRecDepth 20000 in
theorem gX2_set_X2_inField : GoodIn wsX2_set (va_wsS RX2 28 yX2_inField wsX2_inField) := goodIn_app (goodIn_of _ (by decide +kernel)) ggX2_set_X2_inField
theorem dX2_set_0 : decode cX2_set 0 = .ok (.aload_n 0, 1) := by decide +kernel
theorem dX2_set_1 : decode cX2_set 1 = .ok (.getfield 12, 3) := by decide +kernel
theorem dX2_set_4 : decode cX2_set 4 = .ok (.iload_n 1, 1) := by decide +kernel
theorem dX2_set_5 : decode cX2_set 5 = .ok (.invokevirtual 24, 3) := by decide +kernel
theorem dX2_set_8 : decode cX2_set 8 = .ok (.astore 5, 2) := by decide +kernel
theorem dX2_set_10 : decode cX2_set 10 = .ok (.aload 5, 2) := by decide +kernel
theorem dX2_set_12 : decode cX2_set 12 = .ok (.ifnull 12, 3) := by decide +kernel
theorem dX2_set_15 : decode cX2_set 15 = .ok (.aload 5, 2) := by decide +kernel
theorem dX2_set_17 : decode cX2_set 17 = .ok (.iload_n 2, 1) := by decide +kernel
theorem dX2_set_18 : decode cX2_set 18 = .ok (.invokevirtual 41, 3) := by decide +kernel
theorem dX2_set_21 : decode cX2_set 21 = .ok (.ifCond .ne 5, 3) := by decide +kernel
theorem dX2_set_24 : decode cX2_set 24 = .ok (.iconst (-1), 1) := by decide +kernel
theorem dX2_set_25 : decode cX2_set 25 = .ok (.ireturn, 1) := by decide +kernel
theorem dX2_set_26 : decode cX2_set 26 = .ok (.iload_n 3, 1) := by decide +kernel
theorem dX2_set_27 : decode cX2_set 27 = .ok (.invokestatic 28, 3) := by decide +kernel
theorem dX2_set_30 : decode cX2_set 30 = .ok (.ifCond .eq 11, 3) := by decide +kernel
theorem dX2_set_33 : decode cX2_set 33 = .ok (.iload 4, 2) := by decide +kernel
theorem dX2_set_35 : decode cX2_set 35 = .ok (.invokestatic 28, 3) := by decide +kernel
theorem dX2_set_38 : decode cX2_set 38 = .ok (.ifCond .ne 6, 3) := by decide +kernel
theorem dX2_set_41 : decode cX2_set 41 = .ok (.bipush (-2), 2) := by decide +kernel
theorem dX2_set_43 : decode cX2_set 43 = .ok (.ireturn, 1) := by decide +kernel
theorem dX2_set_44 : decode cX2_set 44 = .ok (.bipush 13, 2) := by decide +kernel
theorem dX2_set_46 : decode cX2_set 46 = .ok (.aload 5, 2) := by decide +kernel
theorem dX2_set_48 : decode cX2_set 48 = .ok (.getfield 44, 3) := by decide +kernel
theorem dX2_set_51 : decode cX2_set 51 = .ok (.iload_n 2, 1) := by decide +kernel
theorem dX2_set_52 : decode cX2_set 52 = .ok (.iaload, 1) := by decide +kernel
theorem dX2_set_53 : decode cX2_set 53 = .ok (.imul, 1) := by decide +kernel
theorem dX2_set_54 : decode cX2_set 54 = .ok (.aload 5, 2) := by decide +kernel
theorem dX2_set_56 : decode cX2_set 56 = .ok (.getfield 48, 3) := by decide +kernel
theorem dX2_set_59 : decode cX2_set 59 = .ok (.iload_n 2, 1) := by decide +kernel
theorem dX2_set_60 : decode cX2_set 60 = .ok (.iaload, 1) := by decide +kernel
theorem dX2_set_61 : decode cX2_set 61 = .ok (.iadd, 1) := by decide +kernel
theorem dX2_set_62 : decode cX2_set 62 = .ok (.istore 6, 2) := by decide +kernel
theorem dX2_set_64 : decode cX2_set 64 = .ok (.aload 5, 2) := by decide +kernel
theorem dX2_set_66 : decode cX2_set 66 = .ok (.getfield 44, 3) := by decide +kernel
theorem dX2_set_69 : decode cX2_set 69 = .ok (.iload_n 2, 1) := by decide +kernel
theorem dX2_set_70 : decode cX2_set 70 = .ok (.iload_n 3, 1) := by decide +kernel
theorem dX2_set_71 : decode cX2_set 71 = .ok (.iastore, 1) := by decide +kernel
theorem dX2_set_72 : decode cX2_set 72 = .ok (.aload 5, 2) := by decide +kernel
theorem dX2_set_74 : decode cX2_set 74 = .ok (.getfield 48, 3) := by decide +kernel
theorem dX2_set_77 : decode cX2_set 77 = .ok (.iload_n 2, 1) := by decide +kernel
theorem dX2_set_78 : decode cX2_set 78 = .ok (.iload 4, 2) := by decide +kernel
theorem dX2_set_80 : decode cX2_set 80 = .ok (.iastore, 1) := by decide +kernel
theorem dX2_set_81 : decode cX2_set 81 = .ok (.iload 6, 2) := by decide +kernel
theorem dX2_set_83 : decode cX2_set 83 = .ok (.ireturn, 1) := by decide +kernel
set_option maxRecDepth 20000 in
theorem ggX2_rule_X1_layerOf : GoodIn wsX2_rule wsX1_layerOf := goodIn_r _ [6, 7, 8, 9, 10, 19] (by decide +kernel) (by decide +kernel)
set_option maxRecDepth 20000 in
theorem gX2_rule_X1_layerOf : GoodIn wsX2_rule (wsV RX2 24 RX1 yX1_layerOf wsX1_layerOf) := goodIn_app (goodIn_of _ (by decide +kernel)) ggX2_rule_X1_layerOf
set_option maxRecDepth 20000 in
theorem ggX2_rule_X2_within : GoodIn wsX2_rule wsX2_within := goodIn_r _ [10] (by decide +kernel) (by decide +kernel)
set_option maxRecDepth 20000 in
theorem gX2_rule_X2_within : GoodIn wsX2_rule (va_wsS RX2 51 yX2_within wsX2_within) := goodIn_app (goodIn_of _ (by decide +kernel)) ggX2_rule_X2_within
theorem dX2_rule_0 : decode cX2_rule 0 = .ok (.aload_n 0, 1) := by decide +kernel
theorem dX2_rule_1 : decode cX2_rule 1 = .ok (.getfield 12, 3) := by decide +kernel
theorem dX2_rule_4 : decode cX2_rule 4 = .ok (.iload_n 1, 1) := by decide +kernel
theorem dX2_rule_5 : decode cX2_rule 5 = .ok (.invokevirtual 24, 3) := by decide +kernel
theorem dX2_rule_8 : decode cX2_rule 8 = .ok (.astore_n 3, 1) := by decide +kernel
theorem dX2_rule_9 : decode cX2_rule 9 = .ok (.aload_n 3, 1) := by decide +kernel
theorem dX2_rule_10 : decode cX2_rule 10 = .ok (.ifnonnull 5, 3) := by decide +kernel
theorem dX2_rule_13 : decode cX2_rule 13 = .ok (.iconst (-1), 1) := by decide +kernel
theorem dX2_rule_14 : decode cX2_rule 14 = .ok (.ireturn, 1) := by decide +kernel
theorem dX2_rule_15 : decode cX2_rule 15 = .ok (.iload_n 2, 1) := by decide +kernel
theorem dX2_rule_16 : decode cX2_rule 16 = .ok (.iconst 0, 1) := by decide +kernel
theorem dX2_rule_17 : decode cX2_rule 17 = .ok (.iconst 1, 1) := by decide +kernel
theorem dX2_rule_18 : decode cX2_rule 18 = .ok (.invokestatic 51, 3) := by decide +kernel
theorem dX2_rule_21 : decode cX2_rule 21 = .ok (.ifCond .ne 6, 3) := by decide +kernel
theorem dX2_rule_24 : decode cX2_rule 24 = .ok (.bipush (-2), 2) := by decide +kernel
theorem dX2_rule_26 : decode cX2_rule 26 = .ok (.ireturn, 1) := by decide +kernel
theorem dX2_rule_27 : decode cX2_rule 27 = .ok (.aload_n 3, 1) := by decide +kernel
theorem dX2_rule_28 : decode cX2_rule 28 = .ok (.getfield 55, 3) := by decide +kernel
theorem dX2_rule_31 : decode cX2_rule 31 = .ok (.istore 4, 2) := by decide +kernel
theorem dX2_rule_33 : decode cX2_rule 33 = .ok (.aload_n 3, 1) := by decide +kernel
theorem dX2_rule_34 : decode cX2_rule 34 = .ok (.iload_n 2, 1) := by decide +kernel
theorem dX2_rule_35 : decode cX2_rule 35 = .ok (.putfield 55, 3) := by decide +kernel
theorem dX2_rule_38 : decode cX2_rule 38 = .ok (.iload 4, 2) := by decide +kernel
theorem dX2_rule_40 : decode cX2_rule 40 = .ok (.ireturn, 1) := by decide +kernel
set_option maxRecDepth 20000 in
theorem ggX2_move_X1_layerOf : GoodIn wsX2_move wsX1_layerOf := goodIn_r _ [6, 7, 8, 9, 10, 33] (by decide +kernel) (by decide +kernel)
set_option maxRecDepth 20000 in
theorem gX2_move_X1_layerOf : GoodIn wsX2_move (wsV RX2 24 RX1 yX1_layerOf wsX1_layerOf) := goodIn_app (goodIn_of _ (by decide +kernel)) ggX2_move_X1_layerOf
set_option maxRecDepth 20000 in
theorem ggX2_move_X2_within : GoodIn wsX2_move wsX2_within := goodIn_r _ [10] (by decide +kernel) (by decide +kernel)
set_option maxRecDepth 20000 in
theorem gX2_move_X2_within : GoodIn wsX2_move (va_wsS RX2 51 yX2_within wsX2_within) := goodIn_app (goodIn_of _ (by decide +kernel)) ggX2_move_X2_within
set_option maxRecDepth 20000 in
theorem ggX2_move_X0_staysInField : GoodIn wsX2_move wsX0_staysInField := goodIn_r _ [16, 17, 18, 19, 20, 9, 21, 11, 8, 10, 29, 30, 31, 32] (by decide +kernel) (by decide +kernel)
set_option maxRecDepth 20000 in
theorem gX2_move_X0_staysInField : GoodIn wsX2_move (wsV RX2 58 RX0 yX0_staysInField wsX0_staysInField) := goodIn_app (goodIn_of _ (by decide +kernel)) ggX2_move_X0_staysInField
set_option maxRecDepth 20000 in
theorem ggX2_move_X0_shift : GoodIn wsX2_move wsX0_shift := goodIn_r _ [25, 17, 18, 19, 29, 30, 31, 32] (by decide +kernel) (by decide +kernel)
set_option maxRecDepth 20000 in
theorem gX2_move_X0_shift : GoodIn wsX2_move (wsV RX2 62 RX0 yX0_shift wsX0_shift) := goodIn_app (goodIn_of _ (by decide +kernel)) ggX2_move_X0_shift
theorem dX2_move_0 : decode cX2_move 0 = .ok (.aload_n 0, 1) := by decide +kernel
theorem dX2_move_1 : decode cX2_move 1 = .ok (.getfield 12, 3) := by decide +kernel
theorem dX2_move_4 : decode cX2_move 4 = .ok (.iload_n 1, 1) := by decide +kernel
theorem dX2_move_5 : decode cX2_move 5 = .ok (.invokevirtual 24, 3) := by decide +kernel
theorem dX2_move_8 : decode cX2_move 8 = .ok (.astore 4, 2) := by decide +kernel
theorem dX2_move_10 : decode cX2_move 10 = .ok (.aload 4, 2) := by decide +kernel
theorem dX2_move_12 : decode cX2_move 12 = .ok (.ifnonnull 5, 3) := by decide +kernel
theorem dX2_move_15 : decode cX2_move 15 = .ok (.iconst (-1), 1) := by decide +kernel
theorem dX2_move_16 : decode cX2_move 16 = .ok (.ireturn, 1) := by decide +kernel
theorem dX2_move_17 : decode cX2_move 17 = .ok (.iload_n 2, 1) := by decide +kernel
theorem dX2_move_18 : decode cX2_move 18 = .ok (.bipush (-12), 2) := by decide +kernel
theorem dX2_move_20 : decode cX2_move 20 = .ok (.bipush 12, 2) := by decide +kernel
theorem dX2_move_22 : decode cX2_move 22 = .ok (.invokestatic 51, 3) := by decide +kernel
theorem dX2_move_25 : decode cX2_move 25 = .ok (.ifCond .eq 14, 3) := by decide +kernel
theorem dX2_move_28 : decode cX2_move 28 = .ok (.iload_n 3, 1) := by decide +kernel
theorem dX2_move_29 : decode cX2_move 29 = .ok (.bipush (-12), 2) := by decide +kernel
theorem dX2_move_31 : decode cX2_move 31 = .ok (.bipush 12, 2) := by decide +kernel
theorem dX2_move_33 : decode cX2_move 33 = .ok (.invokestatic 51, 3) := by decide +kernel
theorem dX2_move_36 : decode cX2_move 36 = .ok (.ifCond .ne 6, 3) := by decide +kernel
theorem dX2_move_39 : decode cX2_move 39 = .ok (.bipush (-2), 2) := by decide +kernel
theorem dX2_move_41 : decode cX2_move 41 = .ok (.ireturn, 1) := by decide +kernel
theorem dX2_move_42 : decode cX2_move 42 = .ok (.aload 4, 2) := by decide +kernel
theorem dX2_move_44 : decode cX2_move 44 = .ok (.iload_n 2, 1) := by decide +kernel
theorem dX2_move_45 : decode cX2_move 45 = .ok (.iload_n 3, 1) := by decide +kernel
theorem dX2_move_46 : decode cX2_move 46 = .ok (.invokevirtual 58, 3) := by decide +kernel
theorem dX2_move_49 : decode cX2_move 49 = .ok (.ifCond .ne 6, 3) := by decide +kernel
theorem dX2_move_52 : decode cX2_move 52 = .ok (.bipush (-5), 2) := by decide +kernel
theorem dX2_move_54 : decode cX2_move 54 = .ok (.ireturn, 1) := by decide +kernel
theorem dX2_move_55 : decode cX2_move 55 = .ok (.aload 4, 2) := by decide +kernel
theorem dX2_move_57 : decode cX2_move 57 = .ok (.iload_n 2, 1) := by decide +kernel
theorem dX2_move_58 : decode cX2_move 58 = .ok (.iload_n 3, 1) := by decide +kernel
theorem dX2_move_59 : decode cX2_move 59 = .ok (.invokevirtual 62, 3) := by decide +kernel
theorem dX2_move_62 : decode cX2_move 62 = .ok (.aload 4, 2) := by decide +kernel
theorem dX2_move_64 : decode cX2_move 64 = .ok (.getfield 32, 3) := by decide +kernel
theorem dX2_move_67 : decode cX2_move 67 = .ok (.ireturn, 1) := by decide +kernel
set_option maxRecDepth 20000 in
theorem ggX2_back_X1_layerOf : GoodIn wsX2_back wsX1_layerOf := goodIn_r _ [6, 7, 8, 9, 10, 29] (by decide +kernel) (by decide +kernel)
set_option maxRecDepth 20000 in
theorem gX2_back_X1_layerOf : GoodIn wsX2_back (wsV RX2 24 RX1 yX1_layerOf wsX1_layerOf) := goodIn_app (goodIn_of _ (by decide +kernel)) ggX2_back_X1_layerOf
set_option maxRecDepth 20000 in
theorem ggX2_back_X0_reverse : GoodIn wsX2_back wsX0_reverse := goodIn_r _ [15, 16, 17, 18, 14, 19, 20, 21, 25, 26, 27, 28] (by decide +kernel) (by decide +kernel)
set_option maxRecDepth 20000 in
theorem gX2_back_X0_reverse : GoodIn wsX2_back (wsV RX2 66 RX0 yX0_reverse wsX0_reverse) := goodIn_app (goodIn_of _ (by decide +kernel)) ggX2_back_X0_reverse
theorem dX2_back_0 : decode cX2_back 0 = .ok (.aload_n 0, 1) := by decide +kernel
theorem dX2_back_1 : decode cX2_back 1 = .ok (.getfield 12, 3) := by decide +kernel
theorem dX2_back_4 : decode cX2_back 4 = .ok (.iload_n 1, 1) := by decide +kernel
theorem dX2_back_5 : decode cX2_back 5 = .ok (.invokevirtual 24, 3) := by decide +kernel
theorem dX2_back_8 : decode cX2_back 8 = .ok (.astore_n 2, 1) := by decide +kernel
theorem dX2_back_9 : decode cX2_back 9 = .ok (.aload_n 2, 1) := by decide +kernel
theorem dX2_back_10 : decode cX2_back 10 = .ok (.ifnonnull 5, 3) := by decide +kernel
theorem dX2_back_13 : decode cX2_back 13 = .ok (.iconst (-1), 1) := by decide +kernel
theorem dX2_back_14 : decode cX2_back 14 = .ok (.ireturn, 1) := by decide +kernel
theorem dX2_back_15 : decode cX2_back 15 = .ok (.aload_n 2, 1) := by decide +kernel
theorem dX2_back_16 : decode cX2_back 16 = .ok (.iconst 0, 1) := by decide +kernel
theorem dX2_back_17 : decode cX2_back 17 = .ok (.aload_n 2, 1) := by decide +kernel
theorem dX2_back_18 : decode cX2_back 18 = .ok (.getfield 32, 3) := by decide +kernel
theorem dX2_back_21 : decode cX2_back 21 = .ok (.invokevirtual 66, 3) := by decide +kernel
theorem dX2_back_24 : decode cX2_back 24 = .ok (.aload_n 2, 1) := by decide +kernel
theorem dX2_back_25 : decode cX2_back 25 = .ok (.getfield 32, 3) := by decide +kernel
theorem dX2_back_28 : decode cX2_back 28 = .ok (.ireturn, 1) := by decide +kernel
set_option maxRecDepth 20000 in
theorem ggX2_begin_X1_layerOf : GoodIn wsX2_begin wsX1_layerOf := goodIn_r _ [6, 7, 8, 9, 10, 38] (by decide +kernel) (by decide +kernel)
set_option maxRecDepth 20000 in
theorem gX2_begin_X1_layerOf : GoodIn wsX2_begin (wsV RX2 24 RX1 yX1_layerOf wsX1_layerOf) := goodIn_app (goodIn_of _ (by decide +kernel)) ggX2_begin_X1_layerOf
set_option maxRecDepth 20000 in
theorem ggX2_begin_X0_has : GoodIn wsX2_begin wsX0_has := goodIn_r _ [15, 16, 34, 35, 36, 37] (by decide +kernel) (by decide +kernel)
set_option maxRecDepth 20000 in
theorem gX2_begin_X0_has : GoodIn wsX2_begin (wsV RX2 41 RX0 yX0_has wsX0_has) := goodIn_app (goodIn_of _ (by decide +kernel)) ggX2_begin_X0_has
set_option maxRecDepth 20000 in
theorem ggX2_begin_X0_startAt : GoodIn wsX2_begin wsX0_startAt := goodIn_r _ [20, 16, 21, 22, 23, 14, 24, 25, 26, 27, 28, 29, 30, 34, 35, 36, 37] (by decide +kernel) (by decide +kernel)
set_option maxRecDepth 20000 in
theorem gX2_begin_X0_startAt : GoodIn wsX2_begin (wsV RX2 69 RX0 yX0_startAt wsX0_startAt) := goodIn_app (goodIn_of _ (by decide +kernel)) ggX2_begin_X0_startAt
theorem dX2_begin_0 : decode cX2_begin 0 = .ok (.aload_n 0, 1) := by decide +kernel
theorem dX2_begin_1 : decode cX2_begin 1 = .ok (.getfield 12, 3) := by decide +kernel
theorem dX2_begin_4 : decode cX2_begin 4 = .ok (.iload_n 1, 1) := by decide +kernel
theorem dX2_begin_5 : decode cX2_begin 5 = .ok (.invokevirtual 24, 3) := by decide +kernel
theorem dX2_begin_8 : decode cX2_begin 8 = .ok (.astore_n 3, 1) := by decide +kernel
theorem dX2_begin_9 : decode cX2_begin 9 = .ok (.aload_n 3, 1) := by decide +kernel
theorem dX2_begin_10 : decode cX2_begin 10 = .ok (.ifnull 11, 3) := by decide +kernel
theorem dX2_begin_13 : decode cX2_begin 13 = .ok (.aload_n 3, 1) := by decide +kernel
theorem dX2_begin_14 : decode cX2_begin 14 = .ok (.iload_n 2, 1) := by decide +kernel
theorem dX2_begin_15 : decode cX2_begin 15 = .ok (.invokevirtual 41, 3) := by decide +kernel
theorem dX2_begin_18 : decode cX2_begin 18 = .ok (.ifCond .ne 5, 3) := by decide +kernel
theorem dX2_begin_21 : decode cX2_begin 21 = .ok (.iconst (-1), 1) := by decide +kernel
theorem dX2_begin_22 : decode cX2_begin 22 = .ok (.ireturn, 1) := by decide +kernel
theorem dX2_begin_23 : decode cX2_begin 23 = .ok (.aload_n 3, 1) := by decide +kernel
theorem dX2_begin_24 : decode cX2_begin 24 = .ok (.iload_n 2, 1) := by decide +kernel
theorem dX2_begin_25 : decode cX2_begin 25 = .ok (.invokevirtual 69, 3) := by decide +kernel
theorem dX2_begin_28 : decode cX2_begin 28 = .ok (.aload_n 3, 1) := by decide +kernel
theorem dX2_begin_29 : decode cX2_begin 29 = .ok (.getfield 32, 3) := by decide +kernel
theorem dX2_begin_32 : decode cX2_begin 32 = .ok (.ireturn, 1) := by decide +kernel
set_option maxRecDepth 20000 in
theorem ggX2_at_X1_layerOf : GoodIn wsX2_at wsX1_layerOf := goodIn_r _ [6, 7, 8, 9, 10, 25] (by decide +kernel) (by decide +kernel)
set_option maxRecDepth 20000 in
theorem gX2_at_X1_layerOf : GoodIn wsX2_at (wsV RX2 24 RX1 yX1_layerOf wsX1_layerOf) := goodIn_app (goodIn_of _ (by decide +kernel)) ggX2_at_X1_layerOf
set_option maxRecDepth 20000 in
theorem ggX2_at_X0_has : GoodIn wsX2_at wsX0_has := goodIn_r _ [15, 16, 21, 22, 23, 24] (by decide +kernel) (by decide +kernel)
set_option maxRecDepth 20000 in
theorem gX2_at_X0_has : GoodIn wsX2_at (wsV RX2 41 RX0 yX0_has wsX0_has) := goodIn_app (goodIn_of _ (by decide +kernel)) ggX2_at_X0_has
set_option maxRecDepth 20000 in
theorem ggX2_at_X2_within : GoodIn wsX2_at wsX2_within := goodIn_r _ [10] (by decide +kernel) (by decide +kernel)
set_option maxRecDepth 20000 in
theorem gX2_at_X2_within : GoodIn wsX2_at (va_wsS RX2 51 yX2_within wsX2_within) := goodIn_app (goodIn_of _ (by decide +kernel)) ggX2_at_X2_within
theorem dX2_at_0 : decode cX2_at 0 = .ok (.aload_n 0, 1) := by decide +kernel
theorem dX2_at_1 : decode cX2_at 1 = .ok (.getfield 12, 3) := by decide +kernel
theorem dX2_at_4 : decode cX2_at 4 = .ok (.iload_n 1, 1) := by decide +kernel
theorem dX2_at_5 : decode cX2_at 5 = .ok (.invokevirtual 24, 3) := by decide +kernel
theorem dX2_at_8 : decode cX2_at 8 = .ok (.astore 4, 2) := by decide +kernel
theorem dX2_at_10 : decode cX2_at 10 = .ok (.aload 4, 2) := by decide +kernel
theorem dX2_at_12 : decode cX2_at 12 = .ok (.ifnull 12, 3) := by decide +kernel
theorem dX2_at_15 : decode cX2_at 15 = .ok (.aload 4, 2) := by decide +kernel
theorem dX2_at_17 : decode cX2_at 17 = .ok (.iload_n 2, 1) := by decide +kernel
theorem dX2_at_18 : decode cX2_at 18 = .ok (.invokevirtual 41, 3) := by decide +kernel
theorem dX2_at_21 : decode cX2_at 21 = .ok (.ifCond .ne 5, 3) := by decide +kernel
theorem dX2_at_24 : decode cX2_at 24 = .ok (.iconst (-1), 1) := by decide +kernel
theorem dX2_at_25 : decode cX2_at 25 = .ok (.ireturn, 1) := by decide +kernel
theorem dX2_at_26 : decode cX2_at 26 = .ok (.iload_n 3, 1) := by decide +kernel
theorem dX2_at_27 : decode cX2_at 27 = .ok (.iconst 0, 1) := by decide +kernel
theorem dX2_at_28 : decode cX2_at 28 = .ok (.iconst 1, 1) := by decide +kernel
theorem dX2_at_29 : decode cX2_at 29 = .ok (.invokestatic 51, 3) := by decide +kernel
theorem dX2_at_32 : decode cX2_at 32 = .ok (.ifCond .ne 6, 3) := by decide +kernel
theorem dX2_at_35 : decode cX2_at 35 = .ok (.bipush (-2), 2) := by decide +kernel
theorem dX2_at_37 : decode cX2_at 37 = .ok (.ireturn, 1) := by decide +kernel
theorem dX2_at_38 : decode cX2_at 38 = .ok (.iload_n 3, 1) := by decide +kernel
theorem dX2_at_39 : decode cX2_at 39 = .ok (.ifCond .ne 13, 3) := by decide +kernel
theorem dX2_at_42 : decode cX2_at 42 = .ok (.aload 4, 2) := by decide +kernel
theorem dX2_at_44 : decode cX2_at 44 = .ok (.getfield 44, 3) := by decide +kernel
theorem dX2_at_47 : decode cX2_at 47 = .ok (.iload_n 2, 1) := by decide +kernel
theorem dX2_at_48 : decode cX2_at 48 = .ok (.iaload, 1) := by decide +kernel
theorem dX2_at_49 : decode cX2_at 49 = .ok (.goto 10, 3) := by decide +kernel
theorem dX2_at_52 : decode cX2_at 52 = .ok (.aload 4, 2) := by decide +kernel
theorem dX2_at_54 : decode cX2_at 54 = .ok (.getfield 48, 3) := by decide +kernel
theorem dX2_at_57 : decode cX2_at 57 = .ok (.iload_n 2, 1) := by decide +kernel
theorem dX2_at_58 : decode cX2_at 58 = .ok (.iaload, 1) := by decide +kernel
theorem dX2_at_59 : decode cX2_at 59 = .ok (.ireturn, 1) := by decide +kernel
set_option maxRecDepth 20000 in
theorem ggX2_raw_X1_layerOf : GoodIn wsX2_raw wsX1_layerOf := goodIn_r _ [9, 10, 11, 12, 13, 55] (by decide +kernel) (by decide +kernel)
set_option maxRecDepth 20000 in
theorem gX2_raw_X1_layerOf : GoodIn wsX2_raw (wsV RX2 24 RX1 yX1_layerOf wsX1_layerOf) := goodIn_app (goodIn_of _ (by decide +kernel)) ggX2_raw_X1_layerOf
set_option maxRecDepth 20000 in
theorem ggX2_raw_X2_isDot : GoodIn wsX2_raw wsX2_isDot := goodIn_r _ [16, 17, 11, 12, 13] (by decide +kernel) (by decide +kernel)
set_option maxRecDepth 20000 in
theorem gX2_raw_X2_isDot : GoodIn wsX2_raw (va_wsS RX2 73 yX2_isDot wsX2_isDot) := goodIn_app (goodIn_of _ (by decide +kernel)) ggX2_raw_X2_isDot
set_option maxRecDepth 20000 in
theorem ggX2_raw_X2_within : GoodIn wsX2_raw wsX2_within := goodIn_r _ [13] (by decide +kernel) (by decide +kernel)
set_option maxRecDepth 20000 in
theorem gX2_raw_X2_within : GoodIn wsX2_raw (va_wsS RX2 51 yX2_within wsX2_within) := goodIn_app (goodIn_of _ (by decide +kernel)) ggX2_raw_X2_within
set_option maxRecDepth 20000 in
theorem ggX2_raw_X0_rawParts : GoodIn wsX2_raw wsX0_rawParts := goodIn_r _ [22, 23, 24, 25, 26, 27, 21, 28, 29, 30, 31, 32, 33, 34, 35, 36, 37, 38, 39, 40, 41, 42, 56, 57, 58, 59] (by decide +kernel) (by decide +kernel)
set_option maxRecDepth 20000 in
theorem gX2_raw_X0_rawParts : GoodIn wsX2_raw (wsV RX2 80 RX0 yX0_rawParts wsX0_rawParts) := goodIn_app (goodIn_of _ (by decide +kernel)) ggX2_raw_X0_rawParts
set_option maxRecDepth 20000 in
theorem ggX2_raw_X2_lowestTerms : GoodIn wsX2_raw wsX2_lowestTerms := goodIn_r _ [45, 46, 47, 31, 48, 49, 50, 12, 51] (by decide +kernel) (by decide +kernel)
set_option maxRecDepth 20000 in
theorem gX2_raw_X2_lowestTerms : GoodIn wsX2_raw (va_wsS RX2 86 yX2_lowestTerms wsX2_lowestTerms) := goodIn_app (goodIn_of _ (by decide +kernel)) ggX2_raw_X2_lowestTerms
theorem dX2_raw_0 : decode cX2_raw 0 = .ok (.aload_n 0, 1) := by decide +kernel
theorem dX2_raw_1 : decode cX2_raw 1 = .ok (.getfield 12, 3) := by decide +kernel
theorem dX2_raw_4 : decode cX2_raw 4 = .ok (.iload_n 1, 1) := by decide +kernel
theorem dX2_raw_5 : decode cX2_raw 5 = .ok (.invokevirtual 24, 3) := by decide +kernel
theorem dX2_raw_8 : decode cX2_raw 8 = .ok (.astore 4, 2) := by decide +kernel
theorem dX2_raw_10 : decode cX2_raw 10 = .ok (.aload 4, 2) := by decide +kernel
theorem dX2_raw_12 : decode cX2_raw 12 = .ok (.ifnull 10, 3) := by decide +kernel
theorem dX2_raw_15 : decode cX2_raw 15 = .ok (.iload_n 2, 1) := by decide +kernel
theorem dX2_raw_16 : decode cX2_raw 16 = .ok (.invokestatic 73, 3) := by decide +kernel
theorem dX2_raw_19 : decode cX2_raw 19 = .ok (.ifCond .ne 7, 3) := by decide +kernel
theorem dX2_raw_22 : decode cX2_raw 22 = .ok (.ldc2_w 76, 3) := by decide +kernel
theorem dX2_raw_25 : decode cX2_raw 25 = .ok (.lreturn, 1) := by decide +kernel
theorem dX2_raw_26 : decode cX2_raw 26 = .ok (.iload_n 3, 1) := by decide +kernel
theorem dX2_raw_27 : decode cX2_raw 27 = .ok (.iconst 0, 1) := by decide +kernel
theorem dX2_raw_28 : decode cX2_raw 28 = .ok (.iconst 1, 1) := by decide +kernel
theorem dX2_raw_29 : decode cX2_raw 29 = .ok (.invokestatic 51, 3) := by decide +kernel
theorem dX2_raw_32 : decode cX2_raw 32 = .ok (.ifCond .ne 7, 3) := by decide +kernel
theorem dX2_raw_35 : decode cX2_raw 35 = .ok (.ldc2_w 78, 3) := by decide +kernel
theorem dX2_raw_38 : decode cX2_raw 38 = .ok (.lreturn, 1) := by decide +kernel
theorem dX2_raw_39 : decode cX2_raw 39 = .ok (.aload 4, 2) := by decide +kernel
theorem dX2_raw_41 : decode cX2_raw 41 = .ok (.iload_n 2, 1) := by decide +kernel
theorem dX2_raw_42 : decode cX2_raw 42 = .ok (.iconst 0, 1) := by decide +kernel
theorem dX2_raw_43 : decode cX2_raw 43 = .ok (.iconst 0, 1) := by decide +kernel
theorem dX2_raw_44 : decode cX2_raw 44 = .ok (.invokevirtual 80, 3) := by decide +kernel
theorem dX2_raw_47 : decode cX2_raw 47 = .ok (.ldc2_w 84, 3) := by decide +kernel
theorem dX2_raw_50 : decode cX2_raw 50 = .ok (.iload_n 3, 1) := by decide +kernel
theorem dX2_raw_51 : decode cX2_raw 51 = .ok (.invokestatic 86, 3) := by decide +kernel
theorem dX2_raw_54 : decode cX2_raw 54 = .ok (.lreturn, 1) := by decide +kernel
set_option maxRecDepth 20000 in
theorem ggX2_cover_X1_layerOf : GoodIn wsX2_cover wsX1_layerOf := goodIn_r _ [9, 10, 11, 12, 13, 66] (by decide +kernel) (by decide +kernel)
set_option maxRecDepth 20000 in
theorem gX2_cover_X1_layerOf : GoodIn wsX2_cover (wsV RX2 24 RX1 yX1_layerOf wsX1_layerOf) := goodIn_app (goodIn_of _ (by decide +kernel)) ggX2_cover_X1_layerOf
set_option maxRecDepth 20000 in
theorem ggX2_cover_X2_isDot : GoodIn wsX2_cover wsX2_isDot := goodIn_r _ [16, 17, 11, 12, 13] (by decide +kernel) (by decide +kernel)
set_option maxRecDepth 20000 in
theorem gX2_cover_X2_isDot : GoodIn wsX2_cover (va_wsS RX2 73 yX2_isDot wsX2_isDot) := goodIn_app (goodIn_of _ (by decide +kernel)) ggX2_cover_X2_isDot
set_option maxRecDepth 20000 in
theorem ggX2_cover_X2_within : GoodIn wsX2_cover wsX2_within := goodIn_r _ [13] (by decide +kernel) (by decide +kernel)
set_option maxRecDepth 20000 in
theorem gX2_cover_X2_within : GoodIn wsX2_cover (va_wsS RX2 51 yX2_within wsX2_within) := goodIn_app (goodIn_of _ (by decide +kernel)) ggX2_cover_X2_within
set_option maxRecDepth 20000 in
theorem ggX2_cover_X0_coverParts : GoodIn wsX2_cover wsX0_coverParts := goodIn_r _ [22, 23, 24, 25, 26, 27, 28, 29, 30, 31, 32, 33, 34, 35, 21, 36, 37, 38, 39, 40, 41, 42, 43, 44, 45, 46, 47, 48, 49, 50, 51, 52, 53, 54, 55, 67, 68, 69, 70] (by decide +kernel) (by decide +kernel)
set_option maxRecDepth 20000 in
theorem gX2_cover_X0_coverParts : GoodIn wsX2_cover (wsV RX2 94 RX0 yX0_coverParts wsX0_coverParts) := goodIn_app (goodIn_of _ (by decide +kernel)) ggX2_cover_X0_coverParts
set_option maxRecDepth 20000 in
theorem ggX2_cover_X2_lowestTerms : GoodIn wsX2_cover wsX2_lowestTerms := goodIn_r _ [58, 59, 24, 25, 26, 60, 61, 12, 62] (by decide +kernel) (by decide +kernel)
set_option maxRecDepth 20000 in
theorem gX2_cover_X2_lowestTerms : GoodIn wsX2_cover (va_wsS RX2 86 yX2_lowestTerms wsX2_lowestTerms) := goodIn_app (goodIn_of _ (by decide +kernel)) ggX2_cover_X2_lowestTerms
theorem dX2_cover_0 : decode cX2_cover 0 = .ok (.aload_n 0, 1) := by decide +kernel
theorem dX2_cover_1 : decode cX2_cover 1 = .ok (.getfield 12, 3) := by decide +kernel
theorem dX2_cover_4 : decode cX2_cover 4 = .ok (.iload_n 1, 1) := by decide +kernel
theorem dX2_cover_5 : decode cX2_cover 5 = .ok (.invokevirtual 24, 3) := by decide +kernel
theorem dX2_cover_8 : decode cX2_cover 8 = .ok (.astore 4, 2) := by decide +kernel
theorem dX2_cover_10 : decode cX2_cover 10 = .ok (.aload 4, 2) := by decide +kernel
theorem dX2_cover_12 : decode cX2_cover 12 = .ok (.ifnull 10, 3) := by decide +kernel
theorem dX2_cover_15 : decode cX2_cover 15 = .ok (.iload_n 2, 1) := by decide +kernel
theorem dX2_cover_16 : decode cX2_cover 16 = .ok (.invokestatic 73, 3) := by decide +kernel
theorem dX2_cover_19 : decode cX2_cover 19 = .ok (.ifCond .ne 7, 3) := by decide +kernel
theorem dX2_cover_22 : decode cX2_cover 22 = .ok (.ldc2_w 90, 3) := by decide +kernel
theorem dX2_cover_25 : decode cX2_cover 25 = .ok (.lreturn, 1) := by decide +kernel
theorem dX2_cover_26 : decode cX2_cover 26 = .ok (.iload_n 3, 1) := by decide +kernel
theorem dX2_cover_27 : decode cX2_cover 27 = .ok (.iconst 0, 1) := by decide +kernel
theorem dX2_cover_28 : decode cX2_cover 28 = .ok (.iconst 1, 1) := by decide +kernel
theorem dX2_cover_29 : decode cX2_cover 29 = .ok (.invokestatic 51, 3) := by decide +kernel
theorem dX2_cover_32 : decode cX2_cover 32 = .ok (.ifCond .ne 7, 3) := by decide +kernel
theorem dX2_cover_35 : decode cX2_cover 35 = .ok (.ldc2_w 92, 3) := by decide +kernel
theorem dX2_cover_38 : decode cX2_cover 38 = .ok (.lreturn, 1) := by decide +kernel
theorem dX2_cover_39 : decode cX2_cover 39 = .ok (.aload 4, 2) := by decide +kernel
theorem dX2_cover_41 : decode cX2_cover 41 = .ok (.iload_n 2, 1) := by decide +kernel
theorem dX2_cover_42 : decode cX2_cover 42 = .ok (.iconst 0, 1) := by decide +kernel
theorem dX2_cover_43 : decode cX2_cover 43 = .ok (.iconst 0, 1) := by decide +kernel
theorem dX2_cover_44 : decode cX2_cover 44 = .ok (.invokevirtual 94, 3) := by decide +kernel
theorem dX2_cover_47 : decode cX2_cover 47 = .ok (.ldc2_w 84, 3) := by decide +kernel
theorem dX2_cover_50 : decode cX2_cover 50 = .ok (.iload_n 3, 1) := by decide +kernel
theorem dX2_cover_51 : decode cX2_cover 51 = .ok (.invokestatic 86, 3) := by decide +kernel
theorem dX2_cover_54 : decode cX2_cover 54 = .ok (.lreturn, 1) := by decide +kernel
set_option maxRecDepth 20000 in
theorem ggX2_together_X2_isDot : GoodIn wsX2_together wsX2_isDot := goodIn_r _ [8, 9, 10, 7, 11] (by decide +kernel) (by decide +kernel)
set_option maxRecDepth 20000 in
theorem gX2_together_X2_isDot : GoodIn wsX2_together (va_wsS RX2 73 yX2_isDot wsX2_isDot) := goodIn_app (goodIn_of _ (by decide +kernel)) ggX2_together_X2_isDot
set_option maxRecDepth 20000 in
theorem ggX2_together_X2_within : GoodIn wsX2_together wsX2_within := goodIn_r _ [11] (by decide +kernel) (by decide +kernel)
set_option maxRecDepth 20000 in
theorem gX2_together_X2_within : GoodIn wsX2_together (va_wsS RX2 51 yX2_within wsX2_within) := goodIn_app (goodIn_of _ (by decide +kernel)) ggX2_together_X2_within
set_option maxRecDepth 20000 in
theorem ggX2_together_X1_togetherParts : GoodIn wsX2_together wsX1_togetherParts := goodIn_r _ [16, 17, 18, 19, 20, 21, 22, 23, 24, 25, 26, 27, 28, 29, 30, 31, 32, 33, 34, 35, 36, 37, 38, 39, 40, 41, 42, 43, 44, 45, 46, 47, 48, 49, 50, 51, 52, 53, 54, 55, 56, 57, 68, 69, 70, 71, 72] (by decide +kernel) (by decide +kernel)
set_option maxRecDepth 20000 in
theorem gX2_together_X1_togetherParts : GoodIn wsX2_together (wsV RX2 97 RX1 yX1_togetherParts wsX1_togetherParts) := goodIn_app (goodIn_of _ (by decide +kernel)) ggX2_together_X1_togetherParts
set_option maxRecDepth 20000 in
theorem ggX2_together_X2_lowestTerms : GoodIn wsX2_together wsX2_lowestTerms := goodIn_r _ [60, 61, 26, 27, 28, 62, 63, 7, 64] (by decide +kernel) (by decide +kernel)
set_option maxRecDepth 20000 in
theorem gX2_together_X2_lowestTerms : GoodIn wsX2_together (va_wsS RX2 86 yX2_lowestTerms wsX2_lowestTerms) := goodIn_app (goodIn_of _ (by decide +kernel)) ggX2_together_X2_lowestTerms
theorem dX2_together_0 : decode cX2_together 0 = .ok (.iload_n 1, 1) := by decide +kernel
theorem dX2_together_1 : decode cX2_together 1 = .ok (.invokestatic 73, 3) := by decide +kernel
theorem dX2_together_4 : decode cX2_together 4 = .ok (.ifCond .ne 7, 3) := by decide +kernel
theorem dX2_together_7 : decode cX2_together 7 = .ok (.ldc2_w 90, 3) := by decide +kernel
theorem dX2_together_10 : decode cX2_together 10 = .ok (.lreturn, 1) := by decide +kernel
theorem dX2_together_11 : decode cX2_together 11 = .ok (.iload_n 2, 1) := by decide +kernel
theorem dX2_together_12 : decode cX2_together 12 = .ok (.iconst 0, 1) := by decide +kernel
theorem dX2_together_13 : decode cX2_together 13 = .ok (.iconst 1, 1) := by decide +kernel
theorem dX2_together_14 : decode cX2_together 14 = .ok (.invokestatic 51, 3) := by decide +kernel
theorem dX2_together_17 : decode cX2_together 17 = .ok (.ifCond .ne 7, 3) := by decide +kernel
theorem dX2_together_20 : decode cX2_together 20 = .ok (.ldc2_w 92, 3) := by decide +kernel
theorem dX2_together_23 : decode cX2_together 23 = .ok (.lreturn, 1) := by decide +kernel
theorem dX2_together_24 : decode cX2_together 24 = .ok (.aload_n 0, 1) := by decide +kernel
theorem dX2_together_25 : decode cX2_together 25 = .ok (.getfield 12, 3) := by decide +kernel
theorem dX2_together_28 : decode cX2_together 28 = .ok (.iload_n 1, 1) := by decide +kernel
theorem dX2_together_29 : decode cX2_together 29 = .ok (.invokevirtual 97, 3) := by decide +kernel
theorem dX2_together_32 : decode cX2_together 32 = .ok (.ldc2_w 101, 3) := by decide +kernel
theorem dX2_together_35 : decode cX2_together 35 = .ok (.iload_n 2, 1) := by decide +kernel
theorem dX2_together_36 : decode cX2_together 36 = .ok (.invokestatic 86, 3) := by decide +kernel
theorem dX2_together_39 : decode cX2_together 39 = .ok (.lreturn, 1) := by decide +kernel
set_option maxRecDepth 20000 in
theorem ggX2_area_X1_layerOf : GoodIn wsX2_area wsX1_layerOf := goodIn_r _ [9, 10, 11, 12, 13, 52] (by decide +kernel) (by decide +kernel)
set_option maxRecDepth 20000 in
theorem gX2_area_X1_layerOf : GoodIn wsX2_area (wsV RX2 24 RX1 yX1_layerOf wsX1_layerOf) := goodIn_app (goodIn_of _ (by decide +kernel)) ggX2_area_X1_layerOf
set_option maxRecDepth 20000 in
theorem ggX2_area_X2_within : GoodIn wsX2_area wsX2_within := goodIn_r _ [13] (by decide +kernel) (by decide +kernel)
set_option maxRecDepth 20000 in
theorem gX2_area_X2_within : GoodIn wsX2_area (va_wsS RX2 51 yX2_within wsX2_within) := goodIn_app (goodIn_of _ (by decide +kernel)) ggX2_area_X2_within
set_option maxRecDepth 20000 in
theorem ggX2_area_X0_rawParts : GoodIn wsX2_area wsX0_rawParts := goodIn_r _ [19, 20, 21, 22, 23, 24, 18, 25, 26, 27, 28, 29, 30, 31, 32, 33, 34, 35, 36, 37, 38, 39, 53, 54, 55, 56] (by decide +kernel) (by decide +kernel)
set_option maxRecDepth 20000 in
theorem gX2_area_X0_rawParts : GoodIn wsX2_area (wsV RX2 80 RX0 yX0_rawParts wsX0_rawParts) := goodIn_app (goodIn_of _ (by decide +kernel)) ggX2_area_X0_rawParts
set_option maxRecDepth 20000 in
theorem ggX2_area_X2_lowestTerms : GoodIn wsX2_area wsX2_lowestTerms := goodIn_r _ [42, 43, 44, 28, 45, 46, 47, 12, 48] (by decide +kernel) (by decide +kernel)
set_option maxRecDepth 20000 in
theorem gX2_area_X2_lowestTerms : GoodIn wsX2_area (va_wsS RX2 86 yX2_lowestTerms wsX2_lowestTerms) := goodIn_app (goodIn_of _ (by decide +kernel)) ggX2_area_X2_lowestTerms
theorem dX2_area_0 : decode cX2_area 0 = .ok (.aload_n 0, 1) := by decide +kernel
theorem dX2_area_1 : decode cX2_area 1 = .ok (.getfield 12, 3) := by decide +kernel
theorem dX2_area_4 : decode cX2_area 4 = .ok (.iload_n 1, 1) := by decide +kernel
theorem dX2_area_5 : decode cX2_area 5 = .ok (.invokevirtual 24, 3) := by decide +kernel
theorem dX2_area_8 : decode cX2_area 8 = .ok (.astore_n 3, 1) := by decide +kernel
theorem dX2_area_9 : decode cX2_area 9 = .ok (.aload_n 3, 1) := by decide +kernel
theorem dX2_area_10 : decode cX2_area 10 = .ok (.ifnonnull 7, 3) := by decide +kernel
theorem dX2_area_13 : decode cX2_area 13 = .ok (.ldc2_w 76, 3) := by decide +kernel
theorem dX2_area_16 : decode cX2_area 16 = .ok (.lreturn, 1) := by decide +kernel
theorem dX2_area_17 : decode cX2_area 17 = .ok (.iload_n 2, 1) := by decide +kernel
theorem dX2_area_18 : decode cX2_area 18 = .ok (.iconst 0, 1) := by decide +kernel
theorem dX2_area_19 : decode cX2_area 19 = .ok (.iconst 1, 1) := by decide +kernel
theorem dX2_area_20 : decode cX2_area 20 = .ok (.invokestatic 51, 3) := by decide +kernel
theorem dX2_area_23 : decode cX2_area 23 = .ok (.ifCond .ne 7, 3) := by decide +kernel
theorem dX2_area_26 : decode cX2_area 26 = .ok (.ldc2_w 78, 3) := by decide +kernel
theorem dX2_area_29 : decode cX2_area 29 = .ok (.lreturn, 1) := by decide +kernel
theorem dX2_area_30 : decode cX2_area 30 = .ok (.lconst 0, 1) := by decide +kernel
theorem dX2_area_31 : decode cX2_area 31 = .ok (.lstore 4, 2) := by decide +kernel
theorem dX2_area_33 : decode cX2_area 33 = .ok (.iconst 0, 1) := by decide +kernel
theorem dX2_area_34 : decode cX2_area 34 = .ok (.istore 6, 2) := by decide +kernel
theorem dX2_area_36 : decode cX2_area 36 = .ok (.iload 6, 2) := by decide +kernel
theorem dX2_area_38 : decode cX2_area 38 = .ok (.bipush 16, 2) := by decide +kernel
theorem dX2_area_40 : decode cX2_area 40 = .ok (.if_icmp .ge 22, 3) := by decide +kernel
theorem dX2_area_43 : decode cX2_area 43 = .ok (.lload 4, 2) := by decide +kernel
theorem dX2_area_45 : decode cX2_area 45 = .ok (.aload_n 3, 1) := by decide +kernel
theorem dX2_area_46 : decode cX2_area 46 = .ok (.iload 6, 2) := by decide +kernel
theorem dX2_area_48 : decode cX2_area 48 = .ok (.iconst 0, 1) := by decide +kernel
theorem dX2_area_49 : decode cX2_area 49 = .ok (.iconst 0, 1) := by decide +kernel
theorem dX2_area_50 : decode cX2_area 50 = .ok (.invokevirtual 80, 3) := by decide +kernel
theorem dX2_area_53 : decode cX2_area 53 = .ok (.ladd, 1) := by decide +kernel
theorem dX2_area_54 : decode cX2_area 54 = .ok (.lstore 4, 2) := by decide +kernel
theorem dX2_area_56 : decode cX2_area 56 = .ok (.iinc 6 1, 3) := by decide +kernel
theorem dX2_area_59 : decode cX2_area 59 = .ok (.goto (-23), 3) := by decide +kernel
theorem dX2_area_62 : decode cX2_area 62 = .ok (.lload 4, 2) := by decide +kernel
theorem dX2_area_64 : decode cX2_area 64 = .ok (.ldc2_w 103, 3) := by decide +kernel
theorem dX2_area_67 : decode cX2_area 67 = .ok (.iload_n 2, 1) := by decide +kernel
theorem dX2_area_68 : decode cX2_area 68 = .ok (.invokestatic 86, 3) := by decide +kernel
theorem dX2_area_71 : decode cX2_area 71 = .ok (.lreturn, 1) := by decide +kernel
set_option maxRecDepth 20000 in
theorem ggX2_enough_X1_layerOf : GoodIn wsX2_enough wsX1_layerOf := goodIn_r _ [7, 8, 9, 10, 11, 54] (by decide +kernel) (by decide +kernel)
set_option maxRecDepth 20000 in
theorem gX2_enough_X1_layerOf : GoodIn wsX2_enough (wsV RX2 24 RX1 yX1_layerOf wsX1_layerOf) := goodIn_app (goodIn_of _ (by decide +kernel)) ggX2_enough_X1_layerOf
set_option maxRecDepth 20000 in
theorem ggX2_enough_X2_within : GoodIn wsX2_enough wsX2_within := goodIn_r _ [11] (by decide +kernel) (by decide +kernel)
set_option maxRecDepth 20000 in
theorem gX2_enough_X2_within : GoodIn wsX2_enough (va_wsS RX2 51 yX2_within wsX2_within) := goodIn_app (goodIn_of _ (by decide +kernel)) ggX2_enough_X2_within
set_option maxRecDepth 20000 in
theorem ggX2_enough_X0_coverParts : GoodIn wsX2_enough wsX0_coverParts := goodIn_r _ [17, 18, 19, 20, 21, 22, 23, 24, 25, 26, 27, 28, 29, 30, 16, 31, 32, 33, 34, 35, 36, 37, 38, 39, 40, 41, 42, 43, 44, 45, 46, 47, 48, 49, 50, 55, 56, 57, 58] (by decide +kernel) (by decide +kernel)
set_option maxRecDepth 20000 in
theorem gX2_enough_X0_coverParts : GoodIn wsX2_enough (wsV RX2 94 RX0 yX0_coverParts wsX0_coverParts) := goodIn_app (goodIn_of _ (by decide +kernel)) ggX2_enough_X0_coverParts
theorem dX2_enough_0 : decode cX2_enough 0 = .ok (.aload_n 0, 1) := by decide +kernel
theorem dX2_enough_1 : decode cX2_enough 1 = .ok (.getfield 12, 3) := by decide +kernel
theorem dX2_enough_4 : decode cX2_enough 4 = .ok (.iload_n 1, 1) := by decide +kernel
theorem dX2_enough_5 : decode cX2_enough 5 = .ok (.invokevirtual 24, 3) := by decide +kernel
theorem dX2_enough_8 : decode cX2_enough 8 = .ok (.astore 4, 2) := by decide +kernel
theorem dX2_enough_10 : decode cX2_enough 10 = .ok (.aload 4, 2) := by decide +kernel
theorem dX2_enough_12 : decode cX2_enough 12 = .ok (.ifnonnull 5, 3) := by decide +kernel
theorem dX2_enough_15 : decode cX2_enough 15 = .ok (.iconst (-1), 1) := by decide +kernel
theorem dX2_enough_16 : decode cX2_enough 16 = .ok (.ireturn, 1) := by decide +kernel
theorem dX2_enough_17 : decode cX2_enough 17 = .ok (.iload_n 3, 1) := by decide +kernel
theorem dX2_enough_18 : decode cX2_enough 18 = .ok (.iconst 1, 1) := by decide +kernel
theorem dX2_enough_19 : decode cX2_enough 19 = .ok (.bipush 99, 2) := by decide +kernel
theorem dX2_enough_21 : decode cX2_enough 21 = .ok (.invokestatic 51, 3) := by decide +kernel
theorem dX2_enough_24 : decode cX2_enough 24 = .ok (.ifCond .eq 12, 3) := by decide +kernel
theorem dX2_enough_27 : decode cX2_enough 27 = .ok (.iload_n 2, 1) := by decide +kernel
theorem dX2_enough_28 : decode cX2_enough 28 = .ok (.iconst 0, 1) := by decide +kernel
theorem dX2_enough_29 : decode cX2_enough 29 = .ok (.iload_n 3, 1) := by decide +kernel
theorem dX2_enough_30 : decode cX2_enough 30 = .ok (.invokestatic 51, 3) := by decide +kernel
theorem dX2_enough_33 : decode cX2_enough 33 = .ok (.ifCond .ne 6, 3) := by decide +kernel
theorem dX2_enough_36 : decode cX2_enough 36 = .ok (.bipush (-2), 2) := by decide +kernel
theorem dX2_enough_38 : decode cX2_enough 38 = .ok (.ireturn, 1) := by decide +kernel
theorem dX2_enough_39 : decode cX2_enough 39 = .ok (.iconst 0, 1) := by decide +kernel
theorem dX2_enough_40 : decode cX2_enough 40 = .ok (.istore 5, 2) := by decide +kernel
theorem dX2_enough_42 : decode cX2_enough 42 = .ok (.iconst 0, 1) := by decide +kernel
theorem dX2_enough_43 : decode cX2_enough 43 = .ok (.istore 6, 2) := by decide +kernel
theorem dX2_enough_45 : decode cX2_enough 45 = .ok (.iload 6, 2) := by decide +kernel
theorem dX2_enough_47 : decode cX2_enough 47 = .ok (.bipush 16, 2) := by decide +kernel
theorem dX2_enough_49 : decode cX2_enough 49 = .ok (.if_icmp .ge 40, 3) := by decide +kernel
theorem dX2_enough_52 : decode cX2_enough 52 = .ok (.aload 4, 2) := by decide +kernel
theorem dX2_enough_54 : decode cX2_enough 54 = .ok (.iload 6, 2) := by decide +kernel
theorem dX2_enough_56 : decode cX2_enough 56 = .ok (.iconst 0, 1) := by decide +kernel
theorem dX2_enough_57 : decode cX2_enough 57 = .ok (.iconst 0, 1) := by decide +kernel
theorem dX2_enough_58 : decode cX2_enough 58 = .ok (.invokevirtual 94, 3) := by decide +kernel
theorem dX2_enough_61 : decode cX2_enough 61 = .ok (.iload_n 3, 1) := by decide +kernel
theorem dX2_enough_62 : decode cX2_enough 62 = .ok (.i2l, 1) := by decide +kernel
theorem dX2_enough_63 : decode cX2_enough 63 = .ok (.lmul, 1) := by decide +kernel
theorem dX2_enough_64 : decode cX2_enough 64 = .ok (.ldc2_w 84, 3) := by decide +kernel
theorem dX2_enough_67 : decode cX2_enough 67 = .ok (.iload_n 2, 1) := by decide +kernel
theorem dX2_enough_68 : decode cX2_enough 68 = .ok (.i2l, 1) := by decide +kernel
theorem dX2_enough_69 : decode cX2_enough 69 = .ok (.lmul, 1) := by decide +kernel
theorem dX2_enough_70 : decode cX2_enough 70 = .ok (.lcmp, 1) := by decide +kernel
theorem dX2_enough_71 : decode cX2_enough 71 = .ok (.ifCond .lt 12, 3) := by decide +kernel
theorem dX2_enough_74 : decode cX2_enough 74 = .ok (.iload 5, 2) := by decide +kernel
theorem dX2_enough_76 : decode cX2_enough 76 = .ok (.iconst 1, 1) := by decide +kernel
theorem dX2_enough_77 : decode cX2_enough 77 = .ok (.iload 6, 2) := by decide +kernel
theorem dX2_enough_79 : decode cX2_enough 79 = .ok (.ishl, 1) := by decide +kernel
theorem dX2_enough_80 : decode cX2_enough 80 = .ok (.ior, 1) := by decide +kernel
theorem dX2_enough_81 : decode cX2_enough 81 = .ok (.istore 5, 2) := by decide +kernel
theorem dX2_enough_83 : decode cX2_enough 83 = .ok (.iinc 6 1, 3) := by decide +kernel
theorem dX2_enough_86 : decode cX2_enough 86 = .ok (.goto (-41), 3) := by decide +kernel
theorem dX2_enough_89 : decode cX2_enough 89 = .ok (.iload 5, 2) := by decide +kernel
theorem dX2_enough_91 : decode cX2_enough 91 = .ok (.ireturn, 1) := by decide +kernel
set_option maxRecDepth 20000 in
theorem ggX2_field_X1_mostCoveredDot : GoodIn wsX2_field wsX1_mostCoveredDot := goodIn_r _ [7, 8, 9, 10, 6, 11, 12, 13, 14, 15, 16, 17, 18, 19, 20, 21, 22, 23, 24, 25, 26, 27, 28, 29, 30, 31, 32, 33, 34, 35, 36, 37, 38, 39, 40, 41, 42, 43, 44, 45, 46, 47, 48, 49, 50, 51, 52, 64, 65, 66, 67, 68] (by decide +kernel) (by decide +kernel)
set_option maxRecDepth 20000 in
theorem gX2_field_X1_mostCoveredDot : GoodIn wsX2_field (wsV RX2 105 RX1 yX1_mostCoveredDot wsX1_mostCoveredDot) := goodIn_app (goodIn_of _ (by decide +kernel)) ggX2_field_X1_mostCoveredDot
set_option maxRecDepth 20000 in
theorem ggX2_field_X1_leastCoveredDot : GoodIn wsX2_field wsX1_leastCoveredDot := goodIn_r _ [56, 8, 9, 10, 6, 11, 12, 13, 14, 15, 16, 17, 18, 19, 20, 21, 22, 23, 24, 25, 26, 27, 28, 29, 30, 31, 32, 33, 34, 35, 36, 37, 38, 39, 40, 41, 42, 43, 44, 45, 46, 47, 48, 49, 50, 51, 52, 64, 65, 66, 67, 68] (by decide +kernel) (by decide +kernel)
set_option maxRecDepth 20000 in
theorem gX2_field_X1_leastCoveredDot : GoodIn wsX2_field (wsV RX2 109 RX1 yX1_leastCoveredDot wsX1_leastCoveredDot) := goodIn_app (goodIn_of _ (by decide +kernel)) ggX2_field_X1_leastCoveredDot
set_option maxRecDepth 20000 in
theorem ggX2_field_X1_dotsWithTogether : GoodIn wsX2_field wsX1_dotsWithTogether := goodIn_r _ [60, 8, 9, 10, 6, 11, 12, 13, 14, 15, 16, 17, 18, 19, 20, 21, 22, 23, 24, 25, 26, 27, 28, 29, 30, 31, 32, 33, 34, 35, 36, 37, 38, 39, 40, 41, 42, 43, 44, 45, 46, 47, 48, 49, 50, 51, 52, 64, 65, 66, 67, 68] (by decide +kernel) (by decide +kernel)
end
section
set_option maxRecDepth 20000 in
theorem gX2_field_X1_dotsWithTogether : GoodIn wsX2_field (wsV RX2 112 RX1 yX1_dotsWithTogether wsX1_dotsWithTogether) := goodIn_app (goodIn_of _ (by decide +kernel)) ggX2_field_X1_dotsWithTogether
theorem dX2_field_0 : decode cX2_field 0 = .ok (.iload_n 1, 1) := by decide +kernel
theorem dX2_field_1 : decode cX2_field 1 = .ok (.tableswitch 67 0 3 #[31, 39, 47, 58], 31) := by decide +kernel
theorem dX2_field_32 : decode cX2_field 32 = .ok (.aload_n 0, 1) := by decide +kernel
theorem dX2_field_33 : decode cX2_field 33 = .ok (.getfield 12, 3) := by decide +kernel
theorem dX2_field_36 : decode cX2_field 36 = .ok (.invokevirtual 105, 3) := by decide +kernel
theorem dX2_field_39 : decode cX2_field 39 = .ok (.ireturn, 1) := by decide +kernel
theorem dX2_field_40 : decode cX2_field 40 = .ok (.aload_n 0, 1) := by decide +kernel
theorem dX2_field_41 : decode cX2_field 41 = .ok (.getfield 12, 3) := by decide +kernel
theorem dX2_field_44 : decode cX2_field 44 = .ok (.invokevirtual 109, 3) := by decide +kernel
theorem dX2_field_47 : decode cX2_field 47 = .ok (.ireturn, 1) := by decide +kernel
theorem dX2_field_48 : decode cX2_field 48 = .ok (.aload_n 0, 1) := by decide +kernel
theorem dX2_field_49 : decode cX2_field 49 = .ok (.getfield 12, 3) := by decide +kernel
theorem dX2_field_52 : decode cX2_field 52 = .ok (.ldc2_w 101, 3) := by decide +kernel
theorem dX2_field_55 : decode cX2_field 55 = .ok (.invokevirtual 112, 3) := by decide +kernel
theorem dX2_field_58 : decode cX2_field 58 = .ok (.ireturn, 1) := by decide +kernel
theorem dX2_field_59 : decode cX2_field 59 = .ok (.aload_n 0, 1) := by decide +kernel
theorem dX2_field_60 : decode cX2_field 60 = .ok (.getfield 12, 3) := by decide +kernel
theorem dX2_field_63 : decode cX2_field 63 = .ok (.lconst 0, 1) := by decide +kernel
theorem dX2_field_64 : decode cX2_field 64 = .ok (.invokevirtual 112, 3) := by decide +kernel
theorem dX2_field_67 : decode cX2_field 67 = .ok (.ireturn, 1) := by decide +kernel
theorem dX2_field_68 : decode cX2_field 68 = .ok (.bipush (-2), 2) := by decide +kernel
theorem dX2_field_70 : decode cX2_field 70 = .ok (.ireturn, 1) := by decide +kernel
set_option maxRecDepth 20000 in
theorem ggX2_best_X1_layerOf : GoodIn wsX2_best wsX1_layerOf := goodIn_r _ [6, 7, 8, 9, 10, 73] (by decide +kernel) (by decide +kernel)
set_option maxRecDepth 20000 in
theorem gX2_best_X1_layerOf : GoodIn wsX2_best (wsV RX2 24 RX1 yX1_layerOf wsX1_layerOf) := goodIn_app (goodIn_of _ (by decide +kernel)) ggX2_best_X1_layerOf
set_option maxRecDepth 20000 in
theorem ggX2_best_X2_within : GoodIn wsX2_best wsX2_within := goodIn_r _ [10] (by decide +kernel) (by decide +kernel)
set_option maxRecDepth 20000 in
theorem gX2_best_X2_within : GoodIn wsX2_best (va_wsS RX2 51 yX2_within wsX2_within) := goodIn_app (goodIn_of _ (by decide +kernel)) ggX2_best_X2_within
set_option maxRecDepth 20000 in
theorem ggX2_best_X0_bestMove : GoodIn wsX2_best wsX0_bestMove := goodIn_r _ [16, 17, 18, 19, 20, 21, 15, 22, 23, 24, 25, 26, 27, 28, 29, 30, 31, 32, 33, 34, 35, 36, 37, 38, 39, 40, 41, 42, 43, 44, 45, 46, 47, 48, 49, 50, 51, 52, 53, 54, 55, 56, 57, 58, 59, 60, 61, 62, 63, 64, 65, 69, 70, 71, 72] (by decide +kernel) (by decide +kernel)
set_option maxRecDepth 20000 in
theorem gX2_best_X0_bestMove : GoodIn wsX2_best (wsV RX2 116 RX0 yX0_bestMove wsX0_bestMove) := goodIn_app (goodIn_of _ (by decide +kernel)) ggX2_best_X0_bestMove
theorem dX2_best_0 : decode cX2_best 0 = .ok (.aload_n 0, 1) := by decide +kernel
theorem dX2_best_1 : decode cX2_best 1 = .ok (.getfield 12, 3) := by decide +kernel
theorem dX2_best_4 : decode cX2_best 4 = .ok (.iload_n 1, 1) := by decide +kernel
theorem dX2_best_5 : decode cX2_best 5 = .ok (.invokevirtual 24, 3) := by decide +kernel
theorem dX2_best_8 : decode cX2_best 8 = .ok (.astore_n 3, 1) := by decide +kernel
theorem dX2_best_9 : decode cX2_best 9 = .ok (.aload_n 3, 1) := by decide +kernel
theorem dX2_best_10 : decode cX2_best 10 = .ok (.ifnonnull 5, 3) := by decide +kernel
theorem dX2_best_13 : decode cX2_best 13 = .ok (.iconst (-1), 1) := by decide +kernel
theorem dX2_best_14 : decode cX2_best 14 = .ok (.ireturn, 1) := by decide +kernel
theorem dX2_best_15 : decode cX2_best 15 = .ok (.iload_n 2, 1) := by decide +kernel
theorem dX2_best_16 : decode cX2_best 16 = .ok (.iconst 0, 1) := by decide +kernel
theorem dX2_best_17 : decode cX2_best 17 = .ok (.iconst 2, 1) := by decide +kernel
theorem dX2_best_18 : decode cX2_best 18 = .ok (.invokestatic 51, 3) := by decide +kernel
theorem dX2_best_21 : decode cX2_best 21 = .ok (.ifCond .ne 6, 3) := by decide +kernel
theorem dX2_best_24 : decode cX2_best 24 = .ok (.bipush (-2), 2) := by decide +kernel
theorem dX2_best_26 : decode cX2_best 26 = .ok (.ireturn, 1) := by decide +kernel
theorem dX2_best_27 : decode cX2_best 27 = .ok (.aload_n 3, 1) := by decide +kernel
theorem dX2_best_28 : decode cX2_best 28 = .ok (.getfield 32, 3) := by decide +kernel
theorem dX2_best_31 : decode cX2_best 31 = .ok (.ifCond .gt 6, 3) := by decide +kernel
theorem dX2_best_34 : decode cX2_best 34 = .ok (.bipush (-6), 2) := by decide +kernel
theorem dX2_best_36 : decode cX2_best 36 = .ok (.ireturn, 1) := by decide +kernel
theorem dX2_best_37 : decode cX2_best 37 = .ok (.aload_n 3, 1) := by decide +kernel
theorem dX2_best_38 : decode cX2_best 38 = .ok (.iload_n 2, 1) := by decide +kernel
theorem dX2_best_39 : decode cX2_best 39 = .ok (.invokevirtual 116, 3) := by decide +kernel
theorem dX2_best_42 : decode cX2_best 42 = .ok (.ireturn, 1) := by decide +kernel
set_option maxRecDepth 20000 in
theorem ggX2_same_X1_layerOf : GoodIn wsX2_same wsX1_layerOf := goodIn_r _ [6, 7, 8, 9, 10, 52] (by decide +kernel) (by decide +kernel)
set_option maxRecDepth 20000 in
theorem gX2_same_X1_layerOf : GoodIn wsX2_same (wsV RX2 24 RX1 yX1_layerOf wsX1_layerOf) := goodIn_app (goodIn_of _ (by decide +kernel)) ggX2_same_X1_layerOf
set_option maxRecDepth 20000 in
theorem ggX2_same_X0_coverParts : GoodIn wsX2_same wsX0_coverParts := goodIn_r _ [15, 16, 17, 18, 19, 20, 21, 22, 23, 24, 25, 26, 27, 28, 14, 29, 30, 31, 32, 33, 34, 35, 36, 37, 38, 39, 40, 41, 42, 43, 44, 45, 46, 47, 48, 53, 54, 55, 56] (by decide +kernel) (by decide +kernel)
set_option maxRecDepth 20000 in
theorem gX2_same_X0_coverParts : GoodIn wsX2_same (wsV RX2 94 RX0 yX0_coverParts wsX0_coverParts) := goodIn_app (goodIn_of _ (by decide +kernel)) ggX2_same_X0_coverParts
theorem dX2_same_0 : decode cX2_same 0 = .ok (.aload_n 0, 1) := by decide +kernel
theorem dX2_same_1 : decode cX2_same 1 = .ok (.getfield 12, 3) := by decide +kernel
theorem dX2_same_4 : decode cX2_same 4 = .ok (.iload_n 1, 1) := by decide +kernel
theorem dX2_same_5 : decode cX2_same 5 = .ok (.invokevirtual 24, 3) := by decide +kernel
theorem dX2_same_8 : decode cX2_same 8 = .ok (.astore_n 3, 1) := by decide +kernel
theorem dX2_same_9 : decode cX2_same 9 = .ok (.aload_n 0, 1) := by decide +kernel
theorem dX2_same_10 : decode cX2_same 10 = .ok (.getfield 12, 3) := by decide +kernel
theorem dX2_same_13 : decode cX2_same 13 = .ok (.iload_n 2, 1) := by decide +kernel
theorem dX2_same_14 : decode cX2_same 14 = .ok (.invokevirtual 24, 3) := by decide +kernel
theorem dX2_same_17 : decode cX2_same 17 = .ok (.astore 4, 2) := by decide +kernel
theorem dX2_same_19 : decode cX2_same 19 = .ok (.aload_n 3, 1) := by decide +kernel
theorem dX2_same_20 : decode cX2_same 20 = .ok (.ifnull 8, 3) := by decide +kernel
theorem dX2_same_23 : decode cX2_same 23 = .ok (.aload 4, 2) := by decide +kernel
theorem dX2_same_25 : decode cX2_same 25 = .ok (.ifnonnull 5, 3) := by decide +kernel
theorem dX2_same_28 : decode cX2_same 28 = .ok (.iconst (-1), 1) := by decide +kernel
theorem dX2_same_29 : decode cX2_same 29 = .ok (.ireturn, 1) := by decide +kernel
theorem dX2_same_30 : decode cX2_same 30 = .ok (.iconst 0, 1) := by decide +kernel
theorem dX2_same_31 : decode cX2_same 31 = .ok (.istore 5, 2) := by decide +kernel
theorem dX2_same_33 : decode cX2_same 33 = .ok (.iconst 0, 1) := by decide +kernel
theorem dX2_same_34 : decode cX2_same 34 = .ok (.istore 6, 2) := by decide +kernel
theorem dX2_same_36 : decode cX2_same 36 = .ok (.iload 6, 2) := by decide +kernel
theorem dX2_same_38 : decode cX2_same 38 = .ok (.bipush 16, 2) := by decide +kernel
theorem dX2_same_40 : decode cX2_same 40 = .ok (.if_icmp .ge 39, 3) := by decide +kernel
theorem dX2_same_43 : decode cX2_same 43 = .ok (.aload_n 3, 1) := by decide +kernel
theorem dX2_same_44 : decode cX2_same 44 = .ok (.iload 6, 2) := by decide +kernel
theorem dX2_same_46 : decode cX2_same 46 = .ok (.iconst 0, 1) := by decide +kernel
theorem dX2_same_47 : decode cX2_same 47 = .ok (.iconst 0, 1) := by decide +kernel
theorem dX2_same_48 : decode cX2_same 48 = .ok (.invokevirtual 94, 3) := by decide +kernel
theorem dX2_same_51 : decode cX2_same 51 = .ok (.aload 4, 2) := by decide +kernel
theorem dX2_same_53 : decode cX2_same 53 = .ok (.iload 6, 2) := by decide +kernel
theorem dX2_same_55 : decode cX2_same 55 = .ok (.iconst 0, 1) := by decide +kernel
theorem dX2_same_56 : decode cX2_same 56 = .ok (.iconst 0, 1) := by decide +kernel
theorem dX2_same_57 : decode cX2_same 57 = .ok (.invokevirtual 94, 3) := by decide +kernel
theorem dX2_same_60 : decode cX2_same 60 = .ok (.lcmp, 1) := by decide +kernel
theorem dX2_same_61 : decode cX2_same 61 = .ok (.ifCond .ne 12, 3) := by decide +kernel
theorem dX2_same_64 : decode cX2_same 64 = .ok (.iload 5, 2) := by decide +kernel
theorem dX2_same_66 : decode cX2_same 66 = .ok (.iconst 1, 1) := by decide +kernel
theorem dX2_same_67 : decode cX2_same 67 = .ok (.iload 6, 2) := by decide +kernel
theorem dX2_same_69 : decode cX2_same 69 = .ok (.ishl, 1) := by decide +kernel
theorem dX2_same_70 : decode cX2_same 70 = .ok (.ior, 1) := by decide +kernel
theorem dX2_same_71 : decode cX2_same 71 = .ok (.istore 5, 2) := by decide +kernel
theorem dX2_same_73 : decode cX2_same 73 = .ok (.iinc 6 1, 3) := by decide +kernel
theorem dX2_same_76 : decode cX2_same 76 = .ok (.goto (-40), 3) := by decide +kernel
theorem dX2_same_79 : decode cX2_same 79 = .ok (.iload 5, 2) := by decide +kernel
theorem dX2_same_81 : decode cX2_same 81 = .ok (.ireturn, 1) := by decide +kernel
set_option maxRecDepth 20000 in
theorem ggX2_image_X2_within : GoodIn wsX2_image wsX2_within := goodIn_r _ [7] (by decide +kernel) (by decide +kernel)
set_option maxRecDepth 20000 in
theorem gX2_image_X2_within : GoodIn wsX2_image (va_wsS RX2 51 yX2_within wsX2_within) := goodIn_app (goodIn_of _ (by decide +kernel)) ggX2_image_X2_within
set_option maxRecDepth 20000 in
theorem ggX2_image_X1_copyFrom : GoodIn wsX2_image wsX1_copyFrom := goodIn_r _ [12, 13, 14, 15, 16, 17, 18, 19, 20, 21, 22, 26, 27, 28, 29, 30] (by decide +kernel) (by decide +kernel)
set_option maxRecDepth 20000 in
theorem gX2_image_X1_copyFrom : GoodIn wsX2_image (wsV RX2 120 RX1 yX1_copyFrom wsX1_copyFrom) := goodIn_app (goodIn_of _ (by decide +kernel)) ggX2_image_X1_copyFrom
theorem dX2_image_0 : decode cX2_image 0 = .ok (.iload_n 1, 1) := by decide +kernel
theorem dX2_image_1 : decode cX2_image 1 = .ok (.iconst 0, 1) := by decide +kernel
theorem dX2_image_2 : decode cX2_image 2 = .ok (.iconst 1, 1) := by decide +kernel
theorem dX2_image_3 : decode cX2_image 3 = .ok (.invokestatic 51, 3) := by decide +kernel
theorem dX2_image_6 : decode cX2_image 6 = .ok (.ifCond .ne 6, 3) := by decide +kernel
theorem dX2_image_9 : decode cX2_image 9 = .ok (.bipush (-2), 2) := by decide +kernel
theorem dX2_image_11 : decode cX2_image 11 = .ok (.ireturn, 1) := by decide +kernel
theorem dX2_image_12 : decode cX2_image 12 = .ok (.aload_n 0, 1) := by decide +kernel
theorem dX2_image_13 : decode cX2_image 13 = .ok (.getfield 16, 3) := by decide +kernel
theorem dX2_image_16 : decode cX2_image 16 = .ok (.iload_n 1, 1) := by decide +kernel
theorem dX2_image_17 : decode cX2_image 17 = .ok (.aaload, 1) := by decide +kernel
theorem dX2_image_18 : decode cX2_image 18 = .ok (.aload_n 0, 1) := by decide +kernel
theorem dX2_image_19 : decode cX2_image 19 = .ok (.getfield 12, 3) := by decide +kernel
theorem dX2_image_22 : decode cX2_image 22 = .ok (.invokevirtual 120, 3) := by decide +kernel
theorem dX2_image_25 : decode cX2_image 25 = .ok (.aload_n 0, 1) := by decide +kernel
theorem dX2_image_26 : decode cX2_image 26 = .ok (.dup, 1) := by decide +kernel
theorem dX2_image_27 : decode cX2_image 27 = .ok (.getfield 20, 3) := by decide +kernel
theorem dX2_image_30 : decode cX2_image 30 = .ok (.iconst 1, 1) := by decide +kernel
theorem dX2_image_31 : decode cX2_image 31 = .ok (.iload_n 1, 1) := by decide +kernel
theorem dX2_image_32 : decode cX2_image 32 = .ok (.ishl, 1) := by decide +kernel
theorem dX2_image_33 : decode cX2_image 33 = .ok (.ior, 1) := by decide +kernel
theorem dX2_image_34 : decode cX2_image 34 = .ok (.putfield 20, 3) := by decide +kernel
theorem dX2_image_37 : decode cX2_image 37 = .ok (.iconst 1, 1) := by decide +kernel
theorem dX2_image_38 : decode cX2_image 38 = .ok (.ireturn, 1) := by decide +kernel
set_option maxRecDepth 20000 in
theorem ggX2_restore_X2_within : GoodIn wsX2_restore wsX2_within := goodIn_r _ [7] (by decide +kernel) (by decide +kernel)
set_option maxRecDepth 20000 in
theorem gX2_restore_X2_within : GoodIn wsX2_restore (va_wsS RX2 51 yX2_within wsX2_within) := goodIn_app (goodIn_of _ (by decide +kernel)) ggX2_restore_X2_within
set_option maxRecDepth 20000 in
theorem ggX2_restore_X1_copyFrom : GoodIn wsX2_restore wsX1_copyFrom := goodIn_r _ [12, 13, 14, 15, 16, 17, 18, 19, 20, 21, 22, 26, 27, 28, 29, 30] (by decide +kernel) (by decide +kernel)
set_option maxRecDepth 20000 in
theorem gX2_restore_X1_copyFrom : GoodIn wsX2_restore (wsV RX2 120 RX1 yX1_copyFrom wsX1_copyFrom) := goodIn_app (goodIn_of _ (by decide +kernel)) ggX2_restore_X1_copyFrom
theorem dX2_restore_0 : decode cX2_restore 0 = .ok (.iload_n 1, 1) := by decide +kernel
theorem dX2_restore_1 : decode cX2_restore 1 = .ok (.iconst 0, 1) := by decide +kernel
theorem dX2_restore_2 : decode cX2_restore 2 = .ok (.iconst 1, 1) := by decide +kernel
theorem dX2_restore_3 : decode cX2_restore 3 = .ok (.invokestatic 51, 3) := by decide +kernel
theorem dX2_restore_6 : decode cX2_restore 6 = .ok (.ifCond .ne 6, 3) := by decide +kernel
theorem dX2_restore_9 : decode cX2_restore 9 = .ok (.bipush (-2), 2) := by decide +kernel
theorem dX2_restore_11 : decode cX2_restore 11 = .ok (.ireturn, 1) := by decide +kernel
theorem dX2_restore_12 : decode cX2_restore 12 = .ok (.aload_n 0, 1) := by decide +kernel
theorem dX2_restore_13 : decode cX2_restore 13 = .ok (.getfield 20, 3) := by decide +kernel
theorem dX2_restore_16 : decode cX2_restore 16 = .ok (.iload_n 1, 1) := by decide +kernel
theorem dX2_restore_17 : decode cX2_restore 17 = .ok (.ishr, 1) := by decide +kernel
theorem dX2_restore_18 : decode cX2_restore 18 = .ok (.iconst 1, 1) := by decide +kernel
theorem dX2_restore_19 : decode cX2_restore 19 = .ok (.iand, 1) := by decide +kernel
theorem dX2_restore_20 : decode cX2_restore 20 = .ok (.ifCond .ne 6, 3) := by decide +kernel
theorem dX2_restore_23 : decode cX2_restore 23 = .ok (.bipush (-3), 2) := by decide +kernel
theorem dX2_restore_25 : decode cX2_restore 25 = .ok (.ireturn, 1) := by decide +kernel
theorem dX2_restore_26 : decode cX2_restore 26 = .ok (.aload_n 0, 1) := by decide +kernel
theorem dX2_restore_27 : decode cX2_restore 27 = .ok (.getfield 12, 3) := by decide +kernel
theorem dX2_restore_30 : decode cX2_restore 30 = .ok (.aload_n 0, 1) := by decide +kernel
theorem dX2_restore_31 : decode cX2_restore 31 = .ok (.getfield 16, 3) := by decide +kernel
theorem dX2_restore_34 : decode cX2_restore 34 = .ok (.iload_n 1, 1) := by decide +kernel
theorem dX2_restore_35 : decode cX2_restore 35 = .ok (.aaload, 1) := by decide +kernel
theorem dX2_restore_36 : decode cX2_restore 36 = .ok (.invokevirtual 120, 3) := by decide +kernel
theorem dX2_restore_39 : decode cX2_restore 39 = .ok (.iconst 1, 1) := by decide +kernel
theorem dX2_restore_40 : decode cX2_restore 40 = .ok (.ireturn, 1) := by decide +kernel
set_option maxRecDepth 20000 in
theorem ggX2_count_X1_pointsOfAll : GoodIn wsX2_count wsX1_pointsOfAll := goodIn_r _ [7, 8, 23, 19, 20, 21, 22] (by decide +kernel) (by decide +kernel)
set_option maxRecDepth 20000 in
theorem gX2_count_X1_pointsOfAll : GoodIn wsX2_count (wsV RX2 124 RX1 yX1_pointsOfAll wsX1_pointsOfAll) := goodIn_app (goodIn_of _ (by decide +kernel)) ggX2_count_X1_pointsOfAll
set_option maxRecDepth 20000 in
theorem ggX2_count_X1_layerOf : GoodIn wsX2_count wsX1_layerOf := goodIn_r _ [12, 8, 13, 14, 15, 23] (by decide +kernel) (by decide +kernel)
set_option maxRecDepth 20000 in
theorem gX2_count_X1_layerOf : GoodIn wsX2_count (wsV RX2 24 RX1 yX1_layerOf wsX1_layerOf) := goodIn_app (goodIn_of _ (by decide +kernel)) ggX2_count_X1_layerOf
theorem dX2_count_0 : decode cX2_count 0 = .ok (.iload_n 1, 1) := by decide +kernel
theorem dX2_count_1 : decode cX2_count 1 = .ok (.iconst 3, 1) := by decide +kernel
theorem dX2_count_2 : decode cX2_count 2 = .ok (.if_icmp .ne 11, 3) := by decide +kernel
theorem dX2_count_5 : decode cX2_count 5 = .ok (.aload_n 0, 1) := by decide +kernel
theorem dX2_count_6 : decode cX2_count 6 = .ok (.getfield 12, 3) := by decide +kernel
theorem dX2_count_9 : decode cX2_count 9 = .ok (.invokevirtual 124, 3) := by decide +kernel
theorem dX2_count_12 : decode cX2_count 12 = .ok (.ireturn, 1) := by decide +kernel
theorem dX2_count_13 : decode cX2_count 13 = .ok (.iload_n 1, 1) := by decide +kernel
theorem dX2_count_14 : decode cX2_count 14 = .ok (.iconst 4, 1) := by decide +kernel
theorem dX2_count_15 : decode cX2_count 15 = .ok (.if_icmp .ne 8, 3) := by decide +kernel
theorem dX2_count_18 : decode cX2_count 18 = .ok (.aload_n 0, 1) := by decide +kernel
theorem dX2_count_19 : decode cX2_count 19 = .ok (.getfield 20, 3) := by decide +kernel
theorem dX2_count_22 : decode cX2_count 22 = .ok (.ireturn, 1) := by decide +kernel
theorem dX2_count_23 : decode cX2_count 23 = .ok (.aload_n 0, 1) := by decide +kernel
theorem dX2_count_24 : decode cX2_count 24 = .ok (.getfield 12, 3) := by decide +kernel
theorem dX2_count_27 : decode cX2_count 27 = .ok (.iload_n 1, 1) := by decide +kernel
theorem dX2_count_28 : decode cX2_count 28 = .ok (.invokevirtual 24, 3) := by decide +kernel
theorem dX2_count_31 : decode cX2_count 31 = .ok (.astore_n 2, 1) := by decide +kernel
theorem dX2_count_32 : decode cX2_count 32 = .ok (.aload_n 2, 1) := by decide +kernel
theorem dX2_count_33 : decode cX2_count 33 = .ok (.ifnull 8, 3) := by decide +kernel
theorem dX2_count_36 : decode cX2_count 36 = .ok (.aload_n 2, 1) := by decide +kernel
theorem dX2_count_37 : decode cX2_count 37 = .ok (.getfield 32, 3) := by decide +kernel
theorem dX2_count_40 : decode cX2_count 40 = .ok (.ireturn, 1) := by decide +kernel
theorem dX2_count_41 : decode cX2_count 41 = .ok (.aload_n 0, 1) := by decide +kernel
theorem dX2_count_42 : decode cX2_count 42 = .ok (.getfield 12, 3) := by decide +kernel
theorem dX2_count_45 : decode cX2_count 45 = .ok (.iload_n 1, 1) := by decide +kernel
theorem dX2_count_46 : decode cX2_count 46 = .ok (.bipush 10, 2) := by decide +kernel
theorem dX2_count_48 : decode cX2_count 48 = .ok (.isub, 1) := by decide +kernel
theorem dX2_count_49 : decode cX2_count 49 = .ok (.invokevirtual 24, 3) := by decide +kernel
theorem dX2_count_52 : decode cX2_count 52 = .ok (.astore_n 3, 1) := by decide +kernel
theorem dX2_count_53 : decode cX2_count 53 = .ok (.aload_n 3, 1) := by decide +kernel
theorem dX2_count_54 : decode cX2_count 54 = .ok (.ifnonnull 8, 3) := by decide +kernel
theorem dX2_count_57 : decode cX2_count 57 = .ok (.bipush (-2), 2) := by decide +kernel
theorem dX2_count_59 : decode cX2_count 59 = .ok (.goto 7, 3) := by decide +kernel
theorem dX2_count_62 : decode cX2_count 62 = .ok (.aload_n 3, 1) := by decide +kernel
theorem dX2_count_63 : decode cX2_count 63 = .ok (.getfield 55, 3) := by decide +kernel
theorem dX2_count_66 : decode cX2_count 66 = .ok (.ireturn, 1) := by decide +kernel
theorem dX2_within_0 : decode cX2_within 0 = .ok (.iload_n 0, 1) := by decide +kernel
theorem dX2_within_1 : decode cX2_within 1 = .ok (.iload_n 1, 1) := by decide +kernel
theorem dX2_within_2 : decode cX2_within 2 = .ok (.if_icmp .lt 12, 3) := by decide +kernel
theorem dX2_within_5 : decode cX2_within 5 = .ok (.iload_n 0, 1) := by decide +kernel
theorem dX2_within_6 : decode cX2_within 6 = .ok (.iload_n 2, 1) := by decide +kernel
theorem dX2_within_7 : decode cX2_within 7 = .ok (.if_icmp .gt 7, 3) := by decide +kernel
theorem dX2_within_10 : decode cX2_within 10 = .ok (.iconst 1, 1) := by decide +kernel
theorem dX2_within_11 : decode cX2_within 11 = .ok (.goto 4, 3) := by decide +kernel
theorem dX2_within_14 : decode cX2_within 14 = .ok (.iconst 0, 1) := by decide +kernel
theorem dX2_within_15 : decode cX2_within 15 = .ok (.ireturn, 1) := by decide +kernel
set_option maxRecDepth 20000 in
theorem ggX2_inField_X2_within : GoodIn wsX2_inField wsX2_within := goodIn_r _ [4] (by decide +kernel) (by decide +kernel)
set_option maxRecDepth 20000 in
theorem gX2_inField_X2_within : GoodIn wsX2_inField (va_wsS RX2 51 yX2_within wsX2_within) := goodIn_app (goodIn_of _ (by decide +kernel)) ggX2_inField_X2_within
theorem dX2_inField_0 : decode cX2_inField 0 = .ok (.iload_n 0, 1) := by decide +kernel
theorem dX2_inField_1 : decode cX2_inField 1 = .ok (.iconst 0, 1) := by decide +kernel
theorem dX2_inField_2 : decode cX2_inField 2 = .ok (.bipush 12, 2) := by decide +kernel
theorem dX2_inField_4 : decode cX2_inField 4 = .ok (.invokestatic 51, 3) := by decide +kernel
theorem dX2_inField_7 : decode cX2_inField 7 = .ok (.ireturn, 1) := by decide +kernel
set_option maxRecDepth 20000 in
theorem ggX2_isDot_X2_within : GoodIn wsX2_isDot wsX2_within := goodIn_r _ [4] (by decide +kernel) (by decide +kernel)
set_option maxRecDepth 20000 in
theorem gX2_isDot_X2_within : GoodIn wsX2_isDot (va_wsS RX2 51 yX2_within wsX2_within) := goodIn_app (goodIn_of _ (by decide +kernel)) ggX2_isDot_X2_within
theorem dX2_isDot_0 : decode cX2_isDot 0 = .ok (.iload_n 0, 1) := by decide +kernel
theorem dX2_isDot_1 : decode cX2_isDot 1 = .ok (.iconst 0, 1) := by decide +kernel
theorem dX2_isDot_2 : decode cX2_isDot 2 = .ok (.bipush 15, 2) := by decide +kernel
theorem dX2_isDot_4 : decode cX2_isDot 4 = .ok (.invokestatic 51, 3) := by decide +kernel
theorem dX2_isDot_7 : decode cX2_isDot 7 = .ok (.ireturn, 1) := by decide +kernel
set_option maxRecDepth 20000 in
theorem ggX2_lowestTerms_X2_greatestDivisor : GoodIn wsX2_lowestTerms wsX2_greatestDivisor := goodIn_r _ [8] (by decide +kernel) (by decide +kernel)
set_option maxRecDepth 20000 in
theorem gX2_lowestTerms_X2_greatestDivisor : GoodIn wsX2_lowestTerms (va_wsS RX2 133 yX2_greatestDivisor wsX2_greatestDivisor) := goodIn_app (goodIn_of _ (by decide +kernel)) ggX2_lowestTerms_X2_greatestDivisor
theorem dX2_lowestTerms_0 : decode cX2_lowestTerms 0 = .ok (.lload_n 0, 1) := by decide +kernel
theorem dX2_lowestTerms_1 : decode cX2_lowestTerms 1 = .ok (.invokestatic 127, 3) := by decide +kernel
theorem dX2_lowestTerms_4 : decode cX2_lowestTerms 4 = .ok (.lload_n 2, 1) := by decide +kernel
theorem dX2_lowestTerms_5 : decode cX2_lowestTerms 5 = .ok (.invokestatic 133, 3) := by decide +kernel
theorem dX2_lowestTerms_8 : decode cX2_lowestTerms 8 = .ok (.lstore 5, 2) := by decide +kernel
theorem dX2_lowestTerms_10 : decode cX2_lowestTerms 10 = .ok (.lload 5, 2) := by decide +kernel
theorem dX2_lowestTerms_12 : decode cX2_lowestTerms 12 = .ok (.lconst 0, 1) := by decide +kernel
theorem dX2_lowestTerms_13 : decode cX2_lowestTerms 13 = .ok (.lcmp, 1) := by decide +kernel
theorem dX2_lowestTerms_14 : decode cX2_lowestTerms 14 = .ok (.ifCond .gt 5, 3) := by decide +kernel
theorem dX2_lowestTerms_17 : decode cX2_lowestTerms 17 = .ok (.lconst 0, 1) := by decide +kernel
theorem dX2_lowestTerms_18 : decode cX2_lowestTerms 18 = .ok (.lreturn, 1) := by decide +kernel
theorem dX2_lowestTerms_19 : decode cX2_lowestTerms 19 = .ok (.iload 4, 2) := by decide +kernel
theorem dX2_lowestTerms_21 : decode cX2_lowestTerms 21 = .ok (.ifCond .ne 7, 3) := by decide +kernel
theorem dX2_lowestTerms_24 : decode cX2_lowestTerms 24 = .ok (.lload_n 0, 1) := by decide +kernel
theorem dX2_lowestTerms_25 : decode cX2_lowestTerms 25 = .ok (.goto 4, 3) := by decide +kernel
theorem dX2_lowestTerms_28 : decode cX2_lowestTerms 28 = .ok (.lload_n 2, 1) := by decide +kernel
theorem dX2_lowestTerms_29 : decode cX2_lowestTerms 29 = .ok (.lload 5, 2) := by decide +kernel
theorem dX2_lowestTerms_31 : decode cX2_lowestTerms 31 = .ok (.ldiv, 1) := by decide +kernel
theorem dX2_lowestTerms_32 : decode cX2_lowestTerms 32 = .ok (.lreturn, 1) := by decide +kernel
theorem dX2_greatestDivisor_0 : decode cX2_greatestDivisor 0 = .ok (.lload_n 0, 1) := by decide +kernel
theorem dX2_greatestDivisor_1 : decode cX2_greatestDivisor 1 = .ok (.lstore 4, 2) := by decide +kernel
theorem dX2_greatestDivisor_3 : decode cX2_greatestDivisor 3 = .ok (.lload_n 2, 1) := by decide +kernel
theorem dX2_greatestDivisor_4 : decode cX2_greatestDivisor 4 = .ok (.lstore 6, 2) := by decide +kernel
theorem dX2_greatestDivisor_6 : decode cX2_greatestDivisor 6 = .ok (.iconst 0, 1) := by decide +kernel
theorem dX2_greatestDivisor_7 : decode cX2_greatestDivisor 7 = .ok (.istore 8, 2) := by decide +kernel
theorem dX2_greatestDivisor_9 : decode cX2_greatestDivisor 9 = .ok (.iload 8, 2) := by decide +kernel
theorem dX2_greatestDivisor_11 : decode cX2_greatestDivisor 11 = .ok (.bipush 100, 2) := by decide +kernel
theorem dX2_greatestDivisor_13 : decode cX2_greatestDivisor 13 = .ok (.if_icmp .ge 31, 3) := by decide +kernel
theorem dX2_greatestDivisor_16 : decode cX2_greatestDivisor 16 = .ok (.lload 6, 2) := by decide +kernel
theorem dX2_greatestDivisor_18 : decode cX2_greatestDivisor 18 = .ok (.lconst 0, 1) := by decide +kernel
theorem dX2_greatestDivisor_19 : decode cX2_greatestDivisor 19 = .ok (.lcmp, 1) := by decide +kernel
theorem dX2_greatestDivisor_20 : decode cX2_greatestDivisor 20 = .ok (.ifCond .eq 24, 3) := by decide +kernel
theorem dX2_greatestDivisor_23 : decode cX2_greatestDivisor 23 = .ok (.lload 4, 2) := by decide +kernel
theorem dX2_greatestDivisor_25 : decode cX2_greatestDivisor 25 = .ok (.lload 6, 2) := by decide +kernel
theorem dX2_greatestDivisor_27 : decode cX2_greatestDivisor 27 = .ok (.lrem, 1) := by decide +kernel
theorem dX2_greatestDivisor_28 : decode cX2_greatestDivisor 28 = .ok (.lstore 9, 2) := by decide +kernel
theorem dX2_greatestDivisor_30 : decode cX2_greatestDivisor 30 = .ok (.lload 6, 2) := by decide +kernel
theorem dX2_greatestDivisor_32 : decode cX2_greatestDivisor 32 = .ok (.lstore 4, 2) := by decide +kernel
theorem dX2_greatestDivisor_34 : decode cX2_greatestDivisor 34 = .ok (.lload 9, 2) := by decide +kernel
theorem dX2_greatestDivisor_36 : decode cX2_greatestDivisor 36 = .ok (.lstore 6, 2) := by decide +kernel
theorem dX2_greatestDivisor_38 : decode cX2_greatestDivisor 38 = .ok (.iinc 8 1, 3) := by decide +kernel
theorem dX2_greatestDivisor_41 : decode cX2_greatestDivisor 41 = .ok (.goto (-32), 3) := by decide +kernel
theorem dX2_greatestDivisor_44 : decode cX2_greatestDivisor 44 = .ok (.lload 4, 2) := by decide +kernel
theorem dX2_greatestDivisor_46 : decode cX2_greatestDivisor 46 = .ok (.lreturn, 1) := by decide +kernel
theorem dX3_init_0 : decode cX3_init 0 = .ok (.aload_n 0, 1) := by decide +kernel
theorem dX3_init_1 : decode cX3_init 1 = .ok (.invokespecial 1, 3) := by decide +kernel
theorem dX3_init_4 : decode cX3_init 4 = .ok (.aload_n 0, 1) := by decide +kernel
theorem dX3_init_5 : decode cX3_init 5 = .ok (.bipush 54, 2) := by decide +kernel
theorem dX3_init_7 : decode cX3_init 7 = .ok (.newarray .int, 2) := by decide +kernel
theorem dX3_init_9 : decode cX3_init 9 = .ok (.putfield 7, 3) := by decide +kernel
theorem dX3_init_12 : decode cX3_init 12 = .ok (.aload_n 0, 1) := by decide +kernel
theorem dX3_init_13 : decode cX3_init 13 = .ok (.bipush 108, 2) := by decide +kernel
theorem dX3_init_15 : decode cX3_init 15 = .ok (.newarray .int, 2) := by decide +kernel
theorem dX3_init_17 : decode cX3_init 17 = .ok (.putfield 13, 3) := by decide +kernel
theorem dX3_init_20 : decode cX3_init 20 = .ok (.aload_n 0, 1) := by decide +kernel
theorem dX3_init_21 : decode cX3_init 21 = .ok (.iconst 2, 1) := by decide +kernel
theorem dX3_init_22 : decode cX3_init 22 = .ok (.newarray .boolean, 2) := by decide +kernel
theorem dX3_init_24 : decode cX3_init 24 = .ok (.putfield 16, 3) := by decide +kernel
theorem dX3_init_27 : decode cX3_init 27 = .ok (.aload_n 0, 1) := by decide +kernel
theorem dX3_init_28 : decode cX3_init 28 = .ok (.bipush 8, 2) := by decide +kernel
theorem dX3_init_30 : decode cX3_init 30 = .ok (.newarray .int, 2) := by decide +kernel
theorem dX3_init_32 : decode cX3_init 32 = .ok (.putfield 20, 3) := by decide +kernel
theorem dX3_init_35 : decode cX3_init 35 = .ok (.aload_n 0, 1) := by decide +kernel
theorem dX3_init_36 : decode cX3_init 36 = .ok (.bipush 8, 2) := by decide +kernel
theorem dX3_init_38 : decode cX3_init 38 = .ok (.newarray .int, 2) := by decide +kernel
theorem dX3_init_40 : decode cX3_init 40 = .ok (.putfield 23, 3) := by decide +kernel
theorem dX3_init_43 : decode cX3_init 43 = .ok (.aload_n 0, 1) := by decide +kernel
theorem dX3_init_44 : decode cX3_init 44 = .ok (.sipush 300, 3) := by decide +kernel
theorem dX3_init_47 : decode cX3_init 47 = .ok (.newarray .long, 2) := by decide +kernel
theorem dX3_init_49 : decode cX3_init 49 = .ok (.putfield 26, 3) := by decide +kernel
theorem dX3_init_52 : decode cX3_init 52 = .ok (.aload_n 0, 1) := by decide +kernel
theorem dX3_init_53 : decode cX3_init 53 = .ok (.sipush 300, 3) := by decide +kernel
theorem dX3_init_56 : decode cX3_init 56 = .ok (.newarray .long, 2) := by decide +kernel
theorem dX3_init_58 : decode cX3_init 58 = .ok (.putfield 30, 3) := by decide +kernel
theorem dX3_init_61 : decode cX3_init 61 = .ok (.aload_n 0, 1) := by decide +kernel
theorem dX3_init_62 : decode cX3_init 62 = .ok (.sipush 300, 3) := by decide +kernel
theorem dX3_init_65 : decode cX3_init 65 = .ok (.newarray .long, 2) := by decide +kernel
theorem dX3_init_67 : decode cX3_init 67 = .ok (.putfield 33, 3) := by decide +kernel
theorem dX3_init_70 : decode cX3_init 70 = .ok (.aload_n 0, 1) := by decide +kernel
theorem dX3_init_71 : decode cX3_init 71 = .ok (.sipush 300, 3) := by decide +kernel
theorem dX3_init_74 : decode cX3_init 74 = .ok (.newarray .long, 2) := by decide +kernel
theorem dX3_init_76 : decode cX3_init 76 = .ok (.putfield 36, 3) := by decide +kernel
theorem dX3_init_79 : decode cX3_init 79 = .ok (.return_, 1) := by decide +kernel
theorem dX3_in_0 : decode cX3_in 0 = .ok (.iload_n 0, 1) := by decide +kernel
theorem dX3_in_1 : decode cX3_in 1 = .ok (.iload_n 1, 1) := by decide +kernel
theorem dX3_in_2 : decode cX3_in 2 = .ok (.if_icmp .lt 12, 3) := by decide +kernel
theorem dX3_in_5 : decode cX3_in 5 = .ok (.iload_n 0, 1) := by decide +kernel
theorem dX3_in_6 : decode cX3_in 6 = .ok (.iload_n 2, 1) := by decide +kernel
theorem dX3_in_7 : decode cX3_in 7 = .ok (.if_icmp .gt 7, 3) := by decide +kernel
theorem dX3_in_10 : decode cX3_in 10 = .ok (.iconst 1, 1) := by decide +kernel
theorem dX3_in_11 : decode cX3_in 11 = .ok (.goto 4, 3) := by decide +kernel
theorem dX3_in_14 : decode cX3_in 14 = .ok (.iconst 0, 1) := by decide +kernel
theorem dX3_in_15 : decode cX3_in 15 = .ok (.ireturn, 1) := by decide +kernel
set_option maxRecDepth 20000 in
theorem ggX3_isLayer_X3_in : GoodIn wsX3_isLayer wsX3_in := goodIn_r _ [4] (by decide +kernel) (by decide +kernel)
set_option maxRecDepth 20000 in
theorem gX3_isLayer_X3_in : GoodIn wsX3_isLayer (va_wsS RX3 39 yX3_in wsX3_in) := goodIn_app (goodIn_of _ (by decide +kernel)) ggX3_isLayer_X3_in
theorem dX3_isLayer_0 : decode cX3_isLayer 0 = .ok (.iload_n 0, 1) := by decide +kernel
theorem dX3_isLayer_1 : decode cX3_isLayer 1 = .ok (.iconst 0, 1) := by decide +kernel
theorem dX3_isLayer_2 : decode cX3_isLayer 2 = .ok (.iconst 2, 1) := by decide +kernel
theorem dX3_isLayer_3 : decode cX3_isLayer 3 = .ok (.invokestatic 39, 3) := by decide +kernel
theorem dX3_isLayer_6 : decode cX3_isLayer 6 = .ok (.ireturn, 1) := by decide +kernel
set_option maxRecDepth 20000 in
theorem ggX3_isDot_X3_in : GoodIn wsX3_isDot wsX3_in := goodIn_r _ [4] (by decide +kernel) (by decide +kernel)
set_option maxRecDepth 20000 in
theorem gX3_isDot_X3_in : GoodIn wsX3_isDot (va_wsS RX3 39 yX3_in wsX3_in) := goodIn_app (goodIn_of _ (by decide +kernel)) ggX3_isDot_X3_in
theorem dX3_isDot_0 : decode cX3_isDot 0 = .ok (.iload_n 0, 1) := by decide +kernel
theorem dX3_isDot_1 : decode cX3_isDot 1 = .ok (.iconst 0, 1) := by decide +kernel
theorem dX3_isDot_2 : decode cX3_isDot 2 = .ok (.bipush 15, 2) := by decide +kernel
theorem dX3_isDot_4 : decode cX3_isDot 4 = .ok (.invokestatic 39, 3) := by decide +kernel
theorem dX3_isDot_7 : decode cX3_isDot 7 = .ok (.ireturn, 1) := by decide +kernel
set_option maxRecDepth 20000 in
theorem ggX3_isHere_X3_in : GoodIn wsX3_isHere wsX3_in := goodIn_r _ [4] (by decide +kernel) (by decide +kernel)
set_option maxRecDepth 20000 in
theorem gX3_isHere_X3_in : GoodIn wsX3_isHere (va_wsS RX3 39 yX3_in wsX3_in) := goodIn_app (goodIn_of _ (by decide +kernel)) ggX3_isHere_X3_in
theorem dX3_isHere_0 : decode cX3_isHere 0 = .ok (.iload_n 0, 1) := by decide +kernel
theorem dX3_isHere_1 : decode cX3_isHere 1 = .ok (.iconst 0, 1) := by decide +kernel
theorem dX3_isHere_2 : decode cX3_isHere 2 = .ok (.bipush 12, 2) := by decide +kernel
theorem dX3_isHere_4 : decode cX3_isHere 4 = .ok (.invokestatic 39, 3) := by decide +kernel
theorem dX3_isHere_7 : decode cX3_isHere 7 = .ok (.ifCond .eq 17, 3) := by decide +kernel
theorem dX3_isHere_10 : decode cX3_isHere 10 = .ok (.iload_n 1, 1) := by decide +kernel
theorem dX3_isHere_11 : decode cX3_isHere 11 = .ok (.iconst 0, 1) := by decide +kernel
theorem dX3_isHere_12 : decode cX3_isHere 12 = .ok (.bipush 12, 2) := by decide +kernel
theorem dX3_isHere_14 : decode cX3_isHere 14 = .ok (.invokestatic 39, 3) := by decide +kernel
theorem dX3_isHere_17 : decode cX3_isHere 17 = .ok (.ifCond .eq 7, 3) := by decide +kernel
theorem dX3_isHere_20 : decode cX3_isHere 20 = .ok (.iconst 1, 1) := by decide +kernel
theorem dX3_isHere_21 : decode cX3_isHere 21 = .ok (.goto 4, 3) := by decide +kernel
theorem dX3_isHere_24 : decode cX3_isHere 24 = .ok (.iconst 0, 1) := by decide +kernel
theorem dX3_isHere_25 : decode cX3_isHere 25 = .ok (.ireturn, 1) := by decide +kernel
set_option maxRecDepth 20000 in
theorem ggX3_isPoint_X3_in : GoodIn wsX3_isPoint wsX3_in := goodIn_r _ [5] (by decide +kernel) (by decide +kernel)
set_option maxRecDepth 20000 in
theorem gX3_isPoint_X3_in : GoodIn wsX3_isPoint (va_wsS RX3 39 yX3_in wsX3_in) := goodIn_app (goodIn_of _ (by decide +kernel)) ggX3_isPoint_X3_in
theorem dX3_isPoint_0 : decode cX3_isPoint 0 = .ok (.iload_n 2, 1) := by decide +kernel
theorem dX3_isPoint_1 : decode cX3_isPoint 1 = .ok (.iconst 0, 1) := by decide +kernel
theorem dX3_isPoint_2 : decode cX3_isPoint 2 = .ok (.aload_n 0, 1) := by decide +kernel
theorem dX3_isPoint_3 : decode cX3_isPoint 3 = .ok (.getfield 7, 3) := by decide +kernel
theorem dX3_isPoint_6 : decode cX3_isPoint 6 = .ok (.iconst 0, 1) := by decide +kernel
theorem dX3_isPoint_7 : decode cX3_isPoint 7 = .ok (.iload_n 1, 1) := by decide +kernel
theorem dX3_isPoint_8 : decode cX3_isPoint 8 = .ok (.iadd, 1) := by decide +kernel
theorem dX3_isPoint_9 : decode cX3_isPoint 9 = .ok (.iaload, 1) := by decide +kernel
theorem dX3_isPoint_10 : decode cX3_isPoint 10 = .ok (.iconst 1, 1) := by decide +kernel
theorem dX3_isPoint_11 : decode cX3_isPoint 11 = .ok (.isub, 1) := by decide +kernel
theorem dX3_isPoint_12 : decode cX3_isPoint 12 = .ok (.invokestatic 39, 3) := by decide +kernel
theorem dX3_isPoint_15 : decode cX3_isPoint 15 = .ok (.ireturn, 1) := by decide +kernel
theorem dX3_place_0 : decode cX3_place 0 = .ok (.bipush 8, 2) := by decide +kernel
theorem dX3_place_2 : decode cX3_place 2 = .ok (.iload_n 0, 1) := by decide +kernel
theorem dX3_place_3 : decode cX3_place 3 = .ok (.imul, 1) := by decide +kernel
theorem dX3_place_4 : decode cX3_place 4 = .ok (.iload_n 1, 1) := by decide +kernel
theorem dX3_place_5 : decode cX3_place 5 = .ok (.iadd, 1) := by decide +kernel
theorem dX3_place_6 : decode cX3_place 6 = .ok (.ireturn, 1) := by decide +kernel
set_option maxRecDepth 20000 in
theorem ggX3_point_X3_isLayer : GoodIn wsX3_point wsX3_isLayer := goodIn_r _ [5, 6, 7, 4, 8] (by decide +kernel) (by decide +kernel)
set_option maxRecDepth 20000 in
theorem gX3_point_X3_isLayer : GoodIn wsX3_point (va_wsS RX3 43 yX3_isLayer wsX3_isLayer) := goodIn_app (goodIn_of _ (by decide +kernel)) ggX3_point_X3_isLayer
set_option maxRecDepth 20000 in
theorem ggX3_point_X3_isHere : GoodIn wsX3_point wsX3_isHere := goodIn_r _ [11, 6, 7, 4, 8] (by decide +kernel) (by decide +kernel)
set_option maxRecDepth 20000 in
theorem gX3_point_X3_isHere : GoodIn wsX3_point (va_wsS RX3 47 yX3_isHere wsX3_isHere) := goodIn_app (goodIn_of _ (by decide +kernel)) ggX3_point_X3_isHere
set_option maxRecDepth 20000 in
theorem ggX3_point_X3_place : GoodIn wsX3_point wsX3_place := goodIn_r _ [14] (by decide +kernel) (by decide +kernel)
set_option maxRecDepth 20000 in
theorem gX3_point_X3_place : GoodIn wsX3_point (va_wsS RX3 51 yX3_place wsX3_place) := goodIn_app (goodIn_of _ (by decide +kernel)) ggX3_point_X3_place
theorem dX3_point_0 : decode cX3_point 0 = .ok (.iload_n 1, 1) := by decide +kernel
theorem dX3_point_1 : decode cX3_point 1 = .ok (.invokestatic 43, 3) := by decide +kernel
theorem dX3_point_4 : decode cX3_point 4 = .ok (.ifCond .ne 5, 3) := by decide +kernel
theorem dX3_point_7 : decode cX3_point 7 = .ok (.iconst (-1), 1) := by decide +kernel
theorem dX3_point_8 : decode cX3_point 8 = .ok (.ireturn, 1) := by decide +kernel
theorem dX3_point_9 : decode cX3_point 9 = .ok (.iload_n 2, 1) := by decide +kernel
theorem dX3_point_10 : decode cX3_point 10 = .ok (.iload_n 3, 1) := by decide +kernel
theorem dX3_point_11 : decode cX3_point 11 = .ok (.invokestatic 47, 3) := by decide +kernel
theorem dX3_point_14 : decode cX3_point 14 = .ok (.ifCond .ne 6, 3) := by decide +kernel
theorem dX3_point_17 : decode cX3_point 17 = .ok (.bipush (-2), 2) := by decide +kernel
theorem dX3_point_19 : decode cX3_point 19 = .ok (.ireturn, 1) := by decide +kernel
theorem dX3_point_20 : decode cX3_point 20 = .ok (.aload_n 0, 1) := by decide +kernel
theorem dX3_point_21 : decode cX3_point 21 = .ok (.getfield 7, 3) := by decide +kernel
theorem dX3_point_24 : decode cX3_point 24 = .ok (.iconst 0, 1) := by decide +kernel
theorem dX3_point_25 : decode cX3_point 25 = .ok (.iload_n 1, 1) := by decide +kernel
theorem dX3_point_26 : decode cX3_point 26 = .ok (.iadd, 1) := by decide +kernel
theorem dX3_point_27 : decode cX3_point 27 = .ok (.iaload, 1) := by decide +kernel
theorem dX3_point_28 : decode cX3_point 28 = .ok (.istore 4, 2) := by decide +kernel
theorem dX3_point_30 : decode cX3_point 30 = .ok (.iload 4, 2) := by decide +kernel
theorem dX3_point_32 : decode cX3_point 32 = .ok (.bipush 8, 2) := by decide +kernel
theorem dX3_point_34 : decode cX3_point 34 = .ok (.if_icmp .ne 6, 3) := by decide +kernel
theorem dX3_point_37 : decode cX3_point 37 = .ok (.bipush (-4), 2) := by decide +kernel
theorem dX3_point_39 : decode cX3_point 39 = .ok (.ireturn, 1) := by decide +kernel
theorem dX3_point_40 : decode cX3_point 40 = .ok (.aload_n 0, 1) := by decide +kernel
theorem dX3_point_41 : decode cX3_point 41 = .ok (.getfield 7, 3) := by decide +kernel
theorem dX3_point_44 : decode cX3_point 44 = .ok (.bipush 6, 2) := by decide +kernel
theorem dX3_point_46 : decode cX3_point 46 = .ok (.iload_n 1, 1) := by decide +kernel
theorem dX3_point_47 : decode cX3_point 47 = .ok (.iload 4, 2) := by decide +kernel
theorem dX3_point_49 : decode cX3_point 49 = .ok (.invokestatic 51, 3) := by decide +kernel
theorem dX3_point_52 : decode cX3_point 52 = .ok (.iadd, 1) := by decide +kernel
theorem dX3_point_53 : decode cX3_point 53 = .ok (.iload_n 2, 1) := by decide +kernel
theorem dX3_point_54 : decode cX3_point 54 = .ok (.iastore, 1) := by decide +kernel
theorem dX3_point_55 : decode cX3_point 55 = .ok (.aload_n 0, 1) := by decide +kernel
theorem dX3_point_56 : decode cX3_point 56 = .ok (.getfield 7, 3) := by decide +kernel
theorem dX3_point_59 : decode cX3_point 59 = .ok (.bipush 30, 2) := by decide +kernel
theorem dX3_point_61 : decode cX3_point 61 = .ok (.iload_n 1, 1) := by decide +kernel
theorem dX3_point_62 : decode cX3_point 62 = .ok (.iload 4, 2) := by decide +kernel
theorem dX3_point_64 : decode cX3_point 64 = .ok (.invokestatic 51, 3) := by decide +kernel
theorem dX3_point_67 : decode cX3_point 67 = .ok (.iadd, 1) := by decide +kernel
theorem dX3_point_68 : decode cX3_point 68 = .ok (.iload_n 3, 1) := by decide +kernel
theorem dX3_point_69 : decode cX3_point 69 = .ok (.iastore, 1) := by decide +kernel
theorem dX3_point_70 : decode cX3_point 70 = .ok (.aload_n 0, 1) := by decide +kernel
theorem dX3_point_71 : decode cX3_point 71 = .ok (.getfield 7, 3) := by decide +kernel
theorem dX3_point_74 : decode cX3_point 74 = .ok (.iconst 0, 1) := by decide +kernel
theorem dX3_point_75 : decode cX3_point 75 = .ok (.iload_n 1, 1) := by decide +kernel
theorem dX3_point_76 : decode cX3_point 76 = .ok (.iadd, 1) := by decide +kernel
theorem dX3_point_77 : decode cX3_point 77 = .ok (.dup2, 1) := by decide +kernel
theorem dX3_point_78 : decode cX3_point 78 = .ok (.iaload, 1) := by decide +kernel
theorem dX3_point_79 : decode cX3_point 79 = .ok (.iconst 1, 1) := by decide +kernel
theorem dX3_point_80 : decode cX3_point 80 = .ok (.iadd, 1) := by decide +kernel
theorem dX3_point_81 : decode cX3_point 81 = .ok (.iastore, 1) := by decide +kernel
theorem dX3_point_82 : decode cX3_point 82 = .ok (.iload 4, 2) := by decide +kernel
theorem dX3_point_84 : decode cX3_point 84 = .ok (.ireturn, 1) := by decide +kernel
set_option maxRecDepth 20000 in
theorem ggX3_pop_X3_isLayer : GoodIn wsX3_pop wsX3_isLayer := goodIn_r _ [5, 6, 7, 4, 8] (by decide +kernel) (by decide +kernel)
set_option maxRecDepth 20000 in
theorem gX3_pop_X3_isLayer : GoodIn wsX3_pop (va_wsS RX3 43 yX3_isLayer wsX3_isLayer) := goodIn_app (goodIn_of _ (by decide +kernel)) ggX3_pop_X3_isLayer
theorem dX3_pop_0 : decode cX3_pop 0 = .ok (.iload_n 1, 1) := by decide +kernel
theorem dX3_pop_1 : decode cX3_pop 1 = .ok (.invokestatic 43, 3) := by decide +kernel
theorem dX3_pop_4 : decode cX3_pop 4 = .ok (.ifCond .ne 5, 3) := by decide +kernel
theorem dX3_pop_7 : decode cX3_pop 7 = .ok (.iconst (-1), 1) := by decide +kernel
theorem dX3_pop_8 : decode cX3_pop 8 = .ok (.ireturn, 1) := by decide +kernel
theorem dX3_pop_9 : decode cX3_pop 9 = .ok (.aload_n 0, 1) := by decide +kernel
theorem dX3_pop_10 : decode cX3_pop 10 = .ok (.getfield 7, 3) := by decide +kernel
theorem dX3_pop_13 : decode cX3_pop 13 = .ok (.iconst 0, 1) := by decide +kernel
theorem dX3_pop_14 : decode cX3_pop 14 = .ok (.iload_n 1, 1) := by decide +kernel
theorem dX3_pop_15 : decode cX3_pop 15 = .ok (.iadd, 1) := by decide +kernel
theorem dX3_pop_16 : decode cX3_pop 16 = .ok (.iaload, 1) := by decide +kernel
theorem dX3_pop_17 : decode cX3_pop 17 = .ok (.ifCond .ne 6, 3) := by decide +kernel
theorem dX3_pop_20 : decode cX3_pop 20 = .ok (.bipush (-3), 2) := by decide +kernel
theorem dX3_pop_22 : decode cX3_pop 22 = .ok (.ireturn, 1) := by decide +kernel
theorem dX3_pop_23 : decode cX3_pop 23 = .ok (.aload_n 0, 1) := by decide +kernel
theorem dX3_pop_24 : decode cX3_pop 24 = .ok (.getfield 7, 3) := by decide +kernel
theorem dX3_pop_27 : decode cX3_pop 27 = .ok (.iconst 0, 1) := by decide +kernel
theorem dX3_pop_28 : decode cX3_pop 28 = .ok (.iload_n 1, 1) := by decide +kernel
theorem dX3_pop_29 : decode cX3_pop 29 = .ok (.iadd, 1) := by decide +kernel
theorem dX3_pop_30 : decode cX3_pop 30 = .ok (.dup2, 1) := by decide +kernel
theorem dX3_pop_31 : decode cX3_pop 31 = .ok (.iaload, 1) := by decide +kernel
theorem dX3_pop_32 : decode cX3_pop 32 = .ok (.iconst 1, 1) := by decide +kernel
theorem dX3_pop_33 : decode cX3_pop 33 = .ok (.isub, 1) := by decide +kernel
theorem dX3_pop_34 : decode cX3_pop 34 = .ok (.iastore, 1) := by decide +kernel
theorem dX3_pop_35 : decode cX3_pop 35 = .ok (.aload_n 0, 1) := by decide +kernel
theorem dX3_pop_36 : decode cX3_pop 36 = .ok (.getfield 7, 3) := by decide +kernel
theorem dX3_pop_39 : decode cX3_pop 39 = .ok (.iconst 0, 1) := by decide +kernel
theorem dX3_pop_40 : decode cX3_pop 40 = .ok (.iload_n 1, 1) := by decide +kernel
theorem dX3_pop_41 : decode cX3_pop 41 = .ok (.iadd, 1) := by decide +kernel
theorem dX3_pop_42 : decode cX3_pop 42 = .ok (.iaload, 1) := by decide +kernel
theorem dX3_pop_43 : decode cX3_pop 43 = .ok (.ireturn, 1) := by decide +kernel
set_option maxRecDepth 20000 in
theorem ggX3_set_X3_isLayer : GoodIn wsX3_set wsX3_isLayer := goodIn_r _ [5, 6, 7, 4, 8] (by decide +kernel) (by decide +kernel)
set_option maxRecDepth 20000 in
theorem gX3_set_X3_isLayer : GoodIn wsX3_set (va_wsS RX3 43 yX3_isLayer wsX3_isLayer) := goodIn_app (goodIn_of _ (by decide +kernel)) ggX3_set_X3_isLayer
set_option maxRecDepth 20000 in
theorem ggX3_set_X3_isPoint : GoodIn wsX3_set wsX3_isPoint := goodIn_r _ [12, 1, 6, 7, 4, 8, 19, 20, 21, 22, 23, 24, 25, 26, 27, 28, 29] (by decide +kernel) (by decide +kernel)
set_option maxRecDepth 20000 in
theorem gX3_set_X3_isPoint : GoodIn wsX3_set (wsV RX3 55 RX3 yX3_isPoint wsX3_isPoint) := goodIn_app (goodIn_of _ (by decide +kernel)) ggX3_set_X3_isPoint
set_option maxRecDepth 20000 in
theorem ggX3_set_X3_isHere : GoodIn wsX3_set wsX3_isHere := goodIn_r _ [15, 6, 7, 4, 8] (by decide +kernel) (by decide +kernel)
set_option maxRecDepth 20000 in
theorem gX3_set_X3_isHere : GoodIn wsX3_set (va_wsS RX3 47 yX3_isHere wsX3_isHere) := goodIn_app (goodIn_of _ (by decide +kernel)) ggX3_set_X3_isHere
set_option maxRecDepth 20000 in
theorem ggX3_set_X3_place : GoodIn wsX3_set wsX3_place := goodIn_r _ [18] (by decide +kernel) (by decide +kernel)
set_option maxRecDepth 20000 in
theorem gX3_set_X3_place : GoodIn wsX3_set (va_wsS RX3 51 yX3_place wsX3_place) := goodIn_app (goodIn_of _ (by decide +kernel)) ggX3_set_X3_place
theorem dX3_set_0 : decode cX3_set 0 = .ok (.iload_n 1, 1) := by decide +kernel
theorem dX3_set_1 : decode cX3_set 1 = .ok (.invokestatic 43, 3) := by decide +kernel
theorem dX3_set_4 : decode cX3_set 4 = .ok (.ifCond .eq 12, 3) := by decide +kernel
theorem dX3_set_7 : decode cX3_set 7 = .ok (.aload_n 0, 1) := by decide +kernel
theorem dX3_set_8 : decode cX3_set 8 = .ok (.iload_n 1, 1) := by decide +kernel
theorem dX3_set_9 : decode cX3_set 9 = .ok (.iload_n 2, 1) := by decide +kernel
theorem dX3_set_10 : decode cX3_set 10 = .ok (.invokevirtual 55, 3) := by decide +kernel
theorem dX3_set_13 : decode cX3_set 13 = .ok (.ifCond .ne 5, 3) := by decide +kernel
theorem dX3_set_16 : decode cX3_set 16 = .ok (.iconst (-1), 1) := by decide +kernel
theorem dX3_set_17 : decode cX3_set 17 = .ok (.ireturn, 1) := by decide +kernel
theorem dX3_set_18 : decode cX3_set 18 = .ok (.iload_n 3, 1) := by decide +kernel
theorem dX3_set_19 : decode cX3_set 19 = .ok (.iload 4, 2) := by decide +kernel
theorem dX3_set_21 : decode cX3_set 21 = .ok (.invokestatic 47, 3) := by decide +kernel
theorem dX3_set_24 : decode cX3_set 24 = .ok (.ifCond .ne 6, 3) := by decide +kernel
theorem dX3_set_27 : decode cX3_set 27 = .ok (.bipush (-2), 2) := by decide +kernel
theorem dX3_set_29 : decode cX3_set 29 = .ok (.ireturn, 1) := by decide +kernel
theorem dX3_set_30 : decode cX3_set 30 = .ok (.iload_n 1, 1) := by decide +kernel
theorem dX3_set_31 : decode cX3_set 31 = .ok (.iload_n 2, 1) := by decide +kernel
theorem dX3_set_32 : decode cX3_set 32 = .ok (.invokestatic 51, 3) := by decide +kernel
theorem dX3_set_35 : decode cX3_set 35 = .ok (.istore 5, 2) := by decide +kernel
theorem dX3_set_37 : decode cX3_set 37 = .ok (.bipush 13, 2) := by decide +kernel
theorem dX3_set_39 : decode cX3_set 39 = .ok (.aload_n 0, 1) := by decide +kernel
theorem dX3_set_40 : decode cX3_set 40 = .ok (.getfield 7, 3) := by decide +kernel
theorem dX3_set_43 : decode cX3_set 43 = .ok (.bipush 6, 2) := by decide +kernel
theorem dX3_set_45 : decode cX3_set 45 = .ok (.iload 5, 2) := by decide +kernel
theorem dX3_set_47 : decode cX3_set 47 = .ok (.iadd, 1) := by decide +kernel
theorem dX3_set_48 : decode cX3_set 48 = .ok (.iaload, 1) := by decide +kernel
theorem dX3_set_49 : decode cX3_set 49 = .ok (.imul, 1) := by decide +kernel
theorem dX3_set_50 : decode cX3_set 50 = .ok (.aload_n 0, 1) := by decide +kernel
theorem dX3_set_51 : decode cX3_set 51 = .ok (.getfield 7, 3) := by decide +kernel
theorem dX3_set_54 : decode cX3_set 54 = .ok (.bipush 30, 2) := by decide +kernel
theorem dX3_set_56 : decode cX3_set 56 = .ok (.iload 5, 2) := by decide +kernel
theorem dX3_set_58 : decode cX3_set 58 = .ok (.iadd, 1) := by decide +kernel
theorem dX3_set_59 : decode cX3_set 59 = .ok (.iaload, 1) := by decide +kernel
theorem dX3_set_60 : decode cX3_set 60 = .ok (.iadd, 1) := by decide +kernel
theorem dX3_set_61 : decode cX3_set 61 = .ok (.istore 6, 2) := by decide +kernel
theorem dX3_set_63 : decode cX3_set 63 = .ok (.aload_n 0, 1) := by decide +kernel
theorem dX3_set_64 : decode cX3_set 64 = .ok (.getfield 7, 3) := by decide +kernel
theorem dX3_set_67 : decode cX3_set 67 = .ok (.bipush 6, 2) := by decide +kernel
theorem dX3_set_69 : decode cX3_set 69 = .ok (.iload 5, 2) := by decide +kernel
theorem dX3_set_71 : decode cX3_set 71 = .ok (.iadd, 1) := by decide +kernel
theorem dX3_set_72 : decode cX3_set 72 = .ok (.iload_n 3, 1) := by decide +kernel
theorem dX3_set_73 : decode cX3_set 73 = .ok (.iastore, 1) := by decide +kernel
theorem dX3_set_74 : decode cX3_set 74 = .ok (.aload_n 0, 1) := by decide +kernel
theorem dX3_set_75 : decode cX3_set 75 = .ok (.getfield 7, 3) := by decide +kernel
theorem dX3_set_78 : decode cX3_set 78 = .ok (.bipush 30, 2) := by decide +kernel
theorem dX3_set_80 : decode cX3_set 80 = .ok (.iload 5, 2) := by decide +kernel
theorem dX3_set_82 : decode cX3_set 82 = .ok (.iadd, 1) := by decide +kernel
theorem dX3_set_83 : decode cX3_set 83 = .ok (.iload 4, 2) := by decide +kernel
theorem dX3_set_85 : decode cX3_set 85 = .ok (.iastore, 1) := by decide +kernel
theorem dX3_set_86 : decode cX3_set 86 = .ok (.iload 6, 2) := by decide +kernel
theorem dX3_set_88 : decode cX3_set 88 = .ok (.ireturn, 1) := by decide +kernel
set_option maxRecDepth 20000 in
theorem ggX3_rule_X3_isLayer : GoodIn wsX3_rule wsX3_isLayer := goodIn_r _ [5, 6, 7, 4, 8] (by decide +kernel) (by decide +kernel)
set_option maxRecDepth 20000 in
theorem gX3_rule_X3_isLayer : GoodIn wsX3_rule (va_wsS RX3 43 yX3_isLayer wsX3_isLayer) := goodIn_app (goodIn_of _ (by decide +kernel)) ggX3_rule_X3_isLayer
set_option maxRecDepth 20000 in
theorem ggX3_rule_X3_in : GoodIn wsX3_rule wsX3_in := goodIn_r _ [8] (by decide +kernel) (by decide +kernel)
set_option maxRecDepth 20000 in
theorem gX3_rule_X3_in : GoodIn wsX3_rule (va_wsS RX3 39 yX3_in wsX3_in) := goodIn_app (goodIn_of _ (by decide +kernel)) ggX3_rule_X3_in
theorem dX3_rule_0 : decode cX3_rule 0 = .ok (.iload_n 1, 1) := by decide +kernel
theorem dX3_rule_1 : decode cX3_rule 1 = .ok (.invokestatic 43, 3) := by decide +kernel
theorem dX3_rule_4 : decode cX3_rule 4 = .ok (.ifCond .ne 5, 3) := by decide +kernel
theorem dX3_rule_7 : decode cX3_rule 7 = .ok (.iconst (-1), 1) := by decide +kernel
theorem dX3_rule_8 : decode cX3_rule 8 = .ok (.ireturn, 1) := by decide +kernel
theorem dX3_rule_9 : decode cX3_rule 9 = .ok (.iload_n 2, 1) := by decide +kernel
theorem dX3_rule_10 : decode cX3_rule 10 = .ok (.iconst 0, 1) := by decide +kernel
theorem dX3_rule_11 : decode cX3_rule 11 = .ok (.iconst 1, 1) := by decide +kernel
theorem dX3_rule_12 : decode cX3_rule 12 = .ok (.invokestatic 39, 3) := by decide +kernel
theorem dX3_rule_15 : decode cX3_rule 15 = .ok (.ifCond .ne 6, 3) := by decide +kernel
theorem dX3_rule_18 : decode cX3_rule 18 = .ok (.bipush (-2), 2) := by decide +kernel
theorem dX3_rule_20 : decode cX3_rule 20 = .ok (.ireturn, 1) := by decide +kernel
theorem dX3_rule_21 : decode cX3_rule 21 = .ok (.aload_n 0, 1) := by decide +kernel
theorem dX3_rule_22 : decode cX3_rule 22 = .ok (.getfield 7, 3) := by decide +kernel
theorem dX3_rule_25 : decode cX3_rule 25 = .ok (.iconst 3, 1) := by decide +kernel
theorem dX3_rule_26 : decode cX3_rule 26 = .ok (.iload_n 1, 1) := by decide +kernel
theorem dX3_rule_27 : decode cX3_rule 27 = .ok (.iadd, 1) := by decide +kernel
theorem dX3_rule_28 : decode cX3_rule 28 = .ok (.iaload, 1) := by decide +kernel
theorem dX3_rule_29 : decode cX3_rule 29 = .ok (.istore_n 3, 1) := by decide +kernel
theorem dX3_rule_30 : decode cX3_rule 30 = .ok (.aload_n 0, 1) := by decide +kernel
theorem dX3_rule_31 : decode cX3_rule 31 = .ok (.getfield 7, 3) := by decide +kernel
theorem dX3_rule_34 : decode cX3_rule 34 = .ok (.iconst 3, 1) := by decide +kernel
theorem dX3_rule_35 : decode cX3_rule 35 = .ok (.iload_n 1, 1) := by decide +kernel
theorem dX3_rule_36 : decode cX3_rule 36 = .ok (.iadd, 1) := by decide +kernel
theorem dX3_rule_37 : decode cX3_rule 37 = .ok (.iload_n 2, 1) := by decide +kernel
theorem dX3_rule_38 : decode cX3_rule 38 = .ok (.iastore, 1) := by decide +kernel
theorem dX3_rule_39 : decode cX3_rule 39 = .ok (.iload_n 3, 1) := by decide +kernel
theorem dX3_rule_40 : decode cX3_rule 40 = .ok (.ireturn, 1) := by decide +kernel
set_option maxRecDepth 20000 in
theorem ggX3_canMove_X3_place : GoodIn wsX3_canMove wsX3_place := goodIn_r _ [5] (by decide +kernel) (by decide +kernel)
set_option maxRecDepth 20000 in
theorem gX3_canMove_X3_place : GoodIn wsX3_canMove (va_wsS RX3 51 yX3_place wsX3_place) := goodIn_app (goodIn_of _ (by decide +kernel)) ggX3_canMove_X3_place
set_option maxRecDepth 20000 in
theorem ggX3_canMove_X3_isHere : GoodIn wsX3_canMove wsX3_isHere := goodIn_r _ [8, 9, 10, 4, 11] (by decide +kernel) (by decide +kernel)
set_option maxRecDepth 20000 in
theorem gX3_canMove_X3_isHere : GoodIn wsX3_canMove (va_wsS RX3 47 yX3_isHere wsX3_isHere) := goodIn_app (goodIn_of _ (by decide +kernel)) ggX3_canMove_X3_isHere
theorem dX3_canMove_0 : decode cX3_canMove 0 = .ok (.iconst 1, 1) := by decide +kernel
theorem dX3_canMove_1 : decode cX3_canMove 1 = .ok (.istore 4, 2) := by decide +kernel
theorem dX3_canMove_3 : decode cX3_canMove 3 = .ok (.iconst 0, 1) := by decide +kernel
theorem dX3_canMove_4 : decode cX3_canMove 4 = .ok (.istore 5, 2) := by decide +kernel
theorem dX3_canMove_6 : decode cX3_canMove 6 = .ok (.iload 5, 2) := by decide +kernel
theorem dX3_canMove_8 : decode cX3_canMove 8 = .ok (.aload_n 0, 1) := by decide +kernel
theorem dX3_canMove_9 : decode cX3_canMove 9 = .ok (.getfield 7, 3) := by decide +kernel
theorem dX3_canMove_12 : decode cX3_canMove 12 = .ok (.iconst 0, 1) := by decide +kernel
theorem dX3_canMove_13 : decode cX3_canMove 13 = .ok (.iload_n 1, 1) := by decide +kernel
theorem dX3_canMove_14 : decode cX3_canMove 14 = .ok (.iadd, 1) := by decide +kernel
theorem dX3_canMove_15 : decode cX3_canMove 15 = .ok (.iaload, 1) := by decide +kernel
theorem dX3_canMove_16 : decode cX3_canMove 16 = .ok (.if_icmp .ge 59, 3) := by decide +kernel
theorem dX3_canMove_19 : decode cX3_canMove 19 = .ok (.iload 4, 2) := by decide +kernel
theorem dX3_canMove_21 : decode cX3_canMove 21 = .ok (.ifCond .eq 45, 3) := by decide +kernel
theorem dX3_canMove_24 : decode cX3_canMove 24 = .ok (.aload_n 0, 1) := by decide +kernel
theorem dX3_canMove_25 : decode cX3_canMove 25 = .ok (.getfield 7, 3) := by decide +kernel
theorem dX3_canMove_28 : decode cX3_canMove 28 = .ok (.bipush 6, 2) := by decide +kernel
theorem dX3_canMove_30 : decode cX3_canMove 30 = .ok (.iload_n 1, 1) := by decide +kernel
theorem dX3_canMove_31 : decode cX3_canMove 31 = .ok (.iload 5, 2) := by decide +kernel
theorem dX3_canMove_33 : decode cX3_canMove 33 = .ok (.invokestatic 51, 3) := by decide +kernel
theorem dX3_canMove_36 : decode cX3_canMove 36 = .ok (.iadd, 1) := by decide +kernel
theorem dX3_canMove_37 : decode cX3_canMove 37 = .ok (.iaload, 1) := by decide +kernel
theorem dX3_canMove_38 : decode cX3_canMove 38 = .ok (.iload_n 2, 1) := by decide +kernel
theorem dX3_canMove_39 : decode cX3_canMove 39 = .ok (.iadd, 1) := by decide +kernel
theorem dX3_canMove_40 : decode cX3_canMove 40 = .ok (.aload_n 0, 1) := by decide +kernel
theorem dX3_canMove_41 : decode cX3_canMove 41 = .ok (.getfield 7, 3) := by decide +kernel
theorem dX3_canMove_44 : decode cX3_canMove 44 = .ok (.bipush 30, 2) := by decide +kernel
theorem dX3_canMove_46 : decode cX3_canMove 46 = .ok (.iload_n 1, 1) := by decide +kernel
theorem dX3_canMove_47 : decode cX3_canMove 47 = .ok (.iload 5, 2) := by decide +kernel
theorem dX3_canMove_49 : decode cX3_canMove 49 = .ok (.invokestatic 51, 3) := by decide +kernel
theorem dX3_canMove_52 : decode cX3_canMove 52 = .ok (.iadd, 1) := by decide +kernel
theorem dX3_canMove_53 : decode cX3_canMove 53 = .ok (.iaload, 1) := by decide +kernel
theorem dX3_canMove_54 : decode cX3_canMove 54 = .ok (.iload_n 3, 1) := by decide +kernel
theorem dX3_canMove_55 : decode cX3_canMove 55 = .ok (.iadd, 1) := by decide +kernel
theorem dX3_canMove_56 : decode cX3_canMove 56 = .ok (.invokestatic 47, 3) := by decide +kernel
theorem dX3_canMove_59 : decode cX3_canMove 59 = .ok (.ifCond .eq 7, 3) := by decide +kernel
theorem dX3_canMove_62 : decode cX3_canMove 62 = .ok (.iconst 1, 1) := by decide +kernel
theorem dX3_canMove_63 : decode cX3_canMove 63 = .ok (.goto 4, 3) := by decide +kernel
theorem dX3_canMove_66 : decode cX3_canMove 66 = .ok (.iconst 0, 1) := by decide +kernel
theorem dX3_canMove_67 : decode cX3_canMove 67 = .ok (.istore 4, 2) := by decide +kernel
theorem dX3_canMove_69 : decode cX3_canMove 69 = .ok (.iinc 5 1, 3) := by decide +kernel
theorem dX3_canMove_72 : decode cX3_canMove 72 = .ok (.goto (-66), 3) := by decide +kernel
theorem dX3_canMove_75 : decode cX3_canMove 75 = .ok (.iload 4, 2) := by decide +kernel
theorem dX3_canMove_77 : decode cX3_canMove 77 = .ok (.ireturn, 1) := by decide +kernel
set_option maxRecDepth 20000 in
theorem ggX3_move_X3_isLayer : GoodIn wsX3_move wsX3_isLayer := goodIn_r _ [5, 6, 7, 4, 8] (by decide +kernel) (by decide +kernel)
set_option maxRecDepth 20000 in
theorem gX3_move_X3_isLayer : GoodIn wsX3_move (va_wsS RX3 43 yX3_isLayer wsX3_isLayer) := goodIn_app (goodIn_of _ (by decide +kernel)) ggX3_move_X3_isLayer
set_option maxRecDepth 20000 in
theorem ggX3_move_X3_in : GoodIn wsX3_move wsX3_in := goodIn_r _ [8] (by decide +kernel) (by decide +kernel)
set_option maxRecDepth 20000 in
theorem gX3_move_X3_in : GoodIn wsX3_move (va_wsS RX3 39 yX3_in wsX3_in) := goodIn_app (goodIn_of _ (by decide +kernel)) ggX3_move_X3_in
set_option maxRecDepth 20000 in
theorem ggX3_move_X3_canMove : GoodIn wsX3_move wsX3_canMove := goodIn_r _ [12, 1, 13, 14, 4, 15, 16, 17, 18, 6, 7, 8, 19, 20, 21, 22, 23, 24, 25, 26, 27, 28, 29] (by decide +kernel) (by decide +kernel)
set_option maxRecDepth 20000 in
theorem gX3_move_X3_canMove : GoodIn wsX3_move (wsV RX3 58 RX3 yX3_canMove wsX3_canMove) := goodIn_app (goodIn_of _ (by decide +kernel)) ggX3_move_X3_canMove
set_option maxRecDepth 20000 in
theorem ggX3_move_X3_place : GoodIn wsX3_move wsX3_place := goodIn_r _ [15] (by decide +kernel) (by decide +kernel)
set_option maxRecDepth 20000 in
theorem gX3_move_X3_place : GoodIn wsX3_move (va_wsS RX3 51 yX3_place wsX3_place) := goodIn_app (goodIn_of _ (by decide +kernel)) ggX3_move_X3_place
theorem dX3_move_0 : decode cX3_move 0 = .ok (.iload_n 1, 1) := by decide +kernel
theorem dX3_move_1 : decode cX3_move 1 = .ok (.invokestatic 43, 3) := by decide +kernel
theorem dX3_move_4 : decode cX3_move 4 = .ok (.ifCond .ne 5, 3) := by decide +kernel
theorem dX3_move_7 : decode cX3_move 7 = .ok (.iconst (-1), 1) := by decide +kernel
theorem dX3_move_8 : decode cX3_move 8 = .ok (.ireturn, 1) := by decide +kernel
theorem dX3_move_9 : decode cX3_move 9 = .ok (.iload_n 2, 1) := by decide +kernel
theorem dX3_move_10 : decode cX3_move 10 = .ok (.bipush (-12), 2) := by decide +kernel
theorem dX3_move_12 : decode cX3_move 12 = .ok (.bipush 12, 2) := by decide +kernel
theorem dX3_move_14 : decode cX3_move 14 = .ok (.invokestatic 39, 3) := by decide +kernel
theorem dX3_move_17 : decode cX3_move 17 = .ok (.ifCond .eq 14, 3) := by decide +kernel
theorem dX3_move_20 : decode cX3_move 20 = .ok (.iload_n 3, 1) := by decide +kernel
theorem dX3_move_21 : decode cX3_move 21 = .ok (.bipush (-12), 2) := by decide +kernel
theorem dX3_move_23 : decode cX3_move 23 = .ok (.bipush 12, 2) := by decide +kernel
theorem dX3_move_25 : decode cX3_move 25 = .ok (.invokestatic 39, 3) := by decide +kernel
theorem dX3_move_28 : decode cX3_move 28 = .ok (.ifCond .ne 6, 3) := by decide +kernel
theorem dX3_move_31 : decode cX3_move 31 = .ok (.bipush (-2), 2) := by decide +kernel
theorem dX3_move_33 : decode cX3_move 33 = .ok (.ireturn, 1) := by decide +kernel
theorem dX3_move_34 : decode cX3_move 34 = .ok (.aload_n 0, 1) := by decide +kernel
theorem dX3_move_35 : decode cX3_move 35 = .ok (.iload_n 1, 1) := by decide +kernel
theorem dX3_move_36 : decode cX3_move 36 = .ok (.iload_n 2, 1) := by decide +kernel
theorem dX3_move_37 : decode cX3_move 37 = .ok (.iload_n 3, 1) := by decide +kernel
theorem dX3_move_38 : decode cX3_move 38 = .ok (.invokevirtual 58, 3) := by decide +kernel
theorem dX3_move_41 : decode cX3_move 41 = .ok (.ifCond .ne 6, 3) := by decide +kernel
theorem dX3_move_44 : decode cX3_move 44 = .ok (.bipush (-5), 2) := by decide +kernel
theorem dX3_move_46 : decode cX3_move 46 = .ok (.ireturn, 1) := by decide +kernel
theorem dX3_move_47 : decode cX3_move 47 = .ok (.iconst 0, 1) := by decide +kernel
theorem dX3_move_48 : decode cX3_move 48 = .ok (.istore 4, 2) := by decide +kernel
theorem dX3_move_50 : decode cX3_move 50 = .ok (.iload 4, 2) := by decide +kernel
theorem dX3_move_52 : decode cX3_move 52 = .ok (.aload_n 0, 1) := by decide +kernel
theorem dX3_move_53 : decode cX3_move 53 = .ok (.getfield 7, 3) := by decide +kernel
theorem dX3_move_56 : decode cX3_move 56 = .ok (.iconst 0, 1) := by decide +kernel
theorem dX3_move_57 : decode cX3_move 57 = .ok (.iload_n 1, 1) := by decide +kernel
theorem dX3_move_58 : decode cX3_move 58 = .ok (.iadd, 1) := by decide +kernel
theorem dX3_move_59 : decode cX3_move 59 = .ok (.iaload, 1) := by decide +kernel
theorem dX3_move_60 : decode cX3_move 60 = .ok (.if_icmp .ge 45, 3) := by decide +kernel
theorem dX3_move_63 : decode cX3_move 63 = .ok (.aload_n 0, 1) := by decide +kernel
theorem dX3_move_64 : decode cX3_move 64 = .ok (.getfield 7, 3) := by decide +kernel
theorem dX3_move_67 : decode cX3_move 67 = .ok (.bipush 6, 2) := by decide +kernel
theorem dX3_move_69 : decode cX3_move 69 = .ok (.iload_n 1, 1) := by decide +kernel
theorem dX3_move_70 : decode cX3_move 70 = .ok (.iload 4, 2) := by decide +kernel
theorem dX3_move_72 : decode cX3_move 72 = .ok (.invokestatic 51, 3) := by decide +kernel
theorem dX3_move_75 : decode cX3_move 75 = .ok (.iadd, 1) := by decide +kernel
theorem dX3_move_76 : decode cX3_move 76 = .ok (.dup2, 1) := by decide +kernel
theorem dX3_move_77 : decode cX3_move 77 = .ok (.iaload, 1) := by decide +kernel
theorem dX3_move_78 : decode cX3_move 78 = .ok (.iload_n 2, 1) := by decide +kernel
theorem dX3_move_79 : decode cX3_move 79 = .ok (.iadd, 1) := by decide +kernel
theorem dX3_move_80 : decode cX3_move 80 = .ok (.iastore, 1) := by decide +kernel
theorem dX3_move_81 : decode cX3_move 81 = .ok (.aload_n 0, 1) := by decide +kernel
theorem dX3_move_82 : decode cX3_move 82 = .ok (.getfield 7, 3) := by decide +kernel
theorem dX3_move_85 : decode cX3_move 85 = .ok (.bipush 30, 2) := by decide +kernel
theorem dX3_move_87 : decode cX3_move 87 = .ok (.iload_n 1, 1) := by decide +kernel
theorem dX3_move_88 : decode cX3_move 88 = .ok (.iload 4, 2) := by decide +kernel
theorem dX3_move_90 : decode cX3_move 90 = .ok (.invokestatic 51, 3) := by decide +kernel
theorem dX3_move_93 : decode cX3_move 93 = .ok (.iadd, 1) := by decide +kernel
theorem dX3_move_94 : decode cX3_move 94 = .ok (.dup2, 1) := by decide +kernel
theorem dX3_move_95 : decode cX3_move 95 = .ok (.iaload, 1) := by decide +kernel
theorem dX3_move_96 : decode cX3_move 96 = .ok (.iload_n 3, 1) := by decide +kernel
theorem dX3_move_97 : decode cX3_move 97 = .ok (.iadd, 1) := by decide +kernel
theorem dX3_move_98 : decode cX3_move 98 = .ok (.iastore, 1) := by decide +kernel
theorem dX3_move_99 : decode cX3_move 99 = .ok (.iinc 4 1, 3) := by decide +kernel
theorem dX3_move_102 : decode cX3_move 102 = .ok (.goto (-52), 3) := by decide +kernel
theorem dX3_move_105 : decode cX3_move 105 = .ok (.aload_n 0, 1) := by decide +kernel
theorem dX3_move_106 : decode cX3_move 106 = .ok (.getfield 7, 3) := by decide +kernel
theorem dX3_move_109 : decode cX3_move 109 = .ok (.iconst 0, 1) := by decide +kernel
theorem dX3_move_110 : decode cX3_move 110 = .ok (.iload_n 1, 1) := by decide +kernel
theorem dX3_move_111 : decode cX3_move 111 = .ok (.iadd, 1) := by decide +kernel
theorem dX3_move_112 : decode cX3_move 112 = .ok (.iaload, 1) := by decide +kernel
theorem dX3_move_113 : decode cX3_move 113 = .ok (.ireturn, 1) := by decide +kernel
set_option maxRecDepth 20000 in
theorem ggX3_putAside_X3_place : GoodIn wsX3_putAside wsX3_place := goodIn_r _ [7] (by decide +kernel) (by decide +kernel)
set_option maxRecDepth 20000 in
theorem gX3_putAside_X3_place : GoodIn wsX3_putAside (va_wsS RX3 51 yX3_place wsX3_place) := goodIn_app (goodIn_of _ (by decide +kernel)) ggX3_putAside_X3_place
theorem dX3_putAside_0 : decode cX3_putAside 0 = .ok (.iconst 0, 1) := by decide +kernel
theorem dX3_putAside_1 : decode cX3_putAside 1 = .ok (.istore_n 2, 1) := by decide +kernel
theorem dX3_putAside_2 : decode cX3_putAside 2 = .ok (.iload_n 2, 1) := by decide +kernel
theorem dX3_putAside_3 : decode cX3_putAside 3 = .ok (.aload_n 0, 1) := by decide +kernel
theorem dX3_putAside_4 : decode cX3_putAside 4 = .ok (.getfield 7, 3) := by decide +kernel
theorem dX3_putAside_7 : decode cX3_putAside 7 = .ok (.iconst 0, 1) := by decide +kernel
theorem dX3_putAside_8 : decode cX3_putAside 8 = .ok (.iload_n 1, 1) := by decide +kernel
theorem dX3_putAside_9 : decode cX3_putAside 9 = .ok (.iadd, 1) := by decide +kernel
theorem dX3_putAside_10 : decode cX3_putAside 10 = .ok (.iaload, 1) := by decide +kernel
theorem dX3_putAside_11 : decode cX3_putAside 11 = .ok (.if_icmp .ge 47, 3) := by decide +kernel
theorem dX3_putAside_14 : decode cX3_putAside 14 = .ok (.aload_n 0, 1) := by decide +kernel
theorem dX3_putAside_15 : decode cX3_putAside 15 = .ok (.getfield 20, 3) := by decide +kernel
theorem dX3_putAside_18 : decode cX3_putAside 18 = .ok (.iload_n 2, 1) := by decide +kernel
theorem dX3_putAside_19 : decode cX3_putAside 19 = .ok (.aload_n 0, 1) := by decide +kernel
theorem dX3_putAside_20 : decode cX3_putAside 20 = .ok (.getfield 7, 3) := by decide +kernel
theorem dX3_putAside_23 : decode cX3_putAside 23 = .ok (.bipush 6, 2) := by decide +kernel
theorem dX3_putAside_25 : decode cX3_putAside 25 = .ok (.iload_n 1, 1) := by decide +kernel
theorem dX3_putAside_26 : decode cX3_putAside 26 = .ok (.iload_n 2, 1) := by decide +kernel
theorem dX3_putAside_27 : decode cX3_putAside 27 = .ok (.invokestatic 51, 3) := by decide +kernel
theorem dX3_putAside_30 : decode cX3_putAside 30 = .ok (.iadd, 1) := by decide +kernel
theorem dX3_putAside_31 : decode cX3_putAside 31 = .ok (.iaload, 1) := by decide +kernel
theorem dX3_putAside_32 : decode cX3_putAside 32 = .ok (.iastore, 1) := by decide +kernel
theorem dX3_putAside_33 : decode cX3_putAside 33 = .ok (.aload_n 0, 1) := by decide +kernel
theorem dX3_putAside_34 : decode cX3_putAside 34 = .ok (.getfield 23, 3) := by decide +kernel
theorem dX3_putAside_37 : decode cX3_putAside 37 = .ok (.iload_n 2, 1) := by decide +kernel
theorem dX3_putAside_38 : decode cX3_putAside 38 = .ok (.aload_n 0, 1) := by decide +kernel
theorem dX3_putAside_39 : decode cX3_putAside 39 = .ok (.getfield 7, 3) := by decide +kernel
theorem dX3_putAside_42 : decode cX3_putAside 42 = .ok (.bipush 30, 2) := by decide +kernel
theorem dX3_putAside_44 : decode cX3_putAside 44 = .ok (.iload_n 1, 1) := by decide +kernel
theorem dX3_putAside_45 : decode cX3_putAside 45 = .ok (.iload_n 2, 1) := by decide +kernel
theorem dX3_putAside_46 : decode cX3_putAside 46 = .ok (.invokestatic 51, 3) := by decide +kernel
theorem dX3_putAside_49 : decode cX3_putAside 49 = .ok (.iadd, 1) := by decide +kernel
theorem dX3_putAside_50 : decode cX3_putAside 50 = .ok (.iaload, 1) := by decide +kernel
theorem dX3_putAside_51 : decode cX3_putAside 51 = .ok (.iastore, 1) := by decide +kernel
theorem dX3_putAside_52 : decode cX3_putAside 52 = .ok (.iinc 2 1, 3) := by decide +kernel
theorem dX3_putAside_55 : decode cX3_putAside 55 = .ok (.goto (-53), 3) := by decide +kernel
theorem dX3_putAside_58 : decode cX3_putAside 58 = .ok (.return_, 1) := by decide +kernel
set_option maxRecDepth 20000 in
theorem ggX3_layFrom_X3_place : GoodIn wsX3_layFrom wsX3_place := goodIn_r _ [7] (by decide +kernel) (by decide +kernel)
set_option maxRecDepth 20000 in
theorem gX3_layFrom_X3_place : GoodIn wsX3_layFrom (va_wsS RX3 51 yX3_place wsX3_place) := goodIn_app (goodIn_of _ (by decide +kernel)) ggX3_layFrom_X3_place
theorem dX3_layFrom_0 : decode cX3_layFrom 0 = .ok (.aload_n 0, 1) := by decide +kernel
theorem dX3_layFrom_1 : decode cX3_layFrom 1 = .ok (.getfield 7, 3) := by decide +kernel
theorem dX3_layFrom_4 : decode cX3_layFrom 4 = .ok (.bipush 6, 2) := by decide +kernel
theorem dX3_layFrom_6 : decode cX3_layFrom 6 = .ok (.iload_n 1, 1) := by decide +kernel
theorem dX3_layFrom_7 : decode cX3_layFrom 7 = .ok (.iload_n 2, 1) := by decide +kernel
theorem dX3_layFrom_8 : decode cX3_layFrom 8 = .ok (.invokestatic 51, 3) := by decide +kernel
theorem dX3_layFrom_11 : decode cX3_layFrom 11 = .ok (.iadd, 1) := by decide +kernel
theorem dX3_layFrom_12 : decode cX3_layFrom 12 = .ok (.aload_n 0, 1) := by decide +kernel
theorem dX3_layFrom_13 : decode cX3_layFrom 13 = .ok (.getfield 20, 3) := by decide +kernel
theorem dX3_layFrom_16 : decode cX3_layFrom 16 = .ok (.iload_n 3, 1) := by decide +kernel
theorem dX3_layFrom_17 : decode cX3_layFrom 17 = .ok (.iaload, 1) := by decide +kernel
theorem dX3_layFrom_18 : decode cX3_layFrom 18 = .ok (.iastore, 1) := by decide +kernel
theorem dX3_layFrom_19 : decode cX3_layFrom 19 = .ok (.aload_n 0, 1) := by decide +kernel
theorem dX3_layFrom_20 : decode cX3_layFrom 20 = .ok (.getfield 7, 3) := by decide +kernel
theorem dX3_layFrom_23 : decode cX3_layFrom 23 = .ok (.bipush 30, 2) := by decide +kernel
theorem dX3_layFrom_25 : decode cX3_layFrom 25 = .ok (.iload_n 1, 1) := by decide +kernel
theorem dX3_layFrom_26 : decode cX3_layFrom 26 = .ok (.iload_n 2, 1) := by decide +kernel
theorem dX3_layFrom_27 : decode cX3_layFrom 27 = .ok (.invokestatic 51, 3) := by decide +kernel
theorem dX3_layFrom_30 : decode cX3_layFrom 30 = .ok (.iadd, 1) := by decide +kernel
theorem dX3_layFrom_31 : decode cX3_layFrom 31 = .ok (.aload_n 0, 1) := by decide +kernel
theorem dX3_layFrom_32 : decode cX3_layFrom 32 = .ok (.getfield 23, 3) := by decide +kernel
theorem dX3_layFrom_35 : decode cX3_layFrom 35 = .ok (.iload_n 3, 1) := by decide +kernel
theorem dX3_layFrom_36 : decode cX3_layFrom 36 = .ok (.iaload, 1) := by decide +kernel
theorem dX3_layFrom_37 : decode cX3_layFrom 37 = .ok (.iastore, 1) := by decide +kernel
theorem dX3_layFrom_38 : decode cX3_layFrom 38 = .ok (.return_, 1) := by decide +kernel
set_option maxRecDepth 20000 in
theorem ggX3_back_X3_isLayer : GoodIn wsX3_back wsX3_isLayer := goodIn_r _ [5, 6, 7, 4, 8] (by decide +kernel) (by decide +kernel)
set_option maxRecDepth 20000 in
theorem gX3_back_X3_isLayer : GoodIn wsX3_back (va_wsS RX3 43 yX3_isLayer wsX3_isLayer) := goodIn_app (goodIn_of _ (by decide +kernel)) ggX3_back_X3_isLayer
set_option maxRecDepth 20000 in
theorem ggX3_back_X3_putAside : GoodIn wsX3_back wsX3_putAside := goodIn_r _ [12, 1, 13, 14, 15, 16, 4, 17, 22, 23, 24, 25, 26, 27, 28, 29, 30, 31, 32] (by decide +kernel) (by decide +kernel)
set_option maxRecDepth 20000 in
theorem gX3_back_X3_putAside : GoodIn wsX3_back (wsV RX3 61 RX3 yX3_putAside wsX3_putAside) := goodIn_app (goodIn_of _ (by decide +kernel)) ggX3_back_X3_putAside
set_option maxRecDepth 20000 in
theorem ggX3_back_X3_layFrom : GoodIn wsX3_back wsX3_layFrom := goodIn_r _ [21, 1, 13, 14, 15, 16, 4, 17, 22, 23, 24, 25, 26, 27, 28, 29, 30, 31, 32] (by decide +kernel) (by decide +kernel)
set_option maxRecDepth 20000 in
theorem gX3_back_X3_layFrom : GoodIn wsX3_back (wsV RX3 65 RX3 yX3_layFrom wsX3_layFrom) := goodIn_app (goodIn_of _ (by decide +kernel)) ggX3_back_X3_layFrom
theorem dX3_back_0 : decode cX3_back 0 = .ok (.iload_n 1, 1) := by decide +kernel
theorem dX3_back_1 : decode cX3_back 1 = .ok (.invokestatic 43, 3) := by decide +kernel
theorem dX3_back_4 : decode cX3_back 4 = .ok (.ifCond .ne 5, 3) := by decide +kernel
theorem dX3_back_7 : decode cX3_back 7 = .ok (.iconst (-1), 1) := by decide +kernel
theorem dX3_back_8 : decode cX3_back 8 = .ok (.ireturn, 1) := by decide +kernel
theorem dX3_back_9 : decode cX3_back 9 = .ok (.aload_n 0, 1) := by decide +kernel
theorem dX3_back_10 : decode cX3_back 10 = .ok (.iload_n 1, 1) := by decide +kernel
theorem dX3_back_11 : decode cX3_back 11 = .ok (.invokevirtual 61, 3) := by decide +kernel
theorem dX3_back_14 : decode cX3_back 14 = .ok (.aload_n 0, 1) := by decide +kernel
theorem dX3_back_15 : decode cX3_back 15 = .ok (.getfield 7, 3) := by decide +kernel
theorem dX3_back_18 : decode cX3_back 18 = .ok (.iconst 0, 1) := by decide +kernel
theorem dX3_back_19 : decode cX3_back 19 = .ok (.iload_n 1, 1) := by decide +kernel
theorem dX3_back_20 : decode cX3_back 20 = .ok (.iadd, 1) := by decide +kernel
theorem dX3_back_21 : decode cX3_back 21 = .ok (.iaload, 1) := by decide +kernel
theorem dX3_back_22 : decode cX3_back 22 = .ok (.istore_n 2, 1) := by decide +kernel
theorem dX3_back_23 : decode cX3_back 23 = .ok (.iconst 0, 1) := by decide +kernel
theorem dX3_back_24 : decode cX3_back 24 = .ok (.istore_n 3, 1) := by decide +kernel
theorem dX3_back_25 : decode cX3_back 25 = .ok (.iload_n 3, 1) := by decide +kernel
theorem dX3_back_26 : decode cX3_back 26 = .ok (.iload_n 2, 1) := by decide +kernel
theorem dX3_back_27 : decode cX3_back 27 = .ok (.if_icmp .ge 20, 3) := by decide +kernel
theorem dX3_back_30 : decode cX3_back 30 = .ok (.aload_n 0, 1) := by decide +kernel
theorem dX3_back_31 : decode cX3_back 31 = .ok (.iload_n 1, 1) := by decide +kernel
theorem dX3_back_32 : decode cX3_back 32 = .ok (.iload_n 3, 1) := by decide +kernel
theorem dX3_back_33 : decode cX3_back 33 = .ok (.iload_n 2, 1) := by decide +kernel
theorem dX3_back_34 : decode cX3_back 34 = .ok (.iconst 1, 1) := by decide +kernel
theorem dX3_back_35 : decode cX3_back 35 = .ok (.isub, 1) := by decide +kernel
theorem dX3_back_36 : decode cX3_back 36 = .ok (.iload_n 3, 1) := by decide +kernel
theorem dX3_back_37 : decode cX3_back 37 = .ok (.isub, 1) := by decide +kernel
theorem dX3_back_38 : decode cX3_back 38 = .ok (.invokevirtual 65, 3) := by decide +kernel
theorem dX3_back_41 : decode cX3_back 41 = .ok (.iinc 3 1, 3) := by decide +kernel
theorem dX3_back_44 : decode cX3_back 44 = .ok (.goto (-19), 3) := by decide +kernel
theorem dX3_back_47 : decode cX3_back 47 = .ok (.iload_n 2, 1) := by decide +kernel
theorem dX3_back_48 : decode cX3_back 48 = .ok (.ireturn, 1) := by decide +kernel
set_option maxRecDepth 20000 in
theorem ggX3_begin_X3_isLayer : GoodIn wsX3_begin wsX3_isLayer := goodIn_r _ [5, 6, 7, 4, 8] (by decide +kernel) (by decide +kernel)
set_option maxRecDepth 20000 in
theorem gX3_begin_X3_isLayer : GoodIn wsX3_begin (va_wsS RX3 43 yX3_isLayer wsX3_isLayer) := goodIn_app (goodIn_of _ (by decide +kernel)) ggX3_begin_X3_isLayer
set_option maxRecDepth 20000 in
theorem ggX3_begin_X3_isPoint : GoodIn wsX3_begin wsX3_isPoint := goodIn_r _ [12, 1, 6, 7, 4, 8, 26, 27, 28, 29, 30, 31, 32, 33, 34, 35, 36] (by decide +kernel) (by decide +kernel)
set_option maxRecDepth 20000 in
theorem gX3_begin_X3_isPoint : GoodIn wsX3_begin (wsV RX3 55 RX3 yX3_isPoint wsX3_isPoint) := goodIn_app (goodIn_of _ (by decide +kernel)) ggX3_begin_X3_isPoint
set_option maxRecDepth 20000 in
theorem ggX3_begin_X3_putAside : GoodIn wsX3_begin wsX3_putAside := goodIn_r _ [16, 1, 17, 18, 19, 20, 4, 21, 26, 27, 28, 29, 30, 31, 32, 33, 34, 35, 36] (by decide +kernel) (by decide +kernel)
set_option maxRecDepth 20000 in
theorem gX3_begin_X3_putAside : GoodIn wsX3_begin (wsV RX3 61 RX3 yX3_putAside wsX3_putAside) := goodIn_app (goodIn_of _ (by decide +kernel)) ggX3_begin_X3_putAside
set_option maxRecDepth 20000 in
theorem ggX3_begin_X3_layFrom : GoodIn wsX3_begin wsX3_layFrom := goodIn_r _ [25, 1, 17, 18, 19, 20, 4, 21, 26, 27, 28, 29, 30, 31, 32, 33, 34, 35, 36] (by decide +kernel) (by decide +kernel)
set_option maxRecDepth 20000 in
theorem gX3_begin_X3_layFrom : GoodIn wsX3_begin (wsV RX3 65 RX3 yX3_layFrom wsX3_layFrom) := goodIn_app (goodIn_of _ (by decide +kernel)) ggX3_begin_X3_layFrom
theorem dX3_begin_0 : decode cX3_begin 0 = .ok (.iload_n 1, 1) := by decide +kernel
theorem dX3_begin_1 : decode cX3_begin 1 = .ok (.invokestatic 43, 3) := by decide +kernel
theorem dX3_begin_4 : decode cX3_begin 4 = .ok (.ifCond .eq 12, 3) := by decide +kernel
theorem dX3_begin_7 : decode cX3_begin 7 = .ok (.aload_n 0, 1) := by decide +kernel
theorem dX3_begin_8 : decode cX3_begin 8 = .ok (.iload_n 1, 1) := by decide +kernel
theorem dX3_begin_9 : decode cX3_begin 9 = .ok (.iload_n 2, 1) := by decide +kernel
theorem dX3_begin_10 : decode cX3_begin 10 = .ok (.invokevirtual 55, 3) := by decide +kernel
theorem dX3_begin_13 : decode cX3_begin 13 = .ok (.ifCond .ne 5, 3) := by decide +kernel
theorem dX3_begin_16 : decode cX3_begin 16 = .ok (.iconst (-1), 1) := by decide +kernel
theorem dX3_begin_17 : decode cX3_begin 17 = .ok (.ireturn, 1) := by decide +kernel
theorem dX3_begin_18 : decode cX3_begin 18 = .ok (.aload_n 0, 1) := by decide +kernel
theorem dX3_begin_19 : decode cX3_begin 19 = .ok (.iload_n 1, 1) := by decide +kernel
theorem dX3_begin_20 : decode cX3_begin 20 = .ok (.invokevirtual 61, 3) := by decide +kernel
theorem dX3_begin_23 : decode cX3_begin 23 = .ok (.aload_n 0, 1) := by decide +kernel
theorem dX3_begin_24 : decode cX3_begin 24 = .ok (.getfield 7, 3) := by decide +kernel
theorem dX3_begin_27 : decode cX3_begin 27 = .ok (.iconst 0, 1) := by decide +kernel
theorem dX3_begin_28 : decode cX3_begin 28 = .ok (.iload_n 1, 1) := by decide +kernel
theorem dX3_begin_29 : decode cX3_begin 29 = .ok (.iadd, 1) := by decide +kernel
theorem dX3_begin_30 : decode cX3_begin 30 = .ok (.iaload, 1) := by decide +kernel
theorem dX3_begin_31 : decode cX3_begin 31 = .ok (.istore_n 3, 1) := by decide +kernel
theorem dX3_begin_32 : decode cX3_begin 32 = .ok (.iconst 0, 1) := by decide +kernel
theorem dX3_begin_33 : decode cX3_begin 33 = .ok (.istore 4, 2) := by decide +kernel
theorem dX3_begin_35 : decode cX3_begin 35 = .ok (.iload 4, 2) := by decide +kernel
theorem dX3_begin_37 : decode cX3_begin 37 = .ok (.iload_n 3, 1) := by decide +kernel
theorem dX3_begin_38 : decode cX3_begin 38 = .ok (.if_icmp .ge 22, 3) := by decide +kernel
theorem dX3_begin_41 : decode cX3_begin 41 = .ok (.aload_n 0, 1) := by decide +kernel
theorem dX3_begin_42 : decode cX3_begin 42 = .ok (.iload_n 1, 1) := by decide +kernel
theorem dX3_begin_43 : decode cX3_begin 43 = .ok (.iload 4, 2) := by decide +kernel
theorem dX3_begin_45 : decode cX3_begin 45 = .ok (.iload 4, 2) := by decide +kernel
theorem dX3_begin_47 : decode cX3_begin 47 = .ok (.iload_n 2, 1) := by decide +kernel
theorem dX3_begin_48 : decode cX3_begin 48 = .ok (.iadd, 1) := by decide +kernel
theorem dX3_begin_49 : decode cX3_begin 49 = .ok (.iload_n 3, 1) := by decide +kernel
theorem dX3_begin_50 : decode cX3_begin 50 = .ok (.irem, 1) := by decide +kernel
theorem dX3_begin_51 : decode cX3_begin 51 = .ok (.invokevirtual 65, 3) := by decide +kernel
theorem dX3_begin_54 : decode cX3_begin 54 = .ok (.iinc 4 1, 3) := by decide +kernel
theorem dX3_begin_57 : decode cX3_begin 57 = .ok (.goto (-22), 3) := by decide +kernel
theorem dX3_begin_60 : decode cX3_begin 60 = .ok (.iload_n 3, 1) := by decide +kernel
theorem dX3_begin_61 : decode cX3_begin 61 = .ok (.ireturn, 1) := by decide +kernel
set_option maxRecDepth 20000 in
theorem ggX3_at_X3_isLayer : GoodIn wsX3_at wsX3_isLayer := goodIn_r _ [5, 6, 7, 4, 8] (by decide +kernel) (by decide +kernel)
set_option maxRecDepth 20000 in
theorem gX3_at_X3_isLayer : GoodIn wsX3_at (va_wsS RX3 43 yX3_isLayer wsX3_isLayer) := goodIn_app (goodIn_of _ (by decide +kernel)) ggX3_at_X3_isLayer
set_option maxRecDepth 20000 in
theorem ggX3_at_X3_isPoint : GoodIn wsX3_at wsX3_isPoint := goodIn_r _ [12, 1, 6, 7, 4, 8, 16, 17, 18, 19, 20, 21, 22, 23, 24, 25, 26] (by decide +kernel) (by decide +kernel)
set_option maxRecDepth 20000 in
theorem gX3_at_X3_isPoint : GoodIn wsX3_at (wsV RX3 55 RX3 yX3_isPoint wsX3_isPoint) := goodIn_app (goodIn_of _ (by decide +kernel)) ggX3_at_X3_isPoint
set_option maxRecDepth 20000 in
theorem ggX3_at_X3_place : GoodIn wsX3_at wsX3_place := goodIn_r _ [15] (by decide +kernel) (by decide +kernel)
set_option maxRecDepth 20000 in
theorem gX3_at_X3_place : GoodIn wsX3_at (va_wsS RX3 51 yX3_place wsX3_place) := goodIn_app (goodIn_of _ (by decide +kernel)) ggX3_at_X3_place
theorem dX3_at_0 : decode cX3_at 0 = .ok (.iload_n 1, 1) := by decide +kernel
theorem dX3_at_1 : decode cX3_at 1 = .ok (.invokestatic 43, 3) := by decide +kernel
theorem dX3_at_4 : decode cX3_at 4 = .ok (.ifCond .eq 12, 3) := by decide +kernel
theorem dX3_at_7 : decode cX3_at 7 = .ok (.aload_n 0, 1) := by decide +kernel
theorem dX3_at_8 : decode cX3_at 8 = .ok (.iload_n 1, 1) := by decide +kernel
theorem dX3_at_9 : decode cX3_at 9 = .ok (.iload_n 2, 1) := by decide +kernel
theorem dX3_at_10 : decode cX3_at 10 = .ok (.invokevirtual 55, 3) := by decide +kernel
theorem dX3_at_13 : decode cX3_at 13 = .ok (.ifCond .ne 5, 3) := by decide +kernel
theorem dX3_at_16 : decode cX3_at 16 = .ok (.iconst (-1), 1) := by decide +kernel
theorem dX3_at_17 : decode cX3_at 17 = .ok (.ireturn, 1) := by decide +kernel
theorem dX3_at_18 : decode cX3_at 18 = .ok (.iload_n 3, 1) := by decide +kernel
theorem dX3_at_19 : decode cX3_at 19 = .ok (.ifCond .ne 19, 3) := by decide +kernel
theorem dX3_at_22 : decode cX3_at 22 = .ok (.aload_n 0, 1) := by decide +kernel
theorem dX3_at_23 : decode cX3_at 23 = .ok (.getfield 7, 3) := by decide +kernel
theorem dX3_at_26 : decode cX3_at 26 = .ok (.bipush 6, 2) := by decide +kernel
theorem dX3_at_28 : decode cX3_at 28 = .ok (.iload_n 1, 1) := by decide +kernel
theorem dX3_at_29 : decode cX3_at 29 = .ok (.iload_n 2, 1) := by decide +kernel
theorem dX3_at_30 : decode cX3_at 30 = .ok (.invokestatic 51, 3) := by decide +kernel
theorem dX3_at_33 : decode cX3_at 33 = .ok (.iadd, 1) := by decide +kernel
theorem dX3_at_34 : decode cX3_at 34 = .ok (.iaload, 1) := by decide +kernel
theorem dX3_at_35 : decode cX3_at 35 = .ok (.goto 26, 3) := by decide +kernel
theorem dX3_at_38 : decode cX3_at 38 = .ok (.iload_n 3, 1) := by decide +kernel
theorem dX3_at_39 : decode cX3_at 39 = .ok (.iconst 1, 1) := by decide +kernel
theorem dX3_at_40 : decode cX3_at 40 = .ok (.if_icmp .ne 19, 3) := by decide +kernel
theorem dX3_at_43 : decode cX3_at 43 = .ok (.aload_n 0, 1) := by decide +kernel
theorem dX3_at_44 : decode cX3_at 44 = .ok (.getfield 7, 3) := by decide +kernel
theorem dX3_at_47 : decode cX3_at 47 = .ok (.bipush 30, 2) := by decide +kernel
theorem dX3_at_49 : decode cX3_at 49 = .ok (.iload_n 1, 1) := by decide +kernel
theorem dX3_at_50 : decode cX3_at 50 = .ok (.iload_n 2, 1) := by decide +kernel
theorem dX3_at_51 : decode cX3_at 51 = .ok (.invokestatic 51, 3) := by decide +kernel
theorem dX3_at_54 : decode cX3_at 54 = .ok (.iadd, 1) := by decide +kernel
theorem dX3_at_55 : decode cX3_at 55 = .ok (.iaload, 1) := by decide +kernel
theorem dX3_at_56 : decode cX3_at 56 = .ok (.goto 5, 3) := by decide +kernel
theorem dX3_at_59 : decode cX3_at 59 = .ok (.bipush (-2), 2) := by decide +kernel
theorem dX3_at_61 : decode cX3_at 61 = .ok (.ireturn, 1) := by decide +kernel
set_option maxRecDepth 20000 in
theorem ggX3_layPath_X3_place : GoodIn wsX3_layPath wsX3_place := goodIn_r _ [9] (by decide +kernel) (by decide +kernel)
set_option maxRecDepth 20000 in
theorem gX3_layPath_X3_place : GoodIn wsX3_layPath (va_wsS RX3 51 yX3_place wsX3_place) := goodIn_app (goodIn_of _ (by decide +kernel)) ggX3_layPath_X3_place
theorem dX3_layPath_0 : decode cX3_layPath 0 = .ok (.aload_n 0, 1) := by decide +kernel
theorem dX3_layPath_1 : decode cX3_layPath 1 = .ok (.aload_n 0, 1) := by decide +kernel
theorem dX3_layPath_2 : decode cX3_layPath 2 = .ok (.getfield 7, 3) := by decide +kernel
theorem dX3_layPath_5 : decode cX3_layPath 5 = .ok (.iconst 0, 1) := by decide +kernel
theorem dX3_layPath_6 : decode cX3_layPath 6 = .ok (.iload_n 1, 1) := by decide +kernel
end
section
theorem dX3_layPath_7 : decode cX3_layPath 7 = .ok (.iadd, 1) := by decide +kernel
theorem dX3_layPath_8 : decode cX3_layPath 8 = .ok (.iaload, 1) := by decide +kernel
theorem dX3_layPath_9 : decode cX3_layPath 9 = .ok (.putfield 69, 3) := by decide +kernel
theorem dX3_layPath_12 : decode cX3_layPath 12 = .ok (.iconst 0, 1) := by decide +kernel
theorem dX3_layPath_13 : decode cX3_layPath 13 = .ok (.istore 4, 2) := by decide +kernel
theorem dX3_layPath_15 : decode cX3_layPath 15 = .ok (.iload 4, 2) := by decide +kernel
theorem dX3_layPath_17 : decode cX3_layPath 17 = .ok (.aload_n 0, 1) := by decide +kernel
theorem dX3_layPath_18 : decode cX3_layPath 18 = .ok (.getfield 69, 3) := by decide +kernel
theorem dX3_layPath_21 : decode cX3_layPath 21 = .ok (.if_icmp .ge 65, 3) := by decide +kernel
theorem dX3_layPath_24 : decode cX3_layPath 24 = .ok (.aload_n 0, 1) := by decide +kernel
theorem dX3_layPath_25 : decode cX3_layPath 25 = .ok (.getfield 26, 3) := by decide +kernel
theorem dX3_layPath_28 : decode cX3_layPath 28 = .ok (.iload 4, 2) := by decide +kernel
theorem dX3_layPath_30 : decode cX3_layPath 30 = .ok (.ldc2_w 73, 3) := by decide +kernel
theorem dX3_layPath_33 : decode cX3_layPath 33 = .ok (.aload_n 0, 1) := by decide +kernel
theorem dX3_layPath_34 : decode cX3_layPath 34 = .ok (.getfield 7, 3) := by decide +kernel
theorem dX3_layPath_37 : decode cX3_layPath 37 = .ok (.bipush 6, 2) := by decide +kernel
theorem dX3_layPath_39 : decode cX3_layPath 39 = .ok (.iload_n 1, 1) := by decide +kernel
theorem dX3_layPath_40 : decode cX3_layPath 40 = .ok (.iload 4, 2) := by decide +kernel
theorem dX3_layPath_42 : decode cX3_layPath 42 = .ok (.invokestatic 51, 3) := by decide +kernel
theorem dX3_layPath_45 : decode cX3_layPath 45 = .ok (.iadd, 1) := by decide +kernel
theorem dX3_layPath_46 : decode cX3_layPath 46 = .ok (.iaload, 1) := by decide +kernel
theorem dX3_layPath_47 : decode cX3_layPath 47 = .ok (.iload_n 2, 1) := by decide +kernel
theorem dX3_layPath_48 : decode cX3_layPath 48 = .ok (.iadd, 1) := by decide +kernel
theorem dX3_layPath_49 : decode cX3_layPath 49 = .ok (.i2l, 1) := by decide +kernel
theorem dX3_layPath_50 : decode cX3_layPath 50 = .ok (.lmul, 1) := by decide +kernel
theorem dX3_layPath_51 : decode cX3_layPath 51 = .ok (.lastore, 1) := by decide +kernel
theorem dX3_layPath_52 : decode cX3_layPath 52 = .ok (.aload_n 0, 1) := by decide +kernel
theorem dX3_layPath_53 : decode cX3_layPath 53 = .ok (.getfield 30, 3) := by decide +kernel
theorem dX3_layPath_56 : decode cX3_layPath 56 = .ok (.iload 4, 2) := by decide +kernel
theorem dX3_layPath_58 : decode cX3_layPath 58 = .ok (.ldc2_w 73, 3) := by decide +kernel
theorem dX3_layPath_61 : decode cX3_layPath 61 = .ok (.aload_n 0, 1) := by decide +kernel
theorem dX3_layPath_62 : decode cX3_layPath 62 = .ok (.getfield 7, 3) := by decide +kernel
theorem dX3_layPath_65 : decode cX3_layPath 65 = .ok (.bipush 30, 2) := by decide +kernel
theorem dX3_layPath_67 : decode cX3_layPath 67 = .ok (.iload_n 1, 1) := by decide +kernel
theorem dX3_layPath_68 : decode cX3_layPath 68 = .ok (.iload 4, 2) := by decide +kernel
theorem dX3_layPath_70 : decode cX3_layPath 70 = .ok (.invokestatic 51, 3) := by decide +kernel
theorem dX3_layPath_73 : decode cX3_layPath 73 = .ok (.iadd, 1) := by decide +kernel
theorem dX3_layPath_74 : decode cX3_layPath 74 = .ok (.iaload, 1) := by decide +kernel
theorem dX3_layPath_75 : decode cX3_layPath 75 = .ok (.iload_n 3, 1) := by decide +kernel
theorem dX3_layPath_76 : decode cX3_layPath 76 = .ok (.iadd, 1) := by decide +kernel
theorem dX3_layPath_77 : decode cX3_layPath 77 = .ok (.i2l, 1) := by decide +kernel
theorem dX3_layPath_78 : decode cX3_layPath 78 = .ok (.lmul, 1) := by decide +kernel
theorem dX3_layPath_79 : decode cX3_layPath 79 = .ok (.lastore, 1) := by decide +kernel
theorem dX3_layPath_80 : decode cX3_layPath 80 = .ok (.iinc 4 1, 3) := by decide +kernel
theorem dX3_layPath_83 : decode cX3_layPath 83 = .ok (.goto (-68), 3) := by decide +kernel
theorem dX3_layPath_86 : decode cX3_layPath 86 = .ok (.return_, 1) := by decide +kernel
theorem dX3_leave_0 : decode cX3_leave 0 = .ok (.aload_n 0, 1) := by decide +kernel
theorem dX3_leave_1 : decode cX3_leave 1 = .ok (.getfield 33, 3) := by decide +kernel
theorem dX3_leave_4 : decode cX3_leave 4 = .ok (.aload_n 0, 1) := by decide +kernel
theorem dX3_leave_5 : decode cX3_leave 5 = .ok (.getfield 75, 3) := by decide +kernel
theorem dX3_leave_8 : decode cX3_leave 8 = .ok (.lload_n 1, 1) := by decide +kernel
theorem dX3_leave_9 : decode cX3_leave 9 = .ok (.lastore, 1) := by decide +kernel
theorem dX3_leave_10 : decode cX3_leave 10 = .ok (.aload_n 0, 1) := by decide +kernel
theorem dX3_leave_11 : decode cX3_leave 11 = .ok (.getfield 36, 3) := by decide +kernel
theorem dX3_leave_14 : decode cX3_leave 14 = .ok (.aload_n 0, 1) := by decide +kernel
theorem dX3_leave_15 : decode cX3_leave 15 = .ok (.getfield 75, 3) := by decide +kernel
theorem dX3_leave_18 : decode cX3_leave 18 = .ok (.lload_n 3, 1) := by decide +kernel
theorem dX3_leave_19 : decode cX3_leave 19 = .ok (.lastore, 1) := by decide +kernel
theorem dX3_leave_20 : decode cX3_leave 20 = .ok (.aload_n 0, 1) := by decide +kernel
theorem dX3_leave_21 : decode cX3_leave 21 = .ok (.dup, 1) := by decide +kernel
theorem dX3_leave_22 : decode cX3_leave 22 = .ok (.getfield 75, 3) := by decide +kernel
theorem dX3_leave_25 : decode cX3_leave 25 = .ok (.iconst 1, 1) := by decide +kernel
theorem dX3_leave_26 : decode cX3_leave 26 = .ok (.iadd, 1) := by decide +kernel
theorem dX3_leave_27 : decode cX3_leave 27 = .ok (.putfield 75, 3) := by decide +kernel
theorem dX3_leave_30 : decode cX3_leave 30 = .ok (.return_, 1) := by decide +kernel
theorem dX3_within_0 : decode cX3_within 0 = .ok (.iload_n 2, 1) := by decide +kernel
theorem dX3_within_1 : decode cX3_within 1 = .ok (.tableswitch 54 0 2 #[27, 36, 45], 27) := by decide +kernel
theorem dX3_within_28 : decode cX3_within 28 = .ok (.aload_n 0, 1) := by decide +kernel
theorem dX3_within_29 : decode cX3_within 29 = .ok (.getfield 26, 3) := by decide +kernel
theorem dX3_within_32 : decode cX3_within 32 = .ok (.iload_n 1, 1) := by decide +kernel
theorem dX3_within_33 : decode cX3_within 33 = .ok (.laload, 1) := by decide +kernel
theorem dX3_within_34 : decode cX3_within 34 = .ok (.lload_n 3, 1) := by decide +kernel
theorem dX3_within_35 : decode cX3_within 35 = .ok (.lsub, 1) := by decide +kernel
theorem dX3_within_36 : decode cX3_within 36 = .ok (.lreturn, 1) := by decide +kernel
theorem dX3_within_37 : decode cX3_within 37 = .ok (.lload_n 3, 1) := by decide +kernel
theorem dX3_within_38 : decode cX3_within 38 = .ok (.aload_n 0, 1) := by decide +kernel
theorem dX3_within_39 : decode cX3_within 39 = .ok (.getfield 26, 3) := by decide +kernel
theorem dX3_within_42 : decode cX3_within 42 = .ok (.iload_n 1, 1) := by decide +kernel
theorem dX3_within_43 : decode cX3_within 43 = .ok (.laload, 1) := by decide +kernel
theorem dX3_within_44 : decode cX3_within 44 = .ok (.lsub, 1) := by decide +kernel
theorem dX3_within_45 : decode cX3_within 45 = .ok (.lreturn, 1) := by decide +kernel
theorem dX3_within_46 : decode cX3_within 46 = .ok (.aload_n 0, 1) := by decide +kernel
theorem dX3_within_47 : decode cX3_within 47 = .ok (.getfield 30, 3) := by decide +kernel
theorem dX3_within_50 : decode cX3_within 50 = .ok (.iload_n 1, 1) := by decide +kernel
theorem dX3_within_51 : decode cX3_within 51 = .ok (.laload, 1) := by decide +kernel
theorem dX3_within_52 : decode cX3_within 52 = .ok (.lload_n 3, 1) := by decide +kernel
theorem dX3_within_53 : decode cX3_within 53 = .ok (.lsub, 1) := by decide +kernel
theorem dX3_within_54 : decode cX3_within 54 = .ok (.lreturn, 1) := by decide +kernel
theorem dX3_within_55 : decode cX3_within 55 = .ok (.lload_n 3, 1) := by decide +kernel
theorem dX3_within_56 : decode cX3_within 56 = .ok (.aload_n 0, 1) := by decide +kernel
theorem dX3_within_57 : decode cX3_within 57 = .ok (.getfield 30, 3) := by decide +kernel
theorem dX3_within_60 : decode cX3_within 60 = .ok (.iload_n 1, 1) := by decide +kernel
theorem dX3_within_61 : decode cX3_within 61 = .ok (.laload, 1) := by decide +kernel
theorem dX3_within_62 : decode cX3_within 62 = .ok (.lsub, 1) := by decide +kernel
theorem dX3_within_63 : decode cX3_within 63 = .ok (.lreturn, 1) := by decide +kernel
set_option maxRecDepth 20000 in
theorem ggX3_leaveCrossing_X3_leave : GoodIn wsX3_leaveCrossing wsX3_leave := goodIn_r _ [7, 8, 9, 10, 11, 12, 13, 14, 15, 16, 17, 18, 19, 20, 21] (by decide +kernel) (by decide +kernel)
set_option maxRecDepth 20000 in
theorem gX3_leaveCrossing_X3_leave : GoodIn wsX3_leaveCrossing (wsV RX3 78 RX3 yX3_leave wsX3_leave) := goodIn_app (goodIn_of _ (by decide +kernel)) ggX3_leaveCrossing_X3_leave
theorem dX3_leaveCrossing_0 : decode cX3_leaveCrossing 0 = .ok (.iload_n 3, 1) := by decide +kernel
theorem dX3_leaveCrossing_1 : decode cX3_leaveCrossing 1 = .ok (.iconst 2, 1) := by decide +kernel
theorem dX3_leaveCrossing_2 : decode cX3_leaveCrossing 2 = .ok (.if_icmp .ge 56, 3) := by decide +kernel
theorem dX3_leaveCrossing_5 : decode cX3_leaveCrossing 5 = .ok (.aload_n 0, 1) := by decide +kernel
theorem dX3_leaveCrossing_6 : decode cX3_leaveCrossing 6 = .ok (.lload 4, 2) := by decide +kernel
theorem dX3_leaveCrossing_8 : decode cX3_leaveCrossing 8 = .ok (.aload_n 0, 1) := by decide +kernel
theorem dX3_leaveCrossing_9 : decode cX3_leaveCrossing 9 = .ok (.getfield 30, 3) := by decide +kernel
theorem dX3_leaveCrossing_12 : decode cX3_leaveCrossing 12 = .ok (.iload_n 1, 1) := by decide +kernel
theorem dX3_leaveCrossing_13 : decode cX3_leaveCrossing 13 = .ok (.laload, 1) := by decide +kernel
theorem dX3_leaveCrossing_14 : decode cX3_leaveCrossing 14 = .ok (.lload 4, 2) := by decide +kernel
theorem dX3_leaveCrossing_16 : decode cX3_leaveCrossing 16 = .ok (.aload_n 0, 1) := by decide +kernel
theorem dX3_leaveCrossing_17 : decode cX3_leaveCrossing 17 = .ok (.getfield 26, 3) := by decide +kernel
theorem dX3_leaveCrossing_20 : decode cX3_leaveCrossing 20 = .ok (.iload_n 1, 1) := by decide +kernel
theorem dX3_leaveCrossing_21 : decode cX3_leaveCrossing 21 = .ok (.laload, 1) := by decide +kernel
theorem dX3_leaveCrossing_22 : decode cX3_leaveCrossing 22 = .ok (.lsub, 1) := by decide +kernel
theorem dX3_leaveCrossing_23 : decode cX3_leaveCrossing 23 = .ok (.aload_n 0, 1) := by decide +kernel
theorem dX3_leaveCrossing_24 : decode cX3_leaveCrossing 24 = .ok (.getfield 30, 3) := by decide +kernel
theorem dX3_leaveCrossing_27 : decode cX3_leaveCrossing 27 = .ok (.iload_n 2, 1) := by decide +kernel
theorem dX3_leaveCrossing_28 : decode cX3_leaveCrossing 28 = .ok (.laload, 1) := by decide +kernel
theorem dX3_leaveCrossing_29 : decode cX3_leaveCrossing 29 = .ok (.aload_n 0, 1) := by decide +kernel
theorem dX3_leaveCrossing_30 : decode cX3_leaveCrossing 30 = .ok (.getfield 30, 3) := by decide +kernel
theorem dX3_leaveCrossing_33 : decode cX3_leaveCrossing 33 = .ok (.iload_n 1, 1) := by decide +kernel
theorem dX3_leaveCrossing_34 : decode cX3_leaveCrossing 34 = .ok (.laload, 1) := by decide +kernel
theorem dX3_leaveCrossing_35 : decode cX3_leaveCrossing 35 = .ok (.lsub, 1) := by decide +kernel
theorem dX3_leaveCrossing_36 : decode cX3_leaveCrossing 36 = .ok (.lmul, 1) := by decide +kernel
theorem dX3_leaveCrossing_37 : decode cX3_leaveCrossing 37 = .ok (.aload_n 0, 1) := by decide +kernel
theorem dX3_leaveCrossing_38 : decode cX3_leaveCrossing 38 = .ok (.getfield 26, 3) := by decide +kernel
theorem dX3_leaveCrossing_41 : decode cX3_leaveCrossing 41 = .ok (.iload_n 2, 1) := by decide +kernel
theorem dX3_leaveCrossing_42 : decode cX3_leaveCrossing 42 = .ok (.laload, 1) := by decide +kernel
theorem dX3_leaveCrossing_43 : decode cX3_leaveCrossing 43 = .ok (.aload_n 0, 1) := by decide +kernel
theorem dX3_leaveCrossing_44 : decode cX3_leaveCrossing 44 = .ok (.getfield 26, 3) := by decide +kernel
theorem dX3_leaveCrossing_47 : decode cX3_leaveCrossing 47 = .ok (.iload_n 1, 1) := by decide +kernel
theorem dX3_leaveCrossing_48 : decode cX3_leaveCrossing 48 = .ok (.laload, 1) := by decide +kernel
theorem dX3_leaveCrossing_49 : decode cX3_leaveCrossing 49 = .ok (.lsub, 1) := by decide +kernel
theorem dX3_leaveCrossing_50 : decode cX3_leaveCrossing 50 = .ok (.ldiv, 1) := by decide +kernel
theorem dX3_leaveCrossing_51 : decode cX3_leaveCrossing 51 = .ok (.ladd, 1) := by decide +kernel
theorem dX3_leaveCrossing_52 : decode cX3_leaveCrossing 52 = .ok (.invokevirtual 78, 3) := by decide +kernel
theorem dX3_leaveCrossing_55 : decode cX3_leaveCrossing 55 = .ok (.goto 53, 3) := by decide +kernel
theorem dX3_leaveCrossing_58 : decode cX3_leaveCrossing 58 = .ok (.aload_n 0, 1) := by decide +kernel
theorem dX3_leaveCrossing_59 : decode cX3_leaveCrossing 59 = .ok (.aload_n 0, 1) := by decide +kernel
theorem dX3_leaveCrossing_60 : decode cX3_leaveCrossing 60 = .ok (.getfield 26, 3) := by decide +kernel
theorem dX3_leaveCrossing_63 : decode cX3_leaveCrossing 63 = .ok (.iload_n 1, 1) := by decide +kernel
theorem dX3_leaveCrossing_64 : decode cX3_leaveCrossing 64 = .ok (.laload, 1) := by decide +kernel
theorem dX3_leaveCrossing_65 : decode cX3_leaveCrossing 65 = .ok (.lload 4, 2) := by decide +kernel
theorem dX3_leaveCrossing_67 : decode cX3_leaveCrossing 67 = .ok (.aload_n 0, 1) := by decide +kernel
theorem dX3_leaveCrossing_68 : decode cX3_leaveCrossing 68 = .ok (.getfield 30, 3) := by decide +kernel
theorem dX3_leaveCrossing_71 : decode cX3_leaveCrossing 71 = .ok (.iload_n 1, 1) := by decide +kernel
theorem dX3_leaveCrossing_72 : decode cX3_leaveCrossing 72 = .ok (.laload, 1) := by decide +kernel
theorem dX3_leaveCrossing_73 : decode cX3_leaveCrossing 73 = .ok (.lsub, 1) := by decide +kernel
theorem dX3_leaveCrossing_74 : decode cX3_leaveCrossing 74 = .ok (.aload_n 0, 1) := by decide +kernel
theorem dX3_leaveCrossing_75 : decode cX3_leaveCrossing 75 = .ok (.getfield 26, 3) := by decide +kernel
theorem dX3_leaveCrossing_78 : decode cX3_leaveCrossing 78 = .ok (.iload_n 2, 1) := by decide +kernel
theorem dX3_leaveCrossing_79 : decode cX3_leaveCrossing 79 = .ok (.laload, 1) := by decide +kernel
theorem dX3_leaveCrossing_80 : decode cX3_leaveCrossing 80 = .ok (.aload_n 0, 1) := by decide +kernel
theorem dX3_leaveCrossing_81 : decode cX3_leaveCrossing 81 = .ok (.getfield 26, 3) := by decide +kernel
theorem dX3_leaveCrossing_84 : decode cX3_leaveCrossing 84 = .ok (.iload_n 1, 1) := by decide +kernel
theorem dX3_leaveCrossing_85 : decode cX3_leaveCrossing 85 = .ok (.laload, 1) := by decide +kernel
theorem dX3_leaveCrossing_86 : decode cX3_leaveCrossing 86 = .ok (.lsub, 1) := by decide +kernel
theorem dX3_leaveCrossing_87 : decode cX3_leaveCrossing 87 = .ok (.lmul, 1) := by decide +kernel
theorem dX3_leaveCrossing_88 : decode cX3_leaveCrossing 88 = .ok (.aload_n 0, 1) := by decide +kernel
theorem dX3_leaveCrossing_89 : decode cX3_leaveCrossing 89 = .ok (.getfield 30, 3) := by decide +kernel
theorem dX3_leaveCrossing_92 : decode cX3_leaveCrossing 92 = .ok (.iload_n 2, 1) := by decide +kernel
theorem dX3_leaveCrossing_93 : decode cX3_leaveCrossing 93 = .ok (.laload, 1) := by decide +kernel
theorem dX3_leaveCrossing_94 : decode cX3_leaveCrossing 94 = .ok (.aload_n 0, 1) := by decide +kernel
theorem dX3_leaveCrossing_95 : decode cX3_leaveCrossing 95 = .ok (.getfield 30, 3) := by decide +kernel
theorem dX3_leaveCrossing_98 : decode cX3_leaveCrossing 98 = .ok (.iload_n 1, 1) := by decide +kernel
theorem dX3_leaveCrossing_99 : decode cX3_leaveCrossing 99 = .ok (.laload, 1) := by decide +kernel
theorem dX3_leaveCrossing_100 : decode cX3_leaveCrossing 100 = .ok (.lsub, 1) := by decide +kernel
theorem dX3_leaveCrossing_101 : decode cX3_leaveCrossing 101 = .ok (.ldiv, 1) := by decide +kernel
theorem dX3_leaveCrossing_102 : decode cX3_leaveCrossing 102 = .ok (.ladd, 1) := by decide +kernel
theorem dX3_leaveCrossing_103 : decode cX3_leaveCrossing 103 = .ok (.lload 4, 2) := by decide +kernel
theorem dX3_leaveCrossing_105 : decode cX3_leaveCrossing 105 = .ok (.invokevirtual 78, 3) := by decide +kernel
theorem dX3_leaveCrossing_108 : decode cX3_leaveCrossing 108 = .ok (.return_, 1) := by decide +kernel
set_option maxRecDepth 20000 in
theorem ggX3_cutSide_X3_within : GoodIn wsX3_cutSide wsX3_within := goodIn_r _ [11, 3, 4, 20, 21, 22, 23, 24, 25, 26, 27, 28, 29, 30] (by decide +kernel) (by decide +kernel)
set_option maxRecDepth 20000 in
theorem gX3_cutSide_X3_within : GoodIn wsX3_cutSide (wsV RX3 82 RX3 yX3_within wsX3_within) := goodIn_app (goodIn_of _ (by decide +kernel)) ggX3_cutSide_X3_within
set_option maxRecDepth 20000 in
theorem ggX3_cutSide_X3_leave : GoodIn wsX3_cutSide wsX3_leave := goodIn_r _ [15, 5, 1, 6, 20, 21, 22, 23, 24, 25, 26, 27, 28, 29, 30] (by decide +kernel) (by decide +kernel)
set_option maxRecDepth 20000 in
theorem gX3_cutSide_X3_leave : GoodIn wsX3_cutSide (wsV RX3 78 RX3 yX3_leave wsX3_leave) := goodIn_app (goodIn_of _ (by decide +kernel)) ggX3_cutSide_X3_leave
set_option maxRecDepth 20000 in
theorem ggX3_cutSide_X3_leaveCrossing : GoodIn wsX3_cutSide wsX3_leaveCrossing := goodIn_r _ [19, 4, 3, 12, 13, 14, 10, 15, 5, 1, 6, 20, 21, 22, 23, 24, 25, 26, 27, 28, 29, 30] (by decide +kernel) (by decide +kernel)
set_option maxRecDepth 20000 in
theorem gX3_cutSide_X3_leaveCrossing : GoodIn wsX3_cutSide (wsV RX3 86 RX3 yX3_leaveCrossing wsX3_leaveCrossing) := goodIn_app (goodIn_of _ (by decide +kernel)) ggX3_cutSide_X3_leaveCrossing
theorem dX3_cutSide_0 : decode cX3_cutSide 0 = .ok (.aload_n 0, 1) := by decide +kernel
theorem dX3_cutSide_1 : decode cX3_cutSide 1 = .ok (.iconst 0, 1) := by decide +kernel
theorem dX3_cutSide_2 : decode cX3_cutSide 2 = .ok (.putfield 75, 3) := by decide +kernel
theorem dX3_cutSide_5 : decode cX3_cutSide 5 = .ok (.iconst 0, 1) := by decide +kernel
theorem dX3_cutSide_6 : decode cX3_cutSide 6 = .ok (.istore 4, 2) := by decide +kernel
theorem dX3_cutSide_8 : decode cX3_cutSide 8 = .ok (.iload 4, 2) := by decide +kernel
theorem dX3_cutSide_10 : decode cX3_cutSide 10 = .ok (.aload_n 0, 1) := by decide +kernel
theorem dX3_cutSide_11 : decode cX3_cutSide 11 = .ok (.getfield 69, 3) := by decide +kernel
theorem dX3_cutSide_14 : decode cX3_cutSide 14 = .ok (.if_icmp .ge 103, 3) := by decide +kernel
theorem dX3_cutSide_17 : decode cX3_cutSide 17 = .ok (.iload 4, 2) := by decide +kernel
theorem dX3_cutSide_19 : decode cX3_cutSide 19 = .ok (.iconst 1, 1) := by decide +kernel
theorem dX3_cutSide_20 : decode cX3_cutSide 20 = .ok (.iadd, 1) := by decide +kernel
theorem dX3_cutSide_21 : decode cX3_cutSide 21 = .ok (.aload_n 0, 1) := by decide +kernel
theorem dX3_cutSide_22 : decode cX3_cutSide 22 = .ok (.getfield 69, 3) := by decide +kernel
theorem dX3_cutSide_25 : decode cX3_cutSide 25 = .ok (.irem, 1) := by decide +kernel
theorem dX3_cutSide_26 : decode cX3_cutSide 26 = .ok (.istore 5, 2) := by decide +kernel
theorem dX3_cutSide_28 : decode cX3_cutSide 28 = .ok (.aload_n 0, 1) := by decide +kernel
theorem dX3_cutSide_29 : decode cX3_cutSide 29 = .ok (.iload 4, 2) := by decide +kernel
theorem dX3_cutSide_31 : decode cX3_cutSide 31 = .ok (.iload_n 1, 1) := by decide +kernel
theorem dX3_cutSide_32 : decode cX3_cutSide 32 = .ok (.lload_n 2, 1) := by decide +kernel
theorem dX3_cutSide_33 : decode cX3_cutSide 33 = .ok (.invokevirtual 82, 3) := by decide +kernel
theorem dX3_cutSide_36 : decode cX3_cutSide 36 = .ok (.lstore 6, 2) := by decide +kernel
theorem dX3_cutSide_38 : decode cX3_cutSide 38 = .ok (.aload_n 0, 1) := by decide +kernel
theorem dX3_cutSide_39 : decode cX3_cutSide 39 = .ok (.iload 5, 2) := by decide +kernel
theorem dX3_cutSide_41 : decode cX3_cutSide 41 = .ok (.iload_n 1, 1) := by decide +kernel
theorem dX3_cutSide_42 : decode cX3_cutSide 42 = .ok (.lload_n 2, 1) := by decide +kernel
theorem dX3_cutSide_43 : decode cX3_cutSide 43 = .ok (.invokevirtual 82, 3) := by decide +kernel
theorem dX3_cutSide_46 : decode cX3_cutSide 46 = .ok (.lstore 8, 2) := by decide +kernel
theorem dX3_cutSide_48 : decode cX3_cutSide 48 = .ok (.lload 6, 2) := by decide +kernel
theorem dX3_cutSide_50 : decode cX3_cutSide 50 = .ok (.lconst 0, 1) := by decide +kernel
theorem dX3_cutSide_51 : decode cX3_cutSide 51 = .ok (.lcmp, 1) := by decide +kernel
theorem dX3_cutSide_52 : decode cX3_cutSide 52 = .ok (.ifCond .lt 21, 3) := by decide +kernel
theorem dX3_cutSide_55 : decode cX3_cutSide 55 = .ok (.aload_n 0, 1) := by decide +kernel
theorem dX3_cutSide_56 : decode cX3_cutSide 56 = .ok (.aload_n 0, 1) := by decide +kernel
theorem dX3_cutSide_57 : decode cX3_cutSide 57 = .ok (.getfield 26, 3) := by decide +kernel
theorem dX3_cutSide_60 : decode cX3_cutSide 60 = .ok (.iload 4, 2) := by decide +kernel
theorem dX3_cutSide_62 : decode cX3_cutSide 62 = .ok (.laload, 1) := by decide +kernel
theorem dX3_cutSide_63 : decode cX3_cutSide 63 = .ok (.aload_n 0, 1) := by decide +kernel
theorem dX3_cutSide_64 : decode cX3_cutSide 64 = .ok (.getfield 30, 3) := by decide +kernel
theorem dX3_cutSide_67 : decode cX3_cutSide 67 = .ok (.iload 4, 2) := by decide +kernel
theorem dX3_cutSide_69 : decode cX3_cutSide 69 = .ok (.laload, 1) := by decide +kernel
theorem dX3_cutSide_70 : decode cX3_cutSide 70 = .ok (.invokevirtual 78, 3) := by decide +kernel
theorem dX3_cutSide_73 : decode cX3_cutSide 73 = .ok (.lload 6, 2) := by decide +kernel
theorem dX3_cutSide_75 : decode cX3_cutSide 75 = .ok (.lconst 0, 1) := by decide +kernel
theorem dX3_cutSide_76 : decode cX3_cutSide 76 = .ok (.lcmp, 1) := by decide +kernel
theorem dX3_cutSide_77 : decode cX3_cutSide 77 = .ok (.ifCond .ge 10, 3) := by decide +kernel
theorem dX3_cutSide_80 : decode cX3_cutSide 80 = .ok (.lload 8, 2) := by decide +kernel
theorem dX3_cutSide_82 : decode cX3_cutSide 82 = .ok (.lconst 0, 1) := by decide +kernel
theorem dX3_cutSide_83 : decode cX3_cutSide 83 = .ok (.lcmp, 1) := by decide +kernel
theorem dX3_cutSide_84 : decode cX3_cutSide 84 = .ok (.ifCond .gt 17, 3) := by decide +kernel
theorem dX3_cutSide_87 : decode cX3_cutSide 87 = .ok (.lload 6, 2) := by decide +kernel
theorem dX3_cutSide_89 : decode cX3_cutSide 89 = .ok (.lconst 0, 1) := by decide +kernel
theorem dX3_cutSide_90 : decode cX3_cutSide 90 = .ok (.lcmp, 1) := by decide +kernel
theorem dX3_cutSide_91 : decode cX3_cutSide 91 = .ok (.ifCond .le 20, 3) := by decide +kernel
theorem dX3_cutSide_94 : decode cX3_cutSide 94 = .ok (.lload 8, 2) := by decide +kernel
theorem dX3_cutSide_96 : decode cX3_cutSide 96 = .ok (.lconst 0, 1) := by decide +kernel
theorem dX3_cutSide_97 : decode cX3_cutSide 97 = .ok (.lcmp, 1) := by decide +kernel
theorem dX3_cutSide_98 : decode cX3_cutSide 98 = .ok (.ifCond .ge 13, 3) := by decide +kernel
theorem dX3_cutSide_101 : decode cX3_cutSide 101 = .ok (.aload_n 0, 1) := by decide +kernel
theorem dX3_cutSide_102 : decode cX3_cutSide 102 = .ok (.iload 4, 2) := by decide +kernel
theorem dX3_cutSide_104 : decode cX3_cutSide 104 = .ok (.iload 5, 2) := by decide +kernel
theorem dX3_cutSide_106 : decode cX3_cutSide 106 = .ok (.iload_n 1, 1) := by decide +kernel
theorem dX3_cutSide_107 : decode cX3_cutSide 107 = .ok (.lload_n 2, 1) := by decide +kernel
theorem dX3_cutSide_108 : decode cX3_cutSide 108 = .ok (.invokevirtual 86, 3) := by decide +kernel
theorem dX3_cutSide_111 : decode cX3_cutSide 111 = .ok (.iinc 4 1, 3) := by decide +kernel
theorem dX3_cutSide_114 : decode cX3_cutSide 114 = .ok (.goto (-106), 3) := by decide +kernel
theorem dX3_cutSide_117 : decode cX3_cutSide 117 = .ok (.iconst 0, 1) := by decide +kernel
theorem dX3_cutSide_118 : decode cX3_cutSide 118 = .ok (.istore 4, 2) := by decide +kernel
theorem dX3_cutSide_120 : decode cX3_cutSide 120 = .ok (.iload 4, 2) := by decide +kernel
theorem dX3_cutSide_122 : decode cX3_cutSide 122 = .ok (.aload_n 0, 1) := by decide +kernel
theorem dX3_cutSide_123 : decode cX3_cutSide 123 = .ok (.getfield 75, 3) := by decide +kernel
theorem dX3_cutSide_126 : decode cX3_cutSide 126 = .ok (.if_icmp .ge 37, 3) := by decide +kernel
theorem dX3_cutSide_129 : decode cX3_cutSide 129 = .ok (.aload_n 0, 1) := by decide +kernel
theorem dX3_cutSide_130 : decode cX3_cutSide 130 = .ok (.getfield 26, 3) := by decide +kernel
theorem dX3_cutSide_133 : decode cX3_cutSide 133 = .ok (.iload 4, 2) := by decide +kernel
theorem dX3_cutSide_135 : decode cX3_cutSide 135 = .ok (.aload_n 0, 1) := by decide +kernel
theorem dX3_cutSide_136 : decode cX3_cutSide 136 = .ok (.getfield 33, 3) := by decide +kernel
theorem dX3_cutSide_139 : decode cX3_cutSide 139 = .ok (.iload 4, 2) := by decide +kernel
theorem dX3_cutSide_141 : decode cX3_cutSide 141 = .ok (.laload, 1) := by decide +kernel
theorem dX3_cutSide_142 : decode cX3_cutSide 142 = .ok (.lastore, 1) := by decide +kernel
theorem dX3_cutSide_143 : decode cX3_cutSide 143 = .ok (.aload_n 0, 1) := by decide +kernel
theorem dX3_cutSide_144 : decode cX3_cutSide 144 = .ok (.getfield 30, 3) := by decide +kernel
theorem dX3_cutSide_147 : decode cX3_cutSide 147 = .ok (.iload 4, 2) := by decide +kernel
theorem dX3_cutSide_149 : decode cX3_cutSide 149 = .ok (.aload_n 0, 1) := by decide +kernel
theorem dX3_cutSide_150 : decode cX3_cutSide 150 = .ok (.getfield 36, 3) := by decide +kernel
theorem dX3_cutSide_153 : decode cX3_cutSide 153 = .ok (.iload 4, 2) := by decide +kernel
theorem dX3_cutSide_155 : decode cX3_cutSide 155 = .ok (.laload, 1) := by decide +kernel
theorem dX3_cutSide_156 : decode cX3_cutSide 156 = .ok (.lastore, 1) := by decide +kernel
theorem dX3_cutSide_157 : decode cX3_cutSide 157 = .ok (.iinc 4 1, 3) := by decide +kernel
theorem dX3_cutSide_160 : decode cX3_cutSide 160 = .ok (.goto (-40), 3) := by decide +kernel
theorem dX3_cutSide_163 : decode cX3_cutSide 163 = .ok (.aload_n 0, 1) := by decide +kernel
theorem dX3_cutSide_164 : decode cX3_cutSide 164 = .ok (.aload_n 0, 1) := by decide +kernel
theorem dX3_cutSide_165 : decode cX3_cutSide 165 = .ok (.getfield 75, 3) := by decide +kernel
theorem dX3_cutSide_168 : decode cX3_cutSide 168 = .ok (.putfield 69, 3) := by decide +kernel
theorem dX3_cutSide_171 : decode cX3_cutSide 171 = .ok (.return_, 1) := by decide +kernel
theorem dX3_twiceArea_0 : decode cX3_twiceArea 0 = .ok (.lconst 0, 1) := by decide +kernel
theorem dX3_twiceArea_1 : decode cX3_twiceArea 1 = .ok (.lstore_n 1, 1) := by decide +kernel
theorem dX3_twiceArea_2 : decode cX3_twiceArea 2 = .ok (.iconst 0, 1) := by decide +kernel
theorem dX3_twiceArea_3 : decode cX3_twiceArea 3 = .ok (.istore_n 3, 1) := by decide +kernel
theorem dX3_twiceArea_4 : decode cX3_twiceArea 4 = .ok (.iload_n 3, 1) := by decide +kernel
theorem dX3_twiceArea_5 : decode cX3_twiceArea 5 = .ok (.aload_n 0, 1) := by decide +kernel
theorem dX3_twiceArea_6 : decode cX3_twiceArea 6 = .ok (.getfield 69, 3) := by decide +kernel
theorem dX3_twiceArea_9 : decode cX3_twiceArea 9 = .ok (.if_icmp .ge 79, 3) := by decide +kernel
theorem dX3_twiceArea_12 : decode cX3_twiceArea 12 = .ok (.iload_n 3, 1) := by decide +kernel
theorem dX3_twiceArea_13 : decode cX3_twiceArea 13 = .ok (.iconst 1, 1) := by decide +kernel
theorem dX3_twiceArea_14 : decode cX3_twiceArea 14 = .ok (.iadd, 1) := by decide +kernel
theorem dX3_twiceArea_15 : decode cX3_twiceArea 15 = .ok (.aload_n 0, 1) := by decide +kernel
theorem dX3_twiceArea_16 : decode cX3_twiceArea 16 = .ok (.getfield 69, 3) := by decide +kernel
theorem dX3_twiceArea_19 : decode cX3_twiceArea 19 = .ok (.irem, 1) := by decide +kernel
theorem dX3_twiceArea_20 : decode cX3_twiceArea 20 = .ok (.istore 4, 2) := by decide +kernel
theorem dX3_twiceArea_22 : decode cX3_twiceArea 22 = .ok (.lload_n 1, 1) := by decide +kernel
theorem dX3_twiceArea_23 : decode cX3_twiceArea 23 = .ok (.aload_n 0, 1) := by decide +kernel
theorem dX3_twiceArea_24 : decode cX3_twiceArea 24 = .ok (.getfield 26, 3) := by decide +kernel
theorem dX3_twiceArea_27 : decode cX3_twiceArea 27 = .ok (.iload_n 3, 1) := by decide +kernel
theorem dX3_twiceArea_28 : decode cX3_twiceArea 28 = .ok (.laload, 1) := by decide +kernel
theorem dX3_twiceArea_29 : decode cX3_twiceArea 29 = .ok (.aload_n 0, 1) := by decide +kernel
theorem dX3_twiceArea_30 : decode cX3_twiceArea 30 = .ok (.getfield 26, 3) := by decide +kernel
theorem dX3_twiceArea_33 : decode cX3_twiceArea 33 = .ok (.iconst 0, 1) := by decide +kernel
theorem dX3_twiceArea_34 : decode cX3_twiceArea 34 = .ok (.laload, 1) := by decide +kernel
theorem dX3_twiceArea_35 : decode cX3_twiceArea 35 = .ok (.lsub, 1) := by decide +kernel
theorem dX3_twiceArea_36 : decode cX3_twiceArea 36 = .ok (.aload_n 0, 1) := by decide +kernel
theorem dX3_twiceArea_37 : decode cX3_twiceArea 37 = .ok (.getfield 30, 3) := by decide +kernel
theorem dX3_twiceArea_40 : decode cX3_twiceArea 40 = .ok (.iload 4, 2) := by decide +kernel
theorem dX3_twiceArea_42 : decode cX3_twiceArea 42 = .ok (.laload, 1) := by decide +kernel
theorem dX3_twiceArea_43 : decode cX3_twiceArea 43 = .ok (.aload_n 0, 1) := by decide +kernel
theorem dX3_twiceArea_44 : decode cX3_twiceArea 44 = .ok (.getfield 30, 3) := by decide +kernel
theorem dX3_twiceArea_47 : decode cX3_twiceArea 47 = .ok (.iconst 0, 1) := by decide +kernel
theorem dX3_twiceArea_48 : decode cX3_twiceArea 48 = .ok (.laload, 1) := by decide +kernel
theorem dX3_twiceArea_49 : decode cX3_twiceArea 49 = .ok (.lsub, 1) := by decide +kernel
theorem dX3_twiceArea_50 : decode cX3_twiceArea 50 = .ok (.lmul, 1) := by decide +kernel
theorem dX3_twiceArea_51 : decode cX3_twiceArea 51 = .ok (.aload_n 0, 1) := by decide +kernel
theorem dX3_twiceArea_52 : decode cX3_twiceArea 52 = .ok (.getfield 26, 3) := by decide +kernel
theorem dX3_twiceArea_55 : decode cX3_twiceArea 55 = .ok (.iload 4, 2) := by decide +kernel
theorem dX3_twiceArea_57 : decode cX3_twiceArea 57 = .ok (.laload, 1) := by decide +kernel
theorem dX3_twiceArea_58 : decode cX3_twiceArea 58 = .ok (.aload_n 0, 1) := by decide +kernel
theorem dX3_twiceArea_59 : decode cX3_twiceArea 59 = .ok (.getfield 26, 3) := by decide +kernel
theorem dX3_twiceArea_62 : decode cX3_twiceArea 62 = .ok (.iconst 0, 1) := by decide +kernel
theorem dX3_twiceArea_63 : decode cX3_twiceArea 63 = .ok (.laload, 1) := by decide +kernel
theorem dX3_twiceArea_64 : decode cX3_twiceArea 64 = .ok (.lsub, 1) := by decide +kernel
theorem dX3_twiceArea_65 : decode cX3_twiceArea 65 = .ok (.aload_n 0, 1) := by decide +kernel
theorem dX3_twiceArea_66 : decode cX3_twiceArea 66 = .ok (.getfield 30, 3) := by decide +kernel
theorem dX3_twiceArea_69 : decode cX3_twiceArea 69 = .ok (.iload_n 3, 1) := by decide +kernel
theorem dX3_twiceArea_70 : decode cX3_twiceArea 70 = .ok (.laload, 1) := by decide +kernel
theorem dX3_twiceArea_71 : decode cX3_twiceArea 71 = .ok (.aload_n 0, 1) := by decide +kernel
theorem dX3_twiceArea_72 : decode cX3_twiceArea 72 = .ok (.getfield 30, 3) := by decide +kernel
theorem dX3_twiceArea_75 : decode cX3_twiceArea 75 = .ok (.iconst 0, 1) := by decide +kernel
theorem dX3_twiceArea_76 : decode cX3_twiceArea 76 = .ok (.laload, 1) := by decide +kernel
theorem dX3_twiceArea_77 : decode cX3_twiceArea 77 = .ok (.lsub, 1) := by decide +kernel
theorem dX3_twiceArea_78 : decode cX3_twiceArea 78 = .ok (.lmul, 1) := by decide +kernel
theorem dX3_twiceArea_79 : decode cX3_twiceArea 79 = .ok (.lsub, 1) := by decide +kernel
theorem dX3_twiceArea_80 : decode cX3_twiceArea 80 = .ok (.ladd, 1) := by decide +kernel
theorem dX3_twiceArea_81 : decode cX3_twiceArea 81 = .ok (.lstore_n 1, 1) := by decide +kernel
theorem dX3_twiceArea_82 : decode cX3_twiceArea 82 = .ok (.iinc 3 1, 3) := by decide +kernel
theorem dX3_twiceArea_85 : decode cX3_twiceArea 85 = .ok (.goto (-81), 3) := by decide +kernel
theorem dX3_twiceArea_88 : decode cX3_twiceArea 88 = .ok (.lload_n 1, 1) := by decide +kernel
theorem dX3_twiceArea_89 : decode cX3_twiceArea 89 = .ok (.lreturn, 1) := by decide +kernel
set_option maxRecDepth 20000 in
theorem ggX3_rawOf_X3_layPath : GoodIn wsX3_rawOf wsX3_layPath := goodIn_r _ [7, 8, 9, 10, 2, 11, 12, 13, 6, 14, 38, 39, 40, 41, 42, 43, 44, 45, 46, 47, 48] (by decide +kernel) (by decide +kernel)
set_option maxRecDepth 20000 in
theorem gX3_rawOf_X3_layPath : GoodIn wsX3_rawOf (wsV RX3 90 RX3 yX3_layPath wsX3_layPath) := goodIn_app (goodIn_of _ (by decide +kernel)) ggX3_rawOf_X3_layPath
set_option maxRecDepth 20000 in
theorem ggX3_rawOf_X3_cutSide : GoodIn wsX3_rawOf wsX3_cutSide := goodIn_r _ [18, 19, 9, 10, 11, 20, 21, 22, 23, 24, 6, 25, 26, 27, 28, 29, 30, 31, 32, 33, 38, 39, 40, 41, 42, 43, 44, 45, 46, 47, 48] (by decide +kernel) (by decide +kernel)
set_option maxRecDepth 20000 in
theorem gX3_rawOf_X3_cutSide : GoodIn wsX3_rawOf (wsV RX3 95 RX3 yX3_cutSide wsX3_cutSide) := goodIn_app (goodIn_of _ (by decide +kernel)) ggX3_rawOf_X3_cutSide
set_option maxRecDepth 20000 in
theorem ggX3_rawOf_X3_twiceArea : GoodIn wsX3_rawOf wsX3_twiceArea := goodIn_r _ [37, 9, 10, 11, 38, 39, 40, 41, 42, 43, 44, 45, 46, 47, 48] (by decide +kernel) (by decide +kernel)
set_option maxRecDepth 20000 in
theorem gX3_rawOf_X3_twiceArea : GoodIn wsX3_rawOf (wsV RX3 99 RX3 yX3_twiceArea wsX3_twiceArea) := goodIn_app (goodIn_of _ (by decide +kernel)) ggX3_rawOf_X3_twiceArea
theorem dX3_rawOf_0 : decode cX3_rawOf 0 = .ok (.aload_n 0, 1) := by decide +kernel
theorem dX3_rawOf_1 : decode cX3_rawOf 1 = .ok (.iload_n 1, 1) := by decide +kernel
theorem dX3_rawOf_2 : decode cX3_rawOf 2 = .ok (.iload_n 3, 1) := by decide +kernel
theorem dX3_rawOf_3 : decode cX3_rawOf 3 = .ok (.iload 4, 2) := by decide +kernel
theorem dX3_rawOf_5 : decode cX3_rawOf 5 = .ok (.invokevirtual 90, 3) := by decide +kernel
theorem dX3_rawOf_8 : decode cX3_rawOf 8 = .ok (.ldc2_w 93, 3) := by decide +kernel
theorem dX3_rawOf_11 : decode cX3_rawOf 11 = .ok (.iload_n 2, 1) := by decide +kernel
theorem dX3_rawOf_12 : decode cX3_rawOf 12 = .ok (.iconst 4, 1) := by decide +kernel
theorem dX3_rawOf_13 : decode cX3_rawOf 13 = .ok (.irem, 1) := by decide +kernel
theorem dX3_rawOf_14 : decode cX3_rawOf 14 = .ok (.i2l, 1) := by decide +kernel
theorem dX3_rawOf_15 : decode cX3_rawOf 15 = .ok (.lmul, 1) := by decide +kernel
theorem dX3_rawOf_16 : decode cX3_rawOf 16 = .ok (.lstore 5, 2) := by decide +kernel
theorem dX3_rawOf_18 : decode cX3_rawOf 18 = .ok (.ldc2_w 93, 3) := by decide +kernel
theorem dX3_rawOf_21 : decode cX3_rawOf 21 = .ok (.iload_n 2, 1) := by decide +kernel
theorem dX3_rawOf_22 : decode cX3_rawOf 22 = .ok (.iconst 4, 1) := by decide +kernel
theorem dX3_rawOf_23 : decode cX3_rawOf 23 = .ok (.idiv, 1) := by decide +kernel
theorem dX3_rawOf_24 : decode cX3_rawOf 24 = .ok (.i2l, 1) := by decide +kernel
theorem dX3_rawOf_25 : decode cX3_rawOf 25 = .ok (.lmul, 1) := by decide +kernel
theorem dX3_rawOf_26 : decode cX3_rawOf 26 = .ok (.lstore 7, 2) := by decide +kernel
theorem dX3_rawOf_28 : decode cX3_rawOf 28 = .ok (.aload_n 0, 1) := by decide +kernel
theorem dX3_rawOf_29 : decode cX3_rawOf 29 = .ok (.iconst 0, 1) := by decide +kernel
theorem dX3_rawOf_30 : decode cX3_rawOf 30 = .ok (.lload 5, 2) := by decide +kernel
theorem dX3_rawOf_32 : decode cX3_rawOf 32 = .ok (.invokevirtual 95, 3) := by decide +kernel
theorem dX3_rawOf_35 : decode cX3_rawOf 35 = .ok (.aload_n 0, 1) := by decide +kernel
theorem dX3_rawOf_36 : decode cX3_rawOf 36 = .ok (.iconst 1, 1) := by decide +kernel
theorem dX3_rawOf_37 : decode cX3_rawOf 37 = .ok (.lload 5, 2) := by decide +kernel
theorem dX3_rawOf_39 : decode cX3_rawOf 39 = .ok (.ldc2_w 93, 3) := by decide +kernel
theorem dX3_rawOf_42 : decode cX3_rawOf 42 = .ok (.ladd, 1) := by decide +kernel
theorem dX3_rawOf_43 : decode cX3_rawOf 43 = .ok (.invokevirtual 95, 3) := by decide +kernel
theorem dX3_rawOf_46 : decode cX3_rawOf 46 = .ok (.aload_n 0, 1) := by decide +kernel
theorem dX3_rawOf_47 : decode cX3_rawOf 47 = .ok (.iconst 2, 1) := by decide +kernel
theorem dX3_rawOf_48 : decode cX3_rawOf 48 = .ok (.lload 7, 2) := by decide +kernel
theorem dX3_rawOf_50 : decode cX3_rawOf 50 = .ok (.invokevirtual 95, 3) := by decide +kernel
theorem dX3_rawOf_53 : decode cX3_rawOf 53 = .ok (.aload_n 0, 1) := by decide +kernel
theorem dX3_rawOf_54 : decode cX3_rawOf 54 = .ok (.iconst 3, 1) := by decide +kernel
theorem dX3_rawOf_55 : decode cX3_rawOf 55 = .ok (.lload 7, 2) := by decide +kernel
theorem dX3_rawOf_57 : decode cX3_rawOf 57 = .ok (.ldc2_w 93, 3) := by decide +kernel
theorem dX3_rawOf_60 : decode cX3_rawOf 60 = .ok (.ladd, 1) := by decide +kernel
theorem dX3_rawOf_61 : decode cX3_rawOf 61 = .ok (.invokevirtual 95, 3) := by decide +kernel
theorem dX3_rawOf_64 : decode cX3_rawOf 64 = .ok (.aload_n 0, 1) := by decide +kernel
theorem dX3_rawOf_65 : decode cX3_rawOf 65 = .ok (.invokevirtual 99, 3) := by decide +kernel
theorem dX3_rawOf_68 : decode cX3_rawOf 68 = .ok (.ldc2_w 73, 3) := by decide +kernel
theorem dX3_rawOf_71 : decode cX3_rawOf 71 = .ok (.ldiv, 1) := by decide +kernel
theorem dX3_rawOf_72 : decode cX3_rawOf 72 = .ok (.lreturn, 1) := by decide +kernel
theorem dX3_plain_0 : decode cX3_plain 0 = .ok (.lload_n 0, 1) := by decide +kernel
theorem dX3_plain_1 : decode cX3_plain 1 = .ok (.lconst 0, 1) := by decide +kernel
theorem dX3_plain_2 : decode cX3_plain 2 = .ok (.lcmp, 1) := by decide +kernel
theorem dX3_plain_3 : decode cX3_plain 3 = .ok (.ifCond .ge 8, 3) := by decide +kernel
theorem dX3_plain_6 : decode cX3_plain 6 = .ok (.lload_n 0, 1) := by decide +kernel
theorem dX3_plain_7 : decode cX3_plain 7 = .ok (.lneg, 1) := by decide +kernel
theorem dX3_plain_8 : decode cX3_plain 8 = .ok (.goto 4, 3) := by decide +kernel
theorem dX3_plain_11 : decode cX3_plain 11 = .ok (.lload_n 0, 1) := by decide +kernel
theorem dX3_plain_12 : decode cX3_plain 12 = .ok (.lreturn, 1) := by decide +kernel
set_option maxRecDepth 20000 in
theorem ggX3_coverMoved_X3_rawOf : GoodIn wsX3_coverMoved wsX3_rawOf := goodIn_r _ [8, 9, 10, 11, 12, 13, 7, 14, 1, 15, 16, 17, 18, 19, 20, 21, 22, 23, 24, 25, 26, 27, 28, 29, 30, 31, 32, 33, 34, 35, 36, 37, 38, 39, 40, 41, 42, 43, 47, 48, 49, 50, 51, 52, 53, 54, 55, 56, 57] (by decide +kernel) (by decide +kernel)
set_option maxRecDepth 20000 in
theorem gX3_coverMoved_X3_rawOf : GoodIn wsX3_coverMoved (wsV RX3 103 RX3 yX3_rawOf wsX3_rawOf) := goodIn_app (goodIn_of _ (by decide +kernel)) ggX3_coverMoved_X3_rawOf
set_option maxRecDepth 20000 in
theorem ggX3_coverMoved_X3_plain : GoodIn wsX3_coverMoved wsX3_plain := goodIn_r _ [46] (by decide +kernel) (by decide +kernel)
set_option maxRecDepth 20000 in
theorem gX3_coverMoved_X3_plain : GoodIn wsX3_coverMoved (va_wsS RX3 107 yX3_plain wsX3_plain) := goodIn_app (goodIn_of _ (by decide +kernel)) ggX3_coverMoved_X3_plain
theorem dX3_coverMoved_0 : decode cX3_coverMoved 0 = .ok (.aload_n 0, 1) := by decide +kernel
theorem dX3_coverMoved_1 : decode cX3_coverMoved 1 = .ok (.iload_n 1, 1) := by decide +kernel
theorem dX3_coverMoved_2 : decode cX3_coverMoved 2 = .ok (.iload_n 2, 1) := by decide +kernel
theorem dX3_coverMoved_3 : decode cX3_coverMoved 3 = .ok (.iload_n 3, 1) := by decide +kernel
theorem dX3_coverMoved_4 : decode cX3_coverMoved 4 = .ok (.iload 4, 2) := by decide +kernel
theorem dX3_coverMoved_6 : decode cX3_coverMoved 6 = .ok (.invokevirtual 103, 3) := by decide +kernel
theorem dX3_coverMoved_9 : decode cX3_coverMoved 9 = .ok (.invokestatic 107, 3) := by decide +kernel
theorem dX3_coverMoved_12 : decode cX3_coverMoved 12 = .ok (.lstore 5, 2) := by decide +kernel
theorem dX3_coverMoved_14 : decode cX3_coverMoved 14 = .ok (.aload_n 0, 1) := by decide +kernel
theorem dX3_coverMoved_15 : decode cX3_coverMoved 15 = .ok (.getfield 7, 3) := by decide +kernel
theorem dX3_coverMoved_18 : decode cX3_coverMoved 18 = .ok (.iconst 3, 1) := by decide +kernel
theorem dX3_coverMoved_19 : decode cX3_coverMoved 19 = .ok (.iload_n 1, 1) := by decide +kernel
theorem dX3_coverMoved_20 : decode cX3_coverMoved 20 = .ok (.iadd, 1) := by decide +kernel
theorem dX3_coverMoved_21 : decode cX3_coverMoved 21 = .ok (.iaload, 1) := by decide +kernel
theorem dX3_coverMoved_22 : decode cX3_coverMoved 22 = .ok (.ifCond .ne 21, 3) := by decide +kernel
theorem dX3_coverMoved_25 : decode cX3_coverMoved 25 = .ok (.lload 5, 2) := by decide +kernel
theorem dX3_coverMoved_27 : decode cX3_coverMoved 27 = .ok (.ldc2_w 111, 3) := by decide +kernel
theorem dX3_coverMoved_30 : decode cX3_coverMoved 30 = .ok (.lcmp, 1) := by decide +kernel
theorem dX3_coverMoved_31 : decode cX3_coverMoved 31 = .ok (.ifCond .le 9, 3) := by decide +kernel
theorem dX3_coverMoved_34 : decode cX3_coverMoved 34 = .ok (.ldc2_w 111, 3) := by decide +kernel
theorem dX3_coverMoved_37 : decode cX3_coverMoved 37 = .ok (.goto 5, 3) := by decide +kernel
theorem dX3_coverMoved_40 : decode cX3_coverMoved 40 = .ok (.lload 5, 2) := by decide +kernel
theorem dX3_coverMoved_42 : decode cX3_coverMoved 42 = .ok (.lreturn, 1) := by decide +kernel
theorem dX3_coverMoved_43 : decode cX3_coverMoved 43 = .ok (.lload 5, 2) := by decide +kernel
theorem dX3_coverMoved_45 : decode cX3_coverMoved 45 = .ok (.ldc2_w 113, 3) := by decide +kernel
theorem dX3_coverMoved_48 : decode cX3_coverMoved 48 = .ok (.lrem, 1) := by decide +kernel
theorem dX3_coverMoved_49 : decode cX3_coverMoved 49 = .ok (.lstore 7, 2) := by decide +kernel
theorem dX3_coverMoved_51 : decode cX3_coverMoved 51 = .ok (.lload 7, 2) := by decide +kernel
theorem dX3_coverMoved_53 : decode cX3_coverMoved 53 = .ok (.ldc2_w 111, 3) := by decide +kernel
theorem dX3_coverMoved_56 : decode cX3_coverMoved 56 = .ok (.lcmp, 1) := by decide +kernel
theorem dX3_coverMoved_57 : decode cX3_coverMoved 57 = .ok (.ifCond .le 12, 3) := by decide +kernel
theorem dX3_coverMoved_60 : decode cX3_coverMoved 60 = .ok (.ldc2_w 113, 3) := by decide +kernel
theorem dX3_coverMoved_63 : decode cX3_coverMoved 63 = .ok (.lload 7, 2) := by decide +kernel
theorem dX3_coverMoved_65 : decode cX3_coverMoved 65 = .ok (.lsub, 1) := by decide +kernel
theorem dX3_coverMoved_66 : decode cX3_coverMoved 66 = .ok (.goto 5, 3) := by decide +kernel
theorem dX3_coverMoved_69 : decode cX3_coverMoved 69 = .ok (.lload 7, 2) := by decide +kernel
theorem dX3_coverMoved_71 : decode cX3_coverMoved 71 = .ok (.lreturn, 1) := by decide +kernel
set_option maxRecDepth 20000 in
theorem ggX3_coverOf_X3_coverMoved : GoodIn wsX3_coverOf wsX3_coverMoved := goodIn_r _ [5, 6, 7, 8, 9, 10, 11, 4, 12, 13, 14, 15, 16, 17, 18, 19, 20, 21, 22, 23, 24, 25, 26, 27, 28, 29, 30, 31, 32, 33, 34, 35, 36, 37, 38, 39, 40, 41, 42, 43, 44, 45, 46, 47, 48, 49, 50, 51, 52, 53, 54, 55, 56, 57, 58, 59, 60, 61] (by decide +kernel) (by decide +kernel)
set_option maxRecDepth 20000 in
theorem gX3_coverOf_X3_coverMoved : GoodIn wsX3_coverOf (wsV RX3 115 RX3 yX3_coverMoved wsX3_coverMoved) := goodIn_app (goodIn_of _ (by decide +kernel)) ggX3_coverOf_X3_coverMoved
theorem dX3_coverOf_0 : decode cX3_coverOf 0 = .ok (.aload_n 0, 1) := by decide +kernel
theorem dX3_coverOf_1 : decode cX3_coverOf 1 = .ok (.iload_n 1, 1) := by decide +kernel
theorem dX3_coverOf_2 : decode cX3_coverOf 2 = .ok (.iload_n 2, 1) := by decide +kernel
theorem dX3_coverOf_3 : decode cX3_coverOf 3 = .ok (.iconst 0, 1) := by decide +kernel
theorem dX3_coverOf_4 : decode cX3_coverOf 4 = .ok (.iconst 0, 1) := by decide +kernel
theorem dX3_coverOf_5 : decode cX3_coverOf 5 = .ok (.invokevirtual 115, 3) := by decide +kernel
theorem dX3_coverOf_8 : decode cX3_coverOf 8 = .ok (.lreturn, 1) := by decide +kernel
theorem dX3_common_0 : decode cX3_common 0 = .ok (.lload_n 0, 1) := by decide +kernel
theorem dX3_common_1 : decode cX3_common 1 = .ok (.lstore 4, 2) := by decide +kernel
theorem dX3_common_3 : decode cX3_common 3 = .ok (.lload_n 2, 1) := by decide +kernel
theorem dX3_common_4 : decode cX3_common 4 = .ok (.lstore 6, 2) := by decide +kernel
theorem dX3_common_6 : decode cX3_common 6 = .ok (.lload 6, 2) := by decide +kernel
theorem dX3_common_8 : decode cX3_common 8 = .ok (.lconst 0, 1) := by decide +kernel
theorem dX3_common_9 : decode cX3_common 9 = .ok (.lcmp, 1) := by decide +kernel
theorem dX3_common_10 : decode cX3_common 10 = .ok (.ifCond .eq 21, 3) := by decide +kernel
theorem dX3_common_13 : decode cX3_common 13 = .ok (.lload 4, 2) := by decide +kernel
theorem dX3_common_15 : decode cX3_common 15 = .ok (.lload 6, 2) := by decide +kernel
theorem dX3_common_17 : decode cX3_common 17 = .ok (.lrem, 1) := by decide +kernel
theorem dX3_common_18 : decode cX3_common 18 = .ok (.lstore 8, 2) := by decide +kernel
theorem dX3_common_20 : decode cX3_common 20 = .ok (.lload 6, 2) := by decide +kernel
theorem dX3_common_22 : decode cX3_common 22 = .ok (.lstore 4, 2) := by decide +kernel
theorem dX3_common_24 : decode cX3_common 24 = .ok (.lload 8, 2) := by decide +kernel
theorem dX3_common_26 : decode cX3_common 26 = .ok (.lstore 6, 2) := by decide +kernel
theorem dX3_common_28 : decode cX3_common 28 = .ok (.goto (-22), 3) := by decide +kernel
theorem dX3_common_31 : decode cX3_common 31 = .ok (.lload 4, 2) := by decide +kernel
theorem dX3_common_33 : decode cX3_common 33 = .ok (.lreturn, 1) := by decide +kernel
set_option maxRecDepth 20000 in
theorem ggX3_told_X3_plain : GoodIn wsX3_told wsX3_plain := goodIn_r _ [4] (by decide +kernel) (by decide +kernel)
set_option maxRecDepth 20000 in
theorem gX3_told_X3_plain : GoodIn wsX3_told (va_wsS RX3 107 yX3_plain wsX3_plain) := goodIn_app (goodIn_of _ (by decide +kernel)) ggX3_told_X3_plain
set_option maxRecDepth 20000 in
theorem ggX3_told_X3_common : GoodIn wsX3_told wsX3_common := goodIn_r _ [7] (by decide +kernel) (by decide +kernel)
set_option maxRecDepth 20000 in
theorem gX3_told_X3_common : GoodIn wsX3_told (va_wsS RX3 118 yX3_common wsX3_common) := goodIn_app (goodIn_of _ (by decide +kernel)) ggX3_told_X3_common
theorem dX3_told_0 : decode cX3_told 0 = .ok (.lload_n 2, 1) := by decide +kernel
theorem dX3_told_1 : decode cX3_told 1 = .ok (.lload_n 0, 1) := by decide +kernel
theorem dX3_told_2 : decode cX3_told 2 = .ok (.invokestatic 107, 3) := by decide +kernel
theorem dX3_told_5 : decode cX3_told 5 = .ok (.invokestatic 118, 3) := by decide +kernel
theorem dX3_told_8 : decode cX3_told 8 = .ok (.lstore 5, 2) := by decide +kernel
theorem dX3_told_10 : decode cX3_told 10 = .ok (.iload 4, 2) := by decide +kernel
theorem dX3_told_12 : decode cX3_told 12 = .ok (.ifCond .ne 10, 3) := by decide +kernel
theorem dX3_told_15 : decode cX3_told 15 = .ok (.lload_n 0, 1) := by decide +kernel
theorem dX3_told_16 : decode cX3_told 16 = .ok (.lload 5, 2) := by decide +kernel
theorem dX3_told_18 : decode cX3_told 18 = .ok (.ldiv, 1) := by decide +kernel
theorem dX3_told_19 : decode cX3_told 19 = .ok (.goto 7, 3) := by decide +kernel
theorem dX3_told_22 : decode cX3_told 22 = .ok (.lload_n 2, 1) := by decide +kernel
theorem dX3_told_23 : decode cX3_told 23 = .ok (.lload 5, 2) := by decide +kernel
theorem dX3_told_25 : decode cX3_told 25 = .ok (.ldiv, 1) := by decide +kernel
theorem dX3_told_26 : decode cX3_told 26 = .ok (.lreturn, 1) := by decide +kernel
set_option maxRecDepth 20000 in
theorem ggX3_isPart_X3_in : GoodIn wsX3_isPart wsX3_in := goodIn_r _ [4] (by decide +kernel) (by decide +kernel)
set_option maxRecDepth 20000 in
theorem gX3_isPart_X3_in : GoodIn wsX3_isPart (va_wsS RX3 39 yX3_in wsX3_in) := goodIn_app (goodIn_of _ (by decide +kernel)) ggX3_isPart_X3_in
theorem dX3_isPart_0 : decode cX3_isPart 0 = .ok (.iload_n 0, 1) := by decide +kernel
theorem dX3_isPart_1 : decode cX3_isPart 1 = .ok (.iconst 0, 1) := by decide +kernel
theorem dX3_isPart_2 : decode cX3_isPart 2 = .ok (.iconst 1, 1) := by decide +kernel
theorem dX3_isPart_3 : decode cX3_isPart 3 = .ok (.invokestatic 39, 3) := by decide +kernel
theorem dX3_isPart_6 : decode cX3_isPart 6 = .ok (.ireturn, 1) := by decide +kernel
set_option maxRecDepth 20000 in
theorem ggX3_raw_X3_isLayer : GoodIn wsX3_raw wsX3_isLayer := goodIn_r _ [7, 8, 9, 6, 10] (by decide +kernel) (by decide +kernel)
set_option maxRecDepth 20000 in
theorem gX3_raw_X3_isLayer : GoodIn wsX3_raw (va_wsS RX3 43 yX3_isLayer wsX3_isLayer) := goodIn_app (goodIn_of _ (by decide +kernel)) ggX3_raw_X3_isLayer
set_option maxRecDepth 20000 in
theorem ggX3_raw_X3_isDot : GoodIn wsX3_raw wsX3_isDot := goodIn_r _ [13, 8, 9, 6, 10] (by decide +kernel) (by decide +kernel)
set_option maxRecDepth 20000 in
theorem gX3_raw_X3_isDot : GoodIn wsX3_raw (va_wsS RX3 122 yX3_isDot wsX3_isDot) := goodIn_app (goodIn_of _ (by decide +kernel)) ggX3_raw_X3_isDot
set_option maxRecDepth 20000 in
theorem ggX3_raw_X3_isPart : GoodIn wsX3_raw wsX3_isPart := goodIn_r _ [16, 8, 9, 6, 10] (by decide +kernel) (by decide +kernel)
set_option maxRecDepth 20000 in
theorem gX3_raw_X3_isPart : GoodIn wsX3_raw (va_wsS RX3 127 yX3_isPart wsX3_isPart) := goodIn_app (goodIn_of _ (by decide +kernel)) ggX3_raw_X3_isPart
set_option maxRecDepth 20000 in
theorem ggX3_raw_X3_rawOf : GoodIn wsX3_raw wsX3_rawOf := goodIn_r _ [20, 21, 22, 23, 24, 25, 6, 26, 27, 28, 29, 30, 31, 32, 33, 34, 35, 36, 37, 38, 39, 40, 41, 42, 43, 44, 45, 46, 47, 48, 49, 50, 51, 52, 53, 54, 55, 56, 66, 67, 68, 69, 70, 71, 72, 73, 74, 75, 76] (by decide +kernel) (by decide +kernel)
set_option maxRecDepth 20000 in
theorem gX3_raw_X3_rawOf : GoodIn wsX3_raw (wsV RX3 103 RX3 yX3_rawOf wsX3_rawOf) := goodIn_app (goodIn_of _ (by decide +kernel)) ggX3_raw_X3_rawOf
set_option maxRecDepth 20000 in
theorem ggX3_raw_X3_told : GoodIn wsX3_raw wsX3_told := goodIn_r _ [59, 60, 61, 6, 62, 63, 64, 65] (by decide +kernel) (by decide +kernel)
set_option maxRecDepth 20000 in
theorem gX3_raw_X3_told : GoodIn wsX3_raw (va_wsS RX3 130 yX3_told wsX3_told) := goodIn_app (goodIn_of _ (by decide +kernel)) ggX3_raw_X3_told
theorem dX3_raw_0 : decode cX3_raw 0 = .ok (.iload_n 1, 1) := by decide +kernel
theorem dX3_raw_1 : decode cX3_raw 1 = .ok (.invokestatic 43, 3) := by decide +kernel
theorem dX3_raw_4 : decode cX3_raw 4 = .ok (.ifCond .eq 10, 3) := by decide +kernel
theorem dX3_raw_7 : decode cX3_raw 7 = .ok (.iload_n 2, 1) := by decide +kernel
theorem dX3_raw_8 : decode cX3_raw 8 = .ok (.invokestatic 122, 3) := by decide +kernel
theorem dX3_raw_11 : decode cX3_raw 11 = .ok (.ifCond .ne 7, 3) := by decide +kernel
theorem dX3_raw_14 : decode cX3_raw 14 = .ok (.ldc2_w 125, 3) := by decide +kernel
theorem dX3_raw_17 : decode cX3_raw 17 = .ok (.lreturn, 1) := by decide +kernel
theorem dX3_raw_18 : decode cX3_raw 18 = .ok (.iload_n 3, 1) := by decide +kernel
theorem dX3_raw_19 : decode cX3_raw 19 = .ok (.invokestatic 127, 3) := by decide +kernel
theorem dX3_raw_22 : decode cX3_raw 22 = .ok (.ifCond .eq 21, 3) := by decide +kernel
theorem dX3_raw_25 : decode cX3_raw 25 = .ok (.aload_n 0, 1) := by decide +kernel
theorem dX3_raw_26 : decode cX3_raw 26 = .ok (.iload_n 1, 1) := by decide +kernel
theorem dX3_raw_27 : decode cX3_raw 27 = .ok (.iload_n 2, 1) := by decide +kernel
theorem dX3_raw_28 : decode cX3_raw 28 = .ok (.iconst 0, 1) := by decide +kernel
theorem dX3_raw_29 : decode cX3_raw 29 = .ok (.iconst 0, 1) := by decide +kernel
theorem dX3_raw_30 : decode cX3_raw 30 = .ok (.invokevirtual 103, 3) := by decide +kernel
theorem dX3_raw_33 : decode cX3_raw 33 = .ok (.ldc2_w 111, 3) := by decide +kernel
theorem dX3_raw_36 : decode cX3_raw 36 = .ok (.iload_n 3, 1) := by decide +kernel
theorem dX3_raw_37 : decode cX3_raw 37 = .ok (.invokestatic 130, 3) := by decide +kernel
theorem dX3_raw_40 : decode cX3_raw 40 = .ok (.goto 6, 3) := by decide +kernel
theorem dX3_raw_43 : decode cX3_raw 43 = .ok (.ldc2_w 134, 3) := by decide +kernel
theorem dX3_raw_46 : decode cX3_raw 46 = .ok (.lreturn, 1) := by decide +kernel
set_option maxRecDepth 20000 in
theorem ggX3_cover_X3_isLayer : GoodIn wsX3_cover wsX3_isLayer := goodIn_r _ [7, 8, 9, 6, 10] (by decide +kernel) (by decide +kernel)
set_option maxRecDepth 20000 in
theorem gX3_cover_X3_isLayer : GoodIn wsX3_cover (va_wsS RX3 43 yX3_isLayer wsX3_isLayer) := goodIn_app (goodIn_of _ (by decide +kernel)) ggX3_cover_X3_isLayer
set_option maxRecDepth 20000 in
theorem ggX3_cover_X3_isDot : GoodIn wsX3_cover wsX3_isDot := goodIn_r _ [13, 8, 9, 6, 10] (by decide +kernel) (by decide +kernel)
set_option maxRecDepth 20000 in
theorem gX3_cover_X3_isDot : GoodIn wsX3_cover (va_wsS RX3 122 yX3_isDot wsX3_isDot) := goodIn_app (goodIn_of _ (by decide +kernel)) ggX3_cover_X3_isDot
set_option maxRecDepth 20000 in
theorem ggX3_cover_X3_isPart : GoodIn wsX3_cover wsX3_isPart := goodIn_r _ [16, 8, 9, 6, 10] (by decide +kernel) (by decide +kernel)
set_option maxRecDepth 20000 in
theorem gX3_cover_X3_isPart : GoodIn wsX3_cover (va_wsS RX3 127 yX3_isPart wsX3_isPart) := goodIn_app (goodIn_of _ (by decide +kernel)) ggX3_cover_X3_isPart
set_option maxRecDepth 20000 in
theorem ggX3_cover_X3_coverOf : GoodIn wsX3_cover wsX3_coverOf := goodIn_r _ [20, 21, 22, 23, 6, 24, 25, 2, 26, 27, 28, 29, 30, 31, 32, 33, 34, 35, 36, 37, 38, 39, 40, 41, 42, 43, 44, 45, 46, 47, 48, 49, 50, 51, 52, 53, 54, 55, 56, 57, 58, 59, 60, 61, 62, 63, 64, 65, 66, 67, 68, 75, 76, 77, 78, 79, 80, 81, 82, 83, 84, 85] (by decide +kernel) (by decide +kernel)
set_option maxRecDepth 20000 in
theorem gX3_cover_X3_coverOf : GoodIn wsX3_cover (wsV RX3 138 RX3 yX3_coverOf wsX3_coverOf) := goodIn_app (goodIn_of _ (by decide +kernel)) ggX3_cover_X3_coverOf
set_option maxRecDepth 20000 in
theorem ggX3_cover_X3_told : GoodIn wsX3_cover wsX3_told := goodIn_r _ [71, 66, 67, 6, 68, 72, 73, 74] (by decide +kernel) (by decide +kernel)
set_option maxRecDepth 20000 in
theorem gX3_cover_X3_told : GoodIn wsX3_cover (va_wsS RX3 130 yX3_told wsX3_told) := goodIn_app (goodIn_of _ (by decide +kernel)) ggX3_cover_X3_told
theorem dX3_cover_0 : decode cX3_cover 0 = .ok (.iload_n 1, 1) := by decide +kernel
theorem dX3_cover_1 : decode cX3_cover 1 = .ok (.invokestatic 43, 3) := by decide +kernel
theorem dX3_cover_4 : decode cX3_cover 4 = .ok (.ifCond .eq 10, 3) := by decide +kernel
theorem dX3_cover_7 : decode cX3_cover 7 = .ok (.iload_n 2, 1) := by decide +kernel
theorem dX3_cover_8 : decode cX3_cover 8 = .ok (.invokestatic 122, 3) := by decide +kernel
theorem dX3_cover_11 : decode cX3_cover 11 = .ok (.ifCond .ne 7, 3) := by decide +kernel
theorem dX3_cover_14 : decode cX3_cover 14 = .ok (.ldc2_w 136, 3) := by decide +kernel
theorem dX3_cover_17 : decode cX3_cover 17 = .ok (.lreturn, 1) := by decide +kernel
theorem dX3_cover_18 : decode cX3_cover 18 = .ok (.iload_n 3, 1) := by decide +kernel
theorem dX3_cover_19 : decode cX3_cover 19 = .ok (.invokestatic 127, 3) := by decide +kernel
theorem dX3_cover_22 : decode cX3_cover 22 = .ok (.ifCond .eq 19, 3) := by decide +kernel
theorem dX3_cover_25 : decode cX3_cover 25 = .ok (.aload_n 0, 1) := by decide +kernel
theorem dX3_cover_26 : decode cX3_cover 26 = .ok (.iload_n 1, 1) := by decide +kernel
theorem dX3_cover_27 : decode cX3_cover 27 = .ok (.iload_n 2, 1) := by decide +kernel
theorem dX3_cover_28 : decode cX3_cover 28 = .ok (.invokevirtual 138, 3) := by decide +kernel
theorem dX3_cover_31 : decode cX3_cover 31 = .ok (.ldc2_w 111, 3) := by decide +kernel
theorem dX3_cover_34 : decode cX3_cover 34 = .ok (.iload_n 3, 1) := by decide +kernel
theorem dX3_cover_35 : decode cX3_cover 35 = .ok (.invokestatic 130, 3) := by decide +kernel
theorem dX3_cover_38 : decode cX3_cover 38 = .ok (.goto 6, 3) := by decide +kernel
theorem dX3_cover_41 : decode cX3_cover 41 = .ok (.ldc2_w 142, 3) := by decide +kernel
theorem dX3_cover_44 : decode cX3_cover 44 = .ok (.lreturn, 1) := by decide +kernel
set_option maxRecDepth 20000 in
theorem ggX3_openOf_X3_coverOf : GoodIn wsX3_openOf wsX3_coverOf := goodIn_r _ [6, 7, 8, 9, 5, 10, 11, 1, 12, 13, 14, 15, 16, 17, 18, 19, 20, 21, 22, 23, 24, 25, 26, 27, 28, 29, 30, 31, 32, 33, 34, 35, 36, 37, 38, 39, 40, 41, 42, 43, 44, 45, 46, 47, 48, 49, 50, 51, 52, 53, 54, 55, 56, 57, 58, 59, 60, 61, 62, 63, 64, 65] (by decide +kernel) (by decide +kernel)
set_option maxRecDepth 20000 in
theorem gX3_openOf_X3_coverOf : GoodIn wsX3_openOf (wsV RX3 138 RX3 yX3_coverOf wsX3_coverOf) := goodIn_app (goodIn_of _ (by decide +kernel)) ggX3_openOf_X3_coverOf
theorem dX3_openOf_0 : decode cX3_openOf 0 = .ok (.lconst 1, 1) := by decide +kernel
theorem dX3_openOf_1 : decode cX3_openOf 1 = .ok (.lstore_n 2, 1) := by decide +kernel
theorem dX3_openOf_2 : decode cX3_openOf 2 = .ok (.iconst 0, 1) := by decide +kernel
theorem dX3_openOf_3 : decode cX3_openOf 3 = .ok (.istore 4, 2) := by decide +kernel
theorem dX3_openOf_5 : decode cX3_openOf 5 = .ok (.iload 4, 2) := by decide +kernel
theorem dX3_openOf_7 : decode cX3_openOf 7 = .ok (.iconst 3, 1) := by decide +kernel
theorem dX3_openOf_8 : decode cX3_openOf 8 = .ok (.if_icmp .ge 23, 3) := by decide +kernel
theorem dX3_openOf_11 : decode cX3_openOf 11 = .ok (.lload_n 2, 1) := by decide +kernel
theorem dX3_openOf_12 : decode cX3_openOf 12 = .ok (.ldc2_w 111, 3) := by decide +kernel
theorem dX3_openOf_15 : decode cX3_openOf 15 = .ok (.aload_n 0, 1) := by decide +kernel
theorem dX3_openOf_16 : decode cX3_openOf 16 = .ok (.iload 4, 2) := by decide +kernel
theorem dX3_openOf_18 : decode cX3_openOf 18 = .ok (.iload_n 1, 1) := by decide +kernel
theorem dX3_openOf_19 : decode cX3_openOf 19 = .ok (.invokevirtual 138, 3) := by decide +kernel
theorem dX3_openOf_22 : decode cX3_openOf 22 = .ok (.lsub, 1) := by decide +kernel
theorem dX3_openOf_23 : decode cX3_openOf 23 = .ok (.lmul, 1) := by decide +kernel
theorem dX3_openOf_24 : decode cX3_openOf 24 = .ok (.lstore_n 2, 1) := by decide +kernel
theorem dX3_openOf_25 : decode cX3_openOf 25 = .ok (.iinc 4 1, 3) := by decide +kernel
theorem dX3_openOf_28 : decode cX3_openOf 28 = .ok (.goto (-23), 3) := by decide +kernel
theorem dX3_openOf_31 : decode cX3_openOf 31 = .ok (.lload_n 2, 1) := by decide +kernel
theorem dX3_openOf_32 : decode cX3_openOf 32 = .ok (.lreturn, 1) := by decide +kernel
theorem dX3_whole_0 : decode cX3_whole 0 = .ok (.ldc2_w 144, 3) := by decide +kernel
theorem dX3_whole_3 : decode cX3_whole 3 = .ok (.lreturn, 1) := by decide +kernel
set_option maxRecDepth 20000 in
theorem ggX3_together_X3_isDot : GoodIn wsX3_together wsX3_isDot := goodIn_r _ [6, 7, 8, 5, 9] (by decide +kernel) (by decide +kernel)
set_option maxRecDepth 20000 in
theorem gX3_together_X3_isDot : GoodIn wsX3_together (va_wsS RX3 122 yX3_isDot wsX3_isDot) := goodIn_app (goodIn_of _ (by decide +kernel)) ggX3_together_X3_isDot
set_option maxRecDepth 20000 in
theorem ggX3_together_X3_isPart : GoodIn wsX3_together wsX3_isPart := goodIn_r _ [12, 7, 8, 5, 9] (by decide +kernel) (by decide +kernel)
set_option maxRecDepth 20000 in
theorem gX3_together_X3_isPart : GoodIn wsX3_together (va_wsS RX3 127 yX3_isPart wsX3_isPart) := goodIn_app (goodIn_of _ (by decide +kernel)) ggX3_together_X3_isPart
set_option maxRecDepth 20000 in
theorem ggX3_together_X3_whole : GoodIn wsX3_together wsX3_whole := goodIn_r _ [15, 16] (by decide +kernel) (by decide +kernel)
set_option maxRecDepth 20000 in
theorem gX3_together_X3_whole : GoodIn wsX3_together (va_wsS RX3 146 yX3_whole wsX3_whole) := goodIn_app (goodIn_of _ (by decide +kernel)) ggX3_together_X3_whole
set_option maxRecDepth 20000 in
theorem ggX3_together_X3_openOf : GoodIn wsX3_together wsX3_openOf := goodIn_r _ [20, 21, 22, 23, 24, 5, 25, 26, 27, 28, 29, 30, 31, 32, 33, 34, 35, 36, 37, 38, 39, 40, 41, 42, 43, 44, 45, 46, 47, 48, 49, 50, 51, 52, 53, 54, 55, 56, 57, 58, 59, 60, 61, 62, 63, 64, 65, 66, 67, 68, 69, 70, 71, 72, 73, 80, 81, 82, 83, 84, 85, 86, 87, 88, 89, 90] (by decide +kernel) (by decide +kernel)
set_option maxRecDepth 20000 in
theorem gX3_together_X3_openOf : GoodIn wsX3_together (wsV RX3 149 RX3 yX3_openOf wsX3_openOf) := goodIn_app (goodIn_of _ (by decide +kernel)) ggX3_together_X3_openOf
set_option maxRecDepth 20000 in
theorem ggX3_together_X3_told : GoodIn wsX3_together wsX3_told := goodIn_r _ [76, 71, 72, 5, 73, 77, 78, 79] (by decide +kernel) (by decide +kernel)
set_option maxRecDepth 20000 in
theorem gX3_together_X3_told : GoodIn wsX3_together (va_wsS RX3 130 yX3_told wsX3_told) := goodIn_app (goodIn_of _ (by decide +kernel)) ggX3_together_X3_told
theorem dX3_together_0 : decode cX3_together 0 = .ok (.iload_n 1, 1) := by decide +kernel
theorem dX3_together_1 : decode cX3_together 1 = .ok (.invokestatic 122, 3) := by decide +kernel
theorem dX3_together_4 : decode cX3_together 4 = .ok (.ifCond .ne 7, 3) := by decide +kernel
theorem dX3_together_7 : decode cX3_together 7 = .ok (.ldc2_w 136, 3) := by decide +kernel
theorem dX3_together_10 : decode cX3_together 10 = .ok (.lreturn, 1) := by decide +kernel
theorem dX3_together_11 : decode cX3_together 11 = .ok (.iload_n 2, 1) := by decide +kernel
theorem dX3_together_12 : decode cX3_together 12 = .ok (.invokestatic 127, 3) := by decide +kernel
theorem dX3_together_15 : decode cX3_together 15 = .ok (.ifCond .eq 22, 3) := by decide +kernel
theorem dX3_together_18 : decode cX3_together 18 = .ok (.invokestatic 146, 3) := by decide +kernel
theorem dX3_together_21 : decode cX3_together 21 = .ok (.aload_n 0, 1) := by decide +kernel
theorem dX3_together_22 : decode cX3_together 22 = .ok (.iload_n 1, 1) := by decide +kernel
theorem dX3_together_23 : decode cX3_together 23 = .ok (.invokevirtual 149, 3) := by decide +kernel
theorem dX3_together_26 : decode cX3_together 26 = .ok (.lsub, 1) := by decide +kernel
theorem dX3_together_27 : decode cX3_together 27 = .ok (.invokestatic 146, 3) := by decide +kernel
theorem dX3_together_30 : decode cX3_together 30 = .ok (.iload_n 2, 1) := by decide +kernel
theorem dX3_together_31 : decode cX3_together 31 = .ok (.invokestatic 130, 3) := by decide +kernel
theorem dX3_together_34 : decode cX3_together 34 = .ok (.goto 6, 3) := by decide +kernel
theorem dX3_together_37 : decode cX3_together 37 = .ok (.ldc2_w 142, 3) := by decide +kernel
theorem dX3_together_40 : decode cX3_together 40 = .ok (.lreturn, 1) := by decide +kernel
set_option maxRecDepth 20000 in
theorem ggX3_area_X3_isLayer : GoodIn wsX3_area wsX3_isLayer := goodIn_r _ [8, 9, 10, 7, 11] (by decide +kernel) (by decide +kernel)
set_option maxRecDepth 20000 in
theorem gX3_area_X3_isLayer : GoodIn wsX3_area (va_wsS RX3 43 yX3_isLayer wsX3_isLayer) := goodIn_app (goodIn_of _ (by decide +kernel)) ggX3_area_X3_isLayer
set_option maxRecDepth 20000 in
theorem ggX3_area_X3_isPart : GoodIn wsX3_area wsX3_isPart := goodIn_r _ [14, 9, 10, 7, 11] (by decide +kernel) (by decide +kernel)
set_option maxRecDepth 20000 in
theorem gX3_area_X3_isPart : GoodIn wsX3_area (va_wsS RX3 127 yX3_isPart wsX3_isPart) := goodIn_app (goodIn_of _ (by decide +kernel)) ggX3_area_X3_isPart
set_option maxRecDepth 20000 in
theorem ggX3_area_X3_rawOf : GoodIn wsX3_area wsX3_rawOf := goodIn_r _ [18, 19, 20, 21, 22, 23, 7, 24, 25, 26, 27, 28, 29, 30, 31, 32, 33, 34, 35, 36, 37, 38, 39, 40, 41, 42, 43, 44, 45, 46, 47, 48, 49, 50, 51, 52, 53, 54, 64, 65, 66, 67, 68, 69, 70, 71, 72, 73, 74] (by decide +kernel) (by decide +kernel)
set_option maxRecDepth 20000 in
theorem gX3_area_X3_rawOf : GoodIn wsX3_area (wsV RX3 103 RX3 yX3_rawOf wsX3_rawOf) := goodIn_app (goodIn_of _ (by decide +kernel)) ggX3_area_X3_rawOf
set_option maxRecDepth 20000 in
theorem ggX3_area_X3_told : GoodIn wsX3_area wsX3_told := goodIn_r _ [57, 58, 59, 7, 60, 61, 62, 63] (by decide +kernel) (by decide +kernel)
set_option maxRecDepth 20000 in
theorem gX3_area_X3_told : GoodIn wsX3_area (va_wsS RX3 130 yX3_told wsX3_told) := goodIn_app (goodIn_of _ (by decide +kernel)) ggX3_area_X3_told
theorem dX3_area_0 : decode cX3_area 0 = .ok (.iload_n 1, 1) := by decide +kernel
theorem dX3_area_1 : decode cX3_area 1 = .ok (.invokestatic 43, 3) := by decide +kernel
theorem dX3_area_4 : decode cX3_area 4 = .ok (.ifCond .ne 7, 3) := by decide +kernel
theorem dX3_area_7 : decode cX3_area 7 = .ok (.ldc2_w 125, 3) := by decide +kernel
theorem dX3_area_10 : decode cX3_area 10 = .ok (.lreturn, 1) := by decide +kernel
theorem dX3_area_11 : decode cX3_area 11 = .ok (.iload_n 2, 1) := by decide +kernel
theorem dX3_area_12 : decode cX3_area 12 = .ok (.invokestatic 127, 3) := by decide +kernel
theorem dX3_area_15 : decode cX3_area 15 = .ok (.ifCond .ne 7, 3) := by decide +kernel
theorem dX3_area_18 : decode cX3_area 18 = .ok (.ldc2_w 134, 3) := by decide +kernel
theorem dX3_area_21 : decode cX3_area 21 = .ok (.lreturn, 1) := by decide +kernel
theorem dX3_area_22 : decode cX3_area 22 = .ok (.lconst 0, 1) := by decide +kernel
theorem dX3_area_23 : decode cX3_area 23 = .ok (.lstore_n 3, 1) := by decide +kernel
theorem dX3_area_24 : decode cX3_area 24 = .ok (.iconst 0, 1) := by decide +kernel
theorem dX3_area_25 : decode cX3_area 25 = .ok (.istore 5, 2) := by decide +kernel
theorem dX3_area_27 : decode cX3_area 27 = .ok (.iload 5, 2) := by decide +kernel
theorem dX3_area_29 : decode cX3_area 29 = .ok (.bipush 16, 2) := by decide +kernel
theorem dX3_area_31 : decode cX3_area 31 = .ok (.if_icmp .ge 21, 3) := by decide +kernel
theorem dX3_area_34 : decode cX3_area 34 = .ok (.lload_n 3, 1) := by decide +kernel
theorem dX3_area_35 : decode cX3_area 35 = .ok (.aload_n 0, 1) := by decide +kernel
theorem dX3_area_36 : decode cX3_area 36 = .ok (.iload_n 1, 1) := by decide +kernel
theorem dX3_area_37 : decode cX3_area 37 = .ok (.iload 5, 2) := by decide +kernel
theorem dX3_area_39 : decode cX3_area 39 = .ok (.iconst 0, 1) := by decide +kernel
theorem dX3_area_40 : decode cX3_area 40 = .ok (.iconst 0, 1) := by decide +kernel
theorem dX3_area_41 : decode cX3_area 41 = .ok (.invokevirtual 103, 3) := by decide +kernel
theorem dX3_area_44 : decode cX3_area 44 = .ok (.ladd, 1) := by decide +kernel
theorem dX3_area_45 : decode cX3_area 45 = .ok (.lstore_n 3, 1) := by decide +kernel
theorem dX3_area_46 : decode cX3_area 46 = .ok (.iinc 5 1, 3) := by decide +kernel
theorem dX3_area_49 : decode cX3_area 49 = .ok (.goto (-22), 3) := by decide +kernel
theorem dX3_area_52 : decode cX3_area 52 = .ok (.ldc2_w 153, 3) := by decide +kernel
theorem dX3_area_55 : decode cX3_area 55 = .ok (.lload_n 3, 1) := by decide +kernel
theorem dX3_area_56 : decode cX3_area 56 = .ok (.lmul, 1) := by decide +kernel
theorem dX3_area_57 : decode cX3_area 57 = .ok (.ldc2_w 111, 3) := by decide +kernel
theorem dX3_area_60 : decode cX3_area 60 = .ok (.iload_n 2, 1) := by decide +kernel
theorem dX3_area_61 : decode cX3_area 61 = .ok (.invokestatic 130, 3) := by decide +kernel
theorem dX3_area_64 : decode cX3_area 64 = .ok (.lreturn, 1) := by decide +kernel
set_option maxRecDepth 20000 in
theorem ggX3_enough_X3_isLayer : GoodIn wsX3_enough wsX3_isLayer := goodIn_r _ [5, 6, 7, 4, 8] (by decide +kernel) (by decide +kernel)
set_option maxRecDepth 20000 in
theorem gX3_enough_X3_isLayer : GoodIn wsX3_enough (va_wsS RX3 43 yX3_isLayer wsX3_isLayer) := goodIn_app (goodIn_of _ (by decide +kernel)) ggX3_enough_X3_isLayer
set_option maxRecDepth 20000 in
theorem ggX3_enough_X3_in : GoodIn wsX3_enough wsX3_in := goodIn_r _ [8] (by decide +kernel) (by decide +kernel)
set_option maxRecDepth 20000 in
theorem gX3_enough_X3_in : GoodIn wsX3_enough (va_wsS RX3 39 yX3_in wsX3_in) := goodIn_app (goodIn_of _ (by decide +kernel)) ggX3_enough_X3_in
set_option maxRecDepth 20000 in
theorem ggX3_enough_X3_coverOf : GoodIn wsX3_enough wsX3_coverOf := goodIn_r _ [12, 13, 14, 15, 4, 16, 17, 1, 18, 19, 20, 21, 22, 23, 24, 25, 26, 27, 28, 29, 30, 31, 32, 33, 34, 35, 36, 37, 38, 39, 40, 41, 42, 43, 44, 45, 46, 47, 48, 49, 50, 51, 52, 53, 54, 55, 56, 57, 58, 59, 60, 61, 62, 63, 64, 65, 66, 67, 68, 69, 70, 71] (by decide +kernel) (by decide +kernel)
set_option maxRecDepth 20000 in
theorem gX3_enough_X3_coverOf : GoodIn wsX3_enough (wsV RX3 138 RX3 yX3_coverOf wsX3_coverOf) := goodIn_app (goodIn_of _ (by decide +kernel)) ggX3_enough_X3_coverOf
theorem dX3_enough_0 : decode cX3_enough 0 = .ok (.iload_n 1, 1) := by decide +kernel
theorem dX3_enough_1 : decode cX3_enough 1 = .ok (.invokestatic 43, 3) := by decide +kernel
theorem dX3_enough_4 : decode cX3_enough 4 = .ok (.ifCond .ne 5, 3) := by decide +kernel
theorem dX3_enough_7 : decode cX3_enough 7 = .ok (.iconst (-1), 1) := by decide +kernel
theorem dX3_enough_8 : decode cX3_enough 8 = .ok (.ireturn, 1) := by decide +kernel
theorem dX3_enough_9 : decode cX3_enough 9 = .ok (.iload_n 3, 1) := by decide +kernel
theorem dX3_enough_10 : decode cX3_enough 10 = .ok (.iconst 1, 1) := by decide +kernel
theorem dX3_enough_11 : decode cX3_enough 11 = .ok (.bipush 99, 2) := by decide +kernel
theorem dX3_enough_13 : decode cX3_enough 13 = .ok (.invokestatic 39, 3) := by decide +kernel
theorem dX3_enough_16 : decode cX3_enough 16 = .ok (.ifCond .eq 12, 3) := by decide +kernel
theorem dX3_enough_19 : decode cX3_enough 19 = .ok (.iload_n 2, 1) := by decide +kernel
theorem dX3_enough_20 : decode cX3_enough 20 = .ok (.iconst 0, 1) := by decide +kernel
theorem dX3_enough_21 : decode cX3_enough 21 = .ok (.iload_n 3, 1) := by decide +kernel
theorem dX3_enough_22 : decode cX3_enough 22 = .ok (.invokestatic 39, 3) := by decide +kernel
theorem dX3_enough_25 : decode cX3_enough 25 = .ok (.ifCond .ne 6, 3) := by decide +kernel
theorem dX3_enough_28 : decode cX3_enough 28 = .ok (.bipush (-2), 2) := by decide +kernel
theorem dX3_enough_30 : decode cX3_enough 30 = .ok (.ireturn, 1) := by decide +kernel
theorem dX3_enough_31 : decode cX3_enough 31 = .ok (.iconst 0, 1) := by decide +kernel
theorem dX3_enough_32 : decode cX3_enough 32 = .ok (.istore 4, 2) := by decide +kernel
theorem dX3_enough_34 : decode cX3_enough 34 = .ok (.iconst 0, 1) := by decide +kernel
theorem dX3_enough_35 : decode cX3_enough 35 = .ok (.istore 5, 2) := by decide +kernel
theorem dX3_enough_37 : decode cX3_enough 37 = .ok (.iload 5, 2) := by decide +kernel
theorem dX3_enough_39 : decode cX3_enough 39 = .ok (.bipush 16, 2) := by decide +kernel
theorem dX3_enough_41 : decode cX3_enough 41 = .ok (.if_icmp .ge 42, 3) := by decide +kernel
theorem dX3_enough_44 : decode cX3_enough 44 = .ok (.iload 4, 2) := by decide +kernel
theorem dX3_enough_46 : decode cX3_enough 46 = .ok (.aload_n 0, 1) := by decide +kernel
theorem dX3_enough_47 : decode cX3_enough 47 = .ok (.iload_n 1, 1) := by decide +kernel
theorem dX3_enough_48 : decode cX3_enough 48 = .ok (.iload 5, 2) := by decide +kernel
theorem dX3_enough_50 : decode cX3_enough 50 = .ok (.invokevirtual 138, 3) := by decide +kernel
theorem dX3_enough_53 : decode cX3_enough 53 = .ok (.iload_n 3, 1) := by decide +kernel
theorem dX3_enough_54 : decode cX3_enough 54 = .ok (.i2l, 1) := by decide +kernel
theorem dX3_enough_55 : decode cX3_enough 55 = .ok (.lmul, 1) := by decide +kernel
theorem dX3_enough_56 : decode cX3_enough 56 = .ok (.iload_n 2, 1) := by decide +kernel
theorem dX3_enough_57 : decode cX3_enough 57 = .ok (.i2l, 1) := by decide +kernel
theorem dX3_enough_58 : decode cX3_enough 58 = .ok (.ldc2_w 111, 3) := by decide +kernel
theorem dX3_enough_61 : decode cX3_enough 61 = .ok (.lmul, 1) := by decide +kernel
theorem dX3_enough_62 : decode cX3_enough 62 = .ok (.lcmp, 1) := by decide +kernel
theorem dX3_enough_63 : decode cX3_enough 63 = .ok (.ifCond .lt 10, 3) := by decide +kernel
theorem dX3_enough_66 : decode cX3_enough 66 = .ok (.iconst 1, 1) := by decide +kernel
theorem dX3_enough_67 : decode cX3_enough 67 = .ok (.iload 5, 2) := by decide +kernel
theorem dX3_enough_69 : decode cX3_enough 69 = .ok (.ishl, 1) := by decide +kernel
theorem dX3_enough_70 : decode cX3_enough 70 = .ok (.goto 4, 3) := by decide +kernel
theorem dX3_enough_73 : decode cX3_enough 73 = .ok (.iconst 0, 1) := by decide +kernel
theorem dX3_enough_74 : decode cX3_enough 74 = .ok (.ior, 1) := by decide +kernel
theorem dX3_enough_75 : decode cX3_enough 75 = .ok (.istore 4, 2) := by decide +kernel
theorem dX3_enough_77 : decode cX3_enough 77 = .ok (.iinc 5 1, 3) := by decide +kernel
theorem dX3_enough_80 : decode cX3_enough 80 = .ok (.goto (-43), 3) := by decide +kernel
theorem dX3_enough_83 : decode cX3_enough 83 = .ok (.iload 4, 2) := by decide +kernel
theorem dX3_enough_85 : decode cX3_enough 85 = .ok (.ireturn, 1) := by decide +kernel
set_option maxRecDepth 20000 in
theorem ggX3_field_X3_in : GoodIn wsX3_field wsX3_in := goodIn_r _ [4] (by decide +kernel) (by decide +kernel)
set_option maxRecDepth 20000 in
theorem gX3_field_X3_in : GoodIn wsX3_field (va_wsS RX3 39 yX3_in wsX3_in) := goodIn_app (goodIn_of _ (by decide +kernel)) ggX3_field_X3_in
set_option maxRecDepth 20000 in
theorem ggX3_field_X3_openOf : GoodIn wsX3_field wsX3_openOf := goodIn_r _ [8, 9, 10, 11, 12, 3, 13, 14, 15, 16, 17, 18, 19, 20, 21, 22, 23, 24, 25, 26, 27, 28, 29, 30, 31, 32, 33, 34, 35, 36, 37, 38, 39, 40, 41, 42, 43, 44, 45, 46, 47, 48, 49, 50, 51, 52, 53, 54, 55, 56, 57, 58, 59, 60, 61, 66, 67, 68, 69, 70, 71, 72, 73, 74, 75, 76] (by decide +kernel) (by decide +kernel)
set_option maxRecDepth 20000 in
theorem gX3_field_X3_openOf : GoodIn wsX3_field (wsV RX3 149 RX3 yX3_openOf wsX3_openOf) := goodIn_app (goodIn_of _ (by decide +kernel)) ggX3_field_X3_openOf
set_option maxRecDepth 20000 in
theorem ggX3_field_X3_whole : GoodIn wsX3_field wsX3_whole := goodIn_r _ [64, 65] (by decide +kernel) (by decide +kernel)
set_option maxRecDepth 20000 in
theorem gX3_field_X3_whole : GoodIn wsX3_field (va_wsS RX3 146 yX3_whole wsX3_whole) := goodIn_app (goodIn_of _ (by decide +kernel)) ggX3_field_X3_whole
theorem dX3_field_0 : decode cX3_field 0 = .ok (.iload_n 1, 1) := by decide +kernel
theorem dX3_field_1 : decode cX3_field 1 = .ok (.iconst 0, 1) := by decide +kernel
theorem dX3_field_2 : decode cX3_field 2 = .ok (.iconst 3, 1) := by decide +kernel
theorem dX3_field_3 : decode cX3_field 3 = .ok (.invokestatic 39, 3) := by decide +kernel
theorem dX3_field_6 : decode cX3_field 6 = .ok (.ifCond .ne 6, 3) := by decide +kernel
theorem dX3_field_9 : decode cX3_field 9 = .ok (.bipush (-2), 2) := by decide +kernel
theorem dX3_field_11 : decode cX3_field 11 = .ok (.ireturn, 1) := by decide +kernel
theorem dX3_field_12 : decode cX3_field 12 = .ok (.iconst 0, 1) := by decide +kernel
theorem dX3_field_13 : decode cX3_field 13 = .ok (.istore_n 2, 1) := by decide +kernel
theorem dX3_field_14 : decode cX3_field 14 = .ok (.iconst 0, 1) := by decide +kernel
theorem dX3_field_15 : decode cX3_field 15 = .ok (.istore_n 3, 1) := by decide +kernel
theorem dX3_field_16 : decode cX3_field 16 = .ok (.iconst 0, 1) := by decide +kernel
theorem dX3_field_17 : decode cX3_field 17 = .ok (.istore 4, 2) := by decide +kernel
theorem dX3_field_19 : decode cX3_field 19 = .ok (.iconst 0, 1) := by decide +kernel
theorem dX3_field_20 : decode cX3_field 20 = .ok (.istore 5, 2) := by decide +kernel
theorem dX3_field_22 : decode cX3_field 22 = .ok (.iconst 0, 1) := by decide +kernel
theorem dX3_field_23 : decode cX3_field 23 = .ok (.istore 6, 2) := by decide +kernel
theorem dX3_field_25 : decode cX3_field 25 = .ok (.iload 6, 2) := by decide +kernel
theorem dX3_field_27 : decode cX3_field 27 = .ok (.bipush 16, 2) := by decide +kernel
theorem dX3_field_29 : decode cX3_field 29 = .ok (.if_icmp .ge 89, 3) := by decide +kernel
theorem dX3_field_32 : decode cX3_field 32 = .ok (.aload_n 0, 1) := by decide +kernel
theorem dX3_field_33 : decode cX3_field 33 = .ok (.iload 6, 2) := by decide +kernel
theorem dX3_field_35 : decode cX3_field 35 = .ok (.invokevirtual 149, 3) := by decide +kernel
theorem dX3_field_38 : decode cX3_field 38 = .ok (.lstore 7, 2) := by decide +kernel
theorem dX3_field_40 : decode cX3_field 40 = .ok (.lload 7, 2) := by decide +kernel
theorem dX3_field_42 : decode cX3_field 42 = .ok (.aload_n 0, 1) := by decide +kernel
theorem dX3_field_43 : decode cX3_field 43 = .ok (.iload_n 2, 1) := by decide +kernel
theorem dX3_field_44 : decode cX3_field 44 = .ok (.invokevirtual 149, 3) := by decide +kernel
theorem dX3_field_47 : decode cX3_field 47 = .ok (.lcmp, 1) := by decide +kernel
theorem dX3_field_48 : decode cX3_field 48 = .ok (.ifCond .ge 8, 3) := by decide +kernel
theorem dX3_field_51 : decode cX3_field 51 = .ok (.iload 6, 2) := by decide +kernel
theorem dX3_field_53 : decode cX3_field 53 = .ok (.goto 4, 3) := by decide +kernel
theorem dX3_field_56 : decode cX3_field 56 = .ok (.iload_n 2, 1) := by decide +kernel
theorem dX3_field_57 : decode cX3_field 57 = .ok (.istore_n 2, 1) := by decide +kernel
theorem dX3_field_58 : decode cX3_field 58 = .ok (.lload 7, 2) := by decide +kernel
theorem dX3_field_60 : decode cX3_field 60 = .ok (.aload_n 0, 1) := by decide +kernel
theorem dX3_field_61 : decode cX3_field 61 = .ok (.iload_n 3, 1) := by decide +kernel
theorem dX3_field_62 : decode cX3_field 62 = .ok (.invokevirtual 149, 3) := by decide +kernel
theorem dX3_field_65 : decode cX3_field 65 = .ok (.lcmp, 1) := by decide +kernel
theorem dX3_field_66 : decode cX3_field 66 = .ok (.ifCond .le 8, 3) := by decide +kernel
theorem dX3_field_69 : decode cX3_field 69 = .ok (.iload 6, 2) := by decide +kernel
theorem dX3_field_71 : decode cX3_field 71 = .ok (.goto 4, 3) := by decide +kernel
theorem dX3_field_74 : decode cX3_field 74 = .ok (.iload_n 3, 1) := by decide +kernel
theorem dX3_field_75 : decode cX3_field 75 = .ok (.istore_n 3, 1) := by decide +kernel
theorem dX3_field_76 : decode cX3_field 76 = .ok (.iload 4, 2) := by decide +kernel
theorem dX3_field_78 : decode cX3_field 78 = .ok (.lload 7, 2) := by decide +kernel
theorem dX3_field_80 : decode cX3_field 80 = .ok (.lconst 0, 1) := by decide +kernel
theorem dX3_field_81 : decode cX3_field 81 = .ok (.lcmp, 1) := by decide +kernel
theorem dX3_field_82 : decode cX3_field 82 = .ok (.ifCond .ne 7, 3) := by decide +kernel
theorem dX3_field_85 : decode cX3_field 85 = .ok (.iconst 1, 1) := by decide +kernel
theorem dX3_field_86 : decode cX3_field 86 = .ok (.goto 4, 3) := by decide +kernel
theorem dX3_field_89 : decode cX3_field 89 = .ok (.iconst 0, 1) := by decide +kernel
theorem dX3_field_90 : decode cX3_field 90 = .ok (.iadd, 1) := by decide +kernel
theorem dX3_field_91 : decode cX3_field 91 = .ok (.istore 4, 2) := by decide +kernel
theorem dX3_field_93 : decode cX3_field 93 = .ok (.iload 5, 2) := by decide +kernel
theorem dX3_field_95 : decode cX3_field 95 = .ok (.lload 7, 2) := by decide +kernel
theorem dX3_field_97 : decode cX3_field 97 = .ok (.invokestatic 146, 3) := by decide +kernel
theorem dX3_field_100 : decode cX3_field 100 = .ok (.lcmp, 1) := by decide +kernel
theorem dX3_field_101 : decode cX3_field 101 = .ok (.ifCond .ne 7, 3) := by decide +kernel
theorem dX3_field_104 : decode cX3_field 104 = .ok (.iconst 1, 1) := by decide +kernel
theorem dX3_field_105 : decode cX3_field 105 = .ok (.goto 4, 3) := by decide +kernel
theorem dX3_field_108 : decode cX3_field 108 = .ok (.iconst 0, 1) := by decide +kernel
theorem dX3_field_109 : decode cX3_field 109 = .ok (.iadd, 1) := by decide +kernel
theorem dX3_field_110 : decode cX3_field 110 = .ok (.istore 5, 2) := by decide +kernel
theorem dX3_field_112 : decode cX3_field 112 = .ok (.iinc 6 1, 3) := by decide +kernel
theorem dX3_field_115 : decode cX3_field 115 = .ok (.goto (-90), 3) := by decide +kernel
theorem dX3_field_118 : decode cX3_field 118 = .ok (.iload_n 1, 1) := by decide +kernel
theorem dX3_field_119 : decode cX3_field 119 = .ok (.ifCond .ne 7, 3) := by decide +kernel
theorem dX3_field_122 : decode cX3_field 122 = .ok (.iload_n 2, 1) := by decide +kernel
theorem dX3_field_123 : decode cX3_field 123 = .ok (.goto 24, 3) := by decide +kernel
theorem dX3_field_126 : decode cX3_field 126 = .ok (.iload_n 1, 1) := by decide +kernel
theorem dX3_field_127 : decode cX3_field 127 = .ok (.iconst 1, 1) := by decide +kernel
theorem dX3_field_128 : decode cX3_field 128 = .ok (.if_icmp .ne 7, 3) := by decide +kernel
theorem dX3_field_131 : decode cX3_field 131 = .ok (.iload_n 3, 1) := by decide +kernel
theorem dX3_field_132 : decode cX3_field 132 = .ok (.goto 15, 3) := by decide +kernel
theorem dX3_field_135 : decode cX3_field 135 = .ok (.iload_n 1, 1) := by decide +kernel
theorem dX3_field_136 : decode cX3_field 136 = .ok (.iconst 2, 1) := by decide +kernel
theorem dX3_field_137 : decode cX3_field 137 = .ok (.if_icmp .ne 8, 3) := by decide +kernel
theorem dX3_field_140 : decode cX3_field 140 = .ok (.iload 4, 2) := by decide +kernel
theorem dX3_field_142 : decode cX3_field 142 = .ok (.goto 5, 3) := by decide +kernel
theorem dX3_field_145 : decode cX3_field 145 = .ok (.iload 5, 2) := by decide +kernel
theorem dX3_field_147 : decode cX3_field 147 = .ok (.ireturn, 1) := by decide +kernel
set_option maxRecDepth 20000 in
theorem ggX3_fullMoved_X3_coverMoved : GoodIn wsX3_fullMoved wsX3_coverMoved := goodIn_r _ [6, 7, 1, 8, 9, 10, 11, 5, 12, 13, 14, 15, 16, 17, 18, 19, 20, 21, 22, 23, 24, 25, 26, 27, 28, 29, 30, 31, 32, 33, 34, 35, 36, 37, 38, 39, 40, 41, 42, 43, 44, 45, 46, 47, 48, 49, 50, 51, 52, 53, 54, 55, 56, 57, 58, 59, 60, 61] (by decide +kernel) (by decide +kernel)
set_option maxRecDepth 20000 in
theorem gX3_fullMoved_X3_coverMoved : GoodIn wsX3_fullMoved (wsV RX3 115 RX3 yX3_coverMoved wsX3_coverMoved) := goodIn_app (goodIn_of _ (by decide +kernel)) ggX3_fullMoved_X3_coverMoved
theorem dX3_fullMoved_0 : decode cX3_fullMoved 0 = .ok (.iconst 0, 1) := by decide +kernel
theorem dX3_fullMoved_1 : decode cX3_fullMoved 1 = .ok (.istore 4, 2) := by decide +kernel
theorem dX3_fullMoved_3 : decode cX3_fullMoved 3 = .ok (.iconst 0, 1) := by decide +kernel
theorem dX3_fullMoved_4 : decode cX3_fullMoved 4 = .ok (.istore 5, 2) := by decide +kernel
theorem dX3_fullMoved_6 : decode cX3_fullMoved 6 = .ok (.iload 5, 2) := by decide +kernel
theorem dX3_fullMoved_8 : decode cX3_fullMoved 8 = .ok (.bipush 16, 2) := by decide +kernel
theorem dX3_fullMoved_10 : decode cX3_fullMoved 10 = .ok (.if_icmp .ge 35, 3) := by decide +kernel
theorem dX3_fullMoved_13 : decode cX3_fullMoved 13 = .ok (.iload 4, 2) := by decide +kernel
theorem dX3_fullMoved_15 : decode cX3_fullMoved 15 = .ok (.aload_n 0, 1) := by decide +kernel
theorem dX3_fullMoved_16 : decode cX3_fullMoved 16 = .ok (.iload_n 1, 1) := by decide +kernel
theorem dX3_fullMoved_17 : decode cX3_fullMoved 17 = .ok (.iload 5, 2) := by decide +kernel
theorem dX3_fullMoved_19 : decode cX3_fullMoved 19 = .ok (.iload_n 2, 1) := by decide +kernel
theorem dX3_fullMoved_20 : decode cX3_fullMoved 20 = .ok (.iload_n 3, 1) := by decide +kernel
theorem dX3_fullMoved_21 : decode cX3_fullMoved 21 = .ok (.invokevirtual 115, 3) := by decide +kernel
theorem dX3_fullMoved_24 : decode cX3_fullMoved 24 = .ok (.ldc2_w 111, 3) := by decide +kernel
theorem dX3_fullMoved_27 : decode cX3_fullMoved 27 = .ok (.lcmp, 1) := by decide +kernel
theorem dX3_fullMoved_28 : decode cX3_fullMoved 28 = .ok (.ifCond .ne 7, 3) := by decide +kernel
theorem dX3_fullMoved_31 : decode cX3_fullMoved 31 = .ok (.iconst 1, 1) := by decide +kernel
theorem dX3_fullMoved_32 : decode cX3_fullMoved 32 = .ok (.goto 4, 3) := by decide +kernel
theorem dX3_fullMoved_35 : decode cX3_fullMoved 35 = .ok (.iconst 0, 1) := by decide +kernel
theorem dX3_fullMoved_36 : decode cX3_fullMoved 36 = .ok (.iadd, 1) := by decide +kernel
theorem dX3_fullMoved_37 : decode cX3_fullMoved 37 = .ok (.istore 4, 2) := by decide +kernel
theorem dX3_fullMoved_39 : decode cX3_fullMoved 39 = .ok (.iinc 5 1, 3) := by decide +kernel
theorem dX3_fullMoved_42 : decode cX3_fullMoved 42 = .ok (.goto (-36), 3) := by decide +kernel
theorem dX3_fullMoved_45 : decode cX3_fullMoved 45 = .ok (.iload 4, 2) := by decide +kernel
theorem dX3_fullMoved_47 : decode cX3_fullMoved 47 = .ok (.ireturn, 1) := by decide +kernel
set_option maxRecDepth 20000 in
theorem ggX3_best_X3_isLayer : GoodIn wsX3_best wsX3_isLayer := goodIn_r _ [5, 6, 7, 4, 8] (by decide +kernel) (by decide +kernel)
set_option maxRecDepth 20000 in
theorem gX3_best_X3_isLayer : GoodIn wsX3_best (va_wsS RX3 43 yX3_isLayer wsX3_isLayer) := goodIn_app (goodIn_of _ (by decide +kernel)) ggX3_best_X3_isLayer
set_option maxRecDepth 20000 in
theorem ggX3_best_X3_in : GoodIn wsX3_best wsX3_in := goodIn_r _ [8] (by decide +kernel) (by decide +kernel)
set_option maxRecDepth 20000 in
theorem gX3_best_X3_in : GoodIn wsX3_best (va_wsS RX3 39 yX3_in wsX3_in) := goodIn_app (goodIn_of _ (by decide +kernel)) ggX3_best_X3_in
set_option maxRecDepth 20000 in
theorem ggX3_best_X3_canMove : GoodIn wsX3_best wsX3_canMove := goodIn_r _ [12, 1, 13, 14, 4, 15, 16, 17, 18, 6, 7, 8, 68, 69, 70, 71, 72, 73, 74, 75, 76, 77, 78] (by decide +kernel) (by decide +kernel)
set_option maxRecDepth 20000 in
theorem gX3_best_X3_canMove : GoodIn wsX3_best (wsV RX3 58 RX3 yX3_canMove wsX3_canMove) := goodIn_app (goodIn_of _ (by decide +kernel)) ggX3_best_X3_canMove
set_option maxRecDepth 20000 in
theorem ggX3_best_X3_fullMoved : GoodIn wsX3_best wsX3_fullMoved := goodIn_r _ [22, 23, 24, 25, 26, 4, 27, 1, 28, 29, 30, 31, 32, 33, 34, 35, 36, 37, 38, 39, 40, 41, 13, 14, 15, 42, 43, 44, 45, 46, 47, 48, 49, 50, 51, 52, 53, 54, 55, 56, 57, 58, 59, 60, 61, 62, 63, 64, 65, 66, 67, 68, 69, 70, 71, 72, 73, 74, 75, 76, 77, 78] (by decide +kernel) (by decide +kernel)
set_option maxRecDepth 20000 in
theorem gX3_best_X3_fullMoved : GoodIn wsX3_best (wsV RX3 155 RX3 yX3_fullMoved wsX3_fullMoved) := goodIn_app (goodIn_of _ (by decide +kernel)) ggX3_best_X3_fullMoved
theorem dX3_best_0 : decode cX3_best 0 = .ok (.iload_n 1, 1) := by decide +kernel
theorem dX3_best_1 : decode cX3_best 1 = .ok (.invokestatic 43, 3) := by decide +kernel
theorem dX3_best_4 : decode cX3_best 4 = .ok (.ifCond .ne 5, 3) := by decide +kernel
theorem dX3_best_7 : decode cX3_best 7 = .ok (.iconst (-1), 1) := by decide +kernel
theorem dX3_best_8 : decode cX3_best 8 = .ok (.ireturn, 1) := by decide +kernel
theorem dX3_best_9 : decode cX3_best 9 = .ok (.iload_n 2, 1) := by decide +kernel
theorem dX3_best_10 : decode cX3_best 10 = .ok (.iconst 0, 1) := by decide +kernel
theorem dX3_best_11 : decode cX3_best 11 = .ok (.iconst 2, 1) := by decide +kernel
theorem dX3_best_12 : decode cX3_best 12 = .ok (.invokestatic 39, 3) := by decide +kernel
theorem dX3_best_15 : decode cX3_best 15 = .ok (.ifCond .ne 6, 3) := by decide +kernel
theorem dX3_best_18 : decode cX3_best 18 = .ok (.bipush (-2), 2) := by decide +kernel
theorem dX3_best_20 : decode cX3_best 20 = .ok (.ireturn, 1) := by decide +kernel
theorem dX3_best_21 : decode cX3_best 21 = .ok (.aload_n 0, 1) := by decide +kernel
theorem dX3_best_22 : decode cX3_best 22 = .ok (.getfield 7, 3) := by decide +kernel
theorem dX3_best_25 : decode cX3_best 25 = .ok (.iconst 0, 1) := by decide +kernel
theorem dX3_best_26 : decode cX3_best 26 = .ok (.iload_n 1, 1) := by decide +kernel
theorem dX3_best_27 : decode cX3_best 27 = .ok (.iadd, 1) := by decide +kernel
theorem dX3_best_28 : decode cX3_best 28 = .ok (.iaload, 1) := by decide +kernel
theorem dX3_best_29 : decode cX3_best 29 = .ok (.ifCond .ne 6, 3) := by decide +kernel
theorem dX3_best_32 : decode cX3_best 32 = .ok (.bipush (-6), 2) := by decide +kernel
theorem dX3_best_34 : decode cX3_best 34 = .ok (.ireturn, 1) := by decide +kernel
theorem dX3_best_35 : decode cX3_best 35 = .ok (.bipush (-6), 2) := by decide +kernel
theorem dX3_best_37 : decode cX3_best 37 = .ok (.istore_n 3, 1) := by decide +kernel
theorem dX3_best_38 : decode cX3_best 38 = .ok (.iconst 0, 1) := by decide +kernel
theorem dX3_best_39 : decode cX3_best 39 = .ok (.istore 4, 2) := by decide +kernel
theorem dX3_best_41 : decode cX3_best 41 = .ok (.iconst 0, 1) := by decide +kernel
theorem dX3_best_42 : decode cX3_best 42 = .ok (.istore 5, 2) := by decide +kernel
theorem dX3_best_44 : decode cX3_best 44 = .ok (.bipush (-12), 2) := by decide +kernel
theorem dX3_best_46 : decode cX3_best 46 = .ok (.istore 6, 2) := by decide +kernel
theorem dX3_best_48 : decode cX3_best 48 = .ok (.iload 6, 2) := by decide +kernel
theorem dX3_best_50 : decode cX3_best 50 = .ok (.bipush 12, 2) := by decide +kernel
theorem dX3_best_52 : decode cX3_best 52 = .ok (.if_icmp .gt 71, 3) := by decide +kernel
theorem dX3_best_55 : decode cX3_best 55 = .ok (.bipush (-12), 2) := by decide +kernel
theorem dX3_best_57 : decode cX3_best 57 = .ok (.istore 7, 2) := by decide +kernel
theorem dX3_best_59 : decode cX3_best 59 = .ok (.iload 7, 2) := by decide +kernel
theorem dX3_best_61 : decode cX3_best 61 = .ok (.bipush 12, 2) := by decide +kernel
theorem dX3_best_63 : decode cX3_best 63 = .ok (.if_icmp .gt 54, 3) := by decide +kernel
theorem dX3_best_66 : decode cX3_best 66 = .ok (.aload_n 0, 1) := by decide +kernel
theorem dX3_best_67 : decode cX3_best 67 = .ok (.iload_n 1, 1) := by decide +kernel
theorem dX3_best_68 : decode cX3_best 68 = .ok (.iload 6, 2) := by decide +kernel
theorem dX3_best_70 : decode cX3_best 70 = .ok (.iload 7, 2) := by decide +kernel
theorem dX3_best_72 : decode cX3_best 72 = .ok (.invokevirtual 58, 3) := by decide +kernel
theorem dX3_best_75 : decode cX3_best 75 = .ok (.ifCond .eq 15, 3) := by decide +kernel
theorem dX3_best_78 : decode cX3_best 78 = .ok (.aload_n 0, 1) := by decide +kernel
theorem dX3_best_79 : decode cX3_best 79 = .ok (.iload_n 1, 1) := by decide +kernel
theorem dX3_best_80 : decode cX3_best 80 = .ok (.iload 6, 2) := by decide +kernel
theorem dX3_best_82 : decode cX3_best 82 = .ok (.iload 7, 2) := by decide +kernel
theorem dX3_best_84 : decode cX3_best 84 = .ok (.invokevirtual 155, 3) := by decide +kernel
theorem dX3_best_87 : decode cX3_best 87 = .ok (.goto 5, 3) := by decide +kernel
theorem dX3_best_90 : decode cX3_best 90 = .ok (.bipush (-6), 2) := by decide +kernel
theorem dX3_best_92 : decode cX3_best 92 = .ok (.istore 8, 2) := by decide +kernel
theorem dX3_best_94 : decode cX3_best 94 = .ok (.iload 8, 2) := by decide +kernel
theorem dX3_best_96 : decode cX3_best 96 = .ok (.iload_n 3, 1) := by decide +kernel
theorem dX3_best_97 : decode cX3_best 97 = .ok (.if_icmp .le 14, 3) := by decide +kernel
theorem dX3_best_100 : decode cX3_best 100 = .ok (.iload 8, 2) := by decide +kernel
theorem dX3_best_102 : decode cX3_best 102 = .ok (.istore_n 3, 1) := by decide +kernel
theorem dX3_best_103 : decode cX3_best 103 = .ok (.iload 6, 2) := by decide +kernel
theorem dX3_best_105 : decode cX3_best 105 = .ok (.istore 4, 2) := by decide +kernel
theorem dX3_best_107 : decode cX3_best 107 = .ok (.iload 7, 2) := by decide +kernel
theorem dX3_best_109 : decode cX3_best 109 = .ok (.istore 5, 2) := by decide +kernel
end
section
theorem dX3_best_111 : decode cX3_best 111 = .ok (.iinc 7 1, 3) := by decide +kernel
theorem dX3_best_114 : decode cX3_best 114 = .ok (.goto (-55), 3) := by decide +kernel
theorem dX3_best_117 : decode cX3_best 117 = .ok (.iinc 6 1, 3) := by decide +kernel
theorem dX3_best_120 : decode cX3_best 120 = .ok (.goto (-72), 3) := by decide +kernel
theorem dX3_best_123 : decode cX3_best 123 = .ok (.iload_n 2, 1) := by decide +kernel
theorem dX3_best_124 : decode cX3_best 124 = .ok (.ifCond .ne 11, 3) := by decide +kernel
theorem dX3_best_127 : decode cX3_best 127 = .ok (.iload 4, 2) := by decide +kernel
theorem dX3_best_129 : decode cX3_best 129 = .ok (.bipush 100, 2) := by decide +kernel
theorem dX3_best_131 : decode cX3_best 131 = .ok (.iadd, 1) := by decide +kernel
theorem dX3_best_132 : decode cX3_best 132 = .ok (.goto 17, 3) := by decide +kernel
theorem dX3_best_135 : decode cX3_best 135 = .ok (.iload_n 2, 1) := by decide +kernel
theorem dX3_best_136 : decode cX3_best 136 = .ok (.iconst 1, 1) := by decide +kernel
theorem dX3_best_137 : decode cX3_best 137 = .ok (.if_icmp .ne 11, 3) := by decide +kernel
theorem dX3_best_140 : decode cX3_best 140 = .ok (.iload 5, 2) := by decide +kernel
theorem dX3_best_142 : decode cX3_best 142 = .ok (.bipush 100, 2) := by decide +kernel
theorem dX3_best_144 : decode cX3_best 144 = .ok (.iadd, 1) := by decide +kernel
theorem dX3_best_145 : decode cX3_best 145 = .ok (.goto 4, 3) := by decide +kernel
theorem dX3_best_148 : decode cX3_best 148 = .ok (.iload_n 3, 1) := by decide +kernel
theorem dX3_best_149 : decode cX3_best 149 = .ok (.ireturn, 1) := by decide +kernel
set_option maxRecDepth 20000 in
theorem ggX3_same_X3_isLayer : GoodIn wsX3_same wsX3_isLayer := goodIn_r _ [4, 5, 6, 3, 7] (by decide +kernel) (by decide +kernel)
set_option maxRecDepth 20000 in
theorem gX3_same_X3_isLayer : GoodIn wsX3_same (va_wsS RX3 43 yX3_isLayer wsX3_isLayer) := goodIn_app (goodIn_of _ (by decide +kernel)) ggX3_same_X3_isLayer
set_option maxRecDepth 20000 in
theorem ggX3_same_X3_coverOf : GoodIn wsX3_same wsX3_coverOf := goodIn_r _ [11, 12, 13, 14, 3, 15, 16, 17, 18, 19, 20, 21, 22, 23, 24, 25, 26, 27, 28, 29, 30, 31, 32, 33, 34, 35, 36, 37, 38, 39, 40, 41, 42, 43, 44, 45, 46, 47, 48, 49, 50, 51, 52, 53, 54, 55, 56, 57, 58, 59, 60, 61, 62, 63, 64, 65, 66, 67, 68, 69, 70, 71] (by decide +kernel) (by decide +kernel)
set_option maxRecDepth 20000 in
theorem gX3_same_X3_coverOf : GoodIn wsX3_same (wsV RX3 138 RX3 yX3_coverOf wsX3_coverOf) := goodIn_app (goodIn_of _ (by decide +kernel)) ggX3_same_X3_coverOf
theorem dX3_same_0 : decode cX3_same 0 = .ok (.iload_n 1, 1) := by decide +kernel
theorem dX3_same_1 : decode cX3_same 1 = .ok (.invokestatic 43, 3) := by decide +kernel
theorem dX3_same_4 : decode cX3_same 4 = .ok (.ifCond .eq 10, 3) := by decide +kernel
theorem dX3_same_7 : decode cX3_same 7 = .ok (.iload_n 2, 1) := by decide +kernel
theorem dX3_same_8 : decode cX3_same 8 = .ok (.invokestatic 43, 3) := by decide +kernel
theorem dX3_same_11 : decode cX3_same 11 = .ok (.ifCond .ne 5, 3) := by decide +kernel
theorem dX3_same_14 : decode cX3_same 14 = .ok (.iconst (-1), 1) := by decide +kernel
theorem dX3_same_15 : decode cX3_same 15 = .ok (.ireturn, 1) := by decide +kernel
theorem dX3_same_16 : decode cX3_same 16 = .ok (.iconst 0, 1) := by decide +kernel
theorem dX3_same_17 : decode cX3_same 17 = .ok (.istore_n 3, 1) := by decide +kernel
theorem dX3_same_18 : decode cX3_same 18 = .ok (.iconst 0, 1) := by decide +kernel
theorem dX3_same_19 : decode cX3_same 19 = .ok (.istore 4, 2) := by decide +kernel
theorem dX3_same_21 : decode cX3_same 21 = .ok (.iload 4, 2) := by decide +kernel
theorem dX3_same_23 : decode cX3_same 23 = .ok (.bipush 16, 2) := by decide +kernel
theorem dX3_same_25 : decode cX3_same 25 = .ok (.if_icmp .ge 38, 3) := by decide +kernel
theorem dX3_same_28 : decode cX3_same 28 = .ok (.iload_n 3, 1) := by decide +kernel
theorem dX3_same_29 : decode cX3_same 29 = .ok (.aload_n 0, 1) := by decide +kernel
theorem dX3_same_30 : decode cX3_same 30 = .ok (.iload_n 1, 1) := by decide +kernel
theorem dX3_same_31 : decode cX3_same 31 = .ok (.iload 4, 2) := by decide +kernel
theorem dX3_same_33 : decode cX3_same 33 = .ok (.invokevirtual 138, 3) := by decide +kernel
theorem dX3_same_36 : decode cX3_same 36 = .ok (.aload_n 0, 1) := by decide +kernel
theorem dX3_same_37 : decode cX3_same 37 = .ok (.iload_n 2, 1) := by decide +kernel
theorem dX3_same_38 : decode cX3_same 38 = .ok (.iload 4, 2) := by decide +kernel
theorem dX3_same_40 : decode cX3_same 40 = .ok (.invokevirtual 138, 3) := by decide +kernel
theorem dX3_same_43 : decode cX3_same 43 = .ok (.lcmp, 1) := by decide +kernel
theorem dX3_same_44 : decode cX3_same 44 = .ok (.ifCond .ne 10, 3) := by decide +kernel
theorem dX3_same_47 : decode cX3_same 47 = .ok (.iconst 1, 1) := by decide +kernel
theorem dX3_same_48 : decode cX3_same 48 = .ok (.iload 4, 2) := by decide +kernel
theorem dX3_same_50 : decode cX3_same 50 = .ok (.ishl, 1) := by decide +kernel
theorem dX3_same_51 : decode cX3_same 51 = .ok (.goto 4, 3) := by decide +kernel
theorem dX3_same_54 : decode cX3_same 54 = .ok (.iconst 0, 1) := by decide +kernel
theorem dX3_same_55 : decode cX3_same 55 = .ok (.ior, 1) := by decide +kernel
theorem dX3_same_56 : decode cX3_same 56 = .ok (.istore_n 3, 1) := by decide +kernel
theorem dX3_same_57 : decode cX3_same 57 = .ok (.iinc 4 1, 3) := by decide +kernel
theorem dX3_same_60 : decode cX3_same 60 = .ok (.goto (-39), 3) := by decide +kernel
theorem dX3_same_63 : decode cX3_same 63 = .ok (.iload_n 3, 1) := by decide +kernel
theorem dX3_same_64 : decode cX3_same 64 = .ok (.ireturn, 1) := by decide +kernel
set_option maxRecDepth 20000 in
theorem ggX3_image_X3_in : GoodIn wsX3_image wsX3_in := goodIn_r _ [7] (by decide +kernel) (by decide +kernel)
set_option maxRecDepth 20000 in
theorem gX3_image_X3_in : GoodIn wsX3_image (va_wsS RX3 39 yX3_in wsX3_in) := goodIn_app (goodIn_of _ (by decide +kernel)) ggX3_image_X3_in
theorem dX3_image_0 : decode cX3_image 0 = .ok (.iload_n 1, 1) := by decide +kernel
theorem dX3_image_1 : decode cX3_image 1 = .ok (.iconst 0, 1) := by decide +kernel
theorem dX3_image_2 : decode cX3_image 2 = .ok (.iconst 1, 1) := by decide +kernel
theorem dX3_image_3 : decode cX3_image 3 = .ok (.invokestatic 39, 3) := by decide +kernel
theorem dX3_image_6 : decode cX3_image 6 = .ok (.ifCond .ne 6, 3) := by decide +kernel
theorem dX3_image_9 : decode cX3_image 9 = .ok (.bipush (-2), 2) := by decide +kernel
theorem dX3_image_11 : decode cX3_image 11 = .ok (.ireturn, 1) := by decide +kernel
theorem dX3_image_12 : decode cX3_image 12 = .ok (.iconst 0, 1) := by decide +kernel
theorem dX3_image_13 : decode cX3_image 13 = .ok (.istore_n 2, 1) := by decide +kernel
theorem dX3_image_14 : decode cX3_image 14 = .ok (.iload_n 2, 1) := by decide +kernel
theorem dX3_image_15 : decode cX3_image 15 = .ok (.bipush 54, 2) := by decide +kernel
theorem dX3_image_17 : decode cX3_image 17 = .ok (.if_icmp .ge 26, 3) := by decide +kernel
theorem dX3_image_20 : decode cX3_image 20 = .ok (.aload_n 0, 1) := by decide +kernel
theorem dX3_image_21 : decode cX3_image 21 = .ok (.getfield 13, 3) := by decide +kernel
theorem dX3_image_24 : decode cX3_image 24 = .ok (.bipush 54, 2) := by decide +kernel
theorem dX3_image_26 : decode cX3_image 26 = .ok (.iload_n 1, 1) := by decide +kernel
theorem dX3_image_27 : decode cX3_image 27 = .ok (.imul, 1) := by decide +kernel
theorem dX3_image_28 : decode cX3_image 28 = .ok (.iload_n 2, 1) := by decide +kernel
theorem dX3_image_29 : decode cX3_image 29 = .ok (.iadd, 1) := by decide +kernel
theorem dX3_image_30 : decode cX3_image 30 = .ok (.aload_n 0, 1) := by decide +kernel
theorem dX3_image_31 : decode cX3_image 31 = .ok (.getfield 7, 3) := by decide +kernel
theorem dX3_image_34 : decode cX3_image 34 = .ok (.iload_n 2, 1) := by decide +kernel
theorem dX3_image_35 : decode cX3_image 35 = .ok (.iaload, 1) := by decide +kernel
theorem dX3_image_36 : decode cX3_image 36 = .ok (.iastore, 1) := by decide +kernel
theorem dX3_image_37 : decode cX3_image 37 = .ok (.iinc 2 1, 3) := by decide +kernel
theorem dX3_image_40 : decode cX3_image 40 = .ok (.goto (-26), 3) := by decide +kernel
theorem dX3_image_43 : decode cX3_image 43 = .ok (.aload_n 0, 1) := by decide +kernel
theorem dX3_image_44 : decode cX3_image 44 = .ok (.getfield 16, 3) := by decide +kernel
theorem dX3_image_47 : decode cX3_image 47 = .ok (.iload_n 1, 1) := by decide +kernel
theorem dX3_image_48 : decode cX3_image 48 = .ok (.iconst 1, 1) := by decide +kernel
theorem dX3_image_49 : decode cX3_image 49 = .ok (.bastore, 1) := by decide +kernel
theorem dX3_image_50 : decode cX3_image 50 = .ok (.iconst 1, 1) := by decide +kernel
theorem dX3_image_51 : decode cX3_image 51 = .ok (.ireturn, 1) := by decide +kernel
set_option maxRecDepth 20000 in
theorem ggX3_restore_X3_in : GoodIn wsX3_restore wsX3_in := goodIn_r _ [7] (by decide +kernel) (by decide +kernel)
set_option maxRecDepth 20000 in
theorem gX3_restore_X3_in : GoodIn wsX3_restore (va_wsS RX3 39 yX3_in wsX3_in) := goodIn_app (goodIn_of _ (by decide +kernel)) ggX3_restore_X3_in
theorem dX3_restore_0 : decode cX3_restore 0 = .ok (.iload_n 1, 1) := by decide +kernel
theorem dX3_restore_1 : decode cX3_restore 1 = .ok (.iconst 0, 1) := by decide +kernel
theorem dX3_restore_2 : decode cX3_restore 2 = .ok (.iconst 1, 1) := by decide +kernel
theorem dX3_restore_3 : decode cX3_restore 3 = .ok (.invokestatic 39, 3) := by decide +kernel
theorem dX3_restore_6 : decode cX3_restore 6 = .ok (.ifCond .ne 6, 3) := by decide +kernel
theorem dX3_restore_9 : decode cX3_restore 9 = .ok (.bipush (-2), 2) := by decide +kernel
theorem dX3_restore_11 : decode cX3_restore 11 = .ok (.ireturn, 1) := by decide +kernel
theorem dX3_restore_12 : decode cX3_restore 12 = .ok (.aload_n 0, 1) := by decide +kernel
theorem dX3_restore_13 : decode cX3_restore 13 = .ok (.getfield 16, 3) := by decide +kernel
theorem dX3_restore_16 : decode cX3_restore 16 = .ok (.iload_n 1, 1) := by decide +kernel
theorem dX3_restore_17 : decode cX3_restore 17 = .ok (.baload, 1) := by decide +kernel
theorem dX3_restore_18 : decode cX3_restore 18 = .ok (.ifCond .ne 6, 3) := by decide +kernel
theorem dX3_restore_21 : decode cX3_restore 21 = .ok (.bipush (-3), 2) := by decide +kernel
theorem dX3_restore_23 : decode cX3_restore 23 = .ok (.ireturn, 1) := by decide +kernel
theorem dX3_restore_24 : decode cX3_restore 24 = .ok (.iconst 0, 1) := by decide +kernel
theorem dX3_restore_25 : decode cX3_restore 25 = .ok (.istore_n 2, 1) := by decide +kernel
theorem dX3_restore_26 : decode cX3_restore 26 = .ok (.iload_n 2, 1) := by decide +kernel
theorem dX3_restore_27 : decode cX3_restore 27 = .ok (.bipush 54, 2) := by decide +kernel
theorem dX3_restore_29 : decode cX3_restore 29 = .ok (.if_icmp .ge 26, 3) := by decide +kernel
theorem dX3_restore_32 : decode cX3_restore 32 = .ok (.aload_n 0, 1) := by decide +kernel
theorem dX3_restore_33 : decode cX3_restore 33 = .ok (.getfield 7, 3) := by decide +kernel
theorem dX3_restore_36 : decode cX3_restore 36 = .ok (.iload_n 2, 1) := by decide +kernel
theorem dX3_restore_37 : decode cX3_restore 37 = .ok (.aload_n 0, 1) := by decide +kernel
theorem dX3_restore_38 : decode cX3_restore 38 = .ok (.getfield 13, 3) := by decide +kernel
theorem dX3_restore_41 : decode cX3_restore 41 = .ok (.bipush 54, 2) := by decide +kernel
theorem dX3_restore_43 : decode cX3_restore 43 = .ok (.iload_n 1, 1) := by decide +kernel
theorem dX3_restore_44 : decode cX3_restore 44 = .ok (.imul, 1) := by decide +kernel
theorem dX3_restore_45 : decode cX3_restore 45 = .ok (.iload_n 2, 1) := by decide +kernel
theorem dX3_restore_46 : decode cX3_restore 46 = .ok (.iadd, 1) := by decide +kernel
theorem dX3_restore_47 : decode cX3_restore 47 = .ok (.iaload, 1) := by decide +kernel
theorem dX3_restore_48 : decode cX3_restore 48 = .ok (.iastore, 1) := by decide +kernel
theorem dX3_restore_49 : decode cX3_restore 49 = .ok (.iinc 2 1, 3) := by decide +kernel
theorem dX3_restore_52 : decode cX3_restore 52 = .ok (.goto (-26), 3) := by decide +kernel
theorem dX3_restore_55 : decode cX3_restore 55 = .ok (.iconst 1, 1) := by decide +kernel
theorem dX3_restore_56 : decode cX3_restore 56 = .ok (.ireturn, 1) := by decide +kernel
set_option maxRecDepth 20000 in
theorem ggX3_count_X3_in : GoodIn wsX3_count wsX3_in := goodIn_r _ [6] (by decide +kernel) (by decide +kernel)
set_option maxRecDepth 20000 in
theorem gX3_count_X3_in : GoodIn wsX3_count (va_wsS RX3 39 yX3_in wsX3_in) := goodIn_app (goodIn_of _ (by decide +kernel)) ggX3_count_X3_in
theorem dX3_count_0 : decode cX3_count 0 = .ok (.iload_n 1, 1) := by decide +kernel
theorem dX3_count_1 : decode cX3_count 1 = .ok (.bipush 10, 2) := by decide +kernel
theorem dX3_count_3 : decode cX3_count 3 = .ok (.bipush 12, 2) := by decide +kernel
theorem dX3_count_5 : decode cX3_count 5 = .ok (.invokestatic 39, 3) := by decide +kernel
theorem dX3_count_8 : decode cX3_count 8 = .ok (.ifCond .eq 15, 3) := by decide +kernel
theorem dX3_count_11 : decode cX3_count 11 = .ok (.aload_n 0, 1) := by decide +kernel
theorem dX3_count_12 : decode cX3_count 12 = .ok (.getfield 7, 3) := by decide +kernel
theorem dX3_count_15 : decode cX3_count 15 = .ok (.iconst 3, 1) := by decide +kernel
theorem dX3_count_16 : decode cX3_count 16 = .ok (.iload_n 1, 1) := by decide +kernel
theorem dX3_count_17 : decode cX3_count 17 = .ok (.iadd, 1) := by decide +kernel
theorem dX3_count_18 : decode cX3_count 18 = .ok (.bipush 10, 2) := by decide +kernel
theorem dX3_count_20 : decode cX3_count 20 = .ok (.isub, 1) := by decide +kernel
theorem dX3_count_21 : decode cX3_count 21 = .ok (.iaload, 1) := by decide +kernel
theorem dX3_count_22 : decode cX3_count 22 = .ok (.ireturn, 1) := by decide +kernel
theorem dX3_count_23 : decode cX3_count 23 = .ok (.iload_n 1, 1) := by decide +kernel
theorem dX3_count_24 : decode cX3_count 24 = .ok (.iconst 0, 1) := by decide +kernel
theorem dX3_count_25 : decode cX3_count 25 = .ok (.iconst 2, 1) := by decide +kernel
theorem dX3_count_26 : decode cX3_count 26 = .ok (.invokestatic 39, 3) := by decide +kernel
theorem dX3_count_29 : decode cX3_count 29 = .ok (.ifCond .eq 12, 3) := by decide +kernel
theorem dX3_count_32 : decode cX3_count 32 = .ok (.aload_n 0, 1) := by decide +kernel
theorem dX3_count_33 : decode cX3_count 33 = .ok (.getfield 7, 3) := by decide +kernel
theorem dX3_count_36 : decode cX3_count 36 = .ok (.iconst 0, 1) := by decide +kernel
theorem dX3_count_37 : decode cX3_count 37 = .ok (.iload_n 1, 1) := by decide +kernel
theorem dX3_count_38 : decode cX3_count 38 = .ok (.iadd, 1) := by decide +kernel
theorem dX3_count_39 : decode cX3_count 39 = .ok (.iaload, 1) := by decide +kernel
theorem dX3_count_40 : decode cX3_count 40 = .ok (.ireturn, 1) := by decide +kernel
theorem dX3_count_41 : decode cX3_count 41 = .ok (.iload_n 1, 1) := by decide +kernel
theorem dX3_count_42 : decode cX3_count 42 = .ok (.iconst 3, 1) := by decide +kernel
theorem dX3_count_43 : decode cX3_count 43 = .ok (.if_icmp .ne 24, 3) := by decide +kernel
theorem dX3_count_46 : decode cX3_count 46 = .ok (.aload_n 0, 1) := by decide +kernel
theorem dX3_count_47 : decode cX3_count 47 = .ok (.getfield 7, 3) := by decide +kernel
theorem dX3_count_50 : decode cX3_count 50 = .ok (.iconst 0, 1) := by decide +kernel
theorem dX3_count_51 : decode cX3_count 51 = .ok (.iaload, 1) := by decide +kernel
theorem dX3_count_52 : decode cX3_count 52 = .ok (.aload_n 0, 1) := by decide +kernel
theorem dX3_count_53 : decode cX3_count 53 = .ok (.getfield 7, 3) := by decide +kernel
theorem dX3_count_56 : decode cX3_count 56 = .ok (.iconst 1, 1) := by decide +kernel
theorem dX3_count_57 : decode cX3_count 57 = .ok (.iaload, 1) := by decide +kernel
theorem dX3_count_58 : decode cX3_count 58 = .ok (.iadd, 1) := by decide +kernel
theorem dX3_count_59 : decode cX3_count 59 = .ok (.aload_n 0, 1) := by decide +kernel
theorem dX3_count_60 : decode cX3_count 60 = .ok (.getfield 7, 3) := by decide +kernel
theorem dX3_count_63 : decode cX3_count 63 = .ok (.iconst 2, 1) := by decide +kernel
theorem dX3_count_64 : decode cX3_count 64 = .ok (.iaload, 1) := by decide +kernel
theorem dX3_count_65 : decode cX3_count 65 = .ok (.iadd, 1) := by decide +kernel
theorem dX3_count_66 : decode cX3_count 66 = .ok (.ireturn, 1) := by decide +kernel
theorem dX3_count_67 : decode cX3_count 67 = .ok (.iload_n 1, 1) := by decide +kernel
theorem dX3_count_68 : decode cX3_count 68 = .ok (.iconst 4, 1) := by decide +kernel
theorem dX3_count_69 : decode cX3_count 69 = .ok (.if_icmp .ne 35, 3) := by decide +kernel
theorem dX3_count_72 : decode cX3_count 72 = .ok (.aload_n 0, 1) := by decide +kernel
theorem dX3_count_73 : decode cX3_count 73 = .ok (.getfield 16, 3) := by decide +kernel
theorem dX3_count_76 : decode cX3_count 76 = .ok (.iconst 0, 1) := by decide +kernel
theorem dX3_count_77 : decode cX3_count 77 = .ok (.baload, 1) := by decide +kernel
theorem dX3_count_78 : decode cX3_count 78 = .ok (.ifCond .eq 7, 3) := by decide +kernel
theorem dX3_count_81 : decode cX3_count 81 = .ok (.iconst 1, 1) := by decide +kernel
theorem dX3_count_82 : decode cX3_count 82 = .ok (.goto 4, 3) := by decide +kernel
theorem dX3_count_85 : decode cX3_count 85 = .ok (.iconst 0, 1) := by decide +kernel
theorem dX3_count_86 : decode cX3_count 86 = .ok (.aload_n 0, 1) := by decide +kernel
theorem dX3_count_87 : decode cX3_count 87 = .ok (.getfield 16, 3) := by decide +kernel
theorem dX3_count_90 : decode cX3_count 90 = .ok (.iconst 1, 1) := by decide +kernel
theorem dX3_count_91 : decode cX3_count 91 = .ok (.baload, 1) := by decide +kernel
theorem dX3_count_92 : decode cX3_count 92 = .ok (.ifCond .eq 7, 3) := by decide +kernel
theorem dX3_count_95 : decode cX3_count 95 = .ok (.iconst 2, 1) := by decide +kernel
theorem dX3_count_96 : decode cX3_count 96 = .ok (.goto 4, 3) := by decide +kernel
theorem dX3_count_99 : decode cX3_count 99 = .ok (.iconst 0, 1) := by decide +kernel
theorem dX3_count_100 : decode cX3_count 100 = .ok (.iadd, 1) := by decide +kernel
theorem dX3_count_101 : decode cX3_count 101 = .ok (.goto 5, 3) := by decide +kernel
theorem dX3_count_104 : decode cX3_count 104 = .ok (.bipush (-2), 2) := by decide +kernel
theorem dX3_count_106 : decode cX3_count 106 = .ok (.ireturn, 1) := by decide +kernel
theorem dJ9_abs_0f7a4_0 : decode cJ9_abs_0f7a4 0 = .ok (.iload_n 0, 1) := by decide +kernel
theorem dJ9_abs_0f7a4_1 : decode cJ9_abs_0f7a4 1 = .ok (.ifCond .ge 8, 3) := by decide +kernel
theorem dJ9_abs_0f7a4_4 : decode cJ9_abs_0f7a4 4 = .ok (.iload_n 0, 1) := by decide +kernel
theorem dJ9_abs_0f7a4_5 : decode cJ9_abs_0f7a4 5 = .ok (.ineg, 1) := by decide +kernel
theorem dJ9_abs_0f7a4_6 : decode cJ9_abs_0f7a4 6 = .ok (.goto 4, 3) := by decide +kernel
theorem dJ9_abs_0f7a4_9 : decode cJ9_abs_0f7a4 9 = .ok (.iload_n 0, 1) := by decide +kernel
theorem dJ9_abs_0f7a4_10 : decode cJ9_abs_0f7a4 10 = .ok (.ireturn, 1) := by decide +kernel
theorem dJ9_abs_067f4_0 : decode cJ9_abs_067f4 0 = .ok (.lload_n 0, 1) := by decide +kernel
theorem dJ9_abs_067f4_1 : decode cJ9_abs_067f4 1 = .ok (.lconst 0, 1) := by decide +kernel
theorem dJ9_abs_067f4_2 : decode cJ9_abs_067f4 2 = .ok (.lcmp, 1) := by decide +kernel
theorem dJ9_abs_067f4_3 : decode cJ9_abs_067f4 3 = .ok (.ifCond .ge 8, 3) := by decide +kernel
theorem dJ9_abs_067f4_6 : decode cJ9_abs_067f4 6 = .ok (.lload_n 0, 1) := by decide +kernel
theorem dJ9_abs_067f4_7 : decode cJ9_abs_067f4 7 = .ok (.lneg, 1) := by decide +kernel
theorem dJ9_abs_067f4_8 : decode cJ9_abs_067f4 8 = .ok (.goto 4, 3) := by decide +kernel
theorem dJ9_abs_067f4_11 : decode cJ9_abs_067f4 11 = .ok (.lload_n 0, 1) := by decide +kernel
theorem dJ9_abs_067f4_12 : decode cJ9_abs_067f4 12 = .ok (.lreturn, 1) := by decide +kernel
theorem dJ9_max_7cf53_0 : decode cJ9_max_7cf53 0 = .ok (.iload_n 0, 1) := by decide +kernel
theorem dJ9_max_7cf53_1 : decode cJ9_max_7cf53 1 = .ok (.iload_n 1, 1) := by decide +kernel
theorem dJ9_max_7cf53_2 : decode cJ9_max_7cf53 2 = .ok (.if_icmp .lt 7, 3) := by decide +kernel
theorem dJ9_max_7cf53_5 : decode cJ9_max_7cf53 5 = .ok (.iload_n 0, 1) := by decide +kernel
theorem dJ9_max_7cf53_6 : decode cJ9_max_7cf53 6 = .ok (.goto 4, 3) := by decide +kernel
theorem dJ9_max_7cf53_9 : decode cJ9_max_7cf53 9 = .ok (.iload_n 1, 1) := by decide +kernel
theorem dJ9_max_7cf53_10 : decode cJ9_max_7cf53 10 = .ok (.ireturn, 1) := by decide +kernel
theorem dJ9_min_7cf53_0 : decode cJ9_min_7cf53 0 = .ok (.iload_n 0, 1) := by decide +kernel
theorem dJ9_min_7cf53_1 : decode cJ9_min_7cf53 1 = .ok (.iload_n 1, 1) := by decide +kernel
theorem dJ9_min_7cf53_2 : decode cJ9_min_7cf53 2 = .ok (.if_icmp .gt 7, 3) := by decide +kernel
theorem dJ9_min_7cf53_5 : decode cJ9_min_7cf53 5 = .ok (.iload_n 0, 1) := by decide +kernel
theorem dJ9_min_7cf53_6 : decode cJ9_min_7cf53 6 = .ok (.goto 4, 3) := by decide +kernel
theorem dJ9_min_7cf53_9 : decode cJ9_min_7cf53 9 = .ok (.iload_n 1, 1) := by decide +kernel
theorem dJ9_min_7cf53_10 : decode cJ9_min_7cf53 10 = .ok (.ireturn, 1) := by decide +kernel
theorem dJ9_min_f86c9_0 : decode cJ9_min_f86c9 0 = .ok (.lload_n 0, 1) := by decide +kernel
theorem dJ9_min_f86c9_1 : decode cJ9_min_f86c9 1 = .ok (.lload_n 2, 1) := by decide +kernel
theorem dJ9_min_f86c9_2 : decode cJ9_min_f86c9 2 = .ok (.lcmp, 1) := by decide +kernel
theorem dJ9_min_f86c9_3 : decode cJ9_min_f86c9 3 = .ok (.ifCond .gt 7, 3) := by decide +kernel
theorem dJ9_min_f86c9_6 : decode cJ9_min_f86c9 6 = .ok (.lload_n 0, 1) := by decide +kernel
theorem dJ9_min_f86c9_7 : decode cJ9_min_f86c9 7 = .ok (.goto 4, 3) := by decide +kernel
theorem dJ9_min_f86c9_10 : decode cJ9_min_f86c9 10 = .ok (.lload_n 2, 1) := by decide +kernel
theorem dJ9_min_f86c9_11 : decode cJ9_min_f86c9 11 = .ok (.lreturn, 1) := by decide +kernel
abbrev vwCl : List vw_C := [(RX0, TX0, 4), (RX1, TX1, 1), (RX2, TX2, 3), (RX3, TX3, 11)]
end
section
/-! helpers of the pure functions: none where an index, a divisor or the fuel fails -/
def nm {α β : Type} (x : α) (k : α → β) : β := k x
theorem nm_u {α β : Type} {x : α} {k : α → β} {o : β} (h : nm x k = o) {v : α} (e : v = x) : k v = o := by subst e; exact h
def gd {α : Type} (b : Bool) (k : Option α) : Option α := match b with
  | true => k
  | false => none
theorem gd_u {α : Type} {b : Bool} {k : Option α} {o : α} (h : gd b k = some o) : b = true ∧ k = some o := by
  cases b with
  | true => exact ⟨rfl, h⟩
  | false => exact absurd h (fun h => nomatch h)
theorem gd_t {α : Type} {b : Bool} (h : b = true) (k : Option α) : gd b k = k := by subst h; rfl
def ib (i : Int32) (n : Nat) : Bool := decide (0 ≤ i.toInt ∧ i.toInt < n)
theorem in_u {i : Int32} {n : Nat} (h : ib i n = true) : vp_in i n := vp_in_iff.mpr (of_decide_eq_true h)
theorem in_k {i : Int32} {n : Nat} (h : 0 ≤ i.toInt ∧ i.toInt < n) : vp_in i n := vp_in_iff.mpr h
def nz (y : Int32) : Bool := decide (¬ y = 0)
theorem nz_u {y : Int32} (h : nz y = true) : ¬ y = 0 := of_decide_eq_true h
def nzl (y : Int64) : Bool := decide (¬ y = 0)
theorem nz_ul {y : Int64} (h : nzl y = true) : ¬ y = 0 := of_decide_eq_true h
def isb (v : Int32) : Bool := decide (v = 0 ∨ v = 1)
theorem isb_u {v : Int32} (h : isb v = true) : narrow .boolean (.int v) = .int v := by
  rcases of_decide_eq_true h with rfl | rfl <;> rfl
theorem br1 {α : Type} {c : Prop} [Decidable c] {a b o : α} (h : (if c then a else b) = o) (hc : c) : a = o := (if_pos hc).symm.trans h
theorem br0 {α : Type} {c : Prop} [Decidable c] {a b o : α} (h : (if c then a else b) = o) (hc : ¬ c) : b = o := (if_neg hc).symm.trans h
theorem nn {α : Type} {o : α} {P : Prop} (h : (none : Option α) = some o) : P := nomatch h
def bd1 {A0 β : Type} (x : Option (A0)) (k : A0 → Option β) : Option β := match x with
  | none => none
  | some a => k a
theorem bd1_u {A0 β : Type} {x : Option (A0)} {k : A0 → Option β} {o : β} (h : bd1 x k = some o) : ∃ a, x = some (a) ∧ k a = some o := by
  cases x with
  | none => exact absurd h (fun h => nomatch h)
  | some y => exact ⟨y, rfl, h⟩
def bd2 {A0 A1 β : Type} (x : Option (A0 × A1)) (k : A0 → A1 → Option β) : Option β := match x with
  | none => none
  | some (a, b) => k a b
theorem bd2_u {A0 A1 β : Type} {x : Option (A0 × A1)} {k : A0 → A1 → Option β} {o : β} (h : bd2 x k = some o) : ∃ a b, x = some (a, b) ∧ k a b = some o := by
  cases x with
  | none => exact absurd h (fun h => nomatch h)
  | some y => exact ⟨y.1, y.2, rfl, h⟩
theorem tp2 {A0 A1 : Type} {a a' : A0} {b b' : A1} (h : some (a, b) = some (a', b')) : a = a' ∧ b = b' := by
  cases h
  exact ⟨rfl, rfl⟩
def bd3 {A0 A1 A2 β : Type} (x : Option (A0 × A1 × A2)) (k : A0 → A1 → A2 → Option β) : Option β := match x with
  | none => none
  | some (a, b, c) => k a b c
theorem bd3_u {A0 A1 A2 β : Type} {x : Option (A0 × A1 × A2)} {k : A0 → A1 → A2 → Option β} {o : β} (h : bd3 x k = some o) : ∃ a b c, x = some (a, b, c) ∧ k a b c = some o := by
  cases x with
  | none => exact absurd h (fun h => nomatch h)
  | some y => exact ⟨y.1, y.2.1, y.2.2, rfl, h⟩
theorem tp3 {A0 A1 A2 : Type} {a a' : A0} {b b' : A1} {c c' : A2} (h : some (a, b, c) = some (a', b', c')) : a = a' ∧ b = b' ∧ c = c' := by
  cases h
  exact ⟨rfl, rfl, rfl⟩
def bd4 {A0 A1 A2 A3 β : Type} (x : Option (A0 × A1 × A2 × A3)) (k : A0 → A1 → A2 → A3 → Option β) : Option β := match x with
  | none => none
  | some (a, b, c, d) => k a b c d
theorem bd4_u {A0 A1 A2 A3 β : Type} {x : Option (A0 × A1 × A2 × A3)} {k : A0 → A1 → A2 → A3 → Option β} {o : β} (h : bd4 x k = some o) : ∃ a b c d, x = some (a, b, c, d) ∧ k a b c d = some o := by
  cases x with
  | none => exact absurd h (fun h => nomatch h)
  | some y => exact ⟨y.1, y.2.1, y.2.2.1, y.2.2.2, rfl, h⟩
theorem tp4 {A0 A1 A2 A3 : Type} {a a' : A0} {b b' : A1} {c c' : A2} {d d' : A3} (h : some (a, b, c, d) = some (a', b', c', d')) : a = a' ∧ b = b' ∧ c = c' ∧ d = d' := by
  cases h
  exact ⟨rfl, rfl, rfl, rfl⟩
def bd5 {A0 A1 A2 A3 A4 β : Type} (x : Option (A0 × A1 × A2 × A3 × A4)) (k : A0 → A1 → A2 → A3 → A4 → Option β) : Option β := match x with
  | none => none
  | some (a, b, c, d, e) => k a b c d e
theorem bd5_u {A0 A1 A2 A3 A4 β : Type} {x : Option (A0 × A1 × A2 × A3 × A4)} {k : A0 → A1 → A2 → A3 → A4 → Option β} {o : β} (h : bd5 x k = some o) : ∃ a b c d e, x = some (a, b, c, d, e) ∧ k a b c d e = some o := by
  cases x with
  | none => exact absurd h (fun h => nomatch h)
  | some y => exact ⟨y.1, y.2.1, y.2.2.1, y.2.2.2.1, y.2.2.2.2, rfl, h⟩
theorem tp5 {A0 A1 A2 A3 A4 : Type} {a a' : A0} {b b' : A1} {c c' : A2} {d d' : A3} {e e' : A4} (h : some (a, b, c, d, e) = some (a', b', c', d', e')) : a = a' ∧ b = b' ∧ c = c' ∧ d = d' ∧ e = e' := by
  cases h
  exact ⟨rfl, rfl, rfl, rfl, rfl⟩
def bd6 {A0 A1 A2 A3 A4 A5 β : Type} (x : Option (A0 × A1 × A2 × A3 × A4 × A5)) (k : A0 → A1 → A2 → A3 → A4 → A5 → Option β) : Option β := match x with
  | none => none
  | some (a, b, c, d, e, f) => k a b c d e f
theorem bd6_u {A0 A1 A2 A3 A4 A5 β : Type} {x : Option (A0 × A1 × A2 × A3 × A4 × A5)} {k : A0 → A1 → A2 → A3 → A4 → A5 → Option β} {o : β} (h : bd6 x k = some o) : ∃ a b c d e f, x = some (a, b, c, d, e, f) ∧ k a b c d e f = some o := by
  cases x with
  | none => exact absurd h (fun h => nomatch h)
  | some y => exact ⟨y.1, y.2.1, y.2.2.1, y.2.2.2.1, y.2.2.2.2.1, y.2.2.2.2.2, rfl, h⟩
theorem tp6 {A0 A1 A2 A3 A4 A5 : Type} {a a' : A0} {b b' : A1} {c c' : A2} {d d' : A3} {e e' : A4} {f f' : A5} (h : some (a, b, c, d, e, f) = some (a', b', c', d', e', f')) : a = a' ∧ b = b' ∧ c = c' ∧ d = d' ∧ e = e' ∧ f = f' := by
  cases h
  exact ⟨rfl, rfl, rfl, rfl, rfl, rfl⟩
def bd7 {A0 A1 A2 A3 A4 A5 A6 β : Type} (x : Option (A0 × A1 × A2 × A3 × A4 × A5 × A6)) (k : A0 → A1 → A2 → A3 → A4 → A5 → A6 → Option β) : Option β := match x with
  | none => none
  | some (a, b, c, d, e, f, g) => k a b c d e f g
theorem bd7_u {A0 A1 A2 A3 A4 A5 A6 β : Type} {x : Option (A0 × A1 × A2 × A3 × A4 × A5 × A6)} {k : A0 → A1 → A2 → A3 → A4 → A5 → A6 → Option β} {o : β} (h : bd7 x k = some o) : ∃ a b c d e f g, x = some (a, b, c, d, e, f, g) ∧ k a b c d e f g = some o := by
  cases x with
  | none => exact absurd h (fun h => nomatch h)
  | some y => exact ⟨y.1, y.2.1, y.2.2.1, y.2.2.2.1, y.2.2.2.2.1, y.2.2.2.2.2.1, y.2.2.2.2.2.2, rfl, h⟩
theorem tp7 {A0 A1 A2 A3 A4 A5 A6 : Type} {a a' : A0} {b b' : A1} {c c' : A2} {d d' : A3} {e e' : A4} {f f' : A5} {g g' : A6} (h : some (a, b, c, d, e, f, g) = some (a', b', c', d', e', f', g')) : a = a' ∧ b = b' ∧ c = c' ∧ d = d' ∧ e = e' ∧ f = f' ∧ g = g' := by
  cases h
  exact ⟨rfl, rfl, rfl, rfl, rfl, rfl, rfl⟩
def bd8 {A0 A1 A2 A3 A4 A5 A6 A7 β : Type} (x : Option (A0 × A1 × A2 × A3 × A4 × A5 × A6 × A7)) (k : A0 → A1 → A2 → A3 → A4 → A5 → A6 → A7 → Option β) : Option β := match x with
  | none => none
  | some (a, b, c, d, e, f, g, h) => k a b c d e f g h
theorem bd8_u {A0 A1 A2 A3 A4 A5 A6 A7 β : Type} {x : Option (A0 × A1 × A2 × A3 × A4 × A5 × A6 × A7)} {k : A0 → A1 → A2 → A3 → A4 → A5 → A6 → A7 → Option β} {o : β} (h : bd8 x k = some o) : ∃ a b c d e f g h, x = some (a, b, c, d, e, f, g, h) ∧ k a b c d e f g h = some o := by
  cases x with
  | none => exact absurd h (fun h => nomatch h)
  | some y => exact ⟨y.1, y.2.1, y.2.2.1, y.2.2.2.1, y.2.2.2.2.1, y.2.2.2.2.2.1, y.2.2.2.2.2.2.1, y.2.2.2.2.2.2.2, rfl, h⟩
theorem tp8 {A0 A1 A2 A3 A4 A5 A6 A7 : Type} {a a' : A0} {b b' : A1} {c c' : A2} {d d' : A3} {e e' : A4} {f f' : A5} {g g' : A6} {h h' : A7} (hh : some (a, b, c, d, e, f, g, h) = some (a', b', c', d', e', f', g', h')) : a = a' ∧ b = b' ∧ c = c' ∧ d = d' ∧ e = e' ∧ f = f' ∧ g = g' ∧ h = h' := by
  cases hh
  exact ⟨rfl, rfl, rfl, rfl, rfl, rfl, rfl, rfl⟩
def bd9 {A0 A1 A2 A3 A4 A5 A6 A7 A8 β : Type} (x : Option (A0 × A1 × A2 × A3 × A4 × A5 × A6 × A7 × A8)) (k : A0 → A1 → A2 → A3 → A4 → A5 → A6 → A7 → A8 → Option β) : Option β := match x with
  | none => none
  | some (a, b, c, d, e, f, g, h, i) => k a b c d e f g h i
theorem bd9_u {A0 A1 A2 A3 A4 A5 A6 A7 A8 β : Type} {x : Option (A0 × A1 × A2 × A3 × A4 × A5 × A6 × A7 × A8)} {k : A0 → A1 → A2 → A3 → A4 → A5 → A6 → A7 → A8 → Option β} {o : β} (h : bd9 x k = some o) : ∃ a b c d e f g h i, x = some (a, b, c, d, e, f, g, h, i) ∧ k a b c d e f g h i = some o := by
  cases x with
  | none => exact absurd h (fun h => nomatch h)
  | some y => exact ⟨y.1, y.2.1, y.2.2.1, y.2.2.2.1, y.2.2.2.2.1, y.2.2.2.2.2.1, y.2.2.2.2.2.2.1, y.2.2.2.2.2.2.2.1, y.2.2.2.2.2.2.2.2, rfl, h⟩
theorem tp9 {A0 A1 A2 A3 A4 A5 A6 A7 A8 : Type} {a a' : A0} {b b' : A1} {c c' : A2} {d d' : A3} {e e' : A4} {f f' : A5} {g g' : A6} {h h' : A7} {i i' : A8} (hh : some (a, b, c, d, e, f, g, h, i) = some (a', b', c', d', e', f', g', h', i')) : a = a' ∧ b = b' ∧ c = c' ∧ d = d' ∧ e = e' ∧ f = f' ∧ g = g' ∧ h = h' ∧ i = i' := by
  cases hh
  exact ⟨rfl, rfl, rfl, rfl, rfl, rfl, rfl, rfl, rfl⟩
section LC
variable {p : Program} {l : Launch} {e : Env} {R : Room} {s : State} {m : MethodId} {args : Array Value} {below : List Frame} {meth : Method} {c : Code} {H : Heap} {locs : List Loc} {cells slots : Nat} {Q : State → Prop} {cc : ByteArray} {pc : Nat} {ls : Array Slot} {rest : List Value}
theorem lc_lt (hexec : p.tables.exec = Jvm.exec) (hb : c.code = cc) {x y : Int64} {off : Int} {tgt : Nat} (hdg : decode cc pc = .ok (.lcmp, 1)) (hdg2 : decode cc (pc + 1) = .ok (.ifCond .lt off, 3)) (ht : ((pc + 1 : Nat) : Int) + off = (tgt : Int))
    (kt : x < y → W p l e R s m args below meth c H locs cells slots Q (F0 m tgt ls rest)) (kf : ¬ x < y → W p l e R s m args below meth c H locs cells slots Q (F0 m (pc + 1 + 3) ls rest)) : W p l e R s m args below meth c H locs cells slots Q (F0 m pc ls (.long y :: .long x :: rest)) :=
  W.lcmp hexec hb hdg (lv_if_lt hexec hb hdg2 ht (fun h => kt ((lg_cmp_lt x y).mp h)) (fun h => kf (fun q => h ((lg_cmp_lt x y).mpr q))))
theorem lc_ge (hexec : p.tables.exec = Jvm.exec) (hb : c.code = cc) {x y : Int64} {off : Int} {tgt : Nat} (hdg : decode cc pc = .ok (.lcmp, 1)) (hdg2 : decode cc (pc + 1) = .ok (.ifCond .ge off, 3)) (ht : ((pc + 1 : Nat) : Int) + off = (tgt : Int))
    (kt : y ≤ x → W p l e R s m args below meth c H locs cells slots Q (F0 m tgt ls rest)) (kf : ¬ y ≤ x → W p l e R s m args below meth c H locs cells slots Q (F0 m (pc + 1 + 3) ls rest)) : W p l e R s m args below meth c H locs cells slots Q (F0 m pc ls (.long y :: .long x :: rest)) :=
  W.lcmp hexec hb hdg (lv_if_ge hexec hb hdg2 ht (fun h => kt ((lg_cmp_ge x y).mp h)) (fun h => kf (fun q => h ((lg_cmp_ge x y).mpr q))))
theorem lc_gt (hexec : p.tables.exec = Jvm.exec) (hb : c.code = cc) {x y : Int64} {off : Int} {tgt : Nat} (hdg : decode cc pc = .ok (.lcmp, 1)) (hdg2 : decode cc (pc + 1) = .ok (.ifCond .gt off, 3)) (ht : ((pc + 1 : Nat) : Int) + off = (tgt : Int))
    (kt : y < x → W p l e R s m args below meth c H locs cells slots Q (F0 m tgt ls rest)) (kf : ¬ y < x → W p l e R s m args below meth c H locs cells slots Q (F0 m (pc + 1 + 3) ls rest)) : W p l e R s m args below meth c H locs cells slots Q (F0 m pc ls (.long y :: .long x :: rest)) :=
  W.lcmp hexec hb hdg (lv_if_gt hexec hb hdg2 ht (fun h => kt ((lg_cmp_gt x y).mp h)) (fun h => kf (fun q => h ((lg_cmp_gt x y).mpr q))))
theorem lc_le (hexec : p.tables.exec = Jvm.exec) (hb : c.code = cc) {x y : Int64} {off : Int} {tgt : Nat} (hdg : decode cc pc = .ok (.lcmp, 1)) (hdg2 : decode cc (pc + 1) = .ok (.ifCond .le off, 3)) (ht : ((pc + 1 : Nat) : Int) + off = (tgt : Int))
    (kt : x ≤ y → W p l e R s m args below meth c H locs cells slots Q (F0 m tgt ls rest)) (kf : ¬ x ≤ y → W p l e R s m args below meth c H locs cells slots Q (F0 m (pc + 1 + 3) ls rest)) : W p l e R s m args below meth c H locs cells slots Q (F0 m pc ls (.long y :: .long x :: rest)) :=
  W.lcmp hexec hb hdg (lv_if_le hexec hb hdg2 ht (fun h => kt ((lg_cmp_le x y).mp h)) (fun h => kf (fun q => h ((lg_cmp_le x y).mpr q))))
theorem lc_eq (hexec : p.tables.exec = Jvm.exec) (hb : c.code = cc) {x y : Int64} {off : Int} {tgt : Nat} (hdg : decode cc pc = .ok (.lcmp, 1)) (hdg2 : decode cc (pc + 1) = .ok (.ifCond .eq off, 3)) (ht : ((pc + 1 : Nat) : Int) + off = (tgt : Int))
    (kt : x = y → W p l e R s m args below meth c H locs cells slots Q (F0 m tgt ls rest)) (kf : ¬ x = y → W p l e R s m args below meth c H locs cells slots Q (F0 m (pc + 1 + 3) ls rest)) : W p l e R s m args below meth c H locs cells slots Q (F0 m pc ls (.long y :: .long x :: rest)) :=
  W.lcmp hexec hb hdg (lv_if_eq hexec hb hdg2 ht (fun h => kt ((lg_cmp_eq x y).mp h)) (fun h => kf (fun q => h ((lg_cmp_eq x y).mpr q))))
theorem lc_ne (hexec : p.tables.exec = Jvm.exec) (hb : c.code = cc) {x y : Int64} {off : Int} {tgt : Nat} (hdg : decode cc pc = .ok (.lcmp, 1)) (hdg2 : decode cc (pc + 1) = .ok (.ifCond .ne off, 3)) (ht : ((pc + 1 : Nat) : Int) + off = (tgt : Int))
    (kt : ¬ x = y → W p l e R s m args below meth c H locs cells slots Q (F0 m tgt ls rest)) (kf : x = y → W p l e R s m args below meth c H locs cells slots Q (F0 m (pc + 1 + 3) ls rest)) : W p l e R s m args below meth c H locs cells slots Q (F0 m pc ls (.long y :: .long x :: rest)) :=
  W.lcmp hexec hb hdg (lv_if_ne hexec hb hdg2 ht (fun h => kt (fun q => h ((lg_cmp_eq x y).mpr q))) (fun h => kf ((lg_cmp_eq x y).mp h)))
end LC
end
section
def P_X2_within (a0 : Int32) (a1 : Int32) (a2 : Int32) : Option (Int32) :=
  if a0 < a1 then
    some (0 : Int32)
  else
    if a2 < a0 then
      some (0 : Int32)
    else
      some (1 : Int32)

def rm_X2_within : Room := { frames := 0, cells := 0, slots := 0, locals := 0 }

set_option maxHeartbeats 4000000 in
set_option maxRecDepth 100000 in
theorem c_X2_within (l : Launch) (a0 : Int32) (a1 : Int32) (a2 : Int32) (r0 : Int32) (hF : P_X2_within a0 a1 a2 = some r0) : Met l yX2_within wsX2_within rm_X2_within (fun v _ => v = ([.int a0, .int a1, .int a2] : List Value).toArray) (vp_Si (fun x => x = r0)) 0 0 (fun _ => False) := by
  refine Met.ofW (cc := cX2_within) (maxL := 3) (ret := (some .boolean)) (by decide) rfl ?_
  intro p e s m args below meth c s₁ B hml hv
  change W p l e rm_X2_within s m args below meth c s.heap [] 0 0 _ _
  have hx := B.exec
  have hb := B.bytes
  have hr := B.returns
  have hts := atoms_spec (ws := wsX2_within) B.pre
  have hown : s.vm.findClass RX2 = some m.cls := findClass_of_methodNamed B.named
  have hlocks := B.notSynchronized
  generalize hQ : MQ below (vp_Si (fun x => x = r0)) args s 0 0 (fun _ => False) = Q
  have hl := lv_entry ([.int a0, .int a1, .int a2]) (n := 3) (Nat.le_of_ble_eq_true rfl)
  have hE : entryFrame m args 3 = F0 m 0 ((lg_sl ([.int a0, .int a1, .int a2]) ++ List.replicate (3 - (lg_sl ([.int a0, .int a1, .int a2])).length) Slot.unset).toArray) [] := by rw [hv]; exact lg_entry_eq m _ 3
  rw [hE]
  generalize (lg_sl ([.int a0, .int a1, .int a2]) ++ List.replicate (3 - (lg_sl ([.int a0, .int a1, .int a2])).length) Slot.unset).toArray = ls at hl ⊢
  have hl : lv_has ls 3 [(0, .int a0), (1, .int a1), (2, .int a2)] := hl
  unfold P_X2_within at hF
  refine lv_iload_n hx hb dX2_within_0 rfl (lv_at hl 0 rfl) ?_
  refine lv_iload_n hx hb dX2_within_1 rfl (lv_at hl 1 rfl) ?_
  refine lv_icmp_lt (tgt := 14) hx hb dX2_within_2 (by decide) (fun c_1 => ?_) (fun c_1 => ?_)
  · have hF := br1 hF c_1
    refine lv_iconst (v := 0) hx hb dX2_within_14 (by decide) ?_
    rw [← hQ]
    exact W.zret (ty := .boolean) (v := (0 : Int32)) hx hb hr rfl (fun t ht hW => ⟨_, rfl, Option.some.inj hF, ht⟩) (fun _ h => by cases h) dX2_within_15
  · have hF := br0 hF c_1
    refine lv_iload_n hx hb dX2_within_5 rfl (lv_at hl 0 rfl) ?_
    refine lv_iload_n hx hb dX2_within_6 rfl (lv_at hl 2 rfl) ?_
    refine lv_icmp_gt (tgt := 14) hx hb dX2_within_7 (by decide) (fun c_2 => ?_) (fun c_2 => ?_)
    · have hF := br1 hF c_2
      refine lv_iconst (v := 0) hx hb dX2_within_14 (by decide) ?_
      rw [← hQ]
      exact W.zret (ty := .boolean) (v := (0 : Int32)) hx hb hr rfl (fun t ht hW => ⟨_, rfl, Option.some.inj hF, ht⟩) (fun _ h => by cases h) dX2_within_15
    · have hF := br0 hF c_2
      refine lv_iconst (v := 1) hx hb dX2_within_10 (by decide) ?_
      refine lv_goto (tgt := 15) hx hb dX2_within_11 (by decide) ?_
      rw [← hQ]
      exact W.zret (ty := .boolean) (v := (1 : Int32)) hx hb hr rfl (fun t ht hW => ⟨_, rfl, Option.some.inj hF, ht⟩) (fun _ h => by cases h) dX2_within_15

def P_X2_inField (a0 : Int32) : Option (Int32) :=
  bd1 (P_X2_within a0 (0 : Int32) (12 : Int32)) (fun r_1 =>
  gd (isb r_1) (some r_1))

def rm_X2_inField : Room := { frames := 1, cells := 0, slots := 0, locals := 22 }

set_option maxHeartbeats 4000000 in
set_option maxRecDepth 100000 in
theorem c_X2_inField (l : Launch) (a0 : Int32) (r0 : Int32) (hF : P_X2_inField a0 = some r0) : Met l yX2_inField wsX2_inField rm_X2_inField (fun v _ => v = ([.int a0] : List Value).toArray) (vp_Si (fun x => x = r0)) 0 0 (fun _ => False) := by
  refine Met.ofW (cc := cX2_inField) (maxL := 1) (ret := (some .boolean)) (by decide) rfl ?_
  intro p e s m args below meth c s₁ B hml hv
  change W p l e rm_X2_inField s m args below meth c s.heap [] 0 0 _ _
  have hx := B.exec
  have hb := B.bytes
  have hr := B.returns
  have hts := atoms_spec (ws := wsX2_inField) B.pre
  have hown : s.vm.findClass RX2 = some m.cls := findClass_of_methodNamed B.named
  have hlocks := B.notSynchronized
  generalize hQ : MQ below (vp_Si (fun x => x = r0)) args s 0 0 (fun _ => False) = Q
  have hl := lv_entry ([.int a0]) (n := 1) (Nat.le_of_ble_eq_true rfl)
  have hE : entryFrame m args 1 = F0 m 0 ((lg_sl ([.int a0]) ++ List.replicate (1 - (lg_sl ([.int a0])).length) Slot.unset).toArray) [] := by rw [hv]; exact lg_entry_eq m _ 1
  rw [hE]
  generalize (lg_sl ([.int a0]) ++ List.replicate (1 - (lg_sl ([.int a0])).length) Slot.unset).toArray = ls at hl ⊢
  have hl : lv_has ls 1 [(0, .int a0)] := hl
  unfold P_X2_inField at hF
  refine lv_iload_n hx hb dX2_inField_0 rfl (lv_at hl 0 rfl) ?_
  refine lv_iconst (v := 0) hx hb dX2_inField_1 (by decide) ?_
  refine lv_bipush (v := 12) hx hb dX2_inField_2 (by decide) ?_
  obtain ⟨r_1, hr_1, hF⟩ := bd1_u hF
  refine vp_callSi (W.runS (As := [.int a0, .int (0 : Int32), .int (12 : Int32)]) (rest := []) ⟨hx, hb, hml, hown, hts⟩ (c_X2_within l a0 (0 : Int32) (12 : Int32) r_1 hr_1) (va_cwS 3 hts gX2_inField_X2_within rfl rfl rfl (by decide +kernel) ⟨Nat.le_of_ble_eq_true rfl, Nat.le_of_ble_eq_true rfl⟩) preEq rfl rfl hl.1 rfl (lv_room (Nat.le_of_ble_eq_true rfl)) dX2_inField_4 ⟨Nat.le_of_ble_eq_true rfl, Nat.le_of_ble_eq_true rfl⟩) (fun r_1' qr_1 => ?_)
  obtain rfl := qr_1.symm
  obtain ⟨hB_, hF⟩ := gd_u hF
  rw [← hQ]
  exact W.zret (ty := .boolean) (v := r_1) hx hb hr (isb_u hB_) (fun t ht hW => ⟨_, rfl, Option.some.inj hF, ht⟩) (fun _ h => by cases h) dX2_inField_7

def P_X2_isDot (a0 : Int32) : Option (Int32) :=
  bd1 (P_X2_within a0 (0 : Int32) (15 : Int32)) (fun r_1 =>
  gd (isb r_1) (some r_1))

def rm_X2_isDot : Room := { frames := 1, cells := 0, slots := 0, locals := 22 }

set_option maxHeartbeats 4000000 in
set_option maxRecDepth 100000 in
theorem c_X2_isDot (l : Launch) (a0 : Int32) (r0 : Int32) (hF : P_X2_isDot a0 = some r0) : Met l yX2_isDot wsX2_isDot rm_X2_isDot (fun v _ => v = ([.int a0] : List Value).toArray) (vp_Si (fun x => x = r0)) 0 0 (fun _ => False) := by
  refine Met.ofW (cc := cX2_isDot) (maxL := 1) (ret := (some .boolean)) (by decide) rfl ?_
  intro p e s m args below meth c s₁ B hml hv
  change W p l e rm_X2_isDot s m args below meth c s.heap [] 0 0 _ _
  have hx := B.exec
  have hb := B.bytes
  have hr := B.returns
  have hts := atoms_spec (ws := wsX2_isDot) B.pre
  have hown : s.vm.findClass RX2 = some m.cls := findClass_of_methodNamed B.named
  have hlocks := B.notSynchronized
  generalize hQ : MQ below (vp_Si (fun x => x = r0)) args s 0 0 (fun _ => False) = Q
  have hl := lv_entry ([.int a0]) (n := 1) (Nat.le_of_ble_eq_true rfl)
  have hE : entryFrame m args 1 = F0 m 0 ((lg_sl ([.int a0]) ++ List.replicate (1 - (lg_sl ([.int a0])).length) Slot.unset).toArray) [] := by rw [hv]; exact lg_entry_eq m _ 1
  rw [hE]
  generalize (lg_sl ([.int a0]) ++ List.replicate (1 - (lg_sl ([.int a0])).length) Slot.unset).toArray = ls at hl ⊢
  have hl : lv_has ls 1 [(0, .int a0)] := hl
  unfold P_X2_isDot at hF
  refine lv_iload_n hx hb dX2_isDot_0 rfl (lv_at hl 0 rfl) ?_
  refine lv_iconst (v := 0) hx hb dX2_isDot_1 (by decide) ?_
  refine lv_bipush (v := 15) hx hb dX2_isDot_2 (by decide) ?_
  obtain ⟨r_1, hr_1, hF⟩ := bd1_u hF
  refine vp_callSi (W.runS (As := [.int a0, .int (0 : Int32), .int (15 : Int32)]) (rest := []) ⟨hx, hb, hml, hown, hts⟩ (c_X2_within l a0 (0 : Int32) (15 : Int32) r_1 hr_1) (va_cwS 3 hts gX2_isDot_X2_within rfl rfl rfl (by decide +kernel) ⟨Nat.le_of_ble_eq_true rfl, Nat.le_of_ble_eq_true rfl⟩) preEq rfl rfl hl.1 rfl (lv_room (Nat.le_of_ble_eq_true rfl)) dX2_isDot_4 ⟨Nat.le_of_ble_eq_true rfl, Nat.le_of_ble_eq_true rfl⟩) (fun r_1' qr_1 => ?_)
  obtain rfl := qr_1.symm
  obtain ⟨hB_, hF⟩ := gd_u hF
  rw [← hQ]
  exact W.zret (ty := .boolean) (v := r_1) hx hb hr (isb_u hB_) (fun t ht hW => ⟨_, rfl, Option.some.inj hF, ht⟩) (fun _ h => by cases h) dX2_isDot_7

def P_X3_in (a0 : Int32) (a1 : Int32) (a2 : Int32) : Option (Int32) :=
  if a0 < a1 then
    some (0 : Int32)
  else
    if a2 < a0 then
      some (0 : Int32)
    else
      some (1 : Int32)

def rm_X3_in : Room := { frames := 0, cells := 0, slots := 0, locals := 0 }

set_option maxHeartbeats 4000000 in
set_option maxRecDepth 100000 in
theorem c_X3_in (l : Launch) (a0 : Int32) (a1 : Int32) (a2 : Int32) (r0 : Int32) (hF : P_X3_in a0 a1 a2 = some r0) : Met l yX3_in wsX3_in rm_X3_in (fun v _ => v = ([.int a0, .int a1, .int a2] : List Value).toArray) (vp_Si (fun x => x = r0)) 0 0 (fun _ => False) := by
  refine Met.ofW (cc := cX3_in) (maxL := 3) (ret := (some .boolean)) (by decide) rfl ?_
  intro p e s m args below meth c s₁ B hml hv
  change W p l e rm_X3_in s m args below meth c s.heap [] 0 0 _ _
  have hx := B.exec
  have hb := B.bytes
  have hr := B.returns
  have hts := atoms_spec (ws := wsX3_in) B.pre
  have hown : s.vm.findClass RX3 = some m.cls := findClass_of_methodNamed B.named
  have hlocks := B.notSynchronized
  generalize hQ : MQ below (vp_Si (fun x => x = r0)) args s 0 0 (fun _ => False) = Q
  have hl := lv_entry ([.int a0, .int a1, .int a2]) (n := 3) (Nat.le_of_ble_eq_true rfl)
  have hE : entryFrame m args 3 = F0 m 0 ((lg_sl ([.int a0, .int a1, .int a2]) ++ List.replicate (3 - (lg_sl ([.int a0, .int a1, .int a2])).length) Slot.unset).toArray) [] := by rw [hv]; exact lg_entry_eq m _ 3
  rw [hE]
  generalize (lg_sl ([.int a0, .int a1, .int a2]) ++ List.replicate (3 - (lg_sl ([.int a0, .int a1, .int a2])).length) Slot.unset).toArray = ls at hl ⊢
  have hl : lv_has ls 3 [(0, .int a0), (1, .int a1), (2, .int a2)] := hl
  unfold P_X3_in at hF
  refine lv_iload_n hx hb dX3_in_0 rfl (lv_at hl 0 rfl) ?_
  refine lv_iload_n hx hb dX3_in_1 rfl (lv_at hl 1 rfl) ?_
  refine lv_icmp_lt (tgt := 14) hx hb dX3_in_2 (by decide) (fun c_1 => ?_) (fun c_1 => ?_)
  · have hF := br1 hF c_1
    refine lv_iconst (v := 0) hx hb dX3_in_14 (by decide) ?_
    rw [← hQ]
    exact W.zret (ty := .boolean) (v := (0 : Int32)) hx hb hr rfl (fun t ht hW => ⟨_, rfl, Option.some.inj hF, ht⟩) (fun _ h => by cases h) dX3_in_15
  · have hF := br0 hF c_1
    refine lv_iload_n hx hb dX3_in_5 rfl (lv_at hl 0 rfl) ?_
    refine lv_iload_n hx hb dX3_in_6 rfl (lv_at hl 2 rfl) ?_
    refine lv_icmp_gt (tgt := 14) hx hb dX3_in_7 (by decide) (fun c_2 => ?_) (fun c_2 => ?_)
    · have hF := br1 hF c_2
      refine lv_iconst (v := 0) hx hb dX3_in_14 (by decide) ?_
      rw [← hQ]
      exact W.zret (ty := .boolean) (v := (0 : Int32)) hx hb hr rfl (fun t ht hW => ⟨_, rfl, Option.some.inj hF, ht⟩) (fun _ h => by cases h) dX3_in_15
    · have hF := br0 hF c_2
      refine lv_iconst (v := 1) hx hb dX3_in_10 (by decide) ?_
      refine lv_goto (tgt := 15) hx hb dX3_in_11 (by decide) ?_
      rw [← hQ]
      exact W.zret (ty := .boolean) (v := (1 : Int32)) hx hb hr rfl (fun t ht hW => ⟨_, rfl, Option.some.inj hF, ht⟩) (fun _ h => by cases h) dX3_in_15

def P_X3_isLayer (a0 : Int32) : Option (Int32) :=
  bd1 (P_X3_in a0 (0 : Int32) (2 : Int32)) (fun r_1 =>
  gd (isb r_1) (some r_1))

def rm_X3_isLayer : Room := { frames := 1, cells := 0, slots := 0, locals := 22 }

set_option maxHeartbeats 4000000 in
set_option maxRecDepth 100000 in
theorem c_X3_isLayer (l : Launch) (a0 : Int32) (r0 : Int32) (hF : P_X3_isLayer a0 = some r0) : Met l yX3_isLayer wsX3_isLayer rm_X3_isLayer (fun v _ => v = ([.int a0] : List Value).toArray) (vp_Si (fun x => x = r0)) 0 0 (fun _ => False) := by
  refine Met.ofW (cc := cX3_isLayer) (maxL := 1) (ret := (some .boolean)) (by decide) rfl ?_
  intro p e s m args below meth c s₁ B hml hv
  change W p l e rm_X3_isLayer s m args below meth c s.heap [] 0 0 _ _
  have hx := B.exec
  have hb := B.bytes
  have hr := B.returns
  have hts := atoms_spec (ws := wsX3_isLayer) B.pre
  have hown : s.vm.findClass RX3 = some m.cls := findClass_of_methodNamed B.named
  have hlocks := B.notSynchronized
  generalize hQ : MQ below (vp_Si (fun x => x = r0)) args s 0 0 (fun _ => False) = Q
  have hl := lv_entry ([.int a0]) (n := 1) (Nat.le_of_ble_eq_true rfl)
  have hE : entryFrame m args 1 = F0 m 0 ((lg_sl ([.int a0]) ++ List.replicate (1 - (lg_sl ([.int a0])).length) Slot.unset).toArray) [] := by rw [hv]; exact lg_entry_eq m _ 1
  rw [hE]
  generalize (lg_sl ([.int a0]) ++ List.replicate (1 - (lg_sl ([.int a0])).length) Slot.unset).toArray = ls at hl ⊢
  have hl : lv_has ls 1 [(0, .int a0)] := hl
  unfold P_X3_isLayer at hF
  refine lv_iload_n hx hb dX3_isLayer_0 rfl (lv_at hl 0 rfl) ?_
  refine lv_iconst (v := 0) hx hb dX3_isLayer_1 (by decide) ?_
  refine lv_iconst (v := 2) hx hb dX3_isLayer_2 (by decide) ?_
  obtain ⟨r_1, hr_1, hF⟩ := bd1_u hF
  refine vp_callSi (W.runS (As := [.int a0, .int (0 : Int32), .int (2 : Int32)]) (rest := []) ⟨hx, hb, hml, hown, hts⟩ (c_X3_in l a0 (0 : Int32) (2 : Int32) r_1 hr_1) (va_cwS 3 hts gX3_isLayer_X3_in rfl rfl rfl (by decide +kernel) ⟨Nat.le_of_ble_eq_true rfl, Nat.le_of_ble_eq_true rfl⟩) preEq rfl rfl hl.1 rfl (lv_room (Nat.le_of_ble_eq_true rfl)) dX3_isLayer_3 ⟨Nat.le_of_ble_eq_true rfl, Nat.le_of_ble_eq_true rfl⟩) (fun r_1' qr_1 => ?_)
  obtain rfl := qr_1.symm
  obtain ⟨hB_, hF⟩ := gd_u hF
  rw [← hQ]
  exact W.zret (ty := .boolean) (v := r_1) hx hb hr (isb_u hB_) (fun t ht hW => ⟨_, rfl, Option.some.inj hF, ht⟩) (fun _ h => by cases h) dX3_isLayer_6

def P_X3_isDot (a0 : Int32) : Option (Int32) :=
  bd1 (P_X3_in a0 (0 : Int32) (15 : Int32)) (fun r_1 =>
  gd (isb r_1) (some r_1))

def rm_X3_isDot : Room := { frames := 1, cells := 0, slots := 0, locals := 22 }

set_option maxHeartbeats 4000000 in
set_option maxRecDepth 100000 in
theorem c_X3_isDot (l : Launch) (a0 : Int32) (r0 : Int32) (hF : P_X3_isDot a0 = some r0) : Met l yX3_isDot wsX3_isDot rm_X3_isDot (fun v _ => v = ([.int a0] : List Value).toArray) (vp_Si (fun x => x = r0)) 0 0 (fun _ => False) := by
  refine Met.ofW (cc := cX3_isDot) (maxL := 1) (ret := (some .boolean)) (by decide) rfl ?_
  intro p e s m args below meth c s₁ B hml hv
  change W p l e rm_X3_isDot s m args below meth c s.heap [] 0 0 _ _
  have hx := B.exec
  have hb := B.bytes
  have hr := B.returns
  have hts := atoms_spec (ws := wsX3_isDot) B.pre
  have hown : s.vm.findClass RX3 = some m.cls := findClass_of_methodNamed B.named
  have hlocks := B.notSynchronized
  generalize hQ : MQ below (vp_Si (fun x => x = r0)) args s 0 0 (fun _ => False) = Q
  have hl := lv_entry ([.int a0]) (n := 1) (Nat.le_of_ble_eq_true rfl)
  have hE : entryFrame m args 1 = F0 m 0 ((lg_sl ([.int a0]) ++ List.replicate (1 - (lg_sl ([.int a0])).length) Slot.unset).toArray) [] := by rw [hv]; exact lg_entry_eq m _ 1
  rw [hE]
  generalize (lg_sl ([.int a0]) ++ List.replicate (1 - (lg_sl ([.int a0])).length) Slot.unset).toArray = ls at hl ⊢
  have hl : lv_has ls 1 [(0, .int a0)] := hl
  unfold P_X3_isDot at hF
  refine lv_iload_n hx hb dX3_isDot_0 rfl (lv_at hl 0 rfl) ?_
  refine lv_iconst (v := 0) hx hb dX3_isDot_1 (by decide) ?_
  refine lv_bipush (v := 15) hx hb dX3_isDot_2 (by decide) ?_
  obtain ⟨r_1, hr_1, hF⟩ := bd1_u hF
  refine vp_callSi (W.runS (As := [.int a0, .int (0 : Int32), .int (15 : Int32)]) (rest := []) ⟨hx, hb, hml, hown, hts⟩ (c_X3_in l a0 (0 : Int32) (15 : Int32) r_1 hr_1) (va_cwS 3 hts gX3_isDot_X3_in rfl rfl rfl (by decide +kernel) ⟨Nat.le_of_ble_eq_true rfl, Nat.le_of_ble_eq_true rfl⟩) preEq rfl rfl hl.1 rfl (lv_room (Nat.le_of_ble_eq_true rfl)) dX3_isDot_4 ⟨Nat.le_of_ble_eq_true rfl, Nat.le_of_ble_eq_true rfl⟩) (fun r_1' qr_1 => ?_)
  obtain rfl := qr_1.symm
  obtain ⟨hB_, hF⟩ := gd_u hF
  rw [← hQ]
  exact W.zret (ty := .boolean) (v := r_1) hx hb hr (isb_u hB_) (fun t ht hW => ⟨_, rfl, Option.some.inj hF, ht⟩) (fun _ h => by cases h) dX3_isDot_7

def P_X3_isHere (a0 : Int32) (a1 : Int32) : Option (Int32) :=
  bd1 (P_X3_in a0 (0 : Int32) (12 : Int32)) (fun r_1 =>
  if r_1 = (0 : Int32) then
    some (0 : Int32)
  else
    bd1 (P_X3_in a1 (0 : Int32) (12 : Int32)) (fun r_3 =>
    if r_3 = (0 : Int32) then
      some (0 : Int32)
    else
      some (1 : Int32)))

def rm_X3_isHere : Room := { frames := 1, cells := 0, slots := 0, locals := 22 }

set_option maxHeartbeats 4000000 in
set_option maxRecDepth 100000 in
theorem c_X3_isHere (l : Launch) (a0 : Int32) (a1 : Int32) (r0 : Int32) (hF : P_X3_isHere a0 a1 = some r0) : Met l yX3_isHere wsX3_isHere rm_X3_isHere (fun v _ => v = ([.int a0, .int a1] : List Value).toArray) (vp_Si (fun x => x = r0)) 0 0 (fun _ => False) := by
  refine Met.ofW (cc := cX3_isHere) (maxL := 2) (ret := (some .boolean)) (by decide) rfl ?_
  intro p e s m args below meth c s₁ B hml hv
  change W p l e rm_X3_isHere s m args below meth c s.heap [] 0 0 _ _
  have hx := B.exec
  have hb := B.bytes
  have hr := B.returns
  have hts := atoms_spec (ws := wsX3_isHere) B.pre
  have hown : s.vm.findClass RX3 = some m.cls := findClass_of_methodNamed B.named
  have hlocks := B.notSynchronized
  generalize hQ : MQ below (vp_Si (fun x => x = r0)) args s 0 0 (fun _ => False) = Q
  have hl := lv_entry ([.int a0, .int a1]) (n := 2) (Nat.le_of_ble_eq_true rfl)
  have hE : entryFrame m args 2 = F0 m 0 ((lg_sl ([.int a0, .int a1]) ++ List.replicate (2 - (lg_sl ([.int a0, .int a1])).length) Slot.unset).toArray) [] := by rw [hv]; exact lg_entry_eq m _ 2
  rw [hE]
  generalize (lg_sl ([.int a0, .int a1]) ++ List.replicate (2 - (lg_sl ([.int a0, .int a1])).length) Slot.unset).toArray = ls at hl ⊢
  have hl : lv_has ls 2 [(0, .int a0), (1, .int a1)] := hl
  unfold P_X3_isHere at hF
  refine lv_iload_n hx hb dX3_isHere_0 rfl (lv_at hl 0 rfl) ?_
  refine lv_iconst (v := 0) hx hb dX3_isHere_1 (by decide) ?_
  refine lv_bipush (v := 12) hx hb dX3_isHere_2 (by decide) ?_
  obtain ⟨r_1, hr_1, hF⟩ := bd1_u hF
  refine vp_callSi (W.runS (As := [.int a0, .int (0 : Int32), .int (12 : Int32)]) (rest := []) ⟨hx, hb, hml, hown, hts⟩ (c_X3_in l a0 (0 : Int32) (12 : Int32) r_1 hr_1) (va_cwS 3 hts gX3_isHere_X3_in rfl rfl rfl (by decide +kernel) ⟨Nat.le_of_ble_eq_true rfl, Nat.le_of_ble_eq_true rfl⟩) preEq rfl rfl hl.1 rfl (lv_room (Nat.le_of_ble_eq_true rfl)) dX3_isHere_4 ⟨Nat.le_of_ble_eq_true rfl, Nat.le_of_ble_eq_true rfl⟩) (fun r_1' qr_1 => ?_)
  obtain rfl := qr_1.symm
  refine lv_if_eq (tgt := 24) hx hb dX3_isHere_7 (by decide) (fun c_2 => ?_) (fun c_2 => ?_)
  · have hF := br1 hF c_2
    refine lv_iconst (v := 0) hx hb dX3_isHere_24 (by decide) ?_
    rw [← hQ]
    exact W.zret (ty := .boolean) (v := (0 : Int32)) hx hb hr rfl (fun t ht hW => ⟨_, rfl, Option.some.inj hF, ht⟩) (fun _ h => by cases h) dX3_isHere_25
  · have hF := br0 hF c_2
    refine lv_iload_n hx hb dX3_isHere_10 rfl (lv_at hl 1 rfl) ?_
    refine lv_iconst (v := 0) hx hb dX3_isHere_11 (by decide) ?_
    refine lv_bipush (v := 12) hx hb dX3_isHere_12 (by decide) ?_
    obtain ⟨r_3, hr_3, hF⟩ := bd1_u hF
    refine vp_callSi (W.runS (As := [.int a1, .int (0 : Int32), .int (12 : Int32)]) (rest := []) ⟨hx, hb, hml, hown, hts⟩ (c_X3_in l a1 (0 : Int32) (12 : Int32) r_3 hr_3) (va_cwS 3 hts gX3_isHere_X3_in rfl rfl rfl (by decide +kernel) ⟨Nat.le_of_ble_eq_true rfl, Nat.le_of_ble_eq_true rfl⟩) preEq rfl rfl hl.1 rfl (lv_room (Nat.le_of_ble_eq_true rfl)) dX3_isHere_14 ⟨Nat.le_of_ble_eq_true rfl, Nat.le_of_ble_eq_true rfl⟩) (fun r_3' qr_3 => ?_)
    obtain rfl := qr_3.symm
    refine lv_if_eq (tgt := 24) hx hb dX3_isHere_17 (by decide) (fun c_4 => ?_) (fun c_4 => ?_)
    · have hF := br1 hF c_4
      refine lv_iconst (v := 0) hx hb dX3_isHere_24 (by decide) ?_
      rw [← hQ]
      exact W.zret (ty := .boolean) (v := (0 : Int32)) hx hb hr rfl (fun t ht hW => ⟨_, rfl, Option.some.inj hF, ht⟩) (fun _ h => by cases h) dX3_isHere_25
    · have hF := br0 hF c_4
      refine lv_iconst (v := 1) hx hb dX3_isHere_20 (by decide) ?_
      refine lv_goto (tgt := 25) hx hb dX3_isHere_21 (by decide) ?_
      rw [← hQ]
      exact W.zret (ty := .boolean) (v := (1 : Int32)) hx hb hr rfl (fun t ht hW => ⟨_, rfl, Option.some.inj hF, ht⟩) (fun _ h => by cases h) dX3_isHere_25

def P_X3_place (a0 : Int32) (a1 : Int32) : Option (Int32) :=
  some (((8 : Int32) * a0) + a1)

def rm_X3_place : Room := { frames := 0, cells := 0, slots := 0, locals := 0 }

set_option maxHeartbeats 4000000 in
set_option maxRecDepth 100000 in
theorem c_X3_place (l : Launch) (a0 : Int32) (a1 : Int32) (r0 : Int32) (hF : P_X3_place a0 a1 = some r0) : Met l yX3_place wsX3_place rm_X3_place (fun v _ => v = ([.int a0, .int a1] : List Value).toArray) (vp_Si (fun x => x = r0)) 0 0 (fun _ => False) := by
  refine Met.ofW (cc := cX3_place) (maxL := 2) (ret := (some .int)) (by decide) rfl ?_
  intro p e s m args below meth c s₁ B hml hv
  change W p l e rm_X3_place s m args below meth c s.heap [] 0 0 _ _
  have hx := B.exec
  have hb := B.bytes
  have hr := B.returns
  have hts := atoms_spec (ws := wsX3_place) B.pre
  have hown : s.vm.findClass RX3 = some m.cls := findClass_of_methodNamed B.named
  have hlocks := B.notSynchronized
  generalize hQ : MQ below (vp_Si (fun x => x = r0)) args s 0 0 (fun _ => False) = Q
  have hl := lv_entry ([.int a0, .int a1]) (n := 2) (Nat.le_of_ble_eq_true rfl)
  have hE : entryFrame m args 2 = F0 m 0 ((lg_sl ([.int a0, .int a1]) ++ List.replicate (2 - (lg_sl ([.int a0, .int a1])).length) Slot.unset).toArray) [] := by rw [hv]; exact lg_entry_eq m _ 2
  rw [hE]
  generalize (lg_sl ([.int a0, .int a1]) ++ List.replicate (2 - (lg_sl ([.int a0, .int a1])).length) Slot.unset).toArray = ls at hl ⊢
  have hl : lv_has ls 2 [(0, .int a0), (1, .int a1)] := hl
  unfold P_X3_place at hF
  refine lv_bipush (v := 8) hx hb dX3_place_0 (by decide) ?_
  refine lv_iload_n hx hb dX3_place_2 rfl (lv_at hl 0 rfl) ?_
  refine lv_imul hx hb dX3_place_3 ?_
  refine lv_iload_n hx hb dX3_place_4 rfl (lv_at hl 1 rfl) ?_
  refine lv_iadd hx hb dX3_place_5 ?_
  rw [← hQ]
  exact W.iret (v := (((8 : Int32) * a0) + a1)) hx hb hr (fun t ht hW => ⟨_, rfl, Option.some.inj hF, ht⟩) (fun _ h => by cases h) dX3_place_6

def P_X3_isPart (a0 : Int32) : Option (Int32) :=
  bd1 (P_X3_in a0 (0 : Int32) (1 : Int32)) (fun r_1 =>
  gd (isb r_1) (some r_1))

def rm_X3_isPart : Room := { frames := 1, cells := 0, slots := 0, locals := 22 }

set_option maxHeartbeats 4000000 in
set_option maxRecDepth 100000 in
theorem c_X3_isPart (l : Launch) (a0 : Int32) (r0 : Int32) (hF : P_X3_isPart a0 = some r0) : Met l yX3_isPart wsX3_isPart rm_X3_isPart (fun v _ => v = ([.int a0] : List Value).toArray) (vp_Si (fun x => x = r0)) 0 0 (fun _ => False) := by
  refine Met.ofW (cc := cX3_isPart) (maxL := 1) (ret := (some .boolean)) (by decide) rfl ?_
  intro p e s m args below meth c s₁ B hml hv
  change W p l e rm_X3_isPart s m args below meth c s.heap [] 0 0 _ _
  have hx := B.exec
  have hb := B.bytes
  have hr := B.returns
  have hts := atoms_spec (ws := wsX3_isPart) B.pre
  have hown : s.vm.findClass RX3 = some m.cls := findClass_of_methodNamed B.named
  have hlocks := B.notSynchronized
  generalize hQ : MQ below (vp_Si (fun x => x = r0)) args s 0 0 (fun _ => False) = Q
  have hl := lv_entry ([.int a0]) (n := 1) (Nat.le_of_ble_eq_true rfl)
  have hE : entryFrame m args 1 = F0 m 0 ((lg_sl ([.int a0]) ++ List.replicate (1 - (lg_sl ([.int a0])).length) Slot.unset).toArray) [] := by rw [hv]; exact lg_entry_eq m _ 1
  rw [hE]
  generalize (lg_sl ([.int a0]) ++ List.replicate (1 - (lg_sl ([.int a0])).length) Slot.unset).toArray = ls at hl ⊢
  have hl : lv_has ls 1 [(0, .int a0)] := hl
  unfold P_X3_isPart at hF
  refine lv_iload_n hx hb dX3_isPart_0 rfl (lv_at hl 0 rfl) ?_
  refine lv_iconst (v := 0) hx hb dX3_isPart_1 (by decide) ?_
  refine lv_iconst (v := 1) hx hb dX3_isPart_2 (by decide) ?_
  obtain ⟨r_1, hr_1, hF⟩ := bd1_u hF
  refine vp_callSi (W.runS (As := [.int a0, .int (0 : Int32), .int (1 : Int32)]) (rest := []) ⟨hx, hb, hml, hown, hts⟩ (c_X3_in l a0 (0 : Int32) (1 : Int32) r_1 hr_1) (va_cwS 3 hts gX3_isPart_X3_in rfl rfl rfl (by decide +kernel) ⟨Nat.le_of_ble_eq_true rfl, Nat.le_of_ble_eq_true rfl⟩) preEq rfl rfl hl.1 rfl (lv_room (Nat.le_of_ble_eq_true rfl)) dX3_isPart_3 ⟨Nat.le_of_ble_eq_true rfl, Nat.le_of_ble_eq_true rfl⟩) (fun r_1' qr_1 => ?_)
  obtain rfl := qr_1.symm
  obtain ⟨hB_, hF⟩ := gd_u hF
  rw [← hQ]
  exact W.zret (ty := .boolean) (v := r_1) hx hb hr (isb_u hB_) (fun t ht hW => ⟨_, rfl, Option.some.inj hF, ht⟩) (fun _ h => by cases h) dX3_isPart_6

def P_X3_plain (a0 : Int64) : Option (Int64) :=
  if (0 : Int64) ≤ a0 then
    some a0
  else
    some (-a0)

def rm_X3_plain : Room := { frames := 0, cells := 0, slots := 0, locals := 0 }

set_option maxHeartbeats 4000000 in
set_option maxRecDepth 100000 in
theorem c_X3_plain (l : Launch) (a0 : Int64) (r0 : Int64) (hF : P_X3_plain a0 = some r0) : Met l yX3_plain wsX3_plain rm_X3_plain (fun v _ => v = ([.long a0] : List Value).toArray) (vp_Sl (fun x => x = r0)) 0 0 (fun _ => False) := by
  refine Met.ofW (cc := cX3_plain) (maxL := 2) (ret := (some .long)) (by decide) rfl ?_
  intro p e s m args below meth c s₁ B hml hv
  change W p l e rm_X3_plain s m args below meth c s.heap [] 0 0 _ _
  have hx := B.exec
  have hb := B.bytes
  have hr := B.returns
  have hts := atoms_spec (ws := wsX3_plain) B.pre
  have hown : s.vm.findClass RX3 = some m.cls := findClass_of_methodNamed B.named
  have hlocks := B.notSynchronized
  generalize hQ : MQ below (vp_Sl (fun x => x = r0)) args s 0 0 (fun _ => False) = Q
  have hl := lv_entry ([.long a0]) (n := 2) (Nat.le_of_ble_eq_true rfl)
  have hE : entryFrame m args 2 = F0 m 0 ((lg_sl ([.long a0]) ++ List.replicate (2 - (lg_sl ([.long a0])).length) Slot.unset).toArray) [] := by rw [hv]; exact lg_entry_eq m _ 2
  rw [hE]
  generalize (lg_sl ([.long a0]) ++ List.replicate (2 - (lg_sl ([.long a0])).length) Slot.unset).toArray = ls at hl ⊢
  have hl : lv_has ls 2 [(0, .long a0)] := hl
  unfold P_X3_plain at hF
  refine lv_lload_n hx hb dX3_plain_0 rfl (lv_at hl 0 rfl) ?_
  refine lv_lconst (v := 0) hx hb dX3_plain_1 (by decide) ?_
  refine lc_ge (tgt := 11) hx hb dX3_plain_2 dX3_plain_3 (by decide) (fun c_1 => ?_) (fun c_1 => ?_)
  · have hF := br1 hF c_1
    refine lv_lload_n hx hb dX3_plain_11 rfl (lv_at hl 0 rfl) ?_
    rw [← hQ]
    exact W.lret (v := a0) hx hb hr (fun t ht hW => ⟨_, rfl, Option.some.inj hF, ht⟩) (fun _ h => by cases h) dX3_plain_12
  · have hF := br0 hF c_1
    refine lv_lload_n hx hb dX3_plain_6 rfl (lv_at hl 0 rfl) ?_
    refine lv_lneg hx hb dX3_plain_7 ?_
    refine lv_goto (tgt := 12) hx hb dX3_plain_8 (by decide) ?_
    rw [← hQ]
    exact W.lret (v := (-a0)) hx hb hr (fun t ht hW => ⟨_, rfl, Option.some.inj hF, ht⟩) (fun _ h => by cases h) dX3_plain_12

def P_X3_whole : Option (Int64) :=
  some (124221621275136000 : Int64)

def rm_X3_whole : Room := { frames := 0, cells := 0, slots := 0, locals := 0 }

set_option maxHeartbeats 4000000 in
set_option maxRecDepth 100000 in
theorem c_X3_whole (l : Launch) (r0 : Int64) (hF : P_X3_whole = some r0) : Met l yX3_whole wsX3_whole rm_X3_whole (fun v _ => v = ([] : List Value).toArray) (vp_Sl (fun x => x = r0)) 0 0 (fun _ => False) := by
  refine Met.ofW (cc := cX3_whole) (maxL := 0) (ret := (some .long)) (by decide) rfl ?_
  intro p e s m args below meth c s₁ B hml hv
  change W p l e rm_X3_whole s m args below meth c s.heap [] 0 0 _ _
  have hx := B.exec
  have hb := B.bytes
  have hr := B.returns
  have hts := atoms_spec (ws := wsX3_whole) B.pre
  have hown : s.vm.findClass RX3 = some m.cls := findClass_of_methodNamed B.named
  have hlocks := B.notSynchronized
  generalize hQ : MQ below (vp_Sl (fun x => x = r0)) args s 0 0 (fun _ => False) = Q
  have hl := lv_entry ([]) (n := 0) (Nat.le_of_ble_eq_true rfl)
  have hE : entryFrame m args 0 = F0 m 0 ((lg_sl ([]) ++ List.replicate (0 - (lg_sl ([])).length) Slot.unset).toArray) [] := by rw [hv]; exact lg_entry_eq m _ 0
  rw [hE]
  generalize (lg_sl ([]) ++ List.replicate (0 - (lg_sl ([])).length) Slot.unset).toArray = ls at hl ⊢
  have hl : lv_has ls 0 [] := hl
  unfold P_X3_whole at hF
  refine lv_ldc2 (v := 124221621275136000) hx hb hown (hts (.constantLong RX3 144 (124221621275136000)) (by decide +kernel)) dX3_whole_0 ?_
  rw [← hQ]
  exact W.lret (v := (124221621275136000 : Int64)) hx hb hr (fun t ht hW => ⟨_, rfl, Option.some.inj hF, ht⟩) (fun _ h => by cases h) dX3_whole_3

def L_X3_common_6 : Nat → Int64 → Int64 → Option (Int64 × Int64)
  | 0, _, _ => none
  | n + 1, k_1, k_2 =>
    if k_1 = (0 : Int64) then
      some (k_1, k_2)
    else
      gd (nzl k_1) (
      nm (k_2 - k_2 / k_1 * k_1) (fun v_6 =>
      L_X3_common_6 n v_6 k_1))
theorem L_X3_common_6_s (n : Nat) (k_1 : Int64) (k_2 : Int64) : L_X3_common_6 (n + 1) k_1 k_2 =
    (if k_1 = (0 : Int64) then
      some (k_1, k_2)
    else
      gd (nzl k_1) (
      nm (k_2 - k_2 / k_1 * k_1) (fun v_6 =>
      L_X3_common_6 n v_6 k_1))) := rfl

def P_X3_common (a0 : Int64) (a1 : Int64) : Option (Int64) :=
  bd2 (L_X3_common_6 1000 a1 a0) (fun o_3 o_4 =>
  some o_4)

def rm_X3_common : Room := { frames := 0, cells := 0, slots := 0, locals := 0 }

set_option maxHeartbeats 4000000 in
set_option maxRecDepth 100000 in
theorem c_X3_common (l : Launch) (a0 : Int64) (a1 : Int64) (r0 : Int64) (hF : P_X3_common a0 a1 = some r0) : Met l yX3_common wsX3_common rm_X3_common (fun v _ => v = ([.long a0, .long a1] : List Value).toArray) (vp_Sl (fun x => x = r0)) 0 0 (fun _ => False) := by
  refine Met.ofW (cc := cX3_common) (maxL := 10) (ret := (some .long)) (by decide) rfl ?_
  intro p e s m args below meth c s₁ B hml hv
  change W p l e rm_X3_common s m args below meth c s.heap [] 0 0 _ _
  have hx := B.exec
  have hb := B.bytes
  have hr := B.returns
  have hts := atoms_spec (ws := wsX3_common) B.pre
  have hown : s.vm.findClass RX3 = some m.cls := findClass_of_methodNamed B.named
  have hlocks := B.notSynchronized
  generalize hQ : MQ below (vp_Sl (fun x => x = r0)) args s 0 0 (fun _ => False) = Q
  have hl := lv_entry ([.long a0, .long a1]) (n := 10) (Nat.le_of_ble_eq_true rfl)
  have hE : entryFrame m args 10 = F0 m 0 ((lg_sl ([.long a0, .long a1]) ++ List.replicate (10 - (lg_sl ([.long a0, .long a1])).length) Slot.unset).toArray) [] := by rw [hv]; exact lg_entry_eq m _ 10
  rw [hE]
  generalize (lg_sl ([.long a0, .long a1]) ++ List.replicate (10 - (lg_sl ([.long a0, .long a1])).length) Slot.unset).toArray = ls at hl ⊢
  have hl : lv_has ls 10 [(0, .long a0), (2, .long a1)] := hl
  unfold P_X3_common at hF
  refine lv_lload_n hx hb dX3_common_0 rfl (lv_at hl 0 rfl) ?_
  refine lv_lstore (lv' := [(4, .long a0), (0, .long a0), (2, .long a1)]) hx hb dX3_common_1 hl (by decide) rfl (fun ls hl => ?_)
  refine lv_lload_n hx hb dX3_common_3 rfl (lv_at hl 2 rfl) ?_
  refine lv_lstore (lv' := [(6, .long a1), (4, .long a0), (0, .long a0), (2, .long a1)]) hx hb dX3_common_4 hl (by decide) rfl (fun ls hl => ?_)
  obtain ⟨o_3, o_4, hL_6, hF⟩ := bd2_u hF
  have lp_6 : ∀ (n : Nat) (k_1 : Int64) (k_2 : Int64) (o_3 : Int64) (o_4 : Int64) (ls : Array Slot), L_X3_common_6 n k_1 k_2 = some (o_3, o_4) → lv_has ls 10 [(6, .long k_1), (4, .long k_2), (0, .long a0), (2, .long a1)] → (∀ (ls : Array Slot), lv_has ls 10 [(6, .long o_3), (4, .long o_4), (0, .long a0), (2, .long a1)] → W p l e rm_X3_common s m args below meth c s.heap [] 0 0 Q (F0 m 31 ls [])) → W p l e rm_X3_common s m args below meth c s.heap [] 0 0 Q (F0 m 6 ls []) := by
    intro n
    induction n with
    | zero =>
      intro k_1 k_2 o_3 o_4 ls hF
      exact nn ((rfl : L_X3_common_6 0 k_1 k_2 = none).symm.trans hF)
    | succ n ih_6 =>
      intro k_1 k_2 o_3 o_4 ls hF hl kx_6
      have hF := (L_X3_common_6_s n k_1 k_2).symm.trans hF
      refine lv_lload hx hb dX3_common_6 (lv_at hl 0 rfl) ?_
      refine lv_lconst (v := 0) hx hb dX3_common_8 (by decide) ?_
      refine lc_eq (tgt := 31) hx hb dX3_common_9 dX3_common_10 (by decide) (fun c_5 => ?_) (fun c_5 => ?_)
      · have hF := br1 hF c_5
        obtain ⟨rfl, rfl⟩ := tp2 hF
        exact kx_6 ls hl
      · have hF := br0 hF c_5
        refine lv_lload hx hb dX3_common_13 (lv_at hl 1 rfl) ?_
        refine lv_lload hx hb dX3_common_15 (lv_at hl 0 rfl) ?_
        obtain ⟨hz_17, hF⟩ := gd_u hF
        refine lv_lrem hx hb dX3_common_17 (nz_ul hz_17) ?_
        refine lv_topl (fun v_6 ev_6 => ?_)
        have hF := nm_u hF ev_6
        refine lv_lstore (lv' := [(8, .long v_6), (6, .long k_1), (4, .long k_2), (0, .long a0), (2, .long a1)]) hx hb dX3_common_18 hl (by decide) rfl (fun ls hl => ?_)
        refine lv_lload hx hb dX3_common_20 (lv_at hl 1 rfl) ?_
        refine lv_lstore (lv' := [(4, .long k_1), (8, .long v_6), (6, .long k_1), (0, .long a0), (2, .long a1)]) hx hb dX3_common_22 hl (by decide) rfl (fun ls hl => ?_)
        refine lv_lload hx hb dX3_common_24 (lv_at hl 1 rfl) ?_
        refine lv_lstore (lv' := [(6, .long v_6), (4, .long k_1), (8, .long v_6), (0, .long a0), (2, .long a1)]) hx hb dX3_common_26 hl (by decide) rfl (fun ls hl => ?_)
        refine lv_goto (tgt := 6) hx hb dX3_common_28 (by decide) ?_
        exact ih_6 _ _ _ _ ls hF (lv_sub hl [0, 1, 3, 4] rfl) kx_6
  refine lp_6 1000 a1 a0 o_3 o_4 ls hL_6 hl (fun ls hl => ?_)
  refine lv_lload hx hb dX3_common_31 (lv_at hl 1 rfl) ?_
  rw [← hQ]
  exact W.lret (v := o_4) hx hb hr (fun t ht hW => ⟨_, rfl, Option.some.inj hF, ht⟩) (fun _ h => by cases h) dX3_common_33

def P_X3_told (a0 : Int64) (a1 : Int64) (a2 : Int32) : Option (Int64) :=
  bd1 (P_X3_plain a0) (fun r_1 =>
  bd1 (P_X3_common a1 r_1) (fun r_2 =>
  if a2 = (0 : Int32) then
    gd (nzl r_2) (
    some (a0 / r_2))
  else
    gd (nzl r_2) (
    some (a1 / r_2))))

def rm_X3_told : Room := { frames := 1, cells := 0, slots := 0, locals := 29 }

set_option maxHeartbeats 4000000 in
set_option maxRecDepth 100000 in
theorem c_X3_told (l : Launch) (a0 : Int64) (a1 : Int64) (a2 : Int32) (r0 : Int64) (hF : P_X3_told a0 a1 a2 = some r0) : Met l yX3_told wsX3_told rm_X3_told (fun v _ => v = ([.long a0, .long a1, .int a2] : List Value).toArray) (vp_Sl (fun x => x = r0)) 0 0 (fun _ => False) := by
  refine Met.ofW (cc := cX3_told) (maxL := 7) (ret := (some .long)) (by decide) rfl ?_
  intro p e s m args below meth c s₁ B hml hv
  change W p l e rm_X3_told s m args below meth c s.heap [] 0 0 _ _
  have hx := B.exec
  have hb := B.bytes
  have hr := B.returns
  have hts := atoms_spec (ws := wsX3_told) B.pre
  have hown : s.vm.findClass RX3 = some m.cls := findClass_of_methodNamed B.named
  have hlocks := B.notSynchronized
  generalize hQ : MQ below (vp_Sl (fun x => x = r0)) args s 0 0 (fun _ => False) = Q
  have hl := lv_entry ([.long a0, .long a1, .int a2]) (n := 7) (Nat.le_of_ble_eq_true rfl)
  have hE : entryFrame m args 7 = F0 m 0 ((lg_sl ([.long a0, .long a1, .int a2]) ++ List.replicate (7 - (lg_sl ([.long a0, .long a1, .int a2])).length) Slot.unset).toArray) [] := by rw [hv]; exact lg_entry_eq m _ 7
  rw [hE]
  generalize (lg_sl ([.long a0, .long a1, .int a2]) ++ List.replicate (7 - (lg_sl ([.long a0, .long a1, .int a2])).length) Slot.unset).toArray = ls at hl ⊢
  have hl : lv_has ls 7 [(0, .long a0), (2, .long a1), (4, .int a2)] := hl
  unfold P_X3_told at hF
  refine lv_lload_n hx hb dX3_told_0 rfl (lv_at hl 1 rfl) ?_
  refine lv_lload_n hx hb dX3_told_1 rfl (lv_at hl 0 rfl) ?_
  obtain ⟨r_1, hr_1, hF⟩ := bd1_u hF
  refine vp_callSl (W.runS (As := [.long a0]) (rest := [.long a1]) ⟨hx, hb, hml, hown, hts⟩ (c_X3_plain l a0 r_1 hr_1) (va_cwS 1 hts gX3_told_X3_plain rfl rfl rfl (by decide +kernel) ⟨Nat.le_of_ble_eq_true rfl, Nat.le_of_ble_eq_true rfl⟩) preEq rfl rfl hl.1 rfl (lv_room (Nat.le_of_ble_eq_true rfl)) dX3_told_2 ⟨Nat.le_of_ble_eq_true rfl, Nat.le_of_ble_eq_true rfl⟩) (fun r_1' qr_1 => ?_)
  obtain rfl := qr_1.symm
  obtain ⟨r_2, hr_2, hF⟩ := bd1_u hF
  refine vp_callSl (W.runS (As := [.long a1, .long r_1]) (rest := []) ⟨hx, hb, hml, hown, hts⟩ (c_X3_common l a1 r_1 r_2 hr_2) (va_cwS 2 hts gX3_told_X3_common rfl rfl rfl (by decide +kernel) ⟨Nat.le_of_ble_eq_true rfl, Nat.le_of_ble_eq_true rfl⟩) preEq rfl rfl hl.1 rfl (lv_room (Nat.le_of_ble_eq_true rfl)) dX3_told_5 ⟨Nat.le_of_ble_eq_true rfl, Nat.le_of_ble_eq_true rfl⟩) (fun r_2' qr_2 => ?_)
  obtain rfl := qr_2.symm
  refine lv_lstore (lv' := [(5, .long r_2), (0, .long a0), (2, .long a1), (4, .int a2)]) hx hb dX3_told_8 hl (by decide) rfl (fun ls hl => ?_)
  refine lv_iload hx hb dX3_told_10 (lv_at hl 3 rfl) ?_
  refine lv_if_ne (tgt := 22) hx hb dX3_told_12 (by decide) (fun c_3 => ?_) (fun c_3 => ?_)
  · have hF := br0 hF c_3
    refine lv_lload_n hx hb dX3_told_22 rfl (lv_at hl 2 rfl) ?_
    refine lv_lload hx hb dX3_told_23 (lv_at hl 0 rfl) ?_
    obtain ⟨hz_25, hF⟩ := gd_u hF
    refine lv_ldiv hx hb dX3_told_25 (nz_ul hz_25) ?_
    rw [← hQ]
    exact W.lret (v := (a1 / r_2)) hx hb hr (fun t ht hW => ⟨_, rfl, Option.some.inj hF, ht⟩) (fun _ h => by cases h) dX3_told_26
  · have hF := br1 hF c_3
    refine lv_lload_n hx hb dX3_told_15 rfl (lv_at hl 1 rfl) ?_
    refine lv_lload hx hb dX3_told_16 (lv_at hl 0 rfl) ?_
    obtain ⟨hz_18, hF⟩ := gd_u hF
    refine lv_ldiv hx hb dX3_told_18 (nz_ul hz_18) ?_
    refine lv_goto (tgt := 26) hx hb dX3_told_19 (by decide) ?_
    rw [← hQ]
    exact W.lret (v := (a0 / r_2)) hx hb hr (fun t ht hW => ⟨_, rfl, Option.some.inj hF, ht⟩) (fun _ h => by cases h) dX3_told_26

def L_X2_greatestDivisor_9 : Nat → Int32 → Int64 → Int64 → Option (Int32 × Int64 × Int64)
  | 0, _, _, _ => none
  | n + 1, k_1, k_2, k_3 =>
    if (100 : Int32) ≤ k_1 then
      some (k_1, k_2, k_3)
    else
      if k_2 = (0 : Int64) then
        some (k_1, k_2, k_3)
      else
        gd (nzl k_2) (
        nm (k_3 - k_3 / k_2 * k_2) (fun v_9 =>
        L_X2_greatestDivisor_9 n (k_1 + (1 : Int32)) v_9 k_2))
theorem L_X2_greatestDivisor_9_s (n : Nat) (k_1 : Int32) (k_2 : Int64) (k_3 : Int64) : L_X2_greatestDivisor_9 (n + 1) k_1 k_2 k_3 =
    (if (100 : Int32) ≤ k_1 then
      some (k_1, k_2, k_3)
    else
      if k_2 = (0 : Int64) then
        some (k_1, k_2, k_3)
      else
        gd (nzl k_2) (
        nm (k_3 - k_3 / k_2 * k_2) (fun v_9 =>
        L_X2_greatestDivisor_9 n (k_1 + (1 : Int32)) v_9 k_2))) := rfl

def P_X2_greatestDivisor (a0 : Int64) (a1 : Int64) : Option (Int64) :=
  bd3 (L_X2_greatestDivisor_9 1000 (0 : Int32) a1 a0) (fun o_4 o_5 o_6 =>
  some o_6)

def rm_X2_greatestDivisor : Room := { frames := 0, cells := 0, slots := 0, locals := 0 }

set_option maxHeartbeats 4000000 in
set_option maxRecDepth 100000 in
theorem c_X2_greatestDivisor (l : Launch) (a0 : Int64) (a1 : Int64) (r0 : Int64) (hF : P_X2_greatestDivisor a0 a1 = some r0) : Met l yX2_greatestDivisor wsX2_greatestDivisor rm_X2_greatestDivisor (fun v _ => v = ([.long a0, .long a1] : List Value).toArray) (vp_Sl (fun x => x = r0)) 0 0 (fun _ => False) := by
  refine Met.ofW (cc := cX2_greatestDivisor) (maxL := 11) (ret := (some .long)) (by decide) rfl ?_
  intro p e s m args below meth c s₁ B hml hv
  change W p l e rm_X2_greatestDivisor s m args below meth c s.heap [] 0 0 _ _
  have hx := B.exec
  have hb := B.bytes
  have hr := B.returns
  have hts := atoms_spec (ws := wsX2_greatestDivisor) B.pre
  have hown : s.vm.findClass RX2 = some m.cls := findClass_of_methodNamed B.named
  have hlocks := B.notSynchronized
  generalize hQ : MQ below (vp_Sl (fun x => x = r0)) args s 0 0 (fun _ => False) = Q
  have hl := lv_entry ([.long a0, .long a1]) (n := 11) (Nat.le_of_ble_eq_true rfl)
  have hE : entryFrame m args 11 = F0 m 0 ((lg_sl ([.long a0, .long a1]) ++ List.replicate (11 - (lg_sl ([.long a0, .long a1])).length) Slot.unset).toArray) [] := by rw [hv]; exact lg_entry_eq m _ 11
  rw [hE]
  generalize (lg_sl ([.long a0, .long a1]) ++ List.replicate (11 - (lg_sl ([.long a0, .long a1])).length) Slot.unset).toArray = ls at hl ⊢
  have hl : lv_has ls 11 [(0, .long a0), (2, .long a1)] := hl
  unfold P_X2_greatestDivisor at hF
  refine lv_lload_n hx hb dX2_greatestDivisor_0 rfl (lv_at hl 0 rfl) ?_
  refine lv_lstore (lv' := [(4, .long a0), (0, .long a0), (2, .long a1)]) hx hb dX2_greatestDivisor_1 hl (by decide) rfl (fun ls hl => ?_)
  refine lv_lload_n hx hb dX2_greatestDivisor_3 rfl (lv_at hl 2 rfl) ?_
  refine lv_lstore (lv' := [(6, .long a1), (4, .long a0), (0, .long a0), (2, .long a1)]) hx hb dX2_greatestDivisor_4 hl (by decide) rfl (fun ls hl => ?_)
  refine lv_iconst (v := 0) hx hb dX2_greatestDivisor_6 (by decide) ?_
  refine lv_istore (lv' := [(8, .int (0 : Int32)), (6, .long a1), (4, .long a0), (0, .long a0), (2, .long a1)]) hx hb dX2_greatestDivisor_7 hl (by decide) rfl (fun ls hl => ?_)
  obtain ⟨o_4, o_5, o_6, hL_9, hF⟩ := bd3_u hF
  have lp_9 : ∀ (n : Nat) (k_1 : Int32) (k_2 : Int64) (k_3 : Int64) (o_4 : Int32) (o_5 : Int64) (o_6 : Int64) (ls : Array Slot), L_X2_greatestDivisor_9 n k_1 k_2 k_3 = some (o_4, o_5, o_6) → lv_has ls 11 [(8, .int k_1), (6, .long k_2), (4, .long k_3), (0, .long a0), (2, .long a1)] → (∀ (ls : Array Slot), lv_has ls 11 [(8, .int o_4), (6, .long o_5), (4, .long o_6), (0, .long a0), (2, .long a1)] → W p l e rm_X2_greatestDivisor s m args below meth c s.heap [] 0 0 Q (F0 m 44 ls [])) → W p l e rm_X2_greatestDivisor s m args below meth c s.heap [] 0 0 Q (F0 m 9 ls []) := by
    intro n
    induction n with
    | zero =>
      intro k_1 k_2 k_3 o_4 o_5 o_6 ls hF
      exact nn ((rfl : L_X2_greatestDivisor_9 0 k_1 k_2 k_3 = none).symm.trans hF)
    | succ n ih_9 =>
      intro k_1 k_2 k_3 o_4 o_5 o_6 ls hF hl kx_9
      have hF := (L_X2_greatestDivisor_9_s n k_1 k_2 k_3).symm.trans hF
      refine lv_iload hx hb dX2_greatestDivisor_9 (lv_at hl 0 rfl) ?_
      refine lv_bipush (v := 100) hx hb dX2_greatestDivisor_11 (by decide) ?_
      refine lv_icmp_ge (tgt := 44) hx hb dX2_greatestDivisor_13 (by decide) (fun c_7 => ?_) (fun c_7 => ?_)
      · have hF := br1 hF c_7
        obtain ⟨rfl, rfl, rfl⟩ := tp3 hF
        exact kx_9 ls hl
      · have hF := br0 hF c_7
        refine lv_lload hx hb dX2_greatestDivisor_16 (lv_at hl 1 rfl) ?_
        refine lv_lconst (v := 0) hx hb dX2_greatestDivisor_18 (by decide) ?_
        refine lc_eq (tgt := 44) hx hb dX2_greatestDivisor_19 dX2_greatestDivisor_20 (by decide) (fun c_8 => ?_) (fun c_8 => ?_)
        · have hF := br1 hF c_8
          obtain ⟨rfl, rfl, rfl⟩ := tp3 hF
          exact kx_9 ls hl
        · have hF := br0 hF c_8
          refine lv_lload hx hb dX2_greatestDivisor_23 (lv_at hl 2 rfl) ?_
          refine lv_lload hx hb dX2_greatestDivisor_25 (lv_at hl 1 rfl) ?_
          obtain ⟨hz_27, hF⟩ := gd_u hF
          refine lv_lrem hx hb dX2_greatestDivisor_27 (nz_ul hz_27) ?_
          refine lv_topl (fun v_9 ev_9 => ?_)
          have hF := nm_u hF ev_9
          refine lv_lstore (lv' := [(9, .long v_9), (8, .int k_1), (6, .long k_2), (4, .long k_3), (0, .long a0), (2, .long a1)]) hx hb dX2_greatestDivisor_28 hl (by decide) rfl (fun ls hl => ?_)
          refine lv_lload hx hb dX2_greatestDivisor_30 (lv_at hl 2 rfl) ?_
          refine lv_lstore (lv' := [(4, .long k_2), (9, .long v_9), (8, .int k_1), (6, .long k_2), (0, .long a0), (2, .long a1)]) hx hb dX2_greatestDivisor_32 hl (by decide) rfl (fun ls hl => ?_)
          refine lv_lload hx hb dX2_greatestDivisor_34 (lv_at hl 1 rfl) ?_
          refine lv_lstore (lv' := [(6, .long v_9), (4, .long k_2), (9, .long v_9), (8, .int k_1), (0, .long a0), (2, .long a1)]) hx hb dX2_greatestDivisor_36 hl (by decide) rfl (fun ls hl => ?_)
          refine lv_iinc (v := (k_1 + (1 : Int32))) (lv' := [(8, .int (k_1 + (1 : Int32))), (6, .long v_9), (4, .long k_2), (9, .long v_9), (0, .long a0), (2, .long a1)]) hx hb dX2_greatestDivisor_38 hl (k := 3) rfl rfl (by decide) rfl (fun ls hl => ?_)
          refine lv_goto (tgt := 9) hx hb dX2_greatestDivisor_41 (by decide) ?_
          exact ih_9 _ _ _ _ _ _ ls hF (lv_sub hl [0, 1, 2, 4, 5] rfl) kx_9
  refine lp_9 1000 (0 : Int32) a1 a0 o_4 o_5 o_6 ls hL_9 hl (fun ls hl => ?_)
  refine lv_lload hx hb dX2_greatestDivisor_44 (lv_at hl 2 rfl) ?_
  rw [← hQ]
  exact W.lret (v := o_6) hx hb hr (fun t ht hW => ⟨_, rfl, Option.some.inj hF, ht⟩) (fun _ h => by cases h) dX2_greatestDivisor_46

def P_X2_lowestTerms (a0 : Int64) (a1 : Int64) (a2 : Int32) : Option (Int64) :=
  bd1 (P_X2_greatestDivisor (if 0 < a0 then a0 else -a0) a1) (fun r_1 =>
  if (0 : Int64) < r_1 then
    if a2 = (0 : Int32) then
      gd (nzl r_1) (
      some (a0 / r_1))
    else
      gd (nzl r_1) (
      some (a1 / r_1))
  else
    some (0 : Int64))

def rm_X2_lowestTerms : Room := { frames := 1, cells := 0, slots := 0, locals := 30 }

set_option maxHeartbeats 4000000 in
set_option maxRecDepth 100000 in
theorem c_X2_lowestTerms (l : Launch) (a0 : Int64) (a1 : Int64) (a2 : Int32) (r0 : Int64) (hF : P_X2_lowestTerms a0 a1 a2 = some r0) : Met l yX2_lowestTerms wsX2_lowestTerms rm_X2_lowestTerms (fun v _ => v = ([.long a0, .long a1, .int a2] : List Value).toArray) (vp_Sl (fun x => x = r0)) 0 0 (fun _ => False) := by
  refine Met.ofW (cc := cX2_lowestTerms) (maxL := 7) (ret := (some .long)) (by decide) rfl ?_
  intro p e s m args below meth c s₁ B hml hv
  change W p l e rm_X2_lowestTerms s m args below meth c s.heap [] 0 0 _ _
  have hx := B.exec
  have hb := B.bytes
  have hr := B.returns
  have hts := atoms_spec (ws := wsX2_lowestTerms) B.pre
  have hown : s.vm.findClass RX2 = some m.cls := findClass_of_methodNamed B.named
  have hlocks := B.notSynchronized
  generalize hQ : MQ below (vp_Sl (fun x => x = r0)) args s 0 0 (fun _ => False) = Q
  have hl := lv_entry ([.long a0, .long a1, .int a2]) (n := 7) (Nat.le_of_ble_eq_true rfl)
  have hE : entryFrame m args 7 = F0 m 0 ((lg_sl ([.long a0, .long a1, .int a2]) ++ List.replicate (7 - (lg_sl ([.long a0, .long a1, .int a2])).length) Slot.unset).toArray) [] := by rw [hv]; exact lg_entry_eq m _ 7
  rw [hE]
  generalize (lg_sl ([.long a0, .long a1, .int a2]) ++ List.replicate (7 - (lg_sl ([.long a0, .long a1, .int a2])).length) Slot.unset).toArray = ls at hl ⊢
  have hl : lv_has ls 7 [(0, .long a0), (2, .long a1), (4, .int a2)] := hl
  unfold P_X2_lowestTerms at hF
  refine lv_lload_n hx hb dX2_lowestTerms_0 rfl (lv_at hl 0 rfl) ?_
  refine va_mabs_long hx hb (hml.trans hl.1.symm) hown (hts (.methodLink RX2 127 Lib.MathLoose.abs_long.x) (by decide +kernel)) (hts (.static Lib.MathLoose.abs_long.x) (by decide +kernel)) (hts (.initialized "java/lang/Math") (by decide +kernel)) (hts (.code Lib.MathLoose.abs_long.x Lib.MathLoose.abs_long.code 2 (some .long)) (by decide +kernel)) (Nat.le_of_ble_eq_true rfl) (Nat.le_of_ble_eq_true rfl) (Nat.zero_le _) (Nat.zero_le _) dX2_lowestTerms_1 ?_
  refine lv_lload_n hx hb dX2_lowestTerms_4 rfl (lv_at hl 1 rfl) ?_
  obtain ⟨r_1, hr_1, hF⟩ := bd1_u hF
  refine vp_callSl (W.runS (As := [.long (if 0 < a0 then a0 else -a0), .long a1]) (rest := []) ⟨hx, hb, hml, hown, hts⟩ (c_X2_greatestDivisor l (if 0 < a0 then a0 else -a0) a1 r_1 hr_1) (va_cwS 2 hts gX2_lowestTerms_X2_greatestDivisor rfl rfl rfl (by decide +kernel) ⟨Nat.le_of_ble_eq_true rfl, Nat.le_of_ble_eq_true rfl⟩) preEq rfl rfl hl.1 rfl (lv_room (Nat.le_of_ble_eq_true rfl)) dX2_lowestTerms_5 ⟨Nat.le_of_ble_eq_true rfl, Nat.le_of_ble_eq_true rfl⟩) (fun r_1' qr_1 => ?_)
  obtain rfl := qr_1.symm
  refine lv_lstore (lv' := [(5, .long r_1), (0, .long a0), (2, .long a1), (4, .int a2)]) hx hb dX2_lowestTerms_8 hl (by decide) rfl (fun ls hl => ?_)
  refine lv_lload hx hb dX2_lowestTerms_10 (lv_at hl 0 rfl) ?_
  refine lv_lconst (v := 0) hx hb dX2_lowestTerms_12 (by decide) ?_
  refine lc_gt (tgt := 19) hx hb dX2_lowestTerms_13 dX2_lowestTerms_14 (by decide) (fun c_2 => ?_) (fun c_2 => ?_)
  · have hF := br1 hF c_2
    refine lv_iload hx hb dX2_lowestTerms_19 (lv_at hl 3 rfl) ?_
    refine lv_if_ne (tgt := 28) hx hb dX2_lowestTerms_21 (by decide) (fun c_3 => ?_) (fun c_3 => ?_)
    · have hF := br0 hF c_3
      refine lv_lload_n hx hb dX2_lowestTerms_28 rfl (lv_at hl 2 rfl) ?_
      refine lv_lload hx hb dX2_lowestTerms_29 (lv_at hl 0 rfl) ?_
      obtain ⟨hz_31, hF⟩ := gd_u hF
      refine lv_ldiv hx hb dX2_lowestTerms_31 (nz_ul hz_31) ?_
      rw [← hQ]
      exact W.lret (v := (a1 / r_1)) hx hb hr (fun t ht hW => ⟨_, rfl, Option.some.inj hF, ht⟩) (fun _ h => by cases h) dX2_lowestTerms_32
    · have hF := br1 hF c_3
      refine lv_lload_n hx hb dX2_lowestTerms_24 rfl (lv_at hl 1 rfl) ?_
      refine lv_goto (tgt := 29) hx hb dX2_lowestTerms_25 (by decide) ?_
      refine lv_lload hx hb dX2_lowestTerms_29 (lv_at hl 0 rfl) ?_
      obtain ⟨hz_31, hF⟩ := gd_u hF
      refine lv_ldiv hx hb dX2_lowestTerms_31 (nz_ul hz_31) ?_
      rw [← hQ]
      exact W.lret (v := (a0 / r_1)) hx hb hr (fun t ht hW => ⟨_, rfl, Option.some.inj hF, ht⟩) (fun _ h => by cases h) dX2_lowestTerms_32
  · have hF := br0 hF c_2
    refine lv_lconst (v := 0) hx hb dX2_lowestTerms_17 (by decide) ?_
    rw [← hQ]
    exact W.lret (v := (0 : Int64)) hx hb hr (fun t ht hW => ⟨_, rfl, Option.some.inj hF, ht⟩) (fun _ h => by cases h) dX2_lowestTerms_18

def P_X0_beforeEdge (a0 : Int32) (a1 : Int32) (a2 : Int32) (a3 : Int32) (a4 : Int32) : Option (Int64) :=
  if a3 = (0 : Int32) then
    some (0 : Int64)
  else
    if (0 : Int32) < a0 then
      if a0 < (0 : Int32) then
        if a2 = (0 : Int32) then
          some (0 : Int64)
        else
          if a0 ≤ a1 then
            gd (nzl ((a2 * a3).toInt64)) (
            some ((((27720 : Int64) * a1.toInt64) * a1.toInt64) / (a2 * a3).toInt64))
          else
            gd (nzl ((a2 * a3).toInt64)) (
            some ((((27720 : Int64) * a0.toInt64) * a0.toInt64) / (a2 * a3).toInt64))
      else
        if a1 < (0 : Int32) then
          if a2 = (0 : Int32) then
            some (0 : Int64)
          else
            if a0 ≤ a1 then
              gd (nzl ((a2 * a3).toInt64)) (
              some ((((27720 : Int64) * a1.toInt64) * a1.toInt64) / (a2 * a3).toInt64))
            else
              gd (nzl ((a2 * a3).toInt64)) (
              some ((((27720 : Int64) * a0.toInt64) * a0.toInt64) / (a2 * a3).toInt64))
        else
          gd (nzl a3.toInt64) (
          some ((((27720 : Int64) * (a0 + a1).toInt64) * a4.toInt64) / a3.toInt64))
    else
      if (0 : Int32) < a1 then
        if a0 < (0 : Int32) then
          if a2 = (0 : Int32) then
            some (0 : Int64)
          else
            if a0 ≤ a1 then
              gd (nzl ((a2 * a3).toInt64)) (
              some ((((27720 : Int64) * a1.toInt64) * a1.toInt64) / (a2 * a3).toInt64))
            else
              gd (nzl ((a2 * a3).toInt64)) (
              some ((((27720 : Int64) * a0.toInt64) * a0.toInt64) / (a2 * a3).toInt64))
        else
          if a1 < (0 : Int32) then
            if a2 = (0 : Int32) then
              some (0 : Int64)
            else
              if a0 ≤ a1 then
                gd (nzl ((a2 * a3).toInt64)) (
                some ((((27720 : Int64) * a1.toInt64) * a1.toInt64) / (a2 * a3).toInt64))
              else
                gd (nzl ((a2 * a3).toInt64)) (
                some ((((27720 : Int64) * a0.toInt64) * a0.toInt64) / (a2 * a3).toInt64))
          else
            gd (nzl a3.toInt64) (
            some ((((27720 : Int64) * (a0 + a1).toInt64) * a4.toInt64) / a3.toInt64))
      else
        some (0 : Int64)

def rm_X0_beforeEdge : Room := { frames := 0, cells := 0, slots := 0, locals := 0 }

set_option maxHeartbeats 4000000 in
set_option maxRecDepth 100000 in
theorem c_X0_beforeEdge (l : Launch) (a0 : Int32) (a1 : Int32) (a2 : Int32) (a3 : Int32) (a4 : Int32) (r0 : Int64) (hF : P_X0_beforeEdge a0 a1 a2 a3 a4 = some r0) : Met l yX0_beforeEdge wsX0_beforeEdge rm_X0_beforeEdge (fun v _ => v = ([.int a0, .int a1, .int a2, .int a3, .int a4] : List Value).toArray) (vp_Sl (fun x => x = r0)) 0 0 (fun _ => False) := by
  refine Met.ofW (cc := cX0_beforeEdge) (maxL := 6) (ret := (some .long)) (by decide) rfl ?_
  intro p e s m args below meth c s₁ B hml hv
  change W p l e rm_X0_beforeEdge s m args below meth c s.heap [] 0 0 _ _
  have hx := B.exec
  have hb := B.bytes
  have hr := B.returns
  have hts := atoms_spec (ws := wsX0_beforeEdge) B.pre
  have hown : s.vm.findClass RX0 = some m.cls := findClass_of_methodNamed B.named
  have hlocks := B.notSynchronized
  generalize hQ : MQ below (vp_Sl (fun x => x = r0)) args s 0 0 (fun _ => False) = Q
  have hl := lv_entry ([.int a0, .int a1, .int a2, .int a3, .int a4]) (n := 6) (Nat.le_of_ble_eq_true rfl)
  have hE : entryFrame m args 6 = F0 m 0 ((lg_sl ([.int a0, .int a1, .int a2, .int a3, .int a4]) ++ List.replicate (6 - (lg_sl ([.int a0, .int a1, .int a2, .int a3, .int a4])).length) Slot.unset).toArray) [] := by rw [hv]; exact lg_entry_eq m _ 6
  rw [hE]
  generalize (lg_sl ([.int a0, .int a1, .int a2, .int a3, .int a4]) ++ List.replicate (6 - (lg_sl ([.int a0, .int a1, .int a2, .int a3, .int a4])).length) Slot.unset).toArray = ls at hl ⊢
  have hl : lv_has ls 6 [(0, .int a0), (1, .int a1), (2, .int a2), (3, .int a3), (4, .int a4)] := hl
  unfold P_X0_beforeEdge at hF
  refine lv_iload_n hx hb dX0_beforeEdge_0 rfl (lv_at hl 3 rfl) ?_
  refine lv_if_eq (tgt := 12) hx hb dX0_beforeEdge_1 (by decide) (fun c_1 => ?_) (fun c_1 => ?_)
  · have hF := br1 hF c_1
    refine lv_lconst (v := 0) hx hb dX0_beforeEdge_12 (by decide) ?_
    rw [← hQ]
    exact W.lret (v := (0 : Int64)) hx hb hr (fun t ht hW => ⟨_, rfl, Option.some.inj hF, ht⟩) (fun _ h => by cases h) dX0_beforeEdge_13
  · have hF := br0 hF c_1
    refine lv_iload_n hx hb dX0_beforeEdge_4 rfl (lv_at hl 0 rfl) ?_
    refine lv_if_gt (tgt := 14) hx hb dX0_beforeEdge_5 (by decide) (fun c_2 => ?_) (fun c_2 => ?_)
    · have hF := br1 hF c_2
      refine lv_iload_n hx hb dX0_beforeEdge_14 rfl (lv_at hl 0 rfl) ?_
      refine lv_if_lt (tgt := 38) hx hb dX0_beforeEdge_15 (by decide) (fun c_3 => ?_) (fun c_3 => ?_)
      · have hF := br1 hF c_3
        refine lv_iload_n hx hb dX0_beforeEdge_38 rfl (lv_at hl 2 rfl) ?_
        refine lv_if_ne (tgt := 44) hx hb dX0_beforeEdge_39 (by decide) (fun c_4 => ?_) (fun c_4 => ?_)
        · have hF := br0 hF c_4
          refine lv_iload_n hx hb dX0_beforeEdge_44 rfl (lv_at hl 0 rfl) ?_
          refine lv_iload_n hx hb dX0_beforeEdge_45 rfl (lv_at hl 1 rfl) ?_
          refine lv_icmp_le (tgt := 53) hx hb dX0_beforeEdge_46 (by decide) (fun c_5 => ?_) (fun c_5 => ?_)
          · have hF := br1 hF c_5
            refine lv_iload_n hx hb dX0_beforeEdge_53 rfl (lv_at hl 1 rfl) ?_
            refine lv_istore (lv' := [(5, .int a1), (0, .int a0), (1, .int a1), (2, .int a2), (3, .int a3), (4, .int a4)]) hx hb dX0_beforeEdge_54 hl (by decide) rfl (fun ls hl => ?_)
            refine lv_ldc2 (v := 27720) hx hb hown (hts (.constantLong RX0 85 (27720)) (by decide +kernel)) dX0_beforeEdge_56 ?_
            refine lv_iload hx hb dX0_beforeEdge_59 (lv_at hl 0 rfl) ?_
            refine lv_i2l (v := a1.toInt64) hx hb dX0_beforeEdge_61 rfl ?_
            refine lv_lmul hx hb dX0_beforeEdge_62 ?_
            refine lv_iload hx hb dX0_beforeEdge_63 (lv_at hl 0 rfl) ?_
            refine lv_i2l (v := a1.toInt64) hx hb dX0_beforeEdge_65 rfl ?_
            refine lv_lmul hx hb dX0_beforeEdge_66 ?_
            refine lv_iload_n hx hb dX0_beforeEdge_67 rfl (lv_at hl 3 rfl) ?_
            refine lv_iload_n hx hb dX0_beforeEdge_68 rfl (lv_at hl 4 rfl) ?_
            refine lv_imul hx hb dX0_beforeEdge_69 ?_
            refine lv_i2l (v := (a2 * a3).toInt64) hx hb dX0_beforeEdge_70 rfl ?_
            obtain ⟨hz_71, hF⟩ := gd_u hF
            refine lv_ldiv hx hb dX0_beforeEdge_71 (nz_ul hz_71) ?_
            rw [← hQ]
            exact W.lret (v := ((((27720 : Int64) * a1.toInt64) * a1.toInt64) / (a2 * a3).toInt64)) hx hb hr (fun t ht hW => ⟨_, rfl, Option.some.inj hF, ht⟩) (fun _ h => by cases h) dX0_beforeEdge_72
          · have hF := br0 hF c_5
            refine lv_iload_n hx hb dX0_beforeEdge_49 rfl (lv_at hl 0 rfl) ?_
            refine lv_goto (tgt := 54) hx hb dX0_beforeEdge_50 (by decide) ?_
            refine lv_istore (lv' := [(5, .int a0), (0, .int a0), (1, .int a1), (2, .int a2), (3, .int a3), (4, .int a4)]) hx hb dX0_beforeEdge_54 hl (by decide) rfl (fun ls hl => ?_)
            refine lv_ldc2 (v := 27720) hx hb hown (hts (.constantLong RX0 85 (27720)) (by decide +kernel)) dX0_beforeEdge_56 ?_
            refine lv_iload hx hb dX0_beforeEdge_59 (lv_at hl 0 rfl) ?_
            refine lv_i2l (v := a0.toInt64) hx hb dX0_beforeEdge_61 rfl ?_
            refine lv_lmul hx hb dX0_beforeEdge_62 ?_
            refine lv_iload hx hb dX0_beforeEdge_63 (lv_at hl 0 rfl) ?_
            refine lv_i2l (v := a0.toInt64) hx hb dX0_beforeEdge_65 rfl ?_
            refine lv_lmul hx hb dX0_beforeEdge_66 ?_
            refine lv_iload_n hx hb dX0_beforeEdge_67 rfl (lv_at hl 3 rfl) ?_
            refine lv_iload_n hx hb dX0_beforeEdge_68 rfl (lv_at hl 4 rfl) ?_
            refine lv_imul hx hb dX0_beforeEdge_69 ?_
            refine lv_i2l (v := (a2 * a3).toInt64) hx hb dX0_beforeEdge_70 rfl ?_
            obtain ⟨hz_71, hF⟩ := gd_u hF
            refine lv_ldiv hx hb dX0_beforeEdge_71 (nz_ul hz_71) ?_
            rw [← hQ]
            exact W.lret (v := ((((27720 : Int64) * a0.toInt64) * a0.toInt64) / (a2 * a3).toInt64)) hx hb hr (fun t ht hW => ⟨_, rfl, Option.some.inj hF, ht⟩) (fun _ h => by cases h) dX0_beforeEdge_72
        · have hF := br1 hF c_4
          refine lv_lconst (v := 0) hx hb dX0_beforeEdge_42 (by decide) ?_
          rw [← hQ]
          exact W.lret (v := (0 : Int64)) hx hb hr (fun t ht hW => ⟨_, rfl, Option.some.inj hF, ht⟩) (fun _ h => by cases h) dX0_beforeEdge_43
      · have hF := br0 hF c_3
        refine lv_iload_n hx hb dX0_beforeEdge_18 rfl (lv_at hl 1 rfl) ?_
        refine lv_if_lt (tgt := 38) hx hb dX0_beforeEdge_19 (by decide) (fun c_6 => ?_) (fun c_6 => ?_)
        · have hF := br1 hF c_6
          refine lv_iload_n hx hb dX0_beforeEdge_38 rfl (lv_at hl 2 rfl) ?_
          refine lv_if_ne (tgt := 44) hx hb dX0_beforeEdge_39 (by decide) (fun c_7 => ?_) (fun c_7 => ?_)
          · have hF := br0 hF c_7
            refine lv_iload_n hx hb dX0_beforeEdge_44 rfl (lv_at hl 0 rfl) ?_
            refine lv_iload_n hx hb dX0_beforeEdge_45 rfl (lv_at hl 1 rfl) ?_
            refine lv_icmp_le (tgt := 53) hx hb dX0_beforeEdge_46 (by decide) (fun c_8 => ?_) (fun c_8 => ?_)
            · have hF := br1 hF c_8
              refine lv_iload_n hx hb dX0_beforeEdge_53 rfl (lv_at hl 1 rfl) ?_
              refine lv_istore (lv' := [(5, .int a1), (0, .int a0), (1, .int a1), (2, .int a2), (3, .int a3), (4, .int a4)]) hx hb dX0_beforeEdge_54 hl (by decide) rfl (fun ls hl => ?_)
              refine lv_ldc2 (v := 27720) hx hb hown (hts (.constantLong RX0 85 (27720)) (by decide +kernel)) dX0_beforeEdge_56 ?_
              refine lv_iload hx hb dX0_beforeEdge_59 (lv_at hl 0 rfl) ?_
              refine lv_i2l (v := a1.toInt64) hx hb dX0_beforeEdge_61 rfl ?_
              refine lv_lmul hx hb dX0_beforeEdge_62 ?_
              refine lv_iload hx hb dX0_beforeEdge_63 (lv_at hl 0 rfl) ?_
              refine lv_i2l (v := a1.toInt64) hx hb dX0_beforeEdge_65 rfl ?_
              refine lv_lmul hx hb dX0_beforeEdge_66 ?_
              refine lv_iload_n hx hb dX0_beforeEdge_67 rfl (lv_at hl 3 rfl) ?_
              refine lv_iload_n hx hb dX0_beforeEdge_68 rfl (lv_at hl 4 rfl) ?_
              refine lv_imul hx hb dX0_beforeEdge_69 ?_
              refine lv_i2l (v := (a2 * a3).toInt64) hx hb dX0_beforeEdge_70 rfl ?_
              obtain ⟨hz_71, hF⟩ := gd_u hF
              refine lv_ldiv hx hb dX0_beforeEdge_71 (nz_ul hz_71) ?_
              rw [← hQ]
              exact W.lret (v := ((((27720 : Int64) * a1.toInt64) * a1.toInt64) / (a2 * a3).toInt64)) hx hb hr (fun t ht hW => ⟨_, rfl, Option.some.inj hF, ht⟩) (fun _ h => by cases h) dX0_beforeEdge_72
            · have hF := br0 hF c_8
              refine lv_iload_n hx hb dX0_beforeEdge_49 rfl (lv_at hl 0 rfl) ?_
              refine lv_goto (tgt := 54) hx hb dX0_beforeEdge_50 (by decide) ?_
              refine lv_istore (lv' := [(5, .int a0), (0, .int a0), (1, .int a1), (2, .int a2), (3, .int a3), (4, .int a4)]) hx hb dX0_beforeEdge_54 hl (by decide) rfl (fun ls hl => ?_)
              refine lv_ldc2 (v := 27720) hx hb hown (hts (.constantLong RX0 85 (27720)) (by decide +kernel)) dX0_beforeEdge_56 ?_
              refine lv_iload hx hb dX0_beforeEdge_59 (lv_at hl 0 rfl) ?_
              refine lv_i2l (v := a0.toInt64) hx hb dX0_beforeEdge_61 rfl ?_
              refine lv_lmul hx hb dX0_beforeEdge_62 ?_
              refine lv_iload hx hb dX0_beforeEdge_63 (lv_at hl 0 rfl) ?_
              refine lv_i2l (v := a0.toInt64) hx hb dX0_beforeEdge_65 rfl ?_
              refine lv_lmul hx hb dX0_beforeEdge_66 ?_
              refine lv_iload_n hx hb dX0_beforeEdge_67 rfl (lv_at hl 3 rfl) ?_
              refine lv_iload_n hx hb dX0_beforeEdge_68 rfl (lv_at hl 4 rfl) ?_
              refine lv_imul hx hb dX0_beforeEdge_69 ?_
              refine lv_i2l (v := (a2 * a3).toInt64) hx hb dX0_beforeEdge_70 rfl ?_
              obtain ⟨hz_71, hF⟩ := gd_u hF
              refine lv_ldiv hx hb dX0_beforeEdge_71 (nz_ul hz_71) ?_
              rw [← hQ]
              exact W.lret (v := ((((27720 : Int64) * a0.toInt64) * a0.toInt64) / (a2 * a3).toInt64)) hx hb hr (fun t ht hW => ⟨_, rfl, Option.some.inj hF, ht⟩) (fun _ h => by cases h) dX0_beforeEdge_72
          · have hF := br1 hF c_7
            refine lv_lconst (v := 0) hx hb dX0_beforeEdge_42 (by decide) ?_
            rw [← hQ]
            exact W.lret (v := (0 : Int64)) hx hb hr (fun t ht hW => ⟨_, rfl, Option.some.inj hF, ht⟩) (fun _ h => by cases h) dX0_beforeEdge_43
        · have hF := br0 hF c_6
          refine lv_ldc2 (v := 27720) hx hb hown (hts (.constantLong RX0 85 (27720)) (by decide +kernel)) dX0_beforeEdge_22 ?_
          refine lv_iload_n hx hb dX0_beforeEdge_25 rfl (lv_at hl 0 rfl) ?_
          refine lv_iload_n hx hb dX0_beforeEdge_26 rfl (lv_at hl 1 rfl) ?_
          refine lv_iadd hx hb dX0_beforeEdge_27 ?_
          refine lv_i2l (v := (a0 + a1).toInt64) hx hb dX0_beforeEdge_28 rfl ?_
          refine lv_lmul hx hb dX0_beforeEdge_29 ?_
          refine lv_iload hx hb dX0_beforeEdge_30 (lv_at hl 4 rfl) ?_
          refine lv_i2l (v := a4.toInt64) hx hb dX0_beforeEdge_32 rfl ?_
          refine lv_lmul hx hb dX0_beforeEdge_33 ?_
          refine lv_iload_n hx hb dX0_beforeEdge_34 rfl (lv_at hl 3 rfl) ?_
          refine lv_i2l (v := a3.toInt64) hx hb dX0_beforeEdge_35 rfl ?_
          obtain ⟨hz_36, hF⟩ := gd_u hF
          refine lv_ldiv hx hb dX0_beforeEdge_36 (nz_ul hz_36) ?_
          rw [← hQ]
          exact W.lret (v := ((((27720 : Int64) * (a0 + a1).toInt64) * a4.toInt64) / a3.toInt64)) hx hb hr (fun t ht hW => ⟨_, rfl, Option.some.inj hF, ht⟩) (fun _ h => by cases h) dX0_beforeEdge_37
    · have hF := br0 hF c_2
      refine lv_iload_n hx hb dX0_beforeEdge_8 rfl (lv_at hl 1 rfl) ?_
      refine lv_if_gt (tgt := 14) hx hb dX0_beforeEdge_9 (by decide) (fun c_9 => ?_) (fun c_9 => ?_)
      · have hF := br1 hF c_9
        refine lv_iload_n hx hb dX0_beforeEdge_14 rfl (lv_at hl 0 rfl) ?_
        refine lv_if_lt (tgt := 38) hx hb dX0_beforeEdge_15 (by decide) (fun c_10 => ?_) (fun c_10 => ?_)
        · have hF := br1 hF c_10
          refine lv_iload_n hx hb dX0_beforeEdge_38 rfl (lv_at hl 2 rfl) ?_
          refine lv_if_ne (tgt := 44) hx hb dX0_beforeEdge_39 (by decide) (fun c_11 => ?_) (fun c_11 => ?_)
          · have hF := br0 hF c_11
            refine lv_iload_n hx hb dX0_beforeEdge_44 rfl (lv_at hl 0 rfl) ?_
            refine lv_iload_n hx hb dX0_beforeEdge_45 rfl (lv_at hl 1 rfl) ?_
            refine lv_icmp_le (tgt := 53) hx hb dX0_beforeEdge_46 (by decide) (fun c_12 => ?_) (fun c_12 => ?_)
            · have hF := br1 hF c_12
              refine lv_iload_n hx hb dX0_beforeEdge_53 rfl (lv_at hl 1 rfl) ?_
              refine lv_istore (lv' := [(5, .int a1), (0, .int a0), (1, .int a1), (2, .int a2), (3, .int a3), (4, .int a4)]) hx hb dX0_beforeEdge_54 hl (by decide) rfl (fun ls hl => ?_)
              refine lv_ldc2 (v := 27720) hx hb hown (hts (.constantLong RX0 85 (27720)) (by decide +kernel)) dX0_beforeEdge_56 ?_
              refine lv_iload hx hb dX0_beforeEdge_59 (lv_at hl 0 rfl) ?_
              refine lv_i2l (v := a1.toInt64) hx hb dX0_beforeEdge_61 rfl ?_
              refine lv_lmul hx hb dX0_beforeEdge_62 ?_
              refine lv_iload hx hb dX0_beforeEdge_63 (lv_at hl 0 rfl) ?_
              refine lv_i2l (v := a1.toInt64) hx hb dX0_beforeEdge_65 rfl ?_
              refine lv_lmul hx hb dX0_beforeEdge_66 ?_
              refine lv_iload_n hx hb dX0_beforeEdge_67 rfl (lv_at hl 3 rfl) ?_
              refine lv_iload_n hx hb dX0_beforeEdge_68 rfl (lv_at hl 4 rfl) ?_
              refine lv_imul hx hb dX0_beforeEdge_69 ?_
              refine lv_i2l (v := (a2 * a3).toInt64) hx hb dX0_beforeEdge_70 rfl ?_
              obtain ⟨hz_71, hF⟩ := gd_u hF
              refine lv_ldiv hx hb dX0_beforeEdge_71 (nz_ul hz_71) ?_
              rw [← hQ]
              exact W.lret (v := ((((27720 : Int64) * a1.toInt64) * a1.toInt64) / (a2 * a3).toInt64)) hx hb hr (fun t ht hW => ⟨_, rfl, Option.some.inj hF, ht⟩) (fun _ h => by cases h) dX0_beforeEdge_72
            · have hF := br0 hF c_12
              refine lv_iload_n hx hb dX0_beforeEdge_49 rfl (lv_at hl 0 rfl) ?_
              refine lv_goto (tgt := 54) hx hb dX0_beforeEdge_50 (by decide) ?_
              refine lv_istore (lv' := [(5, .int a0), (0, .int a0), (1, .int a1), (2, .int a2), (3, .int a3), (4, .int a4)]) hx hb dX0_beforeEdge_54 hl (by decide) rfl (fun ls hl => ?_)
              refine lv_ldc2 (v := 27720) hx hb hown (hts (.constantLong RX0 85 (27720)) (by decide +kernel)) dX0_beforeEdge_56 ?_
              refine lv_iload hx hb dX0_beforeEdge_59 (lv_at hl 0 rfl) ?_
              refine lv_i2l (v := a0.toInt64) hx hb dX0_beforeEdge_61 rfl ?_
              refine lv_lmul hx hb dX0_beforeEdge_62 ?_
              refine lv_iload hx hb dX0_beforeEdge_63 (lv_at hl 0 rfl) ?_
              refine lv_i2l (v := a0.toInt64) hx hb dX0_beforeEdge_65 rfl ?_
              refine lv_lmul hx hb dX0_beforeEdge_66 ?_
              refine lv_iload_n hx hb dX0_beforeEdge_67 rfl (lv_at hl 3 rfl) ?_
              refine lv_iload_n hx hb dX0_beforeEdge_68 rfl (lv_at hl 4 rfl) ?_
              refine lv_imul hx hb dX0_beforeEdge_69 ?_
              refine lv_i2l (v := (a2 * a3).toInt64) hx hb dX0_beforeEdge_70 rfl ?_
              obtain ⟨hz_71, hF⟩ := gd_u hF
              refine lv_ldiv hx hb dX0_beforeEdge_71 (nz_ul hz_71) ?_
              rw [← hQ]
              exact W.lret (v := ((((27720 : Int64) * a0.toInt64) * a0.toInt64) / (a2 * a3).toInt64)) hx hb hr (fun t ht hW => ⟨_, rfl, Option.some.inj hF, ht⟩) (fun _ h => by cases h) dX0_beforeEdge_72
          · have hF := br1 hF c_11
            refine lv_lconst (v := 0) hx hb dX0_beforeEdge_42 (by decide) ?_
            rw [← hQ]
            exact W.lret (v := (0 : Int64)) hx hb hr (fun t ht hW => ⟨_, rfl, Option.some.inj hF, ht⟩) (fun _ h => by cases h) dX0_beforeEdge_43
        · have hF := br0 hF c_10
          refine lv_iload_n hx hb dX0_beforeEdge_18 rfl (lv_at hl 1 rfl) ?_
          refine lv_if_lt (tgt := 38) hx hb dX0_beforeEdge_19 (by decide) (fun c_13 => ?_) (fun c_13 => ?_)
          · have hF := br1 hF c_13
            refine lv_iload_n hx hb dX0_beforeEdge_38 rfl (lv_at hl 2 rfl) ?_
            refine lv_if_ne (tgt := 44) hx hb dX0_beforeEdge_39 (by decide) (fun c_14 => ?_) (fun c_14 => ?_)
            · have hF := br0 hF c_14
              refine lv_iload_n hx hb dX0_beforeEdge_44 rfl (lv_at hl 0 rfl) ?_
              refine lv_iload_n hx hb dX0_beforeEdge_45 rfl (lv_at hl 1 rfl) ?_
              refine lv_icmp_le (tgt := 53) hx hb dX0_beforeEdge_46 (by decide) (fun c_15 => ?_) (fun c_15 => ?_)
              · have hF := br1 hF c_15
                refine lv_iload_n hx hb dX0_beforeEdge_53 rfl (lv_at hl 1 rfl) ?_
                refine lv_istore (lv' := [(5, .int a1), (0, .int a0), (1, .int a1), (2, .int a2), (3, .int a3), (4, .int a4)]) hx hb dX0_beforeEdge_54 hl (by decide) rfl (fun ls hl => ?_)
                refine lv_ldc2 (v := 27720) hx hb hown (hts (.constantLong RX0 85 (27720)) (by decide +kernel)) dX0_beforeEdge_56 ?_
                refine lv_iload hx hb dX0_beforeEdge_59 (lv_at hl 0 rfl) ?_
                refine lv_i2l (v := a1.toInt64) hx hb dX0_beforeEdge_61 rfl ?_
                refine lv_lmul hx hb dX0_beforeEdge_62 ?_
                refine lv_iload hx hb dX0_beforeEdge_63 (lv_at hl 0 rfl) ?_
                refine lv_i2l (v := a1.toInt64) hx hb dX0_beforeEdge_65 rfl ?_
                refine lv_lmul hx hb dX0_beforeEdge_66 ?_
                refine lv_iload_n hx hb dX0_beforeEdge_67 rfl (lv_at hl 3 rfl) ?_
                refine lv_iload_n hx hb dX0_beforeEdge_68 rfl (lv_at hl 4 rfl) ?_
                refine lv_imul hx hb dX0_beforeEdge_69 ?_
                refine lv_i2l (v := (a2 * a3).toInt64) hx hb dX0_beforeEdge_70 rfl ?_
                obtain ⟨hz_71, hF⟩ := gd_u hF
                refine lv_ldiv hx hb dX0_beforeEdge_71 (nz_ul hz_71) ?_
                rw [← hQ]
                exact W.lret (v := ((((27720 : Int64) * a1.toInt64) * a1.toInt64) / (a2 * a3).toInt64)) hx hb hr (fun t ht hW => ⟨_, rfl, Option.some.inj hF, ht⟩) (fun _ h => by cases h) dX0_beforeEdge_72
              · have hF := br0 hF c_15
                refine lv_iload_n hx hb dX0_beforeEdge_49 rfl (lv_at hl 0 rfl) ?_
                refine lv_goto (tgt := 54) hx hb dX0_beforeEdge_50 (by decide) ?_
                refine lv_istore (lv' := [(5, .int a0), (0, .int a0), (1, .int a1), (2, .int a2), (3, .int a3), (4, .int a4)]) hx hb dX0_beforeEdge_54 hl (by decide) rfl (fun ls hl => ?_)
                refine lv_ldc2 (v := 27720) hx hb hown (hts (.constantLong RX0 85 (27720)) (by decide +kernel)) dX0_beforeEdge_56 ?_
                refine lv_iload hx hb dX0_beforeEdge_59 (lv_at hl 0 rfl) ?_
                refine lv_i2l (v := a0.toInt64) hx hb dX0_beforeEdge_61 rfl ?_
                refine lv_lmul hx hb dX0_beforeEdge_62 ?_
                refine lv_iload hx hb dX0_beforeEdge_63 (lv_at hl 0 rfl) ?_
                refine lv_i2l (v := a0.toInt64) hx hb dX0_beforeEdge_65 rfl ?_
                refine lv_lmul hx hb dX0_beforeEdge_66 ?_
                refine lv_iload_n hx hb dX0_beforeEdge_67 rfl (lv_at hl 3 rfl) ?_
                refine lv_iload_n hx hb dX0_beforeEdge_68 rfl (lv_at hl 4 rfl) ?_
                refine lv_imul hx hb dX0_beforeEdge_69 ?_
                refine lv_i2l (v := (a2 * a3).toInt64) hx hb dX0_beforeEdge_70 rfl ?_
                obtain ⟨hz_71, hF⟩ := gd_u hF
                refine lv_ldiv hx hb dX0_beforeEdge_71 (nz_ul hz_71) ?_
                rw [← hQ]
                exact W.lret (v := ((((27720 : Int64) * a0.toInt64) * a0.toInt64) / (a2 * a3).toInt64)) hx hb hr (fun t ht hW => ⟨_, rfl, Option.some.inj hF, ht⟩) (fun _ h => by cases h) dX0_beforeEdge_72
            · have hF := br1 hF c_14
              refine lv_lconst (v := 0) hx hb dX0_beforeEdge_42 (by decide) ?_
              rw [← hQ]
              exact W.lret (v := (0 : Int64)) hx hb hr (fun t ht hW => ⟨_, rfl, Option.some.inj hF, ht⟩) (fun _ h => by cases h) dX0_beforeEdge_43
          · have hF := br0 hF c_13
            refine lv_ldc2 (v := 27720) hx hb hown (hts (.constantLong RX0 85 (27720)) (by decide +kernel)) dX0_beforeEdge_22 ?_
            refine lv_iload_n hx hb dX0_beforeEdge_25 rfl (lv_at hl 0 rfl) ?_
            refine lv_iload_n hx hb dX0_beforeEdge_26 rfl (lv_at hl 1 rfl) ?_
            refine lv_iadd hx hb dX0_beforeEdge_27 ?_
            refine lv_i2l (v := (a0 + a1).toInt64) hx hb dX0_beforeEdge_28 rfl ?_
            refine lv_lmul hx hb dX0_beforeEdge_29 ?_
            refine lv_iload hx hb dX0_beforeEdge_30 (lv_at hl 4 rfl) ?_
            refine lv_i2l (v := a4.toInt64) hx hb dX0_beforeEdge_32 rfl ?_
            refine lv_lmul hx hb dX0_beforeEdge_33 ?_
            refine lv_iload_n hx hb dX0_beforeEdge_34 rfl (lv_at hl 3 rfl) ?_
            refine lv_i2l (v := a3.toInt64) hx hb dX0_beforeEdge_35 rfl ?_
            obtain ⟨hz_36, hF⟩ := gd_u hF
            refine lv_ldiv hx hb dX0_beforeEdge_36 (nz_ul hz_36) ?_
            rw [← hQ]
            exact W.lret (v := ((((27720 : Int64) * (a0 + a1).toInt64) * a4.toInt64) / a3.toInt64)) hx hb hr (fun t ht hW => ⟨_, rfl, Option.some.inj hF, ht⟩) (fun _ h => by cases h) dX0_beforeEdge_37
      · have hF := br0 hF c_9
        refine lv_lconst (v := 0) hx hb dX0_beforeEdge_12 (by decide) ?_
        rw [← hQ]
        exact W.lret (v := (0 : Int64)) hx hb hr (fun t ht hW => ⟨_, rfl, Option.some.inj hF, ht⟩) (fun _ h => by cases h) dX0_beforeEdge_13

def P_X0_leftOfEdge (a0 : Int32) (a1 : Int32) (a2 : Int32) (a3 : Int32) (a4 : Int32) (a5 : Int32) : Option (Int64) :=
  nm (if a1 < a5 then a5 else a1) (fun v_1 =>
  nm (if (a5 + (3 : Int32)) < a3 then (a5 + (3 : Int32)) else a3) (fun v_2 =>
  if v_1 < v_2 then
    nm (a2 - a0) (fun v_4 =>
    nm (a3 - a1) (fun v_5 =>
    nm (((a0 - a4) * v_5) + (v_4 * (v_1 - a1))) (fun v_6 =>
    nm (((a0 - a4) * v_5) + (v_4 * (v_2 - a1))) (fun v_7 =>
    nm ((3 : Int32) * v_5) (fun v_8 =>
    nm (if 0 ≤ v_4 then v_4 else 0 - v_4) (fun v_9 =>
    bd1 (P_X0_beforeEdge v_6 v_7 v_9 v_5 (v_2 - v_1)) (fun r_10 =>
    bd1 (P_X0_beforeEdge (v_6 - v_8) (v_7 - v_8) v_9 v_5 (v_2 - v_1)) (fun r_11 =>
    some (r_10 - r_11)))))))))
  else
    some (0 : Int64)))

def rm_X0_leftOfEdge : Room := { frames := 1, cells := 0, slots := 0, locals := 25 }

set_option maxHeartbeats 4000000 in
set_option maxRecDepth 100000 in
theorem c_X0_leftOfEdge (l : Launch) (a0 : Int32) (a1 : Int32) (a2 : Int32) (a3 : Int32) (a4 : Int32) (a5 : Int32) (r0 : Int64) (hF : P_X0_leftOfEdge a0 a1 a2 a3 a4 a5 = some r0) : Met l yX0_leftOfEdge wsX0_leftOfEdge rm_X0_leftOfEdge (fun v _ => v = ([.int a0, .int a1, .int a2, .int a3, .int a4, .int a5] : List Value).toArray) (vp_Sl (fun x => x = r0)) 0 0 (fun _ => False) := by
  refine Met.ofW (cc := cX0_leftOfEdge) (maxL := 14) (ret := (some .long)) (by decide) rfl ?_
  intro p e s m args below meth c s₁ B hml hv
  change W p l e rm_X0_leftOfEdge s m args below meth c s.heap [] 0 0 _ _
  have hx := B.exec
  have hb := B.bytes
  have hr := B.returns
  have hts := atoms_spec (ws := wsX0_leftOfEdge) B.pre
  have hown : s.vm.findClass RX0 = some m.cls := findClass_of_methodNamed B.named
  have hlocks := B.notSynchronized
  generalize hQ : MQ below (vp_Sl (fun x => x = r0)) args s 0 0 (fun _ => False) = Q
  have hl := lv_entry ([.int a0, .int a1, .int a2, .int a3, .int a4, .int a5]) (n := 14) (Nat.le_of_ble_eq_true rfl)
  have hE : entryFrame m args 14 = F0 m 0 ((lg_sl ([.int a0, .int a1, .int a2, .int a3, .int a4, .int a5]) ++ List.replicate (14 - (lg_sl ([.int a0, .int a1, .int a2, .int a3, .int a4, .int a5])).length) Slot.unset).toArray) [] := by rw [hv]; exact lg_entry_eq m _ 14
  rw [hE]
  generalize (lg_sl ([.int a0, .int a1, .int a2, .int a3, .int a4, .int a5]) ++ List.replicate (14 - (lg_sl ([.int a0, .int a1, .int a2, .int a3, .int a4, .int a5])).length) Slot.unset).toArray = ls at hl ⊢
  have hl : lv_has ls 14 [(0, .int a0), (1, .int a1), (2, .int a2), (3, .int a3), (4, .int a4), (5, .int a5)] := hl
  unfold P_X0_leftOfEdge at hF
  refine lv_iload_n hx hb dX0_leftOfEdge_0 rfl (lv_at hl 1 rfl) ?_
  refine lv_iload hx hb dX0_leftOfEdge_1 (lv_at hl 5 rfl) ?_
  refine va_mmax hx hb (hml.trans hl.1.symm) hown (hts (.methodLink RX0 53 Lib.Math.max.name) (by decide +kernel)) (hts (.static Lib.Math.max.name) (by decide +kernel)) (hts (.initialized "java/lang/Math") (by decide +kernel)) (hts (.code Lib.Math.max.name Lib.Math.max.code 2 (some .int)) (by decide +kernel)) (Nat.le_of_ble_eq_true rfl) (Nat.le_of_ble_eq_true rfl) (Nat.zero_le _) (Nat.zero_le _) dX0_leftOfEdge_3 ?_
  refine lv_topi (fun v_1 ev_1 => ?_)
  have hF := nm_u hF ev_1
  refine lv_istore (lv' := [(6, .int v_1), (0, .int a0), (1, .int a1), (2, .int a2), (3, .int a3), (4, .int a4), (5, .int a5)]) hx hb dX0_leftOfEdge_6 hl (by decide) rfl (fun ls hl => ?_)
  refine lv_iload_n hx hb dX0_leftOfEdge_8 rfl (lv_at hl 4 rfl) ?_
  refine lv_iload hx hb dX0_leftOfEdge_9 (lv_at hl 6 rfl) ?_
  refine lv_iconst (v := 3) hx hb dX0_leftOfEdge_11 (by decide) ?_
  refine lv_iadd hx hb dX0_leftOfEdge_12 ?_
  refine va_mmin hx hb (hml.trans hl.1.symm) hown (hts (.methodLink RX0 47 Lib.Math.min.name) (by decide +kernel)) (hts (.static Lib.Math.min.name) (by decide +kernel)) (hts (.initialized "java/lang/Math") (by decide +kernel)) (hts (.code Lib.Math.min.name Lib.Math.min.code 2 (some .int)) (by decide +kernel)) (Nat.le_of_ble_eq_true rfl) (Nat.le_of_ble_eq_true rfl) (Nat.zero_le _) (Nat.zero_le _) dX0_leftOfEdge_13 ?_
  refine lv_topi (fun v_2 ev_2 => ?_)
  have hF := nm_u hF ev_2
  refine lv_istore (lv' := [(7, .int v_2), (6, .int v_1), (0, .int a0), (1, .int a1), (2, .int a2), (3, .int a3), (4, .int a4), (5, .int a5)]) hx hb dX0_leftOfEdge_16 hl (by decide) rfl (fun ls hl => ?_)
  refine lv_iload hx hb dX0_leftOfEdge_18 (lv_at hl 1 rfl) ?_
  refine lv_iload hx hb dX0_leftOfEdge_20 (lv_at hl 0 rfl) ?_
  refine lv_icmp_lt (tgt := 27) hx hb dX0_leftOfEdge_22 (by decide) (fun c_3 => ?_) (fun c_3 => ?_)
  · have hF := br1 hF c_3
    refine lv_iload_n hx hb dX0_leftOfEdge_27 rfl (lv_at hl 4 rfl) ?_
    refine lv_iload_n hx hb dX0_leftOfEdge_28 rfl (lv_at hl 2 rfl) ?_
    refine lv_isub hx hb dX0_leftOfEdge_29 ?_
    refine lv_topi (fun v_4 ev_4 => ?_)
    have hF := nm_u hF ev_4
    refine lv_istore (lv' := [(8, .int v_4), (7, .int v_2), (6, .int v_1), (0, .int a0), (1, .int a1), (2, .int a2), (3, .int a3), (4, .int a4), (5, .int a5)]) hx hb dX0_leftOfEdge_30 hl (by decide) rfl (fun ls hl => ?_)
    refine lv_iload_n hx hb dX0_leftOfEdge_32 rfl (lv_at hl 6 rfl) ?_
    refine lv_iload_n hx hb dX0_leftOfEdge_33 rfl (lv_at hl 4 rfl) ?_
    refine lv_isub hx hb dX0_leftOfEdge_34 ?_
    refine lv_topi (fun v_5 ev_5 => ?_)
    have hF := nm_u hF ev_5
    refine lv_istore (lv' := [(9, .int v_5), (8, .int v_4), (7, .int v_2), (6, .int v_1), (0, .int a0), (1, .int a1), (2, .int a2), (3, .int a3), (4, .int a4), (5, .int a5)]) hx hb dX0_leftOfEdge_35 hl (by decide) rfl (fun ls hl => ?_)
    refine lv_iload_n hx hb dX0_leftOfEdge_37 rfl (lv_at hl 4 rfl) ?_
    refine lv_iload hx hb dX0_leftOfEdge_38 (lv_at hl 8 rfl) ?_
    refine lv_isub hx hb dX0_leftOfEdge_40 ?_
    refine lv_iload hx hb dX0_leftOfEdge_41 (lv_at hl 0 rfl) ?_
    refine lv_imul hx hb dX0_leftOfEdge_43 ?_
    refine lv_iload hx hb dX0_leftOfEdge_44 (lv_at hl 1 rfl) ?_
    refine lv_iload hx hb dX0_leftOfEdge_46 (lv_at hl 3 rfl) ?_
    refine lv_iload_n hx hb dX0_leftOfEdge_48 rfl (lv_at hl 5 rfl) ?_
    refine lv_isub hx hb dX0_leftOfEdge_49 ?_
    refine lv_imul hx hb dX0_leftOfEdge_50 ?_
    refine lv_iadd hx hb dX0_leftOfEdge_51 ?_
    refine lv_topi (fun v_6 ev_6 => ?_)
    have hF := nm_u hF ev_6
    refine lv_istore (lv' := [(10, .int v_6), (9, .int v_5), (8, .int v_4), (7, .int v_2), (6, .int v_1), (0, .int a0), (1, .int a1), (2, .int a2), (3, .int a3), (4, .int a4), (5, .int a5)]) hx hb dX0_leftOfEdge_52 hl (by decide) rfl (fun ls hl => ?_)
    refine lv_iload_n hx hb dX0_leftOfEdge_54 rfl (lv_at hl 5 rfl) ?_
    refine lv_iload hx hb dX0_leftOfEdge_55 (lv_at hl 9 rfl) ?_
    refine lv_isub hx hb dX0_leftOfEdge_57 ?_
    refine lv_iload hx hb dX0_leftOfEdge_58 (lv_at hl 1 rfl) ?_
    refine lv_imul hx hb dX0_leftOfEdge_60 ?_
    refine lv_iload hx hb dX0_leftOfEdge_61 (lv_at hl 2 rfl) ?_
    refine lv_iload hx hb dX0_leftOfEdge_63 (lv_at hl 3 rfl) ?_
    refine lv_iload_n hx hb dX0_leftOfEdge_65 rfl (lv_at hl 6 rfl) ?_
    refine lv_isub hx hb dX0_leftOfEdge_66 ?_
    refine lv_imul hx hb dX0_leftOfEdge_67 ?_
    refine lv_iadd hx hb dX0_leftOfEdge_68 ?_
    refine lv_topi (fun v_7 ev_7 => ?_)
    have hF := nm_u hF ev_7
    refine lv_istore (lv' := [(11, .int v_7), (10, .int v_6), (9, .int v_5), (8, .int v_4), (7, .int v_2), (6, .int v_1), (0, .int a0), (1, .int a1), (2, .int a2), (3, .int a3), (4, .int a4), (5, .int a5)]) hx hb dX0_leftOfEdge_69 hl (by decide) rfl (fun ls hl => ?_)
    refine lv_iconst (v := 3) hx hb dX0_leftOfEdge_71 (by decide) ?_
    refine lv_iload hx hb dX0_leftOfEdge_72 (lv_at hl 2 rfl) ?_
    refine lv_imul hx hb dX0_leftOfEdge_74 ?_
    refine lv_topi (fun v_8 ev_8 => ?_)
    have hF := nm_u hF ev_8
    refine lv_istore (lv' := [(12, .int v_8), (11, .int v_7), (10, .int v_6), (9, .int v_5), (8, .int v_4), (7, .int v_2), (6, .int v_1), (0, .int a0), (1, .int a1), (2, .int a2), (3, .int a3), (4, .int a4), (5, .int a5)]) hx hb dX0_leftOfEdge_75 hl (by decide) rfl (fun ls hl => ?_)
    refine lv_iload hx hb dX0_leftOfEdge_77 (lv_at hl 4 rfl) ?_
    refine va_mabs hx hb (hml.trans hl.1.symm) hown (hts (.methodLink RX0 78 Lib.Math.abs.name) (by decide +kernel)) (hts (.static Lib.Math.abs.name) (by decide +kernel)) (hts (.initialized "java/lang/Math") (by decide +kernel)) (hts (.code Lib.Math.abs.name Lib.Math.abs.code 1 (some .int)) (by decide +kernel)) (Nat.le_of_ble_eq_true rfl) (Nat.le_of_ble_eq_true rfl) (Nat.zero_le _) (Nat.zero_le _) dX0_leftOfEdge_79 ?_
    refine lv_topi (fun v_9 ev_9 => ?_)
    have hF := nm_u hF ev_9
    refine lv_istore (lv' := [(13, .int v_9), (12, .int v_8), (11, .int v_7), (10, .int v_6), (9, .int v_5), (8, .int v_4), (7, .int v_2), (6, .int v_1), (0, .int a0), (1, .int a1), (2, .int a2), (3, .int a3), (4, .int a4), (5, .int a5)]) hx hb dX0_leftOfEdge_82 hl (by decide) rfl (fun ls hl => ?_)
    refine lv_iload hx hb dX0_leftOfEdge_84 (lv_at hl 3 rfl) ?_
    refine lv_iload hx hb dX0_leftOfEdge_86 (lv_at hl 2 rfl) ?_
    refine lv_iload hx hb dX0_leftOfEdge_88 (lv_at hl 0 rfl) ?_
    refine lv_iload hx hb dX0_leftOfEdge_90 (lv_at hl 4 rfl) ?_
    refine lv_iload hx hb dX0_leftOfEdge_92 (lv_at hl 6 rfl) ?_
    refine lv_iload hx hb dX0_leftOfEdge_94 (lv_at hl 7 rfl) ?_
    refine lv_isub hx hb dX0_leftOfEdge_96 ?_
    obtain ⟨r_10, hr_10, hF⟩ := bd1_u hF
    refine vp_callSl (W.runS (As := [.int v_6, .int v_7, .int v_9, .int v_5, .int (v_2 - v_1)]) (rest := []) ⟨hx, hb, hml, hown, hts⟩ (c_X0_beforeEdge l v_6 v_7 v_9 v_5 (v_2 - v_1) r_10 hr_10) (va_cwS 5 hts gX0_leftOfEdge_X0_beforeEdge rfl rfl rfl (by decide +kernel) ⟨Nat.le_of_ble_eq_true rfl, Nat.le_of_ble_eq_true rfl⟩) preEq rfl rfl hl.1 rfl (lv_room (Nat.le_of_ble_eq_true rfl)) dX0_leftOfEdge_97 ⟨Nat.le_of_ble_eq_true rfl, Nat.le_of_ble_eq_true rfl⟩) (fun r_10' qr_10 => ?_)
    obtain rfl := qr_10.symm
    refine lv_iload hx hb dX0_leftOfEdge_100 (lv_at hl 3 rfl) ?_
    refine lv_iload hx hb dX0_leftOfEdge_102 (lv_at hl 1 rfl) ?_
    refine lv_isub hx hb dX0_leftOfEdge_104 ?_
    refine lv_iload hx hb dX0_leftOfEdge_105 (lv_at hl 2 rfl) ?_
    refine lv_iload hx hb dX0_leftOfEdge_107 (lv_at hl 1 rfl) ?_
    refine lv_isub hx hb dX0_leftOfEdge_109 ?_
    refine lv_iload hx hb dX0_leftOfEdge_110 (lv_at hl 0 rfl) ?_
    refine lv_iload hx hb dX0_leftOfEdge_112 (lv_at hl 4 rfl) ?_
    refine lv_iload hx hb dX0_leftOfEdge_114 (lv_at hl 6 rfl) ?_
    refine lv_iload hx hb dX0_leftOfEdge_116 (lv_at hl 7 rfl) ?_
    refine lv_isub hx hb dX0_leftOfEdge_118 ?_
    obtain ⟨r_11, hr_11, hF⟩ := bd1_u hF
    refine vp_callSl (W.runS (As := [.int (v_6 - v_8), .int (v_7 - v_8), .int v_9, .int v_5, .int (v_2 - v_1)]) (rest := [.long r_10]) ⟨hx, hb, hml, hown, hts⟩ (c_X0_beforeEdge l (v_6 - v_8) (v_7 - v_8) v_9 v_5 (v_2 - v_1) r_11 hr_11) (va_cwS 5 hts gX0_leftOfEdge_X0_beforeEdge rfl rfl rfl (by decide +kernel) ⟨Nat.le_of_ble_eq_true rfl, Nat.le_of_ble_eq_true rfl⟩) preEq rfl rfl hl.1 rfl (lv_room (Nat.le_of_ble_eq_true rfl)) dX0_leftOfEdge_119 ⟨Nat.le_of_ble_eq_true rfl, Nat.le_of_ble_eq_true rfl⟩) (fun r_11' qr_11 => ?_)
    obtain rfl := qr_11.symm
    refine lv_lsub hx hb dX0_leftOfEdge_122 ?_
    rw [← hQ]
    exact W.lret (v := (r_10 - r_11)) hx hb hr (fun t ht hW => ⟨_, rfl, Option.some.inj hF, ht⟩) (fun _ h => by cases h) dX0_leftOfEdge_123
  · have hF := br0 hF c_3
    refine lv_lconst (v := 0) hx hb dX0_leftOfEdge_25 (by decide) ?_
    rw [← hQ]
    exact W.lret (v := (0 : Int64)) hx hb hr (fun t ht hW => ⟨_, rfl, Option.some.inj hF, ht⟩) (fun _ h => by cases h) dX0_leftOfEdge_26
end
