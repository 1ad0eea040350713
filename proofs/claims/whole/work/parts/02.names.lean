/-! ===== BEGIN words of one list among another's, by their places ===== -/
theorem goodIn_r {big : List Cond} (ws : List Cond) (ps : List Nat) (hp : ws = ps.filterMap (fun i => big[i]?)) (h : ws.all goodWord = true) : GoodIn big ws := by
  intro w hw
  have h1 := List.all_eq_true.mp h w hw
  rw [hp] at hw
  obtain ⟨i, -, hi⟩ := List.mem_filterMap.mp hw
  have hm : w ∈ big := by first | exact List.mem_of_getElem? hi | exact List.getElem?_mem hi
  exact ⟨hm, good_of_word h1⟩
theorem goodIn_app {big a b : List Cond} (ha : GoodIn big a) (hb : GoodIn big b) : GoodIn big (a ++ b) := fun w h => (List.mem_append.mp h).elim (ha w) (hb w)
theorem goodIn_ca {big a b : List Cond} {c : Cond} (ha : GoodIn big (c :: a)) (hb : GoodIn big b) : GoodIn big (c :: (a ++ b)) := fun w h => (List.mem_cons.mp h).elim (fun e => ha w (List.mem_cons.mpr (Or.inl e))) (fun h => (List.mem_append.mp h).elim (fun h => ha w (List.mem_cons.mpr (Or.inr h))) (hb w))
theorem goodIn_sub {big ws : List Cond} (hm : ∀ w ∈ ws, w ∈ big) (h : ws.all goodWord = true) : GoodIn big ws := fun w hw => ⟨hm w hw, good_of_word (List.all_eq_true.mp h w hw)⟩
/-! ===== END ===== -/

def RX0 : String := "ClockDesk"
def TX0 : u_T := fun k => match k with
  | 0 => ("ClockDesk", "lows", "[J", true)
  | 1 => ("ClockDesk", "highs", "[J", true)
  | 2 => ("ClockDesk", "held", "I", false)
  | 3 => ("ClockDesk", "ownTime", "J", false)
  | 4 => ("ClockDesk", "clockOffset", "J", false)
  | _ => ("ClockDesk", "goal", "J", false)
def tyX0 : Nat → FieldType := fun k => match k with
  | 0 => .array .long
  | 1 => .array .long
  | 2 => .int
  | 3 => .long
  | 4 => .long
  | _ => .long
abbrev wsX00 : List Cond := u_ws RX0 TX0 6
theorem nmX0 : ∀ a, a < 6 → ∀ b, b < 6 → a ≠ b → (TX0 a).2.1 ≠ (TX0 b).2.1 := by decide +kernel
theorem tyX0_ok : ∀ k, k < 6 → parseFieldDescriptor (TX0 k).2.2.1 = some (tyX0 k) := by decide +kernel
abbrev cX0_init : ByteArray := prog_1_method_1_code
def yX0_init : MethodName := ⟨RX0, "<init>", "()V"⟩
abbrev cX0_interval : ByteArray := prog_1_method_2_code
def yX0_interval : MethodName := ⟨RX0, "interval", "(IJJ)Z"⟩
abbrev cX0_exchange : ByteArray := prog_1_method_3_code
def yX0_exchange : MethodName := ⟨RX0, "exchange", "(IJJJ)J"⟩
abbrev cX0_drop : ByteArray := prog_1_method_4_code
def yX0_drop : MethodName := ⟨RX0, "drop", "(I)Z"⟩
abbrev cX0_sources : ByteArray := prog_1_method_5_code
def yX0_sources : MethodName := ⟨RX0, "sources", "()I"⟩
abbrev cX0_covers : ByteArray := prog_1_method_6_code
def yX0_covers : MethodName := ⟨RX0, "covers", "(J)I"⟩
abbrev cX0_greatest : ByteArray := prog_1_method_7_code
def yX0_greatest : MethodName := ⟨RX0, "greatest", "()I"⟩
abbrev cX0_region : ByteArray := prog_1_method_8_code
def yX0_region : MethodName := ⟨RX0, "region", "(I)J"⟩
abbrev cX0_hull : ByteArray := prog_1_method_9_code
def yX0_hull : MethodName := ⟨RX0, "hull", "(II)J"⟩
abbrev cX0_chosen : ByteArray := prog_1_method_10_code
def yX0_chosen : MethodName := ⟨RX0, "chosen", "(I)Z"⟩
abbrev cX0_mean : ByteArray := prog_1_method_11_code
def yX0_mean : MethodName := ⟨RX0, "mean", "(JI)J"⟩
abbrev cX0_survivors : ByteArray := prog_1_method_12_code
def yX0_survivors : MethodName := ⟨RX0, "survivors", "(I)I"⟩
abbrev cX0_rank : ByteArray := prog_1_method_13_code
def yX0_rank : MethodName := ⟨RX0, "rank", "(II)I"⟩
abbrev cX0_tick : ByteArray := prog_1_method_14_code
def yX0_tick : MethodName := ⟨RX0, "tick", "(J)Z"⟩
abbrev cX0_steer : ByteArray := prog_1_method_15_code
def yX0_steer : MethodName := ⟨RX0, "steer", "()Z"⟩
abbrev cX0_read : ByteArray := prog_1_method_16_code
def yX0_read : MethodName := ⟨RX0, "read", "()J"⟩
abbrev cX0_offset : ByteArray := prog_1_method_17_code
def yX0_offset : MethodName := ⟨RX0, "offset", "(I)J"⟩
abbrev cX0_settles : ByteArray := prog_1_method_18_code
def yX0_settles : MethodName := ⟨RX0, "settles", "()J"⟩
abbrev cX0_isSource : ByteArray := prog_1_method_19_code
def yX0_isSource : MethodName := ⟨RX0, "isSource", "(I)Z"⟩
abbrev cX0_isTime : ByteArray := prog_1_method_20_code
def yX0_isTime : MethodName := ⟨RX0, "isTime", "(J)Z"⟩
abbrev cX0_isCount : ByteArray := prog_1_method_21_code
def yX0_isCount : MethodName := ⟨RX0, "isCount", "(I)Z"⟩
abbrev cX0_isZeroOrOne : ByteArray := prog_1_method_22_code
def yX0_isZeroOrOne : MethodName := ⟨RX0, "isZeroOrOne", "(I)Z"⟩
abbrev cX0_half : ByteArray := prog_1_method_23_code
def yX0_half : MethodName := ⟨RX0, "half", "(J)J"⟩
abbrev cX0_isIn : ByteArray := prog_1_method_24_code
def yX0_isIn : MethodName := ⟨RX0, "isIn", "(II)Z"⟩
abbrev cX0_without : ByteArray := prog_1_method_25_code
def yX0_without : MethodName := ⟨RX0, "without", "(II)I"⟩
abbrev cX0_hold : ByteArray := prog_1_method_26_code
def yX0_hold : MethodName := ⟨RX0, "hold", "(IJJ)V"⟩
abbrev cX0_isCoveredBy : ByteArray := prog_1_method_27_code
def yX0_isCoveredBy : MethodName := ⟨RX0, "isCoveredBy", "(IJ)Z"⟩
abbrev cX0_leastCoveredBy : ByteArray := prog_1_method_28_code
def yX0_leastCoveredBy : MethodName := ⟨RX0, "leastCoveredBy", "(I)J"⟩
abbrev cX0_greatestCoveredBy : ByteArray := prog_1_method_29_code
def yX0_greatestCoveredBy : MethodName := ⟨RX0, "greatestCoveredBy", "(I)J"⟩
abbrev cX0_endOfRow : ByteArray := prog_1_method_30_code
def yX0_endOfRow : MethodName := ⟨RX0, "endOfRow", "(JI)J"⟩
abbrev cX0_firstHighFrom : ByteArray := prog_1_method_31_code
def yX0_firstHighFrom : MethodName := ⟨RX0, "firstHighFrom", "(J)J"⟩
abbrev cX0_middle : ByteArray := prog_1_method_32_code
def yX0_middle : MethodName := ⟨RX0, "middle", "(I)J"⟩
abbrev cX0_medianMiddle : ByteArray := prog_1_method_33_code
def yX0_medianMiddle : MethodName := ⟨RX0, "medianMiddle", "()J"⟩
abbrev cX0_place : ByteArray := prog_1_method_34_code
def yX0_place : MethodName := ⟨RX0, "place", "(II)I"⟩
abbrev cX0_nearTo : ByteArray := prog_1_method_35_code
def yX0_nearTo : MethodName := ⟨RX0, "nearTo", "(JJ)I"⟩
abbrev cX0_meanMiddle : ByteArray := prog_1_method_36_code
def yX0_meanMiddle : MethodName := ⟨RX0, "meanMiddle", "(I)J"⟩
abbrev cX0_leftOf : ByteArray := prog_1_method_37_code
def yX0_leftOf : MethodName := ⟨RX0, "leftOf", "(I)I"⟩
abbrev cX0_farthest : ByteArray := prog_1_method_38_code
def yX0_farthest : MethodName := ⟨RX0, "farthest", "(I)I"⟩
def RX1 : String := "ClockDeskModel"
def TX1 : u_T := fun k => match k with
  | 0 => ("ClockDeskModel", "is", "[Z", true)
  | 1 => ("ClockDeskModel", "low", "[J", true)
  | 2 => ("ClockDeskModel", "high", "[J", true)
  | 3 => ("ClockDeskModel", "now", "J", false)
  | 4 => ("ClockDeskModel", "offset", "J", false)
  | _ => ("ClockDeskModel", "goal", "J", false)
def tyX1 : Nat → FieldType := fun k => match k with
  | 0 => .array .boolean
  | 1 => .array .long
  | 2 => .array .long
  | 3 => .long
  | 4 => .long
  | _ => .long
abbrev wsX10 : List Cond := u_ws RX1 TX1 6
theorem nmX1 : ∀ a, a < 6 → ∀ b, b < 6 → a ≠ b → (TX1 a).2.1 ≠ (TX1 b).2.1 := by decide +kernel
theorem tyX1_ok : ∀ k, k < 6 → parseFieldDescriptor (TX1 k).2.2.1 = some (tyX1 k) := by decide +kernel
abbrev cX1_init : ByteArray := prog_3_method_1_code
def yX1_init : MethodName := ⟨RX1, "<init>", "()V"⟩
abbrev cX1_isSource : ByteArray := prog_3_method_2_code
def yX1_isSource : MethodName := ⟨RX1, "isSource", "(I)Z"⟩
abbrev cX1_half : ByteArray := prog_3_method_3_code
def yX1_half : MethodName := ⟨RX1, "half", "(J)J"⟩
abbrev cX1_over : ByteArray := prog_3_method_4_code
def yX1_over : MethodName := ⟨RX1, "over", "(JJ)J"⟩
abbrev cX1_size : ByteArray := prog_3_method_5_code
def yX1_size : MethodName := ⟨RX1, "size", "(J)J"⟩
abbrev cX1_interval : ByteArray := prog_3_method_6_code
def yX1_interval : MethodName := ⟨RX1, "interval", "(IJJ)Z"⟩
abbrev cX1_exchange : ByteArray := prog_3_method_7_code
def yX1_exchange : MethodName := ⟨RX1, "exchange", "(IJJJ)J"⟩
abbrev cX1_drop : ByteArray := prog_3_method_8_code
def yX1_drop : MethodName := ⟨RX1, "drop", "(I)Z"⟩
abbrev cX1_sources : ByteArray := prog_3_method_9_code
def yX1_sources : MethodName := ⟨RX1, "sources", "()I"⟩
abbrev cX1_covers : ByteArray := prog_3_method_10_code
def yX1_covers : MethodName := ⟨RX1, "covers", "(J)I"⟩
abbrev cX1_greatest : ByteArray := prog_3_method_11_code
def yX1_greatest : MethodName := ⟨RX1, "greatest", "()I"⟩
abbrev cX1_first : ByteArray := prog_3_method_12_code
def yX1_first : MethodName := ⟨RX1, "first", "(I)J"⟩
abbrev cX1_last : ByteArray := prog_3_method_13_code
def yX1_last : MethodName := ⟨RX1, "last", "(I)J"⟩
abbrev cX1_region : ByteArray := prog_3_method_14_code
def yX1_region : MethodName := ⟨RX1, "region", "(I)J"⟩
abbrev cX1_hull : ByteArray := prog_3_method_15_code
def yX1_hull : MethodName := ⟨RX1, "hull", "(II)J"⟩
abbrev cX1_chosen : ByteArray := prog_3_method_16_code
def yX1_chosen : MethodName := ⟨RX1, "chosen", "(I)Z"⟩
abbrev cX1_middle : ByteArray := prog_3_method_17_code
def yX1_middle : MethodName := ⟨RX1, "middle", "(I)J"⟩
abbrev cX1_median : ByteArray := prog_3_method_18_code
def yX1_median : MethodName := ⟨RX1, "median", "()J"⟩
abbrev cX1_mean : ByteArray := prog_3_method_19_code
def yX1_mean : MethodName := ⟨RX1, "mean", "(JI)J"⟩
abbrev cX1_survivors : ByteArray := prog_3_method_20_code
def yX1_survivors : MethodName := ⟨RX1, "survivors", "(I)I"⟩
abbrev cX1_rank : ByteArray := prog_3_method_21_code
def yX1_rank : MethodName := ⟨RX1, "rank", "(II)I"⟩
abbrev cX1_tick : ByteArray := prog_3_method_22_code
def yX1_tick : MethodName := ⟨RX1, "tick", "(J)Z"⟩
abbrev cX1_steer : ByteArray := prog_3_method_23_code
def yX1_steer : MethodName := ⟨RX1, "steer", "()Z"⟩
abbrev cX1_read : ByteArray := prog_3_method_24_code
def yX1_read : MethodName := ⟨RX1, "read", "()J"⟩
abbrev cX1_offset : ByteArray := prog_3_method_25_code
def yX1_offset : MethodName := ⟨RX1, "offset", "(I)J"⟩
abbrev cX1_settles : ByteArray := prog_3_method_26_code
def yX1_settles : MethodName := ⟨RX1, "settles", "()J"⟩
def RJ6 : String := "java/lang/Integer"
def TJ6 : u_T := fun k => match k with
  | _ => ("", "", "", false)
def tyJ6 : Nat → FieldType := fun k => match k with
  | _ => .int
abbrev wsJ60 : List Cond := u_ws RJ6 TJ6 0
theorem nmJ6 : ∀ a, a < 0 → ∀ b, b < 0 → a ≠ b → (TJ6 a).2.1 ≠ (TJ6 b).2.1 := by decide +kernel
theorem tyJ6_ok : ∀ k, k < 0 → parseFieldDescriptor (TJ6 k).2.2.1 = some (tyJ6 k) := by decide +kernel
abbrev cJ6_bitCount_0f7a4 : ByteArray := prog_4_method_49_code
def yJ6_bitCount_0f7a4 : MethodName := ⟨RJ6, "bitCount", "(I)I"⟩
def RJ9 : String := "java/lang/Math"
def TJ9 : u_T := fun k => match k with
  | _ => ("", "", "", false)
def tyJ9 : Nat → FieldType := fun k => match k with
  | _ => .int
abbrev wsJ90 : List Cond := u_ws RJ9 TJ9 0
theorem nmJ9 : ∀ a, a < 0 → ∀ b, b < 0 → a ≠ b → (TJ9 a).2.1 ≠ (TJ9 b).2.1 := by decide +kernel
theorem tyJ9_ok : ∀ k, k < 0 → parseFieldDescriptor (TJ9 k).2.2.1 = some (tyJ9 k) := by decide +kernel
abbrev cJ9_floorDiv_f86c9 : ByteArray := prog_5_method_49_code
def yJ9_floorDiv_f86c9 : MethodName := ⟨RJ9, "floorDiv", "(JJ)J"⟩
abbrev cJ9_abs_067f4 : ByteArray := prog_5_method_61_code
def yJ9_abs_067f4 : MethodName := ⟨RJ9, "abs", "(J)J"⟩
abbrev cJ9_max_7cf53 : ByteArray := prog_5_method_65_code
def yJ9_max_7cf53 : MethodName := ⟨RJ9, "max", "(II)I"⟩
abbrev cJ9_max_f86c9 : ByteArray := prog_5_method_66_code
def yJ9_max_f86c9 : MethodName := ⟨RJ9, "max", "(JJ)J"⟩
abbrev cJ9_min_f86c9 : ByteArray := prog_5_method_70_code
def yJ9_min_f86c9 : MethodName := ⟨RJ9, "min", "(JJ)J"⟩
def RL : String := "ClockDeskLaw"
abbrev cL_law : ByteArray := code
def yL_law : MethodName := ⟨RL, "law", "([I)Z"⟩
def wsX0_init : List Cond := .code yX0_init cX0_init 1 none :: ([.methodLink RX0 1 objectInit, .instanceMethod objectInit, .code objectInit ⟨#[0xb1]⟩ 1 none, .arrayClass .long, .fieldLink RX0 9 "ClockDesk" "lows" "[J", .fieldLink RX0 13 "ClockDesk" "highs" "[J", .fieldLink RX0 16 "ClockDesk" "held" "I", .fieldLink RX0 20 "ClockDesk" "ownTime" "J", .fieldLink RX0 24 "ClockDesk" "clockOffset" "J", .fieldLink RX0 27 "ClockDesk" "goal" "J"] ++ wsX00)
def wsX0_isSource : List Cond := .code yX0_isSource cX0_isSource 1 (some .boolean) :: ([])
def wsX0_hold : List Cond := .code yX0_hold cX0_hold 6 none :: ([.fieldLink RX0 9 "ClockDesk" "lows" "[J", .fieldLink RX0 13 "ClockDesk" "highs" "[J", .fieldLink RX0 16 "ClockDesk" "held" "I"] ++ wsX00)
def wsX0_interval : List Cond := .code yX0_interval cX0_interval 6 (some .boolean) :: ([.constantLong RX0 34 (-288230376151711744), .constantLong RX0 36 (288230376151711744), .methodLink RX0 30 yX0_isSource, .static yX0_isSource, .initialized RX0, .code yX0_isSource cX0_isSource 1 (some .boolean), .methodLink RX0 38 yX0_hold, .instanceMethod yX0_hold, .selects RX0 yX0_hold yX0_hold, .code yX0_hold cX0_hold 6 none, .fieldLink RX0 9 "ClockDesk" "lows" "[J", .fieldLink RX0 13 "ClockDesk" "highs" "[J", .fieldLink RX0 16 "ClockDesk" "held" "I"] ++ wsX00)
def wsX0_isTime : List Cond := .code yX0_isTime cX0_isTime 2 (some .boolean) :: ([.constantLong RX0 123 (144115188075855872)])
def wsJ9_floorDiv_f86c9 : List Cond := .code yJ9_floorDiv_f86c9 cJ9_floorDiv_f86c9 6 (some .long) :: ([])
def wsX0_half : List Cond := .code yX0_half cX0_half 2 (some .long) :: ([.constantLong RX0 138 (2), .methodLink RX0 140 yJ9_floorDiv_f86c9, .static yJ9_floorDiv_f86c9, .initialized RJ9, .code yJ9_floorDiv_f86c9 cJ9_floorDiv_f86c9 6 (some .long)])
def wsX0_exchange : List Cond := .code yX0_exchange cX0_exchange 8 (some .long) :: ([.constantLong RX0 46 (-4611686018427387904), .methodLink RX0 30 yX0_isSource, .static yX0_isSource, .initialized RX0, .code yX0_isSource cX0_isSource 1 (some .boolean), .methodLink RX0 42 yX0_isTime, .static yX0_isTime, .code yX0_isTime cX0_isTime 2 (some .boolean), .constantLong RX0 123 (144115188075855872), .methodLink RX0 38 yX0_hold, .instanceMethod yX0_hold, .selects RX0 yX0_hold yX0_hold, .code yX0_hold cX0_hold 6 none, .fieldLink RX0 9 "ClockDesk" "lows" "[J", .fieldLink RX0 13 "ClockDesk" "highs" "[J", .fieldLink RX0 16 "ClockDesk" "held" "I", .methodLink RX0 48 yX0_half, .static yX0_half, .code yX0_half cX0_half 2 (some .long), .constantLong RX0 138 (2), .methodLink RX0 140 yJ9_floorDiv_f86c9, .static yJ9_floorDiv_f86c9, .initialized RJ9, .code yJ9_floorDiv_f86c9 cJ9_floorDiv_f86c9 6 (some .long)] ++ wsX00)
def wsX0_isIn : List Cond := .code yX0_isIn cX0_isIn 2 (some .boolean) :: ([.methodLink RX0 30 yX0_isSource, .static yX0_isSource, .initialized RX0, .code yX0_isSource cX0_isSource 1 (some .boolean)])
def wsX0_without : List Cond := .code yX0_without cX0_without 2 (some .int) :: ([])
def wsX0_drop : List Cond := .code yX0_drop cX0_drop 2 (some .boolean) :: ([.fieldLink RX0 16 "ClockDesk" "held" "I", .methodLink RX0 52 yX0_isIn, .static yX0_isIn, .initialized RX0, .code yX0_isIn cX0_isIn 2 (some .boolean), .methodLink RX0 30 yX0_isSource, .static yX0_isSource, .code yX0_isSource cX0_isSource 1 (some .boolean), .methodLink RX0 56 yX0_without, .static yX0_without, .code yX0_without cX0_without 2 (some .int)] ++ wsX00)
def wsJ6_bitCount_0f7a4 : List Cond := .code yJ6_bitCount_0f7a4 cJ6_bitCount_0f7a4 1 (some .int) :: ([.constant RJ6 265 (1431655765), .constant RJ6 266 (858993459), .constant RJ6 267 (252645135)])
def wsX0_sources : List Cond := .code yX0_sources cX0_sources 1 (some .int) :: ([.fieldLink RX0 16 "ClockDesk" "held" "I", .methodLink RX0 60 yJ6_bitCount_0f7a4, .static yJ6_bitCount_0f7a4, .initialized RJ6, .code yJ6_bitCount_0f7a4 cJ6_bitCount_0f7a4 1 (some .int), .constant RJ6 265 (1431655765), .constant RJ6 266 (858993459), .constant RJ6 267 (252645135)] ++ wsX00)
def wsX0_isCoveredBy : List Cond := .code yX0_isCoveredBy cX0_isCoveredBy 4 (some .boolean) :: ([.fieldLink RX0 16 "ClockDesk" "held" "I", .fieldLink RX0 9 "ClockDesk" "lows" "[J", .fieldLink RX0 13 "ClockDesk" "highs" "[J", .methodLink RX0 52 yX0_isIn, .static yX0_isIn, .initialized RX0, .code yX0_isIn cX0_isIn 2 (some .boolean), .methodLink RX0 30 yX0_isSource, .static yX0_isSource, .code yX0_isSource cX0_isSource 1 (some .boolean)] ++ wsX00)
def wsX0_covers : List Cond := .code yX0_covers cX0_covers 5 (some .int) :: ([.methodLink RX0 66 yX0_isCoveredBy, .instanceMethod yX0_isCoveredBy, .selects RX0 yX0_isCoveredBy yX0_isCoveredBy, .initialized RX0, .code yX0_isCoveredBy cX0_isCoveredBy 4 (some .boolean), .fieldLink RX0 16 "ClockDesk" "held" "I", .fieldLink RX0 9 "ClockDesk" "lows" "[J", .fieldLink RX0 13 "ClockDesk" "highs" "[J", .methodLink RX0 52 yX0_isIn, .static yX0_isIn, .code yX0_isIn cX0_isIn 2 (some .boolean), .methodLink RX0 30 yX0_isSource, .static yX0_isSource, .code yX0_isSource cX0_isSource 1 (some .boolean)] ++ wsX00)
def wsX0_greatest : List Cond := .code yX0_greatest cX0_greatest 3 (some .int) :: ([.fieldLink RX0 16 "ClockDesk" "held" "I", .fieldLink RX0 9 "ClockDesk" "lows" "[J", .methodLink RX0 74 Lib.Math.max.name, .static Lib.Math.max.name, .initialized "java/lang/Math", .code Lib.Math.max.name Lib.Math.max.code 2 (some .int), .methodLink RX0 52 yX0_isIn, .static yX0_isIn, .initialized RX0, .code yX0_isIn cX0_isIn 2 (some .boolean), .methodLink RX0 30 yX0_isSource, .static yX0_isSource, .code yX0_isSource cX0_isSource 1 (some .boolean), .methodLink RX0 70 yX0_covers, .instanceMethod yX0_covers, .selects RX0 yX0_covers yX0_covers, .code yX0_covers cX0_covers 5 (some .int), .methodLink RX0 66 yX0_isCoveredBy, .instanceMethod yX0_isCoveredBy, .selects RX0 yX0_isCoveredBy yX0_isCoveredBy, .code yX0_isCoveredBy cX0_isCoveredBy 4 (some .boolean), .fieldLink RX0 13 "ClockDesk" "highs" "[J"] ++ wsX00)
def wsX0_isZeroOrOne : List Cond := .code yX0_isZeroOrOne cX0_isZeroOrOne 1 (some .boolean) :: ([])
def wsX0_leastCoveredBy : List Cond := .code yX0_leastCoveredBy cX0_leastCoveredBy 5 (some .long) :: ([.constantLong RX0 46 (-4611686018427387904), .fieldLink RX0 16 "ClockDesk" "held" "I", .fieldLink RX0 9 "ClockDesk" "lows" "[J", .methodLink RX0 52 yX0_isIn, .static yX0_isIn, .initialized RX0, .code yX0_isIn cX0_isIn 2 (some .boolean), .methodLink RX0 30 yX0_isSource, .static yX0_isSource, .code yX0_isSource cX0_isSource 1 (some .boolean), .methodLink RX0 70 yX0_covers, .instanceMethod yX0_covers, .selects RX0 yX0_covers yX0_covers, .code yX0_covers cX0_covers 5 (some .int), .methodLink RX0 66 yX0_isCoveredBy, .instanceMethod yX0_isCoveredBy, .selects RX0 yX0_isCoveredBy yX0_isCoveredBy, .code yX0_isCoveredBy cX0_isCoveredBy 4 (some .boolean), .fieldLink RX0 13 "ClockDesk" "highs" "[J"] ++ wsX00)
def wsX0_firstHighFrom : List Cond := .code yX0_firstHighFrom cX0_firstHighFrom 6 (some .long) :: ([.constantLong RX0 36 (288230376151711744), .fieldLink RX0 13 "ClockDesk" "highs" "[J", .methodLink RX0 127 Lib.MathLoose.min_long.x, .static Lib.MathLoose.min_long.x, .initialized "java/lang/Math", .code Lib.MathLoose.min_long.x Lib.MathLoose.min_long.code 4 (some .long), .methodLink RX0 66 yX0_isCoveredBy, .instanceMethod yX0_isCoveredBy, .selects RX0 yX0_isCoveredBy yX0_isCoveredBy, .initialized RX0, .code yX0_isCoveredBy cX0_isCoveredBy 4 (some .boolean), .fieldLink RX0 16 "ClockDesk" "held" "I", .fieldLink RX0 9 "ClockDesk" "lows" "[J", .methodLink RX0 52 yX0_isIn, .static yX0_isIn, .code yX0_isIn cX0_isIn 2 (some .boolean), .methodLink RX0 30 yX0_isSource, .static yX0_isSource, .code yX0_isSource cX0_isSource 1 (some .boolean)] ++ wsX00)
def wsX0_endOfRow_r1 : List Cond := [Cond.methodLink RX0 143 yX0_firstHighFrom, Cond.instanceMethod yX0_firstHighFrom, Cond.selects RX0 yX0_firstHighFrom yX0_firstHighFrom, Cond.initialized RX0, Cond.code yX0_firstHighFrom cX0_firstHighFrom 6 (some .long), Cond.constantLong RX0 36 (288230376151711744), Cond.fieldLink RX0 13 "ClockDesk" "highs" "[J", Cond.methodLink RX0 127 Lib.MathLoose.min_long.x, Cond.static Lib.MathLoose.min_long.x, Cond.initialized "java/lang/Math", Cond.code Lib.MathLoose.min_long.x Lib.MathLoose.min_long.code 4 (some .long), Cond.methodLink RX0 66 yX0_isCoveredBy, Cond.instanceMethod yX0_isCoveredBy, Cond.selects RX0 yX0_isCoveredBy yX0_isCoveredBy, Cond.code yX0_isCoveredBy cX0_isCoveredBy 4 (some .boolean), Cond.fieldLink RX0 16 "ClockDesk" "held" "I", Cond.fieldLink RX0 9 "ClockDesk" "lows" "[J", Cond.methodLink RX0 52 yX0_isIn, Cond.static yX0_isIn, Cond.code yX0_isIn cX0_isIn 2 (some .boolean), Cond.methodLink RX0 30 yX0_isSource, Cond.static yX0_isSource, Cond.code yX0_isSource cX0_isSource 1 (some .boolean), Cond.methodLink RX0 70 yX0_covers]
def wsX0_endOfRow_r2 : List Cond := [Cond.instanceMethod yX0_covers, Cond.selects RX0 yX0_covers yX0_covers, Cond.code yX0_covers cX0_covers 5 (some .int)]
def wsX0_endOfRow : List Cond := .code yX0_endOfRow cX0_endOfRow 7 (some .long) :: ((wsX0_endOfRow_r1 ++ wsX0_endOfRow_r2) ++ wsX00)
def wsX0_region_r1 : List Cond := [Cond.fieldLink RX0 16 "ClockDesk" "held" "I", Cond.constantLong RX0 46 (-4611686018427387904), Cond.methodLink RX0 79 yX0_isZeroOrOne, Cond.static yX0_isZeroOrOne, Cond.initialized RX0, Cond.code yX0_isZeroOrOne cX0_isZeroOrOne 1 (some .boolean), Cond.methodLink RX0 82 yX0_greatest, Cond.instanceMethod yX0_greatest, Cond.selects RX0 yX0_greatest yX0_greatest, Cond.code yX0_greatest cX0_greatest 3 (some .int), Cond.fieldLink RX0 9 "ClockDesk" "lows" "[J", Cond.methodLink RX0 74 Lib.Math.max.name, Cond.static Lib.Math.max.name, Cond.initialized "java/lang/Math", Cond.code Lib.Math.max.name Lib.Math.max.code 2 (some .int), Cond.methodLink RX0 52 yX0_isIn, Cond.static yX0_isIn, Cond.code yX0_isIn cX0_isIn 2 (some .boolean), Cond.methodLink RX0 30 yX0_isSource, Cond.static yX0_isSource, Cond.code yX0_isSource cX0_isSource 1 (some .boolean), Cond.methodLink RX0 70 yX0_covers, Cond.instanceMethod yX0_covers, Cond.selects RX0 yX0_covers yX0_covers]
def wsX0_region_r2 : List Cond := [Cond.code yX0_covers cX0_covers 5 (some .int), Cond.methodLink RX0 66 yX0_isCoveredBy, Cond.instanceMethod yX0_isCoveredBy, Cond.selects RX0 yX0_isCoveredBy yX0_isCoveredBy, Cond.code yX0_isCoveredBy cX0_isCoveredBy 4 (some .boolean), Cond.fieldLink RX0 13 "ClockDesk" "highs" "[J", Cond.methodLink RX0 86 yX0_leastCoveredBy, Cond.instanceMethod yX0_leastCoveredBy, Cond.selects RX0 yX0_leastCoveredBy yX0_leastCoveredBy, Cond.code yX0_leastCoveredBy cX0_leastCoveredBy 5 (some .long), Cond.methodLink RX0 90 yX0_endOfRow, Cond.instanceMethod yX0_endOfRow, Cond.selects RX0 yX0_endOfRow yX0_endOfRow, Cond.code yX0_endOfRow cX0_endOfRow 7 (some .long), Cond.methodLink RX0 143 yX0_firstHighFrom, Cond.instanceMethod yX0_firstHighFrom, Cond.selects RX0 yX0_firstHighFrom yX0_firstHighFrom, Cond.code yX0_firstHighFrom cX0_firstHighFrom 6 (some .long), Cond.constantLong RX0 36 (288230376151711744), Cond.methodLink RX0 127 Lib.MathLoose.min_long.x, Cond.static Lib.MathLoose.min_long.x, Cond.code Lib.MathLoose.min_long.x Lib.MathLoose.min_long.code 4 (some .long)]
def wsX0_region : List Cond := .code yX0_region cX0_region 5 (some .long) :: ((wsX0_region_r1 ++ wsX0_region_r2) ++ wsX00)
def wsX0_greatestCoveredBy : List Cond := .code yX0_greatestCoveredBy cX0_greatestCoveredBy 5 (some .long) :: ([.constantLong RX0 46 (-4611686018427387904), .fieldLink RX0 16 "ClockDesk" "held" "I", .fieldLink RX0 13 "ClockDesk" "highs" "[J", .methodLink RX0 131 Lib.MathLoose.max_long.x, .static Lib.MathLoose.max_long.x, .initialized "java/lang/Math", .code Lib.MathLoose.max_long.x Lib.MathLoose.max_long.code 4 (some .long), .methodLink RX0 52 yX0_isIn, .static yX0_isIn, .initialized RX0, .code yX0_isIn cX0_isIn 2 (some .boolean), .methodLink RX0 30 yX0_isSource, .static yX0_isSource, .code yX0_isSource cX0_isSource 1 (some .boolean), .methodLink RX0 70 yX0_covers, .instanceMethod yX0_covers, .selects RX0 yX0_covers yX0_covers, .code yX0_covers cX0_covers 5 (some .int), .methodLink RX0 66 yX0_isCoveredBy, .instanceMethod yX0_isCoveredBy, .selects RX0 yX0_isCoveredBy yX0_isCoveredBy, .code yX0_isCoveredBy cX0_isCoveredBy 4 (some .boolean), .fieldLink RX0 9 "ClockDesk" "lows" "[J"] ++ wsX00)
def wsX0_hull_r1 : List Cond := [Cond.constantLong RX0 46 (-4611686018427387904), Cond.methodLink RX0 94 yX0_sources, Cond.instanceMethod yX0_sources, Cond.selects RX0 yX0_sources yX0_sources, Cond.initialized RX0, Cond.code yX0_sources cX0_sources 1 (some .int), Cond.fieldLink RX0 16 "ClockDesk" "held" "I", Cond.methodLink RX0 60 yJ6_bitCount_0f7a4, Cond.static yJ6_bitCount_0f7a4, Cond.initialized RJ6, Cond.code yJ6_bitCount_0f7a4 cJ6_bitCount_0f7a4 1 (some .int), Cond.constant RJ6 265 (1431655765), Cond.constant RJ6 266 (858993459), Cond.constant RJ6 267 (252645135), Cond.methodLink RX0 79 yX0_isZeroOrOne, Cond.static yX0_isZeroOrOne, Cond.code yX0_isZeroOrOne cX0_isZeroOrOne 1 (some .boolean), Cond.methodLink RX0 86 yX0_leastCoveredBy, Cond.instanceMethod yX0_leastCoveredBy, Cond.selects RX0 yX0_leastCoveredBy yX0_leastCoveredBy, Cond.code yX0_leastCoveredBy cX0_leastCoveredBy 5 (some .long), Cond.fieldLink RX0 9 "ClockDesk" "lows" "[J", Cond.methodLink RX0 52 yX0_isIn, Cond.static yX0_isIn]
def wsX0_hull_r2 : List Cond := [Cond.code yX0_isIn cX0_isIn 2 (some .boolean), Cond.methodLink RX0 30 yX0_isSource, Cond.static yX0_isSource, Cond.code yX0_isSource cX0_isSource 1 (some .boolean), Cond.methodLink RX0 70 yX0_covers, Cond.instanceMethod yX0_covers, Cond.selects RX0 yX0_covers yX0_covers, Cond.code yX0_covers cX0_covers 5 (some .int), Cond.methodLink RX0 66 yX0_isCoveredBy, Cond.instanceMethod yX0_isCoveredBy, Cond.selects RX0 yX0_isCoveredBy yX0_isCoveredBy, Cond.code yX0_isCoveredBy cX0_isCoveredBy 4 (some .boolean), Cond.fieldLink RX0 13 "ClockDesk" "highs" "[J", Cond.methodLink RX0 97 yX0_greatestCoveredBy, Cond.instanceMethod yX0_greatestCoveredBy, Cond.selects RX0 yX0_greatestCoveredBy yX0_greatestCoveredBy, Cond.code yX0_greatestCoveredBy cX0_greatestCoveredBy 5 (some .long), Cond.methodLink RX0 131 Lib.MathLoose.max_long.x, Cond.static Lib.MathLoose.max_long.x, Cond.initialized "java/lang/Math", Cond.code Lib.MathLoose.max_long.x Lib.MathLoose.max_long.code 4 (some .long)]
def wsX0_hull : List Cond := .code yX0_hull cX0_hull 4 (some .long) :: ((wsX0_hull_r1 ++ wsX0_hull_r2) ++ wsX00)
def wsX0_chosen_r1 : List Cond := [Cond.fieldLink RX0 16 "ClockDesk" "held" "I", Cond.fieldLink RX0 9 "ClockDesk" "lows" "[J", Cond.fieldLink RX0 13 "ClockDesk" "highs" "[J", Cond.methodLink RX0 52 yX0_isIn, Cond.static yX0_isIn, Cond.initialized RX0, Cond.code yX0_isIn cX0_isIn 2 (some .boolean), Cond.methodLink RX0 30 yX0_isSource, Cond.static yX0_isSource, Cond.code yX0_isSource cX0_isSource 1 (some .boolean), Cond.methodLink RX0 100 yX0_region, Cond.instanceMethod yX0_region, Cond.selects RX0 yX0_region yX0_region, Cond.code yX0_region cX0_region 5 (some .long), Cond.constantLong RX0 46 (-4611686018427387904), Cond.methodLink RX0 79 yX0_isZeroOrOne, Cond.static yX0_isZeroOrOne, Cond.code yX0_isZeroOrOne cX0_isZeroOrOne 1 (some .boolean), Cond.methodLink RX0 82 yX0_greatest, Cond.instanceMethod yX0_greatest, Cond.selects RX0 yX0_greatest yX0_greatest, Cond.code yX0_greatest cX0_greatest 3 (some .int), Cond.methodLink RX0 74 Lib.Math.max.name, Cond.static Lib.Math.max.name]
def wsX0_chosen_r2 : List Cond := [Cond.initialized "java/lang/Math", Cond.code Lib.Math.max.name Lib.Math.max.code 2 (some .int), Cond.methodLink RX0 70 yX0_covers, Cond.instanceMethod yX0_covers, Cond.selects RX0 yX0_covers yX0_covers, Cond.code yX0_covers cX0_covers 5 (some .int), Cond.methodLink RX0 66 yX0_isCoveredBy, Cond.instanceMethod yX0_isCoveredBy, Cond.selects RX0 yX0_isCoveredBy yX0_isCoveredBy, Cond.code yX0_isCoveredBy cX0_isCoveredBy 4 (some .boolean), Cond.methodLink RX0 86 yX0_leastCoveredBy, Cond.instanceMethod yX0_leastCoveredBy, Cond.selects RX0 yX0_leastCoveredBy yX0_leastCoveredBy, Cond.code yX0_leastCoveredBy cX0_leastCoveredBy 5 (some .long), Cond.methodLink RX0 90 yX0_endOfRow, Cond.instanceMethod yX0_endOfRow, Cond.selects RX0 yX0_endOfRow yX0_endOfRow, Cond.code yX0_endOfRow cX0_endOfRow 7 (some .long), Cond.methodLink RX0 143 yX0_firstHighFrom, Cond.instanceMethod yX0_firstHighFrom, Cond.selects RX0 yX0_firstHighFrom yX0_firstHighFrom, Cond.code yX0_firstHighFrom cX0_firstHighFrom 6 (some .long), Cond.constantLong RX0 36 (288230376151711744), Cond.methodLink RX0 127 Lib.MathLoose.min_long.x]
def wsX0_chosen_r3 : List Cond := [Cond.static Lib.MathLoose.min_long.x, Cond.code Lib.MathLoose.min_long.x Lib.MathLoose.min_long.code 4 (some .long)]
def wsX0_chosen : List Cond := .code yX0_chosen cX0_chosen 2 (some .boolean) :: ((wsX0_chosen_r1 ++ (wsX0_chosen_r2 ++ wsX0_chosen_r3)) ++ wsX00)
def wsX0_middle : List Cond := .code yX0_middle cX0_middle 2 (some .long) :: ([.fieldLink RX0 9 "ClockDesk" "lows" "[J", .fieldLink RX0 13 "ClockDesk" "highs" "[J", .methodLink RX0 48 yX0_half, .static yX0_half, .initialized RX0, .code yX0_half cX0_half 2 (some .long), .constantLong RX0 138 (2), .methodLink RX0 140 yJ9_floorDiv_f86c9, .static yJ9_floorDiv_f86c9, .initialized RJ9, .code yJ9_floorDiv_f86c9 cJ9_floorDiv_f86c9 6 (some .long)] ++ wsX00)
def wsX0_place : List Cond := .code yX0_place cX0_place 7 (some .int) :: ([.methodLink RX0 146 yX0_middle, .instanceMethod yX0_middle, .selects RX0 yX0_middle yX0_middle, .initialized RX0, .code yX0_middle cX0_middle 2 (some .long), .fieldLink RX0 9 "ClockDesk" "lows" "[J", .fieldLink RX0 13 "ClockDesk" "highs" "[J", .methodLink RX0 48 yX0_half, .static yX0_half, .code yX0_half cX0_half 2 (some .long), .constantLong RX0 138 (2), .methodLink RX0 140 yJ9_floorDiv_f86c9, .static yJ9_floorDiv_f86c9, .initialized RJ9, .code yJ9_floorDiv_f86c9 cJ9_floorDiv_f86c9 6 (some .long), .methodLink RX0 52 yX0_isIn, .static yX0_isIn, .code yX0_isIn cX0_isIn 2 (some .boolean), .methodLink RX0 30 yX0_isSource, .static yX0_isSource, .code yX0_isSource cX0_isSource 1 (some .boolean)] ++ wsX00)
def wsX0_medianMiddle_r1 : List Cond := [Cond.fieldLink RX0 16 "ClockDesk" "held" "I", Cond.constantLong RX0 46 (-4611686018427387904), Cond.methodLink RX0 94 yX0_sources, Cond.instanceMethod yX0_sources, Cond.selects RX0 yX0_sources yX0_sources, Cond.initialized RX0, Cond.code yX0_sources cX0_sources 1 (some .int), Cond.methodLink RX0 60 yJ6_bitCount_0f7a4, Cond.static yJ6_bitCount_0f7a4, Cond.initialized RJ6, Cond.code yJ6_bitCount_0f7a4 cJ6_bitCount_0f7a4 1 (some .int), Cond.constant RJ6 265 (1431655765), Cond.constant RJ6 266 (858993459), Cond.constant RJ6 267 (252645135), Cond.methodLink RX0 52 yX0_isIn, Cond.static yX0_isIn, Cond.code yX0_isIn cX0_isIn 2 (some .boolean), Cond.methodLink RX0 30 yX0_isSource, Cond.static yX0_isSource, Cond.code yX0_isSource cX0_isSource 1 (some .boolean), Cond.methodLink RX0 120 yX0_place, Cond.instanceMethod yX0_place, Cond.selects RX0 yX0_place yX0_place, Cond.code yX0_place cX0_place 7 (some .int)]
def wsX0_medianMiddle_r2 : List Cond := [Cond.methodLink RX0 146 yX0_middle, Cond.instanceMethod yX0_middle, Cond.selects RX0 yX0_middle yX0_middle, Cond.code yX0_middle cX0_middle 2 (some .long), Cond.fieldLink RX0 9 "ClockDesk" "lows" "[J", Cond.fieldLink RX0 13 "ClockDesk" "highs" "[J", Cond.methodLink RX0 48 yX0_half, Cond.static yX0_half, Cond.code yX0_half cX0_half 2 (some .long), Cond.constantLong RX0 138 (2), Cond.methodLink RX0 140 yJ9_floorDiv_f86c9, Cond.static yJ9_floorDiv_f86c9, Cond.initialized RJ9, Cond.code yJ9_floorDiv_f86c9 cJ9_floorDiv_f86c9 6 (some .long)]
def wsX0_medianMiddle : List Cond := .code yX0_medianMiddle cX0_medianMiddle 3 (some .long) :: ((wsX0_medianMiddle_r1 ++ wsX0_medianMiddle_r2) ++ wsX00)
def wsX0_nearTo_r1 : List Cond := [Cond.fieldLink RX0 16 "ClockDesk" "held" "I", Cond.methodLink RX0 133 Lib.MathLoose.abs_long.x, Cond.static Lib.MathLoose.abs_long.x, Cond.initialized "java/lang/Math", Cond.code Lib.MathLoose.abs_long.x Lib.MathLoose.abs_long.code 2 (some .long), Cond.methodLink RX0 52 yX0_isIn, Cond.static yX0_isIn, Cond.initialized RX0, Cond.code yX0_isIn cX0_isIn 2 (some .boolean), Cond.methodLink RX0 30 yX0_isSource, Cond.static yX0_isSource, Cond.code yX0_isSource cX0_isSource 1 (some .boolean), Cond.methodLink RX0 146 yX0_middle, Cond.instanceMethod yX0_middle, Cond.selects RX0 yX0_middle yX0_middle, Cond.code yX0_middle cX0_middle 2 (some .long), Cond.fieldLink RX0 9 "ClockDesk" "lows" "[J", Cond.fieldLink RX0 13 "ClockDesk" "highs" "[J", Cond.methodLink RX0 48 yX0_half, Cond.static yX0_half, Cond.code yX0_half cX0_half 2 (some .long), Cond.constantLong RX0 138 (2), Cond.methodLink RX0 140 yJ9_floorDiv_f86c9, Cond.static yJ9_floorDiv_f86c9]
def wsX0_nearTo_r2 : List Cond := [Cond.initialized RJ9, Cond.code yJ9_floorDiv_f86c9 cJ9_floorDiv_f86c9 6 (some .long), Cond.methodLink RX0 56 yX0_without, Cond.static yX0_without, Cond.code yX0_without cX0_without 2 (some .int)]
def wsX0_nearTo : List Cond := .code yX0_nearTo cX0_nearTo 7 (some .int) :: ((wsX0_nearTo_r1 ++ wsX0_nearTo_r2) ++ wsX00)
def wsX0_meanMiddle_r1 : List Cond := [Cond.constantLong RX0 46 (-4611686018427387904), Cond.methodLink RX0 52 yX0_isIn, Cond.static yX0_isIn, Cond.initialized RX0, Cond.code yX0_isIn cX0_isIn 2 (some .boolean), Cond.methodLink RX0 30 yX0_isSource, Cond.static yX0_isSource, Cond.code yX0_isSource cX0_isSource 1 (some .boolean), Cond.methodLink RX0 146 yX0_middle, Cond.instanceMethod yX0_middle, Cond.selects RX0 yX0_middle yX0_middle, Cond.code yX0_middle cX0_middle 2 (some .long), Cond.fieldLink RX0 9 "ClockDesk" "lows" "[J", Cond.fieldLink RX0 13 "ClockDesk" "highs" "[J", Cond.methodLink RX0 48 yX0_half, Cond.static yX0_half, Cond.code yX0_half cX0_half 2 (some .long), Cond.constantLong RX0 138 (2), Cond.methodLink RX0 140 yJ9_floorDiv_f86c9, Cond.static yJ9_floorDiv_f86c9, Cond.initialized RJ9, Cond.code yJ9_floorDiv_f86c9 cJ9_floorDiv_f86c9 6 (some .long), Cond.methodLink RX0 60 yJ6_bitCount_0f7a4, Cond.static yJ6_bitCount_0f7a4]
def wsX0_meanMiddle_r2 : List Cond := [Cond.initialized RJ6, Cond.code yJ6_bitCount_0f7a4 cJ6_bitCount_0f7a4 1 (some .int), Cond.constant RJ6 265 (1431655765), Cond.constant RJ6 266 (858993459), Cond.constant RJ6 267 (252645135)]
def wsX0_meanMiddle : List Cond := .code yX0_meanMiddle cX0_meanMiddle 5 (some .long) :: ((wsX0_meanMiddle_r1 ++ wsX0_meanMiddle_r2) ++ wsX00)
def wsX0_mean_r1 : List Cond := [Cond.fieldLink RX0 16 "ClockDesk" "held" "I", Cond.constantLong RX0 46 (-4611686018427387904), Cond.methodLink RX0 79 yX0_isZeroOrOne, Cond.static yX0_isZeroOrOne, Cond.initialized RX0, Cond.code yX0_isZeroOrOne cX0_isZeroOrOne 1 (some .boolean), Cond.methodLink RX0 103 yX0_medianMiddle, Cond.instanceMethod yX0_medianMiddle, Cond.selects RX0 yX0_medianMiddle yX0_medianMiddle, Cond.code yX0_medianMiddle cX0_medianMiddle 3 (some .long), Cond.methodLink RX0 94 yX0_sources, Cond.instanceMethod yX0_sources, Cond.selects RX0 yX0_sources yX0_sources, Cond.code yX0_sources cX0_sources 1 (some .int), Cond.methodLink RX0 60 yJ6_bitCount_0f7a4, Cond.static yJ6_bitCount_0f7a4, Cond.initialized RJ6, Cond.code yJ6_bitCount_0f7a4 cJ6_bitCount_0f7a4 1 (some .int), Cond.constant RJ6 265 (1431655765), Cond.constant RJ6 266 (858993459), Cond.constant RJ6 267 (252645135), Cond.methodLink RX0 52 yX0_isIn, Cond.static yX0_isIn, Cond.code yX0_isIn cX0_isIn 2 (some .boolean)]
def wsX0_mean_r2 : List Cond := [Cond.methodLink RX0 30 yX0_isSource, Cond.static yX0_isSource, Cond.code yX0_isSource cX0_isSource 1 (some .boolean), Cond.methodLink RX0 120 yX0_place, Cond.instanceMethod yX0_place, Cond.selects RX0 yX0_place yX0_place, Cond.code yX0_place cX0_place 7 (some .int), Cond.methodLink RX0 146 yX0_middle, Cond.instanceMethod yX0_middle, Cond.selects RX0 yX0_middle yX0_middle, Cond.code yX0_middle cX0_middle 2 (some .long), Cond.fieldLink RX0 9 "ClockDesk" "lows" "[J", Cond.fieldLink RX0 13 "ClockDesk" "highs" "[J", Cond.methodLink RX0 48 yX0_half, Cond.static yX0_half, Cond.code yX0_half cX0_half 2 (some .long), Cond.constantLong RX0 138 (2), Cond.methodLink RX0 140 yJ9_floorDiv_f86c9, Cond.static yJ9_floorDiv_f86c9, Cond.initialized RJ9, Cond.code yJ9_floorDiv_f86c9 cJ9_floorDiv_f86c9 6 (some .long), Cond.methodLink RX0 107 yX0_nearTo, Cond.instanceMethod yX0_nearTo, Cond.selects RX0 yX0_nearTo yX0_nearTo]
def wsX0_mean_r3 : List Cond := [Cond.code yX0_nearTo cX0_nearTo 7 (some .int), Cond.methodLink RX0 133 Lib.MathLoose.abs_long.x, Cond.static Lib.MathLoose.abs_long.x, Cond.initialized "java/lang/Math", Cond.code Lib.MathLoose.abs_long.x Lib.MathLoose.abs_long.code 2 (some .long), Cond.methodLink RX0 56 yX0_without, Cond.static yX0_without, Cond.code yX0_without cX0_without 2 (some .int), Cond.methodLink RX0 111 yX0_meanMiddle, Cond.instanceMethod yX0_meanMiddle, Cond.selects RX0 yX0_meanMiddle yX0_meanMiddle, Cond.code yX0_meanMiddle cX0_meanMiddle 5 (some .long)]
def wsX0_mean : List Cond := .code yX0_mean cX0_mean 5 (some .long) :: ((wsX0_mean_r1 ++ (wsX0_mean_r2 ++ wsX0_mean_r3)) ++ wsX00)
def wsX0_isCount : List Cond := .code yX0_isCount cX0_isCount 1 (some .boolean) :: ([])
def wsX0_farthest_r1 : List Cond := [Cond.methodLink RX0 133 Lib.MathLoose.abs_long.x, Cond.static Lib.MathLoose.abs_long.x, Cond.initialized "java/lang/Math", Cond.code Lib.MathLoose.abs_long.x Lib.MathLoose.abs_long.code 2 (some .long), Cond.methodLink RX0 111 yX0_meanMiddle, Cond.instanceMethod yX0_meanMiddle, Cond.selects RX0 yX0_meanMiddle yX0_meanMiddle, Cond.initialized RX0, Cond.code yX0_meanMiddle cX0_meanMiddle 5 (some .long), Cond.constantLong RX0 46 (-4611686018427387904), Cond.methodLink RX0 52 yX0_isIn, Cond.static yX0_isIn, Cond.code yX0_isIn cX0_isIn 2 (some .boolean), Cond.methodLink RX0 30 yX0_isSource, Cond.static yX0_isSource, Cond.code yX0_isSource cX0_isSource 1 (some .boolean), Cond.methodLink RX0 146 yX0_middle, Cond.instanceMethod yX0_middle, Cond.selects RX0 yX0_middle yX0_middle, Cond.code yX0_middle cX0_middle 2 (some .long), Cond.fieldLink RX0 9 "ClockDesk" "lows" "[J", Cond.fieldLink RX0 13 "ClockDesk" "highs" "[J", Cond.methodLink RX0 48 yX0_half, Cond.static yX0_half]
def wsX0_farthest_r2 : List Cond := [Cond.code yX0_half cX0_half 2 (some .long), Cond.constantLong RX0 138 (2), Cond.methodLink RX0 140 yJ9_floorDiv_f86c9, Cond.static yJ9_floorDiv_f86c9, Cond.initialized RJ9, Cond.code yJ9_floorDiv_f86c9 cJ9_floorDiv_f86c9 6 (some .long), Cond.methodLink RX0 60 yJ6_bitCount_0f7a4, Cond.static yJ6_bitCount_0f7a4, Cond.initialized RJ6, Cond.code yJ6_bitCount_0f7a4 cJ6_bitCount_0f7a4 1 (some .int), Cond.constant RJ6 265 (1431655765), Cond.constant RJ6 266 (858993459), Cond.constant RJ6 267 (252645135)]
def wsX0_farthest : List Cond := .code yX0_farthest cX0_farthest 8 (some .int) :: ((wsX0_farthest_r1 ++ wsX0_farthest_r2) ++ wsX00)
def wsX0_leftOf_r1 : List Cond := [Cond.fieldLink RX0 16 "ClockDesk" "held" "I", Cond.methodLink RX0 60 yJ6_bitCount_0f7a4, Cond.static yJ6_bitCount_0f7a4, Cond.initialized RJ6, Cond.code yJ6_bitCount_0f7a4 cJ6_bitCount_0f7a4 1 (some .int), Cond.constant RJ6 265 (1431655765), Cond.constant RJ6 266 (858993459), Cond.constant RJ6 267 (252645135), Cond.methodLink RX0 149 yX0_farthest, Cond.instanceMethod yX0_farthest, Cond.selects RX0 yX0_farthest yX0_farthest, Cond.initialized RX0, Cond.code yX0_farthest cX0_farthest 8 (some .int), Cond.methodLink RX0 133 Lib.MathLoose.abs_long.x, Cond.static Lib.MathLoose.abs_long.x, Cond.initialized "java/lang/Math", Cond.code Lib.MathLoose.abs_long.x Lib.MathLoose.abs_long.code 2 (some .long), Cond.methodLink RX0 111 yX0_meanMiddle, Cond.instanceMethod yX0_meanMiddle, Cond.selects RX0 yX0_meanMiddle yX0_meanMiddle, Cond.code yX0_meanMiddle cX0_meanMiddle 5 (some .long), Cond.constantLong RX0 46 (-4611686018427387904), Cond.methodLink RX0 52 yX0_isIn, Cond.static yX0_isIn]
def wsX0_leftOf_r2 : List Cond := [Cond.code yX0_isIn cX0_isIn 2 (some .boolean), Cond.methodLink RX0 30 yX0_isSource, Cond.static yX0_isSource, Cond.code yX0_isSource cX0_isSource 1 (some .boolean), Cond.methodLink RX0 146 yX0_middle, Cond.instanceMethod yX0_middle, Cond.selects RX0 yX0_middle yX0_middle, Cond.code yX0_middle cX0_middle 2 (some .long), Cond.fieldLink RX0 9 "ClockDesk" "lows" "[J", Cond.fieldLink RX0 13 "ClockDesk" "highs" "[J", Cond.methodLink RX0 48 yX0_half, Cond.static yX0_half, Cond.code yX0_half cX0_half 2 (some .long), Cond.constantLong RX0 138 (2), Cond.methodLink RX0 140 yJ9_floorDiv_f86c9, Cond.static yJ9_floorDiv_f86c9, Cond.initialized RJ9, Cond.code yJ9_floorDiv_f86c9 cJ9_floorDiv_f86c9 6 (some .long), Cond.methodLink RX0 56 yX0_without, Cond.static yX0_without, Cond.code yX0_without cX0_without 2 (some .int)]
def wsX0_leftOf : List Cond := .code yX0_leftOf cX0_leftOf 4 (some .int) :: ((wsX0_leftOf_r1 ++ wsX0_leftOf_r2) ++ wsX00)
def wsX0_survivors_r1 : List Cond := [Cond.methodLink RX0 114 yX0_isCount, Cond.static yX0_isCount, Cond.initialized RX0, Cond.code yX0_isCount cX0_isCount 1 (some .boolean), Cond.methodLink RX0 117 yX0_leftOf, Cond.instanceMethod yX0_leftOf, Cond.selects RX0 yX0_leftOf yX0_leftOf, Cond.code yX0_leftOf cX0_leftOf 4 (some .int), Cond.fieldLink RX0 16 "ClockDesk" "held" "I", Cond.methodLink RX0 60 yJ6_bitCount_0f7a4, Cond.static yJ6_bitCount_0f7a4, Cond.initialized RJ6, Cond.code yJ6_bitCount_0f7a4 cJ6_bitCount_0f7a4 1 (some .int), Cond.constant RJ6 265 (1431655765), Cond.constant RJ6 266 (858993459), Cond.constant RJ6 267 (252645135), Cond.methodLink RX0 149 yX0_farthest, Cond.instanceMethod yX0_farthest, Cond.selects RX0 yX0_farthest yX0_farthest, Cond.code yX0_farthest cX0_farthest 8 (some .int), Cond.methodLink RX0 133 Lib.MathLoose.abs_long.x, Cond.static Lib.MathLoose.abs_long.x, Cond.initialized "java/lang/Math", Cond.code Lib.MathLoose.abs_long.x Lib.MathLoose.abs_long.code 2 (some .long)]
def wsX0_survivors_r2 : List Cond := [Cond.methodLink RX0 111 yX0_meanMiddle, Cond.instanceMethod yX0_meanMiddle, Cond.selects RX0 yX0_meanMiddle yX0_meanMiddle, Cond.code yX0_meanMiddle cX0_meanMiddle 5 (some .long), Cond.constantLong RX0 46 (-4611686018427387904), Cond.methodLink RX0 52 yX0_isIn, Cond.static yX0_isIn, Cond.code yX0_isIn cX0_isIn 2 (some .boolean), Cond.methodLink RX0 30 yX0_isSource, Cond.static yX0_isSource, Cond.code yX0_isSource cX0_isSource 1 (some .boolean), Cond.methodLink RX0 146 yX0_middle, Cond.instanceMethod yX0_middle, Cond.selects RX0 yX0_middle yX0_middle, Cond.code yX0_middle cX0_middle 2 (some .long), Cond.fieldLink RX0 9 "ClockDesk" "lows" "[J", Cond.fieldLink RX0 13 "ClockDesk" "highs" "[J", Cond.methodLink RX0 48 yX0_half, Cond.static yX0_half, Cond.code yX0_half cX0_half 2 (some .long), Cond.constantLong RX0 138 (2), Cond.methodLink RX0 140 yJ9_floorDiv_f86c9, Cond.static yJ9_floorDiv_f86c9, Cond.initialized RJ9]
def wsX0_survivors_r3 : List Cond := [Cond.code yJ9_floorDiv_f86c9 cJ9_floorDiv_f86c9 6 (some .long), Cond.methodLink RX0 56 yX0_without, Cond.static yX0_without, Cond.code yX0_without cX0_without 2 (some .int)]
def wsX0_survivors : List Cond := .code yX0_survivors cX0_survivors 2 (some .int) :: ((wsX0_survivors_r1 ++ (wsX0_survivors_r2 ++ wsX0_survivors_r3)) ++ wsX00)
def wsX0_rank_r1 : List Cond := [Cond.methodLink RX0 114 yX0_isCount, Cond.static yX0_isCount, Cond.initialized RX0, Cond.code yX0_isCount cX0_isCount 1 (some .boolean), Cond.methodLink RX0 117 yX0_leftOf, Cond.instanceMethod yX0_leftOf, Cond.selects RX0 yX0_leftOf yX0_leftOf, Cond.code yX0_leftOf cX0_leftOf 4 (some .int), Cond.fieldLink RX0 16 "ClockDesk" "held" "I", Cond.methodLink RX0 60 yJ6_bitCount_0f7a4, Cond.static yJ6_bitCount_0f7a4, Cond.initialized RJ6, Cond.code yJ6_bitCount_0f7a4 cJ6_bitCount_0f7a4 1 (some .int), Cond.constant RJ6 265 (1431655765), Cond.constant RJ6 266 (858993459), Cond.constant RJ6 267 (252645135), Cond.methodLink RX0 149 yX0_farthest, Cond.instanceMethod yX0_farthest, Cond.selects RX0 yX0_farthest yX0_farthest, Cond.code yX0_farthest cX0_farthest 8 (some .int), Cond.methodLink RX0 133 Lib.MathLoose.abs_long.x, Cond.static Lib.MathLoose.abs_long.x, Cond.initialized "java/lang/Math", Cond.code Lib.MathLoose.abs_long.x Lib.MathLoose.abs_long.code 2 (some .long)]
def wsX0_rank_r2 : List Cond := [Cond.methodLink RX0 111 yX0_meanMiddle, Cond.instanceMethod yX0_meanMiddle, Cond.selects RX0 yX0_meanMiddle yX0_meanMiddle, Cond.code yX0_meanMiddle cX0_meanMiddle 5 (some .long), Cond.constantLong RX0 46 (-4611686018427387904), Cond.methodLink RX0 52 yX0_isIn, Cond.static yX0_isIn, Cond.code yX0_isIn cX0_isIn 2 (some .boolean), Cond.methodLink RX0 30 yX0_isSource, Cond.static yX0_isSource, Cond.code yX0_isSource cX0_isSource 1 (some .boolean), Cond.methodLink RX0 146 yX0_middle, Cond.instanceMethod yX0_middle, Cond.selects RX0 yX0_middle yX0_middle, Cond.code yX0_middle cX0_middle 2 (some .long), Cond.fieldLink RX0 9 "ClockDesk" "lows" "[J", Cond.fieldLink RX0 13 "ClockDesk" "highs" "[J", Cond.methodLink RX0 48 yX0_half, Cond.static yX0_half, Cond.code yX0_half cX0_half 2 (some .long), Cond.constantLong RX0 138 (2), Cond.methodLink RX0 140 yJ9_floorDiv_f86c9, Cond.static yJ9_floorDiv_f86c9, Cond.initialized RJ9]
def wsX0_rank_r3 : List Cond := [Cond.code yJ9_floorDiv_f86c9 cJ9_floorDiv_f86c9 6 (some .long), Cond.methodLink RX0 56 yX0_without, Cond.static yX0_without, Cond.code yX0_without cX0_without 2 (some .int), Cond.methodLink RX0 120 yX0_place, Cond.instanceMethod yX0_place, Cond.selects RX0 yX0_place yX0_place, Cond.code yX0_place cX0_place 7 (some .int)]
def wsX0_rank : List Cond := .code yX0_rank cX0_rank 4 (some .int) :: ((wsX0_rank_r1 ++ (wsX0_rank_r2 ++ wsX0_rank_r3)) ++ wsX00)
def wsX0_tick : List Cond := .code yX0_tick cX0_tick 5 (some .boolean) :: ([.fieldLink RX0 20 "ClockDesk" "ownTime" "J", .constantLong RX0 123 (144115188075855872), .constantLong RX0 125 (2000), .fieldLink RX0 24 "ClockDesk" "clockOffset" "J", .fieldLink RX0 27 "ClockDesk" "goal" "J", .methodLink RX0 127 Lib.MathLoose.min_long.x, .static Lib.MathLoose.min_long.x, .initialized "java/lang/Math", .code Lib.MathLoose.min_long.x Lib.MathLoose.min_long.code 4 (some .long), .methodLink RX0 131 Lib.MathLoose.max_long.x, .static Lib.MathLoose.max_long.x, .code Lib.MathLoose.max_long.x Lib.MathLoose.max_long.code 4 (some .long)] ++ wsX00)
def wsX0_steer_r1 : List Cond := [Cond.fieldLink RX0 27 "ClockDesk" "goal" "J", Cond.methodLink RX0 82 yX0_greatest, Cond.instanceMethod yX0_greatest, Cond.selects RX0 yX0_greatest yX0_greatest, Cond.initialized RX0, Cond.code yX0_greatest cX0_greatest 3 (some .int), Cond.fieldLink RX0 16 "ClockDesk" "held" "I", Cond.fieldLink RX0 9 "ClockDesk" "lows" "[J", Cond.methodLink RX0 74 Lib.Math.max.name, Cond.static Lib.Math.max.name, Cond.initialized "java/lang/Math", Cond.code Lib.Math.max.name Lib.Math.max.code 2 (some .int), Cond.methodLink RX0 52 yX0_isIn, Cond.static yX0_isIn, Cond.code yX0_isIn cX0_isIn 2 (some .boolean), Cond.methodLink RX0 30 yX0_isSource, Cond.static yX0_isSource, Cond.code yX0_isSource cX0_isSource 1 (some .boolean), Cond.methodLink RX0 70 yX0_covers, Cond.instanceMethod yX0_covers, Cond.selects RX0 yX0_covers yX0_covers, Cond.code yX0_covers cX0_covers 5 (some .int), Cond.methodLink RX0 66 yX0_isCoveredBy, Cond.instanceMethod yX0_isCoveredBy]
def wsX0_steer_r2 : List Cond := [Cond.selects RX0 yX0_isCoveredBy yX0_isCoveredBy, Cond.code yX0_isCoveredBy cX0_isCoveredBy 4 (some .boolean), Cond.fieldLink RX0 13 "ClockDesk" "highs" "[J", Cond.methodLink RX0 94 yX0_sources, Cond.instanceMethod yX0_sources, Cond.selects RX0 yX0_sources yX0_sources, Cond.code yX0_sources cX0_sources 1 (some .int), Cond.methodLink RX0 60 yJ6_bitCount_0f7a4, Cond.static yJ6_bitCount_0f7a4, Cond.initialized RJ6, Cond.code yJ6_bitCount_0f7a4 cJ6_bitCount_0f7a4 1 (some .int), Cond.constant RJ6 265 (1431655765), Cond.constant RJ6 266 (858993459), Cond.constant RJ6 267 (252645135), Cond.methodLink RX0 100 yX0_region, Cond.instanceMethod yX0_region, Cond.selects RX0 yX0_region yX0_region, Cond.code yX0_region cX0_region 5 (some .long), Cond.constantLong RX0 46 (-4611686018427387904), Cond.methodLink RX0 79 yX0_isZeroOrOne, Cond.static yX0_isZeroOrOne, Cond.code yX0_isZeroOrOne cX0_isZeroOrOne 1 (some .boolean), Cond.methodLink RX0 86 yX0_leastCoveredBy, Cond.instanceMethod yX0_leastCoveredBy]
def wsX0_steer_r3 : List Cond := [Cond.selects RX0 yX0_leastCoveredBy yX0_leastCoveredBy, Cond.code yX0_leastCoveredBy cX0_leastCoveredBy 5 (some .long), Cond.methodLink RX0 90 yX0_endOfRow, Cond.instanceMethod yX0_endOfRow, Cond.selects RX0 yX0_endOfRow yX0_endOfRow, Cond.code yX0_endOfRow cX0_endOfRow 7 (some .long), Cond.methodLink RX0 143 yX0_firstHighFrom, Cond.instanceMethod yX0_firstHighFrom, Cond.selects RX0 yX0_firstHighFrom yX0_firstHighFrom, Cond.code yX0_firstHighFrom cX0_firstHighFrom 6 (some .long), Cond.constantLong RX0 36 (288230376151711744), Cond.methodLink RX0 127 Lib.MathLoose.min_long.x, Cond.static Lib.MathLoose.min_long.x, Cond.code Lib.MathLoose.min_long.x Lib.MathLoose.min_long.code 4 (some .long), Cond.methodLink RX0 48 yX0_half, Cond.static yX0_half, Cond.code yX0_half cX0_half 2 (some .long), Cond.constantLong RX0 138 (2), Cond.methodLink RX0 140 yJ9_floorDiv_f86c9, Cond.static yJ9_floorDiv_f86c9, Cond.initialized RJ9, Cond.code yJ9_floorDiv_f86c9 cJ9_floorDiv_f86c9 6 (some .long)]
def wsX0_steer : List Cond := .code yX0_steer cX0_steer 1 (some .boolean) :: ((wsX0_steer_r1 ++ (wsX0_steer_r2 ++ wsX0_steer_r3)) ++ wsX00)
def wsX0_read : List Cond := .code yX0_read cX0_read 1 (some .long) :: ([.fieldLink RX0 20 "ClockDesk" "ownTime" "J", .fieldLink RX0 24 "ClockDesk" "clockOffset" "J"] ++ wsX00)
def wsX0_offset : List Cond := .code yX0_offset cX0_offset 2 (some .long) :: ([.constantLong RX0 46 (-4611686018427387904), .fieldLink RX0 24 "ClockDesk" "clockOffset" "J", .fieldLink RX0 27 "ClockDesk" "goal" "J", .methodLink RX0 79 yX0_isZeroOrOne, .static yX0_isZeroOrOne, .initialized RX0, .code yX0_isZeroOrOne cX0_isZeroOrOne 1 (some .boolean)] ++ wsX00)
def wsX0_settles : List Cond := .code yX0_settles cX0_settles 3 (some .long) :: ([.fieldLink RX0 27 "ClockDesk" "goal" "J", .fieldLink RX0 24 "ClockDesk" "clockOffset" "J", .methodLink RX0 133 Lib.MathLoose.abs_long.x, .static Lib.MathLoose.abs_long.x, .initialized "java/lang/Math", .code Lib.MathLoose.abs_long.x Lib.MathLoose.abs_long.code 2 (some .long), .constantLong RX0 136 (1099511627776), .constantLong RX0 46 (-4611686018427387904), .constantLong RX0 125 (2000)] ++ wsX00)
def wsX1_init : List Cond := .code yX1_init cX1_init 1 none :: ([.methodLink RX1 1 objectInit, .instanceMethod objectInit, .code objectInit ⟨#[0xb1]⟩ 1 none, .arrayClass .boolean, .fieldLink RX1 7 "ClockDeskModel" "is" "[Z", .arrayClass .long, .fieldLink RX1 13 "ClockDeskModel" "low" "[J", .fieldLink RX1 17 "ClockDeskModel" "high" "[J"] ++ wsX10)
def wsX1_isSource : List Cond := .code yX1_isSource cX1_isSource 1 (some .boolean) :: ([])
def wsX1_half : List Cond := .code yX1_half cX1_half 2 (some .long) :: ([])
def wsX1_over : List Cond := .code yX1_over cX1_over 6 (some .long) :: ([])
def wsX1_size : List Cond := .code yX1_size cX1_size 2 (some .long) :: ([])
def wsX1_interval : List Cond := .code yX1_interval cX1_interval 6 (some .boolean) :: ([.constantLong RX1 24 (-288230376151711744), .constantLong RX1 26 (288230376151711744), .fieldLink RX1 7 "ClockDeskModel" "is" "[Z", .fieldLink RX1 13 "ClockDeskModel" "low" "[J", .fieldLink RX1 17 "ClockDeskModel" "high" "[J", .methodLink RX1 20 yX1_isSource, .static yX1_isSource, .initialized RX1, .code yX1_isSource cX1_isSource 1 (some .boolean)] ++ wsX10)
def wsX1_exchange : List Cond := .code yX1_exchange cX1_exchange 8 (some .long) :: ([.constantLong RX1 28 (144115188075855872), .constantLong RX1 30 (-4611686018427387904), .fieldLink RX1 7 "ClockDeskModel" "is" "[Z", .fieldLink RX1 13 "ClockDeskModel" "low" "[J", .fieldLink RX1 17 "ClockDeskModel" "high" "[J", .methodLink RX1 20 yX1_isSource, .static yX1_isSource, .initialized RX1, .code yX1_isSource cX1_isSource 1 (some .boolean), .methodLink RX1 32 yX1_half, .static yX1_half, .code yX1_half cX1_half 2 (some .long)] ++ wsX10)
def wsX1_drop : List Cond := .code yX1_drop cX1_drop 2 (some .boolean) :: ([.fieldLink RX1 7 "ClockDeskModel" "is" "[Z", .methodLink RX1 20 yX1_isSource, .static yX1_isSource, .initialized RX1, .code yX1_isSource cX1_isSource 1 (some .boolean)] ++ wsX10)
def wsX1_sources : List Cond := .code yX1_sources cX1_sources 3 (some .int) :: ([.fieldLink RX1 7 "ClockDeskModel" "is" "[Z"] ++ wsX10)
def wsX1_covers : List Cond := .code yX1_covers cX1_covers 5 (some .int) :: ([.fieldLink RX1 7 "ClockDeskModel" "is" "[Z", .fieldLink RX1 13 "ClockDeskModel" "low" "[J", .fieldLink RX1 17 "ClockDeskModel" "high" "[J"] ++ wsX10)
def wsX1_greatest : List Cond := .code yX1_greatest cX1_greatest 4 (some .int) :: ([.fieldLink RX1 7 "ClockDeskModel" "is" "[Z", .fieldLink RX1 13 "ClockDeskModel" "low" "[J", .methodLink RX1 36 yX1_covers, .instanceMethod yX1_covers, .selects RX1 yX1_covers yX1_covers, .initialized RX1, .code yX1_covers cX1_covers 5 (some .int), .fieldLink RX1 17 "ClockDeskModel" "high" "[J"] ++ wsX10)
def wsX1_first : List Cond := .code yX1_first cX1_first 5 (some .long) :: ([.constantLong RX1 30 (-4611686018427387904), .fieldLink RX1 7 "ClockDeskModel" "is" "[Z", .fieldLink RX1 13 "ClockDeskModel" "low" "[J", .methodLink RX1 36 yX1_covers, .instanceMethod yX1_covers, .selects RX1 yX1_covers yX1_covers, .initialized RX1, .code yX1_covers cX1_covers 5 (some .int), .fieldLink RX1 17 "ClockDeskModel" "high" "[J"] ++ wsX10)
def wsX1_last : List Cond := .code yX1_last cX1_last 5 (some .long) :: ([.constantLong RX1 30 (-4611686018427387904), .fieldLink RX1 7 "ClockDeskModel" "is" "[Z", .fieldLink RX1 17 "ClockDeskModel" "high" "[J", .methodLink RX1 36 yX1_covers, .instanceMethod yX1_covers, .selects RX1 yX1_covers yX1_covers, .initialized RX1, .code yX1_covers cX1_covers 5 (some .int), .fieldLink RX1 13 "ClockDeskModel" "low" "[J"] ++ wsX10)
def wsX1_region : List Cond := .code yX1_region cX1_region 9 (some .long) :: ([.constantLong RX1 30 (-4611686018427387904), .constantLong RX1 26 (288230376151711744), .fieldLink RX1 7 "ClockDeskModel" "is" "[Z", .fieldLink RX1 13 "ClockDeskModel" "low" "[J", .fieldLink RX1 17 "ClockDeskModel" "high" "[J", .methodLink RX1 40 yX1_greatest, .instanceMethod yX1_greatest, .selects RX1 yX1_greatest yX1_greatest, .initialized RX1, .code yX1_greatest cX1_greatest 4 (some .int), .methodLink RX1 36 yX1_covers, .instanceMethod yX1_covers, .selects RX1 yX1_covers yX1_covers, .code yX1_covers cX1_covers 5 (some .int), .methodLink RX1 44 yX1_first, .instanceMethod yX1_first, .selects RX1 yX1_first yX1_first, .code yX1_first cX1_first 5 (some .long)] ++ wsX10)
def wsX1_hull : List Cond := .code yX1_hull cX1_hull 4 (some .long) :: ([.constantLong RX1 30 (-4611686018427387904), .methodLink RX1 48 yX1_sources, .instanceMethod yX1_sources, .selects RX1 yX1_sources yX1_sources, .initialized RX1, .code yX1_sources cX1_sources 3 (some .int), .fieldLink RX1 7 "ClockDeskModel" "is" "[Z", .methodLink RX1 44 yX1_first, .instanceMethod yX1_first, .selects RX1 yX1_first yX1_first, .code yX1_first cX1_first 5 (some .long), .fieldLink RX1 13 "ClockDeskModel" "low" "[J", .methodLink RX1 36 yX1_covers, .instanceMethod yX1_covers, .selects RX1 yX1_covers yX1_covers, .code yX1_covers cX1_covers 5 (some .int), .fieldLink RX1 17 "ClockDeskModel" "high" "[J", .methodLink RX1 51 yX1_last, .instanceMethod yX1_last, .selects RX1 yX1_last yX1_last, .code yX1_last cX1_last 5 (some .long)] ++ wsX10)
def wsX1_chosen_r1 : List Cond := [Cond.fieldLink RX1 7 "ClockDeskModel" "is" "[Z", Cond.fieldLink RX1 13 "ClockDeskModel" "low" "[J", Cond.fieldLink RX1 17 "ClockDeskModel" "high" "[J", Cond.methodLink RX1 20 yX1_isSource, Cond.static yX1_isSource, Cond.initialized RX1, Cond.code yX1_isSource cX1_isSource 1 (some .boolean), Cond.methodLink RX1 54 yX1_region, Cond.instanceMethod yX1_region, Cond.selects RX1 yX1_region yX1_region, Cond.code yX1_region cX1_region 9 (some .long), Cond.constantLong RX1 30 (-4611686018427387904), Cond.constantLong RX1 26 (288230376151711744), Cond.methodLink RX1 40 yX1_greatest, Cond.instanceMethod yX1_greatest, Cond.selects RX1 yX1_greatest yX1_greatest, Cond.code yX1_greatest cX1_greatest 4 (some .int), Cond.methodLink RX1 36 yX1_covers, Cond.instanceMethod yX1_covers, Cond.selects RX1 yX1_covers yX1_covers, Cond.code yX1_covers cX1_covers 5 (some .int), Cond.methodLink RX1 44 yX1_first, Cond.instanceMethod yX1_first, Cond.selects RX1 yX1_first yX1_first]
def wsX1_chosen_r2 : List Cond := [Cond.code yX1_first cX1_first 5 (some .long)]
def wsX1_chosen : List Cond := .code yX1_chosen cX1_chosen 2 (some .boolean) :: ((wsX1_chosen_r1 ++ wsX1_chosen_r2) ++ wsX10)
def wsX1_middle : List Cond := .code yX1_middle cX1_middle 2 (some .long) :: ([.fieldLink RX1 13 "ClockDeskModel" "low" "[J", .fieldLink RX1 17 "ClockDeskModel" "high" "[J", .methodLink RX1 32 yX1_half, .static yX1_half, .initialized RX1, .code yX1_half cX1_half 2 (some .long)] ++ wsX10)
def wsX1_median : List Cond := .code yX1_median cX1_median 5 (some .long) :: ([.fieldLink RX1 7 "ClockDeskModel" "is" "[Z", .constantLong RX1 30 (-4611686018427387904), .methodLink RX1 48 yX1_sources, .instanceMethod yX1_sources, .selects RX1 yX1_sources yX1_sources, .initialized RX1, .code yX1_sources cX1_sources 3 (some .int), .methodLink RX1 57 yX1_middle, .instanceMethod yX1_middle, .selects RX1 yX1_middle yX1_middle, .code yX1_middle cX1_middle 2 (some .long), .fieldLink RX1 13 "ClockDeskModel" "low" "[J", .fieldLink RX1 17 "ClockDeskModel" "high" "[J", .methodLink RX1 32 yX1_half, .static yX1_half, .code yX1_half cX1_half 2 (some .long)] ++ wsX10)
def wsX1_mean_r1 : List Cond := [Cond.constantLong RX1 30 (-4611686018427387904), Cond.fieldLink RX1 7 "ClockDeskModel" "is" "[Z", Cond.methodLink RX1 48 yX1_sources, Cond.instanceMethod yX1_sources, Cond.selects RX1 yX1_sources yX1_sources, Cond.initialized RX1, Cond.code yX1_sources cX1_sources 3 (some .int), Cond.methodLink RX1 60 yX1_median, Cond.instanceMethod yX1_median, Cond.selects RX1 yX1_median yX1_median, Cond.code yX1_median cX1_median 5 (some .long), Cond.methodLink RX1 57 yX1_middle, Cond.instanceMethod yX1_middle, Cond.selects RX1 yX1_middle yX1_middle, Cond.code yX1_middle cX1_middle 2 (some .long), Cond.fieldLink RX1 13 "ClockDeskModel" "low" "[J", Cond.fieldLink RX1 17 "ClockDeskModel" "high" "[J", Cond.methodLink RX1 32 yX1_half, Cond.static yX1_half, Cond.code yX1_half cX1_half 2 (some .long), Cond.methodLink RX1 64 yX1_size, Cond.static yX1_size, Cond.code yX1_size cX1_size 2 (some .long), Cond.methodLink RX1 67 yX1_over]
def wsX1_mean_r2 : List Cond := [Cond.static yX1_over, Cond.code yX1_over cX1_over 6 (some .long)]
def wsX1_mean : List Cond := .code yX1_mean cX1_mean 11 (some .long) :: ((wsX1_mean_r1 ++ wsX1_mean_r2) ++ wsX10)
def wsX1_survivors : List Cond := .code yX1_survivors cX1_survivors 10 (some .int) :: ([.fieldLink RX1 7 "ClockDeskModel" "is" "[Z", .methodLink RX1 57 yX1_middle, .instanceMethod yX1_middle, .selects RX1 yX1_middle yX1_middle, .initialized RX1, .code yX1_middle cX1_middle 2 (some .long), .fieldLink RX1 13 "ClockDeskModel" "low" "[J", .fieldLink RX1 17 "ClockDeskModel" "high" "[J", .methodLink RX1 32 yX1_half, .static yX1_half, .code yX1_half cX1_half 2 (some .long), .methodLink RX1 67 yX1_over, .static yX1_over, .code yX1_over cX1_over 6 (some .long), .methodLink RX1 64 yX1_size, .static yX1_size, .code yX1_size cX1_size 2 (some .long)] ++ wsX10)
def wsX1_rank : List Cond := .code yX1_rank cX1_rank 6 (some .int) :: ([.methodLink RX1 71 yX1_survivors, .instanceMethod yX1_survivors, .selects RX1 yX1_survivors yX1_survivors, .initialized RX1, .code yX1_survivors cX1_survivors 10 (some .int), .fieldLink RX1 7 "ClockDeskModel" "is" "[Z", .methodLink RX1 57 yX1_middle, .instanceMethod yX1_middle, .selects RX1 yX1_middle yX1_middle, .code yX1_middle cX1_middle 2 (some .long), .fieldLink RX1 13 "ClockDeskModel" "low" "[J", .fieldLink RX1 17 "ClockDeskModel" "high" "[J", .methodLink RX1 32 yX1_half, .static yX1_half, .code yX1_half cX1_half 2 (some .long), .methodLink RX1 67 yX1_over, .static yX1_over, .code yX1_over cX1_over 6 (some .long), .methodLink RX1 64 yX1_size, .static yX1_size, .code yX1_size cX1_size 2 (some .long), .methodLink RX1 20 yX1_isSource, .static yX1_isSource, .code yX1_isSource cX1_isSource 1 (some .boolean)] ++ wsX10)
def wsX1_tick : List Cond := .code yX1_tick cX1_tick 7 (some .boolean) :: ([.fieldLink RX1 75 "ClockDeskModel" "now" "J", .constantLong RX1 28 (144115188075855872), .constantLong RX1 79 (2000), .fieldLink RX1 81 "ClockDeskModel" "goal" "J", .fieldLink RX1 84 "ClockDeskModel" "offset" "J"] ++ wsX10)
def wsX1_steer_r1 : List Cond := [Cond.fieldLink RX1 81 "ClockDeskModel" "goal" "J", Cond.methodLink RX1 40 yX1_greatest, Cond.instanceMethod yX1_greatest, Cond.selects RX1 yX1_greatest yX1_greatest, Cond.initialized RX1, Cond.code yX1_greatest cX1_greatest 4 (some .int), Cond.fieldLink RX1 7 "ClockDeskModel" "is" "[Z", Cond.fieldLink RX1 13 "ClockDeskModel" "low" "[J", Cond.methodLink RX1 36 yX1_covers, Cond.instanceMethod yX1_covers, Cond.selects RX1 yX1_covers yX1_covers, Cond.code yX1_covers cX1_covers 5 (some .int), Cond.fieldLink RX1 17 "ClockDeskModel" "high" "[J", Cond.methodLink RX1 48 yX1_sources, Cond.instanceMethod yX1_sources, Cond.selects RX1 yX1_sources yX1_sources, Cond.code yX1_sources cX1_sources 3 (some .int), Cond.methodLink RX1 54 yX1_region, Cond.instanceMethod yX1_region, Cond.selects RX1 yX1_region yX1_region, Cond.code yX1_region cX1_region 9 (some .long), Cond.constantLong RX1 30 (-4611686018427387904), Cond.constantLong RX1 26 (288230376151711744), Cond.methodLink RX1 44 yX1_first]
def wsX1_steer_r2 : List Cond := [Cond.instanceMethod yX1_first, Cond.selects RX1 yX1_first yX1_first, Cond.code yX1_first cX1_first 5 (some .long), Cond.methodLink RX1 32 yX1_half, Cond.static yX1_half, Cond.code yX1_half cX1_half 2 (some .long)]
def wsX1_steer : List Cond := .code yX1_steer cX1_steer 1 (some .boolean) :: ((wsX1_steer_r1 ++ wsX1_steer_r2) ++ wsX10)
def wsX1_read : List Cond := .code yX1_read cX1_read 1 (some .long) :: ([.fieldLink RX1 75 "ClockDeskModel" "now" "J", .fieldLink RX1 84 "ClockDeskModel" "offset" "J"] ++ wsX10)
def wsX1_offset : List Cond := .code yX1_offset cX1_offset 2 (some .long) :: ([.fieldLink RX1 84 "ClockDeskModel" "offset" "J", .fieldLink RX1 81 "ClockDeskModel" "goal" "J", .constantLong RX1 30 (-4611686018427387904)] ++ wsX10)
def wsX1_settles : List Cond := .code yX1_settles cX1_settles 3 (some .long) :: ([.fieldLink RX1 81 "ClockDeskModel" "goal" "J", .fieldLink RX1 84 "ClockDeskModel" "offset" "J", .constantLong RX1 87 (1099511627776), .constantLong RX1 30 (-4611686018427387904), .constantLong RX1 79 (2000), .methodLink RX1 64 yX1_size, .static yX1_size, .initialized RX1, .code yX1_size cX1_size 2 (some .long)] ++ wsX10)
def wsJ9_abs_067f4 : List Cond := .code yJ9_abs_067f4 cJ9_abs_067f4 2 (some .long) :: ([])
def wsJ9_max_7cf53 : List Cond := .code yJ9_max_7cf53 cJ9_max_7cf53 2 (some .int) :: ([])
def wsJ9_max_f86c9 : List Cond := .code yJ9_max_f86c9 cJ9_max_f86c9 4 (some .long) :: ([])
def wsJ9_min_f86c9 : List Cond := .code yJ9_min_f86c9 cJ9_min_f86c9 4 (some .long) :: ([])
def wsL_law_r1 : List Cond := [Cond.classLink RL 7 RX0, Cond.instantiable RX0 6, Cond.initialized RX0, Cond.classLink RL 10 RX1, Cond.instantiable RX1 6, Cond.initialized RX1, Cond.constantLong RL 13 (4294967295), Cond.methodLink RL 9 yX0_init, Cond.instanceMethod yX0_init, Cond.code yX0_init cX0_init 1 none, Cond.methodLink RX0 1 objectInit, Cond.instanceMethod objectInit, Cond.code objectInit ⟨#[0xb1]⟩ 1 none, Cond.arrayClass .long, Cond.fieldLink RX0 9 "ClockDesk" "lows" "[J", Cond.fieldLink RX0 13 "ClockDesk" "highs" "[J", Cond.fieldLink RX0 16 "ClockDesk" "held" "I", Cond.fieldLink RX0 20 "ClockDesk" "ownTime" "J", Cond.fieldLink RX0 24 "ClockDesk" "clockOffset" "J", Cond.fieldLink RX0 27 "ClockDesk" "goal" "J", Cond.methodLink RL 12 yX1_init, Cond.instanceMethod yX1_init, Cond.code yX1_init cX1_init 1 none, Cond.methodLink RX1 1 objectInit]
def wsL_law_r2 : List Cond := [Cond.arrayClass .boolean, Cond.fieldLink RX1 7 "ClockDeskModel" "is" "[Z", Cond.fieldLink RX1 13 "ClockDeskModel" "low" "[J", Cond.fieldLink RX1 17 "ClockDeskModel" "high" "[J", Cond.methodLink RL 15 yX0_interval, Cond.instanceMethod yX0_interval, Cond.selects RX0 yX0_interval yX0_interval, Cond.code yX0_interval cX0_interval 6 (some .boolean), Cond.constantLong RX0 34 (-288230376151711744), Cond.constantLong RX0 36 (288230376151711744), Cond.methodLink RX0 30 yX0_isSource, Cond.static yX0_isSource, Cond.code yX0_isSource cX0_isSource 1 (some .boolean), Cond.methodLink RX0 38 yX0_hold, Cond.instanceMethod yX0_hold, Cond.selects RX0 yX0_hold yX0_hold, Cond.code yX0_hold cX0_hold 6 none, Cond.methodLink RL 19 yX1_interval, Cond.instanceMethod yX1_interval, Cond.selects RX1 yX1_interval yX1_interval, Cond.code yX1_interval cX1_interval 6 (some .boolean), Cond.constantLong RX1 24 (-288230376151711744), Cond.constantLong RX1 26 (288230376151711744), Cond.methodLink RX1 20 yX1_isSource]
def wsL_law_r3 : List Cond := [Cond.static yX1_isSource, Cond.code yX1_isSource cX1_isSource 1 (some .boolean), Cond.methodLink RL 20 yX0_exchange, Cond.instanceMethod yX0_exchange, Cond.selects RX0 yX0_exchange yX0_exchange, Cond.code yX0_exchange cX0_exchange 8 (some .long), Cond.constantLong RX0 46 (-4611686018427387904), Cond.methodLink RX0 42 yX0_isTime, Cond.static yX0_isTime, Cond.code yX0_isTime cX0_isTime 2 (some .boolean), Cond.constantLong RX0 123 (144115188075855872), Cond.methodLink RX0 48 yX0_half, Cond.static yX0_half, Cond.code yX0_half cX0_half 2 (some .long), Cond.constantLong RX0 138 (2), Cond.methodLink RX0 140 yJ9_floorDiv_f86c9, Cond.static yJ9_floorDiv_f86c9, Cond.initialized RJ9, Cond.code yJ9_floorDiv_f86c9 cJ9_floorDiv_f86c9 6 (some .long), Cond.methodLink RL 24 yX1_exchange, Cond.instanceMethod yX1_exchange, Cond.selects RX1 yX1_exchange yX1_exchange, Cond.code yX1_exchange cX1_exchange 8 (some .long), Cond.constantLong RX1 28 (144115188075855872)]
def wsL_law_r4 : List Cond := [Cond.constantLong RX1 30 (-4611686018427387904), Cond.methodLink RX1 32 yX1_half, Cond.static yX1_half, Cond.code yX1_half cX1_half 2 (some .long), Cond.methodLink RL 25 yX0_drop, Cond.instanceMethod yX0_drop, Cond.selects RX0 yX0_drop yX0_drop, Cond.code yX0_drop cX0_drop 2 (some .boolean), Cond.methodLink RX0 52 yX0_isIn, Cond.static yX0_isIn, Cond.code yX0_isIn cX0_isIn 2 (some .boolean), Cond.methodLink RX0 56 yX0_without, Cond.static yX0_without, Cond.code yX0_without cX0_without 2 (some .int), Cond.methodLink RL 29 yX1_drop, Cond.instanceMethod yX1_drop, Cond.selects RX1 yX1_drop yX1_drop, Cond.code yX1_drop cX1_drop 2 (some .boolean), Cond.methodLink RL 30 yX0_sources, Cond.instanceMethod yX0_sources, Cond.selects RX0 yX0_sources yX0_sources, Cond.code yX0_sources cX0_sources 1 (some .int), Cond.methodLink RX0 60 yJ6_bitCount_0f7a4, Cond.static yJ6_bitCount_0f7a4]
def wsL_law_r5 : List Cond := [Cond.initialized RJ6, Cond.code yJ6_bitCount_0f7a4 cJ6_bitCount_0f7a4 1 (some .int), Cond.constant RJ6 265 (1431655765), Cond.constant RJ6 266 (858993459), Cond.constant RJ6 267 (252645135), Cond.methodLink RL 34 yX1_sources, Cond.instanceMethod yX1_sources, Cond.selects RX1 yX1_sources yX1_sources, Cond.code yX1_sources cX1_sources 3 (some .int), Cond.methodLink RL 35 yX0_covers, Cond.instanceMethod yX0_covers, Cond.selects RX0 yX0_covers yX0_covers, Cond.code yX0_covers cX0_covers 5 (some .int), Cond.methodLink RX0 66 yX0_isCoveredBy, Cond.instanceMethod yX0_isCoveredBy, Cond.selects RX0 yX0_isCoveredBy yX0_isCoveredBy, Cond.code yX0_isCoveredBy cX0_isCoveredBy 4 (some .boolean), Cond.methodLink RL 39 yX1_covers, Cond.instanceMethod yX1_covers, Cond.selects RX1 yX1_covers yX1_covers, Cond.code yX1_covers cX1_covers 5 (some .int), Cond.methodLink RL 40 yX0_greatest, Cond.instanceMethod yX0_greatest, Cond.selects RX0 yX0_greatest yX0_greatest]
def wsL_law_r6 : List Cond := [Cond.code yX0_greatest cX0_greatest 3 (some .int), Cond.methodLink RX0 74 Lib.Math.max.name, Cond.static Lib.Math.max.name, Cond.initialized "java/lang/Math", Cond.code Lib.Math.max.name Lib.Math.max.code 2 (some .int), Cond.methodLink RX0 70 yX0_covers, Cond.methodLink RL 43 yX1_greatest, Cond.instanceMethod yX1_greatest, Cond.selects RX1 yX1_greatest yX1_greatest, Cond.code yX1_greatest cX1_greatest 4 (some .int), Cond.methodLink RX1 36 yX1_covers, Cond.methodLink RL 44 yX0_region, Cond.instanceMethod yX0_region, Cond.selects RX0 yX0_region yX0_region, Cond.code yX0_region cX0_region 5 (some .long), Cond.methodLink RX0 79 yX0_isZeroOrOne, Cond.static yX0_isZeroOrOne, Cond.code yX0_isZeroOrOne cX0_isZeroOrOne 1 (some .boolean), Cond.methodLink RX0 82 yX0_greatest, Cond.methodLink RX0 86 yX0_leastCoveredBy, Cond.instanceMethod yX0_leastCoveredBy, Cond.selects RX0 yX0_leastCoveredBy yX0_leastCoveredBy, Cond.code yX0_leastCoveredBy cX0_leastCoveredBy 5 (some .long), Cond.methodLink RX0 90 yX0_endOfRow]
def wsL_law_r7 : List Cond := [Cond.instanceMethod yX0_endOfRow, Cond.selects RX0 yX0_endOfRow yX0_endOfRow, Cond.code yX0_endOfRow cX0_endOfRow 7 (some .long), Cond.methodLink RX0 143 yX0_firstHighFrom, Cond.instanceMethod yX0_firstHighFrom, Cond.selects RX0 yX0_firstHighFrom yX0_firstHighFrom, Cond.code yX0_firstHighFrom cX0_firstHighFrom 6 (some .long), Cond.methodLink RX0 127 Lib.MathLoose.min_long.x, Cond.static Lib.MathLoose.min_long.x, Cond.code Lib.MathLoose.min_long.x Lib.MathLoose.min_long.code 4 (some .long), Cond.methodLink RL 48 yX1_region, Cond.instanceMethod yX1_region, Cond.selects RX1 yX1_region yX1_region, Cond.code yX1_region cX1_region 9 (some .long), Cond.methodLink RX1 40 yX1_greatest, Cond.methodLink RX1 44 yX1_first, Cond.instanceMethod yX1_first, Cond.selects RX1 yX1_first yX1_first, Cond.code yX1_first cX1_first 5 (some .long), Cond.methodLink RL 49 yX0_hull, Cond.instanceMethod yX0_hull, Cond.selects RX0 yX0_hull yX0_hull, Cond.code yX0_hull cX0_hull 4 (some .long), Cond.methodLink RX0 94 yX0_sources]
def wsL_law_r8 : List Cond := [Cond.methodLink RX0 97 yX0_greatestCoveredBy, Cond.instanceMethod yX0_greatestCoveredBy, Cond.selects RX0 yX0_greatestCoveredBy yX0_greatestCoveredBy, Cond.code yX0_greatestCoveredBy cX0_greatestCoveredBy 5 (some .long), Cond.methodLink RX0 131 Lib.MathLoose.max_long.x, Cond.static Lib.MathLoose.max_long.x, Cond.code Lib.MathLoose.max_long.x Lib.MathLoose.max_long.code 4 (some .long), Cond.methodLink RL 53 yX1_hull, Cond.instanceMethod yX1_hull, Cond.selects RX1 yX1_hull yX1_hull, Cond.code yX1_hull cX1_hull 4 (some .long), Cond.methodLink RX1 48 yX1_sources, Cond.methodLink RX1 51 yX1_last, Cond.instanceMethod yX1_last, Cond.selects RX1 yX1_last yX1_last, Cond.code yX1_last cX1_last 5 (some .long), Cond.methodLink RL 54 yX0_chosen, Cond.instanceMethod yX0_chosen, Cond.selects RX0 yX0_chosen yX0_chosen, Cond.code yX0_chosen cX0_chosen 2 (some .boolean), Cond.methodLink RX0 100 yX0_region, Cond.methodLink RL 57 yX1_chosen, Cond.instanceMethod yX1_chosen, Cond.selects RX1 yX1_chosen yX1_chosen]
def wsL_law_r9 : List Cond := [Cond.code yX1_chosen cX1_chosen 2 (some .boolean), Cond.methodLink RX1 54 yX1_region, Cond.methodLink RL 58 yX0_mean, Cond.instanceMethod yX0_mean, Cond.selects RX0 yX0_mean yX0_mean, Cond.code yX0_mean cX0_mean 5 (some .long), Cond.methodLink RX0 103 yX0_medianMiddle, Cond.instanceMethod yX0_medianMiddle, Cond.selects RX0 yX0_medianMiddle yX0_medianMiddle, Cond.code yX0_medianMiddle cX0_medianMiddle 3 (some .long), Cond.methodLink RX0 120 yX0_place, Cond.instanceMethod yX0_place, Cond.selects RX0 yX0_place yX0_place, Cond.code yX0_place cX0_place 7 (some .int), Cond.methodLink RX0 146 yX0_middle, Cond.instanceMethod yX0_middle, Cond.selects RX0 yX0_middle yX0_middle, Cond.code yX0_middle cX0_middle 2 (some .long), Cond.methodLink RX0 107 yX0_nearTo, Cond.instanceMethod yX0_nearTo, Cond.selects RX0 yX0_nearTo yX0_nearTo, Cond.code yX0_nearTo cX0_nearTo 7 (some .int), Cond.methodLink RX0 133 Lib.MathLoose.abs_long.x, Cond.static Lib.MathLoose.abs_long.x]
def wsL_law_r10 : List Cond := [Cond.code Lib.MathLoose.abs_long.x Lib.MathLoose.abs_long.code 2 (some .long), Cond.methodLink RX0 111 yX0_meanMiddle, Cond.instanceMethod yX0_meanMiddle, Cond.selects RX0 yX0_meanMiddle yX0_meanMiddle, Cond.code yX0_meanMiddle cX0_meanMiddle 5 (some .long), Cond.methodLink RL 62 yX1_mean, Cond.instanceMethod yX1_mean, Cond.selects RX1 yX1_mean yX1_mean, Cond.code yX1_mean cX1_mean 11 (some .long), Cond.methodLink RX1 60 yX1_median, Cond.instanceMethod yX1_median, Cond.selects RX1 yX1_median yX1_median, Cond.code yX1_median cX1_median 5 (some .long), Cond.methodLink RX1 57 yX1_middle, Cond.instanceMethod yX1_middle, Cond.selects RX1 yX1_middle yX1_middle, Cond.code yX1_middle cX1_middle 2 (some .long), Cond.methodLink RX1 64 yX1_size, Cond.static yX1_size, Cond.code yX1_size cX1_size 2 (some .long), Cond.methodLink RX1 67 yX1_over, Cond.static yX1_over, Cond.code yX1_over cX1_over 6 (some .long), Cond.methodLink RL 63 yX0_survivors]
def wsL_law_r11 : List Cond := [Cond.instanceMethod yX0_survivors, Cond.selects RX0 yX0_survivors yX0_survivors, Cond.code yX0_survivors cX0_survivors 2 (some .int), Cond.methodLink RX0 114 yX0_isCount, Cond.static yX0_isCount, Cond.code yX0_isCount cX0_isCount 1 (some .boolean), Cond.methodLink RX0 117 yX0_leftOf, Cond.instanceMethod yX0_leftOf, Cond.selects RX0 yX0_leftOf yX0_leftOf, Cond.code yX0_leftOf cX0_leftOf 4 (some .int), Cond.methodLink RX0 149 yX0_farthest, Cond.instanceMethod yX0_farthest, Cond.selects RX0 yX0_farthest yX0_farthest, Cond.code yX0_farthest cX0_farthest 8 (some .int), Cond.methodLink RL 67 yX1_survivors, Cond.instanceMethod yX1_survivors, Cond.selects RX1 yX1_survivors yX1_survivors, Cond.code yX1_survivors cX1_survivors 10 (some .int), Cond.methodLink RL 68 yX0_rank, Cond.instanceMethod yX0_rank, Cond.selects RX0 yX0_rank yX0_rank, Cond.code yX0_rank cX0_rank 4 (some .int), Cond.methodLink RL 72 yX1_rank, Cond.instanceMethod yX1_rank]
def wsL_law_r12 : List Cond := [Cond.selects RX1 yX1_rank yX1_rank, Cond.code yX1_rank cX1_rank 6 (some .int), Cond.methodLink RX1 71 yX1_survivors, Cond.methodLink RL 73 yX0_tick, Cond.instanceMethod yX0_tick, Cond.selects RX0 yX0_tick yX0_tick, Cond.code yX0_tick cX0_tick 5 (some .boolean), Cond.constantLong RX0 125 (2000), Cond.methodLink RL 77 yX1_tick, Cond.instanceMethod yX1_tick, Cond.selects RX1 yX1_tick yX1_tick, Cond.code yX1_tick cX1_tick 7 (some .boolean), Cond.fieldLink RX1 75 "ClockDeskModel" "now" "J", Cond.constantLong RX1 79 (2000), Cond.fieldLink RX1 81 "ClockDeskModel" "goal" "J", Cond.fieldLink RX1 84 "ClockDeskModel" "offset" "J", Cond.methodLink RL 78 yX0_steer, Cond.instanceMethod yX0_steer, Cond.selects RX0 yX0_steer yX0_steer, Cond.code yX0_steer cX0_steer 1 (some .boolean), Cond.methodLink RL 82 yX1_steer, Cond.instanceMethod yX1_steer, Cond.selects RX1 yX1_steer yX1_steer, Cond.code yX1_steer cX1_steer 1 (some .boolean)]
def wsL_law_r13 : List Cond := [Cond.methodLink RL 83 yX0_read, Cond.instanceMethod yX0_read, Cond.selects RX0 yX0_read yX0_read, Cond.code yX0_read cX0_read 1 (some .long), Cond.methodLink RL 87 yX1_read, Cond.instanceMethod yX1_read, Cond.selects RX1 yX1_read yX1_read, Cond.code yX1_read cX1_read 1 (some .long), Cond.methodLink RL 88 yX0_offset, Cond.instanceMethod yX0_offset, Cond.selects RX0 yX0_offset yX0_offset, Cond.code yX0_offset cX0_offset 2 (some .long), Cond.methodLink RL 91 yX1_offset, Cond.instanceMethod yX1_offset, Cond.selects RX1 yX1_offset yX1_offset, Cond.code yX1_offset cX1_offset 2 (some .long), Cond.methodLink RL 92 yX0_settles, Cond.instanceMethod yX0_settles, Cond.selects RX0 yX0_settles yX0_settles, Cond.code yX0_settles cX0_settles 3 (some .long), Cond.constantLong RX0 136 (1099511627776), Cond.methodLink RL 95 yX1_settles, Cond.instanceMethod yX1_settles, Cond.selects RX1 yX1_settles yX1_settles]
def wsL_law_r14 : List Cond := [Cond.code yX1_settles cX1_settles 3 (some .long), Cond.constantLong RX1 87 (1099511627776)]
def wsL_law : List Cond := (wsL_law_r1 ++ (wsL_law_r2 ++ (wsL_law_r3 ++ (wsL_law_r4 ++ (wsL_law_r5 ++ (wsL_law_r6 ++ (wsL_law_r7 ++ (wsL_law_r8 ++ (wsL_law_r9 ++ (wsL_law_r10 ++ (wsL_law_r11 ++ (wsL_law_r12 ++ (wsL_law_r13 ++ wsL_law_r14))))))))))))) ++ wsX00 ++ wsX10 ++ ([] : List Cond)
set_option maxRecDepth 20000 in
theorem wsL_law_in : ∀ w ∈ wsL_law, w ∈ lw_tbl := fun w h => (goodIn_p wsL_law [26, 29, 227, 53, 56, 62, 252, 255, 66, 69, 74, 78, 261, 266, 82, 85, 88, 270, 92, 95, 274, 102, 106, 278, 110, 114, 282, 118, 121, 126, 130, 134, 137, 287, 292, 141, 146, 149, 296, 301, 153, 305, 158, 162, 166, 170, 174, 177, 181, 310, 314, 318, 321, 324, 185, 188, 192, 196, 328, 200, 332, 204, 337, 209, 342, 213, 346, 217, 350, 221, 354] (by decide +kernel) (by decide +kernel) w h).1
theorem inlX0 : ∀ w ∈ wsX00, w ∈ wsL_law := fun _ h => List.mem_append_left _ (List.mem_append_left _ (List.mem_append_right _ h))
theorem inX0 : ∀ w ∈ wsX00, w ∈ lw_tbl := fun w h => wsL_law_in w (inlX0 w h)
theorem inlX1 : ∀ w ∈ wsX10, w ∈ wsL_law := fun _ h => List.mem_append_left _ (List.mem_append_right _ h)
theorem inX1 : ∀ w ∈ wsX10, w ∈ lw_tbl := fun w h => wsL_law_in w (inlX1 w h)
theorem inJ6 : ∀ w ∈ wsJ60, w ∈ lw_tbl := by decide +kernel
theorem inJ9 : ∀ w ∈ wsJ90, w ∈ lw_tbl := by decide +kernel
set_option maxRecDepth 20000 in
theorem ggX0_interval_X0_isSource : GoodIn wsX0_interval wsX0_isSource := goodIn_r _ [6] (by decide +kernel) (by decide +kernel)
set_option maxRecDepth 20000 in
theorem gX0_interval_X0_isSource : GoodIn wsX0_interval (va_wsS RX0 30 yX0_isSource wsX0_isSource) := goodIn_app (goodIn_of _ (by decide +kernel)) ggX0_interval_X0_isSource
set_option maxRecDepth 20000 in
theorem ggX0_interval_X0_hold : GoodIn wsX0_interval wsX0_hold := goodIn_r _ [10, 11, 12, 13, 14, 15, 16, 17, 18, 19] (by decide +kernel) (by decide +kernel)
set_option maxRecDepth 20000 in
theorem gX0_interval_X0_hold : GoodIn wsX0_interval (wsV RX0 38 RX0 yX0_hold wsX0_hold) := goodIn_app (goodIn_of _ (by decide +kernel)) ggX0_interval_X0_hold
set_option maxRecDepth 20000 in
theorem ggX0_exchange_X0_isSource : GoodIn wsX0_exchange wsX0_isSource := goodIn_r _ [5] (by decide +kernel) (by decide +kernel)
set_option maxRecDepth 20000 in
theorem gX0_exchange_X0_isSource : GoodIn wsX0_exchange (va_wsS RX0 30 yX0_isSource wsX0_isSource) := goodIn_app (goodIn_of _ (by decide +kernel)) ggX0_exchange_X0_isSource
set_option maxRecDepth 20000 in
theorem ggX0_exchange_X0_isTime : GoodIn wsX0_exchange wsX0_isTime := goodIn_r _ [8, 9] (by decide +kernel) (by decide +kernel)
set_option maxRecDepth 20000 in
theorem gX0_exchange_X0_isTime : GoodIn wsX0_exchange (va_wsS RX0 42 yX0_isTime wsX0_isTime) := goodIn_app (goodIn_of _ (by decide +kernel)) ggX0_exchange_X0_isTime
set_option maxRecDepth 20000 in
theorem ggX0_exchange_X0_hold : GoodIn wsX0_exchange wsX0_hold := goodIn_r _ [13, 14, 15, 16, 25, 26, 27, 28, 29, 30] (by decide +kernel) (by decide +kernel)
set_option maxRecDepth 20000 in
theorem gX0_exchange_X0_hold : GoodIn wsX0_exchange (wsV RX0 38 RX0 yX0_hold wsX0_hold) := goodIn_app (goodIn_of _ (by decide +kernel)) ggX0_exchange_X0_hold
set_option maxRecDepth 20000 in
theorem ggX0_exchange_X0_half : GoodIn wsX0_exchange wsX0_half := goodIn_r _ [19, 20, 21, 22, 23, 24] (by decide +kernel) (by decide +kernel)
set_option maxRecDepth 20000 in
theorem gX0_exchange_X0_half : GoodIn wsX0_exchange (va_wsS RX0 48 yX0_half wsX0_half) := goodIn_app (goodIn_of _ (by decide +kernel)) ggX0_exchange_X0_half
set_option maxRecDepth 20000 in
theorem ggX0_drop_X0_isIn : GoodIn wsX0_drop wsX0_isIn := goodIn_r _ [5, 6, 7, 4, 8] (by decide +kernel) (by decide +kernel)
set_option maxRecDepth 20000 in
theorem gX0_drop_X0_isIn : GoodIn wsX0_drop (va_wsS RX0 52 yX0_isIn wsX0_isIn) := goodIn_app (goodIn_of _ (by decide +kernel)) ggX0_drop_X0_isIn
set_option maxRecDepth 20000 in
theorem ggX0_drop_X0_without : GoodIn wsX0_drop wsX0_without := goodIn_r _ [11] (by decide +kernel) (by decide +kernel)
set_option maxRecDepth 20000 in
theorem gX0_drop_X0_without : GoodIn wsX0_drop (va_wsS RX0 56 yX0_without wsX0_without) := goodIn_app (goodIn_of _ (by decide +kernel)) ggX0_drop_X0_without
set_option maxRecDepth 20000 in
theorem ggX0_sources_J6_bitCount_0f7a4 : GoodIn wsX0_sources wsJ6_bitCount_0f7a4 := goodIn_r _ [5, 6, 7, 8] (by decide +kernel) (by decide +kernel)
set_option maxRecDepth 20000 in
theorem gX0_sources_J6_bitCount_0f7a4 : GoodIn wsX0_sources (va_wsS RX0 60 yJ6_bitCount_0f7a4 wsJ6_bitCount_0f7a4) := goodIn_app (goodIn_of _ (by decide +kernel)) ggX0_sources_J6_bitCount_0f7a4
set_option maxRecDepth 20000 in
theorem ggX0_covers_X0_isCoveredBy : GoodIn wsX0_covers wsX0_isCoveredBy := goodIn_r _ [5, 6, 7, 8, 9, 10, 4, 11, 12, 13, 14, 15, 16, 17, 18, 19, 20] (by decide +kernel) (by decide +kernel)
set_option maxRecDepth 20000 in
theorem gX0_covers_X0_isCoveredBy : GoodIn wsX0_covers (wsV RX0 66 RX0 yX0_isCoveredBy wsX0_isCoveredBy) := goodIn_app (goodIn_of _ (by decide +kernel)) ggX0_covers_X0_isCoveredBy
set_option maxRecDepth 20000 in
theorem ggX0_greatest_X0_isIn : GoodIn wsX0_greatest wsX0_isIn := goodIn_r _ [10, 11, 12, 9, 13] (by decide +kernel) (by decide +kernel)
set_option maxRecDepth 20000 in
theorem gX0_greatest_X0_isIn : GoodIn wsX0_greatest (va_wsS RX0 52 yX0_isIn wsX0_isIn) := goodIn_app (goodIn_of _ (by decide +kernel)) ggX0_greatest_X0_isIn
set_option maxRecDepth 20000 in
theorem ggX0_greatest_X0_covers : GoodIn wsX0_greatest wsX0_covers := goodIn_r _ [17, 18, 19, 20, 9, 21, 1, 2, 22, 7, 8, 10, 11, 12, 13, 23, 24, 25, 26, 27, 28] (by decide +kernel) (by decide +kernel)
set_option maxRecDepth 20000 in
theorem gX0_greatest_X0_covers : GoodIn wsX0_greatest (wsV RX0 70 RX0 yX0_covers wsX0_covers) := goodIn_app (goodIn_of _ (by decide +kernel)) ggX0_greatest_X0_covers
set_option maxRecDepth 20000 in
theorem ggX0_region_X0_isZeroOrOne : GoodIn wsX0_region wsX0_isZeroOrOne := goodIn_r _ [6] (by decide +kernel) (by decide +kernel)
set_option maxRecDepth 20000 in
theorem gX0_region_X0_isZeroOrOne : GoodIn wsX0_region (va_wsS RX0 79 yX0_isZeroOrOne wsX0_isZeroOrOne) := goodIn_app (goodIn_of _ (by decide +kernel)) ggX0_region_X0_isZeroOrOne
set_option maxRecDepth 20000 in
theorem ggX0_region_X0_greatest : GoodIn wsX0_region wsX0_greatest := goodIn_r _ [10, 1, 11, 12, 13, 14, 15, 16, 17, 5, 18, 19, 20, 21, 22, 23, 24, 25, 26, 27, 28, 29, 30, 47, 48, 49, 50, 51, 52] (by decide +kernel) (by decide +kernel)
set_option maxRecDepth 20000 in
theorem gX0_region_X0_greatest : GoodIn wsX0_region (wsV RX0 82 RX0 yX0_greatest wsX0_greatest) := goodIn_app (goodIn_of _ (by decide +kernel)) ggX0_region_X0_greatest
set_option maxRecDepth 20000 in
theorem ggX0_region_X0_leastCoveredBy : GoodIn wsX0_region wsX0_leastCoveredBy := goodIn_r _ [34, 2, 1, 11, 16, 17, 5, 18, 19, 20, 21, 22, 23, 24, 25, 26, 27, 28, 29, 30, 47, 48, 49, 50, 51, 52] (by decide +kernel) (by decide +kernel)
set_option maxRecDepth 20000 in
theorem gX0_region_X0_leastCoveredBy : GoodIn wsX0_region (wsV RX0 86 RX0 yX0_leastCoveredBy wsX0_leastCoveredBy) := goodIn_app (goodIn_of _ (by decide +kernel)) ggX0_region_X0_leastCoveredBy
set_option maxRecDepth 20000 in
theorem ggX0_region_X0_endOfRow : GoodIn wsX0_region wsX0_endOfRow := goodIn_r _ [38, 39, 40, 41, 5, 42, 43, 30, 44, 45, 14, 46, 26, 27, 28, 29, 1, 11, 16, 17, 18, 19, 20, 21, 22, 23, 24, 25, 47, 48, 49, 50, 51, 52] (by decide +kernel) (by decide +kernel)
set_option maxRecDepth 20000 in
theorem gX0_region_X0_endOfRow : GoodIn wsX0_region (wsV RX0 90 RX0 yX0_endOfRow wsX0_endOfRow) := goodIn_app (goodIn_of _ (by decide +kernel)) ggX0_region_X0_endOfRow
set_option maxRecDepth 20000 in
theorem ggX0_hull_X0_sources : GoodIn wsX0_hull wsX0_sources := goodIn_r _ [6, 7, 8, 9, 10, 11, 12, 13, 14, 46, 47, 48, 49, 50, 51] (by decide +kernel) (by decide +kernel)
set_option maxRecDepth 20000 in
theorem gX0_hull_X0_sources : GoodIn wsX0_hull (wsV RX0 94 RX0 yX0_sources wsX0_sources) := goodIn_app (goodIn_of _ (by decide +kernel)) ggX0_hull_X0_sources
set_option maxRecDepth 20000 in
theorem ggX0_hull_X0_isZeroOrOne : GoodIn wsX0_hull wsX0_isZeroOrOne := goodIn_r _ [17] (by decide +kernel) (by decide +kernel)
set_option maxRecDepth 20000 in
theorem gX0_hull_X0_isZeroOrOne : GoodIn wsX0_hull (va_wsS RX0 79 yX0_isZeroOrOne wsX0_isZeroOrOne) := goodIn_app (goodIn_of _ (by decide +kernel)) ggX0_hull_X0_isZeroOrOne
set_option maxRecDepth 20000 in
theorem ggX0_hull_X0_leastCoveredBy : GoodIn wsX0_hull wsX0_leastCoveredBy := goodIn_r _ [21, 1, 7, 22, 23, 24, 5, 25, 26, 27, 28, 29, 30, 31, 32, 33, 34, 35, 36, 37, 46, 47, 48, 49, 50, 51] (by decide +kernel) (by decide +kernel)
set_option maxRecDepth 20000 in
theorem gX0_hull_X0_leastCoveredBy : GoodIn wsX0_hull (wsV RX0 86 RX0 yX0_leastCoveredBy wsX0_leastCoveredBy) := goodIn_app (goodIn_of _ (by decide +kernel)) ggX0_hull_X0_leastCoveredBy
set_option maxRecDepth 20000 in
theorem ggX0_hull_X0_greatestCoveredBy : GoodIn wsX0_hull wsX0_greatestCoveredBy := goodIn_r _ [41, 1, 7, 37, 42, 43, 44, 45, 23, 24, 5, 25, 26, 27, 28, 29, 30, 31, 32, 33, 34, 35, 36, 22, 46, 47, 48, 49, 50, 51] (by decide +kernel) (by decide +kernel)
set_option maxRecDepth 20000 in
theorem gX0_hull_X0_greatestCoveredBy : GoodIn wsX0_hull (wsV RX0 97 RX0 yX0_greatestCoveredBy wsX0_greatestCoveredBy) := goodIn_app (goodIn_of _ (by decide +kernel)) ggX0_hull_X0_greatestCoveredBy
set_option maxRecDepth 20000 in
theorem ggX0_chosen_X0_isIn : GoodIn wsX0_chosen wsX0_isIn := goodIn_r _ [7, 8, 9, 6, 10] (by decide +kernel) (by decide +kernel)
set_option maxRecDepth 20000 in
theorem gX0_chosen_X0_isIn : GoodIn wsX0_chosen (va_wsS RX0 52 yX0_isIn wsX0_isIn) := goodIn_app (goodIn_of _ (by decide +kernel)) ggX0_chosen_X0_isIn
set_option maxRecDepth 20000 in
theorem ggX0_chosen_X0_region : GoodIn wsX0_chosen wsX0_region := goodIn_r _ [14, 1, 15, 16, 17, 6, 18, 19, 20, 21, 22, 2, 23, 24, 25, 26, 4, 5, 7, 8, 9, 10, 27, 28, 29, 30, 31, 32, 33, 34, 3, 35, 36, 37, 38, 39, 40, 41, 42, 43, 44, 45, 46, 47, 48, 49, 50, 51, 52, 53, 54, 55, 56] (by decide +kernel) (by decide +kernel)
set_option maxRecDepth 20000 in
theorem gX0_chosen_X0_region : GoodIn wsX0_chosen (wsV RX0 100 RX0 yX0_region wsX0_region) := goodIn_app (goodIn_of _ (by decide +kernel)) ggX0_chosen_X0_region
set_option maxRecDepth 20000 in
theorem ggX0_mean_X0_isZeroOrOne : GoodIn wsX0_mean wsX0_isZeroOrOne := goodIn_r _ [6] (by decide +kernel) (by decide +kernel)
set_option maxRecDepth 20000 in
theorem gX0_mean_X0_isZeroOrOne : GoodIn wsX0_mean (va_wsS RX0 79 yX0_isZeroOrOne wsX0_isZeroOrOne) := goodIn_app (goodIn_of _ (by decide +kernel)) ggX0_mean_X0_isZeroOrOne
set_option maxRecDepth 20000 in
theorem ggX0_mean_X0_medianMiddle : GoodIn wsX0_mean wsX0_medianMiddle := goodIn_r _ [10, 1, 2, 11, 12, 13, 5, 14, 15, 16, 17, 18, 19, 20, 21, 22, 23, 24, 25, 26, 27, 28, 29, 30, 31, 32, 33, 34, 35, 36, 37, 38, 39, 40, 41, 42, 43, 44, 45, 61, 62, 63, 64, 65, 66] (by decide +kernel) (by decide +kernel)
set_option maxRecDepth 20000 in
theorem gX0_mean_X0_medianMiddle : GoodIn wsX0_mean (wsV RX0 103 RX0 yX0_medianMiddle wsX0_medianMiddle) := goodIn_app (goodIn_of _ (by decide +kernel)) ggX0_mean_X0_medianMiddle
set_option maxRecDepth 20000 in
theorem ggX0_mean_X0_nearTo : GoodIn wsX0_mean wsX0_nearTo := goodIn_r _ [49, 1, 50, 51, 52, 53, 22, 23, 5, 24, 25, 26, 27, 32, 33, 34, 35, 36, 37, 38, 39, 40, 41, 42, 43, 44, 45, 54, 55, 56, 61, 62, 63, 64, 65, 66] (by decide +kernel) (by decide +kernel)
set_option maxRecDepth 20000 in
theorem gX0_mean_X0_nearTo : GoodIn wsX0_mean (wsV RX0 107 RX0 yX0_nearTo wsX0_nearTo) := goodIn_app (goodIn_of _ (by decide +kernel)) ggX0_mean_X0_nearTo
set_option maxRecDepth 20000 in
theorem ggX0_mean_X0_meanMiddle : GoodIn wsX0_mean wsX0_meanMiddle := goodIn_r _ [60, 2, 22, 23, 5, 24, 25, 26, 27, 32, 33, 34, 35, 36, 37, 38, 39, 40, 41, 42, 43, 44, 45, 15, 16, 17, 18, 19, 20, 21, 61, 62, 63, 64, 65, 66] (by decide +kernel) (by decide +kernel)
set_option maxRecDepth 20000 in
theorem gX0_mean_X0_meanMiddle : GoodIn wsX0_mean (wsV RX0 111 RX0 yX0_meanMiddle wsX0_meanMiddle) := goodIn_app (goodIn_of _ (by decide +kernel)) ggX0_mean_X0_meanMiddle
set_option maxRecDepth 20000 in
theorem ggX0_mean_J6_bitCount_0f7a4 : GoodIn wsX0_mean wsJ6_bitCount_0f7a4 := goodIn_r _ [18, 19, 20, 21] (by decide +kernel) (by decide +kernel)
set_option maxRecDepth 20000 in
theorem gX0_mean_J6_bitCount_0f7a4 : GoodIn wsX0_mean (va_wsS RX0 60 yJ6_bitCount_0f7a4 wsJ6_bitCount_0f7a4) := goodIn_app (goodIn_of _ (by decide +kernel)) ggX0_mean_J6_bitCount_0f7a4
set_option maxRecDepth 20000 in
theorem ggX0_survivors_X0_isCount : GoodIn wsX0_survivors wsX0_isCount := goodIn_r _ [4] (by decide +kernel) (by decide +kernel)
set_option maxRecDepth 20000 in
theorem gX0_survivors_X0_isCount : GoodIn wsX0_survivors (va_wsS RX0 114 yX0_isCount wsX0_isCount) := goodIn_app (goodIn_of _ (by decide +kernel)) ggX0_survivors_X0_isCount
set_option maxRecDepth 20000 in
theorem ggX0_survivors_X0_leftOf : GoodIn wsX0_survivors wsX0_leftOf := goodIn_r _ [8, 9, 10, 11, 12, 13, 14, 15, 16, 17, 18, 19, 3, 20, 21, 22, 23, 24, 25, 26, 27, 28, 29, 30, 31, 32, 33, 34, 35, 36, 37, 38, 39, 40, 41, 42, 43, 44, 45, 46, 47, 48, 49, 50, 51, 52, 53, 54, 55, 56, 57, 58] (by decide +kernel) (by decide +kernel)
set_option maxRecDepth 20000 in
theorem gX0_survivors_X0_leftOf : GoodIn wsX0_survivors (wsV RX0 117 RX0 yX0_leftOf wsX0_leftOf) := goodIn_app (goodIn_of _ (by decide +kernel)) ggX0_survivors_X0_leftOf
set_option maxRecDepth 20000 in
theorem ggX0_rank_X0_isCount : GoodIn wsX0_rank wsX0_isCount := goodIn_r _ [4] (by decide +kernel) (by decide +kernel)
set_option maxRecDepth 20000 in
theorem gX0_rank_X0_isCount : GoodIn wsX0_rank (va_wsS RX0 114 yX0_isCount wsX0_isCount) := goodIn_app (goodIn_of _ (by decide +kernel)) ggX0_rank_X0_isCount
set_option maxRecDepth 20000 in
theorem ggX0_rank_X0_leftOf : GoodIn wsX0_rank wsX0_leftOf := goodIn_r _ [8, 9, 10, 11, 12, 13, 14, 15, 16, 17, 18, 19, 3, 20, 21, 22, 23, 24, 25, 26, 27, 28, 29, 30, 31, 32, 33, 34, 35, 36, 37, 38, 39, 40, 41, 42, 43, 44, 45, 46, 47, 48, 49, 50, 51, 52, 57, 58, 59, 60, 61, 62] (by decide +kernel) (by decide +kernel)
set_option maxRecDepth 20000 in
theorem gX0_rank_X0_leftOf : GoodIn wsX0_rank (wsV RX0 117 RX0 yX0_leftOf wsX0_leftOf) := goodIn_app (goodIn_of _ (by decide +kernel)) ggX0_rank_X0_leftOf
set_option maxRecDepth 20000 in
theorem ggX0_rank_X0_isIn : GoodIn wsX0_rank wsX0_isIn := goodIn_r _ [32, 33, 34, 3, 35] (by decide +kernel) (by decide +kernel)
set_option maxRecDepth 20000 in
theorem gX0_rank_X0_isIn : GoodIn wsX0_rank (va_wsS RX0 52 yX0_isIn wsX0_isIn) := goodIn_app (goodIn_of _ (by decide +kernel)) ggX0_rank_X0_isIn
set_option maxRecDepth 20000 in
theorem ggX0_rank_X0_place : GoodIn wsX0_rank wsX0_place := goodIn_r _ [56, 36, 37, 38, 3, 39, 40, 41, 42, 43, 44, 45, 46, 47, 48, 49, 30, 31, 32, 33, 34, 35, 57, 58, 59, 60, 61, 62] (by decide +kernel) (by decide +kernel)
set_option maxRecDepth 20000 in
theorem gX0_rank_X0_place : GoodIn wsX0_rank (wsV RX0 120 RX0 yX0_place wsX0_place) := goodIn_app (goodIn_of _ (by decide +kernel)) ggX0_rank_X0_place
set_option maxRecDepth 20000 in
theorem ggX0_steer_X0_greatest : GoodIn wsX0_steer wsX0_greatest := goodIn_r _ [6, 7, 8, 9, 10, 11, 12, 13, 14, 5, 15, 16, 17, 18, 19, 20, 21, 22, 23, 24, 25, 26, 27, 71, 72, 73, 74, 75, 76] (by decide +kernel) (by decide +kernel)
set_option maxRecDepth 20000 in
theorem gX0_steer_X0_greatest : GoodIn wsX0_steer (wsV RX0 82 RX0 yX0_greatest wsX0_greatest) := goodIn_app (goodIn_of _ (by decide +kernel)) ggX0_steer_X0_greatest
set_option maxRecDepth 20000 in
theorem ggX0_steer_X0_sources : GoodIn wsX0_steer wsX0_sources := goodIn_r _ [31, 7, 32, 33, 34, 35, 36, 37, 38, 71, 72, 73, 74, 75, 76] (by decide +kernel) (by decide +kernel)
set_option maxRecDepth 20000 in
theorem gX0_steer_X0_sources : GoodIn wsX0_steer (wsV RX0 94 RX0 yX0_sources wsX0_sources) := goodIn_app (goodIn_of _ (by decide +kernel)) ggX0_steer_X0_sources
set_option maxRecDepth 20000 in
theorem ggX0_steer_X0_region : GoodIn wsX0_steer wsX0_region := goodIn_r _ [42, 7, 43, 44, 45, 5, 46, 2, 3, 4, 6, 8, 9, 10, 11, 12, 13, 14, 15, 16, 17, 18, 19, 20, 21, 22, 23, 24, 25, 26, 27, 47, 48, 49, 50, 51, 52, 53, 54, 55, 56, 57, 58, 59, 60, 61, 62, 71, 72, 73, 74, 75, 76] (by decide +kernel) (by decide +kernel)
set_option maxRecDepth 20000 in
theorem gX0_steer_X0_region : GoodIn wsX0_steer (wsV RX0 100 RX0 yX0_region wsX0_region) := goodIn_app (goodIn_of _ (by decide +kernel)) ggX0_steer_X0_region
set_option maxRecDepth 20000 in
theorem ggX0_steer_X0_half : GoodIn wsX0_steer wsX0_half := goodIn_r _ [65, 66, 67, 68, 69, 70] (by decide +kernel) (by decide +kernel)
set_option maxRecDepth 20000 in
theorem gX0_steer_X0_half : GoodIn wsX0_steer (va_wsS RX0 48 yX0_half wsX0_half) := goodIn_app (goodIn_of _ (by decide +kernel)) ggX0_steer_X0_half
set_option maxRecDepth 20000 in
theorem ggX0_offset_X0_isZeroOrOne : GoodIn wsX0_offset wsX0_isZeroOrOne := goodIn_r _ [7] (by decide +kernel) (by decide +kernel)
set_option maxRecDepth 20000 in
theorem gX0_offset_X0_isZeroOrOne : GoodIn wsX0_offset (va_wsS RX0 79 yX0_isZeroOrOne wsX0_isZeroOrOne) := goodIn_app (goodIn_of _ (by decide +kernel)) ggX0_offset_X0_isZeroOrOne
set_option maxRecDepth 20000 in
theorem ggX0_half_J9_floorDiv_f86c9 : GoodIn wsX0_half wsJ9_floorDiv_f86c9 := goodIn_r _ [5] (by decide +kernel) (by decide +kernel)
set_option maxRecDepth 20000 in
theorem gX0_half_J9_floorDiv_f86c9 : GoodIn wsX0_half (va_wsS RX0 140 yJ9_floorDiv_f86c9 wsJ9_floorDiv_f86c9) := goodIn_app (goodIn_of _ (by decide +kernel)) ggX0_half_J9_floorDiv_f86c9
set_option maxRecDepth 20000 in
theorem ggX0_isIn_X0_isSource : GoodIn wsX0_isIn wsX0_isSource := goodIn_r _ [4] (by decide +kernel) (by decide +kernel)
set_option maxRecDepth 20000 in
theorem gX0_isIn_X0_isSource : GoodIn wsX0_isIn (va_wsS RX0 30 yX0_isSource wsX0_isSource) := goodIn_app (goodIn_of _ (by decide +kernel)) ggX0_isIn_X0_isSource
set_option maxRecDepth 20000 in
theorem ggX0_isCoveredBy_X0_isIn : GoodIn wsX0_isCoveredBy wsX0_isIn := goodIn_r _ [7, 8, 9, 6, 10] (by decide +kernel) (by decide +kernel)
set_option maxRecDepth 20000 in
theorem gX0_isCoveredBy_X0_isIn : GoodIn wsX0_isCoveredBy (va_wsS RX0 52 yX0_isIn wsX0_isIn) := goodIn_app (goodIn_of _ (by decide +kernel)) ggX0_isCoveredBy_X0_isIn
set_option maxRecDepth 20000 in
theorem ggX0_leastCoveredBy_X0_isIn : GoodIn wsX0_leastCoveredBy wsX0_isIn := goodIn_r _ [7, 8, 9, 6, 10] (by decide +kernel) (by decide +kernel)
set_option maxRecDepth 20000 in
theorem gX0_leastCoveredBy_X0_isIn : GoodIn wsX0_leastCoveredBy (va_wsS RX0 52 yX0_isIn wsX0_isIn) := goodIn_app (goodIn_of _ (by decide +kernel)) ggX0_leastCoveredBy_X0_isIn
set_option maxRecDepth 20000 in
theorem ggX0_leastCoveredBy_X0_covers : GoodIn wsX0_leastCoveredBy wsX0_covers := goodIn_r _ [14, 15, 16, 17, 6, 18, 2, 3, 19, 4, 5, 7, 8, 9, 10, 20, 21, 22, 23, 24, 25] (by decide +kernel) (by decide +kernel)
set_option maxRecDepth 20000 in
theorem gX0_leastCoveredBy_X0_covers : GoodIn wsX0_leastCoveredBy (wsV RX0 70 RX0 yX0_covers wsX0_covers) := goodIn_app (goodIn_of _ (by decide +kernel)) ggX0_leastCoveredBy_X0_covers
set_option maxRecDepth 20000 in
theorem ggX0_greatestCoveredBy_X0_isIn : GoodIn wsX0_greatestCoveredBy wsX0_isIn := goodIn_r _ [11, 12, 13, 10, 14] (by decide +kernel) (by decide +kernel)
set_option maxRecDepth 20000 in
theorem gX0_greatestCoveredBy_X0_isIn : GoodIn wsX0_greatestCoveredBy (va_wsS RX0 52 yX0_isIn wsX0_isIn) := goodIn_app (goodIn_of _ (by decide +kernel)) ggX0_greatestCoveredBy_X0_isIn
set_option maxRecDepth 20000 in
theorem ggX0_greatestCoveredBy_X0_covers : GoodIn wsX0_greatestCoveredBy wsX0_covers := goodIn_r _ [18, 19, 20, 21, 10, 22, 2, 23, 3, 8, 9, 11, 12, 13, 14, 24, 25, 26, 27, 28, 29] (by decide +kernel) (by decide +kernel)
set_option maxRecDepth 20000 in
theorem gX0_greatestCoveredBy_X0_covers : GoodIn wsX0_greatestCoveredBy (wsV RX0 70 RX0 yX0_covers wsX0_covers) := goodIn_app (goodIn_of _ (by decide +kernel)) ggX0_greatestCoveredBy_X0_covers
set_option maxRecDepth 20000 in
theorem ggX0_endOfRow_X0_firstHighFrom : GoodIn wsX0_endOfRow wsX0_firstHighFrom := goodIn_r _ [5, 6, 7, 8, 9, 10, 11, 12, 13, 14, 4, 15, 16, 17, 18, 19, 20, 21, 22, 23, 28, 29, 30, 31, 32, 33] (by decide +kernel) (by decide +kernel)
set_option maxRecDepth 20000 in
theorem gX0_endOfRow_X0_firstHighFrom : GoodIn wsX0_endOfRow (wsV RX0 143 RX0 yX0_firstHighFrom wsX0_firstHighFrom) := goodIn_app (goodIn_of _ (by decide +kernel)) ggX0_endOfRow_X0_firstHighFrom
set_option maxRecDepth 20000 in
theorem ggX0_endOfRow_X0_covers : GoodIn wsX0_endOfRow wsX0_covers := goodIn_r _ [27, 12, 13, 14, 4, 15, 16, 17, 7, 18, 19, 20, 21, 22, 23, 28, 29, 30, 31, 32, 33] (by decide +kernel) (by decide +kernel)
set_option maxRecDepth 20000 in
theorem gX0_endOfRow_X0_covers : GoodIn wsX0_endOfRow (wsV RX0 70 RX0 yX0_covers wsX0_covers) := goodIn_app (goodIn_of _ (by decide +kernel)) ggX0_endOfRow_X0_covers
set_option maxRecDepth 20000 in
theorem ggX0_firstHighFrom_X0_isCoveredBy : GoodIn wsX0_firstHighFrom wsX0_isCoveredBy := goodIn_r _ [11, 12, 13, 2, 14, 15, 10, 16, 17, 18, 19, 20, 21, 22, 23, 24, 25] (by decide +kernel) (by decide +kernel)
set_option maxRecDepth 20000 in
theorem gX0_firstHighFrom_X0_isCoveredBy : GoodIn wsX0_firstHighFrom (wsV RX0 66 RX0 yX0_isCoveredBy wsX0_isCoveredBy) := goodIn_app (goodIn_of _ (by decide +kernel)) ggX0_firstHighFrom_X0_isCoveredBy
set_option maxRecDepth 20000 in
theorem ggX0_middle_X0_half : GoodIn wsX0_middle wsX0_half := goodIn_r _ [6, 7, 8, 9, 10, 11] (by decide +kernel) (by decide +kernel)
set_option maxRecDepth 20000 in
theorem gX0_middle_X0_half : GoodIn wsX0_middle (va_wsS RX0 48 yX0_half wsX0_half) := goodIn_app (goodIn_of _ (by decide +kernel)) ggX0_middle_X0_half
set_option maxRecDepth 20000 in
theorem ggX0_medianMiddle_X0_sources : GoodIn wsX0_medianMiddle wsX0_sources := goodIn_r _ [7, 1, 8, 9, 10, 11, 12, 13, 14, 39, 40, 41, 42, 43, 44] (by decide +kernel) (by decide +kernel)
set_option maxRecDepth 20000 in
theorem gX0_medianMiddle_X0_sources : GoodIn wsX0_medianMiddle (wsV RX0 94 RX0 yX0_sources wsX0_sources) := goodIn_app (goodIn_of _ (by decide +kernel)) ggX0_medianMiddle_X0_sources
set_option maxRecDepth 20000 in
theorem ggX0_medianMiddle_X0_isIn : GoodIn wsX0_medianMiddle wsX0_isIn := goodIn_r _ [17, 18, 19, 6, 20] (by decide +kernel) (by decide +kernel)
set_option maxRecDepth 20000 in
theorem gX0_medianMiddle_X0_isIn : GoodIn wsX0_medianMiddle (va_wsS RX0 52 yX0_isIn wsX0_isIn) := goodIn_app (goodIn_of _ (by decide +kernel)) ggX0_medianMiddle_X0_isIn
set_option maxRecDepth 20000 in
theorem ggX0_medianMiddle_X0_place : GoodIn wsX0_medianMiddle wsX0_place := goodIn_r _ [24, 25, 26, 27, 6, 28, 29, 30, 31, 32, 33, 34, 35, 36, 37, 38, 15, 16, 17, 18, 19, 20, 39, 40, 41, 42, 43, 44] (by decide +kernel) (by decide +kernel)
set_option maxRecDepth 20000 in
theorem gX0_medianMiddle_X0_place : GoodIn wsX0_medianMiddle (wsV RX0 120 RX0 yX0_place wsX0_place) := goodIn_app (goodIn_of _ (by decide +kernel)) ggX0_medianMiddle_X0_place
set_option maxRecDepth 20000 in
theorem ggX0_medianMiddle_X0_middle : GoodIn wsX0_medianMiddle wsX0_middle := goodIn_r _ [28, 29, 30, 31, 32, 6, 33, 34, 35, 36, 37, 38, 39, 40, 41, 42, 43, 44] (by decide +kernel) (by decide +kernel)
set_option maxRecDepth 20000 in
theorem gX0_medianMiddle_X0_middle : GoodIn wsX0_medianMiddle (wsV RX0 146 RX0 yX0_middle wsX0_middle) := goodIn_app (goodIn_of _ (by decide +kernel)) ggX0_medianMiddle_X0_middle
set_option maxRecDepth 20000 in
theorem ggX0_place_X0_middle : GoodIn wsX0_place wsX0_middle := goodIn_r _ [5, 6, 7, 8, 9, 4, 10, 11, 12, 13, 14, 15, 22, 23, 24, 25, 26, 27] (by decide +kernel) (by decide +kernel)
set_option maxRecDepth 20000 in
theorem gX0_place_X0_middle : GoodIn wsX0_place (wsV RX0 146 RX0 yX0_middle wsX0_middle) := goodIn_app (goodIn_of _ (by decide +kernel)) ggX0_place_X0_middle
set_option maxRecDepth 20000 in
theorem ggX0_place_X0_isIn : GoodIn wsX0_place wsX0_isIn := goodIn_r _ [18, 19, 20, 4, 21] (by decide +kernel) (by decide +kernel)
set_option maxRecDepth 20000 in
theorem gX0_place_X0_isIn : GoodIn wsX0_place (va_wsS RX0 52 yX0_isIn wsX0_isIn) := goodIn_app (goodIn_of _ (by decide +kernel)) ggX0_place_X0_isIn
set_option maxRecDepth 20000 in
theorem ggX0_nearTo_X0_isIn : GoodIn wsX0_nearTo wsX0_isIn := goodIn_r _ [9, 10, 11, 8, 12] (by decide +kernel) (by decide +kernel)
set_option maxRecDepth 20000 in
theorem gX0_nearTo_X0_isIn : GoodIn wsX0_nearTo (va_wsS RX0 52 yX0_isIn wsX0_isIn) := goodIn_app (goodIn_of _ (by decide +kernel)) ggX0_nearTo_X0_isIn
set_option maxRecDepth 20000 in
theorem ggX0_nearTo_X0_middle : GoodIn wsX0_nearTo wsX0_middle := goodIn_r _ [16, 17, 18, 19, 20, 8, 21, 22, 23, 24, 25, 26, 30, 31, 32, 33, 34, 35] (by decide +kernel) (by decide +kernel)
set_option maxRecDepth 20000 in
theorem gX0_nearTo_X0_middle : GoodIn wsX0_nearTo (wsV RX0 146 RX0 yX0_middle wsX0_middle) := goodIn_app (goodIn_of _ (by decide +kernel)) ggX0_nearTo_X0_middle
set_option maxRecDepth 20000 in
theorem ggX0_nearTo_X0_without : GoodIn wsX0_nearTo wsX0_without := goodIn_r _ [29] (by decide +kernel) (by decide +kernel)
set_option maxRecDepth 20000 in
theorem gX0_nearTo_X0_without : GoodIn wsX0_nearTo (va_wsS RX0 56 yX0_without wsX0_without) := goodIn_app (goodIn_of _ (by decide +kernel)) ggX0_nearTo_X0_without
set_option maxRecDepth 20000 in
theorem ggX0_meanMiddle_X0_isIn : GoodIn wsX0_meanMiddle wsX0_isIn := goodIn_r _ [5, 6, 7, 4, 8] (by decide +kernel) (by decide +kernel)
set_option maxRecDepth 20000 in
theorem gX0_meanMiddle_X0_isIn : GoodIn wsX0_meanMiddle (va_wsS RX0 52 yX0_isIn wsX0_isIn) := goodIn_app (goodIn_of _ (by decide +kernel)) ggX0_meanMiddle_X0_isIn
set_option maxRecDepth 20000 in
theorem ggX0_meanMiddle_X0_middle : GoodIn wsX0_meanMiddle wsX0_middle := goodIn_r _ [12, 13, 14, 15, 16, 4, 17, 18, 19, 20, 21, 22, 30, 31, 32, 33, 34, 35] (by decide +kernel) (by decide +kernel)
set_option maxRecDepth 20000 in
theorem gX0_meanMiddle_X0_middle : GoodIn wsX0_meanMiddle (wsV RX0 146 RX0 yX0_middle wsX0_middle) := goodIn_app (goodIn_of _ (by decide +kernel)) ggX0_meanMiddle_X0_middle
set_option maxRecDepth 20000 in
theorem ggX0_meanMiddle_J6_bitCount_0f7a4 : GoodIn wsX0_meanMiddle wsJ6_bitCount_0f7a4 := goodIn_r _ [26, 27, 28, 29] (by decide +kernel) (by decide +kernel)
set_option maxRecDepth 20000 in
theorem gX0_meanMiddle_J6_bitCount_0f7a4 : GoodIn wsX0_meanMiddle (va_wsS RX0 60 yJ6_bitCount_0f7a4 wsJ6_bitCount_0f7a4) := goodIn_app (goodIn_of _ (by decide +kernel)) ggX0_meanMiddle_J6_bitCount_0f7a4
set_option maxRecDepth 20000 in
theorem ggX0_meanMiddle_J9_floorDiv_f86c9 : GoodIn wsX0_meanMiddle wsJ9_floorDiv_f86c9 := goodIn_r _ [22] (by decide +kernel) (by decide +kernel)
set_option maxRecDepth 20000 in
theorem gX0_meanMiddle_J9_floorDiv_f86c9 : GoodIn wsX0_meanMiddle (va_wsS RX0 140 yJ9_floorDiv_f86c9 wsJ9_floorDiv_f86c9) := goodIn_app (goodIn_of _ (by decide +kernel)) ggX0_meanMiddle_J9_floorDiv_f86c9
set_option maxRecDepth 20000 in
theorem ggX0_leftOf_J6_bitCount_0f7a4 : GoodIn wsX0_leftOf wsJ6_bitCount_0f7a4 := goodIn_r _ [5, 6, 7, 8] (by decide +kernel) (by decide +kernel)
set_option maxRecDepth 20000 in
theorem gX0_leftOf_J6_bitCount_0f7a4 : GoodIn wsX0_leftOf (va_wsS RX0 60 yJ6_bitCount_0f7a4 wsJ6_bitCount_0f7a4) := goodIn_app (goodIn_of _ (by decide +kernel)) ggX0_leftOf_J6_bitCount_0f7a4
set_option maxRecDepth 20000 in
theorem ggX0_leftOf_X0_farthest : GoodIn wsX0_leftOf wsX0_farthest := goodIn_r _ [13, 14, 15, 16, 17, 18, 19, 20, 12, 21, 22, 23, 24, 25, 26, 27, 28, 29, 30, 31, 32, 33, 34, 35, 36, 37, 38, 39, 40, 41, 42, 2, 3, 4, 5, 6, 7, 8, 46, 47, 48, 49, 50, 51] (by decide +kernel) (by decide +kernel)
set_option maxRecDepth 20000 in
theorem gX0_leftOf_X0_farthest : GoodIn wsX0_leftOf (wsV RX0 149 RX0 yX0_farthest wsX0_farthest) := goodIn_app (goodIn_of _ (by decide +kernel)) ggX0_leftOf_X0_farthest
set_option maxRecDepth 20000 in
theorem ggX0_leftOf_X0_without : GoodIn wsX0_leftOf wsX0_without := goodIn_r _ [45] (by decide +kernel) (by decide +kernel)
set_option maxRecDepth 20000 in
theorem gX0_leftOf_X0_without : GoodIn wsX0_leftOf (va_wsS RX0 56 yX0_without wsX0_without) := goodIn_app (goodIn_of _ (by decide +kernel)) ggX0_leftOf_X0_without
set_option maxRecDepth 20000 in
theorem ggX0_farthest_X0_meanMiddle : GoodIn wsX0_farthest wsX0_meanMiddle := goodIn_r _ [9, 10, 11, 12, 8, 13, 14, 15, 16, 17, 18, 19, 20, 21, 22, 23, 24, 25, 26, 27, 28, 29, 30, 31, 32, 33, 34, 35, 36, 37, 38, 39, 40, 41, 42, 43] (by decide +kernel) (by decide +kernel)
set_option maxRecDepth 20000 in
theorem gX0_farthest_X0_meanMiddle : GoodIn wsX0_farthest (wsV RX0 111 RX0 yX0_meanMiddle wsX0_meanMiddle) := goodIn_app (goodIn_of _ (by decide +kernel)) ggX0_farthest_X0_meanMiddle
set_option maxRecDepth 20000 in
theorem ggX0_farthest_X0_isIn : GoodIn wsX0_farthest wsX0_isIn := goodIn_r _ [13, 14, 15, 8, 16] (by decide +kernel) (by decide +kernel)
set_option maxRecDepth 20000 in
theorem gX0_farthest_X0_isIn : GoodIn wsX0_farthest (va_wsS RX0 52 yX0_isIn wsX0_isIn) := goodIn_app (goodIn_of _ (by decide +kernel)) ggX0_farthest_X0_isIn
set_option maxRecDepth 20000 in
theorem ggX0_farthest_X0_middle : GoodIn wsX0_farthest wsX0_middle := goodIn_r _ [20, 21, 22, 23, 24, 8, 25, 26, 27, 28, 29, 30, 38, 39, 40, 41, 42, 43] (by decide +kernel) (by decide +kernel)
set_option maxRecDepth 20000 in
theorem gX0_farthest_X0_middle : GoodIn wsX0_farthest (wsV RX0 146 RX0 yX0_middle wsX0_middle) := goodIn_app (goodIn_of _ (by decide +kernel)) ggX0_farthest_X0_middle
set_option maxRecDepth 20000 in
theorem ggX1_interval_X1_isSource : GoodIn wsX1_interval wsX1_isSource := goodIn_r _ [9] (by decide +kernel) (by decide +kernel)
set_option maxRecDepth 20000 in
theorem gX1_interval_X1_isSource : GoodIn wsX1_interval (va_wsS RX1 20 yX1_isSource wsX1_isSource) := goodIn_app (goodIn_of _ (by decide +kernel)) ggX1_interval_X1_isSource
set_option maxRecDepth 20000 in
theorem ggX1_exchange_X1_isSource : GoodIn wsX1_exchange wsX1_isSource := goodIn_r _ [9] (by decide +kernel) (by decide +kernel)
set_option maxRecDepth 20000 in
theorem gX1_exchange_X1_isSource : GoodIn wsX1_exchange (va_wsS RX1 20 yX1_isSource wsX1_isSource) := goodIn_app (goodIn_of _ (by decide +kernel)) ggX1_exchange_X1_isSource
set_option maxRecDepth 20000 in
theorem ggX1_exchange_X1_half : GoodIn wsX1_exchange wsX1_half := goodIn_r _ [12] (by decide +kernel) (by decide +kernel)
set_option maxRecDepth 20000 in
theorem gX1_exchange_X1_half : GoodIn wsX1_exchange (va_wsS RX1 32 yX1_half wsX1_half) := goodIn_app (goodIn_of _ (by decide +kernel)) ggX1_exchange_X1_half
set_option maxRecDepth 20000 in
theorem ggX1_drop_X1_isSource : GoodIn wsX1_drop wsX1_isSource := goodIn_r _ [5] (by decide +kernel) (by decide +kernel)
set_option maxRecDepth 20000 in
theorem gX1_drop_X1_isSource : GoodIn wsX1_drop (va_wsS RX1 20 yX1_isSource wsX1_isSource) := goodIn_app (goodIn_of _ (by decide +kernel)) ggX1_drop_X1_isSource
set_option maxRecDepth 20000 in
theorem ggX1_greatest_X1_covers : GoodIn wsX1_greatest wsX1_covers := goodIn_r _ [7, 1, 2, 8, 9, 10, 11, 12, 13, 14] (by decide +kernel) (by decide +kernel)
set_option maxRecDepth 20000 in
theorem gX1_greatest_X1_covers : GoodIn wsX1_greatest (wsV RX1 36 RX1 yX1_covers wsX1_covers) := goodIn_app (goodIn_of _ (by decide +kernel)) ggX1_greatest_X1_covers
set_option maxRecDepth 20000 in
theorem ggX1_first_X1_covers : GoodIn wsX1_first wsX1_covers := goodIn_r _ [8, 2, 3, 9, 10, 11, 12, 13, 14, 15] (by decide +kernel) (by decide +kernel)
set_option maxRecDepth 20000 in
theorem gX1_first_X1_covers : GoodIn wsX1_first (wsV RX1 36 RX1 yX1_covers wsX1_covers) := goodIn_app (goodIn_of _ (by decide +kernel)) ggX1_first_X1_covers
set_option maxRecDepth 20000 in
theorem ggX1_last_X1_covers : GoodIn wsX1_last wsX1_covers := goodIn_r _ [8, 2, 9, 3, 10, 11, 12, 13, 14, 15] (by decide +kernel) (by decide +kernel)
set_option maxRecDepth 20000 in
theorem gX1_last_X1_covers : GoodIn wsX1_last (wsV RX1 36 RX1 yX1_covers wsX1_covers) := goodIn_app (goodIn_of _ (by decide +kernel)) ggX1_last_X1_covers
set_option maxRecDepth 20000 in
theorem ggX1_region_X1_greatest : GoodIn wsX1_region wsX1_greatest := goodIn_r _ [10, 3, 4, 11, 12, 13, 9, 14, 5, 19, 20, 21, 22, 23, 24] (by decide +kernel) (by decide +kernel)
set_option maxRecDepth 20000 in
theorem gX1_region_X1_greatest : GoodIn wsX1_region (wsV RX1 40 RX1 yX1_greatest wsX1_greatest) := goodIn_app (goodIn_of _ (by decide +kernel)) ggX1_region_X1_greatest
set_option maxRecDepth 20000 in
theorem ggX1_region_X1_first : GoodIn wsX1_region wsX1_first := goodIn_r _ [18, 1, 3, 4, 11, 12, 13, 9, 14, 5, 19, 20, 21, 22, 23, 24] (by decide +kernel) (by decide +kernel)
set_option maxRecDepth 20000 in
theorem gX1_region_X1_first : GoodIn wsX1_region (wsV RX1 44 RX1 yX1_first wsX1_first) := goodIn_app (goodIn_of _ (by decide +kernel)) ggX1_region_X1_first
set_option maxRecDepth 20000 in
theorem ggX1_region_X1_covers : GoodIn wsX1_region wsX1_covers := goodIn_r _ [14, 3, 4, 5, 19, 20, 21, 22, 23, 24] (by decide +kernel) (by decide +kernel)
set_option maxRecDepth 20000 in
theorem gX1_region_X1_covers : GoodIn wsX1_region (wsV RX1 36 RX1 yX1_covers wsX1_covers) := goodIn_app (goodIn_of _ (by decide +kernel)) ggX1_region_X1_covers
set_option maxRecDepth 20000 in
theorem ggX1_hull_X1_sources : GoodIn wsX1_hull wsX1_sources := goodIn_r _ [6, 7, 22, 23, 24, 25, 26, 27] (by decide +kernel) (by decide +kernel)
set_option maxRecDepth 20000 in
theorem gX1_hull_X1_sources : GoodIn wsX1_hull (wsV RX1 48 RX1 yX1_sources wsX1_sources) := goodIn_app (goodIn_of _ (by decide +kernel)) ggX1_hull_X1_sources
set_option maxRecDepth 20000 in
theorem ggX1_hull_X1_first : GoodIn wsX1_hull wsX1_first := goodIn_r _ [11, 1, 7, 12, 13, 14, 15, 5, 16, 17, 22, 23, 24, 25, 26, 27] (by decide +kernel) (by decide +kernel)
set_option maxRecDepth 20000 in
theorem gX1_hull_X1_first : GoodIn wsX1_hull (wsV RX1 44 RX1 yX1_first wsX1_first) := goodIn_app (goodIn_of _ (by decide +kernel)) ggX1_hull_X1_first
set_option maxRecDepth 20000 in
theorem ggX1_hull_X1_last : GoodIn wsX1_hull wsX1_last := goodIn_r _ [21, 1, 7, 17, 13, 14, 15, 5, 16, 12, 22, 23, 24, 25, 26, 27] (by decide +kernel) (by decide +kernel)
set_option maxRecDepth 20000 in
theorem gX1_hull_X1_last : GoodIn wsX1_hull (wsV RX1 51 RX1 yX1_last wsX1_last) := goodIn_app (goodIn_of _ (by decide +kernel)) ggX1_hull_X1_last
set_option maxRecDepth 20000 in
theorem ggX1_chosen_X1_isSource : GoodIn wsX1_chosen wsX1_isSource := goodIn_r _ [7] (by decide +kernel) (by decide +kernel)
set_option maxRecDepth 20000 in
theorem gX1_chosen_X1_isSource : GoodIn wsX1_chosen (va_wsS RX1 20 yX1_isSource wsX1_isSource) := goodIn_app (goodIn_of _ (by decide +kernel)) ggX1_chosen_X1_isSource
set_option maxRecDepth 20000 in
theorem ggX1_chosen_X1_region : GoodIn wsX1_chosen wsX1_region := goodIn_r _ [11, 12, 13, 1, 2, 3, 14, 15, 16, 6, 17, 18, 19, 20, 21, 22, 23, 24, 25, 26, 27, 28, 29, 30, 31] (by decide +kernel) (by decide +kernel)
set_option maxRecDepth 20000 in
theorem gX1_chosen_X1_region : GoodIn wsX1_chosen (wsV RX1 54 RX1 yX1_region wsX1_region) := goodIn_app (goodIn_of _ (by decide +kernel)) ggX1_chosen_X1_region
set_option maxRecDepth 20000 in
theorem ggX1_middle_X1_half : GoodIn wsX1_middle wsX1_half := goodIn_r _ [6] (by decide +kernel) (by decide +kernel)
set_option maxRecDepth 20000 in
theorem gX1_middle_X1_half : GoodIn wsX1_middle (va_wsS RX1 32 yX1_half wsX1_half) := goodIn_app (goodIn_of _ (by decide +kernel)) ggX1_middle_X1_half
set_option maxRecDepth 20000 in
theorem ggX1_median_X1_sources : GoodIn wsX1_median wsX1_sources := goodIn_r _ [7, 1, 17, 18, 19, 20, 21, 22] (by decide +kernel) (by decide +kernel)
set_option maxRecDepth 20000 in
theorem gX1_median_X1_sources : GoodIn wsX1_median (wsV RX1 48 RX1 yX1_sources wsX1_sources) := goodIn_app (goodIn_of _ (by decide +kernel)) ggX1_median_X1_sources
set_option maxRecDepth 20000 in
theorem ggX1_median_X1_middle : GoodIn wsX1_median wsX1_middle := goodIn_r _ [11, 12, 13, 14, 15, 6, 16, 17, 18, 19, 20, 21, 22] (by decide +kernel) (by decide +kernel)
set_option maxRecDepth 20000 in
theorem gX1_median_X1_middle : GoodIn wsX1_median (wsV RX1 57 RX1 yX1_middle wsX1_middle) := goodIn_app (goodIn_of _ (by decide +kernel)) ggX1_median_X1_middle
set_option maxRecDepth 20000 in
theorem ggX1_mean_X1_sources : GoodIn wsX1_mean wsX1_sources := goodIn_r _ [7, 2, 27, 28, 29, 30, 31, 32] (by decide +kernel) (by decide +kernel)
set_option maxRecDepth 20000 in
theorem gX1_mean_X1_sources : GoodIn wsX1_mean (wsV RX1 48 RX1 yX1_sources wsX1_sources) := goodIn_app (goodIn_of _ (by decide +kernel)) ggX1_mean_X1_sources
set_option maxRecDepth 20000 in
theorem ggX1_mean_X1_median : GoodIn wsX1_mean wsX1_median := goodIn_r _ [11, 2, 1, 3, 4, 5, 6, 7, 12, 13, 14, 15, 16, 17, 18, 19, 20, 27, 28, 29, 30, 31, 32] (by decide +kernel) (by decide +kernel)
set_option maxRecDepth 20000 in
theorem gX1_mean_X1_median : GoodIn wsX1_mean (wsV RX1 60 RX1 yX1_median wsX1_median) := goodIn_app (goodIn_of _ (by decide +kernel)) ggX1_mean_X1_median
set_option maxRecDepth 20000 in
theorem ggX1_mean_X1_middle : GoodIn wsX1_mean wsX1_middle := goodIn_r _ [15, 16, 17, 18, 19, 6, 20, 27, 28, 29, 30, 31, 32] (by decide +kernel) (by decide +kernel)
set_option maxRecDepth 20000 in
theorem gX1_mean_X1_middle : GoodIn wsX1_mean (wsV RX1 57 RX1 yX1_middle wsX1_middle) := goodIn_app (goodIn_of _ (by decide +kernel)) ggX1_mean_X1_middle
set_option maxRecDepth 20000 in
theorem ggX1_mean_X1_size : GoodIn wsX1_mean wsX1_size := goodIn_r _ [23] (by decide +kernel) (by decide +kernel)
set_option maxRecDepth 20000 in
theorem gX1_mean_X1_size : GoodIn wsX1_mean (va_wsS RX1 64 yX1_size wsX1_size) := goodIn_app (goodIn_of _ (by decide +kernel)) ggX1_mean_X1_size
set_option maxRecDepth 20000 in
theorem ggX1_mean_X1_over : GoodIn wsX1_mean wsX1_over := goodIn_r _ [26] (by decide +kernel) (by decide +kernel)
set_option maxRecDepth 20000 in
theorem gX1_mean_X1_over : GoodIn wsX1_mean (va_wsS RX1 67 yX1_over wsX1_over) := goodIn_app (goodIn_of _ (by decide +kernel)) ggX1_mean_X1_over
set_option maxRecDepth 20000 in
theorem ggX1_survivors_X1_middle : GoodIn wsX1_survivors wsX1_middle := goodIn_r _ [6, 7, 8, 9, 10, 5, 11, 18, 19, 20, 21, 22, 23] (by decide +kernel) (by decide +kernel)
set_option maxRecDepth 20000 in
theorem gX1_survivors_X1_middle : GoodIn wsX1_survivors (wsV RX1 57 RX1 yX1_middle wsX1_middle) := goodIn_app (goodIn_of _ (by decide +kernel)) ggX1_survivors_X1_middle
set_option maxRecDepth 20000 in
theorem ggX1_survivors_X1_over : GoodIn wsX1_survivors wsX1_over := goodIn_r _ [14] (by decide +kernel) (by decide +kernel)
set_option maxRecDepth 20000 in
theorem gX1_survivors_X1_over : GoodIn wsX1_survivors (va_wsS RX1 67 yX1_over wsX1_over) := goodIn_app (goodIn_of _ (by decide +kernel)) ggX1_survivors_X1_over
set_option maxRecDepth 20000 in
theorem ggX1_survivors_X1_size : GoodIn wsX1_survivors wsX1_size := goodIn_r _ [17] (by decide +kernel) (by decide +kernel)
set_option maxRecDepth 20000 in
theorem gX1_survivors_X1_size : GoodIn wsX1_survivors (va_wsS RX1 64 yX1_size wsX1_size) := goodIn_app (goodIn_of _ (by decide +kernel)) ggX1_survivors_X1_size
set_option maxRecDepth 20000 in
theorem ggX1_rank_X1_survivors : GoodIn wsX1_rank wsX1_survivors := goodIn_r _ [5, 6, 7, 8, 9, 4, 10, 11, 12, 13, 14, 15, 16, 17, 18, 19, 20, 21, 25, 26, 27, 28, 29, 30] (by decide +kernel) (by decide +kernel)
set_option maxRecDepth 20000 in
theorem gX1_rank_X1_survivors : GoodIn wsX1_rank (wsV RX1 71 RX1 yX1_survivors wsX1_survivors) := goodIn_app (goodIn_of _ (by decide +kernel)) ggX1_rank_X1_survivors
set_option maxRecDepth 20000 in
theorem ggX1_rank_X1_isSource : GoodIn wsX1_rank wsX1_isSource := goodIn_r _ [24] (by decide +kernel) (by decide +kernel)
set_option maxRecDepth 20000 in
theorem gX1_rank_X1_isSource : GoodIn wsX1_rank (va_wsS RX1 20 yX1_isSource wsX1_isSource) := goodIn_app (goodIn_of _ (by decide +kernel)) ggX1_rank_X1_isSource
set_option maxRecDepth 20000 in
theorem ggX1_rank_X1_middle : GoodIn wsX1_rank wsX1_middle := goodIn_r _ [10, 11, 12, 13, 14, 4, 15, 25, 26, 27, 28, 29, 30] (by decide +kernel) (by decide +kernel)
set_option maxRecDepth 20000 in
theorem gX1_rank_X1_middle : GoodIn wsX1_rank (wsV RX1 57 RX1 yX1_middle wsX1_middle) := goodIn_app (goodIn_of _ (by decide +kernel)) ggX1_rank_X1_middle
set_option maxRecDepth 20000 in
theorem ggX1_steer_X1_greatest : GoodIn wsX1_steer wsX1_greatest := goodIn_r _ [6, 7, 8, 9, 10, 11, 5, 12, 13, 31, 32, 33, 34, 35, 36] (by decide +kernel) (by decide +kernel)
set_option maxRecDepth 20000 in
theorem gX1_steer_X1_greatest : GoodIn wsX1_steer (wsV RX1 40 RX1 yX1_greatest wsX1_greatest) := goodIn_app (goodIn_of _ (by decide +kernel)) ggX1_steer_X1_greatest
set_option maxRecDepth 20000 in
theorem ggX1_steer_X1_sources : GoodIn wsX1_steer wsX1_sources := goodIn_r _ [17, 7, 31, 32, 33, 34, 35, 36] (by decide +kernel) (by decide +kernel)
set_option maxRecDepth 20000 in
theorem gX1_steer_X1_sources : GoodIn wsX1_steer (wsV RX1 48 RX1 yX1_sources wsX1_sources) := goodIn_app (goodIn_of _ (by decide +kernel)) ggX1_steer_X1_sources
set_option maxRecDepth 20000 in
theorem ggX1_steer_X1_region : GoodIn wsX1_steer wsX1_region := goodIn_r _ [21, 22, 23, 7, 8, 13, 2, 3, 4, 5, 6, 9, 10, 11, 12, 24, 25, 26, 27, 31, 32, 33, 34, 35, 36] (by decide +kernel) (by decide +kernel)
set_option maxRecDepth 20000 in
theorem gX1_steer_X1_region : GoodIn wsX1_steer (wsV RX1 54 RX1 yX1_region wsX1_region) := goodIn_app (goodIn_of _ (by decide +kernel)) ggX1_steer_X1_region
set_option maxRecDepth 20000 in
theorem ggX1_steer_X1_half : GoodIn wsX1_steer wsX1_half := goodIn_r _ [30] (by decide +kernel) (by decide +kernel)
set_option maxRecDepth 20000 in
theorem gX1_steer_X1_half : GoodIn wsX1_steer (va_wsS RX1 32 yX1_half wsX1_half) := goodIn_app (goodIn_of _ (by decide +kernel)) ggX1_steer_X1_half
set_option maxRecDepth 20000 in
theorem ggX1_settles_X1_size : GoodIn wsX1_settles wsX1_size := goodIn_r _ [9] (by decide +kernel) (by decide +kernel)
set_option maxRecDepth 20000 in
theorem gX1_settles_X1_size : GoodIn wsX1_settles (va_wsS RX1 64 yX1_size wsX1_size) := goodIn_app (goodIn_of _ (by decide +kernel)) ggX1_settles_X1_size
set_option maxRecDepth 20000 in
theorem ggL_law_X0_init : GoodIn wsL_law wsX0_init := goodIn_r _ [9, 10, 11, 12, 13, 14, 15, 16, 17, 18, 19, 314, 315, 316, 317, 318, 319] (by decide +kernel) (by decide +kernel)
set_option maxRecDepth 20000 in
theorem gL_law_X0_init : GoodIn wsL_law (wsX0_init) := ggL_law_X0_init
set_option maxRecDepth 20000 in
theorem ggL_law_X1_init : GoodIn wsL_law wsX1_init := goodIn_r _ [22, 23, 11, 12, 24, 25, 13, 26, 27, 320, 321, 322, 323, 324, 325] (by decide +kernel) (by decide +kernel)
set_option maxRecDepth 20000 in
theorem gL_law_X1_init : GoodIn wsL_law (wsX1_init) := ggL_law_X1_init
set_option maxRecDepth 20000 in
theorem ggL_law_X0_interval : GoodIn wsL_law wsX0_interval := goodIn_r _ [31, 32, 33, 34, 35, 2, 36, 37, 38, 39, 40, 14, 15, 16, 314, 315, 316, 317, 318, 319] (by decide +kernel) (by decide +kernel)
set_option maxRecDepth 20000 in
theorem gL_law_X0_interval : GoodIn wsL_law (wsV RL 15 RX0 yX0_interval wsX0_interval) := goodIn_app (goodIn_of _ (by decide +kernel)) ggL_law_X0_interval
set_option maxRecDepth 20000 in
theorem ggL_law_X1_interval : GoodIn wsL_law wsX1_interval := goodIn_r _ [44, 45, 46, 25, 26, 27, 47, 48, 5, 49, 320, 321, 322, 323, 324, 325] (by decide +kernel) (by decide +kernel)
set_option maxRecDepth 20000 in
theorem gL_law_X1_interval : GoodIn wsL_law (wsV RL 19 RX1 yX1_interval wsX1_interval) := goodIn_app (goodIn_of _ (by decide +kernel)) ggL_law_X1_interval
set_option maxRecDepth 20000 in
theorem ggL_law_X0_exchange : GoodIn wsL_law wsX0_exchange := goodIn_r _ [53, 54, 34, 35, 2, 36, 55, 56, 57, 58, 37, 38, 39, 40, 14, 15, 16, 59, 60, 61, 62, 63, 64, 65, 66, 314, 315, 316, 317, 318, 319] (by decide +kernel) (by decide +kernel)
set_option maxRecDepth 20000 in
theorem gL_law_X0_exchange : GoodIn wsL_law (wsV RL 20 RX0 yX0_exchange wsX0_exchange) := goodIn_app (goodIn_of _ (by decide +kernel)) ggL_law_X0_exchange
set_option maxRecDepth 20000 in
theorem ggL_law_X1_exchange : GoodIn wsL_law wsX1_exchange := goodIn_r _ [70, 71, 72, 25, 26, 27, 47, 48, 5, 49, 73, 74, 75, 320, 321, 322, 323, 324, 325] (by decide +kernel) (by decide +kernel)
set_option maxRecDepth 20000 in
theorem gL_law_X1_exchange : GoodIn wsL_law (wsV RL 24 RX1 yX1_exchange wsX1_exchange) := goodIn_app (goodIn_of _ (by decide +kernel)) ggL_law_X1_exchange
set_option maxRecDepth 20000 in
theorem ggL_law_X0_drop : GoodIn wsL_law wsX0_drop := goodIn_r _ [79, 16, 80, 81, 2, 82, 34, 35, 36, 83, 84, 85, 314, 315, 316, 317, 318, 319] (by decide +kernel) (by decide +kernel)
set_option maxRecDepth 20000 in
theorem gL_law_X0_drop : GoodIn wsL_law (wsV RL 25 RX0 yX0_drop wsX0_drop) := goodIn_app (goodIn_of _ (by decide +kernel)) ggL_law_X0_drop
set_option maxRecDepth 20000 in
theorem ggL_law_X1_drop : GoodIn wsL_law wsX1_drop := goodIn_r _ [89, 25, 47, 48, 5, 49, 320, 321, 322, 323, 324, 325] (by decide +kernel) (by decide +kernel)
set_option maxRecDepth 20000 in
theorem gL_law_X1_drop : GoodIn wsL_law (wsV RL 29 RX1 yX1_drop wsX1_drop) := goodIn_app (goodIn_of _ (by decide +kernel)) ggL_law_X1_drop
set_option maxRecDepth 20000 in
theorem ggL_law_X0_sources : GoodIn wsL_law wsX0_sources := goodIn_r _ [93, 16, 94, 95, 96, 97, 98, 99, 100, 314, 315, 316, 317, 318, 319] (by decide +kernel) (by decide +kernel)
set_option maxRecDepth 20000 in
theorem gL_law_X0_sources : GoodIn wsL_law (wsV RL 30 RX0 yX0_sources wsX0_sources) := goodIn_app (goodIn_of _ (by decide +kernel)) ggL_law_X0_sources
set_option maxRecDepth 20000 in
theorem ggL_law_X1_sources : GoodIn wsL_law wsX1_sources := goodIn_r _ [104, 25, 320, 321, 322, 323, 324, 325] (by decide +kernel) (by decide +kernel)
set_option maxRecDepth 20000 in
theorem gL_law_X1_sources : GoodIn wsL_law (wsV RL 34 RX1 yX1_sources wsX1_sources) := goodIn_app (goodIn_of _ (by decide +kernel)) ggL_law_X1_sources
set_option maxRecDepth 20000 in
theorem ggL_law_X0_covers : GoodIn wsL_law wsX0_covers := goodIn_r _ [108, 109, 110, 111, 2, 112, 16, 14, 15, 80, 81, 82, 34, 35, 36, 314, 315, 316, 317, 318, 319] (by decide +kernel) (by decide +kernel)
set_option maxRecDepth 20000 in
theorem gL_law_X0_covers : GoodIn wsL_law (wsV RL 35 RX0 yX0_covers wsX0_covers) := goodIn_app (goodIn_of _ (by decide +kernel)) ggL_law_X0_covers
set_option maxRecDepth 20000 in
theorem ggL_law_X1_covers : GoodIn wsL_law wsX1_covers := goodIn_r _ [116, 25, 26, 27, 320, 321, 322, 323, 324, 325] (by decide +kernel) (by decide +kernel)
set_option maxRecDepth 20000 in
theorem gL_law_X1_covers : GoodIn wsL_law (wsV RL 39 RX1 yX1_covers wsX1_covers) := goodIn_app (goodIn_of _ (by decide +kernel)) ggL_law_X1_covers
set_option maxRecDepth 20000 in
theorem ggL_law_X0_greatest : GoodIn wsL_law wsX0_greatest := goodIn_r _ [120, 16, 14, 121, 122, 123, 124, 80, 81, 2, 82, 34, 35, 36, 125, 106, 107, 108, 109, 110, 111, 112, 15, 314, 315, 316, 317, 318, 319] (by decide +kernel) (by decide +kernel)
set_option maxRecDepth 20000 in
theorem gL_law_X0_greatest : GoodIn wsL_law (wsV RL 40 RX0 yX0_greatest wsX0_greatest) := goodIn_app (goodIn_of _ (by decide +kernel)) ggL_law_X0_greatest
set_option maxRecDepth 20000 in
theorem ggL_law_X1_greatest : GoodIn wsL_law wsX1_greatest := goodIn_r _ [129, 25, 26, 130, 114, 115, 5, 116, 27, 320, 321, 322, 323, 324, 325] (by decide +kernel) (by decide +kernel)
set_option maxRecDepth 20000 in
theorem gL_law_X1_greatest : GoodIn wsL_law (wsV RL 43 RX1 yX1_greatest wsX1_greatest) := goodIn_app (goodIn_of _ (by decide +kernel)) ggL_law_X1_greatest
set_option maxRecDepth 20000 in
theorem ggL_law_X0_region : GoodIn wsL_law wsX0_region := goodIn_r _ [134, 16, 54, 135, 136, 2, 137, 138, 118, 119, 120, 14, 121, 122, 123, 124, 80, 81, 82, 34, 35, 36, 125, 106, 107, 108, 109, 110, 111, 112, 15, 139, 140, 141, 142, 143, 144, 145, 146, 147, 148, 149, 150, 33, 151, 152, 153, 314, 315, 316, 317, 318, 319] (by decide +kernel) (by decide +kernel)
set_option maxRecDepth 20000 in
theorem gL_law_X0_region : GoodIn wsL_law (wsV RL 44 RX0 yX0_region wsX0_region) := goodIn_app (goodIn_of _ (by decide +kernel)) ggL_law_X0_region
set_option maxRecDepth 20000 in
theorem ggL_law_X1_region : GoodIn wsL_law wsX1_region := goodIn_r _ [157, 72, 46, 25, 26, 27, 158, 127, 128, 5, 129, 130, 114, 115, 116, 159, 160, 161, 162, 320, 321, 322, 323, 324, 325] (by decide +kernel) (by decide +kernel)
set_option maxRecDepth 20000 in
theorem gL_law_X1_region : GoodIn wsL_law (wsV RL 48 RX1 yX1_region wsX1_region) := goodIn_app (goodIn_of _ (by decide +kernel)) ggL_law_X1_region
set_option maxRecDepth 20000 in
theorem ggL_law_X0_hull : GoodIn wsL_law wsX0_hull := goodIn_r _ [166, 54, 167, 91, 92, 2, 93, 16, 94, 95, 96, 97, 98, 99, 100, 135, 136, 137, 139, 140, 141, 142, 14, 80, 81, 82, 34, 35, 36, 125, 106, 107, 108, 109, 110, 111, 112, 15, 168, 169, 170, 171, 172, 173, 123, 174, 314, 315, 316, 317, 318, 319] (by decide +kernel) (by decide +kernel)
set_option maxRecDepth 20000 in
theorem gL_law_X0_hull : GoodIn wsL_law (wsV RL 49 RX0 yX0_hull wsX0_hull) := goodIn_app (goodIn_of _ (by decide +kernel)) ggL_law_X0_hull
set_option maxRecDepth 20000 in
theorem ggL_law_X1_hull : GoodIn wsL_law wsX1_hull := goodIn_r _ [178, 72, 179, 102, 103, 5, 104, 25, 159, 160, 161, 162, 26, 130, 114, 115, 116, 27, 180, 181, 182, 183, 320, 321, 322, 323, 324, 325] (by decide +kernel) (by decide +kernel)
set_option maxRecDepth 20000 in
theorem gL_law_X1_hull : GoodIn wsL_law (wsV RL 53 RX1 yX1_hull wsX1_hull) := goodIn_app (goodIn_of _ (by decide +kernel)) ggL_law_X1_hull
set_option maxRecDepth 20000 in
theorem ggL_law_X0_chosen : GoodIn wsL_law wsX0_chosen := goodIn_r _ [187, 16, 14, 15, 80, 81, 2, 82, 34, 35, 36, 188, 132, 133, 134, 54, 135, 136, 137, 138, 118, 119, 120, 121, 122, 123, 124, 125, 106, 107, 108, 109, 110, 111, 112, 139, 140, 141, 142, 143, 144, 145, 146, 147, 148, 149, 150, 33, 151, 152, 153, 314, 315, 316, 317, 318, 319] (by decide +kernel) (by decide +kernel)
set_option maxRecDepth 20000 in
theorem gL_law_X0_chosen : GoodIn wsL_law (wsV RL 54 RX0 yX0_chosen wsX0_chosen) := goodIn_app (goodIn_of _ (by decide +kernel)) ggL_law_X0_chosen
set_option maxRecDepth 20000 in
theorem ggL_law_X1_chosen : GoodIn wsL_law wsX1_chosen := goodIn_r _ [192, 25, 26, 27, 47, 48, 5, 49, 193, 155, 156, 157, 72, 46, 158, 127, 128, 129, 130, 114, 115, 116, 159, 160, 161, 162, 320, 321, 322, 323, 324, 325] (by decide +kernel) (by decide +kernel)
set_option maxRecDepth 20000 in
theorem gL_law_X1_chosen : GoodIn wsL_law (wsV RL 57 RX1 yX1_chosen wsX1_chosen) := goodIn_app (goodIn_of _ (by decide +kernel)) ggL_law_X1_chosen
set_option maxRecDepth 20000 in
theorem ggL_law_X0_mean : GoodIn wsL_law wsX0_mean := goodIn_r _ [197, 16, 54, 135, 136, 2, 137, 198, 199, 200, 201, 167, 91, 92, 93, 94, 95, 96, 97, 98, 99, 100, 80, 81, 82, 34, 35, 36, 202, 203, 204, 205, 206, 207, 208, 209, 14, 15, 59, 60, 61, 62, 63, 64, 65, 66, 210, 211, 212, 213, 214, 215, 123, 216, 83, 84, 85, 217, 218, 219, 220, 314, 315, 316, 317, 318, 319] (by decide +kernel) (by decide +kernel)
set_option maxRecDepth 20000 in
theorem gL_law_X0_mean : GoodIn wsL_law (wsV RL 58 RX0 yX0_mean wsX0_mean) := goodIn_app (goodIn_of _ (by decide +kernel)) ggL_law_X0_mean
set_option maxRecDepth 20000 in
theorem ggL_law_X1_mean : GoodIn wsL_law wsX1_mean := goodIn_r _ [224, 72, 25, 179, 102, 103, 5, 104, 225, 226, 227, 228, 229, 230, 231, 232, 26, 27, 73, 74, 75, 233, 234, 235, 236, 237, 238, 320, 321, 322, 323, 324, 325] (by decide +kernel) (by decide +kernel)
set_option maxRecDepth 20000 in
theorem gL_law_X1_mean : GoodIn wsL_law (wsV RL 62 RX1 yX1_mean wsX1_mean) := goodIn_app (goodIn_of _ (by decide +kernel)) ggL_law_X1_mean
set_option maxRecDepth 20000 in
theorem ggL_law_X0_survivors : GoodIn wsL_law wsX0_survivors := goodIn_r _ [242, 243, 244, 2, 245, 246, 247, 248, 249, 16, 94, 95, 96, 97, 98, 99, 100, 250, 251, 252, 253, 214, 215, 123, 216, 217, 218, 219, 220, 54, 80, 81, 82, 34, 35, 36, 206, 207, 208, 209, 14, 15, 59, 60, 61, 62, 63, 64, 65, 66, 83, 84, 85, 314, 315, 316, 317, 318, 319] (by decide +kernel) (by decide +kernel)
set_option maxRecDepth 20000 in
theorem gL_law_X0_survivors : GoodIn wsL_law (wsV RL 63 RX0 yX0_survivors wsX0_survivors) := goodIn_app (goodIn_of _ (by decide +kernel)) ggL_law_X0_survivors
set_option maxRecDepth 20000 in
theorem ggL_law_X1_survivors : GoodIn wsL_law wsX1_survivors := goodIn_r _ [257, 25, 229, 230, 231, 5, 232, 26, 27, 73, 74, 75, 236, 237, 238, 233, 234, 235, 320, 321, 322, 323, 324, 325] (by decide +kernel) (by decide +kernel)
set_option maxRecDepth 20000 in
theorem gL_law_X1_survivors : GoodIn wsL_law (wsV RL 67 RX1 yX1_survivors wsX1_survivors) := goodIn_app (goodIn_of _ (by decide +kernel)) ggL_law_X1_survivors
set_option maxRecDepth 20000 in
theorem ggL_law_X0_rank : GoodIn wsL_law wsX0_rank := goodIn_r _ [261, 243, 244, 2, 245, 246, 247, 248, 249, 16, 94, 95, 96, 97, 98, 99, 100, 250, 251, 252, 253, 214, 215, 123, 216, 217, 218, 219, 220, 54, 80, 81, 82, 34, 35, 36, 206, 207, 208, 209, 14, 15, 59, 60, 61, 62, 63, 64, 65, 66, 83, 84, 85, 202, 203, 204, 205, 314, 315, 316, 317, 318, 319] (by decide +kernel) (by decide +kernel)
set_option maxRecDepth 20000 in
theorem gL_law_X0_rank : GoodIn wsL_law (wsV RL 68 RX0 yX0_rank wsX0_rank) := goodIn_app (goodIn_of _ (by decide +kernel)) ggL_law_X0_rank
set_option maxRecDepth 20000 in
theorem ggL_law_X1_rank : GoodIn wsL_law wsX1_rank := goodIn_r _ [265, 266, 255, 256, 5, 257, 25, 229, 230, 231, 232, 26, 27, 73, 74, 75, 236, 237, 238, 233, 234, 235, 47, 48, 49, 320, 321, 322, 323, 324, 325] (by decide +kernel) (by decide +kernel)
set_option maxRecDepth 20000 in
theorem gL_law_X1_rank : GoodIn wsL_law (wsV RL 72 RX1 yX1_rank wsX1_rank) := goodIn_app (goodIn_of _ (by decide +kernel)) ggL_law_X1_rank
set_option maxRecDepth 20000 in
theorem ggL_law_X0_tick : GoodIn wsL_law wsX0_tick := goodIn_r _ [270, 17, 58, 271, 18, 19, 151, 152, 123, 153, 172, 173, 174, 314, 315, 316, 317, 318, 319] (by decide +kernel) (by decide +kernel)
set_option maxRecDepth 20000 in
theorem gL_law_X0_tick : GoodIn wsL_law (wsV RL 73 RX0 yX0_tick wsX0_tick) := goodIn_app (goodIn_of _ (by decide +kernel)) ggL_law_X0_tick
set_option maxRecDepth 20000 in
theorem ggL_law_X1_tick : GoodIn wsL_law wsX1_tick := goodIn_r _ [275, 276, 71, 277, 278, 279, 320, 321, 322, 323, 324, 325] (by decide +kernel) (by decide +kernel)
set_option maxRecDepth 20000 in
theorem gL_law_X1_tick : GoodIn wsL_law (wsV RL 77 RX1 yX1_tick wsX1_tick) := goodIn_app (goodIn_of _ (by decide +kernel)) ggL_law_X1_tick
set_option maxRecDepth 20000 in
theorem ggL_law_X0_steer : GoodIn wsL_law wsX0_steer := goodIn_r _ [283, 19, 138, 118, 119, 2, 120, 16, 14, 121, 122, 123, 124, 80, 81, 82, 34, 35, 36, 125, 106, 107, 108, 109, 110, 111, 112, 15, 167, 91, 92, 93, 94, 95, 96, 97, 98, 99, 100, 188, 132, 133, 134, 54, 135, 136, 137, 139, 140, 141, 142, 143, 144, 145, 146, 147, 148, 149, 150, 33, 151, 152, 153, 59, 60, 61, 62, 63, 64, 65, 66, 314, 315, 316, 317, 318, 319] (by decide +kernel) (by decide +kernel)
set_option maxRecDepth 20000 in
theorem gL_law_X0_steer : GoodIn wsL_law (wsV RL 78 RX0 yX0_steer wsX0_steer) := goodIn_app (goodIn_of _ (by decide +kernel)) ggL_law_X0_steer
set_option maxRecDepth 20000 in
theorem ggL_law_X1_steer : GoodIn wsL_law wsX1_steer := goodIn_r _ [287, 278, 158, 127, 128, 5, 129, 25, 26, 130, 114, 115, 116, 27, 179, 102, 103, 104, 193, 155, 156, 157, 72, 46, 159, 160, 161, 162, 73, 74, 75, 320, 321, 322, 323, 324, 325] (by decide +kernel) (by decide +kernel)
set_option maxRecDepth 20000 in
theorem gL_law_X1_steer : GoodIn wsL_law (wsV RL 82 RX1 yX1_steer wsX1_steer) := goodIn_app (goodIn_of _ (by decide +kernel)) ggL_law_X1_steer
set_option maxRecDepth 20000 in
theorem ggL_law_X0_read : GoodIn wsL_law wsX0_read := goodIn_r _ [291, 17, 18, 314, 315, 316, 317, 318, 319] (by decide +kernel) (by decide +kernel)
set_option maxRecDepth 20000 in
theorem gL_law_X0_read : GoodIn wsL_law (wsV RL 83 RX0 yX0_read wsX0_read) := goodIn_app (goodIn_of _ (by decide +kernel)) ggL_law_X0_read
set_option maxRecDepth 20000 in
theorem ggL_law_X1_read : GoodIn wsL_law wsX1_read := goodIn_r _ [295, 276, 279, 320, 321, 322, 323, 324, 325] (by decide +kernel) (by decide +kernel)
set_option maxRecDepth 20000 in
theorem gL_law_X1_read : GoodIn wsL_law (wsV RL 87 RX1 yX1_read wsX1_read) := goodIn_app (goodIn_of _ (by decide +kernel)) ggL_law_X1_read
set_option maxRecDepth 20000 in
theorem ggL_law_X0_offset : GoodIn wsL_law wsX0_offset := goodIn_r _ [299, 54, 18, 19, 135, 136, 2, 137, 314, 315, 316, 317, 318, 319] (by decide +kernel) (by decide +kernel)
set_option maxRecDepth 20000 in
theorem gL_law_X0_offset : GoodIn wsL_law (wsV RL 88 RX0 yX0_offset wsX0_offset) := goodIn_app (goodIn_of _ (by decide +kernel)) ggL_law_X0_offset
set_option maxRecDepth 20000 in
theorem ggL_law_X1_offset : GoodIn wsL_law wsX1_offset := goodIn_r _ [303, 279, 278, 72, 320, 321, 322, 323, 324, 325] (by decide +kernel) (by decide +kernel)
set_option maxRecDepth 20000 in
theorem gL_law_X1_offset : GoodIn wsL_law (wsV RL 91 RX1 yX1_offset wsX1_offset) := goodIn_app (goodIn_of _ (by decide +kernel)) ggL_law_X1_offset
set_option maxRecDepth 20000 in
theorem ggL_law_X0_settles : GoodIn wsL_law wsX0_settles := goodIn_r _ [307, 19, 18, 214, 215, 123, 216, 308, 54, 271, 314, 315, 316, 317, 318, 319] (by decide +kernel) (by decide +kernel)
set_option maxRecDepth 20000 in
theorem gL_law_X0_settles : GoodIn wsL_law (wsV RL 92 RX0 yX0_settles wsX0_settles) := goodIn_app (goodIn_of _ (by decide +kernel)) ggL_law_X0_settles
set_option maxRecDepth 20000 in
theorem ggL_law_X1_settles : GoodIn wsL_law wsX1_settles := goodIn_r _ [312, 278, 279, 313, 72, 277, 233, 234, 5, 235, 320, 321, 322, 323, 324, 325] (by decide +kernel) (by decide +kernel)
set_option maxRecDepth 20000 in
theorem gL_law_X1_settles : GoodIn wsL_law (wsV RL 95 RX1 yX1_settles wsX1_settles) := goodIn_app (goodIn_of _ (by decide +kernel)) ggL_law_X1_settles
abbrev vwCl : List vw_C := [(RX0, TX0, 6), (RX1, TX1, 6)]
