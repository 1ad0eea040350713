section
-- ===== PART A: goes FIRST, ahead of the names: the tables' words, and 'selects' of the private methods out of them =====
/-- a private method of a class that the tables say can be made, by its rows of tables_1 -/
def lw_okq (q : MethodName × Nat) : Prop := (q.1.cls ≠ "java/lang/invoke/MethodHandle" ∧ q.1.cls ≠ "java/lang/invoke/VarHandle") ∧ Cond.instantiable q.1.cls q.2 ∈ tables_1 ∧ Cond.privateMethod q.1 ∈ tables_1 ∧ Cond.instanceMethod q.1 ∈ tables_1
theorem lw_p0 : lw_okq (⟨"ClockDesk", "hold", "(IJJ)V"⟩, 6) := ⟨⟨by decide +kernel, by decide +kernel⟩, List.mem_of_getElem? (i := 6) (by decide +kernel), List.mem_of_getElem? (i := 43) (by decide +kernel), List.mem_of_getElem? (i := 44) (by decide +kernel)⟩
theorem lw_p1 : lw_okq (⟨"ClockDesk", "isCoveredBy", "(IJ)Z"⟩, 6) := ⟨⟨by decide +kernel, by decide +kernel⟩, List.mem_of_getElem? (i := 6) (by decide +kernel), List.mem_of_getElem? (i := 87) (by decide +kernel), List.mem_of_getElem? (i := 88) (by decide +kernel)⟩
theorem lw_p2 : lw_okq (⟨"ClockDesk", "leastCoveredBy", "(I)J"⟩, 6) := ⟨⟨by decide +kernel, by decide +kernel⟩, List.mem_of_getElem? (i := 6) (by decide +kernel), List.mem_of_getElem? (i := 107) (by decide +kernel), List.mem_of_getElem? (i := 108) (by decide +kernel)⟩
theorem lw_p3 : lw_okq (⟨"ClockDesk", "endOfRow", "(JI)J"⟩, 6) := ⟨⟨by decide +kernel, by decide +kernel⟩, List.mem_of_getElem? (i := 6) (by decide +kernel), List.mem_of_getElem? (i := 111) (by decide +kernel), List.mem_of_getElem? (i := 112) (by decide +kernel)⟩
theorem lw_p4 : lw_okq (⟨"ClockDesk", "firstHighFrom", "(J)J"⟩, 6) := ⟨⟨by decide +kernel, by decide +kernel⟩, List.mem_of_getElem? (i := 6) (by decide +kernel), List.mem_of_getElem? (i := 115) (by decide +kernel), List.mem_of_getElem? (i := 116) (by decide +kernel)⟩
theorem lw_p5 : lw_okq (⟨"ClockDesk", "greatestCoveredBy", "(I)J"⟩, 6) := ⟨⟨by decide +kernel, by decide +kernel⟩, List.mem_of_getElem? (i := 6) (by decide +kernel), List.mem_of_getElem? (i := 127) (by decide +kernel), List.mem_of_getElem? (i := 128) (by decide +kernel)⟩
theorem lw_p6 : lw_okq (⟨"ClockDesk", "medianMiddle", "()J"⟩, 6) := ⟨⟨by decide +kernel, by decide +kernel⟩, List.mem_of_getElem? (i := 6) (by decide +kernel), List.mem_of_getElem? (i := 143) (by decide +kernel), List.mem_of_getElem? (i := 144) (by decide +kernel)⟩
theorem lw_p7 : lw_okq (⟨"ClockDesk", "place", "(II)I"⟩, 6) := ⟨⟨by decide +kernel, by decide +kernel⟩, List.mem_of_getElem? (i := 6) (by decide +kernel), List.mem_of_getElem? (i := 147) (by decide +kernel), List.mem_of_getElem? (i := 148) (by decide +kernel)⟩
theorem lw_p8 : lw_okq (⟨"ClockDesk", "middle", "(I)J"⟩, 6) := ⟨⟨by decide +kernel, by decide +kernel⟩, List.mem_of_getElem? (i := 6) (by decide +kernel), List.mem_of_getElem? (i := 151) (by decide +kernel), List.mem_of_getElem? (i := 152) (by decide +kernel)⟩
theorem lw_p9 : lw_okq (⟨"ClockDesk", "nearTo", "(JJ)I"⟩, 6) := ⟨⟨by decide +kernel, by decide +kernel⟩, List.mem_of_getElem? (i := 6) (by decide +kernel), List.mem_of_getElem? (i := 155) (by decide +kernel), List.mem_of_getElem? (i := 156) (by decide +kernel)⟩
theorem lw_p10 : lw_okq (⟨"ClockDesk", "meanMiddle", "(I)J"⟩, 6) := ⟨⟨by decide +kernel, by decide +kernel⟩, List.mem_of_getElem? (i := 6) (by decide +kernel), List.mem_of_getElem? (i := 162) (by decide +kernel), List.mem_of_getElem? (i := 163) (by decide +kernel)⟩
theorem lw_p11 : lw_okq (⟨"ClockDesk", "leftOf", "(I)I"⟩, 6) := ⟨⟨by decide +kernel, by decide +kernel⟩, List.mem_of_getElem? (i := 6) (by decide +kernel), List.mem_of_getElem? (i := 173) (by decide +kernel), List.mem_of_getElem? (i := 174) (by decide +kernel)⟩
theorem lw_p12 : lw_okq (⟨"ClockDesk", "farthest", "(I)I"⟩, 6) := ⟨⟨by decide +kernel, by decide +kernel⟩, List.mem_of_getElem? (i := 6) (by decide +kernel), List.mem_of_getElem? (i := 177) (by decide +kernel), List.mem_of_getElem? (i := 178) (by decide +kernel)⟩
theorem lw_p13 : lw_okq (⟨"ClockDeskModel", "first", "(I)J"⟩, 6) := ⟨⟨by decide +kernel, by decide +kernel⟩, List.mem_of_getElem? (i := 207) (by decide +kernel), List.mem_of_getElem? (i := 273) (by decide +kernel), List.mem_of_getElem? (i := 274) (by decide +kernel)⟩
theorem lw_p14 : lw_okq (⟨"ClockDeskModel", "last", "(I)J"⟩, 6) := ⟨⟨by decide +kernel, by decide +kernel⟩, List.mem_of_getElem? (i := 207) (by decide +kernel), List.mem_of_getElem? (i := 282) (by decide +kernel), List.mem_of_getElem? (i := 283) (by decide +kernel)⟩
theorem lw_p15 : lw_okq (⟨"ClockDeskModel", "median", "()J"⟩, 6) := ⟨⟨by decide +kernel, by decide +kernel⟩, List.mem_of_getElem? (i := 207) (by decide +kernel), List.mem_of_getElem? (i := 295) (by decide +kernel), List.mem_of_getElem? (i := 296) (by decide +kernel)⟩
def lw_privs_1 : List (MethodName × Nat) := [(⟨"ClockDesk", "hold", "(IJJ)V"⟩, 6), (⟨"ClockDesk", "isCoveredBy", "(IJ)Z"⟩, 6), (⟨"ClockDesk", "leastCoveredBy", "(I)J"⟩, 6), (⟨"ClockDesk", "endOfRow", "(JI)J"⟩, 6), (⟨"ClockDesk", "firstHighFrom", "(J)J"⟩, 6), (⟨"ClockDesk", "greatestCoveredBy", "(I)J"⟩, 6), (⟨"ClockDesk", "medianMiddle", "()J"⟩, 6), (⟨"ClockDesk", "place", "(II)I"⟩, 6), (⟨"ClockDesk", "middle", "(I)J"⟩, 6), (⟨"ClockDesk", "nearTo", "(JJ)I"⟩, 6), (⟨"ClockDesk", "meanMiddle", "(I)J"⟩, 6), (⟨"ClockDesk", "leftOf", "(I)I"⟩, 6), (⟨"ClockDesk", "farthest", "(I)I"⟩, 6), (⟨"ClockDeskModel", "first", "(I)J"⟩, 6), (⟨"ClockDeskModel", "last", "(I)J"⟩, 6), (⟨"ClockDeskModel", "median", "()J"⟩, 6)]
theorem lw_r1 : ∀ q ∈ lw_privs_1, lw_okq q := List.forall_mem_cons.mpr ⟨lw_p0, List.forall_mem_cons.mpr ⟨lw_p1, List.forall_mem_cons.mpr ⟨lw_p2, List.forall_mem_cons.mpr ⟨lw_p3, List.forall_mem_cons.mpr ⟨lw_p4, List.forall_mem_cons.mpr ⟨lw_p5, List.forall_mem_cons.mpr ⟨lw_p6, List.forall_mem_cons.mpr ⟨lw_p7, List.forall_mem_cons.mpr ⟨lw_p8, List.forall_mem_cons.mpr ⟨lw_p9, List.forall_mem_cons.mpr ⟨lw_p10, List.forall_mem_cons.mpr ⟨lw_p11, List.forall_mem_cons.mpr ⟨lw_p12, List.forall_mem_cons.mpr ⟨lw_p13, List.forall_mem_cons.mpr ⟨lw_p14, List.forall_mem_cons.mpr ⟨lw_p15, fun _ h => absurd h List.not_mem_nil⟩⟩⟩⟩⟩⟩⟩⟩⟩⟩⟩⟩⟩⟩⟩⟩
theorem lw_p16 : lw_okq (⟨"ClockDeskModel", "middle", "(I)J"⟩, 6) := ⟨⟨by decide +kernel, by decide +kernel⟩, List.mem_of_getElem? (i := 207) (by decide +kernel), List.mem_of_getElem? (i := 299) (by decide +kernel), List.mem_of_getElem? (i := 300) (by decide +kernel)⟩
def lw_privs_2 : List (MethodName × Nat) := [(⟨"ClockDeskModel", "middle", "(I)J"⟩, 6)]
theorem lw_r2 : ∀ q ∈ lw_privs_2, lw_okq q := List.forall_mem_cons.mpr ⟨lw_p16, fun _ h => absurd h List.not_mem_nil⟩
def lw_privs : List (MethodName × Nat) := lw_privs_1 ++ (lw_privs_2)
def lw_tbl : List Cond := k2_sels lw_privs ++ tables_1
theorem lw_privs_ok : ∀ q ∈ lw_privs, lw_okq q := by
  show ∀ q ∈ lw_privs_1 ++ (lw_privs_2), lw_okq q
  exact List.forall_mem_append.mpr ⟨lw_r1, lw_r2⟩
end
section
/-! ===== BEGIN words of one list among another's, by their places ===== -/
theorem goodIn_r {big : List Cond} (ws : List Cond) (ps : List Nat) (hp : ws = ps.filterMap (fun i => big[i]?)) (h : ws.all goodWord = true) : GoodIn big ws := by
  intro w hw
  have h1 := List.all_eq_true.mp h w hw
  rw [hp] at hw
  obtain ⟨i, -, hi⟩ := List.mem_filterMap.mp hw
  have hm : w ∈ big := by first | exact List.mem_of_getElem? hi | exact List.getElem?_mem hi
  exact ⟨hm, good_of_word h1⟩
theorem goodIn_app {big a b : List Cond} (ha : GoodIn big a) (hb : GoodIn big b) : GoodIn big (a ++ b) := fun w h => (List.mem_append.mp h).elim (ha w) (hb w)
theorem goodIn_ca {big a b : List Cond} {c : Cond} (ha : GoodIn big (c :: a)) (hb : GoodIn big b) : GoodIn big (c :: (a ++ b)) := fun w h => (List.mem_cons.mp h).elim (fun e => ha w (List.mem_cons.mpr (Or.inl e))) (fun h => (List.mem_append.mp h).elim (fun h => ha w (List.mem_cons.mpr (Or.inr h))) (hb w))
theorem goodIn_sub {big ws : List Cond} (hm : ∀ w ∈ ws, w ∈ big) (h : ws.all goodWord = true) : GoodIn big ws := fun w hw => ⟨hm w hw, good_of_word (List.all_eq_true.mp h w hw)⟩
/-! ===== END ===== -/

def RX0 : String := "ClockDesk"
def TX0 : u_T := fun k => match k with
  | 0 => ("ClockDesk", "lows", "[J", true)
  | 1 => ("ClockDesk", "highs", "[J", true)
  | 2 => ("ClockDesk", "held", "I", false)
  | 3 => ("ClockDesk", "ownTime", "J", false)
  | 4 => ("ClockDesk", "clockOffset", "J", false)
  | _ => ("ClockDesk", "goal", "J", false)
def tyX0 : Nat → FieldType := fun k => match k with
  | 0 => .array .long
  | 1 => .array .long
  | 2 => .int
  | 3 => .long
  | 4 => .long
  | _ => .long
abbrev wsX00 : List Cond := u_ws RX0 TX0 6
theorem nmX0 : ∀ a, a < 6 → ∀ b, b < 6 → a ≠ b → (TX0 a).2.1 ≠ (TX0 b).2.1 := by decide +kernel
theorem tyX0_ok : ∀ k, k < 6 → parseFieldDescriptor (TX0 k).2.2.1 = some (tyX0 k) := by decide +kernel
abbrev cX0_init : ByteArray := prog_1_method_1_code
def yX0_init : MethodName := ⟨RX0, "<init>", "()V"⟩
abbrev cX0_interval : ByteArray := prog_1_method_2_code
def yX0_interval : MethodName := ⟨RX0, "interval", "(IJJ)Z"⟩
abbrev cX0_exchange : ByteArray := prog_1_method_3_code
def yX0_exchange : MethodName := ⟨RX0, "exchange", "(IJJJ)J"⟩
abbrev cX0_drop : ByteArray := prog_1_method_4_code
def yX0_drop : MethodName := ⟨RX0, "drop", "(I)Z"⟩
abbrev cX0_sources : ByteArray := prog_1_method_5_code
def yX0_sources : MethodName := ⟨RX0, "sources", "()I"⟩
abbrev cX0_covers : ByteArray := prog_1_method_6_code
def yX0_covers : MethodName := ⟨RX0, "covers", "(J)I"⟩
abbrev cX0_greatest : ByteArray := prog_1_method_7_code
def yX0_greatest : MethodName := ⟨RX0, "greatest", "()I"⟩
abbrev cX0_region : ByteArray := prog_1_method_8_code
def yX0_region : MethodName := ⟨RX0, "region", "(I)J"⟩
abbrev cX0_hull : ByteArray := prog_1_method_9_code
def yX0_hull : MethodName := ⟨RX0, "hull", "(II)J"⟩
abbrev cX0_chosen : ByteArray := prog_1_method_10_code
def yX0_chosen : MethodName := ⟨RX0, "chosen", "(I)Z"⟩
abbrev cX0_mean : ByteArray := prog_1_method_11_code
def yX0_mean : MethodName := ⟨RX0, "mean", "(JI)J"⟩
abbrev cX0_survivors : ByteArray := prog_1_method_12_code
def yX0_survivors : MethodName := ⟨RX0, "survivors", "(I)I"⟩
abbrev cX0_rank : ByteArray := prog_1_method_13_code
def yX0_rank : MethodName := ⟨RX0, "rank", "(II)I"⟩
abbrev cX0_tick : ByteArray := prog_1_method_14_code
def yX0_tick : MethodName := ⟨RX0, "tick", "(J)Z"⟩
abbrev cX0_steer : ByteArray := prog_1_method_15_code
def yX0_steer : MethodName := ⟨RX0, "steer", "()Z"⟩
abbrev cX0_read : ByteArray := prog_1_method_16_code
def yX0_read : MethodName := ⟨RX0, "read", "()J"⟩
abbrev cX0_offset : ByteArray := prog_1_method_17_code
def yX0_offset : MethodName := ⟨RX0, "offset", "(I)J"⟩
abbrev cX0_settles : ByteArray := prog_1_method_18_code
def yX0_settles : MethodName := ⟨RX0, "settles", "()J"⟩
abbrev cX0_isSource : ByteArray := prog_1_method_19_code
def yX0_isSource : MethodName := ⟨RX0, "isSource", "(I)Z"⟩
abbrev cX0_isTime : ByteArray := prog_1_method_20_code
def yX0_isTime : MethodName := ⟨RX0, "isTime", "(J)Z"⟩
abbrev cX0_isCount : ByteArray := prog_1_method_21_code
def yX0_isCount : MethodName := ⟨RX0, "isCount", "(I)Z"⟩
abbrev cX0_isZeroOrOne : ByteArray := prog_1_method_22_code
def yX0_isZeroOrOne : MethodName := ⟨RX0, "isZeroOrOne", "(I)Z"⟩
abbrev cX0_half : ByteArray := prog_1_method_23_code
def yX0_half : MethodName := ⟨RX0, "half", "(J)J"⟩
abbrev cX0_isIn : ByteArray := prog_1_method_24_code
def yX0_isIn : MethodName := ⟨RX0, "isIn", "(II)Z"⟩
abbrev cX0_without : ByteArray := prog_1_method_25_code
def yX0_without : MethodName := ⟨RX0, "without", "(II)I"⟩
abbrev cX0_hold : ByteArray := prog_1_method_26_code
def yX0_hold : MethodName := ⟨RX0, "hold", "(IJJ)V"⟩
abbrev cX0_isCoveredBy : ByteArray := prog_1_method_27_code
def yX0_isCoveredBy : MethodName := ⟨RX0, "isCoveredBy", "(IJ)Z"⟩
abbrev cX0_leastCoveredBy : ByteArray := prog_1_method_28_code
def yX0_leastCoveredBy : MethodName := ⟨RX0, "leastCoveredBy", "(I)J"⟩
abbrev cX0_greatestCoveredBy : ByteArray := prog_1_method_29_code
def yX0_greatestCoveredBy : MethodName := ⟨RX0, "greatestCoveredBy", "(I)J"⟩
abbrev cX0_endOfRow : ByteArray := prog_1_method_30_code
def yX0_endOfRow : MethodName := ⟨RX0, "endOfRow", "(JI)J"⟩
abbrev cX0_firstHighFrom : ByteArray := prog_1_method_31_code
def yX0_firstHighFrom : MethodName := ⟨RX0, "firstHighFrom", "(J)J"⟩
abbrev cX0_middle : ByteArray := prog_1_method_32_code
def yX0_middle : MethodName := ⟨RX0, "middle", "(I)J"⟩
abbrev cX0_medianMiddle : ByteArray := prog_1_method_33_code
def yX0_medianMiddle : MethodName := ⟨RX0, "medianMiddle", "()J"⟩
abbrev cX0_place : ByteArray := prog_1_method_34_code
def yX0_place : MethodName := ⟨RX0, "place", "(II)I"⟩
abbrev cX0_nearTo : ByteArray := prog_1_method_35_code
def yX0_nearTo : MethodName := ⟨RX0, "nearTo", "(JJ)I"⟩
abbrev cX0_meanMiddle : ByteArray := prog_1_method_36_code
def yX0_meanMiddle : MethodName := ⟨RX0, "meanMiddle", "(I)J"⟩
abbrev cX0_leftOf : ByteArray := prog_1_method_37_code
def yX0_leftOf : MethodName := ⟨RX0, "leftOf", "(I)I"⟩
abbrev cX0_farthest : ByteArray := prog_1_method_38_code
def yX0_farthest : MethodName := ⟨RX0, "farthest", "(I)I"⟩
def RX1 : String := "ClockDeskModel"
def TX1 : u_T := fun k => match k with
  | 0 => ("ClockDeskModel", "is", "[Z", true)
  | 1 => ("ClockDeskModel", "low", "[J", true)
  | 2 => ("ClockDeskModel", "high", "[J", true)
  | 3 => ("ClockDeskModel", "now", "J", false)
  | 4 => ("ClockDeskModel", "offset", "J", false)
  | _ => ("ClockDeskModel", "goal", "J", false)
def tyX1 : Nat → FieldType := fun k => match k with
  | 0 => .array .boolean
  | 1 => .array .long
  | 2 => .array .long
  | 3 => .long
  | 4 => .long
  | _ => .long
abbrev wsX10 : List Cond := u_ws RX1 TX1 6
theorem nmX1 : ∀ a, a < 6 → ∀ b, b < 6 → a ≠ b → (TX1 a).2.1 ≠ (TX1 b).2.1 := by decide +kernel
theorem tyX1_ok : ∀ k, k < 6 → parseFieldDescriptor (TX1 k).2.2.1 = some (tyX1 k) := by decide +kernel
abbrev cX1_init : ByteArray := prog_3_method_1_code
def yX1_init : MethodName := ⟨RX1, "<init>", "()V"⟩
abbrev cX1_isSource : ByteArray := prog_3_method_2_code
def yX1_isSource : MethodName := ⟨RX1, "isSource", "(I)Z"⟩
abbrev cX1_half : ByteArray := prog_3_method_3_code
def yX1_half : MethodName := ⟨RX1, "half", "(J)J"⟩
abbrev cX1_over : ByteArray := prog_3_method_4_code
def yX1_over : MethodName := ⟨RX1, "over", "(JJ)J"⟩
abbrev cX1_size : ByteArray := prog_3_method_5_code
def yX1_size : MethodName := ⟨RX1, "size", "(J)J"⟩
abbrev cX1_interval : ByteArray := prog_3_method_6_code
def yX1_interval : MethodName := ⟨RX1, "interval", "(IJJ)Z"⟩
abbrev cX1_exchange : ByteArray := prog_3_method_7_code
def yX1_exchange : MethodName := ⟨RX1, "exchange", "(IJJJ)J"⟩
abbrev cX1_drop : ByteArray := prog_3_method_8_code
def yX1_drop : MethodName := ⟨RX1, "drop", "(I)Z"⟩
abbrev cX1_sources : ByteArray := prog_3_method_9_code
def yX1_sources : MethodName := ⟨RX1, "sources", "()I"⟩
abbrev cX1_covers : ByteArray := prog_3_method_10_code
def yX1_covers : MethodName := ⟨RX1, "covers", "(J)I"⟩
abbrev cX1_greatest : ByteArray := prog_3_method_11_code
def yX1_greatest : MethodName := ⟨RX1, "greatest", "()I"⟩
abbrev cX1_first : ByteArray := prog_3_method_12_code
def yX1_first : MethodName := ⟨RX1, "first", "(I)J"⟩
abbrev cX1_last : ByteArray := prog_3_method_13_code
def yX1_last : MethodName := ⟨RX1, "last", "(I)J"⟩
abbrev cX1_region : ByteArray := prog_3_method_14_code
def yX1_region : MethodName := ⟨RX1, "region", "(I)J"⟩
abbrev cX1_hull : ByteArray := prog_3_method_15_code
def yX1_hull : MethodName := ⟨RX1, "hull", "(II)J"⟩
abbrev cX1_chosen : ByteArray := prog_3_method_16_code
def yX1_chosen : MethodName := ⟨RX1, "chosen", "(I)Z"⟩
abbrev cX1_middle : ByteArray := prog_3_method_17_code
def yX1_middle : MethodName := ⟨RX1, "middle", "(I)J"⟩
abbrev cX1_median : ByteArray := prog_3_method_18_code
def yX1_median : MethodName := ⟨RX1, "median", "()J"⟩
abbrev cX1_mean : ByteArray := prog_3_method_19_code
def yX1_mean : MethodName := ⟨RX1, "mean", "(JI)J"⟩
abbrev cX1_survivors : ByteArray := prog_3_method_20_code
def yX1_survivors : MethodName := ⟨RX1, "survivors", "(I)I"⟩
abbrev cX1_rank : ByteArray := prog_3_method_21_code
def yX1_rank : MethodName := ⟨RX1, "rank", "(II)I"⟩
abbrev cX1_tick : ByteArray := prog_3_method_22_code
def yX1_tick : MethodName := ⟨RX1, "tick", "(J)Z"⟩
abbrev cX1_steer : ByteArray := prog_3_method_23_code
def yX1_steer : MethodName := ⟨RX1, "steer", "()Z"⟩
abbrev cX1_read : ByteArray := prog_3_method_24_code
def yX1_read : MethodName := ⟨RX1, "read", "()J"⟩
abbrev cX1_offset : ByteArray := prog_3_method_25_code
def yX1_offset : MethodName := ⟨RX1, "offset", "(I)J"⟩
abbrev cX1_settles : ByteArray := prog_3_method_26_code
def yX1_settles : MethodName := ⟨RX1, "settles", "()J"⟩
def RJ6 : String := "java/lang/Integer"
def TJ6 : u_T := fun k => match k with
  | _ => ("", "", "", false)
def tyJ6 : Nat → FieldType := fun k => match k with
  | _ => .int
abbrev wsJ60 : List Cond := u_ws RJ6 TJ6 0
theorem nmJ6 : ∀ a, a < 0 → ∀ b, b < 0 → a ≠ b → (TJ6 a).2.1 ≠ (TJ6 b).2.1 := by decide +kernel
theorem tyJ6_ok : ∀ k, k < 0 → parseFieldDescriptor (TJ6 k).2.2.1 = some (tyJ6 k) := by decide +kernel
abbrev cJ6_bitCount_0f7a4 : ByteArray := prog_4_method_49_code
def yJ6_bitCount_0f7a4 : MethodName := ⟨RJ6, "bitCount", "(I)I"⟩
def RJ9 : String := "java/lang/Math"
def TJ9 : u_T := fun k => match k with
  | _ => ("", "", "", false)
def tyJ9 : Nat → FieldType := fun k => match k with
  | _ => .int
abbrev wsJ90 : List Cond := u_ws RJ9 TJ9 0
theorem nmJ9 : ∀ a, a < 0 → ∀ b, b < 0 → a ≠ b → (TJ9 a).2.1 ≠ (TJ9 b).2.1 := by decide +kernel
theorem tyJ9_ok : ∀ k, k < 0 → parseFieldDescriptor (TJ9 k).2.2.1 = some (tyJ9 k) := by decide +kernel
abbrev cJ9_floorDiv_f86c9 : ByteArray := prog_5_method_49_code
def yJ9_floorDiv_f86c9 : MethodName := ⟨RJ9, "floorDiv", "(JJ)J"⟩
abbrev cJ9_abs_067f4 : ByteArray := prog_5_method_61_code
def yJ9_abs_067f4 : MethodName := ⟨RJ9, "abs", "(J)J"⟩
abbrev cJ9_max_7cf53 : ByteArray := prog_5_method_65_code
def yJ9_max_7cf53 : MethodName := ⟨RJ9, "max", "(II)I"⟩
abbrev cJ9_max_f86c9 : ByteArray := prog_5_method_66_code
def yJ9_max_f86c9 : MethodName := ⟨RJ9, "max", "(JJ)J"⟩
abbrev cJ9_min_f86c9 : ByteArray := prog_5_method_70_code
def yJ9_min_f86c9 : MethodName := ⟨RJ9, "min", "(JJ)J"⟩
def RL : String := "ClockDeskLaw"
abbrev cL_law : ByteArray := code
def yL_law : MethodName := ⟨RL, "law", "([I)Z"⟩
def wsX0_init : List Cond := .code yX0_init cX0_init 1 none :: ([.methodLink RX0 1 objectInit, .instanceMethod objectInit, .code objectInit ⟨#[0xb1]⟩ 1 none, .arrayClass .long, .fieldLink RX0 9 "ClockDesk" "lows" "[J", .fieldLink RX0 13 "ClockDesk" "highs" "[J", .fieldLink RX0 16 "ClockDesk" "held" "I", .fieldLink RX0 20 "ClockDesk" "ownTime" "J", .fieldLink RX0 24 "ClockDesk" "clockOffset" "J", .fieldLink RX0 27 "ClockDesk" "goal" "J"] ++ wsX00)
def wsX0_isSource : List Cond := .code yX0_isSource cX0_isSource 1 (some .boolean) :: ([])
def wsX0_hold : List Cond := .code yX0_hold cX0_hold 6 none :: ([.fieldLink RX0 9 "ClockDesk" "lows" "[J", .fieldLink RX0 13 "ClockDesk" "highs" "[J", .fieldLink RX0 16 "ClockDesk" "held" "I"] ++ wsX00)
def wsX0_interval : List Cond := .code yX0_interval cX0_interval 6 (some .boolean) :: ([.constantLong RX0 34 (-288230376151711744), .constantLong RX0 36 (288230376151711744), .methodLink RX0 30 yX0_isSource, .static yX0_isSource, .initialized RX0, .code yX0_isSource cX0_isSource 1 (some .boolean), .methodLink RX0 38 yX0_hold, .instanceMethod yX0_hold, .selects RX0 yX0_hold yX0_hold, .code yX0_hold cX0_hold 6 none, .fieldLink RX0 9 "ClockDesk" "lows" "[J", .fieldLink RX0 13 "ClockDesk" "highs" "[J", .fieldLink RX0 16 "ClockDesk" "held" "I"] ++ wsX00)
def wsX0_isTime : List Cond := .code yX0_isTime cX0_isTime 2 (some .boolean) :: ([.constantLong RX0 123 (144115188075855872)])
def wsJ9_floorDiv_f86c9 : List Cond := .code yJ9_floorDiv_f86c9 cJ9_floorDiv_f86c9 6 (some .long) :: ([])
def wsX0_half : List Cond := .code yX0_half cX0_half 2 (some .long) :: ([.constantLong RX0 138 (2), .methodLink RX0 140 yJ9_floorDiv_f86c9, .static yJ9_floorDiv_f86c9, .initialized RJ9, .code yJ9_floorDiv_f86c9 cJ9_floorDiv_f86c9 6 (some .long)])
def wsX0_exchange : List Cond := .code yX0_exchange cX0_exchange 8 (some .long) :: ([.constantLong RX0 46 (-4611686018427387904), .methodLink RX0 30 yX0_isSource, .static yX0_isSource, .initialized RX0, .code yX0_isSource cX0_isSource 1 (some .boolean), .methodLink RX0 42 yX0_isTime, .static yX0_isTime, .code yX0_isTime cX0_isTime 2 (some .boolean), .constantLong RX0 123 (144115188075855872), .methodLink RX0 38 yX0_hold, .instanceMethod yX0_hold, .selects RX0 yX0_hold yX0_hold, .code yX0_hold cX0_hold 6 none, .fieldLink RX0 9 "ClockDesk" "lows" "[J", .fieldLink RX0 13 "ClockDesk" "highs" "[J", .fieldLink RX0 16 "ClockDesk" "held" "I", .methodLink RX0 48 yX0_half, .static yX0_half, .code yX0_half cX0_half 2 (some .long), .constantLong RX0 138 (2), .methodLink RX0 140 yJ9_floorDiv_f86c9, .static yJ9_floorDiv_f86c9, .initialized RJ9, .code yJ9_floorDiv_f86c9 cJ9_floorDiv_f86c9 6 (some .long)] ++ wsX00)
def wsX0_isIn : List Cond := .code yX0_isIn cX0_isIn 2 (some .boolean) :: ([.methodLink RX0 30 yX0_isSource, .static yX0_isSource, .initialized RX0, .code yX0_isSource cX0_isSource 1 (some .boolean)])
def wsX0_without : List Cond := .code yX0_without cX0_without 2 (some .int) :: ([])
def wsX0_drop : List Cond := .code yX0_drop cX0_drop 2 (some .boolean) :: ([.fieldLink RX0 16 "ClockDesk" "held" "I", .methodLink RX0 52 yX0_isIn, .static yX0_isIn, .initialized RX0, .code yX0_isIn cX0_isIn 2 (some .boolean), .methodLink RX0 30 yX0_isSource, .static yX0_isSource, .code yX0_isSource cX0_isSource 1 (some .boolean), .methodLink RX0 56 yX0_without, .static yX0_without, .code yX0_without cX0_without 2 (some .int)] ++ wsX00)
def wsJ6_bitCount_0f7a4 : List Cond := .code yJ6_bitCount_0f7a4 cJ6_bitCount_0f7a4 1 (some .int) :: ([.constant RJ6 265 (1431655765), .constant RJ6 266 (858993459), .constant RJ6 267 (252645135)])
def wsX0_sources : List Cond := .code yX0_sources cX0_sources 1 (some .int) :: ([.fieldLink RX0 16 "ClockDesk" "held" "I", .methodLink RX0 60 yJ6_bitCount_0f7a4, .static yJ6_bitCount_0f7a4, .initialized RJ6, .code yJ6_bitCount_0f7a4 cJ6_bitCount_0f7a4 1 (some .int), .constant RJ6 265 (1431655765), .constant RJ6 266 (858993459), .constant RJ6 267 (252645135)] ++ wsX00)
def wsX0_isCoveredBy : List Cond := .code yX0_isCoveredBy cX0_isCoveredBy 4 (some .boolean) :: ([.fieldLink RX0 16 "ClockDesk" "held" "I", .fieldLink RX0 9 "ClockDesk" "lows" "[J", .fieldLink RX0 13 "ClockDesk" "highs" "[J", .methodLink RX0 52 yX0_isIn, .static yX0_isIn, .initialized RX0, .code yX0_isIn cX0_isIn 2 (some .boolean), .methodLink RX0 30 yX0_isSource, .static yX0_isSource, .code yX0_isSource cX0_isSource 1 (some .boolean)] ++ wsX00)
def wsX0_covers : List Cond := .code yX0_covers cX0_covers 5 (some .int) :: ([.methodLink RX0 66 yX0_isCoveredBy, .instanceMethod yX0_isCoveredBy, .selects RX0 yX0_isCoveredBy yX0_isCoveredBy, .initialized RX0, .code yX0_isCoveredBy cX0_isCoveredBy 4 (some .boolean), .fieldLink RX0 16 "ClockDesk" "held" "I", .fieldLink RX0 9 "ClockDesk" "lows" "[J", .fieldLink RX0 13 "ClockDesk" "highs" "[J", .methodLink RX0 52 yX0_isIn, .static yX0_isIn, .code yX0_isIn cX0_isIn 2 (some .boolean), .methodLink RX0 30 yX0_isSource, .static yX0_isSource, .code yX0_isSource cX0_isSource 1 (some .boolean)] ++ wsX00)
def wsX0_greatest : List Cond := .code yX0_greatest cX0_greatest 3 (some .int) :: ([.fieldLink RX0 16 "ClockDesk" "held" "I", .fieldLink RX0 9 "ClockDesk" "lows" "[J", .methodLink RX0 74 Lib.Math.max.name, .static Lib.Math.max.name, .initialized "java/lang/Math", .code Lib.Math.max.name Lib.Math.max.code 2 (some .int), .methodLink RX0 52 yX0_isIn, .static yX0_isIn, .initialized RX0, .code yX0_isIn cX0_isIn 2 (some .boolean), .methodLink RX0 30 yX0_isSource, .static yX0_isSource, .code yX0_isSource cX0_isSource 1 (some .boolean), .methodLink RX0 70 yX0_covers, .instanceMethod yX0_covers, .selects RX0 yX0_covers yX0_covers, .code yX0_covers cX0_covers 5 (some .int), .methodLink RX0 66 yX0_isCoveredBy, .instanceMethod yX0_isCoveredBy, .selects RX0 yX0_isCoveredBy yX0_isCoveredBy, .code yX0_isCoveredBy cX0_isCoveredBy 4 (some .boolean), .fieldLink RX0 13 "ClockDesk" "highs" "[J"] ++ wsX00)
def wsX0_isZeroOrOne : List Cond := .code yX0_isZeroOrOne cX0_isZeroOrOne 1 (some .boolean) :: ([])
def wsX0_leastCoveredBy : List Cond := .code yX0_leastCoveredBy cX0_leastCoveredBy 5 (some .long) :: ([.constantLong RX0 46 (-4611686018427387904), .fieldLink RX0 16 "ClockDesk" "held" "I", .fieldLink RX0 9 "ClockDesk" "lows" "[J", .methodLink RX0 52 yX0_isIn, .static yX0_isIn, .initialized RX0, .code yX0_isIn cX0_isIn 2 (some .boolean), .methodLink RX0 30 yX0_isSource, .static yX0_isSource, .code yX0_isSource cX0_isSource 1 (some .boolean), .methodLink RX0 70 yX0_covers, .instanceMethod yX0_covers, .selects RX0 yX0_covers yX0_covers, .code yX0_covers cX0_covers 5 (some .int), .methodLink RX0 66 yX0_isCoveredBy, .instanceMethod yX0_isCoveredBy, .selects RX0 yX0_isCoveredBy yX0_isCoveredBy, .code yX0_isCoveredBy cX0_isCoveredBy 4 (some .boolean), .fieldLink RX0 13 "ClockDesk" "highs" "[J"] ++ wsX00)
def wsX0_firstHighFrom : List Cond := .code yX0_firstHighFrom cX0_firstHighFrom 6 (some .long) :: ([.constantLong RX0 36 (288230376151711744), .fieldLink RX0 13 "ClockDesk" "highs" "[J", .methodLink RX0 127 Lib.MathLoose.min_long.x, .static Lib.MathLoose.min_long.x, .initialized "java/lang/Math", .code Lib.MathLoose.min_long.x Lib.MathLoose.min_long.code 4 (some .long), .methodLink RX0 66 yX0_isCoveredBy, .instanceMethod yX0_isCoveredBy, .selects RX0 yX0_isCoveredBy yX0_isCoveredBy, .initialized RX0, .code yX0_isCoveredBy cX0_isCoveredBy 4 (some .boolean), .fieldLink RX0 16 "ClockDesk" "held" "I", .fieldLink RX0 9 "ClockDesk" "lows" "[J", .methodLink RX0 52 yX0_isIn, .static yX0_isIn, .code yX0_isIn cX0_isIn 2 (some .boolean), .methodLink RX0 30 yX0_isSource, .static yX0_isSource, .code yX0_isSource cX0_isSource 1 (some .boolean)] ++ wsX00)
def wsX0_endOfRow_r1 : List Cond := [Cond.methodLink RX0 143 yX0_firstHighFrom, Cond.instanceMethod yX0_firstHighFrom, Cond.selects RX0 yX0_firstHighFrom yX0_firstHighFrom, Cond.initialized RX0, Cond.code yX0_firstHighFrom cX0_firstHighFrom 6 (some .long), Cond.constantLong RX0 36 (288230376151711744), Cond.fieldLink RX0 13 "ClockDesk" "highs" "[J", Cond.methodLink RX0 127 Lib.MathLoose.min_long.x, Cond.static Lib.MathLoose.min_long.x, Cond.initialized "java/lang/Math", Cond.code Lib.MathLoose.min_long.x Lib.MathLoose.min_long.code 4 (some .long), Cond.methodLink RX0 66 yX0_isCoveredBy, Cond.instanceMethod yX0_isCoveredBy, Cond.selects RX0 yX0_isCoveredBy yX0_isCoveredBy, Cond.code yX0_isCoveredBy cX0_isCoveredBy 4 (some .boolean), Cond.fieldLink RX0 16 "ClockDesk" "held" "I", Cond.fieldLink RX0 9 "ClockDesk" "lows" "[J", Cond.methodLink RX0 52 yX0_isIn, Cond.static yX0_isIn, Cond.code yX0_isIn cX0_isIn 2 (some .boolean), Cond.methodLink RX0 30 yX0_isSource, Cond.static yX0_isSource, Cond.code yX0_isSource cX0_isSource 1 (some .boolean), Cond.methodLink RX0 70 yX0_covers]
def wsX0_endOfRow_r2 : List Cond := [Cond.instanceMethod yX0_covers, Cond.selects RX0 yX0_covers yX0_covers, Cond.code yX0_covers cX0_covers 5 (some .int)]
def wsX0_endOfRow : List Cond := .code yX0_endOfRow cX0_endOfRow 7 (some .long) :: ((wsX0_endOfRow_r1 ++ wsX0_endOfRow_r2) ++ wsX00)
def wsX0_region_r1 : List Cond := [Cond.fieldLink RX0 16 "ClockDesk" "held" "I", Cond.constantLong RX0 46 (-4611686018427387904), Cond.methodLink RX0 79 yX0_isZeroOrOne, Cond.static yX0_isZeroOrOne, Cond.initialized RX0, Cond.code yX0_isZeroOrOne cX0_isZeroOrOne 1 (some .boolean), Cond.methodLink RX0 82 yX0_greatest, Cond.instanceMethod yX0_greatest, Cond.selects RX0 yX0_greatest yX0_greatest, Cond.code yX0_greatest cX0_greatest 3 (some .int), Cond.fieldLink RX0 9 "ClockDesk" "lows" "[J", Cond.methodLink RX0 74 Lib.Math.max.name, Cond.static Lib.Math.max.name, Cond.initialized "java/lang/Math", Cond.code Lib.Math.max.name Lib.Math.max.code 2 (some .int), Cond.methodLink RX0 52 yX0_isIn, Cond.static yX0_isIn, Cond.code yX0_isIn cX0_isIn 2 (some .boolean), Cond.methodLink RX0 30 yX0_isSource, Cond.static yX0_isSource, Cond.code yX0_isSource cX0_isSource 1 (some .boolean), Cond.methodLink RX0 70 yX0_covers, Cond.instanceMethod yX0_covers, Cond.selects RX0 yX0_covers yX0_covers]
def wsX0_region_r2 : List Cond := [Cond.code yX0_covers cX0_covers 5 (some .int), Cond.methodLink RX0 66 yX0_isCoveredBy, Cond.instanceMethod yX0_isCoveredBy, Cond.selects RX0 yX0_isCoveredBy yX0_isCoveredBy, Cond.code yX0_isCoveredBy cX0_isCoveredBy 4 (some .boolean), Cond.fieldLink RX0 13 "ClockDesk" "highs" "[J", Cond.methodLink RX0 86 yX0_leastCoveredBy, Cond.instanceMethod yX0_leastCoveredBy, Cond.selects RX0 yX0_leastCoveredBy yX0_leastCoveredBy, Cond.code yX0_leastCoveredBy cX0_leastCoveredBy 5 (some .long), Cond.methodLink RX0 90 yX0_endOfRow, Cond.instanceMethod yX0_endOfRow, Cond.selects RX0 yX0_endOfRow yX0_endOfRow, Cond.code yX0_endOfRow cX0_endOfRow 7 (some .long), Cond.methodLink RX0 143 yX0_firstHighFrom, Cond.instanceMethod yX0_firstHighFrom, Cond.selects RX0 yX0_firstHighFrom yX0_firstHighFrom, Cond.code yX0_firstHighFrom cX0_firstHighFrom 6 (some .long), Cond.constantLong RX0 36 (288230376151711744), Cond.methodLink RX0 127 Lib.MathLoose.min_long.x, Cond.static Lib.MathLoose.min_long.x, Cond.code Lib.MathLoose.min_long.x Lib.MathLoose.min_long.code 4 (some .long)]
def wsX0_region : List Cond := .code yX0_region cX0_region 5 (some .long) :: ((wsX0_region_r1 ++ wsX0_region_r2) ++ wsX00)
def wsX0_greatestCoveredBy : List Cond := .code yX0_greatestCoveredBy cX0_greatestCoveredBy 5 (some .long) :: ([.constantLong RX0 46 (-4611686018427387904), .fieldLink RX0 16 "ClockDesk" "held" "I", .fieldLink RX0 13 "ClockDesk" "highs" "[J", .methodLink RX0 131 Lib.MathLoose.max_long.x, .static Lib.MathLoose.max_long.x, .initialized "java/lang/Math", .code Lib.MathLoose.max_long.x Lib.MathLoose.max_long.code 4 (some .long), .methodLink RX0 52 yX0_isIn, .static yX0_isIn, .initialized RX0, .code yX0_isIn cX0_isIn 2 (some .boolean), .methodLink RX0 30 yX0_isSource, .static yX0_isSource, .code yX0_isSource cX0_isSource 1 (some .boolean), .methodLink RX0 70 yX0_covers, .instanceMethod yX0_covers, .selects RX0 yX0_covers yX0_covers, .code yX0_covers cX0_covers 5 (some .int), .methodLink RX0 66 yX0_isCoveredBy, .instanceMethod yX0_isCoveredBy, .selects RX0 yX0_isCoveredBy yX0_isCoveredBy, .code yX0_isCoveredBy cX0_isCoveredBy 4 (some .boolean), .fieldLink RX0 9 "ClockDesk" "lows" "[J"] ++ wsX00)
def wsX0_hull_r1 : List Cond := [Cond.constantLong RX0 46 (-4611686018427387904), Cond.methodLink RX0 94 yX0_sources, Cond.instanceMethod yX0_sources, Cond.selects RX0 yX0_sources yX0_sources, Cond.initialized RX0, Cond.code yX0_sources cX0_sources 1 (some .int), Cond.fieldLink RX0 16 "ClockDesk" "held" "I", Cond.methodLink RX0 60 yJ6_bitCount_0f7a4, Cond.static yJ6_bitCount_0f7a4, Cond.initialized RJ6, Cond.code yJ6_bitCount_0f7a4 cJ6_bitCount_0f7a4 1 (some .int), Cond.constant RJ6 265 (1431655765), Cond.constant RJ6 266 (858993459), Cond.constant RJ6 267 (252645135), Cond.methodLink RX0 79 yX0_isZeroOrOne, Cond.static yX0_isZeroOrOne, Cond.code yX0_isZeroOrOne cX0_isZeroOrOne 1 (some .boolean), Cond.methodLink RX0 86 yX0_leastCoveredBy, Cond.instanceMethod yX0_leastCoveredBy, Cond.selects RX0 yX0_leastCoveredBy yX0_leastCoveredBy, Cond.code yX0_leastCoveredBy cX0_leastCoveredBy 5 (some .long), Cond.fieldLink RX0 9 "ClockDesk" "lows" "[J", Cond.methodLink RX0 52 yX0_isIn, Cond.static yX0_isIn]
def wsX0_hull_r2 : List Cond := [Cond.code yX0_isIn cX0_isIn 2 (some .boolean), Cond.methodLink RX0 30 yX0_isSource, Cond.static yX0_isSource, Cond.code yX0_isSource cX0_isSource 1 (some .boolean), Cond.methodLink RX0 70 yX0_covers, Cond.instanceMethod yX0_covers, Cond.selects RX0 yX0_covers yX0_covers, Cond.code yX0_covers cX0_covers 5 (some .int), Cond.methodLink RX0 66 yX0_isCoveredBy, Cond.instanceMethod yX0_isCoveredBy, Cond.selects RX0 yX0_isCoveredBy yX0_isCoveredBy, Cond.code yX0_isCoveredBy cX0_isCoveredBy 4 (some .boolean), Cond.fieldLink RX0 13 "ClockDesk" "highs" "[J", Cond.methodLink RX0 97 yX0_greatestCoveredBy, Cond.instanceMethod yX0_greatestCoveredBy, Cond.selects RX0 yX0_greatestCoveredBy yX0_greatestCoveredBy, Cond.code yX0_greatestCoveredBy cX0_greatestCoveredBy 5 (some .long), Cond.methodLink RX0 131 Lib.MathLoose.max_long.x, Cond.static Lib.MathLoose.max_long.x, Cond.initialized "java/lang/Math", Cond.code Lib.MathLoose.max_long.x Lib.MathLoose.max_long.code 4 (some .long)]
def wsX0_hull : List Cond := .code yX0_hull cX0_hull 4 (some .long) :: ((wsX0_hull_r1 ++ wsX0_hull_r2) ++ wsX00)
def wsX0_chosen_r1 : List Cond := [Cond.fieldLink RX0 16 "ClockDesk" "held" "I", Cond.fieldLink RX0 9 "ClockDesk" "lows" "[J", Cond.fieldLink RX0 13 "ClockDesk" "highs" "[J", Cond.methodLink RX0 52 yX0_isIn, Cond.static yX0_isIn, Cond.initialized RX0, Cond.code yX0_isIn cX0_isIn 2 (some .boolean), Cond.methodLink RX0 30 yX0_isSource, Cond.static yX0_isSource, Cond.code yX0_isSource cX0_isSource 1 (some .boolean), Cond.methodLink RX0 100 yX0_region, Cond.instanceMethod yX0_region, Cond.selects RX0 yX0_region yX0_region, Cond.code yX0_region cX0_region 5 (some .long), Cond.constantLong RX0 46 (-4611686018427387904), Cond.methodLink RX0 79 yX0_isZeroOrOne, Cond.static yX0_isZeroOrOne, Cond.code yX0_isZeroOrOne cX0_isZeroOrOne 1 (some .boolean), Cond.methodLink RX0 82 yX0_greatest, Cond.instanceMethod yX0_greatest, Cond.selects RX0 yX0_greatest yX0_greatest, Cond.code yX0_greatest cX0_greatest 3 (some .int), Cond.methodLink RX0 74 Lib.Math.max.name, Cond.static Lib.Math.max.name]
def wsX0_chosen_r2 : List Cond := [Cond.initialized "java/lang/Math", Cond.code Lib.Math.max.name Lib.Math.max.code 2 (some .int), Cond.methodLink RX0 70 yX0_covers, Cond.instanceMethod yX0_covers, Cond.selects RX0 yX0_covers yX0_covers, Cond.code yX0_covers cX0_covers 5 (some .int), Cond.methodLink RX0 66 yX0_isCoveredBy, Cond.instanceMethod yX0_isCoveredBy, Cond.selects RX0 yX0_isCoveredBy yX0_isCoveredBy, Cond.code yX0_isCoveredBy cX0_isCoveredBy 4 (some .boolean), Cond.methodLink RX0 86 yX0_leastCoveredBy, Cond.instanceMethod yX0_leastCoveredBy, Cond.selects RX0 yX0_leastCoveredBy yX0_leastCoveredBy, Cond.code yX0_leastCoveredBy cX0_leastCoveredBy 5 (some .long), Cond.methodLink RX0 90 yX0_endOfRow, Cond.instanceMethod yX0_endOfRow, Cond.selects RX0 yX0_endOfRow yX0_endOfRow, Cond.code yX0_endOfRow cX0_endOfRow 7 (some .long), Cond.methodLink RX0 143 yX0_firstHighFrom, Cond.instanceMethod yX0_firstHighFrom, Cond.selects RX0 yX0_firstHighFrom yX0_firstHighFrom, Cond.code yX0_firstHighFrom cX0_firstHighFrom 6 (some .long), Cond.constantLong RX0 36 (288230376151711744), Cond.methodLink RX0 127 Lib.MathLoose.min_long.x]
def wsX0_chosen_r3 : List Cond := [Cond.static Lib.MathLoose.min_long.x, Cond.code Lib.MathLoose.min_long.x Lib.MathLoose.min_long.code 4 (some .long)]
def wsX0_chosen : List Cond := .code yX0_chosen cX0_chosen 2 (some .boolean) :: ((wsX0_chosen_r1 ++ (wsX0_chosen_r2 ++ wsX0_chosen_r3)) ++ wsX00)
def wsX0_middle : List Cond := .code yX0_middle cX0_middle 2 (some .long) :: ([.fieldLink RX0 9 "ClockDesk" "lows" "[J", .fieldLink RX0 13 "ClockDesk" "highs" "[J", .methodLink RX0 48 yX0_half, .static yX0_half, .initialized RX0, .code yX0_half cX0_half 2 (some .long), .constantLong RX0 138 (2), .methodLink RX0 140 yJ9_floorDiv_f86c9, .static yJ9_floorDiv_f86c9, .initialized RJ9, .code yJ9_floorDiv_f86c9 cJ9_floorDiv_f86c9 6 (some .long)] ++ wsX00)
def wsX0_place : List Cond := .code yX0_place cX0_place 7 (some .int) :: ([.methodLink RX0 146 yX0_middle, .instanceMethod yX0_middle, .selects RX0 yX0_middle yX0_middle, .initialized RX0, .code yX0_middle cX0_middle 2 (some .long), .fieldLink RX0 9 "ClockDesk" "lows" "[J", .fieldLink RX0 13 "ClockDesk" "highs" "[J", .methodLink RX0 48 yX0_half, .static yX0_half, .code yX0_half cX0_half 2 (some .long), .constantLong RX0 138 (2), .methodLink RX0 140 yJ9_floorDiv_f86c9, .static yJ9_floorDiv_f86c9, .initialized RJ9, .code yJ9_floorDiv_f86c9 cJ9_floorDiv_f86c9 6 (some .long), .methodLink RX0 52 yX0_isIn, .static yX0_isIn, .code yX0_isIn cX0_isIn 2 (some .boolean), .methodLink RX0 30 yX0_isSource, .static yX0_isSource, .code yX0_isSource cX0_isSource 1 (some .boolean)] ++ wsX00)
def wsX0_medianMiddle_r1 : List Cond := [Cond.fieldLink RX0 16 "ClockDesk" "held" "I", Cond.constantLong RX0 46 (-4611686018427387904), Cond.methodLink RX0 94 yX0_sources, Cond.instanceMethod yX0_sources, Cond.selects RX0 yX0_sources yX0_sources, Cond.initialized RX0, Cond.code yX0_sources cX0_sources 1 (some .int), Cond.methodLink RX0 60 yJ6_bitCount_0f7a4, Cond.static yJ6_bitCount_0f7a4, Cond.initialized RJ6, Cond.code yJ6_bitCount_0f7a4 cJ6_bitCount_0f7a4 1 (some .int), Cond.constant RJ6 265 (1431655765), Cond.constant RJ6 266 (858993459), Cond.constant RJ6 267 (252645135), Cond.methodLink RX0 52 yX0_isIn, Cond.static yX0_isIn, Cond.code yX0_isIn cX0_isIn 2 (some .boolean), Cond.methodLink RX0 30 yX0_isSource, Cond.static yX0_isSource, Cond.code yX0_isSource cX0_isSource 1 (some .boolean), Cond.methodLink RX0 120 yX0_place, Cond.instanceMethod yX0_place, Cond.selects RX0 yX0_place yX0_place, Cond.code yX0_place cX0_place 7 (some .int)]
def wsX0_medianMiddle_r2 : List Cond := [Cond.methodLink RX0 146 yX0_middle, Cond.instanceMethod yX0_middle, Cond.selects RX0 yX0_middle yX0_middle, Cond.code yX0_middle cX0_middle 2 (some .long), Cond.fieldLink RX0 9 "ClockDesk" "lows" "[J", Cond.fieldLink RX0 13 "ClockDesk" "highs" "[J", Cond.methodLink RX0 48 yX0_half, Cond.static yX0_half, Cond.code yX0_half cX0_half 2 (some .long), Cond.constantLong RX0 138 (2), Cond.methodLink RX0 140 yJ9_floorDiv_f86c9, Cond.static yJ9_floorDiv_f86c9, Cond.initialized RJ9, Cond.code yJ9_floorDiv_f86c9 cJ9_floorDiv_f86c9 6 (some .long)]
def wsX0_medianMiddle : List Cond := .code yX0_medianMiddle cX0_medianMiddle 3 (some .long) :: ((wsX0_medianMiddle_r1 ++ wsX0_medianMiddle_r2) ++ wsX00)
def wsX0_nearTo_r1 : List Cond := [Cond.fieldLink RX0 16 "ClockDesk" "held" "I", Cond.methodLink RX0 133 Lib.MathLoose.abs_long.x, Cond.static Lib.MathLoose.abs_long.x, Cond.initialized "java/lang/Math", Cond.code Lib.MathLoose.abs_long.x Lib.MathLoose.abs_long.code 2 (some .long), Cond.methodLink RX0 52 yX0_isIn, Cond.static yX0_isIn, Cond.initialized RX0, Cond.code yX0_isIn cX0_isIn 2 (some .boolean), Cond.methodLink RX0 30 yX0_isSource, Cond.static yX0_isSource, Cond.code yX0_isSource cX0_isSource 1 (some .boolean), Cond.methodLink RX0 146 yX0_middle, Cond.instanceMethod yX0_middle, Cond.selects RX0 yX0_middle yX0_middle, Cond.code yX0_middle cX0_middle 2 (some .long), Cond.fieldLink RX0 9 "ClockDesk" "lows" "[J", Cond.fieldLink RX0 13 "ClockDesk" "highs" "[J", Cond.methodLink RX0 48 yX0_half, Cond.static yX0_half, Cond.code yX0_half cX0_half 2 (some .long), Cond.constantLong RX0 138 (2), Cond.methodLink RX0 140 yJ9_floorDiv_f86c9, Cond.static yJ9_floorDiv_f86c9]
def wsX0_nearTo_r2 : List Cond := [Cond.initialized RJ9, Cond.code yJ9_floorDiv_f86c9 cJ9_floorDiv_f86c9 6 (some .long), Cond.methodLink RX0 56 yX0_without, Cond.static yX0_without, Cond.code yX0_without cX0_without 2 (some .int)]
def wsX0_nearTo : List Cond := .code yX0_nearTo cX0_nearTo 7 (some .int) :: ((wsX0_nearTo_r1 ++ wsX0_nearTo_r2) ++ wsX00)
def wsX0_meanMiddle_r1 : List Cond := [Cond.constantLong RX0 46 (-4611686018427387904), Cond.methodLink RX0 52 yX0_isIn, Cond.static yX0_isIn, Cond.initialized RX0, Cond.code yX0_isIn cX0_isIn 2 (some .boolean), Cond.methodLink RX0 30 yX0_isSource, Cond.static yX0_isSource, Cond.code yX0_isSource cX0_isSource 1 (some .boolean), Cond.methodLink RX0 146 yX0_middle, Cond.instanceMethod yX0_middle, Cond.selects RX0 yX0_middle yX0_middle, Cond.code yX0_middle cX0_middle 2 (some .long), Cond.fieldLink RX0 9 "ClockDesk" "lows" "[J", Cond.fieldLink RX0 13 "ClockDesk" "highs" "[J", Cond.methodLink RX0 48 yX0_half, Cond.static yX0_half, Cond.code yX0_half cX0_half 2 (some .long), Cond.constantLong RX0 138 (2), Cond.methodLink RX0 140 yJ9_floorDiv_f86c9, Cond.static yJ9_floorDiv_f86c9, Cond.initialized RJ9, Cond.code yJ9_floorDiv_f86c9 cJ9_floorDiv_f86c9 6 (some .long), Cond.methodLink RX0 60 yJ6_bitCount_0f7a4, Cond.static yJ6_bitCount_0f7a4]
def wsX0_meanMiddle_r2 : List Cond := [Cond.initialized RJ6, Cond.code yJ6_bitCount_0f7a4 cJ6_bitCount_0f7a4 1 (some .int), Cond.constant RJ6 265 (1431655765), Cond.constant RJ6 266 (858993459), Cond.constant RJ6 267 (252645135)]
def wsX0_meanMiddle : List Cond := .code yX0_meanMiddle cX0_meanMiddle 5 (some .long) :: ((wsX0_meanMiddle_r1 ++ wsX0_meanMiddle_r2) ++ wsX00)
def wsX0_mean_r1 : List Cond := [Cond.fieldLink RX0 16 "ClockDesk" "held" "I", Cond.constantLong RX0 46 (-4611686018427387904), Cond.methodLink RX0 79 yX0_isZeroOrOne, Cond.static yX0_isZeroOrOne, Cond.initialized RX0, Cond.code yX0_isZeroOrOne cX0_isZeroOrOne 1 (some .boolean), Cond.methodLink RX0 103 yX0_medianMiddle, Cond.instanceMethod yX0_medianMiddle, Cond.selects RX0 yX0_medianMiddle yX0_medianMiddle, Cond.code yX0_medianMiddle cX0_medianMiddle 3 (some .long), Cond.methodLink RX0 94 yX0_sources, Cond.instanceMethod yX0_sources, Cond.selects RX0 yX0_sources yX0_sources, Cond.code yX0_sources cX0_sources 1 (some .int), Cond.methodLink RX0 60 yJ6_bitCount_0f7a4, Cond.static yJ6_bitCount_0f7a4, Cond.initialized RJ6, Cond.code yJ6_bitCount_0f7a4 cJ6_bitCount_0f7a4 1 (some .int), Cond.constant RJ6 265 (1431655765), Cond.constant RJ6 266 (858993459), Cond.constant RJ6 267 (252645135), Cond.methodLink RX0 52 yX0_isIn, Cond.static yX0_isIn, Cond.code yX0_isIn cX0_isIn 2 (some .boolean)]
def wsX0_mean_r2 : List Cond := [Cond.methodLink RX0 30 yX0_isSource, Cond.static yX0_isSource, Cond.code yX0_isSource cX0_isSource 1 (some .boolean), Cond.methodLink RX0 120 yX0_place, Cond.instanceMethod yX0_place, Cond.selects RX0 yX0_place yX0_place, Cond.code yX0_place cX0_place 7 (some .int), Cond.methodLink RX0 146 yX0_middle, Cond.instanceMethod yX0_middle, Cond.selects RX0 yX0_middle yX0_middle, Cond.code yX0_middle cX0_middle 2 (some .long), Cond.fieldLink RX0 9 "ClockDesk" "lows" "[J", Cond.fieldLink RX0 13 "ClockDesk" "highs" "[J", Cond.methodLink RX0 48 yX0_half, Cond.static yX0_half, Cond.code yX0_half cX0_half 2 (some .long), Cond.constantLong RX0 138 (2), Cond.methodLink RX0 140 yJ9_floorDiv_f86c9, Cond.static yJ9_floorDiv_f86c9, Cond.initialized RJ9, Cond.code yJ9_floorDiv_f86c9 cJ9_floorDiv_f86c9 6 (some .long), Cond.methodLink RX0 107 yX0_nearTo, Cond.instanceMethod yX0_nearTo, Cond.selects RX0 yX0_nearTo yX0_nearTo]
def wsX0_mean_r3 : List Cond := [Cond.code yX0_nearTo cX0_nearTo 7 (some .int), Cond.methodLink RX0 133 Lib.MathLoose.abs_long.x, Cond.static Lib.MathLoose.abs_long.x, Cond.initialized "java/lang/Math", Cond.code Lib.MathLoose.abs_long.x Lib.MathLoose.abs_long.code 2 (some .long), Cond.methodLink RX0 56 yX0_without, Cond.static yX0_without, Cond.code yX0_without cX0_without 2 (some .int), Cond.methodLink RX0 111 yX0_meanMiddle, Cond.instanceMethod yX0_meanMiddle, Cond.selects RX0 yX0_meanMiddle yX0_meanMiddle, Cond.code yX0_meanMiddle cX0_meanMiddle 5 (some .long)]
def wsX0_mean : List Cond := .code yX0_mean cX0_mean 5 (some .long) :: ((wsX0_mean_r1 ++ (wsX0_mean_r2 ++ wsX0_mean_r3)) ++ wsX00)
def wsX0_isCount : List Cond := .code yX0_isCount cX0_isCount 1 (some .boolean) :: ([])
def wsX0_farthest_r1 : List Cond := [Cond.methodLink RX0 133 Lib.MathLoose.abs_long.x, Cond.static Lib.MathLoose.abs_long.x, Cond.initialized "java/lang/Math", Cond.code Lib.MathLoose.abs_long.x Lib.MathLoose.abs_long.code 2 (some .long), Cond.methodLink RX0 111 yX0_meanMiddle, Cond.instanceMethod yX0_meanMiddle, Cond.selects RX0 yX0_meanMiddle yX0_meanMiddle, Cond.initialized RX0, Cond.code yX0_meanMiddle cX0_meanMiddle 5 (some .long), Cond.constantLong RX0 46 (-4611686018427387904), Cond.methodLink RX0 52 yX0_isIn, Cond.static yX0_isIn, Cond.code yX0_isIn cX0_isIn 2 (some .boolean), Cond.methodLink RX0 30 yX0_isSource, Cond.static yX0_isSource, Cond.code yX0_isSource cX0_isSource 1 (some .boolean), Cond.methodLink RX0 146 yX0_middle, Cond.instanceMethod yX0_middle, Cond.selects RX0 yX0_middle yX0_middle, Cond.code yX0_middle cX0_middle 2 (some .long), Cond.fieldLink RX0 9 "ClockDesk" "lows" "[J", Cond.fieldLink RX0 13 "ClockDesk" "highs" "[J", Cond.methodLink RX0 48 yX0_half, Cond.static yX0_half]
def wsX0_farthest_r2 : List Cond := [Cond.code yX0_half cX0_half 2 (some .long), Cond.constantLong RX0 138 (2), Cond.methodLink RX0 140 yJ9_floorDiv_f86c9, Cond.static yJ9_floorDiv_f86c9, Cond.initialized RJ9, Cond.code yJ9_floorDiv_f86c9 cJ9_floorDiv_f86c9 6 (some .long), Cond.methodLink RX0 60 yJ6_bitCount_0f7a4, Cond.static yJ6_bitCount_0f7a4, Cond.initialized RJ6, Cond.code yJ6_bitCount_0f7a4 cJ6_bitCount_0f7a4 1 (some .int), Cond.constant RJ6 265 (1431655765), Cond.constant RJ6 266 (858993459), Cond.constant RJ6 267 (252645135)]
def wsX0_farthest : List Cond := .code yX0_farthest cX0_farthest 8 (some .int) :: ((wsX0_farthest_r1 ++ wsX0_farthest_r2) ++ wsX00)
def wsX0_leftOf_r1 : List Cond := [Cond.fieldLink RX0 16 "ClockDesk" "held" "I", Cond.methodLink RX0 60 yJ6_bitCount_0f7a4, Cond.static yJ6_bitCount_0f7a4, Cond.initialized RJ6, Cond.code yJ6_bitCount_0f7a4 cJ6_bitCount_0f7a4 1 (some .int), Cond.constant RJ6 265 (1431655765), Cond.constant RJ6 266 (858993459), Cond.constant RJ6 267 (252645135), Cond.methodLink RX0 149 yX0_farthest, Cond.instanceMethod yX0_farthest, Cond.selects RX0 yX0_farthest yX0_farthest, Cond.initialized RX0, Cond.code yX0_farthest cX0_farthest 8 (some .int), Cond.methodLink RX0 133 Lib.MathLoose.abs_long.x, Cond.static Lib.MathLoose.abs_long.x, Cond.initialized "java/lang/Math", Cond.code Lib.MathLoose.abs_long.x Lib.MathLoose.abs_long.code 2 (some .long), Cond.methodLink RX0 111 yX0_meanMiddle, Cond.instanceMethod yX0_meanMiddle, Cond.selects RX0 yX0_meanMiddle yX0_meanMiddle, Cond.code yX0_meanMiddle cX0_meanMiddle 5 (some .long), Cond.constantLong RX0 46 (-4611686018427387904), Cond.methodLink RX0 52 yX0_isIn, Cond.static yX0_isIn]
def wsX0_leftOf_r2 : List Cond := [Cond.code yX0_isIn cX0_isIn 2 (some .boolean), Cond.methodLink RX0 30 yX0_isSource, Cond.static yX0_isSource, Cond.code yX0_isSource cX0_isSource 1 (some .boolean), Cond.methodLink RX0 146 yX0_middle, Cond.instanceMethod yX0_middle, Cond.selects RX0 yX0_middle yX0_middle, Cond.code yX0_middle cX0_middle 2 (some .long), Cond.fieldLink RX0 9 "ClockDesk" "lows" "[J", Cond.fieldLink RX0 13 "ClockDesk" "highs" "[J", Cond.methodLink RX0 48 yX0_half, Cond.static yX0_half, Cond.code yX0_half cX0_half 2 (some .long), Cond.constantLong RX0 138 (2), Cond.methodLink RX0 140 yJ9_floorDiv_f86c9, Cond.static yJ9_floorDiv_f86c9, Cond.initialized RJ9, Cond.code yJ9_floorDiv_f86c9 cJ9_floorDiv_f86c9 6 (some .long), Cond.methodLink RX0 56 yX0_without, Cond.static yX0_without, Cond.code yX0_without cX0_without 2 (some .int)]
def wsX0_leftOf : List Cond := .code yX0_leftOf cX0_leftOf 4 (some .int) :: ((wsX0_leftOf_r1 ++ wsX0_leftOf_r2) ++ wsX00)
def wsX0_survivors_r1 : List Cond := [Cond.methodLink RX0 114 yX0_isCount, Cond.static yX0_isCount, Cond.initialized RX0, Cond.code yX0_isCount cX0_isCount 1 (some .boolean), Cond.methodLink RX0 117 yX0_leftOf, Cond.instanceMethod yX0_leftOf, Cond.selects RX0 yX0_leftOf yX0_leftOf, Cond.code yX0_leftOf cX0_leftOf 4 (some .int), Cond.fieldLink RX0 16 "ClockDesk" "held" "I", Cond.methodLink RX0 60 yJ6_bitCount_0f7a4, Cond.static yJ6_bitCount_0f7a4, Cond.initialized RJ6, Cond.code yJ6_bitCount_0f7a4 cJ6_bitCount_0f7a4 1 (some .int), Cond.constant RJ6 265 (1431655765), Cond.constant RJ6 266 (858993459), Cond.constant RJ6 267 (252645135), Cond.methodLink RX0 149 yX0_farthest, Cond.instanceMethod yX0_farthest, Cond.selects RX0 yX0_farthest yX0_farthest, Cond.code yX0_farthest cX0_farthest 8 (some .int), Cond.methodLink RX0 133 Lib.MathLoose.abs_long.x, Cond.static Lib.MathLoose.abs_long.x, Cond.initialized "java/lang/Math", Cond.code Lib.MathLoose.abs_long.x Lib.MathLoose.abs_long.code 2 (some .long)]
def wsX0_survivors_r2 : List Cond := [Cond.methodLink RX0 111 yX0_meanMiddle, Cond.instanceMethod yX0_meanMiddle, Cond.selects RX0 yX0_meanMiddle yX0_meanMiddle, Cond.code yX0_meanMiddle cX0_meanMiddle 5 (some .long), Cond.constantLong RX0 46 (-4611686018427387904), Cond.methodLink RX0 52 yX0_isIn, Cond.static yX0_isIn, Cond.code yX0_isIn cX0_isIn 2 (some .boolean), Cond.methodLink RX0 30 yX0_isSource, Cond.static yX0_isSource, Cond.code yX0_isSource cX0_isSource 1 (some .boolean), Cond.methodLink RX0 146 yX0_middle, Cond.instanceMethod yX0_middle, Cond.selects RX0 yX0_middle yX0_middle, Cond.code yX0_middle cX0_middle 2 (some .long), Cond.fieldLink RX0 9 "ClockDesk" "lows" "[J", Cond.fieldLink RX0 13 "ClockDesk" "highs" "[J", Cond.methodLink RX0 48 yX0_half, Cond.static yX0_half, Cond.code yX0_half cX0_half 2 (some .long), Cond.constantLong RX0 138 (2), Cond.methodLink RX0 140 yJ9_floorDiv_f86c9, Cond.static yJ9_floorDiv_f86c9, Cond.initialized RJ9]
def wsX0_survivors_r3 : List Cond := [Cond.code yJ9_floorDiv_f86c9 cJ9_floorDiv_f86c9 6 (some .long), Cond.methodLink RX0 56 yX0_without, Cond.static yX0_without, Cond.code yX0_without cX0_without 2 (some .int)]
def wsX0_survivors : List Cond := .code yX0_survivors cX0_survivors 2 (some .int) :: ((wsX0_survivors_r1 ++ (wsX0_survivors_r2 ++ wsX0_survivors_r3)) ++ wsX00)
def wsX0_rank_r1 : List Cond := [Cond.methodLink RX0 114 yX0_isCount, Cond.static yX0_isCount, Cond.initialized RX0, Cond.code yX0_isCount cX0_isCount 1 (some .boolean), Cond.methodLink RX0 117 yX0_leftOf, Cond.instanceMethod yX0_leftOf, Cond.selects RX0 yX0_leftOf yX0_leftOf, Cond.code yX0_leftOf cX0_leftOf 4 (some .int), Cond.fieldLink RX0 16 "ClockDesk" "held" "I", Cond.methodLink RX0 60 yJ6_bitCount_0f7a4, Cond.static yJ6_bitCount_0f7a4, Cond.initialized RJ6, Cond.code yJ6_bitCount_0f7a4 cJ6_bitCount_0f7a4 1 (some .int), Cond.constant RJ6 265 (1431655765), Cond.constant RJ6 266 (858993459), Cond.constant RJ6 267 (252645135), Cond.methodLink RX0 149 yX0_farthest, Cond.instanceMethod yX0_farthest, Cond.selects RX0 yX0_farthest yX0_farthest, Cond.code yX0_farthest cX0_farthest 8 (some .int), Cond.methodLink RX0 133 Lib.MathLoose.abs_long.x, Cond.static Lib.MathLoose.abs_long.x, Cond.initialized "java/lang/Math", Cond.code Lib.MathLoose.abs_long.x Lib.MathLoose.abs_long.code 2 (some .long)]
def wsX0_rank_r2 : List Cond := [Cond.methodLink RX0 111 yX0_meanMiddle, Cond.instanceMethod yX0_meanMiddle, Cond.selects RX0 yX0_meanMiddle yX0_meanMiddle, Cond.code yX0_meanMiddle cX0_meanMiddle 5 (some .long), Cond.constantLong RX0 46 (-4611686018427387904), Cond.methodLink RX0 52 yX0_isIn, Cond.static yX0_isIn, Cond.code yX0_isIn cX0_isIn 2 (some .boolean), Cond.methodLink RX0 30 yX0_isSource, Cond.static yX0_isSource, Cond.code yX0_isSource cX0_isSource 1 (some .boolean), Cond.methodLink RX0 146 yX0_middle, Cond.instanceMethod yX0_middle, Cond.selects RX0 yX0_middle yX0_middle, Cond.code yX0_middle cX0_middle 2 (some .long), Cond.fieldLink RX0 9 "ClockDesk" "lows" "[J", Cond.fieldLink RX0 13 "ClockDesk" "highs" "[J", Cond.methodLink RX0 48 yX0_half, Cond.static yX0_half, Cond.code yX0_half cX0_half 2 (some .long), Cond.constantLong RX0 138 (2), Cond.methodLink RX0 140 yJ9_floorDiv_f86c9, Cond.static yJ9_floorDiv_f86c9, Cond.initialized RJ9]
def wsX0_rank_r3 : List Cond := [Cond.code yJ9_floorDiv_f86c9 cJ9_floorDiv_f86c9 6 (some .long), Cond.methodLink RX0 56 yX0_without, Cond.static yX0_without, Cond.code yX0_without cX0_without 2 (some .int), Cond.methodLink RX0 120 yX0_place, Cond.instanceMethod yX0_place, Cond.selects RX0 yX0_place yX0_place, Cond.code yX0_place cX0_place 7 (some .int)]
def wsX0_rank : List Cond := .code yX0_rank cX0_rank 4 (some .int) :: ((wsX0_rank_r1 ++ (wsX0_rank_r2 ++ wsX0_rank_r3)) ++ wsX00)
def wsX0_tick : List Cond := .code yX0_tick cX0_tick 5 (some .boolean) :: ([.fieldLink RX0 20 "ClockDesk" "ownTime" "J", .constantLong RX0 123 (144115188075855872), .constantLong RX0 125 (2000), .fieldLink RX0 24 "ClockDesk" "clockOffset" "J", .fieldLink RX0 27 "ClockDesk" "goal" "J", .methodLink RX0 127 Lib.MathLoose.min_long.x, .static Lib.MathLoose.min_long.x, .initialized "java/lang/Math", .code Lib.MathLoose.min_long.x Lib.MathLoose.min_long.code 4 (some .long), .methodLink RX0 131 Lib.MathLoose.max_long.x, .static Lib.MathLoose.max_long.x, .code Lib.MathLoose.max_long.x Lib.MathLoose.max_long.code 4 (some .long)] ++ wsX00)
def wsX0_steer_r1 : List Cond := [Cond.fieldLink RX0 27 "ClockDesk" "goal" "J", Cond.methodLink RX0 82 yX0_greatest, Cond.instanceMethod yX0_greatest, Cond.selects RX0 yX0_greatest yX0_greatest, Cond.initialized RX0, Cond.code yX0_greatest cX0_greatest 3 (some .int), Cond.fieldLink RX0 16 "ClockDesk" "held" "I", Cond.fieldLink RX0 9 "ClockDesk" "lows" "[J", Cond.methodLink RX0 74 Lib.Math.max.name, Cond.static Lib.Math.max.name, Cond.initialized "java/lang/Math", Cond.code Lib.Math.max.name Lib.Math.max.code 2 (some .int), Cond.methodLink RX0 52 yX0_isIn, Cond.static yX0_isIn, Cond.code yX0_isIn cX0_isIn 2 (some .boolean), Cond.methodLink RX0 30 yX0_isSource, Cond.static yX0_isSource, Cond.code yX0_isSource cX0_isSource 1 (some .boolean), Cond.methodLink RX0 70 yX0_covers, Cond.instanceMethod yX0_covers, Cond.selects RX0 yX0_covers yX0_covers, Cond.code yX0_covers cX0_covers 5 (some .int), Cond.methodLink RX0 66 yX0_isCoveredBy, Cond.instanceMethod yX0_isCoveredBy]
def wsX0_steer_r2 : List Cond := [Cond.selects RX0 yX0_isCoveredBy yX0_isCoveredBy, Cond.code yX0_isCoveredBy cX0_isCoveredBy 4 (some .boolean), Cond.fieldLink RX0 13 "ClockDesk" "highs" "[J", Cond.methodLink RX0 94 yX0_sources, Cond.instanceMethod yX0_sources, Cond.selects RX0 yX0_sources yX0_sources, Cond.code yX0_sources cX0_sources 1 (some .int), Cond.methodLink RX0 60 yJ6_bitCount_0f7a4, Cond.static yJ6_bitCount_0f7a4, Cond.initialized RJ6, Cond.code yJ6_bitCount_0f7a4 cJ6_bitCount_0f7a4 1 (some .int), Cond.constant RJ6 265 (1431655765), Cond.constant RJ6 266 (858993459), Cond.constant RJ6 267 (252645135), Cond.methodLink RX0 100 yX0_region, Cond.instanceMethod yX0_region, Cond.selects RX0 yX0_region yX0_region, Cond.code yX0_region cX0_region 5 (some .long), Cond.constantLong RX0 46 (-4611686018427387904), Cond.methodLink RX0 79 yX0_isZeroOrOne, Cond.static yX0_isZeroOrOne, Cond.code yX0_isZeroOrOne cX0_isZeroOrOne 1 (some .boolean), Cond.methodLink RX0 86 yX0_leastCoveredBy, Cond.instanceMethod yX0_leastCoveredBy]
def wsX0_steer_r3 : List Cond := [Cond.selects RX0 yX0_leastCoveredBy yX0_leastCoveredBy, Cond.code yX0_leastCoveredBy cX0_leastCoveredBy 5 (some .long), Cond.methodLink RX0 90 yX0_endOfRow, Cond.instanceMethod yX0_endOfRow, Cond.selects RX0 yX0_endOfRow yX0_endOfRow, Cond.code yX0_endOfRow cX0_endOfRow 7 (some .long), Cond.methodLink RX0 143 yX0_firstHighFrom, Cond.instanceMethod yX0_firstHighFrom, Cond.selects RX0 yX0_firstHighFrom yX0_firstHighFrom, Cond.code yX0_firstHighFrom cX0_firstHighFrom 6 (some .long), Cond.constantLong RX0 36 (288230376151711744), Cond.methodLink RX0 127 Lib.MathLoose.min_long.x, Cond.static Lib.MathLoose.min_long.x, Cond.code Lib.MathLoose.min_long.x Lib.MathLoose.min_long.code 4 (some .long), Cond.methodLink RX0 48 yX0_half, Cond.static yX0_half, Cond.code yX0_half cX0_half 2 (some .long), Cond.constantLong RX0 138 (2), Cond.methodLink RX0 140 yJ9_floorDiv_f86c9, Cond.static yJ9_floorDiv_f86c9, Cond.initialized RJ9, Cond.code yJ9_floorDiv_f86c9 cJ9_floorDiv_f86c9 6 (some .long)]
def wsX0_steer : List Cond := .code yX0_steer cX0_steer 1 (some .boolean) :: ((wsX0_steer_r1 ++ (wsX0_steer_r2 ++ wsX0_steer_r3)) ++ wsX00)
def wsX0_read : List Cond := .code yX0_read cX0_read 1 (some .long) :: ([.fieldLink RX0 20 "ClockDesk" "ownTime" "J", .fieldLink RX0 24 "ClockDesk" "clockOffset" "J"] ++ wsX00)
def wsX0_offset : List Cond := .code yX0_offset cX0_offset 2 (some .long) :: ([.constantLong RX0 46 (-4611686018427387904), .fieldLink RX0 24 "ClockDesk" "clockOffset" "J", .fieldLink RX0 27 "ClockDesk" "goal" "J", .methodLink RX0 79 yX0_isZeroOrOne, .static yX0_isZeroOrOne, .initialized RX0, .code yX0_isZeroOrOne cX0_isZeroOrOne 1 (some .boolean)] ++ wsX00)
def wsX0_settles : List Cond := .code yX0_settles cX0_settles 3 (some .long) :: ([.fieldLink RX0 27 "ClockDesk" "goal" "J", .fieldLink RX0 24 "ClockDesk" "clockOffset" "J", .methodLink RX0 133 Lib.MathLoose.abs_long.x, .static Lib.MathLoose.abs_long.x, .initialized "java/lang/Math", .code Lib.MathLoose.abs_long.x Lib.MathLoose.abs_long.code 2 (some .long), .constantLong RX0 136 (1099511627776), .constantLong RX0 46 (-4611686018427387904), .constantLong RX0 125 (2000)] ++ wsX00)
def wsX1_init : List Cond := .code yX1_init cX1_init 1 none :: ([.methodLink RX1 1 objectInit, .instanceMethod objectInit, .code objectInit ⟨#[0xb1]⟩ 1 none, .arrayClass .boolean, .fieldLink RX1 7 "ClockDeskModel" "is" "[Z", .arrayClass .long, .fieldLink RX1 13 "ClockDeskModel" "low" "[J", .fieldLink RX1 17 "ClockDeskModel" "high" "[J"] ++ wsX10)
def wsX1_isSource : List Cond := .code yX1_isSource cX1_isSource 1 (some .boolean) :: ([])
def wsX1_half : List Cond := .code yX1_half cX1_half 2 (some .long) :: ([])
def wsX1_over : List Cond := .code yX1_over cX1_over 6 (some .long) :: ([])
def wsX1_size : List Cond := .code yX1_size cX1_size 2 (some .long) :: ([])
def wsX1_interval : List Cond := .code yX1_interval cX1_interval 6 (some .boolean) :: ([.constantLong RX1 24 (-288230376151711744), .constantLong RX1 26 (288230376151711744), .fieldLink RX1 7 "ClockDeskModel" "is" "[Z", .fieldLink RX1 13 "ClockDeskModel" "low" "[J", .fieldLink RX1 17 "ClockDeskModel" "high" "[J", .methodLink RX1 20 yX1_isSource, .static yX1_isSource, .initialized RX1, .code yX1_isSource cX1_isSource 1 (some .boolean)] ++ wsX10)
def wsX1_exchange : List Cond := .code yX1_exchange cX1_exchange 8 (some .long) :: ([.constantLong RX1 28 (144115188075855872), .constantLong RX1 30 (-4611686018427387904), .fieldLink RX1 7 "ClockDeskModel" "is" "[Z", .fieldLink RX1 13 "ClockDeskModel" "low" "[J", .fieldLink RX1 17 "ClockDeskModel" "high" "[J", .methodLink RX1 20 yX1_isSource, .static yX1_isSource, .initialized RX1, .code yX1_isSource cX1_isSource 1 (some .boolean), .methodLink RX1 32 yX1_half, .static yX1_half, .code yX1_half cX1_half 2 (some .long)] ++ wsX10)
def wsX1_drop : List Cond := .code yX1_drop cX1_drop 2 (some .boolean) :: ([.fieldLink RX1 7 "ClockDeskModel" "is" "[Z", .methodLink RX1 20 yX1_isSource, .static yX1_isSource, .initialized RX1, .code yX1_isSource cX1_isSource 1 (some .boolean)] ++ wsX10)
def wsX1_sources : List Cond := .code yX1_sources cX1_sources 3 (some .int) :: ([.fieldLink RX1 7 "ClockDeskModel" "is" "[Z"] ++ wsX10)
def wsX1_covers : List Cond := .code yX1_covers cX1_covers 5 (some .int) :: ([.fieldLink RX1 7 "ClockDeskModel" "is" "[Z", .fieldLink RX1 13 "ClockDeskModel" "low" "[J", .fieldLink RX1 17 "ClockDeskModel" "high" "[J"] ++ wsX10)
def wsX1_greatest : List Cond := .code yX1_greatest cX1_greatest 4 (some .int) :: ([.fieldLink RX1 7 "ClockDeskModel" "is" "[Z", .fieldLink RX1 13 "ClockDeskModel" "low" "[J", .methodLink RX1 36 yX1_covers, .instanceMethod yX1_covers, .selects RX1 yX1_covers yX1_covers, .initialized RX1, .code yX1_covers cX1_covers 5 (some .int), .fieldLink RX1 17 "ClockDeskModel" "high" "[J"] ++ wsX10)
def wsX1_first : List Cond := .code yX1_first cX1_first 5 (some .long) :: ([.constantLong RX1 30 (-4611686018427387904), .fieldLink RX1 7 "ClockDeskModel" "is" "[Z", .fieldLink RX1 13 "ClockDeskModel" "low" "[J", .methodLink RX1 36 yX1_covers, .instanceMethod yX1_covers, .selects RX1 yX1_covers yX1_covers, .initialized RX1, .code yX1_covers cX1_covers 5 (some .int), .fieldLink RX1 17 "ClockDeskModel" "high" "[J"] ++ wsX10)
def wsX1_last : List Cond := .code yX1_last cX1_last 5 (some .long) :: ([.constantLong RX1 30 (-4611686018427387904), .fieldLink RX1 7 "ClockDeskModel" "is" "[Z", .fieldLink RX1 17 "ClockDeskModel" "high" "[J", .methodLink RX1 36 yX1_covers, .instanceMethod yX1_covers, .selects RX1 yX1_covers yX1_covers, .initialized RX1, .code yX1_covers cX1_covers 5 (some .int), .fieldLink RX1 13 "ClockDeskModel" "low" "[J"] ++ wsX10)
def wsX1_region : List Cond := .code yX1_region cX1_region 9 (some .long) :: ([.constantLong RX1 30 (-4611686018427387904), .constantLong RX1 26 (288230376151711744), .fieldLink RX1 7 "ClockDeskModel" "is" "[Z", .fieldLink RX1 13 "ClockDeskModel" "low" "[J", .fieldLink RX1 17 "ClockDeskModel" "high" "[J", .methodLink RX1 40 yX1_greatest, .instanceMethod yX1_greatest, .selects RX1 yX1_greatest yX1_greatest, .initialized RX1, .code yX1_greatest cX1_greatest 4 (some .int), .methodLink RX1 36 yX1_covers, .instanceMethod yX1_covers, .selects RX1 yX1_covers yX1_covers, .code yX1_covers cX1_covers 5 (some .int), .methodLink RX1 44 yX1_first, .instanceMethod yX1_first, .selects RX1 yX1_first yX1_first, .code yX1_first cX1_first 5 (some .long)] ++ wsX10)
def wsX1_hull : List Cond := .code yX1_hull cX1_hull 4 (some .long) :: ([.constantLong RX1 30 (-4611686018427387904), .methodLink RX1 48 yX1_sources, .instanceMethod yX1_sources, .selects RX1 yX1_sources yX1_sources, .initialized RX1, .code yX1_sources cX1_sources 3 (some .int), .fieldLink RX1 7 "ClockDeskModel" "is" "[Z", .methodLink RX1 44 yX1_first, .instanceMethod yX1_first, .selects RX1 yX1_first yX1_first, .code yX1_first cX1_first 5 (some .long), .fieldLink RX1 13 "ClockDeskModel" "low" "[J", .methodLink RX1 36 yX1_covers, .instanceMethod yX1_covers, .selects RX1 yX1_covers yX1_covers, .code yX1_covers cX1_covers 5 (some .int), .fieldLink RX1 17 "ClockDeskModel" "high" "[J", .methodLink RX1 51 yX1_last, .instanceMethod yX1_last, .selects RX1 yX1_last yX1_last, .code yX1_last cX1_last 5 (some .long)] ++ wsX10)
def wsX1_chosen_r1 : List Cond := [Cond.fieldLink RX1 7 "ClockDeskModel" "is" "[Z", Cond.fieldLink RX1 13 "ClockDeskModel" "low" "[J", Cond.fieldLink RX1 17 "ClockDeskModel" "high" "[J", Cond.methodLink RX1 20 yX1_isSource, Cond.static yX1_isSource, Cond.initialized RX1, Cond.code yX1_isSource cX1_isSource 1 (some .boolean), Cond.methodLink RX1 54 yX1_region, Cond.instanceMethod yX1_region, Cond.selects RX1 yX1_region yX1_region, Cond.code yX1_region cX1_region 9 (some .long), Cond.constantLong RX1 30 (-4611686018427387904), Cond.constantLong RX1 26 (288230376151711744), Cond.methodLink RX1 40 yX1_greatest, Cond.instanceMethod yX1_greatest, Cond.selects RX1 yX1_greatest yX1_greatest, Cond.code yX1_greatest cX1_greatest 4 (some .int), Cond.methodLink RX1 36 yX1_covers, Cond.instanceMethod yX1_covers, Cond.selects RX1 yX1_covers yX1_covers, Cond.code yX1_covers cX1_covers 5 (some .int), Cond.methodLink RX1 44 yX1_first, Cond.instanceMethod yX1_first, Cond.selects RX1 yX1_first yX1_first]
def wsX1_chosen_r2 : List Cond := [Cond.code yX1_first cX1_first 5 (some .long)]
def wsX1_chosen : List Cond := .code yX1_chosen cX1_chosen 2 (some .boolean) :: ((wsX1_chosen_r1 ++ wsX1_chosen_r2) ++ wsX10)
def wsX1_middle : List Cond := .code yX1_middle cX1_middle 2 (some .long) :: ([.fieldLink RX1 13 "ClockDeskModel" "low" "[J", .fieldLink RX1 17 "ClockDeskModel" "high" "[J", .methodLink RX1 32 yX1_half, .static yX1_half, .initialized RX1, .code yX1_half cX1_half 2 (some .long)] ++ wsX10)
def wsX1_median : List Cond := .code yX1_median cX1_median 5 (some .long) :: ([.fieldLink RX1 7 "ClockDeskModel" "is" "[Z", .constantLong RX1 30 (-4611686018427387904), .methodLink RX1 48 yX1_sources, .instanceMethod yX1_sources, .selects RX1 yX1_sources yX1_sources, .initialized RX1, .code yX1_sources cX1_sources 3 (some .int), .methodLink RX1 57 yX1_middle, .instanceMethod yX1_middle, .selects RX1 yX1_middle yX1_middle, .code yX1_middle cX1_middle 2 (some .long), .fieldLink RX1 13 "ClockDeskModel" "low" "[J", .fieldLink RX1 17 "ClockDeskModel" "high" "[J", .methodLink RX1 32 yX1_half, .static yX1_half, .code yX1_half cX1_half 2 (some .long)] ++ wsX10)
def wsX1_mean_r1 : List Cond := [Cond.constantLong RX1 30 (-4611686018427387904), Cond.fieldLink RX1 7 "ClockDeskModel" "is" "[Z", Cond.methodLink RX1 48 yX1_sources, Cond.instanceMethod yX1_sources, Cond.selects RX1 yX1_sources yX1_sources, Cond.initialized RX1, Cond.code yX1_sources cX1_sources 3 (some .int), Cond.methodLink RX1 60 yX1_median, Cond.instanceMethod yX1_median, Cond.selects RX1 yX1_median yX1_median, Cond.code yX1_median cX1_median 5 (some .long), Cond.methodLink RX1 57 yX1_middle, Cond.instanceMethod yX1_middle, Cond.selects RX1 yX1_middle yX1_middle, Cond.code yX1_middle cX1_middle 2 (some .long), Cond.fieldLink RX1 13 "ClockDeskModel" "low" "[J", Cond.fieldLink RX1 17 "ClockDeskModel" "high" "[J", Cond.methodLink RX1 32 yX1_half, Cond.static yX1_half, Cond.code yX1_half cX1_half 2 (some .long), Cond.methodLink RX1 64 yX1_size, Cond.static yX1_size, Cond.code yX1_size cX1_size 2 (some .long), Cond.methodLink RX1 67 yX1_over]
def wsX1_mean_r2 : List Cond := [Cond.static yX1_over, Cond.code yX1_over cX1_over 6 (some .long)]
def wsX1_mean : List Cond := .code yX1_mean cX1_mean 11 (some .long) :: ((wsX1_mean_r1 ++ wsX1_mean_r2) ++ wsX10)
def wsX1_survivors : List Cond := .code yX1_survivors cX1_survivors 10 (some .int) :: ([.fieldLink RX1 7 "ClockDeskModel" "is" "[Z", .methodLink RX1 57 yX1_middle, .instanceMethod yX1_middle, .selects RX1 yX1_middle yX1_middle, .initialized RX1, .code yX1_middle cX1_middle 2 (some .long), .fieldLink RX1 13 "ClockDeskModel" "low" "[J", .fieldLink RX1 17 "ClockDeskModel" "high" "[J", .methodLink RX1 32 yX1_half, .static yX1_half, .code yX1_half cX1_half 2 (some .long), .methodLink RX1 67 yX1_over, .static yX1_over, .code yX1_over cX1_over 6 (some .long), .methodLink RX1 64 yX1_size, .static yX1_size, .code yX1_size cX1_size 2 (some .long)] ++ wsX10)
def wsX1_rank : List Cond := .code yX1_rank cX1_rank 6 (some .int) :: ([.methodLink RX1 71 yX1_survivors, .instanceMethod yX1_survivors, .selects RX1 yX1_survivors yX1_survivors, .initialized RX1, .code yX1_survivors cX1_survivors 10 (some .int), .fieldLink RX1 7 "ClockDeskModel" "is" "[Z", .methodLink RX1 57 yX1_middle, .instanceMethod yX1_middle, .selects RX1 yX1_middle yX1_middle, .code yX1_middle cX1_middle 2 (some .long), .fieldLink RX1 13 "ClockDeskModel" "low" "[J", .fieldLink RX1 17 "ClockDeskModel" "high" "[J", .methodLink RX1 32 yX1_half, .static yX1_half, .code yX1_half cX1_half 2 (some .long), .methodLink RX1 67 yX1_over, .static yX1_over, .code yX1_over cX1_over 6 (some .long), .methodLink RX1 64 yX1_size, .static yX1_size, .code yX1_size cX1_size 2 (some .long), .methodLink RX1 20 yX1_isSource, .static yX1_isSource, .code yX1_isSource cX1_isSource 1 (some .boolean)] ++ wsX10)
def wsX1_tick : List Cond := .code yX1_tick cX1_tick 7 (some .boolean) :: ([.fieldLink RX1 75 "ClockDeskModel" "now" "J", .constantLong RX1 28 (144115188075855872), .constantLong RX1 79 (2000), .fieldLink RX1 81 "ClockDeskModel" "goal" "J", .fieldLink RX1 84 "ClockDeskModel" "offset" "J"] ++ wsX10)
def wsX1_steer_r1 : List Cond := [Cond.fieldLink RX1 81 "ClockDeskModel" "goal" "J", Cond.methodLink RX1 40 yX1_greatest, Cond.instanceMethod yX1_greatest, Cond.selects RX1 yX1_greatest yX1_greatest, Cond.initialized RX1, Cond.code yX1_greatest cX1_greatest 4 (some .int), Cond.fieldLink RX1 7 "ClockDeskModel" "is" "[Z", Cond.fieldLink RX1 13 "ClockDeskModel" "low" "[J", Cond.methodLink RX1 36 yX1_covers, Cond.instanceMethod yX1_covers, Cond.selects RX1 yX1_covers yX1_covers, Cond.code yX1_covers cX1_covers 5 (some .int), Cond.fieldLink RX1 17 "ClockDeskModel" "high" "[J", Cond.methodLink RX1 48 yX1_sources, Cond.instanceMethod yX1_sources, Cond.selects RX1 yX1_sources yX1_sources, Cond.code yX1_sources cX1_sources 3 (some .int), Cond.methodLink RX1 54 yX1_region, Cond.instanceMethod yX1_region, Cond.selects RX1 yX1_region yX1_region, Cond.code yX1_region cX1_region 9 (some .long), Cond.constantLong RX1 30 (-4611686018427387904), Cond.constantLong RX1 26 (288230376151711744), Cond.methodLink RX1 44 yX1_first]
def wsX1_steer_r2 : List Cond := [Cond.instanceMethod yX1_first, Cond.selects RX1 yX1_first yX1_first, Cond.code yX1_first cX1_first 5 (some .long), Cond.methodLink RX1 32 yX1_half, Cond.static yX1_half, Cond.code yX1_half cX1_half 2 (some .long)]
def wsX1_steer : List Cond := .code yX1_steer cX1_steer 1 (some .boolean) :: ((wsX1_steer_r1 ++ wsX1_steer_r2) ++ wsX10)
def wsX1_read : List Cond := .code yX1_read cX1_read 1 (some .long) :: ([.fieldLink RX1 75 "ClockDeskModel" "now" "J", .fieldLink RX1 84 "ClockDeskModel" "offset" "J"] ++ wsX10)
def wsX1_offset : List Cond := .code yX1_offset cX1_offset 2 (some .long) :: ([.fieldLink RX1 84 "ClockDeskModel" "offset" "J", .fieldLink RX1 81 "ClockDeskModel" "goal" "J", .constantLong RX1 30 (-4611686018427387904)] ++ wsX10)
def wsX1_settles : List Cond := .code yX1_settles cX1_settles 3 (some .long) :: ([.fieldLink RX1 81 "ClockDeskModel" "goal" "J", .fieldLink RX1 84 "ClockDeskModel" "offset" "J", .constantLong RX1 87 (1099511627776), .constantLong RX1 30 (-4611686018427387904), .constantLong RX1 79 (2000), .methodLink RX1 64 yX1_size, .static yX1_size, .initialized RX1, .code yX1_size cX1_size 2 (some .long)] ++ wsX10)
def wsJ9_abs_067f4 : List Cond := .code yJ9_abs_067f4 cJ9_abs_067f4 2 (some .long) :: ([])
def wsJ9_max_7cf53 : List Cond := .code yJ9_max_7cf53 cJ9_max_7cf53 2 (some .int) :: ([])
def wsJ9_max_f86c9 : List Cond := .code yJ9_max_f86c9 cJ9_max_f86c9 4 (some .long) :: ([])
def wsJ9_min_f86c9 : List Cond := .code yJ9_min_f86c9 cJ9_min_f86c9 4 (some .long) :: ([])
def wsL_law_r1 : List Cond := [Cond.classLink RL 7 RX0, Cond.instantiable RX0 6, Cond.initialized RX0, Cond.classLink RL 10 RX1, Cond.instantiable RX1 6, Cond.initialized RX1, Cond.constantLong RL 13 (4294967295), Cond.methodLink RL 9 yX0_init, Cond.instanceMethod yX0_init, Cond.code yX0_init cX0_init 1 none, Cond.methodLink RX0 1 objectInit, Cond.instanceMethod objectInit, Cond.code objectInit ⟨#[0xb1]⟩ 1 none, Cond.arrayClass .long, Cond.fieldLink RX0 9 "ClockDesk" "lows" "[J", Cond.fieldLink RX0 13 "ClockDesk" "highs" "[J", Cond.fieldLink RX0 16 "ClockDesk" "held" "I", Cond.fieldLink RX0 20 "ClockDesk" "ownTime" "J", Cond.fieldLink RX0 24 "ClockDesk" "clockOffset" "J", Cond.fieldLink RX0 27 "ClockDesk" "goal" "J", Cond.methodLink RL 12 yX1_init, Cond.instanceMethod yX1_init, Cond.code yX1_init cX1_init 1 none, Cond.methodLink RX1 1 objectInit]
def wsL_law_r2 : List Cond := [Cond.arrayClass .boolean, Cond.fieldLink RX1 7 "ClockDeskModel" "is" "[Z", Cond.fieldLink RX1 13 "ClockDeskModel" "low" "[J", Cond.fieldLink RX1 17 "ClockDeskModel" "high" "[J", Cond.methodLink RL 15 yX0_interval, Cond.instanceMethod yX0_interval, Cond.selects RX0 yX0_interval yX0_interval, Cond.code yX0_interval cX0_interval 6 (some .boolean), Cond.constantLong RX0 34 (-288230376151711744), Cond.constantLong RX0 36 (288230376151711744), Cond.methodLink RX0 30 yX0_isSource, Cond.static yX0_isSource, Cond.code yX0_isSource cX0_isSource 1 (some .boolean), Cond.methodLink RX0 38 yX0_hold, Cond.instanceMethod yX0_hold, Cond.selects RX0 yX0_hold yX0_hold, Cond.code yX0_hold cX0_hold 6 none, Cond.methodLink RL 19 yX1_interval, Cond.instanceMethod yX1_interval, Cond.selects RX1 yX1_interval yX1_interval, Cond.code yX1_interval cX1_interval 6 (some .boolean), Cond.constantLong RX1 24 (-288230376151711744), Cond.constantLong RX1 26 (288230376151711744), Cond.methodLink RX1 20 yX1_isSource]
def wsL_law_r3 : List Cond := [Cond.static yX1_isSource, Cond.code yX1_isSource cX1_isSource 1 (some .boolean), Cond.methodLink RL 20 yX0_exchange, Cond.instanceMethod yX0_exchange, Cond.selects RX0 yX0_exchange yX0_exchange, Cond.code yX0_exchange cX0_exchange 8 (some .long), Cond.constantLong RX0 46 (-4611686018427387904), Cond.methodLink RX0 42 yX0_isTime, Cond.static yX0_isTime, Cond.code yX0_isTime cX0_isTime 2 (some .boolean), Cond.constantLong RX0 123 (144115188075855872), Cond.methodLink RX0 48 yX0_half, Cond.static yX0_half, Cond.code yX0_half cX0_half 2 (some .long), Cond.constantLong RX0 138 (2), Cond.methodLink RX0 140 yJ9_floorDiv_f86c9, Cond.static yJ9_floorDiv_f86c9, Cond.initialized RJ9, Cond.code yJ9_floorDiv_f86c9 cJ9_floorDiv_f86c9 6 (some .long), Cond.methodLink RL 24 yX1_exchange, Cond.instanceMethod yX1_exchange, Cond.selects RX1 yX1_exchange yX1_exchange, Cond.code yX1_exchange cX1_exchange 8 (some .long), Cond.constantLong RX1 28 (144115188075855872)]
def wsL_law_r4 : List Cond := [Cond.constantLong RX1 30 (-4611686018427387904), Cond.methodLink RX1 32 yX1_half, Cond.static yX1_half, Cond.code yX1_half cX1_half 2 (some .long), Cond.methodLink RL 25 yX0_drop, Cond.instanceMethod yX0_drop, Cond.selects RX0 yX0_drop yX0_drop, Cond.code yX0_drop cX0_drop 2 (some .boolean), Cond.methodLink RX0 52 yX0_isIn, Cond.static yX0_isIn, Cond.code yX0_isIn cX0_isIn 2 (some .boolean), Cond.methodLink RX0 56 yX0_without, Cond.static yX0_without, Cond.code yX0_without cX0_without 2 (some .int), Cond.methodLink RL 29 yX1_drop, Cond.instanceMethod yX1_drop, Cond.selects RX1 yX1_drop yX1_drop, Cond.code yX1_drop cX1_drop 2 (some .boolean), Cond.methodLink RL 30 yX0_sources, Cond.instanceMethod yX0_sources, Cond.selects RX0 yX0_sources yX0_sources, Cond.code yX0_sources cX0_sources 1 (some .int), Cond.methodLink RX0 60 yJ6_bitCount_0f7a4, Cond.static yJ6_bitCount_0f7a4]
def wsL_law_r5 : List Cond := [Cond.initialized RJ6, Cond.code yJ6_bitCount_0f7a4 cJ6_bitCount_0f7a4 1 (some .int), Cond.constant RJ6 265 (1431655765), Cond.constant RJ6 266 (858993459), Cond.constant RJ6 267 (252645135), Cond.methodLink RL 34 yX1_sources, Cond.instanceMethod yX1_sources, Cond.selects RX1 yX1_sources yX1_sources, Cond.code yX1_sources cX1_sources 3 (some .int), Cond.methodLink RL 35 yX0_covers, Cond.instanceMethod yX0_covers, Cond.selects RX0 yX0_covers yX0_covers, Cond.code yX0_covers cX0_covers 5 (some .int), Cond.methodLink RX0 66 yX0_isCoveredBy, Cond.instanceMethod yX0_isCoveredBy, Cond.selects RX0 yX0_isCoveredBy yX0_isCoveredBy, Cond.code yX0_isCoveredBy cX0_isCoveredBy 4 (some .boolean), Cond.methodLink RL 39 yX1_covers, Cond.instanceMethod yX1_covers, Cond.selects RX1 yX1_covers yX1_covers, Cond.code yX1_covers cX1_covers 5 (some .int), Cond.methodLink RL 40 yX0_greatest, Cond.instanceMethod yX0_greatest, Cond.selects RX0 yX0_greatest yX0_greatest]
def wsL_law_r6 : List Cond := [Cond.code yX0_greatest cX0_greatest 3 (some .int), Cond.methodLink RX0 74 Lib.Math.max.name, Cond.static Lib.Math.max.name, Cond.initialized "java/lang/Math", Cond.code Lib.Math.max.name Lib.Math.max.code 2 (some .int), Cond.methodLink RX0 70 yX0_covers, Cond.methodLink RL 43 yX1_greatest, Cond.instanceMethod yX1_greatest, Cond.selects RX1 yX1_greatest yX1_greatest, Cond.code yX1_greatest cX1_greatest 4 (some .int), Cond.methodLink RX1 36 yX1_covers, Cond.methodLink RL 44 yX0_region, Cond.instanceMethod yX0_region, Cond.selects RX0 yX0_region yX0_region, Cond.code yX0_region cX0_region 5 (some .long), Cond.methodLink RX0 79 yX0_isZeroOrOne, Cond.static yX0_isZeroOrOne, Cond.code yX0_isZeroOrOne cX0_isZeroOrOne 1 (some .boolean), Cond.methodLink RX0 82 yX0_greatest, Cond.methodLink RX0 86 yX0_leastCoveredBy, Cond.instanceMethod yX0_leastCoveredBy, Cond.selects RX0 yX0_leastCoveredBy yX0_leastCoveredBy, Cond.code yX0_leastCoveredBy cX0_leastCoveredBy 5 (some .long), Cond.methodLink RX0 90 yX0_endOfRow]
def wsL_law_r7 : List Cond := [Cond.instanceMethod yX0_endOfRow, Cond.selects RX0 yX0_endOfRow yX0_endOfRow, Cond.code yX0_endOfRow cX0_endOfRow 7 (some .long), Cond.methodLink RX0 143 yX0_firstHighFrom, Cond.instanceMethod yX0_firstHighFrom, Cond.selects RX0 yX0_firstHighFrom yX0_firstHighFrom, Cond.code yX0_firstHighFrom cX0_firstHighFrom 6 (some .long), Cond.methodLink RX0 127 Lib.MathLoose.min_long.x, Cond.static Lib.MathLoose.min_long.x, Cond.code Lib.MathLoose.min_long.x Lib.MathLoose.min_long.code 4 (some .long), Cond.methodLink RL 48 yX1_region, Cond.instanceMethod yX1_region, Cond.selects RX1 yX1_region yX1_region, Cond.code yX1_region cX1_region 9 (some .long), Cond.methodLink RX1 40 yX1_greatest, Cond.methodLink RX1 44 yX1_first, Cond.instanceMethod yX1_first, Cond.selects RX1 yX1_first yX1_first, Cond.code yX1_first cX1_first 5 (some .long), Cond.methodLink RL 49 yX0_hull, Cond.instanceMethod yX0_hull, Cond.selects RX0 yX0_hull yX0_hull, Cond.code yX0_hull cX0_hull 4 (some .long), Cond.methodLink RX0 94 yX0_sources]
def wsL_law_r8 : List Cond := [Cond.methodLink RX0 97 yX0_greatestCoveredBy, Cond.instanceMethod yX0_greatestCoveredBy, Cond.selects RX0 yX0_greatestCoveredBy yX0_greatestCoveredBy, Cond.code yX0_greatestCoveredBy cX0_greatestCoveredBy 5 (some .long), Cond.methodLink RX0 131 Lib.MathLoose.max_long.x, Cond.static Lib.MathLoose.max_long.x, Cond.code Lib.MathLoose.max_long.x Lib.MathLoose.max_long.code 4 (some .long), Cond.methodLink RL 53 yX1_hull, Cond.instanceMethod yX1_hull, Cond.selects RX1 yX1_hull yX1_hull, Cond.code yX1_hull cX1_hull 4 (some .long), Cond.methodLink RX1 48 yX1_sources, Cond.methodLink RX1 51 yX1_last, Cond.instanceMethod yX1_last, Cond.selects RX1 yX1_last yX1_last, Cond.code yX1_last cX1_last 5 (some .long), Cond.methodLink RL 54 yX0_chosen, Cond.instanceMethod yX0_chosen, Cond.selects RX0 yX0_chosen yX0_chosen, Cond.code yX0_chosen cX0_chosen 2 (some .boolean), Cond.methodLink RX0 100 yX0_region, Cond.methodLink RL 57 yX1_chosen, Cond.instanceMethod yX1_chosen, Cond.selects RX1 yX1_chosen yX1_chosen]
def wsL_law_r9 : List Cond := [Cond.code yX1_chosen cX1_chosen 2 (some .boolean), Cond.methodLink RX1 54 yX1_region, Cond.methodLink RL 58 yX0_mean, Cond.instanceMethod yX0_mean, Cond.selects RX0 yX0_mean yX0_mean, Cond.code yX0_mean cX0_mean 5 (some .long), Cond.methodLink RX0 103 yX0_medianMiddle, Cond.instanceMethod yX0_medianMiddle, Cond.selects RX0 yX0_medianMiddle yX0_medianMiddle, Cond.code yX0_medianMiddle cX0_medianMiddle 3 (some .long), Cond.methodLink RX0 120 yX0_place, Cond.instanceMethod yX0_place, Cond.selects RX0 yX0_place yX0_place, Cond.code yX0_place cX0_place 7 (some .int), Cond.methodLink RX0 146 yX0_middle, Cond.instanceMethod yX0_middle, Cond.selects RX0 yX0_middle yX0_middle, Cond.code yX0_middle cX0_middle 2 (some .long), Cond.methodLink RX0 107 yX0_nearTo, Cond.instanceMethod yX0_nearTo, Cond.selects RX0 yX0_nearTo yX0_nearTo, Cond.code yX0_nearTo cX0_nearTo 7 (some .int), Cond.methodLink RX0 133 Lib.MathLoose.abs_long.x, Cond.static Lib.MathLoose.abs_long.x]
def wsL_law_r10 : List Cond := [Cond.code Lib.MathLoose.abs_long.x Lib.MathLoose.abs_long.code 2 (some .long), Cond.methodLink RX0 111 yX0_meanMiddle, Cond.instanceMethod yX0_meanMiddle, Cond.selects RX0 yX0_meanMiddle yX0_meanMiddle, Cond.code yX0_meanMiddle cX0_meanMiddle 5 (some .long), Cond.methodLink RL 62 yX1_mean, Cond.instanceMethod yX1_mean, Cond.selects RX1 yX1_mean yX1_mean, Cond.code yX1_mean cX1_mean 11 (some .long), Cond.methodLink RX1 60 yX1_median, Cond.instanceMethod yX1_median, Cond.selects RX1 yX1_median yX1_median, Cond.code yX1_median cX1_median 5 (some .long), Cond.methodLink RX1 57 yX1_middle, Cond.instanceMethod yX1_middle, Cond.selects RX1 yX1_middle yX1_middle, Cond.code yX1_middle cX1_middle 2 (some .long), Cond.methodLink RX1 64 yX1_size, Cond.static yX1_size, Cond.code yX1_size cX1_size 2 (some .long), Cond.methodLink RX1 67 yX1_over, Cond.static yX1_over, Cond.code yX1_over cX1_over 6 (some .long), Cond.methodLink RL 63 yX0_survivors]
def wsL_law_r11 : List Cond := [Cond.instanceMethod yX0_survivors, Cond.selects RX0 yX0_survivors yX0_survivors, Cond.code yX0_survivors cX0_survivors 2 (some .int), Cond.methodLink RX0 114 yX0_isCount, Cond.static yX0_isCount, Cond.code yX0_isCount cX0_isCount 1 (some .boolean), Cond.methodLink RX0 117 yX0_leftOf, Cond.instanceMethod yX0_leftOf, Cond.selects RX0 yX0_leftOf yX0_leftOf, Cond.code yX0_leftOf cX0_leftOf 4 (some .int), Cond.methodLink RX0 149 yX0_farthest, Cond.instanceMethod yX0_farthest, Cond.selects RX0 yX0_farthest yX0_farthest, Cond.code yX0_farthest cX0_farthest 8 (some .int), Cond.methodLink RL 67 yX1_survivors, Cond.instanceMethod yX1_survivors, Cond.selects RX1 yX1_survivors yX1_survivors, Cond.code yX1_survivors cX1_survivors 10 (some .int), Cond.methodLink RL 68 yX0_rank, Cond.instanceMethod yX0_rank, Cond.selects RX0 yX0_rank yX0_rank, Cond.code yX0_rank cX0_rank 4 (some .int), Cond.methodLink RL 72 yX1_rank, Cond.instanceMethod yX1_rank]
def wsL_law_r12 : List Cond := [Cond.selects RX1 yX1_rank yX1_rank, Cond.code yX1_rank cX1_rank 6 (some .int), Cond.methodLink RX1 71 yX1_survivors, Cond.methodLink RL 73 yX0_tick, Cond.instanceMethod yX0_tick, Cond.selects RX0 yX0_tick yX0_tick, Cond.code yX0_tick cX0_tick 5 (some .boolean), Cond.constantLong RX0 125 (2000), Cond.methodLink RL 77 yX1_tick, Cond.instanceMethod yX1_tick, Cond.selects RX1 yX1_tick yX1_tick, Cond.code yX1_tick cX1_tick 7 (some .boolean), Cond.fieldLink RX1 75 "ClockDeskModel" "now" "J", Cond.constantLong RX1 79 (2000), Cond.fieldLink RX1 81 "ClockDeskModel" "goal" "J", Cond.fieldLink RX1 84 "ClockDeskModel" "offset" "J", Cond.methodLink RL 78 yX0_steer, Cond.instanceMethod yX0_steer, Cond.selects RX0 yX0_steer yX0_steer, Cond.code yX0_steer cX0_steer 1 (some .boolean), Cond.methodLink RL 82 yX1_steer, Cond.instanceMethod yX1_steer, Cond.selects RX1 yX1_steer yX1_steer, Cond.code yX1_steer cX1_steer 1 (some .boolean)]
def wsL_law_r13 : List Cond := [Cond.methodLink RL 83 yX0_read, Cond.instanceMethod yX0_read, Cond.selects RX0 yX0_read yX0_read, Cond.code yX0_read cX0_read 1 (some .long), Cond.methodLink RL 87 yX1_read, Cond.instanceMethod yX1_read, Cond.selects RX1 yX1_read yX1_read, Cond.code yX1_read cX1_read 1 (some .long), Cond.methodLink RL 88 yX0_offset, Cond.instanceMethod yX0_offset, Cond.selects RX0 yX0_offset yX0_offset, Cond.code yX0_offset cX0_offset 2 (some .long), Cond.methodLink RL 91 yX1_offset, Cond.instanceMethod yX1_offset, Cond.selects RX1 yX1_offset yX1_offset, Cond.code yX1_offset cX1_offset 2 (some .long), Cond.methodLink RL 92 yX0_settles, Cond.instanceMethod yX0_settles, Cond.selects RX0 yX0_settles yX0_settles, Cond.code yX0_settles cX0_settles 3 (some .long), Cond.constantLong RX0 136 (1099511627776), Cond.methodLink RL 95 yX1_settles, Cond.instanceMethod yX1_settles, Cond.selects RX1 yX1_settles yX1_settles]
def wsL_law_r14 : List Cond := [Cond.code yX1_settles cX1_settles 3 (some .long), Cond.constantLong RX1 87 (1099511627776)]
def wsL_law : List Cond := (wsL_law_r1 ++ (wsL_law_r2 ++ (wsL_law_r3 ++ (wsL_law_r4 ++ (wsL_law_r5 ++ (wsL_law_r6 ++ (wsL_law_r7 ++ (wsL_law_r8 ++ (wsL_law_r9 ++ (wsL_law_r10 ++ (wsL_law_r11 ++ (wsL_law_r12 ++ (wsL_law_r13 ++ wsL_law_r14))))))))))))) ++ wsX00 ++ wsX10 ++ ([] : List Cond)
set_option maxRecDepth 20000 in
theorem wsL_law_in : ∀ w ∈ wsL_law, w ∈ lw_tbl := fun w h => (goodIn_p wsL_law [26, 29, 227, 53, 56, 62, 252, 255, 66, 69, 74, 78, 261, 266, 82, 85, 88, 270, 92, 95, 274, 102, 106, 278, 110, 114, 282, 118, 121, 126, 130, 134, 137, 287, 292, 141, 146, 149, 296, 301, 153, 305, 158, 162, 166, 170, 174, 177, 181, 310, 314, 318, 321, 324, 185, 188, 192, 196, 328, 200, 332, 204, 337, 209, 342, 213, 346, 217, 350, 221, 354] (by decide +kernel) (by decide +kernel) w h).1
theorem inlX0 : ∀ w ∈ wsX00, w ∈ wsL_law := fun _ h => List.mem_append_left _ (List.mem_append_left _ (List.mem_append_right _ h))
theorem inX0 : ∀ w ∈ wsX00, w ∈ lw_tbl := fun w h => wsL_law_in w (inlX0 w h)
theorem inlX1 : ∀ w ∈ wsX10, w ∈ wsL_law := fun _ h => List.mem_append_left _ (List.mem_append_right _ h)
theorem inX1 : ∀ w ∈ wsX10, w ∈ lw_tbl := fun w h => wsL_law_in w (inlX1 w h)
theorem inJ6 : ∀ w ∈ wsJ60, w ∈ lw_tbl := by decide +kernel
theorem inJ9 : ∀ w ∈ wsJ90, w ∈ lw_tbl := by decide +kernel
set_option maxRecDepth 20000 in
theorem ggX0_interval_X0_isSource : GoodIn wsX0_interval wsX0_isSource := goodIn_r _ [6] (by decide +kernel) (by decide +kernel)
set_option maxRecDepth 20000 in
theorem gX0_interval_X0_isSource : GoodIn wsX0_interval (va_wsS RX0 30 yX0_isSource wsX0_isSource) := goodIn_app (goodIn_of _ (by decide +kernel)) ggX0_interval_X0_isSource
set_option maxRecDepth 20000 in
theorem ggX0_interval_X0_hold : GoodIn wsX0_interval wsX0_hold := goodIn_r _ [10, 11, 12, 13, 14, 15, 16, 17, 18, 19] (by decide +kernel) (by decide +kernel)
set_option maxRecDepth 20000 in
theorem gX0_interval_X0_hold : GoodIn wsX0_interval (wsV RX0 38 RX0 yX0_hold wsX0_hold) := goodIn_app (goodIn_of _ (by decide +kernel)) ggX0_interval_X0_hold
set_option maxRecDepth 20000 in
theorem ggX0_exchange_X0_isSource : GoodIn wsX0_exchange wsX0_isSource := goodIn_r _ [5] (by decide +kernel) (by decide +kernel)
set_option maxRecDepth 20000 in
theorem gX0_exchange_X0_isSource : GoodIn wsX0_exchange (va_wsS RX0 30 yX0_isSource wsX0_isSource) := goodIn_app (goodIn_of _ (by decide +kernel)) ggX0_exchange_X0_isSource
set_option maxRecDepth 20000 in
theorem ggX0_exchange_X0_isTime : GoodIn wsX0_exchange wsX0_isTime := goodIn_r _ [8, 9] (by decide +kernel) (by decide +kernel)
set_option maxRecDepth 20000 in
theorem gX0_exchange_X0_isTime : GoodIn wsX0_exchange (va_wsS RX0 42 yX0_isTime wsX0_isTime) := goodIn_app (goodIn_of _ (by decide +kernel)) ggX0_exchange_X0_isTime
set_option maxRecDepth 20000 in
theorem ggX0_exchange_X0_hold : GoodIn wsX0_exchange wsX0_hold := goodIn_r _ [13, 14, 15, 16, 25, 26, 27, 28, 29, 30] (by decide +kernel) (by decide +kernel)
set_option maxRecDepth 20000 in
theorem gX0_exchange_X0_hold : GoodIn wsX0_exchange (wsV RX0 38 RX0 yX0_hold wsX0_hold) := goodIn_app (goodIn_of _ (by decide +kernel)) ggX0_exchange_X0_hold
set_option maxRecDepth 20000 in
theorem ggX0_exchange_X0_half : GoodIn wsX0_exchange wsX0_half := goodIn_r _ [19, 20, 21, 22, 23, 24] (by decide +kernel) (by decide +kernel)
set_option maxRecDepth 20000 in
theorem gX0_exchange_X0_half : GoodIn wsX0_exchange (va_wsS RX0 48 yX0_half wsX0_half) := goodIn_app (goodIn_of _ (by decide +kernel)) ggX0_exchange_X0_half
set_option maxRecDepth 20000 in
theorem ggX0_drop_X0_isIn : GoodIn wsX0_drop wsX0_isIn := goodIn_r _ [5, 6, 7, 4, 8] (by decide +kernel) (by decide +kernel)
set_option maxRecDepth 20000 in
theorem gX0_drop_X0_isIn : GoodIn wsX0_drop (va_wsS RX0 52 yX0_isIn wsX0_isIn) := goodIn_app (goodIn_of _ (by decide +kernel)) ggX0_drop_X0_isIn
set_option maxRecDepth 20000 in
theorem ggX0_drop_X0_without : GoodIn wsX0_drop wsX0_without := goodIn_r _ [11] (by decide +kernel) (by decide +kernel)
set_option maxRecDepth 20000 in
theorem gX0_drop_X0_without : GoodIn wsX0_drop (va_wsS RX0 56 yX0_without wsX0_without) := goodIn_app (goodIn_of _ (by decide +kernel)) ggX0_drop_X0_without
set_option maxRecDepth 20000 in
theorem ggX0_sources_J6_bitCount_0f7a4 : GoodIn wsX0_sources wsJ6_bitCount_0f7a4 := goodIn_r _ [5, 6, 7, 8] (by decide +kernel) (by decide +kernel)
set_option maxRecDepth 20000 in
theorem gX0_sources_J6_bitCount_0f7a4 : GoodIn wsX0_sources (va_wsS RX0 60 yJ6_bitCount_0f7a4 wsJ6_bitCount_0f7a4) := goodIn_app (goodIn_of _ (by decide +kernel)) ggX0_sources_J6_bitCount_0f7a4
set_option maxRecDepth 20000 in
theorem ggX0_covers_X0_isCoveredBy : GoodIn wsX0_covers wsX0_isCoveredBy := goodIn_r _ [5, 6, 7, 8, 9, 10, 4, 11, 12, 13, 14, 15, 16, 17, 18, 19, 20] (by decide +kernel) (by decide +kernel)
set_option maxRecDepth 20000 in
theorem gX0_covers_X0_isCoveredBy : GoodIn wsX0_covers (wsV RX0 66 RX0 yX0_isCoveredBy wsX0_isCoveredBy) := goodIn_app (goodIn_of _ (by decide +kernel)) ggX0_covers_X0_isCoveredBy
set_option maxRecDepth 20000 in
theorem ggX0_greatest_X0_isIn : GoodIn wsX0_greatest wsX0_isIn := goodIn_r _ [10, 11, 12, 9, 13] (by decide +kernel) (by decide +kernel)
set_option maxRecDepth 20000 in
theorem gX0_greatest_X0_isIn : GoodIn wsX0_greatest (va_wsS RX0 52 yX0_isIn wsX0_isIn) := goodIn_app (goodIn_of _ (by decide +kernel)) ggX0_greatest_X0_isIn
set_option maxRecDepth 20000 in
theorem ggX0_greatest_X0_covers : GoodIn wsX0_greatest wsX0_covers := goodIn_r _ [17, 18, 19, 20, 9, 21, 1, 2, 22, 7, 8, 10, 11, 12, 13, 23, 24, 25, 26, 27, 28] (by decide +kernel) (by decide +kernel)
set_option maxRecDepth 20000 in
theorem gX0_greatest_X0_covers : GoodIn wsX0_greatest (wsV RX0 70 RX0 yX0_covers wsX0_covers) := goodIn_app (goodIn_of _ (by decide +kernel)) ggX0_greatest_X0_covers
set_option maxRecDepth 20000 in
theorem ggX0_region_X0_isZeroOrOne : GoodIn wsX0_region wsX0_isZeroOrOne := goodIn_r _ [6] (by decide +kernel) (by decide +kernel)
set_option maxRecDepth 20000 in
theorem gX0_region_X0_isZeroOrOne : GoodIn wsX0_region (va_wsS RX0 79 yX0_isZeroOrOne wsX0_isZeroOrOne) := goodIn_app (goodIn_of _ (by decide +kernel)) ggX0_region_X0_isZeroOrOne
set_option maxRecDepth 20000 in
theorem ggX0_region_X0_greatest : GoodIn wsX0_region wsX0_greatest := goodIn_r _ [10, 1, 11, 12, 13, 14, 15, 16, 17, 5, 18, 19, 20, 21, 22, 23, 24, 25, 26, 27, 28, 29, 30, 47, 48, 49, 50, 51, 52] (by decide +kernel) (by decide +kernel)
set_option maxRecDepth 20000 in
theorem gX0_region_X0_greatest : GoodIn wsX0_region (wsV RX0 82 RX0 yX0_greatest wsX0_greatest) := goodIn_app (goodIn_of _ (by decide +kernel)) ggX0_region_X0_greatest
set_option maxRecDepth 20000 in
theorem ggX0_region_X0_leastCoveredBy : GoodIn wsX0_region wsX0_leastCoveredBy := goodIn_r _ [34, 2, 1, 11, 16, 17, 5, 18, 19, 20, 21, 22, 23, 24, 25, 26, 27, 28, 29, 30, 47, 48, 49, 50, 51, 52] (by decide +kernel) (by decide +kernel)
set_option maxRecDepth 20000 in
theorem gX0_region_X0_leastCoveredBy : GoodIn wsX0_region (wsV RX0 86 RX0 yX0_leastCoveredBy wsX0_leastCoveredBy) := goodIn_app (goodIn_of _ (by decide +kernel)) ggX0_region_X0_leastCoveredBy
set_option maxRecDepth 20000 in
theorem ggX0_region_X0_endOfRow : GoodIn wsX0_region wsX0_endOfRow := goodIn_r _ [38, 39, 40, 41, 5, 42, 43, 30, 44, 45, 14, 46, 26, 27, 28, 29, 1, 11, 16, 17, 18, 19, 20, 21, 22, 23, 24, 25, 47, 48, 49, 50, 51, 52] (by decide +kernel) (by decide +kernel)
set_option maxRecDepth 20000 in
theorem gX0_region_X0_endOfRow : GoodIn wsX0_region (wsV RX0 90 RX0 yX0_endOfRow wsX0_endOfRow) := goodIn_app (goodIn_of _ (by decide +kernel)) ggX0_region_X0_endOfRow
set_option maxRecDepth 20000 in
theorem ggX0_hull_X0_sources : GoodIn wsX0_hull wsX0_sources := goodIn_r _ [6, 7, 8, 9, 10, 11, 12, 13, 14, 46, 47, 48, 49, 50, 51] (by decide +kernel) (by decide +kernel)
set_option maxRecDepth 20000 in
theorem gX0_hull_X0_sources : GoodIn wsX0_hull (wsV RX0 94 RX0 yX0_sources wsX0_sources) := goodIn_app (goodIn_of _ (by decide +kernel)) ggX0_hull_X0_sources
set_option maxRecDepth 20000 in
theorem ggX0_hull_X0_isZeroOrOne : GoodIn wsX0_hull wsX0_isZeroOrOne := goodIn_r _ [17] (by decide +kernel) (by decide +kernel)
set_option maxRecDepth 20000 in
theorem gX0_hull_X0_isZeroOrOne : GoodIn wsX0_hull (va_wsS RX0 79 yX0_isZeroOrOne wsX0_isZeroOrOne) := goodIn_app (goodIn_of _ (by decide +kernel)) ggX0_hull_X0_isZeroOrOne
set_option maxRecDepth 20000 in
theorem ggX0_hull_X0_leastCoveredBy : GoodIn wsX0_hull wsX0_leastCoveredBy := goodIn_r _ [21, 1, 7, 22, 23, 24, 5, 25, 26, 27, 28, 29, 30, 31, 32, 33, 34, 35, 36, 37, 46, 47, 48, 49, 50, 51] (by decide +kernel) (by decide +kernel)
set_option maxRecDepth 20000 in
theorem gX0_hull_X0_leastCoveredBy : GoodIn wsX0_hull (wsV RX0 86 RX0 yX0_leastCoveredBy wsX0_leastCoveredBy) := goodIn_app (goodIn_of _ (by decide +kernel)) ggX0_hull_X0_leastCoveredBy
set_option maxRecDepth 20000 in
theorem ggX0_hull_X0_greatestCoveredBy : GoodIn wsX0_hull wsX0_greatestCoveredBy := goodIn_r _ [41, 1, 7, 37, 42, 43, 44, 45, 23, 24, 5, 25, 26, 27, 28, 29, 30, 31, 32, 33, 34, 35, 36, 22, 46, 47, 48, 49, 50, 51] (by decide +kernel) (by decide +kernel)
set_option maxRecDepth 20000 in
theorem gX0_hull_X0_greatestCoveredBy : GoodIn wsX0_hull (wsV RX0 97 RX0 yX0_greatestCoveredBy wsX0_greatestCoveredBy) := goodIn_app (goodIn_of _ (by decide +kernel)) ggX0_hull_X0_greatestCoveredBy
set_option maxRecDepth 20000 in
theorem ggX0_chosen_X0_isIn : GoodIn wsX0_chosen wsX0_isIn := goodIn_r _ [7, 8, 9, 6, 10] (by decide +kernel) (by decide +kernel)
set_option maxRecDepth 20000 in
theorem gX0_chosen_X0_isIn : GoodIn wsX0_chosen (va_wsS RX0 52 yX0_isIn wsX0_isIn) := goodIn_app (goodIn_of _ (by decide +kernel)) ggX0_chosen_X0_isIn
set_option maxRecDepth 20000 in
theorem ggX0_chosen_X0_region : GoodIn wsX0_chosen wsX0_region := goodIn_r _ [14, 1, 15, 16, 17, 6, 18, 19, 20, 21, 22, 2, 23, 24, 25, 26, 4, 5, 7, 8, 9, 10, 27, 28, 29, 30, 31, 32, 33, 34, 3, 35, 36, 37, 38, 39, 40, 41, 42, 43, 44, 45, 46, 47, 48, 49, 50, 51, 52, 53, 54, 55, 56] (by decide +kernel) (by decide +kernel)
set_option maxRecDepth 20000 in
theorem gX0_chosen_X0_region : GoodIn wsX0_chosen (wsV RX0 100 RX0 yX0_region wsX0_region) := goodIn_app (goodIn_of _ (by decide +kernel)) ggX0_chosen_X0_region
set_option maxRecDepth 20000 in
theorem ggX0_mean_X0_isZeroOrOne : GoodIn wsX0_mean wsX0_isZeroOrOne := goodIn_r _ [6] (by decide +kernel) (by decide +kernel)
set_option maxRecDepth 20000 in
theorem gX0_mean_X0_isZeroOrOne : GoodIn wsX0_mean (va_wsS RX0 79 yX0_isZeroOrOne wsX0_isZeroOrOne) := goodIn_app (goodIn_of _ (by decide +kernel)) ggX0_mean_X0_isZeroOrOne
set_option maxRecDepth 20000 in
theorem ggX0_mean_X0_medianMiddle : GoodIn wsX0_mean wsX0_medianMiddle := goodIn_r _ [10, 1, 2, 11, 12, 13, 5, 14, 15, 16, 17, 18, 19, 20, 21, 22, 23, 24, 25, 26, 27, 28, 29, 30, 31, 32, 33, 34, 35, 36, 37, 38, 39, 40, 41, 42, 43, 44, 45, 61, 62, 63, 64, 65, 66] (by decide +kernel) (by decide +kernel)
set_option maxRecDepth 20000 in
theorem gX0_mean_X0_medianMiddle : GoodIn wsX0_mean (wsV RX0 103 RX0 yX0_medianMiddle wsX0_medianMiddle) := goodIn_app (goodIn_of _ (by decide +kernel)) ggX0_mean_X0_medianMiddle
set_option maxRecDepth 20000 in
theorem ggX0_mean_X0_nearTo : GoodIn wsX0_mean wsX0_nearTo := goodIn_r _ [49, 1, 50, 51, 52, 53, 22, 23, 5, 24, 25, 26, 27, 32, 33, 34, 35, 36, 37, 38, 39, 40, 41, 42, 43, 44, 45, 54, 55, 56, 61, 62, 63, 64, 65, 66] (by decide +kernel) (by decide +kernel)
set_option maxRecDepth 20000 in
theorem gX0_mean_X0_nearTo : GoodIn wsX0_mean (wsV RX0 107 RX0 yX0_nearTo wsX0_nearTo) := goodIn_app (goodIn_of _ (by decide +kernel)) ggX0_mean_X0_nearTo
set_option maxRecDepth 20000 in
theorem ggX0_mean_X0_meanMiddle : GoodIn wsX0_mean wsX0_meanMiddle := goodIn_r _ [60, 2, 22, 23, 5, 24, 25, 26, 27, 32, 33, 34, 35, 36, 37, 38, 39, 40, 41, 42, 43, 44, 45, 15, 16, 17, 18, 19, 20, 21, 61, 62, 63, 64, 65, 66] (by decide +kernel) (by decide +kernel)
set_option maxRecDepth 20000 in
theorem gX0_mean_X0_meanMiddle : GoodIn wsX0_mean (wsV RX0 111 RX0 yX0_meanMiddle wsX0_meanMiddle) := goodIn_app (goodIn_of _ (by decide +kernel)) ggX0_mean_X0_meanMiddle
set_option maxRecDepth 20000 in
theorem ggX0_mean_J6_bitCount_0f7a4 : GoodIn wsX0_mean wsJ6_bitCount_0f7a4 := goodIn_r _ [18, 19, 20, 21] (by decide +kernel) (by decide +kernel)
set_option maxRecDepth 20000 in
theorem gX0_mean_J6_bitCount_0f7a4 : GoodIn wsX0_mean (va_wsS RX0 60 yJ6_bitCount_0f7a4 wsJ6_bitCount_0f7a4) := goodIn_app (goodIn_of _ (by decide +kernel)) ggX0_mean_J6_bitCount_0f7a4
set_option maxRecDepth 20000 in
theorem ggX0_survivors_X0_isCount : GoodIn wsX0_survivors wsX0_isCount := goodIn_r _ [4] (by decide +kernel) (by decide +kernel)
set_option maxRecDepth 20000 in
theorem gX0_survivors_X0_isCount : GoodIn wsX0_survivors (va_wsS RX0 114 yX0_isCount wsX0_isCount) := goodIn_app (goodIn_of _ (by decide +kernel)) ggX0_survivors_X0_isCount
set_option maxRecDepth 20000 in
theorem ggX0_survivors_X0_leftOf : GoodIn wsX0_survivors wsX0_leftOf := goodIn_r _ [8, 9, 10, 11, 12, 13, 14, 15, 16, 17, 18, 19, 3, 20, 21, 22, 23, 24, 25, 26, 27, 28, 29, 30, 31, 32, 33, 34, 35, 36, 37, 38, 39, 40, 41, 42, 43, 44, 45, 46, 47, 48, 49, 50, 51, 52, 53, 54, 55, 56, 57, 58] (by decide +kernel) (by decide +kernel)
set_option maxRecDepth 20000 in
theorem gX0_survivors_X0_leftOf : GoodIn wsX0_survivors (wsV RX0 117 RX0 yX0_leftOf wsX0_leftOf) := goodIn_app (goodIn_of _ (by decide +kernel)) ggX0_survivors_X0_leftOf
set_option maxRecDepth 20000 in
theorem ggX0_rank_X0_isCount : GoodIn wsX0_rank wsX0_isCount := goodIn_r _ [4] (by decide +kernel) (by decide +kernel)
set_option maxRecDepth 20000 in
theorem gX0_rank_X0_isCount : GoodIn wsX0_rank (va_wsS RX0 114 yX0_isCount wsX0_isCount) := goodIn_app (goodIn_of _ (by decide +kernel)) ggX0_rank_X0_isCount
set_option maxRecDepth 20000 in
theorem ggX0_rank_X0_leftOf : GoodIn wsX0_rank wsX0_leftOf := goodIn_r _ [8, 9, 10, 11, 12, 13, 14, 15, 16, 17, 18, 19, 3, 20, 21, 22, 23, 24, 25, 26, 27, 28, 29, 30, 31, 32, 33, 34, 35, 36, 37, 38, 39, 40, 41, 42, 43, 44, 45, 46, 47, 48, 49, 50, 51, 52, 57, 58, 59, 60, 61, 62] (by decide +kernel) (by decide +kernel)
set_option maxRecDepth 20000 in
theorem gX0_rank_X0_leftOf : GoodIn wsX0_rank (wsV RX0 117 RX0 yX0_leftOf wsX0_leftOf) := goodIn_app (goodIn_of _ (by decide +kernel)) ggX0_rank_X0_leftOf
set_option maxRecDepth 20000 in
theorem ggX0_rank_X0_isIn : GoodIn wsX0_rank wsX0_isIn := goodIn_r _ [32, 33, 34, 3, 35] (by decide +kernel) (by decide +kernel)
set_option maxRecDepth 20000 in
theorem gX0_rank_X0_isIn : GoodIn wsX0_rank (va_wsS RX0 52 yX0_isIn wsX0_isIn) := goodIn_app (goodIn_of _ (by decide +kernel)) ggX0_rank_X0_isIn
set_option maxRecDepth 20000 in
theorem ggX0_rank_X0_place : GoodIn wsX0_rank wsX0_place := goodIn_r _ [56, 36, 37, 38, 3, 39, 40, 41, 42, 43, 44, 45, 46, 47, 48, 49, 30, 31, 32, 33, 34, 35, 57, 58, 59, 60, 61, 62] (by decide +kernel) (by decide +kernel)
set_option maxRecDepth 20000 in
theorem gX0_rank_X0_place : GoodIn wsX0_rank (wsV RX0 120 RX0 yX0_place wsX0_place) := goodIn_app (goodIn_of _ (by decide +kernel)) ggX0_rank_X0_place
set_option maxRecDepth 20000 in
theorem ggX0_steer_X0_greatest : GoodIn wsX0_steer wsX0_greatest := goodIn_r _ [6, 7, 8, 9, 10, 11, 12, 13, 14, 5, 15, 16, 17, 18, 19, 20, 21, 22, 23, 24, 25, 26, 27, 71, 72, 73, 74, 75, 76] (by decide +kernel) (by decide +kernel)
set_option maxRecDepth 20000 in
theorem gX0_steer_X0_greatest : GoodIn wsX0_steer (wsV RX0 82 RX0 yX0_greatest wsX0_greatest) := goodIn_app (goodIn_of _ (by decide +kernel)) ggX0_steer_X0_greatest
set_option maxRecDepth 20000 in
theorem ggX0_steer_X0_sources : GoodIn wsX0_steer wsX0_sources := goodIn_r _ [31, 7, 32, 33, 34, 35, 36, 37, 38, 71, 72, 73, 74, 75, 76] (by decide +kernel) (by decide +kernel)
set_option maxRecDepth 20000 in
theorem gX0_steer_X0_sources : GoodIn wsX0_steer (wsV RX0 94 RX0 yX0_sources wsX0_sources) := goodIn_app (goodIn_of _ (by decide +kernel)) ggX0_steer_X0_sources
set_option maxRecDepth 20000 in
theorem ggX0_steer_X0_region : GoodIn wsX0_steer wsX0_region := goodIn_r _ [42, 7, 43, 44, 45, 5, 46, 2, 3, 4, 6, 8, 9, 10, 11, 12, 13, 14, 15, 16, 17, 18, 19, 20, 21, 22, 23, 24, 25, 26, 27, 47, 48, 49, 50, 51, 52, 53, 54, 55, 56, 57, 58, 59, 60, 61, 62, 71, 72, 73, 74, 75, 76] (by decide +kernel) (by decide +kernel)
set_option maxRecDepth 20000 in
theorem gX0_steer_X0_region : GoodIn wsX0_steer (wsV RX0 100 RX0 yX0_region wsX0_region) := goodIn_app (goodIn_of _ (by decide +kernel)) ggX0_steer_X0_region
set_option maxRecDepth 20000 in
theorem ggX0_steer_X0_half : GoodIn wsX0_steer wsX0_half := goodIn_r _ [65, 66, 67, 68, 69, 70] (by decide +kernel) (by decide +kernel)
set_option maxRecDepth 20000 in
theorem gX0_steer_X0_half : GoodIn wsX0_steer (va_wsS RX0 48 yX0_half wsX0_half) := goodIn_app (goodIn_of _ (by decide +kernel)) ggX0_steer_X0_half
set_option maxRecDepth 20000 in
theorem ggX0_offset_X0_isZeroOrOne : GoodIn wsX0_offset wsX0_isZeroOrOne := goodIn_r _ [7] (by decide +kernel) (by decide +kernel)
set_option maxRecDepth 20000 in
theorem gX0_offset_X0_isZeroOrOne : GoodIn wsX0_offset (va_wsS RX0 79 yX0_isZeroOrOne wsX0_isZeroOrOne) := goodIn_app (goodIn_of _ (by decide +kernel)) ggX0_offset_X0_isZeroOrOne
set_option maxRecDepth 20000 in
theorem ggX0_half_J9_floorDiv_f86c9 : GoodIn wsX0_half wsJ9_floorDiv_f86c9 := goodIn_r _ [5] (by decide +kernel) (by decide +kernel)
set_option maxRecDepth 20000 in
theorem gX0_half_J9_floorDiv_f86c9 : GoodIn wsX0_half (va_wsS RX0 140 yJ9_floorDiv_f86c9 wsJ9_floorDiv_f86c9) := goodIn_app (goodIn_of _ (by decide +kernel)) ggX0_half_J9_floorDiv_f86c9
set_option maxRecDepth 20000 in
theorem ggX0_isIn_X0_isSource : GoodIn wsX0_isIn wsX0_isSource := goodIn_r _ [4] (by decide +kernel) (by decide +kernel)
set_option maxRecDepth 20000 in
theorem gX0_isIn_X0_isSource : GoodIn wsX0_isIn (va_wsS RX0 30 yX0_isSource wsX0_isSource) := goodIn_app (goodIn_of _ (by decide +kernel)) ggX0_isIn_X0_isSource
set_option maxRecDepth 20000 in
theorem ggX0_isCoveredBy_X0_isIn : GoodIn wsX0_isCoveredBy wsX0_isIn := goodIn_r _ [7, 8, 9, 6, 10] (by decide +kernel) (by decide +kernel)
set_option maxRecDepth 20000 in
theorem gX0_isCoveredBy_X0_isIn : GoodIn wsX0_isCoveredBy (va_wsS RX0 52 yX0_isIn wsX0_isIn) := goodIn_app (goodIn_of _ (by decide +kernel)) ggX0_isCoveredBy_X0_isIn
set_option maxRecDepth 20000 in
theorem ggX0_leastCoveredBy_X0_isIn : GoodIn wsX0_leastCoveredBy wsX0_isIn := goodIn_r _ [7, 8, 9, 6, 10] (by decide +kernel) (by decide +kernel)
set_option maxRecDepth 20000 in
theorem gX0_leastCoveredBy_X0_isIn : GoodIn wsX0_leastCoveredBy (va_wsS RX0 52 yX0_isIn wsX0_isIn) := goodIn_app (goodIn_of _ (by decide +kernel)) ggX0_leastCoveredBy_X0_isIn
set_option maxRecDepth 20000 in
theorem ggX0_leastCoveredBy_X0_covers : GoodIn wsX0_leastCoveredBy wsX0_covers := goodIn_r _ [14, 15, 16, 17, 6, 18, 2, 3, 19, 4, 5, 7, 8, 9, 10, 20, 21, 22, 23, 24, 25] (by decide +kernel) (by decide +kernel)
set_option maxRecDepth 20000 in
theorem gX0_leastCoveredBy_X0_covers : GoodIn wsX0_leastCoveredBy (wsV RX0 70 RX0 yX0_covers wsX0_covers) := goodIn_app (goodIn_of _ (by decide +kernel)) ggX0_leastCoveredBy_X0_covers
set_option maxRecDepth 20000 in
theorem ggX0_greatestCoveredBy_X0_isIn : GoodIn wsX0_greatestCoveredBy wsX0_isIn := goodIn_r _ [11, 12, 13, 10, 14] (by decide +kernel) (by decide +kernel)
set_option maxRecDepth 20000 in
theorem gX0_greatestCoveredBy_X0_isIn : GoodIn wsX0_greatestCoveredBy (va_wsS RX0 52 yX0_isIn wsX0_isIn) := goodIn_app (goodIn_of _ (by decide +kernel)) ggX0_greatestCoveredBy_X0_isIn
set_option maxRecDepth 20000 in
theorem ggX0_greatestCoveredBy_X0_covers : GoodIn wsX0_greatestCoveredBy wsX0_covers := goodIn_r _ [18, 19, 20, 21, 10, 22, 2, 23, 3, 8, 9, 11, 12, 13, 14, 24, 25, 26, 27, 28, 29] (by decide +kernel) (by decide +kernel)
set_option maxRecDepth 20000 in
theorem gX0_greatestCoveredBy_X0_covers : GoodIn wsX0_greatestCoveredBy (wsV RX0 70 RX0 yX0_covers wsX0_covers) := goodIn_app (goodIn_of _ (by decide +kernel)) ggX0_greatestCoveredBy_X0_covers
set_option maxRecDepth 20000 in
theorem ggX0_endOfRow_X0_firstHighFrom : GoodIn wsX0_endOfRow wsX0_firstHighFrom := goodIn_r _ [5, 6, 7, 8, 9, 10, 11, 12, 13, 14, 4, 15, 16, 17, 18, 19, 20, 21, 22, 23, 28, 29, 30, 31, 32, 33] (by decide +kernel) (by decide +kernel)
set_option maxRecDepth 20000 in
theorem gX0_endOfRow_X0_firstHighFrom : GoodIn wsX0_endOfRow (wsV RX0 143 RX0 yX0_firstHighFrom wsX0_firstHighFrom) := goodIn_app (goodIn_of _ (by decide +kernel)) ggX0_endOfRow_X0_firstHighFrom
set_option maxRecDepth 20000 in
theorem ggX0_endOfRow_X0_covers : GoodIn wsX0_endOfRow wsX0_covers := goodIn_r _ [27, 12, 13, 14, 4, 15, 16, 17, 7, 18, 19, 20, 21, 22, 23, 28, 29, 30, 31, 32, 33] (by decide +kernel) (by decide +kernel)
set_option maxRecDepth 20000 in
theorem gX0_endOfRow_X0_covers : GoodIn wsX0_endOfRow (wsV RX0 70 RX0 yX0_covers wsX0_covers) := goodIn_app (goodIn_of _ (by decide +kernel)) ggX0_endOfRow_X0_covers
set_option maxRecDepth 20000 in
theorem ggX0_firstHighFrom_X0_isCoveredBy : GoodIn wsX0_firstHighFrom wsX0_isCoveredBy := goodIn_r _ [11, 12, 13, 2, 14, 15, 10, 16, 17, 18, 19, 20, 21, 22, 23, 24, 25] (by decide +kernel) (by decide +kernel)
set_option maxRecDepth 20000 in
theorem gX0_firstHighFrom_X0_isCoveredBy : GoodIn wsX0_firstHighFrom (wsV RX0 66 RX0 yX0_isCoveredBy wsX0_isCoveredBy) := goodIn_app (goodIn_of _ (by decide +kernel)) ggX0_firstHighFrom_X0_isCoveredBy
set_option maxRecDepth 20000 in
theorem ggX0_middle_X0_half : GoodIn wsX0_middle wsX0_half := goodIn_r _ [6, 7, 8, 9, 10, 11] (by decide +kernel) (by decide +kernel)
set_option maxRecDepth 20000 in
theorem gX0_middle_X0_half : GoodIn wsX0_middle (va_wsS RX0 48 yX0_half wsX0_half) := goodIn_app (goodIn_of _ (by decide +kernel)) ggX0_middle_X0_half
set_option maxRecDepth 20000 in
theorem ggX0_medianMiddle_X0_sources : GoodIn wsX0_medianMiddle wsX0_sources := goodIn_r _ [7, 1, 8, 9, 10, 11, 12, 13, 14, 39, 40, 41, 42, 43, 44] (by decide +kernel) (by decide +kernel)
set_option maxRecDepth 20000 in
theorem gX0_medianMiddle_X0_sources : GoodIn wsX0_medianMiddle (wsV RX0 94 RX0 yX0_sources wsX0_sources) := goodIn_app (goodIn_of _ (by decide +kernel)) ggX0_medianMiddle_X0_sources
set_option maxRecDepth 20000 in
theorem ggX0_medianMiddle_X0_isIn : GoodIn wsX0_medianMiddle wsX0_isIn := goodIn_r _ [17, 18, 19, 6, 20] (by decide +kernel) (by decide +kernel)
set_option maxRecDepth 20000 in
theorem gX0_medianMiddle_X0_isIn : GoodIn wsX0_medianMiddle (va_wsS RX0 52 yX0_isIn wsX0_isIn) := goodIn_app (goodIn_of _ (by decide +kernel)) ggX0_medianMiddle_X0_isIn
set_option maxRecDepth 20000 in
theorem ggX0_medianMiddle_X0_place : GoodIn wsX0_medianMiddle wsX0_place := goodIn_r _ [24, 25, 26, 27, 6, 28, 29, 30, 31, 32, 33, 34, 35, 36, 37, 38, 15, 16, 17, 18, 19, 20, 39, 40, 41, 42, 43, 44] (by decide +kernel) (by decide +kernel)
set_option maxRecDepth 20000 in
theorem gX0_medianMiddle_X0_place : GoodIn wsX0_medianMiddle (wsV RX0 120 RX0 yX0_place wsX0_place) := goodIn_app (goodIn_of _ (by decide +kernel)) ggX0_medianMiddle_X0_place
set_option maxRecDepth 20000 in
theorem ggX0_medianMiddle_X0_middle : GoodIn wsX0_medianMiddle wsX0_middle := goodIn_r _ [28, 29, 30, 31, 32, 6, 33, 34, 35, 36, 37, 38, 39, 40, 41, 42, 43, 44] (by decide +kernel) (by decide +kernel)
set_option maxRecDepth 20000 in
theorem gX0_medianMiddle_X0_middle : GoodIn wsX0_medianMiddle (wsV RX0 146 RX0 yX0_middle wsX0_middle) := goodIn_app (goodIn_of _ (by decide +kernel)) ggX0_medianMiddle_X0_middle
set_option maxRecDepth 20000 in
theorem ggX0_place_X0_middle : GoodIn wsX0_place wsX0_middle := goodIn_r _ [5, 6, 7, 8, 9, 4, 10, 11, 12, 13, 14, 15, 22, 23, 24, 25, 26, 27] (by decide +kernel) (by decide +kernel)
set_option maxRecDepth 20000 in
theorem gX0_place_X0_middle : GoodIn wsX0_place (wsV RX0 146 RX0 yX0_middle wsX0_middle) := goodIn_app (goodIn_of _ (by decide +kernel)) ggX0_place_X0_middle
set_option maxRecDepth 20000 in
theorem ggX0_place_X0_isIn : GoodIn wsX0_place wsX0_isIn := goodIn_r _ [18, 19, 20, 4, 21] (by decide +kernel) (by decide +kernel)
set_option maxRecDepth 20000 in
theorem gX0_place_X0_isIn : GoodIn wsX0_place (va_wsS RX0 52 yX0_isIn wsX0_isIn) := goodIn_app (goodIn_of _ (by decide +kernel)) ggX0_place_X0_isIn
set_option maxRecDepth 20000 in
theorem ggX0_nearTo_X0_isIn : GoodIn wsX0_nearTo wsX0_isIn := goodIn_r _ [9, 10, 11, 8, 12] (by decide +kernel) (by decide +kernel)
set_option maxRecDepth 20000 in
theorem gX0_nearTo_X0_isIn : GoodIn wsX0_nearTo (va_wsS RX0 52 yX0_isIn wsX0_isIn) := goodIn_app (goodIn_of _ (by decide +kernel)) ggX0_nearTo_X0_isIn
set_option maxRecDepth 20000 in
theorem ggX0_nearTo_X0_middle : GoodIn wsX0_nearTo wsX0_middle := goodIn_r _ [16, 17, 18, 19, 20, 8, 21, 22, 23, 24, 25, 26, 30, 31, 32, 33, 34, 35] (by decide +kernel) (by decide +kernel)
set_option maxRecDepth 20000 in
theorem gX0_nearTo_X0_middle : GoodIn wsX0_nearTo (wsV RX0 146 RX0 yX0_middle wsX0_middle) := goodIn_app (goodIn_of _ (by decide +kernel)) ggX0_nearTo_X0_middle
set_option maxRecDepth 20000 in
theorem ggX0_nearTo_X0_without : GoodIn wsX0_nearTo wsX0_without := goodIn_r _ [29] (by decide +kernel) (by decide +kernel)
set_option maxRecDepth 20000 in
theorem gX0_nearTo_X0_without : GoodIn wsX0_nearTo (va_wsS RX0 56 yX0_without wsX0_without) := goodIn_app (goodIn_of _ (by decide +kernel)) ggX0_nearTo_X0_without
set_option maxRecDepth 20000 in
theorem ggX0_meanMiddle_X0_isIn : GoodIn wsX0_meanMiddle wsX0_isIn := goodIn_r _ [5, 6, 7, 4, 8] (by decide +kernel) (by decide +kernel)
set_option maxRecDepth 20000 in
theorem gX0_meanMiddle_X0_isIn : GoodIn wsX0_meanMiddle (va_wsS RX0 52 yX0_isIn wsX0_isIn) := goodIn_app (goodIn_of _ (by decide +kernel)) ggX0_meanMiddle_X0_isIn
set_option maxRecDepth 20000 in
theorem ggX0_meanMiddle_X0_middle : GoodIn wsX0_meanMiddle wsX0_middle := goodIn_r _ [12, 13, 14, 15, 16, 4, 17, 18, 19, 20, 21, 22, 30, 31, 32, 33, 34, 35] (by decide +kernel) (by decide +kernel)
set_option maxRecDepth 20000 in
theorem gX0_meanMiddle_X0_middle : GoodIn wsX0_meanMiddle (wsV RX0 146 RX0 yX0_middle wsX0_middle) := goodIn_app (goodIn_of _ (by decide +kernel)) ggX0_meanMiddle_X0_middle
set_option maxRecDepth 20000 in
theorem ggX0_meanMiddle_J6_bitCount_0f7a4 : GoodIn wsX0_meanMiddle wsJ6_bitCount_0f7a4 := goodIn_r _ [26, 27, 28, 29] (by decide +kernel) (by decide +kernel)
set_option maxRecDepth 20000 in
theorem gX0_meanMiddle_J6_bitCount_0f7a4 : GoodIn wsX0_meanMiddle (va_wsS RX0 60 yJ6_bitCount_0f7a4 wsJ6_bitCount_0f7a4) := goodIn_app (goodIn_of _ (by decide +kernel)) ggX0_meanMiddle_J6_bitCount_0f7a4
set_option maxRecDepth 20000 in
theorem ggX0_meanMiddle_J9_floorDiv_f86c9 : GoodIn wsX0_meanMiddle wsJ9_floorDiv_f86c9 := goodIn_r _ [22] (by decide +kernel) (by decide +kernel)
set_option maxRecDepth 20000 in
theorem gX0_meanMiddle_J9_floorDiv_f86c9 : GoodIn wsX0_meanMiddle (va_wsS RX0 140 yJ9_floorDiv_f86c9 wsJ9_floorDiv_f86c9) := goodIn_app (goodIn_of _ (by decide +kernel)) ggX0_meanMiddle_J9_floorDiv_f86c9
set_option maxRecDepth 20000 in
theorem ggX0_leftOf_J6_bitCount_0f7a4 : GoodIn wsX0_leftOf wsJ6_bitCount_0f7a4 := goodIn_r _ [5, 6, 7, 8] (by decide +kernel) (by decide +kernel)
set_option maxRecDepth 20000 in
theorem gX0_leftOf_J6_bitCount_0f7a4 : GoodIn wsX0_leftOf (va_wsS RX0 60 yJ6_bitCount_0f7a4 wsJ6_bitCount_0f7a4) := goodIn_app (goodIn_of _ (by decide +kernel)) ggX0_leftOf_J6_bitCount_0f7a4
set_option maxRecDepth 20000 in
theorem ggX0_leftOf_X0_farthest : GoodIn wsX0_leftOf wsX0_farthest := goodIn_r _ [13, 14, 15, 16, 17, 18, 19, 20, 12, 21, 22, 23, 24, 25, 26, 27, 28, 29, 30, 31, 32, 33, 34, 35, 36, 37, 38, 39, 40, 41, 42, 2, 3, 4, 5, 6, 7, 8, 46, 47, 48, 49, 50, 51] (by decide +kernel) (by decide +kernel)
set_option maxRecDepth 20000 in
theorem gX0_leftOf_X0_farthest : GoodIn wsX0_leftOf (wsV RX0 149 RX0 yX0_farthest wsX0_farthest) := goodIn_app (goodIn_of _ (by decide +kernel)) ggX0_leftOf_X0_farthest
set_option maxRecDepth 20000 in
theorem ggX0_leftOf_X0_without : GoodIn wsX0_leftOf wsX0_without := goodIn_r _ [45] (by decide +kernel) (by decide +kernel)
set_option maxRecDepth 20000 in
theorem gX0_leftOf_X0_without : GoodIn wsX0_leftOf (va_wsS RX0 56 yX0_without wsX0_without) := goodIn_app (goodIn_of _ (by decide +kernel)) ggX0_leftOf_X0_without
set_option maxRecDepth 20000 in
theorem ggX0_farthest_X0_meanMiddle : GoodIn wsX0_farthest wsX0_meanMiddle := goodIn_r _ [9, 10, 11, 12, 8, 13, 14, 15, 16, 17, 18, 19, 20, 21, 22, 23, 24, 25, 26, 27, 28, 29, 30, 31, 32, 33, 34, 35, 36, 37, 38, 39, 40, 41, 42, 43] (by decide +kernel) (by decide +kernel)
set_option maxRecDepth 20000 in
theorem gX0_farthest_X0_meanMiddle : GoodIn wsX0_farthest (wsV RX0 111 RX0 yX0_meanMiddle wsX0_meanMiddle) := goodIn_app (goodIn_of _ (by decide +kernel)) ggX0_farthest_X0_meanMiddle
set_option maxRecDepth 20000 in
theorem ggX0_farthest_X0_isIn : GoodIn wsX0_farthest wsX0_isIn := goodIn_r _ [13, 14, 15, 8, 16] (by decide +kernel) (by decide +kernel)
set_option maxRecDepth 20000 in
theorem gX0_farthest_X0_isIn : GoodIn wsX0_farthest (va_wsS RX0 52 yX0_isIn wsX0_isIn) := goodIn_app (goodIn_of _ (by decide +kernel)) ggX0_farthest_X0_isIn
set_option maxRecDepth 20000 in
theorem ggX0_farthest_X0_middle : GoodIn wsX0_farthest wsX0_middle := goodIn_r _ [20, 21, 22, 23, 24, 8, 25, 26, 27, 28, 29, 30, 38, 39, 40, 41, 42, 43] (by decide +kernel) (by decide +kernel)
set_option maxRecDepth 20000 in
theorem gX0_farthest_X0_middle : GoodIn wsX0_farthest (wsV RX0 146 RX0 yX0_middle wsX0_middle) := goodIn_app (goodIn_of _ (by decide +kernel)) ggX0_farthest_X0_middle
set_option maxRecDepth 20000 in
theorem ggX1_interval_X1_isSource : GoodIn wsX1_interval wsX1_isSource := goodIn_r _ [9] (by decide +kernel) (by decide +kernel)
set_option maxRecDepth 20000 in
theorem gX1_interval_X1_isSource : GoodIn wsX1_interval (va_wsS RX1 20 yX1_isSource wsX1_isSource) := goodIn_app (goodIn_of _ (by decide +kernel)) ggX1_interval_X1_isSource
set_option maxRecDepth 20000 in
theorem ggX1_exchange_X1_isSource : GoodIn wsX1_exchange wsX1_isSource := goodIn_r _ [9] (by decide +kernel) (by decide +kernel)
set_option maxRecDepth 20000 in
theorem gX1_exchange_X1_isSource : GoodIn wsX1_exchange (va_wsS RX1 20 yX1_isSource wsX1_isSource) := goodIn_app (goodIn_of _ (by decide +kernel)) ggX1_exchange_X1_isSource
set_option maxRecDepth 20000 in
theorem ggX1_exchange_X1_half : GoodIn wsX1_exchange wsX1_half := goodIn_r _ [12] (by decide +kernel) (by decide +kernel)
set_option maxRecDepth 20000 in
theorem gX1_exchange_X1_half : GoodIn wsX1_exchange (va_wsS RX1 32 yX1_half wsX1_half) := goodIn_app (goodIn_of _ (by decide +kernel)) ggX1_exchange_X1_half
set_option maxRecDepth 20000 in
theorem ggX1_drop_X1_isSource : GoodIn wsX1_drop wsX1_isSource := goodIn_r _ [5] (by decide +kernel) (by decide +kernel)
set_option maxRecDepth 20000 in
theorem gX1_drop_X1_isSource : GoodIn wsX1_drop (va_wsS RX1 20 yX1_isSource wsX1_isSource) := goodIn_app (goodIn_of _ (by decide +kernel)) ggX1_drop_X1_isSource
set_option maxRecDepth 20000 in
theorem ggX1_greatest_X1_covers : GoodIn wsX1_greatest wsX1_covers := goodIn_r _ [7, 1, 2, 8, 9, 10, 11, 12, 13, 14] (by decide +kernel) (by decide +kernel)
set_option maxRecDepth 20000 in
theorem gX1_greatest_X1_covers : GoodIn wsX1_greatest (wsV RX1 36 RX1 yX1_covers wsX1_covers) := goodIn_app (goodIn_of _ (by decide +kernel)) ggX1_greatest_X1_covers
set_option maxRecDepth 20000 in
theorem ggX1_first_X1_covers : GoodIn wsX1_first wsX1_covers := goodIn_r _ [8, 2, 3, 9, 10, 11, 12, 13, 14, 15] (by decide +kernel) (by decide +kernel)
set_option maxRecDepth 20000 in
theorem gX1_first_X1_covers : GoodIn wsX1_first (wsV RX1 36 RX1 yX1_covers wsX1_covers) := goodIn_app (goodIn_of _ (by decide +kernel)) ggX1_first_X1_covers
set_option maxRecDepth 20000 in
theorem ggX1_last_X1_covers : GoodIn wsX1_last wsX1_covers := goodIn_r _ [8, 2, 9, 3, 10, 11, 12, 13, 14, 15] (by decide +kernel) (by decide +kernel)
set_option maxRecDepth 20000 in
theorem gX1_last_X1_covers : GoodIn wsX1_last (wsV RX1 36 RX1 yX1_covers wsX1_covers) := goodIn_app (goodIn_of _ (by decide +kernel)) ggX1_last_X1_covers
set_option maxRecDepth 20000 in
theorem ggX1_region_X1_greatest : GoodIn wsX1_region wsX1_greatest := goodIn_r _ [10, 3, 4, 11, 12, 13, 9, 14, 5, 19, 20, 21, 22, 23, 24] (by decide +kernel) (by decide +kernel)
set_option maxRecDepth 20000 in
theorem gX1_region_X1_greatest : GoodIn wsX1_region (wsV RX1 40 RX1 yX1_greatest wsX1_greatest) := goodIn_app (goodIn_of _ (by decide +kernel)) ggX1_region_X1_greatest
set_option maxRecDepth 20000 in
theorem ggX1_region_X1_first : GoodIn wsX1_region wsX1_first := goodIn_r _ [18, 1, 3, 4, 11, 12, 13, 9, 14, 5, 19, 20, 21, 22, 23, 24] (by decide +kernel) (by decide +kernel)
set_option maxRecDepth 20000 in
theorem gX1_region_X1_first : GoodIn wsX1_region (wsV RX1 44 RX1 yX1_first wsX1_first) := goodIn_app (goodIn_of _ (by decide +kernel)) ggX1_region_X1_first
set_option maxRecDepth 20000 in
theorem ggX1_region_X1_covers : GoodIn wsX1_region wsX1_covers := goodIn_r _ [14, 3, 4, 5, 19, 20, 21, 22, 23, 24] (by decide +kernel) (by decide +kernel)
set_option maxRecDepth 20000 in
theorem gX1_region_X1_covers : GoodIn wsX1_region (wsV RX1 36 RX1 yX1_covers wsX1_covers) := goodIn_app (goodIn_of _ (by decide +kernel)) ggX1_region_X1_covers
set_option maxRecDepth 20000 in
theorem ggX1_hull_X1_sources : GoodIn wsX1_hull wsX1_sources := goodIn_r _ [6, 7, 22, 23, 24, 25, 26, 27] (by decide +kernel) (by decide +kernel)
set_option maxRecDepth 20000 in
theorem gX1_hull_X1_sources : GoodIn wsX1_hull (wsV RX1 48 RX1 yX1_sources wsX1_sources) := goodIn_app (goodIn_of _ (by decide +kernel)) ggX1_hull_X1_sources
set_option maxRecDepth 20000 in
theorem ggX1_hull_X1_first : GoodIn wsX1_hull wsX1_first := goodIn_r _ [11, 1, 7, 12, 13, 14, 15, 5, 16, 17, 22, 23, 24, 25, 26, 27] (by decide +kernel) (by decide +kernel)
set_option maxRecDepth 20000 in
theorem gX1_hull_X1_first : GoodIn wsX1_hull (wsV RX1 44 RX1 yX1_first wsX1_first) := goodIn_app (goodIn_of _ (by decide +kernel)) ggX1_hull_X1_first
set_option maxRecDepth 20000 in
theorem ggX1_hull_X1_last : GoodIn wsX1_hull wsX1_last := goodIn_r _ [21, 1, 7, 17, 13, 14, 15, 5, 16, 12, 22, 23, 24, 25, 26, 27] (by decide +kernel) (by decide +kernel)
set_option maxRecDepth 20000 in
theorem gX1_hull_X1_last : GoodIn wsX1_hull (wsV RX1 51 RX1 yX1_last wsX1_last) := goodIn_app (goodIn_of _ (by decide +kernel)) ggX1_hull_X1_last
set_option maxRecDepth 20000 in
theorem ggX1_chosen_X1_isSource : GoodIn wsX1_chosen wsX1_isSource := goodIn_r _ [7] (by decide +kernel) (by decide +kernel)
set_option maxRecDepth 20000 in
theorem gX1_chosen_X1_isSource : GoodIn wsX1_chosen (va_wsS RX1 20 yX1_isSource wsX1_isSource) := goodIn_app (goodIn_of _ (by decide +kernel)) ggX1_chosen_X1_isSource
set_option maxRecDepth 20000 in
theorem ggX1_chosen_X1_region : GoodIn wsX1_chosen wsX1_region := goodIn_r _ [11, 12, 13, 1, 2, 3, 14, 15, 16, 6, 17, 18, 19, 20, 21, 22, 23, 24, 25, 26, 27, 28, 29, 30, 31] (by decide +kernel) (by decide +kernel)
set_option maxRecDepth 20000 in
theorem gX1_chosen_X1_region : GoodIn wsX1_chosen (wsV RX1 54 RX1 yX1_region wsX1_region) := goodIn_app (goodIn_of _ (by decide +kernel)) ggX1_chosen_X1_region
set_option maxRecDepth 20000 in
theorem ggX1_middle_X1_half : GoodIn wsX1_middle wsX1_half := goodIn_r _ [6] (by decide +kernel) (by decide +kernel)
set_option maxRecDepth 20000 in
theorem gX1_middle_X1_half : GoodIn wsX1_middle (va_wsS RX1 32 yX1_half wsX1_half) := goodIn_app (goodIn_of _ (by decide +kernel)) ggX1_middle_X1_half
set_option maxRecDepth 20000 in
theorem ggX1_median_X1_sources : GoodIn wsX1_median wsX1_sources := goodIn_r _ [7, 1, 17, 18, 19, 20, 21, 22] (by decide +kernel) (by decide +kernel)
set_option maxRecDepth 20000 in
theorem gX1_median_X1_sources : GoodIn wsX1_median (wsV RX1 48 RX1 yX1_sources wsX1_sources) := goodIn_app (goodIn_of _ (by decide +kernel)) ggX1_median_X1_sources
set_option maxRecDepth 20000 in
theorem ggX1_median_X1_middle : GoodIn wsX1_median wsX1_middle := goodIn_r _ [11, 12, 13, 14, 15, 6, 16, 17, 18, 19, 20, 21, 22] (by decide +kernel) (by decide +kernel)
set_option maxRecDepth 20000 in
theorem gX1_median_X1_middle : GoodIn wsX1_median (wsV RX1 57 RX1 yX1_middle wsX1_middle) := goodIn_app (goodIn_of _ (by decide +kernel)) ggX1_median_X1_middle
set_option maxRecDepth 20000 in
theorem ggX1_mean_X1_sources : GoodIn wsX1_mean wsX1_sources := goodIn_r _ [7, 2, 27, 28, 29, 30, 31, 32] (by decide +kernel) (by decide +kernel)
set_option maxRecDepth 20000 in
theorem gX1_mean_X1_sources : GoodIn wsX1_mean (wsV RX1 48 RX1 yX1_sources wsX1_sources) := goodIn_app (goodIn_of _ (by decide +kernel)) ggX1_mean_X1_sources
set_option maxRecDepth 20000 in
theorem ggX1_mean_X1_median : GoodIn wsX1_mean wsX1_median := goodIn_r _ [11, 2, 1, 3, 4, 5, 6, 7, 12, 13, 14, 15, 16, 17, 18, 19, 20, 27, 28, 29, 30, 31, 32] (by decide +kernel) (by decide +kernel)
set_option maxRecDepth 20000 in
theorem gX1_mean_X1_median : GoodIn wsX1_mean (wsV RX1 60 RX1 yX1_median wsX1_median) := goodIn_app (goodIn_of _ (by decide +kernel)) ggX1_mean_X1_median
set_option maxRecDepth 20000 in
theorem ggX1_mean_X1_middle : GoodIn wsX1_mean wsX1_middle := goodIn_r _ [15, 16, 17, 18, 19, 6, 20, 27, 28, 29, 30, 31, 32] (by decide +kernel) (by decide +kernel)
set_option maxRecDepth 20000 in
theorem gX1_mean_X1_middle : GoodIn wsX1_mean (wsV RX1 57 RX1 yX1_middle wsX1_middle) := goodIn_app (goodIn_of _ (by decide +kernel)) ggX1_mean_X1_middle
set_option maxRecDepth 20000 in
theorem ggX1_mean_X1_size : GoodIn wsX1_mean wsX1_size := goodIn_r _ [23] (by decide +kernel) (by decide +kernel)
set_option maxRecDepth 20000 in
theorem gX1_mean_X1_size : GoodIn wsX1_mean (va_wsS RX1 64 yX1_size wsX1_size) := goodIn_app (goodIn_of _ (by decide +kernel)) ggX1_mean_X1_size
set_option maxRecDepth 20000 in
theorem ggX1_mean_X1_over : GoodIn wsX1_mean wsX1_over := goodIn_r _ [26] (by decide +kernel) (by decide +kernel)
set_option maxRecDepth 20000 in
theorem gX1_mean_X1_over : GoodIn wsX1_mean (va_wsS RX1 67 yX1_over wsX1_over) := goodIn_app (goodIn_of _ (by decide +kernel)) ggX1_mean_X1_over
set_option maxRecDepth 20000 in
theorem ggX1_survivors_X1_middle : GoodIn wsX1_survivors wsX1_middle := goodIn_r _ [6, 7, 8, 9, 10, 5, 11, 18, 19, 20, 21, 22, 23] (by decide +kernel) (by decide +kernel)
set_option maxRecDepth 20000 in
theorem gX1_survivors_X1_middle : GoodIn wsX1_survivors (wsV RX1 57 RX1 yX1_middle wsX1_middle) := goodIn_app (goodIn_of _ (by decide +kernel)) ggX1_survivors_X1_middle
set_option maxRecDepth 20000 in
theorem ggX1_survivors_X1_over : GoodIn wsX1_survivors wsX1_over := goodIn_r _ [14] (by decide +kernel) (by decide +kernel)
set_option maxRecDepth 20000 in
theorem gX1_survivors_X1_over : GoodIn wsX1_survivors (va_wsS RX1 67 yX1_over wsX1_over) := goodIn_app (goodIn_of _ (by decide +kernel)) ggX1_survivors_X1_over
set_option maxRecDepth 20000 in
theorem ggX1_survivors_X1_size : GoodIn wsX1_survivors wsX1_size := goodIn_r _ [17] (by decide +kernel) (by decide +kernel)
set_option maxRecDepth 20000 in
theorem gX1_survivors_X1_size : GoodIn wsX1_survivors (va_wsS RX1 64 yX1_size wsX1_size) := goodIn_app (goodIn_of _ (by decide +kernel)) ggX1_survivors_X1_size
set_option maxRecDepth 20000 in
theorem ggX1_rank_X1_survivors : GoodIn wsX1_rank wsX1_survivors := goodIn_r _ [5, 6, 7, 8, 9, 4, 10, 11, 12, 13, 14, 15, 16, 17, 18, 19, 20, 21, 25, 26, 27, 28, 29, 30] (by decide +kernel) (by decide +kernel)
set_option maxRecDepth 20000 in
theorem gX1_rank_X1_survivors : GoodIn wsX1_rank (wsV RX1 71 RX1 yX1_survivors wsX1_survivors) := goodIn_app (goodIn_of _ (by decide +kernel)) ggX1_rank_X1_survivors
set_option maxRecDepth 20000 in
theorem ggX1_rank_X1_isSource : GoodIn wsX1_rank wsX1_isSource := goodIn_r _ [24] (by decide +kernel) (by decide +kernel)
set_option maxRecDepth 20000 in
theorem gX1_rank_X1_isSource : GoodIn wsX1_rank (va_wsS RX1 20 yX1_isSource wsX1_isSource) := goodIn_app (goodIn_of _ (by decide +kernel)) ggX1_rank_X1_isSource
set_option maxRecDepth 20000 in
theorem ggX1_rank_X1_middle : GoodIn wsX1_rank wsX1_middle := goodIn_r _ [10, 11, 12, 13, 14, 4, 15, 25, 26, 27, 28, 29, 30] (by decide +kernel) (by decide +kernel)
set_option maxRecDepth 20000 in
theorem gX1_rank_X1_middle : GoodIn wsX1_rank (wsV RX1 57 RX1 yX1_middle wsX1_middle) := goodIn_app (goodIn_of _ (by decide +kernel)) ggX1_rank_X1_middle
set_option maxRecDepth 20000 in
theorem ggX1_steer_X1_greatest : GoodIn wsX1_steer wsX1_greatest := goodIn_r _ [6, 7, 8, 9, 10, 11, 5, 12, 13, 31, 32, 33, 34, 35, 36] (by decide +kernel) (by decide +kernel)
set_option maxRecDepth 20000 in
theorem gX1_steer_X1_greatest : GoodIn wsX1_steer (wsV RX1 40 RX1 yX1_greatest wsX1_greatest) := goodIn_app (goodIn_of _ (by decide +kernel)) ggX1_steer_X1_greatest
set_option maxRecDepth 20000 in
theorem ggX1_steer_X1_sources : GoodIn wsX1_steer wsX1_sources := goodIn_r _ [17, 7, 31, 32, 33, 34, 35, 36] (by decide +kernel) (by decide +kernel)
set_option maxRecDepth 20000 in
theorem gX1_steer_X1_sources : GoodIn wsX1_steer (wsV RX1 48 RX1 yX1_sources wsX1_sources) := goodIn_app (goodIn_of _ (by decide +kernel)) ggX1_steer_X1_sources
set_option maxRecDepth 20000 in
theorem ggX1_steer_X1_region : GoodIn wsX1_steer wsX1_region := goodIn_r _ [21, 22, 23, 7, 8, 13, 2, 3, 4, 5, 6, 9, 10, 11, 12, 24, 25, 26, 27, 31, 32, 33, 34, 35, 36] (by decide +kernel) (by decide +kernel)
set_option maxRecDepth 20000 in
theorem gX1_steer_X1_region : GoodIn wsX1_steer (wsV RX1 54 RX1 yX1_region wsX1_region) := goodIn_app (goodIn_of _ (by decide +kernel)) ggX1_steer_X1_region
set_option maxRecDepth 20000 in
theorem ggX1_steer_X1_half : GoodIn wsX1_steer wsX1_half := goodIn_r _ [30] (by decide +kernel) (by decide +kernel)
set_option maxRecDepth 20000 in
theorem gX1_steer_X1_half : GoodIn wsX1_steer (va_wsS RX1 32 yX1_half wsX1_half) := goodIn_app (goodIn_of _ (by decide +kernel)) ggX1_steer_X1_half
set_option maxRecDepth 20000 in
theorem ggX1_settles_X1_size : GoodIn wsX1_settles wsX1_size := goodIn_r _ [9] (by decide +kernel) (by decide +kernel)
set_option maxRecDepth 20000 in
theorem gX1_settles_X1_size : GoodIn wsX1_settles (va_wsS RX1 64 yX1_size wsX1_size) := goodIn_app (goodIn_of _ (by decide +kernel)) ggX1_settles_X1_size
set_option maxRecDepth 20000 in
theorem ggL_law_X0_init : GoodIn wsL_law wsX0_init := goodIn_r _ [9, 10, 11, 12, 13, 14, 15, 16, 17, 18, 19, 314, 315, 316, 317, 318, 319] (by decide +kernel) (by decide +kernel)
set_option maxRecDepth 20000 in
theorem gL_law_X0_init : GoodIn wsL_law (wsX0_init) := ggL_law_X0_init
set_option maxRecDepth 20000 in
theorem ggL_law_X1_init : GoodIn wsL_law wsX1_init := goodIn_r _ [22, 23, 11, 12, 24, 25, 13, 26, 27, 320, 321, 322, 323, 324, 325] (by decide +kernel) (by decide +kernel)
set_option maxRecDepth 20000 in
theorem gL_law_X1_init : GoodIn wsL_law (wsX1_init) := ggL_law_X1_init
set_option maxRecDepth 20000 in
theorem ggL_law_X0_interval : GoodIn wsL_law wsX0_interval := goodIn_r _ [31, 32, 33, 34, 35, 2, 36, 37, 38, 39, 40, 14, 15, 16, 314, 315, 316, 317, 318, 319] (by decide +kernel) (by decide +kernel)
set_option maxRecDepth 20000 in
theorem gL_law_X0_interval : GoodIn wsL_law (wsV RL 15 RX0 yX0_interval wsX0_interval) := goodIn_app (goodIn_of _ (by decide +kernel)) ggL_law_X0_interval
set_option maxRecDepth 20000 in
theorem ggL_law_X1_interval : GoodIn wsL_law wsX1_interval := goodIn_r _ [44, 45, 46, 25, 26, 27, 47, 48, 5, 49, 320, 321, 322, 323, 324, 325] (by decide +kernel) (by decide +kernel)
set_option maxRecDepth 20000 in
theorem gL_law_X1_interval : GoodIn wsL_law (wsV RL 19 RX1 yX1_interval wsX1_interval) := goodIn_app (goodIn_of _ (by decide +kernel)) ggL_law_X1_interval
set_option maxRecDepth 20000 in
theorem ggL_law_X0_exchange : GoodIn wsL_law wsX0_exchange := goodIn_r _ [53, 54, 34, 35, 2, 36, 55, 56, 57, 58, 37, 38, 39, 40, 14, 15, 16, 59, 60, 61, 62, 63, 64, 65, 66, 314, 315, 316, 317, 318, 319] (by decide +kernel) (by decide +kernel)
set_option maxRecDepth 20000 in
theorem gL_law_X0_exchange : GoodIn wsL_law (wsV RL 20 RX0 yX0_exchange wsX0_exchange) := goodIn_app (goodIn_of _ (by decide +kernel)) ggL_law_X0_exchange
set_option maxRecDepth 20000 in
theorem ggL_law_X1_exchange : GoodIn wsL_law wsX1_exchange := goodIn_r _ [70, 71, 72, 25, 26, 27, 47, 48, 5, 49, 73, 74, 75, 320, 321, 322, 323, 324, 325] (by decide +kernel) (by decide +kernel)
set_option maxRecDepth 20000 in
theorem gL_law_X1_exchange : GoodIn wsL_law (wsV RL 24 RX1 yX1_exchange wsX1_exchange) := goodIn_app (goodIn_of _ (by decide +kernel)) ggL_law_X1_exchange
set_option maxRecDepth 20000 in
theorem ggL_law_X0_drop : GoodIn wsL_law wsX0_drop := goodIn_r _ [79, 16, 80, 81, 2, 82, 34, 35, 36, 83, 84, 85, 314, 315, 316, 317, 318, 319] (by decide +kernel) (by decide +kernel)
set_option maxRecDepth 20000 in
theorem gL_law_X0_drop : GoodIn wsL_law (wsV RL 25 RX0 yX0_drop wsX0_drop) := goodIn_app (goodIn_of _ (by decide +kernel)) ggL_law_X0_drop
set_option maxRecDepth 20000 in
theorem ggL_law_X1_drop : GoodIn wsL_law wsX1_drop := goodIn_r _ [89, 25, 47, 48, 5, 49, 320, 321, 322, 323, 324, 325] (by decide +kernel) (by decide +kernel)
set_option maxRecDepth 20000 in
theorem gL_law_X1_drop : GoodIn wsL_law (wsV RL 29 RX1 yX1_drop wsX1_drop) := goodIn_app (goodIn_of _ (by decide +kernel)) ggL_law_X1_drop
set_option maxRecDepth 20000 in
theorem ggL_law_X0_sources : GoodIn wsL_law wsX0_sources := goodIn_r _ [93, 16, 94, 95, 96, 97, 98, 99, 100, 314, 315, 316, 317, 318, 319] (by decide +kernel) (by decide +kernel)
set_option maxRecDepth 20000 in
theorem gL_law_X0_sources : GoodIn wsL_law (wsV RL 30 RX0 yX0_sources wsX0_sources) := goodIn_app (goodIn_of _ (by decide +kernel)) ggL_law_X0_sources
set_option maxRecDepth 20000 in
theorem ggL_law_X1_sources : GoodIn wsL_law wsX1_sources := goodIn_r _ [104, 25, 320, 321, 322, 323, 324, 325] (by decide +kernel) (by decide +kernel)
set_option maxRecDepth 20000 in
theorem gL_law_X1_sources : GoodIn wsL_law (wsV RL 34 RX1 yX1_sources wsX1_sources) := goodIn_app (goodIn_of _ (by decide +kernel)) ggL_law_X1_sources
set_option maxRecDepth 20000 in
theorem ggL_law_X0_covers : GoodIn wsL_law wsX0_covers := goodIn_r _ [108, 109, 110, 111, 2, 112, 16, 14, 15, 80, 81, 82, 34, 35, 36, 314, 315, 316, 317, 318, 319] (by decide +kernel) (by decide +kernel)
set_option maxRecDepth 20000 in
theorem gL_law_X0_covers : GoodIn wsL_law (wsV RL 35 RX0 yX0_covers wsX0_covers) := goodIn_app (goodIn_of _ (by decide +kernel)) ggL_law_X0_covers
set_option maxRecDepth 20000 in
theorem ggL_law_X1_covers : GoodIn wsL_law wsX1_covers := goodIn_r _ [116, 25, 26, 27, 320, 321, 322, 323, 324, 325] (by decide +kernel) (by decide +kernel)
set_option maxRecDepth 20000 in
theorem gL_law_X1_covers : GoodIn wsL_law (wsV RL 39 RX1 yX1_covers wsX1_covers) := goodIn_app (goodIn_of _ (by decide +kernel)) ggL_law_X1_covers
set_option maxRecDepth 20000 in
theorem ggL_law_X0_greatest : GoodIn wsL_law wsX0_greatest := goodIn_r _ [120, 16, 14, 121, 122, 123, 124, 80, 81, 2, 82, 34, 35, 36, 125, 106, 107, 108, 109, 110, 111, 112, 15, 314, 315, 316, 317, 318, 319] (by decide +kernel) (by decide +kernel)
set_option maxRecDepth 20000 in
theorem gL_law_X0_greatest : GoodIn wsL_law (wsV RL 40 RX0 yX0_greatest wsX0_greatest) := goodIn_app (goodIn_of _ (by decide +kernel)) ggL_law_X0_greatest
set_option maxRecDepth 20000 in
theorem ggL_law_X1_greatest : GoodIn wsL_law wsX1_greatest := goodIn_r _ [129, 25, 26, 130, 114, 115, 5, 116, 27, 320, 321, 322, 323, 324, 325] (by decide +kernel) (by decide +kernel)
set_option maxRecDepth 20000 in
theorem gL_law_X1_greatest : GoodIn wsL_law (wsV RL 43 RX1 yX1_greatest wsX1_greatest) := goodIn_app (goodIn_of _ (by decide +kernel)) ggL_law_X1_greatest
set_option maxRecDepth 20000 in
theorem ggL_law_X0_region : GoodIn wsL_law wsX0_region := goodIn_r _ [134, 16, 54, 135, 136, 2, 137, 138, 118, 119, 120, 14, 121, 122, 123, 124, 80, 81, 82, 34, 35, 36, 125, 106, 107, 108, 109, 110, 111, 112, 15, 139, 140, 141, 142, 143, 144, 145, 146, 147, 148, 149, 150, 33, 151, 152, 153, 314, 315, 316, 317, 318, 319] (by decide +kernel) (by decide +kernel)
set_option maxRecDepth 20000 in
theorem gL_law_X0_region : GoodIn wsL_law (wsV RL 44 RX0 yX0_region wsX0_region) := goodIn_app (goodIn_of _ (by decide +kernel)) ggL_law_X0_region
set_option maxRecDepth 20000 in
theorem ggL_law_X1_region : GoodIn wsL_law wsX1_region := goodIn_r _ [157, 72, 46, 25, 26, 27, 158, 127, 128, 5, 129, 130, 114, 115, 116, 159, 160, 161, 162, 320, 321, 322, 323, 324, 325] (by decide +kernel) (by decide +kernel)
set_option maxRecDepth 20000 in
theorem gL_law_X1_region : GoodIn wsL_law (wsV RL 48 RX1 yX1_region wsX1_region) := goodIn_app (goodIn_of _ (by decide +kernel)) ggL_law_X1_region
set_option maxRecDepth 20000 in
theorem ggL_law_X0_hull : GoodIn wsL_law wsX0_hull := goodIn_r _ [166, 54, 167, 91, 92, 2, 93, 16, 94, 95, 96, 97, 98, 99, 100, 135, 136, 137, 139, 140, 141, 142, 14, 80, 81, 82, 34, 35, 36, 125, 106, 107, 108, 109, 110, 111, 112, 15, 168, 169, 170, 171, 172, 173, 123, 174, 314, 315, 316, 317, 318, 319] (by decide +kernel) (by decide +kernel)
set_option maxRecDepth 20000 in
theorem gL_law_X0_hull : GoodIn wsL_law (wsV RL 49 RX0 yX0_hull wsX0_hull) := goodIn_app (goodIn_of _ (by decide +kernel)) ggL_law_X0_hull
set_option maxRecDepth 20000 in
theorem ggL_law_X1_hull : GoodIn wsL_law wsX1_hull := goodIn_r _ [178, 72, 179, 102, 103, 5, 104, 25, 159, 160, 161, 162, 26, 130, 114, 115, 116, 27, 180, 181, 182, 183, 320, 321, 322, 323, 324, 325] (by decide +kernel) (by decide +kernel)
set_option maxRecDepth 20000 in
theorem gL_law_X1_hull : GoodIn wsL_law (wsV RL 53 RX1 yX1_hull wsX1_hull) := goodIn_app (goodIn_of _ (by decide +kernel)) ggL_law_X1_hull
set_option maxRecDepth 20000 in
theorem ggL_law_X0_chosen : GoodIn wsL_law wsX0_chosen := goodIn_r _ [187, 16, 14, 15, 80, 81, 2, 82, 34, 35, 36, 188, 132, 133, 134, 54, 135, 136, 137, 138, 118, 119, 120, 121, 122, 123, 124, 125, 106, 107, 108, 109, 110, 111, 112, 139, 140, 141, 142, 143, 144, 145, 146, 147, 148, 149, 150, 33, 151, 152, 153, 314, 315, 316, 317, 318, 319] (by decide +kernel) (by decide +kernel)
set_option maxRecDepth 20000 in
theorem gL_law_X0_chosen : GoodIn wsL_law (wsV RL 54 RX0 yX0_chosen wsX0_chosen) := goodIn_app (goodIn_of _ (by decide +kernel)) ggL_law_X0_chosen
set_option maxRecDepth 20000 in
theorem ggL_law_X1_chosen : GoodIn wsL_law wsX1_chosen := goodIn_r _ [192, 25, 26, 27, 47, 48, 5, 49, 193, 155, 156, 157, 72, 46, 158, 127, 128, 129, 130, 114, 115, 116, 159, 160, 161, 162, 320, 321, 322, 323, 324, 325] (by decide +kernel) (by decide +kernel)
set_option maxRecDepth 20000 in
theorem gL_law_X1_chosen : GoodIn wsL_law (wsV RL 57 RX1 yX1_chosen wsX1_chosen) := goodIn_app (goodIn_of _ (by decide +kernel)) ggL_law_X1_chosen
set_option maxRecDepth 20000 in
theorem ggL_law_X0_mean : GoodIn wsL_law wsX0_mean := goodIn_r _ [197, 16, 54, 135, 136, 2, 137, 198, 199, 200, 201, 167, 91, 92, 93, 94, 95, 96, 97, 98, 99, 100, 80, 81, 82, 34, 35, 36, 202, 203, 204, 205, 206, 207, 208, 209, 14, 15, 59, 60, 61, 62, 63, 64, 65, 66, 210, 211, 212, 213, 214, 215, 123, 216, 83, 84, 85, 217, 218, 219, 220, 314, 315, 316, 317, 318, 319] (by decide +kernel) (by decide +kernel)
set_option maxRecDepth 20000 in
theorem gL_law_X0_mean : GoodIn wsL_law (wsV RL 58 RX0 yX0_mean wsX0_mean) := goodIn_app (goodIn_of _ (by decide +kernel)) ggL_law_X0_mean
set_option maxRecDepth 20000 in
theorem ggL_law_X1_mean : GoodIn wsL_law wsX1_mean := goodIn_r _ [224, 72, 25, 179, 102, 103, 5, 104, 225, 226, 227, 228, 229, 230, 231, 232, 26, 27, 73, 74, 75, 233, 234, 235, 236, 237, 238, 320, 321, 322, 323, 324, 325] (by decide +kernel) (by decide +kernel)
set_option maxRecDepth 20000 in
theorem gL_law_X1_mean : GoodIn wsL_law (wsV RL 62 RX1 yX1_mean wsX1_mean) := goodIn_app (goodIn_of _ (by decide +kernel)) ggL_law_X1_mean
set_option maxRecDepth 20000 in
theorem ggL_law_X0_survivors : GoodIn wsL_law wsX0_survivors := goodIn_r _ [242, 243, 244, 2, 245, 246, 247, 248, 249, 16, 94, 95, 96, 97, 98, 99, 100, 250, 251, 252, 253, 214, 215, 123, 216, 217, 218, 219, 220, 54, 80, 81, 82, 34, 35, 36, 206, 207, 208, 209, 14, 15, 59, 60, 61, 62, 63, 64, 65, 66, 83, 84, 85, 314, 315, 316, 317, 318, 319] (by decide +kernel) (by decide +kernel)
set_option maxRecDepth 20000 in
theorem gL_law_X0_survivors : GoodIn wsL_law (wsV RL 63 RX0 yX0_survivors wsX0_survivors) := goodIn_app (goodIn_of _ (by decide +kernel)) ggL_law_X0_survivors
set_option maxRecDepth 20000 in
theorem ggL_law_X1_survivors : GoodIn wsL_law wsX1_survivors := goodIn_r _ [257, 25, 229, 230, 231, 5, 232, 26, 27, 73, 74, 75, 236, 237, 238, 233, 234, 235, 320, 321, 322, 323, 324, 325] (by decide +kernel) (by decide +kernel)
set_option maxRecDepth 20000 in
theorem gL_law_X1_survivors : GoodIn wsL_law (wsV RL 67 RX1 yX1_survivors wsX1_survivors) := goodIn_app (goodIn_of _ (by decide +kernel)) ggL_law_X1_survivors
set_option maxRecDepth 20000 in
theorem ggL_law_X0_rank : GoodIn wsL_law wsX0_rank := goodIn_r _ [261, 243, 244, 2, 245, 246, 247, 248, 249, 16, 94, 95, 96, 97, 98, 99, 100, 250, 251, 252, 253, 214, 215, 123, 216, 217, 218, 219, 220, 54, 80, 81, 82, 34, 35, 36, 206, 207, 208, 209, 14, 15, 59, 60, 61, 62, 63, 64, 65, 66, 83, 84, 85, 202, 203, 204, 205, 314, 315, 316, 317, 318, 319] (by decide +kernel) (by decide +kernel)
set_option maxRecDepth 20000 in
theorem gL_law_X0_rank : GoodIn wsL_law (wsV RL 68 RX0 yX0_rank wsX0_rank) := goodIn_app (goodIn_of _ (by decide +kernel)) ggL_law_X0_rank
set_option maxRecDepth 20000 in
theorem ggL_law_X1_rank : GoodIn wsL_law wsX1_rank := goodIn_r _ [265, 266, 255, 256, 5, 257, 25, 229, 230, 231, 232, 26, 27, 73, 74, 75, 236, 237, 238, 233, 234, 235, 47, 48, 49, 320, 321, 322, 323, 324, 325] (by decide +kernel) (by decide +kernel)
set_option maxRecDepth 20000 in
theorem gL_law_X1_rank : GoodIn wsL_law (wsV RL 72 RX1 yX1_rank wsX1_rank) := goodIn_app (goodIn_of _ (by decide +kernel)) ggL_law_X1_rank
set_option maxRecDepth 20000 in
theorem ggL_law_X0_tick : GoodIn wsL_law wsX0_tick := goodIn_r _ [270, 17, 58, 271, 18, 19, 151, 152, 123, 153, 172, 173, 174, 314, 315, 316, 317, 318, 319] (by decide +kernel) (by decide +kernel)
set_option maxRecDepth 20000 in
theorem gL_law_X0_tick : GoodIn wsL_law (wsV RL 73 RX0 yX0_tick wsX0_tick) := goodIn_app (goodIn_of _ (by decide +kernel)) ggL_law_X0_tick
set_option maxRecDepth 20000 in
theorem ggL_law_X1_tick : GoodIn wsL_law wsX1_tick := goodIn_r _ [275, 276, 71, 277, 278, 279, 320, 321, 322, 323, 324, 325] (by decide +kernel) (by decide +kernel)
set_option maxRecDepth 20000 in
theorem gL_law_X1_tick : GoodIn wsL_law (wsV RL 77 RX1 yX1_tick wsX1_tick) := goodIn_app (goodIn_of _ (by decide +kernel)) ggL_law_X1_tick
set_option maxRecDepth 20000 in
theorem ggL_law_X0_steer : GoodIn wsL_law wsX0_steer := goodIn_r _ [283, 19, 138, 118, 119, 2, 120, 16, 14, 121, 122, 123, 124, 80, 81, 82, 34, 35, 36, 125, 106, 107, 108, 109, 110, 111, 112, 15, 167, 91, 92, 93, 94, 95, 96, 97, 98, 99, 100, 188, 132, 133, 134, 54, 135, 136, 137, 139, 140, 141, 142, 143, 144, 145, 146, 147, 148, 149, 150, 33, 151, 152, 153, 59, 60, 61, 62, 63, 64, 65, 66, 314, 315, 316, 317, 318, 319] (by decide +kernel) (by decide +kernel)
set_option maxRecDepth 20000 in
theorem gL_law_X0_steer : GoodIn wsL_law (wsV RL 78 RX0 yX0_steer wsX0_steer) := goodIn_app (goodIn_of _ (by decide +kernel)) ggL_law_X0_steer
set_option maxRecDepth 20000 in
theorem ggL_law_X1_steer : GoodIn wsL_law wsX1_steer := goodIn_r _ [287, 278, 158, 127, 128, 5, 129, 25, 26, 130, 114, 115, 116, 27, 179, 102, 103, 104, 193, 155, 156, 157, 72, 46, 159, 160, 161, 162, 73, 74, 75, 320, 321, 322, 323, 324, 325] (by decide +kernel) (by decide +kernel)
set_option maxRecDepth 20000 in
theorem gL_law_X1_steer : GoodIn wsL_law (wsV RL 82 RX1 yX1_steer wsX1_steer) := goodIn_app (goodIn_of _ (by decide +kernel)) ggL_law_X1_steer
set_option maxRecDepth 20000 in
theorem ggL_law_X0_read : GoodIn wsL_law wsX0_read := goodIn_r _ [291, 17, 18, 314, 315, 316, 317, 318, 319] (by decide +kernel) (by decide +kernel)
set_option maxRecDepth 20000 in
theorem gL_law_X0_read : GoodIn wsL_law (wsV RL 83 RX0 yX0_read wsX0_read) := goodIn_app (goodIn_of _ (by decide +kernel)) ggL_law_X0_read
set_option maxRecDepth 20000 in
theorem ggL_law_X1_read : GoodIn wsL_law wsX1_read := goodIn_r _ [295, 276, 279, 320, 321, 322, 323, 324, 325] (by decide +kernel) (by decide +kernel)
set_option maxRecDepth 20000 in
theorem gL_law_X1_read : GoodIn wsL_law (wsV RL 87 RX1 yX1_read wsX1_read) := goodIn_app (goodIn_of _ (by decide +kernel)) ggL_law_X1_read
set_option maxRecDepth 20000 in
theorem ggL_law_X0_offset : GoodIn wsL_law wsX0_offset := goodIn_r _ [299, 54, 18, 19, 135, 136, 2, 137, 314, 315, 316, 317, 318, 319] (by decide +kernel) (by decide +kernel)
set_option maxRecDepth 20000 in
theorem gL_law_X0_offset : GoodIn wsL_law (wsV RL 88 RX0 yX0_offset wsX0_offset) := goodIn_app (goodIn_of _ (by decide +kernel)) ggL_law_X0_offset
set_option maxRecDepth 20000 in
theorem ggL_law_X1_offset : GoodIn wsL_law wsX1_offset := goodIn_r _ [303, 279, 278, 72, 320, 321, 322, 323, 324, 325] (by decide +kernel) (by decide +kernel)
set_option maxRecDepth 20000 in
theorem gL_law_X1_offset : GoodIn wsL_law (wsV RL 91 RX1 yX1_offset wsX1_offset) := goodIn_app (goodIn_of _ (by decide +kernel)) ggL_law_X1_offset
set_option maxRecDepth 20000 in
theorem ggL_law_X0_settles : GoodIn wsL_law wsX0_settles := goodIn_r _ [307, 19, 18, 214, 215, 123, 216, 308, 54, 271, 314, 315, 316, 317, 318, 319] (by decide +kernel) (by decide +kernel)
set_option maxRecDepth 20000 in
theorem gL_law_X0_settles : GoodIn wsL_law (wsV RL 92 RX0 yX0_settles wsX0_settles) := goodIn_app (goodIn_of _ (by decide +kernel)) ggL_law_X0_settles
set_option maxRecDepth 20000 in
theorem ggL_law_X1_settles : GoodIn wsL_law wsX1_settles := goodIn_r _ [312, 278, 279, 313, 72, 277, 233, 234, 5, 235, 320, 321, 322, 323, 324, 325] (by decide +kernel) (by decide +kernel)
set_option maxRecDepth 20000 in
theorem gL_law_X1_settles : GoodIn wsL_law (wsV RL 95 RX1 yX1_settles wsX1_settles) := goodIn_app (goodIn_of _ (by decide +kernel)) ggL_law_X1_settles
abbrev vwCl : List vw_C := [(RX0, TX0, 6), (RX1, TX1, 6)]
end
section
theorem dX0_init_0 : decode cX0_init 0 = .ok (.aload_n 0, 1) := by decide +kernel
theorem dX0_init_1 : decode cX0_init 1 = .ok (.invokespecial 1, 3) := by decide +kernel
theorem dX0_init_4 : decode cX0_init 4 = .ok (.aload_n 0, 1) := by decide +kernel
theorem dX0_init_5 : decode cX0_init 5 = .ok (.bipush 24, 2) := by decide +kernel
theorem dX0_init_7 : decode cX0_init 7 = .ok (.newarray .long, 2) := by decide +kernel
theorem dX0_init_9 : decode cX0_init 9 = .ok (.putfield 9, 3) := by decide +kernel
theorem dX0_init_12 : decode cX0_init 12 = .ok (.aload_n 0, 1) := by decide +kernel
theorem dX0_init_13 : decode cX0_init 13 = .ok (.bipush 24, 2) := by decide +kernel
theorem dX0_init_15 : decode cX0_init 15 = .ok (.newarray .long, 2) := by decide +kernel
theorem dX0_init_17 : decode cX0_init 17 = .ok (.putfield 13, 3) := by decide +kernel
theorem dX0_init_20 : decode cX0_init 20 = .ok (.aload_n 0, 1) := by decide +kernel
theorem dX0_init_21 : decode cX0_init 21 = .ok (.iconst 0, 1) := by decide +kernel
theorem dX0_init_22 : decode cX0_init 22 = .ok (.putfield 16, 3) := by decide +kernel
theorem dX0_init_25 : decode cX0_init 25 = .ok (.aload_n 0, 1) := by decide +kernel
theorem dX0_init_26 : decode cX0_init 26 = .ok (.lconst 0, 1) := by decide +kernel
theorem dX0_init_27 : decode cX0_init 27 = .ok (.putfield 20, 3) := by decide +kernel
theorem dX0_init_30 : decode cX0_init 30 = .ok (.aload_n 0, 1) := by decide +kernel
theorem dX0_init_31 : decode cX0_init 31 = .ok (.lconst 0, 1) := by decide +kernel
theorem dX0_init_32 : decode cX0_init 32 = .ok (.putfield 24, 3) := by decide +kernel
theorem dX0_init_35 : decode cX0_init 35 = .ok (.aload_n 0, 1) := by decide +kernel
theorem dX0_init_36 : decode cX0_init 36 = .ok (.lconst 0, 1) := by decide +kernel
theorem dX0_init_37 : decode cX0_init 37 = .ok (.putfield 27, 3) := by decide +kernel
theorem dX0_init_40 : decode cX0_init 40 = .ok (.return_, 1) := by decide +kernel
theorem dX0_interval_0 : decode cX0_interval 0 = .ok (.iload_n 1, 1) := by decide +kernel
theorem dX0_interval_1 : decode cX0_interval 1 = .ok (.invokestatic 30, 3) := by decide +kernel
theorem dX0_interval_4 : decode cX0_interval 4 = .ok (.ifCond .eq 27, 3) := by decide +kernel
theorem dX0_interval_7 : decode cX0_interval 7 = .ok (.lload_n 2, 1) := by decide +kernel
theorem dX0_interval_8 : decode cX0_interval 8 = .ok (.ldc2_w 34, 3) := by decide +kernel
theorem dX0_interval_11 : decode cX0_interval 11 = .ok (.lcmp, 1) := by decide +kernel
theorem dX0_interval_12 : decode cX0_interval 12 = .ok (.ifCond .lt 19, 3) := by decide +kernel
theorem dX0_interval_15 : decode cX0_interval 15 = .ok (.lload_n 2, 1) := by decide +kernel
theorem dX0_interval_16 : decode cX0_interval 16 = .ok (.lload 4, 2) := by decide +kernel
theorem dX0_interval_18 : decode cX0_interval 18 = .ok (.lcmp, 1) := by decide +kernel
theorem dX0_interval_19 : decode cX0_interval 19 = .ok (.ifCond .gt 12, 3) := by decide +kernel
theorem dX0_interval_22 : decode cX0_interval 22 = .ok (.lload 4, 2) := by decide +kernel
theorem dX0_interval_24 : decode cX0_interval 24 = .ok (.ldc2_w 36, 3) := by decide +kernel
theorem dX0_interval_27 : decode cX0_interval 27 = .ok (.lcmp, 1) := by decide +kernel
theorem dX0_interval_28 : decode cX0_interval 28 = .ok (.ifCond .le 5, 3) := by decide +kernel
theorem dX0_interval_31 : decode cX0_interval 31 = .ok (.iconst 0, 1) := by decide +kernel
theorem dX0_interval_32 : decode cX0_interval 32 = .ok (.ireturn, 1) := by decide +kernel
theorem dX0_interval_33 : decode cX0_interval 33 = .ok (.aload_n 0, 1) := by decide +kernel
theorem dX0_interval_34 : decode cX0_interval 34 = .ok (.iload_n 1, 1) := by decide +kernel
theorem dX0_interval_35 : decode cX0_interval 35 = .ok (.lload_n 2, 1) := by decide +kernel
theorem dX0_interval_36 : decode cX0_interval 36 = .ok (.lload 4, 2) := by decide +kernel
theorem dX0_interval_38 : decode cX0_interval 38 = .ok (.invokevirtual 38, 3) := by decide +kernel
theorem dX0_interval_41 : decode cX0_interval 41 = .ok (.iconst 1, 1) := by decide +kernel
theorem dX0_interval_42 : decode cX0_interval 42 = .ok (.ireturn, 1) := by decide +kernel
theorem dX0_exchange_0 : decode cX0_exchange 0 = .ok (.iload_n 1, 1) := by decide +kernel
theorem dX0_exchange_1 : decode cX0_exchange 1 = .ok (.invokestatic 30, 3) := by decide +kernel
theorem dX0_exchange_4 : decode cX0_exchange 4 = .ok (.ifCond .eq 33, 3) := by decide +kernel
theorem dX0_exchange_7 : decode cX0_exchange 7 = .ok (.lload_n 2, 1) := by decide +kernel
theorem dX0_exchange_8 : decode cX0_exchange 8 = .ok (.invokestatic 42, 3) := by decide +kernel
theorem dX0_exchange_11 : decode cX0_exchange 11 = .ok (.ifCond .eq 26, 3) := by decide +kernel
theorem dX0_exchange_14 : decode cX0_exchange 14 = .ok (.lload 4, 2) := by decide +kernel
theorem dX0_exchange_16 : decode cX0_exchange 16 = .ok (.invokestatic 42, 3) := by decide +kernel
theorem dX0_exchange_19 : decode cX0_exchange 19 = .ok (.ifCond .eq 18, 3) := by decide +kernel
theorem dX0_exchange_22 : decode cX0_exchange 22 = .ok (.lload 6, 2) := by decide +kernel
theorem dX0_exchange_24 : decode cX0_exchange 24 = .ok (.invokestatic 42, 3) := by decide +kernel
theorem dX0_exchange_27 : decode cX0_exchange 27 = .ok (.ifCond .eq 10, 3) := by decide +kernel
theorem dX0_exchange_30 : decode cX0_exchange 30 = .ok (.lload_n 2, 1) := by decide +kernel
theorem dX0_exchange_31 : decode cX0_exchange 31 = .ok (.lload 6, 2) := by decide +kernel
theorem dX0_exchange_33 : decode cX0_exchange 33 = .ok (.lcmp, 1) := by decide +kernel
theorem dX0_exchange_34 : decode cX0_exchange 34 = .ok (.ifCond .le 7, 3) := by decide +kernel
theorem dX0_exchange_37 : decode cX0_exchange 37 = .ok (.ldc2_w 46, 3) := by decide +kernel
theorem dX0_exchange_40 : decode cX0_exchange 40 = .ok (.lreturn, 1) := by decide +kernel
theorem dX0_exchange_41 : decode cX0_exchange 41 = .ok (.aload_n 0, 1) := by decide +kernel
theorem dX0_exchange_42 : decode cX0_exchange 42 = .ok (.iload_n 1, 1) := by decide +kernel
theorem dX0_exchange_43 : decode cX0_exchange 43 = .ok (.lload 4, 2) := by decide +kernel
theorem dX0_exchange_45 : decode cX0_exchange 45 = .ok (.lload 6, 2) := by decide +kernel
theorem dX0_exchange_47 : decode cX0_exchange 47 = .ok (.lsub, 1) := by decide +kernel
theorem dX0_exchange_48 : decode cX0_exchange 48 = .ok (.lload 4, 2) := by decide +kernel
theorem dX0_exchange_50 : decode cX0_exchange 50 = .ok (.lload_n 2, 1) := by decide +kernel
theorem dX0_exchange_51 : decode cX0_exchange 51 = .ok (.lsub, 1) := by decide +kernel
theorem dX0_exchange_52 : decode cX0_exchange 52 = .ok (.invokevirtual 38, 3) := by decide +kernel
theorem dX0_exchange_55 : decode cX0_exchange 55 = .ok (.lload 4, 2) := by decide +kernel
theorem dX0_exchange_57 : decode cX0_exchange 57 = .ok (.lload 6, 2) := by decide +kernel
theorem dX0_exchange_59 : decode cX0_exchange 59 = .ok (.lload_n 2, 1) := by decide +kernel
theorem dX0_exchange_60 : decode cX0_exchange 60 = .ok (.lsub, 1) := by decide +kernel
theorem dX0_exchange_61 : decode cX0_exchange 61 = .ok (.invokestatic 48, 3) := by decide +kernel
theorem dX0_exchange_64 : decode cX0_exchange 64 = .ok (.ladd, 1) := by decide +kernel
theorem dX0_exchange_65 : decode cX0_exchange 65 = .ok (.lload 6, 2) := by decide +kernel
theorem dX0_exchange_67 : decode cX0_exchange 67 = .ok (.lsub, 1) := by decide +kernel
theorem dX0_exchange_68 : decode cX0_exchange 68 = .ok (.lreturn, 1) := by decide +kernel
theorem dX0_drop_0 : decode cX0_drop 0 = .ok (.aload_n 0, 1) := by decide +kernel
theorem dX0_drop_1 : decode cX0_drop 1 = .ok (.getfield 16, 3) := by decide +kernel
theorem dX0_drop_4 : decode cX0_drop 4 = .ok (.iload_n 1, 1) := by decide +kernel
theorem dX0_drop_5 : decode cX0_drop 5 = .ok (.invokestatic 52, 3) := by decide +kernel
theorem dX0_drop_8 : decode cX0_drop 8 = .ok (.ifCond .ne 5, 3) := by decide +kernel
theorem dX0_drop_11 : decode cX0_drop 11 = .ok (.iconst 0, 1) := by decide +kernel
theorem dX0_drop_12 : decode cX0_drop 12 = .ok (.ireturn, 1) := by decide +kernel
theorem dX0_drop_13 : decode cX0_drop 13 = .ok (.aload_n 0, 1) := by decide +kernel
theorem dX0_drop_14 : decode cX0_drop 14 = .ok (.aload_n 0, 1) := by decide +kernel
theorem dX0_drop_15 : decode cX0_drop 15 = .ok (.getfield 16, 3) := by decide +kernel
theorem dX0_drop_18 : decode cX0_drop 18 = .ok (.iload_n 1, 1) := by decide +kernel
theorem dX0_drop_19 : decode cX0_drop 19 = .ok (.invokestatic 56, 3) := by decide +kernel
theorem dX0_drop_22 : decode cX0_drop 22 = .ok (.putfield 16, 3) := by decide +kernel
theorem dX0_drop_25 : decode cX0_drop 25 = .ok (.iconst 1, 1) := by decide +kernel
theorem dX0_drop_26 : decode cX0_drop 26 = .ok (.ireturn, 1) := by decide +kernel
theorem dX0_sources_0 : decode cX0_sources 0 = .ok (.aload_n 0, 1) := by decide +kernel
theorem dX0_sources_1 : decode cX0_sources 1 = .ok (.getfield 16, 3) := by decide +kernel
theorem dX0_sources_4 : decode cX0_sources 4 = .ok (.invokestatic 60, 3) := by decide +kernel
theorem dX0_sources_7 : decode cX0_sources 7 = .ok (.ireturn, 1) := by decide +kernel
theorem dX0_covers_0 : decode cX0_covers 0 = .ok (.iconst 0, 1) := by decide +kernel
theorem dX0_covers_1 : decode cX0_covers 1 = .ok (.istore_n 3, 1) := by decide +kernel
theorem dX0_covers_2 : decode cX0_covers 2 = .ok (.iconst 0, 1) := by decide +kernel
theorem dX0_covers_3 : decode cX0_covers 3 = .ok (.istore 4, 2) := by decide +kernel
theorem dX0_covers_5 : decode cX0_covers 5 = .ok (.iload 4, 2) := by decide +kernel
theorem dX0_covers_7 : decode cX0_covers 7 = .ok (.bipush 24, 2) := by decide +kernel
theorem dX0_covers_9 : decode cX0_covers 9 = .ok (.if_icmp .ge 22, 3) := by decide +kernel
theorem dX0_covers_12 : decode cX0_covers 12 = .ok (.aload_n 0, 1) := by decide +kernel
theorem dX0_covers_13 : decode cX0_covers 13 = .ok (.iload 4, 2) := by decide +kernel
theorem dX0_covers_15 : decode cX0_covers 15 = .ok (.lload_n 1, 1) := by decide +kernel
theorem dX0_covers_16 : decode cX0_covers 16 = .ok (.invokevirtual 66, 3) := by decide +kernel
theorem dX0_covers_19 : decode cX0_covers 19 = .ok (.ifCond .eq 6, 3) := by decide +kernel
theorem dX0_covers_22 : decode cX0_covers 22 = .ok (.iinc 3 1, 3) := by decide +kernel
theorem dX0_covers_25 : decode cX0_covers 25 = .ok (.iinc 4 1, 3) := by decide +kernel
theorem dX0_covers_28 : decode cX0_covers 28 = .ok (.goto (-23), 3) := by decide +kernel
theorem dX0_covers_31 : decode cX0_covers 31 = .ok (.iload_n 3, 1) := by decide +kernel
theorem dX0_covers_32 : decode cX0_covers 32 = .ok (.ireturn, 1) := by decide +kernel
theorem dX0_greatest_0 : decode cX0_greatest 0 = .ok (.iconst 0, 1) := by decide +kernel
theorem dX0_greatest_1 : decode cX0_greatest 1 = .ok (.istore_n 1, 1) := by decide +kernel
theorem dX0_greatest_2 : decode cX0_greatest 2 = .ok (.iconst 0, 1) := by decide +kernel
theorem dX0_greatest_3 : decode cX0_greatest 3 = .ok (.istore_n 2, 1) := by decide +kernel
theorem dX0_greatest_4 : decode cX0_greatest 4 = .ok (.iload_n 2, 1) := by decide +kernel
theorem dX0_greatest_5 : decode cX0_greatest 5 = .ok (.bipush 24, 2) := by decide +kernel
theorem dX0_greatest_7 : decode cX0_greatest 7 = .ok (.if_icmp .ge 35, 3) := by decide +kernel
theorem dX0_greatest_10 : decode cX0_greatest 10 = .ok (.aload_n 0, 1) := by decide +kernel
theorem dX0_greatest_11 : decode cX0_greatest 11 = .ok (.getfield 16, 3) := by decide +kernel
theorem dX0_greatest_14 : decode cX0_greatest 14 = .ok (.iload_n 2, 1) := by decide +kernel
theorem dX0_greatest_15 : decode cX0_greatest 15 = .ok (.invokestatic 52, 3) := by decide +kernel
theorem dX0_greatest_18 : decode cX0_greatest 18 = .ok (.ifCond .eq 18, 3) := by decide +kernel
theorem dX0_greatest_21 : decode cX0_greatest 21 = .ok (.iload_n 1, 1) := by decide +kernel
theorem dX0_greatest_22 : decode cX0_greatest 22 = .ok (.aload_n 0, 1) := by decide +kernel
theorem dX0_greatest_23 : decode cX0_greatest 23 = .ok (.aload_n 0, 1) := by decide +kernel
theorem dX0_greatest_24 : decode cX0_greatest 24 = .ok (.getfield 9, 3) := by decide +kernel
theorem dX0_greatest_27 : decode cX0_greatest 27 = .ok (.iload_n 2, 1) := by decide +kernel
theorem dX0_greatest_28 : decode cX0_greatest 28 = .ok (.laload, 1) := by decide +kernel
theorem dX0_greatest_29 : decode cX0_greatest 29 = .ok (.invokevirtual 70, 3) := by decide +kernel
theorem dX0_greatest_32 : decode cX0_greatest 32 = .ok (.invokestatic 74, 3) := by decide +kernel
theorem dX0_greatest_35 : decode cX0_greatest 35 = .ok (.istore_n 1, 1) := by decide +kernel
theorem dX0_greatest_36 : decode cX0_greatest 36 = .ok (.iinc 2 1, 3) := by decide +kernel
theorem dX0_greatest_39 : decode cX0_greatest 39 = .ok (.goto (-35), 3) := by decide +kernel
theorem dX0_greatest_42 : decode cX0_greatest 42 = .ok (.iload_n 1, 1) := by decide +kernel
theorem dX0_greatest_43 : decode cX0_greatest 43 = .ok (.ireturn, 1) := by decide +kernel
theorem dX0_region_0 : decode cX0_region 0 = .ok (.aload_n 0, 1) := by decide +kernel
theorem dX0_region_1 : decode cX0_region 1 = .ok (.getfield 16, 3) := by decide +kernel
theorem dX0_region_4 : decode cX0_region 4 = .ok (.ifCond .eq 10, 3) := by decide +kernel
theorem dX0_region_7 : decode cX0_region 7 = .ok (.iload_n 1, 1) := by decide +kernel
theorem dX0_region_8 : decode cX0_region 8 = .ok (.invokestatic 79, 3) := by decide +kernel
theorem dX0_region_11 : decode cX0_region 11 = .ok (.ifCond .ne 7, 3) := by decide +kernel
theorem dX0_region_14 : decode cX0_region 14 = .ok (.ldc2_w 46, 3) := by decide +kernel
theorem dX0_region_17 : decode cX0_region 17 = .ok (.lreturn, 1) := by decide +kernel
theorem dX0_region_18 : decode cX0_region 18 = .ok (.aload_n 0, 1) := by decide +kernel
theorem dX0_region_19 : decode cX0_region 19 = .ok (.invokevirtual 82, 3) := by decide +kernel
theorem dX0_region_22 : decode cX0_region 22 = .ok (.istore_n 2, 1) := by decide +kernel
theorem dX0_region_23 : decode cX0_region 23 = .ok (.aload_n 0, 1) := by decide +kernel
theorem dX0_region_24 : decode cX0_region 24 = .ok (.iload_n 2, 1) := by decide +kernel
theorem dX0_region_25 : decode cX0_region 25 = .ok (.invokevirtual 86, 3) := by decide +kernel
theorem dX0_region_28 : decode cX0_region 28 = .ok (.lstore_n 3, 1) := by decide +kernel
theorem dX0_region_29 : decode cX0_region 29 = .ok (.iload_n 1, 1) := by decide +kernel
theorem dX0_region_30 : decode cX0_region 30 = .ok (.ifCond .ne 7, 3) := by decide +kernel
theorem dX0_region_33 : decode cX0_region 33 = .ok (.lload_n 3, 1) := by decide +kernel
theorem dX0_region_34 : decode cX0_region 34 = .ok (.goto 9, 3) := by decide +kernel
theorem dX0_region_37 : decode cX0_region 37 = .ok (.aload_n 0, 1) := by decide +kernel
theorem dX0_region_38 : decode cX0_region 38 = .ok (.lload_n 3, 1) := by decide +kernel
theorem dX0_region_39 : decode cX0_region 39 = .ok (.iload_n 2, 1) := by decide +kernel
theorem dX0_region_40 : decode cX0_region 40 = .ok (.invokevirtual 90, 3) := by decide +kernel
theorem dX0_region_43 : decode cX0_region 43 = .ok (.lreturn, 1) := by decide +kernel
theorem dX0_hull_0 : decode cX0_hull 0 = .ok (.iload_n 1, 1) := by decide +kernel
theorem dX0_hull_1 : decode cX0_hull 1 = .ok (.ifCond .lt 18, 3) := by decide +kernel
theorem dX0_hull_4 : decode cX0_hull 4 = .ok (.iload_n 1, 1) := by decide +kernel
theorem dX0_hull_5 : decode cX0_hull 5 = .ok (.aload_n 0, 1) := by decide +kernel
theorem dX0_hull_6 : decode cX0_hull 6 = .ok (.invokevirtual 94, 3) := by decide +kernel
theorem dX0_hull_9 : decode cX0_hull 9 = .ok (.if_icmp .ge 10, 3) := by decide +kernel
theorem dX0_hull_12 : decode cX0_hull 12 = .ok (.iload_n 2, 1) := by decide +kernel
theorem dX0_hull_13 : decode cX0_hull 13 = .ok (.invokestatic 79, 3) := by decide +kernel
theorem dX0_hull_16 : decode cX0_hull 16 = .ok (.ifCond .ne 7, 3) := by decide +kernel
theorem dX0_hull_19 : decode cX0_hull 19 = .ok (.ldc2_w 46, 3) := by decide +kernel
theorem dX0_hull_22 : decode cX0_hull 22 = .ok (.lreturn, 1) := by decide +kernel
theorem dX0_hull_23 : decode cX0_hull 23 = .ok (.aload_n 0, 1) := by decide +kernel
theorem dX0_hull_24 : decode cX0_hull 24 = .ok (.invokevirtual 94, 3) := by decide +kernel
theorem dX0_hull_27 : decode cX0_hull 27 = .ok (.iload_n 1, 1) := by decide +kernel
theorem dX0_hull_28 : decode cX0_hull 28 = .ok (.isub, 1) := by decide +kernel
theorem dX0_hull_29 : decode cX0_hull 29 = .ok (.istore_n 3, 1) := by decide +kernel
theorem dX0_hull_30 : decode cX0_hull 30 = .ok (.iload_n 2, 1) := by decide +kernel
theorem dX0_hull_31 : decode cX0_hull 31 = .ok (.ifCond .ne 11, 3) := by decide +kernel
theorem dX0_hull_34 : decode cX0_hull 34 = .ok (.aload_n 0, 1) := by decide +kernel
theorem dX0_hull_35 : decode cX0_hull 35 = .ok (.iload_n 3, 1) := by decide +kernel
theorem dX0_hull_36 : decode cX0_hull 36 = .ok (.invokevirtual 86, 3) := by decide +kernel
theorem dX0_hull_39 : decode cX0_hull 39 = .ok (.goto 8, 3) := by decide +kernel
theorem dX0_hull_42 : decode cX0_hull 42 = .ok (.aload_n 0, 1) := by decide +kernel
theorem dX0_hull_43 : decode cX0_hull 43 = .ok (.iload_n 3, 1) := by decide +kernel
theorem dX0_hull_44 : decode cX0_hull 44 = .ok (.invokevirtual 97, 3) := by decide +kernel
theorem dX0_hull_47 : decode cX0_hull 47 = .ok (.lreturn, 1) := by decide +kernel
theorem dX0_chosen_0 : decode cX0_chosen 0 = .ok (.aload_n 0, 1) := by decide +kernel
theorem dX0_chosen_1 : decode cX0_chosen 1 = .ok (.getfield 16, 3) := by decide +kernel
theorem dX0_chosen_4 : decode cX0_chosen 4 = .ok (.iload_n 1, 1) := by decide +kernel
theorem dX0_chosen_5 : decode cX0_chosen 5 = .ok (.invokestatic 52, 3) := by decide +kernel
theorem dX0_chosen_8 : decode cX0_chosen 8 = .ok (.ifCond .eq 37, 3) := by decide +kernel
theorem dX0_chosen_11 : decode cX0_chosen 11 = .ok (.aload_n 0, 1) := by decide +kernel
theorem dX0_chosen_12 : decode cX0_chosen 12 = .ok (.getfield 9, 3) := by decide +kernel
theorem dX0_chosen_15 : decode cX0_chosen 15 = .ok (.iload_n 1, 1) := by decide +kernel
theorem dX0_chosen_16 : decode cX0_chosen 16 = .ok (.laload, 1) := by decide +kernel
theorem dX0_chosen_17 : decode cX0_chosen 17 = .ok (.aload_n 0, 1) := by decide +kernel
theorem dX0_chosen_18 : decode cX0_chosen 18 = .ok (.iconst 0, 1) := by decide +kernel
theorem dX0_chosen_19 : decode cX0_chosen 19 = .ok (.invokevirtual 100, 3) := by decide +kernel
theorem dX0_chosen_22 : decode cX0_chosen 22 = .ok (.lcmp, 1) := by decide +kernel
theorem dX0_chosen_23 : decode cX0_chosen 23 = .ok (.ifCond .gt 22, 3) := by decide +kernel
theorem dX0_chosen_26 : decode cX0_chosen 26 = .ok (.aload_n 0, 1) := by decide +kernel
theorem dX0_chosen_27 : decode cX0_chosen 27 = .ok (.iconst 1, 1) := by decide +kernel
theorem dX0_chosen_28 : decode cX0_chosen 28 = .ok (.invokevirtual 100, 3) := by decide +kernel
theorem dX0_chosen_31 : decode cX0_chosen 31 = .ok (.aload_n 0, 1) := by decide +kernel
theorem dX0_chosen_32 : decode cX0_chosen 32 = .ok (.getfield 13, 3) := by decide +kernel
theorem dX0_chosen_35 : decode cX0_chosen 35 = .ok (.iload_n 1, 1) := by decide +kernel
theorem dX0_chosen_36 : decode cX0_chosen 36 = .ok (.laload, 1) := by decide +kernel
theorem dX0_chosen_37 : decode cX0_chosen 37 = .ok (.lcmp, 1) := by decide +kernel
theorem dX0_chosen_38 : decode cX0_chosen 38 = .ok (.ifCond .gt 7, 3) := by decide +kernel
theorem dX0_chosen_41 : decode cX0_chosen 41 = .ok (.iconst 1, 1) := by decide +kernel
theorem dX0_chosen_42 : decode cX0_chosen 42 = .ok (.goto 4, 3) := by decide +kernel
theorem dX0_chosen_45 : decode cX0_chosen 45 = .ok (.iconst 0, 1) := by decide +kernel
theorem dX0_chosen_46 : decode cX0_chosen 46 = .ok (.ireturn, 1) := by decide +kernel
theorem dX0_mean_0 : decode cX0_mean 0 = .ok (.aload_n 0, 1) := by decide +kernel
theorem dX0_mean_1 : decode cX0_mean 1 = .ok (.getfield 16, 3) := by decide +kernel
theorem dX0_mean_4 : decode cX0_mean 4 = .ok (.ifCond .eq 16, 3) := by decide +kernel
theorem dX0_mean_7 : decode cX0_mean 7 = .ok (.lload_n 1, 1) := by decide +kernel
theorem dX0_mean_8 : decode cX0_mean 8 = .ok (.lconst 0, 1) := by decide +kernel
theorem dX0_mean_9 : decode cX0_mean 9 = .ok (.lcmp, 1) := by decide +kernel
theorem dX0_mean_10 : decode cX0_mean 10 = .ok (.ifCond .lt 10, 3) := by decide +kernel
theorem dX0_mean_13 : decode cX0_mean 13 = .ok (.iload_n 3, 1) := by decide +kernel
theorem dX0_mean_14 : decode cX0_mean 14 = .ok (.invokestatic 79, 3) := by decide +kernel
theorem dX0_mean_17 : decode cX0_mean 17 = .ok (.ifCond .ne 7, 3) := by decide +kernel
theorem dX0_mean_20 : decode cX0_mean 20 = .ok (.ldc2_w 46, 3) := by decide +kernel
theorem dX0_mean_23 : decode cX0_mean 23 = .ok (.lreturn, 1) := by decide +kernel
theorem dX0_mean_24 : decode cX0_mean 24 = .ok (.aload_n 0, 1) := by decide +kernel
theorem dX0_mean_25 : decode cX0_mean 25 = .ok (.aload_n 0, 1) := by decide +kernel
theorem dX0_mean_26 : decode cX0_mean 26 = .ok (.invokevirtual 103, 3) := by decide +kernel
theorem dX0_mean_29 : decode cX0_mean 29 = .ok (.lload_n 1, 1) := by decide +kernel
theorem dX0_mean_30 : decode cX0_mean 30 = .ok (.invokevirtual 107, 3) := by decide +kernel
theorem dX0_mean_33 : decode cX0_mean 33 = .ok (.istore 4, 2) := by decide +kernel
theorem dX0_mean_35 : decode cX0_mean 35 = .ok (.iload_n 3, 1) := by decide +kernel
theorem dX0_mean_36 : decode cX0_mean 36 = .ok (.ifCond .ne 12, 3) := by decide +kernel
theorem dX0_mean_39 : decode cX0_mean 39 = .ok (.aload_n 0, 1) := by decide +kernel
theorem dX0_mean_40 : decode cX0_mean 40 = .ok (.iload 4, 2) := by decide +kernel
theorem dX0_mean_42 : decode cX0_mean 42 = .ok (.invokevirtual 111, 3) := by decide +kernel
theorem dX0_mean_45 : decode cX0_mean 45 = .ok (.goto 9, 3) := by decide +kernel
theorem dX0_mean_48 : decode cX0_mean 48 = .ok (.iload 4, 2) := by decide +kernel
theorem dX0_mean_50 : decode cX0_mean 50 = .ok (.invokestatic 60, 3) := by decide +kernel
theorem dX0_mean_53 : decode cX0_mean 53 = .ok (.i2l, 1) := by decide +kernel
theorem dX0_mean_54 : decode cX0_mean 54 = .ok (.lreturn, 1) := by decide +kernel
theorem dX0_survivors_0 : decode cX0_survivors 0 = .ok (.iload_n 1, 1) := by decide +kernel
theorem dX0_survivors_1 : decode cX0_survivors 1 = .ok (.invokestatic 114, 3) := by decide +kernel
theorem dX0_survivors_4 : decode cX0_survivors 4 = .ok (.ifCond .eq 11, 3) := by decide +kernel
theorem dX0_survivors_7 : decode cX0_survivors 7 = .ok (.aload_n 0, 1) := by decide +kernel
theorem dX0_survivors_8 : decode cX0_survivors 8 = .ok (.iload_n 1, 1) := by decide +kernel
theorem dX0_survivors_9 : decode cX0_survivors 9 = .ok (.invokevirtual 117, 3) := by decide +kernel
theorem dX0_survivors_12 : decode cX0_survivors 12 = .ok (.goto 4, 3) := by decide +kernel
theorem dX0_survivors_15 : decode cX0_survivors 15 = .ok (.iconst (-1), 1) := by decide +kernel
theorem dX0_survivors_16 : decode cX0_survivors 16 = .ok (.ireturn, 1) := by decide +kernel
theorem dX0_rank_0 : decode cX0_rank 0 = .ok (.iload_n 2, 1) := by decide +kernel
theorem dX0_rank_1 : decode cX0_rank 1 = .ok (.invokestatic 114, 3) := by decide +kernel
theorem dX0_rank_4 : decode cX0_rank 4 = .ok (.ifCond .ne 5, 3) := by decide +kernel
theorem dX0_rank_7 : decode cX0_rank 7 = .ok (.iconst (-1), 1) := by decide +kernel
theorem dX0_rank_8 : decode cX0_rank 8 = .ok (.ireturn, 1) := by decide +kernel
theorem dX0_rank_9 : decode cX0_rank 9 = .ok (.aload_n 0, 1) := by decide +kernel
theorem dX0_rank_10 : decode cX0_rank 10 = .ok (.iload_n 2, 1) := by decide +kernel
theorem dX0_rank_11 : decode cX0_rank 11 = .ok (.invokevirtual 117, 3) := by decide +kernel
theorem dX0_rank_14 : decode cX0_rank 14 = .ok (.istore_n 3, 1) := by decide +kernel
theorem dX0_rank_15 : decode cX0_rank 15 = .ok (.iload_n 3, 1) := by decide +kernel
theorem dX0_rank_16 : decode cX0_rank 16 = .ok (.iload_n 1, 1) := by decide +kernel
theorem dX0_rank_17 : decode cX0_rank 17 = .ok (.invokestatic 52, 3) := by decide +kernel
theorem dX0_rank_20 : decode cX0_rank 20 = .ok (.ifCond .eq 12, 3) := by decide +kernel
theorem dX0_rank_23 : decode cX0_rank 23 = .ok (.aload_n 0, 1) := by decide +kernel
theorem dX0_rank_24 : decode cX0_rank 24 = .ok (.iload_n 1, 1) := by decide +kernel
theorem dX0_rank_25 : decode cX0_rank 25 = .ok (.iload_n 3, 1) := by decide +kernel
theorem dX0_rank_26 : decode cX0_rank 26 = .ok (.invokevirtual 120, 3) := by decide +kernel
theorem dX0_rank_29 : decode cX0_rank 29 = .ok (.goto 4, 3) := by decide +kernel
theorem dX0_rank_32 : decode cX0_rank 32 = .ok (.iconst (-1), 1) := by decide +kernel
theorem dX0_rank_33 : decode cX0_rank 33 = .ok (.ireturn, 1) := by decide +kernel
theorem dX0_tick_0 : decode cX0_tick 0 = .ok (.lload_n 1, 1) := by decide +kernel
theorem dX0_tick_1 : decode cX0_tick 1 = .ok (.aload_n 0, 1) := by decide +kernel
theorem dX0_tick_2 : decode cX0_tick 2 = .ok (.getfield 20, 3) := by decide +kernel
theorem dX0_tick_5 : decode cX0_tick 5 = .ok (.lcmp, 1) := by decide +kernel
theorem dX0_tick_6 : decode cX0_tick 6 = .ok (.ifCond .lt 11, 3) := by decide +kernel
theorem dX0_tick_9 : decode cX0_tick 9 = .ok (.lload_n 1, 1) := by decide +kernel
theorem dX0_tick_10 : decode cX0_tick 10 = .ok (.ldc2_w 123, 3) := by decide +kernel
theorem dX0_tick_13 : decode cX0_tick 13 = .ok (.lcmp, 1) := by decide +kernel
theorem dX0_tick_14 : decode cX0_tick 14 = .ok (.ifCond .le 5, 3) := by decide +kernel
theorem dX0_tick_17 : decode cX0_tick 17 = .ok (.iconst 0, 1) := by decide +kernel
theorem dX0_tick_18 : decode cX0_tick 18 = .ok (.ireturn, 1) := by decide +kernel
theorem dX0_tick_19 : decode cX0_tick 19 = .ok (.lload_n 1, 1) := by decide +kernel
theorem dX0_tick_20 : decode cX0_tick 20 = .ok (.aload_n 0, 1) := by decide +kernel
theorem dX0_tick_21 : decode cX0_tick 21 = .ok (.getfield 20, 3) := by decide +kernel
theorem dX0_tick_24 : decode cX0_tick 24 = .ok (.lsub, 1) := by decide +kernel
theorem dX0_tick_25 : decode cX0_tick 25 = .ok (.ldc2_w 125, 3) := by decide +kernel
theorem dX0_tick_28 : decode cX0_tick 28 = .ok (.ldiv, 1) := by decide +kernel
theorem dX0_tick_29 : decode cX0_tick 29 = .ok (.lstore_n 3, 1) := by decide +kernel
theorem dX0_tick_30 : decode cX0_tick 30 = .ok (.aload_n 0, 1) := by decide +kernel
theorem dX0_tick_31 : decode cX0_tick 31 = .ok (.dup, 1) := by decide +kernel
theorem dX0_tick_32 : decode cX0_tick 32 = .ok (.getfield 24, 3) := by decide +kernel
theorem dX0_tick_35 : decode cX0_tick 35 = .ok (.lload_n 3, 1) := by decide +kernel
theorem dX0_tick_36 : decode cX0_tick 36 = .ok (.lneg, 1) := by decide +kernel
theorem dX0_tick_37 : decode cX0_tick 37 = .ok (.lload_n 3, 1) := by decide +kernel
theorem dX0_tick_38 : decode cX0_tick 38 = .ok (.aload_n 0, 1) := by decide +kernel
theorem dX0_tick_39 : decode cX0_tick 39 = .ok (.getfield 27, 3) := by decide +kernel
theorem dX0_tick_42 : decode cX0_tick 42 = .ok (.aload_n 0, 1) := by decide +kernel
theorem dX0_tick_43 : decode cX0_tick 43 = .ok (.getfield 24, 3) := by decide +kernel
theorem dX0_tick_46 : decode cX0_tick 46 = .ok (.lsub, 1) := by decide +kernel
theorem dX0_tick_47 : decode cX0_tick 47 = .ok (.invokestatic 127, 3) := by decide +kernel
theorem dX0_tick_50 : decode cX0_tick 50 = .ok (.invokestatic 131, 3) := by decide +kernel
theorem dX0_tick_53 : decode cX0_tick 53 = .ok (.ladd, 1) := by decide +kernel
theorem dX0_tick_54 : decode cX0_tick 54 = .ok (.putfield 24, 3) := by decide +kernel
theorem dX0_tick_57 : decode cX0_tick 57 = .ok (.aload_n 0, 1) := by decide +kernel
theorem dX0_tick_58 : decode cX0_tick 58 = .ok (.lload_n 1, 1) := by decide +kernel
theorem dX0_tick_59 : decode cX0_tick 59 = .ok (.putfield 20, 3) := by decide +kernel
theorem dX0_tick_62 : decode cX0_tick 62 = .ok (.iconst 1, 1) := by decide +kernel
theorem dX0_tick_63 : decode cX0_tick 63 = .ok (.ireturn, 1) := by decide +kernel
theorem dX0_steer_0 : decode cX0_steer 0 = .ok (.iconst 2, 1) := by decide +kernel
theorem dX0_steer_1 : decode cX0_steer 1 = .ok (.aload_n 0, 1) := by decide +kernel
theorem dX0_steer_2 : decode cX0_steer 2 = .ok (.invokevirtual 82, 3) := by decide +kernel
theorem dX0_steer_5 : decode cX0_steer 5 = .ok (.imul, 1) := by decide +kernel
theorem dX0_steer_6 : decode cX0_steer 6 = .ok (.aload_n 0, 1) := by decide +kernel
theorem dX0_steer_7 : decode cX0_steer 7 = .ok (.invokevirtual 94, 3) := by decide +kernel
theorem dX0_steer_10 : decode cX0_steer 10 = .ok (.if_icmp .gt 5, 3) := by decide +kernel
theorem dX0_steer_13 : decode cX0_steer 13 = .ok (.iconst 0, 1) := by decide +kernel
theorem dX0_steer_14 : decode cX0_steer 14 = .ok (.ireturn, 1) := by decide +kernel
theorem dX0_steer_15 : decode cX0_steer 15 = .ok (.aload_n 0, 1) := by decide +kernel
theorem dX0_steer_16 : decode cX0_steer 16 = .ok (.aload_n 0, 1) := by decide +kernel
theorem dX0_steer_17 : decode cX0_steer 17 = .ok (.iconst 0, 1) := by decide +kernel
theorem dX0_steer_18 : decode cX0_steer 18 = .ok (.invokevirtual 100, 3) := by decide +kernel
theorem dX0_steer_21 : decode cX0_steer 21 = .ok (.aload_n 0, 1) := by decide +kernel
theorem dX0_steer_22 : decode cX0_steer 22 = .ok (.iconst 1, 1) := by decide +kernel
theorem dX0_steer_23 : decode cX0_steer 23 = .ok (.invokevirtual 100, 3) := by decide +kernel
theorem dX0_steer_26 : decode cX0_steer 26 = .ok (.ladd, 1) := by decide +kernel
theorem dX0_steer_27 : decode cX0_steer 27 = .ok (.invokestatic 48, 3) := by decide +kernel
theorem dX0_steer_30 : decode cX0_steer 30 = .ok (.putfield 27, 3) := by decide +kernel
theorem dX0_steer_33 : decode cX0_steer 33 = .ok (.iconst 1, 1) := by decide +kernel
theorem dX0_steer_34 : decode cX0_steer 34 = .ok (.ireturn, 1) := by decide +kernel
theorem dX0_read_0 : decode cX0_read 0 = .ok (.aload_n 0, 1) := by decide +kernel
theorem dX0_read_1 : decode cX0_read 1 = .ok (.getfield 20, 3) := by decide +kernel
theorem dX0_read_4 : decode cX0_read 4 = .ok (.aload_n 0, 1) := by decide +kernel
theorem dX0_read_5 : decode cX0_read 5 = .ok (.getfield 24, 3) := by decide +kernel
theorem dX0_read_8 : decode cX0_read 8 = .ok (.ladd, 1) := by decide +kernel
theorem dX0_read_9 : decode cX0_read 9 = .ok (.lreturn, 1) := by decide +kernel
theorem dX0_offset_0 : decode cX0_offset 0 = .ok (.iload_n 1, 1) := by decide +kernel
theorem dX0_offset_1 : decode cX0_offset 1 = .ok (.invokestatic 79, 3) := by decide +kernel
theorem dX0_offset_4 : decode cX0_offset 4 = .ok (.ifCond .ne 7, 3) := by decide +kernel
theorem dX0_offset_7 : decode cX0_offset 7 = .ok (.ldc2_w 46, 3) := by decide +kernel
theorem dX0_offset_10 : decode cX0_offset 10 = .ok (.lreturn, 1) := by decide +kernel
theorem dX0_offset_11 : decode cX0_offset 11 = .ok (.iload_n 1, 1) := by decide +kernel
theorem dX0_offset_12 : decode cX0_offset 12 = .ok (.ifCond .ne 10, 3) := by decide +kernel
theorem dX0_offset_15 : decode cX0_offset 15 = .ok (.aload_n 0, 1) := by decide +kernel
theorem dX0_offset_16 : decode cX0_offset 16 = .ok (.getfield 24, 3) := by decide +kernel
theorem dX0_offset_19 : decode cX0_offset 19 = .ok (.goto 7, 3) := by decide +kernel
theorem dX0_offset_22 : decode cX0_offset 22 = .ok (.aload_n 0, 1) := by decide +kernel
theorem dX0_offset_23 : decode cX0_offset 23 = .ok (.getfield 27, 3) := by decide +kernel
theorem dX0_offset_26 : decode cX0_offset 26 = .ok (.lreturn, 1) := by decide +kernel
theorem dX0_settles_0 : decode cX0_settles 0 = .ok (.aload_n 0, 1) := by decide +kernel
theorem dX0_settles_1 : decode cX0_settles 1 = .ok (.getfield 27, 3) := by decide +kernel
theorem dX0_settles_4 : decode cX0_settles 4 = .ok (.aload_n 0, 1) := by decide +kernel
theorem dX0_settles_5 : decode cX0_settles 5 = .ok (.getfield 24, 3) := by decide +kernel
theorem dX0_settles_8 : decode cX0_settles 8 = .ok (.lsub, 1) := by decide +kernel
theorem dX0_settles_9 : decode cX0_settles 9 = .ok (.invokestatic 133, 3) := by decide +kernel
theorem dX0_settles_12 : decode cX0_settles 12 = .ok (.lstore_n 1, 1) := by decide +kernel
theorem dX0_settles_13 : decode cX0_settles 13 = .ok (.lload_n 1, 1) := by decide +kernel
theorem dX0_settles_14 : decode cX0_settles 14 = .ok (.ldc2_w 136, 3) := by decide +kernel
theorem dX0_settles_17 : decode cX0_settles 17 = .ok (.lcmp, 1) := by decide +kernel
theorem dX0_settles_18 : decode cX0_settles 18 = .ok (.ifCond .le 9, 3) := by decide +kernel
theorem dX0_settles_21 : decode cX0_settles 21 = .ok (.ldc2_w 46, 3) := by decide +kernel
theorem dX0_settles_24 : decode cX0_settles 24 = .ok (.goto 8, 3) := by decide +kernel
theorem dX0_settles_27 : decode cX0_settles 27 = .ok (.lload_n 1, 1) := by decide +kernel
theorem dX0_settles_28 : decode cX0_settles 28 = .ok (.ldc2_w 125, 3) := by decide +kernel
theorem dX0_settles_31 : decode cX0_settles 31 = .ok (.lmul, 1) := by decide +kernel
theorem dX0_settles_32 : decode cX0_settles 32 = .ok (.lreturn, 1) := by decide +kernel
theorem dX0_isSource_0 : decode cX0_isSource 0 = .ok (.iload_n 0, 1) := by decide +kernel
theorem dX0_isSource_1 : decode cX0_isSource 1 = .ok (.ifCond .lt 13, 3) := by decide +kernel
theorem dX0_isSource_4 : decode cX0_isSource 4 = .ok (.iload_n 0, 1) := by decide +kernel
theorem dX0_isSource_5 : decode cX0_isSource 5 = .ok (.bipush 24, 2) := by decide +kernel
theorem dX0_isSource_7 : decode cX0_isSource 7 = .ok (.if_icmp .ge 7, 3) := by decide +kernel
theorem dX0_isSource_10 : decode cX0_isSource 10 = .ok (.iconst 1, 1) := by decide +kernel
theorem dX0_isSource_11 : decode cX0_isSource 11 = .ok (.goto 4, 3) := by decide +kernel
theorem dX0_isSource_14 : decode cX0_isSource 14 = .ok (.iconst 0, 1) := by decide +kernel
theorem dX0_isSource_15 : decode cX0_isSource 15 = .ok (.ireturn, 1) := by decide +kernel
theorem dX0_isTime_0 : decode cX0_isTime 0 = .ok (.lload_n 0, 1) := by decide +kernel
theorem dX0_isTime_1 : decode cX0_isTime 1 = .ok (.lconst 0, 1) := by decide +kernel
theorem dX0_isTime_2 : decode cX0_isTime 2 = .ok (.lcmp, 1) := by decide +kernel
theorem dX0_isTime_3 : decode cX0_isTime 3 = .ok (.ifCond .lt 15, 3) := by decide +kernel
theorem dX0_isTime_6 : decode cX0_isTime 6 = .ok (.lload_n 0, 1) := by decide +kernel
theorem dX0_isTime_7 : decode cX0_isTime 7 = .ok (.ldc2_w 123, 3) := by decide +kernel
theorem dX0_isTime_10 : decode cX0_isTime 10 = .ok (.lcmp, 1) := by decide +kernel
theorem dX0_isTime_11 : decode cX0_isTime 11 = .ok (.ifCond .gt 7, 3) := by decide +kernel
theorem dX0_isTime_14 : decode cX0_isTime 14 = .ok (.iconst 1, 1) := by decide +kernel
theorem dX0_isTime_15 : decode cX0_isTime 15 = .ok (.goto 4, 3) := by decide +kernel
theorem dX0_isTime_18 : decode cX0_isTime 18 = .ok (.iconst 0, 1) := by decide +kernel
theorem dX0_isTime_19 : decode cX0_isTime 19 = .ok (.ireturn, 1) := by decide +kernel
theorem dX0_isCount_0 : decode cX0_isCount 0 = .ok (.iload_n 0, 1) := by decide +kernel
theorem dX0_isCount_1 : decode cX0_isCount 1 = .ok (.iconst 1, 1) := by decide +kernel
theorem dX0_isCount_2 : decode cX0_isCount 2 = .ok (.if_icmp .lt 13, 3) := by decide +kernel
theorem dX0_isCount_5 : decode cX0_isCount 5 = .ok (.iload_n 0, 1) := by decide +kernel
theorem dX0_isCount_6 : decode cX0_isCount 6 = .ok (.bipush 24, 2) := by decide +kernel
theorem dX0_isCount_8 : decode cX0_isCount 8 = .ok (.if_icmp .gt 7, 3) := by decide +kernel
theorem dX0_isCount_11 : decode cX0_isCount 11 = .ok (.iconst 1, 1) := by decide +kernel
theorem dX0_isCount_12 : decode cX0_isCount 12 = .ok (.goto 4, 3) := by decide +kernel
theorem dX0_isCount_15 : decode cX0_isCount 15 = .ok (.iconst 0, 1) := by decide +kernel
theorem dX0_isCount_16 : decode cX0_isCount 16 = .ok (.ireturn, 1) := by decide +kernel
theorem dX0_isZeroOrOne_0 : decode cX0_isZeroOrOne 0 = .ok (.iload_n 0, 1) := by decide +kernel
theorem dX0_isZeroOrOne_1 : decode cX0_isZeroOrOne 1 = .ok (.ifCond .eq 8, 3) := by decide +kernel
theorem dX0_isZeroOrOne_4 : decode cX0_isZeroOrOne 4 = .ok (.iload_n 0, 1) := by decide +kernel
theorem dX0_isZeroOrOne_5 : decode cX0_isZeroOrOne 5 = .ok (.iconst 1, 1) := by decide +kernel
theorem dX0_isZeroOrOne_6 : decode cX0_isZeroOrOne 6 = .ok (.if_icmp .ne 7, 3) := by decide +kernel
theorem dX0_isZeroOrOne_9 : decode cX0_isZeroOrOne 9 = .ok (.iconst 1, 1) := by decide +kernel
theorem dX0_isZeroOrOne_10 : decode cX0_isZeroOrOne 10 = .ok (.goto 4, 3) := by decide +kernel
theorem dX0_isZeroOrOne_13 : decode cX0_isZeroOrOne 13 = .ok (.iconst 0, 1) := by decide +kernel
theorem dX0_isZeroOrOne_14 : decode cX0_isZeroOrOne 14 = .ok (.ireturn, 1) := by decide +kernel
theorem dX0_half_0 : decode cX0_half 0 = .ok (.lload_n 0, 1) := by decide +kernel
theorem dX0_half_1 : decode cX0_half 1 = .ok (.ldc2_w 138, 3) := by decide +kernel
theorem dX0_half_4 : decode cX0_half 4 = .ok (.invokestatic 140, 3) := by decide +kernel
theorem dX0_half_7 : decode cX0_half 7 = .ok (.lreturn, 1) := by decide +kernel
theorem dX0_isIn_0 : decode cX0_isIn 0 = .ok (.iload_n 1, 1) := by decide +kernel
theorem dX0_isIn_1 : decode cX0_isIn 1 = .ok (.invokestatic 30, 3) := by decide +kernel
theorem dX0_isIn_4 : decode cX0_isIn 4 = .ok (.ifCond .eq 15, 3) := by decide +kernel
theorem dX0_isIn_7 : decode cX0_isIn 7 = .ok (.iload_n 0, 1) := by decide +kernel
theorem dX0_isIn_8 : decode cX0_isIn 8 = .ok (.iconst 1, 1) := by decide +kernel
theorem dX0_isIn_9 : decode cX0_isIn 9 = .ok (.iload_n 1, 1) := by decide +kernel
theorem dX0_isIn_10 : decode cX0_isIn 10 = .ok (.ishl, 1) := by decide +kernel
theorem dX0_isIn_11 : decode cX0_isIn 11 = .ok (.iand, 1) := by decide +kernel
theorem dX0_isIn_12 : decode cX0_isIn 12 = .ok (.ifCond .eq 7, 3) := by decide +kernel
theorem dX0_isIn_15 : decode cX0_isIn 15 = .ok (.iconst 1, 1) := by decide +kernel
theorem dX0_isIn_16 : decode cX0_isIn 16 = .ok (.goto 4, 3) := by decide +kernel
theorem dX0_isIn_19 : decode cX0_isIn 19 = .ok (.iconst 0, 1) := by decide +kernel
theorem dX0_isIn_20 : decode cX0_isIn 20 = .ok (.ireturn, 1) := by decide +kernel
theorem dX0_without_0 : decode cX0_without 0 = .ok (.iload_n 0, 1) := by decide +kernel
theorem dX0_without_1 : decode cX0_without 1 = .ok (.iconst 1, 1) := by decide +kernel
theorem dX0_without_2 : decode cX0_without 2 = .ok (.iload_n 1, 1) := by decide +kernel
theorem dX0_without_3 : decode cX0_without 3 = .ok (.ishl, 1) := by decide +kernel
theorem dX0_without_4 : decode cX0_without 4 = .ok (.iconst (-1), 1) := by decide +kernel
theorem dX0_without_5 : decode cX0_without 5 = .ok (.ixor, 1) := by decide +kernel
theorem dX0_without_6 : decode cX0_without 6 = .ok (.iand, 1) := by decide +kernel
theorem dX0_without_7 : decode cX0_without 7 = .ok (.ireturn, 1) := by decide +kernel
theorem dX0_hold_0 : decode cX0_hold 0 = .ok (.aload_n 0, 1) := by decide +kernel
theorem dX0_hold_1 : decode cX0_hold 1 = .ok (.getfield 9, 3) := by decide +kernel
theorem dX0_hold_4 : decode cX0_hold 4 = .ok (.iload_n 1, 1) := by decide +kernel
theorem dX0_hold_5 : decode cX0_hold 5 = .ok (.lload_n 2, 1) := by decide +kernel
theorem dX0_hold_6 : decode cX0_hold 6 = .ok (.lastore, 1) := by decide +kernel
theorem dX0_hold_7 : decode cX0_hold 7 = .ok (.aload_n 0, 1) := by decide +kernel
theorem dX0_hold_8 : decode cX0_hold 8 = .ok (.getfield 13, 3) := by decide +kernel
theorem dX0_hold_11 : decode cX0_hold 11 = .ok (.iload_n 1, 1) := by decide +kernel
theorem dX0_hold_12 : decode cX0_hold 12 = .ok (.lload 4, 2) := by decide +kernel
theorem dX0_hold_14 : decode cX0_hold 14 = .ok (.lastore, 1) := by decide +kernel
theorem dX0_hold_15 : decode cX0_hold 15 = .ok (.aload_n 0, 1) := by decide +kernel
theorem dX0_hold_16 : decode cX0_hold 16 = .ok (.dup, 1) := by decide +kernel
theorem dX0_hold_17 : decode cX0_hold 17 = .ok (.getfield 16, 3) := by decide +kernel
theorem dX0_hold_20 : decode cX0_hold 20 = .ok (.iconst 1, 1) := by decide +kernel
theorem dX0_hold_21 : decode cX0_hold 21 = .ok (.iload_n 1, 1) := by decide +kernel
theorem dX0_hold_22 : decode cX0_hold 22 = .ok (.ishl, 1) := by decide +kernel
theorem dX0_hold_23 : decode cX0_hold 23 = .ok (.ior, 1) := by decide +kernel
theorem dX0_hold_24 : decode cX0_hold 24 = .ok (.putfield 16, 3) := by decide +kernel
theorem dX0_hold_27 : decode cX0_hold 27 = .ok (.return_, 1) := by decide +kernel
theorem dX0_isCoveredBy_0 : decode cX0_isCoveredBy 0 = .ok (.aload_n 0, 1) := by decide +kernel
theorem dX0_isCoveredBy_1 : decode cX0_isCoveredBy 1 = .ok (.getfield 16, 3) := by decide +kernel
theorem dX0_isCoveredBy_4 : decode cX0_isCoveredBy 4 = .ok (.iload_n 1, 1) := by decide +kernel
theorem dX0_isCoveredBy_5 : decode cX0_isCoveredBy 5 = .ok (.invokestatic 52, 3) := by decide +kernel
theorem dX0_isCoveredBy_8 : decode cX0_isCoveredBy 8 = .ok (.ifCond .eq 29, 3) := by decide +kernel
theorem dX0_isCoveredBy_11 : decode cX0_isCoveredBy 11 = .ok (.aload_n 0, 1) := by decide +kernel
theorem dX0_isCoveredBy_12 : decode cX0_isCoveredBy 12 = .ok (.getfield 9, 3) := by decide +kernel
theorem dX0_isCoveredBy_15 : decode cX0_isCoveredBy 15 = .ok (.iload_n 1, 1) := by decide +kernel
theorem dX0_isCoveredBy_16 : decode cX0_isCoveredBy 16 = .ok (.laload, 1) := by decide +kernel
theorem dX0_isCoveredBy_17 : decode cX0_isCoveredBy 17 = .ok (.lload_n 2, 1) := by decide +kernel
theorem dX0_isCoveredBy_18 : decode cX0_isCoveredBy 18 = .ok (.lcmp, 1) := by decide +kernel
theorem dX0_isCoveredBy_19 : decode cX0_isCoveredBy 19 = .ok (.ifCond .gt 18, 3) := by decide +kernel
theorem dX0_isCoveredBy_22 : decode cX0_isCoveredBy 22 = .ok (.lload_n 2, 1) := by decide +kernel
theorem dX0_isCoveredBy_23 : decode cX0_isCoveredBy 23 = .ok (.aload_n 0, 1) := by decide +kernel
theorem dX0_isCoveredBy_24 : decode cX0_isCoveredBy 24 = .ok (.getfield 13, 3) := by decide +kernel
theorem dX0_isCoveredBy_27 : decode cX0_isCoveredBy 27 = .ok (.iload_n 1, 1) := by decide +kernel
theorem dX0_isCoveredBy_28 : decode cX0_isCoveredBy 28 = .ok (.laload, 1) := by decide +kernel
theorem dX0_isCoveredBy_29 : decode cX0_isCoveredBy 29 = .ok (.lcmp, 1) := by decide +kernel
theorem dX0_isCoveredBy_30 : decode cX0_isCoveredBy 30 = .ok (.ifCond .gt 7, 3) := by decide +kernel
theorem dX0_isCoveredBy_33 : decode cX0_isCoveredBy 33 = .ok (.iconst 1, 1) := by decide +kernel
theorem dX0_isCoveredBy_34 : decode cX0_isCoveredBy 34 = .ok (.goto 4, 3) := by decide +kernel
theorem dX0_isCoveredBy_37 : decode cX0_isCoveredBy 37 = .ok (.iconst 0, 1) := by decide +kernel
theorem dX0_isCoveredBy_38 : decode cX0_isCoveredBy 38 = .ok (.ireturn, 1) := by decide +kernel
theorem dX0_leastCoveredBy_0 : decode cX0_leastCoveredBy 0 = .ok (.ldc2_w 46, 3) := by decide +kernel
theorem dX0_leastCoveredBy_3 : decode cX0_leastCoveredBy 3 = .ok (.lstore_n 2, 1) := by decide +kernel
theorem dX0_leastCoveredBy_4 : decode cX0_leastCoveredBy 4 = .ok (.iconst 0, 1) := by decide +kernel
theorem dX0_leastCoveredBy_5 : decode cX0_leastCoveredBy 5 = .ok (.istore 4, 2) := by decide +kernel
theorem dX0_leastCoveredBy_7 : decode cX0_leastCoveredBy 7 = .ok (.iload 4, 2) := by decide +kernel
theorem dX0_leastCoveredBy_9 : decode cX0_leastCoveredBy 9 = .ok (.bipush 24, 2) := by decide +kernel
theorem dX0_leastCoveredBy_11 : decode cX0_leastCoveredBy 11 = .ok (.if_icmp .ge 64, 3) := by decide +kernel
theorem dX0_leastCoveredBy_14 : decode cX0_leastCoveredBy 14 = .ok (.aload_n 0, 1) := by decide +kernel
theorem dX0_leastCoveredBy_15 : decode cX0_leastCoveredBy 15 = .ok (.getfield 16, 3) := by decide +kernel
theorem dX0_leastCoveredBy_18 : decode cX0_leastCoveredBy 18 = .ok (.iload 4, 2) := by decide +kernel
theorem dX0_leastCoveredBy_20 : decode cX0_leastCoveredBy 20 = .ok (.invokestatic 52, 3) := by decide +kernel
theorem dX0_leastCoveredBy_23 : decode cX0_leastCoveredBy 23 = .ok (.ifCond .eq 46, 3) := by decide +kernel
theorem dX0_leastCoveredBy_26 : decode cX0_leastCoveredBy 26 = .ok (.aload_n 0, 1) := by decide +kernel
theorem dX0_leastCoveredBy_27 : decode cX0_leastCoveredBy 27 = .ok (.aload_n 0, 1) := by decide +kernel
theorem dX0_leastCoveredBy_28 : decode cX0_leastCoveredBy 28 = .ok (.getfield 9, 3) := by decide +kernel
theorem dX0_leastCoveredBy_31 : decode cX0_leastCoveredBy 31 = .ok (.iload 4, 2) := by decide +kernel
theorem dX0_leastCoveredBy_33 : decode cX0_leastCoveredBy 33 = .ok (.laload, 1) := by decide +kernel
theorem dX0_leastCoveredBy_34 : decode cX0_leastCoveredBy 34 = .ok (.invokevirtual 70, 3) := by decide +kernel
theorem dX0_leastCoveredBy_37 : decode cX0_leastCoveredBy 37 = .ok (.iload_n 1, 1) := by decide +kernel
theorem dX0_leastCoveredBy_38 : decode cX0_leastCoveredBy 38 = .ok (.if_icmp .lt 31, 3) := by decide +kernel
theorem dX0_leastCoveredBy_41 : decode cX0_leastCoveredBy 41 = .ok (.lload_n 2, 1) := by decide +kernel
theorem dX0_leastCoveredBy_42 : decode cX0_leastCoveredBy 42 = .ok (.ldc2_w 46, 3) := by decide +kernel
theorem dX0_leastCoveredBy_45 : decode cX0_leastCoveredBy 45 = .ok (.lcmp, 1) := by decide +kernel
theorem dX0_leastCoveredBy_46 : decode cX0_leastCoveredBy 46 = .ok (.ifCond .eq 15, 3) := by decide +kernel
theorem dX0_leastCoveredBy_49 : decode cX0_leastCoveredBy 49 = .ok (.aload_n 0, 1) := by decide +kernel
theorem dX0_leastCoveredBy_50 : decode cX0_leastCoveredBy 50 = .ok (.getfield 9, 3) := by decide +kernel
theorem dX0_leastCoveredBy_53 : decode cX0_leastCoveredBy 53 = .ok (.iload 4, 2) := by decide +kernel
theorem dX0_leastCoveredBy_55 : decode cX0_leastCoveredBy 55 = .ok (.laload, 1) := by decide +kernel
theorem dX0_leastCoveredBy_56 : decode cX0_leastCoveredBy 56 = .ok (.lload_n 2, 1) := by decide +kernel
theorem dX0_leastCoveredBy_57 : decode cX0_leastCoveredBy 57 = .ok (.lcmp, 1) := by decide +kernel
theorem dX0_leastCoveredBy_58 : decode cX0_leastCoveredBy 58 = .ok (.ifCond .ge 11, 3) := by decide +kernel
theorem dX0_leastCoveredBy_61 : decode cX0_leastCoveredBy 61 = .ok (.aload_n 0, 1) := by decide +kernel
theorem dX0_leastCoveredBy_62 : decode cX0_leastCoveredBy 62 = .ok (.getfield 9, 3) := by decide +kernel
theorem dX0_leastCoveredBy_65 : decode cX0_leastCoveredBy 65 = .ok (.iload 4, 2) := by decide +kernel
theorem dX0_leastCoveredBy_67 : decode cX0_leastCoveredBy 67 = .ok (.laload, 1) := by decide +kernel
theorem dX0_leastCoveredBy_68 : decode cX0_leastCoveredBy 68 = .ok (.lstore_n 2, 1) := by decide +kernel
theorem dX0_leastCoveredBy_69 : decode cX0_leastCoveredBy 69 = .ok (.iinc 4 1, 3) := by decide +kernel
theorem dX0_leastCoveredBy_72 : decode cX0_leastCoveredBy 72 = .ok (.goto (-65), 3) := by decide +kernel
theorem dX0_leastCoveredBy_75 : decode cX0_leastCoveredBy 75 = .ok (.lload_n 2, 1) := by decide +kernel
theorem dX0_leastCoveredBy_76 : decode cX0_leastCoveredBy 76 = .ok (.lreturn, 1) := by decide +kernel
theorem dX0_greatestCoveredBy_0 : decode cX0_greatestCoveredBy 0 = .ok (.ldc2_w 46, 3) := by decide +kernel
theorem dX0_greatestCoveredBy_3 : decode cX0_greatestCoveredBy 3 = .ok (.lstore_n 2, 1) := by decide +kernel
theorem dX0_greatestCoveredBy_4 : decode cX0_greatestCoveredBy 4 = .ok (.iconst 0, 1) := by decide +kernel
theorem dX0_greatestCoveredBy_5 : decode cX0_greatestCoveredBy 5 = .ok (.istore 4, 2) := by decide +kernel
theorem dX0_greatestCoveredBy_7 : decode cX0_greatestCoveredBy 7 = .ok (.iload 4, 2) := by decide +kernel
theorem dX0_greatestCoveredBy_9 : decode cX0_greatestCoveredBy 9 = .ok (.bipush 24, 2) := by decide +kernel
theorem dX0_greatestCoveredBy_11 : decode cX0_greatestCoveredBy 11 = .ok (.if_icmp .ge 48, 3) := by decide +kernel
theorem dX0_greatestCoveredBy_14 : decode cX0_greatestCoveredBy 14 = .ok (.aload_n 0, 1) := by decide +kernel
theorem dX0_greatestCoveredBy_15 : decode cX0_greatestCoveredBy 15 = .ok (.getfield 16, 3) := by decide +kernel
theorem dX0_greatestCoveredBy_18 : decode cX0_greatestCoveredBy 18 = .ok (.iload 4, 2) := by decide +kernel
theorem dX0_greatestCoveredBy_20 : decode cX0_greatestCoveredBy 20 = .ok (.invokestatic 52, 3) := by decide +kernel
theorem dX0_greatestCoveredBy_23 : decode cX0_greatestCoveredBy 23 = .ok (.ifCond .eq 30, 3) := by decide +kernel
theorem dX0_greatestCoveredBy_26 : decode cX0_greatestCoveredBy 26 = .ok (.aload_n 0, 1) := by decide +kernel
theorem dX0_greatestCoveredBy_27 : decode cX0_greatestCoveredBy 27 = .ok (.aload_n 0, 1) := by decide +kernel
theorem dX0_greatestCoveredBy_28 : decode cX0_greatestCoveredBy 28 = .ok (.getfield 13, 3) := by decide +kernel
theorem dX0_greatestCoveredBy_31 : decode cX0_greatestCoveredBy 31 = .ok (.iload 4, 2) := by decide +kernel
theorem dX0_greatestCoveredBy_33 : decode cX0_greatestCoveredBy 33 = .ok (.laload, 1) := by decide +kernel
theorem dX0_greatestCoveredBy_34 : decode cX0_greatestCoveredBy 34 = .ok (.invokevirtual 70, 3) := by decide +kernel
theorem dX0_greatestCoveredBy_37 : decode cX0_greatestCoveredBy 37 = .ok (.iload_n 1, 1) := by decide +kernel
theorem dX0_greatestCoveredBy_38 : decode cX0_greatestCoveredBy 38 = .ok (.if_icmp .lt 15, 3) := by decide +kernel
theorem dX0_greatestCoveredBy_41 : decode cX0_greatestCoveredBy 41 = .ok (.lload_n 2, 1) := by decide +kernel
theorem dX0_greatestCoveredBy_42 : decode cX0_greatestCoveredBy 42 = .ok (.aload_n 0, 1) := by decide +kernel
theorem dX0_greatestCoveredBy_43 : decode cX0_greatestCoveredBy 43 = .ok (.getfield 13, 3) := by decide +kernel
theorem dX0_greatestCoveredBy_46 : decode cX0_greatestCoveredBy 46 = .ok (.iload 4, 2) := by decide +kernel
theorem dX0_greatestCoveredBy_48 : decode cX0_greatestCoveredBy 48 = .ok (.laload, 1) := by decide +kernel
theorem dX0_greatestCoveredBy_49 : decode cX0_greatestCoveredBy 49 = .ok (.invokestatic 131, 3) := by decide +kernel
theorem dX0_greatestCoveredBy_52 : decode cX0_greatestCoveredBy 52 = .ok (.lstore_n 2, 1) := by decide +kernel
theorem dX0_greatestCoveredBy_53 : decode cX0_greatestCoveredBy 53 = .ok (.iinc 4 1, 3) := by decide +kernel
theorem dX0_greatestCoveredBy_56 : decode cX0_greatestCoveredBy 56 = .ok (.goto (-49), 3) := by decide +kernel
theorem dX0_greatestCoveredBy_59 : decode cX0_greatestCoveredBy 59 = .ok (.lload_n 2, 1) := by decide +kernel
theorem dX0_greatestCoveredBy_60 : decode cX0_greatestCoveredBy 60 = .ok (.lreturn, 1) := by decide +kernel
theorem dX0_endOfRow_0 : decode cX0_endOfRow 0 = .ok (.aload_n 0, 1) := by decide +kernel
theorem dX0_endOfRow_1 : decode cX0_endOfRow 1 = .ok (.lload_n 1, 1) := by decide +kernel
theorem dX0_endOfRow_2 : decode cX0_endOfRow 2 = .ok (.invokevirtual 143, 3) := by decide +kernel
theorem dX0_endOfRow_5 : decode cX0_endOfRow 5 = .ok (.lstore 4, 2) := by decide +kernel
theorem dX0_endOfRow_7 : decode cX0_endOfRow 7 = .ok (.iconst 0, 1) := by decide +kernel
theorem dX0_endOfRow_8 : decode cX0_endOfRow 8 = .ok (.istore 6, 2) := by decide +kernel
theorem dX0_endOfRow_10 : decode cX0_endOfRow 10 = .ok (.iload 6, 2) := by decide +kernel
theorem dX0_endOfRow_12 : decode cX0_endOfRow 12 = .ok (.bipush 24, 2) := by decide +kernel
theorem dX0_endOfRow_14 : decode cX0_endOfRow 14 = .ok (.if_icmp .ge 31, 3) := by decide +kernel
theorem dX0_endOfRow_17 : decode cX0_endOfRow 17 = .ok (.aload_n 0, 1) := by decide +kernel
theorem dX0_endOfRow_18 : decode cX0_endOfRow 18 = .ok (.lload 4, 2) := by decide +kernel
theorem dX0_endOfRow_20 : decode cX0_endOfRow 20 = .ok (.lconst 1, 1) := by decide +kernel
theorem dX0_endOfRow_21 : decode cX0_endOfRow 21 = .ok (.ladd, 1) := by decide +kernel
theorem dX0_endOfRow_22 : decode cX0_endOfRow 22 = .ok (.invokevirtual 70, 3) := by decide +kernel
theorem dX0_endOfRow_25 : decode cX0_endOfRow 25 = .ok (.iload_n 3, 1) := by decide +kernel
theorem dX0_endOfRow_26 : decode cX0_endOfRow 26 = .ok (.if_icmp .ne 19, 3) := by decide +kernel
theorem dX0_endOfRow_29 : decode cX0_endOfRow 29 = .ok (.aload_n 0, 1) := by decide +kernel
theorem dX0_endOfRow_30 : decode cX0_endOfRow 30 = .ok (.lload 4, 2) := by decide +kernel
theorem dX0_endOfRow_32 : decode cX0_endOfRow 32 = .ok (.lconst 1, 1) := by decide +kernel
theorem dX0_endOfRow_33 : decode cX0_endOfRow 33 = .ok (.ladd, 1) := by decide +kernel
theorem dX0_endOfRow_34 : decode cX0_endOfRow 34 = .ok (.invokevirtual 143, 3) := by decide +kernel
theorem dX0_endOfRow_37 : decode cX0_endOfRow 37 = .ok (.lstore 4, 2) := by decide +kernel
theorem dX0_endOfRow_39 : decode cX0_endOfRow 39 = .ok (.iinc 6 1, 3) := by decide +kernel
theorem dX0_endOfRow_42 : decode cX0_endOfRow 42 = .ok (.goto (-32), 3) := by decide +kernel
theorem dX0_endOfRow_45 : decode cX0_endOfRow 45 = .ok (.lload 4, 2) := by decide +kernel
theorem dX0_endOfRow_47 : decode cX0_endOfRow 47 = .ok (.lreturn, 1) := by decide +kernel
theorem dX0_firstHighFrom_0 : decode cX0_firstHighFrom 0 = .ok (.ldc2_w 36, 3) := by decide +kernel
theorem dX0_firstHighFrom_3 : decode cX0_firstHighFrom 3 = .ok (.lstore_n 3, 1) := by decide +kernel
theorem dX0_firstHighFrom_4 : decode cX0_firstHighFrom 4 = .ok (.iconst 0, 1) := by decide +kernel
theorem dX0_firstHighFrom_5 : decode cX0_firstHighFrom 5 = .ok (.istore 5, 2) := by decide +kernel
theorem dX0_firstHighFrom_7 : decode cX0_firstHighFrom 7 = .ok (.iload 5, 2) := by decide +kernel
theorem dX0_firstHighFrom_9 : decode cX0_firstHighFrom 9 = .ok (.bipush 24, 2) := by decide +kernel
theorem dX0_firstHighFrom_11 : decode cX0_firstHighFrom 11 = .ok (.if_icmp .ge 31, 3) := by decide +kernel
theorem dX0_firstHighFrom_14 : decode cX0_firstHighFrom 14 = .ok (.aload_n 0, 1) := by decide +kernel
theorem dX0_firstHighFrom_15 : decode cX0_firstHighFrom 15 = .ok (.iload 5, 2) := by decide +kernel
theorem dX0_firstHighFrom_17 : decode cX0_firstHighFrom 17 = .ok (.lload_n 1, 1) := by decide +kernel
theorem dX0_firstHighFrom_18 : decode cX0_firstHighFrom 18 = .ok (.invokevirtual 66, 3) := by decide +kernel
theorem dX0_firstHighFrom_21 : decode cX0_firstHighFrom 21 = .ok (.ifCond .eq 15, 3) := by decide +kernel
theorem dX0_firstHighFrom_24 : decode cX0_firstHighFrom 24 = .ok (.lload_n 3, 1) := by decide +kernel
theorem dX0_firstHighFrom_25 : decode cX0_firstHighFrom 25 = .ok (.aload_n 0, 1) := by decide +kernel
theorem dX0_firstHighFrom_26 : decode cX0_firstHighFrom 26 = .ok (.getfield 13, 3) := by decide +kernel
theorem dX0_firstHighFrom_29 : decode cX0_firstHighFrom 29 = .ok (.iload 5, 2) := by decide +kernel
theorem dX0_firstHighFrom_31 : decode cX0_firstHighFrom 31 = .ok (.laload, 1) := by decide +kernel
theorem dX0_firstHighFrom_32 : decode cX0_firstHighFrom 32 = .ok (.invokestatic 127, 3) := by decide +kernel
theorem dX0_firstHighFrom_35 : decode cX0_firstHighFrom 35 = .ok (.lstore_n 3, 1) := by decide +kernel
theorem dX0_firstHighFrom_36 : decode cX0_firstHighFrom 36 = .ok (.iinc 5 1, 3) := by decide +kernel
theorem dX0_firstHighFrom_39 : decode cX0_firstHighFrom 39 = .ok (.goto (-32), 3) := by decide +kernel
theorem dX0_firstHighFrom_42 : decode cX0_firstHighFrom 42 = .ok (.lload_n 3, 1) := by decide +kernel
theorem dX0_firstHighFrom_43 : decode cX0_firstHighFrom 43 = .ok (.lreturn, 1) := by decide +kernel
theorem dX0_middle_0 : decode cX0_middle 0 = .ok (.aload_n 0, 1) := by decide +kernel
theorem dX0_middle_1 : decode cX0_middle 1 = .ok (.getfield 9, 3) := by decide +kernel
theorem dX0_middle_4 : decode cX0_middle 4 = .ok (.iload_n 1, 1) := by decide +kernel
theorem dX0_middle_5 : decode cX0_middle 5 = .ok (.laload, 1) := by decide +kernel
theorem dX0_middle_6 : decode cX0_middle 6 = .ok (.aload_n 0, 1) := by decide +kernel
theorem dX0_middle_7 : decode cX0_middle 7 = .ok (.getfield 13, 3) := by decide +kernel
theorem dX0_middle_10 : decode cX0_middle 10 = .ok (.iload_n 1, 1) := by decide +kernel
theorem dX0_middle_11 : decode cX0_middle 11 = .ok (.laload, 1) := by decide +kernel
theorem dX0_middle_12 : decode cX0_middle 12 = .ok (.ladd, 1) := by decide +kernel
theorem dX0_middle_13 : decode cX0_middle 13 = .ok (.invokestatic 48, 3) := by decide +kernel
theorem dX0_middle_16 : decode cX0_middle 16 = .ok (.lreturn, 1) := by decide +kernel
theorem dX0_medianMiddle_0 : decode cX0_medianMiddle 0 = .ok (.aload_n 0, 1) := by decide +kernel
theorem dX0_medianMiddle_1 : decode cX0_medianMiddle 1 = .ok (.invokevirtual 94, 3) := by decide +kernel
theorem dX0_medianMiddle_4 : decode cX0_medianMiddle 4 = .ok (.iconst 1, 1) := by decide +kernel
theorem dX0_medianMiddle_5 : decode cX0_medianMiddle 5 = .ok (.isub, 1) := by decide +kernel
theorem dX0_medianMiddle_6 : decode cX0_medianMiddle 6 = .ok (.iconst 2, 1) := by decide +kernel
theorem dX0_medianMiddle_7 : decode cX0_medianMiddle 7 = .ok (.idiv, 1) := by decide +kernel
theorem dX0_medianMiddle_8 : decode cX0_medianMiddle 8 = .ok (.istore_n 1, 1) := by decide +kernel
theorem dX0_medianMiddle_9 : decode cX0_medianMiddle 9 = .ok (.iconst 0, 1) := by decide +kernel
theorem dX0_medianMiddle_10 : decode cX0_medianMiddle 10 = .ok (.istore_n 2, 1) := by decide +kernel
theorem dX0_medianMiddle_11 : decode cX0_medianMiddle 11 = .ok (.iload_n 2, 1) := by decide +kernel
theorem dX0_medianMiddle_12 : decode cX0_medianMiddle 12 = .ok (.bipush 24, 2) := by decide +kernel
theorem dX0_medianMiddle_14 : decode cX0_medianMiddle 14 = .ok (.if_icmp .ge 39, 3) := by decide +kernel
theorem dX0_medianMiddle_17 : decode cX0_medianMiddle 17 = .ok (.aload_n 0, 1) := by decide +kernel
theorem dX0_medianMiddle_18 : decode cX0_medianMiddle 18 = .ok (.getfield 16, 3) := by decide +kernel
theorem dX0_medianMiddle_21 : decode cX0_medianMiddle 21 = .ok (.iload_n 2, 1) := by decide +kernel
theorem dX0_medianMiddle_22 : decode cX0_medianMiddle 22 = .ok (.invokestatic 52, 3) := by decide +kernel
theorem dX0_medianMiddle_25 : decode cX0_medianMiddle 25 = .ok (.ifCond .eq 22, 3) := by decide +kernel
theorem dX0_medianMiddle_28 : decode cX0_medianMiddle 28 = .ok (.aload_n 0, 1) := by decide +kernel
theorem dX0_medianMiddle_29 : decode cX0_medianMiddle 29 = .ok (.iload_n 2, 1) := by decide +kernel
theorem dX0_medianMiddle_30 : decode cX0_medianMiddle 30 = .ok (.aload_n 0, 1) := by decide +kernel
theorem dX0_medianMiddle_31 : decode cX0_medianMiddle 31 = .ok (.getfield 16, 3) := by decide +kernel
theorem dX0_medianMiddle_34 : decode cX0_medianMiddle 34 = .ok (.invokevirtual 120, 3) := by decide +kernel
theorem dX0_medianMiddle_37 : decode cX0_medianMiddle 37 = .ok (.iload_n 1, 1) := by decide +kernel
theorem dX0_medianMiddle_38 : decode cX0_medianMiddle 38 = .ok (.if_icmp .ne 9, 3) := by decide +kernel
theorem dX0_medianMiddle_41 : decode cX0_medianMiddle 41 = .ok (.aload_n 0, 1) := by decide +kernel
theorem dX0_medianMiddle_42 : decode cX0_medianMiddle 42 = .ok (.iload_n 2, 1) := by decide +kernel
theorem dX0_medianMiddle_43 : decode cX0_medianMiddle 43 = .ok (.invokevirtual 146, 3) := by decide +kernel
theorem dX0_medianMiddle_46 : decode cX0_medianMiddle 46 = .ok (.lreturn, 1) := by decide +kernel
theorem dX0_medianMiddle_47 : decode cX0_medianMiddle 47 = .ok (.iinc 2 1, 3) := by decide +kernel
theorem dX0_medianMiddle_50 : decode cX0_medianMiddle 50 = .ok (.goto (-39), 3) := by decide +kernel
theorem dX0_medianMiddle_53 : decode cX0_medianMiddle 53 = .ok (.ldc2_w 46, 3) := by decide +kernel
theorem dX0_medianMiddle_56 : decode cX0_medianMiddle 56 = .ok (.lreturn, 1) := by decide +kernel
theorem dX0_place_0 : decode cX0_place 0 = .ok (.aload_n 0, 1) := by decide +kernel
theorem dX0_place_1 : decode cX0_place 1 = .ok (.iload_n 1, 1) := by decide +kernel
theorem dX0_place_2 : decode cX0_place 2 = .ok (.invokevirtual 146, 3) := by decide +kernel
theorem dX0_place_5 : decode cX0_place 5 = .ok (.lstore_n 3, 1) := by decide +kernel
theorem dX0_place_6 : decode cX0_place 6 = .ok (.iconst 0, 1) := by decide +kernel
theorem dX0_place_7 : decode cX0_place 7 = .ok (.istore 5, 2) := by decide +kernel
theorem dX0_place_9 : decode cX0_place 9 = .ok (.iconst 0, 1) := by decide +kernel
theorem dX0_place_10 : decode cX0_place 10 = .ok (.istore 6, 2) := by decide +kernel
theorem dX0_place_12 : decode cX0_place 12 = .ok (.iload 6, 2) := by decide +kernel
theorem dX0_place_14 : decode cX0_place 14 = .ok (.bipush 24, 2) := by decide +kernel
theorem dX0_place_16 : decode cX0_place 16 = .ok (.if_icmp .ge 49, 3) := by decide +kernel
theorem dX0_place_19 : decode cX0_place 19 = .ok (.iload_n 2, 1) := by decide +kernel
theorem dX0_place_20 : decode cX0_place 20 = .ok (.iload 6, 2) := by decide +kernel
theorem dX0_place_22 : decode cX0_place 22 = .ok (.invokestatic 52, 3) := by decide +kernel
theorem dX0_place_25 : decode cX0_place 25 = .ok (.ifCond .eq 34, 3) := by decide +kernel
theorem dX0_place_28 : decode cX0_place 28 = .ok (.aload_n 0, 1) := by decide +kernel
theorem dX0_place_29 : decode cX0_place 29 = .ok (.iload 6, 2) := by decide +kernel
theorem dX0_place_31 : decode cX0_place 31 = .ok (.invokevirtual 146, 3) := by decide +kernel
theorem dX0_place_34 : decode cX0_place 34 = .ok (.lload_n 3, 1) := by decide +kernel
theorem dX0_place_35 : decode cX0_place 35 = .ok (.lcmp, 1) := by decide +kernel
theorem dX0_place_36 : decode cX0_place 36 = .ok (.ifCond .lt 20, 3) := by decide +kernel
theorem dX0_place_39 : decode cX0_place 39 = .ok (.aload_n 0, 1) := by decide +kernel
theorem dX0_place_40 : decode cX0_place 40 = .ok (.iload 6, 2) := by decide +kernel
theorem dX0_place_42 : decode cX0_place 42 = .ok (.invokevirtual 146, 3) := by decide +kernel
theorem dX0_place_45 : decode cX0_place 45 = .ok (.lload_n 3, 1) := by decide +kernel
theorem dX0_place_46 : decode cX0_place 46 = .ok (.lcmp, 1) := by decide +kernel
theorem dX0_place_47 : decode cX0_place 47 = .ok (.ifCond .ne 12, 3) := by decide +kernel
theorem dX0_place_50 : decode cX0_place 50 = .ok (.iload 6, 2) := by decide +kernel
theorem dX0_place_52 : decode cX0_place 52 = .ok (.iload_n 1, 1) := by decide +kernel
theorem dX0_place_53 : decode cX0_place 53 = .ok (.if_icmp .ge 6, 3) := by decide +kernel
theorem dX0_place_56 : decode cX0_place 56 = .ok (.iinc 5 1, 3) := by decide +kernel
theorem dX0_place_59 : decode cX0_place 59 = .ok (.iinc 6 1, 3) := by decide +kernel
theorem dX0_place_62 : decode cX0_place 62 = .ok (.goto (-50), 3) := by decide +kernel
theorem dX0_place_65 : decode cX0_place 65 = .ok (.iload 5, 2) := by decide +kernel
theorem dX0_place_67 : decode cX0_place 67 = .ok (.ireturn, 1) := by decide +kernel
theorem dX0_nearTo_0 : decode cX0_nearTo 0 = .ok (.aload_n 0, 1) := by decide +kernel
theorem dX0_nearTo_1 : decode cX0_nearTo 1 = .ok (.getfield 16, 3) := by decide +kernel
theorem dX0_nearTo_4 : decode cX0_nearTo 4 = .ok (.istore 5, 2) := by decide +kernel
theorem dX0_nearTo_6 : decode cX0_nearTo 6 = .ok (.iconst 0, 1) := by decide +kernel
theorem dX0_nearTo_7 : decode cX0_nearTo 7 = .ok (.istore 6, 2) := by decide +kernel
theorem dX0_nearTo_9 : decode cX0_nearTo 9 = .ok (.iload 6, 2) := by decide +kernel
theorem dX0_nearTo_11 : decode cX0_nearTo 11 = .ok (.bipush 24, 2) := by decide +kernel
theorem dX0_nearTo_13 : decode cX0_nearTo 13 = .ok (.if_icmp .ge 46, 3) := by decide +kernel
theorem dX0_nearTo_16 : decode cX0_nearTo 16 = .ok (.aload_n 0, 1) := by decide +kernel
theorem dX0_nearTo_17 : decode cX0_nearTo 17 = .ok (.getfield 16, 3) := by decide +kernel
theorem dX0_nearTo_20 : decode cX0_nearTo 20 = .ok (.iload 6, 2) := by decide +kernel
theorem dX0_nearTo_22 : decode cX0_nearTo 22 = .ok (.invokestatic 52, 3) := by decide +kernel
theorem dX0_nearTo_25 : decode cX0_nearTo 25 = .ok (.ifCond .eq 28, 3) := by decide +kernel
theorem dX0_nearTo_28 : decode cX0_nearTo 28 = .ok (.aload_n 0, 1) := by decide +kernel
theorem dX0_nearTo_29 : decode cX0_nearTo 29 = .ok (.iload 6, 2) := by decide +kernel
theorem dX0_nearTo_31 : decode cX0_nearTo 31 = .ok (.invokevirtual 146, 3) := by decide +kernel
theorem dX0_nearTo_34 : decode cX0_nearTo 34 = .ok (.lload_n 1, 1) := by decide +kernel
theorem dX0_nearTo_35 : decode cX0_nearTo 35 = .ok (.lsub, 1) := by decide +kernel
theorem dX0_nearTo_36 : decode cX0_nearTo 36 = .ok (.invokestatic 133, 3) := by decide +kernel
theorem dX0_nearTo_39 : decode cX0_nearTo 39 = .ok (.lload_n 3, 1) := by decide +kernel
theorem dX0_nearTo_40 : decode cX0_nearTo 40 = .ok (.lcmp, 1) := by decide +kernel
theorem dX0_nearTo_41 : decode cX0_nearTo 41 = .ok (.ifCond .le 12, 3) := by decide +kernel
theorem dX0_nearTo_44 : decode cX0_nearTo 44 = .ok (.iload 5, 2) := by decide +kernel
theorem dX0_nearTo_46 : decode cX0_nearTo 46 = .ok (.iload 6, 2) := by decide +kernel
theorem dX0_nearTo_48 : decode cX0_nearTo 48 = .ok (.invokestatic 56, 3) := by decide +kernel
theorem dX0_nearTo_51 : decode cX0_nearTo 51 = .ok (.istore 5, 2) := by decide +kernel
theorem dX0_nearTo_53 : decode cX0_nearTo 53 = .ok (.iinc 6 1, 3) := by decide +kernel
theorem dX0_nearTo_56 : decode cX0_nearTo 56 = .ok (.goto (-47), 3) := by decide +kernel
theorem dX0_nearTo_59 : decode cX0_nearTo 59 = .ok (.iload 5, 2) := by decide +kernel
theorem dX0_nearTo_61 : decode cX0_nearTo 61 = .ok (.ireturn, 1) := by decide +kernel
theorem dX0_meanMiddle_0 : decode cX0_meanMiddle 0 = .ok (.iload_n 1, 1) := by decide +kernel
theorem dX0_meanMiddle_1 : decode cX0_meanMiddle 1 = .ok (.ifCond .ne 7, 3) := by decide +kernel
theorem dX0_meanMiddle_4 : decode cX0_meanMiddle 4 = .ok (.ldc2_w 46, 3) := by decide +kernel
theorem dX0_meanMiddle_7 : decode cX0_meanMiddle 7 = .ok (.lreturn, 1) := by decide +kernel
theorem dX0_meanMiddle_8 : decode cX0_meanMiddle 8 = .ok (.lconst 0, 1) := by decide +kernel
theorem dX0_meanMiddle_9 : decode cX0_meanMiddle 9 = .ok (.lstore_n 2, 1) := by decide +kernel
theorem dX0_meanMiddle_10 : decode cX0_meanMiddle 10 = .ok (.iconst 0, 1) := by decide +kernel
theorem dX0_meanMiddle_11 : decode cX0_meanMiddle 11 = .ok (.istore 4, 2) := by decide +kernel
theorem dX0_meanMiddle_13 : decode cX0_meanMiddle 13 = .ok (.iload 4, 2) := by decide +kernel
theorem dX0_meanMiddle_15 : decode cX0_meanMiddle 15 = .ok (.bipush 24, 2) := by decide +kernel
theorem dX0_meanMiddle_17 : decode cX0_meanMiddle 17 = .ok (.if_icmp .ge 27, 3) := by decide +kernel
theorem dX0_meanMiddle_20 : decode cX0_meanMiddle 20 = .ok (.iload_n 1, 1) := by decide +kernel
theorem dX0_meanMiddle_21 : decode cX0_meanMiddle 21 = .ok (.iload 4, 2) := by decide +kernel
theorem dX0_meanMiddle_23 : decode cX0_meanMiddle 23 = .ok (.invokestatic 52, 3) := by decide +kernel
theorem dX0_meanMiddle_26 : decode cX0_meanMiddle 26 = .ok (.ifCond .eq 12, 3) := by decide +kernel
theorem dX0_meanMiddle_29 : decode cX0_meanMiddle 29 = .ok (.lload_n 2, 1) := by decide +kernel
theorem dX0_meanMiddle_30 : decode cX0_meanMiddle 30 = .ok (.aload_n 0, 1) := by decide +kernel
theorem dX0_meanMiddle_31 : decode cX0_meanMiddle 31 = .ok (.iload 4, 2) := by decide +kernel
theorem dX0_meanMiddle_33 : decode cX0_meanMiddle 33 = .ok (.invokevirtual 146, 3) := by decide +kernel
theorem dX0_meanMiddle_36 : decode cX0_meanMiddle 36 = .ok (.ladd, 1) := by decide +kernel
theorem dX0_meanMiddle_37 : decode cX0_meanMiddle 37 = .ok (.lstore_n 2, 1) := by decide +kernel
theorem dX0_meanMiddle_38 : decode cX0_meanMiddle 38 = .ok (.iinc 4 1, 3) := by decide +kernel
theorem dX0_meanMiddle_41 : decode cX0_meanMiddle 41 = .ok (.goto (-28), 3) := by decide +kernel
theorem dX0_meanMiddle_44 : decode cX0_meanMiddle 44 = .ok (.lload_n 2, 1) := by decide +kernel
theorem dX0_meanMiddle_45 : decode cX0_meanMiddle 45 = .ok (.iload_n 1, 1) := by decide +kernel
theorem dX0_meanMiddle_46 : decode cX0_meanMiddle 46 = .ok (.invokestatic 60, 3) := by decide +kernel
theorem dX0_meanMiddle_49 : decode cX0_meanMiddle 49 = .ok (.i2l, 1) := by decide +kernel
theorem dX0_meanMiddle_50 : decode cX0_meanMiddle 50 = .ok (.invokestatic 140, 3) := by decide +kernel
theorem dX0_meanMiddle_53 : decode cX0_meanMiddle 53 = .ok (.lreturn, 1) := by decide +kernel
theorem dX0_leftOf_0 : decode cX0_leftOf 0 = .ok (.aload_n 0, 1) := by decide +kernel
theorem dX0_leftOf_1 : decode cX0_leftOf 1 = .ok (.getfield 16, 3) := by decide +kernel
theorem dX0_leftOf_4 : decode cX0_leftOf 4 = .ok (.istore_n 2, 1) := by decide +kernel
theorem dX0_leftOf_5 : decode cX0_leftOf 5 = .ok (.iconst 0, 1) := by decide +kernel
theorem dX0_leftOf_6 : decode cX0_leftOf 6 = .ok (.istore_n 3, 1) := by decide +kernel
theorem dX0_leftOf_7 : decode cX0_leftOf 7 = .ok (.iload_n 3, 1) := by decide +kernel
theorem dX0_leftOf_8 : decode cX0_leftOf 8 = .ok (.bipush 24, 2) := by decide +kernel
theorem dX0_leftOf_10 : decode cX0_leftOf 10 = .ok (.if_icmp .ge 27, 3) := by decide +kernel
theorem dX0_leftOf_13 : decode cX0_leftOf 13 = .ok (.iload_n 2, 1) := by decide +kernel
theorem dX0_leftOf_14 : decode cX0_leftOf 14 = .ok (.invokestatic 60, 3) := by decide +kernel
theorem dX0_leftOf_17 : decode cX0_leftOf 17 = .ok (.iload_n 1, 1) := by decide +kernel
theorem dX0_leftOf_18 : decode cX0_leftOf 18 = .ok (.if_icmp .le 19, 3) := by decide +kernel
theorem dX0_leftOf_21 : decode cX0_leftOf 21 = .ok (.iload_n 2, 1) := by decide +kernel
theorem dX0_leftOf_22 : decode cX0_leftOf 22 = .ok (.aload_n 0, 1) := by decide +kernel
theorem dX0_leftOf_23 : decode cX0_leftOf 23 = .ok (.iload_n 2, 1) := by decide +kernel
theorem dX0_leftOf_24 : decode cX0_leftOf 24 = .ok (.invokevirtual 149, 3) := by decide +kernel
theorem dX0_leftOf_27 : decode cX0_leftOf 27 = .ok (.invokestatic 56, 3) := by decide +kernel
theorem dX0_leftOf_30 : decode cX0_leftOf 30 = .ok (.istore_n 2, 1) := by decide +kernel
theorem dX0_leftOf_31 : decode cX0_leftOf 31 = .ok (.iinc 3 1, 3) := by decide +kernel
theorem dX0_leftOf_34 : decode cX0_leftOf 34 = .ok (.goto (-27), 3) := by decide +kernel
theorem dX0_leftOf_37 : decode cX0_leftOf 37 = .ok (.iload_n 2, 1) := by decide +kernel
theorem dX0_leftOf_38 : decode cX0_leftOf 38 = .ok (.ireturn, 1) := by decide +kernel
theorem dX0_farthest_0 : decode cX0_farthest 0 = .ok (.aload_n 0, 1) := by decide +kernel
theorem dX0_farthest_1 : decode cX0_farthest 1 = .ok (.iload_n 1, 1) := by decide +kernel
theorem dX0_farthest_2 : decode cX0_farthest 2 = .ok (.invokevirtual 111, 3) := by decide +kernel
theorem dX0_farthest_5 : decode cX0_farthest 5 = .ok (.lstore_n 2, 1) := by decide +kernel
theorem dX0_farthest_6 : decode cX0_farthest 6 = .ok (.lconst 0, 1) := by decide +kernel
theorem dX0_farthest_7 : decode cX0_farthest 7 = .ok (.lstore 4, 2) := by decide +kernel
theorem dX0_farthest_9 : decode cX0_farthest 9 = .ok (.iconst 0, 1) := by decide +kernel
theorem dX0_farthest_10 : decode cX0_farthest 10 = .ok (.istore 6, 2) := by decide +kernel
theorem dX0_farthest_12 : decode cX0_farthest 12 = .ok (.iconst 0, 1) := by decide +kernel
theorem dX0_farthest_13 : decode cX0_farthest 13 = .ok (.istore 7, 2) := by decide +kernel
theorem dX0_farthest_15 : decode cX0_farthest 15 = .ok (.iload 7, 2) := by decide +kernel
theorem dX0_farthest_17 : decode cX0_farthest 17 = .ok (.bipush 24, 2) := by decide +kernel
theorem dX0_farthest_19 : decode cX0_farthest 19 = .ok (.if_icmp .ge 52, 3) := by decide +kernel
theorem dX0_farthest_22 : decode cX0_farthest 22 = .ok (.iload_n 1, 1) := by decide +kernel
theorem dX0_farthest_23 : decode cX0_farthest 23 = .ok (.iload 7, 2) := by decide +kernel
theorem dX0_farthest_25 : decode cX0_farthest 25 = .ok (.invokestatic 52, 3) := by decide +kernel
theorem dX0_farthest_28 : decode cX0_farthest 28 = .ok (.ifCond .eq 37, 3) := by decide +kernel
theorem dX0_farthest_31 : decode cX0_farthest 31 = .ok (.aload_n 0, 1) := by decide +kernel
theorem dX0_farthest_32 : decode cX0_farthest 32 = .ok (.iload 7, 2) := by decide +kernel
theorem dX0_farthest_34 : decode cX0_farthest 34 = .ok (.invokevirtual 146, 3) := by decide +kernel
theorem dX0_farthest_37 : decode cX0_farthest 37 = .ok (.lload_n 2, 1) := by decide +kernel
theorem dX0_farthest_38 : decode cX0_farthest 38 = .ok (.lsub, 1) := by decide +kernel
theorem dX0_farthest_39 : decode cX0_farthest 39 = .ok (.invokestatic 133, 3) := by decide +kernel
theorem dX0_farthest_42 : decode cX0_farthest 42 = .ok (.lload 4, 2) := by decide +kernel
theorem dX0_farthest_44 : decode cX0_farthest 44 = .ok (.lcmp, 1) := by decide +kernel
theorem dX0_farthest_45 : decode cX0_farthest 45 = .ok (.ifCond .lt 20, 3) := by decide +kernel
theorem dX0_farthest_48 : decode cX0_farthest 48 = .ok (.aload_n 0, 1) := by decide +kernel
theorem dX0_farthest_49 : decode cX0_farthest 49 = .ok (.iload 7, 2) := by decide +kernel
theorem dX0_farthest_51 : decode cX0_farthest 51 = .ok (.invokevirtual 146, 3) := by decide +kernel
theorem dX0_farthest_54 : decode cX0_farthest 54 = .ok (.lload_n 2, 1) := by decide +kernel
theorem dX0_farthest_55 : decode cX0_farthest 55 = .ok (.lsub, 1) := by decide +kernel
theorem dX0_farthest_56 : decode cX0_farthest 56 = .ok (.invokestatic 133, 3) := by decide +kernel
theorem dX0_farthest_59 : decode cX0_farthest 59 = .ok (.lstore 4, 2) := by decide +kernel
theorem dX0_farthest_61 : decode cX0_farthest 61 = .ok (.iload 7, 2) := by decide +kernel
theorem dX0_farthest_63 : decode cX0_farthest 63 = .ok (.istore 6, 2) := by decide +kernel
theorem dX0_farthest_65 : decode cX0_farthest 65 = .ok (.iinc 7 1, 3) := by decide +kernel
theorem dX0_farthest_68 : decode cX0_farthest 68 = .ok (.goto (-53), 3) := by decide +kernel
theorem dX0_farthest_71 : decode cX0_farthest 71 = .ok (.iload 6, 2) := by decide +kernel
theorem dX0_farthest_73 : decode cX0_farthest 73 = .ok (.ireturn, 1) := by decide +kernel
theorem dJ6_bitCount_0f7a4_0 : decode cJ6_bitCount_0f7a4 0 = .ok (.iload_n 0, 1) := by decide +kernel
theorem dJ6_bitCount_0f7a4_1 : decode cJ6_bitCount_0f7a4 1 = .ok (.iload_n 0, 1) := by decide +kernel
theorem dJ6_bitCount_0f7a4_2 : decode cJ6_bitCount_0f7a4 2 = .ok (.iconst 1, 1) := by decide +kernel
theorem dJ6_bitCount_0f7a4_3 : decode cJ6_bitCount_0f7a4 3 = .ok (.iushr, 1) := by decide +kernel
theorem dJ6_bitCount_0f7a4_4 : decode cJ6_bitCount_0f7a4 4 = .ok (.ldc_w 265, 3) := by decide +kernel
theorem dJ6_bitCount_0f7a4_7 : decode cJ6_bitCount_0f7a4 7 = .ok (.iand, 1) := by decide +kernel
theorem dJ6_bitCount_0f7a4_8 : decode cJ6_bitCount_0f7a4 8 = .ok (.isub, 1) := by decide +kernel
theorem dJ6_bitCount_0f7a4_9 : decode cJ6_bitCount_0f7a4 9 = .ok (.istore_n 0, 1) := by decide +kernel
theorem dJ6_bitCount_0f7a4_10 : decode cJ6_bitCount_0f7a4 10 = .ok (.iload_n 0, 1) := by decide +kernel
theorem dJ6_bitCount_0f7a4_11 : decode cJ6_bitCount_0f7a4 11 = .ok (.ldc_w 266, 3) := by decide +kernel
theorem dJ6_bitCount_0f7a4_14 : decode cJ6_bitCount_0f7a4 14 = .ok (.iand, 1) := by decide +kernel
theorem dJ6_bitCount_0f7a4_15 : decode cJ6_bitCount_0f7a4 15 = .ok (.iload_n 0, 1) := by decide +kernel
theorem dJ6_bitCount_0f7a4_16 : decode cJ6_bitCount_0f7a4 16 = .ok (.iconst 2, 1) := by decide +kernel
theorem dJ6_bitCount_0f7a4_17 : decode cJ6_bitCount_0f7a4 17 = .ok (.iushr, 1) := by decide +kernel
theorem dJ6_bitCount_0f7a4_18 : decode cJ6_bitCount_0f7a4 18 = .ok (.ldc_w 266, 3) := by decide +kernel
theorem dJ6_bitCount_0f7a4_21 : decode cJ6_bitCount_0f7a4 21 = .ok (.iand, 1) := by decide +kernel
theorem dJ6_bitCount_0f7a4_22 : decode cJ6_bitCount_0f7a4 22 = .ok (.iadd, 1) := by decide +kernel
theorem dJ6_bitCount_0f7a4_23 : decode cJ6_bitCount_0f7a4 23 = .ok (.istore_n 0, 1) := by decide +kernel
theorem dJ6_bitCount_0f7a4_24 : decode cJ6_bitCount_0f7a4 24 = .ok (.iload_n 0, 1) := by decide +kernel
theorem dJ6_bitCount_0f7a4_25 : decode cJ6_bitCount_0f7a4 25 = .ok (.iload_n 0, 1) := by decide +kernel
theorem dJ6_bitCount_0f7a4_26 : decode cJ6_bitCount_0f7a4 26 = .ok (.iconst 4, 1) := by decide +kernel
theorem dJ6_bitCount_0f7a4_27 : decode cJ6_bitCount_0f7a4 27 = .ok (.iushr, 1) := by decide +kernel
theorem dJ6_bitCount_0f7a4_28 : decode cJ6_bitCount_0f7a4 28 = .ok (.iadd, 1) := by decide +kernel
theorem dJ6_bitCount_0f7a4_29 : decode cJ6_bitCount_0f7a4 29 = .ok (.ldc_w 267, 3) := by decide +kernel
theorem dJ6_bitCount_0f7a4_32 : decode cJ6_bitCount_0f7a4 32 = .ok (.iand, 1) := by decide +kernel
theorem dJ6_bitCount_0f7a4_33 : decode cJ6_bitCount_0f7a4 33 = .ok (.istore_n 0, 1) := by decide +kernel
theorem dJ6_bitCount_0f7a4_34 : decode cJ6_bitCount_0f7a4 34 = .ok (.iload_n 0, 1) := by decide +kernel
theorem dJ6_bitCount_0f7a4_35 : decode cJ6_bitCount_0f7a4 35 = .ok (.iload_n 0, 1) := by decide +kernel
theorem dJ6_bitCount_0f7a4_36 : decode cJ6_bitCount_0f7a4 36 = .ok (.bipush 8, 2) := by decide +kernel
theorem dJ6_bitCount_0f7a4_38 : decode cJ6_bitCount_0f7a4 38 = .ok (.iushr, 1) := by decide +kernel
theorem dJ6_bitCount_0f7a4_39 : decode cJ6_bitCount_0f7a4 39 = .ok (.iadd, 1) := by decide +kernel
theorem dJ6_bitCount_0f7a4_40 : decode cJ6_bitCount_0f7a4 40 = .ok (.istore_n 0, 1) := by decide +kernel
theorem dJ6_bitCount_0f7a4_41 : decode cJ6_bitCount_0f7a4 41 = .ok (.iload_n 0, 1) := by decide +kernel
theorem dJ6_bitCount_0f7a4_42 : decode cJ6_bitCount_0f7a4 42 = .ok (.iload_n 0, 1) := by decide +kernel
theorem dJ6_bitCount_0f7a4_43 : decode cJ6_bitCount_0f7a4 43 = .ok (.bipush 16, 2) := by decide +kernel
theorem dJ6_bitCount_0f7a4_45 : decode cJ6_bitCount_0f7a4 45 = .ok (.iushr, 1) := by decide +kernel
theorem dJ6_bitCount_0f7a4_46 : decode cJ6_bitCount_0f7a4 46 = .ok (.iadd, 1) := by decide +kernel
theorem dJ6_bitCount_0f7a4_47 : decode cJ6_bitCount_0f7a4 47 = .ok (.istore_n 0, 1) := by decide +kernel
theorem dJ6_bitCount_0f7a4_48 : decode cJ6_bitCount_0f7a4 48 = .ok (.iload_n 0, 1) := by decide +kernel
theorem dJ6_bitCount_0f7a4_49 : decode cJ6_bitCount_0f7a4 49 = .ok (.bipush 63, 2) := by decide +kernel
theorem dJ6_bitCount_0f7a4_51 : decode cJ6_bitCount_0f7a4 51 = .ok (.iand, 1) := by decide +kernel
theorem dJ6_bitCount_0f7a4_52 : decode cJ6_bitCount_0f7a4 52 = .ok (.ireturn, 1) := by decide +kernel
theorem dJ9_floorDiv_f86c9_0 : decode cJ9_floorDiv_f86c9 0 = .ok (.lload_n 0, 1) := by decide +kernel
theorem dJ9_floorDiv_f86c9_1 : decode cJ9_floorDiv_f86c9 1 = .ok (.lload_n 2, 1) := by decide +kernel
theorem dJ9_floorDiv_f86c9_2 : decode cJ9_floorDiv_f86c9 2 = .ok (.ldiv, 1) := by decide +kernel
theorem dJ9_floorDiv_f86c9_3 : decode cJ9_floorDiv_f86c9 3 = .ok (.lstore 4, 2) := by decide +kernel
theorem dJ9_floorDiv_f86c9_5 : decode cJ9_floorDiv_f86c9 5 = .ok (.lload_n 0, 1) := by decide +kernel
theorem dJ9_floorDiv_f86c9_6 : decode cJ9_floorDiv_f86c9 6 = .ok (.lload_n 2, 1) := by decide +kernel
theorem dJ9_floorDiv_f86c9_7 : decode cJ9_floorDiv_f86c9 7 = .ok (.lxor, 1) := by decide +kernel
theorem dJ9_floorDiv_f86c9_8 : decode cJ9_floorDiv_f86c9 8 = .ok (.lconst 0, 1) := by decide +kernel
theorem dJ9_floorDiv_f86c9_9 : decode cJ9_floorDiv_f86c9 9 = .ok (.lcmp, 1) := by decide +kernel
theorem dJ9_floorDiv_f86c9_10 : decode cJ9_floorDiv_f86c9 10 = .ok (.ifCond .ge 17, 3) := by decide +kernel
theorem dJ9_floorDiv_f86c9_13 : decode cJ9_floorDiv_f86c9 13 = .ok (.lload 4, 2) := by decide +kernel
theorem dJ9_floorDiv_f86c9_15 : decode cJ9_floorDiv_f86c9 15 = .ok (.lload_n 2, 1) := by decide +kernel
theorem dJ9_floorDiv_f86c9_16 : decode cJ9_floorDiv_f86c9 16 = .ok (.lmul, 1) := by decide +kernel
theorem dJ9_floorDiv_f86c9_17 : decode cJ9_floorDiv_f86c9 17 = .ok (.lload_n 0, 1) := by decide +kernel
theorem dJ9_floorDiv_f86c9_18 : decode cJ9_floorDiv_f86c9 18 = .ok (.lcmp, 1) := by decide +kernel
theorem dJ9_floorDiv_f86c9_19 : decode cJ9_floorDiv_f86c9 19 = .ok (.ifCond .eq 8, 3) := by decide +kernel
theorem dJ9_floorDiv_f86c9_22 : decode cJ9_floorDiv_f86c9 22 = .ok (.lload 4, 2) := by decide +kernel
theorem dJ9_floorDiv_f86c9_24 : decode cJ9_floorDiv_f86c9 24 = .ok (.lconst 1, 1) := by decide +kernel
theorem dJ9_floorDiv_f86c9_25 : decode cJ9_floorDiv_f86c9 25 = .ok (.lsub, 1) := by decide +kernel
theorem dJ9_floorDiv_f86c9_26 : decode cJ9_floorDiv_f86c9 26 = .ok (.lreturn, 1) := by decide +kernel
theorem dJ9_floorDiv_f86c9_27 : decode cJ9_floorDiv_f86c9 27 = .ok (.lload 4, 2) := by decide +kernel
theorem dJ9_floorDiv_f86c9_29 : decode cJ9_floorDiv_f86c9 29 = .ok (.lreturn, 1) := by decide +kernel
theorem dJ9_abs_067f4_0 : decode cJ9_abs_067f4 0 = .ok (.lload_n 0, 1) := by decide +kernel
theorem dJ9_abs_067f4_1 : decode cJ9_abs_067f4 1 = .ok (.lconst 0, 1) := by decide +kernel
theorem dJ9_abs_067f4_2 : decode cJ9_abs_067f4 2 = .ok (.lcmp, 1) := by decide +kernel
theorem dJ9_abs_067f4_3 : decode cJ9_abs_067f4 3 = .ok (.ifCond .ge 8, 3) := by decide +kernel
theorem dJ9_abs_067f4_6 : decode cJ9_abs_067f4 6 = .ok (.lload_n 0, 1) := by decide +kernel
theorem dJ9_abs_067f4_7 : decode cJ9_abs_067f4 7 = .ok (.lneg, 1) := by decide +kernel
theorem dJ9_abs_067f4_8 : decode cJ9_abs_067f4 8 = .ok (.goto 4, 3) := by decide +kernel
theorem dJ9_abs_067f4_11 : decode cJ9_abs_067f4 11 = .ok (.lload_n 0, 1) := by decide +kernel
theorem dJ9_abs_067f4_12 : decode cJ9_abs_067f4 12 = .ok (.lreturn, 1) := by decide +kernel
theorem dJ9_max_7cf53_0 : decode cJ9_max_7cf53 0 = .ok (.iload_n 0, 1) := by decide +kernel
theorem dJ9_max_7cf53_1 : decode cJ9_max_7cf53 1 = .ok (.iload_n 1, 1) := by decide +kernel
theorem dJ9_max_7cf53_2 : decode cJ9_max_7cf53 2 = .ok (.if_icmp .lt 7, 3) := by decide +kernel
theorem dJ9_max_7cf53_5 : decode cJ9_max_7cf53 5 = .ok (.iload_n 0, 1) := by decide +kernel
theorem dJ9_max_7cf53_6 : decode cJ9_max_7cf53 6 = .ok (.goto 4, 3) := by decide +kernel
theorem dJ9_max_7cf53_9 : decode cJ9_max_7cf53 9 = .ok (.iload_n 1, 1) := by decide +kernel
theorem dJ9_max_7cf53_10 : decode cJ9_max_7cf53 10 = .ok (.ireturn, 1) := by decide +kernel
theorem dJ9_max_f86c9_0 : decode cJ9_max_f86c9 0 = .ok (.lload_n 0, 1) := by decide +kernel
theorem dJ9_max_f86c9_1 : decode cJ9_max_f86c9 1 = .ok (.lload_n 2, 1) := by decide +kernel
theorem dJ9_max_f86c9_2 : decode cJ9_max_f86c9 2 = .ok (.lcmp, 1) := by decide +kernel
theorem dJ9_max_f86c9_3 : decode cJ9_max_f86c9 3 = .ok (.ifCond .lt 7, 3) := by decide +kernel
theorem dJ9_max_f86c9_6 : decode cJ9_max_f86c9 6 = .ok (.lload_n 0, 1) := by decide +kernel
theorem dJ9_max_f86c9_7 : decode cJ9_max_f86c9 7 = .ok (.goto 4, 3) := by decide +kernel
theorem dJ9_max_f86c9_10 : decode cJ9_max_f86c9 10 = .ok (.lload_n 2, 1) := by decide +kernel
theorem dJ9_max_f86c9_11 : decode cJ9_max_f86c9 11 = .ok (.lreturn, 1) := by decide +kernel
theorem dJ9_min_f86c9_0 : decode cJ9_min_f86c9 0 = .ok (.lload_n 0, 1) := by decide +kernel
theorem dJ9_min_f86c9_1 : decode cJ9_min_f86c9 1 = .ok (.lload_n 2, 1) := by decide +kernel
theorem dJ9_min_f86c9_2 : decode cJ9_min_f86c9 2 = .ok (.lcmp, 1) := by decide +kernel
theorem dJ9_min_f86c9_3 : decode cJ9_min_f86c9 3 = .ok (.ifCond .gt 7, 3) := by decide +kernel
theorem dJ9_min_f86c9_6 : decode cJ9_min_f86c9 6 = .ok (.lload_n 0, 1) := by decide +kernel
theorem dJ9_min_f86c9_7 : decode cJ9_min_f86c9 7 = .ok (.goto 4, 3) := by decide +kernel
theorem dJ9_min_f86c9_10 : decode cJ9_min_f86c9 10 = .ok (.lload_n 2, 1) := by decide +kernel
theorem dJ9_min_f86c9_11 : decode cJ9_min_f86c9 11 = .ok (.lreturn, 1) := by decide +kernel
end
section
theorem dX1_init_0 : decode cX1_init 0 = .ok (.aload_n 0, 1) := by decide +kernel
theorem dX1_init_1 : decode cX1_init 1 = .ok (.invokespecial 1, 3) := by decide +kernel
theorem dX1_init_4 : decode cX1_init 4 = .ok (.aload_n 0, 1) := by decide +kernel
theorem dX1_init_5 : decode cX1_init 5 = .ok (.bipush 24, 2) := by decide +kernel
theorem dX1_init_7 : decode cX1_init 7 = .ok (.newarray .boolean, 2) := by decide +kernel
theorem dX1_init_9 : decode cX1_init 9 = .ok (.putfield 7, 3) := by decide +kernel
theorem dX1_init_12 : decode cX1_init 12 = .ok (.aload_n 0, 1) := by decide +kernel
theorem dX1_init_13 : decode cX1_init 13 = .ok (.bipush 24, 2) := by decide +kernel
theorem dX1_init_15 : decode cX1_init 15 = .ok (.newarray .long, 2) := by decide +kernel
theorem dX1_init_17 : decode cX1_init 17 = .ok (.putfield 13, 3) := by decide +kernel
theorem dX1_init_20 : decode cX1_init 20 = .ok (.aload_n 0, 1) := by decide +kernel
theorem dX1_init_21 : decode cX1_init 21 = .ok (.bipush 24, 2) := by decide +kernel
theorem dX1_init_23 : decode cX1_init 23 = .ok (.newarray .long, 2) := by decide +kernel
theorem dX1_init_25 : decode cX1_init 25 = .ok (.putfield 17, 3) := by decide +kernel
theorem dX1_init_28 : decode cX1_init 28 = .ok (.return_, 1) := by decide +kernel
theorem dX1_isSource_0 : decode cX1_isSource 0 = .ok (.iload_n 0, 1) := by decide +kernel
theorem dX1_isSource_1 : decode cX1_isSource 1 = .ok (.ifCond .lt 13, 3) := by decide +kernel
theorem dX1_isSource_4 : decode cX1_isSource 4 = .ok (.iload_n 0, 1) := by decide +kernel
theorem dX1_isSource_5 : decode cX1_isSource 5 = .ok (.bipush 24, 2) := by decide +kernel
theorem dX1_isSource_7 : decode cX1_isSource 7 = .ok (.if_icmp .ge 7, 3) := by decide +kernel
theorem dX1_isSource_10 : decode cX1_isSource 10 = .ok (.iconst 1, 1) := by decide +kernel
theorem dX1_isSource_11 : decode cX1_isSource 11 = .ok (.goto 4, 3) := by decide +kernel
theorem dX1_isSource_14 : decode cX1_isSource 14 = .ok (.iconst 0, 1) := by decide +kernel
theorem dX1_isSource_15 : decode cX1_isSource 15 = .ok (.ireturn, 1) := by decide +kernel
theorem dX1_half_0 : decode cX1_half 0 = .ok (.lload_n 0, 1) := by decide +kernel
theorem dX1_half_1 : decode cX1_half 1 = .ok (.iconst 1, 1) := by decide +kernel
theorem dX1_half_2 : decode cX1_half 2 = .ok (.lshr, 1) := by decide +kernel
theorem dX1_half_3 : decode cX1_half 3 = .ok (.lreturn, 1) := by decide +kernel
theorem dX1_over_0 : decode cX1_over 0 = .ok (.lload_n 0, 1) := by decide +kernel
theorem dX1_over_1 : decode cX1_over 1 = .ok (.lload_n 2, 1) := by decide +kernel
theorem dX1_over_2 : decode cX1_over 2 = .ok (.ldiv, 1) := by decide +kernel
theorem dX1_over_3 : decode cX1_over 3 = .ok (.lstore 4, 2) := by decide +kernel
theorem dX1_over_5 : decode cX1_over 5 = .ok (.lload 4, 2) := by decide +kernel
theorem dX1_over_7 : decode cX1_over 7 = .ok (.lload_n 2, 1) := by decide +kernel
theorem dX1_over_8 : decode cX1_over 8 = .ok (.lmul, 1) := by decide +kernel
theorem dX1_over_9 : decode cX1_over 9 = .ok (.lload_n 0, 1) := by decide +kernel
theorem dX1_over_10 : decode cX1_over 10 = .ok (.lcmp, 1) := by decide +kernel
theorem dX1_over_11 : decode cX1_over 11 = .ok (.ifCond .le 10, 3) := by decide +kernel
theorem dX1_over_14 : decode cX1_over 14 = .ok (.lload 4, 2) := by decide +kernel
theorem dX1_over_16 : decode cX1_over 16 = .ok (.lconst 1, 1) := by decide +kernel
theorem dX1_over_17 : decode cX1_over 17 = .ok (.lsub, 1) := by decide +kernel
theorem dX1_over_18 : decode cX1_over 18 = .ok (.goto 5, 3) := by decide +kernel
theorem dX1_over_21 : decode cX1_over 21 = .ok (.lload 4, 2) := by decide +kernel
theorem dX1_over_23 : decode cX1_over 23 = .ok (.lreturn, 1) := by decide +kernel
theorem dX1_size_0 : decode cX1_size 0 = .ok (.lload_n 0, 1) := by decide +kernel
theorem dX1_size_1 : decode cX1_size 1 = .ok (.lconst 0, 1) := by decide +kernel
theorem dX1_size_2 : decode cX1_size 2 = .ok (.lcmp, 1) := by decide +kernel
theorem dX1_size_3 : decode cX1_size 3 = .ok (.ifCond .ge 8, 3) := by decide +kernel
theorem dX1_size_6 : decode cX1_size 6 = .ok (.lload_n 0, 1) := by decide +kernel
theorem dX1_size_7 : decode cX1_size 7 = .ok (.lneg, 1) := by decide +kernel
theorem dX1_size_8 : decode cX1_size 8 = .ok (.goto 4, 3) := by decide +kernel
theorem dX1_size_11 : decode cX1_size 11 = .ok (.lload_n 0, 1) := by decide +kernel
theorem dX1_size_12 : decode cX1_size 12 = .ok (.lreturn, 1) := by decide +kernel
theorem dX1_interval_0 : decode cX1_interval 0 = .ok (.iload_n 1, 1) := by decide +kernel
theorem dX1_interval_1 : decode cX1_interval 1 = .ok (.invokestatic 20, 3) := by decide +kernel
theorem dX1_interval_4 : decode cX1_interval 4 = .ok (.ifCond .eq 27, 3) := by decide +kernel
theorem dX1_interval_7 : decode cX1_interval 7 = .ok (.lload_n 2, 1) := by decide +kernel
theorem dX1_interval_8 : decode cX1_interval 8 = .ok (.ldc2_w 24, 3) := by decide +kernel
theorem dX1_interval_11 : decode cX1_interval 11 = .ok (.lcmp, 1) := by decide +kernel
theorem dX1_interval_12 : decode cX1_interval 12 = .ok (.ifCond .lt 19, 3) := by decide +kernel
theorem dX1_interval_15 : decode cX1_interval 15 = .ok (.lload_n 2, 1) := by decide +kernel
theorem dX1_interval_16 : decode cX1_interval 16 = .ok (.lload 4, 2) := by decide +kernel
theorem dX1_interval_18 : decode cX1_interval 18 = .ok (.lcmp, 1) := by decide +kernel
theorem dX1_interval_19 : decode cX1_interval 19 = .ok (.ifCond .gt 12, 3) := by decide +kernel
theorem dX1_interval_22 : decode cX1_interval 22 = .ok (.lload 4, 2) := by decide +kernel
theorem dX1_interval_24 : decode cX1_interval 24 = .ok (.ldc2_w 26, 3) := by decide +kernel
theorem dX1_interval_27 : decode cX1_interval 27 = .ok (.lcmp, 1) := by decide +kernel
theorem dX1_interval_28 : decode cX1_interval 28 = .ok (.ifCond .le 5, 3) := by decide +kernel
theorem dX1_interval_31 : decode cX1_interval 31 = .ok (.iconst 0, 1) := by decide +kernel
theorem dX1_interval_32 : decode cX1_interval 32 = .ok (.ireturn, 1) := by decide +kernel
theorem dX1_interval_33 : decode cX1_interval 33 = .ok (.aload_n 0, 1) := by decide +kernel
theorem dX1_interval_34 : decode cX1_interval 34 = .ok (.getfield 7, 3) := by decide +kernel
theorem dX1_interval_37 : decode cX1_interval 37 = .ok (.iload_n 1, 1) := by decide +kernel
theorem dX1_interval_38 : decode cX1_interval 38 = .ok (.iconst 1, 1) := by decide +kernel
theorem dX1_interval_39 : decode cX1_interval 39 = .ok (.bastore, 1) := by decide +kernel
theorem dX1_interval_40 : decode cX1_interval 40 = .ok (.aload_n 0, 1) := by decide +kernel
theorem dX1_interval_41 : decode cX1_interval 41 = .ok (.getfield 13, 3) := by decide +kernel
theorem dX1_interval_44 : decode cX1_interval 44 = .ok (.iload_n 1, 1) := by decide +kernel
theorem dX1_interval_45 : decode cX1_interval 45 = .ok (.lload_n 2, 1) := by decide +kernel
theorem dX1_interval_46 : decode cX1_interval 46 = .ok (.lastore, 1) := by decide +kernel
theorem dX1_interval_47 : decode cX1_interval 47 = .ok (.aload_n 0, 1) := by decide +kernel
theorem dX1_interval_48 : decode cX1_interval 48 = .ok (.getfield 17, 3) := by decide +kernel
theorem dX1_interval_51 : decode cX1_interval 51 = .ok (.iload_n 1, 1) := by decide +kernel
theorem dX1_interval_52 : decode cX1_interval 52 = .ok (.lload 4, 2) := by decide +kernel
theorem dX1_interval_54 : decode cX1_interval 54 = .ok (.lastore, 1) := by decide +kernel
theorem dX1_interval_55 : decode cX1_interval 55 = .ok (.iconst 1, 1) := by decide +kernel
theorem dX1_interval_56 : decode cX1_interval 56 = .ok (.ireturn, 1) := by decide +kernel
theorem dX1_exchange_0 : decode cX1_exchange 0 = .ok (.iload_n 1, 1) := by decide +kernel
theorem dX1_exchange_1 : decode cX1_exchange 1 = .ok (.invokestatic 20, 3) := by decide +kernel
theorem dX1_exchange_4 : decode cX1_exchange 4 = .ok (.ifCond .eq 41, 3) := by decide +kernel
theorem dX1_exchange_7 : decode cX1_exchange 7 = .ok (.lload_n 2, 1) := by decide +kernel
theorem dX1_exchange_8 : decode cX1_exchange 8 = .ok (.lconst 0, 1) := by decide +kernel
theorem dX1_exchange_9 : decode cX1_exchange 9 = .ok (.lcmp, 1) := by decide +kernel
theorem dX1_exchange_10 : decode cX1_exchange 10 = .ok (.ifCond .lt 35, 3) := by decide +kernel
theorem dX1_exchange_13 : decode cX1_exchange 13 = .ok (.lload_n 2, 1) := by decide +kernel
theorem dX1_exchange_14 : decode cX1_exchange 14 = .ok (.lload 6, 2) := by decide +kernel
theorem dX1_exchange_16 : decode cX1_exchange 16 = .ok (.lcmp, 1) := by decide +kernel
theorem dX1_exchange_17 : decode cX1_exchange 17 = .ok (.ifCond .gt 28, 3) := by decide +kernel
theorem dX1_exchange_20 : decode cX1_exchange 20 = .ok (.lload 6, 2) := by decide +kernel
theorem dX1_exchange_22 : decode cX1_exchange 22 = .ok (.ldc2_w 28, 3) := by decide +kernel
theorem dX1_exchange_25 : decode cX1_exchange 25 = .ok (.lcmp, 1) := by decide +kernel
theorem dX1_exchange_26 : decode cX1_exchange 26 = .ok (.ifCond .gt 19, 3) := by decide +kernel
theorem dX1_exchange_29 : decode cX1_exchange 29 = .ok (.lload 4, 2) := by decide +kernel
theorem dX1_exchange_31 : decode cX1_exchange 31 = .ok (.lconst 0, 1) := by decide +kernel
theorem dX1_exchange_32 : decode cX1_exchange 32 = .ok (.lcmp, 1) := by decide +kernel
theorem dX1_exchange_33 : decode cX1_exchange 33 = .ok (.ifCond .lt 12, 3) := by decide +kernel
theorem dX1_exchange_36 : decode cX1_exchange 36 = .ok (.lload 4, 2) := by decide +kernel
theorem dX1_exchange_38 : decode cX1_exchange 38 = .ok (.ldc2_w 28, 3) := by decide +kernel
theorem dX1_exchange_41 : decode cX1_exchange 41 = .ok (.lcmp, 1) := by decide +kernel
theorem dX1_exchange_42 : decode cX1_exchange 42 = .ok (.ifCond .le 7, 3) := by decide +kernel
theorem dX1_exchange_45 : decode cX1_exchange 45 = .ok (.ldc2_w 30, 3) := by decide +kernel
theorem dX1_exchange_48 : decode cX1_exchange 48 = .ok (.lreturn, 1) := by decide +kernel
theorem dX1_exchange_49 : decode cX1_exchange 49 = .ok (.aload_n 0, 1) := by decide +kernel
theorem dX1_exchange_50 : decode cX1_exchange 50 = .ok (.getfield 7, 3) := by decide +kernel
theorem dX1_exchange_53 : decode cX1_exchange 53 = .ok (.iload_n 1, 1) := by decide +kernel
theorem dX1_exchange_54 : decode cX1_exchange 54 = .ok (.iconst 1, 1) := by decide +kernel
theorem dX1_exchange_55 : decode cX1_exchange 55 = .ok (.bastore, 1) := by decide +kernel
theorem dX1_exchange_56 : decode cX1_exchange 56 = .ok (.aload_n 0, 1) := by decide +kernel
theorem dX1_exchange_57 : decode cX1_exchange 57 = .ok (.getfield 13, 3) := by decide +kernel
theorem dX1_exchange_60 : decode cX1_exchange 60 = .ok (.iload_n 1, 1) := by decide +kernel
theorem dX1_exchange_61 : decode cX1_exchange 61 = .ok (.lload 4, 2) := by decide +kernel
theorem dX1_exchange_63 : decode cX1_exchange 63 = .ok (.lload 6, 2) := by decide +kernel
theorem dX1_exchange_65 : decode cX1_exchange 65 = .ok (.lsub, 1) := by decide +kernel
theorem dX1_exchange_66 : decode cX1_exchange 66 = .ok (.lastore, 1) := by decide +kernel
theorem dX1_exchange_67 : decode cX1_exchange 67 = .ok (.aload_n 0, 1) := by decide +kernel
theorem dX1_exchange_68 : decode cX1_exchange 68 = .ok (.getfield 17, 3) := by decide +kernel
theorem dX1_exchange_71 : decode cX1_exchange 71 = .ok (.iload_n 1, 1) := by decide +kernel
theorem dX1_exchange_72 : decode cX1_exchange 72 = .ok (.lload 4, 2) := by decide +kernel
theorem dX1_exchange_74 : decode cX1_exchange 74 = .ok (.lload_n 2, 1) := by decide +kernel
theorem dX1_exchange_75 : decode cX1_exchange 75 = .ok (.lsub, 1) := by decide +kernel
theorem dX1_exchange_76 : decode cX1_exchange 76 = .ok (.lastore, 1) := by decide +kernel
theorem dX1_exchange_77 : decode cX1_exchange 77 = .ok (.lload 4, 2) := by decide +kernel
theorem dX1_exchange_79 : decode cX1_exchange 79 = .ok (.lload 6, 2) := by decide +kernel
theorem dX1_exchange_81 : decode cX1_exchange 81 = .ok (.lload_n 2, 1) := by decide +kernel
theorem dX1_exchange_82 : decode cX1_exchange 82 = .ok (.lsub, 1) := by decide +kernel
theorem dX1_exchange_83 : decode cX1_exchange 83 = .ok (.invokestatic 32, 3) := by decide +kernel
theorem dX1_exchange_86 : decode cX1_exchange 86 = .ok (.ladd, 1) := by decide +kernel
theorem dX1_exchange_87 : decode cX1_exchange 87 = .ok (.lload 6, 2) := by decide +kernel
theorem dX1_exchange_89 : decode cX1_exchange 89 = .ok (.lsub, 1) := by decide +kernel
theorem dX1_exchange_90 : decode cX1_exchange 90 = .ok (.lreturn, 1) := by decide +kernel
theorem dX1_drop_0 : decode cX1_drop 0 = .ok (.iload_n 1, 1) := by decide +kernel
theorem dX1_drop_1 : decode cX1_drop 1 = .ok (.invokestatic 20, 3) := by decide +kernel
theorem dX1_drop_4 : decode cX1_drop 4 = .ok (.ifCond .eq 12, 3) := by decide +kernel
theorem dX1_drop_7 : decode cX1_drop 7 = .ok (.aload_n 0, 1) := by decide +kernel
theorem dX1_drop_8 : decode cX1_drop 8 = .ok (.getfield 7, 3) := by decide +kernel
theorem dX1_drop_11 : decode cX1_drop 11 = .ok (.iload_n 1, 1) := by decide +kernel
theorem dX1_drop_12 : decode cX1_drop 12 = .ok (.baload, 1) := by decide +kernel
theorem dX1_drop_13 : decode cX1_drop 13 = .ok (.ifCond .ne 5, 3) := by decide +kernel
theorem dX1_drop_16 : decode cX1_drop 16 = .ok (.iconst 0, 1) := by decide +kernel
theorem dX1_drop_17 : decode cX1_drop 17 = .ok (.ireturn, 1) := by decide +kernel
theorem dX1_drop_18 : decode cX1_drop 18 = .ok (.aload_n 0, 1) := by decide +kernel
theorem dX1_drop_19 : decode cX1_drop 19 = .ok (.getfield 7, 3) := by decide +kernel
theorem dX1_drop_22 : decode cX1_drop 22 = .ok (.iload_n 1, 1) := by decide +kernel
theorem dX1_drop_23 : decode cX1_drop 23 = .ok (.iconst 0, 1) := by decide +kernel
theorem dX1_drop_24 : decode cX1_drop 24 = .ok (.bastore, 1) := by decide +kernel
theorem dX1_drop_25 : decode cX1_drop 25 = .ok (.iconst 1, 1) := by decide +kernel
theorem dX1_drop_26 : decode cX1_drop 26 = .ok (.ireturn, 1) := by decide +kernel
theorem dX1_sources_0 : decode cX1_sources 0 = .ok (.iconst 0, 1) := by decide +kernel
theorem dX1_sources_1 : decode cX1_sources 1 = .ok (.istore_n 1, 1) := by decide +kernel
theorem dX1_sources_2 : decode cX1_sources 2 = .ok (.iconst 0, 1) := by decide +kernel
theorem dX1_sources_3 : decode cX1_sources 3 = .ok (.istore_n 2, 1) := by decide +kernel
theorem dX1_sources_4 : decode cX1_sources 4 = .ok (.iload_n 2, 1) := by decide +kernel
theorem dX1_sources_5 : decode cX1_sources 5 = .ok (.bipush 24, 2) := by decide +kernel
theorem dX1_sources_7 : decode cX1_sources 7 = .ok (.if_icmp .ge 26, 3) := by decide +kernel
theorem dX1_sources_10 : decode cX1_sources 10 = .ok (.iload_n 1, 1) := by decide +kernel
theorem dX1_sources_11 : decode cX1_sources 11 = .ok (.aload_n 0, 1) := by decide +kernel
theorem dX1_sources_12 : decode cX1_sources 12 = .ok (.getfield 7, 3) := by decide +kernel
theorem dX1_sources_15 : decode cX1_sources 15 = .ok (.iload_n 2, 1) := by decide +kernel
theorem dX1_sources_16 : decode cX1_sources 16 = .ok (.baload, 1) := by decide +kernel
theorem dX1_sources_17 : decode cX1_sources 17 = .ok (.ifCond .eq 7, 3) := by decide +kernel
theorem dX1_sources_20 : decode cX1_sources 20 = .ok (.iconst 1, 1) := by decide +kernel
theorem dX1_sources_21 : decode cX1_sources 21 = .ok (.goto 4, 3) := by decide +kernel
theorem dX1_sources_24 : decode cX1_sources 24 = .ok (.iconst 0, 1) := by decide +kernel
theorem dX1_sources_25 : decode cX1_sources 25 = .ok (.iadd, 1) := by decide +kernel
theorem dX1_sources_26 : decode cX1_sources 26 = .ok (.istore_n 1, 1) := by decide +kernel
theorem dX1_sources_27 : decode cX1_sources 27 = .ok (.iinc 2 1, 3) := by decide +kernel
theorem dX1_sources_30 : decode cX1_sources 30 = .ok (.goto (-26), 3) := by decide +kernel
theorem dX1_sources_33 : decode cX1_sources 33 = .ok (.iload_n 1, 1) := by decide +kernel
theorem dX1_sources_34 : decode cX1_sources 34 = .ok (.ireturn, 1) := by decide +kernel
theorem dX1_covers_0 : decode cX1_covers 0 = .ok (.iconst 0, 1) := by decide +kernel
theorem dX1_covers_1 : decode cX1_covers 1 = .ok (.istore_n 3, 1) := by decide +kernel
theorem dX1_covers_2 : decode cX1_covers 2 = .ok (.iconst 0, 1) := by decide +kernel
theorem dX1_covers_3 : decode cX1_covers 3 = .ok (.istore 4, 2) := by decide +kernel
theorem dX1_covers_5 : decode cX1_covers 5 = .ok (.iload 4, 2) := by decide +kernel
theorem dX1_covers_7 : decode cX1_covers 7 = .ok (.bipush 24, 2) := by decide +kernel
theorem dX1_covers_9 : decode cX1_covers 9 = .ok (.if_icmp .ge 51, 3) := by decide +kernel
theorem dX1_covers_12 : decode cX1_covers 12 = .ok (.iload_n 3, 1) := by decide +kernel
theorem dX1_covers_13 : decode cX1_covers 13 = .ok (.aload_n 0, 1) := by decide +kernel
theorem dX1_covers_14 : decode cX1_covers 14 = .ok (.getfield 7, 3) := by decide +kernel
theorem dX1_covers_17 : decode cX1_covers 17 = .ok (.iload 4, 2) := by decide +kernel
theorem dX1_covers_19 : decode cX1_covers 19 = .ok (.baload, 1) := by decide +kernel
theorem dX1_covers_20 : decode cX1_covers 20 = .ok (.ifCond .eq 31, 3) := by decide +kernel
theorem dX1_covers_23 : decode cX1_covers 23 = .ok (.aload_n 0, 1) := by decide +kernel
theorem dX1_covers_24 : decode cX1_covers 24 = .ok (.getfield 13, 3) := by decide +kernel
theorem dX1_covers_27 : decode cX1_covers 27 = .ok (.iload 4, 2) := by decide +kernel
theorem dX1_covers_29 : decode cX1_covers 29 = .ok (.laload, 1) := by decide +kernel
theorem dX1_covers_30 : decode cX1_covers 30 = .ok (.lload_n 1, 1) := by decide +kernel
theorem dX1_covers_31 : decode cX1_covers 31 = .ok (.lcmp, 1) := by decide +kernel
theorem dX1_covers_32 : decode cX1_covers 32 = .ok (.ifCond .gt 19, 3) := by decide +kernel
theorem dX1_covers_35 : decode cX1_covers 35 = .ok (.lload_n 1, 1) := by decide +kernel
theorem dX1_covers_36 : decode cX1_covers 36 = .ok (.aload_n 0, 1) := by decide +kernel
theorem dX1_covers_37 : decode cX1_covers 37 = .ok (.getfield 17, 3) := by decide +kernel
theorem dX1_covers_40 : decode cX1_covers 40 = .ok (.iload 4, 2) := by decide +kernel
theorem dX1_covers_42 : decode cX1_covers 42 = .ok (.laload, 1) := by decide +kernel
theorem dX1_covers_43 : decode cX1_covers 43 = .ok (.lcmp, 1) := by decide +kernel
theorem dX1_covers_44 : decode cX1_covers 44 = .ok (.ifCond .gt 7, 3) := by decide +kernel
theorem dX1_covers_47 : decode cX1_covers 47 = .ok (.iconst 1, 1) := by decide +kernel
theorem dX1_covers_48 : decode cX1_covers 48 = .ok (.goto 4, 3) := by decide +kernel
theorem dX1_covers_51 : decode cX1_covers 51 = .ok (.iconst 0, 1) := by decide +kernel
theorem dX1_covers_52 : decode cX1_covers 52 = .ok (.iadd, 1) := by decide +kernel
theorem dX1_covers_53 : decode cX1_covers 53 = .ok (.istore_n 3, 1) := by decide +kernel
theorem dX1_covers_54 : decode cX1_covers 54 = .ok (.iinc 4 1, 3) := by decide +kernel
theorem dX1_covers_57 : decode cX1_covers 57 = .ok (.goto (-52), 3) := by decide +kernel
theorem dX1_covers_60 : decode cX1_covers 60 = .ok (.iload_n 3, 1) := by decide +kernel
theorem dX1_covers_61 : decode cX1_covers 61 = .ok (.ireturn, 1) := by decide +kernel
theorem dX1_greatest_0 : decode cX1_greatest 0 = .ok (.iconst 0, 1) := by decide +kernel
theorem dX1_greatest_1 : decode cX1_greatest 1 = .ok (.istore_n 1, 1) := by decide +kernel
theorem dX1_greatest_2 : decode cX1_greatest 2 = .ok (.iconst 0, 1) := by decide +kernel
theorem dX1_greatest_3 : decode cX1_greatest 3 = .ok (.istore_n 2, 1) := by decide +kernel
theorem dX1_greatest_4 : decode cX1_greatest 4 = .ok (.iload_n 2, 1) := by decide +kernel
theorem dX1_greatest_5 : decode cX1_greatest 5 = .ok (.bipush 24, 2) := by decide +kernel
theorem dX1_greatest_7 : decode cX1_greatest 7 = .ok (.if_icmp .ge 44, 3) := by decide +kernel
theorem dX1_greatest_10 : decode cX1_greatest 10 = .ok (.aload_n 0, 1) := by decide +kernel
theorem dX1_greatest_11 : decode cX1_greatest 11 = .ok (.getfield 7, 3) := by decide +kernel
theorem dX1_greatest_14 : decode cX1_greatest 14 = .ok (.iload_n 2, 1) := by decide +kernel
theorem dX1_greatest_15 : decode cX1_greatest 15 = .ok (.baload, 1) := by decide +kernel
theorem dX1_greatest_16 : decode cX1_greatest 16 = .ok (.ifCond .eq 16, 3) := by decide +kernel
theorem dX1_greatest_19 : decode cX1_greatest 19 = .ok (.aload_n 0, 1) := by decide +kernel
theorem dX1_greatest_20 : decode cX1_greatest 20 = .ok (.aload_n 0, 1) := by decide +kernel
theorem dX1_greatest_21 : decode cX1_greatest 21 = .ok (.getfield 13, 3) := by decide +kernel
theorem dX1_greatest_24 : decode cX1_greatest 24 = .ok (.iload_n 2, 1) := by decide +kernel
theorem dX1_greatest_25 : decode cX1_greatest 25 = .ok (.laload, 1) := by decide +kernel
theorem dX1_greatest_26 : decode cX1_greatest 26 = .ok (.invokevirtual 36, 3) := by decide +kernel
theorem dX1_greatest_29 : decode cX1_greatest 29 = .ok (.goto 4, 3) := by decide +kernel
theorem dX1_greatest_32 : decode cX1_greatest 32 = .ok (.iconst 0, 1) := by decide +kernel
theorem dX1_greatest_33 : decode cX1_greatest 33 = .ok (.istore_n 3, 1) := by decide +kernel
theorem dX1_greatest_34 : decode cX1_greatest 34 = .ok (.iload_n 3, 1) := by decide +kernel
theorem dX1_greatest_35 : decode cX1_greatest 35 = .ok (.iload_n 1, 1) := by decide +kernel
theorem dX1_greatest_36 : decode cX1_greatest 36 = .ok (.if_icmp .le 7, 3) := by decide +kernel
theorem dX1_greatest_39 : decode cX1_greatest 39 = .ok (.iload_n 3, 1) := by decide +kernel
theorem dX1_greatest_40 : decode cX1_greatest 40 = .ok (.goto 4, 3) := by decide +kernel
theorem dX1_greatest_43 : decode cX1_greatest 43 = .ok (.iload_n 1, 1) := by decide +kernel
theorem dX1_greatest_44 : decode cX1_greatest 44 = .ok (.istore_n 1, 1) := by decide +kernel
theorem dX1_greatest_45 : decode cX1_greatest 45 = .ok (.iinc 2 1, 3) := by decide +kernel
theorem dX1_greatest_48 : decode cX1_greatest 48 = .ok (.goto (-44), 3) := by decide +kernel
theorem dX1_greatest_51 : decode cX1_greatest 51 = .ok (.iload_n 1, 1) := by decide +kernel
theorem dX1_greatest_52 : decode cX1_greatest 52 = .ok (.ireturn, 1) := by decide +kernel
theorem dX1_first_0 : decode cX1_first 0 = .ok (.ldc2_w 30, 3) := by decide +kernel
theorem dX1_first_3 : decode cX1_first 3 = .ok (.lstore_n 2, 1) := by decide +kernel
theorem dX1_first_4 : decode cX1_first 4 = .ok (.iconst 0, 1) := by decide +kernel
theorem dX1_first_5 : decode cX1_first 5 = .ok (.istore 4, 2) := by decide +kernel
theorem dX1_first_7 : decode cX1_first 7 = .ok (.iload 4, 2) := by decide +kernel
theorem dX1_first_9 : decode cX1_first 9 = .ok (.bipush 24, 2) := by decide +kernel
theorem dX1_first_11 : decode cX1_first 11 = .ok (.if_icmp .ge 66, 3) := by decide +kernel
theorem dX1_first_14 : decode cX1_first 14 = .ok (.aload_n 0, 1) := by decide +kernel
theorem dX1_first_15 : decode cX1_first 15 = .ok (.getfield 7, 3) := by decide +kernel
theorem dX1_first_18 : decode cX1_first 18 = .ok (.iload 4, 2) := by decide +kernel
theorem dX1_first_20 : decode cX1_first 20 = .ok (.baload, 1) := by decide +kernel
theorem dX1_first_21 : decode cX1_first 21 = .ok (.ifCond .eq 48, 3) := by decide +kernel
theorem dX1_first_24 : decode cX1_first 24 = .ok (.aload_n 0, 1) := by decide +kernel
theorem dX1_first_25 : decode cX1_first 25 = .ok (.aload_n 0, 1) := by decide +kernel
theorem dX1_first_26 : decode cX1_first 26 = .ok (.getfield 13, 3) := by decide +kernel
theorem dX1_first_29 : decode cX1_first 29 = .ok (.iload 4, 2) := by decide +kernel
theorem dX1_first_31 : decode cX1_first 31 = .ok (.laload, 1) := by decide +kernel
theorem dX1_first_32 : decode cX1_first 32 = .ok (.invokevirtual 36, 3) := by decide +kernel
theorem dX1_first_35 : decode cX1_first 35 = .ok (.iload_n 1, 1) := by decide +kernel
theorem dX1_first_36 : decode cX1_first 36 = .ok (.if_icmp .lt 33, 3) := by decide +kernel
theorem dX1_first_39 : decode cX1_first 39 = .ok (.lload_n 2, 1) := by decide +kernel
theorem dX1_first_40 : decode cX1_first 40 = .ok (.ldc2_w 30, 3) := by decide +kernel
theorem dX1_first_43 : decode cX1_first 43 = .ok (.lcmp, 1) := by decide +kernel
theorem dX1_first_44 : decode cX1_first 44 = .ok (.ifCond .eq 15, 3) := by decide +kernel
theorem dX1_first_47 : decode cX1_first 47 = .ok (.aload_n 0, 1) := by decide +kernel
theorem dX1_first_48 : decode cX1_first 48 = .ok (.getfield 13, 3) := by decide +kernel
theorem dX1_first_51 : decode cX1_first 51 = .ok (.iload 4, 2) := by decide +kernel
theorem dX1_first_53 : decode cX1_first 53 = .ok (.laload, 1) := by decide +kernel
theorem dX1_first_54 : decode cX1_first 54 = .ok (.lload_n 2, 1) := by decide +kernel
theorem dX1_first_55 : decode cX1_first 55 = .ok (.lcmp, 1) := by decide +kernel
theorem dX1_first_56 : decode cX1_first 56 = .ok (.ifCond .ge 13, 3) := by decide +kernel
theorem dX1_first_59 : decode cX1_first 59 = .ok (.aload_n 0, 1) := by decide +kernel
theorem dX1_first_60 : decode cX1_first 60 = .ok (.getfield 13, 3) := by decide +kernel
theorem dX1_first_63 : decode cX1_first 63 = .ok (.iload 4, 2) := by decide +kernel
theorem dX1_first_65 : decode cX1_first 65 = .ok (.laload, 1) := by decide +kernel
theorem dX1_first_66 : decode cX1_first 66 = .ok (.goto 4, 3) := by decide +kernel
theorem dX1_first_69 : decode cX1_first 69 = .ok (.lload_n 2, 1) := by decide +kernel
theorem dX1_first_70 : decode cX1_first 70 = .ok (.lstore_n 2, 1) := by decide +kernel
theorem dX1_first_71 : decode cX1_first 71 = .ok (.iinc 4 1, 3) := by decide +kernel
theorem dX1_first_74 : decode cX1_first 74 = .ok (.goto (-67), 3) := by decide +kernel
theorem dX1_first_77 : decode cX1_first 77 = .ok (.lload_n 2, 1) := by decide +kernel
theorem dX1_first_78 : decode cX1_first 78 = .ok (.lreturn, 1) := by decide +kernel
theorem dX1_last_0 : decode cX1_last 0 = .ok (.ldc2_w 30, 3) := by decide +kernel
theorem dX1_last_3 : decode cX1_last 3 = .ok (.lstore_n 2, 1) := by decide +kernel
theorem dX1_last_4 : decode cX1_last 4 = .ok (.iconst 0, 1) := by decide +kernel
theorem dX1_last_5 : decode cX1_last 5 = .ok (.istore 4, 2) := by decide +kernel
theorem dX1_last_7 : decode cX1_last 7 = .ok (.iload 4, 2) := by decide +kernel
theorem dX1_last_9 : decode cX1_last 9 = .ok (.bipush 24, 2) := by decide +kernel
theorem dX1_last_11 : decode cX1_last 11 = .ok (.if_icmp .ge 66, 3) := by decide +kernel
theorem dX1_last_14 : decode cX1_last 14 = .ok (.aload_n 0, 1) := by decide +kernel
theorem dX1_last_15 : decode cX1_last 15 = .ok (.getfield 7, 3) := by decide +kernel
theorem dX1_last_18 : decode cX1_last 18 = .ok (.iload 4, 2) := by decide +kernel
theorem dX1_last_20 : decode cX1_last 20 = .ok (.baload, 1) := by decide +kernel
theorem dX1_last_21 : decode cX1_last 21 = .ok (.ifCond .eq 48, 3) := by decide +kernel
theorem dX1_last_24 : decode cX1_last 24 = .ok (.aload_n 0, 1) := by decide +kernel
theorem dX1_last_25 : decode cX1_last 25 = .ok (.aload_n 0, 1) := by decide +kernel
theorem dX1_last_26 : decode cX1_last 26 = .ok (.getfield 17, 3) := by decide +kernel
theorem dX1_last_29 : decode cX1_last 29 = .ok (.iload 4, 2) := by decide +kernel
theorem dX1_last_31 : decode cX1_last 31 = .ok (.laload, 1) := by decide +kernel
theorem dX1_last_32 : decode cX1_last 32 = .ok (.invokevirtual 36, 3) := by decide +kernel
theorem dX1_last_35 : decode cX1_last 35 = .ok (.iload_n 1, 1) := by decide +kernel
theorem dX1_last_36 : decode cX1_last 36 = .ok (.if_icmp .lt 33, 3) := by decide +kernel
theorem dX1_last_39 : decode cX1_last 39 = .ok (.lload_n 2, 1) := by decide +kernel
theorem dX1_last_40 : decode cX1_last 40 = .ok (.ldc2_w 30, 3) := by decide +kernel
theorem dX1_last_43 : decode cX1_last 43 = .ok (.lcmp, 1) := by decide +kernel
theorem dX1_last_44 : decode cX1_last 44 = .ok (.ifCond .eq 15, 3) := by decide +kernel
theorem dX1_last_47 : decode cX1_last 47 = .ok (.aload_n 0, 1) := by decide +kernel
theorem dX1_last_48 : decode cX1_last 48 = .ok (.getfield 17, 3) := by decide +kernel
theorem dX1_last_51 : decode cX1_last 51 = .ok (.iload 4, 2) := by decide +kernel
theorem dX1_last_53 : decode cX1_last 53 = .ok (.laload, 1) := by decide +kernel
theorem dX1_last_54 : decode cX1_last 54 = .ok (.lload_n 2, 1) := by decide +kernel
theorem dX1_last_55 : decode cX1_last 55 = .ok (.lcmp, 1) := by decide +kernel
theorem dX1_last_56 : decode cX1_last 56 = .ok (.ifCond .le 13, 3) := by decide +kernel
theorem dX1_last_59 : decode cX1_last 59 = .ok (.aload_n 0, 1) := by decide +kernel
theorem dX1_last_60 : decode cX1_last 60 = .ok (.getfield 17, 3) := by decide +kernel
theorem dX1_last_63 : decode cX1_last 63 = .ok (.iload 4, 2) := by decide +kernel
theorem dX1_last_65 : decode cX1_last 65 = .ok (.laload, 1) := by decide +kernel
theorem dX1_last_66 : decode cX1_last 66 = .ok (.goto 4, 3) := by decide +kernel
theorem dX1_last_69 : decode cX1_last 69 = .ok (.lload_n 2, 1) := by decide +kernel
theorem dX1_last_70 : decode cX1_last 70 = .ok (.lstore_n 2, 1) := by decide +kernel
theorem dX1_last_71 : decode cX1_last 71 = .ok (.iinc 4 1, 3) := by decide +kernel
theorem dX1_last_74 : decode cX1_last 74 = .ok (.goto (-67), 3) := by decide +kernel
theorem dX1_last_77 : decode cX1_last 77 = .ok (.lload_n 2, 1) := by decide +kernel
theorem dX1_last_78 : decode cX1_last 78 = .ok (.lreturn, 1) := by decide +kernel
theorem dX1_region_0 : decode cX1_region 0 = .ok (.aload_n 0, 1) := by decide +kernel
theorem dX1_region_1 : decode cX1_region 1 = .ok (.invokevirtual 40, 3) := by decide +kernel
theorem dX1_region_4 : decode cX1_region 4 = .ok (.istore_n 2, 1) := by decide +kernel
theorem dX1_region_5 : decode cX1_region 5 = .ok (.iload_n 2, 1) := by decide +kernel
theorem dX1_region_6 : decode cX1_region 6 = .ok (.ifCond .eq 12, 3) := by decide +kernel
theorem dX1_region_9 : decode cX1_region 9 = .ok (.iload_n 1, 1) := by decide +kernel
theorem dX1_region_10 : decode cX1_region 10 = .ok (.ifCond .lt 8, 3) := by decide +kernel
theorem dX1_region_13 : decode cX1_region 13 = .ok (.iload_n 1, 1) := by decide +kernel
theorem dX1_region_14 : decode cX1_region 14 = .ok (.iconst 1, 1) := by decide +kernel
theorem dX1_region_15 : decode cX1_region 15 = .ok (.if_icmp .le 7, 3) := by decide +kernel
theorem dX1_region_18 : decode cX1_region 18 = .ok (.ldc2_w 30, 3) := by decide +kernel
theorem dX1_region_21 : decode cX1_region 21 = .ok (.lreturn, 1) := by decide +kernel
theorem dX1_region_22 : decode cX1_region 22 = .ok (.aload_n 0, 1) := by decide +kernel
theorem dX1_region_23 : decode cX1_region 23 = .ok (.iload_n 2, 1) := by decide +kernel
theorem dX1_region_24 : decode cX1_region 24 = .ok (.invokevirtual 44, 3) := by decide +kernel
theorem dX1_region_27 : decode cX1_region 27 = .ok (.lstore_n 3, 1) := by decide +kernel
theorem dX1_region_28 : decode cX1_region 28 = .ok (.iload_n 1, 1) := by decide +kernel
theorem dX1_region_29 : decode cX1_region 29 = .ok (.ifCond .ne 5, 3) := by decide +kernel
theorem dX1_region_32 : decode cX1_region 32 = .ok (.lload_n 3, 1) := by decide +kernel
theorem dX1_region_33 : decode cX1_region 33 = .ok (.lreturn, 1) := by decide +kernel
theorem dX1_region_34 : decode cX1_region 34 = .ok (.iconst 1, 1) := by decide +kernel
theorem dX1_region_35 : decode cX1_region 35 = .ok (.istore 5, 2) := by decide +kernel
theorem dX1_region_37 : decode cX1_region 37 = .ok (.iload 5, 2) := by decide +kernel
theorem dX1_region_39 : decode cX1_region 39 = .ok (.ifCond .eq 122, 3) := by decide +kernel
theorem dX1_region_42 : decode cX1_region 42 = .ok (.ldc2_w 26, 3) := by decide +kernel
theorem dX1_region_45 : decode cX1_region 45 = .ok (.lstore 6, 2) := by decide +kernel
theorem dX1_region_47 : decode cX1_region 47 = .ok (.iconst 0, 1) := by decide +kernel
theorem dX1_region_48 : decode cX1_region 48 = .ok (.istore 8, 2) := by decide +kernel
theorem dX1_region_50 : decode cX1_region 50 = .ok (.iload 8, 2) := by decide +kernel
theorem dX1_region_52 : decode cX1_region 52 = .ok (.bipush 24, 2) := by decide +kernel
theorem dX1_region_54 : decode cX1_region 54 = .ok (.if_icmp .ge 70, 3) := by decide +kernel
theorem dX1_region_57 : decode cX1_region 57 = .ok (.aload_n 0, 1) := by decide +kernel
theorem dX1_region_58 : decode cX1_region 58 = .ok (.getfield 7, 3) := by decide +kernel
theorem dX1_region_61 : decode cX1_region 61 = .ok (.iload 8, 2) := by decide +kernel
theorem dX1_region_63 : decode cX1_region 63 = .ok (.baload, 1) := by decide +kernel
theorem dX1_region_64 : decode cX1_region 64 = .ok (.ifCond .eq 50, 3) := by decide +kernel
theorem dX1_region_67 : decode cX1_region 67 = .ok (.aload_n 0, 1) := by decide +kernel
theorem dX1_region_68 : decode cX1_region 68 = .ok (.getfield 13, 3) := by decide +kernel
theorem dX1_region_71 : decode cX1_region 71 = .ok (.iload 8, 2) := by decide +kernel
theorem dX1_region_73 : decode cX1_region 73 = .ok (.laload, 1) := by decide +kernel
theorem dX1_region_74 : decode cX1_region 74 = .ok (.lload_n 3, 1) := by decide +kernel
theorem dX1_region_75 : decode cX1_region 75 = .ok (.lcmp, 1) := by decide +kernel
theorem dX1_region_76 : decode cX1_region 76 = .ok (.ifCond .gt 38, 3) := by decide +kernel
theorem dX1_region_79 : decode cX1_region 79 = .ok (.lload_n 3, 1) := by decide +kernel
theorem dX1_region_80 : decode cX1_region 80 = .ok (.aload_n 0, 1) := by decide +kernel
theorem dX1_region_81 : decode cX1_region 81 = .ok (.getfield 17, 3) := by decide +kernel
theorem dX1_region_84 : decode cX1_region 84 = .ok (.iload 8, 2) := by decide +kernel
theorem dX1_region_86 : decode cX1_region 86 = .ok (.laload, 1) := by decide +kernel
theorem dX1_region_87 : decode cX1_region 87 = .ok (.lcmp, 1) := by decide +kernel
theorem dX1_region_88 : decode cX1_region 88 = .ok (.ifCond .gt 26, 3) := by decide +kernel
theorem dX1_region_91 : decode cX1_region 91 = .ok (.aload_n 0, 1) := by decide +kernel
theorem dX1_region_92 : decode cX1_region 92 = .ok (.getfield 17, 3) := by decide +kernel
theorem dX1_region_95 : decode cX1_region 95 = .ok (.iload 8, 2) := by decide +kernel
theorem dX1_region_97 : decode cX1_region 97 = .ok (.laload, 1) := by decide +kernel
theorem dX1_region_98 : decode cX1_region 98 = .ok (.lload 6, 2) := by decide +kernel
theorem dX1_region_100 : decode cX1_region 100 = .ok (.lcmp, 1) := by decide +kernel
theorem dX1_region_101 : decode cX1_region 101 = .ok (.ifCond .ge 13, 3) := by decide +kernel
theorem dX1_region_104 : decode cX1_region 104 = .ok (.aload_n 0, 1) := by decide +kernel
theorem dX1_region_105 : decode cX1_region 105 = .ok (.getfield 17, 3) := by decide +kernel
theorem dX1_region_108 : decode cX1_region 108 = .ok (.iload 8, 2) := by decide +kernel
theorem dX1_region_110 : decode cX1_region 110 = .ok (.laload, 1) := by decide +kernel
theorem dX1_region_111 : decode cX1_region 111 = .ok (.goto 5, 3) := by decide +kernel
theorem dX1_region_114 : decode cX1_region 114 = .ok (.lload 6, 2) := by decide +kernel
theorem dX1_region_116 : decode cX1_region 116 = .ok (.lstore 6, 2) := by decide +kernel
theorem dX1_region_118 : decode cX1_region 118 = .ok (.iinc 8 1, 3) := by decide +kernel
theorem dX1_region_121 : decode cX1_region 121 = .ok (.goto (-71), 3) := by decide +kernel
theorem dX1_region_124 : decode cX1_region 124 = .ok (.lload 6, 2) := by decide +kernel
theorem dX1_region_126 : decode cX1_region 126 = .ok (.lstore_n 3, 1) := by decide +kernel
theorem dX1_region_127 : decode cX1_region 127 = .ok (.aload_n 0, 1) := by decide +kernel
theorem dX1_region_128 : decode cX1_region 128 = .ok (.lload_n 3, 1) := by decide +kernel
theorem dX1_region_129 : decode cX1_region 129 = .ok (.lconst 1, 1) := by decide +kernel
theorem dX1_region_130 : decode cX1_region 130 = .ok (.ladd, 1) := by decide +kernel
theorem dX1_region_131 : decode cX1_region 131 = .ok (.invokevirtual 36, 3) := by decide +kernel
theorem dX1_region_134 : decode cX1_region 134 = .ok (.iload_n 2, 1) := by decide +kernel
theorem dX1_region_135 : decode cX1_region 135 = .ok (.if_icmp .ne 7, 3) := by decide +kernel
theorem dX1_region_138 : decode cX1_region 138 = .ok (.iconst 1, 1) := by decide +kernel
theorem dX1_region_139 : decode cX1_region 139 = .ok (.goto 4, 3) := by decide +kernel
theorem dX1_region_142 : decode cX1_region 142 = .ok (.iconst 0, 1) := by decide +kernel
theorem dX1_region_143 : decode cX1_region 143 = .ok (.istore 5, 2) := by decide +kernel
theorem dX1_region_145 : decode cX1_region 145 = .ok (.iload 5, 2) := by decide +kernel
theorem dX1_region_147 : decode cX1_region 147 = .ok (.ifCond .eq 9, 3) := by decide +kernel
theorem dX1_region_150 : decode cX1_region 150 = .ok (.lload_n 3, 1) := by decide +kernel
theorem dX1_region_151 : decode cX1_region 151 = .ok (.lconst 1, 1) := by decide +kernel
theorem dX1_region_152 : decode cX1_region 152 = .ok (.ladd, 1) := by decide +kernel
theorem dX1_region_153 : decode cX1_region 153 = .ok (.goto 4, 3) := by decide +kernel
theorem dX1_region_156 : decode cX1_region 156 = .ok (.lload_n 3, 1) := by decide +kernel
theorem dX1_region_157 : decode cX1_region 157 = .ok (.lstore_n 3, 1) := by decide +kernel
theorem dX1_region_158 : decode cX1_region 158 = .ok (.goto (-121), 3) := by decide +kernel
theorem dX1_region_161 : decode cX1_region 161 = .ok (.lload_n 3, 1) := by decide +kernel
theorem dX1_region_162 : decode cX1_region 162 = .ok (.lreturn, 1) := by decide +kernel
theorem dX1_hull_0 : decode cX1_hull 0 = .ok (.aload_n 0, 1) := by decide +kernel
theorem dX1_hull_1 : decode cX1_hull 1 = .ok (.invokevirtual 48, 3) := by decide +kernel
theorem dX1_hull_4 : decode cX1_hull 4 = .ok (.istore_n 3, 1) := by decide +kernel
theorem dX1_hull_5 : decode cX1_hull 5 = .ok (.iload_n 1, 1) := by decide +kernel
theorem dX1_hull_6 : decode cX1_hull 6 = .ok (.ifCond .lt 17, 3) := by decide +kernel
theorem dX1_hull_9 : decode cX1_hull 9 = .ok (.iload_n 1, 1) := by decide +kernel
theorem dX1_hull_10 : decode cX1_hull 10 = .ok (.iload_n 3, 1) := by decide +kernel
theorem dX1_hull_11 : decode cX1_hull 11 = .ok (.if_icmp .ge 12, 3) := by decide +kernel
theorem dX1_hull_14 : decode cX1_hull 14 = .ok (.iload_n 2, 1) := by decide +kernel
theorem dX1_hull_15 : decode cX1_hull 15 = .ok (.ifCond .lt 8, 3) := by decide +kernel
theorem dX1_hull_18 : decode cX1_hull 18 = .ok (.iload_n 2, 1) := by decide +kernel
theorem dX1_hull_19 : decode cX1_hull 19 = .ok (.iconst 1, 1) := by decide +kernel
theorem dX1_hull_20 : decode cX1_hull 20 = .ok (.if_icmp .le 7, 3) := by decide +kernel
theorem dX1_hull_23 : decode cX1_hull 23 = .ok (.ldc2_w 30, 3) := by decide +kernel
theorem dX1_hull_26 : decode cX1_hull 26 = .ok (.lreturn, 1) := by decide +kernel
theorem dX1_hull_27 : decode cX1_hull 27 = .ok (.iload_n 2, 1) := by decide +kernel
theorem dX1_hull_28 : decode cX1_hull 28 = .ok (.ifCond .ne 13, 3) := by decide +kernel
theorem dX1_hull_31 : decode cX1_hull 31 = .ok (.aload_n 0, 1) := by decide +kernel
theorem dX1_hull_32 : decode cX1_hull 32 = .ok (.iload_n 3, 1) := by decide +kernel
theorem dX1_hull_33 : decode cX1_hull 33 = .ok (.iload_n 1, 1) := by decide +kernel
theorem dX1_hull_34 : decode cX1_hull 34 = .ok (.isub, 1) := by decide +kernel
theorem dX1_hull_35 : decode cX1_hull 35 = .ok (.invokevirtual 44, 3) := by decide +kernel
theorem dX1_hull_38 : decode cX1_hull 38 = .ok (.goto 10, 3) := by decide +kernel
theorem dX1_hull_41 : decode cX1_hull 41 = .ok (.aload_n 0, 1) := by decide +kernel
theorem dX1_hull_42 : decode cX1_hull 42 = .ok (.iload_n 3, 1) := by decide +kernel
theorem dX1_hull_43 : decode cX1_hull 43 = .ok (.iload_n 1, 1) := by decide +kernel
theorem dX1_hull_44 : decode cX1_hull 44 = .ok (.isub, 1) := by decide +kernel
theorem dX1_hull_45 : decode cX1_hull 45 = .ok (.invokevirtual 51, 3) := by decide +kernel
theorem dX1_hull_48 : decode cX1_hull 48 = .ok (.lreturn, 1) := by decide +kernel
theorem dX1_chosen_0 : decode cX1_chosen 0 = .ok (.iload_n 1, 1) := by decide +kernel
theorem dX1_chosen_1 : decode cX1_chosen 1 = .ok (.invokestatic 20, 3) := by decide +kernel
theorem dX1_chosen_4 : decode cX1_chosen 4 = .ok (.ifCond .eq 46, 3) := by decide +kernel
theorem dX1_chosen_7 : decode cX1_chosen 7 = .ok (.aload_n 0, 1) := by decide +kernel
theorem dX1_chosen_8 : decode cX1_chosen 8 = .ok (.getfield 7, 3) := by decide +kernel
theorem dX1_chosen_11 : decode cX1_chosen 11 = .ok (.iload_n 1, 1) := by decide +kernel
theorem dX1_chosen_12 : decode cX1_chosen 12 = .ok (.baload, 1) := by decide +kernel
theorem dX1_chosen_13 : decode cX1_chosen 13 = .ok (.ifCond .eq 37, 3) := by decide +kernel
theorem dX1_chosen_16 : decode cX1_chosen 16 = .ok (.aload_n 0, 1) := by decide +kernel
theorem dX1_chosen_17 : decode cX1_chosen 17 = .ok (.getfield 13, 3) := by decide +kernel
theorem dX1_chosen_20 : decode cX1_chosen 20 = .ok (.iload_n 1, 1) := by decide +kernel
theorem dX1_chosen_21 : decode cX1_chosen 21 = .ok (.laload, 1) := by decide +kernel
theorem dX1_chosen_22 : decode cX1_chosen 22 = .ok (.aload_n 0, 1) := by decide +kernel
theorem dX1_chosen_23 : decode cX1_chosen 23 = .ok (.iconst 0, 1) := by decide +kernel
theorem dX1_chosen_24 : decode cX1_chosen 24 = .ok (.invokevirtual 54, 3) := by decide +kernel
theorem dX1_chosen_27 : decode cX1_chosen 27 = .ok (.lcmp, 1) := by decide +kernel
theorem dX1_chosen_28 : decode cX1_chosen 28 = .ok (.ifCond .gt 22, 3) := by decide +kernel
theorem dX1_chosen_31 : decode cX1_chosen 31 = .ok (.aload_n 0, 1) := by decide +kernel
theorem dX1_chosen_32 : decode cX1_chosen 32 = .ok (.getfield 17, 3) := by decide +kernel
theorem dX1_chosen_35 : decode cX1_chosen 35 = .ok (.iload_n 1, 1) := by decide +kernel
theorem dX1_chosen_36 : decode cX1_chosen 36 = .ok (.laload, 1) := by decide +kernel
theorem dX1_chosen_37 : decode cX1_chosen 37 = .ok (.aload_n 0, 1) := by decide +kernel
theorem dX1_chosen_38 : decode cX1_chosen 38 = .ok (.iconst 1, 1) := by decide +kernel
theorem dX1_chosen_39 : decode cX1_chosen 39 = .ok (.invokevirtual 54, 3) := by decide +kernel
theorem dX1_chosen_42 : decode cX1_chosen 42 = .ok (.lcmp, 1) := by decide +kernel
theorem dX1_chosen_43 : decode cX1_chosen 43 = .ok (.ifCond .lt 7, 3) := by decide +kernel
theorem dX1_chosen_46 : decode cX1_chosen 46 = .ok (.iconst 1, 1) := by decide +kernel
theorem dX1_chosen_47 : decode cX1_chosen 47 = .ok (.goto 4, 3) := by decide +kernel
theorem dX1_chosen_50 : decode cX1_chosen 50 = .ok (.iconst 0, 1) := by decide +kernel
theorem dX1_chosen_51 : decode cX1_chosen 51 = .ok (.ireturn, 1) := by decide +kernel
theorem dX1_middle_0 : decode cX1_middle 0 = .ok (.aload_n 0, 1) := by decide +kernel
theorem dX1_middle_1 : decode cX1_middle 1 = .ok (.getfield 13, 3) := by decide +kernel
theorem dX1_middle_4 : decode cX1_middle 4 = .ok (.iload_n 1, 1) := by decide +kernel
theorem dX1_middle_5 : decode cX1_middle 5 = .ok (.laload, 1) := by decide +kernel
theorem dX1_middle_6 : decode cX1_middle 6 = .ok (.aload_n 0, 1) := by decide +kernel
theorem dX1_middle_7 : decode cX1_middle 7 = .ok (.getfield 17, 3) := by decide +kernel
theorem dX1_middle_10 : decode cX1_middle 10 = .ok (.iload_n 1, 1) := by decide +kernel
theorem dX1_middle_11 : decode cX1_middle 11 = .ok (.laload, 1) := by decide +kernel
theorem dX1_middle_12 : decode cX1_middle 12 = .ok (.ladd, 1) := by decide +kernel
theorem dX1_middle_13 : decode cX1_middle 13 = .ok (.invokestatic 32, 3) := by decide +kernel
theorem dX1_middle_16 : decode cX1_middle 16 = .ok (.lreturn, 1) := by decide +kernel
theorem dX1_median_0 : decode cX1_median 0 = .ok (.aload_n 0, 1) := by decide +kernel
theorem dX1_median_1 : decode cX1_median 1 = .ok (.invokevirtual 48, 3) := by decide +kernel
theorem dX1_median_4 : decode cX1_median 4 = .ok (.istore_n 1, 1) := by decide +kernel
theorem dX1_median_5 : decode cX1_median 5 = .ok (.iconst 0, 1) := by decide +kernel
theorem dX1_median_6 : decode cX1_median 6 = .ok (.istore_n 2, 1) := by decide +kernel
theorem dX1_median_7 : decode cX1_median 7 = .ok (.iload_n 2, 1) := by decide +kernel
theorem dX1_median_8 : decode cX1_median 8 = .ok (.bipush 24, 2) := by decide +kernel
theorem dX1_median_10 : decode cX1_median 10 = .ok (.if_icmp .ge 114, 3) := by decide +kernel
theorem dX1_median_13 : decode cX1_median 13 = .ok (.iconst 0, 1) := by decide +kernel
theorem dX1_median_14 : decode cX1_median 14 = .ok (.istore_n 3, 1) := by decide +kernel
theorem dX1_median_15 : decode cX1_median 15 = .ok (.iconst 0, 1) := by decide +kernel
theorem dX1_median_16 : decode cX1_median 16 = .ok (.istore 4, 2) := by decide +kernel
theorem dX1_median_18 : decode cX1_median 18 = .ok (.iload 4, 2) := by decide +kernel
theorem dX1_median_20 : decode cX1_median 20 = .ok (.bipush 24, 2) := by decide +kernel
theorem dX1_median_22 : decode cX1_median 22 = .ok (.if_icmp .ge 72, 3) := by decide +kernel
theorem dX1_median_25 : decode cX1_median 25 = .ok (.iload_n 3, 1) := by decide +kernel
theorem dX1_median_26 : decode cX1_median 26 = .ok (.aload_n 0, 1) := by decide +kernel
theorem dX1_median_27 : decode cX1_median 27 = .ok (.getfield 7, 3) := by decide +kernel
theorem dX1_median_30 : decode cX1_median 30 = .ok (.iload_n 2, 1) := by decide +kernel
theorem dX1_median_31 : decode cX1_median 31 = .ok (.baload, 1) := by decide +kernel
theorem dX1_median_32 : decode cX1_median 32 = .ok (.ifCond .eq 53, 3) := by decide +kernel
theorem dX1_median_35 : decode cX1_median 35 = .ok (.aload_n 0, 1) := by decide +kernel
theorem dX1_median_36 : decode cX1_median 36 = .ok (.getfield 7, 3) := by decide +kernel
theorem dX1_median_39 : decode cX1_median 39 = .ok (.iload 4, 2) := by decide +kernel
theorem dX1_median_41 : decode cX1_median 41 = .ok (.baload, 1) := by decide +kernel
theorem dX1_median_42 : decode cX1_median 42 = .ok (.ifCond .eq 43, 3) := by decide +kernel
theorem dX1_median_45 : decode cX1_median 45 = .ok (.aload_n 0, 1) := by decide +kernel
theorem dX1_median_46 : decode cX1_median 46 = .ok (.iload 4, 2) := by decide +kernel
theorem dX1_median_48 : decode cX1_median 48 = .ok (.invokevirtual 57, 3) := by decide +kernel
theorem dX1_median_51 : decode cX1_median 51 = .ok (.aload_n 0, 1) := by decide +kernel
theorem dX1_median_52 : decode cX1_median 52 = .ok (.iload_n 2, 1) := by decide +kernel
theorem dX1_median_53 : decode cX1_median 53 = .ok (.invokevirtual 57, 3) := by decide +kernel
theorem dX1_median_56 : decode cX1_median 56 = .ok (.lcmp, 1) := by decide +kernel
theorem dX1_median_57 : decode cX1_median 57 = .ok (.ifCond .lt 24, 3) := by decide +kernel
theorem dX1_median_60 : decode cX1_median 60 = .ok (.aload_n 0, 1) := by decide +kernel
theorem dX1_median_61 : decode cX1_median 61 = .ok (.iload 4, 2) := by decide +kernel
theorem dX1_median_63 : decode cX1_median 63 = .ok (.invokevirtual 57, 3) := by decide +kernel
theorem dX1_median_66 : decode cX1_median 66 = .ok (.aload_n 0, 1) := by decide +kernel
theorem dX1_median_67 : decode cX1_median 67 = .ok (.iload_n 2, 1) := by decide +kernel
theorem dX1_median_68 : decode cX1_median 68 = .ok (.invokevirtual 57, 3) := by decide +kernel
theorem dX1_median_71 : decode cX1_median 71 = .ok (.lcmp, 1) := by decide +kernel
theorem dX1_median_72 : decode cX1_median 72 = .ok (.ifCond .ne 13, 3) := by decide +kernel
theorem dX1_median_75 : decode cX1_median 75 = .ok (.iload 4, 2) := by decide +kernel
theorem dX1_median_77 : decode cX1_median 77 = .ok (.iload_n 2, 1) := by decide +kernel
theorem dX1_median_78 : decode cX1_median 78 = .ok (.if_icmp .ge 7, 3) := by decide +kernel
theorem dX1_median_81 : decode cX1_median 81 = .ok (.iconst 1, 1) := by decide +kernel
theorem dX1_median_82 : decode cX1_median 82 = .ok (.goto 4, 3) := by decide +kernel
theorem dX1_median_85 : decode cX1_median 85 = .ok (.iconst 0, 1) := by decide +kernel
theorem dX1_median_86 : decode cX1_median 86 = .ok (.iadd, 1) := by decide +kernel
theorem dX1_median_87 : decode cX1_median 87 = .ok (.istore_n 3, 1) := by decide +kernel
theorem dX1_median_88 : decode cX1_median 88 = .ok (.iinc 4 1, 3) := by decide +kernel
theorem dX1_median_91 : decode cX1_median 91 = .ok (.goto (-73), 3) := by decide +kernel
theorem dX1_median_94 : decode cX1_median 94 = .ok (.aload_n 0, 1) := by decide +kernel
theorem dX1_median_95 : decode cX1_median 95 = .ok (.getfield 7, 3) := by decide +kernel
theorem dX1_median_98 : decode cX1_median 98 = .ok (.iload_n 2, 1) := by decide +kernel
theorem dX1_median_99 : decode cX1_median 99 = .ok (.baload, 1) := by decide +kernel
theorem dX1_median_100 : decode cX1_median 100 = .ok (.ifCond .eq 18, 3) := by decide +kernel
theorem dX1_median_103 : decode cX1_median 103 = .ok (.iload_n 3, 1) := by decide +kernel
theorem dX1_median_104 : decode cX1_median 104 = .ok (.iload_n 1, 1) := by decide +kernel
theorem dX1_median_105 : decode cX1_median 105 = .ok (.iconst 1, 1) := by decide +kernel
theorem dX1_median_106 : decode cX1_median 106 = .ok (.isub, 1) := by decide +kernel
theorem dX1_median_107 : decode cX1_median 107 = .ok (.iconst 2, 1) := by decide +kernel
theorem dX1_median_108 : decode cX1_median 108 = .ok (.idiv, 1) := by decide +kernel
theorem dX1_median_109 : decode cX1_median 109 = .ok (.if_icmp .ne 9, 3) := by decide +kernel
theorem dX1_median_112 : decode cX1_median 112 = .ok (.aload_n 0, 1) := by decide +kernel
theorem dX1_median_113 : decode cX1_median 113 = .ok (.iload_n 2, 1) := by decide +kernel
theorem dX1_median_114 : decode cX1_median 114 = .ok (.invokevirtual 57, 3) := by decide +kernel
theorem dX1_median_117 : decode cX1_median 117 = .ok (.lreturn, 1) := by decide +kernel
theorem dX1_median_118 : decode cX1_median 118 = .ok (.iinc 2 1, 3) := by decide +kernel
theorem dX1_median_121 : decode cX1_median 121 = .ok (.goto (-114), 3) := by decide +kernel
theorem dX1_median_124 : decode cX1_median 124 = .ok (.ldc2_w 30, 3) := by decide +kernel
theorem dX1_median_127 : decode cX1_median 127 = .ok (.lreturn, 1) := by decide +kernel
theorem dX1_mean_0 : decode cX1_mean 0 = .ok (.aload_n 0, 1) := by decide +kernel
theorem dX1_mean_1 : decode cX1_mean 1 = .ok (.invokevirtual 48, 3) := by decide +kernel
theorem dX1_mean_4 : decode cX1_mean 4 = .ok (.ifCond .eq 18, 3) := by decide +kernel
theorem dX1_mean_7 : decode cX1_mean 7 = .ok (.lload_n 1, 1) := by decide +kernel
theorem dX1_mean_8 : decode cX1_mean 8 = .ok (.lconst 0, 1) := by decide +kernel
theorem dX1_mean_9 : decode cX1_mean 9 = .ok (.lcmp, 1) := by decide +kernel
theorem dX1_mean_10 : decode cX1_mean 10 = .ok (.ifCond .lt 12, 3) := by decide +kernel
theorem dX1_mean_13 : decode cX1_mean 13 = .ok (.iload_n 3, 1) := by decide +kernel
theorem dX1_mean_14 : decode cX1_mean 14 = .ok (.ifCond .lt 8, 3) := by decide +kernel
theorem dX1_mean_17 : decode cX1_mean 17 = .ok (.iload_n 3, 1) := by decide +kernel
theorem dX1_mean_18 : decode cX1_mean 18 = .ok (.iconst 1, 1) := by decide +kernel
theorem dX1_mean_19 : decode cX1_mean 19 = .ok (.if_icmp .le 7, 3) := by decide +kernel
theorem dX1_mean_22 : decode cX1_mean 22 = .ok (.ldc2_w 30, 3) := by decide +kernel
theorem dX1_mean_25 : decode cX1_mean 25 = .ok (.lreturn, 1) := by decide +kernel
theorem dX1_mean_26 : decode cX1_mean 26 = .ok (.aload_n 0, 1) := by decide +kernel
theorem dX1_mean_27 : decode cX1_mean 27 = .ok (.invokevirtual 60, 3) := by decide +kernel
theorem dX1_mean_30 : decode cX1_mean 30 = .ok (.lstore 4, 2) := by decide +kernel
theorem dX1_mean_32 : decode cX1_mean 32 = .ok (.lconst 0, 1) := by decide +kernel
theorem dX1_mean_33 : decode cX1_mean 33 = .ok (.lstore 6, 2) := by decide +kernel
theorem dX1_mean_35 : decode cX1_mean 35 = .ok (.lconst 0, 1) := by decide +kernel
theorem dX1_mean_36 : decode cX1_mean 36 = .ok (.lstore 8, 2) := by decide +kernel
theorem dX1_mean_38 : decode cX1_mean 38 = .ok (.iconst 0, 1) := by decide +kernel
theorem dX1_mean_39 : decode cX1_mean 39 = .ok (.istore 10, 2) := by decide +kernel
theorem dX1_mean_41 : decode cX1_mean 41 = .ok (.iload 10, 2) := by decide +kernel
theorem dX1_mean_43 : decode cX1_mean 43 = .ok (.bipush 24, 2) := by decide +kernel
theorem dX1_mean_45 : decode cX1_mean 45 = .ok (.if_icmp .ge 53, 3) := by decide +kernel
theorem dX1_mean_48 : decode cX1_mean 48 = .ok (.aload_n 0, 1) := by decide +kernel
theorem dX1_mean_49 : decode cX1_mean 49 = .ok (.getfield 7, 3) := by decide +kernel
theorem dX1_mean_52 : decode cX1_mean 52 = .ok (.iload 10, 2) := by decide +kernel
theorem dX1_mean_54 : decode cX1_mean 54 = .ok (.baload, 1) := by decide +kernel
theorem dX1_mean_55 : decode cX1_mean 55 = .ok (.ifCond .eq 37, 3) := by decide +kernel
theorem dX1_mean_58 : decode cX1_mean 58 = .ok (.aload_n 0, 1) := by decide +kernel
theorem dX1_mean_59 : decode cX1_mean 59 = .ok (.iload 10, 2) := by decide +kernel
theorem dX1_mean_61 : decode cX1_mean 61 = .ok (.invokevirtual 57, 3) := by decide +kernel
theorem dX1_mean_64 : decode cX1_mean 64 = .ok (.lload 4, 2) := by decide +kernel
theorem dX1_mean_66 : decode cX1_mean 66 = .ok (.lsub, 1) := by decide +kernel
theorem dX1_mean_67 : decode cX1_mean 67 = .ok (.invokestatic 64, 3) := by decide +kernel
theorem dX1_mean_70 : decode cX1_mean 70 = .ok (.lload_n 1, 1) := by decide +kernel
theorem dX1_mean_71 : decode cX1_mean 71 = .ok (.lcmp, 1) := by decide +kernel
theorem dX1_mean_72 : decode cX1_mean 72 = .ok (.ifCond .gt 20, 3) := by decide +kernel
theorem dX1_mean_75 : decode cX1_mean 75 = .ok (.lload 6, 2) := by decide +kernel
theorem dX1_mean_77 : decode cX1_mean 77 = .ok (.aload_n 0, 1) := by decide +kernel
theorem dX1_mean_78 : decode cX1_mean 78 = .ok (.iload 10, 2) := by decide +kernel
theorem dX1_mean_80 : decode cX1_mean 80 = .ok (.invokevirtual 57, 3) := by decide +kernel
theorem dX1_mean_83 : decode cX1_mean 83 = .ok (.ladd, 1) := by decide +kernel
theorem dX1_mean_84 : decode cX1_mean 84 = .ok (.lstore 6, 2) := by decide +kernel
theorem dX1_mean_86 : decode cX1_mean 86 = .ok (.lload 8, 2) := by decide +kernel
theorem dX1_mean_88 : decode cX1_mean 88 = .ok (.lconst 1, 1) := by decide +kernel
theorem dX1_mean_89 : decode cX1_mean 89 = .ok (.ladd, 1) := by decide +kernel
theorem dX1_mean_90 : decode cX1_mean 90 = .ok (.lstore 8, 2) := by decide +kernel
theorem dX1_mean_92 : decode cX1_mean 92 = .ok (.iinc 10 1, 3) := by decide +kernel
theorem dX1_mean_95 : decode cX1_mean 95 = .ok (.goto (-54), 3) := by decide +kernel
theorem dX1_mean_98 : decode cX1_mean 98 = .ok (.iload_n 3, 1) := by decide +kernel
theorem dX1_mean_99 : decode cX1_mean 99 = .ok (.ifCond .ne 13, 3) := by decide +kernel
theorem dX1_mean_102 : decode cX1_mean 102 = .ok (.lload 6, 2) := by decide +kernel
theorem dX1_mean_104 : decode cX1_mean 104 = .ok (.lload 8, 2) := by decide +kernel
theorem dX1_mean_106 : decode cX1_mean 106 = .ok (.invokestatic 67, 3) := by decide +kernel
theorem dX1_mean_109 : decode cX1_mean 109 = .ok (.goto 5, 3) := by decide +kernel
theorem dX1_mean_112 : decode cX1_mean 112 = .ok (.lload 8, 2) := by decide +kernel
theorem dX1_mean_114 : decode cX1_mean 114 = .ok (.lreturn, 1) := by decide +kernel
theorem dX1_survivors_0 : decode cX1_survivors 0 = .ok (.iload_n 1, 1) := by decide +kernel
theorem dX1_survivors_1 : decode cX1_survivors 1 = .ok (.iconst 1, 1) := by decide +kernel
theorem dX1_survivors_2 : decode cX1_survivors 2 = .ok (.if_icmp .lt 9, 3) := by decide +kernel
theorem dX1_survivors_5 : decode cX1_survivors 5 = .ok (.iload_n 1, 1) := by decide +kernel
theorem dX1_survivors_6 : decode cX1_survivors 6 = .ok (.bipush 24, 2) := by decide +kernel
theorem dX1_survivors_8 : decode cX1_survivors 8 = .ok (.if_icmp .le 5, 3) := by decide +kernel
theorem dX1_survivors_11 : decode cX1_survivors 11 = .ok (.iconst (-1), 1) := by decide +kernel
theorem dX1_survivors_12 : decode cX1_survivors 12 = .ok (.ireturn, 1) := by decide +kernel
theorem dX1_survivors_13 : decode cX1_survivors 13 = .ok (.iconst 0, 1) := by decide +kernel
theorem dX1_survivors_14 : decode cX1_survivors 14 = .ok (.istore_n 2, 1) := by decide +kernel
theorem dX1_survivors_15 : decode cX1_survivors 15 = .ok (.iconst 0, 1) := by decide +kernel
theorem dX1_survivors_16 : decode cX1_survivors 16 = .ok (.istore_n 3, 1) := by decide +kernel
theorem dX1_survivors_17 : decode cX1_survivors 17 = .ok (.iconst 0, 1) := by decide +kernel
theorem dX1_survivors_18 : decode cX1_survivors 18 = .ok (.istore 4, 2) := by decide +kernel
theorem dX1_survivors_20 : decode cX1_survivors 20 = .ok (.iload 4, 2) := by decide +kernel
theorem dX1_survivors_22 : decode cX1_survivors 22 = .ok (.bipush 24, 2) := by decide +kernel
theorem dX1_survivors_24 : decode cX1_survivors 24 = .ok (.if_icmp .ge 48, 3) := by decide +kernel
theorem dX1_survivors_27 : decode cX1_survivors 27 = .ok (.aload_n 0, 1) := by decide +kernel
theorem dX1_survivors_28 : decode cX1_survivors 28 = .ok (.getfield 7, 3) := by decide +kernel
theorem dX1_survivors_31 : decode cX1_survivors 31 = .ok (.iload 4, 2) := by decide +kernel
theorem dX1_survivors_33 : decode cX1_survivors 33 = .ok (.baload, 1) := by decide +kernel
theorem dX1_survivors_34 : decode cX1_survivors 34 = .ok (.ifCond .eq 12, 3) := by decide +kernel
theorem dX1_survivors_37 : decode cX1_survivors 37 = .ok (.iload_n 2, 1) := by decide +kernel
theorem dX1_survivors_38 : decode cX1_survivors 38 = .ok (.iconst 1, 1) := by decide +kernel
theorem dX1_survivors_39 : decode cX1_survivors 39 = .ok (.iload 4, 2) := by decide +kernel
theorem dX1_survivors_41 : decode cX1_survivors 41 = .ok (.ishl, 1) := by decide +kernel
theorem dX1_survivors_42 : decode cX1_survivors 42 = .ok (.ior, 1) := by decide +kernel
theorem dX1_survivors_43 : decode cX1_survivors 43 = .ok (.goto 4, 3) := by decide +kernel
theorem dX1_survivors_46 : decode cX1_survivors 46 = .ok (.iload_n 2, 1) := by decide +kernel
theorem dX1_survivors_47 : decode cX1_survivors 47 = .ok (.istore_n 2, 1) := by decide +kernel
theorem dX1_survivors_48 : decode cX1_survivors 48 = .ok (.iload_n 3, 1) := by decide +kernel
theorem dX1_survivors_49 : decode cX1_survivors 49 = .ok (.aload_n 0, 1) := by decide +kernel
theorem dX1_survivors_50 : decode cX1_survivors 50 = .ok (.getfield 7, 3) := by decide +kernel
theorem dX1_survivors_53 : decode cX1_survivors 53 = .ok (.iload 4, 2) := by decide +kernel
theorem dX1_survivors_55 : decode cX1_survivors 55 = .ok (.baload, 1) := by decide +kernel
theorem dX1_survivors_56 : decode cX1_survivors 56 = .ok (.ifCond .eq 7, 3) := by decide +kernel
theorem dX1_survivors_59 : decode cX1_survivors 59 = .ok (.iconst 1, 1) := by decide +kernel
theorem dX1_survivors_60 : decode cX1_survivors 60 = .ok (.goto 4, 3) := by decide +kernel
theorem dX1_survivors_63 : decode cX1_survivors 63 = .ok (.iconst 0, 1) := by decide +kernel
theorem dX1_survivors_64 : decode cX1_survivors 64 = .ok (.iadd, 1) := by decide +kernel
theorem dX1_survivors_65 : decode cX1_survivors 65 = .ok (.istore_n 3, 1) := by decide +kernel
theorem dX1_survivors_66 : decode cX1_survivors 66 = .ok (.iinc 4 1, 3) := by decide +kernel
theorem dX1_survivors_69 : decode cX1_survivors 69 = .ok (.goto (-49), 3) := by decide +kernel
theorem dX1_survivors_72 : decode cX1_survivors 72 = .ok (.iload_n 3, 1) := by decide +kernel
theorem dX1_survivors_73 : decode cX1_survivors 73 = .ok (.iload_n 1, 1) := by decide +kernel
theorem dX1_survivors_74 : decode cX1_survivors 74 = .ok (.if_icmp .le 143, 3) := by decide +kernel
theorem dX1_survivors_77 : decode cX1_survivors 77 = .ok (.lconst 0, 1) := by decide +kernel
theorem dX1_survivors_78 : decode cX1_survivors 78 = .ok (.lstore 4, 2) := by decide +kernel
theorem dX1_survivors_80 : decode cX1_survivors 80 = .ok (.iconst 0, 1) := by decide +kernel
theorem dX1_survivors_81 : decode cX1_survivors 81 = .ok (.istore 6, 2) := by decide +kernel
theorem dX1_survivors_83 : decode cX1_survivors 83 = .ok (.iload 6, 2) := by decide +kernel
theorem dX1_survivors_85 : decode cX1_survivors 85 = .ok (.bipush 24, 2) := by decide +kernel
theorem dX1_survivors_87 : decode cX1_survivors 87 = .ok (.if_icmp .ge 34, 3) := by decide +kernel
theorem dX1_survivors_90 : decode cX1_survivors 90 = .ok (.lload 4, 2) := by decide +kernel
theorem dX1_survivors_92 : decode cX1_survivors 92 = .ok (.iload_n 2, 1) := by decide +kernel
theorem dX1_survivors_93 : decode cX1_survivors 93 = .ok (.iload 6, 2) := by decide +kernel
theorem dX1_survivors_95 : decode cX1_survivors 95 = .ok (.ishr, 1) := by decide +kernel
theorem dX1_survivors_96 : decode cX1_survivors 96 = .ok (.iconst 1, 1) := by decide +kernel
theorem dX1_survivors_97 : decode cX1_survivors 97 = .ok (.iand, 1) := by decide +kernel
theorem dX1_survivors_98 : decode cX1_survivors 98 = .ok (.iconst 1, 1) := by decide +kernel
theorem dX1_survivors_99 : decode cX1_survivors 99 = .ok (.if_icmp .ne 12, 3) := by decide +kernel
theorem dX1_survivors_102 : decode cX1_survivors 102 = .ok (.aload_n 0, 1) := by decide +kernel
theorem dX1_survivors_103 : decode cX1_survivors 103 = .ok (.iload 6, 2) := by decide +kernel
theorem dX1_survivors_105 : decode cX1_survivors 105 = .ok (.invokevirtual 57, 3) := by decide +kernel
theorem dX1_survivors_108 : decode cX1_survivors 108 = .ok (.goto 4, 3) := by decide +kernel
theorem dX1_survivors_111 : decode cX1_survivors 111 = .ok (.lconst 0, 1) := by decide +kernel
theorem dX1_survivors_112 : decode cX1_survivors 112 = .ok (.ladd, 1) := by decide +kernel
theorem dX1_survivors_113 : decode cX1_survivors 113 = .ok (.lstore 4, 2) := by decide +kernel
theorem dX1_survivors_115 : decode cX1_survivors 115 = .ok (.iinc 6 1, 3) := by decide +kernel
theorem dX1_survivors_118 : decode cX1_survivors 118 = .ok (.goto (-35), 3) := by decide +kernel
theorem dX1_survivors_121 : decode cX1_survivors 121 = .ok (.lload 4, 2) := by decide +kernel
theorem dX1_survivors_123 : decode cX1_survivors 123 = .ok (.iload_n 3, 1) := by decide +kernel
theorem dX1_survivors_124 : decode cX1_survivors 124 = .ok (.i2l, 1) := by decide +kernel
theorem dX1_survivors_125 : decode cX1_survivors 125 = .ok (.invokestatic 67, 3) := by decide +kernel
theorem dX1_survivors_128 : decode cX1_survivors 128 = .ok (.lstore 6, 2) := by decide +kernel
theorem dX1_survivors_130 : decode cX1_survivors 130 = .ok (.iconst (-1), 1) := by decide +kernel
theorem dX1_survivors_131 : decode cX1_survivors 131 = .ok (.istore 8, 2) := by decide +kernel
theorem dX1_survivors_133 : decode cX1_survivors 133 = .ok (.iconst 0, 1) := by decide +kernel
theorem dX1_survivors_134 : decode cX1_survivors 134 = .ok (.istore 9, 2) := by decide +kernel
theorem dX1_survivors_136 : decode cX1_survivors 136 = .ok (.iload 9, 2) := by decide +kernel
theorem dX1_survivors_138 : decode cX1_survivors 138 = .ok (.bipush 24, 2) := by decide +kernel
theorem dX1_survivors_140 : decode cX1_survivors 140 = .ok (.if_icmp .ge 62, 3) := by decide +kernel
theorem dX1_survivors_143 : decode cX1_survivors 143 = .ok (.iload_n 2, 1) := by decide +kernel
theorem dX1_survivors_144 : decode cX1_survivors 144 = .ok (.iload 9, 2) := by decide +kernel
theorem dX1_survivors_146 : decode cX1_survivors 146 = .ok (.ishr, 1) := by decide +kernel
theorem dX1_survivors_147 : decode cX1_survivors 147 = .ok (.iconst 1, 1) := by decide +kernel
theorem dX1_survivors_148 : decode cX1_survivors 148 = .ok (.iand, 1) := by decide +kernel
theorem dX1_survivors_149 : decode cX1_survivors 149 = .ok (.iconst 1, 1) := by decide +kernel
theorem dX1_survivors_150 : decode cX1_survivors 150 = .ok (.if_icmp .ne 42, 3) := by decide +kernel
theorem dX1_survivors_153 : decode cX1_survivors 153 = .ok (.iload 8, 2) := by decide +kernel
theorem dX1_survivors_155 : decode cX1_survivors 155 = .ok (.iconst (-1), 1) := by decide +kernel
theorem dX1_survivors_156 : decode cX1_survivors 156 = .ok (.if_icmp .eq 31, 3) := by decide +kernel
theorem dX1_survivors_159 : decode cX1_survivors 159 = .ok (.aload_n 0, 1) := by decide +kernel
theorem dX1_survivors_160 : decode cX1_survivors 160 = .ok (.iload 9, 2) := by decide +kernel
theorem dX1_survivors_162 : decode cX1_survivors 162 = .ok (.invokevirtual 57, 3) := by decide +kernel
theorem dX1_survivors_165 : decode cX1_survivors 165 = .ok (.lload 6, 2) := by decide +kernel
theorem dX1_survivors_167 : decode cX1_survivors 167 = .ok (.lsub, 1) := by decide +kernel
theorem dX1_survivors_168 : decode cX1_survivors 168 = .ok (.invokestatic 64, 3) := by decide +kernel
theorem dX1_survivors_171 : decode cX1_survivors 171 = .ok (.aload_n 0, 1) := by decide +kernel
theorem dX1_survivors_172 : decode cX1_survivors 172 = .ok (.iload 8, 2) := by decide +kernel
theorem dX1_survivors_174 : decode cX1_survivors 174 = .ok (.invokevirtual 57, 3) := by decide +kernel
theorem dX1_survivors_177 : decode cX1_survivors 177 = .ok (.lload 6, 2) := by decide +kernel
theorem dX1_survivors_179 : decode cX1_survivors 179 = .ok (.lsub, 1) := by decide +kernel
theorem dX1_survivors_180 : decode cX1_survivors 180 = .ok (.invokestatic 64, 3) := by decide +kernel
theorem dX1_survivors_183 : decode cX1_survivors 183 = .ok (.lcmp, 1) := by decide +kernel
theorem dX1_survivors_184 : decode cX1_survivors 184 = .ok (.ifCond .lt 8, 3) := by decide +kernel
theorem dX1_survivors_187 : decode cX1_survivors 187 = .ok (.iload 9, 2) := by decide +kernel
theorem dX1_survivors_189 : decode cX1_survivors 189 = .ok (.goto 5, 3) := by decide +kernel
theorem dX1_survivors_192 : decode cX1_survivors 192 = .ok (.iload 8, 2) := by decide +kernel
theorem dX1_survivors_194 : decode cX1_survivors 194 = .ok (.istore 8, 2) := by decide +kernel
theorem dX1_survivors_196 : decode cX1_survivors 196 = .ok (.iinc 9 1, 3) := by decide +kernel
theorem dX1_survivors_199 : decode cX1_survivors 199 = .ok (.goto (-63), 3) := by decide +kernel
theorem dX1_survivors_202 : decode cX1_survivors 202 = .ok (.iload_n 2, 1) := by decide +kernel
theorem dX1_survivors_203 : decode cX1_survivors 203 = .ok (.iconst 1, 1) := by decide +kernel
theorem dX1_survivors_204 : decode cX1_survivors 204 = .ok (.iload 8, 2) := by decide +kernel
theorem dX1_survivors_206 : decode cX1_survivors 206 = .ok (.ishl, 1) := by decide +kernel
theorem dX1_survivors_207 : decode cX1_survivors 207 = .ok (.iconst (-1), 1) := by decide +kernel
theorem dX1_survivors_208 : decode cX1_survivors 208 = .ok (.ixor, 1) := by decide +kernel
theorem dX1_survivors_209 : decode cX1_survivors 209 = .ok (.iand, 1) := by decide +kernel
theorem dX1_survivors_210 : decode cX1_survivors 210 = .ok (.istore_n 2, 1) := by decide +kernel
theorem dX1_survivors_211 : decode cX1_survivors 211 = .ok (.iinc 3 (-1), 3) := by decide +kernel
theorem dX1_survivors_214 : decode cX1_survivors 214 = .ok (.goto (-142), 3) := by decide +kernel
theorem dX1_survivors_217 : decode cX1_survivors 217 = .ok (.iload_n 2, 1) := by decide +kernel
theorem dX1_survivors_218 : decode cX1_survivors 218 = .ok (.ireturn, 1) := by decide +kernel
theorem dX1_rank_0 : decode cX1_rank 0 = .ok (.iload_n 2, 1) := by decide +kernel
theorem dX1_rank_1 : decode cX1_rank 1 = .ok (.iconst 1, 1) := by decide +kernel
theorem dX1_rank_2 : decode cX1_rank 2 = .ok (.if_icmp .lt 9, 3) := by decide +kernel
theorem dX1_rank_5 : decode cX1_rank 5 = .ok (.iload_n 2, 1) := by decide +kernel
theorem dX1_rank_6 : decode cX1_rank 6 = .ok (.bipush 24, 2) := by decide +kernel
theorem dX1_rank_8 : decode cX1_rank 8 = .ok (.if_icmp .le 7, 3) := by decide +kernel
theorem dX1_rank_11 : decode cX1_rank 11 = .ok (.iconst 0, 1) := by decide +kernel
theorem dX1_rank_12 : decode cX1_rank 12 = .ok (.goto 8, 3) := by decide +kernel
theorem dX1_rank_15 : decode cX1_rank 15 = .ok (.aload_n 0, 1) := by decide +kernel
theorem dX1_rank_16 : decode cX1_rank 16 = .ok (.iload_n 2, 1) := by decide +kernel
theorem dX1_rank_17 : decode cX1_rank 17 = .ok (.invokevirtual 71, 3) := by decide +kernel
theorem dX1_rank_20 : decode cX1_rank 20 = .ok (.istore_n 3, 1) := by decide +kernel
theorem dX1_rank_21 : decode cX1_rank 21 = .ok (.iload_n 1, 1) := by decide +kernel
theorem dX1_rank_22 : decode cX1_rank 22 = .ok (.invokestatic 20, 3) := by decide +kernel
theorem dX1_rank_25 : decode cX1_rank 25 = .ok (.ifCond .eq 11, 3) := by decide +kernel
theorem dX1_rank_28 : decode cX1_rank 28 = .ok (.iload_n 3, 1) := by decide +kernel
theorem dX1_rank_29 : decode cX1_rank 29 = .ok (.iload_n 1, 1) := by decide +kernel
theorem dX1_rank_30 : decode cX1_rank 30 = .ok (.ishr, 1) := by decide +kernel
theorem dX1_rank_31 : decode cX1_rank 31 = .ok (.iconst 1, 1) := by decide +kernel
theorem dX1_rank_32 : decode cX1_rank 32 = .ok (.iand, 1) := by decide +kernel
theorem dX1_rank_33 : decode cX1_rank 33 = .ok (.ifCond .ne 5, 3) := by decide +kernel
theorem dX1_rank_36 : decode cX1_rank 36 = .ok (.iconst (-1), 1) := by decide +kernel
theorem dX1_rank_37 : decode cX1_rank 37 = .ok (.ireturn, 1) := by decide +kernel
theorem dX1_rank_38 : decode cX1_rank 38 = .ok (.iconst 0, 1) := by decide +kernel
theorem dX1_rank_39 : decode cX1_rank 39 = .ok (.istore 4, 2) := by decide +kernel
theorem dX1_rank_41 : decode cX1_rank 41 = .ok (.iconst 0, 1) := by decide +kernel
theorem dX1_rank_42 : decode cX1_rank 42 = .ok (.istore 5, 2) := by decide +kernel
theorem dX1_rank_44 : decode cX1_rank 44 = .ok (.iload 5, 2) := by decide +kernel
theorem dX1_rank_46 : decode cX1_rank 46 = .ok (.bipush 24, 2) := by decide +kernel
theorem dX1_rank_48 : decode cX1_rank 48 = .ok (.if_icmp .ge 65, 3) := by decide +kernel
theorem dX1_rank_51 : decode cX1_rank 51 = .ok (.iload 4, 2) := by decide +kernel
theorem dX1_rank_53 : decode cX1_rank 53 = .ok (.iload_n 3, 1) := by decide +kernel
theorem dX1_rank_54 : decode cX1_rank 54 = .ok (.iload 5, 2) := by decide +kernel
theorem dX1_rank_56 : decode cX1_rank 56 = .ok (.ishr, 1) := by decide +kernel
theorem dX1_rank_57 : decode cX1_rank 57 = .ok (.iconst 1, 1) := by decide +kernel
theorem dX1_rank_58 : decode cX1_rank 58 = .ok (.iand, 1) := by decide +kernel
theorem dX1_rank_59 : decode cX1_rank 59 = .ok (.iconst 1, 1) := by decide +kernel
theorem dX1_rank_60 : decode cX1_rank 60 = .ok (.if_icmp .ne 43, 3) := by decide +kernel
theorem dX1_rank_63 : decode cX1_rank 63 = .ok (.aload_n 0, 1) := by decide +kernel
theorem dX1_rank_64 : decode cX1_rank 64 = .ok (.iload 5, 2) := by decide +kernel
theorem dX1_rank_66 : decode cX1_rank 66 = .ok (.invokevirtual 57, 3) := by decide +kernel
theorem dX1_rank_69 : decode cX1_rank 69 = .ok (.aload_n 0, 1) := by decide +kernel
theorem dX1_rank_70 : decode cX1_rank 70 = .ok (.iload_n 1, 1) := by decide +kernel
theorem dX1_rank_71 : decode cX1_rank 71 = .ok (.invokevirtual 57, 3) := by decide +kernel
theorem dX1_rank_74 : decode cX1_rank 74 = .ok (.lcmp, 1) := by decide +kernel
theorem dX1_rank_75 : decode cX1_rank 75 = .ok (.ifCond .lt 24, 3) := by decide +kernel
theorem dX1_rank_78 : decode cX1_rank 78 = .ok (.aload_n 0, 1) := by decide +kernel
theorem dX1_rank_79 : decode cX1_rank 79 = .ok (.iload 5, 2) := by decide +kernel
theorem dX1_rank_81 : decode cX1_rank 81 = .ok (.invokevirtual 57, 3) := by decide +kernel
theorem dX1_rank_84 : decode cX1_rank 84 = .ok (.aload_n 0, 1) := by decide +kernel
theorem dX1_rank_85 : decode cX1_rank 85 = .ok (.iload_n 1, 1) := by decide +kernel
theorem dX1_rank_86 : decode cX1_rank 86 = .ok (.invokevirtual 57, 3) := by decide +kernel
theorem dX1_rank_89 : decode cX1_rank 89 = .ok (.lcmp, 1) := by decide +kernel
theorem dX1_rank_90 : decode cX1_rank 90 = .ok (.ifCond .ne 13, 3) := by decide +kernel
theorem dX1_rank_93 : decode cX1_rank 93 = .ok (.iload 5, 2) := by decide +kernel
theorem dX1_rank_95 : decode cX1_rank 95 = .ok (.iload_n 1, 1) := by decide +kernel
theorem dX1_rank_96 : decode cX1_rank 96 = .ok (.if_icmp .ge 7, 3) := by decide +kernel
theorem dX1_rank_99 : decode cX1_rank 99 = .ok (.iconst 1, 1) := by decide +kernel
theorem dX1_rank_100 : decode cX1_rank 100 = .ok (.goto 4, 3) := by decide +kernel
theorem dX1_rank_103 : decode cX1_rank 103 = .ok (.iconst 0, 1) := by decide +kernel
theorem dX1_rank_104 : decode cX1_rank 104 = .ok (.iadd, 1) := by decide +kernel
theorem dX1_rank_105 : decode cX1_rank 105 = .ok (.istore 4, 2) := by decide +kernel
theorem dX1_rank_107 : decode cX1_rank 107 = .ok (.iinc 5 1, 3) := by decide +kernel
theorem dX1_rank_110 : decode cX1_rank 110 = .ok (.goto (-66), 3) := by decide +kernel
theorem dX1_rank_113 : decode cX1_rank 113 = .ok (.iload 4, 2) := by decide +kernel
theorem dX1_rank_115 : decode cX1_rank 115 = .ok (.ireturn, 1) := by decide +kernel
theorem dX1_tick_0 : decode cX1_tick 0 = .ok (.lload_n 1, 1) := by decide +kernel
theorem dX1_tick_1 : decode cX1_tick 1 = .ok (.aload_n 0, 1) := by decide +kernel
theorem dX1_tick_2 : decode cX1_tick 2 = .ok (.getfield 75, 3) := by decide +kernel
theorem dX1_tick_5 : decode cX1_tick 5 = .ok (.lcmp, 1) := by decide +kernel
theorem dX1_tick_6 : decode cX1_tick 6 = .ok (.ifCond .lt 11, 3) := by decide +kernel
theorem dX1_tick_9 : decode cX1_tick 9 = .ok (.lload_n 1, 1) := by decide +kernel
theorem dX1_tick_10 : decode cX1_tick 10 = .ok (.ldc2_w 28, 3) := by decide +kernel
theorem dX1_tick_13 : decode cX1_tick 13 = .ok (.lcmp, 1) := by decide +kernel
theorem dX1_tick_14 : decode cX1_tick 14 = .ok (.ifCond .le 5, 3) := by decide +kernel
theorem dX1_tick_17 : decode cX1_tick 17 = .ok (.iconst 0, 1) := by decide +kernel
theorem dX1_tick_18 : decode cX1_tick 18 = .ok (.ireturn, 1) := by decide +kernel
theorem dX1_tick_19 : decode cX1_tick 19 = .ok (.lload_n 1, 1) := by decide +kernel
theorem dX1_tick_20 : decode cX1_tick 20 = .ok (.aload_n 0, 1) := by decide +kernel
theorem dX1_tick_21 : decode cX1_tick 21 = .ok (.getfield 75, 3) := by decide +kernel
theorem dX1_tick_24 : decode cX1_tick 24 = .ok (.lsub, 1) := by decide +kernel
theorem dX1_tick_25 : decode cX1_tick 25 = .ok (.ldc2_w 79, 3) := by decide +kernel
theorem dX1_tick_28 : decode cX1_tick 28 = .ok (.ldiv, 1) := by decide +kernel
theorem dX1_tick_29 : decode cX1_tick 29 = .ok (.lstore_n 3, 1) := by decide +kernel
theorem dX1_tick_30 : decode cX1_tick 30 = .ok (.aload_n 0, 1) := by decide +kernel
theorem dX1_tick_31 : decode cX1_tick 31 = .ok (.getfield 81, 3) := by decide +kernel
theorem dX1_tick_34 : decode cX1_tick 34 = .ok (.aload_n 0, 1) := by decide +kernel
theorem dX1_tick_35 : decode cX1_tick 35 = .ok (.getfield 84, 3) := by decide +kernel
theorem dX1_tick_38 : decode cX1_tick 38 = .ok (.lsub, 1) := by decide +kernel
theorem dX1_tick_39 : decode cX1_tick 39 = .ok (.lstore 5, 2) := by decide +kernel
theorem dX1_tick_41 : decode cX1_tick 41 = .ok (.aload_n 0, 1) := by decide +kernel
theorem dX1_tick_42 : decode cX1_tick 42 = .ok (.dup, 1) := by decide +kernel
theorem dX1_tick_43 : decode cX1_tick 43 = .ok (.getfield 84, 3) := by decide +kernel
theorem dX1_tick_46 : decode cX1_tick 46 = .ok (.lload 5, 2) := by decide +kernel
theorem dX1_tick_48 : decode cX1_tick 48 = .ok (.lload_n 3, 1) := by decide +kernel
theorem dX1_tick_49 : decode cX1_tick 49 = .ok (.lcmp, 1) := by decide +kernel
theorem dX1_tick_50 : decode cX1_tick 50 = .ok (.ifCond .le 7, 3) := by decide +kernel
theorem dX1_tick_53 : decode cX1_tick 53 = .ok (.lload_n 3, 1) := by decide +kernel
theorem dX1_tick_54 : decode cX1_tick 54 = .ok (.goto 18, 3) := by decide +kernel
theorem dX1_tick_57 : decode cX1_tick 57 = .ok (.lload 5, 2) := by decide +kernel
theorem dX1_tick_59 : decode cX1_tick 59 = .ok (.lload_n 3, 1) := by decide +kernel
theorem dX1_tick_60 : decode cX1_tick 60 = .ok (.lneg, 1) := by decide +kernel
theorem dX1_tick_61 : decode cX1_tick 61 = .ok (.lcmp, 1) := by decide +kernel
theorem dX1_tick_62 : decode cX1_tick 62 = .ok (.ifCond .ge 8, 3) := by decide +kernel
theorem dX1_tick_65 : decode cX1_tick 65 = .ok (.lload_n 3, 1) := by decide +kernel
theorem dX1_tick_66 : decode cX1_tick 66 = .ok (.lneg, 1) := by decide +kernel
theorem dX1_tick_67 : decode cX1_tick 67 = .ok (.goto 5, 3) := by decide +kernel
theorem dX1_tick_70 : decode cX1_tick 70 = .ok (.lload 5, 2) := by decide +kernel
theorem dX1_tick_72 : decode cX1_tick 72 = .ok (.ladd, 1) := by decide +kernel
theorem dX1_tick_73 : decode cX1_tick 73 = .ok (.putfield 84, 3) := by decide +kernel
theorem dX1_tick_76 : decode cX1_tick 76 = .ok (.aload_n 0, 1) := by decide +kernel
theorem dX1_tick_77 : decode cX1_tick 77 = .ok (.lload_n 1, 1) := by decide +kernel
theorem dX1_tick_78 : decode cX1_tick 78 = .ok (.putfield 75, 3) := by decide +kernel
theorem dX1_tick_81 : decode cX1_tick 81 = .ok (.iconst 1, 1) := by decide +kernel
theorem dX1_tick_82 : decode cX1_tick 82 = .ok (.ireturn, 1) := by decide +kernel
theorem dX1_steer_0 : decode cX1_steer 0 = .ok (.iconst 2, 1) := by decide +kernel
theorem dX1_steer_1 : decode cX1_steer 1 = .ok (.aload_n 0, 1) := by decide +kernel
theorem dX1_steer_2 : decode cX1_steer 2 = .ok (.invokevirtual 40, 3) := by decide +kernel
theorem dX1_steer_5 : decode cX1_steer 5 = .ok (.imul, 1) := by decide +kernel
theorem dX1_steer_6 : decode cX1_steer 6 = .ok (.aload_n 0, 1) := by decide +kernel
theorem dX1_steer_7 : decode cX1_steer 7 = .ok (.invokevirtual 48, 3) := by decide +kernel
theorem dX1_steer_10 : decode cX1_steer 10 = .ok (.if_icmp .gt 5, 3) := by decide +kernel
theorem dX1_steer_13 : decode cX1_steer 13 = .ok (.iconst 0, 1) := by decide +kernel
theorem dX1_steer_14 : decode cX1_steer 14 = .ok (.ireturn, 1) := by decide +kernel
theorem dX1_steer_15 : decode cX1_steer 15 = .ok (.aload_n 0, 1) := by decide +kernel
theorem dX1_steer_16 : decode cX1_steer 16 = .ok (.aload_n 0, 1) := by decide +kernel
theorem dX1_steer_17 : decode cX1_steer 17 = .ok (.iconst 0, 1) := by decide +kernel
theorem dX1_steer_18 : decode cX1_steer 18 = .ok (.invokevirtual 54, 3) := by decide +kernel
theorem dX1_steer_21 : decode cX1_steer 21 = .ok (.aload_n 0, 1) := by decide +kernel
theorem dX1_steer_22 : decode cX1_steer 22 = .ok (.iconst 1, 1) := by decide +kernel
theorem dX1_steer_23 : decode cX1_steer 23 = .ok (.invokevirtual 54, 3) := by decide +kernel
theorem dX1_steer_26 : decode cX1_steer 26 = .ok (.ladd, 1) := by decide +kernel
theorem dX1_steer_27 : decode cX1_steer 27 = .ok (.invokestatic 32, 3) := by decide +kernel
theorem dX1_steer_30 : decode cX1_steer 30 = .ok (.putfield 81, 3) := by decide +kernel
theorem dX1_steer_33 : decode cX1_steer 33 = .ok (.iconst 1, 1) := by decide +kernel
theorem dX1_steer_34 : decode cX1_steer 34 = .ok (.ireturn, 1) := by decide +kernel
theorem dX1_read_0 : decode cX1_read 0 = .ok (.aload_n 0, 1) := by decide +kernel
theorem dX1_read_1 : decode cX1_read 1 = .ok (.getfield 75, 3) := by decide +kernel
theorem dX1_read_4 : decode cX1_read 4 = .ok (.aload_n 0, 1) := by decide +kernel
theorem dX1_read_5 : decode cX1_read 5 = .ok (.getfield 84, 3) := by decide +kernel
theorem dX1_read_8 : decode cX1_read 8 = .ok (.ladd, 1) := by decide +kernel
theorem dX1_read_9 : decode cX1_read 9 = .ok (.lreturn, 1) := by decide +kernel
theorem dX1_offset_0 : decode cX1_offset 0 = .ok (.iload_n 1, 1) := by decide +kernel
theorem dX1_offset_1 : decode cX1_offset 1 = .ok (.ifCond .ne 10, 3) := by decide +kernel
theorem dX1_offset_4 : decode cX1_offset 4 = .ok (.aload_n 0, 1) := by decide +kernel
theorem dX1_offset_5 : decode cX1_offset 5 = .ok (.getfield 84, 3) := by decide +kernel
theorem dX1_offset_8 : decode cX1_offset 8 = .ok (.goto 18, 3) := by decide +kernel
theorem dX1_offset_11 : decode cX1_offset 11 = .ok (.iload_n 1, 1) := by decide +kernel
theorem dX1_offset_12 : decode cX1_offset 12 = .ok (.iconst 1, 1) := by decide +kernel
theorem dX1_offset_13 : decode cX1_offset 13 = .ok (.if_icmp .ne 10, 3) := by decide +kernel
theorem dX1_offset_16 : decode cX1_offset 16 = .ok (.aload_n 0, 1) := by decide +kernel
theorem dX1_offset_17 : decode cX1_offset 17 = .ok (.getfield 81, 3) := by decide +kernel
theorem dX1_offset_20 : decode cX1_offset 20 = .ok (.goto 6, 3) := by decide +kernel
theorem dX1_offset_23 : decode cX1_offset 23 = .ok (.ldc2_w 30, 3) := by decide +kernel
theorem dX1_offset_26 : decode cX1_offset 26 = .ok (.lreturn, 1) := by decide +kernel
theorem dX1_settles_0 : decode cX1_settles 0 = .ok (.aload_n 0, 1) := by decide +kernel
theorem dX1_settles_1 : decode cX1_settles 1 = .ok (.getfield 81, 3) := by decide +kernel
theorem dX1_settles_4 : decode cX1_settles 4 = .ok (.aload_n 0, 1) := by decide +kernel
theorem dX1_settles_5 : decode cX1_settles 5 = .ok (.getfield 84, 3) := by decide +kernel
theorem dX1_settles_8 : decode cX1_settles 8 = .ok (.lsub, 1) := by decide +kernel
theorem dX1_settles_9 : decode cX1_settles 9 = .ok (.invokestatic 64, 3) := by decide +kernel
theorem dX1_settles_12 : decode cX1_settles 12 = .ok (.lstore_n 1, 1) := by decide +kernel
theorem dX1_settles_13 : decode cX1_settles 13 = .ok (.lload_n 1, 1) := by decide +kernel
theorem dX1_settles_14 : decode cX1_settles 14 = .ok (.ldc2_w 87, 3) := by decide +kernel
theorem dX1_settles_17 : decode cX1_settles 17 = .ok (.lcmp, 1) := by decide +kernel
theorem dX1_settles_18 : decode cX1_settles 18 = .ok (.ifCond .le 9, 3) := by decide +kernel
theorem dX1_settles_21 : decode cX1_settles 21 = .ok (.ldc2_w 30, 3) := by decide +kernel
theorem dX1_settles_24 : decode cX1_settles 24 = .ok (.goto 8, 3) := by decide +kernel
theorem dX1_settles_27 : decode cX1_settles 27 = .ok (.lload_n 1, 1) := by decide +kernel
theorem dX1_settles_28 : decode cX1_settles 28 = .ok (.ldc2_w 79, 3) := by decide +kernel
theorem dX1_settles_31 : decode cX1_settles 31 = .ok (.lmul, 1) := by decide +kernel
theorem dX1_settles_32 : decode cX1_settles 32 = .ok (.lreturn, 1) := by decide +kernel
end
section
theorem dL_law_0 : decode cL_law 0 = .ok (.new 7, 3) := by decide +kernel
theorem dL_law_3 : decode cL_law 3 = .ok (.dup, 1) := by decide +kernel
theorem dL_law_4 : decode cL_law 4 = .ok (.invokespecial 9, 3) := by decide +kernel
theorem dL_law_7 : decode cL_law 7 = .ok (.astore_n 1, 1) := by decide +kernel
theorem dL_law_8 : decode cL_law 8 = .ok (.new 10, 3) := by decide +kernel
theorem dL_law_11 : decode cL_law 11 = .ok (.dup, 1) := by decide +kernel
theorem dL_law_12 : decode cL_law 12 = .ok (.invokespecial 12, 3) := by decide +kernel
theorem dL_law_15 : decode cL_law 15 = .ok (.astore_n 2, 1) := by decide +kernel
theorem dL_law_16 : decode cL_law 16 = .ok (.iconst 0, 1) := by decide +kernel
theorem dL_law_17 : decode cL_law 17 = .ok (.istore_n 3, 1) := by decide +kernel
theorem dL_law_18 : decode cL_law 18 = .ok (.iload_n 3, 1) := by decide +kernel
theorem dL_law_19 : decode cL_law 19 = .ok (.aload_n 0, 1) := by decide +kernel
theorem dL_law_20 : decode cL_law 20 = .ok (.arraylength, 1) := by decide +kernel
theorem dL_law_21 : decode cL_law 21 = .ok (.bipush 8, 2) := by decide +kernel
theorem dL_law_23 : decode cL_law 23 = .ok (.isub, 1) := by decide +kernel
theorem dL_law_24 : decode cL_law 24 = .ok (.if_icmp .gt 770, 3) := by decide +kernel
theorem dL_law_27 : decode cL_law 27 = .ok (.aload_n 0, 1) := by decide +kernel
theorem dL_law_28 : decode cL_law 28 = .ok (.iload_n 3, 1) := by decide +kernel
theorem dL_law_29 : decode cL_law 29 = .ok (.iaload, 1) := by decide +kernel
theorem dL_law_30 : decode cL_law 30 = .ok (.bipush 31, 2) := by decide +kernel
theorem dL_law_32 : decode cL_law 32 = .ok (.iand, 1) := by decide +kernel
theorem dL_law_33 : decode cL_law 33 = .ok (.tableswitch 755 0 16 #[83, 186, 334, 357, 370, 423, 436, 460, 494, 517, 581, 604, 637, 690, 703, 717, 741], 83) := by decide +kernel
theorem dL_law_116 : decode cL_law 116 = .ok (.aload_n 1, 1) := by decide +kernel
theorem dL_law_117 : decode cL_law 117 = .ok (.aload_n 0, 1) := by decide +kernel
theorem dL_law_118 : decode cL_law 118 = .ok (.iload_n 3, 1) := by decide +kernel
theorem dL_law_119 : decode cL_law 119 = .ok (.iconst 1, 1) := by decide +kernel
theorem dL_law_120 : decode cL_law 120 = .ok (.iadd, 1) := by decide +kernel
theorem dL_law_121 : decode cL_law 121 = .ok (.iaload, 1) := by decide +kernel
theorem dL_law_122 : decode cL_law 122 = .ok (.aload_n 0, 1) := by decide +kernel
theorem dL_law_123 : decode cL_law 123 = .ok (.iload_n 3, 1) := by decide +kernel
theorem dL_law_124 : decode cL_law 124 = .ok (.iconst 2, 1) := by decide +kernel
theorem dL_law_125 : decode cL_law 125 = .ok (.iadd, 1) := by decide +kernel
theorem dL_law_126 : decode cL_law 126 = .ok (.iaload, 1) := by decide +kernel
theorem dL_law_127 : decode cL_law 127 = .ok (.i2l, 1) := by decide +kernel
theorem dL_law_128 : decode cL_law 128 = .ok (.bipush 32, 2) := by decide +kernel
theorem dL_law_130 : decode cL_law 130 = .ok (.lshl, 1) := by decide +kernel
theorem dL_law_131 : decode cL_law 131 = .ok (.aload_n 0, 1) := by decide +kernel
theorem dL_law_132 : decode cL_law 132 = .ok (.iload_n 3, 1) := by decide +kernel
theorem dL_law_133 : decode cL_law 133 = .ok (.iconst 3, 1) := by decide +kernel
theorem dL_law_134 : decode cL_law 134 = .ok (.iadd, 1) := by decide +kernel
theorem dL_law_135 : decode cL_law 135 = .ok (.iaload, 1) := by decide +kernel
theorem dL_law_136 : decode cL_law 136 = .ok (.i2l, 1) := by decide +kernel
theorem dL_law_137 : decode cL_law 137 = .ok (.ldc2_w 13, 3) := by decide +kernel
theorem dL_law_140 : decode cL_law 140 = .ok (.land, 1) := by decide +kernel
theorem dL_law_141 : decode cL_law 141 = .ok (.lor, 1) := by decide +kernel
theorem dL_law_142 : decode cL_law 142 = .ok (.aload_n 0, 1) := by decide +kernel
theorem dL_law_143 : decode cL_law 143 = .ok (.iload_n 3, 1) := by decide +kernel
theorem dL_law_144 : decode cL_law 144 = .ok (.iconst 4, 1) := by decide +kernel
theorem dL_law_145 : decode cL_law 145 = .ok (.iadd, 1) := by decide +kernel
theorem dL_law_146 : decode cL_law 146 = .ok (.iaload, 1) := by decide +kernel
theorem dL_law_147 : decode cL_law 147 = .ok (.i2l, 1) := by decide +kernel
theorem dL_law_148 : decode cL_law 148 = .ok (.bipush 32, 2) := by decide +kernel
theorem dL_law_150 : decode cL_law 150 = .ok (.lshl, 1) := by decide +kernel
theorem dL_law_151 : decode cL_law 151 = .ok (.aload_n 0, 1) := by decide +kernel
theorem dL_law_152 : decode cL_law 152 = .ok (.iload_n 3, 1) := by decide +kernel
theorem dL_law_153 : decode cL_law 153 = .ok (.iconst 5, 1) := by decide +kernel
theorem dL_law_154 : decode cL_law 154 = .ok (.iadd, 1) := by decide +kernel
theorem dL_law_155 : decode cL_law 155 = .ok (.iaload, 1) := by decide +kernel
theorem dL_law_156 : decode cL_law 156 = .ok (.i2l, 1) := by decide +kernel
theorem dL_law_157 : decode cL_law 157 = .ok (.ldc2_w 13, 3) := by decide +kernel
theorem dL_law_160 : decode cL_law 160 = .ok (.land, 1) := by decide +kernel
theorem dL_law_161 : decode cL_law 161 = .ok (.lor, 1) := by decide +kernel
theorem dL_law_162 : decode cL_law 162 = .ok (.invokevirtual 15, 3) := by decide +kernel
theorem dL_law_165 : decode cL_law 165 = .ok (.aload_n 2, 1) := by decide +kernel
theorem dL_law_166 : decode cL_law 166 = .ok (.aload_n 0, 1) := by decide +kernel
theorem dL_law_167 : decode cL_law 167 = .ok (.iload_n 3, 1) := by decide +kernel
theorem dL_law_168 : decode cL_law 168 = .ok (.iconst 1, 1) := by decide +kernel
theorem dL_law_169 : decode cL_law 169 = .ok (.iadd, 1) := by decide +kernel
theorem dL_law_170 : decode cL_law 170 = .ok (.iaload, 1) := by decide +kernel
theorem dL_law_171 : decode cL_law 171 = .ok (.aload_n 0, 1) := by decide +kernel
theorem dL_law_172 : decode cL_law 172 = .ok (.iload_n 3, 1) := by decide +kernel
theorem dL_law_173 : decode cL_law 173 = .ok (.iconst 2, 1) := by decide +kernel
theorem dL_law_174 : decode cL_law 174 = .ok (.iadd, 1) := by decide +kernel
theorem dL_law_175 : decode cL_law 175 = .ok (.iaload, 1) := by decide +kernel
theorem dL_law_176 : decode cL_law 176 = .ok (.i2l, 1) := by decide +kernel
theorem dL_law_177 : decode cL_law 177 = .ok (.bipush 32, 2) := by decide +kernel
theorem dL_law_179 : decode cL_law 179 = .ok (.lshl, 1) := by decide +kernel
theorem dL_law_180 : decode cL_law 180 = .ok (.aload_n 0, 1) := by decide +kernel
theorem dL_law_181 : decode cL_law 181 = .ok (.iload_n 3, 1) := by decide +kernel
theorem dL_law_182 : decode cL_law 182 = .ok (.iconst 3, 1) := by decide +kernel
theorem dL_law_183 : decode cL_law 183 = .ok (.iadd, 1) := by decide +kernel
theorem dL_law_184 : decode cL_law 184 = .ok (.iaload, 1) := by decide +kernel
theorem dL_law_185 : decode cL_law 185 = .ok (.i2l, 1) := by decide +kernel
theorem dL_law_186 : decode cL_law 186 = .ok (.ldc2_w 13, 3) := by decide +kernel
theorem dL_law_189 : decode cL_law 189 = .ok (.land, 1) := by decide +kernel
theorem dL_law_190 : decode cL_law 190 = .ok (.lor, 1) := by decide +kernel
theorem dL_law_191 : decode cL_law 191 = .ok (.aload_n 0, 1) := by decide +kernel
theorem dL_law_192 : decode cL_law 192 = .ok (.iload_n 3, 1) := by decide +kernel
theorem dL_law_193 : decode cL_law 193 = .ok (.iconst 4, 1) := by decide +kernel
theorem dL_law_194 : decode cL_law 194 = .ok (.iadd, 1) := by decide +kernel
theorem dL_law_195 : decode cL_law 195 = .ok (.iaload, 1) := by decide +kernel
theorem dL_law_196 : decode cL_law 196 = .ok (.i2l, 1) := by decide +kernel
theorem dL_law_197 : decode cL_law 197 = .ok (.bipush 32, 2) := by decide +kernel
theorem dL_law_199 : decode cL_law 199 = .ok (.lshl, 1) := by decide +kernel
theorem dL_law_200 : decode cL_law 200 = .ok (.aload_n 0, 1) := by decide +kernel
theorem dL_law_201 : decode cL_law 201 = .ok (.iload_n 3, 1) := by decide +kernel
theorem dL_law_202 : decode cL_law 202 = .ok (.iconst 5, 1) := by decide +kernel
theorem dL_law_203 : decode cL_law 203 = .ok (.iadd, 1) := by decide +kernel
theorem dL_law_204 : decode cL_law 204 = .ok (.iaload, 1) := by decide +kernel
theorem dL_law_205 : decode cL_law 205 = .ok (.i2l, 1) := by decide +kernel
theorem dL_law_206 : decode cL_law 206 = .ok (.ldc2_w 13, 3) := by decide +kernel
theorem dL_law_209 : decode cL_law 209 = .ok (.land, 1) := by decide +kernel
theorem dL_law_210 : decode cL_law 210 = .ok (.lor, 1) := by decide +kernel
theorem dL_law_211 : decode cL_law 211 = .ok (.invokevirtual 19, 3) := by decide +kernel
theorem dL_law_214 : decode cL_law 214 = .ok (.if_icmp .eq 574, 3) := by decide +kernel
theorem dL_law_217 : decode cL_law 217 = .ok (.iconst 0, 1) := by decide +kernel
theorem dL_law_218 : decode cL_law 218 = .ok (.ireturn, 1) := by decide +kernel
theorem dL_law_219 : decode cL_law 219 = .ok (.aload_n 1, 1) := by decide +kernel
theorem dL_law_220 : decode cL_law 220 = .ok (.aload_n 0, 1) := by decide +kernel
theorem dL_law_221 : decode cL_law 221 = .ok (.iload_n 3, 1) := by decide +kernel
theorem dL_law_222 : decode cL_law 222 = .ok (.iconst 1, 1) := by decide +kernel
theorem dL_law_223 : decode cL_law 223 = .ok (.iadd, 1) := by decide +kernel
theorem dL_law_224 : decode cL_law 224 = .ok (.iaload, 1) := by decide +kernel
theorem dL_law_225 : decode cL_law 225 = .ok (.aload_n 0, 1) := by decide +kernel
theorem dL_law_226 : decode cL_law 226 = .ok (.iload_n 3, 1) := by decide +kernel
theorem dL_law_227 : decode cL_law 227 = .ok (.iconst 2, 1) := by decide +kernel
theorem dL_law_228 : decode cL_law 228 = .ok (.iadd, 1) := by decide +kernel
theorem dL_law_229 : decode cL_law 229 = .ok (.iaload, 1) := by decide +kernel
theorem dL_law_230 : decode cL_law 230 = .ok (.i2l, 1) := by decide +kernel
theorem dL_law_231 : decode cL_law 231 = .ok (.bipush 32, 2) := by decide +kernel
theorem dL_law_233 : decode cL_law 233 = .ok (.lshl, 1) := by decide +kernel
theorem dL_law_234 : decode cL_law 234 = .ok (.aload_n 0, 1) := by decide +kernel
theorem dL_law_235 : decode cL_law 235 = .ok (.iload_n 3, 1) := by decide +kernel
theorem dL_law_236 : decode cL_law 236 = .ok (.iconst 3, 1) := by decide +kernel
theorem dL_law_237 : decode cL_law 237 = .ok (.iadd, 1) := by decide +kernel
theorem dL_law_238 : decode cL_law 238 = .ok (.iaload, 1) := by decide +kernel
theorem dL_law_239 : decode cL_law 239 = .ok (.i2l, 1) := by decide +kernel
theorem dL_law_240 : decode cL_law 240 = .ok (.ldc2_w 13, 3) := by decide +kernel
theorem dL_law_243 : decode cL_law 243 = .ok (.land, 1) := by decide +kernel
theorem dL_law_244 : decode cL_law 244 = .ok (.lor, 1) := by decide +kernel
theorem dL_law_245 : decode cL_law 245 = .ok (.aload_n 0, 1) := by decide +kernel
theorem dL_law_246 : decode cL_law 246 = .ok (.iload_n 3, 1) := by decide +kernel
theorem dL_law_247 : decode cL_law 247 = .ok (.iconst 4, 1) := by decide +kernel
theorem dL_law_248 : decode cL_law 248 = .ok (.iadd, 1) := by decide +kernel
theorem dL_law_249 : decode cL_law 249 = .ok (.iaload, 1) := by decide +kernel
theorem dL_law_250 : decode cL_law 250 = .ok (.i2l, 1) := by decide +kernel
theorem dL_law_251 : decode cL_law 251 = .ok (.bipush 32, 2) := by decide +kernel
theorem dL_law_253 : decode cL_law 253 = .ok (.lshl, 1) := by decide +kernel
theorem dL_law_254 : decode cL_law 254 = .ok (.aload_n 0, 1) := by decide +kernel
theorem dL_law_255 : decode cL_law 255 = .ok (.iload_n 3, 1) := by decide +kernel
end
section
theorem dL_law_256 : decode cL_law 256 = .ok (.iconst 5, 1) := by decide +kernel
theorem dL_law_257 : decode cL_law 257 = .ok (.iadd, 1) := by decide +kernel
theorem dL_law_258 : decode cL_law 258 = .ok (.iaload, 1) := by decide +kernel
theorem dL_law_259 : decode cL_law 259 = .ok (.i2l, 1) := by decide +kernel
theorem dL_law_260 : decode cL_law 260 = .ok (.ldc2_w 13, 3) := by decide +kernel
theorem dL_law_263 : decode cL_law 263 = .ok (.land, 1) := by decide +kernel
theorem dL_law_264 : decode cL_law 264 = .ok (.lor, 1) := by decide +kernel
theorem dL_law_265 : decode cL_law 265 = .ok (.aload_n 0, 1) := by decide +kernel
theorem dL_law_266 : decode cL_law 266 = .ok (.iload_n 3, 1) := by decide +kernel
theorem dL_law_267 : decode cL_law 267 = .ok (.bipush 6, 2) := by decide +kernel
theorem dL_law_269 : decode cL_law 269 = .ok (.iadd, 1) := by decide +kernel
theorem dL_law_270 : decode cL_law 270 = .ok (.iaload, 1) := by decide +kernel
theorem dL_law_271 : decode cL_law 271 = .ok (.i2l, 1) := by decide +kernel
theorem dL_law_272 : decode cL_law 272 = .ok (.bipush 32, 2) := by decide +kernel
theorem dL_law_274 : decode cL_law 274 = .ok (.lshl, 1) := by decide +kernel
theorem dL_law_275 : decode cL_law 275 = .ok (.aload_n 0, 1) := by decide +kernel
theorem dL_law_276 : decode cL_law 276 = .ok (.iload_n 3, 1) := by decide +kernel
theorem dL_law_277 : decode cL_law 277 = .ok (.bipush 7, 2) := by decide +kernel
theorem dL_law_279 : decode cL_law 279 = .ok (.iadd, 1) := by decide +kernel
theorem dL_law_280 : decode cL_law 280 = .ok (.iaload, 1) := by decide +kernel
theorem dL_law_281 : decode cL_law 281 = .ok (.i2l, 1) := by decide +kernel
theorem dL_law_282 : decode cL_law 282 = .ok (.ldc2_w 13, 3) := by decide +kernel
theorem dL_law_285 : decode cL_law 285 = .ok (.land, 1) := by decide +kernel
theorem dL_law_286 : decode cL_law 286 = .ok (.lor, 1) := by decide +kernel
theorem dL_law_287 : decode cL_law 287 = .ok (.invokevirtual 20, 3) := by decide +kernel
theorem dL_law_290 : decode cL_law 290 = .ok (.aload_n 2, 1) := by decide +kernel
theorem dL_law_291 : decode cL_law 291 = .ok (.aload_n 0, 1) := by decide +kernel
theorem dL_law_292 : decode cL_law 292 = .ok (.iload_n 3, 1) := by decide +kernel
theorem dL_law_293 : decode cL_law 293 = .ok (.iconst 1, 1) := by decide +kernel
theorem dL_law_294 : decode cL_law 294 = .ok (.iadd, 1) := by decide +kernel
theorem dL_law_295 : decode cL_law 295 = .ok (.iaload, 1) := by decide +kernel
theorem dL_law_296 : decode cL_law 296 = .ok (.aload_n 0, 1) := by decide +kernel
theorem dL_law_297 : decode cL_law 297 = .ok (.iload_n 3, 1) := by decide +kernel
theorem dL_law_298 : decode cL_law 298 = .ok (.iconst 2, 1) := by decide +kernel
theorem dL_law_299 : decode cL_law 299 = .ok (.iadd, 1) := by decide +kernel
theorem dL_law_300 : decode cL_law 300 = .ok (.iaload, 1) := by decide +kernel
theorem dL_law_301 : decode cL_law 301 = .ok (.i2l, 1) := by decide +kernel
theorem dL_law_302 : decode cL_law 302 = .ok (.bipush 32, 2) := by decide +kernel
theorem dL_law_304 : decode cL_law 304 = .ok (.lshl, 1) := by decide +kernel
theorem dL_law_305 : decode cL_law 305 = .ok (.aload_n 0, 1) := by decide +kernel
theorem dL_law_306 : decode cL_law 306 = .ok (.iload_n 3, 1) := by decide +kernel
theorem dL_law_307 : decode cL_law 307 = .ok (.iconst 3, 1) := by decide +kernel
theorem dL_law_308 : decode cL_law 308 = .ok (.iadd, 1) := by decide +kernel
theorem dL_law_309 : decode cL_law 309 = .ok (.iaload, 1) := by decide +kernel
theorem dL_law_310 : decode cL_law 310 = .ok (.i2l, 1) := by decide +kernel
theorem dL_law_311 : decode cL_law 311 = .ok (.ldc2_w 13, 3) := by decide +kernel
theorem dL_law_314 : decode cL_law 314 = .ok (.land, 1) := by decide +kernel
theorem dL_law_315 : decode cL_law 315 = .ok (.lor, 1) := by decide +kernel
theorem dL_law_316 : decode cL_law 316 = .ok (.aload_n 0, 1) := by decide +kernel
theorem dL_law_317 : decode cL_law 317 = .ok (.iload_n 3, 1) := by decide +kernel
theorem dL_law_318 : decode cL_law 318 = .ok (.iconst 4, 1) := by decide +kernel
theorem dL_law_319 : decode cL_law 319 = .ok (.iadd, 1) := by decide +kernel
theorem dL_law_320 : decode cL_law 320 = .ok (.iaload, 1) := by decide +kernel
theorem dL_law_321 : decode cL_law 321 = .ok (.i2l, 1) := by decide +kernel
theorem dL_law_322 : decode cL_law 322 = .ok (.bipush 32, 2) := by decide +kernel
theorem dL_law_324 : decode cL_law 324 = .ok (.lshl, 1) := by decide +kernel
theorem dL_law_325 : decode cL_law 325 = .ok (.aload_n 0, 1) := by decide +kernel
theorem dL_law_326 : decode cL_law 326 = .ok (.iload_n 3, 1) := by decide +kernel
theorem dL_law_327 : decode cL_law 327 = .ok (.iconst 5, 1) := by decide +kernel
theorem dL_law_328 : decode cL_law 328 = .ok (.iadd, 1) := by decide +kernel
theorem dL_law_329 : decode cL_law 329 = .ok (.iaload, 1) := by decide +kernel
theorem dL_law_330 : decode cL_law 330 = .ok (.i2l, 1) := by decide +kernel
theorem dL_law_331 : decode cL_law 331 = .ok (.ldc2_w 13, 3) := by decide +kernel
theorem dL_law_334 : decode cL_law 334 = .ok (.land, 1) := by decide +kernel
theorem dL_law_335 : decode cL_law 335 = .ok (.lor, 1) := by decide +kernel
theorem dL_law_336 : decode cL_law 336 = .ok (.aload_n 0, 1) := by decide +kernel
theorem dL_law_337 : decode cL_law 337 = .ok (.iload_n 3, 1) := by decide +kernel
theorem dL_law_338 : decode cL_law 338 = .ok (.bipush 6, 2) := by decide +kernel
theorem dL_law_340 : decode cL_law 340 = .ok (.iadd, 1) := by decide +kernel
theorem dL_law_341 : decode cL_law 341 = .ok (.iaload, 1) := by decide +kernel
theorem dL_law_342 : decode cL_law 342 = .ok (.i2l, 1) := by decide +kernel
theorem dL_law_343 : decode cL_law 343 = .ok (.bipush 32, 2) := by decide +kernel
theorem dL_law_345 : decode cL_law 345 = .ok (.lshl, 1) := by decide +kernel
theorem dL_law_346 : decode cL_law 346 = .ok (.aload_n 0, 1) := by decide +kernel
theorem dL_law_347 : decode cL_law 347 = .ok (.iload_n 3, 1) := by decide +kernel
theorem dL_law_348 : decode cL_law 348 = .ok (.bipush 7, 2) := by decide +kernel
theorem dL_law_350 : decode cL_law 350 = .ok (.iadd, 1) := by decide +kernel
theorem dL_law_351 : decode cL_law 351 = .ok (.iaload, 1) := by decide +kernel
theorem dL_law_352 : decode cL_law 352 = .ok (.i2l, 1) := by decide +kernel
theorem dL_law_353 : decode cL_law 353 = .ok (.ldc2_w 13, 3) := by decide +kernel
theorem dL_law_356 : decode cL_law 356 = .ok (.land, 1) := by decide +kernel
theorem dL_law_357 : decode cL_law 357 = .ok (.lor, 1) := by decide +kernel
theorem dL_law_358 : decode cL_law 358 = .ok (.invokevirtual 24, 3) := by decide +kernel
theorem dL_law_361 : decode cL_law 361 = .ok (.lcmp, 1) := by decide +kernel
theorem dL_law_362 : decode cL_law 362 = .ok (.ifCond .eq 426, 3) := by decide +kernel
theorem dL_law_365 : decode cL_law 365 = .ok (.iconst 0, 1) := by decide +kernel
theorem dL_law_366 : decode cL_law 366 = .ok (.ireturn, 1) := by decide +kernel
theorem dL_law_367 : decode cL_law 367 = .ok (.aload_n 1, 1) := by decide +kernel
theorem dL_law_368 : decode cL_law 368 = .ok (.aload_n 0, 1) := by decide +kernel
theorem dL_law_369 : decode cL_law 369 = .ok (.iload_n 3, 1) := by decide +kernel
theorem dL_law_370 : decode cL_law 370 = .ok (.iconst 1, 1) := by decide +kernel
theorem dL_law_371 : decode cL_law 371 = .ok (.iadd, 1) := by decide +kernel
theorem dL_law_372 : decode cL_law 372 = .ok (.iaload, 1) := by decide +kernel
theorem dL_law_373 : decode cL_law 373 = .ok (.invokevirtual 25, 3) := by decide +kernel
theorem dL_law_376 : decode cL_law 376 = .ok (.aload_n 2, 1) := by decide +kernel
theorem dL_law_377 : decode cL_law 377 = .ok (.aload_n 0, 1) := by decide +kernel
theorem dL_law_378 : decode cL_law 378 = .ok (.iload_n 3, 1) := by decide +kernel
theorem dL_law_379 : decode cL_law 379 = .ok (.iconst 1, 1) := by decide +kernel
theorem dL_law_380 : decode cL_law 380 = .ok (.iadd, 1) := by decide +kernel
theorem dL_law_381 : decode cL_law 381 = .ok (.iaload, 1) := by decide +kernel
theorem dL_law_382 : decode cL_law 382 = .ok (.invokevirtual 29, 3) := by decide +kernel
theorem dL_law_385 : decode cL_law 385 = .ok (.if_icmp .eq 403, 3) := by decide +kernel
theorem dL_law_388 : decode cL_law 388 = .ok (.iconst 0, 1) := by decide +kernel
theorem dL_law_389 : decode cL_law 389 = .ok (.ireturn, 1) := by decide +kernel
theorem dL_law_390 : decode cL_law 390 = .ok (.aload_n 1, 1) := by decide +kernel
theorem dL_law_391 : decode cL_law 391 = .ok (.invokevirtual 30, 3) := by decide +kernel
theorem dL_law_394 : decode cL_law 394 = .ok (.aload_n 2, 1) := by decide +kernel
theorem dL_law_395 : decode cL_law 395 = .ok (.invokevirtual 34, 3) := by decide +kernel
theorem dL_law_398 : decode cL_law 398 = .ok (.if_icmp .eq 390, 3) := by decide +kernel
theorem dL_law_401 : decode cL_law 401 = .ok (.iconst 0, 1) := by decide +kernel
theorem dL_law_402 : decode cL_law 402 = .ok (.ireturn, 1) := by decide +kernel
theorem dL_law_403 : decode cL_law 403 = .ok (.aload_n 1, 1) := by decide +kernel
theorem dL_law_404 : decode cL_law 404 = .ok (.aload_n 0, 1) := by decide +kernel
theorem dL_law_405 : decode cL_law 405 = .ok (.iload_n 3, 1) := by decide +kernel
theorem dL_law_406 : decode cL_law 406 = .ok (.iconst 1, 1) := by decide +kernel
theorem dL_law_407 : decode cL_law 407 = .ok (.iadd, 1) := by decide +kernel
theorem dL_law_408 : decode cL_law 408 = .ok (.iaload, 1) := by decide +kernel
theorem dL_law_409 : decode cL_law 409 = .ok (.i2l, 1) := by decide +kernel
theorem dL_law_410 : decode cL_law 410 = .ok (.bipush 32, 2) := by decide +kernel
theorem dL_law_412 : decode cL_law 412 = .ok (.lshl, 1) := by decide +kernel
theorem dL_law_413 : decode cL_law 413 = .ok (.aload_n 0, 1) := by decide +kernel
theorem dL_law_414 : decode cL_law 414 = .ok (.iload_n 3, 1) := by decide +kernel
theorem dL_law_415 : decode cL_law 415 = .ok (.iconst 2, 1) := by decide +kernel
theorem dL_law_416 : decode cL_law 416 = .ok (.iadd, 1) := by decide +kernel
theorem dL_law_417 : decode cL_law 417 = .ok (.iaload, 1) := by decide +kernel
theorem dL_law_418 : decode cL_law 418 = .ok (.i2l, 1) := by decide +kernel
theorem dL_law_419 : decode cL_law 419 = .ok (.ldc2_w 13, 3) := by decide +kernel
theorem dL_law_422 : decode cL_law 422 = .ok (.land, 1) := by decide +kernel
theorem dL_law_423 : decode cL_law 423 = .ok (.lor, 1) := by decide +kernel
theorem dL_law_424 : decode cL_law 424 = .ok (.invokevirtual 35, 3) := by decide +kernel
theorem dL_law_427 : decode cL_law 427 = .ok (.aload_n 2, 1) := by decide +kernel
theorem dL_law_428 : decode cL_law 428 = .ok (.aload_n 0, 1) := by decide +kernel
theorem dL_law_429 : decode cL_law 429 = .ok (.iload_n 3, 1) := by decide +kernel
theorem dL_law_430 : decode cL_law 430 = .ok (.iconst 1, 1) := by decide +kernel
theorem dL_law_431 : decode cL_law 431 = .ok (.iadd, 1) := by decide +kernel
theorem dL_law_432 : decode cL_law 432 = .ok (.iaload, 1) := by decide +kernel
theorem dL_law_433 : decode cL_law 433 = .ok (.i2l, 1) := by decide +kernel
theorem dL_law_434 : decode cL_law 434 = .ok (.bipush 32, 2) := by decide +kernel
theorem dL_law_436 : decode cL_law 436 = .ok (.lshl, 1) := by decide +kernel
theorem dL_law_437 : decode cL_law 437 = .ok (.aload_n 0, 1) := by decide +kernel
end
section
theorem dL_law_438 : decode cL_law 438 = .ok (.iload_n 3, 1) := by decide +kernel
theorem dL_law_439 : decode cL_law 439 = .ok (.iconst 2, 1) := by decide +kernel
theorem dL_law_440 : decode cL_law 440 = .ok (.iadd, 1) := by decide +kernel
theorem dL_law_441 : decode cL_law 441 = .ok (.iaload, 1) := by decide +kernel
theorem dL_law_442 : decode cL_law 442 = .ok (.i2l, 1) := by decide +kernel
theorem dL_law_443 : decode cL_law 443 = .ok (.ldc2_w 13, 3) := by decide +kernel
theorem dL_law_446 : decode cL_law 446 = .ok (.land, 1) := by decide +kernel
theorem dL_law_447 : decode cL_law 447 = .ok (.lor, 1) := by decide +kernel
theorem dL_law_448 : decode cL_law 448 = .ok (.invokevirtual 39, 3) := by decide +kernel
theorem dL_law_451 : decode cL_law 451 = .ok (.if_icmp .eq 337, 3) := by decide +kernel
theorem dL_law_454 : decode cL_law 454 = .ok (.iconst 0, 1) := by decide +kernel
theorem dL_law_455 : decode cL_law 455 = .ok (.ireturn, 1) := by decide +kernel
theorem dL_law_456 : decode cL_law 456 = .ok (.aload_n 1, 1) := by decide +kernel
theorem dL_law_457 : decode cL_law 457 = .ok (.invokevirtual 40, 3) := by decide +kernel
theorem dL_law_460 : decode cL_law 460 = .ok (.aload_n 2, 1) := by decide +kernel
theorem dL_law_461 : decode cL_law 461 = .ok (.invokevirtual 43, 3) := by decide +kernel
theorem dL_law_464 : decode cL_law 464 = .ok (.if_icmp .eq 324, 3) := by decide +kernel
theorem dL_law_467 : decode cL_law 467 = .ok (.iconst 0, 1) := by decide +kernel
theorem dL_law_468 : decode cL_law 468 = .ok (.ireturn, 1) := by decide +kernel
theorem dL_law_469 : decode cL_law 469 = .ok (.aload_n 1, 1) := by decide +kernel
theorem dL_law_470 : decode cL_law 470 = .ok (.aload_n 0, 1) := by decide +kernel
theorem dL_law_471 : decode cL_law 471 = .ok (.iload_n 3, 1) := by decide +kernel
theorem dL_law_472 : decode cL_law 472 = .ok (.iconst 1, 1) := by decide +kernel
theorem dL_law_473 : decode cL_law 473 = .ok (.iadd, 1) := by decide +kernel
theorem dL_law_474 : decode cL_law 474 = .ok (.iaload, 1) := by decide +kernel
theorem dL_law_475 : decode cL_law 475 = .ok (.invokevirtual 44, 3) := by decide +kernel
theorem dL_law_478 : decode cL_law 478 = .ok (.aload_n 2, 1) := by decide +kernel
theorem dL_law_479 : decode cL_law 479 = .ok (.aload_n 0, 1) := by decide +kernel
theorem dL_law_480 : decode cL_law 480 = .ok (.iload_n 3, 1) := by decide +kernel
theorem dL_law_481 : decode cL_law 481 = .ok (.iconst 1, 1) := by decide +kernel
theorem dL_law_482 : decode cL_law 482 = .ok (.iadd, 1) := by decide +kernel
theorem dL_law_483 : decode cL_law 483 = .ok (.iaload, 1) := by decide +kernel
theorem dL_law_484 : decode cL_law 484 = .ok (.invokevirtual 48, 3) := by decide +kernel
theorem dL_law_487 : decode cL_law 487 = .ok (.lcmp, 1) := by decide +kernel
theorem dL_law_488 : decode cL_law 488 = .ok (.ifCond .eq 300, 3) := by decide +kernel
theorem dL_law_491 : decode cL_law 491 = .ok (.iconst 0, 1) := by decide +kernel
theorem dL_law_492 : decode cL_law 492 = .ok (.ireturn, 1) := by decide +kernel
theorem dL_law_493 : decode cL_law 493 = .ok (.aload_n 1, 1) := by decide +kernel
theorem dL_law_494 : decode cL_law 494 = .ok (.aload_n 0, 1) := by decide +kernel
theorem dL_law_495 : decode cL_law 495 = .ok (.iload_n 3, 1) := by decide +kernel
theorem dL_law_496 : decode cL_law 496 = .ok (.iconst 1, 1) := by decide +kernel
theorem dL_law_497 : decode cL_law 497 = .ok (.iadd, 1) := by decide +kernel
theorem dL_law_498 : decode cL_law 498 = .ok (.iaload, 1) := by decide +kernel
theorem dL_law_499 : decode cL_law 499 = .ok (.aload_n 0, 1) := by decide +kernel
theorem dL_law_500 : decode cL_law 500 = .ok (.iload_n 3, 1) := by decide +kernel
theorem dL_law_501 : decode cL_law 501 = .ok (.iconst 2, 1) := by decide +kernel
theorem dL_law_502 : decode cL_law 502 = .ok (.iadd, 1) := by decide +kernel
theorem dL_law_503 : decode cL_law 503 = .ok (.iaload, 1) := by decide +kernel
theorem dL_law_504 : decode cL_law 504 = .ok (.invokevirtual 49, 3) := by decide +kernel
theorem dL_law_507 : decode cL_law 507 = .ok (.aload_n 2, 1) := by decide +kernel
theorem dL_law_508 : decode cL_law 508 = .ok (.aload_n 0, 1) := by decide +kernel
theorem dL_law_509 : decode cL_law 509 = .ok (.iload_n 3, 1) := by decide +kernel
theorem dL_law_510 : decode cL_law 510 = .ok (.iconst 1, 1) := by decide +kernel
theorem dL_law_511 : decode cL_law 511 = .ok (.iadd, 1) := by decide +kernel
theorem dL_law_512 : decode cL_law 512 = .ok (.iaload, 1) := by decide +kernel
theorem dL_law_513 : decode cL_law 513 = .ok (.aload_n 0, 1) := by decide +kernel
theorem dL_law_514 : decode cL_law 514 = .ok (.iload_n 3, 1) := by decide +kernel
theorem dL_law_515 : decode cL_law 515 = .ok (.iconst 2, 1) := by decide +kernel
theorem dL_law_516 : decode cL_law 516 = .ok (.iadd, 1) := by decide +kernel
theorem dL_law_517 : decode cL_law 517 = .ok (.iaload, 1) := by decide +kernel
theorem dL_law_518 : decode cL_law 518 = .ok (.invokevirtual 53, 3) := by decide +kernel
theorem dL_law_521 : decode cL_law 521 = .ok (.lcmp, 1) := by decide +kernel
theorem dL_law_522 : decode cL_law 522 = .ok (.ifCond .eq 266, 3) := by decide +kernel
theorem dL_law_525 : decode cL_law 525 = .ok (.iconst 0, 1) := by decide +kernel
theorem dL_law_526 : decode cL_law 526 = .ok (.ireturn, 1) := by decide +kernel
theorem dL_law_527 : decode cL_law 527 = .ok (.aload_n 1, 1) := by decide +kernel
theorem dL_law_528 : decode cL_law 528 = .ok (.aload_n 0, 1) := by decide +kernel
theorem dL_law_529 : decode cL_law 529 = .ok (.iload_n 3, 1) := by decide +kernel
theorem dL_law_530 : decode cL_law 530 = .ok (.iconst 1, 1) := by decide +kernel
theorem dL_law_531 : decode cL_law 531 = .ok (.iadd, 1) := by decide +kernel
theorem dL_law_532 : decode cL_law 532 = .ok (.iaload, 1) := by decide +kernel
theorem dL_law_533 : decode cL_law 533 = .ok (.invokevirtual 54, 3) := by decide +kernel
theorem dL_law_536 : decode cL_law 536 = .ok (.aload_n 2, 1) := by decide +kernel
theorem dL_law_537 : decode cL_law 537 = .ok (.aload_n 0, 1) := by decide +kernel
theorem dL_law_538 : decode cL_law 538 = .ok (.iload_n 3, 1) := by decide +kernel
theorem dL_law_539 : decode cL_law 539 = .ok (.iconst 1, 1) := by decide +kernel
theorem dL_law_540 : decode cL_law 540 = .ok (.iadd, 1) := by decide +kernel
theorem dL_law_541 : decode cL_law 541 = .ok (.iaload, 1) := by decide +kernel
theorem dL_law_542 : decode cL_law 542 = .ok (.invokevirtual 57, 3) := by decide +kernel
theorem dL_law_545 : decode cL_law 545 = .ok (.if_icmp .eq 243, 3) := by decide +kernel
theorem dL_law_548 : decode cL_law 548 = .ok (.iconst 0, 1) := by decide +kernel
theorem dL_law_549 : decode cL_law 549 = .ok (.ireturn, 1) := by decide +kernel
theorem dL_law_550 : decode cL_law 550 = .ok (.aload_n 1, 1) := by decide +kernel
theorem dL_law_551 : decode cL_law 551 = .ok (.aload_n 0, 1) := by decide +kernel
theorem dL_law_552 : decode cL_law 552 = .ok (.iload_n 3, 1) := by decide +kernel
theorem dL_law_553 : decode cL_law 553 = .ok (.iconst 1, 1) := by decide +kernel
theorem dL_law_554 : decode cL_law 554 = .ok (.iadd, 1) := by decide +kernel
theorem dL_law_555 : decode cL_law 555 = .ok (.iaload, 1) := by decide +kernel
theorem dL_law_556 : decode cL_law 556 = .ok (.i2l, 1) := by decide +kernel
theorem dL_law_557 : decode cL_law 557 = .ok (.bipush 32, 2) := by decide +kernel
theorem dL_law_559 : decode cL_law 559 = .ok (.lshl, 1) := by decide +kernel
theorem dL_law_560 : decode cL_law 560 = .ok (.aload_n 0, 1) := by decide +kernel
theorem dL_law_561 : decode cL_law 561 = .ok (.iload_n 3, 1) := by decide +kernel
theorem dL_law_562 : decode cL_law 562 = .ok (.iconst 2, 1) := by decide +kernel
theorem dL_law_563 : decode cL_law 563 = .ok (.iadd, 1) := by decide +kernel
theorem dL_law_564 : decode cL_law 564 = .ok (.iaload, 1) := by decide +kernel
theorem dL_law_565 : decode cL_law 565 = .ok (.i2l, 1) := by decide +kernel
theorem dL_law_566 : decode cL_law 566 = .ok (.ldc2_w 13, 3) := by decide +kernel
theorem dL_law_569 : decode cL_law 569 = .ok (.land, 1) := by decide +kernel
theorem dL_law_570 : decode cL_law 570 = .ok (.lor, 1) := by decide +kernel
theorem dL_law_571 : decode cL_law 571 = .ok (.aload_n 0, 1) := by decide +kernel
theorem dL_law_572 : decode cL_law 572 = .ok (.iload_n 3, 1) := by decide +kernel
theorem dL_law_573 : decode cL_law 573 = .ok (.iconst 3, 1) := by decide +kernel
theorem dL_law_574 : decode cL_law 574 = .ok (.iadd, 1) := by decide +kernel
theorem dL_law_575 : decode cL_law 575 = .ok (.iaload, 1) := by decide +kernel
theorem dL_law_576 : decode cL_law 576 = .ok (.invokevirtual 58, 3) := by decide +kernel
theorem dL_law_579 : decode cL_law 579 = .ok (.aload_n 2, 1) := by decide +kernel
theorem dL_law_580 : decode cL_law 580 = .ok (.aload_n 0, 1) := by decide +kernel
theorem dL_law_581 : decode cL_law 581 = .ok (.iload_n 3, 1) := by decide +kernel
theorem dL_law_582 : decode cL_law 582 = .ok (.iconst 1, 1) := by decide +kernel
theorem dL_law_583 : decode cL_law 583 = .ok (.iadd, 1) := by decide +kernel
theorem dL_law_584 : decode cL_law 584 = .ok (.iaload, 1) := by decide +kernel
theorem dL_law_585 : decode cL_law 585 = .ok (.i2l, 1) := by decide +kernel
theorem dL_law_586 : decode cL_law 586 = .ok (.bipush 32, 2) := by decide +kernel
theorem dL_law_588 : decode cL_law 588 = .ok (.lshl, 1) := by decide +kernel
theorem dL_law_589 : decode cL_law 589 = .ok (.aload_n 0, 1) := by decide +kernel
theorem dL_law_590 : decode cL_law 590 = .ok (.iload_n 3, 1) := by decide +kernel
theorem dL_law_591 : decode cL_law 591 = .ok (.iconst 2, 1) := by decide +kernel
theorem dL_law_592 : decode cL_law 592 = .ok (.iadd, 1) := by decide +kernel
theorem dL_law_593 : decode cL_law 593 = .ok (.iaload, 1) := by decide +kernel
theorem dL_law_594 : decode cL_law 594 = .ok (.i2l, 1) := by decide +kernel
theorem dL_law_595 : decode cL_law 595 = .ok (.ldc2_w 13, 3) := by decide +kernel
theorem dL_law_598 : decode cL_law 598 = .ok (.land, 1) := by decide +kernel
theorem dL_law_599 : decode cL_law 599 = .ok (.lor, 1) := by decide +kernel
theorem dL_law_600 : decode cL_law 600 = .ok (.aload_n 0, 1) := by decide +kernel
theorem dL_law_601 : decode cL_law 601 = .ok (.iload_n 3, 1) := by decide +kernel
theorem dL_law_602 : decode cL_law 602 = .ok (.iconst 3, 1) := by decide +kernel
theorem dL_law_603 : decode cL_law 603 = .ok (.iadd, 1) := by decide +kernel
theorem dL_law_604 : decode cL_law 604 = .ok (.iaload, 1) := by decide +kernel
theorem dL_law_605 : decode cL_law 605 = .ok (.invokevirtual 62, 3) := by decide +kernel
theorem dL_law_608 : decode cL_law 608 = .ok (.lcmp, 1) := by decide +kernel
theorem dL_law_609 : decode cL_law 609 = .ok (.ifCond .eq 179, 3) := by decide +kernel
theorem dL_law_612 : decode cL_law 612 = .ok (.iconst 0, 1) := by decide +kernel
theorem dL_law_613 : decode cL_law 613 = .ok (.ireturn, 1) := by decide +kernel
theorem dL_law_614 : decode cL_law 614 = .ok (.aload_n 1, 1) := by decide +kernel
theorem dL_law_615 : decode cL_law 615 = .ok (.aload_n 0, 1) := by decide +kernel
theorem dL_law_616 : decode cL_law 616 = .ok (.iload_n 3, 1) := by decide +kernel
theorem dL_law_617 : decode cL_law 617 = .ok (.iconst 1, 1) := by decide +kernel
theorem dL_law_618 : decode cL_law 618 = .ok (.iadd, 1) := by decide +kernel
theorem dL_law_619 : decode cL_law 619 = .ok (.iaload, 1) := by decide +kernel
end
section
theorem dL_law_620 : decode cL_law 620 = .ok (.invokevirtual 63, 3) := by decide +kernel
theorem dL_law_623 : decode cL_law 623 = .ok (.aload_n 2, 1) := by decide +kernel
theorem dL_law_624 : decode cL_law 624 = .ok (.aload_n 0, 1) := by decide +kernel
theorem dL_law_625 : decode cL_law 625 = .ok (.iload_n 3, 1) := by decide +kernel
theorem dL_law_626 : decode cL_law 626 = .ok (.iconst 1, 1) := by decide +kernel
theorem dL_law_627 : decode cL_law 627 = .ok (.iadd, 1) := by decide +kernel
theorem dL_law_628 : decode cL_law 628 = .ok (.iaload, 1) := by decide +kernel
theorem dL_law_629 : decode cL_law 629 = .ok (.invokevirtual 67, 3) := by decide +kernel
theorem dL_law_632 : decode cL_law 632 = .ok (.if_icmp .eq 156, 3) := by decide +kernel
theorem dL_law_635 : decode cL_law 635 = .ok (.iconst 0, 1) := by decide +kernel
theorem dL_law_636 : decode cL_law 636 = .ok (.ireturn, 1) := by decide +kernel
theorem dL_law_637 : decode cL_law 637 = .ok (.aload_n 1, 1) := by decide +kernel
theorem dL_law_638 : decode cL_law 638 = .ok (.aload_n 0, 1) := by decide +kernel
theorem dL_law_639 : decode cL_law 639 = .ok (.iload_n 3, 1) := by decide +kernel
theorem dL_law_640 : decode cL_law 640 = .ok (.iconst 1, 1) := by decide +kernel
theorem dL_law_641 : decode cL_law 641 = .ok (.iadd, 1) := by decide +kernel
theorem dL_law_642 : decode cL_law 642 = .ok (.iaload, 1) := by decide +kernel
theorem dL_law_643 : decode cL_law 643 = .ok (.aload_n 0, 1) := by decide +kernel
theorem dL_law_644 : decode cL_law 644 = .ok (.iload_n 3, 1) := by decide +kernel
theorem dL_law_645 : decode cL_law 645 = .ok (.iconst 2, 1) := by decide +kernel
theorem dL_law_646 : decode cL_law 646 = .ok (.iadd, 1) := by decide +kernel
theorem dL_law_647 : decode cL_law 647 = .ok (.iaload, 1) := by decide +kernel
theorem dL_law_648 : decode cL_law 648 = .ok (.invokevirtual 68, 3) := by decide +kernel
theorem dL_law_651 : decode cL_law 651 = .ok (.aload_n 2, 1) := by decide +kernel
theorem dL_law_652 : decode cL_law 652 = .ok (.aload_n 0, 1) := by decide +kernel
theorem dL_law_653 : decode cL_law 653 = .ok (.iload_n 3, 1) := by decide +kernel
theorem dL_law_654 : decode cL_law 654 = .ok (.iconst 1, 1) := by decide +kernel
theorem dL_law_655 : decode cL_law 655 = .ok (.iadd, 1) := by decide +kernel
theorem dL_law_656 : decode cL_law 656 = .ok (.iaload, 1) := by decide +kernel
theorem dL_law_657 : decode cL_law 657 = .ok (.aload_n 0, 1) := by decide +kernel
theorem dL_law_658 : decode cL_law 658 = .ok (.iload_n 3, 1) := by decide +kernel
theorem dL_law_659 : decode cL_law 659 = .ok (.iconst 2, 1) := by decide +kernel
theorem dL_law_660 : decode cL_law 660 = .ok (.iadd, 1) := by decide +kernel
theorem dL_law_661 : decode cL_law 661 = .ok (.iaload, 1) := by decide +kernel
theorem dL_law_662 : decode cL_law 662 = .ok (.invokevirtual 72, 3) := by decide +kernel
theorem dL_law_665 : decode cL_law 665 = .ok (.if_icmp .eq 123, 3) := by decide +kernel
theorem dL_law_668 : decode cL_law 668 = .ok (.iconst 0, 1) := by decide +kernel
theorem dL_law_669 : decode cL_law 669 = .ok (.ireturn, 1) := by decide +kernel
theorem dL_law_670 : decode cL_law 670 = .ok (.aload_n 1, 1) := by decide +kernel
theorem dL_law_671 : decode cL_law 671 = .ok (.aload_n 0, 1) := by decide +kernel
theorem dL_law_672 : decode cL_law 672 = .ok (.iload_n 3, 1) := by decide +kernel
theorem dL_law_673 : decode cL_law 673 = .ok (.iconst 1, 1) := by decide +kernel
theorem dL_law_674 : decode cL_law 674 = .ok (.iadd, 1) := by decide +kernel
theorem dL_law_675 : decode cL_law 675 = .ok (.iaload, 1) := by decide +kernel
theorem dL_law_676 : decode cL_law 676 = .ok (.i2l, 1) := by decide +kernel
theorem dL_law_677 : decode cL_law 677 = .ok (.bipush 32, 2) := by decide +kernel
theorem dL_law_679 : decode cL_law 679 = .ok (.lshl, 1) := by decide +kernel
theorem dL_law_680 : decode cL_law 680 = .ok (.aload_n 0, 1) := by decide +kernel
theorem dL_law_681 : decode cL_law 681 = .ok (.iload_n 3, 1) := by decide +kernel
theorem dL_law_682 : decode cL_law 682 = .ok (.iconst 2, 1) := by decide +kernel
theorem dL_law_683 : decode cL_law 683 = .ok (.iadd, 1) := by decide +kernel
theorem dL_law_684 : decode cL_law 684 = .ok (.iaload, 1) := by decide +kernel
theorem dL_law_685 : decode cL_law 685 = .ok (.i2l, 1) := by decide +kernel
theorem dL_law_686 : decode cL_law 686 = .ok (.ldc2_w 13, 3) := by decide +kernel
theorem dL_law_689 : decode cL_law 689 = .ok (.land, 1) := by decide +kernel
theorem dL_law_690 : decode cL_law 690 = .ok (.lor, 1) := by decide +kernel
theorem dL_law_691 : decode cL_law 691 = .ok (.invokevirtual 73, 3) := by decide +kernel
theorem dL_law_694 : decode cL_law 694 = .ok (.aload_n 2, 1) := by decide +kernel
theorem dL_law_695 : decode cL_law 695 = .ok (.aload_n 0, 1) := by decide +kernel
theorem dL_law_696 : decode cL_law 696 = .ok (.iload_n 3, 1) := by decide +kernel
theorem dL_law_697 : decode cL_law 697 = .ok (.iconst 1, 1) := by decide +kernel
theorem dL_law_698 : decode cL_law 698 = .ok (.iadd, 1) := by decide +kernel
theorem dL_law_699 : decode cL_law 699 = .ok (.iaload, 1) := by decide +kernel
theorem dL_law_700 : decode cL_law 700 = .ok (.i2l, 1) := by decide +kernel
theorem dL_law_701 : decode cL_law 701 = .ok (.bipush 32, 2) := by decide +kernel
theorem dL_law_703 : decode cL_law 703 = .ok (.lshl, 1) := by decide +kernel
theorem dL_law_704 : decode cL_law 704 = .ok (.aload_n 0, 1) := by decide +kernel
theorem dL_law_705 : decode cL_law 705 = .ok (.iload_n 3, 1) := by decide +kernel
theorem dL_law_706 : decode cL_law 706 = .ok (.iconst 2, 1) := by decide +kernel
theorem dL_law_707 : decode cL_law 707 = .ok (.iadd, 1) := by decide +kernel
theorem dL_law_708 : decode cL_law 708 = .ok (.iaload, 1) := by decide +kernel
theorem dL_law_709 : decode cL_law 709 = .ok (.i2l, 1) := by decide +kernel
theorem dL_law_710 : decode cL_law 710 = .ok (.ldc2_w 13, 3) := by decide +kernel
theorem dL_law_713 : decode cL_law 713 = .ok (.land, 1) := by decide +kernel
theorem dL_law_714 : decode cL_law 714 = .ok (.lor, 1) := by decide +kernel
theorem dL_law_715 : decode cL_law 715 = .ok (.invokevirtual 77, 3) := by decide +kernel
theorem dL_law_718 : decode cL_law 718 = .ok (.if_icmp .eq 70, 3) := by decide +kernel
theorem dL_law_721 : decode cL_law 721 = .ok (.iconst 0, 1) := by decide +kernel
theorem dL_law_722 : decode cL_law 722 = .ok (.ireturn, 1) := by decide +kernel
theorem dL_law_723 : decode cL_law 723 = .ok (.aload_n 1, 1) := by decide +kernel
theorem dL_law_724 : decode cL_law 724 = .ok (.invokevirtual 78, 3) := by decide +kernel
theorem dL_law_727 : decode cL_law 727 = .ok (.aload_n 2, 1) := by decide +kernel
theorem dL_law_728 : decode cL_law 728 = .ok (.invokevirtual 82, 3) := by decide +kernel
theorem dL_law_731 : decode cL_law 731 = .ok (.if_icmp .eq 57, 3) := by decide +kernel
theorem dL_law_734 : decode cL_law 734 = .ok (.iconst 0, 1) := by decide +kernel
theorem dL_law_735 : decode cL_law 735 = .ok (.ireturn, 1) := by decide +kernel
theorem dL_law_736 : decode cL_law 736 = .ok (.aload_n 1, 1) := by decide +kernel
theorem dL_law_737 : decode cL_law 737 = .ok (.invokevirtual 83, 3) := by decide +kernel
theorem dL_law_740 : decode cL_law 740 = .ok (.aload_n 2, 1) := by decide +kernel
theorem dL_law_741 : decode cL_law 741 = .ok (.invokevirtual 87, 3) := by decide +kernel
theorem dL_law_744 : decode cL_law 744 = .ok (.lcmp, 1) := by decide +kernel
theorem dL_law_745 : decode cL_law 745 = .ok (.ifCond .eq 43, 3) := by decide +kernel
theorem dL_law_748 : decode cL_law 748 = .ok (.iconst 0, 1) := by decide +kernel
theorem dL_law_749 : decode cL_law 749 = .ok (.ireturn, 1) := by decide +kernel
theorem dL_law_750 : decode cL_law 750 = .ok (.aload_n 1, 1) := by decide +kernel
theorem dL_law_751 : decode cL_law 751 = .ok (.aload_n 0, 1) := by decide +kernel
theorem dL_law_752 : decode cL_law 752 = .ok (.iload_n 3, 1) := by decide +kernel
theorem dL_law_753 : decode cL_law 753 = .ok (.iconst 1, 1) := by decide +kernel
theorem dL_law_754 : decode cL_law 754 = .ok (.iadd, 1) := by decide +kernel
theorem dL_law_755 : decode cL_law 755 = .ok (.iaload, 1) := by decide +kernel
theorem dL_law_756 : decode cL_law 756 = .ok (.invokevirtual 88, 3) := by decide +kernel
theorem dL_law_759 : decode cL_law 759 = .ok (.aload_n 2, 1) := by decide +kernel
theorem dL_law_760 : decode cL_law 760 = .ok (.aload_n 0, 1) := by decide +kernel
theorem dL_law_761 : decode cL_law 761 = .ok (.iload_n 3, 1) := by decide +kernel
theorem dL_law_762 : decode cL_law 762 = .ok (.iconst 1, 1) := by decide +kernel
theorem dL_law_763 : decode cL_law 763 = .ok (.iadd, 1) := by decide +kernel
theorem dL_law_764 : decode cL_law 764 = .ok (.iaload, 1) := by decide +kernel
theorem dL_law_765 : decode cL_law 765 = .ok (.invokevirtual 91, 3) := by decide +kernel
theorem dL_law_768 : decode cL_law 768 = .ok (.lcmp, 1) := by decide +kernel
theorem dL_law_769 : decode cL_law 769 = .ok (.ifCond .eq 19, 3) := by decide +kernel
theorem dL_law_772 : decode cL_law 772 = .ok (.iconst 0, 1) := by decide +kernel
theorem dL_law_773 : decode cL_law 773 = .ok (.ireturn, 1) := by decide +kernel
theorem dL_law_774 : decode cL_law 774 = .ok (.aload_n 1, 1) := by decide +kernel
theorem dL_law_775 : decode cL_law 775 = .ok (.invokevirtual 92, 3) := by decide +kernel
theorem dL_law_778 : decode cL_law 778 = .ok (.aload_n 2, 1) := by decide +kernel
theorem dL_law_779 : decode cL_law 779 = .ok (.invokevirtual 95, 3) := by decide +kernel
theorem dL_law_782 : decode cL_law 782 = .ok (.lcmp, 1) := by decide +kernel
theorem dL_law_783 : decode cL_law 783 = .ok (.ifCond .eq 5, 3) := by decide +kernel
theorem dL_law_786 : decode cL_law 786 = .ok (.iconst 0, 1) := by decide +kernel
theorem dL_law_787 : decode cL_law 787 = .ok (.ireturn, 1) := by decide +kernel
theorem dL_law_788 : decode cL_law 788 = .ok (.iinc 3 8, 3) := by decide +kernel
theorem dL_law_791 : decode cL_law 791 = .ok (.goto (-773), 3) := by decide +kernel
theorem dL_law_794 : decode cL_law 794 = .ok (.iconst 1, 1) := by decide +kernel
theorem dL_law_795 : decode cL_law 795 = .ok (.ireturn, 1) := by decide +kernel
end
section
-- base rows: the reading contract, calls of reading methods, loops
def ck_R (v : Value) : Array Value → State → Outcome → State → Prop := fun _ st o t => o = .returned (some v) ∧ t.heap = st.heap
abbrev ck_B (D : va_G) (w : va_W) (tys : List (ClassId × FieldType)) : State → Prop := fun U => va_P D vwCl w U.heap ∧ va_K D vwCl tys U
theorem lv_eqq {ls : Array Slot} {n : Nat} {l l' : List (Nat × Value)} (h : lv_has ls n l) (e : l = l') : lv_has ls n l' := e ▸ h
theorem ck_loop {G : Array Slot → Prop} {nL : Nat} (N : Nat) (J : Nat → Prop) (L : Nat → List (Nat × Value)) (step : ∀ i, i ≤ N → J i → (∀ ls, i < N → J (i + 1) → lv_has ls nL (L (i + 1)) → G ls) → ∀ ls, lv_has ls nL (L i) → G ls) (ls : Array Slot) (h0 : J 0) (h : lv_has ls nL (L 0)) : G ls := by
  have key : ∀ k i, i ≤ N → N - i ≤ k → J i → ∀ ls, lv_has ls nL (L i) → G ls := by
    intro k
    induction k with
    | zero => intro i hi hk hj; exact step i hi hj (fun ls hlt _ _ => absurd hlt (by omega))
    | succ k ih => intro i hi hk hj; exact step i hi hj (fun ls hlt hj2 hl => ih (i + 1) hlt (by omega) hj2 ls hl)
  exact key N 0 (Nat.zero_le _) (by omega) h0 ls h
theorem ck_eqN {i : Nat} (h : i ≤ 24) (c : (24 : Int32) ≤ nI i) : i = 24 := by
  rcases Nat.lt_or_ge i 24 with q | q
  · exact absurd (show nI 24 ≤ nI i from c) (nI_ge q (by decide))
  · omega
theorem ck_ltN {i : Nat} (h : i ≤ 24) (c : ¬ (24 : Int32) ≤ nI i) : i < 24 := by
  rcases Nat.lt_or_ge i 24 with q | q
  · exact q
  · exact absurd (show (24 : Int32) ≤ nI i from nI_le q (by omega)) c
def ck_b (b : Bool) : Int32 := if b then 1 else 0
theorem ck_bf {b : Bool} (h : ck_b b = 0) : b = false := by
  cases b with
  | false => rfl
  | true => exact absurd h (by decide)
theorem ck_bt {b : Bool} (h : ¬ ck_b b = 0) : b = true := by
  cases b with
  | true => rfl
  | false => exact absurd (by decide) h
section CK
variable {p : Program} {l : Launch} {e : Env} {R : Room} {s : State} {m : MethodId} {args : Array Value} {below : List Frame} {meth : Method} {c : Code} {H : Heap} {locs : List Loc} {cells slots : Nat} {Q : State → Prop}
variable {Ts ws : List Cond} {cc bytes : ByteArray} {nL maxL index n pc : Nat} {own C : String} {y : MethodName} {ret : Option FieldType} {rm : Room} {b : Addr} {As rest st : List Value} {ls : Array Slot} {D : va_G} {w : va_W} {tys : List (ClassId × FieldType)} {v : Value}
theorem ck_cV (S : CallFix p m c cc nL s args Ts own) (hM : Met l y ws rm (va_Pc (.ref b :: As) (ck_B D w tys)) (ck_R v) 0 0 (fun _ => False)) (cw : CallW R s args own C index y bytes maxL ret ws rm 0 0 n) (hP : va_P D vwCl w H) (hK : va_K D vwCl tys s) (hrv : ∃ cellB : Cell, H[b]? = some cellB ∧ cellB.vm.isStatics = false ∧ s.vm.findClass C = some cellB.cls) (hn : As.length = n) (hsize : ls.size = nL) (hst : st = As.reverse ++ .ref b :: rest) (hW : (rest.map fun v => v.category).sum ≤ 8) (hdg : decode cc pc = .ok (.invokevirtual index, 3)) (hf : cells + 0 ≤ R.cells ∧ slots + 0 ≤ R.slots)
    (kk : W p l e R s m args below meth c H locs cells slots Q (F0 m (pc + 3) ls (v :: rest))) : W p l e R s m args below meth c H locs cells slots Q (F0 m pc ls st) := by
  intro T hT X
  obtain ⟨v', st₀, t, T', L, h0, X', hL, e1, ⟨hv, hh⟩, go⟩ := W.runV (rest := rest) (g := F0 m pc ls st) S hM cw ⟨fun a U g mk q => by obtain ⟨q0, qP, qK⟩ := q; exact ⟨q0, qP, va_K.moved (u := U) (U := U.calling g mk a) (Vm.Alike.refl U.vm) qK⟩, hrv, fun U hU hWm => ⟨rfl, by rw [hU]; exact hP, va_K.moved hWm.alike hK⟩⟩ rfl hn hsize hst (lv_room hW) hdg hf T hT X
  cases hv
  obtain ⟨t2, a1, b1⟩ := kk T' (by rw [e1, hh, h0]) (Stand.forget X' (fun q h => (hL q h).elim))
  exact ⟨t2, go t2 a1, b1⟩
theorem ck_cS (S : CallFix p m c cc nL s args Ts own) (hM : Met l y ws rm (va_Pc As (fun _ => True)) (ck_R v) 0 0 (fun _ => False)) (cw : CallB R s args own index y bytes maxL ret ws rm 0 0 n ∧ (Cond.static y).before args s = true) (hn : As.length = n) (hsize : ls.size = nL) (hst : st = As.reverse ++ rest) (hW : (rest.map fun v => v.category).sum ≤ 8) (hdg : decode cc pc = .ok (.invokestatic index, 3)) (hf : cells + 0 ≤ R.cells ∧ slots + 0 ≤ R.slots)
    (kk : W p l e R s m args below meth c H locs cells slots Q (F0 m (pc + 3) ls (v :: rest))) : W p l e R s m args below meth c H locs cells slots Q (F0 m pc ls st) := by
  intro T hT X
  obtain ⟨v', st₀, t, T', L, h0, X', hL, e1, ⟨hv, hh⟩, go⟩ := W.runS (rest := rest) (g := F0 m pc ls st) S hM cw ⟨fun a U g mk q => q, fun U hU hWm => ⟨rfl, trivial⟩⟩ rfl hn hsize hst (lv_room hW) hdg hf T hT X
  cases hv
  obtain ⟨t2, a1, b1⟩ := kk T' (by rw [e1, hh, h0]) (Stand.forget X' (fun q h => (hL q h).elim))
  exact ⟨t2, go t2 a1, b1⟩
variable {cl : List vw_C} {a : Nat} {A : Nat → Prop} {H0 : Heap}
theorem ck_lald (hexec : p.tables.exec = Jvm.exec) (hb : c.code = cc) (hK : va_K D cl tys s) (hP : va_P D cl w H) (q0 t0 : Nat) {cA : ClassId} {f : Nat → Int64} (ha : w[q0]? = some (a, .inl (cA, 24, .inr (.inl f)))) (ht : tys[t0]? = some (cA, .long)) {i : Nat} (hi : i < 24) (hdg : decode cc pc = .ok (.laload, 1))
    (kk : W p l e R s m args below meth c H locs cells slots Q (F0 m (pc + 1) ls (.long (f i) :: rest))) : W p l e R s m args below meth c H locs cells slots Q (F0 m pc ls (.int (nI i) :: .ref a :: rest)) :=
  va_lald hexec hb hK hP q0 t0 ha ht (vp_in_nI hi (by decide)) hdg (by rw [nI_clamp (by omega)]; exact kk)
def ck_bz (f : Nat → Bool) : Nat → Int32 := fun j => ck_b (f j)
theorem ck_zald (hexec : p.tables.exec = Jvm.exec) (hb : c.code = cc) (hK : va_K D cl tys s) (hP : va_P D cl w H) (q0 t0 : Nat) {cA : ClassId} {f : Nat → Bool} (ha : w[q0]? = some (a, .inl (cA, 24, .inl (ck_bz f)))) (ht : tys[t0]? = some (cA, .boolean)) {i : Nat} (hi : i < 24) (hdg : decode cc pc = .ok (.baload, 1))
    (kk : W p l e R s m args below meth c H locs cells slots Q (F0 m (pc + 1) ls (.int (ck_b (f i)) :: rest))) : W p l e R s m args below meth c H locs cells slots Q (F0 m pc ls (.int (nI i) :: .ref a :: rest)) :=
  va_zald hexec hb hK hP q0 t0 ha ht (vp_in_nI hi (by decide)) hdg (by rw [nI_clamp (by omega)]; exact kk)
def ck_abs (x : Int64) : Int64 := if 0 < x then x else -x
def ck_max (x y : Int64) : Int64 := if y < x then x else y
def ck_min (x y : Int64) : Int64 := if y < x then y else x
def ck_maxI (x y : Int32) : Int32 := if x < y then y else x
theorem ck_mabs (hexec : p.tables.exec = Jvm.exec) (hb : c.code = cc) (hml : c.maxLocals = ls.size) (hown : s.vm.findClass own = some m.cls) (hlink : (Cond.methodLink own index Lib.MathLoose.abs_long.x).before args s = true) (hstat : (Cond.static Lib.MathLoose.abs_long.x).before args s = true) (hini : (Cond.initialized "java/lang/Math").before args s = true) (hcode : (Cond.code Lib.MathLoose.abs_long.x Lib.MathLoose.abs_long.code 2 (some .long)).before args s = true)
    (hframes : 1 ≤ R.frames) (hlocals : (rest.map fun v => v.category).sum + 13 ≤ R.locals) (hc : cells ≤ R.cells) (hs : slots ≤ R.slots) {x : Int64} (hdg : decode cc pc = .ok (.invokestatic index, 3))
    (kk : W p l e R s m args below meth c H locs cells slots Q (F0 m (pc + 3) ls (.long (ck_abs x) :: rest))) : W p l e R s m args below meth c H locs cells slots Q (F0 m pc ls (.long x :: rest)) := va_mabs_long hexec hb hml hown hlink hstat hini hcode hframes hlocals hc hs hdg kk
theorem ck_mmin (hexec : p.tables.exec = Jvm.exec) (hb : c.code = cc) (hml : c.maxLocals = ls.size) (hown : s.vm.findClass own = some m.cls) (hlink : (Cond.methodLink own index Lib.MathLoose.min_long.x).before args s = true) (hstat : (Cond.static Lib.MathLoose.min_long.x).before args s = true) (hini : (Cond.initialized "java/lang/Math").before args s = true) (hcode : (Cond.code Lib.MathLoose.min_long.x Lib.MathLoose.min_long.code 4 (some .long)).before args s = true)
    (hframes : 1 ≤ R.frames) (hlocals : (rest.map fun v => v.category).sum + 15 ≤ R.locals) (hc : cells ≤ R.cells) (hs : slots ≤ R.slots) {x y : Int64} (hdg : decode cc pc = .ok (.invokestatic index, 3))
    (kk : W p l e R s m args below meth c H locs cells slots Q (F0 m (pc + 3) ls (.long (ck_min x y) :: rest))) : W p l e R s m args below meth c H locs cells slots Q (F0 m pc ls (.long y :: .long x :: rest)) := va_mmin_long hexec hb hml hown hlink hstat hini hcode hframes hlocals hc hs hdg kk
theorem ck_mmax (hexec : p.tables.exec = Jvm.exec) (hb : c.code = cc) (hml : c.maxLocals = ls.size) (hown : s.vm.findClass own = some m.cls) (hlink : (Cond.methodLink own index Lib.MathLoose.max_long.x).before args s = true) (hstat : (Cond.static Lib.MathLoose.max_long.x).before args s = true) (hini : (Cond.initialized "java/lang/Math").before args s = true) (hcode : (Cond.code Lib.MathLoose.max_long.x Lib.MathLoose.max_long.code 4 (some .long)).before args s = true)
    (hframes : 1 ≤ R.frames) (hlocals : (rest.map fun v => v.category).sum + 15 ≤ R.locals) (hc : cells ≤ R.cells) (hs : slots ≤ R.slots) {x y : Int64} (hdg : decode cc pc = .ok (.invokestatic index, 3))
    (kk : W p l e R s m args below meth c H locs cells slots Q (F0 m (pc + 3) ls (.long (ck_max x y) :: rest))) : W p l e R s m args below meth c H locs cells slots Q (F0 m pc ls (.long y :: .long x :: rest)) := va_mmax_long hexec hb hml hown hlink hstat hini hcode hframes hlocals hc hs hdg kk
theorem ck_mmaxI (hexec : p.tables.exec = Jvm.exec) (hb : c.code = cc) (hml : c.maxLocals = ls.size) (hown : s.vm.findClass own = some m.cls) (hlink : (Cond.methodLink own index Lib.Math.max.name).before args s = true) (hstat : (Cond.static Lib.Math.max.name).before args s = true) (hini : (Cond.initialized "java/lang/Math").before args s = true) (hcode : (Cond.code Lib.Math.max.name Lib.Math.max.code 2 (some .int)).before args s = true)
    (hframes : 1 ≤ R.frames) (hlocals : (rest.map fun v => v.category).sum + 13 ≤ R.locals) (hc : cells ≤ R.cells) (hs : slots ≤ R.slots) {x y : Int32} (hdg : decode cc pc = .ok (.invokestatic index, 3))
    (kk : W p l e R s m args below meth c H locs cells slots Q (F0 m (pc + 3) ls (.int (ck_maxI x y) :: rest))) : W p l e R s m args below meth c H locs cells slots Q (F0 m pc ls (.int y :: .int x :: rest)) := va_mmax hexec hb hml hown hlink hstat hini hcode hframes hlocals hc hs hdg kk
end CK
/-- a contract out of a walk, for a method whose class is not plainly named but which no native row replaces -/
theorem ck_ofW {l : Launch} {y : MethodName} {ws ws' : List Cond} {rm : Room} {Pc : Array Value → State → Prop} {Qc : Array Value → State → Outcome → State → Prop} {mc ms : Nat} {free : Addr → Prop} {cc : ByteArray} {maxL : Nat} {ret : Option FieldType}
    (hy : plainFor y = true) (hw : ws = Cond.code y cc maxL ret :: ws')
    (body : ∀ p e s m args below meth c s₁, BodyLoose p l y (headSpec ws rm) cc maxL ret e s m args below meth c s₁ → c.maxLocals = maxL → Pc args s →
      W p l e (headSpec ws rm).room s m args below meth c s.heap [] 0 0 (MQ below Qc args s mc ms free) (entryFrame m args maxL)) : Met l y ws rm Pc Qc mc ms free := by
  refine MetFree.of_bodySF (code := cc) (maxLocals := maxL) (ret := ret) hy ?_ ?_
  · intro args s m h hn
    obtain ⟨meth, c, h1, h2, h3, h4, h5, h6, -, -⟩ := Cond.code_spec hn (atoms_spec (ws := ws) h _ (by rw [hw]; exact List.mem_cons_self))
    exact ⟨meth, c, h1, h2, h3, h4, h5, h6⟩
  · intro p e s m args below meth c s₁ B hml hP _
    have hh0 : s₁.heap = s.heap := by rw [B.state]; rfl
    obtain ⟨t, a1, o, b1, b2, b3⟩ := body p e s m args below meth c s₁ B hml hP s₁ hh0 (Stand.of_body B)
    exact ⟨t, o, a1, b1, b2, ⟨b3.1, b3.2⟩⟩
end
section
/-! ===== Int32 by its bits: bt x i ===== -/
def bt (x : Int32) (i : Nat) : Bool := x.toBitVec.getLsbD i
theorem b_ext {x y : Int32} (h : ∀ i, i < 32 → bt x i = bt y i) : x = y := Int32.toBitVec_inj.mp (BitVec.eq_of_getLsbD_eq (fun i hi => h i hi))
theorem b_or (x y : Int32) (i : Nat) : bt (x ||| y) i = (bt x i || bt y i) := by unfold bt; rw [Int32.toBitVec_or, BitVec.getLsbD_or]
theorem b_and (x y : Int32) (i : Nat) : bt (x &&& y) i = (bt x i && bt y i) := by unfold bt; rw [Int32.toBitVec_and, BitVec.getLsbD_and]
theorem b_xor (x y : Int32) (i : Nat) : bt (x ^^^ y) i = (bt x i ^^ bt y i) := by unfold bt; rw [Int32.toBitVec_xor, BitVec.getLsbD_xor]
theorem b_big {x : Int32} {i : Nat} (h : 32 ≤ i) : bt x i = false := BitVec.getLsbD_of_ge _ _ h
theorem b_255 (i : Nat) : bt 255 i = decide (i < 8) := by
  rcases Nat.lt_or_ge i 32 with h | h
  · exact (by decide +kernel : ∀ i, i < 32 → bt 255 i = decide (i < 8)) i h
  · rw [b_big h, decide_eq_false (by omega)]
theorem b_65535 (i : Nat) : bt 65535 i = decide (i < 16) := by
  rcases Nat.lt_or_ge i 32 with h | h
  · exact (by decide +kernel : ∀ i, i < 32 → bt 65535 i = decide (i < 16)) i h
  · rw [b_big h, decide_eq_false (by omega)]
theorem b_m1 : ∀ i, i < 32 → bt (-1) i = true := by decide +kernel
theorem b_0 (i : Nat) : bt 0 i = false := BitVec.getLsbD_zero
theorem s_l : ∀ n, n < 32 → ((nI n &&& 31).toBitVec.smod 32).toNat = n := by decide +kernel
theorem s_u : ∀ n, n < 32 → (((nI n).toUInt32 &&& Int32.toUInt32 31).toBitVec % 32).toNat = n := by decide +kernel
theorem b_shl (n : Nat) (hn : n < 32) (x : Int32) {i : Nat} (hi : i < 32) : bt (x <<< (nI n &&& 31)) i = (decide (n ≤ i) && bt x (i - n)) := by
  unfold bt
  rw [Int32.toBitVec_shiftLeft]
  show (x.toBitVec <<< ((nI n &&& 31).toBitVec.smod 32).toNat).getLsbD i = _
  rw [s_l n hn, BitVec.getLsbD_shiftLeft]
  rcases Nat.lt_or_ge i n with h | h
  · simp [h, Nat.not_le.mpr h]
  · simp [hi, h, Nat.not_lt.mpr h]
theorem b_ushr (n : Nat) (hn : n < 32) (x : Int32) (i : Nat) : bt ((x.toUInt32 >>> ((nI n).toUInt32 &&& Int32.toUInt32 31)).toInt32) i = bt x (n + i) := by
  show (x.toUInt32 >>> ((nI n).toUInt32 &&& Int32.toUInt32 31)).toBitVec.getLsbD i = x.toUInt32.toBitVec.getLsbD (n + i)
  rw [UInt32.toBitVec_shiftRight]
  show (x.toUInt32.toBitVec >>> (((nI n).toUInt32 &&& Int32.toUInt32 31).toBitVec % 32).toNat).getLsbD i = _
  rw [s_u n hn, BitVec.getLsbD_ushiftRight]
theorem b_sshr (n : Nat) (hn : n < 32) (x : Int32) {i : Nat} (hi : i < 32) : bt (x >>> (nI n &&& 31)) i = if n + i < 32 then bt x (n + i) else bt x 31 := by
  unfold bt
  rw [Int32.toBitVec_shiftRight]
  show (x.toBitVec.sshiftRight ((nI n &&& 31).toBitVec.smod 32).toNat).getLsbD i = _
  rw [s_l n hn, BitVec.getLsbD_sshiftRight, BitVec.msb_eq_getLsbD_last]
  simp [hi]
theorem b_shl8 (x : Int32) {i : Nat} (hi : i < 32) : bt (x <<< ((8 : Int32) &&& 31)) i = (decide (8 ≤ i) && bt x (i - 8)) := b_shl 8 (by omega) x hi
theorem b_shl16 (x : Int32) {i : Nat} (hi : i < 32) : bt (x <<< ((16 : Int32) &&& 31)) i = (decide (16 ≤ i) && bt x (i - 16)) := b_shl 16 (by omega) x hi
theorem b_shl24 (x : Int32) {i : Nat} (hi : i < 32) : bt (x <<< ((24 : Int32) &&& 31)) i = (decide (24 ≤ i) && bt x (i - 24)) := b_shl 24 (by omega) x hi
theorem b_sshr8 (x : Int32) {i : Nat} (hi : i < 32) : bt (x >>> ((8 : Int32) &&& 31)) i = if 8 + i < 32 then bt x (8 + i) else bt x 31 := b_sshr 8 (by omega) x hi
-- pure functions: what the class and the reference both answer
abbrev ck_NO : Int64 := -4611686018427387904
abbrev ck_FAR : Int64 := 288230376151711744
abbrev ck_NFAR : Int64 := -288230376151711744
abbrev ck_TIME : Int64 := 144115188075855872
abbrev ck_REACH : Int64 := 1099511627776
def ck_src (x : Int32) : Bool := !decide (x < 0) && !decide (24 ≤ x)
def ck_tm (t : Int64) : Bool := !decide (t < 0) && !decide (ck_TIME < t)
def ck_ct (k : Int32) : Bool := !decide (k < 1) && !decide (24 < k)
def ck_zo (c : Int32) : Bool := decide (c = 0) || decide (c = 1)
def ck_in (set x : Int32) : Bool := ck_src x && !decide (set &&& (1 <<< (x &&& 31)) = 0)
def ck_wo (set x : Int32) : Int32 := set &&& ((1 <<< (x &&& 31)) ^^^ (-1))
def ck_fd (x y : Int64) : Int64 := if 0 ≤ (x ^^^ y) then x / y else if (x / y) * y = x then x / y else x / y - 1
def ck_half (x : Int64) : Int64 := x >>> (Int32.toInt64 1 &&& 63)
def ck_u (x k : Int32) : Int32 := (x.toUInt32 >>> (k.toUInt32 &&& Int32.toUInt32 31)).toInt32
def ck_s1 (x : Int32) : Int32 := x - (ck_u x 1 &&& 1431655765)
def ck_s2 (x : Int32) : Int32 := (x &&& 858993459) + (ck_u x 2 &&& 858993459)
def ck_s3 (x : Int32) : Int32 := (x + ck_u x 4) &&& 252645135
def ck_s4 (x : Int32) : Int32 := x + ck_u x 8
def ck_s5 (x : Int32) : Int32 := x + ck_u x 16
def ck_cn (P : Nat → Bool) : Nat → Int32
  | 0 => 0
  | n + 1 => if P n then ck_cn P n + 1 else ck_cn P n
def ck_cov (is : Nat → Bool) (lo hi : Nat → Int64) (p : Int64) (j : Nat) : Bool := is j && (!decide (p < lo j) && !decide (hi j < p))
def ck_cvs (is : Nat → Bool) (lo hi : Nat → Int64) (p : Int64) : Int32 := ck_cn (ck_cov is lo hi p) 24
def ck_gr (is : Nat → Bool) (lo hi : Nat → Int64) : Nat → Int32
  | 0 => 0
  | n + 1 => if is n then ck_maxI (ck_gr is lo hi n) (ck_cvs is lo hi (lo n)) else ck_gr is lo hi n
def ck_fi (is : Nat → Bool) (lo hi : Nat → Int64) (e : Int32) : Nat → Int64
  | 0 => ck_NO
  | n + 1 => if is n && (!decide (ck_cvs is lo hi (lo n) < e) && (decide (ck_fi is lo hi e n = ck_NO) || !decide (ck_fi is lo hi e n ≤ lo n))) then lo n else ck_fi is lo hi e n
def ck_la (is : Nat → Bool) (lo hi : Nat → Int64) (e : Int32) : Nat → Int64
  | 0 => ck_NO
  | n + 1 => if is n && !decide (ck_cvs is lo hi (hi n) < e) then ck_max (ck_la is lo hi e n) (hi n) else ck_la is lo hi e n
def ck_fh (is : Nat → Bool) (lo hi : Nat → Int64) (p : Int64) : Nat → Int64
  | 0 => ck_FAR
  | n + 1 => if ck_cov is lo hi p n then ck_min (ck_fh is lo hi p n) (hi n) else ck_fh is lo hi p n
def ck_er (is : Nat → Bool) (lo hi : Nat → Int64) (f : Int64) (most : Int32) : Nat → Int64
  | 0 => ck_fh is lo hi f 24
  | n + 1 => if ck_cvs is lo hi (ck_er is lo hi f most n + 1) = most then ck_fh is lo hi (ck_er is lo hi f most n + 1) 24 else ck_er is lo hi f most n
def ck_rg (hd : Int32) (lo hi : Nat → Int64) (en : Int32) : Int64 :=
  if hd = 0 then ck_NO else if ck_zo en then (if en = 0 then ck_fi (bt hd) lo hi (ck_gr (bt hd) lo hi 24) 24 else ck_er (bt hd) lo hi (ck_fi (bt hd) lo hi (ck_gr (bt hd) lo hi 24) 24) (ck_gr (bt hd) lo hi 24) 24) else ck_NO
def ck_ns (hd : Int32) : Int32 := ck_cn (bt hd) 32
def ck_hl (hd : Int32) (lo hi : Nat → Int64) (f en : Int32) : Int64 :=
  if f < 0 then ck_NO else if ck_ns hd ≤ f then ck_NO else if ck_zo en then (if en = 0 then ck_fi (bt hd) lo hi (ck_ns hd - f) 24 else ck_la (bt hd) lo hi (ck_ns hd - f) 24) else ck_NO
def ck_ch (hd : Int32) (lo hi : Nat → Int64) (x : Int32) : Bool := ck_in hd x && (!decide (ck_rg hd lo hi 0 < lo x.toNatClampNeg) && !decide (hi x.toNatClampNeg < ck_rg hd lo hi 1))
def ck_mid (lo hi : Nat → Int64) (j : Nat) : Int64 := ck_half (lo j + hi j)
def ck_plP (is : Nat → Bool) (lo hi : Nat → Int64) (j : Nat) (o : Nat) : Bool := is o && (decide (ck_mid lo hi o < ck_mid lo hi j) || (decide (ck_mid lo hi o = ck_mid lo hi j) && !decide (nI j ≤ nI o)))
def ck_pl (is : Nat → Bool) (lo hi : Nat → Int64) (j : Nat) : Int32 := ck_cn (ck_plP is lo hi j) 24
def ck_mdf (is : Nat → Bool) (lo hi : Nat → Int64) (w : Int32) : Nat → Option Int64
  | 0 => none
  | n + 1 => match ck_mdf is lo hi w n with
    | some v => some v
    | none => if is n && decide (ck_pl is lo hi n = w) then some (ck_mid lo hi n) else none
def ck_md (hd : Int32) (lo hi : Nat → Int64) : Int64 := (ck_mdf (bt hd) lo hi ((ck_ns hd - 1) / 2) 24).getD ck_NO
def ck_nr (hd : Int32) (lo hi : Nat → Int64) (p lim : Int64) : Nat → Int32
  | 0 => hd
  | n + 1 => if bt hd n && !decide (ck_abs (ck_mid lo hi n - p) ≤ lim) then ck_wo (ck_nr hd lo hi p lim n) (nI n) else ck_nr hd lo hi p lim n
def ck_sm (is : Nat → Bool) (lo hi : Nat → Int64) : Nat → Int64
  | 0 => 0
  | n + 1 => if is n then ck_sm is lo hi n + ck_mid lo hi n else ck_sm is lo hi n
def ck_mm (set : Int32) (lo hi : Nat → Int64) : Int64 := if set = 0 then ck_NO else ck_fd (ck_sm (bt set) lo hi 24) (Int32.toInt64 (ck_ns set))
def ck_mn (hd : Int32) (lo hi : Nat → Int64) (lim : Int64) (part : Int32) : Int64 :=
  if hd = 0 then ck_NO else if lim < 0 then ck_NO else if ck_zo part then (if part = 0 then ck_mm (ck_nr hd lo hi (ck_md hd lo hi) lim 24) lo hi else Int32.toInt64 (ck_ns (ck_nr hd lo hi (ck_md hd lo hi) lim 24))) else ck_NO
def ck_fm (set : Int32) (lo hi : Nat → Int64) (mean : Int64) : Nat → Int64 × Int32
  | 0 => (0, 0)
  | n + 1 => if bt set n && !decide (ck_abs (ck_mid lo hi n - mean) < (ck_fm set lo hi mean n).1) then (ck_abs (ck_mid lo hi n - mean), nI n) else ck_fm set lo hi mean n
def ck_far (set : Int32) (lo hi : Nat → Int64) : Int32 := (ck_fm set lo hi (ck_mm set lo hi) 24).2
def ck_lf (hd : Int32) (lo hi : Nat → Int64) (k : Int32) : Nat → Int32
  | 0 => hd
  | n + 1 => if ck_ns (ck_lf hd lo hi k n) ≤ k then ck_lf hd lo hi k n else ck_wo (ck_lf hd lo hi k n) (ck_far (ck_lf hd lo hi k n) lo hi)
def ck_sv (hd : Int32) (lo hi : Nat → Int64) (k : Int32) : Int32 := if ck_ct k then ck_lf hd lo hi k 24 else -1
def ck_rk (hd : Int32) (lo hi : Nat → Int64) (x k : Int32) : Int32 := if ck_ct k then (if ck_in (ck_lf hd lo hi k 24) x then ck_pl (bt (ck_lf hd lo hi k 24)) lo hi x.toNatClampNeg else -1) else -1
def ck_of (off go : Int64) (w : Int32) : Int64 := if ck_zo w then (if w = 0 then off else go) else ck_NO
def ck_st (off go : Int64) : Int64 := if ck_abs (go - off) ≤ ck_REACH then ck_abs (go - off) * 2000 else ck_NO
abbrev xW (h a1 a2 : Nat) (c1 c2 : ClassId) (lo hi : Nat → Int64) (hd : Int32) (ow off go : Int64) : va_W := [(h, .inr (0, [.ref a1, .ref a2, .int hd, .long ow, .long off, .long go])), (a1, .inl (c1, 24, .inr (.inl lo))), (a2, .inl (c2, 24, .inr (.inl hi)))]
abbrev xT (c1 c2 : ClassId) : List (ClassId × FieldType) := [(c1, .long), (c2, .long)]
abbrev mW (h a0 a1 a2 : Nat) (c0 c1 c2 : ClassId) (lo hi : Nat → Int64) (hd : Int32) (ow off go : Int64) : va_W := [(h, .inr (1, [.ref a0, .ref a1, .ref a2, .long ow, .long off, .long go])), (a0, .inl (c0, 24, .inl (ck_bz (bt hd)))), (a1, .inl (c1, 24, .inr (.inl lo))), (a2, .inl (c2, 24, .inr (.inl hi)))]
abbrev mT (c0 c1 c2 : ClassId) : List (ClassId × FieldType) := [(c0, .boolean), (c1, .long), (c2, .long)]
theorem ck_srcE {x : Int32} (h : ck_src x = true) : ∃ j : Nat, j < 24 ∧ x = nI j := by
  simp only [ck_src, Bool.and_eq_true, Bool.not_eq_true', decide_eq_false_iff_not] at h
  obtain ⟨j, hj, rfl⟩ := nI_of h.1
  refine ⟨j, ?_, rfl⟩
  rcases Nat.lt_or_ge j 24 with q | q
  · exact q
  · exact absurd (show (24 : Int32) ≤ nI j from nI_le q hj) h.2
theorem ck_inE {set x : Int32} (h : ck_in set x = true) : ∃ j : Nat, j < 24 ∧ x = nI j := by
  simp only [ck_in, Bool.and_eq_true] at h
  exact ck_srcE h.1
theorem ck_srcN {j : Nat} (h : j < 24) : ck_src (nI j) = true := by
  have h1 : ¬ nI j < 0 := nI_pos (by omega)
  have h2 : ¬ (24 : Int32) ≤ nI j := nI_ge h (by decide)
  simp [ck_src, h1, h2]
theorem ck_1 (k : Nat) : bt 1 k = decide (k = 0) := by
  rcases Nat.lt_or_ge k 32 with h | h
  · exact (by decide +kernel : ∀ i, i < 32 → bt 1 i = decide (i = 0)) k h
  · rw [b_big h, decide_eq_false (by omega)]
theorem ck_pow {i : Nat} (hi : i < 32) {k : Nat} (hk : k < 32) : bt ((1 : Int32) <<< (nI i &&& 31)) k = decide (k = i) := by
  rw [b_shl i hi 1 hk, ck_1]
  by_cases e : k = i
  · subst e; simp
  · by_cases q : i ≤ k
    · have : ¬ k - i = 0 := by omega
      simp [e, q, this]
    · simp [e, q]
theorem ck_and0 (set : Int32) {i : Nat} (hi : i < 32) : set &&& ((1 : Int32) <<< (nI i &&& 31)) = 0 ↔ bt set i = false := by
  constructor
  · intro h
    have h2 := congrArg (fun z => bt z i) h
    simp only [b_and, ck_pow hi hi, b_0] at h2
    simpa using h2
  · intro h
    apply b_ext
    intro k hk
    rw [b_and, ck_pow hi hk, b_0]
    by_cases e : k = i
    · subst e; simp [h]
    · simp [e]
theorem ck_inN (set : Int32) {j : Nat} (h : j < 24) : ck_in set (nI j) = bt set j := by
  have h1 := ck_and0 set (show j < 32 by omega)
  simp only [ck_in, ck_srcN h, Bool.true_and]
  cases hb : bt set j with
  | false => simp [h1.mpr hb]
  | true =>
    have : ¬ set &&& ((1 : Int32) <<< (nI j &&& 31)) = 0 := fun q => by rw [h1.mp q] at hb; cases hb
    simp [this]
end
section
-- arithmetic of the two divisions, halves, the clipped step
theorem ck_mb {a : Int} (h1 : -2 ^ 63 ≤ a) (h2 : a < 2 ^ 63) : a.bmod (2 ^ 64) = a := Int.bmod_eq_of_le (by omega) (by omega)
theorem ck_i0 : (0 : Int64).toInt = 0 := by decide
theorem ck_i1 : (1 : Int64).toInt = 1 := by decide
theorem ck_pos {y : Int64} (h : 0 < y) : 0 < y.toInt := by
  have := Int64.lt_iff_toInt_lt.mp h
  rw [ck_i0] at this
  exact this
theorem ck_xneg (x y : Int64) (h : 0 < y.toInt) : (0 ≤ x ^^^ y) ↔ 0 ≤ x.toInt := by
  have h1 : (x ^^^ y).toBitVec.msb = (x.toBitVec.msb ^^ y.toBitVec.msb) := by rw [Int64.toBitVec_xor, BitVec.msb_xor]
  rw [BitVec.msb_eq_toInt, BitVec.msb_eq_toInt, BitVec.msb_eq_toInt] at h1
  have h3 : decide ((x ^^^ y).toInt < 0) = (decide (x.toInt < 0) ^^ decide (y.toInt < 0)) := h1
  rw [decide_eq_false (show ¬ y.toInt < 0 by omega), Bool.xor_false] at h3
  rw [Int64.le_iff_toInt_le, ck_i0]
  have h4 := decide_eq_decide.mp h3
  omega
/-- the quotient towards 0: what it is, that its product with y stays in range, and the quotient less one -/
theorem ck_div (x y : Int64) (h : 0 < y.toInt) : ∃ q r : Int, (x / y).toInt = q ∧ ((x / y) * y).toInt = q * y.toInt ∧ r + q * y.toInt = x.toInt ∧ (0 ≤ x.toInt → 0 ≤ r ∧ r < y.toInt) ∧ (x.toInt < 0 → r ≤ 0 ∧ -y.toInt < r) ∧ (r < 0 → (x / y - 1).toInt = q - 1) := by
  have hy1 : y ≠ -1 := by
    intro q
    rw [q] at h
    exact absurd h (by decide)
  have hq : (x / y).toInt = x.toInt.tdiv y.toInt := Int64.toInt_div_of_ne_right x y hy1
  have hx1 := x.le_toInt
  have hx2 := x.toInt_lt
  have hy2 := y.toInt_lt
  have hm := Int.tmod_add_tdiv_mul x.toInt y.toInt
  have hb := tmod_bounds (a := x.toInt) h
  have hn : 0 ≤ x.toInt → 0 ≤ x.toInt.tmod y.toInt := fun q => Int.tmod_nonneg y.toInt q
  have hn2 : x.toInt < 0 → x.toInt.tmod y.toInt ≤ 0 := fun q => by
    have h1 := Int.tmod_nonneg y.toInt (show 0 ≤ -x.toInt by omega)
    rw [Int.neg_tmod] at h1
    omega
  have hmul : ((x / y) * y).toInt = x.toInt.tdiv y.toInt * y.toInt := by
    rw [Int64.toInt_mul, hq]
    rcases Int.lt_or_le x.toInt 0 with z | z
    · have := hn2 z
      exact ck_mb (by omega) (by omega)
    · have := hn z
      exact ck_mb (by omega) (by omega)
  refine ⟨x.toInt.tdiv y.toInt, x.toInt.tmod y.toInt, hq, hmul, hm, fun z => ⟨hn z, hb.2⟩, fun z => ⟨hn2 z, hb.1⟩, fun z => ?_⟩
  have hX : x.toInt < 0 := by
    rcases Int.lt_or_le x.toInt 0 with w | w
    · exact w
    · have := hn w
      omega
  have hq0 : x.toInt.tdiv y.toInt ≤ 0 := by
    rcases Int.lt_or_le 0 (x.toInt.tdiv y.toInt) with w | w
    · have := Int.mul_le_mul_of_nonneg_right (show 1 ≤ x.toInt.tdiv y.toInt from w) (Int.le_of_lt h)
      omega
    · exact w
  have hqY : x.toInt.tdiv y.toInt * y.toInt ≤ x.toInt.tdiv y.toInt * 1 := Int.mul_le_mul_of_nonpos_left hq0 (show 1 ≤ y.toInt from h)
  rw [Int64.toInt_sub, hq, ck_i1]
  exact ck_mb (by omega) (by omega)
theorem ck_fd_spec (x y : Int64) (h : 0 < y.toInt) : (ck_fd x y).toInt = x.toInt / y.toInt := by
  obtain ⟨q, r, h1, h2, h3, h4, h5, h6⟩ := ck_div x y h
  symm
  rw [Int.ediv_eq_iff_of_pos h]
  unfold ck_fd
  by_cases hpos : 0 ≤ x ^^^ y
  · rw [if_pos hpos, h1]
    have := h4 ((ck_xneg x y h).mp hpos)
    omega
  · rw [if_neg hpos]
    have hX : x.toInt < 0 := by
      rcases Int.lt_or_le x.toInt 0 with w | w
      · exact w
      · exact absurd ((ck_xneg x y h).mpr w) hpos
    have h7 := h5 hX
    by_cases he : (x / y) * y = x
    · rw [if_pos he, h1]
      rw [he] at h2
      omega
    · rw [if_neg he]
      have hne : ¬ q * y.toInt = x.toInt := fun z => he (Int64.toInt_inj.mp (h2.trans z))
      rw [h6 (by omega), Int.sub_mul, Int.one_mul]
      omega
theorem ck_ovE (x y : Int64) (hy : 0 < y) : (if (x / y) * y ≤ x then x / y else x / y - 1) = ck_fd x y := by
  have h := ck_pos hy
  apply Int64.toInt_inj.mp
  rw [ck_fd_spec x y h]
  obtain ⟨q, r, h1, h2, h3, h4, h5, h6⟩ := ck_div x y h
  symm
  rw [Int.ediv_eq_iff_of_pos h]
  by_cases he : (x / y) * y ≤ x
  · rw [if_pos he, h1]
    rw [Int64.le_iff_toInt_le, h2] at he
    rcases Int.lt_or_le x.toInt 0 with w | w
    · have := h5 w
      omega
    · have := h4 w
      omega
  · rw [if_neg he]
    rw [Int64.le_iff_toInt_le, h2] at he
    rw [h6 (by omega), Int.sub_mul, Int.one_mul]
    rcases Int.lt_or_le x.toInt 0 with w | w
    · have := h5 w
      omega
    · have := h4 w
      omega
theorem ck_half_spec (x : Int64) : (ck_half x).toInt = x.toInt / 2 := by
  unfold ck_half
  show (x.toBitVec.sshiftRight ((Int32.toInt64 1 &&& 63).toBitVec.smod 64).toNat).toInt = _
  rw [show ((Int32.toInt64 1 &&& 63).toBitVec.smod 64).toNat = 1 by decide +kernel, BitVec.toInt_sshiftRight, Int.shiftRight_eq_div_pow]
  rfl
theorem ck_fd2 (x : Int64) : ck_fd x 2 = ck_half x := Int64.toInt_inj.mp (by
  rw [ck_fd_spec x 2 (by decide), ck_half_spec]
  rfl)
theorem ck_stp {ow t : Int64} (how : 0 ≤ ow) (h1 : ¬ t < ow) (h2 : t ≤ ck_TIME) : 0 ≤ (t - ow) / 2000 := by
  have ho : 0 ≤ ow.toInt := by
    have := Int64.le_iff_toInt_le.mp how
    rw [ck_i0] at this
    exact this
  have hle : ow ≤ t := by
    rw [Int64.le_iff_toInt_le]
    rw [Int64.lt_iff_toInt_lt] at h1
    omega
  have hs := Int64.toInt_sub_of_le t ow how hle
  rw [Int64.le_iff_toInt_le] at hle
  rw [Int64.le_iff_toInt_le, lg_ldiv_nonneg (by rw [hs]; omega) (by decide), ck_i0]
  exact Int.ediv_nonneg (by omega) (by decide)
theorem ck_negT {s : Int64} (h : 0 ≤ s) : (-s).toInt = -s.toInt ∧ 0 ≤ s.toInt := by
  have h0 : 0 ≤ s.toInt := by
    have := Int64.le_iff_toInt_le.mp h
    rw [ck_i0] at this
    exact this
  have h2 := s.toInt_lt
  refine ⟨?_, h0⟩
  rw [Int64.toInt_neg]
  exact ck_mb (by omega) (by omega)
theorem ck_clip1 {s w : Int64} (hs : 0 ≤ s) (c : ¬ w ≤ s) : ck_max (-s) (ck_min s w) = s := by
  obtain ⟨h1, h2⟩ := ck_negT hs
  rw [Int64.le_iff_toInt_le] at c
  have e1 : ck_min s w = s := by
    unfold ck_min
    rw [if_neg (by rw [Int64.lt_iff_toInt_lt]; omega)]
  rw [e1]
  unfold ck_max
  rw [if_neg (by rw [Int64.lt_iff_toInt_lt]; omega)]
theorem ck_minE {s w : Int64} (c : w ≤ s) : ck_min s w = w := by
  unfold ck_min
  by_cases q : w < s
  · rw [if_pos q]
  · rw [if_neg q]
    rw [Int64.lt_iff_toInt_lt] at q
    rw [Int64.le_iff_toInt_le] at c
    exact Int64.toInt_inj.mp (by omega)
theorem ck_clip2 {s w : Int64} (_ : 0 ≤ s) (c : w ≤ s) (d : -s ≤ w) : ck_max (-s) (ck_min s w) = w := by
  rw [ck_minE c]
  unfold ck_max
  rw [if_neg]
  intro q
  rw [Int64.lt_iff_toInt_lt] at q
  rw [Int64.le_iff_toInt_le] at d
  omega
theorem ck_clip3 {s w : Int64} (_ : 0 ≤ s) (c : w ≤ s) (d : ¬ -s ≤ w) : ck_max (-s) (ck_min s w) = -s := by
  rw [ck_minE c]
  unfold ck_max
  rw [if_pos]
  rw [Int64.lt_iff_toInt_lt]
  rw [Int64.le_iff_toInt_le] at d
  omega
end
section
-- when a bounded loop stops early, its value stays
theorem ck_er_stop {is : Nat → Bool} {lo hi : Nat → Int64} {f : Int64} {most : Int32} {i : Nat} (h : ¬ ck_cvs is lo hi (ck_er is lo hi f most i + 1) = most) (hi24 : i ≤ 24) : ck_er is lo hi f most i = ck_er is lo hi f most 24 := by
  have key : ∀ d, ck_er is lo hi f most (i + d) = ck_er is lo hi f most i := by
    intro d
    induction d with
    | zero => rfl
    | succ d ih =>
      show (if ck_cvs is lo hi (ck_er is lo hi f most (i + d) + 1) = most then ck_fh is lo hi (ck_er is lo hi f most (i + d) + 1) 24 else ck_er is lo hi f most (i + d)) = _
      rw [ih, if_neg h]
  have h2 := key (24 - i)
  rw [show i + (24 - i) = 24 by omega] at h2
  exact h2.symm
theorem ck_lf_stop {hd : Int32} {lo hi : Nat → Int64} {k : Int32} {i : Nat} (h : ck_ns (ck_lf hd lo hi k i) ≤ k) (hi24 : i ≤ 24) : ck_lf hd lo hi k i = ck_lf hd lo hi k 24 := by
  have key : ∀ d, ck_lf hd lo hi k (i + d) = ck_lf hd lo hi k i := by
    intro d
    induction d with
    | zero => rfl
    | succ d ih =>
      show (if ck_ns (ck_lf hd lo hi k (i + d)) ≤ k then ck_lf hd lo hi k (i + d) else ck_wo (ck_lf hd lo hi k (i + d)) (ck_far (ck_lf hd lo hi k (i + d)) lo hi)) = _
      rw [ih, if_pos h]
  have h2 := key (24 - i)
  rw [show i + (24 - i) = 24 by omega] at h2
  exact h2.symm
theorem ck_mdf_stay {is : Nat → Bool} {lo hi : Nat → Int64} {w : Int32} {i : Nat} {v : Int64} (hi24 : i < 24) (h : ck_mdf is lo hi w (i + 1) = some v) : ck_mdf is lo hi w 24 = some v := by
  have key : ∀ d, ck_mdf is lo hi w (i + 1 + d) = some v := by
    intro d
    induction d with
    | zero => exact h
    | succ d ih =>
      show (match ck_mdf is lo hi w (i + 1 + d) with
        | some v => some v
        | none => if is (i + 1 + d) && decide (ck_pl is lo hi (i + 1 + d) = w) then some (ck_mid lo hi (i + 1 + d)) else none) = some v
      rw [ih]
  have h2 := key (24 - (i + 1))
  rw [show i + 1 + (24 - (i + 1)) = 24 by omega] at h2
  exact h2
/-- the count, as a natural number -/
def ck_cN (P : Nat → Bool) : Nat → Nat
  | 0 => 0
  | n + 1 => if P n then ck_cN P n + 1 else ck_cN P n
theorem ck_cN_le (P : Nat → Bool) : ∀ n, ck_cN P n ≤ n
  | 0 => Nat.le_refl 0
  | n + 1 => by
    have := ck_cN_le P n
    show (if P n then ck_cN P n + 1 else ck_cN P n) ≤ n + 1
    split <;> omega
theorem ck_cn_N (P : Nat → Bool) : ∀ n, ck_cn P n = nI (ck_cN P n)
  | 0 => nI_0.symm
  | n + 1 => by
    show (if P n then ck_cn P n + 1 else ck_cn P n) = nI (if P n then ck_cN P n + 1 else ck_cN P n)
    rw [ck_cn_N P n]
    split
    · exact nI_1 _
    · rfl
theorem ck_cN_stop {P : Nat → Bool} {a : Nat} (h : ∀ j, a ≤ j → P j = false) : ∀ d, ck_cN P (a + d) = ck_cN P a
  | 0 => rfl
  | d + 1 => by
    show (if P (a + d) then ck_cN P (a + d) + 1 else ck_cN P (a + d)) = _
    rw [h (a + d) (by omega)]
    exact ck_cN_stop h d
theorem ck_ns24 {hd : Int32} (h : ∀ j, 24 ≤ j → bt hd j = false) : ck_cn (bt hd) 24 = ck_ns hd := by
  unfold ck_ns
  rw [ck_cn_N, ck_cn_N, show (32 : Nat) = 24 + 8 from rfl, ck_cN_stop h 8]
theorem ck_cN_0 {P : Nat → Bool} : ∀ n, ck_cN P n = 0 → ∀ j, j < n → P j = false
  | 0, _, j, hj => absurd hj (Nat.not_lt_zero j)
  | n + 1, h, j, hj => by
    have h1 : (if P n then ck_cN P n + 1 else ck_cN P n) = 0 := h
    cases hp : P n with
    | true => rw [hp] at h1; exact absurd h1 (by simp)
    | false =>
      rw [hp] at h1
      rcases Nat.lt_or_ge j n with q | q
      · exact ck_cN_0 n h1 j q
      · rw [show j = n by omega]; exact hp
theorem ck_cN_add (P : Nat → Bool) (m : Nat) : ∀ n, ck_cN P (m + n) = ck_cN P m + ck_cN (fun j => P (m + j)) n
  | 0 => rfl
  | n + 1 => by
    show (if P (m + n) then ck_cN P (m + n) + 1 else ck_cN P (m + n)) = _ + (if P (m + n) then ck_cN (fun j => P (m + j)) n + 1 else ck_cN (fun j => P (m + j)) n)
    rw [ck_cN_add P m n]
    split <;> omega
theorem ck_cN_congr {P Q : Nat → Bool} : ∀ n, (∀ j, j < n → P j = Q j) → ck_cN P n = ck_cN Q n
  | 0, _ => rfl
  | n + 1, h => by
    show (if P n then ck_cN P n + 1 else ck_cN P n) = (if Q n then ck_cN Q n + 1 else ck_cN Q n)
    rw [h n (by omega), ck_cN_congr n (fun j hj => h j (by omega))]
theorem ck_ns_N (x : Int32) : ck_ns x = nI (ck_cN (bt x) 32) := ck_cn_N (bt x) 32
theorem ck_nz {set : Int32} (h : ¬ set = 0) : ¬ Int32.toInt64 (ck_ns set) = 0 := by
  intro q
  have hle := ck_cN_le (bt set) 32
  rw [ck_ns_N, nI_l (by omega)] at q
  have h0 := (lN_eq (a := ck_cN (bt set) 32) (b := 0) (by omega) (by omega)).mp q
  exact h (b_ext (fun j hj => by rw [ck_cN_0 32 h0 j hj, b_0]))
/-! ### Integer.bitCount, byte by byte -/
def ck_U (x : Int32) : Nat := x.toBitVec.toNat
def ck_4 (a b c d : Nat) : Nat := ((d * 256 + c) * 256 + b) * 256 + a
theorem ck_Usub {x y : Int32} (h : ck_U y ≤ ck_U x) : ck_U (x - y) = ck_U x - ck_U y := by
  unfold ck_U at *
  rw [Int32.toBitVec_sub]
  exact BitVec.toNat_sub_of_le h
theorem ck_Uadd {x y : Int32} (h : ck_U x + ck_U y < 2 ^ 32) : ck_U (x + y) = ck_U x + ck_U y := by
  unfold ck_U at *
  rw [Int32.toBitVec_add]
  exact BitVec.toNat_add_of_lt h
theorem ck_Uand (x y : Int32) : ck_U (x &&& y) = ck_U x &&& ck_U y := by
  unfold ck_U
  rw [Int32.toBitVec_and, BitVec.toNat_and]
theorem ck_Uu (x s : Int32) (k : Nat) (hs : ((s.toUInt32 &&& Int32.toUInt32 31).toBitVec % 32).toNat = k) : ck_U (ck_u x s) = ck_U x / 2 ^ k := pk_ushr x s k hs
theorem ck_as (a b c d : Nat) (hb : b < 256) (hd : d < 256) : (a * 256 + b) &&& (c * 256 + d) = (a &&& c) * 256 + (b &&& d) := by
  have h1 : ((a * 256 + b) &&& (c * 256 + d)) / 2 ^ 8 = a &&& c := by
    rw [Nat.and_div_two_pow, show (a * 256 + b) / 2 ^ 8 = a by omega, show (c * 256 + d) / 2 ^ 8 = c by omega]
  have h2 : ((a * 256 + b) &&& (c * 256 + d)) % 2 ^ 8 = b &&& d := by
    rw [Nat.and_mod_two_pow, show (a * 256 + b) % 2 ^ 8 = b by omega, show (c * 256 + d) % 2 ^ 8 = d by omega]
  omega
theorem ck_and4 {a b c d m : Nat} (ha : a < 256) (hb : b < 256) (hc : c < 256) (hm : m < 256) : ck_4 a b c d &&& ck_4 m m m m = ck_4 (a &&& m) (b &&& m) (c &&& m) (d &&& m) := by
  unfold ck_4
  rw [ck_as _ _ _ _ ha hm, ck_as _ _ _ _ hb hm, ck_as _ _ _ _ hc hm]
def ck_g1 (a : Nat) : Nat := a - (a / 2 &&& 85)
def ck_g2 (a : Nat) : Nat := (a &&& 51) + (a / 4 &&& 51)
def ck_pc (a : Nat) : Nat := ck_cN (fun j => a.testBit j) 8
theorem ck_t1 : ∀ a, a < 256 → ∀ b, b < 2 → (a / 2 + 128 * b) &&& 85 = a / 2 &&& 85 := by decide +kernel
theorem ck_t2 : ∀ a, a < 256 → ∀ b, b < 4 → (a / 4 + 64 * b) &&& 51 = a / 4 &&& 51 := by decide +kernel
theorem ck_t3 : ∀ a, a < 256 → ck_g1 a < 256 ∧ (a / 2 &&& 85) ≤ a ∧ ck_g2 (ck_g1 a) ≤ 68 ∧ ck_g2 (ck_g1 a) % 16 ≤ 4 ∧ ck_pc a ≤ 8 := by decide +kernel
theorem ck_t4 : ∀ a, a < 256 → ∀ b, b < 5 → (ck_g2 (ck_g1 a) + (ck_g2 (ck_g1 a) / 16 + 16 * b)) &&& 15 = ck_pc a := by decide +kernel
theorem ck_t5 : ∀ a, a < 256 → (a &&& 51) ≤ 51 ∧ (a / 4 &&& 51) ≤ 51 := by decide +kernel
theorem ck_bc4 (x : Int32) {a b c d : Nat} (ha : a < 256) (hb : b < 256) (hc : c < 256) (hd : d < 256) (h : ck_U x = ck_4 a b c d) : ck_U (ck_s5 (ck_s4 (ck_s3 (ck_s2 (ck_s1 x)))) &&& 63) = ck_pc a + ck_pc b + ck_pc c + ck_pc d := by
  obtain ⟨a1, a2, a3, a4, a5⟩ := ck_t3 a ha
  obtain ⟨b1, b2, b3, b4, b5⟩ := ck_t3 b hb
  obtain ⟨c1, c2, c3, c4, c5⟩ := ck_t3 c hc
  obtain ⟨d1, d2, d3, d4, d5⟩ := ck_t3 d hd
  have e1 : ck_U (ck_s1 x) = ck_4 (ck_g1 a) (ck_g1 b) (ck_g1 c) (ck_g1 d) := by
    have hu : ck_U (ck_u x 1 &&& 1431655765) = ck_4 (a / 2 &&& 85) (b / 2 &&& 85) (c / 2 &&& 85) (d / 2 &&& 85) := by
      rw [ck_Uand, ck_Uu x 1 1 (by decide +kernel), h, show ck_U 1431655765 = ck_4 85 85 85 85 by decide +kernel]
      rw [show ck_4 a b c d / 2 ^ 1 = ck_4 (a / 2 + 128 * (b % 2)) (b / 2 + 128 * (c % 2)) (c / 2 + 128 * (d % 2)) (d / 2) by unfold ck_4; omega]
      rw [ck_and4 (by omega) (by omega) (by omega) (by omega), ck_t1 a ha _ (by omega), ck_t1 b hb _ (by omega), ck_t1 c hc _ (by omega)]
    unfold ck_s1
    rw [ck_Usub (by rw [hu, h]; unfold ck_4; omega), hu, h]
    unfold ck_4 ck_g1
    omega
  have e2 : ck_U (ck_s2 (ck_s1 x)) = ck_4 (ck_g2 (ck_g1 a)) (ck_g2 (ck_g1 b)) (ck_g2 (ck_g1 c)) (ck_g2 (ck_g1 d)) := by
    have hu : ck_U (ck_u (ck_s1 x) 2 &&& 858993459) = ck_4 (ck_g1 a / 4 &&& 51) (ck_g1 b / 4 &&& 51) (ck_g1 c / 4 &&& 51) (ck_g1 d / 4 &&& 51) := by
      rw [ck_Uand, ck_Uu _ 2 2 (by decide +kernel), e1, show ck_U 858993459 = ck_4 51 51 51 51 by decide +kernel]
      rw [show ck_4 (ck_g1 a) (ck_g1 b) (ck_g1 c) (ck_g1 d) / 2 ^ 2 = ck_4 (ck_g1 a / 4 + 64 * (ck_g1 b % 4)) (ck_g1 b / 4 + 64 * (ck_g1 c % 4)) (ck_g1 c / 4 + 64 * (ck_g1 d % 4)) (ck_g1 d / 4) by unfold ck_4; omega]
      rw [ck_and4 (by omega) (by omega) (by omega) (by omega), ck_t2 _ a1 _ (by omega), ck_t2 _ b1 _ (by omega), ck_t2 _ c1 _ (by omega)]
    have hv : ck_U (ck_s1 x &&& 858993459) = ck_4 (ck_g1 a &&& 51) (ck_g1 b &&& 51) (ck_g1 c &&& 51) (ck_g1 d &&& 51) := by
      rw [ck_Uand, e1, show ck_U 858993459 = ck_4 51 51 51 51 by decide +kernel, ck_and4 a1 b1 c1 (by omega)]
    have p1 := ck_t5 _ a1
    have p2 := ck_t5 _ b1
    have p3 := ck_t5 _ c1
    have p4 := ck_t5 _ d1
    unfold ck_s2
    rw [ck_Uadd (by rw [hu, hv]; unfold ck_4; omega), hu, hv]
    unfold ck_4 ck_g2
    omega
  have e3 : ck_U (ck_s3 (ck_s2 (ck_s1 x))) = ck_4 (ck_pc a) (ck_pc b) (ck_pc c) (ck_pc d) := by
    have hu : ck_U (ck_u (ck_s2 (ck_s1 x)) 4) = ck_4 (ck_g2 (ck_g1 a) / 16 + 16 * (ck_g2 (ck_g1 b) % 16)) (ck_g2 (ck_g1 b) / 16 + 16 * (ck_g2 (ck_g1 c) % 16)) (ck_g2 (ck_g1 c) / 16 + 16 * (ck_g2 (ck_g1 d) % 16)) (ck_g2 (ck_g1 d) / 16 + 16 * 0) := by
      rw [ck_Uu _ 4 4 (by decide +kernel), e2]
      unfold ck_4
      omega
    unfold ck_s3
    rw [ck_Uand, ck_Uadd (by rw [hu, e2]; unfold ck_4; omega), hu, e2, show ck_U 252645135 = ck_4 15 15 15 15 by decide +kernel]
    rw [show ∀ p q r s p2 q2 r2 s2 : Nat, ck_4 p q r s + ck_4 p2 q2 r2 s2 = ck_4 (p + p2) (q + q2) (r + r2) (s + s2) from fun p q r s p2 q2 r2 s2 => by unfold ck_4; omega]
    rw [ck_and4 (by omega) (by omega) (by omega) (by omega), ck_t4 a ha _ (by omega), ck_t4 b hb _ (by omega), ck_t4 c hc _ (by omega), ck_t4 d hd 0 (by omega)]
  have e4 : ck_U (ck_s4 (ck_s3 (ck_s2 (ck_s1 x)))) = ck_4 (ck_pc a + ck_pc b) (ck_pc b + ck_pc c) (ck_pc c + ck_pc d) (ck_pc d) := by
    have hu : ck_U (ck_u (ck_s3 (ck_s2 (ck_s1 x))) 8) = ck_4 (ck_pc b) (ck_pc c) (ck_pc d) 0 := by
      rw [ck_Uu _ 8 8 (by decide +kernel), e3]
      unfold ck_4
      omega
    unfold ck_s4
    rw [ck_Uadd (by rw [hu, e3]; unfold ck_4; omega), hu, e3]
    unfold ck_4
    omega
  have e5 : ck_U (ck_s5 (ck_s4 (ck_s3 (ck_s2 (ck_s1 x))))) = ck_4 (ck_pc a + ck_pc b + (ck_pc c + ck_pc d)) (ck_pc b + ck_pc c + ck_pc d) (ck_pc c + ck_pc d) (ck_pc d) := by
    have hu : ck_U (ck_u (ck_s4 (ck_s3 (ck_s2 (ck_s1 x)))) 16) = ck_4 (ck_pc c + ck_pc d) (ck_pc d) 0 0 := by
      rw [ck_Uu _ 16 16 (by decide +kernel), e4]
      unfold ck_4
      omega
    unfold ck_s5
    rw [ck_Uadd (by rw [hu, e4]; unfold ck_4; omega), hu, e4]
    unfold ck_4
    omega
  rw [ck_Uand, e5, show ck_U 63 = 2 ^ 6 - 1 by decide +kernel, Nat.and_two_pow_sub_one_eq_mod]
  unfold ck_4
  omega
theorem ck_bt4 (x : Int32) {a b c d : Nat} (ha : a < 256) (hb : b < 256) (hc : c < 256) (h : ck_U x = ck_4 a b c d) : ck_cN (bt x) 32 = ck_pc a + ck_pc b + ck_pc c + ck_pc d := by
  have hbt : ∀ i, bt x i = (ck_4 a b c d).testBit i := fun i => by rw [← h]; rfl
  have h4 : ck_4 a b c d = 2 ^ 8 * (2 ^ 8 * (2 ^ 8 * d + c) + b) + a := by unfold ck_4; omega
  rw [show (32 : Nat) = 8 + (8 + (8 + 8)) from rfl, ck_cN_add, ck_cN_add, ck_cN_add]
  have k0 : ck_cN (bt x) 8 = ck_pc a := ck_cN_congr 8 (fun j hj => by
    rw [hbt, h4, Nat.testBit_two_pow_mul_add _ (show a < 2 ^ 8 from ha), if_pos hj])
  have k1 : ck_cN (fun j => bt x (8 + j)) 8 = ck_pc b := ck_cN_congr 8 (fun j hj => by
    rw [hbt, h4, Nat.testBit_two_pow_mul_add _ (show a < 2 ^ 8 from ha), if_neg (by omega), show 8 + j - 8 = j by omega, Nat.testBit_two_pow_mul_add _ (show b < 2 ^ 8 from hb), if_pos hj])
  have k2 : ck_cN (fun j => bt x (8 + (8 + j))) 8 = ck_pc c := ck_cN_congr 8 (fun j hj => by
    rw [hbt, h4, Nat.testBit_two_pow_mul_add _ (show a < 2 ^ 8 from ha), if_neg (by omega), show 8 + (8 + j) - 8 = 8 + j by omega, Nat.testBit_two_pow_mul_add _ (show b < 2 ^ 8 from hb), if_neg (by omega), show 8 + j - 8 = j by omega, Nat.testBit_two_pow_mul_add _ (show c < 2 ^ 8 from hc), if_pos hj])
  have k3 : ck_cN (fun j => bt x (8 + (8 + (8 + j)))) 8 = ck_pc d := ck_cN_congr 8 (fun j hj => by
    rw [hbt, h4, Nat.testBit_two_pow_mul_add _ (show a < 2 ^ 8 from ha), if_neg (by omega), show 8 + (8 + (8 + j)) - 8 = 8 + (8 + j) by omega, Nat.testBit_two_pow_mul_add _ (show b < 2 ^ 8 from hb), if_neg (by omega), show 8 + (8 + j) - 8 = 8 + j by omega, Nat.testBit_two_pow_mul_add _ (show c < 2 ^ 8 from hc), if_neg (by omega), show 8 + j - 8 = j by omega])
  rw [k0, k1, k2, k3]
  omega
theorem ck_bc (x : Int32) : ck_s5 (ck_s4 (ck_s3 (ck_s2 (ck_s1 x)))) &&& 63 = ck_ns x := by
  have hx : ck_U x < 2 ^ 32 := x.toBitVec.isLt
  have h4 : ck_U x = ck_4 (ck_U x % 256) (ck_U x / 256 % 256) (ck_U x / 65536 % 256) (ck_U x / 16777216) := by unfold ck_4; omega
  have r1 := ck_bc4 x (by omega) (by omega) (by omega) (by omega) h4
  have r2 := ck_bt4 x (by omega) (by omega) (by omega) h4
  rw [ck_ns_N, r2]
  apply Int32.toBitVec_inj.mp
  apply BitVec.eq_of_toNat_eq
  show ck_U _ = _
  rw [r1, pk_tn]
  have l := ck_cN_le (bt x) 32
  omega
end
section
set_option maxHeartbeats 4000000 in
set_option maxRecDepth 100000 in
theorem c_X0_isSource (l : Launch) (x : Int32)  : Met l yX0_isSource wsX0_isSource { frames := 0, cells := 0, slots := 0, locals := 0 } (va_Pc [.int x] (fun _ => True)) (ck_R (.int (ck_b (ck_src x)))) 0 0 (fun _ => False) := by
  refine Met.ofW (cc := cX0_isSource) (maxL := 1) (ret := (some .boolean)) (by decide) rfl ?_
  intro p e s m args below meth c s₁ B hml hv
  obtain ⟨rfl, -⟩ := hv
  have hx := B.exec
  have hb := B.bytes
  have hr := B.returns
  have hts := atoms_spec (ws := wsX0_isSource) B.pre
  have hown : s.vm.findClass RX0 = some m.cls := findClass_of_methodNamed B.named
  have hlocks := B.notSynchronized
  have hl := lv_entry ([.int x]) (n := 1) (Nat.le_of_ble_eq_true rfl)
  rw [lg_entry_eq]
  generalize (lg_sl ([.int x]) ++ List.replicate (1 - (lg_sl ([.int x])).length) Slot.unset).toArray = ls at hl ⊢
  have hl : lv_has ls 1 [(0, .int x)] := hl
  refine lv_iload_n hx hb dX0_isSource_0 rfl (lv_at hl 0 rfl) ?_
  refine lv_if_lt (tgt := 14) hx hb dX0_isSource_1 (by decide) (fun c_1 => ?_) (fun c_1 => ?_)
  · refine lv_iconst (v := 0) hx hb dX0_isSource_14 (by decide) ?_
    have hres : 0 = (ck_b (ck_src x)) := by simp [ck_src, ck_b, c_1]
    exact W.zret (ty := .boolean) (v := 0) hx hb hr rfl (fun t ht _ => ⟨congrArg (fun z => Outcome.returned (some (Value.int z))) hres, ht⟩) (fun _ h => nomatch h) dX0_isSource_15
  · refine lv_iload_n hx hb dX0_isSource_4 rfl (lv_at hl 0 rfl) ?_
    refine lv_bipush (v := 24) hx hb dX0_isSource_5 (by decide) ?_
    refine lv_icmp_ge (tgt := 14) hx hb dX0_isSource_7 (by decide) (fun c_2 => ?_) (fun c_2 => ?_)
    · refine lv_iconst (v := 0) hx hb dX0_isSource_14 (by decide) ?_
      have hres : 0 = (ck_b (ck_src x)) := by simp [ck_src, ck_b, c_1, c_2]
      exact W.zret (ty := .boolean) (v := 0) hx hb hr rfl (fun t ht _ => ⟨congrArg (fun z => Outcome.returned (some (Value.int z))) hres, ht⟩) (fun _ h => nomatch h) dX0_isSource_15
    · refine lv_iconst (v := 1) hx hb dX0_isSource_10 (by decide) ?_
      refine lv_goto (tgt := 15) hx hb dX0_isSource_11 (by decide) ?_
      have hres : 1 = (ck_b (ck_src x)) := by simp [ck_src, ck_b, c_1, c_2]
      exact W.zret (ty := .boolean) (v := 1) hx hb hr rfl (fun t ht _ => ⟨congrArg (fun z => Outcome.returned (some (Value.int z))) hres, ht⟩) (fun _ h => nomatch h) dX0_isSource_15

set_option maxHeartbeats 4000000 in
set_option maxRecDepth 100000 in
theorem c_X0_isTime (l : Launch) (t0 : Int64)  : Met l yX0_isTime wsX0_isTime { frames := 0, cells := 0, slots := 0, locals := 0 } (va_Pc [.long t0] (fun _ => True)) (ck_R (.int (ck_b (ck_tm t0)))) 0 0 (fun _ => False) := by
  refine Met.ofW (cc := cX0_isTime) (maxL := 2) (ret := (some .boolean)) (by decide) rfl ?_
  intro p e s m args below meth c s₁ B hml hv
  obtain ⟨rfl, -⟩ := hv
  have hx := B.exec
  have hb := B.bytes
  have hr := B.returns
  have hts := atoms_spec (ws := wsX0_isTime) B.pre
  have hown : s.vm.findClass RX0 = some m.cls := findClass_of_methodNamed B.named
  have hlocks := B.notSynchronized
  have hl := lv_entry ([.long t0]) (n := 2) (Nat.le_of_ble_eq_true rfl)
  rw [lg_entry_eq]
  generalize (lg_sl ([.long t0]) ++ List.replicate (2 - (lg_sl ([.long t0])).length) Slot.unset).toArray = ls at hl ⊢
  have hl : lv_has ls 2 [(0, .long t0)] := hl
  refine lv_lload_n hx hb dX0_isTime_0 rfl (lv_at hl 0 rfl) ?_
  refine lv_lconst (v := 0) hx hb dX0_isTime_1 (by decide) ?_
  refine W.lcmp hx hb dX0_isTime_2 ?_
  refine lv_if_lt (tgt := 18) hx hb dX0_isTime_3 (by decide) (fun c_1 => ?_) (fun c_1 => ?_)
  · rw [lg_cmp_lt] at c_1
    refine lv_iconst (v := 0) hx hb dX0_isTime_18 (by decide) ?_
    have hres : 0 = (ck_b (ck_tm t0)) := by simp [ck_tm, ck_b, c_1]
    exact W.zret (ty := .boolean) (v := 0) hx hb hr rfl (fun t ht _ => ⟨congrArg (fun z => Outcome.returned (some (Value.int z))) hres, ht⟩) (fun _ h => nomatch h) dX0_isTime_19
  · rw [lg_cmp_lt] at c_1
    refine lv_lload_n hx hb dX0_isTime_6 rfl (lv_at hl 0 rfl) ?_
    refine lv_ldc2 (v := ck_TIME) hx hb hown (hts (.constantLong RX0 123 ck_TIME) (by decide +kernel)) dX0_isTime_7 ?_
    refine W.lcmp hx hb dX0_isTime_10 ?_
    refine lv_if_gt (tgt := 18) hx hb dX0_isTime_11 (by decide) (fun c_2 => ?_) (fun c_2 => ?_)
    · rw [lg_cmp_gt] at c_2
      refine lv_iconst (v := 0) hx hb dX0_isTime_18 (by decide) ?_
      have hres : 0 = (ck_b (ck_tm t0)) := by simp [ck_tm, ck_b, c_1, c_2]
      exact W.zret (ty := .boolean) (v := 0) hx hb hr rfl (fun t ht _ => ⟨congrArg (fun z => Outcome.returned (some (Value.int z))) hres, ht⟩) (fun _ h => nomatch h) dX0_isTime_19
    · rw [lg_cmp_gt] at c_2
      refine lv_iconst (v := 1) hx hb dX0_isTime_14 (by decide) ?_
      refine lv_goto (tgt := 19) hx hb dX0_isTime_15 (by decide) ?_
      have hres : 1 = (ck_b (ck_tm t0)) := by simp [ck_tm, ck_b, c_1, c_2]
      exact W.zret (ty := .boolean) (v := 1) hx hb hr rfl (fun t ht _ => ⟨congrArg (fun z => Outcome.returned (some (Value.int z))) hres, ht⟩) (fun _ h => nomatch h) dX0_isTime_19

set_option maxHeartbeats 4000000 in
set_option maxRecDepth 100000 in
theorem c_X0_isCount (l : Launch) (k : Int32)  : Met l yX0_isCount wsX0_isCount { frames := 0, cells := 0, slots := 0, locals := 0 } (va_Pc [.int k] (fun _ => True)) (ck_R (.int (ck_b (ck_ct k)))) 0 0 (fun _ => False) := by
  refine Met.ofW (cc := cX0_isCount) (maxL := 1) (ret := (some .boolean)) (by decide) rfl ?_
  intro p e s m args below meth c s₁ B hml hv
  obtain ⟨rfl, -⟩ := hv
  have hx := B.exec
  have hb := B.bytes
  have hr := B.returns
  have hts := atoms_spec (ws := wsX0_isCount) B.pre
  have hown : s.vm.findClass RX0 = some m.cls := findClass_of_methodNamed B.named
  have hlocks := B.notSynchronized
  have hl := lv_entry ([.int k]) (n := 1) (Nat.le_of_ble_eq_true rfl)
  rw [lg_entry_eq]
  generalize (lg_sl ([.int k]) ++ List.replicate (1 - (lg_sl ([.int k])).length) Slot.unset).toArray = ls at hl ⊢
  have hl : lv_has ls 1 [(0, .int k)] := hl
  refine lv_iload_n hx hb dX0_isCount_0 rfl (lv_at hl 0 rfl) ?_
  refine lv_iconst (v := 1) hx hb dX0_isCount_1 (by decide) ?_
  refine lv_icmp_lt (tgt := 15) hx hb dX0_isCount_2 (by decide) (fun c_1 => ?_) (fun c_1 => ?_)
  · refine lv_iconst (v := 0) hx hb dX0_isCount_15 (by decide) ?_
    have hres : 0 = (ck_b (ck_ct k)) := by simp [ck_ct, ck_b, c_1]
    exact W.zret (ty := .boolean) (v := 0) hx hb hr rfl (fun t ht _ => ⟨congrArg (fun z => Outcome.returned (some (Value.int z))) hres, ht⟩) (fun _ h => nomatch h) dX0_isCount_16
  · refine lv_iload_n hx hb dX0_isCount_5 rfl (lv_at hl 0 rfl) ?_
    refine lv_bipush (v := 24) hx hb dX0_isCount_6 (by decide) ?_
    refine lv_icmp_gt (tgt := 15) hx hb dX0_isCount_8 (by decide) (fun c_2 => ?_) (fun c_2 => ?_)
    · refine lv_iconst (v := 0) hx hb dX0_isCount_15 (by decide) ?_
      have hres : 0 = (ck_b (ck_ct k)) := by simp [ck_ct, ck_b, c_1, c_2]
      exact W.zret (ty := .boolean) (v := 0) hx hb hr rfl (fun t ht _ => ⟨congrArg (fun z => Outcome.returned (some (Value.int z))) hres, ht⟩) (fun _ h => nomatch h) dX0_isCount_16
    · refine lv_iconst (v := 1) hx hb dX0_isCount_11 (by decide) ?_
      refine lv_goto (tgt := 16) hx hb dX0_isCount_12 (by decide) ?_
      have hres : 1 = (ck_b (ck_ct k)) := by simp [ck_ct, ck_b, c_1, c_2]
      exact W.zret (ty := .boolean) (v := 1) hx hb hr rfl (fun t ht _ => ⟨congrArg (fun z => Outcome.returned (some (Value.int z))) hres, ht⟩) (fun _ h => nomatch h) dX0_isCount_16

set_option maxHeartbeats 4000000 in
set_option maxRecDepth 100000 in
theorem c_X0_isZeroOrOne (l : Launch) (x : Int32)  : Met l yX0_isZeroOrOne wsX0_isZeroOrOne { frames := 0, cells := 0, slots := 0, locals := 0 } (va_Pc [.int x] (fun _ => True)) (ck_R (.int (ck_b (ck_zo x)))) 0 0 (fun _ => False) := by
  refine Met.ofW (cc := cX0_isZeroOrOne) (maxL := 1) (ret := (some .boolean)) (by decide) rfl ?_
  intro p e s m args below meth c s₁ B hml hv
  obtain ⟨rfl, -⟩ := hv
  have hx := B.exec
  have hb := B.bytes
  have hr := B.returns
  have hts := atoms_spec (ws := wsX0_isZeroOrOne) B.pre
  have hown : s.vm.findClass RX0 = some m.cls := findClass_of_methodNamed B.named
  have hlocks := B.notSynchronized
  have hl := lv_entry ([.int x]) (n := 1) (Nat.le_of_ble_eq_true rfl)
  rw [lg_entry_eq]
  generalize (lg_sl ([.int x]) ++ List.replicate (1 - (lg_sl ([.int x])).length) Slot.unset).toArray = ls at hl ⊢
  have hl : lv_has ls 1 [(0, .int x)] := hl
  refine lv_iload_n hx hb dX0_isZeroOrOne_0 rfl (lv_at hl 0 rfl) ?_
  refine lv_if_eq (tgt := 9) hx hb dX0_isZeroOrOne_1 (by decide) (fun c_1 => ?_) (fun c_1 => ?_)
  · refine lv_iconst (v := 1) hx hb dX0_isZeroOrOne_9 (by decide) ?_
    refine lv_goto (tgt := 14) hx hb dX0_isZeroOrOne_10 (by decide) ?_
    have hres : 1 = (ck_b (ck_zo x)) := by simp [ck_zo, ck_b, c_1]
    exact W.zret (ty := .boolean) (v := 1) hx hb hr rfl (fun t ht _ => ⟨congrArg (fun z => Outcome.returned (some (Value.int z))) hres, ht⟩) (fun _ h => nomatch h) dX0_isZeroOrOne_14
  · refine lv_iload_n hx hb dX0_isZeroOrOne_4 rfl (lv_at hl 0 rfl) ?_
    refine lv_iconst (v := 1) hx hb dX0_isZeroOrOne_5 (by decide) ?_
    refine lv_icmp_ne (tgt := 13) hx hb dX0_isZeroOrOne_6 (by decide) (fun c_2 => ?_) (fun c_2 => ?_)
    · refine lv_iconst (v := 0) hx hb dX0_isZeroOrOne_13 (by decide) ?_
      have hres : 0 = (ck_b (ck_zo x)) := by simp [ck_zo, ck_b, c_1, c_2]
      exact W.zret (ty := .boolean) (v := 0) hx hb hr rfl (fun t ht _ => ⟨congrArg (fun z => Outcome.returned (some (Value.int z))) hres, ht⟩) (fun _ h => nomatch h) dX0_isZeroOrOne_14
    · refine lv_iconst (v := 1) hx hb dX0_isZeroOrOne_9 (by decide) ?_
      refine lv_goto (tgt := 14) hx hb dX0_isZeroOrOne_10 (by decide) ?_
      have hres : 1 = (ck_b (ck_zo x)) := by simp [ck_zo, ck_b, c_1, c_2]
      exact W.zret (ty := .boolean) (v := 1) hx hb hr rfl (fun t ht _ => ⟨congrArg (fun z => Outcome.returned (some (Value.int z))) hres, ht⟩) (fun _ h => nomatch h) dX0_isZeroOrOne_14

set_option maxHeartbeats 4000000 in
set_option maxRecDepth 100000 in
theorem c_J9_floorDiv_f86c9 (l : Launch) (x : Int64) (y : Int64) (hy : ¬ y = 0) : Met l yJ9_floorDiv_f86c9 wsJ9_floorDiv_f86c9 { frames := 0, cells := 0, slots := 0, locals := 0 } (va_Pc [.long x, .long y] (fun _ => True)) (ck_R (.long (ck_fd x y))) 0 0 (fun _ => False) := by
  refine ck_ofW (cc := cJ9_floorDiv_f86c9) (maxL := 6) (ret := (some .long)) (by decide +kernel) rfl ?_
  intro p e s m args below meth c s₁ B hml hv
  obtain ⟨rfl, -⟩ := hv
  have hx := B.exec
  have hb := B.bytes
  have hr := B.returns
  have hts := atoms_spec (ws := wsJ9_floorDiv_f86c9) B.pre
  have hown : s.vm.findClass RJ9 = some m.cls := findClass_of_methodNamed B.named
  have hlocks := B.notSynchronized
  have hl := lv_entry ([.long x, .long y]) (n := 6) (Nat.le_of_ble_eq_true rfl)
  rw [lg_entry_eq]
  generalize (lg_sl ([.long x, .long y]) ++ List.replicate (6 - (lg_sl ([.long x, .long y])).length) Slot.unset).toArray = ls at hl ⊢
  have hl : lv_has ls 6 [(0, .long x), (2, .long y)] := hl
  refine lv_lload_n hx hb dJ9_floorDiv_f86c9_0 rfl (lv_at hl 0 rfl) ?_
  refine lv_lload_n hx hb dJ9_floorDiv_f86c9_1 rfl (lv_at hl 1 rfl) ?_
  refine lv_ldiv hx hb dJ9_floorDiv_f86c9_2 (hy) ?_
  refine lv_lstore (lv' := [(4, .long (x / y)), (0, .long x), (2, .long y)]) hx hb dJ9_floorDiv_f86c9_3 hl (by decide) rfl (fun ls hl => ?_)
  refine lv_lload_n hx hb dJ9_floorDiv_f86c9_5 rfl (lv_at hl 1 rfl) ?_
  refine lv_lload_n hx hb dJ9_floorDiv_f86c9_6 rfl (lv_at hl 2 rfl) ?_
  refine lv_lxor hx hb dJ9_floorDiv_f86c9_7 ?_
  refine lv_lconst (v := 0) hx hb dJ9_floorDiv_f86c9_8 (by decide) ?_
  refine W.lcmp hx hb dJ9_floorDiv_f86c9_9 ?_
  refine lv_if_ge (tgt := 27) hx hb dJ9_floorDiv_f86c9_10 (by decide) (fun c_1 => ?_) (fun c_1 => ?_)
  · rw [lg_cmp_ge] at c_1
    refine lv_lload hx hb dJ9_floorDiv_f86c9_27 (lv_at hl 0 rfl) ?_
    have hres : (x / y) = (ck_fd x y) := by simp [ck_fd, c_1]
    exact W.lret (v := (x / y)) hx hb hr (fun t ht _ => ⟨congrArg (fun z => Outcome.returned (some (Value.long z))) hres, ht⟩) (fun _ h => nomatch h) dJ9_floorDiv_f86c9_29
  · rw [lg_cmp_ge] at c_1
    refine lv_lload hx hb dJ9_floorDiv_f86c9_13 (lv_at hl 0 rfl) ?_
    refine lv_lload_n hx hb dJ9_floorDiv_f86c9_15 rfl (lv_at hl 2 rfl) ?_
    refine lv_lmul hx hb dJ9_floorDiv_f86c9_16 ?_
    refine lv_lload_n hx hb dJ9_floorDiv_f86c9_17 rfl (lv_at hl 1 rfl) ?_
    refine W.lcmp hx hb dJ9_floorDiv_f86c9_18 ?_
    refine lv_if_eq (tgt := 27) hx hb dJ9_floorDiv_f86c9_19 (by decide) (fun c_2 => ?_) (fun c_2 => ?_)
    · rw [lg_cmp_eq] at c_2
      refine lv_lload hx hb dJ9_floorDiv_f86c9_27 (lv_at hl 0 rfl) ?_
      have hres : (x / y) = (ck_fd x y) := by simp [ck_fd, c_1, c_2]
      exact W.lret (v := (x / y)) hx hb hr (fun t ht _ => ⟨congrArg (fun z => Outcome.returned (some (Value.long z))) hres, ht⟩) (fun _ h => nomatch h) dJ9_floorDiv_f86c9_29
    · rw [lg_cmp_eq] at c_2
      refine lv_lload hx hb dJ9_floorDiv_f86c9_22 (lv_at hl 0 rfl) ?_
      refine lv_lconst (v := 1) hx hb dJ9_floorDiv_f86c9_24 (by decide) ?_
      refine lv_lsub hx hb dJ9_floorDiv_f86c9_25 ?_
      have hres : ((x / y) - 1) = (ck_fd x y) := by simp [ck_fd, c_1, c_2]
      exact W.lret (v := ((x / y) - 1)) hx hb hr (fun t ht _ => ⟨congrArg (fun z => Outcome.returned (some (Value.long z))) hres, ht⟩) (fun _ h => nomatch h) dJ9_floorDiv_f86c9_26

set_option maxHeartbeats 4000000 in
set_option maxRecDepth 100000 in
theorem c_J6_bitCount_0f7a4 (l : Launch) (x : Int32)  : Met l yJ6_bitCount_0f7a4 wsJ6_bitCount_0f7a4 { frames := 0, cells := 0, slots := 0, locals := 0 } (va_Pc [.int x] (fun _ => True)) (ck_R (.int (ck_ns x))) 0 0 (fun _ => False) := by
  refine ck_ofW (cc := cJ6_bitCount_0f7a4) (maxL := 1) (ret := (some .int)) (by decide +kernel) rfl ?_
  intro p e s m args below meth c s₁ B hml hv
  obtain ⟨rfl, -⟩ := hv
  have hx := B.exec
  have hb := B.bytes
  have hr := B.returns
  have hts := atoms_spec (ws := wsJ6_bitCount_0f7a4) B.pre
  have hown : s.vm.findClass RJ6 = some m.cls := findClass_of_methodNamed B.named
  have hlocks := B.notSynchronized
  have hl := lv_entry ([.int x]) (n := 1) (Nat.le_of_ble_eq_true rfl)
  rw [lg_entry_eq]
  generalize (lg_sl ([.int x]) ++ List.replicate (1 - (lg_sl ([.int x])).length) Slot.unset).toArray = ls at hl ⊢
  have hl : lv_has ls 1 [(0, .int x)] := hl
  refine lv_iload_n hx hb dJ6_bitCount_0f7a4_0 rfl (lv_at hl 0 rfl) ?_
  refine lv_iload_n hx hb dJ6_bitCount_0f7a4_1 rfl (lv_at hl 0 rfl) ?_
  refine lv_iconst (v := 1) hx hb dJ6_bitCount_0f7a4_2 (by decide) ?_
  refine lv_iushr (v := (ck_u x 1)) hx hb dJ6_bitCount_0f7a4_3 rfl ?_
  refine lv_ldcw (v := 1431655765) hx hb hown (hts (.constant RJ6 265 1431655765) (by decide +kernel)) dJ6_bitCount_0f7a4_4 ?_
  refine lv_iand hx hb dJ6_bitCount_0f7a4_7 ?_
  refine lv_isub hx hb dJ6_bitCount_0f7a4_8 ?_
  refine lv_istore_n (lv' := [(0, .int (ck_s1 x))]) hx hb dJ6_bitCount_0f7a4_9 rfl hl (by decide) rfl (fun ls hl => ?_)
  refine lv_iload_n hx hb dJ6_bitCount_0f7a4_10 rfl (lv_at hl 0 rfl) ?_
  refine lv_ldcw (v := 858993459) hx hb hown (hts (.constant RJ6 266 858993459) (by decide +kernel)) dJ6_bitCount_0f7a4_11 ?_
  refine lv_iand hx hb dJ6_bitCount_0f7a4_14 ?_
  refine lv_iload_n hx hb dJ6_bitCount_0f7a4_15 rfl (lv_at hl 0 rfl) ?_
  refine lv_iconst (v := 2) hx hb dJ6_bitCount_0f7a4_16 (by decide) ?_
  refine lv_iushr (v := (ck_u (ck_s1 x) 2)) hx hb dJ6_bitCount_0f7a4_17 rfl ?_
  refine lv_ldcw (v := 858993459) hx hb hown (hts (.constant RJ6 266 858993459) (by decide +kernel)) dJ6_bitCount_0f7a4_18 ?_
  refine lv_iand hx hb dJ6_bitCount_0f7a4_21 ?_
  refine lv_iadd hx hb dJ6_bitCount_0f7a4_22 ?_
  refine lv_istore_n (lv' := [(0, .int (ck_s2 (ck_s1 x)))]) hx hb dJ6_bitCount_0f7a4_23 rfl hl (by decide) rfl (fun ls hl => ?_)
  refine lv_iload_n hx hb dJ6_bitCount_0f7a4_24 rfl (lv_at hl 0 rfl) ?_
  refine lv_iload_n hx hb dJ6_bitCount_0f7a4_25 rfl (lv_at hl 0 rfl) ?_
  refine lv_iconst (v := 4) hx hb dJ6_bitCount_0f7a4_26 (by decide) ?_
  refine lv_iushr (v := (ck_u (ck_s2 (ck_s1 x)) 4)) hx hb dJ6_bitCount_0f7a4_27 rfl ?_
  refine lv_iadd hx hb dJ6_bitCount_0f7a4_28 ?_
  refine lv_ldcw (v := 252645135) hx hb hown (hts (.constant RJ6 267 252645135) (by decide +kernel)) dJ6_bitCount_0f7a4_29 ?_
  refine lv_iand hx hb dJ6_bitCount_0f7a4_32 ?_
  refine lv_istore_n (lv' := [(0, .int (ck_s3 (ck_s2 (ck_s1 x))))]) hx hb dJ6_bitCount_0f7a4_33 rfl hl (by decide) rfl (fun ls hl => ?_)
  refine lv_iload_n hx hb dJ6_bitCount_0f7a4_34 rfl (lv_at hl 0 rfl) ?_
  refine lv_iload_n hx hb dJ6_bitCount_0f7a4_35 rfl (lv_at hl 0 rfl) ?_
  refine lv_bipush (v := 8) hx hb dJ6_bitCount_0f7a4_36 (by decide) ?_
  refine lv_iushr (v := (ck_u (ck_s3 (ck_s2 (ck_s1 x))) 8)) hx hb dJ6_bitCount_0f7a4_38 rfl ?_
  refine lv_iadd hx hb dJ6_bitCount_0f7a4_39 ?_
  refine lv_istore_n (lv' := [(0, .int (ck_s4 (ck_s3 (ck_s2 (ck_s1 x)))))]) hx hb dJ6_bitCount_0f7a4_40 rfl hl (by decide) rfl (fun ls hl => ?_)
  refine lv_iload_n hx hb dJ6_bitCount_0f7a4_41 rfl (lv_at hl 0 rfl) ?_
  refine lv_iload_n hx hb dJ6_bitCount_0f7a4_42 rfl (lv_at hl 0 rfl) ?_
  refine lv_bipush (v := 16) hx hb dJ6_bitCount_0f7a4_43 (by decide) ?_
  refine lv_iushr (v := (ck_u (ck_s4 (ck_s3 (ck_s2 (ck_s1 x)))) 16)) hx hb dJ6_bitCount_0f7a4_45 rfl ?_
  refine lv_iadd hx hb dJ6_bitCount_0f7a4_46 ?_
  refine lv_istore_n (lv' := [(0, .int (ck_s5 (ck_s4 (ck_s3 (ck_s2 (ck_s1 x))))))]) hx hb dJ6_bitCount_0f7a4_47 rfl hl (by decide) rfl (fun ls hl => ?_)
  refine lv_iload_n hx hb dJ6_bitCount_0f7a4_48 rfl (lv_at hl 0 rfl) ?_
  refine lv_bipush (v := 63) hx hb dJ6_bitCount_0f7a4_49 (by decide) ?_
  refine lv_iand hx hb dJ6_bitCount_0f7a4_51 ?_
  have hres : ((ck_s5 (ck_s4 (ck_s3 (ck_s2 (ck_s1 x))))) &&& 63) = (ck_ns x) := by exact ck_bc x
  exact W.iret (v := ((ck_s5 (ck_s4 (ck_s3 (ck_s2 (ck_s1 x))))) &&& 63)) hx hb hr (fun t ht _ => ⟨congrArg (fun z => Outcome.returned (some (Value.int z))) hres, ht⟩) (fun _ h => nomatch h) dJ6_bitCount_0f7a4_52

set_option maxHeartbeats 4000000 in
set_option maxRecDepth 100000 in
theorem c_X0_half (l : Launch) (x : Int64)  : Met l yX0_half wsX0_half { frames := 1, cells := 0, slots := 0, locals := 25 } (va_Pc [.long x] (fun _ => True)) (ck_R (.long (ck_half x))) 0 0 (fun _ => False) := by
  refine Met.ofW (cc := cX0_half) (maxL := 2) (ret := (some .long)) (by decide) rfl ?_
  intro p e s m args below meth c s₁ B hml hv
  obtain ⟨rfl, -⟩ := hv
  have hx := B.exec
  have hb := B.bytes
  have hr := B.returns
  have hts := atoms_spec (ws := wsX0_half) B.pre
  have hown : s.vm.findClass RX0 = some m.cls := findClass_of_methodNamed B.named
  have hlocks := B.notSynchronized
  have hl := lv_entry ([.long x]) (n := 2) (Nat.le_of_ble_eq_true rfl)
  rw [lg_entry_eq]
  generalize (lg_sl ([.long x]) ++ List.replicate (2 - (lg_sl ([.long x])).length) Slot.unset).toArray = ls at hl ⊢
  have hl : lv_has ls 2 [(0, .long x)] := hl
  refine lv_lload_n hx hb dX0_half_0 rfl (lv_at hl 0 rfl) ?_
  refine lv_ldc2 (v := 2) hx hb hown (hts (.constantLong RX0 138 2) (by decide +kernel)) dX0_half_1 ?_
  refine ck_cS (As := [.long x, .long 2]) (rest := []) ⟨hx, hb, hml, hown, hts⟩ (c_J9_floorDiv_f86c9 l x 2 (by decide)) (va_cwS 2 hts gX0_half_J9_floorDiv_f86c9 rfl rfl rfl (by decide +kernel) ⟨Nat.le_of_ble_eq_true rfl, Nat.le_of_ble_eq_true rfl⟩) rfl hl.1 rfl (Nat.le_of_ble_eq_true rfl) dX0_half_4 ⟨Nat.le_of_ble_eq_true rfl, Nat.le_of_ble_eq_true rfl⟩ ?_
  have hres : (ck_fd x 2) = (ck_half x) := by exact ck_fd2 x
  exact W.lret (v := (ck_fd x 2)) hx hb hr (fun t ht _ => ⟨congrArg (fun z => Outcome.returned (some (Value.long z))) hres, ht⟩) (fun _ h => nomatch h) dX0_half_7

set_option maxHeartbeats 4000000 in
set_option maxRecDepth 100000 in
theorem c_X0_isIn (l : Launch) (set : Int32) (x : Int32)  : Met l yX0_isIn wsX0_isIn { frames := 1, cells := 0, slots := 0, locals := 20 } (va_Pc [.int set, .int x] (fun _ => True)) (ck_R (.int (ck_b (ck_in set x)))) 0 0 (fun _ => False) := by
  refine Met.ofW (cc := cX0_isIn) (maxL := 2) (ret := (some .boolean)) (by decide) rfl ?_
  intro p e s m args below meth c s₁ B hml hv
  obtain ⟨rfl, -⟩ := hv
  have hx := B.exec
  have hb := B.bytes
  have hr := B.returns
  have hts := atoms_spec (ws := wsX0_isIn) B.pre
  have hown : s.vm.findClass RX0 = some m.cls := findClass_of_methodNamed B.named
  have hlocks := B.notSynchronized
  have hl := lv_entry ([.int set, .int x]) (n := 2) (Nat.le_of_ble_eq_true rfl)
  rw [lg_entry_eq]
  generalize (lg_sl ([.int set, .int x]) ++ List.replicate (2 - (lg_sl ([.int set, .int x])).length) Slot.unset).toArray = ls at hl ⊢
  have hl : lv_has ls 2 [(0, .int set), (1, .int x)] := hl
  refine lv_iload_n hx hb dX0_isIn_0 rfl (lv_at hl 1 rfl) ?_
  refine ck_cS (As := [.int x]) (rest := []) ⟨hx, hb, hml, hown, hts⟩ (c_X0_isSource l x) (va_cwS 1 hts gX0_isIn_X0_isSource rfl rfl rfl (by decide +kernel) ⟨Nat.le_of_ble_eq_true rfl, Nat.le_of_ble_eq_true rfl⟩) rfl hl.1 rfl (Nat.le_of_ble_eq_true rfl) dX0_isIn_1 ⟨Nat.le_of_ble_eq_true rfl, Nat.le_of_ble_eq_true rfl⟩ ?_
  refine lv_if_eq (tgt := 19) hx hb dX0_isIn_4 (by decide) (fun c_1 => ?_) (fun c_1 => ?_)
  · have c_1 := ck_bf c_1
    refine lv_iconst (v := 0) hx hb dX0_isIn_19 (by decide) ?_
    have hres : 0 = (ck_b (ck_in set x)) := by simp [ck_in, ck_b, c_1]
    exact W.zret (ty := .boolean) (v := 0) hx hb hr rfl (fun t ht _ => ⟨congrArg (fun z => Outcome.returned (some (Value.int z))) hres, ht⟩) (fun _ h => nomatch h) dX0_isIn_20
  · have c_1 := ck_bt c_1
    obtain ⟨jx, hjx, rfl⟩ := ck_srcE c_1
    have hcjx : (nI jx).toNatClampNeg = jx := nI_clamp (by omega)
    refine lv_iload_n hx hb dX0_isIn_7 rfl (lv_at hl 0 rfl) ?_
    refine lv_iconst (v := 1) hx hb dX0_isIn_8 (by decide) ?_
    refine lv_iload_n hx hb dX0_isIn_9 rfl (lv_at hl 1 rfl) ?_
    refine lv_ishl hx hb dX0_isIn_10 ?_
    refine lv_iand hx hb dX0_isIn_11 ?_
    refine lv_if_eq (tgt := 19) hx hb dX0_isIn_12 (by decide) (fun c_2 => ?_) (fun c_2 => ?_)
    · refine lv_iconst (v := 0) hx hb dX0_isIn_19 (by decide) ?_
      have hres : 0 = (ck_b (ck_in set (nI jx))) := by simp [ck_in, ck_b, c_1, hcjx, c_2]
      exact W.zret (ty := .boolean) (v := 0) hx hb hr rfl (fun t ht _ => ⟨congrArg (fun z => Outcome.returned (some (Value.int z))) hres, ht⟩) (fun _ h => nomatch h) dX0_isIn_20
    · refine lv_iconst (v := 1) hx hb dX0_isIn_15 (by decide) ?_
      refine lv_goto (tgt := 20) hx hb dX0_isIn_16 (by decide) ?_
      have hres : 1 = (ck_b (ck_in set (nI jx))) := by simp [ck_in, ck_b, c_1, hcjx, c_2]
      exact W.zret (ty := .boolean) (v := 1) hx hb hr rfl (fun t ht _ => ⟨congrArg (fun z => Outcome.returned (some (Value.int z))) hres, ht⟩) (fun _ h => nomatch h) dX0_isIn_20

theorem c_X0_isInN (l : Launch) (set : Int32) (j : Nat) (hj : j < 24) : Met l yX0_isIn wsX0_isIn { frames := 1, cells := 0, slots := 0, locals := 20 } (va_Pc [.int set, .int (nI j)] (fun _ => True)) (ck_R (.int (ck_b (bt set j)))) 0 0 (fun _ => False) := by
  rw [← ck_inN set hj]
  exact c_X0_isIn l set (nI j)

set_option maxHeartbeats 4000000 in
set_option maxRecDepth 100000 in
theorem c_X0_without (l : Launch) (set : Int32) (x : Int32)  : Met l yX0_without wsX0_without { frames := 0, cells := 0, slots := 0, locals := 0 } (va_Pc [.int set, .int x] (fun _ => True)) (ck_R (.int (ck_wo set x))) 0 0 (fun _ => False) := by
  refine Met.ofW (cc := cX0_without) (maxL := 2) (ret := (some .int)) (by decide) rfl ?_
  intro p e s m args below meth c s₁ B hml hv
  obtain ⟨rfl, -⟩ := hv
  have hx := B.exec
  have hb := B.bytes
  have hr := B.returns
  have hts := atoms_spec (ws := wsX0_without) B.pre
  have hown : s.vm.findClass RX0 = some m.cls := findClass_of_methodNamed B.named
  have hlocks := B.notSynchronized
  have hl := lv_entry ([.int set, .int x]) (n := 2) (Nat.le_of_ble_eq_true rfl)
  rw [lg_entry_eq]
  generalize (lg_sl ([.int set, .int x]) ++ List.replicate (2 - (lg_sl ([.int set, .int x])).length) Slot.unset).toArray = ls at hl ⊢
  have hl : lv_has ls 2 [(0, .int set), (1, .int x)] := hl
  refine lv_iload_n hx hb dX0_without_0 rfl (lv_at hl 0 rfl) ?_
  refine lv_iconst (v := 1) hx hb dX0_without_1 (by decide) ?_
  refine lv_iload_n hx hb dX0_without_2 rfl (lv_at hl 1 rfl) ?_
  refine lv_ishl hx hb dX0_without_3 ?_
  refine lv_iconst (v := (-1)) hx hb dX0_without_4 (by decide) ?_
  refine lv_ixor hx hb dX0_without_5 ?_
  refine lv_iand hx hb dX0_without_6 ?_
  have hres : (set &&& ((1 <<< (x &&& 31)) ^^^ (-1))) = (ck_wo set x) := by rfl
  exact W.iret (v := (set &&& ((1 <<< (x &&& 31)) ^^^ (-1)))) hx hb hr (fun t ht _ => ⟨congrArg (fun z => Outcome.returned (some (Value.int z))) hres, ht⟩) (fun _ h => nomatch h) dX0_without_7

set_option maxHeartbeats 4000000 in
set_option maxRecDepth 100000 in
theorem c_X0_isCoveredBy (l : Launch) (D : va_G) (h a1 a2 : Nat) (c1 c2 : ClassId) (lo hi : Nat → Int64) (hd : Int32) (ow off go : Int64) (p0 : Int64) (j : Nat) (hj : j < 24) : Met l yX0_isCoveredBy wsX0_isCoveredBy { frames := 2, cells := 0, slots := 0, locals := 41 } (va_Pc [.ref h, .int (nI j), .long p0] (ck_B D (xW h a1 a2 c1 c2 lo hi hd ow off go) (xT c1 c2))) (ck_R (.int (ck_b (ck_cov (bt hd) lo hi p0 j)))) 0 0 (fun _ => False) := by
  refine Met.ofW (cc := cX0_isCoveredBy) (maxL := 4) (ret := (some .boolean)) (by decide) rfl ?_
  intro p e s m args below meth c s₁ B hml hv
  obtain ⟨rfl, hP, hK⟩ := hv
  have hx := B.exec
  have hb := B.bytes
  have hr := B.returns
  have hts := atoms_spec (ws := wsX0_isCoveredBy) B.pre
  have hown : s.vm.findClass RX0 = some m.cls := findClass_of_methodNamed B.named
  have hlocks := B.notSynchronized
  have hin : ∀ w ∈ wsX00, w ∈ wsX0_isCoveredBy := fun _ h => List.mem_cons_of_mem _ (List.mem_append_right _ h)
  have hl := lv_entry ([.ref h, .int (nI j), .long p0]) (n := 4) (Nat.le_of_ble_eq_true rfl)
  rw [lg_entry_eq]
  generalize (lg_sl ([.ref h, .int (nI j), .long p0]) ++ List.replicate (4 - (lg_sl ([.ref h, .int (nI j), .long p0])).length) Slot.unset).toArray = ls at hl ⊢
  have hl : lv_has ls 4 [(0, .ref h), (1, .int (nI j)), (2, .long p0)] := hl
  refine lv_aload_n hx hb dX0_isCoveredBy_0 rfl (lv_at hl 0 rfl) ?_
  refine va_get (D := D) (ci := 0) (v := .int hd) (C := RX0) (T := TX0) (N := 6) hx hb hts hin hown hK hP 0 rfl rfl 2 (by decide) (hts (.fieldLink RX0 16 "ClockDesk" "held" "I") (by decide +kernel)) (fun _ h9 => h9) rfl dX0_isCoveredBy_1 ?_
  refine lv_iload_n hx hb dX0_isCoveredBy_4 rfl (lv_at hl 1 rfl) ?_
  refine ck_cS (As := [.int hd, .int (nI j)]) (rest := []) ⟨hx, hb, hml, hown, hts⟩ (c_X0_isInN l hd j hj) (va_cwS 2 hts gX0_isCoveredBy_X0_isIn rfl rfl rfl (by decide +kernel) ⟨Nat.le_of_ble_eq_true rfl, Nat.le_of_ble_eq_true rfl⟩) rfl hl.1 rfl (Nat.le_of_ble_eq_true rfl) dX0_isCoveredBy_5 ⟨Nat.le_of_ble_eq_true rfl, Nat.le_of_ble_eq_true rfl⟩ ?_
  refine lv_if_eq (tgt := 37) hx hb dX0_isCoveredBy_8 (by decide) (fun c_1 => ?_) (fun c_1 => ?_)
  · have c_1 := ck_bf c_1
    refine lv_iconst (v := 0) hx hb dX0_isCoveredBy_37 (by decide) ?_
    have hres : 0 = (ck_b (ck_cov (bt hd) lo hi p0 j)) := by simp [ck_cov, ck_b, c_1]
    exact W.zret (ty := .boolean) (v := 0) hx hb hr rfl (fun t ht _ => ⟨congrArg (fun z => Outcome.returned (some (Value.int z))) hres, ht⟩) (fun _ h => nomatch h) dX0_isCoveredBy_38
  · have c_1 := ck_bt c_1
    refine lv_aload_n hx hb dX0_isCoveredBy_11 rfl (lv_at hl 0 rfl) ?_
    refine va_get (D := D) (ci := 0) (v := .ref a1) (C := RX0) (T := TX0) (N := 6) hx hb hts hin hown hK hP 0 rfl rfl 0 (by decide) (hts (.fieldLink RX0 9 "ClockDesk" "lows" "[J") (by decide +kernel)) (fun _ h9 => h9) rfl dX0_isCoveredBy_12 ?_
    refine lv_iload_n hx hb dX0_isCoveredBy_15 rfl (lv_at hl 1 rfl) ?_
    refine ck_lald hx hb hK hP 1 0 rfl rfl (i := j) hj dX0_isCoveredBy_16 ?_
    refine lv_lload_n hx hb dX0_isCoveredBy_17 rfl (lv_at hl 2 rfl) ?_
    refine W.lcmp hx hb dX0_isCoveredBy_18 ?_
    refine lv_if_gt (tgt := 37) hx hb dX0_isCoveredBy_19 (by decide) (fun c_2 => ?_) (fun c_2 => ?_)
    · rw [lg_cmp_gt] at c_2
      refine lv_iconst (v := 0) hx hb dX0_isCoveredBy_37 (by decide) ?_
      have hres : 0 = (ck_b (ck_cov (bt hd) lo hi p0 j)) := by simp [ck_cov, ck_b, c_1, c_2]
      exact W.zret (ty := .boolean) (v := 0) hx hb hr rfl (fun t ht _ => ⟨congrArg (fun z => Outcome.returned (some (Value.int z))) hres, ht⟩) (fun _ h => nomatch h) dX0_isCoveredBy_38
    · rw [lg_cmp_gt] at c_2
      refine lv_lload_n hx hb dX0_isCoveredBy_22 rfl (lv_at hl 2 rfl) ?_
      refine lv_aload_n hx hb dX0_isCoveredBy_23 rfl (lv_at hl 0 rfl) ?_
      refine va_get (D := D) (ci := 0) (v := .ref a2) (C := RX0) (T := TX0) (N := 6) hx hb hts hin hown hK hP 0 rfl rfl 1 (by decide) (hts (.fieldLink RX0 13 "ClockDesk" "highs" "[J") (by decide +kernel)) (fun _ h9 => h9) rfl dX0_isCoveredBy_24 ?_
      refine lv_iload_n hx hb dX0_isCoveredBy_27 rfl (lv_at hl 1 rfl) ?_
      refine ck_lald hx hb hK hP 2 1 rfl rfl (i := j) hj dX0_isCoveredBy_28 ?_
      refine W.lcmp hx hb dX0_isCoveredBy_29 ?_
      refine lv_if_gt (tgt := 37) hx hb dX0_isCoveredBy_30 (by decide) (fun c_3 => ?_) (fun c_3 => ?_)
      · rw [lg_cmp_gt] at c_3
        refine lv_iconst (v := 0) hx hb dX0_isCoveredBy_37 (by decide) ?_
        have hres : 0 = (ck_b (ck_cov (bt hd) lo hi p0 j)) := by simp [ck_cov, ck_b, c_1, c_2, c_3]
        exact W.zret (ty := .boolean) (v := 0) hx hb hr rfl (fun t ht _ => ⟨congrArg (fun z => Outcome.returned (some (Value.int z))) hres, ht⟩) (fun _ h => nomatch h) dX0_isCoveredBy_38
      · rw [lg_cmp_gt] at c_3
        refine lv_iconst (v := 1) hx hb dX0_isCoveredBy_33 (by decide) ?_
        refine lv_goto (tgt := 38) hx hb dX0_isCoveredBy_34 (by decide) ?_
        have hres : 1 = (ck_b (ck_cov (bt hd) lo hi p0 j)) := by simp [ck_cov, ck_b, c_1, c_2, c_3]
        exact W.zret (ty := .boolean) (v := 1) hx hb hr rfl (fun t ht _ => ⟨congrArg (fun z => Outcome.returned (some (Value.int z))) hres, ht⟩) (fun _ h => nomatch h) dX0_isCoveredBy_38
end
section
set_option maxHeartbeats 4000000 in
set_option maxRecDepth 100000 in
theorem c_X0_covers (l : Launch) (D : va_G) (h a1 a2 : Nat) (c1 c2 : ClassId) (lo hi : Nat → Int64) (hd : Int32) (ow off go : Int64) (p0 : Int64)  : Met l yX0_covers wsX0_covers { frames := 3, cells := 0, slots := 0, locals := 64 } (va_Pc [.ref h, .long p0] (ck_B D (xW h a1 a2 c1 c2 lo hi hd ow off go) (xT c1 c2))) (ck_R (.int (ck_cvs (bt hd) lo hi p0))) 0 0 (fun _ => False) := by
  refine Met.ofW (cc := cX0_covers) (maxL := 5) (ret := (some .int)) (by decide) rfl ?_
  intro p e s m args below meth c s₁ B hml hv
  obtain ⟨rfl, hP, hK⟩ := hv
  have hx := B.exec
  have hb := B.bytes
  have hr := B.returns
  have hts := atoms_spec (ws := wsX0_covers) B.pre
  have hown : s.vm.findClass RX0 = some m.cls := findClass_of_methodNamed B.named
  have hlocks := B.notSynchronized
  have hin : ∀ w ∈ wsX00, w ∈ wsX0_covers := fun _ h => List.mem_cons_of_mem _ (List.mem_append_right _ h)
  have hl := lv_entry ([.ref h, .long p0]) (n := 5) (Nat.le_of_ble_eq_true rfl)
  rw [lg_entry_eq]
  generalize (lg_sl ([.ref h, .long p0]) ++ List.replicate (5 - (lg_sl ([.ref h, .long p0])).length) Slot.unset).toArray = ls at hl ⊢
  have hl : lv_has ls 5 [(0, .ref h), (1, .long p0)] := hl
  refine lv_iconst (v := 0) hx hb dX0_covers_0 (by decide) ?_
  refine lv_istore_n (lv' := [(3, .int 0), (0, .ref h), (1, .long p0)]) hx hb dX0_covers_1 rfl hl (by decide) rfl (fun ls hl => ?_)
  refine lv_iconst (v := 0) hx hb dX0_covers_2 (by decide) ?_
  refine lv_istore (lv' := [(4, .int 0), (3, .int 0), (0, .ref h), (1, .long p0)]) hx hb dX0_covers_3 hl (by decide) rfl (fun ls hl => ?_)
  refine ck_loop (G := fun ls => W p l e _ s m _ below meth c _ _ _ _ _ (F0 m 5 ls [])) (nL := 5) (24) (fun i => True) (fun i => [(0, .ref h), (1, .long p0), (3, .int (ck_cn (ck_cov (bt hd) lo hi p0) i)), (4, .int (nI i))]) (fun i hle_i hj_i ih_i ls hl => ?_) ls (trivial) ?_
  rotate_left
  · have hq : lv_has ls 5 [(0, .ref h), (1, .long p0), (3, .int 0), (4, .int 0)] := lv_sub hl [2, 3, 1, 0] rfl
    exact hq
  have hl : lv_has ls 5 [(0, .ref h), (1, .long p0), (3, .int (ck_cn (ck_cov (bt hd) lo hi p0) i)), (4, .int (nI i))] := hl
  refine lv_iload hx hb dX0_covers_5 (lv_at hl 3 rfl) ?_
  refine lv_bipush (v := 24) hx hb dX0_covers_7 (by decide) ?_
  refine lv_icmp_ge (tgt := 31) hx hb dX0_covers_9 (by decide) (fun c_1 => ?_) (fun c_1 => ?_)
  · have heq_i : i = 24 := ck_eqN hle_i c_1
    subst heq_i
    have hl : lv_has ls 5 [(0, .ref h), (1, .long p0), (3, .int (ck_cn (ck_cov (bt hd) lo hi p0) 24)), (4, .int (nI 24))] := hl
    refine lv_iload_n hx hb dX0_covers_31 rfl (lv_at hl 2 rfl) ?_
    have hres : (ck_cn (ck_cov (bt hd) lo hi p0) 24) = (ck_cvs (bt hd) lo hi p0) := by rfl
    exact W.iret (v := (ck_cn (ck_cov (bt hd) lo hi p0) 24)) hx hb hr (fun t ht _ => ⟨congrArg (fun z => Outcome.returned (some (Value.int z))) hres, ht⟩) (fun _ h => nomatch h) dX0_covers_32
  · have hlt_i : i < 24 := ck_ltN hle_i c_1
    refine lv_aload_n hx hb dX0_covers_12 rfl (lv_at hl 0 rfl) ?_
    refine lv_iload hx hb dX0_covers_13 (lv_at hl 3 rfl) ?_
    refine lv_lload_n hx hb dX0_covers_15 rfl (lv_at hl 1 rfl) ?_
    refine ck_cV (As := [.int (nI i), .long p0]) (rest := []) ⟨hx, hb, hml, hown, hts⟩ (c_X0_isCoveredBy l D h a1 a2 c1 c2 lo hi hd ow off go p0 i hlt_i) (cwV 2 hts gX0_covers_X0_isCoveredBy rfl rfl rfl (by decide +kernel) ⟨Nat.le_of_ble_eq_true rfl, Nat.le_of_ble_eq_true rfl⟩) hP hK (va_recv hK hP (ci := 0) (q0 := 0) rfl rfl) rfl hl.1 rfl (Nat.le_of_ble_eq_true rfl) dX0_covers_16 ⟨Nat.le_of_ble_eq_true rfl, Nat.le_of_ble_eq_true rfl⟩ ?_
    refine lv_if_eq (tgt := 25) hx hb dX0_covers_19 (by decide) (fun c_2 => ?_) (fun c_2 => ?_)
    · have c_2 := ck_bf c_2
      refine lv_iinc (v := (nI (i + 1))) (lv' := [(4, .int (nI (i + 1))), (0, .ref h), (1, .long p0), (3, .int (ck_cn (ck_cov (bt hd) lo hi p0) i))]) hx hb dX0_covers_25 hl (k := 3) rfl (nI_1 i) (by decide) rfl (fun ls hl => ?_)
      refine lv_goto (tgt := 5) hx hb dX0_covers_28 (by decide) ?_
      refine ih_i ls hlt_i (trivial) ?_
      have hq : lv_has ls 5 [(0, .ref h), (1, .long p0), (3, .int (ck_cn (ck_cov (bt hd) lo hi p0) i)), (4, .int (nI (i + 1)))] := lv_sub hl [1, 2, 3, 0] rfl
      have eq0 : (ck_cn (ck_cov (bt hd) lo hi p0) i) = (ck_cn (ck_cov (bt hd) lo hi p0) (i + 1)) := by simp [ck_cn, c_2]
      exact lv_eqq hq (by rw [← eq0])
    · have c_2 := ck_bt c_2
      refine lv_iinc (v := ((ck_cn (ck_cov (bt hd) lo hi p0) i) + 1)) (lv' := [(3, .int ((ck_cn (ck_cov (bt hd) lo hi p0) i) + 1)), (0, .ref h), (1, .long p0), (4, .int (nI i))]) hx hb dX0_covers_22 hl (k := 2) rfl rfl (by decide) rfl (fun ls hl => ?_)
      refine lv_iinc (v := (nI (i + 1))) (lv' := [(4, .int (nI (i + 1))), (3, .int ((ck_cn (ck_cov (bt hd) lo hi p0) i) + 1)), (0, .ref h), (1, .long p0)]) hx hb dX0_covers_25 hl (k := 3) rfl (nI_1 i) (by decide) rfl (fun ls hl => ?_)
      refine lv_goto (tgt := 5) hx hb dX0_covers_28 (by decide) ?_
      refine ih_i ls hlt_i (trivial) ?_
      have hq : lv_has ls 5 [(0, .ref h), (1, .long p0), (3, .int ((ck_cn (ck_cov (bt hd) lo hi p0) i) + 1)), (4, .int (nI (i + 1)))] := lv_sub hl [2, 3, 1, 0] rfl
      have eq0 : ((ck_cn (ck_cov (bt hd) lo hi p0) i) + 1) = (ck_cn (ck_cov (bt hd) lo hi p0) (i + 1)) := by simp [ck_cn, c_2]
      exact lv_eqq hq (by rw [← eq0])

set_option maxHeartbeats 4000000 in
set_option maxRecDepth 100000 in
theorem c_X0_greatest (l : Launch) (D : va_G) (h a1 a2 : Nat) (c1 c2 : ClassId) (lo hi : Nat → Int64) (hd : Int32) (ow off go : Int64)   : Met l yX0_greatest wsX0_greatest { frames := 4, cells := 0, slots := 0, locals := 88 } (va_Pc [.ref h] (ck_B D (xW h a1 a2 c1 c2 lo hi hd ow off go) (xT c1 c2))) (ck_R (.int (ck_gr (bt hd) lo hi 24))) 0 0 (fun _ => False) := by
  refine Met.ofW (cc := cX0_greatest) (maxL := 3) (ret := (some .int)) (by decide) rfl ?_
  intro p e s m args below meth c s₁ B hml hv
  obtain ⟨rfl, hP, hK⟩ := hv
  have hx := B.exec
  have hb := B.bytes
  have hr := B.returns
  have hts := atoms_spec (ws := wsX0_greatest) B.pre
  have hown : s.vm.findClass RX0 = some m.cls := findClass_of_methodNamed B.named
  have hlocks := B.notSynchronized
  have hin : ∀ w ∈ wsX00, w ∈ wsX0_greatest := fun _ h => List.mem_cons_of_mem _ (List.mem_append_right _ h)
  have hl := lv_entry ([.ref h]) (n := 3) (Nat.le_of_ble_eq_true rfl)
  rw [lg_entry_eq]
  generalize (lg_sl ([.ref h]) ++ List.replicate (3 - (lg_sl ([.ref h])).length) Slot.unset).toArray = ls at hl ⊢
  have hl : lv_has ls 3 [(0, .ref h)] := hl
  refine lv_iconst (v := 0) hx hb dX0_greatest_0 (by decide) ?_
  refine lv_istore_n (lv' := [(1, .int 0), (0, .ref h)]) hx hb dX0_greatest_1 rfl hl (by decide) rfl (fun ls hl => ?_)
  refine lv_iconst (v := 0) hx hb dX0_greatest_2 (by decide) ?_
  refine lv_istore_n (lv' := [(2, .int 0), (1, .int 0), (0, .ref h)]) hx hb dX0_greatest_3 rfl hl (by decide) rfl (fun ls hl => ?_)
  refine ck_loop (G := fun ls => W p l e _ s m _ below meth c _ _ _ _ _ (F0 m 4 ls [])) (nL := 3) (24) (fun i => True) (fun i => [(0, .ref h), (1, .int (ck_gr (bt hd) lo hi i)), (2, .int (nI i))]) (fun i hle_i hj_i ih_i ls hl => ?_) ls (trivial) ?_
  rotate_left
  · have hq : lv_has ls 3 [(0, .ref h), (1, .int 0), (2, .int 0)] := lv_sub hl [2, 1, 0] rfl
    exact hq
  have hl : lv_has ls 3 [(0, .ref h), (1, .int (ck_gr (bt hd) lo hi i)), (2, .int (nI i))] := hl
  refine lv_iload_n hx hb dX0_greatest_4 rfl (lv_at hl 2 rfl) ?_
  refine lv_bipush (v := 24) hx hb dX0_greatest_5 (by decide) ?_
  refine lv_icmp_ge (tgt := 42) hx hb dX0_greatest_7 (by decide) (fun c_1 => ?_) (fun c_1 => ?_)
  · have heq_i : i = 24 := ck_eqN hle_i c_1
    subst heq_i
    have hl : lv_has ls 3 [(0, .ref h), (1, .int (ck_gr (bt hd) lo hi 24)), (2, .int (nI 24))] := hl
    refine lv_iload_n hx hb dX0_greatest_42 rfl (lv_at hl 1 rfl) ?_
    have hres : (ck_gr (bt hd) lo hi 24) = (ck_gr (bt hd) lo hi 24) := by rfl
    exact W.iret (v := (ck_gr (bt hd) lo hi 24)) hx hb hr (fun t ht _ => ⟨congrArg (fun z => Outcome.returned (some (Value.int z))) hres, ht⟩) (fun _ h => nomatch h) dX0_greatest_43
  · have hlt_i : i < 24 := ck_ltN hle_i c_1
    refine lv_aload_n hx hb dX0_greatest_10 rfl (lv_at hl 0 rfl) ?_
    refine va_get (D := D) (ci := 0) (v := .int hd) (C := RX0) (T := TX0) (N := 6) hx hb hts hin hown hK hP 0 rfl rfl 2 (by decide) (hts (.fieldLink RX0 16 "ClockDesk" "held" "I") (by decide +kernel)) (fun _ h9 => h9) rfl dX0_greatest_11 ?_
    refine lv_iload_n hx hb dX0_greatest_14 rfl (lv_at hl 2 rfl) ?_
    refine ck_cS (As := [.int hd, .int (nI i)]) (rest := []) ⟨hx, hb, hml, hown, hts⟩ (c_X0_isInN l hd i hlt_i) (va_cwS 2 hts gX0_greatest_X0_isIn rfl rfl rfl (by decide +kernel) ⟨Nat.le_of_ble_eq_true rfl, Nat.le_of_ble_eq_true rfl⟩) rfl hl.1 rfl (Nat.le_of_ble_eq_true rfl) dX0_greatest_15 ⟨Nat.le_of_ble_eq_true rfl, Nat.le_of_ble_eq_true rfl⟩ ?_
    refine lv_if_eq (tgt := 36) hx hb dX0_greatest_18 (by decide) (fun c_2 => ?_) (fun c_2 => ?_)
    · have c_2 := ck_bf c_2
      refine lv_iinc (v := (nI (i + 1))) (lv' := [(2, .int (nI (i + 1))), (0, .ref h), (1, .int (ck_gr (bt hd) lo hi i))]) hx hb dX0_greatest_36 hl (k := 2) rfl (nI_1 i) (by decide) rfl (fun ls hl => ?_)
      refine lv_goto (tgt := 4) hx hb dX0_greatest_39 (by decide) ?_
      refine ih_i ls hlt_i (trivial) ?_
      have hq : lv_has ls 3 [(0, .ref h), (1, .int (ck_gr (bt hd) lo hi i)), (2, .int (nI (i + 1)))] := lv_sub hl [1, 2, 0] rfl
      have eq0 : (ck_gr (bt hd) lo hi i) = (ck_gr (bt hd) lo hi (i + 1)) := by simp [ck_gr, c_2]
      exact lv_eqq hq (by rw [← eq0])
    · have c_2 := ck_bt c_2
      refine lv_iload_n hx hb dX0_greatest_21 rfl (lv_at hl 1 rfl) ?_
      refine lv_aload_n hx hb dX0_greatest_22 rfl (lv_at hl 0 rfl) ?_
      refine lv_aload_n hx hb dX0_greatest_23 rfl (lv_at hl 0 rfl) ?_
      refine va_get (D := D) (ci := 0) (v := .ref a1) (C := RX0) (T := TX0) (N := 6) hx hb hts hin hown hK hP 0 rfl rfl 0 (by decide) (hts (.fieldLink RX0 9 "ClockDesk" "lows" "[J") (by decide +kernel)) (fun _ h9 => h9) rfl dX0_greatest_24 ?_
      refine lv_iload_n hx hb dX0_greatest_27 rfl (lv_at hl 2 rfl) ?_
      refine ck_lald hx hb hK hP 1 0 rfl rfl (i := i) hlt_i dX0_greatest_28 ?_
      refine ck_cV (As := [.long (lo i)]) (rest := [.int (ck_gr (bt hd) lo hi i)]) ⟨hx, hb, hml, hown, hts⟩ (c_X0_covers l D h a1 a2 c1 c2 lo hi hd ow off go (lo i)) (cwV 1 hts gX0_greatest_X0_covers rfl rfl rfl (by decide +kernel) ⟨Nat.le_of_ble_eq_true rfl, Nat.le_of_ble_eq_true rfl⟩) hP hK (va_recv hK hP (ci := 0) (q0 := 0) rfl rfl) rfl hl.1 rfl (Nat.le_of_ble_eq_true rfl) dX0_greatest_29 ⟨Nat.le_of_ble_eq_true rfl, Nat.le_of_ble_eq_true rfl⟩ ?_
      refine ck_mmaxI hx hb (hml.trans hl.1.symm) hown (hts (.methodLink RX0 74 Lib.Math.max.name) (by decide +kernel)) (hts (.static Lib.Math.max.name) (by decide +kernel)) (hts (.initialized "java/lang/Math") (by decide +kernel)) (hts (.code Lib.Math.max.name Lib.Math.max.code 2 (some .int)) (by decide +kernel)) (Nat.le_of_ble_eq_true rfl) (Nat.le_of_ble_eq_true rfl) (Nat.le_of_ble_eq_true rfl) (Nat.le_of_ble_eq_true rfl) dX0_greatest_32 ?_
      refine lv_istore_n (lv' := [(1, .int (ck_maxI (ck_gr (bt hd) lo hi i) (ck_cvs (bt hd) lo hi (lo i)))), (0, .ref h), (2, .int (nI i))]) hx hb dX0_greatest_35 rfl hl (by decide) rfl (fun ls hl => ?_)
      refine lv_iinc (v := (nI (i + 1))) (lv' := [(2, .int (nI (i + 1))), (1, .int (ck_maxI (ck_gr (bt hd) lo hi i) (ck_cvs (bt hd) lo hi (lo i)))), (0, .ref h)]) hx hb dX0_greatest_36 hl (k := 2) rfl (nI_1 i) (by decide) rfl (fun ls hl => ?_)
      refine lv_goto (tgt := 4) hx hb dX0_greatest_39 (by decide) ?_
      refine ih_i ls hlt_i (trivial) ?_
      have hq : lv_has ls 3 [(0, .ref h), (1, .int (ck_maxI (ck_gr (bt hd) lo hi i) (ck_cvs (bt hd) lo hi (lo i)))), (2, .int (nI (i + 1)))] := lv_sub hl [2, 1, 0] rfl
      have eq0 : (ck_maxI (ck_gr (bt hd) lo hi i) (ck_cvs (bt hd) lo hi (lo i))) = (ck_gr (bt hd) lo hi (i + 1)) := by simp [ck_gr, c_2]
      exact lv_eqq hq (by rw [← eq0])

set_option maxHeartbeats 4000000 in
set_option maxRecDepth 100000 in
theorem c_X0_leastCoveredBy (l : Launch) (D : va_G) (h a1 a2 : Nat) (c1 c2 : ClassId) (lo hi : Nat → Int64) (hd : Int32) (ow off go : Int64) (e0 : Int32)  : Met l yX0_leastCoveredBy wsX0_leastCoveredBy { frames := 4, cells := 0, slots := 0, locals := 88 } (va_Pc [.ref h, .int e0] (ck_B D (xW h a1 a2 c1 c2 lo hi hd ow off go) (xT c1 c2))) (ck_R (.long (ck_fi (bt hd) lo hi e0 24))) 0 0 (fun _ => False) := by
  refine Met.ofW (cc := cX0_leastCoveredBy) (maxL := 5) (ret := (some .long)) (by decide) rfl ?_
  intro p e s m args below meth c s₁ B hml hv
  obtain ⟨rfl, hP, hK⟩ := hv
  have hx := B.exec
  have hb := B.bytes
  have hr := B.returns
  have hts := atoms_spec (ws := wsX0_leastCoveredBy) B.pre
  have hown : s.vm.findClass RX0 = some m.cls := findClass_of_methodNamed B.named
  have hlocks := B.notSynchronized
  have hin : ∀ w ∈ wsX00, w ∈ wsX0_leastCoveredBy := fun _ h => List.mem_cons_of_mem _ (List.mem_append_right _ h)
  have hl := lv_entry ([.ref h, .int e0]) (n := 5) (Nat.le_of_ble_eq_true rfl)
  rw [lg_entry_eq]
  generalize (lg_sl ([.ref h, .int e0]) ++ List.replicate (5 - (lg_sl ([.ref h, .int e0])).length) Slot.unset).toArray = ls at hl ⊢
  have hl : lv_has ls 5 [(0, .ref h), (1, .int e0)] := hl
  refine lv_ldc2 (v := ck_NO) hx hb hown (hts (.constantLong RX0 46 ck_NO) (by decide +kernel)) dX0_leastCoveredBy_0 ?_
  refine lv_lstore_n (lv' := [(2, .long ck_NO), (0, .ref h), (1, .int e0)]) hx hb dX0_leastCoveredBy_3 rfl hl (by decide) rfl (fun ls hl => ?_)
  refine lv_iconst (v := 0) hx hb dX0_leastCoveredBy_4 (by decide) ?_
  refine lv_istore (lv' := [(4, .int 0), (2, .long ck_NO), (0, .ref h), (1, .int e0)]) hx hb dX0_leastCoveredBy_5 hl (by decide) rfl (fun ls hl => ?_)
  refine ck_loop (G := fun ls => W p l e _ s m _ below meth c _ _ _ _ _ (F0 m 7 ls [])) (nL := 5) (24) (fun i => True) (fun i => [(0, .ref h), (1, .int e0), (2, .long (ck_fi (bt hd) lo hi e0 i)), (4, .int (nI i))]) (fun i hle_i hj_i ih_i ls hl => ?_) ls (trivial) ?_
  rotate_left
  · have hq : lv_has ls 5 [(0, .ref h), (1, .int e0), (2, .long ck_NO), (4, .int 0)] := lv_sub hl [2, 3, 1, 0] rfl
    exact hq
  have hl : lv_has ls 5 [(0, .ref h), (1, .int e0), (2, .long (ck_fi (bt hd) lo hi e0 i)), (4, .int (nI i))] := hl
  refine lv_iload hx hb dX0_leastCoveredBy_7 (lv_at hl 3 rfl) ?_
  refine lv_bipush (v := 24) hx hb dX0_leastCoveredBy_9 (by decide) ?_
  refine lv_icmp_ge (tgt := 75) hx hb dX0_leastCoveredBy_11 (by decide) (fun c_1 => ?_) (fun c_1 => ?_)
  · have heq_i : i = 24 := ck_eqN hle_i c_1
    subst heq_i
    have hl : lv_has ls 5 [(0, .ref h), (1, .int e0), (2, .long (ck_fi (bt hd) lo hi e0 24)), (4, .int (nI 24))] := hl
    refine lv_lload_n hx hb dX0_leastCoveredBy_75 rfl (lv_at hl 2 rfl) ?_
    have hres : (ck_fi (bt hd) lo hi e0 24) = (ck_fi (bt hd) lo hi e0 24) := by rfl
    exact W.lret (v := (ck_fi (bt hd) lo hi e0 24)) hx hb hr (fun t ht _ => ⟨congrArg (fun z => Outcome.returned (some (Value.long z))) hres, ht⟩) (fun _ h => nomatch h) dX0_leastCoveredBy_76
  · have hlt_i : i < 24 := ck_ltN hle_i c_1
    refine lv_aload_n hx hb dX0_leastCoveredBy_14 rfl (lv_at hl 0 rfl) ?_
    refine va_get (D := D) (ci := 0) (v := .int hd) (C := RX0) (T := TX0) (N := 6) hx hb hts hin hown hK hP 0 rfl rfl 2 (by decide) (hts (.fieldLink RX0 16 "ClockDesk" "held" "I") (by decide +kernel)) (fun _ h9 => h9) rfl dX0_leastCoveredBy_15 ?_
    refine lv_iload hx hb dX0_leastCoveredBy_18 (lv_at hl 3 rfl) ?_
    refine ck_cS (As := [.int hd, .int (nI i)]) (rest := []) ⟨hx, hb, hml, hown, hts⟩ (c_X0_isInN l hd i hlt_i) (va_cwS 2 hts gX0_leastCoveredBy_X0_isIn rfl rfl rfl (by decide +kernel) ⟨Nat.le_of_ble_eq_true rfl, Nat.le_of_ble_eq_true rfl⟩) rfl hl.1 rfl (Nat.le_of_ble_eq_true rfl) dX0_leastCoveredBy_20 ⟨Nat.le_of_ble_eq_true rfl, Nat.le_of_ble_eq_true rfl⟩ ?_
    refine lv_if_eq (tgt := 69) hx hb dX0_leastCoveredBy_23 (by decide) (fun c_2 => ?_) (fun c_2 => ?_)
    · have c_2 := ck_bf c_2
      refine lv_iinc (v := (nI (i + 1))) (lv' := [(4, .int (nI (i + 1))), (0, .ref h), (1, .int e0), (2, .long (ck_fi (bt hd) lo hi e0 i))]) hx hb dX0_leastCoveredBy_69 hl (k := 3) rfl (nI_1 i) (by decide) rfl (fun ls hl => ?_)
      refine lv_goto (tgt := 7) hx hb dX0_leastCoveredBy_72 (by decide) ?_
      refine ih_i ls hlt_i (trivial) ?_
      have hq : lv_has ls 5 [(0, .ref h), (1, .int e0), (2, .long (ck_fi (bt hd) lo hi e0 i)), (4, .int (nI (i + 1)))] := lv_sub hl [1, 2, 3, 0] rfl
      have eq0 : (ck_fi (bt hd) lo hi e0 i) = (ck_fi (bt hd) lo hi e0 (i + 1)) := by simp [ck_fi, c_2]
      exact lv_eqq hq (by rw [← eq0])
    · have c_2 := ck_bt c_2
      refine lv_aload_n hx hb dX0_leastCoveredBy_26 rfl (lv_at hl 0 rfl) ?_
      refine lv_aload_n hx hb dX0_leastCoveredBy_27 rfl (lv_at hl 0 rfl) ?_
      refine va_get (D := D) (ci := 0) (v := .ref a1) (C := RX0) (T := TX0) (N := 6) hx hb hts hin hown hK hP 0 rfl rfl 0 (by decide) (hts (.fieldLink RX0 9 "ClockDesk" "lows" "[J") (by decide +kernel)) (fun _ h9 => h9) rfl dX0_leastCoveredBy_28 ?_
      refine lv_iload hx hb dX0_leastCoveredBy_31 (lv_at hl 3 rfl) ?_
      refine ck_lald hx hb hK hP 1 0 rfl rfl (i := i) hlt_i dX0_leastCoveredBy_33 ?_
      refine ck_cV (As := [.long (lo i)]) (rest := []) ⟨hx, hb, hml, hown, hts⟩ (c_X0_covers l D h a1 a2 c1 c2 lo hi hd ow off go (lo i)) (cwV 1 hts gX0_leastCoveredBy_X0_covers rfl rfl rfl (by decide +kernel) ⟨Nat.le_of_ble_eq_true rfl, Nat.le_of_ble_eq_true rfl⟩) hP hK (va_recv hK hP (ci := 0) (q0 := 0) rfl rfl) rfl hl.1 rfl (Nat.le_of_ble_eq_true rfl) dX0_leastCoveredBy_34 ⟨Nat.le_of_ble_eq_true rfl, Nat.le_of_ble_eq_true rfl⟩ ?_
      refine lv_iload_n hx hb dX0_leastCoveredBy_37 rfl (lv_at hl 1 rfl) ?_
      refine lv_icmp_lt (tgt := 69) hx hb dX0_leastCoveredBy_38 (by decide) (fun c_3 => ?_) (fun c_3 => ?_)
      · refine lv_iinc (v := (nI (i + 1))) (lv' := [(4, .int (nI (i + 1))), (0, .ref h), (1, .int e0), (2, .long (ck_fi (bt hd) lo hi e0 i))]) hx hb dX0_leastCoveredBy_69 hl (k := 3) rfl (nI_1 i) (by decide) rfl (fun ls hl => ?_)
        refine lv_goto (tgt := 7) hx hb dX0_leastCoveredBy_72 (by decide) ?_
        refine ih_i ls hlt_i (trivial) ?_
        have hq : lv_has ls 5 [(0, .ref h), (1, .int e0), (2, .long (ck_fi (bt hd) lo hi e0 i)), (4, .int (nI (i + 1)))] := lv_sub hl [1, 2, 3, 0] rfl
        have eq0 : (ck_fi (bt hd) lo hi e0 i) = (ck_fi (bt hd) lo hi e0 (i + 1)) := by simp [ck_fi, c_2, c_3]
        exact lv_eqq hq (by rw [← eq0])
      · refine lv_lload_n hx hb dX0_leastCoveredBy_41 rfl (lv_at hl 2 rfl) ?_
        refine lv_ldc2 (v := ck_NO) hx hb hown (hts (.constantLong RX0 46 ck_NO) (by decide +kernel)) dX0_leastCoveredBy_42 ?_
        refine W.lcmp hx hb dX0_leastCoveredBy_45 ?_
        refine lv_if_eq (tgt := 61) hx hb dX0_leastCoveredBy_46 (by decide) (fun c_4 => ?_) (fun c_4 => ?_)
        · rw [lg_cmp_eq] at c_4
          refine lv_aload_n hx hb dX0_leastCoveredBy_61 rfl (lv_at hl 0 rfl) ?_
          refine va_get (D := D) (ci := 0) (v := .ref a1) (C := RX0) (T := TX0) (N := 6) hx hb hts hin hown hK hP 0 rfl rfl 0 (by decide) (hts (.fieldLink RX0 9 "ClockDesk" "lows" "[J") (by decide +kernel)) (fun _ h9 => h9) rfl dX0_leastCoveredBy_62 ?_
          refine lv_iload hx hb dX0_leastCoveredBy_65 (lv_at hl 3 rfl) ?_
          refine ck_lald hx hb hK hP 1 0 rfl rfl (i := i) hlt_i dX0_leastCoveredBy_67 ?_
          refine lv_lstore_n (lv' := [(2, .long (lo i)), (0, .ref h), (1, .int e0), (4, .int (nI i))]) hx hb dX0_leastCoveredBy_68 rfl hl (by decide) rfl (fun ls hl => ?_)
          refine lv_iinc (v := (nI (i + 1))) (lv' := [(4, .int (nI (i + 1))), (2, .long (lo i)), (0, .ref h), (1, .int e0)]) hx hb dX0_leastCoveredBy_69 hl (k := 3) rfl (nI_1 i) (by decide) rfl (fun ls hl => ?_)
          refine lv_goto (tgt := 7) hx hb dX0_leastCoveredBy_72 (by decide) ?_
          refine ih_i ls hlt_i (trivial) ?_
          have hq : lv_has ls 5 [(0, .ref h), (1, .int e0), (2, .long (lo i)), (4, .int (nI (i + 1)))] := lv_sub hl [2, 3, 1, 0] rfl
          have eq0 : (lo i) = (ck_fi (bt hd) lo hi e0 (i + 1)) := by simp [ck_fi, c_2, c_3, c_4]
          exact lv_eqq hq (by rw [← eq0])
        · rw [lg_cmp_eq] at c_4
          refine lv_aload_n hx hb dX0_leastCoveredBy_49 rfl (lv_at hl 0 rfl) ?_
          refine va_get (D := D) (ci := 0) (v := .ref a1) (C := RX0) (T := TX0) (N := 6) hx hb hts hin hown hK hP 0 rfl rfl 0 (by decide) (hts (.fieldLink RX0 9 "ClockDesk" "lows" "[J") (by decide +kernel)) (fun _ h9 => h9) rfl dX0_leastCoveredBy_50 ?_
          refine lv_iload hx hb dX0_leastCoveredBy_53 (lv_at hl 3 rfl) ?_
          refine ck_lald hx hb hK hP 1 0 rfl rfl (i := i) hlt_i dX0_leastCoveredBy_55 ?_
          refine lv_lload_n hx hb dX0_leastCoveredBy_56 rfl (lv_at hl 2 rfl) ?_
          refine W.lcmp hx hb dX0_leastCoveredBy_57 ?_
          refine lv_if_ge (tgt := 69) hx hb dX0_leastCoveredBy_58 (by decide) (fun c_5 => ?_) (fun c_5 => ?_)
          · rw [lg_cmp_ge] at c_5
            refine lv_iinc (v := (nI (i + 1))) (lv' := [(4, .int (nI (i + 1))), (0, .ref h), (1, .int e0), (2, .long (ck_fi (bt hd) lo hi e0 i))]) hx hb dX0_leastCoveredBy_69 hl (k := 3) rfl (nI_1 i) (by decide) rfl (fun ls hl => ?_)
            refine lv_goto (tgt := 7) hx hb dX0_leastCoveredBy_72 (by decide) ?_
            refine ih_i ls hlt_i (trivial) ?_
            have hq : lv_has ls 5 [(0, .ref h), (1, .int e0), (2, .long (ck_fi (bt hd) lo hi e0 i)), (4, .int (nI (i + 1)))] := lv_sub hl [1, 2, 3, 0] rfl
            have eq0 : (ck_fi (bt hd) lo hi e0 i) = (ck_fi (bt hd) lo hi e0 (i + 1)) := by simp [ck_fi, c_2, c_3, c_4, c_5]
            exact lv_eqq hq (by rw [← eq0])
          · rw [lg_cmp_ge] at c_5
            refine lv_aload_n hx hb dX0_leastCoveredBy_61 rfl (lv_at hl 0 rfl) ?_
            refine va_get (D := D) (ci := 0) (v := .ref a1) (C := RX0) (T := TX0) (N := 6) hx hb hts hin hown hK hP 0 rfl rfl 0 (by decide) (hts (.fieldLink RX0 9 "ClockDesk" "lows" "[J") (by decide +kernel)) (fun _ h9 => h9) rfl dX0_leastCoveredBy_62 ?_
            refine lv_iload hx hb dX0_leastCoveredBy_65 (lv_at hl 3 rfl) ?_
            refine ck_lald hx hb hK hP 1 0 rfl rfl (i := i) hlt_i dX0_leastCoveredBy_67 ?_
            refine lv_lstore_n (lv' := [(2, .long (lo i)), (0, .ref h), (1, .int e0), (4, .int (nI i))]) hx hb dX0_leastCoveredBy_68 rfl hl (by decide) rfl (fun ls hl => ?_)
            refine lv_iinc (v := (nI (i + 1))) (lv' := [(4, .int (nI (i + 1))), (2, .long (lo i)), (0, .ref h), (1, .int e0)]) hx hb dX0_leastCoveredBy_69 hl (k := 3) rfl (nI_1 i) (by decide) rfl (fun ls hl => ?_)
            refine lv_goto (tgt := 7) hx hb dX0_leastCoveredBy_72 (by decide) ?_
            refine ih_i ls hlt_i (trivial) ?_
            have hq : lv_has ls 5 [(0, .ref h), (1, .int e0), (2, .long (lo i)), (4, .int (nI (i + 1)))] := lv_sub hl [2, 3, 1, 0] rfl
            have eq0 : (lo i) = (ck_fi (bt hd) lo hi e0 (i + 1)) := by simp [ck_fi, c_2, c_3, c_4, c_5]
            exact lv_eqq hq (by rw [← eq0])

set_option maxHeartbeats 4000000 in
set_option maxRecDepth 100000 in
theorem c_X0_greatestCoveredBy (l : Launch) (D : va_G) (h a1 a2 : Nat) (c1 c2 : ClassId) (lo hi : Nat → Int64) (hd : Int32) (ow off go : Int64) (e0 : Int32)  : Met l yX0_greatestCoveredBy wsX0_greatestCoveredBy { frames := 4, cells := 0, slots := 0, locals := 88 } (va_Pc [.ref h, .int e0] (ck_B D (xW h a1 a2 c1 c2 lo hi hd ow off go) (xT c1 c2))) (ck_R (.long (ck_la (bt hd) lo hi e0 24))) 0 0 (fun _ => False) := by
  refine Met.ofW (cc := cX0_greatestCoveredBy) (maxL := 5) (ret := (some .long)) (by decide) rfl ?_
  intro p e s m args below meth c s₁ B hml hv
  obtain ⟨rfl, hP, hK⟩ := hv
  have hx := B.exec
  have hb := B.bytes
  have hr := B.returns
  have hts := atoms_spec (ws := wsX0_greatestCoveredBy) B.pre
  have hown : s.vm.findClass RX0 = some m.cls := findClass_of_methodNamed B.named
  have hlocks := B.notSynchronized
  have hin : ∀ w ∈ wsX00, w ∈ wsX0_greatestCoveredBy := fun _ h => List.mem_cons_of_mem _ (List.mem_append_right _ h)
  have hl := lv_entry ([.ref h, .int e0]) (n := 5) (Nat.le_of_ble_eq_true rfl)
  rw [lg_entry_eq]
  generalize (lg_sl ([.ref h, .int e0]) ++ List.replicate (5 - (lg_sl ([.ref h, .int e0])).length) Slot.unset).toArray = ls at hl ⊢
  have hl : lv_has ls 5 [(0, .ref h), (1, .int e0)] := hl
  refine lv_ldc2 (v := ck_NO) hx hb hown (hts (.constantLong RX0 46 ck_NO) (by decide +kernel)) dX0_greatestCoveredBy_0 ?_
  refine lv_lstore_n (lv' := [(2, .long ck_NO), (0, .ref h), (1, .int e0)]) hx hb dX0_greatestCoveredBy_3 rfl hl (by decide) rfl (fun ls hl => ?_)
  refine lv_iconst (v := 0) hx hb dX0_greatestCoveredBy_4 (by decide) ?_
  refine lv_istore (lv' := [(4, .int 0), (2, .long ck_NO), (0, .ref h), (1, .int e0)]) hx hb dX0_greatestCoveredBy_5 hl (by decide) rfl (fun ls hl => ?_)
  refine ck_loop (G := fun ls => W p l e _ s m _ below meth c _ _ _ _ _ (F0 m 7 ls [])) (nL := 5) (24) (fun i => True) (fun i => [(0, .ref h), (1, .int e0), (2, .long (ck_la (bt hd) lo hi e0 i)), (4, .int (nI i))]) (fun i hle_i hj_i ih_i ls hl => ?_) ls (trivial) ?_
  rotate_left
  · have hq : lv_has ls 5 [(0, .ref h), (1, .int e0), (2, .long ck_NO), (4, .int 0)] := lv_sub hl [2, 3, 1, 0] rfl
    exact hq
  have hl : lv_has ls 5 [(0, .ref h), (1, .int e0), (2, .long (ck_la (bt hd) lo hi e0 i)), (4, .int (nI i))] := hl
  refine lv_iload hx hb dX0_greatestCoveredBy_7 (lv_at hl 3 rfl) ?_
  refine lv_bipush (v := 24) hx hb dX0_greatestCoveredBy_9 (by decide) ?_
  refine lv_icmp_ge (tgt := 59) hx hb dX0_greatestCoveredBy_11 (by decide) (fun c_1 => ?_) (fun c_1 => ?_)
  · have heq_i : i = 24 := ck_eqN hle_i c_1
    subst heq_i
    have hl : lv_has ls 5 [(0, .ref h), (1, .int e0), (2, .long (ck_la (bt hd) lo hi e0 24)), (4, .int (nI 24))] := hl
    refine lv_lload_n hx hb dX0_greatestCoveredBy_59 rfl (lv_at hl 2 rfl) ?_
    have hres : (ck_la (bt hd) lo hi e0 24) = (ck_la (bt hd) lo hi e0 24) := by rfl
    exact W.lret (v := (ck_la (bt hd) lo hi e0 24)) hx hb hr (fun t ht _ => ⟨congrArg (fun z => Outcome.returned (some (Value.long z))) hres, ht⟩) (fun _ h => nomatch h) dX0_greatestCoveredBy_60
  · have hlt_i : i < 24 := ck_ltN hle_i c_1
    refine lv_aload_n hx hb dX0_greatestCoveredBy_14 rfl (lv_at hl 0 rfl) ?_
    refine va_get (D := D) (ci := 0) (v := .int hd) (C := RX0) (T := TX0) (N := 6) hx hb hts hin hown hK hP 0 rfl rfl 2 (by decide) (hts (.fieldLink RX0 16 "ClockDesk" "held" "I") (by decide +kernel)) (fun _ h9 => h9) rfl dX0_greatestCoveredBy_15 ?_
    refine lv_iload hx hb dX0_greatestCoveredBy_18 (lv_at hl 3 rfl) ?_
    refine ck_cS (As := [.int hd, .int (nI i)]) (rest := []) ⟨hx, hb, hml, hown, hts⟩ (c_X0_isInN l hd i hlt_i) (va_cwS 2 hts gX0_greatestCoveredBy_X0_isIn rfl rfl rfl (by decide +kernel) ⟨Nat.le_of_ble_eq_true rfl, Nat.le_of_ble_eq_true rfl⟩) rfl hl.1 rfl (Nat.le_of_ble_eq_true rfl) dX0_greatestCoveredBy_20 ⟨Nat.le_of_ble_eq_true rfl, Nat.le_of_ble_eq_true rfl⟩ ?_
    refine lv_if_eq (tgt := 53) hx hb dX0_greatestCoveredBy_23 (by decide) (fun c_2 => ?_) (fun c_2 => ?_)
    · have c_2 := ck_bf c_2
      refine lv_iinc (v := (nI (i + 1))) (lv' := [(4, .int (nI (i + 1))), (0, .ref h), (1, .int e0), (2, .long (ck_la (bt hd) lo hi e0 i))]) hx hb dX0_greatestCoveredBy_53 hl (k := 3) rfl (nI_1 i) (by decide) rfl (fun ls hl => ?_)
      refine lv_goto (tgt := 7) hx hb dX0_greatestCoveredBy_56 (by decide) ?_
      refine ih_i ls hlt_i (trivial) ?_
      have hq : lv_has ls 5 [(0, .ref h), (1, .int e0), (2, .long (ck_la (bt hd) lo hi e0 i)), (4, .int (nI (i + 1)))] := lv_sub hl [1, 2, 3, 0] rfl
      have eq0 : (ck_la (bt hd) lo hi e0 i) = (ck_la (bt hd) lo hi e0 (i + 1)) := by simp [ck_la, c_2]
      exact lv_eqq hq (by rw [← eq0])
    · have c_2 := ck_bt c_2
      refine lv_aload_n hx hb dX0_greatestCoveredBy_26 rfl (lv_at hl 0 rfl) ?_
      refine lv_aload_n hx hb dX0_greatestCoveredBy_27 rfl (lv_at hl 0 rfl) ?_
      refine va_get (D := D) (ci := 0) (v := .ref a2) (C := RX0) (T := TX0) (N := 6) hx hb hts hin hown hK hP 0 rfl rfl 1 (by decide) (hts (.fieldLink RX0 13 "ClockDesk" "highs" "[J") (by decide +kernel)) (fun _ h9 => h9) rfl dX0_greatestCoveredBy_28 ?_
      refine lv_iload hx hb dX0_greatestCoveredBy_31 (lv_at hl 3 rfl) ?_
      refine ck_lald hx hb hK hP 2 1 rfl rfl (i := i) hlt_i dX0_greatestCoveredBy_33 ?_
      refine ck_cV (As := [.long (hi i)]) (rest := []) ⟨hx, hb, hml, hown, hts⟩ (c_X0_covers l D h a1 a2 c1 c2 lo hi hd ow off go (hi i)) (cwV 1 hts gX0_greatestCoveredBy_X0_covers rfl rfl rfl (by decide +kernel) ⟨Nat.le_of_ble_eq_true rfl, Nat.le_of_ble_eq_true rfl⟩) hP hK (va_recv hK hP (ci := 0) (q0 := 0) rfl rfl) rfl hl.1 rfl (Nat.le_of_ble_eq_true rfl) dX0_greatestCoveredBy_34 ⟨Nat.le_of_ble_eq_true rfl, Nat.le_of_ble_eq_true rfl⟩ ?_
      refine lv_iload_n hx hb dX0_greatestCoveredBy_37 rfl (lv_at hl 1 rfl) ?_
      refine lv_icmp_lt (tgt := 53) hx hb dX0_greatestCoveredBy_38 (by decide) (fun c_3 => ?_) (fun c_3 => ?_)
      · refine lv_iinc (v := (nI (i + 1))) (lv' := [(4, .int (nI (i + 1))), (0, .ref h), (1, .int e0), (2, .long (ck_la (bt hd) lo hi e0 i))]) hx hb dX0_greatestCoveredBy_53 hl (k := 3) rfl (nI_1 i) (by decide) rfl (fun ls hl => ?_)
        refine lv_goto (tgt := 7) hx hb dX0_greatestCoveredBy_56 (by decide) ?_
        refine ih_i ls hlt_i (trivial) ?_
        have hq : lv_has ls 5 [(0, .ref h), (1, .int e0), (2, .long (ck_la (bt hd) lo hi e0 i)), (4, .int (nI (i + 1)))] := lv_sub hl [1, 2, 3, 0] rfl
        have eq0 : (ck_la (bt hd) lo hi e0 i) = (ck_la (bt hd) lo hi e0 (i + 1)) := by simp [ck_la, c_2, c_3]
        exact lv_eqq hq (by rw [← eq0])
      · refine lv_lload_n hx hb dX0_greatestCoveredBy_41 rfl (lv_at hl 2 rfl) ?_
        refine lv_aload_n hx hb dX0_greatestCoveredBy_42 rfl (lv_at hl 0 rfl) ?_
        refine va_get (D := D) (ci := 0) (v := .ref a2) (C := RX0) (T := TX0) (N := 6) hx hb hts hin hown hK hP 0 rfl rfl 1 (by decide) (hts (.fieldLink RX0 13 "ClockDesk" "highs" "[J") (by decide +kernel)) (fun _ h9 => h9) rfl dX0_greatestCoveredBy_43 ?_
        refine lv_iload hx hb dX0_greatestCoveredBy_46 (lv_at hl 3 rfl) ?_
        refine ck_lald hx hb hK hP 2 1 rfl rfl (i := i) hlt_i dX0_greatestCoveredBy_48 ?_
        refine ck_mmax hx hb (hml.trans hl.1.symm) hown (hts (.methodLink RX0 131 Lib.MathLoose.max_long.x) (by decide +kernel)) (hts (.static Lib.MathLoose.max_long.x) (by decide +kernel)) (hts (.initialized "java/lang/Math") (by decide +kernel)) (hts (.code Lib.MathLoose.max_long.x Lib.MathLoose.max_long.code 4 (some .long)) (by decide +kernel)) (Nat.le_of_ble_eq_true rfl) (Nat.le_of_ble_eq_true rfl) (Nat.le_of_ble_eq_true rfl) (Nat.le_of_ble_eq_true rfl) dX0_greatestCoveredBy_49 ?_
        refine lv_lstore_n (lv' := [(2, .long (ck_max (ck_la (bt hd) lo hi e0 i) (hi i))), (0, .ref h), (1, .int e0), (4, .int (nI i))]) hx hb dX0_greatestCoveredBy_52 rfl hl (by decide) rfl (fun ls hl => ?_)
        refine lv_iinc (v := (nI (i + 1))) (lv' := [(4, .int (nI (i + 1))), (2, .long (ck_max (ck_la (bt hd) lo hi e0 i) (hi i))), (0, .ref h), (1, .int e0)]) hx hb dX0_greatestCoveredBy_53 hl (k := 3) rfl (nI_1 i) (by decide) rfl (fun ls hl => ?_)
        refine lv_goto (tgt := 7) hx hb dX0_greatestCoveredBy_56 (by decide) ?_
        refine ih_i ls hlt_i (trivial) ?_
        have hq : lv_has ls 5 [(0, .ref h), (1, .int e0), (2, .long (ck_max (ck_la (bt hd) lo hi e0 i) (hi i))), (4, .int (nI (i + 1)))] := lv_sub hl [2, 3, 1, 0] rfl
        have eq0 : (ck_max (ck_la (bt hd) lo hi e0 i) (hi i)) = (ck_la (bt hd) lo hi e0 (i + 1)) := by simp [ck_la, c_2, c_3]
        exact lv_eqq hq (by rw [← eq0])

set_option maxHeartbeats 4000000 in
set_option maxRecDepth 100000 in
theorem c_X0_firstHighFrom (l : Launch) (D : va_G) (h a1 a2 : Nat) (c1 c2 : ClassId) (lo hi : Nat → Int64) (hd : Int32) (ow off go : Int64) (p0 : Int64)  : Met l yX0_firstHighFrom wsX0_firstHighFrom { frames := 3, cells := 0, slots := 0, locals := 64 } (va_Pc [.ref h, .long p0] (ck_B D (xW h a1 a2 c1 c2 lo hi hd ow off go) (xT c1 c2))) (ck_R (.long (ck_fh (bt hd) lo hi p0 24))) 0 0 (fun _ => False) := by
  refine Met.ofW (cc := cX0_firstHighFrom) (maxL := 6) (ret := (some .long)) (by decide) rfl ?_
  intro p e s m args below meth c s₁ B hml hv
  obtain ⟨rfl, hP, hK⟩ := hv
  have hx := B.exec
  have hb := B.bytes
  have hr := B.returns
  have hts := atoms_spec (ws := wsX0_firstHighFrom) B.pre
  have hown : s.vm.findClass RX0 = some m.cls := findClass_of_methodNamed B.named
  have hlocks := B.notSynchronized
  have hin : ∀ w ∈ wsX00, w ∈ wsX0_firstHighFrom := fun _ h => List.mem_cons_of_mem _ (List.mem_append_right _ h)
  have hl := lv_entry ([.ref h, .long p0]) (n := 6) (Nat.le_of_ble_eq_true rfl)
  rw [lg_entry_eq]
  generalize (lg_sl ([.ref h, .long p0]) ++ List.replicate (6 - (lg_sl ([.ref h, .long p0])).length) Slot.unset).toArray = ls at hl ⊢
  have hl : lv_has ls 6 [(0, .ref h), (1, .long p0)] := hl
  refine lv_ldc2 (v := ck_FAR) hx hb hown (hts (.constantLong RX0 36 ck_FAR) (by decide +kernel)) dX0_firstHighFrom_0 ?_
  refine lv_lstore_n (lv' := [(3, .long ck_FAR), (0, .ref h), (1, .long p0)]) hx hb dX0_firstHighFrom_3 rfl hl (by decide) rfl (fun ls hl => ?_)
  refine lv_iconst (v := 0) hx hb dX0_firstHighFrom_4 (by decide) ?_
  refine lv_istore (lv' := [(5, .int 0), (3, .long ck_FAR), (0, .ref h), (1, .long p0)]) hx hb dX0_firstHighFrom_5 hl (by decide) rfl (fun ls hl => ?_)
  refine ck_loop (G := fun ls => W p l e _ s m _ below meth c _ _ _ _ _ (F0 m 7 ls [])) (nL := 6) (24) (fun i => True) (fun i => [(0, .ref h), (1, .long p0), (3, .long (ck_fh (bt hd) lo hi p0 i)), (5, .int (nI i))]) (fun i hle_i hj_i ih_i ls hl => ?_) ls (trivial) ?_
  rotate_left
  · have hq : lv_has ls 6 [(0, .ref h), (1, .long p0), (3, .long ck_FAR), (5, .int 0)] := lv_sub hl [2, 3, 1, 0] rfl
    exact hq
  have hl : lv_has ls 6 [(0, .ref h), (1, .long p0), (3, .long (ck_fh (bt hd) lo hi p0 i)), (5, .int (nI i))] := hl
  refine lv_iload hx hb dX0_firstHighFrom_7 (lv_at hl 3 rfl) ?_
  refine lv_bipush (v := 24) hx hb dX0_firstHighFrom_9 (by decide) ?_
  refine lv_icmp_ge (tgt := 42) hx hb dX0_firstHighFrom_11 (by decide) (fun c_1 => ?_) (fun c_1 => ?_)
  · have heq_i : i = 24 := ck_eqN hle_i c_1
    subst heq_i
    have hl : lv_has ls 6 [(0, .ref h), (1, .long p0), (3, .long (ck_fh (bt hd) lo hi p0 24)), (5, .int (nI 24))] := hl
    refine lv_lload_n hx hb dX0_firstHighFrom_42 rfl (lv_at hl 2 rfl) ?_
    have hres : (ck_fh (bt hd) lo hi p0 24) = (ck_fh (bt hd) lo hi p0 24) := by rfl
    exact W.lret (v := (ck_fh (bt hd) lo hi p0 24)) hx hb hr (fun t ht _ => ⟨congrArg (fun z => Outcome.returned (some (Value.long z))) hres, ht⟩) (fun _ h => nomatch h) dX0_firstHighFrom_43
  · have hlt_i : i < 24 := ck_ltN hle_i c_1
    refine lv_aload_n hx hb dX0_firstHighFrom_14 rfl (lv_at hl 0 rfl) ?_
    refine lv_iload hx hb dX0_firstHighFrom_15 (lv_at hl 3 rfl) ?_
    refine lv_lload_n hx hb dX0_firstHighFrom_17 rfl (lv_at hl 1 rfl) ?_
    refine ck_cV (As := [.int (nI i), .long p0]) (rest := []) ⟨hx, hb, hml, hown, hts⟩ (c_X0_isCoveredBy l D h a1 a2 c1 c2 lo hi hd ow off go p0 i hlt_i) (cwV 2 hts gX0_firstHighFrom_X0_isCoveredBy rfl rfl rfl (by decide +kernel) ⟨Nat.le_of_ble_eq_true rfl, Nat.le_of_ble_eq_true rfl⟩) hP hK (va_recv hK hP (ci := 0) (q0 := 0) rfl rfl) rfl hl.1 rfl (Nat.le_of_ble_eq_true rfl) dX0_firstHighFrom_18 ⟨Nat.le_of_ble_eq_true rfl, Nat.le_of_ble_eq_true rfl⟩ ?_
    refine lv_if_eq (tgt := 36) hx hb dX0_firstHighFrom_21 (by decide) (fun c_2 => ?_) (fun c_2 => ?_)
    · have c_2 := ck_bf c_2
      refine lv_iinc (v := (nI (i + 1))) (lv' := [(5, .int (nI (i + 1))), (0, .ref h), (1, .long p0), (3, .long (ck_fh (bt hd) lo hi p0 i))]) hx hb dX0_firstHighFrom_36 hl (k := 3) rfl (nI_1 i) (by decide) rfl (fun ls hl => ?_)
      refine lv_goto (tgt := 7) hx hb dX0_firstHighFrom_39 (by decide) ?_
      refine ih_i ls hlt_i (trivial) ?_
      have hq : lv_has ls 6 [(0, .ref h), (1, .long p0), (3, .long (ck_fh (bt hd) lo hi p0 i)), (5, .int (nI (i + 1)))] := lv_sub hl [1, 2, 3, 0] rfl
      have eq0 : (ck_fh (bt hd) lo hi p0 i) = (ck_fh (bt hd) lo hi p0 (i + 1)) := by simp [ck_fh, c_2]
      exact lv_eqq hq (by rw [← eq0])
    · have c_2 := ck_bt c_2
      refine lv_lload_n hx hb dX0_firstHighFrom_24 rfl (lv_at hl 2 rfl) ?_
      refine lv_aload_n hx hb dX0_firstHighFrom_25 rfl (lv_at hl 0 rfl) ?_
      refine va_get (D := D) (ci := 0) (v := .ref a2) (C := RX0) (T := TX0) (N := 6) hx hb hts hin hown hK hP 0 rfl rfl 1 (by decide) (hts (.fieldLink RX0 13 "ClockDesk" "highs" "[J") (by decide +kernel)) (fun _ h9 => h9) rfl dX0_firstHighFrom_26 ?_
      refine lv_iload hx hb dX0_firstHighFrom_29 (lv_at hl 3 rfl) ?_
      refine ck_lald hx hb hK hP 2 1 rfl rfl (i := i) hlt_i dX0_firstHighFrom_31 ?_
      refine ck_mmin hx hb (hml.trans hl.1.symm) hown (hts (.methodLink RX0 127 Lib.MathLoose.min_long.x) (by decide +kernel)) (hts (.static Lib.MathLoose.min_long.x) (by decide +kernel)) (hts (.initialized "java/lang/Math") (by decide +kernel)) (hts (.code Lib.MathLoose.min_long.x Lib.MathLoose.min_long.code 4 (some .long)) (by decide +kernel)) (Nat.le_of_ble_eq_true rfl) (Nat.le_of_ble_eq_true rfl) (Nat.le_of_ble_eq_true rfl) (Nat.le_of_ble_eq_true rfl) dX0_firstHighFrom_32 ?_
      refine lv_lstore_n (lv' := [(3, .long (ck_min (ck_fh (bt hd) lo hi p0 i) (hi i))), (0, .ref h), (1, .long p0), (5, .int (nI i))]) hx hb dX0_firstHighFrom_35 rfl hl (by decide) rfl (fun ls hl => ?_)
      refine lv_iinc (v := (nI (i + 1))) (lv' := [(5, .int (nI (i + 1))), (3, .long (ck_min (ck_fh (bt hd) lo hi p0 i) (hi i))), (0, .ref h), (1, .long p0)]) hx hb dX0_firstHighFrom_36 hl (k := 3) rfl (nI_1 i) (by decide) rfl (fun ls hl => ?_)
      refine lv_goto (tgt := 7) hx hb dX0_firstHighFrom_39 (by decide) ?_
      refine ih_i ls hlt_i (trivial) ?_
      have hq : lv_has ls 6 [(0, .ref h), (1, .long p0), (3, .long (ck_min (ck_fh (bt hd) lo hi p0 i) (hi i))), (5, .int (nI (i + 1)))] := lv_sub hl [2, 3, 1, 0] rfl
      have eq0 : (ck_min (ck_fh (bt hd) lo hi p0 i) (hi i)) = (ck_fh (bt hd) lo hi p0 (i + 1)) := by simp [ck_fh, c_2]
      exact lv_eqq hq (by rw [← eq0])

set_option maxHeartbeats 4000000 in
set_option maxRecDepth 100000 in
theorem c_X0_endOfRow (l : Launch) (D : va_G) (h a1 a2 : Nat) (c1 c2 : ClassId) (lo hi : Nat → Int64) (hd : Int32) (ow off go : Int64) (f0 : Int64) (mo : Int32)  : Met l yX0_endOfRow wsX0_endOfRow { frames := 4, cells := 0, slots := 0, locals := 89 } (va_Pc [.ref h, .long f0, .int mo] (ck_B D (xW h a1 a2 c1 c2 lo hi hd ow off go) (xT c1 c2))) (ck_R (.long (ck_er (bt hd) lo hi f0 mo 24))) 0 0 (fun _ => False) := by
  refine Met.ofW (cc := cX0_endOfRow) (maxL := 7) (ret := (some .long)) (by decide) rfl ?_
  intro p e s m args below meth c s₁ B hml hv
  obtain ⟨rfl, hP, hK⟩ := hv
  have hx := B.exec
  have hb := B.bytes
  have hr := B.returns
  have hts := atoms_spec (ws := wsX0_endOfRow) B.pre
  have hown : s.vm.findClass RX0 = some m.cls := findClass_of_methodNamed B.named
  have hlocks := B.notSynchronized
  have hin : ∀ w ∈ wsX00, w ∈ wsX0_endOfRow := fun _ h => List.mem_cons_of_mem _ (List.mem_append_right _ h)
  have hl := lv_entry ([.ref h, .long f0, .int mo]) (n := 7) (Nat.le_of_ble_eq_true rfl)
  rw [lg_entry_eq]
  generalize (lg_sl ([.ref h, .long f0, .int mo]) ++ List.replicate (7 - (lg_sl ([.ref h, .long f0, .int mo])).length) Slot.unset).toArray = ls at hl ⊢
  have hl : lv_has ls 7 [(0, .ref h), (1, .long f0), (3, .int mo)] := hl
  refine lv_aload_n hx hb dX0_endOfRow_0 rfl (lv_at hl 0 rfl) ?_
  refine lv_lload_n hx hb dX0_endOfRow_1 rfl (lv_at hl 1 rfl) ?_
  refine ck_cV (As := [.long f0]) (rest := []) ⟨hx, hb, hml, hown, hts⟩ (c_X0_firstHighFrom l D h a1 a2 c1 c2 lo hi hd ow off go f0) (cwV 1 hts gX0_endOfRow_X0_firstHighFrom rfl rfl rfl (by decide +kernel) ⟨Nat.le_of_ble_eq_true rfl, Nat.le_of_ble_eq_true rfl⟩) hP hK (va_recv hK hP (ci := 0) (q0 := 0) rfl rfl) rfl hl.1 rfl (Nat.le_of_ble_eq_true rfl) dX0_endOfRow_2 ⟨Nat.le_of_ble_eq_true rfl, Nat.le_of_ble_eq_true rfl⟩ ?_
  refine lv_lstore (lv' := [(4, .long (ck_fh (bt hd) lo hi f0 24)), (0, .ref h), (1, .long f0), (3, .int mo)]) hx hb dX0_endOfRow_5 hl (by decide) rfl (fun ls hl => ?_)
  refine lv_iconst (v := 0) hx hb dX0_endOfRow_7 (by decide) ?_
  refine lv_istore (lv' := [(6, .int 0), (4, .long (ck_fh (bt hd) lo hi f0 24)), (0, .ref h), (1, .long f0), (3, .int mo)]) hx hb dX0_endOfRow_8 hl (by decide) rfl (fun ls hl => ?_)
  refine ck_loop (G := fun ls => W p l e _ s m _ below meth c _ _ _ _ _ (F0 m 10 ls [])) (nL := 7) (24) (fun i => True) (fun i => [(0, .ref h), (1, .long f0), (3, .int mo), (4, .long (ck_er (bt hd) lo hi f0 mo i)), (6, .int (nI i))]) (fun i hle_i hj_i ih_i ls hl => ?_) ls (trivial) ?_
  rotate_left
  · have hq : lv_has ls 7 [(0, .ref h), (1, .long f0), (3, .int mo), (4, .long (ck_fh (bt hd) lo hi f0 24)), (6, .int 0)] := lv_sub hl [2, 3, 4, 1, 0] rfl
    exact hq
  have hl : lv_has ls 7 [(0, .ref h), (1, .long f0), (3, .int mo), (4, .long (ck_er (bt hd) lo hi f0 mo i)), (6, .int (nI i))] := hl
  refine lv_iload hx hb dX0_endOfRow_10 (lv_at hl 4 rfl) ?_
  refine lv_bipush (v := 24) hx hb dX0_endOfRow_12 (by decide) ?_
  refine lv_icmp_ge (tgt := 45) hx hb dX0_endOfRow_14 (by decide) (fun c_1 => ?_) (fun c_1 => ?_)
  · have heq_i : i = 24 := ck_eqN hle_i c_1
    subst heq_i
    have hl : lv_has ls 7 [(0, .ref h), (1, .long f0), (3, .int mo), (4, .long (ck_er (bt hd) lo hi f0 mo 24)), (6, .int (nI 24))] := hl
    refine lv_lload hx hb dX0_endOfRow_45 (lv_at hl 3 rfl) ?_
    have hres : (ck_er (bt hd) lo hi f0 mo 24) = (ck_er (bt hd) lo hi f0 mo 24) := by rfl
    exact W.lret (v := (ck_er (bt hd) lo hi f0 mo 24)) hx hb hr (fun t ht _ => ⟨congrArg (fun z => Outcome.returned (some (Value.long z))) hres, ht⟩) (fun _ h => nomatch h) dX0_endOfRow_47
  · have hlt_i : i < 24 := ck_ltN hle_i c_1
    refine lv_aload_n hx hb dX0_endOfRow_17 rfl (lv_at hl 0 rfl) ?_
    refine lv_lload hx hb dX0_endOfRow_18 (lv_at hl 3 rfl) ?_
    refine lv_lconst (v := 1) hx hb dX0_endOfRow_20 (by decide) ?_
    refine lv_ladd hx hb dX0_endOfRow_21 ?_
    refine ck_cV (As := [.long ((ck_er (bt hd) lo hi f0 mo i) + 1)]) (rest := []) ⟨hx, hb, hml, hown, hts⟩ (c_X0_covers l D h a1 a2 c1 c2 lo hi hd ow off go ((ck_er (bt hd) lo hi f0 mo i) + 1)) (cwV 1 hts gX0_endOfRow_X0_covers rfl rfl rfl (by decide +kernel) ⟨Nat.le_of_ble_eq_true rfl, Nat.le_of_ble_eq_true rfl⟩) hP hK (va_recv hK hP (ci := 0) (q0 := 0) rfl rfl) rfl hl.1 rfl (Nat.le_of_ble_eq_true rfl) dX0_endOfRow_22 ⟨Nat.le_of_ble_eq_true rfl, Nat.le_of_ble_eq_true rfl⟩ ?_
    refine lv_iload_n hx hb dX0_endOfRow_25 rfl (lv_at hl 2 rfl) ?_
    refine lv_icmp_ne (tgt := 45) hx hb dX0_endOfRow_26 (by decide) (fun c_2 => ?_) (fun c_2 => ?_)
    · refine lv_lload hx hb dX0_endOfRow_45 (lv_at hl 3 rfl) ?_
      have hres : (ck_er (bt hd) lo hi f0 mo i) = (ck_er (bt hd) lo hi f0 mo 24) := by exact ck_er_stop c_2 hle_i
      exact W.lret (v := (ck_er (bt hd) lo hi f0 mo i)) hx hb hr (fun t ht _ => ⟨congrArg (fun z => Outcome.returned (some (Value.long z))) hres, ht⟩) (fun _ h => nomatch h) dX0_endOfRow_47
    · refine lv_aload_n hx hb dX0_endOfRow_29 rfl (lv_at hl 0 rfl) ?_
      refine lv_lload hx hb dX0_endOfRow_30 (lv_at hl 3 rfl) ?_
      refine lv_lconst (v := 1) hx hb dX0_endOfRow_32 (by decide) ?_
      refine lv_ladd hx hb dX0_endOfRow_33 ?_
      refine ck_cV (As := [.long ((ck_er (bt hd) lo hi f0 mo i) + 1)]) (rest := []) ⟨hx, hb, hml, hown, hts⟩ (c_X0_firstHighFrom l D h a1 a2 c1 c2 lo hi hd ow off go ((ck_er (bt hd) lo hi f0 mo i) + 1)) (cwV 1 hts gX0_endOfRow_X0_firstHighFrom rfl rfl rfl (by decide +kernel) ⟨Nat.le_of_ble_eq_true rfl, Nat.le_of_ble_eq_true rfl⟩) hP hK (va_recv hK hP (ci := 0) (q0 := 0) rfl rfl) rfl hl.1 rfl (Nat.le_of_ble_eq_true rfl) dX0_endOfRow_34 ⟨Nat.le_of_ble_eq_true rfl, Nat.le_of_ble_eq_true rfl⟩ ?_
      refine lv_lstore (lv' := [(4, .long (ck_fh (bt hd) lo hi ((ck_er (bt hd) lo hi f0 mo i) + 1) 24)), (0, .ref h), (1, .long f0), (3, .int mo), (6, .int (nI i))]) hx hb dX0_endOfRow_37 hl (by decide) rfl (fun ls hl => ?_)
      refine lv_iinc (v := (nI (i + 1))) (lv' := [(6, .int (nI (i + 1))), (4, .long (ck_fh (bt hd) lo hi ((ck_er (bt hd) lo hi f0 mo i) + 1) 24)), (0, .ref h), (1, .long f0), (3, .int mo)]) hx hb dX0_endOfRow_39 hl (k := 4) rfl (nI_1 i) (by decide) rfl (fun ls hl => ?_)
      refine lv_goto (tgt := 10) hx hb dX0_endOfRow_42 (by decide) ?_
      refine ih_i ls hlt_i (trivial) ?_
      have hq : lv_has ls 7 [(0, .ref h), (1, .long f0), (3, .int mo), (4, .long (ck_fh (bt hd) lo hi ((ck_er (bt hd) lo hi f0 mo i) + 1) 24)), (6, .int (nI (i + 1)))] := lv_sub hl [2, 3, 4, 1, 0] rfl
      have eq0 : (ck_fh (bt hd) lo hi ((ck_er (bt hd) lo hi f0 mo i) + 1) 24) = (ck_er (bt hd) lo hi f0 mo (i + 1)) := by simp [ck_er, c_2]
      exact lv_eqq hq (by rw [← eq0])

set_option maxHeartbeats 4000000 in
set_option maxRecDepth 100000 in
theorem c_X0_region (l : Launch) (D : va_G) (h a1 a2 : Nat) (c1 c2 : ClassId) (lo hi : Nat → Int64) (hd : Int32) (ow off go : Int64) (en : Int32)  : Met l yX0_region wsX0_region { frames := 5, cells := 0, slots := 0, locals := 115 } (va_Pc [.ref h, .int en] (ck_B D (xW h a1 a2 c1 c2 lo hi hd ow off go) (xT c1 c2))) (ck_R (.long (ck_rg hd lo hi en))) 0 0 (fun _ => False) := by
  refine Met.ofW (cc := cX0_region) (maxL := 5) (ret := (some .long)) (by decide) rfl ?_
  intro p e s m args below meth c s₁ B hml hv
  obtain ⟨rfl, hP, hK⟩ := hv
  have hx := B.exec
  have hb := B.bytes
  have hr := B.returns
  have hts := atoms_spec (ws := wsX0_region) B.pre
  have hown : s.vm.findClass RX0 = some m.cls := findClass_of_methodNamed B.named
  have hlocks := B.notSynchronized
  have hin : ∀ w ∈ wsX00, w ∈ wsX0_region := fun _ h => List.mem_cons_of_mem _ (List.mem_append_right _ h)
  have hl := lv_entry ([.ref h, .int en]) (n := 5) (Nat.le_of_ble_eq_true rfl)
  rw [lg_entry_eq]
  generalize (lg_sl ([.ref h, .int en]) ++ List.replicate (5 - (lg_sl ([.ref h, .int en])).length) Slot.unset).toArray = ls at hl ⊢
  have hl : lv_has ls 5 [(0, .ref h), (1, .int en)] := hl
  refine lv_aload_n hx hb dX0_region_0 rfl (lv_at hl 0 rfl) ?_
  refine va_get (D := D) (ci := 0) (v := .int hd) (C := RX0) (T := TX0) (N := 6) hx hb hts hin hown hK hP 0 rfl rfl 2 (by decide) (hts (.fieldLink RX0 16 "ClockDesk" "held" "I") (by decide +kernel)) (fun _ h9 => h9) rfl dX0_region_1 ?_
  refine lv_if_eq (tgt := 14) hx hb dX0_region_4 (by decide) (fun c_1 => ?_) (fun c_1 => ?_)
  · refine lv_ldc2 (v := ck_NO) hx hb hown (hts (.constantLong RX0 46 ck_NO) (by decide +kernel)) dX0_region_14 ?_
    have hres : ck_NO = (ck_rg hd lo hi en) := by first | (simp [ck_rg, c_1]; done) | simp [ck_rg, ck_zo, c_1]
    exact W.lret (v := ck_NO) hx hb hr (fun t ht _ => ⟨congrArg (fun z => Outcome.returned (some (Value.long z))) hres, ht⟩) (fun _ h => nomatch h) dX0_region_17
  · refine lv_iload_n hx hb dX0_region_7 rfl (lv_at hl 1 rfl) ?_
    refine ck_cS (As := [.int en]) (rest := []) ⟨hx, hb, hml, hown, hts⟩ (c_X0_isZeroOrOne l en) (va_cwS 1 hts gX0_region_X0_isZeroOrOne rfl rfl rfl (by decide +kernel) ⟨Nat.le_of_ble_eq_true rfl, Nat.le_of_ble_eq_true rfl⟩) rfl hl.1 rfl (Nat.le_of_ble_eq_true rfl) dX0_region_8 ⟨Nat.le_of_ble_eq_true rfl, Nat.le_of_ble_eq_true rfl⟩ ?_
    refine lv_if_ne (tgt := 18) hx hb dX0_region_11 (by decide) (fun c_2 => ?_) (fun c_2 => ?_)
    · have c_2 := ck_bt c_2
      refine lv_aload_n hx hb dX0_region_18 rfl (lv_at hl 0 rfl) ?_
      refine ck_cV (As := []) (rest := []) ⟨hx, hb, hml, hown, hts⟩ (c_X0_greatest l D h a1 a2 c1 c2 lo hi hd ow off go ) (cwV 0 hts gX0_region_X0_greatest rfl rfl rfl (by decide +kernel) ⟨Nat.le_of_ble_eq_true rfl, Nat.le_of_ble_eq_true rfl⟩) hP hK (va_recv hK hP (ci := 0) (q0 := 0) rfl rfl) rfl hl.1 rfl (Nat.le_of_ble_eq_true rfl) dX0_region_19 ⟨Nat.le_of_ble_eq_true rfl, Nat.le_of_ble_eq_true rfl⟩ ?_
      refine lv_istore_n (lv' := [(2, .int (ck_gr (bt hd) lo hi 24)), (0, .ref h), (1, .int en)]) hx hb dX0_region_22 rfl hl (by decide) rfl (fun ls hl => ?_)
      refine lv_aload_n hx hb dX0_region_23 rfl (lv_at hl 1 rfl) ?_
      refine lv_iload_n hx hb dX0_region_24 rfl (lv_at hl 0 rfl) ?_
      refine ck_cV (As := [.int (ck_gr (bt hd) lo hi 24)]) (rest := []) ⟨hx, hb, hml, hown, hts⟩ (c_X0_leastCoveredBy l D h a1 a2 c1 c2 lo hi hd ow off go (ck_gr (bt hd) lo hi 24)) (cwV 1 hts gX0_region_X0_leastCoveredBy rfl rfl rfl (by decide +kernel) ⟨Nat.le_of_ble_eq_true rfl, Nat.le_of_ble_eq_true rfl⟩) hP hK (va_recv hK hP (ci := 0) (q0 := 0) rfl rfl) rfl hl.1 rfl (Nat.le_of_ble_eq_true rfl) dX0_region_25 ⟨Nat.le_of_ble_eq_true rfl, Nat.le_of_ble_eq_true rfl⟩ ?_
      refine lv_lstore_n (lv' := [(3, .long (ck_fi (bt hd) lo hi (ck_gr (bt hd) lo hi 24) 24)), (2, .int (ck_gr (bt hd) lo hi 24)), (0, .ref h), (1, .int en)]) hx hb dX0_region_28 rfl hl (by decide) rfl (fun ls hl => ?_)
      refine lv_iload_n hx hb dX0_region_29 rfl (lv_at hl 3 rfl) ?_
      refine lv_if_ne (tgt := 37) hx hb dX0_region_30 (by decide) (fun c_3 => ?_) (fun c_3 => ?_)
      · refine lv_aload_n hx hb dX0_region_37 rfl (lv_at hl 2 rfl) ?_
        refine lv_lload_n hx hb dX0_region_38 rfl (lv_at hl 0 rfl) ?_
        refine lv_iload_n hx hb dX0_region_39 rfl (lv_at hl 1 rfl) ?_
        refine ck_cV (As := [.long (ck_fi (bt hd) lo hi (ck_gr (bt hd) lo hi 24) 24), .int (ck_gr (bt hd) lo hi 24)]) (rest := []) ⟨hx, hb, hml, hown, hts⟩ (c_X0_endOfRow l D h a1 a2 c1 c2 lo hi hd ow off go (ck_fi (bt hd) lo hi (ck_gr (bt hd) lo hi 24) 24) (ck_gr (bt hd) lo hi 24)) (cwV 2 hts gX0_region_X0_endOfRow rfl rfl rfl (by decide +kernel) ⟨Nat.le_of_ble_eq_true rfl, Nat.le_of_ble_eq_true rfl⟩) hP hK (va_recv hK hP (ci := 0) (q0 := 0) rfl rfl) rfl hl.1 rfl (Nat.le_of_ble_eq_true rfl) dX0_region_40 ⟨Nat.le_of_ble_eq_true rfl, Nat.le_of_ble_eq_true rfl⟩ ?_
        have hres : (ck_er (bt hd) lo hi (ck_fi (bt hd) lo hi (ck_gr (bt hd) lo hi 24) 24) (ck_gr (bt hd) lo hi 24) 24) = (ck_rg hd lo hi en) := by first | (simp [ck_rg, c_1, c_2, c_3]; done) | simp [ck_rg, ck_zo, c_1, c_2, c_3]
        exact W.lret (v := (ck_er (bt hd) lo hi (ck_fi (bt hd) lo hi (ck_gr (bt hd) lo hi 24) 24) (ck_gr (bt hd) lo hi 24) 24)) hx hb hr (fun t ht _ => ⟨congrArg (fun z => Outcome.returned (some (Value.long z))) hres, ht⟩) (fun _ h => nomatch h) dX0_region_43
      · refine lv_lload_n hx hb dX0_region_33 rfl (lv_at hl 0 rfl) ?_
        refine lv_goto (tgt := 43) hx hb dX0_region_34 (by decide) ?_
        have hres : (ck_fi (bt hd) lo hi (ck_gr (bt hd) lo hi 24) 24) = (ck_rg hd lo hi en) := by first | (simp [ck_rg, c_1, c_2, c_3]; done) | simp [ck_rg, ck_zo, c_1, c_2, c_3]
        exact W.lret (v := (ck_fi (bt hd) lo hi (ck_gr (bt hd) lo hi 24) 24)) hx hb hr (fun t ht _ => ⟨congrArg (fun z => Outcome.returned (some (Value.long z))) hres, ht⟩) (fun _ h => nomatch h) dX0_region_43
    · have c_2 := ck_bf c_2
      refine lv_ldc2 (v := ck_NO) hx hb hown (hts (.constantLong RX0 46 ck_NO) (by decide +kernel)) dX0_region_14 ?_
      have hres : ck_NO = (ck_rg hd lo hi en) := by first | (simp [ck_rg, c_1, c_2]; done) | simp [ck_rg, ck_zo, c_1, c_2]
      exact W.lret (v := ck_NO) hx hb hr (fun t ht _ => ⟨congrArg (fun z => Outcome.returned (some (Value.long z))) hres, ht⟩) (fun _ h => nomatch h) dX0_region_17

set_option maxHeartbeats 4000000 in
set_option maxRecDepth 100000 in
theorem c_X0_sources (l : Launch) (D : va_G) (h a1 a2 : Nat) (c1 c2 : ClassId) (lo hi : Nat → Int64) (hd : Int32) (ow off go : Int64)   : Met l yX0_sources wsX0_sources { frames := 1, cells := 0, slots := 0, locals := 20 } (va_Pc [.ref h] (ck_B D (xW h a1 a2 c1 c2 lo hi hd ow off go) (xT c1 c2))) (ck_R (.int (ck_ns hd))) 0 0 (fun _ => False) := by
  refine Met.ofW (cc := cX0_sources) (maxL := 1) (ret := (some .int)) (by decide) rfl ?_
  intro p e s m args below meth c s₁ B hml hv
  obtain ⟨rfl, hP, hK⟩ := hv
  have hx := B.exec
  have hb := B.bytes
  have hr := B.returns
  have hts := atoms_spec (ws := wsX0_sources) B.pre
  have hown : s.vm.findClass RX0 = some m.cls := findClass_of_methodNamed B.named
  have hlocks := B.notSynchronized
  have hin : ∀ w ∈ wsX00, w ∈ wsX0_sources := fun _ h => List.mem_cons_of_mem _ (List.mem_append_right _ h)
  have hl := lv_entry ([.ref h]) (n := 1) (Nat.le_of_ble_eq_true rfl)
  rw [lg_entry_eq]
  generalize (lg_sl ([.ref h]) ++ List.replicate (1 - (lg_sl ([.ref h])).length) Slot.unset).toArray = ls at hl ⊢
  have hl : lv_has ls 1 [(0, .ref h)] := hl
  refine lv_aload_n hx hb dX0_sources_0 rfl (lv_at hl 0 rfl) ?_
  refine va_get (D := D) (ci := 0) (v := .int hd) (C := RX0) (T := TX0) (N := 6) hx hb hts hin hown hK hP 0 rfl rfl 2 (by decide) (hts (.fieldLink RX0 16 "ClockDesk" "held" "I") (by decide +kernel)) (fun _ h9 => h9) rfl dX0_sources_1 ?_
  refine ck_cS (As := [.int hd]) (rest := []) ⟨hx, hb, hml, hown, hts⟩ (c_J6_bitCount_0f7a4 l hd) (va_cwS 1 hts gX0_sources_J6_bitCount_0f7a4 rfl rfl rfl (by decide +kernel) ⟨Nat.le_of_ble_eq_true rfl, Nat.le_of_ble_eq_true rfl⟩) rfl hl.1 rfl (Nat.le_of_ble_eq_true rfl) dX0_sources_4 ⟨Nat.le_of_ble_eq_true rfl, Nat.le_of_ble_eq_true rfl⟩ ?_
  have hres : (ck_ns hd) = (ck_ns hd) := by rfl
  exact W.iret (v := (ck_ns hd)) hx hb hr (fun t ht _ => ⟨congrArg (fun z => Outcome.returned (some (Value.int z))) hres, ht⟩) (fun _ h => nomatch h) dX0_sources_7

set_option maxHeartbeats 4000000 in
set_option maxRecDepth 100000 in
theorem c_X0_hull (l : Launch) (D : va_G) (h a1 a2 : Nat) (c1 c2 : ClassId) (lo hi : Nat → Int64) (hd : Int32) (ow off go : Int64) (f0 : Int32) (en : Int32)  : Met l yX0_hull wsX0_hull { frames := 5, cells := 0, slots := 0, locals := 112 } (va_Pc [.ref h, .int f0, .int en] (ck_B D (xW h a1 a2 c1 c2 lo hi hd ow off go) (xT c1 c2))) (ck_R (.long (ck_hl hd lo hi f0 en))) 0 0 (fun _ => False) := by
  refine Met.ofW (cc := cX0_hull) (maxL := 4) (ret := (some .long)) (by decide) rfl ?_
  intro p e s m args below meth c s₁ B hml hv
  obtain ⟨rfl, hP, hK⟩ := hv
  have hx := B.exec
  have hb := B.bytes
  have hr := B.returns
  have hts := atoms_spec (ws := wsX0_hull) B.pre
  have hown : s.vm.findClass RX0 = some m.cls := findClass_of_methodNamed B.named
  have hlocks := B.notSynchronized
  have hin : ∀ w ∈ wsX00, w ∈ wsX0_hull := fun _ h => List.mem_cons_of_mem _ (List.mem_append_right _ h)
  have hl := lv_entry ([.ref h, .int f0, .int en]) (n := 4) (Nat.le_of_ble_eq_true rfl)
  rw [lg_entry_eq]
  generalize (lg_sl ([.ref h, .int f0, .int en]) ++ List.replicate (4 - (lg_sl ([.ref h, .int f0, .int en])).length) Slot.unset).toArray = ls at hl ⊢
  have hl : lv_has ls 4 [(0, .ref h), (1, .int f0), (2, .int en)] := hl
  refine lv_iload_n hx hb dX0_hull_0 rfl (lv_at hl 1 rfl) ?_
  refine lv_if_lt (tgt := 19) hx hb dX0_hull_1 (by decide) (fun c_1 => ?_) (fun c_1 => ?_)
  · refine lv_ldc2 (v := ck_NO) hx hb hown (hts (.constantLong RX0 46 ck_NO) (by decide +kernel)) dX0_hull_19 ?_
    have hres : ck_NO = (ck_hl hd lo hi f0 en) := by first | (simp [ck_hl, c_1]; done) | simp [ck_hl, ck_zo, c_1]
    exact W.lret (v := ck_NO) hx hb hr (fun t ht _ => ⟨congrArg (fun z => Outcome.returned (some (Value.long z))) hres, ht⟩) (fun _ h => nomatch h) dX0_hull_22
  · refine lv_iload_n hx hb dX0_hull_4 rfl (lv_at hl 1 rfl) ?_
    refine lv_aload_n hx hb dX0_hull_5 rfl (lv_at hl 0 rfl) ?_
    refine ck_cV (As := []) (rest := [.int f0]) ⟨hx, hb, hml, hown, hts⟩ (c_X0_sources l D h a1 a2 c1 c2 lo hi hd ow off go ) (cwV 0 hts gX0_hull_X0_sources rfl rfl rfl (by decide +kernel) ⟨Nat.le_of_ble_eq_true rfl, Nat.le_of_ble_eq_true rfl⟩) hP hK (va_recv hK hP (ci := 0) (q0 := 0) rfl rfl) rfl hl.1 rfl (Nat.le_of_ble_eq_true rfl) dX0_hull_6 ⟨Nat.le_of_ble_eq_true rfl, Nat.le_of_ble_eq_true rfl⟩ ?_
    refine lv_icmp_ge (tgt := 19) hx hb dX0_hull_9 (by decide) (fun c_2 => ?_) (fun c_2 => ?_)
    · refine lv_ldc2 (v := ck_NO) hx hb hown (hts (.constantLong RX0 46 ck_NO) (by decide +kernel)) dX0_hull_19 ?_
      have hres : ck_NO = (ck_hl hd lo hi f0 en) := by first | (simp [ck_hl, c_1, c_2]; done) | simp [ck_hl, ck_zo, c_1, c_2]
      exact W.lret (v := ck_NO) hx hb hr (fun t ht _ => ⟨congrArg (fun z => Outcome.returned (some (Value.long z))) hres, ht⟩) (fun _ h => nomatch h) dX0_hull_22
    · refine lv_iload_n hx hb dX0_hull_12 rfl (lv_at hl 2 rfl) ?_
      refine ck_cS (As := [.int en]) (rest := []) ⟨hx, hb, hml, hown, hts⟩ (c_X0_isZeroOrOne l en) (va_cwS 1 hts gX0_hull_X0_isZeroOrOne rfl rfl rfl (by decide +kernel) ⟨Nat.le_of_ble_eq_true rfl, Nat.le_of_ble_eq_true rfl⟩) rfl hl.1 rfl (Nat.le_of_ble_eq_true rfl) dX0_hull_13 ⟨Nat.le_of_ble_eq_true rfl, Nat.le_of_ble_eq_true rfl⟩ ?_
      refine lv_if_ne (tgt := 23) hx hb dX0_hull_16 (by decide) (fun c_3 => ?_) (fun c_3 => ?_)
      · have c_3 := ck_bt c_3
        refine lv_aload_n hx hb dX0_hull_23 rfl (lv_at hl 0 rfl) ?_
        refine ck_cV (As := []) (rest := []) ⟨hx, hb, hml, hown, hts⟩ (c_X0_sources l D h a1 a2 c1 c2 lo hi hd ow off go ) (cwV 0 hts gX0_hull_X0_sources rfl rfl rfl (by decide +kernel) ⟨Nat.le_of_ble_eq_true rfl, Nat.le_of_ble_eq_true rfl⟩) hP hK (va_recv hK hP (ci := 0) (q0 := 0) rfl rfl) rfl hl.1 rfl (Nat.le_of_ble_eq_true rfl) dX0_hull_24 ⟨Nat.le_of_ble_eq_true rfl, Nat.le_of_ble_eq_true rfl⟩ ?_
        refine lv_iload_n hx hb dX0_hull_27 rfl (lv_at hl 1 rfl) ?_
        refine lv_isub hx hb dX0_hull_28 ?_
        refine lv_istore_n (lv' := [(3, .int ((ck_ns hd) - f0)), (0, .ref h), (1, .int f0), (2, .int en)]) hx hb dX0_hull_29 rfl hl (by decide) rfl (fun ls hl => ?_)
        refine lv_iload_n hx hb dX0_hull_30 rfl (lv_at hl 3 rfl) ?_
        refine lv_if_ne (tgt := 42) hx hb dX0_hull_31 (by decide) (fun c_4 => ?_) (fun c_4 => ?_)
        · refine lv_aload_n hx hb dX0_hull_42 rfl (lv_at hl 1 rfl) ?_
          refine lv_iload_n hx hb dX0_hull_43 rfl (lv_at hl 0 rfl) ?_
          refine ck_cV (As := [.int ((ck_ns hd) - f0)]) (rest := []) ⟨hx, hb, hml, hown, hts⟩ (c_X0_greatestCoveredBy l D h a1 a2 c1 c2 lo hi hd ow off go ((ck_ns hd) - f0)) (cwV 1 hts gX0_hull_X0_greatestCoveredBy rfl rfl rfl (by decide +kernel) ⟨Nat.le_of_ble_eq_true rfl, Nat.le_of_ble_eq_true rfl⟩) hP hK (va_recv hK hP (ci := 0) (q0 := 0) rfl rfl) rfl hl.1 rfl (Nat.le_of_ble_eq_true rfl) dX0_hull_44 ⟨Nat.le_of_ble_eq_true rfl, Nat.le_of_ble_eq_true rfl⟩ ?_
          have hres : (ck_la (bt hd) lo hi ((ck_ns hd) - f0) 24) = (ck_hl hd lo hi f0 en) := by first | (simp [ck_hl, c_1, c_2, c_3, c_4]; done) | simp [ck_hl, ck_zo, c_1, c_2, c_3, c_4]
          exact W.lret (v := (ck_la (bt hd) lo hi ((ck_ns hd) - f0) 24)) hx hb hr (fun t ht _ => ⟨congrArg (fun z => Outcome.returned (some (Value.long z))) hres, ht⟩) (fun _ h => nomatch h) dX0_hull_47
        · refine lv_aload_n hx hb dX0_hull_34 rfl (lv_at hl 1 rfl) ?_
          refine lv_iload_n hx hb dX0_hull_35 rfl (lv_at hl 0 rfl) ?_
          refine ck_cV (As := [.int ((ck_ns hd) - f0)]) (rest := []) ⟨hx, hb, hml, hown, hts⟩ (c_X0_leastCoveredBy l D h a1 a2 c1 c2 lo hi hd ow off go ((ck_ns hd) - f0)) (cwV 1 hts gX0_hull_X0_leastCoveredBy rfl rfl rfl (by decide +kernel) ⟨Nat.le_of_ble_eq_true rfl, Nat.le_of_ble_eq_true rfl⟩) hP hK (va_recv hK hP (ci := 0) (q0 := 0) rfl rfl) rfl hl.1 rfl (Nat.le_of_ble_eq_true rfl) dX0_hull_36 ⟨Nat.le_of_ble_eq_true rfl, Nat.le_of_ble_eq_true rfl⟩ ?_
          refine lv_goto (tgt := 47) hx hb dX0_hull_39 (by decide) ?_
          have hres : (ck_fi (bt hd) lo hi ((ck_ns hd) - f0) 24) = (ck_hl hd lo hi f0 en) := by first | (simp [ck_hl, c_1, c_2, c_3, c_4]; done) | simp [ck_hl, ck_zo, c_1, c_2, c_3, c_4]
          exact W.lret (v := (ck_fi (bt hd) lo hi ((ck_ns hd) - f0) 24)) hx hb hr (fun t ht _ => ⟨congrArg (fun z => Outcome.returned (some (Value.long z))) hres, ht⟩) (fun _ h => nomatch h) dX0_hull_47
      · have c_3 := ck_bf c_3
        refine lv_ldc2 (v := ck_NO) hx hb hown (hts (.constantLong RX0 46 ck_NO) (by decide +kernel)) dX0_hull_19 ?_
        have hres : ck_NO = (ck_hl hd lo hi f0 en) := by first | (simp [ck_hl, c_1, c_2, c_3]; done) | simp [ck_hl, ck_zo, c_1, c_2, c_3]
        exact W.lret (v := ck_NO) hx hb hr (fun t ht _ => ⟨congrArg (fun z => Outcome.returned (some (Value.long z))) hres, ht⟩) (fun _ h => nomatch h) dX0_hull_22

set_option maxHeartbeats 4000000 in
set_option maxRecDepth 100000 in
theorem c_X0_chosen (l : Launch) (D : va_G) (h a1 a2 : Nat) (c1 c2 : ClassId) (lo hi : Nat → Int64) (hd : Int32) (ow off go : Int64) (x : Int32)  : Met l yX0_chosen wsX0_chosen { frames := 6, cells := 0, slots := 0, locals := 139 } (va_Pc [.ref h, .int x] (ck_B D (xW h a1 a2 c1 c2 lo hi hd ow off go) (xT c1 c2))) (ck_R (.int (ck_b (ck_ch hd lo hi x)))) 0 0 (fun _ => False) := by
  refine Met.ofW (cc := cX0_chosen) (maxL := 2) (ret := (some .boolean)) (by decide) rfl ?_
  intro p e s m args below meth c s₁ B hml hv
  obtain ⟨rfl, hP, hK⟩ := hv
  have hx := B.exec
  have hb := B.bytes
  have hr := B.returns
  have hts := atoms_spec (ws := wsX0_chosen) B.pre
  have hown : s.vm.findClass RX0 = some m.cls := findClass_of_methodNamed B.named
  have hlocks := B.notSynchronized
  have hin : ∀ w ∈ wsX00, w ∈ wsX0_chosen := fun _ h => List.mem_cons_of_mem _ (List.mem_append_right _ h)
  have hl := lv_entry ([.ref h, .int x]) (n := 2) (Nat.le_of_ble_eq_true rfl)
  rw [lg_entry_eq]
  generalize (lg_sl ([.ref h, .int x]) ++ List.replicate (2 - (lg_sl ([.ref h, .int x])).length) Slot.unset).toArray = ls at hl ⊢
  have hl : lv_has ls 2 [(0, .ref h), (1, .int x)] := hl
  refine lv_aload_n hx hb dX0_chosen_0 rfl (lv_at hl 0 rfl) ?_
  refine va_get (D := D) (ci := 0) (v := .int hd) (C := RX0) (T := TX0) (N := 6) hx hb hts hin hown hK hP 0 rfl rfl 2 (by decide) (hts (.fieldLink RX0 16 "ClockDesk" "held" "I") (by decide +kernel)) (fun _ h9 => h9) rfl dX0_chosen_1 ?_
  refine lv_iload_n hx hb dX0_chosen_4 rfl (lv_at hl 1 rfl) ?_
  refine ck_cS (As := [.int hd, .int x]) (rest := []) ⟨hx, hb, hml, hown, hts⟩ (c_X0_isIn l hd x) (va_cwS 2 hts gX0_chosen_X0_isIn rfl rfl rfl (by decide +kernel) ⟨Nat.le_of_ble_eq_true rfl, Nat.le_of_ble_eq_true rfl⟩) rfl hl.1 rfl (Nat.le_of_ble_eq_true rfl) dX0_chosen_5 ⟨Nat.le_of_ble_eq_true rfl, Nat.le_of_ble_eq_true rfl⟩ ?_
  refine lv_if_eq (tgt := 45) hx hb dX0_chosen_8 (by decide) (fun c_1 => ?_) (fun c_1 => ?_)
  · have c_1 := ck_bf c_1
    refine lv_iconst (v := 0) hx hb dX0_chosen_45 (by decide) ?_
    have hres : 0 = (ck_b (ck_ch hd lo hi x)) := by simp [ck_ch, ck_b, c_1]
    exact W.zret (ty := .boolean) (v := 0) hx hb hr rfl (fun t ht _ => ⟨congrArg (fun z => Outcome.returned (some (Value.int z))) hres, ht⟩) (fun _ h => nomatch h) dX0_chosen_46
  · have c_1 := ck_bt c_1
    obtain ⟨jx, hjx, rfl⟩ := ck_inE c_1
    have hcjx : (nI jx).toNatClampNeg = jx := nI_clamp (by omega)
    have hnjx := c_1
    rw [ck_inN _ hjx] at hnjx
    refine lv_aload_n hx hb dX0_chosen_11 rfl (lv_at hl 0 rfl) ?_
    refine va_get (D := D) (ci := 0) (v := .ref a1) (C := RX0) (T := TX0) (N := 6) hx hb hts hin hown hK hP 0 rfl rfl 0 (by decide) (hts (.fieldLink RX0 9 "ClockDesk" "lows" "[J") (by decide +kernel)) (fun _ h9 => h9) rfl dX0_chosen_12 ?_
    refine lv_iload_n hx hb dX0_chosen_15 rfl (lv_at hl 1 rfl) ?_
    refine ck_lald hx hb hK hP 1 0 rfl rfl (i := jx) hjx dX0_chosen_16 ?_
    refine lv_aload_n hx hb dX0_chosen_17 rfl (lv_at hl 0 rfl) ?_
    refine lv_iconst (v := 0) hx hb dX0_chosen_18 (by decide) ?_
    refine ck_cV (As := [.int 0]) (rest := [.long (lo jx)]) ⟨hx, hb, hml, hown, hts⟩ (c_X0_region l D h a1 a2 c1 c2 lo hi hd ow off go 0) (cwV 1 hts gX0_chosen_X0_region rfl rfl rfl (by decide +kernel) ⟨Nat.le_of_ble_eq_true rfl, Nat.le_of_ble_eq_true rfl⟩) hP hK (va_recv hK hP (ci := 0) (q0 := 0) rfl rfl) rfl hl.1 rfl (Nat.le_of_ble_eq_true rfl) dX0_chosen_19 ⟨Nat.le_of_ble_eq_true rfl, Nat.le_of_ble_eq_true rfl⟩ ?_
    refine W.lcmp hx hb dX0_chosen_22 ?_
    refine lv_if_gt (tgt := 45) hx hb dX0_chosen_23 (by decide) (fun c_2 => ?_) (fun c_2 => ?_)
    · rw [lg_cmp_gt] at c_2
      refine lv_iconst (v := 0) hx hb dX0_chosen_45 (by decide) ?_
      have hres : 0 = (ck_b (ck_ch hd lo hi (nI jx))) := by simp [ck_ch, ck_b, c_1, hcjx, c_2]
      exact W.zret (ty := .boolean) (v := 0) hx hb hr rfl (fun t ht _ => ⟨congrArg (fun z => Outcome.returned (some (Value.int z))) hres, ht⟩) (fun _ h => nomatch h) dX0_chosen_46
    · rw [lg_cmp_gt] at c_2
      refine lv_aload_n hx hb dX0_chosen_26 rfl (lv_at hl 0 rfl) ?_
      refine lv_iconst (v := 1) hx hb dX0_chosen_27 (by decide) ?_
      refine ck_cV (As := [.int 1]) (rest := []) ⟨hx, hb, hml, hown, hts⟩ (c_X0_region l D h a1 a2 c1 c2 lo hi hd ow off go 1) (cwV 1 hts gX0_chosen_X0_region rfl rfl rfl (by decide +kernel) ⟨Nat.le_of_ble_eq_true rfl, Nat.le_of_ble_eq_true rfl⟩) hP hK (va_recv hK hP (ci := 0) (q0 := 0) rfl rfl) rfl hl.1 rfl (Nat.le_of_ble_eq_true rfl) dX0_chosen_28 ⟨Nat.le_of_ble_eq_true rfl, Nat.le_of_ble_eq_true rfl⟩ ?_
      refine lv_aload_n hx hb dX0_chosen_31 rfl (lv_at hl 0 rfl) ?_
      refine va_get (D := D) (ci := 0) (v := .ref a2) (C := RX0) (T := TX0) (N := 6) hx hb hts hin hown hK hP 0 rfl rfl 1 (by decide) (hts (.fieldLink RX0 13 "ClockDesk" "highs" "[J") (by decide +kernel)) (fun _ h9 => h9) rfl dX0_chosen_32 ?_
      refine lv_iload_n hx hb dX0_chosen_35 rfl (lv_at hl 1 rfl) ?_
      refine ck_lald hx hb hK hP 2 1 rfl rfl (i := jx) hjx dX0_chosen_36 ?_
      refine W.lcmp hx hb dX0_chosen_37 ?_
      refine lv_if_gt (tgt := 45) hx hb dX0_chosen_38 (by decide) (fun c_3 => ?_) (fun c_3 => ?_)
      · rw [lg_cmp_gt] at c_3
        refine lv_iconst (v := 0) hx hb dX0_chosen_45 (by decide) ?_
        have hres : 0 = (ck_b (ck_ch hd lo hi (nI jx))) := by simp [ck_ch, ck_b, c_1, hcjx, c_2, c_3]
        exact W.zret (ty := .boolean) (v := 0) hx hb hr rfl (fun t ht _ => ⟨congrArg (fun z => Outcome.returned (some (Value.int z))) hres, ht⟩) (fun _ h => nomatch h) dX0_chosen_46
      · rw [lg_cmp_gt] at c_3
        refine lv_iconst (v := 1) hx hb dX0_chosen_41 (by decide) ?_
        refine lv_goto (tgt := 46) hx hb dX0_chosen_42 (by decide) ?_
        have hres : 1 = (ck_b (ck_ch hd lo hi (nI jx))) := by simp [ck_ch, ck_b, c_1, hcjx, c_2, c_3]
        exact W.zret (ty := .boolean) (v := 1) hx hb hr rfl (fun t ht _ => ⟨congrArg (fun z => Outcome.returned (some (Value.int z))) hres, ht⟩) (fun _ h => nomatch h) dX0_chosen_46
end
section
set_option maxHeartbeats 4000000 in
set_option maxRecDepth 100000 in
theorem c_X0_middle (l : Launch) (D : va_G) (h a1 a2 : Nat) (c1 c2 : ClassId) (lo hi : Nat → Int64) (hd : Int32) (ow off go : Int64)  (j : Nat) (hj : j < 24) : Met l yX0_middle wsX0_middle { frames := 2, cells := 0, slots := 0, locals := 46 } (va_Pc [.ref h, .int (nI j)] (ck_B D (xW h a1 a2 c1 c2 lo hi hd ow off go) (xT c1 c2))) (ck_R (.long (ck_mid lo hi j))) 0 0 (fun _ => False) := by
  refine Met.ofW (cc := cX0_middle) (maxL := 2) (ret := (some .long)) (by decide) rfl ?_
  intro p e s m args below meth c s₁ B hml hv
  obtain ⟨rfl, hP, hK⟩ := hv
  have hx := B.exec
  have hb := B.bytes
  have hr := B.returns
  have hts := atoms_spec (ws := wsX0_middle) B.pre
  have hown : s.vm.findClass RX0 = some m.cls := findClass_of_methodNamed B.named
  have hlocks := B.notSynchronized
  have hin : ∀ w ∈ wsX00, w ∈ wsX0_middle := fun _ h => List.mem_cons_of_mem _ (List.mem_append_right _ h)
  have hl := lv_entry ([.ref h, .int (nI j)]) (n := 2) (Nat.le_of_ble_eq_true rfl)
  rw [lg_entry_eq]
  generalize (lg_sl ([.ref h, .int (nI j)]) ++ List.replicate (2 - (lg_sl ([.ref h, .int (nI j)])).length) Slot.unset).toArray = ls at hl ⊢
  have hl : lv_has ls 2 [(0, .ref h), (1, .int (nI j))] := hl
  refine lv_aload_n hx hb dX0_middle_0 rfl (lv_at hl 0 rfl) ?_
  refine va_get (D := D) (ci := 0) (v := .ref a1) (C := RX0) (T := TX0) (N := 6) hx hb hts hin hown hK hP 0 rfl rfl 0 (by decide) (hts (.fieldLink RX0 9 "ClockDesk" "lows" "[J") (by decide +kernel)) (fun _ h9 => h9) rfl dX0_middle_1 ?_
  refine lv_iload_n hx hb dX0_middle_4 rfl (lv_at hl 1 rfl) ?_
  refine ck_lald hx hb hK hP 1 0 rfl rfl (i := j) hj dX0_middle_5 ?_
  refine lv_aload_n hx hb dX0_middle_6 rfl (lv_at hl 0 rfl) ?_
  refine va_get (D := D) (ci := 0) (v := .ref a2) (C := RX0) (T := TX0) (N := 6) hx hb hts hin hown hK hP 0 rfl rfl 1 (by decide) (hts (.fieldLink RX0 13 "ClockDesk" "highs" "[J") (by decide +kernel)) (fun _ h9 => h9) rfl dX0_middle_7 ?_
  refine lv_iload_n hx hb dX0_middle_10 rfl (lv_at hl 1 rfl) ?_
  refine ck_lald hx hb hK hP 2 1 rfl rfl (i := j) hj dX0_middle_11 ?_
  refine lv_ladd hx hb dX0_middle_12 ?_
  refine ck_cS (As := [.long ((lo j) + (hi j))]) (rest := []) ⟨hx, hb, hml, hown, hts⟩ (c_X0_half l ((lo j) + (hi j))) (va_cwS 1 hts gX0_middle_X0_half rfl rfl rfl (by decide +kernel) ⟨Nat.le_of_ble_eq_true rfl, Nat.le_of_ble_eq_true rfl⟩) rfl hl.1 rfl (Nat.le_of_ble_eq_true rfl) dX0_middle_13 ⟨Nat.le_of_ble_eq_true rfl, Nat.le_of_ble_eq_true rfl⟩ ?_
  have hres : (ck_half ((lo j) + (hi j))) = (ck_mid lo hi j) := by rfl
  exact W.lret (v := (ck_half ((lo j) + (hi j)))) hx hb hr (fun t ht _ => ⟨congrArg (fun z => Outcome.returned (some (Value.long z))) hres, ht⟩) (fun _ h => nomatch h) dX0_middle_16

set_option maxHeartbeats 4000000 in
set_option maxRecDepth 100000 in
theorem c_X0_place (l : Launch) (D : va_G) (h a1 a2 : Nat) (c1 c2 : ClassId) (lo hi : Nat → Int64) (hd : Int32) (ow off go : Int64) (set : Int32) (j : Nat) (hj : j < 24) : Met l yX0_place wsX0_place { frames := 3, cells := 0, slots := 0, locals := 67 } (va_Pc [.ref h, .int (nI j), .int set] (ck_B D (xW h a1 a2 c1 c2 lo hi hd ow off go) (xT c1 c2))) (ck_R (.int (ck_pl (bt set) lo hi j))) 0 0 (fun _ => False) := by
  refine Met.ofW (cc := cX0_place) (maxL := 7) (ret := (some .int)) (by decide) rfl ?_
  intro p e s m args below meth c s₁ B hml hv
  obtain ⟨rfl, hP, hK⟩ := hv
  have hx := B.exec
  have hb := B.bytes
  have hr := B.returns
  have hts := atoms_spec (ws := wsX0_place) B.pre
  have hown : s.vm.findClass RX0 = some m.cls := findClass_of_methodNamed B.named
  have hlocks := B.notSynchronized
  have hin : ∀ w ∈ wsX00, w ∈ wsX0_place := fun _ h => List.mem_cons_of_mem _ (List.mem_append_right _ h)
  have hl := lv_entry ([.ref h, .int (nI j), .int set]) (n := 7) (Nat.le_of_ble_eq_true rfl)
  rw [lg_entry_eq]
  generalize (lg_sl ([.ref h, .int (nI j), .int set]) ++ List.replicate (7 - (lg_sl ([.ref h, .int (nI j), .int set])).length) Slot.unset).toArray = ls at hl ⊢
  have hl : lv_has ls 7 [(0, .ref h), (1, .int (nI j)), (2, .int set)] := hl
  refine lv_aload_n hx hb dX0_place_0 rfl (lv_at hl 0 rfl) ?_
  refine lv_iload_n hx hb dX0_place_1 rfl (lv_at hl 1 rfl) ?_
  refine ck_cV (As := [.int (nI j)]) (rest := []) ⟨hx, hb, hml, hown, hts⟩ (c_X0_middle l D h a1 a2 c1 c2 lo hi hd ow off go j hj) (cwV 1 hts gX0_place_X0_middle rfl rfl rfl (by decide +kernel) ⟨Nat.le_of_ble_eq_true rfl, Nat.le_of_ble_eq_true rfl⟩) hP hK (va_recv hK hP (ci := 0) (q0 := 0) rfl rfl) rfl hl.1 rfl (Nat.le_of_ble_eq_true rfl) dX0_place_2 ⟨Nat.le_of_ble_eq_true rfl, Nat.le_of_ble_eq_true rfl⟩ ?_
  refine lv_lstore_n (lv' := [(3, .long (ck_mid lo hi j)), (0, .ref h), (1, .int (nI j)), (2, .int set)]) hx hb dX0_place_5 rfl hl (by decide) rfl (fun ls hl => ?_)
  refine lv_iconst (v := 0) hx hb dX0_place_6 (by decide) ?_
  refine lv_istore (lv' := [(5, .int 0), (3, .long (ck_mid lo hi j)), (0, .ref h), (1, .int (nI j)), (2, .int set)]) hx hb dX0_place_7 hl (by decide) rfl (fun ls hl => ?_)
  refine lv_iconst (v := 0) hx hb dX0_place_9 (by decide) ?_
  refine lv_istore (lv' := [(6, .int 0), (5, .int 0), (3, .long (ck_mid lo hi j)), (0, .ref h), (1, .int (nI j)), (2, .int set)]) hx hb dX0_place_10 hl (by decide) rfl (fun ls hl => ?_)
  refine ck_loop (G := fun ls => W p l e _ s m _ below meth c _ _ _ _ _ (F0 m 12 ls [])) (nL := 7) (24) (fun i => True) (fun i => [(0, .ref h), (1, .int (nI j)), (2, .int set), (3, .long (ck_mid lo hi j)), (5, .int (ck_cn (ck_plP (bt set) lo hi j) i)), (6, .int (nI i))]) (fun i hle_i hj_i ih_i ls hl => ?_) ls (trivial) ?_
  rotate_left
  · have hq : lv_has ls 7 [(0, .ref h), (1, .int (nI j)), (2, .int set), (3, .long (ck_mid lo hi j)), (5, .int 0), (6, .int 0)] := lv_sub hl [3, 4, 5, 2, 1, 0] rfl
    exact hq
  have hl : lv_has ls 7 [(0, .ref h), (1, .int (nI j)), (2, .int set), (3, .long (ck_mid lo hi j)), (5, .int (ck_cn (ck_plP (bt set) lo hi j) i)), (6, .int (nI i))] := hl
  refine lv_iload hx hb dX0_place_12 (lv_at hl 5 rfl) ?_
  refine lv_bipush (v := 24) hx hb dX0_place_14 (by decide) ?_
  refine lv_icmp_ge (tgt := 65) hx hb dX0_place_16 (by decide) (fun c_1 => ?_) (fun c_1 => ?_)
  · have heq_i : i = 24 := ck_eqN hle_i c_1
    subst heq_i
    have hl : lv_has ls 7 [(0, .ref h), (1, .int (nI j)), (2, .int set), (3, .long (ck_mid lo hi j)), (5, .int (ck_cn (ck_plP (bt set) lo hi j) 24)), (6, .int (nI 24))] := hl
    refine lv_iload hx hb dX0_place_65 (lv_at hl 4 rfl) ?_
    have hres : (ck_cn (ck_plP (bt set) lo hi j) 24) = (ck_pl (bt set) lo hi j) := by rfl
    exact W.iret (v := (ck_cn (ck_plP (bt set) lo hi j) 24)) hx hb hr (fun t ht _ => ⟨congrArg (fun z => Outcome.returned (some (Value.int z))) hres, ht⟩) (fun _ h => nomatch h) dX0_place_67
  · have hlt_i : i < 24 := ck_ltN hle_i c_1
    refine lv_iload_n hx hb dX0_place_19 rfl (lv_at hl 2 rfl) ?_
    refine lv_iload hx hb dX0_place_20 (lv_at hl 5 rfl) ?_
    refine ck_cS (As := [.int set, .int (nI i)]) (rest := []) ⟨hx, hb, hml, hown, hts⟩ (c_X0_isInN l set i hlt_i) (va_cwS 2 hts gX0_place_X0_isIn rfl rfl rfl (by decide +kernel) ⟨Nat.le_of_ble_eq_true rfl, Nat.le_of_ble_eq_true rfl⟩) rfl hl.1 rfl (Nat.le_of_ble_eq_true rfl) dX0_place_22 ⟨Nat.le_of_ble_eq_true rfl, Nat.le_of_ble_eq_true rfl⟩ ?_
    refine lv_if_eq (tgt := 59) hx hb dX0_place_25 (by decide) (fun c_2 => ?_) (fun c_2 => ?_)
    · have c_2 := ck_bf c_2
      refine lv_iinc (v := (nI (i + 1))) (lv' := [(6, .int (nI (i + 1))), (0, .ref h), (1, .int (nI j)), (2, .int set), (3, .long (ck_mid lo hi j)), (5, .int (ck_cn (ck_plP (bt set) lo hi j) i))]) hx hb dX0_place_59 hl (k := 5) rfl (nI_1 i) (by decide) rfl (fun ls hl => ?_)
      refine lv_goto (tgt := 12) hx hb dX0_place_62 (by decide) ?_
      refine ih_i ls hlt_i (trivial) ?_
      have hq : lv_has ls 7 [(0, .ref h), (1, .int (nI j)), (2, .int set), (3, .long (ck_mid lo hi j)), (5, .int (ck_cn (ck_plP (bt set) lo hi j) i)), (6, .int (nI (i + 1)))] := lv_sub hl [1, 2, 3, 4, 5, 0] rfl
      have eq0 : (ck_cn (ck_plP (bt set) lo hi j) i) = (ck_cn (ck_plP (bt set) lo hi j) (i + 1)) := by simp [ck_cn, ck_plP, c_2]
      exact lv_eqq hq (by rw [← eq0])
    · have c_2 := ck_bt c_2
      refine lv_aload_n hx hb dX0_place_28 rfl (lv_at hl 0 rfl) ?_
      refine lv_iload hx hb dX0_place_29 (lv_at hl 5 rfl) ?_
      refine ck_cV (As := [.int (nI i)]) (rest := []) ⟨hx, hb, hml, hown, hts⟩ (c_X0_middle l D h a1 a2 c1 c2 lo hi hd ow off go i hlt_i) (cwV 1 hts gX0_place_X0_middle rfl rfl rfl (by decide +kernel) ⟨Nat.le_of_ble_eq_true rfl, Nat.le_of_ble_eq_true rfl⟩) hP hK (va_recv hK hP (ci := 0) (q0 := 0) rfl rfl) rfl hl.1 rfl (Nat.le_of_ble_eq_true rfl) dX0_place_31 ⟨Nat.le_of_ble_eq_true rfl, Nat.le_of_ble_eq_true rfl⟩ ?_
      refine lv_lload_n hx hb dX0_place_34 rfl (lv_at hl 3 rfl) ?_
      refine W.lcmp hx hb dX0_place_35 ?_
      refine lv_if_lt (tgt := 56) hx hb dX0_place_36 (by decide) (fun c_3 => ?_) (fun c_3 => ?_)
      · rw [lg_cmp_lt] at c_3
        refine lv_iinc (v := ((ck_cn (ck_plP (bt set) lo hi j) i) + 1)) (lv' := [(5, .int ((ck_cn (ck_plP (bt set) lo hi j) i) + 1)), (0, .ref h), (1, .int (nI j)), (2, .int set), (3, .long (ck_mid lo hi j)), (6, .int (nI i))]) hx hb dX0_place_56 hl (k := 4) rfl rfl (by decide) rfl (fun ls hl => ?_)
        refine lv_iinc (v := (nI (i + 1))) (lv' := [(6, .int (nI (i + 1))), (5, .int ((ck_cn (ck_plP (bt set) lo hi j) i) + 1)), (0, .ref h), (1, .int (nI j)), (2, .int set), (3, .long (ck_mid lo hi j))]) hx hb dX0_place_59 hl (k := 5) rfl (nI_1 i) (by decide) rfl (fun ls hl => ?_)
        refine lv_goto (tgt := 12) hx hb dX0_place_62 (by decide) ?_
        refine ih_i ls hlt_i (trivial) ?_
        have hq : lv_has ls 7 [(0, .ref h), (1, .int (nI j)), (2, .int set), (3, .long (ck_mid lo hi j)), (5, .int ((ck_cn (ck_plP (bt set) lo hi j) i) + 1)), (6, .int (nI (i + 1)))] := lv_sub hl [2, 3, 4, 5, 1, 0] rfl
        have eq0 : ((ck_cn (ck_plP (bt set) lo hi j) i) + 1) = (ck_cn (ck_plP (bt set) lo hi j) (i + 1)) := by simp [ck_cn, ck_plP, c_2, c_3]
        exact lv_eqq hq (by rw [← eq0])
      · rw [lg_cmp_lt] at c_3
        refine lv_aload_n hx hb dX0_place_39 rfl (lv_at hl 0 rfl) ?_
        refine lv_iload hx hb dX0_place_40 (lv_at hl 5 rfl) ?_
        refine ck_cV (As := [.int (nI i)]) (rest := []) ⟨hx, hb, hml, hown, hts⟩ (c_X0_middle l D h a1 a2 c1 c2 lo hi hd ow off go i hlt_i) (cwV 1 hts gX0_place_X0_middle rfl rfl rfl (by decide +kernel) ⟨Nat.le_of_ble_eq_true rfl, Nat.le_of_ble_eq_true rfl⟩) hP hK (va_recv hK hP (ci := 0) (q0 := 0) rfl rfl) rfl hl.1 rfl (Nat.le_of_ble_eq_true rfl) dX0_place_42 ⟨Nat.le_of_ble_eq_true rfl, Nat.le_of_ble_eq_true rfl⟩ ?_
        refine lv_lload_n hx hb dX0_place_45 rfl (lv_at hl 3 rfl) ?_
        refine W.lcmp hx hb dX0_place_46 ?_
        refine lv_if_ne (tgt := 59) hx hb dX0_place_47 (by decide) (fun c_4 => ?_) (fun c_4 => ?_)
        · rw [lg_cmp_eq] at c_4
          refine lv_iinc (v := (nI (i + 1))) (lv' := [(6, .int (nI (i + 1))), (0, .ref h), (1, .int (nI j)), (2, .int set), (3, .long (ck_mid lo hi j)), (5, .int (ck_cn (ck_plP (bt set) lo hi j) i))]) hx hb dX0_place_59 hl (k := 5) rfl (nI_1 i) (by decide) rfl (fun ls hl => ?_)
          refine lv_goto (tgt := 12) hx hb dX0_place_62 (by decide) ?_
          refine ih_i ls hlt_i (trivial) ?_
          have hq : lv_has ls 7 [(0, .ref h), (1, .int (nI j)), (2, .int set), (3, .long (ck_mid lo hi j)), (5, .int (ck_cn (ck_plP (bt set) lo hi j) i)), (6, .int (nI (i + 1)))] := lv_sub hl [1, 2, 3, 4, 5, 0] rfl
          have eq0 : (ck_cn (ck_plP (bt set) lo hi j) i) = (ck_cn (ck_plP (bt set) lo hi j) (i + 1)) := by simp [ck_cn, ck_plP, c_2, c_3, c_4]
          exact lv_eqq hq (by rw [← eq0])
        · rw [lg_cmp_eq] at c_4
          refine lv_iload hx hb dX0_place_50 (lv_at hl 5 rfl) ?_
          refine lv_iload_n hx hb dX0_place_52 rfl (lv_at hl 1 rfl) ?_
          refine lv_icmp_ge (tgt := 59) hx hb dX0_place_53 (by decide) (fun c_5 => ?_) (fun c_5 => ?_)
          · refine lv_iinc (v := (nI (i + 1))) (lv' := [(6, .int (nI (i + 1))), (0, .ref h), (1, .int (nI j)), (2, .int set), (3, .long (ck_mid lo hi j)), (5, .int (ck_cn (ck_plP (bt set) lo hi j) i))]) hx hb dX0_place_59 hl (k := 5) rfl (nI_1 i) (by decide) rfl (fun ls hl => ?_)
            refine lv_goto (tgt := 12) hx hb dX0_place_62 (by decide) ?_
            refine ih_i ls hlt_i (trivial) ?_
            have hq : lv_has ls 7 [(0, .ref h), (1, .int (nI j)), (2, .int set), (3, .long (ck_mid lo hi j)), (5, .int (ck_cn (ck_plP (bt set) lo hi j) i)), (6, .int (nI (i + 1)))] := lv_sub hl [1, 2, 3, 4, 5, 0] rfl
            have eq0 : (ck_cn (ck_plP (bt set) lo hi j) i) = (ck_cn (ck_plP (bt set) lo hi j) (i + 1)) := by simp [ck_cn, ck_plP, c_2, c_3, c_4, c_5]
            exact lv_eqq hq (by rw [← eq0])
          · refine lv_iinc (v := ((ck_cn (ck_plP (bt set) lo hi j) i) + 1)) (lv' := [(5, .int ((ck_cn (ck_plP (bt set) lo hi j) i) + 1)), (0, .ref h), (1, .int (nI j)), (2, .int set), (3, .long (ck_mid lo hi j)), (6, .int (nI i))]) hx hb dX0_place_56 hl (k := 4) rfl rfl (by decide) rfl (fun ls hl => ?_)
            refine lv_iinc (v := (nI (i + 1))) (lv' := [(6, .int (nI (i + 1))), (5, .int ((ck_cn (ck_plP (bt set) lo hi j) i) + 1)), (0, .ref h), (1, .int (nI j)), (2, .int set), (3, .long (ck_mid lo hi j))]) hx hb dX0_place_59 hl (k := 5) rfl (nI_1 i) (by decide) rfl (fun ls hl => ?_)
            refine lv_goto (tgt := 12) hx hb dX0_place_62 (by decide) ?_
            refine ih_i ls hlt_i (trivial) ?_
            have hq : lv_has ls 7 [(0, .ref h), (1, .int (nI j)), (2, .int set), (3, .long (ck_mid lo hi j)), (5, .int ((ck_cn (ck_plP (bt set) lo hi j) i) + 1)), (6, .int (nI (i + 1)))] := lv_sub hl [2, 3, 4, 5, 1, 0] rfl
            have eq0 : ((ck_cn (ck_plP (bt set) lo hi j) i) + 1) = (ck_cn (ck_plP (bt set) lo hi j) (i + 1)) := by simp [ck_cn, ck_plP, c_2, c_3, c_4, c_5]
            exact lv_eqq hq (by rw [← eq0])

set_option maxHeartbeats 4000000 in
set_option maxRecDepth 100000 in
theorem c_X0_medianMiddle (l : Launch) (D : va_G) (h a1 a2 : Nat) (c1 c2 : ClassId) (lo hi : Nat → Int64) (hd : Int32) (ow off go : Int64)   : Met l yX0_medianMiddle wsX0_medianMiddle { frames := 4, cells := 0, slots := 0, locals := 93 } (va_Pc [.ref h] (ck_B D (xW h a1 a2 c1 c2 lo hi hd ow off go) (xT c1 c2))) (ck_R (.long (ck_md hd lo hi))) 0 0 (fun _ => False) := by
  refine Met.ofW (cc := cX0_medianMiddle) (maxL := 3) (ret := (some .long)) (by decide) rfl ?_
  intro p e s m args below meth c s₁ B hml hv
  obtain ⟨rfl, hP, hK⟩ := hv
  have hx := B.exec
  have hb := B.bytes
  have hr := B.returns
  have hts := atoms_spec (ws := wsX0_medianMiddle) B.pre
  have hown : s.vm.findClass RX0 = some m.cls := findClass_of_methodNamed B.named
  have hlocks := B.notSynchronized
  have hin : ∀ w ∈ wsX00, w ∈ wsX0_medianMiddle := fun _ h => List.mem_cons_of_mem _ (List.mem_append_right _ h)
  have hl := lv_entry ([.ref h]) (n := 3) (Nat.le_of_ble_eq_true rfl)
  rw [lg_entry_eq]
  generalize (lg_sl ([.ref h]) ++ List.replicate (3 - (lg_sl ([.ref h])).length) Slot.unset).toArray = ls at hl ⊢
  have hl : lv_has ls 3 [(0, .ref h)] := hl
  refine lv_aload_n hx hb dX0_medianMiddle_0 rfl (lv_at hl 0 rfl) ?_
  refine ck_cV (As := []) (rest := []) ⟨hx, hb, hml, hown, hts⟩ (c_X0_sources l D h a1 a2 c1 c2 lo hi hd ow off go ) (cwV 0 hts gX0_medianMiddle_X0_sources rfl rfl rfl (by decide +kernel) ⟨Nat.le_of_ble_eq_true rfl, Nat.le_of_ble_eq_true rfl⟩) hP hK (va_recv hK hP (ci := 0) (q0 := 0) rfl rfl) rfl hl.1 rfl (Nat.le_of_ble_eq_true rfl) dX0_medianMiddle_1 ⟨Nat.le_of_ble_eq_true rfl, Nat.le_of_ble_eq_true rfl⟩ ?_
  refine lv_iconst (v := 1) hx hb dX0_medianMiddle_4 (by decide) ?_
  refine lv_isub hx hb dX0_medianMiddle_5 ?_
  refine lv_iconst (v := 2) hx hb dX0_medianMiddle_6 (by decide) ?_
  refine lv_idiv hx hb dX0_medianMiddle_7 (by decide) ?_
  refine lv_istore_n (lv' := [(1, .int (((ck_ns hd) - 1) / 2)), (0, .ref h)]) hx hb dX0_medianMiddle_8 rfl hl (by decide) rfl (fun ls hl => ?_)
  refine lv_iconst (v := 0) hx hb dX0_medianMiddle_9 (by decide) ?_
  refine lv_istore_n (lv' := [(2, .int 0), (1, .int (((ck_ns hd) - 1) / 2)), (0, .ref h)]) hx hb dX0_medianMiddle_10 rfl hl (by decide) rfl (fun ls hl => ?_)
  refine ck_loop (G := fun ls => W p l e _ s m _ below meth c _ _ _ _ _ (F0 m 11 ls [])) (nL := 3) (24) (fun i => ck_mdf (bt hd) lo hi ((ck_ns hd - 1) / 2) i = none) (fun i => [(0, .ref h), (1, .int ((ck_ns hd - 1) / 2)), (2, .int (nI i))]) (fun i hle_i hj_i ih_i ls hl => ?_) ls (rfl) ?_
  rotate_left
  · have hq : lv_has ls 3 [(0, .ref h), (1, .int (((ck_ns hd) - 1) / 2)), (2, .int 0)] := lv_sub hl [2, 1, 0] rfl
    exact hq
  have hl : lv_has ls 3 [(0, .ref h), (1, .int ((ck_ns hd - 1) / 2)), (2, .int (nI i))] := hl
  refine lv_iload_n hx hb dX0_medianMiddle_11 rfl (lv_at hl 2 rfl) ?_
  refine lv_bipush (v := 24) hx hb dX0_medianMiddle_12 (by decide) ?_
  refine lv_icmp_ge (tgt := 53) hx hb dX0_medianMiddle_14 (by decide) (fun c_1 => ?_) (fun c_1 => ?_)
  · have heq_i : i = 24 := ck_eqN hle_i c_1
    subst heq_i
    have hl : lv_has ls 3 [(0, .ref h), (1, .int ((ck_ns hd - 1) / 2)), (2, .int (nI 24))] := hl
    refine lv_ldc2 (v := ck_NO) hx hb hown (hts (.constantLong RX0 46 ck_NO) (by decide +kernel)) dX0_medianMiddle_53 ?_
    have hres : ck_NO = (ck_md hd lo hi) := by simp [ck_md, hj_i]
    exact W.lret (v := ck_NO) hx hb hr (fun t ht _ => ⟨congrArg (fun z => Outcome.returned (some (Value.long z))) hres, ht⟩) (fun _ h => nomatch h) dX0_medianMiddle_56
  · have hlt_i : i < 24 := ck_ltN hle_i c_1
    refine lv_aload_n hx hb dX0_medianMiddle_17 rfl (lv_at hl 0 rfl) ?_
    refine va_get (D := D) (ci := 0) (v := .int hd) (C := RX0) (T := TX0) (N := 6) hx hb hts hin hown hK hP 0 rfl rfl 2 (by decide) (hts (.fieldLink RX0 16 "ClockDesk" "held" "I") (by decide +kernel)) (fun _ h9 => h9) rfl dX0_medianMiddle_18 ?_
    refine lv_iload_n hx hb dX0_medianMiddle_21 rfl (lv_at hl 2 rfl) ?_
    refine ck_cS (As := [.int hd, .int (nI i)]) (rest := []) ⟨hx, hb, hml, hown, hts⟩ (c_X0_isInN l hd i hlt_i) (va_cwS 2 hts gX0_medianMiddle_X0_isIn rfl rfl rfl (by decide +kernel) ⟨Nat.le_of_ble_eq_true rfl, Nat.le_of_ble_eq_true rfl⟩) rfl hl.1 rfl (Nat.le_of_ble_eq_true rfl) dX0_medianMiddle_22 ⟨Nat.le_of_ble_eq_true rfl, Nat.le_of_ble_eq_true rfl⟩ ?_
    refine lv_if_eq (tgt := 47) hx hb dX0_medianMiddle_25 (by decide) (fun c_2 => ?_) (fun c_2 => ?_)
    · have c_2 := ck_bf c_2
      refine lv_iinc (v := (nI (i + 1))) (lv' := [(2, .int (nI (i + 1))), (0, .ref h), (1, .int ((ck_ns hd - 1) / 2))]) hx hb dX0_medianMiddle_47 hl (k := 2) rfl (nI_1 i) (by decide) rfl (fun ls hl => ?_)
      refine lv_goto (tgt := 11) hx hb dX0_medianMiddle_50 (by decide) ?_
      refine ih_i ls hlt_i (by simp [ck_mdf, hj_i, c_2]) ?_
      have hq : lv_has ls 3 [(0, .ref h), (1, .int ((ck_ns hd - 1) / 2)), (2, .int (nI (i + 1)))] := lv_sub hl [1, 2, 0] rfl
      exact hq
    · have c_2 := ck_bt c_2
      refine lv_aload_n hx hb dX0_medianMiddle_28 rfl (lv_at hl 0 rfl) ?_
      refine lv_iload_n hx hb dX0_medianMiddle_29 rfl (lv_at hl 2 rfl) ?_
      refine lv_aload_n hx hb dX0_medianMiddle_30 rfl (lv_at hl 0 rfl) ?_
      refine va_get (D := D) (ci := 0) (v := .int hd) (C := RX0) (T := TX0) (N := 6) hx hb hts hin hown hK hP 0 rfl rfl 2 (by decide) (hts (.fieldLink RX0 16 "ClockDesk" "held" "I") (by decide +kernel)) (fun _ h9 => h9) rfl dX0_medianMiddle_31 ?_
      refine ck_cV (As := [.int (nI i), .int hd]) (rest := []) ⟨hx, hb, hml, hown, hts⟩ (c_X0_place l D h a1 a2 c1 c2 lo hi hd ow off go hd i hlt_i) (cwV 2 hts gX0_medianMiddle_X0_place rfl rfl rfl (by decide +kernel) ⟨Nat.le_of_ble_eq_true rfl, Nat.le_of_ble_eq_true rfl⟩) hP hK (va_recv hK hP (ci := 0) (q0 := 0) rfl rfl) rfl hl.1 rfl (Nat.le_of_ble_eq_true rfl) dX0_medianMiddle_34 ⟨Nat.le_of_ble_eq_true rfl, Nat.le_of_ble_eq_true rfl⟩ ?_
      refine lv_iload_n hx hb dX0_medianMiddle_37 rfl (lv_at hl 1 rfl) ?_
      refine lv_icmp_ne (tgt := 47) hx hb dX0_medianMiddle_38 (by decide) (fun c_3 => ?_) (fun c_3 => ?_)
      · refine lv_iinc (v := (nI (i + 1))) (lv' := [(2, .int (nI (i + 1))), (0, .ref h), (1, .int ((ck_ns hd - 1) / 2))]) hx hb dX0_medianMiddle_47 hl (k := 2) rfl (nI_1 i) (by decide) rfl (fun ls hl => ?_)
        refine lv_goto (tgt := 11) hx hb dX0_medianMiddle_50 (by decide) ?_
        refine ih_i ls hlt_i (by simp [ck_mdf, hj_i, c_2, c_3]) ?_
        have hq : lv_has ls 3 [(0, .ref h), (1, .int ((ck_ns hd - 1) / 2)), (2, .int (nI (i + 1)))] := lv_sub hl [1, 2, 0] rfl
        exact hq
      · refine lv_aload_n hx hb dX0_medianMiddle_41 rfl (lv_at hl 0 rfl) ?_
        refine lv_iload_n hx hb dX0_medianMiddle_42 rfl (lv_at hl 2 rfl) ?_
        refine ck_cV (As := [.int (nI i)]) (rest := []) ⟨hx, hb, hml, hown, hts⟩ (c_X0_middle l D h a1 a2 c1 c2 lo hi hd ow off go i hlt_i) (cwV 1 hts gX0_medianMiddle_X0_middle rfl rfl rfl (by decide +kernel) ⟨Nat.le_of_ble_eq_true rfl, Nat.le_of_ble_eq_true rfl⟩) hP hK (va_recv hK hP (ci := 0) (q0 := 0) rfl rfl) rfl hl.1 rfl (Nat.le_of_ble_eq_true rfl) dX0_medianMiddle_43 ⟨Nat.le_of_ble_eq_true rfl, Nat.le_of_ble_eq_true rfl⟩ ?_
        have hres : (ck_mid lo hi i) = (ck_md hd lo hi) := by rw [ck_md, ck_mdf_stay hlt_i (show ck_mdf (bt hd) lo hi ((ck_ns hd - 1) / 2) (i + 1) = some (ck_mid lo hi i) by simp [ck_mdf, hj_i, c_2, c_3])]; rfl
        exact W.lret (v := (ck_mid lo hi i)) hx hb hr (fun t ht _ => ⟨congrArg (fun z => Outcome.returned (some (Value.long z))) hres, ht⟩) (fun _ h => nomatch h) dX0_medianMiddle_46

set_option maxHeartbeats 4000000 in
set_option maxRecDepth 100000 in
theorem c_X0_nearTo (l : Launch) (D : va_G) (h a1 a2 : Nat) (c1 c2 : ClassId) (lo hi : Nat → Int64) (hd : Int32) (ow off go : Int64) (p0 : Int64) (lm : Int64)  : Met l yX0_nearTo wsX0_nearTo { frames := 3, cells := 0, slots := 0, locals := 67 } (va_Pc [.ref h, .long p0, .long lm] (ck_B D (xW h a1 a2 c1 c2 lo hi hd ow off go) (xT c1 c2))) (ck_R (.int (ck_nr hd lo hi p0 lm 24))) 0 0 (fun _ => False) := by
  refine Met.ofW (cc := cX0_nearTo) (maxL := 7) (ret := (some .int)) (by decide) rfl ?_
  intro p e s m args below meth c s₁ B hml hv
  obtain ⟨rfl, hP, hK⟩ := hv
  have hx := B.exec
  have hb := B.bytes
  have hr := B.returns
  have hts := atoms_spec (ws := wsX0_nearTo) B.pre
  have hown : s.vm.findClass RX0 = some m.cls := findClass_of_methodNamed B.named
  have hlocks := B.notSynchronized
  have hin : ∀ w ∈ wsX00, w ∈ wsX0_nearTo := fun _ h => List.mem_cons_of_mem _ (List.mem_append_right _ h)
  have hl := lv_entry ([.ref h, .long p0, .long lm]) (n := 7) (Nat.le_of_ble_eq_true rfl)
  rw [lg_entry_eq]
  generalize (lg_sl ([.ref h, .long p0, .long lm]) ++ List.replicate (7 - (lg_sl ([.ref h, .long p0, .long lm])).length) Slot.unset).toArray = ls at hl ⊢
  have hl : lv_has ls 7 [(0, .ref h), (1, .long p0), (3, .long lm)] := hl
  refine lv_aload_n hx hb dX0_nearTo_0 rfl (lv_at hl 0 rfl) ?_
  refine va_get (D := D) (ci := 0) (v := .int hd) (C := RX0) (T := TX0) (N := 6) hx hb hts hin hown hK hP 0 rfl rfl 2 (by decide) (hts (.fieldLink RX0 16 "ClockDesk" "held" "I") (by decide +kernel)) (fun _ h9 => h9) rfl dX0_nearTo_1 ?_
  refine lv_istore (lv' := [(5, .int hd), (0, .ref h), (1, .long p0), (3, .long lm)]) hx hb dX0_nearTo_4 hl (by decide) rfl (fun ls hl => ?_)
  refine lv_iconst (v := 0) hx hb dX0_nearTo_6 (by decide) ?_
  refine lv_istore (lv' := [(6, .int 0), (5, .int hd), (0, .ref h), (1, .long p0), (3, .long lm)]) hx hb dX0_nearTo_7 hl (by decide) rfl (fun ls hl => ?_)
  refine ck_loop (G := fun ls => W p l e _ s m _ below meth c _ _ _ _ _ (F0 m 9 ls [])) (nL := 7) (24) (fun i => True) (fun i => [(0, .ref h), (1, .long p0), (3, .long lm), (5, .int (ck_nr hd lo hi p0 lm i)), (6, .int (nI i))]) (fun i hle_i hj_i ih_i ls hl => ?_) ls (trivial) ?_
  rotate_left
  · have hq : lv_has ls 7 [(0, .ref h), (1, .long p0), (3, .long lm), (5, .int hd), (6, .int 0)] := lv_sub hl [2, 3, 4, 1, 0] rfl
    exact hq
  have hl : lv_has ls 7 [(0, .ref h), (1, .long p0), (3, .long lm), (5, .int (ck_nr hd lo hi p0 lm i)), (6, .int (nI i))] := hl
  refine lv_iload hx hb dX0_nearTo_9 (lv_at hl 4 rfl) ?_
  refine lv_bipush (v := 24) hx hb dX0_nearTo_11 (by decide) ?_
  refine lv_icmp_ge (tgt := 59) hx hb dX0_nearTo_13 (by decide) (fun c_1 => ?_) (fun c_1 => ?_)
  · have heq_i : i = 24 := ck_eqN hle_i c_1
    subst heq_i
    have hl : lv_has ls 7 [(0, .ref h), (1, .long p0), (3, .long lm), (5, .int (ck_nr hd lo hi p0 lm 24)), (6, .int (nI 24))] := hl
    refine lv_iload hx hb dX0_nearTo_59 (lv_at hl 3 rfl) ?_
    have hres : (ck_nr hd lo hi p0 lm 24) = (ck_nr hd lo hi p0 lm 24) := by rfl
    exact W.iret (v := (ck_nr hd lo hi p0 lm 24)) hx hb hr (fun t ht _ => ⟨congrArg (fun z => Outcome.returned (some (Value.int z))) hres, ht⟩) (fun _ h => nomatch h) dX0_nearTo_61
  · have hlt_i : i < 24 := ck_ltN hle_i c_1
    refine lv_aload_n hx hb dX0_nearTo_16 rfl (lv_at hl 0 rfl) ?_
    refine va_get (D := D) (ci := 0) (v := .int hd) (C := RX0) (T := TX0) (N := 6) hx hb hts hin hown hK hP 0 rfl rfl 2 (by decide) (hts (.fieldLink RX0 16 "ClockDesk" "held" "I") (by decide +kernel)) (fun _ h9 => h9) rfl dX0_nearTo_17 ?_
    refine lv_iload hx hb dX0_nearTo_20 (lv_at hl 4 rfl) ?_
    refine ck_cS (As := [.int hd, .int (nI i)]) (rest := []) ⟨hx, hb, hml, hown, hts⟩ (c_X0_isInN l hd i hlt_i) (va_cwS 2 hts gX0_nearTo_X0_isIn rfl rfl rfl (by decide +kernel) ⟨Nat.le_of_ble_eq_true rfl, Nat.le_of_ble_eq_true rfl⟩) rfl hl.1 rfl (Nat.le_of_ble_eq_true rfl) dX0_nearTo_22 ⟨Nat.le_of_ble_eq_true rfl, Nat.le_of_ble_eq_true rfl⟩ ?_
    refine lv_if_eq (tgt := 53) hx hb dX0_nearTo_25 (by decide) (fun c_2 => ?_) (fun c_2 => ?_)
    · have c_2 := ck_bf c_2
      refine lv_iinc (v := (nI (i + 1))) (lv' := [(6, .int (nI (i + 1))), (0, .ref h), (1, .long p0), (3, .long lm), (5, .int (ck_nr hd lo hi p0 lm i))]) hx hb dX0_nearTo_53 hl (k := 4) rfl (nI_1 i) (by decide) rfl (fun ls hl => ?_)
      refine lv_goto (tgt := 9) hx hb dX0_nearTo_56 (by decide) ?_
      refine ih_i ls hlt_i (trivial) ?_
      have hq : lv_has ls 7 [(0, .ref h), (1, .long p0), (3, .long lm), (5, .int (ck_nr hd lo hi p0 lm i)), (6, .int (nI (i + 1)))] := lv_sub hl [1, 2, 3, 4, 0] rfl
      have eq0 : (ck_nr hd lo hi p0 lm i) = (ck_nr hd lo hi p0 lm (i + 1)) := by simp [ck_nr, c_2]
      exact lv_eqq hq (by rw [← eq0])
    · have c_2 := ck_bt c_2
      refine lv_aload_n hx hb dX0_nearTo_28 rfl (lv_at hl 0 rfl) ?_
      refine lv_iload hx hb dX0_nearTo_29 (lv_at hl 4 rfl) ?_
      refine ck_cV (As := [.int (nI i)]) (rest := []) ⟨hx, hb, hml, hown, hts⟩ (c_X0_middle l D h a1 a2 c1 c2 lo hi hd ow off go i hlt_i) (cwV 1 hts gX0_nearTo_X0_middle rfl rfl rfl (by decide +kernel) ⟨Nat.le_of_ble_eq_true rfl, Nat.le_of_ble_eq_true rfl⟩) hP hK (va_recv hK hP (ci := 0) (q0 := 0) rfl rfl) rfl hl.1 rfl (Nat.le_of_ble_eq_true rfl) dX0_nearTo_31 ⟨Nat.le_of_ble_eq_true rfl, Nat.le_of_ble_eq_true rfl⟩ ?_
      refine lv_lload_n hx hb dX0_nearTo_34 rfl (lv_at hl 1 rfl) ?_
      refine lv_lsub hx hb dX0_nearTo_35 ?_
      refine ck_mabs hx hb (hml.trans hl.1.symm) hown (hts (.methodLink RX0 133 Lib.MathLoose.abs_long.x) (by decide +kernel)) (hts (.static Lib.MathLoose.abs_long.x) (by decide +kernel)) (hts (.initialized "java/lang/Math") (by decide +kernel)) (hts (.code Lib.MathLoose.abs_long.x Lib.MathLoose.abs_long.code 2 (some .long)) (by decide +kernel)) (Nat.le_of_ble_eq_true rfl) (Nat.le_of_ble_eq_true rfl) (Nat.le_of_ble_eq_true rfl) (Nat.le_of_ble_eq_true rfl) dX0_nearTo_36 ?_
      refine lv_lload_n hx hb dX0_nearTo_39 rfl (lv_at hl 2 rfl) ?_
      refine W.lcmp hx hb dX0_nearTo_40 ?_
      refine lv_if_le (tgt := 53) hx hb dX0_nearTo_41 (by decide) (fun c_3 => ?_) (fun c_3 => ?_)
      · rw [lg_cmp_le] at c_3
        refine lv_iinc (v := (nI (i + 1))) (lv' := [(6, .int (nI (i + 1))), (0, .ref h), (1, .long p0), (3, .long lm), (5, .int (ck_nr hd lo hi p0 lm i))]) hx hb dX0_nearTo_53 hl (k := 4) rfl (nI_1 i) (by decide) rfl (fun ls hl => ?_)
        refine lv_goto (tgt := 9) hx hb dX0_nearTo_56 (by decide) ?_
        refine ih_i ls hlt_i (trivial) ?_
        have hq : lv_has ls 7 [(0, .ref h), (1, .long p0), (3, .long lm), (5, .int (ck_nr hd lo hi p0 lm i)), (6, .int (nI (i + 1)))] := lv_sub hl [1, 2, 3, 4, 0] rfl
        have eq0 : (ck_nr hd lo hi p0 lm i) = (ck_nr hd lo hi p0 lm (i + 1)) := by simp [ck_nr, c_2, c_3]
        exact lv_eqq hq (by rw [← eq0])
      · rw [lg_cmp_le] at c_3
        refine lv_iload hx hb dX0_nearTo_44 (lv_at hl 3 rfl) ?_
        refine lv_iload hx hb dX0_nearTo_46 (lv_at hl 4 rfl) ?_
        refine ck_cS (As := [.int (ck_nr hd lo hi p0 lm i), .int (nI i)]) (rest := []) ⟨hx, hb, hml, hown, hts⟩ (c_X0_without l (ck_nr hd lo hi p0 lm i) (nI i)) (va_cwS 2 hts gX0_nearTo_X0_without rfl rfl rfl (by decide +kernel) ⟨Nat.le_of_ble_eq_true rfl, Nat.le_of_ble_eq_true rfl⟩) rfl hl.1 rfl (Nat.le_of_ble_eq_true rfl) dX0_nearTo_48 ⟨Nat.le_of_ble_eq_true rfl, Nat.le_of_ble_eq_true rfl⟩ ?_
        refine lv_istore (lv' := [(5, .int (ck_wo (ck_nr hd lo hi p0 lm i) (nI i))), (0, .ref h), (1, .long p0), (3, .long lm), (6, .int (nI i))]) hx hb dX0_nearTo_51 hl (by decide) rfl (fun ls hl => ?_)
        refine lv_iinc (v := (nI (i + 1))) (lv' := [(6, .int (nI (i + 1))), (5, .int (ck_wo (ck_nr hd lo hi p0 lm i) (nI i))), (0, .ref h), (1, .long p0), (3, .long lm)]) hx hb dX0_nearTo_53 hl (k := 4) rfl (nI_1 i) (by decide) rfl (fun ls hl => ?_)
        refine lv_goto (tgt := 9) hx hb dX0_nearTo_56 (by decide) ?_
        refine ih_i ls hlt_i (trivial) ?_
        have hq : lv_has ls 7 [(0, .ref h), (1, .long p0), (3, .long lm), (5, .int (ck_wo (ck_nr hd lo hi p0 lm i) (nI i))), (6, .int (nI (i + 1)))] := lv_sub hl [2, 3, 4, 1, 0] rfl
        have eq0 : (ck_wo (ck_nr hd lo hi p0 lm i) (nI i)) = (ck_nr hd lo hi p0 lm (i + 1)) := by simp [ck_nr, c_2, c_3]
        exact lv_eqq hq (by rw [← eq0])

set_option maxHeartbeats 4000000 in
set_option maxRecDepth 100000 in
theorem c_X0_meanMiddle (l : Launch) (D : va_G) (h a1 a2 : Nat) (c1 c2 : ClassId) (lo hi : Nat → Int64) (hd : Int32) (ow off go : Int64) (set : Int32)  : Met l yX0_meanMiddle wsX0_meanMiddle { frames := 3, cells := 0, slots := 0, locals := 67 } (va_Pc [.ref h, .int set] (ck_B D (xW h a1 a2 c1 c2 lo hi hd ow off go) (xT c1 c2))) (ck_R (.long (ck_mm set lo hi))) 0 0 (fun _ => False) := by
  refine Met.ofW (cc := cX0_meanMiddle) (maxL := 5) (ret := (some .long)) (by decide) rfl ?_
  intro p e s m args below meth c s₁ B hml hv
  obtain ⟨rfl, hP, hK⟩ := hv
  have hx := B.exec
  have hb := B.bytes
  have hr := B.returns
  have hts := atoms_spec (ws := wsX0_meanMiddle) B.pre
  have hown : s.vm.findClass RX0 = some m.cls := findClass_of_methodNamed B.named
  have hlocks := B.notSynchronized
  have hin : ∀ w ∈ wsX00, w ∈ wsX0_meanMiddle := fun _ h => List.mem_cons_of_mem _ (List.mem_append_right _ h)
  have hl := lv_entry ([.ref h, .int set]) (n := 5) (Nat.le_of_ble_eq_true rfl)
  rw [lg_entry_eq]
  generalize (lg_sl ([.ref h, .int set]) ++ List.replicate (5 - (lg_sl ([.ref h, .int set])).length) Slot.unset).toArray = ls at hl ⊢
  have hl : lv_has ls 5 [(0, .ref h), (1, .int set)] := hl
  refine lv_iload_n hx hb dX0_meanMiddle_0 rfl (lv_at hl 1 rfl) ?_
  refine lv_if_ne (tgt := 8) hx hb dX0_meanMiddle_1 (by decide) (fun c_1 => ?_) (fun c_1 => ?_)
  · refine lv_lconst (v := 0) hx hb dX0_meanMiddle_8 (by decide) ?_
    refine lv_lstore_n (lv' := [(2, .long 0), (0, .ref h), (1, .int set)]) hx hb dX0_meanMiddle_9 rfl hl (by decide) rfl (fun ls hl => ?_)
    refine lv_iconst (v := 0) hx hb dX0_meanMiddle_10 (by decide) ?_
    refine lv_istore (lv' := [(4, .int 0), (2, .long 0), (0, .ref h), (1, .int set)]) hx hb dX0_meanMiddle_11 hl (by decide) rfl (fun ls hl => ?_)
    refine ck_loop (G := fun ls => W p l e _ s m _ below meth c _ _ _ _ _ (F0 m 13 ls [])) (nL := 5) (24) (fun i => True) (fun i => [(0, .ref h), (1, .int set), (2, .long (ck_sm (bt set) lo hi i)), (4, .int (nI i))]) (fun i hle_i hj_i ih_i ls hl => ?_) ls (trivial) ?_
    rotate_left
    · have hq : lv_has ls 5 [(0, .ref h), (1, .int set), (2, .long 0), (4, .int 0)] := lv_sub hl [2, 3, 1, 0] rfl
      exact hq
    have hl : lv_has ls 5 [(0, .ref h), (1, .int set), (2, .long (ck_sm (bt set) lo hi i)), (4, .int (nI i))] := hl
    refine lv_iload hx hb dX0_meanMiddle_13 (lv_at hl 3 rfl) ?_
    refine lv_bipush (v := 24) hx hb dX0_meanMiddle_15 (by decide) ?_
    refine lv_icmp_ge (tgt := 44) hx hb dX0_meanMiddle_17 (by decide) (fun c_2 => ?_) (fun c_2 => ?_)
    · have heq_i : i = 24 := ck_eqN hle_i c_2
      subst heq_i
      have hl : lv_has ls 5 [(0, .ref h), (1, .int set), (2, .long (ck_sm (bt set) lo hi 24)), (4, .int (nI 24))] := hl
      refine lv_lload_n hx hb dX0_meanMiddle_44 rfl (lv_at hl 2 rfl) ?_
      refine lv_iload_n hx hb dX0_meanMiddle_45 rfl (lv_at hl 1 rfl) ?_
      refine ck_cS (As := [.int set]) (rest := [.long (ck_sm (bt set) lo hi 24)]) ⟨hx, hb, hml, hown, hts⟩ (c_J6_bitCount_0f7a4 l set) (va_cwS 1 hts gX0_meanMiddle_J6_bitCount_0f7a4 rfl rfl rfl (by decide +kernel) ⟨Nat.le_of_ble_eq_true rfl, Nat.le_of_ble_eq_true rfl⟩) rfl hl.1 rfl (Nat.le_of_ble_eq_true rfl) dX0_meanMiddle_46 ⟨Nat.le_of_ble_eq_true rfl, Nat.le_of_ble_eq_true rfl⟩ ?_
      refine lv_i2l (v := (Int32.toInt64 (ck_ns set))) hx hb dX0_meanMiddle_49 rfl ?_
      refine ck_cS (As := [.long (ck_sm (bt set) lo hi 24), .long (Int32.toInt64 (ck_ns set))]) (rest := []) ⟨hx, hb, hml, hown, hts⟩ (c_J9_floorDiv_f86c9 l (ck_sm (bt set) lo hi 24) (Int32.toInt64 (ck_ns set)) (ck_nz c_1)) (va_cwS 2 hts gX0_meanMiddle_J9_floorDiv_f86c9 rfl rfl rfl (by decide +kernel) ⟨Nat.le_of_ble_eq_true rfl, Nat.le_of_ble_eq_true rfl⟩) rfl hl.1 rfl (Nat.le_of_ble_eq_true rfl) dX0_meanMiddle_50 ⟨Nat.le_of_ble_eq_true rfl, Nat.le_of_ble_eq_true rfl⟩ ?_
      have hres : (ck_fd (ck_sm (bt set) lo hi 24) (Int32.toInt64 (ck_ns set))) = (ck_mm set lo hi) := by simp [ck_mm, c_1]
      exact W.lret (v := (ck_fd (ck_sm (bt set) lo hi 24) (Int32.toInt64 (ck_ns set)))) hx hb hr (fun t ht _ => ⟨congrArg (fun z => Outcome.returned (some (Value.long z))) hres, ht⟩) (fun _ h => nomatch h) dX0_meanMiddle_53
    · have hlt_i : i < 24 := ck_ltN hle_i c_2
      refine lv_iload_n hx hb dX0_meanMiddle_20 rfl (lv_at hl 1 rfl) ?_
      refine lv_iload hx hb dX0_meanMiddle_21 (lv_at hl 3 rfl) ?_
      refine ck_cS (As := [.int set, .int (nI i)]) (rest := []) ⟨hx, hb, hml, hown, hts⟩ (c_X0_isInN l set i hlt_i) (va_cwS 2 hts gX0_meanMiddle_X0_isIn rfl rfl rfl (by decide +kernel) ⟨Nat.le_of_ble_eq_true rfl, Nat.le_of_ble_eq_true rfl⟩) rfl hl.1 rfl (Nat.le_of_ble_eq_true rfl) dX0_meanMiddle_23 ⟨Nat.le_of_ble_eq_true rfl, Nat.le_of_ble_eq_true rfl⟩ ?_
      refine lv_if_eq (tgt := 38) hx hb dX0_meanMiddle_26 (by decide) (fun c_3 => ?_) (fun c_3 => ?_)
      · have c_3 := ck_bf c_3
        refine lv_iinc (v := (nI (i + 1))) (lv' := [(4, .int (nI (i + 1))), (0, .ref h), (1, .int set), (2, .long (ck_sm (bt set) lo hi i))]) hx hb dX0_meanMiddle_38 hl (k := 3) rfl (nI_1 i) (by decide) rfl (fun ls hl => ?_)
        refine lv_goto (tgt := 13) hx hb dX0_meanMiddle_41 (by decide) ?_
        refine ih_i ls hlt_i (trivial) ?_
        have hq : lv_has ls 5 [(0, .ref h), (1, .int set), (2, .long (ck_sm (bt set) lo hi i)), (4, .int (nI (i + 1)))] := lv_sub hl [1, 2, 3, 0] rfl
        have eq0 : (ck_sm (bt set) lo hi i) = (ck_sm (bt set) lo hi (i + 1)) := by simp [ck_sm, c_3]
        exact lv_eqq hq (by rw [← eq0])
      · have c_3 := ck_bt c_3
        refine lv_lload_n hx hb dX0_meanMiddle_29 rfl (lv_at hl 2 rfl) ?_
        refine lv_aload_n hx hb dX0_meanMiddle_30 rfl (lv_at hl 0 rfl) ?_
        refine lv_iload hx hb dX0_meanMiddle_31 (lv_at hl 3 rfl) ?_
        refine ck_cV (As := [.int (nI i)]) (rest := [.long (ck_sm (bt set) lo hi i)]) ⟨hx, hb, hml, hown, hts⟩ (c_X0_middle l D h a1 a2 c1 c2 lo hi hd ow off go i hlt_i) (cwV 1 hts gX0_meanMiddle_X0_middle rfl rfl rfl (by decide +kernel) ⟨Nat.le_of_ble_eq_true rfl, Nat.le_of_ble_eq_true rfl⟩) hP hK (va_recv hK hP (ci := 0) (q0 := 0) rfl rfl) rfl hl.1 rfl (Nat.le_of_ble_eq_true rfl) dX0_meanMiddle_33 ⟨Nat.le_of_ble_eq_true rfl, Nat.le_of_ble_eq_true rfl⟩ ?_
        refine lv_ladd hx hb dX0_meanMiddle_36 ?_
        refine lv_lstore_n (lv' := [(2, .long ((ck_sm (bt set) lo hi i) + (ck_mid lo hi i))), (0, .ref h), (1, .int set), (4, .int (nI i))]) hx hb dX0_meanMiddle_37 rfl hl (by decide) rfl (fun ls hl => ?_)
        refine lv_iinc (v := (nI (i + 1))) (lv' := [(4, .int (nI (i + 1))), (2, .long ((ck_sm (bt set) lo hi i) + (ck_mid lo hi i))), (0, .ref h), (1, .int set)]) hx hb dX0_meanMiddle_38 hl (k := 3) rfl (nI_1 i) (by decide) rfl (fun ls hl => ?_)
        refine lv_goto (tgt := 13) hx hb dX0_meanMiddle_41 (by decide) ?_
        refine ih_i ls hlt_i (trivial) ?_
        have hq : lv_has ls 5 [(0, .ref h), (1, .int set), (2, .long ((ck_sm (bt set) lo hi i) + (ck_mid lo hi i))), (4, .int (nI (i + 1)))] := lv_sub hl [2, 3, 1, 0] rfl
        have eq0 : ((ck_sm (bt set) lo hi i) + (ck_mid lo hi i)) = (ck_sm (bt set) lo hi (i + 1)) := by simp [ck_sm, c_3]
        exact lv_eqq hq (by rw [← eq0])
  · refine lv_ldc2 (v := ck_NO) hx hb hown (hts (.constantLong RX0 46 ck_NO) (by decide +kernel)) dX0_meanMiddle_4 ?_
    have hres : ck_NO = (ck_mm set lo hi) := by simp [ck_mm, c_1]
    exact W.lret (v := ck_NO) hx hb hr (fun t ht _ => ⟨congrArg (fun z => Outcome.returned (some (Value.long z))) hres, ht⟩) (fun _ h => nomatch h) dX0_meanMiddle_7

set_option maxHeartbeats 4000000 in
set_option maxRecDepth 100000 in
theorem c_X0_farthest (l : Launch) (D : va_G) (h a1 a2 : Nat) (c1 c2 : ClassId) (lo hi : Nat → Int64) (hd : Int32) (ow off go : Int64) (set : Int32)  : Met l yX0_farthest wsX0_farthest { frames := 4, cells := 0, slots := 0, locals := 91 } (va_Pc [.ref h, .int set] (ck_B D (xW h a1 a2 c1 c2 lo hi hd ow off go) (xT c1 c2))) (ck_R (.int (ck_far set lo hi))) 0 0 (fun _ => False) := by
  refine Met.ofW (cc := cX0_farthest) (maxL := 8) (ret := (some .int)) (by decide) rfl ?_
  intro p e s m args below meth c s₁ B hml hv
  obtain ⟨rfl, hP, hK⟩ := hv
  have hx := B.exec
  have hb := B.bytes
  have hr := B.returns
  have hts := atoms_spec (ws := wsX0_farthest) B.pre
  have hown : s.vm.findClass RX0 = some m.cls := findClass_of_methodNamed B.named
  have hlocks := B.notSynchronized
  have hin : ∀ w ∈ wsX00, w ∈ wsX0_farthest := fun _ h => List.mem_cons_of_mem _ (List.mem_append_right _ h)
  have hl := lv_entry ([.ref h, .int set]) (n := 8) (Nat.le_of_ble_eq_true rfl)
  rw [lg_entry_eq]
  generalize (lg_sl ([.ref h, .int set]) ++ List.replicate (8 - (lg_sl ([.ref h, .int set])).length) Slot.unset).toArray = ls at hl ⊢
  have hl : lv_has ls 8 [(0, .ref h), (1, .int set)] := hl
  refine lv_aload_n hx hb dX0_farthest_0 rfl (lv_at hl 0 rfl) ?_
  refine lv_iload_n hx hb dX0_farthest_1 rfl (lv_at hl 1 rfl) ?_
  refine ck_cV (As := [.int set]) (rest := []) ⟨hx, hb, hml, hown, hts⟩ (c_X0_meanMiddle l D h a1 a2 c1 c2 lo hi hd ow off go set) (cwV 1 hts gX0_farthest_X0_meanMiddle rfl rfl rfl (by decide +kernel) ⟨Nat.le_of_ble_eq_true rfl, Nat.le_of_ble_eq_true rfl⟩) hP hK (va_recv hK hP (ci := 0) (q0 := 0) rfl rfl) rfl hl.1 rfl (Nat.le_of_ble_eq_true rfl) dX0_farthest_2 ⟨Nat.le_of_ble_eq_true rfl, Nat.le_of_ble_eq_true rfl⟩ ?_
  refine lv_lstore_n (lv' := [(2, .long (ck_mm set lo hi)), (0, .ref h), (1, .int set)]) hx hb dX0_farthest_5 rfl hl (by decide) rfl (fun ls hl => ?_)
  refine lv_lconst (v := 0) hx hb dX0_farthest_6 (by decide) ?_
  refine lv_lstore (lv' := [(4, .long 0), (2, .long (ck_mm set lo hi)), (0, .ref h), (1, .int set)]) hx hb dX0_farthest_7 hl (by decide) rfl (fun ls hl => ?_)
  refine lv_iconst (v := 0) hx hb dX0_farthest_9 (by decide) ?_
  refine lv_istore (lv' := [(6, .int 0), (4, .long 0), (2, .long (ck_mm set lo hi)), (0, .ref h), (1, .int set)]) hx hb dX0_farthest_10 hl (by decide) rfl (fun ls hl => ?_)
  refine lv_iconst (v := 0) hx hb dX0_farthest_12 (by decide) ?_
  refine lv_istore (lv' := [(7, .int 0), (6, .int 0), (4, .long 0), (2, .long (ck_mm set lo hi)), (0, .ref h), (1, .int set)]) hx hb dX0_farthest_13 hl (by decide) rfl (fun ls hl => ?_)
  refine ck_loop (G := fun ls => W p l e _ s m _ below meth c _ _ _ _ _ (F0 m 15 ls [])) (nL := 8) (24) (fun i => True) (fun i => [(0, .ref h), (1, .int set), (2, .long (ck_mm set lo hi)), (4, .long (ck_fm set lo hi (ck_mm set lo hi) i).1), (6, .int (ck_fm set lo hi (ck_mm set lo hi) i).2), (7, .int (nI i))]) (fun i hle_i hj_i ih_i ls hl => ?_) ls (trivial) ?_
  rotate_left
  · have hq : lv_has ls 8 [(0, .ref h), (1, .int set), (2, .long (ck_mm set lo hi)), (4, .long 0), (6, .int 0), (7, .int 0)] := lv_sub hl [4, 5, 3, 2, 1, 0] rfl
    exact hq
  have hl : lv_has ls 8 [(0, .ref h), (1, .int set), (2, .long (ck_mm set lo hi)), (4, .long (ck_fm set lo hi (ck_mm set lo hi) i).1), (6, .int (ck_fm set lo hi (ck_mm set lo hi) i).2), (7, .int (nI i))] := hl
  refine lv_iload hx hb dX0_farthest_15 (lv_at hl 5 rfl) ?_
  refine lv_bipush (v := 24) hx hb dX0_farthest_17 (by decide) ?_
  refine lv_icmp_ge (tgt := 71) hx hb dX0_farthest_19 (by decide) (fun c_1 => ?_) (fun c_1 => ?_)
  · have heq_i : i = 24 := ck_eqN hle_i c_1
    subst heq_i
    have hl : lv_has ls 8 [(0, .ref h), (1, .int set), (2, .long (ck_mm set lo hi)), (4, .long (ck_fm set lo hi (ck_mm set lo hi) 24).1), (6, .int (ck_fm set lo hi (ck_mm set lo hi) 24).2), (7, .int (nI 24))] := hl
    refine lv_iload hx hb dX0_farthest_71 (lv_at hl 4 rfl) ?_
    have hres : (ck_fm set lo hi (ck_mm set lo hi) 24).2 = (ck_far set lo hi) := by rfl
    exact W.iret (v := (ck_fm set lo hi (ck_mm set lo hi) 24).2) hx hb hr (fun t ht _ => ⟨congrArg (fun z => Outcome.returned (some (Value.int z))) hres, ht⟩) (fun _ h => nomatch h) dX0_farthest_73
  · have hlt_i : i < 24 := ck_ltN hle_i c_1
    refine lv_iload_n hx hb dX0_farthest_22 rfl (lv_at hl 1 rfl) ?_
    refine lv_iload hx hb dX0_farthest_23 (lv_at hl 5 rfl) ?_
    refine ck_cS (As := [.int set, .int (nI i)]) (rest := []) ⟨hx, hb, hml, hown, hts⟩ (c_X0_isInN l set i hlt_i) (va_cwS 2 hts gX0_farthest_X0_isIn rfl rfl rfl (by decide +kernel) ⟨Nat.le_of_ble_eq_true rfl, Nat.le_of_ble_eq_true rfl⟩) rfl hl.1 rfl (Nat.le_of_ble_eq_true rfl) dX0_farthest_25 ⟨Nat.le_of_ble_eq_true rfl, Nat.le_of_ble_eq_true rfl⟩ ?_
    refine lv_if_eq (tgt := 65) hx hb dX0_farthest_28 (by decide) (fun c_2 => ?_) (fun c_2 => ?_)
    · have c_2 := ck_bf c_2
      refine lv_iinc (v := (nI (i + 1))) (lv' := [(7, .int (nI (i + 1))), (0, .ref h), (1, .int set), (2, .long (ck_mm set lo hi)), (4, .long (ck_fm set lo hi (ck_mm set lo hi) i).1), (6, .int (ck_fm set lo hi (ck_mm set lo hi) i).2)]) hx hb dX0_farthest_65 hl (k := 5) rfl (nI_1 i) (by decide) rfl (fun ls hl => ?_)
      refine lv_goto (tgt := 15) hx hb dX0_farthest_68 (by decide) ?_
      refine ih_i ls hlt_i (trivial) ?_
      have hq : lv_has ls 8 [(0, .ref h), (1, .int set), (2, .long (ck_mm set lo hi)), (4, .long (ck_fm set lo hi (ck_mm set lo hi) i).1), (6, .int (ck_fm set lo hi (ck_mm set lo hi) i).2), (7, .int (nI (i + 1)))] := lv_sub hl [1, 2, 3, 4, 5, 0] rfl
      have eq0 : (ck_fm set lo hi (ck_mm set lo hi) i).1 = (ck_fm set lo hi (ck_mm set lo hi) (i + 1)).1 := by simp [ck_fm, c_2]
      have eq1 : (ck_fm set lo hi (ck_mm set lo hi) i).2 = (ck_fm set lo hi (ck_mm set lo hi) (i + 1)).2 := by simp [ck_fm, c_2]
      exact lv_eqq hq (by rw [← eq0, ← eq1])
    · have c_2 := ck_bt c_2
      refine lv_aload_n hx hb dX0_farthest_31 rfl (lv_at hl 0 rfl) ?_
      refine lv_iload hx hb dX0_farthest_32 (lv_at hl 5 rfl) ?_
      refine ck_cV (As := [.int (nI i)]) (rest := []) ⟨hx, hb, hml, hown, hts⟩ (c_X0_middle l D h a1 a2 c1 c2 lo hi hd ow off go i hlt_i) (cwV 1 hts gX0_farthest_X0_middle rfl rfl rfl (by decide +kernel) ⟨Nat.le_of_ble_eq_true rfl, Nat.le_of_ble_eq_true rfl⟩) hP hK (va_recv hK hP (ci := 0) (q0 := 0) rfl rfl) rfl hl.1 rfl (Nat.le_of_ble_eq_true rfl) dX0_farthest_34 ⟨Nat.le_of_ble_eq_true rfl, Nat.le_of_ble_eq_true rfl⟩ ?_
      refine lv_lload_n hx hb dX0_farthest_37 rfl (lv_at hl 2 rfl) ?_
      refine lv_lsub hx hb dX0_farthest_38 ?_
      refine ck_mabs hx hb (hml.trans hl.1.symm) hown (hts (.methodLink RX0 133 Lib.MathLoose.abs_long.x) (by decide +kernel)) (hts (.static Lib.MathLoose.abs_long.x) (by decide +kernel)) (hts (.initialized "java/lang/Math") (by decide +kernel)) (hts (.code Lib.MathLoose.abs_long.x Lib.MathLoose.abs_long.code 2 (some .long)) (by decide +kernel)) (Nat.le_of_ble_eq_true rfl) (Nat.le_of_ble_eq_true rfl) (Nat.le_of_ble_eq_true rfl) (Nat.le_of_ble_eq_true rfl) dX0_farthest_39 ?_
      refine lv_lload hx hb dX0_farthest_42 (lv_at hl 3 rfl) ?_
      refine W.lcmp hx hb dX0_farthest_44 ?_
      refine lv_if_lt (tgt := 65) hx hb dX0_farthest_45 (by decide) (fun c_3 => ?_) (fun c_3 => ?_)
      · rw [lg_cmp_lt] at c_3
        refine lv_iinc (v := (nI (i + 1))) (lv' := [(7, .int (nI (i + 1))), (0, .ref h), (1, .int set), (2, .long (ck_mm set lo hi)), (4, .long (ck_fm set lo hi (ck_mm set lo hi) i).1), (6, .int (ck_fm set lo hi (ck_mm set lo hi) i).2)]) hx hb dX0_farthest_65 hl (k := 5) rfl (nI_1 i) (by decide) rfl (fun ls hl => ?_)
        refine lv_goto (tgt := 15) hx hb dX0_farthest_68 (by decide) ?_
        refine ih_i ls hlt_i (trivial) ?_
        have hq : lv_has ls 8 [(0, .ref h), (1, .int set), (2, .long (ck_mm set lo hi)), (4, .long (ck_fm set lo hi (ck_mm set lo hi) i).1), (6, .int (ck_fm set lo hi (ck_mm set lo hi) i).2), (7, .int (nI (i + 1)))] := lv_sub hl [1, 2, 3, 4, 5, 0] rfl
        have eq0 : (ck_fm set lo hi (ck_mm set lo hi) i).1 = (ck_fm set lo hi (ck_mm set lo hi) (i + 1)).1 := by simp [ck_fm, c_2, c_3]
        have eq1 : (ck_fm set lo hi (ck_mm set lo hi) i).2 = (ck_fm set lo hi (ck_mm set lo hi) (i + 1)).2 := by simp [ck_fm, c_2, c_3]
        exact lv_eqq hq (by rw [← eq0, ← eq1])
      · rw [lg_cmp_lt] at c_3
        refine lv_aload_n hx hb dX0_farthest_48 rfl (lv_at hl 0 rfl) ?_
        refine lv_iload hx hb dX0_farthest_49 (lv_at hl 5 rfl) ?_
        refine ck_cV (As := [.int (nI i)]) (rest := []) ⟨hx, hb, hml, hown, hts⟩ (c_X0_middle l D h a1 a2 c1 c2 lo hi hd ow off go i hlt_i) (cwV 1 hts gX0_farthest_X0_middle rfl rfl rfl (by decide +kernel) ⟨Nat.le_of_ble_eq_true rfl, Nat.le_of_ble_eq_true rfl⟩) hP hK (va_recv hK hP (ci := 0) (q0 := 0) rfl rfl) rfl hl.1 rfl (Nat.le_of_ble_eq_true rfl) dX0_farthest_51 ⟨Nat.le_of_ble_eq_true rfl, Nat.le_of_ble_eq_true rfl⟩ ?_
        refine lv_lload_n hx hb dX0_farthest_54 rfl (lv_at hl 2 rfl) ?_
        refine lv_lsub hx hb dX0_farthest_55 ?_
        refine ck_mabs hx hb (hml.trans hl.1.symm) hown (hts (.methodLink RX0 133 Lib.MathLoose.abs_long.x) (by decide +kernel)) (hts (.static Lib.MathLoose.abs_long.x) (by decide +kernel)) (hts (.initialized "java/lang/Math") (by decide +kernel)) (hts (.code Lib.MathLoose.abs_long.x Lib.MathLoose.abs_long.code 2 (some .long)) (by decide +kernel)) (Nat.le_of_ble_eq_true rfl) (Nat.le_of_ble_eq_true rfl) (Nat.le_of_ble_eq_true rfl) (Nat.le_of_ble_eq_true rfl) dX0_farthest_56 ?_
        refine lv_lstore (lv' := [(4, .long (ck_abs ((ck_mid lo hi i) - (ck_mm set lo hi)))), (0, .ref h), (1, .int set), (2, .long (ck_mm set lo hi)), (6, .int (ck_fm set lo hi (ck_mm set lo hi) i).2), (7, .int (nI i))]) hx hb dX0_farthest_59 hl (by decide) rfl (fun ls hl => ?_)
        refine lv_iload hx hb dX0_farthest_61 (lv_at hl 5 rfl) ?_
        refine lv_istore (lv' := [(6, .int (nI i)), (4, .long (ck_abs ((ck_mid lo hi i) - (ck_mm set lo hi)))), (0, .ref h), (1, .int set), (2, .long (ck_mm set lo hi)), (7, .int (nI i))]) hx hb dX0_farthest_63 hl (by decide) rfl (fun ls hl => ?_)
        refine lv_iinc (v := (nI (i + 1))) (lv' := [(7, .int (nI (i + 1))), (6, .int (nI i)), (4, .long (ck_abs ((ck_mid lo hi i) - (ck_mm set lo hi)))), (0, .ref h), (1, .int set), (2, .long (ck_mm set lo hi))]) hx hb dX0_farthest_65 hl (k := 5) rfl (nI_1 i) (by decide) rfl (fun ls hl => ?_)
        refine lv_goto (tgt := 15) hx hb dX0_farthest_68 (by decide) ?_
        refine ih_i ls hlt_i (trivial) ?_
        have hq : lv_has ls 8 [(0, .ref h), (1, .int set), (2, .long (ck_mm set lo hi)), (4, .long (ck_abs ((ck_mid lo hi i) - (ck_mm set lo hi)))), (6, .int (nI i)), (7, .int (nI (i + 1)))] := lv_sub hl [3, 4, 5, 2, 1, 0] rfl
        have eq0 : (ck_abs ((ck_mid lo hi i) - (ck_mm set lo hi))) = (ck_fm set lo hi (ck_mm set lo hi) (i + 1)).1 := by simp [ck_fm, c_2, c_3]
        have eq1 : (nI i) = (ck_fm set lo hi (ck_mm set lo hi) (i + 1)).2 := by simp [ck_fm, c_2, c_3]
        exact lv_eqq hq (by rw [← eq0, ← eq1])

set_option maxHeartbeats 4000000 in
set_option maxRecDepth 100000 in
theorem c_X0_leftOf (l : Launch) (D : va_G) (h a1 a2 : Nat) (c1 c2 : ClassId) (lo hi : Nat → Int64) (hd : Int32) (ow off go : Int64) (k : Int32)  : Met l yX0_leftOf wsX0_leftOf { frames := 5, cells := 0, slots := 0, locals := 118 } (va_Pc [.ref h, .int k] (ck_B D (xW h a1 a2 c1 c2 lo hi hd ow off go) (xT c1 c2))) (ck_R (.int (ck_lf hd lo hi k 24))) 0 0 (fun _ => False) := by
  refine Met.ofW (cc := cX0_leftOf) (maxL := 4) (ret := (some .int)) (by decide) rfl ?_
  intro p e s m args below meth c s₁ B hml hv
  obtain ⟨rfl, hP, hK⟩ := hv
  have hx := B.exec
  have hb := B.bytes
  have hr := B.returns
  have hts := atoms_spec (ws := wsX0_leftOf) B.pre
  have hown : s.vm.findClass RX0 = some m.cls := findClass_of_methodNamed B.named
  have hlocks := B.notSynchronized
  have hin : ∀ w ∈ wsX00, w ∈ wsX0_leftOf := fun _ h => List.mem_cons_of_mem _ (List.mem_append_right _ h)
  have hl := lv_entry ([.ref h, .int k]) (n := 4) (Nat.le_of_ble_eq_true rfl)
  rw [lg_entry_eq]
  generalize (lg_sl ([.ref h, .int k]) ++ List.replicate (4 - (lg_sl ([.ref h, .int k])).length) Slot.unset).toArray = ls at hl ⊢
  have hl : lv_has ls 4 [(0, .ref h), (1, .int k)] := hl
  refine lv_aload_n hx hb dX0_leftOf_0 rfl (lv_at hl 0 rfl) ?_
  refine va_get (D := D) (ci := 0) (v := .int hd) (C := RX0) (T := TX0) (N := 6) hx hb hts hin hown hK hP 0 rfl rfl 2 (by decide) (hts (.fieldLink RX0 16 "ClockDesk" "held" "I") (by decide +kernel)) (fun _ h9 => h9) rfl dX0_leftOf_1 ?_
  refine lv_istore_n (lv' := [(2, .int hd), (0, .ref h), (1, .int k)]) hx hb dX0_leftOf_4 rfl hl (by decide) rfl (fun ls hl => ?_)
  refine lv_iconst (v := 0) hx hb dX0_leftOf_5 (by decide) ?_
  refine lv_istore_n (lv' := [(3, .int 0), (2, .int hd), (0, .ref h), (1, .int k)]) hx hb dX0_leftOf_6 rfl hl (by decide) rfl (fun ls hl => ?_)
  refine ck_loop (G := fun ls => W p l e _ s m _ below meth c _ _ _ _ _ (F0 m 7 ls [])) (nL := 4) (24) (fun i => True) (fun i => [(0, .ref h), (1, .int k), (2, .int (ck_lf hd lo hi k i)), (3, .int (nI i))]) (fun i hle_i hj_i ih_i ls hl => ?_) ls (trivial) ?_
  rotate_left
  · have hq : lv_has ls 4 [(0, .ref h), (1, .int k), (2, .int hd), (3, .int 0)] := lv_sub hl [2, 3, 1, 0] rfl
    exact hq
  have hl : lv_has ls 4 [(0, .ref h), (1, .int k), (2, .int (ck_lf hd lo hi k i)), (3, .int (nI i))] := hl
  refine lv_iload_n hx hb dX0_leftOf_7 rfl (lv_at hl 3 rfl) ?_
  refine lv_bipush (v := 24) hx hb dX0_leftOf_8 (by decide) ?_
  refine lv_icmp_ge (tgt := 37) hx hb dX0_leftOf_10 (by decide) (fun c_1 => ?_) (fun c_1 => ?_)
  · have heq_i : i = 24 := ck_eqN hle_i c_1
    subst heq_i
    have hl : lv_has ls 4 [(0, .ref h), (1, .int k), (2, .int (ck_lf hd lo hi k 24)), (3, .int (nI 24))] := hl
    refine lv_iload_n hx hb dX0_leftOf_37 rfl (lv_at hl 2 rfl) ?_
    have hres : (ck_lf hd lo hi k 24) = (ck_lf hd lo hi k 24) := by rfl
    exact W.iret (v := (ck_lf hd lo hi k 24)) hx hb hr (fun t ht _ => ⟨congrArg (fun z => Outcome.returned (some (Value.int z))) hres, ht⟩) (fun _ h => nomatch h) dX0_leftOf_38
  · have hlt_i : i < 24 := ck_ltN hle_i c_1
    refine lv_iload_n hx hb dX0_leftOf_13 rfl (lv_at hl 2 rfl) ?_
    refine ck_cS (As := [.int (ck_lf hd lo hi k i)]) (rest := []) ⟨hx, hb, hml, hown, hts⟩ (c_J6_bitCount_0f7a4 l (ck_lf hd lo hi k i)) (va_cwS 1 hts gX0_leftOf_J6_bitCount_0f7a4 rfl rfl rfl (by decide +kernel) ⟨Nat.le_of_ble_eq_true rfl, Nat.le_of_ble_eq_true rfl⟩) rfl hl.1 rfl (Nat.le_of_ble_eq_true rfl) dX0_leftOf_14 ⟨Nat.le_of_ble_eq_true rfl, Nat.le_of_ble_eq_true rfl⟩ ?_
    refine lv_iload_n hx hb dX0_leftOf_17 rfl (lv_at hl 1 rfl) ?_
    refine lv_icmp_le (tgt := 37) hx hb dX0_leftOf_18 (by decide) (fun c_2 => ?_) (fun c_2 => ?_)
    · refine lv_iload_n hx hb dX0_leftOf_37 rfl (lv_at hl 2 rfl) ?_
      have hres : (ck_lf hd lo hi k i) = (ck_lf hd lo hi k 24) := by exact ck_lf_stop c_2 hle_i
      exact W.iret (v := (ck_lf hd lo hi k i)) hx hb hr (fun t ht _ => ⟨congrArg (fun z => Outcome.returned (some (Value.int z))) hres, ht⟩) (fun _ h => nomatch h) dX0_leftOf_38
    · refine lv_iload_n hx hb dX0_leftOf_21 rfl (lv_at hl 2 rfl) ?_
      refine lv_aload_n hx hb dX0_leftOf_22 rfl (lv_at hl 0 rfl) ?_
      refine lv_iload_n hx hb dX0_leftOf_23 rfl (lv_at hl 2 rfl) ?_
      refine ck_cV (As := [.int (ck_lf hd lo hi k i)]) (rest := [.int (ck_lf hd lo hi k i)]) ⟨hx, hb, hml, hown, hts⟩ (c_X0_farthest l D h a1 a2 c1 c2 lo hi hd ow off go (ck_lf hd lo hi k i)) (cwV 1 hts gX0_leftOf_X0_farthest rfl rfl rfl (by decide +kernel) ⟨Nat.le_of_ble_eq_true rfl, Nat.le_of_ble_eq_true rfl⟩) hP hK (va_recv hK hP (ci := 0) (q0 := 0) rfl rfl) rfl hl.1 rfl (Nat.le_of_ble_eq_true rfl) dX0_leftOf_24 ⟨Nat.le_of_ble_eq_true rfl, Nat.le_of_ble_eq_true rfl⟩ ?_
      refine ck_cS (As := [.int (ck_lf hd lo hi k i), .int (ck_far (ck_lf hd lo hi k i) lo hi)]) (rest := []) ⟨hx, hb, hml, hown, hts⟩ (c_X0_without l (ck_lf hd lo hi k i) (ck_far (ck_lf hd lo hi k i) lo hi)) (va_cwS 2 hts gX0_leftOf_X0_without rfl rfl rfl (by decide +kernel) ⟨Nat.le_of_ble_eq_true rfl, Nat.le_of_ble_eq_true rfl⟩) rfl hl.1 rfl (Nat.le_of_ble_eq_true rfl) dX0_leftOf_27 ⟨Nat.le_of_ble_eq_true rfl, Nat.le_of_ble_eq_true rfl⟩ ?_
      refine lv_istore_n (lv' := [(2, .int (ck_wo (ck_lf hd lo hi k i) (ck_far (ck_lf hd lo hi k i) lo hi))), (0, .ref h), (1, .int k), (3, .int (nI i))]) hx hb dX0_leftOf_30 rfl hl (by decide) rfl (fun ls hl => ?_)
      refine lv_iinc (v := (nI (i + 1))) (lv' := [(3, .int (nI (i + 1))), (2, .int (ck_wo (ck_lf hd lo hi k i) (ck_far (ck_lf hd lo hi k i) lo hi))), (0, .ref h), (1, .int k)]) hx hb dX0_leftOf_31 hl (k := 3) rfl (nI_1 i) (by decide) rfl (fun ls hl => ?_)
      refine lv_goto (tgt := 7) hx hb dX0_leftOf_34 (by decide) ?_
      refine ih_i ls hlt_i (trivial) ?_
      have hq : lv_has ls 4 [(0, .ref h), (1, .int k), (2, .int (ck_wo (ck_lf hd lo hi k i) (ck_far (ck_lf hd lo hi k i) lo hi))), (3, .int (nI (i + 1)))] := lv_sub hl [2, 3, 1, 0] rfl
      have eq0 : (ck_wo (ck_lf hd lo hi k i) (ck_far (ck_lf hd lo hi k i) lo hi)) = (ck_lf hd lo hi k (i + 1)) := by simp [ck_lf, c_2]
      exact lv_eqq hq (by rw [← eq0])

set_option maxHeartbeats 4000000 in
set_option maxRecDepth 100000 in
theorem c_X0_mean (l : Launch) (D : va_G) (h a1 a2 : Nat) (c1 c2 : ClassId) (lo hi : Nat → Int64) (hd : Int32) (ow off go : Int64) (lm : Int64) (pt : Int32)  : Met l yX0_mean wsX0_mean { frames := 5, cells := 0, slots := 0, locals := 115 } (va_Pc [.ref h, .long lm, .int pt] (ck_B D (xW h a1 a2 c1 c2 lo hi hd ow off go) (xT c1 c2))) (ck_R (.long (ck_mn hd lo hi lm pt))) 0 0 (fun _ => False) := by
  refine Met.ofW (cc := cX0_mean) (maxL := 5) (ret := (some .long)) (by decide) rfl ?_
  intro p e s m args below meth c s₁ B hml hv
  obtain ⟨rfl, hP, hK⟩ := hv
  have hx := B.exec
  have hb := B.bytes
  have hr := B.returns
  have hts := atoms_spec (ws := wsX0_mean) B.pre
  have hown : s.vm.findClass RX0 = some m.cls := findClass_of_methodNamed B.named
  have hlocks := B.notSynchronized
  have hin : ∀ w ∈ wsX00, w ∈ wsX0_mean := fun _ h => List.mem_cons_of_mem _ (List.mem_append_right _ h)
  have hl := lv_entry ([.ref h, .long lm, .int pt]) (n := 5) (Nat.le_of_ble_eq_true rfl)
  rw [lg_entry_eq]
  generalize (lg_sl ([.ref h, .long lm, .int pt]) ++ List.replicate (5 - (lg_sl ([.ref h, .long lm, .int pt])).length) Slot.unset).toArray = ls at hl ⊢
  have hl : lv_has ls 5 [(0, .ref h), (1, .long lm), (3, .int pt)] := hl
  refine lv_aload_n hx hb dX0_mean_0 rfl (lv_at hl 0 rfl) ?_
  refine va_get (D := D) (ci := 0) (v := .int hd) (C := RX0) (T := TX0) (N := 6) hx hb hts hin hown hK hP 0 rfl rfl 2 (by decide) (hts (.fieldLink RX0 16 "ClockDesk" "held" "I") (by decide +kernel)) (fun _ h9 => h9) rfl dX0_mean_1 ?_
  refine lv_if_eq (tgt := 20) hx hb dX0_mean_4 (by decide) (fun c_1 => ?_) (fun c_1 => ?_)
  · refine lv_ldc2 (v := ck_NO) hx hb hown (hts (.constantLong RX0 46 ck_NO) (by decide +kernel)) dX0_mean_20 ?_
    have hres : ck_NO = (ck_mn hd lo hi lm pt) := by first | (simp [ck_mn, c_1]; done) | simp [ck_mn, ck_zo, c_1]
    exact W.lret (v := ck_NO) hx hb hr (fun t ht _ => ⟨congrArg (fun z => Outcome.returned (some (Value.long z))) hres, ht⟩) (fun _ h => nomatch h) dX0_mean_23
  · refine lv_lload_n hx hb dX0_mean_7 rfl (lv_at hl 1 rfl) ?_
    refine lv_lconst (v := 0) hx hb dX0_mean_8 (by decide) ?_
    refine W.lcmp hx hb dX0_mean_9 ?_
    refine lv_if_lt (tgt := 20) hx hb dX0_mean_10 (by decide) (fun c_2 => ?_) (fun c_2 => ?_)
    · rw [lg_cmp_lt] at c_2
      refine lv_ldc2 (v := ck_NO) hx hb hown (hts (.constantLong RX0 46 ck_NO) (by decide +kernel)) dX0_mean_20 ?_
      have hres : ck_NO = (ck_mn hd lo hi lm pt) := by first | (simp [ck_mn, c_1, c_2]; done) | simp [ck_mn, ck_zo, c_1, c_2]
      exact W.lret (v := ck_NO) hx hb hr (fun t ht _ => ⟨congrArg (fun z => Outcome.returned (some (Value.long z))) hres, ht⟩) (fun _ h => nomatch h) dX0_mean_23
    · rw [lg_cmp_lt] at c_2
      refine lv_iload_n hx hb dX0_mean_13 rfl (lv_at hl 2 rfl) ?_
      refine ck_cS (As := [.int pt]) (rest := []) ⟨hx, hb, hml, hown, hts⟩ (c_X0_isZeroOrOne l pt) (va_cwS 1 hts gX0_mean_X0_isZeroOrOne rfl rfl rfl (by decide +kernel) ⟨Nat.le_of_ble_eq_true rfl, Nat.le_of_ble_eq_true rfl⟩) rfl hl.1 rfl (Nat.le_of_ble_eq_true rfl) dX0_mean_14 ⟨Nat.le_of_ble_eq_true rfl, Nat.le_of_ble_eq_true rfl⟩ ?_
      refine lv_if_ne (tgt := 24) hx hb dX0_mean_17 (by decide) (fun c_3 => ?_) (fun c_3 => ?_)
      · have c_3 := ck_bt c_3
        refine lv_aload_n hx hb dX0_mean_24 rfl (lv_at hl 0 rfl) ?_
        refine lv_aload_n hx hb dX0_mean_25 rfl (lv_at hl 0 rfl) ?_
        refine ck_cV (As := []) (rest := [.ref h]) ⟨hx, hb, hml, hown, hts⟩ (c_X0_medianMiddle l D h a1 a2 c1 c2 lo hi hd ow off go ) (cwV 0 hts gX0_mean_X0_medianMiddle rfl rfl rfl (by decide +kernel) ⟨Nat.le_of_ble_eq_true rfl, Nat.le_of_ble_eq_true rfl⟩) hP hK (va_recv hK hP (ci := 0) (q0 := 0) rfl rfl) rfl hl.1 rfl (Nat.le_of_ble_eq_true rfl) dX0_mean_26 ⟨Nat.le_of_ble_eq_true rfl, Nat.le_of_ble_eq_true rfl⟩ ?_
        refine lv_lload_n hx hb dX0_mean_29 rfl (lv_at hl 1 rfl) ?_
        refine ck_cV (As := [.long (ck_md hd lo hi), .long lm]) (rest := []) ⟨hx, hb, hml, hown, hts⟩ (c_X0_nearTo l D h a1 a2 c1 c2 lo hi hd ow off go (ck_md hd lo hi) lm) (cwV 2 hts gX0_mean_X0_nearTo rfl rfl rfl (by decide +kernel) ⟨Nat.le_of_ble_eq_true rfl, Nat.le_of_ble_eq_true rfl⟩) hP hK (va_recv hK hP (ci := 0) (q0 := 0) rfl rfl) rfl hl.1 rfl (Nat.le_of_ble_eq_true rfl) dX0_mean_30 ⟨Nat.le_of_ble_eq_true rfl, Nat.le_of_ble_eq_true rfl⟩ ?_
        refine lv_istore (lv' := [(4, .int (ck_nr hd lo hi (ck_md hd lo hi) lm 24)), (0, .ref h), (1, .long lm), (3, .int pt)]) hx hb dX0_mean_33 hl (by decide) rfl (fun ls hl => ?_)
        refine lv_iload_n hx hb dX0_mean_35 rfl (lv_at hl 3 rfl) ?_
        refine lv_if_ne (tgt := 48) hx hb dX0_mean_36 (by decide) (fun c_4 => ?_) (fun c_4 => ?_)
        · refine lv_iload hx hb dX0_mean_48 (lv_at hl 0 rfl) ?_
          refine ck_cS (As := [.int (ck_nr hd lo hi (ck_md hd lo hi) lm 24)]) (rest := []) ⟨hx, hb, hml, hown, hts⟩ (c_J6_bitCount_0f7a4 l (ck_nr hd lo hi (ck_md hd lo hi) lm 24)) (va_cwS 1 hts gX0_mean_J6_bitCount_0f7a4 rfl rfl rfl (by decide +kernel) ⟨Nat.le_of_ble_eq_true rfl, Nat.le_of_ble_eq_true rfl⟩) rfl hl.1 rfl (Nat.le_of_ble_eq_true rfl) dX0_mean_50 ⟨Nat.le_of_ble_eq_true rfl, Nat.le_of_ble_eq_true rfl⟩ ?_
          refine lv_i2l (v := (Int32.toInt64 (ck_ns (ck_nr hd lo hi (ck_md hd lo hi) lm 24)))) hx hb dX0_mean_53 rfl ?_
          have hres : (Int32.toInt64 (ck_ns (ck_nr hd lo hi (ck_md hd lo hi) lm 24))) = (ck_mn hd lo hi lm pt) := by first | (simp [ck_mn, c_1, c_2, c_3, c_4]; done) | simp [ck_mn, ck_zo, c_1, c_2, c_3, c_4]
          exact W.lret (v := (Int32.toInt64 (ck_ns (ck_nr hd lo hi (ck_md hd lo hi) lm 24)))) hx hb hr (fun t ht _ => ⟨congrArg (fun z => Outcome.returned (some (Value.long z))) hres, ht⟩) (fun _ h => nomatch h) dX0_mean_54
        · refine lv_aload_n hx hb dX0_mean_39 rfl (lv_at hl 1 rfl) ?_
          refine lv_iload hx hb dX0_mean_40 (lv_at hl 0 rfl) ?_
          refine ck_cV (As := [.int (ck_nr hd lo hi (ck_md hd lo hi) lm 24)]) (rest := []) ⟨hx, hb, hml, hown, hts⟩ (c_X0_meanMiddle l D h a1 a2 c1 c2 lo hi hd ow off go (ck_nr hd lo hi (ck_md hd lo hi) lm 24)) (cwV 1 hts gX0_mean_X0_meanMiddle rfl rfl rfl (by decide +kernel) ⟨Nat.le_of_ble_eq_true rfl, Nat.le_of_ble_eq_true rfl⟩) hP hK (va_recv hK hP (ci := 0) (q0 := 0) rfl rfl) rfl hl.1 rfl (Nat.le_of_ble_eq_true rfl) dX0_mean_42 ⟨Nat.le_of_ble_eq_true rfl, Nat.le_of_ble_eq_true rfl⟩ ?_
          refine lv_goto (tgt := 54) hx hb dX0_mean_45 (by decide) ?_
          have hres : (ck_mm (ck_nr hd lo hi (ck_md hd lo hi) lm 24) lo hi) = (ck_mn hd lo hi lm pt) := by first | (simp [ck_mn, c_1, c_2, c_3, c_4]; done) | simp [ck_mn, ck_zo, c_1, c_2, c_3, c_4]
          exact W.lret (v := (ck_mm (ck_nr hd lo hi (ck_md hd lo hi) lm 24) lo hi)) hx hb hr (fun t ht _ => ⟨congrArg (fun z => Outcome.returned (some (Value.long z))) hres, ht⟩) (fun _ h => nomatch h) dX0_mean_54
      · have c_3 := ck_bf c_3
        refine lv_ldc2 (v := ck_NO) hx hb hown (hts (.constantLong RX0 46 ck_NO) (by decide +kernel)) dX0_mean_20 ?_
        have hres : ck_NO = (ck_mn hd lo hi lm pt) := by first | (simp [ck_mn, c_1, c_2, c_3]; done) | simp [ck_mn, ck_zo, c_1, c_2, c_3]
        exact W.lret (v := ck_NO) hx hb hr (fun t ht _ => ⟨congrArg (fun z => Outcome.returned (some (Value.long z))) hres, ht⟩) (fun _ h => nomatch h) dX0_mean_23

set_option maxHeartbeats 4000000 in
set_option maxRecDepth 100000 in
theorem c_X0_survivors (l : Launch) (D : va_G) (h a1 a2 : Nat) (c1 c2 : ClassId) (lo hi : Nat → Int64) (hd : Int32) (ow off go : Int64) (k : Int32)  : Met l yX0_survivors wsX0_survivors { frames := 6, cells := 0, slots := 0, locals := 141 } (va_Pc [.ref h, .int k] (ck_B D (xW h a1 a2 c1 c2 lo hi hd ow off go) (xT c1 c2))) (ck_R (.int (ck_sv hd lo hi k))) 0 0 (fun _ => False) := by
  refine Met.ofW (cc := cX0_survivors) (maxL := 2) (ret := (some .int)) (by decide) rfl ?_
  intro p e s m args below meth c s₁ B hml hv
  obtain ⟨rfl, hP, hK⟩ := hv
  have hx := B.exec
  have hb := B.bytes
  have hr := B.returns
  have hts := atoms_spec (ws := wsX0_survivors) B.pre
  have hown : s.vm.findClass RX0 = some m.cls := findClass_of_methodNamed B.named
  have hlocks := B.notSynchronized
  have hin : ∀ w ∈ wsX00, w ∈ wsX0_survivors := fun _ h => List.mem_cons_of_mem _ (List.mem_append_right _ h)
  have hl := lv_entry ([.ref h, .int k]) (n := 2) (Nat.le_of_ble_eq_true rfl)
  rw [lg_entry_eq]
  generalize (lg_sl ([.ref h, .int k]) ++ List.replicate (2 - (lg_sl ([.ref h, .int k])).length) Slot.unset).toArray = ls at hl ⊢
  have hl : lv_has ls 2 [(0, .ref h), (1, .int k)] := hl
  refine lv_iload_n hx hb dX0_survivors_0 rfl (lv_at hl 1 rfl) ?_
  refine ck_cS (As := [.int k]) (rest := []) ⟨hx, hb, hml, hown, hts⟩ (c_X0_isCount l k) (va_cwS 1 hts gX0_survivors_X0_isCount rfl rfl rfl (by decide +kernel) ⟨Nat.le_of_ble_eq_true rfl, Nat.le_of_ble_eq_true rfl⟩) rfl hl.1 rfl (Nat.le_of_ble_eq_true rfl) dX0_survivors_1 ⟨Nat.le_of_ble_eq_true rfl, Nat.le_of_ble_eq_true rfl⟩ ?_
  refine lv_if_eq (tgt := 15) hx hb dX0_survivors_4 (by decide) (fun c_1 => ?_) (fun c_1 => ?_)
  · have c_1 := ck_bf c_1
    refine lv_iconst (v := (-1)) hx hb dX0_survivors_15 (by decide) ?_
    have hres : (-1) = (ck_sv hd lo hi k) := by simp [ck_sv, c_1]
    exact W.iret (v := (-1)) hx hb hr (fun t ht _ => ⟨congrArg (fun z => Outcome.returned (some (Value.int z))) hres, ht⟩) (fun _ h => nomatch h) dX0_survivors_16
  · have c_1 := ck_bt c_1
    refine lv_aload_n hx hb dX0_survivors_7 rfl (lv_at hl 0 rfl) ?_
    refine lv_iload_n hx hb dX0_survivors_8 rfl (lv_at hl 1 rfl) ?_
    refine ck_cV (As := [.int k]) (rest := []) ⟨hx, hb, hml, hown, hts⟩ (c_X0_leftOf l D h a1 a2 c1 c2 lo hi hd ow off go k) (cwV 1 hts gX0_survivors_X0_leftOf rfl rfl rfl (by decide +kernel) ⟨Nat.le_of_ble_eq_true rfl, Nat.le_of_ble_eq_true rfl⟩) hP hK (va_recv hK hP (ci := 0) (q0 := 0) rfl rfl) rfl hl.1 rfl (Nat.le_of_ble_eq_true rfl) dX0_survivors_9 ⟨Nat.le_of_ble_eq_true rfl, Nat.le_of_ble_eq_true rfl⟩ ?_
    refine lv_goto (tgt := 16) hx hb dX0_survivors_12 (by decide) ?_
    have hres : (ck_lf hd lo hi k 24) = (ck_sv hd lo hi k) := by simp [ck_sv, c_1]
    exact W.iret (v := (ck_lf hd lo hi k 24)) hx hb hr (fun t ht _ => ⟨congrArg (fun z => Outcome.returned (some (Value.int z))) hres, ht⟩) (fun _ h => nomatch h) dX0_survivors_16

set_option maxHeartbeats 4000000 in
set_option maxRecDepth 100000 in
theorem c_X0_rank (l : Launch) (D : va_G) (h a1 a2 : Nat) (c1 c2 : ClassId) (lo hi : Nat → Int64) (hd : Int32) (ow off go : Int64) (x : Int32) (k : Int32)  : Met l yX0_rank wsX0_rank { frames := 6, cells := 0, slots := 0, locals := 141 } (va_Pc [.ref h, .int x, .int k] (ck_B D (xW h a1 a2 c1 c2 lo hi hd ow off go) (xT c1 c2))) (ck_R (.int (ck_rk hd lo hi x k))) 0 0 (fun _ => False) := by
  refine Met.ofW (cc := cX0_rank) (maxL := 4) (ret := (some .int)) (by decide) rfl ?_
  intro p e s m args below meth c s₁ B hml hv
  obtain ⟨rfl, hP, hK⟩ := hv
  have hx := B.exec
  have hb := B.bytes
  have hr := B.returns
  have hts := atoms_spec (ws := wsX0_rank) B.pre
  have hown : s.vm.findClass RX0 = some m.cls := findClass_of_methodNamed B.named
  have hlocks := B.notSynchronized
  have hin : ∀ w ∈ wsX00, w ∈ wsX0_rank := fun _ h => List.mem_cons_of_mem _ (List.mem_append_right _ h)
  have hl := lv_entry ([.ref h, .int x, .int k]) (n := 4) (Nat.le_of_ble_eq_true rfl)
  rw [lg_entry_eq]
  generalize (lg_sl ([.ref h, .int x, .int k]) ++ List.replicate (4 - (lg_sl ([.ref h, .int x, .int k])).length) Slot.unset).toArray = ls at hl ⊢
  have hl : lv_has ls 4 [(0, .ref h), (1, .int x), (2, .int k)] := hl
  refine lv_iload_n hx hb dX0_rank_0 rfl (lv_at hl 2 rfl) ?_
  refine ck_cS (As := [.int k]) (rest := []) ⟨hx, hb, hml, hown, hts⟩ (c_X0_isCount l k) (va_cwS 1 hts gX0_rank_X0_isCount rfl rfl rfl (by decide +kernel) ⟨Nat.le_of_ble_eq_true rfl, Nat.le_of_ble_eq_true rfl⟩) rfl hl.1 rfl (Nat.le_of_ble_eq_true rfl) dX0_rank_1 ⟨Nat.le_of_ble_eq_true rfl, Nat.le_of_ble_eq_true rfl⟩ ?_
  refine lv_if_ne (tgt := 9) hx hb dX0_rank_4 (by decide) (fun c_1 => ?_) (fun c_1 => ?_)
  · have c_1 := ck_bt c_1
    refine lv_aload_n hx hb dX0_rank_9 rfl (lv_at hl 0 rfl) ?_
    refine lv_iload_n hx hb dX0_rank_10 rfl (lv_at hl 2 rfl) ?_
    refine ck_cV (As := [.int k]) (rest := []) ⟨hx, hb, hml, hown, hts⟩ (c_X0_leftOf l D h a1 a2 c1 c2 lo hi hd ow off go k) (cwV 1 hts gX0_rank_X0_leftOf rfl rfl rfl (by decide +kernel) ⟨Nat.le_of_ble_eq_true rfl, Nat.le_of_ble_eq_true rfl⟩) hP hK (va_recv hK hP (ci := 0) (q0 := 0) rfl rfl) rfl hl.1 rfl (Nat.le_of_ble_eq_true rfl) dX0_rank_11 ⟨Nat.le_of_ble_eq_true rfl, Nat.le_of_ble_eq_true rfl⟩ ?_
    refine lv_istore_n (lv' := [(3, .int (ck_lf hd lo hi k 24)), (0, .ref h), (1, .int x), (2, .int k)]) hx hb dX0_rank_14 rfl hl (by decide) rfl (fun ls hl => ?_)
    refine lv_iload_n hx hb dX0_rank_15 rfl (lv_at hl 0 rfl) ?_
    refine lv_iload_n hx hb dX0_rank_16 rfl (lv_at hl 2 rfl) ?_
    refine ck_cS (As := [.int (ck_lf hd lo hi k 24), .int x]) (rest := []) ⟨hx, hb, hml, hown, hts⟩ (c_X0_isIn l (ck_lf hd lo hi k 24) x) (va_cwS 2 hts gX0_rank_X0_isIn rfl rfl rfl (by decide +kernel) ⟨Nat.le_of_ble_eq_true rfl, Nat.le_of_ble_eq_true rfl⟩) rfl hl.1 rfl (Nat.le_of_ble_eq_true rfl) dX0_rank_17 ⟨Nat.le_of_ble_eq_true rfl, Nat.le_of_ble_eq_true rfl⟩ ?_
    refine lv_if_eq (tgt := 32) hx hb dX0_rank_20 (by decide) (fun c_2 => ?_) (fun c_2 => ?_)
    · have c_2 := ck_bf c_2
      refine lv_iconst (v := (-1)) hx hb dX0_rank_32 (by decide) ?_
      have hres : (-1) = (ck_rk hd lo hi x k) := by simp [ck_rk, c_1, c_2]
      exact W.iret (v := (-1)) hx hb hr (fun t ht _ => ⟨congrArg (fun z => Outcome.returned (some (Value.int z))) hres, ht⟩) (fun _ h => nomatch h) dX0_rank_33
    · have c_2 := ck_bt c_2
      obtain ⟨jx, hjx, rfl⟩ := ck_inE c_2
      have hcjx : (nI jx).toNatClampNeg = jx := nI_clamp (by omega)
      have hnjx := c_2
      rw [ck_inN _ hjx] at hnjx
      refine lv_aload_n hx hb dX0_rank_23 rfl (lv_at hl 1 rfl) ?_
      refine lv_iload_n hx hb dX0_rank_24 rfl (lv_at hl 2 rfl) ?_
      refine lv_iload_n hx hb dX0_rank_25 rfl (lv_at hl 0 rfl) ?_
      refine ck_cV (As := [.int (nI jx), .int (ck_lf hd lo hi k 24)]) (rest := []) ⟨hx, hb, hml, hown, hts⟩ (c_X0_place l D h a1 a2 c1 c2 lo hi hd ow off go (ck_lf hd lo hi k 24) jx hjx) (cwV 2 hts gX0_rank_X0_place rfl rfl rfl (by decide +kernel) ⟨Nat.le_of_ble_eq_true rfl, Nat.le_of_ble_eq_true rfl⟩) hP hK (va_recv hK hP (ci := 0) (q0 := 0) rfl rfl) rfl hl.1 rfl (Nat.le_of_ble_eq_true rfl) dX0_rank_26 ⟨Nat.le_of_ble_eq_true rfl, Nat.le_of_ble_eq_true rfl⟩ ?_
      refine lv_goto (tgt := 33) hx hb dX0_rank_29 (by decide) ?_
      have hres : (ck_pl (bt (ck_lf hd lo hi k 24)) lo hi jx) = (ck_rk hd lo hi (nI jx) k) := by simp [ck_rk, c_1, c_2, hcjx]
      exact W.iret (v := (ck_pl (bt (ck_lf hd lo hi k 24)) lo hi jx)) hx hb hr (fun t ht _ => ⟨congrArg (fun z => Outcome.returned (some (Value.int z))) hres, ht⟩) (fun _ h => nomatch h) dX0_rank_33
  · have c_1 := ck_bf c_1
    refine lv_iconst (v := (-1)) hx hb dX0_rank_7 (by decide) ?_
    have hres : (-1) = (ck_rk hd lo hi x k) := by simp [ck_rk, c_1]
    exact W.iret (v := (-1)) hx hb hr (fun t ht _ => ⟨congrArg (fun z => Outcome.returned (some (Value.int z))) hres, ht⟩) (fun _ h => nomatch h) dX0_rank_8

set_option maxHeartbeats 4000000 in
set_option maxRecDepth 100000 in
theorem c_X0_read (l : Launch) (D : va_G) (h a1 a2 : Nat) (c1 c2 : ClassId) (lo hi : Nat → Int64) (hd : Int32) (ow off go : Int64)   : Met l yX0_read wsX0_read { frames := 0, cells := 0, slots := 0, locals := 0 } (va_Pc [.ref h] (ck_B D (xW h a1 a2 c1 c2 lo hi hd ow off go) (xT c1 c2))) (ck_R (.long (ow + off))) 0 0 (fun _ => False) := by
  refine Met.ofW (cc := cX0_read) (maxL := 1) (ret := (some .long)) (by decide) rfl ?_
  intro p e s m args below meth c s₁ B hml hv
  obtain ⟨rfl, hP, hK⟩ := hv
  have hx := B.exec
  have hb := B.bytes
  have hr := B.returns
  have hts := atoms_spec (ws := wsX0_read) B.pre
  have hown : s.vm.findClass RX0 = some m.cls := findClass_of_methodNamed B.named
  have hlocks := B.notSynchronized
  have hin : ∀ w ∈ wsX00, w ∈ wsX0_read := fun _ h => List.mem_cons_of_mem _ (List.mem_append_right _ h)
  have hl := lv_entry ([.ref h]) (n := 1) (Nat.le_of_ble_eq_true rfl)
  rw [lg_entry_eq]
  generalize (lg_sl ([.ref h]) ++ List.replicate (1 - (lg_sl ([.ref h])).length) Slot.unset).toArray = ls at hl ⊢
  have hl : lv_has ls 1 [(0, .ref h)] := hl
  refine lv_aload_n hx hb dX0_read_0 rfl (lv_at hl 0 rfl) ?_
  refine va_get (D := D) (ci := 0) (v := .long ow) (C := RX0) (T := TX0) (N := 6) hx hb hts hin hown hK hP 0 rfl rfl 3 (by decide) (hts (.fieldLink RX0 20 "ClockDesk" "ownTime" "J") (by decide +kernel)) (fun _ h9 => h9) rfl dX0_read_1 ?_
  refine lv_aload_n hx hb dX0_read_4 rfl (lv_at hl 0 rfl) ?_
  refine va_get (D := D) (ci := 0) (v := .long off) (C := RX0) (T := TX0) (N := 6) hx hb hts hin hown hK hP 0 rfl rfl 4 (by decide) (hts (.fieldLink RX0 24 "ClockDesk" "clockOffset" "J") (by decide +kernel)) (fun _ h9 => h9) rfl dX0_read_5 ?_
  refine lv_ladd hx hb dX0_read_8 ?_
  have hres : (ow + off) = (ow + off) := by rfl
  exact W.lret (v := (ow + off)) hx hb hr (fun t ht _ => ⟨congrArg (fun z => Outcome.returned (some (Value.long z))) hres, ht⟩) (fun _ h => nomatch h) dX0_read_9

set_option maxHeartbeats 4000000 in
set_option maxRecDepth 100000 in
theorem c_X0_offset (l : Launch) (D : va_G) (h a1 a2 : Nat) (c1 c2 : ClassId) (lo hi : Nat → Int64) (hd : Int32) (ow off go : Int64) (x : Int32)  : Met l yX0_offset wsX0_offset { frames := 1, cells := 0, slots := 0, locals := 20 } (va_Pc [.ref h, .int x] (ck_B D (xW h a1 a2 c1 c2 lo hi hd ow off go) (xT c1 c2))) (ck_R (.long (ck_of off go x))) 0 0 (fun _ => False) := by
  refine Met.ofW (cc := cX0_offset) (maxL := 2) (ret := (some .long)) (by decide) rfl ?_
  intro p e s m args below meth c s₁ B hml hv
  obtain ⟨rfl, hP, hK⟩ := hv
  have hx := B.exec
  have hb := B.bytes
  have hr := B.returns
  have hts := atoms_spec (ws := wsX0_offset) B.pre
  have hown : s.vm.findClass RX0 = some m.cls := findClass_of_methodNamed B.named
  have hlocks := B.notSynchronized
  have hin : ∀ w ∈ wsX00, w ∈ wsX0_offset := fun _ h => List.mem_cons_of_mem _ (List.mem_append_right _ h)
  have hl := lv_entry ([.ref h, .int x]) (n := 2) (Nat.le_of_ble_eq_true rfl)
  rw [lg_entry_eq]
  generalize (lg_sl ([.ref h, .int x]) ++ List.replicate (2 - (lg_sl ([.ref h, .int x])).length) Slot.unset).toArray = ls at hl ⊢
  have hl : lv_has ls 2 [(0, .ref h), (1, .int x)] := hl
  refine lv_iload_n hx hb dX0_offset_0 rfl (lv_at hl 1 rfl) ?_
  refine ck_cS (As := [.int x]) (rest := []) ⟨hx, hb, hml, hown, hts⟩ (c_X0_isZeroOrOne l x) (va_cwS 1 hts gX0_offset_X0_isZeroOrOne rfl rfl rfl (by decide +kernel) ⟨Nat.le_of_ble_eq_true rfl, Nat.le_of_ble_eq_true rfl⟩) rfl hl.1 rfl (Nat.le_of_ble_eq_true rfl) dX0_offset_1 ⟨Nat.le_of_ble_eq_true rfl, Nat.le_of_ble_eq_true rfl⟩ ?_
  refine lv_if_ne (tgt := 11) hx hb dX0_offset_4 (by decide) (fun c_1 => ?_) (fun c_1 => ?_)
  · have c_1 := ck_bt c_1
    refine lv_iload_n hx hb dX0_offset_11 rfl (lv_at hl 1 rfl) ?_
    refine lv_if_ne (tgt := 22) hx hb dX0_offset_12 (by decide) (fun c_2 => ?_) (fun c_2 => ?_)
    · refine lv_aload_n hx hb dX0_offset_22 rfl (lv_at hl 0 rfl) ?_
      refine va_get (D := D) (ci := 0) (v := .long go) (C := RX0) (T := TX0) (N := 6) hx hb hts hin hown hK hP 0 rfl rfl 5 (by decide) (hts (.fieldLink RX0 27 "ClockDesk" "goal" "J") (by decide +kernel)) (fun _ h9 => h9) rfl dX0_offset_23 ?_
      have hres : go = (ck_of off go x) := by first | (simp [ck_of, c_1, c_2]; done) | simp [ck_of, ck_zo, c_1, c_2]
      exact W.lret (v := go) hx hb hr (fun t ht _ => ⟨congrArg (fun z => Outcome.returned (some (Value.long z))) hres, ht⟩) (fun _ h => nomatch h) dX0_offset_26
    · refine lv_aload_n hx hb dX0_offset_15 rfl (lv_at hl 0 rfl) ?_
      refine va_get (D := D) (ci := 0) (v := .long off) (C := RX0) (T := TX0) (N := 6) hx hb hts hin hown hK hP 0 rfl rfl 4 (by decide) (hts (.fieldLink RX0 24 "ClockDesk" "clockOffset" "J") (by decide +kernel)) (fun _ h9 => h9) rfl dX0_offset_16 ?_
      refine lv_goto (tgt := 26) hx hb dX0_offset_19 (by decide) ?_
      have hres : off = (ck_of off go x) := by first | (simp [ck_of, c_1, c_2]; done) | simp [ck_of, ck_zo, c_1, c_2]
      exact W.lret (v := off) hx hb hr (fun t ht _ => ⟨congrArg (fun z => Outcome.returned (some (Value.long z))) hres, ht⟩) (fun _ h => nomatch h) dX0_offset_26
  · have c_1 := ck_bf c_1
    refine lv_ldc2 (v := ck_NO) hx hb hown (hts (.constantLong RX0 46 ck_NO) (by decide +kernel)) dX0_offset_7 ?_
    have hres : ck_NO = (ck_of off go x) := by first | (simp [ck_of, c_1]; done) | simp [ck_of, ck_zo, c_1]
    exact W.lret (v := ck_NO) hx hb hr (fun t ht _ => ⟨congrArg (fun z => Outcome.returned (some (Value.long z))) hres, ht⟩) (fun _ h => nomatch h) dX0_offset_10

set_option maxHeartbeats 4000000 in
set_option maxRecDepth 100000 in
theorem c_X0_settles (l : Launch) (D : va_G) (h a1 a2 : Nat) (c1 c2 : ClassId) (lo hi : Nat → Int64) (hd : Int32) (ow off go : Int64)   : Met l yX0_settles wsX0_settles { frames := 1, cells := 0, slots := 0, locals := 27 } (va_Pc [.ref h] (ck_B D (xW h a1 a2 c1 c2 lo hi hd ow off go) (xT c1 c2))) (ck_R (.long (ck_st off go))) 0 0 (fun _ => False) := by
  refine Met.ofW (cc := cX0_settles) (maxL := 3) (ret := (some .long)) (by decide) rfl ?_
  intro p e s m args below meth c s₁ B hml hv
  obtain ⟨rfl, hP, hK⟩ := hv
  have hx := B.exec
  have hb := B.bytes
  have hr := B.returns
  have hts := atoms_spec (ws := wsX0_settles) B.pre
  have hown : s.vm.findClass RX0 = some m.cls := findClass_of_methodNamed B.named
  have hlocks := B.notSynchronized
  have hin : ∀ w ∈ wsX00, w ∈ wsX0_settles := fun _ h => List.mem_cons_of_mem _ (List.mem_append_right _ h)
  have hl := lv_entry ([.ref h]) (n := 3) (Nat.le_of_ble_eq_true rfl)
  rw [lg_entry_eq]
  generalize (lg_sl ([.ref h]) ++ List.replicate (3 - (lg_sl ([.ref h])).length) Slot.unset).toArray = ls at hl ⊢
  have hl : lv_has ls 3 [(0, .ref h)] := hl
  refine lv_aload_n hx hb dX0_settles_0 rfl (lv_at hl 0 rfl) ?_
  refine va_get (D := D) (ci := 0) (v := .long go) (C := RX0) (T := TX0) (N := 6) hx hb hts hin hown hK hP 0 rfl rfl 5 (by decide) (hts (.fieldLink RX0 27 "ClockDesk" "goal" "J") (by decide +kernel)) (fun _ h9 => h9) rfl dX0_settles_1 ?_
  refine lv_aload_n hx hb dX0_settles_4 rfl (lv_at hl 0 rfl) ?_
  refine va_get (D := D) (ci := 0) (v := .long off) (C := RX0) (T := TX0) (N := 6) hx hb hts hin hown hK hP 0 rfl rfl 4 (by decide) (hts (.fieldLink RX0 24 "ClockDesk" "clockOffset" "J") (by decide +kernel)) (fun _ h9 => h9) rfl dX0_settles_5 ?_
  refine lv_lsub hx hb dX0_settles_8 ?_
  refine ck_mabs hx hb (hml.trans hl.1.symm) hown (hts (.methodLink RX0 133 Lib.MathLoose.abs_long.x) (by decide +kernel)) (hts (.static Lib.MathLoose.abs_long.x) (by decide +kernel)) (hts (.initialized "java/lang/Math") (by decide +kernel)) (hts (.code Lib.MathLoose.abs_long.x Lib.MathLoose.abs_long.code 2 (some .long)) (by decide +kernel)) (Nat.le_of_ble_eq_true rfl) (Nat.le_of_ble_eq_true rfl) (Nat.le_of_ble_eq_true rfl) (Nat.le_of_ble_eq_true rfl) dX0_settles_9 ?_
  refine lv_lstore_n (lv' := [(1, .long (ck_abs (go - off))), (0, .ref h)]) hx hb dX0_settles_12 rfl hl (by decide) rfl (fun ls hl => ?_)
  refine lv_lload_n hx hb dX0_settles_13 rfl (lv_at hl 0 rfl) ?_
  refine lv_ldc2 (v := ck_REACH) hx hb hown (hts (.constantLong RX0 136 ck_REACH) (by decide +kernel)) dX0_settles_14 ?_
  refine W.lcmp hx hb dX0_settles_17 ?_
  refine lv_if_le (tgt := 27) hx hb dX0_settles_18 (by decide) (fun c_1 => ?_) (fun c_1 => ?_)
  · rw [lg_cmp_le] at c_1
    refine lv_lload_n hx hb dX0_settles_27 rfl (lv_at hl 0 rfl) ?_
    refine lv_ldc2 (v := 2000) hx hb hown (hts (.constantLong RX0 125 2000) (by decide +kernel)) dX0_settles_28 ?_
    refine lv_lmul hx hb dX0_settles_31 ?_
    have hres : ((ck_abs (go - off)) * 2000) = (ck_st off go) := by simp [ck_st, c_1]
    exact W.lret (v := ((ck_abs (go - off)) * 2000)) hx hb hr (fun t ht _ => ⟨congrArg (fun z => Outcome.returned (some (Value.long z))) hres, ht⟩) (fun _ h => nomatch h) dX0_settles_32
  · rw [lg_cmp_le] at c_1
    refine lv_ldc2 (v := ck_NO) hx hb hown (hts (.constantLong RX0 46 ck_NO) (by decide +kernel)) dX0_settles_21 ?_
    refine lv_goto (tgt := 32) hx hb dX0_settles_24 (by decide) ?_
    have hres : ck_NO = (ck_st off go) := by simp [ck_st, c_1]
    exact W.lret (v := ck_NO) hx hb hr (fun t ht _ => ⟨congrArg (fun z => Outcome.returned (some (Value.long z))) hres, ht⟩) (fun _ h => nomatch h) dX0_settles_32
end
section
-- what holds of the state between calls
def ck_inv (hd : Int32) (lo hi : Nat → Int64) : Prop := (∀ j, 24 ≤ j → bt hd j = false) ∧ ∀ j, ck_NFAR ≤ lo j ∧ lo j ≤ hi j ∧ hi j ≤ ck_FAR
theorem ck_shb (x : Int32) {i : Nat} (h : i < 24) : (x >>> (nI i &&& 31)) &&& 1 = ck_b (bt x i) := by
  apply b_ext
  intro k hk
  rw [b_and, b_sshr i (by omega) x hk, ck_1]
  by_cases e : k = 0
  · subst e
    rw [if_pos (by omega)]
    cases hb : bt x (i + 0) with
    | false => decide +kernel
    | true => decide +kernel
  · rw [decide_eq_false e, Bool.and_false]
    cases bt x i with
    | false => exact (b_0 k).symm
    | true => exact ((ck_1 k).trans (decide_eq_false e)).symm
theorem ck_sh1 {x : Int32} {i : Nat} (h : i < 24) (c : (x >>> (nI i &&& 31)) &&& 1 = 1) : bt x i = true := by
  rw [ck_shb x h] at c
  cases hb : bt x i with
  | true => rfl
  | false => rw [hb] at c; exact absurd c (by decide)
theorem ck_sh1n {x : Int32} {i : Nat} (h : i < 24) (c : ¬ (x >>> (nI i &&& 31)) &&& 1 = 1) : bt x i = false := by
  rw [ck_shb x h] at c
  cases hb : bt x i with
  | false => rfl
  | true => rw [hb] at c; exact absurd (by decide) c
theorem ck_sh0 {x : Int32} {i : Nat} (h : i < 24) (c : (x >>> (nI i &&& 31)) &&& 1 = 0) : bt x i = false := by
  rw [ck_shb x h] at c
  exact ck_bf c
theorem ck_sh0n {x : Int32} {i : Nat} (h : i < 24) (c : ¬ (x >>> (nI i &&& 31)) &&& 1 = 0) : bt x i = true := by
  rw [ck_shb x h] at c
  exact ck_bt c
theorem ck_zoN {x : Int32} (h : x < 0) : ck_zo x = false := by
  have h0 : ¬ x = 0 := fun q => by rw [q] at h; exact absurd h (by decide)
  have h1 : ¬ x = 1 := fun q => by rw [q] at h; exact absurd h (by decide)
  simp [ck_zo, h0, h1]
theorem ck_zoB {x : Int32} (h : ¬ x ≤ 1) : ck_zo x = false := by
  have h0 : ¬ x = 0 := fun q => by rw [q] at h; exact absurd (by decide) h
  have h1 : ¬ x = 1 := fun q => by rw [q] at h; exact absurd (by decide) h
  simp [ck_zo, h0, h1]
theorem ck_zoI {x : Int32} (h : ¬ x < 0) (h2 : x ≤ 1) : ck_zo x = true := by
  rw [Int32.lt_iff_toInt_lt] at h
  rw [Int32.le_iff_toInt_le] at h2
  have e0 : (0 : Int32).toInt = 0 := by decide
  have e1 : (1 : Int32).toInt = 1 := by decide
  rw [e0] at h
  rw [e1] at h2
  by_cases q : x = 0
  · simp [ck_zo, q]
  · have : x = 1 := by
      apply Int32.toInt_inj.mp
      have : ¬ x.toInt = 0 := fun z => q (Int32.toInt_inj.mp (z.trans e0.symm))
      omega
    simp [ck_zo, this]
theorem ck_pne {y : Int64} (h : 0 < y) : ¬ y = 0 := fun q => by rw [q] at h; exact absurd h (by decide)
theorem ck_absP {x : Int64} (h : 0 ≤ x) : x = ck_abs x := by
  unfold ck_abs
  by_cases q : 0 < x
  · rw [if_pos q]
  · have : x = 0 := by
      rw [Int64.lt_iff_toInt_lt] at q
      rw [Int64.le_iff_toInt_le] at h
      apply Int64.toInt_inj.mp
      omega
    rw [this]; decide
theorem ck_absN {x : Int64} (h : ¬ 0 ≤ x) : -x = ck_abs x := by
  unfold ck_abs
  rw [if_neg]
  intro q
  rw [Int64.lt_iff_toInt_lt] at q
  rw [Int64.le_iff_toInt_le] at h
  omega
theorem ck_maxI_le {x y : Int32} (h : y ≤ x) : ck_maxI x y = x := by
  unfold ck_maxI
  rw [if_neg]
  intro q
  rw [Int32.lt_iff_toInt_lt] at q
  rw [Int32.le_iff_toInt_le] at h
  omega
theorem ck_maxI_nle {x y : Int32} (h : ¬ y ≤ x) : ck_maxI x y = y := by
  unfold ck_maxI
  rw [if_pos]
  rw [Int32.lt_iff_toInt_lt]
  rw [Int32.le_iff_toInt_le] at h
  omega
theorem ck_max_le {x y : Int64} (h : y ≤ x) : ck_max x y = x := by
  unfold ck_max
  by_cases q : y < x
  · rw [if_pos q]
  · rw [if_neg q]
    rw [Int64.lt_iff_toInt_lt] at q
    rw [Int64.le_iff_toInt_le] at h
    apply Int64.toInt_inj.mp
    omega
theorem ck_max_nle {x y : Int64} (h : ¬ y ≤ x) : ck_max x y = y := by
  unfold ck_max
  rw [if_neg]
  intro q
  rw [Int64.lt_iff_toInt_lt] at q
  rw [Int64.le_iff_toInt_le] at h
  omega
theorem ck_toI_NO : ck_NO.toInt = -4611686018427387904 := by decide +kernel
theorem ck_toI_FAR : ck_FAR.toInt = 288230376151711744 := by decide +kernel
theorem ck_toI_NFAR : ck_NFAR.toInt = -288230376151711744 := by decide +kernel
theorem ck_max_NO {x y : Int64} (h : ck_NFAR ≤ x ∧ x ≤ y ∧ y ≤ ck_FAR) : ck_max ck_NO y = y := by
  unfold ck_max
  rw [if_neg]
  intro q
  obtain ⟨h1, h2, h3⟩ := h
  rw [Int64.lt_iff_toInt_lt, ck_toI_NO] at q
  rw [Int64.le_iff_toInt_le, ck_toI_NFAR] at h1
  rw [Int64.le_iff_toInt_le] at h2
  omega
theorem ck_cvs_nn (is : Nat → Bool) (lo hi : Nat → Int64) (p : Int64) : (0 : Int32) ≤ ck_cvs is lo hi p := by
  unfold ck_cvs
  rw [ck_cn_N]
  exact nI_pos' (by have := ck_cN_le (ck_cov is lo hi p) 24; omega)
theorem ck_gr_nn (is : Nat → Bool) (lo hi : Nat → Int64) : ∀ n, (0 : Int32) ≤ ck_gr is lo hi n
  | 0 => (by decide : (0 : Int32) ≤ 0)
  | n + 1 => by
    show (0 : Int32) ≤ (if is n then ck_maxI (ck_gr is lo hi n) (ck_cvs is lo hi (lo n)) else ck_gr is lo hi n)
    have h1 := ck_gr_nn is lo hi n
    split
    · unfold ck_maxI
      split
      · exact ck_cvs_nn _ _ _ _
      · exact h1
    · exact h1
def ck_plQ (is : Nat → Bool) (lo hi : Nat → Int64) (j o : Nat) : Bool := is j && ck_plP is lo hi j o
theorem ck_plQ_eq {is : Nat → Bool} {lo hi : Nat → Int64} {j : Nat} (h : is j = true) : ck_plQ is lo hi j = ck_plP is lo hi j := by
  funext o
  simp [ck_plQ, h]
end
section
set_option maxHeartbeats 4000000 in
set_option maxRecDepth 100000 in
theorem c_X1_isSource (l : Launch) (x : Int32)  : Met l yX1_isSource wsX1_isSource { frames := 0, cells := 0, slots := 0, locals := 0 } (va_Pc [.int x] (fun _ => True)) (ck_R (.int (ck_b (ck_src x)))) 0 0 (fun _ => False) := by
  refine Met.ofW (cc := cX1_isSource) (maxL := 1) (ret := (some .boolean)) (by decide) rfl ?_
  intro p e s m args below meth c s₁ B hml hv
  obtain ⟨rfl, -⟩ := hv
  have hx := B.exec
  have hb := B.bytes
  have hr := B.returns
  have hts := atoms_spec (ws := wsX1_isSource) B.pre
  have hown : s.vm.findClass RX1 = some m.cls := findClass_of_methodNamed B.named
  have hlocks := B.notSynchronized
  have hl := lv_entry ([.int x]) (n := 1) (Nat.le_of_ble_eq_true rfl)
  rw [lg_entry_eq]
  generalize (lg_sl ([.int x]) ++ List.replicate (1 - (lg_sl ([.int x])).length) Slot.unset).toArray = ls at hl ⊢
  have hl : lv_has ls 1 [(0, .int x)] := hl
  refine lv_iload_n hx hb dX1_isSource_0 rfl (lv_at hl 0 rfl) ?_
  refine lv_if_lt (tgt := 14) hx hb dX1_isSource_1 (by decide) (fun c_1 => ?_) (fun c_1 => ?_)
  · refine lv_iconst (v := 0) hx hb dX1_isSource_14 (by decide) ?_
    have hres : 0 = (ck_b (ck_src x)) := by simp [ck_src, ck_b, c_1]
    exact W.zret (ty := .boolean) (v := 0) hx hb hr rfl (fun t ht _ => ⟨congrArg (fun z => Outcome.returned (some (Value.int z))) hres, ht⟩) (fun _ h => nomatch h) dX1_isSource_15
  · refine lv_iload_n hx hb dX1_isSource_4 rfl (lv_at hl 0 rfl) ?_
    refine lv_bipush (v := 24) hx hb dX1_isSource_5 (by decide) ?_
    refine lv_icmp_ge (tgt := 14) hx hb dX1_isSource_7 (by decide) (fun c_2 => ?_) (fun c_2 => ?_)
    · refine lv_iconst (v := 0) hx hb dX1_isSource_14 (by decide) ?_
      have hres : 0 = (ck_b (ck_src x)) := by simp [ck_src, ck_b, c_1, c_2]
      exact W.zret (ty := .boolean) (v := 0) hx hb hr rfl (fun t ht _ => ⟨congrArg (fun z => Outcome.returned (some (Value.int z))) hres, ht⟩) (fun _ h => nomatch h) dX1_isSource_15
    · refine lv_iconst (v := 1) hx hb dX1_isSource_10 (by decide) ?_
      refine lv_goto (tgt := 15) hx hb dX1_isSource_11 (by decide) ?_
      have hres : 1 = (ck_b (ck_src x)) := by simp [ck_src, ck_b, c_1, c_2]
      exact W.zret (ty := .boolean) (v := 1) hx hb hr rfl (fun t ht _ => ⟨congrArg (fun z => Outcome.returned (some (Value.int z))) hres, ht⟩) (fun _ h => nomatch h) dX1_isSource_15

set_option maxHeartbeats 4000000 in
set_option maxRecDepth 100000 in
theorem c_X1_half (l : Launch) (x : Int64)  : Met l yX1_half wsX1_half { frames := 0, cells := 0, slots := 0, locals := 0 } (va_Pc [.long x] (fun _ => True)) (ck_R (.long (ck_half x))) 0 0 (fun _ => False) := by
  refine Met.ofW (cc := cX1_half) (maxL := 2) (ret := (some .long)) (by decide) rfl ?_
  intro p e s m args below meth c s₁ B hml hv
  obtain ⟨rfl, -⟩ := hv
  have hx := B.exec
  have hb := B.bytes
  have hr := B.returns
  have hts := atoms_spec (ws := wsX1_half) B.pre
  have hown : s.vm.findClass RX1 = some m.cls := findClass_of_methodNamed B.named
  have hlocks := B.notSynchronized
  have hl := lv_entry ([.long x]) (n := 2) (Nat.le_of_ble_eq_true rfl)
  rw [lg_entry_eq]
  generalize (lg_sl ([.long x]) ++ List.replicate (2 - (lg_sl ([.long x])).length) Slot.unset).toArray = ls at hl ⊢
  have hl : lv_has ls 2 [(0, .long x)] := hl
  refine lv_lload_n hx hb dX1_half_0 rfl (lv_at hl 0 rfl) ?_
  refine lv_iconst (v := 1) hx hb dX1_half_1 (by decide) ?_
  refine lv_lshr (v := (x >>> (Int32.toInt64 1 &&& 63))) hx hb dX1_half_2 rfl ?_
  have hres : (x >>> (Int32.toInt64 1 &&& 63)) = (ck_half x) := by rfl
  exact W.lret (v := (x >>> (Int32.toInt64 1 &&& 63))) hx hb hr (fun t ht _ => ⟨congrArg (fun z => Outcome.returned (some (Value.long z))) hres, ht⟩) (fun _ h => nomatch h) dX1_half_3

set_option maxHeartbeats 4000000 in
set_option maxRecDepth 100000 in
theorem c_X1_over (l : Launch) (x : Int64) (y : Int64) (hy : 0 < y) : Met l yX1_over wsX1_over { frames := 0, cells := 0, slots := 0, locals := 0 } (va_Pc [.long x, .long y] (fun _ => True)) (ck_R (.long (ck_fd x y))) 0 0 (fun _ => False) := by
  refine Met.ofW (cc := cX1_over) (maxL := 6) (ret := (some .long)) (by decide) rfl ?_
  intro p e s m args below meth c s₁ B hml hv
  obtain ⟨rfl, -⟩ := hv
  have hx := B.exec
  have hb := B.bytes
  have hr := B.returns
  have hts := atoms_spec (ws := wsX1_over) B.pre
  have hown : s.vm.findClass RX1 = some m.cls := findClass_of_methodNamed B.named
  have hlocks := B.notSynchronized
  have hl := lv_entry ([.long x, .long y]) (n := 6) (Nat.le_of_ble_eq_true rfl)
  rw [lg_entry_eq]
  generalize (lg_sl ([.long x, .long y]) ++ List.replicate (6 - (lg_sl ([.long x, .long y])).length) Slot.unset).toArray = ls at hl ⊢
  have hl : lv_has ls 6 [(0, .long x), (2, .long y)] := hl
  refine lv_lload_n hx hb dX1_over_0 rfl (lv_at hl 0 rfl) ?_
  refine lv_lload_n hx hb dX1_over_1 rfl (lv_at hl 1 rfl) ?_
  refine lv_ldiv hx hb dX1_over_2 (ck_pne hy) ?_
  refine lv_lstore (lv' := [(4, .long (x / y)), (0, .long x), (2, .long y)]) hx hb dX1_over_3 hl (by decide) rfl (fun ls hl => ?_)
  refine lv_lload hx hb dX1_over_5 (lv_at hl 0 rfl) ?_
  refine lv_lload_n hx hb dX1_over_7 rfl (lv_at hl 2 rfl) ?_
  refine lv_lmul hx hb dX1_over_8 ?_
  refine lv_lload_n hx hb dX1_over_9 rfl (lv_at hl 1 rfl) ?_
  refine W.lcmp hx hb dX1_over_10 ?_
  refine lv_if_le (tgt := 21) hx hb dX1_over_11 (by decide) (fun c_1 => ?_) (fun c_1 => ?_)
  · rw [lg_cmp_le] at c_1
    refine lv_lload hx hb dX1_over_21 (lv_at hl 0 rfl) ?_
    have hres : (x / y) = (ck_fd x y) := by rw [← ck_ovE x y hy]; simp [c_1]
    exact W.lret (v := (x / y)) hx hb hr (fun t ht _ => ⟨congrArg (fun z => Outcome.returned (some (Value.long z))) hres, ht⟩) (fun _ h => nomatch h) dX1_over_23
  · rw [lg_cmp_le] at c_1
    refine lv_lload hx hb dX1_over_14 (lv_at hl 0 rfl) ?_
    refine lv_lconst (v := 1) hx hb dX1_over_16 (by decide) ?_
    refine lv_lsub hx hb dX1_over_17 ?_
    refine lv_goto (tgt := 23) hx hb dX1_over_18 (by decide) ?_
    have hres : ((x / y) - 1) = (ck_fd x y) := by rw [← ck_ovE x y hy]; simp [c_1]
    exact W.lret (v := ((x / y) - 1)) hx hb hr (fun t ht _ => ⟨congrArg (fun z => Outcome.returned (some (Value.long z))) hres, ht⟩) (fun _ h => nomatch h) dX1_over_23

set_option maxHeartbeats 4000000 in
set_option maxRecDepth 100000 in
theorem c_X1_size (l : Launch) (x : Int64)  : Met l yX1_size wsX1_size { frames := 0, cells := 0, slots := 0, locals := 0 } (va_Pc [.long x] (fun _ => True)) (ck_R (.long (ck_abs x))) 0 0 (fun _ => False) := by
  refine Met.ofW (cc := cX1_size) (maxL := 2) (ret := (some .long)) (by decide) rfl ?_
  intro p e s m args below meth c s₁ B hml hv
  obtain ⟨rfl, -⟩ := hv
  have hx := B.exec
  have hb := B.bytes
  have hr := B.returns
  have hts := atoms_spec (ws := wsX1_size) B.pre
  have hown : s.vm.findClass RX1 = some m.cls := findClass_of_methodNamed B.named
  have hlocks := B.notSynchronized
  have hl := lv_entry ([.long x]) (n := 2) (Nat.le_of_ble_eq_true rfl)
  rw [lg_entry_eq]
  generalize (lg_sl ([.long x]) ++ List.replicate (2 - (lg_sl ([.long x])).length) Slot.unset).toArray = ls at hl ⊢
  have hl : lv_has ls 2 [(0, .long x)] := hl
  refine lv_lload_n hx hb dX1_size_0 rfl (lv_at hl 0 rfl) ?_
  refine lv_lconst (v := 0) hx hb dX1_size_1 (by decide) ?_
  refine W.lcmp hx hb dX1_size_2 ?_
  refine lv_if_ge (tgt := 11) hx hb dX1_size_3 (by decide) (fun c_1 => ?_) (fun c_1 => ?_)
  · rw [lg_cmp_ge] at c_1
    refine lv_lload_n hx hb dX1_size_11 rfl (lv_at hl 0 rfl) ?_
    have hres : x = (ck_abs x) := by first | exact ck_absP c_1 | exact ck_absN c_1
    exact W.lret (v := x) hx hb hr (fun t ht _ => ⟨congrArg (fun z => Outcome.returned (some (Value.long z))) hres, ht⟩) (fun _ h => nomatch h) dX1_size_12
  · rw [lg_cmp_ge] at c_1
    refine lv_lload_n hx hb dX1_size_6 rfl (lv_at hl 0 rfl) ?_
    refine lv_lneg hx hb dX1_size_7 ?_
    refine lv_goto (tgt := 12) hx hb dX1_size_8 (by decide) ?_
    have hres : (-x) = (ck_abs x) := by first | exact ck_absP c_1 | exact ck_absN c_1
    exact W.lret (v := (-x)) hx hb hr (fun t ht _ => ⟨congrArg (fun z => Outcome.returned (some (Value.long z))) hres, ht⟩) (fun _ h => nomatch h) dX1_size_12

set_option maxHeartbeats 4000000 in
set_option maxRecDepth 100000 in
theorem c_X1_sources (l : Launch) (D : va_G) (h a0 a1 a2 : Nat) (c0 c1 c2 : ClassId) (lo hi : Nat → Int64) (hd : Int32) (ow off go : Int64) (inv : ck_inv hd lo hi)   : Met l yX1_sources wsX1_sources { frames := 0, cells := 0, slots := 0, locals := 0 } (va_Pc [.ref h] (ck_B D (mW h a0 a1 a2 c0 c1 c2 lo hi hd ow off go) (mT c0 c1 c2))) (ck_R (.int (ck_ns hd))) 0 0 (fun _ => False) := by
  refine Met.ofW (cc := cX1_sources) (maxL := 3) (ret := (some .int)) (by decide) rfl ?_
  intro p e s m args below meth c s₁ B hml hv
  obtain ⟨rfl, hP, hK⟩ := hv
  have hx := B.exec
  have hb := B.bytes
  have hr := B.returns
  have hts := atoms_spec (ws := wsX1_sources) B.pre
  have hown : s.vm.findClass RX1 = some m.cls := findClass_of_methodNamed B.named
  have hlocks := B.notSynchronized
  have hin : ∀ w ∈ wsX10, w ∈ wsX1_sources := fun _ h => List.mem_cons_of_mem _ (List.mem_append_right _ h)
  have hl := lv_entry ([.ref h]) (n := 3) (Nat.le_of_ble_eq_true rfl)
  rw [lg_entry_eq]
  generalize (lg_sl ([.ref h]) ++ List.replicate (3 - (lg_sl ([.ref h])).length) Slot.unset).toArray = ls at hl ⊢
  have hl : lv_has ls 3 [(0, .ref h)] := hl
  refine lv_iconst (v := 0) hx hb dX1_sources_0 (by decide) ?_
  refine lv_istore_n (lv' := [(1, .int 0), (0, .ref h)]) hx hb dX1_sources_1 rfl hl (by decide) rfl (fun ls hl => ?_)
  refine lv_iconst (v := 0) hx hb dX1_sources_2 (by decide) ?_
  refine lv_istore_n (lv' := [(2, .int 0), (1, .int 0), (0, .ref h)]) hx hb dX1_sources_3 rfl hl (by decide) rfl (fun ls hl => ?_)
  refine ck_loop (G := fun ls => W p l e _ s m _ below meth c _ _ _ _ _ (F0 m 4 ls [])) (nL := 3) (24) (fun i => True) (fun i => [(0, .ref h), (1, .int (ck_cn (bt hd) i)), (2, .int (nI i))]) (fun i hle_i hj_i ih_i ls hl => ?_) ls (trivial) ?_
  rotate_left
  · have hq : lv_has ls 3 [(0, .ref h), (1, .int 0), (2, .int 0)] := lv_sub hl [2, 1, 0] rfl
    exact hq
  have hl : lv_has ls 3 [(0, .ref h), (1, .int (ck_cn (bt hd) i)), (2, .int (nI i))] := hl
  refine lv_iload_n hx hb dX1_sources_4 rfl (lv_at hl 2 rfl) ?_
  refine lv_bipush (v := 24) hx hb dX1_sources_5 (by decide) ?_
  refine lv_icmp_ge (tgt := 33) hx hb dX1_sources_7 (by decide) (fun c_1 => ?_) (fun c_1 => ?_)
  · have heq_i : i = 24 := ck_eqN hle_i c_1
    subst heq_i
    have hl : lv_has ls 3 [(0, .ref h), (1, .int (ck_cn (bt hd) 24)), (2, .int (nI 24))] := hl
    refine lv_iload_n hx hb dX1_sources_33 rfl (lv_at hl 1 rfl) ?_
    have hres : (ck_cn (bt hd) 24) = (ck_ns hd) := by exact ck_ns24 inv.1
    exact W.iret (v := (ck_cn (bt hd) 24)) hx hb hr (fun t ht _ => ⟨congrArg (fun z => Outcome.returned (some (Value.int z))) hres, ht⟩) (fun _ h => nomatch h) dX1_sources_34
  · have hlt_i : i < 24 := ck_ltN hle_i c_1
    refine lv_iload_n hx hb dX1_sources_10 rfl (lv_at hl 1 rfl) ?_
    refine lv_aload_n hx hb dX1_sources_11 rfl (lv_at hl 0 rfl) ?_
    refine va_get (D := D) (ci := 1) (v := .ref a0) (C := RX1) (T := TX1) (N := 6) hx hb hts hin hown hK hP 0 rfl rfl 0 (by decide) (hts (.fieldLink RX1 7 "ClockDeskModel" "is" "[Z") (by decide +kernel)) (fun _ h9 => h9) rfl dX1_sources_12 ?_
    refine lv_iload_n hx hb dX1_sources_15 rfl (lv_at hl 2 rfl) ?_
    refine ck_zald hx hb hK hP 1 0 rfl rfl (i := i) hlt_i dX1_sources_16 ?_
    refine lv_if_eq (tgt := 24) hx hb dX1_sources_17 (by decide) (fun c_2 => ?_) (fun c_2 => ?_)
    · have c_2 := ck_bf c_2
      refine lv_iconst (v := 0) hx hb dX1_sources_24 (by decide) ?_
      refine lv_iadd hx hb dX1_sources_25 ?_
      refine lv_istore_n (lv' := [(1, .int ((ck_cn (bt hd) i) + 0)), (0, .ref h), (2, .int (nI i))]) hx hb dX1_sources_26 rfl hl (by decide) rfl (fun ls hl => ?_)
      refine lv_iinc (v := (nI (i + 1))) (lv' := [(2, .int (nI (i + 1))), (1, .int ((ck_cn (bt hd) i) + 0)), (0, .ref h)]) hx hb dX1_sources_27 hl (k := 2) rfl (nI_1 i) (by decide) rfl (fun ls hl => ?_)
      refine lv_goto (tgt := 4) hx hb dX1_sources_30 (by decide) ?_
      refine ih_i ls hlt_i (trivial) ?_
      have hq : lv_has ls 3 [(0, .ref h), (1, .int ((ck_cn (bt hd) i) + 0)), (2, .int (nI (i + 1)))] := lv_sub hl [2, 1, 0] rfl
      have eq0 : ((ck_cn (bt hd) i) + 0) = (ck_cn (bt hd) (i + 1)) := by simp [ck_cn, c_2]
      exact lv_eqq hq (by rw [← eq0])
    · have c_2 := ck_bt c_2
      refine lv_iconst (v := 1) hx hb dX1_sources_20 (by decide) ?_
      refine lv_goto (tgt := 25) hx hb dX1_sources_21 (by decide) ?_
      refine lv_iadd hx hb dX1_sources_25 ?_
      refine lv_istore_n (lv' := [(1, .int ((ck_cn (bt hd) i) + 1)), (0, .ref h), (2, .int (nI i))]) hx hb dX1_sources_26 rfl hl (by decide) rfl (fun ls hl => ?_)
      refine lv_iinc (v := (nI (i + 1))) (lv' := [(2, .int (nI (i + 1))), (1, .int ((ck_cn (bt hd) i) + 1)), (0, .ref h)]) hx hb dX1_sources_27 hl (k := 2) rfl (nI_1 i) (by decide) rfl (fun ls hl => ?_)
      refine lv_goto (tgt := 4) hx hb dX1_sources_30 (by decide) ?_
      refine ih_i ls hlt_i (trivial) ?_
      have hq : lv_has ls 3 [(0, .ref h), (1, .int ((ck_cn (bt hd) i) + 1)), (2, .int (nI (i + 1)))] := lv_sub hl [2, 1, 0] rfl
      have eq0 : ((ck_cn (bt hd) i) + 1) = (ck_cn (bt hd) (i + 1)) := by simp [ck_cn, c_2]
      exact lv_eqq hq (by rw [← eq0])

set_option maxHeartbeats 4000000 in
set_option maxRecDepth 100000 in
theorem c_X1_covers (l : Launch) (D : va_G) (h a0 a1 a2 : Nat) (c0 c1 c2 : ClassId) (lo hi : Nat → Int64) (hd : Int32) (ow off go : Int64) (inv : ck_inv hd lo hi) (p0 : Int64)  : Met l yX1_covers wsX1_covers { frames := 0, cells := 0, slots := 0, locals := 0 } (va_Pc [.ref h, .long p0] (ck_B D (mW h a0 a1 a2 c0 c1 c2 lo hi hd ow off go) (mT c0 c1 c2))) (ck_R (.int (ck_cvs (bt hd) lo hi p0))) 0 0 (fun _ => False) := by
  refine Met.ofW (cc := cX1_covers) (maxL := 5) (ret := (some .int)) (by decide) rfl ?_
  intro p e s m args below meth c s₁ B hml hv
  obtain ⟨rfl, hP, hK⟩ := hv
  have hx := B.exec
  have hb := B.bytes
  have hr := B.returns
  have hts := atoms_spec (ws := wsX1_covers) B.pre
  have hown : s.vm.findClass RX1 = some m.cls := findClass_of_methodNamed B.named
  have hlocks := B.notSynchronized
  have hin : ∀ w ∈ wsX10, w ∈ wsX1_covers := fun _ h => List.mem_cons_of_mem _ (List.mem_append_right _ h)
  have hl := lv_entry ([.ref h, .long p0]) (n := 5) (Nat.le_of_ble_eq_true rfl)
  rw [lg_entry_eq]
  generalize (lg_sl ([.ref h, .long p0]) ++ List.replicate (5 - (lg_sl ([.ref h, .long p0])).length) Slot.unset).toArray = ls at hl ⊢
  have hl : lv_has ls 5 [(0, .ref h), (1, .long p0)] := hl
  refine lv_iconst (v := 0) hx hb dX1_covers_0 (by decide) ?_
  refine lv_istore_n (lv' := [(3, .int 0), (0, .ref h), (1, .long p0)]) hx hb dX1_covers_1 rfl hl (by decide) rfl (fun ls hl => ?_)
  refine lv_iconst (v := 0) hx hb dX1_covers_2 (by decide) ?_
  refine lv_istore (lv' := [(4, .int 0), (3, .int 0), (0, .ref h), (1, .long p0)]) hx hb dX1_covers_3 hl (by decide) rfl (fun ls hl => ?_)
  refine ck_loop (G := fun ls => W p l e _ s m _ below meth c _ _ _ _ _ (F0 m 5 ls [])) (nL := 5) (24) (fun i => True) (fun i => [(0, .ref h), (1, .long p0), (3, .int (ck_cn (ck_cov (bt hd) lo hi p0) i)), (4, .int (nI i))]) (fun i hle_i hj_i ih_i ls hl => ?_) ls (trivial) ?_
  rotate_left
  · have hq : lv_has ls 5 [(0, .ref h), (1, .long p0), (3, .int 0), (4, .int 0)] := lv_sub hl [2, 3, 1, 0] rfl
    exact hq
  have hl : lv_has ls 5 [(0, .ref h), (1, .long p0), (3, .int (ck_cn (ck_cov (bt hd) lo hi p0) i)), (4, .int (nI i))] := hl
  refine lv_iload hx hb dX1_covers_5 (lv_at hl 3 rfl) ?_
  refine lv_bipush (v := 24) hx hb dX1_covers_7 (by decide) ?_
  refine lv_icmp_ge (tgt := 60) hx hb dX1_covers_9 (by decide) (fun c_1 => ?_) (fun c_1 => ?_)
  · have heq_i : i = 24 := ck_eqN hle_i c_1
    subst heq_i
    have hl : lv_has ls 5 [(0, .ref h), (1, .long p0), (3, .int (ck_cn (ck_cov (bt hd) lo hi p0) 24)), (4, .int (nI 24))] := hl
    refine lv_iload_n hx hb dX1_covers_60 rfl (lv_at hl 2 rfl) ?_
    have hres : (ck_cn (ck_cov (bt hd) lo hi p0) 24) = (ck_cvs (bt hd) lo hi p0) := by rfl
    exact W.iret (v := (ck_cn (ck_cov (bt hd) lo hi p0) 24)) hx hb hr (fun t ht _ => ⟨congrArg (fun z => Outcome.returned (some (Value.int z))) hres, ht⟩) (fun _ h => nomatch h) dX1_covers_61
  · have hlt_i : i < 24 := ck_ltN hle_i c_1
    refine lv_iload_n hx hb dX1_covers_12 rfl (lv_at hl 2 rfl) ?_
    refine lv_aload_n hx hb dX1_covers_13 rfl (lv_at hl 0 rfl) ?_
    refine va_get (D := D) (ci := 1) (v := .ref a0) (C := RX1) (T := TX1) (N := 6) hx hb hts hin hown hK hP 0 rfl rfl 0 (by decide) (hts (.fieldLink RX1 7 "ClockDeskModel" "is" "[Z") (by decide +kernel)) (fun _ h9 => h9) rfl dX1_covers_14 ?_
    refine lv_iload hx hb dX1_covers_17 (lv_at hl 3 rfl) ?_
    refine ck_zald hx hb hK hP 1 0 rfl rfl (i := i) hlt_i dX1_covers_19 ?_
    refine lv_if_eq (tgt := 51) hx hb dX1_covers_20 (by decide) (fun c_2 => ?_) (fun c_2 => ?_)
    · have c_2 := ck_bf c_2
      refine lv_iconst (v := 0) hx hb dX1_covers_51 (by decide) ?_
      refine lv_iadd hx hb dX1_covers_52 ?_
      refine lv_istore_n (lv' := [(3, .int ((ck_cn (ck_cov (bt hd) lo hi p0) i) + 0)), (0, .ref h), (1, .long p0), (4, .int (nI i))]) hx hb dX1_covers_53 rfl hl (by decide) rfl (fun ls hl => ?_)
      refine lv_iinc (v := (nI (i + 1))) (lv' := [(4, .int (nI (i + 1))), (3, .int ((ck_cn (ck_cov (bt hd) lo hi p0) i) + 0)), (0, .ref h), (1, .long p0)]) hx hb dX1_covers_54 hl (k := 3) rfl (nI_1 i) (by decide) rfl (fun ls hl => ?_)
      refine lv_goto (tgt := 5) hx hb dX1_covers_57 (by decide) ?_
      refine ih_i ls hlt_i (trivial) ?_
      have hq : lv_has ls 5 [(0, .ref h), (1, .long p0), (3, .int ((ck_cn (ck_cov (bt hd) lo hi p0) i) + 0)), (4, .int (nI (i + 1)))] := lv_sub hl [2, 3, 1, 0] rfl
      have eq0 : ((ck_cn (ck_cov (bt hd) lo hi p0) i) + 0) = (ck_cn (ck_cov (bt hd) lo hi p0) (i + 1)) := by simp [ck_cn, ck_cov, c_2]
      exact lv_eqq hq (by rw [← eq0])
    · have c_2 := ck_bt c_2
      refine lv_aload_n hx hb dX1_covers_23 rfl (lv_at hl 0 rfl) ?_
      refine va_get (D := D) (ci := 1) (v := .ref a1) (C := RX1) (T := TX1) (N := 6) hx hb hts hin hown hK hP 0 rfl rfl 1 (by decide) (hts (.fieldLink RX1 13 "ClockDeskModel" "low" "[J") (by decide +kernel)) (fun _ h9 => h9) rfl dX1_covers_24 ?_
      refine lv_iload hx hb dX1_covers_27 (lv_at hl 3 rfl) ?_
      refine ck_lald hx hb hK hP 2 1 rfl rfl (i := i) hlt_i dX1_covers_29 ?_
      refine lv_lload_n hx hb dX1_covers_30 rfl (lv_at hl 1 rfl) ?_
      refine W.lcmp hx hb dX1_covers_31 ?_
      refine lv_if_gt (tgt := 51) hx hb dX1_covers_32 (by decide) (fun c_3 => ?_) (fun c_3 => ?_)
      · rw [lg_cmp_gt] at c_3
        refine lv_iconst (v := 0) hx hb dX1_covers_51 (by decide) ?_
        refine lv_iadd hx hb dX1_covers_52 ?_
        refine lv_istore_n (lv' := [(3, .int ((ck_cn (ck_cov (bt hd) lo hi p0) i) + 0)), (0, .ref h), (1, .long p0), (4, .int (nI i))]) hx hb dX1_covers_53 rfl hl (by decide) rfl (fun ls hl => ?_)
        refine lv_iinc (v := (nI (i + 1))) (lv' := [(4, .int (nI (i + 1))), (3, .int ((ck_cn (ck_cov (bt hd) lo hi p0) i) + 0)), (0, .ref h), (1, .long p0)]) hx hb dX1_covers_54 hl (k := 3) rfl (nI_1 i) (by decide) rfl (fun ls hl => ?_)
        refine lv_goto (tgt := 5) hx hb dX1_covers_57 (by decide) ?_
        refine ih_i ls hlt_i (trivial) ?_
        have hq : lv_has ls 5 [(0, .ref h), (1, .long p0), (3, .int ((ck_cn (ck_cov (bt hd) lo hi p0) i) + 0)), (4, .int (nI (i + 1)))] := lv_sub hl [2, 3, 1, 0] rfl
        have eq0 : ((ck_cn (ck_cov (bt hd) lo hi p0) i) + 0) = (ck_cn (ck_cov (bt hd) lo hi p0) (i + 1)) := by simp [ck_cn, ck_cov, c_2, c_3]
        exact lv_eqq hq (by rw [← eq0])
      · rw [lg_cmp_gt] at c_3
        refine lv_lload_n hx hb dX1_covers_35 rfl (lv_at hl 1 rfl) ?_
        refine lv_aload_n hx hb dX1_covers_36 rfl (lv_at hl 0 rfl) ?_
        refine va_get (D := D) (ci := 1) (v := .ref a2) (C := RX1) (T := TX1) (N := 6) hx hb hts hin hown hK hP 0 rfl rfl 2 (by decide) (hts (.fieldLink RX1 17 "ClockDeskModel" "high" "[J") (by decide +kernel)) (fun _ h9 => h9) rfl dX1_covers_37 ?_
        refine lv_iload hx hb dX1_covers_40 (lv_at hl 3 rfl) ?_
        refine ck_lald hx hb hK hP 3 2 rfl rfl (i := i) hlt_i dX1_covers_42 ?_
        refine W.lcmp hx hb dX1_covers_43 ?_
        refine lv_if_gt (tgt := 51) hx hb dX1_covers_44 (by decide) (fun c_4 => ?_) (fun c_4 => ?_)
        · rw [lg_cmp_gt] at c_4
          refine lv_iconst (v := 0) hx hb dX1_covers_51 (by decide) ?_
          refine lv_iadd hx hb dX1_covers_52 ?_
          refine lv_istore_n (lv' := [(3, .int ((ck_cn (ck_cov (bt hd) lo hi p0) i) + 0)), (0, .ref h), (1, .long p0), (4, .int (nI i))]) hx hb dX1_covers_53 rfl hl (by decide) rfl (fun ls hl => ?_)
          refine lv_iinc (v := (nI (i + 1))) (lv' := [(4, .int (nI (i + 1))), (3, .int ((ck_cn (ck_cov (bt hd) lo hi p0) i) + 0)), (0, .ref h), (1, .long p0)]) hx hb dX1_covers_54 hl (k := 3) rfl (nI_1 i) (by decide) rfl (fun ls hl => ?_)
          refine lv_goto (tgt := 5) hx hb dX1_covers_57 (by decide) ?_
          refine ih_i ls hlt_i (trivial) ?_
          have hq : lv_has ls 5 [(0, .ref h), (1, .long p0), (3, .int ((ck_cn (ck_cov (bt hd) lo hi p0) i) + 0)), (4, .int (nI (i + 1)))] := lv_sub hl [2, 3, 1, 0] rfl
          have eq0 : ((ck_cn (ck_cov (bt hd) lo hi p0) i) + 0) = (ck_cn (ck_cov (bt hd) lo hi p0) (i + 1)) := by simp [ck_cn, ck_cov, c_2, c_3, c_4]
          exact lv_eqq hq (by rw [← eq0])
        · rw [lg_cmp_gt] at c_4
          refine lv_iconst (v := 1) hx hb dX1_covers_47 (by decide) ?_
          refine lv_goto (tgt := 52) hx hb dX1_covers_48 (by decide) ?_
          refine lv_iadd hx hb dX1_covers_52 ?_
          refine lv_istore_n (lv' := [(3, .int ((ck_cn (ck_cov (bt hd) lo hi p0) i) + 1)), (0, .ref h), (1, .long p0), (4, .int (nI i))]) hx hb dX1_covers_53 rfl hl (by decide) rfl (fun ls hl => ?_)
          refine lv_iinc (v := (nI (i + 1))) (lv' := [(4, .int (nI (i + 1))), (3, .int ((ck_cn (ck_cov (bt hd) lo hi p0) i) + 1)), (0, .ref h), (1, .long p0)]) hx hb dX1_covers_54 hl (k := 3) rfl (nI_1 i) (by decide) rfl (fun ls hl => ?_)
          refine lv_goto (tgt := 5) hx hb dX1_covers_57 (by decide) ?_
          refine ih_i ls hlt_i (trivial) ?_
          have hq : lv_has ls 5 [(0, .ref h), (1, .long p0), (3, .int ((ck_cn (ck_cov (bt hd) lo hi p0) i) + 1)), (4, .int (nI (i + 1)))] := lv_sub hl [2, 3, 1, 0] rfl
          have eq0 : ((ck_cn (ck_cov (bt hd) lo hi p0) i) + 1) = (ck_cn (ck_cov (bt hd) lo hi p0) (i + 1)) := by simp [ck_cn, ck_cov, c_2, c_3, c_4]
          exact lv_eqq hq (by rw [← eq0])

set_option maxHeartbeats 4000000 in
set_option maxRecDepth 100000 in
theorem c_X1_greatest (l : Launch) (D : va_G) (h a0 a1 a2 : Nat) (c0 c1 c2 : ClassId) (lo hi : Nat → Int64) (hd : Int32) (ow off go : Int64) (inv : ck_inv hd lo hi)   : Met l yX1_greatest wsX1_greatest { frames := 1, cells := 0, slots := 0, locals := 24 } (va_Pc [.ref h] (ck_B D (mW h a0 a1 a2 c0 c1 c2 lo hi hd ow off go) (mT c0 c1 c2))) (ck_R (.int (ck_gr (bt hd) lo hi 24))) 0 0 (fun _ => False) := by
  refine Met.ofW (cc := cX1_greatest) (maxL := 4) (ret := (some .int)) (by decide) rfl ?_
  intro p e s m args below meth c s₁ B hml hv
  obtain ⟨rfl, hP, hK⟩ := hv
  have hx := B.exec
  have hb := B.bytes
  have hr := B.returns
  have hts := atoms_spec (ws := wsX1_greatest) B.pre
  have hown : s.vm.findClass RX1 = some m.cls := findClass_of_methodNamed B.named
  have hlocks := B.notSynchronized
  have hin : ∀ w ∈ wsX10, w ∈ wsX1_greatest := fun _ h => List.mem_cons_of_mem _ (List.mem_append_right _ h)
  have hl := lv_entry ([.ref h]) (n := 4) (Nat.le_of_ble_eq_true rfl)
  rw [lg_entry_eq]
  generalize (lg_sl ([.ref h]) ++ List.replicate (4 - (lg_sl ([.ref h])).length) Slot.unset).toArray = ls at hl ⊢
  have hl : lv_has ls 4 [(0, .ref h)] := hl
  refine lv_iconst (v := 0) hx hb dX1_greatest_0 (by decide) ?_
  refine lv_istore_n (lv' := [(1, .int 0), (0, .ref h)]) hx hb dX1_greatest_1 rfl hl (by decide) rfl (fun ls hl => ?_)
  refine lv_iconst (v := 0) hx hb dX1_greatest_2 (by decide) ?_
  refine lv_istore_n (lv' := [(2, .int 0), (1, .int 0), (0, .ref h)]) hx hb dX1_greatest_3 rfl hl (by decide) rfl (fun ls hl => ?_)
  refine ck_loop (G := fun ls => W p l e _ s m _ below meth c _ _ _ _ _ (F0 m 4 ls [])) (nL := 4) (24) (fun i => True) (fun i => [(0, .ref h), (1, .int (ck_gr (bt hd) lo hi i)), (2, .int (nI i))]) (fun i hle_i hj_i ih_i ls hl => ?_) ls (trivial) ?_
  rotate_left
  · have hq : lv_has ls 4 [(0, .ref h), (1, .int 0), (2, .int 0)] := lv_sub hl [2, 1, 0] rfl
    exact hq
  have hl : lv_has ls 4 [(0, .ref h), (1, .int (ck_gr (bt hd) lo hi i)), (2, .int (nI i))] := hl
  refine lv_iload_n hx hb dX1_greatest_4 rfl (lv_at hl 2 rfl) ?_
  refine lv_bipush (v := 24) hx hb dX1_greatest_5 (by decide) ?_
  refine lv_icmp_ge (tgt := 51) hx hb dX1_greatest_7 (by decide) (fun c_1 => ?_) (fun c_1 => ?_)
  · have heq_i : i = 24 := ck_eqN hle_i c_1
    subst heq_i
    have hl : lv_has ls 4 [(0, .ref h), (1, .int (ck_gr (bt hd) lo hi 24)), (2, .int (nI 24))] := hl
    refine lv_iload_n hx hb dX1_greatest_51 rfl (lv_at hl 1 rfl) ?_
    have hres : (ck_gr (bt hd) lo hi 24) = (ck_gr (bt hd) lo hi 24) := by rfl
    exact W.iret (v := (ck_gr (bt hd) lo hi 24)) hx hb hr (fun t ht _ => ⟨congrArg (fun z => Outcome.returned (some (Value.int z))) hres, ht⟩) (fun _ h => nomatch h) dX1_greatest_52
  · have hlt_i : i < 24 := ck_ltN hle_i c_1
    refine lv_aload_n hx hb dX1_greatest_10 rfl (lv_at hl 0 rfl) ?_
    refine va_get (D := D) (ci := 1) (v := .ref a0) (C := RX1) (T := TX1) (N := 6) hx hb hts hin hown hK hP 0 rfl rfl 0 (by decide) (hts (.fieldLink RX1 7 "ClockDeskModel" "is" "[Z") (by decide +kernel)) (fun _ h9 => h9) rfl dX1_greatest_11 ?_
    refine lv_iload_n hx hb dX1_greatest_14 rfl (lv_at hl 2 rfl) ?_
    refine ck_zald hx hb hK hP 1 0 rfl rfl (i := i) hlt_i dX1_greatest_15 ?_
    refine lv_if_eq (tgt := 32) hx hb dX1_greatest_16 (by decide) (fun c_2 => ?_) (fun c_2 => ?_)
    · have c_2 := ck_bf c_2
      refine lv_iconst (v := 0) hx hb dX1_greatest_32 (by decide) ?_
      refine lv_istore_n (lv' := [(3, .int 0), (0, .ref h), (1, .int (ck_gr (bt hd) lo hi i)), (2, .int (nI i))]) hx hb dX1_greatest_33 rfl hl (by decide) rfl (fun ls hl => ?_)
      refine lv_iload_n hx hb dX1_greatest_34 rfl (lv_at hl 0 rfl) ?_
      refine lv_iload_n hx hb dX1_greatest_35 rfl (lv_at hl 2 rfl) ?_
      refine lv_icmp_le (tgt := 43) hx hb dX1_greatest_36 (by decide) (fun c_3 => ?_) (fun c_3 => ?_)
      · refine lv_iload_n hx hb dX1_greatest_43 rfl (lv_at hl 2 rfl) ?_
        refine lv_istore_n (lv' := [(1, .int (ck_gr (bt hd) lo hi i)), (3, .int 0), (0, .ref h), (2, .int (nI i))]) hx hb dX1_greatest_44 rfl hl (by decide) rfl (fun ls hl => ?_)
        refine lv_iinc (v := (nI (i + 1))) (lv' := [(2, .int (nI (i + 1))), (1, .int (ck_gr (bt hd) lo hi i)), (3, .int 0), (0, .ref h)]) hx hb dX1_greatest_45 hl (k := 3) rfl (nI_1 i) (by decide) rfl (fun ls hl => ?_)
        refine lv_goto (tgt := 4) hx hb dX1_greatest_48 (by decide) ?_
        refine ih_i ls hlt_i (trivial) ?_
        have hq : lv_has ls 4 [(0, .ref h), (1, .int (ck_gr (bt hd) lo hi i)), (2, .int (nI (i + 1)))] := lv_sub hl [3, 1, 0] rfl
        have eq0 : (ck_gr (bt hd) lo hi i) = (ck_gr (bt hd) lo hi (i + 1)) := by first | (simp [ck_gr, c_2, ck_maxI_le c_3]; done) | (simp [ck_gr, c_2, ck_maxI_nle c_3]; done) | (simp [ck_gr, c_2]; done) | exact absurd (ck_gr_nn _ _ _ i) c_3
        exact lv_eqq hq (by rw [← eq0])
      · refine lv_iload_n hx hb dX1_greatest_39 rfl (lv_at hl 0 rfl) ?_
        refine lv_goto (tgt := 44) hx hb dX1_greatest_40 (by decide) ?_
        refine lv_istore_n (lv' := [(1, .int 0), (3, .int 0), (0, .ref h), (2, .int (nI i))]) hx hb dX1_greatest_44 rfl hl (by decide) rfl (fun ls hl => ?_)
        refine lv_iinc (v := (nI (i + 1))) (lv' := [(2, .int (nI (i + 1))), (1, .int 0), (3, .int 0), (0, .ref h)]) hx hb dX1_greatest_45 hl (k := 3) rfl (nI_1 i) (by decide) rfl (fun ls hl => ?_)
        refine lv_goto (tgt := 4) hx hb dX1_greatest_48 (by decide) ?_
        refine ih_i ls hlt_i (trivial) ?_
        have hq : lv_has ls 4 [(0, .ref h), (1, .int 0), (2, .int (nI (i + 1)))] := lv_sub hl [3, 1, 0] rfl
        have eq0 : 0 = (ck_gr (bt hd) lo hi (i + 1)) := by first | (simp [ck_gr, c_2, ck_maxI_le c_3]; done) | (simp [ck_gr, c_2, ck_maxI_nle c_3]; done) | (simp [ck_gr, c_2]; done) | exact absurd (ck_gr_nn _ _ _ i) c_3
        exact lv_eqq hq (by rw [← eq0])
    · have c_2 := ck_bt c_2
      refine lv_aload_n hx hb dX1_greatest_19 rfl (lv_at hl 0 rfl) ?_
      refine lv_aload_n hx hb dX1_greatest_20 rfl (lv_at hl 0 rfl) ?_
      refine va_get (D := D) (ci := 1) (v := .ref a1) (C := RX1) (T := TX1) (N := 6) hx hb hts hin hown hK hP 0 rfl rfl 1 (by decide) (hts (.fieldLink RX1 13 "ClockDeskModel" "low" "[J") (by decide +kernel)) (fun _ h9 => h9) rfl dX1_greatest_21 ?_
      refine lv_iload_n hx hb dX1_greatest_24 rfl (lv_at hl 2 rfl) ?_
      refine ck_lald hx hb hK hP 2 1 rfl rfl (i := i) hlt_i dX1_greatest_25 ?_
      refine ck_cV (As := [.long (lo i)]) (rest := []) ⟨hx, hb, hml, hown, hts⟩ (c_X1_covers l D h a0 a1 a2 c0 c1 c2 lo hi hd ow off go inv (lo i)) (cwV 1 hts gX1_greatest_X1_covers rfl rfl rfl (by decide +kernel) ⟨Nat.le_of_ble_eq_true rfl, Nat.le_of_ble_eq_true rfl⟩) hP hK (va_recv hK hP (ci := 1) (q0 := 0) rfl rfl) rfl hl.1 rfl (Nat.le_of_ble_eq_true rfl) dX1_greatest_26 ⟨Nat.le_of_ble_eq_true rfl, Nat.le_of_ble_eq_true rfl⟩ ?_
      refine lv_goto (tgt := 33) hx hb dX1_greatest_29 (by decide) ?_
      refine lv_istore_n (lv' := [(3, .int (ck_cvs (bt hd) lo hi (lo i))), (0, .ref h), (1, .int (ck_gr (bt hd) lo hi i)), (2, .int (nI i))]) hx hb dX1_greatest_33 rfl hl (by decide) rfl (fun ls hl => ?_)
      refine lv_iload_n hx hb dX1_greatest_34 rfl (lv_at hl 0 rfl) ?_
      refine lv_iload_n hx hb dX1_greatest_35 rfl (lv_at hl 2 rfl) ?_
      refine lv_icmp_le (tgt := 43) hx hb dX1_greatest_36 (by decide) (fun c_4 => ?_) (fun c_4 => ?_)
      · refine lv_iload_n hx hb dX1_greatest_43 rfl (lv_at hl 2 rfl) ?_
        refine lv_istore_n (lv' := [(1, .int (ck_gr (bt hd) lo hi i)), (3, .int (ck_cvs (bt hd) lo hi (lo i))), (0, .ref h), (2, .int (nI i))]) hx hb dX1_greatest_44 rfl hl (by decide) rfl (fun ls hl => ?_)
        refine lv_iinc (v := (nI (i + 1))) (lv' := [(2, .int (nI (i + 1))), (1, .int (ck_gr (bt hd) lo hi i)), (3, .int (ck_cvs (bt hd) lo hi (lo i))), (0, .ref h)]) hx hb dX1_greatest_45 hl (k := 3) rfl (nI_1 i) (by decide) rfl (fun ls hl => ?_)
        refine lv_goto (tgt := 4) hx hb dX1_greatest_48 (by decide) ?_
        refine ih_i ls hlt_i (trivial) ?_
        have hq : lv_has ls 4 [(0, .ref h), (1, .int (ck_gr (bt hd) lo hi i)), (2, .int (nI (i + 1)))] := lv_sub hl [3, 1, 0] rfl
        have eq0 : (ck_gr (bt hd) lo hi i) = (ck_gr (bt hd) lo hi (i + 1)) := by first | (simp [ck_gr, c_2, ck_maxI_le c_4]; done) | (simp [ck_gr, c_2, ck_maxI_nle c_4]; done) | (simp [ck_gr, c_2]; done) | exact absurd (ck_gr_nn _ _ _ i) c_4
        exact lv_eqq hq (by rw [← eq0])
      · refine lv_iload_n hx hb dX1_greatest_39 rfl (lv_at hl 0 rfl) ?_
        refine lv_goto (tgt := 44) hx hb dX1_greatest_40 (by decide) ?_
        refine lv_istore_n (lv' := [(1, .int (ck_cvs (bt hd) lo hi (lo i))), (3, .int (ck_cvs (bt hd) lo hi (lo i))), (0, .ref h), (2, .int (nI i))]) hx hb dX1_greatest_44 rfl hl (by decide) rfl (fun ls hl => ?_)
        refine lv_iinc (v := (nI (i + 1))) (lv' := [(2, .int (nI (i + 1))), (1, .int (ck_cvs (bt hd) lo hi (lo i))), (3, .int (ck_cvs (bt hd) lo hi (lo i))), (0, .ref h)]) hx hb dX1_greatest_45 hl (k := 3) rfl (nI_1 i) (by decide) rfl (fun ls hl => ?_)
        refine lv_goto (tgt := 4) hx hb dX1_greatest_48 (by decide) ?_
        refine ih_i ls hlt_i (trivial) ?_
        have hq : lv_has ls 4 [(0, .ref h), (1, .int (ck_cvs (bt hd) lo hi (lo i))), (2, .int (nI (i + 1)))] := lv_sub hl [3, 1, 0] rfl
        have eq0 : (ck_cvs (bt hd) lo hi (lo i)) = (ck_gr (bt hd) lo hi (i + 1)) := by first | (simp [ck_gr, c_2, ck_maxI_le c_4]; done) | (simp [ck_gr, c_2, ck_maxI_nle c_4]; done) | (simp [ck_gr, c_2]; done) | exact absurd (ck_gr_nn _ _ _ i) c_4
        exact lv_eqq hq (by rw [← eq0])

set_option maxHeartbeats 4000000 in
set_option maxRecDepth 100000 in
theorem c_X1_first (l : Launch) (D : va_G) (h a0 a1 a2 : Nat) (c0 c1 c2 : ClassId) (lo hi : Nat → Int64) (hd : Int32) (ow off go : Int64) (inv : ck_inv hd lo hi) (e0 : Int32)  : Met l yX1_first wsX1_first { frames := 1, cells := 0, slots := 0, locals := 24 } (va_Pc [.ref h, .int e0] (ck_B D (mW h a0 a1 a2 c0 c1 c2 lo hi hd ow off go) (mT c0 c1 c2))) (ck_R (.long (ck_fi (bt hd) lo hi e0 24))) 0 0 (fun _ => False) := by
  refine Met.ofW (cc := cX1_first) (maxL := 5) (ret := (some .long)) (by decide) rfl ?_
  intro p e s m args below meth c s₁ B hml hv
  obtain ⟨rfl, hP, hK⟩ := hv
  have hx := B.exec
  have hb := B.bytes
  have hr := B.returns
  have hts := atoms_spec (ws := wsX1_first) B.pre
  have hown : s.vm.findClass RX1 = some m.cls := findClass_of_methodNamed B.named
  have hlocks := B.notSynchronized
  have hin : ∀ w ∈ wsX10, w ∈ wsX1_first := fun _ h => List.mem_cons_of_mem _ (List.mem_append_right _ h)
  have hl := lv_entry ([.ref h, .int e0]) (n := 5) (Nat.le_of_ble_eq_true rfl)
  rw [lg_entry_eq]
  generalize (lg_sl ([.ref h, .int e0]) ++ List.replicate (5 - (lg_sl ([.ref h, .int e0])).length) Slot.unset).toArray = ls at hl ⊢
  have hl : lv_has ls 5 [(0, .ref h), (1, .int e0)] := hl
  refine lv_ldc2 (v := ck_NO) hx hb hown (hts (.constantLong RX1 30 ck_NO) (by decide +kernel)) dX1_first_0 ?_
  refine lv_lstore_n (lv' := [(2, .long ck_NO), (0, .ref h), (1, .int e0)]) hx hb dX1_first_3 rfl hl (by decide) rfl (fun ls hl => ?_)
  refine lv_iconst (v := 0) hx hb dX1_first_4 (by decide) ?_
  refine lv_istore (lv' := [(4, .int 0), (2, .long ck_NO), (0, .ref h), (1, .int e0)]) hx hb dX1_first_5 hl (by decide) rfl (fun ls hl => ?_)
  refine ck_loop (G := fun ls => W p l e _ s m _ below meth c _ _ _ _ _ (F0 m 7 ls [])) (nL := 5) (24) (fun i => True) (fun i => [(0, .ref h), (1, .int e0), (2, .long (ck_fi (bt hd) lo hi e0 i)), (4, .int (nI i))]) (fun i hle_i hj_i ih_i ls hl => ?_) ls (trivial) ?_
  rotate_left
  · have hq : lv_has ls 5 [(0, .ref h), (1, .int e0), (2, .long ck_NO), (4, .int 0)] := lv_sub hl [2, 3, 1, 0] rfl
    exact hq
  have hl : lv_has ls 5 [(0, .ref h), (1, .int e0), (2, .long (ck_fi (bt hd) lo hi e0 i)), (4, .int (nI i))] := hl
  refine lv_iload hx hb dX1_first_7 (lv_at hl 3 rfl) ?_
  refine lv_bipush (v := 24) hx hb dX1_first_9 (by decide) ?_
  refine lv_icmp_ge (tgt := 77) hx hb dX1_first_11 (by decide) (fun c_1 => ?_) (fun c_1 => ?_)
  · have heq_i : i = 24 := ck_eqN hle_i c_1
    subst heq_i
    have hl : lv_has ls 5 [(0, .ref h), (1, .int e0), (2, .long (ck_fi (bt hd) lo hi e0 24)), (4, .int (nI 24))] := hl
    refine lv_lload_n hx hb dX1_first_77 rfl (lv_at hl 2 rfl) ?_
    have hres : (ck_fi (bt hd) lo hi e0 24) = (ck_fi (bt hd) lo hi e0 24) := by rfl
    exact W.lret (v := (ck_fi (bt hd) lo hi e0 24)) hx hb hr (fun t ht _ => ⟨congrArg (fun z => Outcome.returned (some (Value.long z))) hres, ht⟩) (fun _ h => nomatch h) dX1_first_78
  · have hlt_i : i < 24 := ck_ltN hle_i c_1
    refine lv_aload_n hx hb dX1_first_14 rfl (lv_at hl 0 rfl) ?_
    refine va_get (D := D) (ci := 1) (v := .ref a0) (C := RX1) (T := TX1) (N := 6) hx hb hts hin hown hK hP 0 rfl rfl 0 (by decide) (hts (.fieldLink RX1 7 "ClockDeskModel" "is" "[Z") (by decide +kernel)) (fun _ h9 => h9) rfl dX1_first_15 ?_
    refine lv_iload hx hb dX1_first_18 (lv_at hl 3 rfl) ?_
    refine ck_zald hx hb hK hP 1 0 rfl rfl (i := i) hlt_i dX1_first_20 ?_
    refine lv_if_eq (tgt := 69) hx hb dX1_first_21 (by decide) (fun c_2 => ?_) (fun c_2 => ?_)
    · have c_2 := ck_bf c_2
      refine lv_lload_n hx hb dX1_first_69 rfl (lv_at hl 2 rfl) ?_
      refine lv_lstore_n (lv' := [(2, .long (ck_fi (bt hd) lo hi e0 i)), (0, .ref h), (1, .int e0), (4, .int (nI i))]) hx hb dX1_first_70 rfl hl (by decide) rfl (fun ls hl => ?_)
      refine lv_iinc (v := (nI (i + 1))) (lv' := [(4, .int (nI (i + 1))), (2, .long (ck_fi (bt hd) lo hi e0 i)), (0, .ref h), (1, .int e0)]) hx hb dX1_first_71 hl (k := 3) rfl (nI_1 i) (by decide) rfl (fun ls hl => ?_)
      refine lv_goto (tgt := 7) hx hb dX1_first_74 (by decide) ?_
      refine ih_i ls hlt_i (trivial) ?_
      have hq : lv_has ls 5 [(0, .ref h), (1, .int e0), (2, .long (ck_fi (bt hd) lo hi e0 i)), (4, .int (nI (i + 1)))] := lv_sub hl [2, 3, 1, 0] rfl
      have eq0 : (ck_fi (bt hd) lo hi e0 i) = (ck_fi (bt hd) lo hi e0 (i + 1)) := by simp [ck_fi, c_2]
      exact lv_eqq hq (by rw [← eq0])
    · have c_2 := ck_bt c_2
      refine lv_aload_n hx hb dX1_first_24 rfl (lv_at hl 0 rfl) ?_
      refine lv_aload_n hx hb dX1_first_25 rfl (lv_at hl 0 rfl) ?_
      refine va_get (D := D) (ci := 1) (v := .ref a1) (C := RX1) (T := TX1) (N := 6) hx hb hts hin hown hK hP 0 rfl rfl 1 (by decide) (hts (.fieldLink RX1 13 "ClockDeskModel" "low" "[J") (by decide +kernel)) (fun _ h9 => h9) rfl dX1_first_26 ?_
      refine lv_iload hx hb dX1_first_29 (lv_at hl 3 rfl) ?_
      refine ck_lald hx hb hK hP 2 1 rfl rfl (i := i) hlt_i dX1_first_31 ?_
      refine ck_cV (As := [.long (lo i)]) (rest := []) ⟨hx, hb, hml, hown, hts⟩ (c_X1_covers l D h a0 a1 a2 c0 c1 c2 lo hi hd ow off go inv (lo i)) (cwV 1 hts gX1_first_X1_covers rfl rfl rfl (by decide +kernel) ⟨Nat.le_of_ble_eq_true rfl, Nat.le_of_ble_eq_true rfl⟩) hP hK (va_recv hK hP (ci := 1) (q0 := 0) rfl rfl) rfl hl.1 rfl (Nat.le_of_ble_eq_true rfl) dX1_first_32 ⟨Nat.le_of_ble_eq_true rfl, Nat.le_of_ble_eq_true rfl⟩ ?_
      refine lv_iload_n hx hb dX1_first_35 rfl (lv_at hl 1 rfl) ?_
      refine lv_icmp_lt (tgt := 69) hx hb dX1_first_36 (by decide) (fun c_3 => ?_) (fun c_3 => ?_)
      · refine lv_lload_n hx hb dX1_first_69 rfl (lv_at hl 2 rfl) ?_
        refine lv_lstore_n (lv' := [(2, .long (ck_fi (bt hd) lo hi e0 i)), (0, .ref h), (1, .int e0), (4, .int (nI i))]) hx hb dX1_first_70 rfl hl (by decide) rfl (fun ls hl => ?_)
        refine lv_iinc (v := (nI (i + 1))) (lv' := [(4, .int (nI (i + 1))), (2, .long (ck_fi (bt hd) lo hi e0 i)), (0, .ref h), (1, .int e0)]) hx hb dX1_first_71 hl (k := 3) rfl (nI_1 i) (by decide) rfl (fun ls hl => ?_)
        refine lv_goto (tgt := 7) hx hb dX1_first_74 (by decide) ?_
        refine ih_i ls hlt_i (trivial) ?_
        have hq : lv_has ls 5 [(0, .ref h), (1, .int e0), (2, .long (ck_fi (bt hd) lo hi e0 i)), (4, .int (nI (i + 1)))] := lv_sub hl [2, 3, 1, 0] rfl
        have eq0 : (ck_fi (bt hd) lo hi e0 i) = (ck_fi (bt hd) lo hi e0 (i + 1)) := by simp [ck_fi, c_2, c_3]
        exact lv_eqq hq (by rw [← eq0])
      · refine lv_lload_n hx hb dX1_first_39 rfl (lv_at hl 2 rfl) ?_
        refine lv_ldc2 (v := ck_NO) hx hb hown (hts (.constantLong RX1 30 ck_NO) (by decide +kernel)) dX1_first_40 ?_
        refine W.lcmp hx hb dX1_first_43 ?_
        refine lv_if_eq (tgt := 59) hx hb dX1_first_44 (by decide) (fun c_4 => ?_) (fun c_4 => ?_)
        · rw [lg_cmp_eq] at c_4
          refine lv_aload_n hx hb dX1_first_59 rfl (lv_at hl 0 rfl) ?_
          refine va_get (D := D) (ci := 1) (v := .ref a1) (C := RX1) (T := TX1) (N := 6) hx hb hts hin hown hK hP 0 rfl rfl 1 (by decide) (hts (.fieldLink RX1 13 "ClockDeskModel" "low" "[J") (by decide +kernel)) (fun _ h9 => h9) rfl dX1_first_60 ?_
          refine lv_iload hx hb dX1_first_63 (lv_at hl 3 rfl) ?_
          refine ck_lald hx hb hK hP 2 1 rfl rfl (i := i) hlt_i dX1_first_65 ?_
          refine lv_goto (tgt := 70) hx hb dX1_first_66 (by decide) ?_
          refine lv_lstore_n (lv' := [(2, .long (lo i)), (0, .ref h), (1, .int e0), (4, .int (nI i))]) hx hb dX1_first_70 rfl hl (by decide) rfl (fun ls hl => ?_)
          refine lv_iinc (v := (nI (i + 1))) (lv' := [(4, .int (nI (i + 1))), (2, .long (lo i)), (0, .ref h), (1, .int e0)]) hx hb dX1_first_71 hl (k := 3) rfl (nI_1 i) (by decide) rfl (fun ls hl => ?_)
          refine lv_goto (tgt := 7) hx hb dX1_first_74 (by decide) ?_
          refine ih_i ls hlt_i (trivial) ?_
          have hq : lv_has ls 5 [(0, .ref h), (1, .int e0), (2, .long (lo i)), (4, .int (nI (i + 1)))] := lv_sub hl [2, 3, 1, 0] rfl
          have eq0 : (lo i) = (ck_fi (bt hd) lo hi e0 (i + 1)) := by simp [ck_fi, c_2, c_3, c_4]
          exact lv_eqq hq (by rw [← eq0])
        · rw [lg_cmp_eq] at c_4
          refine lv_aload_n hx hb dX1_first_47 rfl (lv_at hl 0 rfl) ?_
          refine va_get (D := D) (ci := 1) (v := .ref a1) (C := RX1) (T := TX1) (N := 6) hx hb hts hin hown hK hP 0 rfl rfl 1 (by decide) (hts (.fieldLink RX1 13 "ClockDeskModel" "low" "[J") (by decide +kernel)) (fun _ h9 => h9) rfl dX1_first_48 ?_
          refine lv_iload hx hb dX1_first_51 (lv_at hl 3 rfl) ?_
          refine ck_lald hx hb hK hP 2 1 rfl rfl (i := i) hlt_i dX1_first_53 ?_
          refine lv_lload_n hx hb dX1_first_54 rfl (lv_at hl 2 rfl) ?_
          refine W.lcmp hx hb dX1_first_55 ?_
          refine lv_if_ge (tgt := 69) hx hb dX1_first_56 (by decide) (fun c_5 => ?_) (fun c_5 => ?_)
          · rw [lg_cmp_ge] at c_5
            refine lv_lload_n hx hb dX1_first_69 rfl (lv_at hl 2 rfl) ?_
            refine lv_lstore_n (lv' := [(2, .long (ck_fi (bt hd) lo hi e0 i)), (0, .ref h), (1, .int e0), (4, .int (nI i))]) hx hb dX1_first_70 rfl hl (by decide) rfl (fun ls hl => ?_)
            refine lv_iinc (v := (nI (i + 1))) (lv' := [(4, .int (nI (i + 1))), (2, .long (ck_fi (bt hd) lo hi e0 i)), (0, .ref h), (1, .int e0)]) hx hb dX1_first_71 hl (k := 3) rfl (nI_1 i) (by decide) rfl (fun ls hl => ?_)
            refine lv_goto (tgt := 7) hx hb dX1_first_74 (by decide) ?_
            refine ih_i ls hlt_i (trivial) ?_
            have hq : lv_has ls 5 [(0, .ref h), (1, .int e0), (2, .long (ck_fi (bt hd) lo hi e0 i)), (4, .int (nI (i + 1)))] := lv_sub hl [2, 3, 1, 0] rfl
            have eq0 : (ck_fi (bt hd) lo hi e0 i) = (ck_fi (bt hd) lo hi e0 (i + 1)) := by simp [ck_fi, c_2, c_3, c_4, c_5]
            exact lv_eqq hq (by rw [← eq0])
          · rw [lg_cmp_ge] at c_5
            refine lv_aload_n hx hb dX1_first_59 rfl (lv_at hl 0 rfl) ?_
            refine va_get (D := D) (ci := 1) (v := .ref a1) (C := RX1) (T := TX1) (N := 6) hx hb hts hin hown hK hP 0 rfl rfl 1 (by decide) (hts (.fieldLink RX1 13 "ClockDeskModel" "low" "[J") (by decide +kernel)) (fun _ h9 => h9) rfl dX1_first_60 ?_
            refine lv_iload hx hb dX1_first_63 (lv_at hl 3 rfl) ?_
            refine ck_lald hx hb hK hP 2 1 rfl rfl (i := i) hlt_i dX1_first_65 ?_
            refine lv_goto (tgt := 70) hx hb dX1_first_66 (by decide) ?_
            refine lv_lstore_n (lv' := [(2, .long (lo i)), (0, .ref h), (1, .int e0), (4, .int (nI i))]) hx hb dX1_first_70 rfl hl (by decide) rfl (fun ls hl => ?_)
            refine lv_iinc (v := (nI (i + 1))) (lv' := [(4, .int (nI (i + 1))), (2, .long (lo i)), (0, .ref h), (1, .int e0)]) hx hb dX1_first_71 hl (k := 3) rfl (nI_1 i) (by decide) rfl (fun ls hl => ?_)
            refine lv_goto (tgt := 7) hx hb dX1_first_74 (by decide) ?_
            refine ih_i ls hlt_i (trivial) ?_
            have hq : lv_has ls 5 [(0, .ref h), (1, .int e0), (2, .long (lo i)), (4, .int (nI (i + 1)))] := lv_sub hl [2, 3, 1, 0] rfl
            have eq0 : (lo i) = (ck_fi (bt hd) lo hi e0 (i + 1)) := by simp [ck_fi, c_2, c_3, c_4, c_5]
            exact lv_eqq hq (by rw [← eq0])

set_option maxHeartbeats 4000000 in
set_option maxRecDepth 100000 in
theorem c_X1_last (l : Launch) (D : va_G) (h a0 a1 a2 : Nat) (c0 c1 c2 : ClassId) (lo hi : Nat → Int64) (hd : Int32) (ow off go : Int64) (inv : ck_inv hd lo hi) (e0 : Int32)  : Met l yX1_last wsX1_last { frames := 1, cells := 0, slots := 0, locals := 24 } (va_Pc [.ref h, .int e0] (ck_B D (mW h a0 a1 a2 c0 c1 c2 lo hi hd ow off go) (mT c0 c1 c2))) (ck_R (.long (ck_la (bt hd) lo hi e0 24))) 0 0 (fun _ => False) := by
  refine Met.ofW (cc := cX1_last) (maxL := 5) (ret := (some .long)) (by decide) rfl ?_
  intro p e s m args below meth c s₁ B hml hv
  obtain ⟨rfl, hP, hK⟩ := hv
  have hx := B.exec
  have hb := B.bytes
  have hr := B.returns
  have hts := atoms_spec (ws := wsX1_last) B.pre
  have hown : s.vm.findClass RX1 = some m.cls := findClass_of_methodNamed B.named
  have hlocks := B.notSynchronized
  have hin : ∀ w ∈ wsX10, w ∈ wsX1_last := fun _ h => List.mem_cons_of_mem _ (List.mem_append_right _ h)
  have hl := lv_entry ([.ref h, .int e0]) (n := 5) (Nat.le_of_ble_eq_true rfl)
  rw [lg_entry_eq]
  generalize (lg_sl ([.ref h, .int e0]) ++ List.replicate (5 - (lg_sl ([.ref h, .int e0])).length) Slot.unset).toArray = ls at hl ⊢
  have hl : lv_has ls 5 [(0, .ref h), (1, .int e0)] := hl
  refine lv_ldc2 (v := ck_NO) hx hb hown (hts (.constantLong RX1 30 ck_NO) (by decide +kernel)) dX1_last_0 ?_
  refine lv_lstore_n (lv' := [(2, .long ck_NO), (0, .ref h), (1, .int e0)]) hx hb dX1_last_3 rfl hl (by decide) rfl (fun ls hl => ?_)
  refine lv_iconst (v := 0) hx hb dX1_last_4 (by decide) ?_
  refine lv_istore (lv' := [(4, .int 0), (2, .long ck_NO), (0, .ref h), (1, .int e0)]) hx hb dX1_last_5 hl (by decide) rfl (fun ls hl => ?_)
  refine ck_loop (G := fun ls => W p l e _ s m _ below meth c _ _ _ _ _ (F0 m 7 ls [])) (nL := 5) (24) (fun i => True) (fun i => [(0, .ref h), (1, .int e0), (2, .long (ck_la (bt hd) lo hi e0 i)), (4, .int (nI i))]) (fun i hle_i hj_i ih_i ls hl => ?_) ls (trivial) ?_
  rotate_left
  · have hq : lv_has ls 5 [(0, .ref h), (1, .int e0), (2, .long ck_NO), (4, .int 0)] := lv_sub hl [2, 3, 1, 0] rfl
    exact hq
  have hl : lv_has ls 5 [(0, .ref h), (1, .int e0), (2, .long (ck_la (bt hd) lo hi e0 i)), (4, .int (nI i))] := hl
  refine lv_iload hx hb dX1_last_7 (lv_at hl 3 rfl) ?_
  refine lv_bipush (v := 24) hx hb dX1_last_9 (by decide) ?_
  refine lv_icmp_ge (tgt := 77) hx hb dX1_last_11 (by decide) (fun c_1 => ?_) (fun c_1 => ?_)
  · have heq_i : i = 24 := ck_eqN hle_i c_1
    subst heq_i
    have hl : lv_has ls 5 [(0, .ref h), (1, .int e0), (2, .long (ck_la (bt hd) lo hi e0 24)), (4, .int (nI 24))] := hl
    refine lv_lload_n hx hb dX1_last_77 rfl (lv_at hl 2 rfl) ?_
    have hres : (ck_la (bt hd) lo hi e0 24) = (ck_la (bt hd) lo hi e0 24) := by rfl
    exact W.lret (v := (ck_la (bt hd) lo hi e0 24)) hx hb hr (fun t ht _ => ⟨congrArg (fun z => Outcome.returned (some (Value.long z))) hres, ht⟩) (fun _ h => nomatch h) dX1_last_78
  · have hlt_i : i < 24 := ck_ltN hle_i c_1
    refine lv_aload_n hx hb dX1_last_14 rfl (lv_at hl 0 rfl) ?_
    refine va_get (D := D) (ci := 1) (v := .ref a0) (C := RX1) (T := TX1) (N := 6) hx hb hts hin hown hK hP 0 rfl rfl 0 (by decide) (hts (.fieldLink RX1 7 "ClockDeskModel" "is" "[Z") (by decide +kernel)) (fun _ h9 => h9) rfl dX1_last_15 ?_
    refine lv_iload hx hb dX1_last_18 (lv_at hl 3 rfl) ?_
    refine ck_zald hx hb hK hP 1 0 rfl rfl (i := i) hlt_i dX1_last_20 ?_
    refine lv_if_eq (tgt := 69) hx hb dX1_last_21 (by decide) (fun c_2 => ?_) (fun c_2 => ?_)
    · have c_2 := ck_bf c_2
      refine lv_lload_n hx hb dX1_last_69 rfl (lv_at hl 2 rfl) ?_
      refine lv_lstore_n (lv' := [(2, .long (ck_la (bt hd) lo hi e0 i)), (0, .ref h), (1, .int e0), (4, .int (nI i))]) hx hb dX1_last_70 rfl hl (by decide) rfl (fun ls hl => ?_)
      refine lv_iinc (v := (nI (i + 1))) (lv' := [(4, .int (nI (i + 1))), (2, .long (ck_la (bt hd) lo hi e0 i)), (0, .ref h), (1, .int e0)]) hx hb dX1_last_71 hl (k := 3) rfl (nI_1 i) (by decide) rfl (fun ls hl => ?_)
      refine lv_goto (tgt := 7) hx hb dX1_last_74 (by decide) ?_
      refine ih_i ls hlt_i (trivial) ?_
      have hq : lv_has ls 5 [(0, .ref h), (1, .int e0), (2, .long (ck_la (bt hd) lo hi e0 i)), (4, .int (nI (i + 1)))] := lv_sub hl [2, 3, 1, 0] rfl
      have eq0 : (ck_la (bt hd) lo hi e0 i) = (ck_la (bt hd) lo hi e0 (i + 1)) := by first | (simp [ck_la, c_2]; done) | (simp [ck_la, ck_max_le c_2, c_2]; done) | (simp [ck_la, ck_max_nle c_2, c_2]; done) | (simp [ck_la, ck_max_NO (inv.2 i), c_2]; done)
      exact lv_eqq hq (by rw [← eq0])
    · have c_2 := ck_bt c_2
      refine lv_aload_n hx hb dX1_last_24 rfl (lv_at hl 0 rfl) ?_
      refine lv_aload_n hx hb dX1_last_25 rfl (lv_at hl 0 rfl) ?_
      refine va_get (D := D) (ci := 1) (v := .ref a2) (C := RX1) (T := TX1) (N := 6) hx hb hts hin hown hK hP 0 rfl rfl 2 (by decide) (hts (.fieldLink RX1 17 "ClockDeskModel" "high" "[J") (by decide +kernel)) (fun _ h9 => h9) rfl dX1_last_26 ?_
      refine lv_iload hx hb dX1_last_29 (lv_at hl 3 rfl) ?_
      refine ck_lald hx hb hK hP 3 2 rfl rfl (i := i) hlt_i dX1_last_31 ?_
      refine ck_cV (As := [.long (hi i)]) (rest := []) ⟨hx, hb, hml, hown, hts⟩ (c_X1_covers l D h a0 a1 a2 c0 c1 c2 lo hi hd ow off go inv (hi i)) (cwV 1 hts gX1_last_X1_covers rfl rfl rfl (by decide +kernel) ⟨Nat.le_of_ble_eq_true rfl, Nat.le_of_ble_eq_true rfl⟩) hP hK (va_recv hK hP (ci := 1) (q0 := 0) rfl rfl) rfl hl.1 rfl (Nat.le_of_ble_eq_true rfl) dX1_last_32 ⟨Nat.le_of_ble_eq_true rfl, Nat.le_of_ble_eq_true rfl⟩ ?_
      refine lv_iload_n hx hb dX1_last_35 rfl (lv_at hl 1 rfl) ?_
      refine lv_icmp_lt (tgt := 69) hx hb dX1_last_36 (by decide) (fun c_3 => ?_) (fun c_3 => ?_)
      · refine lv_lload_n hx hb dX1_last_69 rfl (lv_at hl 2 rfl) ?_
        refine lv_lstore_n (lv' := [(2, .long (ck_la (bt hd) lo hi e0 i)), (0, .ref h), (1, .int e0), (4, .int (nI i))]) hx hb dX1_last_70 rfl hl (by decide) rfl (fun ls hl => ?_)
        refine lv_iinc (v := (nI (i + 1))) (lv' := [(4, .int (nI (i + 1))), (2, .long (ck_la (bt hd) lo hi e0 i)), (0, .ref h), (1, .int e0)]) hx hb dX1_last_71 hl (k := 3) rfl (nI_1 i) (by decide) rfl (fun ls hl => ?_)
        refine lv_goto (tgt := 7) hx hb dX1_last_74 (by decide) ?_
        refine ih_i ls hlt_i (trivial) ?_
        have hq : lv_has ls 5 [(0, .ref h), (1, .int e0), (2, .long (ck_la (bt hd) lo hi e0 i)), (4, .int (nI (i + 1)))] := lv_sub hl [2, 3, 1, 0] rfl
        have eq0 : (ck_la (bt hd) lo hi e0 i) = (ck_la (bt hd) lo hi e0 (i + 1)) := by first | (simp [ck_la, c_2, c_3]; done) | (simp [ck_la, ck_max_le c_3, c_2, c_3]; done) | (simp [ck_la, ck_max_nle c_3, c_2, c_3]; done) | (simp [ck_la, ck_max_NO (inv.2 i), c_2, c_3]; done)
        exact lv_eqq hq (by rw [← eq0])
      · refine lv_lload_n hx hb dX1_last_39 rfl (lv_at hl 2 rfl) ?_
        refine lv_ldc2 (v := ck_NO) hx hb hown (hts (.constantLong RX1 30 ck_NO) (by decide +kernel)) dX1_last_40 ?_
        refine W.lcmp hx hb dX1_last_43 ?_
        refine lv_if_eq (tgt := 59) hx hb dX1_last_44 (by decide) (fun c_4 => ?_) (fun c_4 => ?_)
        · rw [lg_cmp_eq] at c_4
          refine lv_aload_n hx hb dX1_last_59 rfl (lv_at hl 0 rfl) ?_
          refine va_get (D := D) (ci := 1) (v := .ref a2) (C := RX1) (T := TX1) (N := 6) hx hb hts hin hown hK hP 0 rfl rfl 2 (by decide) (hts (.fieldLink RX1 17 "ClockDeskModel" "high" "[J") (by decide +kernel)) (fun _ h9 => h9) rfl dX1_last_60 ?_
          refine lv_iload hx hb dX1_last_63 (lv_at hl 3 rfl) ?_
          refine ck_lald hx hb hK hP 3 2 rfl rfl (i := i) hlt_i dX1_last_65 ?_
          refine lv_goto (tgt := 70) hx hb dX1_last_66 (by decide) ?_
          refine lv_lstore_n (lv' := [(2, .long (hi i)), (0, .ref h), (1, .int e0), (4, .int (nI i))]) hx hb dX1_last_70 rfl hl (by decide) rfl (fun ls hl => ?_)
          refine lv_iinc (v := (nI (i + 1))) (lv' := [(4, .int (nI (i + 1))), (2, .long (hi i)), (0, .ref h), (1, .int e0)]) hx hb dX1_last_71 hl (k := 3) rfl (nI_1 i) (by decide) rfl (fun ls hl => ?_)
          refine lv_goto (tgt := 7) hx hb dX1_last_74 (by decide) ?_
          refine ih_i ls hlt_i (trivial) ?_
          have hq : lv_has ls 5 [(0, .ref h), (1, .int e0), (2, .long (hi i)), (4, .int (nI (i + 1)))] := lv_sub hl [2, 3, 1, 0] rfl
          have eq0 : (hi i) = (ck_la (bt hd) lo hi e0 (i + 1)) := by first | (simp [ck_la, c_2, c_3, c_4]; done) | (simp [ck_la, ck_max_le c_4, c_2, c_3, c_4]; done) | (simp [ck_la, ck_max_nle c_4, c_2, c_3, c_4]; done) | (simp [ck_la, ck_max_NO (inv.2 i), c_2, c_3, c_4]; done)
          exact lv_eqq hq (by rw [← eq0])
        · rw [lg_cmp_eq] at c_4
          refine lv_aload_n hx hb dX1_last_47 rfl (lv_at hl 0 rfl) ?_
          refine va_get (D := D) (ci := 1) (v := .ref a2) (C := RX1) (T := TX1) (N := 6) hx hb hts hin hown hK hP 0 rfl rfl 2 (by decide) (hts (.fieldLink RX1 17 "ClockDeskModel" "high" "[J") (by decide +kernel)) (fun _ h9 => h9) rfl dX1_last_48 ?_
          refine lv_iload hx hb dX1_last_51 (lv_at hl 3 rfl) ?_
          refine ck_lald hx hb hK hP 3 2 rfl rfl (i := i) hlt_i dX1_last_53 ?_
          refine lv_lload_n hx hb dX1_last_54 rfl (lv_at hl 2 rfl) ?_
          refine W.lcmp hx hb dX1_last_55 ?_
          refine lv_if_le (tgt := 69) hx hb dX1_last_56 (by decide) (fun c_5 => ?_) (fun c_5 => ?_)
          · rw [lg_cmp_le] at c_5
            refine lv_lload_n hx hb dX1_last_69 rfl (lv_at hl 2 rfl) ?_
            refine lv_lstore_n (lv' := [(2, .long (ck_la (bt hd) lo hi e0 i)), (0, .ref h), (1, .int e0), (4, .int (nI i))]) hx hb dX1_last_70 rfl hl (by decide) rfl (fun ls hl => ?_)
            refine lv_iinc (v := (nI (i + 1))) (lv' := [(4, .int (nI (i + 1))), (2, .long (ck_la (bt hd) lo hi e0 i)), (0, .ref h), (1, .int e0)]) hx hb dX1_last_71 hl (k := 3) rfl (nI_1 i) (by decide) rfl (fun ls hl => ?_)
            refine lv_goto (tgt := 7) hx hb dX1_last_74 (by decide) ?_
            refine ih_i ls hlt_i (trivial) ?_
            have hq : lv_has ls 5 [(0, .ref h), (1, .int e0), (2, .long (ck_la (bt hd) lo hi e0 i)), (4, .int (nI (i + 1)))] := lv_sub hl [2, 3, 1, 0] rfl
            have eq0 : (ck_la (bt hd) lo hi e0 i) = (ck_la (bt hd) lo hi e0 (i + 1)) := by first | (simp [ck_la, c_2, c_3, c_4, c_5]; done) | (simp [ck_la, ck_max_le c_5, c_2, c_3, c_4, c_5]; done) | (simp [ck_la, ck_max_nle c_5, c_2, c_3, c_4, c_5]; done) | (simp [ck_la, ck_max_NO (inv.2 i), c_2, c_3, c_4, c_5]; done)
            exact lv_eqq hq (by rw [← eq0])
          · rw [lg_cmp_le] at c_5
            refine lv_aload_n hx hb dX1_last_59 rfl (lv_at hl 0 rfl) ?_
            refine va_get (D := D) (ci := 1) (v := .ref a2) (C := RX1) (T := TX1) (N := 6) hx hb hts hin hown hK hP 0 rfl rfl 2 (by decide) (hts (.fieldLink RX1 17 "ClockDeskModel" "high" "[J") (by decide +kernel)) (fun _ h9 => h9) rfl dX1_last_60 ?_
            refine lv_iload hx hb dX1_last_63 (lv_at hl 3 rfl) ?_
            refine ck_lald hx hb hK hP 3 2 rfl rfl (i := i) hlt_i dX1_last_65 ?_
            refine lv_goto (tgt := 70) hx hb dX1_last_66 (by decide) ?_
            refine lv_lstore_n (lv' := [(2, .long (hi i)), (0, .ref h), (1, .int e0), (4, .int (nI i))]) hx hb dX1_last_70 rfl hl (by decide) rfl (fun ls hl => ?_)
            refine lv_iinc (v := (nI (i + 1))) (lv' := [(4, .int (nI (i + 1))), (2, .long (hi i)), (0, .ref h), (1, .int e0)]) hx hb dX1_last_71 hl (k := 3) rfl (nI_1 i) (by decide) rfl (fun ls hl => ?_)
            refine lv_goto (tgt := 7) hx hb dX1_last_74 (by decide) ?_
            refine ih_i ls hlt_i (trivial) ?_
            have hq : lv_has ls 5 [(0, .ref h), (1, .int e0), (2, .long (hi i)), (4, .int (nI (i + 1)))] := lv_sub hl [2, 3, 1, 0] rfl
            have eq0 : (hi i) = (ck_la (bt hd) lo hi e0 (i + 1)) := by first | (simp [ck_la, c_2, c_3, c_4, c_5]; done) | (simp [ck_la, ck_max_le c_5, c_2, c_3, c_4, c_5]; done) | (simp [ck_la, ck_max_nle c_5, c_2, c_3, c_4, c_5]; done) | (simp [ck_la, ck_max_NO (inv.2 i), c_2, c_3, c_4, c_5]; done)
            exact lv_eqq hq (by rw [← eq0])

set_option maxHeartbeats 4000000 in
set_option maxRecDepth 100000 in
theorem c_X1_hull (l : Launch) (D : va_G) (h a0 a1 a2 : Nat) (c0 c1 c2 : ClassId) (lo hi : Nat → Int64) (hd : Int32) (ow off go : Int64) (inv : ck_inv hd lo hi) (f0 : Int32) (en : Int32)  : Met l yX1_hull wsX1_hull { frames := 2, cells := 0, slots := 0, locals := 48 } (va_Pc [.ref h, .int f0, .int en] (ck_B D (mW h a0 a1 a2 c0 c1 c2 lo hi hd ow off go) (mT c0 c1 c2))) (ck_R (.long (ck_hl hd lo hi f0 en))) 0 0 (fun _ => False) := by
  refine Met.ofW (cc := cX1_hull) (maxL := 4) (ret := (some .long)) (by decide) rfl ?_
  intro p e s m args below meth c s₁ B hml hv
  obtain ⟨rfl, hP, hK⟩ := hv
  have hx := B.exec
  have hb := B.bytes
  have hr := B.returns
  have hts := atoms_spec (ws := wsX1_hull) B.pre
  have hown : s.vm.findClass RX1 = some m.cls := findClass_of_methodNamed B.named
  have hlocks := B.notSynchronized
  have hin : ∀ w ∈ wsX10, w ∈ wsX1_hull := fun _ h => List.mem_cons_of_mem _ (List.mem_append_right _ h)
  have hl := lv_entry ([.ref h, .int f0, .int en]) (n := 4) (Nat.le_of_ble_eq_true rfl)
  rw [lg_entry_eq]
  generalize (lg_sl ([.ref h, .int f0, .int en]) ++ List.replicate (4 - (lg_sl ([.ref h, .int f0, .int en])).length) Slot.unset).toArray = ls at hl ⊢
  have hl : lv_has ls 4 [(0, .ref h), (1, .int f0), (2, .int en)] := hl
  refine lv_aload_n hx hb dX1_hull_0 rfl (lv_at hl 0 rfl) ?_
  refine ck_cV (As := []) (rest := []) ⟨hx, hb, hml, hown, hts⟩ (c_X1_sources l D h a0 a1 a2 c0 c1 c2 lo hi hd ow off go inv ) (cwV 0 hts gX1_hull_X1_sources rfl rfl rfl (by decide +kernel) ⟨Nat.le_of_ble_eq_true rfl, Nat.le_of_ble_eq_true rfl⟩) hP hK (va_recv hK hP (ci := 1) (q0 := 0) rfl rfl) rfl hl.1 rfl (Nat.le_of_ble_eq_true rfl) dX1_hull_1 ⟨Nat.le_of_ble_eq_true rfl, Nat.le_of_ble_eq_true rfl⟩ ?_
  refine lv_istore_n (lv' := [(3, .int (ck_ns hd)), (0, .ref h), (1, .int f0), (2, .int en)]) hx hb dX1_hull_4 rfl hl (by decide) rfl (fun ls hl => ?_)
  refine lv_iload_n hx hb dX1_hull_5 rfl (lv_at hl 2 rfl) ?_
  refine lv_if_lt (tgt := 23) hx hb dX1_hull_6 (by decide) (fun c_1 => ?_) (fun c_1 => ?_)
  · refine lv_ldc2 (v := ck_NO) hx hb hown (hts (.constantLong RX1 30 ck_NO) (by decide +kernel)) dX1_hull_23 ?_
    have hres : ck_NO = (ck_hl hd lo hi f0 en) := by simp [ck_hl, c_1]
    exact W.lret (v := ck_NO) hx hb hr (fun t ht _ => ⟨congrArg (fun z => Outcome.returned (some (Value.long z))) hres, ht⟩) (fun _ h => nomatch h) dX1_hull_26
  · refine lv_iload_n hx hb dX1_hull_9 rfl (lv_at hl 2 rfl) ?_
    refine lv_iload_n hx hb dX1_hull_10 rfl (lv_at hl 0 rfl) ?_
    refine lv_icmp_ge (tgt := 23) hx hb dX1_hull_11 (by decide) (fun c_2 => ?_) (fun c_2 => ?_)
    · refine lv_ldc2 (v := ck_NO) hx hb hown (hts (.constantLong RX1 30 ck_NO) (by decide +kernel)) dX1_hull_23 ?_
      have hres : ck_NO = (ck_hl hd lo hi f0 en) := by simp [ck_hl, c_1, c_2]
      exact W.lret (v := ck_NO) hx hb hr (fun t ht _ => ⟨congrArg (fun z => Outcome.returned (some (Value.long z))) hres, ht⟩) (fun _ h => nomatch h) dX1_hull_26
    · refine lv_iload_n hx hb dX1_hull_14 rfl (lv_at hl 3 rfl) ?_
      refine lv_if_lt (tgt := 23) hx hb dX1_hull_15 (by decide) (fun c_3 => ?_) (fun c_3 => ?_)
      · refine lv_ldc2 (v := ck_NO) hx hb hown (hts (.constantLong RX1 30 ck_NO) (by decide +kernel)) dX1_hull_23 ?_
        have hres : ck_NO = (ck_hl hd lo hi f0 en) := by first | (simp [ck_hl, ck_zoN c_3, c_1, c_2, c_3]; done) | (simp [ck_hl, ck_zo, c_1, c_2, c_3]; done)
        exact W.lret (v := ck_NO) hx hb hr (fun t ht _ => ⟨congrArg (fun z => Outcome.returned (some (Value.long z))) hres, ht⟩) (fun _ h => nomatch h) dX1_hull_26
      · refine lv_iload_n hx hb dX1_hull_18 rfl (lv_at hl 3 rfl) ?_
        refine lv_iconst (v := 1) hx hb dX1_hull_19 (by decide) ?_
        refine lv_icmp_le (tgt := 27) hx hb dX1_hull_20 (by decide) (fun c_4 => ?_) (fun c_4 => ?_)
        · refine lv_iload_n hx hb dX1_hull_27 rfl (lv_at hl 3 rfl) ?_
          refine lv_if_ne (tgt := 41) hx hb dX1_hull_28 (by decide) (fun c_5 => ?_) (fun c_5 => ?_)
          · refine lv_aload_n hx hb dX1_hull_41 rfl (lv_at hl 1 rfl) ?_
            refine lv_iload_n hx hb dX1_hull_42 rfl (lv_at hl 0 rfl) ?_
            refine lv_iload_n hx hb dX1_hull_43 rfl (lv_at hl 2 rfl) ?_
            refine lv_isub hx hb dX1_hull_44 ?_
            refine ck_cV (As := [.int ((ck_ns hd) - f0)]) (rest := []) ⟨hx, hb, hml, hown, hts⟩ (c_X1_last l D h a0 a1 a2 c0 c1 c2 lo hi hd ow off go inv ((ck_ns hd) - f0)) (cwV 1 hts gX1_hull_X1_last rfl rfl rfl (by decide +kernel) ⟨Nat.le_of_ble_eq_true rfl, Nat.le_of_ble_eq_true rfl⟩) hP hK (va_recv hK hP (ci := 1) (q0 := 0) rfl rfl) rfl hl.1 rfl (Nat.le_of_ble_eq_true rfl) dX1_hull_45 ⟨Nat.le_of_ble_eq_true rfl, Nat.le_of_ble_eq_true rfl⟩ ?_
            have hres : (ck_la (bt hd) lo hi ((ck_ns hd) - f0) 24) = (ck_hl hd lo hi f0 en) := by first | (simp [ck_hl, ck_zoI c_3 c_4, c_1, c_2, c_3, c_4, c_5]; done) | (simp [ck_hl, ck_zo, c_1, c_2, c_3, c_4, c_5]; done)
            exact W.lret (v := (ck_la (bt hd) lo hi ((ck_ns hd) - f0) 24)) hx hb hr (fun t ht _ => ⟨congrArg (fun z => Outcome.returned (some (Value.long z))) hres, ht⟩) (fun _ h => nomatch h) dX1_hull_48
          · refine lv_aload_n hx hb dX1_hull_31 rfl (lv_at hl 1 rfl) ?_
            refine lv_iload_n hx hb dX1_hull_32 rfl (lv_at hl 0 rfl) ?_
            refine lv_iload_n hx hb dX1_hull_33 rfl (lv_at hl 2 rfl) ?_
            refine lv_isub hx hb dX1_hull_34 ?_
            refine ck_cV (As := [.int ((ck_ns hd) - f0)]) (rest := []) ⟨hx, hb, hml, hown, hts⟩ (c_X1_first l D h a0 a1 a2 c0 c1 c2 lo hi hd ow off go inv ((ck_ns hd) - f0)) (cwV 1 hts gX1_hull_X1_first rfl rfl rfl (by decide +kernel) ⟨Nat.le_of_ble_eq_true rfl, Nat.le_of_ble_eq_true rfl⟩) hP hK (va_recv hK hP (ci := 1) (q0 := 0) rfl rfl) rfl hl.1 rfl (Nat.le_of_ble_eq_true rfl) dX1_hull_35 ⟨Nat.le_of_ble_eq_true rfl, Nat.le_of_ble_eq_true rfl⟩ ?_
            refine lv_goto (tgt := 48) hx hb dX1_hull_38 (by decide) ?_
            have hres : (ck_fi (bt hd) lo hi ((ck_ns hd) - f0) 24) = (ck_hl hd lo hi f0 en) := by first | (simp [ck_hl, ck_zoI c_3 c_4, c_1, c_2, c_3, c_4, c_5]; done) | (simp [ck_hl, ck_zo, c_1, c_2, c_3, c_4, c_5]; done)
            exact W.lret (v := (ck_fi (bt hd) lo hi ((ck_ns hd) - f0) 24)) hx hb hr (fun t ht _ => ⟨congrArg (fun z => Outcome.returned (some (Value.long z))) hres, ht⟩) (fun _ h => nomatch h) dX1_hull_48
        · refine lv_ldc2 (v := ck_NO) hx hb hown (hts (.constantLong RX1 30 ck_NO) (by decide +kernel)) dX1_hull_23 ?_
          have hres : ck_NO = (ck_hl hd lo hi f0 en) := by first | (simp [ck_hl, ck_zoB c_4, c_1, c_2, c_3, c_4]; done) | (simp [ck_hl, ck_zo, c_1, c_2, c_3, c_4]; done)
          exact W.lret (v := ck_NO) hx hb hr (fun t ht _ => ⟨congrArg (fun z => Outcome.returned (some (Value.long z))) hres, ht⟩) (fun _ h => nomatch h) dX1_hull_26

set_option maxHeartbeats 4000000 in
set_option maxRecDepth 100000 in
theorem c_X1_middle (l : Launch) (D : va_G) (h a0 a1 a2 : Nat) (c0 c1 c2 : ClassId) (lo hi : Nat → Int64) (hd : Int32) (ow off go : Int64) (inv : ck_inv hd lo hi)  (j : Nat) (hj : j < 24) : Met l yX1_middle wsX1_middle { frames := 1, cells := 0, slots := 0, locals := 21 } (va_Pc [.ref h, .int (nI j)] (ck_B D (mW h a0 a1 a2 c0 c1 c2 lo hi hd ow off go) (mT c0 c1 c2))) (ck_R (.long (ck_mid lo hi j))) 0 0 (fun _ => False) := by
  refine Met.ofW (cc := cX1_middle) (maxL := 2) (ret := (some .long)) (by decide) rfl ?_
  intro p e s m args below meth c s₁ B hml hv
  obtain ⟨rfl, hP, hK⟩ := hv
  have hx := B.exec
  have hb := B.bytes
  have hr := B.returns
  have hts := atoms_spec (ws := wsX1_middle) B.pre
  have hown : s.vm.findClass RX1 = some m.cls := findClass_of_methodNamed B.named
  have hlocks := B.notSynchronized
  have hin : ∀ w ∈ wsX10, w ∈ wsX1_middle := fun _ h => List.mem_cons_of_mem _ (List.mem_append_right _ h)
  have hl := lv_entry ([.ref h, .int (nI j)]) (n := 2) (Nat.le_of_ble_eq_true rfl)
  rw [lg_entry_eq]
  generalize (lg_sl ([.ref h, .int (nI j)]) ++ List.replicate (2 - (lg_sl ([.ref h, .int (nI j)])).length) Slot.unset).toArray = ls at hl ⊢
  have hl : lv_has ls 2 [(0, .ref h), (1, .int (nI j))] := hl
  refine lv_aload_n hx hb dX1_middle_0 rfl (lv_at hl 0 rfl) ?_
  refine va_get (D := D) (ci := 1) (v := .ref a1) (C := RX1) (T := TX1) (N := 6) hx hb hts hin hown hK hP 0 rfl rfl 1 (by decide) (hts (.fieldLink RX1 13 "ClockDeskModel" "low" "[J") (by decide +kernel)) (fun _ h9 => h9) rfl dX1_middle_1 ?_
  refine lv_iload_n hx hb dX1_middle_4 rfl (lv_at hl 1 rfl) ?_
  refine ck_lald hx hb hK hP 2 1 rfl rfl (i := j) hj dX1_middle_5 ?_
  refine lv_aload_n hx hb dX1_middle_6 rfl (lv_at hl 0 rfl) ?_
  refine va_get (D := D) (ci := 1) (v := .ref a2) (C := RX1) (T := TX1) (N := 6) hx hb hts hin hown hK hP 0 rfl rfl 2 (by decide) (hts (.fieldLink RX1 17 "ClockDeskModel" "high" "[J") (by decide +kernel)) (fun _ h9 => h9) rfl dX1_middle_7 ?_
  refine lv_iload_n hx hb dX1_middle_10 rfl (lv_at hl 1 rfl) ?_
  refine ck_lald hx hb hK hP 3 2 rfl rfl (i := j) hj dX1_middle_11 ?_
  refine lv_ladd hx hb dX1_middle_12 ?_
  refine ck_cS (As := [.long ((lo j) + (hi j))]) (rest := []) ⟨hx, hb, hml, hown, hts⟩ (c_X1_half l ((lo j) + (hi j))) (va_cwS 1 hts gX1_middle_X1_half rfl rfl rfl (by decide +kernel) ⟨Nat.le_of_ble_eq_true rfl, Nat.le_of_ble_eq_true rfl⟩) rfl hl.1 rfl (Nat.le_of_ble_eq_true rfl) dX1_middle_13 ⟨Nat.le_of_ble_eq_true rfl, Nat.le_of_ble_eq_true rfl⟩ ?_
  have hres : (ck_half ((lo j) + (hi j))) = (ck_mid lo hi j) := by rfl
  exact W.lret (v := (ck_half ((lo j) + (hi j)))) hx hb hr (fun t ht _ => ⟨congrArg (fun z => Outcome.returned (some (Value.long z))) hres, ht⟩) (fun _ h => nomatch h) dX1_middle_16

set_option maxHeartbeats 4000000 in
set_option maxRecDepth 100000 in
theorem c_X1_read (l : Launch) (D : va_G) (h a0 a1 a2 : Nat) (c0 c1 c2 : ClassId) (lo hi : Nat → Int64) (hd : Int32) (ow off go : Int64) (inv : ck_inv hd lo hi)   : Met l yX1_read wsX1_read { frames := 0, cells := 0, slots := 0, locals := 0 } (va_Pc [.ref h] (ck_B D (mW h a0 a1 a2 c0 c1 c2 lo hi hd ow off go) (mT c0 c1 c2))) (ck_R (.long (ow + off))) 0 0 (fun _ => False) := by
  refine Met.ofW (cc := cX1_read) (maxL := 1) (ret := (some .long)) (by decide) rfl ?_
  intro p e s m args below meth c s₁ B hml hv
  obtain ⟨rfl, hP, hK⟩ := hv
  have hx := B.exec
  have hb := B.bytes
  have hr := B.returns
  have hts := atoms_spec (ws := wsX1_read) B.pre
  have hown : s.vm.findClass RX1 = some m.cls := findClass_of_methodNamed B.named
  have hlocks := B.notSynchronized
  have hin : ∀ w ∈ wsX10, w ∈ wsX1_read := fun _ h => List.mem_cons_of_mem _ (List.mem_append_right _ h)
  have hl := lv_entry ([.ref h]) (n := 1) (Nat.le_of_ble_eq_true rfl)
  rw [lg_entry_eq]
  generalize (lg_sl ([.ref h]) ++ List.replicate (1 - (lg_sl ([.ref h])).length) Slot.unset).toArray = ls at hl ⊢
  have hl : lv_has ls 1 [(0, .ref h)] := hl
  refine lv_aload_n hx hb dX1_read_0 rfl (lv_at hl 0 rfl) ?_
  refine va_get (D := D) (ci := 1) (v := .long ow) (C := RX1) (T := TX1) (N := 6) hx hb hts hin hown hK hP 0 rfl rfl 3 (by decide) (hts (.fieldLink RX1 75 "ClockDeskModel" "now" "J") (by decide +kernel)) (fun _ h9 => h9) rfl dX1_read_1 ?_
  refine lv_aload_n hx hb dX1_read_4 rfl (lv_at hl 0 rfl) ?_
  refine va_get (D := D) (ci := 1) (v := .long off) (C := RX1) (T := TX1) (N := 6) hx hb hts hin hown hK hP 0 rfl rfl 4 (by decide) (hts (.fieldLink RX1 84 "ClockDeskModel" "offset" "J") (by decide +kernel)) (fun _ h9 => h9) rfl dX1_read_5 ?_
  refine lv_ladd hx hb dX1_read_8 ?_
  have hres : (ow + off) = (ow + off) := by rfl
  exact W.lret (v := (ow + off)) hx hb hr (fun t ht _ => ⟨congrArg (fun z => Outcome.returned (some (Value.long z))) hres, ht⟩) (fun _ h => nomatch h) dX1_read_9

set_option maxHeartbeats 4000000 in
set_option maxRecDepth 100000 in
theorem c_X1_offset (l : Launch) (D : va_G) (h a0 a1 a2 : Nat) (c0 c1 c2 : ClassId) (lo hi : Nat → Int64) (hd : Int32) (ow off go : Int64) (inv : ck_inv hd lo hi) (x : Int32)  : Met l yX1_offset wsX1_offset { frames := 0, cells := 0, slots := 0, locals := 0 } (va_Pc [.ref h, .int x] (ck_B D (mW h a0 a1 a2 c0 c1 c2 lo hi hd ow off go) (mT c0 c1 c2))) (ck_R (.long (ck_of off go x))) 0 0 (fun _ => False) := by
  refine Met.ofW (cc := cX1_offset) (maxL := 2) (ret := (some .long)) (by decide) rfl ?_
  intro p e s m args below meth c s₁ B hml hv
  obtain ⟨rfl, hP, hK⟩ := hv
  have hx := B.exec
  have hb := B.bytes
  have hr := B.returns
  have hts := atoms_spec (ws := wsX1_offset) B.pre
  have hown : s.vm.findClass RX1 = some m.cls := findClass_of_methodNamed B.named
  have hlocks := B.notSynchronized
  have hin : ∀ w ∈ wsX10, w ∈ wsX1_offset := fun _ h => List.mem_cons_of_mem _ (List.mem_append_right _ h)
  have hl := lv_entry ([.ref h, .int x]) (n := 2) (Nat.le_of_ble_eq_true rfl)
  rw [lg_entry_eq]
  generalize (lg_sl ([.ref h, .int x]) ++ List.replicate (2 - (lg_sl ([.ref h, .int x])).length) Slot.unset).toArray = ls at hl ⊢
  have hl : lv_has ls 2 [(0, .ref h), (1, .int x)] := hl
  refine lv_iload_n hx hb dX1_offset_0 rfl (lv_at hl 1 rfl) ?_
  refine lv_if_ne (tgt := 11) hx hb dX1_offset_1 (by decide) (fun c_1 => ?_) (fun c_1 => ?_)
  · refine lv_iload_n hx hb dX1_offset_11 rfl (lv_at hl 1 rfl) ?_
    refine lv_iconst (v := 1) hx hb dX1_offset_12 (by decide) ?_
    refine lv_icmp_ne (tgt := 23) hx hb dX1_offset_13 (by decide) (fun c_2 => ?_) (fun c_2 => ?_)
    · refine lv_ldc2 (v := ck_NO) hx hb hown (hts (.constantLong RX1 30 ck_NO) (by decide +kernel)) dX1_offset_23 ?_
      have hres : ck_NO = (ck_of off go x) := by first | (simp [ck_of, c_1, c_2]; done) | simp [ck_of, ck_zo, c_1, c_2]
      exact W.lret (v := ck_NO) hx hb hr (fun t ht _ => ⟨congrArg (fun z => Outcome.returned (some (Value.long z))) hres, ht⟩) (fun _ h => nomatch h) dX1_offset_26
    · refine lv_aload_n hx hb dX1_offset_16 rfl (lv_at hl 0 rfl) ?_
      refine va_get (D := D) (ci := 1) (v := .long go) (C := RX1) (T := TX1) (N := 6) hx hb hts hin hown hK hP 0 rfl rfl 5 (by decide) (hts (.fieldLink RX1 81 "ClockDeskModel" "goal" "J") (by decide +kernel)) (fun _ h9 => h9) rfl dX1_offset_17 ?_
      refine lv_goto (tgt := 26) hx hb dX1_offset_20 (by decide) ?_
      have hres : go = (ck_of off go x) := by first | (simp [ck_of, c_1, c_2]; done) | simp [ck_of, ck_zo, c_1, c_2]
      exact W.lret (v := go) hx hb hr (fun t ht _ => ⟨congrArg (fun z => Outcome.returned (some (Value.long z))) hres, ht⟩) (fun _ h => nomatch h) dX1_offset_26
  · refine lv_aload_n hx hb dX1_offset_4 rfl (lv_at hl 0 rfl) ?_
    refine va_get (D := D) (ci := 1) (v := .long off) (C := RX1) (T := TX1) (N := 6) hx hb hts hin hown hK hP 0 rfl rfl 4 (by decide) (hts (.fieldLink RX1 84 "ClockDeskModel" "offset" "J") (by decide +kernel)) (fun _ h9 => h9) rfl dX1_offset_5 ?_
    refine lv_goto (tgt := 26) hx hb dX1_offset_8 (by decide) ?_
    have hres : off = (ck_of off go x) := by first | (simp [ck_of, c_1]; done) | simp [ck_of, ck_zo, c_1]
    exact W.lret (v := off) hx hb hr (fun t ht _ => ⟨congrArg (fun z => Outcome.returned (some (Value.long z))) hres, ht⟩) (fun _ h => nomatch h) dX1_offset_26

set_option maxHeartbeats 4000000 in
set_option maxRecDepth 100000 in
theorem c_X1_settles (l : Launch) (D : va_G) (h a0 a1 a2 : Nat) (c0 c1 c2 : ClassId) (lo hi : Nat → Int64) (hd : Int32) (ow off go : Int64) (inv : ck_inv hd lo hi)   : Met l yX1_settles wsX1_settles { frames := 1, cells := 0, slots := 0, locals := 21 } (va_Pc [.ref h] (ck_B D (mW h a0 a1 a2 c0 c1 c2 lo hi hd ow off go) (mT c0 c1 c2))) (ck_R (.long (ck_st off go))) 0 0 (fun _ => False) := by
  refine Met.ofW (cc := cX1_settles) (maxL := 3) (ret := (some .long)) (by decide) rfl ?_
  intro p e s m args below meth c s₁ B hml hv
  obtain ⟨rfl, hP, hK⟩ := hv
  have hx := B.exec
  have hb := B.bytes
  have hr := B.returns
  have hts := atoms_spec (ws := wsX1_settles) B.pre
  have hown : s.vm.findClass RX1 = some m.cls := findClass_of_methodNamed B.named
  have hlocks := B.notSynchronized
  have hin : ∀ w ∈ wsX10, w ∈ wsX1_settles := fun _ h => List.mem_cons_of_mem _ (List.mem_append_right _ h)
  have hl := lv_entry ([.ref h]) (n := 3) (Nat.le_of_ble_eq_true rfl)
  rw [lg_entry_eq]
  generalize (lg_sl ([.ref h]) ++ List.replicate (3 - (lg_sl ([.ref h])).length) Slot.unset).toArray = ls at hl ⊢
  have hl : lv_has ls 3 [(0, .ref h)] := hl
  refine lv_aload_n hx hb dX1_settles_0 rfl (lv_at hl 0 rfl) ?_
  refine va_get (D := D) (ci := 1) (v := .long go) (C := RX1) (T := TX1) (N := 6) hx hb hts hin hown hK hP 0 rfl rfl 5 (by decide) (hts (.fieldLink RX1 81 "ClockDeskModel" "goal" "J") (by decide +kernel)) (fun _ h9 => h9) rfl dX1_settles_1 ?_
  refine lv_aload_n hx hb dX1_settles_4 rfl (lv_at hl 0 rfl) ?_
  refine va_get (D := D) (ci := 1) (v := .long off) (C := RX1) (T := TX1) (N := 6) hx hb hts hin hown hK hP 0 rfl rfl 4 (by decide) (hts (.fieldLink RX1 84 "ClockDeskModel" "offset" "J") (by decide +kernel)) (fun _ h9 => h9) rfl dX1_settles_5 ?_
  refine lv_lsub hx hb dX1_settles_8 ?_
  refine ck_cS (As := [.long (go - off)]) (rest := []) ⟨hx, hb, hml, hown, hts⟩ (c_X1_size l (go - off)) (va_cwS 1 hts gX1_settles_X1_size rfl rfl rfl (by decide +kernel) ⟨Nat.le_of_ble_eq_true rfl, Nat.le_of_ble_eq_true rfl⟩) rfl hl.1 rfl (Nat.le_of_ble_eq_true rfl) dX1_settles_9 ⟨Nat.le_of_ble_eq_true rfl, Nat.le_of_ble_eq_true rfl⟩ ?_
  refine lv_lstore_n (lv' := [(1, .long (ck_abs (go - off))), (0, .ref h)]) hx hb dX1_settles_12 rfl hl (by decide) rfl (fun ls hl => ?_)
  refine lv_lload_n hx hb dX1_settles_13 rfl (lv_at hl 0 rfl) ?_
  refine lv_ldc2 (v := ck_REACH) hx hb hown (hts (.constantLong RX1 87 ck_REACH) (by decide +kernel)) dX1_settles_14 ?_
  refine W.lcmp hx hb dX1_settles_17 ?_
  refine lv_if_le (tgt := 27) hx hb dX1_settles_18 (by decide) (fun c_1 => ?_) (fun c_1 => ?_)
  · rw [lg_cmp_le] at c_1
    refine lv_lload_n hx hb dX1_settles_27 rfl (lv_at hl 0 rfl) ?_
    refine lv_ldc2 (v := 2000) hx hb hown (hts (.constantLong RX1 79 2000) (by decide +kernel)) dX1_settles_28 ?_
    refine lv_lmul hx hb dX1_settles_31 ?_
    have hres : ((ck_abs (go - off)) * 2000) = (ck_st off go) := by simp [ck_st, c_1]
    exact W.lret (v := ((ck_abs (go - off)) * 2000)) hx hb hr (fun t ht _ => ⟨congrArg (fun z => Outcome.returned (some (Value.long z))) hres, ht⟩) (fun _ h => nomatch h) dX1_settles_32
  · rw [lg_cmp_le] at c_1
    refine lv_ldc2 (v := ck_NO) hx hb hown (hts (.constantLong RX1 30 ck_NO) (by decide +kernel)) dX1_settles_21 ?_
    refine lv_goto (tgt := 32) hx hb dX1_settles_24 (by decide) ?_
    have hres : ck_NO = (ck_st off go) := by simp [ck_st, c_1]
    exact W.lret (v := ck_NO) hx hb hr (fun t ht _ => ⟨congrArg (fun z => Outcome.returned (some (Value.long z))) hres, ht⟩) (fun _ h => nomatch h) dX1_settles_32
end
section
-- counts, the region's row, the greatest number
theorem ck_cN_mono {P Q : Nat → Bool} : ∀ n, (∀ j, j < n → P j = true → Q j = true) → ck_cN P n ≤ ck_cN Q n
  | 0, _ => Nat.le_refl 0
  | n + 1, h => by
    have ih := ck_cN_mono n (fun j hj => h j (by omega))
    show (if P n then ck_cN P n + 1 else ck_cN P n) ≤ (if Q n then ck_cN Q n + 1 else ck_cN Q n)
    cases hp : P n with
    | true =>
      rw [h n (by omega) hp]
      simp only [if_true]
      omega
    | false =>
      cases Q n <;> simp <;> omega
theorem ck_cN_lt {P Q : Nat → Bool} : ∀ n, (∀ j, j < n → P j = true → Q j = true) → (∃ j, j < n ∧ Q j = true ∧ P j = false) → ck_cN P n < ck_cN Q n
  | 0, _, ⟨j, hj, _⟩ => absurd hj (Nat.not_lt_zero j)
  | n + 1, h, ⟨j, hj, hq, hp⟩ => by
    have im := ck_cN_mono n (fun j hj => h j (by omega))
    show (if P n then ck_cN P n + 1 else ck_cN P n) < (if Q n then ck_cN Q n + 1 else ck_cN Q n)
    rcases Nat.lt_or_ge j n with q | q
    · have ih := ck_cN_lt n (fun j hj => h j (by omega)) ⟨j, q, hq, hp⟩
      cases hpn : P n with
      | true =>
        rw [h n (by omega) hpn]
        simp only [if_true]
        omega
      | false =>
        cases Q n <;> simp <;> omega
    · have e : j = n := by omega
      subst e
      rw [hp, hq]
      simp
      omega
theorem ck_cN_ex {P : Nat → Bool} : ∀ n, ¬ ck_cN P n = 0 → ∃ j, j < n ∧ P j = true
  | 0, h => absurd rfl h
  | n + 1, h => by
    cases hp : P n with
    | true => exact ⟨n, by omega, hp⟩
    | false =>
      have h1 : ¬ (if P n then ck_cN P n + 1 else ck_cN P n) = 0 := h
      rw [hp] at h1
      obtain ⟨j, hj, hpj⟩ := ck_cN_ex n h1
      exact ⟨j, by omega, hpj⟩
theorem ck_cN_pos {P : Nat → Bool} {n j : Nat} (hj : j < n) (h : P j = true) : 0 < ck_cN P n := by
  have := ck_cN_lt (P := fun _ => false) (Q := P) n (fun _ _ q => by cases q) ⟨j, hj, h, rfl⟩
  omega
theorem ck_cn0 {P : Nat → Bool} {n : Nat} (hn : n < 2 ^ 31) : ck_cn P n = 0 ↔ ck_cN P n = 0 := by
  rw [ck_cn_N]
  have h := ck_cN_le P n
  constructor
  · intro q
    exact (nI_eq (a := ck_cN P n) (b := 0) (by omega) (by omega)).mp q
  · intro q
    rw [q]
    rfl
theorem ck_cov_iff {is : Nat → Bool} {lo hi : Nat → Int64} {p : Int64} {j : Nat} : ck_cov is lo hi p j = true ↔ is j = true ∧ (lo j).toInt ≤ p.toInt ∧ p.toInt ≤ (hi j).toInt := by
  simp only [ck_cov, Bool.and_eq_true, Bool.not_eq_true', decide_eq_false_iff_not, Int64.lt_iff_toInt_lt]
  constructor
  · rintro ⟨a, b, c⟩
    exact ⟨a, by omega, by omega⟩
  · rintro ⟨a, b, c⟩
    exact ⟨a, by omega, by omega⟩
theorem ck_cvs_ex {is : Nat → Bool} {lo hi : Nat → Int64} {p : Int64} (h : ¬ ck_cvs is lo hi p = 0) : ∃ j, j < 24 ∧ is j = true ∧ (lo j).toInt ≤ p.toInt ∧ p.toInt ≤ (hi j).toInt := by
  obtain ⟨j, hj, hc⟩ := ck_cN_ex 24 (fun q => h ((ck_cn0 (by omega)).mpr q))
  exact ⟨j, hj, ck_cov_iff.mp hc⟩
def ck_in8 (lo hi : Nat → Int64) : Prop := ∀ j, ck_NFAR ≤ lo j ∧ lo j ≤ hi j ∧ hi j ≤ ck_FAR
theorem ck_in8T {lo hi : Nat → Int64} (h : ck_in8 lo hi) (j : Nat) : -288230376151711744 ≤ (lo j).toInt ∧ (lo j).toInt ≤ (hi j).toInt ∧ (hi j).toInt ≤ 288230376151711744 := by
  obtain ⟨h1, h2, h3⟩ := h j
  rw [Int64.le_iff_toInt_le, ck_toI_NFAR] at h1
  rw [Int64.le_iff_toInt_le] at h2
  rw [Int64.le_iff_toInt_le, ck_toI_FAR] at h3
  exact ⟨h1, h2, h3⟩
theorem ck_minT (x y : Int64) : (ck_min x y).toInt ≤ x.toInt ∧ (ck_min x y).toInt ≤ y.toInt ∧ (ck_min x y = x ∨ ck_min x y = y) := by
  unfold ck_min
  by_cases q : y < x
  · rw [if_pos q]
    rw [Int64.lt_iff_toInt_lt] at q
    exact ⟨by omega, by omega, Or.inr rfl⟩
  · rw [if_neg q]
    rw [Int64.lt_iff_toInt_lt] at q
    exact ⟨by omega, by omega, Or.inl rfl⟩
theorem ck_fhT (is : Nat → Bool) (lo hi : Nat → Int64) (p : Int64) (hp : p.toInt ≤ 288230376151711744) : ∀ n, (ck_fh is lo hi p n).toInt ≤ 288230376151711744 ∧ p.toInt ≤ (ck_fh is lo hi p n).toInt ∧ (∀ j, j < n → ck_cov is lo hi p j = true → (ck_fh is lo hi p n).toInt ≤ (hi j).toInt) ∧ (ck_fh is lo hi p n = ck_FAR ∨ ∃ j, j < n ∧ ck_cov is lo hi p j = true ∧ ck_fh is lo hi p n = hi j)
  | 0 => ⟨by show ck_FAR.toInt ≤ _; rw [ck_toI_FAR]; omega, by show _ ≤ ck_FAR.toInt; rw [ck_toI_FAR]; exact hp, fun j hj => absurd hj (Nat.not_lt_zero j), Or.inl rfl⟩
  | n + 1 => by
    obtain ⟨h1, h2, h3, h4⟩ := ck_fhT is lo hi p hp n
    have e : ck_fh is lo hi p (n + 1) = if ck_cov is lo hi p n then ck_min (ck_fh is lo hi p n) (hi n) else ck_fh is lo hi p n := rfl
    cases hc : ck_cov is lo hi p n with
    | false =>
      rw [hc] at e
      rw [e]
      simp only [Bool.false_eq_true, if_false]
      refine ⟨h1, h2, fun j hj hcj => ?_, ?_⟩
      · rcases Nat.lt_or_ge j n with q | q
        · exact h3 j q hcj
        · rw [show j = n by omega, hc] at hcj; cases hcj
      · rcases h4 with q | ⟨j, hj, a, b⟩
        · exact Or.inl q
        · exact Or.inr ⟨j, by omega, a, b⟩
    | true =>
      rw [hc] at e
      rw [e]
      simp only [if_true]
      obtain ⟨m1, m2, m3⟩ := ck_minT (ck_fh is lo hi p n) (hi n)
      have hcn := ck_cov_iff.mp hc
      refine ⟨by omega, ?_, fun j hj hcj => ?_, ?_⟩
      · rcases m3 with q | q <;> rw [q] <;> omega
      · rcases Nat.lt_or_ge j n with q | q
        · have := h3 j q hcj
          omega
        · rw [show j = n by omega]; exact m2
      · rcases m3 with q | q
        · rw [q]
          rcases h4 with z | ⟨j, hj, a, b⟩
          · exact Or.inl z
          · exact Or.inr ⟨j, by omega, a, b⟩
        · exact Or.inr ⟨n, by omega, hc, q⟩
theorem ck_add1 {e : Int64} (h : e.toInt ≤ 288230376151711744) : (e + 1).toInt = e.toInt + 1 := by
  have h2 := e.le_toInt
  rw [Int64.toInt_add, ck_i1]
  exact ck_mb (by omega) (by omega)
/-- one step of the row: it reaches another high -/
theorem ck_row {is : Nat → Bool} {lo hi : Nat → Int64} (h8 : ck_in8 lo hi) {e : Int64} (he : e.toInt ≤ 288230376151711744) (h : ¬ ck_cvs is lo hi (e + 1) = 0) : e.toInt < (ck_fh is lo hi (e + 1) 24).toInt ∧ (ck_fh is lo hi (e + 1) 24).toInt ≤ 288230376151711744 ∧ ∃ j, j < 24 ∧ is j = true ∧ hi j = ck_fh is lo hi (e + 1) 24 := by
  obtain ⟨j, hj, hi1, hl, hh⟩ := ck_cvs_ex h
  have hb := ck_in8T h8 j
  have h1 := ck_add1 he
  obtain ⟨a1, a2, a3, a4⟩ := ck_fhT is lo hi (e + 1) (by omega) 24
  refine ⟨by omega, a1, ?_⟩
  rcases a4 with q | ⟨k, hk, hc, q⟩
  · refine ⟨j, hj, hi1, ?_⟩
    have h2 := a3 j hj (ck_cov_iff.mpr ⟨hi1, hl, hh⟩)
    rw [q] at h2 ⊢
    rw [ck_toI_FAR] at h2
    exact Int64.toInt_inj.mp (by rw [ck_toI_FAR]; omega)
  · exact ⟨k, hk, (ck_cov_iff.mp hc).1, q.symm⟩
theorem ck_er_far {is : Nat → Bool} {lo hi : Nat → Int64} (h8 : ck_in8 lo hi) {f : Int64} (hf : f.toInt ≤ 288230376151711744) {most : Int32} (hm : ¬ most = 0) : ∀ k, (ck_er is lo hi f most k).toInt ≤ 288230376151711744
  | 0 => (ck_fhT is lo hi f hf 24).1
  | k + 1 => by
    have ih := ck_er_far h8 hf hm k (is := is)
    show (if ck_cvs is lo hi (ck_er is lo hi f most k + 1) = most then ck_fh is lo hi (ck_er is lo hi f most k + 1) 24 else ck_er is lo hi f most k).toInt ≤ _
    by_cases c : ck_cvs is lo hi (ck_er is lo hi f most k + 1) = most
    · rw [if_pos c]
      exact (ck_row h8 ih (by rw [c]; exact hm)).2.1
    · rw [if_neg c]
      exact ih
theorem ck_er_cnt {is : Nat → Bool} {lo hi : Nat → Int64} (h8 : ck_in8 lo hi) {f : Int64} (hf : f.toInt ≤ 288230376151711744) {most : Int32} (hm : ¬ most = 0) : ∀ k, ck_cvs is lo hi (ck_er is lo hi f most k + 1) = most → ck_cN (fun j => is j && decide (ck_er is lo hi f most k < hi j)) 24 + k ≤ 24
  | 0, _ => by rw [Nat.add_zero]; exact ck_cN_le _ 24
  | k + 1, c => by
    have e : ck_er is lo hi f most (k + 1) = if ck_cvs is lo hi (ck_er is lo hi f most k + 1) = most then ck_fh is lo hi (ck_er is lo hi f most k + 1) 24 else ck_er is lo hi f most k := rfl
    by_cases ck : ck_cvs is lo hi (ck_er is lo hi f most k + 1) = most
    · have ih := ck_er_cnt h8 hf hm k ck
      rw [if_pos ck] at e
      obtain ⟨r1, r2, j, hj, hi1, hi2⟩ := ck_row h8 (ck_er_far h8 hf hm k) (show ¬ ck_cvs is lo hi (ck_er is lo hi f most k + 1) = 0 by rw [ck]; exact hm)
      have hlt := ck_cN_lt (P := fun j => is j && decide (ck_er is lo hi f most (k + 1) < hi j)) (Q := fun j => is j && decide (ck_er is lo hi f most k < hi j)) 24 (fun i _ hp => by
        simp only [Bool.and_eq_true, decide_eq_true_eq, Int64.lt_iff_toInt_lt] at hp ⊢
        rw [e] at hp
        exact ⟨hp.1, by omega⟩) ⟨j, hj, by
          simp only [Bool.and_eq_true, decide_eq_true_eq, Int64.lt_iff_toInt_lt]
          rw [hi2]
          exact ⟨hi1, r1⟩, by
          rw [e, hi2]
          simp⟩
      omega
    · rw [if_neg ck] at e
      rw [e] at c
      exact absurd c ck
theorem ck_er_end {is : Nat → Bool} {lo hi : Nat → Int64} (h8 : ck_in8 lo hi) {f : Int64} (hf : f.toInt ≤ 288230376151711744) {most : Int32} (hm : ¬ most = 0) {k : Nat} (c : ck_cvs is lo hi (ck_er is lo hi f most k + 1) = most) : k < 24 := by
  have h1 := ck_er_cnt h8 hf hm k c
  have hfar := ck_er_far h8 hf hm k (is := is)
  obtain ⟨j, hj, hi1, hl, hh⟩ := ck_cvs_ex (show ¬ ck_cvs is lo hi (ck_er is lo hi f most k + 1) = 0 by rw [c]; exact hm)
  have h2 := ck_add1 hfar
  have := ck_cN_pos (P := fun j => is j && decide (ck_er is lo hi f most k < hi j)) hj (by
    simp only [Bool.and_eq_true, decide_eq_true_eq, Int64.lt_iff_toInt_lt]
    exact ⟨hi1, by omega⟩)
  omega
def ck_rp (is : Nat → Bool) (lo hi : Nat → Int64) (f : Int64) (most : Int32) : Nat → Int64
  | 0 => f
  | k + 1 => if ck_cvs is lo hi (ck_er is lo hi f most k + 1) = most then ck_er is lo hi f most k + 1 else ck_er is lo hi f most k
def ck_rm (is : Nat → Bool) (lo hi : Nat → Int64) (f : Int64) (most : Int32) : Nat → Bool
  | 0 => true
  | k + 1 => decide (ck_cvs is lo hi (ck_er is lo hi f most k + 1) = most)
theorem ck_rp_end {is : Nat → Bool} {lo hi : Nat → Int64} {f : Int64} {most : Int32} {i : Nat} (h : ck_rm is lo hi f most i = false) (hle : i ≤ 25) : ck_rp is lo hi f most i = ck_er is lo hi f most 24 := by
  cases i with
  | zero => cases h
  | succ k =>
    have c : ¬ ck_cvs is lo hi (ck_er is lo hi f most k + 1) = most := of_decide_eq_false h
    show (if _ then _ else _) = _
    rw [if_neg c]
    exact ck_er_stop c (by omega)
theorem ck_rm_lt {is : Nat → Bool} {lo hi : Nat → Int64} (h8 : ck_in8 lo hi) {f : Int64} (hf : f.toInt ≤ 288230376151711744) {most : Int32} (hm : ¬ most = 0) {i : Nat} (h : ck_rm is lo hi f most i = true) (hle : i ≤ 25) : i < 25 := by
  rcases Nat.lt_or_ge i 25 with q | q
  · exact q
  · have e : i = 24 + 1 := by omega
    subst e
    exact absurd (ck_er_end h8 hf hm (of_decide_eq_true h)) (Nat.lt_irrefl 24)
theorem ck_fi_far (is : Nat → Bool) {lo hi : Nat → Int64} (h8 : ck_in8 lo hi) (e : Int32) : ∀ n, (ck_fi is lo hi e n).toInt ≤ 288230376151711744
  | 0 => by show ck_NO.toInt ≤ _; rw [ck_toI_NO]; omega
  | n + 1 => by
    have ih := ck_fi_far is h8 e n
    have hb := ck_in8T h8 n
    show (if _ then lo n else ck_fi is lo hi e n).toInt ≤ _
    split
    · omega
    · exact ih
theorem ck_maxIT (x y : Int32) : x.toInt ≤ (ck_maxI x y).toInt ∧ y.toInt ≤ (ck_maxI x y).toInt := by
  unfold ck_maxI
  by_cases q : x < y
  · rw [if_pos q]
    rw [Int32.lt_iff_toInt_lt] at q
    exact ⟨by omega, by omega⟩
  · rw [if_neg q]
    rw [Int32.lt_iff_toInt_lt] at q
    exact ⟨by omega, by omega⟩
theorem ck_gr_ge (is : Nat → Bool) (lo hi : Nat → Int64) : ∀ n j, j < n → is j = true → (ck_cvs is lo hi (lo j)).toInt ≤ (ck_gr is lo hi n).toInt
  | 0, j, hj, _ => absurd hj (Nat.not_lt_zero j)
  | n + 1, j, hj, h => by
    show _ ≤ (if is n then ck_maxI (ck_gr is lo hi n) (ck_cvs is lo hi (lo n)) else ck_gr is lo hi n).toInt
    have m := ck_maxIT (ck_gr is lo hi n) (ck_cvs is lo hi (lo n))
    rcases Nat.lt_or_ge j n with q | q
    · have ih := ck_gr_ge is lo hi n j q h
      split <;> omega
    · have e : j = n := by omega
      subst e
      rw [h]
      simp only [if_true]
      omega
theorem ck_gr_zero (lo hi : Nat → Int64) : ∀ n, ck_gr (bt 0) lo hi n = 0
  | 0 => rfl
  | n + 1 => by
    show (if bt 0 n then _ else ck_gr (bt 0) lo hi n) = 0
    rw [b_0, ck_gr_zero lo hi n]
    rfl
theorem ck_hd0 {hd : Int32} (h : ∀ j, 24 ≤ j → bt hd j = false) (h2 : ∀ j, j < 24 → bt hd j = false) : hd = 0 := b_ext (fun j _ => by
  rw [b_0]
  rcases Nat.lt_or_ge j 24 with q | q
  · exact h2 j q
  · exact h j q)
theorem ck_gr0 {hd : Int32} {lo hi : Nat → Int64} (inv : ck_inv hd lo hi) : ck_gr (bt hd) lo hi 24 = 0 ↔ hd = 0 := by
  constructor
  · intro q
    refine ck_hd0 inv.1 (fun j hj => ?_)
    cases hb : bt hd j with
    | false => rfl
    | true =>
      have h1 := ck_gr_ge (bt hd) lo hi 24 j hj hb
      rw [q] at h1
      have h2 := ck_cvs_nn (bt hd) lo hi (lo j)
      rw [Int32.le_iff_toInt_le] at h2
      have h3 : ck_cvs (bt hd) lo hi (lo j) = 0 := Int32.toInt_inj.mp (by omega)
      have h4 := ck_cN_0 24 ((ck_cn0 (by omega)).mp h3) j hj
      have h5 := ck_in8T inv.2 j
      have h6 : ck_cov (bt hd) lo hi (lo j) j = true := ck_cov_iff.mpr ⟨hb, by omega, by omega⟩
      rw [h6] at h4
      cases h4
  · intro q
    rw [q]
    exact ck_gr_zero lo hi 24
theorem ck_ns0 {hd : Int32} : ck_ns hd = 0 ↔ hd = 0 := by
  constructor
  · intro q
    have h0 := (ck_cn0 (P := bt hd) (n := 32) (by omega)).mp q
    exact b_ext (fun j hj => by rw [ck_cN_0 32 h0 j hj, b_0])
  · intro q
    rw [q]
    decide +kernel
theorem ck_min_ge {x y : Int64} (h : x ≤ y) : ck_min x y = x := by
  unfold ck_min
  rw [if_neg]
  intro q
  rw [Int64.lt_iff_toInt_lt] at q
  rw [Int64.le_iff_toInt_le] at h
  omega
theorem ck_min_nge {x y : Int64} (h : ¬ x ≤ y) : ck_min x y = y := by
  unfold ck_min
  rw [if_pos]
  rw [Int64.lt_iff_toInt_lt]
  rw [Int64.le_iff_toInt_le] at h
  omega
theorem ck_rp_s (is : Nat → Bool) (lo hi : Nat → Int64) (f : Int64) (most : Int32) (k : Nat) : ck_rp is lo hi f most (k + 1) = if ck_cvs is lo hi (ck_er is lo hi f most k + 1) = most then ck_er is lo hi f most k + 1 else ck_er is lo hi f most k := rfl
theorem ck_rm_s (is : Nat → Bool) (lo hi : Nat → Int64) (f : Int64) (most : Int32) (k : Nat) : ck_rm is lo hi f most (k + 1) = decide (ck_cvs is lo hi (ck_er is lo hi f most k + 1) = most) := rfl
theorem ck_bt_or (set : Int32) {i : Nat} (hi : i < 24) (k : Nat) : bt (set ||| ((1 : Int32) <<< (nI i &&& 31))) k = (bt set k || decide (k = i)) := by
  rcases Nat.lt_or_ge k 32 with h | h
  · rw [b_or, ck_pow (by omega) h]
  · rw [b_big h, b_big h, decide_eq_false (by omega)]
    rfl
theorem ck_bt_wo (set : Int32) {i : Nat} (hi : i < 24) (k : Nat) : bt (ck_wo set (nI i)) k = (bt set k && !decide (k = i)) := by
  unfold ck_wo
  rcases Nat.lt_or_ge k 32 with h | h
  · rw [b_and, b_xor, ck_pow (by omega) h, b_m1 k h]
    cases bt set k <;> cases decide (k = i) <;> rfl
  · rw [b_big h, b_big h]
    rfl
end
section
set_option maxHeartbeats 4000000 in
set_option maxRecDepth 100000 in
theorem c_X1_region (l : Launch) (D : va_G) (h a0 a1 a2 : Nat) (c0 c1 c2 : ClassId) (lo hi : Nat → Int64) (hd : Int32) (ow off go : Int64) (inv : ck_inv hd lo hi) (en : Int32)  : Met l yX1_region wsX1_region { frames := 2, cells := 0, slots := 0, locals := 48 } (va_Pc [.ref h, .int en] (ck_B D (mW h a0 a1 a2 c0 c1 c2 lo hi hd ow off go) (mT c0 c1 c2))) (ck_R (.long (ck_rg hd lo hi en))) 0 0 (fun _ => False) := by
  refine Met.ofW (cc := cX1_region) (maxL := 9) (ret := (some .long)) (by decide) rfl ?_
  intro p e s m args below meth c s₁ B hml hv
  obtain ⟨rfl, hP, hK⟩ := hv
  have hx := B.exec
  have hb := B.bytes
  have hr := B.returns
  have hts := atoms_spec (ws := wsX1_region) B.pre
  have hown : s.vm.findClass RX1 = some m.cls := findClass_of_methodNamed B.named
  have hlocks := B.notSynchronized
  have hin : ∀ w ∈ wsX10, w ∈ wsX1_region := fun _ h => List.mem_cons_of_mem _ (List.mem_append_right _ h)
  have hl := lv_entry ([.ref h, .int en]) (n := 9) (Nat.le_of_ble_eq_true rfl)
  rw [lg_entry_eq]
  generalize (lg_sl ([.ref h, .int en]) ++ List.replicate (9 - (lg_sl ([.ref h, .int en])).length) Slot.unset).toArray = ls at hl ⊢
  have hl : lv_has ls 9 [(0, .ref h), (1, .int en)] := hl
  refine lv_aload_n hx hb dX1_region_0 rfl (lv_at hl 0 rfl) ?_
  refine ck_cV (As := []) (rest := []) ⟨hx, hb, hml, hown, hts⟩ (c_X1_greatest l D h a0 a1 a2 c0 c1 c2 lo hi hd ow off go inv ) (cwV 0 hts gX1_region_X1_greatest rfl rfl rfl (by decide +kernel) ⟨Nat.le_of_ble_eq_true rfl, Nat.le_of_ble_eq_true rfl⟩) hP hK (va_recv hK hP (ci := 1) (q0 := 0) rfl rfl) rfl hl.1 rfl (Nat.le_of_ble_eq_true rfl) dX1_region_1 ⟨Nat.le_of_ble_eq_true rfl, Nat.le_of_ble_eq_true rfl⟩ ?_
  refine lv_istore_n (lv' := [(2, .int (ck_gr (bt hd) lo hi 24)), (0, .ref h), (1, .int en)]) hx hb dX1_region_4 rfl hl (by decide) rfl (fun ls hl => ?_)
  refine lv_iload_n hx hb dX1_region_5 rfl (lv_at hl 0 rfl) ?_
  refine lv_if_eq (tgt := 18) hx hb dX1_region_6 (by decide) (fun c_1 => ?_) (fun c_1 => ?_)
  · refine lv_ldc2 (v := ck_NO) hx hb hown (hts (.constantLong RX1 30 ck_NO) (by decide +kernel)) dX1_region_18 ?_
    have hres : ck_NO = (ck_rg hd lo hi en) := by simp [ck_rg, (ck_gr0 inv).mp c_1]
    exact W.lret (v := ck_NO) hx hb hr (fun t ht _ => ⟨congrArg (fun z => Outcome.returned (some (Value.long z))) hres, ht⟩) (fun _ h => nomatch h) dX1_region_21
  · refine lv_iload_n hx hb dX1_region_9 rfl (lv_at hl 2 rfl) ?_
    refine lv_if_lt (tgt := 18) hx hb dX1_region_10 (by decide) (fun c_2 => ?_) (fun c_2 => ?_)
    · refine lv_ldc2 (v := ck_NO) hx hb hown (hts (.constantLong RX1 30 ck_NO) (by decide +kernel)) dX1_region_18 ?_
      have hres : ck_NO = (ck_rg hd lo hi en) := by have hne : ¬ hd = 0 := fun q => c_1 ((ck_gr0 inv).mpr q); first | (simp [ck_rg, hne, ck_zoN c_2, c_1, c_2]; done) | (simp [ck_rg, hne, ck_zo, c_1, c_2]; done)
      exact W.lret (v := ck_NO) hx hb hr (fun t ht _ => ⟨congrArg (fun z => Outcome.returned (some (Value.long z))) hres, ht⟩) (fun _ h => nomatch h) dX1_region_21
    · refine lv_iload_n hx hb dX1_region_13 rfl (lv_at hl 2 rfl) ?_
      refine lv_iconst (v := 1) hx hb dX1_region_14 (by decide) ?_
      refine lv_icmp_le (tgt := 22) hx hb dX1_region_15 (by decide) (fun c_3 => ?_) (fun c_3 => ?_)
      · refine lv_aload_n hx hb dX1_region_22 rfl (lv_at hl 1 rfl) ?_
        refine lv_iload_n hx hb dX1_region_23 rfl (lv_at hl 0 rfl) ?_
        refine ck_cV (As := [.int (ck_gr (bt hd) lo hi 24)]) (rest := []) ⟨hx, hb, hml, hown, hts⟩ (c_X1_first l D h a0 a1 a2 c0 c1 c2 lo hi hd ow off go inv (ck_gr (bt hd) lo hi 24)) (cwV 1 hts gX1_region_X1_first rfl rfl rfl (by decide +kernel) ⟨Nat.le_of_ble_eq_true rfl, Nat.le_of_ble_eq_true rfl⟩) hP hK (va_recv hK hP (ci := 1) (q0 := 0) rfl rfl) rfl hl.1 rfl (Nat.le_of_ble_eq_true rfl) dX1_region_24 ⟨Nat.le_of_ble_eq_true rfl, Nat.le_of_ble_eq_true rfl⟩ ?_
        refine lv_lstore_n (lv' := [(3, .long (ck_fi (bt hd) lo hi (ck_gr (bt hd) lo hi 24) 24)), (2, .int (ck_gr (bt hd) lo hi 24)), (0, .ref h), (1, .int en)]) hx hb dX1_region_27 rfl hl (by decide) rfl (fun ls hl => ?_)
        refine lv_iload_n hx hb dX1_region_28 rfl (lv_at hl 3 rfl) ?_
        refine lv_if_ne (tgt := 34) hx hb dX1_region_29 (by decide) (fun c_4 => ?_) (fun c_4 => ?_)
        · refine lv_iconst (v := 1) hx hb dX1_region_34 (by decide) ?_
          refine lv_istore (lv' := [(5, .int 1), (3, .long (ck_fi (bt hd) lo hi (ck_gr (bt hd) lo hi 24) 24)), (2, .int (ck_gr (bt hd) lo hi 24)), (0, .ref h), (1, .int en)]) hx hb dX1_region_35 hl (by decide) rfl (fun ls hl => ?_)
          refine ck_loop (G := fun ls => W p l e _ s m _ below meth c _ _ _ _ _ (F0 m 37 ls [])) (nL := 9) (25) (fun i => ck_rm (bt hd) lo hi (ck_fi (bt hd) lo hi (ck_gr (bt hd) lo hi 24) 24) (ck_gr (bt hd) lo hi 24) i = true → ck_fh (bt hd) lo hi (ck_rp (bt hd) lo hi (ck_fi (bt hd) lo hi (ck_gr (bt hd) lo hi 24) 24) (ck_gr (bt hd) lo hi 24) i) 24 = ck_er (bt hd) lo hi (ck_fi (bt hd) lo hi (ck_gr (bt hd) lo hi 24) 24) (ck_gr (bt hd) lo hi 24) i) (fun i => [(0, .ref h), (1, .int en), (2, .int (ck_gr (bt hd) lo hi 24)), (3, .long (ck_rp (bt hd) lo hi (ck_fi (bt hd) lo hi (ck_gr (bt hd) lo hi 24) 24) (ck_gr (bt hd) lo hi 24) i)), (5, .int (ck_b (ck_rm (bt hd) lo hi (ck_fi (bt hd) lo hi (ck_gr (bt hd) lo hi 24) 24) (ck_gr (bt hd) lo hi 24) i)))]) (fun i hle_i hj_i ih_i ls hl => ?_) ls (fun _ => rfl) ?_
          rotate_left
          · have hq : lv_has ls 9 [(0, .ref h), (1, .int en), (2, .int (ck_gr (bt hd) lo hi 24)), (3, .long (ck_fi (bt hd) lo hi (ck_gr (bt hd) lo hi 24) 24)), (5, .int 1)] := lv_sub hl [3, 4, 2, 1, 0] rfl
            exact hq
          have hl : lv_has ls 9 [(0, .ref h), (1, .int en), (2, .int (ck_gr (bt hd) lo hi 24)), (3, .long (ck_rp (bt hd) lo hi (ck_fi (bt hd) lo hi (ck_gr (bt hd) lo hi 24) 24) (ck_gr (bt hd) lo hi 24) i)), (5, .int (ck_b (ck_rm (bt hd) lo hi (ck_fi (bt hd) lo hi (ck_gr (bt hd) lo hi 24) 24) (ck_gr (bt hd) lo hi 24) i)))] := hl
          refine lv_iload hx hb dX1_region_37 (lv_at hl 4 rfl) ?_
          refine lv_if_eq (tgt := 161) hx hb dX1_region_39 (by decide) (fun c_5 => ?_) (fun c_5 => ?_)
          · have c_5 := ck_bf c_5
            refine lv_lload_n hx hb dX1_region_161 rfl (lv_at hl 3 rfl) ?_
            have hres : (ck_rp (bt hd) lo hi (ck_fi (bt hd) lo hi (ck_gr (bt hd) lo hi 24) 24) (ck_gr (bt hd) lo hi 24) i) = (ck_rg hd lo hi en) := by rw [ck_rp_end c_5 hle_i]; have hne : ¬ hd = 0 := fun q => c_1 ((ck_gr0 inv).mpr q); simp [ck_rg, hne, ck_zoI c_2 c_3, c_1, c_2, c_3, c_4]
            exact W.lret (v := (ck_rp (bt hd) lo hi (ck_fi (bt hd) lo hi (ck_gr (bt hd) lo hi 24) 24) (ck_gr (bt hd) lo hi 24) i)) hx hb hr (fun t ht _ => ⟨congrArg (fun z => Outcome.returned (some (Value.long z))) hres, ht⟩) (fun _ h => nomatch h) dX1_region_162
          · have c_5 := ck_bt c_5
            refine lv_ldc2 (v := ck_FAR) hx hb hown (hts (.constantLong RX1 26 ck_FAR) (by decide +kernel)) dX1_region_42 ?_
            refine lv_lstore (lv' := [(6, .long ck_FAR), (0, .ref h), (1, .int en), (2, .int (ck_gr (bt hd) lo hi 24)), (3, .long (ck_rp (bt hd) lo hi (ck_fi (bt hd) lo hi (ck_gr (bt hd) lo hi 24) 24) (ck_gr (bt hd) lo hi 24) i)), (5, .int (ck_b (ck_rm (bt hd) lo hi (ck_fi (bt hd) lo hi (ck_gr (bt hd) lo hi 24) 24) (ck_gr (bt hd) lo hi 24) i)))]) hx hb dX1_region_45 hl (by decide) rfl (fun ls hl => ?_)
            refine lv_iconst (v := 0) hx hb dX1_region_47 (by decide) ?_
            refine lv_istore (lv' := [(8, .int 0), (6, .long ck_FAR), (0, .ref h), (1, .int en), (2, .int (ck_gr (bt hd) lo hi 24)), (3, .long (ck_rp (bt hd) lo hi (ck_fi (bt hd) lo hi (ck_gr (bt hd) lo hi 24) 24) (ck_gr (bt hd) lo hi 24) i)), (5, .int (ck_b (ck_rm (bt hd) lo hi (ck_fi (bt hd) lo hi (ck_gr (bt hd) lo hi 24) 24) (ck_gr (bt hd) lo hi 24) i)))]) hx hb dX1_region_48 hl (by decide) rfl (fun ls hl => ?_)
            refine ck_loop (G := fun ls => W p l e _ s m _ below meth c _ _ _ _ _ (F0 m 50 ls [])) (nL := 9) (24) (fun o => True) (fun o => [(0, .ref h), (1, .int en), (2, .int (ck_gr (bt hd) lo hi 24)), (3, .long (ck_rp (bt hd) lo hi (ck_fi (bt hd) lo hi (ck_gr (bt hd) lo hi 24) 24) (ck_gr (bt hd) lo hi 24) i)), (6, .long (ck_fh (bt hd) lo hi (ck_rp (bt hd) lo hi (ck_fi (bt hd) lo hi (ck_gr (bt hd) lo hi 24) 24) (ck_gr (bt hd) lo hi 24) i) o)), (8, .int (nI o))]) (fun o hle_o hj_o ih_o ls hl => ?_) ls (trivial) ?_
            rotate_left
            · have hq : lv_has ls 9 [(0, .ref h), (1, .int en), (2, .int (ck_gr (bt hd) lo hi 24)), (3, .long (ck_rp (bt hd) lo hi (ck_fi (bt hd) lo hi (ck_gr (bt hd) lo hi 24) 24) (ck_gr (bt hd) lo hi 24) i)), (6, .long ck_FAR), (8, .int 0)] := lv_sub hl [2, 3, 4, 5, 1, 0] rfl
              exact hq
            have hl : lv_has ls 9 [(0, .ref h), (1, .int en), (2, .int (ck_gr (bt hd) lo hi 24)), (3, .long (ck_rp (bt hd) lo hi (ck_fi (bt hd) lo hi (ck_gr (bt hd) lo hi 24) 24) (ck_gr (bt hd) lo hi 24) i)), (6, .long (ck_fh (bt hd) lo hi (ck_rp (bt hd) lo hi (ck_fi (bt hd) lo hi (ck_gr (bt hd) lo hi 24) 24) (ck_gr (bt hd) lo hi 24) i) o)), (8, .int (nI o))] := hl
            refine lv_iload hx hb dX1_region_50 (lv_at hl 5 rfl) ?_
            refine lv_bipush (v := 24) hx hb dX1_region_52 (by decide) ?_
            refine lv_icmp_ge (tgt := 124) hx hb dX1_region_54 (by decide) (fun c_6 => ?_) (fun c_6 => ?_)
            · have heq_o : o = 24 := ck_eqN hle_o c_6
              subst heq_o
              have hl : lv_has ls 9 [(0, .ref h), (1, .int en), (2, .int (ck_gr (bt hd) lo hi 24)), (3, .long (ck_rp (bt hd) lo hi (ck_fi (bt hd) lo hi (ck_gr (bt hd) lo hi 24) 24) (ck_gr (bt hd) lo hi 24) i)), (6, .long (ck_fh (bt hd) lo hi (ck_rp (bt hd) lo hi (ck_fi (bt hd) lo hi (ck_gr (bt hd) lo hi 24) 24) (ck_gr (bt hd) lo hi 24) i) 24)), (8, .int (nI 24))] := hl
              refine lv_lload hx hb dX1_region_124 (lv_at hl 4 rfl) ?_
              refine lv_lstore_n (lv' := [(3, .long (ck_fh (bt hd) lo hi (ck_rp (bt hd) lo hi (ck_fi (bt hd) lo hi (ck_gr (bt hd) lo hi 24) 24) (ck_gr (bt hd) lo hi 24) i) 24)), (0, .ref h), (1, .int en), (2, .int (ck_gr (bt hd) lo hi 24)), (6, .long (ck_fh (bt hd) lo hi (ck_rp (bt hd) lo hi (ck_fi (bt hd) lo hi (ck_gr (bt hd) lo hi 24) 24) (ck_gr (bt hd) lo hi 24) i) 24)), (8, .int (nI 24))]) hx hb dX1_region_126 rfl hl (by decide) rfl (fun ls hl => ?_)
              refine lv_aload_n hx hb dX1_region_127 rfl (lv_at hl 1 rfl) ?_
              refine lv_lload_n hx hb dX1_region_128 rfl (lv_at hl 0 rfl) ?_
              refine lv_lconst (v := 1) hx hb dX1_region_129 (by decide) ?_
              refine lv_ladd hx hb dX1_region_130 ?_
              refine ck_cV (As := [.long ((ck_fh (bt hd) lo hi (ck_rp (bt hd) lo hi (ck_fi (bt hd) lo hi (ck_gr (bt hd) lo hi 24) 24) (ck_gr (bt hd) lo hi 24) i) 24) + 1)]) (rest := []) ⟨hx, hb, hml, hown, hts⟩ (c_X1_covers l D h a0 a1 a2 c0 c1 c2 lo hi hd ow off go inv ((ck_fh (bt hd) lo hi (ck_rp (bt hd) lo hi (ck_fi (bt hd) lo hi (ck_gr (bt hd) lo hi 24) 24) (ck_gr (bt hd) lo hi 24) i) 24) + 1)) (cwV 1 hts gX1_region_X1_covers rfl rfl rfl (by decide +kernel) ⟨Nat.le_of_ble_eq_true rfl, Nat.le_of_ble_eq_true rfl⟩) hP hK (va_recv hK hP (ci := 1) (q0 := 0) rfl rfl) rfl hl.1 rfl (Nat.le_of_ble_eq_true rfl) dX1_region_131 ⟨Nat.le_of_ble_eq_true rfl, Nat.le_of_ble_eq_true rfl⟩ ?_
              refine lv_iload_n hx hb dX1_region_134 rfl (lv_at hl 3 rfl) ?_
              refine lv_icmp_ne (tgt := 142) hx hb dX1_region_135 (by decide) (fun c_7 => ?_) (fun c_7 => ?_)
              · refine lv_iconst (v := 0) hx hb dX1_region_142 (by decide) ?_
                refine lv_istore (lv' := [(5, .int 0), (3, .long (ck_fh (bt hd) lo hi (ck_rp (bt hd) lo hi (ck_fi (bt hd) lo hi (ck_gr (bt hd) lo hi 24) 24) (ck_gr (bt hd) lo hi 24) i) 24)), (0, .ref h), (1, .int en), (2, .int (ck_gr (bt hd) lo hi 24)), (6, .long (ck_fh (bt hd) lo hi (ck_rp (bt hd) lo hi (ck_fi (bt hd) lo hi (ck_gr (bt hd) lo hi 24) 24) (ck_gr (bt hd) lo hi 24) i) 24)), (8, .int (nI 24))]) hx hb dX1_region_143 hl (by decide) rfl (fun ls hl => ?_)
                refine lv_iload hx hb dX1_region_145 (lv_at hl 0 rfl) ?_
                refine lv_if_eq (tgt := 156) hx hb dX1_region_147 (by decide) (fun c_8 => ?_) (fun c_8 => ?_)
                · refine lv_lload_n hx hb dX1_region_156 rfl (lv_at hl 1 rfl) ?_
                  refine lv_lstore_n (lv' := [(3, .long (ck_fh (bt hd) lo hi (ck_rp (bt hd) lo hi (ck_fi (bt hd) lo hi (ck_gr (bt hd) lo hi 24) 24) (ck_gr (bt hd) lo hi 24) i) 24)), (5, .int 0), (0, .ref h), (1, .int en), (2, .int (ck_gr (bt hd) lo hi 24)), (6, .long (ck_fh (bt hd) lo hi (ck_rp (bt hd) lo hi (ck_fi (bt hd) lo hi (ck_gr (bt hd) lo hi 24) 24) (ck_gr (bt hd) lo hi 24) i) 24)), (8, .int (nI 24))]) hx hb dX1_region_157 rfl hl (by decide) rfl (fun ls hl => ?_)
                  refine lv_goto (tgt := 37) hx hb dX1_region_158 (by decide) ?_
                  have hlt_i : i < 25 := ck_rm_lt inv.2 (ck_fi_far _ inv.2 _ 24) c_1 c_5 hle_i
                  refine ih_i ls hlt_i (fun q => by have q2 := of_decide_eq_true q; simp [ck_rp_s, ck_er, q2]) ?_
                  have hq : lv_has ls 9 [(0, .ref h), (1, .int en), (2, .int (ck_gr (bt hd) lo hi 24)), (3, .long (ck_fh (bt hd) lo hi (ck_rp (bt hd) lo hi (ck_fi (bt hd) lo hi (ck_gr (bt hd) lo hi 24) 24) (ck_gr (bt hd) lo hi 24) i) 24)), (5, .int 0)] := lv_sub hl [2, 3, 4, 0, 1] rfl
                  have eq0 : (ck_fh (bt hd) lo hi (ck_rp (bt hd) lo hi (ck_fi (bt hd) lo hi (ck_gr (bt hd) lo hi 24) 24) (ck_gr (bt hd) lo hi 24) i) 24) = (ck_rp (bt hd) lo hi (ck_fi (bt hd) lo hi (ck_gr (bt hd) lo hi 24) 24) (ck_gr (bt hd) lo hi 24) (i + 1)) := by simp [ck_rp_s, ck_rm_s, ck_b, ← hj_i c_5, c_7]
                  have eq1 : 0 = (ck_b (ck_rm (bt hd) lo hi (ck_fi (bt hd) lo hi (ck_gr (bt hd) lo hi 24) 24) (ck_gr (bt hd) lo hi 24) (i + 1))) := by simp [ck_rp_s, ck_rm_s, ck_b, ← hj_i c_5, c_7]
                  exact lv_eqq hq (by rw [← eq1, ← eq0])
                · exact absurd c_8 (by decide)
              · refine lv_iconst (v := 1) hx hb dX1_region_138 (by decide) ?_
                refine lv_goto (tgt := 143) hx hb dX1_region_139 (by decide) ?_
                refine lv_istore (lv' := [(5, .int 1), (3, .long (ck_fh (bt hd) lo hi (ck_rp (bt hd) lo hi (ck_fi (bt hd) lo hi (ck_gr (bt hd) lo hi 24) 24) (ck_gr (bt hd) lo hi 24) i) 24)), (0, .ref h), (1, .int en), (2, .int (ck_gr (bt hd) lo hi 24)), (6, .long (ck_fh (bt hd) lo hi (ck_rp (bt hd) lo hi (ck_fi (bt hd) lo hi (ck_gr (bt hd) lo hi 24) 24) (ck_gr (bt hd) lo hi 24) i) 24)), (8, .int (nI 24))]) hx hb dX1_region_143 hl (by decide) rfl (fun ls hl => ?_)
                refine lv_iload hx hb dX1_region_145 (lv_at hl 0 rfl) ?_
                refine lv_if_eq (tgt := 156) hx hb dX1_region_147 (by decide) (fun c_9 => ?_) (fun c_9 => ?_)
                · exact absurd c_9 (by decide)
                · refine lv_lload_n hx hb dX1_region_150 rfl (lv_at hl 1 rfl) ?_
                  refine lv_lconst (v := 1) hx hb dX1_region_151 (by decide) ?_
                  refine lv_ladd hx hb dX1_region_152 ?_
                  refine lv_goto (tgt := 157) hx hb dX1_region_153 (by decide) ?_
                  refine lv_lstore_n (lv' := [(3, .long ((ck_fh (bt hd) lo hi (ck_rp (bt hd) lo hi (ck_fi (bt hd) lo hi (ck_gr (bt hd) lo hi 24) 24) (ck_gr (bt hd) lo hi 24) i) 24) + 1)), (5, .int 1), (0, .ref h), (1, .int en), (2, .int (ck_gr (bt hd) lo hi 24)), (6, .long (ck_fh (bt hd) lo hi (ck_rp (bt hd) lo hi (ck_fi (bt hd) lo hi (ck_gr (bt hd) lo hi 24) 24) (ck_gr (bt hd) lo hi 24) i) 24)), (8, .int (nI 24))]) hx hb dX1_region_157 rfl hl (by decide) rfl (fun ls hl => ?_)
                  refine lv_goto (tgt := 37) hx hb dX1_region_158 (by decide) ?_
                  have hlt_i : i < 25 := ck_rm_lt inv.2 (ck_fi_far _ inv.2 _ 24) c_1 c_5 hle_i
                  refine ih_i ls hlt_i (fun q => by have q2 := of_decide_eq_true q; simp [ck_rp_s, ck_er, q2]) ?_
                  have hq : lv_has ls 9 [(0, .ref h), (1, .int en), (2, .int (ck_gr (bt hd) lo hi 24)), (3, .long ((ck_fh (bt hd) lo hi (ck_rp (bt hd) lo hi (ck_fi (bt hd) lo hi (ck_gr (bt hd) lo hi 24) 24) (ck_gr (bt hd) lo hi 24) i) 24) + 1)), (5, .int 1)] := lv_sub hl [2, 3, 4, 0, 1] rfl
                  have eq0 : ((ck_fh (bt hd) lo hi (ck_rp (bt hd) lo hi (ck_fi (bt hd) lo hi (ck_gr (bt hd) lo hi 24) 24) (ck_gr (bt hd) lo hi 24) i) 24) + 1) = (ck_rp (bt hd) lo hi (ck_fi (bt hd) lo hi (ck_gr (bt hd) lo hi 24) 24) (ck_gr (bt hd) lo hi 24) (i + 1)) := by simp [ck_rp_s, ck_rm_s, ck_b, ← hj_i c_5, c_7]
                  have eq1 : 1 = (ck_b (ck_rm (bt hd) lo hi (ck_fi (bt hd) lo hi (ck_gr (bt hd) lo hi 24) 24) (ck_gr (bt hd) lo hi 24) (i + 1))) := by simp [ck_rp_s, ck_rm_s, ck_b, ← hj_i c_5, c_7]
                  exact lv_eqq hq (by rw [← eq1, ← eq0])
            · have hlt_o : o < 24 := ck_ltN hle_o c_6
              refine lv_aload_n hx hb dX1_region_57 rfl (lv_at hl 0 rfl) ?_
              refine va_get (D := D) (ci := 1) (v := .ref a0) (C := RX1) (T := TX1) (N := 6) hx hb hts hin hown hK hP 0 rfl rfl 0 (by decide) (hts (.fieldLink RX1 7 "ClockDeskModel" "is" "[Z") (by decide +kernel)) (fun _ h9 => h9) rfl dX1_region_58 ?_
              refine lv_iload hx hb dX1_region_61 (lv_at hl 5 rfl) ?_
              refine ck_zald hx hb hK hP 1 0 rfl rfl (i := o) hlt_o dX1_region_63 ?_
              refine lv_if_eq (tgt := 114) hx hb dX1_region_64 (by decide) (fun c_10 => ?_) (fun c_10 => ?_)
              · have c_10 := ck_bf c_10
                refine lv_lload hx hb dX1_region_114 (lv_at hl 4 rfl) ?_
                refine lv_lstore (lv' := [(6, .long (ck_fh (bt hd) lo hi (ck_rp (bt hd) lo hi (ck_fi (bt hd) lo hi (ck_gr (bt hd) lo hi 24) 24) (ck_gr (bt hd) lo hi 24) i) o)), (0, .ref h), (1, .int en), (2, .int (ck_gr (bt hd) lo hi 24)), (3, .long (ck_rp (bt hd) lo hi (ck_fi (bt hd) lo hi (ck_gr (bt hd) lo hi 24) 24) (ck_gr (bt hd) lo hi 24) i)), (8, .int (nI o))]) hx hb dX1_region_116 hl (by decide) rfl (fun ls hl => ?_)
                refine lv_iinc (v := (nI (o + 1))) (lv' := [(8, .int (nI (o + 1))), (6, .long (ck_fh (bt hd) lo hi (ck_rp (bt hd) lo hi (ck_fi (bt hd) lo hi (ck_gr (bt hd) lo hi 24) 24) (ck_gr (bt hd) lo hi 24) i) o)), (0, .ref h), (1, .int en), (2, .int (ck_gr (bt hd) lo hi 24)), (3, .long (ck_rp (bt hd) lo hi (ck_fi (bt hd) lo hi (ck_gr (bt hd) lo hi 24) 24) (ck_gr (bt hd) lo hi 24) i))]) hx hb dX1_region_118 hl (k := 5) rfl (nI_1 o) (by decide) rfl (fun ls hl => ?_)
                refine lv_goto (tgt := 50) hx hb dX1_region_121 (by decide) ?_
                refine ih_o ls hlt_o (trivial) ?_
                have hq : lv_has ls 9 [(0, .ref h), (1, .int en), (2, .int (ck_gr (bt hd) lo hi 24)), (3, .long (ck_rp (bt hd) lo hi (ck_fi (bt hd) lo hi (ck_gr (bt hd) lo hi 24) 24) (ck_gr (bt hd) lo hi 24) i)), (6, .long (ck_fh (bt hd) lo hi (ck_rp (bt hd) lo hi (ck_fi (bt hd) lo hi (ck_gr (bt hd) lo hi 24) 24) (ck_gr (bt hd) lo hi 24) i) o)), (8, .int (nI (o + 1)))] := lv_sub hl [2, 3, 4, 5, 1, 0] rfl
                have eq0 : (ck_fh (bt hd) lo hi (ck_rp (bt hd) lo hi (ck_fi (bt hd) lo hi (ck_gr (bt hd) lo hi 24) 24) (ck_gr (bt hd) lo hi 24) i) o) = (ck_fh (bt hd) lo hi (ck_rp (bt hd) lo hi (ck_fi (bt hd) lo hi (ck_gr (bt hd) lo hi 24) 24) (ck_gr (bt hd) lo hi 24) i) (o + 1)) := by first | (simp [ck_fh, ck_cov, c_10]; done) | (simp [ck_fh, ck_cov, ck_min_ge c_10, c_10]; done) | (simp [ck_fh, ck_cov, ck_min_nge c_10, c_10]; done)
                exact lv_eqq hq (by rw [← eq0])
              · have c_10 := ck_bt c_10
                refine lv_aload_n hx hb dX1_region_67 rfl (lv_at hl 0 rfl) ?_
                refine va_get (D := D) (ci := 1) (v := .ref a1) (C := RX1) (T := TX1) (N := 6) hx hb hts hin hown hK hP 0 rfl rfl 1 (by decide) (hts (.fieldLink RX1 13 "ClockDeskModel" "low" "[J") (by decide +kernel)) (fun _ h9 => h9) rfl dX1_region_68 ?_
                refine lv_iload hx hb dX1_region_71 (lv_at hl 5 rfl) ?_
                refine ck_lald hx hb hK hP 2 1 rfl rfl (i := o) hlt_o dX1_region_73 ?_
                refine lv_lload_n hx hb dX1_region_74 rfl (lv_at hl 3 rfl) ?_
                refine W.lcmp hx hb dX1_region_75 ?_
                refine lv_if_gt (tgt := 114) hx hb dX1_region_76 (by decide) (fun c_11 => ?_) (fun c_11 => ?_)
                · rw [lg_cmp_gt] at c_11
                  refine lv_lload hx hb dX1_region_114 (lv_at hl 4 rfl) ?_
                  refine lv_lstore (lv' := [(6, .long (ck_fh (bt hd) lo hi (ck_rp (bt hd) lo hi (ck_fi (bt hd) lo hi (ck_gr (bt hd) lo hi 24) 24) (ck_gr (bt hd) lo hi 24) i) o)), (0, .ref h), (1, .int en), (2, .int (ck_gr (bt hd) lo hi 24)), (3, .long (ck_rp (bt hd) lo hi (ck_fi (bt hd) lo hi (ck_gr (bt hd) lo hi 24) 24) (ck_gr (bt hd) lo hi 24) i)), (8, .int (nI o))]) hx hb dX1_region_116 hl (by decide) rfl (fun ls hl => ?_)
                  refine lv_iinc (v := (nI (o + 1))) (lv' := [(8, .int (nI (o + 1))), (6, .long (ck_fh (bt hd) lo hi (ck_rp (bt hd) lo hi (ck_fi (bt hd) lo hi (ck_gr (bt hd) lo hi 24) 24) (ck_gr (bt hd) lo hi 24) i) o)), (0, .ref h), (1, .int en), (2, .int (ck_gr (bt hd) lo hi 24)), (3, .long (ck_rp (bt hd) lo hi (ck_fi (bt hd) lo hi (ck_gr (bt hd) lo hi 24) 24) (ck_gr (bt hd) lo hi 24) i))]) hx hb dX1_region_118 hl (k := 5) rfl (nI_1 o) (by decide) rfl (fun ls hl => ?_)
                  refine lv_goto (tgt := 50) hx hb dX1_region_121 (by decide) ?_
                  refine ih_o ls hlt_o (trivial) ?_
                  have hq : lv_has ls 9 [(0, .ref h), (1, .int en), (2, .int (ck_gr (bt hd) lo hi 24)), (3, .long (ck_rp (bt hd) lo hi (ck_fi (bt hd) lo hi (ck_gr (bt hd) lo hi 24) 24) (ck_gr (bt hd) lo hi 24) i)), (6, .long (ck_fh (bt hd) lo hi (ck_rp (bt hd) lo hi (ck_fi (bt hd) lo hi (ck_gr (bt hd) lo hi 24) 24) (ck_gr (bt hd) lo hi 24) i) o)), (8, .int (nI (o + 1)))] := lv_sub hl [2, 3, 4, 5, 1, 0] rfl
                  have eq0 : (ck_fh (bt hd) lo hi (ck_rp (bt hd) lo hi (ck_fi (bt hd) lo hi (ck_gr (bt hd) lo hi 24) 24) (ck_gr (bt hd) lo hi 24) i) o) = (ck_fh (bt hd) lo hi (ck_rp (bt hd) lo hi (ck_fi (bt hd) lo hi (ck_gr (bt hd) lo hi 24) 24) (ck_gr (bt hd) lo hi 24) i) (o + 1)) := by first | (simp [ck_fh, ck_cov, c_10, c_11]; done) | (simp [ck_fh, ck_cov, ck_min_ge c_11, c_10, c_11]; done) | (simp [ck_fh, ck_cov, ck_min_nge c_11, c_10, c_11]; done)
                  exact lv_eqq hq (by rw [← eq0])
                · rw [lg_cmp_gt] at c_11
                  refine lv_lload_n hx hb dX1_region_79 rfl (lv_at hl 3 rfl) ?_
                  refine lv_aload_n hx hb dX1_region_80 rfl (lv_at hl 0 rfl) ?_
                  refine va_get (D := D) (ci := 1) (v := .ref a2) (C := RX1) (T := TX1) (N := 6) hx hb hts hin hown hK hP 0 rfl rfl 2 (by decide) (hts (.fieldLink RX1 17 "ClockDeskModel" "high" "[J") (by decide +kernel)) (fun _ h9 => h9) rfl dX1_region_81 ?_
                  refine lv_iload hx hb dX1_region_84 (lv_at hl 5 rfl) ?_
                  refine ck_lald hx hb hK hP 3 2 rfl rfl (i := o) hlt_o dX1_region_86 ?_
                  refine W.lcmp hx hb dX1_region_87 ?_
                  refine lv_if_gt (tgt := 114) hx hb dX1_region_88 (by decide) (fun c_12 => ?_) (fun c_12 => ?_)
                  · rw [lg_cmp_gt] at c_12
                    refine lv_lload hx hb dX1_region_114 (lv_at hl 4 rfl) ?_
                    refine lv_lstore (lv' := [(6, .long (ck_fh (bt hd) lo hi (ck_rp (bt hd) lo hi (ck_fi (bt hd) lo hi (ck_gr (bt hd) lo hi 24) 24) (ck_gr (bt hd) lo hi 24) i) o)), (0, .ref h), (1, .int en), (2, .int (ck_gr (bt hd) lo hi 24)), (3, .long (ck_rp (bt hd) lo hi (ck_fi (bt hd) lo hi (ck_gr (bt hd) lo hi 24) 24) (ck_gr (bt hd) lo hi 24) i)), (8, .int (nI o))]) hx hb dX1_region_116 hl (by decide) rfl (fun ls hl => ?_)
                    refine lv_iinc (v := (nI (o + 1))) (lv' := [(8, .int (nI (o + 1))), (6, .long (ck_fh (bt hd) lo hi (ck_rp (bt hd) lo hi (ck_fi (bt hd) lo hi (ck_gr (bt hd) lo hi 24) 24) (ck_gr (bt hd) lo hi 24) i) o)), (0, .ref h), (1, .int en), (2, .int (ck_gr (bt hd) lo hi 24)), (3, .long (ck_rp (bt hd) lo hi (ck_fi (bt hd) lo hi (ck_gr (bt hd) lo hi 24) 24) (ck_gr (bt hd) lo hi 24) i))]) hx hb dX1_region_118 hl (k := 5) rfl (nI_1 o) (by decide) rfl (fun ls hl => ?_)
                    refine lv_goto (tgt := 50) hx hb dX1_region_121 (by decide) ?_
                    refine ih_o ls hlt_o (trivial) ?_
                    have hq : lv_has ls 9 [(0, .ref h), (1, .int en), (2, .int (ck_gr (bt hd) lo hi 24)), (3, .long (ck_rp (bt hd) lo hi (ck_fi (bt hd) lo hi (ck_gr (bt hd) lo hi 24) 24) (ck_gr (bt hd) lo hi 24) i)), (6, .long (ck_fh (bt hd) lo hi (ck_rp (bt hd) lo hi (ck_fi (bt hd) lo hi (ck_gr (bt hd) lo hi 24) 24) (ck_gr (bt hd) lo hi 24) i) o)), (8, .int (nI (o + 1)))] := lv_sub hl [2, 3, 4, 5, 1, 0] rfl
                    have eq0 : (ck_fh (bt hd) lo hi (ck_rp (bt hd) lo hi (ck_fi (bt hd) lo hi (ck_gr (bt hd) lo hi 24) 24) (ck_gr (bt hd) lo hi 24) i) o) = (ck_fh (bt hd) lo hi (ck_rp (bt hd) lo hi (ck_fi (bt hd) lo hi (ck_gr (bt hd) lo hi 24) 24) (ck_gr (bt hd) lo hi 24) i) (o + 1)) := by first | (simp [ck_fh, ck_cov, c_10, c_11, c_12]; done) | (simp [ck_fh, ck_cov, ck_min_ge c_12, c_10, c_11, c_12]; done) | (simp [ck_fh, ck_cov, ck_min_nge c_12, c_10, c_11, c_12]; done)
                    exact lv_eqq hq (by rw [← eq0])
                  · rw [lg_cmp_gt] at c_12
                    refine lv_aload_n hx hb dX1_region_91 rfl (lv_at hl 0 rfl) ?_
                    refine va_get (D := D) (ci := 1) (v := .ref a2) (C := RX1) (T := TX1) (N := 6) hx hb hts hin hown hK hP 0 rfl rfl 2 (by decide) (hts (.fieldLink RX1 17 "ClockDeskModel" "high" "[J") (by decide +kernel)) (fun _ h9 => h9) rfl dX1_region_92 ?_
                    refine lv_iload hx hb dX1_region_95 (lv_at hl 5 rfl) ?_
                    refine ck_lald hx hb hK hP 3 2 rfl rfl (i := o) hlt_o dX1_region_97 ?_
                    refine lv_lload hx hb dX1_region_98 (lv_at hl 4 rfl) ?_
                    refine W.lcmp hx hb dX1_region_100 ?_
                    refine lv_if_ge (tgt := 114) hx hb dX1_region_101 (by decide) (fun c_13 => ?_) (fun c_13 => ?_)
                    · rw [lg_cmp_ge] at c_13
                      refine lv_lload hx hb dX1_region_114 (lv_at hl 4 rfl) ?_
                      refine lv_lstore (lv' := [(6, .long (ck_fh (bt hd) lo hi (ck_rp (bt hd) lo hi (ck_fi (bt hd) lo hi (ck_gr (bt hd) lo hi 24) 24) (ck_gr (bt hd) lo hi 24) i) o)), (0, .ref h), (1, .int en), (2, .int (ck_gr (bt hd) lo hi 24)), (3, .long (ck_rp (bt hd) lo hi (ck_fi (bt hd) lo hi (ck_gr (bt hd) lo hi 24) 24) (ck_gr (bt hd) lo hi 24) i)), (8, .int (nI o))]) hx hb dX1_region_116 hl (by decide) rfl (fun ls hl => ?_)
                      refine lv_iinc (v := (nI (o + 1))) (lv' := [(8, .int (nI (o + 1))), (6, .long (ck_fh (bt hd) lo hi (ck_rp (bt hd) lo hi (ck_fi (bt hd) lo hi (ck_gr (bt hd) lo hi 24) 24) (ck_gr (bt hd) lo hi 24) i) o)), (0, .ref h), (1, .int en), (2, .int (ck_gr (bt hd) lo hi 24)), (3, .long (ck_rp (bt hd) lo hi (ck_fi (bt hd) lo hi (ck_gr (bt hd) lo hi 24) 24) (ck_gr (bt hd) lo hi 24) i))]) hx hb dX1_region_118 hl (k := 5) rfl (nI_1 o) (by decide) rfl (fun ls hl => ?_)
                      refine lv_goto (tgt := 50) hx hb dX1_region_121 (by decide) ?_
                      refine ih_o ls hlt_o (trivial) ?_
                      have hq : lv_has ls 9 [(0, .ref h), (1, .int en), (2, .int (ck_gr (bt hd) lo hi 24)), (3, .long (ck_rp (bt hd) lo hi (ck_fi (bt hd) lo hi (ck_gr (bt hd) lo hi 24) 24) (ck_gr (bt hd) lo hi 24) i)), (6, .long (ck_fh (bt hd) lo hi (ck_rp (bt hd) lo hi (ck_fi (bt hd) lo hi (ck_gr (bt hd) lo hi 24) 24) (ck_gr (bt hd) lo hi 24) i) o)), (8, .int (nI (o + 1)))] := lv_sub hl [2, 3, 4, 5, 1, 0] rfl
                      have eq0 : (ck_fh (bt hd) lo hi (ck_rp (bt hd) lo hi (ck_fi (bt hd) lo hi (ck_gr (bt hd) lo hi 24) 24) (ck_gr (bt hd) lo hi 24) i) o) = (ck_fh (bt hd) lo hi (ck_rp (bt hd) lo hi (ck_fi (bt hd) lo hi (ck_gr (bt hd) lo hi 24) 24) (ck_gr (bt hd) lo hi 24) i) (o + 1)) := by first | (simp [ck_fh, ck_cov, c_10, c_11, c_12, c_13]; done) | (simp [ck_fh, ck_cov, ck_min_ge c_13, c_10, c_11, c_12, c_13]; done) | (simp [ck_fh, ck_cov, ck_min_nge c_13, c_10, c_11, c_12, c_13]; done)
                      exact lv_eqq hq (by rw [← eq0])
                    · rw [lg_cmp_ge] at c_13
                      refine lv_aload_n hx hb dX1_region_104 rfl (lv_at hl 0 rfl) ?_
                      refine va_get (D := D) (ci := 1) (v := .ref a2) (C := RX1) (T := TX1) (N := 6) hx hb hts hin hown hK hP 0 rfl rfl 2 (by decide) (hts (.fieldLink RX1 17 "ClockDeskModel" "high" "[J") (by decide +kernel)) (fun _ h9 => h9) rfl dX1_region_105 ?_
                      refine lv_iload hx hb dX1_region_108 (lv_at hl 5 rfl) ?_
                      refine ck_lald hx hb hK hP 3 2 rfl rfl (i := o) hlt_o dX1_region_110 ?_
                      refine lv_goto (tgt := 116) hx hb dX1_region_111 (by decide) ?_
                      refine lv_lstore (lv' := [(6, .long (hi o)), (0, .ref h), (1, .int en), (2, .int (ck_gr (bt hd) lo hi 24)), (3, .long (ck_rp (bt hd) lo hi (ck_fi (bt hd) lo hi (ck_gr (bt hd) lo hi 24) 24) (ck_gr (bt hd) lo hi 24) i)), (8, .int (nI o))]) hx hb dX1_region_116 hl (by decide) rfl (fun ls hl => ?_)
                      refine lv_iinc (v := (nI (o + 1))) (lv' := [(8, .int (nI (o + 1))), (6, .long (hi o)), (0, .ref h), (1, .int en), (2, .int (ck_gr (bt hd) lo hi 24)), (3, .long (ck_rp (bt hd) lo hi (ck_fi (bt hd) lo hi (ck_gr (bt hd) lo hi 24) 24) (ck_gr (bt hd) lo hi 24) i))]) hx hb dX1_region_118 hl (k := 5) rfl (nI_1 o) (by decide) rfl (fun ls hl => ?_)
                      refine lv_goto (tgt := 50) hx hb dX1_region_121 (by decide) ?_
                      refine ih_o ls hlt_o (trivial) ?_
                      have hq : lv_has ls 9 [(0, .ref h), (1, .int en), (2, .int (ck_gr (bt hd) lo hi 24)), (3, .long (ck_rp (bt hd) lo hi (ck_fi (bt hd) lo hi (ck_gr (bt hd) lo hi 24) 24) (ck_gr (bt hd) lo hi 24) i)), (6, .long (hi o)), (8, .int (nI (o + 1)))] := lv_sub hl [2, 3, 4, 5, 1, 0] rfl
                      have eq0 : (hi o) = (ck_fh (bt hd) lo hi (ck_rp (bt hd) lo hi (ck_fi (bt hd) lo hi (ck_gr (bt hd) lo hi 24) 24) (ck_gr (bt hd) lo hi 24) i) (o + 1)) := by first | (simp [ck_fh, ck_cov, c_10, c_11, c_12, c_13]; done) | (simp [ck_fh, ck_cov, ck_min_ge c_13, c_10, c_11, c_12, c_13]; done) | (simp [ck_fh, ck_cov, ck_min_nge c_13, c_10, c_11, c_12, c_13]; done)
                      exact lv_eqq hq (by rw [← eq0])
        · refine lv_lload_n hx hb dX1_region_32 rfl (lv_at hl 0 rfl) ?_
          have hres : (ck_fi (bt hd) lo hi (ck_gr (bt hd) lo hi 24) 24) = (ck_rg hd lo hi en) := by have hne : ¬ hd = 0 := fun q => c_1 ((ck_gr0 inv).mpr q); first | (simp [ck_rg, hne, ck_zoI c_2 c_3, c_1, c_2, c_3, c_4]; done) | (simp [ck_rg, hne, ck_zo, c_1, c_2, c_3, c_4]; done)
          exact W.lret (v := (ck_fi (bt hd) lo hi (ck_gr (bt hd) lo hi 24) 24)) hx hb hr (fun t ht _ => ⟨congrArg (fun z => Outcome.returned (some (Value.long z))) hres, ht⟩) (fun _ h => nomatch h) dX1_region_33
      · refine lv_ldc2 (v := ck_NO) hx hb hown (hts (.constantLong RX1 30 ck_NO) (by decide +kernel)) dX1_region_18 ?_
        have hres : ck_NO = (ck_rg hd lo hi en) := by have hne : ¬ hd = 0 := fun q => c_1 ((ck_gr0 inv).mpr q); first | (simp [ck_rg, hne, ck_zoB c_3, c_1, c_2, c_3]; done) | (simp [ck_rg, hne, ck_zo, c_1, c_2, c_3]; done)
        exact W.lret (v := ck_NO) hx hb hr (fun t ht _ => ⟨congrArg (fun z => Outcome.returned (some (Value.long z))) hres, ht⟩) (fun _ h => nomatch h) dX1_region_21

set_option maxHeartbeats 4000000 in
set_option maxRecDepth 100000 in
theorem c_X1_chosen (l : Launch) (D : va_G) (h a0 a1 a2 : Nat) (c0 c1 c2 : ClassId) (lo hi : Nat → Int64) (hd : Int32) (ow off go : Int64) (inv : ck_inv hd lo hi) (x : Int32)  : Met l yX1_chosen wsX1_chosen { frames := 3, cells := 0, slots := 0, locals := 76 } (va_Pc [.ref h, .int x] (ck_B D (mW h a0 a1 a2 c0 c1 c2 lo hi hd ow off go) (mT c0 c1 c2))) (ck_R (.int (ck_b (ck_ch hd lo hi x)))) 0 0 (fun _ => False) := by
  refine Met.ofW (cc := cX1_chosen) (maxL := 2) (ret := (some .boolean)) (by decide) rfl ?_
  intro p e s m args below meth c s₁ B hml hv
  obtain ⟨rfl, hP, hK⟩ := hv
  have hx := B.exec
  have hb := B.bytes
  have hr := B.returns
  have hts := atoms_spec (ws := wsX1_chosen) B.pre
  have hown : s.vm.findClass RX1 = some m.cls := findClass_of_methodNamed B.named
  have hlocks := B.notSynchronized
  have hin : ∀ w ∈ wsX10, w ∈ wsX1_chosen := fun _ h => List.mem_cons_of_mem _ (List.mem_append_right _ h)
  have hl := lv_entry ([.ref h, .int x]) (n := 2) (Nat.le_of_ble_eq_true rfl)
  rw [lg_entry_eq]
  generalize (lg_sl ([.ref h, .int x]) ++ List.replicate (2 - (lg_sl ([.ref h, .int x])).length) Slot.unset).toArray = ls at hl ⊢
  have hl : lv_has ls 2 [(0, .ref h), (1, .int x)] := hl
  refine lv_iload_n hx hb dX1_chosen_0 rfl (lv_at hl 1 rfl) ?_
  refine ck_cS (As := [.int x]) (rest := []) ⟨hx, hb, hml, hown, hts⟩ (c_X1_isSource l x) (va_cwS 1 hts gX1_chosen_X1_isSource rfl rfl rfl (by decide +kernel) ⟨Nat.le_of_ble_eq_true rfl, Nat.le_of_ble_eq_true rfl⟩) rfl hl.1 rfl (Nat.le_of_ble_eq_true rfl) dX1_chosen_1 ⟨Nat.le_of_ble_eq_true rfl, Nat.le_of_ble_eq_true rfl⟩ ?_
  refine lv_if_eq (tgt := 50) hx hb dX1_chosen_4 (by decide) (fun c_1 => ?_) (fun c_1 => ?_)
  · have c_1 := ck_bf c_1
    refine lv_iconst (v := 0) hx hb dX1_chosen_50 (by decide) ?_
    have hres : 0 = (ck_b (ck_ch hd lo hi x)) := by simp [ck_ch, ck_in, ck_b, c_1]
    exact W.zret (ty := .boolean) (v := 0) hx hb hr rfl (fun t ht _ => ⟨congrArg (fun z => Outcome.returned (some (Value.int z))) hres, ht⟩) (fun _ h => nomatch h) dX1_chosen_51
  · have c_1 := ck_bt c_1
    obtain ⟨jx, hjx, rfl⟩ := ck_srcE c_1
    have hcjx : (nI jx).toNatClampNeg = jx := nI_clamp (by omega)
    refine lv_aload_n hx hb dX1_chosen_7 rfl (lv_at hl 0 rfl) ?_
    refine va_get (D := D) (ci := 1) (v := .ref a0) (C := RX1) (T := TX1) (N := 6) hx hb hts hin hown hK hP 0 rfl rfl 0 (by decide) (hts (.fieldLink RX1 7 "ClockDeskModel" "is" "[Z") (by decide +kernel)) (fun _ h9 => h9) rfl dX1_chosen_8 ?_
    refine lv_iload_n hx hb dX1_chosen_11 rfl (lv_at hl 1 rfl) ?_
    refine ck_zald hx hb hK hP 1 0 rfl rfl (i := jx) hjx dX1_chosen_12 ?_
    refine lv_if_eq (tgt := 50) hx hb dX1_chosen_13 (by decide) (fun c_2 => ?_) (fun c_2 => ?_)
    · have c_2 := ck_bf c_2
      refine lv_iconst (v := 0) hx hb dX1_chosen_50 (by decide) ?_
      have hres : 0 = (ck_b (ck_ch hd lo hi (nI jx))) := by simp [ck_ch, ck_b, ck_inN hd hjx, c_1, hcjx, c_2]
      exact W.zret (ty := .boolean) (v := 0) hx hb hr rfl (fun t ht _ => ⟨congrArg (fun z => Outcome.returned (some (Value.int z))) hres, ht⟩) (fun _ h => nomatch h) dX1_chosen_51
    · have c_2 := ck_bt c_2
      refine lv_aload_n hx hb dX1_chosen_16 rfl (lv_at hl 0 rfl) ?_
      refine va_get (D := D) (ci := 1) (v := .ref a1) (C := RX1) (T := TX1) (N := 6) hx hb hts hin hown hK hP 0 rfl rfl 1 (by decide) (hts (.fieldLink RX1 13 "ClockDeskModel" "low" "[J") (by decide +kernel)) (fun _ h9 => h9) rfl dX1_chosen_17 ?_
      refine lv_iload_n hx hb dX1_chosen_20 rfl (lv_at hl 1 rfl) ?_
      refine ck_lald hx hb hK hP 2 1 rfl rfl (i := jx) hjx dX1_chosen_21 ?_
      refine lv_aload_n hx hb dX1_chosen_22 rfl (lv_at hl 0 rfl) ?_
      refine lv_iconst (v := 0) hx hb dX1_chosen_23 (by decide) ?_
      refine ck_cV (As := [.int 0]) (rest := [.long (lo jx)]) ⟨hx, hb, hml, hown, hts⟩ (c_X1_region l D h a0 a1 a2 c0 c1 c2 lo hi hd ow off go inv 0) (cwV 1 hts gX1_chosen_X1_region rfl rfl rfl (by decide +kernel) ⟨Nat.le_of_ble_eq_true rfl, Nat.le_of_ble_eq_true rfl⟩) hP hK (va_recv hK hP (ci := 1) (q0 := 0) rfl rfl) rfl hl.1 rfl (Nat.le_of_ble_eq_true rfl) dX1_chosen_24 ⟨Nat.le_of_ble_eq_true rfl, Nat.le_of_ble_eq_true rfl⟩ ?_
      refine W.lcmp hx hb dX1_chosen_27 ?_
      refine lv_if_gt (tgt := 50) hx hb dX1_chosen_28 (by decide) (fun c_3 => ?_) (fun c_3 => ?_)
      · rw [lg_cmp_gt] at c_3
        refine lv_iconst (v := 0) hx hb dX1_chosen_50 (by decide) ?_
        have hres : 0 = (ck_b (ck_ch hd lo hi (nI jx))) := by simp [ck_ch, ck_b, ck_inN hd hjx, c_1, hcjx, c_2, c_3]
        exact W.zret (ty := .boolean) (v := 0) hx hb hr rfl (fun t ht _ => ⟨congrArg (fun z => Outcome.returned (some (Value.int z))) hres, ht⟩) (fun _ h => nomatch h) dX1_chosen_51
      · rw [lg_cmp_gt] at c_3
        refine lv_aload_n hx hb dX1_chosen_31 rfl (lv_at hl 0 rfl) ?_
        refine va_get (D := D) (ci := 1) (v := .ref a2) (C := RX1) (T := TX1) (N := 6) hx hb hts hin hown hK hP 0 rfl rfl 2 (by decide) (hts (.fieldLink RX1 17 "ClockDeskModel" "high" "[J") (by decide +kernel)) (fun _ h9 => h9) rfl dX1_chosen_32 ?_
        refine lv_iload_n hx hb dX1_chosen_35 rfl (lv_at hl 1 rfl) ?_
        refine ck_lald hx hb hK hP 3 2 rfl rfl (i := jx) hjx dX1_chosen_36 ?_
        refine lv_aload_n hx hb dX1_chosen_37 rfl (lv_at hl 0 rfl) ?_
        refine lv_iconst (v := 1) hx hb dX1_chosen_38 (by decide) ?_
        refine ck_cV (As := [.int 1]) (rest := [.long (hi jx)]) ⟨hx, hb, hml, hown, hts⟩ (c_X1_region l D h a0 a1 a2 c0 c1 c2 lo hi hd ow off go inv 1) (cwV 1 hts gX1_chosen_X1_region rfl rfl rfl (by decide +kernel) ⟨Nat.le_of_ble_eq_true rfl, Nat.le_of_ble_eq_true rfl⟩) hP hK (va_recv hK hP (ci := 1) (q0 := 0) rfl rfl) rfl hl.1 rfl (Nat.le_of_ble_eq_true rfl) dX1_chosen_39 ⟨Nat.le_of_ble_eq_true rfl, Nat.le_of_ble_eq_true rfl⟩ ?_
        refine W.lcmp hx hb dX1_chosen_42 ?_
        refine lv_if_lt (tgt := 50) hx hb dX1_chosen_43 (by decide) (fun c_4 => ?_) (fun c_4 => ?_)
        · rw [lg_cmp_lt] at c_4
          refine lv_iconst (v := 0) hx hb dX1_chosen_50 (by decide) ?_
          have hres : 0 = (ck_b (ck_ch hd lo hi (nI jx))) := by simp [ck_ch, ck_b, ck_inN hd hjx, c_1, hcjx, c_2, c_3, c_4]
          exact W.zret (ty := .boolean) (v := 0) hx hb hr rfl (fun t ht _ => ⟨congrArg (fun z => Outcome.returned (some (Value.int z))) hres, ht⟩) (fun _ h => nomatch h) dX1_chosen_51
        · rw [lg_cmp_lt] at c_4
          refine lv_iconst (v := 1) hx hb dX1_chosen_46 (by decide) ?_
          refine lv_goto (tgt := 51) hx hb dX1_chosen_47 (by decide) ?_
          have hres : 1 = (ck_b (ck_ch hd lo hi (nI jx))) := by simp [ck_ch, ck_b, ck_inN hd hjx, c_1, hcjx, c_2, c_3, c_4]
          exact W.zret (ty := .boolean) (v := 1) hx hb hr rfl (fun t ht _ => ⟨congrArg (fun z => Outcome.returned (some (Value.int z))) hres, ht⟩) (fun _ h => nomatch h) dX1_chosen_51

set_option maxHeartbeats 4000000 in
set_option maxRecDepth 100000 in
theorem c_X1_median (l : Launch) (D : va_G) (h a0 a1 a2 : Nat) (c0 c1 c2 : ClassId) (lo hi : Nat → Int64) (hd : Int32) (ow off go : Int64) (inv : ck_inv hd lo hi)   : Met l yX1_median wsX1_median { frames := 2, cells := 0, slots := 0, locals := 42 } (va_Pc [.ref h] (ck_B D (mW h a0 a1 a2 c0 c1 c2 lo hi hd ow off go) (mT c0 c1 c2))) (ck_R (.long (ck_md hd lo hi))) 0 0 (fun _ => False) := by
  refine Met.ofW (cc := cX1_median) (maxL := 5) (ret := (some .long)) (by decide) rfl ?_
  intro p e s m args below meth c s₁ B hml hv
  obtain ⟨rfl, hP, hK⟩ := hv
  have hx := B.exec
  have hb := B.bytes
  have hr := B.returns
  have hts := atoms_spec (ws := wsX1_median) B.pre
  have hown : s.vm.findClass RX1 = some m.cls := findClass_of_methodNamed B.named
  have hlocks := B.notSynchronized
  have hin : ∀ w ∈ wsX10, w ∈ wsX1_median := fun _ h => List.mem_cons_of_mem _ (List.mem_append_right _ h)
  have hl := lv_entry ([.ref h]) (n := 5) (Nat.le_of_ble_eq_true rfl)
  rw [lg_entry_eq]
  generalize (lg_sl ([.ref h]) ++ List.replicate (5 - (lg_sl ([.ref h])).length) Slot.unset).toArray = ls at hl ⊢
  have hl : lv_has ls 5 [(0, .ref h)] := hl
  refine lv_aload_n hx hb dX1_median_0 rfl (lv_at hl 0 rfl) ?_
  refine ck_cV (As := []) (rest := []) ⟨hx, hb, hml, hown, hts⟩ (c_X1_sources l D h a0 a1 a2 c0 c1 c2 lo hi hd ow off go inv ) (cwV 0 hts gX1_median_X1_sources rfl rfl rfl (by decide +kernel) ⟨Nat.le_of_ble_eq_true rfl, Nat.le_of_ble_eq_true rfl⟩) hP hK (va_recv hK hP (ci := 1) (q0 := 0) rfl rfl) rfl hl.1 rfl (Nat.le_of_ble_eq_true rfl) dX1_median_1 ⟨Nat.le_of_ble_eq_true rfl, Nat.le_of_ble_eq_true rfl⟩ ?_
  refine lv_istore_n (lv' := [(1, .int (ck_ns hd)), (0, .ref h)]) hx hb dX1_median_4 rfl hl (by decide) rfl (fun ls hl => ?_)
  refine lv_iconst (v := 0) hx hb dX1_median_5 (by decide) ?_
  refine lv_istore_n (lv' := [(2, .int 0), (1, .int (ck_ns hd)), (0, .ref h)]) hx hb dX1_median_6 rfl hl (by decide) rfl (fun ls hl => ?_)
  refine ck_loop (G := fun ls => W p l e _ s m _ below meth c _ _ _ _ _ (F0 m 7 ls [])) (nL := 5) (24) (fun i => ck_mdf (bt hd) lo hi ((ck_ns hd - 1) / 2) i = none) (fun i => [(0, .ref h), (1, .int (ck_ns hd)), (2, .int (nI i))]) (fun i hle_i hj_i ih_i ls hl => ?_) ls (rfl) ?_
  rotate_left
  · have hq : lv_has ls 5 [(0, .ref h), (1, .int (ck_ns hd)), (2, .int 0)] := lv_sub hl [2, 1, 0] rfl
    exact hq
  have hl : lv_has ls 5 [(0, .ref h), (1, .int (ck_ns hd)), (2, .int (nI i))] := hl
  refine lv_iload_n hx hb dX1_median_7 rfl (lv_at hl 2 rfl) ?_
  refine lv_bipush (v := 24) hx hb dX1_median_8 (by decide) ?_
  refine lv_icmp_ge (tgt := 124) hx hb dX1_median_10 (by decide) (fun c_1 => ?_) (fun c_1 => ?_)
  · have heq_i : i = 24 := ck_eqN hle_i c_1
    subst heq_i
    have hl : lv_has ls 5 [(0, .ref h), (1, .int (ck_ns hd)), (2, .int (nI 24))] := hl
    refine lv_ldc2 (v := ck_NO) hx hb hown (hts (.constantLong RX1 30 ck_NO) (by decide +kernel)) dX1_median_124 ?_
    have hres : ck_NO = (ck_md hd lo hi) := by simp [ck_md, hj_i]
    exact W.lret (v := ck_NO) hx hb hr (fun t ht _ => ⟨congrArg (fun z => Outcome.returned (some (Value.long z))) hres, ht⟩) (fun _ h => nomatch h) dX1_median_127
  · have hlt_i : i < 24 := ck_ltN hle_i c_1
    refine lv_iconst (v := 0) hx hb dX1_median_13 (by decide) ?_
    refine lv_istore_n (lv' := [(3, .int 0), (0, .ref h), (1, .int (ck_ns hd)), (2, .int (nI i))]) hx hb dX1_median_14 rfl hl (by decide) rfl (fun ls hl => ?_)
    refine lv_iconst (v := 0) hx hb dX1_median_15 (by decide) ?_
    refine lv_istore (lv' := [(4, .int 0), (3, .int 0), (0, .ref h), (1, .int (ck_ns hd)), (2, .int (nI i))]) hx hb dX1_median_16 hl (by decide) rfl (fun ls hl => ?_)
    refine ck_loop (G := fun ls => W p l e _ s m _ below meth c _ _ _ _ _ (F0 m 18 ls [])) (nL := 5) (24) (fun o => True) (fun o => [(0, .ref h), (1, .int (ck_ns hd)), (2, .int (nI i)), (3, .int (ck_cn (ck_plQ (bt hd) lo hi i) o)), (4, .int (nI o))]) (fun o hle_o hj_o ih_o ls hl => ?_) ls (trivial) ?_
    rotate_left
    · have hq : lv_has ls 5 [(0, .ref h), (1, .int (ck_ns hd)), (2, .int (nI i)), (3, .int 0), (4, .int 0)] := lv_sub hl [2, 3, 4, 1, 0] rfl
      exact hq
    have hl : lv_has ls 5 [(0, .ref h), (1, .int (ck_ns hd)), (2, .int (nI i)), (3, .int (ck_cn (ck_plQ (bt hd) lo hi i) o)), (4, .int (nI o))] := hl
    refine lv_iload hx hb dX1_median_18 (lv_at hl 4 rfl) ?_
    refine lv_bipush (v := 24) hx hb dX1_median_20 (by decide) ?_
    refine lv_icmp_ge (tgt := 94) hx hb dX1_median_22 (by decide) (fun c_2 => ?_) (fun c_2 => ?_)
    · have heq_o : o = 24 := ck_eqN hle_o c_2
      subst heq_o
      have hl : lv_has ls 5 [(0, .ref h), (1, .int (ck_ns hd)), (2, .int (nI i)), (3, .int (ck_cn (ck_plQ (bt hd) lo hi i) 24)), (4, .int (nI 24))] := hl
      refine lv_aload_n hx hb dX1_median_94 rfl (lv_at hl 0 rfl) ?_
      refine va_get (D := D) (ci := 1) (v := .ref a0) (C := RX1) (T := TX1) (N := 6) hx hb hts hin hown hK hP 0 rfl rfl 0 (by decide) (hts (.fieldLink RX1 7 "ClockDeskModel" "is" "[Z") (by decide +kernel)) (fun _ h9 => h9) rfl dX1_median_95 ?_
      refine lv_iload_n hx hb dX1_median_98 rfl (lv_at hl 2 rfl) ?_
      refine ck_zald hx hb hK hP 1 0 rfl rfl (i := i) hlt_i dX1_median_99 ?_
      refine lv_if_eq (tgt := 118) hx hb dX1_median_100 (by decide) (fun c_3 => ?_) (fun c_3 => ?_)
      · have c_3 := ck_bf c_3
        refine lv_iinc (v := (nI (i + 1))) (lv' := [(2, .int (nI (i + 1))), (0, .ref h), (1, .int (ck_ns hd)), (3, .int (ck_cn (ck_plQ (bt hd) lo hi i) 24)), (4, .int (nI 24))]) hx hb dX1_median_118 hl (k := 2) rfl (nI_1 i) (by decide) rfl (fun ls hl => ?_)
        refine lv_goto (tgt := 7) hx hb dX1_median_121 (by decide) ?_
        refine ih_i ls hlt_i (by simp [ck_mdf, hj_i, c_3]) ?_
        have hq : lv_has ls 5 [(0, .ref h), (1, .int (ck_ns hd)), (2, .int (nI (i + 1)))] := lv_sub hl [1, 2, 0] rfl
        exact hq
      · have c_3 := ck_bt c_3
        refine lv_iload_n hx hb dX1_median_103 rfl (lv_at hl 3 rfl) ?_
        refine lv_iload_n hx hb dX1_median_104 rfl (lv_at hl 1 rfl) ?_
        refine lv_iconst (v := 1) hx hb dX1_median_105 (by decide) ?_
        refine lv_isub hx hb dX1_median_106 ?_
        refine lv_iconst (v := 2) hx hb dX1_median_107 (by decide) ?_
        refine lv_idiv hx hb dX1_median_108 (by decide) ?_
        refine lv_icmp_ne (tgt := 118) hx hb dX1_median_109 (by decide) (fun c_4 => ?_) (fun c_4 => ?_)
        · refine lv_iinc (v := (nI (i + 1))) (lv' := [(2, .int (nI (i + 1))), (0, .ref h), (1, .int (ck_ns hd)), (3, .int (ck_cn (ck_plQ (bt hd) lo hi i) 24)), (4, .int (nI 24))]) hx hb dX1_median_118 hl (k := 2) rfl (nI_1 i) (by decide) rfl (fun ls hl => ?_)
          refine lv_goto (tgt := 7) hx hb dX1_median_121 (by decide) ?_
          refine ih_i ls hlt_i (by have q := c_4; rw [ck_plQ_eq c_3] at q; simp [ck_mdf, ck_pl, hj_i, c_3, q]) ?_
          have hq : lv_has ls 5 [(0, .ref h), (1, .int (ck_ns hd)), (2, .int (nI (i + 1)))] := lv_sub hl [1, 2, 0] rfl
          exact hq
        · refine lv_aload_n hx hb dX1_median_112 rfl (lv_at hl 0 rfl) ?_
          refine lv_iload_n hx hb dX1_median_113 rfl (lv_at hl 2 rfl) ?_
          refine ck_cV (As := [.int (nI i)]) (rest := []) ⟨hx, hb, hml, hown, hts⟩ (c_X1_middle l D h a0 a1 a2 c0 c1 c2 lo hi hd ow off go inv i hlt_i) (cwV 1 hts gX1_median_X1_middle rfl rfl rfl (by decide +kernel) ⟨Nat.le_of_ble_eq_true rfl, Nat.le_of_ble_eq_true rfl⟩) hP hK (va_recv hK hP (ci := 1) (q0 := 0) rfl rfl) rfl hl.1 rfl (Nat.le_of_ble_eq_true rfl) dX1_median_114 ⟨Nat.le_of_ble_eq_true rfl, Nat.le_of_ble_eq_true rfl⟩ ?_
          have hres : (ck_mid lo hi i) = (ck_md hd lo hi) := by have q := c_4; rw [ck_plQ_eq c_3] at q; rw [ck_md, ck_mdf_stay hlt_i (show ck_mdf (bt hd) lo hi ((ck_ns hd - 1) / 2) (i + 1) = some (ck_mid lo hi i) by simp [ck_mdf, ck_pl, hj_i, c_3, q])]; rfl
          exact W.lret (v := (ck_mid lo hi i)) hx hb hr (fun t ht _ => ⟨congrArg (fun z => Outcome.returned (some (Value.long z))) hres, ht⟩) (fun _ h => nomatch h) dX1_median_117
    · have hlt_o : o < 24 := ck_ltN hle_o c_2
      refine lv_iload_n hx hb dX1_median_25 rfl (lv_at hl 3 rfl) ?_
      refine lv_aload_n hx hb dX1_median_26 rfl (lv_at hl 0 rfl) ?_
      refine va_get (D := D) (ci := 1) (v := .ref a0) (C := RX1) (T := TX1) (N := 6) hx hb hts hin hown hK hP 0 rfl rfl 0 (by decide) (hts (.fieldLink RX1 7 "ClockDeskModel" "is" "[Z") (by decide +kernel)) (fun _ h9 => h9) rfl dX1_median_27 ?_
      refine lv_iload_n hx hb dX1_median_30 rfl (lv_at hl 2 rfl) ?_
      refine ck_zald hx hb hK hP 1 0 rfl rfl (i := i) hlt_i dX1_median_31 ?_
      refine lv_if_eq (tgt := 85) hx hb dX1_median_32 (by decide) (fun c_5 => ?_) (fun c_5 => ?_)
      · have c_5 := ck_bf c_5
        refine lv_iconst (v := 0) hx hb dX1_median_85 (by decide) ?_
        refine lv_iadd hx hb dX1_median_86 ?_
        refine lv_istore_n (lv' := [(3, .int ((ck_cn (ck_plQ (bt hd) lo hi i) o) + 0)), (0, .ref h), (1, .int (ck_ns hd)), (2, .int (nI i)), (4, .int (nI o))]) hx hb dX1_median_87 rfl hl (by decide) rfl (fun ls hl => ?_)
        refine lv_iinc (v := (nI (o + 1))) (lv' := [(4, .int (nI (o + 1))), (3, .int ((ck_cn (ck_plQ (bt hd) lo hi i) o) + 0)), (0, .ref h), (1, .int (ck_ns hd)), (2, .int (nI i))]) hx hb dX1_median_88 hl (k := 4) rfl (nI_1 o) (by decide) rfl (fun ls hl => ?_)
        refine lv_goto (tgt := 18) hx hb dX1_median_91 (by decide) ?_
        refine ih_o ls hlt_o (trivial) ?_
        have hq : lv_has ls 5 [(0, .ref h), (1, .int (ck_ns hd)), (2, .int (nI i)), (3, .int ((ck_cn (ck_plQ (bt hd) lo hi i) o) + 0)), (4, .int (nI (o + 1)))] := lv_sub hl [2, 3, 4, 1, 0] rfl
        have eq0 : ((ck_cn (ck_plQ (bt hd) lo hi i) o) + 0) = (ck_cn (ck_plQ (bt hd) lo hi i) (o + 1)) := by simp [ck_cn, ck_plQ, ck_plP, c_5]
        exact lv_eqq hq (by rw [← eq0])
      · have c_5 := ck_bt c_5
        refine lv_aload_n hx hb dX1_median_35 rfl (lv_at hl 0 rfl) ?_
        refine va_get (D := D) (ci := 1) (v := .ref a0) (C := RX1) (T := TX1) (N := 6) hx hb hts hin hown hK hP 0 rfl rfl 0 (by decide) (hts (.fieldLink RX1 7 "ClockDeskModel" "is" "[Z") (by decide +kernel)) (fun _ h9 => h9) rfl dX1_median_36 ?_
        refine lv_iload hx hb dX1_median_39 (lv_at hl 4 rfl) ?_
        refine ck_zald hx hb hK hP 1 0 rfl rfl (i := o) hlt_o dX1_median_41 ?_
        refine lv_if_eq (tgt := 85) hx hb dX1_median_42 (by decide) (fun c_6 => ?_) (fun c_6 => ?_)
        · have c_6 := ck_bf c_6
          refine lv_iconst (v := 0) hx hb dX1_median_85 (by decide) ?_
          refine lv_iadd hx hb dX1_median_86 ?_
          refine lv_istore_n (lv' := [(3, .int ((ck_cn (ck_plQ (bt hd) lo hi i) o) + 0)), (0, .ref h), (1, .int (ck_ns hd)), (2, .int (nI i)), (4, .int (nI o))]) hx hb dX1_median_87 rfl hl (by decide) rfl (fun ls hl => ?_)
          refine lv_iinc (v := (nI (o + 1))) (lv' := [(4, .int (nI (o + 1))), (3, .int ((ck_cn (ck_plQ (bt hd) lo hi i) o) + 0)), (0, .ref h), (1, .int (ck_ns hd)), (2, .int (nI i))]) hx hb dX1_median_88 hl (k := 4) rfl (nI_1 o) (by decide) rfl (fun ls hl => ?_)
          refine lv_goto (tgt := 18) hx hb dX1_median_91 (by decide) ?_
          refine ih_o ls hlt_o (trivial) ?_
          have hq : lv_has ls 5 [(0, .ref h), (1, .int (ck_ns hd)), (2, .int (nI i)), (3, .int ((ck_cn (ck_plQ (bt hd) lo hi i) o) + 0)), (4, .int (nI (o + 1)))] := lv_sub hl [2, 3, 4, 1, 0] rfl
          have eq0 : ((ck_cn (ck_plQ (bt hd) lo hi i) o) + 0) = (ck_cn (ck_plQ (bt hd) lo hi i) (o + 1)) := by simp [ck_cn, ck_plQ, ck_plP, c_5, c_6]
          exact lv_eqq hq (by rw [← eq0])
        · have c_6 := ck_bt c_6
          refine lv_aload_n hx hb dX1_median_45 rfl (lv_at hl 0 rfl) ?_
          refine lv_iload hx hb dX1_median_46 (lv_at hl 4 rfl) ?_
          refine ck_cV (As := [.int (nI o)]) (rest := [.int (ck_cn (ck_plQ (bt hd) lo hi i) o)]) ⟨hx, hb, hml, hown, hts⟩ (c_X1_middle l D h a0 a1 a2 c0 c1 c2 lo hi hd ow off go inv o hlt_o) (cwV 1 hts gX1_median_X1_middle rfl rfl rfl (by decide +kernel) ⟨Nat.le_of_ble_eq_true rfl, Nat.le_of_ble_eq_true rfl⟩) hP hK (va_recv hK hP (ci := 1) (q0 := 0) rfl rfl) rfl hl.1 rfl (Nat.le_of_ble_eq_true rfl) dX1_median_48 ⟨Nat.le_of_ble_eq_true rfl, Nat.le_of_ble_eq_true rfl⟩ ?_
          refine lv_aload_n hx hb dX1_median_51 rfl (lv_at hl 0 rfl) ?_
          refine lv_iload_n hx hb dX1_median_52 rfl (lv_at hl 2 rfl) ?_
          refine ck_cV (As := [.int (nI i)]) (rest := [.long (ck_mid lo hi o), .int (ck_cn (ck_plQ (bt hd) lo hi i) o)]) ⟨hx, hb, hml, hown, hts⟩ (c_X1_middle l D h a0 a1 a2 c0 c1 c2 lo hi hd ow off go inv i hlt_i) (cwV 1 hts gX1_median_X1_middle rfl rfl rfl (by decide +kernel) ⟨Nat.le_of_ble_eq_true rfl, Nat.le_of_ble_eq_true rfl⟩) hP hK (va_recv hK hP (ci := 1) (q0 := 0) rfl rfl) rfl hl.1 rfl (Nat.le_of_ble_eq_true rfl) dX1_median_53 ⟨Nat.le_of_ble_eq_true rfl, Nat.le_of_ble_eq_true rfl⟩ ?_
          refine W.lcmp hx hb dX1_median_56 ?_
          refine lv_if_lt (tgt := 81) hx hb dX1_median_57 (by decide) (fun c_7 => ?_) (fun c_7 => ?_)
          · rw [lg_cmp_lt] at c_7
            refine lv_iconst (v := 1) hx hb dX1_median_81 (by decide) ?_
            refine lv_goto (tgt := 86) hx hb dX1_median_82 (by decide) ?_
            refine lv_iadd hx hb dX1_median_86 ?_
            refine lv_istore_n (lv' := [(3, .int ((ck_cn (ck_plQ (bt hd) lo hi i) o) + 1)), (0, .ref h), (1, .int (ck_ns hd)), (2, .int (nI i)), (4, .int (nI o))]) hx hb dX1_median_87 rfl hl (by decide) rfl (fun ls hl => ?_)
            refine lv_iinc (v := (nI (o + 1))) (lv' := [(4, .int (nI (o + 1))), (3, .int ((ck_cn (ck_plQ (bt hd) lo hi i) o) + 1)), (0, .ref h), (1, .int (ck_ns hd)), (2, .int (nI i))]) hx hb dX1_median_88 hl (k := 4) rfl (nI_1 o) (by decide) rfl (fun ls hl => ?_)
            refine lv_goto (tgt := 18) hx hb dX1_median_91 (by decide) ?_
            refine ih_o ls hlt_o (trivial) ?_
            have hq : lv_has ls 5 [(0, .ref h), (1, .int (ck_ns hd)), (2, .int (nI i)), (3, .int ((ck_cn (ck_plQ (bt hd) lo hi i) o) + 1)), (4, .int (nI (o + 1)))] := lv_sub hl [2, 3, 4, 1, 0] rfl
            have eq0 : ((ck_cn (ck_plQ (bt hd) lo hi i) o) + 1) = (ck_cn (ck_plQ (bt hd) lo hi i) (o + 1)) := by simp [ck_cn, ck_plQ, ck_plP, c_5, c_6, c_7]
            exact lv_eqq hq (by rw [← eq0])
          · rw [lg_cmp_lt] at c_7
            refine lv_aload_n hx hb dX1_median_60 rfl (lv_at hl 0 rfl) ?_
            refine lv_iload hx hb dX1_median_61 (lv_at hl 4 rfl) ?_
            refine ck_cV (As := [.int (nI o)]) (rest := [.int (ck_cn (ck_plQ (bt hd) lo hi i) o)]) ⟨hx, hb, hml, hown, hts⟩ (c_X1_middle l D h a0 a1 a2 c0 c1 c2 lo hi hd ow off go inv o hlt_o) (cwV 1 hts gX1_median_X1_middle rfl rfl rfl (by decide +kernel) ⟨Nat.le_of_ble_eq_true rfl, Nat.le_of_ble_eq_true rfl⟩) hP hK (va_recv hK hP (ci := 1) (q0 := 0) rfl rfl) rfl hl.1 rfl (Nat.le_of_ble_eq_true rfl) dX1_median_63 ⟨Nat.le_of_ble_eq_true rfl, Nat.le_of_ble_eq_true rfl⟩ ?_
            refine lv_aload_n hx hb dX1_median_66 rfl (lv_at hl 0 rfl) ?_
            refine lv_iload_n hx hb dX1_median_67 rfl (lv_at hl 2 rfl) ?_
            refine ck_cV (As := [.int (nI i)]) (rest := [.long (ck_mid lo hi o), .int (ck_cn (ck_plQ (bt hd) lo hi i) o)]) ⟨hx, hb, hml, hown, hts⟩ (c_X1_middle l D h a0 a1 a2 c0 c1 c2 lo hi hd ow off go inv i hlt_i) (cwV 1 hts gX1_median_X1_middle rfl rfl rfl (by decide +kernel) ⟨Nat.le_of_ble_eq_true rfl, Nat.le_of_ble_eq_true rfl⟩) hP hK (va_recv hK hP (ci := 1) (q0 := 0) rfl rfl) rfl hl.1 rfl (Nat.le_of_ble_eq_true rfl) dX1_median_68 ⟨Nat.le_of_ble_eq_true rfl, Nat.le_of_ble_eq_true rfl⟩ ?_
            refine W.lcmp hx hb dX1_median_71 ?_
            refine lv_if_ne (tgt := 85) hx hb dX1_median_72 (by decide) (fun c_8 => ?_) (fun c_8 => ?_)
            · rw [lg_cmp_eq] at c_8
              refine lv_iconst (v := 0) hx hb dX1_median_85 (by decide) ?_
              refine lv_iadd hx hb dX1_median_86 ?_
              refine lv_istore_n (lv' := [(3, .int ((ck_cn (ck_plQ (bt hd) lo hi i) o) + 0)), (0, .ref h), (1, .int (ck_ns hd)), (2, .int (nI i)), (4, .int (nI o))]) hx hb dX1_median_87 rfl hl (by decide) rfl (fun ls hl => ?_)
              refine lv_iinc (v := (nI (o + 1))) (lv' := [(4, .int (nI (o + 1))), (3, .int ((ck_cn (ck_plQ (bt hd) lo hi i) o) + 0)), (0, .ref h), (1, .int (ck_ns hd)), (2, .int (nI i))]) hx hb dX1_median_88 hl (k := 4) rfl (nI_1 o) (by decide) rfl (fun ls hl => ?_)
              refine lv_goto (tgt := 18) hx hb dX1_median_91 (by decide) ?_
              refine ih_o ls hlt_o (trivial) ?_
              have hq : lv_has ls 5 [(0, .ref h), (1, .int (ck_ns hd)), (2, .int (nI i)), (3, .int ((ck_cn (ck_plQ (bt hd) lo hi i) o) + 0)), (4, .int (nI (o + 1)))] := lv_sub hl [2, 3, 4, 1, 0] rfl
              have eq0 : ((ck_cn (ck_plQ (bt hd) lo hi i) o) + 0) = (ck_cn (ck_plQ (bt hd) lo hi i) (o + 1)) := by simp [ck_cn, ck_plQ, ck_plP, c_5, c_6, c_7, c_8]
              exact lv_eqq hq (by rw [← eq0])
            · rw [lg_cmp_eq] at c_8
              refine lv_iload hx hb dX1_median_75 (lv_at hl 4 rfl) ?_
              refine lv_iload_n hx hb dX1_median_77 rfl (lv_at hl 2 rfl) ?_
              refine lv_icmp_ge (tgt := 85) hx hb dX1_median_78 (by decide) (fun c_9 => ?_) (fun c_9 => ?_)
              · refine lv_iconst (v := 0) hx hb dX1_median_85 (by decide) ?_
                refine lv_iadd hx hb dX1_median_86 ?_
                refine lv_istore_n (lv' := [(3, .int ((ck_cn (ck_plQ (bt hd) lo hi i) o) + 0)), (0, .ref h), (1, .int (ck_ns hd)), (2, .int (nI i)), (4, .int (nI o))]) hx hb dX1_median_87 rfl hl (by decide) rfl (fun ls hl => ?_)
                refine lv_iinc (v := (nI (o + 1))) (lv' := [(4, .int (nI (o + 1))), (3, .int ((ck_cn (ck_plQ (bt hd) lo hi i) o) + 0)), (0, .ref h), (1, .int (ck_ns hd)), (2, .int (nI i))]) hx hb dX1_median_88 hl (k := 4) rfl (nI_1 o) (by decide) rfl (fun ls hl => ?_)
                refine lv_goto (tgt := 18) hx hb dX1_median_91 (by decide) ?_
                refine ih_o ls hlt_o (trivial) ?_
                have hq : lv_has ls 5 [(0, .ref h), (1, .int (ck_ns hd)), (2, .int (nI i)), (3, .int ((ck_cn (ck_plQ (bt hd) lo hi i) o) + 0)), (4, .int (nI (o + 1)))] := lv_sub hl [2, 3, 4, 1, 0] rfl
                have eq0 : ((ck_cn (ck_plQ (bt hd) lo hi i) o) + 0) = (ck_cn (ck_plQ (bt hd) lo hi i) (o + 1)) := by simp [ck_cn, ck_plQ, ck_plP, c_5, c_6, c_7, c_8, c_9]
                exact lv_eqq hq (by rw [← eq0])
              · refine lv_iconst (v := 1) hx hb dX1_median_81 (by decide) ?_
                refine lv_goto (tgt := 86) hx hb dX1_median_82 (by decide) ?_
                refine lv_iadd hx hb dX1_median_86 ?_
                refine lv_istore_n (lv' := [(3, .int ((ck_cn (ck_plQ (bt hd) lo hi i) o) + 1)), (0, .ref h), (1, .int (ck_ns hd)), (2, .int (nI i)), (4, .int (nI o))]) hx hb dX1_median_87 rfl hl (by decide) rfl (fun ls hl => ?_)
                refine lv_iinc (v := (nI (o + 1))) (lv' := [(4, .int (nI (o + 1))), (3, .int ((ck_cn (ck_plQ (bt hd) lo hi i) o) + 1)), (0, .ref h), (1, .int (ck_ns hd)), (2, .int (nI i))]) hx hb dX1_median_88 hl (k := 4) rfl (nI_1 o) (by decide) rfl (fun ls hl => ?_)
                refine lv_goto (tgt := 18) hx hb dX1_median_91 (by decide) ?_
                refine ih_o ls hlt_o (trivial) ?_
                have hq : lv_has ls 5 [(0, .ref h), (1, .int (ck_ns hd)), (2, .int (nI i)), (3, .int ((ck_cn (ck_plQ (bt hd) lo hi i) o) + 1)), (4, .int (nI (o + 1)))] := lv_sub hl [2, 3, 4, 1, 0] rfl
                have eq0 : ((ck_cn (ck_plQ (bt hd) lo hi i) o) + 1) = (ck_cn (ck_plQ (bt hd) lo hi i) (o + 1)) := by simp [ck_cn, ck_plQ, ck_plP, c_5, c_6, c_7, c_8, c_9]
                exact lv_eqq hq (by rw [← eq0])
end
section
-- ranks, the median's being there, means, the survivors
theorem ck_cN_rem {P : Nat → Bool} {M : Nat} : ∀ n, M < n → P M = true → ck_cN (fun o => P o && !decide (o = M)) n + 1 = ck_cN P n
  | 0, h, _ => absurd h (Nat.not_lt_zero M)
  | n + 1, h, hp => by
    show (if (P n && !decide (n = M)) then ck_cN (fun o => P o && !decide (o = M)) n + 1 else ck_cN (fun o => P o && !decide (o = M)) n) + 1 = (if P n then ck_cN P n + 1 else ck_cN P n)
    rcases Nat.lt_or_ge M n with q | q
    · have ih := ck_cN_rem n q hp
      rw [decide_eq_false (show ¬ n = M by omega)]
      cases P n <;> simp <;> omega
    · have e : M = n := by omega
      subst e
      rw [hp]
      have := ck_cN_congr (P := fun o => P o && !decide (o = M)) (Q := P) M (fun j hj => by rw [decide_eq_false (show ¬ j = M by omega)]; simp)
      simp
      omega
theorem ck_mx_ex (K : Nat → Int) (P : Nat → Bool) : ∀ n, (∃ j, j < n ∧ P j = true) → ∃ M, M < n ∧ P M = true ∧ ∀ o, o < n → P o = true → K o ≤ K M
  | 0, ⟨j, hj, _⟩ => absurd hj (Nat.not_lt_zero j)
  | n + 1, ⟨j, hj, hp⟩ => by
    by_cases hx : ∃ i, i < n ∧ P i = true
    · obtain ⟨M, h1, h2, h3⟩ := ck_mx_ex K P n hx
      by_cases hn : P n = true ∧ K M < K n
      · refine ⟨n, by omega, hn.1, fun o ho hpo => ?_⟩
        rcases Nat.lt_or_ge o n with q | q
        · have := h3 o q hpo
          omega
        · rw [show o = n by omega]; exact Int.le_refl _
      · refine ⟨M, by omega, h2, fun o ho hpo => ?_⟩
        rcases Nat.lt_or_ge o n with q | q
        · exact h3 o q hpo
        · have e : o = n := by omega
          subst e
          rcases Int.lt_or_le (K M) (K o) with z | z
          · exact absurd ⟨hpo, z⟩ hn
          · exact z
    · have e : j = n := by
        rcases Nat.lt_or_ge j n with q | q
        · exact absurd ⟨j, q, hp⟩ hx
        · omega
      subst e
      refine ⟨j, by omega, hp, fun o ho hpo => ?_⟩
      rcases Nat.lt_or_ge o j with q | q
      · exact absurd ⟨o, q, hpo⟩ hx
      · rw [show o = j by omega]; exact Int.le_refl _
theorem ck_rank_ex (N : Nat) (K : Nat → Int) (hK : ∀ a b, a < N → b < N → K a = K b → a = b) : ∀ n (P : Nat → Bool), ck_cN P N = n → ∀ r, r < n → ∃ j, j < N ∧ P j = true ∧ ck_cN (fun o => P o && decide (K o < K j)) N = r
  | 0, _, _, r, hr => absurd hr (Nat.not_lt_zero r)
  | n + 1, P, hn, r, hr => by
    obtain ⟨M, h1, h2, h3⟩ := ck_mx_ex K P N (ck_cN_ex N (by omega))
    have hrem := ck_cN_rem (P := P) N h1 h2
    rcases Nat.lt_or_ge r n with q | q
    · obtain ⟨j, a, b, c⟩ := ck_rank_ex N K hK n (fun o => P o && !decide (o = M)) (by omega) r q
      simp only [Bool.and_eq_true, Bool.not_eq_true', decide_eq_false_iff_not] at b
      refine ⟨j, a, b.1, ?_⟩
      rw [← c]
      refine ck_cN_congr N (fun o ho => ?_)
      by_cases e : o = M
      · subst e
        have := h3 j a b.1
        rw [decide_eq_false (show ¬ K o < K j by omega)]
        simp
      · simp [e]
    · refine ⟨M, h1, h2, ?_⟩
      have : ck_cN (fun o => P o && decide (K o < K M)) N = ck_cN (fun o => P o && !decide (o = M)) N := ck_cN_congr N (fun o ho => by
        cases hp : P o with
        | false => rfl
        | true =>
          have := h3 o ho hp
          by_cases e : o = M
          · subst e
            simp
          · have hne : ¬ K o = K M := fun z => e (hK o M ho h1 z)
            rw [decide_eq_true (show K o < K M by omega), decide_eq_false e]
            rfl)
      omega
def ck_K (lo hi : Nat → Int64) (a : Nat) : Int := (ck_mid lo hi a).toInt * 32 + a
theorem ck_plP_K (is : Nat → Bool) (lo hi : Nat → Int64) {j o : Nat} (hj : j < 24) (ho : o < 24) : ck_plP is lo hi j o = (is o && decide (ck_K lo hi o < ck_K lo hi j)) := by
  unfold ck_plP
  congr 1
  rw [Bool.eq_iff_iff]
  simp only [Bool.or_eq_true, Bool.and_eq_true, Bool.not_eq_true', decide_eq_true_eq, decide_eq_false_iff_not, nI_leI (show j < 2 ^ 31 by omega) (show o < 2 ^ 31 by omega), Int64.lt_iff_toInt_lt, ← Int64.toInt_inj]
  unfold ck_K
  omega
theorem ck_mdf_none {is : Nat → Bool} {lo hi : Nat → Int64} {w : Int32} : ∀ n, ck_mdf is lo hi w n = none → ∀ j, j < n → is j = true → ¬ ck_pl is lo hi j = w
  | 0, _, j, hj, _ => absurd hj (Nat.not_lt_zero j)
  | n + 1, h, j, hj, hi1 => by
    have e : ck_mdf is lo hi w (n + 1) = match ck_mdf is lo hi w n with
      | some v => some v
      | none => if is n && decide (ck_pl is lo hi n = w) then some (ck_mid lo hi n) else none := rfl
    rw [e] at h
    cases hm : ck_mdf is lo hi w n with
    | some v => rw [hm] at h; cases h
    | none =>
      rw [hm] at h
      rcases Nat.lt_or_ge j n with q | q
      · exact ck_mdf_none n hm j q hi1
      · have ej : j = n := by omega
        subst ej
        intro z
        simp [hi1, z] at h
theorem ck_mdf_some {is : Nat → Bool} {lo hi : Nat → Int64} {w : Int32} {v : Int64} : ∀ n, ck_mdf is lo hi w n = some v → ∃ j, j < n ∧ is j = true ∧ v = ck_mid lo hi j
  | 0, h => by cases h
  | n + 1, h => by
    have e : ck_mdf is lo hi w (n + 1) = match ck_mdf is lo hi w n with
      | some v => some v
      | none => if is n && decide (ck_pl is lo hi n = w) then some (ck_mid lo hi n) else none := rfl
    rw [e] at h
    cases hm : ck_mdf is lo hi w n with
    | some v2 =>
      rw [hm] at h
      cases h
      obtain ⟨j, a, b, c⟩ := ck_mdf_some n hm
      exact ⟨j, by omega, b, c⟩
    | none =>
      rw [hm] at h
      cases hb : (is n && decide (ck_pl is lo hi n = w)) with
      | false => simp [hb] at h
      | true =>
        simp [hb] at h
        simp only [Bool.and_eq_true] at hb
        exact ⟨n, by omega, hb.1, h.symm⟩
theorem ck_md_ex {hd : Int32} {lo hi : Nat → Int64} (inv : ck_inv hd lo hi) (hne : ¬ hd = 0) : ∃ j, j < 24 ∧ bt hd j = true ∧ ck_md hd lo hi = ck_mid lo hi j := by
  have hle := ck_cN_le (bt hd) 24
  have hpos : 0 < ck_cN (bt hd) 24 := by
    rcases Nat.eq_zero_or_pos (ck_cN (bt hd) 24) with q | q
    · exact absurd (ck_hd0 inv.1 (ck_cN_0 24 q)) hne
    · exact q
  obtain ⟨m, hm⟩ : ∃ m, ck_cN (bt hd) 24 = m + 1 := ⟨ck_cN (bt hd) 24 - 1, by omega⟩
  have hw : (ck_ns hd - 1) / 2 = nI (m / 2) := by
    rw [← ck_ns24 inv.1, ck_cn_N, hm, nI_pred]
    exact pk_div (d := 2) (by omega) (by omega) (by omega)
  obtain ⟨j, a, b, c⟩ := ck_rank_ex 24 (ck_K lo hi) (fun a b ha hb e => by unfold ck_K at e; omega) (m + 1) (bt hd) hm (m / 2) (by omega)
  have hpl : ck_pl (bt hd) lo hi j = nI (m / 2) := by
    unfold ck_pl
    rw [ck_cn_N, ck_cN_congr 24 (fun o ho => ck_plP_K (bt hd) lo hi a ho), c]
  unfold ck_md
  rw [hw]
  cases hf : ck_mdf (bt hd) lo hi (nI (m / 2)) 24 with
  | none => exact absurd hpl (ck_mdf_none 24 hf j a b)
  | some v =>
    obtain ⟨i, x, y, z⟩ := ck_mdf_some 24 hf
    exact ⟨i, x, y, by rw [z]; rfl⟩
def ck_nP (hd : Int32) (lo hi : Nat → Int64) (p lim : Int64) (j : Nat) : Bool := bt hd j && !decide (lim < ck_abs (ck_mid lo hi j - p))
def ck_cL (P : Nat → Bool) : Nat → Int64
  | 0 => 0
  | n + 1 => if P n then ck_cL P n + 1 else ck_cL P n
theorem ck_cL_N (P : Nat → Bool) : ∀ n, ck_cL P n = lN (ck_cN P n)
  | 0 => rfl
  | n + 1 => by
    show (if P n then ck_cL P n + 1 else ck_cL P n) = lN (if P n then ck_cN P n + 1 else ck_cN P n)
    rw [ck_cL_N P n]
    split
    · exact lN_1 _
    · rfl
theorem ck_nr_bits (hd : Int32) (lo hi : Nat → Int64) (p lim : Int64) : ∀ n, n ≤ 24 → ∀ k, bt (ck_nr hd lo hi p lim n) k = (bt hd k && !(decide (k < n) && !decide (ck_abs (ck_mid lo hi k - p) ≤ lim)))
  | 0, _, k => by simp [ck_nr]
  | n + 1, h, k => by
    have ih := ck_nr_bits hd lo hi p lim n (by omega) k
    show bt (if (bt hd n && !decide (ck_abs (ck_mid lo hi n - p) ≤ lim)) then ck_wo (ck_nr hd lo hi p lim n) (nI n) else ck_nr hd lo hi p lim n) k = _
    by_cases e : k = n
    · subst e
      cases hb : (bt hd k && !decide (ck_abs (ck_mid lo hi k - p) ≤ lim)) with
      | true =>
        simp only [if_true]
        rw [ck_bt_wo _ (by omega)]
        simp only [Bool.and_eq_true, Bool.not_eq_true', decide_eq_false_iff_not] at hb
        simp [hb.2]
      | false =>
        simp only [Bool.false_eq_true, if_false]
        rw [ih]
        cases hk : bt hd k with
        | false => rfl
        | true =>
          rw [hk] at hb
          simp only [Bool.true_and, Bool.not_eq_false', decide_eq_true_eq] at hb
          simp [hb]
    · have e1 : decide (k < n + 1) = decide (k < n) := by
        rw [decide_eq_decide]
        omega
      rw [e1, ← ih]
      split
      · rw [ck_bt_wo _ (by omega), decide_eq_false e]
        simp
      · rfl
theorem ck_nr_bt {hd : Int32} {lo hi : Nat → Int64} (inv : ck_inv hd lo hi) (p lim : Int64) : bt (ck_nr hd lo hi p lim 24) = ck_nP hd lo hi p lim := by
  funext k
  rw [ck_nr_bits hd lo hi p lim 24 (Nat.le_refl 24) k]
  unfold ck_nP
  rcases Nat.lt_or_ge k 24 with q | q
  · rw [decide_eq_true q]
    congr 1
    rw [Bool.eq_iff_iff]
    simp only [Bool.true_and, Bool.not_not, Bool.not_eq_true', decide_eq_true_eq, decide_eq_false_iff_not, Int64.lt_iff_toInt_lt, Int64.le_iff_toInt_le]
    omega
  · rw [inv.1 k q]
    rfl
theorem ck_mean1 {hd : Int32} {lo hi : Nat → Int64} (inv : ck_inv hd lo hi) (p lim : Int64) : ck_cL (ck_nP hd lo hi p lim) 24 = Int32.toInt64 (ck_ns (ck_nr hd lo hi p lim 24)) := by
  have hz : ∀ j, 24 ≤ j → bt (ck_nr hd lo hi p lim 24) j = false := fun j hj => by
    rw [ck_nr_bt inv]
    unfold ck_nP
    rw [inv.1 j hj]
    rfl
  have hle := ck_cN_le (ck_nP hd lo hi p lim) 24
  rw [ck_cL_N, ← ck_ns24 hz, ck_nr_bt inv, ck_cn_N, nI_l (by omega)]
theorem ck_meanc {hd : Int32} {lo hi : Nat → Int64} (inv : ck_inv hd lo hi) (hne : ¬ hd = 0) {lim : Int64} (hl : ¬ lim < 0) : 0 < ck_cN (ck_nP hd lo hi (ck_md hd lo hi) lim) 24 := by
  obtain ⟨j, a, b, c⟩ := ck_md_ex inv hne
  refine ck_cN_pos a ?_
  unfold ck_nP
  rw [b, c, Int64.sub_self]
  have : ¬ lim < ck_abs 0 := hl
  simp [this]
theorem ck_meanp {hd : Int32} {lo hi : Nat → Int64} (inv : ck_inv hd lo hi) (hne : ¬ hd = 0) {lim : Int64} (hl : ¬ lim < 0) : 0 < ck_cL (ck_nP hd lo hi (ck_md hd lo hi) lim) 24 := by
  have h1 := ck_meanc inv hne hl
  have hle := ck_cN_le (ck_nP hd lo hi (ck_md hd lo hi) lim) 24
  rw [ck_cL_N]
  exact (lN_lt (a := 0) (by omega) (by omega)).mpr h1
theorem ck_mean0 {hd : Int32} {lo hi : Nat → Int64} (inv : ck_inv hd lo hi) (hne : ¬ hd = 0) {lim : Int64} (hl : ¬ lim < 0) : ck_fd (ck_sm (ck_nP hd lo hi (ck_md hd lo hi) lim) lo hi 24) (ck_cL (ck_nP hd lo hi (ck_md hd lo hi) lim) 24) = ck_mm (ck_nr hd lo hi (ck_md hd lo hi) lim 24) lo hi := by
  have hn : ¬ ck_nr hd lo hi (ck_md hd lo hi) lim 24 = 0 := by
    intro q
    obtain ⟨j, a, b⟩ := ck_cN_ex 24 (show ¬ ck_cN (ck_nP hd lo hi (ck_md hd lo hi) lim) 24 = 0 by have := ck_meanc inv hne hl; omega)
    rw [← ck_nr_bt inv, q, b_0] at b
    cases b
  unfold ck_mm
  rw [if_neg hn, ck_nr_bt inv, ck_mean1 inv]
end
section
-- the survivors, round by round
def ck_mk (is : Nat → Bool) : Nat → Int32
  | 0 => 0
  | n + 1 => if is n then ck_mk is n ||| (1 <<< (nI n &&& 31)) else ck_mk is n
theorem ck_mk_bits (is : Nat → Bool) : ∀ n, n ≤ 24 → ∀ k, bt (ck_mk is n) k = (decide (k < n) && is k)
  | 0, _, k => by show bt 0 k = _; rw [b_0]; simp
  | n + 1, h, k => by
    have ih := ck_mk_bits is n (by omega) k
    show bt (if is n then ck_mk is n ||| (1 <<< (nI n &&& 31)) else ck_mk is n) k = _
    by_cases e : k = n
    · subst e
      rw [decide_eq_true (show k < k + 1 by omega), Bool.true_and]
      cases hb : is k with
      | true => simp only [if_true]; rw [ck_bt_or _ (by omega)]; simp
      | false => simp only [Bool.false_eq_true, if_false]; rw [ih]; simp
    · rw [show decide (k < n + 1) = decide (k < n) by rw [decide_eq_decide]; omega, ← ih]
      split
      · rw [ck_bt_or _ (by omega), decide_eq_false e, Bool.or_false]
      · rfl
theorem ck_mkE {hd : Int32} (h : ∀ j, 24 ≤ j → bt hd j = false) : ck_mk (bt hd) 24 = hd := b_ext (fun k _ => by
  rw [ck_mk_bits (bt hd) 24 (Nat.le_refl 24) k]
  rcases Nat.lt_or_ge k 24 with q | q
  · rw [decide_eq_true q, Bool.true_and]
  · rw [h k q, Bool.and_false])
def ck_wi (set : Int32) (lo hi : Nat → Int64) (m : Int64) (u : Nat) : Int32 := if ck_cN (bt set) u = 0 then -1 else (ck_fm set lo hi m u).2
theorem ck_fm_s (set : Int32) (lo hi : Nat → Int64) (m : Int64) (n : Nat) : ck_fm set lo hi m (n + 1) = if bt set n && !decide (ck_abs (ck_mid lo hi n - m) < (ck_fm set lo hi m n).1) then (ck_abs (ck_mid lo hi n - m), nI n) else ck_fm set lo hi m n := rfl
theorem ck_fm_0 {set : Int32} (lo hi : Nat → Int64) (m : Int64) : ∀ n, ck_cN (bt set) n = 0 → ck_fm set lo hi m n = (0, 0)
  | 0, _ => rfl
  | n + 1, h => by
    have hb := ck_cN_0 (n + 1) h n (by omega)
    have h1 : (if bt set n then ck_cN (bt set) n + 1 else ck_cN (bt set) n) = 0 := h
    rw [hb] at h1
    rw [ck_fm_s, hb, ck_fm_0 lo hi m n h1]
    rfl
/-- the farthest one so far is one of the set, and what is kept is its distance -/
theorem ck_fm_in {set : Int32} {lo hi : Nat → Int64} {m : Int64} (hnn : ∀ j, ¬ ck_abs (ck_mid lo hi j - m) < 0) : ∀ n, ¬ ck_cN (bt set) n = 0 → ∃ w, w < n ∧ bt set w = true ∧ (ck_fm set lo hi m n).2 = nI w ∧ (ck_fm set lo hi m n).1 = ck_abs (ck_mid lo hi w - m)
  | 0, h => absurd rfl h
  | n + 1, h => by
    have h1 : ¬ (if bt set n then ck_cN (bt set) n + 1 else ck_cN (bt set) n) = 0 := h
    rw [ck_fm_s]
    cases hb : bt set n with
    | false =>
      rw [hb] at h1
      obtain ⟨w, a, b, c, d⟩ := ck_fm_in hnn n h1
      exact ⟨w, by omega, b, c, d⟩
    | true =>
      by_cases hz : ck_cN (bt set) n = 0
      · rw [ck_fm_0 lo hi m n hz]
        refine ⟨n, by omega, hb, ?_⟩
        simp [hnn n]
      · by_cases hlt : ck_abs (ck_mid lo hi n - m) < (ck_fm set lo hi m n).1
        · obtain ⟨w, a, b, c, d⟩ := ck_fm_in hnn n hz
          refine ⟨w, by omega, b, ?_⟩
          simp only [hlt, decide_true, Bool.not_true, Bool.and_false, Bool.false_eq_true, if_false]
          exact ⟨c, d⟩
        · refine ⟨n, by omega, hb, ?_⟩
          simp [hlt]
theorem ck_nm1 {w : Nat} (h : w < 2 ^ 31) : ¬ nI w = -1 := fun q => by
  have h1 := nI_pos h
  rw [q] at h1
  exact absurd (by decide) h1
theorem ck_wi_skip {set : Int32} {lo hi : Nat → Int64} {m : Int64} {u : Nat} (c : bt set u = false) : ck_wi set lo hi m u = ck_wi set lo hi m (u + 1) := by
  have e : ck_cN (bt set) (u + 1) = ck_cN (bt set) u := by
    show (if bt set u then ck_cN (bt set) u + 1 else ck_cN (bt set) u) = _
    rw [c]
    rfl
  unfold ck_wi
  rw [e, ck_fm_s, c]
  rfl
theorem ck_cN_on {P : Nat → Bool} {u : Nat} (c : P u = true) : ck_cN P (u + 1) = ck_cN P u + 1 := by
  show (if P u then ck_cN P u + 1 else ck_cN P u) = _
  rw [c]
  rfl
theorem ck_wiE {set : Int32} {lo hi : Nat → Int64} {m : Int64} (hnn : ∀ j, ¬ ck_abs (ck_mid lo hi j - m) < 0) {u : Nat} (hu : u ≤ 24) (c : ¬ ck_wi set lo hi m u = -1) : ∃ w, w < 24 ∧ ck_wi set lo hi m u = nI w ∧ ¬ ck_cN (bt set) u = 0 ∧ (ck_fm set lo hi m u).2 = nI w ∧ (ck_fm set lo hi m u).1 = ck_abs (ck_mid lo hi w - m) := by
  by_cases hz : ck_cN (bt set) u = 0
  · exact absurd (by unfold ck_wi; rw [if_pos hz]) c
  · obtain ⟨w, a, b, d, e⟩ := ck_fm_in hnn u hz
    exact ⟨w, by omega, by unfold ck_wi; rw [if_neg hz]; exact d, hz, d, e⟩
theorem ck_wi_first {set : Int32} {lo hi : Nat → Int64} {m : Int64} (hnn : ∀ j, ¬ ck_abs (ck_mid lo hi j - m) < 0) {u : Nat} (hu : u ≤ 24) (c : bt set u = true) (c2 : ck_wi set lo hi m u = -1) : nI u = ck_wi set lo hi m (u + 1) := by
  have hz : ck_cN (bt set) u = 0 := by
    by_cases hz : ck_cN (bt set) u = 0
    · exact hz
    · obtain ⟨w, a, b, d, e⟩ := ck_fm_in hnn u hz
      unfold ck_wi at c2
      rw [if_neg hz, d] at c2
      exact absurd c2 (ck_nm1 (by omega))
  unfold ck_wi
  rw [ck_cN_on c, if_neg (by omega), ck_fm_s, ck_fm_0 lo hi m u hz, c]
  simp [hnn u]
theorem ck_wi_keep {set : Int32} {lo hi : Nat → Int64} {m : Int64} {u w : Nat} (c : bt set u = true) (h1 : (ck_fm set lo hi m u).2 = nI w) (h2 : (ck_fm set lo hi m u).1 = ck_abs (ck_mid lo hi w - m)) (c3 : ck_abs (ck_mid lo hi u - m) < ck_abs (ck_mid lo hi w - m)) : nI w = ck_wi set lo hi m (u + 1) := by
  unfold ck_wi
  rw [ck_cN_on c, if_neg (by omega), ck_fm_s, h2, c]
  simp [c3, h1]
theorem ck_wi_take {set : Int32} {lo hi : Nat → Int64} {m : Int64} {u w : Nat} (c : bt set u = true) (h2 : (ck_fm set lo hi m u).1 = ck_abs (ck_mid lo hi w - m)) (c3 : ¬ ck_abs (ck_mid lo hi u - m) < ck_abs (ck_mid lo hi w - m)) : nI u = ck_wi set lo hi m (u + 1) := by
  unfold ck_wi
  rw [ck_cN_on c, if_neg (by omega), ck_fm_s, h2, c]
  simp [c3]
theorem ck_midT {lo hi : Nat → Int64} (h8 : ck_in8 lo hi) (j : Nat) : -288230376151711744 ≤ (ck_mid lo hi j).toInt ∧ (ck_mid lo hi j).toInt ≤ 288230376151711744 := by
  have hb := ck_in8T h8 j
  unfold ck_mid
  rw [ck_half_spec, Int64.toInt_add, ck_mb (by omega) (by omega)]
  omega
theorem ck_nsT (s : Int32) : (ck_ns s).toInt = ck_cN (bt s) 32 ∧ (Int32.toInt64 (ck_ns s)).toInt = ck_cN (bt s) 32 ∧ ck_cN (bt s) 32 ≤ 32 := by
  have hle := ck_cN_le (bt s) 32
  rw [ck_ns_N, nI_l (by omega)]
  exact ⟨nI_toInt (by omega), lN_toInt (by omega), hle⟩
theorem ck_two {s k : Int32} (hk : ¬ k < 1) (c : ¬ ck_ns s ≤ k) : 2 ≤ ck_cN (bt s) 32 := by
  obtain ⟨h1, h2, h3⟩ := ck_nsT s
  rw [Int32.lt_iff_toInt_lt] at hk
  rw [Int32.le_iff_toInt_le, h1] at c
  have e : (1 : Int32).toInt = 1 := by decide
  omega
theorem ck_posn {s k : Int32} (hk : ¬ k < 1) (c : ¬ ck_ns s ≤ k) : 0 < Int32.toInt64 (ck_ns s) := by
  obtain ⟨h1, h2, h3⟩ := ck_nsT s
  have := ck_two hk c
  rw [Int64.lt_iff_toInt_lt, h2, ck_i0]
  omega
theorem ck_Mnn {lo hi : Nat → Int64} (h8 : ck_in8 lo hi) {s k : Int32} (hk : ¬ k < 1) (c : ¬ ck_ns s ≤ k) (S : Int64) : ∀ j, ¬ ck_abs (ck_mid lo hi j - ck_fd S (Int32.toInt64 (ck_ns s))) < 0 := by
  intro j
  obtain ⟨h1, h2, h3⟩ := ck_nsT s
  have h4 := ck_two hk c
  have hm := ck_midT h8 j
  have hf := ck_fd_spec S (Int32.toInt64 (ck_ns s)) (by rw [h2]; omega)
  rw [h2] at hf
  have hS1 := S.le_toInt
  have hS2 := S.toInt_lt
  have hq1 : -4611686018427387904 ≤ S.toInt / (ck_cN (bt s) 32 : Int) := by
    rw [Int.le_ediv_iff_mul_le (by omega)]
    have := Int.mul_le_mul_of_nonpos_left (a := -4611686018427387904) (by decide) (show (2 : Int) ≤ (ck_cN (bt s) 32 : Int) by omega)
    omega
  have hq2 : S.toInt / (ck_cN (bt s) 32 : Int) < 4611686018427387904 := by
    rw [Int.ediv_lt_iff_lt_mul (by omega)]
    have := Int.mul_le_mul_of_nonneg_left (show (2 : Int) ≤ (ck_cN (bt s) 32 : Int) by omega) (show (0 : Int) ≤ 4611686018427387904 by decide)
    omega
  have hd : (ck_mid lo hi j - ck_fd S (Int32.toInt64 (ck_ns s))).toInt = (ck_mid lo hi j).toInt - S.toInt / (ck_cN (bt s) 32 : Int) := by
    rw [Int64.toInt_sub, hf]
    exact ck_mb (by omega) (by omega)
  generalize ck_mid lo hi j - ck_fd S (Int32.toInt64 (ck_ns s)) = x at hd ⊢
  unfold ck_abs
  rw [Int64.lt_iff_toInt_lt, ck_i0]
  by_cases q : 0 < x
  · rw [if_pos q]
    have := ck_pos q
    omega
  · rw [if_neg q]
    rw [Int64.lt_iff_toInt_lt, ck_i0] at q
    rw [Int64.toInt_neg, ck_mb (by omega) (by omega)]
    omega
def ck_sj (hd : Int32) (lo hi : Nat → Int64) (k : Int32) (r : Nat) : Prop := (∀ j, 24 ≤ j → bt (ck_lf hd lo hi k r) j = false) ∧ ck_cN (bt (ck_lf hd lo hi k r)) 32 + r ≤ 24
theorem ck_c32 {s : Int32} (h : ∀ j, 24 ≤ j → bt s j = false) : ck_cN (bt s) 32 = ck_cN (bt s) 24 := ck_cN_stop h 8
theorem ck_sj0 {hd : Int32} {lo hi : Nat → Int64} (inv : ck_inv hd lo hi) (k : Int32) : ck_sj hd lo hi k 0 := by
  refine ⟨inv.1, ?_⟩
  show ck_cN (bt hd) 32 + 0 ≤ 24
  rw [ck_c32 inv.1]
  exact ck_cN_le _ 24
theorem ck_s0 {s k : Int32} (hk : ¬ k < 1) (c : ¬ ck_ns s ≤ k) : ¬ s = 0 := fun q => by
  have := ck_two hk c
  have h0 := ck_ns0.mpr q
  have := (ck_cn0 (P := bt s) (n := 32) (by omega)).mp h0
  omega
theorem ck_wi24 {lo hi : Nat → Int64} (h8 : ck_in8 lo hi) {s k : Int32} (hz : ∀ j, 24 ≤ j → bt s j = false) (hk : ¬ k < 1) (c : ¬ ck_ns s ≤ k) : ck_wi s lo hi (ck_fd (ck_sm (bt s) lo hi 24) (Int32.toInt64 (ck_ns s))) 24 = ck_far s lo hi ∧ ∃ w, w < 24 ∧ bt s w = true ∧ ck_far s lo hi = nI w := by
  have hmm : ck_mm s lo hi = ck_fd (ck_sm (bt s) lo hi 24) (Int32.toInt64 (ck_ns s)) := by
    unfold ck_mm
    rw [if_neg (ck_s0 hk c)]
  have h2 := ck_two hk c
  rw [ck_c32 hz] at h2
  obtain ⟨w, a, b, d, e⟩ := ck_fm_in (ck_Mnn h8 hk c (ck_sm (bt s) lo hi 24)) 24 (show ¬ ck_cN (bt s) 24 = 0 by omega)
  unfold ck_wi ck_far
  rw [if_neg (by omega), hmm]
  exact ⟨rfl, w, a, b, d⟩
theorem ck_lf_s (hd : Int32) (lo hi : Nat → Int64) (k : Int32) (r : Nat) (c : ¬ ck_ns (ck_lf hd lo hi k r) ≤ k) : ck_lf hd lo hi k (r + 1) = ck_wo (ck_lf hd lo hi k r) (ck_far (ck_lf hd lo hi k r) lo hi) := by
  show (if ck_ns (ck_lf hd lo hi k r) ≤ k then _ else _) = _
  rw [if_neg c]
theorem ck_lf_next {hd : Int32} {lo hi : Nat → Int64} {k : Int32} {r : Nat} (inv : ck_inv hd lo hi) (hj : ck_sj hd lo hi k r) (hk : ¬ k < 1) (c : ¬ ck_ns (ck_lf hd lo hi k r) ≤ k) : (ck_lf hd lo hi k r &&& ((1 <<< (ck_wi (ck_lf hd lo hi k r) lo hi (ck_fd (ck_sm (bt (ck_lf hd lo hi k r)) lo hi 24) (Int32.toInt64 (ck_ns (ck_lf hd lo hi k r)))) 24 &&& 31)) ^^^ (-1))) = ck_lf hd lo hi k (r + 1) := by
  rw [ck_lf_s hd lo hi k r c, (ck_wi24 inv.2 hj.1 hk c).1]
  rfl
theorem ck_lf_cnt {hd : Int32} {lo hi : Nat → Int64} {k : Int32} {r : Nat} (inv : ck_inv hd lo hi) (hj : ck_sj hd lo hi k r) (hk : ¬ k < 1) (c : ¬ ck_ns (ck_lf hd lo hi k r) ≤ k) : (∀ j, 24 ≤ j → bt (ck_lf hd lo hi k (r + 1)) j = false) ∧ ck_cN (bt (ck_lf hd lo hi k (r + 1))) 32 + 1 = ck_cN (bt (ck_lf hd lo hi k r)) 32 := by
  obtain ⟨-, w, a, b, d⟩ := ck_wi24 inv.2 hj.1 hk c
  rw [ck_lf_s hd lo hi k r c, d]
  refine ⟨fun j hj2 => by rw [ck_bt_wo _ a, hj.1 j hj2]; rfl, ?_⟩
  rw [← ck_cN_rem (P := bt (ck_lf hd lo hi k r)) 32 (show w < 32 by omega) b]
  rw [ck_cN_congr 32 (fun o _ => ck_bt_wo (ck_lf hd lo hi k r) a o)]
theorem ck_sj_s {hd : Int32} {lo hi : Nat → Int64} {k : Int32} {r : Nat} (inv : ck_inv hd lo hi) (hj : ck_sj hd lo hi k r) (hk : ¬ k < 1) (c : ¬ ck_ns (ck_lf hd lo hi k r) ≤ k) : ck_sj hd lo hi k (r + 1) := by
  obtain ⟨h1, h2⟩ := ck_lf_cnt inv hj hk c
  have h3 := hj.2
  exact ⟨h1, by omega⟩
theorem ck_ns_next {hd : Int32} {lo hi : Nat → Int64} {k : Int32} {r : Nat} (inv : ck_inv hd lo hi) (hj : ck_sj hd lo hi k r) (hk : ¬ k < 1) (c : ¬ ck_ns (ck_lf hd lo hi k r) ≤ k) : ck_ns (ck_lf hd lo hi k r) + -1 = ck_ns (ck_lf hd lo hi k (r + 1)) := by
  obtain ⟨h1, h2⟩ := ck_lf_cnt inv hj hk c
  rw [ck_ns_N, ck_ns_N, ← h2]
  exact pk_m1 _
theorem ck_lf_lt {hd : Int32} {lo hi : Nat → Int64} {k : Int32} {r : Nat} (hj : ck_sj hd lo hi k r) (hk : ¬ k < 1) (c : ¬ ck_ns (ck_lf hd lo hi k r) ≤ k) : r < 24 := by
  have h1 := ck_two hk c
  have h2 := hj.2
  omega
theorem ck_ctI {k : Int32} (h1 : ¬ k < 1) (h2 : k ≤ 24) : ck_ct k = true := by
  have : ¬ 24 < k := by
    rw [Int32.lt_iff_toInt_lt]
    rw [Int32.le_iff_toInt_le] at h2
    omega
  simp [ck_ct, h1, this]
theorem ck_ctN {k : Int32} (h1 : k < 1) : ck_ct k = false := by simp [ck_ct, h1]
theorem ck_ctB {k : Int32} (h2 : ¬ k ≤ 24) : ck_ct k = false := by
  have : 24 < k := by
    rw [Int32.lt_iff_toInt_lt]
    rw [Int32.le_iff_toInt_le] at h2
    omega
  simp [ck_ct, this]
end
section
set_option maxHeartbeats 4000000 in
set_option maxRecDepth 100000 in
theorem c_X1_mean (l : Launch) (D : va_G) (h a0 a1 a2 : Nat) (c0 c1 c2 : ClassId) (lo hi : Nat → Int64) (hd : Int32) (ow off go : Int64) (inv : ck_inv hd lo hi) (lm : Int64) (pt : Int32)  : Met l yX1_mean wsX1_mean { frames := 3, cells := 0, slots := 0, locals := 66 } (va_Pc [.ref h, .long lm, .int pt] (ck_B D (mW h a0 a1 a2 c0 c1 c2 lo hi hd ow off go) (mT c0 c1 c2))) (ck_R (.long (ck_mn hd lo hi lm pt))) 0 0 (fun _ => False) := by
  refine Met.ofW (cc := cX1_mean) (maxL := 11) (ret := (some .long)) (by decide) rfl ?_
  intro p e s m args below meth c s₁ B hml hv
  obtain ⟨rfl, hP, hK⟩ := hv
  have hx := B.exec
  have hb := B.bytes
  have hr := B.returns
  have hts := atoms_spec (ws := wsX1_mean) B.pre
  have hown : s.vm.findClass RX1 = some m.cls := findClass_of_methodNamed B.named
  have hlocks := B.notSynchronized
  have hin : ∀ w ∈ wsX10, w ∈ wsX1_mean := fun _ h => List.mem_cons_of_mem _ (List.mem_append_right _ h)
  have hl := lv_entry ([.ref h, .long lm, .int pt]) (n := 11) (Nat.le_of_ble_eq_true rfl)
  rw [lg_entry_eq]
  generalize (lg_sl ([.ref h, .long lm, .int pt]) ++ List.replicate (11 - (lg_sl ([.ref h, .long lm, .int pt])).length) Slot.unset).toArray = ls at hl ⊢
  have hl : lv_has ls 11 [(0, .ref h), (1, .long lm), (3, .int pt)] := hl
  refine lv_aload_n hx hb dX1_mean_0 rfl (lv_at hl 0 rfl) ?_
  refine ck_cV (As := []) (rest := []) ⟨hx, hb, hml, hown, hts⟩ (c_X1_sources l D h a0 a1 a2 c0 c1 c2 lo hi hd ow off go inv ) (cwV 0 hts gX1_mean_X1_sources rfl rfl rfl (by decide +kernel) ⟨Nat.le_of_ble_eq_true rfl, Nat.le_of_ble_eq_true rfl⟩) hP hK (va_recv hK hP (ci := 1) (q0 := 0) rfl rfl) rfl hl.1 rfl (Nat.le_of_ble_eq_true rfl) dX1_mean_1 ⟨Nat.le_of_ble_eq_true rfl, Nat.le_of_ble_eq_true rfl⟩ ?_
  refine lv_if_eq (tgt := 22) hx hb dX1_mean_4 (by decide) (fun c_1 => ?_) (fun c_1 => ?_)
  · refine lv_ldc2 (v := ck_NO) hx hb hown (hts (.constantLong RX1 30 ck_NO) (by decide +kernel)) dX1_mean_22 ?_
    have hres : ck_NO = (ck_mn hd lo hi lm pt) := by simp [ck_mn, ck_ns0.mp c_1]
    exact W.lret (v := ck_NO) hx hb hr (fun t ht _ => ⟨congrArg (fun z => Outcome.returned (some (Value.long z))) hres, ht⟩) (fun _ h => nomatch h) dX1_mean_25
  · refine lv_lload_n hx hb dX1_mean_7 rfl (lv_at hl 1 rfl) ?_
    refine lv_lconst (v := 0) hx hb dX1_mean_8 (by decide) ?_
    refine W.lcmp hx hb dX1_mean_9 ?_
    refine lv_if_lt (tgt := 22) hx hb dX1_mean_10 (by decide) (fun c_2 => ?_) (fun c_2 => ?_)
    · rw [lg_cmp_lt] at c_2
      refine lv_ldc2 (v := ck_NO) hx hb hown (hts (.constantLong RX1 30 ck_NO) (by decide +kernel)) dX1_mean_22 ?_
      have hres : ck_NO = (ck_mn hd lo hi lm pt) := by have hne : ¬ hd = 0 := fun q => c_1 (ck_ns0.mpr q); simp [ck_mn, hne, c_1, c_2]
      exact W.lret (v := ck_NO) hx hb hr (fun t ht _ => ⟨congrArg (fun z => Outcome.returned (some (Value.long z))) hres, ht⟩) (fun _ h => nomatch h) dX1_mean_25
    · rw [lg_cmp_lt] at c_2
      refine lv_iload_n hx hb dX1_mean_13 rfl (lv_at hl 2 rfl) ?_
      refine lv_if_lt (tgt := 22) hx hb dX1_mean_14 (by decide) (fun c_3 => ?_) (fun c_3 => ?_)
      · refine lv_ldc2 (v := ck_NO) hx hb hown (hts (.constantLong RX1 30 ck_NO) (by decide +kernel)) dX1_mean_22 ?_
        have hres : ck_NO = (ck_mn hd lo hi lm pt) := by have hne : ¬ hd = 0 := fun q => c_1 (ck_ns0.mpr q); simp [ck_mn, hne, ck_zoN c_3, c_1, c_2, c_3]
        exact W.lret (v := ck_NO) hx hb hr (fun t ht _ => ⟨congrArg (fun z => Outcome.returned (some (Value.long z))) hres, ht⟩) (fun _ h => nomatch h) dX1_mean_25
      · refine lv_iload_n hx hb dX1_mean_17 rfl (lv_at hl 2 rfl) ?_
        refine lv_iconst (v := 1) hx hb dX1_mean_18 (by decide) ?_
        refine lv_icmp_le (tgt := 26) hx hb dX1_mean_19 (by decide) (fun c_4 => ?_) (fun c_4 => ?_)
        · refine lv_aload_n hx hb dX1_mean_26 rfl (lv_at hl 0 rfl) ?_
          refine ck_cV (As := []) (rest := []) ⟨hx, hb, hml, hown, hts⟩ (c_X1_median l D h a0 a1 a2 c0 c1 c2 lo hi hd ow off go inv ) (cwV 0 hts gX1_mean_X1_median rfl rfl rfl (by decide +kernel) ⟨Nat.le_of_ble_eq_true rfl, Nat.le_of_ble_eq_true rfl⟩) hP hK (va_recv hK hP (ci := 1) (q0 := 0) rfl rfl) rfl hl.1 rfl (Nat.le_of_ble_eq_true rfl) dX1_mean_27 ⟨Nat.le_of_ble_eq_true rfl, Nat.le_of_ble_eq_true rfl⟩ ?_
          refine lv_lstore (lv' := [(4, .long (ck_md hd lo hi)), (0, .ref h), (1, .long lm), (3, .int pt)]) hx hb dX1_mean_30 hl (by decide) rfl (fun ls hl => ?_)
          refine lv_lconst (v := 0) hx hb dX1_mean_32 (by decide) ?_
          refine lv_lstore (lv' := [(6, .long 0), (4, .long (ck_md hd lo hi)), (0, .ref h), (1, .long lm), (3, .int pt)]) hx hb dX1_mean_33 hl (by decide) rfl (fun ls hl => ?_)
          refine lv_lconst (v := 0) hx hb dX1_mean_35 (by decide) ?_
          refine lv_lstore (lv' := [(8, .long 0), (6, .long 0), (4, .long (ck_md hd lo hi)), (0, .ref h), (1, .long lm), (3, .int pt)]) hx hb dX1_mean_36 hl (by decide) rfl (fun ls hl => ?_)
          refine lv_iconst (v := 0) hx hb dX1_mean_38 (by decide) ?_
          refine lv_istore (lv' := [(10, .int 0), (8, .long 0), (6, .long 0), (4, .long (ck_md hd lo hi)), (0, .ref h), (1, .long lm), (3, .int pt)]) hx hb dX1_mean_39 hl (by decide) rfl (fun ls hl => ?_)
          refine ck_loop (G := fun ls => W p l e _ s m _ below meth c _ _ _ _ _ (F0 m 41 ls [])) (nL := 11) (24) (fun i => True) (fun i => [(0, .ref h), (1, .long lm), (3, .int pt), (4, .long (ck_md hd lo hi)), (6, .long (ck_sm (ck_nP hd lo hi (ck_md hd lo hi) lm) lo hi i)), (8, .long (ck_cL (ck_nP hd lo hi (ck_md hd lo hi) lm) i)), (10, .int (nI i))]) (fun i hle_i hj_i ih_i ls hl => ?_) ls (trivial) ?_
          rotate_left
          · have hq : lv_has ls 11 [(0, .ref h), (1, .long lm), (3, .int pt), (4, .long (ck_md hd lo hi)), (6, .long 0), (8, .long 0), (10, .int 0)] := lv_sub hl [4, 5, 6, 3, 2, 1, 0] rfl
            exact hq
          have hl : lv_has ls 11 [(0, .ref h), (1, .long lm), (3, .int pt), (4, .long (ck_md hd lo hi)), (6, .long (ck_sm (ck_nP hd lo hi (ck_md hd lo hi) lm) lo hi i)), (8, .long (ck_cL (ck_nP hd lo hi (ck_md hd lo hi) lm) i)), (10, .int (nI i))] := hl
          refine lv_iload hx hb dX1_mean_41 (lv_at hl 6 rfl) ?_
          refine lv_bipush (v := 24) hx hb dX1_mean_43 (by decide) ?_
          refine lv_icmp_ge (tgt := 98) hx hb dX1_mean_45 (by decide) (fun c_5 => ?_) (fun c_5 => ?_)
          · have heq_i : i = 24 := ck_eqN hle_i c_5
            subst heq_i
            have hl : lv_has ls 11 [(0, .ref h), (1, .long lm), (3, .int pt), (4, .long (ck_md hd lo hi)), (6, .long (ck_sm (ck_nP hd lo hi (ck_md hd lo hi) lm) lo hi 24)), (8, .long (ck_cL (ck_nP hd lo hi (ck_md hd lo hi) lm) 24)), (10, .int (nI 24))] := hl
            refine lv_iload_n hx hb dX1_mean_98 rfl (lv_at hl 2 rfl) ?_
            refine lv_if_ne (tgt := 112) hx hb dX1_mean_99 (by decide) (fun c_6 => ?_) (fun c_6 => ?_)
            · refine lv_lload hx hb dX1_mean_112 (lv_at hl 5 rfl) ?_
              have hres : (ck_cL (ck_nP hd lo hi (ck_md hd lo hi) lm) 24) = (ck_mn hd lo hi lm pt) := by have hne : ¬ hd = 0 := fun q => c_1 (ck_ns0.mpr q); rw [ck_mean1 inv]; rw [ck_mn, if_neg hne, if_neg c_2, ck_zoI c_3 c_4, if_pos rfl, if_neg c_6]
              exact W.lret (v := (ck_cL (ck_nP hd lo hi (ck_md hd lo hi) lm) 24)) hx hb hr (fun t ht _ => ⟨congrArg (fun z => Outcome.returned (some (Value.long z))) hres, ht⟩) (fun _ h => nomatch h) dX1_mean_114
            · refine lv_lload hx hb dX1_mean_102 (lv_at hl 4 rfl) ?_
              refine lv_lload hx hb dX1_mean_104 (lv_at hl 5 rfl) ?_
              refine ck_cS (As := [.long (ck_sm (ck_nP hd lo hi (ck_md hd lo hi) lm) lo hi 24), .long (ck_cL (ck_nP hd lo hi (ck_md hd lo hi) lm) 24)]) (rest := []) ⟨hx, hb, hml, hown, hts⟩ (c_X1_over l (ck_sm (ck_nP hd lo hi (ck_md hd lo hi) lm) lo hi 24) (ck_cL (ck_nP hd lo hi (ck_md hd lo hi) lm) 24) (ck_meanp inv (fun q => c_1 (ck_ns0.mpr q)) c_2)) (va_cwS 2 hts gX1_mean_X1_over rfl rfl rfl (by decide +kernel) ⟨Nat.le_of_ble_eq_true rfl, Nat.le_of_ble_eq_true rfl⟩) rfl hl.1 rfl (Nat.le_of_ble_eq_true rfl) dX1_mean_106 ⟨Nat.le_of_ble_eq_true rfl, Nat.le_of_ble_eq_true rfl⟩ ?_
              refine lv_goto (tgt := 114) hx hb dX1_mean_109 (by decide) ?_
              have hres : (ck_fd (ck_sm (ck_nP hd lo hi (ck_md hd lo hi) lm) lo hi 24) (ck_cL (ck_nP hd lo hi (ck_md hd lo hi) lm) 24)) = (ck_mn hd lo hi lm pt) := by have hne : ¬ hd = 0 := fun q => c_1 (ck_ns0.mpr q); rw [ck_mean0 inv hne c_2]; rw [ck_mn, if_neg hne, if_neg c_2, ck_zoI c_3 c_4, if_pos rfl, if_pos c_6]
              exact W.lret (v := (ck_fd (ck_sm (ck_nP hd lo hi (ck_md hd lo hi) lm) lo hi 24) (ck_cL (ck_nP hd lo hi (ck_md hd lo hi) lm) 24))) hx hb hr (fun t ht _ => ⟨congrArg (fun z => Outcome.returned (some (Value.long z))) hres, ht⟩) (fun _ h => nomatch h) dX1_mean_114
          · have hlt_i : i < 24 := ck_ltN hle_i c_5
            refine lv_aload_n hx hb dX1_mean_48 rfl (lv_at hl 0 rfl) ?_
            refine va_get (D := D) (ci := 1) (v := .ref a0) (C := RX1) (T := TX1) (N := 6) hx hb hts hin hown hK hP 0 rfl rfl 0 (by decide) (hts (.fieldLink RX1 7 "ClockDeskModel" "is" "[Z") (by decide +kernel)) (fun _ h9 => h9) rfl dX1_mean_49 ?_
            refine lv_iload hx hb dX1_mean_52 (lv_at hl 6 rfl) ?_
            refine ck_zald hx hb hK hP 1 0 rfl rfl (i := i) hlt_i dX1_mean_54 ?_
            refine lv_if_eq (tgt := 92) hx hb dX1_mean_55 (by decide) (fun c_7 => ?_) (fun c_7 => ?_)
            · have c_7 := ck_bf c_7
              refine lv_iinc (v := (nI (i + 1))) (lv' := [(10, .int (nI (i + 1))), (0, .ref h), (1, .long lm), (3, .int pt), (4, .long (ck_md hd lo hi)), (6, .long (ck_sm (ck_nP hd lo hi (ck_md hd lo hi) lm) lo hi i)), (8, .long (ck_cL (ck_nP hd lo hi (ck_md hd lo hi) lm) i))]) hx hb dX1_mean_92 hl (k := 6) rfl (nI_1 i) (by decide) rfl (fun ls hl => ?_)
              refine lv_goto (tgt := 41) hx hb dX1_mean_95 (by decide) ?_
              refine ih_i ls hlt_i (trivial) ?_
              have hq : lv_has ls 11 [(0, .ref h), (1, .long lm), (3, .int pt), (4, .long (ck_md hd lo hi)), (6, .long (ck_sm (ck_nP hd lo hi (ck_md hd lo hi) lm) lo hi i)), (8, .long (ck_cL (ck_nP hd lo hi (ck_md hd lo hi) lm) i)), (10, .int (nI (i + 1)))] := lv_sub hl [1, 2, 3, 4, 5, 6, 0] rfl
              have eq0 : (ck_sm (ck_nP hd lo hi (ck_md hd lo hi) lm) lo hi i) = (ck_sm (ck_nP hd lo hi (ck_md hd lo hi) lm) lo hi (i + 1)) := by simp [ck_sm, ck_cL, ck_nP, c_7]
              have eq1 : (ck_cL (ck_nP hd lo hi (ck_md hd lo hi) lm) i) = (ck_cL (ck_nP hd lo hi (ck_md hd lo hi) lm) (i + 1)) := by simp [ck_sm, ck_cL, ck_nP, c_7]
              exact lv_eqq hq (by rw [← eq1, ← eq0])
            · have c_7 := ck_bt c_7
              refine lv_aload_n hx hb dX1_mean_58 rfl (lv_at hl 0 rfl) ?_
              refine lv_iload hx hb dX1_mean_59 (lv_at hl 6 rfl) ?_
              refine ck_cV (As := [.int (nI i)]) (rest := []) ⟨hx, hb, hml, hown, hts⟩ (c_X1_middle l D h a0 a1 a2 c0 c1 c2 lo hi hd ow off go inv i hlt_i) (cwV 1 hts gX1_mean_X1_middle rfl rfl rfl (by decide +kernel) ⟨Nat.le_of_ble_eq_true rfl, Nat.le_of_ble_eq_true rfl⟩) hP hK (va_recv hK hP (ci := 1) (q0 := 0) rfl rfl) rfl hl.1 rfl (Nat.le_of_ble_eq_true rfl) dX1_mean_61 ⟨Nat.le_of_ble_eq_true rfl, Nat.le_of_ble_eq_true rfl⟩ ?_
              refine lv_lload hx hb dX1_mean_64 (lv_at hl 3 rfl) ?_
              refine lv_lsub hx hb dX1_mean_66 ?_
              refine ck_cS (As := [.long ((ck_mid lo hi i) - (ck_md hd lo hi))]) (rest := []) ⟨hx, hb, hml, hown, hts⟩ (c_X1_size l ((ck_mid lo hi i) - (ck_md hd lo hi))) (va_cwS 1 hts gX1_mean_X1_size rfl rfl rfl (by decide +kernel) ⟨Nat.le_of_ble_eq_true rfl, Nat.le_of_ble_eq_true rfl⟩) rfl hl.1 rfl (Nat.le_of_ble_eq_true rfl) dX1_mean_67 ⟨Nat.le_of_ble_eq_true rfl, Nat.le_of_ble_eq_true rfl⟩ ?_
              refine lv_lload_n hx hb dX1_mean_70 rfl (lv_at hl 1 rfl) ?_
              refine W.lcmp hx hb dX1_mean_71 ?_
              refine lv_if_gt (tgt := 92) hx hb dX1_mean_72 (by decide) (fun c_8 => ?_) (fun c_8 => ?_)
              · rw [lg_cmp_gt] at c_8
                refine lv_iinc (v := (nI (i + 1))) (lv' := [(10, .int (nI (i + 1))), (0, .ref h), (1, .long lm), (3, .int pt), (4, .long (ck_md hd lo hi)), (6, .long (ck_sm (ck_nP hd lo hi (ck_md hd lo hi) lm) lo hi i)), (8, .long (ck_cL (ck_nP hd lo hi (ck_md hd lo hi) lm) i))]) hx hb dX1_mean_92 hl (k := 6) rfl (nI_1 i) (by decide) rfl (fun ls hl => ?_)
                refine lv_goto (tgt := 41) hx hb dX1_mean_95 (by decide) ?_
                refine ih_i ls hlt_i (trivial) ?_
                have hq : lv_has ls 11 [(0, .ref h), (1, .long lm), (3, .int pt), (4, .long (ck_md hd lo hi)), (6, .long (ck_sm (ck_nP hd lo hi (ck_md hd lo hi) lm) lo hi i)), (8, .long (ck_cL (ck_nP hd lo hi (ck_md hd lo hi) lm) i)), (10, .int (nI (i + 1)))] := lv_sub hl [1, 2, 3, 4, 5, 6, 0] rfl
                have eq0 : (ck_sm (ck_nP hd lo hi (ck_md hd lo hi) lm) lo hi i) = (ck_sm (ck_nP hd lo hi (ck_md hd lo hi) lm) lo hi (i + 1)) := by simp [ck_sm, ck_cL, ck_nP, c_7, c_8]
                have eq1 : (ck_cL (ck_nP hd lo hi (ck_md hd lo hi) lm) i) = (ck_cL (ck_nP hd lo hi (ck_md hd lo hi) lm) (i + 1)) := by simp [ck_sm, ck_cL, ck_nP, c_7, c_8]
                exact lv_eqq hq (by rw [← eq1, ← eq0])
              · rw [lg_cmp_gt] at c_8
                refine lv_lload hx hb dX1_mean_75 (lv_at hl 4 rfl) ?_
                refine lv_aload_n hx hb dX1_mean_77 rfl (lv_at hl 0 rfl) ?_
                refine lv_iload hx hb dX1_mean_78 (lv_at hl 6 rfl) ?_
                refine ck_cV (As := [.int (nI i)]) (rest := [.long (ck_sm (ck_nP hd lo hi (ck_md hd lo hi) lm) lo hi i)]) ⟨hx, hb, hml, hown, hts⟩ (c_X1_middle l D h a0 a1 a2 c0 c1 c2 lo hi hd ow off go inv i hlt_i) (cwV 1 hts gX1_mean_X1_middle rfl rfl rfl (by decide +kernel) ⟨Nat.le_of_ble_eq_true rfl, Nat.le_of_ble_eq_true rfl⟩) hP hK (va_recv hK hP (ci := 1) (q0 := 0) rfl rfl) rfl hl.1 rfl (Nat.le_of_ble_eq_true rfl) dX1_mean_80 ⟨Nat.le_of_ble_eq_true rfl, Nat.le_of_ble_eq_true rfl⟩ ?_
                refine lv_ladd hx hb dX1_mean_83 ?_
                refine lv_lstore (lv' := [(6, .long ((ck_sm (ck_nP hd lo hi (ck_md hd lo hi) lm) lo hi i) + (ck_mid lo hi i))), (0, .ref h), (1, .long lm), (3, .int pt), (4, .long (ck_md hd lo hi)), (8, .long (ck_cL (ck_nP hd lo hi (ck_md hd lo hi) lm) i)), (10, .int (nI i))]) hx hb dX1_mean_84 hl (by decide) rfl (fun ls hl => ?_)
                refine lv_lload hx hb dX1_mean_86 (lv_at hl 5 rfl) ?_
                refine lv_lconst (v := 1) hx hb dX1_mean_88 (by decide) ?_
                refine lv_ladd hx hb dX1_mean_89 ?_
                refine lv_lstore (lv' := [(8, .long ((ck_cL (ck_nP hd lo hi (ck_md hd lo hi) lm) i) + 1)), (6, .long ((ck_sm (ck_nP hd lo hi (ck_md hd lo hi) lm) lo hi i) + (ck_mid lo hi i))), (0, .ref h), (1, .long lm), (3, .int pt), (4, .long (ck_md hd lo hi)), (10, .int (nI i))]) hx hb dX1_mean_90 hl (by decide) rfl (fun ls hl => ?_)
                refine lv_iinc (v := (nI (i + 1))) (lv' := [(10, .int (nI (i + 1))), (8, .long ((ck_cL (ck_nP hd lo hi (ck_md hd lo hi) lm) i) + 1)), (6, .long ((ck_sm (ck_nP hd lo hi (ck_md hd lo hi) lm) lo hi i) + (ck_mid lo hi i))), (0, .ref h), (1, .long lm), (3, .int pt), (4, .long (ck_md hd lo hi))]) hx hb dX1_mean_92 hl (k := 6) rfl (nI_1 i) (by decide) rfl (fun ls hl => ?_)
                refine lv_goto (tgt := 41) hx hb dX1_mean_95 (by decide) ?_
                refine ih_i ls hlt_i (trivial) ?_
                have hq : lv_has ls 11 [(0, .ref h), (1, .long lm), (3, .int pt), (4, .long (ck_md hd lo hi)), (6, .long ((ck_sm (ck_nP hd lo hi (ck_md hd lo hi) lm) lo hi i) + (ck_mid lo hi i))), (8, .long ((ck_cL (ck_nP hd lo hi (ck_md hd lo hi) lm) i) + 1)), (10, .int (nI (i + 1)))] := lv_sub hl [3, 4, 5, 6, 2, 1, 0] rfl
                have eq0 : ((ck_sm (ck_nP hd lo hi (ck_md hd lo hi) lm) lo hi i) + (ck_mid lo hi i)) = (ck_sm (ck_nP hd lo hi (ck_md hd lo hi) lm) lo hi (i + 1)) := by simp [ck_sm, ck_cL, ck_nP, c_7, c_8]
                have eq1 : ((ck_cL (ck_nP hd lo hi (ck_md hd lo hi) lm) i) + 1) = (ck_cL (ck_nP hd lo hi (ck_md hd lo hi) lm) (i + 1)) := by simp [ck_sm, ck_cL, ck_nP, c_7, c_8]
                exact lv_eqq hq (by rw [← eq1, ← eq0])
        · refine lv_ldc2 (v := ck_NO) hx hb hown (hts (.constantLong RX1 30 ck_NO) (by decide +kernel)) dX1_mean_22 ?_
          have hres : ck_NO = (ck_mn hd lo hi lm pt) := by have hne : ¬ hd = 0 := fun q => c_1 (ck_ns0.mpr q); simp [ck_mn, hne, ck_zoB c_4, c_1, c_2, c_3, c_4]
          exact W.lret (v := ck_NO) hx hb hr (fun t ht _ => ⟨congrArg (fun z => Outcome.returned (some (Value.long z))) hres, ht⟩) (fun _ h => nomatch h) dX1_mean_25

set_option maxHeartbeats 4000000 in
set_option maxRecDepth 100000 in
theorem c_X1_survivors (l : Launch) (D : va_G) (h a0 a1 a2 : Nat) (c0 c1 c2 : ClassId) (lo hi : Nat → Int64) (hd : Int32) (ow off go : Int64) (inv : ck_inv hd lo hi) (k : Int32)  : Met l yX1_survivors wsX1_survivors { frames := 2, cells := 0, slots := 0, locals := 42 } (va_Pc [.ref h, .int k] (ck_B D (mW h a0 a1 a2 c0 c1 c2 lo hi hd ow off go) (mT c0 c1 c2))) (ck_R (.int (ck_sv hd lo hi k))) 0 0 (fun _ => False) := by
  refine Met.ofW (cc := cX1_survivors) (maxL := 10) (ret := (some .int)) (by decide) rfl ?_
  intro p e s m args below meth c s₁ B hml hv
  obtain ⟨rfl, hP, hK⟩ := hv
  have hx := B.exec
  have hb := B.bytes
  have hr := B.returns
  have hts := atoms_spec (ws := wsX1_survivors) B.pre
  have hown : s.vm.findClass RX1 = some m.cls := findClass_of_methodNamed B.named
  have hlocks := B.notSynchronized
  have hin : ∀ w ∈ wsX10, w ∈ wsX1_survivors := fun _ h => List.mem_cons_of_mem _ (List.mem_append_right _ h)
  have hl := lv_entry ([.ref h, .int k]) (n := 10) (Nat.le_of_ble_eq_true rfl)
  rw [lg_entry_eq]
  generalize (lg_sl ([.ref h, .int k]) ++ List.replicate (10 - (lg_sl ([.ref h, .int k])).length) Slot.unset).toArray = ls at hl ⊢
  have hl : lv_has ls 10 [(0, .ref h), (1, .int k)] := hl
  refine lv_iload_n hx hb dX1_survivors_0 rfl (lv_at hl 1 rfl) ?_
  refine lv_iconst (v := 1) hx hb dX1_survivors_1 (by decide) ?_
  refine lv_icmp_lt (tgt := 11) hx hb dX1_survivors_2 (by decide) (fun c_1 => ?_) (fun c_1 => ?_)
  · refine lv_iconst (v := (-1)) hx hb dX1_survivors_11 (by decide) ?_
    have hres : (-1) = (ck_sv hd lo hi k) := by first | (simp [ck_sv, ck_ctN c_1]; done) | (simp [ck_sv, ck_ctB c_2]; done)
    exact W.iret (v := (-1)) hx hb hr (fun t ht _ => ⟨congrArg (fun z => Outcome.returned (some (Value.int z))) hres, ht⟩) (fun _ h => nomatch h) dX1_survivors_12
  · refine lv_iload_n hx hb dX1_survivors_5 rfl (lv_at hl 1 rfl) ?_
    refine lv_bipush (v := 24) hx hb dX1_survivors_6 (by decide) ?_
    refine lv_icmp_le (tgt := 13) hx hb dX1_survivors_8 (by decide) (fun c_2 => ?_) (fun c_2 => ?_)
    · refine lv_iconst (v := 0) hx hb dX1_survivors_13 (by decide) ?_
      refine lv_istore_n (lv' := [(2, .int 0), (0, .ref h), (1, .int k)]) hx hb dX1_survivors_14 rfl hl (by decide) rfl (fun ls hl => ?_)
      refine lv_iconst (v := 0) hx hb dX1_survivors_15 (by decide) ?_
      refine lv_istore_n (lv' := [(3, .int 0), (2, .int 0), (0, .ref h), (1, .int k)]) hx hb dX1_survivors_16 rfl hl (by decide) rfl (fun ls hl => ?_)
      refine lv_iconst (v := 0) hx hb dX1_survivors_17 (by decide) ?_
      refine lv_istore (lv' := [(4, .int 0), (3, .int 0), (2, .int 0), (0, .ref h), (1, .int k)]) hx hb dX1_survivors_18 hl (by decide) rfl (fun ls hl => ?_)
      refine ck_loop (G := fun ls => W p l e _ s m _ below meth c _ _ _ _ _ (F0 m 20 ls [])) (nL := 10) (24) (fun i => True) (fun i => [(0, .ref h), (1, .int k), (2, .int (ck_mk (bt hd) i)), (3, .int (ck_cn (bt hd) i)), (4, .int (nI i))]) (fun i hle_i hj_i ih_i ls hl => ?_) ls (trivial) ?_
      rotate_left
      · have hq : lv_has ls 10 [(0, .ref h), (1, .int k), (2, .int 0), (3, .int 0), (4, .int 0)] := lv_sub hl [3, 4, 2, 1, 0] rfl
        exact hq
      have hl : lv_has ls 10 [(0, .ref h), (1, .int k), (2, .int (ck_mk (bt hd) i)), (3, .int (ck_cn (bt hd) i)), (4, .int (nI i))] := hl
      refine lv_iload hx hb dX1_survivors_20 (lv_at hl 4 rfl) ?_
      refine lv_bipush (v := 24) hx hb dX1_survivors_22 (by decide) ?_
      refine lv_icmp_ge (tgt := 72) hx hb dX1_survivors_24 (by decide) (fun c_3 => ?_) (fun c_3 => ?_)
      · have heq_i : i = 24 := ck_eqN hle_i c_3
        subst heq_i
        have hl : lv_has ls 10 [(0, .ref h), (1, .int k), (2, .int (ck_mk (bt hd) 24)), (3, .int (ck_cn (bt hd) 24)), (4, .int (nI 24))] := hl
        refine ck_loop (G := fun ls => W p l e _ s m _ below meth c _ _ _ _ _ (F0 m 72 ls [])) (nL := 10) (24) (fun r => ck_sj hd lo hi k r) (fun r => [(0, .ref h), (1, .int k), (2, .int (ck_lf hd lo hi k r)), (3, .int (ck_ns (ck_lf hd lo hi k r)))]) (fun r hle_r hj_r ih_r ls hl => ?_) ls (ck_sj0 inv k) ?_
        rotate_left
        · have hq : lv_has ls 10 [(0, .ref h), (1, .int k), (2, .int (ck_mk (bt hd) 24)), (3, .int (ck_cn (bt hd) 24))] := lv_sub hl [0, 1, 2, 3] rfl
          exact lv_eqq hq (by rw [ck_mkE inv.1, ck_ns24 inv.1]; rfl)
        have hl : lv_has ls 10 [(0, .ref h), (1, .int k), (2, .int (ck_lf hd lo hi k r)), (3, .int (ck_ns (ck_lf hd lo hi k r)))] := hl
        refine lv_iload_n hx hb dX1_survivors_72 rfl (lv_at hl 3 rfl) ?_
        refine lv_iload_n hx hb dX1_survivors_73 rfl (lv_at hl 1 rfl) ?_
        refine lv_icmp_le (tgt := 217) hx hb dX1_survivors_74 (by decide) (fun c_4 => ?_) (fun c_4 => ?_)
        · refine lv_iload_n hx hb dX1_survivors_217 rfl (lv_at hl 2 rfl) ?_
          have hres : (ck_lf hd lo hi k r) = (ck_sv hd lo hi k) := by rw [ck_lf_stop c_4 hle_r, ck_sv, ck_ctI c_1 c_2, if_pos rfl]
          exact W.iret (v := (ck_lf hd lo hi k r)) hx hb hr (fun t ht _ => ⟨congrArg (fun z => Outcome.returned (some (Value.int z))) hres, ht⟩) (fun _ h => nomatch h) dX1_survivors_218
        · refine lv_lconst (v := 0) hx hb dX1_survivors_77 (by decide) ?_
          refine lv_lstore (lv' := [(4, .long 0), (0, .ref h), (1, .int k), (2, .int (ck_lf hd lo hi k r)), (3, .int (ck_ns (ck_lf hd lo hi k r)))]) hx hb dX1_survivors_78 hl (by decide) rfl (fun ls hl => ?_)
          refine lv_iconst (v := 0) hx hb dX1_survivors_80 (by decide) ?_
          refine lv_istore (lv' := [(6, .int 0), (4, .long 0), (0, .ref h), (1, .int k), (2, .int (ck_lf hd lo hi k r)), (3, .int (ck_ns (ck_lf hd lo hi k r)))]) hx hb dX1_survivors_81 hl (by decide) rfl (fun ls hl => ?_)
          refine ck_loop (G := fun ls => W p l e _ s m _ below meth c _ _ _ _ _ (F0 m 83 ls [])) (nL := 10) (24) (fun o => True) (fun o => [(0, .ref h), (1, .int k), (2, .int (ck_lf hd lo hi k r)), (3, .int (ck_ns (ck_lf hd lo hi k r))), (4, .long (ck_sm (bt (ck_lf hd lo hi k r)) lo hi o)), (6, .int (nI o))]) (fun o hle_o hj_o ih_o ls hl => ?_) ls (trivial) ?_
          rotate_left
          · have hq : lv_has ls 10 [(0, .ref h), (1, .int k), (2, .int (ck_lf hd lo hi k r)), (3, .int (ck_ns (ck_lf hd lo hi k r))), (4, .long 0), (6, .int 0)] := lv_sub hl [2, 3, 4, 5, 1, 0] rfl
            exact hq
          have hl : lv_has ls 10 [(0, .ref h), (1, .int k), (2, .int (ck_lf hd lo hi k r)), (3, .int (ck_ns (ck_lf hd lo hi k r))), (4, .long (ck_sm (bt (ck_lf hd lo hi k r)) lo hi o)), (6, .int (nI o))] := hl
          refine lv_iload hx hb dX1_survivors_83 (lv_at hl 5 rfl) ?_
          refine lv_bipush (v := 24) hx hb dX1_survivors_85 (by decide) ?_
          refine lv_icmp_ge (tgt := 121) hx hb dX1_survivors_87 (by decide) (fun c_5 => ?_) (fun c_5 => ?_)
          · have heq_o : o = 24 := ck_eqN hle_o c_5
            subst heq_o
            have hl : lv_has ls 10 [(0, .ref h), (1, .int k), (2, .int (ck_lf hd lo hi k r)), (3, .int (ck_ns (ck_lf hd lo hi k r))), (4, .long (ck_sm (bt (ck_lf hd lo hi k r)) lo hi 24)), (6, .int (nI 24))] := hl
            refine lv_lload hx hb dX1_survivors_121 (lv_at hl 4 rfl) ?_
            refine lv_iload_n hx hb dX1_survivors_123 rfl (lv_at hl 3 rfl) ?_
            refine lv_i2l (v := (Int32.toInt64 (ck_ns (ck_lf hd lo hi k r)))) hx hb dX1_survivors_124 rfl ?_
            refine ck_cS (As := [.long (ck_sm (bt (ck_lf hd lo hi k r)) lo hi 24), .long (Int32.toInt64 (ck_ns (ck_lf hd lo hi k r)))]) (rest := []) ⟨hx, hb, hml, hown, hts⟩ (c_X1_over l (ck_sm (bt (ck_lf hd lo hi k r)) lo hi 24) (Int32.toInt64 (ck_ns (ck_lf hd lo hi k r))) (ck_posn c_1 c_4)) (va_cwS 2 hts gX1_survivors_X1_over rfl rfl rfl (by decide +kernel) ⟨Nat.le_of_ble_eq_true rfl, Nat.le_of_ble_eq_true rfl⟩) rfl hl.1 rfl (Nat.le_of_ble_eq_true rfl) dX1_survivors_125 ⟨Nat.le_of_ble_eq_true rfl, Nat.le_of_ble_eq_true rfl⟩ ?_
            refine lv_lstore (lv' := [(6, .long (ck_fd (ck_sm (bt (ck_lf hd lo hi k r)) lo hi 24) (Int32.toInt64 (ck_ns (ck_lf hd lo hi k r))))), (0, .ref h), (1, .int k), (2, .int (ck_lf hd lo hi k r)), (3, .int (ck_ns (ck_lf hd lo hi k r))), (4, .long (ck_sm (bt (ck_lf hd lo hi k r)) lo hi 24))]) hx hb dX1_survivors_128 hl (by decide) rfl (fun ls hl => ?_)
            refine lv_iconst (v := (-1)) hx hb dX1_survivors_130 (by decide) ?_
            refine lv_istore (lv' := [(8, .int (-1)), (6, .long (ck_fd (ck_sm (bt (ck_lf hd lo hi k r)) lo hi 24) (Int32.toInt64 (ck_ns (ck_lf hd lo hi k r))))), (0, .ref h), (1, .int k), (2, .int (ck_lf hd lo hi k r)), (3, .int (ck_ns (ck_lf hd lo hi k r))), (4, .long (ck_sm (bt (ck_lf hd lo hi k r)) lo hi 24))]) hx hb dX1_survivors_131 hl (by decide) rfl (fun ls hl => ?_)
            refine lv_iconst (v := 0) hx hb dX1_survivors_133 (by decide) ?_
            refine lv_istore (lv' := [(9, .int 0), (8, .int (-1)), (6, .long (ck_fd (ck_sm (bt (ck_lf hd lo hi k r)) lo hi 24) (Int32.toInt64 (ck_ns (ck_lf hd lo hi k r))))), (0, .ref h), (1, .int k), (2, .int (ck_lf hd lo hi k r)), (3, .int (ck_ns (ck_lf hd lo hi k r))), (4, .long (ck_sm (bt (ck_lf hd lo hi k r)) lo hi 24))]) hx hb dX1_survivors_134 hl (by decide) rfl (fun ls hl => ?_)
            refine ck_loop (G := fun ls => W p l e _ s m _ below meth c _ _ _ _ _ (F0 m 136 ls [])) (nL := 10) (24) (fun u => True) (fun u => [(0, .ref h), (1, .int k), (2, .int (ck_lf hd lo hi k r)), (3, .int (ck_ns (ck_lf hd lo hi k r))), (6, .long (ck_fd (ck_sm (bt (ck_lf hd lo hi k r)) lo hi 24) (Int32.toInt64 (ck_ns (ck_lf hd lo hi k r))))), (8, .int (ck_wi (ck_lf hd lo hi k r) lo hi (ck_fd (ck_sm (bt (ck_lf hd lo hi k r)) lo hi 24) (Int32.toInt64 (ck_ns (ck_lf hd lo hi k r)))) u)), (9, .int (nI u))]) (fun u hle_u hj_u ih_u ls hl => ?_) ls (trivial) ?_
            rotate_left
            · have hq : lv_has ls 10 [(0, .ref h), (1, .int k), (2, .int (ck_lf hd lo hi k r)), (3, .int (ck_ns (ck_lf hd lo hi k r))), (6, .long (ck_fd (ck_sm (bt (ck_lf hd lo hi k r)) lo hi 24) (Int32.toInt64 (ck_ns (ck_lf hd lo hi k r))))), (8, .int (-1)), (9, .int 0)] := lv_sub hl [3, 4, 5, 6, 2, 1, 0] rfl
              exact hq
            have hl : lv_has ls 10 [(0, .ref h), (1, .int k), (2, .int (ck_lf hd lo hi k r)), (3, .int (ck_ns (ck_lf hd lo hi k r))), (6, .long (ck_fd (ck_sm (bt (ck_lf hd lo hi k r)) lo hi 24) (Int32.toInt64 (ck_ns (ck_lf hd lo hi k r))))), (8, .int (ck_wi (ck_lf hd lo hi k r) lo hi (ck_fd (ck_sm (bt (ck_lf hd lo hi k r)) lo hi 24) (Int32.toInt64 (ck_ns (ck_lf hd lo hi k r)))) u)), (9, .int (nI u))] := hl
            refine lv_iload hx hb dX1_survivors_136 (lv_at hl 6 rfl) ?_
            refine lv_bipush (v := 24) hx hb dX1_survivors_138 (by decide) ?_
            refine lv_icmp_ge (tgt := 202) hx hb dX1_survivors_140 (by decide) (fun c_6 => ?_) (fun c_6 => ?_)
            · have heq_u : u = 24 := ck_eqN hle_u c_6
              subst heq_u
              have hl : lv_has ls 10 [(0, .ref h), (1, .int k), (2, .int (ck_lf hd lo hi k r)), (3, .int (ck_ns (ck_lf hd lo hi k r))), (6, .long (ck_fd (ck_sm (bt (ck_lf hd lo hi k r)) lo hi 24) (Int32.toInt64 (ck_ns (ck_lf hd lo hi k r))))), (8, .int (ck_wi (ck_lf hd lo hi k r) lo hi (ck_fd (ck_sm (bt (ck_lf hd lo hi k r)) lo hi 24) (Int32.toInt64 (ck_ns (ck_lf hd lo hi k r)))) 24)), (9, .int (nI 24))] := hl
              refine lv_iload_n hx hb dX1_survivors_202 rfl (lv_at hl 2 rfl) ?_
              refine lv_iconst (v := 1) hx hb dX1_survivors_203 (by decide) ?_
              refine lv_iload hx hb dX1_survivors_204 (lv_at hl 5 rfl) ?_
              refine lv_ishl hx hb dX1_survivors_206 ?_
              refine lv_iconst (v := (-1)) hx hb dX1_survivors_207 (by decide) ?_
              refine lv_ixor hx hb dX1_survivors_208 ?_
              refine lv_iand hx hb dX1_survivors_209 ?_
              refine lv_istore_n (lv' := [(2, .int ((ck_lf hd lo hi k r) &&& ((1 <<< ((ck_wi (ck_lf hd lo hi k r) lo hi (ck_fd (ck_sm (bt (ck_lf hd lo hi k r)) lo hi 24) (Int32.toInt64 (ck_ns (ck_lf hd lo hi k r)))) 24) &&& 31)) ^^^ (-1)))), (0, .ref h), (1, .int k), (3, .int (ck_ns (ck_lf hd lo hi k r))), (6, .long (ck_fd (ck_sm (bt (ck_lf hd lo hi k r)) lo hi 24) (Int32.toInt64 (ck_ns (ck_lf hd lo hi k r))))), (8, .int (ck_wi (ck_lf hd lo hi k r) lo hi (ck_fd (ck_sm (bt (ck_lf hd lo hi k r)) lo hi 24) (Int32.toInt64 (ck_ns (ck_lf hd lo hi k r)))) 24)), (9, .int (nI 24))]) hx hb dX1_survivors_210 rfl hl (by decide) rfl (fun ls hl => ?_)
              refine lv_iinc (v := ((ck_ns (ck_lf hd lo hi k r)) + -1)) (lv' := [(3, .int ((ck_ns (ck_lf hd lo hi k r)) + -1)), (2, .int ((ck_lf hd lo hi k r) &&& ((1 <<< ((ck_wi (ck_lf hd lo hi k r) lo hi (ck_fd (ck_sm (bt (ck_lf hd lo hi k r)) lo hi 24) (Int32.toInt64 (ck_ns (ck_lf hd lo hi k r)))) 24) &&& 31)) ^^^ (-1)))), (0, .ref h), (1, .int k), (6, .long (ck_fd (ck_sm (bt (ck_lf hd lo hi k r)) lo hi 24) (Int32.toInt64 (ck_ns (ck_lf hd lo hi k r))))), (8, .int (ck_wi (ck_lf hd lo hi k r) lo hi (ck_fd (ck_sm (bt (ck_lf hd lo hi k r)) lo hi 24) (Int32.toInt64 (ck_ns (ck_lf hd lo hi k r)))) 24)), (9, .int (nI 24))]) hx hb dX1_survivors_211 hl (k := 3) rfl rfl (by decide) rfl (fun ls hl => ?_)
              refine lv_goto (tgt := 72) hx hb dX1_survivors_214 (by decide) ?_
              have hlt_r : r < 24 := ck_lf_lt hj_r c_1 c_4
              refine ih_r ls hlt_r (ck_sj_s inv hj_r c_1 c_4) ?_
              have hq : lv_has ls 10 [(0, .ref h), (1, .int k), (2, .int ((ck_lf hd lo hi k r) &&& ((1 <<< ((ck_wi (ck_lf hd lo hi k r) lo hi (ck_fd (ck_sm (bt (ck_lf hd lo hi k r)) lo hi 24) (Int32.toInt64 (ck_ns (ck_lf hd lo hi k r)))) 24) &&& 31)) ^^^ (-1)))), (3, .int ((ck_ns (ck_lf hd lo hi k r)) + -1))] := lv_sub hl [2, 3, 1, 0] rfl
              have eq0 : ((ck_lf hd lo hi k r) &&& ((1 <<< ((ck_wi (ck_lf hd lo hi k r) lo hi (ck_fd (ck_sm (bt (ck_lf hd lo hi k r)) lo hi 24) (Int32.toInt64 (ck_ns (ck_lf hd lo hi k r)))) 24) &&& 31)) ^^^ (-1))) = (ck_lf hd lo hi k (r + 1)) := by exact ck_lf_next inv hj_r c_1 c_4
              have eq1 : ((ck_ns (ck_lf hd lo hi k r)) + -1) = (ck_ns (ck_lf hd lo hi k (r + 1))) := by exact ck_ns_next inv hj_r c_1 c_4
              exact lv_eqq hq (by rw [← eq1, ← eq0])
            · have hlt_u : u < 24 := ck_ltN hle_u c_6
              refine lv_iload_n hx hb dX1_survivors_143 rfl (lv_at hl 2 rfl) ?_
              refine lv_iload hx hb dX1_survivors_144 (lv_at hl 6 rfl) ?_
              refine lv_ishr hx hb dX1_survivors_146 ?_
              refine lv_iconst (v := 1) hx hb dX1_survivors_147 (by decide) ?_
              refine lv_iand hx hb dX1_survivors_148 ?_
              refine lv_iconst (v := 1) hx hb dX1_survivors_149 (by decide) ?_
              refine lv_icmp_ne (tgt := 192) hx hb dX1_survivors_150 (by decide) (fun c_7 => ?_) (fun c_7 => ?_)
              · have c_7 := ck_sh1n hlt_u c_7
                refine lv_iload hx hb dX1_survivors_192 (lv_at hl 5 rfl) ?_
                refine lv_istore (lv' := [(8, .int (ck_wi (ck_lf hd lo hi k r) lo hi (ck_fd (ck_sm (bt (ck_lf hd lo hi k r)) lo hi 24) (Int32.toInt64 (ck_ns (ck_lf hd lo hi k r)))) u)), (0, .ref h), (1, .int k), (2, .int (ck_lf hd lo hi k r)), (3, .int (ck_ns (ck_lf hd lo hi k r))), (6, .long (ck_fd (ck_sm (bt (ck_lf hd lo hi k r)) lo hi 24) (Int32.toInt64 (ck_ns (ck_lf hd lo hi k r))))), (9, .int (nI u))]) hx hb dX1_survivors_194 hl (by decide) rfl (fun ls hl => ?_)
                refine lv_iinc (v := (nI (u + 1))) (lv' := [(9, .int (nI (u + 1))), (8, .int (ck_wi (ck_lf hd lo hi k r) lo hi (ck_fd (ck_sm (bt (ck_lf hd lo hi k r)) lo hi 24) (Int32.toInt64 (ck_ns (ck_lf hd lo hi k r)))) u)), (0, .ref h), (1, .int k), (2, .int (ck_lf hd lo hi k r)), (3, .int (ck_ns (ck_lf hd lo hi k r))), (6, .long (ck_fd (ck_sm (bt (ck_lf hd lo hi k r)) lo hi 24) (Int32.toInt64 (ck_ns (ck_lf hd lo hi k r)))))]) hx hb dX1_survivors_196 hl (k := 6) rfl (nI_1 u) (by decide) rfl (fun ls hl => ?_)
                refine lv_goto (tgt := 136) hx hb dX1_survivors_199 (by decide) ?_
                refine ih_u ls hlt_u (trivial) ?_
                have hq : lv_has ls 10 [(0, .ref h), (1, .int k), (2, .int (ck_lf hd lo hi k r)), (3, .int (ck_ns (ck_lf hd lo hi k r))), (6, .long (ck_fd (ck_sm (bt (ck_lf hd lo hi k r)) lo hi 24) (Int32.toInt64 (ck_ns (ck_lf hd lo hi k r))))), (8, .int (ck_wi (ck_lf hd lo hi k r) lo hi (ck_fd (ck_sm (bt (ck_lf hd lo hi k r)) lo hi 24) (Int32.toInt64 (ck_ns (ck_lf hd lo hi k r)))) u)), (9, .int (nI (u + 1)))] := lv_sub hl [2, 3, 4, 5, 6, 1, 0] rfl
                have eq0 : (ck_wi (ck_lf hd lo hi k r) lo hi (ck_fd (ck_sm (bt (ck_lf hd lo hi k r)) lo hi 24) (Int32.toInt64 (ck_ns (ck_lf hd lo hi k r)))) u) = (ck_wi (ck_lf hd lo hi k r) lo hi (ck_fd (ck_sm (bt (ck_lf hd lo hi k r)) lo hi 24) (Int32.toInt64 (ck_ns (ck_lf hd lo hi k r)))) (u + 1)) := by exact ck_wi_skip c_7
                exact lv_eqq hq (by rw [← eq0])
              · have c_7 := ck_sh1 hlt_u c_7
                refine lv_iload hx hb dX1_survivors_153 (lv_at hl 5 rfl) ?_
                refine lv_iconst (v := (-1)) hx hb dX1_survivors_155 (by decide) ?_
                refine lv_icmp_eq (tgt := 187) hx hb dX1_survivors_156 (by decide) (fun c_8 => ?_) (fun c_8 => ?_)
                · refine lv_iload hx hb dX1_survivors_187 (lv_at hl 6 rfl) ?_
                  refine lv_goto (tgt := 194) hx hb dX1_survivors_189 (by decide) ?_
                  refine lv_istore (lv' := [(8, .int (nI u)), (0, .ref h), (1, .int k), (2, .int (ck_lf hd lo hi k r)), (3, .int (ck_ns (ck_lf hd lo hi k r))), (6, .long (ck_fd (ck_sm (bt (ck_lf hd lo hi k r)) lo hi 24) (Int32.toInt64 (ck_ns (ck_lf hd lo hi k r))))), (9, .int (nI u))]) hx hb dX1_survivors_194 hl (by decide) rfl (fun ls hl => ?_)
                  refine lv_iinc (v := (nI (u + 1))) (lv' := [(9, .int (nI (u + 1))), (8, .int (nI u)), (0, .ref h), (1, .int k), (2, .int (ck_lf hd lo hi k r)), (3, .int (ck_ns (ck_lf hd lo hi k r))), (6, .long (ck_fd (ck_sm (bt (ck_lf hd lo hi k r)) lo hi 24) (Int32.toInt64 (ck_ns (ck_lf hd lo hi k r)))))]) hx hb dX1_survivors_196 hl (k := 6) rfl (nI_1 u) (by decide) rfl (fun ls hl => ?_)
                  refine lv_goto (tgt := 136) hx hb dX1_survivors_199 (by decide) ?_
                  refine ih_u ls hlt_u (trivial) ?_
                  have hq : lv_has ls 10 [(0, .ref h), (1, .int k), (2, .int (ck_lf hd lo hi k r)), (3, .int (ck_ns (ck_lf hd lo hi k r))), (6, .long (ck_fd (ck_sm (bt (ck_lf hd lo hi k r)) lo hi 24) (Int32.toInt64 (ck_ns (ck_lf hd lo hi k r))))), (8, .int (nI u)), (9, .int (nI (u + 1)))] := lv_sub hl [2, 3, 4, 5, 6, 1, 0] rfl
                  have eq0 : (nI u) = (ck_wi (ck_lf hd lo hi k r) lo hi (ck_fd (ck_sm (bt (ck_lf hd lo hi k r)) lo hi 24) (Int32.toInt64 (ck_ns (ck_lf hd lo hi k r)))) (u + 1)) := by exact ck_wi_first (ck_Mnn inv.2 c_1 c_4 _) hle_u c_7 c_8
                  exact lv_eqq hq (by rw [← eq0])
                · obtain ⟨w8, hw8, hwe, hwz, hw2, hwm⟩ := ck_wiE (ck_Mnn inv.2 c_1 c_4 _) hle_u c_8
                  rw [hwe] at hl
                  have hl : lv_has ls 10 [(0, .ref h), (1, .int k), (2, .int (ck_lf hd lo hi k r)), (3, .int (ck_ns (ck_lf hd lo hi k r))), (6, .long (ck_fd (ck_sm (bt (ck_lf hd lo hi k r)) lo hi 24) (Int32.toInt64 (ck_ns (ck_lf hd lo hi k r))))), (8, .int (nI w8)), (9, .int (nI u))] := hl
                  refine lv_aload_n hx hb dX1_survivors_159 rfl (lv_at hl 0 rfl) ?_
                  refine lv_iload hx hb dX1_survivors_160 (lv_at hl 6 rfl) ?_
                  refine ck_cV (As := [.int (nI u)]) (rest := []) ⟨hx, hb, hml, hown, hts⟩ (c_X1_middle l D h a0 a1 a2 c0 c1 c2 lo hi hd ow off go inv u hlt_u) (cwV 1 hts gX1_survivors_X1_middle rfl rfl rfl (by decide +kernel) ⟨Nat.le_of_ble_eq_true rfl, Nat.le_of_ble_eq_true rfl⟩) hP hK (va_recv hK hP (ci := 1) (q0 := 0) rfl rfl) rfl hl.1 rfl (Nat.le_of_ble_eq_true rfl) dX1_survivors_162 ⟨Nat.le_of_ble_eq_true rfl, Nat.le_of_ble_eq_true rfl⟩ ?_
                  refine lv_lload hx hb dX1_survivors_165 (lv_at hl 4 rfl) ?_
                  refine lv_lsub hx hb dX1_survivors_167 ?_
                  refine ck_cS (As := [.long ((ck_mid lo hi u) - (ck_fd (ck_sm (bt (ck_lf hd lo hi k r)) lo hi 24) (Int32.toInt64 (ck_ns (ck_lf hd lo hi k r)))))]) (rest := []) ⟨hx, hb, hml, hown, hts⟩ (c_X1_size l ((ck_mid lo hi u) - (ck_fd (ck_sm (bt (ck_lf hd lo hi k r)) lo hi 24) (Int32.toInt64 (ck_ns (ck_lf hd lo hi k r)))))) (va_cwS 1 hts gX1_survivors_X1_size rfl rfl rfl (by decide +kernel) ⟨Nat.le_of_ble_eq_true rfl, Nat.le_of_ble_eq_true rfl⟩) rfl hl.1 rfl (Nat.le_of_ble_eq_true rfl) dX1_survivors_168 ⟨Nat.le_of_ble_eq_true rfl, Nat.le_of_ble_eq_true rfl⟩ ?_
                  refine lv_aload_n hx hb dX1_survivors_171 rfl (lv_at hl 0 rfl) ?_
                  refine lv_iload hx hb dX1_survivors_172 (lv_at hl 5 rfl) ?_
                  refine ck_cV (As := [.int (nI w8)]) (rest := [.long (ck_abs ((ck_mid lo hi u) - (ck_fd (ck_sm (bt (ck_lf hd lo hi k r)) lo hi 24) (Int32.toInt64 (ck_ns (ck_lf hd lo hi k r))))))]) ⟨hx, hb, hml, hown, hts⟩ (c_X1_middle l D h a0 a1 a2 c0 c1 c2 lo hi hd ow off go inv w8 hw8) (cwV 1 hts gX1_survivors_X1_middle rfl rfl rfl (by decide +kernel) ⟨Nat.le_of_ble_eq_true rfl, Nat.le_of_ble_eq_true rfl⟩) hP hK (va_recv hK hP (ci := 1) (q0 := 0) rfl rfl) rfl hl.1 rfl (Nat.le_of_ble_eq_true rfl) dX1_survivors_174 ⟨Nat.le_of_ble_eq_true rfl, Nat.le_of_ble_eq_true rfl⟩ ?_
                  refine lv_lload hx hb dX1_survivors_177 (lv_at hl 4 rfl) ?_
                  refine lv_lsub hx hb dX1_survivors_179 ?_
                  refine ck_cS (As := [.long ((ck_mid lo hi w8) - (ck_fd (ck_sm (bt (ck_lf hd lo hi k r)) lo hi 24) (Int32.toInt64 (ck_ns (ck_lf hd lo hi k r)))))]) (rest := [.long (ck_abs ((ck_mid lo hi u) - (ck_fd (ck_sm (bt (ck_lf hd lo hi k r)) lo hi 24) (Int32.toInt64 (ck_ns (ck_lf hd lo hi k r))))))]) ⟨hx, hb, hml, hown, hts⟩ (c_X1_size l ((ck_mid lo hi w8) - (ck_fd (ck_sm (bt (ck_lf hd lo hi k r)) lo hi 24) (Int32.toInt64 (ck_ns (ck_lf hd lo hi k r)))))) (va_cwS 1 hts gX1_survivors_X1_size rfl rfl rfl (by decide +kernel) ⟨Nat.le_of_ble_eq_true rfl, Nat.le_of_ble_eq_true rfl⟩) rfl hl.1 rfl (Nat.le_of_ble_eq_true rfl) dX1_survivors_180 ⟨Nat.le_of_ble_eq_true rfl, Nat.le_of_ble_eq_true rfl⟩ ?_
                  refine W.lcmp hx hb dX1_survivors_183 ?_
                  refine lv_if_lt (tgt := 192) hx hb dX1_survivors_184 (by decide) (fun c_9 => ?_) (fun c_9 => ?_)
                  · rw [lg_cmp_lt] at c_9
                    refine lv_iload hx hb dX1_survivors_192 (lv_at hl 5 rfl) ?_
                    refine lv_istore (lv' := [(8, .int (nI w8)), (0, .ref h), (1, .int k), (2, .int (ck_lf hd lo hi k r)), (3, .int (ck_ns (ck_lf hd lo hi k r))), (6, .long (ck_fd (ck_sm (bt (ck_lf hd lo hi k r)) lo hi 24) (Int32.toInt64 (ck_ns (ck_lf hd lo hi k r))))), (9, .int (nI u))]) hx hb dX1_survivors_194 hl (by decide) rfl (fun ls hl => ?_)
                    refine lv_iinc (v := (nI (u + 1))) (lv' := [(9, .int (nI (u + 1))), (8, .int (nI w8)), (0, .ref h), (1, .int k), (2, .int (ck_lf hd lo hi k r)), (3, .int (ck_ns (ck_lf hd lo hi k r))), (6, .long (ck_fd (ck_sm (bt (ck_lf hd lo hi k r)) lo hi 24) (Int32.toInt64 (ck_ns (ck_lf hd lo hi k r)))))]) hx hb dX1_survivors_196 hl (k := 6) rfl (nI_1 u) (by decide) rfl (fun ls hl => ?_)
                    refine lv_goto (tgt := 136) hx hb dX1_survivors_199 (by decide) ?_
                    refine ih_u ls hlt_u (trivial) ?_
                    have hq : lv_has ls 10 [(0, .ref h), (1, .int k), (2, .int (ck_lf hd lo hi k r)), (3, .int (ck_ns (ck_lf hd lo hi k r))), (6, .long (ck_fd (ck_sm (bt (ck_lf hd lo hi k r)) lo hi 24) (Int32.toInt64 (ck_ns (ck_lf hd lo hi k r))))), (8, .int (nI w8)), (9, .int (nI (u + 1)))] := lv_sub hl [2, 3, 4, 5, 6, 1, 0] rfl
                    have eq0 : (nI w8) = (ck_wi (ck_lf hd lo hi k r) lo hi (ck_fd (ck_sm (bt (ck_lf hd lo hi k r)) lo hi 24) (Int32.toInt64 (ck_ns (ck_lf hd lo hi k r)))) (u + 1)) := by first | exact ck_wi_keep c_7 hw2 hwm c_9 | exact ck_wi_take c_7 hwm c_9
                    exact lv_eqq hq (by rw [← eq0])
                  · rw [lg_cmp_lt] at c_9
                    refine lv_iload hx hb dX1_survivors_187 (lv_at hl 6 rfl) ?_
                    refine lv_goto (tgt := 194) hx hb dX1_survivors_189 (by decide) ?_
                    refine lv_istore (lv' := [(8, .int (nI u)), (0, .ref h), (1, .int k), (2, .int (ck_lf hd lo hi k r)), (3, .int (ck_ns (ck_lf hd lo hi k r))), (6, .long (ck_fd (ck_sm (bt (ck_lf hd lo hi k r)) lo hi 24) (Int32.toInt64 (ck_ns (ck_lf hd lo hi k r))))), (9, .int (nI u))]) hx hb dX1_survivors_194 hl (by decide) rfl (fun ls hl => ?_)
                    refine lv_iinc (v := (nI (u + 1))) (lv' := [(9, .int (nI (u + 1))), (8, .int (nI u)), (0, .ref h), (1, .int k), (2, .int (ck_lf hd lo hi k r)), (3, .int (ck_ns (ck_lf hd lo hi k r))), (6, .long (ck_fd (ck_sm (bt (ck_lf hd lo hi k r)) lo hi 24) (Int32.toInt64 (ck_ns (ck_lf hd lo hi k r)))))]) hx hb dX1_survivors_196 hl (k := 6) rfl (nI_1 u) (by decide) rfl (fun ls hl => ?_)
                    refine lv_goto (tgt := 136) hx hb dX1_survivors_199 (by decide) ?_
                    refine ih_u ls hlt_u (trivial) ?_
                    have hq : lv_has ls 10 [(0, .ref h), (1, .int k), (2, .int (ck_lf hd lo hi k r)), (3, .int (ck_ns (ck_lf hd lo hi k r))), (6, .long (ck_fd (ck_sm (bt (ck_lf hd lo hi k r)) lo hi 24) (Int32.toInt64 (ck_ns (ck_lf hd lo hi k r))))), (8, .int (nI u)), (9, .int (nI (u + 1)))] := lv_sub hl [2, 3, 4, 5, 6, 1, 0] rfl
                    have eq0 : (nI u) = (ck_wi (ck_lf hd lo hi k r) lo hi (ck_fd (ck_sm (bt (ck_lf hd lo hi k r)) lo hi 24) (Int32.toInt64 (ck_ns (ck_lf hd lo hi k r)))) (u + 1)) := by first | exact ck_wi_keep c_7 hw2 hwm c_9 | exact ck_wi_take c_7 hwm c_9
                    exact lv_eqq hq (by rw [← eq0])
          · have hlt_o : o < 24 := ck_ltN hle_o c_5
            refine lv_lload hx hb dX1_survivors_90 (lv_at hl 4 rfl) ?_
            refine lv_iload_n hx hb dX1_survivors_92 rfl (lv_at hl 2 rfl) ?_
            refine lv_iload hx hb dX1_survivors_93 (lv_at hl 5 rfl) ?_
            refine lv_ishr hx hb dX1_survivors_95 ?_
            refine lv_iconst (v := 1) hx hb dX1_survivors_96 (by decide) ?_
            refine lv_iand hx hb dX1_survivors_97 ?_
            refine lv_iconst (v := 1) hx hb dX1_survivors_98 (by decide) ?_
            refine lv_icmp_ne (tgt := 111) hx hb dX1_survivors_99 (by decide) (fun c_10 => ?_) (fun c_10 => ?_)
            · have c_10 := ck_sh1n hlt_o c_10
              refine lv_lconst (v := 0) hx hb dX1_survivors_111 (by decide) ?_
              refine lv_ladd hx hb dX1_survivors_112 ?_
              refine lv_lstore (lv' := [(4, .long ((ck_sm (bt (ck_lf hd lo hi k r)) lo hi o) + 0)), (0, .ref h), (1, .int k), (2, .int (ck_lf hd lo hi k r)), (3, .int (ck_ns (ck_lf hd lo hi k r))), (6, .int (nI o))]) hx hb dX1_survivors_113 hl (by decide) rfl (fun ls hl => ?_)
              refine lv_iinc (v := (nI (o + 1))) (lv' := [(6, .int (nI (o + 1))), (4, .long ((ck_sm (bt (ck_lf hd lo hi k r)) lo hi o) + 0)), (0, .ref h), (1, .int k), (2, .int (ck_lf hd lo hi k r)), (3, .int (ck_ns (ck_lf hd lo hi k r)))]) hx hb dX1_survivors_115 hl (k := 5) rfl (nI_1 o) (by decide) rfl (fun ls hl => ?_)
              refine lv_goto (tgt := 83) hx hb dX1_survivors_118 (by decide) ?_
              refine ih_o ls hlt_o (trivial) ?_
              have hq : lv_has ls 10 [(0, .ref h), (1, .int k), (2, .int (ck_lf hd lo hi k r)), (3, .int (ck_ns (ck_lf hd lo hi k r))), (4, .long ((ck_sm (bt (ck_lf hd lo hi k r)) lo hi o) + 0)), (6, .int (nI (o + 1)))] := lv_sub hl [2, 3, 4, 5, 1, 0] rfl
              have eq0 : ((ck_sm (bt (ck_lf hd lo hi k r)) lo hi o) + 0) = (ck_sm (bt (ck_lf hd lo hi k r)) lo hi (o + 1)) := by simp [ck_sm, c_10]
              exact lv_eqq hq (by rw [← eq0])
            · have c_10 := ck_sh1 hlt_o c_10
              refine lv_aload_n hx hb dX1_survivors_102 rfl (lv_at hl 0 rfl) ?_
              refine lv_iload hx hb dX1_survivors_103 (lv_at hl 5 rfl) ?_
              refine ck_cV (As := [.int (nI o)]) (rest := [.long (ck_sm (bt (ck_lf hd lo hi k r)) lo hi o)]) ⟨hx, hb, hml, hown, hts⟩ (c_X1_middle l D h a0 a1 a2 c0 c1 c2 lo hi hd ow off go inv o hlt_o) (cwV 1 hts gX1_survivors_X1_middle rfl rfl rfl (by decide +kernel) ⟨Nat.le_of_ble_eq_true rfl, Nat.le_of_ble_eq_true rfl⟩) hP hK (va_recv hK hP (ci := 1) (q0 := 0) rfl rfl) rfl hl.1 rfl (Nat.le_of_ble_eq_true rfl) dX1_survivors_105 ⟨Nat.le_of_ble_eq_true rfl, Nat.le_of_ble_eq_true rfl⟩ ?_
              refine lv_goto (tgt := 112) hx hb dX1_survivors_108 (by decide) ?_
              refine lv_ladd hx hb dX1_survivors_112 ?_
              refine lv_lstore (lv' := [(4, .long ((ck_sm (bt (ck_lf hd lo hi k r)) lo hi o) + (ck_mid lo hi o))), (0, .ref h), (1, .int k), (2, .int (ck_lf hd lo hi k r)), (3, .int (ck_ns (ck_lf hd lo hi k r))), (6, .int (nI o))]) hx hb dX1_survivors_113 hl (by decide) rfl (fun ls hl => ?_)
              refine lv_iinc (v := (nI (o + 1))) (lv' := [(6, .int (nI (o + 1))), (4, .long ((ck_sm (bt (ck_lf hd lo hi k r)) lo hi o) + (ck_mid lo hi o))), (0, .ref h), (1, .int k), (2, .int (ck_lf hd lo hi k r)), (3, .int (ck_ns (ck_lf hd lo hi k r)))]) hx hb dX1_survivors_115 hl (k := 5) rfl (nI_1 o) (by decide) rfl (fun ls hl => ?_)
              refine lv_goto (tgt := 83) hx hb dX1_survivors_118 (by decide) ?_
              refine ih_o ls hlt_o (trivial) ?_
              have hq : lv_has ls 10 [(0, .ref h), (1, .int k), (2, .int (ck_lf hd lo hi k r)), (3, .int (ck_ns (ck_lf hd lo hi k r))), (4, .long ((ck_sm (bt (ck_lf hd lo hi k r)) lo hi o) + (ck_mid lo hi o))), (6, .int (nI (o + 1)))] := lv_sub hl [2, 3, 4, 5, 1, 0] rfl
              have eq0 : ((ck_sm (bt (ck_lf hd lo hi k r)) lo hi o) + (ck_mid lo hi o)) = (ck_sm (bt (ck_lf hd lo hi k r)) lo hi (o + 1)) := by simp [ck_sm, c_10]
              exact lv_eqq hq (by rw [← eq0])
      · have hlt_i : i < 24 := ck_ltN hle_i c_3
        refine lv_aload_n hx hb dX1_survivors_27 rfl (lv_at hl 0 rfl) ?_
        refine va_get (D := D) (ci := 1) (v := .ref a0) (C := RX1) (T := TX1) (N := 6) hx hb hts hin hown hK hP 0 rfl rfl 0 (by decide) (hts (.fieldLink RX1 7 "ClockDeskModel" "is" "[Z") (by decide +kernel)) (fun _ h9 => h9) rfl dX1_survivors_28 ?_
        refine lv_iload hx hb dX1_survivors_31 (lv_at hl 4 rfl) ?_
        refine ck_zald hx hb hK hP 1 0 rfl rfl (i := i) hlt_i dX1_survivors_33 ?_
        refine lv_if_eq (tgt := 46) hx hb dX1_survivors_34 (by decide) (fun c_11 => ?_) (fun c_11 => ?_)
        · have c_11 := ck_bf c_11
          refine lv_iload_n hx hb dX1_survivors_46 rfl (lv_at hl 2 rfl) ?_
          refine lv_istore_n (lv' := [(2, .int (ck_mk (bt hd) i)), (0, .ref h), (1, .int k), (3, .int (ck_cn (bt hd) i)), (4, .int (nI i))]) hx hb dX1_survivors_47 rfl hl (by decide) rfl (fun ls hl => ?_)
          refine lv_iload_n hx hb dX1_survivors_48 rfl (lv_at hl 3 rfl) ?_
          refine lv_aload_n hx hb dX1_survivors_49 rfl (lv_at hl 1 rfl) ?_
          refine va_get (D := D) (ci := 1) (v := .ref a0) (C := RX1) (T := TX1) (N := 6) hx hb hts hin hown hK hP 0 rfl rfl 0 (by decide) (hts (.fieldLink RX1 7 "ClockDeskModel" "is" "[Z") (by decide +kernel)) (fun _ h9 => h9) rfl dX1_survivors_50 ?_
          refine lv_iload hx hb dX1_survivors_53 (lv_at hl 4 rfl) ?_
          refine ck_zald hx hb hK hP 1 0 rfl rfl (i := i) hlt_i dX1_survivors_55 ?_
          refine lv_if_eq (tgt := 63) hx hb dX1_survivors_56 (by decide) (fun c_12 => ?_) (fun c_12 => ?_)
          · have c_12 := ck_bf c_12
            refine lv_iconst (v := 0) hx hb dX1_survivors_63 (by decide) ?_
            refine lv_iadd hx hb dX1_survivors_64 ?_
            refine lv_istore_n (lv' := [(3, .int ((ck_cn (bt hd) i) + 0)), (2, .int (ck_mk (bt hd) i)), (0, .ref h), (1, .int k), (4, .int (nI i))]) hx hb dX1_survivors_65 rfl hl (by decide) rfl (fun ls hl => ?_)
            refine lv_iinc (v := (nI (i + 1))) (lv' := [(4, .int (nI (i + 1))), (3, .int ((ck_cn (bt hd) i) + 0)), (2, .int (ck_mk (bt hd) i)), (0, .ref h), (1, .int k)]) hx hb dX1_survivors_66 hl (k := 4) rfl (nI_1 i) (by decide) rfl (fun ls hl => ?_)
            refine lv_goto (tgt := 20) hx hb dX1_survivors_69 (by decide) ?_
            refine ih_i ls hlt_i (trivial) ?_
            have hq : lv_has ls 10 [(0, .ref h), (1, .int k), (2, .int (ck_mk (bt hd) i)), (3, .int ((ck_cn (bt hd) i) + 0)), (4, .int (nI (i + 1)))] := lv_sub hl [3, 4, 2, 1, 0] rfl
            have eq0 : (ck_mk (bt hd) i) = (ck_mk (bt hd) (i + 1)) := by first | (simp [ck_mk, ck_cn, c_11, c_12]; done) | exact absurd c_12 (by rw [c_11]; decide)
            have eq1 : ((ck_cn (bt hd) i) + 0) = (ck_cn (bt hd) (i + 1)) := by first | (simp [ck_mk, ck_cn, c_11, c_12]; done) | exact absurd c_12 (by rw [c_11]; decide)
            exact lv_eqq hq (by rw [← eq1, ← eq0])
          · have c_12 := ck_bt c_12
            refine lv_iconst (v := 1) hx hb dX1_survivors_59 (by decide) ?_
            refine lv_goto (tgt := 64) hx hb dX1_survivors_60 (by decide) ?_
            refine lv_iadd hx hb dX1_survivors_64 ?_
            refine lv_istore_n (lv' := [(3, .int ((ck_cn (bt hd) i) + 1)), (2, .int (ck_mk (bt hd) i)), (0, .ref h), (1, .int k), (4, .int (nI i))]) hx hb dX1_survivors_65 rfl hl (by decide) rfl (fun ls hl => ?_)
            refine lv_iinc (v := (nI (i + 1))) (lv' := [(4, .int (nI (i + 1))), (3, .int ((ck_cn (bt hd) i) + 1)), (2, .int (ck_mk (bt hd) i)), (0, .ref h), (1, .int k)]) hx hb dX1_survivors_66 hl (k := 4) rfl (nI_1 i) (by decide) rfl (fun ls hl => ?_)
            refine lv_goto (tgt := 20) hx hb dX1_survivors_69 (by decide) ?_
            refine ih_i ls hlt_i (trivial) ?_
            have hq : lv_has ls 10 [(0, .ref h), (1, .int k), (2, .int (ck_mk (bt hd) i)), (3, .int ((ck_cn (bt hd) i) + 1)), (4, .int (nI (i + 1)))] := lv_sub hl [3, 4, 2, 1, 0] rfl
            have eq0 : (ck_mk (bt hd) i) = (ck_mk (bt hd) (i + 1)) := by first | (simp [ck_mk, ck_cn, c_11, c_12]; done) | exact absurd c_12 (by rw [c_11]; decide)
            have eq1 : ((ck_cn (bt hd) i) + 1) = (ck_cn (bt hd) (i + 1)) := by first | (simp [ck_mk, ck_cn, c_11, c_12]; done) | exact absurd c_12 (by rw [c_11]; decide)
            exact lv_eqq hq (by rw [← eq1, ← eq0])
        · have c_11 := ck_bt c_11
          refine lv_iload_n hx hb dX1_survivors_37 rfl (lv_at hl 2 rfl) ?_
          refine lv_iconst (v := 1) hx hb dX1_survivors_38 (by decide) ?_
          refine lv_iload hx hb dX1_survivors_39 (lv_at hl 4 rfl) ?_
          refine lv_ishl hx hb dX1_survivors_41 ?_
          refine lv_ior hx hb dX1_survivors_42 ?_
          refine lv_goto (tgt := 47) hx hb dX1_survivors_43 (by decide) ?_
          refine lv_istore_n (lv' := [(2, .int ((ck_mk (bt hd) i) ||| (1 <<< ((nI i) &&& 31)))), (0, .ref h), (1, .int k), (3, .int (ck_cn (bt hd) i)), (4, .int (nI i))]) hx hb dX1_survivors_47 rfl hl (by decide) rfl (fun ls hl => ?_)
          refine lv_iload_n hx hb dX1_survivors_48 rfl (lv_at hl 3 rfl) ?_
          refine lv_aload_n hx hb dX1_survivors_49 rfl (lv_at hl 1 rfl) ?_
          refine va_get (D := D) (ci := 1) (v := .ref a0) (C := RX1) (T := TX1) (N := 6) hx hb hts hin hown hK hP 0 rfl rfl 0 (by decide) (hts (.fieldLink RX1 7 "ClockDeskModel" "is" "[Z") (by decide +kernel)) (fun _ h9 => h9) rfl dX1_survivors_50 ?_
          refine lv_iload hx hb dX1_survivors_53 (lv_at hl 4 rfl) ?_
          refine ck_zald hx hb hK hP 1 0 rfl rfl (i := i) hlt_i dX1_survivors_55 ?_
          refine lv_if_eq (tgt := 63) hx hb dX1_survivors_56 (by decide) (fun c_13 => ?_) (fun c_13 => ?_)
          · have c_13 := ck_bf c_13
            refine lv_iconst (v := 0) hx hb dX1_survivors_63 (by decide) ?_
            refine lv_iadd hx hb dX1_survivors_64 ?_
            refine lv_istore_n (lv' := [(3, .int ((ck_cn (bt hd) i) + 0)), (2, .int ((ck_mk (bt hd) i) ||| (1 <<< ((nI i) &&& 31)))), (0, .ref h), (1, .int k), (4, .int (nI i))]) hx hb dX1_survivors_65 rfl hl (by decide) rfl (fun ls hl => ?_)
            refine lv_iinc (v := (nI (i + 1))) (lv' := [(4, .int (nI (i + 1))), (3, .int ((ck_cn (bt hd) i) + 0)), (2, .int ((ck_mk (bt hd) i) ||| (1 <<< ((nI i) &&& 31)))), (0, .ref h), (1, .int k)]) hx hb dX1_survivors_66 hl (k := 4) rfl (nI_1 i) (by decide) rfl (fun ls hl => ?_)
            refine lv_goto (tgt := 20) hx hb dX1_survivors_69 (by decide) ?_
            refine ih_i ls hlt_i (trivial) ?_
            have hq : lv_has ls 10 [(0, .ref h), (1, .int k), (2, .int ((ck_mk (bt hd) i) ||| (1 <<< ((nI i) &&& 31)))), (3, .int ((ck_cn (bt hd) i) + 0)), (4, .int (nI (i + 1)))] := lv_sub hl [3, 4, 2, 1, 0] rfl
            have eq0 : ((ck_mk (bt hd) i) ||| (1 <<< ((nI i) &&& 31))) = (ck_mk (bt hd) (i + 1)) := by first | (simp [ck_mk, ck_cn, c_11, c_13]; done) | exact absurd c_13 (by rw [c_11]; decide)
            have eq1 : ((ck_cn (bt hd) i) + 0) = (ck_cn (bt hd) (i + 1)) := by first | (simp [ck_mk, ck_cn, c_11, c_13]; done) | exact absurd c_13 (by rw [c_11]; decide)
            exact lv_eqq hq (by rw [← eq1, ← eq0])
          · have c_13 := ck_bt c_13
            refine lv_iconst (v := 1) hx hb dX1_survivors_59 (by decide) ?_
            refine lv_goto (tgt := 64) hx hb dX1_survivors_60 (by decide) ?_
            refine lv_iadd hx hb dX1_survivors_64 ?_
            refine lv_istore_n (lv' := [(3, .int ((ck_cn (bt hd) i) + 1)), (2, .int ((ck_mk (bt hd) i) ||| (1 <<< ((nI i) &&& 31)))), (0, .ref h), (1, .int k), (4, .int (nI i))]) hx hb dX1_survivors_65 rfl hl (by decide) rfl (fun ls hl => ?_)
            refine lv_iinc (v := (nI (i + 1))) (lv' := [(4, .int (nI (i + 1))), (3, .int ((ck_cn (bt hd) i) + 1)), (2, .int ((ck_mk (bt hd) i) ||| (1 <<< ((nI i) &&& 31)))), (0, .ref h), (1, .int k)]) hx hb dX1_survivors_66 hl (k := 4) rfl (nI_1 i) (by decide) rfl (fun ls hl => ?_)
            refine lv_goto (tgt := 20) hx hb dX1_survivors_69 (by decide) ?_
            refine ih_i ls hlt_i (trivial) ?_
            have hq : lv_has ls 10 [(0, .ref h), (1, .int k), (2, .int ((ck_mk (bt hd) i) ||| (1 <<< ((nI i) &&& 31)))), (3, .int ((ck_cn (bt hd) i) + 1)), (4, .int (nI (i + 1)))] := lv_sub hl [3, 4, 2, 1, 0] rfl
            have eq0 : ((ck_mk (bt hd) i) ||| (1 <<< ((nI i) &&& 31))) = (ck_mk (bt hd) (i + 1)) := by first | (simp [ck_mk, ck_cn, c_11, c_13]; done) | exact absurd c_13 (by rw [c_11]; decide)
            have eq1 : ((ck_cn (bt hd) i) + 1) = (ck_cn (bt hd) (i + 1)) := by first | (simp [ck_mk, ck_cn, c_11, c_13]; done) | exact absurd c_13 (by rw [c_11]; decide)
            exact lv_eqq hq (by rw [← eq1, ← eq0])
    · refine lv_iconst (v := (-1)) hx hb dX1_survivors_11 (by decide) ?_
      have hres : (-1) = (ck_sv hd lo hi k) := by first | (simp [ck_sv, ck_ctN c_1]; done) | (simp [ck_sv, ck_ctB c_2]; done)
      exact W.iret (v := (-1)) hx hb hr (fun t ht _ => ⟨congrArg (fun z => Outcome.returned (some (Value.int z))) hres, ht⟩) (fun _ h => nomatch h) dX1_survivors_12

set_option maxHeartbeats 4000000 in
set_option maxRecDepth 100000 in
theorem c_X1_rank (l : Launch) (D : va_G) (h a0 a1 a2 : Nat) (c0 c1 c2 : ClassId) (lo hi : Nat → Int64) (hd : Int32) (ow off go : Int64) (inv : ck_inv hd lo hi) (x : Int32) (k : Int32)  : Met l yX1_rank wsX1_rank { frames := 3, cells := 0, slots := 0, locals := 71 } (va_Pc [.ref h, .int x, .int k] (ck_B D (mW h a0 a1 a2 c0 c1 c2 lo hi hd ow off go) (mT c0 c1 c2))) (ck_R (.int (ck_rk hd lo hi x k))) 0 0 (fun _ => False) := by
  refine Met.ofW (cc := cX1_rank) (maxL := 6) (ret := (some .int)) (by decide) rfl ?_
  intro p e s m args below meth c s₁ B hml hv
  obtain ⟨rfl, hP, hK⟩ := hv
  have hx := B.exec
  have hb := B.bytes
  have hr := B.returns
  have hts := atoms_spec (ws := wsX1_rank) B.pre
  have hown : s.vm.findClass RX1 = some m.cls := findClass_of_methodNamed B.named
  have hlocks := B.notSynchronized
  have hin : ∀ w ∈ wsX10, w ∈ wsX1_rank := fun _ h => List.mem_cons_of_mem _ (List.mem_append_right _ h)
  have hl := lv_entry ([.ref h, .int x, .int k]) (n := 6) (Nat.le_of_ble_eq_true rfl)
  rw [lg_entry_eq]
  generalize (lg_sl ([.ref h, .int x, .int k]) ++ List.replicate (6 - (lg_sl ([.ref h, .int x, .int k])).length) Slot.unset).toArray = ls at hl ⊢
  have hl : lv_has ls 6 [(0, .ref h), (1, .int x), (2, .int k)] := hl
  refine lv_iload_n hx hb dX1_rank_0 rfl (lv_at hl 2 rfl) ?_
  refine lv_iconst (v := 1) hx hb dX1_rank_1 (by decide) ?_
  refine lv_icmp_lt (tgt := 11) hx hb dX1_rank_2 (by decide) (fun c_1 => ?_) (fun c_1 => ?_)
  · refine lv_iconst (v := 0) hx hb dX1_rank_11 (by decide) ?_
    refine lv_goto (tgt := 20) hx hb dX1_rank_12 (by decide) ?_
    refine lv_istore_n (lv' := [(3, .int 0), (0, .ref h), (1, .int x), (2, .int k)]) hx hb dX1_rank_20 rfl hl (by decide) rfl (fun ls hl => ?_)
    refine lv_iload_n hx hb dX1_rank_21 rfl (lv_at hl 2 rfl) ?_
    refine ck_cS (As := [.int x]) (rest := []) ⟨hx, hb, hml, hown, hts⟩ (c_X1_isSource l x) (va_cwS 1 hts gX1_rank_X1_isSource rfl rfl rfl (by decide +kernel) ⟨Nat.le_of_ble_eq_true rfl, Nat.le_of_ble_eq_true rfl⟩) rfl hl.1 rfl (Nat.le_of_ble_eq_true rfl) dX1_rank_22 ⟨Nat.le_of_ble_eq_true rfl, Nat.le_of_ble_eq_true rfl⟩ ?_
    refine lv_if_eq (tgt := 36) hx hb dX1_rank_25 (by decide) (fun c_2 => ?_) (fun c_2 => ?_)
    · have c_2 := ck_bf c_2
      refine lv_iconst (v := (-1)) hx hb dX1_rank_36 (by decide) ?_
      have hres : (-1) = (ck_rk hd lo hi x k) := by simp [ck_rk, ck_ctN c_1]
      exact W.iret (v := (-1)) hx hb hr (fun t ht _ => ⟨congrArg (fun z => Outcome.returned (some (Value.int z))) hres, ht⟩) (fun _ h => nomatch h) dX1_rank_37
    · have c_2 := ck_bt c_2
      obtain ⟨jx, hjx, rfl⟩ := ck_srcE c_2
      have hcjx : (nI jx).toNatClampNeg = jx := nI_clamp (by omega)
      refine lv_iload_n hx hb dX1_rank_28 rfl (lv_at hl 0 rfl) ?_
      refine lv_iload_n hx hb dX1_rank_29 rfl (lv_at hl 2 rfl) ?_
      refine lv_ishr hx hb dX1_rank_30 ?_
      refine lv_iconst (v := 1) hx hb dX1_rank_31 (by decide) ?_
      refine lv_iand hx hb dX1_rank_32 ?_
      refine lv_if_ne (tgt := 38) hx hb dX1_rank_33 (by decide) (fun c_3 => ?_) (fun c_3 => ?_)
      · exact absurd (ck_sh0n hjx c_3) (by rw [b_0]; decide)
      · have c_3 := ck_sh0 hjx c_3
        refine lv_iconst (v := (-1)) hx hb dX1_rank_36 (by decide) ?_
        have hres : (-1) = (ck_rk hd lo hi (nI jx) k) := by simp [ck_rk, ck_ctN c_1]
        exact W.iret (v := (-1)) hx hb hr (fun t ht _ => ⟨congrArg (fun z => Outcome.returned (some (Value.int z))) hres, ht⟩) (fun _ h => nomatch h) dX1_rank_37
  · refine lv_iload_n hx hb dX1_rank_5 rfl (lv_at hl 2 rfl) ?_
    refine lv_bipush (v := 24) hx hb dX1_rank_6 (by decide) ?_
    refine lv_icmp_le (tgt := 15) hx hb dX1_rank_8 (by decide) (fun c_4 => ?_) (fun c_4 => ?_)
    · refine lv_aload_n hx hb dX1_rank_15 rfl (lv_at hl 0 rfl) ?_
      refine lv_iload_n hx hb dX1_rank_16 rfl (lv_at hl 2 rfl) ?_
      refine ck_cV (As := [.int k]) (rest := []) ⟨hx, hb, hml, hown, hts⟩ (c_X1_survivors l D h a0 a1 a2 c0 c1 c2 lo hi hd ow off go inv k) (cwV 1 hts gX1_rank_X1_survivors rfl rfl rfl (by decide +kernel) ⟨Nat.le_of_ble_eq_true rfl, Nat.le_of_ble_eq_true rfl⟩) hP hK (va_recv hK hP (ci := 1) (q0 := 0) rfl rfl) rfl hl.1 rfl (Nat.le_of_ble_eq_true rfl) dX1_rank_17 ⟨Nat.le_of_ble_eq_true rfl, Nat.le_of_ble_eq_true rfl⟩ ?_
      refine lv_istore_n (lv' := [(3, .int (ck_sv hd lo hi k)), (0, .ref h), (1, .int x), (2, .int k)]) hx hb dX1_rank_20 rfl hl (by decide) rfl (fun ls hl => ?_)
      refine lv_iload_n hx hb dX1_rank_21 rfl (lv_at hl 2 rfl) ?_
      refine ck_cS (As := [.int x]) (rest := []) ⟨hx, hb, hml, hown, hts⟩ (c_X1_isSource l x) (va_cwS 1 hts gX1_rank_X1_isSource rfl rfl rfl (by decide +kernel) ⟨Nat.le_of_ble_eq_true rfl, Nat.le_of_ble_eq_true rfl⟩) rfl hl.1 rfl (Nat.le_of_ble_eq_true rfl) dX1_rank_22 ⟨Nat.le_of_ble_eq_true rfl, Nat.le_of_ble_eq_true rfl⟩ ?_
      refine lv_if_eq (tgt := 36) hx hb dX1_rank_25 (by decide) (fun c_5 => ?_) (fun c_5 => ?_)
      · have c_5 := ck_bf c_5
        refine lv_iconst (v := (-1)) hx hb dX1_rank_36 (by decide) ?_
        have hres : (-1) = (ck_rk hd lo hi x k) := by simp [ck_rk, ck_in, ck_ctI c_1 c_4, c_1, c_4, c_5]
        exact W.iret (v := (-1)) hx hb hr (fun t ht _ => ⟨congrArg (fun z => Outcome.returned (some (Value.int z))) hres, ht⟩) (fun _ h => nomatch h) dX1_rank_37
      · have c_5 := ck_bt c_5
        obtain ⟨jx, hjx, rfl⟩ := ck_srcE c_5
        have hcjx : (nI jx).toNatClampNeg = jx := nI_clamp (by omega)
        refine lv_iload_n hx hb dX1_rank_28 rfl (lv_at hl 0 rfl) ?_
        refine lv_iload_n hx hb dX1_rank_29 rfl (lv_at hl 2 rfl) ?_
        refine lv_ishr hx hb dX1_rank_30 ?_
        refine lv_iconst (v := 1) hx hb dX1_rank_31 (by decide) ?_
        refine lv_iand hx hb dX1_rank_32 ?_
        refine lv_if_ne (tgt := 38) hx hb dX1_rank_33 (by decide) (fun c_6 => ?_) (fun c_6 => ?_)
        · have c_6 := ck_sh0n hjx c_6
          refine lv_iconst (v := 0) hx hb dX1_rank_38 (by decide) ?_
          refine lv_istore (lv' := [(4, .int 0), (3, .int (ck_sv hd lo hi k)), (0, .ref h), (1, .int (nI jx)), (2, .int k)]) hx hb dX1_rank_39 hl (by decide) rfl (fun ls hl => ?_)
          refine lv_iconst (v := 0) hx hb dX1_rank_41 (by decide) ?_
          refine lv_istore (lv' := [(5, .int 0), (4, .int 0), (3, .int (ck_sv hd lo hi k)), (0, .ref h), (1, .int (nI jx)), (2, .int k)]) hx hb dX1_rank_42 hl (by decide) rfl (fun ls hl => ?_)
          refine ck_loop (G := fun ls => W p l e _ s m _ below meth c _ _ _ _ _ (F0 m 44 ls [])) (nL := 6) (24) (fun i => True) (fun i => [(0, .ref h), (1, .int (nI jx)), (2, .int k), (3, .int (ck_sv hd lo hi k)), (4, .int (ck_cn (ck_plP (bt (ck_sv hd lo hi k)) lo hi jx) i)), (5, .int (nI i))]) (fun i hle_i hj_i ih_i ls hl => ?_) ls (trivial) ?_
          rotate_left
          · have hq : lv_has ls 6 [(0, .ref h), (1, .int (nI jx)), (2, .int k), (3, .int (ck_sv hd lo hi k)), (4, .int 0), (5, .int 0)] := lv_sub hl [3, 4, 5, 2, 1, 0] rfl
            exact hq
          have hl : lv_has ls 6 [(0, .ref h), (1, .int (nI jx)), (2, .int k), (3, .int (ck_sv hd lo hi k)), (4, .int (ck_cn (ck_plP (bt (ck_sv hd lo hi k)) lo hi jx) i)), (5, .int (nI i))] := hl
          refine lv_iload hx hb dX1_rank_44 (lv_at hl 5 rfl) ?_
          refine lv_bipush (v := 24) hx hb dX1_rank_46 (by decide) ?_
          refine lv_icmp_ge (tgt := 113) hx hb dX1_rank_48 (by decide) (fun c_7 => ?_) (fun c_7 => ?_)
          · have heq_i : i = 24 := ck_eqN hle_i c_7
            subst heq_i
            have hl : lv_has ls 6 [(0, .ref h), (1, .int (nI jx)), (2, .int k), (3, .int (ck_sv hd lo hi k)), (4, .int (ck_cn (ck_plP (bt (ck_sv hd lo hi k)) lo hi jx) 24)), (5, .int (nI 24))] := hl
            refine lv_iload hx hb dX1_rank_113 (lv_at hl 4 rfl) ?_
            have hres : (ck_cn (ck_plP (bt (ck_sv hd lo hi k)) lo hi jx) 24) = (ck_rk hd lo hi (nI jx) k) := by have hs : ck_sv hd lo hi k = ck_lf hd lo hi k 24 := (by simp [ck_sv, ck_ctI c_1 c_4]); rw [ck_rk, ck_ctI c_1 c_4, if_pos rfl, hcjx, ck_inN _ hjx, ← hs]; simp [ck_pl, c_1, c_4, c_5, hcjx, c_6]
            exact W.iret (v := (ck_cn (ck_plP (bt (ck_sv hd lo hi k)) lo hi jx) 24)) hx hb hr (fun t ht _ => ⟨congrArg (fun z => Outcome.returned (some (Value.int z))) hres, ht⟩) (fun _ h => nomatch h) dX1_rank_115
          · have hlt_i : i < 24 := ck_ltN hle_i c_7
            refine lv_iload hx hb dX1_rank_51 (lv_at hl 4 rfl) ?_
            refine lv_iload_n hx hb dX1_rank_53 rfl (lv_at hl 3 rfl) ?_
            refine lv_iload hx hb dX1_rank_54 (lv_at hl 5 rfl) ?_
            refine lv_ishr hx hb dX1_rank_56 ?_
            refine lv_iconst (v := 1) hx hb dX1_rank_57 (by decide) ?_
            refine lv_iand hx hb dX1_rank_58 ?_
            refine lv_iconst (v := 1) hx hb dX1_rank_59 (by decide) ?_
            refine lv_icmp_ne (tgt := 103) hx hb dX1_rank_60 (by decide) (fun c_8 => ?_) (fun c_8 => ?_)
            · have c_8 := ck_sh1n hlt_i c_8
              refine lv_iconst (v := 0) hx hb dX1_rank_103 (by decide) ?_
              refine lv_iadd hx hb dX1_rank_104 ?_
              refine lv_istore (lv' := [(4, .int ((ck_cn (ck_plP (bt (ck_sv hd lo hi k)) lo hi jx) i) + 0)), (0, .ref h), (1, .int (nI jx)), (2, .int k), (3, .int (ck_sv hd lo hi k)), (5, .int (nI i))]) hx hb dX1_rank_105 hl (by decide) rfl (fun ls hl => ?_)
              refine lv_iinc (v := (nI (i + 1))) (lv' := [(5, .int (nI (i + 1))), (4, .int ((ck_cn (ck_plP (bt (ck_sv hd lo hi k)) lo hi jx) i) + 0)), (0, .ref h), (1, .int (nI jx)), (2, .int k), (3, .int (ck_sv hd lo hi k))]) hx hb dX1_rank_107 hl (k := 5) rfl (nI_1 i) (by decide) rfl (fun ls hl => ?_)
              refine lv_goto (tgt := 44) hx hb dX1_rank_110 (by decide) ?_
              refine ih_i ls hlt_i (trivial) ?_
              have hq : lv_has ls 6 [(0, .ref h), (1, .int (nI jx)), (2, .int k), (3, .int (ck_sv hd lo hi k)), (4, .int ((ck_cn (ck_plP (bt (ck_sv hd lo hi k)) lo hi jx) i) + 0)), (5, .int (nI (i + 1)))] := lv_sub hl [2, 3, 4, 5, 1, 0] rfl
              have eq0 : ((ck_cn (ck_plP (bt (ck_sv hd lo hi k)) lo hi jx) i) + 0) = (ck_cn (ck_plP (bt (ck_sv hd lo hi k)) lo hi jx) (i + 1)) := by simp [ck_cn, ck_plP, c_8]
              exact lv_eqq hq (by rw [← eq0])
            · have c_8 := ck_sh1 hlt_i c_8
              refine lv_aload_n hx hb dX1_rank_63 rfl (lv_at hl 0 rfl) ?_
              refine lv_iload hx hb dX1_rank_64 (lv_at hl 5 rfl) ?_
              refine ck_cV (As := [.int (nI i)]) (rest := [.int (ck_cn (ck_plP (bt (ck_sv hd lo hi k)) lo hi jx) i)]) ⟨hx, hb, hml, hown, hts⟩ (c_X1_middle l D h a0 a1 a2 c0 c1 c2 lo hi hd ow off go inv i hlt_i) (cwV 1 hts gX1_rank_X1_middle rfl rfl rfl (by decide +kernel) ⟨Nat.le_of_ble_eq_true rfl, Nat.le_of_ble_eq_true rfl⟩) hP hK (va_recv hK hP (ci := 1) (q0 := 0) rfl rfl) rfl hl.1 rfl (Nat.le_of_ble_eq_true rfl) dX1_rank_66 ⟨Nat.le_of_ble_eq_true rfl, Nat.le_of_ble_eq_true rfl⟩ ?_
              refine lv_aload_n hx hb dX1_rank_69 rfl (lv_at hl 0 rfl) ?_
              refine lv_iload_n hx hb dX1_rank_70 rfl (lv_at hl 1 rfl) ?_
              refine ck_cV (As := [.int (nI jx)]) (rest := [.long (ck_mid lo hi i), .int (ck_cn (ck_plP (bt (ck_sv hd lo hi k)) lo hi jx) i)]) ⟨hx, hb, hml, hown, hts⟩ (c_X1_middle l D h a0 a1 a2 c0 c1 c2 lo hi hd ow off go inv jx hjx) (cwV 1 hts gX1_rank_X1_middle rfl rfl rfl (by decide +kernel) ⟨Nat.le_of_ble_eq_true rfl, Nat.le_of_ble_eq_true rfl⟩) hP hK (va_recv hK hP (ci := 1) (q0 := 0) rfl rfl) rfl hl.1 rfl (Nat.le_of_ble_eq_true rfl) dX1_rank_71 ⟨Nat.le_of_ble_eq_true rfl, Nat.le_of_ble_eq_true rfl⟩ ?_
              refine W.lcmp hx hb dX1_rank_74 ?_
              refine lv_if_lt (tgt := 99) hx hb dX1_rank_75 (by decide) (fun c_9 => ?_) (fun c_9 => ?_)
              · rw [lg_cmp_lt] at c_9
                refine lv_iconst (v := 1) hx hb dX1_rank_99 (by decide) ?_
                refine lv_goto (tgt := 104) hx hb dX1_rank_100 (by decide) ?_
                refine lv_iadd hx hb dX1_rank_104 ?_
                refine lv_istore (lv' := [(4, .int ((ck_cn (ck_plP (bt (ck_sv hd lo hi k)) lo hi jx) i) + 1)), (0, .ref h), (1, .int (nI jx)), (2, .int k), (3, .int (ck_sv hd lo hi k)), (5, .int (nI i))]) hx hb dX1_rank_105 hl (by decide) rfl (fun ls hl => ?_)
                refine lv_iinc (v := (nI (i + 1))) (lv' := [(5, .int (nI (i + 1))), (4, .int ((ck_cn (ck_plP (bt (ck_sv hd lo hi k)) lo hi jx) i) + 1)), (0, .ref h), (1, .int (nI jx)), (2, .int k), (3, .int (ck_sv hd lo hi k))]) hx hb dX1_rank_107 hl (k := 5) rfl (nI_1 i) (by decide) rfl (fun ls hl => ?_)
                refine lv_goto (tgt := 44) hx hb dX1_rank_110 (by decide) ?_
                refine ih_i ls hlt_i (trivial) ?_
                have hq : lv_has ls 6 [(0, .ref h), (1, .int (nI jx)), (2, .int k), (3, .int (ck_sv hd lo hi k)), (4, .int ((ck_cn (ck_plP (bt (ck_sv hd lo hi k)) lo hi jx) i) + 1)), (5, .int (nI (i + 1)))] := lv_sub hl [2, 3, 4, 5, 1, 0] rfl
                have eq0 : ((ck_cn (ck_plP (bt (ck_sv hd lo hi k)) lo hi jx) i) + 1) = (ck_cn (ck_plP (bt (ck_sv hd lo hi k)) lo hi jx) (i + 1)) := by simp [ck_cn, ck_plP, c_8, c_9]
                exact lv_eqq hq (by rw [← eq0])
              · rw [lg_cmp_lt] at c_9
                refine lv_aload_n hx hb dX1_rank_78 rfl (lv_at hl 0 rfl) ?_
                refine lv_iload hx hb dX1_rank_79 (lv_at hl 5 rfl) ?_
                refine ck_cV (As := [.int (nI i)]) (rest := [.int (ck_cn (ck_plP (bt (ck_sv hd lo hi k)) lo hi jx) i)]) ⟨hx, hb, hml, hown, hts⟩ (c_X1_middle l D h a0 a1 a2 c0 c1 c2 lo hi hd ow off go inv i hlt_i) (cwV 1 hts gX1_rank_X1_middle rfl rfl rfl (by decide +kernel) ⟨Nat.le_of_ble_eq_true rfl, Nat.le_of_ble_eq_true rfl⟩) hP hK (va_recv hK hP (ci := 1) (q0 := 0) rfl rfl) rfl hl.1 rfl (Nat.le_of_ble_eq_true rfl) dX1_rank_81 ⟨Nat.le_of_ble_eq_true rfl, Nat.le_of_ble_eq_true rfl⟩ ?_
                refine lv_aload_n hx hb dX1_rank_84 rfl (lv_at hl 0 rfl) ?_
                refine lv_iload_n hx hb dX1_rank_85 rfl (lv_at hl 1 rfl) ?_
                refine ck_cV (As := [.int (nI jx)]) (rest := [.long (ck_mid lo hi i), .int (ck_cn (ck_plP (bt (ck_sv hd lo hi k)) lo hi jx) i)]) ⟨hx, hb, hml, hown, hts⟩ (c_X1_middle l D h a0 a1 a2 c0 c1 c2 lo hi hd ow off go inv jx hjx) (cwV 1 hts gX1_rank_X1_middle rfl rfl rfl (by decide +kernel) ⟨Nat.le_of_ble_eq_true rfl, Nat.le_of_ble_eq_true rfl⟩) hP hK (va_recv hK hP (ci := 1) (q0 := 0) rfl rfl) rfl hl.1 rfl (Nat.le_of_ble_eq_true rfl) dX1_rank_86 ⟨Nat.le_of_ble_eq_true rfl, Nat.le_of_ble_eq_true rfl⟩ ?_
                refine W.lcmp hx hb dX1_rank_89 ?_
                refine lv_if_ne (tgt := 103) hx hb dX1_rank_90 (by decide) (fun c_10 => ?_) (fun c_10 => ?_)
                · rw [lg_cmp_eq] at c_10
                  refine lv_iconst (v := 0) hx hb dX1_rank_103 (by decide) ?_
                  refine lv_iadd hx hb dX1_rank_104 ?_
                  refine lv_istore (lv' := [(4, .int ((ck_cn (ck_plP (bt (ck_sv hd lo hi k)) lo hi jx) i) + 0)), (0, .ref h), (1, .int (nI jx)), (2, .int k), (3, .int (ck_sv hd lo hi k)), (5, .int (nI i))]) hx hb dX1_rank_105 hl (by decide) rfl (fun ls hl => ?_)
                  refine lv_iinc (v := (nI (i + 1))) (lv' := [(5, .int (nI (i + 1))), (4, .int ((ck_cn (ck_plP (bt (ck_sv hd lo hi k)) lo hi jx) i) + 0)), (0, .ref h), (1, .int (nI jx)), (2, .int k), (3, .int (ck_sv hd lo hi k))]) hx hb dX1_rank_107 hl (k := 5) rfl (nI_1 i) (by decide) rfl (fun ls hl => ?_)
                  refine lv_goto (tgt := 44) hx hb dX1_rank_110 (by decide) ?_
                  refine ih_i ls hlt_i (trivial) ?_
                  have hq : lv_has ls 6 [(0, .ref h), (1, .int (nI jx)), (2, .int k), (3, .int (ck_sv hd lo hi k)), (4, .int ((ck_cn (ck_plP (bt (ck_sv hd lo hi k)) lo hi jx) i) + 0)), (5, .int (nI (i + 1)))] := lv_sub hl [2, 3, 4, 5, 1, 0] rfl
                  have eq0 : ((ck_cn (ck_plP (bt (ck_sv hd lo hi k)) lo hi jx) i) + 0) = (ck_cn (ck_plP (bt (ck_sv hd lo hi k)) lo hi jx) (i + 1)) := by simp [ck_cn, ck_plP, c_8, c_9, c_10]
                  exact lv_eqq hq (by rw [← eq0])
                · rw [lg_cmp_eq] at c_10
                  refine lv_iload hx hb dX1_rank_93 (lv_at hl 5 rfl) ?_
                  refine lv_iload_n hx hb dX1_rank_95 rfl (lv_at hl 1 rfl) ?_
                  refine lv_icmp_ge (tgt := 103) hx hb dX1_rank_96 (by decide) (fun c_11 => ?_) (fun c_11 => ?_)
                  · refine lv_iconst (v := 0) hx hb dX1_rank_103 (by decide) ?_
                    refine lv_iadd hx hb dX1_rank_104 ?_
                    refine lv_istore (lv' := [(4, .int ((ck_cn (ck_plP (bt (ck_sv hd lo hi k)) lo hi jx) i) + 0)), (0, .ref h), (1, .int (nI jx)), (2, .int k), (3, .int (ck_sv hd lo hi k)), (5, .int (nI i))]) hx hb dX1_rank_105 hl (by decide) rfl (fun ls hl => ?_)
                    refine lv_iinc (v := (nI (i + 1))) (lv' := [(5, .int (nI (i + 1))), (4, .int ((ck_cn (ck_plP (bt (ck_sv hd lo hi k)) lo hi jx) i) + 0)), (0, .ref h), (1, .int (nI jx)), (2, .int k), (3, .int (ck_sv hd lo hi k))]) hx hb dX1_rank_107 hl (k := 5) rfl (nI_1 i) (by decide) rfl (fun ls hl => ?_)
                    refine lv_goto (tgt := 44) hx hb dX1_rank_110 (by decide) ?_
                    refine ih_i ls hlt_i (trivial) ?_
                    have hq : lv_has ls 6 [(0, .ref h), (1, .int (nI jx)), (2, .int k), (3, .int (ck_sv hd lo hi k)), (4, .int ((ck_cn (ck_plP (bt (ck_sv hd lo hi k)) lo hi jx) i) + 0)), (5, .int (nI (i + 1)))] := lv_sub hl [2, 3, 4, 5, 1, 0] rfl
                    have eq0 : ((ck_cn (ck_plP (bt (ck_sv hd lo hi k)) lo hi jx) i) + 0) = (ck_cn (ck_plP (bt (ck_sv hd lo hi k)) lo hi jx) (i + 1)) := by simp [ck_cn, ck_plP, c_8, c_9, c_10, c_11]
                    exact lv_eqq hq (by rw [← eq0])
                  · refine lv_iconst (v := 1) hx hb dX1_rank_99 (by decide) ?_
                    refine lv_goto (tgt := 104) hx hb dX1_rank_100 (by decide) ?_
                    refine lv_iadd hx hb dX1_rank_104 ?_
                    refine lv_istore (lv' := [(4, .int ((ck_cn (ck_plP (bt (ck_sv hd lo hi k)) lo hi jx) i) + 1)), (0, .ref h), (1, .int (nI jx)), (2, .int k), (3, .int (ck_sv hd lo hi k)), (5, .int (nI i))]) hx hb dX1_rank_105 hl (by decide) rfl (fun ls hl => ?_)
                    refine lv_iinc (v := (nI (i + 1))) (lv' := [(5, .int (nI (i + 1))), (4, .int ((ck_cn (ck_plP (bt (ck_sv hd lo hi k)) lo hi jx) i) + 1)), (0, .ref h), (1, .int (nI jx)), (2, .int k), (3, .int (ck_sv hd lo hi k))]) hx hb dX1_rank_107 hl (k := 5) rfl (nI_1 i) (by decide) rfl (fun ls hl => ?_)
                    refine lv_goto (tgt := 44) hx hb dX1_rank_110 (by decide) ?_
                    refine ih_i ls hlt_i (trivial) ?_
                    have hq : lv_has ls 6 [(0, .ref h), (1, .int (nI jx)), (2, .int k), (3, .int (ck_sv hd lo hi k)), (4, .int ((ck_cn (ck_plP (bt (ck_sv hd lo hi k)) lo hi jx) i) + 1)), (5, .int (nI (i + 1)))] := lv_sub hl [2, 3, 4, 5, 1, 0] rfl
                    have eq0 : ((ck_cn (ck_plP (bt (ck_sv hd lo hi k)) lo hi jx) i) + 1) = (ck_cn (ck_plP (bt (ck_sv hd lo hi k)) lo hi jx) (i + 1)) := by simp [ck_cn, ck_plP, c_8, c_9, c_10, c_11]
                    exact lv_eqq hq (by rw [← eq0])
        · have c_6 := ck_sh0 hjx c_6
          refine lv_iconst (v := (-1)) hx hb dX1_rank_36 (by decide) ?_
          have hres : (-1) = (ck_rk hd lo hi (nI jx) k) := by have hs : ck_sv hd lo hi k = ck_lf hd lo hi k 24 := (by simp [ck_sv, ck_ctI c_1 c_4]); rw [ck_rk, ck_ctI c_1 c_4, if_pos rfl, ck_inN _ hjx, ← hs]; simp [c_1, c_4, c_5, hcjx, c_6]
          exact W.iret (v := (-1)) hx hb hr (fun t ht _ => ⟨congrArg (fun z => Outcome.returned (some (Value.int z))) hres, ht⟩) (fun _ h => nomatch h) dX1_rank_37
    · refine lv_iconst (v := 0) hx hb dX1_rank_11 (by decide) ?_
      refine lv_goto (tgt := 20) hx hb dX1_rank_12 (by decide) ?_
      refine lv_istore_n (lv' := [(3, .int 0), (0, .ref h), (1, .int x), (2, .int k)]) hx hb dX1_rank_20 rfl hl (by decide) rfl (fun ls hl => ?_)
      refine lv_iload_n hx hb dX1_rank_21 rfl (lv_at hl 2 rfl) ?_
      refine ck_cS (As := [.int x]) (rest := []) ⟨hx, hb, hml, hown, hts⟩ (c_X1_isSource l x) (va_cwS 1 hts gX1_rank_X1_isSource rfl rfl rfl (by decide +kernel) ⟨Nat.le_of_ble_eq_true rfl, Nat.le_of_ble_eq_true rfl⟩) rfl hl.1 rfl (Nat.le_of_ble_eq_true rfl) dX1_rank_22 ⟨Nat.le_of_ble_eq_true rfl, Nat.le_of_ble_eq_true rfl⟩ ?_
      refine lv_if_eq (tgt := 36) hx hb dX1_rank_25 (by decide) (fun c_12 => ?_) (fun c_12 => ?_)
      · have c_12 := ck_bf c_12
        refine lv_iconst (v := (-1)) hx hb dX1_rank_36 (by decide) ?_
        have hres : (-1) = (ck_rk hd lo hi x k) := by simp [ck_rk, ck_ctB c_4]
        exact W.iret (v := (-1)) hx hb hr (fun t ht _ => ⟨congrArg (fun z => Outcome.returned (some (Value.int z))) hres, ht⟩) (fun _ h => nomatch h) dX1_rank_37
      · have c_12 := ck_bt c_12
        obtain ⟨jx, hjx, rfl⟩ := ck_srcE c_12
        have hcjx : (nI jx).toNatClampNeg = jx := nI_clamp (by omega)
        refine lv_iload_n hx hb dX1_rank_28 rfl (lv_at hl 0 rfl) ?_
        refine lv_iload_n hx hb dX1_rank_29 rfl (lv_at hl 2 rfl) ?_
        refine lv_ishr hx hb dX1_rank_30 ?_
        refine lv_iconst (v := 1) hx hb dX1_rank_31 (by decide) ?_
        refine lv_iand hx hb dX1_rank_32 ?_
        refine lv_if_ne (tgt := 38) hx hb dX1_rank_33 (by decide) (fun c_13 => ?_) (fun c_13 => ?_)
        · exact absurd (ck_sh0n hjx c_13) (by rw [b_0]; decide)
        · have c_13 := ck_sh0 hjx c_13
          refine lv_iconst (v := (-1)) hx hb dX1_rank_36 (by decide) ?_
          have hres : (-1) = (ck_rk hd lo hi (nI jx) k) := by simp [ck_rk, ck_ctB c_4]
          exact W.iret (v := (-1)) hx hb hr (fun t ht _ => ⟨congrArg (fun z => Outcome.returned (some (Value.int z))) hres, ht⟩) (fun _ h => nomatch h) dX1_rank_37
end
section
-- methods that write: their contracts' form, and what they do to the state
def ck_Cw (D : va_G) (w : va_W) (tys : List (ClassId × FieldType)) (sz : Nat) : State → Prop := fun U => U.heap.size = sz ∧ va_P D vwCl w U.heap ∧ va_K D vwCl tys U ∧ va_D (fun _ => True) w
def ck_Wr (v : Option Value) (D : va_G) (w : va_W) (A : Nat → Prop) : Array Value → State → Outcome → State → Prop := fun _ st o t => o = .returned v ∧ va_P D vwCl w t.heap ∧ va_D A w ∧ va_F A st t
def ck_ivk (x : Int32) (a b : Int64) : Bool := ck_src x && (!decide (a < ck_NFAR) && (!decide (b < a) && decide (b ≤ ck_FAR)))
def ck_exk (x : Int32) (sent told came : Int64) : Bool := ck_src x && (ck_tm sent && (ck_tm told && (ck_tm came && decide (sent ≤ came))))
def ck_uL (ok : Bool) (f : Nat → Int64) (x : Int32) (v : Int64) : Nat → Int64 := if ok then vp_updL f x.toNatClampNeg v else f
def ck_uH (ok : Bool) (hd x : Int32) : Int32 := if ok then hd ||| (1 <<< (x &&& 31)) else hd
def ck_dH (hd x : Int32) : Int32 := if ck_in hd x then ck_wo hd x else hd
def ck_exv (x : Int32) (sent told came : Int64) : Int64 := if ck_exk x sent told came then told + ck_half (came - sent) - came else ck_NO
def ck_tk (ow t : Int64) : Bool := !decide (t < ow) && decide (t ≤ ck_TIME)
def ck_tO (ow off go t : Int64) : Int64 := if ck_tk ow t then off + ck_max (-((t - ow) / 2000)) (ck_min ((t - ow) / 2000) (go - off)) else off
def ck_tW (ow t : Int64) : Int64 := if ck_tk ow t then t else ow
def ck_sk (hd : Int32) (lo hi : Nat → Int64) : Bool := decide (ck_ns hd < 2 * ck_gr (bt hd) lo hi 24)
def ck_sG (hd : Int32) (lo hi : Nat → Int64) (go : Int64) : Int64 := if ck_sk hd lo hi then ck_half (ck_rg hd lo hi 0 + ck_rg hd lo hi 1) else go
section CW
variable {p : Program} {l : Launch} {e : Env} {R : Room} {s : State} {m : MethodId} {args : Array Value} {below : List Frame} {meth : Method} {c : Code} {H : Heap} {locs : List Loc} {cells slots : Nat} {Q : State → Prop}
variable {Ts ws : List Cond} {cc bytes : ByteArray} {nL maxL index n pc : Nat} {own C : String} {y : MethodName} {ret : Option FieldType} {rm : Room} {b : Addr} {As rest st : List Value} {ls : Array Slot} {D : va_G} {w wc wr w1 : va_W} {tys : List (ClassId × FieldType)} {v : Option Value} {A0 : Nat → Prop} {H0 : Heap}
theorem ck_wV (S : CallFix p m c cc nL s args Ts own) (hM : Met l y ws rm (va_Pc (.ref b :: As) (ck_Cw D wc tys H.size)) (ck_Wr v D w1 (va_A wc H.size)) 0 0 (va_A wc H.size)) (cw : CallW R s args own C index y bytes maxL ret ws rm 0 0 n)
    (hP : va_P D vwCl w H) (hD : va_D A0 w) (hS : va_S A0 H0 H locs) (hA : ∀ q, H0.size ≤ q → A0 q) (hK : va_K D vwCl tys s) (isC isR : List Nat) (hC : isC.map (fun i => w[i]?) = wc.map some) (hPc : va_P D vwCl wc H) (hDc : va_D A0 wc) (hR : isR.map (fun i => w[i]?) = wr.map some) (hnd : va_nd isR = true) (hdis : ∀ i ∈ isR, i ∉ isC)
    (hrv : ∃ cellB : Cell, H[b]? = some cellB ∧ cellB.vm.isStatics = false ∧ s.vm.findClass C = some cellB.cls) (hn : As.length = n) (hsize : ls.size = nL) (hst : st = As.reverse ++ .ref b :: rest) (hW : (rest.map fun v => v.category).sum ≤ 8) (hdg : decode cc pc = .ok (.invokevirtual index, 3)) (hf : cells + 0 ≤ R.cells ∧ slots + 0 ≤ R.slots)
    (kk : ∀ (H : Heap) (locs : List Loc), va_P D vwCl (wr ++ w1) H → va_D A0 (wr ++ w1) → va_S A0 H0 H locs → W p l e R s m args below meth c H locs cells slots Q (F0 m (pc + 3) ls (v.toList ++ rest))) : W p l e R s m args below meth c H locs cells slots Q (F0 m pc ls st) := by
  intro T hT X
  have hF := va_free (wc := wc) hD hS hA isC hC
  obtain ⟨v', st₀, t, T', L, h0, X', hL, e1, ⟨hv, hP1, hD1, hz, hk⟩, go⟩ := W.runV (rest := rest) (g := F0 m pc ls st) S hM cw ⟨fun a U g mk q => by obtain ⟨q0, q1, qP, qK, qD⟩ := q; exact ⟨q0, q1, qP, va_K.moved (u := U) (U := U.calling g mk a) (Vm.Alike.refl U.vm) qK, qD⟩, hrv, fun U hU hWm => ⟨rfl, by rw [hU], by rw [hU]; exact hPc, va_K.moved hWm.alike hK, hDc.weaken (fun _ _ _ _ => trivial)⟩⟩ rfl hn hsize hst (lv_room hW) hdg hf T hT X
  cases hv
  rw [h0] at hz hk
  rw [← e1] at hP1 hz hk
  obtain ⟨hP2, hD2⟩ := va_join hP hD isC isR hC hR hnd hdis hk hF hP1 hD1
  have hS2 : va_S A0 H0 T'.heap (locs ++ L) := ⟨Nat.le_trans hS.1 hz, fun q h1 h2 => by rw [hk q (Nat.lt_of_lt_of_le h1 hS.1) (fun z => h2 (hF q z))]; exact hS.2.1 q h1 h2, fun q hq => by
      rcases List.mem_append.mp hq with h | h
      · exact hS.2.2 q h
      · exact hF _ (hL q h)⟩
  obtain ⟨t2, a1, b1⟩ := kk T'.heap (locs ++ L) hP2 hD2 hS2 T' rfl X'
  exact ⟨t2, go t2 a1, b1⟩
variable {cl : List vw_C} {a : Nat} {A : Nat → Prop}
theorem ck_last (hexec : p.tables.exec = Jvm.exec) (hb : c.code = cc) (hK : va_K D cl tys s) (hP : va_P D cl w H) (hD : va_D A w) (hS : va_S A H0 H locs) (q0 t0 : Nat) {cA : ClassId} {f : Nat → Int64} (ha : w[q0]? = some (a, .inl (cA, 24, .inr (.inl f)))) (ht : tys[t0]? = some (cA, .long)) {i : Nat} {x : Int64} (hi : i < 24) (hdg : decode cc pc = .ok (.lastore, 1))
    (kk : ∀ (H1 : Heap) (locs1 : List Loc), va_P D cl (w.set q0 (a, .inl (cA, 24, .inr (.inl (vp_updL f i x))))) H1 → va_D A (w.set q0 (a, .inl (cA, 24, .inr (.inl (vp_updL f i x))))) → va_S A H0 H1 locs1 → W p l e R s m args below meth c H1 locs1 cells slots Q (F0 m (pc + 1) ls rest)) : W p l e R s m args below meth c H locs cells slots Q (F0 m pc ls (.long x :: .int (nI i) :: .ref a :: rest)) :=
  va_last hexec hb hK hP hD hS q0 t0 ha ht (vp_in_nI hi (by decide)) hdg (by rw [nI_clamp (by omega)]; exact kk)
theorem ck_zast (hexec : p.tables.exec = Jvm.exec) (hb : c.code = cc) (hK : va_K D cl tys s) (hP : va_P D cl w H) (hD : va_D A w) (hS : va_S A H0 H locs) (q0 t0 : Nat) {cA : ClassId} {f : Nat → Int32} (ha : w[q0]? = some (a, .inl (cA, 24, .inl f))) (ht : tys[t0]? = some (cA, .boolean)) {i : Nat} {x : Int32} (hi : i < 24) (hx1 : vp_nar .boolean x = x) (hdg : decode cc pc = .ok (.bastore, 1))
    (kk : ∀ (H1 : Heap) (locs1 : List Loc), va_P D cl (w.set q0 (a, .inl (cA, 24, .inl (upd f i x)))) H1 → va_D A (w.set q0 (a, .inl (cA, 24, .inl (upd f i x)))) → va_S A H0 H1 locs1 → W p l e R s m args below meth c H1 locs1 cells slots Q (F0 m (pc + 1) ls rest)) : W p l e R s m args below meth c H locs cells slots Q (F0 m pc ls (.int x :: .int (nI i) :: .ref a :: rest)) :=
  va_zast hexec hb hK hP hD hS q0 t0 ha ht (vp_in_nI hi (by decide)) hdg (by rw [nI_clamp (by omega), hx1]; exact kk)
end CW
theorem ck_bz_on (hd : Int32) {j : Nat} (hj : j < 24) : upd (ck_bz (bt hd)) j 1 = ck_bz (bt (hd ||| ((1 : Int32) <<< (nI j &&& 31)))) := by
  funext k
  unfold upd ck_bz
  rw [ck_bt_or hd hj]
  by_cases e : k = j
  · rw [if_pos e, decide_eq_true e, Bool.or_true]; rfl
  · rw [if_neg e, decide_eq_false e, Bool.or_false]
theorem ck_bz_off (hd : Int32) {j : Nat} (hj : j < 24) : upd (ck_bz (bt hd)) j 0 = ck_bz (bt (ck_wo hd (nI j))) := by
  funext k
  unfold upd ck_bz
  rw [ck_bt_wo hd hj]
  by_cases e : k = j
  · rw [if_pos e, decide_eq_true e, Bool.not_true, Bool.and_false]; rfl
  · rw [if_neg e, decide_eq_false e, Bool.not_false, Bool.and_true]
def ck_exm (x : Int32) (sent told came : Int64) : Bool := ck_src x && (!decide (sent < 0) && (!decide (came < sent) && (!decide (ck_TIME < came) && (!decide (told < 0) && decide (told ≤ ck_TIME)))))
theorem ck_exkE (x : Int32) (sent told came : Int64) : ck_exk x sent told came = ck_exm x sent told came := by
  unfold ck_exk ck_exm ck_tm
  rw [Bool.eq_iff_iff]
  simp only [Bool.and_eq_true, Bool.not_eq_true', decide_eq_false_iff_not, decide_eq_true_eq, Int64.lt_iff_toInt_lt, Int64.le_iff_toInt_le, ck_i0]
  constructor
  · rintro ⟨h, ⟨a1, a2⟩, ⟨a3, a4⟩, ⟨a5, a6⟩, a7⟩
    exact ⟨h, a1, by omega, a6, a3, by omega⟩
  · rintro ⟨h, a1, a2, a3, a4, a5⟩
    exact ⟨h, ⟨a1, by omega⟩, ⟨a4, by omega⟩, ⟨by omega, a3⟩, by omega⟩
end
section
set_option maxHeartbeats 4000000 in
set_option maxRecDepth 100000 in
theorem c_X0_hold (l : Launch) (D : va_G) (h a1 a2 : Nat) (c1 c2 : ClassId) (lo hi : Nat → Int64) (hd : Int32) (ow off go : Int64) (sz : Nat) (a : Int64) (b : Int64) (j : Nat) (hj : j < 24) : Met l yX0_hold wsX0_hold { frames := 0, cells := 0, slots := 0, locals := 0 } (va_Pc [.ref h, .int (nI j), .long a, .long b] (ck_Cw D [(h, .inr (0, [.ref a1, .ref a2, .int hd, .long ow, .long off, .long go])), (a1, .inl (c1, 24, .inr (.inl lo))), (a2, .inl (c2, 24, .inr (.inl hi)))] (xT c1 c2) sz)) (ck_Wr none D [(h, .inr (0, [.ref a1, .ref a2, .int (hd ||| (1 <<< ((nI j) &&& 31))), .long ow, .long off, .long go])), (a1, .inl (c1, 24, .inr (.inl (vp_updL lo j a)))), (a2, .inl (c2, 24, .inr (.inl (vp_updL hi j b))))] (va_A [(h, .inr (0, [.ref a1, .ref a2, .int hd, .long ow, .long off, .long go])), (a1, .inl (c1, 24, .inr (.inl lo))), (a2, .inl (c2, 24, .inr (.inl hi)))] sz)) 0 0 (va_A [(h, .inr (0, [.ref a1, .ref a2, .int hd, .long ow, .long off, .long go])), (a1, .inl (c1, 24, .inr (.inl lo))), (a2, .inl (c2, 24, .inr (.inl hi)))] sz) := by
  refine Met.ofW (cc := cX0_hold) (maxL := 6) (ret := none) (by decide) rfl ?_
  intro p e s m args below meth c s₁ B hml hv
  obtain ⟨rfl, hsz, hP, hK, hD0⟩ := hv
  have hx := B.exec
  have hb := B.bytes
  have hr := B.returns
  have hts := atoms_spec (ws := wsX0_hold) B.pre
  have hown : s.vm.findClass RX0 = some m.cls := findClass_of_methodNamed B.named
  have hlocks := B.notSynchronized
  have hin : ∀ w ∈ wsX00, w ∈ wsX0_hold := fun _ h => List.mem_cons_of_mem _ (List.mem_append_right _ h)
  subst hsz
  have hD := hD0.self (sz := s.heap.size)
  generalize hAe : va_A [(h, .inr (0, [.ref a1, .ref a2, .int hd, .long ow, .long off, .long go])), (a1, .inl (c1, 24, .inr (.inl lo))), (a2, .inl (c2, 24, .inr (.inl hi)))] s.heap.size = A at hD ⊢
  have hA : ∀ q : Nat, s.heap.size ≤ q → A q := fun q h => by rw [← hAe]; exact Or.inr h
  have hS : va_S A s.heap s.heap [] := va_S.rf
  have hl := lv_entry ([.ref h, .int (nI j), .long a, .long b]) (n := 6) (Nat.le_of_ble_eq_true rfl)
  rw [lg_entry_eq]
  generalize (lg_sl ([.ref h, .int (nI j), .long a, .long b]) ++ List.replicate (6 - (lg_sl ([.ref h, .int (nI j), .long a, .long b])).length) Slot.unset).toArray = ls at hl ⊢
  have hl : lv_has ls 6 [(0, .ref h), (1, .int (nI j)), (2, .long a), (4, .long b)] := hl
  refine lv_aload_n hx hb dX0_hold_0 rfl (lv_at hl 0 rfl) ?_
  refine va_get (D := D) (ci := 0) (v := .ref a1) (C := RX0) (T := TX0) (N := 6) hx hb hts hin hown hK hP 0 rfl rfl 0 (by decide) (hts (.fieldLink RX0 9 "ClockDesk" "lows" "[J") (by decide +kernel)) (fun _ h9 => h9) rfl dX0_hold_1 ?_
  refine lv_iload_n hx hb dX0_hold_4 rfl (lv_at hl 1 rfl) ?_
  refine lv_lload_n hx hb dX0_hold_5 rfl (lv_at hl 2 rfl) ?_
  refine ck_last hx hb hK hP hD hS 1 0 rfl rfl (i := j) (x := a) hj dX0_hold_6 (fun H locs hP hD hS => ?_)
  have hP : va_P D vwCl [(h, .inr (0, [.ref a1, .ref a2, .int hd, .long ow, .long off, .long go])), (a1, .inl (c1, 24, .inr (.inl (vp_updL lo j a)))), (a2, .inl (c2, 24, .inr (.inl hi)))] H := hP
  have hD : va_D A [(h, .inr (0, [.ref a1, .ref a2, .int hd, .long ow, .long off, .long go])), (a1, .inl (c1, 24, .inr (.inl (vp_updL lo j a)))), (a2, .inl (c2, 24, .inr (.inl hi)))] := hD
  refine lv_aload_n hx hb dX0_hold_7 rfl (lv_at hl 0 rfl) ?_
  refine va_get (D := D) (ci := 0) (v := .ref a2) (C := RX0) (T := TX0) (N := 6) hx hb hts hin hown hK hP 0 rfl rfl 1 (by decide) (hts (.fieldLink RX0 13 "ClockDesk" "highs" "[J") (by decide +kernel)) (fun _ h9 => h9) rfl dX0_hold_8 ?_
  refine lv_iload_n hx hb dX0_hold_11 rfl (lv_at hl 1 rfl) ?_
  refine lv_lload hx hb dX0_hold_12 (lv_at hl 3 rfl) ?_
  refine ck_last hx hb hK hP hD hS 2 1 rfl rfl (i := j) (x := b) hj dX0_hold_14 (fun H locs hP hD hS => ?_)
  have hP : va_P D vwCl [(h, .inr (0, [.ref a1, .ref a2, .int hd, .long ow, .long off, .long go])), (a1, .inl (c1, 24, .inr (.inl (vp_updL lo j a)))), (a2, .inl (c2, 24, .inr (.inl (vp_updL hi j b))))] H := hP
  have hD : va_D A [(h, .inr (0, [.ref a1, .ref a2, .int hd, .long ow, .long off, .long go])), (a1, .inl (c1, 24, .inr (.inl (vp_updL lo j a)))), (a2, .inl (c2, 24, .inr (.inl (vp_updL hi j b))))] := hD
  refine lv_aload_n hx hb dX0_hold_15 rfl (lv_at hl 0 rfl) ?_
  refine lv_dup hx hb dX0_hold_16 rfl ?_
  refine va_get (D := D) (ci := 0) (v := .int hd) (C := RX0) (T := TX0) (N := 6) hx hb hts hin hown hK hP 0 rfl rfl 2 (by decide) (hts (.fieldLink RX0 16 "ClockDesk" "held" "I") (by decide +kernel)) (fun _ h9 => h9) rfl dX0_hold_17 ?_
  refine lv_iconst (v := 1) hx hb dX0_hold_20 (by decide) ?_
  refine lv_iload_n hx hb dX0_hold_21 rfl (lv_at hl 1 rfl) ?_
  refine lv_ishl hx hb dX0_hold_22 ?_
  refine lv_ior hx hb dX0_hold_23 ?_
  refine va_put (D := D) (ci := 0) (v := .int (hd ||| (1 <<< ((nI j) &&& 31)))) (ty := .int) (C := RX0) (T := TX0) (N := 6) hx hb hts hin tyX0 tyX0_ok nmX0 hown hK hP hD hS 0 rfl rfl 2 (by decide) (hts (.fieldLink RX0 16 "ClockDesk" "held" "I") (by decide +kernel)) (fun _ h9 => h9) rfl (by decide +kernel) rfl rfl (Nat.le_of_ble_eq_true rfl) dX0_hold_24 (fun H locs hP hD hS => ?_)
  have hP : va_P D vwCl [(h, .inr (0, [.ref a1, .ref a2, .int (hd ||| (1 <<< ((nI j) &&& 31))), .long ow, .long off, .long go])), (a1, .inl (c1, 24, .inr (.inl (vp_updL lo j a)))), (a2, .inl (c2, 24, .inr (.inl (vp_updL hi j b))))] H := hP
  have hD : va_D A [(h, .inr (0, [.ref a1, .ref a2, .int (hd ||| (1 <<< ((nI j) &&& 31))), .long ow, .long off, .long go])), (a1, .inl (c1, 24, .inr (.inl (vp_updL lo j a)))), (a2, .inl (c2, 24, .inr (.inl (vp_updL hi j b))))] := hD
  have hP9 : va_P D vwCl [(h, .inr (0, [.ref a1, .ref a2, .int (hd ||| (1 <<< ((nI j) &&& 31))), .long ow, .long off, .long go])), (a1, .inl (c1, 24, .inr (.inl (vp_updL lo j a)))), (a2, .inl (c2, 24, .inr (.inl (vp_updL hi j b))))] H := by exact hP
  have hD9 : va_D A [(h, .inr (0, [.ref a1, .ref a2, .int (hd ||| (1 <<< ((nI j) &&& 31))), .long ow, .long off, .long go])), (a1, .inl (c1, 24, .inr (.inl (vp_updL lo j a)))), (a2, .inl (c2, 24, .inr (.inl (vp_updL hi j b))))] := by exact hD
  exact W.vret hx hb hr (fun t ht _ => ⟨rfl, by rw [ht]; exact hP9, hD9, hS.F ht⟩) hS.2.2 dX0_hold_27

set_option maxHeartbeats 4000000 in
set_option maxRecDepth 100000 in
theorem c_X0_interval (l : Launch) (D : va_G) (h a1 a2 : Nat) (c1 c2 : ClassId) (lo hi : Nat → Int64) (hd : Int32) (ow off go : Int64) (sz : Nat) (x : Int32) (a : Int64) (b : Int64)  : Met l yX0_interval wsX0_interval { frames := 1, cells := 0, slots := 0, locals := 25 } (va_Pc [.ref h, .int x, .long a, .long b] (ck_Cw D [(h, .inr (0, [.ref a1, .ref a2, .int hd, .long ow, .long off, .long go])), (a1, .inl (c1, 24, .inr (.inl lo))), (a2, .inl (c2, 24, .inr (.inl hi)))] (xT c1 c2) sz)) (ck_Wr (some (.int (ck_b (ck_ivk x a b)))) D [(h, .inr (0, [.ref a1, .ref a2, .int (ck_uH (ck_ivk x a b) hd x), .long ow, .long off, .long go])), (a1, .inl (c1, 24, .inr (.inl (ck_uL (ck_ivk x a b) lo x a)))), (a2, .inl (c2, 24, .inr (.inl (ck_uL (ck_ivk x a b) hi x b))))] (va_A [(h, .inr (0, [.ref a1, .ref a2, .int hd, .long ow, .long off, .long go])), (a1, .inl (c1, 24, .inr (.inl lo))), (a2, .inl (c2, 24, .inr (.inl hi)))] sz)) 0 0 (va_A [(h, .inr (0, [.ref a1, .ref a2, .int hd, .long ow, .long off, .long go])), (a1, .inl (c1, 24, .inr (.inl lo))), (a2, .inl (c2, 24, .inr (.inl hi)))] sz) := by
  refine Met.ofW (cc := cX0_interval) (maxL := 6) (ret := (some .boolean)) (by decide) rfl ?_
  intro p e s m args below meth c s₁ B hml hv
  obtain ⟨rfl, hsz, hP, hK, hD0⟩ := hv
  have hx := B.exec
  have hb := B.bytes
  have hr := B.returns
  have hts := atoms_spec (ws := wsX0_interval) B.pre
  have hown : s.vm.findClass RX0 = some m.cls := findClass_of_methodNamed B.named
  have hlocks := B.notSynchronized
  have hin : ∀ w ∈ wsX00, w ∈ wsX0_interval := fun _ h => List.mem_cons_of_mem _ (List.mem_append_right _ h)
  subst hsz
  have hD := hD0.self (sz := s.heap.size)
  generalize hAe : va_A [(h, .inr (0, [.ref a1, .ref a2, .int hd, .long ow, .long off, .long go])), (a1, .inl (c1, 24, .inr (.inl lo))), (a2, .inl (c2, 24, .inr (.inl hi)))] s.heap.size = A at hD ⊢
  have hA : ∀ q : Nat, s.heap.size ≤ q → A q := fun q h => by rw [← hAe]; exact Or.inr h
  have hS : va_S A s.heap s.heap [] := va_S.rf
  have hl := lv_entry ([.ref h, .int x, .long a, .long b]) (n := 6) (Nat.le_of_ble_eq_true rfl)
  rw [lg_entry_eq]
  generalize (lg_sl ([.ref h, .int x, .long a, .long b]) ++ List.replicate (6 - (lg_sl ([.ref h, .int x, .long a, .long b])).length) Slot.unset).toArray = ls at hl ⊢
  have hl : lv_has ls 6 [(0, .ref h), (1, .int x), (2, .long a), (4, .long b)] := hl
  refine lv_iload_n hx hb dX0_interval_0 rfl (lv_at hl 1 rfl) ?_
  refine ck_cS (As := [.int x]) (rest := []) ⟨hx, hb, hml, hown, hts⟩ (c_X0_isSource l x) (va_cwS 1 hts gX0_interval_X0_isSource rfl rfl rfl (by decide +kernel) ⟨Nat.le_of_ble_eq_true rfl, Nat.le_of_ble_eq_true rfl⟩) rfl hl.1 rfl (Nat.le_of_ble_eq_true rfl) dX0_interval_1 ⟨Nat.le_of_ble_eq_true rfl, Nat.le_of_ble_eq_true rfl⟩ ?_
  refine lv_if_eq (tgt := 31) hx hb dX0_interval_4 (by decide) (fun c_1 => ?_) (fun c_1 => ?_)
  · have c_1 := ck_bf c_1
    refine lv_iconst (v := 0) hx hb dX0_interval_31 (by decide) ?_
    have hw_lo : lo = (ck_uL (ck_ivk x a b) lo x a) := by simp [ck_uL, ck_uH, ck_ivk, c_1]
    have hw_hi : hi = (ck_uL (ck_ivk x a b) hi x b) := by simp [ck_uL, ck_uH, ck_ivk, c_1]
    have hw_hd : hd = (ck_uH (ck_ivk x a b) hd x) := by simp [ck_uL, ck_uH, ck_ivk, c_1]
    have hP9 : va_P D vwCl [(h, .inr (0, [.ref a1, .ref a2, .int (ck_uH (ck_ivk x a b) hd x), .long ow, .long off, .long go])), (a1, .inl (c1, 24, .inr (.inl (ck_uL (ck_ivk x a b) lo x a)))), (a2, .inl (c2, 24, .inr (.inl (ck_uL (ck_ivk x a b) hi x b))))] s.heap := by rw [← hw_lo, ← hw_hi, ← hw_hd]; exact hP
    have hD9 : va_D A [(h, .inr (0, [.ref a1, .ref a2, .int (ck_uH (ck_ivk x a b) hd x), .long ow, .long off, .long go])), (a1, .inl (c1, 24, .inr (.inl (ck_uL (ck_ivk x a b) lo x a)))), (a2, .inl (c2, 24, .inr (.inl (ck_uL (ck_ivk x a b) hi x b))))] := by rw [← hw_lo, ← hw_hi, ← hw_hd]; exact hD
    have hres : 0 = (ck_b (ck_ivk x a b)) := by simp [ck_ivk, ck_b, c_1]
    exact W.zret (ty := .boolean) (v := 0) hx hb hr rfl (fun t ht _ => ⟨congrArg (fun z => Outcome.returned (some (Value.int z))) hres, by rw [ht]; exact hP9, hD9, hS.F ht⟩) hS.2.2 dX0_interval_32
  · have c_1 := ck_bt c_1
    obtain ⟨jx, hjx, rfl⟩ := ck_srcE c_1
    have hcjx : (nI jx).toNatClampNeg = jx := nI_clamp (by omega)
    refine lv_lload_n hx hb dX0_interval_7 rfl (lv_at hl 2 rfl) ?_
    refine lv_ldc2 (v := ck_NFAR) hx hb hown (hts (.constantLong RX0 34 ck_NFAR) (by decide +kernel)) dX0_interval_8 ?_
    refine W.lcmp hx hb dX0_interval_11 ?_
    refine lv_if_lt (tgt := 31) hx hb dX0_interval_12 (by decide) (fun c_2 => ?_) (fun c_2 => ?_)
    · rw [lg_cmp_lt] at c_2
      refine lv_iconst (v := 0) hx hb dX0_interval_31 (by decide) ?_
      have hw_lo : lo = (ck_uL (ck_ivk (nI jx) a b) lo (nI jx) a) := by simp [ck_uL, ck_uH, ck_ivk, c_1, hcjx, c_2]
      have hw_hi : hi = (ck_uL (ck_ivk (nI jx) a b) hi (nI jx) b) := by simp [ck_uL, ck_uH, ck_ivk, c_1, hcjx, c_2]
      have hw_hd : hd = (ck_uH (ck_ivk (nI jx) a b) hd (nI jx)) := by simp [ck_uL, ck_uH, ck_ivk, c_1, hcjx, c_2]
      have hP9 : va_P D vwCl [(h, .inr (0, [.ref a1, .ref a2, .int (ck_uH (ck_ivk (nI jx) a b) hd (nI jx)), .long ow, .long off, .long go])), (a1, .inl (c1, 24, .inr (.inl (ck_uL (ck_ivk (nI jx) a b) lo (nI jx) a)))), (a2, .inl (c2, 24, .inr (.inl (ck_uL (ck_ivk (nI jx) a b) hi (nI jx) b))))] s.heap := by rw [← hw_lo, ← hw_hi, ← hw_hd]; exact hP
      have hD9 : va_D A [(h, .inr (0, [.ref a1, .ref a2, .int (ck_uH (ck_ivk (nI jx) a b) hd (nI jx)), .long ow, .long off, .long go])), (a1, .inl (c1, 24, .inr (.inl (ck_uL (ck_ivk (nI jx) a b) lo (nI jx) a)))), (a2, .inl (c2, 24, .inr (.inl (ck_uL (ck_ivk (nI jx) a b) hi (nI jx) b))))] := by rw [← hw_lo, ← hw_hi, ← hw_hd]; exact hD
      have hres : 0 = (ck_b (ck_ivk (nI jx) a b)) := by simp [ck_ivk, ck_b, c_1, hcjx, c_2]
      exact W.zret (ty := .boolean) (v := 0) hx hb hr rfl (fun t ht _ => ⟨congrArg (fun z => Outcome.returned (some (Value.int z))) hres, by rw [ht]; exact hP9, hD9, hS.F ht⟩) hS.2.2 dX0_interval_32
    · rw [lg_cmp_lt] at c_2
      refine lv_lload_n hx hb dX0_interval_15 rfl (lv_at hl 2 rfl) ?_
      refine lv_lload hx hb dX0_interval_16 (lv_at hl 3 rfl) ?_
      refine W.lcmp hx hb dX0_interval_18 ?_
      refine lv_if_gt (tgt := 31) hx hb dX0_interval_19 (by decide) (fun c_3 => ?_) (fun c_3 => ?_)
      · rw [lg_cmp_gt] at c_3
        refine lv_iconst (v := 0) hx hb dX0_interval_31 (by decide) ?_
        have hw_lo : lo = (ck_uL (ck_ivk (nI jx) a b) lo (nI jx) a) := by simp [ck_uL, ck_uH, ck_ivk, c_1, hcjx, c_2, c_3]
        have hw_hi : hi = (ck_uL (ck_ivk (nI jx) a b) hi (nI jx) b) := by simp [ck_uL, ck_uH, ck_ivk, c_1, hcjx, c_2, c_3]
        have hw_hd : hd = (ck_uH (ck_ivk (nI jx) a b) hd (nI jx)) := by simp [ck_uL, ck_uH, ck_ivk, c_1, hcjx, c_2, c_3]
        have hP9 : va_P D vwCl [(h, .inr (0, [.ref a1, .ref a2, .int (ck_uH (ck_ivk (nI jx) a b) hd (nI jx)), .long ow, .long off, .long go])), (a1, .inl (c1, 24, .inr (.inl (ck_uL (ck_ivk (nI jx) a b) lo (nI jx) a)))), (a2, .inl (c2, 24, .inr (.inl (ck_uL (ck_ivk (nI jx) a b) hi (nI jx) b))))] s.heap := by rw [← hw_lo, ← hw_hi, ← hw_hd]; exact hP
        have hD9 : va_D A [(h, .inr (0, [.ref a1, .ref a2, .int (ck_uH (ck_ivk (nI jx) a b) hd (nI jx)), .long ow, .long off, .long go])), (a1, .inl (c1, 24, .inr (.inl (ck_uL (ck_ivk (nI jx) a b) lo (nI jx) a)))), (a2, .inl (c2, 24, .inr (.inl (ck_uL (ck_ivk (nI jx) a b) hi (nI jx) b))))] := by rw [← hw_lo, ← hw_hi, ← hw_hd]; exact hD
        have hres : 0 = (ck_b (ck_ivk (nI jx) a b)) := by simp [ck_ivk, ck_b, c_1, hcjx, c_2, c_3]
        exact W.zret (ty := .boolean) (v := 0) hx hb hr rfl (fun t ht _ => ⟨congrArg (fun z => Outcome.returned (some (Value.int z))) hres, by rw [ht]; exact hP9, hD9, hS.F ht⟩) hS.2.2 dX0_interval_32
      · rw [lg_cmp_gt] at c_3
        refine lv_lload hx hb dX0_interval_22 (lv_at hl 3 rfl) ?_
        refine lv_ldc2 (v := ck_FAR) hx hb hown (hts (.constantLong RX0 36 ck_FAR) (by decide +kernel)) dX0_interval_24 ?_
        refine W.lcmp hx hb dX0_interval_27 ?_
        refine lv_if_le (tgt := 33) hx hb dX0_interval_28 (by decide) (fun c_4 => ?_) (fun c_4 => ?_)
        · rw [lg_cmp_le] at c_4
          refine lv_aload_n hx hb dX0_interval_33 rfl (lv_at hl 0 rfl) ?_
          refine lv_iload_n hx hb dX0_interval_34 rfl (lv_at hl 1 rfl) ?_
          refine lv_lload_n hx hb dX0_interval_35 rfl (lv_at hl 2 rfl) ?_
          refine lv_lload hx hb dX0_interval_36 (lv_at hl 3 rfl) ?_
          refine ck_wV (As := [.int (nI jx), .long a, .long b]) (rest := []) (wc := [(h, .inr (0, [.ref a1, .ref a2, .int hd, .long ow, .long off, .long go])), (a1, .inl (c1, 24, .inr (.inl lo))), (a2, .inl (c2, 24, .inr (.inl hi)))]) (wr := []) (w1 := [(h, .inr (0, [.ref a1, .ref a2, .int (hd ||| (1 <<< ((nI jx) &&& 31))), .long ow, .long off, .long go])), (a1, .inl (c1, 24, .inr (.inl (vp_updL lo jx a)))), (a2, .inl (c2, 24, .inr (.inl (vp_updL hi jx b))))]) (v := none) ⟨hx, hb, hml, hown, hts⟩ (c_X0_hold l D h a1 a2 c1 c2 lo hi hd ow off go _ a b jx hjx) (cwV 3 hts gX0_interval_X0_hold rfl rfl rfl (by decide +kernel) ⟨Nat.le_of_ble_eq_true rfl, Nat.le_of_ble_eq_true rfl⟩) hP hD hS hA hK [0, 1, 2] [] rfl hP hD rfl rfl (by decide) (va_recv hK hP (ci := 0) (q0 := 0) rfl rfl) rfl hl.1 rfl (Nat.le_of_ble_eq_true rfl) dX0_interval_38 ⟨Nat.le_of_ble_eq_true rfl, Nat.le_of_ble_eq_true rfl⟩ (fun H locs hP hD hS => ?_)
          have hP : va_P D vwCl [(h, .inr (0, [.ref a1, .ref a2, .int (hd ||| (1 <<< ((nI jx) &&& 31))), .long ow, .long off, .long go])), (a1, .inl (c1, 24, .inr (.inl (vp_updL lo jx a)))), (a2, .inl (c2, 24, .inr (.inl (vp_updL hi jx b))))] H := hP
          have hD : va_D A [(h, .inr (0, [.ref a1, .ref a2, .int (hd ||| (1 <<< ((nI jx) &&& 31))), .long ow, .long off, .long go])), (a1, .inl (c1, 24, .inr (.inl (vp_updL lo jx a)))), (a2, .inl (c2, 24, .inr (.inl (vp_updL hi jx b))))] := hD
          refine lv_iconst (v := 1) hx hb dX0_interval_41 (by decide) ?_
          have hw_lo : (vp_updL lo jx a) = (ck_uL (ck_ivk (nI jx) a b) lo (nI jx) a) := by simp [ck_uL, ck_uH, ck_ivk, c_1, hcjx, c_2, c_3, c_4]
          have hw_hi : (vp_updL hi jx b) = (ck_uL (ck_ivk (nI jx) a b) hi (nI jx) b) := by simp [ck_uL, ck_uH, ck_ivk, c_1, hcjx, c_2, c_3, c_4]
          have hw_hd : (hd ||| (1 <<< ((nI jx) &&& 31))) = (ck_uH (ck_ivk (nI jx) a b) hd (nI jx)) := by simp [ck_uL, ck_uH, ck_ivk, c_1, hcjx, c_2, c_3, c_4]
          have hP9 : va_P D vwCl [(h, .inr (0, [.ref a1, .ref a2, .int (ck_uH (ck_ivk (nI jx) a b) hd (nI jx)), .long ow, .long off, .long go])), (a1, .inl (c1, 24, .inr (.inl (ck_uL (ck_ivk (nI jx) a b) lo (nI jx) a)))), (a2, .inl (c2, 24, .inr (.inl (ck_uL (ck_ivk (nI jx) a b) hi (nI jx) b))))] H := by rw [← hw_lo, ← hw_hi, ← hw_hd]; exact hP
          have hD9 : va_D A [(h, .inr (0, [.ref a1, .ref a2, .int (ck_uH (ck_ivk (nI jx) a b) hd (nI jx)), .long ow, .long off, .long go])), (a1, .inl (c1, 24, .inr (.inl (ck_uL (ck_ivk (nI jx) a b) lo (nI jx) a)))), (a2, .inl (c2, 24, .inr (.inl (ck_uL (ck_ivk (nI jx) a b) hi (nI jx) b))))] := by rw [← hw_lo, ← hw_hi, ← hw_hd]; exact hD
          have hres : 1 = (ck_b (ck_ivk (nI jx) a b)) := by simp [ck_ivk, ck_b, c_1, hcjx, c_2, c_3, c_4]
          exact W.zret (ty := .boolean) (v := 1) hx hb hr rfl (fun t ht _ => ⟨congrArg (fun z => Outcome.returned (some (Value.int z))) hres, by rw [ht]; exact hP9, hD9, hS.F ht⟩) hS.2.2 dX0_interval_42
        · rw [lg_cmp_le] at c_4
          refine lv_iconst (v := 0) hx hb dX0_interval_31 (by decide) ?_
          have hw_lo : lo = (ck_uL (ck_ivk (nI jx) a b) lo (nI jx) a) := by simp [ck_uL, ck_uH, ck_ivk, c_1, hcjx, c_2, c_3, c_4]
          have hw_hi : hi = (ck_uL (ck_ivk (nI jx) a b) hi (nI jx) b) := by simp [ck_uL, ck_uH, ck_ivk, c_1, hcjx, c_2, c_3, c_4]
          have hw_hd : hd = (ck_uH (ck_ivk (nI jx) a b) hd (nI jx)) := by simp [ck_uL, ck_uH, ck_ivk, c_1, hcjx, c_2, c_3, c_4]
          have hP9 : va_P D vwCl [(h, .inr (0, [.ref a1, .ref a2, .int (ck_uH (ck_ivk (nI jx) a b) hd (nI jx)), .long ow, .long off, .long go])), (a1, .inl (c1, 24, .inr (.inl (ck_uL (ck_ivk (nI jx) a b) lo (nI jx) a)))), (a2, .inl (c2, 24, .inr (.inl (ck_uL (ck_ivk (nI jx) a b) hi (nI jx) b))))] s.heap := by rw [← hw_lo, ← hw_hi, ← hw_hd]; exact hP
          have hD9 : va_D A [(h, .inr (0, [.ref a1, .ref a2, .int (ck_uH (ck_ivk (nI jx) a b) hd (nI jx)), .long ow, .long off, .long go])), (a1, .inl (c1, 24, .inr (.inl (ck_uL (ck_ivk (nI jx) a b) lo (nI jx) a)))), (a2, .inl (c2, 24, .inr (.inl (ck_uL (ck_ivk (nI jx) a b) hi (nI jx) b))))] := by rw [← hw_lo, ← hw_hi, ← hw_hd]; exact hD
          have hres : 0 = (ck_b (ck_ivk (nI jx) a b)) := by simp [ck_ivk, ck_b, c_1, hcjx, c_2, c_3, c_4]
          exact W.zret (ty := .boolean) (v := 0) hx hb hr rfl (fun t ht _ => ⟨congrArg (fun z => Outcome.returned (some (Value.int z))) hres, by rw [ht]; exact hP9, hD9, hS.F ht⟩) hS.2.2 dX0_interval_32

set_option maxHeartbeats 4000000 in
set_option maxRecDepth 100000 in
theorem c_X0_exchange (l : Launch) (D : va_G) (h a1 a2 : Nat) (c1 c2 : ClassId) (lo hi : Nat → Int64) (hd : Int32) (ow off go : Int64) (sz : Nat) (x : Int32) (sn : Int64) (td : Int64) (cm : Int64)  : Met l yX0_exchange wsX0_exchange { frames := 2, cells := 0, slots := 0, locals := 46 } (va_Pc [.ref h, .int x, .long sn, .long td, .long cm] (ck_Cw D [(h, .inr (0, [.ref a1, .ref a2, .int hd, .long ow, .long off, .long go])), (a1, .inl (c1, 24, .inr (.inl lo))), (a2, .inl (c2, 24, .inr (.inl hi)))] (xT c1 c2) sz)) (ck_Wr (some (.long (ck_exv x sn td cm))) D [(h, .inr (0, [.ref a1, .ref a2, .int (ck_uH (ck_exk x sn td cm) hd x), .long ow, .long off, .long go])), (a1, .inl (c1, 24, .inr (.inl (ck_uL (ck_exk x sn td cm) lo x (td - cm))))), (a2, .inl (c2, 24, .inr (.inl (ck_uL (ck_exk x sn td cm) hi x (td - sn)))))] (va_A [(h, .inr (0, [.ref a1, .ref a2, .int hd, .long ow, .long off, .long go])), (a1, .inl (c1, 24, .inr (.inl lo))), (a2, .inl (c2, 24, .inr (.inl hi)))] sz)) 0 0 (va_A [(h, .inr (0, [.ref a1, .ref a2, .int hd, .long ow, .long off, .long go])), (a1, .inl (c1, 24, .inr (.inl lo))), (a2, .inl (c2, 24, .inr (.inl hi)))] sz) := by
  refine Met.ofW (cc := cX0_exchange) (maxL := 8) (ret := (some .long)) (by decide) rfl ?_
  intro p e s m args below meth c s₁ B hml hv
  obtain ⟨rfl, hsz, hP, hK, hD0⟩ := hv
  have hx := B.exec
  have hb := B.bytes
  have hr := B.returns
  have hts := atoms_spec (ws := wsX0_exchange) B.pre
  have hown : s.vm.findClass RX0 = some m.cls := findClass_of_methodNamed B.named
  have hlocks := B.notSynchronized
  have hin : ∀ w ∈ wsX00, w ∈ wsX0_exchange := fun _ h => List.mem_cons_of_mem _ (List.mem_append_right _ h)
  subst hsz
  have hD := hD0.self (sz := s.heap.size)
  generalize hAe : va_A [(h, .inr (0, [.ref a1, .ref a2, .int hd, .long ow, .long off, .long go])), (a1, .inl (c1, 24, .inr (.inl lo))), (a2, .inl (c2, 24, .inr (.inl hi)))] s.heap.size = A at hD ⊢
  have hA : ∀ q : Nat, s.heap.size ≤ q → A q := fun q h => by rw [← hAe]; exact Or.inr h
  have hS : va_S A s.heap s.heap [] := va_S.rf
  have hl := lv_entry ([.ref h, .int x, .long sn, .long td, .long cm]) (n := 8) (Nat.le_of_ble_eq_true rfl)
  rw [lg_entry_eq]
  generalize (lg_sl ([.ref h, .int x, .long sn, .long td, .long cm]) ++ List.replicate (8 - (lg_sl ([.ref h, .int x, .long sn, .long td, .long cm])).length) Slot.unset).toArray = ls at hl ⊢
  have hl : lv_has ls 8 [(0, .ref h), (1, .int x), (2, .long sn), (4, .long td), (6, .long cm)] := hl
  refine lv_iload_n hx hb dX0_exchange_0 rfl (lv_at hl 1 rfl) ?_
  refine ck_cS (As := [.int x]) (rest := []) ⟨hx, hb, hml, hown, hts⟩ (c_X0_isSource l x) (va_cwS 1 hts gX0_exchange_X0_isSource rfl rfl rfl (by decide +kernel) ⟨Nat.le_of_ble_eq_true rfl, Nat.le_of_ble_eq_true rfl⟩) rfl hl.1 rfl (Nat.le_of_ble_eq_true rfl) dX0_exchange_1 ⟨Nat.le_of_ble_eq_true rfl, Nat.le_of_ble_eq_true rfl⟩ ?_
  refine lv_if_eq (tgt := 37) hx hb dX0_exchange_4 (by decide) (fun c_1 => ?_) (fun c_1 => ?_)
  · have c_1 := ck_bf c_1
    refine lv_ldc2 (v := ck_NO) hx hb hown (hts (.constantLong RX0 46 ck_NO) (by decide +kernel)) dX0_exchange_37 ?_
    have hw_lo : lo = (ck_uL (ck_exk x sn td cm) lo x (td - cm)) := by simp [ck_uL, ck_uH, ck_exk, c_1]
    have hw_hi : hi = (ck_uL (ck_exk x sn td cm) hi x (td - sn)) := by simp [ck_uL, ck_uH, ck_exk, c_1]
    have hw_hd : hd = (ck_uH (ck_exk x sn td cm) hd x) := by simp [ck_uL, ck_uH, ck_exk, c_1]
    have hP9 : va_P D vwCl [(h, .inr (0, [.ref a1, .ref a2, .int (ck_uH (ck_exk x sn td cm) hd x), .long ow, .long off, .long go])), (a1, .inl (c1, 24, .inr (.inl (ck_uL (ck_exk x sn td cm) lo x (td - cm))))), (a2, .inl (c2, 24, .inr (.inl (ck_uL (ck_exk x sn td cm) hi x (td - sn)))))] s.heap := by rw [← hw_lo, ← hw_hi, ← hw_hd]; exact hP
    have hD9 : va_D A [(h, .inr (0, [.ref a1, .ref a2, .int (ck_uH (ck_exk x sn td cm) hd x), .long ow, .long off, .long go])), (a1, .inl (c1, 24, .inr (.inl (ck_uL (ck_exk x sn td cm) lo x (td - cm))))), (a2, .inl (c2, 24, .inr (.inl (ck_uL (ck_exk x sn td cm) hi x (td - sn)))))] := by rw [← hw_lo, ← hw_hi, ← hw_hd]; exact hD
    have hres : ck_NO = (ck_exv x sn td cm) := by simp [ck_exv, ck_exk, c_1]
    exact W.lret (v := ck_NO) hx hb hr (fun t ht _ => ⟨congrArg (fun z => Outcome.returned (some (Value.long z))) hres, by rw [ht]; exact hP9, hD9, hS.F ht⟩) hS.2.2 dX0_exchange_40
  · have c_1 := ck_bt c_1
    obtain ⟨jx, hjx, rfl⟩ := ck_srcE c_1
    have hcjx : (nI jx).toNatClampNeg = jx := nI_clamp (by omega)
    refine lv_lload_n hx hb dX0_exchange_7 rfl (lv_at hl 2 rfl) ?_
    refine ck_cS (As := [.long sn]) (rest := []) ⟨hx, hb, hml, hown, hts⟩ (c_X0_isTime l sn) (va_cwS 1 hts gX0_exchange_X0_isTime rfl rfl rfl (by decide +kernel) ⟨Nat.le_of_ble_eq_true rfl, Nat.le_of_ble_eq_true rfl⟩) rfl hl.1 rfl (Nat.le_of_ble_eq_true rfl) dX0_exchange_8 ⟨Nat.le_of_ble_eq_true rfl, Nat.le_of_ble_eq_true rfl⟩ ?_
    refine lv_if_eq (tgt := 37) hx hb dX0_exchange_11 (by decide) (fun c_2 => ?_) (fun c_2 => ?_)
    · have c_2 := ck_bf c_2
      refine lv_ldc2 (v := ck_NO) hx hb hown (hts (.constantLong RX0 46 ck_NO) (by decide +kernel)) dX0_exchange_37 ?_
      have hw_lo : lo = (ck_uL (ck_exk (nI jx) sn td cm) lo (nI jx) (td - cm)) := by simp [ck_uL, ck_uH, ck_exk, c_1, hcjx, c_2]
      have hw_hi : hi = (ck_uL (ck_exk (nI jx) sn td cm) hi (nI jx) (td - sn)) := by simp [ck_uL, ck_uH, ck_exk, c_1, hcjx, c_2]
      have hw_hd : hd = (ck_uH (ck_exk (nI jx) sn td cm) hd (nI jx)) := by simp [ck_uL, ck_uH, ck_exk, c_1, hcjx, c_2]
      have hP9 : va_P D vwCl [(h, .inr (0, [.ref a1, .ref a2, .int (ck_uH (ck_exk (nI jx) sn td cm) hd (nI jx)), .long ow, .long off, .long go])), (a1, .inl (c1, 24, .inr (.inl (ck_uL (ck_exk (nI jx) sn td cm) lo (nI jx) (td - cm))))), (a2, .inl (c2, 24, .inr (.inl (ck_uL (ck_exk (nI jx) sn td cm) hi (nI jx) (td - sn)))))] s.heap := by rw [← hw_lo, ← hw_hi, ← hw_hd]; exact hP
      have hD9 : va_D A [(h, .inr (0, [.ref a1, .ref a2, .int (ck_uH (ck_exk (nI jx) sn td cm) hd (nI jx)), .long ow, .long off, .long go])), (a1, .inl (c1, 24, .inr (.inl (ck_uL (ck_exk (nI jx) sn td cm) lo (nI jx) (td - cm))))), (a2, .inl (c2, 24, .inr (.inl (ck_uL (ck_exk (nI jx) sn td cm) hi (nI jx) (td - sn)))))] := by rw [← hw_lo, ← hw_hi, ← hw_hd]; exact hD
      have hres : ck_NO = (ck_exv (nI jx) sn td cm) := by simp [ck_exv, ck_exk, c_1, hcjx, c_2]
      exact W.lret (v := ck_NO) hx hb hr (fun t ht _ => ⟨congrArg (fun z => Outcome.returned (some (Value.long z))) hres, by rw [ht]; exact hP9, hD9, hS.F ht⟩) hS.2.2 dX0_exchange_40
    · have c_2 := ck_bt c_2
      refine lv_lload hx hb dX0_exchange_14 (lv_at hl 3 rfl) ?_
      refine ck_cS (As := [.long td]) (rest := []) ⟨hx, hb, hml, hown, hts⟩ (c_X0_isTime l td) (va_cwS 1 hts gX0_exchange_X0_isTime rfl rfl rfl (by decide +kernel) ⟨Nat.le_of_ble_eq_true rfl, Nat.le_of_ble_eq_true rfl⟩) rfl hl.1 rfl (Nat.le_of_ble_eq_true rfl) dX0_exchange_16 ⟨Nat.le_of_ble_eq_true rfl, Nat.le_of_ble_eq_true rfl⟩ ?_
      refine lv_if_eq (tgt := 37) hx hb dX0_exchange_19 (by decide) (fun c_3 => ?_) (fun c_3 => ?_)
      · have c_3 := ck_bf c_3
        refine lv_ldc2 (v := ck_NO) hx hb hown (hts (.constantLong RX0 46 ck_NO) (by decide +kernel)) dX0_exchange_37 ?_
        have hw_lo : lo = (ck_uL (ck_exk (nI jx) sn td cm) lo (nI jx) (td - cm)) := by simp [ck_uL, ck_uH, ck_exk, c_1, hcjx, c_2, c_3]
        have hw_hi : hi = (ck_uL (ck_exk (nI jx) sn td cm) hi (nI jx) (td - sn)) := by simp [ck_uL, ck_uH, ck_exk, c_1, hcjx, c_2, c_3]
        have hw_hd : hd = (ck_uH (ck_exk (nI jx) sn td cm) hd (nI jx)) := by simp [ck_uL, ck_uH, ck_exk, c_1, hcjx, c_2, c_3]
        have hP9 : va_P D vwCl [(h, .inr (0, [.ref a1, .ref a2, .int (ck_uH (ck_exk (nI jx) sn td cm) hd (nI jx)), .long ow, .long off, .long go])), (a1, .inl (c1, 24, .inr (.inl (ck_uL (ck_exk (nI jx) sn td cm) lo (nI jx) (td - cm))))), (a2, .inl (c2, 24, .inr (.inl (ck_uL (ck_exk (nI jx) sn td cm) hi (nI jx) (td - sn)))))] s.heap := by rw [← hw_lo, ← hw_hi, ← hw_hd]; exact hP
        have hD9 : va_D A [(h, .inr (0, [.ref a1, .ref a2, .int (ck_uH (ck_exk (nI jx) sn td cm) hd (nI jx)), .long ow, .long off, .long go])), (a1, .inl (c1, 24, .inr (.inl (ck_uL (ck_exk (nI jx) sn td cm) lo (nI jx) (td - cm))))), (a2, .inl (c2, 24, .inr (.inl (ck_uL (ck_exk (nI jx) sn td cm) hi (nI jx) (td - sn)))))] := by rw [← hw_lo, ← hw_hi, ← hw_hd]; exact hD
        have hres : ck_NO = (ck_exv (nI jx) sn td cm) := by simp [ck_exv, ck_exk, c_1, hcjx, c_2, c_3]
        exact W.lret (v := ck_NO) hx hb hr (fun t ht _ => ⟨congrArg (fun z => Outcome.returned (some (Value.long z))) hres, by rw [ht]; exact hP9, hD9, hS.F ht⟩) hS.2.2 dX0_exchange_40
      · have c_3 := ck_bt c_3
        refine lv_lload hx hb dX0_exchange_22 (lv_at hl 4 rfl) ?_
        refine ck_cS (As := [.long cm]) (rest := []) ⟨hx, hb, hml, hown, hts⟩ (c_X0_isTime l cm) (va_cwS 1 hts gX0_exchange_X0_isTime rfl rfl rfl (by decide +kernel) ⟨Nat.le_of_ble_eq_true rfl, Nat.le_of_ble_eq_true rfl⟩) rfl hl.1 rfl (Nat.le_of_ble_eq_true rfl) dX0_exchange_24 ⟨Nat.le_of_ble_eq_true rfl, Nat.le_of_ble_eq_true rfl⟩ ?_
        refine lv_if_eq (tgt := 37) hx hb dX0_exchange_27 (by decide) (fun c_4 => ?_) (fun c_4 => ?_)
        · have c_4 := ck_bf c_4
          refine lv_ldc2 (v := ck_NO) hx hb hown (hts (.constantLong RX0 46 ck_NO) (by decide +kernel)) dX0_exchange_37 ?_
          have hw_lo : lo = (ck_uL (ck_exk (nI jx) sn td cm) lo (nI jx) (td - cm)) := by simp [ck_uL, ck_uH, ck_exk, c_1, hcjx, c_2, c_3, c_4]
          have hw_hi : hi = (ck_uL (ck_exk (nI jx) sn td cm) hi (nI jx) (td - sn)) := by simp [ck_uL, ck_uH, ck_exk, c_1, hcjx, c_2, c_3, c_4]
          have hw_hd : hd = (ck_uH (ck_exk (nI jx) sn td cm) hd (nI jx)) := by simp [ck_uL, ck_uH, ck_exk, c_1, hcjx, c_2, c_3, c_4]
          have hP9 : va_P D vwCl [(h, .inr (0, [.ref a1, .ref a2, .int (ck_uH (ck_exk (nI jx) sn td cm) hd (nI jx)), .long ow, .long off, .long go])), (a1, .inl (c1, 24, .inr (.inl (ck_uL (ck_exk (nI jx) sn td cm) lo (nI jx) (td - cm))))), (a2, .inl (c2, 24, .inr (.inl (ck_uL (ck_exk (nI jx) sn td cm) hi (nI jx) (td - sn)))))] s.heap := by rw [← hw_lo, ← hw_hi, ← hw_hd]; exact hP
          have hD9 : va_D A [(h, .inr (0, [.ref a1, .ref a2, .int (ck_uH (ck_exk (nI jx) sn td cm) hd (nI jx)), .long ow, .long off, .long go])), (a1, .inl (c1, 24, .inr (.inl (ck_uL (ck_exk (nI jx) sn td cm) lo (nI jx) (td - cm))))), (a2, .inl (c2, 24, .inr (.inl (ck_uL (ck_exk (nI jx) sn td cm) hi (nI jx) (td - sn)))))] := by rw [← hw_lo, ← hw_hi, ← hw_hd]; exact hD
          have hres : ck_NO = (ck_exv (nI jx) sn td cm) := by simp [ck_exv, ck_exk, c_1, hcjx, c_2, c_3, c_4]
          exact W.lret (v := ck_NO) hx hb hr (fun t ht _ => ⟨congrArg (fun z => Outcome.returned (some (Value.long z))) hres, by rw [ht]; exact hP9, hD9, hS.F ht⟩) hS.2.2 dX0_exchange_40
        · have c_4 := ck_bt c_4
          refine lv_lload_n hx hb dX0_exchange_30 rfl (lv_at hl 2 rfl) ?_
          refine lv_lload hx hb dX0_exchange_31 (lv_at hl 4 rfl) ?_
          refine W.lcmp hx hb dX0_exchange_33 ?_
          refine lv_if_le (tgt := 41) hx hb dX0_exchange_34 (by decide) (fun c_5 => ?_) (fun c_5 => ?_)
          · rw [lg_cmp_le] at c_5
            refine lv_aload_n hx hb dX0_exchange_41 rfl (lv_at hl 0 rfl) ?_
            refine lv_iload_n hx hb dX0_exchange_42 rfl (lv_at hl 1 rfl) ?_
            refine lv_lload hx hb dX0_exchange_43 (lv_at hl 3 rfl) ?_
            refine lv_lload hx hb dX0_exchange_45 (lv_at hl 4 rfl) ?_
            refine lv_lsub hx hb dX0_exchange_47 ?_
            refine lv_lload hx hb dX0_exchange_48 (lv_at hl 3 rfl) ?_
            refine lv_lload_n hx hb dX0_exchange_50 rfl (lv_at hl 2 rfl) ?_
            refine lv_lsub hx hb dX0_exchange_51 ?_
            refine ck_wV (As := [.int (nI jx), .long (td - cm), .long (td - sn)]) (rest := []) (wc := [(h, .inr (0, [.ref a1, .ref a2, .int hd, .long ow, .long off, .long go])), (a1, .inl (c1, 24, .inr (.inl lo))), (a2, .inl (c2, 24, .inr (.inl hi)))]) (wr := []) (w1 := [(h, .inr (0, [.ref a1, .ref a2, .int (hd ||| (1 <<< ((nI jx) &&& 31))), .long ow, .long off, .long go])), (a1, .inl (c1, 24, .inr (.inl (vp_updL lo jx (td - cm))))), (a2, .inl (c2, 24, .inr (.inl (vp_updL hi jx (td - sn)))))]) (v := none) ⟨hx, hb, hml, hown, hts⟩ (c_X0_hold l D h a1 a2 c1 c2 lo hi hd ow off go _ (td - cm) (td - sn) jx hjx) (cwV 3 hts gX0_exchange_X0_hold rfl rfl rfl (by decide +kernel) ⟨Nat.le_of_ble_eq_true rfl, Nat.le_of_ble_eq_true rfl⟩) hP hD hS hA hK [0, 1, 2] [] rfl hP hD rfl rfl (by decide) (va_recv hK hP (ci := 0) (q0 := 0) rfl rfl) rfl hl.1 rfl (Nat.le_of_ble_eq_true rfl) dX0_exchange_52 ⟨Nat.le_of_ble_eq_true rfl, Nat.le_of_ble_eq_true rfl⟩ (fun H locs hP hD hS => ?_)
            have hP : va_P D vwCl [(h, .inr (0, [.ref a1, .ref a2, .int (hd ||| (1 <<< ((nI jx) &&& 31))), .long ow, .long off, .long go])), (a1, .inl (c1, 24, .inr (.inl (vp_updL lo jx (td - cm))))), (a2, .inl (c2, 24, .inr (.inl (vp_updL hi jx (td - sn)))))] H := hP
            have hD : va_D A [(h, .inr (0, [.ref a1, .ref a2, .int (hd ||| (1 <<< ((nI jx) &&& 31))), .long ow, .long off, .long go])), (a1, .inl (c1, 24, .inr (.inl (vp_updL lo jx (td - cm))))), (a2, .inl (c2, 24, .inr (.inl (vp_updL hi jx (td - sn)))))] := hD
            refine lv_lload hx hb dX0_exchange_55 (lv_at hl 3 rfl) ?_
            refine lv_lload hx hb dX0_exchange_57 (lv_at hl 4 rfl) ?_
            refine lv_lload_n hx hb dX0_exchange_59 rfl (lv_at hl 2 rfl) ?_
            refine lv_lsub hx hb dX0_exchange_60 ?_
            refine ck_cS (As := [.long (cm - sn)]) (rest := [.long td]) ⟨hx, hb, hml, hown, hts⟩ (c_X0_half l (cm - sn)) (va_cwS 1 hts gX0_exchange_X0_half rfl rfl rfl (by decide +kernel) ⟨Nat.le_of_ble_eq_true rfl, Nat.le_of_ble_eq_true rfl⟩) rfl hl.1 rfl (Nat.le_of_ble_eq_true rfl) dX0_exchange_61 ⟨Nat.le_of_ble_eq_true rfl, Nat.le_of_ble_eq_true rfl⟩ ?_
            refine lv_ladd hx hb dX0_exchange_64 ?_
            refine lv_lload hx hb dX0_exchange_65 (lv_at hl 4 rfl) ?_
            refine lv_lsub hx hb dX0_exchange_67 ?_
            have hw_lo : (vp_updL lo jx (td - cm)) = (ck_uL (ck_exk (nI jx) sn td cm) lo (nI jx) (td - cm)) := by simp [ck_uL, ck_uH, ck_exk, c_1, hcjx, c_2, c_3, c_4, c_5]
            have hw_hi : (vp_updL hi jx (td - sn)) = (ck_uL (ck_exk (nI jx) sn td cm) hi (nI jx) (td - sn)) := by simp [ck_uL, ck_uH, ck_exk, c_1, hcjx, c_2, c_3, c_4, c_5]
            have hw_hd : (hd ||| (1 <<< ((nI jx) &&& 31))) = (ck_uH (ck_exk (nI jx) sn td cm) hd (nI jx)) := by simp [ck_uL, ck_uH, ck_exk, c_1, hcjx, c_2, c_3, c_4, c_5]
            have hP9 : va_P D vwCl [(h, .inr (0, [.ref a1, .ref a2, .int (ck_uH (ck_exk (nI jx) sn td cm) hd (nI jx)), .long ow, .long off, .long go])), (a1, .inl (c1, 24, .inr (.inl (ck_uL (ck_exk (nI jx) sn td cm) lo (nI jx) (td - cm))))), (a2, .inl (c2, 24, .inr (.inl (ck_uL (ck_exk (nI jx) sn td cm) hi (nI jx) (td - sn)))))] H := by rw [← hw_lo, ← hw_hi, ← hw_hd]; exact hP
            have hD9 : va_D A [(h, .inr (0, [.ref a1, .ref a2, .int (ck_uH (ck_exk (nI jx) sn td cm) hd (nI jx)), .long ow, .long off, .long go])), (a1, .inl (c1, 24, .inr (.inl (ck_uL (ck_exk (nI jx) sn td cm) lo (nI jx) (td - cm))))), (a2, .inl (c2, 24, .inr (.inl (ck_uL (ck_exk (nI jx) sn td cm) hi (nI jx) (td - sn)))))] := by rw [← hw_lo, ← hw_hi, ← hw_hd]; exact hD
            have hres : ((td + (ck_half (cm - sn))) - cm) = (ck_exv (nI jx) sn td cm) := by simp [ck_exv, ck_exk, c_1, hcjx, c_2, c_3, c_4, c_5]
            exact W.lret (v := ((td + (ck_half (cm - sn))) - cm)) hx hb hr (fun t ht _ => ⟨congrArg (fun z => Outcome.returned (some (Value.long z))) hres, by rw [ht]; exact hP9, hD9, hS.F ht⟩) hS.2.2 dX0_exchange_68
          · rw [lg_cmp_le] at c_5
            refine lv_ldc2 (v := ck_NO) hx hb hown (hts (.constantLong RX0 46 ck_NO) (by decide +kernel)) dX0_exchange_37 ?_
            have hw_lo : lo = (ck_uL (ck_exk (nI jx) sn td cm) lo (nI jx) (td - cm)) := by simp [ck_uL, ck_uH, ck_exk, c_1, hcjx, c_2, c_3, c_4, c_5]
            have hw_hi : hi = (ck_uL (ck_exk (nI jx) sn td cm) hi (nI jx) (td - sn)) := by simp [ck_uL, ck_uH, ck_exk, c_1, hcjx, c_2, c_3, c_4, c_5]
            have hw_hd : hd = (ck_uH (ck_exk (nI jx) sn td cm) hd (nI jx)) := by simp [ck_uL, ck_uH, ck_exk, c_1, hcjx, c_2, c_3, c_4, c_5]
            have hP9 : va_P D vwCl [(h, .inr (0, [.ref a1, .ref a2, .int (ck_uH (ck_exk (nI jx) sn td cm) hd (nI jx)), .long ow, .long off, .long go])), (a1, .inl (c1, 24, .inr (.inl (ck_uL (ck_exk (nI jx) sn td cm) lo (nI jx) (td - cm))))), (a2, .inl (c2, 24, .inr (.inl (ck_uL (ck_exk (nI jx) sn td cm) hi (nI jx) (td - sn)))))] s.heap := by rw [← hw_lo, ← hw_hi, ← hw_hd]; exact hP
            have hD9 : va_D A [(h, .inr (0, [.ref a1, .ref a2, .int (ck_uH (ck_exk (nI jx) sn td cm) hd (nI jx)), .long ow, .long off, .long go])), (a1, .inl (c1, 24, .inr (.inl (ck_uL (ck_exk (nI jx) sn td cm) lo (nI jx) (td - cm))))), (a2, .inl (c2, 24, .inr (.inl (ck_uL (ck_exk (nI jx) sn td cm) hi (nI jx) (td - sn)))))] := by rw [← hw_lo, ← hw_hi, ← hw_hd]; exact hD
            have hres : ck_NO = (ck_exv (nI jx) sn td cm) := by simp [ck_exv, ck_exk, c_1, hcjx, c_2, c_3, c_4, c_5]
            exact W.lret (v := ck_NO) hx hb hr (fun t ht _ => ⟨congrArg (fun z => Outcome.returned (some (Value.long z))) hres, by rw [ht]; exact hP9, hD9, hS.F ht⟩) hS.2.2 dX0_exchange_40

set_option maxHeartbeats 4000000 in
set_option maxRecDepth 100000 in
theorem c_X0_drop (l : Launch) (D : va_G) (h a1 a2 : Nat) (c1 c2 : ClassId) (lo hi : Nat → Int64) (hd : Int32) (ow off go : Int64) (sz : Nat) (x : Int32)  : Met l yX0_drop wsX0_drop { frames := 2, cells := 0, slots := 0, locals := 41 } (va_Pc [.ref h, .int x] (ck_Cw D [(h, .inr (0, [.ref a1, .ref a2, .int hd, .long ow, .long off, .long go])), (a1, .inl (c1, 24, .inr (.inl lo))), (a2, .inl (c2, 24, .inr (.inl hi)))] (xT c1 c2) sz)) (ck_Wr (some (.int (ck_b (ck_in hd x)))) D [(h, .inr (0, [.ref a1, .ref a2, .int (ck_dH hd x), .long ow, .long off, .long go])), (a1, .inl (c1, 24, .inr (.inl lo))), (a2, .inl (c2, 24, .inr (.inl hi)))] (va_A [(h, .inr (0, [.ref a1, .ref a2, .int hd, .long ow, .long off, .long go])), (a1, .inl (c1, 24, .inr (.inl lo))), (a2, .inl (c2, 24, .inr (.inl hi)))] sz)) 0 0 (va_A [(h, .inr (0, [.ref a1, .ref a2, .int hd, .long ow, .long off, .long go])), (a1, .inl (c1, 24, .inr (.inl lo))), (a2, .inl (c2, 24, .inr (.inl hi)))] sz) := by
  refine Met.ofW (cc := cX0_drop) (maxL := 2) (ret := (some .boolean)) (by decide) rfl ?_
  intro p e s m args below meth c s₁ B hml hv
  obtain ⟨rfl, hsz, hP, hK, hD0⟩ := hv
  have hx := B.exec
  have hb := B.bytes
  have hr := B.returns
  have hts := atoms_spec (ws := wsX0_drop) B.pre
  have hown : s.vm.findClass RX0 = some m.cls := findClass_of_methodNamed B.named
  have hlocks := B.notSynchronized
  have hin : ∀ w ∈ wsX00, w ∈ wsX0_drop := fun _ h => List.mem_cons_of_mem _ (List.mem_append_right _ h)
  subst hsz
  have hD := hD0.self (sz := s.heap.size)
  generalize hAe : va_A [(h, .inr (0, [.ref a1, .ref a2, .int hd, .long ow, .long off, .long go])), (a1, .inl (c1, 24, .inr (.inl lo))), (a2, .inl (c2, 24, .inr (.inl hi)))] s.heap.size = A at hD ⊢
  have hA : ∀ q : Nat, s.heap.size ≤ q → A q := fun q h => by rw [← hAe]; exact Or.inr h
  have hS : va_S A s.heap s.heap [] := va_S.rf
  have hl := lv_entry ([.ref h, .int x]) (n := 2) (Nat.le_of_ble_eq_true rfl)
  rw [lg_entry_eq]
  generalize (lg_sl ([.ref h, .int x]) ++ List.replicate (2 - (lg_sl ([.ref h, .int x])).length) Slot.unset).toArray = ls at hl ⊢
  have hl : lv_has ls 2 [(0, .ref h), (1, .int x)] := hl
  refine lv_aload_n hx hb dX0_drop_0 rfl (lv_at hl 0 rfl) ?_
  refine va_get (D := D) (ci := 0) (v := .int hd) (C := RX0) (T := TX0) (N := 6) hx hb hts hin hown hK hP 0 rfl rfl 2 (by decide) (hts (.fieldLink RX0 16 "ClockDesk" "held" "I") (by decide +kernel)) (fun _ h9 => h9) rfl dX0_drop_1 ?_
  refine lv_iload_n hx hb dX0_drop_4 rfl (lv_at hl 1 rfl) ?_
  refine ck_cS (As := [.int hd, .int x]) (rest := []) ⟨hx, hb, hml, hown, hts⟩ (c_X0_isIn l hd x) (va_cwS 2 hts gX0_drop_X0_isIn rfl rfl rfl (by decide +kernel) ⟨Nat.le_of_ble_eq_true rfl, Nat.le_of_ble_eq_true rfl⟩) rfl hl.1 rfl (Nat.le_of_ble_eq_true rfl) dX0_drop_5 ⟨Nat.le_of_ble_eq_true rfl, Nat.le_of_ble_eq_true rfl⟩ ?_
  refine lv_if_ne (tgt := 13) hx hb dX0_drop_8 (by decide) (fun c_1 => ?_) (fun c_1 => ?_)
  · have c_1 := ck_bt c_1
    obtain ⟨jx, hjx, rfl⟩ := ck_inE c_1
    have hcjx : (nI jx).toNatClampNeg = jx := nI_clamp (by omega)
    have hnjx := c_1
    rw [ck_inN _ hjx] at hnjx
    refine lv_aload_n hx hb dX0_drop_13 rfl (lv_at hl 0 rfl) ?_
    refine lv_aload_n hx hb dX0_drop_14 rfl (lv_at hl 0 rfl) ?_
    refine va_get (D := D) (ci := 0) (v := .int hd) (C := RX0) (T := TX0) (N := 6) hx hb hts hin hown hK hP 0 rfl rfl 2 (by decide) (hts (.fieldLink RX0 16 "ClockDesk" "held" "I") (by decide +kernel)) (fun _ h9 => h9) rfl dX0_drop_15 ?_
    refine lv_iload_n hx hb dX0_drop_18 rfl (lv_at hl 1 rfl) ?_
    refine ck_cS (As := [.int hd, .int (nI jx)]) (rest := [.ref h]) ⟨hx, hb, hml, hown, hts⟩ (c_X0_without l hd (nI jx)) (va_cwS 2 hts gX0_drop_X0_without rfl rfl rfl (by decide +kernel) ⟨Nat.le_of_ble_eq_true rfl, Nat.le_of_ble_eq_true rfl⟩) rfl hl.1 rfl (Nat.le_of_ble_eq_true rfl) dX0_drop_19 ⟨Nat.le_of_ble_eq_true rfl, Nat.le_of_ble_eq_true rfl⟩ ?_
    refine va_put (D := D) (ci := 0) (v := .int (ck_wo hd (nI jx))) (ty := .int) (C := RX0) (T := TX0) (N := 6) hx hb hts hin tyX0 tyX0_ok nmX0 hown hK hP hD hS 0 rfl rfl 2 (by decide) (hts (.fieldLink RX0 16 "ClockDesk" "held" "I") (by decide +kernel)) (fun _ h9 => h9) rfl (by decide +kernel) rfl rfl (Nat.le_of_ble_eq_true rfl) dX0_drop_22 (fun H locs hP hD hS => ?_)
    have hP : va_P D vwCl [(h, .inr (0, [.ref a1, .ref a2, .int (ck_wo hd (nI jx)), .long ow, .long off, .long go])), (a1, .inl (c1, 24, .inr (.inl lo))), (a2, .inl (c2, 24, .inr (.inl hi)))] H := hP
    have hD : va_D A [(h, .inr (0, [.ref a1, .ref a2, .int (ck_wo hd (nI jx)), .long ow, .long off, .long go])), (a1, .inl (c1, 24, .inr (.inl lo))), (a2, .inl (c2, 24, .inr (.inl hi)))] := hD
    refine lv_iconst (v := 1) hx hb dX0_drop_25 (by decide) ?_
    have hw_hd : (ck_wo hd (nI jx)) = (ck_dH hd (nI jx)) := by simp [ck_dH, c_1, hcjx]
    have hP9 : va_P D vwCl [(h, .inr (0, [.ref a1, .ref a2, .int (ck_dH hd (nI jx)), .long ow, .long off, .long go])), (a1, .inl (c1, 24, .inr (.inl lo))), (a2, .inl (c2, 24, .inr (.inl hi)))] H := by rw [← hw_hd]; exact hP
    have hD9 : va_D A [(h, .inr (0, [.ref a1, .ref a2, .int (ck_dH hd (nI jx)), .long ow, .long off, .long go])), (a1, .inl (c1, 24, .inr (.inl lo))), (a2, .inl (c2, 24, .inr (.inl hi)))] := by rw [← hw_hd]; exact hD
    have hres : 1 = (ck_b (ck_in hd (nI jx))) := by simp [ck_b, c_1, hcjx]
    exact W.zret (ty := .boolean) (v := 1) hx hb hr rfl (fun t ht _ => ⟨congrArg (fun z => Outcome.returned (some (Value.int z))) hres, by rw [ht]; exact hP9, hD9, hS.F ht⟩) hS.2.2 dX0_drop_26
  · have c_1 := ck_bf c_1
    refine lv_iconst (v := 0) hx hb dX0_drop_11 (by decide) ?_
    have hw_hd : hd = (ck_dH hd x) := by simp [ck_dH, c_1]
    have hP9 : va_P D vwCl [(h, .inr (0, [.ref a1, .ref a2, .int (ck_dH hd x), .long ow, .long off, .long go])), (a1, .inl (c1, 24, .inr (.inl lo))), (a2, .inl (c2, 24, .inr (.inl hi)))] s.heap := by rw [← hw_hd]; exact hP
    have hD9 : va_D A [(h, .inr (0, [.ref a1, .ref a2, .int (ck_dH hd x), .long ow, .long off, .long go])), (a1, .inl (c1, 24, .inr (.inl lo))), (a2, .inl (c2, 24, .inr (.inl hi)))] := by rw [← hw_hd]; exact hD
    have hres : 0 = (ck_b (ck_in hd x)) := by simp [ck_b, c_1]
    exact W.zret (ty := .boolean) (v := 0) hx hb hr rfl (fun t ht _ => ⟨congrArg (fun z => Outcome.returned (some (Value.int z))) hres, by rw [ht]; exact hP9, hD9, hS.F ht⟩) hS.2.2 dX0_drop_12

set_option maxHeartbeats 4000000 in
set_option maxRecDepth 100000 in
theorem c_X0_tick (l : Launch) (D : va_G) (h a1 a2 : Nat) (c1 c2 : ClassId) (lo hi : Nat → Int64) (hd : Int32) (ow off go : Int64) (sz : Nat) (t0 : Int64)  : Met l yX0_tick wsX0_tick { frames := 1, cells := 0, slots := 0, locals := 27 } (va_Pc [.ref h, .long t0] (ck_Cw D [(h, .inr (0, [.ref a1, .ref a2, .int hd, .long ow, .long off, .long go])), (a1, .inl (c1, 24, .inr (.inl lo))), (a2, .inl (c2, 24, .inr (.inl hi)))] (xT c1 c2) sz)) (ck_Wr (some (.int (ck_b (ck_tk ow t0)))) D [(h, .inr (0, [.ref a1, .ref a2, .int hd, .long (ck_tW ow t0), .long (ck_tO ow off go t0), .long go])), (a1, .inl (c1, 24, .inr (.inl lo))), (a2, .inl (c2, 24, .inr (.inl hi)))] (va_A [(h, .inr (0, [.ref a1, .ref a2, .int hd, .long ow, .long off, .long go])), (a1, .inl (c1, 24, .inr (.inl lo))), (a2, .inl (c2, 24, .inr (.inl hi)))] sz)) 0 0 (va_A [(h, .inr (0, [.ref a1, .ref a2, .int hd, .long ow, .long off, .long go])), (a1, .inl (c1, 24, .inr (.inl lo))), (a2, .inl (c2, 24, .inr (.inl hi)))] sz) := by
  refine Met.ofW (cc := cX0_tick) (maxL := 5) (ret := (some .boolean)) (by decide) rfl ?_
  intro p e s m args below meth c s₁ B hml hv
  obtain ⟨rfl, hsz, hP, hK, hD0⟩ := hv
  have hx := B.exec
  have hb := B.bytes
  have hr := B.returns
  have hts := atoms_spec (ws := wsX0_tick) B.pre
  have hown : s.vm.findClass RX0 = some m.cls := findClass_of_methodNamed B.named
  have hlocks := B.notSynchronized
  have hin : ∀ w ∈ wsX00, w ∈ wsX0_tick := fun _ h => List.mem_cons_of_mem _ (List.mem_append_right _ h)
  subst hsz
  have hD := hD0.self (sz := s.heap.size)
  generalize hAe : va_A [(h, .inr (0, [.ref a1, .ref a2, .int hd, .long ow, .long off, .long go])), (a1, .inl (c1, 24, .inr (.inl lo))), (a2, .inl (c2, 24, .inr (.inl hi)))] s.heap.size = A at hD ⊢
  have hA : ∀ q : Nat, s.heap.size ≤ q → A q := fun q h => by rw [← hAe]; exact Or.inr h
  have hS : va_S A s.heap s.heap [] := va_S.rf
  have hl := lv_entry ([.ref h, .long t0]) (n := 5) (Nat.le_of_ble_eq_true rfl)
  rw [lg_entry_eq]
  generalize (lg_sl ([.ref h, .long t0]) ++ List.replicate (5 - (lg_sl ([.ref h, .long t0])).length) Slot.unset).toArray = ls at hl ⊢
  have hl : lv_has ls 5 [(0, .ref h), (1, .long t0)] := hl
  refine lv_lload_n hx hb dX0_tick_0 rfl (lv_at hl 1 rfl) ?_
  refine lv_aload_n hx hb dX0_tick_1 rfl (lv_at hl 0 rfl) ?_
  refine va_get (D := D) (ci := 0) (v := .long ow) (C := RX0) (T := TX0) (N := 6) hx hb hts hin hown hK hP 0 rfl rfl 3 (by decide) (hts (.fieldLink RX0 20 "ClockDesk" "ownTime" "J") (by decide +kernel)) (fun _ h9 => h9) rfl dX0_tick_2 ?_
  refine W.lcmp hx hb dX0_tick_5 ?_
  refine lv_if_lt (tgt := 17) hx hb dX0_tick_6 (by decide) (fun c_1 => ?_) (fun c_1 => ?_)
  · rw [lg_cmp_lt] at c_1
    refine lv_iconst (v := 0) hx hb dX0_tick_17 (by decide) ?_
    have hw_off : off = (ck_tO ow off go t0) := by simp [ck_tO, ck_tW, ck_tk, c_1]
    have hw_ow : ow = (ck_tW ow t0) := by simp [ck_tO, ck_tW, ck_tk, c_1]
    have hP9 : va_P D vwCl [(h, .inr (0, [.ref a1, .ref a2, .int hd, .long (ck_tW ow t0), .long (ck_tO ow off go t0), .long go])), (a1, .inl (c1, 24, .inr (.inl lo))), (a2, .inl (c2, 24, .inr (.inl hi)))] s.heap := by rw [← hw_off, ← hw_ow]; exact hP
    have hD9 : va_D A [(h, .inr (0, [.ref a1, .ref a2, .int hd, .long (ck_tW ow t0), .long (ck_tO ow off go t0), .long go])), (a1, .inl (c1, 24, .inr (.inl lo))), (a2, .inl (c2, 24, .inr (.inl hi)))] := by rw [← hw_off, ← hw_ow]; exact hD
    have hres : 0 = (ck_b (ck_tk ow t0)) := by simp [ck_tk, ck_b, c_1]
    exact W.zret (ty := .boolean) (v := 0) hx hb hr rfl (fun t ht _ => ⟨congrArg (fun z => Outcome.returned (some (Value.int z))) hres, by rw [ht]; exact hP9, hD9, hS.F ht⟩) hS.2.2 dX0_tick_18
  · rw [lg_cmp_lt] at c_1
    refine lv_lload_n hx hb dX0_tick_9 rfl (lv_at hl 1 rfl) ?_
    refine lv_ldc2 (v := ck_TIME) hx hb hown (hts (.constantLong RX0 123 ck_TIME) (by decide +kernel)) dX0_tick_10 ?_
    refine W.lcmp hx hb dX0_tick_13 ?_
    refine lv_if_le (tgt := 19) hx hb dX0_tick_14 (by decide) (fun c_2 => ?_) (fun c_2 => ?_)
    · rw [lg_cmp_le] at c_2
      refine lv_lload_n hx hb dX0_tick_19 rfl (lv_at hl 1 rfl) ?_
      refine lv_aload_n hx hb dX0_tick_20 rfl (lv_at hl 0 rfl) ?_
      refine va_get (D := D) (ci := 0) (v := .long ow) (C := RX0) (T := TX0) (N := 6) hx hb hts hin hown hK hP 0 rfl rfl 3 (by decide) (hts (.fieldLink RX0 20 "ClockDesk" "ownTime" "J") (by decide +kernel)) (fun _ h9 => h9) rfl dX0_tick_21 ?_
      refine lv_lsub hx hb dX0_tick_24 ?_
      refine lv_ldc2 (v := 2000) hx hb hown (hts (.constantLong RX0 125 2000) (by decide +kernel)) dX0_tick_25 ?_
      refine lv_ldiv hx hb dX0_tick_28 (by decide) ?_
      refine lv_lstore_n (lv' := [(3, .long ((t0 - ow) / 2000)), (0, .ref h), (1, .long t0)]) hx hb dX0_tick_29 rfl hl (by decide) rfl (fun ls hl => ?_)
      refine lv_aload_n hx hb dX0_tick_30 rfl (lv_at hl 1 rfl) ?_
      refine lv_dup hx hb dX0_tick_31 rfl ?_
      refine va_get (D := D) (ci := 0) (v := .long off) (C := RX0) (T := TX0) (N := 6) hx hb hts hin hown hK hP 0 rfl rfl 4 (by decide) (hts (.fieldLink RX0 24 "ClockDesk" "clockOffset" "J") (by decide +kernel)) (fun _ h9 => h9) rfl dX0_tick_32 ?_
      refine lv_lload_n hx hb dX0_tick_35 rfl (lv_at hl 0 rfl) ?_
      refine lv_lneg hx hb dX0_tick_36 ?_
      refine lv_lload_n hx hb dX0_tick_37 rfl (lv_at hl 0 rfl) ?_
      refine lv_aload_n hx hb dX0_tick_38 rfl (lv_at hl 1 rfl) ?_
      refine va_get (D := D) (ci := 0) (v := .long go) (C := RX0) (T := TX0) (N := 6) hx hb hts hin hown hK hP 0 rfl rfl 5 (by decide) (hts (.fieldLink RX0 27 "ClockDesk" "goal" "J") (by decide +kernel)) (fun _ h9 => h9) rfl dX0_tick_39 ?_
      refine lv_aload_n hx hb dX0_tick_42 rfl (lv_at hl 1 rfl) ?_
      refine va_get (D := D) (ci := 0) (v := .long off) (C := RX0) (T := TX0) (N := 6) hx hb hts hin hown hK hP 0 rfl rfl 4 (by decide) (hts (.fieldLink RX0 24 "ClockDesk" "clockOffset" "J") (by decide +kernel)) (fun _ h9 => h9) rfl dX0_tick_43 ?_
      refine lv_lsub hx hb dX0_tick_46 ?_
      refine ck_mmin hx hb (hml.trans hl.1.symm) hown (hts (.methodLink RX0 127 Lib.MathLoose.min_long.x) (by decide +kernel)) (hts (.static Lib.MathLoose.min_long.x) (by decide +kernel)) (hts (.initialized "java/lang/Math") (by decide +kernel)) (hts (.code Lib.MathLoose.min_long.x Lib.MathLoose.min_long.code 4 (some .long)) (by decide +kernel)) (Nat.le_of_ble_eq_true rfl) (Nat.le_of_ble_eq_true rfl) (Nat.le_of_ble_eq_true rfl) (Nat.le_of_ble_eq_true rfl) dX0_tick_47 ?_
      refine ck_mmax hx hb (hml.trans hl.1.symm) hown (hts (.methodLink RX0 131 Lib.MathLoose.max_long.x) (by decide +kernel)) (hts (.static Lib.MathLoose.max_long.x) (by decide +kernel)) (hts (.initialized "java/lang/Math") (by decide +kernel)) (hts (.code Lib.MathLoose.max_long.x Lib.MathLoose.max_long.code 4 (some .long)) (by decide +kernel)) (Nat.le_of_ble_eq_true rfl) (Nat.le_of_ble_eq_true rfl) (Nat.le_of_ble_eq_true rfl) (Nat.le_of_ble_eq_true rfl) dX0_tick_50 ?_
      refine lv_ladd hx hb dX0_tick_53 ?_
      refine va_put (D := D) (ci := 0) (v := .long (off + (ck_max (-((t0 - ow) / 2000)) (ck_min ((t0 - ow) / 2000) (go - off))))) (ty := .long) (C := RX0) (T := TX0) (N := 6) hx hb hts hin tyX0 tyX0_ok nmX0 hown hK hP hD hS 0 rfl rfl 4 (by decide) (hts (.fieldLink RX0 24 "ClockDesk" "clockOffset" "J") (by decide +kernel)) (fun _ h9 => h9) rfl (by decide +kernel) rfl rfl (Nat.le_of_ble_eq_true rfl) dX0_tick_54 (fun H locs hP hD hS => ?_)
      have hP : va_P D vwCl [(h, .inr (0, [.ref a1, .ref a2, .int hd, .long ow, .long (off + (ck_max (-((t0 - ow) / 2000)) (ck_min ((t0 - ow) / 2000) (go - off)))), .long go])), (a1, .inl (c1, 24, .inr (.inl lo))), (a2, .inl (c2, 24, .inr (.inl hi)))] H := hP
      have hD : va_D A [(h, .inr (0, [.ref a1, .ref a2, .int hd, .long ow, .long (off + (ck_max (-((t0 - ow) / 2000)) (ck_min ((t0 - ow) / 2000) (go - off)))), .long go])), (a1, .inl (c1, 24, .inr (.inl lo))), (a2, .inl (c2, 24, .inr (.inl hi)))] := hD
      refine lv_aload_n hx hb dX0_tick_57 rfl (lv_at hl 1 rfl) ?_
      refine lv_lload_n hx hb dX0_tick_58 rfl (lv_at hl 2 rfl) ?_
      refine va_put (D := D) (ci := 0) (v := .long t0) (ty := .long) (C := RX0) (T := TX0) (N := 6) hx hb hts hin tyX0 tyX0_ok nmX0 hown hK hP hD hS 0 rfl rfl 3 (by decide) (hts (.fieldLink RX0 20 "ClockDesk" "ownTime" "J") (by decide +kernel)) (fun _ h9 => h9) rfl (by decide +kernel) rfl rfl (Nat.le_of_ble_eq_true rfl) dX0_tick_59 (fun H locs hP hD hS => ?_)
      have hP : va_P D vwCl [(h, .inr (0, [.ref a1, .ref a2, .int hd, .long t0, .long (off + (ck_max (-((t0 - ow) / 2000)) (ck_min ((t0 - ow) / 2000) (go - off)))), .long go])), (a1, .inl (c1, 24, .inr (.inl lo))), (a2, .inl (c2, 24, .inr (.inl hi)))] H := hP
      have hD : va_D A [(h, .inr (0, [.ref a1, .ref a2, .int hd, .long t0, .long (off + (ck_max (-((t0 - ow) / 2000)) (ck_min ((t0 - ow) / 2000) (go - off)))), .long go])), (a1, .inl (c1, 24, .inr (.inl lo))), (a2, .inl (c2, 24, .inr (.inl hi)))] := hD
      refine lv_iconst (v := 1) hx hb dX0_tick_62 (by decide) ?_
      have hw_off : (off + (ck_max (-((t0 - ow) / 2000)) (ck_min ((t0 - ow) / 2000) (go - off)))) = (ck_tO ow off go t0) := by simp [ck_tO, ck_tW, ck_tk, c_1, c_2]
      have hw_ow : t0 = (ck_tW ow t0) := by simp [ck_tO, ck_tW, ck_tk, c_1, c_2]
      have hP9 : va_P D vwCl [(h, .inr (0, [.ref a1, .ref a2, .int hd, .long (ck_tW ow t0), .long (ck_tO ow off go t0), .long go])), (a1, .inl (c1, 24, .inr (.inl lo))), (a2, .inl (c2, 24, .inr (.inl hi)))] H := by rw [← hw_off, ← hw_ow]; exact hP
      have hD9 : va_D A [(h, .inr (0, [.ref a1, .ref a2, .int hd, .long (ck_tW ow t0), .long (ck_tO ow off go t0), .long go])), (a1, .inl (c1, 24, .inr (.inl lo))), (a2, .inl (c2, 24, .inr (.inl hi)))] := by rw [← hw_off, ← hw_ow]; exact hD
      have hres : 1 = (ck_b (ck_tk ow t0)) := by simp [ck_tk, ck_b, c_1, c_2]
      exact W.zret (ty := .boolean) (v := 1) hx hb hr rfl (fun t ht _ => ⟨congrArg (fun z => Outcome.returned (some (Value.int z))) hres, by rw [ht]; exact hP9, hD9, hS.F ht⟩) hS.2.2 dX0_tick_63
    · rw [lg_cmp_le] at c_2
      refine lv_iconst (v := 0) hx hb dX0_tick_17 (by decide) ?_
      have hw_off : off = (ck_tO ow off go t0) := by simp [ck_tO, ck_tW, ck_tk, c_1, c_2]
      have hw_ow : ow = (ck_tW ow t0) := by simp [ck_tO, ck_tW, ck_tk, c_1, c_2]
      have hP9 : va_P D vwCl [(h, .inr (0, [.ref a1, .ref a2, .int hd, .long (ck_tW ow t0), .long (ck_tO ow off go t0), .long go])), (a1, .inl (c1, 24, .inr (.inl lo))), (a2, .inl (c2, 24, .inr (.inl hi)))] s.heap := by rw [← hw_off, ← hw_ow]; exact hP
      have hD9 : va_D A [(h, .inr (0, [.ref a1, .ref a2, .int hd, .long (ck_tW ow t0), .long (ck_tO ow off go t0), .long go])), (a1, .inl (c1, 24, .inr (.inl lo))), (a2, .inl (c2, 24, .inr (.inl hi)))] := by rw [← hw_off, ← hw_ow]; exact hD
      have hres : 0 = (ck_b (ck_tk ow t0)) := by simp [ck_tk, ck_b, c_1, c_2]
      exact W.zret (ty := .boolean) (v := 0) hx hb hr rfl (fun t ht _ => ⟨congrArg (fun z => Outcome.returned (some (Value.int z))) hres, by rw [ht]; exact hP9, hD9, hS.F ht⟩) hS.2.2 dX0_tick_18

set_option maxHeartbeats 4000000 in
set_option maxRecDepth 100000 in
theorem c_X0_steer (l : Launch) (D : va_G) (h a1 a2 : Nat) (c1 c2 : ClassId) (lo hi : Nat → Int64) (hd : Int32) (ow off go : Int64) (sz : Nat)   : Met l yX0_steer wsX0_steer { frames := 6, cells := 0, slots := 0, locals := 139 } (va_Pc [.ref h] (ck_Cw D [(h, .inr (0, [.ref a1, .ref a2, .int hd, .long ow, .long off, .long go])), (a1, .inl (c1, 24, .inr (.inl lo))), (a2, .inl (c2, 24, .inr (.inl hi)))] (xT c1 c2) sz)) (ck_Wr (some (.int (ck_b (ck_sk hd lo hi)))) D [(h, .inr (0, [.ref a1, .ref a2, .int hd, .long ow, .long off, .long (ck_sG hd lo hi go)])), (a1, .inl (c1, 24, .inr (.inl lo))), (a2, .inl (c2, 24, .inr (.inl hi)))] (va_A [(h, .inr (0, [.ref a1, .ref a2, .int hd, .long ow, .long off, .long go])), (a1, .inl (c1, 24, .inr (.inl lo))), (a2, .inl (c2, 24, .inr (.inl hi)))] sz)) 0 0 (va_A [(h, .inr (0, [.ref a1, .ref a2, .int hd, .long ow, .long off, .long go])), (a1, .inl (c1, 24, .inr (.inl lo))), (a2, .inl (c2, 24, .inr (.inl hi)))] sz) := by
  refine Met.ofW (cc := cX0_steer) (maxL := 1) (ret := (some .boolean)) (by decide) rfl ?_
  intro p e s m args below meth c s₁ B hml hv
  obtain ⟨rfl, hsz, hP, hK, hD0⟩ := hv
  have hx := B.exec
  have hb := B.bytes
  have hr := B.returns
  have hts := atoms_spec (ws := wsX0_steer) B.pre
  have hown : s.vm.findClass RX0 = some m.cls := findClass_of_methodNamed B.named
  have hlocks := B.notSynchronized
  have hin : ∀ w ∈ wsX00, w ∈ wsX0_steer := fun _ h => List.mem_cons_of_mem _ (List.mem_append_right _ h)
  subst hsz
  have hD := hD0.self (sz := s.heap.size)
  generalize hAe : va_A [(h, .inr (0, [.ref a1, .ref a2, .int hd, .long ow, .long off, .long go])), (a1, .inl (c1, 24, .inr (.inl lo))), (a2, .inl (c2, 24, .inr (.inl hi)))] s.heap.size = A at hD ⊢
  have hA : ∀ q : Nat, s.heap.size ≤ q → A q := fun q h => by rw [← hAe]; exact Or.inr h
  have hS : va_S A s.heap s.heap [] := va_S.rf
  have hl := lv_entry ([.ref h]) (n := 1) (Nat.le_of_ble_eq_true rfl)
  rw [lg_entry_eq]
  generalize (lg_sl ([.ref h]) ++ List.replicate (1 - (lg_sl ([.ref h])).length) Slot.unset).toArray = ls at hl ⊢
  have hl : lv_has ls 1 [(0, .ref h)] := hl
  refine lv_iconst (v := 2) hx hb dX0_steer_0 (by decide) ?_
  refine lv_aload_n hx hb dX0_steer_1 rfl (lv_at hl 0 rfl) ?_
  refine ck_cV (As := []) (rest := [.int 2]) ⟨hx, hb, hml, hown, hts⟩ (c_X0_greatest l D h a1 a2 c1 c2 lo hi hd ow off go ) (cwV 0 hts gX0_steer_X0_greatest rfl rfl rfl (by decide +kernel) ⟨Nat.le_of_ble_eq_true rfl, Nat.le_of_ble_eq_true rfl⟩) hP hK (va_recv hK hP (ci := 0) (q0 := 0) rfl rfl) rfl hl.1 rfl (Nat.le_of_ble_eq_true rfl) dX0_steer_2 ⟨Nat.le_of_ble_eq_true rfl, Nat.le_of_ble_eq_true rfl⟩ ?_
  refine lv_imul hx hb dX0_steer_5 ?_
  refine lv_aload_n hx hb dX0_steer_6 rfl (lv_at hl 0 rfl) ?_
  refine ck_cV (As := []) (rest := [.int (2 * (ck_gr (bt hd) lo hi 24))]) ⟨hx, hb, hml, hown, hts⟩ (c_X0_sources l D h a1 a2 c1 c2 lo hi hd ow off go ) (cwV 0 hts gX0_steer_X0_sources rfl rfl rfl (by decide +kernel) ⟨Nat.le_of_ble_eq_true rfl, Nat.le_of_ble_eq_true rfl⟩) hP hK (va_recv hK hP (ci := 0) (q0 := 0) rfl rfl) rfl hl.1 rfl (Nat.le_of_ble_eq_true rfl) dX0_steer_7 ⟨Nat.le_of_ble_eq_true rfl, Nat.le_of_ble_eq_true rfl⟩ ?_
  refine lv_icmp_gt (tgt := 15) hx hb dX0_steer_10 (by decide) (fun c_1 => ?_) (fun c_1 => ?_)
  · refine lv_aload_n hx hb dX0_steer_15 rfl (lv_at hl 0 rfl) ?_
    refine lv_aload_n hx hb dX0_steer_16 rfl (lv_at hl 0 rfl) ?_
    refine lv_iconst (v := 0) hx hb dX0_steer_17 (by decide) ?_
    refine ck_cV (As := [.int 0]) (rest := [.ref h]) ⟨hx, hb, hml, hown, hts⟩ (c_X0_region l D h a1 a2 c1 c2 lo hi hd ow off go 0) (cwV 1 hts gX0_steer_X0_region rfl rfl rfl (by decide +kernel) ⟨Nat.le_of_ble_eq_true rfl, Nat.le_of_ble_eq_true rfl⟩) hP hK (va_recv hK hP (ci := 0) (q0 := 0) rfl rfl) rfl hl.1 rfl (Nat.le_of_ble_eq_true rfl) dX0_steer_18 ⟨Nat.le_of_ble_eq_true rfl, Nat.le_of_ble_eq_true rfl⟩ ?_
    refine lv_aload_n hx hb dX0_steer_21 rfl (lv_at hl 0 rfl) ?_
    refine lv_iconst (v := 1) hx hb dX0_steer_22 (by decide) ?_
    refine ck_cV (As := [.int 1]) (rest := [.long (ck_rg hd lo hi 0), .ref h]) ⟨hx, hb, hml, hown, hts⟩ (c_X0_region l D h a1 a2 c1 c2 lo hi hd ow off go 1) (cwV 1 hts gX0_steer_X0_region rfl rfl rfl (by decide +kernel) ⟨Nat.le_of_ble_eq_true rfl, Nat.le_of_ble_eq_true rfl⟩) hP hK (va_recv hK hP (ci := 0) (q0 := 0) rfl rfl) rfl hl.1 rfl (Nat.le_of_ble_eq_true rfl) dX0_steer_23 ⟨Nat.le_of_ble_eq_true rfl, Nat.le_of_ble_eq_true rfl⟩ ?_
    refine lv_ladd hx hb dX0_steer_26 ?_
    refine ck_cS (As := [.long ((ck_rg hd lo hi 0) + (ck_rg hd lo hi 1))]) (rest := [.ref h]) ⟨hx, hb, hml, hown, hts⟩ (c_X0_half l ((ck_rg hd lo hi 0) + (ck_rg hd lo hi 1))) (va_cwS 1 hts gX0_steer_X0_half rfl rfl rfl (by decide +kernel) ⟨Nat.le_of_ble_eq_true rfl, Nat.le_of_ble_eq_true rfl⟩) rfl hl.1 rfl (Nat.le_of_ble_eq_true rfl) dX0_steer_27 ⟨Nat.le_of_ble_eq_true rfl, Nat.le_of_ble_eq_true rfl⟩ ?_
    refine va_put (D := D) (ci := 0) (v := .long (ck_half ((ck_rg hd lo hi 0) + (ck_rg hd lo hi 1)))) (ty := .long) (C := RX0) (T := TX0) (N := 6) hx hb hts hin tyX0 tyX0_ok nmX0 hown hK hP hD hS 0 rfl rfl 5 (by decide) (hts (.fieldLink RX0 27 "ClockDesk" "goal" "J") (by decide +kernel)) (fun _ h9 => h9) rfl (by decide +kernel) rfl rfl (Nat.le_of_ble_eq_true rfl) dX0_steer_30 (fun H locs hP hD hS => ?_)
    have hP : va_P D vwCl [(h, .inr (0, [.ref a1, .ref a2, .int hd, .long ow, .long off, .long (ck_half ((ck_rg hd lo hi 0) + (ck_rg hd lo hi 1)))])), (a1, .inl (c1, 24, .inr (.inl lo))), (a2, .inl (c2, 24, .inr (.inl hi)))] H := hP
    have hD : va_D A [(h, .inr (0, [.ref a1, .ref a2, .int hd, .long ow, .long off, .long (ck_half ((ck_rg hd lo hi 0) + (ck_rg hd lo hi 1)))])), (a1, .inl (c1, 24, .inr (.inl lo))), (a2, .inl (c2, 24, .inr (.inl hi)))] := hD
    refine lv_iconst (v := 1) hx hb dX0_steer_33 (by decide) ?_
    have hw_go : (ck_half ((ck_rg hd lo hi 0) + (ck_rg hd lo hi 1))) = (ck_sG hd lo hi go) := by simp [ck_sG, ck_sk, c_1]
    have hP9 : va_P D vwCl [(h, .inr (0, [.ref a1, .ref a2, .int hd, .long ow, .long off, .long (ck_sG hd lo hi go)])), (a1, .inl (c1, 24, .inr (.inl lo))), (a2, .inl (c2, 24, .inr (.inl hi)))] H := by rw [← hw_go]; exact hP
    have hD9 : va_D A [(h, .inr (0, [.ref a1, .ref a2, .int hd, .long ow, .long off, .long (ck_sG hd lo hi go)])), (a1, .inl (c1, 24, .inr (.inl lo))), (a2, .inl (c2, 24, .inr (.inl hi)))] := by rw [← hw_go]; exact hD
    have hres : 1 = (ck_b (ck_sk hd lo hi)) := by simp [ck_sk, ck_b, c_1]
    exact W.zret (ty := .boolean) (v := 1) hx hb hr rfl (fun t ht _ => ⟨congrArg (fun z => Outcome.returned (some (Value.int z))) hres, by rw [ht]; exact hP9, hD9, hS.F ht⟩) hS.2.2 dX0_steer_34
  · refine lv_iconst (v := 0) hx hb dX0_steer_13 (by decide) ?_
    have hw_go : go = (ck_sG hd lo hi go) := by simp [ck_sG, ck_sk, c_1]
    have hP9 : va_P D vwCl [(h, .inr (0, [.ref a1, .ref a2, .int hd, .long ow, .long off, .long (ck_sG hd lo hi go)])), (a1, .inl (c1, 24, .inr (.inl lo))), (a2, .inl (c2, 24, .inr (.inl hi)))] s.heap := by rw [← hw_go]; exact hP
    have hD9 : va_D A [(h, .inr (0, [.ref a1, .ref a2, .int hd, .long ow, .long off, .long (ck_sG hd lo hi go)])), (a1, .inl (c1, 24, .inr (.inl lo))), (a2, .inl (c2, 24, .inr (.inl hi)))] := by rw [← hw_go]; exact hD
    have hres : 0 = (ck_b (ck_sk hd lo hi)) := by simp [ck_sk, ck_b, c_1]
    exact W.zret (ty := .boolean) (v := 0) hx hb hr rfl (fun t ht _ => ⟨congrArg (fun z => Outcome.returned (some (Value.int z))) hres, by rw [ht]; exact hP9, hD9, hS.F ht⟩) hS.2.2 dX0_steer_14
end
section
set_option maxHeartbeats 4000000 in
set_option maxRecDepth 100000 in
theorem c_X1_interval (l : Launch) (D : va_G) (h a0 a1 a2 : Nat) (c0 c1 c2 : ClassId) (lo hi : Nat → Int64) (hd : Int32) (ow off go : Int64) (inv : ck_inv hd lo hi) (sz : Nat) (x : Int32) (a : Int64) (b : Int64)  : Met l yX1_interval wsX1_interval { frames := 1, cells := 0, slots := 0, locals := 20 } (va_Pc [.ref h, .int x, .long a, .long b] (ck_Cw D [(h, .inr (1, [.ref a0, .ref a1, .ref a2, .long ow, .long off, .long go])), (a0, .inl (c0, 24, .inl (ck_bz (bt hd)))), (a1, .inl (c1, 24, .inr (.inl lo))), (a2, .inl (c2, 24, .inr (.inl hi)))] (mT c0 c1 c2) sz)) (ck_Wr (some (.int (ck_b (ck_ivk x a b)))) D [(h, .inr (1, [.ref a0, .ref a1, .ref a2, .long ow, .long off, .long go])), (a0, .inl (c0, 24, .inl (ck_bz (bt (ck_uH (ck_ivk x a b) hd x))))), (a1, .inl (c1, 24, .inr (.inl (ck_uL (ck_ivk x a b) lo x a)))), (a2, .inl (c2, 24, .inr (.inl (ck_uL (ck_ivk x a b) hi x b))))] (va_A [(h, .inr (1, [.ref a0, .ref a1, .ref a2, .long ow, .long off, .long go])), (a0, .inl (c0, 24, .inl (ck_bz (bt hd)))), (a1, .inl (c1, 24, .inr (.inl lo))), (a2, .inl (c2, 24, .inr (.inl hi)))] sz)) 0 0 (va_A [(h, .inr (1, [.ref a0, .ref a1, .ref a2, .long ow, .long off, .long go])), (a0, .inl (c0, 24, .inl (ck_bz (bt hd)))), (a1, .inl (c1, 24, .inr (.inl lo))), (a2, .inl (c2, 24, .inr (.inl hi)))] sz) := by
  refine Met.ofW (cc := cX1_interval) (maxL := 6) (ret := (some .boolean)) (by decide) rfl ?_
  intro p e s m args below meth c s₁ B hml hv
  obtain ⟨rfl, hsz, hP, hK, hD0⟩ := hv
  have hx := B.exec
  have hb := B.bytes
  have hr := B.returns
  have hts := atoms_spec (ws := wsX1_interval) B.pre
  have hown : s.vm.findClass RX1 = some m.cls := findClass_of_methodNamed B.named
  have hlocks := B.notSynchronized
  have hin : ∀ w ∈ wsX10, w ∈ wsX1_interval := fun _ h => List.mem_cons_of_mem _ (List.mem_append_right _ h)
  subst hsz
  have hD := hD0.self (sz := s.heap.size)
  generalize hAe : va_A [(h, .inr (1, [.ref a0, .ref a1, .ref a2, .long ow, .long off, .long go])), (a0, .inl (c0, 24, .inl (ck_bz (bt hd)))), (a1, .inl (c1, 24, .inr (.inl lo))), (a2, .inl (c2, 24, .inr (.inl hi)))] s.heap.size = A at hD ⊢
  have hA : ∀ q : Nat, s.heap.size ≤ q → A q := fun q h => by rw [← hAe]; exact Or.inr h
  have hS : va_S A s.heap s.heap [] := va_S.rf
  have hl := lv_entry ([.ref h, .int x, .long a, .long b]) (n := 6) (Nat.le_of_ble_eq_true rfl)
  rw [lg_entry_eq]
  generalize (lg_sl ([.ref h, .int x, .long a, .long b]) ++ List.replicate (6 - (lg_sl ([.ref h, .int x, .long a, .long b])).length) Slot.unset).toArray = ls at hl ⊢
  have hl : lv_has ls 6 [(0, .ref h), (1, .int x), (2, .long a), (4, .long b)] := hl
  refine lv_iload_n hx hb dX1_interval_0 rfl (lv_at hl 1 rfl) ?_
  refine ck_cS (As := [.int x]) (rest := []) ⟨hx, hb, hml, hown, hts⟩ (c_X1_isSource l x) (va_cwS 1 hts gX1_interval_X1_isSource rfl rfl rfl (by decide +kernel) ⟨Nat.le_of_ble_eq_true rfl, Nat.le_of_ble_eq_true rfl⟩) rfl hl.1 rfl (Nat.le_of_ble_eq_true rfl) dX1_interval_1 ⟨Nat.le_of_ble_eq_true rfl, Nat.le_of_ble_eq_true rfl⟩ ?_
  refine lv_if_eq (tgt := 31) hx hb dX1_interval_4 (by decide) (fun c_1 => ?_) (fun c_1 => ?_)
  · have c_1 := ck_bf c_1
    refine lv_iconst (v := 0) hx hb dX1_interval_31 (by decide) ?_
    have hw_zs : (ck_bz (bt hd)) = (ck_bz (bt (ck_uH (ck_ivk x a b) hd x))) := by first | (rw [ck_bz_on hd hjx]; simp [ck_uH, ck_ivk, c_1]; done) | (simp [ck_uH, ck_ivk, c_1]; done)
    have hw_lo : lo = (ck_uL (ck_ivk x a b) lo x a) := by simp [ck_uL, ck_ivk, c_1]
    have hw_hi : hi = (ck_uL (ck_ivk x a b) hi x b) := by simp [ck_uL, ck_ivk, c_1]
    have hP9 : va_P D vwCl [(h, .inr (1, [.ref a0, .ref a1, .ref a2, .long ow, .long off, .long go])), (a0, .inl (c0, 24, .inl (ck_bz (bt (ck_uH (ck_ivk x a b) hd x))))), (a1, .inl (c1, 24, .inr (.inl (ck_uL (ck_ivk x a b) lo x a)))), (a2, .inl (c2, 24, .inr (.inl (ck_uL (ck_ivk x a b) hi x b))))] s.heap := by rw [← hw_zs, ← hw_lo, ← hw_hi]; exact hP
    have hD9 : va_D A [(h, .inr (1, [.ref a0, .ref a1, .ref a2, .long ow, .long off, .long go])), (a0, .inl (c0, 24, .inl (ck_bz (bt (ck_uH (ck_ivk x a b) hd x))))), (a1, .inl (c1, 24, .inr (.inl (ck_uL (ck_ivk x a b) lo x a)))), (a2, .inl (c2, 24, .inr (.inl (ck_uL (ck_ivk x a b) hi x b))))] := by rw [← hw_zs, ← hw_lo, ← hw_hi]; exact hD
    have hres : 0 = (ck_b (ck_ivk x a b)) := by simp [ck_ivk, ck_b, c_1]
    exact W.zret (ty := .boolean) (v := 0) hx hb hr rfl (fun t ht _ => ⟨congrArg (fun z => Outcome.returned (some (Value.int z))) hres, by rw [ht]; exact hP9, hD9, hS.F ht⟩) hS.2.2 dX1_interval_32
  · have c_1 := ck_bt c_1
    obtain ⟨jx, hjx, rfl⟩ := ck_srcE c_1
    have hcjx : (nI jx).toNatClampNeg = jx := nI_clamp (by omega)
    refine lv_lload_n hx hb dX1_interval_7 rfl (lv_at hl 2 rfl) ?_
    refine lv_ldc2 (v := ck_NFAR) hx hb hown (hts (.constantLong RX1 24 ck_NFAR) (by decide +kernel)) dX1_interval_8 ?_
    refine W.lcmp hx hb dX1_interval_11 ?_
    refine lv_if_lt (tgt := 31) hx hb dX1_interval_12 (by decide) (fun c_2 => ?_) (fun c_2 => ?_)
    · rw [lg_cmp_lt] at c_2
      refine lv_iconst (v := 0) hx hb dX1_interval_31 (by decide) ?_
      have hw_zs : (ck_bz (bt hd)) = (ck_bz (bt (ck_uH (ck_ivk (nI jx) a b) hd (nI jx)))) := by first | (rw [ck_bz_on hd hjx]; simp [ck_uH, ck_ivk, c_1, hcjx, c_2]; done) | (simp [ck_uH, ck_ivk, c_1, hcjx, c_2]; done)
      have hw_lo : lo = (ck_uL (ck_ivk (nI jx) a b) lo (nI jx) a) := by simp [ck_uL, ck_ivk, c_1, hcjx, c_2]
      have hw_hi : hi = (ck_uL (ck_ivk (nI jx) a b) hi (nI jx) b) := by simp [ck_uL, ck_ivk, c_1, hcjx, c_2]
      have hP9 : va_P D vwCl [(h, .inr (1, [.ref a0, .ref a1, .ref a2, .long ow, .long off, .long go])), (a0, .inl (c0, 24, .inl (ck_bz (bt (ck_uH (ck_ivk (nI jx) a b) hd (nI jx)))))), (a1, .inl (c1, 24, .inr (.inl (ck_uL (ck_ivk (nI jx) a b) lo (nI jx) a)))), (a2, .inl (c2, 24, .inr (.inl (ck_uL (ck_ivk (nI jx) a b) hi (nI jx) b))))] s.heap := by rw [← hw_zs, ← hw_lo, ← hw_hi]; exact hP
      have hD9 : va_D A [(h, .inr (1, [.ref a0, .ref a1, .ref a2, .long ow, .long off, .long go])), (a0, .inl (c0, 24, .inl (ck_bz (bt (ck_uH (ck_ivk (nI jx) a b) hd (nI jx)))))), (a1, .inl (c1, 24, .inr (.inl (ck_uL (ck_ivk (nI jx) a b) lo (nI jx) a)))), (a2, .inl (c2, 24, .inr (.inl (ck_uL (ck_ivk (nI jx) a b) hi (nI jx) b))))] := by rw [← hw_zs, ← hw_lo, ← hw_hi]; exact hD
      have hres : 0 = (ck_b (ck_ivk (nI jx) a b)) := by simp [ck_ivk, ck_b, c_1, hcjx, c_2]
      exact W.zret (ty := .boolean) (v := 0) hx hb hr rfl (fun t ht _ => ⟨congrArg (fun z => Outcome.returned (some (Value.int z))) hres, by rw [ht]; exact hP9, hD9, hS.F ht⟩) hS.2.2 dX1_interval_32
    · rw [lg_cmp_lt] at c_2
      refine lv_lload_n hx hb dX1_interval_15 rfl (lv_at hl 2 rfl) ?_
      refine lv_lload hx hb dX1_interval_16 (lv_at hl 3 rfl) ?_
      refine W.lcmp hx hb dX1_interval_18 ?_
      refine lv_if_gt (tgt := 31) hx hb dX1_interval_19 (by decide) (fun c_3 => ?_) (fun c_3 => ?_)
      · rw [lg_cmp_gt] at c_3
        refine lv_iconst (v := 0) hx hb dX1_interval_31 (by decide) ?_
        have hw_zs : (ck_bz (bt hd)) = (ck_bz (bt (ck_uH (ck_ivk (nI jx) a b) hd (nI jx)))) := by first | (rw [ck_bz_on hd hjx]; simp [ck_uH, ck_ivk, c_1, hcjx, c_2, c_3]; done) | (simp [ck_uH, ck_ivk, c_1, hcjx, c_2, c_3]; done)
        have hw_lo : lo = (ck_uL (ck_ivk (nI jx) a b) lo (nI jx) a) := by simp [ck_uL, ck_ivk, c_1, hcjx, c_2, c_3]
        have hw_hi : hi = (ck_uL (ck_ivk (nI jx) a b) hi (nI jx) b) := by simp [ck_uL, ck_ivk, c_1, hcjx, c_2, c_3]
        have hP9 : va_P D vwCl [(h, .inr (1, [.ref a0, .ref a1, .ref a2, .long ow, .long off, .long go])), (a0, .inl (c0, 24, .inl (ck_bz (bt (ck_uH (ck_ivk (nI jx) a b) hd (nI jx)))))), (a1, .inl (c1, 24, .inr (.inl (ck_uL (ck_ivk (nI jx) a b) lo (nI jx) a)))), (a2, .inl (c2, 24, .inr (.inl (ck_uL (ck_ivk (nI jx) a b) hi (nI jx) b))))] s.heap := by rw [← hw_zs, ← hw_lo, ← hw_hi]; exact hP
        have hD9 : va_D A [(h, .inr (1, [.ref a0, .ref a1, .ref a2, .long ow, .long off, .long go])), (a0, .inl (c0, 24, .inl (ck_bz (bt (ck_uH (ck_ivk (nI jx) a b) hd (nI jx)))))), (a1, .inl (c1, 24, .inr (.inl (ck_uL (ck_ivk (nI jx) a b) lo (nI jx) a)))), (a2, .inl (c2, 24, .inr (.inl (ck_uL (ck_ivk (nI jx) a b) hi (nI jx) b))))] := by rw [← hw_zs, ← hw_lo, ← hw_hi]; exact hD
        have hres : 0 = (ck_b (ck_ivk (nI jx) a b)) := by simp [ck_ivk, ck_b, c_1, hcjx, c_2, c_3]
        exact W.zret (ty := .boolean) (v := 0) hx hb hr rfl (fun t ht _ => ⟨congrArg (fun z => Outcome.returned (some (Value.int z))) hres, by rw [ht]; exact hP9, hD9, hS.F ht⟩) hS.2.2 dX1_interval_32
      · rw [lg_cmp_gt] at c_3
        refine lv_lload hx hb dX1_interval_22 (lv_at hl 3 rfl) ?_
        refine lv_ldc2 (v := ck_FAR) hx hb hown (hts (.constantLong RX1 26 ck_FAR) (by decide +kernel)) dX1_interval_24 ?_
        refine W.lcmp hx hb dX1_interval_27 ?_
        refine lv_if_le (tgt := 33) hx hb dX1_interval_28 (by decide) (fun c_4 => ?_) (fun c_4 => ?_)
        · rw [lg_cmp_le] at c_4
          refine lv_aload_n hx hb dX1_interval_33 rfl (lv_at hl 0 rfl) ?_
          refine va_get (D := D) (ci := 1) (v := .ref a0) (C := RX1) (T := TX1) (N := 6) hx hb hts hin hown hK hP 0 rfl rfl 0 (by decide) (hts (.fieldLink RX1 7 "ClockDeskModel" "is" "[Z") (by decide +kernel)) (fun _ h9 => h9) rfl dX1_interval_34 ?_
          refine lv_iload_n hx hb dX1_interval_37 rfl (lv_at hl 1 rfl) ?_
          refine lv_iconst (v := 1) hx hb dX1_interval_38 (by decide) ?_
          refine ck_zast hx hb hK hP hD hS 1 0 rfl rfl (i := jx) (x := 1) hjx rfl dX1_interval_39 (fun H locs hP hD hS => ?_)
          have hP : va_P D vwCl [(h, .inr (1, [.ref a0, .ref a1, .ref a2, .long ow, .long off, .long go])), (a0, .inl (c0, 24, .inl (upd (ck_bz (bt hd)) jx 1))), (a1, .inl (c1, 24, .inr (.inl lo))), (a2, .inl (c2, 24, .inr (.inl hi)))] H := hP
          have hD : va_D A [(h, .inr (1, [.ref a0, .ref a1, .ref a2, .long ow, .long off, .long go])), (a0, .inl (c0, 24, .inl (upd (ck_bz (bt hd)) jx 1))), (a1, .inl (c1, 24, .inr (.inl lo))), (a2, .inl (c2, 24, .inr (.inl hi)))] := hD
          refine lv_aload_n hx hb dX1_interval_40 rfl (lv_at hl 0 rfl) ?_
          refine va_get (D := D) (ci := 1) (v := .ref a1) (C := RX1) (T := TX1) (N := 6) hx hb hts hin hown hK hP 0 rfl rfl 1 (by decide) (hts (.fieldLink RX1 13 "ClockDeskModel" "low" "[J") (by decide +kernel)) (fun _ h9 => h9) rfl dX1_interval_41 ?_
          refine lv_iload_n hx hb dX1_interval_44 rfl (lv_at hl 1 rfl) ?_
          refine lv_lload_n hx hb dX1_interval_45 rfl (lv_at hl 2 rfl) ?_
          refine ck_last hx hb hK hP hD hS 2 1 rfl rfl (i := jx) (x := a) hjx dX1_interval_46 (fun H locs hP hD hS => ?_)
          have hP : va_P D vwCl [(h, .inr (1, [.ref a0, .ref a1, .ref a2, .long ow, .long off, .long go])), (a0, .inl (c0, 24, .inl (upd (ck_bz (bt hd)) jx 1))), (a1, .inl (c1, 24, .inr (.inl (vp_updL lo jx a)))), (a2, .inl (c2, 24, .inr (.inl hi)))] H := hP
          have hD : va_D A [(h, .inr (1, [.ref a0, .ref a1, .ref a2, .long ow, .long off, .long go])), (a0, .inl (c0, 24, .inl (upd (ck_bz (bt hd)) jx 1))), (a1, .inl (c1, 24, .inr (.inl (vp_updL lo jx a)))), (a2, .inl (c2, 24, .inr (.inl hi)))] := hD
          refine lv_aload_n hx hb dX1_interval_47 rfl (lv_at hl 0 rfl) ?_
          refine va_get (D := D) (ci := 1) (v := .ref a2) (C := RX1) (T := TX1) (N := 6) hx hb hts hin hown hK hP 0 rfl rfl 2 (by decide) (hts (.fieldLink RX1 17 "ClockDeskModel" "high" "[J") (by decide +kernel)) (fun _ h9 => h9) rfl dX1_interval_48 ?_
          refine lv_iload_n hx hb dX1_interval_51 rfl (lv_at hl 1 rfl) ?_
          refine lv_lload hx hb dX1_interval_52 (lv_at hl 3 rfl) ?_
          refine ck_last hx hb hK hP hD hS 3 2 rfl rfl (i := jx) (x := b) hjx dX1_interval_54 (fun H locs hP hD hS => ?_)
          have hP : va_P D vwCl [(h, .inr (1, [.ref a0, .ref a1, .ref a2, .long ow, .long off, .long go])), (a0, .inl (c0, 24, .inl (upd (ck_bz (bt hd)) jx 1))), (a1, .inl (c1, 24, .inr (.inl (vp_updL lo jx a)))), (a2, .inl (c2, 24, .inr (.inl (vp_updL hi jx b))))] H := hP
          have hD : va_D A [(h, .inr (1, [.ref a0, .ref a1, .ref a2, .long ow, .long off, .long go])), (a0, .inl (c0, 24, .inl (upd (ck_bz (bt hd)) jx 1))), (a1, .inl (c1, 24, .inr (.inl (vp_updL lo jx a)))), (a2, .inl (c2, 24, .inr (.inl (vp_updL hi jx b))))] := hD
          refine lv_iconst (v := 1) hx hb dX1_interval_55 (by decide) ?_
          have hw_zs : (upd (ck_bz (bt hd)) jx 1) = (ck_bz (bt (ck_uH (ck_ivk (nI jx) a b) hd (nI jx)))) := by first | (rw [ck_bz_on hd hjx]; simp [ck_uH, ck_ivk, c_1, hcjx, c_2, c_3, c_4]; done) | (simp [ck_uH, ck_ivk, c_1, hcjx, c_2, c_3, c_4]; done)
          have hw_lo : (vp_updL lo jx a) = (ck_uL (ck_ivk (nI jx) a b) lo (nI jx) a) := by simp [ck_uL, ck_ivk, c_1, hcjx, c_2, c_3, c_4]
          have hw_hi : (vp_updL hi jx b) = (ck_uL (ck_ivk (nI jx) a b) hi (nI jx) b) := by simp [ck_uL, ck_ivk, c_1, hcjx, c_2, c_3, c_4]
          have hP9 : va_P D vwCl [(h, .inr (1, [.ref a0, .ref a1, .ref a2, .long ow, .long off, .long go])), (a0, .inl (c0, 24, .inl (ck_bz (bt (ck_uH (ck_ivk (nI jx) a b) hd (nI jx)))))), (a1, .inl (c1, 24, .inr (.inl (ck_uL (ck_ivk (nI jx) a b) lo (nI jx) a)))), (a2, .inl (c2, 24, .inr (.inl (ck_uL (ck_ivk (nI jx) a b) hi (nI jx) b))))] H := by rw [← hw_zs, ← hw_lo, ← hw_hi]; exact hP
          have hD9 : va_D A [(h, .inr (1, [.ref a0, .ref a1, .ref a2, .long ow, .long off, .long go])), (a0, .inl (c0, 24, .inl (ck_bz (bt (ck_uH (ck_ivk (nI jx) a b) hd (nI jx)))))), (a1, .inl (c1, 24, .inr (.inl (ck_uL (ck_ivk (nI jx) a b) lo (nI jx) a)))), (a2, .inl (c2, 24, .inr (.inl (ck_uL (ck_ivk (nI jx) a b) hi (nI jx) b))))] := by rw [← hw_zs, ← hw_lo, ← hw_hi]; exact hD
          have hres : 1 = (ck_b (ck_ivk (nI jx) a b)) := by simp [ck_ivk, ck_b, c_1, hcjx, c_2, c_3, c_4]
          exact W.zret (ty := .boolean) (v := 1) hx hb hr rfl (fun t ht _ => ⟨congrArg (fun z => Outcome.returned (some (Value.int z))) hres, by rw [ht]; exact hP9, hD9, hS.F ht⟩) hS.2.2 dX1_interval_56
        · rw [lg_cmp_le] at c_4
          refine lv_iconst (v := 0) hx hb dX1_interval_31 (by decide) ?_
          have hw_zs : (ck_bz (bt hd)) = (ck_bz (bt (ck_uH (ck_ivk (nI jx) a b) hd (nI jx)))) := by first | (rw [ck_bz_on hd hjx]; simp [ck_uH, ck_ivk, c_1, hcjx, c_2, c_3, c_4]; done) | (simp [ck_uH, ck_ivk, c_1, hcjx, c_2, c_3, c_4]; done)
          have hw_lo : lo = (ck_uL (ck_ivk (nI jx) a b) lo (nI jx) a) := by simp [ck_uL, ck_ivk, c_1, hcjx, c_2, c_3, c_4]
          have hw_hi : hi = (ck_uL (ck_ivk (nI jx) a b) hi (nI jx) b) := by simp [ck_uL, ck_ivk, c_1, hcjx, c_2, c_3, c_4]
          have hP9 : va_P D vwCl [(h, .inr (1, [.ref a0, .ref a1, .ref a2, .long ow, .long off, .long go])), (a0, .inl (c0, 24, .inl (ck_bz (bt (ck_uH (ck_ivk (nI jx) a b) hd (nI jx)))))), (a1, .inl (c1, 24, .inr (.inl (ck_uL (ck_ivk (nI jx) a b) lo (nI jx) a)))), (a2, .inl (c2, 24, .inr (.inl (ck_uL (ck_ivk (nI jx) a b) hi (nI jx) b))))] s.heap := by rw [← hw_zs, ← hw_lo, ← hw_hi]; exact hP
          have hD9 : va_D A [(h, .inr (1, [.ref a0, .ref a1, .ref a2, .long ow, .long off, .long go])), (a0, .inl (c0, 24, .inl (ck_bz (bt (ck_uH (ck_ivk (nI jx) a b) hd (nI jx)))))), (a1, .inl (c1, 24, .inr (.inl (ck_uL (ck_ivk (nI jx) a b) lo (nI jx) a)))), (a2, .inl (c2, 24, .inr (.inl (ck_uL (ck_ivk (nI jx) a b) hi (nI jx) b))))] := by rw [← hw_zs, ← hw_lo, ← hw_hi]; exact hD
          have hres : 0 = (ck_b (ck_ivk (nI jx) a b)) := by simp [ck_ivk, ck_b, c_1, hcjx, c_2, c_3, c_4]
          exact W.zret (ty := .boolean) (v := 0) hx hb hr rfl (fun t ht _ => ⟨congrArg (fun z => Outcome.returned (some (Value.int z))) hres, by rw [ht]; exact hP9, hD9, hS.F ht⟩) hS.2.2 dX1_interval_32

set_option maxHeartbeats 4000000 in
set_option maxRecDepth 100000 in
theorem c_X1_exchange (l : Launch) (D : va_G) (h a0 a1 a2 : Nat) (c0 c1 c2 : ClassId) (lo hi : Nat → Int64) (hd : Int32) (ow off go : Int64) (inv : ck_inv hd lo hi) (sz : Nat) (x : Int32) (sn : Int64) (td : Int64) (cm : Int64)  : Met l yX1_exchange wsX1_exchange { frames := 1, cells := 0, slots := 0, locals := 21 } (va_Pc [.ref h, .int x, .long sn, .long td, .long cm] (ck_Cw D [(h, .inr (1, [.ref a0, .ref a1, .ref a2, .long ow, .long off, .long go])), (a0, .inl (c0, 24, .inl (ck_bz (bt hd)))), (a1, .inl (c1, 24, .inr (.inl lo))), (a2, .inl (c2, 24, .inr (.inl hi)))] (mT c0 c1 c2) sz)) (ck_Wr (some (.long (ck_exv x sn td cm))) D [(h, .inr (1, [.ref a0, .ref a1, .ref a2, .long ow, .long off, .long go])), (a0, .inl (c0, 24, .inl (ck_bz (bt (ck_uH (ck_exk x sn td cm) hd x))))), (a1, .inl (c1, 24, .inr (.inl (ck_uL (ck_exk x sn td cm) lo x (td - cm))))), (a2, .inl (c2, 24, .inr (.inl (ck_uL (ck_exk x sn td cm) hi x (td - sn)))))] (va_A [(h, .inr (1, [.ref a0, .ref a1, .ref a2, .long ow, .long off, .long go])), (a0, .inl (c0, 24, .inl (ck_bz (bt hd)))), (a1, .inl (c1, 24, .inr (.inl lo))), (a2, .inl (c2, 24, .inr (.inl hi)))] sz)) 0 0 (va_A [(h, .inr (1, [.ref a0, .ref a1, .ref a2, .long ow, .long off, .long go])), (a0, .inl (c0, 24, .inl (ck_bz (bt hd)))), (a1, .inl (c1, 24, .inr (.inl lo))), (a2, .inl (c2, 24, .inr (.inl hi)))] sz) := by
  refine Met.ofW (cc := cX1_exchange) (maxL := 8) (ret := (some .long)) (by decide) rfl ?_
  intro p e s m args below meth c s₁ B hml hv
  obtain ⟨rfl, hsz, hP, hK, hD0⟩ := hv
  have hx := B.exec
  have hb := B.bytes
  have hr := B.returns
  have hts := atoms_spec (ws := wsX1_exchange) B.pre
  have hown : s.vm.findClass RX1 = some m.cls := findClass_of_methodNamed B.named
  have hlocks := B.notSynchronized
  have hin : ∀ w ∈ wsX10, w ∈ wsX1_exchange := fun _ h => List.mem_cons_of_mem _ (List.mem_append_right _ h)
  subst hsz
  have hD := hD0.self (sz := s.heap.size)
  generalize hAe : va_A [(h, .inr (1, [.ref a0, .ref a1, .ref a2, .long ow, .long off, .long go])), (a0, .inl (c0, 24, .inl (ck_bz (bt hd)))), (a1, .inl (c1, 24, .inr (.inl lo))), (a2, .inl (c2, 24, .inr (.inl hi)))] s.heap.size = A at hD ⊢
  have hA : ∀ q : Nat, s.heap.size ≤ q → A q := fun q h => by rw [← hAe]; exact Or.inr h
  have hS : va_S A s.heap s.heap [] := va_S.rf
  have hl := lv_entry ([.ref h, .int x, .long sn, .long td, .long cm]) (n := 8) (Nat.le_of_ble_eq_true rfl)
  rw [lg_entry_eq]
  generalize (lg_sl ([.ref h, .int x, .long sn, .long td, .long cm]) ++ List.replicate (8 - (lg_sl ([.ref h, .int x, .long sn, .long td, .long cm])).length) Slot.unset).toArray = ls at hl ⊢
  have hl : lv_has ls 8 [(0, .ref h), (1, .int x), (2, .long sn), (4, .long td), (6, .long cm)] := hl
  refine lv_iload_n hx hb dX1_exchange_0 rfl (lv_at hl 1 rfl) ?_
  refine ck_cS (As := [.int x]) (rest := []) ⟨hx, hb, hml, hown, hts⟩ (c_X1_isSource l x) (va_cwS 1 hts gX1_exchange_X1_isSource rfl rfl rfl (by decide +kernel) ⟨Nat.le_of_ble_eq_true rfl, Nat.le_of_ble_eq_true rfl⟩) rfl hl.1 rfl (Nat.le_of_ble_eq_true rfl) dX1_exchange_1 ⟨Nat.le_of_ble_eq_true rfl, Nat.le_of_ble_eq_true rfl⟩ ?_
  refine lv_if_eq (tgt := 45) hx hb dX1_exchange_4 (by decide) (fun c_1 => ?_) (fun c_1 => ?_)
  · have c_1 := ck_bf c_1
    refine lv_ldc2 (v := ck_NO) hx hb hown (hts (.constantLong RX1 30 ck_NO) (by decide +kernel)) dX1_exchange_45 ?_
    have hw_zs : (ck_bz (bt hd)) = (ck_bz (bt (ck_uH (ck_exk x sn td cm) hd x))) := by first | (rw [ck_bz_on hd hjx, ck_exkE]; simp [ck_uH, ck_exm, c_1]; done) | (rw [ck_exkE]; simp [ck_uH, ck_exm, c_1]; done)
    have hw_lo : lo = (ck_uL (ck_exk x sn td cm) lo x (td - cm)) := by rw [ck_exkE]; simp [ck_uL, ck_exm, c_1]
    have hw_hi : hi = (ck_uL (ck_exk x sn td cm) hi x (td - sn)) := by rw [ck_exkE]; simp [ck_uL, ck_exm, c_1]
    have hP9 : va_P D vwCl [(h, .inr (1, [.ref a0, .ref a1, .ref a2, .long ow, .long off, .long go])), (a0, .inl (c0, 24, .inl (ck_bz (bt (ck_uH (ck_exk x sn td cm) hd x))))), (a1, .inl (c1, 24, .inr (.inl (ck_uL (ck_exk x sn td cm) lo x (td - cm))))), (a2, .inl (c2, 24, .inr (.inl (ck_uL (ck_exk x sn td cm) hi x (td - sn)))))] s.heap := by rw [← hw_zs, ← hw_lo, ← hw_hi]; exact hP
    have hD9 : va_D A [(h, .inr (1, [.ref a0, .ref a1, .ref a2, .long ow, .long off, .long go])), (a0, .inl (c0, 24, .inl (ck_bz (bt (ck_uH (ck_exk x sn td cm) hd x))))), (a1, .inl (c1, 24, .inr (.inl (ck_uL (ck_exk x sn td cm) lo x (td - cm))))), (a2, .inl (c2, 24, .inr (.inl (ck_uL (ck_exk x sn td cm) hi x (td - sn)))))] := by rw [← hw_zs, ← hw_lo, ← hw_hi]; exact hD
    have hres : ck_NO = (ck_exv x sn td cm) := by rw [ck_exv, ck_exkE]; simp [ck_exm, c_1]
    exact W.lret (v := ck_NO) hx hb hr (fun t ht _ => ⟨congrArg (fun z => Outcome.returned (some (Value.long z))) hres, by rw [ht]; exact hP9, hD9, hS.F ht⟩) hS.2.2 dX1_exchange_48
  · have c_1 := ck_bt c_1
    obtain ⟨jx, hjx, rfl⟩ := ck_srcE c_1
    have hcjx : (nI jx).toNatClampNeg = jx := nI_clamp (by omega)
    refine lv_lload_n hx hb dX1_exchange_7 rfl (lv_at hl 2 rfl) ?_
    refine lv_lconst (v := 0) hx hb dX1_exchange_8 (by decide) ?_
    refine W.lcmp hx hb dX1_exchange_9 ?_
    refine lv_if_lt (tgt := 45) hx hb dX1_exchange_10 (by decide) (fun c_2 => ?_) (fun c_2 => ?_)
    · rw [lg_cmp_lt] at c_2
      refine lv_ldc2 (v := ck_NO) hx hb hown (hts (.constantLong RX1 30 ck_NO) (by decide +kernel)) dX1_exchange_45 ?_
      have hw_zs : (ck_bz (bt hd)) = (ck_bz (bt (ck_uH (ck_exk (nI jx) sn td cm) hd (nI jx)))) := by first | (rw [ck_bz_on hd hjx, ck_exkE]; simp [ck_uH, ck_exm, c_1, hcjx, c_2]; done) | (rw [ck_exkE]; simp [ck_uH, ck_exm, c_1, hcjx, c_2]; done)
      have hw_lo : lo = (ck_uL (ck_exk (nI jx) sn td cm) lo (nI jx) (td - cm)) := by rw [ck_exkE]; simp [ck_uL, ck_exm, c_1, hcjx, c_2]
      have hw_hi : hi = (ck_uL (ck_exk (nI jx) sn td cm) hi (nI jx) (td - sn)) := by rw [ck_exkE]; simp [ck_uL, ck_exm, c_1, hcjx, c_2]
      have hP9 : va_P D vwCl [(h, .inr (1, [.ref a0, .ref a1, .ref a2, .long ow, .long off, .long go])), (a0, .inl (c0, 24, .inl (ck_bz (bt (ck_uH (ck_exk (nI jx) sn td cm) hd (nI jx)))))), (a1, .inl (c1, 24, .inr (.inl (ck_uL (ck_exk (nI jx) sn td cm) lo (nI jx) (td - cm))))), (a2, .inl (c2, 24, .inr (.inl (ck_uL (ck_exk (nI jx) sn td cm) hi (nI jx) (td - sn)))))] s.heap := by rw [← hw_zs, ← hw_lo, ← hw_hi]; exact hP
      have hD9 : va_D A [(h, .inr (1, [.ref a0, .ref a1, .ref a2, .long ow, .long off, .long go])), (a0, .inl (c0, 24, .inl (ck_bz (bt (ck_uH (ck_exk (nI jx) sn td cm) hd (nI jx)))))), (a1, .inl (c1, 24, .inr (.inl (ck_uL (ck_exk (nI jx) sn td cm) lo (nI jx) (td - cm))))), (a2, .inl (c2, 24, .inr (.inl (ck_uL (ck_exk (nI jx) sn td cm) hi (nI jx) (td - sn)))))] := by rw [← hw_zs, ← hw_lo, ← hw_hi]; exact hD
      have hres : ck_NO = (ck_exv (nI jx) sn td cm) := by rw [ck_exv, ck_exkE]; simp [ck_exm, c_1, hcjx, c_2]
      exact W.lret (v := ck_NO) hx hb hr (fun t ht _ => ⟨congrArg (fun z => Outcome.returned (some (Value.long z))) hres, by rw [ht]; exact hP9, hD9, hS.F ht⟩) hS.2.2 dX1_exchange_48
    · rw [lg_cmp_lt] at c_2
      refine lv_lload_n hx hb dX1_exchange_13 rfl (lv_at hl 2 rfl) ?_
      refine lv_lload hx hb dX1_exchange_14 (lv_at hl 4 rfl) ?_
      refine W.lcmp hx hb dX1_exchange_16 ?_
      refine lv_if_gt (tgt := 45) hx hb dX1_exchange_17 (by decide) (fun c_3 => ?_) (fun c_3 => ?_)
      · rw [lg_cmp_gt] at c_3
        refine lv_ldc2 (v := ck_NO) hx hb hown (hts (.constantLong RX1 30 ck_NO) (by decide +kernel)) dX1_exchange_45 ?_
        have hw_zs : (ck_bz (bt hd)) = (ck_bz (bt (ck_uH (ck_exk (nI jx) sn td cm) hd (nI jx)))) := by first | (rw [ck_bz_on hd hjx, ck_exkE]; simp [ck_uH, ck_exm, c_1, hcjx, c_2, c_3]; done) | (rw [ck_exkE]; simp [ck_uH, ck_exm, c_1, hcjx, c_2, c_3]; done)
        have hw_lo : lo = (ck_uL (ck_exk (nI jx) sn td cm) lo (nI jx) (td - cm)) := by rw [ck_exkE]; simp [ck_uL, ck_exm, c_1, hcjx, c_2, c_3]
        have hw_hi : hi = (ck_uL (ck_exk (nI jx) sn td cm) hi (nI jx) (td - sn)) := by rw [ck_exkE]; simp [ck_uL, ck_exm, c_1, hcjx, c_2, c_3]
        have hP9 : va_P D vwCl [(h, .inr (1, [.ref a0, .ref a1, .ref a2, .long ow, .long off, .long go])), (a0, .inl (c0, 24, .inl (ck_bz (bt (ck_uH (ck_exk (nI jx) sn td cm) hd (nI jx)))))), (a1, .inl (c1, 24, .inr (.inl (ck_uL (ck_exk (nI jx) sn td cm) lo (nI jx) (td - cm))))), (a2, .inl (c2, 24, .inr (.inl (ck_uL (ck_exk (nI jx) sn td cm) hi (nI jx) (td - sn)))))] s.heap := by rw [← hw_zs, ← hw_lo, ← hw_hi]; exact hP
        have hD9 : va_D A [(h, .inr (1, [.ref a0, .ref a1, .ref a2, .long ow, .long off, .long go])), (a0, .inl (c0, 24, .inl (ck_bz (bt (ck_uH (ck_exk (nI jx) sn td cm) hd (nI jx)))))), (a1, .inl (c1, 24, .inr (.inl (ck_uL (ck_exk (nI jx) sn td cm) lo (nI jx) (td - cm))))), (a2, .inl (c2, 24, .inr (.inl (ck_uL (ck_exk (nI jx) sn td cm) hi (nI jx) (td - sn)))))] := by rw [← hw_zs, ← hw_lo, ← hw_hi]; exact hD
        have hres : ck_NO = (ck_exv (nI jx) sn td cm) := by rw [ck_exv, ck_exkE]; simp [ck_exm, c_1, hcjx, c_2, c_3]
        exact W.lret (v := ck_NO) hx hb hr (fun t ht _ => ⟨congrArg (fun z => Outcome.returned (some (Value.long z))) hres, by rw [ht]; exact hP9, hD9, hS.F ht⟩) hS.2.2 dX1_exchange_48
      · rw [lg_cmp_gt] at c_3
        refine lv_lload hx hb dX1_exchange_20 (lv_at hl 4 rfl) ?_
        refine lv_ldc2 (v := ck_TIME) hx hb hown (hts (.constantLong RX1 28 ck_TIME) (by decide +kernel)) dX1_exchange_22 ?_
        refine W.lcmp hx hb dX1_exchange_25 ?_
        refine lv_if_gt (tgt := 45) hx hb dX1_exchange_26 (by decide) (fun c_4 => ?_) (fun c_4 => ?_)
        · rw [lg_cmp_gt] at c_4
          refine lv_ldc2 (v := ck_NO) hx hb hown (hts (.constantLong RX1 30 ck_NO) (by decide +kernel)) dX1_exchange_45 ?_
          have hw_zs : (ck_bz (bt hd)) = (ck_bz (bt (ck_uH (ck_exk (nI jx) sn td cm) hd (nI jx)))) := by first | (rw [ck_bz_on hd hjx, ck_exkE]; simp [ck_uH, ck_exm, c_1, hcjx, c_2, c_3, c_4]; done) | (rw [ck_exkE]; simp [ck_uH, ck_exm, c_1, hcjx, c_2, c_3, c_4]; done)
          have hw_lo : lo = (ck_uL (ck_exk (nI jx) sn td cm) lo (nI jx) (td - cm)) := by rw [ck_exkE]; simp [ck_uL, ck_exm, c_1, hcjx, c_2, c_3, c_4]
          have hw_hi : hi = (ck_uL (ck_exk (nI jx) sn td cm) hi (nI jx) (td - sn)) := by rw [ck_exkE]; simp [ck_uL, ck_exm, c_1, hcjx, c_2, c_3, c_4]
          have hP9 : va_P D vwCl [(h, .inr (1, [.ref a0, .ref a1, .ref a2, .long ow, .long off, .long go])), (a0, .inl (c0, 24, .inl (ck_bz (bt (ck_uH (ck_exk (nI jx) sn td cm) hd (nI jx)))))), (a1, .inl (c1, 24, .inr (.inl (ck_uL (ck_exk (nI jx) sn td cm) lo (nI jx) (td - cm))))), (a2, .inl (c2, 24, .inr (.inl (ck_uL (ck_exk (nI jx) sn td cm) hi (nI jx) (td - sn)))))] s.heap := by rw [← hw_zs, ← hw_lo, ← hw_hi]; exact hP
          have hD9 : va_D A [(h, .inr (1, [.ref a0, .ref a1, .ref a2, .long ow, .long off, .long go])), (a0, .inl (c0, 24, .inl (ck_bz (bt (ck_uH (ck_exk (nI jx) sn td cm) hd (nI jx)))))), (a1, .inl (c1, 24, .inr (.inl (ck_uL (ck_exk (nI jx) sn td cm) lo (nI jx) (td - cm))))), (a2, .inl (c2, 24, .inr (.inl (ck_uL (ck_exk (nI jx) sn td cm) hi (nI jx) (td - sn)))))] := by rw [← hw_zs, ← hw_lo, ← hw_hi]; exact hD
          have hres : ck_NO = (ck_exv (nI jx) sn td cm) := by rw [ck_exv, ck_exkE]; simp [ck_exm, c_1, hcjx, c_2, c_3, c_4]
          exact W.lret (v := ck_NO) hx hb hr (fun t ht _ => ⟨congrArg (fun z => Outcome.returned (some (Value.long z))) hres, by rw [ht]; exact hP9, hD9, hS.F ht⟩) hS.2.2 dX1_exchange_48
        · rw [lg_cmp_gt] at c_4
          refine lv_lload hx hb dX1_exchange_29 (lv_at hl 3 rfl) ?_
          refine lv_lconst (v := 0) hx hb dX1_exchange_31 (by decide) ?_
          refine W.lcmp hx hb dX1_exchange_32 ?_
          refine lv_if_lt (tgt := 45) hx hb dX1_exchange_33 (by decide) (fun c_5 => ?_) (fun c_5 => ?_)
          · rw [lg_cmp_lt] at c_5
            refine lv_ldc2 (v := ck_NO) hx hb hown (hts (.constantLong RX1 30 ck_NO) (by decide +kernel)) dX1_exchange_45 ?_
            have hw_zs : (ck_bz (bt hd)) = (ck_bz (bt (ck_uH (ck_exk (nI jx) sn td cm) hd (nI jx)))) := by first | (rw [ck_bz_on hd hjx, ck_exkE]; simp [ck_uH, ck_exm, c_1, hcjx, c_2, c_3, c_4, c_5]; done) | (rw [ck_exkE]; simp [ck_uH, ck_exm, c_1, hcjx, c_2, c_3, c_4, c_5]; done)
            have hw_lo : lo = (ck_uL (ck_exk (nI jx) sn td cm) lo (nI jx) (td - cm)) := by rw [ck_exkE]; simp [ck_uL, ck_exm, c_1, hcjx, c_2, c_3, c_4, c_5]
            have hw_hi : hi = (ck_uL (ck_exk (nI jx) sn td cm) hi (nI jx) (td - sn)) := by rw [ck_exkE]; simp [ck_uL, ck_exm, c_1, hcjx, c_2, c_3, c_4, c_5]
            have hP9 : va_P D vwCl [(h, .inr (1, [.ref a0, .ref a1, .ref a2, .long ow, .long off, .long go])), (a0, .inl (c0, 24, .inl (ck_bz (bt (ck_uH (ck_exk (nI jx) sn td cm) hd (nI jx)))))), (a1, .inl (c1, 24, .inr (.inl (ck_uL (ck_exk (nI jx) sn td cm) lo (nI jx) (td - cm))))), (a2, .inl (c2, 24, .inr (.inl (ck_uL (ck_exk (nI jx) sn td cm) hi (nI jx) (td - sn)))))] s.heap := by rw [← hw_zs, ← hw_lo, ← hw_hi]; exact hP
            have hD9 : va_D A [(h, .inr (1, [.ref a0, .ref a1, .ref a2, .long ow, .long off, .long go])), (a0, .inl (c0, 24, .inl (ck_bz (bt (ck_uH (ck_exk (nI jx) sn td cm) hd (nI jx)))))), (a1, .inl (c1, 24, .inr (.inl (ck_uL (ck_exk (nI jx) sn td cm) lo (nI jx) (td - cm))))), (a2, .inl (c2, 24, .inr (.inl (ck_uL (ck_exk (nI jx) sn td cm) hi (nI jx) (td - sn)))))] := by rw [← hw_zs, ← hw_lo, ← hw_hi]; exact hD
            have hres : ck_NO = (ck_exv (nI jx) sn td cm) := by rw [ck_exv, ck_exkE]; simp [ck_exm, c_1, hcjx, c_2, c_3, c_4, c_5]
            exact W.lret (v := ck_NO) hx hb hr (fun t ht _ => ⟨congrArg (fun z => Outcome.returned (some (Value.long z))) hres, by rw [ht]; exact hP9, hD9, hS.F ht⟩) hS.2.2 dX1_exchange_48
          · rw [lg_cmp_lt] at c_5
            refine lv_lload hx hb dX1_exchange_36 (lv_at hl 3 rfl) ?_
            refine lv_ldc2 (v := ck_TIME) hx hb hown (hts (.constantLong RX1 28 ck_TIME) (by decide +kernel)) dX1_exchange_38 ?_
            refine W.lcmp hx hb dX1_exchange_41 ?_
            refine lv_if_le (tgt := 49) hx hb dX1_exchange_42 (by decide) (fun c_6 => ?_) (fun c_6 => ?_)
            · rw [lg_cmp_le] at c_6
              refine lv_aload_n hx hb dX1_exchange_49 rfl (lv_at hl 0 rfl) ?_
              refine va_get (D := D) (ci := 1) (v := .ref a0) (C := RX1) (T := TX1) (N := 6) hx hb hts hin hown hK hP 0 rfl rfl 0 (by decide) (hts (.fieldLink RX1 7 "ClockDeskModel" "is" "[Z") (by decide +kernel)) (fun _ h9 => h9) rfl dX1_exchange_50 ?_
              refine lv_iload_n hx hb dX1_exchange_53 rfl (lv_at hl 1 rfl) ?_
              refine lv_iconst (v := 1) hx hb dX1_exchange_54 (by decide) ?_
              refine ck_zast hx hb hK hP hD hS 1 0 rfl rfl (i := jx) (x := 1) hjx rfl dX1_exchange_55 (fun H locs hP hD hS => ?_)
              have hP : va_P D vwCl [(h, .inr (1, [.ref a0, .ref a1, .ref a2, .long ow, .long off, .long go])), (a0, .inl (c0, 24, .inl (upd (ck_bz (bt hd)) jx 1))), (a1, .inl (c1, 24, .inr (.inl lo))), (a2, .inl (c2, 24, .inr (.inl hi)))] H := hP
              have hD : va_D A [(h, .inr (1, [.ref a0, .ref a1, .ref a2, .long ow, .long off, .long go])), (a0, .inl (c0, 24, .inl (upd (ck_bz (bt hd)) jx 1))), (a1, .inl (c1, 24, .inr (.inl lo))), (a2, .inl (c2, 24, .inr (.inl hi)))] := hD
              refine lv_aload_n hx hb dX1_exchange_56 rfl (lv_at hl 0 rfl) ?_
              refine va_get (D := D) (ci := 1) (v := .ref a1) (C := RX1) (T := TX1) (N := 6) hx hb hts hin hown hK hP 0 rfl rfl 1 (by decide) (hts (.fieldLink RX1 13 "ClockDeskModel" "low" "[J") (by decide +kernel)) (fun _ h9 => h9) rfl dX1_exchange_57 ?_
              refine lv_iload_n hx hb dX1_exchange_60 rfl (lv_at hl 1 rfl) ?_
              refine lv_lload hx hb dX1_exchange_61 (lv_at hl 3 rfl) ?_
              refine lv_lload hx hb dX1_exchange_63 (lv_at hl 4 rfl) ?_
              refine lv_lsub hx hb dX1_exchange_65 ?_
              refine ck_last hx hb hK hP hD hS 2 1 rfl rfl (i := jx) (x := (td - cm)) hjx dX1_exchange_66 (fun H locs hP hD hS => ?_)
              have hP : va_P D vwCl [(h, .inr (1, [.ref a0, .ref a1, .ref a2, .long ow, .long off, .long go])), (a0, .inl (c0, 24, .inl (upd (ck_bz (bt hd)) jx 1))), (a1, .inl (c1, 24, .inr (.inl (vp_updL lo jx (td - cm))))), (a2, .inl (c2, 24, .inr (.inl hi)))] H := hP
              have hD : va_D A [(h, .inr (1, [.ref a0, .ref a1, .ref a2, .long ow, .long off, .long go])), (a0, .inl (c0, 24, .inl (upd (ck_bz (bt hd)) jx 1))), (a1, .inl (c1, 24, .inr (.inl (vp_updL lo jx (td - cm))))), (a2, .inl (c2, 24, .inr (.inl hi)))] := hD
              refine lv_aload_n hx hb dX1_exchange_67 rfl (lv_at hl 0 rfl) ?_
              refine va_get (D := D) (ci := 1) (v := .ref a2) (C := RX1) (T := TX1) (N := 6) hx hb hts hin hown hK hP 0 rfl rfl 2 (by decide) (hts (.fieldLink RX1 17 "ClockDeskModel" "high" "[J") (by decide +kernel)) (fun _ h9 => h9) rfl dX1_exchange_68 ?_
              refine lv_iload_n hx hb dX1_exchange_71 rfl (lv_at hl 1 rfl) ?_
              refine lv_lload hx hb dX1_exchange_72 (lv_at hl 3 rfl) ?_
              refine lv_lload_n hx hb dX1_exchange_74 rfl (lv_at hl 2 rfl) ?_
              refine lv_lsub hx hb dX1_exchange_75 ?_
              refine ck_last hx hb hK hP hD hS 3 2 rfl rfl (i := jx) (x := (td - sn)) hjx dX1_exchange_76 (fun H locs hP hD hS => ?_)
              have hP : va_P D vwCl [(h, .inr (1, [.ref a0, .ref a1, .ref a2, .long ow, .long off, .long go])), (a0, .inl (c0, 24, .inl (upd (ck_bz (bt hd)) jx 1))), (a1, .inl (c1, 24, .inr (.inl (vp_updL lo jx (td - cm))))), (a2, .inl (c2, 24, .inr (.inl (vp_updL hi jx (td - sn)))))] H := hP
              have hD : va_D A [(h, .inr (1, [.ref a0, .ref a1, .ref a2, .long ow, .long off, .long go])), (a0, .inl (c0, 24, .inl (upd (ck_bz (bt hd)) jx 1))), (a1, .inl (c1, 24, .inr (.inl (vp_updL lo jx (td - cm))))), (a2, .inl (c2, 24, .inr (.inl (vp_updL hi jx (td - sn)))))] := hD
              refine lv_lload hx hb dX1_exchange_77 (lv_at hl 3 rfl) ?_
              refine lv_lload hx hb dX1_exchange_79 (lv_at hl 4 rfl) ?_
              refine lv_lload_n hx hb dX1_exchange_81 rfl (lv_at hl 2 rfl) ?_
              refine lv_lsub hx hb dX1_exchange_82 ?_
              refine ck_cS (As := [.long (cm - sn)]) (rest := [.long td]) ⟨hx, hb, hml, hown, hts⟩ (c_X1_half l (cm - sn)) (va_cwS 1 hts gX1_exchange_X1_half rfl rfl rfl (by decide +kernel) ⟨Nat.le_of_ble_eq_true rfl, Nat.le_of_ble_eq_true rfl⟩) rfl hl.1 rfl (Nat.le_of_ble_eq_true rfl) dX1_exchange_83 ⟨Nat.le_of_ble_eq_true rfl, Nat.le_of_ble_eq_true rfl⟩ ?_
              refine lv_ladd hx hb dX1_exchange_86 ?_
              refine lv_lload hx hb dX1_exchange_87 (lv_at hl 4 rfl) ?_
              refine lv_lsub hx hb dX1_exchange_89 ?_
              have hw_zs : (upd (ck_bz (bt hd)) jx 1) = (ck_bz (bt (ck_uH (ck_exk (nI jx) sn td cm) hd (nI jx)))) := by first | (rw [ck_bz_on hd hjx, ck_exkE]; simp [ck_uH, ck_exm, c_1, hcjx, c_2, c_3, c_4, c_5, c_6]; done) | (rw [ck_exkE]; simp [ck_uH, ck_exm, c_1, hcjx, c_2, c_3, c_4, c_5, c_6]; done)
              have hw_lo : (vp_updL lo jx (td - cm)) = (ck_uL (ck_exk (nI jx) sn td cm) lo (nI jx) (td - cm)) := by rw [ck_exkE]; simp [ck_uL, ck_exm, c_1, hcjx, c_2, c_3, c_4, c_5, c_6]
              have hw_hi : (vp_updL hi jx (td - sn)) = (ck_uL (ck_exk (nI jx) sn td cm) hi (nI jx) (td - sn)) := by rw [ck_exkE]; simp [ck_uL, ck_exm, c_1, hcjx, c_2, c_3, c_4, c_5, c_6]
              have hP9 : va_P D vwCl [(h, .inr (1, [.ref a0, .ref a1, .ref a2, .long ow, .long off, .long go])), (a0, .inl (c0, 24, .inl (ck_bz (bt (ck_uH (ck_exk (nI jx) sn td cm) hd (nI jx)))))), (a1, .inl (c1, 24, .inr (.inl (ck_uL (ck_exk (nI jx) sn td cm) lo (nI jx) (td - cm))))), (a2, .inl (c2, 24, .inr (.inl (ck_uL (ck_exk (nI jx) sn td cm) hi (nI jx) (td - sn)))))] H := by rw [← hw_zs, ← hw_lo, ← hw_hi]; exact hP
              have hD9 : va_D A [(h, .inr (1, [.ref a0, .ref a1, .ref a2, .long ow, .long off, .long go])), (a0, .inl (c0, 24, .inl (ck_bz (bt (ck_uH (ck_exk (nI jx) sn td cm) hd (nI jx)))))), (a1, .inl (c1, 24, .inr (.inl (ck_uL (ck_exk (nI jx) sn td cm) lo (nI jx) (td - cm))))), (a2, .inl (c2, 24, .inr (.inl (ck_uL (ck_exk (nI jx) sn td cm) hi (nI jx) (td - sn)))))] := by rw [← hw_zs, ← hw_lo, ← hw_hi]; exact hD
              have hres : ((td + (ck_half (cm - sn))) - cm) = (ck_exv (nI jx) sn td cm) := by rw [ck_exv, ck_exkE]; simp [ck_exm, c_1, hcjx, c_2, c_3, c_4, c_5, c_6]
              exact W.lret (v := ((td + (ck_half (cm - sn))) - cm)) hx hb hr (fun t ht _ => ⟨congrArg (fun z => Outcome.returned (some (Value.long z))) hres, by rw [ht]; exact hP9, hD9, hS.F ht⟩) hS.2.2 dX1_exchange_90
            · rw [lg_cmp_le] at c_6
              refine lv_ldc2 (v := ck_NO) hx hb hown (hts (.constantLong RX1 30 ck_NO) (by decide +kernel)) dX1_exchange_45 ?_
              have hw_zs : (ck_bz (bt hd)) = (ck_bz (bt (ck_uH (ck_exk (nI jx) sn td cm) hd (nI jx)))) := by first | (rw [ck_bz_on hd hjx, ck_exkE]; simp [ck_uH, ck_exm, c_1, hcjx, c_2, c_3, c_4, c_5, c_6]; done) | (rw [ck_exkE]; simp [ck_uH, ck_exm, c_1, hcjx, c_2, c_3, c_4, c_5, c_6]; done)
              have hw_lo : lo = (ck_uL (ck_exk (nI jx) sn td cm) lo (nI jx) (td - cm)) := by rw [ck_exkE]; simp [ck_uL, ck_exm, c_1, hcjx, c_2, c_3, c_4, c_5, c_6]
              have hw_hi : hi = (ck_uL (ck_exk (nI jx) sn td cm) hi (nI jx) (td - sn)) := by rw [ck_exkE]; simp [ck_uL, ck_exm, c_1, hcjx, c_2, c_3, c_4, c_5, c_6]
              have hP9 : va_P D vwCl [(h, .inr (1, [.ref a0, .ref a1, .ref a2, .long ow, .long off, .long go])), (a0, .inl (c0, 24, .inl (ck_bz (bt (ck_uH (ck_exk (nI jx) sn td cm) hd (nI jx)))))), (a1, .inl (c1, 24, .inr (.inl (ck_uL (ck_exk (nI jx) sn td cm) lo (nI jx) (td - cm))))), (a2, .inl (c2, 24, .inr (.inl (ck_uL (ck_exk (nI jx) sn td cm) hi (nI jx) (td - sn)))))] s.heap := by rw [← hw_zs, ← hw_lo, ← hw_hi]; exact hP
              have hD9 : va_D A [(h, .inr (1, [.ref a0, .ref a1, .ref a2, .long ow, .long off, .long go])), (a0, .inl (c0, 24, .inl (ck_bz (bt (ck_uH (ck_exk (nI jx) sn td cm) hd (nI jx)))))), (a1, .inl (c1, 24, .inr (.inl (ck_uL (ck_exk (nI jx) sn td cm) lo (nI jx) (td - cm))))), (a2, .inl (c2, 24, .inr (.inl (ck_uL (ck_exk (nI jx) sn td cm) hi (nI jx) (td - sn)))))] := by rw [← hw_zs, ← hw_lo, ← hw_hi]; exact hD
              have hres : ck_NO = (ck_exv (nI jx) sn td cm) := by rw [ck_exv, ck_exkE]; simp [ck_exm, c_1, hcjx, c_2, c_3, c_4, c_5, c_6]
              exact W.lret (v := ck_NO) hx hb hr (fun t ht _ => ⟨congrArg (fun z => Outcome.returned (some (Value.long z))) hres, by rw [ht]; exact hP9, hD9, hS.F ht⟩) hS.2.2 dX1_exchange_48

set_option maxHeartbeats 4000000 in
set_option maxRecDepth 100000 in
theorem c_X1_drop (l : Launch) (D : va_G) (h a0 a1 a2 : Nat) (c0 c1 c2 : ClassId) (lo hi : Nat → Int64) (hd : Int32) (ow off go : Int64) (inv : ck_inv hd lo hi) (sz : Nat) (x : Int32)  : Met l yX1_drop wsX1_drop { frames := 1, cells := 0, slots := 0, locals := 20 } (va_Pc [.ref h, .int x] (ck_Cw D [(h, .inr (1, [.ref a0, .ref a1, .ref a2, .long ow, .long off, .long go])), (a0, .inl (c0, 24, .inl (ck_bz (bt hd)))), (a1, .inl (c1, 24, .inr (.inl lo))), (a2, .inl (c2, 24, .inr (.inl hi)))] (mT c0 c1 c2) sz)) (ck_Wr (some (.int (ck_b (ck_in hd x)))) D [(h, .inr (1, [.ref a0, .ref a1, .ref a2, .long ow, .long off, .long go])), (a0, .inl (c0, 24, .inl (ck_bz (bt (ck_dH hd x))))), (a1, .inl (c1, 24, .inr (.inl lo))), (a2, .inl (c2, 24, .inr (.inl hi)))] (va_A [(h, .inr (1, [.ref a0, .ref a1, .ref a2, .long ow, .long off, .long go])), (a0, .inl (c0, 24, .inl (ck_bz (bt hd)))), (a1, .inl (c1, 24, .inr (.inl lo))), (a2, .inl (c2, 24, .inr (.inl hi)))] sz)) 0 0 (va_A [(h, .inr (1, [.ref a0, .ref a1, .ref a2, .long ow, .long off, .long go])), (a0, .inl (c0, 24, .inl (ck_bz (bt hd)))), (a1, .inl (c1, 24, .inr (.inl lo))), (a2, .inl (c2, 24, .inr (.inl hi)))] sz) := by
  refine Met.ofW (cc := cX1_drop) (maxL := 2) (ret := (some .boolean)) (by decide) rfl ?_
  intro p e s m args below meth c s₁ B hml hv
  obtain ⟨rfl, hsz, hP, hK, hD0⟩ := hv
  have hx := B.exec
  have hb := B.bytes
  have hr := B.returns
  have hts := atoms_spec (ws := wsX1_drop) B.pre
  have hown : s.vm.findClass RX1 = some m.cls := findClass_of_methodNamed B.named
  have hlocks := B.notSynchronized
  have hin : ∀ w ∈ wsX10, w ∈ wsX1_drop := fun _ h => List.mem_cons_of_mem _ (List.mem_append_right _ h)
  subst hsz
  have hD := hD0.self (sz := s.heap.size)
  generalize hAe : va_A [(h, .inr (1, [.ref a0, .ref a1, .ref a2, .long ow, .long off, .long go])), (a0, .inl (c0, 24, .inl (ck_bz (bt hd)))), (a1, .inl (c1, 24, .inr (.inl lo))), (a2, .inl (c2, 24, .inr (.inl hi)))] s.heap.size = A at hD ⊢
  have hA : ∀ q : Nat, s.heap.size ≤ q → A q := fun q h => by rw [← hAe]; exact Or.inr h
  have hS : va_S A s.heap s.heap [] := va_S.rf
  have hl := lv_entry ([.ref h, .int x]) (n := 2) (Nat.le_of_ble_eq_true rfl)
  rw [lg_entry_eq]
  generalize (lg_sl ([.ref h, .int x]) ++ List.replicate (2 - (lg_sl ([.ref h, .int x])).length) Slot.unset).toArray = ls at hl ⊢
  have hl : lv_has ls 2 [(0, .ref h), (1, .int x)] := hl
  refine lv_iload_n hx hb dX1_drop_0 rfl (lv_at hl 1 rfl) ?_
  refine ck_cS (As := [.int x]) (rest := []) ⟨hx, hb, hml, hown, hts⟩ (c_X1_isSource l x) (va_cwS 1 hts gX1_drop_X1_isSource rfl rfl rfl (by decide +kernel) ⟨Nat.le_of_ble_eq_true rfl, Nat.le_of_ble_eq_true rfl⟩) rfl hl.1 rfl (Nat.le_of_ble_eq_true rfl) dX1_drop_1 ⟨Nat.le_of_ble_eq_true rfl, Nat.le_of_ble_eq_true rfl⟩ ?_
  refine lv_if_eq (tgt := 16) hx hb dX1_drop_4 (by decide) (fun c_1 => ?_) (fun c_1 => ?_)
  · have c_1 := ck_bf c_1
    refine lv_iconst (v := 0) hx hb dX1_drop_16 (by decide) ?_
    have hw_zs : (ck_bz (bt hd)) = (ck_bz (bt (ck_dH hd x))) := by first | (rw [ck_bz_off hd hjx]; simp [ck_dH, ck_inN hd hjx, c_1]; done) | (simp [ck_dH, ck_inN hd hjx, c_1]; done) | (simp [ck_dH, ck_in, c_1]; done)
    have hP9 : va_P D vwCl [(h, .inr (1, [.ref a0, .ref a1, .ref a2, .long ow, .long off, .long go])), (a0, .inl (c0, 24, .inl (ck_bz (bt (ck_dH hd x))))), (a1, .inl (c1, 24, .inr (.inl lo))), (a2, .inl (c2, 24, .inr (.inl hi)))] s.heap := by rw [← hw_zs]; exact hP
    have hD9 : va_D A [(h, .inr (1, [.ref a0, .ref a1, .ref a2, .long ow, .long off, .long go])), (a0, .inl (c0, 24, .inl (ck_bz (bt (ck_dH hd x))))), (a1, .inl (c1, 24, .inr (.inl lo))), (a2, .inl (c2, 24, .inr (.inl hi)))] := by rw [← hw_zs]; exact hD
    have hres : 0 = (ck_b (ck_in hd x)) := by first | (simp [ck_b, ck_inN hd hjx, c_1]; done) | (simp [ck_b, ck_in, c_1]; done)
    exact W.zret (ty := .boolean) (v := 0) hx hb hr rfl (fun t ht _ => ⟨congrArg (fun z => Outcome.returned (some (Value.int z))) hres, by rw [ht]; exact hP9, hD9, hS.F ht⟩) hS.2.2 dX1_drop_17
  · have c_1 := ck_bt c_1
    obtain ⟨jx, hjx, rfl⟩ := ck_srcE c_1
    have hcjx : (nI jx).toNatClampNeg = jx := nI_clamp (by omega)
    refine lv_aload_n hx hb dX1_drop_7 rfl (lv_at hl 0 rfl) ?_
    refine va_get (D := D) (ci := 1) (v := .ref a0) (C := RX1) (T := TX1) (N := 6) hx hb hts hin hown hK hP 0 rfl rfl 0 (by decide) (hts (.fieldLink RX1 7 "ClockDeskModel" "is" "[Z") (by decide +kernel)) (fun _ h9 => h9) rfl dX1_drop_8 ?_
    refine lv_iload_n hx hb dX1_drop_11 rfl (lv_at hl 1 rfl) ?_
    refine ck_zald hx hb hK hP 1 0 rfl rfl (i := jx) hjx dX1_drop_12 ?_
    refine lv_if_ne (tgt := 18) hx hb dX1_drop_13 (by decide) (fun c_2 => ?_) (fun c_2 => ?_)
    · have c_2 := ck_bt c_2
      refine lv_aload_n hx hb dX1_drop_18 rfl (lv_at hl 0 rfl) ?_
      refine va_get (D := D) (ci := 1) (v := .ref a0) (C := RX1) (T := TX1) (N := 6) hx hb hts hin hown hK hP 0 rfl rfl 0 (by decide) (hts (.fieldLink RX1 7 "ClockDeskModel" "is" "[Z") (by decide +kernel)) (fun _ h9 => h9) rfl dX1_drop_19 ?_
      refine lv_iload_n hx hb dX1_drop_22 rfl (lv_at hl 1 rfl) ?_
      refine lv_iconst (v := 0) hx hb dX1_drop_23 (by decide) ?_
      refine ck_zast hx hb hK hP hD hS 1 0 rfl rfl (i := jx) (x := 0) hjx rfl dX1_drop_24 (fun H locs hP hD hS => ?_)
      have hP : va_P D vwCl [(h, .inr (1, [.ref a0, .ref a1, .ref a2, .long ow, .long off, .long go])), (a0, .inl (c0, 24, .inl (upd (ck_bz (bt hd)) jx 0))), (a1, .inl (c1, 24, .inr (.inl lo))), (a2, .inl (c2, 24, .inr (.inl hi)))] H := hP
      have hD : va_D A [(h, .inr (1, [.ref a0, .ref a1, .ref a2, .long ow, .long off, .long go])), (a0, .inl (c0, 24, .inl (upd (ck_bz (bt hd)) jx 0))), (a1, .inl (c1, 24, .inr (.inl lo))), (a2, .inl (c2, 24, .inr (.inl hi)))] := hD
      refine lv_iconst (v := 1) hx hb dX1_drop_25 (by decide) ?_
      have hw_zs : (upd (ck_bz (bt hd)) jx 0) = (ck_bz (bt (ck_dH hd (nI jx)))) := by first | (rw [ck_bz_off hd hjx]; simp [ck_dH, ck_inN hd hjx, c_1, hcjx, c_2]; done) | (simp [ck_dH, ck_inN hd hjx, c_1, hcjx, c_2]; done) | (simp [ck_dH, ck_in, c_1, hcjx, c_2]; done)
      have hP9 : va_P D vwCl [(h, .inr (1, [.ref a0, .ref a1, .ref a2, .long ow, .long off, .long go])), (a0, .inl (c0, 24, .inl (ck_bz (bt (ck_dH hd (nI jx)))))), (a1, .inl (c1, 24, .inr (.inl lo))), (a2, .inl (c2, 24, .inr (.inl hi)))] H := by rw [← hw_zs]; exact hP
      have hD9 : va_D A [(h, .inr (1, [.ref a0, .ref a1, .ref a2, .long ow, .long off, .long go])), (a0, .inl (c0, 24, .inl (ck_bz (bt (ck_dH hd (nI jx)))))), (a1, .inl (c1, 24, .inr (.inl lo))), (a2, .inl (c2, 24, .inr (.inl hi)))] := by rw [← hw_zs]; exact hD
      have hres : 1 = (ck_b (ck_in hd (nI jx))) := by first | (simp [ck_b, ck_inN hd hjx, c_1, hcjx, c_2]; done) | (simp [ck_b, ck_in, c_1, hcjx, c_2]; done)
      exact W.zret (ty := .boolean) (v := 1) hx hb hr rfl (fun t ht _ => ⟨congrArg (fun z => Outcome.returned (some (Value.int z))) hres, by rw [ht]; exact hP9, hD9, hS.F ht⟩) hS.2.2 dX1_drop_26
    · have c_2 := ck_bf c_2
      refine lv_iconst (v := 0) hx hb dX1_drop_16 (by decide) ?_
      have hw_zs : (ck_bz (bt hd)) = (ck_bz (bt (ck_dH hd (nI jx)))) := by first | (rw [ck_bz_off hd hjx]; simp [ck_dH, ck_inN hd hjx, c_1, hcjx, c_2]; done) | (simp [ck_dH, ck_inN hd hjx, c_1, hcjx, c_2]; done) | (simp [ck_dH, ck_in, c_1, hcjx, c_2]; done)
      have hP9 : va_P D vwCl [(h, .inr (1, [.ref a0, .ref a1, .ref a2, .long ow, .long off, .long go])), (a0, .inl (c0, 24, .inl (ck_bz (bt (ck_dH hd (nI jx)))))), (a1, .inl (c1, 24, .inr (.inl lo))), (a2, .inl (c2, 24, .inr (.inl hi)))] s.heap := by rw [← hw_zs]; exact hP
      have hD9 : va_D A [(h, .inr (1, [.ref a0, .ref a1, .ref a2, .long ow, .long off, .long go])), (a0, .inl (c0, 24, .inl (ck_bz (bt (ck_dH hd (nI jx)))))), (a1, .inl (c1, 24, .inr (.inl lo))), (a2, .inl (c2, 24, .inr (.inl hi)))] := by rw [← hw_zs]; exact hD
      have hres : 0 = (ck_b (ck_in hd (nI jx))) := by first | (simp [ck_b, ck_inN hd hjx, c_1, hcjx, c_2]; done) | (simp [ck_b, ck_in, c_1, hcjx, c_2]; done)
      exact W.zret (ty := .boolean) (v := 0) hx hb hr rfl (fun t ht _ => ⟨congrArg (fun z => Outcome.returned (some (Value.int z))) hres, by rw [ht]; exact hP9, hD9, hS.F ht⟩) hS.2.2 dX1_drop_17

set_option maxHeartbeats 4000000 in
set_option maxRecDepth 100000 in
theorem c_X1_tick (l : Launch) (D : va_G) (h a0 a1 a2 : Nat) (c0 c1 c2 : ClassId) (lo hi : Nat → Int64) (hd : Int32) (ow off go : Int64) (inv : ck_inv hd lo hi) (sz : Nat) (t0 : Int64) (how : 0 ≤ ow) : Met l yX1_tick wsX1_tick { frames := 0, cells := 0, slots := 0, locals := 0 } (va_Pc [.ref h, .long t0] (ck_Cw D [(h, .inr (1, [.ref a0, .ref a1, .ref a2, .long ow, .long off, .long go])), (a0, .inl (c0, 24, .inl (ck_bz (bt hd)))), (a1, .inl (c1, 24, .inr (.inl lo))), (a2, .inl (c2, 24, .inr (.inl hi)))] (mT c0 c1 c2) sz)) (ck_Wr (some (.int (ck_b (ck_tk ow t0)))) D [(h, .inr (1, [.ref a0, .ref a1, .ref a2, .long (ck_tW ow t0), .long (ck_tO ow off go t0), .long go])), (a0, .inl (c0, 24, .inl (ck_bz (bt hd)))), (a1, .inl (c1, 24, .inr (.inl lo))), (a2, .inl (c2, 24, .inr (.inl hi)))] (va_A [(h, .inr (1, [.ref a0, .ref a1, .ref a2, .long ow, .long off, .long go])), (a0, .inl (c0, 24, .inl (ck_bz (bt hd)))), (a1, .inl (c1, 24, .inr (.inl lo))), (a2, .inl (c2, 24, .inr (.inl hi)))] sz)) 0 0 (va_A [(h, .inr (1, [.ref a0, .ref a1, .ref a2, .long ow, .long off, .long go])), (a0, .inl (c0, 24, .inl (ck_bz (bt hd)))), (a1, .inl (c1, 24, .inr (.inl lo))), (a2, .inl (c2, 24, .inr (.inl hi)))] sz) := by
  refine Met.ofW (cc := cX1_tick) (maxL := 7) (ret := (some .boolean)) (by decide) rfl ?_
  intro p e s m args below meth c s₁ B hml hv
  obtain ⟨rfl, hsz, hP, hK, hD0⟩ := hv
  have hx := B.exec
  have hb := B.bytes
  have hr := B.returns
  have hts := atoms_spec (ws := wsX1_tick) B.pre
  have hown : s.vm.findClass RX1 = some m.cls := findClass_of_methodNamed B.named
  have hlocks := B.notSynchronized
  have hin : ∀ w ∈ wsX10, w ∈ wsX1_tick := fun _ h => List.mem_cons_of_mem _ (List.mem_append_right _ h)
  subst hsz
  have hD := hD0.self (sz := s.heap.size)
  generalize hAe : va_A [(h, .inr (1, [.ref a0, .ref a1, .ref a2, .long ow, .long off, .long go])), (a0, .inl (c0, 24, .inl (ck_bz (bt hd)))), (a1, .inl (c1, 24, .inr (.inl lo))), (a2, .inl (c2, 24, .inr (.inl hi)))] s.heap.size = A at hD ⊢
  have hA : ∀ q : Nat, s.heap.size ≤ q → A q := fun q h => by rw [← hAe]; exact Or.inr h
  have hS : va_S A s.heap s.heap [] := va_S.rf
  have hl := lv_entry ([.ref h, .long t0]) (n := 7) (Nat.le_of_ble_eq_true rfl)
  rw [lg_entry_eq]
  generalize (lg_sl ([.ref h, .long t0]) ++ List.replicate (7 - (lg_sl ([.ref h, .long t0])).length) Slot.unset).toArray = ls at hl ⊢
  have hl : lv_has ls 7 [(0, .ref h), (1, .long t0)] := hl
  refine lv_lload_n hx hb dX1_tick_0 rfl (lv_at hl 1 rfl) ?_
  refine lv_aload_n hx hb dX1_tick_1 rfl (lv_at hl 0 rfl) ?_
  refine va_get (D := D) (ci := 1) (v := .long ow) (C := RX1) (T := TX1) (N := 6) hx hb hts hin hown hK hP 0 rfl rfl 3 (by decide) (hts (.fieldLink RX1 75 "ClockDeskModel" "now" "J") (by decide +kernel)) (fun _ h9 => h9) rfl dX1_tick_2 ?_
  refine W.lcmp hx hb dX1_tick_5 ?_
  refine lv_if_lt (tgt := 17) hx hb dX1_tick_6 (by decide) (fun c_1 => ?_) (fun c_1 => ?_)
  · rw [lg_cmp_lt] at c_1
    refine lv_iconst (v := 0) hx hb dX1_tick_17 (by decide) ?_
    have hw_off : off = (ck_tO ow off go t0) := by simp [ck_tO, ck_tk, c_1]
    have hw_ow : ow = (ck_tW ow t0) := by simp [ck_tW, ck_tk, c_1]
    have hP9 : va_P D vwCl [(h, .inr (1, [.ref a0, .ref a1, .ref a2, .long (ck_tW ow t0), .long (ck_tO ow off go t0), .long go])), (a0, .inl (c0, 24, .inl (ck_bz (bt hd)))), (a1, .inl (c1, 24, .inr (.inl lo))), (a2, .inl (c2, 24, .inr (.inl hi)))] s.heap := by rw [← hw_off, ← hw_ow]; exact hP
    have hD9 : va_D A [(h, .inr (1, [.ref a0, .ref a1, .ref a2, .long (ck_tW ow t0), .long (ck_tO ow off go t0), .long go])), (a0, .inl (c0, 24, .inl (ck_bz (bt hd)))), (a1, .inl (c1, 24, .inr (.inl lo))), (a2, .inl (c2, 24, .inr (.inl hi)))] := by rw [← hw_off, ← hw_ow]; exact hD
    have hres : 0 = (ck_b (ck_tk ow t0)) := by simp [ck_tk, ck_b, c_1]
    exact W.zret (ty := .boolean) (v := 0) hx hb hr rfl (fun t ht _ => ⟨congrArg (fun z => Outcome.returned (some (Value.int z))) hres, by rw [ht]; exact hP9, hD9, hS.F ht⟩) hS.2.2 dX1_tick_18
  · rw [lg_cmp_lt] at c_1
    refine lv_lload_n hx hb dX1_tick_9 rfl (lv_at hl 1 rfl) ?_
    refine lv_ldc2 (v := ck_TIME) hx hb hown (hts (.constantLong RX1 28 ck_TIME) (by decide +kernel)) dX1_tick_10 ?_
    refine W.lcmp hx hb dX1_tick_13 ?_
    refine lv_if_le (tgt := 19) hx hb dX1_tick_14 (by decide) (fun c_2 => ?_) (fun c_2 => ?_)
    · rw [lg_cmp_le] at c_2
      refine lv_lload_n hx hb dX1_tick_19 rfl (lv_at hl 1 rfl) ?_
      refine lv_aload_n hx hb dX1_tick_20 rfl (lv_at hl 0 rfl) ?_
      refine va_get (D := D) (ci := 1) (v := .long ow) (C := RX1) (T := TX1) (N := 6) hx hb hts hin hown hK hP 0 rfl rfl 3 (by decide) (hts (.fieldLink RX1 75 "ClockDeskModel" "now" "J") (by decide +kernel)) (fun _ h9 => h9) rfl dX1_tick_21 ?_
      refine lv_lsub hx hb dX1_tick_24 ?_
      refine lv_ldc2 (v := 2000) hx hb hown (hts (.constantLong RX1 79 2000) (by decide +kernel)) dX1_tick_25 ?_
      refine lv_ldiv hx hb dX1_tick_28 (by decide) ?_
      refine lv_lstore_n (lv' := [(3, .long ((t0 - ow) / 2000)), (0, .ref h), (1, .long t0)]) hx hb dX1_tick_29 rfl hl (by decide) rfl (fun ls hl => ?_)
      refine lv_aload_n hx hb dX1_tick_30 rfl (lv_at hl 1 rfl) ?_
      refine va_get (D := D) (ci := 1) (v := .long go) (C := RX1) (T := TX1) (N := 6) hx hb hts hin hown hK hP 0 rfl rfl 5 (by decide) (hts (.fieldLink RX1 81 "ClockDeskModel" "goal" "J") (by decide +kernel)) (fun _ h9 => h9) rfl dX1_tick_31 ?_
      refine lv_aload_n hx hb dX1_tick_34 rfl (lv_at hl 1 rfl) ?_
      refine va_get (D := D) (ci := 1) (v := .long off) (C := RX1) (T := TX1) (N := 6) hx hb hts hin hown hK hP 0 rfl rfl 4 (by decide) (hts (.fieldLink RX1 84 "ClockDeskModel" "offset" "J") (by decide +kernel)) (fun _ h9 => h9) rfl dX1_tick_35 ?_
      refine lv_lsub hx hb dX1_tick_38 ?_
      refine lv_lstore (lv' := [(5, .long (go - off)), (3, .long ((t0 - ow) / 2000)), (0, .ref h), (1, .long t0)]) hx hb dX1_tick_39 hl (by decide) rfl (fun ls hl => ?_)
      refine lv_aload_n hx hb dX1_tick_41 rfl (lv_at hl 2 rfl) ?_
      refine lv_dup hx hb dX1_tick_42 rfl ?_
      refine va_get (D := D) (ci := 1) (v := .long off) (C := RX1) (T := TX1) (N := 6) hx hb hts hin hown hK hP 0 rfl rfl 4 (by decide) (hts (.fieldLink RX1 84 "ClockDeskModel" "offset" "J") (by decide +kernel)) (fun _ h9 => h9) rfl dX1_tick_43 ?_
      refine lv_lload hx hb dX1_tick_46 (lv_at hl 0 rfl) ?_
      refine lv_lload_n hx hb dX1_tick_48 rfl (lv_at hl 1 rfl) ?_
      refine W.lcmp hx hb dX1_tick_49 ?_
      refine lv_if_le (tgt := 57) hx hb dX1_tick_50 (by decide) (fun c_3 => ?_) (fun c_3 => ?_)
      · rw [lg_cmp_le] at c_3
        refine lv_lload hx hb dX1_tick_57 (lv_at hl 0 rfl) ?_
        refine lv_lload_n hx hb dX1_tick_59 rfl (lv_at hl 1 rfl) ?_
        refine lv_lneg hx hb dX1_tick_60 ?_
        refine W.lcmp hx hb dX1_tick_61 ?_
        refine lv_if_ge (tgt := 70) hx hb dX1_tick_62 (by decide) (fun c_4 => ?_) (fun c_4 => ?_)
        · rw [lg_cmp_ge] at c_4
          refine lv_lload hx hb dX1_tick_70 (lv_at hl 0 rfl) ?_
          refine lv_ladd hx hb dX1_tick_72 ?_
          refine va_put (D := D) (ci := 1) (v := .long (off + (go - off))) (ty := .long) (C := RX1) (T := TX1) (N := 6) hx hb hts hin tyX1 tyX1_ok nmX1 hown hK hP hD hS 0 rfl rfl 4 (by decide) (hts (.fieldLink RX1 84 "ClockDeskModel" "offset" "J") (by decide +kernel)) (fun _ h9 => h9) rfl (by decide +kernel) rfl rfl (Nat.le_of_ble_eq_true rfl) dX1_tick_73 (fun H locs hP hD hS => ?_)
          have hP : va_P D vwCl [(h, .inr (1, [.ref a0, .ref a1, .ref a2, .long ow, .long (off + (go - off)), .long go])), (a0, .inl (c0, 24, .inl (ck_bz (bt hd)))), (a1, .inl (c1, 24, .inr (.inl lo))), (a2, .inl (c2, 24, .inr (.inl hi)))] H := hP
          have hD : va_D A [(h, .inr (1, [.ref a0, .ref a1, .ref a2, .long ow, .long (off + (go - off)), .long go])), (a0, .inl (c0, 24, .inl (ck_bz (bt hd)))), (a1, .inl (c1, 24, .inr (.inl lo))), (a2, .inl (c2, 24, .inr (.inl hi)))] := hD
          refine lv_aload_n hx hb dX1_tick_76 rfl (lv_at hl 2 rfl) ?_
          refine lv_lload_n hx hb dX1_tick_77 rfl (lv_at hl 3 rfl) ?_
          refine va_put (D := D) (ci := 1) (v := .long t0) (ty := .long) (C := RX1) (T := TX1) (N := 6) hx hb hts hin tyX1 tyX1_ok nmX1 hown hK hP hD hS 0 rfl rfl 3 (by decide) (hts (.fieldLink RX1 75 "ClockDeskModel" "now" "J") (by decide +kernel)) (fun _ h9 => h9) rfl (by decide +kernel) rfl rfl (Nat.le_of_ble_eq_true rfl) dX1_tick_78 (fun H locs hP hD hS => ?_)
          have hP : va_P D vwCl [(h, .inr (1, [.ref a0, .ref a1, .ref a2, .long t0, .long (off + (go - off)), .long go])), (a0, .inl (c0, 24, .inl (ck_bz (bt hd)))), (a1, .inl (c1, 24, .inr (.inl lo))), (a2, .inl (c2, 24, .inr (.inl hi)))] H := hP
          have hD : va_D A [(h, .inr (1, [.ref a0, .ref a1, .ref a2, .long t0, .long (off + (go - off)), .long go])), (a0, .inl (c0, 24, .inl (ck_bz (bt hd)))), (a1, .inl (c1, 24, .inr (.inl lo))), (a2, .inl (c2, 24, .inr (.inl hi)))] := hD
          refine lv_iconst (v := 1) hx hb dX1_tick_81 (by decide) ?_
          have hw_off : (off + (go - off)) = (ck_tO ow off go t0) := by have hs := ck_stp how c_1 c_2; first | (simp [ck_tO, ck_tk, ck_clip1 hs c_3 c_4, c_1, c_2, c_3, c_4]; done) | (simp [ck_tO, ck_tk, ck_clip2 hs c_3 c_4, c_1, c_2, c_3, c_4]; done) | (simp [ck_tO, ck_tk, ck_clip3 hs c_3 c_4, c_1, c_2, c_3, c_4]; done)
          have hw_ow : t0 = (ck_tW ow t0) := by simp [ck_tW, ck_tk, c_1, c_2, c_3, c_4]
          have hP9 : va_P D vwCl [(h, .inr (1, [.ref a0, .ref a1, .ref a2, .long (ck_tW ow t0), .long (ck_tO ow off go t0), .long go])), (a0, .inl (c0, 24, .inl (ck_bz (bt hd)))), (a1, .inl (c1, 24, .inr (.inl lo))), (a2, .inl (c2, 24, .inr (.inl hi)))] H := by rw [← hw_off, ← hw_ow]; exact hP
          have hD9 : va_D A [(h, .inr (1, [.ref a0, .ref a1, .ref a2, .long (ck_tW ow t0), .long (ck_tO ow off go t0), .long go])), (a0, .inl (c0, 24, .inl (ck_bz (bt hd)))), (a1, .inl (c1, 24, .inr (.inl lo))), (a2, .inl (c2, 24, .inr (.inl hi)))] := by rw [← hw_off, ← hw_ow]; exact hD
          have hres : 1 = (ck_b (ck_tk ow t0)) := by simp [ck_tk, ck_b, c_1, c_2, c_3, c_4]
          exact W.zret (ty := .boolean) (v := 1) hx hb hr rfl (fun t ht _ => ⟨congrArg (fun z => Outcome.returned (some (Value.int z))) hres, by rw [ht]; exact hP9, hD9, hS.F ht⟩) hS.2.2 dX1_tick_82
        · rw [lg_cmp_ge] at c_4
          refine lv_lload_n hx hb dX1_tick_65 rfl (lv_at hl 1 rfl) ?_
          refine lv_lneg hx hb dX1_tick_66 ?_
          refine lv_goto (tgt := 72) hx hb dX1_tick_67 (by decide) ?_
          refine lv_ladd hx hb dX1_tick_72 ?_
          refine va_put (D := D) (ci := 1) (v := .long (off + (-((t0 - ow) / 2000)))) (ty := .long) (C := RX1) (T := TX1) (N := 6) hx hb hts hin tyX1 tyX1_ok nmX1 hown hK hP hD hS 0 rfl rfl 4 (by decide) (hts (.fieldLink RX1 84 "ClockDeskModel" "offset" "J") (by decide +kernel)) (fun _ h9 => h9) rfl (by decide +kernel) rfl rfl (Nat.le_of_ble_eq_true rfl) dX1_tick_73 (fun H locs hP hD hS => ?_)
          have hP : va_P D vwCl [(h, .inr (1, [.ref a0, .ref a1, .ref a2, .long ow, .long (off + (-((t0 - ow) / 2000))), .long go])), (a0, .inl (c0, 24, .inl (ck_bz (bt hd)))), (a1, .inl (c1, 24, .inr (.inl lo))), (a2, .inl (c2, 24, .inr (.inl hi)))] H := hP
          have hD : va_D A [(h, .inr (1, [.ref a0, .ref a1, .ref a2, .long ow, .long (off + (-((t0 - ow) / 2000))), .long go])), (a0, .inl (c0, 24, .inl (ck_bz (bt hd)))), (a1, .inl (c1, 24, .inr (.inl lo))), (a2, .inl (c2, 24, .inr (.inl hi)))] := hD
          refine lv_aload_n hx hb dX1_tick_76 rfl (lv_at hl 2 rfl) ?_
          refine lv_lload_n hx hb dX1_tick_77 rfl (lv_at hl 3 rfl) ?_
          refine va_put (D := D) (ci := 1) (v := .long t0) (ty := .long) (C := RX1) (T := TX1) (N := 6) hx hb hts hin tyX1 tyX1_ok nmX1 hown hK hP hD hS 0 rfl rfl 3 (by decide) (hts (.fieldLink RX1 75 "ClockDeskModel" "now" "J") (by decide +kernel)) (fun _ h9 => h9) rfl (by decide +kernel) rfl rfl (Nat.le_of_ble_eq_true rfl) dX1_tick_78 (fun H locs hP hD hS => ?_)
          have hP : va_P D vwCl [(h, .inr (1, [.ref a0, .ref a1, .ref a2, .long t0, .long (off + (-((t0 - ow) / 2000))), .long go])), (a0, .inl (c0, 24, .inl (ck_bz (bt hd)))), (a1, .inl (c1, 24, .inr (.inl lo))), (a2, .inl (c2, 24, .inr (.inl hi)))] H := hP
          have hD : va_D A [(h, .inr (1, [.ref a0, .ref a1, .ref a2, .long t0, .long (off + (-((t0 - ow) / 2000))), .long go])), (a0, .inl (c0, 24, .inl (ck_bz (bt hd)))), (a1, .inl (c1, 24, .inr (.inl lo))), (a2, .inl (c2, 24, .inr (.inl hi)))] := hD
          refine lv_iconst (v := 1) hx hb dX1_tick_81 (by decide) ?_
          have hw_off : (off + (-((t0 - ow) / 2000))) = (ck_tO ow off go t0) := by have hs := ck_stp how c_1 c_2; first | (simp [ck_tO, ck_tk, ck_clip1 hs c_3 c_4, c_1, c_2, c_3, c_4]; done) | (simp [ck_tO, ck_tk, ck_clip2 hs c_3 c_4, c_1, c_2, c_3, c_4]; done) | (simp [ck_tO, ck_tk, ck_clip3 hs c_3 c_4, c_1, c_2, c_3, c_4]; done)
          have hw_ow : t0 = (ck_tW ow t0) := by simp [ck_tW, ck_tk, c_1, c_2, c_3, c_4]
          have hP9 : va_P D vwCl [(h, .inr (1, [.ref a0, .ref a1, .ref a2, .long (ck_tW ow t0), .long (ck_tO ow off go t0), .long go])), (a0, .inl (c0, 24, .inl (ck_bz (bt hd)))), (a1, .inl (c1, 24, .inr (.inl lo))), (a2, .inl (c2, 24, .inr (.inl hi)))] H := by rw [← hw_off, ← hw_ow]; exact hP
          have hD9 : va_D A [(h, .inr (1, [.ref a0, .ref a1, .ref a2, .long (ck_tW ow t0), .long (ck_tO ow off go t0), .long go])), (a0, .inl (c0, 24, .inl (ck_bz (bt hd)))), (a1, .inl (c1, 24, .inr (.inl lo))), (a2, .inl (c2, 24, .inr (.inl hi)))] := by rw [← hw_off, ← hw_ow]; exact hD
          have hres : 1 = (ck_b (ck_tk ow t0)) := by simp [ck_tk, ck_b, c_1, c_2, c_3, c_4]
          exact W.zret (ty := .boolean) (v := 1) hx hb hr rfl (fun t ht _ => ⟨congrArg (fun z => Outcome.returned (some (Value.int z))) hres, by rw [ht]; exact hP9, hD9, hS.F ht⟩) hS.2.2 dX1_tick_82
      · rw [lg_cmp_le] at c_3
        refine lv_lload_n hx hb dX1_tick_53 rfl (lv_at hl 1 rfl) ?_
        refine lv_goto (tgt := 72) hx hb dX1_tick_54 (by decide) ?_
        refine lv_ladd hx hb dX1_tick_72 ?_
        refine va_put (D := D) (ci := 1) (v := .long (off + ((t0 - ow) / 2000))) (ty := .long) (C := RX1) (T := TX1) (N := 6) hx hb hts hin tyX1 tyX1_ok nmX1 hown hK hP hD hS 0 rfl rfl 4 (by decide) (hts (.fieldLink RX1 84 "ClockDeskModel" "offset" "J") (by decide +kernel)) (fun _ h9 => h9) rfl (by decide +kernel) rfl rfl (Nat.le_of_ble_eq_true rfl) dX1_tick_73 (fun H locs hP hD hS => ?_)
        have hP : va_P D vwCl [(h, .inr (1, [.ref a0, .ref a1, .ref a2, .long ow, .long (off + ((t0 - ow) / 2000)), .long go])), (a0, .inl (c0, 24, .inl (ck_bz (bt hd)))), (a1, .inl (c1, 24, .inr (.inl lo))), (a2, .inl (c2, 24, .inr (.inl hi)))] H := hP
        have hD : va_D A [(h, .inr (1, [.ref a0, .ref a1, .ref a2, .long ow, .long (off + ((t0 - ow) / 2000)), .long go])), (a0, .inl (c0, 24, .inl (ck_bz (bt hd)))), (a1, .inl (c1, 24, .inr (.inl lo))), (a2, .inl (c2, 24, .inr (.inl hi)))] := hD
        refine lv_aload_n hx hb dX1_tick_76 rfl (lv_at hl 2 rfl) ?_
        refine lv_lload_n hx hb dX1_tick_77 rfl (lv_at hl 3 rfl) ?_
        refine va_put (D := D) (ci := 1) (v := .long t0) (ty := .long) (C := RX1) (T := TX1) (N := 6) hx hb hts hin tyX1 tyX1_ok nmX1 hown hK hP hD hS 0 rfl rfl 3 (by decide) (hts (.fieldLink RX1 75 "ClockDeskModel" "now" "J") (by decide +kernel)) (fun _ h9 => h9) rfl (by decide +kernel) rfl rfl (Nat.le_of_ble_eq_true rfl) dX1_tick_78 (fun H locs hP hD hS => ?_)
        have hP : va_P D vwCl [(h, .inr (1, [.ref a0, .ref a1, .ref a2, .long t0, .long (off + ((t0 - ow) / 2000)), .long go])), (a0, .inl (c0, 24, .inl (ck_bz (bt hd)))), (a1, .inl (c1, 24, .inr (.inl lo))), (a2, .inl (c2, 24, .inr (.inl hi)))] H := hP
        have hD : va_D A [(h, .inr (1, [.ref a0, .ref a1, .ref a2, .long t0, .long (off + ((t0 - ow) / 2000)), .long go])), (a0, .inl (c0, 24, .inl (ck_bz (bt hd)))), (a1, .inl (c1, 24, .inr (.inl lo))), (a2, .inl (c2, 24, .inr (.inl hi)))] := hD
        refine lv_iconst (v := 1) hx hb dX1_tick_81 (by decide) ?_
        have hw_off : (off + ((t0 - ow) / 2000)) = (ck_tO ow off go t0) := by have hs := ck_stp how c_1 c_2; first | (simp [ck_tO, ck_tk, ck_clip1 hs c_3, c_1, c_2, c_3]; done) | (simp [ck_tO, ck_tk, ck_clip2 hs c_3, c_1, c_2, c_3]; done) | (simp [ck_tO, ck_tk, ck_clip3 hs c_3, c_1, c_2, c_3]; done)
        have hw_ow : t0 = (ck_tW ow t0) := by simp [ck_tW, ck_tk, c_1, c_2, c_3]
        have hP9 : va_P D vwCl [(h, .inr (1, [.ref a0, .ref a1, .ref a2, .long (ck_tW ow t0), .long (ck_tO ow off go t0), .long go])), (a0, .inl (c0, 24, .inl (ck_bz (bt hd)))), (a1, .inl (c1, 24, .inr (.inl lo))), (a2, .inl (c2, 24, .inr (.inl hi)))] H := by rw [← hw_off, ← hw_ow]; exact hP
        have hD9 : va_D A [(h, .inr (1, [.ref a0, .ref a1, .ref a2, .long (ck_tW ow t0), .long (ck_tO ow off go t0), .long go])), (a0, .inl (c0, 24, .inl (ck_bz (bt hd)))), (a1, .inl (c1, 24, .inr (.inl lo))), (a2, .inl (c2, 24, .inr (.inl hi)))] := by rw [← hw_off, ← hw_ow]; exact hD
        have hres : 1 = (ck_b (ck_tk ow t0)) := by simp [ck_tk, ck_b, c_1, c_2, c_3]
        exact W.zret (ty := .boolean) (v := 1) hx hb hr rfl (fun t ht _ => ⟨congrArg (fun z => Outcome.returned (some (Value.int z))) hres, by rw [ht]; exact hP9, hD9, hS.F ht⟩) hS.2.2 dX1_tick_82
    · rw [lg_cmp_le] at c_2
      refine lv_iconst (v := 0) hx hb dX1_tick_17 (by decide) ?_
      have hw_off : off = (ck_tO ow off go t0) := by simp [ck_tO, ck_tk, c_1, c_2]
      have hw_ow : ow = (ck_tW ow t0) := by simp [ck_tW, ck_tk, c_1, c_2]
      have hP9 : va_P D vwCl [(h, .inr (1, [.ref a0, .ref a1, .ref a2, .long (ck_tW ow t0), .long (ck_tO ow off go t0), .long go])), (a0, .inl (c0, 24, .inl (ck_bz (bt hd)))), (a1, .inl (c1, 24, .inr (.inl lo))), (a2, .inl (c2, 24, .inr (.inl hi)))] s.heap := by rw [← hw_off, ← hw_ow]; exact hP
      have hD9 : va_D A [(h, .inr (1, [.ref a0, .ref a1, .ref a2, .long (ck_tW ow t0), .long (ck_tO ow off go t0), .long go])), (a0, .inl (c0, 24, .inl (ck_bz (bt hd)))), (a1, .inl (c1, 24, .inr (.inl lo))), (a2, .inl (c2, 24, .inr (.inl hi)))] := by rw [← hw_off, ← hw_ow]; exact hD
      have hres : 0 = (ck_b (ck_tk ow t0)) := by simp [ck_tk, ck_b, c_1, c_2]
      exact W.zret (ty := .boolean) (v := 0) hx hb hr rfl (fun t ht _ => ⟨congrArg (fun z => Outcome.returned (some (Value.int z))) hres, by rw [ht]; exact hP9, hD9, hS.F ht⟩) hS.2.2 dX1_tick_18

set_option maxHeartbeats 4000000 in
set_option maxRecDepth 100000 in
theorem c_X1_steer (l : Launch) (D : va_G) (h a0 a1 a2 : Nat) (c0 c1 c2 : ClassId) (lo hi : Nat → Int64) (hd : Int32) (ow off go : Int64) (inv : ck_inv hd lo hi) (sz : Nat)   : Met l yX1_steer wsX1_steer { frames := 3, cells := 0, slots := 0, locals := 76 } (va_Pc [.ref h] (ck_Cw D [(h, .inr (1, [.ref a0, .ref a1, .ref a2, .long ow, .long off, .long go])), (a0, .inl (c0, 24, .inl (ck_bz (bt hd)))), (a1, .inl (c1, 24, .inr (.inl lo))), (a2, .inl (c2, 24, .inr (.inl hi)))] (mT c0 c1 c2) sz)) (ck_Wr (some (.int (ck_b (ck_sk hd lo hi)))) D [(h, .inr (1, [.ref a0, .ref a1, .ref a2, .long ow, .long off, .long (ck_sG hd lo hi go)])), (a0, .inl (c0, 24, .inl (ck_bz (bt hd)))), (a1, .inl (c1, 24, .inr (.inl lo))), (a2, .inl (c2, 24, .inr (.inl hi)))] (va_A [(h, .inr (1, [.ref a0, .ref a1, .ref a2, .long ow, .long off, .long go])), (a0, .inl (c0, 24, .inl (ck_bz (bt hd)))), (a1, .inl (c1, 24, .inr (.inl lo))), (a2, .inl (c2, 24, .inr (.inl hi)))] sz)) 0 0 (va_A [(h, .inr (1, [.ref a0, .ref a1, .ref a2, .long ow, .long off, .long go])), (a0, .inl (c0, 24, .inl (ck_bz (bt hd)))), (a1, .inl (c1, 24, .inr (.inl lo))), (a2, .inl (c2, 24, .inr (.inl hi)))] sz) := by
  refine Met.ofW (cc := cX1_steer) (maxL := 1) (ret := (some .boolean)) (by decide) rfl ?_
  intro p e s m args below meth c s₁ B hml hv
  obtain ⟨rfl, hsz, hP, hK, hD0⟩ := hv
  have hx := B.exec
  have hb := B.bytes
  have hr := B.returns
  have hts := atoms_spec (ws := wsX1_steer) B.pre
  have hown : s.vm.findClass RX1 = some m.cls := findClass_of_methodNamed B.named
  have hlocks := B.notSynchronized
  have hin : ∀ w ∈ wsX10, w ∈ wsX1_steer := fun _ h => List.mem_cons_of_mem _ (List.mem_append_right _ h)
  subst hsz
  have hD := hD0.self (sz := s.heap.size)
  generalize hAe : va_A [(h, .inr (1, [.ref a0, .ref a1, .ref a2, .long ow, .long off, .long go])), (a0, .inl (c0, 24, .inl (ck_bz (bt hd)))), (a1, .inl (c1, 24, .inr (.inl lo))), (a2, .inl (c2, 24, .inr (.inl hi)))] s.heap.size = A at hD ⊢
  have hA : ∀ q : Nat, s.heap.size ≤ q → A q := fun q h => by rw [← hAe]; exact Or.inr h
  have hS : va_S A s.heap s.heap [] := va_S.rf
  have hl := lv_entry ([.ref h]) (n := 1) (Nat.le_of_ble_eq_true rfl)
  rw [lg_entry_eq]
  generalize (lg_sl ([.ref h]) ++ List.replicate (1 - (lg_sl ([.ref h])).length) Slot.unset).toArray = ls at hl ⊢
  have hl : lv_has ls 1 [(0, .ref h)] := hl
  refine lv_iconst (v := 2) hx hb dX1_steer_0 (by decide) ?_
  refine lv_aload_n hx hb dX1_steer_1 rfl (lv_at hl 0 rfl) ?_
  refine ck_cV (As := []) (rest := [.int 2]) ⟨hx, hb, hml, hown, hts⟩ (c_X1_greatest l D h a0 a1 a2 c0 c1 c2 lo hi hd ow off go inv ) (cwV 0 hts gX1_steer_X1_greatest rfl rfl rfl (by decide +kernel) ⟨Nat.le_of_ble_eq_true rfl, Nat.le_of_ble_eq_true rfl⟩) hP hK (va_recv hK hP (ci := 1) (q0 := 0) rfl rfl) rfl hl.1 rfl (Nat.le_of_ble_eq_true rfl) dX1_steer_2 ⟨Nat.le_of_ble_eq_true rfl, Nat.le_of_ble_eq_true rfl⟩ ?_
  refine lv_imul hx hb dX1_steer_5 ?_
  refine lv_aload_n hx hb dX1_steer_6 rfl (lv_at hl 0 rfl) ?_
  refine ck_cV (As := []) (rest := [.int (2 * (ck_gr (bt hd) lo hi 24))]) ⟨hx, hb, hml, hown, hts⟩ (c_X1_sources l D h a0 a1 a2 c0 c1 c2 lo hi hd ow off go inv ) (cwV 0 hts gX1_steer_X1_sources rfl rfl rfl (by decide +kernel) ⟨Nat.le_of_ble_eq_true rfl, Nat.le_of_ble_eq_true rfl⟩) hP hK (va_recv hK hP (ci := 1) (q0 := 0) rfl rfl) rfl hl.1 rfl (Nat.le_of_ble_eq_true rfl) dX1_steer_7 ⟨Nat.le_of_ble_eq_true rfl, Nat.le_of_ble_eq_true rfl⟩ ?_
  refine lv_icmp_gt (tgt := 15) hx hb dX1_steer_10 (by decide) (fun c_1 => ?_) (fun c_1 => ?_)
  · refine lv_aload_n hx hb dX1_steer_15 rfl (lv_at hl 0 rfl) ?_
    refine lv_aload_n hx hb dX1_steer_16 rfl (lv_at hl 0 rfl) ?_
    refine lv_iconst (v := 0) hx hb dX1_steer_17 (by decide) ?_
    refine ck_cV (As := [.int 0]) (rest := [.ref h]) ⟨hx, hb, hml, hown, hts⟩ (c_X1_region l D h a0 a1 a2 c0 c1 c2 lo hi hd ow off go inv 0) (cwV 1 hts gX1_steer_X1_region rfl rfl rfl (by decide +kernel) ⟨Nat.le_of_ble_eq_true rfl, Nat.le_of_ble_eq_true rfl⟩) hP hK (va_recv hK hP (ci := 1) (q0 := 0) rfl rfl) rfl hl.1 rfl (Nat.le_of_ble_eq_true rfl) dX1_steer_18 ⟨Nat.le_of_ble_eq_true rfl, Nat.le_of_ble_eq_true rfl⟩ ?_
    refine lv_aload_n hx hb dX1_steer_21 rfl (lv_at hl 0 rfl) ?_
    refine lv_iconst (v := 1) hx hb dX1_steer_22 (by decide) ?_
    refine ck_cV (As := [.int 1]) (rest := [.long (ck_rg hd lo hi 0), .ref h]) ⟨hx, hb, hml, hown, hts⟩ (c_X1_region l D h a0 a1 a2 c0 c1 c2 lo hi hd ow off go inv 1) (cwV 1 hts gX1_steer_X1_region rfl rfl rfl (by decide +kernel) ⟨Nat.le_of_ble_eq_true rfl, Nat.le_of_ble_eq_true rfl⟩) hP hK (va_recv hK hP (ci := 1) (q0 := 0) rfl rfl) rfl hl.1 rfl (Nat.le_of_ble_eq_true rfl) dX1_steer_23 ⟨Nat.le_of_ble_eq_true rfl, Nat.le_of_ble_eq_true rfl⟩ ?_
    refine lv_ladd hx hb dX1_steer_26 ?_
    refine ck_cS (As := [.long ((ck_rg hd lo hi 0) + (ck_rg hd lo hi 1))]) (rest := [.ref h]) ⟨hx, hb, hml, hown, hts⟩ (c_X1_half l ((ck_rg hd lo hi 0) + (ck_rg hd lo hi 1))) (va_cwS 1 hts gX1_steer_X1_half rfl rfl rfl (by decide +kernel) ⟨Nat.le_of_ble_eq_true rfl, Nat.le_of_ble_eq_true rfl⟩) rfl hl.1 rfl (Nat.le_of_ble_eq_true rfl) dX1_steer_27 ⟨Nat.le_of_ble_eq_true rfl, Nat.le_of_ble_eq_true rfl⟩ ?_
    refine va_put (D := D) (ci := 1) (v := .long (ck_half ((ck_rg hd lo hi 0) + (ck_rg hd lo hi 1)))) (ty := .long) (C := RX1) (T := TX1) (N := 6) hx hb hts hin tyX1 tyX1_ok nmX1 hown hK hP hD hS 0 rfl rfl 5 (by decide) (hts (.fieldLink RX1 81 "ClockDeskModel" "goal" "J") (by decide +kernel)) (fun _ h9 => h9) rfl (by decide +kernel) rfl rfl (Nat.le_of_ble_eq_true rfl) dX1_steer_30 (fun H locs hP hD hS => ?_)
    have hP : va_P D vwCl [(h, .inr (1, [.ref a0, .ref a1, .ref a2, .long ow, .long off, .long (ck_half ((ck_rg hd lo hi 0) + (ck_rg hd lo hi 1)))])), (a0, .inl (c0, 24, .inl (ck_bz (bt hd)))), (a1, .inl (c1, 24, .inr (.inl lo))), (a2, .inl (c2, 24, .inr (.inl hi)))] H := hP
    have hD : va_D A [(h, .inr (1, [.ref a0, .ref a1, .ref a2, .long ow, .long off, .long (ck_half ((ck_rg hd lo hi 0) + (ck_rg hd lo hi 1)))])), (a0, .inl (c0, 24, .inl (ck_bz (bt hd)))), (a1, .inl (c1, 24, .inr (.inl lo))), (a2, .inl (c2, 24, .inr (.inl hi)))] := hD
    refine lv_iconst (v := 1) hx hb dX1_steer_33 (by decide) ?_
    have hw_go : (ck_half ((ck_rg hd lo hi 0) + (ck_rg hd lo hi 1))) = (ck_sG hd lo hi go) := by simp [ck_sG, ck_sk, c_1]
    have hP9 : va_P D vwCl [(h, .inr (1, [.ref a0, .ref a1, .ref a2, .long ow, .long off, .long (ck_sG hd lo hi go)])), (a0, .inl (c0, 24, .inl (ck_bz (bt hd)))), (a1, .inl (c1, 24, .inr (.inl lo))), (a2, .inl (c2, 24, .inr (.inl hi)))] H := by rw [← hw_go]; exact hP
    have hD9 : va_D A [(h, .inr (1, [.ref a0, .ref a1, .ref a2, .long ow, .long off, .long (ck_sG hd lo hi go)])), (a0, .inl (c0, 24, .inl (ck_bz (bt hd)))), (a1, .inl (c1, 24, .inr (.inl lo))), (a2, .inl (c2, 24, .inr (.inl hi)))] := by rw [← hw_go]; exact hD
    have hres : 1 = (ck_b (ck_sk hd lo hi)) := by simp [ck_sk, ck_b, c_1]
    exact W.zret (ty := .boolean) (v := 1) hx hb hr rfl (fun t ht _ => ⟨congrArg (fun z => Outcome.returned (some (Value.int z))) hres, by rw [ht]; exact hP9, hD9, hS.F ht⟩) hS.2.2 dX1_steer_34
  · refine lv_iconst (v := 0) hx hb dX1_steer_13 (by decide) ?_
    have hw_go : go = (ck_sG hd lo hi go) := by simp [ck_sG, ck_sk, c_1]
    have hP9 : va_P D vwCl [(h, .inr (1, [.ref a0, .ref a1, .ref a2, .long ow, .long off, .long (ck_sG hd lo hi go)])), (a0, .inl (c0, 24, .inl (ck_bz (bt hd)))), (a1, .inl (c1, 24, .inr (.inl lo))), (a2, .inl (c2, 24, .inr (.inl hi)))] s.heap := by rw [← hw_go]; exact hP
    have hD9 : va_D A [(h, .inr (1, [.ref a0, .ref a1, .ref a2, .long ow, .long off, .long (ck_sG hd lo hi go)])), (a0, .inl (c0, 24, .inl (ck_bz (bt hd)))), (a1, .inl (c1, 24, .inr (.inl lo))), (a2, .inl (c2, 24, .inr (.inl hi)))] := by rw [← hw_go]; exact hD
    have hres : 0 = (ck_b (ck_sk hd lo hi)) := by simp [ck_sk, ck_b, c_1]
    exact W.zret (ty := .boolean) (v := 0) hx hb hr rfl (fun t ht _ => ⟨congrArg (fun z => Outcome.returned (some (Value.int z))) hres, by rw [ht]; exact hP9, hD9, hS.F ht⟩) hS.2.2 dX1_steer_14
end
section
-- the two constructors, and what holds of the state from call to call
theorem ck_n24 : ¬ (24 : Int32) < 0 := by decide
theorem ck_c24 : (24 : Int32).toNatClampNeg = 24 := by decide
theorem ck_by8 : 24 * componentBytes .long ≤ 536870912 := Nat.le_of_ble_eq_true rfl
theorem ck_by1 : 24 * componentBytes .boolean ≤ 536870912 := Nat.le_of_ble_eq_true rfl
theorem ck_dl (cA : ClassId) : vp_cell cA (24, .inr (.inl (fun _ => 0))) = arrV cA 24 (fun _ => defaultValue .long) := rfl
theorem ck_dz (cA : ClassId) : vp_cell cA (24, .inl (fun _ => 0)) = arrV cA 24 (fun _ => defaultValue .boolean) := rfl
theorem ck_tyl : newarray.typeOf .long = .long := rfl
theorem ck_bz0 : (fun _ => (0 : Int32)) = ck_bz (bt 0) := by
  funext k
  show (0 : Int32) = ck_b (bt 0 k)
  rw [b_0]
  rfl
set_option maxHeartbeats 400000 in
set_option maxRecDepth 100000 in
theorem c_X0_init (l : Launch) (D : va_G) (h sz : Nat) : Met l yX0_init wsX0_init { frames := 1, cells := 2, slots := 48, locals := 20 } (va_Pc [.ref h] (fun U => U.heap.size = sz ∧ va_P D vwCl [(h, .inr (0, [.null, .null, .int 0, .long 0, .long 0, .long 0]))] U.heap ∧ va_K D vwCl [] U ∧ va_D (fun _ => True) [(h, .inr (0, [.null, .null, .int 0, .long 0, .long 0, .long 0]))])) (va_Qv (fun _ : Unit => True) (fun _ t => ∃ (a1 a2 : Nat) (c1 c2 : ClassId), va_P D vwCl (xW h a1 a2 c1 c2 (fun _ => 0) (fun _ => 0) 0 0 0 0) t.heap ∧ va_K D vwCl (xT c1 c2) t ∧ va_D (va_A [(h, .inr (0, [.null, .null, .int 0, .long 0, .long 0, .long 0]))] sz) (xW h a1 a2 c1 c2 (fun _ => 0) (fun _ => 0) 0 0 0 0)) (va_A [(h, .inr (0, [.null, .null, .int 0, .long 0, .long 0, .long 0]))] sz)) 2 48 (va_A [(h, .inr (0, [.null, .null, .int 0, .long 0, .long 0, .long 0]))] sz) := by
  refine Met.ofW (cc := cX0_init) (maxL := 1) (ret := none) (by decide) rfl ?_
  intro p e s m args below meth c s₁ B hml hv
  obtain ⟨rfl, hsz, hP, hK, hD0⟩ := hv
  have hx := B.exec
  have hb := B.bytes
  have hr := B.returns
  have hts := atoms_spec (ws := wsX0_init) B.pre
  have hown : s.vm.findClass RX0 = some m.cls := findClass_of_methodNamed B.named
  have hlocks := B.notSynchronized
  have hin2 : meth.name = "<init>" := (name_of_methodNamed B.named B.method).1
  have hin : ∀ w ∈ wsX00, w ∈ wsX0_init := fun _ h => List.mem_cons_of_mem _ (List.mem_append_right _ h)
  subst hsz
  have hD := hD0.self (sz := s.heap.size)
  generalize hAe : va_A [(h, .inr (0, [.null, .null, .int 0, .long 0, .long 0, .long 0]))] s.heap.size = A at hD ⊢
  have hA : ∀ q : Nat, s.heap.size ≤ q → A q := fun q h => by rw [← hAe]; exact Or.inr h
  have hS : va_S A s.heap s.heap [] := va_S.rf
  have hl := lv_entry ([.ref h]) (n := 1) (Nat.le_of_ble_eq_true rfl)
  rw [lg_entry_eq]
  generalize (lg_sl ([.ref h]) ++ List.replicate (1 - (lg_sl ([.ref h])).length) Slot.unset).toArray = ls at hl ⊢
  have hl : lv_has ls 1 [(0, .ref h)] := hl
  refine lv_aload_n hx hb dX0_init_0 rfl (lv_at hl 0 rfl) ?_
  refine W.objInit hx hb hown (hts (.methodLink RX0 1 objectInit) (by decide +kernel)) (hts (.instanceMethod objectInit) (by decide +kernel)) (hts _ (List.mem_cons_of_mem _ (List.mem_append_left _ (List.mem_of_getElem? (i := 2) rfl)))) rfl (by rw [hml]; exact hl.1) rfl dX0_init_1 (Nat.le_of_ble_eq_true rfl) (Nat.le_of_ble_eq_true rfl) ?_
  refine W.eq (g2 := F0 m 4 ls []) rfl ?_
  refine lv_aload_n hx hb dX0_init_4 rfl (lv_at hl 0 rfl) ?_
  refine lv_bipush (v := 24) hx hb dX0_init_5 (by decide) ?_
  refine va_newa (atype := .long) (ty := .long) (n := 24) (N' := 24) (a0 := (24, .inr (.inl (fun _ => 0)))) hx hb (hts (.arrayClass .long) (by decide +kernel)) rfl hK hP hD hS hA ck_dl ck_n24 ck_c24 ck_by8 (Nat.le_of_ble_eq_true rfl) (Nat.le_of_ble_eq_true rfl) dX0_init_7 (fun a1 c1 H hK hP hD hS => ?_)
  have hK : va_K D vwCl [(c1, .long)] s := hK
  have hP : va_P D vwCl [(h, .inr (0, [.null, .null, .int 0, .long 0, .long 0, .long 0])), (a1, .inl (c1, 24, .inr (.inl (fun _ => 0))))] H := hP
  have hD : va_D A [(h, .inr (0, [.null, .null, .int 0, .long 0, .long 0, .long 0])), (a1, .inl (c1, 24, .inr (.inl (fun _ => 0))))] := hD
  refine va_putF (D := D) (ci := 0) (v := .ref a1) (ty := .array .long) (C := RX0) (T := TX0) (N := 6) hx hb hts hin tyX0 tyX0_ok nmX0 hown hK hP hD hS 0 rfl rfl 0 (by decide) (hts (.fieldLink RX0 9 "ClockDesk" "lows" "[J") (by decide +kernel)) (fun _ h9 => h9) rfl hin2 rfl (by decide +kernel) rfl rfl (Nat.le_of_ble_eq_true rfl) dX0_init_9 (fun H locs hP hD hS => ?_)
  have hP : va_P D vwCl [(h, .inr (0, [.ref a1, .null, .int 0, .long 0, .long 0, .long 0])), (a1, .inl (c1, 24, .inr (.inl (fun _ => 0))))] H := hP
  have hD : va_D A [(h, .inr (0, [.ref a1, .null, .int 0, .long 0, .long 0, .long 0])), (a1, .inl (c1, 24, .inr (.inl (fun _ => 0))))] := hD
  refine lv_aload_n hx hb dX0_init_12 rfl (lv_at hl 0 rfl) ?_
  refine lv_bipush (v := 24) hx hb dX0_init_13 (by decide) ?_
  refine va_newa (atype := .long) (ty := .long) (n := 24) (N' := 24) (a0 := (24, .inr (.inl (fun _ => 0)))) hx hb (hts (.arrayClass .long) (by decide +kernel)) rfl hK hP hD hS hA ck_dl ck_n24 ck_c24 ck_by8 (Nat.le_of_ble_eq_true rfl) (Nat.le_of_ble_eq_true rfl) dX0_init_15 (fun a2 c2 H hK hP hD hS => ?_)
  have hK : va_K D vwCl [(c1, .long), (c2, .long)] s := hK
  have hP : va_P D vwCl [(h, .inr (0, [.ref a1, .null, .int 0, .long 0, .long 0, .long 0])), (a1, .inl (c1, 24, .inr (.inl (fun _ => 0)))), (a2, .inl (c2, 24, .inr (.inl (fun _ => 0))))] H := hP
  have hD : va_D A [(h, .inr (0, [.ref a1, .null, .int 0, .long 0, .long 0, .long 0])), (a1, .inl (c1, 24, .inr (.inl (fun _ => 0)))), (a2, .inl (c2, 24, .inr (.inl (fun _ => 0))))] := hD
  refine va_putF (D := D) (ci := 0) (v := .ref a2) (ty := .array .long) (C := RX0) (T := TX0) (N := 6) hx hb hts hin tyX0 tyX0_ok nmX0 hown hK hP hD hS 0 rfl rfl 1 (by decide) (hts (.fieldLink RX0 13 "ClockDesk" "highs" "[J") (by decide +kernel)) (fun _ h9 => h9) rfl hin2 rfl (by decide +kernel) rfl rfl (Nat.le_of_ble_eq_true rfl) dX0_init_17 (fun H locs hP hD hS => ?_)
  have hP : va_P D vwCl (xW h a1 a2 c1 c2 (fun _ => 0) (fun _ => 0) 0 0 0 0) H := hP
  have hD : va_D A (xW h a1 a2 c1 c2 (fun _ => 0) (fun _ => 0) 0 0 0 0) := hD
  refine lv_aload_n hx hb dX0_init_20 rfl (lv_at hl 0 rfl) ?_
  refine lv_iconst (v := 0) hx hb dX0_init_21 (by decide) ?_
  refine va_put (D := D) (ci := 0) (v := .int 0) (ty := .int) (C := RX0) (T := TX0) (N := 6) hx hb hts hin tyX0 tyX0_ok nmX0 hown hK hP hD hS 0 rfl rfl 2 (by decide) (hts (.fieldLink RX0 16 "ClockDesk" "held" "I") (by decide +kernel)) (fun _ h9 => h9) rfl (by decide +kernel) rfl rfl (Nat.le_of_ble_eq_true rfl) dX0_init_22 (fun H locs hP hD hS => ?_)
  have hP : va_P D vwCl (xW h a1 a2 c1 c2 (fun _ => 0) (fun _ => 0) 0 0 0 0) H := hP
  have hD : va_D A (xW h a1 a2 c1 c2 (fun _ => 0) (fun _ => 0) 0 0 0 0) := hD
  refine lv_aload_n hx hb dX0_init_25 rfl (lv_at hl 0 rfl) ?_
  refine lv_lconst (v := 0) hx hb dX0_init_26 (by decide) ?_
  refine va_put (D := D) (ci := 0) (v := .long 0) (ty := .long) (C := RX0) (T := TX0) (N := 6) hx hb hts hin tyX0 tyX0_ok nmX0 hown hK hP hD hS 0 rfl rfl 3 (by decide) (hts (.fieldLink RX0 20 "ClockDesk" "ownTime" "J") (by decide +kernel)) (fun _ h9 => h9) rfl (by decide +kernel) rfl rfl (Nat.le_of_ble_eq_true rfl) dX0_init_27 (fun H locs hP hD hS => ?_)
  have hP : va_P D vwCl (xW h a1 a2 c1 c2 (fun _ => 0) (fun _ => 0) 0 0 0 0) H := hP
  have hD : va_D A (xW h a1 a2 c1 c2 (fun _ => 0) (fun _ => 0) 0 0 0 0) := hD
  refine lv_aload_n hx hb dX0_init_30 rfl (lv_at hl 0 rfl) ?_
  refine lv_lconst (v := 0) hx hb dX0_init_31 (by decide) ?_
  refine va_put (D := D) (ci := 0) (v := .long 0) (ty := .long) (C := RX0) (T := TX0) (N := 6) hx hb hts hin tyX0 tyX0_ok nmX0 hown hK hP hD hS 0 rfl rfl 4 (by decide) (hts (.fieldLink RX0 24 "ClockDesk" "clockOffset" "J") (by decide +kernel)) (fun _ h9 => h9) rfl (by decide +kernel) rfl rfl (Nat.le_of_ble_eq_true rfl) dX0_init_32 (fun H locs hP hD hS => ?_)
  have hP : va_P D vwCl (xW h a1 a2 c1 c2 (fun _ => 0) (fun _ => 0) 0 0 0 0) H := hP
  have hD : va_D A (xW h a1 a2 c1 c2 (fun _ => 0) (fun _ => 0) 0 0 0 0) := hD
  refine lv_aload_n hx hb dX0_init_35 rfl (lv_at hl 0 rfl) ?_
  refine lv_lconst (v := 0) hx hb dX0_init_36 (by decide) ?_
  refine va_put (D := D) (ci := 0) (v := .long 0) (ty := .long) (C := RX0) (T := TX0) (N := 6) hx hb hts hin tyX0 tyX0_ok nmX0 hown hK hP hD hS 0 rfl rfl 5 (by decide) (hts (.fieldLink RX0 27 "ClockDesk" "goal" "J") (by decide +kernel)) (fun _ h9 => h9) rfl (by decide +kernel) rfl rfl (Nat.le_of_ble_eq_true rfl) dX0_init_37 (fun H locs hP hD hS => ?_)
  have hP : va_P D vwCl (xW h a1 a2 c1 c2 (fun _ => 0) (fun _ => 0) 0 0 0 0) H := hP
  have hD : va_D A (xW h a1 a2 c1 c2 (fun _ => 0) (fun _ => 0) 0 0 0 0) := hD
  refine W.widen (k := 2) (n := 48) (by omega) (by omega) ?_
  exact W.vret hx hb hr (fun t ht hW => ⟨⟨(), rfl, trivial, a1, a2, c1, c2, by rw [ht]; exact hP, va_K.moved hW.alike hK, hD⟩, hS.F ht⟩) hS.2.2 dX0_init_40
set_option maxHeartbeats 400000 in
set_option maxRecDepth 100000 in
theorem c_X1_init (l : Launch) (D : va_G) (h sz : Nat) : Met l yX1_init wsX1_init { frames := 1, cells := 3, slots := 72, locals := 20 } (va_Pc [.ref h] (fun U => U.heap.size = sz ∧ va_P D vwCl [(h, .inr (1, [.null, .null, .null, .long 0, .long 0, .long 0]))] U.heap ∧ va_K D vwCl [] U ∧ va_D (fun _ => True) [(h, .inr (1, [.null, .null, .null, .long 0, .long 0, .long 0]))])) (va_Qv (fun _ : Unit => True) (fun _ t => ∃ (a0 a1 a2 : Nat) (c0 c1 c2 : ClassId), va_P D vwCl (mW h a0 a1 a2 c0 c1 c2 (fun _ => 0) (fun _ => 0) 0 0 0 0) t.heap ∧ va_K D vwCl (mT c0 c1 c2) t ∧ va_D (va_A [(h, .inr (1, [.null, .null, .null, .long 0, .long 0, .long 0]))] sz) (mW h a0 a1 a2 c0 c1 c2 (fun _ => 0) (fun _ => 0) 0 0 0 0)) (va_A [(h, .inr (1, [.null, .null, .null, .long 0, .long 0, .long 0]))] sz)) 3 72 (va_A [(h, .inr (1, [.null, .null, .null, .long 0, .long 0, .long 0]))] sz) := by
  refine Met.ofW (cc := cX1_init) (maxL := 1) (ret := none) (by decide) rfl ?_
  intro p e s m args below meth c s₁ B hml hv
  obtain ⟨rfl, hsz, hP, hK, hD0⟩ := hv
  have hx := B.exec
  have hb := B.bytes
  have hr := B.returns
  have hts := atoms_spec (ws := wsX1_init) B.pre
  have hown : s.vm.findClass RX1 = some m.cls := findClass_of_methodNamed B.named
  have hlocks := B.notSynchronized
  have hin2 : meth.name = "<init>" := (name_of_methodNamed B.named B.method).1
  have hin : ∀ w ∈ wsX10, w ∈ wsX1_init := fun _ h => List.mem_cons_of_mem _ (List.mem_append_right _ h)
  subst hsz
  have hD := hD0.self (sz := s.heap.size)
  generalize hAe : va_A [(h, .inr (1, [.null, .null, .null, .long 0, .long 0, .long 0]))] s.heap.size = A at hD ⊢
  have hA : ∀ q : Nat, s.heap.size ≤ q → A q := fun q h => by rw [← hAe]; exact Or.inr h
  have hS : va_S A s.heap s.heap [] := va_S.rf
  have hl := lv_entry ([.ref h]) (n := 1) (Nat.le_of_ble_eq_true rfl)
  rw [lg_entry_eq]
  generalize (lg_sl ([.ref h]) ++ List.replicate (1 - (lg_sl ([.ref h])).length) Slot.unset).toArray = ls at hl ⊢
  have hl : lv_has ls 1 [(0, .ref h)] := hl
  refine lv_aload_n hx hb dX1_init_0 rfl (lv_at hl 0 rfl) ?_
  refine W.objInit hx hb hown (hts (.methodLink RX1 1 objectInit) (by decide +kernel)) (hts (.instanceMethod objectInit) (by decide +kernel)) (hts _ (List.mem_cons_of_mem _ (List.mem_append_left _ (List.mem_of_getElem? (i := 2) rfl)))) rfl (by rw [hml]; exact hl.1) rfl dX1_init_1 (Nat.le_of_ble_eq_true rfl) (Nat.le_of_ble_eq_true rfl) ?_
  refine W.eq (g2 := F0 m 4 ls []) rfl ?_
  refine lv_aload_n hx hb dX1_init_4 rfl (lv_at hl 0 rfl) ?_
  refine lv_bipush (v := 24) hx hb dX1_init_5 (by decide) ?_
  refine va_newa (atype := .boolean) (ty := .boolean) (n := 24) (N' := 24) (a0 := (24, .inl (fun _ => 0))) hx hb (hts (.arrayClass .boolean) (by decide +kernel)) rfl hK hP hD hS hA ck_dz ck_n24 ck_c24 ck_by1 (Nat.le_of_ble_eq_true rfl) (Nat.le_of_ble_eq_true rfl) dX1_init_7 (fun a0 c0 H hK hP hD hS => ?_)
  rw [ck_bz0] at hP hD
  have hK : va_K D vwCl [(c0, .boolean)] s := hK
  have hP : va_P D vwCl [(h, .inr (1, [.null, .null, .null, .long 0, .long 0, .long 0])), (a0, .inl (c0, 24, .inl (ck_bz (bt 0))))] H := hP
  have hD : va_D A [(h, .inr (1, [.null, .null, .null, .long 0, .long 0, .long 0])), (a0, .inl (c0, 24, .inl (ck_bz (bt 0))))] := hD
  refine va_putF (D := D) (ci := 1) (v := .ref a0) (ty := .array .boolean) (C := RX1) (T := TX1) (N := 6) hx hb hts hin tyX1 tyX1_ok nmX1 hown hK hP hD hS 0 rfl rfl 0 (by decide) (hts (.fieldLink RX1 7 "ClockDeskModel" "is" "[Z") (by decide +kernel)) (fun _ h9 => h9) rfl hin2 rfl (by decide +kernel) rfl rfl (Nat.le_of_ble_eq_true rfl) dX1_init_9 (fun H locs hP hD hS => ?_)
  have hP : va_P D vwCl [(h, .inr (1, [.ref a0, .null, .null, .long 0, .long 0, .long 0])), (a0, .inl (c0, 24, .inl (ck_bz (bt 0))))] H := hP
  have hD : va_D A [(h, .inr (1, [.ref a0, .null, .null, .long 0, .long 0, .long 0])), (a0, .inl (c0, 24, .inl (ck_bz (bt 0))))] := hD
  refine lv_aload_n hx hb dX1_init_12 rfl (lv_at hl 0 rfl) ?_
  refine lv_bipush (v := 24) hx hb dX1_init_13 (by decide) ?_
  refine va_newa (atype := .long) (ty := .long) (n := 24) (N' := 24) (a0 := (24, .inr (.inl (fun _ => 0)))) hx hb (hts (.arrayClass .long) (by decide +kernel)) rfl hK hP hD hS hA ck_dl ck_n24 ck_c24 ck_by8 (Nat.le_of_ble_eq_true rfl) (Nat.le_of_ble_eq_true rfl) dX1_init_15 (fun a1 c1 H hK hP hD hS => ?_)
  have hK : va_K D vwCl [(c0, .boolean), (c1, .long)] s := hK
  have hP : va_P D vwCl [(h, .inr (1, [.ref a0, .null, .null, .long 0, .long 0, .long 0])), (a0, .inl (c0, 24, .inl (ck_bz (bt 0)))), (a1, .inl (c1, 24, .inr (.inl (fun _ => 0))))] H := hP
  have hD : va_D A [(h, .inr (1, [.ref a0, .null, .null, .long 0, .long 0, .long 0])), (a0, .inl (c0, 24, .inl (ck_bz (bt 0)))), (a1, .inl (c1, 24, .inr (.inl (fun _ => 0))))] := hD
  refine va_putF (D := D) (ci := 1) (v := .ref a1) (ty := .array .long) (C := RX1) (T := TX1) (N := 6) hx hb hts hin tyX1 tyX1_ok nmX1 hown hK hP hD hS 0 rfl rfl 1 (by decide) (hts (.fieldLink RX1 13 "ClockDeskModel" "low" "[J") (by decide +kernel)) (fun _ h9 => h9) rfl hin2 rfl (by decide +kernel) rfl rfl (Nat.le_of_ble_eq_true rfl) dX1_init_17 (fun H locs hP hD hS => ?_)
  have hP : va_P D vwCl [(h, .inr (1, [.ref a0, .ref a1, .null, .long 0, .long 0, .long 0])), (a0, .inl (c0, 24, .inl (ck_bz (bt 0)))), (a1, .inl (c1, 24, .inr (.inl (fun _ => 0))))] H := hP
  have hD : va_D A [(h, .inr (1, [.ref a0, .ref a1, .null, .long 0, .long 0, .long 0])), (a0, .inl (c0, 24, .inl (ck_bz (bt 0)))), (a1, .inl (c1, 24, .inr (.inl (fun _ => 0))))] := hD
  refine lv_aload_n hx hb dX1_init_20 rfl (lv_at hl 0 rfl) ?_
  refine lv_bipush (v := 24) hx hb dX1_init_21 (by decide) ?_
  refine va_newa (atype := .long) (ty := .long) (n := 24) (N' := 24) (a0 := (24, .inr (.inl (fun _ => 0)))) hx hb (hts (.arrayClass .long) (by decide +kernel)) rfl hK hP hD hS hA ck_dl ck_n24 ck_c24 ck_by8 (Nat.le_of_ble_eq_true rfl) (Nat.le_of_ble_eq_true rfl) dX1_init_23 (fun a2 c2 H hK hP hD hS => ?_)
  have hK : va_K D vwCl (mT c0 c1 c2) s := hK
  have hP : va_P D vwCl [(h, .inr (1, [.ref a0, .ref a1, .null, .long 0, .long 0, .long 0])), (a0, .inl (c0, 24, .inl (ck_bz (bt 0)))), (a1, .inl (c1, 24, .inr (.inl (fun _ => 0)))), (a2, .inl (c2, 24, .inr (.inl (fun _ => 0))))] H := hP
  have hD : va_D A [(h, .inr (1, [.ref a0, .ref a1, .null, .long 0, .long 0, .long 0])), (a0, .inl (c0, 24, .inl (ck_bz (bt 0)))), (a1, .inl (c1, 24, .inr (.inl (fun _ => 0)))), (a2, .inl (c2, 24, .inr (.inl (fun _ => 0))))] := hD
  refine va_putF (D := D) (ci := 1) (v := .ref a2) (ty := .array .long) (C := RX1) (T := TX1) (N := 6) hx hb hts hin tyX1 tyX1_ok nmX1 hown hK hP hD hS 0 rfl rfl 2 (by decide) (hts (.fieldLink RX1 17 "ClockDeskModel" "high" "[J") (by decide +kernel)) (fun _ h9 => h9) rfl hin2 rfl (by decide +kernel) rfl rfl (Nat.le_of_ble_eq_true rfl) dX1_init_25 (fun H locs hP hD hS => ?_)
  have hP : va_P D vwCl (mW h a0 a1 a2 c0 c1 c2 (fun _ => 0) (fun _ => 0) 0 0 0 0) H := hP
  have hD : va_D A (mW h a0 a1 a2 c0 c1 c2 (fun _ => 0) (fun _ => 0) 0 0 0 0) := hD
  refine W.widen (k := 3) (n := 72) (by omega) (by omega) ?_
  exact W.vret hx hb hr (fun t ht hW => ⟨⟨(), rfl, trivial, a0, a1, a2, c0, c1, c2, by rw [ht]; exact hP, va_K.moved hW.alike hK, hD⟩, hS.F ht⟩) hS.2.2 dX1_init_28
theorem ck_inv0 : ck_inv 0 (fun _ => 0) (fun _ => 0) := ⟨fun j _ => b_0 j, fun _ => (by decide +kernel : ck_NFAR ≤ 0 ∧ (0 : Int64) ≤ 0 ∧ 0 ≤ ck_FAR)⟩
theorem ck_inv_set {hd : Int32} {lo hi : Nat → Int64} (inv : ck_inv hd lo hi) {j : Nat} (hj : j < 24) {a b : Int64} (h1 : ck_NFAR ≤ a) (h2 : a ≤ b) (h3 : b ≤ ck_FAR) : ck_inv (hd ||| ((1 : Int32) <<< (nI j &&& 31))) (vp_updL lo j a) (vp_updL hi j b) := by
  refine ⟨fun k hk => ?_, fun k => ?_⟩
  · rw [ck_bt_or hd hj, inv.1 k hk, decide_eq_false (by omega)]
    rfl
  · unfold vp_updL
    by_cases e : k = j
    · rw [if_pos e, if_pos e]
      exact ⟨h1, h2, h3⟩
    · rw [if_neg e, if_neg e]
      exact inv.2 k
theorem ck_inv_iv {hd : Int32} {lo hi : Nat → Int64} (inv : ck_inv hd lo hi) (x : Int32) (a b : Int64) : ck_inv (ck_uH (ck_ivk x a b) hd x) (ck_uL (ck_ivk x a b) lo x a) (ck_uL (ck_ivk x a b) hi x b) := by
  cases hk : ck_ivk x a b with
  | false => exact inv
  | true =>
    simp only [ck_ivk, Bool.and_eq_true, Bool.not_eq_true', decide_eq_false_iff_not, decide_eq_true_eq] at hk
    obtain ⟨h0, h1, h2, h3⟩ := hk
    obtain ⟨j, hj, rfl⟩ := ck_srcE h0
    have e : (nI j).toNatClampNeg = j := nI_clamp (by omega)
    simp only [ck_uH, ck_uL, if_true, e]
    refine ck_inv_set inv hj ?_ ?_ h3
    · rw [Int64.le_iff_toInt_le]
      rw [Int64.lt_iff_toInt_lt] at h1
      omega
    · rw [Int64.le_iff_toInt_le]
      rw [Int64.lt_iff_toInt_lt] at h2
      omega
theorem ck_toI_TIME : ck_TIME.toInt = 144115188075855872 := by decide +kernel
theorem ck_inv_ex {hd : Int32} {lo hi : Nat → Int64} (inv : ck_inv hd lo hi) (x : Int32) (sn td cm : Int64) : ck_inv (ck_uH (ck_exk x sn td cm) hd x) (ck_uL (ck_exk x sn td cm) lo x (td - cm)) (ck_uL (ck_exk x sn td cm) hi x (td - sn)) := by
  cases hk : ck_exk x sn td cm with
  | false => exact inv
  | true =>
    simp only [ck_exk, ck_tm, Bool.and_eq_true, Bool.not_eq_true', decide_eq_false_iff_not, decide_eq_true_eq, Int64.lt_iff_toInt_lt, Int64.le_iff_toInt_le, ck_i0, ck_toI_TIME] at hk
    obtain ⟨h0, ⟨h1, h2⟩, ⟨h3, h4⟩, ⟨h5, h6⟩, h7⟩ := hk
    obtain ⟨j, hj, rfl⟩ := ck_srcE h0
    have e : (nI j).toNatClampNeg = j := nI_clamp (by omega)
    simp only [ck_uH, ck_uL, if_true, e]
    have e1 : (td - cm).toInt = td.toInt - cm.toInt := by
      rw [Int64.toInt_sub]
      exact ck_mb (by omega) (by omega)
    have e2 : (td - sn).toInt = td.toInt - sn.toInt := by
      rw [Int64.toInt_sub]
      exact ck_mb (by omega) (by omega)
    refine ck_inv_set inv hj ?_ ?_ ?_
    · rw [Int64.le_iff_toInt_le, e1, ck_toI_NFAR]
      omega
    · rw [Int64.le_iff_toInt_le, e1, e2]
      omega
    · rw [Int64.le_iff_toInt_le, e2, ck_toI_FAR]
      omega
theorem ck_inv_dr {hd : Int32} {lo hi : Nat → Int64} (inv : ck_inv hd lo hi) (x : Int32) : ck_inv (ck_dH hd x) lo hi := by
  unfold ck_dH
  cases hk : ck_in hd x with
  | false => exact inv
  | true =>
    obtain ⟨j, hj, rfl⟩ := ck_inE hk
    refine ⟨fun k h => ?_, inv.2⟩
    simp only [if_true]
    rw [ck_bt_wo hd hj, inv.1 k h]
    rfl
theorem ck_inv_tk {ow : Int64} (h : 0 ≤ ow) (t : Int64) : 0 ≤ ck_tW ow t := by
  unfold ck_tW
  cases hk : ck_tk ow t with
  | false => exact h
  | true =>
    simp only [ck_tk, Bool.and_eq_true, Bool.not_eq_true', decide_eq_false_iff_not] at hk
    simp only [if_true]
    rw [Int64.le_iff_toInt_le] at h ⊢
    have := hk.1
    rw [Int64.lt_iff_toInt_lt] at this
    omega
end
