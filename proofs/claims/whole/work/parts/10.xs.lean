set_option maxHeartbeats 4000000 in
set_option maxRecDepth 100000 in
theorem c_X0_isSource (l : Launch) (x : Int32)  : Met l yX0_isSource wsX0_isSource { frames := 0, cells := 0, slots := 0, locals := 0 } (va_Pc [.int x] (fun _ => True)) (ck_R (.int (ck_b (ck_src x)))) 0 0 (fun _ => False) := by
  refine Met.ofW (cc := cX0_isSource) (maxL := 1) (ret := (some .boolean)) (by decide) rfl ?_
  intro p e s m args below meth c s₁ B hml hv
  obtain ⟨rfl, -⟩ := hv
  have hx := B.exec
  have hb := B.bytes
  have hr := B.returns
  have hts := atoms_spec (ws := wsX0_isSource) B.pre
  have hown : s.vm.findClass RX0 = some m.cls := findClass_of_methodNamed B.named
  have hlocks := B.notSynchronized
  have hl := lv_entry ([.int x]) (n := 1) (Nat.le_of_ble_eq_true rfl)
  rw [lg_entry_eq]
  generalize (lg_sl ([.int x]) ++ List.replicate (1 - (lg_sl ([.int x])).length) Slot.unset).toArray = ls at hl ⊢
  have hl : lv_has ls 1 [(0, .int x)] := hl
  refine lv_iload_n hx hb dX0_isSource_0 rfl (lv_at hl 0 rfl) ?_
  refine lv_if_lt (tgt := 14) hx hb dX0_isSource_1 (by decide) (fun c_1 => ?_) (fun c_1 => ?_)
  · refine lv_iconst (v := 0) hx hb dX0_isSource_14 (by decide) ?_
    have hres : 0 = (ck_b (ck_src x)) := by simp [ck_src, ck_b, c_1]
    exact W.zret (ty := .boolean) (v := 0) hx hb hr rfl (fun t ht _ => ⟨congrArg (fun z => Outcome.returned (some (Value.int z))) hres, ht⟩) (fun _ h => nomatch h) dX0_isSource_15
  · refine lv_iload_n hx hb dX0_isSource_4 rfl (lv_at hl 0 rfl) ?_
    refine lv_bipush (v := 24) hx hb dX0_isSource_5 (by decide) ?_
    refine lv_icmp_ge (tgt := 14) hx hb dX0_isSource_7 (by decide) (fun c_2 => ?_) (fun c_2 => ?_)
    · refine lv_iconst (v := 0) hx hb dX0_isSource_14 (by decide) ?_
      have hres : 0 = (ck_b (ck_src x)) := by simp [ck_src, ck_b, c_1, c_2]
      exact W.zret (ty := .boolean) (v := 0) hx hb hr rfl (fun t ht _ => ⟨congrArg (fun z => Outcome.returned (some (Value.int z))) hres, ht⟩) (fun _ h => nomatch h) dX0_isSource_15
    · refine lv_iconst (v := 1) hx hb dX0_isSource_10 (by decide) ?_
      refine lv_goto (tgt := 15) hx hb dX0_isSource_11 (by decide) ?_
      have hres : 1 = (ck_b (ck_src x)) := by simp [ck_src, ck_b, c_1, c_2]
      exact W.zret (ty := .boolean) (v := 1) hx hb hr rfl (fun t ht _ => ⟨congrArg (fun z => Outcome.returned (some (Value.int z))) hres, ht⟩) (fun _ h => nomatch h) dX0_isSource_15

set_option maxHeartbeats 4000000 in
set_option maxRecDepth 100000 in
theorem c_X0_isTime (l : Launch) (t0 : Int64)  : Met l yX0_isTime wsX0_isTime { frames := 0, cells := 0, slots := 0, locals := 0 } (va_Pc [.long t0] (fun _ => True)) (ck_R (.int (ck_b (ck_tm t0)))) 0 0 (fun _ => False) := by
  refine Met.ofW (cc := cX0_isTime) (maxL := 2) (ret := (some .boolean)) (by decide) rfl ?_
  intro p e s m args below meth c s₁ B hml hv
  obtain ⟨rfl, -⟩ := hv
  have hx := B.exec
  have hb := B.bytes
  have hr := B.returns
  have hts := atoms_spec (ws := wsX0_isTime) B.pre
  have hown : s.vm.findClass RX0 = some m.cls := findClass_of_methodNamed B.named
  have hlocks := B.notSynchronized
  have hl := lv_entry ([.long t0]) (n := 2) (Nat.le_of_ble_eq_true rfl)
  rw [lg_entry_eq]
  generalize (lg_sl ([.long t0]) ++ List.replicate (2 - (lg_sl ([.long t0])).length) Slot.unset).toArray = ls at hl ⊢
  have hl : lv_has ls 2 [(0, .long t0)] := hl
  refine lv_lload_n hx hb dX0_isTime_0 rfl (lv_at hl 0 rfl) ?_
  refine lv_lconst (v := 0) hx hb dX0_isTime_1 (by decide) ?_
  refine W.lcmp hx hb dX0_isTime_2 ?_
  refine lv_if_lt (tgt := 18) hx hb dX0_isTime_3 (by decide) (fun c_1 => ?_) (fun c_1 => ?_)
  · rw [lg_cmp_lt] at c_1
    refine lv_iconst (v := 0) hx hb dX0_isTime_18 (by decide) ?_
    have hres : 0 = (ck_b (ck_tm t0)) := by simp [ck_tm, ck_b, c_1]
    exact W.zret (ty := .boolean) (v := 0) hx hb hr rfl (fun t ht _ => ⟨congrArg (fun z => Outcome.returned (some (Value.int z))) hres, ht⟩) (fun _ h => nomatch h) dX0_isTime_19
  · rw [lg_cmp_lt] at c_1
    refine lv_lload_n hx hb dX0_isTime_6 rfl (lv_at hl 0 rfl) ?_
    refine lv_ldc2 (v := ck_TIME) hx hb hown (hts (.constantLong RX0 123 ck_TIME) (by decide +kernel)) dX0_isTime_7 ?_
    refine W.lcmp hx hb dX0_isTime_10 ?_
    refine lv_if_gt (tgt := 18) hx hb dX0_isTime_11 (by decide) (fun c_2 => ?_) (fun c_2 => ?_)
    · rw [lg_cmp_gt] at c_2
      refine lv_iconst (v := 0) hx hb dX0_isTime_18 (by decide) ?_
      have hres : 0 = (ck_b (ck_tm t0)) := by simp [ck_tm, ck_b, c_1, c_2]
      exact W.zret (ty := .boolean) (v := 0) hx hb hr rfl (fun t ht _ => ⟨congrArg (fun z => Outcome.returned (some (Value.int z))) hres, ht⟩) (fun _ h => nomatch h) dX0_isTime_19
    · rw [lg_cmp_gt] at c_2
      refine lv_iconst (v := 1) hx hb dX0_isTime_14 (by decide) ?_
      refine lv_goto (tgt := 19) hx hb dX0_isTime_15 (by decide) ?_
      have hres : 1 = (ck_b (ck_tm t0)) := by simp [ck_tm, ck_b, c_1, c_2]
      exact W.zret (ty := .boolean) (v := 1) hx hb hr rfl (fun t ht _ => ⟨congrArg (fun z => Outcome.returned (some (Value.int z))) hres, ht⟩) (fun _ h => nomatch h) dX0_isTime_19

set_option maxHeartbeats 4000000 in
set_option maxRecDepth 100000 in
theorem c_X0_isCount (l : Launch) (k : Int32)  : Met l yX0_isCount wsX0_isCount { frames := 0, cells := 0, slots := 0, locals := 0 } (va_Pc [.int k] (fun _ => True)) (ck_R (.int (ck_b (ck_ct k)))) 0 0 (fun _ => False) := by
  refine Met.ofW (cc := cX0_isCount) (maxL := 1) (ret := (some .boolean)) (by decide) rfl ?_
  intro p e s m args below meth c s₁ B hml hv
  obtain ⟨rfl, -⟩ := hv
  have hx := B.exec
  have hb := B.bytes
  have hr := B.returns
  have hts := atoms_spec (ws := wsX0_isCount) B.pre
  have hown : s.vm.findClass RX0 = some m.cls := findClass_of_methodNamed B.named
  have hlocks := B.notSynchronized
  have hl := lv_entry ([.int k]) (n := 1) (Nat.le_of_ble_eq_true rfl)
  rw [lg_entry_eq]
  generalize (lg_sl ([.int k]) ++ List.replicate (1 - (lg_sl ([.int k])).length) Slot.unset).toArray = ls at hl ⊢
  have hl : lv_has ls 1 [(0, .int k)] := hl
  refine lv_iload_n hx hb dX0_isCount_0 rfl (lv_at hl 0 rfl) ?_
  refine lv_iconst (v := 1) hx hb dX0_isCount_1 (by decide) ?_
  refine lv_icmp_lt (tgt := 15) hx hb dX0_isCount_2 (by decide) (fun c_1 => ?_) (fun c_1 => ?_)
  · refine lv_iconst (v := 0) hx hb dX0_isCount_15 (by decide) ?_
    have hres : 0 = (ck_b (ck_ct k)) := by simp [ck_ct, ck_b, c_1]
    exact W.zret (ty := .boolean) (v := 0) hx hb hr rfl (fun t ht _ => ⟨congrArg (fun z => Outcome.returned (some (Value.int z))) hres, ht⟩) (fun _ h => nomatch h) dX0_isCount_16
  · refine lv_iload_n hx hb dX0_isCount_5 rfl (lv_at hl 0 rfl) ?_
    refine lv_bipush (v := 24) hx hb dX0_isCount_6 (by decide) ?_
    refine lv_icmp_gt (tgt := 15) hx hb dX0_isCount_8 (by decide) (fun c_2 => ?_) (fun c_2 => ?_)
    · refine lv_iconst (v := 0) hx hb dX0_isCount_15 (by decide) ?_
      have hres : 0 = (ck_b (ck_ct k)) := by simp [ck_ct, ck_b, c_1, c_2]
      exact W.zret (ty := .boolean) (v := 0) hx hb hr rfl (fun t ht _ => ⟨congrArg (fun z => Outcome.returned (some (Value.int z))) hres, ht⟩) (fun _ h => nomatch h) dX0_isCount_16
    · refine lv_iconst (v := 1) hx hb dX0_isCount_11 (by decide) ?_
      refine lv_goto (tgt := 16) hx hb dX0_isCount_12 (by decide) ?_
      have hres : 1 = (ck_b (ck_ct k)) := by simp [ck_ct, ck_b, c_1, c_2]
      exact W.zret (ty := .boolean) (v := 1) hx hb hr rfl (fun t ht _ => ⟨congrArg (fun z => Outcome.returned (some (Value.int z))) hres, ht⟩) (fun _ h => nomatch h) dX0_isCount_16

set_option maxHeartbeats 4000000 in
set_option maxRecDepth 100000 in
theorem c_X0_isZeroOrOne (l : Launch) (x : Int32)  : Met l yX0_isZeroOrOne wsX0_isZeroOrOne { frames := 0, cells := 0, slots := 0, locals := 0 } (va_Pc [.int x] (fun _ => True)) (ck_R (.int (ck_b (ck_zo x)))) 0 0 (fun _ => False) := by
  refine Met.ofW (cc := cX0_isZeroOrOne) (maxL := 1) (ret := (some .boolean)) (by decide) rfl ?_
  intro p e s m args below meth c s₁ B hml hv
  obtain ⟨rfl, -⟩ := hv
  have hx := B.exec
  have hb := B.bytes
  have hr := B.returns
  have hts := atoms_spec (ws := wsX0_isZeroOrOne) B.pre
  have hown : s.vm.findClass RX0 = some m.cls := findClass_of_methodNamed B.named
  have hlocks := B.notSynchronized
  have hl := lv_entry ([.int x]) (n := 1) (Nat.le_of_ble_eq_true rfl)
  rw [lg_entry_eq]
  generalize (lg_sl ([.int x]) ++ List.replicate (1 - (lg_sl ([.int x])).length) Slot.unset).toArray = ls at hl ⊢
  have hl : lv_has ls 1 [(0, .int x)] := hl
  refine lv_iload_n hx hb dX0_isZeroOrOne_0 rfl (lv_at hl 0 rfl) ?_
  refine lv_if_eq (tgt := 9) hx hb dX0_isZeroOrOne_1 (by decide) (fun c_1 => ?_) (fun c_1 => ?_)
  · refine lv_iconst (v := 1) hx hb dX0_isZeroOrOne_9 (by decide) ?_
    refine lv_goto (tgt := 14) hx hb dX0_isZeroOrOne_10 (by decide) ?_
    have hres : 1 = (ck_b (ck_zo x)) := by simp [ck_zo, ck_b, c_1]
    exact W.zret (ty := .boolean) (v := 1) hx hb hr rfl (fun t ht _ => ⟨congrArg (fun z => Outcome.returned (some (Value.int z))) hres, ht⟩) (fun _ h => nomatch h) dX0_isZeroOrOne_14
  · refine lv_iload_n hx hb dX0_isZeroOrOne_4 rfl (lv_at hl 0 rfl) ?_
    refine lv_iconst (v := 1) hx hb dX0_isZeroOrOne_5 (by decide) ?_
    refine lv_icmp_ne (tgt := 13) hx hb dX0_isZeroOrOne_6 (by decide) (fun c_2 => ?_) (fun c_2 => ?_)
    · refine lv_iconst (v := 0) hx hb dX0_isZeroOrOne_13 (by decide) ?_
      have hres : 0 = (ck_b (ck_zo x)) := by simp [ck_zo, ck_b, c_1, c_2]
      exact W.zret (ty := .boolean) (v := 0) hx hb hr rfl (fun t ht _ => ⟨congrArg (fun z => Outcome.returned (some (Value.int z))) hres, ht⟩) (fun _ h => nomatch h) dX0_isZeroOrOne_14
    · refine lv_iconst (v := 1) hx hb dX0_isZeroOrOne_9 (by decide) ?_
      refine lv_goto (tgt := 14) hx hb dX0_isZeroOrOne_10 (by decide) ?_
      have hres : 1 = (ck_b (ck_zo x)) := by simp [ck_zo, ck_b, c_1, c_2]
      exact W.zret (ty := .boolean) (v := 1) hx hb hr rfl (fun t ht _ => ⟨congrArg (fun z => Outcome.returned (some (Value.int z))) hres, ht⟩) (fun _ h => nomatch h) dX0_isZeroOrOne_14

set_option maxHeartbeats 4000000 in
set_option maxRecDepth 100000 in
theorem c_J9_floorDiv_f86c9 (l : Launch) (x : Int64) (y : Int64) (hy : ¬ y = 0) : Met l yJ9_floorDiv_f86c9 wsJ9_floorDiv_f86c9 { frames := 0, cells := 0, slots := 0, locals := 0 } (va_Pc [.long x, .long y] (fun _ => True)) (ck_R (.long (ck_fd x y))) 0 0 (fun _ => False) := by
  refine ck_ofW (cc := cJ9_floorDiv_f86c9) (maxL := 6) (ret := (some .long)) (by decide +kernel) rfl ?_
  intro p e s m args below meth c s₁ B hml hv
  obtain ⟨rfl, -⟩ := hv
  have hx := B.exec
  have hb := B.bytes
  have hr := B.returns
  have hts := atoms_spec (ws := wsJ9_floorDiv_f86c9) B.pre
  have hown : s.vm.findClass RJ9 = some m.cls := findClass_of_methodNamed B.named
  have hlocks := B.notSynchronized
  have hl := lv_entry ([.long x, .long y]) (n := 6) (Nat.le_of_ble_eq_true rfl)
  rw [lg_entry_eq]
  generalize (lg_sl ([.long x, .long y]) ++ List.replicate (6 - (lg_sl ([.long x, .long y])).length) Slot.unset).toArray = ls at hl ⊢
  have hl : lv_has ls 6 [(0, .long x), (2, .long y)] := hl
  refine lv_lload_n hx hb dJ9_floorDiv_f86c9_0 rfl (lv_at hl 0 rfl) ?_
  refine lv_lload_n hx hb dJ9_floorDiv_f86c9_1 rfl (lv_at hl 1 rfl) ?_
  refine lv_ldiv hx hb dJ9_floorDiv_f86c9_2 (hy) ?_
  refine lv_lstore (lv' := [(4, .long (x / y)), (0, .long x), (2, .long y)]) hx hb dJ9_floorDiv_f86c9_3 hl (by decide) rfl (fun ls hl => ?_)
  refine lv_lload_n hx hb dJ9_floorDiv_f86c9_5 rfl (lv_at hl 1 rfl) ?_
  refine lv_lload_n hx hb dJ9_floorDiv_f86c9_6 rfl (lv_at hl 2 rfl) ?_
  refine lv_lxor hx hb dJ9_floorDiv_f86c9_7 ?_
  refine lv_lconst (v := 0) hx hb dJ9_floorDiv_f86c9_8 (by decide) ?_
  refine W.lcmp hx hb dJ9_floorDiv_f86c9_9 ?_
  refine lv_if_ge (tgt := 27) hx hb dJ9_floorDiv_f86c9_10 (by decide) (fun c_1 => ?_) (fun c_1 => ?_)
  · rw [lg_cmp_ge] at c_1
    refine lv_lload hx hb dJ9_floorDiv_f86c9_27 (lv_at hl 0 rfl) ?_
    have hres : (x / y) = (ck_fd x y) := by simp [ck_fd, c_1]
    exact W.lret (v := (x / y)) hx hb hr (fun t ht _ => ⟨congrArg (fun z => Outcome.returned (some (Value.long z))) hres, ht⟩) (fun _ h => nomatch h) dJ9_floorDiv_f86c9_29
  · rw [lg_cmp_ge] at c_1
    refine lv_lload hx hb dJ9_floorDiv_f86c9_13 (lv_at hl 0 rfl) ?_
    refine lv_lload_n hx hb dJ9_floorDiv_f86c9_15 rfl (lv_at hl 2 rfl) ?_
    refine lv_lmul hx hb dJ9_floorDiv_f86c9_16 ?_
    refine lv_lload_n hx hb dJ9_floorDiv_f86c9_17 rfl (lv_at hl 1 rfl) ?_
    refine W.lcmp hx hb dJ9_floorDiv_f86c9_18 ?_
    refine lv_if_eq (tgt := 27) hx hb dJ9_floorDiv_f86c9_19 (by decide) (fun c_2 => ?_) (fun c_2 => ?_)
    · rw [lg_cmp_eq] at c_2
      refine lv_lload hx hb dJ9_floorDiv_f86c9_27 (lv_at hl 0 rfl) ?_
      have hres : (x / y) = (ck_fd x y) := by simp [ck_fd, c_1, c_2]
      exact W.lret (v := (x / y)) hx hb hr (fun t ht _ => ⟨congrArg (fun z => Outcome.returned (some (Value.long z))) hres, ht⟩) (fun _ h => nomatch h) dJ9_floorDiv_f86c9_29
    · rw [lg_cmp_eq] at c_2
      refine lv_lload hx hb dJ9_floorDiv_f86c9_22 (lv_at hl 0 rfl) ?_
      refine lv_lconst (v := 1) hx hb dJ9_floorDiv_f86c9_24 (by decide) ?_
      refine lv_lsub hx hb dJ9_floorDiv_f86c9_25 ?_
      have hres : ((x / y) - 1) = (ck_fd x y) := by simp [ck_fd, c_1, c_2]
      exact W.lret (v := ((x / y) - 1)) hx hb hr (fun t ht _ => ⟨congrArg (fun z => Outcome.returned (some (Value.long z))) hres, ht⟩) (fun _ h => nomatch h) dJ9_floorDiv_f86c9_26

set_option maxHeartbeats 4000000 in
set_option maxRecDepth 100000 in
theorem c_J6_bitCount_0f7a4 (l : Launch) (x : Int32)  : Met l yJ6_bitCount_0f7a4 wsJ6_bitCount_0f7a4 { frames := 0, cells := 0, slots := 0, locals := 0 } (va_Pc [.int x] (fun _ => True)) (ck_R (.int (ck_ns x))) 0 0 (fun _ => False) := by
  refine ck_ofW (cc := cJ6_bitCount_0f7a4) (maxL := 1) (ret := (some .int)) (by decide +kernel) rfl ?_
  intro p e s m args below meth c s₁ B hml hv
  obtain ⟨rfl, -⟩ := hv
  have hx := B.exec
  have hb := B.bytes
  have hr := B.returns
  have hts := atoms_spec (ws := wsJ6_bitCount_0f7a4) B.pre
  have hown : s.vm.findClass RJ6 = some m.cls := findClass_of_methodNamed B.named
  have hlocks := B.notSynchronized
  have hl := lv_entry ([.int x]) (n := 1) (Nat.le_of_ble_eq_true rfl)
  rw [lg_entry_eq]
  generalize (lg_sl ([.int x]) ++ List.replicate (1 - (lg_sl ([.int x])).length) Slot.unset).toArray = ls at hl ⊢
  have hl : lv_has ls 1 [(0, .int x)] := hl
  refine lv_iload_n hx hb dJ6_bitCount_0f7a4_0 rfl (lv_at hl 0 rfl) ?_
  refine lv_iload_n hx hb dJ6_bitCount_0f7a4_1 rfl (lv_at hl 0 rfl) ?_
  refine lv_iconst (v := 1) hx hb dJ6_bitCount_0f7a4_2 (by decide) ?_
  refine lv_iushr (v := (ck_u x 1)) hx hb dJ6_bitCount_0f7a4_3 rfl ?_
  refine lv_ldcw (v := 1431655765) hx hb hown (hts (.constant RJ6 265 1431655765) (by decide +kernel)) dJ6_bitCount_0f7a4_4 ?_
  refine lv_iand hx hb dJ6_bitCount_0f7a4_7 ?_
  refine lv_isub hx hb dJ6_bitCount_0f7a4_8 ?_
  refine lv_istore_n (lv' := [(0, .int (ck_s1 x))]) hx hb dJ6_bitCount_0f7a4_9 rfl hl (by decide) rfl (fun ls hl => ?_)
  refine lv_iload_n hx hb dJ6_bitCount_0f7a4_10 rfl (lv_at hl 0 rfl) ?_
  refine lv_ldcw (v := 858993459) hx hb hown (hts (.constant RJ6 266 858993459) (by decide +kernel)) dJ6_bitCount_0f7a4_11 ?_
  refine lv_iand hx hb dJ6_bitCount_0f7a4_14 ?_
  refine lv_iload_n hx hb dJ6_bitCount_0f7a4_15 rfl (lv_at hl 0 rfl) ?_
  refine lv_iconst (v := 2) hx hb dJ6_bitCount_0f7a4_16 (by decide) ?_
  refine lv_iushr (v := (ck_u (ck_s1 x) 2)) hx hb dJ6_bitCount_0f7a4_17 rfl ?_
  refine lv_ldcw (v := 858993459) hx hb hown (hts (.constant RJ6 266 858993459) (by decide +kernel)) dJ6_bitCount_0f7a4_18 ?_
  refine lv_iand hx hb dJ6_bitCount_0f7a4_21 ?_
  refine lv_iadd hx hb dJ6_bitCount_0f7a4_22 ?_
  refine lv_istore_n (lv' := [(0, .int (ck_s2 (ck_s1 x)))]) hx hb dJ6_bitCount_0f7a4_23 rfl hl (by decide) rfl (fun ls hl => ?_)
  refine lv_iload_n hx hb dJ6_bitCount_0f7a4_24 rfl (lv_at hl 0 rfl) ?_
  refine lv_iload_n hx hb dJ6_bitCount_0f7a4_25 rfl (lv_at hl 0 rfl) ?_
  refine lv_iconst (v := 4) hx hb dJ6_bitCount_0f7a4_26 (by decide) ?_
  refine lv_iushr (v := (ck_u (ck_s2 (ck_s1 x)) 4)) hx hb dJ6_bitCount_0f7a4_27 rfl ?_
  refine lv_iadd hx hb dJ6_bitCount_0f7a4_28 ?_
  refine lv_ldcw (v := 252645135) hx hb hown (hts (.constant RJ6 267 252645135) (by decide +kernel)) dJ6_bitCount_0f7a4_29 ?_
  refine lv_iand hx hb dJ6_bitCount_0f7a4_32 ?_
  refine lv_istore_n (lv' := [(0, .int (ck_s3 (ck_s2 (ck_s1 x))))]) hx hb dJ6_bitCount_0f7a4_33 rfl hl (by decide) rfl (fun ls hl => ?_)
  refine lv_iload_n hx hb dJ6_bitCount_0f7a4_34 rfl (lv_at hl 0 rfl) ?_
  refine lv_iload_n hx hb dJ6_bitCount_0f7a4_35 rfl (lv_at hl 0 rfl) ?_
  refine lv_bipush (v := 8) hx hb dJ6_bitCount_0f7a4_36 (by decide) ?_
  refine lv_iushr (v := (ck_u (ck_s3 (ck_s2 (ck_s1 x))) 8)) hx hb dJ6_bitCount_0f7a4_38 rfl ?_
  refine lv_iadd hx hb dJ6_bitCount_0f7a4_39 ?_
  refine lv_istore_n (lv' := [(0, .int (ck_s4 (ck_s3 (ck_s2 (ck_s1 x)))))]) hx hb dJ6_bitCount_0f7a4_40 rfl hl (by decide) rfl (fun ls hl => ?_)
  refine lv_iload_n hx hb dJ6_bitCount_0f7a4_41 rfl (lv_at hl 0 rfl) ?_
  refine lv_iload_n hx hb dJ6_bitCount_0f7a4_42 rfl (lv_at hl 0 rfl) ?_
  refine lv_bipush (v := 16) hx hb dJ6_bitCount_0f7a4_43 (by decide) ?_
  refine lv_iushr (v := (ck_u (ck_s4 (ck_s3 (ck_s2 (ck_s1 x)))) 16)) hx hb dJ6_bitCount_0f7a4_45 rfl ?_
  refine lv_iadd hx hb dJ6_bitCount_0f7a4_46 ?_
  refine lv_istore_n (lv' := [(0, .int (ck_s5 (ck_s4 (ck_s3 (ck_s2 (ck_s1 x))))))]) hx hb dJ6_bitCount_0f7a4_47 rfl hl (by decide) rfl (fun ls hl => ?_)
  refine lv_iload_n hx hb dJ6_bitCount_0f7a4_48 rfl (lv_at hl 0 rfl) ?_
  refine lv_bipush (v := 63) hx hb dJ6_bitCount_0f7a4_49 (by decide) ?_
  refine lv_iand hx hb dJ6_bitCount_0f7a4_51 ?_
  have hres : ((ck_s5 (ck_s4 (ck_s3 (ck_s2 (ck_s1 x))))) &&& 63) = (ck_ns x) := by exact ck_bc x
  exact W.iret (v := ((ck_s5 (ck_s4 (ck_s3 (ck_s2 (ck_s1 x))))) &&& 63)) hx hb hr (fun t ht _ => ⟨congrArg (fun z => Outcome.returned (some (Value.int z))) hres, ht⟩) (fun _ h => nomatch h) dJ6_bitCount_0f7a4_52

set_option maxHeartbeats 4000000 in
set_option maxRecDepth 100000 in
theorem c_X0_half (l : Launch) (x : Int64)  : Met l yX0_half wsX0_half { frames := 1, cells := 0, slots := 0, locals := 25 } (va_Pc [.long x] (fun _ => True)) (ck_R (.long (ck_half x))) 0 0 (fun _ => False) := by
  refine Met.ofW (cc := cX0_half) (maxL := 2) (ret := (some .long)) (by decide) rfl ?_
  intro p e s m args below meth c s₁ B hml hv
  obtain ⟨rfl, -⟩ := hv
  have hx := B.exec
  have hb := B.bytes
  have hr := B.returns
  have hts := atoms_spec (ws := wsX0_half) B.pre
  have hown : s.vm.findClass RX0 = some m.cls := findClass_of_methodNamed B.named
  have hlocks := B.notSynchronized
  have hl := lv_entry ([.long x]) (n := 2) (Nat.le_of_ble_eq_true rfl)
  rw [lg_entry_eq]
  generalize (lg_sl ([.long x]) ++ List.replicate (2 - (lg_sl ([.long x])).length) Slot.unset).toArray = ls at hl ⊢
  have hl : lv_has ls 2 [(0, .long x)] := hl
  refine lv_lload_n hx hb dX0_half_0 rfl (lv_at hl 0 rfl) ?_
  refine lv_ldc2 (v := 2) hx hb hown (hts (.constantLong RX0 138 2) (by decide +kernel)) dX0_half_1 ?_
  refine ck_cS (As := [.long x, .long 2]) (rest := []) ⟨hx, hb, hml, hown, hts⟩ (c_J9_floorDiv_f86c9 l x 2 (by decide)) (va_cwS 2 hts gX0_half_J9_floorDiv_f86c9 rfl rfl rfl (by decide +kernel) ⟨Nat.le_of_ble_eq_true rfl, Nat.le_of_ble_eq_true rfl⟩) rfl hl.1 rfl (Nat.le_of_ble_eq_true rfl) dX0_half_4 ⟨Nat.le_of_ble_eq_true rfl, Nat.le_of_ble_eq_true rfl⟩ ?_
  have hres : (ck_fd x 2) = (ck_half x) := by exact ck_fd2 x
  exact W.lret (v := (ck_fd x 2)) hx hb hr (fun t ht _ => ⟨congrArg (fun z => Outcome.returned (some (Value.long z))) hres, ht⟩) (fun _ h => nomatch h) dX0_half_7

set_option maxHeartbeats 4000000 in
set_option maxRecDepth 100000 in
theorem c_X0_isIn (l : Launch) (set : Int32) (x : Int32)  : Met l yX0_isIn wsX0_isIn { frames := 1, cells := 0, slots := 0, locals := 20 } (va_Pc [.int set, .int x] (fun _ => True)) (ck_R (.int (ck_b (ck_in set x)))) 0 0 (fun _ => False) := by
  refine Met.ofW (cc := cX0_isIn) (maxL := 2) (ret := (some .boolean)) (by decide) rfl ?_
  intro p e s m args below meth c s₁ B hml hv
  obtain ⟨rfl, -⟩ := hv
  have hx := B.exec
  have hb := B.bytes
  have hr := B.returns
  have hts := atoms_spec (ws := wsX0_isIn) B.pre
  have hown : s.vm.findClass RX0 = some m.cls := findClass_of_methodNamed B.named
  have hlocks := B.notSynchronized
  have hl := lv_entry ([.int set, .int x]) (n := 2) (Nat.le_of_ble_eq_true rfl)
  rw [lg_entry_eq]
  generalize (lg_sl ([.int set, .int x]) ++ List.replicate (2 - (lg_sl ([.int set, .int x])).length) Slot.unset).toArray = ls at hl ⊢
  have hl : lv_has ls 2 [(0, .int set), (1, .int x)] := hl
  refine lv_iload_n hx hb dX0_isIn_0 rfl (lv_at hl 1 rfl) ?_
  refine ck_cS (As := [.int x]) (rest := []) ⟨hx, hb, hml, hown, hts⟩ (c_X0_isSource l x) (va_cwS 1 hts gX0_isIn_X0_isSource rfl rfl rfl (by decide +kernel) ⟨Nat.le_of_ble_eq_true rfl, Nat.le_of_ble_eq_true rfl⟩) rfl hl.1 rfl (Nat.le_of_ble_eq_true rfl) dX0_isIn_1 ⟨Nat.le_of_ble_eq_true rfl, Nat.le_of_ble_eq_true rfl⟩ ?_
  refine lv_if_eq (tgt := 19) hx hb dX0_isIn_4 (by decide) (fun c_1 => ?_) (fun c_1 => ?_)
  · have c_1 := ck_bf c_1
    refine lv_iconst (v := 0) hx hb dX0_isIn_19 (by decide) ?_
    have hres : 0 = (ck_b (ck_in set x)) := by simp [ck_in, ck_b, c_1]
    exact W.zret (ty := .boolean) (v := 0) hx hb hr rfl (fun t ht _ => ⟨congrArg (fun z => Outcome.returned (some (Value.int z))) hres, ht⟩) (fun _ h => nomatch h) dX0_isIn_20
  · have c_1 := ck_bt c_1
    obtain ⟨jx, hjx, rfl⟩ := ck_srcE c_1
    have hcjx : (nI jx).toNatClampNeg = jx := nI_clamp (by omega)
    refine lv_iload_n hx hb dX0_isIn_7 rfl (lv_at hl 0 rfl) ?_
    refine lv_iconst (v := 1) hx hb dX0_isIn_8 (by decide) ?_
    refine lv_iload_n hx hb dX0_isIn_9 rfl (lv_at hl 1 rfl) ?_
    refine lv_ishl hx hb dX0_isIn_10 ?_
    refine lv_iand hx hb dX0_isIn_11 ?_
    refine lv_if_eq (tgt := 19) hx hb dX0_isIn_12 (by decide) (fun c_2 => ?_) (fun c_2 => ?_)
    · refine lv_iconst (v := 0) hx hb dX0_isIn_19 (by decide) ?_
      have hres : 0 = (ck_b (ck_in set (nI jx))) := by simp [ck_in, ck_b, c_1, hcjx, c_2]
      exact W.zret (ty := .boolean) (v := 0) hx hb hr rfl (fun t ht _ => ⟨congrArg (fun z => Outcome.returned (some (Value.int z))) hres, ht⟩) (fun _ h => nomatch h) dX0_isIn_20
    · refine lv_iconst (v := 1) hx hb dX0_isIn_15 (by decide) ?_
      refine lv_goto (tgt := 20) hx hb dX0_isIn_16 (by decide) ?_
      have hres : 1 = (ck_b (ck_in set (nI jx))) := by simp [ck_in, ck_b, c_1, hcjx, c_2]
      exact W.zret (ty := .boolean) (v := 1) hx hb hr rfl (fun t ht _ => ⟨congrArg (fun z => Outcome.returned (some (Value.int z))) hres, ht⟩) (fun _ h => nomatch h) dX0_isIn_20

theorem c_X0_isInN (l : Launch) (set : Int32) (j : Nat) (hj : j < 24) : Met l yX0_isIn wsX0_isIn { frames := 1, cells := 0, slots := 0, locals := 20 } (va_Pc [.int set, .int (nI j)] (fun _ => True)) (ck_R (.int (ck_b (bt set j)))) 0 0 (fun _ => False) := by
  rw [← ck_inN set hj]
  exact c_X0_isIn l set (nI j)

set_option maxHeartbeats 4000000 in
set_option maxRecDepth 100000 in
theorem c_X0_without (l : Launch) (set : Int32) (x : Int32)  : Met l yX0_without wsX0_without { frames := 0, cells := 0, slots := 0, locals := 0 } (va_Pc [.int set, .int x] (fun _ => True)) (ck_R (.int (ck_wo set x))) 0 0 (fun _ => False) := by
  refine Met.ofW (cc := cX0_without) (maxL := 2) (ret := (some .int)) (by decide) rfl ?_
  intro p e s m args below meth c s₁ B hml hv
  obtain ⟨rfl, -⟩ := hv
  have hx := B.exec
  have hb := B.bytes
  have hr := B.returns
  have hts := atoms_spec (ws := wsX0_without) B.pre
  have hown : s.vm.findClass RX0 = some m.cls := findClass_of_methodNamed B.named
  have hlocks := B.notSynchronized
  have hl := lv_entry ([.int set, .int x]) (n := 2) (Nat.le_of_ble_eq_true rfl)
  rw [lg_entry_eq]
  generalize (lg_sl ([.int set, .int x]) ++ List.replicate (2 - (lg_sl ([.int set, .int x])).length) Slot.unset).toArray = ls at hl ⊢
  have hl : lv_has ls 2 [(0, .int set), (1, .int x)] := hl
  refine lv_iload_n hx hb dX0_without_0 rfl (lv_at hl 0 rfl) ?_
  refine lv_iconst (v := 1) hx hb dX0_without_1 (by decide) ?_
  refine lv_iload_n hx hb dX0_without_2 rfl (lv_at hl 1 rfl) ?_
  refine lv_ishl hx hb dX0_without_3 ?_
  refine lv_iconst (v := (-1)) hx hb dX0_without_4 (by decide) ?_
  refine lv_ixor hx hb dX0_without_5 ?_
  refine lv_iand hx hb dX0_without_6 ?_
  have hres : (set &&& ((1 <<< (x &&& 31)) ^^^ (-1))) = (ck_wo set x) := by rfl
  exact W.iret (v := (set &&& ((1 <<< (x &&& 31)) ^^^ (-1)))) hx hb hr (fun t ht _ => ⟨congrArg (fun z => Outcome.returned (some (Value.int z))) hres, ht⟩) (fun _ h => nomatch h) dX0_without_7

set_option maxHeartbeats 4000000 in
set_option maxRecDepth 100000 in
theorem c_X0_isCoveredBy (l : Launch) (D : va_G) (h a1 a2 : Nat) (c1 c2 : ClassId) (lo hi : Nat → Int64) (hd : Int32) (ow off go : Int64) (p0 : Int64) (j : Nat) (hj : j < 24) : Met l yX0_isCoveredBy wsX0_isCoveredBy { frames := 2, cells := 0, slots := 0, locals := 41 } (va_Pc [.ref h, .int (nI j), .long p0] (ck_B D (xW h a1 a2 c1 c2 lo hi hd ow off go) (xT c1 c2))) (ck_R (.int (ck_b (ck_cov (bt hd) lo hi p0 j)))) 0 0 (fun _ => False) := by
  refine Met.ofW (cc := cX0_isCoveredBy) (maxL := 4) (ret := (some .boolean)) (by decide) rfl ?_
  intro p e s m args below meth c s₁ B hml hv
  obtain ⟨rfl, hP, hK⟩ := hv
  have hx := B.exec
  have hb := B.bytes
  have hr := B.returns
  have hts := atoms_spec (ws := wsX0_isCoveredBy) B.pre
  have hown : s.vm.findClass RX0 = some m.cls := findClass_of_methodNamed B.named
  have hlocks := B.notSynchronized
  have hin : ∀ w ∈ wsX00, w ∈ wsX0_isCoveredBy := fun _ h => List.mem_cons_of_mem _ (List.mem_append_right _ h)
  have hl := lv_entry ([.ref h, .int (nI j), .long p0]) (n := 4) (Nat.le_of_ble_eq_true rfl)
  rw [lg_entry_eq]
  generalize (lg_sl ([.ref h, .int (nI j), .long p0]) ++ List.replicate (4 - (lg_sl ([.ref h, .int (nI j), .long p0])).length) Slot.unset).toArray = ls at hl ⊢
  have hl : lv_has ls 4 [(0, .ref h), (1, .int (nI j)), (2, .long p0)] := hl
  refine lv_aload_n hx hb dX0_isCoveredBy_0 rfl (lv_at hl 0 rfl) ?_
  refine va_get (D := D) (ci := 0) (v := .int hd) (C := RX0) (T := TX0) (N := 6) hx hb hts hin hown hK hP 0 rfl rfl 2 (by decide) (hts (.fieldLink RX0 16 "ClockDesk" "held" "I") (by decide +kernel)) (fun _ h9 => h9) rfl dX0_isCoveredBy_1 ?_
  refine lv_iload_n hx hb dX0_isCoveredBy_4 rfl (lv_at hl 1 rfl) ?_
  refine ck_cS (As := [.int hd, .int (nI j)]) (rest := []) ⟨hx, hb, hml, hown, hts⟩ (c_X0_isInN l hd j hj) (va_cwS 2 hts gX0_isCoveredBy_X0_isIn rfl rfl rfl (by decide +kernel) ⟨Nat.le_of_ble_eq_true rfl, Nat.le_of_ble_eq_true rfl⟩) rfl hl.1 rfl (Nat.le_of_ble_eq_true rfl) dX0_isCoveredBy_5 ⟨Nat.le_of_ble_eq_true rfl, Nat.le_of_ble_eq_true rfl⟩ ?_
  refine lv_if_eq (tgt := 37) hx hb dX0_isCoveredBy_8 (by decide) (fun c_1 => ?_) (fun c_1 => ?_)
  · have c_1 := ck_bf c_1
    refine lv_iconst (v := 0) hx hb dX0_isCoveredBy_37 (by decide) ?_
    have hres : 0 = (ck_b (ck_cov (bt hd) lo hi p0 j)) := by simp [ck_cov, ck_b, c_1]
    exact W.zret (ty := .boolean) (v := 0) hx hb hr rfl (fun t ht _ => ⟨congrArg (fun z => Outcome.returned (some (Value.int z))) hres, ht⟩) (fun _ h => nomatch h) dX0_isCoveredBy_38
  · have c_1 := ck_bt c_1
    refine lv_aload_n hx hb dX0_isCoveredBy_11 rfl (lv_at hl 0 rfl) ?_
    refine va_get (D := D) (ci := 0) (v := .ref a1) (C := RX0) (T := TX0) (N := 6) hx hb hts hin hown hK hP 0 rfl rfl 0 (by decide) (hts (.fieldLink RX0 9 "ClockDesk" "lows" "[J") (by decide +kernel)) (fun _ h9 => h9) rfl dX0_isCoveredBy_12 ?_
    refine lv_iload_n hx hb dX0_isCoveredBy_15 rfl (lv_at hl 1 rfl) ?_
    refine ck_lald hx hb hK hP 1 0 rfl rfl (i := j) hj dX0_isCoveredBy_16 ?_
    refine lv_lload_n hx hb dX0_isCoveredBy_17 rfl (lv_at hl 2 rfl) ?_
    refine W.lcmp hx hb dX0_isCoveredBy_18 ?_
    refine lv_if_gt (tgt := 37) hx hb dX0_isCoveredBy_19 (by decide) (fun c_2 => ?_) (fun c_2 => ?_)
    · rw [lg_cmp_gt] at c_2
      refine lv_iconst (v := 0) hx hb dX0_isCoveredBy_37 (by decide) ?_
      have hres : 0 = (ck_b (ck_cov (bt hd) lo hi p0 j)) := by simp [ck_cov, ck_b, c_1, c_2]
      exact W.zret (ty := .boolean) (v := 0) hx hb hr rfl (fun t ht _ => ⟨congrArg (fun z => Outcome.returned (some (Value.int z))) hres, ht⟩) (fun _ h => nomatch h) dX0_isCoveredBy_38
    · rw [lg_cmp_gt] at c_2
      refine lv_lload_n hx hb dX0_isCoveredBy_22 rfl (lv_at hl 2 rfl) ?_
      refine lv_aload_n hx hb dX0_isCoveredBy_23 rfl (lv_at hl 0 rfl) ?_
      refine va_get (D := D) (ci := 0) (v := .ref a2) (C := RX0) (T := TX0) (N := 6) hx hb hts hin hown hK hP 0 rfl rfl 1 (by decide) (hts (.fieldLink RX0 13 "ClockDesk" "highs" "[J") (by decide +kernel)) (fun _ h9 => h9) rfl dX0_isCoveredBy_24 ?_
      refine lv_iload_n hx hb dX0_isCoveredBy_27 rfl (lv_at hl 1 rfl) ?_
      refine ck_lald hx hb hK hP 2 1 rfl rfl (i := j) hj dX0_isCoveredBy_28 ?_
      refine W.lcmp hx hb dX0_isCoveredBy_29 ?_
      refine lv_if_gt (tgt := 37) hx hb dX0_isCoveredBy_30 (by decide) (fun c_3 => ?_) (fun c_3 => ?_)
      · rw [lg_cmp_gt] at c_3
        refine lv_iconst (v := 0) hx hb dX0_isCoveredBy_37 (by decide) ?_
        have hres : 0 = (ck_b (ck_cov (bt hd) lo hi p0 j)) := by simp [ck_cov, ck_b, c_1, c_2, c_3]
        exact W.zret (ty := .boolean) (v := 0) hx hb hr rfl (fun t ht _ => ⟨congrArg (fun z => Outcome.returned (some (Value.int z))) hres, ht⟩) (fun _ h => nomatch h) dX0_isCoveredBy_38
      · rw [lg_cmp_gt] at c_3
        refine lv_iconst (v := 1) hx hb dX0_isCoveredBy_33 (by decide) ?_
        refine lv_goto (tgt := 38) hx hb dX0_isCoveredBy_34 (by decide) ?_
        have hres : 1 = (ck_b (ck_cov (bt hd) lo hi p0 j)) := by simp [ck_cov, ck_b, c_1, c_2, c_3]
        exact W.zret (ty := .boolean) (v := 1) hx hb hr rfl (fun t ht _ => ⟨congrArg (fun z => Outcome.returned (some (Value.int z))) hres, ht⟩) (fun _ h => nomatch h) dX0_isCoveredBy_38
