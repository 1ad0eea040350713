set_option maxHeartbeats 4000000 in
set_option maxRecDepth 100000 in
theorem c_X1_isSource (l : Launch) (x : Int32)  : Met l yX1_isSource wsX1_isSource { frames := 0, cells := 0, slots := 0, locals := 0 } (va_Pc [.int x] (fun _ => True)) (ck_R (.int (ck_b (ck_src x)))) 0 0 (fun _ => False) := by
  refine Met.ofW (cc := cX1_isSource) (maxL := 1) (ret := (some .boolean)) (by decide) rfl ?_
  intro p e s m args below meth c s₁ B hml hv
  obtain ⟨rfl, -⟩ := hv
  have hx := B.exec
  have hb := B.bytes
  have hr := B.returns
  have hts := atoms_spec (ws := wsX1_isSource) B.pre
  have hown : s.vm.findClass RX1 = some m.cls := findClass_of_methodNamed B.named
  have hlocks := B.notSynchronized
  have hl := lv_entry ([.int x]) (n := 1) (Nat.le_of_ble_eq_true rfl)
  rw [lg_entry_eq]
  generalize (lg_sl ([.int x]) ++ List.replicate (1 - (lg_sl ([.int x])).length) Slot.unset).toArray = ls at hl ⊢
  have hl : lv_has ls 1 [(0, .int x)] := hl
  refine lv_iload_n hx hb dX1_isSource_0 rfl (lv_at hl 0 rfl) ?_
  refine lv_if_lt (tgt := 14) hx hb dX1_isSource_1 (by decide) (fun c_1 => ?_) (fun c_1 => ?_)
  · refine lv_iconst (v := 0) hx hb dX1_isSource_14 (by decide) ?_
    have hres : 0 = (ck_b (ck_src x)) := by simp [ck_src, ck_b, c_1]
    exact W.zret (ty := .boolean) (v := 0) hx hb hr rfl (fun t ht _ => ⟨congrArg (fun z => Outcome.returned (some (Value.int z))) hres, ht⟩) (fun _ h => nomatch h) dX1_isSource_15
  · refine lv_iload_n hx hb dX1_isSource_4 rfl (lv_at hl 0 rfl) ?_
    refine lv_bipush (v := 24) hx hb dX1_isSource_5 (by decide) ?_
    refine lv_icmp_ge (tgt := 14) hx hb dX1_isSource_7 (by decide) (fun c_2 => ?_) (fun c_2 => ?_)
    · refine lv_iconst (v := 0) hx hb dX1_isSource_14 (by decide) ?_
      have hres : 0 = (ck_b (ck_src x)) := by simp [ck_src, ck_b, c_1, c_2]
      exact W.zret (ty := .boolean) (v := 0) hx hb hr rfl (fun t ht _ => ⟨congrArg (fun z => Outcome.returned (some (Value.int z))) hres, ht⟩) (fun _ h => nomatch h) dX1_isSource_15
    · refine lv_iconst (v := 1) hx hb dX1_isSource_10 (by decide) ?_
      refine lv_goto (tgt := 15) hx hb dX1_isSource_11 (by decide) ?_
      have hres : 1 = (ck_b (ck_src x)) := by simp [ck_src, ck_b, c_1, c_2]
      exact W.zret (ty := .boolean) (v := 1) hx hb hr rfl (fun t ht _ => ⟨congrArg (fun z => Outcome.returned (some (Value.int z))) hres, ht⟩) (fun _ h => nomatch h) dX1_isSource_15

set_option maxHeartbeats 4000000 in
set_option maxRecDepth 100000 in
theorem c_X1_half (l : Launch) (x : Int64)  : Met l yX1_half wsX1_half { frames := 0, cells := 0, slots := 0, locals := 0 } (va_Pc [.long x] (fun _ => True)) (ck_R (.long (ck_half x))) 0 0 (fun _ => False) := by
  refine Met.ofW (cc := cX1_half) (maxL := 2) (ret := (some .long)) (by decide) rfl ?_
  intro p e s m args below meth c s₁ B hml hv
  obtain ⟨rfl, -⟩ := hv
  have hx := B.exec
  have hb := B.bytes
  have hr := B.returns
  have hts := atoms_spec (ws := wsX1_half) B.pre
  have hown : s.vm.findClass RX1 = some m.cls := findClass_of_methodNamed B.named
  have hlocks := B.notSynchronized
  have hl := lv_entry ([.long x]) (n := 2) (Nat.le_of_ble_eq_true rfl)
  rw [lg_entry_eq]
  generalize (lg_sl ([.long x]) ++ List.replicate (2 - (lg_sl ([.long x])).length) Slot.unset).toArray = ls at hl ⊢
  have hl : lv_has ls 2 [(0, .long x)] := hl
  refine lv_lload_n hx hb dX1_half_0 rfl (lv_at hl 0 rfl) ?_
  refine lv_iconst (v := 1) hx hb dX1_half_1 (by decide) ?_
  refine lv_lshr (v := (x >>> (Int32.toInt64 1 &&& 63))) hx hb dX1_half_2 rfl ?_
  have hres : (x >>> (Int32.toInt64 1 &&& 63)) = (ck_half x) := by rfl
  exact W.lret (v := (x >>> (Int32.toInt64 1 &&& 63))) hx hb hr (fun t ht _ => ⟨congrArg (fun z => Outcome.returned (some (Value.long z))) hres, ht⟩) (fun _ h => nomatch h) dX1_half_3

set_option maxHeartbeats 4000000 in
set_option maxRecDepth 100000 in
theorem c_X1_over (l : Launch) (x : Int64) (y : Int64) (hy : 0 < y) : Met l yX1_over wsX1_over { frames := 0, cells := 0, slots := 0, locals := 0 } (va_Pc [.long x, .long y] (fun _ => True)) (ck_R (.long (ck_fd x y))) 0 0 (fun _ => False) := by
  refine Met.ofW (cc := cX1_over) (maxL := 6) (ret := (some .long)) (by decide) rfl ?_
  intro p e s m args below meth c s₁ B hml hv
  obtain ⟨rfl, -⟩ := hv
  have hx := B.exec
  have hb := B.bytes
  have hr := B.returns
  have hts := atoms_spec (ws := wsX1_over) B.pre
  have hown : s.vm.findClass RX1 = some m.cls := findClass_of_methodNamed B.named
  have hlocks := B.notSynchronized
  have hl := lv_entry ([.long x, .long y]) (n := 6) (Nat.le_of_ble_eq_true rfl)
  rw [lg_entry_eq]
  generalize (lg_sl ([.long x, .long y]) ++ List.replicate (6 - (lg_sl ([.long x, .long y])).length) Slot.unset).toArray = ls at hl ⊢
  have hl : lv_has ls 6 [(0, .long x), (2, .long y)] := hl
  refine lv_lload_n hx hb dX1_over_0 rfl (lv_at hl 0 rfl) ?_
  refine lv_lload_n hx hb dX1_over_1 rfl (lv_at hl 1 rfl) ?_
  refine lv_ldiv hx hb dX1_over_2 (ck_pne hy) ?_
  refine lv_lstore (lv' := [(4, .long (x / y)), (0, .long x), (2, .long y)]) hx hb dX1_over_3 hl (by decide) rfl (fun ls hl => ?_)
  refine lv_lload hx hb dX1_over_5 (lv_at hl 0 rfl) ?_
  refine lv_lload_n hx hb dX1_over_7 rfl (lv_at hl 2 rfl) ?_
  refine lv_lmul hx hb dX1_over_8 ?_
  refine lv_lload_n hx hb dX1_over_9 rfl (lv_at hl 1 rfl) ?_
  refine W.lcmp hx hb dX1_over_10 ?_
  refine lv_if_le (tgt := 21) hx hb dX1_over_11 (by decide) (fun c_1 => ?_) (fun c_1 => ?_)
  · rw [lg_cmp_le] at c_1
    refine lv_lload hx hb dX1_over_21 (lv_at hl 0 rfl) ?_
    have hres : (x / y) = (ck_fd x y) := by rw [← ck_ovE x y hy]; simp [c_1]
    exact W.lret (v := (x / y)) hx hb hr (fun t ht _ => ⟨congrArg (fun z => Outcome.returned (some (Value.long z))) hres, ht⟩) (fun _ h => nomatch h) dX1_over_23
  · rw [lg_cmp_le] at c_1
    refine lv_lload hx hb dX1_over_14 (lv_at hl 0 rfl) ?_
    refine lv_lconst (v := 1) hx hb dX1_over_16 (by decide) ?_
    refine lv_lsub hx hb dX1_over_17 ?_
    refine lv_goto (tgt := 23) hx hb dX1_over_18 (by decide) ?_
    have hres : ((x / y) - 1) = (ck_fd x y) := by rw [← ck_ovE x y hy]; simp [c_1]
    exact W.lret (v := ((x / y) - 1)) hx hb hr (fun t ht _ => ⟨congrArg (fun z => Outcome.returned (some (Value.long z))) hres, ht⟩) (fun _ h => nomatch h) dX1_over_23

set_option maxHeartbeats 4000000 in
set_option maxRecDepth 100000 in
theorem c_X1_size (l : Launch) (x : Int64)  : Met l yX1_size wsX1_size { frames := 0, cells := 0, slots := 0, locals := 0 } (va_Pc [.long x] (fun _ => True)) (ck_R (.long (ck_abs x))) 0 0 (fun _ => False) := by
  refine Met.ofW (cc := cX1_size) (maxL := 2) (ret := (some .long)) (by decide) rfl ?_
  intro p e s m args below meth c s₁ B hml hv
  obtain ⟨rfl, -⟩ := hv
  have hx := B.exec
  have hb := B.bytes
  have hr := B.returns
  have hts := atoms_spec (ws := wsX1_size) B.pre
  have hown : s.vm.findClass RX1 = some m.cls := findClass_of_methodNamed B.named
  have hlocks := B.notSynchronized
  have hl := lv_entry ([.long x]) (n := 2) (Nat.le_of_ble_eq_true rfl)
  rw [lg_entry_eq]
  generalize (lg_sl ([.long x]) ++ List.replicate (2 - (lg_sl ([.long x])).length) Slot.unset).toArray = ls at hl ⊢
  have hl : lv_has ls 2 [(0, .long x)] := hl
  refine lv_lload_n hx hb dX1_size_0 rfl (lv_at hl 0 rfl) ?_
  refine lv_lconst (v := 0) hx hb dX1_size_1 (by decide) ?_
  refine W.lcmp hx hb dX1_size_2 ?_
  refine lv_if_ge (tgt := 11) hx hb dX1_size_3 (by decide) (fun c_1 => ?_) (fun c_1 => ?_)
  · rw [lg_cmp_ge] at c_1
    refine lv_lload_n hx hb dX1_size_11 rfl (lv_at hl 0 rfl) ?_
    have hres : x = (ck_abs x) := by first | exact ck_absP c_1 | exact ck_absN c_1
    exact W.lret (v := x) hx hb hr (fun t ht _ => ⟨congrArg (fun z => Outcome.returned (some (Value.long z))) hres, ht⟩) (fun _ h => nomatch h) dX1_size_12
  · rw [lg_cmp_ge] at c_1
    refine lv_lload_n hx hb dX1_size_6 rfl (lv_at hl 0 rfl) ?_
    refine lv_lneg hx hb dX1_size_7 ?_
    refine lv_goto (tgt := 12) hx hb dX1_size_8 (by decide) ?_
    have hres : (-x) = (ck_abs x) := by first | exact ck_absP c_1 | exact ck_absN c_1
    exact W.lret (v := (-x)) hx hb hr (fun t ht _ => ⟨congrArg (fun z => Outcome.returned (some (Value.long z))) hres, ht⟩) (fun _ h => nomatch h) dX1_size_12

set_option maxHeartbeats 4000000 in
set_option maxRecDepth 100000 in
theorem c_X1_sources (l : Launch) (D : va_G) (h a0 a1 a2 : Nat) (c0 c1 c2 : ClassId) (lo hi : Nat → Int64) (hd : Int32) (ow off go : Int64) (inv : ck_inv hd lo hi)   : Met l yX1_sources wsX1_sources { frames := 0, cells := 0, slots := 0, locals := 0 } (va_Pc [.ref h] (ck_B D (mW h a0 a1 a2 c0 c1 c2 lo hi hd ow off go) (mT c0 c1 c2))) (ck_R (.int (ck_ns hd))) 0 0 (fun _ => False) := by
  refine Met.ofW (cc := cX1_sources) (maxL := 3) (ret := (some .int)) (by decide) rfl ?_
  intro p e s m args below meth c s₁ B hml hv
  obtain ⟨rfl, hP, hK⟩ := hv
  have hx := B.exec
  have hb := B.bytes
  have hr := B.returns
  have hts := atoms_spec (ws := wsX1_sources) B.pre
  have hown : s.vm.findClass RX1 = some m.cls := findClass_of_methodNamed B.named
  have hlocks := B.notSynchronized
  have hin : ∀ w ∈ wsX10, w ∈ wsX1_sources := fun _ h => List.mem_cons_of_mem _ (List.mem_append_right _ h)
  have hl := lv_entry ([.ref h]) (n := 3) (Nat.le_of_ble_eq_true rfl)
  rw [lg_entry_eq]
  generalize (lg_sl ([.ref h]) ++ List.replicate (3 - (lg_sl ([.ref h])).length) Slot.unset).toArray = ls at hl ⊢
  have hl : lv_has ls 3 [(0, .ref h)] := hl
  refine lv_iconst (v := 0) hx hb dX1_sources_0 (by decide) ?_
  refine lv_istore_n (lv' := [(1, .int 0), (0, .ref h)]) hx hb dX1_sources_1 rfl hl (by decide) rfl (fun ls hl => ?_)
  refine lv_iconst (v := 0) hx hb dX1_sources_2 (by decide) ?_
  refine lv_istore_n (lv' := [(2, .int 0), (1, .int 0), (0, .ref h)]) hx hb dX1_sources_3 rfl hl (by decide) rfl (fun ls hl => ?_)
  refine ck_loop (G := fun ls => W p l e _ s m _ below meth c _ _ _ _ _ (F0 m 4 ls [])) (nL := 3) (24) (fun i => True) (fun i => [(0, .ref h), (1, .int (ck_cn (bt hd) i)), (2, .int (nI i))]) (fun i hle_i hj_i ih_i ls hl => ?_) ls (trivial) ?_
  rotate_left
  · have hq : lv_has ls 3 [(0, .ref h), (1, .int 0), (2, .int 0)] := lv_sub hl [2, 1, 0] rfl
    exact hq
  have hl : lv_has ls 3 [(0, .ref h), (1, .int (ck_cn (bt hd) i)), (2, .int (nI i))] := hl
  refine lv_iload_n hx hb dX1_sources_4 rfl (lv_at hl 2 rfl) ?_
  refine lv_bipush (v := 24) hx hb dX1_sources_5 (by decide) ?_
  refine lv_icmp_ge (tgt := 33) hx hb dX1_sources_7 (by decide) (fun c_1 => ?_) (fun c_1 => ?_)
  · have heq_i : i = 24 := ck_eqN hle_i c_1
    subst heq_i
    have hl : lv_has ls 3 [(0, .ref h), (1, .int (ck_cn (bt hd) 24)), (2, .int (nI 24))] := hl
    refine lv_iload_n hx hb dX1_sources_33 rfl (lv_at hl 1 rfl) ?_
    have hres : (ck_cn (bt hd) 24) = (ck_ns hd) := by exact ck_ns24 inv.1
    exact W.iret (v := (ck_cn (bt hd) 24)) hx hb hr (fun t ht _ => ⟨congrArg (fun z => Outcome.returned (some (Value.int z))) hres, ht⟩) (fun _ h => nomatch h) dX1_sources_34
  · have hlt_i : i < 24 := ck_ltN hle_i c_1
    refine lv_iload_n hx hb dX1_sources_10 rfl (lv_at hl 1 rfl) ?_
    refine lv_aload_n hx hb dX1_sources_11 rfl (lv_at hl 0 rfl) ?_
    refine va_get (D := D) (ci := 1) (v := .ref a0) (C := RX1) (T := TX1) (N := 6) hx hb hts hin hown hK hP 0 rfl rfl 0 (by decide) (hts (.fieldLink RX1 7 "ClockDeskModel" "is" "[Z") (by decide +kernel)) (fun _ h9 => h9) rfl dX1_sources_12 ?_
    refine lv_iload_n hx hb dX1_sources_15 rfl (lv_at hl 2 rfl) ?_
    refine ck_zald hx hb hK hP 1 0 rfl rfl (i := i) hlt_i dX1_sources_16 ?_
    refine lv_if_eq (tgt := 24) hx hb dX1_sources_17 (by decide) (fun c_2 => ?_) (fun c_2 => ?_)
    · have c_2 := ck_bf c_2
      refine lv_iconst (v := 0) hx hb dX1_sources_24 (by decide) ?_
      refine lv_iadd hx hb dX1_sources_25 ?_
      refine lv_istore_n (lv' := [(1, .int ((ck_cn (bt hd) i) + 0)), (0, .ref h), (2, .int (nI i))]) hx hb dX1_sources_26 rfl hl (by decide) rfl (fun ls hl => ?_)
      refine lv_iinc (v := (nI (i + 1))) (lv' := [(2, .int (nI (i + 1))), (1, .int ((ck_cn (bt hd) i) + 0)), (0, .ref h)]) hx hb dX1_sources_27 hl (k := 2) rfl (nI_1 i) (by decide) rfl (fun ls hl => ?_)
      refine lv_goto (tgt := 4) hx hb dX1_sources_30 (by decide) ?_
      refine ih_i ls hlt_i (trivial) ?_
      have hq : lv_has ls 3 [(0, .ref h), (1, .int ((ck_cn (bt hd) i) + 0)), (2, .int (nI (i + 1)))] := lv_sub hl [2, 1, 0] rfl
      have eq0 : ((ck_cn (bt hd) i) + 0) = (ck_cn (bt hd) (i + 1)) := by simp [ck_cn, c_2]
      exact lv_eqq hq (by rw [← eq0])
    · have c_2 := ck_bt c_2
      refine lv_iconst (v := 1) hx hb dX1_sources_20 (by decide) ?_
      refine lv_goto (tgt := 25) hx hb dX1_sources_21 (by decide) ?_
      refine lv_iadd hx hb dX1_sources_25 ?_
      refine lv_istore_n (lv' := [(1, .int ((ck_cn (bt hd) i) + 1)), (0, .ref h), (2, .int (nI i))]) hx hb dX1_sources_26 rfl hl (by decide) rfl (fun ls hl => ?_)
      refine lv_iinc (v := (nI (i + 1))) (lv' := [(2, .int (nI (i + 1))), (1, .int ((ck_cn (bt hd) i) + 1)), (0, .ref h)]) hx hb dX1_sources_27 hl (k := 2) rfl (nI_1 i) (by decide) rfl (fun ls hl => ?_)
      refine lv_goto (tgt := 4) hx hb dX1_sources_30 (by decide) ?_
      refine ih_i ls hlt_i (trivial) ?_
      have hq : lv_has ls 3 [(0, .ref h), (1, .int ((ck_cn (bt hd) i) + 1)), (2, .int (nI (i + 1)))] := lv_sub hl [2, 1, 0] rfl
      have eq0 : ((ck_cn (bt hd) i) + 1) = (ck_cn (bt hd) (i + 1)) := by simp [ck_cn, c_2]
      exact lv_eqq hq (by rw [← eq0])

set_option maxHeartbeats 4000000 in
set_option maxRecDepth 100000 in
theorem c_X1_covers (l : Launch) (D : va_G) (h a0 a1 a2 : Nat) (c0 c1 c2 : ClassId) (lo hi : Nat → Int64) (hd : Int32) (ow off go : Int64) (inv : ck_inv hd lo hi) (p0 : Int64)  : Met l yX1_covers wsX1_covers { frames := 0, cells := 0, slots := 0, locals := 0 } (va_Pc [.ref h, .long p0] (ck_B D (mW h a0 a1 a2 c0 c1 c2 lo hi hd ow off go) (mT c0 c1 c2))) (ck_R (.int (ck_cvs (bt hd) lo hi p0))) 0 0 (fun _ => False) := by
  refine Met.ofW (cc := cX1_covers) (maxL := 5) (ret := (some .int)) (by decide) rfl ?_
  intro p e s m args below meth c s₁ B hml hv
  obtain ⟨rfl, hP, hK⟩ := hv
  have hx := B.exec
  have hb := B.bytes
  have hr := B.returns
  have hts := atoms_spec (ws := wsX1_covers) B.pre
  have hown : s.vm.findClass RX1 = some m.cls := findClass_of_methodNamed B.named
  have hlocks := B.notSynchronized
  have hin : ∀ w ∈ wsX10, w ∈ wsX1_covers := fun _ h => List.mem_cons_of_mem _ (List.mem_append_right _ h)
  have hl := lv_entry ([.ref h, .long p0]) (n := 5) (Nat.le_of_ble_eq_true rfl)
  rw [lg_entry_eq]
  generalize (lg_sl ([.ref h, .long p0]) ++ List.replicate (5 - (lg_sl ([.ref h, .long p0])).length) Slot.unset).toArray = ls at hl ⊢
  have hl : lv_has ls 5 [(0, .ref h), (1, .long p0)] := hl
  refine lv_iconst (v := 0) hx hb dX1_covers_0 (by decide) ?_
  refine lv_istore_n (lv' := [(3, .int 0), (0, .ref h), (1, .long p0)]) hx hb dX1_covers_1 rfl hl (by decide) rfl (fun ls hl => ?_)
  refine lv_iconst (v := 0) hx hb dX1_covers_2 (by decide) ?_
  refine lv_istore (lv' := [(4, .int 0), (3, .int 0), (0, .ref h), (1, .long p0)]) hx hb dX1_covers_3 hl (by decide) rfl (fun ls hl => ?_)
  refine ck_loop (G := fun ls => W p l e _ s m _ below meth c _ _ _ _ _ (F0 m 5 ls [])) (nL := 5) (24) (fun i => True) (fun i => [(0, .ref h), (1, .long p0), (3, .int (ck_cn (ck_cov (bt hd) lo hi p0) i)), (4, .int (nI i))]) (fun i hle_i hj_i ih_i ls hl => ?_) ls (trivial) ?_
  rotate_left
  · have hq : lv_has ls 5 [(0, .ref h), (1, .long p0), (3, .int 0), (4, .int 0)] := lv_sub hl [2, 3, 1, 0] rfl
    exact hq
  have hl : lv_has ls 5 [(0, .ref h), (1, .long p0), (3, .int (ck_cn (ck_cov (bt hd) lo hi p0) i)), (4, .int (nI i))] := hl
  refine lv_iload hx hb dX1_covers_5 (lv_at hl 3 rfl) ?_
  refine lv_bipush (v := 24) hx hb dX1_covers_7 (by decide) ?_
  refine lv_icmp_ge (tgt := 60) hx hb dX1_covers_9 (by decide) (fun c_1 => ?_) (fun c_1 => ?_)
  · have heq_i : i = 24 := ck_eqN hle_i c_1
    subst heq_i
    have hl : lv_has ls 5 [(0, .ref h), (1, .long p0), (3, .int (ck_cn (ck_cov (bt hd) lo hi p0) 24)), (4, .int (nI 24))] := hl
    refine lv_iload_n hx hb dX1_covers_60 rfl (lv_at hl 2 rfl) ?_
    have hres : (ck_cn (ck_cov (bt hd) lo hi p0) 24) = (ck_cvs (bt hd) lo hi p0) := by rfl
    exact W.iret (v := (ck_cn (ck_cov (bt hd) lo hi p0) 24)) hx hb hr (fun t ht _ => ⟨congrArg (fun z => Outcome.returned (some (Value.int z))) hres, ht⟩) (fun _ h => nomatch h) dX1_covers_61
  · have hlt_i : i < 24 := ck_ltN hle_i c_1
    refine lv_iload_n hx hb dX1_covers_12 rfl (lv_at hl 2 rfl) ?_
    refine lv_aload_n hx hb dX1_covers_13 rfl (lv_at hl 0 rfl) ?_
    refine va_get (D := D) (ci := 1) (v := .ref a0) (C := RX1) (T := TX1) (N := 6) hx hb hts hin hown hK hP 0 rfl rfl 0 (by decide) (hts (.fieldLink RX1 7 "ClockDeskModel" "is" "[Z") (by decide +kernel)) (fun _ h9 => h9) rfl dX1_covers_14 ?_
    refine lv_iload hx hb dX1_covers_17 (lv_at hl 3 rfl) ?_
    refine ck_zald hx hb hK hP 1 0 rfl rfl (i := i) hlt_i dX1_covers_19 ?_
    refine lv_if_eq (tgt := 51) hx hb dX1_covers_20 (by decide) (fun c_2 => ?_) (fun c_2 => ?_)
    · have c_2 := ck_bf c_2
      refine lv_iconst (v := 0) hx hb dX1_covers_51 (by decide) ?_
      refine lv_iadd hx hb dX1_covers_52 ?_
      refine lv_istore_n (lv' := [(3, .int ((ck_cn (ck_cov (bt hd) lo hi p0) i) + 0)), (0, .ref h), (1, .long p0), (4, .int (nI i))]) hx hb dX1_covers_53 rfl hl (by decide) rfl (fun ls hl => ?_)
      refine lv_iinc (v := (nI (i + 1))) (lv' := [(4, .int (nI (i + 1))), (3, .int ((ck_cn (ck_cov (bt hd) lo hi p0) i) + 0)), (0, .ref h), (1, .long p0)]) hx hb dX1_covers_54 hl (k := 3) rfl (nI_1 i) (by decide) rfl (fun ls hl => ?_)
      refine lv_goto (tgt := 5) hx hb dX1_covers_57 (by decide) ?_
      refine ih_i ls hlt_i (trivial) ?_
      have hq : lv_has ls 5 [(0, .ref h), (1, .long p0), (3, .int ((ck_cn (ck_cov (bt hd) lo hi p0) i) + 0)), (4, .int (nI (i + 1)))] := lv_sub hl [2, 3, 1, 0] rfl
      have eq0 : ((ck_cn (ck_cov (bt hd) lo hi p0) i) + 0) = (ck_cn (ck_cov (bt hd) lo hi p0) (i + 1)) := by simp [ck_cn, ck_cov, c_2]
      exact lv_eqq hq (by rw [← eq0])
    · have c_2 := ck_bt c_2
      refine lv_aload_n hx hb dX1_covers_23 rfl (lv_at hl 0 rfl) ?_
      refine va_get (D := D) (ci := 1) (v := .ref a1) (C := RX1) (T := TX1) (N := 6) hx hb hts hin hown hK hP 0 rfl rfl 1 (by decide) (hts (.fieldLink RX1 13 "ClockDeskModel" "low" "[J") (by decide +kernel)) (fun _ h9 => h9) rfl dX1_covers_24 ?_
      refine lv_iload hx hb dX1_covers_27 (lv_at hl 3 rfl) ?_
      refine ck_lald hx hb hK hP 2 1 rfl rfl (i := i) hlt_i dX1_covers_29 ?_
      refine lv_lload_n hx hb dX1_covers_30 rfl (lv_at hl 1 rfl) ?_
      refine W.lcmp hx hb dX1_covers_31 ?_
      refine lv_if_gt (tgt := 51) hx hb dX1_covers_32 (by decide) (fun c_3 => ?_) (fun c_3 => ?_)
      · rw [lg_cmp_gt] at c_3
        refine lv_iconst (v := 0) hx hb dX1_covers_51 (by decide) ?_
        refine lv_iadd hx hb dX1_covers_52 ?_
        refine lv_istore_n (lv' := [(3, .int ((ck_cn (ck_cov (bt hd) lo hi p0) i) + 0)), (0, .ref h), (1, .long p0), (4, .int (nI i))]) hx hb dX1_covers_53 rfl hl (by decide) rfl (fun ls hl => ?_)
        refine lv_iinc (v := (nI (i + 1))) (lv' := [(4, .int (nI (i + 1))), (3, .int ((ck_cn (ck_cov (bt hd) lo hi p0) i) + 0)), (0, .ref h), (1, .long p0)]) hx hb dX1_covers_54 hl (k := 3) rfl (nI_1 i) (by decide) rfl (fun ls hl => ?_)
        refine lv_goto (tgt := 5) hx hb dX1_covers_57 (by decide) ?_
        refine ih_i ls hlt_i (trivial) ?_
        have hq : lv_has ls 5 [(0, .ref h), (1, .long p0), (3, .int ((ck_cn (ck_cov (bt hd) lo hi p0) i) + 0)), (4, .int (nI (i + 1)))] := lv_sub hl [2, 3, 1, 0] rfl
        have eq0 : ((ck_cn (ck_cov (bt hd) lo hi p0) i) + 0) = (ck_cn (ck_cov (bt hd) lo hi p0) (i + 1)) := by simp [ck_cn, ck_cov, c_2, c_3]
        exact lv_eqq hq (by rw [← eq0])
      · rw [lg_cmp_gt] at c_3
        refine lv_lload_n hx hb dX1_covers_35 rfl (lv_at hl 1 rfl) ?_
        refine lv_aload_n hx hb dX1_covers_36 rfl (lv_at hl 0 rfl) ?_
        refine va_get (D := D) (ci := 1) (v := .ref a2) (C := RX1) (T := TX1) (N := 6) hx hb hts hin hown hK hP 0 rfl rfl 2 (by decide) (hts (.fieldLink RX1 17 "ClockDeskModel" "high" "[J") (by decide +kernel)) (fun _ h9 => h9) rfl dX1_covers_37 ?_
        refine lv_iload hx hb dX1_covers_40 (lv_at hl 3 rfl) ?_
        refine ck_lald hx hb hK hP 3 2 rfl rfl (i := i) hlt_i dX1_covers_42 ?_
        refine W.lcmp hx hb dX1_covers_43 ?_
        refine lv_if_gt (tgt := 51) hx hb dX1_covers_44 (by decide) (fun c_4 => ?_) (fun c_4 => ?_)
        · rw [lg_cmp_gt] at c_4
          refine lv_iconst (v := 0) hx hb dX1_covers_51 (by decide) ?_
          refine lv_iadd hx hb dX1_covers_52 ?_
          refine lv_istore_n (lv' := [(3, .int ((ck_cn (ck_cov (bt hd) lo hi p0) i) + 0)), (0, .ref h), (1, .long p0), (4, .int (nI i))]) hx hb dX1_covers_53 rfl hl (by decide) rfl (fun ls hl => ?_)
          refine lv_iinc (v := (nI (i + 1))) (lv' := [(4, .int (nI (i + 1))), (3, .int ((ck_cn (ck_cov (bt hd) lo hi p0) i) + 0)), (0, .ref h), (1, .long p0)]) hx hb dX1_covers_54 hl (k := 3) rfl (nI_1 i) (by decide) rfl (fun ls hl => ?_)
          refine lv_goto (tgt := 5) hx hb dX1_covers_57 (by decide) ?_
          refine ih_i ls hlt_i (trivial) ?_
          have hq : lv_has ls 5 [(0, .ref h), (1, .long p0), (3, .int ((ck_cn (ck_cov (bt hd) lo hi p0) i) + 0)), (4, .int (nI (i + 1)))] := lv_sub hl [2, 3, 1, 0] rfl
          have eq0 : ((ck_cn (ck_cov (bt hd) lo hi p0) i) + 0) = (ck_cn (ck_cov (bt hd) lo hi p0) (i + 1)) := by simp [ck_cn, ck_cov, c_2, c_3, c_4]
          exact lv_eqq hq (by rw [← eq0])
        · rw [lg_cmp_gt] at c_4
          refine lv_iconst (v := 1) hx hb dX1_covers_47 (by decide) ?_
          refine lv_goto (tgt := 52) hx hb dX1_covers_48 (by decide) ?_
          refine lv_iadd hx hb dX1_covers_52 ?_
          refine lv_istore_n (lv' := [(3, .int ((ck_cn (ck_cov (bt hd) lo hi p0) i) + 1)), (0, .ref h), (1, .long p0), (4, .int (nI i))]) hx hb dX1_covers_53 rfl hl (by decide) rfl (fun ls hl => ?_)
          refine lv_iinc (v := (nI (i + 1))) (lv' := [(4, .int (nI (i + 1))), (3, .int ((ck_cn (ck_cov (bt hd) lo hi p0) i) + 1)), (0, .ref h), (1, .long p0)]) hx hb dX1_covers_54 hl (k := 3) rfl (nI_1 i) (by decide) rfl (fun ls hl => ?_)
          refine lv_goto (tgt := 5) hx hb dX1_covers_57 (by decide) ?_
          refine ih_i ls hlt_i (trivial) ?_
          have hq : lv_has ls 5 [(0, .ref h), (1, .long p0), (3, .int ((ck_cn (ck_cov (bt hd) lo hi p0) i) + 1)), (4, .int (nI (i + 1)))] := lv_sub hl [2, 3, 1, 0] rfl
          have eq0 : ((ck_cn (ck_cov (bt hd) lo hi p0) i) + 1) = (ck_cn (ck_cov (bt hd) lo hi p0) (i + 1)) := by simp [ck_cn, ck_cov, c_2, c_3, c_4]
          exact lv_eqq hq (by rw [← eq0])

set_option maxHeartbeats 4000000 in
set_option maxRecDepth 100000 in
theorem c_X1_greatest (l : Launch) (D : va_G) (h a0 a1 a2 : Nat) (c0 c1 c2 : ClassId) (lo hi : Nat → Int64) (hd : Int32) (ow off go : Int64) (inv : ck_inv hd lo hi)   : Met l yX1_greatest wsX1_greatest { frames := 1, cells := 0, slots := 0, locals := 24 } (va_Pc [.ref h] (ck_B D (mW h a0 a1 a2 c0 c1 c2 lo hi hd ow off go) (mT c0 c1 c2))) (ck_R (.int (ck_gr (bt hd) lo hi 24))) 0 0 (fun _ => False) := by
  refine Met.ofW (cc := cX1_greatest) (maxL := 4) (ret := (some .int)) (by decide) rfl ?_
  intro p e s m args below meth c s₁ B hml hv
  obtain ⟨rfl, hP, hK⟩ := hv
  have hx := B.exec
  have hb := B.bytes
  have hr := B.returns
  have hts := atoms_spec (ws := wsX1_greatest) B.pre
  have hown : s.vm.findClass RX1 = some m.cls := findClass_of_methodNamed B.named
  have hlocks := B.notSynchronized
  have hin : ∀ w ∈ wsX10, w ∈ wsX1_greatest := fun _ h => List.mem_cons_of_mem _ (List.mem_append_right _ h)
  have hl := lv_entry ([.ref h]) (n := 4) (Nat.le_of_ble_eq_true rfl)
  rw [lg_entry_eq]
  generalize (lg_sl ([.ref h]) ++ List.replicate (4 - (lg_sl ([.ref h])).length) Slot.unset).toArray = ls at hl ⊢
  have hl : lv_has ls 4 [(0, .ref h)] := hl
  refine lv_iconst (v := 0) hx hb dX1_greatest_0 (by decide) ?_
  refine lv_istore_n (lv' := [(1, .int 0), (0, .ref h)]) hx hb dX1_greatest_1 rfl hl (by decide) rfl (fun ls hl => ?_)
  refine lv_iconst (v := 0) hx hb dX1_greatest_2 (by decide) ?_
  refine lv_istore_n (lv' := [(2, .int 0), (1, .int 0), (0, .ref h)]) hx hb dX1_greatest_3 rfl hl (by decide) rfl (fun ls hl => ?_)
  refine ck_loop (G := fun ls => W p l e _ s m _ below meth c _ _ _ _ _ (F0 m 4 ls [])) (nL := 4) (24) (fun i => True) (fun i => [(0, .ref h), (1, .int (ck_gr (bt hd) lo hi i)), (2, .int (nI i))]) (fun i hle_i hj_i ih_i ls hl => ?_) ls (trivial) ?_
  rotate_left
  · have hq : lv_has ls 4 [(0, .ref h), (1, .int 0), (2, .int 0)] := lv_sub hl [2, 1, 0] rfl
    exact hq
  have hl : lv_has ls 4 [(0, .ref h), (1, .int (ck_gr (bt hd) lo hi i)), (2, .int (nI i))] := hl
  refine lv_iload_n hx hb dX1_greatest_4 rfl (lv_at hl 2 rfl) ?_
  refine lv_bipush (v := 24) hx hb dX1_greatest_5 (by decide) ?_
  refine lv_icmp_ge (tgt := 51) hx hb dX1_greatest_7 (by decide) (fun c_1 => ?_) (fun c_1 => ?_)
  · have heq_i : i = 24 := ck_eqN hle_i c_1
    subst heq_i
    have hl : lv_has ls 4 [(0, .ref h), (1, .int (ck_gr (bt hd) lo hi 24)), (2, .int (nI 24))] := hl
    refine lv_iload_n hx hb dX1_greatest_51 rfl (lv_at hl 1 rfl) ?_
    have hres : (ck_gr (bt hd) lo hi 24) = (ck_gr (bt hd) lo hi 24) := by rfl
    exact W.iret (v := (ck_gr (bt hd) lo hi 24)) hx hb hr (fun t ht _ => ⟨congrArg (fun z => Outcome.returned (some (Value.int z))) hres, ht⟩) (fun _ h => nomatch h) dX1_greatest_52
  · have hlt_i : i < 24 := ck_ltN hle_i c_1
    refine lv_aload_n hx hb dX1_greatest_10 rfl (lv_at hl 0 rfl) ?_
    refine va_get (D := D) (ci := 1) (v := .ref a0) (C := RX1) (T := TX1) (N := 6) hx hb hts hin hown hK hP 0 rfl rfl 0 (by decide) (hts (.fieldLink RX1 7 "ClockDeskModel" "is" "[Z") (by decide +kernel)) (fun _ h9 => h9) rfl dX1_greatest_11 ?_
    refine lv_iload_n hx hb dX1_greatest_14 rfl (lv_at hl 2 rfl) ?_
    refine ck_zald hx hb hK hP 1 0 rfl rfl (i := i) hlt_i dX1_greatest_15 ?_
    refine lv_if_eq (tgt := 32) hx hb dX1_greatest_16 (by decide) (fun c_2 => ?_) (fun c_2 => ?_)
    · have c_2 := ck_bf c_2
      refine lv_iconst (v := 0) hx hb dX1_greatest_32 (by decide) ?_
      refine lv_istore_n (lv' := [(3, .int 0), (0, .ref h), (1, .int (ck_gr (bt hd) lo hi i)), (2, .int (nI i))]) hx hb dX1_greatest_33 rfl hl (by decide) rfl (fun ls hl => ?_)
      refine lv_iload_n hx hb dX1_greatest_34 rfl (lv_at hl 0 rfl) ?_
      refine lv_iload_n hx hb dX1_greatest_35 rfl (lv_at hl 2 rfl) ?_
      refine lv_icmp_le (tgt := 43) hx hb dX1_greatest_36 (by decide) (fun c_3 => ?_) (fun c_3 => ?_)
      · refine lv_iload_n hx hb dX1_greatest_43 rfl (lv_at hl 2 rfl) ?_
        refine lv_istore_n (lv' := [(1, .int (ck_gr (bt hd) lo hi i)), (3, .int 0), (0, .ref h), (2, .int (nI i))]) hx hb dX1_greatest_44 rfl hl (by decide) rfl (fun ls hl => ?_)
        refine lv_iinc (v := (nI (i + 1))) (lv' := [(2, .int (nI (i + 1))), (1, .int (ck_gr (bt hd) lo hi i)), (3, .int 0), (0, .ref h)]) hx hb dX1_greatest_45 hl (k := 3) rfl (nI_1 i) (by decide) rfl (fun ls hl => ?_)
        refine lv_goto (tgt := 4) hx hb dX1_greatest_48 (by decide) ?_
        refine ih_i ls hlt_i (trivial) ?_
        have hq : lv_has ls 4 [(0, .ref h), (1, .int (ck_gr (bt hd) lo hi i)), (2, .int (nI (i + 1)))] := lv_sub hl [3, 1, 0] rfl
        have eq0 : (ck_gr (bt hd) lo hi i) = (ck_gr (bt hd) lo hi (i + 1)) := by first | (simp [ck_gr, c_2, ck_maxI_le c_3]; done) | (simp [ck_gr, c_2, ck_maxI_nle c_3]; done) | (simp [ck_gr, c_2]; done) | exact absurd (ck_gr_nn _ _ _ i) c_3
        exact lv_eqq hq (by rw [← eq0])
      · refine lv_iload_n hx hb dX1_greatest_39 rfl (lv_at hl 0 rfl) ?_
        refine lv_goto (tgt := 44) hx hb dX1_greatest_40 (by decide) ?_
        refine lv_istore_n (lv' := [(1, .int 0), (3, .int 0), (0, .ref h), (2, .int (nI i))]) hx hb dX1_greatest_44 rfl hl (by decide) rfl (fun ls hl => ?_)
        refine lv_iinc (v := (nI (i + 1))) (lv' := [(2, .int (nI (i + 1))), (1, .int 0), (3, .int 0), (0, .ref h)]) hx hb dX1_greatest_45 hl (k := 3) rfl (nI_1 i) (by decide) rfl (fun ls hl => ?_)
        refine lv_goto (tgt := 4) hx hb dX1_greatest_48 (by decide) ?_
        refine ih_i ls hlt_i (trivial) ?_
        have hq : lv_has ls 4 [(0, .ref h), (1, .int 0), (2, .int (nI (i + 1)))] := lv_sub hl [3, 1, 0] rfl
        have eq0 : 0 = (ck_gr (bt hd) lo hi (i + 1)) := by first | (simp [ck_gr, c_2, ck_maxI_le c_3]; done) | (simp [ck_gr, c_2, ck_maxI_nle c_3]; done) | (simp [ck_gr, c_2]; done) | exact absurd (ck_gr_nn _ _ _ i) c_3
        exact lv_eqq hq (by rw [← eq0])
    · have c_2 := ck_bt c_2
      refine lv_aload_n hx hb dX1_greatest_19 rfl (lv_at hl 0 rfl) ?_
      refine lv_aload_n hx hb dX1_greatest_20 rfl (lv_at hl 0 rfl) ?_
      refine va_get (D := D) (ci := 1) (v := .ref a1) (C := RX1) (T := TX1) (N := 6) hx hb hts hin hown hK hP 0 rfl rfl 1 (by decide) (hts (.fieldLink RX1 13 "ClockDeskModel" "low" "[J") (by decide +kernel)) (fun _ h9 => h9) rfl dX1_greatest_21 ?_
      refine lv_iload_n hx hb dX1_greatest_24 rfl (lv_at hl 2 rfl) ?_
      refine ck_lald hx hb hK hP 2 1 rfl rfl (i := i) hlt_i dX1_greatest_25 ?_
      refine ck_cV (As := [.long (lo i)]) (rest := []) ⟨hx, hb, hml, hown, hts⟩ (c_X1_covers l D h a0 a1 a2 c0 c1 c2 lo hi hd ow off go inv (lo i)) (cwV 1 hts gX1_greatest_X1_covers rfl rfl rfl (by decide +kernel) ⟨Nat.le_of_ble_eq_true rfl, Nat.le_of_ble_eq_true rfl⟩) hP hK (va_recv hK hP (ci := 1) (q0 := 0) rfl rfl) rfl hl.1 rfl (Nat.le_of_ble_eq_true rfl) dX1_greatest_26 ⟨Nat.le_of_ble_eq_true rfl, Nat.le_of_ble_eq_true rfl⟩ ?_
      refine lv_goto (tgt := 33) hx hb dX1_greatest_29 (by decide) ?_
      refine lv_istore_n (lv' := [(3, .int (ck_cvs (bt hd) lo hi (lo i))), (0, .ref h), (1, .int (ck_gr (bt hd) lo hi i)), (2, .int (nI i))]) hx hb dX1_greatest_33 rfl hl (by decide) rfl (fun ls hl => ?_)
      refine lv_iload_n hx hb dX1_greatest_34 rfl (lv_at hl 0 rfl) ?_
      refine lv_iload_n hx hb dX1_greatest_35 rfl (lv_at hl 2 rfl) ?_
      refine lv_icmp_le (tgt := 43) hx hb dX1_greatest_36 (by decide) (fun c_4 => ?_) (fun c_4 => ?_)
      · refine lv_iload_n hx hb dX1_greatest_43 rfl (lv_at hl 2 rfl) ?_
        refine lv_istore_n (lv' := [(1, .int (ck_gr (bt hd) lo hi i)), (3, .int (ck_cvs (bt hd) lo hi (lo i))), (0, .ref h), (2, .int (nI i))]) hx hb dX1_greatest_44 rfl hl (by decide) rfl (fun ls hl => ?_)
        refine lv_iinc (v := (nI (i + 1))) (lv' := [(2, .int (nI (i + 1))), (1, .int (ck_gr (bt hd) lo hi i)), (3, .int (ck_cvs (bt hd) lo hi (lo i))), (0, .ref h)]) hx hb dX1_greatest_45 hl (k := 3) rfl (nI_1 i) (by decide) rfl (fun ls hl => ?_)
        refine lv_goto (tgt := 4) hx hb dX1_greatest_48 (by decide) ?_
        refine ih_i ls hlt_i (trivial) ?_
        have hq : lv_has ls 4 [(0, .ref h), (1, .int (ck_gr (bt hd) lo hi i)), (2, .int (nI (i + 1)))] := lv_sub hl [3, 1, 0] rfl
        have eq0 : (ck_gr (bt hd) lo hi i) = (ck_gr (bt hd) lo hi (i + 1)) := by first | (simp [ck_gr, c_2, ck_maxI_le c_4]; done) | (simp [ck_gr, c_2, ck_maxI_nle c_4]; done) | (simp [ck_gr, c_2]; done) | exact absurd (ck_gr_nn _ _ _ i) c_4
        exact lv_eqq hq (by rw [← eq0])
      · refine lv_iload_n hx hb dX1_greatest_39 rfl (lv_at hl 0 rfl) ?_
        refine lv_goto (tgt := 44) hx hb dX1_greatest_40 (by decide) ?_
        refine lv_istore_n (lv' := [(1, .int (ck_cvs (bt hd) lo hi (lo i))), (3, .int (ck_cvs (bt hd) lo hi (lo i))), (0, .ref h), (2, .int (nI i))]) hx hb dX1_greatest_44 rfl hl (by decide) rfl (fun ls hl => ?_)
        refine lv_iinc (v := (nI (i + 1))) (lv' := [(2, .int (nI (i + 1))), (1, .int (ck_cvs (bt hd) lo hi (lo i))), (3, .int (ck_cvs (bt hd) lo hi (lo i))), (0, .ref h)]) hx hb dX1_greatest_45 hl (k := 3) rfl (nI_1 i) (by decide) rfl (fun ls hl => ?_)
        refine lv_goto (tgt := 4) hx hb dX1_greatest_48 (by decide) ?_
        refine ih_i ls hlt_i (trivial) ?_
        have hq : lv_has ls 4 [(0, .ref h), (1, .int (ck_cvs (bt hd) lo hi (lo i))), (2, .int (nI (i + 1)))] := lv_sub hl [3, 1, 0] rfl
        have eq0 : (ck_cvs (bt hd) lo hi (lo i)) = (ck_gr (bt hd) lo hi (i + 1)) := by first | (simp [ck_gr, c_2, ck_maxI_le c_4]; done) | (simp [ck_gr, c_2, ck_maxI_nle c_4]; done) | (simp [ck_gr, c_2]; done) | exact absurd (ck_gr_nn _ _ _ i) c_4
        exact lv_eqq hq (by rw [← eq0])

set_option maxHeartbeats 4000000 in
set_option maxRecDepth 100000 in
theorem c_X1_first (l : Launch) (D : va_G) (h a0 a1 a2 : Nat) (c0 c1 c2 : ClassId) (lo hi : Nat → Int64) (hd : Int32) (ow off go : Int64) (inv : ck_inv hd lo hi) (e0 : Int32)  : Met l yX1_first wsX1_first { frames := 1, cells := 0, slots := 0, locals := 24 } (va_Pc [.ref h, .int e0] (ck_B D (mW h a0 a1 a2 c0 c1 c2 lo hi hd ow off go) (mT c0 c1 c2))) (ck_R (.long (ck_fi (bt hd) lo hi e0 24))) 0 0 (fun _ => False) := by
  refine Met.ofW (cc := cX1_first) (maxL := 5) (ret := (some .long)) (by decide) rfl ?_
  intro p e s m args below meth c s₁ B hml hv
  obtain ⟨rfl, hP, hK⟩ := hv
  have hx := B.exec
  have hb := B.bytes
  have hr := B.returns
  have hts := atoms_spec (ws := wsX1_first) B.pre
  have hown : s.vm.findClass RX1 = some m.cls := findClass_of_methodNamed B.named
  have hlocks := B.notSynchronized
  have hin : ∀ w ∈ wsX10, w ∈ wsX1_first := fun _ h => List.mem_cons_of_mem _ (List.mem_append_right _ h)
  have hl := lv_entry ([.ref h, .int e0]) (n := 5) (Nat.le_of_ble_eq_true rfl)
  rw [lg_entry_eq]
  generalize (lg_sl ([.ref h, .int e0]) ++ List.replicate (5 - (lg_sl ([.ref h, .int e0])).length) Slot.unset).toArray = ls at hl ⊢
  have hl : lv_has ls 5 [(0, .ref h), (1, .int e0)] := hl
  refine lv_ldc2 (v := ck_NO) hx hb hown (hts (.constantLong RX1 30 ck_NO) (by decide +kernel)) dX1_first_0 ?_
  refine lv_lstore_n (lv' := [(2, .long ck_NO), (0, .ref h), (1, .int e0)]) hx hb dX1_first_3 rfl hl (by decide) rfl (fun ls hl => ?_)
  refine lv_iconst (v := 0) hx hb dX1_first_4 (by decide) ?_
  refine lv_istore (lv' := [(4, .int 0), (2, .long ck_NO), (0, .ref h), (1, .int e0)]) hx hb dX1_first_5 hl (by decide) rfl (fun ls hl => ?_)
  refine ck_loop (G := fun ls => W p l e _ s m _ below meth c _ _ _ _ _ (F0 m 7 ls [])) (nL := 5) (24) (fun i => True) (fun i => [(0, .ref h), (1, .int e0), (2, .long (ck_fi (bt hd) lo hi e0 i)), (4, .int (nI i))]) (fun i hle_i hj_i ih_i ls hl => ?_) ls (trivial) ?_
  rotate_left
  · have hq : lv_has ls 5 [(0, .ref h), (1, .int e0), (2, .long ck_NO), (4, .int 0)] := lv_sub hl [2, 3, 1, 0] rfl
    exact hq
  have hl : lv_has ls 5 [(0, .ref h), (1, .int e0), (2, .long (ck_fi (bt hd) lo hi e0 i)), (4, .int (nI i))] := hl
  refine lv_iload hx hb dX1_first_7 (lv_at hl 3 rfl) ?_
  refine lv_bipush (v := 24) hx hb dX1_first_9 (by decide) ?_
  refine lv_icmp_ge (tgt := 77) hx hb dX1_first_11 (by decide) (fun c_1 => ?_) (fun c_1 => ?_)
  · have heq_i : i = 24 := ck_eqN hle_i c_1
    subst heq_i
    have hl : lv_has ls 5 [(0, .ref h), (1, .int e0), (2, .long (ck_fi (bt hd) lo hi e0 24)), (4, .int (nI 24))] := hl
    refine lv_lload_n hx hb dX1_first_77 rfl (lv_at hl 2 rfl) ?_
    have hres : (ck_fi (bt hd) lo hi e0 24) = (ck_fi (bt hd) lo hi e0 24) := by rfl
    exact W.lret (v := (ck_fi (bt hd) lo hi e0 24)) hx hb hr (fun t ht _ => ⟨congrArg (fun z => Outcome.returned (some (Value.long z))) hres, ht⟩) (fun _ h => nomatch h) dX1_first_78
  · have hlt_i : i < 24 := ck_ltN hle_i c_1
    refine lv_aload_n hx hb dX1_first_14 rfl (lv_at hl 0 rfl) ?_
    refine va_get (D := D) (ci := 1) (v := .ref a0) (C := RX1) (T := TX1) (N := 6) hx hb hts hin hown hK hP 0 rfl rfl 0 (by decide) (hts (.fieldLink RX1 7 "ClockDeskModel" "is" "[Z") (by decide +kernel)) (fun _ h9 => h9) rfl dX1_first_15 ?_
    refine lv_iload hx hb dX1_first_18 (lv_at hl 3 rfl) ?_
    refine ck_zald hx hb hK hP 1 0 rfl rfl (i := i) hlt_i dX1_first_20 ?_
    refine lv_if_eq (tgt := 69) hx hb dX1_first_21 (by decide) (fun c_2 => ?_) (fun c_2 => ?_)
    · have c_2 := ck_bf c_2
      refine lv_lload_n hx hb dX1_first_69 rfl (lv_at hl 2 rfl) ?_
      refine lv_lstore_n (lv' := [(2, .long (ck_fi (bt hd) lo hi e0 i)), (0, .ref h), (1, .int e0), (4, .int (nI i))]) hx hb dX1_first_70 rfl hl (by decide) rfl (fun ls hl => ?_)
      refine lv_iinc (v := (nI (i + 1))) (lv' := [(4, .int (nI (i + 1))), (2, .long (ck_fi (bt hd) lo hi e0 i)), (0, .ref h), (1, .int e0)]) hx hb dX1_first_71 hl (k := 3) rfl (nI_1 i) (by decide) rfl (fun ls hl => ?_)
      refine lv_goto (tgt := 7) hx hb dX1_first_74 (by decide) ?_
      refine ih_i ls hlt_i (trivial) ?_
      have hq : lv_has ls 5 [(0, .ref h), (1, .int e0), (2, .long (ck_fi (bt hd) lo hi e0 i)), (4, .int (nI (i + 1)))] := lv_sub hl [2, 3, 1, 0] rfl
      have eq0 : (ck_fi (bt hd) lo hi e0 i) = (ck_fi (bt hd) lo hi e0 (i + 1)) := by simp [ck_fi, c_2]
      exact lv_eqq hq (by rw [← eq0])
    · have c_2 := ck_bt c_2
      refine lv_aload_n hx hb dX1_first_24 rfl (lv_at hl 0 rfl) ?_
      refine lv_aload_n hx hb dX1_first_25 rfl (lv_at hl 0 rfl) ?_
      refine va_get (D := D) (ci := 1) (v := .ref a1) (C := RX1) (T := TX1) (N := 6) hx hb hts hin hown hK hP 0 rfl rfl 1 (by decide) (hts (.fieldLink RX1 13 "ClockDeskModel" "low" "[J") (by decide +kernel)) (fun _ h9 => h9) rfl dX1_first_26 ?_
      refine lv_iload hx hb dX1_first_29 (lv_at hl 3 rfl) ?_
      refine ck_lald hx hb hK hP 2 1 rfl rfl (i := i) hlt_i dX1_first_31 ?_
      refine ck_cV (As := [.long (lo i)]) (rest := []) ⟨hx, hb, hml, hown, hts⟩ (c_X1_covers l D h a0 a1 a2 c0 c1 c2 lo hi hd ow off go inv (lo i)) (cwV 1 hts gX1_first_X1_covers rfl rfl rfl (by decide +kernel) ⟨Nat.le_of_ble_eq_true rfl, Nat.le_of_ble_eq_true rfl⟩) hP hK (va_recv hK hP (ci := 1) (q0 := 0) rfl rfl) rfl hl.1 rfl (Nat.le_of_ble_eq_true rfl) dX1_first_32 ⟨Nat.le_of_ble_eq_true rfl, Nat.le_of_ble_eq_true rfl⟩ ?_
      refine lv_iload_n hx hb dX1_first_35 rfl (lv_at hl 1 rfl) ?_
      refine lv_icmp_lt (tgt := 69) hx hb dX1_first_36 (by decide) (fun c_3 => ?_) (fun c_3 => ?_)
      · refine lv_lload_n hx hb dX1_first_69 rfl (lv_at hl 2 rfl) ?_
        refine lv_lstore_n (lv' := [(2, .long (ck_fi (bt hd) lo hi e0 i)), (0, .ref h), (1, .int e0), (4, .int (nI i))]) hx hb dX1_first_70 rfl hl (by decide) rfl (fun ls hl => ?_)
        refine lv_iinc (v := (nI (i + 1))) (lv' := [(4, .int (nI (i + 1))), (2, .long (ck_fi (bt hd) lo hi e0 i)), (0, .ref h), (1, .int e0)]) hx hb dX1_first_71 hl (k := 3) rfl (nI_1 i) (by decide) rfl (fun ls hl => ?_)
        refine lv_goto (tgt := 7) hx hb dX1_first_74 (by decide) ?_
        refine ih_i ls hlt_i (trivial) ?_
        have hq : lv_has ls 5 [(0, .ref h), (1, .int e0), (2, .long (ck_fi (bt hd) lo hi e0 i)), (4, .int (nI (i + 1)))] := lv_sub hl [2, 3, 1, 0] rfl
        have eq0 : (ck_fi (bt hd) lo hi e0 i) = (ck_fi (bt hd) lo hi e0 (i + 1)) := by simp [ck_fi, c_2, c_3]
        exact lv_eqq hq (by rw [← eq0])
      · refine lv_lload_n hx hb dX1_first_39 rfl (lv_at hl 2 rfl) ?_
        refine lv_ldc2 (v := ck_NO) hx hb hown (hts (.constantLong RX1 30 ck_NO) (by decide +kernel)) dX1_first_40 ?_
        refine W.lcmp hx hb dX1_first_43 ?_
        refine lv_if_eq (tgt := 59) hx hb dX1_first_44 (by decide) (fun c_4 => ?_) (fun c_4 => ?_)
        · rw [lg_cmp_eq] at c_4
          refine lv_aload_n hx hb dX1_first_59 rfl (lv_at hl 0 rfl) ?_
          refine va_get (D := D) (ci := 1) (v := .ref a1) (C := RX1) (T := TX1) (N := 6) hx hb hts hin hown hK hP 0 rfl rfl 1 (by decide) (hts (.fieldLink RX1 13 "ClockDeskModel" "low" "[J") (by decide +kernel)) (fun _ h9 => h9) rfl dX1_first_60 ?_
          refine lv_iload hx hb dX1_first_63 (lv_at hl 3 rfl) ?_
          refine ck_lald hx hb hK hP 2 1 rfl rfl (i := i) hlt_i dX1_first_65 ?_
          refine lv_goto (tgt := 70) hx hb dX1_first_66 (by decide) ?_
          refine lv_lstore_n (lv' := [(2, .long (lo i)), (0, .ref h), (1, .int e0), (4, .int (nI i))]) hx hb dX1_first_70 rfl hl (by decide) rfl (fun ls hl => ?_)
          refine lv_iinc (v := (nI (i + 1))) (lv' := [(4, .int (nI (i + 1))), (2, .long (lo i)), (0, .ref h), (1, .int e0)]) hx hb dX1_first_71 hl (k := 3) rfl (nI_1 i) (by decide) rfl (fun ls hl => ?_)
          refine lv_goto (tgt := 7) hx hb dX1_first_74 (by decide) ?_
          refine ih_i ls hlt_i (trivial) ?_
          have hq : lv_has ls 5 [(0, .ref h), (1, .int e0), (2, .long (lo i)), (4, .int (nI (i + 1)))] := lv_sub hl [2, 3, 1, 0] rfl
          have eq0 : (lo i) = (ck_fi (bt hd) lo hi e0 (i + 1)) := by simp [ck_fi, c_2, c_3, c_4]
          exact lv_eqq hq (by rw [← eq0])
        · rw [lg_cmp_eq] at c_4
          refine lv_aload_n hx hb dX1_first_47 rfl (lv_at hl 0 rfl) ?_
          refine va_get (D := D) (ci := 1) (v := .ref a1) (C := RX1) (T := TX1) (N := 6) hx hb hts hin hown hK hP 0 rfl rfl 1 (by decide) (hts (.fieldLink RX1 13 "ClockDeskModel" "low" "[J") (by decide +kernel)) (fun _ h9 => h9) rfl dX1_first_48 ?_
          refine lv_iload hx hb dX1_first_51 (lv_at hl 3 rfl) ?_
          refine ck_lald hx hb hK hP 2 1 rfl rfl (i := i) hlt_i dX1_first_53 ?_
          refine lv_lload_n hx hb dX1_first_54 rfl (lv_at hl 2 rfl) ?_
          refine W.lcmp hx hb dX1_first_55 ?_
          refine lv_if_ge (tgt := 69) hx hb dX1_first_56 (by decide) (fun c_5 => ?_) (fun c_5 => ?_)
          · rw [lg_cmp_ge] at c_5
            refine lv_lload_n hx hb dX1_first_69 rfl (lv_at hl 2 rfl) ?_
            refine lv_lstore_n (lv' := [(2, .long (ck_fi (bt hd) lo hi e0 i)), (0, .ref h), (1, .int e0), (4, .int (nI i))]) hx hb dX1_first_70 rfl hl (by decide) rfl (fun ls hl => ?_)
            refine lv_iinc (v := (nI (i + 1))) (lv' := [(4, .int (nI (i + 1))), (2, .long (ck_fi (bt hd) lo hi e0 i)), (0, .ref h), (1, .int e0)]) hx hb dX1_first_71 hl (k := 3) rfl (nI_1 i) (by decide) rfl (fun ls hl => ?_)
            refine lv_goto (tgt := 7) hx hb dX1_first_74 (by decide) ?_
            refine ih_i ls hlt_i (trivial) ?_
            have hq : lv_has ls 5 [(0, .ref h), (1, .int e0), (2, .long (ck_fi (bt hd) lo hi e0 i)), (4, .int (nI (i + 1)))] := lv_sub hl [2, 3, 1, 0] rfl
            have eq0 : (ck_fi (bt hd) lo hi e0 i) = (ck_fi (bt hd) lo hi e0 (i + 1)) := by simp [ck_fi, c_2, c_3, c_4, c_5]
            exact lv_eqq hq (by rw [← eq0])
          · rw [lg_cmp_ge] at c_5
            refine lv_aload_n hx hb dX1_first_59 rfl (lv_at hl 0 rfl) ?_
            refine va_get (D := D) (ci := 1) (v := .ref a1) (C := RX1) (T := TX1) (N := 6) hx hb hts hin hown hK hP 0 rfl rfl 1 (by decide) (hts (.fieldLink RX1 13 "ClockDeskModel" "low" "[J") (by decide +kernel)) (fun _ h9 => h9) rfl dX1_first_60 ?_
            refine lv_iload hx hb dX1_first_63 (lv_at hl 3 rfl) ?_
            refine ck_lald hx hb hK hP 2 1 rfl rfl (i := i) hlt_i dX1_first_65 ?_
            refine lv_goto (tgt := 70) hx hb dX1_first_66 (by decide) ?_
            refine lv_lstore_n (lv' := [(2, .long (lo i)), (0, .ref h), (1, .int e0), (4, .int (nI i))]) hx hb dX1_first_70 rfl hl (by decide) rfl (fun ls hl => ?_)
            refine lv_iinc (v := (nI (i + 1))) (lv' := [(4, .int (nI (i + 1))), (2, .long (lo i)), (0, .ref h), (1, .int e0)]) hx hb dX1_first_71 hl (k := 3) rfl (nI_1 i) (by decide) rfl (fun ls hl => ?_)
            refine lv_goto (tgt := 7) hx hb dX1_first_74 (by decide) ?_
            refine ih_i ls hlt_i (trivial) ?_
            have hq : lv_has ls 5 [(0, .ref h), (1, .int e0), (2, .long (lo i)), (4, .int (nI (i + 1)))] := lv_sub hl [2, 3, 1, 0] rfl
            have eq0 : (lo i) = (ck_fi (bt hd) lo hi e0 (i + 1)) := by simp [ck_fi, c_2, c_3, c_4, c_5]
            exact lv_eqq hq (by rw [← eq0])

set_option maxHeartbeats 4000000 in
set_option maxRecDepth 100000 in
theorem c_X1_last (l : Launch) (D : va_G) (h a0 a1 a2 : Nat) (c0 c1 c2 : ClassId) (lo hi : Nat → Int64) (hd : Int32) (ow off go : Int64) (inv : ck_inv hd lo hi) (e0 : Int32)  : Met l yX1_last wsX1_last { frames := 1, cells := 0, slots := 0, locals := 24 } (va_Pc [.ref h, .int e0] (ck_B D (mW h a0 a1 a2 c0 c1 c2 lo hi hd ow off go) (mT c0 c1 c2))) (ck_R (.long (ck_la (bt hd) lo hi e0 24))) 0 0 (fun _ => False) := by
  refine Met.ofW (cc := cX1_last) (maxL := 5) (ret := (some .long)) (by decide) rfl ?_
  intro p e s m args below meth c s₁ B hml hv
  obtain ⟨rfl, hP, hK⟩ := hv
  have hx := B.exec
  have hb := B.bytes
  have hr := B.returns
  have hts := atoms_spec (ws := wsX1_last) B.pre
  have hown : s.vm.findClass RX1 = some m.cls := findClass_of_methodNamed B.named
  have hlocks := B.notSynchronized
  have hin : ∀ w ∈ wsX10, w ∈ wsX1_last := fun _ h => List.mem_cons_of_mem _ (List.mem_append_right _ h)
  have hl := lv_entry ([.ref h, .int e0]) (n := 5) (Nat.le_of_ble_eq_true rfl)
  rw [lg_entry_eq]
  generalize (lg_sl ([.ref h, .int e0]) ++ List.replicate (5 - (lg_sl ([.ref h, .int e0])).length) Slot.unset).toArray = ls at hl ⊢
  have hl : lv_has ls 5 [(0, .ref h), (1, .int e0)] := hl
  refine lv_ldc2 (v := ck_NO) hx hb hown (hts (.constantLong RX1 30 ck_NO) (by decide +kernel)) dX1_last_0 ?_
  refine lv_lstore_n (lv' := [(2, .long ck_NO), (0, .ref h), (1, .int e0)]) hx hb dX1_last_3 rfl hl (by decide) rfl (fun ls hl => ?_)
  refine lv_iconst (v := 0) hx hb dX1_last_4 (by decide) ?_
  refine lv_istore (lv' := [(4, .int 0), (2, .long ck_NO), (0, .ref h), (1, .int e0)]) hx hb dX1_last_5 hl (by decide) rfl (fun ls hl => ?_)
  refine ck_loop (G := fun ls => W p l e _ s m _ below meth c _ _ _ _ _ (F0 m 7 ls [])) (nL := 5) (24) (fun i => True) (fun i => [(0, .ref h), (1, .int e0), (2, .long (ck_la (bt hd) lo hi e0 i)), (4, .int (nI i))]) (fun i hle_i hj_i ih_i ls hl => ?_) ls (trivial) ?_
  rotate_left
  · have hq : lv_has ls 5 [(0, .ref h), (1, .int e0), (2, .long ck_NO), (4, .int 0)] := lv_sub hl [2, 3, 1, 0] rfl
    exact hq
  have hl : lv_has ls 5 [(0, .ref h), (1, .int e0), (2, .long (ck_la (bt hd) lo hi e0 i)), (4, .int (nI i))] := hl
  refine lv_iload hx hb dX1_last_7 (lv_at hl 3 rfl) ?_
  refine lv_bipush (v := 24) hx hb dX1_last_9 (by decide) ?_
  refine lv_icmp_ge (tgt := 77) hx hb dX1_last_11 (by decide) (fun c_1 => ?_) (fun c_1 => ?_)
  · have heq_i : i = 24 := ck_eqN hle_i c_1
    subst heq_i
    have hl : lv_has ls 5 [(0, .ref h), (1, .int e0), (2, .long (ck_la (bt hd) lo hi e0 24)), (4, .int (nI 24))] := hl
    refine lv_lload_n hx hb dX1_last_77 rfl (lv_at hl 2 rfl) ?_
    have hres : (ck_la (bt hd) lo hi e0 24) = (ck_la (bt hd) lo hi e0 24) := by rfl
    exact W.lret (v := (ck_la (bt hd) lo hi e0 24)) hx hb hr (fun t ht _ => ⟨congrArg (fun z => Outcome.returned (some (Value.long z))) hres, ht⟩) (fun _ h => nomatch h) dX1_last_78
  · have hlt_i : i < 24 := ck_ltN hle_i c_1
    refine lv_aload_n hx hb dX1_last_14 rfl (lv_at hl 0 rfl) ?_
    refine va_get (D := D) (ci := 1) (v := .ref a0) (C := RX1) (T := TX1) (N := 6) hx hb hts hin hown hK hP 0 rfl rfl 0 (by decide) (hts (.fieldLink RX1 7 "ClockDeskModel" "is" "[Z") (by decide +kernel)) (fun _ h9 => h9) rfl dX1_last_15 ?_
    refine lv_iload hx hb dX1_last_18 (lv_at hl 3 rfl) ?_
    refine ck_zald hx hb hK hP 1 0 rfl rfl (i := i) hlt_i dX1_last_20 ?_
    refine lv_if_eq (tgt := 69) hx hb dX1_last_21 (by decide) (fun c_2 => ?_) (fun c_2 => ?_)
    · have c_2 := ck_bf c_2
      refine lv_lload_n hx hb dX1_last_69 rfl (lv_at hl 2 rfl) ?_
      refine lv_lstore_n (lv' := [(2, .long (ck_la (bt hd) lo hi e0 i)), (0, .ref h), (1, .int e0), (4, .int (nI i))]) hx hb dX1_last_70 rfl hl (by decide) rfl (fun ls hl => ?_)
      refine lv_iinc (v := (nI (i + 1))) (lv' := [(4, .int (nI (i + 1))), (2, .long (ck_la (bt hd) lo hi e0 i)), (0, .ref h), (1, .int e0)]) hx hb dX1_last_71 hl (k := 3) rfl (nI_1 i) (by decide) rfl (fun ls hl => ?_)
      refine lv_goto (tgt := 7) hx hb dX1_last_74 (by decide) ?_
      refine ih_i ls hlt_i (trivial) ?_
      have hq : lv_has ls 5 [(0, .ref h), (1, .int e0), (2, .long (ck_la (bt hd) lo hi e0 i)), (4, .int (nI (i + 1)))] := lv_sub hl [2, 3, 1, 0] rfl
      have eq0 : (ck_la (bt hd) lo hi e0 i) = (ck_la (bt hd) lo hi e0 (i + 1)) := by first | (simp [ck_la, c_2]; done) | (simp [ck_la, ck_max_le c_2, c_2]; done) | (simp [ck_la, ck_max_nle c_2, c_2]; done) | (simp [ck_la, ck_max_NO (inv.2 i), c_2]; done)
      exact lv_eqq hq (by rw [← eq0])
    · have c_2 := ck_bt c_2
      refine lv_aload_n hx hb dX1_last_24 rfl (lv_at hl 0 rfl) ?_
      refine lv_aload_n hx hb dX1_last_25 rfl (lv_at hl 0 rfl) ?_
      refine va_get (D := D) (ci := 1) (v := .ref a2) (C := RX1) (T := TX1) (N := 6) hx hb hts hin hown hK hP 0 rfl rfl 2 (by decide) (hts (.fieldLink RX1 17 "ClockDeskModel" "high" "[J") (by decide +kernel)) (fun _ h9 => h9) rfl dX1_last_26 ?_
      refine lv_iload hx hb dX1_last_29 (lv_at hl 3 rfl) ?_
      refine ck_lald hx hb hK hP 3 2 rfl rfl (i := i) hlt_i dX1_last_31 ?_
      refine ck_cV (As := [.long (hi i)]) (rest := []) ⟨hx, hb, hml, hown, hts⟩ (c_X1_covers l D h a0 a1 a2 c0 c1 c2 lo hi hd ow off go inv (hi i)) (cwV 1 hts gX1_last_X1_covers rfl rfl rfl (by decide +kernel) ⟨Nat.le_of_ble_eq_true rfl, Nat.le_of_ble_eq_true rfl⟩) hP hK (va_recv hK hP (ci := 1) (q0 := 0) rfl rfl) rfl hl.1 rfl (Nat.le_of_ble_eq_true rfl) dX1_last_32 ⟨Nat.le_of_ble_eq_true rfl, Nat.le_of_ble_eq_true rfl⟩ ?_
      refine lv_iload_n hx hb dX1_last_35 rfl (lv_at hl 1 rfl) ?_
      refine lv_icmp_lt (tgt := 69) hx hb dX1_last_36 (by decide) (fun c_3 => ?_) (fun c_3 => ?_)
      · refine lv_lload_n hx hb dX1_last_69 rfl (lv_at hl 2 rfl) ?_
        refine lv_lstore_n (lv' := [(2, .long (ck_la (bt hd) lo hi e0 i)), (0, .ref h), (1, .int e0), (4, .int (nI i))]) hx hb dX1_last_70 rfl hl (by decide) rfl (fun ls hl => ?_)
        refine lv_iinc (v := (nI (i + 1))) (lv' := [(4, .int (nI (i + 1))), (2, .long (ck_la (bt hd) lo hi e0 i)), (0, .ref h), (1, .int e0)]) hx hb dX1_last_71 hl (k := 3) rfl (nI_1 i) (by decide) rfl (fun ls hl => ?_)
        refine lv_goto (tgt := 7) hx hb dX1_last_74 (by decide) ?_
        refine ih_i ls hlt_i (trivial) ?_
        have hq : lv_has ls 5 [(0, .ref h), (1, .int e0), (2, .long (ck_la (bt hd) lo hi e0 i)), (4, .int (nI (i + 1)))] := lv_sub hl [2, 3, 1, 0] rfl
        have eq0 : (ck_la (bt hd) lo hi e0 i) = (ck_la (bt hd) lo hi e0 (i + 1)) := by first | (simp [ck_la, c_2, c_3]; done) | (simp [ck_la, ck_max_le c_3, c_2, c_3]; done) | (simp [ck_la, ck_max_nle c_3, c_2, c_3]; done) | (simp [ck_la, ck_max_NO (inv.2 i), c_2, c_3]; done)
        exact lv_eqq hq (by rw [← eq0])
      · refine lv_lload_n hx hb dX1_last_39 rfl (lv_at hl 2 rfl) ?_
        refine lv_ldc2 (v := ck_NO) hx hb hown (hts (.constantLong RX1 30 ck_NO) (by decide +kernel)) dX1_last_40 ?_
        refine W.lcmp hx hb dX1_last_43 ?_
        refine lv_if_eq (tgt := 59) hx hb dX1_last_44 (by decide) (fun c_4 => ?_) (fun c_4 => ?_)
        · rw [lg_cmp_eq] at c_4
          refine lv_aload_n hx hb dX1_last_59 rfl (lv_at hl 0 rfl) ?_
          refine va_get (D := D) (ci := 1) (v := .ref a2) (C := RX1) (T := TX1) (N := 6) hx hb hts hin hown hK hP 0 rfl rfl 2 (by decide) (hts (.fieldLink RX1 17 "ClockDeskModel" "high" "[J") (by decide +kernel)) (fun _ h9 => h9) rfl dX1_last_60 ?_
          refine lv_iload hx hb dX1_last_63 (lv_at hl 3 rfl) ?_
          refine ck_lald hx hb hK hP 3 2 rfl rfl (i := i) hlt_i dX1_last_65 ?_
          refine lv_goto (tgt := 70) hx hb dX1_last_66 (by decide) ?_
          refine lv_lstore_n (lv' := [(2, .long (hi i)), (0, .ref h), (1, .int e0), (4, .int (nI i))]) hx hb dX1_last_70 rfl hl (by decide) rfl (fun ls hl => ?_)
          refine lv_iinc (v := (nI (i + 1))) (lv' := [(4, .int (nI (i + 1))), (2, .long (hi i)), (0, .ref h), (1, .int e0)]) hx hb dX1_last_71 hl (k := 3) rfl (nI_1 i) (by decide) rfl (fun ls hl => ?_)
          refine lv_goto (tgt := 7) hx hb dX1_last_74 (by decide) ?_
          refine ih_i ls hlt_i (trivial) ?_
          have hq : lv_has ls 5 [(0, .ref h), (1, .int e0), (2, .long (hi i)), (4, .int (nI (i + 1)))] := lv_sub hl [2, 3, 1, 0] rfl
          have eq0 : (hi i) = (ck_la (bt hd) lo hi e0 (i + 1)) := by first | (simp [ck_la, c_2, c_3, c_4]; done) | (simp [ck_la, ck_max_le c_4, c_2, c_3, c_4]; done) | (simp [ck_la, ck_max_nle c_4, c_2, c_3, c_4]; done) | (simp [ck_la, ck_max_NO (inv.2 i), c_2, c_3, c_4]; done)
          exact lv_eqq hq (by rw [← eq0])
        · rw [lg_cmp_eq] at c_4
          refine lv_aload_n hx hb dX1_last_47 rfl (lv_at hl 0 rfl) ?_
          refine va_get (D := D) (ci := 1) (v := .ref a2) (C := RX1) (T := TX1) (N := 6) hx hb hts hin hown hK hP 0 rfl rfl 2 (by decide) (hts (.fieldLink RX1 17 "ClockDeskModel" "high" "[J") (by decide +kernel)) (fun _ h9 => h9) rfl dX1_last_48 ?_
          refine lv_iload hx hb dX1_last_51 (lv_at hl 3 rfl) ?_
          refine ck_lald hx hb hK hP 3 2 rfl rfl (i := i) hlt_i dX1_last_53 ?_
          refine lv_lload_n hx hb dX1_last_54 rfl (lv_at hl 2 rfl) ?_
          refine W.lcmp hx hb dX1_last_55 ?_
          refine lv_if_le (tgt := 69) hx hb dX1_last_56 (by decide) (fun c_5 => ?_) (fun c_5 => ?_)
          · rw [lg_cmp_le] at c_5
            refine lv_lload_n hx hb dX1_last_69 rfl (lv_at hl 2 rfl) ?_
            refine lv_lstore_n (lv' := [(2, .long (ck_la (bt hd) lo hi e0 i)), (0, .ref h), (1, .int e0), (4, .int (nI i))]) hx hb dX1_last_70 rfl hl (by decide) rfl (fun ls hl => ?_)
            refine lv_iinc (v := (nI (i + 1))) (lv' := [(4, .int (nI (i + 1))), (2, .long (ck_la (bt hd) lo hi e0 i)), (0, .ref h), (1, .int e0)]) hx hb dX1_last_71 hl (k := 3) rfl (nI_1 i) (by decide) rfl (fun ls hl => ?_)
            refine lv_goto (tgt := 7) hx hb dX1_last_74 (by decide) ?_
            refine ih_i ls hlt_i (trivial) ?_
            have hq : lv_has ls 5 [(0, .ref h), (1, .int e0), (2, .long (ck_la (bt hd) lo hi e0 i)), (4, .int (nI (i + 1)))] := lv_sub hl [2, 3, 1, 0] rfl
            have eq0 : (ck_la (bt hd) lo hi e0 i) = (ck_la (bt hd) lo hi e0 (i + 1)) := by first | (simp [ck_la, c_2, c_3, c_4, c_5]; done) | (simp [ck_la, ck_max_le c_5, c_2, c_3, c_4, c_5]; done) | (simp [ck_la, ck_max_nle c_5, c_2, c_3, c_4, c_5]; done) | (simp [ck_la, ck_max_NO (inv.2 i), c_2, c_3, c_4, c_5]; done)
            exact lv_eqq hq (by rw [← eq0])
          · rw [lg_cmp_le] at c_5
            refine lv_aload_n hx hb dX1_last_59 rfl (lv_at hl 0 rfl) ?_
            refine va_get (D := D) (ci := 1) (v := .ref a2) (C := RX1) (T := TX1) (N := 6) hx hb hts hin hown hK hP 0 rfl rfl 2 (by decide) (hts (.fieldLink RX1 17 "ClockDeskModel" "high" "[J") (by decide +kernel)) (fun _ h9 => h9) rfl dX1_last_60 ?_
            refine lv_iload hx hb dX1_last_63 (lv_at hl 3 rfl) ?_
            refine ck_lald hx hb hK hP 3 2 rfl rfl (i := i) hlt_i dX1_last_65 ?_
            refine lv_goto (tgt := 70) hx hb dX1_last_66 (by decide) ?_
            refine lv_lstore_n (lv' := [(2, .long (hi i)), (0, .ref h), (1, .int e0), (4, .int (nI i))]) hx hb dX1_last_70 rfl hl (by decide) rfl (fun ls hl => ?_)
            refine lv_iinc (v := (nI (i + 1))) (lv' := [(4, .int (nI (i + 1))), (2, .long (hi i)), (0, .ref h), (1, .int e0)]) hx hb dX1_last_71 hl (k := 3) rfl (nI_1 i) (by decide) rfl (fun ls hl => ?_)
            refine lv_goto (tgt := 7) hx hb dX1_last_74 (by decide) ?_
            refine ih_i ls hlt_i (trivial) ?_
            have hq : lv_has ls 5 [(0, .ref h), (1, .int e0), (2, .long (hi i)), (4, .int (nI (i + 1)))] := lv_sub hl [2, 3, 1, 0] rfl
            have eq0 : (hi i) = (ck_la (bt hd) lo hi e0 (i + 1)) := by first | (simp [ck_la, c_2, c_3, c_4, c_5]; done) | (simp [ck_la, ck_max_le c_5, c_2, c_3, c_4, c_5]; done) | (simp [ck_la, ck_max_nle c_5, c_2, c_3, c_4, c_5]; done) | (simp [ck_la, ck_max_NO (inv.2 i), c_2, c_3, c_4, c_5]; done)
            exact lv_eqq hq (by rw [← eq0])

set_option maxHeartbeats 4000000 in
set_option maxRecDepth 100000 in
theorem c_X1_hull (l : Launch) (D : va_G) (h a0 a1 a2 : Nat) (c0 c1 c2 : ClassId) (lo hi : Nat → Int64) (hd : Int32) (ow off go : Int64) (inv : ck_inv hd lo hi) (f0 : Int32) (en : Int32)  : Met l yX1_hull wsX1_hull { frames := 2, cells := 0, slots := 0, locals := 48 } (va_Pc [.ref h, .int f0, .int en] (ck_B D (mW h a0 a1 a2 c0 c1 c2 lo hi hd ow off go) (mT c0 c1 c2))) (ck_R (.long (ck_hl hd lo hi f0 en))) 0 0 (fun _ => False) := by
  refine Met.ofW (cc := cX1_hull) (maxL := 4) (ret := (some .long)) (by decide) rfl ?_
  intro p e s m args below meth c s₁ B hml hv
  obtain ⟨rfl, hP, hK⟩ := hv
  have hx := B.exec
  have hb := B.bytes
  have hr := B.returns
  have hts := atoms_spec (ws := wsX1_hull) B.pre
  have hown : s.vm.findClass RX1 = some m.cls := findClass_of_methodNamed B.named
  have hlocks := B.notSynchronized
  have hin : ∀ w ∈ wsX10, w ∈ wsX1_hull := fun _ h => List.mem_cons_of_mem _ (List.mem_append_right _ h)
  have hl := lv_entry ([.ref h, .int f0, .int en]) (n := 4) (Nat.le_of_ble_eq_true rfl)
  rw [lg_entry_eq]
  generalize (lg_sl ([.ref h, .int f0, .int en]) ++ List.replicate (4 - (lg_sl ([.ref h, .int f0, .int en])).length) Slot.unset).toArray = ls at hl ⊢
  have hl : lv_has ls 4 [(0, .ref h), (1, .int f0), (2, .int en)] := hl
  refine lv_aload_n hx hb dX1_hull_0 rfl (lv_at hl 0 rfl) ?_
  refine ck_cV (As := []) (rest := []) ⟨hx, hb, hml, hown, hts⟩ (c_X1_sources l D h a0 a1 a2 c0 c1 c2 lo hi hd ow off go inv ) (cwV 0 hts gX1_hull_X1_sources rfl rfl rfl (by decide +kernel) ⟨Nat.le_of_ble_eq_true rfl, Nat.le_of_ble_eq_true rfl⟩) hP hK (va_recv hK hP (ci := 1) (q0 := 0) rfl rfl) rfl hl.1 rfl (Nat.le_of_ble_eq_true rfl) dX1_hull_1 ⟨Nat.le_of_ble_eq_true rfl, Nat.le_of_ble_eq_true rfl⟩ ?_
  refine lv_istore_n (lv' := [(3, .int (ck_ns hd)), (0, .ref h), (1, .int f0), (2, .int en)]) hx hb dX1_hull_4 rfl hl (by decide) rfl (fun ls hl => ?_)
  refine lv_iload_n hx hb dX1_hull_5 rfl (lv_at hl 2 rfl) ?_
  refine lv_if_lt (tgt := 23) hx hb dX1_hull_6 (by decide) (fun c_1 => ?_) (fun c_1 => ?_)
  · refine lv_ldc2 (v := ck_NO) hx hb hown (hts (.constantLong RX1 30 ck_NO) (by decide +kernel)) dX1_hull_23 ?_
    have hres : ck_NO = (ck_hl hd lo hi f0 en) := by simp [ck_hl, c_1]
    exact W.lret (v := ck_NO) hx hb hr (fun t ht _ => ⟨congrArg (fun z => Outcome.returned (some (Value.long z))) hres, ht⟩) (fun _ h => nomatch h) dX1_hull_26
  · refine lv_iload_n hx hb dX1_hull_9 rfl (lv_at hl 2 rfl) ?_
    refine lv_iload_n hx hb dX1_hull_10 rfl (lv_at hl 0 rfl) ?_
    refine lv_icmp_ge (tgt := 23) hx hb dX1_hull_11 (by decide) (fun c_2 => ?_) (fun c_2 => ?_)
    · refine lv_ldc2 (v := ck_NO) hx hb hown (hts (.constantLong RX1 30 ck_NO) (by decide +kernel)) dX1_hull_23 ?_
      have hres : ck_NO = (ck_hl hd lo hi f0 en) := by simp [ck_hl, c_1, c_2]
      exact W.lret (v := ck_NO) hx hb hr (fun t ht _ => ⟨congrArg (fun z => Outcome.returned (some (Value.long z))) hres, ht⟩) (fun _ h => nomatch h) dX1_hull_26
    · refine lv_iload_n hx hb dX1_hull_14 rfl (lv_at hl 3 rfl) ?_
      refine lv_if_lt (tgt := 23) hx hb dX1_hull_15 (by decide) (fun c_3 => ?_) (fun c_3 => ?_)
      · refine lv_ldc2 (v := ck_NO) hx hb hown (hts (.constantLong RX1 30 ck_NO) (by decide +kernel)) dX1_hull_23 ?_
        have hres : ck_NO = (ck_hl hd lo hi f0 en) := by first | (simp [ck_hl, ck_zoN c_3, c_1, c_2, c_3]; done) | (simp [ck_hl, ck_zo, c_1, c_2, c_3]; done)
        exact W.lret (v := ck_NO) hx hb hr (fun t ht _ => ⟨congrArg (fun z => Outcome.returned (some (Value.long z))) hres, ht⟩) (fun _ h => nomatch h) dX1_hull_26
      · refine lv_iload_n hx hb dX1_hull_18 rfl (lv_at hl 3 rfl) ?_
        refine lv_iconst (v := 1) hx hb dX1_hull_19 (by decide) ?_
        refine lv_icmp_le (tgt := 27) hx hb dX1_hull_20 (by decide) (fun c_4 => ?_) (fun c_4 => ?_)
        · refine lv_iload_n hx hb dX1_hull_27 rfl (lv_at hl 3 rfl) ?_
          refine lv_if_ne (tgt := 41) hx hb dX1_hull_28 (by decide) (fun c_5 => ?_) (fun c_5 => ?_)
          · refine lv_aload_n hx hb dX1_hull_41 rfl (lv_at hl 1 rfl) ?_
            refine lv_iload_n hx hb dX1_hull_42 rfl (lv_at hl 0 rfl) ?_
            refine lv_iload_n hx hb dX1_hull_43 rfl (lv_at hl 2 rfl) ?_
            refine lv_isub hx hb dX1_hull_44 ?_
            refine ck_cV (As := [.int ((ck_ns hd) - f0)]) (rest := []) ⟨hx, hb, hml, hown, hts⟩ (c_X1_last l D h a0 a1 a2 c0 c1 c2 lo hi hd ow off go inv ((ck_ns hd) - f0)) (cwV 1 hts gX1_hull_X1_last rfl rfl rfl (by decide +kernel) ⟨Nat.le_of_ble_eq_true rfl, Nat.le_of_ble_eq_true rfl⟩) hP hK (va_recv hK hP (ci := 1) (q0 := 0) rfl rfl) rfl hl.1 rfl (Nat.le_of_ble_eq_true rfl) dX1_hull_45 ⟨Nat.le_of_ble_eq_true rfl, Nat.le_of_ble_eq_true rfl⟩ ?_
            have hres : (ck_la (bt hd) lo hi ((ck_ns hd) - f0) 24) = (ck_hl hd lo hi f0 en) := by first | (simp [ck_hl, ck_zoI c_3 c_4, c_1, c_2, c_3, c_4, c_5]; done) | (simp [ck_hl, ck_zo, c_1, c_2, c_3, c_4, c_5]; done)
            exact W.lret (v := (ck_la (bt hd) lo hi ((ck_ns hd) - f0) 24)) hx hb hr (fun t ht _ => ⟨congrArg (fun z => Outcome.returned (some (Value.long z))) hres, ht⟩) (fun _ h => nomatch h) dX1_hull_48
          · refine lv_aload_n hx hb dX1_hull_31 rfl (lv_at hl 1 rfl) ?_
            refine lv_iload_n hx hb dX1_hull_32 rfl (lv_at hl 0 rfl) ?_
            refine lv_iload_n hx hb dX1_hull_33 rfl (lv_at hl 2 rfl) ?_
            refine lv_isub hx hb dX1_hull_34 ?_
            refine ck_cV (As := [.int ((ck_ns hd) - f0)]) (rest := []) ⟨hx, hb, hml, hown, hts⟩ (c_X1_first l D h a0 a1 a2 c0 c1 c2 lo hi hd ow off go inv ((ck_ns hd) - f0)) (cwV 1 hts gX1_hull_X1_first rfl rfl rfl (by decide +kernel) ⟨Nat.le_of_ble_eq_true rfl, Nat.le_of_ble_eq_true rfl⟩) hP hK (va_recv hK hP (ci := 1) (q0 := 0) rfl rfl) rfl hl.1 rfl (Nat.le_of_ble_eq_true rfl) dX1_hull_35 ⟨Nat.le_of_ble_eq_true rfl, Nat.le_of_ble_eq_true rfl⟩ ?_
            refine lv_goto (tgt := 48) hx hb dX1_hull_38 (by decide) ?_
            have hres : (ck_fi (bt hd) lo hi ((ck_ns hd) - f0) 24) = (ck_hl hd lo hi f0 en) := by first | (simp [ck_hl, ck_zoI c_3 c_4, c_1, c_2, c_3, c_4, c_5]; done) | (simp [ck_hl, ck_zo, c_1, c_2, c_3, c_4, c_5]; done)
            exact W.lret (v := (ck_fi (bt hd) lo hi ((ck_ns hd) - f0) 24)) hx hb hr (fun t ht _ => ⟨congrArg (fun z => Outcome.returned (some (Value.long z))) hres, ht⟩) (fun _ h => nomatch h) dX1_hull_48
        · refine lv_ldc2 (v := ck_NO) hx hb hown (hts (.constantLong RX1 30 ck_NO) (by decide +kernel)) dX1_hull_23 ?_
          have hres : ck_NO = (ck_hl hd lo hi f0 en) := by first | (simp [ck_hl, ck_zoB c_4, c_1, c_2, c_3, c_4]; done) | (simp [ck_hl, ck_zo, c_1, c_2, c_3, c_4]; done)
          exact W.lret (v := ck_NO) hx hb hr (fun t ht _ => ⟨congrArg (fun z => Outcome.returned (some (Value.long z))) hres, ht⟩) (fun _ h => nomatch h) dX1_hull_26

set_option maxHeartbeats 4000000 in
set_option maxRecDepth 100000 in
theorem c_X1_middle (l : Launch) (D : va_G) (h a0 a1 a2 : Nat) (c0 c1 c2 : ClassId) (lo hi : Nat → Int64) (hd : Int32) (ow off go : Int64) (inv : ck_inv hd lo hi)  (j : Nat) (hj : j < 24) : Met l yX1_middle wsX1_middle { frames := 1, cells := 0, slots := 0, locals := 21 } (va_Pc [.ref h, .int (nI j)] (ck_B D (mW h a0 a1 a2 c0 c1 c2 lo hi hd ow off go) (mT c0 c1 c2))) (ck_R (.long (ck_mid lo hi j))) 0 0 (fun _ => False) := by
  refine Met.ofW (cc := cX1_middle) (maxL := 2) (ret := (some .long)) (by decide) rfl ?_
  intro p e s m args below meth c s₁ B hml hv
  obtain ⟨rfl, hP, hK⟩ := hv
  have hx := B.exec
  have hb := B.bytes
  have hr := B.returns
  have hts := atoms_spec (ws := wsX1_middle) B.pre
  have hown : s.vm.findClass RX1 = some m.cls := findClass_of_methodNamed B.named
  have hlocks := B.notSynchronized
  have hin : ∀ w ∈ wsX10, w ∈ wsX1_middle := fun _ h => List.mem_cons_of_mem _ (List.mem_append_right _ h)
  have hl := lv_entry ([.ref h, .int (nI j)]) (n := 2) (Nat.le_of_ble_eq_true rfl)
  rw [lg_entry_eq]
  generalize (lg_sl ([.ref h, .int (nI j)]) ++ List.replicate (2 - (lg_sl ([.ref h, .int (nI j)])).length) Slot.unset).toArray = ls at hl ⊢
  have hl : lv_has ls 2 [(0, .ref h), (1, .int (nI j))] := hl
  refine lv_aload_n hx hb dX1_middle_0 rfl (lv_at hl 0 rfl) ?_
  refine va_get (D := D) (ci := 1) (v := .ref a1) (C := RX1) (T := TX1) (N := 6) hx hb hts hin hown hK hP 0 rfl rfl 1 (by decide) (hts (.fieldLink RX1 13 "ClockDeskModel" "low" "[J") (by decide +kernel)) (fun _ h9 => h9) rfl dX1_middle_1 ?_
  refine lv_iload_n hx hb dX1_middle_4 rfl (lv_at hl 1 rfl) ?_
  refine ck_lald hx hb hK hP 2 1 rfl rfl (i := j) hj dX1_middle_5 ?_
  refine lv_aload_n hx hb dX1_middle_6 rfl (lv_at hl 0 rfl) ?_
  refine va_get (D := D) (ci := 1) (v := .ref a2) (C := RX1) (T := TX1) (N := 6) hx hb hts hin hown hK hP 0 rfl rfl 2 (by decide) (hts (.fieldLink RX1 17 "ClockDeskModel" "high" "[J") (by decide +kernel)) (fun _ h9 => h9) rfl dX1_middle_7 ?_
  refine lv_iload_n hx hb dX1_middle_10 rfl (lv_at hl 1 rfl) ?_
  refine ck_lald hx hb hK hP 3 2 rfl rfl (i := j) hj dX1_middle_11 ?_
  refine lv_ladd hx hb dX1_middle_12 ?_
  refine ck_cS (As := [.long ((lo j) + (hi j))]) (rest := []) ⟨hx, hb, hml, hown, hts⟩ (c_X1_half l ((lo j) + (hi j))) (va_cwS 1 hts gX1_middle_X1_half rfl rfl rfl (by decide +kernel) ⟨Nat.le_of_ble_eq_true rfl, Nat.le_of_ble_eq_true rfl⟩) rfl hl.1 rfl (Nat.le_of_ble_eq_true rfl) dX1_middle_13 ⟨Nat.le_of_ble_eq_true rfl, Nat.le_of_ble_eq_true rfl⟩ ?_
  have hres : (ck_half ((lo j) + (hi j))) = (ck_mid lo hi j) := by rfl
  exact W.lret (v := (ck_half ((lo j) + (hi j)))) hx hb hr (fun t ht _ => ⟨congrArg (fun z => Outcome.returned (some (Value.long z))) hres, ht⟩) (fun _ h => nomatch h) dX1_middle_16

set_option maxHeartbeats 4000000 in
set_option maxRecDepth 100000 in
theorem c_X1_read (l : Launch) (D : va_G) (h a0 a1 a2 : Nat) (c0 c1 c2 : ClassId) (lo hi : Nat → Int64) (hd : Int32) (ow off go : Int64) (inv : ck_inv hd lo hi)   : Met l yX1_read wsX1_read { frames := 0, cells := 0, slots := 0, locals := 0 } (va_Pc [.ref h] (ck_B D (mW h a0 a1 a2 c0 c1 c2 lo hi hd ow off go) (mT c0 c1 c2))) (ck_R (.long (ow + off))) 0 0 (fun _ => False) := by
  refine Met.ofW (cc := cX1_read) (maxL := 1) (ret := (some .long)) (by decide) rfl ?_
  intro p e s m args below meth c s₁ B hml hv
  obtain ⟨rfl, hP, hK⟩ := hv
  have hx := B.exec
  have hb := B.bytes
  have hr := B.returns
  have hts := atoms_spec (ws := wsX1_read) B.pre
  have hown : s.vm.findClass RX1 = some m.cls := findClass_of_methodNamed B.named
  have hlocks := B.notSynchronized
  have hin : ∀ w ∈ wsX10, w ∈ wsX1_read := fun _ h => List.mem_cons_of_mem _ (List.mem_append_right _ h)
  have hl := lv_entry ([.ref h]) (n := 1) (Nat.le_of_ble_eq_true rfl)
  rw [lg_entry_eq]
  generalize (lg_sl ([.ref h]) ++ List.replicate (1 - (lg_sl ([.ref h])).length) Slot.unset).toArray = ls at hl ⊢
  have hl : lv_has ls 1 [(0, .ref h)] := hl
  refine lv_aload_n hx hb dX1_read_0 rfl (lv_at hl 0 rfl) ?_
  refine va_get (D := D) (ci := 1) (v := .long ow) (C := RX1) (T := TX1) (N := 6) hx hb hts hin hown hK hP 0 rfl rfl 3 (by decide) (hts (.fieldLink RX1 75 "ClockDeskModel" "now" "J") (by decide +kernel)) (fun _ h9 => h9) rfl dX1_read_1 ?_
  refine lv_aload_n hx hb dX1_read_4 rfl (lv_at hl 0 rfl) ?_
  refine va_get (D := D) (ci := 1) (v := .long off) (C := RX1) (T := TX1) (N := 6) hx hb hts hin hown hK hP 0 rfl rfl 4 (by decide) (hts (.fieldLink RX1 84 "ClockDeskModel" "offset" "J") (by decide +kernel)) (fun _ h9 => h9) rfl dX1_read_5 ?_
  refine lv_ladd hx hb dX1_read_8 ?_
  have hres : (ow + off) = (ow + off) := by rfl
  exact W.lret (v := (ow + off)) hx hb hr (fun t ht _ => ⟨congrArg (fun z => Outcome.returned (some (Value.long z))) hres, ht⟩) (fun _ h => nomatch h) dX1_read_9

set_option maxHeartbeats 4000000 in
set_option maxRecDepth 100000 in
theorem c_X1_offset (l : Launch) (D : va_G) (h a0 a1 a2 : Nat) (c0 c1 c2 : ClassId) (lo hi : Nat → Int64) (hd : Int32) (ow off go : Int64) (inv : ck_inv hd lo hi) (x : Int32)  : Met l yX1_offset wsX1_offset { frames := 0, cells := 0, slots := 0, locals := 0 } (va_Pc [.ref h, .int x] (ck_B D (mW h a0 a1 a2 c0 c1 c2 lo hi hd ow off go) (mT c0 c1 c2))) (ck_R (.long (ck_of off go x))) 0 0 (fun _ => False) := by
  refine Met.ofW (cc := cX1_offset) (maxL := 2) (ret := (some .long)) (by decide) rfl ?_
  intro p e s m args below meth c s₁ B hml hv
  obtain ⟨rfl, hP, hK⟩ := hv
  have hx := B.exec
  have hb := B.bytes
  have hr := B.returns
  have hts := atoms_spec (ws := wsX1_offset) B.pre
  have hown : s.vm.findClass RX1 = some m.cls := findClass_of_methodNamed B.named
  have hlocks := B.notSynchronized
  have hin : ∀ w ∈ wsX10, w ∈ wsX1_offset := fun _ h => List.mem_cons_of_mem _ (List.mem_append_right _ h)
  have hl := lv_entry ([.ref h, .int x]) (n := 2) (Nat.le_of_ble_eq_true rfl)
  rw [lg_entry_eq]
  generalize (lg_sl ([.ref h, .int x]) ++ List.replicate (2 - (lg_sl ([.ref h, .int x])).length) Slot.unset).toArray = ls at hl ⊢
  have hl : lv_has ls 2 [(0, .ref h), (1, .int x)] := hl
  refine lv_iload_n hx hb dX1_offset_0 rfl (lv_at hl 1 rfl) ?_
  refine lv_if_ne (tgt := 11) hx hb dX1_offset_1 (by decide) (fun c_1 => ?_) (fun c_1 => ?_)
  · refine lv_iload_n hx hb dX1_offset_11 rfl (lv_at hl 1 rfl) ?_
    refine lv_iconst (v := 1) hx hb dX1_offset_12 (by decide) ?_
    refine lv_icmp_ne (tgt := 23) hx hb dX1_offset_13 (by decide) (fun c_2 => ?_) (fun c_2 => ?_)
    · refine lv_ldc2 (v := ck_NO) hx hb hown (hts (.constantLong RX1 30 ck_NO) (by decide +kernel)) dX1_offset_23 ?_
      have hres : ck_NO = (ck_of off go x) := by first | (simp [ck_of, c_1, c_2]; done) | simp [ck_of, ck_zo, c_1, c_2]
      exact W.lret (v := ck_NO) hx hb hr (fun t ht _ => ⟨congrArg (fun z => Outcome.returned (some (Value.long z))) hres, ht⟩) (fun _ h => nomatch h) dX1_offset_26
    · refine lv_aload_n hx hb dX1_offset_16 rfl (lv_at hl 0 rfl) ?_
      refine va_get (D := D) (ci := 1) (v := .long go) (C := RX1) (T := TX1) (N := 6) hx hb hts hin hown hK hP 0 rfl rfl 5 (by decide) (hts (.fieldLink RX1 81 "ClockDeskModel" "goal" "J") (by decide +kernel)) (fun _ h9 => h9) rfl dX1_offset_17 ?_
      refine lv_goto (tgt := 26) hx hb dX1_offset_20 (by decide) ?_
      have hres : go = (ck_of off go x) := by first | (simp [ck_of, c_1, c_2]; done) | simp [ck_of, ck_zo, c_1, c_2]
      exact W.lret (v := go) hx hb hr (fun t ht _ => ⟨congrArg (fun z => Outcome.returned (some (Value.long z))) hres, ht⟩) (fun _ h => nomatch h) dX1_offset_26
  · refine lv_aload_n hx hb dX1_offset_4 rfl (lv_at hl 0 rfl) ?_
    refine va_get (D := D) (ci := 1) (v := .long off) (C := RX1) (T := TX1) (N := 6) hx hb hts hin hown hK hP 0 rfl rfl 4 (by decide) (hts (.fieldLink RX1 84 "ClockDeskModel" "offset" "J") (by decide +kernel)) (fun _ h9 => h9) rfl dX1_offset_5 ?_
    refine lv_goto (tgt := 26) hx hb dX1_offset_8 (by decide) ?_
    have hres : off = (ck_of off go x) := by first | (simp [ck_of, c_1]; done) | simp [ck_of, ck_zo, c_1]
    exact W.lret (v := off) hx hb hr (fun t ht _ => ⟨congrArg (fun z => Outcome.returned (some (Value.long z))) hres, ht⟩) (fun _ h => nomatch h) dX1_offset_26

set_option maxHeartbeats 4000000 in
set_option maxRecDepth 100000 in
theorem c_X1_settles (l : Launch) (D : va_G) (h a0 a1 a2 : Nat) (c0 c1 c2 : ClassId) (lo hi : Nat → Int64) (hd : Int32) (ow off go : Int64) (inv : ck_inv hd lo hi)   : Met l yX1_settles wsX1_settles { frames := 1, cells := 0, slots := 0, locals := 21 } (va_Pc [.ref h] (ck_B D (mW h a0 a1 a2 c0 c1 c2 lo hi hd ow off go) (mT c0 c1 c2))) (ck_R (.long (ck_st off go))) 0 0 (fun _ => False) := by
  refine Met.ofW (cc := cX1_settles) (maxL := 3) (ret := (some .long)) (by decide) rfl ?_
  intro p e s m args below meth c s₁ B hml hv
  obtain ⟨rfl, hP, hK⟩ := hv
  have hx := B.exec
  have hb := B.bytes
  have hr := B.returns
  have hts := atoms_spec (ws := wsX1_settles) B.pre
  have hown : s.vm.findClass RX1 = some m.cls := findClass_of_methodNamed B.named
  have hlocks := B.notSynchronized
  have hin : ∀ w ∈ wsX10, w ∈ wsX1_settles := fun _ h => List.mem_cons_of_mem _ (List.mem_append_right _ h)
  have hl := lv_entry ([.ref h]) (n := 3) (Nat.le_of_ble_eq_true rfl)
  rw [lg_entry_eq]
  generalize (lg_sl ([.ref h]) ++ List.replicate (3 - (lg_sl ([.ref h])).length) Slot.unset).toArray = ls at hl ⊢
  have hl : lv_has ls 3 [(0, .ref h)] := hl
  refine lv_aload_n hx hb dX1_settles_0 rfl (lv_at hl 0 rfl) ?_
  refine va_get (D := D) (ci := 1) (v := .long go) (C := RX1) (T := TX1) (N := 6) hx hb hts hin hown hK hP 0 rfl rfl 5 (by decide) (hts (.fieldLink RX1 81 "ClockDeskModel" "goal" "J") (by decide +kernel)) (fun _ h9 => h9) rfl dX1_settles_1 ?_
  refine lv_aload_n hx hb dX1_settles_4 rfl (lv_at hl 0 rfl) ?_
  refine va_get (D := D) (ci := 1) (v := .long off) (C := RX1) (T := TX1) (N := 6) hx hb hts hin hown hK hP 0 rfl rfl 4 (by decide) (hts (.fieldLink RX1 84 "ClockDeskModel" "offset" "J") (by decide +kernel)) (fun _ h9 => h9) rfl dX1_settles_5 ?_
  refine lv_lsub hx hb dX1_settles_8 ?_
  refine ck_cS (As := [.long (go - off)]) (rest := []) ⟨hx, hb, hml, hown, hts⟩ (c_X1_size l (go - off)) (va_cwS 1 hts gX1_settles_X1_size rfl rfl rfl (by decide +kernel) ⟨Nat.le_of_ble_eq_true rfl, Nat.le_of_ble_eq_true rfl⟩) rfl hl.1 rfl (Nat.le_of_ble_eq_true rfl) dX1_settles_9 ⟨Nat.le_of_ble_eq_true rfl, Nat.le_of_ble_eq_true rfl⟩ ?_
  refine lv_lstore_n (lv' := [(1, .long (ck_abs (go - off))), (0, .ref h)]) hx hb dX1_settles_12 rfl hl (by decide) rfl (fun ls hl => ?_)
  refine lv_lload_n hx hb dX1_settles_13 rfl (lv_at hl 0 rfl) ?_
  refine lv_ldc2 (v := ck_REACH) hx hb hown (hts (.constantLong RX1 87 ck_REACH) (by decide +kernel)) dX1_settles_14 ?_
  refine W.lcmp hx hb dX1_settles_17 ?_
  refine lv_if_le (tgt := 27) hx hb dX1_settles_18 (by decide) (fun c_1 => ?_) (fun c_1 => ?_)
  · rw [lg_cmp_le] at c_1
    refine lv_lload_n hx hb dX1_settles_27 rfl (lv_at hl 0 rfl) ?_
    refine lv_ldc2 (v := 2000) hx hb hown (hts (.constantLong RX1 79 2000) (by decide +kernel)) dX1_settles_28 ?_
    refine lv_lmul hx hb dX1_settles_31 ?_
    have hres : ((ck_abs (go - off)) * 2000) = (ck_st off go) := by simp [ck_st, c_1]
    exact W.lret (v := ((ck_abs (go - off)) * 2000)) hx hb hr (fun t ht _ => ⟨congrArg (fun z => Outcome.returned (some (Value.long z))) hres, ht⟩) (fun _ h => nomatch h) dX1_settles_32
  · rw [lg_cmp_le] at c_1
    refine lv_ldc2 (v := ck_NO) hx hb hown (hts (.constantLong RX1 30 ck_NO) (by decide +kernel)) dX1_settles_21 ?_
    refine lv_goto (tgt := 32) hx hb dX1_settles_24 (by decide) ?_
    have hres : ck_NO = (ck_st off go) := by simp [ck_st, c_1]
    exact W.lret (v := ck_NO) hx hb hr (fun t ht _ => ⟨congrArg (fun z => Outcome.returned (some (Value.long z))) hres, ht⟩) (fun _ h => nomatch h) dX1_settles_32
