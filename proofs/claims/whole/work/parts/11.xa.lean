set_option maxHeartbeats 4000000 in
set_option maxRecDepth 100000 in
theorem c_X0_covers (l : Launch) (D : va_G) (h a1 a2 : Nat) (c1 c2 : ClassId) (lo hi : Nat → Int64) (hd : Int32) (ow off go : Int64) (p0 : Int64)  : Met l yX0_covers wsX0_covers { frames := 3, cells := 0, slots := 0, locals := 64 } (va_Pc [.ref h, .long p0] (ck_B D (xW h a1 a2 c1 c2 lo hi hd ow off go) (xT c1 c2))) (ck_R (.int (ck_cvs (bt hd) lo hi p0))) 0 0 (fun _ => False) := by
  refine Met.ofW (cc := cX0_covers) (maxL := 5) (ret := (some .int)) (by decide) rfl ?_
  intro p e s m args below meth c s₁ B hml hv
  obtain ⟨rfl, hP, hK⟩ := hv
  have hx := B.exec
  have hb := B.bytes
  have hr := B.returns
  have hts := atoms_spec (ws := wsX0_covers) B.pre
  have hown : s.vm.findClass RX0 = some m.cls := findClass_of_methodNamed B.named
  have hlocks := B.notSynchronized
  have hin : ∀ w ∈ wsX00, w ∈ wsX0_covers := fun _ h => List.mem_cons_of_mem _ (List.mem_append_right _ h)
  have hl := lv_entry ([.ref h, .long p0]) (n := 5) (Nat.le_of_ble_eq_true rfl)
  rw [lg_entry_eq]
  generalize (lg_sl ([.ref h, .long p0]) ++ List.replicate (5 - (lg_sl ([.ref h, .long p0])).length) Slot.unset).toArray = ls at hl ⊢
  have hl : lv_has ls 5 [(0, .ref h), (1, .long p0)] := hl
  refine lv_iconst (v := 0) hx hb dX0_covers_0 (by decide) ?_
  refine lv_istore_n (lv' := [(3, .int 0), (0, .ref h), (1, .long p0)]) hx hb dX0_covers_1 rfl hl (by decide) rfl (fun ls hl => ?_)
  refine lv_iconst (v := 0) hx hb dX0_covers_2 (by decide) ?_
  refine lv_istore (lv' := [(4, .int 0), (3, .int 0), (0, .ref h), (1, .long p0)]) hx hb dX0_covers_3 hl (by decide) rfl (fun ls hl => ?_)
  refine ck_loop (G := fun ls => W p l e _ s m _ below meth c _ _ _ _ _ (F0 m 5 ls [])) (nL := 5) (24) (fun i => True) (fun i => [(0, .ref h), (1, .long p0), (3, .int (ck_cn (ck_cov (bt hd) lo hi p0) i)), (4, .int (nI i))]) (fun i hle_i hj_i ih_i ls hl => ?_) ls (trivial) ?_
  rotate_left
  · have hq : lv_has ls 5 [(0, .ref h), (1, .long p0), (3, .int 0), (4, .int 0)] := lv_sub hl [2, 3, 1, 0] rfl
    exact hq
  have hl : lv_has ls 5 [(0, .ref h), (1, .long p0), (3, .int (ck_cn (ck_cov (bt hd) lo hi p0) i)), (4, .int (nI i))] := hl
  refine lv_iload hx hb dX0_covers_5 (lv_at hl 3 rfl) ?_
  refine lv_bipush (v := 24) hx hb dX0_covers_7 (by decide) ?_
  refine lv_icmp_ge (tgt := 31) hx hb dX0_covers_9 (by decide) (fun c_1 => ?_) (fun c_1 => ?_)
  · have heq_i : i = 24 := ck_eqN hle_i c_1
    subst heq_i
    have hl : lv_has ls 5 [(0, .ref h), (1, .long p0), (3, .int (ck_cn (ck_cov (bt hd) lo hi p0) 24)), (4, .int (nI 24))] := hl
    refine lv_iload_n hx hb dX0_covers_31 rfl (lv_at hl 2 rfl) ?_
    have hres : (ck_cn (ck_cov (bt hd) lo hi p0) 24) = (ck_cvs (bt hd) lo hi p0) := by rfl
    exact W.iret (v := (ck_cn (ck_cov (bt hd) lo hi p0) 24)) hx hb hr (fun t ht _ => ⟨congrArg (fun z => Outcome.returned (some (Value.int z))) hres, ht⟩) (fun _ h => nomatch h) dX0_covers_32
  · have hlt_i : i < 24 := ck_ltN hle_i c_1
    refine lv_aload_n hx hb dX0_covers_12 rfl (lv_at hl 0 rfl) ?_
    refine lv_iload hx hb dX0_covers_13 (lv_at hl 3 rfl) ?_
    refine lv_lload_n hx hb dX0_covers_15 rfl (lv_at hl 1 rfl) ?_
    refine ck_cV (As := [.int (nI i), .long p0]) (rest := []) ⟨hx, hb, hml, hown, hts⟩ (c_X0_isCoveredBy l D h a1 a2 c1 c2 lo hi hd ow off go p0 i hlt_i) (cwV 2 hts gX0_covers_X0_isCoveredBy rfl rfl rfl (by decide +kernel) ⟨Nat.le_of_ble_eq_true rfl, Nat.le_of_ble_eq_true rfl⟩) hP hK (va_recv hK hP (ci := 0) (q0 := 0) rfl rfl) rfl hl.1 rfl (Nat.le_of_ble_eq_true rfl) dX0_covers_16 ⟨Nat.le_of_ble_eq_true rfl, Nat.le_of_ble_eq_true rfl⟩ ?_
    refine lv_if_eq (tgt := 25) hx hb dX0_covers_19 (by decide) (fun c_2 => ?_) (fun c_2 => ?_)
    · have c_2 := ck_bf c_2
      refine lv_iinc (v := (nI (i + 1))) (lv' := [(4, .int (nI (i + 1))), (0, .ref h), (1, .long p0), (3, .int (ck_cn (ck_cov (bt hd) lo hi p0) i))]) hx hb dX0_covers_25 hl (k := 3) rfl (nI_1 i) (by decide) rfl (fun ls hl => ?_)
      refine lv_goto (tgt := 5) hx hb dX0_covers_28 (by decide) ?_
      refine ih_i ls hlt_i (trivial) ?_
      have hq : lv_has ls 5 [(0, .ref h), (1, .long p0), (3, .int (ck_cn (ck_cov (bt hd) lo hi p0) i)), (4, .int (nI (i + 1)))] := lv_sub hl [1, 2, 3, 0] rfl
      have eq0 : (ck_cn (ck_cov (bt hd) lo hi p0) i) = (ck_cn (ck_cov (bt hd) lo hi p0) (i + 1)) := by simp [ck_cn, c_2]
      exact lv_eqq hq (by rw [← eq0])
    · have c_2 := ck_bt c_2
      refine lv_iinc (v := ((ck_cn (ck_cov (bt hd) lo hi p0) i) + 1)) (lv' := [(3, .int ((ck_cn (ck_cov (bt hd) lo hi p0) i) + 1)), (0, .ref h), (1, .long p0), (4, .int (nI i))]) hx hb dX0_covers_22 hl (k := 2) rfl rfl (by decide) rfl (fun ls hl => ?_)
      refine lv_iinc (v := (nI (i + 1))) (lv' := [(4, .int (nI (i + 1))), (3, .int ((ck_cn (ck_cov (bt hd) lo hi p0) i) + 1)), (0, .ref h), (1, .long p0)]) hx hb dX0_covers_25 hl (k := 3) rfl (nI_1 i) (by decide) rfl (fun ls hl => ?_)
      refine lv_goto (tgt := 5) hx hb dX0_covers_28 (by decide) ?_
      refine ih_i ls hlt_i (trivial) ?_
      have hq : lv_has ls 5 [(0, .ref h), (1, .long p0), (3, .int ((ck_cn (ck_cov (bt hd) lo hi p0) i) + 1)), (4, .int (nI (i + 1)))] := lv_sub hl [2, 3, 1, 0] rfl
      have eq0 : ((ck_cn (ck_cov (bt hd) lo hi p0) i) + 1) = (ck_cn (ck_cov (bt hd) lo hi p0) (i + 1)) := by simp [ck_cn, c_2]
      exact lv_eqq hq (by rw [← eq0])

set_option maxHeartbeats 4000000 in
set_option maxRecDepth 100000 in
theorem c_X0_greatest (l : Launch) (D : va_G) (h a1 a2 : Nat) (c1 c2 : ClassId) (lo hi : Nat → Int64) (hd : Int32) (ow off go : Int64)   : Met l yX0_greatest wsX0_greatest { frames := 4, cells := 0, slots := 0, locals := 88 } (va_Pc [.ref h] (ck_B D (xW h a1 a2 c1 c2 lo hi hd ow off go) (xT c1 c2))) (ck_R (.int (ck_gr (bt hd) lo hi 24))) 0 0 (fun _ => False) := by
  refine Met.ofW (cc := cX0_greatest) (maxL := 3) (ret := (some .int)) (by decide) rfl ?_
  intro p e s m args below meth c s₁ B hml hv
  obtain ⟨rfl, hP, hK⟩ := hv
  have hx := B.exec
  have hb := B.bytes
  have hr := B.returns
  have hts := atoms_spec (ws := wsX0_greatest) B.pre
  have hown : s.vm.findClass RX0 = some m.cls := findClass_of_methodNamed B.named
  have hlocks := B.notSynchronized
  have hin : ∀ w ∈ wsX00, w ∈ wsX0_greatest := fun _ h => List.mem_cons_of_mem _ (List.mem_append_right _ h)
  have hl := lv_entry ([.ref h]) (n := 3) (Nat.le_of_ble_eq_true rfl)
  rw [lg_entry_eq]
  generalize (lg_sl ([.ref h]) ++ List.replicate (3 - (lg_sl ([.ref h])).length) Slot.unset).toArray = ls at hl ⊢
  have hl : lv_has ls 3 [(0, .ref h)] := hl
  refine lv_iconst (v := 0) hx hb dX0_greatest_0 (by decide) ?_
  refine lv_istore_n (lv' := [(1, .int 0), (0, .ref h)]) hx hb dX0_greatest_1 rfl hl (by decide) rfl (fun ls hl => ?_)
  refine lv_iconst (v := 0) hx hb dX0_greatest_2 (by decide) ?_
  refine lv_istore_n (lv' := [(2, .int 0), (1, .int 0), (0, .ref h)]) hx hb dX0_greatest_3 rfl hl (by decide) rfl (fun ls hl => ?_)
  refine ck_loop (G := fun ls => W p l e _ s m _ below meth c _ _ _ _ _ (F0 m 4 ls [])) (nL := 3) (24) (fun i => True) (fun i => [(0, .ref h), (1, .int (ck_gr (bt hd) lo hi i)), (2, .int (nI i))]) (fun i hle_i hj_i ih_i ls hl => ?_) ls (trivial) ?_
  rotate_left
  · have hq : lv_has ls 3 [(0, .ref h), (1, .int 0), (2, .int 0)] := lv_sub hl [2, 1, 0] rfl
    exact hq
  have hl : lv_has ls 3 [(0, .ref h), (1, .int (ck_gr (bt hd) lo hi i)), (2, .int (nI i))] := hl
  refine lv_iload_n hx hb dX0_greatest_4 rfl (lv_at hl 2 rfl) ?_
  refine lv_bipush (v := 24) hx hb dX0_greatest_5 (by decide) ?_
  refine lv_icmp_ge (tgt := 42) hx hb dX0_greatest_7 (by decide) (fun c_1 => ?_) (fun c_1 => ?_)
  · have heq_i : i = 24 := ck_eqN hle_i c_1
    subst heq_i
    have hl : lv_has ls 3 [(0, .ref h), (1, .int (ck_gr (bt hd) lo hi 24)), (2, .int (nI 24))] := hl
    refine lv_iload_n hx hb dX0_greatest_42 rfl (lv_at hl 1 rfl) ?_
    have hres : (ck_gr (bt hd) lo hi 24) = (ck_gr (bt hd) lo hi 24) := by rfl
    exact W.iret (v := (ck_gr (bt hd) lo hi 24)) hx hb hr (fun t ht _ => ⟨congrArg (fun z => Outcome.returned (some (Value.int z))) hres, ht⟩) (fun _ h => nomatch h) dX0_greatest_43
  · have hlt_i : i < 24 := ck_ltN hle_i c_1
    refine lv_aload_n hx hb dX0_greatest_10 rfl (lv_at hl 0 rfl) ?_
    refine va_get (D := D) (ci := 0) (v := .int hd) (C := RX0) (T := TX0) (N := 6) hx hb hts hin hown hK hP 0 rfl rfl 2 (by decide) (hts (.fieldLink RX0 16 "ClockDesk" "held" "I") (by decide +kernel)) (fun _ h9 => h9) rfl dX0_greatest_11 ?_
    refine lv_iload_n hx hb dX0_greatest_14 rfl (lv_at hl 2 rfl) ?_
    refine ck_cS (As := [.int hd, .int (nI i)]) (rest := []) ⟨hx, hb, hml, hown, hts⟩ (c_X0_isInN l hd i hlt_i) (va_cwS 2 hts gX0_greatest_X0_isIn rfl rfl rfl (by decide +kernel) ⟨Nat.le_of_ble_eq_true rfl, Nat.le_of_ble_eq_true rfl⟩) rfl hl.1 rfl (Nat.le_of_ble_eq_true rfl) dX0_greatest_15 ⟨Nat.le_of_ble_eq_true rfl, Nat.le_of_ble_eq_true rfl⟩ ?_
    refine lv_if_eq (tgt := 36) hx hb dX0_greatest_18 (by decide) (fun c_2 => ?_) (fun c_2 => ?_)
    · have c_2 := ck_bf c_2
      refine lv_iinc (v := (nI (i + 1))) (lv' := [(2, .int (nI (i + 1))), (0, .ref h), (1, .int (ck_gr (bt hd) lo hi i))]) hx hb dX0_greatest_36 hl (k := 2) rfl (nI_1 i) (by decide) rfl (fun ls hl => ?_)
      refine lv_goto (tgt := 4) hx hb dX0_greatest_39 (by decide) ?_
      refine ih_i ls hlt_i (trivial) ?_
      have hq : lv_has ls 3 [(0, .ref h), (1, .int (ck_gr (bt hd) lo hi i)), (2, .int (nI (i + 1)))] := lv_sub hl [1, 2, 0] rfl
      have eq0 : (ck_gr (bt hd) lo hi i) = (ck_gr (bt hd) lo hi (i + 1)) := by simp [ck_gr, c_2]
      exact lv_eqq hq (by rw [← eq0])
    · have c_2 := ck_bt c_2
      refine lv_iload_n hx hb dX0_greatest_21 rfl (lv_at hl 1 rfl) ?_
      refine lv_aload_n hx hb dX0_greatest_22 rfl (lv_at hl 0 rfl) ?_
      refine lv_aload_n hx hb dX0_greatest_23 rfl (lv_at hl 0 rfl) ?_
      refine va_get (D := D) (ci := 0) (v := .ref a1) (C := RX0) (T := TX0) (N := 6) hx hb hts hin hown hK hP 0 rfl rfl 0 (by decide) (hts (.fieldLink RX0 9 "ClockDesk" "lows" "[J") (by decide +kernel)) (fun _ h9 => h9) rfl dX0_greatest_24 ?_
      refine lv_iload_n hx hb dX0_greatest_27 rfl (lv_at hl 2 rfl) ?_
      refine ck_lald hx hb hK hP 1 0 rfl rfl (i := i) hlt_i dX0_greatest_28 ?_
      refine ck_cV (As := [.long (lo i)]) (rest := [.int (ck_gr (bt hd) lo hi i)]) ⟨hx, hb, hml, hown, hts⟩ (c_X0_covers l D h a1 a2 c1 c2 lo hi hd ow off go (lo i)) (cwV 1 hts gX0_greatest_X0_covers rfl rfl rfl (by decide +kernel) ⟨Nat.le_of_ble_eq_true rfl, Nat.le_of_ble_eq_true rfl⟩) hP hK (va_recv hK hP (ci := 0) (q0 := 0) rfl rfl) rfl hl.1 rfl (Nat.le_of_ble_eq_true rfl) dX0_greatest_29 ⟨Nat.le_of_ble_eq_true rfl, Nat.le_of_ble_eq_true rfl⟩ ?_
      refine ck_mmaxI hx hb (hml.trans hl.1.symm) hown (hts (.methodLink RX0 74 Lib.Math.max.name) (by decide +kernel)) (hts (.static Lib.Math.max.name) (by decide +kernel)) (hts (.initialized "java/lang/Math") (by decide +kernel)) (hts (.code Lib.Math.max.name Lib.Math.max.code 2 (some .int)) (by decide +kernel)) (Nat.le_of_ble_eq_true rfl) (Nat.le_of_ble_eq_true rfl) (Nat.le_of_ble_eq_true rfl) (Nat.le_of_ble_eq_true rfl) dX0_greatest_32 ?_
      refine lv_istore_n (lv' := [(1, .int (ck_maxI (ck_gr (bt hd) lo hi i) (ck_cvs (bt hd) lo hi (lo i)))), (0, .ref h), (2, .int (nI i))]) hx hb dX0_greatest_35 rfl hl (by decide) rfl (fun ls hl => ?_)
      refine lv_iinc (v := (nI (i + 1))) (lv' := [(2, .int (nI (i + 1))), (1, .int (ck_maxI (ck_gr (bt hd) lo hi i) (ck_cvs (bt hd) lo hi (lo i)))), (0, .ref h)]) hx hb dX0_greatest_36 hl (k := 2) rfl (nI_1 i) (by decide) rfl (fun ls hl => ?_)
      refine lv_goto (tgt := 4) hx hb dX0_greatest_39 (by decide) ?_
      refine ih_i ls hlt_i (trivial) ?_
      have hq : lv_has ls 3 [(0, .ref h), (1, .int (ck_maxI (ck_gr (bt hd) lo hi i) (ck_cvs (bt hd) lo hi (lo i)))), (2, .int (nI (i + 1)))] := lv_sub hl [2, 1, 0] rfl
      have eq0 : (ck_maxI (ck_gr (bt hd) lo hi i) (ck_cvs (bt hd) lo hi (lo i))) = (ck_gr (bt hd) lo hi (i + 1)) := by simp [ck_gr, c_2]
      exact lv_eqq hq (by rw [← eq0])

set_option maxHeartbeats 4000000 in
set_option maxRecDepth 100000 in
theorem c_X0_leastCoveredBy (l : Launch) (D : va_G) (h a1 a2 : Nat) (c1 c2 : ClassId) (lo hi : Nat → Int64) (hd : Int32) (ow off go : Int64) (e0 : Int32)  : Met l yX0_leastCoveredBy wsX0_leastCoveredBy { frames := 4, cells := 0, slots := 0, locals := 88 } (va_Pc [.ref h, .int e0] (ck_B D (xW h a1 a2 c1 c2 lo hi hd ow off go) (xT c1 c2))) (ck_R (.long (ck_fi (bt hd) lo hi e0 24))) 0 0 (fun _ => False) := by
  refine Met.ofW (cc := cX0_leastCoveredBy) (maxL := 5) (ret := (some .long)) (by decide) rfl ?_
  intro p e s m args below meth c s₁ B hml hv
  obtain ⟨rfl, hP, hK⟩ := hv
  have hx := B.exec
  have hb := B.bytes
  have hr := B.returns
  have hts := atoms_spec (ws := wsX0_leastCoveredBy) B.pre
  have hown : s.vm.findClass RX0 = some m.cls := findClass_of_methodNamed B.named
  have hlocks := B.notSynchronized
  have hin : ∀ w ∈ wsX00, w ∈ wsX0_leastCoveredBy := fun _ h => List.mem_cons_of_mem _ (List.mem_append_right _ h)
  have hl := lv_entry ([.ref h, .int e0]) (n := 5) (Nat.le_of_ble_eq_true rfl)
  rw [lg_entry_eq]
  generalize (lg_sl ([.ref h, .int e0]) ++ List.replicate (5 - (lg_sl ([.ref h, .int e0])).length) Slot.unset).toArray = ls at hl ⊢
  have hl : lv_has ls 5 [(0, .ref h), (1, .int e0)] := hl
  refine lv_ldc2 (v := ck_NO) hx hb hown (hts (.constantLong RX0 46 ck_NO) (by decide +kernel)) dX0_leastCoveredBy_0 ?_
  refine lv_lstore_n (lv' := [(2, .long ck_NO), (0, .ref h), (1, .int e0)]) hx hb dX0_leastCoveredBy_3 rfl hl (by decide) rfl (fun ls hl => ?_)
  refine lv_iconst (v := 0) hx hb dX0_leastCoveredBy_4 (by decide) ?_
  refine lv_istore (lv' := [(4, .int 0), (2, .long ck_NO), (0, .ref h), (1, .int e0)]) hx hb dX0_leastCoveredBy_5 hl (by decide) rfl (fun ls hl => ?_)
  refine ck_loop (G := fun ls => W p l e _ s m _ below meth c _ _ _ _ _ (F0 m 7 ls [])) (nL := 5) (24) (fun i => True) (fun i => [(0, .ref h), (1, .int e0), (2, .long (ck_fi (bt hd) lo hi e0 i)), (4, .int (nI i))]) (fun i hle_i hj_i ih_i ls hl => ?_) ls (trivial) ?_
  rotate_left
  · have hq : lv_has ls 5 [(0, .ref h), (1, .int e0), (2, .long ck_NO), (4, .int 0)] := lv_sub hl [2, 3, 1, 0] rfl
    exact hq
  have hl : lv_has ls 5 [(0, .ref h), (1, .int e0), (2, .long (ck_fi (bt hd) lo hi e0 i)), (4, .int (nI i))] := hl
  refine lv_iload hx hb dX0_leastCoveredBy_7 (lv_at hl 3 rfl) ?_
  refine lv_bipush (v := 24) hx hb dX0_leastCoveredBy_9 (by decide) ?_
  refine lv_icmp_ge (tgt := 75) hx hb dX0_leastCoveredBy_11 (by decide) (fun c_1 => ?_) (fun c_1 => ?_)
  · have heq_i : i = 24 := ck_eqN hle_i c_1
    subst heq_i
    have hl : lv_has ls 5 [(0, .ref h), (1, .int e0), (2, .long (ck_fi (bt hd) lo hi e0 24)), (4, .int (nI 24))] := hl
    refine lv_lload_n hx hb dX0_leastCoveredBy_75 rfl (lv_at hl 2 rfl) ?_
    have hres : (ck_fi (bt hd) lo hi e0 24) = (ck_fi (bt hd) lo hi e0 24) := by rfl
    exact W.lret (v := (ck_fi (bt hd) lo hi e0 24)) hx hb hr (fun t ht _ => ⟨congrArg (fun z => Outcome.returned (some (Value.long z))) hres, ht⟩) (fun _ h => nomatch h) dX0_leastCoveredBy_76
  · have hlt_i : i < 24 := ck_ltN hle_i c_1
    refine lv_aload_n hx hb dX0_leastCoveredBy_14 rfl (lv_at hl 0 rfl) ?_
    refine va_get (D := D) (ci := 0) (v := .int hd) (C := RX0) (T := TX0) (N := 6) hx hb hts hin hown hK hP 0 rfl rfl 2 (by decide) (hts (.fieldLink RX0 16 "ClockDesk" "held" "I") (by decide +kernel)) (fun _ h9 => h9) rfl dX0_leastCoveredBy_15 ?_
    refine lv_iload hx hb dX0_leastCoveredBy_18 (lv_at hl 3 rfl) ?_
    refine ck_cS (As := [.int hd, .int (nI i)]) (rest := []) ⟨hx, hb, hml, hown, hts⟩ (c_X0_isInN l hd i hlt_i) (va_cwS 2 hts gX0_leastCoveredBy_X0_isIn rfl rfl rfl (by decide +kernel) ⟨Nat.le_of_ble_eq_true rfl, Nat.le_of_ble_eq_true rfl⟩) rfl hl.1 rfl (Nat.le_of_ble_eq_true rfl) dX0_leastCoveredBy_20 ⟨Nat.le_of_ble_eq_true rfl, Nat.le_of_ble_eq_true rfl⟩ ?_
    refine lv_if_eq (tgt := 69) hx hb dX0_leastCoveredBy_23 (by decide) (fun c_2 => ?_) (fun c_2 => ?_)
    · have c_2 := ck_bf c_2
      refine lv_iinc (v := (nI (i + 1))) (lv' := [(4, .int (nI (i + 1))), (0, .ref h), (1, .int e0), (2, .long (ck_fi (bt hd) lo hi e0 i))]) hx hb dX0_leastCoveredBy_69 hl (k := 3) rfl (nI_1 i) (by decide) rfl (fun ls hl => ?_)
      refine lv_goto (tgt := 7) hx hb dX0_leastCoveredBy_72 (by decide) ?_
      refine ih_i ls hlt_i (trivial) ?_
      have hq : lv_has ls 5 [(0, .ref h), (1, .int e0), (2, .long (ck_fi (bt hd) lo hi e0 i)), (4, .int (nI (i + 1)))] := lv_sub hl [1, 2, 3, 0] rfl
      have eq0 : (ck_fi (bt hd) lo hi e0 i) = (ck_fi (bt hd) lo hi e0 (i + 1)) := by simp [ck_fi, c_2]
      exact lv_eqq hq (by rw [← eq0])
    · have c_2 := ck_bt c_2
      refine lv_aload_n hx hb dX0_leastCoveredBy_26 rfl (lv_at hl 0 rfl) ?_
      refine lv_aload_n hx hb dX0_leastCoveredBy_27 rfl (lv_at hl 0 rfl) ?_
      refine va_get (D := D) (ci := 0) (v := .ref a1) (C := RX0) (T := TX0) (N := 6) hx hb hts hin hown hK hP 0 rfl rfl 0 (by decide) (hts (.fieldLink RX0 9 "ClockDesk" "lows" "[J") (by decide +kernel)) (fun _ h9 => h9) rfl dX0_leastCoveredBy_28 ?_
      refine lv_iload hx hb dX0_leastCoveredBy_31 (lv_at hl 3 rfl) ?_
      refine ck_lald hx hb hK hP 1 0 rfl rfl (i := i) hlt_i dX0_leastCoveredBy_33 ?_
      refine ck_cV (As := [.long (lo i)]) (rest := []) ⟨hx, hb, hml, hown, hts⟩ (c_X0_covers l D h a1 a2 c1 c2 lo hi hd ow off go (lo i)) (cwV 1 hts gX0_leastCoveredBy_X0_covers rfl rfl rfl (by decide +kernel) ⟨Nat.le_of_ble_eq_true rfl, Nat.le_of_ble_eq_true rfl⟩) hP hK (va_recv hK hP (ci := 0) (q0 := 0) rfl rfl) rfl hl.1 rfl (Nat.le_of_ble_eq_true rfl) dX0_leastCoveredBy_34 ⟨Nat.le_of_ble_eq_true rfl, Nat.le_of_ble_eq_true rfl⟩ ?_
      refine lv_iload_n hx hb dX0_leastCoveredBy_37 rfl (lv_at hl 1 rfl) ?_
      refine lv_icmp_lt (tgt := 69) hx hb dX0_leastCoveredBy_38 (by decide) (fun c_3 => ?_) (fun c_3 => ?_)
      · refine lv_iinc (v := (nI (i + 1))) (lv' := [(4, .int (nI (i + 1))), (0, .ref h), (1, .int e0), (2, .long (ck_fi (bt hd) lo hi e0 i))]) hx hb dX0_leastCoveredBy_69 hl (k := 3) rfl (nI_1 i) (by decide) rfl (fun ls hl => ?_)
        refine lv_goto (tgt := 7) hx hb dX0_leastCoveredBy_72 (by decide) ?_
        refine ih_i ls hlt_i (trivial) ?_
        have hq : lv_has ls 5 [(0, .ref h), (1, .int e0), (2, .long (ck_fi (bt hd) lo hi e0 i)), (4, .int (nI (i + 1)))] := lv_sub hl [1, 2, 3, 0] rfl
        have eq0 : (ck_fi (bt hd) lo hi e0 i) = (ck_fi (bt hd) lo hi e0 (i + 1)) := by simp [ck_fi, c_2, c_3]
        exact lv_eqq hq (by rw [← eq0])
      · refine lv_lload_n hx hb dX0_leastCoveredBy_41 rfl (lv_at hl 2 rfl) ?_
        refine lv_ldc2 (v := ck_NO) hx hb hown (hts (.constantLong RX0 46 ck_NO) (by decide +kernel)) dX0_leastCoveredBy_42 ?_
        refine W.lcmp hx hb dX0_leastCoveredBy_45 ?_
        refine lv_if_eq (tgt := 61) hx hb dX0_leastCoveredBy_46 (by decide) (fun c_4 => ?_) (fun c_4 => ?_)
        · rw [lg_cmp_eq] at c_4
          refine lv_aload_n hx hb dX0_leastCoveredBy_61 rfl (lv_at hl 0 rfl) ?_
          refine va_get (D := D) (ci := 0) (v := .ref a1) (C := RX0) (T := TX0) (N := 6) hx hb hts hin hown hK hP 0 rfl rfl 0 (by decide) (hts (.fieldLink RX0 9 "ClockDesk" "lows" "[J") (by decide +kernel)) (fun _ h9 => h9) rfl dX0_leastCoveredBy_62 ?_
          refine lv_iload hx hb dX0_leastCoveredBy_65 (lv_at hl 3 rfl) ?_
          refine ck_lald hx hb hK hP 1 0 rfl rfl (i := i) hlt_i dX0_leastCoveredBy_67 ?_
          refine lv_lstore_n (lv' := [(2, .long (lo i)), (0, .ref h), (1, .int e0), (4, .int (nI i))]) hx hb dX0_leastCoveredBy_68 rfl hl (by decide) rfl (fun ls hl => ?_)
          refine lv_iinc (v := (nI (i + 1))) (lv' := [(4, .int (nI (i + 1))), (2, .long (lo i)), (0, .ref h), (1, .int e0)]) hx hb dX0_leastCoveredBy_69 hl (k := 3) rfl (nI_1 i) (by decide) rfl (fun ls hl => ?_)
          refine lv_goto (tgt := 7) hx hb dX0_leastCoveredBy_72 (by decide) ?_
          refine ih_i ls hlt_i (trivial) ?_
          have hq : lv_has ls 5 [(0, .ref h), (1, .int e0), (2, .long (lo i)), (4, .int (nI (i + 1)))] := lv_sub hl [2, 3, 1, 0] rfl
          have eq0 : (lo i) = (ck_fi (bt hd) lo hi e0 (i + 1)) := by simp [ck_fi, c_2, c_3, c_4]
          exact lv_eqq hq (by rw [← eq0])
        · rw [lg_cmp_eq] at c_4
          refine lv_aload_n hx hb dX0_leastCoveredBy_49 rfl (lv_at hl 0 rfl) ?_
          refine va_get (D := D) (ci := 0) (v := .ref a1) (C := RX0) (T := TX0) (N := 6) hx hb hts hin hown hK hP 0 rfl rfl 0 (by decide) (hts (.fieldLink RX0 9 "ClockDesk" "lows" "[J") (by decide +kernel)) (fun _ h9 => h9) rfl dX0_leastCoveredBy_50 ?_
          refine lv_iload hx hb dX0_leastCoveredBy_53 (lv_at hl 3 rfl) ?_
          refine ck_lald hx hb hK hP 1 0 rfl rfl (i := i) hlt_i dX0_leastCoveredBy_55 ?_
          refine lv_lload_n hx hb dX0_leastCoveredBy_56 rfl (lv_at hl 2 rfl) ?_
          refine W.lcmp hx hb dX0_leastCoveredBy_57 ?_
          refine lv_if_ge (tgt := 69) hx hb dX0_leastCoveredBy_58 (by decide) (fun c_5 => ?_) (fun c_5 => ?_)
          · rw [lg_cmp_ge] at c_5
            refine lv_iinc (v := (nI (i + 1))) (lv' := [(4, .int (nI (i + 1))), (0, .ref h), (1, .int e0), (2, .long (ck_fi (bt hd) lo hi e0 i))]) hx hb dX0_leastCoveredBy_69 hl (k := 3) rfl (nI_1 i) (by decide) rfl (fun ls hl => ?_)
            refine lv_goto (tgt := 7) hx hb dX0_leastCoveredBy_72 (by decide) ?_
            refine ih_i ls hlt_i (trivial) ?_
            have hq : lv_has ls 5 [(0, .ref h), (1, .int e0), (2, .long (ck_fi (bt hd) lo hi e0 i)), (4, .int (nI (i + 1)))] := lv_sub hl [1, 2, 3, 0] rfl
            have eq0 : (ck_fi (bt hd) lo hi e0 i) = (ck_fi (bt hd) lo hi e0 (i + 1)) := by simp [ck_fi, c_2, c_3, c_4, c_5]
            exact lv_eqq hq (by rw [← eq0])
          · rw [lg_cmp_ge] at c_5
            refine lv_aload_n hx hb dX0_leastCoveredBy_61 rfl (lv_at hl 0 rfl) ?_
            refine va_get (D := D) (ci := 0) (v := .ref a1) (C := RX0) (T := TX0) (N := 6) hx hb hts hin hown hK hP 0 rfl rfl 0 (by decide) (hts (.fieldLink RX0 9 "ClockDesk" "lows" "[J") (by decide +kernel)) (fun _ h9 => h9) rfl dX0_leastCoveredBy_62 ?_
            refine lv_iload hx hb dX0_leastCoveredBy_65 (lv_at hl 3 rfl) ?_
            refine ck_lald hx hb hK hP 1 0 rfl rfl (i := i) hlt_i dX0_leastCoveredBy_67 ?_
            refine lv_lstore_n (lv' := [(2, .long (lo i)), (0, .ref h), (1, .int e0), (4, .int (nI i))]) hx hb dX0_leastCoveredBy_68 rfl hl (by decide) rfl (fun ls hl => ?_)
            refine lv_iinc (v := (nI (i + 1))) (lv' := [(4, .int (nI (i + 1))), (2, .long (lo i)), (0, .ref h), (1, .int e0)]) hx hb dX0_leastCoveredBy_69 hl (k := 3) rfl (nI_1 i) (by decide) rfl (fun ls hl => ?_)
            refine lv_goto (tgt := 7) hx hb dX0_leastCoveredBy_72 (by decide) ?_
            refine ih_i ls hlt_i (trivial) ?_
            have hq : lv_has ls 5 [(0, .ref h), (1, .int e0), (2, .long (lo i)), (4, .int (nI (i + 1)))] := lv_sub hl [2, 3, 1, 0] rfl
            have eq0 : (lo i) = (ck_fi (bt hd) lo hi e0 (i + 1)) := by simp [ck_fi, c_2, c_3, c_4, c_5]
            exact lv_eqq hq (by rw [← eq0])

set_option maxHeartbeats 4000000 in
set_option maxRecDepth 100000 in
theorem c_X0_greatestCoveredBy (l : Launch) (D : va_G) (h a1 a2 : Nat) (c1 c2 : ClassId) (lo hi : Nat → Int64) (hd : Int32) (ow off go : Int64) (e0 : Int32)  : Met l yX0_greatestCoveredBy wsX0_greatestCoveredBy { frames := 4, cells := 0, slots := 0, locals := 88 } (va_Pc [.ref h, .int e0] (ck_B D (xW h a1 a2 c1 c2 lo hi hd ow off go) (xT c1 c2))) (ck_R (.long (ck_la (bt hd) lo hi e0 24))) 0 0 (fun _ => False) := by
  refine Met.ofW (cc := cX0_greatestCoveredBy) (maxL := 5) (ret := (some .long)) (by decide) rfl ?_
  intro p e s m args below meth c s₁ B hml hv
  obtain ⟨rfl, hP, hK⟩ := hv
  have hx := B.exec
  have hb := B.bytes
  have hr := B.returns
  have hts := atoms_spec (ws := wsX0_greatestCoveredBy) B.pre
  have hown : s.vm.findClass RX0 = some m.cls := findClass_of_methodNamed B.named
  have hlocks := B.notSynchronized
  have hin : ∀ w ∈ wsX00, w ∈ wsX0_greatestCoveredBy := fun _ h => List.mem_cons_of_mem _ (List.mem_append_right _ h)
  have hl := lv_entry ([.ref h, .int e0]) (n := 5) (Nat.le_of_ble_eq_true rfl)
  rw [lg_entry_eq]
  generalize (lg_sl ([.ref h, .int e0]) ++ List.replicate (5 - (lg_sl ([.ref h, .int e0])).length) Slot.unset).toArray = ls at hl ⊢
  have hl : lv_has ls 5 [(0, .ref h), (1, .int e0)] := hl
  refine lv_ldc2 (v := ck_NO) hx hb hown (hts (.constantLong RX0 46 ck_NO) (by decide +kernel)) dX0_greatestCoveredBy_0 ?_
  refine lv_lstore_n (lv' := [(2, .long ck_NO), (0, .ref h), (1, .int e0)]) hx hb dX0_greatestCoveredBy_3 rfl hl (by decide) rfl (fun ls hl => ?_)
  refine lv_iconst (v := 0) hx hb dX0_greatestCoveredBy_4 (by decide) ?_
  refine lv_istore (lv' := [(4, .int 0), (2, .long ck_NO), (0, .ref h), (1, .int e0)]) hx hb dX0_greatestCoveredBy_5 hl (by decide) rfl (fun ls hl => ?_)
  refine ck_loop (G := fun ls => W p l e _ s m _ below meth c _ _ _ _ _ (F0 m 7 ls [])) (nL := 5) (24) (fun i => True) (fun i => [(0, .ref h), (1, .int e0), (2, .long (ck_la (bt hd) lo hi e0 i)), (4, .int (nI i))]) (fun i hle_i hj_i ih_i ls hl => ?_) ls (trivial) ?_
  rotate_left
  · have hq : lv_has ls 5 [(0, .ref h), (1, .int e0), (2, .long ck_NO), (4, .int 0)] := lv_sub hl [2, 3, 1, 0] rfl
    exact hq
  have hl : lv_has ls 5 [(0, .ref h), (1, .int e0), (2, .long (ck_la (bt hd) lo hi e0 i)), (4, .int (nI i))] := hl
  refine lv_iload hx hb dX0_greatestCoveredBy_7 (lv_at hl 3 rfl) ?_
  refine lv_bipush (v := 24) hx hb dX0_greatestCoveredBy_9 (by decide) ?_
  refine lv_icmp_ge (tgt := 59) hx hb dX0_greatestCoveredBy_11 (by decide) (fun c_1 => ?_) (fun c_1 => ?_)
  · have heq_i : i = 24 := ck_eqN hle_i c_1
    subst heq_i
    have hl : lv_has ls 5 [(0, .ref h), (1, .int e0), (2, .long (ck_la (bt hd) lo hi e0 24)), (4, .int (nI 24))] := hl
    refine lv_lload_n hx hb dX0_greatestCoveredBy_59 rfl (lv_at hl 2 rfl) ?_
    have hres : (ck_la (bt hd) lo hi e0 24) = (ck_la (bt hd) lo hi e0 24) := by rfl
    exact W.lret (v := (ck_la (bt hd) lo hi e0 24)) hx hb hr (fun t ht _ => ⟨congrArg (fun z => Outcome.returned (some (Value.long z))) hres, ht⟩) (fun _ h => nomatch h) dX0_greatestCoveredBy_60
  · have hlt_i : i < 24 := ck_ltN hle_i c_1
    refine lv_aload_n hx hb dX0_greatestCoveredBy_14 rfl (lv_at hl 0 rfl) ?_
    refine va_get (D := D) (ci := 0) (v := .int hd) (C := RX0) (T := TX0) (N := 6) hx hb hts hin hown hK hP 0 rfl rfl 2 (by decide) (hts (.fieldLink RX0 16 "ClockDesk" "held" "I") (by decide +kernel)) (fun _ h9 => h9) rfl dX0_greatestCoveredBy_15 ?_
    refine lv_iload hx hb dX0_greatestCoveredBy_18 (lv_at hl 3 rfl) ?_
    refine ck_cS (As := [.int hd, .int (nI i)]) (rest := []) ⟨hx, hb, hml, hown, hts⟩ (c_X0_isInN l hd i hlt_i) (va_cwS 2 hts gX0_greatestCoveredBy_X0_isIn rfl rfl rfl (by decide +kernel) ⟨Nat.le_of_ble_eq_true rfl, Nat.le_of_ble_eq_true rfl⟩) rfl hl.1 rfl (Nat.le_of_ble_eq_true rfl) dX0_greatestCoveredBy_20 ⟨Nat.le_of_ble_eq_true rfl, Nat.le_of_ble_eq_true rfl⟩ ?_
    refine lv_if_eq (tgt := 53) hx hb dX0_greatestCoveredBy_23 (by decide) (fun c_2 => ?_) (fun c_2 => ?_)
    · have c_2 := ck_bf c_2
      refine lv_iinc (v := (nI (i + 1))) (lv' := [(4, .int (nI (i + 1))), (0, .ref h), (1, .int e0), (2, .long (ck_la (bt hd) lo hi e0 i))]) hx hb dX0_greatestCoveredBy_53 hl (k := 3) rfl (nI_1 i) (by decide) rfl (fun ls hl => ?_)
      refine lv_goto (tgt := 7) hx hb dX0_greatestCoveredBy_56 (by decide) ?_
      refine ih_i ls hlt_i (trivial) ?_
      have hq : lv_has ls 5 [(0, .ref h), (1, .int e0), (2, .long (ck_la (bt hd) lo hi e0 i)), (4, .int (nI (i + 1)))] := lv_sub hl [1, 2, 3, 0] rfl
      have eq0 : (ck_la (bt hd) lo hi e0 i) = (ck_la (bt hd) lo hi e0 (i + 1)) := by simp [ck_la, c_2]
      exact lv_eqq hq (by rw [← eq0])
    · have c_2 := ck_bt c_2
      refine lv_aload_n hx hb dX0_greatestCoveredBy_26 rfl (lv_at hl 0 rfl) ?_
      refine lv_aload_n hx hb dX0_greatestCoveredBy_27 rfl (lv_at hl 0 rfl) ?_
      refine va_get (D := D) (ci := 0) (v := .ref a2) (C := RX0) (T := TX0) (N := 6) hx hb hts hin hown hK hP 0 rfl rfl 1 (by decide) (hts (.fieldLink RX0 13 "ClockDesk" "highs" "[J") (by decide +kernel)) (fun _ h9 => h9) rfl dX0_greatestCoveredBy_28 ?_
      refine lv_iload hx hb dX0_greatestCoveredBy_31 (lv_at hl 3 rfl) ?_
      refine ck_lald hx hb hK hP 2 1 rfl rfl (i := i) hlt_i dX0_greatestCoveredBy_33 ?_
      refine ck_cV (As := [.long (hi i)]) (rest := []) ⟨hx, hb, hml, hown, hts⟩ (c_X0_covers l D h a1 a2 c1 c2 lo hi hd ow off go (hi i)) (cwV 1 hts gX0_greatestCoveredBy_X0_covers rfl rfl rfl (by decide +kernel) ⟨Nat.le_of_ble_eq_true rfl, Nat.le_of_ble_eq_true rfl⟩) hP hK (va_recv hK hP (ci := 0) (q0 := 0) rfl rfl) rfl hl.1 rfl (Nat.le_of_ble_eq_true rfl) dX0_greatestCoveredBy_34 ⟨Nat.le_of_ble_eq_true rfl, Nat.le_of_ble_eq_true rfl⟩ ?_
      refine lv_iload_n hx hb dX0_greatestCoveredBy_37 rfl (lv_at hl 1 rfl) ?_
      refine lv_icmp_lt (tgt := 53) hx hb dX0_greatestCoveredBy_38 (by decide) (fun c_3 => ?_) (fun c_3 => ?_)
      · refine lv_iinc (v := (nI (i + 1))) (lv' := [(4, .int (nI (i + 1))), (0, .ref h), (1, .int e0), (2, .long (ck_la (bt hd) lo hi e0 i))]) hx hb dX0_greatestCoveredBy_53 hl (k := 3) rfl (nI_1 i) (by decide) rfl (fun ls hl => ?_)
        refine lv_goto (tgt := 7) hx hb dX0_greatestCoveredBy_56 (by decide) ?_
        refine ih_i ls hlt_i (trivial) ?_
        have hq : lv_has ls 5 [(0, .ref h), (1, .int e0), (2, .long (ck_la (bt hd) lo hi e0 i)), (4, .int (nI (i + 1)))] := lv_sub hl [1, 2, 3, 0] rfl
        have eq0 : (ck_la (bt hd) lo hi e0 i) = (ck_la (bt hd) lo hi e0 (i + 1)) := by simp [ck_la, c_2, c_3]
        exact lv_eqq hq (by rw [← eq0])
      · refine lv_lload_n hx hb dX0_greatestCoveredBy_41 rfl (lv_at hl 2 rfl) ?_
        refine lv_aload_n hx hb dX0_greatestCoveredBy_42 rfl (lv_at hl 0 rfl) ?_
        refine va_get (D := D) (ci := 0) (v := .ref a2) (C := RX0) (T := TX0) (N := 6) hx hb hts hin hown hK hP 0 rfl rfl 1 (by decide) (hts (.fieldLink RX0 13 "ClockDesk" "highs" "[J") (by decide +kernel)) (fun _ h9 => h9) rfl dX0_greatestCoveredBy_43 ?_
        refine lv_iload hx hb dX0_greatestCoveredBy_46 (lv_at hl 3 rfl) ?_
        refine ck_lald hx hb hK hP 2 1 rfl rfl (i := i) hlt_i dX0_greatestCoveredBy_48 ?_
        refine ck_mmax hx hb (hml.trans hl.1.symm) hown (hts (.methodLink RX0 131 Lib.MathLoose.max_long.x) (by decide +kernel)) (hts (.static Lib.MathLoose.max_long.x) (by decide +kernel)) (hts (.initialized "java/lang/Math") (by decide +kernel)) (hts (.code Lib.MathLoose.max_long.x Lib.MathLoose.max_long.code 4 (some .long)) (by decide +kernel)) (Nat.le_of_ble_eq_true rfl) (Nat.le_of_ble_eq_true rfl) (Nat.le_of_ble_eq_true rfl) (Nat.le_of_ble_eq_true rfl) dX0_greatestCoveredBy_49 ?_
        refine lv_lstore_n (lv' := [(2, .long (ck_max (ck_la (bt hd) lo hi e0 i) (hi i))), (0, .ref h), (1, .int e0), (4, .int (nI i))]) hx hb dX0_greatestCoveredBy_52 rfl hl (by decide) rfl (fun ls hl => ?_)
        refine lv_iinc (v := (nI (i + 1))) (lv' := [(4, .int (nI (i + 1))), (2, .long (ck_max (ck_la (bt hd) lo hi e0 i) (hi i))), (0, .ref h), (1, .int e0)]) hx hb dX0_greatestCoveredBy_53 hl (k := 3) rfl (nI_1 i) (by decide) rfl (fun ls hl => ?_)
        refine lv_goto (tgt := 7) hx hb dX0_greatestCoveredBy_56 (by decide) ?_
        refine ih_i ls hlt_i (trivial) ?_
        have hq : lv_has ls 5 [(0, .ref h), (1, .int e0), (2, .long (ck_max (ck_la (bt hd) lo hi e0 i) (hi i))), (4, .int (nI (i + 1)))] := lv_sub hl [2, 3, 1, 0] rfl
        have eq0 : (ck_max (ck_la (bt hd) lo hi e0 i) (hi i)) = (ck_la (bt hd) lo hi e0 (i + 1)) := by simp [ck_la, c_2, c_3]
        exact lv_eqq hq (by rw [← eq0])

set_option maxHeartbeats 4000000 in
set_option maxRecDepth 100000 in
theorem c_X0_firstHighFrom (l : Launch) (D : va_G) (h a1 a2 : Nat) (c1 c2 : ClassId) (lo hi : Nat → Int64) (hd : Int32) (ow off go : Int64) (p0 : Int64)  : Met l yX0_firstHighFrom wsX0_firstHighFrom { frames := 3, cells := 0, slots := 0, locals := 64 } (va_Pc [.ref h, .long p0] (ck_B D (xW h a1 a2 c1 c2 lo hi hd ow off go) (xT c1 c2))) (ck_R (.long (ck_fh (bt hd) lo hi p0 24))) 0 0 (fun _ => False) := by
  refine Met.ofW (cc := cX0_firstHighFrom) (maxL := 6) (ret := (some .long)) (by decide) rfl ?_
  intro p e s m args below meth c s₁ B hml hv
  obtain ⟨rfl, hP, hK⟩ := hv
  have hx := B.exec
  have hb := B.bytes
  have hr := B.returns
  have hts := atoms_spec (ws := wsX0_firstHighFrom) B.pre
  have hown : s.vm.findClass RX0 = some m.cls := findClass_of_methodNamed B.named
  have hlocks := B.notSynchronized
  have hin : ∀ w ∈ wsX00, w ∈ wsX0_firstHighFrom := fun _ h => List.mem_cons_of_mem _ (List.mem_append_right _ h)
  have hl := lv_entry ([.ref h, .long p0]) (n := 6) (Nat.le_of_ble_eq_true rfl)
  rw [lg_entry_eq]
  generalize (lg_sl ([.ref h, .long p0]) ++ List.replicate (6 - (lg_sl ([.ref h, .long p0])).length) Slot.unset).toArray = ls at hl ⊢
  have hl : lv_has ls 6 [(0, .ref h), (1, .long p0)] := hl
  refine lv_ldc2 (v := ck_FAR) hx hb hown (hts (.constantLong RX0 36 ck_FAR) (by decide +kernel)) dX0_firstHighFrom_0 ?_
  refine lv_lstore_n (lv' := [(3, .long ck_FAR), (0, .ref h), (1, .long p0)]) hx hb dX0_firstHighFrom_3 rfl hl (by decide) rfl (fun ls hl => ?_)
  refine lv_iconst (v := 0) hx hb dX0_firstHighFrom_4 (by decide) ?_
  refine lv_istore (lv' := [(5, .int 0), (3, .long ck_FAR), (0, .ref h), (1, .long p0)]) hx hb dX0_firstHighFrom_5 hl (by decide) rfl (fun ls hl => ?_)
  refine ck_loop (G := fun ls => W p l e _ s m _ below meth c _ _ _ _ _ (F0 m 7 ls [])) (nL := 6) (24) (fun i => True) (fun i => [(0, .ref h), (1, .long p0), (3, .long (ck_fh (bt hd) lo hi p0 i)), (5, .int (nI i))]) (fun i hle_i hj_i ih_i ls hl => ?_) ls (trivial) ?_
  rotate_left
  · have hq : lv_has ls 6 [(0, .ref h), (1, .long p0), (3, .long ck_FAR), (5, .int 0)] := lv_sub hl [2, 3, 1, 0] rfl
    exact hq
  have hl : lv_has ls 6 [(0, .ref h), (1, .long p0), (3, .long (ck_fh (bt hd) lo hi p0 i)), (5, .int (nI i))] := hl
  refine lv_iload hx hb dX0_firstHighFrom_7 (lv_at hl 3 rfl) ?_
  refine lv_bipush (v := 24) hx hb dX0_firstHighFrom_9 (by decide) ?_
  refine lv_icmp_ge (tgt := 42) hx hb dX0_firstHighFrom_11 (by decide) (fun c_1 => ?_) (fun c_1 => ?_)
  · have heq_i : i = 24 := ck_eqN hle_i c_1
    subst heq_i
    have hl : lv_has ls 6 [(0, .ref h), (1, .long p0), (3, .long (ck_fh (bt hd) lo hi p0 24)), (5, .int (nI 24))] := hl
    refine lv_lload_n hx hb dX0_firstHighFrom_42 rfl (lv_at hl 2 rfl) ?_
    have hres : (ck_fh (bt hd) lo hi p0 24) = (ck_fh (bt hd) lo hi p0 24) := by rfl
    exact W.lret (v := (ck_fh (bt hd) lo hi p0 24)) hx hb hr (fun t ht _ => ⟨congrArg (fun z => Outcome.returned (some (Value.long z))) hres, ht⟩) (fun _ h => nomatch h) dX0_firstHighFrom_43
  · have hlt_i : i < 24 := ck_ltN hle_i c_1
    refine lv_aload_n hx hb dX0_firstHighFrom_14 rfl (lv_at hl 0 rfl) ?_
    refine lv_iload hx hb dX0_firstHighFrom_15 (lv_at hl 3 rfl) ?_
    refine lv_lload_n hx hb dX0_firstHighFrom_17 rfl (lv_at hl 1 rfl) ?_
    refine ck_cV (As := [.int (nI i), .long p0]) (rest := []) ⟨hx, hb, hml, hown, hts⟩ (c_X0_isCoveredBy l D h a1 a2 c1 c2 lo hi hd ow off go p0 i hlt_i) (cwV 2 hts gX0_firstHighFrom_X0_isCoveredBy rfl rfl rfl (by decide +kernel) ⟨Nat.le_of_ble_eq_true rfl, Nat.le_of_ble_eq_true rfl⟩) hP hK (va_recv hK hP (ci := 0) (q0 := 0) rfl rfl) rfl hl.1 rfl (Nat.le_of_ble_eq_true rfl) dX0_firstHighFrom_18 ⟨Nat.le_of_ble_eq_true rfl, Nat.le_of_ble_eq_true rfl⟩ ?_
    refine lv_if_eq (tgt := 36) hx hb dX0_firstHighFrom_21 (by decide) (fun c_2 => ?_) (fun c_2 => ?_)
    · have c_2 := ck_bf c_2
      refine lv_iinc (v := (nI (i + 1))) (lv' := [(5, .int (nI (i + 1))), (0, .ref h), (1, .long p0), (3, .long (ck_fh (bt hd) lo hi p0 i))]) hx hb dX0_firstHighFrom_36 hl (k := 3) rfl (nI_1 i) (by decide) rfl (fun ls hl => ?_)
      refine lv_goto (tgt := 7) hx hb dX0_firstHighFrom_39 (by decide) ?_
      refine ih_i ls hlt_i (trivial) ?_
      have hq : lv_has ls 6 [(0, .ref h), (1, .long p0), (3, .long (ck_fh (bt hd) lo hi p0 i)), (5, .int (nI (i + 1)))] := lv_sub hl [1, 2, 3, 0] rfl
      have eq0 : (ck_fh (bt hd) lo hi p0 i) = (ck_fh (bt hd) lo hi p0 (i + 1)) := by simp [ck_fh, c_2]
      exact lv_eqq hq (by rw [← eq0])
    · have c_2 := ck_bt c_2
      refine lv_lload_n hx hb dX0_firstHighFrom_24 rfl (lv_at hl 2 rfl) ?_
      refine lv_aload_n hx hb dX0_firstHighFrom_25 rfl (lv_at hl 0 rfl) ?_
      refine va_get (D := D) (ci := 0) (v := .ref a2) (C := RX0) (T := TX0) (N := 6) hx hb hts hin hown hK hP 0 rfl rfl 1 (by decide) (hts (.fieldLink RX0 13 "ClockDesk" "highs" "[J") (by decide +kernel)) (fun _ h9 => h9) rfl dX0_firstHighFrom_26 ?_
      refine lv_iload hx hb dX0_firstHighFrom_29 (lv_at hl 3 rfl) ?_
      refine ck_lald hx hb hK hP 2 1 rfl rfl (i := i) hlt_i dX0_firstHighFrom_31 ?_
      refine ck_mmin hx hb (hml.trans hl.1.symm) hown (hts (.methodLink RX0 127 Lib.MathLoose.min_long.x) (by decide +kernel)) (hts (.static Lib.MathLoose.min_long.x) (by decide +kernel)) (hts (.initialized "java/lang/Math") (by decide +kernel)) (hts (.code Lib.MathLoose.min_long.x Lib.MathLoose.min_long.code 4 (some .long)) (by decide +kernel)) (Nat.le_of_ble_eq_true rfl) (Nat.le_of_ble_eq_true rfl) (Nat.le_of_ble_eq_true rfl) (Nat.le_of_ble_eq_true rfl) dX0_firstHighFrom_32 ?_
      refine lv_lstore_n (lv' := [(3, .long (ck_min (ck_fh (bt hd) lo hi p0 i) (hi i))), (0, .ref h), (1, .long p0), (5, .int (nI i))]) hx hb dX0_firstHighFrom_35 rfl hl (by decide) rfl (fun ls hl => ?_)
      refine lv_iinc (v := (nI (i + 1))) (lv' := [(5, .int (nI (i + 1))), (3, .long (ck_min (ck_fh (bt hd) lo hi p0 i) (hi i))), (0, .ref h), (1, .long p0)]) hx hb dX0_firstHighFrom_36 hl (k := 3) rfl (nI_1 i) (by decide) rfl (fun ls hl => ?_)
      refine lv_goto (tgt := 7) hx hb dX0_firstHighFrom_39 (by decide) ?_
      refine ih_i ls hlt_i (trivial) ?_
      have hq : lv_has ls 6 [(0, .ref h), (1, .long p0), (3, .long (ck_min (ck_fh (bt hd) lo hi p0 i) (hi i))), (5, .int (nI (i + 1)))] := lv_sub hl [2, 3, 1, 0] rfl
      have eq0 : (ck_min (ck_fh (bt hd) lo hi p0 i) (hi i)) = (ck_fh (bt hd) lo hi p0 (i + 1)) := by simp [ck_fh, c_2]
      exact lv_eqq hq (by rw [← eq0])

set_option maxHeartbeats 4000000 in
set_option maxRecDepth 100000 in
theorem c_X0_endOfRow (l : Launch) (D : va_G) (h a1 a2 : Nat) (c1 c2 : ClassId) (lo hi : Nat → Int64) (hd : Int32) (ow off go : Int64) (f0 : Int64) (mo : Int32)  : Met l yX0_endOfRow wsX0_endOfRow { frames := 4, cells := 0, slots := 0, locals := 89 } (va_Pc [.ref h, .long f0, .int mo] (ck_B D (xW h a1 a2 c1 c2 lo hi hd ow off go) (xT c1 c2))) (ck_R (.long (ck_er (bt hd) lo hi f0 mo 24))) 0 0 (fun _ => False) := by
  refine Met.ofW (cc := cX0_endOfRow) (maxL := 7) (ret := (some .long)) (by decide) rfl ?_
  intro p e s m args below meth c s₁ B hml hv
  obtain ⟨rfl, hP, hK⟩ := hv
  have hx := B.exec
  have hb := B.bytes
  have hr := B.returns
  have hts := atoms_spec (ws := wsX0_endOfRow) B.pre
  have hown : s.vm.findClass RX0 = some m.cls := findClass_of_methodNamed B.named
  have hlocks := B.notSynchronized
  have hin : ∀ w ∈ wsX00, w ∈ wsX0_endOfRow := fun _ h => List.mem_cons_of_mem _ (List.mem_append_right _ h)
  have hl := lv_entry ([.ref h, .long f0, .int mo]) (n := 7) (Nat.le_of_ble_eq_true rfl)
  rw [lg_entry_eq]
  generalize (lg_sl ([.ref h, .long f0, .int mo]) ++ List.replicate (7 - (lg_sl ([.ref h, .long f0, .int mo])).length) Slot.unset).toArray = ls at hl ⊢
  have hl : lv_has ls 7 [(0, .ref h), (1, .long f0), (3, .int mo)] := hl
  refine lv_aload_n hx hb dX0_endOfRow_0 rfl (lv_at hl 0 rfl) ?_
  refine lv_lload_n hx hb dX0_endOfRow_1 rfl (lv_at hl 1 rfl) ?_
  refine ck_cV (As := [.long f0]) (rest := []) ⟨hx, hb, hml, hown, hts⟩ (c_X0_firstHighFrom l D h a1 a2 c1 c2 lo hi hd ow off go f0) (cwV 1 hts gX0_endOfRow_X0_firstHighFrom rfl rfl rfl (by decide +kernel) ⟨Nat.le_of_ble_eq_true rfl, Nat.le_of_ble_eq_true rfl⟩) hP hK (va_recv hK hP (ci := 0) (q0 := 0) rfl rfl) rfl hl.1 rfl (Nat.le_of_ble_eq_true rfl) dX0_endOfRow_2 ⟨Nat.le_of_ble_eq_true rfl, Nat.le_of_ble_eq_true rfl⟩ ?_
  refine lv_lstore (lv' := [(4, .long (ck_fh (bt hd) lo hi f0 24)), (0, .ref h), (1, .long f0), (3, .int mo)]) hx hb dX0_endOfRow_5 hl (by decide) rfl (fun ls hl => ?_)
  refine lv_iconst (v := 0) hx hb dX0_endOfRow_7 (by decide) ?_
  refine lv_istore (lv' := [(6, .int 0), (4, .long (ck_fh (bt hd) lo hi f0 24)), (0, .ref h), (1, .long f0), (3, .int mo)]) hx hb dX0_endOfRow_8 hl (by decide) rfl (fun ls hl => ?_)
  refine ck_loop (G := fun ls => W p l e _ s m _ below meth c _ _ _ _ _ (F0 m 10 ls [])) (nL := 7) (24) (fun i => True) (fun i => [(0, .ref h), (1, .long f0), (3, .int mo), (4, .long (ck_er (bt hd) lo hi f0 mo i)), (6, .int (nI i))]) (fun i hle_i hj_i ih_i ls hl => ?_) ls (trivial) ?_
  rotate_left
  · have hq : lv_has ls 7 [(0, .ref h), (1, .long f0), (3, .int mo), (4, .long (ck_fh (bt hd) lo hi f0 24)), (6, .int 0)] := lv_sub hl [2, 3, 4, 1, 0] rfl
    exact hq
  have hl : lv_has ls 7 [(0, .ref h), (1, .long f0), (3, .int mo), (4, .long (ck_er (bt hd) lo hi f0 mo i)), (6, .int (nI i))] := hl
  refine lv_iload hx hb dX0_endOfRow_10 (lv_at hl 4 rfl) ?_
  refine lv_bipush (v := 24) hx hb dX0_endOfRow_12 (by decide) ?_
  refine lv_icmp_ge (tgt := 45) hx hb dX0_endOfRow_14 (by decide) (fun c_1 => ?_) (fun c_1 => ?_)
  · have heq_i : i = 24 := ck_eqN hle_i c_1
    subst heq_i
    have hl : lv_has ls 7 [(0, .ref h), (1, .long f0), (3, .int mo), (4, .long (ck_er (bt hd) lo hi f0 mo 24)), (6, .int (nI 24))] := hl
    refine lv_lload hx hb dX0_endOfRow_45 (lv_at hl 3 rfl) ?_
    have hres : (ck_er (bt hd) lo hi f0 mo 24) = (ck_er (bt hd) lo hi f0 mo 24) := by rfl
    exact W.lret (v := (ck_er (bt hd) lo hi f0 mo 24)) hx hb hr (fun t ht _ => ⟨congrArg (fun z => Outcome.returned (some (Value.long z))) hres, ht⟩) (fun _ h => nomatch h) dX0_endOfRow_47
  · have hlt_i : i < 24 := ck_ltN hle_i c_1
    refine lv_aload_n hx hb dX0_endOfRow_17 rfl (lv_at hl 0 rfl) ?_
    refine lv_lload hx hb dX0_endOfRow_18 (lv_at hl 3 rfl) ?_
    refine lv_lconst (v := 1) hx hb dX0_endOfRow_20 (by decide) ?_
    refine lv_ladd hx hb dX0_endOfRow_21 ?_
    refine ck_cV (As := [.long ((ck_er (bt hd) lo hi f0 mo i) + 1)]) (rest := []) ⟨hx, hb, hml, hown, hts⟩ (c_X0_covers l D h a1 a2 c1 c2 lo hi hd ow off go ((ck_er (bt hd) lo hi f0 mo i) + 1)) (cwV 1 hts gX0_endOfRow_X0_covers rfl rfl rfl (by decide +kernel) ⟨Nat.le_of_ble_eq_true rfl, Nat.le_of_ble_eq_true rfl⟩) hP hK (va_recv hK hP (ci := 0) (q0 := 0) rfl rfl) rfl hl.1 rfl (Nat.le_of_ble_eq_true rfl) dX0_endOfRow_22 ⟨Nat.le_of_ble_eq_true rfl, Nat.le_of_ble_eq_true rfl⟩ ?_
    refine lv_iload_n hx hb dX0_endOfRow_25 rfl (lv_at hl 2 rfl) ?_
    refine lv_icmp_ne (tgt := 45) hx hb dX0_endOfRow_26 (by decide) (fun c_2 => ?_) (fun c_2 => ?_)
    · refine lv_lload hx hb dX0_endOfRow_45 (lv_at hl 3 rfl) ?_
      have hres : (ck_er (bt hd) lo hi f0 mo i) = (ck_er (bt hd) lo hi f0 mo 24) := by exact ck_er_stop c_2 hle_i
      exact W.lret (v := (ck_er (bt hd) lo hi f0 mo i)) hx hb hr (fun t ht _ => ⟨congrArg (fun z => Outcome.returned (some (Value.long z))) hres, ht⟩) (fun _ h => nomatch h) dX0_endOfRow_47
    · refine lv_aload_n hx hb dX0_endOfRow_29 rfl (lv_at hl 0 rfl) ?_
      refine lv_lload hx hb dX0_endOfRow_30 (lv_at hl 3 rfl) ?_
      refine lv_lconst (v := 1) hx hb dX0_endOfRow_32 (by decide) ?_
      refine lv_ladd hx hb dX0_endOfRow_33 ?_
      refine ck_cV (As := [.long ((ck_er (bt hd) lo hi f0 mo i) + 1)]) (rest := []) ⟨hx, hb, hml, hown, hts⟩ (c_X0_firstHighFrom l D h a1 a2 c1 c2 lo hi hd ow off go ((ck_er (bt hd) lo hi f0 mo i) + 1)) (cwV 1 hts gX0_endOfRow_X0_firstHighFrom rfl rfl rfl (by decide +kernel) ⟨Nat.le_of_ble_eq_true rfl, Nat.le_of_ble_eq_true rfl⟩) hP hK (va_recv hK hP (ci := 0) (q0 := 0) rfl rfl) rfl hl.1 rfl (Nat.le_of_ble_eq_true rfl) dX0_endOfRow_34 ⟨Nat.le_of_ble_eq_true rfl, Nat.le_of_ble_eq_true rfl⟩ ?_
      refine lv_lstore (lv' := [(4, .long (ck_fh (bt hd) lo hi ((ck_er (bt hd) lo hi f0 mo i) + 1) 24)), (0, .ref h), (1, .long f0), (3, .int mo), (6, .int (nI i))]) hx hb dX0_endOfRow_37 hl (by decide) rfl (fun ls hl => ?_)
      refine lv_iinc (v := (nI (i + 1))) (lv' := [(6, .int (nI (i + 1))), (4, .long (ck_fh (bt hd) lo hi ((ck_er (bt hd) lo hi f0 mo i) + 1) 24)), (0, .ref h), (1, .long f0), (3, .int mo)]) hx hb dX0_endOfRow_39 hl (k := 4) rfl (nI_1 i) (by decide) rfl (fun ls hl => ?_)
      refine lv_goto (tgt := 10) hx hb dX0_endOfRow_42 (by decide) ?_
      refine ih_i ls hlt_i (trivial) ?_
      have hq : lv_has ls 7 [(0, .ref h), (1, .long f0), (3, .int mo), (4, .long (ck_fh (bt hd) lo hi ((ck_er (bt hd) lo hi f0 mo i) + 1) 24)), (6, .int (nI (i + 1)))] := lv_sub hl [2, 3, 4, 1, 0] rfl
      have eq0 : (ck_fh (bt hd) lo hi ((ck_er (bt hd) lo hi f0 mo i) + 1) 24) = (ck_er (bt hd) lo hi f0 mo (i + 1)) := by simp [ck_er, c_2]
      exact lv_eqq hq (by rw [← eq0])

set_option maxHeartbeats 4000000 in
set_option maxRecDepth 100000 in
theorem c_X0_region (l : Launch) (D : va_G) (h a1 a2 : Nat) (c1 c2 : ClassId) (lo hi : Nat → Int64) (hd : Int32) (ow off go : Int64) (en : Int32)  : Met l yX0_region wsX0_region { frames := 5, cells := 0, slots := 0, locals := 115 } (va_Pc [.ref h, .int en] (ck_B D (xW h a1 a2 c1 c2 lo hi hd ow off go) (xT c1 c2))) (ck_R (.long (ck_rg hd lo hi en))) 0 0 (fun _ => False) := by
  refine Met.ofW (cc := cX0_region) (maxL := 5) (ret := (some .long)) (by decide) rfl ?_
  intro p e s m args below meth c s₁ B hml hv
  obtain ⟨rfl, hP, hK⟩ := hv
  have hx := B.exec
  have hb := B.bytes
  have hr := B.returns
  have hts := atoms_spec (ws := wsX0_region) B.pre
  have hown : s.vm.findClass RX0 = some m.cls := findClass_of_methodNamed B.named
  have hlocks := B.notSynchronized
  have hin : ∀ w ∈ wsX00, w ∈ wsX0_region := fun _ h => List.mem_cons_of_mem _ (List.mem_append_right _ h)
  have hl := lv_entry ([.ref h, .int en]) (n := 5) (Nat.le_of_ble_eq_true rfl)
  rw [lg_entry_eq]
  generalize (lg_sl ([.ref h, .int en]) ++ List.replicate (5 - (lg_sl ([.ref h, .int en])).length) Slot.unset).toArray = ls at hl ⊢
  have hl : lv_has ls 5 [(0, .ref h), (1, .int en)] := hl
  refine lv_aload_n hx hb dX0_region_0 rfl (lv_at hl 0 rfl) ?_
  refine va_get (D := D) (ci := 0) (v := .int hd) (C := RX0) (T := TX0) (N := 6) hx hb hts hin hown hK hP 0 rfl rfl 2 (by decide) (hts (.fieldLink RX0 16 "ClockDesk" "held" "I") (by decide +kernel)) (fun _ h9 => h9) rfl dX0_region_1 ?_
  refine lv_if_eq (tgt := 14) hx hb dX0_region_4 (by decide) (fun c_1 => ?_) (fun c_1 => ?_)
  · refine lv_ldc2 (v := ck_NO) hx hb hown (hts (.constantLong RX0 46 ck_NO) (by decide +kernel)) dX0_region_14 ?_
    have hres : ck_NO = (ck_rg hd lo hi en) := by first | (simp [ck_rg, c_1]; done) | simp [ck_rg, ck_zo, c_1]
    exact W.lret (v := ck_NO) hx hb hr (fun t ht _ => ⟨congrArg (fun z => Outcome.returned (some (Value.long z))) hres, ht⟩) (fun _ h => nomatch h) dX0_region_17
  · refine lv_iload_n hx hb dX0_region_7 rfl (lv_at hl 1 rfl) ?_
    refine ck_cS (As := [.int en]) (rest := []) ⟨hx, hb, hml, hown, hts⟩ (c_X0_isZeroOrOne l en) (va_cwS 1 hts gX0_region_X0_isZeroOrOne rfl rfl rfl (by decide +kernel) ⟨Nat.le_of_ble_eq_true rfl, Nat.le_of_ble_eq_true rfl⟩) rfl hl.1 rfl (Nat.le_of_ble_eq_true rfl) dX0_region_8 ⟨Nat.le_of_ble_eq_true rfl, Nat.le_of_ble_eq_true rfl⟩ ?_
    refine lv_if_ne (tgt := 18) hx hb dX0_region_11 (by decide) (fun c_2 => ?_) (fun c_2 => ?_)
    · have c_2 := ck_bt c_2
      refine lv_aload_n hx hb dX0_region_18 rfl (lv_at hl 0 rfl) ?_
      refine ck_cV (As := []) (rest := []) ⟨hx, hb, hml, hown, hts⟩ (c_X0_greatest l D h a1 a2 c1 c2 lo hi hd ow off go ) (cwV 0 hts gX0_region_X0_greatest rfl rfl rfl (by decide +kernel) ⟨Nat.le_of_ble_eq_true rfl, Nat.le_of_ble_eq_true rfl⟩) hP hK (va_recv hK hP (ci := 0) (q0 := 0) rfl rfl) rfl hl.1 rfl (Nat.le_of_ble_eq_true rfl) dX0_region_19 ⟨Nat.le_of_ble_eq_true rfl, Nat.le_of_ble_eq_true rfl⟩ ?_
      refine lv_istore_n (lv' := [(2, .int (ck_gr (bt hd) lo hi 24)), (0, .ref h), (1, .int en)]) hx hb dX0_region_22 rfl hl (by decide) rfl (fun ls hl => ?_)
      refine lv_aload_n hx hb dX0_region_23 rfl (lv_at hl 1 rfl) ?_
      refine lv_iload_n hx hb dX0_region_24 rfl (lv_at hl 0 rfl) ?_
      refine ck_cV (As := [.int (ck_gr (bt hd) lo hi 24)]) (rest := []) ⟨hx, hb, hml, hown, hts⟩ (c_X0_leastCoveredBy l D h a1 a2 c1 c2 lo hi hd ow off go (ck_gr (bt hd) lo hi 24)) (cwV 1 hts gX0_region_X0_leastCoveredBy rfl rfl rfl (by decide +kernel) ⟨Nat.le_of_ble_eq_true rfl, Nat.le_of_ble_eq_true rfl⟩) hP hK (va_recv hK hP (ci := 0) (q0 := 0) rfl rfl) rfl hl.1 rfl (Nat.le_of_ble_eq_true rfl) dX0_region_25 ⟨Nat.le_of_ble_eq_true rfl, Nat.le_of_ble_eq_true rfl⟩ ?_
      refine lv_lstore_n (lv' := [(3, .long (ck_fi (bt hd) lo hi (ck_gr (bt hd) lo hi 24) 24)), (2, .int (ck_gr (bt hd) lo hi 24)), (0, .ref h), (1, .int en)]) hx hb dX0_region_28 rfl hl (by decide) rfl (fun ls hl => ?_)
      refine lv_iload_n hx hb dX0_region_29 rfl (lv_at hl 3 rfl) ?_
      refine lv_if_ne (tgt := 37) hx hb dX0_region_30 (by decide) (fun c_3 => ?_) (fun c_3 => ?_)
      · refine lv_aload_n hx hb dX0_region_37 rfl (lv_at hl 2 rfl) ?_
        refine lv_lload_n hx hb dX0_region_38 rfl (lv_at hl 0 rfl) ?_
        refine lv_iload_n hx hb dX0_region_39 rfl (lv_at hl 1 rfl) ?_
        refine ck_cV (As := [.long (ck_fi (bt hd) lo hi (ck_gr (bt hd) lo hi 24) 24), .int (ck_gr (bt hd) lo hi 24)]) (rest := []) ⟨hx, hb, hml, hown, hts⟩ (c_X0_endOfRow l D h a1 a2 c1 c2 lo hi hd ow off go (ck_fi (bt hd) lo hi (ck_gr (bt hd) lo hi 24) 24) (ck_gr (bt hd) lo hi 24)) (cwV 2 hts gX0_region_X0_endOfRow rfl rfl rfl (by decide +kernel) ⟨Nat.le_of_ble_eq_true rfl, Nat.le_of_ble_eq_true rfl⟩) hP hK (va_recv hK hP (ci := 0) (q0 := 0) rfl rfl) rfl hl.1 rfl (Nat.le_of_ble_eq_true rfl) dX0_region_40 ⟨Nat.le_of_ble_eq_true rfl, Nat.le_of_ble_eq_true rfl⟩ ?_
        have hres : (ck_er (bt hd) lo hi (ck_fi (bt hd) lo hi (ck_gr (bt hd) lo hi 24) 24) (ck_gr (bt hd) lo hi 24) 24) = (ck_rg hd lo hi en) := by first | (simp [ck_rg, c_1, c_2, c_3]; done) | simp [ck_rg, ck_zo, c_1, c_2, c_3]
        exact W.lret (v := (ck_er (bt hd) lo hi (ck_fi (bt hd) lo hi (ck_gr (bt hd) lo hi 24) 24) (ck_gr (bt hd) lo hi 24) 24)) hx hb hr (fun t ht _ => ⟨congrArg (fun z => Outcome.returned (some (Value.long z))) hres, ht⟩) (fun _ h => nomatch h) dX0_region_43
      · refine lv_lload_n hx hb dX0_region_33 rfl (lv_at hl 0 rfl) ?_
        refine lv_goto (tgt := 43) hx hb dX0_region_34 (by decide) ?_
        have hres : (ck_fi (bt hd) lo hi (ck_gr (bt hd) lo hi 24) 24) = (ck_rg hd lo hi en) := by first | (simp [ck_rg, c_1, c_2, c_3]; done) | simp [ck_rg, ck_zo, c_1, c_2, c_3]
        exact W.lret (v := (ck_fi (bt hd) lo hi (ck_gr (bt hd) lo hi 24) 24)) hx hb hr (fun t ht _ => ⟨congrArg (fun z => Outcome.returned (some (Value.long z))) hres, ht⟩) (fun _ h => nomatch h) dX0_region_43
    · have c_2 := ck_bf c_2
      refine lv_ldc2 (v := ck_NO) hx hb hown (hts (.constantLong RX0 46 ck_NO) (by decide +kernel)) dX0_region_14 ?_
      have hres : ck_NO = (ck_rg hd lo hi en) := by first | (simp [ck_rg, c_1, c_2]; done) | simp [ck_rg, ck_zo, c_1, c_2]
      exact W.lret (v := ck_NO) hx hb hr (fun t ht _ => ⟨congrArg (fun z => Outcome.returned (some (Value.long z))) hres, ht⟩) (fun _ h => nomatch h) dX0_region_17

set_option maxHeartbeats 4000000 in
set_option maxRecDepth 100000 in
theorem c_X0_sources (l : Launch) (D : va_G) (h a1 a2 : Nat) (c1 c2 : ClassId) (lo hi : Nat → Int64) (hd : Int32) (ow off go : Int64)   : Met l yX0_sources wsX0_sources { frames := 1, cells := 0, slots := 0, locals := 20 } (va_Pc [.ref h] (ck_B D (xW h a1 a2 c1 c2 lo hi hd ow off go) (xT c1 c2))) (ck_R (.int (ck_ns hd))) 0 0 (fun _ => False) := by
  refine Met.ofW (cc := cX0_sources) (maxL := 1) (ret := (some .int)) (by decide) rfl ?_
  intro p e s m args below meth c s₁ B hml hv
  obtain ⟨rfl, hP, hK⟩ := hv
  have hx := B.exec
  have hb := B.bytes
  have hr := B.returns
  have hts := atoms_spec (ws := wsX0_sources) B.pre
  have hown : s.vm.findClass RX0 = some m.cls := findClass_of_methodNamed B.named
  have hlocks := B.notSynchronized
  have hin : ∀ w ∈ wsX00, w ∈ wsX0_sources := fun _ h => List.mem_cons_of_mem _ (List.mem_append_right _ h)
  have hl := lv_entry ([.ref h]) (n := 1) (Nat.le_of_ble_eq_true rfl)
  rw [lg_entry_eq]
  generalize (lg_sl ([.ref h]) ++ List.replicate (1 - (lg_sl ([.ref h])).length) Slot.unset).toArray = ls at hl ⊢
  have hl : lv_has ls 1 [(0, .ref h)] := hl
  refine lv_aload_n hx hb dX0_sources_0 rfl (lv_at hl 0 rfl) ?_
  refine va_get (D := D) (ci := 0) (v := .int hd) (C := RX0) (T := TX0) (N := 6) hx hb hts hin hown hK hP 0 rfl rfl 2 (by decide) (hts (.fieldLink RX0 16 "ClockDesk" "held" "I") (by decide +kernel)) (fun _ h9 => h9) rfl dX0_sources_1 ?_
  refine ck_cS (As := [.int hd]) (rest := []) ⟨hx, hb, hml, hown, hts⟩ (c_J6_bitCount_0f7a4 l hd) (va_cwS 1 hts gX0_sources_J6_bitCount_0f7a4 rfl rfl rfl (by decide +kernel) ⟨Nat.le_of_ble_eq_true rfl, Nat.le_of_ble_eq_true rfl⟩) rfl hl.1 rfl (Nat.le_of_ble_eq_true rfl) dX0_sources_4 ⟨Nat.le_of_ble_eq_true rfl, Nat.le_of_ble_eq_true rfl⟩ ?_
  have hres : (ck_ns hd) = (ck_ns hd) := by rfl
  exact W.iret (v := (ck_ns hd)) hx hb hr (fun t ht _ => ⟨congrArg (fun z => Outcome.returned (some (Value.int z))) hres, ht⟩) (fun _ h => nomatch h) dX0_sources_7

set_option maxHeartbeats 4000000 in
set_option maxRecDepth 100000 in
theorem c_X0_hull (l : Launch) (D : va_G) (h a1 a2 : Nat) (c1 c2 : ClassId) (lo hi : Nat → Int64) (hd : Int32) (ow off go : Int64) (f0 : Int32) (en : Int32)  : Met l yX0_hull wsX0_hull { frames := 5, cells := 0, slots := 0, locals := 112 } (va_Pc [.ref h, .int f0, .int en] (ck_B D (xW h a1 a2 c1 c2 lo hi hd ow off go) (xT c1 c2))) (ck_R (.long (ck_hl hd lo hi f0 en))) 0 0 (fun _ => False) := by
  refine Met.ofW (cc := cX0_hull) (maxL := 4) (ret := (some .long)) (by decide) rfl ?_
  intro p e s m args below meth c s₁ B hml hv
  obtain ⟨rfl, hP, hK⟩ := hv
  have hx := B.exec
  have hb := B.bytes
  have hr := B.returns
  have hts := atoms_spec (ws := wsX0_hull) B.pre
  have hown : s.vm.findClass RX0 = some m.cls := findClass_of_methodNamed B.named
  have hlocks := B.notSynchronized
  have hin : ∀ w ∈ wsX00, w ∈ wsX0_hull := fun _ h => List.mem_cons_of_mem _ (List.mem_append_right _ h)
  have hl := lv_entry ([.ref h, .int f0, .int en]) (n := 4) (Nat.le_of_ble_eq_true rfl)
  rw [lg_entry_eq]
  generalize (lg_sl ([.ref h, .int f0, .int en]) ++ List.replicate (4 - (lg_sl ([.ref h, .int f0, .int en])).length) Slot.unset).toArray = ls at hl ⊢
  have hl : lv_has ls 4 [(0, .ref h), (1, .int f0), (2, .int en)] := hl
  refine lv_iload_n hx hb dX0_hull_0 rfl (lv_at hl 1 rfl) ?_
  refine lv_if_lt (tgt := 19) hx hb dX0_hull_1 (by decide) (fun c_1 => ?_) (fun c_1 => ?_)
  · refine lv_ldc2 (v := ck_NO) hx hb hown (hts (.constantLong RX0 46 ck_NO) (by decide +kernel)) dX0_hull_19 ?_
    have hres : ck_NO = (ck_hl hd lo hi f0 en) := by first | (simp [ck_hl, c_1]; done) | simp [ck_hl, ck_zo, c_1]
    exact W.lret (v := ck_NO) hx hb hr (fun t ht _ => ⟨congrArg (fun z => Outcome.returned (some (Value.long z))) hres, ht⟩) (fun _ h => nomatch h) dX0_hull_22
  · refine lv_iload_n hx hb dX0_hull_4 rfl (lv_at hl 1 rfl) ?_
    refine lv_aload_n hx hb dX0_hull_5 rfl (lv_at hl 0 rfl) ?_
    refine ck_cV (As := []) (rest := [.int f0]) ⟨hx, hb, hml, hown, hts⟩ (c_X0_sources l D h a1 a2 c1 c2 lo hi hd ow off go ) (cwV 0 hts gX0_hull_X0_sources rfl rfl rfl (by decide +kernel) ⟨Nat.le_of_ble_eq_true rfl, Nat.le_of_ble_eq_true rfl⟩) hP hK (va_recv hK hP (ci := 0) (q0 := 0) rfl rfl) rfl hl.1 rfl (Nat.le_of_ble_eq_true rfl) dX0_hull_6 ⟨Nat.le_of_ble_eq_true rfl, Nat.le_of_ble_eq_true rfl⟩ ?_
    refine lv_icmp_ge (tgt := 19) hx hb dX0_hull_9 (by decide) (fun c_2 => ?_) (fun c_2 => ?_)
    · refine lv_ldc2 (v := ck_NO) hx hb hown (hts (.constantLong RX0 46 ck_NO) (by decide +kernel)) dX0_hull_19 ?_
      have hres : ck_NO = (ck_hl hd lo hi f0 en) := by first | (simp [ck_hl, c_1, c_2]; done) | simp [ck_hl, ck_zo, c_1, c_2]
      exact W.lret (v := ck_NO) hx hb hr (fun t ht _ => ⟨congrArg (fun z => Outcome.returned (some (Value.long z))) hres, ht⟩) (fun _ h => nomatch h) dX0_hull_22
    · refine lv_iload_n hx hb dX0_hull_12 rfl (lv_at hl 2 rfl) ?_
      refine ck_cS (As := [.int en]) (rest := []) ⟨hx, hb, hml, hown, hts⟩ (c_X0_isZeroOrOne l en) (va_cwS 1 hts gX0_hull_X0_isZeroOrOne rfl rfl rfl (by decide +kernel) ⟨Nat.le_of_ble_eq_true rfl, Nat.le_of_ble_eq_true rfl⟩) rfl hl.1 rfl (Nat.le_of_ble_eq_true rfl) dX0_hull_13 ⟨Nat.le_of_ble_eq_true rfl, Nat.le_of_ble_eq_true rfl⟩ ?_
      refine lv_if_ne (tgt := 23) hx hb dX0_hull_16 (by decide) (fun c_3 => ?_) (fun c_3 => ?_)
      · have c_3 := ck_bt c_3
        refine lv_aload_n hx hb dX0_hull_23 rfl (lv_at hl 0 rfl) ?_
        refine ck_cV (As := []) (rest := []) ⟨hx, hb, hml, hown, hts⟩ (c_X0_sources l D h a1 a2 c1 c2 lo hi hd ow off go ) (cwV 0 hts gX0_hull_X0_sources rfl rfl rfl (by decide +kernel) ⟨Nat.le_of_ble_eq_true rfl, Nat.le_of_ble_eq_true rfl⟩) hP hK (va_recv hK hP (ci := 0) (q0 := 0) rfl rfl) rfl hl.1 rfl (Nat.le_of_ble_eq_true rfl) dX0_hull_24 ⟨Nat.le_of_ble_eq_true rfl, Nat.le_of_ble_eq_true rfl⟩ ?_
        refine lv_iload_n hx hb dX0_hull_27 rfl (lv_at hl 1 rfl) ?_
        refine lv_isub hx hb dX0_hull_28 ?_
        refine lv_istore_n (lv' := [(3, .int ((ck_ns hd) - f0)), (0, .ref h), (1, .int f0), (2, .int en)]) hx hb dX0_hull_29 rfl hl (by decide) rfl (fun ls hl => ?_)
        refine lv_iload_n hx hb dX0_hull_30 rfl (lv_at hl 3 rfl) ?_
        refine lv_if_ne (tgt := 42) hx hb dX0_hull_31 (by decide) (fun c_4 => ?_) (fun c_4 => ?_)
        · refine lv_aload_n hx hb dX0_hull_42 rfl (lv_at hl 1 rfl) ?_
          refine lv_iload_n hx hb dX0_hull_43 rfl (lv_at hl 0 rfl) ?_
          refine ck_cV (As := [.int ((ck_ns hd) - f0)]) (rest := []) ⟨hx, hb, hml, hown, hts⟩ (c_X0_greatestCoveredBy l D h a1 a2 c1 c2 lo hi hd ow off go ((ck_ns hd) - f0)) (cwV 1 hts gX0_hull_X0_greatestCoveredBy rfl rfl rfl (by decide +kernel) ⟨Nat.le_of_ble_eq_true rfl, Nat.le_of_ble_eq_true rfl⟩) hP hK (va_recv hK hP (ci := 0) (q0 := 0) rfl rfl) rfl hl.1 rfl (Nat.le_of_ble_eq_true rfl) dX0_hull_44 ⟨Nat.le_of_ble_eq_true rfl, Nat.le_of_ble_eq_true rfl⟩ ?_
          have hres : (ck_la (bt hd) lo hi ((ck_ns hd) - f0) 24) = (ck_hl hd lo hi f0 en) := by first | (simp [ck_hl, c_1, c_2, c_3, c_4]; done) | simp [ck_hl, ck_zo, c_1, c_2, c_3, c_4]
          exact W.lret (v := (ck_la (bt hd) lo hi ((ck_ns hd) - f0) 24)) hx hb hr (fun t ht _ => ⟨congrArg (fun z => Outcome.returned (some (Value.long z))) hres, ht⟩) (fun _ h => nomatch h) dX0_hull_47
        · refine lv_aload_n hx hb dX0_hull_34 rfl (lv_at hl 1 rfl) ?_
          refine lv_iload_n hx hb dX0_hull_35 rfl (lv_at hl 0 rfl) ?_
          refine ck_cV (As := [.int ((ck_ns hd) - f0)]) (rest := []) ⟨hx, hb, hml, hown, hts⟩ (c_X0_leastCoveredBy l D h a1 a2 c1 c2 lo hi hd ow off go ((ck_ns hd) - f0)) (cwV 1 hts gX0_hull_X0_leastCoveredBy rfl rfl rfl (by decide +kernel) ⟨Nat.le_of_ble_eq_true rfl, Nat.le_of_ble_eq_true rfl⟩) hP hK (va_recv hK hP (ci := 0) (q0 := 0) rfl rfl) rfl hl.1 rfl (Nat.le_of_ble_eq_true rfl) dX0_hull_36 ⟨Nat.le_of_ble_eq_true rfl, Nat.le_of_ble_eq_true rfl⟩ ?_
          refine lv_goto (tgt := 47) hx hb dX0_hull_39 (by decide) ?_
          have hres : (ck_fi (bt hd) lo hi ((ck_ns hd) - f0) 24) = (ck_hl hd lo hi f0 en) := by first | (simp [ck_hl, c_1, c_2, c_3, c_4]; done) | simp [ck_hl, ck_zo, c_1, c_2, c_3, c_4]
          exact W.lret (v := (ck_fi (bt hd) lo hi ((ck_ns hd) - f0) 24)) hx hb hr (fun t ht _ => ⟨congrArg (fun z => Outcome.returned (some (Value.long z))) hres, ht⟩) (fun _ h => nomatch h) dX0_hull_47
      · have c_3 := ck_bf c_3
        refine lv_ldc2 (v := ck_NO) hx hb hown (hts (.constantLong RX0 46 ck_NO) (by decide +kernel)) dX0_hull_19 ?_
        have hres : ck_NO = (ck_hl hd lo hi f0 en) := by first | (simp [ck_hl, c_1, c_2, c_3]; done) | simp [ck_hl, ck_zo, c_1, c_2, c_3]
        exact W.lret (v := ck_NO) hx hb hr (fun t ht _ => ⟨congrArg (fun z => Outcome.returned (some (Value.long z))) hres, ht⟩) (fun _ h => nomatch h) dX0_hull_22

set_option maxHeartbeats 4000000 in
set_option maxRecDepth 100000 in
theorem c_X0_chosen (l : Launch) (D : va_G) (h a1 a2 : Nat) (c1 c2 : ClassId) (lo hi : Nat → Int64) (hd : Int32) (ow off go : Int64) (x : Int32)  : Met l yX0_chosen wsX0_chosen { frames := 6, cells := 0, slots := 0, locals := 139 } (va_Pc [.ref h, .int x] (ck_B D (xW h a1 a2 c1 c2 lo hi hd ow off go) (xT c1 c2))) (ck_R (.int (ck_b (ck_ch hd lo hi x)))) 0 0 (fun _ => False) := by
  refine Met.ofW (cc := cX0_chosen) (maxL := 2) (ret := (some .boolean)) (by decide) rfl ?_
  intro p e s m args below meth c s₁ B hml hv
  obtain ⟨rfl, hP, hK⟩ := hv
  have hx := B.exec
  have hb := B.bytes
  have hr := B.returns
  have hts := atoms_spec (ws := wsX0_chosen) B.pre
  have hown : s.vm.findClass RX0 = some m.cls := findClass_of_methodNamed B.named
  have hlocks := B.notSynchronized
  have hin : ∀ w ∈ wsX00, w ∈ wsX0_chosen := fun _ h => List.mem_cons_of_mem _ (List.mem_append_right _ h)
  have hl := lv_entry ([.ref h, .int x]) (n := 2) (Nat.le_of_ble_eq_true rfl)
  rw [lg_entry_eq]
  generalize (lg_sl ([.ref h, .int x]) ++ List.replicate (2 - (lg_sl ([.ref h, .int x])).length) Slot.unset).toArray = ls at hl ⊢
  have hl : lv_has ls 2 [(0, .ref h), (1, .int x)] := hl
  refine lv_aload_n hx hb dX0_chosen_0 rfl (lv_at hl 0 rfl) ?_
  refine va_get (D := D) (ci := 0) (v := .int hd) (C := RX0) (T := TX0) (N := 6) hx hb hts hin hown hK hP 0 rfl rfl 2 (by decide) (hts (.fieldLink RX0 16 "ClockDesk" "held" "I") (by decide +kernel)) (fun _ h9 => h9) rfl dX0_chosen_1 ?_
  refine lv_iload_n hx hb dX0_chosen_4 rfl (lv_at hl 1 rfl) ?_
  refine ck_cS (As := [.int hd, .int x]) (rest := []) ⟨hx, hb, hml, hown, hts⟩ (c_X0_isIn l hd x) (va_cwS 2 hts gX0_chosen_X0_isIn rfl rfl rfl (by decide +kernel) ⟨Nat.le_of_ble_eq_true rfl, Nat.le_of_ble_eq_true rfl⟩) rfl hl.1 rfl (Nat.le_of_ble_eq_true rfl) dX0_chosen_5 ⟨Nat.le_of_ble_eq_true rfl, Nat.le_of_ble_eq_true rfl⟩ ?_
  refine lv_if_eq (tgt := 45) hx hb dX0_chosen_8 (by decide) (fun c_1 => ?_) (fun c_1 => ?_)
  · have c_1 := ck_bf c_1
    refine lv_iconst (v := 0) hx hb dX0_chosen_45 (by decide) ?_
    have hres : 0 = (ck_b (ck_ch hd lo hi x)) := by simp [ck_ch, ck_b, c_1]
    exact W.zret (ty := .boolean) (v := 0) hx hb hr rfl (fun t ht _ => ⟨congrArg (fun z => Outcome.returned (some (Value.int z))) hres, ht⟩) (fun _ h => nomatch h) dX0_chosen_46
  · have c_1 := ck_bt c_1
    obtain ⟨jx, hjx, rfl⟩ := ck_inE c_1
    have hcjx : (nI jx).toNatClampNeg = jx := nI_clamp (by omega)
    have hnjx := c_1
    rw [ck_inN _ hjx] at hnjx
    refine lv_aload_n hx hb dX0_chosen_11 rfl (lv_at hl 0 rfl) ?_
    refine va_get (D := D) (ci := 0) (v := .ref a1) (C := RX0) (T := TX0) (N := 6) hx hb hts hin hown hK hP 0 rfl rfl 0 (by decide) (hts (.fieldLink RX0 9 "ClockDesk" "lows" "[J") (by decide +kernel)) (fun _ h9 => h9) rfl dX0_chosen_12 ?_
    refine lv_iload_n hx hb dX0_chosen_15 rfl (lv_at hl 1 rfl) ?_
    refine ck_lald hx hb hK hP 1 0 rfl rfl (i := jx) hjx dX0_chosen_16 ?_
    refine lv_aload_n hx hb dX0_chosen_17 rfl (lv_at hl 0 rfl) ?_
    refine lv_iconst (v := 0) hx hb dX0_chosen_18 (by decide) ?_
    refine ck_cV (As := [.int 0]) (rest := [.long (lo jx)]) ⟨hx, hb, hml, hown, hts⟩ (c_X0_region l D h a1 a2 c1 c2 lo hi hd ow off go 0) (cwV 1 hts gX0_chosen_X0_region rfl rfl rfl (by decide +kernel) ⟨Nat.le_of_ble_eq_true rfl, Nat.le_of_ble_eq_true rfl⟩) hP hK (va_recv hK hP (ci := 0) (q0 := 0) rfl rfl) rfl hl.1 rfl (Nat.le_of_ble_eq_true rfl) dX0_chosen_19 ⟨Nat.le_of_ble_eq_true rfl, Nat.le_of_ble_eq_true rfl⟩ ?_
    refine W.lcmp hx hb dX0_chosen_22 ?_
    refine lv_if_gt (tgt := 45) hx hb dX0_chosen_23 (by decide) (fun c_2 => ?_) (fun c_2 => ?_)
    · rw [lg_cmp_gt] at c_2
      refine lv_iconst (v := 0) hx hb dX0_chosen_45 (by decide) ?_
      have hres : 0 = (ck_b (ck_ch hd lo hi (nI jx))) := by simp [ck_ch, ck_b, c_1, hcjx, c_2]
      exact W.zret (ty := .boolean) (v := 0) hx hb hr rfl (fun t ht _ => ⟨congrArg (fun z => Outcome.returned (some (Value.int z))) hres, ht⟩) (fun _ h => nomatch h) dX0_chosen_46
    · rw [lg_cmp_gt] at c_2
      refine lv_aload_n hx hb dX0_chosen_26 rfl (lv_at hl 0 rfl) ?_
      refine lv_iconst (v := 1) hx hb dX0_chosen_27 (by decide) ?_
      refine ck_cV (As := [.int 1]) (rest := []) ⟨hx, hb, hml, hown, hts⟩ (c_X0_region l D h a1 a2 c1 c2 lo hi hd ow off go 1) (cwV 1 hts gX0_chosen_X0_region rfl rfl rfl (by decide +kernel) ⟨Nat.le_of_ble_eq_true rfl, Nat.le_of_ble_eq_true rfl⟩) hP hK (va_recv hK hP (ci := 0) (q0 := 0) rfl rfl) rfl hl.1 rfl (Nat.le_of_ble_eq_true rfl) dX0_chosen_28 ⟨Nat.le_of_ble_eq_true rfl, Nat.le_of_ble_eq_true rfl⟩ ?_
      refine lv_aload_n hx hb dX0_chosen_31 rfl (lv_at hl 0 rfl) ?_
      refine va_get (D := D) (ci := 0) (v := .ref a2) (C := RX0) (T := TX0) (N := 6) hx hb hts hin hown hK hP 0 rfl rfl 1 (by decide) (hts (.fieldLink RX0 13 "ClockDesk" "highs" "[J") (by decide +kernel)) (fun _ h9 => h9) rfl dX0_chosen_32 ?_
      refine lv_iload_n hx hb dX0_chosen_35 rfl (lv_at hl 1 rfl) ?_
      refine ck_lald hx hb hK hP 2 1 rfl rfl (i := jx) hjx dX0_chosen_36 ?_
      refine W.lcmp hx hb dX0_chosen_37 ?_
      refine lv_if_gt (tgt := 45) hx hb dX0_chosen_38 (by decide) (fun c_3 => ?_) (fun c_3 => ?_)
      · rw [lg_cmp_gt] at c_3
        refine lv_iconst (v := 0) hx hb dX0_chosen_45 (by decide) ?_
        have hres : 0 = (ck_b (ck_ch hd lo hi (nI jx))) := by simp [ck_ch, ck_b, c_1, hcjx, c_2, c_3]
        exact W.zret (ty := .boolean) (v := 0) hx hb hr rfl (fun t ht _ => ⟨congrArg (fun z => Outcome.returned (some (Value.int z))) hres, ht⟩) (fun _ h => nomatch h) dX0_chosen_46
      · rw [lg_cmp_gt] at c_3
        refine lv_iconst (v := 1) hx hb dX0_chosen_41 (by decide) ?_
        refine lv_goto (tgt := 46) hx hb dX0_chosen_42 (by decide) ?_
        have hres : 1 = (ck_b (ck_ch hd lo hi (nI jx))) := by simp [ck_ch, ck_b, c_1, hcjx, c_2, c_3]
        exact W.zret (ty := .boolean) (v := 1) hx hb hr rfl (fun t ht _ => ⟨congrArg (fun z => Outcome.returned (some (Value.int z))) hres, ht⟩) (fun _ h => nomatch h) dX0_chosen_46
