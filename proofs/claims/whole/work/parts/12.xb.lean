set_option maxHeartbeats 4000000 in
set_option maxRecDepth 100000 in
theorem c_X0_middle (l : Launch) (D : va_G) (h a1 a2 : Nat) (c1 c2 : ClassId) (lo hi : Nat → Int64) (hd : Int32) (ow off go : Int64)  (j : Nat) (hj : j < 24) : Met l yX0_middle wsX0_middle { frames := 2, cells := 0, slots := 0, locals := 46 } (va_Pc [.ref h, .int (nI j)] (ck_B D (xW h a1 a2 c1 c2 lo hi hd ow off go) (xT c1 c2))) (ck_R (.long (ck_mid lo hi j))) 0 0 (fun _ => False) := by
  refine Met.ofW (cc := cX0_middle) (maxL := 2) (ret := (some .long)) (by decide) rfl ?_
  intro p e s m args below meth c s₁ B hml hv
  obtain ⟨rfl, hP, hK⟩ := hv
  have hx := B.exec
  have hb := B.bytes
  have hr := B.returns
  have hts := atoms_spec (ws := wsX0_middle) B.pre
  have hown : s.vm.findClass RX0 = some m.cls := findClass_of_methodNamed B.named
  have hlocks := B.notSynchronized
  have hin : ∀ w ∈ wsX00, w ∈ wsX0_middle := fun _ h => List.mem_cons_of_mem _ (List.mem_append_right _ h)
  have hl := lv_entry ([.ref h, .int (nI j)]) (n := 2) (Nat.le_of_ble_eq_true rfl)
  rw [lg_entry_eq]
  generalize (lg_sl ([.ref h, .int (nI j)]) ++ List.replicate (2 - (lg_sl ([.ref h, .int (nI j)])).length) Slot.unset).toArray = ls at hl ⊢
  have hl : lv_has ls 2 [(0, .ref h), (1, .int (nI j))] := hl
  refine lv_aload_n hx hb dX0_middle_0 rfl (lv_at hl 0 rfl) ?_
  refine va_get (D := D) (ci := 0) (v := .ref a1) (C := RX0) (T := TX0) (N := 6) hx hb hts hin hown hK hP 0 rfl rfl 0 (by decide) (hts (.fieldLink RX0 9 "ClockDesk" "lows" "[J") (by decide +kernel)) (fun _ h9 => h9) rfl dX0_middle_1 ?_
  refine lv_iload_n hx hb dX0_middle_4 rfl (lv_at hl 1 rfl) ?_
  refine ck_lald hx hb hK hP 1 0 rfl rfl (i := j) hj dX0_middle_5 ?_
  refine lv_aload_n hx hb dX0_middle_6 rfl (lv_at hl 0 rfl) ?_
  refine va_get (D := D) (ci := 0) (v := .ref a2) (C := RX0) (T := TX0) (N := 6) hx hb hts hin hown hK hP 0 rfl rfl 1 (by decide) (hts (.fieldLink RX0 13 "ClockDesk" "highs" "[J") (by decide +kernel)) (fun _ h9 => h9) rfl dX0_middle_7 ?_
  refine lv_iload_n hx hb dX0_middle_10 rfl (lv_at hl 1 rfl) ?_
  refine ck_lald hx hb hK hP 2 1 rfl rfl (i := j) hj dX0_middle_11 ?_
  refine lv_ladd hx hb dX0_middle_12 ?_
  refine ck_cS (As := [.long ((lo j) + (hi j))]) (rest := []) ⟨hx, hb, hml, hown, hts⟩ (c_X0_half l ((lo j) + (hi j))) (va_cwS 1 hts gX0_middle_X0_half rfl rfl rfl (by decide +kernel) ⟨Nat.le_of_ble_eq_true rfl, Nat.le_of_ble_eq_true rfl⟩) rfl hl.1 rfl (Nat.le_of_ble_eq_true rfl) dX0_middle_13 ⟨Nat.le_of_ble_eq_true rfl, Nat.le_of_ble_eq_true rfl⟩ ?_
  have hres : (ck_half ((lo j) + (hi j))) = (ck_mid lo hi j) := by rfl
  exact W.lret (v := (ck_half ((lo j) + (hi j)))) hx hb hr (fun t ht _ => ⟨congrArg (fun z => Outcome.returned (some (Value.long z))) hres, ht⟩) (fun _ h => nomatch h) dX0_middle_16

set_option maxHeartbeats 4000000 in
set_option maxRecDepth 100000 in
theorem c_X0_place (l : Launch) (D : va_G) (h a1 a2 : Nat) (c1 c2 : ClassId) (lo hi : Nat → Int64) (hd : Int32) (ow off go : Int64) (set : Int32) (j : Nat) (hj : j < 24) : Met l yX0_place wsX0_place { frames := 3, cells := 0, slots := 0, locals := 67 } (va_Pc [.ref h, .int (nI j), .int set] (ck_B D (xW h a1 a2 c1 c2 lo hi hd ow off go) (xT c1 c2))) (ck_R (.int (ck_pl (bt set) lo hi j))) 0 0 (fun _ => False) := by
  refine Met.ofW (cc := cX0_place) (maxL := 7) (ret := (some .int)) (by decide) rfl ?_
  intro p e s m args below meth c s₁ B hml hv
  obtain ⟨rfl, hP, hK⟩ := hv
  have hx := B.exec
  have hb := B.bytes
  have hr := B.returns
  have hts := atoms_spec (ws := wsX0_place) B.pre
  have hown : s.vm.findClass RX0 = some m.cls := findClass_of_methodNamed B.named
  have hlocks := B.notSynchronized
  have hin : ∀ w ∈ wsX00, w ∈ wsX0_place := fun _ h => List.mem_cons_of_mem _ (List.mem_append_right _ h)
  have hl := lv_entry ([.ref h, .int (nI j), .int set]) (n := 7) (Nat.le_of_ble_eq_true rfl)
  rw [lg_entry_eq]
  generalize (lg_sl ([.ref h, .int (nI j), .int set]) ++ List.replicate (7 - (lg_sl ([.ref h, .int (nI j), .int set])).length) Slot.unset).toArray = ls at hl ⊢
  have hl : lv_has ls 7 [(0, .ref h), (1, .int (nI j)), (2, .int set)] := hl
  refine lv_aload_n hx hb dX0_place_0 rfl (lv_at hl 0 rfl) ?_
  refine lv_iload_n hx hb dX0_place_1 rfl (lv_at hl 1 rfl) ?_
  refine ck_cV (As := [.int (nI j)]) (rest := []) ⟨hx, hb, hml, hown, hts⟩ (c_X0_middle l D h a1 a2 c1 c2 lo hi hd ow off go j hj) (cwV 1 hts gX0_place_X0_middle rfl rfl rfl (by decide +kernel) ⟨Nat.le_of_ble_eq_true rfl, Nat.le_of_ble_eq_true rfl⟩) hP hK (va_recv hK hP (ci := 0) (q0 := 0) rfl rfl) rfl hl.1 rfl (Nat.le_of_ble_eq_true rfl) dX0_place_2 ⟨Nat.le_of_ble_eq_true rfl, Nat.le_of_ble_eq_true rfl⟩ ?_
  refine lv_lstore_n (lv' := [(3, .long (ck_mid lo hi j)), (0, .ref h), (1, .int (nI j)), (2, .int set)]) hx hb dX0_place_5 rfl hl (by decide) rfl (fun ls hl => ?_)
  refine lv_iconst (v := 0) hx hb dX0_place_6 (by decide) ?_
  refine lv_istore (lv' := [(5, .int 0), (3, .long (ck_mid lo hi j)), (0, .ref h), (1, .int (nI j)), (2, .int set)]) hx hb dX0_place_7 hl (by decide) rfl (fun ls hl => ?_)
  refine lv_iconst (v := 0) hx hb dX0_place_9 (by decide) ?_
  refine lv_istore (lv' := [(6, .int 0), (5, .int 0), (3, .long (ck_mid lo hi j)), (0, .ref h), (1, .int (nI j)), (2, .int set)]) hx hb dX0_place_10 hl (by decide) rfl (fun ls hl => ?_)
  refine ck_loop (G := fun ls => W p l e _ s m _ below meth c _ _ _ _ _ (F0 m 12 ls [])) (nL := 7) (24) (fun i => True) (fun i => [(0, .ref h), (1, .int (nI j)), (2, .int set), (3, .long (ck_mid lo hi j)), (5, .int (ck_cn (ck_plP (bt set) lo hi j) i)), (6, .int (nI i))]) (fun i hle_i hj_i ih_i ls hl => ?_) ls (trivial) ?_
  rotate_left
  · have hq : lv_has ls 7 [(0, .ref h), (1, .int (nI j)), (2, .int set), (3, .long (ck_mid lo hi j)), (5, .int 0), (6, .int 0)] := lv_sub hl [3, 4, 5, 2, 1, 0] rfl
    exact hq
  have hl : lv_has ls 7 [(0, .ref h), (1, .int (nI j)), (2, .int set), (3, .long (ck_mid lo hi j)), (5, .int (ck_cn (ck_plP (bt set) lo hi j) i)), (6, .int (nI i))] := hl
  refine lv_iload hx hb dX0_place_12 (lv_at hl 5 rfl) ?_
  refine lv_bipush (v := 24) hx hb dX0_place_14 (by decide) ?_
  refine lv_icmp_ge (tgt := 65) hx hb dX0_place_16 (by decide) (fun c_1 => ?_) (fun c_1 => ?_)
  · have heq_i : i = 24 := ck_eqN hle_i c_1
    subst heq_i
    have hl : lv_has ls 7 [(0, .ref h), (1, .int (nI j)), (2, .int set), (3, .long (ck_mid lo hi j)), (5, .int (ck_cn (ck_plP (bt set) lo hi j) 24)), (6, .int (nI 24))] := hl
    refine lv_iload hx hb dX0_place_65 (lv_at hl 4 rfl) ?_
    have hres : (ck_cn (ck_plP (bt set) lo hi j) 24) = (ck_pl (bt set) lo hi j) := by rfl
    exact W.iret (v := (ck_cn (ck_plP (bt set) lo hi j) 24)) hx hb hr (fun t ht _ => ⟨congrArg (fun z => Outcome.returned (some (Value.int z))) hres, ht⟩) (fun _ h => nomatch h) dX0_place_67
  · have hlt_i : i < 24 := ck_ltN hle_i c_1
    refine lv_iload_n hx hb dX0_place_19 rfl (lv_at hl 2 rfl) ?_
    refine lv_iload hx hb dX0_place_20 (lv_at hl 5 rfl) ?_
    refine ck_cS (As := [.int set, .int (nI i)]) (rest := []) ⟨hx, hb, hml, hown, hts⟩ (c_X0_isInN l set i hlt_i) (va_cwS 2 hts gX0_place_X0_isIn rfl rfl rfl (by decide +kernel) ⟨Nat.le_of_ble_eq_true rfl, Nat.le_of_ble_eq_true rfl⟩) rfl hl.1 rfl (Nat.le_of_ble_eq_true rfl) dX0_place_22 ⟨Nat.le_of_ble_eq_true rfl, Nat.le_of_ble_eq_true rfl⟩ ?_
    refine lv_if_eq (tgt := 59) hx hb dX0_place_25 (by decide) (fun c_2 => ?_) (fun c_2 => ?_)
    · have c_2 := ck_bf c_2
      refine lv_iinc (v := (nI (i + 1))) (lv' := [(6, .int (nI (i + 1))), (0, .ref h), (1, .int (nI j)), (2, .int set), (3, .long (ck_mid lo hi j)), (5, .int (ck_cn (ck_plP (bt set) lo hi j) i))]) hx hb dX0_place_59 hl (k := 5) rfl (nI_1 i) (by decide) rfl (fun ls hl => ?_)
      refine lv_goto (tgt := 12) hx hb dX0_place_62 (by decide) ?_
      refine ih_i ls hlt_i (trivial) ?_
      have hq : lv_has ls 7 [(0, .ref h), (1, .int (nI j)), (2, .int set), (3, .long (ck_mid lo hi j)), (5, .int (ck_cn (ck_plP (bt set) lo hi j) i)), (6, .int (nI (i + 1)))] := lv_sub hl [1, 2, 3, 4, 5, 0] rfl
      have eq0 : (ck_cn (ck_plP (bt set) lo hi j) i) = (ck_cn (ck_plP (bt set) lo hi j) (i + 1)) := by simp [ck_cn, ck_plP, c_2]
      exact lv_eqq hq (by rw [← eq0])
    · have c_2 := ck_bt c_2
      refine lv_aload_n hx hb dX0_place_28 rfl (lv_at hl 0 rfl) ?_
      refine lv_iload hx hb dX0_place_29 (lv_at hl 5 rfl) ?_
      refine ck_cV (As := [.int (nI i)]) (rest := []) ⟨hx, hb, hml, hown, hts⟩ (c_X0_middle l D h a1 a2 c1 c2 lo hi hd ow off go i hlt_i) (cwV 1 hts gX0_place_X0_middle rfl rfl rfl (by decide +kernel) ⟨Nat.le_of_ble_eq_true rfl, Nat.le_of_ble_eq_true rfl⟩) hP hK (va_recv hK hP (ci := 0) (q0 := 0) rfl rfl) rfl hl.1 rfl (Nat.le_of_ble_eq_true rfl) dX0_place_31 ⟨Nat.le_of_ble_eq_true rfl, Nat.le_of_ble_eq_true rfl⟩ ?_
      refine lv_lload_n hx hb dX0_place_34 rfl (lv_at hl 3 rfl) ?_
      refine W.lcmp hx hb dX0_place_35 ?_
      refine lv_if_lt (tgt := 56) hx hb dX0_place_36 (by decide) (fun c_3 => ?_) (fun c_3 => ?_)
      · rw [lg_cmp_lt] at c_3
        refine lv_iinc (v := ((ck_cn (ck_plP (bt set) lo hi j) i) + 1)) (lv' := [(5, .int ((ck_cn (ck_plP (bt set) lo hi j) i) + 1)), (0, .ref h), (1, .int (nI j)), (2, .int set), (3, .long (ck_mid lo hi j)), (6, .int (nI i))]) hx hb dX0_place_56 hl (k := 4) rfl rfl (by decide) rfl (fun ls hl => ?_)
        refine lv_iinc (v := (nI (i + 1))) (lv' := [(6, .int (nI (i + 1))), (5, .int ((ck_cn (ck_plP (bt set) lo hi j) i) + 1)), (0, .ref h), (1, .int (nI j)), (2, .int set), (3, .long (ck_mid lo hi j))]) hx hb dX0_place_59 hl (k := 5) rfl (nI_1 i) (by decide) rfl (fun ls hl => ?_)
        refine lv_goto (tgt := 12) hx hb dX0_place_62 (by decide) ?_
        refine ih_i ls hlt_i (trivial) ?_
        have hq : lv_has ls 7 [(0, .ref h), (1, .int (nI j)), (2, .int set), (3, .long (ck_mid lo hi j)), (5, .int ((ck_cn (ck_plP (bt set) lo hi j) i) + 1)), (6, .int (nI (i + 1)))] := lv_sub hl [2, 3, 4, 5, 1, 0] rfl
        have eq0 : ((ck_cn (ck_plP (bt set) lo hi j) i) + 1) = (ck_cn (ck_plP (bt set) lo hi j) (i + 1)) := by simp [ck_cn, ck_plP, c_2, c_3]
        exact lv_eqq hq (by rw [← eq0])
      · rw [lg_cmp_lt] at c_3
        refine lv_aload_n hx hb dX0_place_39 rfl (lv_at hl 0 rfl) ?_
        refine lv_iload hx hb dX0_place_40 (lv_at hl 5 rfl) ?_
        refine ck_cV (As := [.int (nI i)]) (rest := []) ⟨hx, hb, hml, hown, hts⟩ (c_X0_middle l D h a1 a2 c1 c2 lo hi hd ow off go i hlt_i) (cwV 1 hts gX0_place_X0_middle rfl rfl rfl (by decide +kernel) ⟨Nat.le_of_ble_eq_true rfl, Nat.le_of_ble_eq_true rfl⟩) hP hK (va_recv hK hP (ci := 0) (q0 := 0) rfl rfl) rfl hl.1 rfl (Nat.le_of_ble_eq_true rfl) dX0_place_42 ⟨Nat.le_of_ble_eq_true rfl, Nat.le_of_ble_eq_true rfl⟩ ?_
        refine lv_lload_n hx hb dX0_place_45 rfl (lv_at hl 3 rfl) ?_
        refine W.lcmp hx hb dX0_place_46 ?_
        refine lv_if_ne (tgt := 59) hx hb dX0_place_47 (by decide) (fun c_4 => ?_) (fun c_4 => ?_)
        · rw [lg_cmp_eq] at c_4
          refine lv_iinc (v := (nI (i + 1))) (lv' := [(6, .int (nI (i + 1))), (0, .ref h), (1, .int (nI j)), (2, .int set), (3, .long (ck_mid lo hi j)), (5, .int (ck_cn (ck_plP (bt set) lo hi j) i))]) hx hb dX0_place_59 hl (k := 5) rfl (nI_1 i) (by decide) rfl (fun ls hl => ?_)
          refine lv_goto (tgt := 12) hx hb dX0_place_62 (by decide) ?_
          refine ih_i ls hlt_i (trivial) ?_
          have hq : lv_has ls 7 [(0, .ref h), (1, .int (nI j)), (2, .int set), (3, .long (ck_mid lo hi j)), (5, .int (ck_cn (ck_plP (bt set) lo hi j) i)), (6, .int (nI (i + 1)))] := lv_sub hl [1, 2, 3, 4, 5, 0] rfl
          have eq0 : (ck_cn (ck_plP (bt set) lo hi j) i) = (ck_cn (ck_plP (bt set) lo hi j) (i + 1)) := by simp [ck_cn, ck_plP, c_2, c_3, c_4]
          exact lv_eqq hq (by rw [← eq0])
        · rw [lg_cmp_eq] at c_4
          refine lv_iload hx hb dX0_place_50 (lv_at hl 5 rfl) ?_
          refine lv_iload_n hx hb dX0_place_52 rfl (lv_at hl 1 rfl) ?_
          refine lv_icmp_ge (tgt := 59) hx hb dX0_place_53 (by decide) (fun c_5 => ?_) (fun c_5 => ?_)
          · refine lv_iinc (v := (nI (i + 1))) (lv' := [(6, .int (nI (i + 1))), (0, .ref h), (1, .int (nI j)), (2, .int set), (3, .long (ck_mid lo hi j)), (5, .int (ck_cn (ck_plP (bt set) lo hi j) i))]) hx hb dX0_place_59 hl (k := 5) rfl (nI_1 i) (by decide) rfl (fun ls hl => ?_)
            refine lv_goto (tgt := 12) hx hb dX0_place_62 (by decide) ?_
            refine ih_i ls hlt_i (trivial) ?_
            have hq : lv_has ls 7 [(0, .ref h), (1, .int (nI j)), (2, .int set), (3, .long (ck_mid lo hi j)), (5, .int (ck_cn (ck_plP (bt set) lo hi j) i)), (6, .int (nI (i + 1)))] := lv_sub hl [1, 2, 3, 4, 5, 0] rfl
            have eq0 : (ck_cn (ck_plP (bt set) lo hi j) i) = (ck_cn (ck_plP (bt set) lo hi j) (i + 1)) := by simp [ck_cn, ck_plP, c_2, c_3, c_4, c_5]
            exact lv_eqq hq (by rw [← eq0])
          · refine lv_iinc (v := ((ck_cn (ck_plP (bt set) lo hi j) i) + 1)) (lv' := [(5, .int ((ck_cn (ck_plP (bt set) lo hi j) i) + 1)), (0, .ref h), (1, .int (nI j)), (2, .int set), (3, .long (ck_mid lo hi j)), (6, .int (nI i))]) hx hb dX0_place_56 hl (k := 4) rfl rfl (by decide) rfl (fun ls hl => ?_)
            refine lv_iinc (v := (nI (i + 1))) (lv' := [(6, .int (nI (i + 1))), (5, .int ((ck_cn (ck_plP (bt set) lo hi j) i) + 1)), (0, .ref h), (1, .int (nI j)), (2, .int set), (3, .long (ck_mid lo hi j))]) hx hb dX0_place_59 hl (k := 5) rfl (nI_1 i) (by decide) rfl (fun ls hl => ?_)
            refine lv_goto (tgt := 12) hx hb dX0_place_62 (by decide) ?_
            refine ih_i ls hlt_i (trivial) ?_
            have hq : lv_has ls 7 [(0, .ref h), (1, .int (nI j)), (2, .int set), (3, .long (ck_mid lo hi j)), (5, .int ((ck_cn (ck_plP (bt set) lo hi j) i) + 1)), (6, .int (nI (i + 1)))] := lv_sub hl [2, 3, 4, 5, 1, 0] rfl
            have eq0 : ((ck_cn (ck_plP (bt set) lo hi j) i) + 1) = (ck_cn (ck_plP (bt set) lo hi j) (i + 1)) := by simp [ck_cn, ck_plP, c_2, c_3, c_4, c_5]
            exact lv_eqq hq (by rw [← eq0])

set_option maxHeartbeats 4000000 in
set_option maxRecDepth 100000 in
theorem c_X0_medianMiddle (l : Launch) (D : va_G) (h a1 a2 : Nat) (c1 c2 : ClassId) (lo hi : Nat → Int64) (hd : Int32) (ow off go : Int64)   : Met l yX0_medianMiddle wsX0_medianMiddle { frames := 4, cells := 0, slots := 0, locals := 93 } (va_Pc [.ref h] (ck_B D (xW h a1 a2 c1 c2 lo hi hd ow off go) (xT c1 c2))) (ck_R (.long (ck_md hd lo hi))) 0 0 (fun _ => False) := by
  refine Met.ofW (cc := cX0_medianMiddle) (maxL := 3) (ret := (some .long)) (by decide) rfl ?_
  intro p e s m args below meth c s₁ B hml hv
  obtain ⟨rfl, hP, hK⟩ := hv
  have hx := B.exec
  have hb := B.bytes
  have hr := B.returns
  have hts := atoms_spec (ws := wsX0_medianMiddle) B.pre
  have hown : s.vm.findClass RX0 = some m.cls := findClass_of_methodNamed B.named
  have hlocks := B.notSynchronized
  have hin : ∀ w ∈ wsX00, w ∈ wsX0_medianMiddle := fun _ h => List.mem_cons_of_mem _ (List.mem_append_right _ h)
  have hl := lv_entry ([.ref h]) (n := 3) (Nat.le_of_ble_eq_true rfl)
  rw [lg_entry_eq]
  generalize (lg_sl ([.ref h]) ++ List.replicate (3 - (lg_sl ([.ref h])).length) Slot.unset).toArray = ls at hl ⊢
  have hl : lv_has ls 3 [(0, .ref h)] := hl
  refine lv_aload_n hx hb dX0_medianMiddle_0 rfl (lv_at hl 0 rfl) ?_
  refine ck_cV (As := []) (rest := []) ⟨hx, hb, hml, hown, hts⟩ (c_X0_sources l D h a1 a2 c1 c2 lo hi hd ow off go ) (cwV 0 hts gX0_medianMiddle_X0_sources rfl rfl rfl (by decide +kernel) ⟨Nat.le_of_ble_eq_true rfl, Nat.le_of_ble_eq_true rfl⟩) hP hK (va_recv hK hP (ci := 0) (q0 := 0) rfl rfl) rfl hl.1 rfl (Nat.le_of_ble_eq_true rfl) dX0_medianMiddle_1 ⟨Nat.le_of_ble_eq_true rfl, Nat.le_of_ble_eq_true rfl⟩ ?_
  refine lv_iconst (v := 1) hx hb dX0_medianMiddle_4 (by decide) ?_
  refine lv_isub hx hb dX0_medianMiddle_5 ?_
  refine lv_iconst (v := 2) hx hb dX0_medianMiddle_6 (by decide) ?_
  refine lv_idiv hx hb dX0_medianMiddle_7 (by decide) ?_
  refine lv_istore_n (lv' := [(1, .int (((ck_ns hd) - 1) / 2)), (0, .ref h)]) hx hb dX0_medianMiddle_8 rfl hl (by decide) rfl (fun ls hl => ?_)
  refine lv_iconst (v := 0) hx hb dX0_medianMiddle_9 (by decide) ?_
  refine lv_istore_n (lv' := [(2, .int 0), (1, .int (((ck_ns hd) - 1) / 2)), (0, .ref h)]) hx hb dX0_medianMiddle_10 rfl hl (by decide) rfl (fun ls hl => ?_)
  refine ck_loop (G := fun ls => W p l e _ s m _ below meth c _ _ _ _ _ (F0 m 11 ls [])) (nL := 3) (24) (fun i => ck_mdf (bt hd) lo hi ((ck_ns hd - 1) / 2) i = none) (fun i => [(0, .ref h), (1, .int ((ck_ns hd - 1) / 2)), (2, .int (nI i))]) (fun i hle_i hj_i ih_i ls hl => ?_) ls (rfl) ?_
  rotate_left
  · have hq : lv_has ls 3 [(0, .ref h), (1, .int (((ck_ns hd) - 1) / 2)), (2, .int 0)] := lv_sub hl [2, 1, 0] rfl
    exact hq
  have hl : lv_has ls 3 [(0, .ref h), (1, .int ((ck_ns hd - 1) / 2)), (2, .int (nI i))] := hl
  refine lv_iload_n hx hb dX0_medianMiddle_11 rfl (lv_at hl 2 rfl) ?_
  refine lv_bipush (v := 24) hx hb dX0_medianMiddle_12 (by decide) ?_
  refine lv_icmp_ge (tgt := 53) hx hb dX0_medianMiddle_14 (by decide) (fun c_1 => ?_) (fun c_1 => ?_)
  · have heq_i : i = 24 := ck_eqN hle_i c_1
    subst heq_i
    have hl : lv_has ls 3 [(0, .ref h), (1, .int ((ck_ns hd - 1) / 2)), (2, .int (nI 24))] := hl
    refine lv_ldc2 (v := ck_NO) hx hb hown (hts (.constantLong RX0 46 ck_NO) (by decide +kernel)) dX0_medianMiddle_53 ?_
    have hres : ck_NO = (ck_md hd lo hi) := by simp [ck_md, hj_i]
    exact W.lret (v := ck_NO) hx hb hr (fun t ht _ => ⟨congrArg (fun z => Outcome.returned (some (Value.long z))) hres, ht⟩) (fun _ h => nomatch h) dX0_medianMiddle_56
  · have hlt_i : i < 24 := ck_ltN hle_i c_1
    refine lv_aload_n hx hb dX0_medianMiddle_17 rfl (lv_at hl 0 rfl) ?_
    refine va_get (D := D) (ci := 0) (v := .int hd) (C := RX0) (T := TX0) (N := 6) hx hb hts hin hown hK hP 0 rfl rfl 2 (by decide) (hts (.fieldLink RX0 16 "ClockDesk" "held" "I") (by decide +kernel)) (fun _ h9 => h9) rfl dX0_medianMiddle_18 ?_
    refine lv_iload_n hx hb dX0_medianMiddle_21 rfl (lv_at hl 2 rfl) ?_
    refine ck_cS (As := [.int hd, .int (nI i)]) (rest := []) ⟨hx, hb, hml, hown, hts⟩ (c_X0_isInN l hd i hlt_i) (va_cwS 2 hts gX0_medianMiddle_X0_isIn rfl rfl rfl (by decide +kernel) ⟨Nat.le_of_ble_eq_true rfl, Nat.le_of_ble_eq_true rfl⟩) rfl hl.1 rfl (Nat.le_of_ble_eq_true rfl) dX0_medianMiddle_22 ⟨Nat.le_of_ble_eq_true rfl, Nat.le_of_ble_eq_true rfl⟩ ?_
    refine lv_if_eq (tgt := 47) hx hb dX0_medianMiddle_25 (by decide) (fun c_2 => ?_) (fun c_2 => ?_)
    · have c_2 := ck_bf c_2
      refine lv_iinc (v := (nI (i + 1))) (lv' := [(2, .int (nI (i + 1))), (0, .ref h), (1, .int ((ck_ns hd - 1) / 2))]) hx hb dX0_medianMiddle_47 hl (k := 2) rfl (nI_1 i) (by decide) rfl (fun ls hl => ?_)
      refine lv_goto (tgt := 11) hx hb dX0_medianMiddle_50 (by decide) ?_
      refine ih_i ls hlt_i (by simp [ck_mdf, hj_i, c_2]) ?_
      have hq : lv_has ls 3 [(0, .ref h), (1, .int ((ck_ns hd - 1) / 2)), (2, .int (nI (i + 1)))] := lv_sub hl [1, 2, 0] rfl
      exact hq
    · have c_2 := ck_bt c_2
      refine lv_aload_n hx hb dX0_medianMiddle_28 rfl (lv_at hl 0 rfl) ?_
      refine lv_iload_n hx hb dX0_medianMiddle_29 rfl (lv_at hl 2 rfl) ?_
      refine lv_aload_n hx hb dX0_medianMiddle_30 rfl (lv_at hl 0 rfl) ?_
      refine va_get (D := D) (ci := 0) (v := .int hd) (C := RX0) (T := TX0) (N := 6) hx hb hts hin hown hK hP 0 rfl rfl 2 (by decide) (hts (.fieldLink RX0 16 "ClockDesk" "held" "I") (by decide +kernel)) (fun _ h9 => h9) rfl dX0_medianMiddle_31 ?_
      refine ck_cV (As := [.int (nI i), .int hd]) (rest := []) ⟨hx, hb, hml, hown, hts⟩ (c_X0_place l D h a1 a2 c1 c2 lo hi hd ow off go hd i hlt_i) (cwV 2 hts gX0_medianMiddle_X0_place rfl rfl rfl (by decide +kernel) ⟨Nat.le_of_ble_eq_true rfl, Nat.le_of_ble_eq_true rfl⟩) hP hK (va_recv hK hP (ci := 0) (q0 := 0) rfl rfl) rfl hl.1 rfl (Nat.le_of_ble_eq_true rfl) dX0_medianMiddle_34 ⟨Nat.le_of_ble_eq_true rfl, Nat.le_of_ble_eq_true rfl⟩ ?_
      refine lv_iload_n hx hb dX0_medianMiddle_37 rfl (lv_at hl 1 rfl) ?_
      refine lv_icmp_ne (tgt := 47) hx hb dX0_medianMiddle_38 (by decide) (fun c_3 => ?_) (fun c_3 => ?_)
      · refine lv_iinc (v := (nI (i + 1))) (lv' := [(2, .int (nI (i + 1))), (0, .ref h), (1, .int ((ck_ns hd - 1) / 2))]) hx hb dX0_medianMiddle_47 hl (k := 2) rfl (nI_1 i) (by decide) rfl (fun ls hl => ?_)
        refine lv_goto (tgt := 11) hx hb dX0_medianMiddle_50 (by decide) ?_
        refine ih_i ls hlt_i (by simp [ck_mdf, hj_i, c_2, c_3]) ?_
        have hq : lv_has ls 3 [(0, .ref h), (1, .int ((ck_ns hd - 1) / 2)), (2, .int (nI (i + 1)))] := lv_sub hl [1, 2, 0] rfl
        exact hq
      · refine lv_aload_n hx hb dX0_medianMiddle_41 rfl (lv_at hl 0 rfl) ?_
        refine lv_iload_n hx hb dX0_medianMiddle_42 rfl (lv_at hl 2 rfl) ?_
        refine ck_cV (As := [.int (nI i)]) (rest := []) ⟨hx, hb, hml, hown, hts⟩ (c_X0_middle l D h a1 a2 c1 c2 lo hi hd ow off go i hlt_i) (cwV 1 hts gX0_medianMiddle_X0_middle rfl rfl rfl (by decide +kernel) ⟨Nat.le_of_ble_eq_true rfl, Nat.le_of_ble_eq_true rfl⟩) hP hK (va_recv hK hP (ci := 0) (q0 := 0) rfl rfl) rfl hl.1 rfl (Nat.le_of_ble_eq_true rfl) dX0_medianMiddle_43 ⟨Nat.le_of_ble_eq_true rfl, Nat.le_of_ble_eq_true rfl⟩ ?_
        have hres : (ck_mid lo hi i) = (ck_md hd lo hi) := by rw [ck_md, ck_mdf_stay hlt_i (show ck_mdf (bt hd) lo hi ((ck_ns hd - 1) / 2) (i + 1) = some (ck_mid lo hi i) by simp [ck_mdf, hj_i, c_2, c_3])]; rfl
        exact W.lret (v := (ck_mid lo hi i)) hx hb hr (fun t ht _ => ⟨congrArg (fun z => Outcome.returned (some (Value.long z))) hres, ht⟩) (fun _ h => nomatch h) dX0_medianMiddle_46

set_option maxHeartbeats 4000000 in
set_option maxRecDepth 100000 in
theorem c_X0_nearTo (l : Launch) (D : va_G) (h a1 a2 : Nat) (c1 c2 : ClassId) (lo hi : Nat → Int64) (hd : Int32) (ow off go : Int64) (p0 : Int64) (lm : Int64)  : Met l yX0_nearTo wsX0_nearTo { frames := 3, cells := 0, slots := 0, locals := 67 } (va_Pc [.ref h, .long p0, .long lm] (ck_B D (xW h a1 a2 c1 c2 lo hi hd ow off go) (xT c1 c2))) (ck_R (.int (ck_nr hd lo hi p0 lm 24))) 0 0 (fun _ => False) := by
  refine Met.ofW (cc := cX0_nearTo) (maxL := 7) (ret := (some .int)) (by decide) rfl ?_
  intro p e s m args below meth c s₁ B hml hv
  obtain ⟨rfl, hP, hK⟩ := hv
  have hx := B.exec
  have hb := B.bytes
  have hr := B.returns
  have hts := atoms_spec (ws := wsX0_nearTo) B.pre
  have hown : s.vm.findClass RX0 = some m.cls := findClass_of_methodNamed B.named
  have hlocks := B.notSynchronized
  have hin : ∀ w ∈ wsX00, w ∈ wsX0_nearTo := fun _ h => List.mem_cons_of_mem _ (List.mem_append_right _ h)
  have hl := lv_entry ([.ref h, .long p0, .long lm]) (n := 7) (Nat.le_of_ble_eq_true rfl)
  rw [lg_entry_eq]
  generalize (lg_sl ([.ref h, .long p0, .long lm]) ++ List.replicate (7 - (lg_sl ([.ref h, .long p0, .long lm])).length) Slot.unset).toArray = ls at hl ⊢
  have hl : lv_has ls 7 [(0, .ref h), (1, .long p0), (3, .long lm)] := hl
  refine lv_aload_n hx hb dX0_nearTo_0 rfl (lv_at hl 0 rfl) ?_
  refine va_get (D := D) (ci := 0) (v := .int hd) (C := RX0) (T := TX0) (N := 6) hx hb hts hin hown hK hP 0 rfl rfl 2 (by decide) (hts (.fieldLink RX0 16 "ClockDesk" "held" "I") (by decide +kernel)) (fun _ h9 => h9) rfl dX0_nearTo_1 ?_
  refine lv_istore (lv' := [(5, .int hd), (0, .ref h), (1, .long p0), (3, .long lm)]) hx hb dX0_nearTo_4 hl (by decide) rfl (fun ls hl => ?_)
  refine lv_iconst (v := 0) hx hb dX0_nearTo_6 (by decide) ?_
  refine lv_istore (lv' := [(6, .int 0), (5, .int hd), (0, .ref h), (1, .long p0), (3, .long lm)]) hx hb dX0_nearTo_7 hl (by decide) rfl (fun ls hl => ?_)
  refine ck_loop (G := fun ls => W p l e _ s m _ below meth c _ _ _ _ _ (F0 m 9 ls [])) (nL := 7) (24) (fun i => True) (fun i => [(0, .ref h), (1, .long p0), (3, .long lm), (5, .int (ck_nr hd lo hi p0 lm i)), (6, .int (nI i))]) (fun i hle_i hj_i ih_i ls hl => ?_) ls (trivial) ?_
  rotate_left
  · have hq : lv_has ls 7 [(0, .ref h), (1, .long p0), (3, .long lm), (5, .int hd), (6, .int 0)] := lv_sub hl [2, 3, 4, 1, 0] rfl
    exact hq
  have hl : lv_has ls 7 [(0, .ref h), (1, .long p0), (3, .long lm), (5, .int (ck_nr hd lo hi p0 lm i)), (6, .int (nI i))] := hl
  refine lv_iload hx hb dX0_nearTo_9 (lv_at hl 4 rfl) ?_
  refine lv_bipush (v := 24) hx hb dX0_nearTo_11 (by decide) ?_
  refine lv_icmp_ge (tgt := 59) hx hb dX0_nearTo_13 (by decide) (fun c_1 => ?_) (fun c_1 => ?_)
  · have heq_i : i = 24 := ck_eqN hle_i c_1
    subst heq_i
    have hl : lv_has ls 7 [(0, .ref h), (1, .long p0), (3, .long lm), (5, .int (ck_nr hd lo hi p0 lm 24)), (6, .int (nI 24))] := hl
    refine lv_iload hx hb dX0_nearTo_59 (lv_at hl 3 rfl) ?_
    have hres : (ck_nr hd lo hi p0 lm 24) = (ck_nr hd lo hi p0 lm 24) := by rfl
    exact W.iret (v := (ck_nr hd lo hi p0 lm 24)) hx hb hr (fun t ht _ => ⟨congrArg (fun z => Outcome.returned (some (Value.int z))) hres, ht⟩) (fun _ h => nomatch h) dX0_nearTo_61
  · have hlt_i : i < 24 := ck_ltN hle_i c_1
    refine lv_aload_n hx hb dX0_nearTo_16 rfl (lv_at hl 0 rfl) ?_
    refine va_get (D := D) (ci := 0) (v := .int hd) (C := RX0) (T := TX0) (N := 6) hx hb hts hin hown hK hP 0 rfl rfl 2 (by decide) (hts (.fieldLink RX0 16 "ClockDesk" "held" "I") (by decide +kernel)) (fun _ h9 => h9) rfl dX0_nearTo_17 ?_
    refine lv_iload hx hb dX0_nearTo_20 (lv_at hl 4 rfl) ?_
    refine ck_cS (As := [.int hd, .int (nI i)]) (rest := []) ⟨hx, hb, hml, hown, hts⟩ (c_X0_isInN l hd i hlt_i) (va_cwS 2 hts gX0_nearTo_X0_isIn rfl rfl rfl (by decide +kernel) ⟨Nat.le_of_ble_eq_true rfl, Nat.le_of_ble_eq_true rfl⟩) rfl hl.1 rfl (Nat.le_of_ble_eq_true rfl) dX0_nearTo_22 ⟨Nat.le_of_ble_eq_true rfl, Nat.le_of_ble_eq_true rfl⟩ ?_
    refine lv_if_eq (tgt := 53) hx hb dX0_nearTo_25 (by decide) (fun c_2 => ?_) (fun c_2 => ?_)
    · have c_2 := ck_bf c_2
      refine lv_iinc (v := (nI (i + 1))) (lv' := [(6, .int (nI (i + 1))), (0, .ref h), (1, .long p0), (3, .long lm), (5, .int (ck_nr hd lo hi p0 lm i))]) hx hb dX0_nearTo_53 hl (k := 4) rfl (nI_1 i) (by decide) rfl (fun ls hl => ?_)
      refine lv_goto (tgt := 9) hx hb dX0_nearTo_56 (by decide) ?_
      refine ih_i ls hlt_i (trivial) ?_
      have hq : lv_has ls 7 [(0, .ref h), (1, .long p0), (3, .long lm), (5, .int (ck_nr hd lo hi p0 lm i)), (6, .int (nI (i + 1)))] := lv_sub hl [1, 2, 3, 4, 0] rfl
      have eq0 : (ck_nr hd lo hi p0 lm i) = (ck_nr hd lo hi p0 lm (i + 1)) := by simp [ck_nr, c_2]
      exact lv_eqq hq (by rw [← eq0])
    · have c_2 := ck_bt c_2
      refine lv_aload_n hx hb dX0_nearTo_28 rfl (lv_at hl 0 rfl) ?_
      refine lv_iload hx hb dX0_nearTo_29 (lv_at hl 4 rfl) ?_
      refine ck_cV (As := [.int (nI i)]) (rest := []) ⟨hx, hb, hml, hown, hts⟩ (c_X0_middle l D h a1 a2 c1 c2 lo hi hd ow off go i hlt_i) (cwV 1 hts gX0_nearTo_X0_middle rfl rfl rfl (by decide +kernel) ⟨Nat.le_of_ble_eq_true rfl, Nat.le_of_ble_eq_true rfl⟩) hP hK (va_recv hK hP (ci := 0) (q0 := 0) rfl rfl) rfl hl.1 rfl (Nat.le_of_ble_eq_true rfl) dX0_nearTo_31 ⟨Nat.le_of_ble_eq_true rfl, Nat.le_of_ble_eq_true rfl⟩ ?_
      refine lv_lload_n hx hb dX0_nearTo_34 rfl (lv_at hl 1 rfl) ?_
      refine lv_lsub hx hb dX0_nearTo_35 ?_
      refine ck_mabs hx hb (hml.trans hl.1.symm) hown (hts (.methodLink RX0 133 Lib.MathLoose.abs_long.x) (by decide +kernel)) (hts (.static Lib.MathLoose.abs_long.x) (by decide +kernel)) (hts (.initialized "java/lang/Math") (by decide +kernel)) (hts (.code Lib.MathLoose.abs_long.x Lib.MathLoose.abs_long.code 2 (some .long)) (by decide +kernel)) (Nat.le_of_ble_eq_true rfl) (Nat.le_of_ble_eq_true rfl) (Nat.le_of_ble_eq_true rfl) (Nat.le_of_ble_eq_true rfl) dX0_nearTo_36 ?_
      refine lv_lload_n hx hb dX0_nearTo_39 rfl (lv_at hl 2 rfl) ?_
      refine W.lcmp hx hb dX0_nearTo_40 ?_
      refine lv_if_le (tgt := 53) hx hb dX0_nearTo_41 (by decide) (fun c_3 => ?_) (fun c_3 => ?_)
      · rw [lg_cmp_le] at c_3
        refine lv_iinc (v := (nI (i + 1))) (lv' := [(6, .int (nI (i + 1))), (0, .ref h), (1, .long p0), (3, .long lm), (5, .int (ck_nr hd lo hi p0 lm i))]) hx hb dX0_nearTo_53 hl (k := 4) rfl (nI_1 i) (by decide) rfl (fun ls hl => ?_)
        refine lv_goto (tgt := 9) hx hb dX0_nearTo_56 (by decide) ?_
        refine ih_i ls hlt_i (trivial) ?_
        have hq : lv_has ls 7 [(0, .ref h), (1, .long p0), (3, .long lm), (5, .int (ck_nr hd lo hi p0 lm i)), (6, .int (nI (i + 1)))] := lv_sub hl [1, 2, 3, 4, 0] rfl
        have eq0 : (ck_nr hd lo hi p0 lm i) = (ck_nr hd lo hi p0 lm (i + 1)) := by simp [ck_nr, c_2, c_3]
        exact lv_eqq hq (by rw [← eq0])
      · rw [lg_cmp_le] at c_3
        refine lv_iload hx hb dX0_nearTo_44 (lv_at hl 3 rfl) ?_
        refine lv_iload hx hb dX0_nearTo_46 (lv_at hl 4 rfl) ?_
        refine ck_cS (As := [.int (ck_nr hd lo hi p0 lm i), .int (nI i)]) (rest := []) ⟨hx, hb, hml, hown, hts⟩ (c_X0_without l (ck_nr hd lo hi p0 lm i) (nI i)) (va_cwS 2 hts gX0_nearTo_X0_without rfl rfl rfl (by decide +kernel) ⟨Nat.le_of_ble_eq_true rfl, Nat.le_of_ble_eq_true rfl⟩) rfl hl.1 rfl (Nat.le_of_ble_eq_true rfl) dX0_nearTo_48 ⟨Nat.le_of_ble_eq_true rfl, Nat.le_of_ble_eq_true rfl⟩ ?_
        refine lv_istore (lv' := [(5, .int (ck_wo (ck_nr hd lo hi p0 lm i) (nI i))), (0, .ref h), (1, .long p0), (3, .long lm), (6, .int (nI i))]) hx hb dX0_nearTo_51 hl (by decide) rfl (fun ls hl => ?_)
        refine lv_iinc (v := (nI (i + 1))) (lv' := [(6, .int (nI (i + 1))), (5, .int (ck_wo (ck_nr hd lo hi p0 lm i) (nI i))), (0, .ref h), (1, .long p0), (3, .long lm)]) hx hb dX0_nearTo_53 hl (k := 4) rfl (nI_1 i) (by decide) rfl (fun ls hl => ?_)
        refine lv_goto (tgt := 9) hx hb dX0_nearTo_56 (by decide) ?_
        refine ih_i ls hlt_i (trivial) ?_
        have hq : lv_has ls 7 [(0, .ref h), (1, .long p0), (3, .long lm), (5, .int (ck_wo (ck_nr hd lo hi p0 lm i) (nI i))), (6, .int (nI (i + 1)))] := lv_sub hl [2, 3, 4, 1, 0] rfl
        have eq0 : (ck_wo (ck_nr hd lo hi p0 lm i) (nI i)) = (ck_nr hd lo hi p0 lm (i + 1)) := by simp [ck_nr, c_2, c_3]
        exact lv_eqq hq (by rw [← eq0])

set_option maxHeartbeats 4000000 in
set_option maxRecDepth 100000 in
theorem c_X0_meanMiddle (l : Launch) (D : va_G) (h a1 a2 : Nat) (c1 c2 : ClassId) (lo hi : Nat → Int64) (hd : Int32) (ow off go : Int64) (set : Int32)  : Met l yX0_meanMiddle wsX0_meanMiddle { frames := 3, cells := 0, slots := 0, locals := 67 } (va_Pc [.ref h, .int set] (ck_B D (xW h a1 a2 c1 c2 lo hi hd ow off go) (xT c1 c2))) (ck_R (.long (ck_mm set lo hi))) 0 0 (fun _ => False) := by
  refine Met.ofW (cc := cX0_meanMiddle) (maxL := 5) (ret := (some .long)) (by decide) rfl ?_
  intro p e s m args below meth c s₁ B hml hv
  obtain ⟨rfl, hP, hK⟩ := hv
  have hx := B.exec
  have hb := B.bytes
  have hr := B.returns
  have hts := atoms_spec (ws := wsX0_meanMiddle) B.pre
  have hown : s.vm.findClass RX0 = some m.cls := findClass_of_methodNamed B.named
  have hlocks := B.notSynchronized
  have hin : ∀ w ∈ wsX00, w ∈ wsX0_meanMiddle := fun _ h => List.mem_cons_of_mem _ (List.mem_append_right _ h)
  have hl := lv_entry ([.ref h, .int set]) (n := 5) (Nat.le_of_ble_eq_true rfl)
  rw [lg_entry_eq]
  generalize (lg_sl ([.ref h, .int set]) ++ List.replicate (5 - (lg_sl ([.ref h, .int set])).length) Slot.unset).toArray = ls at hl ⊢
  have hl : lv_has ls 5 [(0, .ref h), (1, .int set)] := hl
  refine lv_iload_n hx hb dX0_meanMiddle_0 rfl (lv_at hl 1 rfl) ?_
  refine lv_if_ne (tgt := 8) hx hb dX0_meanMiddle_1 (by decide) (fun c_1 => ?_) (fun c_1 => ?_)
  · refine lv_lconst (v := 0) hx hb dX0_meanMiddle_8 (by decide) ?_
    refine lv_lstore_n (lv' := [(2, .long 0), (0, .ref h), (1, .int set)]) hx hb dX0_meanMiddle_9 rfl hl (by decide) rfl (fun ls hl => ?_)
    refine lv_iconst (v := 0) hx hb dX0_meanMiddle_10 (by decide) ?_
    refine lv_istore (lv' := [(4, .int 0), (2, .long 0), (0, .ref h), (1, .int set)]) hx hb dX0_meanMiddle_11 hl (by decide) rfl (fun ls hl => ?_)
    refine ck_loop (G := fun ls => W p l e _ s m _ below meth c _ _ _ _ _ (F0 m 13 ls [])) (nL := 5) (24) (fun i => True) (fun i => [(0, .ref h), (1, .int set), (2, .long (ck_sm (bt set) lo hi i)), (4, .int (nI i))]) (fun i hle_i hj_i ih_i ls hl => ?_) ls (trivial) ?_
    rotate_left
    · have hq : lv_has ls 5 [(0, .ref h), (1, .int set), (2, .long 0), (4, .int 0)] := lv_sub hl [2, 3, 1, 0] rfl
      exact hq
    have hl : lv_has ls 5 [(0, .ref h), (1, .int set), (2, .long (ck_sm (bt set) lo hi i)), (4, .int (nI i))] := hl
    refine lv_iload hx hb dX0_meanMiddle_13 (lv_at hl 3 rfl) ?_
    refine lv_bipush (v := 24) hx hb dX0_meanMiddle_15 (by decide) ?_
    refine lv_icmp_ge (tgt := 44) hx hb dX0_meanMiddle_17 (by decide) (fun c_2 => ?_) (fun c_2 => ?_)
    · have heq_i : i = 24 := ck_eqN hle_i c_2
      subst heq_i
      have hl : lv_has ls 5 [(0, .ref h), (1, .int set), (2, .long (ck_sm (bt set) lo hi 24)), (4, .int (nI 24))] := hl
      refine lv_lload_n hx hb dX0_meanMiddle_44 rfl (lv_at hl 2 rfl) ?_
      refine lv_iload_n hx hb dX0_meanMiddle_45 rfl (lv_at hl 1 rfl) ?_
      refine ck_cS (As := [.int set]) (rest := [.long (ck_sm (bt set) lo hi 24)]) ⟨hx, hb, hml, hown, hts⟩ (c_J6_bitCount_0f7a4 l set) (va_cwS 1 hts gX0_meanMiddle_J6_bitCount_0f7a4 rfl rfl rfl (by decide +kernel) ⟨Nat.le_of_ble_eq_true rfl, Nat.le_of_ble_eq_true rfl⟩) rfl hl.1 rfl (Nat.le_of_ble_eq_true rfl) dX0_meanMiddle_46 ⟨Nat.le_of_ble_eq_true rfl, Nat.le_of_ble_eq_true rfl⟩ ?_
      refine lv_i2l (v := (Int32.toInt64 (ck_ns set))) hx hb dX0_meanMiddle_49 rfl ?_
      refine ck_cS (As := [.long (ck_sm (bt set) lo hi 24), .long (Int32.toInt64 (ck_ns set))]) (rest := []) ⟨hx, hb, hml, hown, hts⟩ (c_J9_floorDiv_f86c9 l (ck_sm (bt set) lo hi 24) (Int32.toInt64 (ck_ns set)) (ck_nz c_1)) (va_cwS 2 hts gX0_meanMiddle_J9_floorDiv_f86c9 rfl rfl rfl (by decide +kernel) ⟨Nat.le_of_ble_eq_true rfl, Nat.le_of_ble_eq_true rfl⟩) rfl hl.1 rfl (Nat.le_of_ble_eq_true rfl) dX0_meanMiddle_50 ⟨Nat.le_of_ble_eq_true rfl, Nat.le_of_ble_eq_true rfl⟩ ?_
      have hres : (ck_fd (ck_sm (bt set) lo hi 24) (Int32.toInt64 (ck_ns set))) = (ck_mm set lo hi) := by simp [ck_mm, c_1]
      exact W.lret (v := (ck_fd (ck_sm (bt set) lo hi 24) (Int32.toInt64 (ck_ns set)))) hx hb hr (fun t ht _ => ⟨congrArg (fun z => Outcome.returned (some (Value.long z))) hres, ht⟩) (fun _ h => nomatch h) dX0_meanMiddle_53
    · have hlt_i : i < 24 := ck_ltN hle_i c_2
      refine lv_iload_n hx hb dX0_meanMiddle_20 rfl (lv_at hl 1 rfl) ?_
      refine lv_iload hx hb dX0_meanMiddle_21 (lv_at hl 3 rfl) ?_
      refine ck_cS (As := [.int set, .int (nI i)]) (rest := []) ⟨hx, hb, hml, hown, hts⟩ (c_X0_isInN l set i hlt_i) (va_cwS 2 hts gX0_meanMiddle_X0_isIn rfl rfl rfl (by decide +kernel) ⟨Nat.le_of_ble_eq_true rfl, Nat.le_of_ble_eq_true rfl⟩) rfl hl.1 rfl (Nat.le_of_ble_eq_true rfl) dX0_meanMiddle_23 ⟨Nat.le_of_ble_eq_true rfl, Nat.le_of_ble_eq_true rfl⟩ ?_
      refine lv_if_eq (tgt := 38) hx hb dX0_meanMiddle_26 (by decide) (fun c_3 => ?_) (fun c_3 => ?_)
      · have c_3 := ck_bf c_3
        refine lv_iinc (v := (nI (i + 1))) (lv' := [(4, .int (nI (i + 1))), (0, .ref h), (1, .int set), (2, .long (ck_sm (bt set) lo hi i))]) hx hb dX0_meanMiddle_38 hl (k := 3) rfl (nI_1 i) (by decide) rfl (fun ls hl => ?_)
        refine lv_goto (tgt := 13) hx hb dX0_meanMiddle_41 (by decide) ?_
        refine ih_i ls hlt_i (trivial) ?_
        have hq : lv_has ls 5 [(0, .ref h), (1, .int set), (2, .long (ck_sm (bt set) lo hi i)), (4, .int (nI (i + 1)))] := lv_sub hl [1, 2, 3, 0] rfl
        have eq0 : (ck_sm (bt set) lo hi i) = (ck_sm (bt set) lo hi (i + 1)) := by simp [ck_sm, c_3]
        exact lv_eqq hq (by rw [← eq0])
      · have c_3 := ck_bt c_3
        refine lv_lload_n hx hb dX0_meanMiddle_29 rfl (lv_at hl 2 rfl) ?_
        refine lv_aload_n hx hb dX0_meanMiddle_30 rfl (lv_at hl 0 rfl) ?_
        refine lv_iload hx hb dX0_meanMiddle_31 (lv_at hl 3 rfl) ?_
        refine ck_cV (As := [.int (nI i)]) (rest := [.long (ck_sm (bt set) lo hi i)]) ⟨hx, hb, hml, hown, hts⟩ (c_X0_middle l D h a1 a2 c1 c2 lo hi hd ow off go i hlt_i) (cwV 1 hts gX0_meanMiddle_X0_middle rfl rfl rfl (by decide +kernel) ⟨Nat.le_of_ble_eq_true rfl, Nat.le_of_ble_eq_true rfl⟩) hP hK (va_recv hK hP (ci := 0) (q0 := 0) rfl rfl) rfl hl.1 rfl (Nat.le_of_ble_eq_true rfl) dX0_meanMiddle_33 ⟨Nat.le_of_ble_eq_true rfl, Nat.le_of_ble_eq_true rfl⟩ ?_
        refine lv_ladd hx hb dX0_meanMiddle_36 ?_
        refine lv_lstore_n (lv' := [(2, .long ((ck_sm (bt set) lo hi i) + (ck_mid lo hi i))), (0, .ref h), (1, .int set), (4, .int (nI i))]) hx hb dX0_meanMiddle_37 rfl hl (by decide) rfl (fun ls hl => ?_)
        refine lv_iinc (v := (nI (i + 1))) (lv' := [(4, .int (nI (i + 1))), (2, .long ((ck_sm (bt set) lo hi i) + (ck_mid lo hi i))), (0, .ref h), (1, .int set)]) hx hb dX0_meanMiddle_38 hl (k := 3) rfl (nI_1 i) (by decide) rfl (fun ls hl => ?_)
        refine lv_goto (tgt := 13) hx hb dX0_meanMiddle_41 (by decide) ?_
        refine ih_i ls hlt_i (trivial) ?_
        have hq : lv_has ls 5 [(0, .ref h), (1, .int set), (2, .long ((ck_sm (bt set) lo hi i) + (ck_mid lo hi i))), (4, .int (nI (i + 1)))] := lv_sub hl [2, 3, 1, 0] rfl
        have eq0 : ((ck_sm (bt set) lo hi i) + (ck_mid lo hi i)) = (ck_sm (bt set) lo hi (i + 1)) := by simp [ck_sm, c_3]
        exact lv_eqq hq (by rw [← eq0])
  · refine lv_ldc2 (v := ck_NO) hx hb hown (hts (.constantLong RX0 46 ck_NO) (by decide +kernel)) dX0_meanMiddle_4 ?_
    have hres : ck_NO = (ck_mm set lo hi) := by simp [ck_mm, c_1]
    exact W.lret (v := ck_NO) hx hb hr (fun t ht _ => ⟨congrArg (fun z => Outcome.returned (some (Value.long z))) hres, ht⟩) (fun _ h => nomatch h) dX0_meanMiddle_7

set_option maxHeartbeats 4000000 in
set_option maxRecDepth 100000 in
theorem c_X0_farthest (l : Launch) (D : va_G) (h a1 a2 : Nat) (c1 c2 : ClassId) (lo hi : Nat → Int64) (hd : Int32) (ow off go : Int64) (set : Int32)  : Met l yX0_farthest wsX0_farthest { frames := 4, cells := 0, slots := 0, locals := 91 } (va_Pc [.ref h, .int set] (ck_B D (xW h a1 a2 c1 c2 lo hi hd ow off go) (xT c1 c2))) (ck_R (.int (ck_far set lo hi))) 0 0 (fun _ => False) := by
  refine Met.ofW (cc := cX0_farthest) (maxL := 8) (ret := (some .int)) (by decide) rfl ?_
  intro p e s m args below meth c s₁ B hml hv
  obtain ⟨rfl, hP, hK⟩ := hv
  have hx := B.exec
  have hb := B.bytes
  have hr := B.returns
  have hts := atoms_spec (ws := wsX0_farthest) B.pre
  have hown : s.vm.findClass RX0 = some m.cls := findClass_of_methodNamed B.named
  have hlocks := B.notSynchronized
  have hin : ∀ w ∈ wsX00, w ∈ wsX0_farthest := fun _ h => List.mem_cons_of_mem _ (List.mem_append_right _ h)
  have hl := lv_entry ([.ref h, .int set]) (n := 8) (Nat.le_of_ble_eq_true rfl)
  rw [lg_entry_eq]
  generalize (lg_sl ([.ref h, .int set]) ++ List.replicate (8 - (lg_sl ([.ref h, .int set])).length) Slot.unset).toArray = ls at hl ⊢
  have hl : lv_has ls 8 [(0, .ref h), (1, .int set)] := hl
  refine lv_aload_n hx hb dX0_farthest_0 rfl (lv_at hl 0 rfl) ?_
  refine lv_iload_n hx hb dX0_farthest_1 rfl (lv_at hl 1 rfl) ?_
  refine ck_cV (As := [.int set]) (rest := []) ⟨hx, hb, hml, hown, hts⟩ (c_X0_meanMiddle l D h a1 a2 c1 c2 lo hi hd ow off go set) (cwV 1 hts gX0_farthest_X0_meanMiddle rfl rfl rfl (by decide +kernel) ⟨Nat.le_of_ble_eq_true rfl, Nat.le_of_ble_eq_true rfl⟩) hP hK (va_recv hK hP (ci := 0) (q0 := 0) rfl rfl) rfl hl.1 rfl (Nat.le_of_ble_eq_true rfl) dX0_farthest_2 ⟨Nat.le_of_ble_eq_true rfl, Nat.le_of_ble_eq_true rfl⟩ ?_
  refine lv_lstore_n (lv' := [(2, .long (ck_mm set lo hi)), (0, .ref h), (1, .int set)]) hx hb dX0_farthest_5 rfl hl (by decide) rfl (fun ls hl => ?_)
  refine lv_lconst (v := 0) hx hb dX0_farthest_6 (by decide) ?_
  refine lv_lstore (lv' := [(4, .long 0), (2, .long (ck_mm set lo hi)), (0, .ref h), (1, .int set)]) hx hb dX0_farthest_7 hl (by decide) rfl (fun ls hl => ?_)
  refine lv_iconst (v := 0) hx hb dX0_farthest_9 (by decide) ?_
  refine lv_istore (lv' := [(6, .int 0), (4, .long 0), (2, .long (ck_mm set lo hi)), (0, .ref h), (1, .int set)]) hx hb dX0_farthest_10 hl (by decide) rfl (fun ls hl => ?_)
  refine lv_iconst (v := 0) hx hb dX0_farthest_12 (by decide) ?_
  refine lv_istore (lv' := [(7, .int 0), (6, .int 0), (4, .long 0), (2, .long (ck_mm set lo hi)), (0, .ref h), (1, .int set)]) hx hb dX0_farthest_13 hl (by decide) rfl (fun ls hl => ?_)
  refine ck_loop (G := fun ls => W p l e _ s m _ below meth c _ _ _ _ _ (F0 m 15 ls [])) (nL := 8) (24) (fun i => True) (fun i => [(0, .ref h), (1, .int set), (2, .long (ck_mm set lo hi)), (4, .long (ck_fm set lo hi (ck_mm set lo hi) i).1), (6, .int (ck_fm set lo hi (ck_mm set lo hi) i).2), (7, .int (nI i))]) (fun i hle_i hj_i ih_i ls hl => ?_) ls (trivial) ?_
  rotate_left
  · have hq : lv_has ls 8 [(0, .ref h), (1, .int set), (2, .long (ck_mm set lo hi)), (4, .long 0), (6, .int 0), (7, .int 0)] := lv_sub hl [4, 5, 3, 2, 1, 0] rfl
    exact hq
  have hl : lv_has ls 8 [(0, .ref h), (1, .int set), (2, .long (ck_mm set lo hi)), (4, .long (ck_fm set lo hi (ck_mm set lo hi) i).1), (6, .int (ck_fm set lo hi (ck_mm set lo hi) i).2), (7, .int (nI i))] := hl
  refine lv_iload hx hb dX0_farthest_15 (lv_at hl 5 rfl) ?_
  refine lv_bipush (v := 24) hx hb dX0_farthest_17 (by decide) ?_
  refine lv_icmp_ge (tgt := 71) hx hb dX0_farthest_19 (by decide) (fun c_1 => ?_) (fun c_1 => ?_)
  · have heq_i : i = 24 := ck_eqN hle_i c_1
    subst heq_i
    have hl : lv_has ls 8 [(0, .ref h), (1, .int set), (2, .long (ck_mm set lo hi)), (4, .long (ck_fm set lo hi (ck_mm set lo hi) 24).1), (6, .int (ck_fm set lo hi (ck_mm set lo hi) 24).2), (7, .int (nI 24))] := hl
    refine lv_iload hx hb dX0_farthest_71 (lv_at hl 4 rfl) ?_
    have hres : (ck_fm set lo hi (ck_mm set lo hi) 24).2 = (ck_far set lo hi) := by rfl
    exact W.iret (v := (ck_fm set lo hi (ck_mm set lo hi) 24).2) hx hb hr (fun t ht _ => ⟨congrArg (fun z => Outcome.returned (some (Value.int z))) hres, ht⟩) (fun _ h => nomatch h) dX0_farthest_73
  · have hlt_i : i < 24 := ck_ltN hle_i c_1
    refine lv_iload_n hx hb dX0_farthest_22 rfl (lv_at hl 1 rfl) ?_
    refine lv_iload hx hb dX0_farthest_23 (lv_at hl 5 rfl) ?_
    refine ck_cS (As := [.int set, .int (nI i)]) (rest := []) ⟨hx, hb, hml, hown, hts⟩ (c_X0_isInN l set i hlt_i) (va_cwS 2 hts gX0_farthest_X0_isIn rfl rfl rfl (by decide +kernel) ⟨Nat.le_of_ble_eq_true rfl, Nat.le_of_ble_eq_true rfl⟩) rfl hl.1 rfl (Nat.le_of_ble_eq_true rfl) dX0_farthest_25 ⟨Nat.le_of_ble_eq_true rfl, Nat.le_of_ble_eq_true rfl⟩ ?_
    refine lv_if_eq (tgt := 65) hx hb dX0_farthest_28 (by decide) (fun c_2 => ?_) (fun c_2 => ?_)
    · have c_2 := ck_bf c_2
      refine lv_iinc (v := (nI (i + 1))) (lv' := [(7, .int (nI (i + 1))), (0, .ref h), (1, .int set), (2, .long (ck_mm set lo hi)), (4, .long (ck_fm set lo hi (ck_mm set lo hi) i).1), (6, .int (ck_fm set lo hi (ck_mm set lo hi) i).2)]) hx hb dX0_farthest_65 hl (k := 5) rfl (nI_1 i) (by decide) rfl (fun ls hl => ?_)
      refine lv_goto (tgt := 15) hx hb dX0_farthest_68 (by decide) ?_
      refine ih_i ls hlt_i (trivial) ?_
      have hq : lv_has ls 8 [(0, .ref h), (1, .int set), (2, .long (ck_mm set lo hi)), (4, .long (ck_fm set lo hi (ck_mm set lo hi) i).1), (6, .int (ck_fm set lo hi (ck_mm set lo hi) i).2), (7, .int (nI (i + 1)))] := lv_sub hl [1, 2, 3, 4, 5, 0] rfl
      have eq0 : (ck_fm set lo hi (ck_mm set lo hi) i).1 = (ck_fm set lo hi (ck_mm set lo hi) (i + 1)).1 := by simp [ck_fm, c_2]
      have eq1 : (ck_fm set lo hi (ck_mm set lo hi) i).2 = (ck_fm set lo hi (ck_mm set lo hi) (i + 1)).2 := by simp [ck_fm, c_2]
      exact lv_eqq hq (by rw [← eq0, ← eq1])
    · have c_2 := ck_bt c_2
      refine lv_aload_n hx hb dX0_farthest_31 rfl (lv_at hl 0 rfl) ?_
      refine lv_iload hx hb dX0_farthest_32 (lv_at hl 5 rfl) ?_
      refine ck_cV (As := [.int (nI i)]) (rest := []) ⟨hx, hb, hml, hown, hts⟩ (c_X0_middle l D h a1 a2 c1 c2 lo hi hd ow off go i hlt_i) (cwV 1 hts gX0_farthest_X0_middle rfl rfl rfl (by decide +kernel) ⟨Nat.le_of_ble_eq_true rfl, Nat.le_of_ble_eq_true rfl⟩) hP hK (va_recv hK hP (ci := 0) (q0 := 0) rfl rfl) rfl hl.1 rfl (Nat.le_of_ble_eq_true rfl) dX0_farthest_34 ⟨Nat.le_of_ble_eq_true rfl, Nat.le_of_ble_eq_true rfl⟩ ?_
      refine lv_lload_n hx hb dX0_farthest_37 rfl (lv_at hl 2 rfl) ?_
      refine lv_lsub hx hb dX0_farthest_38 ?_
      refine ck_mabs hx hb (hml.trans hl.1.symm) hown (hts (.methodLink RX0 133 Lib.MathLoose.abs_long.x) (by decide +kernel)) (hts (.static Lib.MathLoose.abs_long.x) (by decide +kernel)) (hts (.initialized "java/lang/Math") (by decide +kernel)) (hts (.code Lib.MathLoose.abs_long.x Lib.MathLoose.abs_long.code 2 (some .long)) (by decide +kernel)) (Nat.le_of_ble_eq_true rfl) (Nat.le_of_ble_eq_true rfl) (Nat.le_of_ble_eq_true rfl) (Nat.le_of_ble_eq_true rfl) dX0_farthest_39 ?_
      refine lv_lload hx hb dX0_farthest_42 (lv_at hl 3 rfl) ?_
      refine W.lcmp hx hb dX0_farthest_44 ?_
      refine lv_if_lt (tgt := 65) hx hb dX0_farthest_45 (by decide) (fun c_3 => ?_) (fun c_3 => ?_)
      · rw [lg_cmp_lt] at c_3
        refine lv_iinc (v := (nI (i + 1))) (lv' := [(7, .int (nI (i + 1))), (0, .ref h), (1, .int set), (2, .long (ck_mm set lo hi)), (4, .long (ck_fm set lo hi (ck_mm set lo hi) i).1), (6, .int (ck_fm set lo hi (ck_mm set lo hi) i).2)]) hx hb dX0_farthest_65 hl (k := 5) rfl (nI_1 i) (by decide) rfl (fun ls hl => ?_)
        refine lv_goto (tgt := 15) hx hb dX0_farthest_68 (by decide) ?_
        refine ih_i ls hlt_i (trivial) ?_
        have hq : lv_has ls 8 [(0, .ref h), (1, .int set), (2, .long (ck_mm set lo hi)), (4, .long (ck_fm set lo hi (ck_mm set lo hi) i).1), (6, .int (ck_fm set lo hi (ck_mm set lo hi) i).2), (7, .int (nI (i + 1)))] := lv_sub hl [1, 2, 3, 4, 5, 0] rfl
        have eq0 : (ck_fm set lo hi (ck_mm set lo hi) i).1 = (ck_fm set lo hi (ck_mm set lo hi) (i + 1)).1 := by simp [ck_fm, c_2, c_3]
        have eq1 : (ck_fm set lo hi (ck_mm set lo hi) i).2 = (ck_fm set lo hi (ck_mm set lo hi) (i + 1)).2 := by simp [ck_fm, c_2, c_3]
        exact lv_eqq hq (by rw [← eq0, ← eq1])
      · rw [lg_cmp_lt] at c_3
        refine lv_aload_n hx hb dX0_farthest_48 rfl (lv_at hl 0 rfl) ?_
        refine lv_iload hx hb dX0_farthest_49 (lv_at hl 5 rfl) ?_
        refine ck_cV (As := [.int (nI i)]) (rest := []) ⟨hx, hb, hml, hown, hts⟩ (c_X0_middle l D h a1 a2 c1 c2 lo hi hd ow off go i hlt_i) (cwV 1 hts gX0_farthest_X0_middle rfl rfl rfl (by decide +kernel) ⟨Nat.le_of_ble_eq_true rfl, Nat.le_of_ble_eq_true rfl⟩) hP hK (va_recv hK hP (ci := 0) (q0 := 0) rfl rfl) rfl hl.1 rfl (Nat.le_of_ble_eq_true rfl) dX0_farthest_51 ⟨Nat.le_of_ble_eq_true rfl, Nat.le_of_ble_eq_true rfl⟩ ?_
        refine lv_lload_n hx hb dX0_farthest_54 rfl (lv_at hl 2 rfl) ?_
        refine lv_lsub hx hb dX0_farthest_55 ?_
        refine ck_mabs hx hb (hml.trans hl.1.symm) hown (hts (.methodLink RX0 133 Lib.MathLoose.abs_long.x) (by decide +kernel)) (hts (.static Lib.MathLoose.abs_long.x) (by decide +kernel)) (hts (.initialized "java/lang/Math") (by decide +kernel)) (hts (.code Lib.MathLoose.abs_long.x Lib.MathLoose.abs_long.code 2 (some .long)) (by decide +kernel)) (Nat.le_of_ble_eq_true rfl) (Nat.le_of_ble_eq_true rfl) (Nat.le_of_ble_eq_true rfl) (Nat.le_of_ble_eq_true rfl) dX0_farthest_56 ?_
        refine lv_lstore (lv' := [(4, .long (ck_abs ((ck_mid lo hi i) - (ck_mm set lo hi)))), (0, .ref h), (1, .int set), (2, .long (ck_mm set lo hi)), (6, .int (ck_fm set lo hi (ck_mm set lo hi) i).2), (7, .int (nI i))]) hx hb dX0_farthest_59 hl (by decide) rfl (fun ls hl => ?_)
        refine lv_iload hx hb dX0_farthest_61 (lv_at hl 5 rfl) ?_
        refine lv_istore (lv' := [(6, .int (nI i)), (4, .long (ck_abs ((ck_mid lo hi i) - (ck_mm set lo hi)))), (0, .ref h), (1, .int set), (2, .long (ck_mm set lo hi)), (7, .int (nI i))]) hx hb dX0_farthest_63 hl (by decide) rfl (fun ls hl => ?_)
        refine lv_iinc (v := (nI (i + 1))) (lv' := [(7, .int (nI (i + 1))), (6, .int (nI i)), (4, .long (ck_abs ((ck_mid lo hi i) - (ck_mm set lo hi)))), (0, .ref h), (1, .int set), (2, .long (ck_mm set lo hi))]) hx hb dX0_farthest_65 hl (k := 5) rfl (nI_1 i) (by decide) rfl (fun ls hl => ?_)
        refine lv_goto (tgt := 15) hx hb dX0_farthest_68 (by decide) ?_
        refine ih_i ls hlt_i (trivial) ?_
        have hq : lv_has ls 8 [(0, .ref h), (1, .int set), (2, .long (ck_mm set lo hi)), (4, .long (ck_abs ((ck_mid lo hi i) - (ck_mm set lo hi)))), (6, .int (nI i)), (7, .int (nI (i + 1)))] := lv_sub hl [3, 4, 5, 2, 1, 0] rfl
        have eq0 : (ck_abs ((ck_mid lo hi i) - (ck_mm set lo hi))) = (ck_fm set lo hi (ck_mm set lo hi) (i + 1)).1 := by simp [ck_fm, c_2, c_3]
        have eq1 : (nI i) = (ck_fm set lo hi (ck_mm set lo hi) (i + 1)).2 := by simp [ck_fm, c_2, c_3]
        exact lv_eqq hq (by rw [← eq0, ← eq1])

set_option maxHeartbeats 4000000 in
set_option maxRecDepth 100000 in
theorem c_X0_leftOf (l : Launch) (D : va_G) (h a1 a2 : Nat) (c1 c2 : ClassId) (lo hi : Nat → Int64) (hd : Int32) (ow off go : Int64) (k : Int32)  : Met l yX0_leftOf wsX0_leftOf { frames := 5, cells := 0, slots := 0, locals := 118 } (va_Pc [.ref h, .int k] (ck_B D (xW h a1 a2 c1 c2 lo hi hd ow off go) (xT c1 c2))) (ck_R (.int (ck_lf hd lo hi k 24))) 0 0 (fun _ => False) := by
  refine Met.ofW (cc := cX0_leftOf) (maxL := 4) (ret := (some .int)) (by decide) rfl ?_
  intro p e s m args below meth c s₁ B hml hv
  obtain ⟨rfl, hP, hK⟩ := hv
  have hx := B.exec
  have hb := B.bytes
  have hr := B.returns
  have hts := atoms_spec (ws := wsX0_leftOf) B.pre
  have hown : s.vm.findClass RX0 = some m.cls := findClass_of_methodNamed B.named
  have hlocks := B.notSynchronized
  have hin : ∀ w ∈ wsX00, w ∈ wsX0_leftOf := fun _ h => List.mem_cons_of_mem _ (List.mem_append_right _ h)
  have hl := lv_entry ([.ref h, .int k]) (n := 4) (Nat.le_of_ble_eq_true rfl)
  rw [lg_entry_eq]
  generalize (lg_sl ([.ref h, .int k]) ++ List.replicate (4 - (lg_sl ([.ref h, .int k])).length) Slot.unset).toArray = ls at hl ⊢
  have hl : lv_has ls 4 [(0, .ref h), (1, .int k)] := hl
  refine lv_aload_n hx hb dX0_leftOf_0 rfl (lv_at hl 0 rfl) ?_
  refine va_get (D := D) (ci := 0) (v := .int hd) (C := RX0) (T := TX0) (N := 6) hx hb hts hin hown hK hP 0 rfl rfl 2 (by decide) (hts (.fieldLink RX0 16 "ClockDesk" "held" "I") (by decide +kernel)) (fun _ h9 => h9) rfl dX0_leftOf_1 ?_
  refine lv_istore_n (lv' := [(2, .int hd), (0, .ref h), (1, .int k)]) hx hb dX0_leftOf_4 rfl hl (by decide) rfl (fun ls hl => ?_)
  refine lv_iconst (v := 0) hx hb dX0_leftOf_5 (by decide) ?_
  refine lv_istore_n (lv' := [(3, .int 0), (2, .int hd), (0, .ref h), (1, .int k)]) hx hb dX0_leftOf_6 rfl hl (by decide) rfl (fun ls hl => ?_)
  refine ck_loop (G := fun ls => W p l e _ s m _ below meth c _ _ _ _ _ (F0 m 7 ls [])) (nL := 4) (24) (fun i => True) (fun i => [(0, .ref h), (1, .int k), (2, .int (ck_lf hd lo hi k i)), (3, .int (nI i))]) (fun i hle_i hj_i ih_i ls hl => ?_) ls (trivial) ?_
  rotate_left
  · have hq : lv_has ls 4 [(0, .ref h), (1, .int k), (2, .int hd), (3, .int 0)] := lv_sub hl [2, 3, 1, 0] rfl
    exact hq
  have hl : lv_has ls 4 [(0, .ref h), (1, .int k), (2, .int (ck_lf hd lo hi k i)), (3, .int (nI i))] := hl
  refine lv_iload_n hx hb dX0_leftOf_7 rfl (lv_at hl 3 rfl) ?_
  refine lv_bipush (v := 24) hx hb dX0_leftOf_8 (by decide) ?_
  refine lv_icmp_ge (tgt := 37) hx hb dX0_leftOf_10 (by decide) (fun c_1 => ?_) (fun c_1 => ?_)
  · have heq_i : i = 24 := ck_eqN hle_i c_1
    subst heq_i
    have hl : lv_has ls 4 [(0, .ref h), (1, .int k), (2, .int (ck_lf hd lo hi k 24)), (3, .int (nI 24))] := hl
    refine lv_iload_n hx hb dX0_leftOf_37 rfl (lv_at hl 2 rfl) ?_
    have hres : (ck_lf hd lo hi k 24) = (ck_lf hd lo hi k 24) := by rfl
    exact W.iret (v := (ck_lf hd lo hi k 24)) hx hb hr (fun t ht _ => ⟨congrArg (fun z => Outcome.returned (some (Value.int z))) hres, ht⟩) (fun _ h => nomatch h) dX0_leftOf_38
  · have hlt_i : i < 24 := ck_ltN hle_i c_1
    refine lv_iload_n hx hb dX0_leftOf_13 rfl (lv_at hl 2 rfl) ?_
    refine ck_cS (As := [.int (ck_lf hd lo hi k i)]) (rest := []) ⟨hx, hb, hml, hown, hts⟩ (c_J6_bitCount_0f7a4 l (ck_lf hd lo hi k i)) (va_cwS 1 hts gX0_leftOf_J6_bitCount_0f7a4 rfl rfl rfl (by decide +kernel) ⟨Nat.le_of_ble_eq_true rfl, Nat.le_of_ble_eq_true rfl⟩) rfl hl.1 rfl (Nat.le_of_ble_eq_true rfl) dX0_leftOf_14 ⟨Nat.le_of_ble_eq_true rfl, Nat.le_of_ble_eq_true rfl⟩ ?_
    refine lv_iload_n hx hb dX0_leftOf_17 rfl (lv_at hl 1 rfl) ?_
    refine lv_icmp_le (tgt := 37) hx hb dX0_leftOf_18 (by decide) (fun c_2 => ?_) (fun c_2 => ?_)
    · refine lv_iload_n hx hb dX0_leftOf_37 rfl (lv_at hl 2 rfl) ?_
      have hres : (ck_lf hd lo hi k i) = (ck_lf hd lo hi k 24) := by exact ck_lf_stop c_2 hle_i
      exact W.iret (v := (ck_lf hd lo hi k i)) hx hb hr (fun t ht _ => ⟨congrArg (fun z => Outcome.returned (some (Value.int z))) hres, ht⟩) (fun _ h => nomatch h) dX0_leftOf_38
    · refine lv_iload_n hx hb dX0_leftOf_21 rfl (lv_at hl 2 rfl) ?_
      refine lv_aload_n hx hb dX0_leftOf_22 rfl (lv_at hl 0 rfl) ?_
      refine lv_iload_n hx hb dX0_leftOf_23 rfl (lv_at hl 2 rfl) ?_
      refine ck_cV (As := [.int (ck_lf hd lo hi k i)]) (rest := [.int (ck_lf hd lo hi k i)]) ⟨hx, hb, hml, hown, hts⟩ (c_X0_farthest l D h a1 a2 c1 c2 lo hi hd ow off go (ck_lf hd lo hi k i)) (cwV 1 hts gX0_leftOf_X0_farthest rfl rfl rfl (by decide +kernel) ⟨Nat.le_of_ble_eq_true rfl, Nat.le_of_ble_eq_true rfl⟩) hP hK (va_recv hK hP (ci := 0) (q0 := 0) rfl rfl) rfl hl.1 rfl (Nat.le_of_ble_eq_true rfl) dX0_leftOf_24 ⟨Nat.le_of_ble_eq_true rfl, Nat.le_of_ble_eq_true rfl⟩ ?_
      refine ck_cS (As := [.int (ck_lf hd lo hi k i), .int (ck_far (ck_lf hd lo hi k i) lo hi)]) (rest := []) ⟨hx, hb, hml, hown, hts⟩ (c_X0_without l (ck_lf hd lo hi k i) (ck_far (ck_lf hd lo hi k i) lo hi)) (va_cwS 2 hts gX0_leftOf_X0_without rfl rfl rfl (by decide +kernel) ⟨Nat.le_of_ble_eq_true rfl, Nat.le_of_ble_eq_true rfl⟩) rfl hl.1 rfl (Nat.le_of_ble_eq_true rfl) dX0_leftOf_27 ⟨Nat.le_of_ble_eq_true rfl, Nat.le_of_ble_eq_true rfl⟩ ?_
      refine lv_istore_n (lv' := [(2, .int (ck_wo (ck_lf hd lo hi k i) (ck_far (ck_lf hd lo hi k i) lo hi))), (0, .ref h), (1, .int k), (3, .int (nI i))]) hx hb dX0_leftOf_30 rfl hl (by decide) rfl (fun ls hl => ?_)
      refine lv_iinc (v := (nI (i + 1))) (lv' := [(3, .int (nI (i + 1))), (2, .int (ck_wo (ck_lf hd lo hi k i) (ck_far (ck_lf hd lo hi k i) lo hi))), (0, .ref h), (1, .int k)]) hx hb dX0_leftOf_31 hl (k := 3) rfl (nI_1 i) (by decide) rfl (fun ls hl => ?_)
      refine lv_goto (tgt := 7) hx hb dX0_leftOf_34 (by decide) ?_
      refine ih_i ls hlt_i (trivial) ?_
      have hq : lv_has ls 4 [(0, .ref h), (1, .int k), (2, .int (ck_wo (ck_lf hd lo hi k i) (ck_far (ck_lf hd lo hi k i) lo hi))), (3, .int (nI (i + 1)))] := lv_sub hl [2, 3, 1, 0] rfl
      have eq0 : (ck_wo (ck_lf hd lo hi k i) (ck_far (ck_lf hd lo hi k i) lo hi)) = (ck_lf hd lo hi k (i + 1)) := by simp [ck_lf, c_2]
      exact lv_eqq hq (by rw [← eq0])

set_option maxHeartbeats 4000000 in
set_option maxRecDepth 100000 in
theorem c_X0_mean (l : Launch) (D : va_G) (h a1 a2 : Nat) (c1 c2 : ClassId) (lo hi : Nat → Int64) (hd : Int32) (ow off go : Int64) (lm : Int64) (pt : Int32)  : Met l yX0_mean wsX0_mean { frames := 5, cells := 0, slots := 0, locals := 115 } (va_Pc [.ref h, .long lm, .int pt] (ck_B D (xW h a1 a2 c1 c2 lo hi hd ow off go) (xT c1 c2))) (ck_R (.long (ck_mn hd lo hi lm pt))) 0 0 (fun _ => False) := by
  refine Met.ofW (cc := cX0_mean) (maxL := 5) (ret := (some .long)) (by decide) rfl ?_
  intro p e s m args below meth c s₁ B hml hv
  obtain ⟨rfl, hP, hK⟩ := hv
  have hx := B.exec
  have hb := B.bytes
  have hr := B.returns
  have hts := atoms_spec (ws := wsX0_mean) B.pre
  have hown : s.vm.findClass RX0 = some m.cls := findClass_of_methodNamed B.named
  have hlocks := B.notSynchronized
  have hin : ∀ w ∈ wsX00, w ∈ wsX0_mean := fun _ h => List.mem_cons_of_mem _ (List.mem_append_right _ h)
  have hl := lv_entry ([.ref h, .long lm, .int pt]) (n := 5) (Nat.le_of_ble_eq_true rfl)
  rw [lg_entry_eq]
  generalize (lg_sl ([.ref h, .long lm, .int pt]) ++ List.replicate (5 - (lg_sl ([.ref h, .long lm, .int pt])).length) Slot.unset).toArray = ls at hl ⊢
  have hl : lv_has ls 5 [(0, .ref h), (1, .long lm), (3, .int pt)] := hl
  refine lv_aload_n hx hb dX0_mean_0 rfl (lv_at hl 0 rfl) ?_
  refine va_get (D := D) (ci := 0) (v := .int hd) (C := RX0) (T := TX0) (N := 6) hx hb hts hin hown hK hP 0 rfl rfl 2 (by decide) (hts (.fieldLink RX0 16 "ClockDesk" "held" "I") (by decide +kernel)) (fun _ h9 => h9) rfl dX0_mean_1 ?_
  refine lv_if_eq (tgt := 20) hx hb dX0_mean_4 (by decide) (fun c_1 => ?_) (fun c_1 => ?_)
  · refine lv_ldc2 (v := ck_NO) hx hb hown (hts (.constantLong RX0 46 ck_NO) (by decide +kernel)) dX0_mean_20 ?_
    have hres : ck_NO = (ck_mn hd lo hi lm pt) := by first | (simp [ck_mn, c_1]; done) | simp [ck_mn, ck_zo, c_1]
    exact W.lret (v := ck_NO) hx hb hr (fun t ht _ => ⟨congrArg (fun z => Outcome.returned (some (Value.long z))) hres, ht⟩) (fun _ h => nomatch h) dX0_mean_23
  · refine lv_lload_n hx hb dX0_mean_7 rfl (lv_at hl 1 rfl) ?_
    refine lv_lconst (v := 0) hx hb dX0_mean_8 (by decide) ?_
    refine W.lcmp hx hb dX0_mean_9 ?_
    refine lv_if_lt (tgt := 20) hx hb dX0_mean_10 (by decide) (fun c_2 => ?_) (fun c_2 => ?_)
    · rw [lg_cmp_lt] at c_2
      refine lv_ldc2 (v := ck_NO) hx hb hown (hts (.constantLong RX0 46 ck_NO) (by decide +kernel)) dX0_mean_20 ?_
      have hres : ck_NO = (ck_mn hd lo hi lm pt) := by first | (simp [ck_mn, c_1, c_2]; done) | simp [ck_mn, ck_zo, c_1, c_2]
      exact W.lret (v := ck_NO) hx hb hr (fun t ht _ => ⟨congrArg (fun z => Outcome.returned (some (Value.long z))) hres, ht⟩) (fun _ h => nomatch h) dX0_mean_23
    · rw [lg_cmp_lt] at c_2
      refine lv_iload_n hx hb dX0_mean_13 rfl (lv_at hl 2 rfl) ?_
      refine ck_cS (As := [.int pt]) (rest := []) ⟨hx, hb, hml, hown, hts⟩ (c_X0_isZeroOrOne l pt) (va_cwS 1 hts gX0_mean_X0_isZeroOrOne rfl rfl rfl (by decide +kernel) ⟨Nat.le_of_ble_eq_true rfl, Nat.le_of_ble_eq_true rfl⟩) rfl hl.1 rfl (Nat.le_of_ble_eq_true rfl) dX0_mean_14 ⟨Nat.le_of_ble_eq_true rfl, Nat.le_of_ble_eq_true rfl⟩ ?_
      refine lv_if_ne (tgt := 24) hx hb dX0_mean_17 (by decide) (fun c_3 => ?_) (fun c_3 => ?_)
      · have c_3 := ck_bt c_3
        refine lv_aload_n hx hb dX0_mean_24 rfl (lv_at hl 0 rfl) ?_
        refine lv_aload_n hx hb dX0_mean_25 rfl (lv_at hl 0 rfl) ?_
        refine ck_cV (As := []) (rest := [.ref h]) ⟨hx, hb, hml, hown, hts⟩ (c_X0_medianMiddle l D h a1 a2 c1 c2 lo hi hd ow off go ) (cwV 0 hts gX0_mean_X0_medianMiddle rfl rfl rfl (by decide +kernel) ⟨Nat.le_of_ble_eq_true rfl, Nat.le_of_ble_eq_true rfl⟩) hP hK (va_recv hK hP (ci := 0) (q0 := 0) rfl rfl) rfl hl.1 rfl (Nat.le_of_ble_eq_true rfl) dX0_mean_26 ⟨Nat.le_of_ble_eq_true rfl, Nat.le_of_ble_eq_true rfl⟩ ?_
        refine lv_lload_n hx hb dX0_mean_29 rfl (lv_at hl 1 rfl) ?_
        refine ck_cV (As := [.long (ck_md hd lo hi), .long lm]) (rest := []) ⟨hx, hb, hml, hown, hts⟩ (c_X0_nearTo l D h a1 a2 c1 c2 lo hi hd ow off go (ck_md hd lo hi) lm) (cwV 2 hts gX0_mean_X0_nearTo rfl rfl rfl (by decide +kernel) ⟨Nat.le_of_ble_eq_true rfl, Nat.le_of_ble_eq_true rfl⟩) hP hK (va_recv hK hP (ci := 0) (q0 := 0) rfl rfl) rfl hl.1 rfl (Nat.le_of_ble_eq_true rfl) dX0_mean_30 ⟨Nat.le_of_ble_eq_true rfl, Nat.le_of_ble_eq_true rfl⟩ ?_
        refine lv_istore (lv' := [(4, .int (ck_nr hd lo hi (ck_md hd lo hi) lm 24)), (0, .ref h), (1, .long lm), (3, .int pt)]) hx hb dX0_mean_33 hl (by decide) rfl (fun ls hl => ?_)
        refine lv_iload_n hx hb dX0_mean_35 rfl (lv_at hl 3 rfl) ?_
        refine lv_if_ne (tgt := 48) hx hb dX0_mean_36 (by decide) (fun c_4 => ?_) (fun c_4 => ?_)
        · refine lv_iload hx hb dX0_mean_48 (lv_at hl 0 rfl) ?_
          refine ck_cS (As := [.int (ck_nr hd lo hi (ck_md hd lo hi) lm 24)]) (rest := []) ⟨hx, hb, hml, hown, hts⟩ (c_J6_bitCount_0f7a4 l (ck_nr hd lo hi (ck_md hd lo hi) lm 24)) (va_cwS 1 hts gX0_mean_J6_bitCount_0f7a4 rfl rfl rfl (by decide +kernel) ⟨Nat.le_of_ble_eq_true rfl, Nat.le_of_ble_eq_true rfl⟩) rfl hl.1 rfl (Nat.le_of_ble_eq_true rfl) dX0_mean_50 ⟨Nat.le_of_ble_eq_true rfl, Nat.le_of_ble_eq_true rfl⟩ ?_
          refine lv_i2l (v := (Int32.toInt64 (ck_ns (ck_nr hd lo hi (ck_md hd lo hi) lm 24)))) hx hb dX0_mean_53 rfl ?_
          have hres : (Int32.toInt64 (ck_ns (ck_nr hd lo hi (ck_md hd lo hi) lm 24))) = (ck_mn hd lo hi lm pt) := by first | (simp [ck_mn, c_1, c_2, c_3, c_4]; done) | simp [ck_mn, ck_zo, c_1, c_2, c_3, c_4]
          exact W.lret (v := (Int32.toInt64 (ck_ns (ck_nr hd lo hi (ck_md hd lo hi) lm 24)))) hx hb hr (fun t ht _ => ⟨congrArg (fun z => Outcome.returned (some (Value.long z))) hres, ht⟩) (fun _ h => nomatch h) dX0_mean_54
        · refine lv_aload_n hx hb dX0_mean_39 rfl (lv_at hl 1 rfl) ?_
          refine lv_iload hx hb dX0_mean_40 (lv_at hl 0 rfl) ?_
          refine ck_cV (As := [.int (ck_nr hd lo hi (ck_md hd lo hi) lm 24)]) (rest := []) ⟨hx, hb, hml, hown, hts⟩ (c_X0_meanMiddle l D h a1 a2 c1 c2 lo hi hd ow off go (ck_nr hd lo hi (ck_md hd lo hi) lm 24)) (cwV 1 hts gX0_mean_X0_meanMiddle rfl rfl rfl (by decide +kernel) ⟨Nat.le_of_ble_eq_true rfl, Nat.le_of_ble_eq_true rfl⟩) hP hK (va_recv hK hP (ci := 0) (q0 := 0) rfl rfl) rfl hl.1 rfl (Nat.le_of_ble_eq_true rfl) dX0_mean_42 ⟨Nat.le_of_ble_eq_true rfl, Nat.le_of_ble_eq_true rfl⟩ ?_
          refine lv_goto (tgt := 54) hx hb dX0_mean_45 (by decide) ?_
          have hres : (ck_mm (ck_nr hd lo hi (ck_md hd lo hi) lm 24) lo hi) = (ck_mn hd lo hi lm pt) := by first | (simp [ck_mn, c_1, c_2, c_3, c_4]; done) | simp [ck_mn, ck_zo, c_1, c_2, c_3, c_4]
          exact W.lret (v := (ck_mm (ck_nr hd lo hi (ck_md hd lo hi) lm 24) lo hi)) hx hb hr (fun t ht _ => ⟨congrArg (fun z => Outcome.returned (some (Value.long z))) hres, ht⟩) (fun _ h => nomatch h) dX0_mean_54
      · have c_3 := ck_bf c_3
        refine lv_ldc2 (v := ck_NO) hx hb hown (hts (.constantLong RX0 46 ck_NO) (by decide +kernel)) dX0_mean_20 ?_
        have hres : ck_NO = (ck_mn hd lo hi lm pt) := by first | (simp [ck_mn, c_1, c_2, c_3]; done) | simp [ck_mn, ck_zo, c_1, c_2, c_3]
        exact W.lret (v := ck_NO) hx hb hr (fun t ht _ => ⟨congrArg (fun z => Outcome.returned (some (Value.long z))) hres, ht⟩) (fun _ h => nomatch h) dX0_mean_23

set_option maxHeartbeats 4000000 in
set_option maxRecDepth 100000 in
theorem c_X0_survivors (l : Launch) (D : va_G) (h a1 a2 : Nat) (c1 c2 : ClassId) (lo hi : Nat → Int64) (hd : Int32) (ow off go : Int64) (k : Int32)  : Met l yX0_survivors wsX0_survivors { frames := 6, cells := 0, slots := 0, locals := 141 } (va_Pc [.ref h, .int k] (ck_B D (xW h a1 a2 c1 c2 lo hi hd ow off go) (xT c1 c2))) (ck_R (.int (ck_sv hd lo hi k))) 0 0 (fun _ => False) := by
  refine Met.ofW (cc := cX0_survivors) (maxL := 2) (ret := (some .int)) (by decide) rfl ?_
  intro p e s m args below meth c s₁ B hml hv
  obtain ⟨rfl, hP, hK⟩ := hv
  have hx := B.exec
  have hb := B.bytes
  have hr := B.returns
  have hts := atoms_spec (ws := wsX0_survivors) B.pre
  have hown : s.vm.findClass RX0 = some m.cls := findClass_of_methodNamed B.named
  have hlocks := B.notSynchronized
  have hin : ∀ w ∈ wsX00, w ∈ wsX0_survivors := fun _ h => List.mem_cons_of_mem _ (List.mem_append_right _ h)
  have hl := lv_entry ([.ref h, .int k]) (n := 2) (Nat.le_of_ble_eq_true rfl)
  rw [lg_entry_eq]
  generalize (lg_sl ([.ref h, .int k]) ++ List.replicate (2 - (lg_sl ([.ref h, .int k])).length) Slot.unset).toArray = ls at hl ⊢
  have hl : lv_has ls 2 [(0, .ref h), (1, .int k)] := hl
  refine lv_iload_n hx hb dX0_survivors_0 rfl (lv_at hl 1 rfl) ?_
  refine ck_cS (As := [.int k]) (rest := []) ⟨hx, hb, hml, hown, hts⟩ (c_X0_isCount l k) (va_cwS 1 hts gX0_survivors_X0_isCount rfl rfl rfl (by decide +kernel) ⟨Nat.le_of_ble_eq_true rfl, Nat.le_of_ble_eq_true rfl⟩) rfl hl.1 rfl (Nat.le_of_ble_eq_true rfl) dX0_survivors_1 ⟨Nat.le_of_ble_eq_true rfl, Nat.le_of_ble_eq_true rfl⟩ ?_
  refine lv_if_eq (tgt := 15) hx hb dX0_survivors_4 (by decide) (fun c_1 => ?_) (fun c_1 => ?_)
  · have c_1 := ck_bf c_1
    refine lv_iconst (v := (-1)) hx hb dX0_survivors_15 (by decide) ?_
    have hres : (-1) = (ck_sv hd lo hi k) := by simp [ck_sv, c_1]
    exact W.iret (v := (-1)) hx hb hr (fun t ht _ => ⟨congrArg (fun z => Outcome.returned (some (Value.int z))) hres, ht⟩) (fun _ h => nomatch h) dX0_survivors_16
  · have c_1 := ck_bt c_1
    refine lv_aload_n hx hb dX0_survivors_7 rfl (lv_at hl 0 rfl) ?_
    refine lv_iload_n hx hb dX0_survivors_8 rfl (lv_at hl 1 rfl) ?_
    refine ck_cV (As := [.int k]) (rest := []) ⟨hx, hb, hml, hown, hts⟩ (c_X0_leftOf l D h a1 a2 c1 c2 lo hi hd ow off go k) (cwV 1 hts gX0_survivors_X0_leftOf rfl rfl rfl (by decide +kernel) ⟨Nat.le_of_ble_eq_true rfl, Nat.le_of_ble_eq_true rfl⟩) hP hK (va_recv hK hP (ci := 0) (q0 := 0) rfl rfl) rfl hl.1 rfl (Nat.le_of_ble_eq_true rfl) dX0_survivors_9 ⟨Nat.le_of_ble_eq_true rfl, Nat.le_of_ble_eq_true rfl⟩ ?_
    refine lv_goto (tgt := 16) hx hb dX0_survivors_12 (by decide) ?_
    have hres : (ck_lf hd lo hi k 24) = (ck_sv hd lo hi k) := by simp [ck_sv, c_1]
    exact W.iret (v := (ck_lf hd lo hi k 24)) hx hb hr (fun t ht _ => ⟨congrArg (fun z => Outcome.returned (some (Value.int z))) hres, ht⟩) (fun _ h => nomatch h) dX0_survivors_16

set_option maxHeartbeats 4000000 in
set_option maxRecDepth 100000 in
theorem c_X0_rank (l : Launch) (D : va_G) (h a1 a2 : Nat) (c1 c2 : ClassId) (lo hi : Nat → Int64) (hd : Int32) (ow off go : Int64) (x : Int32) (k : Int32)  : Met l yX0_rank wsX0_rank { frames := 6, cells := 0, slots := 0, locals := 141 } (va_Pc [.ref h, .int x, .int k] (ck_B D (xW h a1 a2 c1 c2 lo hi hd ow off go) (xT c1 c2))) (ck_R (.int (ck_rk hd lo hi x k))) 0 0 (fun _ => False) := by
  refine Met.ofW (cc := cX0_rank) (maxL := 4) (ret := (some .int)) (by decide) rfl ?_
  intro p e s m args below meth c s₁ B hml hv
  obtain ⟨rfl, hP, hK⟩ := hv
  have hx := B.exec
  have hb := B.bytes
  have hr := B.returns
  have hts := atoms_spec (ws := wsX0_rank) B.pre
  have hown : s.vm.findClass RX0 = some m.cls := findClass_of_methodNamed B.named
  have hlocks := B.notSynchronized
  have hin : ∀ w ∈ wsX00, w ∈ wsX0_rank := fun _ h => List.mem_cons_of_mem _ (List.mem_append_right _ h)
  have hl := lv_entry ([.ref h, .int x, .int k]) (n := 4) (Nat.le_of_ble_eq_true rfl)
  rw [lg_entry_eq]
  generalize (lg_sl ([.ref h, .int x, .int k]) ++ List.replicate (4 - (lg_sl ([.ref h, .int x, .int k])).length) Slot.unset).toArray = ls at hl ⊢
  have hl : lv_has ls 4 [(0, .ref h), (1, .int x), (2, .int k)] := hl
  refine lv_iload_n hx hb dX0_rank_0 rfl (lv_at hl 2 rfl) ?_
  refine ck_cS (As := [.int k]) (rest := []) ⟨hx, hb, hml, hown, hts⟩ (c_X0_isCount l k) (va_cwS 1 hts gX0_rank_X0_isCount rfl rfl rfl (by decide +kernel) ⟨Nat.le_of_ble_eq_true rfl, Nat.le_of_ble_eq_true rfl⟩) rfl hl.1 rfl (Nat.le_of_ble_eq_true rfl) dX0_rank_1 ⟨Nat.le_of_ble_eq_true rfl, Nat.le_of_ble_eq_true rfl⟩ ?_
  refine lv_if_ne (tgt := 9) hx hb dX0_rank_4 (by decide) (fun c_1 => ?_) (fun c_1 => ?_)
  · have c_1 := ck_bt c_1
    refine lv_aload_n hx hb dX0_rank_9 rfl (lv_at hl 0 rfl) ?_
    refine lv_iload_n hx hb dX0_rank_10 rfl (lv_at hl 2 rfl) ?_
    refine ck_cV (As := [.int k]) (rest := []) ⟨hx, hb, hml, hown, hts⟩ (c_X0_leftOf l D h a1 a2 c1 c2 lo hi hd ow off go k) (cwV 1 hts gX0_rank_X0_leftOf rfl rfl rfl (by decide +kernel) ⟨Nat.le_of_ble_eq_true rfl, Nat.le_of_ble_eq_true rfl⟩) hP hK (va_recv hK hP (ci := 0) (q0 := 0) rfl rfl) rfl hl.1 rfl (Nat.le_of_ble_eq_true rfl) dX0_rank_11 ⟨Nat.le_of_ble_eq_true rfl, Nat.le_of_ble_eq_true rfl⟩ ?_
    refine lv_istore_n (lv' := [(3, .int (ck_lf hd lo hi k 24)), (0, .ref h), (1, .int x), (2, .int k)]) hx hb dX0_rank_14 rfl hl (by decide) rfl (fun ls hl => ?_)
    refine lv_iload_n hx hb dX0_rank_15 rfl (lv_at hl 0 rfl) ?_
    refine lv_iload_n hx hb dX0_rank_16 rfl (lv_at hl 2 rfl) ?_
    refine ck_cS (As := [.int (ck_lf hd lo hi k 24), .int x]) (rest := []) ⟨hx, hb, hml, hown, hts⟩ (c_X0_isIn l (ck_lf hd lo hi k 24) x) (va_cwS 2 hts gX0_rank_X0_isIn rfl rfl rfl (by decide +kernel) ⟨Nat.le_of_ble_eq_true rfl, Nat.le_of_ble_eq_true rfl⟩) rfl hl.1 rfl (Nat.le_of_ble_eq_true rfl) dX0_rank_17 ⟨Nat.le_of_ble_eq_true rfl, Nat.le_of_ble_eq_true rfl⟩ ?_
    refine lv_if_eq (tgt := 32) hx hb dX0_rank_20 (by decide) (fun c_2 => ?_) (fun c_2 => ?_)
    · have c_2 := ck_bf c_2
      refine lv_iconst (v := (-1)) hx hb dX0_rank_32 (by decide) ?_
      have hres : (-1) = (ck_rk hd lo hi x k) := by simp [ck_rk, c_1, c_2]
      exact W.iret (v := (-1)) hx hb hr (fun t ht _ => ⟨congrArg (fun z => Outcome.returned (some (Value.int z))) hres, ht⟩) (fun _ h => nomatch h) dX0_rank_33
    · have c_2 := ck_bt c_2
      obtain ⟨jx, hjx, rfl⟩ := ck_inE c_2
      have hcjx : (nI jx).toNatClampNeg = jx := nI_clamp (by omega)
      have hnjx := c_2
      rw [ck_inN _ hjx] at hnjx
      refine lv_aload_n hx hb dX0_rank_23 rfl (lv_at hl 1 rfl) ?_
      refine lv_iload_n hx hb dX0_rank_24 rfl (lv_at hl 2 rfl) ?_
      refine lv_iload_n hx hb dX0_rank_25 rfl (lv_at hl 0 rfl) ?_
      refine ck_cV (As := [.int (nI jx), .int (ck_lf hd lo hi k 24)]) (rest := []) ⟨hx, hb, hml, hown, hts⟩ (c_X0_place l D h a1 a2 c1 c2 lo hi hd ow off go (ck_lf hd lo hi k 24) jx hjx) (cwV 2 hts gX0_rank_X0_place rfl rfl rfl (by decide +kernel) ⟨Nat.le_of_ble_eq_true rfl, Nat.le_of_ble_eq_true rfl⟩) hP hK (va_recv hK hP (ci := 0) (q0 := 0) rfl rfl) rfl hl.1 rfl (Nat.le_of_ble_eq_true rfl) dX0_rank_26 ⟨Nat.le_of_ble_eq_true rfl, Nat.le_of_ble_eq_true rfl⟩ ?_
      refine lv_goto (tgt := 33) hx hb dX0_rank_29 (by decide) ?_
      have hres : (ck_pl (bt (ck_lf hd lo hi k 24)) lo hi jx) = (ck_rk hd lo hi (nI jx) k) := by simp [ck_rk, c_1, c_2, hcjx]
      exact W.iret (v := (ck_pl (bt (ck_lf hd lo hi k 24)) lo hi jx)) hx hb hr (fun t ht _ => ⟨congrArg (fun z => Outcome.returned (some (Value.int z))) hres, ht⟩) (fun _ h => nomatch h) dX0_rank_33
  · have c_1 := ck_bf c_1
    refine lv_iconst (v := (-1)) hx hb dX0_rank_7 (by decide) ?_
    have hres : (-1) = (ck_rk hd lo hi x k) := by simp [ck_rk, c_1]
    exact W.iret (v := (-1)) hx hb hr (fun t ht _ => ⟨congrArg (fun z => Outcome.returned (some (Value.int z))) hres, ht⟩) (fun _ h => nomatch h) dX0_rank_8

set_option maxHeartbeats 4000000 in
set_option maxRecDepth 100000 in
theorem c_X0_read (l : Launch) (D : va_G) (h a1 a2 : Nat) (c1 c2 : ClassId) (lo hi : Nat → Int64) (hd : Int32) (ow off go : Int64)   : Met l yX0_read wsX0_read { frames := 0, cells := 0, slots := 0, locals := 0 } (va_Pc [.ref h] (ck_B D (xW h a1 a2 c1 c2 lo hi hd ow off go) (xT c1 c2))) (ck_R (.long (ow + off))) 0 0 (fun _ => False) := by
  refine Met.ofW (cc := cX0_read) (maxL := 1) (ret := (some .long)) (by decide) rfl ?_
  intro p e s m args below meth c s₁ B hml hv
  obtain ⟨rfl, hP, hK⟩ := hv
  have hx := B.exec
  have hb := B.bytes
  have hr := B.returns
  have hts := atoms_spec (ws := wsX0_read) B.pre
  have hown : s.vm.findClass RX0 = some m.cls := findClass_of_methodNamed B.named
  have hlocks := B.notSynchronized
  have hin : ∀ w ∈ wsX00, w ∈ wsX0_read := fun _ h => List.mem_cons_of_mem _ (List.mem_append_right _ h)
  have hl := lv_entry ([.ref h]) (n := 1) (Nat.le_of_ble_eq_true rfl)
  rw [lg_entry_eq]
  generalize (lg_sl ([.ref h]) ++ List.replicate (1 - (lg_sl ([.ref h])).length) Slot.unset).toArray = ls at hl ⊢
  have hl : lv_has ls 1 [(0, .ref h)] := hl
  refine lv_aload_n hx hb dX0_read_0 rfl (lv_at hl 0 rfl) ?_
  refine va_get (D := D) (ci := 0) (v := .long ow) (C := RX0) (T := TX0) (N := 6) hx hb hts hin hown hK hP 0 rfl rfl 3 (by decide) (hts (.fieldLink RX0 20 "ClockDesk" "ownTime" "J") (by decide +kernel)) (fun _ h9 => h9) rfl dX0_read_1 ?_
  refine lv_aload_n hx hb dX0_read_4 rfl (lv_at hl 0 rfl) ?_
  refine va_get (D := D) (ci := 0) (v := .long off) (C := RX0) (T := TX0) (N := 6) hx hb hts hin hown hK hP 0 rfl rfl 4 (by decide) (hts (.fieldLink RX0 24 "ClockDesk" "clockOffset" "J") (by decide +kernel)) (fun _ h9 => h9) rfl dX0_read_5 ?_
  refine lv_ladd hx hb dX0_read_8 ?_
  have hres : (ow + off) = (ow + off) := by rfl
  exact W.lret (v := (ow + off)) hx hb hr (fun t ht _ => ⟨congrArg (fun z => Outcome.returned (some (Value.long z))) hres, ht⟩) (fun _ h => nomatch h) dX0_read_9

set_option maxHeartbeats 4000000 in
set_option maxRecDepth 100000 in
theorem c_X0_offset (l : Launch) (D : va_G) (h a1 a2 : Nat) (c1 c2 : ClassId) (lo hi : Nat → Int64) (hd : Int32) (ow off go : Int64) (x : Int32)  : Met l yX0_offset wsX0_offset { frames := 1, cells := 0, slots := 0, locals := 20 } (va_Pc [.ref h, .int x] (ck_B D (xW h a1 a2 c1 c2 lo hi hd ow off go) (xT c1 c2))) (ck_R (.long (ck_of off go x))) 0 0 (fun _ => False) := by
  refine Met.ofW (cc := cX0_offset) (maxL := 2) (ret := (some .long)) (by decide) rfl ?_
  intro p e s m args below meth c s₁ B hml hv
  obtain ⟨rfl, hP, hK⟩ := hv
  have hx := B.exec
  have hb := B.bytes
  have hr := B.returns
  have hts := atoms_spec (ws := wsX0_offset) B.pre
  have hown : s.vm.findClass RX0 = some m.cls := findClass_of_methodNamed B.named
  have hlocks := B.notSynchronized
  have hin : ∀ w ∈ wsX00, w ∈ wsX0_offset := fun _ h => List.mem_cons_of_mem _ (List.mem_append_right _ h)
  have hl := lv_entry ([.ref h, .int x]) (n := 2) (Nat.le_of_ble_eq_true rfl)
  rw [lg_entry_eq]
  generalize (lg_sl ([.ref h, .int x]) ++ List.replicate (2 - (lg_sl ([.ref h, .int x])).length) Slot.unset).toArray = ls at hl ⊢
  have hl : lv_has ls 2 [(0, .ref h), (1, .int x)] := hl
  refine lv_iload_n hx hb dX0_offset_0 rfl (lv_at hl 1 rfl) ?_
  refine ck_cS (As := [.int x]) (rest := []) ⟨hx, hb, hml, hown, hts⟩ (c_X0_isZeroOrOne l x) (va_cwS 1 hts gX0_offset_X0_isZeroOrOne rfl rfl rfl (by decide +kernel) ⟨Nat.le_of_ble_eq_true rfl, Nat.le_of_ble_eq_true rfl⟩) rfl hl.1 rfl (Nat.le_of_ble_eq_true rfl) dX0_offset_1 ⟨Nat.le_of_ble_eq_true rfl, Nat.le_of_ble_eq_true rfl⟩ ?_
  refine lv_if_ne (tgt := 11) hx hb dX0_offset_4 (by decide) (fun c_1 => ?_) (fun c_1 => ?_)
  · have c_1 := ck_bt c_1
    refine lv_iload_n hx hb dX0_offset_11 rfl (lv_at hl 1 rfl) ?_
    refine lv_if_ne (tgt := 22) hx hb dX0_offset_12 (by decide) (fun c_2 => ?_) (fun c_2 => ?_)
    · refine lv_aload_n hx hb dX0_offset_22 rfl (lv_at hl 0 rfl) ?_
      refine va_get (D := D) (ci := 0) (v := .long go) (C := RX0) (T := TX0) (N := 6) hx hb hts hin hown hK hP 0 rfl rfl 5 (by decide) (hts (.fieldLink RX0 27 "ClockDesk" "goal" "J") (by decide +kernel)) (fun _ h9 => h9) rfl dX0_offset_23 ?_
      have hres : go = (ck_of off go x) := by first | (simp [ck_of, c_1, c_2]; done) | simp [ck_of, ck_zo, c_1, c_2]
      exact W.lret (v := go) hx hb hr (fun t ht _ => ⟨congrArg (fun z => Outcome.returned (some (Value.long z))) hres, ht⟩) (fun _ h => nomatch h) dX0_offset_26
    · refine lv_aload_n hx hb dX0_offset_15 rfl (lv_at hl 0 rfl) ?_
      refine va_get (D := D) (ci := 0) (v := .long off) (C := RX0) (T := TX0) (N := 6) hx hb hts hin hown hK hP 0 rfl rfl 4 (by decide) (hts (.fieldLink RX0 24 "ClockDesk" "clockOffset" "J") (by decide +kernel)) (fun _ h9 => h9) rfl dX0_offset_16 ?_
      refine lv_goto (tgt := 26) hx hb dX0_offset_19 (by decide) ?_
      have hres : off = (ck_of off go x) := by first | (simp [ck_of, c_1, c_2]; done) | simp [ck_of, ck_zo, c_1, c_2]
      exact W.lret (v := off) hx hb hr (fun t ht _ => ⟨congrArg (fun z => Outcome.returned (some (Value.long z))) hres, ht⟩) (fun _ h => nomatch h) dX0_offset_26
  · have c_1 := ck_bf c_1
    refine lv_ldc2 (v := ck_NO) hx hb hown (hts (.constantLong RX0 46 ck_NO) (by decide +kernel)) dX0_offset_7 ?_
    have hres : ck_NO = (ck_of off go x) := by first | (simp [ck_of, c_1]; done) | simp [ck_of, ck_zo, c_1]
    exact W.lret (v := ck_NO) hx hb hr (fun t ht _ => ⟨congrArg (fun z => Outcome.returned (some (Value.long z))) hres, ht⟩) (fun _ h => nomatch h) dX0_offset_10

set_option maxHeartbeats 4000000 in
set_option maxRecDepth 100000 in
theorem c_X0_settles (l : Launch) (D : va_G) (h a1 a2 : Nat) (c1 c2 : ClassId) (lo hi : Nat → Int64) (hd : Int32) (ow off go : Int64)   : Met l yX0_settles wsX0_settles { frames := 1, cells := 0, slots := 0, locals := 27 } (va_Pc [.ref h] (ck_B D (xW h a1 a2 c1 c2 lo hi hd ow off go) (xT c1 c2))) (ck_R (.long (ck_st off go))) 0 0 (fun _ => False) := by
  refine Met.ofW (cc := cX0_settles) (maxL := 3) (ret := (some .long)) (by decide) rfl ?_
  intro p e s m args below meth c s₁ B hml hv
  obtain ⟨rfl, hP, hK⟩ := hv
  have hx := B.exec
  have hb := B.bytes
  have hr := B.returns
  have hts := atoms_spec (ws := wsX0_settles) B.pre
  have hown : s.vm.findClass RX0 = some m.cls := findClass_of_methodNamed B.named
  have hlocks := B.notSynchronized
  have hin : ∀ w ∈ wsX00, w ∈ wsX0_settles := fun _ h => List.mem_cons_of_mem _ (List.mem_append_right _ h)
  have hl := lv_entry ([.ref h]) (n := 3) (Nat.le_of_ble_eq_true rfl)
  rw [lg_entry_eq]
  generalize (lg_sl ([.ref h]) ++ List.replicate (3 - (lg_sl ([.ref h])).length) Slot.unset).toArray = ls at hl ⊢
  have hl : lv_has ls 3 [(0, .ref h)] := hl
  refine lv_aload_n hx hb dX0_settles_0 rfl (lv_at hl 0 rfl) ?_
  refine va_get (D := D) (ci := 0) (v := .long go) (C := RX0) (T := TX0) (N := 6) hx hb hts hin hown hK hP 0 rfl rfl 5 (by decide) (hts (.fieldLink RX0 27 "ClockDesk" "goal" "J") (by decide +kernel)) (fun _ h9 => h9) rfl dX0_settles_1 ?_
  refine lv_aload_n hx hb dX0_settles_4 rfl (lv_at hl 0 rfl) ?_
  refine va_get (D := D) (ci := 0) (v := .long off) (C := RX0) (T := TX0) (N := 6) hx hb hts hin hown hK hP 0 rfl rfl 4 (by decide) (hts (.fieldLink RX0 24 "ClockDesk" "clockOffset" "J") (by decide +kernel)) (fun _ h9 => h9) rfl dX0_settles_5 ?_
  refine lv_lsub hx hb dX0_settles_8 ?_
  refine ck_mabs hx hb (hml.trans hl.1.symm) hown (hts (.methodLink RX0 133 Lib.MathLoose.abs_long.x) (by decide +kernel)) (hts (.static Lib.MathLoose.abs_long.x) (by decide +kernel)) (hts (.initialized "java/lang/Math") (by decide +kernel)) (hts (.code Lib.MathLoose.abs_long.x Lib.MathLoose.abs_long.code 2 (some .long)) (by decide +kernel)) (Nat.le_of_ble_eq_true rfl) (Nat.le_of_ble_eq_true rfl) (Nat.le_of_ble_eq_true rfl) (Nat.le_of_ble_eq_true rfl) dX0_settles_9 ?_
  refine lv_lstore_n (lv' := [(1, .long (ck_abs (go - off))), (0, .ref h)]) hx hb dX0_settles_12 rfl hl (by decide) rfl (fun ls hl => ?_)
  refine lv_lload_n hx hb dX0_settles_13 rfl (lv_at hl 0 rfl) ?_
  refine lv_ldc2 (v := ck_REACH) hx hb hown (hts (.constantLong RX0 136 ck_REACH) (by decide +kernel)) dX0_settles_14 ?_
  refine W.lcmp hx hb dX0_settles_17 ?_
  refine lv_if_le (tgt := 27) hx hb dX0_settles_18 (by decide) (fun c_1 => ?_) (fun c_1 => ?_)
  · rw [lg_cmp_le] at c_1
    refine lv_lload_n hx hb dX0_settles_27 rfl (lv_at hl 0 rfl) ?_
    refine lv_ldc2 (v := 2000) hx hb hown (hts (.constantLong RX0 125 2000) (by decide +kernel)) dX0_settles_28 ?_
    refine lv_lmul hx hb dX0_settles_31 ?_
    have hres : ((ck_abs (go - off)) * 2000) = (ck_st off go) := by simp [ck_st, c_1]
    exact W.lret (v := ((ck_abs (go - off)) * 2000)) hx hb hr (fun t ht _ => ⟨congrArg (fun z => Outcome.returned (some (Value.long z))) hres, ht⟩) (fun _ h => nomatch h) dX0_settles_32
  · rw [lg_cmp_le] at c_1
    refine lv_ldc2 (v := ck_NO) hx hb hown (hts (.constantLong RX0 46 ck_NO) (by decide +kernel)) dX0_settles_21 ?_
    refine lv_goto (tgt := 32) hx hb dX0_settles_24 (by decide) ?_
    have hres : ck_NO = (ck_st off go) := by simp [ck_st, c_1]
    exact W.lret (v := ck_NO) hx hb hr (fun t ht _ => ⟨congrArg (fun z => Outcome.returned (some (Value.long z))) hres, ht⟩) (fun _ h => nomatch h) dX0_settles_32
