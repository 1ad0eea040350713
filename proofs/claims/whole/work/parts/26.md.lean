set_option maxHeartbeats 4000000 in
set_option maxRecDepth 100000 in
theorem c_X1_mean (l : Launch) (D : va_G) (h a0 a1 a2 : Nat) (c0 c1 c2 : ClassId) (lo hi : Nat → Int64) (hd : Int32) (ow off go : Int64) (inv : ck_inv hd lo hi) (lm : Int64) (pt : Int32)  : Met l yX1_mean wsX1_mean { frames := 3, cells := 0, slots := 0, locals := 66 } (va_Pc [.ref h, .long lm, .int pt] (ck_B D (mW h a0 a1 a2 c0 c1 c2 lo hi hd ow off go) (mT c0 c1 c2))) (ck_R (.long (ck_mn hd lo hi lm pt))) 0 0 (fun _ => False) := by
  refine Met.ofW (cc := cX1_mean) (maxL := 11) (ret := (some .long)) (by decide) rfl ?_
  intro p e s m args below meth c s₁ B hml hv
  obtain ⟨rfl, hP, hK⟩ := hv
  have hx := B.exec
  have hb := B.bytes
  have hr := B.returns
  have hts := atoms_spec (ws := wsX1_mean) B.pre
  have hown : s.vm.findClass RX1 = some m.cls := findClass_of_methodNamed B.named
  have hlocks := B.notSynchronized
  have hin : ∀ w ∈ wsX10, w ∈ wsX1_mean := fun _ h => List.mem_cons_of_mem _ (List.mem_append_right _ h)
  have hl := lv_entry ([.ref h, .long lm, .int pt]) (n := 11) (Nat.le_of_ble_eq_true rfl)
  rw [lg_entry_eq]
  generalize (lg_sl ([.ref h, .long lm, .int pt]) ++ List.replicate (11 - (lg_sl ([.ref h, .long lm, .int pt])).length) Slot.unset).toArray = ls at hl ⊢
  have hl : lv_has ls 11 [(0, .ref h), (1, .long lm), (3, .int pt)] := hl
  refine lv_aload_n hx hb dX1_mean_0 rfl (lv_at hl 0 rfl) ?_
  refine ck_cV (As := []) (rest := []) ⟨hx, hb, hml, hown, hts⟩ (c_X1_sources l D h a0 a1 a2 c0 c1 c2 lo hi hd ow off go inv ) (cwV 0 hts gX1_mean_X1_sources rfl rfl rfl (by decide +kernel) ⟨Nat.le_of_ble_eq_true rfl, Nat.le_of_ble_eq_true rfl⟩) hP hK (va_recv hK hP (ci := 1) (q0 := 0) rfl rfl) rfl hl.1 rfl (Nat.le_of_ble_eq_true rfl) dX1_mean_1 ⟨Nat.le_of_ble_eq_true rfl, Nat.le_of_ble_eq_true rfl⟩ ?_
  refine lv_if_eq (tgt := 22) hx hb dX1_mean_4 (by decide) (fun c_1 => ?_) (fun c_1 => ?_)
  · refine lv_ldc2 (v := ck_NO) hx hb hown (hts (.constantLong RX1 30 ck_NO) (by decide +kernel)) dX1_mean_22 ?_
    have hres : ck_NO = (ck_mn hd lo hi lm pt) := by simp [ck_mn, ck_ns0.mp c_1]
    exact W.lret (v := ck_NO) hx hb hr (fun t ht _ => ⟨congrArg (fun z => Outcome.returned (some (Value.long z))) hres, ht⟩) (fun _ h => nomatch h) dX1_mean_25
  · refine lv_lload_n hx hb dX1_mean_7 rfl (lv_at hl 1 rfl) ?_
    refine lv_lconst (v := 0) hx hb dX1_mean_8 (by decide) ?_
    refine W.lcmp hx hb dX1_mean_9 ?_
    refine lv_if_lt (tgt := 22) hx hb dX1_mean_10 (by decide) (fun c_2 => ?_) (fun c_2 => ?_)
    · rw [lg_cmp_lt] at c_2
      refine lv_ldc2 (v := ck_NO) hx hb hown (hts (.constantLong RX1 30 ck_NO) (by decide +kernel)) dX1_mean_22 ?_
      have hres : ck_NO = (ck_mn hd lo hi lm pt) := by have hne : ¬ hd = 0 := fun q => c_1 (ck_ns0.mpr q); simp [ck_mn, hne, c_1, c_2]
      exact W.lret (v := ck_NO) hx hb hr (fun t ht _ => ⟨congrArg (fun z => Outcome.returned (some (Value.long z))) hres, ht⟩) (fun _ h => nomatch h) dX1_mean_25
    · rw [lg_cmp_lt] at c_2
      refine lv_iload_n hx hb dX1_mean_13 rfl (lv_at hl 2 rfl) ?_
      refine lv_if_lt (tgt := 22) hx hb dX1_mean_14 (by decide) (fun c_3 => ?_) (fun c_3 => ?_)
      · refine lv_ldc2 (v := ck_NO) hx hb hown (hts (.constantLong RX1 30 ck_NO) (by decide +kernel)) dX1_mean_22 ?_
        have hres : ck_NO = (ck_mn hd lo hi lm pt) := by have hne : ¬ hd = 0 := fun q => c_1 (ck_ns0.mpr q); simp [ck_mn, hne, ck_zoN c_3, c_1, c_2, c_3]
        exact W.lret (v := ck_NO) hx hb hr (fun t ht _ => ⟨congrArg (fun z => Outcome.returned (some (Value.long z))) hres, ht⟩) (fun _ h => nomatch h) dX1_mean_25
      · refine lv_iload_n hx hb dX1_mean_17 rfl (lv_at hl 2 rfl) ?_
        refine lv_iconst (v := 1) hx hb dX1_mean_18 (by decide) ?_
        refine lv_icmp_le (tgt := 26) hx hb dX1_mean_19 (by decide) (fun c_4 => ?_) (fun c_4 => ?_)
        · refine lv_aload_n hx hb dX1_mean_26 rfl (lv_at hl 0 rfl) ?_
          refine ck_cV (As := []) (rest := []) ⟨hx, hb, hml, hown, hts⟩ (c_X1_median l D h a0 a1 a2 c0 c1 c2 lo hi hd ow off go inv ) (cwV 0 hts gX1_mean_X1_median rfl rfl rfl (by decide +kernel) ⟨Nat.le_of_ble_eq_true rfl, Nat.le_of_ble_eq_true rfl⟩) hP hK (va_recv hK hP (ci := 1) (q0 := 0) rfl rfl) rfl hl.1 rfl (Nat.le_of_ble_eq_true rfl) dX1_mean_27 ⟨Nat.le_of_ble_eq_true rfl, Nat.le_of_ble_eq_true rfl⟩ ?_
          refine lv_lstore (lv' := [(4, .long (ck_md hd lo hi)), (0, .ref h), (1, .long lm), (3, .int pt)]) hx hb dX1_mean_30 hl (by decide) rfl (fun ls hl => ?_)
          refine lv_lconst (v := 0) hx hb dX1_mean_32 (by decide) ?_
          refine lv_lstore (lv' := [(6, .long 0), (4, .long (ck_md hd lo hi)), (0, .ref h), (1, .long lm), (3, .int pt)]) hx hb dX1_mean_33 hl (by decide) rfl (fun ls hl => ?_)
          refine lv_lconst (v := 0) hx hb dX1_mean_35 (by decide) ?_
          refine lv_lstore (lv' := [(8, .long 0), (6, .long 0), (4, .long (ck_md hd lo hi)), (0, .ref h), (1, .long lm), (3, .int pt)]) hx hb dX1_mean_36 hl (by decide) rfl (fun ls hl => ?_)
          refine lv_iconst (v := 0) hx hb dX1_mean_38 (by decide) ?_
          refine lv_istore (lv' := [(10, .int 0), (8, .long 0), (6, .long 0), (4, .long (ck_md hd lo hi)), (0, .ref h), (1, .long lm), (3, .int pt)]) hx hb dX1_mean_39 hl (by decide) rfl (fun ls hl => ?_)
          refine ck_loop (G := fun ls => W p l e _ s m _ below meth c _ _ _ _ _ (F0 m 41 ls [])) (nL := 11) (24) (fun i => True) (fun i => [(0, .ref h), (1, .long lm), (3, .int pt), (4, .long (ck_md hd lo hi)), (6, .long (ck_sm (ck_nP hd lo hi (ck_md hd lo hi) lm) lo hi i)), (8, .long (ck_cL (ck_nP hd lo hi (ck_md hd lo hi) lm) i)), (10, .int (nI i))]) (fun i hle_i hj_i ih_i ls hl => ?_) ls (trivial) ?_
          rotate_left
          · have hq : lv_has ls 11 [(0, .ref h), (1, .long lm), (3, .int pt), (4, .long (ck_md hd lo hi)), (6, .long 0), (8, .long 0), (10, .int 0)] := lv_sub hl [4, 5, 6, 3, 2, 1, 0] rfl
            exact hq
          have hl : lv_has ls 11 [(0, .ref h), (1, .long lm), (3, .int pt), (4, .long (ck_md hd lo hi)), (6, .long (ck_sm (ck_nP hd lo hi (ck_md hd lo hi) lm) lo hi i)), (8, .long (ck_cL (ck_nP hd lo hi (ck_md hd lo hi) lm) i)), (10, .int (nI i))] := hl
          refine lv_iload hx hb dX1_mean_41 (lv_at hl 6 rfl) ?_
          refine lv_bipush (v := 24) hx hb dX1_mean_43 (by decide) ?_
          refine lv_icmp_ge (tgt := 98) hx hb dX1_mean_45 (by decide) (fun c_5 => ?_) (fun c_5 => ?_)
          · have heq_i : i = 24 := ck_eqN hle_i c_5
            subst heq_i
            have hl : lv_has ls 11 [(0, .ref h), (1, .long lm), (3, .int pt), (4, .long (ck_md hd lo hi)), (6, .long (ck_sm (ck_nP hd lo hi (ck_md hd lo hi) lm) lo hi 24)), (8, .long (ck_cL (ck_nP hd lo hi (ck_md hd lo hi) lm) 24)), (10, .int (nI 24))] := hl
            refine lv_iload_n hx hb dX1_mean_98 rfl (lv_at hl 2 rfl) ?_
            refine lv_if_ne (tgt := 112) hx hb dX1_mean_99 (by decide) (fun c_6 => ?_) (fun c_6 => ?_)
            · refine lv_lload hx hb dX1_mean_112 (lv_at hl 5 rfl) ?_
              have hres : (ck_cL (ck_nP hd lo hi (ck_md hd lo hi) lm) 24) = (ck_mn hd lo hi lm pt) := by have hne : ¬ hd = 0 := fun q => c_1 (ck_ns0.mpr q); rw [ck_mean1 inv]; rw [ck_mn, if_neg hne, if_neg c_2, ck_zoI c_3 c_4, if_pos rfl, if_neg c_6]
              exact W.lret (v := (ck_cL (ck_nP hd lo hi (ck_md hd lo hi) lm) 24)) hx hb hr (fun t ht _ => ⟨congrArg (fun z => Outcome.returned (some (Value.long z))) hres, ht⟩) (fun _ h => nomatch h) dX1_mean_114
            · refine lv_lload hx hb dX1_mean_102 (lv_at hl 4 rfl) ?_
              refine lv_lload hx hb dX1_mean_104 (lv_at hl 5 rfl) ?_
              refine ck_cS (As := [.long (ck_sm (ck_nP hd lo hi (ck_md hd lo hi) lm) lo hi 24), .long (ck_cL (ck_nP hd lo hi (ck_md hd lo hi) lm) 24)]) (rest := []) ⟨hx, hb, hml, hown, hts⟩ (c_X1_over l (ck_sm (ck_nP hd lo hi (ck_md hd lo hi) lm) lo hi 24) (ck_cL (ck_nP hd lo hi (ck_md hd lo hi) lm) 24) (ck_meanp inv (fun q => c_1 (ck_ns0.mpr q)) c_2)) (va_cwS 2 hts gX1_mean_X1_over rfl rfl rfl (by decide +kernel) ⟨Nat.le_of_ble_eq_true rfl, Nat.le_of_ble_eq_true rfl⟩) rfl hl.1 rfl (Nat.le_of_ble_eq_true rfl) dX1_mean_106 ⟨Nat.le_of_ble_eq_true rfl, Nat.le_of_ble_eq_true rfl⟩ ?_
              refine lv_goto (tgt := 114) hx hb dX1_mean_109 (by decide) ?_
              have hres : (ck_fd (ck_sm (ck_nP hd lo hi (ck_md hd lo hi) lm) lo hi 24) (ck_cL (ck_nP hd lo hi (ck_md hd lo hi) lm) 24)) = (ck_mn hd lo hi lm pt) := by have hne : ¬ hd = 0 := fun q => c_1 (ck_ns0.mpr q); rw [ck_mean0 inv hne c_2]; rw [ck_mn, if_neg hne, if_neg c_2, ck_zoI c_3 c_4, if_pos rfl, if_pos c_6]
              exact W.lret (v := (ck_fd (ck_sm (ck_nP hd lo hi (ck_md hd lo hi) lm) lo hi 24) (ck_cL (ck_nP hd lo hi (ck_md hd lo hi) lm) 24))) hx hb hr (fun t ht _ => ⟨congrArg (fun z => Outcome.returned (some (Value.long z))) hres, ht⟩) (fun _ h => nomatch h) dX1_mean_114
          · have hlt_i : i < 24 := ck_ltN hle_i c_5
            refine lv_aload_n hx hb dX1_mean_48 rfl (lv_at hl 0 rfl) ?_
            refine va_get (D := D) (ci := 1) (v := .ref a0) (C := RX1) (T := TX1) (N := 6) hx hb hts hin hown hK hP 0 rfl rfl 0 (by decide) (hts (.fieldLink RX1 7 "ClockDeskModel" "is" "[Z") (by decide +kernel)) (fun _ h9 => h9) rfl dX1_mean_49 ?_
            refine lv_iload hx hb dX1_mean_52 (lv_at hl 6 rfl) ?_
            refine ck_zald hx hb hK hP 1 0 rfl rfl (i := i) hlt_i dX1_mean_54 ?_
            refine lv_if_eq (tgt := 92) hx hb dX1_mean_55 (by decide) (fun c_7 => ?_) (fun c_7 => ?_)
            · have c_7 := ck_bf c_7
              refine lv_iinc (v := (nI (i + 1))) (lv' := [(10, .int (nI (i + 1))), (0, .ref h), (1, .long lm), (3, .int pt), (4, .long (ck_md hd lo hi)), (6, .long (ck_sm (ck_nP hd lo hi (ck_md hd lo hi) lm) lo hi i)), (8, .long (ck_cL (ck_nP hd lo hi (ck_md hd lo hi) lm) i))]) hx hb dX1_mean_92 hl (k := 6) rfl (nI_1 i) (by decide) rfl (fun ls hl => ?_)
              refine lv_goto (tgt := 41) hx hb dX1_mean_95 (by decide) ?_
              refine ih_i ls hlt_i (trivial) ?_
              have hq : lv_has ls 11 [(0, .ref h), (1, .long lm), (3, .int pt), (4, .long (ck_md hd lo hi)), (6, .long (ck_sm (ck_nP hd lo hi (ck_md hd lo hi) lm) lo hi i)), (8, .long (ck_cL (ck_nP hd lo hi (ck_md hd lo hi) lm) i)), (10, .int (nI (i + 1)))] := lv_sub hl [1, 2, 3, 4, 5, 6, 0] rfl
              have eq0 : (ck_sm (ck_nP hd lo hi (ck_md hd lo hi) lm) lo hi i) = (ck_sm (ck_nP hd lo hi (ck_md hd lo hi) lm) lo hi (i + 1)) := by simp [ck_sm, ck_cL, ck_nP, c_7]
              have eq1 : (ck_cL (ck_nP hd lo hi (ck_md hd lo hi) lm) i) = (ck_cL (ck_nP hd lo hi (ck_md hd lo hi) lm) (i + 1)) := by simp [ck_sm, ck_cL, ck_nP, c_7]
              exact lv_eqq hq (by rw [← eq1, ← eq0])
            · have c_7 := ck_bt c_7
              refine lv_aload_n hx hb dX1_mean_58 rfl (lv_at hl 0 rfl) ?_
              refine lv_iload hx hb dX1_mean_59 (lv_at hl 6 rfl) ?_
              refine ck_cV (As := [.int (nI i)]) (rest := []) ⟨hx, hb, hml, hown, hts⟩ (c_X1_middle l D h a0 a1 a2 c0 c1 c2 lo hi hd ow off go inv i hlt_i) (cwV 1 hts gX1_mean_X1_middle rfl rfl rfl (by decide +kernel) ⟨Nat.le_of_ble_eq_true rfl, Nat.le_of_ble_eq_true rfl⟩) hP hK (va_recv hK hP (ci := 1) (q0 := 0) rfl rfl) rfl hl.1 rfl (Nat.le_of_ble_eq_true rfl) dX1_mean_61 ⟨Nat.le_of_ble_eq_true rfl, Nat.le_of_ble_eq_true rfl⟩ ?_
              refine lv_lload hx hb dX1_mean_64 (lv_at hl 3 rfl) ?_
              refine lv_lsub hx hb dX1_mean_66 ?_
              refine ck_cS (As := [.long ((ck_mid lo hi i) - (ck_md hd lo hi))]) (rest := []) ⟨hx, hb, hml, hown, hts⟩ (c_X1_size l ((ck_mid lo hi i) - (ck_md hd lo hi))) (va_cwS 1 hts gX1_mean_X1_size rfl rfl rfl (by decide +kernel) ⟨Nat.le_of_ble_eq_true rfl, Nat.le_of_ble_eq_true rfl⟩) rfl hl.1 rfl (Nat.le_of_ble_eq_true rfl) dX1_mean_67 ⟨Nat.le_of_ble_eq_true rfl, Nat.le_of_ble_eq_true rfl⟩ ?_
              refine lv_lload_n hx hb dX1_mean_70 rfl (lv_at hl 1 rfl) ?_
              refine W.lcmp hx hb dX1_mean_71 ?_
              refine lv_if_gt (tgt := 92) hx hb dX1_mean_72 (by decide) (fun c_8 => ?_) (fun c_8 => ?_)
              · rw [lg_cmp_gt] at c_8
                refine lv_iinc (v := (nI (i + 1))) (lv' := [(10, .int (nI (i + 1))), (0, .ref h), (1, .long lm), (3, .int pt), (4, .long (ck_md hd lo hi)), (6, .long (ck_sm (ck_nP hd lo hi (ck_md hd lo hi) lm) lo hi i)), (8, .long (ck_cL (ck_nP hd lo hi (ck_md hd lo hi) lm) i))]) hx hb dX1_mean_92 hl (k := 6) rfl (nI_1 i) (by decide) rfl (fun ls hl => ?_)
                refine lv_goto (tgt := 41) hx hb dX1_mean_95 (by decide) ?_
                refine ih_i ls hlt_i (trivial) ?_
                have hq : lv_has ls 11 [(0, .ref h), (1, .long lm), (3, .int pt), (4, .long (ck_md hd lo hi)), (6, .long (ck_sm (ck_nP hd lo hi (ck_md hd lo hi) lm) lo hi i)), (8, .long (ck_cL (ck_nP hd lo hi (ck_md hd lo hi) lm) i)), (10, .int (nI (i + 1)))] := lv_sub hl [1, 2, 3, 4, 5, 6, 0] rfl
                have eq0 : (ck_sm (ck_nP hd lo hi (ck_md hd lo hi) lm) lo hi i) = (ck_sm (ck_nP hd lo hi (ck_md hd lo hi) lm) lo hi (i + 1)) := by simp [ck_sm, ck_cL, ck_nP, c_7, c_8]
                have eq1 : (ck_cL (ck_nP hd lo hi (ck_md hd lo hi) lm) i) = (ck_cL (ck_nP hd lo hi (ck_md hd lo hi) lm) (i + 1)) := by simp [ck_sm, ck_cL, ck_nP, c_7, c_8]
                exact lv_eqq hq (by rw [← eq1, ← eq0])
              · rw [lg_cmp_gt] at c_8
                refine lv_lload hx hb dX1_mean_75 (lv_at hl 4 rfl) ?_
                refine lv_aload_n hx hb dX1_mean_77 rfl (lv_at hl 0 rfl) ?_
                refine lv_iload hx hb dX1_mean_78 (lv_at hl 6 rfl) ?_
                refine ck_cV (As := [.int (nI i)]) (rest := [.long (ck_sm (ck_nP hd lo hi (ck_md hd lo hi) lm) lo hi i)]) ⟨hx, hb, hml, hown, hts⟩ (c_X1_middle l D h a0 a1 a2 c0 c1 c2 lo hi hd ow off go inv i hlt_i) (cwV 1 hts gX1_mean_X1_middle rfl rfl rfl (by decide +kernel) ⟨Nat.le_of_ble_eq_true rfl, Nat.le_of_ble_eq_true rfl⟩) hP hK (va_recv hK hP (ci := 1) (q0 := 0) rfl rfl) rfl hl.1 rfl (Nat.le_of_ble_eq_true rfl) dX1_mean_80 ⟨Nat.le_of_ble_eq_true rfl, Nat.le_of_ble_eq_true rfl⟩ ?_
                refine lv_ladd hx hb dX1_mean_83 ?_
                refine lv_lstore (lv' := [(6, .long ((ck_sm (ck_nP hd lo hi (ck_md hd lo hi) lm) lo hi i) + (ck_mid lo hi i))), (0, .ref h), (1, .long lm), (3, .int pt), (4, .long (ck_md hd lo hi)), (8, .long (ck_cL (ck_nP hd lo hi (ck_md hd lo hi) lm) i)), (10, .int (nI i))]) hx hb dX1_mean_84 hl (by decide) rfl (fun ls hl => ?_)
                refine lv_lload hx hb dX1_mean_86 (lv_at hl 5 rfl) ?_
                refine lv_lconst (v := 1) hx hb dX1_mean_88 (by decide) ?_
                refine lv_ladd hx hb dX1_mean_89 ?_
                refine lv_lstore (lv' := [(8, .long ((ck_cL (ck_nP hd lo hi (ck_md hd lo hi) lm) i) + 1)), (6, .long ((ck_sm (ck_nP hd lo hi (ck_md hd lo hi) lm) lo hi i) + (ck_mid lo hi i))), (0, .ref h), (1, .long lm), (3, .int pt), (4, .long (ck_md hd lo hi)), (10, .int (nI i))]) hx hb dX1_mean_90 hl (by decide) rfl (fun ls hl => ?_)
                refine lv_iinc (v := (nI (i + 1))) (lv' := [(10, .int (nI (i + 1))), (8, .long ((ck_cL (ck_nP hd lo hi (ck_md hd lo hi) lm) i) + 1)), (6, .long ((ck_sm (ck_nP hd lo hi (ck_md hd lo hi) lm) lo hi i) + (ck_mid lo hi i))), (0, .ref h), (1, .long lm), (3, .int pt), (4, .long (ck_md hd lo hi))]) hx hb dX1_mean_92 hl (k := 6) rfl (nI_1 i) (by decide) rfl (fun ls hl => ?_)
                refine lv_goto (tgt := 41) hx hb dX1_mean_95 (by decide) ?_
                refine ih_i ls hlt_i (trivial) ?_
                have hq : lv_has ls 11 [(0, .ref h), (1, .long lm), (3, .int pt), (4, .long (ck_md hd lo hi)), (6, .long ((ck_sm (ck_nP hd lo hi (ck_md hd lo hi) lm) lo hi i) + (ck_mid lo hi i))), (8, .long ((ck_cL (ck_nP hd lo hi (ck_md hd lo hi) lm) i) + 1)), (10, .int (nI (i + 1)))] := lv_sub hl [3, 4, 5, 6, 2, 1, 0] rfl
                have eq0 : ((ck_sm (ck_nP hd lo hi (ck_md hd lo hi) lm) lo hi i) + (ck_mid lo hi i)) = (ck_sm (ck_nP hd lo hi (ck_md hd lo hi) lm) lo hi (i + 1)) := by simp [ck_sm, ck_cL, ck_nP, c_7, c_8]
                have eq1 : ((ck_cL (ck_nP hd lo hi (ck_md hd lo hi) lm) i) + 1) = (ck_cL (ck_nP hd lo hi (ck_md hd lo hi) lm) (i + 1)) := by simp [ck_sm, ck_cL, ck_nP, c_7, c_8]
                exact lv_eqq hq (by rw [← eq1, ← eq0])
        · refine lv_ldc2 (v := ck_NO) hx hb hown (hts (.constantLong RX1 30 ck_NO) (by decide +kernel)) dX1_mean_22 ?_
          have hres : ck_NO = (ck_mn hd lo hi lm pt) := by have hne : ¬ hd = 0 := fun q => c_1 (ck_ns0.mpr q); simp [ck_mn, hne, ck_zoB c_4, c_1, c_2, c_3, c_4]
          exact W.lret (v := ck_NO) hx hb hr (fun t ht _ => ⟨congrArg (fun z => Outcome.returned (some (Value.long z))) hres, ht⟩) (fun _ h => nomatch h) dX1_mean_25

set_option maxHeartbeats 4000000 in
set_option maxRecDepth 100000 in
theorem c_X1_survivors (l : Launch) (D : va_G) (h a0 a1 a2 : Nat) (c0 c1 c2 : ClassId) (lo hi : Nat → Int64) (hd : Int32) (ow off go : Int64) (inv : ck_inv hd lo hi) (k : Int32)  : Met l yX1_survivors wsX1_survivors { frames := 2, cells := 0, slots := 0, locals := 42 } (va_Pc [.ref h, .int k] (ck_B D (mW h a0 a1 a2 c0 c1 c2 lo hi hd ow off go) (mT c0 c1 c2))) (ck_R (.int (ck_sv hd lo hi k))) 0 0 (fun _ => False) := by
  refine Met.ofW (cc := cX1_survivors) (maxL := 10) (ret := (some .int)) (by decide) rfl ?_
  intro p e s m args below meth c s₁ B hml hv
  obtain ⟨rfl, hP, hK⟩ := hv
  have hx := B.exec
  have hb := B.bytes
  have hr := B.returns
  have hts := atoms_spec (ws := wsX1_survivors) B.pre
  have hown : s.vm.findClass RX1 = some m.cls := findClass_of_methodNamed B.named
  have hlocks := B.notSynchronized
  have hin : ∀ w ∈ wsX10, w ∈ wsX1_survivors := fun _ h => List.mem_cons_of_mem _ (List.mem_append_right _ h)
  have hl := lv_entry ([.ref h, .int k]) (n := 10) (Nat.le_of_ble_eq_true rfl)
  rw [lg_entry_eq]
  generalize (lg_sl ([.ref h, .int k]) ++ List.replicate (10 - (lg_sl ([.ref h, .int k])).length) Slot.unset).toArray = ls at hl ⊢
  have hl : lv_has ls 10 [(0, .ref h), (1, .int k)] := hl
  refine lv_iload_n hx hb dX1_survivors_0 rfl (lv_at hl 1 rfl) ?_
  refine lv_iconst (v := 1) hx hb dX1_survivors_1 (by decide) ?_
  refine lv_icmp_lt (tgt := 11) hx hb dX1_survivors_2 (by decide) (fun c_1 => ?_) (fun c_1 => ?_)
  · refine lv_iconst (v := (-1)) hx hb dX1_survivors_11 (by decide) ?_
    have hres : (-1) = (ck_sv hd lo hi k) := by first | (simp [ck_sv, ck_ctN c_1]; done) | (simp [ck_sv, ck_ctB c_2]; done)
    exact W.iret (v := (-1)) hx hb hr (fun t ht _ => ⟨congrArg (fun z => Outcome.returned (some (Value.int z))) hres, ht⟩) (fun _ h => nomatch h) dX1_survivors_12
  · refine lv_iload_n hx hb dX1_survivors_5 rfl (lv_at hl 1 rfl) ?_
    refine lv_bipush (v := 24) hx hb dX1_survivors_6 (by decide) ?_
    refine lv_icmp_le (tgt := 13) hx hb dX1_survivors_8 (by decide) (fun c_2 => ?_) (fun c_2 => ?_)
    · refine lv_iconst (v := 0) hx hb dX1_survivors_13 (by decide) ?_
      refine lv_istore_n (lv' := [(2, .int 0), (0, .ref h), (1, .int k)]) hx hb dX1_survivors_14 rfl hl (by decide) rfl (fun ls hl => ?_)
      refine lv_iconst (v := 0) hx hb dX1_survivors_15 (by decide) ?_
      refine lv_istore_n (lv' := [(3, .int 0), (2, .int 0), (0, .ref h), (1, .int k)]) hx hb dX1_survivors_16 rfl hl (by decide) rfl (fun ls hl => ?_)
      refine lv_iconst (v := 0) hx hb dX1_survivors_17 (by decide) ?_
      refine lv_istore (lv' := [(4, .int 0), (3, .int 0), (2, .int 0), (0, .ref h), (1, .int k)]) hx hb dX1_survivors_18 hl (by decide) rfl (fun ls hl => ?_)
      refine ck_loop (G := fun ls => W p l e _ s m _ below meth c _ _ _ _ _ (F0 m 20 ls [])) (nL := 10) (24) (fun i => True) (fun i => [(0, .ref h), (1, .int k), (2, .int (ck_mk (bt hd) i)), (3, .int (ck_cn (bt hd) i)), (4, .int (nI i))]) (fun i hle_i hj_i ih_i ls hl => ?_) ls (trivial) ?_
      rotate_left
      · have hq : lv_has ls 10 [(0, .ref h), (1, .int k), (2, .int 0), (3, .int 0), (4, .int 0)] := lv_sub hl [3, 4, 2, 1, 0] rfl
        exact hq
      have hl : lv_has ls 10 [(0, .ref h), (1, .int k), (2, .int (ck_mk (bt hd) i)), (3, .int (ck_cn (bt hd) i)), (4, .int (nI i))] := hl
      refine lv_iload hx hb dX1_survivors_20 (lv_at hl 4 rfl) ?_
      refine lv_bipush (v := 24) hx hb dX1_survivors_22 (by decide) ?_
      refine lv_icmp_ge (tgt := 72) hx hb dX1_survivors_24 (by decide) (fun c_3 => ?_) (fun c_3 => ?_)
      · have heq_i : i = 24 := ck_eqN hle_i c_3
        subst heq_i
        have hl : lv_has ls 10 [(0, .ref h), (1, .int k), (2, .int (ck_mk (bt hd) 24)), (3, .int (ck_cn (bt hd) 24)), (4, .int (nI 24))] := hl
        refine ck_loop (G := fun ls => W p l e _ s m _ below meth c _ _ _ _ _ (F0 m 72 ls [])) (nL := 10) (24) (fun r => ck_sj hd lo hi k r) (fun r => [(0, .ref h), (1, .int k), (2, .int (ck_lf hd lo hi k r)), (3, .int (ck_ns (ck_lf hd lo hi k r)))]) (fun r hle_r hj_r ih_r ls hl => ?_) ls (ck_sj0 inv k) ?_
        rotate_left
        · have hq : lv_has ls 10 [(0, .ref h), (1, .int k), (2, .int (ck_mk (bt hd) 24)), (3, .int (ck_cn (bt hd) 24))] := lv_sub hl [0, 1, 2, 3] rfl
          exact lv_eqq hq (by rw [ck_mkE inv.1, ck_ns24 inv.1]; rfl)
        have hl : lv_has ls 10 [(0, .ref h), (1, .int k), (2, .int (ck_lf hd lo hi k r)), (3, .int (ck_ns (ck_lf hd lo hi k r)))] := hl
        refine lv_iload_n hx hb dX1_survivors_72 rfl (lv_at hl 3 rfl) ?_
        refine lv_iload_n hx hb dX1_survivors_73 rfl (lv_at hl 1 rfl) ?_
        refine lv_icmp_le (tgt := 217) hx hb dX1_survivors_74 (by decide) (fun c_4 => ?_) (fun c_4 => ?_)
        · refine lv_iload_n hx hb dX1_survivors_217 rfl (lv_at hl 2 rfl) ?_
          have hres : (ck_lf hd lo hi k r) = (ck_sv hd lo hi k) := by rw [ck_lf_stop c_4 hle_r, ck_sv, ck_ctI c_1 c_2, if_pos rfl]
          exact W.iret (v := (ck_lf hd lo hi k r)) hx hb hr (fun t ht _ => ⟨congrArg (fun z => Outcome.returned (some (Value.int z))) hres, ht⟩) (fun _ h => nomatch h) dX1_survivors_218
        · refine lv_lconst (v := 0) hx hb dX1_survivors_77 (by decide) ?_
          refine lv_lstore (lv' := [(4, .long 0), (0, .ref h), (1, .int k), (2, .int (ck_lf hd lo hi k r)), (3, .int (ck_ns (ck_lf hd lo hi k r)))]) hx hb dX1_survivors_78 hl (by decide) rfl (fun ls hl => ?_)
          refine lv_iconst (v := 0) hx hb dX1_survivors_80 (by decide) ?_
          refine lv_istore (lv' := [(6, .int 0), (4, .long 0), (0, .ref h), (1, .int k), (2, .int (ck_lf hd lo hi k r)), (3, .int (ck_ns (ck_lf hd lo hi k r)))]) hx hb dX1_survivors_81 hl (by decide) rfl (fun ls hl => ?_)
          refine ck_loop (G := fun ls => W p l e _ s m _ below meth c _ _ _ _ _ (F0 m 83 ls [])) (nL := 10) (24) (fun o => True) (fun o => [(0, .ref h), (1, .int k), (2, .int (ck_lf hd lo hi k r)), (3, .int (ck_ns (ck_lf hd lo hi k r))), (4, .long (ck_sm (bt (ck_lf hd lo hi k r)) lo hi o)), (6, .int (nI o))]) (fun o hle_o hj_o ih_o ls hl => ?_) ls (trivial) ?_
          rotate_left
          · have hq : lv_has ls 10 [(0, .ref h), (1, .int k), (2, .int (ck_lf hd lo hi k r)), (3, .int (ck_ns (ck_lf hd lo hi k r))), (4, .long 0), (6, .int 0)] := lv_sub hl [2, 3, 4, 5, 1, 0] rfl
            exact hq
          have hl : lv_has ls 10 [(0, .ref h), (1, .int k), (2, .int (ck_lf hd lo hi k r)), (3, .int (ck_ns (ck_lf hd lo hi k r))), (4, .long (ck_sm (bt (ck_lf hd lo hi k r)) lo hi o)), (6, .int (nI o))] := hl
          refine lv_iload hx hb dX1_survivors_83 (lv_at hl 5 rfl) ?_
          refine lv_bipush (v := 24) hx hb dX1_survivors_85 (by decide) ?_
          refine lv_icmp_ge (tgt := 121) hx hb dX1_survivors_87 (by decide) (fun c_5 => ?_) (fun c_5 => ?_)
          · have heq_o : o = 24 := ck_eqN hle_o c_5
            subst heq_o
            have hl : lv_has ls 10 [(0, .ref h), (1, .int k), (2, .int (ck_lf hd lo hi k r)), (3, .int (ck_ns (ck_lf hd lo hi k r))), (4, .long (ck_sm (bt (ck_lf hd lo hi k r)) lo hi 24)), (6, .int (nI 24))] := hl
            refine lv_lload hx hb dX1_survivors_121 (lv_at hl 4 rfl) ?_
            refine lv_iload_n hx hb dX1_survivors_123 rfl (lv_at hl 3 rfl) ?_
            refine lv_i2l (v := (Int32.toInt64 (ck_ns (ck_lf hd lo hi k r)))) hx hb dX1_survivors_124 rfl ?_
            refine ck_cS (As := [.long (ck_sm (bt (ck_lf hd lo hi k r)) lo hi 24), .long (Int32.toInt64 (ck_ns (ck_lf hd lo hi k r)))]) (rest := []) ⟨hx, hb, hml, hown, hts⟩ (c_X1_over l (ck_sm (bt (ck_lf hd lo hi k r)) lo hi 24) (Int32.toInt64 (ck_ns (ck_lf hd lo hi k r))) (ck_posn c_1 c_4)) (va_cwS 2 hts gX1_survivors_X1_over rfl rfl rfl (by decide +kernel) ⟨Nat.le_of_ble_eq_true rfl, Nat.le_of_ble_eq_true rfl⟩) rfl hl.1 rfl (Nat.le_of_ble_eq_true rfl) dX1_survivors_125 ⟨Nat.le_of_ble_eq_true rfl, Nat.le_of_ble_eq_true rfl⟩ ?_
            refine lv_lstore (lv' := [(6, .long (ck_fd (ck_sm (bt (ck_lf hd lo hi k r)) lo hi 24) (Int32.toInt64 (ck_ns (ck_lf hd lo hi k r))))), (0, .ref h), (1, .int k), (2, .int (ck_lf hd lo hi k r)), (3, .int (ck_ns (ck_lf hd lo hi k r))), (4, .long (ck_sm (bt (ck_lf hd lo hi k r)) lo hi 24))]) hx hb dX1_survivors_128 hl (by decide) rfl (fun ls hl => ?_)
            refine lv_iconst (v := (-1)) hx hb dX1_survivors_130 (by decide) ?_
            refine lv_istore (lv' := [(8, .int (-1)), (6, .long (ck_fd (ck_sm (bt (ck_lf hd lo hi k r)) lo hi 24) (Int32.toInt64 (ck_ns (ck_lf hd lo hi k r))))), (0, .ref h), (1, .int k), (2, .int (ck_lf hd lo hi k r)), (3, .int (ck_ns (ck_lf hd lo hi k r))), (4, .long (ck_sm (bt (ck_lf hd lo hi k r)) lo hi 24))]) hx hb dX1_survivors_131 hl (by decide) rfl (fun ls hl => ?_)
            refine lv_iconst (v := 0) hx hb dX1_survivors_133 (by decide) ?_
            refine lv_istore (lv' := [(9, .int 0), (8, .int (-1)), (6, .long (ck_fd (ck_sm (bt (ck_lf hd lo hi k r)) lo hi 24) (Int32.toInt64 (ck_ns (ck_lf hd lo hi k r))))), (0, .ref h), (1, .int k), (2, .int (ck_lf hd lo hi k r)), (3, .int (ck_ns (ck_lf hd lo hi k r))), (4, .long (ck_sm (bt (ck_lf hd lo hi k r)) lo hi 24))]) hx hb dX1_survivors_134 hl (by decide) rfl (fun ls hl => ?_)
            refine ck_loop (G := fun ls => W p l e _ s m _ below meth c _ _ _ _ _ (F0 m 136 ls [])) (nL := 10) (24) (fun u => True) (fun u => [(0, .ref h), (1, .int k), (2, .int (ck_lf hd lo hi k r)), (3, .int (ck_ns (ck_lf hd lo hi k r))), (6, .long (ck_fd (ck_sm (bt (ck_lf hd lo hi k r)) lo hi 24) (Int32.toInt64 (ck_ns (ck_lf hd lo hi k r))))), (8, .int (ck_wi (ck_lf hd lo hi k r) lo hi (ck_fd (ck_sm (bt (ck_lf hd lo hi k r)) lo hi 24) (Int32.toInt64 (ck_ns (ck_lf hd lo hi k r)))) u)), (9, .int (nI u))]) (fun u hle_u hj_u ih_u ls hl => ?_) ls (trivial) ?_
            rotate_left
            · have hq : lv_has ls 10 [(0, .ref h), (1, .int k), (2, .int (ck_lf hd lo hi k r)), (3, .int (ck_ns (ck_lf hd lo hi k r))), (6, .long (ck_fd (ck_sm (bt (ck_lf hd lo hi k r)) lo hi 24) (Int32.toInt64 (ck_ns (ck_lf hd lo hi k r))))), (8, .int (-1)), (9, .int 0)] := lv_sub hl [3, 4, 5, 6, 2, 1, 0] rfl
              exact hq
            have hl : lv_has ls 10 [(0, .ref h), (1, .int k), (2, .int (ck_lf hd lo hi k r)), (3, .int (ck_ns (ck_lf hd lo hi k r))), (6, .long (ck_fd (ck_sm (bt (ck_lf hd lo hi k r)) lo hi 24) (Int32.toInt64 (ck_ns (ck_lf hd lo hi k r))))), (8, .int (ck_wi (ck_lf hd lo hi k r) lo hi (ck_fd (ck_sm (bt (ck_lf hd lo hi k r)) lo hi 24) (Int32.toInt64 (ck_ns (ck_lf hd lo hi k r)))) u)), (9, .int (nI u))] := hl
            refine lv_iload hx hb dX1_survivors_136 (lv_at hl 6 rfl) ?_
            refine lv_bipush (v := 24) hx hb dX1_survivors_138 (by decide) ?_
            refine lv_icmp_ge (tgt := 202) hx hb dX1_survivors_140 (by decide) (fun c_6 => ?_) (fun c_6 => ?_)
            · have heq_u : u = 24 := ck_eqN hle_u c_6
              subst heq_u
              have hl : lv_has ls 10 [(0, .ref h), (1, .int k), (2, .int (ck_lf hd lo hi k r)), (3, .int (ck_ns (ck_lf hd lo hi k r))), (6, .long (ck_fd (ck_sm (bt (ck_lf hd lo hi k r)) lo hi 24) (Int32.toInt64 (ck_ns (ck_lf hd lo hi k r))))), (8, .int (ck_wi (ck_lf hd lo hi k r) lo hi (ck_fd (ck_sm (bt (ck_lf hd lo hi k r)) lo hi 24) (Int32.toInt64 (ck_ns (ck_lf hd lo hi k r)))) 24)), (9, .int (nI 24))] := hl
              refine lv_iload_n hx hb dX1_survivors_202 rfl (lv_at hl 2 rfl) ?_
              refine lv_iconst (v := 1) hx hb dX1_survivors_203 (by decide) ?_
              refine lv_iload hx hb dX1_survivors_204 (lv_at hl 5 rfl) ?_
              refine lv_ishl hx hb dX1_survivors_206 ?_
              refine lv_iconst (v := (-1)) hx hb dX1_survivors_207 (by decide) ?_
              refine lv_ixor hx hb dX1_survivors_208 ?_
              refine lv_iand hx hb dX1_survivors_209 ?_
              refine lv_istore_n (lv' := [(2, .int ((ck_lf hd lo hi k r) &&& ((1 <<< ((ck_wi (ck_lf hd lo hi k r) lo hi (ck_fd (ck_sm (bt (ck_lf hd lo hi k r)) lo hi 24) (Int32.toInt64 (ck_ns (ck_lf hd lo hi k r)))) 24) &&& 31)) ^^^ (-1)))), (0, .ref h), (1, .int k), (3, .int (ck_ns (ck_lf hd lo hi k r))), (6, .long (ck_fd (ck_sm (bt (ck_lf hd lo hi k r)) lo hi 24) (Int32.toInt64 (ck_ns (ck_lf hd lo hi k r))))), (8, .int (ck_wi (ck_lf hd lo hi k r) lo hi (ck_fd (ck_sm (bt (ck_lf hd lo hi k r)) lo hi 24) (Int32.toInt64 (ck_ns (ck_lf hd lo hi k r)))) 24)), (9, .int (nI 24))]) hx hb dX1_survivors_210 rfl hl (by decide) rfl (fun ls hl => ?_)
              refine lv_iinc (v := ((ck_ns (ck_lf hd lo hi k r)) + -1)) (lv' := [(3, .int ((ck_ns (ck_lf hd lo hi k r)) + -1)), (2, .int ((ck_lf hd lo hi k r) &&& ((1 <<< ((ck_wi (ck_lf hd lo hi k r) lo hi (ck_fd (ck_sm (bt (ck_lf hd lo hi k r)) lo hi 24) (Int32.toInt64 (ck_ns (ck_lf hd lo hi k r)))) 24) &&& 31)) ^^^ (-1)))), (0, .ref h), (1, .int k), (6, .long (ck_fd (ck_sm (bt (ck_lf hd lo hi k r)) lo hi 24) (Int32.toInt64 (ck_ns (ck_lf hd lo hi k r))))), (8, .int (ck_wi (ck_lf hd lo hi k r) lo hi (ck_fd (ck_sm (bt (ck_lf hd lo hi k r)) lo hi 24) (Int32.toInt64 (ck_ns (ck_lf hd lo hi k r)))) 24)), (9, .int (nI 24))]) hx hb dX1_survivors_211 hl (k := 3) rfl rfl (by decide) rfl (fun ls hl => ?_)
              refine lv_goto (tgt := 72) hx hb dX1_survivors_214 (by decide) ?_
              have hlt_r : r < 24 := ck_lf_lt hj_r c_1 c_4
              refine ih_r ls hlt_r (ck_sj_s inv hj_r c_1 c_4) ?_
              have hq : lv_has ls 10 [(0, .ref h), (1, .int k), (2, .int ((ck_lf hd lo hi k r) &&& ((1 <<< ((ck_wi (ck_lf hd lo hi k r) lo hi (ck_fd (ck_sm (bt (ck_lf hd lo hi k r)) lo hi 24) (Int32.toInt64 (ck_ns (ck_lf hd lo hi k r)))) 24) &&& 31)) ^^^ (-1)))), (3, .int ((ck_ns (ck_lf hd lo hi k r)) + -1))] := lv_sub hl [2, 3, 1, 0] rfl
              have eq0 : ((ck_lf hd lo hi k r) &&& ((1 <<< ((ck_wi (ck_lf hd lo hi k r) lo hi (ck_fd (ck_sm (bt (ck_lf hd lo hi k r)) lo hi 24) (Int32.toInt64 (ck_ns (ck_lf hd lo hi k r)))) 24) &&& 31)) ^^^ (-1))) = (ck_lf hd lo hi k (r + 1)) := by exact ck_lf_next inv hj_r c_1 c_4
              have eq1 : ((ck_ns (ck_lf hd lo hi k r)) + -1) = (ck_ns (ck_lf hd lo hi k (r + 1))) := by exact ck_ns_next inv hj_r c_1 c_4
              exact lv_eqq hq (by rw [← eq1, ← eq0])
            · have hlt_u : u < 24 := ck_ltN hle_u c_6
              refine lv_iload_n hx hb dX1_survivors_143 rfl (lv_at hl 2 rfl) ?_
              refine lv_iload hx hb dX1_survivors_144 (lv_at hl 6 rfl) ?_
              refine lv_ishr hx hb dX1_survivors_146 ?_
              refine lv_iconst (v := 1) hx hb dX1_survivors_147 (by decide) ?_
              refine lv_iand hx hb dX1_survivors_148 ?_
              refine lv_iconst (v := 1) hx hb dX1_survivors_149 (by decide) ?_
              refine lv_icmp_ne (tgt := 192) hx hb dX1_survivors_150 (by decide) (fun c_7 => ?_) (fun c_7 => ?_)
              · have c_7 := ck_sh1n hlt_u c_7
                refine lv_iload hx hb dX1_survivors_192 (lv_at hl 5 rfl) ?_
                refine lv_istore (lv' := [(8, .int (ck_wi (ck_lf hd lo hi k r) lo hi (ck_fd (ck_sm (bt (ck_lf hd lo hi k r)) lo hi 24) (Int32.toInt64 (ck_ns (ck_lf hd lo hi k r)))) u)), (0, .ref h), (1, .int k), (2, .int (ck_lf hd lo hi k r)), (3, .int (ck_ns (ck_lf hd lo hi k r))), (6, .long (ck_fd (ck_sm (bt (ck_lf hd lo hi k r)) lo hi 24) (Int32.toInt64 (ck_ns (ck_lf hd lo hi k r))))), (9, .int (nI u))]) hx hb dX1_survivors_194 hl (by decide) rfl (fun ls hl => ?_)
                refine lv_iinc (v := (nI (u + 1))) (lv' := [(9, .int (nI (u + 1))), (8, .int (ck_wi (ck_lf hd lo hi k r) lo hi (ck_fd (ck_sm (bt (ck_lf hd lo hi k r)) lo hi 24) (Int32.toInt64 (ck_ns (ck_lf hd lo hi k r)))) u)), (0, .ref h), (1, .int k), (2, .int (ck_lf hd lo hi k r)), (3, .int (ck_ns (ck_lf hd lo hi k r))), (6, .long (ck_fd (ck_sm (bt (ck_lf hd lo hi k r)) lo hi 24) (Int32.toInt64 (ck_ns (ck_lf hd lo hi k r)))))]) hx hb dX1_survivors_196 hl (k := 6) rfl (nI_1 u) (by decide) rfl (fun ls hl => ?_)
                refine lv_goto (tgt := 136) hx hb dX1_survivors_199 (by decide) ?_
                refine ih_u ls hlt_u (trivial) ?_
                have hq : lv_has ls 10 [(0, .ref h), (1, .int k), (2, .int (ck_lf hd lo hi k r)), (3, .int (ck_ns (ck_lf hd lo hi k r))), (6, .long (ck_fd (ck_sm (bt (ck_lf hd lo hi k r)) lo hi 24) (Int32.toInt64 (ck_ns (ck_lf hd lo hi k r))))), (8, .int (ck_wi (ck_lf hd lo hi k r) lo hi (ck_fd (ck_sm (bt (ck_lf hd lo hi k r)) lo hi 24) (Int32.toInt64 (ck_ns (ck_lf hd lo hi k r)))) u)), (9, .int (nI (u + 1)))] := lv_sub hl [2, 3, 4, 5, 6, 1, 0] rfl
                have eq0 : (ck_wi (ck_lf hd lo hi k r) lo hi (ck_fd (ck_sm (bt (ck_lf hd lo hi k r)) lo hi 24) (Int32.toInt64 (ck_ns (ck_lf hd lo hi k r)))) u) = (ck_wi (ck_lf hd lo hi k r) lo hi (ck_fd (ck_sm (bt (ck_lf hd lo hi k r)) lo hi 24) (Int32.toInt64 (ck_ns (ck_lf hd lo hi k r)))) (u + 1)) := by exact ck_wi_skip c_7
                exact lv_eqq hq (by rw [← eq0])
              · have c_7 := ck_sh1 hlt_u c_7
                refine lv_iload hx hb dX1_survivors_153 (lv_at hl 5 rfl) ?_
                refine lv_iconst (v := (-1)) hx hb dX1_survivors_155 (by decide) ?_
                refine lv_icmp_eq (tgt := 187) hx hb dX1_survivors_156 (by decide) (fun c_8 => ?_) (fun c_8 => ?_)
                · refine lv_iload hx hb dX1_survivors_187 (lv_at hl 6 rfl) ?_
                  refine lv_goto (tgt := 194) hx hb dX1_survivors_189 (by decide) ?_
                  refine lv_istore (lv' := [(8, .int (nI u)), (0, .ref h), (1, .int k), (2, .int (ck_lf hd lo hi k r)), (3, .int (ck_ns (ck_lf hd lo hi k r))), (6, .long (ck_fd (ck_sm (bt (ck_lf hd lo hi k r)) lo hi 24) (Int32.toInt64 (ck_ns (ck_lf hd lo hi k r))))), (9, .int (nI u))]) hx hb dX1_survivors_194 hl (by decide) rfl (fun ls hl => ?_)
                  refine lv_iinc (v := (nI (u + 1))) (lv' := [(9, .int (nI (u + 1))), (8, .int (nI u)), (0, .ref h), (1, .int k), (2, .int (ck_lf hd lo hi k r)), (3, .int (ck_ns (ck_lf hd lo hi k r))), (6, .long (ck_fd (ck_sm (bt (ck_lf hd lo hi k r)) lo hi 24) (Int32.toInt64 (ck_ns (ck_lf hd lo hi k r)))))]) hx hb dX1_survivors_196 hl (k := 6) rfl (nI_1 u) (by decide) rfl (fun ls hl => ?_)
                  refine lv_goto (tgt := 136) hx hb dX1_survivors_199 (by decide) ?_
                  refine ih_u ls hlt_u (trivial) ?_
                  have hq : lv_has ls 10 [(0, .ref h), (1, .int k), (2, .int (ck_lf hd lo hi k r)), (3, .int (ck_ns (ck_lf hd lo hi k r))), (6, .long (ck_fd (ck_sm (bt (ck_lf hd lo hi k r)) lo hi 24) (Int32.toInt64 (ck_ns (ck_lf hd lo hi k r))))), (8, .int (nI u)), (9, .int (nI (u + 1)))] := lv_sub hl [2, 3, 4, 5, 6, 1, 0] rfl
                  have eq0 : (nI u) = (ck_wi (ck_lf hd lo hi k r) lo hi (ck_fd (ck_sm (bt (ck_lf hd lo hi k r)) lo hi 24) (Int32.toInt64 (ck_ns (ck_lf hd lo hi k r)))) (u + 1)) := by exact ck_wi_first (ck_Mnn inv.2 c_1 c_4 _) hle_u c_7 c_8
                  exact lv_eqq hq (by rw [← eq0])
                · obtain ⟨w8, hw8, hwe, hwz, hw2, hwm⟩ := ck_wiE (ck_Mnn inv.2 c_1 c_4 _) hle_u c_8
                  rw [hwe] at hl
                  have hl : lv_has ls 10 [(0, .ref h), (1, .int k), (2, .int (ck_lf hd lo hi k r)), (3, .int (ck_ns (ck_lf hd lo hi k r))), (6, .long (ck_fd (ck_sm (bt (ck_lf hd lo hi k r)) lo hi 24) (Int32.toInt64 (ck_ns (ck_lf hd lo hi k r))))), (8, .int (nI w8)), (9, .int (nI u))] := hl
                  refine lv_aload_n hx hb dX1_survivors_159 rfl (lv_at hl 0 rfl) ?_
                  refine lv_iload hx hb dX1_survivors_160 (lv_at hl 6 rfl) ?_
                  refine ck_cV (As := [.int (nI u)]) (rest := []) ⟨hx, hb, hml, hown, hts⟩ (c_X1_middle l D h a0 a1 a2 c0 c1 c2 lo hi hd ow off go inv u hlt_u) (cwV 1 hts gX1_survivors_X1_middle rfl rfl rfl (by decide +kernel) ⟨Nat.le_of_ble_eq_true rfl, Nat.le_of_ble_eq_true rfl⟩) hP hK (va_recv hK hP (ci := 1) (q0 := 0) rfl rfl) rfl hl.1 rfl (Nat.le_of_ble_eq_true rfl) dX1_survivors_162 ⟨Nat.le_of_ble_eq_true rfl, Nat.le_of_ble_eq_true rfl⟩ ?_
                  refine lv_lload hx hb dX1_survivors_165 (lv_at hl 4 rfl) ?_
                  refine lv_lsub hx hb dX1_survivors_167 ?_
                  refine ck_cS (As := [.long ((ck_mid lo hi u) - (ck_fd (ck_sm (bt (ck_lf hd lo hi k r)) lo hi 24) (Int32.toInt64 (ck_ns (ck_lf hd lo hi k r)))))]) (rest := []) ⟨hx, hb, hml, hown, hts⟩ (c_X1_size l ((ck_mid lo hi u) - (ck_fd (ck_sm (bt (ck_lf hd lo hi k r)) lo hi 24) (Int32.toInt64 (ck_ns (ck_lf hd lo hi k r)))))) (va_cwS 1 hts gX1_survivors_X1_size rfl rfl rfl (by decide +kernel) ⟨Nat.le_of_ble_eq_true rfl, Nat.le_of_ble_eq_true rfl⟩) rfl hl.1 rfl (Nat.le_of_ble_eq_true rfl) dX1_survivors_168 ⟨Nat.le_of_ble_eq_true rfl, Nat.le_of_ble_eq_true rfl⟩ ?_
                  refine lv_aload_n hx hb dX1_survivors_171 rfl (lv_at hl 0 rfl) ?_
                  refine lv_iload hx hb dX1_survivors_172 (lv_at hl 5 rfl) ?_
                  refine ck_cV (As := [.int (nI w8)]) (rest := [.long (ck_abs ((ck_mid lo hi u) - (ck_fd (ck_sm (bt (ck_lf hd lo hi k r)) lo hi 24) (Int32.toInt64 (ck_ns (ck_lf hd lo hi k r))))))]) ⟨hx, hb, hml, hown, hts⟩ (c_X1_middle l D h a0 a1 a2 c0 c1 c2 lo hi hd ow off go inv w8 hw8) (cwV 1 hts gX1_survivors_X1_middle rfl rfl rfl (by decide +kernel) ⟨Nat.le_of_ble_eq_true rfl, Nat.le_of_ble_eq_true rfl⟩) hP hK (va_recv hK hP (ci := 1) (q0 := 0) rfl rfl) rfl hl.1 rfl (Nat.le_of_ble_eq_true rfl) dX1_survivors_174 ⟨Nat.le_of_ble_eq_true rfl, Nat.le_of_ble_eq_true rfl⟩ ?_
                  refine lv_lload hx hb dX1_survivors_177 (lv_at hl 4 rfl) ?_
                  refine lv_lsub hx hb dX1_survivors_179 ?_
                  refine ck_cS (As := [.long ((ck_mid lo hi w8) - (ck_fd (ck_sm (bt (ck_lf hd lo hi k r)) lo hi 24) (Int32.toInt64 (ck_ns (ck_lf hd lo hi k r)))))]) (rest := [.long (ck_abs ((ck_mid lo hi u) - (ck_fd (ck_sm (bt (ck_lf hd lo hi k r)) lo hi 24) (Int32.toInt64 (ck_ns (ck_lf hd lo hi k r))))))]) ⟨hx, hb, hml, hown, hts⟩ (c_X1_size l ((ck_mid lo hi w8) - (ck_fd (ck_sm (bt (ck_lf hd lo hi k r)) lo hi 24) (Int32.toInt64 (ck_ns (ck_lf hd lo hi k r)))))) (va_cwS 1 hts gX1_survivors_X1_size rfl rfl rfl (by decide +kernel) ⟨Nat.le_of_ble_eq_true rfl, Nat.le_of_ble_eq_true rfl⟩) rfl hl.1 rfl (Nat.le_of_ble_eq_true rfl) dX1_survivors_180 ⟨Nat.le_of_ble_eq_true rfl, Nat.le_of_ble_eq_true rfl⟩ ?_
                  refine W.lcmp hx hb dX1_survivors_183 ?_
                  refine lv_if_lt (tgt := 192) hx hb dX1_survivors_184 (by decide) (fun c_9 => ?_) (fun c_9 => ?_)
                  · rw [lg_cmp_lt] at c_9
                    refine lv_iload hx hb dX1_survivors_192 (lv_at hl 5 rfl) ?_
                    refine lv_istore (lv' := [(8, .int (nI w8)), (0, .ref h), (1, .int k), (2, .int (ck_lf hd lo hi k r)), (3, .int (ck_ns (ck_lf hd lo hi k r))), (6, .long (ck_fd (ck_sm (bt (ck_lf hd lo hi k r)) lo hi 24) (Int32.toInt64 (ck_ns (ck_lf hd lo hi k r))))), (9, .int (nI u))]) hx hb dX1_survivors_194 hl (by decide) rfl (fun ls hl => ?_)
                    refine lv_iinc (v := (nI (u + 1))) (lv' := [(9, .int (nI (u + 1))), (8, .int (nI w8)), (0, .ref h), (1, .int k), (2, .int (ck_lf hd lo hi k r)), (3, .int (ck_ns (ck_lf hd lo hi k r))), (6, .long (ck_fd (ck_sm (bt (ck_lf hd lo hi k r)) lo hi 24) (Int32.toInt64 (ck_ns (ck_lf hd lo hi k r)))))]) hx hb dX1_survivors_196 hl (k := 6) rfl (nI_1 u) (by decide) rfl (fun ls hl => ?_)
                    refine lv_goto (tgt := 136) hx hb dX1_survivors_199 (by decide) ?_
                    refine ih_u ls hlt_u (trivial) ?_
                    have hq : lv_has ls 10 [(0, .ref h), (1, .int k), (2, .int (ck_lf hd lo hi k r)), (3, .int (ck_ns (ck_lf hd lo hi k r))), (6, .long (ck_fd (ck_sm (bt (ck_lf hd lo hi k r)) lo hi 24) (Int32.toInt64 (ck_ns (ck_lf hd lo hi k r))))), (8, .int (nI w8)), (9, .int (nI (u + 1)))] := lv_sub hl [2, 3, 4, 5, 6, 1, 0] rfl
                    have eq0 : (nI w8) = (ck_wi (ck_lf hd lo hi k r) lo hi (ck_fd (ck_sm (bt (ck_lf hd lo hi k r)) lo hi 24) (Int32.toInt64 (ck_ns (ck_lf hd lo hi k r)))) (u + 1)) := by first | exact ck_wi_keep c_7 hw2 hwm c_9 | exact ck_wi_take c_7 hwm c_9
                    exact lv_eqq hq (by rw [← eq0])
                  · rw [lg_cmp_lt] at c_9
                    refine lv_iload hx hb dX1_survivors_187 (lv_at hl 6 rfl) ?_
                    refine lv_goto (tgt := 194) hx hb dX1_survivors_189 (by decide) ?_
                    refine lv_istore (lv' := [(8, .int (nI u)), (0, .ref h), (1, .int k), (2, .int (ck_lf hd lo hi k r)), (3, .int (ck_ns (ck_lf hd lo hi k r))), (6, .long (ck_fd (ck_sm (bt (ck_lf hd lo hi k r)) lo hi 24) (Int32.toInt64 (ck_ns (ck_lf hd lo hi k r))))), (9, .int (nI u))]) hx hb dX1_survivors_194 hl (by decide) rfl (fun ls hl => ?_)
                    refine lv_iinc (v := (nI (u + 1))) (lv' := [(9, .int (nI (u + 1))), (8, .int (nI u)), (0, .ref h), (1, .int k), (2, .int (ck_lf hd lo hi k r)), (3, .int (ck_ns (ck_lf hd lo hi k r))), (6, .long (ck_fd (ck_sm (bt (ck_lf hd lo hi k r)) lo hi 24) (Int32.toInt64 (ck_ns (ck_lf hd lo hi k r)))))]) hx hb dX1_survivors_196 hl (k := 6) rfl (nI_1 u) (by decide) rfl (fun ls hl => ?_)
                    refine lv_goto (tgt := 136) hx hb dX1_survivors_199 (by decide) ?_
                    refine ih_u ls hlt_u (trivial) ?_
                    have hq : lv_has ls 10 [(0, .ref h), (1, .int k), (2, .int (ck_lf hd lo hi k r)), (3, .int (ck_ns (ck_lf hd lo hi k r))), (6, .long (ck_fd (ck_sm (bt (ck_lf hd lo hi k r)) lo hi 24) (Int32.toInt64 (ck_ns (ck_lf hd lo hi k r))))), (8, .int (nI u)), (9, .int (nI (u + 1)))] := lv_sub hl [2, 3, 4, 5, 6, 1, 0] rfl
                    have eq0 : (nI u) = (ck_wi (ck_lf hd lo hi k r) lo hi (ck_fd (ck_sm (bt (ck_lf hd lo hi k r)) lo hi 24) (Int32.toInt64 (ck_ns (ck_lf hd lo hi k r)))) (u + 1)) := by first | exact ck_wi_keep c_7 hw2 hwm c_9 | exact ck_wi_take c_7 hwm c_9
                    exact lv_eqq hq (by rw [← eq0])
          · have hlt_o : o < 24 := ck_ltN hle_o c_5
            refine lv_lload hx hb dX1_survivors_90 (lv_at hl 4 rfl) ?_
            refine lv_iload_n hx hb dX1_survivors_92 rfl (lv_at hl 2 rfl) ?_
            refine lv_iload hx hb dX1_survivors_93 (lv_at hl 5 rfl) ?_
            refine lv_ishr hx hb dX1_survivors_95 ?_
            refine lv_iconst (v := 1) hx hb dX1_survivors_96 (by decide) ?_
            refine lv_iand hx hb dX1_survivors_97 ?_
            refine lv_iconst (v := 1) hx hb dX1_survivors_98 (by decide) ?_
            refine lv_icmp_ne (tgt := 111) hx hb dX1_survivors_99 (by decide) (fun c_10 => ?_) (fun c_10 => ?_)
            · have c_10 := ck_sh1n hlt_o c_10
              refine lv_lconst (v := 0) hx hb dX1_survivors_111 (by decide) ?_
              refine lv_ladd hx hb dX1_survivors_112 ?_
              refine lv_lstore (lv' := [(4, .long ((ck_sm (bt (ck_lf hd lo hi k r)) lo hi o) + 0)), (0, .ref h), (1, .int k), (2, .int (ck_lf hd lo hi k r)), (3, .int (ck_ns (ck_lf hd lo hi k r))), (6, .int (nI o))]) hx hb dX1_survivors_113 hl (by decide) rfl (fun ls hl => ?_)
              refine lv_iinc (v := (nI (o + 1))) (lv' := [(6, .int (nI (o + 1))), (4, .long ((ck_sm (bt (ck_lf hd lo hi k r)) lo hi o) + 0)), (0, .ref h), (1, .int k), (2, .int (ck_lf hd lo hi k r)), (3, .int (ck_ns (ck_lf hd lo hi k r)))]) hx hb dX1_survivors_115 hl (k := 5) rfl (nI_1 o) (by decide) rfl (fun ls hl => ?_)
              refine lv_goto (tgt := 83) hx hb dX1_survivors_118 (by decide) ?_
              refine ih_o ls hlt_o (trivial) ?_
              have hq : lv_has ls 10 [(0, .ref h), (1, .int k), (2, .int (ck_lf hd lo hi k r)), (3, .int (ck_ns (ck_lf hd lo hi k r))), (4, .long ((ck_sm (bt (ck_lf hd lo hi k r)) lo hi o) + 0)), (6, .int (nI (o + 1)))] := lv_sub hl [2, 3, 4, 5, 1, 0] rfl
              have eq0 : ((ck_sm (bt (ck_lf hd lo hi k r)) lo hi o) + 0) = (ck_sm (bt (ck_lf hd lo hi k r)) lo hi (o + 1)) := by simp [ck_sm, c_10]
              exact lv_eqq hq (by rw [← eq0])
            · have c_10 := ck_sh1 hlt_o c_10
              refine lv_aload_n hx hb dX1_survivors_102 rfl (lv_at hl 0 rfl) ?_
              refine lv_iload hx hb dX1_survivors_103 (lv_at hl 5 rfl) ?_
              refine ck_cV (As := [.int (nI o)]) (rest := [.long (ck_sm (bt (ck_lf hd lo hi k r)) lo hi o)]) ⟨hx, hb, hml, hown, hts⟩ (c_X1_middle l D h a0 a1 a2 c0 c1 c2 lo hi hd ow off go inv o hlt_o) (cwV 1 hts gX1_survivors_X1_middle rfl rfl rfl (by decide +kernel) ⟨Nat.le_of_ble_eq_true rfl, Nat.le_of_ble_eq_true rfl⟩) hP hK (va_recv hK hP (ci := 1) (q0 := 0) rfl rfl) rfl hl.1 rfl (Nat.le_of_ble_eq_true rfl) dX1_survivors_105 ⟨Nat.le_of_ble_eq_true rfl, Nat.le_of_ble_eq_true rfl⟩ ?_
              refine lv_goto (tgt := 112) hx hb dX1_survivors_108 (by decide) ?_
              refine lv_ladd hx hb dX1_survivors_112 ?_
              refine lv_lstore (lv' := [(4, .long ((ck_sm (bt (ck_lf hd lo hi k r)) lo hi o) + (ck_mid lo hi o))), (0, .ref h), (1, .int k), (2, .int (ck_lf hd lo hi k r)), (3, .int (ck_ns (ck_lf hd lo hi k r))), (6, .int (nI o))]) hx hb dX1_survivors_113 hl (by decide) rfl (fun ls hl => ?_)
              refine lv_iinc (v := (nI (o + 1))) (lv' := [(6, .int (nI (o + 1))), (4, .long ((ck_sm (bt (ck_lf hd lo hi k r)) lo hi o) + (ck_mid lo hi o))), (0, .ref h), (1, .int k), (2, .int (ck_lf hd lo hi k r)), (3, .int (ck_ns (ck_lf hd lo hi k r)))]) hx hb dX1_survivors_115 hl (k := 5) rfl (nI_1 o) (by decide) rfl (fun ls hl => ?_)
              refine lv_goto (tgt := 83) hx hb dX1_survivors_118 (by decide) ?_
              refine ih_o ls hlt_o (trivial) ?_
              have hq : lv_has ls 10 [(0, .ref h), (1, .int k), (2, .int (ck_lf hd lo hi k r)), (3, .int (ck_ns (ck_lf hd lo hi k r))), (4, .long ((ck_sm (bt (ck_lf hd lo hi k r)) lo hi o) + (ck_mid lo hi o))), (6, .int (nI (o + 1)))] := lv_sub hl [2, 3, 4, 5, 1, 0] rfl
              have eq0 : ((ck_sm (bt (ck_lf hd lo hi k r)) lo hi o) + (ck_mid lo hi o)) = (ck_sm (bt (ck_lf hd lo hi k r)) lo hi (o + 1)) := by simp [ck_sm, c_10]
              exact lv_eqq hq (by rw [← eq0])
      · have hlt_i : i < 24 := ck_ltN hle_i c_3
        refine lv_aload_n hx hb dX1_survivors_27 rfl (lv_at hl 0 rfl) ?_
        refine va_get (D := D) (ci := 1) (v := .ref a0) (C := RX1) (T := TX1) (N := 6) hx hb hts hin hown hK hP 0 rfl rfl 0 (by decide) (hts (.fieldLink RX1 7 "ClockDeskModel" "is" "[Z") (by decide +kernel)) (fun _ h9 => h9) rfl dX1_survivors_28 ?_
        refine lv_iload hx hb dX1_survivors_31 (lv_at hl 4 rfl) ?_
        refine ck_zald hx hb hK hP 1 0 rfl rfl (i := i) hlt_i dX1_survivors_33 ?_
        refine lv_if_eq (tgt := 46) hx hb dX1_survivors_34 (by decide) (fun c_11 => ?_) (fun c_11 => ?_)
        · have c_11 := ck_bf c_11
          refine lv_iload_n hx hb dX1_survivors_46 rfl (lv_at hl 2 rfl) ?_
          refine lv_istore_n (lv' := [(2, .int (ck_mk (bt hd) i)), (0, .ref h), (1, .int k), (3, .int (ck_cn (bt hd) i)), (4, .int (nI i))]) hx hb dX1_survivors_47 rfl hl (by decide) rfl (fun ls hl => ?_)
          refine lv_iload_n hx hb dX1_survivors_48 rfl (lv_at hl 3 rfl) ?_
          refine lv_aload_n hx hb dX1_survivors_49 rfl (lv_at hl 1 rfl) ?_
          refine va_get (D := D) (ci := 1) (v := .ref a0) (C := RX1) (T := TX1) (N := 6) hx hb hts hin hown hK hP 0 rfl rfl 0 (by decide) (hts (.fieldLink RX1 7 "ClockDeskModel" "is" "[Z") (by decide +kernel)) (fun _ h9 => h9) rfl dX1_survivors_50 ?_
          refine lv_iload hx hb dX1_survivors_53 (lv_at hl 4 rfl) ?_
          refine ck_zald hx hb hK hP 1 0 rfl rfl (i := i) hlt_i dX1_survivors_55 ?_
          refine lv_if_eq (tgt := 63) hx hb dX1_survivors_56 (by decide) (fun c_12 => ?_) (fun c_12 => ?_)
          · have c_12 := ck_bf c_12
            refine lv_iconst (v := 0) hx hb dX1_survivors_63 (by decide) ?_
            refine lv_iadd hx hb dX1_survivors_64 ?_
            refine lv_istore_n (lv' := [(3, .int ((ck_cn (bt hd) i) + 0)), (2, .int (ck_mk (bt hd) i)), (0, .ref h), (1, .int k), (4, .int (nI i))]) hx hb dX1_survivors_65 rfl hl (by decide) rfl (fun ls hl => ?_)
            refine lv_iinc (v := (nI (i + 1))) (lv' := [(4, .int (nI (i + 1))), (3, .int ((ck_cn (bt hd) i) + 0)), (2, .int (ck_mk (bt hd) i)), (0, .ref h), (1, .int k)]) hx hb dX1_survivors_66 hl (k := 4) rfl (nI_1 i) (by decide) rfl (fun ls hl => ?_)
            refine lv_goto (tgt := 20) hx hb dX1_survivors_69 (by decide) ?_
            refine ih_i ls hlt_i (trivial) ?_
            have hq : lv_has ls 10 [(0, .ref h), (1, .int k), (2, .int (ck_mk (bt hd) i)), (3, .int ((ck_cn (bt hd) i) + 0)), (4, .int (nI (i + 1)))] := lv_sub hl [3, 4, 2, 1, 0] rfl
            have eq0 : (ck_mk (bt hd) i) = (ck_mk (bt hd) (i + 1)) := by first | (simp [ck_mk, ck_cn, c_11, c_12]; done) | exact absurd c_12 (by rw [c_11]; decide)
            have eq1 : ((ck_cn (bt hd) i) + 0) = (ck_cn (bt hd) (i + 1)) := by first | (simp [ck_mk, ck_cn, c_11, c_12]; done) | exact absurd c_12 (by rw [c_11]; decide)
            exact lv_eqq hq (by rw [← eq1, ← eq0])
          · have c_12 := ck_bt c_12
            refine lv_iconst (v := 1) hx hb dX1_survivors_59 (by decide) ?_
            refine lv_goto (tgt := 64) hx hb dX1_survivors_60 (by decide) ?_
            refine lv_iadd hx hb dX1_survivors_64 ?_
            refine lv_istore_n (lv' := [(3, .int ((ck_cn (bt hd) i) + 1)), (2, .int (ck_mk (bt hd) i)), (0, .ref h), (1, .int k), (4, .int (nI i))]) hx hb dX1_survivors_65 rfl hl (by decide) rfl (fun ls hl => ?_)
            refine lv_iinc (v := (nI (i + 1))) (lv' := [(4, .int (nI (i + 1))), (3, .int ((ck_cn (bt hd) i) + 1)), (2, .int (ck_mk (bt hd) i)), (0, .ref h), (1, .int k)]) hx hb dX1_survivors_66 hl (k := 4) rfl (nI_1 i) (by decide) rfl (fun ls hl => ?_)
            refine lv_goto (tgt := 20) hx hb dX1_survivors_69 (by decide) ?_
            refine ih_i ls hlt_i (trivial) ?_
            have hq : lv_has ls 10 [(0, .ref h), (1, .int k), (2, .int (ck_mk (bt hd) i)), (3, .int ((ck_cn (bt hd) i) + 1)), (4, .int (nI (i + 1)))] := lv_sub hl [3, 4, 2, 1, 0] rfl
            have eq0 : (ck_mk (bt hd) i) = (ck_mk (bt hd) (i + 1)) := by first | (simp [ck_mk, ck_cn, c_11, c_12]; done) | exact absurd c_12 (by rw [c_11]; decide)
            have eq1 : ((ck_cn (bt hd) i) + 1) = (ck_cn (bt hd) (i + 1)) := by first | (simp [ck_mk, ck_cn, c_11, c_12]; done) | exact absurd c_12 (by rw [c_11]; decide)
            exact lv_eqq hq (by rw [← eq1, ← eq0])
        · have c_11 := ck_bt c_11
          refine lv_iload_n hx hb dX1_survivors_37 rfl (lv_at hl 2 rfl) ?_
          refine lv_iconst (v := 1) hx hb dX1_survivors_38 (by decide) ?_
          refine lv_iload hx hb dX1_survivors_39 (lv_at hl 4 rfl) ?_
          refine lv_ishl hx hb dX1_survivors_41 ?_
          refine lv_ior hx hb dX1_survivors_42 ?_
          refine lv_goto (tgt := 47) hx hb dX1_survivors_43 (by decide) ?_
          refine lv_istore_n (lv' := [(2, .int ((ck_mk (bt hd) i) ||| (1 <<< ((nI i) &&& 31)))), (0, .ref h), (1, .int k), (3, .int (ck_cn (bt hd) i)), (4, .int (nI i))]) hx hb dX1_survivors_47 rfl hl (by decide) rfl (fun ls hl => ?_)
          refine lv_iload_n hx hb dX1_survivors_48 rfl (lv_at hl 3 rfl) ?_
          refine lv_aload_n hx hb dX1_survivors_49 rfl (lv_at hl 1 rfl) ?_
          refine va_get (D := D) (ci := 1) (v := .ref a0) (C := RX1) (T := TX1) (N := 6) hx hb hts hin hown hK hP 0 rfl rfl 0 (by decide) (hts (.fieldLink RX1 7 "ClockDeskModel" "is" "[Z") (by decide +kernel)) (fun _ h9 => h9) rfl dX1_survivors_50 ?_
          refine lv_iload hx hb dX1_survivors_53 (lv_at hl 4 rfl) ?_
          refine ck_zald hx hb hK hP 1 0 rfl rfl (i := i) hlt_i dX1_survivors_55 ?_
          refine lv_if_eq (tgt := 63) hx hb dX1_survivors_56 (by decide) (fun c_13 => ?_) (fun c_13 => ?_)
          · have c_13 := ck_bf c_13
            refine lv_iconst (v := 0) hx hb dX1_survivors_63 (by decide) ?_
            refine lv_iadd hx hb dX1_survivors_64 ?_
            refine lv_istore_n (lv' := [(3, .int ((ck_cn (bt hd) i) + 0)), (2, .int ((ck_mk (bt hd) i) ||| (1 <<< ((nI i) &&& 31)))), (0, .ref h), (1, .int k), (4, .int (nI i))]) hx hb dX1_survivors_65 rfl hl (by decide) rfl (fun ls hl => ?_)
            refine lv_iinc (v := (nI (i + 1))) (lv' := [(4, .int (nI (i + 1))), (3, .int ((ck_cn (bt hd) i) + 0)), (2, .int ((ck_mk (bt hd) i) ||| (1 <<< ((nI i) &&& 31)))), (0, .ref h), (1, .int k)]) hx hb dX1_survivors_66 hl (k := 4) rfl (nI_1 i) (by decide) rfl (fun ls hl => ?_)
            refine lv_goto (tgt := 20) hx hb dX1_survivors_69 (by decide) ?_
            refine ih_i ls hlt_i (trivial) ?_
            have hq : lv_has ls 10 [(0, .ref h), (1, .int k), (2, .int ((ck_mk (bt hd) i) ||| (1 <<< ((nI i) &&& 31)))), (3, .int ((ck_cn (bt hd) i) + 0)), (4, .int (nI (i + 1)))] := lv_sub hl [3, 4, 2, 1, 0] rfl
            have eq0 : ((ck_mk (bt hd) i) ||| (1 <<< ((nI i) &&& 31))) = (ck_mk (bt hd) (i + 1)) := by first | (simp [ck_mk, ck_cn, c_11, c_13]; done) | exact absurd c_13 (by rw [c_11]; decide)
            have eq1 : ((ck_cn (bt hd) i) + 0) = (ck_cn (bt hd) (i + 1)) := by first | (simp [ck_mk, ck_cn, c_11, c_13]; done) | exact absurd c_13 (by rw [c_11]; decide)
            exact lv_eqq hq (by rw [← eq1, ← eq0])
          · have c_13 := ck_bt c_13
            refine lv_iconst (v := 1) hx hb dX1_survivors_59 (by decide) ?_
            refine lv_goto (tgt := 64) hx hb dX1_survivors_60 (by decide) ?_
            refine lv_iadd hx hb dX1_survivors_64 ?_
            refine lv_istore_n (lv' := [(3, .int ((ck_cn (bt hd) i) + 1)), (2, .int ((ck_mk (bt hd) i) ||| (1 <<< ((nI i) &&& 31)))), (0, .ref h), (1, .int k), (4, .int (nI i))]) hx hb dX1_survivors_65 rfl hl (by decide) rfl (fun ls hl => ?_)
            refine lv_iinc (v := (nI (i + 1))) (lv' := [(4, .int (nI (i + 1))), (3, .int ((ck_cn (bt hd) i) + 1)), (2, .int ((ck_mk (bt hd) i) ||| (1 <<< ((nI i) &&& 31)))), (0, .ref h), (1, .int k)]) hx hb dX1_survivors_66 hl (k := 4) rfl (nI_1 i) (by decide) rfl (fun ls hl => ?_)
            refine lv_goto (tgt := 20) hx hb dX1_survivors_69 (by decide) ?_
            refine ih_i ls hlt_i (trivial) ?_
            have hq : lv_has ls 10 [(0, .ref h), (1, .int k), (2, .int ((ck_mk (bt hd) i) ||| (1 <<< ((nI i) &&& 31)))), (3, .int ((ck_cn (bt hd) i) + 1)), (4, .int (nI (i + 1)))] := lv_sub hl [3, 4, 2, 1, 0] rfl
            have eq0 : ((ck_mk (bt hd) i) ||| (1 <<< ((nI i) &&& 31))) = (ck_mk (bt hd) (i + 1)) := by first | (simp [ck_mk, ck_cn, c_11, c_13]; done) | exact absurd c_13 (by rw [c_11]; decide)
            have eq1 : ((ck_cn (bt hd) i) + 1) = (ck_cn (bt hd) (i + 1)) := by first | (simp [ck_mk, ck_cn, c_11, c_13]; done) | exact absurd c_13 (by rw [c_11]; decide)
            exact lv_eqq hq (by rw [← eq1, ← eq0])
    · refine lv_iconst (v := (-1)) hx hb dX1_survivors_11 (by decide) ?_
      have hres : (-1) = (ck_sv hd lo hi k) := by first | (simp [ck_sv, ck_ctN c_1]; done) | (simp [ck_sv, ck_ctB c_2]; done)
      exact W.iret (v := (-1)) hx hb hr (fun t ht _ => ⟨congrArg (fun z => Outcome.returned (some (Value.int z))) hres, ht⟩) (fun _ h => nomatch h) dX1_survivors_12

set_option maxHeartbeats 4000000 in
set_option maxRecDepth 100000 in
theorem c_X1_rank (l : Launch) (D : va_G) (h a0 a1 a2 : Nat) (c0 c1 c2 : ClassId) (lo hi : Nat → Int64) (hd : Int32) (ow off go : Int64) (inv : ck_inv hd lo hi) (x : Int32) (k : Int32)  : Met l yX1_rank wsX1_rank { frames := 3, cells := 0, slots := 0, locals := 71 } (va_Pc [.ref h, .int x, .int k] (ck_B D (mW h a0 a1 a2 c0 c1 c2 lo hi hd ow off go) (mT c0 c1 c2))) (ck_R (.int (ck_rk hd lo hi x k))) 0 0 (fun _ => False) := by
  refine Met.ofW (cc := cX1_rank) (maxL := 6) (ret := (some .int)) (by decide) rfl ?_
  intro p e s m args below meth c s₁ B hml hv
  obtain ⟨rfl, hP, hK⟩ := hv
  have hx := B.exec
  have hb := B.bytes
  have hr := B.returns
  have hts := atoms_spec (ws := wsX1_rank) B.pre
  have hown : s.vm.findClass RX1 = some m.cls := findClass_of_methodNamed B.named
  have hlocks := B.notSynchronized
  have hin : ∀ w ∈ wsX10, w ∈ wsX1_rank := fun _ h => List.mem_cons_of_mem _ (List.mem_append_right _ h)
  have hl := lv_entry ([.ref h, .int x, .int k]) (n := 6) (Nat.le_of_ble_eq_true rfl)
  rw [lg_entry_eq]
  generalize (lg_sl ([.ref h, .int x, .int k]) ++ List.replicate (6 - (lg_sl ([.ref h, .int x, .int k])).length) Slot.unset).toArray = ls at hl ⊢
  have hl : lv_has ls 6 [(0, .ref h), (1, .int x), (2, .int k)] := hl
  refine lv_iload_n hx hb dX1_rank_0 rfl (lv_at hl 2 rfl) ?_
  refine lv_iconst (v := 1) hx hb dX1_rank_1 (by decide) ?_
  refine lv_icmp_lt (tgt := 11) hx hb dX1_rank_2 (by decide) (fun c_1 => ?_) (fun c_1 => ?_)
  · refine lv_iconst (v := 0) hx hb dX1_rank_11 (by decide) ?_
    refine lv_goto (tgt := 20) hx hb dX1_rank_12 (by decide) ?_
    refine lv_istore_n (lv' := [(3, .int 0), (0, .ref h), (1, .int x), (2, .int k)]) hx hb dX1_rank_20 rfl hl (by decide) rfl (fun ls hl => ?_)
    refine lv_iload_n hx hb dX1_rank_21 rfl (lv_at hl 2 rfl) ?_
    refine ck_cS (As := [.int x]) (rest := []) ⟨hx, hb, hml, hown, hts⟩ (c_X1_isSource l x) (va_cwS 1 hts gX1_rank_X1_isSource rfl rfl rfl (by decide +kernel) ⟨Nat.le_of_ble_eq_true rfl, Nat.le_of_ble_eq_true rfl⟩) rfl hl.1 rfl (Nat.le_of_ble_eq_true rfl) dX1_rank_22 ⟨Nat.le_of_ble_eq_true rfl, Nat.le_of_ble_eq_true rfl⟩ ?_
    refine lv_if_eq (tgt := 36) hx hb dX1_rank_25 (by decide) (fun c_2 => ?_) (fun c_2 => ?_)
    · have c_2 := ck_bf c_2
      refine lv_iconst (v := (-1)) hx hb dX1_rank_36 (by decide) ?_
      have hres : (-1) = (ck_rk hd lo hi x k) := by simp [ck_rk, ck_ctN c_1]
      exact W.iret (v := (-1)) hx hb hr (fun t ht _ => ⟨congrArg (fun z => Outcome.returned (some (Value.int z))) hres, ht⟩) (fun _ h => nomatch h) dX1_rank_37
    · have c_2 := ck_bt c_2
      obtain ⟨jx, hjx, rfl⟩ := ck_srcE c_2
      have hcjx : (nI jx).toNatClampNeg = jx := nI_clamp (by omega)
      refine lv_iload_n hx hb dX1_rank_28 rfl (lv_at hl 0 rfl) ?_
      refine lv_iload_n hx hb dX1_rank_29 rfl (lv_at hl 2 rfl) ?_
      refine lv_ishr hx hb dX1_rank_30 ?_
      refine lv_iconst (v := 1) hx hb dX1_rank_31 (by decide) ?_
      refine lv_iand hx hb dX1_rank_32 ?_
      refine lv_if_ne (tgt := 38) hx hb dX1_rank_33 (by decide) (fun c_3 => ?_) (fun c_3 => ?_)
      · exact absurd (ck_sh0n hjx c_3) (by rw [b_0]; decide)
      · have c_3 := ck_sh0 hjx c_3
        refine lv_iconst (v := (-1)) hx hb dX1_rank_36 (by decide) ?_
        have hres : (-1) = (ck_rk hd lo hi (nI jx) k) := by simp [ck_rk, ck_ctN c_1]
        exact W.iret (v := (-1)) hx hb hr (fun t ht _ => ⟨congrArg (fun z => Outcome.returned (some (Value.int z))) hres, ht⟩) (fun _ h => nomatch h) dX1_rank_37
  · refine lv_iload_n hx hb dX1_rank_5 rfl (lv_at hl 2 rfl) ?_
    refine lv_bipush (v := 24) hx hb dX1_rank_6 (by decide) ?_
    refine lv_icmp_le (tgt := 15) hx hb dX1_rank_8 (by decide) (fun c_4 => ?_) (fun c_4 => ?_)
    · refine lv_aload_n hx hb dX1_rank_15 rfl (lv_at hl 0 rfl) ?_
      refine lv_iload_n hx hb dX1_rank_16 rfl (lv_at hl 2 rfl) ?_
      refine ck_cV (As := [.int k]) (rest := []) ⟨hx, hb, hml, hown, hts⟩ (c_X1_survivors l D h a0 a1 a2 c0 c1 c2 lo hi hd ow off go inv k) (cwV 1 hts gX1_rank_X1_survivors rfl rfl rfl (by decide +kernel) ⟨Nat.le_of_ble_eq_true rfl, Nat.le_of_ble_eq_true rfl⟩) hP hK (va_recv hK hP (ci := 1) (q0 := 0) rfl rfl) rfl hl.1 rfl (Nat.le_of_ble_eq_true rfl) dX1_rank_17 ⟨Nat.le_of_ble_eq_true rfl, Nat.le_of_ble_eq_true rfl⟩ ?_
      refine lv_istore_n (lv' := [(3, .int (ck_sv hd lo hi k)), (0, .ref h), (1, .int x), (2, .int k)]) hx hb dX1_rank_20 rfl hl (by decide) rfl (fun ls hl => ?_)
      refine lv_iload_n hx hb dX1_rank_21 rfl (lv_at hl 2 rfl) ?_
      refine ck_cS (As := [.int x]) (rest := []) ⟨hx, hb, hml, hown, hts⟩ (c_X1_isSource l x) (va_cwS 1 hts gX1_rank_X1_isSource rfl rfl rfl (by decide +kernel) ⟨Nat.le_of_ble_eq_true rfl, Nat.le_of_ble_eq_true rfl⟩) rfl hl.1 rfl (Nat.le_of_ble_eq_true rfl) dX1_rank_22 ⟨Nat.le_of_ble_eq_true rfl, Nat.le_of_ble_eq_true rfl⟩ ?_
      refine lv_if_eq (tgt := 36) hx hb dX1_rank_25 (by decide) (fun c_5 => ?_) (fun c_5 => ?_)
      · have c_5 := ck_bf c_5
        refine lv_iconst (v := (-1)) hx hb dX1_rank_36 (by decide) ?_
        have hres : (-1) = (ck_rk hd lo hi x k) := by simp [ck_rk, ck_in, ck_ctI c_1 c_4, c_1, c_4, c_5]
        exact W.iret (v := (-1)) hx hb hr (fun t ht _ => ⟨congrArg (fun z => Outcome.returned (some (Value.int z))) hres, ht⟩) (fun _ h => nomatch h) dX1_rank_37
      · have c_5 := ck_bt c_5
        obtain ⟨jx, hjx, rfl⟩ := ck_srcE c_5
        have hcjx : (nI jx).toNatClampNeg = jx := nI_clamp (by omega)
        refine lv_iload_n hx hb dX1_rank_28 rfl (lv_at hl 0 rfl) ?_
        refine lv_iload_n hx hb dX1_rank_29 rfl (lv_at hl 2 rfl) ?_
        refine lv_ishr hx hb dX1_rank_30 ?_
        refine lv_iconst (v := 1) hx hb dX1_rank_31 (by decide) ?_
        refine lv_iand hx hb dX1_rank_32 ?_
        refine lv_if_ne (tgt := 38) hx hb dX1_rank_33 (by decide) (fun c_6 => ?_) (fun c_6 => ?_)
        · have c_6 := ck_sh0n hjx c_6
          refine lv_iconst (v := 0) hx hb dX1_rank_38 (by decide) ?_
          refine lv_istore (lv' := [(4, .int 0), (3, .int (ck_sv hd lo hi k)), (0, .ref h), (1, .int (nI jx)), (2, .int k)]) hx hb dX1_rank_39 hl (by decide) rfl (fun ls hl => ?_)
          refine lv_iconst (v := 0) hx hb dX1_rank_41 (by decide) ?_
          refine lv_istore (lv' := [(5, .int 0), (4, .int 0), (3, .int (ck_sv hd lo hi k)), (0, .ref h), (1, .int (nI jx)), (2, .int k)]) hx hb dX1_rank_42 hl (by decide) rfl (fun ls hl => ?_)
          refine ck_loop (G := fun ls => W p l e _ s m _ below meth c _ _ _ _ _ (F0 m 44 ls [])) (nL := 6) (24) (fun i => True) (fun i => [(0, .ref h), (1, .int (nI jx)), (2, .int k), (3, .int (ck_sv hd lo hi k)), (4, .int (ck_cn (ck_plP (bt (ck_sv hd lo hi k)) lo hi jx) i)), (5, .int (nI i))]) (fun i hle_i hj_i ih_i ls hl => ?_) ls (trivial) ?_
          rotate_left
          · have hq : lv_has ls 6 [(0, .ref h), (1, .int (nI jx)), (2, .int k), (3, .int (ck_sv hd lo hi k)), (4, .int 0), (5, .int 0)] := lv_sub hl [3, 4, 5, 2, 1, 0] rfl
            exact hq
          have hl : lv_has ls 6 [(0, .ref h), (1, .int (nI jx)), (2, .int k), (3, .int (ck_sv hd lo hi k)), (4, .int (ck_cn (ck_plP (bt (ck_sv hd lo hi k)) lo hi jx) i)), (5, .int (nI i))] := hl
          refine lv_iload hx hb dX1_rank_44 (lv_at hl 5 rfl) ?_
          refine lv_bipush (v := 24) hx hb dX1_rank_46 (by decide) ?_
          refine lv_icmp_ge (tgt := 113) hx hb dX1_rank_48 (by decide) (fun c_7 => ?_) (fun c_7 => ?_)
          · have heq_i : i = 24 := ck_eqN hle_i c_7
            subst heq_i
            have hl : lv_has ls 6 [(0, .ref h), (1, .int (nI jx)), (2, .int k), (3, .int (ck_sv hd lo hi k)), (4, .int (ck_cn (ck_plP (bt (ck_sv hd lo hi k)) lo hi jx) 24)), (5, .int (nI 24))] := hl
            refine lv_iload hx hb dX1_rank_113 (lv_at hl 4 rfl) ?_
            have hres : (ck_cn (ck_plP (bt (ck_sv hd lo hi k)) lo hi jx) 24) = (ck_rk hd lo hi (nI jx) k) := by have hs : ck_sv hd lo hi k = ck_lf hd lo hi k 24 := (by simp [ck_sv, ck_ctI c_1 c_4]); rw [ck_rk, ck_ctI c_1 c_4, if_pos rfl, hcjx, ck_inN _ hjx, ← hs]; simp [ck_pl, c_1, c_4, c_5, hcjx, c_6]
            exact W.iret (v := (ck_cn (ck_plP (bt (ck_sv hd lo hi k)) lo hi jx) 24)) hx hb hr (fun t ht _ => ⟨congrArg (fun z => Outcome.returned (some (Value.int z))) hres, ht⟩) (fun _ h => nomatch h) dX1_rank_115
          · have hlt_i : i < 24 := ck_ltN hle_i c_7
            refine lv_iload hx hb dX1_rank_51 (lv_at hl 4 rfl) ?_
            refine lv_iload_n hx hb dX1_rank_53 rfl (lv_at hl 3 rfl) ?_
            refine lv_iload hx hb dX1_rank_54 (lv_at hl 5 rfl) ?_
            refine lv_ishr hx hb dX1_rank_56 ?_
            refine lv_iconst (v := 1) hx hb dX1_rank_57 (by decide) ?_
            refine lv_iand hx hb dX1_rank_58 ?_
            refine lv_iconst (v := 1) hx hb dX1_rank_59 (by decide) ?_
            refine lv_icmp_ne (tgt := 103) hx hb dX1_rank_60 (by decide) (fun c_8 => ?_) (fun c_8 => ?_)
            · have c_8 := ck_sh1n hlt_i c_8
              refine lv_iconst (v := 0) hx hb dX1_rank_103 (by decide) ?_
              refine lv_iadd hx hb dX1_rank_104 ?_
              refine lv_istore (lv' := [(4, .int ((ck_cn (ck_plP (bt (ck_sv hd lo hi k)) lo hi jx) i) + 0)), (0, .ref h), (1, .int (nI jx)), (2, .int k), (3, .int (ck_sv hd lo hi k)), (5, .int (nI i))]) hx hb dX1_rank_105 hl (by decide) rfl (fun ls hl => ?_)
              refine lv_iinc (v := (nI (i + 1))) (lv' := [(5, .int (nI (i + 1))), (4, .int ((ck_cn (ck_plP (bt (ck_sv hd lo hi k)) lo hi jx) i) + 0)), (0, .ref h), (1, .int (nI jx)), (2, .int k), (3, .int (ck_sv hd lo hi k))]) hx hb dX1_rank_107 hl (k := 5) rfl (nI_1 i) (by decide) rfl (fun ls hl => ?_)
              refine lv_goto (tgt := 44) hx hb dX1_rank_110 (by decide) ?_
              refine ih_i ls hlt_i (trivial) ?_
              have hq : lv_has ls 6 [(0, .ref h), (1, .int (nI jx)), (2, .int k), (3, .int (ck_sv hd lo hi k)), (4, .int ((ck_cn (ck_plP (bt (ck_sv hd lo hi k)) lo hi jx) i) + 0)), (5, .int (nI (i + 1)))] := lv_sub hl [2, 3, 4, 5, 1, 0] rfl
              have eq0 : ((ck_cn (ck_plP (bt (ck_sv hd lo hi k)) lo hi jx) i) + 0) = (ck_cn (ck_plP (bt (ck_sv hd lo hi k)) lo hi jx) (i + 1)) := by simp [ck_cn, ck_plP, c_8]
              exact lv_eqq hq (by rw [← eq0])
            · have c_8 := ck_sh1 hlt_i c_8
              refine lv_aload_n hx hb dX1_rank_63 rfl (lv_at hl 0 rfl) ?_
              refine lv_iload hx hb dX1_rank_64 (lv_at hl 5 rfl) ?_
              refine ck_cV (As := [.int (nI i)]) (rest := [.int (ck_cn (ck_plP (bt (ck_sv hd lo hi k)) lo hi jx) i)]) ⟨hx, hb, hml, hown, hts⟩ (c_X1_middle l D h a0 a1 a2 c0 c1 c2 lo hi hd ow off go inv i hlt_i) (cwV 1 hts gX1_rank_X1_middle rfl rfl rfl (by decide +kernel) ⟨Nat.le_of_ble_eq_true rfl, Nat.le_of_ble_eq_true rfl⟩) hP hK (va_recv hK hP (ci := 1) (q0 := 0) rfl rfl) rfl hl.1 rfl (Nat.le_of_ble_eq_true rfl) dX1_rank_66 ⟨Nat.le_of_ble_eq_true rfl, Nat.le_of_ble_eq_true rfl⟩ ?_
              refine lv_aload_n hx hb dX1_rank_69 rfl (lv_at hl 0 rfl) ?_
              refine lv_iload_n hx hb dX1_rank_70 rfl (lv_at hl 1 rfl) ?_
              refine ck_cV (As := [.int (nI jx)]) (rest := [.long (ck_mid lo hi i), .int (ck_cn (ck_plP (bt (ck_sv hd lo hi k)) lo hi jx) i)]) ⟨hx, hb, hml, hown, hts⟩ (c_X1_middle l D h a0 a1 a2 c0 c1 c2 lo hi hd ow off go inv jx hjx) (cwV 1 hts gX1_rank_X1_middle rfl rfl rfl (by decide +kernel) ⟨Nat.le_of_ble_eq_true rfl, Nat.le_of_ble_eq_true rfl⟩) hP hK (va_recv hK hP (ci := 1) (q0 := 0) rfl rfl) rfl hl.1 rfl (Nat.le_of_ble_eq_true rfl) dX1_rank_71 ⟨Nat.le_of_ble_eq_true rfl, Nat.le_of_ble_eq_true rfl⟩ ?_
              refine W.lcmp hx hb dX1_rank_74 ?_
              refine lv_if_lt (tgt := 99) hx hb dX1_rank_75 (by decide) (fun c_9 => ?_) (fun c_9 => ?_)
              · rw [lg_cmp_lt] at c_9
                refine lv_iconst (v := 1) hx hb dX1_rank_99 (by decide) ?_
                refine lv_goto (tgt := 104) hx hb dX1_rank_100 (by decide) ?_
                refine lv_iadd hx hb dX1_rank_104 ?_
                refine lv_istore (lv' := [(4, .int ((ck_cn (ck_plP (bt (ck_sv hd lo hi k)) lo hi jx) i) + 1)), (0, .ref h), (1, .int (nI jx)), (2, .int k), (3, .int (ck_sv hd lo hi k)), (5, .int (nI i))]) hx hb dX1_rank_105 hl (by decide) rfl (fun ls hl => ?_)
                refine lv_iinc (v := (nI (i + 1))) (lv' := [(5, .int (nI (i + 1))), (4, .int ((ck_cn (ck_plP (bt (ck_sv hd lo hi k)) lo hi jx) i) + 1)), (0, .ref h), (1, .int (nI jx)), (2, .int k), (3, .int (ck_sv hd lo hi k))]) hx hb dX1_rank_107 hl (k := 5) rfl (nI_1 i) (by decide) rfl (fun ls hl => ?_)
                refine lv_goto (tgt := 44) hx hb dX1_rank_110 (by decide) ?_
                refine ih_i ls hlt_i (trivial) ?_
                have hq : lv_has ls 6 [(0, .ref h), (1, .int (nI jx)), (2, .int k), (3, .int (ck_sv hd lo hi k)), (4, .int ((ck_cn (ck_plP (bt (ck_sv hd lo hi k)) lo hi jx) i) + 1)), (5, .int (nI (i + 1)))] := lv_sub hl [2, 3, 4, 5, 1, 0] rfl
                have eq0 : ((ck_cn (ck_plP (bt (ck_sv hd lo hi k)) lo hi jx) i) + 1) = (ck_cn (ck_plP (bt (ck_sv hd lo hi k)) lo hi jx) (i + 1)) := by simp [ck_cn, ck_plP, c_8, c_9]
                exact lv_eqq hq (by rw [← eq0])
              · rw [lg_cmp_lt] at c_9
                refine lv_aload_n hx hb dX1_rank_78 rfl (lv_at hl 0 rfl) ?_
                refine lv_iload hx hb dX1_rank_79 (lv_at hl 5 rfl) ?_
                refine ck_cV (As := [.int (nI i)]) (rest := [.int (ck_cn (ck_plP (bt (ck_sv hd lo hi k)) lo hi jx) i)]) ⟨hx, hb, hml, hown, hts⟩ (c_X1_middle l D h a0 a1 a2 c0 c1 c2 lo hi hd ow off go inv i hlt_i) (cwV 1 hts gX1_rank_X1_middle rfl rfl rfl (by decide +kernel) ⟨Nat.le_of_ble_eq_true rfl, Nat.le_of_ble_eq_true rfl⟩) hP hK (va_recv hK hP (ci := 1) (q0 := 0) rfl rfl) rfl hl.1 rfl (Nat.le_of_ble_eq_true rfl) dX1_rank_81 ⟨Nat.le_of_ble_eq_true rfl, Nat.le_of_ble_eq_true rfl⟩ ?_
                refine lv_aload_n hx hb dX1_rank_84 rfl (lv_at hl 0 rfl) ?_
                refine lv_iload_n hx hb dX1_rank_85 rfl (lv_at hl 1 rfl) ?_
                refine ck_cV (As := [.int (nI jx)]) (rest := [.long (ck_mid lo hi i), .int (ck_cn (ck_plP (bt (ck_sv hd lo hi k)) lo hi jx) i)]) ⟨hx, hb, hml, hown, hts⟩ (c_X1_middle l D h a0 a1 a2 c0 c1 c2 lo hi hd ow off go inv jx hjx) (cwV 1 hts gX1_rank_X1_middle rfl rfl rfl (by decide +kernel) ⟨Nat.le_of_ble_eq_true rfl, Nat.le_of_ble_eq_true rfl⟩) hP hK (va_recv hK hP (ci := 1) (q0 := 0) rfl rfl) rfl hl.1 rfl (Nat.le_of_ble_eq_true rfl) dX1_rank_86 ⟨Nat.le_of_ble_eq_true rfl, Nat.le_of_ble_eq_true rfl⟩ ?_
                refine W.lcmp hx hb dX1_rank_89 ?_
                refine lv_if_ne (tgt := 103) hx hb dX1_rank_90 (by decide) (fun c_10 => ?_) (fun c_10 => ?_)
                · rw [lg_cmp_eq] at c_10
                  refine lv_iconst (v := 0) hx hb dX1_rank_103 (by decide) ?_
                  refine lv_iadd hx hb dX1_rank_104 ?_
                  refine lv_istore (lv' := [(4, .int ((ck_cn (ck_plP (bt (ck_sv hd lo hi k)) lo hi jx) i) + 0)), (0, .ref h), (1, .int (nI jx)), (2, .int k), (3, .int (ck_sv hd lo hi k)), (5, .int (nI i))]) hx hb dX1_rank_105 hl (by decide) rfl (fun ls hl => ?_)
                  refine lv_iinc (v := (nI (i + 1))) (lv' := [(5, .int (nI (i + 1))), (4, .int ((ck_cn (ck_plP (bt (ck_sv hd lo hi k)) lo hi jx) i) + 0)), (0, .ref h), (1, .int (nI jx)), (2, .int k), (3, .int (ck_sv hd lo hi k))]) hx hb dX1_rank_107 hl (k := 5) rfl (nI_1 i) (by decide) rfl (fun ls hl => ?_)
                  refine lv_goto (tgt := 44) hx hb dX1_rank_110 (by decide) ?_
                  refine ih_i ls hlt_i (trivial) ?_
                  have hq : lv_has ls 6 [(0, .ref h), (1, .int (nI jx)), (2, .int k), (3, .int (ck_sv hd lo hi k)), (4, .int ((ck_cn (ck_plP (bt (ck_sv hd lo hi k)) lo hi jx) i) + 0)), (5, .int (nI (i + 1)))] := lv_sub hl [2, 3, 4, 5, 1, 0] rfl
                  have eq0 : ((ck_cn (ck_plP (bt (ck_sv hd lo hi k)) lo hi jx) i) + 0) = (ck_cn (ck_plP (bt (ck_sv hd lo hi k)) lo hi jx) (i + 1)) := by simp [ck_cn, ck_plP, c_8, c_9, c_10]
                  exact lv_eqq hq (by rw [← eq0])
                · rw [lg_cmp_eq] at c_10
                  refine lv_iload hx hb dX1_rank_93 (lv_at hl 5 rfl) ?_
                  refine lv_iload_n hx hb dX1_rank_95 rfl (lv_at hl 1 rfl) ?_
                  refine lv_icmp_ge (tgt := 103) hx hb dX1_rank_96 (by decide) (fun c_11 => ?_) (fun c_11 => ?_)
                  · refine lv_iconst (v := 0) hx hb dX1_rank_103 (by decide) ?_
                    refine lv_iadd hx hb dX1_rank_104 ?_
                    refine lv_istore (lv' := [(4, .int ((ck_cn (ck_plP (bt (ck_sv hd lo hi k)) lo hi jx) i) + 0)), (0, .ref h), (1, .int (nI jx)), (2, .int k), (3, .int (ck_sv hd lo hi k)), (5, .int (nI i))]) hx hb dX1_rank_105 hl (by decide) rfl (fun ls hl => ?_)
                    refine lv_iinc (v := (nI (i + 1))) (lv' := [(5, .int (nI (i + 1))), (4, .int ((ck_cn (ck_plP (bt (ck_sv hd lo hi k)) lo hi jx) i) + 0)), (0, .ref h), (1, .int (nI jx)), (2, .int k), (3, .int (ck_sv hd lo hi k))]) hx hb dX1_rank_107 hl (k := 5) rfl (nI_1 i) (by decide) rfl (fun ls hl => ?_)
                    refine lv_goto (tgt := 44) hx hb dX1_rank_110 (by decide) ?_
                    refine ih_i ls hlt_i (trivial) ?_
                    have hq : lv_has ls 6 [(0, .ref h), (1, .int (nI jx)), (2, .int k), (3, .int (ck_sv hd lo hi k)), (4, .int ((ck_cn (ck_plP (bt (ck_sv hd lo hi k)) lo hi jx) i) + 0)), (5, .int (nI (i + 1)))] := lv_sub hl [2, 3, 4, 5, 1, 0] rfl
                    have eq0 : ((ck_cn (ck_plP (bt (ck_sv hd lo hi k)) lo hi jx) i) + 0) = (ck_cn (ck_plP (bt (ck_sv hd lo hi k)) lo hi jx) (i + 1)) := by simp [ck_cn, ck_plP, c_8, c_9, c_10, c_11]
                    exact lv_eqq hq (by rw [← eq0])
                  · refine lv_iconst (v := 1) hx hb dX1_rank_99 (by decide) ?_
                    refine lv_goto (tgt := 104) hx hb dX1_rank_100 (by decide) ?_
                    refine lv_iadd hx hb dX1_rank_104 ?_
                    refine lv_istore (lv' := [(4, .int ((ck_cn (ck_plP (bt (ck_sv hd lo hi k)) lo hi jx) i) + 1)), (0, .ref h), (1, .int (nI jx)), (2, .int k), (3, .int (ck_sv hd lo hi k)), (5, .int (nI i))]) hx hb dX1_rank_105 hl (by decide) rfl (fun ls hl => ?_)
                    refine lv_iinc (v := (nI (i + 1))) (lv' := [(5, .int (nI (i + 1))), (4, .int ((ck_cn (ck_plP (bt (ck_sv hd lo hi k)) lo hi jx) i) + 1)), (0, .ref h), (1, .int (nI jx)), (2, .int k), (3, .int (ck_sv hd lo hi k))]) hx hb dX1_rank_107 hl (k := 5) rfl (nI_1 i) (by decide) rfl (fun ls hl => ?_)
                    refine lv_goto (tgt := 44) hx hb dX1_rank_110 (by decide) ?_
                    refine ih_i ls hlt_i (trivial) ?_
                    have hq : lv_has ls 6 [(0, .ref h), (1, .int (nI jx)), (2, .int k), (3, .int (ck_sv hd lo hi k)), (4, .int ((ck_cn (ck_plP (bt (ck_sv hd lo hi k)) lo hi jx) i) + 1)), (5, .int (nI (i + 1)))] := lv_sub hl [2, 3, 4, 5, 1, 0] rfl
                    have eq0 : ((ck_cn (ck_plP (bt (ck_sv hd lo hi k)) lo hi jx) i) + 1) = (ck_cn (ck_plP (bt (ck_sv hd lo hi k)) lo hi jx) (i + 1)) := by simp [ck_cn, ck_plP, c_8, c_9, c_10, c_11]
                    exact lv_eqq hq (by rw [← eq0])
        · have c_6 := ck_sh0 hjx c_6
          refine lv_iconst (v := (-1)) hx hb dX1_rank_36 (by decide) ?_
          have hres : (-1) = (ck_rk hd lo hi (nI jx) k) := by have hs : ck_sv hd lo hi k = ck_lf hd lo hi k 24 := (by simp [ck_sv, ck_ctI c_1 c_4]); rw [ck_rk, ck_ctI c_1 c_4, if_pos rfl, ck_inN _ hjx, ← hs]; simp [c_1, c_4, c_5, hcjx, c_6]
          exact W.iret (v := (-1)) hx hb hr (fun t ht _ => ⟨congrArg (fun z => Outcome.returned (some (Value.int z))) hres, ht⟩) (fun _ h => nomatch h) dX1_rank_37
    · refine lv_iconst (v := 0) hx hb dX1_rank_11 (by decide) ?_
      refine lv_goto (tgt := 20) hx hb dX1_rank_12 (by decide) ?_
      refine lv_istore_n (lv' := [(3, .int 0), (0, .ref h), (1, .int x), (2, .int k)]) hx hb dX1_rank_20 rfl hl (by decide) rfl (fun ls hl => ?_)
      refine lv_iload_n hx hb dX1_rank_21 rfl (lv_at hl 2 rfl) ?_
      refine ck_cS (As := [.int x]) (rest := []) ⟨hx, hb, hml, hown, hts⟩ (c_X1_isSource l x) (va_cwS 1 hts gX1_rank_X1_isSource rfl rfl rfl (by decide +kernel) ⟨Nat.le_of_ble_eq_true rfl, Nat.le_of_ble_eq_true rfl⟩) rfl hl.1 rfl (Nat.le_of_ble_eq_true rfl) dX1_rank_22 ⟨Nat.le_of_ble_eq_true rfl, Nat.le_of_ble_eq_true rfl⟩ ?_
      refine lv_if_eq (tgt := 36) hx hb dX1_rank_25 (by decide) (fun c_12 => ?_) (fun c_12 => ?_)
      · have c_12 := ck_bf c_12
        refine lv_iconst (v := (-1)) hx hb dX1_rank_36 (by decide) ?_
        have hres : (-1) = (ck_rk hd lo hi x k) := by simp [ck_rk, ck_ctB c_4]
        exact W.iret (v := (-1)) hx hb hr (fun t ht _ => ⟨congrArg (fun z => Outcome.returned (some (Value.int z))) hres, ht⟩) (fun _ h => nomatch h) dX1_rank_37
      · have c_12 := ck_bt c_12
        obtain ⟨jx, hjx, rfl⟩ := ck_srcE c_12
        have hcjx : (nI jx).toNatClampNeg = jx := nI_clamp (by omega)
        refine lv_iload_n hx hb dX1_rank_28 rfl (lv_at hl 0 rfl) ?_
        refine lv_iload_n hx hb dX1_rank_29 rfl (lv_at hl 2 rfl) ?_
        refine lv_ishr hx hb dX1_rank_30 ?_
        refine lv_iconst (v := 1) hx hb dX1_rank_31 (by decide) ?_
        refine lv_iand hx hb dX1_rank_32 ?_
        refine lv_if_ne (tgt := 38) hx hb dX1_rank_33 (by decide) (fun c_13 => ?_) (fun c_13 => ?_)
        · exact absurd (ck_sh0n hjx c_13) (by rw [b_0]; decide)
        · have c_13 := ck_sh0 hjx c_13
          refine lv_iconst (v := (-1)) hx hb dX1_rank_36 (by decide) ?_
          have hres : (-1) = (ck_rk hd lo hi (nI jx) k) := by simp [ck_rk, ck_ctB c_4]
          exact W.iret (v := (-1)) hx hb hr (fun t ht _ => ⟨congrArg (fun z => Outcome.returned (some (Value.int z))) hres, ht⟩) (fun _ h => nomatch h) dX1_rank_37
