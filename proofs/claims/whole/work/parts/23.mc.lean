set_option maxHeartbeats 4000000 in
set_option maxRecDepth 100000 in
theorem c_X1_region (l : Launch) (D : va_G) (h a0 a1 a2 : Nat) (c0 c1 c2 : ClassId) (lo hi : Nat → Int64) (hd : Int32) (ow off go : Int64) (inv : ck_inv hd lo hi) (en : Int32)  : Met l yX1_region wsX1_region { frames := 2, cells := 0, slots := 0, locals := 48 } (va_Pc [.ref h, .int en] (ck_B D (mW h a0 a1 a2 c0 c1 c2 lo hi hd ow off go) (mT c0 c1 c2))) (ck_R (.long (ck_rg hd lo hi en))) 0 0 (fun _ => False) := by
  refine Met.ofW (cc := cX1_region) (maxL := 9) (ret := (some .long)) (by decide) rfl ?_
  intro p e s m args below meth c s₁ B hml hv
  obtain ⟨rfl, hP, hK⟩ := hv
  have hx := B.exec
  have hb := B.bytes
  have hr := B.returns
  have hts := atoms_spec (ws := wsX1_region) B.pre
  have hown : s.vm.findClass RX1 = some m.cls := findClass_of_methodNamed B.named
  have hlocks := B.notSynchronized
  have hin : ∀ w ∈ wsX10, w ∈ wsX1_region := fun _ h => List.mem_cons_of_mem _ (List.mem_append_right _ h)
  have hl := lv_entry ([.ref h, .int en]) (n := 9) (Nat.le_of_ble_eq_true rfl)
  rw [lg_entry_eq]
  generalize (lg_sl ([.ref h, .int en]) ++ List.replicate (9 - (lg_sl ([.ref h, .int en])).length) Slot.unset).toArray = ls at hl ⊢
  have hl : lv_has ls 9 [(0, .ref h), (1, .int en)] := hl
  refine lv_aload_n hx hb dX1_region_0 rfl (lv_at hl 0 rfl) ?_
  refine ck_cV (As := []) (rest := []) ⟨hx, hb, hml, hown, hts⟩ (c_X1_greatest l D h a0 a1 a2 c0 c1 c2 lo hi hd ow off go inv ) (cwV 0 hts gX1_region_X1_greatest rfl rfl rfl (by decide +kernel) ⟨Nat.le_of_ble_eq_true rfl, Nat.le_of_ble_eq_true rfl⟩) hP hK (va_recv hK hP (ci := 1) (q0 := 0) rfl rfl) rfl hl.1 rfl (Nat.le_of_ble_eq_true rfl) dX1_region_1 ⟨Nat.le_of_ble_eq_true rfl, Nat.le_of_ble_eq_true rfl⟩ ?_
  refine lv_istore_n (lv' := [(2, .int (ck_gr (bt hd) lo hi 24)), (0, .ref h), (1, .int en)]) hx hb dX1_region_4 rfl hl (by decide) rfl (fun ls hl => ?_)
  refine lv_iload_n hx hb dX1_region_5 rfl (lv_at hl 0 rfl) ?_
  refine lv_if_eq (tgt := 18) hx hb dX1_region_6 (by decide) (fun c_1 => ?_) (fun c_1 => ?_)
  · refine lv_ldc2 (v := ck_NO) hx hb hown (hts (.constantLong RX1 30 ck_NO) (by decide +kernel)) dX1_region_18 ?_
    have hres : ck_NO = (ck_rg hd lo hi en) := by simp [ck_rg, (ck_gr0 inv).mp c_1]
    exact W.lret (v := ck_NO) hx hb hr (fun t ht _ => ⟨congrArg (fun z => Outcome.returned (some (Value.long z))) hres, ht⟩) (fun _ h => nomatch h) dX1_region_21
  · refine lv_iload_n hx hb dX1_region_9 rfl (lv_at hl 2 rfl) ?_
    refine lv_if_lt (tgt := 18) hx hb dX1_region_10 (by decide) (fun c_2 => ?_) (fun c_2 => ?_)
    · refine lv_ldc2 (v := ck_NO) hx hb hown (hts (.constantLong RX1 30 ck_NO) (by decide +kernel)) dX1_region_18 ?_
      have hres : ck_NO = (ck_rg hd lo hi en) := by have hne : ¬ hd = 0 := fun q => c_1 ((ck_gr0 inv).mpr q); first | (simp [ck_rg, hne, ck_zoN c_2, c_1, c_2]; done) | (simp [ck_rg, hne, ck_zo, c_1, c_2]; done)
      exact W.lret (v := ck_NO) hx hb hr (fun t ht _ => ⟨congrArg (fun z => Outcome.returned (some (Value.long z))) hres, ht⟩) (fun _ h => nomatch h) dX1_region_21
    · refine lv_iload_n hx hb dX1_region_13 rfl (lv_at hl 2 rfl) ?_
      refine lv_iconst (v := 1) hx hb dX1_region_14 (by decide) ?_
      refine lv_icmp_le (tgt := 22) hx hb dX1_region_15 (by decide) (fun c_3 => ?_) (fun c_3 => ?_)
      · refine lv_aload_n hx hb dX1_region_22 rfl (lv_at hl 1 rfl) ?_
        refine lv_iload_n hx hb dX1_region_23 rfl (lv_at hl 0 rfl) ?_
        refine ck_cV (As := [.int (ck_gr (bt hd) lo hi 24)]) (rest := []) ⟨hx, hb, hml, hown, hts⟩ (c_X1_first l D h a0 a1 a2 c0 c1 c2 lo hi hd ow off go inv (ck_gr (bt hd) lo hi 24)) (cwV 1 hts gX1_region_X1_first rfl rfl rfl (by decide +kernel) ⟨Nat.le_of_ble_eq_true rfl, Nat.le_of_ble_eq_true rfl⟩) hP hK (va_recv hK hP (ci := 1) (q0 := 0) rfl rfl) rfl hl.1 rfl (Nat.le_of_ble_eq_true rfl) dX1_region_24 ⟨Nat.le_of_ble_eq_true rfl, Nat.le_of_ble_eq_true rfl⟩ ?_
        refine lv_lstore_n (lv' := [(3, .long (ck_fi (bt hd) lo hi (ck_gr (bt hd) lo hi 24) 24)), (2, .int (ck_gr (bt hd) lo hi 24)), (0, .ref h), (1, .int en)]) hx hb dX1_region_27 rfl hl (by decide) rfl (fun ls hl => ?_)
        refine lv_iload_n hx hb dX1_region_28 rfl (lv_at hl 3 rfl) ?_
        refine lv_if_ne (tgt := 34) hx hb dX1_region_29 (by decide) (fun c_4 => ?_) (fun c_4 => ?_)
        · refine lv_iconst (v := 1) hx hb dX1_region_34 (by decide) ?_
          refine lv_istore (lv' := [(5, .int 1), (3, .long (ck_fi (bt hd) lo hi (ck_gr (bt hd) lo hi 24) 24)), (2, .int (ck_gr (bt hd) lo hi 24)), (0, .ref h), (1, .int en)]) hx hb dX1_region_35 hl (by decide) rfl (fun ls hl => ?_)
          refine ck_loop (G := fun ls => W p l e _ s m _ below meth c _ _ _ _ _ (F0 m 37 ls [])) (nL := 9) (25) (fun i => ck_rm (bt hd) lo hi (ck_fi (bt hd) lo hi (ck_gr (bt hd) lo hi 24) 24) (ck_gr (bt hd) lo hi 24) i = true → ck_fh (bt hd) lo hi (ck_rp (bt hd) lo hi (ck_fi (bt hd) lo hi (ck_gr (bt hd) lo hi 24) 24) (ck_gr (bt hd) lo hi 24) i) 24 = ck_er (bt hd) lo hi (ck_fi (bt hd) lo hi (ck_gr (bt hd) lo hi 24) 24) (ck_gr (bt hd) lo hi 24) i) (fun i => [(0, .ref h), (1, .int en), (2, .int (ck_gr (bt hd) lo hi 24)), (3, .long (ck_rp (bt hd) lo hi (ck_fi (bt hd) lo hi (ck_gr (bt hd) lo hi 24) 24) (ck_gr (bt hd) lo hi 24) i)), (5, .int (ck_b (ck_rm (bt hd) lo hi (ck_fi (bt hd) lo hi (ck_gr (bt hd) lo hi 24) 24) (ck_gr (bt hd) lo hi 24) i)))]) (fun i hle_i hj_i ih_i ls hl => ?_) ls (fun _ => rfl) ?_
          rotate_left
          · have hq : lv_has ls 9 [(0, .ref h), (1, .int en), (2, .int (ck_gr (bt hd) lo hi 24)), (3, .long (ck_fi (bt hd) lo hi (ck_gr (bt hd) lo hi 24) 24)), (5, .int 1)] := lv_sub hl [3, 4, 2, 1, 0] rfl
            exact hq
          have hl : lv_has ls 9 [(0, .ref h), (1, .int en), (2, .int (ck_gr (bt hd) lo hi 24)), (3, .long (ck_rp (bt hd) lo hi (ck_fi (bt hd) lo hi (ck_gr (bt hd) lo hi 24) 24) (ck_gr (bt hd) lo hi 24) i)), (5, .int (ck_b (ck_rm (bt hd) lo hi (ck_fi (bt hd) lo hi (ck_gr (bt hd) lo hi 24) 24) (ck_gr (bt hd) lo hi 24) i)))] := hl
          refine lv_iload hx hb dX1_region_37 (lv_at hl 4 rfl) ?_
          refine lv_if_eq (tgt := 161) hx hb dX1_region_39 (by decide) (fun c_5 => ?_) (fun c_5 => ?_)
          · have c_5 := ck_bf c_5
            refine lv_lload_n hx hb dX1_region_161 rfl (lv_at hl 3 rfl) ?_
            have hres : (ck_rp (bt hd) lo hi (ck_fi (bt hd) lo hi (ck_gr (bt hd) lo hi 24) 24) (ck_gr (bt hd) lo hi 24) i) = (ck_rg hd lo hi en) := by rw [ck_rp_end c_5 hle_i]; have hne : ¬ hd = 0 := fun q => c_1 ((ck_gr0 inv).mpr q); simp [ck_rg, hne, ck_zoI c_2 c_3, c_1, c_2, c_3, c_4]
            exact W.lret (v := (ck_rp (bt hd) lo hi (ck_fi (bt hd) lo hi (ck_gr (bt hd) lo hi 24) 24) (ck_gr (bt hd) lo hi 24) i)) hx hb hr (fun t ht _ => ⟨congrArg (fun z => Outcome.returned (some (Value.long z))) hres, ht⟩) (fun _ h => nomatch h) dX1_region_162
          · have c_5 := ck_bt c_5
            refine lv_ldc2 (v := ck_FAR) hx hb hown (hts (.constantLong RX1 26 ck_FAR) (by decide +kernel)) dX1_region_42 ?_
            refine lv_lstore (lv' := [(6, .long ck_FAR), (0, .ref h), (1, .int en), (2, .int (ck_gr (bt hd) lo hi 24)), (3, .long (ck_rp (bt hd) lo hi (ck_fi (bt hd) lo hi (ck_gr (bt hd) lo hi 24) 24) (ck_gr (bt hd) lo hi 24) i)), (5, .int (ck_b (ck_rm (bt hd) lo hi (ck_fi (bt hd) lo hi (ck_gr (bt hd) lo hi 24) 24) (ck_gr (bt hd) lo hi 24) i)))]) hx hb dX1_region_45 hl (by decide) rfl (fun ls hl => ?_)
            refine lv_iconst (v := 0) hx hb dX1_region_47 (by decide) ?_
            refine lv_istore (lv' := [(8, .int 0), (6, .long ck_FAR), (0, .ref h), (1, .int en), (2, .int (ck_gr (bt hd) lo hi 24)), (3, .long (ck_rp (bt hd) lo hi (ck_fi (bt hd) lo hi (ck_gr (bt hd) lo hi 24) 24) (ck_gr (bt hd) lo hi 24) i)), (5, .int (ck_b (ck_rm (bt hd) lo hi (ck_fi (bt hd) lo hi (ck_gr (bt hd) lo hi 24) 24) (ck_gr (bt hd) lo hi 24) i)))]) hx hb dX1_region_48 hl (by decide) rfl (fun ls hl => ?_)
            refine ck_loop (G := fun ls => W p l e _ s m _ below meth c _ _ _ _ _ (F0 m 50 ls [])) (nL := 9) (24) (fun o => True) (fun o => [(0, .ref h), (1, .int en), (2, .int (ck_gr (bt hd) lo hi 24)), (3, .long (ck_rp (bt hd) lo hi (ck_fi (bt hd) lo hi (ck_gr (bt hd) lo hi 24) 24) (ck_gr (bt hd) lo hi 24) i)), (6, .long (ck_fh (bt hd) lo hi (ck_rp (bt hd) lo hi (ck_fi (bt hd) lo hi (ck_gr (bt hd) lo hi 24) 24) (ck_gr (bt hd) lo hi 24) i) o)), (8, .int (nI o))]) (fun o hle_o hj_o ih_o ls hl => ?_) ls (trivial) ?_
            rotate_left
            · have hq : lv_has ls 9 [(0, .ref h), (1, .int en), (2, .int (ck_gr (bt hd) lo hi 24)), (3, .long (ck_rp (bt hd) lo hi (ck_fi (bt hd) lo hi (ck_gr (bt hd) lo hi 24) 24) (ck_gr (bt hd) lo hi 24) i)), (6, .long ck_FAR), (8, .int 0)] := lv_sub hl [2, 3, 4, 5, 1, 0] rfl
              exact hq
            have hl : lv_has ls 9 [(0, .ref h), (1, .int en), (2, .int (ck_gr (bt hd) lo hi 24)), (3, .long (ck_rp (bt hd) lo hi (ck_fi (bt hd) lo hi (ck_gr (bt hd) lo hi 24) 24) (ck_gr (bt hd) lo hi 24) i)), (6, .long (ck_fh (bt hd) lo hi (ck_rp (bt hd) lo hi (ck_fi (bt hd) lo hi (ck_gr (bt hd) lo hi 24) 24) (ck_gr (bt hd) lo hi 24) i) o)), (8, .int (nI o))] := hl
            refine lv_iload hx hb dX1_region_50 (lv_at hl 5 rfl) ?_
            refine lv_bipush (v := 24) hx hb dX1_region_52 (by decide) ?_
            refine lv_icmp_ge (tgt := 124) hx hb dX1_region_54 (by decide) (fun c_6 => ?_) (fun c_6 => ?_)
            · have heq_o : o = 24 := ck_eqN hle_o c_6
              subst heq_o
              have hl : lv_has ls 9 [(0, .ref h), (1, .int en), (2, .int (ck_gr (bt hd) lo hi 24)), (3, .long (ck_rp (bt hd) lo hi (ck_fi (bt hd) lo hi (ck_gr (bt hd) lo hi 24) 24) (ck_gr (bt hd) lo hi 24) i)), (6, .long (ck_fh (bt hd) lo hi (ck_rp (bt hd) lo hi (ck_fi (bt hd) lo hi (ck_gr (bt hd) lo hi 24) 24) (ck_gr (bt hd) lo hi 24) i) 24)), (8, .int (nI 24))] := hl
              refine lv_lload hx hb dX1_region_124 (lv_at hl 4 rfl) ?_
              refine lv_lstore_n (lv' := [(3, .long (ck_fh (bt hd) lo hi (ck_rp (bt hd) lo hi (ck_fi (bt hd) lo hi (ck_gr (bt hd) lo hi 24) 24) (ck_gr (bt hd) lo hi 24) i) 24)), (0, .ref h), (1, .int en), (2, .int (ck_gr (bt hd) lo hi 24)), (6, .long (ck_fh (bt hd) lo hi (ck_rp (bt hd) lo hi (ck_fi (bt hd) lo hi (ck_gr (bt hd) lo hi 24) 24) (ck_gr (bt hd) lo hi 24) i) 24)), (8, .int (nI 24))]) hx hb dX1_region_126 rfl hl (by decide) rfl (fun ls hl => ?_)
              refine lv_aload_n hx hb dX1_region_127 rfl (lv_at hl 1 rfl) ?_
              refine lv_lload_n hx hb dX1_region_128 rfl (lv_at hl 0 rfl) ?_
              refine lv_lconst (v := 1) hx hb dX1_region_129 (by decide) ?_
              refine lv_ladd hx hb dX1_region_130 ?_
              refine ck_cV (As := [.long ((ck_fh (bt hd) lo hi (ck_rp (bt hd) lo hi (ck_fi (bt hd) lo hi (ck_gr (bt hd) lo hi 24) 24) (ck_gr (bt hd) lo hi 24) i) 24) + 1)]) (rest := []) ⟨hx, hb, hml, hown, hts⟩ (c_X1_covers l D h a0 a1 a2 c0 c1 c2 lo hi hd ow off go inv ((ck_fh (bt hd) lo hi (ck_rp (bt hd) lo hi (ck_fi (bt hd) lo hi (ck_gr (bt hd) lo hi 24) 24) (ck_gr (bt hd) lo hi 24) i) 24) + 1)) (cwV 1 hts gX1_region_X1_covers rfl rfl rfl (by decide +kernel) ⟨Nat.le_of_ble_eq_true rfl, Nat.le_of_ble_eq_true rfl⟩) hP hK (va_recv hK hP (ci := 1) (q0 := 0) rfl rfl) rfl hl.1 rfl (Nat.le_of_ble_eq_true rfl) dX1_region_131 ⟨Nat.le_of_ble_eq_true rfl, Nat.le_of_ble_eq_true rfl⟩ ?_
              refine lv_iload_n hx hb dX1_region_134 rfl (lv_at hl 3 rfl) ?_
              refine lv_icmp_ne (tgt := 142) hx hb dX1_region_135 (by decide) (fun c_7 => ?_) (fun c_7 => ?_)
              · refine lv_iconst (v := 0) hx hb dX1_region_142 (by decide) ?_
                refine lv_istore (lv' := [(5, .int 0), (3, .long (ck_fh (bt hd) lo hi (ck_rp (bt hd) lo hi (ck_fi (bt hd) lo hi (ck_gr (bt hd) lo hi 24) 24) (ck_gr (bt hd) lo hi 24) i) 24)), (0, .ref h), (1, .int en), (2, .int (ck_gr (bt hd) lo hi 24)), (6, .long (ck_fh (bt hd) lo hi (ck_rp (bt hd) lo hi (ck_fi (bt hd) lo hi (ck_gr (bt hd) lo hi 24) 24) (ck_gr (bt hd) lo hi 24) i) 24)), (8, .int (nI 24))]) hx hb dX1_region_143 hl (by decide) rfl (fun ls hl => ?_)
                refine lv_iload hx hb dX1_region_145 (lv_at hl 0 rfl) ?_
                refine lv_if_eq (tgt := 156) hx hb dX1_region_147 (by decide) (fun c_8 => ?_) (fun c_8 => ?_)
                · refine lv_lload_n hx hb dX1_region_156 rfl (lv_at hl 1 rfl) ?_
                  refine lv_lstore_n (lv' := [(3, .long (ck_fh (bt hd) lo hi (ck_rp (bt hd) lo hi (ck_fi (bt hd) lo hi (ck_gr (bt hd) lo hi 24) 24) (ck_gr (bt hd) lo hi 24) i) 24)), (5, .int 0), (0, .ref h), (1, .int en), (2, .int (ck_gr (bt hd) lo hi 24)), (6, .long (ck_fh (bt hd) lo hi (ck_rp (bt hd) lo hi (ck_fi (bt hd) lo hi (ck_gr (bt hd) lo hi 24) 24) (ck_gr (bt hd) lo hi 24) i) 24)), (8, .int (nI 24))]) hx hb dX1_region_157 rfl hl (by decide) rfl (fun ls hl => ?_)
                  refine lv_goto (tgt := 37) hx hb dX1_region_158 (by decide) ?_
                  have hlt_i : i < 25 := ck_rm_lt inv.2 (ck_fi_far _ inv.2 _ 24) c_1 c_5 hle_i
                  refine ih_i ls hlt_i (fun q => by have q2 := of_decide_eq_true q; simp [ck_rp_s, ck_er, q2]) ?_
                  have hq : lv_has ls 9 [(0, .ref h), (1, .int en), (2, .int (ck_gr (bt hd) lo hi 24)), (3, .long (ck_fh (bt hd) lo hi (ck_rp (bt hd) lo hi (ck_fi (bt hd) lo hi (ck_gr (bt hd) lo hi 24) 24) (ck_gr (bt hd) lo hi 24) i) 24)), (5, .int 0)] := lv_sub hl [2, 3, 4, 0, 1] rfl
                  have eq0 : (ck_fh (bt hd) lo hi (ck_rp (bt hd) lo hi (ck_fi (bt hd) lo hi (ck_gr (bt hd) lo hi 24) 24) (ck_gr (bt hd) lo hi 24) i) 24) = (ck_rp (bt hd) lo hi (ck_fi (bt hd) lo hi (ck_gr (bt hd) lo hi 24) 24) (ck_gr (bt hd) lo hi 24) (i + 1)) := by simp [ck_rp_s, ck_rm_s, ck_b, ← hj_i c_5, c_7]
                  have eq1 : 0 = (ck_b (ck_rm (bt hd) lo hi (ck_fi (bt hd) lo hi (ck_gr (bt hd) lo hi 24) 24) (ck_gr (bt hd) lo hi 24) (i + 1))) := by simp [ck_rp_s, ck_rm_s, ck_b, ← hj_i c_5, c_7]
                  exact lv_eqq hq (by rw [← eq1, ← eq0])
                · exact absurd c_8 (by decide)
              · refine lv_iconst (v := 1) hx hb dX1_region_138 (by decide) ?_
                refine lv_goto (tgt := 143) hx hb dX1_region_139 (by decide) ?_
                refine lv_istore (lv' := [(5, .int 1), (3, .long (ck_fh (bt hd) lo hi (ck_rp (bt hd) lo hi (ck_fi (bt hd) lo hi (ck_gr (bt hd) lo hi 24) 24) (ck_gr (bt hd) lo hi 24) i) 24)), (0, .ref h), (1, .int en), (2, .int (ck_gr (bt hd) lo hi 24)), (6, .long (ck_fh (bt hd) lo hi (ck_rp (bt hd) lo hi (ck_fi (bt hd) lo hi (ck_gr (bt hd) lo hi 24) 24) (ck_gr (bt hd) lo hi 24) i) 24)), (8, .int (nI 24))]) hx hb dX1_region_143 hl (by decide) rfl (fun ls hl => ?_)
                refine lv_iload hx hb dX1_region_145 (lv_at hl 0 rfl) ?_
                refine lv_if_eq (tgt := 156) hx hb dX1_region_147 (by decide) (fun c_9 => ?_) (fun c_9 => ?_)
                · exact absurd c_9 (by decide)
                · refine lv_lload_n hx hb dX1_region_150 rfl (lv_at hl 1 rfl) ?_
                  refine lv_lconst (v := 1) hx hb dX1_region_151 (by decide) ?_
                  refine lv_ladd hx hb dX1_region_152 ?_
                  refine lv_goto (tgt := 157) hx hb dX1_region_153 (by decide) ?_
                  refine lv_lstore_n (lv' := [(3, .long ((ck_fh (bt hd) lo hi (ck_rp (bt hd) lo hi (ck_fi (bt hd) lo hi (ck_gr (bt hd) lo hi 24) 24) (ck_gr (bt hd) lo hi 24) i) 24) + 1)), (5, .int 1), (0, .ref h), (1, .int en), (2, .int (ck_gr (bt hd) lo hi 24)), (6, .long (ck_fh (bt hd) lo hi (ck_rp (bt hd) lo hi (ck_fi (bt hd) lo hi (ck_gr (bt hd) lo hi 24) 24) (ck_gr (bt hd) lo hi 24) i) 24)), (8, .int (nI 24))]) hx hb dX1_region_157 rfl hl (by decide) rfl (fun ls hl => ?_)
                  refine lv_goto (tgt := 37) hx hb dX1_region_158 (by decide) ?_
                  have hlt_i : i < 25 := ck_rm_lt inv.2 (ck_fi_far _ inv.2 _ 24) c_1 c_5 hle_i
                  refine ih_i ls hlt_i (fun q => by have q2 := of_decide_eq_true q; simp [ck_rp_s, ck_er, q2]) ?_
                  have hq : lv_has ls 9 [(0, .ref h), (1, .int en), (2, .int (ck_gr (bt hd) lo hi 24)), (3, .long ((ck_fh (bt hd) lo hi (ck_rp (bt hd) lo hi (ck_fi (bt hd) lo hi (ck_gr (bt hd) lo hi 24) 24) (ck_gr (bt hd) lo hi 24) i) 24) + 1)), (5, .int 1)] := lv_sub hl [2, 3, 4, 0, 1] rfl
                  have eq0 : ((ck_fh (bt hd) lo hi (ck_rp (bt hd) lo hi (ck_fi (bt hd) lo hi (ck_gr (bt hd) lo hi 24) 24) (ck_gr (bt hd) lo hi 24) i) 24) + 1) = (ck_rp (bt hd) lo hi (ck_fi (bt hd) lo hi (ck_gr (bt hd) lo hi 24) 24) (ck_gr (bt hd) lo hi 24) (i + 1)) := by simp [ck_rp_s, ck_rm_s, ck_b, ← hj_i c_5, c_7]
                  have eq1 : 1 = (ck_b (ck_rm (bt hd) lo hi (ck_fi (bt hd) lo hi (ck_gr (bt hd) lo hi 24) 24) (ck_gr (bt hd) lo hi 24) (i + 1))) := by simp [ck_rp_s, ck_rm_s, ck_b, ← hj_i c_5, c_7]
                  exact lv_eqq hq (by rw [← eq1, ← eq0])
            · have hlt_o : o < 24 := ck_ltN hle_o c_6
              refine lv_aload_n hx hb dX1_region_57 rfl (lv_at hl 0 rfl) ?_
              refine va_get (D := D) (ci := 1) (v := .ref a0) (C := RX1) (T := TX1) (N := 6) hx hb hts hin hown hK hP 0 rfl rfl 0 (by decide) (hts (.fieldLink RX1 7 "ClockDeskModel" "is" "[Z") (by decide +kernel)) (fun _ h9 => h9) rfl dX1_region_58 ?_
              refine lv_iload hx hb dX1_region_61 (lv_at hl 5 rfl) ?_
              refine ck_zald hx hb hK hP 1 0 rfl rfl (i := o) hlt_o dX1_region_63 ?_
              refine lv_if_eq (tgt := 114) hx hb dX1_region_64 (by decide) (fun c_10 => ?_) (fun c_10 => ?_)
              · have c_10 := ck_bf c_10
                refine lv_lload hx hb dX1_region_114 (lv_at hl 4 rfl) ?_
                refine lv_lstore (lv' := [(6, .long (ck_fh (bt hd) lo hi (ck_rp (bt hd) lo hi (ck_fi (bt hd) lo hi (ck_gr (bt hd) lo hi 24) 24) (ck_gr (bt hd) lo hi 24) i) o)), (0, .ref h), (1, .int en), (2, .int (ck_gr (bt hd) lo hi 24)), (3, .long (ck_rp (bt hd) lo hi (ck_fi (bt hd) lo hi (ck_gr (bt hd) lo hi 24) 24) (ck_gr (bt hd) lo hi 24) i)), (8, .int (nI o))]) hx hb dX1_region_116 hl (by decide) rfl (fun ls hl => ?_)
                refine lv_iinc (v := (nI (o + 1))) (lv' := [(8, .int (nI (o + 1))), (6, .long (ck_fh (bt hd) lo hi (ck_rp (bt hd) lo hi (ck_fi (bt hd) lo hi (ck_gr (bt hd) lo hi 24) 24) (ck_gr (bt hd) lo hi 24) i) o)), (0, .ref h), (1, .int en), (2, .int (ck_gr (bt hd) lo hi 24)), (3, .long (ck_rp (bt hd) lo hi (ck_fi (bt hd) lo hi (ck_gr (bt hd) lo hi 24) 24) (ck_gr (bt hd) lo hi 24) i))]) hx hb dX1_region_118 hl (k := 5) rfl (nI_1 o) (by decide) rfl (fun ls hl => ?_)
                refine lv_goto (tgt := 50) hx hb dX1_region_121 (by decide) ?_
                refine ih_o ls hlt_o (trivial) ?_
                have hq : lv_has ls 9 [(0, .ref h), (1, .int en), (2, .int (ck_gr (bt hd) lo hi 24)), (3, .long (ck_rp (bt hd) lo hi (ck_fi (bt hd) lo hi (ck_gr (bt hd) lo hi 24) 24) (ck_gr (bt hd) lo hi 24) i)), (6, .long (ck_fh (bt hd) lo hi (ck_rp (bt hd) lo hi (ck_fi (bt hd) lo hi (ck_gr (bt hd) lo hi 24) 24) (ck_gr (bt hd) lo hi 24) i) o)), (8, .int (nI (o + 1)))] := lv_sub hl [2, 3, 4, 5, 1, 0] rfl
                have eq0 : (ck_fh (bt hd) lo hi (ck_rp (bt hd) lo hi (ck_fi (bt hd) lo hi (ck_gr (bt hd) lo hi 24) 24) (ck_gr (bt hd) lo hi 24) i) o) = (ck_fh (bt hd) lo hi (ck_rp (bt hd) lo hi (ck_fi (bt hd) lo hi (ck_gr (bt hd) lo hi 24) 24) (ck_gr (bt hd) lo hi 24) i) (o + 1)) := by first | (simp [ck_fh, ck_cov, c_10]; done) | (simp [ck_fh, ck_cov, ck_min_ge c_10, c_10]; done) | (simp [ck_fh, ck_cov, ck_min_nge c_10, c_10]; done)
                exact lv_eqq hq (by rw [← eq0])
              · have c_10 := ck_bt c_10
                refine lv_aload_n hx hb dX1_region_67 rfl (lv_at hl 0 rfl) ?_
                refine va_get (D := D) (ci := 1) (v := .ref a1) (C := RX1) (T := TX1) (N := 6) hx hb hts hin hown hK hP 0 rfl rfl 1 (by decide) (hts (.fieldLink RX1 13 "ClockDeskModel" "low" "[J") (by decide +kernel)) (fun _ h9 => h9) rfl dX1_region_68 ?_
                refine lv_iload hx hb dX1_region_71 (lv_at hl 5 rfl) ?_
                refine ck_lald hx hb hK hP 2 1 rfl rfl (i := o) hlt_o dX1_region_73 ?_
                refine lv_lload_n hx hb dX1_region_74 rfl (lv_at hl 3 rfl) ?_
                refine W.lcmp hx hb dX1_region_75 ?_
                refine lv_if_gt (tgt := 114) hx hb dX1_region_76 (by decide) (fun c_11 => ?_) (fun c_11 => ?_)
                · rw [lg_cmp_gt] at c_11
                  refine lv_lload hx hb dX1_region_114 (lv_at hl 4 rfl) ?_
                  refine lv_lstore (lv' := [(6, .long (ck_fh (bt hd) lo hi (ck_rp (bt hd) lo hi (ck_fi (bt hd) lo hi (ck_gr (bt hd) lo hi 24) 24) (ck_gr (bt hd) lo hi 24) i) o)), (0, .ref h), (1, .int en), (2, .int (ck_gr (bt hd) lo hi 24)), (3, .long (ck_rp (bt hd) lo hi (ck_fi (bt hd) lo hi (ck_gr (bt hd) lo hi 24) 24) (ck_gr (bt hd) lo hi 24) i)), (8, .int (nI o))]) hx hb dX1_region_116 hl (by decide) rfl (fun ls hl => ?_)
                  refine lv_iinc (v := (nI (o + 1))) (lv' := [(8, .int (nI (o + 1))), (6, .long (ck_fh (bt hd) lo hi (ck_rp (bt hd) lo hi (ck_fi (bt hd) lo hi (ck_gr (bt hd) lo hi 24) 24) (ck_gr (bt hd) lo hi 24) i) o)), (0, .ref h), (1, .int en), (2, .int (ck_gr (bt hd) lo hi 24)), (3, .long (ck_rp (bt hd) lo hi (ck_fi (bt hd) lo hi (ck_gr (bt hd) lo hi 24) 24) (ck_gr (bt hd) lo hi 24) i))]) hx hb dX1_region_118 hl (k := 5) rfl (nI_1 o) (by decide) rfl (fun ls hl => ?_)
                  refine lv_goto (tgt := 50) hx hb dX1_region_121 (by decide) ?_
                  refine ih_o ls hlt_o (trivial) ?_
                  have hq : lv_has ls 9 [(0, .ref h), (1, .int en), (2, .int (ck_gr (bt hd) lo hi 24)), (3, .long (ck_rp (bt hd) lo hi (ck_fi (bt hd) lo hi (ck_gr (bt hd) lo hi 24) 24) (ck_gr (bt hd) lo hi 24) i)), (6, .long (ck_fh (bt hd) lo hi (ck_rp (bt hd) lo hi (ck_fi (bt hd) lo hi (ck_gr (bt hd) lo hi 24) 24) (ck_gr (bt hd) lo hi 24) i) o)), (8, .int (nI (o + 1)))] := lv_sub hl [2, 3, 4, 5, 1, 0] rfl
                  have eq0 : (ck_fh (bt hd) lo hi (ck_rp (bt hd) lo hi (ck_fi (bt hd) lo hi (ck_gr (bt hd) lo hi 24) 24) (ck_gr (bt hd) lo hi 24) i) o) = (ck_fh (bt hd) lo hi (ck_rp (bt hd) lo hi (ck_fi (bt hd) lo hi (ck_gr (bt hd) lo hi 24) 24) (ck_gr (bt hd) lo hi 24) i) (o + 1)) := by first | (simp [ck_fh, ck_cov, c_10, c_11]; done) | (simp [ck_fh, ck_cov, ck_min_ge c_11, c_10, c_11]; done) | (simp [ck_fh, ck_cov, ck_min_nge c_11, c_10, c_11]; done)
                  exact lv_eqq hq (by rw [← eq0])
                · rw [lg_cmp_gt] at c_11
                  refine lv_lload_n hx hb dX1_region_79 rfl (lv_at hl 3 rfl) ?_
                  refine lv_aload_n hx hb dX1_region_80 rfl (lv_at hl 0 rfl) ?_
                  refine va_get (D := D) (ci := 1) (v := .ref a2) (C := RX1) (T := TX1) (N := 6) hx hb hts hin hown hK hP 0 rfl rfl 2 (by decide) (hts (.fieldLink RX1 17 "ClockDeskModel" "high" "[J") (by decide +kernel)) (fun _ h9 => h9) rfl dX1_region_81 ?_
                  refine lv_iload hx hb dX1_region_84 (lv_at hl 5 rfl) ?_
                  refine ck_lald hx hb hK hP 3 2 rfl rfl (i := o) hlt_o dX1_region_86 ?_
                  refine W.lcmp hx hb dX1_region_87 ?_
                  refine lv_if_gt (tgt := 114) hx hb dX1_region_88 (by decide) (fun c_12 => ?_) (fun c_12 => ?_)
                  · rw [lg_cmp_gt] at c_12
                    refine lv_lload hx hb dX1_region_114 (lv_at hl 4 rfl) ?_
                    refine lv_lstore (lv' := [(6, .long (ck_fh (bt hd) lo hi (ck_rp (bt hd) lo hi (ck_fi (bt hd) lo hi (ck_gr (bt hd) lo hi 24) 24) (ck_gr (bt hd) lo hi 24) i) o)), (0, .ref h), (1, .int en), (2, .int (ck_gr (bt hd) lo hi 24)), (3, .long (ck_rp (bt hd) lo hi (ck_fi (bt hd) lo hi (ck_gr (bt hd) lo hi 24) 24) (ck_gr (bt hd) lo hi 24) i)), (8, .int (nI o))]) hx hb dX1_region_116 hl (by decide) rfl (fun ls hl => ?_)
                    refine lv_iinc (v := (nI (o + 1))) (lv' := [(8, .int (nI (o + 1))), (6, .long (ck_fh (bt hd) lo hi (ck_rp (bt hd) lo hi (ck_fi (bt hd) lo hi (ck_gr (bt hd) lo hi 24) 24) (ck_gr (bt hd) lo hi 24) i) o)), (0, .ref h), (1, .int en), (2, .int (ck_gr (bt hd) lo hi 24)), (3, .long (ck_rp (bt hd) lo hi (ck_fi (bt hd) lo hi (ck_gr (bt hd) lo hi 24) 24) (ck_gr (bt hd) lo hi 24) i))]) hx hb dX1_region_118 hl (k := 5) rfl (nI_1 o) (by decide) rfl (fun ls hl => ?_)
                    refine lv_goto (tgt := 50) hx hb dX1_region_121 (by decide) ?_
                    refine ih_o ls hlt_o (trivial) ?_
                    have hq : lv_has ls 9 [(0, .ref h), (1, .int en), (2, .int (ck_gr (bt hd) lo hi 24)), (3, .long (ck_rp (bt hd) lo hi (ck_fi (bt hd) lo hi (ck_gr (bt hd) lo hi 24) 24) (ck_gr (bt hd) lo hi 24) i)), (6, .long (ck_fh (bt hd) lo hi (ck_rp (bt hd) lo hi (ck_fi (bt hd) lo hi (ck_gr (bt hd) lo hi 24) 24) (ck_gr (bt hd) lo hi 24) i) o)), (8, .int (nI (o + 1)))] := lv_sub hl [2, 3, 4, 5, 1, 0] rfl
                    have eq0 : (ck_fh (bt hd) lo hi (ck_rp (bt hd) lo hi (ck_fi (bt hd) lo hi (ck_gr (bt hd) lo hi 24) 24) (ck_gr (bt hd) lo hi 24) i) o) = (ck_fh (bt hd) lo hi (ck_rp (bt hd) lo hi (ck_fi (bt hd) lo hi (ck_gr (bt hd) lo hi 24) 24) (ck_gr (bt hd) lo hi 24) i) (o + 1)) := by first | (simp [ck_fh, ck_cov, c_10, c_11, c_12]; done) | (simp [ck_fh, ck_cov, ck_min_ge c_12, c_10, c_11, c_12]; done) | (simp [ck_fh, ck_cov, ck_min_nge c_12, c_10, c_11, c_12]; done)
                    exact lv_eqq hq (by rw [← eq0])
                  · rw [lg_cmp_gt] at c_12
                    refine lv_aload_n hx hb dX1_region_91 rfl (lv_at hl 0 rfl) ?_
                    refine va_get (D := D) (ci := 1) (v := .ref a2) (C := RX1) (T := TX1) (N := 6) hx hb hts hin hown hK hP 0 rfl rfl 2 (by decide) (hts (.fieldLink RX1 17 "ClockDeskModel" "high" "[J") (by decide +kernel)) (fun _ h9 => h9) rfl dX1_region_92 ?_
                    refine lv_iload hx hb dX1_region_95 (lv_at hl 5 rfl) ?_
                    refine ck_lald hx hb hK hP 3 2 rfl rfl (i := o) hlt_o dX1_region_97 ?_
                    refine lv_lload hx hb dX1_region_98 (lv_at hl 4 rfl) ?_
                    refine W.lcmp hx hb dX1_region_100 ?_
                    refine lv_if_ge (tgt := 114) hx hb dX1_region_101 (by decide) (fun c_13 => ?_) (fun c_13 => ?_)
                    · rw [lg_cmp_ge] at c_13
                      refine lv_lload hx hb dX1_region_114 (lv_at hl 4 rfl) ?_
                      refine lv_lstore (lv' := [(6, .long (ck_fh (bt hd) lo hi (ck_rp (bt hd) lo hi (ck_fi (bt hd) lo hi (ck_gr (bt hd) lo hi 24) 24) (ck_gr (bt hd) lo hi 24) i) o)), (0, .ref h), (1, .int en), (2, .int (ck_gr (bt hd) lo hi 24)), (3, .long (ck_rp (bt hd) lo hi (ck_fi (bt hd) lo hi (ck_gr (bt hd) lo hi 24) 24) (ck_gr (bt hd) lo hi 24) i)), (8, .int (nI o))]) hx hb dX1_region_116 hl (by decide) rfl (fun ls hl => ?_)
                      refine lv_iinc (v := (nI (o + 1))) (lv' := [(8, .int (nI (o + 1))), (6, .long (ck_fh (bt hd) lo hi (ck_rp (bt hd) lo hi (ck_fi (bt hd) lo hi (ck_gr (bt hd) lo hi 24) 24) (ck_gr (bt hd) lo hi 24) i) o)), (0, .ref h), (1, .int en), (2, .int (ck_gr (bt hd) lo hi 24)), (3, .long (ck_rp (bt hd) lo hi (ck_fi (bt hd) lo hi (ck_gr (bt hd) lo hi 24) 24) (ck_gr (bt hd) lo hi 24) i))]) hx hb dX1_region_118 hl (k := 5) rfl (nI_1 o) (by decide) rfl (fun ls hl => ?_)
                      refine lv_goto (tgt := 50) hx hb dX1_region_121 (by decide) ?_
                      refine ih_o ls hlt_o (trivial) ?_
                      have hq : lv_has ls 9 [(0, .ref h), (1, .int en), (2, .int (ck_gr (bt hd) lo hi 24)), (3, .long (ck_rp (bt hd) lo hi (ck_fi (bt hd) lo hi (ck_gr (bt hd) lo hi 24) 24) (ck_gr (bt hd) lo hi 24) i)), (6, .long (ck_fh (bt hd) lo hi (ck_rp (bt hd) lo hi (ck_fi (bt hd) lo hi (ck_gr (bt hd) lo hi 24) 24) (ck_gr (bt hd) lo hi 24) i) o)), (8, .int (nI (o + 1)))] := lv_sub hl [2, 3, 4, 5, 1, 0] rfl
                      have eq0 : (ck_fh (bt hd) lo hi (ck_rp (bt hd) lo hi (ck_fi (bt hd) lo hi (ck_gr (bt hd) lo hi 24) 24) (ck_gr (bt hd) lo hi 24) i) o) = (ck_fh (bt hd) lo hi (ck_rp (bt hd) lo hi (ck_fi (bt hd) lo hi (ck_gr (bt hd) lo hi 24) 24) (ck_gr (bt hd) lo hi 24) i) (o + 1)) := by first | (simp [ck_fh, ck_cov, c_10, c_11, c_12, c_13]; done) | (simp [ck_fh, ck_cov, ck_min_ge c_13, c_10, c_11, c_12, c_13]; done) | (simp [ck_fh, ck_cov, ck_min_nge c_13, c_10, c_11, c_12, c_13]; done)
                      exact lv_eqq hq (by rw [← eq0])
                    · rw [lg_cmp_ge] at c_13
                      refine lv_aload_n hx hb dX1_region_104 rfl (lv_at hl 0 rfl) ?_
                      refine va_get (D := D) (ci := 1) (v := .ref a2) (C := RX1) (T := TX1) (N := 6) hx hb hts hin hown hK hP 0 rfl rfl 2 (by decide) (hts (.fieldLink RX1 17 "ClockDeskModel" "high" "[J") (by decide +kernel)) (fun _ h9 => h9) rfl dX1_region_105 ?_
                      refine lv_iload hx hb dX1_region_108 (lv_at hl 5 rfl) ?_
                      refine ck_lald hx hb hK hP 3 2 rfl rfl (i := o) hlt_o dX1_region_110 ?_
                      refine lv_goto (tgt := 116) hx hb dX1_region_111 (by decide) ?_
                      refine lv_lstore (lv' := [(6, .long (hi o)), (0, .ref h), (1, .int en), (2, .int (ck_gr (bt hd) lo hi 24)), (3, .long (ck_rp (bt hd) lo hi (ck_fi (bt hd) lo hi (ck_gr (bt hd) lo hi 24) 24) (ck_gr (bt hd) lo hi 24) i)), (8, .int (nI o))]) hx hb dX1_region_116 hl (by decide) rfl (fun ls hl => ?_)
                      refine lv_iinc (v := (nI (o + 1))) (lv' := [(8, .int (nI (o + 1))), (6, .long (hi o)), (0, .ref h), (1, .int en), (2, .int (ck_gr (bt hd) lo hi 24)), (3, .long (ck_rp (bt hd) lo hi (ck_fi (bt hd) lo hi (ck_gr (bt hd) lo hi 24) 24) (ck_gr (bt hd) lo hi 24) i))]) hx hb dX1_region_118 hl (k := 5) rfl (nI_1 o) (by decide) rfl (fun ls hl => ?_)
                      refine lv_goto (tgt := 50) hx hb dX1_region_121 (by decide) ?_
                      refine ih_o ls hlt_o (trivial) ?_
                      have hq : lv_has ls 9 [(0, .ref h), (1, .int en), (2, .int (ck_gr (bt hd) lo hi 24)), (3, .long (ck_rp (bt hd) lo hi (ck_fi (bt hd) lo hi (ck_gr (bt hd) lo hi 24) 24) (ck_gr (bt hd) lo hi 24) i)), (6, .long (hi o)), (8, .int (nI (o + 1)))] := lv_sub hl [2, 3, 4, 5, 1, 0] rfl
                      have eq0 : (hi o) = (ck_fh (bt hd) lo hi (ck_rp (bt hd) lo hi (ck_fi (bt hd) lo hi (ck_gr (bt hd) lo hi 24) 24) (ck_gr (bt hd) lo hi 24) i) (o + 1)) := by first | (simp [ck_fh, ck_cov, c_10, c_11, c_12, c_13]; done) | (simp [ck_fh, ck_cov, ck_min_ge c_13, c_10, c_11, c_12, c_13]; done) | (simp [ck_fh, ck_cov, ck_min_nge c_13, c_10, c_11, c_12, c_13]; done)
                      exact lv_eqq hq (by rw [← eq0])
        · refine lv_lload_n hx hb dX1_region_32 rfl (lv_at hl 0 rfl) ?_
          have hres : (ck_fi (bt hd) lo hi (ck_gr (bt hd) lo hi 24) 24) = (ck_rg hd lo hi en) := by have hne : ¬ hd = 0 := fun q => c_1 ((ck_gr0 inv).mpr q); first | (simp [ck_rg, hne, ck_zoI c_2 c_3, c_1, c_2, c_3, c_4]; done) | (simp [ck_rg, hne, ck_zo, c_1, c_2, c_3, c_4]; done)
          exact W.lret (v := (ck_fi (bt hd) lo hi (ck_gr (bt hd) lo hi 24) 24)) hx hb hr (fun t ht _ => ⟨congrArg (fun z => Outcome.returned (some (Value.long z))) hres, ht⟩) (fun _ h => nomatch h) dX1_region_33
      · refine lv_ldc2 (v := ck_NO) hx hb hown (hts (.constantLong RX1 30 ck_NO) (by decide +kernel)) dX1_region_18 ?_
        have hres : ck_NO = (ck_rg hd lo hi en) := by have hne : ¬ hd = 0 := fun q => c_1 ((ck_gr0 inv).mpr q); first | (simp [ck_rg, hne, ck_zoB c_3, c_1, c_2, c_3]; done) | (simp [ck_rg, hne, ck_zo, c_1, c_2, c_3]; done)
        exact W.lret (v := ck_NO) hx hb hr (fun t ht _ => ⟨congrArg (fun z => Outcome.returned (some (Value.long z))) hres, ht⟩) (fun _ h => nomatch h) dX1_region_21

set_option maxHeartbeats 4000000 in
set_option maxRecDepth 100000 in
theorem c_X1_chosen (l : Launch) (D : va_G) (h a0 a1 a2 : Nat) (c0 c1 c2 : ClassId) (lo hi : Nat → Int64) (hd : Int32) (ow off go : Int64) (inv : ck_inv hd lo hi) (x : Int32)  : Met l yX1_chosen wsX1_chosen { frames := 3, cells := 0, slots := 0, locals := 76 } (va_Pc [.ref h, .int x] (ck_B D (mW h a0 a1 a2 c0 c1 c2 lo hi hd ow off go) (mT c0 c1 c2))) (ck_R (.int (ck_b (ck_ch hd lo hi x)))) 0 0 (fun _ => False) := by
  refine Met.ofW (cc := cX1_chosen) (maxL := 2) (ret := (some .boolean)) (by decide) rfl ?_
  intro p e s m args below meth c s₁ B hml hv
  obtain ⟨rfl, hP, hK⟩ := hv
  have hx := B.exec
  have hb := B.bytes
  have hr := B.returns
  have hts := atoms_spec (ws := wsX1_chosen) B.pre
  have hown : s.vm.findClass RX1 = some m.cls := findClass_of_methodNamed B.named
  have hlocks := B.notSynchronized
  have hin : ∀ w ∈ wsX10, w ∈ wsX1_chosen := fun _ h => List.mem_cons_of_mem _ (List.mem_append_right _ h)
  have hl := lv_entry ([.ref h, .int x]) (n := 2) (Nat.le_of_ble_eq_true rfl)
  rw [lg_entry_eq]
  generalize (lg_sl ([.ref h, .int x]) ++ List.replicate (2 - (lg_sl ([.ref h, .int x])).length) Slot.unset).toArray = ls at hl ⊢
  have hl : lv_has ls 2 [(0, .ref h), (1, .int x)] := hl
  refine lv_iload_n hx hb dX1_chosen_0 rfl (lv_at hl 1 rfl) ?_
  refine ck_cS (As := [.int x]) (rest := []) ⟨hx, hb, hml, hown, hts⟩ (c_X1_isSource l x) (va_cwS 1 hts gX1_chosen_X1_isSource rfl rfl rfl (by decide +kernel) ⟨Nat.le_of_ble_eq_true rfl, Nat.le_of_ble_eq_true rfl⟩) rfl hl.1 rfl (Nat.le_of_ble_eq_true rfl) dX1_chosen_1 ⟨Nat.le_of_ble_eq_true rfl, Nat.le_of_ble_eq_true rfl⟩ ?_
  refine lv_if_eq (tgt := 50) hx hb dX1_chosen_4 (by decide) (fun c_1 => ?_) (fun c_1 => ?_)
  · have c_1 := ck_bf c_1
    refine lv_iconst (v := 0) hx hb dX1_chosen_50 (by decide) ?_
    have hres : 0 = (ck_b (ck_ch hd lo hi x)) := by simp [ck_ch, ck_in, ck_b, c_1]
    exact W.zret (ty := .boolean) (v := 0) hx hb hr rfl (fun t ht _ => ⟨congrArg (fun z => Outcome.returned (some (Value.int z))) hres, ht⟩) (fun _ h => nomatch h) dX1_chosen_51
  · have c_1 := ck_bt c_1
    obtain ⟨jx, hjx, rfl⟩ := ck_srcE c_1
    have hcjx : (nI jx).toNatClampNeg = jx := nI_clamp (by omega)
    refine lv_aload_n hx hb dX1_chosen_7 rfl (lv_at hl 0 rfl) ?_
    refine va_get (D := D) (ci := 1) (v := .ref a0) (C := RX1) (T := TX1) (N := 6) hx hb hts hin hown hK hP 0 rfl rfl 0 (by decide) (hts (.fieldLink RX1 7 "ClockDeskModel" "is" "[Z") (by decide +kernel)) (fun _ h9 => h9) rfl dX1_chosen_8 ?_
    refine lv_iload_n hx hb dX1_chosen_11 rfl (lv_at hl 1 rfl) ?_
    refine ck_zald hx hb hK hP 1 0 rfl rfl (i := jx) hjx dX1_chosen_12 ?_
    refine lv_if_eq (tgt := 50) hx hb dX1_chosen_13 (by decide) (fun c_2 => ?_) (fun c_2 => ?_)
    · have c_2 := ck_bf c_2
      refine lv_iconst (v := 0) hx hb dX1_chosen_50 (by decide) ?_
      have hres : 0 = (ck_b (ck_ch hd lo hi (nI jx))) := by simp [ck_ch, ck_b, ck_inN hd hjx, c_1, hcjx, c_2]
      exact W.zret (ty := .boolean) (v := 0) hx hb hr rfl (fun t ht _ => ⟨congrArg (fun z => Outcome.returned (some (Value.int z))) hres, ht⟩) (fun _ h => nomatch h) dX1_chosen_51
    · have c_2 := ck_bt c_2
      refine lv_aload_n hx hb dX1_chosen_16 rfl (lv_at hl 0 rfl) ?_
      refine va_get (D := D) (ci := 1) (v := .ref a1) (C := RX1) (T := TX1) (N := 6) hx hb hts hin hown hK hP 0 rfl rfl 1 (by decide) (hts (.fieldLink RX1 13 "ClockDeskModel" "low" "[J") (by decide +kernel)) (fun _ h9 => h9) rfl dX1_chosen_17 ?_
      refine lv_iload_n hx hb dX1_chosen_20 rfl (lv_at hl 1 rfl) ?_
      refine ck_lald hx hb hK hP 2 1 rfl rfl (i := jx) hjx dX1_chosen_21 ?_
      refine lv_aload_n hx hb dX1_chosen_22 rfl (lv_at hl 0 rfl) ?_
      refine lv_iconst (v := 0) hx hb dX1_chosen_23 (by decide) ?_
      refine ck_cV (As := [.int 0]) (rest := [.long (lo jx)]) ⟨hx, hb, hml, hown, hts⟩ (c_X1_region l D h a0 a1 a2 c0 c1 c2 lo hi hd ow off go inv 0) (cwV 1 hts gX1_chosen_X1_region rfl rfl rfl (by decide +kernel) ⟨Nat.le_of_ble_eq_true rfl, Nat.le_of_ble_eq_true rfl⟩) hP hK (va_recv hK hP (ci := 1) (q0 := 0) rfl rfl) rfl hl.1 rfl (Nat.le_of_ble_eq_true rfl) dX1_chosen_24 ⟨Nat.le_of_ble_eq_true rfl, Nat.le_of_ble_eq_true rfl⟩ ?_
      refine W.lcmp hx hb dX1_chosen_27 ?_
      refine lv_if_gt (tgt := 50) hx hb dX1_chosen_28 (by decide) (fun c_3 => ?_) (fun c_3 => ?_)
      · rw [lg_cmp_gt] at c_3
        refine lv_iconst (v := 0) hx hb dX1_chosen_50 (by decide) ?_
        have hres : 0 = (ck_b (ck_ch hd lo hi (nI jx))) := by simp [ck_ch, ck_b, ck_inN hd hjx, c_1, hcjx, c_2, c_3]
        exact W.zret (ty := .boolean) (v := 0) hx hb hr rfl (fun t ht _ => ⟨congrArg (fun z => Outcome.returned (some (Value.int z))) hres, ht⟩) (fun _ h => nomatch h) dX1_chosen_51
      · rw [lg_cmp_gt] at c_3
        refine lv_aload_n hx hb dX1_chosen_31 rfl (lv_at hl 0 rfl) ?_
        refine va_get (D := D) (ci := 1) (v := .ref a2) (C := RX1) (T := TX1) (N := 6) hx hb hts hin hown hK hP 0 rfl rfl 2 (by decide) (hts (.fieldLink RX1 17 "ClockDeskModel" "high" "[J") (by decide +kernel)) (fun _ h9 => h9) rfl dX1_chosen_32 ?_
        refine lv_iload_n hx hb dX1_chosen_35 rfl (lv_at hl 1 rfl) ?_
        refine ck_lald hx hb hK hP 3 2 rfl rfl (i := jx) hjx dX1_chosen_36 ?_
        refine lv_aload_n hx hb dX1_chosen_37 rfl (lv_at hl 0 rfl) ?_
        refine lv_iconst (v := 1) hx hb dX1_chosen_38 (by decide) ?_
        refine ck_cV (As := [.int 1]) (rest := [.long (hi jx)]) ⟨hx, hb, hml, hown, hts⟩ (c_X1_region l D h a0 a1 a2 c0 c1 c2 lo hi hd ow off go inv 1) (cwV 1 hts gX1_chosen_X1_region rfl rfl rfl (by decide +kernel) ⟨Nat.le_of_ble_eq_true rfl, Nat.le_of_ble_eq_true rfl⟩) hP hK (va_recv hK hP (ci := 1) (q0 := 0) rfl rfl) rfl hl.1 rfl (Nat.le_of_ble_eq_true rfl) dX1_chosen_39 ⟨Nat.le_of_ble_eq_true rfl, Nat.le_of_ble_eq_true rfl⟩ ?_
        refine W.lcmp hx hb dX1_chosen_42 ?_
        refine lv_if_lt (tgt := 50) hx hb dX1_chosen_43 (by decide) (fun c_4 => ?_) (fun c_4 => ?_)
        · rw [lg_cmp_lt] at c_4
          refine lv_iconst (v := 0) hx hb dX1_chosen_50 (by decide) ?_
          have hres : 0 = (ck_b (ck_ch hd lo hi (nI jx))) := by simp [ck_ch, ck_b, ck_inN hd hjx, c_1, hcjx, c_2, c_3, c_4]
          exact W.zret (ty := .boolean) (v := 0) hx hb hr rfl (fun t ht _ => ⟨congrArg (fun z => Outcome.returned (some (Value.int z))) hres, ht⟩) (fun _ h => nomatch h) dX1_chosen_51
        · rw [lg_cmp_lt] at c_4
          refine lv_iconst (v := 1) hx hb dX1_chosen_46 (by decide) ?_
          refine lv_goto (tgt := 51) hx hb dX1_chosen_47 (by decide) ?_
          have hres : 1 = (ck_b (ck_ch hd lo hi (nI jx))) := by simp [ck_ch, ck_b, ck_inN hd hjx, c_1, hcjx, c_2, c_3, c_4]
          exact W.zret (ty := .boolean) (v := 1) hx hb hr rfl (fun t ht _ => ⟨congrArg (fun z => Outcome.returned (some (Value.int z))) hres, ht⟩) (fun _ h => nomatch h) dX1_chosen_51

set_option maxHeartbeats 4000000 in
set_option maxRecDepth 100000 in
theorem c_X1_median (l : Launch) (D : va_G) (h a0 a1 a2 : Nat) (c0 c1 c2 : ClassId) (lo hi : Nat → Int64) (hd : Int32) (ow off go : Int64) (inv : ck_inv hd lo hi)   : Met l yX1_median wsX1_median { frames := 2, cells := 0, slots := 0, locals := 42 } (va_Pc [.ref h] (ck_B D (mW h a0 a1 a2 c0 c1 c2 lo hi hd ow off go) (mT c0 c1 c2))) (ck_R (.long (ck_md hd lo hi))) 0 0 (fun _ => False) := by
  refine Met.ofW (cc := cX1_median) (maxL := 5) (ret := (some .long)) (by decide) rfl ?_
  intro p e s m args below meth c s₁ B hml hv
  obtain ⟨rfl, hP, hK⟩ := hv
  have hx := B.exec
  have hb := B.bytes
  have hr := B.returns
  have hts := atoms_spec (ws := wsX1_median) B.pre
  have hown : s.vm.findClass RX1 = some m.cls := findClass_of_methodNamed B.named
  have hlocks := B.notSynchronized
  have hin : ∀ w ∈ wsX10, w ∈ wsX1_median := fun _ h => List.mem_cons_of_mem _ (List.mem_append_right _ h)
  have hl := lv_entry ([.ref h]) (n := 5) (Nat.le_of_ble_eq_true rfl)
  rw [lg_entry_eq]
  generalize (lg_sl ([.ref h]) ++ List.replicate (5 - (lg_sl ([.ref h])).length) Slot.unset).toArray = ls at hl ⊢
  have hl : lv_has ls 5 [(0, .ref h)] := hl
  refine lv_aload_n hx hb dX1_median_0 rfl (lv_at hl 0 rfl) ?_
  refine ck_cV (As := []) (rest := []) ⟨hx, hb, hml, hown, hts⟩ (c_X1_sources l D h a0 a1 a2 c0 c1 c2 lo hi hd ow off go inv ) (cwV 0 hts gX1_median_X1_sources rfl rfl rfl (by decide +kernel) ⟨Nat.le_of_ble_eq_true rfl, Nat.le_of_ble_eq_true rfl⟩) hP hK (va_recv hK hP (ci := 1) (q0 := 0) rfl rfl) rfl hl.1 rfl (Nat.le_of_ble_eq_true rfl) dX1_median_1 ⟨Nat.le_of_ble_eq_true rfl, Nat.le_of_ble_eq_true rfl⟩ ?_
  refine lv_istore_n (lv' := [(1, .int (ck_ns hd)), (0, .ref h)]) hx hb dX1_median_4 rfl hl (by decide) rfl (fun ls hl => ?_)
  refine lv_iconst (v := 0) hx hb dX1_median_5 (by decide) ?_
  refine lv_istore_n (lv' := [(2, .int 0), (1, .int (ck_ns hd)), (0, .ref h)]) hx hb dX1_median_6 rfl hl (by decide) rfl (fun ls hl => ?_)
  refine ck_loop (G := fun ls => W p l e _ s m _ below meth c _ _ _ _ _ (F0 m 7 ls [])) (nL := 5) (24) (fun i => ck_mdf (bt hd) lo hi ((ck_ns hd - 1) / 2) i = none) (fun i => [(0, .ref h), (1, .int (ck_ns hd)), (2, .int (nI i))]) (fun i hle_i hj_i ih_i ls hl => ?_) ls (rfl) ?_
  rotate_left
  · have hq : lv_has ls 5 [(0, .ref h), (1, .int (ck_ns hd)), (2, .int 0)] := lv_sub hl [2, 1, 0] rfl
    exact hq
  have hl : lv_has ls 5 [(0, .ref h), (1, .int (ck_ns hd)), (2, .int (nI i))] := hl
  refine lv_iload_n hx hb dX1_median_7 rfl (lv_at hl 2 rfl) ?_
  refine lv_bipush (v := 24) hx hb dX1_median_8 (by decide) ?_
  refine lv_icmp_ge (tgt := 124) hx hb dX1_median_10 (by decide) (fun c_1 => ?_) (fun c_1 => ?_)
  · have heq_i : i = 24 := ck_eqN hle_i c_1
    subst heq_i
    have hl : lv_has ls 5 [(0, .ref h), (1, .int (ck_ns hd)), (2, .int (nI 24))] := hl
    refine lv_ldc2 (v := ck_NO) hx hb hown (hts (.constantLong RX1 30 ck_NO) (by decide +kernel)) dX1_median_124 ?_
    have hres : ck_NO = (ck_md hd lo hi) := by simp [ck_md, hj_i]
    exact W.lret (v := ck_NO) hx hb hr (fun t ht _ => ⟨congrArg (fun z => Outcome.returned (some (Value.long z))) hres, ht⟩) (fun _ h => nomatch h) dX1_median_127
  · have hlt_i : i < 24 := ck_ltN hle_i c_1
    refine lv_iconst (v := 0) hx hb dX1_median_13 (by decide) ?_
    refine lv_istore_n (lv' := [(3, .int 0), (0, .ref h), (1, .int (ck_ns hd)), (2, .int (nI i))]) hx hb dX1_median_14 rfl hl (by decide) rfl (fun ls hl => ?_)
    refine lv_iconst (v := 0) hx hb dX1_median_15 (by decide) ?_
    refine lv_istore (lv' := [(4, .int 0), (3, .int 0), (0, .ref h), (1, .int (ck_ns hd)), (2, .int (nI i))]) hx hb dX1_median_16 hl (by decide) rfl (fun ls hl => ?_)
    refine ck_loop (G := fun ls => W p l e _ s m _ below meth c _ _ _ _ _ (F0 m 18 ls [])) (nL := 5) (24) (fun o => True) (fun o => [(0, .ref h), (1, .int (ck_ns hd)), (2, .int (nI i)), (3, .int (ck_cn (ck_plQ (bt hd) lo hi i) o)), (4, .int (nI o))]) (fun o hle_o hj_o ih_o ls hl => ?_) ls (trivial) ?_
    rotate_left
    · have hq : lv_has ls 5 [(0, .ref h), (1, .int (ck_ns hd)), (2, .int (nI i)), (3, .int 0), (4, .int 0)] := lv_sub hl [2, 3, 4, 1, 0] rfl
      exact hq
    have hl : lv_has ls 5 [(0, .ref h), (1, .int (ck_ns hd)), (2, .int (nI i)), (3, .int (ck_cn (ck_plQ (bt hd) lo hi i) o)), (4, .int (nI o))] := hl
    refine lv_iload hx hb dX1_median_18 (lv_at hl 4 rfl) ?_
    refine lv_bipush (v := 24) hx hb dX1_median_20 (by decide) ?_
    refine lv_icmp_ge (tgt := 94) hx hb dX1_median_22 (by decide) (fun c_2 => ?_) (fun c_2 => ?_)
    · have heq_o : o = 24 := ck_eqN hle_o c_2
      subst heq_o
      have hl : lv_has ls 5 [(0, .ref h), (1, .int (ck_ns hd)), (2, .int (nI i)), (3, .int (ck_cn (ck_plQ (bt hd) lo hi i) 24)), (4, .int (nI 24))] := hl
      refine lv_aload_n hx hb dX1_median_94 rfl (lv_at hl 0 rfl) ?_
      refine va_get (D := D) (ci := 1) (v := .ref a0) (C := RX1) (T := TX1) (N := 6) hx hb hts hin hown hK hP 0 rfl rfl 0 (by decide) (hts (.fieldLink RX1 7 "ClockDeskModel" "is" "[Z") (by decide +kernel)) (fun _ h9 => h9) rfl dX1_median_95 ?_
      refine lv_iload_n hx hb dX1_median_98 rfl (lv_at hl 2 rfl) ?_
      refine ck_zald hx hb hK hP 1 0 rfl rfl (i := i) hlt_i dX1_median_99 ?_
      refine lv_if_eq (tgt := 118) hx hb dX1_median_100 (by decide) (fun c_3 => ?_) (fun c_3 => ?_)
      · have c_3 := ck_bf c_3
        refine lv_iinc (v := (nI (i + 1))) (lv' := [(2, .int (nI (i + 1))), (0, .ref h), (1, .int (ck_ns hd)), (3, .int (ck_cn (ck_plQ (bt hd) lo hi i) 24)), (4, .int (nI 24))]) hx hb dX1_median_118 hl (k := 2) rfl (nI_1 i) (by decide) rfl (fun ls hl => ?_)
        refine lv_goto (tgt := 7) hx hb dX1_median_121 (by decide) ?_
        refine ih_i ls hlt_i (by simp [ck_mdf, hj_i, c_3]) ?_
        have hq : lv_has ls 5 [(0, .ref h), (1, .int (ck_ns hd)), (2, .int (nI (i + 1)))] := lv_sub hl [1, 2, 0] rfl
        exact hq
      · have c_3 := ck_bt c_3
        refine lv_iload_n hx hb dX1_median_103 rfl (lv_at hl 3 rfl) ?_
        refine lv_iload_n hx hb dX1_median_104 rfl (lv_at hl 1 rfl) ?_
        refine lv_iconst (v := 1) hx hb dX1_median_105 (by decide) ?_
        refine lv_isub hx hb dX1_median_106 ?_
        refine lv_iconst (v := 2) hx hb dX1_median_107 (by decide) ?_
        refine lv_idiv hx hb dX1_median_108 (by decide) ?_
        refine lv_icmp_ne (tgt := 118) hx hb dX1_median_109 (by decide) (fun c_4 => ?_) (fun c_4 => ?_)
        · refine lv_iinc (v := (nI (i + 1))) (lv' := [(2, .int (nI (i + 1))), (0, .ref h), (1, .int (ck_ns hd)), (3, .int (ck_cn (ck_plQ (bt hd) lo hi i) 24)), (4, .int (nI 24))]) hx hb dX1_median_118 hl (k := 2) rfl (nI_1 i) (by decide) rfl (fun ls hl => ?_)
          refine lv_goto (tgt := 7) hx hb dX1_median_121 (by decide) ?_
          refine ih_i ls hlt_i (by have q := c_4; rw [ck_plQ_eq c_3] at q; simp [ck_mdf, ck_pl, hj_i, c_3, q]) ?_
          have hq : lv_has ls 5 [(0, .ref h), (1, .int (ck_ns hd)), (2, .int (nI (i + 1)))] := lv_sub hl [1, 2, 0] rfl
          exact hq
        · refine lv_aload_n hx hb dX1_median_112 rfl (lv_at hl 0 rfl) ?_
          refine lv_iload_n hx hb dX1_median_113 rfl (lv_at hl 2 rfl) ?_
          refine ck_cV (As := [.int (nI i)]) (rest := []) ⟨hx, hb, hml, hown, hts⟩ (c_X1_middle l D h a0 a1 a2 c0 c1 c2 lo hi hd ow off go inv i hlt_i) (cwV 1 hts gX1_median_X1_middle rfl rfl rfl (by decide +kernel) ⟨Nat.le_of_ble_eq_true rfl, Nat.le_of_ble_eq_true rfl⟩) hP hK (va_recv hK hP (ci := 1) (q0 := 0) rfl rfl) rfl hl.1 rfl (Nat.le_of_ble_eq_true rfl) dX1_median_114 ⟨Nat.le_of_ble_eq_true rfl, Nat.le_of_ble_eq_true rfl⟩ ?_
          have hres : (ck_mid lo hi i) = (ck_md hd lo hi) := by have q := c_4; rw [ck_plQ_eq c_3] at q; rw [ck_md, ck_mdf_stay hlt_i (show ck_mdf (bt hd) lo hi ((ck_ns hd - 1) / 2) (i + 1) = some (ck_mid lo hi i) by simp [ck_mdf, ck_pl, hj_i, c_3, q])]; rfl
          exact W.lret (v := (ck_mid lo hi i)) hx hb hr (fun t ht _ => ⟨congrArg (fun z => Outcome.returned (some (Value.long z))) hres, ht⟩) (fun _ h => nomatch h) dX1_median_117
    · have hlt_o : o < 24 := ck_ltN hle_o c_2
      refine lv_iload_n hx hb dX1_median_25 rfl (lv_at hl 3 rfl) ?_
      refine lv_aload_n hx hb dX1_median_26 rfl (lv_at hl 0 rfl) ?_
      refine va_get (D := D) (ci := 1) (v := .ref a0) (C := RX1) (T := TX1) (N := 6) hx hb hts hin hown hK hP 0 rfl rfl 0 (by decide) (hts (.fieldLink RX1 7 "ClockDeskModel" "is" "[Z") (by decide +kernel)) (fun _ h9 => h9) rfl dX1_median_27 ?_
      refine lv_iload_n hx hb dX1_median_30 rfl (lv_at hl 2 rfl) ?_
      refine ck_zald hx hb hK hP 1 0 rfl rfl (i := i) hlt_i dX1_median_31 ?_
      refine lv_if_eq (tgt := 85) hx hb dX1_median_32 (by decide) (fun c_5 => ?_) (fun c_5 => ?_)
      · have c_5 := ck_bf c_5
        refine lv_iconst (v := 0) hx hb dX1_median_85 (by decide) ?_
        refine lv_iadd hx hb dX1_median_86 ?_
        refine lv_istore_n (lv' := [(3, .int ((ck_cn (ck_plQ (bt hd) lo hi i) o) + 0)), (0, .ref h), (1, .int (ck_ns hd)), (2, .int (nI i)), (4, .int (nI o))]) hx hb dX1_median_87 rfl hl (by decide) rfl (fun ls hl => ?_)
        refine lv_iinc (v := (nI (o + 1))) (lv' := [(4, .int (nI (o + 1))), (3, .int ((ck_cn (ck_plQ (bt hd) lo hi i) o) + 0)), (0, .ref h), (1, .int (ck_ns hd)), (2, .int (nI i))]) hx hb dX1_median_88 hl (k := 4) rfl (nI_1 o) (by decide) rfl (fun ls hl => ?_)
        refine lv_goto (tgt := 18) hx hb dX1_median_91 (by decide) ?_
        refine ih_o ls hlt_o (trivial) ?_
        have hq : lv_has ls 5 [(0, .ref h), (1, .int (ck_ns hd)), (2, .int (nI i)), (3, .int ((ck_cn (ck_plQ (bt hd) lo hi i) o) + 0)), (4, .int (nI (o + 1)))] := lv_sub hl [2, 3, 4, 1, 0] rfl
        have eq0 : ((ck_cn (ck_plQ (bt hd) lo hi i) o) + 0) = (ck_cn (ck_plQ (bt hd) lo hi i) (o + 1)) := by simp [ck_cn, ck_plQ, ck_plP, c_5]
        exact lv_eqq hq (by rw [← eq0])
      · have c_5 := ck_bt c_5
        refine lv_aload_n hx hb dX1_median_35 rfl (lv_at hl 0 rfl) ?_
        refine va_get (D := D) (ci := 1) (v := .ref a0) (C := RX1) (T := TX1) (N := 6) hx hb hts hin hown hK hP 0 rfl rfl 0 (by decide) (hts (.fieldLink RX1 7 "ClockDeskModel" "is" "[Z") (by decide +kernel)) (fun _ h9 => h9) rfl dX1_median_36 ?_
        refine lv_iload hx hb dX1_median_39 (lv_at hl 4 rfl) ?_
        refine ck_zald hx hb hK hP 1 0 rfl rfl (i := o) hlt_o dX1_median_41 ?_
        refine lv_if_eq (tgt := 85) hx hb dX1_median_42 (by decide) (fun c_6 => ?_) (fun c_6 => ?_)
        · have c_6 := ck_bf c_6
          refine lv_iconst (v := 0) hx hb dX1_median_85 (by decide) ?_
          refine lv_iadd hx hb dX1_median_86 ?_
          refine lv_istore_n (lv' := [(3, .int ((ck_cn (ck_plQ (bt hd) lo hi i) o) + 0)), (0, .ref h), (1, .int (ck_ns hd)), (2, .int (nI i)), (4, .int (nI o))]) hx hb dX1_median_87 rfl hl (by decide) rfl (fun ls hl => ?_)
          refine lv_iinc (v := (nI (o + 1))) (lv' := [(4, .int (nI (o + 1))), (3, .int ((ck_cn (ck_plQ (bt hd) lo hi i) o) + 0)), (0, .ref h), (1, .int (ck_ns hd)), (2, .int (nI i))]) hx hb dX1_median_88 hl (k := 4) rfl (nI_1 o) (by decide) rfl (fun ls hl => ?_)
          refine lv_goto (tgt := 18) hx hb dX1_median_91 (by decide) ?_
          refine ih_o ls hlt_o (trivial) ?_
          have hq : lv_has ls 5 [(0, .ref h), (1, .int (ck_ns hd)), (2, .int (nI i)), (3, .int ((ck_cn (ck_plQ (bt hd) lo hi i) o) + 0)), (4, .int (nI (o + 1)))] := lv_sub hl [2, 3, 4, 1, 0] rfl
          have eq0 : ((ck_cn (ck_plQ (bt hd) lo hi i) o) + 0) = (ck_cn (ck_plQ (bt hd) lo hi i) (o + 1)) := by simp [ck_cn, ck_plQ, ck_plP, c_5, c_6]
          exact lv_eqq hq (by rw [← eq0])
        · have c_6 := ck_bt c_6
          refine lv_aload_n hx hb dX1_median_45 rfl (lv_at hl 0 rfl) ?_
          refine lv_iload hx hb dX1_median_46 (lv_at hl 4 rfl) ?_
          refine ck_cV (As := [.int (nI o)]) (rest := [.int (ck_cn (ck_plQ (bt hd) lo hi i) o)]) ⟨hx, hb, hml, hown, hts⟩ (c_X1_middle l D h a0 a1 a2 c0 c1 c2 lo hi hd ow off go inv o hlt_o) (cwV 1 hts gX1_median_X1_middle rfl rfl rfl (by decide +kernel) ⟨Nat.le_of_ble_eq_true rfl, Nat.le_of_ble_eq_true rfl⟩) hP hK (va_recv hK hP (ci := 1) (q0 := 0) rfl rfl) rfl hl.1 rfl (Nat.le_of_ble_eq_true rfl) dX1_median_48 ⟨Nat.le_of_ble_eq_true rfl, Nat.le_of_ble_eq_true rfl⟩ ?_
          refine lv_aload_n hx hb dX1_median_51 rfl (lv_at hl 0 rfl) ?_
          refine lv_iload_n hx hb dX1_median_52 rfl (lv_at hl 2 rfl) ?_
          refine ck_cV (As := [.int (nI i)]) (rest := [.long (ck_mid lo hi o), .int (ck_cn (ck_plQ (bt hd) lo hi i) o)]) ⟨hx, hb, hml, hown, hts⟩ (c_X1_middle l D h a0 a1 a2 c0 c1 c2 lo hi hd ow off go inv i hlt_i) (cwV 1 hts gX1_median_X1_middle rfl rfl rfl (by decide +kernel) ⟨Nat.le_of_ble_eq_true rfl, Nat.le_of_ble_eq_true rfl⟩) hP hK (va_recv hK hP (ci := 1) (q0 := 0) rfl rfl) rfl hl.1 rfl (Nat.le_of_ble_eq_true rfl) dX1_median_53 ⟨Nat.le_of_ble_eq_true rfl, Nat.le_of_ble_eq_true rfl⟩ ?_
          refine W.lcmp hx hb dX1_median_56 ?_
          refine lv_if_lt (tgt := 81) hx hb dX1_median_57 (by decide) (fun c_7 => ?_) (fun c_7 => ?_)
          · rw [lg_cmp_lt] at c_7
            refine lv_iconst (v := 1) hx hb dX1_median_81 (by decide) ?_
            refine lv_goto (tgt := 86) hx hb dX1_median_82 (by decide) ?_
            refine lv_iadd hx hb dX1_median_86 ?_
            refine lv_istore_n (lv' := [(3, .int ((ck_cn (ck_plQ (bt hd) lo hi i) o) + 1)), (0, .ref h), (1, .int (ck_ns hd)), (2, .int (nI i)), (4, .int (nI o))]) hx hb dX1_median_87 rfl hl (by decide) rfl (fun ls hl => ?_)
            refine lv_iinc (v := (nI (o + 1))) (lv' := [(4, .int (nI (o + 1))), (3, .int ((ck_cn (ck_plQ (bt hd) lo hi i) o) + 1)), (0, .ref h), (1, .int (ck_ns hd)), (2, .int (nI i))]) hx hb dX1_median_88 hl (k := 4) rfl (nI_1 o) (by decide) rfl (fun ls hl => ?_)
            refine lv_goto (tgt := 18) hx hb dX1_median_91 (by decide) ?_
            refine ih_o ls hlt_o (trivial) ?_
            have hq : lv_has ls 5 [(0, .ref h), (1, .int (ck_ns hd)), (2, .int (nI i)), (3, .int ((ck_cn (ck_plQ (bt hd) lo hi i) o) + 1)), (4, .int (nI (o + 1)))] := lv_sub hl [2, 3, 4, 1, 0] rfl
            have eq0 : ((ck_cn (ck_plQ (bt hd) lo hi i) o) + 1) = (ck_cn (ck_plQ (bt hd) lo hi i) (o + 1)) := by simp [ck_cn, ck_plQ, ck_plP, c_5, c_6, c_7]
            exact lv_eqq hq (by rw [← eq0])
          · rw [lg_cmp_lt] at c_7
            refine lv_aload_n hx hb dX1_median_60 rfl (lv_at hl 0 rfl) ?_
            refine lv_iload hx hb dX1_median_61 (lv_at hl 4 rfl) ?_
            refine ck_cV (As := [.int (nI o)]) (rest := [.int (ck_cn (ck_plQ (bt hd) lo hi i) o)]) ⟨hx, hb, hml, hown, hts⟩ (c_X1_middle l D h a0 a1 a2 c0 c1 c2 lo hi hd ow off go inv o hlt_o) (cwV 1 hts gX1_median_X1_middle rfl rfl rfl (by decide +kernel) ⟨Nat.le_of_ble_eq_true rfl, Nat.le_of_ble_eq_true rfl⟩) hP hK (va_recv hK hP (ci := 1) (q0 := 0) rfl rfl) rfl hl.1 rfl (Nat.le_of_ble_eq_true rfl) dX1_median_63 ⟨Nat.le_of_ble_eq_true rfl, Nat.le_of_ble_eq_true rfl⟩ ?_
            refine lv_aload_n hx hb dX1_median_66 rfl (lv_at hl 0 rfl) ?_
            refine lv_iload_n hx hb dX1_median_67 rfl (lv_at hl 2 rfl) ?_
            refine ck_cV (As := [.int (nI i)]) (rest := [.long (ck_mid lo hi o), .int (ck_cn (ck_plQ (bt hd) lo hi i) o)]) ⟨hx, hb, hml, hown, hts⟩ (c_X1_middle l D h a0 a1 a2 c0 c1 c2 lo hi hd ow off go inv i hlt_i) (cwV 1 hts gX1_median_X1_middle rfl rfl rfl (by decide +kernel) ⟨Nat.le_of_ble_eq_true rfl, Nat.le_of_ble_eq_true rfl⟩) hP hK (va_recv hK hP (ci := 1) (q0 := 0) rfl rfl) rfl hl.1 rfl (Nat.le_of_ble_eq_true rfl) dX1_median_68 ⟨Nat.le_of_ble_eq_true rfl, Nat.le_of_ble_eq_true rfl⟩ ?_
            refine W.lcmp hx hb dX1_median_71 ?_
            refine lv_if_ne (tgt := 85) hx hb dX1_median_72 (by decide) (fun c_8 => ?_) (fun c_8 => ?_)
            · rw [lg_cmp_eq] at c_8
              refine lv_iconst (v := 0) hx hb dX1_median_85 (by decide) ?_
              refine lv_iadd hx hb dX1_median_86 ?_
              refine lv_istore_n (lv' := [(3, .int ((ck_cn (ck_plQ (bt hd) lo hi i) o) + 0)), (0, .ref h), (1, .int (ck_ns hd)), (2, .int (nI i)), (4, .int (nI o))]) hx hb dX1_median_87 rfl hl (by decide) rfl (fun ls hl => ?_)
              refine lv_iinc (v := (nI (o + 1))) (lv' := [(4, .int (nI (o + 1))), (3, .int ((ck_cn (ck_plQ (bt hd) lo hi i) o) + 0)), (0, .ref h), (1, .int (ck_ns hd)), (2, .int (nI i))]) hx hb dX1_median_88 hl (k := 4) rfl (nI_1 o) (by decide) rfl (fun ls hl => ?_)
              refine lv_goto (tgt := 18) hx hb dX1_median_91 (by decide) ?_
              refine ih_o ls hlt_o (trivial) ?_
              have hq : lv_has ls 5 [(0, .ref h), (1, .int (ck_ns hd)), (2, .int (nI i)), (3, .int ((ck_cn (ck_plQ (bt hd) lo hi i) o) + 0)), (4, .int (nI (o + 1)))] := lv_sub hl [2, 3, 4, 1, 0] rfl
              have eq0 : ((ck_cn (ck_plQ (bt hd) lo hi i) o) + 0) = (ck_cn (ck_plQ (bt hd) lo hi i) (o + 1)) := by simp [ck_cn, ck_plQ, ck_plP, c_5, c_6, c_7, c_8]
              exact lv_eqq hq (by rw [← eq0])
            · rw [lg_cmp_eq] at c_8
              refine lv_iload hx hb dX1_median_75 (lv_at hl 4 rfl) ?_
              refine lv_iload_n hx hb dX1_median_77 rfl (lv_at hl 2 rfl) ?_
              refine lv_icmp_ge (tgt := 85) hx hb dX1_median_78 (by decide) (fun c_9 => ?_) (fun c_9 => ?_)
              · refine lv_iconst (v := 0) hx hb dX1_median_85 (by decide) ?_
                refine lv_iadd hx hb dX1_median_86 ?_
                refine lv_istore_n (lv' := [(3, .int ((ck_cn (ck_plQ (bt hd) lo hi i) o) + 0)), (0, .ref h), (1, .int (ck_ns hd)), (2, .int (nI i)), (4, .int (nI o))]) hx hb dX1_median_87 rfl hl (by decide) rfl (fun ls hl => ?_)
                refine lv_iinc (v := (nI (o + 1))) (lv' := [(4, .int (nI (o + 1))), (3, .int ((ck_cn (ck_plQ (bt hd) lo hi i) o) + 0)), (0, .ref h), (1, .int (ck_ns hd)), (2, .int (nI i))]) hx hb dX1_median_88 hl (k := 4) rfl (nI_1 o) (by decide) rfl (fun ls hl => ?_)
                refine lv_goto (tgt := 18) hx hb dX1_median_91 (by decide) ?_
                refine ih_o ls hlt_o (trivial) ?_
                have hq : lv_has ls 5 [(0, .ref h), (1, .int (ck_ns hd)), (2, .int (nI i)), (3, .int ((ck_cn (ck_plQ (bt hd) lo hi i) o) + 0)), (4, .int (nI (o + 1)))] := lv_sub hl [2, 3, 4, 1, 0] rfl
                have eq0 : ((ck_cn (ck_plQ (bt hd) lo hi i) o) + 0) = (ck_cn (ck_plQ (bt hd) lo hi i) (o + 1)) := by simp [ck_cn, ck_plQ, ck_plP, c_5, c_6, c_7, c_8, c_9]
                exact lv_eqq hq (by rw [← eq0])
              · refine lv_iconst (v := 1) hx hb dX1_median_81 (by decide) ?_
                refine lv_goto (tgt := 86) hx hb dX1_median_82 (by decide) ?_
                refine lv_iadd hx hb dX1_median_86 ?_
                refine lv_istore_n (lv' := [(3, .int ((ck_cn (ck_plQ (bt hd) lo hi i) o) + 1)), (0, .ref h), (1, .int (ck_ns hd)), (2, .int (nI i)), (4, .int (nI o))]) hx hb dX1_median_87 rfl hl (by decide) rfl (fun ls hl => ?_)
                refine lv_iinc (v := (nI (o + 1))) (lv' := [(4, .int (nI (o + 1))), (3, .int ((ck_cn (ck_plQ (bt hd) lo hi i) o) + 1)), (0, .ref h), (1, .int (ck_ns hd)), (2, .int (nI i))]) hx hb dX1_median_88 hl (k := 4) rfl (nI_1 o) (by decide) rfl (fun ls hl => ?_)
                refine lv_goto (tgt := 18) hx hb dX1_median_91 (by decide) ?_
                refine ih_o ls hlt_o (trivial) ?_
                have hq : lv_has ls 5 [(0, .ref h), (1, .int (ck_ns hd)), (2, .int (nI i)), (3, .int ((ck_cn (ck_plQ (bt hd) lo hi i) o) + 1)), (4, .int (nI (o + 1)))] := lv_sub hl [2, 3, 4, 1, 0] rfl
                have eq0 : ((ck_cn (ck_plQ (bt hd) lo hi i) o) + 1) = (ck_cn (ck_plQ (bt hd) lo hi i) (o + 1)) := by simp [ck_cn, ck_plQ, ck_plP, c_5, c_6, c_7, c_8, c_9]
                exact lv_eqq hq (by rw [← eq0])
