set_option maxHeartbeats 4000000 in
set_option maxRecDepth 100000 in
theorem c_X1_interval (l : Launch) (D : va_G) (h a0 a1 a2 : Nat) (c0 c1 c2 : ClassId) (lo hi : Nat → Int64) (hd : Int32) (ow off go : Int64) (inv : ck_inv hd lo hi) (sz : Nat) (x : Int32) (a : Int64) (b : Int64)  : Met l yX1_interval wsX1_interval { frames := 1, cells := 0, slots := 0, locals := 20 } (va_Pc [.ref h, .int x, .long a, .long b] (ck_Cw D [(h, .inr (1, [.ref a0, .ref a1, .ref a2, .long ow, .long off, .long go])), (a0, .inl (c0, 24, .inl (ck_bz (bt hd)))), (a1, .inl (c1, 24, .inr (.inl lo))), (a2, .inl (c2, 24, .inr (.inl hi)))] (mT c0 c1 c2) sz)) (ck_Wr (some (.int (ck_b (ck_ivk x a b)))) D [(h, .inr (1, [.ref a0, .ref a1, .ref a2, .long ow, .long off, .long go])), (a0, .inl (c0, 24, .inl (ck_bz (bt (ck_uH (ck_ivk x a b) hd x))))), (a1, .inl (c1, 24, .inr (.inl (ck_uL (ck_ivk x a b) lo x a)))), (a2, .inl (c2, 24, .inr (.inl (ck_uL (ck_ivk x a b) hi x b))))] (va_A [(h, .inr (1, [.ref a0, .ref a1, .ref a2, .long ow, .long off, .long go])), (a0, .inl (c0, 24, .inl (ck_bz (bt hd)))), (a1, .inl (c1, 24, .inr (.inl lo))), (a2, .inl (c2, 24, .inr (.inl hi)))] sz)) 0 0 (va_A [(h, .inr (1, [.ref a0, .ref a1, .ref a2, .long ow, .long off, .long go])), (a0, .inl (c0, 24, .inl (ck_bz (bt hd)))), (a1, .inl (c1, 24, .inr (.inl lo))), (a2, .inl (c2, 24, .inr (.inl hi)))] sz) := by
  refine Met.ofW (cc := cX1_interval) (maxL := 6) (ret := (some .boolean)) (by decide) rfl ?_
  intro p e s m args below meth c s₁ B hml hv
  obtain ⟨rfl, hsz, hP, hK, hD0⟩ := hv
  have hx := B.exec
  have hb := B.bytes
  have hr := B.returns
  have hts := atoms_spec (ws := wsX1_interval) B.pre
  have hown : s.vm.findClass RX1 = some m.cls := findClass_of_methodNamed B.named
  have hlocks := B.notSynchronized
  have hin : ∀ w ∈ wsX10, w ∈ wsX1_interval := fun _ h => List.mem_cons_of_mem _ (List.mem_append_right _ h)
  subst hsz
  have hD := hD0.self (sz := s.heap.size)
  generalize hAe : va_A [(h, .inr (1, [.ref a0, .ref a1, .ref a2, .long ow, .long off, .long go])), (a0, .inl (c0, 24, .inl (ck_bz (bt hd)))), (a1, .inl (c1, 24, .inr (.inl lo))), (a2, .inl (c2, 24, .inr (.inl hi)))] s.heap.size = A at hD ⊢
  have hA : ∀ q : Nat, s.heap.size ≤ q → A q := fun q h => by rw [← hAe]; exact Or.inr h
  have hS : va_S A s.heap s.heap [] := va_S.rf
  have hl := lv_entry ([.ref h, .int x, .long a, .long b]) (n := 6) (Nat.le_of_ble_eq_true rfl)
  rw [lg_entry_eq]
  generalize (lg_sl ([.ref h, .int x, .long a, .long b]) ++ List.replicate (6 - (lg_sl ([.ref h, .int x, .long a, .long b])).length) Slot.unset).toArray = ls at hl ⊢
  have hl : lv_has ls 6 [(0, .ref h), (1, .int x), (2, .long a), (4, .long b)] := hl
  refine lv_iload_n hx hb dX1_interval_0 rfl (lv_at hl 1 rfl) ?_
  refine ck_cS (As := [.int x]) (rest := []) ⟨hx, hb, hml, hown, hts⟩ (c_X1_isSource l x) (va_cwS 1 hts gX1_interval_X1_isSource rfl rfl rfl (by decide +kernel) ⟨Nat.le_of_ble_eq_true rfl, Nat.le_of_ble_eq_true rfl⟩) rfl hl.1 rfl (Nat.le_of_ble_eq_true rfl) dX1_interval_1 ⟨Nat.le_of_ble_eq_true rfl, Nat.le_of_ble_eq_true rfl⟩ ?_
  refine lv_if_eq (tgt := 31) hx hb dX1_interval_4 (by decide) (fun c_1 => ?_) (fun c_1 => ?_)
  · have c_1 := ck_bf c_1
    refine lv_iconst (v := 0) hx hb dX1_interval_31 (by decide) ?_
    have hw_zs : (ck_bz (bt hd)) = (ck_bz (bt (ck_uH (ck_ivk x a b) hd x))) := by first | (rw [ck_bz_on hd hjx]; simp [ck_uH, ck_ivk, c_1]; done) | (simp [ck_uH, ck_ivk, c_1]; done)
    have hw_lo : lo = (ck_uL (ck_ivk x a b) lo x a) := by simp [ck_uL, ck_ivk, c_1]
    have hw_hi : hi = (ck_uL (ck_ivk x a b) hi x b) := by simp [ck_uL, ck_ivk, c_1]
    have hP9 : va_P D vwCl [(h, .inr (1, [.ref a0, .ref a1, .ref a2, .long ow, .long off, .long go])), (a0, .inl (c0, 24, .inl (ck_bz (bt (ck_uH (ck_ivk x a b) hd x))))), (a1, .inl (c1, 24, .inr (.inl (ck_uL (ck_ivk x a b) lo x a)))), (a2, .inl (c2, 24, .inr (.inl (ck_uL (ck_ivk x a b) hi x b))))] s.heap := by rw [← hw_zs, ← hw_lo, ← hw_hi]; exact hP
    have hD9 : va_D A [(h, .inr (1, [.ref a0, .ref a1, .ref a2, .long ow, .long off, .long go])), (a0, .inl (c0, 24, .inl (ck_bz (bt (ck_uH (ck_ivk x a b) hd x))))), (a1, .inl (c1, 24, .inr (.inl (ck_uL (ck_ivk x a b) lo x a)))), (a2, .inl (c2, 24, .inr (.inl (ck_uL (ck_ivk x a b) hi x b))))] := by rw [← hw_zs, ← hw_lo, ← hw_hi]; exact hD
    have hres : 0 = (ck_b (ck_ivk x a b)) := by simp [ck_ivk, ck_b, c_1]
    exact W.zret (ty := .boolean) (v := 0) hx hb hr rfl (fun t ht _ => ⟨congrArg (fun z => Outcome.returned (some (Value.int z))) hres, by rw [ht]; exact hP9, hD9, hS.F ht⟩) hS.2.2 dX1_interval_32
  · have c_1 := ck_bt c_1
    obtain ⟨jx, hjx, rfl⟩ := ck_srcE c_1
    have hcjx : (nI jx).toNatClampNeg = jx := nI_clamp (by omega)
    refine lv_lload_n hx hb dX1_interval_7 rfl (lv_at hl 2 rfl) ?_
    refine lv_ldc2 (v := ck_NFAR) hx hb hown (hts (.constantLong RX1 24 ck_NFAR) (by decide +kernel)) dX1_interval_8 ?_
    refine W.lcmp hx hb dX1_interval_11 ?_
    refine lv_if_lt (tgt := 31) hx hb dX1_interval_12 (by decide) (fun c_2 => ?_) (fun c_2 => ?_)
    · rw [lg_cmp_lt] at c_2
      refine lv_iconst (v := 0) hx hb dX1_interval_31 (by decide) ?_
      have hw_zs : (ck_bz (bt hd)) = (ck_bz (bt (ck_uH (ck_ivk (nI jx) a b) hd (nI jx)))) := by first | (rw [ck_bz_on hd hjx]; simp [ck_uH, ck_ivk, c_1, hcjx, c_2]; done) | (simp [ck_uH, ck_ivk, c_1, hcjx, c_2]; done)
      have hw_lo : lo = (ck_uL (ck_ivk (nI jx) a b) lo (nI jx) a) := by simp [ck_uL, ck_ivk, c_1, hcjx, c_2]
      have hw_hi : hi = (ck_uL (ck_ivk (nI jx) a b) hi (nI jx) b) := by simp [ck_uL, ck_ivk, c_1, hcjx, c_2]
      have hP9 : va_P D vwCl [(h, .inr (1, [.ref a0, .ref a1, .ref a2, .long ow, .long off, .long go])), (a0, .inl (c0, 24, .inl (ck_bz (bt (ck_uH (ck_ivk (nI jx) a b) hd (nI jx)))))), (a1, .inl (c1, 24, .inr (.inl (ck_uL (ck_ivk (nI jx) a b) lo (nI jx) a)))), (a2, .inl (c2, 24, .inr (.inl (ck_uL (ck_ivk (nI jx) a b) hi (nI jx) b))))] s.heap := by rw [← hw_zs, ← hw_lo, ← hw_hi]; exact hP
      have hD9 : va_D A [(h, .inr (1, [.ref a0, .ref a1, .ref a2, .long ow, .long off, .long go])), (a0, .inl (c0, 24, .inl (ck_bz (bt (ck_uH (ck_ivk (nI jx) a b) hd (nI jx)))))), (a1, .inl (c1, 24, .inr (.inl (ck_uL (ck_ivk (nI jx) a b) lo (nI jx) a)))), (a2, .inl (c2, 24, .inr (.inl (ck_uL (ck_ivk (nI jx) a b) hi (nI jx) b))))] := by rw [← hw_zs, ← hw_lo, ← hw_hi]; exact hD
      have hres : 0 = (ck_b (ck_ivk (nI jx) a b)) := by simp [ck_ivk, ck_b, c_1, hcjx, c_2]
      exact W.zret (ty := .boolean) (v := 0) hx hb hr rfl (fun t ht _ => ⟨congrArg (fun z => Outcome.returned (some (Value.int z))) hres, by rw [ht]; exact hP9, hD9, hS.F ht⟩) hS.2.2 dX1_interval_32
    · rw [lg_cmp_lt] at c_2
      refine lv_lload_n hx hb dX1_interval_15 rfl (lv_at hl 2 rfl) ?_
      refine lv_lload hx hb dX1_interval_16 (lv_at hl 3 rfl) ?_
      refine W.lcmp hx hb dX1_interval_18 ?_
      refine lv_if_gt (tgt := 31) hx hb dX1_interval_19 (by decide) (fun c_3 => ?_) (fun c_3 => ?_)
      · rw [lg_cmp_gt] at c_3
        refine lv_iconst (v := 0) hx hb dX1_interval_31 (by decide) ?_
        have hw_zs : (ck_bz (bt hd)) = (ck_bz (bt (ck_uH (ck_ivk (nI jx) a b) hd (nI jx)))) := by first | (rw [ck_bz_on hd hjx]; simp [ck_uH, ck_ivk, c_1, hcjx, c_2, c_3]; done) | (simp [ck_uH, ck_ivk, c_1, hcjx, c_2, c_3]; done)
        have hw_lo : lo = (ck_uL (ck_ivk (nI jx) a b) lo (nI jx) a) := by simp [ck_uL, ck_ivk, c_1, hcjx, c_2, c_3]
        have hw_hi : hi = (ck_uL (ck_ivk (nI jx) a b) hi (nI jx) b) := by simp [ck_uL, ck_ivk, c_1, hcjx, c_2, c_3]
        have hP9 : va_P D vwCl [(h, .inr (1, [.ref a0, .ref a1, .ref a2, .long ow, .long off, .long go])), (a0, .inl (c0, 24, .inl (ck_bz (bt (ck_uH (ck_ivk (nI jx) a b) hd (nI jx)))))), (a1, .inl (c1, 24, .inr (.inl (ck_uL (ck_ivk (nI jx) a b) lo (nI jx) a)))), (a2, .inl (c2, 24, .inr (.inl (ck_uL (ck_ivk (nI jx) a b) hi (nI jx) b))))] s.heap := by rw [← hw_zs, ← hw_lo, ← hw_hi]; exact hP
        have hD9 : va_D A [(h, .inr (1, [.ref a0, .ref a1, .ref a2, .long ow, .long off, .long go])), (a0, .inl (c0, 24, .inl (ck_bz (bt (ck_uH (ck_ivk (nI jx) a b) hd (nI jx)))))), (a1, .inl (c1, 24, .inr (.inl (ck_uL (ck_ivk (nI jx) a b) lo (nI jx) a)))), (a2, .inl (c2, 24, .inr (.inl (ck_uL (ck_ivk (nI jx) a b) hi (nI jx) b))))] := by rw [← hw_zs, ← hw_lo, ← hw_hi]; exact hD
        have hres : 0 = (ck_b (ck_ivk (nI jx) a b)) := by simp [ck_ivk, ck_b, c_1, hcjx, c_2, c_3]
        exact W.zret (ty := .boolean) (v := 0) hx hb hr rfl (fun t ht _ => ⟨congrArg (fun z => Outcome.returned (some (Value.int z))) hres, by rw [ht]; exact hP9, hD9, hS.F ht⟩) hS.2.2 dX1_interval_32
      · rw [lg_cmp_gt] at c_3
        refine lv_lload hx hb dX1_interval_22 (lv_at hl 3 rfl) ?_
        refine lv_ldc2 (v := ck_FAR) hx hb hown (hts (.constantLong RX1 26 ck_FAR) (by decide +kernel)) dX1_interval_24 ?_
        refine W.lcmp hx hb dX1_interval_27 ?_
        refine lv_if_le (tgt := 33) hx hb dX1_interval_28 (by decide) (fun c_4 => ?_) (fun c_4 => ?_)
        · rw [lg_cmp_le] at c_4
          refine lv_aload_n hx hb dX1_interval_33 rfl (lv_at hl 0 rfl) ?_
          refine va_get (D := D) (ci := 1) (v := .ref a0) (C := RX1) (T := TX1) (N := 6) hx hb hts hin hown hK hP 0 rfl rfl 0 (by decide) (hts (.fieldLink RX1 7 "ClockDeskModel" "is" "[Z") (by decide +kernel)) (fun _ h9 => h9) rfl dX1_interval_34 ?_
          refine lv_iload_n hx hb dX1_interval_37 rfl (lv_at hl 1 rfl) ?_
          refine lv_iconst (v := 1) hx hb dX1_interval_38 (by decide) ?_
          refine ck_zast hx hb hK hP hD hS 1 0 rfl rfl (i := jx) (x := 1) hjx rfl dX1_interval_39 (fun H locs hP hD hS => ?_)
          have hP : va_P D vwCl [(h, .inr (1, [.ref a0, .ref a1, .ref a2, .long ow, .long off, .long go])), (a0, .inl (c0, 24, .inl (upd (ck_bz (bt hd)) jx 1))), (a1, .inl (c1, 24, .inr (.inl lo))), (a2, .inl (c2, 24, .inr (.inl hi)))] H := hP
          have hD : va_D A [(h, .inr (1, [.ref a0, .ref a1, .ref a2, .long ow, .long off, .long go])), (a0, .inl (c0, 24, .inl (upd (ck_bz (bt hd)) jx 1))), (a1, .inl (c1, 24, .inr (.inl lo))), (a2, .inl (c2, 24, .inr (.inl hi)))] := hD
          refine lv_aload_n hx hb dX1_interval_40 rfl (lv_at hl 0 rfl) ?_
          refine va_get (D := D) (ci := 1) (v := .ref a1) (C := RX1) (T := TX1) (N := 6) hx hb hts hin hown hK hP 0 rfl rfl 1 (by decide) (hts (.fieldLink RX1 13 "ClockDeskModel" "low" "[J") (by decide +kernel)) (fun _ h9 => h9) rfl dX1_interval_41 ?_
          refine lv_iload_n hx hb dX1_interval_44 rfl (lv_at hl 1 rfl) ?_
          refine lv_lload_n hx hb dX1_interval_45 rfl (lv_at hl 2 rfl) ?_
          refine ck_last hx hb hK hP hD hS 2 1 rfl rfl (i := jx) (x := a) hjx dX1_interval_46 (fun H locs hP hD hS => ?_)
          have hP : va_P D vwCl [(h, .inr (1, [.ref a0, .ref a1, .ref a2, .long ow, .long off, .long go])), (a0, .inl (c0, 24, .inl (upd (ck_bz (bt hd)) jx 1))), (a1, .inl (c1, 24, .inr (.inl (vp_updL lo jx a)))), (a2, .inl (c2, 24, .inr (.inl hi)))] H := hP
          have hD : va_D A [(h, .inr (1, [.ref a0, .ref a1, .ref a2, .long ow, .long off, .long go])), (a0, .inl (c0, 24, .inl (upd (ck_bz (bt hd)) jx 1))), (a1, .inl (c1, 24, .inr (.inl (vp_updL lo jx a)))), (a2, .inl (c2, 24, .inr (.inl hi)))] := hD
          refine lv_aload_n hx hb dX1_interval_47 rfl (lv_at hl 0 rfl) ?_
          refine va_get (D := D) (ci := 1) (v := .ref a2) (C := RX1) (T := TX1) (N := 6) hx hb hts hin hown hK hP 0 rfl rfl 2 (by decide) (hts (.fieldLink RX1 17 "ClockDeskModel" "high" "[J") (by decide +kernel)) (fun _ h9 => h9) rfl dX1_interval_48 ?_
          refine lv_iload_n hx hb dX1_interval_51 rfl (lv_at hl 1 rfl) ?_
          refine lv_lload hx hb dX1_interval_52 (lv_at hl 3 rfl) ?_
          refine ck_last hx hb hK hP hD hS 3 2 rfl rfl (i := jx) (x := b) hjx dX1_interval_54 (fun H locs hP hD hS => ?_)
          have hP : va_P D vwCl [(h, .inr (1, [.ref a0, .ref a1, .ref a2, .long ow, .long off, .long go])), (a0, .inl (c0, 24, .inl (upd (ck_bz (bt hd)) jx 1))), (a1, .inl (c1, 24, .inr (.inl (vp_updL lo jx a)))), (a2, .inl (c2, 24, .inr (.inl (vp_updL hi jx b))))] H := hP
          have hD : va_D A [(h, .inr (1, [.ref a0, .ref a1, .ref a2, .long ow, .long off, .long go])), (a0, .inl (c0, 24, .inl (upd (ck_bz (bt hd)) jx 1))), (a1, .inl (c1, 24, .inr (.inl (vp_updL lo jx a)))), (a2, .inl (c2, 24, .inr (.inl (vp_updL hi jx b))))] := hD
          refine lv_iconst (v := 1) hx hb dX1_interval_55 (by decide) ?_
          have hw_zs : (upd (ck_bz (bt hd)) jx 1) = (ck_bz (bt (ck_uH (ck_ivk (nI jx) a b) hd (nI jx)))) := by first | (rw [ck_bz_on hd hjx]; simp [ck_uH, ck_ivk, c_1, hcjx, c_2, c_3, c_4]; done) | (simp [ck_uH, ck_ivk, c_1, hcjx, c_2, c_3, c_4]; done)
          have hw_lo : (vp_updL lo jx a) = (ck_uL (ck_ivk (nI jx) a b) lo (nI jx) a) := by simp [ck_uL, ck_ivk, c_1, hcjx, c_2, c_3, c_4]
          have hw_hi : (vp_updL hi jx b) = (ck_uL (ck_ivk (nI jx) a b) hi (nI jx) b) := by simp [ck_uL, ck_ivk, c_1, hcjx, c_2, c_3, c_4]
          have hP9 : va_P D vwCl [(h, .inr (1, [.ref a0, .ref a1, .ref a2, .long ow, .long off, .long go])), (a0, .inl (c0, 24, .inl (ck_bz (bt (ck_uH (ck_ivk (nI jx) a b) hd (nI jx)))))), (a1, .inl (c1, 24, .inr (.inl (ck_uL (ck_ivk (nI jx) a b) lo (nI jx) a)))), (a2, .inl (c2, 24, .inr (.inl (ck_uL (ck_ivk (nI jx) a b) hi (nI jx) b))))] H := by rw [← hw_zs, ← hw_lo, ← hw_hi]; exact hP
          have hD9 : va_D A [(h, .inr (1, [.ref a0, .ref a1, .ref a2, .long ow, .long off, .long go])), (a0, .inl (c0, 24, .inl (ck_bz (bt (ck_uH (ck_ivk (nI jx) a b) hd (nI jx)))))), (a1, .inl (c1, 24, .inr (.inl (ck_uL (ck_ivk (nI jx) a b) lo (nI jx) a)))), (a2, .inl (c2, 24, .inr (.inl (ck_uL (ck_ivk (nI jx) a b) hi (nI jx) b))))] := by rw [← hw_zs, ← hw_lo, ← hw_hi]; exact hD
          have hres : 1 = (ck_b (ck_ivk (nI jx) a b)) := by simp [ck_ivk, ck_b, c_1, hcjx, c_2, c_3, c_4]
          exact W.zret (ty := .boolean) (v := 1) hx hb hr rfl (fun t ht _ => ⟨congrArg (fun z => Outcome.returned (some (Value.int z))) hres, by rw [ht]; exact hP9, hD9, hS.F ht⟩) hS.2.2 dX1_interval_56
        · rw [lg_cmp_le] at c_4
          refine lv_iconst (v := 0) hx hb dX1_interval_31 (by decide) ?_
          have hw_zs : (ck_bz (bt hd)) = (ck_bz (bt (ck_uH (ck_ivk (nI jx) a b) hd (nI jx)))) := by first | (rw [ck_bz_on hd hjx]; simp [ck_uH, ck_ivk, c_1, hcjx, c_2, c_3, c_4]; done) | (simp [ck_uH, ck_ivk, c_1, hcjx, c_2, c_3, c_4]; done)
          have hw_lo : lo = (ck_uL (ck_ivk (nI jx) a b) lo (nI jx) a) := by simp [ck_uL, ck_ivk, c_1, hcjx, c_2, c_3, c_4]
          have hw_hi : hi = (ck_uL (ck_ivk (nI jx) a b) hi (nI jx) b) := by simp [ck_uL, ck_ivk, c_1, hcjx, c_2, c_3, c_4]
          have hP9 : va_P D vwCl [(h, .inr (1, [.ref a0, .ref a1, .ref a2, .long ow, .long off, .long go])), (a0, .inl (c0, 24, .inl (ck_bz (bt (ck_uH (ck_ivk (nI jx) a b) hd (nI jx)))))), (a1, .inl (c1, 24, .inr (.inl (ck_uL (ck_ivk (nI jx) a b) lo (nI jx) a)))), (a2, .inl (c2, 24, .inr (.inl (ck_uL (ck_ivk (nI jx) a b) hi (nI jx) b))))] s.heap := by rw [← hw_zs, ← hw_lo, ← hw_hi]; exact hP
          have hD9 : va_D A [(h, .inr (1, [.ref a0, .ref a1, .ref a2, .long ow, .long off, .long go])), (a0, .inl (c0, 24, .inl (ck_bz (bt (ck_uH (ck_ivk (nI jx) a b) hd (nI jx)))))), (a1, .inl (c1, 24, .inr (.inl (ck_uL (ck_ivk (nI jx) a b) lo (nI jx) a)))), (a2, .inl (c2, 24, .inr (.inl (ck_uL (ck_ivk (nI jx) a b) hi (nI jx) b))))] := by rw [← hw_zs, ← hw_lo, ← hw_hi]; exact hD
          have hres : 0 = (ck_b (ck_ivk (nI jx) a b)) := by simp [ck_ivk, ck_b, c_1, hcjx, c_2, c_3, c_4]
          exact W.zret (ty := .boolean) (v := 0) hx hb hr rfl (fun t ht _ => ⟨congrArg (fun z => Outcome.returned (some (Value.int z))) hres, by rw [ht]; exact hP9, hD9, hS.F ht⟩) hS.2.2 dX1_interval_32

set_option maxHeartbeats 4000000 in
set_option maxRecDepth 100000 in
theorem c_X1_exchange (l : Launch) (D : va_G) (h a0 a1 a2 : Nat) (c0 c1 c2 : ClassId) (lo hi : Nat → Int64) (hd : Int32) (ow off go : Int64) (inv : ck_inv hd lo hi) (sz : Nat) (x : Int32) (sn : Int64) (td : Int64) (cm : Int64)  : Met l yX1_exchange wsX1_exchange { frames := 1, cells := 0, slots := 0, locals := 21 } (va_Pc [.ref h, .int x, .long sn, .long td, .long cm] (ck_Cw D [(h, .inr (1, [.ref a0, .ref a1, .ref a2, .long ow, .long off, .long go])), (a0, .inl (c0, 24, .inl (ck_bz (bt hd)))), (a1, .inl (c1, 24, .inr (.inl lo))), (a2, .inl (c2, 24, .inr (.inl hi)))] (mT c0 c1 c2) sz)) (ck_Wr (some (.long (ck_exv x sn td cm))) D [(h, .inr (1, [.ref a0, .ref a1, .ref a2, .long ow, .long off, .long go])), (a0, .inl (c0, 24, .inl (ck_bz (bt (ck_uH (ck_exk x sn td cm) hd x))))), (a1, .inl (c1, 24, .inr (.inl (ck_uL (ck_exk x sn td cm) lo x (td - cm))))), (a2, .inl (c2, 24, .inr (.inl (ck_uL (ck_exk x sn td cm) hi x (td - sn)))))] (va_A [(h, .inr (1, [.ref a0, .ref a1, .ref a2, .long ow, .long off, .long go])), (a0, .inl (c0, 24, .inl (ck_bz (bt hd)))), (a1, .inl (c1, 24, .inr (.inl lo))), (a2, .inl (c2, 24, .inr (.inl hi)))] sz)) 0 0 (va_A [(h, .inr (1, [.ref a0, .ref a1, .ref a2, .long ow, .long off, .long go])), (a0, .inl (c0, 24, .inl (ck_bz (bt hd)))), (a1, .inl (c1, 24, .inr (.inl lo))), (a2, .inl (c2, 24, .inr (.inl hi)))] sz) := by
  refine Met.ofW (cc := cX1_exchange) (maxL := 8) (ret := (some .long)) (by decide) rfl ?_
  intro p e s m args below meth c s₁ B hml hv
  obtain ⟨rfl, hsz, hP, hK, hD0⟩ := hv
  have hx := B.exec
  have hb := B.bytes
  have hr := B.returns
  have hts := atoms_spec (ws := wsX1_exchange) B.pre
  have hown : s.vm.findClass RX1 = some m.cls := findClass_of_methodNamed B.named
  have hlocks := B.notSynchronized
  have hin : ∀ w ∈ wsX10, w ∈ wsX1_exchange := fun _ h => List.mem_cons_of_mem _ (List.mem_append_right _ h)
  subst hsz
  have hD := hD0.self (sz := s.heap.size)
  generalize hAe : va_A [(h, .inr (1, [.ref a0, .ref a1, .ref a2, .long ow, .long off, .long go])), (a0, .inl (c0, 24, .inl (ck_bz (bt hd)))), (a1, .inl (c1, 24, .inr (.inl lo))), (a2, .inl (c2, 24, .inr (.inl hi)))] s.heap.size = A at hD ⊢
  have hA : ∀ q : Nat, s.heap.size ≤ q → A q := fun q h => by rw [← hAe]; exact Or.inr h
  have hS : va_S A s.heap s.heap [] := va_S.rf
  have hl := lv_entry ([.ref h, .int x, .long sn, .long td, .long cm]) (n := 8) (Nat.le_of_ble_eq_true rfl)
  rw [lg_entry_eq]
  generalize (lg_sl ([.ref h, .int x, .long sn, .long td, .long cm]) ++ List.replicate (8 - (lg_sl ([.ref h, .int x, .long sn, .long td, .long cm])).length) Slot.unset).toArray = ls at hl ⊢
  have hl : lv_has ls 8 [(0, .ref h), (1, .int x), (2, .long sn), (4, .long td), (6, .long cm)] := hl
  refine lv_iload_n hx hb dX1_exchange_0 rfl (lv_at hl 1 rfl) ?_
  refine ck_cS (As := [.int x]) (rest := []) ⟨hx, hb, hml, hown, hts⟩ (c_X1_isSource l x) (va_cwS 1 hts gX1_exchange_X1_isSource rfl rfl rfl (by decide +kernel) ⟨Nat.le_of_ble_eq_true rfl, Nat.le_of_ble_eq_true rfl⟩) rfl hl.1 rfl (Nat.le_of_ble_eq_true rfl) dX1_exchange_1 ⟨Nat.le_of_ble_eq_true rfl, Nat.le_of_ble_eq_true rfl⟩ ?_
  refine lv_if_eq (tgt := 45) hx hb dX1_exchange_4 (by decide) (fun c_1 => ?_) (fun c_1 => ?_)
  · have c_1 := ck_bf c_1
    refine lv_ldc2 (v := ck_NO) hx hb hown (hts (.constantLong RX1 30 ck_NO) (by decide +kernel)) dX1_exchange_45 ?_
    have hw_zs : (ck_bz (bt hd)) = (ck_bz (bt (ck_uH (ck_exk x sn td cm) hd x))) := by first | (rw [ck_bz_on hd hjx, ck_exkE]; simp [ck_uH, ck_exm, c_1]; done) | (rw [ck_exkE]; simp [ck_uH, ck_exm, c_1]; done)
    have hw_lo : lo = (ck_uL (ck_exk x sn td cm) lo x (td - cm)) := by rw [ck_exkE]; simp [ck_uL, ck_exm, c_1]
    have hw_hi : hi = (ck_uL (ck_exk x sn td cm) hi x (td - sn)) := by rw [ck_exkE]; simp [ck_uL, ck_exm, c_1]
    have hP9 : va_P D vwCl [(h, .inr (1, [.ref a0, .ref a1, .ref a2, .long ow, .long off, .long go])), (a0, .inl (c0, 24, .inl (ck_bz (bt (ck_uH (ck_exk x sn td cm) hd x))))), (a1, .inl (c1, 24, .inr (.inl (ck_uL (ck_exk x sn td cm) lo x (td - cm))))), (a2, .inl (c2, 24, .inr (.inl (ck_uL (ck_exk x sn td cm) hi x (td - sn)))))] s.heap := by rw [← hw_zs, ← hw_lo, ← hw_hi]; exact hP
    have hD9 : va_D A [(h, .inr (1, [.ref a0, .ref a1, .ref a2, .long ow, .long off, .long go])), (a0, .inl (c0, 24, .inl (ck_bz (bt (ck_uH (ck_exk x sn td cm) hd x))))), (a1, .inl (c1, 24, .inr (.inl (ck_uL (ck_exk x sn td cm) lo x (td - cm))))), (a2, .inl (c2, 24, .inr (.inl (ck_uL (ck_exk x sn td cm) hi x (td - sn)))))] := by rw [← hw_zs, ← hw_lo, ← hw_hi]; exact hD
    have hres : ck_NO = (ck_exv x sn td cm) := by rw [ck_exv, ck_exkE]; simp [ck_exm, c_1]
    exact W.lret (v := ck_NO) hx hb hr (fun t ht _ => ⟨congrArg (fun z => Outcome.returned (some (Value.long z))) hres, by rw [ht]; exact hP9, hD9, hS.F ht⟩) hS.2.2 dX1_exchange_48
  · have c_1 := ck_bt c_1
    obtain ⟨jx, hjx, rfl⟩ := ck_srcE c_1
    have hcjx : (nI jx).toNatClampNeg = jx := nI_clamp (by omega)
    refine lv_lload_n hx hb dX1_exchange_7 rfl (lv_at hl 2 rfl) ?_
    refine lv_lconst (v := 0) hx hb dX1_exchange_8 (by decide) ?_
    refine W.lcmp hx hb dX1_exchange_9 ?_
    refine lv_if_lt (tgt := 45) hx hb dX1_exchange_10 (by decide) (fun c_2 => ?_) (fun c_2 => ?_)
    · rw [lg_cmp_lt] at c_2
      refine lv_ldc2 (v := ck_NO) hx hb hown (hts (.constantLong RX1 30 ck_NO) (by decide +kernel)) dX1_exchange_45 ?_
      have hw_zs : (ck_bz (bt hd)) = (ck_bz (bt (ck_uH (ck_exk (nI jx) sn td cm) hd (nI jx)))) := by first | (rw [ck_bz_on hd hjx, ck_exkE]; simp [ck_uH, ck_exm, c_1, hcjx, c_2]; done) | (rw [ck_exkE]; simp [ck_uH, ck_exm, c_1, hcjx, c_2]; done)
      have hw_lo : lo = (ck_uL (ck_exk (nI jx) sn td cm) lo (nI jx) (td - cm)) := by rw [ck_exkE]; simp [ck_uL, ck_exm, c_1, hcjx, c_2]
      have hw_hi : hi = (ck_uL (ck_exk (nI jx) sn td cm) hi (nI jx) (td - sn)) := by rw [ck_exkE]; simp [ck_uL, ck_exm, c_1, hcjx, c_2]
      have hP9 : va_P D vwCl [(h, .inr (1, [.ref a0, .ref a1, .ref a2, .long ow, .long off, .long go])), (a0, .inl (c0, 24, .inl (ck_bz (bt (ck_uH (ck_exk (nI jx) sn td cm) hd (nI jx)))))), (a1, .inl (c1, 24, .inr (.inl (ck_uL (ck_exk (nI jx) sn td cm) lo (nI jx) (td - cm))))), (a2, .inl (c2, 24, .inr (.inl (ck_uL (ck_exk (nI jx) sn td cm) hi (nI jx) (td - sn)))))] s.heap := by rw [← hw_zs, ← hw_lo, ← hw_hi]; exact hP
      have hD9 : va_D A [(h, .inr (1, [.ref a0, .ref a1, .ref a2, .long ow, .long off, .long go])), (a0, .inl (c0, 24, .inl (ck_bz (bt (ck_uH (ck_exk (nI jx) sn td cm) hd (nI jx)))))), (a1, .inl (c1, 24, .inr (.inl (ck_uL (ck_exk (nI jx) sn td cm) lo (nI jx) (td - cm))))), (a2, .inl (c2, 24, .inr (.inl (ck_uL (ck_exk (nI jx) sn td cm) hi (nI jx) (td - sn)))))] := by rw [← hw_zs, ← hw_lo, ← hw_hi]; exact hD
      have hres : ck_NO = (ck_exv (nI jx) sn td cm) := by rw [ck_exv, ck_exkE]; simp [ck_exm, c_1, hcjx, c_2]
      exact W.lret (v := ck_NO) hx hb hr (fun t ht _ => ⟨congrArg (fun z => Outcome.returned (some (Value.long z))) hres, by rw [ht]; exact hP9, hD9, hS.F ht⟩) hS.2.2 dX1_exchange_48
    · rw [lg_cmp_lt] at c_2
      refine lv_lload_n hx hb dX1_exchange_13 rfl (lv_at hl 2 rfl) ?_
      refine lv_lload hx hb dX1_exchange_14 (lv_at hl 4 rfl) ?_
      refine W.lcmp hx hb dX1_exchange_16 ?_
      refine lv_if_gt (tgt := 45) hx hb dX1_exchange_17 (by decide) (fun c_3 => ?_) (fun c_3 => ?_)
      · rw [lg_cmp_gt] at c_3
        refine lv_ldc2 (v := ck_NO) hx hb hown (hts (.constantLong RX1 30 ck_NO) (by decide +kernel)) dX1_exchange_45 ?_
        have hw_zs : (ck_bz (bt hd)) = (ck_bz (bt (ck_uH (ck_exk (nI jx) sn td cm) hd (nI jx)))) := by first | (rw [ck_bz_on hd hjx, ck_exkE]; simp [ck_uH, ck_exm, c_1, hcjx, c_2, c_3]; done) | (rw [ck_exkE]; simp [ck_uH, ck_exm, c_1, hcjx, c_2, c_3]; done)
        have hw_lo : lo = (ck_uL (ck_exk (nI jx) sn td cm) lo (nI jx) (td - cm)) := by rw [ck_exkE]; simp [ck_uL, ck_exm, c_1, hcjx, c_2, c_3]
        have hw_hi : hi = (ck_uL (ck_exk (nI jx) sn td cm) hi (nI jx) (td - sn)) := by rw [ck_exkE]; simp [ck_uL, ck_exm, c_1, hcjx, c_2, c_3]
        have hP9 : va_P D vwCl [(h, .inr (1, [.ref a0, .ref a1, .ref a2, .long ow, .long off, .long go])), (a0, .inl (c0, 24, .inl (ck_bz (bt (ck_uH (ck_exk (nI jx) sn td cm) hd (nI jx)))))), (a1, .inl (c1, 24, .inr (.inl (ck_uL (ck_exk (nI jx) sn td cm) lo (nI jx) (td - cm))))), (a2, .inl (c2, 24, .inr (.inl (ck_uL (ck_exk (nI jx) sn td cm) hi (nI jx) (td - sn)))))] s.heap := by rw [← hw_zs, ← hw_lo, ← hw_hi]; exact hP
        have hD9 : va_D A [(h, .inr (1, [.ref a0, .ref a1, .ref a2, .long ow, .long off, .long go])), (a0, .inl (c0, 24, .inl (ck_bz (bt (ck_uH (ck_exk (nI jx) sn td cm) hd (nI jx)))))), (a1, .inl (c1, 24, .inr (.inl (ck_uL (ck_exk (nI jx) sn td cm) lo (nI jx) (td - cm))))), (a2, .inl (c2, 24, .inr (.inl (ck_uL (ck_exk (nI jx) sn td cm) hi (nI jx) (td - sn)))))] := by rw [← hw_zs, ← hw_lo, ← hw_hi]; exact hD
        have hres : ck_NO = (ck_exv (nI jx) sn td cm) := by rw [ck_exv, ck_exkE]; simp [ck_exm, c_1, hcjx, c_2, c_3]
        exact W.lret (v := ck_NO) hx hb hr (fun t ht _ => ⟨congrArg (fun z => Outcome.returned (some (Value.long z))) hres, by rw [ht]; exact hP9, hD9, hS.F ht⟩) hS.2.2 dX1_exchange_48
      · rw [lg_cmp_gt] at c_3
        refine lv_lload hx hb dX1_exchange_20 (lv_at hl 4 rfl) ?_
        refine lv_ldc2 (v := ck_TIME) hx hb hown (hts (.constantLong RX1 28 ck_TIME) (by decide +kernel)) dX1_exchange_22 ?_
        refine W.lcmp hx hb dX1_exchange_25 ?_
        refine lv_if_gt (tgt := 45) hx hb dX1_exchange_26 (by decide) (fun c_4 => ?_) (fun c_4 => ?_)
        · rw [lg_cmp_gt] at c_4
          refine lv_ldc2 (v := ck_NO) hx hb hown (hts (.constantLong RX1 30 ck_NO) (by decide +kernel)) dX1_exchange_45 ?_
          have hw_zs : (ck_bz (bt hd)) = (ck_bz (bt (ck_uH (ck_exk (nI jx) sn td cm) hd (nI jx)))) := by first | (rw [ck_bz_on hd hjx, ck_exkE]; simp [ck_uH, ck_exm, c_1, hcjx, c_2, c_3, c_4]; done) | (rw [ck_exkE]; simp [ck_uH, ck_exm, c_1, hcjx, c_2, c_3, c_4]; done)
          have hw_lo : lo = (ck_uL (ck_exk (nI jx) sn td cm) lo (nI jx) (td - cm)) := by rw [ck_exkE]; simp [ck_uL, ck_exm, c_1, hcjx, c_2, c_3, c_4]
          have hw_hi : hi = (ck_uL (ck_exk (nI jx) sn td cm) hi (nI jx) (td - sn)) := by rw [ck_exkE]; simp [ck_uL, ck_exm, c_1, hcjx, c_2, c_3, c_4]
          have hP9 : va_P D vwCl [(h, .inr (1, [.ref a0, .ref a1, .ref a2, .long ow, .long off, .long go])), (a0, .inl (c0, 24, .inl (ck_bz (bt (ck_uH (ck_exk (nI jx) sn td cm) hd (nI jx)))))), (a1, .inl (c1, 24, .inr (.inl (ck_uL (ck_exk (nI jx) sn td cm) lo (nI jx) (td - cm))))), (a2, .inl (c2, 24, .inr (.inl (ck_uL (ck_exk (nI jx) sn td cm) hi (nI jx) (td - sn)))))] s.heap := by rw [← hw_zs, ← hw_lo, ← hw_hi]; exact hP
          have hD9 : va_D A [(h, .inr (1, [.ref a0, .ref a1, .ref a2, .long ow, .long off, .long go])), (a0, .inl (c0, 24, .inl (ck_bz (bt (ck_uH (ck_exk (nI jx) sn td cm) hd (nI jx)))))), (a1, .inl (c1, 24, .inr (.inl (ck_uL (ck_exk (nI jx) sn td cm) lo (nI jx) (td - cm))))), (a2, .inl (c2, 24, .inr (.inl (ck_uL (ck_exk (nI jx) sn td cm) hi (nI jx) (td - sn)))))] := by rw [← hw_zs, ← hw_lo, ← hw_hi]; exact hD
          have hres : ck_NO = (ck_exv (nI jx) sn td cm) := by rw [ck_exv, ck_exkE]; simp [ck_exm, c_1, hcjx, c_2, c_3, c_4]
          exact W.lret (v := ck_NO) hx hb hr (fun t ht _ => ⟨congrArg (fun z => Outcome.returned (some (Value.long z))) hres, by rw [ht]; exact hP9, hD9, hS.F ht⟩) hS.2.2 dX1_exchange_48
        · rw [lg_cmp_gt] at c_4
          refine lv_lload hx hb dX1_exchange_29 (lv_at hl 3 rfl) ?_
          refine lv_lconst (v := 0) hx hb dX1_exchange_31 (by decide) ?_
          refine W.lcmp hx hb dX1_exchange_32 ?_
          refine lv_if_lt (tgt := 45) hx hb dX1_exchange_33 (by decide) (fun c_5 => ?_) (fun c_5 => ?_)
          · rw [lg_cmp_lt] at c_5
            refine lv_ldc2 (v := ck_NO) hx hb hown (hts (.constantLong RX1 30 ck_NO) (by decide +kernel)) dX1_exchange_45 ?_
            have hw_zs : (ck_bz (bt hd)) = (ck_bz (bt (ck_uH (ck_exk (nI jx) sn td cm) hd (nI jx)))) := by first | (rw [ck_bz_on hd hjx, ck_exkE]; simp [ck_uH, ck_exm, c_1, hcjx, c_2, c_3, c_4, c_5]; done) | (rw [ck_exkE]; simp [ck_uH, ck_exm, c_1, hcjx, c_2, c_3, c_4, c_5]; done)
            have hw_lo : lo = (ck_uL (ck_exk (nI jx) sn td cm) lo (nI jx) (td - cm)) := by rw [ck_exkE]; simp [ck_uL, ck_exm, c_1, hcjx, c_2, c_3, c_4, c_5]
            have hw_hi : hi = (ck_uL (ck_exk (nI jx) sn td cm) hi (nI jx) (td - sn)) := by rw [ck_exkE]; simp [ck_uL, ck_exm, c_1, hcjx, c_2, c_3, c_4, c_5]
            have hP9 : va_P D vwCl [(h, .inr (1, [.ref a0, .ref a1, .ref a2, .long ow, .long off, .long go])), (a0, .inl (c0, 24, .inl (ck_bz (bt (ck_uH (ck_exk (nI jx) sn td cm) hd (nI jx)))))), (a1, .inl (c1, 24, .inr (.inl (ck_uL (ck_exk (nI jx) sn td cm) lo (nI jx) (td - cm))))), (a2, .inl (c2, 24, .inr (.inl (ck_uL (ck_exk (nI jx) sn td cm) hi (nI jx) (td - sn)))))] s.heap := by rw [← hw_zs, ← hw_lo, ← hw_hi]; exact hP
            have hD9 : va_D A [(h, .inr (1, [.ref a0, .ref a1, .ref a2, .long ow, .long off, .long go])), (a0, .inl (c0, 24, .inl (ck_bz (bt (ck_uH (ck_exk (nI jx) sn td cm) hd (nI jx)))))), (a1, .inl (c1, 24, .inr (.inl (ck_uL (ck_exk (nI jx) sn td cm) lo (nI jx) (td - cm))))), (a2, .inl (c2, 24, .inr (.inl (ck_uL (ck_exk (nI jx) sn td cm) hi (nI jx) (td - sn)))))] := by rw [← hw_zs, ← hw_lo, ← hw_hi]; exact hD
            have hres : ck_NO = (ck_exv (nI jx) sn td cm) := by rw [ck_exv, ck_exkE]; simp [ck_exm, c_1, hcjx, c_2, c_3, c_4, c_5]
            exact W.lret (v := ck_NO) hx hb hr (fun t ht _ => ⟨congrArg (fun z => Outcome.returned (some (Value.long z))) hres, by rw [ht]; exact hP9, hD9, hS.F ht⟩) hS.2.2 dX1_exchange_48
          · rw [lg_cmp_lt] at c_5
            refine lv_lload hx hb dX1_exchange_36 (lv_at hl 3 rfl) ?_
            refine lv_ldc2 (v := ck_TIME) hx hb hown (hts (.constantLong RX1 28 ck_TIME) (by decide +kernel)) dX1_exchange_38 ?_
            refine W.lcmp hx hb dX1_exchange_41 ?_
            refine lv_if_le (tgt := 49) hx hb dX1_exchange_42 (by decide) (fun c_6 => ?_) (fun c_6 => ?_)
            · rw [lg_cmp_le] at c_6
              refine lv_aload_n hx hb dX1_exchange_49 rfl (lv_at hl 0 rfl) ?_
              refine va_get (D := D) (ci := 1) (v := .ref a0) (C := RX1) (T := TX1) (N := 6) hx hb hts hin hown hK hP 0 rfl rfl 0 (by decide) (hts (.fieldLink RX1 7 "ClockDeskModel" "is" "[Z") (by decide +kernel)) (fun _ h9 => h9) rfl dX1_exchange_50 ?_
              refine lv_iload_n hx hb dX1_exchange_53 rfl (lv_at hl 1 rfl) ?_
              refine lv_iconst (v := 1) hx hb dX1_exchange_54 (by decide) ?_
              refine ck_zast hx hb hK hP hD hS 1 0 rfl rfl (i := jx) (x := 1) hjx rfl dX1_exchange_55 (fun H locs hP hD hS => ?_)
              have hP : va_P D vwCl [(h, .inr (1, [.ref a0, .ref a1, .ref a2, .long ow, .long off, .long go])), (a0, .inl (c0, 24, .inl (upd (ck_bz (bt hd)) jx 1))), (a1, .inl (c1, 24, .inr (.inl lo))), (a2, .inl (c2, 24, .inr (.inl hi)))] H := hP
              have hD : va_D A [(h, .inr (1, [.ref a0, .ref a1, .ref a2, .long ow, .long off, .long go])), (a0, .inl (c0, 24, .inl (upd (ck_bz (bt hd)) jx 1))), (a1, .inl (c1, 24, .inr (.inl lo))), (a2, .inl (c2, 24, .inr (.inl hi)))] := hD
              refine lv_aload_n hx hb dX1_exchange_56 rfl (lv_at hl 0 rfl) ?_
              refine va_get (D := D) (ci := 1) (v := .ref a1) (C := RX1) (T := TX1) (N := 6) hx hb hts hin hown hK hP 0 rfl rfl 1 (by decide) (hts (.fieldLink RX1 13 "ClockDeskModel" "low" "[J") (by decide +kernel)) (fun _ h9 => h9) rfl dX1_exchange_57 ?_
              refine lv_iload_n hx hb dX1_exchange_60 rfl (lv_at hl 1 rfl) ?_
              refine lv_lload hx hb dX1_exchange_61 (lv_at hl 3 rfl) ?_
              refine lv_lload hx hb dX1_exchange_63 (lv_at hl 4 rfl) ?_
              refine lv_lsub hx hb dX1_exchange_65 ?_
              refine ck_last hx hb hK hP hD hS 2 1 rfl rfl (i := jx) (x := (td - cm)) hjx dX1_exchange_66 (fun H locs hP hD hS => ?_)
              have hP : va_P D vwCl [(h, .inr (1, [.ref a0, .ref a1, .ref a2, .long ow, .long off, .long go])), (a0, .inl (c0, 24, .inl (upd (ck_bz (bt hd)) jx 1))), (a1, .inl (c1, 24, .inr (.inl (vp_updL lo jx (td - cm))))), (a2, .inl (c2, 24, .inr (.inl hi)))] H := hP
              have hD : va_D A [(h, .inr (1, [.ref a0, .ref a1, .ref a2, .long ow, .long off, .long go])), (a0, .inl (c0, 24, .inl (upd (ck_bz (bt hd)) jx 1))), (a1, .inl (c1, 24, .inr (.inl (vp_updL lo jx (td - cm))))), (a2, .inl (c2, 24, .inr (.inl hi)))] := hD
              refine lv_aload_n hx hb dX1_exchange_67 rfl (lv_at hl 0 rfl) ?_
              refine va_get (D := D) (ci := 1) (v := .ref a2) (C := RX1) (T := TX1) (N := 6) hx hb hts hin hown hK hP 0 rfl rfl 2 (by decide) (hts (.fieldLink RX1 17 "ClockDeskModel" "high" "[J") (by decide +kernel)) (fun _ h9 => h9) rfl dX1_exchange_68 ?_
              refine lv_iload_n hx hb dX1_exchange_71 rfl (lv_at hl 1 rfl) ?_
              refine lv_lload hx hb dX1_exchange_72 (lv_at hl 3 rfl) ?_
              refine lv_lload_n hx hb dX1_exchange_74 rfl (lv_at hl 2 rfl) ?_
              refine lv_lsub hx hb dX1_exchange_75 ?_
              refine ck_last hx hb hK hP hD hS 3 2 rfl rfl (i := jx) (x := (td - sn)) hjx dX1_exchange_76 (fun H locs hP hD hS => ?_)
              have hP : va_P D vwCl [(h, .inr (1, [.ref a0, .ref a1, .ref a2, .long ow, .long off, .long go])), (a0, .inl (c0, 24, .inl (upd (ck_bz (bt hd)) jx 1))), (a1, .inl (c1, 24, .inr (.inl (vp_updL lo jx (td - cm))))), (a2, .inl (c2, 24, .inr (.inl (vp_updL hi jx (td - sn)))))] H := hP
              have hD : va_D A [(h, .inr (1, [.ref a0, .ref a1, .ref a2, .long ow, .long off, .long go])), (a0, .inl (c0, 24, .inl (upd (ck_bz (bt hd)) jx 1))), (a1, .inl (c1, 24, .inr (.inl (vp_updL lo jx (td - cm))))), (a2, .inl (c2, 24, .inr (.inl (vp_updL hi jx (td - sn)))))] := hD
              refine lv_lload hx hb dX1_exchange_77 (lv_at hl 3 rfl) ?_
              refine lv_lload hx hb dX1_exchange_79 (lv_at hl 4 rfl) ?_
              refine lv_lload_n hx hb dX1_exchange_81 rfl (lv_at hl 2 rfl) ?_
              refine lv_lsub hx hb dX1_exchange_82 ?_
              refine ck_cS (As := [.long (cm - sn)]) (rest := [.long td]) ⟨hx, hb, hml, hown, hts⟩ (c_X1_half l (cm - sn)) (va_cwS 1 hts gX1_exchange_X1_half rfl rfl rfl (by decide +kernel) ⟨Nat.le_of_ble_eq_true rfl, Nat.le_of_ble_eq_true rfl⟩) rfl hl.1 rfl (Nat.le_of_ble_eq_true rfl) dX1_exchange_83 ⟨Nat.le_of_ble_eq_true rfl, Nat.le_of_ble_eq_true rfl⟩ ?_
              refine lv_ladd hx hb dX1_exchange_86 ?_
              refine lv_lload hx hb dX1_exchange_87 (lv_at hl 4 rfl) ?_
              refine lv_lsub hx hb dX1_exchange_89 ?_
              have hw_zs : (upd (ck_bz (bt hd)) jx 1) = (ck_bz (bt (ck_uH (ck_exk (nI jx) sn td cm) hd (nI jx)))) := by first | (rw [ck_bz_on hd hjx, ck_exkE]; simp [ck_uH, ck_exm, c_1, hcjx, c_2, c_3, c_4, c_5, c_6]; done) | (rw [ck_exkE]; simp [ck_uH, ck_exm, c_1, hcjx, c_2, c_3, c_4, c_5, c_6]; done)
              have hw_lo : (vp_updL lo jx (td - cm)) = (ck_uL (ck_exk (nI jx) sn td cm) lo (nI jx) (td - cm)) := by rw [ck_exkE]; simp [ck_uL, ck_exm, c_1, hcjx, c_2, c_3, c_4, c_5, c_6]
              have hw_hi : (vp_updL hi jx (td - sn)) = (ck_uL (ck_exk (nI jx) sn td cm) hi (nI jx) (td - sn)) := by rw [ck_exkE]; simp [ck_uL, ck_exm, c_1, hcjx, c_2, c_3, c_4, c_5, c_6]
              have hP9 : va_P D vwCl [(h, .inr (1, [.ref a0, .ref a1, .ref a2, .long ow, .long off, .long go])), (a0, .inl (c0, 24, .inl (ck_bz (bt (ck_uH (ck_exk (nI jx) sn td cm) hd (nI jx)))))), (a1, .inl (c1, 24, .inr (.inl (ck_uL (ck_exk (nI jx) sn td cm) lo (nI jx) (td - cm))))), (a2, .inl (c2, 24, .inr (.inl (ck_uL (ck_exk (nI jx) sn td cm) hi (nI jx) (td - sn)))))] H := by rw [← hw_zs, ← hw_lo, ← hw_hi]; exact hP
              have hD9 : va_D A [(h, .inr (1, [.ref a0, .ref a1, .ref a2, .long ow, .long off, .long go])), (a0, .inl (c0, 24, .inl (ck_bz (bt (ck_uH (ck_exk (nI jx) sn td cm) hd (nI jx)))))), (a1, .inl (c1, 24, .inr (.inl (ck_uL (ck_exk (nI jx) sn td cm) lo (nI jx) (td - cm))))), (a2, .inl (c2, 24, .inr (.inl (ck_uL (ck_exk (nI jx) sn td cm) hi (nI jx) (td - sn)))))] := by rw [← hw_zs, ← hw_lo, ← hw_hi]; exact hD
              have hres : ((td + (ck_half (cm - sn))) - cm) = (ck_exv (nI jx) sn td cm) := by rw [ck_exv, ck_exkE]; simp [ck_exm, c_1, hcjx, c_2, c_3, c_4, c_5, c_6]
              exact W.lret (v := ((td + (ck_half (cm - sn))) - cm)) hx hb hr (fun t ht _ => ⟨congrArg (fun z => Outcome.returned (some (Value.long z))) hres, by rw [ht]; exact hP9, hD9, hS.F ht⟩) hS.2.2 dX1_exchange_90
            · rw [lg_cmp_le] at c_6
              refine lv_ldc2 (v := ck_NO) hx hb hown (hts (.constantLong RX1 30 ck_NO) (by decide +kernel)) dX1_exchange_45 ?_
              have hw_zs : (ck_bz (bt hd)) = (ck_bz (bt (ck_uH (ck_exk (nI jx) sn td cm) hd (nI jx)))) := by first | (rw [ck_bz_on hd hjx, ck_exkE]; simp [ck_uH, ck_exm, c_1, hcjx, c_2, c_3, c_4, c_5, c_6]; done) | (rw [ck_exkE]; simp [ck_uH, ck_exm, c_1, hcjx, c_2, c_3, c_4, c_5, c_6]; done)
              have hw_lo : lo = (ck_uL (ck_exk (nI jx) sn td cm) lo (nI jx) (td - cm)) := by rw [ck_exkE]; simp [ck_uL, ck_exm, c_1, hcjx, c_2, c_3, c_4, c_5, c_6]
              have hw_hi : hi = (ck_uL (ck_exk (nI jx) sn td cm) hi (nI jx) (td - sn)) := by rw [ck_exkE]; simp [ck_uL, ck_exm, c_1, hcjx, c_2, c_3, c_4, c_5, c_6]
              have hP9 : va_P D vwCl [(h, .inr (1, [.ref a0, .ref a1, .ref a2, .long ow, .long off, .long go])), (a0, .inl (c0, 24, .inl (ck_bz (bt (ck_uH (ck_exk (nI jx) sn td cm) hd (nI jx)))))), (a1, .inl (c1, 24, .inr (.inl (ck_uL (ck_exk (nI jx) sn td cm) lo (nI jx) (td - cm))))), (a2, .inl (c2, 24, .inr (.inl (ck_uL (ck_exk (nI jx) sn td cm) hi (nI jx) (td - sn)))))] s.heap := by rw [← hw_zs, ← hw_lo, ← hw_hi]; exact hP
              have hD9 : va_D A [(h, .inr (1, [.ref a0, .ref a1, .ref a2, .long ow, .long off, .long go])), (a0, .inl (c0, 24, .inl (ck_bz (bt (ck_uH (ck_exk (nI jx) sn td cm) hd (nI jx)))))), (a1, .inl (c1, 24, .inr (.inl (ck_uL (ck_exk (nI jx) sn td cm) lo (nI jx) (td - cm))))), (a2, .inl (c2, 24, .inr (.inl (ck_uL (ck_exk (nI jx) sn td cm) hi (nI jx) (td - sn)))))] := by rw [← hw_zs, ← hw_lo, ← hw_hi]; exact hD
              have hres : ck_NO = (ck_exv (nI jx) sn td cm) := by rw [ck_exv, ck_exkE]; simp [ck_exm, c_1, hcjx, c_2, c_3, c_4, c_5, c_6]
              exact W.lret (v := ck_NO) hx hb hr (fun t ht _ => ⟨congrArg (fun z => Outcome.returned (some (Value.long z))) hres, by rw [ht]; exact hP9, hD9, hS.F ht⟩) hS.2.2 dX1_exchange_48

set_option maxHeartbeats 4000000 in
set_option maxRecDepth 100000 in
theorem c_X1_drop (l : Launch) (D : va_G) (h a0 a1 a2 : Nat) (c0 c1 c2 : ClassId) (lo hi : Nat → Int64) (hd : Int32) (ow off go : Int64) (inv : ck_inv hd lo hi) (sz : Nat) (x : Int32)  : Met l yX1_drop wsX1_drop { frames := 1, cells := 0, slots := 0, locals := 20 } (va_Pc [.ref h, .int x] (ck_Cw D [(h, .inr (1, [.ref a0, .ref a1, .ref a2, .long ow, .long off, .long go])), (a0, .inl (c0, 24, .inl (ck_bz (bt hd)))), (a1, .inl (c1, 24, .inr (.inl lo))), (a2, .inl (c2, 24, .inr (.inl hi)))] (mT c0 c1 c2) sz)) (ck_Wr (some (.int (ck_b (ck_in hd x)))) D [(h, .inr (1, [.ref a0, .ref a1, .ref a2, .long ow, .long off, .long go])), (a0, .inl (c0, 24, .inl (ck_bz (bt (ck_dH hd x))))), (a1, .inl (c1, 24, .inr (.inl lo))), (a2, .inl (c2, 24, .inr (.inl hi)))] (va_A [(h, .inr (1, [.ref a0, .ref a1, .ref a2, .long ow, .long off, .long go])), (a0, .inl (c0, 24, .inl (ck_bz (bt hd)))), (a1, .inl (c1, 24, .inr (.inl lo))), (a2, .inl (c2, 24, .inr (.inl hi)))] sz)) 0 0 (va_A [(h, .inr (1, [.ref a0, .ref a1, .ref a2, .long ow, .long off, .long go])), (a0, .inl (c0, 24, .inl (ck_bz (bt hd)))), (a1, .inl (c1, 24, .inr (.inl lo))), (a2, .inl (c2, 24, .inr (.inl hi)))] sz) := by
  refine Met.ofW (cc := cX1_drop) (maxL := 2) (ret := (some .boolean)) (by decide) rfl ?_
  intro p e s m args below meth c s₁ B hml hv
  obtain ⟨rfl, hsz, hP, hK, hD0⟩ := hv
  have hx := B.exec
  have hb := B.bytes
  have hr := B.returns
  have hts := atoms_spec (ws := wsX1_drop) B.pre
  have hown : s.vm.findClass RX1 = some m.cls := findClass_of_methodNamed B.named
  have hlocks := B.notSynchronized
  have hin : ∀ w ∈ wsX10, w ∈ wsX1_drop := fun _ h => List.mem_cons_of_mem _ (List.mem_append_right _ h)
  subst hsz
  have hD := hD0.self (sz := s.heap.size)
  generalize hAe : va_A [(h, .inr (1, [.ref a0, .ref a1, .ref a2, .long ow, .long off, .long go])), (a0, .inl (c0, 24, .inl (ck_bz (bt hd)))), (a1, .inl (c1, 24, .inr (.inl lo))), (a2, .inl (c2, 24, .inr (.inl hi)))] s.heap.size = A at hD ⊢
  have hA : ∀ q : Nat, s.heap.size ≤ q → A q := fun q h => by rw [← hAe]; exact Or.inr h
  have hS : va_S A s.heap s.heap [] := va_S.rf
  have hl := lv_entry ([.ref h, .int x]) (n := 2) (Nat.le_of_ble_eq_true rfl)
  rw [lg_entry_eq]
  generalize (lg_sl ([.ref h, .int x]) ++ List.replicate (2 - (lg_sl ([.ref h, .int x])).length) Slot.unset).toArray = ls at hl ⊢
  have hl : lv_has ls 2 [(0, .ref h), (1, .int x)] := hl
  refine lv_iload_n hx hb dX1_drop_0 rfl (lv_at hl 1 rfl) ?_
  refine ck_cS (As := [.int x]) (rest := []) ⟨hx, hb, hml, hown, hts⟩ (c_X1_isSource l x) (va_cwS 1 hts gX1_drop_X1_isSource rfl rfl rfl (by decide +kernel) ⟨Nat.le_of_ble_eq_true rfl, Nat.le_of_ble_eq_true rfl⟩) rfl hl.1 rfl (Nat.le_of_ble_eq_true rfl) dX1_drop_1 ⟨Nat.le_of_ble_eq_true rfl, Nat.le_of_ble_eq_true rfl⟩ ?_
  refine lv_if_eq (tgt := 16) hx hb dX1_drop_4 (by decide) (fun c_1 => ?_) (fun c_1 => ?_)
  · have c_1 := ck_bf c_1
    refine lv_iconst (v := 0) hx hb dX1_drop_16 (by decide) ?_
    have hw_zs : (ck_bz (bt hd)) = (ck_bz (bt (ck_dH hd x))) := by first | (rw [ck_bz_off hd hjx]; simp [ck_dH, ck_inN hd hjx, c_1]; done) | (simp [ck_dH, ck_inN hd hjx, c_1]; done) | (simp [ck_dH, ck_in, c_1]; done)
    have hP9 : va_P D vwCl [(h, .inr (1, [.ref a0, .ref a1, .ref a2, .long ow, .long off, .long go])), (a0, .inl (c0, 24, .inl (ck_bz (bt (ck_dH hd x))))), (a1, .inl (c1, 24, .inr (.inl lo))), (a2, .inl (c2, 24, .inr (.inl hi)))] s.heap := by rw [← hw_zs]; exact hP
    have hD9 : va_D A [(h, .inr (1, [.ref a0, .ref a1, .ref a2, .long ow, .long off, .long go])), (a0, .inl (c0, 24, .inl (ck_bz (bt (ck_dH hd x))))), (a1, .inl (c1, 24, .inr (.inl lo))), (a2, .inl (c2, 24, .inr (.inl hi)))] := by rw [← hw_zs]; exact hD
    have hres : 0 = (ck_b (ck_in hd x)) := by first | (simp [ck_b, ck_inN hd hjx, c_1]; done) | (simp [ck_b, ck_in, c_1]; done)
    exact W.zret (ty := .boolean) (v := 0) hx hb hr rfl (fun t ht _ => ⟨congrArg (fun z => Outcome.returned (some (Value.int z))) hres, by rw [ht]; exact hP9, hD9, hS.F ht⟩) hS.2.2 dX1_drop_17
  · have c_1 := ck_bt c_1
    obtain ⟨jx, hjx, rfl⟩ := ck_srcE c_1
    have hcjx : (nI jx).toNatClampNeg = jx := nI_clamp (by omega)
    refine lv_aload_n hx hb dX1_drop_7 rfl (lv_at hl 0 rfl) ?_
    refine va_get (D := D) (ci := 1) (v := .ref a0) (C := RX1) (T := TX1) (N := 6) hx hb hts hin hown hK hP 0 rfl rfl 0 (by decide) (hts (.fieldLink RX1 7 "ClockDeskModel" "is" "[Z") (by decide +kernel)) (fun _ h9 => h9) rfl dX1_drop_8 ?_
    refine lv_iload_n hx hb dX1_drop_11 rfl (lv_at hl 1 rfl) ?_
    refine ck_zald hx hb hK hP 1 0 rfl rfl (i := jx) hjx dX1_drop_12 ?_
    refine lv_if_ne (tgt := 18) hx hb dX1_drop_13 (by decide) (fun c_2 => ?_) (fun c_2 => ?_)
    · have c_2 := ck_bt c_2
      refine lv_aload_n hx hb dX1_drop_18 rfl (lv_at hl 0 rfl) ?_
      refine va_get (D := D) (ci := 1) (v := .ref a0) (C := RX1) (T := TX1) (N := 6) hx hb hts hin hown hK hP 0 rfl rfl 0 (by decide) (hts (.fieldLink RX1 7 "ClockDeskModel" "is" "[Z") (by decide +kernel)) (fun _ h9 => h9) rfl dX1_drop_19 ?_
      refine lv_iload_n hx hb dX1_drop_22 rfl (lv_at hl 1 rfl) ?_
      refine lv_iconst (v := 0) hx hb dX1_drop_23 (by decide) ?_
      refine ck_zast hx hb hK hP hD hS 1 0 rfl rfl (i := jx) (x := 0) hjx rfl dX1_drop_24 (fun H locs hP hD hS => ?_)
      have hP : va_P D vwCl [(h, .inr (1, [.ref a0, .ref a1, .ref a2, .long ow, .long off, .long go])), (a0, .inl (c0, 24, .inl (upd (ck_bz (bt hd)) jx 0))), (a1, .inl (c1, 24, .inr (.inl lo))), (a2, .inl (c2, 24, .inr (.inl hi)))] H := hP
      have hD : va_D A [(h, .inr (1, [.ref a0, .ref a1, .ref a2, .long ow, .long off, .long go])), (a0, .inl (c0, 24, .inl (upd (ck_bz (bt hd)) jx 0))), (a1, .inl (c1, 24, .inr (.inl lo))), (a2, .inl (c2, 24, .inr (.inl hi)))] := hD
      refine lv_iconst (v := 1) hx hb dX1_drop_25 (by decide) ?_
      have hw_zs : (upd (ck_bz (bt hd)) jx 0) = (ck_bz (bt (ck_dH hd (nI jx)))) := by first | (rw [ck_bz_off hd hjx]; simp [ck_dH, ck_inN hd hjx, c_1, hcjx, c_2]; done) | (simp [ck_dH, ck_inN hd hjx, c_1, hcjx, c_2]; done) | (simp [ck_dH, ck_in, c_1, hcjx, c_2]; done)
      have hP9 : va_P D vwCl [(h, .inr (1, [.ref a0, .ref a1, .ref a2, .long ow, .long off, .long go])), (a0, .inl (c0, 24, .inl (ck_bz (bt (ck_dH hd (nI jx)))))), (a1, .inl (c1, 24, .inr (.inl lo))), (a2, .inl (c2, 24, .inr (.inl hi)))] H := by rw [← hw_zs]; exact hP
      have hD9 : va_D A [(h, .inr (1, [.ref a0, .ref a1, .ref a2, .long ow, .long off, .long go])), (a0, .inl (c0, 24, .inl (ck_bz (bt (ck_dH hd (nI jx)))))), (a1, .inl (c1, 24, .inr (.inl lo))), (a2, .inl (c2, 24, .inr (.inl hi)))] := by rw [← hw_zs]; exact hD
      have hres : 1 = (ck_b (ck_in hd (nI jx))) := by first | (simp [ck_b, ck_inN hd hjx, c_1, hcjx, c_2]; done) | (simp [ck_b, ck_in, c_1, hcjx, c_2]; done)
      exact W.zret (ty := .boolean) (v := 1) hx hb hr rfl (fun t ht _ => ⟨congrArg (fun z => Outcome.returned (some (Value.int z))) hres, by rw [ht]; exact hP9, hD9, hS.F ht⟩) hS.2.2 dX1_drop_26
    · have c_2 := ck_bf c_2
      refine lv_iconst (v := 0) hx hb dX1_drop_16 (by decide) ?_
      have hw_zs : (ck_bz (bt hd)) = (ck_bz (bt (ck_dH hd (nI jx)))) := by first | (rw [ck_bz_off hd hjx]; simp [ck_dH, ck_inN hd hjx, c_1, hcjx, c_2]; done) | (simp [ck_dH, ck_inN hd hjx, c_1, hcjx, c_2]; done) | (simp [ck_dH, ck_in, c_1, hcjx, c_2]; done)
      have hP9 : va_P D vwCl [(h, .inr (1, [.ref a0, .ref a1, .ref a2, .long ow, .long off, .long go])), (a0, .inl (c0, 24, .inl (ck_bz (bt (ck_dH hd (nI jx)))))), (a1, .inl (c1, 24, .inr (.inl lo))), (a2, .inl (c2, 24, .inr (.inl hi)))] s.heap := by rw [← hw_zs]; exact hP
      have hD9 : va_D A [(h, .inr (1, [.ref a0, .ref a1, .ref a2, .long ow, .long off, .long go])), (a0, .inl (c0, 24, .inl (ck_bz (bt (ck_dH hd (nI jx)))))), (a1, .inl (c1, 24, .inr (.inl lo))), (a2, .inl (c2, 24, .inr (.inl hi)))] := by rw [← hw_zs]; exact hD
      have hres : 0 = (ck_b (ck_in hd (nI jx))) := by first | (simp [ck_b, ck_inN hd hjx, c_1, hcjx, c_2]; done) | (simp [ck_b, ck_in, c_1, hcjx, c_2]; done)
      exact W.zret (ty := .boolean) (v := 0) hx hb hr rfl (fun t ht _ => ⟨congrArg (fun z => Outcome.returned (some (Value.int z))) hres, by rw [ht]; exact hP9, hD9, hS.F ht⟩) hS.2.2 dX1_drop_17

set_option maxHeartbeats 4000000 in
set_option maxRecDepth 100000 in
theorem c_X1_tick (l : Launch) (D : va_G) (h a0 a1 a2 : Nat) (c0 c1 c2 : ClassId) (lo hi : Nat → Int64) (hd : Int32) (ow off go : Int64) (inv : ck_inv hd lo hi) (sz : Nat) (t0 : Int64) (how : 0 ≤ ow) : Met l yX1_tick wsX1_tick { frames := 0, cells := 0, slots := 0, locals := 0 } (va_Pc [.ref h, .long t0] (ck_Cw D [(h, .inr (1, [.ref a0, .ref a1, .ref a2, .long ow, .long off, .long go])), (a0, .inl (c0, 24, .inl (ck_bz (bt hd)))), (a1, .inl (c1, 24, .inr (.inl lo))), (a2, .inl (c2, 24, .inr (.inl hi)))] (mT c0 c1 c2) sz)) (ck_Wr (some (.int (ck_b (ck_tk ow t0)))) D [(h, .inr (1, [.ref a0, .ref a1, .ref a2, .long (ck_tW ow t0), .long (ck_tO ow off go t0), .long go])), (a0, .inl (c0, 24, .inl (ck_bz (bt hd)))), (a1, .inl (c1, 24, .inr (.inl lo))), (a2, .inl (c2, 24, .inr (.inl hi)))] (va_A [(h, .inr (1, [.ref a0, .ref a1, .ref a2, .long ow, .long off, .long go])), (a0, .inl (c0, 24, .inl (ck_bz (bt hd)))), (a1, .inl (c1, 24, .inr (.inl lo))), (a2, .inl (c2, 24, .inr (.inl hi)))] sz)) 0 0 (va_A [(h, .inr (1, [.ref a0, .ref a1, .ref a2, .long ow, .long off, .long go])), (a0, .inl (c0, 24, .inl (ck_bz (bt hd)))), (a1, .inl (c1, 24, .inr (.inl lo))), (a2, .inl (c2, 24, .inr (.inl hi)))] sz) := by
  refine Met.ofW (cc := cX1_tick) (maxL := 7) (ret := (some .boolean)) (by decide) rfl ?_
  intro p e s m args below meth c s₁ B hml hv
  obtain ⟨rfl, hsz, hP, hK, hD0⟩ := hv
  have hx := B.exec
  have hb := B.bytes
  have hr := B.returns
  have hts := atoms_spec (ws := wsX1_tick) B.pre
  have hown : s.vm.findClass RX1 = some m.cls := findClass_of_methodNamed B.named
  have hlocks := B.notSynchronized
  have hin : ∀ w ∈ wsX10, w ∈ wsX1_tick := fun _ h => List.mem_cons_of_mem _ (List.mem_append_right _ h)
  subst hsz
  have hD := hD0.self (sz := s.heap.size)
  generalize hAe : va_A [(h, .inr (1, [.ref a0, .ref a1, .ref a2, .long ow, .long off, .long go])), (a0, .inl (c0, 24, .inl (ck_bz (bt hd)))), (a1, .inl (c1, 24, .inr (.inl lo))), (a2, .inl (c2, 24, .inr (.inl hi)))] s.heap.size = A at hD ⊢
  have hA : ∀ q : Nat, s.heap.size ≤ q → A q := fun q h => by rw [← hAe]; exact Or.inr h
  have hS : va_S A s.heap s.heap [] := va_S.rf
  have hl := lv_entry ([.ref h, .long t0]) (n := 7) (Nat.le_of_ble_eq_true rfl)
  rw [lg_entry_eq]
  generalize (lg_sl ([.ref h, .long t0]) ++ List.replicate (7 - (lg_sl ([.ref h, .long t0])).length) Slot.unset).toArray = ls at hl ⊢
  have hl : lv_has ls 7 [(0, .ref h), (1, .long t0)] := hl
  refine lv_lload_n hx hb dX1_tick_0 rfl (lv_at hl 1 rfl) ?_
  refine lv_aload_n hx hb dX1_tick_1 rfl (lv_at hl 0 rfl) ?_
  refine va_get (D := D) (ci := 1) (v := .long ow) (C := RX1) (T := TX1) (N := 6) hx hb hts hin hown hK hP 0 rfl rfl 3 (by decide) (hts (.fieldLink RX1 75 "ClockDeskModel" "now" "J") (by decide +kernel)) (fun _ h9 => h9) rfl dX1_tick_2 ?_
  refine W.lcmp hx hb dX1_tick_5 ?_
  refine lv_if_lt (tgt := 17) hx hb dX1_tick_6 (by decide) (fun c_1 => ?_) (fun c_1 => ?_)
  · rw [lg_cmp_lt] at c_1
    refine lv_iconst (v := 0) hx hb dX1_tick_17 (by decide) ?_
    have hw_off : off = (ck_tO ow off go t0) := by simp [ck_tO, ck_tk, c_1]
    have hw_ow : ow = (ck_tW ow t0) := by simp [ck_tW, ck_tk, c_1]
    have hP9 : va_P D vwCl [(h, .inr (1, [.ref a0, .ref a1, .ref a2, .long (ck_tW ow t0), .long (ck_tO ow off go t0), .long go])), (a0, .inl (c0, 24, .inl (ck_bz (bt hd)))), (a1, .inl (c1, 24, .inr (.inl lo))), (a2, .inl (c2, 24, .inr (.inl hi)))] s.heap := by rw [← hw_off, ← hw_ow]; exact hP
    have hD9 : va_D A [(h, .inr (1, [.ref a0, .ref a1, .ref a2, .long (ck_tW ow t0), .long (ck_tO ow off go t0), .long go])), (a0, .inl (c0, 24, .inl (ck_bz (bt hd)))), (a1, .inl (c1, 24, .inr (.inl lo))), (a2, .inl (c2, 24, .inr (.inl hi)))] := by rw [← hw_off, ← hw_ow]; exact hD
    have hres : 0 = (ck_b (ck_tk ow t0)) := by simp [ck_tk, ck_b, c_1]
    exact W.zret (ty := .boolean) (v := 0) hx hb hr rfl (fun t ht _ => ⟨congrArg (fun z => Outcome.returned (some (Value.int z))) hres, by rw [ht]; exact hP9, hD9, hS.F ht⟩) hS.2.2 dX1_tick_18
  · rw [lg_cmp_lt] at c_1
    refine lv_lload_n hx hb dX1_tick_9 rfl (lv_at hl 1 rfl) ?_
    refine lv_ldc2 (v := ck_TIME) hx hb hown (hts (.constantLong RX1 28 ck_TIME) (by decide +kernel)) dX1_tick_10 ?_
    refine W.lcmp hx hb dX1_tick_13 ?_
    refine lv_if_le (tgt := 19) hx hb dX1_tick_14 (by decide) (fun c_2 => ?_) (fun c_2 => ?_)
    · rw [lg_cmp_le] at c_2
      refine lv_lload_n hx hb dX1_tick_19 rfl (lv_at hl 1 rfl) ?_
      refine lv_aload_n hx hb dX1_tick_20 rfl (lv_at hl 0 rfl) ?_
      refine va_get (D := D) (ci := 1) (v := .long ow) (C := RX1) (T := TX1) (N := 6) hx hb hts hin hown hK hP 0 rfl rfl 3 (by decide) (hts (.fieldLink RX1 75 "ClockDeskModel" "now" "J") (by decide +kernel)) (fun _ h9 => h9) rfl dX1_tick_21 ?_
      refine lv_lsub hx hb dX1_tick_24 ?_
      refine lv_ldc2 (v := 2000) hx hb hown (hts (.constantLong RX1 79 2000) (by decide +kernel)) dX1_tick_25 ?_
      refine lv_ldiv hx hb dX1_tick_28 (by decide) ?_
      refine lv_lstore_n (lv' := [(3, .long ((t0 - ow) / 2000)), (0, .ref h), (1, .long t0)]) hx hb dX1_tick_29 rfl hl (by decide) rfl (fun ls hl => ?_)
      refine lv_aload_n hx hb dX1_tick_30 rfl (lv_at hl 1 rfl) ?_
      refine va_get (D := D) (ci := 1) (v := .long go) (C := RX1) (T := TX1) (N := 6) hx hb hts hin hown hK hP 0 rfl rfl 5 (by decide) (hts (.fieldLink RX1 81 "ClockDeskModel" "goal" "J") (by decide +kernel)) (fun _ h9 => h9) rfl dX1_tick_31 ?_
      refine lv_aload_n hx hb dX1_tick_34 rfl (lv_at hl 1 rfl) ?_
      refine va_get (D := D) (ci := 1) (v := .long off) (C := RX1) (T := TX1) (N := 6) hx hb hts hin hown hK hP 0 rfl rfl 4 (by decide) (hts (.fieldLink RX1 84 "ClockDeskModel" "offset" "J") (by decide +kernel)) (fun _ h9 => h9) rfl dX1_tick_35 ?_
      refine lv_lsub hx hb dX1_tick_38 ?_
      refine lv_lstore (lv' := [(5, .long (go - off)), (3, .long ((t0 - ow) / 2000)), (0, .ref h), (1, .long t0)]) hx hb dX1_tick_39 hl (by decide) rfl (fun ls hl => ?_)
      refine lv_aload_n hx hb dX1_tick_41 rfl (lv_at hl 2 rfl) ?_
      refine lv_dup hx hb dX1_tick_42 rfl ?_
      refine va_get (D := D) (ci := 1) (v := .long off) (C := RX1) (T := TX1) (N := 6) hx hb hts hin hown hK hP 0 rfl rfl 4 (by decide) (hts (.fieldLink RX1 84 "ClockDeskModel" "offset" "J") (by decide +kernel)) (fun _ h9 => h9) rfl dX1_tick_43 ?_
      refine lv_lload hx hb dX1_tick_46 (lv_at hl 0 rfl) ?_
      refine lv_lload_n hx hb dX1_tick_48 rfl (lv_at hl 1 rfl) ?_
      refine W.lcmp hx hb dX1_tick_49 ?_
      refine lv_if_le (tgt := 57) hx hb dX1_tick_50 (by decide) (fun c_3 => ?_) (fun c_3 => ?_)
      · rw [lg_cmp_le] at c_3
        refine lv_lload hx hb dX1_tick_57 (lv_at hl 0 rfl) ?_
        refine lv_lload_n hx hb dX1_tick_59 rfl (lv_at hl 1 rfl) ?_
        refine lv_lneg hx hb dX1_tick_60 ?_
        refine W.lcmp hx hb dX1_tick_61 ?_
        refine lv_if_ge (tgt := 70) hx hb dX1_tick_62 (by decide) (fun c_4 => ?_) (fun c_4 => ?_)
        · rw [lg_cmp_ge] at c_4
          refine lv_lload hx hb dX1_tick_70 (lv_at hl 0 rfl) ?_
          refine lv_ladd hx hb dX1_tick_72 ?_
          refine va_put (D := D) (ci := 1) (v := .long (off + (go - off))) (ty := .long) (C := RX1) (T := TX1) (N := 6) hx hb hts hin tyX1 tyX1_ok nmX1 hown hK hP hD hS 0 rfl rfl 4 (by decide) (hts (.fieldLink RX1 84 "ClockDeskModel" "offset" "J") (by decide +kernel)) (fun _ h9 => h9) rfl (by decide +kernel) rfl rfl (Nat.le_of_ble_eq_true rfl) dX1_tick_73 (fun H locs hP hD hS => ?_)
          have hP : va_P D vwCl [(h, .inr (1, [.ref a0, .ref a1, .ref a2, .long ow, .long (off + (go - off)), .long go])), (a0, .inl (c0, 24, .inl (ck_bz (bt hd)))), (a1, .inl (c1, 24, .inr (.inl lo))), (a2, .inl (c2, 24, .inr (.inl hi)))] H := hP
          have hD : va_D A [(h, .inr (1, [.ref a0, .ref a1, .ref a2, .long ow, .long (off + (go - off)), .long go])), (a0, .inl (c0, 24, .inl (ck_bz (bt hd)))), (a1, .inl (c1, 24, .inr (.inl lo))), (a2, .inl (c2, 24, .inr (.inl hi)))] := hD
          refine lv_aload_n hx hb dX1_tick_76 rfl (lv_at hl 2 rfl) ?_
          refine lv_lload_n hx hb dX1_tick_77 rfl (lv_at hl 3 rfl) ?_
          refine va_put (D := D) (ci := 1) (v := .long t0) (ty := .long) (C := RX1) (T := TX1) (N := 6) hx hb hts hin tyX1 tyX1_ok nmX1 hown hK hP hD hS 0 rfl rfl 3 (by decide) (hts (.fieldLink RX1 75 "ClockDeskModel" "now" "J") (by decide +kernel)) (fun _ h9 => h9) rfl (by decide +kernel) rfl rfl (Nat.le_of_ble_eq_true rfl) dX1_tick_78 (fun H locs hP hD hS => ?_)
          have hP : va_P D vwCl [(h, .inr (1, [.ref a0, .ref a1, .ref a2, .long t0, .long (off + (go - off)), .long go])), (a0, .inl (c0, 24, .inl (ck_bz (bt hd)))), (a1, .inl (c1, 24, .inr (.inl lo))), (a2, .inl (c2, 24, .inr (.inl hi)))] H := hP
          have hD : va_D A [(h, .inr (1, [.ref a0, .ref a1, .ref a2, .long t0, .long (off + (go - off)), .long go])), (a0, .inl (c0, 24, .inl (ck_bz (bt hd)))), (a1, .inl (c1, 24, .inr (.inl lo))), (a2, .inl (c2, 24, .inr (.inl hi)))] := hD
          refine lv_iconst (v := 1) hx hb dX1_tick_81 (by decide) ?_
          have hw_off : (off + (go - off)) = (ck_tO ow off go t0) := by have hs := ck_stp how c_1 c_2; first | (simp [ck_tO, ck_tk, ck_clip1 hs c_3 c_4, c_1, c_2, c_3, c_4]; done) | (simp [ck_tO, ck_tk, ck_clip2 hs c_3 c_4, c_1, c_2, c_3, c_4]; done) | (simp [ck_tO, ck_tk, ck_clip3 hs c_3 c_4, c_1, c_2, c_3, c_4]; done)
          have hw_ow : t0 = (ck_tW ow t0) := by simp [ck_tW, ck_tk, c_1, c_2, c_3, c_4]
          have hP9 : va_P D vwCl [(h, .inr (1, [.ref a0, .ref a1, .ref a2, .long (ck_tW ow t0), .long (ck_tO ow off go t0), .long go])), (a0, .inl (c0, 24, .inl (ck_bz (bt hd)))), (a1, .inl (c1, 24, .inr (.inl lo))), (a2, .inl (c2, 24, .inr (.inl hi)))] H := by rw [← hw_off, ← hw_ow]; exact hP
          have hD9 : va_D A [(h, .inr (1, [.ref a0, .ref a1, .ref a2, .long (ck_tW ow t0), .long (ck_tO ow off go t0), .long go])), (a0, .inl (c0, 24, .inl (ck_bz (bt hd)))), (a1, .inl (c1, 24, .inr (.inl lo))), (a2, .inl (c2, 24, .inr (.inl hi)))] := by rw [← hw_off, ← hw_ow]; exact hD
          have hres : 1 = (ck_b (ck_tk ow t0)) := by simp [ck_tk, ck_b, c_1, c_2, c_3, c_4]
          exact W.zret (ty := .boolean) (v := 1) hx hb hr rfl (fun t ht _ => ⟨congrArg (fun z => Outcome.returned (some (Value.int z))) hres, by rw [ht]; exact hP9, hD9, hS.F ht⟩) hS.2.2 dX1_tick_82
        · rw [lg_cmp_ge] at c_4
          refine lv_lload_n hx hb dX1_tick_65 rfl (lv_at hl 1 rfl) ?_
          refine lv_lneg hx hb dX1_tick_66 ?_
          refine lv_goto (tgt := 72) hx hb dX1_tick_67 (by decide) ?_
          refine lv_ladd hx hb dX1_tick_72 ?_
          refine va_put (D := D) (ci := 1) (v := .long (off + (-((t0 - ow) / 2000)))) (ty := .long) (C := RX1) (T := TX1) (N := 6) hx hb hts hin tyX1 tyX1_ok nmX1 hown hK hP hD hS 0 rfl rfl 4 (by decide) (hts (.fieldLink RX1 84 "ClockDeskModel" "offset" "J") (by decide +kernel)) (fun _ h9 => h9) rfl (by decide +kernel) rfl rfl (Nat.le_of_ble_eq_true rfl) dX1_tick_73 (fun H locs hP hD hS => ?_)
          have hP : va_P D vwCl [(h, .inr (1, [.ref a0, .ref a1, .ref a2, .long ow, .long (off + (-((t0 - ow) / 2000))), .long go])), (a0, .inl (c0, 24, .inl (ck_bz (bt hd)))), (a1, .inl (c1, 24, .inr (.inl lo))), (a2, .inl (c2, 24, .inr (.inl hi)))] H := hP
          have hD : va_D A [(h, .inr (1, [.ref a0, .ref a1, .ref a2, .long ow, .long (off + (-((t0 - ow) / 2000))), .long go])), (a0, .inl (c0, 24, .inl (ck_bz (bt hd)))), (a1, .inl (c1, 24, .inr (.inl lo))), (a2, .inl (c2, 24, .inr (.inl hi)))] := hD
          refine lv_aload_n hx hb dX1_tick_76 rfl (lv_at hl 2 rfl) ?_
          refine lv_lload_n hx hb dX1_tick_77 rfl (lv_at hl 3 rfl) ?_
          refine va_put (D := D) (ci := 1) (v := .long t0) (ty := .long) (C := RX1) (T := TX1) (N := 6) hx hb hts hin tyX1 tyX1_ok nmX1 hown hK hP hD hS 0 rfl rfl 3 (by decide) (hts (.fieldLink RX1 75 "ClockDeskModel" "now" "J") (by decide +kernel)) (fun _ h9 => h9) rfl (by decide +kernel) rfl rfl (Nat.le_of_ble_eq_true rfl) dX1_tick_78 (fun H locs hP hD hS => ?_)
          have hP : va_P D vwCl [(h, .inr (1, [.ref a0, .ref a1, .ref a2, .long t0, .long (off + (-((t0 - ow) / 2000))), .long go])), (a0, .inl (c0, 24, .inl (ck_bz (bt hd)))), (a1, .inl (c1, 24, .inr (.inl lo))), (a2, .inl (c2, 24, .inr (.inl hi)))] H := hP
          have hD : va_D A [(h, .inr (1, [.ref a0, .ref a1, .ref a2, .long t0, .long (off + (-((t0 - ow) / 2000))), .long go])), (a0, .inl (c0, 24, .inl (ck_bz (bt hd)))), (a1, .inl (c1, 24, .inr (.inl lo))), (a2, .inl (c2, 24, .inr (.inl hi)))] := hD
          refine lv_iconst (v := 1) hx hb dX1_tick_81 (by decide) ?_
          have hw_off : (off + (-((t0 - ow) / 2000))) = (ck_tO ow off go t0) := by have hs := ck_stp how c_1 c_2; first | (simp [ck_tO, ck_tk, ck_clip1 hs c_3 c_4, c_1, c_2, c_3, c_4]; done) | (simp [ck_tO, ck_tk, ck_clip2 hs c_3 c_4, c_1, c_2, c_3, c_4]; done) | (simp [ck_tO, ck_tk, ck_clip3 hs c_3 c_4, c_1, c_2, c_3, c_4]; done)
          have hw_ow : t0 = (ck_tW ow t0) := by simp [ck_tW, ck_tk, c_1, c_2, c_3, c_4]
          have hP9 : va_P D vwCl [(h, .inr (1, [.ref a0, .ref a1, .ref a2, .long (ck_tW ow t0), .long (ck_tO ow off go t0), .long go])), (a0, .inl (c0, 24, .inl (ck_bz (bt hd)))), (a1, .inl (c1, 24, .inr (.inl lo))), (a2, .inl (c2, 24, .inr (.inl hi)))] H := by rw [← hw_off, ← hw_ow]; exact hP
          have hD9 : va_D A [(h, .inr (1, [.ref a0, .ref a1, .ref a2, .long (ck_tW ow t0), .long (ck_tO ow off go t0), .long go])), (a0, .inl (c0, 24, .inl (ck_bz (bt hd)))), (a1, .inl (c1, 24, .inr (.inl lo))), (a2, .inl (c2, 24, .inr (.inl hi)))] := by rw [← hw_off, ← hw_ow]; exact hD
          have hres : 1 = (ck_b (ck_tk ow t0)) := by simp [ck_tk, ck_b, c_1, c_2, c_3, c_4]
          exact W.zret (ty := .boolean) (v := 1) hx hb hr rfl (fun t ht _ => ⟨congrArg (fun z => Outcome.returned (some (Value.int z))) hres, by rw [ht]; exact hP9, hD9, hS.F ht⟩) hS.2.2 dX1_tick_82
      · rw [lg_cmp_le] at c_3
        refine lv_lload_n hx hb dX1_tick_53 rfl (lv_at hl 1 rfl) ?_
        refine lv_goto (tgt := 72) hx hb dX1_tick_54 (by decide) ?_
        refine lv_ladd hx hb dX1_tick_72 ?_
        refine va_put (D := D) (ci := 1) (v := .long (off + ((t0 - ow) / 2000))) (ty := .long) (C := RX1) (T := TX1) (N := 6) hx hb hts hin tyX1 tyX1_ok nmX1 hown hK hP hD hS 0 rfl rfl 4 (by decide) (hts (.fieldLink RX1 84 "ClockDeskModel" "offset" "J") (by decide +kernel)) (fun _ h9 => h9) rfl (by decide +kernel) rfl rfl (Nat.le_of_ble_eq_true rfl) dX1_tick_73 (fun H locs hP hD hS => ?_)
        have hP : va_P D vwCl [(h, .inr (1, [.ref a0, .ref a1, .ref a2, .long ow, .long (off + ((t0 - ow) / 2000)), .long go])), (a0, .inl (c0, 24, .inl (ck_bz (bt hd)))), (a1, .inl (c1, 24, .inr (.inl lo))), (a2, .inl (c2, 24, .inr (.inl hi)))] H := hP
        have hD : va_D A [(h, .inr (1, [.ref a0, .ref a1, .ref a2, .long ow, .long (off + ((t0 - ow) / 2000)), .long go])), (a0, .inl (c0, 24, .inl (ck_bz (bt hd)))), (a1, .inl (c1, 24, .inr (.inl lo))), (a2, .inl (c2, 24, .inr (.inl hi)))] := hD
        refine lv_aload_n hx hb dX1_tick_76 rfl (lv_at hl 2 rfl) ?_
        refine lv_lload_n hx hb dX1_tick_77 rfl (lv_at hl 3 rfl) ?_
        refine va_put (D := D) (ci := 1) (v := .long t0) (ty := .long) (C := RX1) (T := TX1) (N := 6) hx hb hts hin tyX1 tyX1_ok nmX1 hown hK hP hD hS 0 rfl rfl 3 (by decide) (hts (.fieldLink RX1 75 "ClockDeskModel" "now" "J") (by decide +kernel)) (fun _ h9 => h9) rfl (by decide +kernel) rfl rfl (Nat.le_of_ble_eq_true rfl) dX1_tick_78 (fun H locs hP hD hS => ?_)
        have hP : va_P D vwCl [(h, .inr (1, [.ref a0, .ref a1, .ref a2, .long t0, .long (off + ((t0 - ow) / 2000)), .long go])), (a0, .inl (c0, 24, .inl (ck_bz (bt hd)))), (a1, .inl (c1, 24, .inr (.inl lo))), (a2, .inl (c2, 24, .inr (.inl hi)))] H := hP
        have hD : va_D A [(h, .inr (1, [.ref a0, .ref a1, .ref a2, .long t0, .long (off + ((t0 - ow) / 2000)), .long go])), (a0, .inl (c0, 24, .inl (ck_bz (bt hd)))), (a1, .inl (c1, 24, .inr (.inl lo))), (a2, .inl (c2, 24, .inr (.inl hi)))] := hD
        refine lv_iconst (v := 1) hx hb dX1_tick_81 (by decide) ?_
        have hw_off : (off + ((t0 - ow) / 2000)) = (ck_tO ow off go t0) := by have hs := ck_stp how c_1 c_2; first | (simp [ck_tO, ck_tk, ck_clip1 hs c_3, c_1, c_2, c_3]; done) | (simp [ck_tO, ck_tk, ck_clip2 hs c_3, c_1, c_2, c_3]; done) | (simp [ck_tO, ck_tk, ck_clip3 hs c_3, c_1, c_2, c_3]; done)
        have hw_ow : t0 = (ck_tW ow t0) := by simp [ck_tW, ck_tk, c_1, c_2, c_3]
        have hP9 : va_P D vwCl [(h, .inr (1, [.ref a0, .ref a1, .ref a2, .long (ck_tW ow t0), .long (ck_tO ow off go t0), .long go])), (a0, .inl (c0, 24, .inl (ck_bz (bt hd)))), (a1, .inl (c1, 24, .inr (.inl lo))), (a2, .inl (c2, 24, .inr (.inl hi)))] H := by rw [← hw_off, ← hw_ow]; exact hP
        have hD9 : va_D A [(h, .inr (1, [.ref a0, .ref a1, .ref a2, .long (ck_tW ow t0), .long (ck_tO ow off go t0), .long go])), (a0, .inl (c0, 24, .inl (ck_bz (bt hd)))), (a1, .inl (c1, 24, .inr (.inl lo))), (a2, .inl (c2, 24, .inr (.inl hi)))] := by rw [← hw_off, ← hw_ow]; exact hD
        have hres : 1 = (ck_b (ck_tk ow t0)) := by simp [ck_tk, ck_b, c_1, c_2, c_3]
        exact W.zret (ty := .boolean) (v := 1) hx hb hr rfl (fun t ht _ => ⟨congrArg (fun z => Outcome.returned (some (Value.int z))) hres, by rw [ht]; exact hP9, hD9, hS.F ht⟩) hS.2.2 dX1_tick_82
    · rw [lg_cmp_le] at c_2
      refine lv_iconst (v := 0) hx hb dX1_tick_17 (by decide) ?_
      have hw_off : off = (ck_tO ow off go t0) := by simp [ck_tO, ck_tk, c_1, c_2]
      have hw_ow : ow = (ck_tW ow t0) := by simp [ck_tW, ck_tk, c_1, c_2]
      have hP9 : va_P D vwCl [(h, .inr (1, [.ref a0, .ref a1, .ref a2, .long (ck_tW ow t0), .long (ck_tO ow off go t0), .long go])), (a0, .inl (c0, 24, .inl (ck_bz (bt hd)))), (a1, .inl (c1, 24, .inr (.inl lo))), (a2, .inl (c2, 24, .inr (.inl hi)))] s.heap := by rw [← hw_off, ← hw_ow]; exact hP
      have hD9 : va_D A [(h, .inr (1, [.ref a0, .ref a1, .ref a2, .long (ck_tW ow t0), .long (ck_tO ow off go t0), .long go])), (a0, .inl (c0, 24, .inl (ck_bz (bt hd)))), (a1, .inl (c1, 24, .inr (.inl lo))), (a2, .inl (c2, 24, .inr (.inl hi)))] := by rw [← hw_off, ← hw_ow]; exact hD
      have hres : 0 = (ck_b (ck_tk ow t0)) := by simp [ck_tk, ck_b, c_1, c_2]
      exact W.zret (ty := .boolean) (v := 0) hx hb hr rfl (fun t ht _ => ⟨congrArg (fun z => Outcome.returned (some (Value.int z))) hres, by rw [ht]; exact hP9, hD9, hS.F ht⟩) hS.2.2 dX1_tick_18

set_option maxHeartbeats 4000000 in
set_option maxRecDepth 100000 in
theorem c_X1_steer (l : Launch) (D : va_G) (h a0 a1 a2 : Nat) (c0 c1 c2 : ClassId) (lo hi : Nat → Int64) (hd : Int32) (ow off go : Int64) (inv : ck_inv hd lo hi) (sz : Nat)   : Met l yX1_steer wsX1_steer { frames := 3, cells := 0, slots := 0, locals := 76 } (va_Pc [.ref h] (ck_Cw D [(h, .inr (1, [.ref a0, .ref a1, .ref a2, .long ow, .long off, .long go])), (a0, .inl (c0, 24, .inl (ck_bz (bt hd)))), (a1, .inl (c1, 24, .inr (.inl lo))), (a2, .inl (c2, 24, .inr (.inl hi)))] (mT c0 c1 c2) sz)) (ck_Wr (some (.int (ck_b (ck_sk hd lo hi)))) D [(h, .inr (1, [.ref a0, .ref a1, .ref a2, .long ow, .long off, .long (ck_sG hd lo hi go)])), (a0, .inl (c0, 24, .inl (ck_bz (bt hd)))), (a1, .inl (c1, 24, .inr (.inl lo))), (a2, .inl (c2, 24, .inr (.inl hi)))] (va_A [(h, .inr (1, [.ref a0, .ref a1, .ref a2, .long ow, .long off, .long go])), (a0, .inl (c0, 24, .inl (ck_bz (bt hd)))), (a1, .inl (c1, 24, .inr (.inl lo))), (a2, .inl (c2, 24, .inr (.inl hi)))] sz)) 0 0 (va_A [(h, .inr (1, [.ref a0, .ref a1, .ref a2, .long ow, .long off, .long go])), (a0, .inl (c0, 24, .inl (ck_bz (bt hd)))), (a1, .inl (c1, 24, .inr (.inl lo))), (a2, .inl (c2, 24, .inr (.inl hi)))] sz) := by
  refine Met.ofW (cc := cX1_steer) (maxL := 1) (ret := (some .boolean)) (by decide) rfl ?_
  intro p e s m args below meth c s₁ B hml hv
  obtain ⟨rfl, hsz, hP, hK, hD0⟩ := hv
  have hx := B.exec
  have hb := B.bytes
  have hr := B.returns
  have hts := atoms_spec (ws := wsX1_steer) B.pre
  have hown : s.vm.findClass RX1 = some m.cls := findClass_of_methodNamed B.named
  have hlocks := B.notSynchronized
  have hin : ∀ w ∈ wsX10, w ∈ wsX1_steer := fun _ h => List.mem_cons_of_mem _ (List.mem_append_right _ h)
  subst hsz
  have hD := hD0.self (sz := s.heap.size)
  generalize hAe : va_A [(h, .inr (1, [.ref a0, .ref a1, .ref a2, .long ow, .long off, .long go])), (a0, .inl (c0, 24, .inl (ck_bz (bt hd)))), (a1, .inl (c1, 24, .inr (.inl lo))), (a2, .inl (c2, 24, .inr (.inl hi)))] s.heap.size = A at hD ⊢
  have hA : ∀ q : Nat, s.heap.size ≤ q → A q := fun q h => by rw [← hAe]; exact Or.inr h
  have hS : va_S A s.heap s.heap [] := va_S.rf
  have hl := lv_entry ([.ref h]) (n := 1) (Nat.le_of_ble_eq_true rfl)
  rw [lg_entry_eq]
  generalize (lg_sl ([.ref h]) ++ List.replicate (1 - (lg_sl ([.ref h])).length) Slot.unset).toArray = ls at hl ⊢
  have hl : lv_has ls 1 [(0, .ref h)] := hl
  refine lv_iconst (v := 2) hx hb dX1_steer_0 (by decide) ?_
  refine lv_aload_n hx hb dX1_steer_1 rfl (lv_at hl 0 rfl) ?_
  refine ck_cV (As := []) (rest := [.int 2]) ⟨hx, hb, hml, hown, hts⟩ (c_X1_greatest l D h a0 a1 a2 c0 c1 c2 lo hi hd ow off go inv ) (cwV 0 hts gX1_steer_X1_greatest rfl rfl rfl (by decide +kernel) ⟨Nat.le_of_ble_eq_true rfl, Nat.le_of_ble_eq_true rfl⟩) hP hK (va_recv hK hP (ci := 1) (q0 := 0) rfl rfl) rfl hl.1 rfl (Nat.le_of_ble_eq_true rfl) dX1_steer_2 ⟨Nat.le_of_ble_eq_true rfl, Nat.le_of_ble_eq_true rfl⟩ ?_
  refine lv_imul hx hb dX1_steer_5 ?_
  refine lv_aload_n hx hb dX1_steer_6 rfl (lv_at hl 0 rfl) ?_
  refine ck_cV (As := []) (rest := [.int (2 * (ck_gr (bt hd) lo hi 24))]) ⟨hx, hb, hml, hown, hts⟩ (c_X1_sources l D h a0 a1 a2 c0 c1 c2 lo hi hd ow off go inv ) (cwV 0 hts gX1_steer_X1_sources rfl rfl rfl (by decide +kernel) ⟨Nat.le_of_ble_eq_true rfl, Nat.le_of_ble_eq_true rfl⟩) hP hK (va_recv hK hP (ci := 1) (q0 := 0) rfl rfl) rfl hl.1 rfl (Nat.le_of_ble_eq_true rfl) dX1_steer_7 ⟨Nat.le_of_ble_eq_true rfl, Nat.le_of_ble_eq_true rfl⟩ ?_
  refine lv_icmp_gt (tgt := 15) hx hb dX1_steer_10 (by decide) (fun c_1 => ?_) (fun c_1 => ?_)
  · refine lv_aload_n hx hb dX1_steer_15 rfl (lv_at hl 0 rfl) ?_
    refine lv_aload_n hx hb dX1_steer_16 rfl (lv_at hl 0 rfl) ?_
    refine lv_iconst (v := 0) hx hb dX1_steer_17 (by decide) ?_
    refine ck_cV (As := [.int 0]) (rest := [.ref h]) ⟨hx, hb, hml, hown, hts⟩ (c_X1_region l D h a0 a1 a2 c0 c1 c2 lo hi hd ow off go inv 0) (cwV 1 hts gX1_steer_X1_region rfl rfl rfl (by decide +kernel) ⟨Nat.le_of_ble_eq_true rfl, Nat.le_of_ble_eq_true rfl⟩) hP hK (va_recv hK hP (ci := 1) (q0 := 0) rfl rfl) rfl hl.1 rfl (Nat.le_of_ble_eq_true rfl) dX1_steer_18 ⟨Nat.le_of_ble_eq_true rfl, Nat.le_of_ble_eq_true rfl⟩ ?_
    refine lv_aload_n hx hb dX1_steer_21 rfl (lv_at hl 0 rfl) ?_
    refine lv_iconst (v := 1) hx hb dX1_steer_22 (by decide) ?_
    refine ck_cV (As := [.int 1]) (rest := [.long (ck_rg hd lo hi 0), .ref h]) ⟨hx, hb, hml, hown, hts⟩ (c_X1_region l D h a0 a1 a2 c0 c1 c2 lo hi hd ow off go inv 1) (cwV 1 hts gX1_steer_X1_region rfl rfl rfl (by decide +kernel) ⟨Nat.le_of_ble_eq_true rfl, Nat.le_of_ble_eq_true rfl⟩) hP hK (va_recv hK hP (ci := 1) (q0 := 0) rfl rfl) rfl hl.1 rfl (Nat.le_of_ble_eq_true rfl) dX1_steer_23 ⟨Nat.le_of_ble_eq_true rfl, Nat.le_of_ble_eq_true rfl⟩ ?_
    refine lv_ladd hx hb dX1_steer_26 ?_
    refine ck_cS (As := [.long ((ck_rg hd lo hi 0) + (ck_rg hd lo hi 1))]) (rest := [.ref h]) ⟨hx, hb, hml, hown, hts⟩ (c_X1_half l ((ck_rg hd lo hi 0) + (ck_rg hd lo hi 1))) (va_cwS 1 hts gX1_steer_X1_half rfl rfl rfl (by decide +kernel) ⟨Nat.le_of_ble_eq_true rfl, Nat.le_of_ble_eq_true rfl⟩) rfl hl.1 rfl (Nat.le_of_ble_eq_true rfl) dX1_steer_27 ⟨Nat.le_of_ble_eq_true rfl, Nat.le_of_ble_eq_true rfl⟩ ?_
    refine va_put (D := D) (ci := 1) (v := .long (ck_half ((ck_rg hd lo hi 0) + (ck_rg hd lo hi 1)))) (ty := .long) (C := RX1) (T := TX1) (N := 6) hx hb hts hin tyX1 tyX1_ok nmX1 hown hK hP hD hS 0 rfl rfl 5 (by decide) (hts (.fieldLink RX1 81 "ClockDeskModel" "goal" "J") (by decide +kernel)) (fun _ h9 => h9) rfl (by decide +kernel) rfl rfl (Nat.le_of_ble_eq_true rfl) dX1_steer_30 (fun H locs hP hD hS => ?_)
    have hP : va_P D vwCl [(h, .inr (1, [.ref a0, .ref a1, .ref a2, .long ow, .long off, .long (ck_half ((ck_rg hd lo hi 0) + (ck_rg hd lo hi 1)))])), (a0, .inl (c0, 24, .inl (ck_bz (bt hd)))), (a1, .inl (c1, 24, .inr (.inl lo))), (a2, .inl (c2, 24, .inr (.inl hi)))] H := hP
    have hD : va_D A [(h, .inr (1, [.ref a0, .ref a1, .ref a2, .long ow, .long off, .long (ck_half ((ck_rg hd lo hi 0) + (ck_rg hd lo hi 1)))])), (a0, .inl (c0, 24, .inl (ck_bz (bt hd)))), (a1, .inl (c1, 24, .inr (.inl lo))), (a2, .inl (c2, 24, .inr (.inl hi)))] := hD
    refine lv_iconst (v := 1) hx hb dX1_steer_33 (by decide) ?_
    have hw_go : (ck_half ((ck_rg hd lo hi 0) + (ck_rg hd lo hi 1))) = (ck_sG hd lo hi go) := by simp [ck_sG, ck_sk, c_1]
    have hP9 : va_P D vwCl [(h, .inr (1, [.ref a0, .ref a1, .ref a2, .long ow, .long off, .long (ck_sG hd lo hi go)])), (a0, .inl (c0, 24, .inl (ck_bz (bt hd)))), (a1, .inl (c1, 24, .inr (.inl lo))), (a2, .inl (c2, 24, .inr (.inl hi)))] H := by rw [← hw_go]; exact hP
    have hD9 : va_D A [(h, .inr (1, [.ref a0, .ref a1, .ref a2, .long ow, .long off, .long (ck_sG hd lo hi go)])), (a0, .inl (c0, 24, .inl (ck_bz (bt hd)))), (a1, .inl (c1, 24, .inr (.inl lo))), (a2, .inl (c2, 24, .inr (.inl hi)))] := by rw [← hw_go]; exact hD
    have hres : 1 = (ck_b (ck_sk hd lo hi)) := by simp [ck_sk, ck_b, c_1]
    exact W.zret (ty := .boolean) (v := 1) hx hb hr rfl (fun t ht _ => ⟨congrArg (fun z => Outcome.returned (some (Value.int z))) hres, by rw [ht]; exact hP9, hD9, hS.F ht⟩) hS.2.2 dX1_steer_34
  · refine lv_iconst (v := 0) hx hb dX1_steer_13 (by decide) ?_
    have hw_go : go = (ck_sG hd lo hi go) := by simp [ck_sG, ck_sk, c_1]
    have hP9 : va_P D vwCl [(h, .inr (1, [.ref a0, .ref a1, .ref a2, .long ow, .long off, .long (ck_sG hd lo hi go)])), (a0, .inl (c0, 24, .inl (ck_bz (bt hd)))), (a1, .inl (c1, 24, .inr (.inl lo))), (a2, .inl (c2, 24, .inr (.inl hi)))] s.heap := by rw [← hw_go]; exact hP
    have hD9 : va_D A [(h, .inr (1, [.ref a0, .ref a1, .ref a2, .long ow, .long off, .long (ck_sG hd lo hi go)])), (a0, .inl (c0, 24, .inl (ck_bz (bt hd)))), (a1, .inl (c1, 24, .inr (.inl lo))), (a2, .inl (c2, 24, .inr (.inl hi)))] := by rw [← hw_go]; exact hD
    have hres : 0 = (ck_b (ck_sk hd lo hi)) := by simp [ck_sk, ck_b, c_1]
    exact W.zret (ty := .boolean) (v := 0) hx hb hr rfl (fun t ht _ => ⟨congrArg (fun z => Outcome.returned (some (Value.int z))) hres, by rw [ht]; exact hP9, hD9, hS.F ht⟩) hS.2.2 dX1_steer_14
