set_option maxHeartbeats 4000000 in
set_option maxRecDepth 100000 in
theorem c_X0_hold (l : Launch) (D : va_G) (h a1 a2 : Nat) (c1 c2 : ClassId) (lo hi : Nat → Int64) (hd : Int32) (ow off go : Int64) (sz : Nat) (a : Int64) (b : Int64) (j : Nat) (hj : j < 24) : Met l yX0_hold wsX0_hold { frames := 0, cells := 0, slots := 0, locals := 0 } (va_Pc [.ref h, .int (nI j), .long a, .long b] (ck_Cw D [(h, .inr (0, [.ref a1, .ref a2, .int hd, .long ow, .long off, .long go])), (a1, .inl (c1, 24, .inr (.inl lo))), (a2, .inl (c2, 24, .inr (.inl hi)))] (xT c1 c2) sz)) (ck_Wr none D [(h, .inr (0, [.ref a1, .ref a2, .int (hd ||| (1 <<< ((nI j) &&& 31))), .long ow, .long off, .long go])), (a1, .inl (c1, 24, .inr (.inl (vp_updL lo j a)))), (a2, .inl (c2, 24, .inr (.inl (vp_updL hi j b))))] (va_A [(h, .inr (0, [.ref a1, .ref a2, .int hd, .long ow, .long off, .long go])), (a1, .inl (c1, 24, .inr (.inl lo))), (a2, .inl (c2, 24, .inr (.inl hi)))] sz)) 0 0 (va_A [(h, .inr (0, [.ref a1, .ref a2, .int hd, .long ow, .long off, .long go])), (a1, .inl (c1, 24, .inr (.inl lo))), (a2, .inl (c2, 24, .inr (.inl hi)))] sz) := by
  refine Met.ofW (cc := cX0_hold) (maxL := 6) (ret := none) (by decide) rfl ?_
  intro p e s m args below meth c s₁ B hml hv
  obtain ⟨rfl, hsz, hP, hK, hD0⟩ := hv
  have hx := B.exec
  have hb := B.bytes
  have hr := B.returns
  have hts := atoms_spec (ws := wsX0_hold) B.pre
  have hown : s.vm.findClass RX0 = some m.cls := findClass_of_methodNamed B.named
  have hlocks := B.notSynchronized
  have hin : ∀ w ∈ wsX00, w ∈ wsX0_hold := fun _ h => List.mem_cons_of_mem _ (List.mem_append_right _ h)
  subst hsz
  have hD := hD0.self (sz := s.heap.size)
  generalize hAe : va_A [(h, .inr (0, [.ref a1, .ref a2, .int hd, .long ow, .long off, .long go])), (a1, .inl (c1, 24, .inr (.inl lo))), (a2, .inl (c2, 24, .inr (.inl hi)))] s.heap.size = A at hD ⊢
  have hA : ∀ q : Nat, s.heap.size ≤ q → A q := fun q h => by rw [← hAe]; exact Or.inr h
  have hS : va_S A s.heap s.heap [] := va_S.rf
  have hl := lv_entry ([.ref h, .int (nI j), .long a, .long b]) (n := 6) (Nat.le_of_ble_eq_true rfl)
  rw [lg_entry_eq]
  generalize (lg_sl ([.ref h, .int (nI j), .long a, .long b]) ++ List.replicate (6 - (lg_sl ([.ref h, .int (nI j), .long a, .long b])).length) Slot.unset).toArray = ls at hl ⊢
  have hl : lv_has ls 6 [(0, .ref h), (1, .int (nI j)), (2, .long a), (4, .long b)] := hl
  refine lv_aload_n hx hb dX0_hold_0 rfl (lv_at hl 0 rfl) ?_
  refine va_get (D := D) (ci := 0) (v := .ref a1) (C := RX0) (T := TX0) (N := 6) hx hb hts hin hown hK hP 0 rfl rfl 0 (by decide) (hts (.fieldLink RX0 9 "ClockDesk" "lows" "[J") (by decide +kernel)) (fun _ h9 => h9) rfl dX0_hold_1 ?_
  refine lv_iload_n hx hb dX0_hold_4 rfl (lv_at hl 1 rfl) ?_
  refine lv_lload_n hx hb dX0_hold_5 rfl (lv_at hl 2 rfl) ?_
  refine ck_last hx hb hK hP hD hS 1 0 rfl rfl (i := j) (x := a) hj dX0_hold_6 (fun H locs hP hD hS => ?_)
  have hP : va_P D vwCl [(h, .inr (0, [.ref a1, .ref a2, .int hd, .long ow, .long off, .long go])), (a1, .inl (c1, 24, .inr (.inl (vp_updL lo j a)))), (a2, .inl (c2, 24, .inr (.inl hi)))] H := hP
  have hD : va_D A [(h, .inr (0, [.ref a1, .ref a2, .int hd, .long ow, .long off, .long go])), (a1, .inl (c1, 24, .inr (.inl (vp_updL lo j a)))), (a2, .inl (c2, 24, .inr (.inl hi)))] := hD
  refine lv_aload_n hx hb dX0_hold_7 rfl (lv_at hl 0 rfl) ?_
  refine va_get (D := D) (ci := 0) (v := .ref a2) (C := RX0) (T := TX0) (N := 6) hx hb hts hin hown hK hP 0 rfl rfl 1 (by decide) (hts (.fieldLink RX0 13 "ClockDesk" "highs" "[J") (by decide +kernel)) (fun _ h9 => h9) rfl dX0_hold_8 ?_
  refine lv_iload_n hx hb dX0_hold_11 rfl (lv_at hl 1 rfl) ?_
  refine lv_lload hx hb dX0_hold_12 (lv_at hl 3 rfl) ?_
  refine ck_last hx hb hK hP hD hS 2 1 rfl rfl (i := j) (x := b) hj dX0_hold_14 (fun H locs hP hD hS => ?_)
  have hP : va_P D vwCl [(h, .inr (0, [.ref a1, .ref a2, .int hd, .long ow, .long off, .long go])), (a1, .inl (c1, 24, .inr (.inl (vp_updL lo j a)))), (a2, .inl (c2, 24, .inr (.inl (vp_updL hi j b))))] H := hP
  have hD : va_D A [(h, .inr (0, [.ref a1, .ref a2, .int hd, .long ow, .long off, .long go])), (a1, .inl (c1, 24, .inr (.inl (vp_updL lo j a)))), (a2, .inl (c2, 24, .inr (.inl (vp_updL hi j b))))] := hD
  refine lv_aload_n hx hb dX0_hold_15 rfl (lv_at hl 0 rfl) ?_
  refine lv_dup hx hb dX0_hold_16 rfl ?_
  refine va_get (D := D) (ci := 0) (v := .int hd) (C := RX0) (T := TX0) (N := 6) hx hb hts hin hown hK hP 0 rfl rfl 2 (by decide) (hts (.fieldLink RX0 16 "ClockDesk" "held" "I") (by decide +kernel)) (fun _ h9 => h9) rfl dX0_hold_17 ?_
  refine lv_iconst (v := 1) hx hb dX0_hold_20 (by decide) ?_
  refine lv_iload_n hx hb dX0_hold_21 rfl (lv_at hl 1 rfl) ?_
  refine lv_ishl hx hb dX0_hold_22 ?_
  refine lv_ior hx hb dX0_hold_23 ?_
  refine va_put (D := D) (ci := 0) (v := .int (hd ||| (1 <<< ((nI j) &&& 31)))) (ty := .int) (C := RX0) (T := TX0) (N := 6) hx hb hts hin tyX0 tyX0_ok nmX0 hown hK hP hD hS 0 rfl rfl 2 (by decide) (hts (.fieldLink RX0 16 "ClockDesk" "held" "I") (by decide +kernel)) (fun _ h9 => h9) rfl (by decide +kernel) rfl rfl (Nat.le_of_ble_eq_true rfl) dX0_hold_24 (fun H locs hP hD hS => ?_)
  have hP : va_P D vwCl [(h, .inr (0, [.ref a1, .ref a2, .int (hd ||| (1 <<< ((nI j) &&& 31))), .long ow, .long off, .long go])), (a1, .inl (c1, 24, .inr (.inl (vp_updL lo j a)))), (a2, .inl (c2, 24, .inr (.inl (vp_updL hi j b))))] H := hP
  have hD : va_D A [(h, .inr (0, [.ref a1, .ref a2, .int (hd ||| (1 <<< ((nI j) &&& 31))), .long ow, .long off, .long go])), (a1, .inl (c1, 24, .inr (.inl (vp_updL lo j a)))), (a2, .inl (c2, 24, .inr (.inl (vp_updL hi j b))))] := hD
  have hP9 : va_P D vwCl [(h, .inr (0, [.ref a1, .ref a2, .int (hd ||| (1 <<< ((nI j) &&& 31))), .long ow, .long off, .long go])), (a1, .inl (c1, 24, .inr (.inl (vp_updL lo j a)))), (a2, .inl (c2, 24, .inr (.inl (vp_updL hi j b))))] H := by exact hP
  have hD9 : va_D A [(h, .inr (0, [.ref a1, .ref a2, .int (hd ||| (1 <<< ((nI j) &&& 31))), .long ow, .long off, .long go])), (a1, .inl (c1, 24, .inr (.inl (vp_updL lo j a)))), (a2, .inl (c2, 24, .inr (.inl (vp_updL hi j b))))] := by exact hD
  exact W.vret hx hb hr (fun t ht _ => ⟨rfl, by rw [ht]; exact hP9, hD9, hS.F ht⟩) hS.2.2 dX0_hold_27

set_option maxHeartbeats 4000000 in
set_option maxRecDepth 100000 in
theorem c_X0_interval (l : Launch) (D : va_G) (h a1 a2 : Nat) (c1 c2 : ClassId) (lo hi : Nat → Int64) (hd : Int32) (ow off go : Int64) (sz : Nat) (x : Int32) (a : Int64) (b : Int64)  : Met l yX0_interval wsX0_interval { frames := 1, cells := 0, slots := 0, locals := 25 } (va_Pc [.ref h, .int x, .long a, .long b] (ck_Cw D [(h, .inr (0, [.ref a1, .ref a2, .int hd, .long ow, .long off, .long go])), (a1, .inl (c1, 24, .inr (.inl lo))), (a2, .inl (c2, 24, .inr (.inl hi)))] (xT c1 c2) sz)) (ck_Wr (some (.int (ck_b (ck_ivk x a b)))) D [(h, .inr (0, [.ref a1, .ref a2, .int (ck_uH (ck_ivk x a b) hd x), .long ow, .long off, .long go])), (a1, .inl (c1, 24, .inr (.inl (ck_uL (ck_ivk x a b) lo x a)))), (a2, .inl (c2, 24, .inr (.inl (ck_uL (ck_ivk x a b) hi x b))))] (va_A [(h, .inr (0, [.ref a1, .ref a2, .int hd, .long ow, .long off, .long go])), (a1, .inl (c1, 24, .inr (.inl lo))), (a2, .inl (c2, 24, .inr (.inl hi)))] sz)) 0 0 (va_A [(h, .inr (0, [.ref a1, .ref a2, .int hd, .long ow, .long off, .long go])), (a1, .inl (c1, 24, .inr (.inl lo))), (a2, .inl (c2, 24, .inr (.inl hi)))] sz) := by
  refine Met.ofW (cc := cX0_interval) (maxL := 6) (ret := (some .boolean)) (by decide) rfl ?_
  intro p e s m args below meth c s₁ B hml hv
  obtain ⟨rfl, hsz, hP, hK, hD0⟩ := hv
  have hx := B.exec
  have hb := B.bytes
  have hr := B.returns
  have hts := atoms_spec (ws := wsX0_interval) B.pre
  have hown : s.vm.findClass RX0 = some m.cls := findClass_of_methodNamed B.named
  have hlocks := B.notSynchronized
  have hin : ∀ w ∈ wsX00, w ∈ wsX0_interval := fun _ h => List.mem_cons_of_mem _ (List.mem_append_right _ h)
  subst hsz
  have hD := hD0.self (sz := s.heap.size)
  generalize hAe : va_A [(h, .inr (0, [.ref a1, .ref a2, .int hd, .long ow, .long off, .long go])), (a1, .inl (c1, 24, .inr (.inl lo))), (a2, .inl (c2, 24, .inr (.inl hi)))] s.heap.size = A at hD ⊢
  have hA : ∀ q : Nat, s.heap.size ≤ q → A q := fun q h => by rw [← hAe]; exact Or.inr h
  have hS : va_S A s.heap s.heap [] := va_S.rf
  have hl := lv_entry ([.ref h, .int x, .long a, .long b]) (n := 6) (Nat.le_of_ble_eq_true rfl)
  rw [lg_entry_eq]
  generalize (lg_sl ([.ref h, .int x, .long a, .long b]) ++ List.replicate (6 - (lg_sl ([.ref h, .int x, .long a, .long b])).length) Slot.unset).toArray = ls at hl ⊢
  have hl : lv_has ls 6 [(0, .ref h), (1, .int x), (2, .long a), (4, .long b)] := hl
  refine lv_iload_n hx hb dX0_interval_0 rfl (lv_at hl 1 rfl) ?_
  refine ck_cS (As := [.int x]) (rest := []) ⟨hx, hb, hml, hown, hts⟩ (c_X0_isSource l x) (va_cwS 1 hts gX0_interval_X0_isSource rfl rfl rfl (by decide +kernel) ⟨Nat.le_of_ble_eq_true rfl, Nat.le_of_ble_eq_true rfl⟩) rfl hl.1 rfl (Nat.le_of_ble_eq_true rfl) dX0_interval_1 ⟨Nat.le_of_ble_eq_true rfl, Nat.le_of_ble_eq_true rfl⟩ ?_
  refine lv_if_eq (tgt := 31) hx hb dX0_interval_4 (by decide) (fun c_1 => ?_) (fun c_1 => ?_)
  · have c_1 := ck_bf c_1
    refine lv_iconst (v := 0) hx hb dX0_interval_31 (by decide) ?_
    have hw_lo : lo = (ck_uL (ck_ivk x a b) lo x a) := by simp [ck_uL, ck_uH, ck_ivk, c_1]
    have hw_hi : hi = (ck_uL (ck_ivk x a b) hi x b) := by simp [ck_uL, ck_uH, ck_ivk, c_1]
    have hw_hd : hd = (ck_uH (ck_ivk x a b) hd x) := by simp [ck_uL, ck_uH, ck_ivk, c_1]
    have hP9 : va_P D vwCl [(h, .inr (0, [.ref a1, .ref a2, .int (ck_uH (ck_ivk x a b) hd x), .long ow, .long off, .long go])), (a1, .inl (c1, 24, .inr (.inl (ck_uL (ck_ivk x a b) lo x a)))), (a2, .inl (c2, 24, .inr (.inl (ck_uL (ck_ivk x a b) hi x b))))] s.heap := by rw [← hw_lo, ← hw_hi, ← hw_hd]; exact hP
    have hD9 : va_D A [(h, .inr (0, [.ref a1, .ref a2, .int (ck_uH (ck_ivk x a b) hd x), .long ow, .long off, .long go])), (a1, .inl (c1, 24, .inr (.inl (ck_uL (ck_ivk x a b) lo x a)))), (a2, .inl (c2, 24, .inr (.inl (ck_uL (ck_ivk x a b) hi x b))))] := by rw [← hw_lo, ← hw_hi, ← hw_hd]; exact hD
    have hres : 0 = (ck_b (ck_ivk x a b)) := by simp [ck_ivk, ck_b, c_1]
    exact W.zret (ty := .boolean) (v := 0) hx hb hr rfl (fun t ht _ => ⟨congrArg (fun z => Outcome.returned (some (Value.int z))) hres, by rw [ht]; exact hP9, hD9, hS.F ht⟩) hS.2.2 dX0_interval_32
  · have c_1 := ck_bt c_1
    obtain ⟨jx, hjx, rfl⟩ := ck_srcE c_1
    have hcjx : (nI jx).toNatClampNeg = jx := nI_clamp (by omega)
    refine lv_lload_n hx hb dX0_interval_7 rfl (lv_at hl 2 rfl) ?_
    refine lv_ldc2 (v := ck_NFAR) hx hb hown (hts (.constantLong RX0 34 ck_NFAR) (by decide +kernel)) dX0_interval_8 ?_
    refine W.lcmp hx hb dX0_interval_11 ?_
    refine lv_if_lt (tgt := 31) hx hb dX0_interval_12 (by decide) (fun c_2 => ?_) (fun c_2 => ?_)
    · rw [lg_cmp_lt] at c_2
      refine lv_iconst (v := 0) hx hb dX0_interval_31 (by decide) ?_
      have hw_lo : lo = (ck_uL (ck_ivk (nI jx) a b) lo (nI jx) a) := by simp [ck_uL, ck_uH, ck_ivk, c_1, hcjx, c_2]
      have hw_hi : hi = (ck_uL (ck_ivk (nI jx) a b) hi (nI jx) b) := by simp [ck_uL, ck_uH, ck_ivk, c_1, hcjx, c_2]
      have hw_hd : hd = (ck_uH (ck_ivk (nI jx) a b) hd (nI jx)) := by simp [ck_uL, ck_uH, ck_ivk, c_1, hcjx, c_2]
      have hP9 : va_P D vwCl [(h, .inr (0, [.ref a1, .ref a2, .int (ck_uH (ck_ivk (nI jx) a b) hd (nI jx)), .long ow, .long off, .long go])), (a1, .inl (c1, 24, .inr (.inl (ck_uL (ck_ivk (nI jx) a b) lo (nI jx) a)))), (a2, .inl (c2, 24, .inr (.inl (ck_uL (ck_ivk (nI jx) a b) hi (nI jx) b))))] s.heap := by rw [← hw_lo, ← hw_hi, ← hw_hd]; exact hP
      have hD9 : va_D A [(h, .inr (0, [.ref a1, .ref a2, .int (ck_uH (ck_ivk (nI jx) a b) hd (nI jx)), .long ow, .long off, .long go])), (a1, .inl (c1, 24, .inr (.inl (ck_uL (ck_ivk (nI jx) a b) lo (nI jx) a)))), (a2, .inl (c2, 24, .inr (.inl (ck_uL (ck_ivk (nI jx) a b) hi (nI jx) b))))] := by rw [← hw_lo, ← hw_hi, ← hw_hd]; exact hD
      have hres : 0 = (ck_b (ck_ivk (nI jx) a b)) := by simp [ck_ivk, ck_b, c_1, hcjx, c_2]
      exact W.zret (ty := .boolean) (v := 0) hx hb hr rfl (fun t ht _ => ⟨congrArg (fun z => Outcome.returned (some (Value.int z))) hres, by rw [ht]; exact hP9, hD9, hS.F ht⟩) hS.2.2 dX0_interval_32
    · rw [lg_cmp_lt] at c_2
      refine lv_lload_n hx hb dX0_interval_15 rfl (lv_at hl 2 rfl) ?_
      refine lv_lload hx hb dX0_interval_16 (lv_at hl 3 rfl) ?_
      refine W.lcmp hx hb dX0_interval_18 ?_
      refine lv_if_gt (tgt := 31) hx hb dX0_interval_19 (by decide) (fun c_3 => ?_) (fun c_3 => ?_)
      · rw [lg_cmp_gt] at c_3
        refine lv_iconst (v := 0) hx hb dX0_interval_31 (by decide) ?_
        have hw_lo : lo = (ck_uL (ck_ivk (nI jx) a b) lo (nI jx) a) := by simp [ck_uL, ck_uH, ck_ivk, c_1, hcjx, c_2, c_3]
        have hw_hi : hi = (ck_uL (ck_ivk (nI jx) a b) hi (nI jx) b) := by simp [ck_uL, ck_uH, ck_ivk, c_1, hcjx, c_2, c_3]
        have hw_hd : hd = (ck_uH (ck_ivk (nI jx) a b) hd (nI jx)) := by simp [ck_uL, ck_uH, ck_ivk, c_1, hcjx, c_2, c_3]
        have hP9 : va_P D vwCl [(h, .inr (0, [.ref a1, .ref a2, .int (ck_uH (ck_ivk (nI jx) a b) hd (nI jx)), .long ow, .long off, .long go])), (a1, .inl (c1, 24, .inr (.inl (ck_uL (ck_ivk (nI jx) a b) lo (nI jx) a)))), (a2, .inl (c2, 24, .inr (.inl (ck_uL (ck_ivk (nI jx) a b) hi (nI jx) b))))] s.heap := by rw [← hw_lo, ← hw_hi, ← hw_hd]; exact hP
        have hD9 : va_D A [(h, .inr (0, [.ref a1, .ref a2, .int (ck_uH (ck_ivk (nI jx) a b) hd (nI jx)), .long ow, .long off, .long go])), (a1, .inl (c1, 24, .inr (.inl (ck_uL (ck_ivk (nI jx) a b) lo (nI jx) a)))), (a2, .inl (c2, 24, .inr (.inl (ck_uL (ck_ivk (nI jx) a b) hi (nI jx) b))))] := by rw [← hw_lo, ← hw_hi, ← hw_hd]; exact hD
        have hres : 0 = (ck_b (ck_ivk (nI jx) a b)) := by simp [ck_ivk, ck_b, c_1, hcjx, c_2, c_3]
        exact W.zret (ty := .boolean) (v := 0) hx hb hr rfl (fun t ht _ => ⟨congrArg (fun z => Outcome.returned (some (Value.int z))) hres, by rw [ht]; exact hP9, hD9, hS.F ht⟩) hS.2.2 dX0_interval_32
      · rw [lg_cmp_gt] at c_3
        refine lv_lload hx hb dX0_interval_22 (lv_at hl 3 rfl) ?_
        refine lv_ldc2 (v := ck_FAR) hx hb hown (hts (.constantLong RX0 36 ck_FAR) (by decide +kernel)) dX0_interval_24 ?_
        refine W.lcmp hx hb dX0_interval_27 ?_
        refine lv_if_le (tgt := 33) hx hb dX0_interval_28 (by decide) (fun c_4 => ?_) (fun c_4 => ?_)
        · rw [lg_cmp_le] at c_4
          refine lv_aload_n hx hb dX0_interval_33 rfl (lv_at hl 0 rfl) ?_
          refine lv_iload_n hx hb dX0_interval_34 rfl (lv_at hl 1 rfl) ?_
          refine lv_lload_n hx hb dX0_interval_35 rfl (lv_at hl 2 rfl) ?_
          refine lv_lload hx hb dX0_interval_36 (lv_at hl 3 rfl) ?_
          refine ck_wV (As := [.int (nI jx), .long a, .long b]) (rest := []) (wc := [(h, .inr (0, [.ref a1, .ref a2, .int hd, .long ow, .long off, .long go])), (a1, .inl (c1, 24, .inr (.inl lo))), (a2, .inl (c2, 24, .inr (.inl hi)))]) (wr := []) (w1 := [(h, .inr (0, [.ref a1, .ref a2, .int (hd ||| (1 <<< ((nI jx) &&& 31))), .long ow, .long off, .long go])), (a1, .inl (c1, 24, .inr (.inl (vp_updL lo jx a)))), (a2, .inl (c2, 24, .inr (.inl (vp_updL hi jx b))))]) (v := none) ⟨hx, hb, hml, hown, hts⟩ (c_X0_hold l D h a1 a2 c1 c2 lo hi hd ow off go _ a b jx hjx) (cwV 3 hts gX0_interval_X0_hold rfl rfl rfl (by decide +kernel) ⟨Nat.le_of_ble_eq_true rfl, Nat.le_of_ble_eq_true rfl⟩) hP hD hS hA hK [0, 1, 2] [] rfl hP hD rfl rfl (by decide) (va_recv hK hP (ci := 0) (q0 := 0) rfl rfl) rfl hl.1 rfl (Nat.le_of_ble_eq_true rfl) dX0_interval_38 ⟨Nat.le_of_ble_eq_true rfl, Nat.le_of_ble_eq_true rfl⟩ (fun H locs hP hD hS => ?_)
          have hP : va_P D vwCl [(h, .inr (0, [.ref a1, .ref a2, .int (hd ||| (1 <<< ((nI jx) &&& 31))), .long ow, .long off, .long go])), (a1, .inl (c1, 24, .inr (.inl (vp_updL lo jx a)))), (a2, .inl (c2, 24, .inr (.inl (vp_updL hi jx b))))] H := hP
          have hD : va_D A [(h, .inr (0, [.ref a1, .ref a2, .int (hd ||| (1 <<< ((nI jx) &&& 31))), .long ow, .long off, .long go])), (a1, .inl (c1, 24, .inr (.inl (vp_updL lo jx a)))), (a2, .inl (c2, 24, .inr (.inl (vp_updL hi jx b))))] := hD
          refine lv_iconst (v := 1) hx hb dX0_interval_41 (by decide) ?_
          have hw_lo : (vp_updL lo jx a) = (ck_uL (ck_ivk (nI jx) a b) lo (nI jx) a) := by simp [ck_uL, ck_uH, ck_ivk, c_1, hcjx, c_2, c_3, c_4]
          have hw_hi : (vp_updL hi jx b) = (ck_uL (ck_ivk (nI jx) a b) hi (nI jx) b) := by simp [ck_uL, ck_uH, ck_ivk, c_1, hcjx, c_2, c_3, c_4]
          have hw_hd : (hd ||| (1 <<< ((nI jx) &&& 31))) = (ck_uH (ck_ivk (nI jx) a b) hd (nI jx)) := by simp [ck_uL, ck_uH, ck_ivk, c_1, hcjx, c_2, c_3, c_4]
          have hP9 : va_P D vwCl [(h, .inr (0, [.ref a1, .ref a2, .int (ck_uH (ck_ivk (nI jx) a b) hd (nI jx)), .long ow, .long off, .long go])), (a1, .inl (c1, 24, .inr (.inl (ck_uL (ck_ivk (nI jx) a b) lo (nI jx) a)))), (a2, .inl (c2, 24, .inr (.inl (ck_uL (ck_ivk (nI jx) a b) hi (nI jx) b))))] H := by rw [← hw_lo, ← hw_hi, ← hw_hd]; exact hP
          have hD9 : va_D A [(h, .inr (0, [.ref a1, .ref a2, .int (ck_uH (ck_ivk (nI jx) a b) hd (nI jx)), .long ow, .long off, .long go])), (a1, .inl (c1, 24, .inr (.inl (ck_uL (ck_ivk (nI jx) a b) lo (nI jx) a)))), (a2, .inl (c2, 24, .inr (.inl (ck_uL (ck_ivk (nI jx) a b) hi (nI jx) b))))] := by rw [← hw_lo, ← hw_hi, ← hw_hd]; exact hD
          have hres : 1 = (ck_b (ck_ivk (nI jx) a b)) := by simp [ck_ivk, ck_b, c_1, hcjx, c_2, c_3, c_4]
          exact W.zret (ty := .boolean) (v := 1) hx hb hr rfl (fun t ht _ => ⟨congrArg (fun z => Outcome.returned (some (Value.int z))) hres, by rw [ht]; exact hP9, hD9, hS.F ht⟩) hS.2.2 dX0_interval_42
        · rw [lg_cmp_le] at c_4
          refine lv_iconst (v := 0) hx hb dX0_interval_31 (by decide) ?_
          have hw_lo : lo = (ck_uL (ck_ivk (nI jx) a b) lo (nI jx) a) := by simp [ck_uL, ck_uH, ck_ivk, c_1, hcjx, c_2, c_3, c_4]
          have hw_hi : hi = (ck_uL (ck_ivk (nI jx) a b) hi (nI jx) b) := by simp [ck_uL, ck_uH, ck_ivk, c_1, hcjx, c_2, c_3, c_4]
          have hw_hd : hd = (ck_uH (ck_ivk (nI jx) a b) hd (nI jx)) := by simp [ck_uL, ck_uH, ck_ivk, c_1, hcjx, c_2, c_3, c_4]
          have hP9 : va_P D vwCl [(h, .inr (0, [.ref a1, .ref a2, .int (ck_uH (ck_ivk (nI jx) a b) hd (nI jx)), .long ow, .long off, .long go])), (a1, .inl (c1, 24, .inr (.inl (ck_uL (ck_ivk (nI jx) a b) lo (nI jx) a)))), (a2, .inl (c2, 24, .inr (.inl (ck_uL (ck_ivk (nI jx) a b) hi (nI jx) b))))] s.heap := by rw [← hw_lo, ← hw_hi, ← hw_hd]; exact hP
          have hD9 : va_D A [(h, .inr (0, [.ref a1, .ref a2, .int (ck_uH (ck_ivk (nI jx) a b) hd (nI jx)), .long ow, .long off, .long go])), (a1, .inl (c1, 24, .inr (.inl (ck_uL (ck_ivk (nI jx) a b) lo (nI jx) a)))), (a2, .inl (c2, 24, .inr (.inl (ck_uL (ck_ivk (nI jx) a b) hi (nI jx) b))))] := by rw [← hw_lo, ← hw_hi, ← hw_hd]; exact hD
          have hres : 0 = (ck_b (ck_ivk (nI jx) a b)) := by simp [ck_ivk, ck_b, c_1, hcjx, c_2, c_3, c_4]
          exact W.zret (ty := .boolean) (v := 0) hx hb hr rfl (fun t ht _ => ⟨congrArg (fun z => Outcome.returned (some (Value.int z))) hres, by rw [ht]; exact hP9, hD9, hS.F ht⟩) hS.2.2 dX0_interval_32

set_option maxHeartbeats 4000000 in
set_option maxRecDepth 100000 in
theorem c_X0_exchange (l : Launch) (D : va_G) (h a1 a2 : Nat) (c1 c2 : ClassId) (lo hi : Nat → Int64) (hd : Int32) (ow off go : Int64) (sz : Nat) (x : Int32) (sn : Int64) (td : Int64) (cm : Int64)  : Met l yX0_exchange wsX0_exchange { frames := 2, cells := 0, slots := 0, locals := 46 } (va_Pc [.ref h, .int x, .long sn, .long td, .long cm] (ck_Cw D [(h, .inr (0, [.ref a1, .ref a2, .int hd, .long ow, .long off, .long go])), (a1, .inl (c1, 24, .inr (.inl lo))), (a2, .inl (c2, 24, .inr (.inl hi)))] (xT c1 c2) sz)) (ck_Wr (some (.long (ck_exv x sn td cm))) D [(h, .inr (0, [.ref a1, .ref a2, .int (ck_uH (ck_exk x sn td cm) hd x), .long ow, .long off, .long go])), (a1, .inl (c1, 24, .inr (.inl (ck_uL (ck_exk x sn td cm) lo x (td - cm))))), (a2, .inl (c2, 24, .inr (.inl (ck_uL (ck_exk x sn td cm) hi x (td - sn)))))] (va_A [(h, .inr (0, [.ref a1, .ref a2, .int hd, .long ow, .long off, .long go])), (a1, .inl (c1, 24, .inr (.inl lo))), (a2, .inl (c2, 24, .inr (.inl hi)))] sz)) 0 0 (va_A [(h, .inr (0, [.ref a1, .ref a2, .int hd, .long ow, .long off, .long go])), (a1, .inl (c1, 24, .inr (.inl lo))), (a2, .inl (c2, 24, .inr (.inl hi)))] sz) := by
  refine Met.ofW (cc := cX0_exchange) (maxL := 8) (ret := (some .long)) (by decide) rfl ?_
  intro p e s m args below meth c s₁ B hml hv
  obtain ⟨rfl, hsz, hP, hK, hD0⟩ := hv
  have hx := B.exec
  have hb := B.bytes
  have hr := B.returns
  have hts := atoms_spec (ws := wsX0_exchange) B.pre
  have hown : s.vm.findClass RX0 = some m.cls := findClass_of_methodNamed B.named
  have hlocks := B.notSynchronized
  have hin : ∀ w ∈ wsX00, w ∈ wsX0_exchange := fun _ h => List.mem_cons_of_mem _ (List.mem_append_right _ h)
  subst hsz
  have hD := hD0.self (sz := s.heap.size)
  generalize hAe : va_A [(h, .inr (0, [.ref a1, .ref a2, .int hd, .long ow, .long off, .long go])), (a1, .inl (c1, 24, .inr (.inl lo))), (a2, .inl (c2, 24, .inr (.inl hi)))] s.heap.size = A at hD ⊢
  have hA : ∀ q : Nat, s.heap.size ≤ q → A q := fun q h => by rw [← hAe]; exact Or.inr h
  have hS : va_S A s.heap s.heap [] := va_S.rf
  have hl := lv_entry ([.ref h, .int x, .long sn, .long td, .long cm]) (n := 8) (Nat.le_of_ble_eq_true rfl)
  rw [lg_entry_eq]
  generalize (lg_sl ([.ref h, .int x, .long sn, .long td, .long cm]) ++ List.replicate (8 - (lg_sl ([.ref h, .int x, .long sn, .long td, .long cm])).length) Slot.unset).toArray = ls at hl ⊢
  have hl : lv_has ls 8 [(0, .ref h), (1, .int x), (2, .long sn), (4, .long td), (6, .long cm)] := hl
  refine lv_iload_n hx hb dX0_exchange_0 rfl (lv_at hl 1 rfl) ?_
  refine ck_cS (As := [.int x]) (rest := []) ⟨hx, hb, hml, hown, hts⟩ (c_X0_isSource l x) (va_cwS 1 hts gX0_exchange_X0_isSource rfl rfl rfl (by decide +kernel) ⟨Nat.le_of_ble_eq_true rfl, Nat.le_of_ble_eq_true rfl⟩) rfl hl.1 rfl (Nat.le_of_ble_eq_true rfl) dX0_exchange_1 ⟨Nat.le_of_ble_eq_true rfl, Nat.le_of_ble_eq_true rfl⟩ ?_
  refine lv_if_eq (tgt := 37) hx hb dX0_exchange_4 (by decide) (fun c_1 => ?_) (fun c_1 => ?_)
  · have c_1 := ck_bf c_1
    refine lv_ldc2 (v := ck_NO) hx hb hown (hts (.constantLong RX0 46 ck_NO) (by decide +kernel)) dX0_exchange_37 ?_
    have hw_lo : lo = (ck_uL (ck_exk x sn td cm) lo x (td - cm)) := by simp [ck_uL, ck_uH, ck_exk, c_1]
    have hw_hi : hi = (ck_uL (ck_exk x sn td cm) hi x (td - sn)) := by simp [ck_uL, ck_uH, ck_exk, c_1]
    have hw_hd : hd = (ck_uH (ck_exk x sn td cm) hd x) := by simp [ck_uL, ck_uH, ck_exk, c_1]
    have hP9 : va_P D vwCl [(h, .inr (0, [.ref a1, .ref a2, .int (ck_uH (ck_exk x sn td cm) hd x), .long ow, .long off, .long go])), (a1, .inl (c1, 24, .inr (.inl (ck_uL (ck_exk x sn td cm) lo x (td - cm))))), (a2, .inl (c2, 24, .inr (.inl (ck_uL (ck_exk x sn td cm) hi x (td - sn)))))] s.heap := by rw [← hw_lo, ← hw_hi, ← hw_hd]; exact hP
    have hD9 : va_D A [(h, .inr (0, [.ref a1, .ref a2, .int (ck_uH (ck_exk x sn td cm) hd x), .long ow, .long off, .long go])), (a1, .inl (c1, 24, .inr (.inl (ck_uL (ck_exk x sn td cm) lo x (td - cm))))), (a2, .inl (c2, 24, .inr (.inl (ck_uL (ck_exk x sn td cm) hi x (td - sn)))))] := by rw [← hw_lo, ← hw_hi, ← hw_hd]; exact hD
    have hres : ck_NO = (ck_exv x sn td cm) := by simp [ck_exv, ck_exk, c_1]
    exact W.lret (v := ck_NO) hx hb hr (fun t ht _ => ⟨congrArg (fun z => Outcome.returned (some (Value.long z))) hres, by rw [ht]; exact hP9, hD9, hS.F ht⟩) hS.2.2 dX0_exchange_40
  · have c_1 := ck_bt c_1
    obtain ⟨jx, hjx, rfl⟩ := ck_srcE c_1
    have hcjx : (nI jx).toNatClampNeg = jx := nI_clamp (by omega)
    refine lv_lload_n hx hb dX0_exchange_7 rfl (lv_at hl 2 rfl) ?_
    refine ck_cS (As := [.long sn]) (rest := []) ⟨hx, hb, hml, hown, hts⟩ (c_X0_isTime l sn) (va_cwS 1 hts gX0_exchange_X0_isTime rfl rfl rfl (by decide +kernel) ⟨Nat.le_of_ble_eq_true rfl, Nat.le_of_ble_eq_true rfl⟩) rfl hl.1 rfl (Nat.le_of_ble_eq_true rfl) dX0_exchange_8 ⟨Nat.le_of_ble_eq_true rfl, Nat.le_of_ble_eq_true rfl⟩ ?_
    refine lv_if_eq (tgt := 37) hx hb dX0_exchange_11 (by decide) (fun c_2 => ?_) (fun c_2 => ?_)
    · have c_2 := ck_bf c_2
      refine lv_ldc2 (v := ck_NO) hx hb hown (hts (.constantLong RX0 46 ck_NO) (by decide +kernel)) dX0_exchange_37 ?_
      have hw_lo : lo = (ck_uL (ck_exk (nI jx) sn td cm) lo (nI jx) (td - cm)) := by simp [ck_uL, ck_uH, ck_exk, c_1, hcjx, c_2]
      have hw_hi : hi = (ck_uL (ck_exk (nI jx) sn td cm) hi (nI jx) (td - sn)) := by simp [ck_uL, ck_uH, ck_exk, c_1, hcjx, c_2]
      have hw_hd : hd = (ck_uH (ck_exk (nI jx) sn td cm) hd (nI jx)) := by simp [ck_uL, ck_uH, ck_exk, c_1, hcjx, c_2]
      have hP9 : va_P D vwCl [(h, .inr (0, [.ref a1, .ref a2, .int (ck_uH (ck_exk (nI jx) sn td cm) hd (nI jx)), .long ow, .long off, .long go])), (a1, .inl (c1, 24, .inr (.inl (ck_uL (ck_exk (nI jx) sn td cm) lo (nI jx) (td - cm))))), (a2, .inl (c2, 24, .inr (.inl (ck_uL (ck_exk (nI jx) sn td cm) hi (nI jx) (td - sn)))))] s.heap := by rw [← hw_lo, ← hw_hi, ← hw_hd]; exact hP
      have hD9 : va_D A [(h, .inr (0, [.ref a1, .ref a2, .int (ck_uH (ck_exk (nI jx) sn td cm) hd (nI jx)), .long ow, .long off, .long go])), (a1, .inl (c1, 24, .inr (.inl (ck_uL (ck_exk (nI jx) sn td cm) lo (nI jx) (td - cm))))), (a2, .inl (c2, 24, .inr (.inl (ck_uL (ck_exk (nI jx) sn td cm) hi (nI jx) (td - sn)))))] := by rw [← hw_lo, ← hw_hi, ← hw_hd]; exact hD
      have hres : ck_NO = (ck_exv (nI jx) sn td cm) := by simp [ck_exv, ck_exk, c_1, hcjx, c_2]
      exact W.lret (v := ck_NO) hx hb hr (fun t ht _ => ⟨congrArg (fun z => Outcome.returned (some (Value.long z))) hres, by rw [ht]; exact hP9, hD9, hS.F ht⟩) hS.2.2 dX0_exchange_40
    · have c_2 := ck_bt c_2
      refine lv_lload hx hb dX0_exchange_14 (lv_at hl 3 rfl) ?_
      refine ck_cS (As := [.long td]) (rest := []) ⟨hx, hb, hml, hown, hts⟩ (c_X0_isTime l td) (va_cwS 1 hts gX0_exchange_X0_isTime rfl rfl rfl (by decide +kernel) ⟨Nat.le_of_ble_eq_true rfl, Nat.le_of_ble_eq_true rfl⟩) rfl hl.1 rfl (Nat.le_of_ble_eq_true rfl) dX0_exchange_16 ⟨Nat.le_of_ble_eq_true rfl, Nat.le_of_ble_eq_true rfl⟩ ?_
      refine lv_if_eq (tgt := 37) hx hb dX0_exchange_19 (by decide) (fun c_3 => ?_) (fun c_3 => ?_)
      · have c_3 := ck_bf c_3
        refine lv_ldc2 (v := ck_NO) hx hb hown (hts (.constantLong RX0 46 ck_NO) (by decide +kernel)) dX0_exchange_37 ?_
        have hw_lo : lo = (ck_uL (ck_exk (nI jx) sn td cm) lo (nI jx) (td - cm)) := by simp [ck_uL, ck_uH, ck_exk, c_1, hcjx, c_2, c_3]
        have hw_hi : hi = (ck_uL (ck_exk (nI jx) sn td cm) hi (nI jx) (td - sn)) := by simp [ck_uL, ck_uH, ck_exk, c_1, hcjx, c_2, c_3]
        have hw_hd : hd = (ck_uH (ck_exk (nI jx) sn td cm) hd (nI jx)) := by simp [ck_uL, ck_uH, ck_exk, c_1, hcjx, c_2, c_3]
        have hP9 : va_P D vwCl [(h, .inr (0, [.ref a1, .ref a2, .int (ck_uH (ck_exk (nI jx) sn td cm) hd (nI jx)), .long ow, .long off, .long go])), (a1, .inl (c1, 24, .inr (.inl (ck_uL (ck_exk (nI jx) sn td cm) lo (nI jx) (td - cm))))), (a2, .inl (c2, 24, .inr (.inl (ck_uL (ck_exk (nI jx) sn td cm) hi (nI jx) (td - sn)))))] s.heap := by rw [← hw_lo, ← hw_hi, ← hw_hd]; exact hP
        have hD9 : va_D A [(h, .inr (0, [.ref a1, .ref a2, .int (ck_uH (ck_exk (nI jx) sn td cm) hd (nI jx)), .long ow, .long off, .long go])), (a1, .inl (c1, 24, .inr (.inl (ck_uL (ck_exk (nI jx) sn td cm) lo (nI jx) (td - cm))))), (a2, .inl (c2, 24, .inr (.inl (ck_uL (ck_exk (nI jx) sn td cm) hi (nI jx) (td - sn)))))] := by rw [← hw_lo, ← hw_hi, ← hw_hd]; exact hD
        have hres : ck_NO = (ck_exv (nI jx) sn td cm) := by simp [ck_exv, ck_exk, c_1, hcjx, c_2, c_3]
        exact W.lret (v := ck_NO) hx hb hr (fun t ht _ => ⟨congrArg (fun z => Outcome.returned (some (Value.long z))) hres, by rw [ht]; exact hP9, hD9, hS.F ht⟩) hS.2.2 dX0_exchange_40
      · have c_3 := ck_bt c_3
        refine lv_lload hx hb dX0_exchange_22 (lv_at hl 4 rfl) ?_
        refine ck_cS (As := [.long cm]) (rest := []) ⟨hx, hb, hml, hown, hts⟩ (c_X0_isTime l cm) (va_cwS 1 hts gX0_exchange_X0_isTime rfl rfl rfl (by decide +kernel) ⟨Nat.le_of_ble_eq_true rfl, Nat.le_of_ble_eq_true rfl⟩) rfl hl.1 rfl (Nat.le_of_ble_eq_true rfl) dX0_exchange_24 ⟨Nat.le_of_ble_eq_true rfl, Nat.le_of_ble_eq_true rfl⟩ ?_
        refine lv_if_eq (tgt := 37) hx hb dX0_exchange_27 (by decide) (fun c_4 => ?_) (fun c_4 => ?_)
        · have c_4 := ck_bf c_4
          refine lv_ldc2 (v := ck_NO) hx hb hown (hts (.constantLong RX0 46 ck_NO) (by decide +kernel)) dX0_exchange_37 ?_
          have hw_lo : lo = (ck_uL (ck_exk (nI jx) sn td cm) lo (nI jx) (td - cm)) := by simp [ck_uL, ck_uH, ck_exk, c_1, hcjx, c_2, c_3, c_4]
          have hw_hi : hi = (ck_uL (ck_exk (nI jx) sn td cm) hi (nI jx) (td - sn)) := by simp [ck_uL, ck_uH, ck_exk, c_1, hcjx, c_2, c_3, c_4]
          have hw_hd : hd = (ck_uH (ck_exk (nI jx) sn td cm) hd (nI jx)) := by simp [ck_uL, ck_uH, ck_exk, c_1, hcjx, c_2, c_3, c_4]
          have hP9 : va_P D vwCl [(h, .inr (0, [.ref a1, .ref a2, .int (ck_uH (ck_exk (nI jx) sn td cm) hd (nI jx)), .long ow, .long off, .long go])), (a1, .inl (c1, 24, .inr (.inl (ck_uL (ck_exk (nI jx) sn td cm) lo (nI jx) (td - cm))))), (a2, .inl (c2, 24, .inr (.inl (ck_uL (ck_exk (nI jx) sn td cm) hi (nI jx) (td - sn)))))] s.heap := by rw [← hw_lo, ← hw_hi, ← hw_hd]; exact hP
          have hD9 : va_D A [(h, .inr (0, [.ref a1, .ref a2, .int (ck_uH (ck_exk (nI jx) sn td cm) hd (nI jx)), .long ow, .long off, .long go])), (a1, .inl (c1, 24, .inr (.inl (ck_uL (ck_exk (nI jx) sn td cm) lo (nI jx) (td - cm))))), (a2, .inl (c2, 24, .inr (.inl (ck_uL (ck_exk (nI jx) sn td cm) hi (nI jx) (td - sn)))))] := by rw [← hw_lo, ← hw_hi, ← hw_hd]; exact hD
          have hres : ck_NO = (ck_exv (nI jx) sn td cm) := by simp [ck_exv, ck_exk, c_1, hcjx, c_2, c_3, c_4]
          exact W.lret (v := ck_NO) hx hb hr (fun t ht _ => ⟨congrArg (fun z => Outcome.returned (some (Value.long z))) hres, by rw [ht]; exact hP9, hD9, hS.F ht⟩) hS.2.2 dX0_exchange_40
        · have c_4 := ck_bt c_4
          refine lv_lload_n hx hb dX0_exchange_30 rfl (lv_at hl 2 rfl) ?_
          refine lv_lload hx hb dX0_exchange_31 (lv_at hl 4 rfl) ?_
          refine W.lcmp hx hb dX0_exchange_33 ?_
          refine lv_if_le (tgt := 41) hx hb dX0_exchange_34 (by decide) (fun c_5 => ?_) (fun c_5 => ?_)
          · rw [lg_cmp_le] at c_5
            refine lv_aload_n hx hb dX0_exchange_41 rfl (lv_at hl 0 rfl) ?_
            refine lv_iload_n hx hb dX0_exchange_42 rfl (lv_at hl 1 rfl) ?_
            refine lv_lload hx hb dX0_exchange_43 (lv_at hl 3 rfl) ?_
            refine lv_lload hx hb dX0_exchange_45 (lv_at hl 4 rfl) ?_
            refine lv_lsub hx hb dX0_exchange_47 ?_
            refine lv_lload hx hb dX0_exchange_48 (lv_at hl 3 rfl) ?_
            refine lv_lload_n hx hb dX0_exchange_50 rfl (lv_at hl 2 rfl) ?_
            refine lv_lsub hx hb dX0_exchange_51 ?_
            refine ck_wV (As := [.int (nI jx), .long (td - cm), .long (td - sn)]) (rest := []) (wc := [(h, .inr (0, [.ref a1, .ref a2, .int hd, .long ow, .long off, .long go])), (a1, .inl (c1, 24, .inr (.inl lo))), (a2, .inl (c2, 24, .inr (.inl hi)))]) (wr := []) (w1 := [(h, .inr (0, [.ref a1, .ref a2, .int (hd ||| (1 <<< ((nI jx) &&& 31))), .long ow, .long off, .long go])), (a1, .inl (c1, 24, .inr (.inl (vp_updL lo jx (td - cm))))), (a2, .inl (c2, 24, .inr (.inl (vp_updL hi jx (td - sn)))))]) (v := none) ⟨hx, hb, hml, hown, hts⟩ (c_X0_hold l D h a1 a2 c1 c2 lo hi hd ow off go _ (td - cm) (td - sn) jx hjx) (cwV 3 hts gX0_exchange_X0_hold rfl rfl rfl (by decide +kernel) ⟨Nat.le_of_ble_eq_true rfl, Nat.le_of_ble_eq_true rfl⟩) hP hD hS hA hK [0, 1, 2] [] rfl hP hD rfl rfl (by decide) (va_recv hK hP (ci := 0) (q0 := 0) rfl rfl) rfl hl.1 rfl (Nat.le_of_ble_eq_true rfl) dX0_exchange_52 ⟨Nat.le_of_ble_eq_true rfl, Nat.le_of_ble_eq_true rfl⟩ (fun H locs hP hD hS => ?_)
            have hP : va_P D vwCl [(h, .inr (0, [.ref a1, .ref a2, .int (hd ||| (1 <<< ((nI jx) &&& 31))), .long ow, .long off, .long go])), (a1, .inl (c1, 24, .inr (.inl (vp_updL lo jx (td - cm))))), (a2, .inl (c2, 24, .inr (.inl (vp_updL hi jx (td - sn)))))] H := hP
            have hD : va_D A [(h, .inr (0, [.ref a1, .ref a2, .int (hd ||| (1 <<< ((nI jx) &&& 31))), .long ow, .long off, .long go])), (a1, .inl (c1, 24, .inr (.inl (vp_updL lo jx (td - cm))))), (a2, .inl (c2, 24, .inr (.inl (vp_updL hi jx (td - sn)))))] := hD
            refine lv_lload hx hb dX0_exchange_55 (lv_at hl 3 rfl) ?_
            refine lv_lload hx hb dX0_exchange_57 (lv_at hl 4 rfl) ?_
            refine lv_lload_n hx hb dX0_exchange_59 rfl (lv_at hl 2 rfl) ?_
            refine lv_lsub hx hb dX0_exchange_60 ?_
            refine ck_cS (As := [.long (cm - sn)]) (rest := [.long td]) ⟨hx, hb, hml, hown, hts⟩ (c_X0_half l (cm - sn)) (va_cwS 1 hts gX0_exchange_X0_half rfl rfl rfl (by decide +kernel) ⟨Nat.le_of_ble_eq_true rfl, Nat.le_of_ble_eq_true rfl⟩) rfl hl.1 rfl (Nat.le_of_ble_eq_true rfl) dX0_exchange_61 ⟨Nat.le_of_ble_eq_true rfl, Nat.le_of_ble_eq_true rfl⟩ ?_
            refine lv_ladd hx hb dX0_exchange_64 ?_
            refine lv_lload hx hb dX0_exchange_65 (lv_at hl 4 rfl) ?_
            refine lv_lsub hx hb dX0_exchange_67 ?_
            have hw_lo : (vp_updL lo jx (td - cm)) = (ck_uL (ck_exk (nI jx) sn td cm) lo (nI jx) (td - cm)) := by simp [ck_uL, ck_uH, ck_exk, c_1, hcjx, c_2, c_3, c_4, c_5]
            have hw_hi : (vp_updL hi jx (td - sn)) = (ck_uL (ck_exk (nI jx) sn td cm) hi (nI jx) (td - sn)) := by simp [ck_uL, ck_uH, ck_exk, c_1, hcjx, c_2, c_3, c_4, c_5]
            have hw_hd : (hd ||| (1 <<< ((nI jx) &&& 31))) = (ck_uH (ck_exk (nI jx) sn td cm) hd (nI jx)) := by simp [ck_uL, ck_uH, ck_exk, c_1, hcjx, c_2, c_3, c_4, c_5]
            have hP9 : va_P D vwCl [(h, .inr (0, [.ref a1, .ref a2, .int (ck_uH (ck_exk (nI jx) sn td cm) hd (nI jx)), .long ow, .long off, .long go])), (a1, .inl (c1, 24, .inr (.inl (ck_uL (ck_exk (nI jx) sn td cm) lo (nI jx) (td - cm))))), (a2, .inl (c2, 24, .inr (.inl (ck_uL (ck_exk (nI jx) sn td cm) hi (nI jx) (td - sn)))))] H := by rw [← hw_lo, ← hw_hi, ← hw_hd]; exact hP
            have hD9 : va_D A [(h, .inr (0, [.ref a1, .ref a2, .int (ck_uH (ck_exk (nI jx) sn td cm) hd (nI jx)), .long ow, .long off, .long go])), (a1, .inl (c1, 24, .inr (.inl (ck_uL (ck_exk (nI jx) sn td cm) lo (nI jx) (td - cm))))), (a2, .inl (c2, 24, .inr (.inl (ck_uL (ck_exk (nI jx) sn td cm) hi (nI jx) (td - sn)))))] := by rw [← hw_lo, ← hw_hi, ← hw_hd]; exact hD
            have hres : ((td + (ck_half (cm - sn))) - cm) = (ck_exv (nI jx) sn td cm) := by simp [ck_exv, ck_exk, c_1, hcjx, c_2, c_3, c_4, c_5]
            exact W.lret (v := ((td + (ck_half (cm - sn))) - cm)) hx hb hr (fun t ht _ => ⟨congrArg (fun z => Outcome.returned (some (Value.long z))) hres, by rw [ht]; exact hP9, hD9, hS.F ht⟩) hS.2.2 dX0_exchange_68
          · rw [lg_cmp_le] at c_5
            refine lv_ldc2 (v := ck_NO) hx hb hown (hts (.constantLong RX0 46 ck_NO) (by decide +kernel)) dX0_exchange_37 ?_
            have hw_lo : lo = (ck_uL (ck_exk (nI jx) sn td cm) lo (nI jx) (td - cm)) := by simp [ck_uL, ck_uH, ck_exk, c_1, hcjx, c_2, c_3, c_4, c_5]
            have hw_hi : hi = (ck_uL (ck_exk (nI jx) sn td cm) hi (nI jx) (td - sn)) := by simp [ck_uL, ck_uH, ck_exk, c_1, hcjx, c_2, c_3, c_4, c_5]
            have hw_hd : hd = (ck_uH (ck_exk (nI jx) sn td cm) hd (nI jx)) := by simp [ck_uL, ck_uH, ck_exk, c_1, hcjx, c_2, c_3, c_4, c_5]
            have hP9 : va_P D vwCl [(h, .inr (0, [.ref a1, .ref a2, .int (ck_uH (ck_exk (nI jx) sn td cm) hd (nI jx)), .long ow, .long off, .long go])), (a1, .inl (c1, 24, .inr (.inl (ck_uL (ck_exk (nI jx) sn td cm) lo (nI jx) (td - cm))))), (a2, .inl (c2, 24, .inr (.inl (ck_uL (ck_exk (nI jx) sn td cm) hi (nI jx) (td - sn)))))] s.heap := by rw [← hw_lo, ← hw_hi, ← hw_hd]; exact hP
            have hD9 : va_D A [(h, .inr (0, [.ref a1, .ref a2, .int (ck_uH (ck_exk (nI jx) sn td cm) hd (nI jx)), .long ow, .long off, .long go])), (a1, .inl (c1, 24, .inr (.inl (ck_uL (ck_exk (nI jx) sn td cm) lo (nI jx) (td - cm))))), (a2, .inl (c2, 24, .inr (.inl (ck_uL (ck_exk (nI jx) sn td cm) hi (nI jx) (td - sn)))))] := by rw [← hw_lo, ← hw_hi, ← hw_hd]; exact hD
            have hres : ck_NO = (ck_exv (nI jx) sn td cm) := by simp [ck_exv, ck_exk, c_1, hcjx, c_2, c_3, c_4, c_5]
            exact W.lret (v := ck_NO) hx hb hr (fun t ht _ => ⟨congrArg (fun z => Outcome.returned (some (Value.long z))) hres, by rw [ht]; exact hP9, hD9, hS.F ht⟩) hS.2.2 dX0_exchange_40

set_option maxHeartbeats 4000000 in
set_option maxRecDepth 100000 in
theorem c_X0_drop (l : Launch) (D : va_G) (h a1 a2 : Nat) (c1 c2 : ClassId) (lo hi : Nat → Int64) (hd : Int32) (ow off go : Int64) (sz : Nat) (x : Int32)  : Met l yX0_drop wsX0_drop { frames := 2, cells := 0, slots := 0, locals := 41 } (va_Pc [.ref h, .int x] (ck_Cw D [(h, .inr (0, [.ref a1, .ref a2, .int hd, .long ow, .long off, .long go])), (a1, .inl (c1, 24, .inr (.inl lo))), (a2, .inl (c2, 24, .inr (.inl hi)))] (xT c1 c2) sz)) (ck_Wr (some (.int (ck_b (ck_in hd x)))) D [(h, .inr (0, [.ref a1, .ref a2, .int (ck_dH hd x), .long ow, .long off, .long go])), (a1, .inl (c1, 24, .inr (.inl lo))), (a2, .inl (c2, 24, .inr (.inl hi)))] (va_A [(h, .inr (0, [.ref a1, .ref a2, .int hd, .long ow, .long off, .long go])), (a1, .inl (c1, 24, .inr (.inl lo))), (a2, .inl (c2, 24, .inr (.inl hi)))] sz)) 0 0 (va_A [(h, .inr (0, [.ref a1, .ref a2, .int hd, .long ow, .long off, .long go])), (a1, .inl (c1, 24, .inr (.inl lo))), (a2, .inl (c2, 24, .inr (.inl hi)))] sz) := by
  refine Met.ofW (cc := cX0_drop) (maxL := 2) (ret := (some .boolean)) (by decide) rfl ?_
  intro p e s m args below meth c s₁ B hml hv
  obtain ⟨rfl, hsz, hP, hK, hD0⟩ := hv
  have hx := B.exec
  have hb := B.bytes
  have hr := B.returns
  have hts := atoms_spec (ws := wsX0_drop) B.pre
  have hown : s.vm.findClass RX0 = some m.cls := findClass_of_methodNamed B.named
  have hlocks := B.notSynchronized
  have hin : ∀ w ∈ wsX00, w ∈ wsX0_drop := fun _ h => List.mem_cons_of_mem _ (List.mem_append_right _ h)
  subst hsz
  have hD := hD0.self (sz := s.heap.size)
  generalize hAe : va_A [(h, .inr (0, [.ref a1, .ref a2, .int hd, .long ow, .long off, .long go])), (a1, .inl (c1, 24, .inr (.inl lo))), (a2, .inl (c2, 24, .inr (.inl hi)))] s.heap.size = A at hD ⊢
  have hA : ∀ q : Nat, s.heap.size ≤ q → A q := fun q h => by rw [← hAe]; exact Or.inr h
  have hS : va_S A s.heap s.heap [] := va_S.rf
  have hl := lv_entry ([.ref h, .int x]) (n := 2) (Nat.le_of_ble_eq_true rfl)
  rw [lg_entry_eq]
  generalize (lg_sl ([.ref h, .int x]) ++ List.replicate (2 - (lg_sl ([.ref h, .int x])).length) Slot.unset).toArray = ls at hl ⊢
  have hl : lv_has ls 2 [(0, .ref h), (1, .int x)] := hl
  refine lv_aload_n hx hb dX0_drop_0 rfl (lv_at hl 0 rfl) ?_
  refine va_get (D := D) (ci := 0) (v := .int hd) (C := RX0) (T := TX0) (N := 6) hx hb hts hin hown hK hP 0 rfl rfl 2 (by decide) (hts (.fieldLink RX0 16 "ClockDesk" "held" "I") (by decide +kernel)) (fun _ h9 => h9) rfl dX0_drop_1 ?_
  refine lv_iload_n hx hb dX0_drop_4 rfl (lv_at hl 1 rfl) ?_
  refine ck_cS (As := [.int hd, .int x]) (rest := []) ⟨hx, hb, hml, hown, hts⟩ (c_X0_isIn l hd x) (va_cwS 2 hts gX0_drop_X0_isIn rfl rfl rfl (by decide +kernel) ⟨Nat.le_of_ble_eq_true rfl, Nat.le_of_ble_eq_true rfl⟩) rfl hl.1 rfl (Nat.le_of_ble_eq_true rfl) dX0_drop_5 ⟨Nat.le_of_ble_eq_true rfl, Nat.le_of_ble_eq_true rfl⟩ ?_
  refine lv_if_ne (tgt := 13) hx hb dX0_drop_8 (by decide) (fun c_1 => ?_) (fun c_1 => ?_)
  · have c_1 := ck_bt c_1
    obtain ⟨jx, hjx, rfl⟩ := ck_inE c_1
    have hcjx : (nI jx).toNatClampNeg = jx := nI_clamp (by omega)
    have hnjx := c_1
    rw [ck_inN _ hjx] at hnjx
    refine lv_aload_n hx hb dX0_drop_13 rfl (lv_at hl 0 rfl) ?_
    refine lv_aload_n hx hb dX0_drop_14 rfl (lv_at hl 0 rfl) ?_
    refine va_get (D := D) (ci := 0) (v := .int hd) (C := RX0) (T := TX0) (N := 6) hx hb hts hin hown hK hP 0 rfl rfl 2 (by decide) (hts (.fieldLink RX0 16 "ClockDesk" "held" "I") (by decide +kernel)) (fun _ h9 => h9) rfl dX0_drop_15 ?_
    refine lv_iload_n hx hb dX0_drop_18 rfl (lv_at hl 1 rfl) ?_
    refine ck_cS (As := [.int hd, .int (nI jx)]) (rest := [.ref h]) ⟨hx, hb, hml, hown, hts⟩ (c_X0_without l hd (nI jx)) (va_cwS 2 hts gX0_drop_X0_without rfl rfl rfl (by decide +kernel) ⟨Nat.le_of_ble_eq_true rfl, Nat.le_of_ble_eq_true rfl⟩) rfl hl.1 rfl (Nat.le_of_ble_eq_true rfl) dX0_drop_19 ⟨Nat.le_of_ble_eq_true rfl, Nat.le_of_ble_eq_true rfl⟩ ?_
    refine va_put (D := D) (ci := 0) (v := .int (ck_wo hd (nI jx))) (ty := .int) (C := RX0) (T := TX0) (N := 6) hx hb hts hin tyX0 tyX0_ok nmX0 hown hK hP hD hS 0 rfl rfl 2 (by decide) (hts (.fieldLink RX0 16 "ClockDesk" "held" "I") (by decide +kernel)) (fun _ h9 => h9) rfl (by decide +kernel) rfl rfl (Nat.le_of_ble_eq_true rfl) dX0_drop_22 (fun H locs hP hD hS => ?_)
    have hP : va_P D vwCl [(h, .inr (0, [.ref a1, .ref a2, .int (ck_wo hd (nI jx)), .long ow, .long off, .long go])), (a1, .inl (c1, 24, .inr (.inl lo))), (a2, .inl (c2, 24, .inr (.inl hi)))] H := hP
    have hD : va_D A [(h, .inr (0, [.ref a1, .ref a2, .int (ck_wo hd (nI jx)), .long ow, .long off, .long go])), (a1, .inl (c1, 24, .inr (.inl lo))), (a2, .inl (c2, 24, .inr (.inl hi)))] := hD
    refine lv_iconst (v := 1) hx hb dX0_drop_25 (by decide) ?_
    have hw_hd : (ck_wo hd (nI jx)) = (ck_dH hd (nI jx)) := by simp [ck_dH, c_1, hcjx]
    have hP9 : va_P D vwCl [(h, .inr (0, [.ref a1, .ref a2, .int (ck_dH hd (nI jx)), .long ow, .long off, .long go])), (a1, .inl (c1, 24, .inr (.inl lo))), (a2, .inl (c2, 24, .inr (.inl hi)))] H := by rw [← hw_hd]; exact hP
    have hD9 : va_D A [(h, .inr (0, [.ref a1, .ref a2, .int (ck_dH hd (nI jx)), .long ow, .long off, .long go])), (a1, .inl (c1, 24, .inr (.inl lo))), (a2, .inl (c2, 24, .inr (.inl hi)))] := by rw [← hw_hd]; exact hD
    have hres : 1 = (ck_b (ck_in hd (nI jx))) := by simp [ck_b, c_1, hcjx]
    exact W.zret (ty := .boolean) (v := 1) hx hb hr rfl (fun t ht _ => ⟨congrArg (fun z => Outcome.returned (some (Value.int z))) hres, by rw [ht]; exact hP9, hD9, hS.F ht⟩) hS.2.2 dX0_drop_26
  · have c_1 := ck_bf c_1
    refine lv_iconst (v := 0) hx hb dX0_drop_11 (by decide) ?_
    have hw_hd : hd = (ck_dH hd x) := by simp [ck_dH, c_1]
    have hP9 : va_P D vwCl [(h, .inr (0, [.ref a1, .ref a2, .int (ck_dH hd x), .long ow, .long off, .long go])), (a1, .inl (c1, 24, .inr (.inl lo))), (a2, .inl (c2, 24, .inr (.inl hi)))] s.heap := by rw [← hw_hd]; exact hP
    have hD9 : va_D A [(h, .inr (0, [.ref a1, .ref a2, .int (ck_dH hd x), .long ow, .long off, .long go])), (a1, .inl (c1, 24, .inr (.inl lo))), (a2, .inl (c2, 24, .inr (.inl hi)))] := by rw [← hw_hd]; exact hD
    have hres : 0 = (ck_b (ck_in hd x)) := by simp [ck_b, c_1]
    exact W.zret (ty := .boolean) (v := 0) hx hb hr rfl (fun t ht _ => ⟨congrArg (fun z => Outcome.returned (some (Value.int z))) hres, by rw [ht]; exact hP9, hD9, hS.F ht⟩) hS.2.2 dX0_drop_12

set_option maxHeartbeats 4000000 in
set_option maxRecDepth 100000 in
theorem c_X0_tick (l : Launch) (D : va_G) (h a1 a2 : Nat) (c1 c2 : ClassId) (lo hi : Nat → Int64) (hd : Int32) (ow off go : Int64) (sz : Nat) (t0 : Int64)  : Met l yX0_tick wsX0_tick { frames := 1, cells := 0, slots := 0, locals := 27 } (va_Pc [.ref h, .long t0] (ck_Cw D [(h, .inr (0, [.ref a1, .ref a2, .int hd, .long ow, .long off, .long go])), (a1, .inl (c1, 24, .inr (.inl lo))), (a2, .inl (c2, 24, .inr (.inl hi)))] (xT c1 c2) sz)) (ck_Wr (some (.int (ck_b (ck_tk ow t0)))) D [(h, .inr (0, [.ref a1, .ref a2, .int hd, .long (ck_tW ow t0), .long (ck_tO ow off go t0), .long go])), (a1, .inl (c1, 24, .inr (.inl lo))), (a2, .inl (c2, 24, .inr (.inl hi)))] (va_A [(h, .inr (0, [.ref a1, .ref a2, .int hd, .long ow, .long off, .long go])), (a1, .inl (c1, 24, .inr (.inl lo))), (a2, .inl (c2, 24, .inr (.inl hi)))] sz)) 0 0 (va_A [(h, .inr (0, [.ref a1, .ref a2, .int hd, .long ow, .long off, .long go])), (a1, .inl (c1, 24, .inr (.inl lo))), (a2, .inl (c2, 24, .inr (.inl hi)))] sz) := by
  refine Met.ofW (cc := cX0_tick) (maxL := 5) (ret := (some .boolean)) (by decide) rfl ?_
  intro p e s m args below meth c s₁ B hml hv
  obtain ⟨rfl, hsz, hP, hK, hD0⟩ := hv
  have hx := B.exec
  have hb := B.bytes
  have hr := B.returns
  have hts := atoms_spec (ws := wsX0_tick) B.pre
  have hown : s.vm.findClass RX0 = some m.cls := findClass_of_methodNamed B.named
  have hlocks := B.notSynchronized
  have hin : ∀ w ∈ wsX00, w ∈ wsX0_tick := fun _ h => List.mem_cons_of_mem _ (List.mem_append_right _ h)
  subst hsz
  have hD := hD0.self (sz := s.heap.size)
  generalize hAe : va_A [(h, .inr (0, [.ref a1, .ref a2, .int hd, .long ow, .long off, .long go])), (a1, .inl (c1, 24, .inr (.inl lo))), (a2, .inl (c2, 24, .inr (.inl hi)))] s.heap.size = A at hD ⊢
  have hA : ∀ q : Nat, s.heap.size ≤ q → A q := fun q h => by rw [← hAe]; exact Or.inr h
  have hS : va_S A s.heap s.heap [] := va_S.rf
  have hl := lv_entry ([.ref h, .long t0]) (n := 5) (Nat.le_of_ble_eq_true rfl)
  rw [lg_entry_eq]
  generalize (lg_sl ([.ref h, .long t0]) ++ List.replicate (5 - (lg_sl ([.ref h, .long t0])).length) Slot.unset).toArray = ls at hl ⊢
  have hl : lv_has ls 5 [(0, .ref h), (1, .long t0)] := hl
  refine lv_lload_n hx hb dX0_tick_0 rfl (lv_at hl 1 rfl) ?_
  refine lv_aload_n hx hb dX0_tick_1 rfl (lv_at hl 0 rfl) ?_
  refine va_get (D := D) (ci := 0) (v := .long ow) (C := RX0) (T := TX0) (N := 6) hx hb hts hin hown hK hP 0 rfl rfl 3 (by decide) (hts (.fieldLink RX0 20 "ClockDesk" "ownTime" "J") (by decide +kernel)) (fun _ h9 => h9) rfl dX0_tick_2 ?_
  refine W.lcmp hx hb dX0_tick_5 ?_
  refine lv_if_lt (tgt := 17) hx hb dX0_tick_6 (by decide) (fun c_1 => ?_) (fun c_1 => ?_)
  · rw [lg_cmp_lt] at c_1
    refine lv_iconst (v := 0) hx hb dX0_tick_17 (by decide) ?_
    have hw_off : off = (ck_tO ow off go t0) := by simp [ck_tO, ck_tW, ck_tk, c_1]
    have hw_ow : ow = (ck_tW ow t0) := by simp [ck_tO, ck_tW, ck_tk, c_1]
    have hP9 : va_P D vwCl [(h, .inr (0, [.ref a1, .ref a2, .int hd, .long (ck_tW ow t0), .long (ck_tO ow off go t0), .long go])), (a1, .inl (c1, 24, .inr (.inl lo))), (a2, .inl (c2, 24, .inr (.inl hi)))] s.heap := by rw [← hw_off, ← hw_ow]; exact hP
    have hD9 : va_D A [(h, .inr (0, [.ref a1, .ref a2, .int hd, .long (ck_tW ow t0), .long (ck_tO ow off go t0), .long go])), (a1, .inl (c1, 24, .inr (.inl lo))), (a2, .inl (c2, 24, .inr (.inl hi)))] := by rw [← hw_off, ← hw_ow]; exact hD
    have hres : 0 = (ck_b (ck_tk ow t0)) := by simp [ck_tk, ck_b, c_1]
    exact W.zret (ty := .boolean) (v := 0) hx hb hr rfl (fun t ht _ => ⟨congrArg (fun z => Outcome.returned (some (Value.int z))) hres, by rw [ht]; exact hP9, hD9, hS.F ht⟩) hS.2.2 dX0_tick_18
  · rw [lg_cmp_lt] at c_1
    refine lv_lload_n hx hb dX0_tick_9 rfl (lv_at hl 1 rfl) ?_
    refine lv_ldc2 (v := ck_TIME) hx hb hown (hts (.constantLong RX0 123 ck_TIME) (by decide +kernel)) dX0_tick_10 ?_
    refine W.lcmp hx hb dX0_tick_13 ?_
    refine lv_if_le (tgt := 19) hx hb dX0_tick_14 (by decide) (fun c_2 => ?_) (fun c_2 => ?_)
    · rw [lg_cmp_le] at c_2
      refine lv_lload_n hx hb dX0_tick_19 rfl (lv_at hl 1 rfl) ?_
      refine lv_aload_n hx hb dX0_tick_20 rfl (lv_at hl 0 rfl) ?_
      refine va_get (D := D) (ci := 0) (v := .long ow) (C := RX0) (T := TX0) (N := 6) hx hb hts hin hown hK hP 0 rfl rfl 3 (by decide) (hts (.fieldLink RX0 20 "ClockDesk" "ownTime" "J") (by decide +kernel)) (fun _ h9 => h9) rfl dX0_tick_21 ?_
      refine lv_lsub hx hb dX0_tick_24 ?_
      refine lv_ldc2 (v := 2000) hx hb hown (hts (.constantLong RX0 125 2000) (by decide +kernel)) dX0_tick_25 ?_
      refine lv_ldiv hx hb dX0_tick_28 (by decide) ?_
      refine lv_lstore_n (lv' := [(3, .long ((t0 - ow) / 2000)), (0, .ref h), (1, .long t0)]) hx hb dX0_tick_29 rfl hl (by decide) rfl (fun ls hl => ?_)
      refine lv_aload_n hx hb dX0_tick_30 rfl (lv_at hl 1 rfl) ?_
      refine lv_dup hx hb dX0_tick_31 rfl ?_
      refine va_get (D := D) (ci := 0) (v := .long off) (C := RX0) (T := TX0) (N := 6) hx hb hts hin hown hK hP 0 rfl rfl 4 (by decide) (hts (.fieldLink RX0 24 "ClockDesk" "clockOffset" "J") (by decide +kernel)) (fun _ h9 => h9) rfl dX0_tick_32 ?_
      refine lv_lload_n hx hb dX0_tick_35 rfl (lv_at hl 0 rfl) ?_
      refine lv_lneg hx hb dX0_tick_36 ?_
      refine lv_lload_n hx hb dX0_tick_37 rfl (lv_at hl 0 rfl) ?_
      refine lv_aload_n hx hb dX0_tick_38 rfl (lv_at hl 1 rfl) ?_
      refine va_get (D := D) (ci := 0) (v := .long go) (C := RX0) (T := TX0) (N := 6) hx hb hts hin hown hK hP 0 rfl rfl 5 (by decide) (hts (.fieldLink RX0 27 "ClockDesk" "goal" "J") (by decide +kernel)) (fun _ h9 => h9) rfl dX0_tick_39 ?_
      refine lv_aload_n hx hb dX0_tick_42 rfl (lv_at hl 1 rfl) ?_
      refine va_get (D := D) (ci := 0) (v := .long off) (C := RX0) (T := TX0) (N := 6) hx hb hts hin hown hK hP 0 rfl rfl 4 (by decide) (hts (.fieldLink RX0 24 "ClockDesk" "clockOffset" "J") (by decide +kernel)) (fun _ h9 => h9) rfl dX0_tick_43 ?_
      refine lv_lsub hx hb dX0_tick_46 ?_
      refine ck_mmin hx hb (hml.trans hl.1.symm) hown (hts (.methodLink RX0 127 Lib.MathLoose.min_long.x) (by decide +kernel)) (hts (.static Lib.MathLoose.min_long.x) (by decide +kernel)) (hts (.initialized "java/lang/Math") (by decide +kernel)) (hts (.code Lib.MathLoose.min_long.x Lib.MathLoose.min_long.code 4 (some .long)) (by decide +kernel)) (Nat.le_of_ble_eq_true rfl) (Nat.le_of_ble_eq_true rfl) (Nat.le_of_ble_eq_true rfl) (Nat.le_of_ble_eq_true rfl) dX0_tick_47 ?_
      refine ck_mmax hx hb (hml.trans hl.1.symm) hown (hts (.methodLink RX0 131 Lib.MathLoose.max_long.x) (by decide +kernel)) (hts (.static Lib.MathLoose.max_long.x) (by decide +kernel)) (hts (.initialized "java/lang/Math") (by decide +kernel)) (hts (.code Lib.MathLoose.max_long.x Lib.MathLoose.max_long.code 4 (some .long)) (by decide +kernel)) (Nat.le_of_ble_eq_true rfl) (Nat.le_of_ble_eq_true rfl) (Nat.le_of_ble_eq_true rfl) (Nat.le_of_ble_eq_true rfl) dX0_tick_50 ?_
      refine lv_ladd hx hb dX0_tick_53 ?_
      refine va_put (D := D) (ci := 0) (v := .long (off + (ck_max (-((t0 - ow) / 2000)) (ck_min ((t0 - ow) / 2000) (go - off))))) (ty := .long) (C := RX0) (T := TX0) (N := 6) hx hb hts hin tyX0 tyX0_ok nmX0 hown hK hP hD hS 0 rfl rfl 4 (by decide) (hts (.fieldLink RX0 24 "ClockDesk" "clockOffset" "J") (by decide +kernel)) (fun _ h9 => h9) rfl (by decide +kernel) rfl rfl (Nat.le_of_ble_eq_true rfl) dX0_tick_54 (fun H locs hP hD hS => ?_)
      have hP : va_P D vwCl [(h, .inr (0, [.ref a1, .ref a2, .int hd, .long ow, .long (off + (ck_max (-((t0 - ow) / 2000)) (ck_min ((t0 - ow) / 2000) (go - off)))), .long go])), (a1, .inl (c1, 24, .inr (.inl lo))), (a2, .inl (c2, 24, .inr (.inl hi)))] H := hP
      have hD : va_D A [(h, .inr (0, [.ref a1, .ref a2, .int hd, .long ow, .long (off + (ck_max (-((t0 - ow) / 2000)) (ck_min ((t0 - ow) / 2000) (go - off)))), .long go])), (a1, .inl (c1, 24, .inr (.inl lo))), (a2, .inl (c2, 24, .inr (.inl hi)))] := hD
      refine lv_aload_n hx hb dX0_tick_57 rfl (lv_at hl 1 rfl) ?_
      refine lv_lload_n hx hb dX0_tick_58 rfl (lv_at hl 2 rfl) ?_
      refine va_put (D := D) (ci := 0) (v := .long t0) (ty := .long) (C := RX0) (T := TX0) (N := 6) hx hb hts hin tyX0 tyX0_ok nmX0 hown hK hP hD hS 0 rfl rfl 3 (by decide) (hts (.fieldLink RX0 20 "ClockDesk" "ownTime" "J") (by decide +kernel)) (fun _ h9 => h9) rfl (by decide +kernel) rfl rfl (Nat.le_of_ble_eq_true rfl) dX0_tick_59 (fun H locs hP hD hS => ?_)
      have hP : va_P D vwCl [(h, .inr (0, [.ref a1, .ref a2, .int hd, .long t0, .long (off + (ck_max (-((t0 - ow) / 2000)) (ck_min ((t0 - ow) / 2000) (go - off)))), .long go])), (a1, .inl (c1, 24, .inr (.inl lo))), (a2, .inl (c2, 24, .inr (.inl hi)))] H := hP
      have hD : va_D A [(h, .inr (0, [.ref a1, .ref a2, .int hd, .long t0, .long (off + (ck_max (-((t0 - ow) / 2000)) (ck_min ((t0 - ow) / 2000) (go - off)))), .long go])), (a1, .inl (c1, 24, .inr (.inl lo))), (a2, .inl (c2, 24, .inr (.inl hi)))] := hD
      refine lv_iconst (v := 1) hx hb dX0_tick_62 (by decide) ?_
      have hw_off : (off + (ck_max (-((t0 - ow) / 2000)) (ck_min ((t0 - ow) / 2000) (go - off)))) = (ck_tO ow off go t0) := by simp [ck_tO, ck_tW, ck_tk, c_1, c_2]
      have hw_ow : t0 = (ck_tW ow t0) := by simp [ck_tO, ck_tW, ck_tk, c_1, c_2]
      have hP9 : va_P D vwCl [(h, .inr (0, [.ref a1, .ref a2, .int hd, .long (ck_tW ow t0), .long (ck_tO ow off go t0), .long go])), (a1, .inl (c1, 24, .inr (.inl lo))), (a2, .inl (c2, 24, .inr (.inl hi)))] H := by rw [← hw_off, ← hw_ow]; exact hP
      have hD9 : va_D A [(h, .inr (0, [.ref a1, .ref a2, .int hd, .long (ck_tW ow t0), .long (ck_tO ow off go t0), .long go])), (a1, .inl (c1, 24, .inr (.inl lo))), (a2, .inl (c2, 24, .inr (.inl hi)))] := by rw [← hw_off, ← hw_ow]; exact hD
      have hres : 1 = (ck_b (ck_tk ow t0)) := by simp [ck_tk, ck_b, c_1, c_2]
      exact W.zret (ty := .boolean) (v := 1) hx hb hr rfl (fun t ht _ => ⟨congrArg (fun z => Outcome.returned (some (Value.int z))) hres, by rw [ht]; exact hP9, hD9, hS.F ht⟩) hS.2.2 dX0_tick_63
    · rw [lg_cmp_le] at c_2
      refine lv_iconst (v := 0) hx hb dX0_tick_17 (by decide) ?_
      have hw_off : off = (ck_tO ow off go t0) := by simp [ck_tO, ck_tW, ck_tk, c_1, c_2]
      have hw_ow : ow = (ck_tW ow t0) := by simp [ck_tO, ck_tW, ck_tk, c_1, c_2]
      have hP9 : va_P D vwCl [(h, .inr (0, [.ref a1, .ref a2, .int hd, .long (ck_tW ow t0), .long (ck_tO ow off go t0), .long go])), (a1, .inl (c1, 24, .inr (.inl lo))), (a2, .inl (c2, 24, .inr (.inl hi)))] s.heap := by rw [← hw_off, ← hw_ow]; exact hP
      have hD9 : va_D A [(h, .inr (0, [.ref a1, .ref a2, .int hd, .long (ck_tW ow t0), .long (ck_tO ow off go t0), .long go])), (a1, .inl (c1, 24, .inr (.inl lo))), (a2, .inl (c2, 24, .inr (.inl hi)))] := by rw [← hw_off, ← hw_ow]; exact hD
      have hres : 0 = (ck_b (ck_tk ow t0)) := by simp [ck_tk, ck_b, c_1, c_2]
      exact W.zret (ty := .boolean) (v := 0) hx hb hr rfl (fun t ht _ => ⟨congrArg (fun z => Outcome.returned (some (Value.int z))) hres, by rw [ht]; exact hP9, hD9, hS.F ht⟩) hS.2.2 dX0_tick_18

set_option maxHeartbeats 4000000 in
set_option maxRecDepth 100000 in
theorem c_X0_steer (l : Launch) (D : va_G) (h a1 a2 : Nat) (c1 c2 : ClassId) (lo hi : Nat → Int64) (hd : Int32) (ow off go : Int64) (sz : Nat)   : Met l yX0_steer wsX0_steer { frames := 6, cells := 0, slots := 0, locals := 139 } (va_Pc [.ref h] (ck_Cw D [(h, .inr (0, [.ref a1, .ref a2, .int hd, .long ow, .long off, .long go])), (a1, .inl (c1, 24, .inr (.inl lo))), (a2, .inl (c2, 24, .inr (.inl hi)))] (xT c1 c2) sz)) (ck_Wr (some (.int (ck_b (ck_sk hd lo hi)))) D [(h, .inr (0, [.ref a1, .ref a2, .int hd, .long ow, .long off, .long (ck_sG hd lo hi go)])), (a1, .inl (c1, 24, .inr (.inl lo))), (a2, .inl (c2, 24, .inr (.inl hi)))] (va_A [(h, .inr (0, [.ref a1, .ref a2, .int hd, .long ow, .long off, .long go])), (a1, .inl (c1, 24, .inr (.inl lo))), (a2, .inl (c2, 24, .inr (.inl hi)))] sz)) 0 0 (va_A [(h, .inr (0, [.ref a1, .ref a2, .int hd, .long ow, .long off, .long go])), (a1, .inl (c1, 24, .inr (.inl lo))), (a2, .inl (c2, 24, .inr (.inl hi)))] sz) := by
  refine Met.ofW (cc := cX0_steer) (maxL := 1) (ret := (some .boolean)) (by decide) rfl ?_
  intro p e s m args below meth c s₁ B hml hv
  obtain ⟨rfl, hsz, hP, hK, hD0⟩ := hv
  have hx := B.exec
  have hb := B.bytes
  have hr := B.returns
  have hts := atoms_spec (ws := wsX0_steer) B.pre
  have hown : s.vm.findClass RX0 = some m.cls := findClass_of_methodNamed B.named
  have hlocks := B.notSynchronized
  have hin : ∀ w ∈ wsX00, w ∈ wsX0_steer := fun _ h => List.mem_cons_of_mem _ (List.mem_append_right _ h)
  subst hsz
  have hD := hD0.self (sz := s.heap.size)
  generalize hAe : va_A [(h, .inr (0, [.ref a1, .ref a2, .int hd, .long ow, .long off, .long go])), (a1, .inl (c1, 24, .inr (.inl lo))), (a2, .inl (c2, 24, .inr (.inl hi)))] s.heap.size = A at hD ⊢
  have hA : ∀ q : Nat, s.heap.size ≤ q → A q := fun q h => by rw [← hAe]; exact Or.inr h
  have hS : va_S A s.heap s.heap [] := va_S.rf
  have hl := lv_entry ([.ref h]) (n := 1) (Nat.le_of_ble_eq_true rfl)
  rw [lg_entry_eq]
  generalize (lg_sl ([.ref h]) ++ List.replicate (1 - (lg_sl ([.ref h])).length) Slot.unset).toArray = ls at hl ⊢
  have hl : lv_has ls 1 [(0, .ref h)] := hl
  refine lv_iconst (v := 2) hx hb dX0_steer_0 (by decide) ?_
  refine lv_aload_n hx hb dX0_steer_1 rfl (lv_at hl 0 rfl) ?_
  refine ck_cV (As := []) (rest := [.int 2]) ⟨hx, hb, hml, hown, hts⟩ (c_X0_greatest l D h a1 a2 c1 c2 lo hi hd ow off go ) (cwV 0 hts gX0_steer_X0_greatest rfl rfl rfl (by decide +kernel) ⟨Nat.le_of_ble_eq_true rfl, Nat.le_of_ble_eq_true rfl⟩) hP hK (va_recv hK hP (ci := 0) (q0 := 0) rfl rfl) rfl hl.1 rfl (Nat.le_of_ble_eq_true rfl) dX0_steer_2 ⟨Nat.le_of_ble_eq_true rfl, Nat.le_of_ble_eq_true rfl⟩ ?_
  refine lv_imul hx hb dX0_steer_5 ?_
  refine lv_aload_n hx hb dX0_steer_6 rfl (lv_at hl 0 rfl) ?_
  refine ck_cV (As := []) (rest := [.int (2 * (ck_gr (bt hd) lo hi 24))]) ⟨hx, hb, hml, hown, hts⟩ (c_X0_sources l D h a1 a2 c1 c2 lo hi hd ow off go ) (cwV 0 hts gX0_steer_X0_sources rfl rfl rfl (by decide +kernel) ⟨Nat.le_of_ble_eq_true rfl, Nat.le_of_ble_eq_true rfl⟩) hP hK (va_recv hK hP (ci := 0) (q0 := 0) rfl rfl) rfl hl.1 rfl (Nat.le_of_ble_eq_true rfl) dX0_steer_7 ⟨Nat.le_of_ble_eq_true rfl, Nat.le_of_ble_eq_true rfl⟩ ?_
  refine lv_icmp_gt (tgt := 15) hx hb dX0_steer_10 (by decide) (fun c_1 => ?_) (fun c_1 => ?_)
  · refine lv_aload_n hx hb dX0_steer_15 rfl (lv_at hl 0 rfl) ?_
    refine lv_aload_n hx hb dX0_steer_16 rfl (lv_at hl 0 rfl) ?_
    refine lv_iconst (v := 0) hx hb dX0_steer_17 (by decide) ?_
    refine ck_cV (As := [.int 0]) (rest := [.ref h]) ⟨hx, hb, hml, hown, hts⟩ (c_X0_region l D h a1 a2 c1 c2 lo hi hd ow off go 0) (cwV 1 hts gX0_steer_X0_region rfl rfl rfl (by decide +kernel) ⟨Nat.le_of_ble_eq_true rfl, Nat.le_of_ble_eq_true rfl⟩) hP hK (va_recv hK hP (ci := 0) (q0 := 0) rfl rfl) rfl hl.1 rfl (Nat.le_of_ble_eq_true rfl) dX0_steer_18 ⟨Nat.le_of_ble_eq_true rfl, Nat.le_of_ble_eq_true rfl⟩ ?_
    refine lv_aload_n hx hb dX0_steer_21 rfl (lv_at hl 0 rfl) ?_
    refine lv_iconst (v := 1) hx hb dX0_steer_22 (by decide) ?_
    refine ck_cV (As := [.int 1]) (rest := [.long (ck_rg hd lo hi 0), .ref h]) ⟨hx, hb, hml, hown, hts⟩ (c_X0_region l D h a1 a2 c1 c2 lo hi hd ow off go 1) (cwV 1 hts gX0_steer_X0_region rfl rfl rfl (by decide +kernel) ⟨Nat.le_of_ble_eq_true rfl, Nat.le_of_ble_eq_true rfl⟩) hP hK (va_recv hK hP (ci := 0) (q0 := 0) rfl rfl) rfl hl.1 rfl (Nat.le_of_ble_eq_true rfl) dX0_steer_23 ⟨Nat.le_of_ble_eq_true rfl, Nat.le_of_ble_eq_true rfl⟩ ?_
    refine lv_ladd hx hb dX0_steer_26 ?_
    refine ck_cS (As := [.long ((ck_rg hd lo hi 0) + (ck_rg hd lo hi 1))]) (rest := [.ref h]) ⟨hx, hb, hml, hown, hts⟩ (c_X0_half l ((ck_rg hd lo hi 0) + (ck_rg hd lo hi 1))) (va_cwS 1 hts gX0_steer_X0_half rfl rfl rfl (by decide +kernel) ⟨Nat.le_of_ble_eq_true rfl, Nat.le_of_ble_eq_true rfl⟩) rfl hl.1 rfl (Nat.le_of_ble_eq_true rfl) dX0_steer_27 ⟨Nat.le_of_ble_eq_true rfl, Nat.le_of_ble_eq_true rfl⟩ ?_
    refine va_put (D := D) (ci := 0) (v := .long (ck_half ((ck_rg hd lo hi 0) + (ck_rg hd lo hi 1)))) (ty := .long) (C := RX0) (T := TX0) (N := 6) hx hb hts hin tyX0 tyX0_ok nmX0 hown hK hP hD hS 0 rfl rfl 5 (by decide) (hts (.fieldLink RX0 27 "ClockDesk" "goal" "J") (by decide +kernel)) (fun _ h9 => h9) rfl (by decide +kernel) rfl rfl (Nat.le_of_ble_eq_true rfl) dX0_steer_30 (fun H locs hP hD hS => ?_)
    have hP : va_P D vwCl [(h, .inr (0, [.ref a1, .ref a2, .int hd, .long ow, .long off, .long (ck_half ((ck_rg hd lo hi 0) + (ck_rg hd lo hi 1)))])), (a1, .inl (c1, 24, .inr (.inl lo))), (a2, .inl (c2, 24, .inr (.inl hi)))] H := hP
    have hD : va_D A [(h, .inr (0, [.ref a1, .ref a2, .int hd, .long ow, .long off, .long (ck_half ((ck_rg hd lo hi 0) + (ck_rg hd lo hi 1)))])), (a1, .inl (c1, 24, .inr (.inl lo))), (a2, .inl (c2, 24, .inr (.inl hi)))] := hD
    refine lv_iconst (v := 1) hx hb dX0_steer_33 (by decide) ?_
    have hw_go : (ck_half ((ck_rg hd lo hi 0) + (ck_rg hd lo hi 1))) = (ck_sG hd lo hi go) := by simp [ck_sG, ck_sk, c_1]
    have hP9 : va_P D vwCl [(h, .inr (0, [.ref a1, .ref a2, .int hd, .long ow, .long off, .long (ck_sG hd lo hi go)])), (a1, .inl (c1, 24, .inr (.inl lo))), (a2, .inl (c2, 24, .inr (.inl hi)))] H := by rw [← hw_go]; exact hP
    have hD9 : va_D A [(h, .inr (0, [.ref a1, .ref a2, .int hd, .long ow, .long off, .long (ck_sG hd lo hi go)])), (a1, .inl (c1, 24, .inr (.inl lo))), (a2, .inl (c2, 24, .inr (.inl hi)))] := by rw [← hw_go]; exact hD
    have hres : 1 = (ck_b (ck_sk hd lo hi)) := by simp [ck_sk, ck_b, c_1]
    exact W.zret (ty := .boolean) (v := 1) hx hb hr rfl (fun t ht _ => ⟨congrArg (fun z => Outcome.returned (some (Value.int z))) hres, by rw [ht]; exact hP9, hD9, hS.F ht⟩) hS.2.2 dX0_steer_34
  · refine lv_iconst (v := 0) hx hb dX0_steer_13 (by decide) ?_
    have hw_go : go = (ck_sG hd lo hi go) := by simp [ck_sG, ck_sk, c_1]
    have hP9 : va_P D vwCl [(h, .inr (0, [.ref a1, .ref a2, .int hd, .long ow, .long off, .long (ck_sG hd lo hi go)])), (a1, .inl (c1, 24, .inr (.inl lo))), (a2, .inl (c2, 24, .inr (.inl hi)))] s.heap := by rw [← hw_go]; exact hP
    have hD9 : va_D A [(h, .inr (0, [.ref a1, .ref a2, .int hd, .long ow, .long off, .long (ck_sG hd lo hi go)])), (a1, .inl (c1, 24, .inr (.inl lo))), (a2, .inl (c2, 24, .inr (.inl hi)))] := by rw [← hw_go]; exact hD
    have hres : 0 = (ck_b (ck_sk hd lo hi)) := by simp [ck_sk, ck_b, c_1]
    exact W.zret (ty := .boolean) (v := 0) hx hb hr rfl (fun t ht _ => ⟨congrArg (fun z => Outcome.returned (some (Value.int z))) hres, by rw [ht]; exact hP9, hD9, hS.F ht⟩) hS.2.2 dX0_steer_14
