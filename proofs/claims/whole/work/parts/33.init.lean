-- the two constructors, and what holds of the state from call to call
theorem ck_n24 : ¬ (24 : Int32) < 0 := by decide
theorem ck_c24 : (24 : Int32).toNatClampNeg = 24 := by decide
theorem ck_by8 : 24 * componentBytes .long ≤ 536870912 := Nat.le_of_ble_eq_true rfl
theorem ck_by1 : 24 * componentBytes .boolean ≤ 536870912 := Nat.le_of_ble_eq_true rfl
theorem ck_dl (cA : ClassId) : vp_cell cA (24, .inr (.inl (fun _ => 0))) = arrV cA 24 (fun _ => defaultValue .long) := rfl
theorem ck_dz (cA : ClassId) : vp_cell cA (24, .inl (fun _ => 0)) = arrV cA 24 (fun _ => defaultValue .boolean) := rfl
theorem ck_tyl : newarray.typeOf .long = .long := rfl
theorem ck_bz0 : (fun _ => (0 : Int32)) = ck_bz (bt 0) := by
  funext k
  show (0 : Int32) = ck_b (bt 0 k)
  rw [b_0]
  rfl
set_option maxHeartbeats 400000 in
set_option maxRecDepth 100000 in
theorem c_X0_init (l : Launch) (D : va_G) (h sz : Nat) : Met l yX0_init wsX0_init { frames := 1, cells := 2, slots := 48, locals := 20 } (va_Pc [.ref h] (fun U => U.heap.size = sz ∧ va_P D vwCl [(h, .inr (0, [.null, .null, .int 0, .long 0, .long 0, .long 0]))] U.heap ∧ va_K D vwCl [] U ∧ va_D (fun _ => True) [(h, .inr (0, [.null, .null, .int 0, .long 0, .long 0, .long 0]))])) (va_Qv (fun _ : Unit => True) (fun _ t => ∃ (a1 a2 : Nat) (c1 c2 : ClassId), va_P D vwCl (xW h a1 a2 c1 c2 (fun _ => 0) (fun _ => 0) 0 0 0 0) t.heap ∧ va_K D vwCl (xT c1 c2) t ∧ va_D (va_A [(h, .inr (0, [.null, .null, .int 0, .long 0, .long 0, .long 0]))] sz) (xW h a1 a2 c1 c2 (fun _ => 0) (fun _ => 0) 0 0 0 0)) (va_A [(h, .inr (0, [.null, .null, .int 0, .long 0, .long 0, .long 0]))] sz)) 2 48 (va_A [(h, .inr (0, [.null, .null, .int 0, .long 0, .long 0, .long 0]))] sz) := by
  refine Met.ofW (cc := cX0_init) (maxL := 1) (ret := none) (by decide) rfl ?_
  intro p e s m args below meth c s₁ B hml hv
  obtain ⟨rfl, hsz, hP, hK, hD0⟩ := hv
  have hx := B.exec
  have hb := B.bytes
  have hr := B.returns
  have hts := atoms_spec (ws := wsX0_init) B.pre
  have hown : s.vm.findClass RX0 = some m.cls := findClass_of_methodNamed B.named
  have hlocks := B.notSynchronized
  have hin2 : meth.name = "<init>" := (name_of_methodNamed B.named B.method).1
  have hin : ∀ w ∈ wsX00, w ∈ wsX0_init := fun _ h => List.mem_cons_of_mem _ (List.mem_append_right _ h)
  subst hsz
  have hD := hD0.self (sz := s.heap.size)
  generalize hAe : va_A [(h, .inr (0, [.null, .null, .int 0, .long 0, .long 0, .long 0]))] s.heap.size = A at hD ⊢
  have hA : ∀ q : Nat, s.heap.size ≤ q → A q := fun q h => by rw [← hAe]; exact Or.inr h
  have hS : va_S A s.heap s.heap [] := va_S.rf
  have hl := lv_entry ([.ref h]) (n := 1) (Nat.le_of_ble_eq_true rfl)
  rw [lg_entry_eq]
  generalize (lg_sl ([.ref h]) ++ List.replicate (1 - (lg_sl ([.ref h])).length) Slot.unset).toArray = ls at hl ⊢
  have hl : lv_has ls 1 [(0, .ref h)] := hl
  refine lv_aload_n hx hb dX0_init_0 rfl (lv_at hl 0 rfl) ?_
  refine W.objInit hx hb hown (hts (.methodLink RX0 1 objectInit) (by decide +kernel)) (hts (.instanceMethod objectInit) (by decide +kernel)) (hts _ (List.mem_cons_of_mem _ (List.mem_append_left _ (List.mem_of_getElem? (i := 2) rfl)))) rfl (by rw [hml]; exact hl.1) rfl dX0_init_1 (Nat.le_of_ble_eq_true rfl) (Nat.le_of_ble_eq_true rfl) ?_
  refine W.eq (g2 := F0 m 4 ls []) rfl ?_
  refine lv_aload_n hx hb dX0_init_4 rfl (lv_at hl 0 rfl) ?_
  refine lv_bipush (v := 24) hx hb dX0_init_5 (by decide) ?_
  refine va_newa (atype := .long) (ty := .long) (n := 24) (N' := 24) (a0 := (24, .inr (.inl (fun _ => 0)))) hx hb (hts (.arrayClass .long) (by decide +kernel)) rfl hK hP hD hS hA ck_dl ck_n24 ck_c24 ck_by8 (Nat.le_of_ble_eq_true rfl) (Nat.le_of_ble_eq_true rfl) dX0_init_7 (fun a1 c1 H hK hP hD hS => ?_)
  have hK : va_K D vwCl [(c1, .long)] s := hK
  have hP : va_P D vwCl [(h, .inr (0, [.null, .null, .int 0, .long 0, .long 0, .long 0])), (a1, .inl (c1, 24, .inr (.inl (fun _ => 0))))] H := hP
  have hD : va_D A [(h, .inr (0, [.null, .null, .int 0, .long 0, .long 0, .long 0])), (a1, .inl (c1, 24, .inr (.inl (fun _ => 0))))] := hD
  refine va_putF (D := D) (ci := 0) (v := .ref a1) (ty := .array .long) (C := RX0) (T := TX0) (N := 6) hx hb hts hin tyX0 tyX0_ok nmX0 hown hK hP hD hS 0 rfl rfl 0 (by decide) (hts (.fieldLink RX0 9 "ClockDesk" "lows" "[J") (by decide +kernel)) (fun _ h9 => h9) rfl hin2 rfl (by decide +kernel) rfl rfl (Nat.le_of_ble_eq_true rfl) dX0_init_9 (fun H locs hP hD hS => ?_)
  have hP : va_P D vwCl [(h, .inr (0, [.ref a1, .null, .int 0, .long 0, .long 0, .long 0])), (a1, .inl (c1, 24, .inr (.inl (fun _ => 0))))] H := hP
  have hD : va_D A [(h, .inr (0, [.ref a1, .null, .int 0, .long 0, .long 0, .long 0])), (a1, .inl (c1, 24, .inr (.inl (fun _ => 0))))] := hD
  refine lv_aload_n hx hb dX0_init_12 rfl (lv_at hl 0 rfl) ?_
  refine lv_bipush (v := 24) hx hb dX0_init_13 (by decide) ?_
  refine va_newa (atype := .long) (ty := .long) (n := 24) (N' := 24) (a0 := (24, .inr (.inl (fun _ => 0)))) hx hb (hts (.arrayClass .long) (by decide +kernel)) rfl hK hP hD hS hA ck_dl ck_n24 ck_c24 ck_by8 (Nat.le_of_ble_eq_true rfl) (Nat.le_of_ble_eq_true rfl) dX0_init_15 (fun a2 c2 H hK hP hD hS => ?_)
  have hK : va_K D vwCl [(c1, .long), (c2, .long)] s := hK
  have hP : va_P D vwCl [(h, .inr (0, [.ref a1, .null, .int 0, .long 0, .long 0, .long 0])), (a1, .inl (c1, 24, .inr (.inl (fun _ => 0)))), (a2, .inl (c2, 24, .inr (.inl (fun _ => 0))))] H := hP
  have hD : va_D A [(h, .inr (0, [.ref a1, .null, .int 0, .long 0, .long 0, .long 0])), (a1, .inl (c1, 24, .inr (.inl (fun _ => 0)))), (a2, .inl (c2, 24, .inr (.inl (fun _ => 0))))] := hD
  refine va_putF (D := D) (ci := 0) (v := .ref a2) (ty := .array .long) (C := RX0) (T := TX0) (N := 6) hx hb hts hin tyX0 tyX0_ok nmX0 hown hK hP hD hS 0 rfl rfl 1 (by decide) (hts (.fieldLink RX0 13 "ClockDesk" "highs" "[J") (by decide +kernel)) (fun _ h9 => h9) rfl hin2 rfl (by decide +kernel) rfl rfl (Nat.le_of_ble_eq_true rfl) dX0_init_17 (fun H locs hP hD hS => ?_)
  have hP : va_P D vwCl (xW h a1 a2 c1 c2 (fun _ => 0) (fun _ => 0) 0 0 0 0) H := hP
  have hD : va_D A (xW h a1 a2 c1 c2 (fun _ => 0) (fun _ => 0) 0 0 0 0) := hD
  refine lv_aload_n hx hb dX0_init_20 rfl (lv_at hl 0 rfl) ?_
  refine lv_iconst (v := 0) hx hb dX0_init_21 (by decide) ?_
  refine va_put (D := D) (ci := 0) (v := .int 0) (ty := .int) (C := RX0) (T := TX0) (N := 6) hx hb hts hin tyX0 tyX0_ok nmX0 hown hK hP hD hS 0 rfl rfl 2 (by decide) (hts (.fieldLink RX0 16 "ClockDesk" "held" "I") (by decide +kernel)) (fun _ h9 => h9) rfl (by decide +kernel) rfl rfl (Nat.le_of_ble_eq_true rfl) dX0_init_22 (fun H locs hP hD hS => ?_)
  have hP : va_P D vwCl (xW h a1 a2 c1 c2 (fun _ => 0) (fun _ => 0) 0 0 0 0) H := hP
  have hD : va_D A (xW h a1 a2 c1 c2 (fun _ => 0) (fun _ => 0) 0 0 0 0) := hD
  refine lv_aload_n hx hb dX0_init_25 rfl (lv_at hl 0 rfl) ?_
  refine lv_lconst (v := 0) hx hb dX0_init_26 (by decide) ?_
  refine va_put (D := D) (ci := 0) (v := .long 0) (ty := .long) (C := RX0) (T := TX0) (N := 6) hx hb hts hin tyX0 tyX0_ok nmX0 hown hK hP hD hS 0 rfl rfl 3 (by decide) (hts (.fieldLink RX0 20 "ClockDesk" "ownTime" "J") (by decide +kernel)) (fun _ h9 => h9) rfl (by decide +kernel) rfl rfl (Nat.le_of_ble_eq_true rfl) dX0_init_27 (fun H locs hP hD hS => ?_)
  have hP : va_P D vwCl (xW h a1 a2 c1 c2 (fun _ => 0) (fun _ => 0) 0 0 0 0) H := hP
  have hD : va_D A (xW h a1 a2 c1 c2 (fun _ => 0) (fun _ => 0) 0 0 0 0) := hD
  refine lv_aload_n hx hb dX0_init_30 rfl (lv_at hl 0 rfl) ?_
  refine lv_lconst (v := 0) hx hb dX0_init_31 (by decide) ?_
  refine va_put (D := D) (ci := 0) (v := .long 0) (ty := .long) (C := RX0) (T := TX0) (N := 6) hx hb hts hin tyX0 tyX0_ok nmX0 hown hK hP hD hS 0 rfl rfl 4 (by decide) (hts (.fieldLink RX0 24 "ClockDesk" "clockOffset" "J") (by decide +kernel)) (fun _ h9 => h9) rfl (by decide +kernel) rfl rfl (Nat.le_of_ble_eq_true rfl) dX0_init_32 (fun H locs hP hD hS => ?_)
  have hP : va_P D vwCl (xW h a1 a2 c1 c2 (fun _ => 0) (fun _ => 0) 0 0 0 0) H := hP
  have hD : va_D A (xW h a1 a2 c1 c2 (fun _ => 0) (fun _ => 0) 0 0 0 0) := hD
  refine lv_aload_n hx hb dX0_init_35 rfl (lv_at hl 0 rfl) ?_
  refine lv_lconst (v := 0) hx hb dX0_init_36 (by decide) ?_
  refine va_put (D := D) (ci := 0) (v := .long 0) (ty := .long) (C := RX0) (T := TX0) (N := 6) hx hb hts hin tyX0 tyX0_ok nmX0 hown hK hP hD hS 0 rfl rfl 5 (by decide) (hts (.fieldLink RX0 27 "ClockDesk" "goal" "J") (by decide +kernel)) (fun _ h9 => h9) rfl (by decide +kernel) rfl rfl (Nat.le_of_ble_eq_true rfl) dX0_init_37 (fun H locs hP hD hS => ?_)
  have hP : va_P D vwCl (xW h a1 a2 c1 c2 (fun _ => 0) (fun _ => 0) 0 0 0 0) H := hP
  have hD : va_D A (xW h a1 a2 c1 c2 (fun _ => 0) (fun _ => 0) 0 0 0 0) := hD
  refine W.widen (k := 2) (n := 48) (by omega) (by omega) ?_
  exact W.vret hx hb hr (fun t ht hW => ⟨⟨(), rfl, trivial, a1, a2, c1, c2, by rw [ht]; exact hP, va_K.moved hW.alike hK, hD⟩, hS.F ht⟩) hS.2.2 dX0_init_40
set_option maxHeartbeats 400000 in
set_option maxRecDepth 100000 in
theorem c_X1_init (l : Launch) (D : va_G) (h sz : Nat) : Met l yX1_init wsX1_init { frames := 1, cells := 3, slots := 72, locals := 20 } (va_Pc [.ref h] (fun U => U.heap.size = sz ∧ va_P D vwCl [(h, .inr (1, [.null, .null, .null, .long 0, .long 0, .long 0]))] U.heap ∧ va_K D vwCl [] U ∧ va_D (fun _ => True) [(h, .inr (1, [.null, .null, .null, .long 0, .long 0, .long 0]))])) (va_Qv (fun _ : Unit => True) (fun _ t => ∃ (a0 a1 a2 : Nat) (c0 c1 c2 : ClassId), va_P D vwCl (mW h a0 a1 a2 c0 c1 c2 (fun _ => 0) (fun _ => 0) 0 0 0 0) t.heap ∧ va_K D vwCl (mT c0 c1 c2) t ∧ va_D (va_A [(h, .inr (1, [.null, .null, .null, .long 0, .long 0, .long 0]))] sz) (mW h a0 a1 a2 c0 c1 c2 (fun _ => 0) (fun _ => 0) 0 0 0 0)) (va_A [(h, .inr (1, [.null, .null, .null, .long 0, .long 0, .long 0]))] sz)) 3 72 (va_A [(h, .inr (1, [.null, .null, .null, .long 0, .long 0, .long 0]))] sz) := by
  refine Met.ofW (cc := cX1_init) (maxL := 1) (ret := none) (by decide) rfl ?_
  intro p e s m args below meth c s₁ B hml hv
  obtain ⟨rfl, hsz, hP, hK, hD0⟩ := hv
  have hx := B.exec
  have hb := B.bytes
  have hr := B.returns
  have hts := atoms_spec (ws := wsX1_init) B.pre
  have hown : s.vm.findClass RX1 = some m.cls := findClass_of_methodNamed B.named
  have hlocks := B.notSynchronized
  have hin2 : meth.name = "<init>" := (name_of_methodNamed B.named B.method).1
  have hin : ∀ w ∈ wsX10, w ∈ wsX1_init := fun _ h => List.mem_cons_of_mem _ (List.mem_append_right _ h)
  subst hsz
  have hD := hD0.self (sz := s.heap.size)
  generalize hAe : va_A [(h, .inr (1, [.null, .null, .null, .long 0, .long 0, .long 0]))] s.heap.size = A at hD ⊢
  have hA : ∀ q : Nat, s.heap.size ≤ q → A q := fun q h => by rw [← hAe]; exact Or.inr h
  have hS : va_S A s.heap s.heap [] := va_S.rf
  have hl := lv_entry ([.ref h]) (n := 1) (Nat.le_of_ble_eq_true rfl)
  rw [lg_entry_eq]
  generalize (lg_sl ([.ref h]) ++ List.replicate (1 - (lg_sl ([.ref h])).length) Slot.unset).toArray = ls at hl ⊢
  have hl : lv_has ls 1 [(0, .ref h)] := hl
  refine lv_aload_n hx hb dX1_init_0 rfl (lv_at hl 0 rfl) ?_
  refine W.objInit hx hb hown (hts (.methodLink RX1 1 objectInit) (by decide +kernel)) (hts (.instanceMethod objectInit) (by decide +kernel)) (hts _ (List.mem_cons_of_mem _ (List.mem_append_left _ (List.mem_of_getElem? (i := 2) rfl)))) rfl (by rw [hml]; exact hl.1) rfl dX1_init_1 (Nat.le_of_ble_eq_true rfl) (Nat.le_of_ble_eq_true rfl) ?_
  refine W.eq (g2 := F0 m 4 ls []) rfl ?_
  refine lv_aload_n hx hb dX1_init_4 rfl (lv_at hl 0 rfl) ?_
  refine lv_bipush (v := 24) hx hb dX1_init_5 (by decide) ?_
  refine va_newa (atype := .boolean) (ty := .boolean) (n := 24) (N' := 24) (a0 := (24, .inl (fun _ => 0))) hx hb (hts (.arrayClass .boolean) (by decide +kernel)) rfl hK hP hD hS hA ck_dz ck_n24 ck_c24 ck_by1 (Nat.le_of_ble_eq_true rfl) (Nat.le_of_ble_eq_true rfl) dX1_init_7 (fun a0 c0 H hK hP hD hS => ?_)
  rw [ck_bz0] at hP hD
  have hK : va_K D vwCl [(c0, .boolean)] s := hK
  have hP : va_P D vwCl [(h, .inr (1, [.null, .null, .null, .long 0, .long 0, .long 0])), (a0, .inl (c0, 24, .inl (ck_bz (bt 0))))] H := hP
  have hD : va_D A [(h, .inr (1, [.null, .null, .null, .long 0, .long 0, .long 0])), (a0, .inl (c0, 24, .inl (ck_bz (bt 0))))] := hD
  refine va_putF (D := D) (ci := 1) (v := .ref a0) (ty := .array .boolean) (C := RX1) (T := TX1) (N := 6) hx hb hts hin tyX1 tyX1_ok nmX1 hown hK hP hD hS 0 rfl rfl 0 (by decide) (hts (.fieldLink RX1 7 "ClockDeskModel" "is" "[Z") (by decide +kernel)) (fun _ h9 => h9) rfl hin2 rfl (by decide +kernel) rfl rfl (Nat.le_of_ble_eq_true rfl) dX1_init_9 (fun H locs hP hD hS => ?_)
  have hP : va_P D vwCl [(h, .inr (1, [.ref a0, .null, .null, .long 0, .long 0, .long 0])), (a0, .inl (c0, 24, .inl (ck_bz (bt 0))))] H := hP
  have hD : va_D A [(h, .inr (1, [.ref a0, .null, .null, .long 0, .long 0, .long 0])), (a0, .inl (c0, 24, .inl (ck_bz (bt 0))))] := hD
  refine lv_aload_n hx hb dX1_init_12 rfl (lv_at hl 0 rfl) ?_
  refine lv_bipush (v := 24) hx hb dX1_init_13 (by decide) ?_
  refine va_newa (atype := .long) (ty := .long) (n := 24) (N' := 24) (a0 := (24, .inr (.inl (fun _ => 0)))) hx hb (hts (.arrayClass .long) (by decide +kernel)) rfl hK hP hD hS hA ck_dl ck_n24 ck_c24 ck_by8 (Nat.le_of_ble_eq_true rfl) (Nat.le_of_ble_eq_true rfl) dX1_init_15 (fun a1 c1 H hK hP hD hS => ?_)
  have hK : va_K D vwCl [(c0, .boolean), (c1, .long)] s := hK
  have hP : va_P D vwCl [(h, .inr (1, [.ref a0, .null, .null, .long 0, .long 0, .long 0])), (a0, .inl (c0, 24, .inl (ck_bz (bt 0)))), (a1, .inl (c1, 24, .inr (.inl (fun _ => 0))))] H := hP
  have hD : va_D A [(h, .inr (1, [.ref a0, .null, .null, .long 0, .long 0, .long 0])), (a0, .inl (c0, 24, .inl (ck_bz (bt 0)))), (a1, .inl (c1, 24, .inr (.inl (fun _ => 0))))] := hD
  refine va_putF (D := D) (ci := 1) (v := .ref a1) (ty := .array .long) (C := RX1) (T := TX1) (N := 6) hx hb hts hin tyX1 tyX1_ok nmX1 hown hK hP hD hS 0 rfl rfl 1 (by decide) (hts (.fieldLink RX1 13 "ClockDeskModel" "low" "[J") (by decide +kernel)) (fun _ h9 => h9) rfl hin2 rfl (by decide +kernel) rfl rfl (Nat.le_of_ble_eq_true rfl) dX1_init_17 (fun H locs hP hD hS => ?_)
  have hP : va_P D vwCl [(h, .inr (1, [.ref a0, .ref a1, .null, .long 0, .long 0, .long 0])), (a0, .inl (c0, 24, .inl (ck_bz (bt 0)))), (a1, .inl (c1, 24, .inr (.inl (fun _ => 0))))] H := hP
  have hD : va_D A [(h, .inr (1, [.ref a0, .ref a1, .null, .long 0, .long 0, .long 0])), (a0, .inl (c0, 24, .inl (ck_bz (bt 0)))), (a1, .inl (c1, 24, .inr (.inl (fun _ => 0))))] := hD
  refine lv_aload_n hx hb dX1_init_20 rfl (lv_at hl 0 rfl) ?_
  refine lv_bipush (v := 24) hx hb dX1_init_21 (by decide) ?_
  refine va_newa (atype := .long) (ty := .long) (n := 24) (N' := 24) (a0 := (24, .inr (.inl (fun _ => 0)))) hx hb (hts (.arrayClass .long) (by decide +kernel)) rfl hK hP hD hS hA ck_dl ck_n24 ck_c24 ck_by8 (Nat.le_of_ble_eq_true rfl) (Nat.le_of_ble_eq_true rfl) dX1_init_23 (fun a2 c2 H hK hP hD hS => ?_)
  have hK : va_K D vwCl (mT c0 c1 c2) s := hK
  have hP : va_P D vwCl [(h, .inr (1, [.ref a0, .ref a1, .null, .long 0, .long 0, .long 0])), (a0, .inl (c0, 24, .inl (ck_bz (bt 0)))), (a1, .inl (c1, 24, .inr (.inl (fun _ => 0)))), (a2, .inl (c2, 24, .inr (.inl (fun _ => 0))))] H := hP
  have hD : va_D A [(h, .inr (1, [.ref a0, .ref a1, .null, .long 0, .long 0, .long 0])), (a0, .inl (c0, 24, .inl (ck_bz (bt 0)))), (a1, .inl (c1, 24, .inr (.inl (fun _ => 0)))), (a2, .inl (c2, 24, .inr (.inl (fun _ => 0))))] := hD
  refine va_putF (D := D) (ci := 1) (v := .ref a2) (ty := .array .long) (C := RX1) (T := TX1) (N := 6) hx hb hts hin tyX1 tyX1_ok nmX1 hown hK hP hD hS 0 rfl rfl 2 (by decide) (hts (.fieldLink RX1 17 "ClockDeskModel" "high" "[J") (by decide +kernel)) (fun _ h9 => h9) rfl hin2 rfl (by decide +kernel) rfl rfl (Nat.le_of_ble_eq_true rfl) dX1_init_25 (fun H locs hP hD hS => ?_)
  have hP : va_P D vwCl (mW h a0 a1 a2 c0 c1 c2 (fun _ => 0) (fun _ => 0) 0 0 0 0) H := hP
  have hD : va_D A (mW h a0 a1 a2 c0 c1 c2 (fun _ => 0) (fun _ => 0) 0 0 0 0) := hD
  refine W.widen (k := 3) (n := 72) (by omega) (by omega) ?_
  exact W.vret hx hb hr (fun t ht hW => ⟨⟨(), rfl, trivial, a0, a1, a2, c0, c1, c2, by rw [ht]; exact hP, va_K.moved hW.alike hK, hD⟩, hS.F ht⟩) hS.2.2 dX1_init_28
theorem ck_inv0 : ck_inv 0 (fun _ => 0) (fun _ => 0) := ⟨fun j _ => b_0 j, fun _ => (by decide +kernel : ck_NFAR ≤ 0 ∧ (0 : Int64) ≤ 0 ∧ 0 ≤ ck_FAR)⟩
theorem ck_inv_set {hd : Int32} {lo hi : Nat → Int64} (inv : ck_inv hd lo hi) {j : Nat} (hj : j < 24) {a b : Int64} (h1 : ck_NFAR ≤ a) (h2 : a ≤ b) (h3 : b ≤ ck_FAR) : ck_inv (hd ||| ((1 : Int32) <<< (nI j &&& 31))) (vp_updL lo j a) (vp_updL hi j b) := by
  refine ⟨fun k hk => ?_, fun k => ?_⟩
  · rw [ck_bt_or hd hj, inv.1 k hk, decide_eq_false (by omega)]
    rfl
  · unfold vp_updL
    by_cases e : k = j
    · rw [if_pos e, if_pos e]
      exact ⟨h1, h2, h3⟩
    · rw [if_neg e, if_neg e]
      exact inv.2 k
theorem ck_inv_iv {hd : Int32} {lo hi : Nat → Int64} (inv : ck_inv hd lo hi) (x : Int32) (a b : Int64) : ck_inv (ck_uH (ck_ivk x a b) hd x) (ck_uL (ck_ivk x a b) lo x a) (ck_uL (ck_ivk x a b) hi x b) := by
  cases hk : ck_ivk x a b with
  | false => exact inv
  | true =>
    simp only [ck_ivk, Bool.and_eq_true, Bool.not_eq_true', decide_eq_false_iff_not, decide_eq_true_eq] at hk
    obtain ⟨h0, h1, h2, h3⟩ := hk
    obtain ⟨j, hj, rfl⟩ := ck_srcE h0
    have e : (nI j).toNatClampNeg = j := nI_clamp (by omega)
    simp only [ck_uH, ck_uL, if_true, e]
    refine ck_inv_set inv hj ?_ ?_ h3
    · rw [Int64.le_iff_toInt_le]
      rw [Int64.lt_iff_toInt_lt] at h1
      omega
    · rw [Int64.le_iff_toInt_le]
      rw [Int64.lt_iff_toInt_lt] at h2
      omega
theorem ck_toI_TIME : ck_TIME.toInt = 144115188075855872 := by decide +kernel
theorem ck_inv_ex {hd : Int32} {lo hi : Nat → Int64} (inv : ck_inv hd lo hi) (x : Int32) (sn td cm : Int64) : ck_inv (ck_uH (ck_exk x sn td cm) hd x) (ck_uL (ck_exk x sn td cm) lo x (td - cm)) (ck_uL (ck_exk x sn td cm) hi x (td - sn)) := by
  cases hk : ck_exk x sn td cm with
  | false => exact inv
  | true =>
    simp only [ck_exk, ck_tm, Bool.and_eq_true, Bool.not_eq_true', decide_eq_false_iff_not, decide_eq_true_eq, Int64.lt_iff_toInt_lt, Int64.le_iff_toInt_le, ck_i0, ck_toI_TIME] at hk
    obtain ⟨h0, ⟨h1, h2⟩, ⟨h3, h4⟩, ⟨h5, h6⟩, h7⟩ := hk
    obtain ⟨j, hj, rfl⟩ := ck_srcE h0
    have e : (nI j).toNatClampNeg = j := nI_clamp (by omega)
    simp only [ck_uH, ck_uL, if_true, e]
    have e1 : (td - cm).toInt = td.toInt - cm.toInt := by
      rw [Int64.toInt_sub]
      exact ck_mb (by omega) (by omega)
    have e2 : (td - sn).toInt = td.toInt - sn.toInt := by
      rw [Int64.toInt_sub]
      exact ck_mb (by omega) (by omega)
    refine ck_inv_set inv hj ?_ ?_ ?_
    · rw [Int64.le_iff_toInt_le, e1, ck_toI_NFAR]
      omega
    · rw [Int64.le_iff_toInt_le, e1, e2]
      omega
    · rw [Int64.le_iff_toInt_le, e2, ck_toI_FAR]
      omega
theorem ck_inv_dr {hd : Int32} {lo hi : Nat → Int64} (inv : ck_inv hd lo hi) (x : Int32) : ck_inv (ck_dH hd x) lo hi := by
  unfold ck_dH
  cases hk : ck_in hd x with
  | false => exact inv
  | true =>
    obtain ⟨j, hj, rfl⟩ := ck_inE hk
    refine ⟨fun k h => ?_, inv.2⟩
    simp only [if_true]
    rw [ck_bt_wo hd hj, inv.1 k h]
    rfl
theorem ck_inv_tk {ow : Int64} (h : 0 ≤ ow) (t : Int64) : 0 ≤ ck_tW ow t := by
  unfold ck_tW
  cases hk : ck_tk ow t with
  | false => exact h
  | true =>
    simp only [ck_tk, Bool.and_eq_true, Bool.not_eq_true', decide_eq_false_iff_not] at hk
    simp only [if_true]
    rw [Int64.le_iff_toInt_le] at h ⊢
    have := hk.1
    rw [Int64.lt_iff_toInt_lt] at this
    omega
