set_option maxHeartbeats 4000000 in
set_option maxRecDepth 100000 in
theorem law_c9 {p : Program} {e : Env} {s : State} {m : MethodId} {below : List Frame} {meth : Method} {c : Code} (l : Launch) {b L : Nat} {xs : Nat → Int32} (hL : L ≤ 4096) (C0 : lw_At p s m meth c b L xs) (D : va_G) (h a1 a2 g b0 b1 b2 : Nat) (c1 c2 d0 d1 d2 : ClassId) (hK : va_K D vwCl [(c1, .long), (c2, .long), (d0, .boolean), (d1, .long), (d2, .long)] s) (i : Nat) (hi8 : i + 8 ≤ L) (tail : ∀ (lo hi : Nat → Int64) (hd : Int32) (ow off go : Int64), ck_inv hd lo hi → 0 ≤ ow → ∀ (H : Heap) (locs : List Loc), va_P D vwCl [(h, .inr (0, [.ref a1, .ref a2, .int hd, .long ow, .long off, .long go])), (a1, .inl (c1, 24, .inr (.inl lo))), (a2, .inl (c2, 24, .inr (.inl hi))), (g, .inr (1, [.ref b0, .ref b1, .ref b2, .long ow, .long off, .long go])), (b0, .inl (d0, 24, .inl (ck_bz (bt hd)))), (b1, .inl (d1, 24, .inr (.inl lo))), (b2, .inl (d2, 24, .inr (.inl hi)))] H → va_D (fun q : Nat => s.heap.size ≤ q) [(h, .inr (0, [.ref a1, .ref a2, .int hd, .long ow, .long off, .long go])), (a1, .inl (c1, 24, .inr (.inl lo))), (a2, .inl (c2, 24, .inr (.inl hi))), (g, .inr (1, [.ref b0, .ref b1, .ref b2, .long ow, .long off, .long go])), (b0, .inl (d0, 24, .inl (ck_bz (bt hd)))), (b1, .inl (d1, 24, .inr (.inl lo))), (b2, .inl (d2, 24, .inr (.inl hi)))] → va_S (fun q : Nat => s.heap.size ≤ q) s.heap H locs → ∀ ls, lv_has ls 4 [(0, .ref b), (1, .ref h), (2, .ref g), (3, .int (nI i))] → W p l e room_1 s m #[Value.ref b] below meth c H locs 7 132 (lw_Z below #[Value.ref b] s) (F0 m 788 ls [])) : ∀ (lo hi : Nat → Int64) (hd : Int32) (ow off go : Int64), ck_inv hd lo hi → 0 ≤ ow → ∀ (H : Heap) (locs : List Loc), va_P D vwCl [(h, .inr (0, [.ref a1, .ref a2, .int hd, .long ow, .long off, .long go])), (a1, .inl (c1, 24, .inr (.inl lo))), (a2, .inl (c2, 24, .inr (.inl hi))), (g, .inr (1, [.ref b0, .ref b1, .ref b2, .long ow, .long off, .long go])), (b0, .inl (d0, 24, .inl (ck_bz (bt hd)))), (b1, .inl (d1, 24, .inr (.inl lo))), (b2, .inl (d2, 24, .inr (.inl hi)))] H → va_D (fun q : Nat => s.heap.size ≤ q) [(h, .inr (0, [.ref a1, .ref a2, .int hd, .long ow, .long off, .long go])), (a1, .inl (c1, 24, .inr (.inl lo))), (a2, .inl (c2, 24, .inr (.inl hi))), (g, .inr (1, [.ref b0, .ref b1, .ref b2, .long ow, .long off, .long go])), (b0, .inl (d0, 24, .inl (ck_bz (bt hd)))), (b1, .inl (d1, 24, .inr (.inl lo))), (b2, .inl (d2, 24, .inr (.inl hi)))] → va_S (fun q : Nat => s.heap.size ≤ q) s.heap H locs → ∀ ls, lv_has ls 4 [(0, .ref b), (1, .ref h), (2, .ref g), (3, .int (nI i))] → W p l e room_1 s m #[Value.ref b] below meth c H locs 7 132 (lw_Z below #[Value.ref b] s) (F0 m 550 ls []) := by
  obtain ⟨hx, hb, hr, hml, hown0, hts, hX, hbl, hlocks, hgv⟩ := id C0
  have hown : s.vm.findClass RL = some m.cls := hown0
  have htl : ∀ w ∈ wsL_law, w.before #[Value.ref b] s = true := fun w hw => hts w (wsL_law_in w hw)
  have hA : ∀ q : Nat, s.heap.size ≤ q → (fun q : Nat => s.heap.size ≤ q) q := fun _ h => h
  have hbA : ¬ (fun q : Nat => s.heap.size ≤ q) b := Nat.not_le.mpr hbl
  intro lo hi hd ow off go inv how H locs hP hD hS ls hl
  refine lv_aload_n hx hb dL_law_550 rfl (lv_at hl 1 rfl) ?_
  refine lv_aload_n hx hb dL_law_551 rfl (lv_at hl 0 rfl) ?_
  refine lv_iload_n hx hb dL_law_552 rfl (lv_at hl 3 rfl) ?_
  refine lv_iconst (v := 1) hx hb dL_law_553 (by decide) ?_
  refine lv_iadd hx hb dL_law_554 ?_
  refine ck_sld hx hb hX hbl hbA hS hL (k := i + 1) (nI_add i 1) (by omega) dL_law_555 ?_
  refine lv_i2l (v := (Int32.toInt64 (xs (i + 1)))) hx hb dL_law_556 rfl ?_
  refine lv_bipush (v := 32) hx hb dL_law_557 (by decide) ?_
  refine lv_lshl (v := ((Int32.toInt64 (xs (i + 1))) <<< (Int32.toInt64 32 &&& 63))) hx hb dL_law_559 rfl ?_
  refine lv_aload_n hx hb dL_law_560 rfl (lv_at hl 0 rfl) ?_
  refine lv_iload_n hx hb dL_law_561 rfl (lv_at hl 3 rfl) ?_
  refine lv_iconst (v := 2) hx hb dL_law_562 (by decide) ?_
  refine lv_iadd hx hb dL_law_563 ?_
  refine ck_sld hx hb hX hbl hbA hS hL (k := i + 2) (nI_add i 2) (by omega) dL_law_564 ?_
  refine lv_i2l (v := (Int32.toInt64 (xs (i + 2)))) hx hb dL_law_565 rfl ?_
  refine lv_ldc2 (v := 4294967295) hx hb hown (htl (.constantLong RL 13 4294967295) (by decide +kernel)) dL_law_566 ?_
  refine lv_land hx hb dL_law_569 ?_
  refine lv_lor hx hb dL_law_570 ?_
  refine lv_aload_n hx hb dL_law_571 rfl (lv_at hl 0 rfl) ?_
  refine lv_iload_n hx hb dL_law_572 rfl (lv_at hl 3 rfl) ?_
  refine lv_iconst (v := 3) hx hb dL_law_573 (by decide) ?_
  refine lv_iadd hx hb dL_law_574 ?_
  refine ck_sld hx hb hX hbl hbA hS hL (k := i + 3) (nI_add i 3) (by omega) dL_law_575 ?_
  have hPx := hP.sub (ws' := [(h, .inr (0, [.ref a1, .ref a2, .int hd, .long ow, .long off, .long go])), (a1, .inl (c1, 24, .inr (.inl lo))), (a2, .inl (c2, 24, .inr (.inl hi)))]) [0, 1, 2] rfl
  have hKx := hK.sub (tys' := xT c1 c2) [0, 1] rfl
  refine ck_cV (As := [.long (ck_L (xs (i + 1)) (xs (i + 2))), .int (xs (i + 3))]) (rest := []) ⟨hx, hb, hml, hown, htl⟩ (c_X0_mean l D h a1 a2 c1 c2 lo hi hd ow off go (ck_L (xs (i + 1)) (xs (i + 2))) (xs (i + 3))) (cwV 2 htl gL_law_X0_mean rfl rfl rfl (by decide +kernel) ⟨Nat.le_of_ble_eq_true rfl, Nat.le_of_ble_eq_true rfl⟩) hPx hKx (va_recv hKx hPx (ci := 0) (q0 := 0) rfl rfl) rfl hl.1 rfl (Nat.le_of_ble_eq_true rfl) dL_law_576 ⟨Nat.le_of_ble_eq_true rfl, Nat.le_of_ble_eq_true rfl⟩ ?_
  refine lv_aload_n hx hb dL_law_579 rfl (lv_at hl 2 rfl) ?_
  refine lv_aload_n hx hb dL_law_580 rfl (lv_at hl 0 rfl) ?_
  refine lv_iload_n hx hb dL_law_581 rfl (lv_at hl 3 rfl) ?_
  refine lv_iconst (v := 1) hx hb dL_law_582 (by decide) ?_
  refine lv_iadd hx hb dL_law_583 ?_
  refine ck_sld hx hb hX hbl hbA hS hL (k := i + 1) (nI_add i 1) (by omega) dL_law_584 ?_
  refine lv_i2l (v := (Int32.toInt64 (xs (i + 1)))) hx hb dL_law_585 rfl ?_
  refine lv_bipush (v := 32) hx hb dL_law_586 (by decide) ?_
  refine lv_lshl (v := ((Int32.toInt64 (xs (i + 1))) <<< (Int32.toInt64 32 &&& 63))) hx hb dL_law_588 rfl ?_
  refine lv_aload_n hx hb dL_law_589 rfl (lv_at hl 0 rfl) ?_
  refine lv_iload_n hx hb dL_law_590 rfl (lv_at hl 3 rfl) ?_
  refine lv_iconst (v := 2) hx hb dL_law_591 (by decide) ?_
  refine lv_iadd hx hb dL_law_592 ?_
  refine ck_sld hx hb hX hbl hbA hS hL (k := i + 2) (nI_add i 2) (by omega) dL_law_593 ?_
  refine lv_i2l (v := (Int32.toInt64 (xs (i + 2)))) hx hb dL_law_594 rfl ?_
  refine lv_ldc2 (v := 4294967295) hx hb hown (htl (.constantLong RL 13 4294967295) (by decide +kernel)) dL_law_595 ?_
  refine lv_land hx hb dL_law_598 ?_
  refine lv_lor hx hb dL_law_599 ?_
  refine lv_aload_n hx hb dL_law_600 rfl (lv_at hl 0 rfl) ?_
  refine lv_iload_n hx hb dL_law_601 rfl (lv_at hl 3 rfl) ?_
  refine lv_iconst (v := 3) hx hb dL_law_602 (by decide) ?_
  refine lv_iadd hx hb dL_law_603 ?_
  refine ck_sld hx hb hX hbl hbA hS hL (k := i + 3) (nI_add i 3) (by omega) dL_law_604 ?_
  have hPm := hP.sub (ws' := [(g, .inr (1, [.ref b0, .ref b1, .ref b2, .long ow, .long off, .long go])), (b0, .inl (d0, 24, .inl (ck_bz (bt hd)))), (b1, .inl (d1, 24, .inr (.inl lo))), (b2, .inl (d2, 24, .inr (.inl hi)))]) [3, 4, 5, 6] rfl
  have hKm := hK.sub (tys' := mT d0 d1 d2) [2, 3, 4] rfl
  refine ck_cV (As := [.long (ck_L (xs (i + 1)) (xs (i + 2))), .int (xs (i + 3))]) (rest := [.long (ck_mn hd lo hi (ck_L (xs (i + 1)) (xs (i + 2))) (xs (i + 3)))]) ⟨hx, hb, hml, hown, htl⟩ (c_X1_mean l D g b0 b1 b2 d0 d1 d2 lo hi hd ow off go inv (ck_L (xs (i + 1)) (xs (i + 2))) (xs (i + 3))) (cwV 2 htl gL_law_X1_mean rfl rfl rfl (by decide +kernel) ⟨Nat.le_of_ble_eq_true rfl, Nat.le_of_ble_eq_true rfl⟩) hPm hKm (va_recv hKm hPm (ci := 1) (q0 := 0) rfl rfl) rfl hl.1 rfl (Nat.le_of_ble_eq_true rfl) dL_law_605 ⟨Nat.le_of_ble_eq_true rfl, Nat.le_of_ble_eq_true rfl⟩ ?_
  refine W.lcmp hx hb dL_law_608 ?_
  refine lv_if_eq (tgt := 788) hx hb dL_law_609 (by decide) (fun _ => ?_) (fun cq => absurd ((lg_cmp_eq _ _).mpr rfl) cq)
  exact tail lo hi hd ow off go (inv) (how) _ _ hP hD hS ls hl

set_option maxHeartbeats 4000000 in
set_option maxRecDepth 100000 in
theorem law_c10 {p : Program} {e : Env} {s : State} {m : MethodId} {below : List Frame} {meth : Method} {c : Code} (l : Launch) {b L : Nat} {xs : Nat → Int32} (hL : L ≤ 4096) (C0 : lw_At p s m meth c b L xs) (D : va_G) (h a1 a2 g b0 b1 b2 : Nat) (c1 c2 d0 d1 d2 : ClassId) (hK : va_K D vwCl [(c1, .long), (c2, .long), (d0, .boolean), (d1, .long), (d2, .long)] s) (i : Nat) (hi8 : i + 8 ≤ L) (tail : ∀ (lo hi : Nat → Int64) (hd : Int32) (ow off go : Int64), ck_inv hd lo hi → 0 ≤ ow → ∀ (H : Heap) (locs : List Loc), va_P D vwCl [(h, .inr (0, [.ref a1, .ref a2, .int hd, .long ow, .long off, .long go])), (a1, .inl (c1, 24, .inr (.inl lo))), (a2, .inl (c2, 24, .inr (.inl hi))), (g, .inr (1, [.ref b0, .ref b1, .ref b2, .long ow, .long off, .long go])), (b0, .inl (d0, 24, .inl (ck_bz (bt hd)))), (b1, .inl (d1, 24, .inr (.inl lo))), (b2, .inl (d2, 24, .inr (.inl hi)))] H → va_D (fun q : Nat => s.heap.size ≤ q) [(h, .inr (0, [.ref a1, .ref a2, .int hd, .long ow, .long off, .long go])), (a1, .inl (c1, 24, .inr (.inl lo))), (a2, .inl (c2, 24, .inr (.inl hi))), (g, .inr (1, [.ref b0, .ref b1, .ref b2, .long ow, .long off, .long go])), (b0, .inl (d0, 24, .inl (ck_bz (bt hd)))), (b1, .inl (d1, 24, .inr (.inl lo))), (b2, .inl (d2, 24, .inr (.inl hi)))] → va_S (fun q : Nat => s.heap.size ≤ q) s.heap H locs → ∀ ls, lv_has ls 4 [(0, .ref b), (1, .ref h), (2, .ref g), (3, .int (nI i))] → W p l e room_1 s m #[Value.ref b] below meth c H locs 7 132 (lw_Z below #[Value.ref b] s) (F0 m 788 ls [])) : ∀ (lo hi : Nat → Int64) (hd : Int32) (ow off go : Int64), ck_inv hd lo hi → 0 ≤ ow → ∀ (H : Heap) (locs : List Loc), va_P D vwCl [(h, .inr (0, [.ref a1, .ref a2, .int hd, .long ow, .long off, .long go])), (a1, .inl (c1, 24, .inr (.inl lo))), (a2, .inl (c2, 24, .inr (.inl hi))), (g, .inr (1, [.ref b0, .ref b1, .ref b2, .long ow, .long off, .long go])), (b0, .inl (d0, 24, .inl (ck_bz (bt hd)))), (b1, .inl (d1, 24, .inr (.inl lo))), (b2, .inl (d2, 24, .inr (.inl hi)))] H → va_D (fun q : Nat => s.heap.size ≤ q) [(h, .inr (0, [.ref a1, .ref a2, .int hd, .long ow, .long off, .long go])), (a1, .inl (c1, 24, .inr (.inl lo))), (a2, .inl (c2, 24, .inr (.inl hi))), (g, .inr (1, [.ref b0, .ref b1, .ref b2, .long ow, .long off, .long go])), (b0, .inl (d0, 24, .inl (ck_bz (bt hd)))), (b1, .inl (d1, 24, .inr (.inl lo))), (b2, .inl (d2, 24, .inr (.inl hi)))] → va_S (fun q : Nat => s.heap.size ≤ q) s.heap H locs → ∀ ls, lv_has ls 4 [(0, .ref b), (1, .ref h), (2, .ref g), (3, .int (nI i))] → W p l e room_1 s m #[Value.ref b] below meth c H locs 7 132 (lw_Z below #[Value.ref b] s) (F0 m 614 ls []) := by
  obtain ⟨hx, hb, hr, hml, hown0, hts, hX, hbl, hlocks, hgv⟩ := id C0
  have hown : s.vm.findClass RL = some m.cls := hown0
  have htl : ∀ w ∈ wsL_law, w.before #[Value.ref b] s = true := fun w hw => hts w (wsL_law_in w hw)
  have hA : ∀ q : Nat, s.heap.size ≤ q → (fun q : Nat => s.heap.size ≤ q) q := fun _ h => h
  have hbA : ¬ (fun q : Nat => s.heap.size ≤ q) b := Nat.not_le.mpr hbl
  intro lo hi hd ow off go inv how H locs hP hD hS ls hl
  refine lv_aload_n hx hb dL_law_614 rfl (lv_at hl 1 rfl) ?_
  refine lv_aload_n hx hb dL_law_615 rfl (lv_at hl 0 rfl) ?_
  refine lv_iload_n hx hb dL_law_616 rfl (lv_at hl 3 rfl) ?_
  refine lv_iconst (v := 1) hx hb dL_law_617 (by decide) ?_
  refine lv_iadd hx hb dL_law_618 ?_
  refine ck_sld hx hb hX hbl hbA hS hL (k := i + 1) (nI_add i 1) (by omega) dL_law_619 ?_
  have hPx := hP.sub (ws' := [(h, .inr (0, [.ref a1, .ref a2, .int hd, .long ow, .long off, .long go])), (a1, .inl (c1, 24, .inr (.inl lo))), (a2, .inl (c2, 24, .inr (.inl hi)))]) [0, 1, 2] rfl
  have hKx := hK.sub (tys' := xT c1 c2) [0, 1] rfl
  refine ck_cV (As := [.int (xs (i + 1))]) (rest := []) ⟨hx, hb, hml, hown, htl⟩ (c_X0_survivors l D h a1 a2 c1 c2 lo hi hd ow off go (xs (i + 1))) (cwV 1 htl gL_law_X0_survivors rfl rfl rfl (by decide +kernel) ⟨Nat.le_of_ble_eq_true rfl, Nat.le_of_ble_eq_true rfl⟩) hPx hKx (va_recv hKx hPx (ci := 0) (q0 := 0) rfl rfl) rfl hl.1 rfl (Nat.le_of_ble_eq_true rfl) dL_law_620 ⟨Nat.le_of_ble_eq_true rfl, Nat.le_of_ble_eq_true rfl⟩ ?_
  refine lv_aload_n hx hb dL_law_623 rfl (lv_at hl 2 rfl) ?_
  refine lv_aload_n hx hb dL_law_624 rfl (lv_at hl 0 rfl) ?_
  refine lv_iload_n hx hb dL_law_625 rfl (lv_at hl 3 rfl) ?_
  refine lv_iconst (v := 1) hx hb dL_law_626 (by decide) ?_
  refine lv_iadd hx hb dL_law_627 ?_
  refine ck_sld hx hb hX hbl hbA hS hL (k := i + 1) (nI_add i 1) (by omega) dL_law_628 ?_
  have hPm := hP.sub (ws' := [(g, .inr (1, [.ref b0, .ref b1, .ref b2, .long ow, .long off, .long go])), (b0, .inl (d0, 24, .inl (ck_bz (bt hd)))), (b1, .inl (d1, 24, .inr (.inl lo))), (b2, .inl (d2, 24, .inr (.inl hi)))]) [3, 4, 5, 6] rfl
  have hKm := hK.sub (tys' := mT d0 d1 d2) [2, 3, 4] rfl
  refine ck_cV (As := [.int (xs (i + 1))]) (rest := [.int (ck_sv hd lo hi (xs (i + 1)))]) ⟨hx, hb, hml, hown, htl⟩ (c_X1_survivors l D g b0 b1 b2 d0 d1 d2 lo hi hd ow off go inv (xs (i + 1))) (cwV 1 htl gL_law_X1_survivors rfl rfl rfl (by decide +kernel) ⟨Nat.le_of_ble_eq_true rfl, Nat.le_of_ble_eq_true rfl⟩) hPm hKm (va_recv hKm hPm (ci := 1) (q0 := 0) rfl rfl) rfl hl.1 rfl (Nat.le_of_ble_eq_true rfl) dL_law_629 ⟨Nat.le_of_ble_eq_true rfl, Nat.le_of_ble_eq_true rfl⟩ ?_
  refine lv_icmp_eq (tgt := 788) hx hb dL_law_632 (by decide) (fun _ => ?_) (fun cq => absurd rfl cq)
  exact tail lo hi hd ow off go (inv) (how) _ _ hP hD hS ls hl

set_option maxHeartbeats 4000000 in
set_option maxRecDepth 100000 in
theorem law_c11 {p : Program} {e : Env} {s : State} {m : MethodId} {below : List Frame} {meth : Method} {c : Code} (l : Launch) {b L : Nat} {xs : Nat → Int32} (hL : L ≤ 4096) (C0 : lw_At p s m meth c b L xs) (D : va_G) (h a1 a2 g b0 b1 b2 : Nat) (c1 c2 d0 d1 d2 : ClassId) (hK : va_K D vwCl [(c1, .long), (c2, .long), (d0, .boolean), (d1, .long), (d2, .long)] s) (i : Nat) (hi8 : i + 8 ≤ L) (tail : ∀ (lo hi : Nat → Int64) (hd : Int32) (ow off go : Int64), ck_inv hd lo hi → 0 ≤ ow → ∀ (H : Heap) (locs : List Loc), va_P D vwCl [(h, .inr (0, [.ref a1, .ref a2, .int hd, .long ow, .long off, .long go])), (a1, .inl (c1, 24, .inr (.inl lo))), (a2, .inl (c2, 24, .inr (.inl hi))), (g, .inr (1, [.ref b0, .ref b1, .ref b2, .long ow, .long off, .long go])), (b0, .inl (d0, 24, .inl (ck_bz (bt hd)))), (b1, .inl (d1, 24, .inr (.inl lo))), (b2, .inl (d2, 24, .inr (.inl hi)))] H → va_D (fun q : Nat => s.heap.size ≤ q) [(h, .inr (0, [.ref a1, .ref a2, .int hd, .long ow, .long off, .long go])), (a1, .inl (c1, 24, .inr (.inl lo))), (a2, .inl (c2, 24, .inr (.inl hi))), (g, .inr (1, [.ref b0, .ref b1, .ref b2, .long ow, .long off, .long go])), (b0, .inl (d0, 24, .inl (ck_bz (bt hd)))), (b1, .inl (d1, 24, .inr (.inl lo))), (b2, .inl (d2, 24, .inr (.inl hi)))] → va_S (fun q : Nat => s.heap.size ≤ q) s.heap H locs → ∀ ls, lv_has ls 4 [(0, .ref b), (1, .ref h), (2, .ref g), (3, .int (nI i))] → W p l e room_1 s m #[Value.ref b] below meth c H locs 7 132 (lw_Z below #[Value.ref b] s) (F0 m 788 ls [])) : ∀ (lo hi : Nat → Int64) (hd : Int32) (ow off go : Int64), ck_inv hd lo hi → 0 ≤ ow → ∀ (H : Heap) (locs : List Loc), va_P D vwCl [(h, .inr (0, [.ref a1, .ref a2, .int hd, .long ow, .long off, .long go])), (a1, .inl (c1, 24, .inr (.inl lo))), (a2, .inl (c2, 24, .inr (.inl hi))), (g, .inr (1, [.ref b0, .ref b1, .ref b2, .long ow, .long off, .long go])), (b0, .inl (d0, 24, .inl (ck_bz (bt hd)))), (b1, .inl (d1, 24, .inr (.inl lo))), (b2, .inl (d2, 24, .inr (.inl hi)))] H → va_D (fun q : Nat => s.heap.size ≤ q) [(h, .inr (0, [.ref a1, .ref a2, .int hd, .long ow, .long off, .long go])), (a1, .inl (c1, 24, .inr (.inl lo))), (a2, .inl (c2, 24, .inr (.inl hi))), (g, .inr (1, [.ref b0, .ref b1, .ref b2, .long ow, .long off, .long go])), (b0, .inl (d0, 24, .inl (ck_bz (bt hd)))), (b1, .inl (d1, 24, .inr (.inl lo))), (b2, .inl (d2, 24, .inr (.inl hi)))] → va_S (fun q : Nat => s.heap.size ≤ q) s.heap H locs → ∀ ls, lv_has ls 4 [(0, .ref b), (1, .ref h), (2, .ref g), (3, .int (nI i))] → W p l e room_1 s m #[Value.ref b] below meth c H locs 7 132 (lw_Z below #[Value.ref b] s) (F0 m 637 ls []) := by
  obtain ⟨hx, hb, hr, hml, hown0, hts, hX, hbl, hlocks, hgv⟩ := id C0
  have hown : s.vm.findClass RL = some m.cls := hown0
  have htl : ∀ w ∈ wsL_law, w.before #[Value.ref b] s = true := fun w hw => hts w (wsL_law_in w hw)
  have hA : ∀ q : Nat, s.heap.size ≤ q → (fun q : Nat => s.heap.size ≤ q) q := fun _ h => h
  have hbA : ¬ (fun q : Nat => s.heap.size ≤ q) b := Nat.not_le.mpr hbl
  intro lo hi hd ow off go inv how H locs hP hD hS ls hl
  refine lv_aload_n hx hb dL_law_637 rfl (lv_at hl 1 rfl) ?_
  refine lv_aload_n hx hb dL_law_638 rfl (lv_at hl 0 rfl) ?_
  refine lv_iload_n hx hb dL_law_639 rfl (lv_at hl 3 rfl) ?_
  refine lv_iconst (v := 1) hx hb dL_law_640 (by decide) ?_
  refine lv_iadd hx hb dL_law_641 ?_
  refine ck_sld hx hb hX hbl hbA hS hL (k := i + 1) (nI_add i 1) (by omega) dL_law_642 ?_
  refine lv_aload_n hx hb dL_law_643 rfl (lv_at hl 0 rfl) ?_
  refine lv_iload_n hx hb dL_law_644 rfl (lv_at hl 3 rfl) ?_
  refine lv_iconst (v := 2) hx hb dL_law_645 (by decide) ?_
  refine lv_iadd hx hb dL_law_646 ?_
  refine ck_sld hx hb hX hbl hbA hS hL (k := i + 2) (nI_add i 2) (by omega) dL_law_647 ?_
  have hPx := hP.sub (ws' := [(h, .inr (0, [.ref a1, .ref a2, .int hd, .long ow, .long off, .long go])), (a1, .inl (c1, 24, .inr (.inl lo))), (a2, .inl (c2, 24, .inr (.inl hi)))]) [0, 1, 2] rfl
  have hKx := hK.sub (tys' := xT c1 c2) [0, 1] rfl
  refine ck_cV (As := [.int (xs (i + 1)), .int (xs (i + 2))]) (rest := []) ⟨hx, hb, hml, hown, htl⟩ (c_X0_rank l D h a1 a2 c1 c2 lo hi hd ow off go (xs (i + 1)) (xs (i + 2))) (cwV 2 htl gL_law_X0_rank rfl rfl rfl (by decide +kernel) ⟨Nat.le_of_ble_eq_true rfl, Nat.le_of_ble_eq_true rfl⟩) hPx hKx (va_recv hKx hPx (ci := 0) (q0 := 0) rfl rfl) rfl hl.1 rfl (Nat.le_of_ble_eq_true rfl) dL_law_648 ⟨Nat.le_of_ble_eq_true rfl, Nat.le_of_ble_eq_true rfl⟩ ?_
  refine lv_aload_n hx hb dL_law_651 rfl (lv_at hl 2 rfl) ?_
  refine lv_aload_n hx hb dL_law_652 rfl (lv_at hl 0 rfl) ?_
  refine lv_iload_n hx hb dL_law_653 rfl (lv_at hl 3 rfl) ?_
  refine lv_iconst (v := 1) hx hb dL_law_654 (by decide) ?_
  refine lv_iadd hx hb dL_law_655 ?_
  refine ck_sld hx hb hX hbl hbA hS hL (k := i + 1) (nI_add i 1) (by omega) dL_law_656 ?_
  refine lv_aload_n hx hb dL_law_657 rfl (lv_at hl 0 rfl) ?_
  refine lv_iload_n hx hb dL_law_658 rfl (lv_at hl 3 rfl) ?_
  refine lv_iconst (v := 2) hx hb dL_law_659 (by decide) ?_
  refine lv_iadd hx hb dL_law_660 ?_
  refine ck_sld hx hb hX hbl hbA hS hL (k := i + 2) (nI_add i 2) (by omega) dL_law_661 ?_
  have hPm := hP.sub (ws' := [(g, .inr (1, [.ref b0, .ref b1, .ref b2, .long ow, .long off, .long go])), (b0, .inl (d0, 24, .inl (ck_bz (bt hd)))), (b1, .inl (d1, 24, .inr (.inl lo))), (b2, .inl (d2, 24, .inr (.inl hi)))]) [3, 4, 5, 6] rfl
  have hKm := hK.sub (tys' := mT d0 d1 d2) [2, 3, 4] rfl
  refine ck_cV (As := [.int (xs (i + 1)), .int (xs (i + 2))]) (rest := [.int (ck_rk hd lo hi (xs (i + 1)) (xs (i + 2)))]) ⟨hx, hb, hml, hown, htl⟩ (c_X1_rank l D g b0 b1 b2 d0 d1 d2 lo hi hd ow off go inv (xs (i + 1)) (xs (i + 2))) (cwV 2 htl gL_law_X1_rank rfl rfl rfl (by decide +kernel) ⟨Nat.le_of_ble_eq_true rfl, Nat.le_of_ble_eq_true rfl⟩) hPm hKm (va_recv hKm hPm (ci := 1) (q0 := 0) rfl rfl) rfl hl.1 rfl (Nat.le_of_ble_eq_true rfl) dL_law_662 ⟨Nat.le_of_ble_eq_true rfl, Nat.le_of_ble_eq_true rfl⟩ ?_
  refine lv_icmp_eq (tgt := 788) hx hb dL_law_665 (by decide) (fun _ => ?_) (fun cq => absurd rfl cq)
  exact tail lo hi hd ow off go (inv) (how) _ _ hP hD hS ls hl

set_option maxHeartbeats 4000000 in
set_option maxRecDepth 100000 in
theorem law_c12 {p : Program} {e : Env} {s : State} {m : MethodId} {below : List Frame} {meth : Method} {c : Code} (l : Launch) {b L : Nat} {xs : Nat → Int32} (hL : L ≤ 4096) (C0 : lw_At p s m meth c b L xs) (D : va_G) (h a1 a2 g b0 b1 b2 : Nat) (c1 c2 d0 d1 d2 : ClassId) (hK : va_K D vwCl [(c1, .long), (c2, .long), (d0, .boolean), (d1, .long), (d2, .long)] s) (i : Nat) (hi8 : i + 8 ≤ L) (tail : ∀ (lo hi : Nat → Int64) (hd : Int32) (ow off go : Int64), ck_inv hd lo hi → 0 ≤ ow → ∀ (H : Heap) (locs : List Loc), va_P D vwCl [(h, .inr (0, [.ref a1, .ref a2, .int hd, .long ow, .long off, .long go])), (a1, .inl (c1, 24, .inr (.inl lo))), (a2, .inl (c2, 24, .inr (.inl hi))), (g, .inr (1, [.ref b0, .ref b1, .ref b2, .long ow, .long off, .long go])), (b0, .inl (d0, 24, .inl (ck_bz (bt hd)))), (b1, .inl (d1, 24, .inr (.inl lo))), (b2, .inl (d2, 24, .inr (.inl hi)))] H → va_D (fun q : Nat => s.heap.size ≤ q) [(h, .inr (0, [.ref a1, .ref a2, .int hd, .long ow, .long off, .long go])), (a1, .inl (c1, 24, .inr (.inl lo))), (a2, .inl (c2, 24, .inr (.inl hi))), (g, .inr (1, [.ref b0, .ref b1, .ref b2, .long ow, .long off, .long go])), (b0, .inl (d0, 24, .inl (ck_bz (bt hd)))), (b1, .inl (d1, 24, .inr (.inl lo))), (b2, .inl (d2, 24, .inr (.inl hi)))] → va_S (fun q : Nat => s.heap.size ≤ q) s.heap H locs → ∀ ls, lv_has ls 4 [(0, .ref b), (1, .ref h), (2, .ref g), (3, .int (nI i))] → W p l e room_1 s m #[Value.ref b] below meth c H locs 7 132 (lw_Z below #[Value.ref b] s) (F0 m 788 ls [])) : ∀ (lo hi : Nat → Int64) (hd : Int32) (ow off go : Int64), ck_inv hd lo hi → 0 ≤ ow → ∀ (H : Heap) (locs : List Loc), va_P D vwCl [(h, .inr (0, [.ref a1, .ref a2, .int hd, .long ow, .long off, .long go])), (a1, .inl (c1, 24, .inr (.inl lo))), (a2, .inl (c2, 24, .inr (.inl hi))), (g, .inr (1, [.ref b0, .ref b1, .ref b2, .long ow, .long off, .long go])), (b0, .inl (d0, 24, .inl (ck_bz (bt hd)))), (b1, .inl (d1, 24, .inr (.inl lo))), (b2, .inl (d2, 24, .inr (.inl hi)))] H → va_D (fun q : Nat => s.heap.size ≤ q) [(h, .inr (0, [.ref a1, .ref a2, .int hd, .long ow, .long off, .long go])), (a1, .inl (c1, 24, .inr (.inl lo))), (a2, .inl (c2, 24, .inr (.inl hi))), (g, .inr (1, [.ref b0, .ref b1, .ref b2, .long ow, .long off, .long go])), (b0, .inl (d0, 24, .inl (ck_bz (bt hd)))), (b1, .inl (d1, 24, .inr (.inl lo))), (b2, .inl (d2, 24, .inr (.inl hi)))] → va_S (fun q : Nat => s.heap.size ≤ q) s.heap H locs → ∀ ls, lv_has ls 4 [(0, .ref b), (1, .ref h), (2, .ref g), (3, .int (nI i))] → W p l e room_1 s m #[Value.ref b] below meth c H locs 7 132 (lw_Z below #[Value.ref b] s) (F0 m 670 ls []) := by
  obtain ⟨hx, hb, hr, hml, hown0, hts, hX, hbl, hlocks, hgv⟩ := id C0
  have hown : s.vm.findClass RL = some m.cls := hown0
  have htl : ∀ w ∈ wsL_law, w.before #[Value.ref b] s = true := fun w hw => hts w (wsL_law_in w hw)
  have hA : ∀ q : Nat, s.heap.size ≤ q → (fun q : Nat => s.heap.size ≤ q) q := fun _ h => h
  have hbA : ¬ (fun q : Nat => s.heap.size ≤ q) b := Nat.not_le.mpr hbl
  intro lo hi hd ow off go inv how H locs hP hD hS ls hl
  refine lv_aload_n hx hb dL_law_670 rfl (lv_at hl 1 rfl) ?_
  refine lv_aload_n hx hb dL_law_671 rfl (lv_at hl 0 rfl) ?_
  refine lv_iload_n hx hb dL_law_672 rfl (lv_at hl 3 rfl) ?_
  refine lv_iconst (v := 1) hx hb dL_law_673 (by decide) ?_
  refine lv_iadd hx hb dL_law_674 ?_
  refine ck_sld hx hb hX hbl hbA hS hL (k := i + 1) (nI_add i 1) (by omega) dL_law_675 ?_
  refine lv_i2l (v := (Int32.toInt64 (xs (i + 1)))) hx hb dL_law_676 rfl ?_
  refine lv_bipush (v := 32) hx hb dL_law_677 (by decide) ?_
  refine lv_lshl (v := ((Int32.toInt64 (xs (i + 1))) <<< (Int32.toInt64 32 &&& 63))) hx hb dL_law_679 rfl ?_
  refine lv_aload_n hx hb dL_law_680 rfl (lv_at hl 0 rfl) ?_
  refine lv_iload_n hx hb dL_law_681 rfl (lv_at hl 3 rfl) ?_
  refine lv_iconst (v := 2) hx hb dL_law_682 (by decide) ?_
  refine lv_iadd hx hb dL_law_683 ?_
  refine ck_sld hx hb hX hbl hbA hS hL (k := i + 2) (nI_add i 2) (by omega) dL_law_684 ?_
  refine lv_i2l (v := (Int32.toInt64 (xs (i + 2)))) hx hb dL_law_685 rfl ?_
  refine lv_ldc2 (v := 4294967295) hx hb hown (htl (.constantLong RL 13 4294967295) (by decide +kernel)) dL_law_686 ?_
  refine lv_land hx hb dL_law_689 ?_
  refine lv_lor hx hb dL_law_690 ?_
  have hPx := hP.sub (ws' := [(h, .inr (0, [.ref a1, .ref a2, .int hd, .long ow, .long off, .long go])), (a1, .inl (c1, 24, .inr (.inl lo))), (a2, .inl (c2, 24, .inr (.inl hi)))]) [0, 1, 2] rfl
  have hKx := hK.sub (tys' := xT c1 c2) [0, 1] rfl
  have hDc := hD.sub (ws' := [(h, .inr (0, [.ref a1, .ref a2, .int hd, .long ow, .long off, .long go])), (a1, .inl (c1, 24, .inr (.inl lo))), (a2, .inl (c2, 24, .inr (.inl hi)))]) [0, 1, 2] (by decide) rfl
  refine ck_wV (As := [.long (ck_L (xs (i + 1)) (xs (i + 2)))]) (rest := []) (w := [(h, .inr (0, [.ref a1, .ref a2, .int hd, .long ow, .long off, .long go])), (a1, .inl (c1, 24, .inr (.inl lo))), (a2, .inl (c2, 24, .inr (.inl hi))), (g, .inr (1, [.ref b0, .ref b1, .ref b2, .long ow, .long off, .long go])), (b0, .inl (d0, 24, .inl (ck_bz (bt hd)))), (b1, .inl (d1, 24, .inr (.inl lo))), (b2, .inl (d2, 24, .inr (.inl hi)))]) (wc := [(h, .inr (0, [.ref a1, .ref a2, .int hd, .long ow, .long off, .long go])), (a1, .inl (c1, 24, .inr (.inl lo))), (a2, .inl (c2, 24, .inr (.inl hi)))]) (wr := [(g, .inr (1, [.ref b0, .ref b1, .ref b2, .long ow, .long off, .long go])), (b0, .inl (d0, 24, .inl (ck_bz (bt hd)))), (b1, .inl (d1, 24, .inr (.inl lo))), (b2, .inl (d2, 24, .inr (.inl hi)))]) (w1 := [(h, .inr (0, [.ref a1, .ref a2, .int hd, .long (ck_tW ow (ck_L (xs (i + 1)) (xs (i + 2)))), .long (ck_tO ow off go (ck_L (xs (i + 1)) (xs (i + 2)))), .long go])), (a1, .inl (c1, 24, .inr (.inl lo))), (a2, .inl (c2, 24, .inr (.inl hi)))]) (v := some (.int (ck_b (ck_tk ow (ck_L (xs (i + 1)) (xs (i + 2))))))) ⟨hx, hb, hml, hown, htl⟩ (c_X0_tick l D h a1 a2 c1 c2 lo hi hd ow off go _ (ck_L (xs (i + 1)) (xs (i + 2)))) (cwV 1 htl gL_law_X0_tick rfl rfl rfl (by decide +kernel) ⟨Nat.le_of_ble_eq_true rfl, Nat.le_of_ble_eq_true rfl⟩) hP hD hS hA hKx [0, 1, 2] [3, 4, 5, 6] rfl hPx hDc rfl (by decide) (by decide) (va_recv hKx hPx (ci := 0) (q0 := 0) rfl rfl) rfl hl.1 rfl (Nat.le_of_ble_eq_true rfl) dL_law_691 ⟨Nat.le_of_ble_eq_true rfl, Nat.le_of_ble_eq_true rfl⟩ (fun H locs hP hD hS => ?_)
  have hP : va_P D vwCl [(g, .inr (1, [.ref b0, .ref b1, .ref b2, .long ow, .long off, .long go])), (b0, .inl (d0, 24, .inl (ck_bz (bt hd)))), (b1, .inl (d1, 24, .inr (.inl lo))), (b2, .inl (d2, 24, .inr (.inl hi))), (h, .inr (0, [.ref a1, .ref a2, .int hd, .long (ck_tW ow (ck_L (xs (i + 1)) (xs (i + 2)))), .long (ck_tO ow off go (ck_L (xs (i + 1)) (xs (i + 2)))), .long go])), (a1, .inl (c1, 24, .inr (.inl lo))), (a2, .inl (c2, 24, .inr (.inl hi)))] H := hP
  have hD : va_D (fun q : Nat => s.heap.size ≤ q) [(g, .inr (1, [.ref b0, .ref b1, .ref b2, .long ow, .long off, .long go])), (b0, .inl (d0, 24, .inl (ck_bz (bt hd)))), (b1, .inl (d1, 24, .inr (.inl lo))), (b2, .inl (d2, 24, .inr (.inl hi))), (h, .inr (0, [.ref a1, .ref a2, .int hd, .long (ck_tW ow (ck_L (xs (i + 1)) (xs (i + 2)))), .long (ck_tO ow off go (ck_L (xs (i + 1)) (xs (i + 2)))), .long go])), (a1, .inl (c1, 24, .inr (.inl lo))), (a2, .inl (c2, 24, .inr (.inl hi)))] := hD
  refine lv_aload_n hx hb dL_law_694 rfl (lv_at hl 2 rfl) ?_
  refine lv_aload_n hx hb dL_law_695 rfl (lv_at hl 0 rfl) ?_
  refine lv_iload_n hx hb dL_law_696 rfl (lv_at hl 3 rfl) ?_
  refine lv_iconst (v := 1) hx hb dL_law_697 (by decide) ?_
  refine lv_iadd hx hb dL_law_698 ?_
  refine ck_sld hx hb hX hbl hbA hS hL (k := i + 1) (nI_add i 1) (by omega) dL_law_699 ?_
  refine lv_i2l (v := (Int32.toInt64 (xs (i + 1)))) hx hb dL_law_700 rfl ?_
  refine lv_bipush (v := 32) hx hb dL_law_701 (by decide) ?_
  refine lv_lshl (v := ((Int32.toInt64 (xs (i + 1))) <<< (Int32.toInt64 32 &&& 63))) hx hb dL_law_703 rfl ?_
  refine lv_aload_n hx hb dL_law_704 rfl (lv_at hl 0 rfl) ?_
  refine lv_iload_n hx hb dL_law_705 rfl (lv_at hl 3 rfl) ?_
  refine lv_iconst (v := 2) hx hb dL_law_706 (by decide) ?_
  refine lv_iadd hx hb dL_law_707 ?_
  refine ck_sld hx hb hX hbl hbA hS hL (k := i + 2) (nI_add i 2) (by omega) dL_law_708 ?_
  refine lv_i2l (v := (Int32.toInt64 (xs (i + 2)))) hx hb dL_law_709 rfl ?_
  refine lv_ldc2 (v := 4294967295) hx hb hown (htl (.constantLong RL 13 4294967295) (by decide +kernel)) dL_law_710 ?_
  refine lv_land hx hb dL_law_713 ?_
  refine lv_lor hx hb dL_law_714 ?_
  have hPm := hP.sub (ws' := [(g, .inr (1, [.ref b0, .ref b1, .ref b2, .long ow, .long off, .long go])), (b0, .inl (d0, 24, .inl (ck_bz (bt hd)))), (b1, .inl (d1, 24, .inr (.inl lo))), (b2, .inl (d2, 24, .inr (.inl hi)))]) [0, 1, 2, 3] rfl
  have hKm := hK.sub (tys' := mT d0 d1 d2) [2, 3, 4] rfl
  have hDc := hD.sub (ws' := [(g, .inr (1, [.ref b0, .ref b1, .ref b2, .long ow, .long off, .long go])), (b0, .inl (d0, 24, .inl (ck_bz (bt hd)))), (b1, .inl (d1, 24, .inr (.inl lo))), (b2, .inl (d2, 24, .inr (.inl hi)))]) [0, 1, 2, 3] (by decide) rfl
  refine ck_wV (As := [.long (ck_L (xs (i + 1)) (xs (i + 2)))]) (rest := [.int (ck_b (ck_tk ow (ck_L (xs (i + 1)) (xs (i + 2)))))]) (w := [(g, .inr (1, [.ref b0, .ref b1, .ref b2, .long ow, .long off, .long go])), (b0, .inl (d0, 24, .inl (ck_bz (bt hd)))), (b1, .inl (d1, 24, .inr (.inl lo))), (b2, .inl (d2, 24, .inr (.inl hi))), (h, .inr (0, [.ref a1, .ref a2, .int hd, .long (ck_tW ow (ck_L (xs (i + 1)) (xs (i + 2)))), .long (ck_tO ow off go (ck_L (xs (i + 1)) (xs (i + 2)))), .long go])), (a1, .inl (c1, 24, .inr (.inl lo))), (a2, .inl (c2, 24, .inr (.inl hi)))]) (wc := [(g, .inr (1, [.ref b0, .ref b1, .ref b2, .long ow, .long off, .long go])), (b0, .inl (d0, 24, .inl (ck_bz (bt hd)))), (b1, .inl (d1, 24, .inr (.inl lo))), (b2, .inl (d2, 24, .inr (.inl hi)))]) (wr := [(h, .inr (0, [.ref a1, .ref a2, .int hd, .long (ck_tW ow (ck_L (xs (i + 1)) (xs (i + 2)))), .long (ck_tO ow off go (ck_L (xs (i + 1)) (xs (i + 2)))), .long go])), (a1, .inl (c1, 24, .inr (.inl lo))), (a2, .inl (c2, 24, .inr (.inl hi)))]) (w1 := [(g, .inr (1, [.ref b0, .ref b1, .ref b2, .long (ck_tW ow (ck_L (xs (i + 1)) (xs (i + 2)))), .long (ck_tO ow off go (ck_L (xs (i + 1)) (xs (i + 2)))), .long go])), (b0, .inl (d0, 24, .inl (ck_bz (bt hd)))), (b1, .inl (d1, 24, .inr (.inl lo))), (b2, .inl (d2, 24, .inr (.inl hi)))]) (v := some (.int (ck_b (ck_tk ow (ck_L (xs (i + 1)) (xs (i + 2))))))) ⟨hx, hb, hml, hown, htl⟩ (c_X1_tick l D g b0 b1 b2 d0 d1 d2 lo hi hd ow off go inv _ (ck_L (xs (i + 1)) (xs (i + 2))) how) (cwV 1 htl gL_law_X1_tick rfl rfl rfl (by decide +kernel) ⟨Nat.le_of_ble_eq_true rfl, Nat.le_of_ble_eq_true rfl⟩) hP hD hS hA hKm [0, 1, 2, 3] [4, 5, 6] rfl hPm hDc rfl (by decide) (by decide) (va_recv hKm hPm (ci := 1) (q0 := 0) rfl rfl) rfl hl.1 rfl (Nat.le_of_ble_eq_true rfl) dL_law_715 ⟨Nat.le_of_ble_eq_true rfl, Nat.le_of_ble_eq_true rfl⟩ (fun H locs hP hD hS => ?_)
  have hP : va_P D vwCl [(h, .inr (0, [.ref a1, .ref a2, .int hd, .long (ck_tW ow (ck_L (xs (i + 1)) (xs (i + 2)))), .long (ck_tO ow off go (ck_L (xs (i + 1)) (xs (i + 2)))), .long go])), (a1, .inl (c1, 24, .inr (.inl lo))), (a2, .inl (c2, 24, .inr (.inl hi))), (g, .inr (1, [.ref b0, .ref b1, .ref b2, .long (ck_tW ow (ck_L (xs (i + 1)) (xs (i + 2)))), .long (ck_tO ow off go (ck_L (xs (i + 1)) (xs (i + 2)))), .long go])), (b0, .inl (d0, 24, .inl (ck_bz (bt hd)))), (b1, .inl (d1, 24, .inr (.inl lo))), (b2, .inl (d2, 24, .inr (.inl hi)))] H := hP
  have hD : va_D (fun q : Nat => s.heap.size ≤ q) [(h, .inr (0, [.ref a1, .ref a2, .int hd, .long (ck_tW ow (ck_L (xs (i + 1)) (xs (i + 2)))), .long (ck_tO ow off go (ck_L (xs (i + 1)) (xs (i + 2)))), .long go])), (a1, .inl (c1, 24, .inr (.inl lo))), (a2, .inl (c2, 24, .inr (.inl hi))), (g, .inr (1, [.ref b0, .ref b1, .ref b2, .long (ck_tW ow (ck_L (xs (i + 1)) (xs (i + 2)))), .long (ck_tO ow off go (ck_L (xs (i + 1)) (xs (i + 2)))), .long go])), (b0, .inl (d0, 24, .inl (ck_bz (bt hd)))), (b1, .inl (d1, 24, .inr (.inl lo))), (b2, .inl (d2, 24, .inr (.inl hi)))] := hD
  refine lv_icmp_eq (tgt := 788) hx hb dL_law_718 (by decide) (fun _ => ?_) (fun cq => absurd rfl cq)
  exact tail lo hi hd (ck_tW ow (ck_L (xs (i + 1)) (xs (i + 2)))) (ck_tO ow off go (ck_L (xs (i + 1)) (xs (i + 2)))) go (inv) (ck_inv_tk how (ck_L (xs (i + 1)) (xs (i + 2)))) _ _ hP hD hS ls hl

set_option maxHeartbeats 4000000 in
set_option maxRecDepth 100000 in
theorem law_c13 {p : Program} {e : Env} {s : State} {m : MethodId} {below : List Frame} {meth : Method} {c : Code} (l : Launch) {b L : Nat} {xs : Nat → Int32} (hL : L ≤ 4096) (C0 : lw_At p s m meth c b L xs) (D : va_G) (h a1 a2 g b0 b1 b2 : Nat) (c1 c2 d0 d1 d2 : ClassId) (hK : va_K D vwCl [(c1, .long), (c2, .long), (d0, .boolean), (d1, .long), (d2, .long)] s) (i : Nat) (hi8 : i + 8 ≤ L) (tail : ∀ (lo hi : Nat → Int64) (hd : Int32) (ow off go : Int64), ck_inv hd lo hi → 0 ≤ ow → ∀ (H : Heap) (locs : List Loc), va_P D vwCl [(h, .inr (0, [.ref a1, .ref a2, .int hd, .long ow, .long off, .long go])), (a1, .inl (c1, 24, .inr (.inl lo))), (a2, .inl (c2, 24, .inr (.inl hi))), (g, .inr (1, [.ref b0, .ref b1, .ref b2, .long ow, .long off, .long go])), (b0, .inl (d0, 24, .inl (ck_bz (bt hd)))), (b1, .inl (d1, 24, .inr (.inl lo))), (b2, .inl (d2, 24, .inr (.inl hi)))] H → va_D (fun q : Nat => s.heap.size ≤ q) [(h, .inr (0, [.ref a1, .ref a2, .int hd, .long ow, .long off, .long go])), (a1, .inl (c1, 24, .inr (.inl lo))), (a2, .inl (c2, 24, .inr (.inl hi))), (g, .inr (1, [.ref b0, .ref b1, .ref b2, .long ow, .long off, .long go])), (b0, .inl (d0, 24, .inl (ck_bz (bt hd)))), (b1, .inl (d1, 24, .inr (.inl lo))), (b2, .inl (d2, 24, .inr (.inl hi)))] → va_S (fun q : Nat => s.heap.size ≤ q) s.heap H locs → ∀ ls, lv_has ls 4 [(0, .ref b), (1, .ref h), (2, .ref g), (3, .int (nI i))] → W p l e room_1 s m #[Value.ref b] below meth c H locs 7 132 (lw_Z below #[Value.ref b] s) (F0 m 788 ls [])) : ∀ (lo hi : Nat → Int64) (hd : Int32) (ow off go : Int64), ck_inv hd lo hi → 0 ≤ ow → ∀ (H : Heap) (locs : List Loc), va_P D vwCl [(h, .inr (0, [.ref a1, .ref a2, .int hd, .long ow, .long off, .long go])), (a1, .inl (c1, 24, .inr (.inl lo))), (a2, .inl (c2, 24, .inr (.inl hi))), (g, .inr (1, [.ref b0, .ref b1, .ref b2, .long ow, .long off, .long go])), (b0, .inl (d0, 24, .inl (ck_bz (bt hd)))), (b1, .inl (d1, 24, .inr (.inl lo))), (b2, .inl (d2, 24, .inr (.inl hi)))] H → va_D (fun q : Nat => s.heap.size ≤ q) [(h, .inr (0, [.ref a1, .ref a2, .int hd, .long ow, .long off, .long go])), (a1, .inl (c1, 24, .inr (.inl lo))), (a2, .inl (c2, 24, .inr (.inl hi))), (g, .inr (1, [.ref b0, .ref b1, .ref b2, .long ow, .long off, .long go])), (b0, .inl (d0, 24, .inl (ck_bz (bt hd)))), (b1, .inl (d1, 24, .inr (.inl lo))), (b2, .inl (d2, 24, .inr (.inl hi)))] → va_S (fun q : Nat => s.heap.size ≤ q) s.heap H locs → ∀ ls, lv_has ls 4 [(0, .ref b), (1, .ref h), (2, .ref g), (3, .int (nI i))] → W p l e room_1 s m #[Value.ref b] below meth c H locs 7 132 (lw_Z below #[Value.ref b] s) (F0 m 723 ls []) := by
  obtain ⟨hx, hb, hr, hml, hown0, hts, hX, hbl, hlocks, hgv⟩ := id C0
  have hown : s.vm.findClass RL = some m.cls := hown0
  have htl : ∀ w ∈ wsL_law, w.before #[Value.ref b] s = true := fun w hw => hts w (wsL_law_in w hw)
  have hA : ∀ q : Nat, s.heap.size ≤ q → (fun q : Nat => s.heap.size ≤ q) q := fun _ h => h
  have hbA : ¬ (fun q : Nat => s.heap.size ≤ q) b := Nat.not_le.mpr hbl
  intro lo hi hd ow off go inv how H locs hP hD hS ls hl
  refine lv_aload_n hx hb dL_law_723 rfl (lv_at hl 1 rfl) ?_
  have hPx := hP.sub (ws' := [(h, .inr (0, [.ref a1, .ref a2, .int hd, .long ow, .long off, .long go])), (a1, .inl (c1, 24, .inr (.inl lo))), (a2, .inl (c2, 24, .inr (.inl hi)))]) [0, 1, 2] rfl
  have hKx := hK.sub (tys' := xT c1 c2) [0, 1] rfl
  have hDc := hD.sub (ws' := [(h, .inr (0, [.ref a1, .ref a2, .int hd, .long ow, .long off, .long go])), (a1, .inl (c1, 24, .inr (.inl lo))), (a2, .inl (c2, 24, .inr (.inl hi)))]) [0, 1, 2] (by decide) rfl
  refine ck_wV (As := []) (rest := []) (w := [(h, .inr (0, [.ref a1, .ref a2, .int hd, .long ow, .long off, .long go])), (a1, .inl (c1, 24, .inr (.inl lo))), (a2, .inl (c2, 24, .inr (.inl hi))), (g, .inr (1, [.ref b0, .ref b1, .ref b2, .long ow, .long off, .long go])), (b0, .inl (d0, 24, .inl (ck_bz (bt hd)))), (b1, .inl (d1, 24, .inr (.inl lo))), (b2, .inl (d2, 24, .inr (.inl hi)))]) (wc := [(h, .inr (0, [.ref a1, .ref a2, .int hd, .long ow, .long off, .long go])), (a1, .inl (c1, 24, .inr (.inl lo))), (a2, .inl (c2, 24, .inr (.inl hi)))]) (wr := [(g, .inr (1, [.ref b0, .ref b1, .ref b2, .long ow, .long off, .long go])), (b0, .inl (d0, 24, .inl (ck_bz (bt hd)))), (b1, .inl (d1, 24, .inr (.inl lo))), (b2, .inl (d2, 24, .inr (.inl hi)))]) (w1 := [(h, .inr (0, [.ref a1, .ref a2, .int hd, .long ow, .long off, .long (ck_sG hd lo hi go)])), (a1, .inl (c1, 24, .inr (.inl lo))), (a2, .inl (c2, 24, .inr (.inl hi)))]) (v := some (.int (ck_b (ck_sk hd lo hi)))) ⟨hx, hb, hml, hown, htl⟩ (c_X0_steer l D h a1 a2 c1 c2 lo hi hd ow off go _ ) (cwV 0 htl gL_law_X0_steer rfl rfl rfl (by decide +kernel) ⟨Nat.le_of_ble_eq_true rfl, Nat.le_of_ble_eq_true rfl⟩) hP hD hS hA hKx [0, 1, 2] [3, 4, 5, 6] rfl hPx hDc rfl (by decide) (by decide) (va_recv hKx hPx (ci := 0) (q0 := 0) rfl rfl) rfl hl.1 rfl (Nat.le_of_ble_eq_true rfl) dL_law_724 ⟨Nat.le_of_ble_eq_true rfl, Nat.le_of_ble_eq_true rfl⟩ (fun H locs hP hD hS => ?_)
  have hP : va_P D vwCl [(g, .inr (1, [.ref b0, .ref b1, .ref b2, .long ow, .long off, .long go])), (b0, .inl (d0, 24, .inl (ck_bz (bt hd)))), (b1, .inl (d1, 24, .inr (.inl lo))), (b2, .inl (d2, 24, .inr (.inl hi))), (h, .inr (0, [.ref a1, .ref a2, .int hd, .long ow, .long off, .long (ck_sG hd lo hi go)])), (a1, .inl (c1, 24, .inr (.inl lo))), (a2, .inl (c2, 24, .inr (.inl hi)))] H := hP
  have hD : va_D (fun q : Nat => s.heap.size ≤ q) [(g, .inr (1, [.ref b0, .ref b1, .ref b2, .long ow, .long off, .long go])), (b0, .inl (d0, 24, .inl (ck_bz (bt hd)))), (b1, .inl (d1, 24, .inr (.inl lo))), (b2, .inl (d2, 24, .inr (.inl hi))), (h, .inr (0, [.ref a1, .ref a2, .int hd, .long ow, .long off, .long (ck_sG hd lo hi go)])), (a1, .inl (c1, 24, .inr (.inl lo))), (a2, .inl (c2, 24, .inr (.inl hi)))] := hD
  refine lv_aload_n hx hb dL_law_727 rfl (lv_at hl 2 rfl) ?_
  have hPm := hP.sub (ws' := [(g, .inr (1, [.ref b0, .ref b1, .ref b2, .long ow, .long off, .long go])), (b0, .inl (d0, 24, .inl (ck_bz (bt hd)))), (b1, .inl (d1, 24, .inr (.inl lo))), (b2, .inl (d2, 24, .inr (.inl hi)))]) [0, 1, 2, 3] rfl
  have hKm := hK.sub (tys' := mT d0 d1 d2) [2, 3, 4] rfl
  have hDc := hD.sub (ws' := [(g, .inr (1, [.ref b0, .ref b1, .ref b2, .long ow, .long off, .long go])), (b0, .inl (d0, 24, .inl (ck_bz (bt hd)))), (b1, .inl (d1, 24, .inr (.inl lo))), (b2, .inl (d2, 24, .inr (.inl hi)))]) [0, 1, 2, 3] (by decide) rfl
  refine ck_wV (As := []) (rest := [.int (ck_b (ck_sk hd lo hi))]) (w := [(g, .inr (1, [.ref b0, .ref b1, .ref b2, .long ow, .long off, .long go])), (b0, .inl (d0, 24, .inl (ck_bz (bt hd)))), (b1, .inl (d1, 24, .inr (.inl lo))), (b2, .inl (d2, 24, .inr (.inl hi))), (h, .inr (0, [.ref a1, .ref a2, .int hd, .long ow, .long off, .long (ck_sG hd lo hi go)])), (a1, .inl (c1, 24, .inr (.inl lo))), (a2, .inl (c2, 24, .inr (.inl hi)))]) (wc := [(g, .inr (1, [.ref b0, .ref b1, .ref b2, .long ow, .long off, .long go])), (b0, .inl (d0, 24, .inl (ck_bz (bt hd)))), (b1, .inl (d1, 24, .inr (.inl lo))), (b2, .inl (d2, 24, .inr (.inl hi)))]) (wr := [(h, .inr (0, [.ref a1, .ref a2, .int hd, .long ow, .long off, .long (ck_sG hd lo hi go)])), (a1, .inl (c1, 24, .inr (.inl lo))), (a2, .inl (c2, 24, .inr (.inl hi)))]) (w1 := [(g, .inr (1, [.ref b0, .ref b1, .ref b2, .long ow, .long off, .long (ck_sG hd lo hi go)])), (b0, .inl (d0, 24, .inl (ck_bz (bt hd)))), (b1, .inl (d1, 24, .inr (.inl lo))), (b2, .inl (d2, 24, .inr (.inl hi)))]) (v := some (.int (ck_b (ck_sk hd lo hi)))) ⟨hx, hb, hml, hown, htl⟩ (c_X1_steer l D g b0 b1 b2 d0 d1 d2 lo hi hd ow off go inv _ ) (cwV 0 htl gL_law_X1_steer rfl rfl rfl (by decide +kernel) ⟨Nat.le_of_ble_eq_true rfl, Nat.le_of_ble_eq_true rfl⟩) hP hD hS hA hKm [0, 1, 2, 3] [4, 5, 6] rfl hPm hDc rfl (by decide) (by decide) (va_recv hKm hPm (ci := 1) (q0 := 0) rfl rfl) rfl hl.1 rfl (Nat.le_of_ble_eq_true rfl) dL_law_728 ⟨Nat.le_of_ble_eq_true rfl, Nat.le_of_ble_eq_true rfl⟩ (fun H locs hP hD hS => ?_)
  have hP : va_P D vwCl [(h, .inr (0, [.ref a1, .ref a2, .int hd, .long ow, .long off, .long (ck_sG hd lo hi go)])), (a1, .inl (c1, 24, .inr (.inl lo))), (a2, .inl (c2, 24, .inr (.inl hi))), (g, .inr (1, [.ref b0, .ref b1, .ref b2, .long ow, .long off, .long (ck_sG hd lo hi go)])), (b0, .inl (d0, 24, .inl (ck_bz (bt hd)))), (b1, .inl (d1, 24, .inr (.inl lo))), (b2, .inl (d2, 24, .inr (.inl hi)))] H := hP
  have hD : va_D (fun q : Nat => s.heap.size ≤ q) [(h, .inr (0, [.ref a1, .ref a2, .int hd, .long ow, .long off, .long (ck_sG hd lo hi go)])), (a1, .inl (c1, 24, .inr (.inl lo))), (a2, .inl (c2, 24, .inr (.inl hi))), (g, .inr (1, [.ref b0, .ref b1, .ref b2, .long ow, .long off, .long (ck_sG hd lo hi go)])), (b0, .inl (d0, 24, .inl (ck_bz (bt hd)))), (b1, .inl (d1, 24, .inr (.inl lo))), (b2, .inl (d2, 24, .inr (.inl hi)))] := hD
  refine lv_icmp_eq (tgt := 788) hx hb dL_law_731 (by decide) (fun _ => ?_) (fun cq => absurd rfl cq)
  exact tail lo hi hd ow off (ck_sG hd lo hi go) (inv) (how) _ _ hP hD hS ls hl

set_option maxHeartbeats 4000000 in
set_option maxRecDepth 100000 in
theorem law_c14 {p : Program} {e : Env} {s : State} {m : MethodId} {below : List Frame} {meth : Method} {c : Code} (l : Launch) {b L : Nat} {xs : Nat → Int32} (hL : L ≤ 4096) (C0 : lw_At p s m meth c b L xs) (D : va_G) (h a1 a2 g b0 b1 b2 : Nat) (c1 c2 d0 d1 d2 : ClassId) (hK : va_K D vwCl [(c1, .long), (c2, .long), (d0, .boolean), (d1, .long), (d2, .long)] s) (i : Nat) (hi8 : i + 8 ≤ L) (tail : ∀ (lo hi : Nat → Int64) (hd : Int32) (ow off go : Int64), ck_inv hd lo hi → 0 ≤ ow → ∀ (H : Heap) (locs : List Loc), va_P D vwCl [(h, .inr (0, [.ref a1, .ref a2, .int hd, .long ow, .long off, .long go])), (a1, .inl (c1, 24, .inr (.inl lo))), (a2, .inl (c2, 24, .inr (.inl hi))), (g, .inr (1, [.ref b0, .ref b1, .ref b2, .long ow, .long off, .long go])), (b0, .inl (d0, 24, .inl (ck_bz (bt hd)))), (b1, .inl (d1, 24, .inr (.inl lo))), (b2, .inl (d2, 24, .inr (.inl hi)))] H → va_D (fun q : Nat => s.heap.size ≤ q) [(h, .inr (0, [.ref a1, .ref a2, .int hd, .long ow, .long off, .long go])), (a1, .inl (c1, 24, .inr (.inl lo))), (a2, .inl (c2, 24, .inr (.inl hi))), (g, .inr (1, [.ref b0, .ref b1, .ref b2, .long ow, .long off, .long go])), (b0, .inl (d0, 24, .inl (ck_bz (bt hd)))), (b1, .inl (d1, 24, .inr (.inl lo))), (b2, .inl (d2, 24, .inr (.inl hi)))] → va_S (fun q : Nat => s.heap.size ≤ q) s.heap H locs → ∀ ls, lv_has ls 4 [(0, .ref b), (1, .ref h), (2, .ref g), (3, .int (nI i))] → W p l e room_1 s m #[Value.ref b] below meth c H locs 7 132 (lw_Z below #[Value.ref b] s) (F0 m 788 ls [])) : ∀ (lo hi : Nat → Int64) (hd : Int32) (ow off go : Int64), ck_inv hd lo hi → 0 ≤ ow → ∀ (H : Heap) (locs : List Loc), va_P D vwCl [(h, .inr (0, [.ref a1, .ref a2, .int hd, .long ow, .long off, .long go])), (a1, .inl (c1, 24, .inr (.inl lo))), (a2, .inl (c2, 24, .inr (.inl hi))), (g, .inr (1, [.ref b0, .ref b1, .ref b2, .long ow, .long off, .long go])), (b0, .inl (d0, 24, .inl (ck_bz (bt hd)))), (b1, .inl (d1, 24, .inr (.inl lo))), (b2, .inl (d2, 24, .inr (.inl hi)))] H → va_D (fun q : Nat => s.heap.size ≤ q) [(h, .inr (0, [.ref a1, .ref a2, .int hd, .long ow, .long off, .long go])), (a1, .inl (c1, 24, .inr (.inl lo))), (a2, .inl (c2, 24, .inr (.inl hi))), (g, .inr (1, [.ref b0, .ref b1, .ref b2, .long ow, .long off, .long go])), (b0, .inl (d0, 24, .inl (ck_bz (bt hd)))), (b1, .inl (d1, 24, .inr (.inl lo))), (b2, .inl (d2, 24, .inr (.inl hi)))] → va_S (fun q : Nat => s.heap.size ≤ q) s.heap H locs → ∀ ls, lv_has ls 4 [(0, .ref b), (1, .ref h), (2, .ref g), (3, .int (nI i))] → W p l e room_1 s m #[Value.ref b] below meth c H locs 7 132 (lw_Z below #[Value.ref b] s) (F0 m 736 ls []) := by
  obtain ⟨hx, hb, hr, hml, hown0, hts, hX, hbl, hlocks, hgv⟩ := id C0
  have hown : s.vm.findClass RL = some m.cls := hown0
  have htl : ∀ w ∈ wsL_law, w.before #[Value.ref b] s = true := fun w hw => hts w (wsL_law_in w hw)
  have hA : ∀ q : Nat, s.heap.size ≤ q → (fun q : Nat => s.heap.size ≤ q) q := fun _ h => h
  have hbA : ¬ (fun q : Nat => s.heap.size ≤ q) b := Nat.not_le.mpr hbl
  intro lo hi hd ow off go inv how H locs hP hD hS ls hl
  refine lv_aload_n hx hb dL_law_736 rfl (lv_at hl 1 rfl) ?_
  have hPx := hP.sub (ws' := [(h, .inr (0, [.ref a1, .ref a2, .int hd, .long ow, .long off, .long go])), (a1, .inl (c1, 24, .inr (.inl lo))), (a2, .inl (c2, 24, .inr (.inl hi)))]) [0, 1, 2] rfl
  have hKx := hK.sub (tys' := xT c1 c2) [0, 1] rfl
  refine ck_cV (As := []) (rest := []) ⟨hx, hb, hml, hown, htl⟩ (c_X0_read l D h a1 a2 c1 c2 lo hi hd ow off go ) (cwV 0 htl gL_law_X0_read rfl rfl rfl (by decide +kernel) ⟨Nat.le_of_ble_eq_true rfl, Nat.le_of_ble_eq_true rfl⟩) hPx hKx (va_recv hKx hPx (ci := 0) (q0 := 0) rfl rfl) rfl hl.1 rfl (Nat.le_of_ble_eq_true rfl) dL_law_737 ⟨Nat.le_of_ble_eq_true rfl, Nat.le_of_ble_eq_true rfl⟩ ?_
  refine lv_aload_n hx hb dL_law_740 rfl (lv_at hl 2 rfl) ?_
  have hPm := hP.sub (ws' := [(g, .inr (1, [.ref b0, .ref b1, .ref b2, .long ow, .long off, .long go])), (b0, .inl (d0, 24, .inl (ck_bz (bt hd)))), (b1, .inl (d1, 24, .inr (.inl lo))), (b2, .inl (d2, 24, .inr (.inl hi)))]) [3, 4, 5, 6] rfl
  have hKm := hK.sub (tys' := mT d0 d1 d2) [2, 3, 4] rfl
  refine ck_cV (As := []) (rest := [.long (ow + off)]) ⟨hx, hb, hml, hown, htl⟩ (c_X1_read l D g b0 b1 b2 d0 d1 d2 lo hi hd ow off go inv ) (cwV 0 htl gL_law_X1_read rfl rfl rfl (by decide +kernel) ⟨Nat.le_of_ble_eq_true rfl, Nat.le_of_ble_eq_true rfl⟩) hPm hKm (va_recv hKm hPm (ci := 1) (q0 := 0) rfl rfl) rfl hl.1 rfl (Nat.le_of_ble_eq_true rfl) dL_law_741 ⟨Nat.le_of_ble_eq_true rfl, Nat.le_of_ble_eq_true rfl⟩ ?_
  refine W.lcmp hx hb dL_law_744 ?_
  refine lv_if_eq (tgt := 788) hx hb dL_law_745 (by decide) (fun _ => ?_) (fun cq => absurd ((lg_cmp_eq _ _).mpr rfl) cq)
  exact tail lo hi hd ow off go (inv) (how) _ _ hP hD hS ls hl

set_option maxHeartbeats 4000000 in
set_option maxRecDepth 100000 in
theorem law_c15 {p : Program} {e : Env} {s : State} {m : MethodId} {below : List Frame} {meth : Method} {c : Code} (l : Launch) {b L : Nat} {xs : Nat → Int32} (hL : L ≤ 4096) (C0 : lw_At p s m meth c b L xs) (D : va_G) (h a1 a2 g b0 b1 b2 : Nat) (c1 c2 d0 d1 d2 : ClassId) (hK : va_K D vwCl [(c1, .long), (c2, .long), (d0, .boolean), (d1, .long), (d2, .long)] s) (i : Nat) (hi8 : i + 8 ≤ L) (tail : ∀ (lo hi : Nat → Int64) (hd : Int32) (ow off go : Int64), ck_inv hd lo hi → 0 ≤ ow → ∀ (H : Heap) (locs : List Loc), va_P D vwCl [(h, .inr (0, [.ref a1, .ref a2, .int hd, .long ow, .long off, .long go])), (a1, .inl (c1, 24, .inr (.inl lo))), (a2, .inl (c2, 24, .inr (.inl hi))), (g, .inr (1, [.ref b0, .ref b1, .ref b2, .long ow, .long off, .long go])), (b0, .inl (d0, 24, .inl (ck_bz (bt hd)))), (b1, .inl (d1, 24, .inr (.inl lo))), (b2, .inl (d2, 24, .inr (.inl hi)))] H → va_D (fun q : Nat => s.heap.size ≤ q) [(h, .inr (0, [.ref a1, .ref a2, .int hd, .long ow, .long off, .long go])), (a1, .inl (c1, 24, .inr (.inl lo))), (a2, .inl (c2, 24, .inr (.inl hi))), (g, .inr (1, [.ref b0, .ref b1, .ref b2, .long ow, .long off, .long go])), (b0, .inl (d0, 24, .inl (ck_bz (bt hd)))), (b1, .inl (d1, 24, .inr (.inl lo))), (b2, .inl (d2, 24, .inr (.inl hi)))] → va_S (fun q : Nat => s.heap.size ≤ q) s.heap H locs → ∀ ls, lv_has ls 4 [(0, .ref b), (1, .ref h), (2, .ref g), (3, .int (nI i))] → W p l e room_1 s m #[Value.ref b] below meth c H locs 7 132 (lw_Z below #[Value.ref b] s) (F0 m 788 ls [])) : ∀ (lo hi : Nat → Int64) (hd : Int32) (ow off go : Int64), ck_inv hd lo hi → 0 ≤ ow → ∀ (H : Heap) (locs : List Loc), va_P D vwCl [(h, .inr (0, [.ref a1, .ref a2, .int hd, .long ow, .long off, .long go])), (a1, .inl (c1, 24, .inr (.inl lo))), (a2, .inl (c2, 24, .inr (.inl hi))), (g, .inr (1, [.ref b0, .ref b1, .ref b2, .long ow, .long off, .long go])), (b0, .inl (d0, 24, .inl (ck_bz (bt hd)))), (b1, .inl (d1, 24, .inr (.inl lo))), (b2, .inl (d2, 24, .inr (.inl hi)))] H → va_D (fun q : Nat => s.heap.size ≤ q) [(h, .inr (0, [.ref a1, .ref a2, .int hd, .long ow, .long off, .long go])), (a1, .inl (c1, 24, .inr (.inl lo))), (a2, .inl (c2, 24, .inr (.inl hi))), (g, .inr (1, [.ref b0, .ref b1, .ref b2, .long ow, .long off, .long go])), (b0, .inl (d0, 24, .inl (ck_bz (bt hd)))), (b1, .inl (d1, 24, .inr (.inl lo))), (b2, .inl (d2, 24, .inr (.inl hi)))] → va_S (fun q : Nat => s.heap.size ≤ q) s.heap H locs → ∀ ls, lv_has ls 4 [(0, .ref b), (1, .ref h), (2, .ref g), (3, .int (nI i))] → W p l e room_1 s m #[Value.ref b] below meth c H locs 7 132 (lw_Z below #[Value.ref b] s) (F0 m 750 ls []) := by
  obtain ⟨hx, hb, hr, hml, hown0, hts, hX, hbl, hlocks, hgv⟩ := id C0
  have hown : s.vm.findClass RL = some m.cls := hown0
  have htl : ∀ w ∈ wsL_law, w.before #[Value.ref b] s = true := fun w hw => hts w (wsL_law_in w hw)
  have hA : ∀ q : Nat, s.heap.size ≤ q → (fun q : Nat => s.heap.size ≤ q) q := fun _ h => h
  have hbA : ¬ (fun q : Nat => s.heap.size ≤ q) b := Nat.not_le.mpr hbl
  intro lo hi hd ow off go inv how H locs hP hD hS ls hl
  refine lv_aload_n hx hb dL_law_750 rfl (lv_at hl 1 rfl) ?_
  refine lv_aload_n hx hb dL_law_751 rfl (lv_at hl 0 rfl) ?_
  refine lv_iload_n hx hb dL_law_752 rfl (lv_at hl 3 rfl) ?_
  refine lv_iconst (v := 1) hx hb dL_law_753 (by decide) ?_
  refine lv_iadd hx hb dL_law_754 ?_
  refine ck_sld hx hb hX hbl hbA hS hL (k := i + 1) (nI_add i 1) (by omega) dL_law_755 ?_
  have hPx := hP.sub (ws' := [(h, .inr (0, [.ref a1, .ref a2, .int hd, .long ow, .long off, .long go])), (a1, .inl (c1, 24, .inr (.inl lo))), (a2, .inl (c2, 24, .inr (.inl hi)))]) [0, 1, 2] rfl
  have hKx := hK.sub (tys' := xT c1 c2) [0, 1] rfl
  refine ck_cV (As := [.int (xs (i + 1))]) (rest := []) ⟨hx, hb, hml, hown, htl⟩ (c_X0_offset l D h a1 a2 c1 c2 lo hi hd ow off go (xs (i + 1))) (cwV 1 htl gL_law_X0_offset rfl rfl rfl (by decide +kernel) ⟨Nat.le_of_ble_eq_true rfl, Nat.le_of_ble_eq_true rfl⟩) hPx hKx (va_recv hKx hPx (ci := 0) (q0 := 0) rfl rfl) rfl hl.1 rfl (Nat.le_of_ble_eq_true rfl) dL_law_756 ⟨Nat.le_of_ble_eq_true rfl, Nat.le_of_ble_eq_true rfl⟩ ?_
  refine lv_aload_n hx hb dL_law_759 rfl (lv_at hl 2 rfl) ?_
  refine lv_aload_n hx hb dL_law_760 rfl (lv_at hl 0 rfl) ?_
  refine lv_iload_n hx hb dL_law_761 rfl (lv_at hl 3 rfl) ?_
  refine lv_iconst (v := 1) hx hb dL_law_762 (by decide) ?_
  refine lv_iadd hx hb dL_law_763 ?_
  refine ck_sld hx hb hX hbl hbA hS hL (k := i + 1) (nI_add i 1) (by omega) dL_law_764 ?_
  have hPm := hP.sub (ws' := [(g, .inr (1, [.ref b0, .ref b1, .ref b2, .long ow, .long off, .long go])), (b0, .inl (d0, 24, .inl (ck_bz (bt hd)))), (b1, .inl (d1, 24, .inr (.inl lo))), (b2, .inl (d2, 24, .inr (.inl hi)))]) [3, 4, 5, 6] rfl
  have hKm := hK.sub (tys' := mT d0 d1 d2) [2, 3, 4] rfl
  refine ck_cV (As := [.int (xs (i + 1))]) (rest := [.long (ck_of off go (xs (i + 1)))]) ⟨hx, hb, hml, hown, htl⟩ (c_X1_offset l D g b0 b1 b2 d0 d1 d2 lo hi hd ow off go inv (xs (i + 1))) (cwV 1 htl gL_law_X1_offset rfl rfl rfl (by decide +kernel) ⟨Nat.le_of_ble_eq_true rfl, Nat.le_of_ble_eq_true rfl⟩) hPm hKm (va_recv hKm hPm (ci := 1) (q0 := 0) rfl rfl) rfl hl.1 rfl (Nat.le_of_ble_eq_true rfl) dL_law_765 ⟨Nat.le_of_ble_eq_true rfl, Nat.le_of_ble_eq_true rfl⟩ ?_
  refine W.lcmp hx hb dL_law_768 ?_
  refine lv_if_eq (tgt := 788) hx hb dL_law_769 (by decide) (fun _ => ?_) (fun cq => absurd ((lg_cmp_eq _ _).mpr rfl) cq)
  exact tail lo hi hd ow off go (inv) (how) _ _ hP hD hS ls hl

set_option maxHeartbeats 4000000 in
set_option maxRecDepth 100000 in
theorem law_c16 {p : Program} {e : Env} {s : State} {m : MethodId} {below : List Frame} {meth : Method} {c : Code} (l : Launch) {b L : Nat} {xs : Nat → Int32} (hL : L ≤ 4096) (C0 : lw_At p s m meth c b L xs) (D : va_G) (h a1 a2 g b0 b1 b2 : Nat) (c1 c2 d0 d1 d2 : ClassId) (hK : va_K D vwCl [(c1, .long), (c2, .long), (d0, .boolean), (d1, .long), (d2, .long)] s) (i : Nat) (hi8 : i + 8 ≤ L) (tail : ∀ (lo hi : Nat → Int64) (hd : Int32) (ow off go : Int64), ck_inv hd lo hi → 0 ≤ ow → ∀ (H : Heap) (locs : List Loc), va_P D vwCl [(h, .inr (0, [.ref a1, .ref a2, .int hd, .long ow, .long off, .long go])), (a1, .inl (c1, 24, .inr (.inl lo))), (a2, .inl (c2, 24, .inr (.inl hi))), (g, .inr (1, [.ref b0, .ref b1, .ref b2, .long ow, .long off, .long go])), (b0, .inl (d0, 24, .inl (ck_bz (bt hd)))), (b1, .inl (d1, 24, .inr (.inl lo))), (b2, .inl (d2, 24, .inr (.inl hi)))] H → va_D (fun q : Nat => s.heap.size ≤ q) [(h, .inr (0, [.ref a1, .ref a2, .int hd, .long ow, .long off, .long go])), (a1, .inl (c1, 24, .inr (.inl lo))), (a2, .inl (c2, 24, .inr (.inl hi))), (g, .inr (1, [.ref b0, .ref b1, .ref b2, .long ow, .long off, .long go])), (b0, .inl (d0, 24, .inl (ck_bz (bt hd)))), (b1, .inl (d1, 24, .inr (.inl lo))), (b2, .inl (d2, 24, .inr (.inl hi)))] → va_S (fun q : Nat => s.heap.size ≤ q) s.heap H locs → ∀ ls, lv_has ls 4 [(0, .ref b), (1, .ref h), (2, .ref g), (3, .int (nI i))] → W p l e room_1 s m #[Value.ref b] below meth c H locs 7 132 (lw_Z below #[Value.ref b] s) (F0 m 788 ls [])) : ∀ (lo hi : Nat → Int64) (hd : Int32) (ow off go : Int64), ck_inv hd lo hi → 0 ≤ ow → ∀ (H : Heap) (locs : List Loc), va_P D vwCl [(h, .inr (0, [.ref a1, .ref a2, .int hd, .long ow, .long off, .long go])), (a1, .inl (c1, 24, .inr (.inl lo))), (a2, .inl (c2, 24, .inr (.inl hi))), (g, .inr (1, [.ref b0, .ref b1, .ref b2, .long ow, .long off, .long go])), (b0, .inl (d0, 24, .inl (ck_bz (bt hd)))), (b1, .inl (d1, 24, .inr (.inl lo))), (b2, .inl (d2, 24, .inr (.inl hi)))] H → va_D (fun q : Nat => s.heap.size ≤ q) [(h, .inr (0, [.ref a1, .ref a2, .int hd, .long ow, .long off, .long go])), (a1, .inl (c1, 24, .inr (.inl lo))), (a2, .inl (c2, 24, .inr (.inl hi))), (g, .inr (1, [.ref b0, .ref b1, .ref b2, .long ow, .long off, .long go])), (b0, .inl (d0, 24, .inl (ck_bz (bt hd)))), (b1, .inl (d1, 24, .inr (.inl lo))), (b2, .inl (d2, 24, .inr (.inl hi)))] → va_S (fun q : Nat => s.heap.size ≤ q) s.heap H locs → ∀ ls, lv_has ls 4 [(0, .ref b), (1, .ref h), (2, .ref g), (3, .int (nI i))] → W p l e room_1 s m #[Value.ref b] below meth c H locs 7 132 (lw_Z below #[Value.ref b] s) (F0 m 774 ls []) := by
  obtain ⟨hx, hb, hr, hml, hown0, hts, hX, hbl, hlocks, hgv⟩ := id C0
  have hown : s.vm.findClass RL = some m.cls := hown0
  have htl : ∀ w ∈ wsL_law, w.before #[Value.ref b] s = true := fun w hw => hts w (wsL_law_in w hw)
  have hA : ∀ q : Nat, s.heap.size ≤ q → (fun q : Nat => s.heap.size ≤ q) q := fun _ h => h
  have hbA : ¬ (fun q : Nat => s.heap.size ≤ q) b := Nat.not_le.mpr hbl
  intro lo hi hd ow off go inv how H locs hP hD hS ls hl
  refine lv_aload_n hx hb dL_law_774 rfl (lv_at hl 1 rfl) ?_
  have hPx := hP.sub (ws' := [(h, .inr (0, [.ref a1, .ref a2, .int hd, .long ow, .long off, .long go])), (a1, .inl (c1, 24, .inr (.inl lo))), (a2, .inl (c2, 24, .inr (.inl hi)))]) [0, 1, 2] rfl
  have hKx := hK.sub (tys' := xT c1 c2) [0, 1] rfl
  refine ck_cV (As := []) (rest := []) ⟨hx, hb, hml, hown, htl⟩ (c_X0_settles l D h a1 a2 c1 c2 lo hi hd ow off go ) (cwV 0 htl gL_law_X0_settles rfl rfl rfl (by decide +kernel) ⟨Nat.le_of_ble_eq_true rfl, Nat.le_of_ble_eq_true rfl⟩) hPx hKx (va_recv hKx hPx (ci := 0) (q0 := 0) rfl rfl) rfl hl.1 rfl (Nat.le_of_ble_eq_true rfl) dL_law_775 ⟨Nat.le_of_ble_eq_true rfl, Nat.le_of_ble_eq_true rfl⟩ ?_
  refine lv_aload_n hx hb dL_law_778 rfl (lv_at hl 2 rfl) ?_
  have hPm := hP.sub (ws' := [(g, .inr (1, [.ref b0, .ref b1, .ref b2, .long ow, .long off, .long go])), (b0, .inl (d0, 24, .inl (ck_bz (bt hd)))), (b1, .inl (d1, 24, .inr (.inl lo))), (b2, .inl (d2, 24, .inr (.inl hi)))]) [3, 4, 5, 6] rfl
  have hKm := hK.sub (tys' := mT d0 d1 d2) [2, 3, 4] rfl
  refine ck_cV (As := []) (rest := [.long (ck_st off go)]) ⟨hx, hb, hml, hown, htl⟩ (c_X1_settles l D g b0 b1 b2 d0 d1 d2 lo hi hd ow off go inv ) (cwV 0 htl gL_law_X1_settles rfl rfl rfl (by decide +kernel) ⟨Nat.le_of_ble_eq_true rfl, Nat.le_of_ble_eq_true rfl⟩) hPm hKm (va_recv hKm hPm (ci := 1) (q0 := 0) rfl rfl) rfl hl.1 rfl (Nat.le_of_ble_eq_true rfl) dL_law_779 ⟨Nat.le_of_ble_eq_true rfl, Nat.le_of_ble_eq_true rfl⟩ ?_
  refine W.lcmp hx hb dL_law_782 ?_
  refine lv_if_eq (tgt := 788) hx hb dL_law_783 (by decide) (fun _ => ?_) (fun cq => absurd ((lg_cmp_eq _ _).mpr rfl) cq)
  exact tail lo hi hd ow off go (inv) (how) _ _ hP hD hS ls hl
