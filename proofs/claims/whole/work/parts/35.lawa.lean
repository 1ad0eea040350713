set_option maxHeartbeats 4000000 in
set_option maxRecDepth 100000 in
theorem law_c0 {p : Program} {e : Env} {s : State} {m : MethodId} {below : List Frame} {meth : Method} {c : Code} (l : Launch) {b L : Nat} {xs : Nat → Int32} (hL : L ≤ 4096) (C0 : lw_At p s m meth c b L xs) (D : va_G) (h a1 a2 g b0 b1 b2 : Nat) (c1 c2 d0 d1 d2 : ClassId) (hK : va_K D vwCl [(c1, .long), (c2, .long), (d0, .boolean), (d1, .long), (d2, .long)] s) (i : Nat) (hi8 : i + 8 ≤ L) (tail : ∀ (lo hi : Nat → Int64) (hd : Int32) (ow off go : Int64), ck_inv hd lo hi → 0 ≤ ow → ∀ (H : Heap) (locs : List Loc), va_P D vwCl [(h, .inr (0, [.ref a1, .ref a2, .int hd, .long ow, .long off, .long go])), (a1, .inl (c1, 24, .inr (.inl lo))), (a2, .inl (c2, 24, .inr (.inl hi))), (g, .inr (1, [.ref b0, .ref b1, .ref b2, .long ow, .long off, .long go])), (b0, .inl (d0, 24, .inl (ck_bz (bt hd)))), (b1, .inl (d1, 24, .inr (.inl lo))), (b2, .inl (d2, 24, .inr (.inl hi)))] H → va_D (fun q : Nat => s.heap.size ≤ q) [(h, .inr (0, [.ref a1, .ref a2, .int hd, .long ow, .long off, .long go])), (a1, .inl (c1, 24, .inr (.inl lo))), (a2, .inl (c2, 24, .inr (.inl hi))), (g, .inr (1, [.ref b0, .ref b1, .ref b2, .long ow, .long off, .long go])), (b0, .inl (d0, 24, .inl (ck_bz (bt hd)))), (b1, .inl (d1, 24, .inr (.inl lo))), (b2, .inl (d2, 24, .inr (.inl hi)))] → va_S (fun q : Nat => s.heap.size ≤ q) s.heap H locs → ∀ ls, lv_has ls 4 [(0, .ref b), (1, .ref h), (2, .ref g), (3, .int (nI i))] → W p l e room_1 s m #[Value.ref b] below meth c H locs 7 132 (lw_Z below #[Value.ref b] s) (F0 m 788 ls [])) : ∀ (lo hi : Nat → Int64) (hd : Int32) (ow off go : Int64), ck_inv hd lo hi → 0 ≤ ow → ∀ (H : Heap) (locs : List Loc), va_P D vwCl [(h, .inr (0, [.ref a1, .ref a2, .int hd, .long ow, .long off, .long go])), (a1, .inl (c1, 24, .inr (.inl lo))), (a2, .inl (c2, 24, .inr (.inl hi))), (g, .inr (1, [.ref b0, .ref b1, .ref b2, .long ow, .long off, .long go])), (b0, .inl (d0, 24, .inl (ck_bz (bt hd)))), (b1, .inl (d1, 24, .inr (.inl lo))), (b2, .inl (d2, 24, .inr (.inl hi)))] H → va_D (fun q : Nat => s.heap.size ≤ q) [(h, .inr (0, [.ref a1, .ref a2, .int hd, .long ow, .long off, .long go])), (a1, .inl (c1, 24, .inr (.inl lo))), (a2, .inl (c2, 24, .inr (.inl hi))), (g, .inr (1, [.ref b0, .ref b1, .ref b2, .long ow, .long off, .long go])), (b0, .inl (d0, 24, .inl (ck_bz (bt hd)))), (b1, .inl (d1, 24, .inr (.inl lo))), (b2, .inl (d2, 24, .inr (.inl hi)))] → va_S (fun q : Nat => s.heap.size ≤ q) s.heap H locs → ∀ ls, lv_has ls 4 [(0, .ref b), (1, .ref h), (2, .ref g), (3, .int (nI i))] → W p l e room_1 s m #[Value.ref b] below meth c H locs 7 132 (lw_Z below #[Value.ref b] s) (F0 m 116 ls []) := by
  obtain ⟨hx, hb, hr, hml, hown0, hts, hX, hbl, hlocks, hgv⟩ := id C0
  have hown : s.vm.findClass RL = some m.cls := hown0
  have htl : ∀ w ∈ wsL_law, w.before #[Value.ref b] s = true := fun w hw => hts w (wsL_law_in w hw)
  have hA : ∀ q : Nat, s.heap.size ≤ q → (fun q : Nat => s.heap.size ≤ q) q := fun _ h => h
  have hbA : ¬ (fun q : Nat => s.heap.size ≤ q) b := Nat.not_le.mpr hbl
  intro lo hi hd ow off go inv how H locs hP hD hS ls hl
  refine lv_aload_n hx hb dL_law_116 rfl (lv_at hl 1 rfl) ?_
  refine lv_aload_n hx hb dL_law_117 rfl (lv_at hl 0 rfl) ?_
  refine lv_iload_n hx hb dL_law_118 rfl (lv_at hl 3 rfl) ?_
  refine lv_iconst (v := 1) hx hb dL_law_119 (by decide) ?_
  refine lv_iadd hx hb dL_law_120 ?_
  refine ck_sld hx hb hX hbl hbA hS hL (k := i + 1) (nI_add i 1) (by omega) dL_law_121 ?_
  refine lv_aload_n hx hb dL_law_122 rfl (lv_at hl 0 rfl) ?_
  refine lv_iload_n hx hb dL_law_123 rfl (lv_at hl 3 rfl) ?_
  refine lv_iconst (v := 2) hx hb dL_law_124 (by decide) ?_
  refine lv_iadd hx hb dL_law_125 ?_
  refine ck_sld hx hb hX hbl hbA hS hL (k := i + 2) (nI_add i 2) (by omega) dL_law_126 ?_
  refine lv_i2l (v := (Int32.toInt64 (xs (i + 2)))) hx hb dL_law_127 rfl ?_
  refine lv_bipush (v := 32) hx hb dL_law_128 (by decide) ?_
  refine lv_lshl (v := ((Int32.toInt64 (xs (i + 2))) <<< (Int32.toInt64 32 &&& 63))) hx hb dL_law_130 rfl ?_
  refine lv_aload_n hx hb dL_law_131 rfl (lv_at hl 0 rfl) ?_
  refine lv_iload_n hx hb dL_law_132 rfl (lv_at hl 3 rfl) ?_
  refine lv_iconst (v := 3) hx hb dL_law_133 (by decide) ?_
  refine lv_iadd hx hb dL_law_134 ?_
  refine ck_sld hx hb hX hbl hbA hS hL (k := i + 3) (nI_add i 3) (by omega) dL_law_135 ?_
  refine lv_i2l (v := (Int32.toInt64 (xs (i + 3)))) hx hb dL_law_136 rfl ?_
  refine lv_ldc2 (v := 4294967295) hx hb hown (htl (.constantLong RL 13 4294967295) (by decide +kernel)) dL_law_137 ?_
  refine lv_land hx hb dL_law_140 ?_
  refine lv_lor hx hb dL_law_141 ?_
  refine lv_aload_n hx hb dL_law_142 rfl (lv_at hl 0 rfl) ?_
  refine lv_iload_n hx hb dL_law_143 rfl (lv_at hl 3 rfl) ?_
  refine lv_iconst (v := 4) hx hb dL_law_144 (by decide) ?_
  refine lv_iadd hx hb dL_law_145 ?_
  refine ck_sld hx hb hX hbl hbA hS hL (k := i + 4) (nI_add i 4) (by omega) dL_law_146 ?_
  refine lv_i2l (v := (Int32.toInt64 (xs (i + 4)))) hx hb dL_law_147 rfl ?_
  refine lv_bipush (v := 32) hx hb dL_law_148 (by decide) ?_
  refine lv_lshl (v := ((Int32.toInt64 (xs (i + 4))) <<< (Int32.toInt64 32 &&& 63))) hx hb dL_law_150 rfl ?_
  refine lv_aload_n hx hb dL_law_151 rfl (lv_at hl 0 rfl) ?_
  refine lv_iload_n hx hb dL_law_152 rfl (lv_at hl 3 rfl) ?_
  refine lv_iconst (v := 5) hx hb dL_law_153 (by decide) ?_
  refine lv_iadd hx hb dL_law_154 ?_
  refine ck_sld hx hb hX hbl hbA hS hL (k := i + 5) (nI_add i 5) (by omega) dL_law_155 ?_
  refine lv_i2l (v := (Int32.toInt64 (xs (i + 5)))) hx hb dL_law_156 rfl ?_
  refine lv_ldc2 (v := 4294967295) hx hb hown (htl (.constantLong RL 13 4294967295) (by decide +kernel)) dL_law_157 ?_
  refine lv_land hx hb dL_law_160 ?_
  refine lv_lor hx hb dL_law_161 ?_
  have hPx := hP.sub (ws' := [(h, .inr (0, [.ref a1, .ref a2, .int hd, .long ow, .long off, .long go])), (a1, .inl (c1, 24, .inr (.inl lo))), (a2, .inl (c2, 24, .inr (.inl hi)))]) [0, 1, 2] rfl
  have hKx := hK.sub (tys' := xT c1 c2) [0, 1] rfl
  have hDc := hD.sub (ws' := [(h, .inr (0, [.ref a1, .ref a2, .int hd, .long ow, .long off, .long go])), (a1, .inl (c1, 24, .inr (.inl lo))), (a2, .inl (c2, 24, .inr (.inl hi)))]) [0, 1, 2] (by decide) rfl
  refine ck_wV (As := [.int (xs (i + 1)), .long (ck_L (xs (i + 2)) (xs (i + 3))), .long (ck_L (xs (i + 4)) (xs (i + 5)))]) (rest := []) (w := [(h, .inr (0, [.ref a1, .ref a2, .int hd, .long ow, .long off, .long go])), (a1, .inl (c1, 24, .inr (.inl lo))), (a2, .inl (c2, 24, .inr (.inl hi))), (g, .inr (1, [.ref b0, .ref b1, .ref b2, .long ow, .long off, .long go])), (b0, .inl (d0, 24, .inl (ck_bz (bt hd)))), (b1, .inl (d1, 24, .inr (.inl lo))), (b2, .inl (d2, 24, .inr (.inl hi)))]) (wc := [(h, .inr (0, [.ref a1, .ref a2, .int hd, .long ow, .long off, .long go])), (a1, .inl (c1, 24, .inr (.inl lo))), (a2, .inl (c2, 24, .inr (.inl hi)))]) (wr := [(g, .inr (1, [.ref b0, .ref b1, .ref b2, .long ow, .long off, .long go])), (b0, .inl (d0, 24, .inl (ck_bz (bt hd)))), (b1, .inl (d1, 24, .inr (.inl lo))), (b2, .inl (d2, 24, .inr (.inl hi)))]) (w1 := [(h, .inr (0, [.ref a1, .ref a2, .int (ck_uH (ck_ivk (xs (i + 1)) (ck_L (xs (i + 2)) (xs (i + 3))) (ck_L (xs (i + 4)) (xs (i + 5)))) hd (xs (i + 1))), .long ow, .long off, .long go])), (a1, .inl (c1, 24, .inr (.inl (ck_uL (ck_ivk (xs (i + 1)) (ck_L (xs (i + 2)) (xs (i + 3))) (ck_L (xs (i + 4)) (xs (i + 5)))) lo (xs (i + 1)) (ck_L (xs (i + 2)) (xs (i + 3))))))), (a2, .inl (c2, 24, .inr (.inl (ck_uL (ck_ivk (xs (i + 1)) (ck_L (xs (i + 2)) (xs (i + 3))) (ck_L (xs (i + 4)) (xs (i + 5)))) hi (xs (i + 1)) (ck_L (xs (i + 4)) (xs (i + 5)))))))]) (v := some (.int (ck_b (ck_ivk (xs (i + 1)) (ck_L (xs (i + 2)) (xs (i + 3))) (ck_L (xs (i + 4)) (xs (i + 5))))))) ⟨hx, hb, hml, hown, htl⟩ (c_X0_interval l D h a1 a2 c1 c2 lo hi hd ow off go _ (xs (i + 1)) (ck_L (xs (i + 2)) (xs (i + 3))) (ck_L (xs (i + 4)) (xs (i + 5)))) (cwV 3 htl gL_law_X0_interval rfl rfl rfl (by decide +kernel) ⟨Nat.le_of_ble_eq_true rfl, Nat.le_of_ble_eq_true rfl⟩) hP hD hS hA hKx [0, 1, 2] [3, 4, 5, 6] rfl hPx hDc rfl (by decide) (by decide) (va_recv hKx hPx (ci := 0) (q0 := 0) rfl rfl) rfl hl.1 rfl (Nat.le_of_ble_eq_true rfl) dL_law_162 ⟨Nat.le_of_ble_eq_true rfl, Nat.le_of_ble_eq_true rfl⟩ (fun H locs hP hD hS => ?_)
  have hP : va_P D vwCl [(g, .inr (1, [.ref b0, .ref b1, .ref b2, .long ow, .long off, .long go])), (b0, .inl (d0, 24, .inl (ck_bz (bt hd)))), (b1, .inl (d1, 24, .inr (.inl lo))), (b2, .inl (d2, 24, .inr (.inl hi))), (h, .inr (0, [.ref a1, .ref a2, .int (ck_uH (ck_ivk (xs (i + 1)) (ck_L (xs (i + 2)) (xs (i + 3))) (ck_L (xs (i + 4)) (xs (i + 5)))) hd (xs (i + 1))), .long ow, .long off, .long go])), (a1, .inl (c1, 24, .inr (.inl (ck_uL (ck_ivk (xs (i + 1)) (ck_L (xs (i + 2)) (xs (i + 3))) (ck_L (xs (i + 4)) (xs (i + 5)))) lo (xs (i + 1)) (ck_L (xs (i + 2)) (xs (i + 3))))))), (a2, .inl (c2, 24, .inr (.inl (ck_uL (ck_ivk (xs (i + 1)) (ck_L (xs (i + 2)) (xs (i + 3))) (ck_L (xs (i + 4)) (xs (i + 5)))) hi (xs (i + 1)) (ck_L (xs (i + 4)) (xs (i + 5)))))))] H := hP
  have hD : va_D (fun q : Nat => s.heap.size ≤ q) [(g, .inr (1, [.ref b0, .ref b1, .ref b2, .long ow, .long off, .long go])), (b0, .inl (d0, 24, .inl (ck_bz (bt hd)))), (b1, .inl (d1, 24, .inr (.inl lo))), (b2, .inl (d2, 24, .inr (.inl hi))), (h, .inr (0, [.ref a1, .ref a2, .int (ck_uH (ck_ivk (xs (i + 1)) (ck_L (xs (i + 2)) (xs (i + 3))) (ck_L (xs (i + 4)) (xs (i + 5)))) hd (xs (i + 1))), .long ow, .long off, .long go])), (a1, .inl (c1, 24, .inr (.inl (ck_uL (ck_ivk (xs (i + 1)) (ck_L (xs (i + 2)) (xs (i + 3))) (ck_L (xs (i + 4)) (xs (i + 5)))) lo (xs (i + 1)) (ck_L (xs (i + 2)) (xs (i + 3))))))), (a2, .inl (c2, 24, .inr (.inl (ck_uL (ck_ivk (xs (i + 1)) (ck_L (xs (i + 2)) (xs (i + 3))) (ck_L (xs (i + 4)) (xs (i + 5)))) hi (xs (i + 1)) (ck_L (xs (i + 4)) (xs (i + 5)))))))] := hD
  refine lv_aload_n hx hb dL_law_165 rfl (lv_at hl 2 rfl) ?_
  refine lv_aload_n hx hb dL_law_166 rfl (lv_at hl 0 rfl) ?_
  refine lv_iload_n hx hb dL_law_167 rfl (lv_at hl 3 rfl) ?_
  refine lv_iconst (v := 1) hx hb dL_law_168 (by decide) ?_
  refine lv_iadd hx hb dL_law_169 ?_
  refine ck_sld hx hb hX hbl hbA hS hL (k := i + 1) (nI_add i 1) (by omega) dL_law_170 ?_
  refine lv_aload_n hx hb dL_law_171 rfl (lv_at hl 0 rfl) ?_
  refine lv_iload_n hx hb dL_law_172 rfl (lv_at hl 3 rfl) ?_
  refine lv_iconst (v := 2) hx hb dL_law_173 (by decide) ?_
  refine lv_iadd hx hb dL_law_174 ?_
  refine ck_sld hx hb hX hbl hbA hS hL (k := i + 2) (nI_add i 2) (by omega) dL_law_175 ?_
  refine lv_i2l (v := (Int32.toInt64 (xs (i + 2)))) hx hb dL_law_176 rfl ?_
  refine lv_bipush (v := 32) hx hb dL_law_177 (by decide) ?_
  refine lv_lshl (v := ((Int32.toInt64 (xs (i + 2))) <<< (Int32.toInt64 32 &&& 63))) hx hb dL_law_179 rfl ?_
  refine lv_aload_n hx hb dL_law_180 rfl (lv_at hl 0 rfl) ?_
  refine lv_iload_n hx hb dL_law_181 rfl (lv_at hl 3 rfl) ?_
  refine lv_iconst (v := 3) hx hb dL_law_182 (by decide) ?_
  refine lv_iadd hx hb dL_law_183 ?_
  refine ck_sld hx hb hX hbl hbA hS hL (k := i + 3) (nI_add i 3) (by omega) dL_law_184 ?_
  refine lv_i2l (v := (Int32.toInt64 (xs (i + 3)))) hx hb dL_law_185 rfl ?_
  refine lv_ldc2 (v := 4294967295) hx hb hown (htl (.constantLong RL 13 4294967295) (by decide +kernel)) dL_law_186 ?_
  refine lv_land hx hb dL_law_189 ?_
  refine lv_lor hx hb dL_law_190 ?_
  refine lv_aload_n hx hb dL_law_191 rfl (lv_at hl 0 rfl) ?_
  refine lv_iload_n hx hb dL_law_192 rfl (lv_at hl 3 rfl) ?_
  refine lv_iconst (v := 4) hx hb dL_law_193 (by decide) ?_
  refine lv_iadd hx hb dL_law_194 ?_
  refine ck_sld hx hb hX hbl hbA hS hL (k := i + 4) (nI_add i 4) (by omega) dL_law_195 ?_
  refine lv_i2l (v := (Int32.toInt64 (xs (i + 4)))) hx hb dL_law_196 rfl ?_
  refine lv_bipush (v := 32) hx hb dL_law_197 (by decide) ?_
  refine lv_lshl (v := ((Int32.toInt64 (xs (i + 4))) <<< (Int32.toInt64 32 &&& 63))) hx hb dL_law_199 rfl ?_
  refine lv_aload_n hx hb dL_law_200 rfl (lv_at hl 0 rfl) ?_
  refine lv_iload_n hx hb dL_law_201 rfl (lv_at hl 3 rfl) ?_
  refine lv_iconst (v := 5) hx hb dL_law_202 (by decide) ?_
  refine lv_iadd hx hb dL_law_203 ?_
  refine ck_sld hx hb hX hbl hbA hS hL (k := i + 5) (nI_add i 5) (by omega) dL_law_204 ?_
  refine lv_i2l (v := (Int32.toInt64 (xs (i + 5)))) hx hb dL_law_205 rfl ?_
  refine lv_ldc2 (v := 4294967295) hx hb hown (htl (.constantLong RL 13 4294967295) (by decide +kernel)) dL_law_206 ?_
  refine lv_land hx hb dL_law_209 ?_
  refine lv_lor hx hb dL_law_210 ?_
  have hPm := hP.sub (ws' := [(g, .inr (1, [.ref b0, .ref b1, .ref b2, .long ow, .long off, .long go])), (b0, .inl (d0, 24, .inl (ck_bz (bt hd)))), (b1, .inl (d1, 24, .inr (.inl lo))), (b2, .inl (d2, 24, .inr (.inl hi)))]) [0, 1, 2, 3] rfl
  have hKm := hK.sub (tys' := mT d0 d1 d2) [2, 3, 4] rfl
  have hDc := hD.sub (ws' := [(g, .inr (1, [.ref b0, .ref b1, .ref b2, .long ow, .long off, .long go])), (b0, .inl (d0, 24, .inl (ck_bz (bt hd)))), (b1, .inl (d1, 24, .inr (.inl lo))), (b2, .inl (d2, 24, .inr (.inl hi)))]) [0, 1, 2, 3] (by decide) rfl
  refine ck_wV (As := [.int (xs (i + 1)), .long (ck_L (xs (i + 2)) (xs (i + 3))), .long (ck_L (xs (i + 4)) (xs (i + 5)))]) (rest := [.int (ck_b (ck_ivk (xs (i + 1)) (ck_L (xs (i + 2)) (xs (i + 3))) (ck_L (xs (i + 4)) (xs (i + 5)))))]) (w := [(g, .inr (1, [.ref b0, .ref b1, .ref b2, .long ow, .long off, .long go])), (b0, .inl (d0, 24, .inl (ck_bz (bt hd)))), (b1, .inl (d1, 24, .inr (.inl lo))), (b2, .inl (d2, 24, .inr (.inl hi))), (h, .inr (0, [.ref a1, .ref a2, .int (ck_uH (ck_ivk (xs (i + 1)) (ck_L (xs (i + 2)) (xs (i + 3))) (ck_L (xs (i + 4)) (xs (i + 5)))) hd (xs (i + 1))), .long ow, .long off, .long go])), (a1, .inl (c1, 24, .inr (.inl (ck_uL (ck_ivk (xs (i + 1)) (ck_L (xs (i + 2)) (xs (i + 3))) (ck_L (xs (i + 4)) (xs (i + 5)))) lo (xs (i + 1)) (ck_L (xs (i + 2)) (xs (i + 3))))))), (a2, .inl (c2, 24, .inr (.inl (ck_uL (ck_ivk (xs (i + 1)) (ck_L (xs (i + 2)) (xs (i + 3))) (ck_L (xs (i + 4)) (xs (i + 5)))) hi (xs (i + 1)) (ck_L (xs (i + 4)) (xs (i + 5)))))))]) (wc := [(g, .inr (1, [.ref b0, .ref b1, .ref b2, .long ow, .long off, .long go])), (b0, .inl (d0, 24, .inl (ck_bz (bt hd)))), (b1, .inl (d1, 24, .inr (.inl lo))), (b2, .inl (d2, 24, .inr (.inl hi)))]) (wr := [(h, .inr (0, [.ref a1, .ref a2, .int (ck_uH (ck_ivk (xs (i + 1)) (ck_L (xs (i + 2)) (xs (i + 3))) (ck_L (xs (i + 4)) (xs (i + 5)))) hd (xs (i + 1))), .long ow, .long off, .long go])), (a1, .inl (c1, 24, .inr (.inl (ck_uL (ck_ivk (xs (i + 1)) (ck_L (xs (i + 2)) (xs (i + 3))) (ck_L (xs (i + 4)) (xs (i + 5)))) lo (xs (i + 1)) (ck_L (xs (i + 2)) (xs (i + 3))))))), (a2, .inl (c2, 24, .inr (.inl (ck_uL (ck_ivk (xs (i + 1)) (ck_L (xs (i + 2)) (xs (i + 3))) (ck_L (xs (i + 4)) (xs (i + 5)))) hi (xs (i + 1)) (ck_L (xs (i + 4)) (xs (i + 5)))))))]) (w1 := [(g, .inr (1, [.ref b0, .ref b1, .ref b2, .long ow, .long off, .long go])), (b0, .inl (d0, 24, .inl (ck_bz (bt (ck_uH (ck_ivk (xs (i + 1)) (ck_L (xs (i + 2)) (xs (i + 3))) (ck_L (xs (i + 4)) (xs (i + 5)))) hd (xs (i + 1))))))), (b1, .inl (d1, 24, .inr (.inl (ck_uL (ck_ivk (xs (i + 1)) (ck_L (xs (i + 2)) (xs (i + 3))) (ck_L (xs (i + 4)) (xs (i + 5)))) lo (xs (i + 1)) (ck_L (xs (i + 2)) (xs (i + 3))))))), (b2, .inl (d2, 24, .inr (.inl (ck_uL (ck_ivk (xs (i + 1)) (ck_L (xs (i + 2)) (xs (i + 3))) (ck_L (xs (i + 4)) (xs (i + 5)))) hi (xs (i + 1)) (ck_L (xs (i + 4)) (xs (i + 5)))))))]) (v := some (.int (ck_b (ck_ivk (xs (i + 1)) (ck_L (xs (i + 2)) (xs (i + 3))) (ck_L (xs (i + 4)) (xs (i + 5))))))) ⟨hx, hb, hml, hown, htl⟩ (c_X1_interval l D g b0 b1 b2 d0 d1 d2 lo hi hd ow off go inv _ (xs (i + 1)) (ck_L (xs (i + 2)) (xs (i + 3))) (ck_L (xs (i + 4)) (xs (i + 5)))) (cwV 3 htl gL_law_X1_interval rfl rfl rfl (by decide +kernel) ⟨Nat.le_of_ble_eq_true rfl, Nat.le_of_ble_eq_true rfl⟩) hP hD hS hA hKm [0, 1, 2, 3] [4, 5, 6] rfl hPm hDc rfl (by decide) (by decide) (va_recv hKm hPm (ci := 1) (q0 := 0) rfl rfl) rfl hl.1 rfl (Nat.le_of_ble_eq_true rfl) dL_law_211 ⟨Nat.le_of_ble_eq_true rfl, Nat.le_of_ble_eq_true rfl⟩ (fun H locs hP hD hS => ?_)
  have hP : va_P D vwCl [(h, .inr (0, [.ref a1, .ref a2, .int (ck_uH (ck_ivk (xs (i + 1)) (ck_L (xs (i + 2)) (xs (i + 3))) (ck_L (xs (i + 4)) (xs (i + 5)))) hd (xs (i + 1))), .long ow, .long off, .long go])), (a1, .inl (c1, 24, .inr (.inl (ck_uL (ck_ivk (xs (i + 1)) (ck_L (xs (i + 2)) (xs (i + 3))) (ck_L (xs (i + 4)) (xs (i + 5)))) lo (xs (i + 1)) (ck_L (xs (i + 2)) (xs (i + 3))))))), (a2, .inl (c2, 24, .inr (.inl (ck_uL (ck_ivk (xs (i + 1)) (ck_L (xs (i + 2)) (xs (i + 3))) (ck_L (xs (i + 4)) (xs (i + 5)))) hi (xs (i + 1)) (ck_L (xs (i + 4)) (xs (i + 5))))))), (g, .inr (1, [.ref b0, .ref b1, .ref b2, .long ow, .long off, .long go])), (b0, .inl (d0, 24, .inl (ck_bz (bt (ck_uH (ck_ivk (xs (i + 1)) (ck_L (xs (i + 2)) (xs (i + 3))) (ck_L (xs (i + 4)) (xs (i + 5)))) hd (xs (i + 1))))))), (b1, .inl (d1, 24, .inr (.inl (ck_uL (ck_ivk (xs (i + 1)) (ck_L (xs (i + 2)) (xs (i + 3))) (ck_L (xs (i + 4)) (xs (i + 5)))) lo (xs (i + 1)) (ck_L (xs (i + 2)) (xs (i + 3))))))), (b2, .inl (d2, 24, .inr (.inl (ck_uL (ck_ivk (xs (i + 1)) (ck_L (xs (i + 2)) (xs (i + 3))) (ck_L (xs (i + 4)) (xs (i + 5)))) hi (xs (i + 1)) (ck_L (xs (i + 4)) (xs (i + 5)))))))] H := hP
  have hD : va_D (fun q : Nat => s.heap.size ≤ q) [(h, .inr (0, [.ref a1, .ref a2, .int (ck_uH (ck_ivk (xs (i + 1)) (ck_L (xs (i + 2)) (xs (i + 3))) (ck_L (xs (i + 4)) (xs (i + 5)))) hd (xs (i + 1))), .long ow, .long off, .long go])), (a1, .inl (c1, 24, .inr (.inl (ck_uL (ck_ivk (xs (i + 1)) (ck_L (xs (i + 2)) (xs (i + 3))) (ck_L (xs (i + 4)) (xs (i + 5)))) lo (xs (i + 1)) (ck_L (xs (i + 2)) (xs (i + 3))))))), (a2, .inl (c2, 24, .inr (.inl (ck_uL (ck_ivk (xs (i + 1)) (ck_L (xs (i + 2)) (xs (i + 3))) (ck_L (xs (i + 4)) (xs (i + 5)))) hi (xs (i + 1)) (ck_L (xs (i + 4)) (xs (i + 5))))))), (g, .inr (1, [.ref b0, .ref b1, .ref b2, .long ow, .long off, .long go])), (b0, .inl (d0, 24, .inl (ck_bz (bt (ck_uH (ck_ivk (xs (i + 1)) (ck_L (xs (i + 2)) (xs (i + 3))) (ck_L (xs (i + 4)) (xs (i + 5)))) hd (xs (i + 1))))))), (b1, .inl (d1, 24, .inr (.inl (ck_uL (ck_ivk (xs (i + 1)) (ck_L (xs (i + 2)) (xs (i + 3))) (ck_L (xs (i + 4)) (xs (i + 5)))) lo (xs (i + 1)) (ck_L (xs (i + 2)) (xs (i + 3))))))), (b2, .inl (d2, 24, .inr (.inl (ck_uL (ck_ivk (xs (i + 1)) (ck_L (xs (i + 2)) (xs (i + 3))) (ck_L (xs (i + 4)) (xs (i + 5)))) hi (xs (i + 1)) (ck_L (xs (i + 4)) (xs (i + 5)))))))] := hD
  refine lv_icmp_eq (tgt := 788) hx hb dL_law_214 (by decide) (fun _ => ?_) (fun cq => absurd rfl cq)
  exact tail (ck_uL (ck_ivk (xs (i + 1)) (ck_L (xs (i + 2)) (xs (i + 3))) (ck_L (xs (i + 4)) (xs (i + 5)))) lo (xs (i + 1)) (ck_L (xs (i + 2)) (xs (i + 3)))) (ck_uL (ck_ivk (xs (i + 1)) (ck_L (xs (i + 2)) (xs (i + 3))) (ck_L (xs (i + 4)) (xs (i + 5)))) hi (xs (i + 1)) (ck_L (xs (i + 4)) (xs (i + 5)))) (ck_uH (ck_ivk (xs (i + 1)) (ck_L (xs (i + 2)) (xs (i + 3))) (ck_L (xs (i + 4)) (xs (i + 5)))) hd (xs (i + 1))) ow off go (ck_inv_iv inv (xs (i + 1)) (ck_L (xs (i + 2)) (xs (i + 3))) (ck_L (xs (i + 4)) (xs (i + 5)))) (how) _ _ hP hD hS ls hl

set_option maxHeartbeats 4000000 in
set_option maxRecDepth 100000 in
theorem law_c1 {p : Program} {e : Env} {s : State} {m : MethodId} {below : List Frame} {meth : Method} {c : Code} (l : Launch) {b L : Nat} {xs : Nat → Int32} (hL : L ≤ 4096) (C0 : lw_At p s m meth c b L xs) (D : va_G) (h a1 a2 g b0 b1 b2 : Nat) (c1 c2 d0 d1 d2 : ClassId) (hK : va_K D vwCl [(c1, .long), (c2, .long), (d0, .boolean), (d1, .long), (d2, .long)] s) (i : Nat) (hi8 : i + 8 ≤ L) (tail : ∀ (lo hi : Nat → Int64) (hd : Int32) (ow off go : Int64), ck_inv hd lo hi → 0 ≤ ow → ∀ (H : Heap) (locs : List Loc), va_P D vwCl [(h, .inr (0, [.ref a1, .ref a2, .int hd, .long ow, .long off, .long go])), (a1, .inl (c1, 24, .inr (.inl lo))), (a2, .inl (c2, 24, .inr (.inl hi))), (g, .inr (1, [.ref b0, .ref b1, .ref b2, .long ow, .long off, .long go])), (b0, .inl (d0, 24, .inl (ck_bz (bt hd)))), (b1, .inl (d1, 24, .inr (.inl lo))), (b2, .inl (d2, 24, .inr (.inl hi)))] H → va_D (fun q : Nat => s.heap.size ≤ q) [(h, .inr (0, [.ref a1, .ref a2, .int hd, .long ow, .long off, .long go])), (a1, .inl (c1, 24, .inr (.inl lo))), (a2, .inl (c2, 24, .inr (.inl hi))), (g, .inr (1, [.ref b0, .ref b1, .ref b2, .long ow, .long off, .long go])), (b0, .inl (d0, 24, .inl (ck_bz (bt hd)))), (b1, .inl (d1, 24, .inr (.inl lo))), (b2, .inl (d2, 24, .inr (.inl hi)))] → va_S (fun q : Nat => s.heap.size ≤ q) s.heap H locs → ∀ ls, lv_has ls 4 [(0, .ref b), (1, .ref h), (2, .ref g), (3, .int (nI i))] → W p l e room_1 s m #[Value.ref b] below meth c H locs 7 132 (lw_Z below #[Value.ref b] s) (F0 m 788 ls [])) : ∀ (lo hi : Nat → Int64) (hd : Int32) (ow off go : Int64), ck_inv hd lo hi → 0 ≤ ow → ∀ (H : Heap) (locs : List Loc), va_P D vwCl [(h, .inr (0, [.ref a1, .ref a2, .int hd, .long ow, .long off, .long go])), (a1, .inl (c1, 24, .inr (.inl lo))), (a2, .inl (c2, 24, .inr (.inl hi))), (g, .inr (1, [.ref b0, .ref b1, .ref b2, .long ow, .long off, .long go])), (b0, .inl (d0, 24, .inl (ck_bz (bt hd)))), (b1, .inl (d1, 24, .inr (.inl lo))), (b2, .inl (d2, 24, .inr (.inl hi)))] H → va_D (fun q : Nat => s.heap.size ≤ q) [(h, .inr (0, [.ref a1, .ref a2, .int hd, .long ow, .long off, .long go])), (a1, .inl (c1, 24, .inr (.inl lo))), (a2, .inl (c2, 24, .inr (.inl hi))), (g, .inr (1, [.ref b0, .ref b1, .ref b2, .long ow, .long off, .long go])), (b0, .inl (d0, 24, .inl (ck_bz (bt hd)))), (b1, .inl (d1, 24, .inr (.inl lo))), (b2, .inl (d2, 24, .inr (.inl hi)))] → va_S (fun q : Nat => s.heap.size ≤ q) s.heap H locs → ∀ ls, lv_has ls 4 [(0, .ref b), (1, .ref h), (2, .ref g), (3, .int (nI i))] → W p l e room_1 s m #[Value.ref b] below meth c H locs 7 132 (lw_Z below #[Value.ref b] s) (F0 m 219 ls []) := by
  obtain ⟨hx, hb, hr, hml, hown0, hts, hX, hbl, hlocks, hgv⟩ := id C0
  have hown : s.vm.findClass RL = some m.cls := hown0
  have htl : ∀ w ∈ wsL_law, w.before #[Value.ref b] s = true := fun w hw => hts w (wsL_law_in w hw)
  have hA : ∀ q : Nat, s.heap.size ≤ q → (fun q : Nat => s.heap.size ≤ q) q := fun _ h => h
  have hbA : ¬ (fun q : Nat => s.heap.size ≤ q) b := Nat.not_le.mpr hbl
  intro lo hi hd ow off go inv how H locs hP hD hS ls hl
  refine lv_aload_n hx hb dL_law_219 rfl (lv_at hl 1 rfl) ?_
  refine lv_aload_n hx hb dL_law_220 rfl (lv_at hl 0 rfl) ?_
  refine lv_iload_n hx hb dL_law_221 rfl (lv_at hl 3 rfl) ?_
  refine lv_iconst (v := 1) hx hb dL_law_222 (by decide) ?_
  refine lv_iadd hx hb dL_law_223 ?_
  refine ck_sld hx hb hX hbl hbA hS hL (k := i + 1) (nI_add i 1) (by omega) dL_law_224 ?_
  refine lv_aload_n hx hb dL_law_225 rfl (lv_at hl 0 rfl) ?_
  refine lv_iload_n hx hb dL_law_226 rfl (lv_at hl 3 rfl) ?_
  refine lv_iconst (v := 2) hx hb dL_law_227 (by decide) ?_
  refine lv_iadd hx hb dL_law_228 ?_
  refine ck_sld hx hb hX hbl hbA hS hL (k := i + 2) (nI_add i 2) (by omega) dL_law_229 ?_
  refine lv_i2l (v := (Int32.toInt64 (xs (i + 2)))) hx hb dL_law_230 rfl ?_
  refine lv_bipush (v := 32) hx hb dL_law_231 (by decide) ?_
  refine lv_lshl (v := ((Int32.toInt64 (xs (i + 2))) <<< (Int32.toInt64 32 &&& 63))) hx hb dL_law_233 rfl ?_
  refine lv_aload_n hx hb dL_law_234 rfl (lv_at hl 0 rfl) ?_
  refine lv_iload_n hx hb dL_law_235 rfl (lv_at hl 3 rfl) ?_
  refine lv_iconst (v := 3) hx hb dL_law_236 (by decide) ?_
  refine lv_iadd hx hb dL_law_237 ?_
  refine ck_sld hx hb hX hbl hbA hS hL (k := i + 3) (nI_add i 3) (by omega) dL_law_238 ?_
  refine lv_i2l (v := (Int32.toInt64 (xs (i + 3)))) hx hb dL_law_239 rfl ?_
  refine lv_ldc2 (v := 4294967295) hx hb hown (htl (.constantLong RL 13 4294967295) (by decide +kernel)) dL_law_240 ?_
  refine lv_land hx hb dL_law_243 ?_
  refine lv_lor hx hb dL_law_244 ?_
  refine lv_aload_n hx hb dL_law_245 rfl (lv_at hl 0 rfl) ?_
  refine lv_iload_n hx hb dL_law_246 rfl (lv_at hl 3 rfl) ?_
  refine lv_iconst (v := 4) hx hb dL_law_247 (by decide) ?_
  refine lv_iadd hx hb dL_law_248 ?_
  refine ck_sld hx hb hX hbl hbA hS hL (k := i + 4) (nI_add i 4) (by omega) dL_law_249 ?_
  refine lv_i2l (v := (Int32.toInt64 (xs (i + 4)))) hx hb dL_law_250 rfl ?_
  refine lv_bipush (v := 32) hx hb dL_law_251 (by decide) ?_
  refine lv_lshl (v := ((Int32.toInt64 (xs (i + 4))) <<< (Int32.toInt64 32 &&& 63))) hx hb dL_law_253 rfl ?_
  refine lv_aload_n hx hb dL_law_254 rfl (lv_at hl 0 rfl) ?_
  refine lv_iload_n hx hb dL_law_255 rfl (lv_at hl 3 rfl) ?_
  refine lv_iconst (v := 5) hx hb dL_law_256 (by decide) ?_
  refine lv_iadd hx hb dL_law_257 ?_
  refine ck_sld hx hb hX hbl hbA hS hL (k := i + 5) (nI_add i 5) (by omega) dL_law_258 ?_
  refine lv_i2l (v := (Int32.toInt64 (xs (i + 5)))) hx hb dL_law_259 rfl ?_
  refine lv_ldc2 (v := 4294967295) hx hb hown (htl (.constantLong RL 13 4294967295) (by decide +kernel)) dL_law_260 ?_
  refine lv_land hx hb dL_law_263 ?_
  refine lv_lor hx hb dL_law_264 ?_
  refine lv_aload_n hx hb dL_law_265 rfl (lv_at hl 0 rfl) ?_
  refine lv_iload_n hx hb dL_law_266 rfl (lv_at hl 3 rfl) ?_
  refine lv_bipush (v := 6) hx hb dL_law_267 (by decide) ?_
  refine lv_iadd hx hb dL_law_269 ?_
  refine ck_sld hx hb hX hbl hbA hS hL (k := i + 6) (nI_add i 6) (by omega) dL_law_270 ?_
  refine lv_i2l (v := (Int32.toInt64 (xs (i + 6)))) hx hb dL_law_271 rfl ?_
  refine lv_bipush (v := 32) hx hb dL_law_272 (by decide) ?_
  refine lv_lshl (v := ((Int32.toInt64 (xs (i + 6))) <<< (Int32.toInt64 32 &&& 63))) hx hb dL_law_274 rfl ?_
  refine lv_aload_n hx hb dL_law_275 rfl (lv_at hl 0 rfl) ?_
  refine lv_iload_n hx hb dL_law_276 rfl (lv_at hl 3 rfl) ?_
  refine lv_bipush (v := 7) hx hb dL_law_277 (by decide) ?_
  refine lv_iadd hx hb dL_law_279 ?_
  refine ck_sld hx hb hX hbl hbA hS hL (k := i + 7) (nI_add i 7) (by omega) dL_law_280 ?_
  refine lv_i2l (v := (Int32.toInt64 (xs (i + 7)))) hx hb dL_law_281 rfl ?_
  refine lv_ldc2 (v := 4294967295) hx hb hown (htl (.constantLong RL 13 4294967295) (by decide +kernel)) dL_law_282 ?_
  refine lv_land hx hb dL_law_285 ?_
  refine lv_lor hx hb dL_law_286 ?_
  have hPx := hP.sub (ws' := [(h, .inr (0, [.ref a1, .ref a2, .int hd, .long ow, .long off, .long go])), (a1, .inl (c1, 24, .inr (.inl lo))), (a2, .inl (c2, 24, .inr (.inl hi)))]) [0, 1, 2] rfl
  have hKx := hK.sub (tys' := xT c1 c2) [0, 1] rfl
  have hDc := hD.sub (ws' := [(h, .inr (0, [.ref a1, .ref a2, .int hd, .long ow, .long off, .long go])), (a1, .inl (c1, 24, .inr (.inl lo))), (a2, .inl (c2, 24, .inr (.inl hi)))]) [0, 1, 2] (by decide) rfl
  refine ck_wV (As := [.int (xs (i + 1)), .long (ck_L (xs (i + 2)) (xs (i + 3))), .long (ck_L (xs (i + 4)) (xs (i + 5))), .long (ck_L (xs (i + 6)) (xs (i + 7)))]) (rest := []) (w := [(h, .inr (0, [.ref a1, .ref a2, .int hd, .long ow, .long off, .long go])), (a1, .inl (c1, 24, .inr (.inl lo))), (a2, .inl (c2, 24, .inr (.inl hi))), (g, .inr (1, [.ref b0, .ref b1, .ref b2, .long ow, .long off, .long go])), (b0, .inl (d0, 24, .inl (ck_bz (bt hd)))), (b1, .inl (d1, 24, .inr (.inl lo))), (b2, .inl (d2, 24, .inr (.inl hi)))]) (wc := [(h, .inr (0, [.ref a1, .ref a2, .int hd, .long ow, .long off, .long go])), (a1, .inl (c1, 24, .inr (.inl lo))), (a2, .inl (c2, 24, .inr (.inl hi)))]) (wr := [(g, .inr (1, [.ref b0, .ref b1, .ref b2, .long ow, .long off, .long go])), (b0, .inl (d0, 24, .inl (ck_bz (bt hd)))), (b1, .inl (d1, 24, .inr (.inl lo))), (b2, .inl (d2, 24, .inr (.inl hi)))]) (w1 := [(h, .inr (0, [.ref a1, .ref a2, .int (ck_uH (ck_exk (xs (i + 1)) (ck_L (xs (i + 2)) (xs (i + 3))) (ck_L (xs (i + 4)) (xs (i + 5))) (ck_L (xs (i + 6)) (xs (i + 7)))) hd (xs (i + 1))), .long ow, .long off, .long go])), (a1, .inl (c1, 24, .inr (.inl (ck_uL (ck_exk (xs (i + 1)) (ck_L (xs (i + 2)) (xs (i + 3))) (ck_L (xs (i + 4)) (xs (i + 5))) (ck_L (xs (i + 6)) (xs (i + 7)))) lo (xs (i + 1)) ((ck_L (xs (i + 4)) (xs (i + 5))) - (ck_L (xs (i + 6)) (xs (i + 7)))))))), (a2, .inl (c2, 24, .inr (.inl (ck_uL (ck_exk (xs (i + 1)) (ck_L (xs (i + 2)) (xs (i + 3))) (ck_L (xs (i + 4)) (xs (i + 5))) (ck_L (xs (i + 6)) (xs (i + 7)))) hi (xs (i + 1)) ((ck_L (xs (i + 4)) (xs (i + 5))) - (ck_L (xs (i + 2)) (xs (i + 3))))))))]) (v := some (.long (ck_exv (xs (i + 1)) (ck_L (xs (i + 2)) (xs (i + 3))) (ck_L (xs (i + 4)) (xs (i + 5))) (ck_L (xs (i + 6)) (xs (i + 7)))))) ⟨hx, hb, hml, hown, htl⟩ (c_X0_exchange l D h a1 a2 c1 c2 lo hi hd ow off go _ (xs (i + 1)) (ck_L (xs (i + 2)) (xs (i + 3))) (ck_L (xs (i + 4)) (xs (i + 5))) (ck_L (xs (i + 6)) (xs (i + 7)))) (cwV 4 htl gL_law_X0_exchange rfl rfl rfl (by decide +kernel) ⟨Nat.le_of_ble_eq_true rfl, Nat.le_of_ble_eq_true rfl⟩) hP hD hS hA hKx [0, 1, 2] [3, 4, 5, 6] rfl hPx hDc rfl (by decide) (by decide) (va_recv hKx hPx (ci := 0) (q0 := 0) rfl rfl) rfl hl.1 rfl (Nat.le_of_ble_eq_true rfl) dL_law_287 ⟨Nat.le_of_ble_eq_true rfl, Nat.le_of_ble_eq_true rfl⟩ (fun H locs hP hD hS => ?_)
  have hP : va_P D vwCl [(g, .inr (1, [.ref b0, .ref b1, .ref b2, .long ow, .long off, .long go])), (b0, .inl (d0, 24, .inl (ck_bz (bt hd)))), (b1, .inl (d1, 24, .inr (.inl lo))), (b2, .inl (d2, 24, .inr (.inl hi))), (h, .inr (0, [.ref a1, .ref a2, .int (ck_uH (ck_exk (xs (i + 1)) (ck_L (xs (i + 2)) (xs (i + 3))) (ck_L (xs (i + 4)) (xs (i + 5))) (ck_L (xs (i + 6)) (xs (i + 7)))) hd (xs (i + 1))), .long ow, .long off, .long go])), (a1, .inl (c1, 24, .inr (.inl (ck_uL (ck_exk (xs (i + 1)) (ck_L (xs (i + 2)) (xs (i + 3))) (ck_L (xs (i + 4)) (xs (i + 5))) (ck_L (xs (i + 6)) (xs (i + 7)))) lo (xs (i + 1)) ((ck_L (xs (i + 4)) (xs (i + 5))) - (ck_L (xs (i + 6)) (xs (i + 7)))))))), (a2, .inl (c2, 24, .inr (.inl (ck_uL (ck_exk (xs (i + 1)) (ck_L (xs (i + 2)) (xs (i + 3))) (ck_L (xs (i + 4)) (xs (i + 5))) (ck_L (xs (i + 6)) (xs (i + 7)))) hi (xs (i + 1)) ((ck_L (xs (i + 4)) (xs (i + 5))) - (ck_L (xs (i + 2)) (xs (i + 3))))))))] H := hP
  have hD : va_D (fun q : Nat => s.heap.size ≤ q) [(g, .inr (1, [.ref b0, .ref b1, .ref b2, .long ow, .long off, .long go])), (b0, .inl (d0, 24, .inl (ck_bz (bt hd)))), (b1, .inl (d1, 24, .inr (.inl lo))), (b2, .inl (d2, 24, .inr (.inl hi))), (h, .inr (0, [.ref a1, .ref a2, .int (ck_uH (ck_exk (xs (i + 1)) (ck_L (xs (i + 2)) (xs (i + 3))) (ck_L (xs (i + 4)) (xs (i + 5))) (ck_L (xs (i + 6)) (xs (i + 7)))) hd (xs (i + 1))), .long ow, .long off, .long go])), (a1, .inl (c1, 24, .inr (.inl (ck_uL (ck_exk (xs (i + 1)) (ck_L (xs (i + 2)) (xs (i + 3))) (ck_L (xs (i + 4)) (xs (i + 5))) (ck_L (xs (i + 6)) (xs (i + 7)))) lo (xs (i + 1)) ((ck_L (xs (i + 4)) (xs (i + 5))) - (ck_L (xs (i + 6)) (xs (i + 7)))))))), (a2, .inl (c2, 24, .inr (.inl (ck_uL (ck_exk (xs (i + 1)) (ck_L (xs (i + 2)) (xs (i + 3))) (ck_L (xs (i + 4)) (xs (i + 5))) (ck_L (xs (i + 6)) (xs (i + 7)))) hi (xs (i + 1)) ((ck_L (xs (i + 4)) (xs (i + 5))) - (ck_L (xs (i + 2)) (xs (i + 3))))))))] := hD
  refine lv_aload_n hx hb dL_law_290 rfl (lv_at hl 2 rfl) ?_
  refine lv_aload_n hx hb dL_law_291 rfl (lv_at hl 0 rfl) ?_
  refine lv_iload_n hx hb dL_law_292 rfl (lv_at hl 3 rfl) ?_
  refine lv_iconst (v := 1) hx hb dL_law_293 (by decide) ?_
  refine lv_iadd hx hb dL_law_294 ?_
  refine ck_sld hx hb hX hbl hbA hS hL (k := i + 1) (nI_add i 1) (by omega) dL_law_295 ?_
  refine lv_aload_n hx hb dL_law_296 rfl (lv_at hl 0 rfl) ?_
  refine lv_iload_n hx hb dL_law_297 rfl (lv_at hl 3 rfl) ?_
  refine lv_iconst (v := 2) hx hb dL_law_298 (by decide) ?_
  refine lv_iadd hx hb dL_law_299 ?_
  refine ck_sld hx hb hX hbl hbA hS hL (k := i + 2) (nI_add i 2) (by omega) dL_law_300 ?_
  refine lv_i2l (v := (Int32.toInt64 (xs (i + 2)))) hx hb dL_law_301 rfl ?_
  refine lv_bipush (v := 32) hx hb dL_law_302 (by decide) ?_
  refine lv_lshl (v := ((Int32.toInt64 (xs (i + 2))) <<< (Int32.toInt64 32 &&& 63))) hx hb dL_law_304 rfl ?_
  refine lv_aload_n hx hb dL_law_305 rfl (lv_at hl 0 rfl) ?_
  refine lv_iload_n hx hb dL_law_306 rfl (lv_at hl 3 rfl) ?_
  refine lv_iconst (v := 3) hx hb dL_law_307 (by decide) ?_
  refine lv_iadd hx hb dL_law_308 ?_
  refine ck_sld hx hb hX hbl hbA hS hL (k := i + 3) (nI_add i 3) (by omega) dL_law_309 ?_
  refine lv_i2l (v := (Int32.toInt64 (xs (i + 3)))) hx hb dL_law_310 rfl ?_
  refine lv_ldc2 (v := 4294967295) hx hb hown (htl (.constantLong RL 13 4294967295) (by decide +kernel)) dL_law_311 ?_
  refine lv_land hx hb dL_law_314 ?_
  refine lv_lor hx hb dL_law_315 ?_
  refine lv_aload_n hx hb dL_law_316 rfl (lv_at hl 0 rfl) ?_
  refine lv_iload_n hx hb dL_law_317 rfl (lv_at hl 3 rfl) ?_
  refine lv_iconst (v := 4) hx hb dL_law_318 (by decide) ?_
  refine lv_iadd hx hb dL_law_319 ?_
  refine ck_sld hx hb hX hbl hbA hS hL (k := i + 4) (nI_add i 4) (by omega) dL_law_320 ?_
  refine lv_i2l (v := (Int32.toInt64 (xs (i + 4)))) hx hb dL_law_321 rfl ?_
  refine lv_bipush (v := 32) hx hb dL_law_322 (by decide) ?_
  refine lv_lshl (v := ((Int32.toInt64 (xs (i + 4))) <<< (Int32.toInt64 32 &&& 63))) hx hb dL_law_324 rfl ?_
  refine lv_aload_n hx hb dL_law_325 rfl (lv_at hl 0 rfl) ?_
  refine lv_iload_n hx hb dL_law_326 rfl (lv_at hl 3 rfl) ?_
  refine lv_iconst (v := 5) hx hb dL_law_327 (by decide) ?_
  refine lv_iadd hx hb dL_law_328 ?_
  refine ck_sld hx hb hX hbl hbA hS hL (k := i + 5) (nI_add i 5) (by omega) dL_law_329 ?_
  refine lv_i2l (v := (Int32.toInt64 (xs (i + 5)))) hx hb dL_law_330 rfl ?_
  refine lv_ldc2 (v := 4294967295) hx hb hown (htl (.constantLong RL 13 4294967295) (by decide +kernel)) dL_law_331 ?_
  refine lv_land hx hb dL_law_334 ?_
  refine lv_lor hx hb dL_law_335 ?_
  refine lv_aload_n hx hb dL_law_336 rfl (lv_at hl 0 rfl) ?_
  refine lv_iload_n hx hb dL_law_337 rfl (lv_at hl 3 rfl) ?_
  refine lv_bipush (v := 6) hx hb dL_law_338 (by decide) ?_
  refine lv_iadd hx hb dL_law_340 ?_
  refine ck_sld hx hb hX hbl hbA hS hL (k := i + 6) (nI_add i 6) (by omega) dL_law_341 ?_
  refine lv_i2l (v := (Int32.toInt64 (xs (i + 6)))) hx hb dL_law_342 rfl ?_
  refine lv_bipush (v := 32) hx hb dL_law_343 (by decide) ?_
  refine lv_lshl (v := ((Int32.toInt64 (xs (i + 6))) <<< (Int32.toInt64 32 &&& 63))) hx hb dL_law_345 rfl ?_
  refine lv_aload_n hx hb dL_law_346 rfl (lv_at hl 0 rfl) ?_
  refine lv_iload_n hx hb dL_law_347 rfl (lv_at hl 3 rfl) ?_
  refine lv_bipush (v := 7) hx hb dL_law_348 (by decide) ?_
  refine lv_iadd hx hb dL_law_350 ?_
  refine ck_sld hx hb hX hbl hbA hS hL (k := i + 7) (nI_add i 7) (by omega) dL_law_351 ?_
  refine lv_i2l (v := (Int32.toInt64 (xs (i + 7)))) hx hb dL_law_352 rfl ?_
  refine lv_ldc2 (v := 4294967295) hx hb hown (htl (.constantLong RL 13 4294967295) (by decide +kernel)) dL_law_353 ?_
  refine lv_land hx hb dL_law_356 ?_
  refine lv_lor hx hb dL_law_357 ?_
  have hPm := hP.sub (ws' := [(g, .inr (1, [.ref b0, .ref b1, .ref b2, .long ow, .long off, .long go])), (b0, .inl (d0, 24, .inl (ck_bz (bt hd)))), (b1, .inl (d1, 24, .inr (.inl lo))), (b2, .inl (d2, 24, .inr (.inl hi)))]) [0, 1, 2, 3] rfl
  have hKm := hK.sub (tys' := mT d0 d1 d2) [2, 3, 4] rfl
  have hDc := hD.sub (ws' := [(g, .inr (1, [.ref b0, .ref b1, .ref b2, .long ow, .long off, .long go])), (b0, .inl (d0, 24, .inl (ck_bz (bt hd)))), (b1, .inl (d1, 24, .inr (.inl lo))), (b2, .inl (d2, 24, .inr (.inl hi)))]) [0, 1, 2, 3] (by decide) rfl
  refine ck_wV (As := [.int (xs (i + 1)), .long (ck_L (xs (i + 2)) (xs (i + 3))), .long (ck_L (xs (i + 4)) (xs (i + 5))), .long (ck_L (xs (i + 6)) (xs (i + 7)))]) (rest := [.long (ck_exv (xs (i + 1)) (ck_L (xs (i + 2)) (xs (i + 3))) (ck_L (xs (i + 4)) (xs (i + 5))) (ck_L (xs (i + 6)) (xs (i + 7))))]) (w := [(g, .inr (1, [.ref b0, .ref b1, .ref b2, .long ow, .long off, .long go])), (b0, .inl (d0, 24, .inl (ck_bz (bt hd)))), (b1, .inl (d1, 24, .inr (.inl lo))), (b2, .inl (d2, 24, .inr (.inl hi))), (h, .inr (0, [.ref a1, .ref a2, .int (ck_uH (ck_exk (xs (i + 1)) (ck_L (xs (i + 2)) (xs (i + 3))) (ck_L (xs (i + 4)) (xs (i + 5))) (ck_L (xs (i + 6)) (xs (i + 7)))) hd (xs (i + 1))), .long ow, .long off, .long go])), (a1, .inl (c1, 24, .inr (.inl (ck_uL (ck_exk (xs (i + 1)) (ck_L (xs (i + 2)) (xs (i + 3))) (ck_L (xs (i + 4)) (xs (i + 5))) (ck_L (xs (i + 6)) (xs (i + 7)))) lo (xs (i + 1)) ((ck_L (xs (i + 4)) (xs (i + 5))) - (ck_L (xs (i + 6)) (xs (i + 7)))))))), (a2, .inl (c2, 24, .inr (.inl (ck_uL (ck_exk (xs (i + 1)) (ck_L (xs (i + 2)) (xs (i + 3))) (ck_L (xs (i + 4)) (xs (i + 5))) (ck_L (xs (i + 6)) (xs (i + 7)))) hi (xs (i + 1)) ((ck_L (xs (i + 4)) (xs (i + 5))) - (ck_L (xs (i + 2)) (xs (i + 3))))))))]) (wc := [(g, .inr (1, [.ref b0, .ref b1, .ref b2, .long ow, .long off, .long go])), (b0, .inl (d0, 24, .inl (ck_bz (bt hd)))), (b1, .inl (d1, 24, .inr (.inl lo))), (b2, .inl (d2, 24, .inr (.inl hi)))]) (wr := [(h, .inr (0, [.ref a1, .ref a2, .int (ck_uH (ck_exk (xs (i + 1)) (ck_L (xs (i + 2)) (xs (i + 3))) (ck_L (xs (i + 4)) (xs (i + 5))) (ck_L (xs (i + 6)) (xs (i + 7)))) hd (xs (i + 1))), .long ow, .long off, .long go])), (a1, .inl (c1, 24, .inr (.inl (ck_uL (ck_exk (xs (i + 1)) (ck_L (xs (i + 2)) (xs (i + 3))) (ck_L (xs (i + 4)) (xs (i + 5))) (ck_L (xs (i + 6)) (xs (i + 7)))) lo (xs (i + 1)) ((ck_L (xs (i + 4)) (xs (i + 5))) - (ck_L (xs (i + 6)) (xs (i + 7)))))))), (a2, .inl (c2, 24, .inr (.inl (ck_uL (ck_exk (xs (i + 1)) (ck_L (xs (i + 2)) (xs (i + 3))) (ck_L (xs (i + 4)) (xs (i + 5))) (ck_L (xs (i + 6)) (xs (i + 7)))) hi (xs (i + 1)) ((ck_L (xs (i + 4)) (xs (i + 5))) - (ck_L (xs (i + 2)) (xs (i + 3))))))))]) (w1 := [(g, .inr (1, [.ref b0, .ref b1, .ref b2, .long ow, .long off, .long go])), (b0, .inl (d0, 24, .inl (ck_bz (bt (ck_uH (ck_exk (xs (i + 1)) (ck_L (xs (i + 2)) (xs (i + 3))) (ck_L (xs (i + 4)) (xs (i + 5))) (ck_L (xs (i + 6)) (xs (i + 7)))) hd (xs (i + 1))))))), (b1, .inl (d1, 24, .inr (.inl (ck_uL (ck_exk (xs (i + 1)) (ck_L (xs (i + 2)) (xs (i + 3))) (ck_L (xs (i + 4)) (xs (i + 5))) (ck_L (xs (i + 6)) (xs (i + 7)))) lo (xs (i + 1)) ((ck_L (xs (i + 4)) (xs (i + 5))) - (ck_L (xs (i + 6)) (xs (i + 7)))))))), (b2, .inl (d2, 24, .inr (.inl (ck_uL (ck_exk (xs (i + 1)) (ck_L (xs (i + 2)) (xs (i + 3))) (ck_L (xs (i + 4)) (xs (i + 5))) (ck_L (xs (i + 6)) (xs (i + 7)))) hi (xs (i + 1)) ((ck_L (xs (i + 4)) (xs (i + 5))) - (ck_L (xs (i + 2)) (xs (i + 3))))))))]) (v := some (.long (ck_exv (xs (i + 1)) (ck_L (xs (i + 2)) (xs (i + 3))) (ck_L (xs (i + 4)) (xs (i + 5))) (ck_L (xs (i + 6)) (xs (i + 7)))))) ⟨hx, hb, hml, hown, htl⟩ (c_X1_exchange l D g b0 b1 b2 d0 d1 d2 lo hi hd ow off go inv _ (xs (i + 1)) (ck_L (xs (i + 2)) (xs (i + 3))) (ck_L (xs (i + 4)) (xs (i + 5))) (ck_L (xs (i + 6)) (xs (i + 7)))) (cwV 4 htl gL_law_X1_exchange rfl rfl rfl (by decide +kernel) ⟨Nat.le_of_ble_eq_true rfl, Nat.le_of_ble_eq_true rfl⟩) hP hD hS hA hKm [0, 1, 2, 3] [4, 5, 6] rfl hPm hDc rfl (by decide) (by decide) (va_recv hKm hPm (ci := 1) (q0 := 0) rfl rfl) rfl hl.1 rfl (Nat.le_of_ble_eq_true rfl) dL_law_358 ⟨Nat.le_of_ble_eq_true rfl, Nat.le_of_ble_eq_true rfl⟩ (fun H locs hP hD hS => ?_)
  have hP : va_P D vwCl [(h, .inr (0, [.ref a1, .ref a2, .int (ck_uH (ck_exk (xs (i + 1)) (ck_L (xs (i + 2)) (xs (i + 3))) (ck_L (xs (i + 4)) (xs (i + 5))) (ck_L (xs (i + 6)) (xs (i + 7)))) hd (xs (i + 1))), .long ow, .long off, .long go])), (a1, .inl (c1, 24, .inr (.inl (ck_uL (ck_exk (xs (i + 1)) (ck_L (xs (i + 2)) (xs (i + 3))) (ck_L (xs (i + 4)) (xs (i + 5))) (ck_L (xs (i + 6)) (xs (i + 7)))) lo (xs (i + 1)) ((ck_L (xs (i + 4)) (xs (i + 5))) - (ck_L (xs (i + 6)) (xs (i + 7)))))))), (a2, .inl (c2, 24, .inr (.inl (ck_uL (ck_exk (xs (i + 1)) (ck_L (xs (i + 2)) (xs (i + 3))) (ck_L (xs (i + 4)) (xs (i + 5))) (ck_L (xs (i + 6)) (xs (i + 7)))) hi (xs (i + 1)) ((ck_L (xs (i + 4)) (xs (i + 5))) - (ck_L (xs (i + 2)) (xs (i + 3)))))))), (g, .inr (1, [.ref b0, .ref b1, .ref b2, .long ow, .long off, .long go])), (b0, .inl (d0, 24, .inl (ck_bz (bt (ck_uH (ck_exk (xs (i + 1)) (ck_L (xs (i + 2)) (xs (i + 3))) (ck_L (xs (i + 4)) (xs (i + 5))) (ck_L (xs (i + 6)) (xs (i + 7)))) hd (xs (i + 1))))))), (b1, .inl (d1, 24, .inr (.inl (ck_uL (ck_exk (xs (i + 1)) (ck_L (xs (i + 2)) (xs (i + 3))) (ck_L (xs (i + 4)) (xs (i + 5))) (ck_L (xs (i + 6)) (xs (i + 7)))) lo (xs (i + 1)) ((ck_L (xs (i + 4)) (xs (i + 5))) - (ck_L (xs (i + 6)) (xs (i + 7)))))))), (b2, .inl (d2, 24, .inr (.inl (ck_uL (ck_exk (xs (i + 1)) (ck_L (xs (i + 2)) (xs (i + 3))) (ck_L (xs (i + 4)) (xs (i + 5))) (ck_L (xs (i + 6)) (xs (i + 7)))) hi (xs (i + 1)) ((ck_L (xs (i + 4)) (xs (i + 5))) - (ck_L (xs (i + 2)) (xs (i + 3))))))))] H := hP
  have hD : va_D (fun q : Nat => s.heap.size ≤ q) [(h, .inr (0, [.ref a1, .ref a2, .int (ck_uH (ck_exk (xs (i + 1)) (ck_L (xs (i + 2)) (xs (i + 3))) (ck_L (xs (i + 4)) (xs (i + 5))) (ck_L (xs (i + 6)) (xs (i + 7)))) hd (xs (i + 1))), .long ow, .long off, .long go])), (a1, .inl (c1, 24, .inr (.inl (ck_uL (ck_exk (xs (i + 1)) (ck_L (xs (i + 2)) (xs (i + 3))) (ck_L (xs (i + 4)) (xs (i + 5))) (ck_L (xs (i + 6)) (xs (i + 7)))) lo (xs (i + 1)) ((ck_L (xs (i + 4)) (xs (i + 5))) - (ck_L (xs (i + 6)) (xs (i + 7)))))))), (a2, .inl (c2, 24, .inr (.inl (ck_uL (ck_exk (xs (i + 1)) (ck_L (xs (i + 2)) (xs (i + 3))) (ck_L (xs (i + 4)) (xs (i + 5))) (ck_L (xs (i + 6)) (xs (i + 7)))) hi (xs (i + 1)) ((ck_L (xs (i + 4)) (xs (i + 5))) - (ck_L (xs (i + 2)) (xs (i + 3)))))))), (g, .inr (1, [.ref b0, .ref b1, .ref b2, .long ow, .long off, .long go])), (b0, .inl (d0, 24, .inl (ck_bz (bt (ck_uH (ck_exk (xs (i + 1)) (ck_L (xs (i + 2)) (xs (i + 3))) (ck_L (xs (i + 4)) (xs (i + 5))) (ck_L (xs (i + 6)) (xs (i + 7)))) hd (xs (i + 1))))))), (b1, .inl (d1, 24, .inr (.inl (ck_uL (ck_exk (xs (i + 1)) (ck_L (xs (i + 2)) (xs (i + 3))) (ck_L (xs (i + 4)) (xs (i + 5))) (ck_L (xs (i + 6)) (xs (i + 7)))) lo (xs (i + 1)) ((ck_L (xs (i + 4)) (xs (i + 5))) - (ck_L (xs (i + 6)) (xs (i + 7)))))))), (b2, .inl (d2, 24, .inr (.inl (ck_uL (ck_exk (xs (i + 1)) (ck_L (xs (i + 2)) (xs (i + 3))) (ck_L (xs (i + 4)) (xs (i + 5))) (ck_L (xs (i + 6)) (xs (i + 7)))) hi (xs (i + 1)) ((ck_L (xs (i + 4)) (xs (i + 5))) - (ck_L (xs (i + 2)) (xs (i + 3))))))))] := hD
  refine W.lcmp hx hb dL_law_361 ?_
  refine lv_if_eq (tgt := 788) hx hb dL_law_362 (by decide) (fun _ => ?_) (fun cq => absurd ((lg_cmp_eq _ _).mpr rfl) cq)
  exact tail (ck_uL (ck_exk (xs (i + 1)) (ck_L (xs (i + 2)) (xs (i + 3))) (ck_L (xs (i + 4)) (xs (i + 5))) (ck_L (xs (i + 6)) (xs (i + 7)))) lo (xs (i + 1)) ((ck_L (xs (i + 4)) (xs (i + 5))) - (ck_L (xs (i + 6)) (xs (i + 7))))) (ck_uL (ck_exk (xs (i + 1)) (ck_L (xs (i + 2)) (xs (i + 3))) (ck_L (xs (i + 4)) (xs (i + 5))) (ck_L (xs (i + 6)) (xs (i + 7)))) hi (xs (i + 1)) ((ck_L (xs (i + 4)) (xs (i + 5))) - (ck_L (xs (i + 2)) (xs (i + 3))))) (ck_uH (ck_exk (xs (i + 1)) (ck_L (xs (i + 2)) (xs (i + 3))) (ck_L (xs (i + 4)) (xs (i + 5))) (ck_L (xs (i + 6)) (xs (i + 7)))) hd (xs (i + 1))) ow off go (ck_inv_ex inv (xs (i + 1)) (ck_L (xs (i + 2)) (xs (i + 3))) (ck_L (xs (i + 4)) (xs (i + 5))) (ck_L (xs (i + 6)) (xs (i + 7)))) (how) _ _ hP hD hS ls hl

set_option maxHeartbeats 4000000 in
set_option maxRecDepth 100000 in
theorem law_c2 {p : Program} {e : Env} {s : State} {m : MethodId} {below : List Frame} {meth : Method} {c : Code} (l : Launch) {b L : Nat} {xs : Nat → Int32} (hL : L ≤ 4096) (C0 : lw_At p s m meth c b L xs) (D : va_G) (h a1 a2 g b0 b1 b2 : Nat) (c1 c2 d0 d1 d2 : ClassId) (hK : va_K D vwCl [(c1, .long), (c2, .long), (d0, .boolean), (d1, .long), (d2, .long)] s) (i : Nat) (hi8 : i + 8 ≤ L) (tail : ∀ (lo hi : Nat → Int64) (hd : Int32) (ow off go : Int64), ck_inv hd lo hi → 0 ≤ ow → ∀ (H : Heap) (locs : List Loc), va_P D vwCl [(h, .inr (0, [.ref a1, .ref a2, .int hd, .long ow, .long off, .long go])), (a1, .inl (c1, 24, .inr (.inl lo))), (a2, .inl (c2, 24, .inr (.inl hi))), (g, .inr (1, [.ref b0, .ref b1, .ref b2, .long ow, .long off, .long go])), (b0, .inl (d0, 24, .inl (ck_bz (bt hd)))), (b1, .inl (d1, 24, .inr (.inl lo))), (b2, .inl (d2, 24, .inr (.inl hi)))] H → va_D (fun q : Nat => s.heap.size ≤ q) [(h, .inr (0, [.ref a1, .ref a2, .int hd, .long ow, .long off, .long go])), (a1, .inl (c1, 24, .inr (.inl lo))), (a2, .inl (c2, 24, .inr (.inl hi))), (g, .inr (1, [.ref b0, .ref b1, .ref b2, .long ow, .long off, .long go])), (b0, .inl (d0, 24, .inl (ck_bz (bt hd)))), (b1, .inl (d1, 24, .inr (.inl lo))), (b2, .inl (d2, 24, .inr (.inl hi)))] → va_S (fun q : Nat => s.heap.size ≤ q) s.heap H locs → ∀ ls, lv_has ls 4 [(0, .ref b), (1, .ref h), (2, .ref g), (3, .int (nI i))] → W p l e room_1 s m #[Value.ref b] below meth c H locs 7 132 (lw_Z below #[Value.ref b] s) (F0 m 788 ls [])) : ∀ (lo hi : Nat → Int64) (hd : Int32) (ow off go : Int64), ck_inv hd lo hi → 0 ≤ ow → ∀ (H : Heap) (locs : List Loc), va_P D vwCl [(h, .inr (0, [.ref a1, .ref a2, .int hd, .long ow, .long off, .long go])), (a1, .inl (c1, 24, .inr (.inl lo))), (a2, .inl (c2, 24, .inr (.inl hi))), (g, .inr (1, [.ref b0, .ref b1, .ref b2, .long ow, .long off, .long go])), (b0, .inl (d0, 24, .inl (ck_bz (bt hd)))), (b1, .inl (d1, 24, .inr (.inl lo))), (b2, .inl (d2, 24, .inr (.inl hi)))] H → va_D (fun q : Nat => s.heap.size ≤ q) [(h, .inr (0, [.ref a1, .ref a2, .int hd, .long ow, .long off, .long go])), (a1, .inl (c1, 24, .inr (.inl lo))), (a2, .inl (c2, 24, .inr (.inl hi))), (g, .inr (1, [.ref b0, .ref b1, .ref b2, .long ow, .long off, .long go])), (b0, .inl (d0, 24, .inl (ck_bz (bt hd)))), (b1, .inl (d1, 24, .inr (.inl lo))), (b2, .inl (d2, 24, .inr (.inl hi)))] → va_S (fun q : Nat => s.heap.size ≤ q) s.heap H locs → ∀ ls, lv_has ls 4 [(0, .ref b), (1, .ref h), (2, .ref g), (3, .int (nI i))] → W p l e room_1 s m #[Value.ref b] below meth c H locs 7 132 (lw_Z below #[Value.ref b] s) (F0 m 367 ls []) := by
  obtain ⟨hx, hb, hr, hml, hown0, hts, hX, hbl, hlocks, hgv⟩ := id C0
  have hown : s.vm.findClass RL = some m.cls := hown0
  have htl : ∀ w ∈ wsL_law, w.before #[Value.ref b] s = true := fun w hw => hts w (wsL_law_in w hw)
  have hA : ∀ q : Nat, s.heap.size ≤ q → (fun q : Nat => s.heap.size ≤ q) q := fun _ h => h
  have hbA : ¬ (fun q : Nat => s.heap.size ≤ q) b := Nat.not_le.mpr hbl
  intro lo hi hd ow off go inv how H locs hP hD hS ls hl
  refine lv_aload_n hx hb dL_law_367 rfl (lv_at hl 1 rfl) ?_
  refine lv_aload_n hx hb dL_law_368 rfl (lv_at hl 0 rfl) ?_
  refine lv_iload_n hx hb dL_law_369 rfl (lv_at hl 3 rfl) ?_
  refine lv_iconst (v := 1) hx hb dL_law_370 (by decide) ?_
  refine lv_iadd hx hb dL_law_371 ?_
  refine ck_sld hx hb hX hbl hbA hS hL (k := i + 1) (nI_add i 1) (by omega) dL_law_372 ?_
  have hPx := hP.sub (ws' := [(h, .inr (0, [.ref a1, .ref a2, .int hd, .long ow, .long off, .long go])), (a1, .inl (c1, 24, .inr (.inl lo))), (a2, .inl (c2, 24, .inr (.inl hi)))]) [0, 1, 2] rfl
  have hKx := hK.sub (tys' := xT c1 c2) [0, 1] rfl
  have hDc := hD.sub (ws' := [(h, .inr (0, [.ref a1, .ref a2, .int hd, .long ow, .long off, .long go])), (a1, .inl (c1, 24, .inr (.inl lo))), (a2, .inl (c2, 24, .inr (.inl hi)))]) [0, 1, 2] (by decide) rfl
  refine ck_wV (As := [.int (xs (i + 1))]) (rest := []) (w := [(h, .inr (0, [.ref a1, .ref a2, .int hd, .long ow, .long off, .long go])), (a1, .inl (c1, 24, .inr (.inl lo))), (a2, .inl (c2, 24, .inr (.inl hi))), (g, .inr (1, [.ref b0, .ref b1, .ref b2, .long ow, .long off, .long go])), (b0, .inl (d0, 24, .inl (ck_bz (bt hd)))), (b1, .inl (d1, 24, .inr (.inl lo))), (b2, .inl (d2, 24, .inr (.inl hi)))]) (wc := [(h, .inr (0, [.ref a1, .ref a2, .int hd, .long ow, .long off, .long go])), (a1, .inl (c1, 24, .inr (.inl lo))), (a2, .inl (c2, 24, .inr (.inl hi)))]) (wr := [(g, .inr (1, [.ref b0, .ref b1, .ref b2, .long ow, .long off, .long go])), (b0, .inl (d0, 24, .inl (ck_bz (bt hd)))), (b1, .inl (d1, 24, .inr (.inl lo))), (b2, .inl (d2, 24, .inr (.inl hi)))]) (w1 := [(h, .inr (0, [.ref a1, .ref a2, .int (ck_dH hd (xs (i + 1))), .long ow, .long off, .long go])), (a1, .inl (c1, 24, .inr (.inl lo))), (a2, .inl (c2, 24, .inr (.inl hi)))]) (v := some (.int (ck_b (ck_in hd (xs (i + 1)))))) ⟨hx, hb, hml, hown, htl⟩ (c_X0_drop l D h a1 a2 c1 c2 lo hi hd ow off go _ (xs (i + 1))) (cwV 1 htl gL_law_X0_drop rfl rfl rfl (by decide +kernel) ⟨Nat.le_of_ble_eq_true rfl, Nat.le_of_ble_eq_true rfl⟩) hP hD hS hA hKx [0, 1, 2] [3, 4, 5, 6] rfl hPx hDc rfl (by decide) (by decide) (va_recv hKx hPx (ci := 0) (q0 := 0) rfl rfl) rfl hl.1 rfl (Nat.le_of_ble_eq_true rfl) dL_law_373 ⟨Nat.le_of_ble_eq_true rfl, Nat.le_of_ble_eq_true rfl⟩ (fun H locs hP hD hS => ?_)
  have hP : va_P D vwCl [(g, .inr (1, [.ref b0, .ref b1, .ref b2, .long ow, .long off, .long go])), (b0, .inl (d0, 24, .inl (ck_bz (bt hd)))), (b1, .inl (d1, 24, .inr (.inl lo))), (b2, .inl (d2, 24, .inr (.inl hi))), (h, .inr (0, [.ref a1, .ref a2, .int (ck_dH hd (xs (i + 1))), .long ow, .long off, .long go])), (a1, .inl (c1, 24, .inr (.inl lo))), (a2, .inl (c2, 24, .inr (.inl hi)))] H := hP
  have hD : va_D (fun q : Nat => s.heap.size ≤ q) [(g, .inr (1, [.ref b0, .ref b1, .ref b2, .long ow, .long off, .long go])), (b0, .inl (d0, 24, .inl (ck_bz (bt hd)))), (b1, .inl (d1, 24, .inr (.inl lo))), (b2, .inl (d2, 24, .inr (.inl hi))), (h, .inr (0, [.ref a1, .ref a2, .int (ck_dH hd (xs (i + 1))), .long ow, .long off, .long go])), (a1, .inl (c1, 24, .inr (.inl lo))), (a2, .inl (c2, 24, .inr (.inl hi)))] := hD
  refine lv_aload_n hx hb dL_law_376 rfl (lv_at hl 2 rfl) ?_
  refine lv_aload_n hx hb dL_law_377 rfl (lv_at hl 0 rfl) ?_
  refine lv_iload_n hx hb dL_law_378 rfl (lv_at hl 3 rfl) ?_
  refine lv_iconst (v := 1) hx hb dL_law_379 (by decide) ?_
  refine lv_iadd hx hb dL_law_380 ?_
  refine ck_sld hx hb hX hbl hbA hS hL (k := i + 1) (nI_add i 1) (by omega) dL_law_381 ?_
  have hPm := hP.sub (ws' := [(g, .inr (1, [.ref b0, .ref b1, .ref b2, .long ow, .long off, .long go])), (b0, .inl (d0, 24, .inl (ck_bz (bt hd)))), (b1, .inl (d1, 24, .inr (.inl lo))), (b2, .inl (d2, 24, .inr (.inl hi)))]) [0, 1, 2, 3] rfl
  have hKm := hK.sub (tys' := mT d0 d1 d2) [2, 3, 4] rfl
  have hDc := hD.sub (ws' := [(g, .inr (1, [.ref b0, .ref b1, .ref b2, .long ow, .long off, .long go])), (b0, .inl (d0, 24, .inl (ck_bz (bt hd)))), (b1, .inl (d1, 24, .inr (.inl lo))), (b2, .inl (d2, 24, .inr (.inl hi)))]) [0, 1, 2, 3] (by decide) rfl
  refine ck_wV (As := [.int (xs (i + 1))]) (rest := [.int (ck_b (ck_in hd (xs (i + 1))))]) (w := [(g, .inr (1, [.ref b0, .ref b1, .ref b2, .long ow, .long off, .long go])), (b0, .inl (d0, 24, .inl (ck_bz (bt hd)))), (b1, .inl (d1, 24, .inr (.inl lo))), (b2, .inl (d2, 24, .inr (.inl hi))), (h, .inr (0, [.ref a1, .ref a2, .int (ck_dH hd (xs (i + 1))), .long ow, .long off, .long go])), (a1, .inl (c1, 24, .inr (.inl lo))), (a2, .inl (c2, 24, .inr (.inl hi)))]) (wc := [(g, .inr (1, [.ref b0, .ref b1, .ref b2, .long ow, .long off, .long go])), (b0, .inl (d0, 24, .inl (ck_bz (bt hd)))), (b1, .inl (d1, 24, .inr (.inl lo))), (b2, .inl (d2, 24, .inr (.inl hi)))]) (wr := [(h, .inr (0, [.ref a1, .ref a2, .int (ck_dH hd (xs (i + 1))), .long ow, .long off, .long go])), (a1, .inl (c1, 24, .inr (.inl lo))), (a2, .inl (c2, 24, .inr (.inl hi)))]) (w1 := [(g, .inr (1, [.ref b0, .ref b1, .ref b2, .long ow, .long off, .long go])), (b0, .inl (d0, 24, .inl (ck_bz (bt (ck_dH hd (xs (i + 1))))))), (b1, .inl (d1, 24, .inr (.inl lo))), (b2, .inl (d2, 24, .inr (.inl hi)))]) (v := some (.int (ck_b (ck_in hd (xs (i + 1)))))) ⟨hx, hb, hml, hown, htl⟩ (c_X1_drop l D g b0 b1 b2 d0 d1 d2 lo hi hd ow off go inv _ (xs (i + 1))) (cwV 1 htl gL_law_X1_drop rfl rfl rfl (by decide +kernel) ⟨Nat.le_of_ble_eq_true rfl, Nat.le_of_ble_eq_true rfl⟩) hP hD hS hA hKm [0, 1, 2, 3] [4, 5, 6] rfl hPm hDc rfl (by decide) (by decide) (va_recv hKm hPm (ci := 1) (q0 := 0) rfl rfl) rfl hl.1 rfl (Nat.le_of_ble_eq_true rfl) dL_law_382 ⟨Nat.le_of_ble_eq_true rfl, Nat.le_of_ble_eq_true rfl⟩ (fun H locs hP hD hS => ?_)
  have hP : va_P D vwCl [(h, .inr (0, [.ref a1, .ref a2, .int (ck_dH hd (xs (i + 1))), .long ow, .long off, .long go])), (a1, .inl (c1, 24, .inr (.inl lo))), (a2, .inl (c2, 24, .inr (.inl hi))), (g, .inr (1, [.ref b0, .ref b1, .ref b2, .long ow, .long off, .long go])), (b0, .inl (d0, 24, .inl (ck_bz (bt (ck_dH hd (xs (i + 1))))))), (b1, .inl (d1, 24, .inr (.inl lo))), (b2, .inl (d2, 24, .inr (.inl hi)))] H := hP
  have hD : va_D (fun q : Nat => s.heap.size ≤ q) [(h, .inr (0, [.ref a1, .ref a2, .int (ck_dH hd (xs (i + 1))), .long ow, .long off, .long go])), (a1, .inl (c1, 24, .inr (.inl lo))), (a2, .inl (c2, 24, .inr (.inl hi))), (g, .inr (1, [.ref b0, .ref b1, .ref b2, .long ow, .long off, .long go])), (b0, .inl (d0, 24, .inl (ck_bz (bt (ck_dH hd (xs (i + 1))))))), (b1, .inl (d1, 24, .inr (.inl lo))), (b2, .inl (d2, 24, .inr (.inl hi)))] := hD
  refine lv_icmp_eq (tgt := 788) hx hb dL_law_385 (by decide) (fun _ => ?_) (fun cq => absurd rfl cq)
  exact tail lo hi (ck_dH hd (xs (i + 1))) ow off go (ck_inv_dr inv (xs (i + 1))) (how) _ _ hP hD hS ls hl

set_option maxHeartbeats 4000000 in
set_option maxRecDepth 100000 in
theorem law_c3 {p : Program} {e : Env} {s : State} {m : MethodId} {below : List Frame} {meth : Method} {c : Code} (l : Launch) {b L : Nat} {xs : Nat → Int32} (hL : L ≤ 4096) (C0 : lw_At p s m meth c b L xs) (D : va_G) (h a1 a2 g b0 b1 b2 : Nat) (c1 c2 d0 d1 d2 : ClassId) (hK : va_K D vwCl [(c1, .long), (c2, .long), (d0, .boolean), (d1, .long), (d2, .long)] s) (i : Nat) (hi8 : i + 8 ≤ L) (tail : ∀ (lo hi : Nat → Int64) (hd : Int32) (ow off go : Int64), ck_inv hd lo hi → 0 ≤ ow → ∀ (H : Heap) (locs : List Loc), va_P D vwCl [(h, .inr (0, [.ref a1, .ref a2, .int hd, .long ow, .long off, .long go])), (a1, .inl (c1, 24, .inr (.inl lo))), (a2, .inl (c2, 24, .inr (.inl hi))), (g, .inr (1, [.ref b0, .ref b1, .ref b2, .long ow, .long off, .long go])), (b0, .inl (d0, 24, .inl (ck_bz (bt hd)))), (b1, .inl (d1, 24, .inr (.inl lo))), (b2, .inl (d2, 24, .inr (.inl hi)))] H → va_D (fun q : Nat => s.heap.size ≤ q) [(h, .inr (0, [.ref a1, .ref a2, .int hd, .long ow, .long off, .long go])), (a1, .inl (c1, 24, .inr (.inl lo))), (a2, .inl (c2, 24, .inr (.inl hi))), (g, .inr (1, [.ref b0, .ref b1, .ref b2, .long ow, .long off, .long go])), (b0, .inl (d0, 24, .inl (ck_bz (bt hd)))), (b1, .inl (d1, 24, .inr (.inl lo))), (b2, .inl (d2, 24, .inr (.inl hi)))] → va_S (fun q : Nat => s.heap.size ≤ q) s.heap H locs → ∀ ls, lv_has ls 4 [(0, .ref b), (1, .ref h), (2, .ref g), (3, .int (nI i))] → W p l e room_1 s m #[Value.ref b] below meth c H locs 7 132 (lw_Z below #[Value.ref b] s) (F0 m 788 ls [])) : ∀ (lo hi : Nat → Int64) (hd : Int32) (ow off go : Int64), ck_inv hd lo hi → 0 ≤ ow → ∀ (H : Heap) (locs : List Loc), va_P D vwCl [(h, .inr (0, [.ref a1, .ref a2, .int hd, .long ow, .long off, .long go])), (a1, .inl (c1, 24, .inr (.inl lo))), (a2, .inl (c2, 24, .inr (.inl hi))), (g, .inr (1, [.ref b0, .ref b1, .ref b2, .long ow, .long off, .long go])), (b0, .inl (d0, 24, .inl (ck_bz (bt hd)))), (b1, .inl (d1, 24, .inr (.inl lo))), (b2, .inl (d2, 24, .inr (.inl hi)))] H → va_D (fun q : Nat => s.heap.size ≤ q) [(h, .inr (0, [.ref a1, .ref a2, .int hd, .long ow, .long off, .long go])), (a1, .inl (c1, 24, .inr (.inl lo))), (a2, .inl (c2, 24, .inr (.inl hi))), (g, .inr (1, [.ref b0, .ref b1, .ref b2, .long ow, .long off, .long go])), (b0, .inl (d0, 24, .inl (ck_bz (bt hd)))), (b1, .inl (d1, 24, .inr (.inl lo))), (b2, .inl (d2, 24, .inr (.inl hi)))] → va_S (fun q : Nat => s.heap.size ≤ q) s.heap H locs → ∀ ls, lv_has ls 4 [(0, .ref b), (1, .ref h), (2, .ref g), (3, .int (nI i))] → W p l e room_1 s m #[Value.ref b] below meth c H locs 7 132 (lw_Z below #[Value.ref b] s) (F0 m 390 ls []) := by
  obtain ⟨hx, hb, hr, hml, hown0, hts, hX, hbl, hlocks, hgv⟩ := id C0
  have hown : s.vm.findClass RL = some m.cls := hown0
  have htl : ∀ w ∈ wsL_law, w.before #[Value.ref b] s = true := fun w hw => hts w (wsL_law_in w hw)
  have hA : ∀ q : Nat, s.heap.size ≤ q → (fun q : Nat => s.heap.size ≤ q) q := fun _ h => h
  have hbA : ¬ (fun q : Nat => s.heap.size ≤ q) b := Nat.not_le.mpr hbl
  intro lo hi hd ow off go inv how H locs hP hD hS ls hl
  refine lv_aload_n hx hb dL_law_390 rfl (lv_at hl 1 rfl) ?_
  have hPx := hP.sub (ws' := [(h, .inr (0, [.ref a1, .ref a2, .int hd, .long ow, .long off, .long go])), (a1, .inl (c1, 24, .inr (.inl lo))), (a2, .inl (c2, 24, .inr (.inl hi)))]) [0, 1, 2] rfl
  have hKx := hK.sub (tys' := xT c1 c2) [0, 1] rfl
  refine ck_cV (As := []) (rest := []) ⟨hx, hb, hml, hown, htl⟩ (c_X0_sources l D h a1 a2 c1 c2 lo hi hd ow off go ) (cwV 0 htl gL_law_X0_sources rfl rfl rfl (by decide +kernel) ⟨Nat.le_of_ble_eq_true rfl, Nat.le_of_ble_eq_true rfl⟩) hPx hKx (va_recv hKx hPx (ci := 0) (q0 := 0) rfl rfl) rfl hl.1 rfl (Nat.le_of_ble_eq_true rfl) dL_law_391 ⟨Nat.le_of_ble_eq_true rfl, Nat.le_of_ble_eq_true rfl⟩ ?_
  refine lv_aload_n hx hb dL_law_394 rfl (lv_at hl 2 rfl) ?_
  have hPm := hP.sub (ws' := [(g, .inr (1, [.ref b0, .ref b1, .ref b2, .long ow, .long off, .long go])), (b0, .inl (d0, 24, .inl (ck_bz (bt hd)))), (b1, .inl (d1, 24, .inr (.inl lo))), (b2, .inl (d2, 24, .inr (.inl hi)))]) [3, 4, 5, 6] rfl
  have hKm := hK.sub (tys' := mT d0 d1 d2) [2, 3, 4] rfl
  refine ck_cV (As := []) (rest := [.int (ck_ns hd)]) ⟨hx, hb, hml, hown, htl⟩ (c_X1_sources l D g b0 b1 b2 d0 d1 d2 lo hi hd ow off go inv ) (cwV 0 htl gL_law_X1_sources rfl rfl rfl (by decide +kernel) ⟨Nat.le_of_ble_eq_true rfl, Nat.le_of_ble_eq_true rfl⟩) hPm hKm (va_recv hKm hPm (ci := 1) (q0 := 0) rfl rfl) rfl hl.1 rfl (Nat.le_of_ble_eq_true rfl) dL_law_395 ⟨Nat.le_of_ble_eq_true rfl, Nat.le_of_ble_eq_true rfl⟩ ?_
  refine lv_icmp_eq (tgt := 788) hx hb dL_law_398 (by decide) (fun _ => ?_) (fun cq => absurd rfl cq)
  exact tail lo hi hd ow off go (inv) (how) _ _ hP hD hS ls hl

set_option maxHeartbeats 4000000 in
set_option maxRecDepth 100000 in
theorem law_c4 {p : Program} {e : Env} {s : State} {m : MethodId} {below : List Frame} {meth : Method} {c : Code} (l : Launch) {b L : Nat} {xs : Nat → Int32} (hL : L ≤ 4096) (C0 : lw_At p s m meth c b L xs) (D : va_G) (h a1 a2 g b0 b1 b2 : Nat) (c1 c2 d0 d1 d2 : ClassId) (hK : va_K D vwCl [(c1, .long), (c2, .long), (d0, .boolean), (d1, .long), (d2, .long)] s) (i : Nat) (hi8 : i + 8 ≤ L) (tail : ∀ (lo hi : Nat → Int64) (hd : Int32) (ow off go : Int64), ck_inv hd lo hi → 0 ≤ ow → ∀ (H : Heap) (locs : List Loc), va_P D vwCl [(h, .inr (0, [.ref a1, .ref a2, .int hd, .long ow, .long off, .long go])), (a1, .inl (c1, 24, .inr (.inl lo))), (a2, .inl (c2, 24, .inr (.inl hi))), (g, .inr (1, [.ref b0, .ref b1, .ref b2, .long ow, .long off, .long go])), (b0, .inl (d0, 24, .inl (ck_bz (bt hd)))), (b1, .inl (d1, 24, .inr (.inl lo))), (b2, .inl (d2, 24, .inr (.inl hi)))] H → va_D (fun q : Nat => s.heap.size ≤ q) [(h, .inr (0, [.ref a1, .ref a2, .int hd, .long ow, .long off, .long go])), (a1, .inl (c1, 24, .inr (.inl lo))), (a2, .inl (c2, 24, .inr (.inl hi))), (g, .inr (1, [.ref b0, .ref b1, .ref b2, .long ow, .long off, .long go])), (b0, .inl (d0, 24, .inl (ck_bz (bt hd)))), (b1, .inl (d1, 24, .inr (.inl lo))), (b2, .inl (d2, 24, .inr (.inl hi)))] → va_S (fun q : Nat => s.heap.size ≤ q) s.heap H locs → ∀ ls, lv_has ls 4 [(0, .ref b), (1, .ref h), (2, .ref g), (3, .int (nI i))] → W p l e room_1 s m #[Value.ref b] below meth c H locs 7 132 (lw_Z below #[Value.ref b] s) (F0 m 788 ls [])) : ∀ (lo hi : Nat → Int64) (hd : Int32) (ow off go : Int64), ck_inv hd lo hi → 0 ≤ ow → ∀ (H : Heap) (locs : List Loc), va_P D vwCl [(h, .inr (0, [.ref a1, .ref a2, .int hd, .long ow, .long off, .long go])), (a1, .inl (c1, 24, .inr (.inl lo))), (a2, .inl (c2, 24, .inr (.inl hi))), (g, .inr (1, [.ref b0, .ref b1, .ref b2, .long ow, .long off, .long go])), (b0, .inl (d0, 24, .inl (ck_bz (bt hd)))), (b1, .inl (d1, 24, .inr (.inl lo))), (b2, .inl (d2, 24, .inr (.inl hi)))] H → va_D (fun q : Nat => s.heap.size ≤ q) [(h, .inr (0, [.ref a1, .ref a2, .int hd, .long ow, .long off, .long go])), (a1, .inl (c1, 24, .inr (.inl lo))), (a2, .inl (c2, 24, .inr (.inl hi))), (g, .inr (1, [.ref b0, .ref b1, .ref b2, .long ow, .long off, .long go])), (b0, .inl (d0, 24, .inl (ck_bz (bt hd)))), (b1, .inl (d1, 24, .inr (.inl lo))), (b2, .inl (d2, 24, .inr (.inl hi)))] → va_S (fun q : Nat => s.heap.size ≤ q) s.heap H locs → ∀ ls, lv_has ls 4 [(0, .ref b), (1, .ref h), (2, .ref g), (3, .int (nI i))] → W p l e room_1 s m #[Value.ref b] below meth c H locs 7 132 (lw_Z below #[Value.ref b] s) (F0 m 403 ls []) := by
  obtain ⟨hx, hb, hr, hml, hown0, hts, hX, hbl, hlocks, hgv⟩ := id C0
  have hown : s.vm.findClass RL = some m.cls := hown0
  have htl : ∀ w ∈ wsL_law, w.before #[Value.ref b] s = true := fun w hw => hts w (wsL_law_in w hw)
  have hA : ∀ q : Nat, s.heap.size ≤ q → (fun q : Nat => s.heap.size ≤ q) q := fun _ h => h
  have hbA : ¬ (fun q : Nat => s.heap.size ≤ q) b := Nat.not_le.mpr hbl
  intro lo hi hd ow off go inv how H locs hP hD hS ls hl
  refine lv_aload_n hx hb dL_law_403 rfl (lv_at hl 1 rfl) ?_
  refine lv_aload_n hx hb dL_law_404 rfl (lv_at hl 0 rfl) ?_
  refine lv_iload_n hx hb dL_law_405 rfl (lv_at hl 3 rfl) ?_
  refine lv_iconst (v := 1) hx hb dL_law_406 (by decide) ?_
  refine lv_iadd hx hb dL_law_407 ?_
  refine ck_sld hx hb hX hbl hbA hS hL (k := i + 1) (nI_add i 1) (by omega) dL_law_408 ?_
  refine lv_i2l (v := (Int32.toInt64 (xs (i + 1)))) hx hb dL_law_409 rfl ?_
  refine lv_bipush (v := 32) hx hb dL_law_410 (by decide) ?_
  refine lv_lshl (v := ((Int32.toInt64 (xs (i + 1))) <<< (Int32.toInt64 32 &&& 63))) hx hb dL_law_412 rfl ?_
  refine lv_aload_n hx hb dL_law_413 rfl (lv_at hl 0 rfl) ?_
  refine lv_iload_n hx hb dL_law_414 rfl (lv_at hl 3 rfl) ?_
  refine lv_iconst (v := 2) hx hb dL_law_415 (by decide) ?_
  refine lv_iadd hx hb dL_law_416 ?_
  refine ck_sld hx hb hX hbl hbA hS hL (k := i + 2) (nI_add i 2) (by omega) dL_law_417 ?_
  refine lv_i2l (v := (Int32.toInt64 (xs (i + 2)))) hx hb dL_law_418 rfl ?_
  refine lv_ldc2 (v := 4294967295) hx hb hown (htl (.constantLong RL 13 4294967295) (by decide +kernel)) dL_law_419 ?_
  refine lv_land hx hb dL_law_422 ?_
  refine lv_lor hx hb dL_law_423 ?_
  have hPx := hP.sub (ws' := [(h, .inr (0, [.ref a1, .ref a2, .int hd, .long ow, .long off, .long go])), (a1, .inl (c1, 24, .inr (.inl lo))), (a2, .inl (c2, 24, .inr (.inl hi)))]) [0, 1, 2] rfl
  have hKx := hK.sub (tys' := xT c1 c2) [0, 1] rfl
  refine ck_cV (As := [.long (ck_L (xs (i + 1)) (xs (i + 2)))]) (rest := []) ⟨hx, hb, hml, hown, htl⟩ (c_X0_covers l D h a1 a2 c1 c2 lo hi hd ow off go (ck_L (xs (i + 1)) (xs (i + 2)))) (cwV 1 htl gL_law_X0_covers rfl rfl rfl (by decide +kernel) ⟨Nat.le_of_ble_eq_true rfl, Nat.le_of_ble_eq_true rfl⟩) hPx hKx (va_recv hKx hPx (ci := 0) (q0 := 0) rfl rfl) rfl hl.1 rfl (Nat.le_of_ble_eq_true rfl) dL_law_424 ⟨Nat.le_of_ble_eq_true rfl, Nat.le_of_ble_eq_true rfl⟩ ?_
  refine lv_aload_n hx hb dL_law_427 rfl (lv_at hl 2 rfl) ?_
  refine lv_aload_n hx hb dL_law_428 rfl (lv_at hl 0 rfl) ?_
  refine lv_iload_n hx hb dL_law_429 rfl (lv_at hl 3 rfl) ?_
  refine lv_iconst (v := 1) hx hb dL_law_430 (by decide) ?_
  refine lv_iadd hx hb dL_law_431 ?_
  refine ck_sld hx hb hX hbl hbA hS hL (k := i + 1) (nI_add i 1) (by omega) dL_law_432 ?_
  refine lv_i2l (v := (Int32.toInt64 (xs (i + 1)))) hx hb dL_law_433 rfl ?_
  refine lv_bipush (v := 32) hx hb dL_law_434 (by decide) ?_
  refine lv_lshl (v := ((Int32.toInt64 (xs (i + 1))) <<< (Int32.toInt64 32 &&& 63))) hx hb dL_law_436 rfl ?_
  refine lv_aload_n hx hb dL_law_437 rfl (lv_at hl 0 rfl) ?_
  refine lv_iload_n hx hb dL_law_438 rfl (lv_at hl 3 rfl) ?_
  refine lv_iconst (v := 2) hx hb dL_law_439 (by decide) ?_
  refine lv_iadd hx hb dL_law_440 ?_
  refine ck_sld hx hb hX hbl hbA hS hL (k := i + 2) (nI_add i 2) (by omega) dL_law_441 ?_
  refine lv_i2l (v := (Int32.toInt64 (xs (i + 2)))) hx hb dL_law_442 rfl ?_
  refine lv_ldc2 (v := 4294967295) hx hb hown (htl (.constantLong RL 13 4294967295) (by decide +kernel)) dL_law_443 ?_
  refine lv_land hx hb dL_law_446 ?_
  refine lv_lor hx hb dL_law_447 ?_
  have hPm := hP.sub (ws' := [(g, .inr (1, [.ref b0, .ref b1, .ref b2, .long ow, .long off, .long go])), (b0, .inl (d0, 24, .inl (ck_bz (bt hd)))), (b1, .inl (d1, 24, .inr (.inl lo))), (b2, .inl (d2, 24, .inr (.inl hi)))]) [3, 4, 5, 6] rfl
  have hKm := hK.sub (tys' := mT d0 d1 d2) [2, 3, 4] rfl
  refine ck_cV (As := [.long (ck_L (xs (i + 1)) (xs (i + 2)))]) (rest := [.int (ck_cvs (bt hd) lo hi (ck_L (xs (i + 1)) (xs (i + 2))))]) ⟨hx, hb, hml, hown, htl⟩ (c_X1_covers l D g b0 b1 b2 d0 d1 d2 lo hi hd ow off go inv (ck_L (xs (i + 1)) (xs (i + 2)))) (cwV 1 htl gL_law_X1_covers rfl rfl rfl (by decide +kernel) ⟨Nat.le_of_ble_eq_true rfl, Nat.le_of_ble_eq_true rfl⟩) hPm hKm (va_recv hKm hPm (ci := 1) (q0 := 0) rfl rfl) rfl hl.1 rfl (Nat.le_of_ble_eq_true rfl) dL_law_448 ⟨Nat.le_of_ble_eq_true rfl, Nat.le_of_ble_eq_true rfl⟩ ?_
  refine lv_icmp_eq (tgt := 788) hx hb dL_law_451 (by decide) (fun _ => ?_) (fun cq => absurd rfl cq)
  exact tail lo hi hd ow off go (inv) (how) _ _ hP hD hS ls hl

set_option maxHeartbeats 4000000 in
set_option maxRecDepth 100000 in
theorem law_c5 {p : Program} {e : Env} {s : State} {m : MethodId} {below : List Frame} {meth : Method} {c : Code} (l : Launch) {b L : Nat} {xs : Nat → Int32} (hL : L ≤ 4096) (C0 : lw_At p s m meth c b L xs) (D : va_G) (h a1 a2 g b0 b1 b2 : Nat) (c1 c2 d0 d1 d2 : ClassId) (hK : va_K D vwCl [(c1, .long), (c2, .long), (d0, .boolean), (d1, .long), (d2, .long)] s) (i : Nat) (hi8 : i + 8 ≤ L) (tail : ∀ (lo hi : Nat → Int64) (hd : Int32) (ow off go : Int64), ck_inv hd lo hi → 0 ≤ ow → ∀ (H : Heap) (locs : List Loc), va_P D vwCl [(h, .inr (0, [.ref a1, .ref a2, .int hd, .long ow, .long off, .long go])), (a1, .inl (c1, 24, .inr (.inl lo))), (a2, .inl (c2, 24, .inr (.inl hi))), (g, .inr (1, [.ref b0, .ref b1, .ref b2, .long ow, .long off, .long go])), (b0, .inl (d0, 24, .inl (ck_bz (bt hd)))), (b1, .inl (d1, 24, .inr (.inl lo))), (b2, .inl (d2, 24, .inr (.inl hi)))] H → va_D (fun q : Nat => s.heap.size ≤ q) [(h, .inr (0, [.ref a1, .ref a2, .int hd, .long ow, .long off, .long go])), (a1, .inl (c1, 24, .inr (.inl lo))), (a2, .inl (c2, 24, .inr (.inl hi))), (g, .inr (1, [.ref b0, .ref b1, .ref b2, .long ow, .long off, .long go])), (b0, .inl (d0, 24, .inl (ck_bz (bt hd)))), (b1, .inl (d1, 24, .inr (.inl lo))), (b2, .inl (d2, 24, .inr (.inl hi)))] → va_S (fun q : Nat => s.heap.size ≤ q) s.heap H locs → ∀ ls, lv_has ls 4 [(0, .ref b), (1, .ref h), (2, .ref g), (3, .int (nI i))] → W p l e room_1 s m #[Value.ref b] below meth c H locs 7 132 (lw_Z below #[Value.ref b] s) (F0 m 788 ls [])) : ∀ (lo hi : Nat → Int64) (hd : Int32) (ow off go : Int64), ck_inv hd lo hi → 0 ≤ ow → ∀ (H : Heap) (locs : List Loc), va_P D vwCl [(h, .inr (0, [.ref a1, .ref a2, .int hd, .long ow, .long off, .long go])), (a1, .inl (c1, 24, .inr (.inl lo))), (a2, .inl (c2, 24, .inr (.inl hi))), (g, .inr (1, [.ref b0, .ref b1, .ref b2, .long ow, .long off, .long go])), (b0, .inl (d0, 24, .inl (ck_bz (bt hd)))), (b1, .inl (d1, 24, .inr (.inl lo))), (b2, .inl (d2, 24, .inr (.inl hi)))] H → va_D (fun q : Nat => s.heap.size ≤ q) [(h, .inr (0, [.ref a1, .ref a2, .int hd, .long ow, .long off, .long go])), (a1, .inl (c1, 24, .inr (.inl lo))), (a2, .inl (c2, 24, .inr (.inl hi))), (g, .inr (1, [.ref b0, .ref b1, .ref b2, .long ow, .long off, .long go])), (b0, .inl (d0, 24, .inl (ck_bz (bt hd)))), (b1, .inl (d1, 24, .inr (.inl lo))), (b2, .inl (d2, 24, .inr (.inl hi)))] → va_S (fun q : Nat => s.heap.size ≤ q) s.heap H locs → ∀ ls, lv_has ls 4 [(0, .ref b), (1, .ref h), (2, .ref g), (3, .int (nI i))] → W p l e room_1 s m #[Value.ref b] below meth c H locs 7 132 (lw_Z below #[Value.ref b] s) (F0 m 456 ls []) := by
  obtain ⟨hx, hb, hr, hml, hown0, hts, hX, hbl, hlocks, hgv⟩ := id C0
  have hown : s.vm.findClass RL = some m.cls := hown0
  have htl : ∀ w ∈ wsL_law, w.before #[Value.ref b] s = true := fun w hw => hts w (wsL_law_in w hw)
  have hA : ∀ q : Nat, s.heap.size ≤ q → (fun q : Nat => s.heap.size ≤ q) q := fun _ h => h
  have hbA : ¬ (fun q : Nat => s.heap.size ≤ q) b := Nat.not_le.mpr hbl
  intro lo hi hd ow off go inv how H locs hP hD hS ls hl
  refine lv_aload_n hx hb dL_law_456 rfl (lv_at hl 1 rfl) ?_
  have hPx := hP.sub (ws' := [(h, .inr (0, [.ref a1, .ref a2, .int hd, .long ow, .long off, .long go])), (a1, .inl (c1, 24, .inr (.inl lo))), (a2, .inl (c2, 24, .inr (.inl hi)))]) [0, 1, 2] rfl
  have hKx := hK.sub (tys' := xT c1 c2) [0, 1] rfl
  refine ck_cV (As := []) (rest := []) ⟨hx, hb, hml, hown, htl⟩ (c_X0_greatest l D h a1 a2 c1 c2 lo hi hd ow off go ) (cwV 0 htl gL_law_X0_greatest rfl rfl rfl (by decide +kernel) ⟨Nat.le_of_ble_eq_true rfl, Nat.le_of_ble_eq_true rfl⟩) hPx hKx (va_recv hKx hPx (ci := 0) (q0 := 0) rfl rfl) rfl hl.1 rfl (Nat.le_of_ble_eq_true rfl) dL_law_457 ⟨Nat.le_of_ble_eq_true rfl, Nat.le_of_ble_eq_true rfl⟩ ?_
  refine lv_aload_n hx hb dL_law_460 rfl (lv_at hl 2 rfl) ?_
  have hPm := hP.sub (ws' := [(g, .inr (1, [.ref b0, .ref b1, .ref b2, .long ow, .long off, .long go])), (b0, .inl (d0, 24, .inl (ck_bz (bt hd)))), (b1, .inl (d1, 24, .inr (.inl lo))), (b2, .inl (d2, 24, .inr (.inl hi)))]) [3, 4, 5, 6] rfl
  have hKm := hK.sub (tys' := mT d0 d1 d2) [2, 3, 4] rfl
  refine ck_cV (As := []) (rest := [.int (ck_gr (bt hd) lo hi 24)]) ⟨hx, hb, hml, hown, htl⟩ (c_X1_greatest l D g b0 b1 b2 d0 d1 d2 lo hi hd ow off go inv ) (cwV 0 htl gL_law_X1_greatest rfl rfl rfl (by decide +kernel) ⟨Nat.le_of_ble_eq_true rfl, Nat.le_of_ble_eq_true rfl⟩) hPm hKm (va_recv hKm hPm (ci := 1) (q0 := 0) rfl rfl) rfl hl.1 rfl (Nat.le_of_ble_eq_true rfl) dL_law_461 ⟨Nat.le_of_ble_eq_true rfl, Nat.le_of_ble_eq_true rfl⟩ ?_
  refine lv_icmp_eq (tgt := 788) hx hb dL_law_464 (by decide) (fun _ => ?_) (fun cq => absurd rfl cq)
  exact tail lo hi hd ow off go (inv) (how) _ _ hP hD hS ls hl

set_option maxHeartbeats 4000000 in
set_option maxRecDepth 100000 in
theorem law_c6 {p : Program} {e : Env} {s : State} {m : MethodId} {below : List Frame} {meth : Method} {c : Code} (l : Launch) {b L : Nat} {xs : Nat → Int32} (hL : L ≤ 4096) (C0 : lw_At p s m meth c b L xs) (D : va_G) (h a1 a2 g b0 b1 b2 : Nat) (c1 c2 d0 d1 d2 : ClassId) (hK : va_K D vwCl [(c1, .long), (c2, .long), (d0, .boolean), (d1, .long), (d2, .long)] s) (i : Nat) (hi8 : i + 8 ≤ L) (tail : ∀ (lo hi : Nat → Int64) (hd : Int32) (ow off go : Int64), ck_inv hd lo hi → 0 ≤ ow → ∀ (H : Heap) (locs : List Loc), va_P D vwCl [(h, .inr (0, [.ref a1, .ref a2, .int hd, .long ow, .long off, .long go])), (a1, .inl (c1, 24, .inr (.inl lo))), (a2, .inl (c2, 24, .inr (.inl hi))), (g, .inr (1, [.ref b0, .ref b1, .ref b2, .long ow, .long off, .long go])), (b0, .inl (d0, 24, .inl (ck_bz (bt hd)))), (b1, .inl (d1, 24, .inr (.inl lo))), (b2, .inl (d2, 24, .inr (.inl hi)))] H → va_D (fun q : Nat => s.heap.size ≤ q) [(h, .inr (0, [.ref a1, .ref a2, .int hd, .long ow, .long off, .long go])), (a1, .inl (c1, 24, .inr (.inl lo))), (a2, .inl (c2, 24, .inr (.inl hi))), (g, .inr (1, [.ref b0, .ref b1, .ref b2, .long ow, .long off, .long go])), (b0, .inl (d0, 24, .inl (ck_bz (bt hd)))), (b1, .inl (d1, 24, .inr (.inl lo))), (b2, .inl (d2, 24, .inr (.inl hi)))] → va_S (fun q : Nat => s.heap.size ≤ q) s.heap H locs → ∀ ls, lv_has ls 4 [(0, .ref b), (1, .ref h), (2, .ref g), (3, .int (nI i))] → W p l e room_1 s m #[Value.ref b] below meth c H locs 7 132 (lw_Z below #[Value.ref b] s) (F0 m 788 ls [])) : ∀ (lo hi : Nat → Int64) (hd : Int32) (ow off go : Int64), ck_inv hd lo hi → 0 ≤ ow → ∀ (H : Heap) (locs : List Loc), va_P D vwCl [(h, .inr (0, [.ref a1, .ref a2, .int hd, .long ow, .long off, .long go])), (a1, .inl (c1, 24, .inr (.inl lo))), (a2, .inl (c2, 24, .inr (.inl hi))), (g, .inr (1, [.ref b0, .ref b1, .ref b2, .long ow, .long off, .long go])), (b0, .inl (d0, 24, .inl (ck_bz (bt hd)))), (b1, .inl (d1, 24, .inr (.inl lo))), (b2, .inl (d2, 24, .inr (.inl hi)))] H → va_D (fun q : Nat => s.heap.size ≤ q) [(h, .inr (0, [.ref a1, .ref a2, .int hd, .long ow, .long off, .long go])), (a1, .inl (c1, 24, .inr (.inl lo))), (a2, .inl (c2, 24, .inr (.inl hi))), (g, .inr (1, [.ref b0, .ref b1, .ref b2, .long ow, .long off, .long go])), (b0, .inl (d0, 24, .inl (ck_bz (bt hd)))), (b1, .inl (d1, 24, .inr (.inl lo))), (b2, .inl (d2, 24, .inr (.inl hi)))] → va_S (fun q : Nat => s.heap.size ≤ q) s.heap H locs → ∀ ls, lv_has ls 4 [(0, .ref b), (1, .ref h), (2, .ref g), (3, .int (nI i))] → W p l e room_1 s m #[Value.ref b] below meth c H locs 7 132 (lw_Z below #[Value.ref b] s) (F0 m 469 ls []) := by
  obtain ⟨hx, hb, hr, hml, hown0, hts, hX, hbl, hlocks, hgv⟩ := id C0
  have hown : s.vm.findClass RL = some m.cls := hown0
  have htl : ∀ w ∈ wsL_law, w.before #[Value.ref b] s = true := fun w hw => hts w (wsL_law_in w hw)
  have hA : ∀ q : Nat, s.heap.size ≤ q → (fun q : Nat => s.heap.size ≤ q) q := fun _ h => h
  have hbA : ¬ (fun q : Nat => s.heap.size ≤ q) b := Nat.not_le.mpr hbl
  intro lo hi hd ow off go inv how H locs hP hD hS ls hl
  refine lv_aload_n hx hb dL_law_469 rfl (lv_at hl 1 rfl) ?_
  refine lv_aload_n hx hb dL_law_470 rfl (lv_at hl 0 rfl) ?_
  refine lv_iload_n hx hb dL_law_471 rfl (lv_at hl 3 rfl) ?_
  refine lv_iconst (v := 1) hx hb dL_law_472 (by decide) ?_
  refine lv_iadd hx hb dL_law_473 ?_
  refine ck_sld hx hb hX hbl hbA hS hL (k := i + 1) (nI_add i 1) (by omega) dL_law_474 ?_
  have hPx := hP.sub (ws' := [(h, .inr (0, [.ref a1, .ref a2, .int hd, .long ow, .long off, .long go])), (a1, .inl (c1, 24, .inr (.inl lo))), (a2, .inl (c2, 24, .inr (.inl hi)))]) [0, 1, 2] rfl
  have hKx := hK.sub (tys' := xT c1 c2) [0, 1] rfl
  refine ck_cV (As := [.int (xs (i + 1))]) (rest := []) ⟨hx, hb, hml, hown, htl⟩ (c_X0_region l D h a1 a2 c1 c2 lo hi hd ow off go (xs (i + 1))) (cwV 1 htl gL_law_X0_region rfl rfl rfl (by decide +kernel) ⟨Nat.le_of_ble_eq_true rfl, Nat.le_of_ble_eq_true rfl⟩) hPx hKx (va_recv hKx hPx (ci := 0) (q0 := 0) rfl rfl) rfl hl.1 rfl (Nat.le_of_ble_eq_true rfl) dL_law_475 ⟨Nat.le_of_ble_eq_true rfl, Nat.le_of_ble_eq_true rfl⟩ ?_
  refine lv_aload_n hx hb dL_law_478 rfl (lv_at hl 2 rfl) ?_
  refine lv_aload_n hx hb dL_law_479 rfl (lv_at hl 0 rfl) ?_
  refine lv_iload_n hx hb dL_law_480 rfl (lv_at hl 3 rfl) ?_
  refine lv_iconst (v := 1) hx hb dL_law_481 (by decide) ?_
  refine lv_iadd hx hb dL_law_482 ?_
  refine ck_sld hx hb hX hbl hbA hS hL (k := i + 1) (nI_add i 1) (by omega) dL_law_483 ?_
  have hPm := hP.sub (ws' := [(g, .inr (1, [.ref b0, .ref b1, .ref b2, .long ow, .long off, .long go])), (b0, .inl (d0, 24, .inl (ck_bz (bt hd)))), (b1, .inl (d1, 24, .inr (.inl lo))), (b2, .inl (d2, 24, .inr (.inl hi)))]) [3, 4, 5, 6] rfl
  have hKm := hK.sub (tys' := mT d0 d1 d2) [2, 3, 4] rfl
  refine ck_cV (As := [.int (xs (i + 1))]) (rest := [.long (ck_rg hd lo hi (xs (i + 1)))]) ⟨hx, hb, hml, hown, htl⟩ (c_X1_region l D g b0 b1 b2 d0 d1 d2 lo hi hd ow off go inv (xs (i + 1))) (cwV 1 htl gL_law_X1_region rfl rfl rfl (by decide +kernel) ⟨Nat.le_of_ble_eq_true rfl, Nat.le_of_ble_eq_true rfl⟩) hPm hKm (va_recv hKm hPm (ci := 1) (q0 := 0) rfl rfl) rfl hl.1 rfl (Nat.le_of_ble_eq_true rfl) dL_law_484 ⟨Nat.le_of_ble_eq_true rfl, Nat.le_of_ble_eq_true rfl⟩ ?_
  refine W.lcmp hx hb dL_law_487 ?_
  refine lv_if_eq (tgt := 788) hx hb dL_law_488 (by decide) (fun _ => ?_) (fun cq => absurd ((lg_cmp_eq _ _).mpr rfl) cq)
  exact tail lo hi hd ow off go (inv) (how) _ _ hP hD hS ls hl

set_option maxHeartbeats 4000000 in
set_option maxRecDepth 100000 in
theorem law_c7 {p : Program} {e : Env} {s : State} {m : MethodId} {below : List Frame} {meth : Method} {c : Code} (l : Launch) {b L : Nat} {xs : Nat → Int32} (hL : L ≤ 4096) (C0 : lw_At p s m meth c b L xs) (D : va_G) (h a1 a2 g b0 b1 b2 : Nat) (c1 c2 d0 d1 d2 : ClassId) (hK : va_K D vwCl [(c1, .long), (c2, .long), (d0, .boolean), (d1, .long), (d2, .long)] s) (i : Nat) (hi8 : i + 8 ≤ L) (tail : ∀ (lo hi : Nat → Int64) (hd : Int32) (ow off go : Int64), ck_inv hd lo hi → 0 ≤ ow → ∀ (H : Heap) (locs : List Loc), va_P D vwCl [(h, .inr (0, [.ref a1, .ref a2, .int hd, .long ow, .long off, .long go])), (a1, .inl (c1, 24, .inr (.inl lo))), (a2, .inl (c2, 24, .inr (.inl hi))), (g, .inr (1, [.ref b0, .ref b1, .ref b2, .long ow, .long off, .long go])), (b0, .inl (d0, 24, .inl (ck_bz (bt hd)))), (b1, .inl (d1, 24, .inr (.inl lo))), (b2, .inl (d2, 24, .inr (.inl hi)))] H → va_D (fun q : Nat => s.heap.size ≤ q) [(h, .inr (0, [.ref a1, .ref a2, .int hd, .long ow, .long off, .long go])), (a1, .inl (c1, 24, .inr (.inl lo))), (a2, .inl (c2, 24, .inr (.inl hi))), (g, .inr (1, [.ref b0, .ref b1, .ref b2, .long ow, .long off, .long go])), (b0, .inl (d0, 24, .inl (ck_bz (bt hd)))), (b1, .inl (d1, 24, .inr (.inl lo))), (b2, .inl (d2, 24, .inr (.inl hi)))] → va_S (fun q : Nat => s.heap.size ≤ q) s.heap H locs → ∀ ls, lv_has ls 4 [(0, .ref b), (1, .ref h), (2, .ref g), (3, .int (nI i))] → W p l e room_1 s m #[Value.ref b] below meth c H locs 7 132 (lw_Z below #[Value.ref b] s) (F0 m 788 ls [])) : ∀ (lo hi : Nat → Int64) (hd : Int32) (ow off go : Int64), ck_inv hd lo hi → 0 ≤ ow → ∀ (H : Heap) (locs : List Loc), va_P D vwCl [(h, .inr (0, [.ref a1, .ref a2, .int hd, .long ow, .long off, .long go])), (a1, .inl (c1, 24, .inr (.inl lo))), (a2, .inl (c2, 24, .inr (.inl hi))), (g, .inr (1, [.ref b0, .ref b1, .ref b2, .long ow, .long off, .long go])), (b0, .inl (d0, 24, .inl (ck_bz (bt hd)))), (b1, .inl (d1, 24, .inr (.inl lo))), (b2, .inl (d2, 24, .inr (.inl hi)))] H → va_D (fun q : Nat => s.heap.size ≤ q) [(h, .inr (0, [.ref a1, .ref a2, .int hd, .long ow, .long off, .long go])), (a1, .inl (c1, 24, .inr (.inl lo))), (a2, .inl (c2, 24, .inr (.inl hi))), (g, .inr (1, [.ref b0, .ref b1, .ref b2, .long ow, .long off, .long go])), (b0, .inl (d0, 24, .inl (ck_bz (bt hd)))), (b1, .inl (d1, 24, .inr (.inl lo))), (b2, .inl (d2, 24, .inr (.inl hi)))] → va_S (fun q : Nat => s.heap.size ≤ q) s.heap H locs → ∀ ls, lv_has ls 4 [(0, .ref b), (1, .ref h), (2, .ref g), (3, .int (nI i))] → W p l e room_1 s m #[Value.ref b] below meth c H locs 7 132 (lw_Z below #[Value.ref b] s) (F0 m 493 ls []) := by
  obtain ⟨hx, hb, hr, hml, hown0, hts, hX, hbl, hlocks, hgv⟩ := id C0
  have hown : s.vm.findClass RL = some m.cls := hown0
  have htl : ∀ w ∈ wsL_law, w.before #[Value.ref b] s = true := fun w hw => hts w (wsL_law_in w hw)
  have hA : ∀ q : Nat, s.heap.size ≤ q → (fun q : Nat => s.heap.size ≤ q) q := fun _ h => h
  have hbA : ¬ (fun q : Nat => s.heap.size ≤ q) b := Nat.not_le.mpr hbl
  intro lo hi hd ow off go inv how H locs hP hD hS ls hl
  refine lv_aload_n hx hb dL_law_493 rfl (lv_at hl 1 rfl) ?_
  refine lv_aload_n hx hb dL_law_494 rfl (lv_at hl 0 rfl) ?_
  refine lv_iload_n hx hb dL_law_495 rfl (lv_at hl 3 rfl) ?_
  refine lv_iconst (v := 1) hx hb dL_law_496 (by decide) ?_
  refine lv_iadd hx hb dL_law_497 ?_
  refine ck_sld hx hb hX hbl hbA hS hL (k := i + 1) (nI_add i 1) (by omega) dL_law_498 ?_
  refine lv_aload_n hx hb dL_law_499 rfl (lv_at hl 0 rfl) ?_
  refine lv_iload_n hx hb dL_law_500 rfl (lv_at hl 3 rfl) ?_
  refine lv_iconst (v := 2) hx hb dL_law_501 (by decide) ?_
  refine lv_iadd hx hb dL_law_502 ?_
  refine ck_sld hx hb hX hbl hbA hS hL (k := i + 2) (nI_add i 2) (by omega) dL_law_503 ?_
  have hPx := hP.sub (ws' := [(h, .inr (0, [.ref a1, .ref a2, .int hd, .long ow, .long off, .long go])), (a1, .inl (c1, 24, .inr (.inl lo))), (a2, .inl (c2, 24, .inr (.inl hi)))]) [0, 1, 2] rfl
  have hKx := hK.sub (tys' := xT c1 c2) [0, 1] rfl
  refine ck_cV (As := [.int (xs (i + 1)), .int (xs (i + 2))]) (rest := []) ⟨hx, hb, hml, hown, htl⟩ (c_X0_hull l D h a1 a2 c1 c2 lo hi hd ow off go (xs (i + 1)) (xs (i + 2))) (cwV 2 htl gL_law_X0_hull rfl rfl rfl (by decide +kernel) ⟨Nat.le_of_ble_eq_true rfl, Nat.le_of_ble_eq_true rfl⟩) hPx hKx (va_recv hKx hPx (ci := 0) (q0 := 0) rfl rfl) rfl hl.1 rfl (Nat.le_of_ble_eq_true rfl) dL_law_504 ⟨Nat.le_of_ble_eq_true rfl, Nat.le_of_ble_eq_true rfl⟩ ?_
  refine lv_aload_n hx hb dL_law_507 rfl (lv_at hl 2 rfl) ?_
  refine lv_aload_n hx hb dL_law_508 rfl (lv_at hl 0 rfl) ?_
  refine lv_iload_n hx hb dL_law_509 rfl (lv_at hl 3 rfl) ?_
  refine lv_iconst (v := 1) hx hb dL_law_510 (by decide) ?_
  refine lv_iadd hx hb dL_law_511 ?_
  refine ck_sld hx hb hX hbl hbA hS hL (k := i + 1) (nI_add i 1) (by omega) dL_law_512 ?_
  refine lv_aload_n hx hb dL_law_513 rfl (lv_at hl 0 rfl) ?_
  refine lv_iload_n hx hb dL_law_514 rfl (lv_at hl 3 rfl) ?_
  refine lv_iconst (v := 2) hx hb dL_law_515 (by decide) ?_
  refine lv_iadd hx hb dL_law_516 ?_
  refine ck_sld hx hb hX hbl hbA hS hL (k := i + 2) (nI_add i 2) (by omega) dL_law_517 ?_
  have hPm := hP.sub (ws' := [(g, .inr (1, [.ref b0, .ref b1, .ref b2, .long ow, .long off, .long go])), (b0, .inl (d0, 24, .inl (ck_bz (bt hd)))), (b1, .inl (d1, 24, .inr (.inl lo))), (b2, .inl (d2, 24, .inr (.inl hi)))]) [3, 4, 5, 6] rfl
  have hKm := hK.sub (tys' := mT d0 d1 d2) [2, 3, 4] rfl
  refine ck_cV (As := [.int (xs (i + 1)), .int (xs (i + 2))]) (rest := [.long (ck_hl hd lo hi (xs (i + 1)) (xs (i + 2)))]) ⟨hx, hb, hml, hown, htl⟩ (c_X1_hull l D g b0 b1 b2 d0 d1 d2 lo hi hd ow off go inv (xs (i + 1)) (xs (i + 2))) (cwV 2 htl gL_law_X1_hull rfl rfl rfl (by decide +kernel) ⟨Nat.le_of_ble_eq_true rfl, Nat.le_of_ble_eq_true rfl⟩) hPm hKm (va_recv hKm hPm (ci := 1) (q0 := 0) rfl rfl) rfl hl.1 rfl (Nat.le_of_ble_eq_true rfl) dL_law_518 ⟨Nat.le_of_ble_eq_true rfl, Nat.le_of_ble_eq_true rfl⟩ ?_
  refine W.lcmp hx hb dL_law_521 ?_
  refine lv_if_eq (tgt := 788) hx hb dL_law_522 (by decide) (fun _ => ?_) (fun cq => absurd ((lg_cmp_eq _ _).mpr rfl) cq)
  exact tail lo hi hd ow off go (inv) (how) _ _ hP hD hS ls hl

set_option maxHeartbeats 4000000 in
set_option maxRecDepth 100000 in
theorem law_c8 {p : Program} {e : Env} {s : State} {m : MethodId} {below : List Frame} {meth : Method} {c : Code} (l : Launch) {b L : Nat} {xs : Nat → Int32} (hL : L ≤ 4096) (C0 : lw_At p s m meth c b L xs) (D : va_G) (h a1 a2 g b0 b1 b2 : Nat) (c1 c2 d0 d1 d2 : ClassId) (hK : va_K D vwCl [(c1, .long), (c2, .long), (d0, .boolean), (d1, .long), (d2, .long)] s) (i : Nat) (hi8 : i + 8 ≤ L) (tail : ∀ (lo hi : Nat → Int64) (hd : Int32) (ow off go : Int64), ck_inv hd lo hi → 0 ≤ ow → ∀ (H : Heap) (locs : List Loc), va_P D vwCl [(h, .inr (0, [.ref a1, .ref a2, .int hd, .long ow, .long off, .long go])), (a1, .inl (c1, 24, .inr (.inl lo))), (a2, .inl (c2, 24, .inr (.inl hi))), (g, .inr (1, [.ref b0, .ref b1, .ref b2, .long ow, .long off, .long go])), (b0, .inl (d0, 24, .inl (ck_bz (bt hd)))), (b1, .inl (d1, 24, .inr (.inl lo))), (b2, .inl (d2, 24, .inr (.inl hi)))] H → va_D (fun q : Nat => s.heap.size ≤ q) [(h, .inr (0, [.ref a1, .ref a2, .int hd, .long ow, .long off, .long go])), (a1, .inl (c1, 24, .inr (.inl lo))), (a2, .inl (c2, 24, .inr (.inl hi))), (g, .inr (1, [.ref b0, .ref b1, .ref b2, .long ow, .long off, .long go])), (b0, .inl (d0, 24, .inl (ck_bz (bt hd)))), (b1, .inl (d1, 24, .inr (.inl lo))), (b2, .inl (d2, 24, .inr (.inl hi)))] → va_S (fun q : Nat => s.heap.size ≤ q) s.heap H locs → ∀ ls, lv_has ls 4 [(0, .ref b), (1, .ref h), (2, .ref g), (3, .int (nI i))] → W p l e room_1 s m #[Value.ref b] below meth c H locs 7 132 (lw_Z below #[Value.ref b] s) (F0 m 788 ls [])) : ∀ (lo hi : Nat → Int64) (hd : Int32) (ow off go : Int64), ck_inv hd lo hi → 0 ≤ ow → ∀ (H : Heap) (locs : List Loc), va_P D vwCl [(h, .inr (0, [.ref a1, .ref a2, .int hd, .long ow, .long off, .long go])), (a1, .inl (c1, 24, .inr (.inl lo))), (a2, .inl (c2, 24, .inr (.inl hi))), (g, .inr (1, [.ref b0, .ref b1, .ref b2, .long ow, .long off, .long go])), (b0, .inl (d0, 24, .inl (ck_bz (bt hd)))), (b1, .inl (d1, 24, .inr (.inl lo))), (b2, .inl (d2, 24, .inr (.inl hi)))] H → va_D (fun q : Nat => s.heap.size ≤ q) [(h, .inr (0, [.ref a1, .ref a2, .int hd, .long ow, .long off, .long go])), (a1, .inl (c1, 24, .inr (.inl lo))), (a2, .inl (c2, 24, .inr (.inl hi))), (g, .inr (1, [.ref b0, .ref b1, .ref b2, .long ow, .long off, .long go])), (b0, .inl (d0, 24, .inl (ck_bz (bt hd)))), (b1, .inl (d1, 24, .inr (.inl lo))), (b2, .inl (d2, 24, .inr (.inl hi)))] → va_S (fun q : Nat => s.heap.size ≤ q) s.heap H locs → ∀ ls, lv_has ls 4 [(0, .ref b), (1, .ref h), (2, .ref g), (3, .int (nI i))] → W p l e room_1 s m #[Value.ref b] below meth c H locs 7 132 (lw_Z below #[Value.ref b] s) (F0 m 527 ls []) := by
  obtain ⟨hx, hb, hr, hml, hown0, hts, hX, hbl, hlocks, hgv⟩ := id C0
  have hown : s.vm.findClass RL = some m.cls := hown0
  have htl : ∀ w ∈ wsL_law, w.before #[Value.ref b] s = true := fun w hw => hts w (wsL_law_in w hw)
  have hA : ∀ q : Nat, s.heap.size ≤ q → (fun q : Nat => s.heap.size ≤ q) q := fun _ h => h
  have hbA : ¬ (fun q : Nat => s.heap.size ≤ q) b := Nat.not_le.mpr hbl
  intro lo hi hd ow off go inv how H locs hP hD hS ls hl
  refine lv_aload_n hx hb dL_law_527 rfl (lv_at hl 1 rfl) ?_
  refine lv_aload_n hx hb dL_law_528 rfl (lv_at hl 0 rfl) ?_
  refine lv_iload_n hx hb dL_law_529 rfl (lv_at hl 3 rfl) ?_
  refine lv_iconst (v := 1) hx hb dL_law_530 (by decide) ?_
  refine lv_iadd hx hb dL_law_531 ?_
  refine ck_sld hx hb hX hbl hbA hS hL (k := i + 1) (nI_add i 1) (by omega) dL_law_532 ?_
  have hPx := hP.sub (ws' := [(h, .inr (0, [.ref a1, .ref a2, .int hd, .long ow, .long off, .long go])), (a1, .inl (c1, 24, .inr (.inl lo))), (a2, .inl (c2, 24, .inr (.inl hi)))]) [0, 1, 2] rfl
  have hKx := hK.sub (tys' := xT c1 c2) [0, 1] rfl
  refine ck_cV (As := [.int (xs (i + 1))]) (rest := []) ⟨hx, hb, hml, hown, htl⟩ (c_X0_chosen l D h a1 a2 c1 c2 lo hi hd ow off go (xs (i + 1))) (cwV 1 htl gL_law_X0_chosen rfl rfl rfl (by decide +kernel) ⟨Nat.le_of_ble_eq_true rfl, Nat.le_of_ble_eq_true rfl⟩) hPx hKx (va_recv hKx hPx (ci := 0) (q0 := 0) rfl rfl) rfl hl.1 rfl (Nat.le_of_ble_eq_true rfl) dL_law_533 ⟨Nat.le_of_ble_eq_true rfl, Nat.le_of_ble_eq_true rfl⟩ ?_
  refine lv_aload_n hx hb dL_law_536 rfl (lv_at hl 2 rfl) ?_
  refine lv_aload_n hx hb dL_law_537 rfl (lv_at hl 0 rfl) ?_
  refine lv_iload_n hx hb dL_law_538 rfl (lv_at hl 3 rfl) ?_
  refine lv_iconst (v := 1) hx hb dL_law_539 (by decide) ?_
  refine lv_iadd hx hb dL_law_540 ?_
  refine ck_sld hx hb hX hbl hbA hS hL (k := i + 1) (nI_add i 1) (by omega) dL_law_541 ?_
  have hPm := hP.sub (ws' := [(g, .inr (1, [.ref b0, .ref b1, .ref b2, .long ow, .long off, .long go])), (b0, .inl (d0, 24, .inl (ck_bz (bt hd)))), (b1, .inl (d1, 24, .inr (.inl lo))), (b2, .inl (d2, 24, .inr (.inl hi)))]) [3, 4, 5, 6] rfl
  have hKm := hK.sub (tys' := mT d0 d1 d2) [2, 3, 4] rfl
  refine ck_cV (As := [.int (xs (i + 1))]) (rest := [.int (ck_b (ck_ch hd lo hi (xs (i + 1))))]) ⟨hx, hb, hml, hown, htl⟩ (c_X1_chosen l D g b0 b1 b2 d0 d1 d2 lo hi hd ow off go inv (xs (i + 1))) (cwV 1 htl gL_law_X1_chosen rfl rfl rfl (by decide +kernel) ⟨Nat.le_of_ble_eq_true rfl, Nat.le_of_ble_eq_true rfl⟩) hPm hKm (va_recv hKm hPm (ci := 1) (q0 := 0) rfl rfl) rfl hl.1 rfl (Nat.le_of_ble_eq_true rfl) dL_law_542 ⟨Nat.le_of_ble_eq_true rfl, Nat.le_of_ble_eq_true rfl⟩ ?_
  refine lv_icmp_eq (tgt := 788) hx hb dL_law_545 (by decide) (fun _ => ?_) (fun cq => absurd rfl cq)
  exact tail lo hi hd ow off go (inv) (how) _ _ hP hD hS ls hl
