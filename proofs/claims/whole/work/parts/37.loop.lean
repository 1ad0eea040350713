set_option maxHeartbeats 4000000 in
set_option maxRecDepth 100000 in
theorem law_loop {p : Program} {e : Env} {s : State} {m : MethodId} {below : List Frame} {meth : Method} {c : Code} (l : Launch) {b L : Nat} {xs : Nat → Int32} (hL : L ≤ 4096) (C0 : lw_At p s m meth c b L xs) (D : va_G) (h a1 a2 g b0 b1 b2 : Nat) (c1 c2 d0 d1 d2 : ClassId) (hK : va_K D vwCl [(c1, .long), (c2, .long), (d0, .boolean), (d1, .long), (d2, .long)] s) : ∀ (n i : Nat), i ≤ 4104 → 4104 - i < n → ∀ (lo hi : Nat → Int64) (hd : Int32) (ow off go : Int64), ck_inv hd lo hi → 0 ≤ ow → ∀ (H : Heap) (locs : List Loc), va_P D vwCl [(h, .inr (0, [.ref a1, .ref a2, .int hd, .long ow, .long off, .long go])), (a1, .inl (c1, 24, .inr (.inl lo))), (a2, .inl (c2, 24, .inr (.inl hi))), (g, .inr (1, [.ref b0, .ref b1, .ref b2, .long ow, .long off, .long go])), (b0, .inl (d0, 24, .inl (ck_bz (bt hd)))), (b1, .inl (d1, 24, .inr (.inl lo))), (b2, .inl (d2, 24, .inr (.inl hi)))] H → va_D (fun q : Nat => s.heap.size ≤ q) [(h, .inr (0, [.ref a1, .ref a2, .int hd, .long ow, .long off, .long go])), (a1, .inl (c1, 24, .inr (.inl lo))), (a2, .inl (c2, 24, .inr (.inl hi))), (g, .inr (1, [.ref b0, .ref b1, .ref b2, .long ow, .long off, .long go])), (b0, .inl (d0, 24, .inl (ck_bz (bt hd)))), (b1, .inl (d1, 24, .inr (.inl lo))), (b2, .inl (d2, 24, .inr (.inl hi)))] → va_S (fun q : Nat => s.heap.size ≤ q) s.heap H locs → ∀ ls, lv_has ls 4 [(0, .ref b), (1, .ref h), (2, .ref g), (3, .int (nI i))] → W p l e room_1 s m #[Value.ref b] below meth c H locs 7 132 (lw_Z below #[Value.ref b] s) (F0 m 18 ls []) := by
  obtain ⟨hx, hb, hr, hml, hown0, hts, hX, hbl, hlocks, hgv⟩ := id C0
  have hown : s.vm.findClass RL = some m.cls := hown0
  have htl : ∀ w ∈ wsL_law, w.before #[Value.ref b] s = true := fun w hw => hts w (wsL_law_in w hw)
  have hA : ∀ q : Nat, s.heap.size ≤ q → (fun q : Nat => s.heap.size ≤ q) q := fun _ h => h
  have hbA : ¬ (fun q : Nat => s.heap.size ≤ q) b := Nat.not_le.mpr hbl
  intro n
  induction n with
  | zero => intro i hi hn; omega
  | succ n ih =>
    intro i hi hn lo hi1 hd ow off go inv how H locs hP hD hS ls hl
    refine lv_iload_n hx hb dL_law_18 rfl (lv_at hl 3 rfl) ?_
    refine lv_aload_n hx hb dL_law_19 rfl (lv_at hl 0 rfl) ?_
    refine va_slen hx hb hX hbl hbA hS dL_law_20 ?_
    refine lv_bipush (v := 8) hx hb dL_law_21 (by decide) ?_
    refine lv_isub hx hb dL_law_23 ?_
    refine lv_icmp_gt (tgt := 794) hx hb dL_law_24 (by decide) (fun cx => ?_) (fun cx => ?_)
    · refine lv_iconst (v := 1) hx hb dL_law_794 (by decide) ?_
      refine va_forget (fun q hq => hS.2.2 q hq) ?_
      exact lw_ret hx hb hr hlocks dL_law_795
    · have hi8 : i + 8 ≤ L := ck_hd8 hL hi cx
      refine lv_aload_n hx hb dL_law_27 rfl (lv_at hl 0 rfl) ?_
      refine lv_iload_n hx hb dL_law_28 rfl (lv_at hl 3 rfl) ?_
      refine ck_sld hx hb hX hbl hbA hS hL (k := i) rfl (by omega) dL_law_29 ?_
      refine lv_bipush (v := 31) hx hb dL_law_30 (by decide) ?_
      refine lv_iand hx hb dL_law_32 ?_
      obtain ⟨j, hj, ej⟩ := pk_andE (xs i) (m := 31) 5 (by decide)
      rw [ej]
      have tail : ∀ (lo hi : Nat → Int64) (hd : Int32) (ow off go : Int64), ck_inv hd lo hi → 0 ≤ ow → ∀ (H : Heap) (locs : List Loc), va_P D vwCl [(h, .inr (0, [.ref a1, .ref a2, .int hd, .long ow, .long off, .long go])), (a1, .inl (c1, 24, .inr (.inl lo))), (a2, .inl (c2, 24, .inr (.inl hi))), (g, .inr (1, [.ref b0, .ref b1, .ref b2, .long ow, .long off, .long go])), (b0, .inl (d0, 24, .inl (ck_bz (bt hd)))), (b1, .inl (d1, 24, .inr (.inl lo))), (b2, .inl (d2, 24, .inr (.inl hi)))] H → va_D (fun q : Nat => s.heap.size ≤ q) [(h, .inr (0, [.ref a1, .ref a2, .int hd, .long ow, .long off, .long go])), (a1, .inl (c1, 24, .inr (.inl lo))), (a2, .inl (c2, 24, .inr (.inl hi))), (g, .inr (1, [.ref b0, .ref b1, .ref b2, .long ow, .long off, .long go])), (b0, .inl (d0, 24, .inl (ck_bz (bt hd)))), (b1, .inl (d1, 24, .inr (.inl lo))), (b2, .inl (d2, 24, .inr (.inl hi)))] → va_S (fun q : Nat => s.heap.size ≤ q) s.heap H locs → ∀ ls, lv_has ls 4 [(0, .ref b), (1, .ref h), (2, .ref g), (3, .int (nI i))] → W p l e room_1 s m #[Value.ref b] below meth c H locs 7 132 (lw_Z below #[Value.ref b] s) (F0 m 788 ls []) := by
        intro lo hi hd ow off go inv how H locs hP hD hS ls hl
        refine lv_iinc (v := nI (i + 8)) (lv' := [(3, .int (nI (i + 8))), (0, .ref b), (1, .ref h), (2, .ref g)]) hx hb dL_law_788 hl (k := 3) rfl (nI_add i 8) (by decide) rfl (fun ls hl => ?_)
        refine lv_goto (tgt := 18) hx hb dL_law_791 (by decide) ?_
        exact ih (i + 8) (by omega) (by omega) lo hi hd ow off go inv how H locs hP hD hS ls (lv_sub hl [1, 2, 3, 0] rfl)
      rcases Nat.lt_or_ge j 17 with hlt | hge
      · rcases (show j = 0 ∨ j = 1 ∨ j = 2 ∨ j = 3 ∨ j = 4 ∨ j = 5 ∨ j = 6 ∨ j = 7 ∨ j = 8 ∨ j = 9 ∨ j = 10 ∨ j = 11 ∨ j = 12 ∨ j = 13 ∨ j = 14 ∨ j = 15 ∨ j = 16 by omega) with rfl | rfl | rfl | rfl | rfl | rfl | rfl | rfl | rfl | rfl | rfl | rfl | rfl | rfl | rfl | rfl | rfl
        · refine lv_tableIn (off := 83) (tgt := 116) hx hb dL_law_33 (by decide) (by decide) rfl (by decide) ?_
          exact law_c0 l hL C0 D h a1 a2 g b0 b1 b2 c1 c2 d0 d1 d2 hK i hi8 tail lo hi1 hd ow off go inv how H locs hP hD hS ls hl
        · refine lv_tableIn (off := 186) (tgt := 219) hx hb dL_law_33 (by decide) (by decide) rfl (by decide) ?_
          exact law_c1 l hL C0 D h a1 a2 g b0 b1 b2 c1 c2 d0 d1 d2 hK i hi8 tail lo hi1 hd ow off go inv how H locs hP hD hS ls hl
        · refine lv_tableIn (off := 334) (tgt := 367) hx hb dL_law_33 (by decide) (by decide) rfl (by decide) ?_
          exact law_c2 l hL C0 D h a1 a2 g b0 b1 b2 c1 c2 d0 d1 d2 hK i hi8 tail lo hi1 hd ow off go inv how H locs hP hD hS ls hl
        · refine lv_tableIn (off := 357) (tgt := 390) hx hb dL_law_33 (by decide) (by decide) rfl (by decide) ?_
          exact law_c3 l hL C0 D h a1 a2 g b0 b1 b2 c1 c2 d0 d1 d2 hK i hi8 tail lo hi1 hd ow off go inv how H locs hP hD hS ls hl
        · refine lv_tableIn (off := 370) (tgt := 403) hx hb dL_law_33 (by decide) (by decide) rfl (by decide) ?_
          exact law_c4 l hL C0 D h a1 a2 g b0 b1 b2 c1 c2 d0 d1 d2 hK i hi8 tail lo hi1 hd ow off go inv how H locs hP hD hS ls hl
        · refine lv_tableIn (off := 423) (tgt := 456) hx hb dL_law_33 (by decide) (by decide) rfl (by decide) ?_
          exact law_c5 l hL C0 D h a1 a2 g b0 b1 b2 c1 c2 d0 d1 d2 hK i hi8 tail lo hi1 hd ow off go inv how H locs hP hD hS ls hl
        · refine lv_tableIn (off := 436) (tgt := 469) hx hb dL_law_33 (by decide) (by decide) rfl (by decide) ?_
          exact law_c6 l hL C0 D h a1 a2 g b0 b1 b2 c1 c2 d0 d1 d2 hK i hi8 tail lo hi1 hd ow off go inv how H locs hP hD hS ls hl
        · refine lv_tableIn (off := 460) (tgt := 493) hx hb dL_law_33 (by decide) (by decide) rfl (by decide) ?_
          exact law_c7 l hL C0 D h a1 a2 g b0 b1 b2 c1 c2 d0 d1 d2 hK i hi8 tail lo hi1 hd ow off go inv how H locs hP hD hS ls hl
        · refine lv_tableIn (off := 494) (tgt := 527) hx hb dL_law_33 (by decide) (by decide) rfl (by decide) ?_
          exact law_c8 l hL C0 D h a1 a2 g b0 b1 b2 c1 c2 d0 d1 d2 hK i hi8 tail lo hi1 hd ow off go inv how H locs hP hD hS ls hl
        · refine lv_tableIn (off := 517) (tgt := 550) hx hb dL_law_33 (by decide) (by decide) rfl (by decide) ?_
          exact law_c9 l hL C0 D h a1 a2 g b0 b1 b2 c1 c2 d0 d1 d2 hK i hi8 tail lo hi1 hd ow off go inv how H locs hP hD hS ls hl
        · refine lv_tableIn (off := 581) (tgt := 614) hx hb dL_law_33 (by decide) (by decide) rfl (by decide) ?_
          exact law_c10 l hL C0 D h a1 a2 g b0 b1 b2 c1 c2 d0 d1 d2 hK i hi8 tail lo hi1 hd ow off go inv how H locs hP hD hS ls hl
        · refine lv_tableIn (off := 604) (tgt := 637) hx hb dL_law_33 (by decide) (by decide) rfl (by decide) ?_
          exact law_c11 l hL C0 D h a1 a2 g b0 b1 b2 c1 c2 d0 d1 d2 hK i hi8 tail lo hi1 hd ow off go inv how H locs hP hD hS ls hl
        · refine lv_tableIn (off := 637) (tgt := 670) hx hb dL_law_33 (by decide) (by decide) rfl (by decide) ?_
          exact law_c12 l hL C0 D h a1 a2 g b0 b1 b2 c1 c2 d0 d1 d2 hK i hi8 tail lo hi1 hd ow off go inv how H locs hP hD hS ls hl
        · refine lv_tableIn (off := 690) (tgt := 723) hx hb dL_law_33 (by decide) (by decide) rfl (by decide) ?_
          exact law_c13 l hL C0 D h a1 a2 g b0 b1 b2 c1 c2 d0 d1 d2 hK i hi8 tail lo hi1 hd ow off go inv how H locs hP hD hS ls hl
        · refine lv_tableIn (off := 703) (tgt := 736) hx hb dL_law_33 (by decide) (by decide) rfl (by decide) ?_
          exact law_c14 l hL C0 D h a1 a2 g b0 b1 b2 c1 c2 d0 d1 d2 hK i hi8 tail lo hi1 hd ow off go inv how H locs hP hD hS ls hl
        · refine lv_tableIn (off := 717) (tgt := 750) hx hb dL_law_33 (by decide) (by decide) rfl (by decide) ?_
          exact law_c15 l hL C0 D h a1 a2 g b0 b1 b2 c1 c2 d0 d1 d2 hK i hi8 tail lo hi1 hd ow off go inv how H locs hP hD hS ls hl
        · refine lv_tableIn (off := 741) (tgt := 774) hx hb dL_law_33 (by decide) (by decide) rfl (by decide) ?_
          exact law_c16 l hL C0 D h a1 a2 g b0 b1 b2 c1 c2 d0 d1 d2 hK i hi8 tail lo hi1 hd ow off go inv how H locs hP hD hS ls hl
      · refine lv_tableOut (tgt := 788) hx hb dL_law_33 (Or.inr (by rw [nI_toInt (by omega)]; omega)) (by decide) ?_
        exact tail lo hi1 hd ow off go inv how H locs hP hD hS ls hl
