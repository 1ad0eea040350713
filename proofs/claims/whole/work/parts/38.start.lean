set_option maxHeartbeats 4000000 in
set_option maxRecDepth 100000 in
theorem whole_start {p : Program} {e : Env} {s : State} {m : MethodId} {below : List Frame} {meth : Method} {c : Code} (l : Launch) {b L : Nat} {xs : Nat → Int32} (hL : L ≤ 4096) (C0 : lw_At p s m meth c b L xs) : W p l e room_1 s m #[Value.ref b] below meth c s.heap [] 0 0 (lw_Z below #[Value.ref b] s) (entryFrame m ([Value.ref b] : List Value).toArray 4) := by
  obtain ⟨hx, hb, hr, hml, hown0, hts, hX, hbl, hlocks, hgv⟩ := id C0
  have hown : s.vm.findClass RL = some m.cls := hown0
  have htl : ∀ w ∈ wsL_law, w.before #[Value.ref b] s = true := fun w hw => hts w (wsL_law_in w hw)
  have hA : ∀ q : Nat, s.heap.size ≤ q → (fun q : Nat => s.heap.size ≤ q) q := fun _ h => h
  have hbA : ¬ (fun q : Nat => s.heap.size ≤ q) b := Nat.not_le.mpr hbl
  obtain ⟨k0, iS0, hKn0⟩ := u_known (C := RX0) (T := TX0) (N := 6) (n := 6) htl inlX0 (htl (.instantiable RX0 6) (by decide +kernel))
  obtain ⟨k1, iS1, hKn1⟩ := u_known (C := RX1) (T := TX1) (N := 6) (n := 6) htl inlX1 (htl (.instantiable RX1 6) (by decide +kernel))
  obtain ⟨D, hKd⟩ : ∃ D : va_G, ∀ (k : Nat) (q : vw_C), vwCl[k]? = some q → u_Kn s q.1 q.2.1 q.2.2 (D.1 k) (D.2 k) := by
    refine ⟨(fun k => if k = 0 then k0 else k1, fun k => if k = 0 then iS0 else iS1), ?_⟩
    intro k q hq
    match k, hq with
    | 0, hq => cases hq; exact hKn0
    | 1, hq => cases hq; exact hKn1
    | k + 2, hq => simp [vwCl] at hq
  have hS : va_S (fun q : Nat => s.heap.size ≤ q) s.heap s.heap [] := va_S.rf
  have hK : va_K D vwCl [] s := ⟨hKd, fun k q h => by simp at h⟩
  have hP : va_P D vwCl [] s.heap := fun k q h => by simp at h
  have hD : va_D (fun q : Nat => s.heap.size ≤ q) [] := ⟨fun i j p q h => by simp at h, fun k q h => by simp at h⟩
  have hl := lv_entry ([.ref b]) (n := 4) (Nat.le_of_ble_eq_true rfl)
  rw [lg_entry_eq]
  generalize (lg_sl ([.ref b]) ++ List.replicate (4 - (lg_sl ([.ref b])).length) Slot.unset).toArray = ls at hl ⊢
  have hl : lv_has ls 4 [(0, .ref b)] := hl
  refine va_new (ci := 0) (fs := [.null, .null, .int 0, .long 0, .long 0, .long 0]) (C := RX0) (T := TX0) (N := 6) hx hb htl inlX0 tyX0 tyX0_ok hown (htl (.classLink RL 7 RX0) (by decide +kernel)) (htl (.instantiable RX0 6) (by decide +kernel)) (htl (.initialized RX0) (by decide +kernel)) hK hP hD hS hA rfl (fun j hj => by rcases (show j = 0 ∨ j = 1 ∨ j = 2 ∨ j = 3 ∨ j = 4 ∨ j = 5 by omega) with rfl | rfl | rfl | rfl | rfl | rfl <;> rfl) (Nat.le_of_ble_eq_true rfl) (Nat.le_of_ble_eq_true rfl) dL_law_0 (fun h H hP hD hS => ?_)
  have hP : va_P D vwCl [(h, .inr (0, [.null, .null, .int 0, .long 0, .long 0, .long 0]))] H := hP
  have hD : va_D (fun q : Nat => s.heap.size ≤ q) [(h, .inr (0, [.null, .null, .int 0, .long 0, .long 0, .long 0]))] := hD
  refine W.widen (k := 1) (n := 6) (by omega) (by omega) ?_
  refine lv_dup hx hb dL_law_3 rfl ?_
  have hPc := hP.sub (ws' := [(h, .inr (0, [.null, .null, .int 0, .long 0, .long 0, .long 0]))]) [0] rfl
  have hDc := hD.sub (ws' := [(h, .inr (0, [.null, .null, .int 0, .long 0, .long 0, .long 0]))]) [0] (by decide) rfl
  have hKc := hK.sub (tys' := []) [] rfl
  have hFc := va_free (wc := [(h, .inr (0, [.null, .null, .int 0, .long 0, .long 0, .long 0]))]) hD hS hA [0] rfl
  refine va_callv (va_runI (As := []) (rest := [.ref h]) ⟨hx, hb, hml, hown, htl⟩ (c_X0_init l D h H.size) (cwI 0 htl gL_law_X0_init rfl rfl rfl (htl (.initialized RX0) (by decide +kernel)) (htl (.methodLink RL 9 yX0_init) (by decide +kernel)) (htl (.instanceMethod yX0_init) (by decide +kernel)) rfl (by decide +kernel) ⟨Nat.le_of_ble_eq_true rfl, Nat.le_of_ble_eq_true rfl⟩) ⟨fun a U g mk q => by obtain ⟨q0, q1, qP, qK, qD⟩ := q; exact ⟨q0, q1, qP, va_K.moved (u := U) (U := U.calling g mk a) (Vm.Alike.refl U.vm) qK, qD⟩, fun U hU hW => ⟨rfl, by rw [hU], by rw [hU]; exact hPc, va_K.moved hW.alike hKc, hDc.weaken (fun _ _ _ _ => trivial)⟩⟩ rfl rfl hl.1 rfl (lv_room (Nat.le_of_ble_eq_true rfl)) dL_law_4 ⟨Nat.le_of_ble_eq_true rfl, Nat.le_of_ble_eq_true rfl⟩) hS (fun q _ h => hFc q h) hFc (fun u t H1 locs ht hvm hw hB hz1 hk1 hS => ?_)
  obtain ⟨a1, a2, c1, c2, hP1, hK1, hD1⟩ := hB
  rw [ht] at hP1
  have hK1 := va_K.moved hvm.symm hK1
  obtain ⟨hP, hD⟩ := va_join (wr := []) (w1 := [(h, .inr (0, [.ref a1, .ref a2, .int 0, .long 0, .long 0, .long 0])), (a1, .inl (c1, 24, .inr (.inl (fun _ => 0)))), (a2, .inl (c2, 24, .inr (.inl (fun _ => 0))))]) hP hD [0] [] rfl rfl (by decide) (by decide) hk1 hFc hP1 hD1
  have hK := (hK.sub (tys' := []) [] rfl).app hK1
  generalize H1 = H at hP hS ⊢
  have hK : va_K D vwCl [(c1, .long), (c2, .long)] s := hK
  have hP : va_P D vwCl [(h, .inr (0, [.ref a1, .ref a2, .int 0, .long 0, .long 0, .long 0])), (a1, .inl (c1, 24, .inr (.inl (fun _ => 0)))), (a2, .inl (c2, 24, .inr (.inl (fun _ => 0))))] H := hP
  have hD : va_D (fun q : Nat => s.heap.size ≤ q) [(h, .inr (0, [.ref a1, .ref a2, .int 0, .long 0, .long 0, .long 0])), (a1, .inl (c1, 24, .inr (.inl (fun _ => 0)))), (a2, .inl (c2, 24, .inr (.inl (fun _ => 0))))] := hD
  refine W.widen (k := 3) (n := 54) (by omega) (by omega) ?_
  refine lv_astore_n (lv' := [(1, .ref h), (0, .ref b)]) hx hb dL_law_7 rfl hl (by decide) rfl (fun ls hl => ?_)
  refine va_new (ci := 1) (fs := [.null, .null, .null, .long 0, .long 0, .long 0]) (C := RX1) (T := TX1) (N := 6) hx hb htl inlX1 tyX1 tyX1_ok hown (htl (.classLink RL 10 RX1) (by decide +kernel)) (htl (.instantiable RX1 6) (by decide +kernel)) (htl (.initialized RX1) (by decide +kernel)) hK hP hD hS hA rfl (fun j hj => by rcases (show j = 0 ∨ j = 1 ∨ j = 2 ∨ j = 3 ∨ j = 4 ∨ j = 5 by omega) with rfl | rfl | rfl | rfl | rfl | rfl <;> rfl) (Nat.le_of_ble_eq_true rfl) (Nat.le_of_ble_eq_true rfl) dL_law_8 (fun g H hP hD hS => ?_)
  have hP : va_P D vwCl [(h, .inr (0, [.ref a1, .ref a2, .int 0, .long 0, .long 0, .long 0])), (a1, .inl (c1, 24, .inr (.inl (fun _ => 0)))), (a2, .inl (c2, 24, .inr (.inl (fun _ => 0)))), (g, .inr (1, [.null, .null, .null, .long 0, .long 0, .long 0]))] H := hP
  have hD : va_D (fun q : Nat => s.heap.size ≤ q) [(h, .inr (0, [.ref a1, .ref a2, .int 0, .long 0, .long 0, .long 0])), (a1, .inl (c1, 24, .inr (.inl (fun _ => 0)))), (a2, .inl (c2, 24, .inr (.inl (fun _ => 0)))), (g, .inr (1, [.null, .null, .null, .long 0, .long 0, .long 0]))] := hD
  refine W.widen (k := 4) (n := 60) (by omega) (by omega) ?_
  refine lv_dup hx hb dL_law_11 rfl ?_
  have hPc := hP.sub (ws' := [(g, .inr (1, [.null, .null, .null, .long 0, .long 0, .long 0]))]) [3] rfl
  have hDc := hD.sub (ws' := [(g, .inr (1, [.null, .null, .null, .long 0, .long 0, .long 0]))]) [3] (by decide) rfl
  have hKc := hK.sub (tys' := []) [] rfl
  have hFc := va_free (wc := [(g, .inr (1, [.null, .null, .null, .long 0, .long 0, .long 0]))]) hD hS hA [3] rfl
  refine va_callv (va_runI (As := []) (rest := [.ref g]) ⟨hx, hb, hml, hown, htl⟩ (c_X1_init l D g H.size) (cwI 0 htl gL_law_X1_init rfl rfl rfl (htl (.initialized RX1) (by decide +kernel)) (htl (.methodLink RL 12 yX1_init) (by decide +kernel)) (htl (.instanceMethod yX1_init) (by decide +kernel)) rfl (by decide +kernel) ⟨Nat.le_of_ble_eq_true rfl, Nat.le_of_ble_eq_true rfl⟩) ⟨fun a U g mk q => by obtain ⟨q0, q1, qP, qK, qD⟩ := q; exact ⟨q0, q1, qP, va_K.moved (u := U) (U := U.calling g mk a) (Vm.Alike.refl U.vm) qK, qD⟩, fun U hU hW => ⟨rfl, by rw [hU], by rw [hU]; exact hPc, va_K.moved hW.alike hKc, hDc.weaken (fun _ _ _ _ => trivial)⟩⟩ rfl rfl hl.1 rfl (lv_room (Nat.le_of_ble_eq_true rfl)) dL_law_12 ⟨Nat.le_of_ble_eq_true rfl, Nat.le_of_ble_eq_true rfl⟩) hS (fun q _ h => hFc q h) hFc (fun u t H1 locs ht hvm hw hB hz1 hk1 hS => ?_)
  obtain ⟨b0, b1, b2, d0, d1, d2, hP1, hK1, hD1⟩ := hB
  rw [ht] at hP1
  have hK1 := va_K.moved hvm.symm hK1
  obtain ⟨hP, hD⟩ := va_join (wr := [(h, .inr (0, [.ref a1, .ref a2, .int 0, .long 0, .long 0, .long 0])), (a1, .inl (c1, 24, .inr (.inl (fun _ => 0)))), (a2, .inl (c2, 24, .inr (.inl (fun _ => 0))))]) (w1 := [(g, .inr (1, [.ref b0, .ref b1, .ref b2, .long 0, .long 0, .long 0])), (b0, .inl (d0, 24, .inl (ck_bz (bt 0)))), (b1, .inl (d1, 24, .inr (.inl (fun _ => 0)))), (b2, .inl (d2, 24, .inr (.inl (fun _ => 0))))]) hP hD [3] [0, 1, 2] rfl rfl (by decide) (by decide) hk1 hFc hP1 hD1
  have hK := (hK.sub (tys' := [(c1, .long), (c2, .long)]) [0, 1] rfl).app hK1
  generalize H1 = H at hP hS ⊢
  have hK : va_K D vwCl [(c1, .long), (c2, .long), (d0, .boolean), (d1, .long), (d2, .long)] s := hK
  have hP : va_P D vwCl [(h, .inr (0, [.ref a1, .ref a2, .int 0, .long 0, .long 0, .long 0])), (a1, .inl (c1, 24, .inr (.inl (fun _ => 0)))), (a2, .inl (c2, 24, .inr (.inl (fun _ => 0)))), (g, .inr (1, [.ref b0, .ref b1, .ref b2, .long 0, .long 0, .long 0])), (b0, .inl (d0, 24, .inl (ck_bz (bt 0)))), (b1, .inl (d1, 24, .inr (.inl (fun _ => 0)))), (b2, .inl (d2, 24, .inr (.inl (fun _ => 0))))] H := hP
  have hD : va_D (fun q : Nat => s.heap.size ≤ q) [(h, .inr (0, [.ref a1, .ref a2, .int 0, .long 0, .long 0, .long 0])), (a1, .inl (c1, 24, .inr (.inl (fun _ => 0)))), (a2, .inl (c2, 24, .inr (.inl (fun _ => 0)))), (g, .inr (1, [.ref b0, .ref b1, .ref b2, .long 0, .long 0, .long 0])), (b0, .inl (d0, 24, .inl (ck_bz (bt 0)))), (b1, .inl (d1, 24, .inr (.inl (fun _ => 0)))), (b2, .inl (d2, 24, .inr (.inl (fun _ => 0))))] := hD
  refine W.widen (k := 7) (n := 132) (by omega) (by omega) ?_
  refine lv_astore_n (lv' := [(2, .ref g), (1, .ref h), (0, .ref b)]) hx hb dL_law_15 rfl hl (by decide) rfl (fun ls hl => ?_)
  refine lv_iconst (v := 0) hx hb dL_law_16 (by decide) ?_
  refine lv_istore_n (lv' := [(3, .int 0), (2, .ref g), (1, .ref h), (0, .ref b)]) hx hb dL_law_17 rfl hl (by decide) rfl (fun ls hl => ?_)
  exact law_loop l hL C0 D h a1 a2 g b0 b1 b2 c1 c2 d0 d1 d2 hK 4105 0 (by omega) (by omega) (fun _ => 0) (fun _ => 0) 0 0 0 0 ck_inv0 (by decide) H locs hP hD hS ls (lv_sub hl [3, 2, 1, 0] rfl)
