-- methods that write: their contracts' form, and what they do to the state
def ck_Cw (D : va_G) (w : va_W) (tys : List (ClassId × FieldType)) (sz : Nat) : State → Prop := fun U => U.heap.size = sz ∧ va_P D vwCl w U.heap ∧ va_K D vwCl tys U ∧ va_D (fun _ => True) w
def ck_Wr (v : Option Value) (D : va_G) (w : va_W) (A : Nat → Prop) : Array Value → State → Outcome → State → Prop := fun _ st o t => o = .returned v ∧ va_P D vwCl w t.heap ∧ va_D A w ∧ va_F A st t
def ck_ivk (x : Int32) (a b : Int64) : Bool := ck_src x && (!decide (a < ck_NFAR) && (!decide (b < a) && decide (b ≤ ck_FAR)))
def ck_exk (x : Int32) (sent told came : Int64) : Bool := ck_src x && (ck_tm sent && (ck_tm told && (ck_tm came && decide (sent ≤ came))))
def ck_uL (ok : Bool) (f : Nat → Int64) (x : Int32) (v : Int64) : Nat → Int64 := if ok then vp_updL f x.toNatClampNeg v else f
def ck_uH (ok : Bool) (hd x : Int32) : Int32 := if ok then hd ||| (1 <<< (x &&& 31)) else hd
def ck_dH (hd x : Int32) : Int32 := if ck_in hd x then ck_wo hd x else hd
def ck_exv (x : Int32) (sent told came : Int64) : Int64 := if ck_exk x sent told came then told + ck_half (came - sent) - came else ck_NO
def ck_tk (ow t : Int64) : Bool := !decide (t < ow) && decide (t ≤ ck_TIME)
def ck_tO (ow off go t : Int64) : Int64 := if ck_tk ow t then off + ck_max (-((t - ow) / 2000)) (ck_min ((t - ow) / 2000) (go - off)) else off
def ck_tW (ow t : Int64) : Int64 := if ck_tk ow t then t else ow
def ck_sk (hd : Int32) (lo hi : Nat → Int64) : Bool := decide (ck_ns hd < 2 * ck_gr (bt hd) lo hi 24)
def ck_sG (hd : Int32) (lo hi : Nat → Int64) (go : Int64) : Int64 := if ck_sk hd lo hi then ck_half (ck_rg hd lo hi 0 + ck_rg hd lo hi 1) else go
section CW
variable {p : Program} {l : Launch} {e : Env} {R : Room} {s : State} {m : MethodId} {args : Array Value} {below : List Frame} {meth : Method} {c : Code} {H : Heap} {locs : List Loc} {cells slots : Nat} {Q : State → Prop}
variable {Ts ws : List Cond} {cc bytes : ByteArray} {nL maxL index n pc : Nat} {own C : String} {y : MethodName} {ret : Option FieldType} {rm : Room} {b : Addr} {As rest st : List Value} {ls : Array Slot} {D : va_G} {w wc wr w1 : va_W} {tys : List (ClassId × FieldType)} {v : Option Value} {A0 : Nat → Prop} {H0 : Heap}
theorem ck_wV (S : CallFix p m c cc nL s args Ts own) (hM : Met l y ws rm (va_Pc (.ref b :: As) (ck_Cw D wc tys H.size)) (ck_Wr v D w1 (va_A wc H.size)) 0 0 (va_A wc H.size)) (cw : CallW R s args own C index y bytes maxL ret ws rm 0 0 n)
    (hP : va_P D vwCl w H) (hD : va_D A0 w) (hS : va_S A0 H0 H locs) (hA : ∀ q, H0.size ≤ q → A0 q) (hK : va_K D vwCl tys s) (isC isR : List Nat) (hC : isC.map (fun i => w[i]?) = wc.map some) (hPc : va_P D vwCl wc H) (hDc : va_D A0 wc) (hR : isR.map (fun i => w[i]?) = wr.map some) (hnd : va_nd isR = true) (hdis : ∀ i ∈ isR, i ∉ isC)
    (hrv : ∃ cellB : Cell, H[b]? = some cellB ∧ cellB.vm.isStatics = false ∧ s.vm.findClass C = some cellB.cls) (hn : As.length = n) (hsize : ls.size = nL) (hst : st = As.reverse ++ .ref b :: rest) (hW : (rest.map fun v => v.category).sum ≤ 8) (hdg : decode cc pc = .ok (.invokevirtual index, 3)) (hf : cells + 0 ≤ R.cells ∧ slots + 0 ≤ R.slots)
    (kk : ∀ (H : Heap) (locs : List Loc), va_P D vwCl (wr ++ w1) H → va_D A0 (wr ++ w1) → va_S A0 H0 H locs → W p l e R s m args below meth c H locs cells slots Q (F0 m (pc + 3) ls (v.toList ++ rest))) : W p l e R s m args below meth c H locs cells slots Q (F0 m pc ls st) := by
  intro T hT X
  have hF := va_free (wc := wc) hD hS hA isC hC
  obtain ⟨v', st₀, t, T', L, h0, X', hL, e1, ⟨hv, hP1, hD1, hz, hk⟩, go⟩ := W.runV (rest := rest) (g := F0 m pc ls st) S hM cw ⟨fun a U g mk q => by obtain ⟨q0, q1, qP, qK, qD⟩ := q; exact ⟨q0, q1, qP, va_K.moved (u := U) (U := U.calling g mk a) (Vm.Alike.refl U.vm) qK, qD⟩, hrv, fun U hU hWm => ⟨rfl, by rw [hU], by rw [hU]; exact hPc, va_K.moved hWm.alike hK, hDc.weaken (fun _ _ _ _ => trivial)⟩⟩ rfl hn hsize hst (lv_room hW) hdg hf T hT X
  cases hv
  rw [h0] at hz hk
  rw [← e1] at hP1 hz hk
  obtain ⟨hP2, hD2⟩ := va_join hP hD isC isR hC hR hnd hdis hk hF hP1 hD1
  have hS2 : va_S A0 H0 T'.heap (locs ++ L) := ⟨Nat.le_trans hS.1 hz, fun q h1 h2 => by rw [hk q (Nat.lt_of_lt_of_le h1 hS.1) (fun z => h2 (hF q z))]; exact hS.2.1 q h1 h2, fun q hq => by
      rcases List.mem_append.mp hq with h | h
      · exact hS.2.2 q h
      · exact hF _ (hL q h)⟩
  obtain ⟨t2, a1, b1⟩ := kk T'.heap (locs ++ L) hP2 hD2 hS2 T' rfl X'
  exact ⟨t2, go t2 a1, b1⟩
variable {cl : List vw_C} {a : Nat} {A : Nat → Prop}
theorem ck_last (hexec : p.tables.exec = Jvm.exec) (hb : c.code = cc) (hK : va_K D cl tys s) (hP : va_P D cl w H) (hD : va_D A w) (hS : va_S A H0 H locs) (q0 t0 : Nat) {cA : ClassId} {f : Nat → Int64} (ha : w[q0]? = some (a, .inl (cA, 24, .inr (.inl f)))) (ht : tys[t0]? = some (cA, .long)) {i : Nat} {x : Int64} (hi : i < 24) (hdg : decode cc pc = .ok (.lastore, 1))
    (kk : ∀ (H1 : Heap) (locs1 : List Loc), va_P D cl (w.set q0 (a, .inl (cA, 24, .inr (.inl (vp_updL f i x))))) H1 → va_D A (w.set q0 (a, .inl (cA, 24, .inr (.inl (vp_updL f i x))))) → va_S A H0 H1 locs1 → W p l e R s m args below meth c H1 locs1 cells slots Q (F0 m (pc + 1) ls rest)) : W p l e R s m args below meth c H locs cells slots Q (F0 m pc ls (.long x :: .int (nI i) :: .ref a :: rest)) :=
  va_last hexec hb hK hP hD hS q0 t0 ha ht (vp_in_nI hi (by decide)) hdg (by rw [nI_clamp (by omega)]; exact kk)
theorem ck_zast (hexec : p.tables.exec = Jvm.exec) (hb : c.code = cc) (hK : va_K D cl tys s) (hP : va_P D cl w H) (hD : va_D A w) (hS : va_S A H0 H locs) (q0 t0 : Nat) {cA : ClassId} {f : Nat → Int32} (ha : w[q0]? = some (a, .inl (cA, 24, .inl f))) (ht : tys[t0]? = some (cA, .boolean)) {i : Nat} {x : Int32} (hi : i < 24) (hx1 : vp_nar .boolean x = x) (hdg : decode cc pc = .ok (.bastore, 1))
    (kk : ∀ (H1 : Heap) (locs1 : List Loc), va_P D cl (w.set q0 (a, .inl (cA, 24, .inl (upd f i x)))) H1 → va_D A (w.set q0 (a, .inl (cA, 24, .inl (upd f i x)))) → va_S A H0 H1 locs1 → W p l e R s m args below meth c H1 locs1 cells slots Q (F0 m (pc + 1) ls rest)) : W p l e R s m args below meth c H locs cells slots Q (F0 m pc ls (.int x :: .int (nI i) :: .ref a :: rest)) :=
  va_zast hexec hb hK hP hD hS q0 t0 ha ht (vp_in_nI hi (by decide)) hdg (by rw [nI_clamp (by omega), hx1]; exact kk)
end CW
theorem ck_bz_on (hd : Int32) {j : Nat} (hj : j < 24) : upd (ck_bz (bt hd)) j 1 = ck_bz (bt (hd ||| ((1 : Int32) <<< (nI j &&& 31)))) := by
  funext k
  unfold upd ck_bz
  rw [ck_bt_or hd hj]
  by_cases e : k = j
  · rw [if_pos e, decide_eq_true e, Bool.or_true]; rfl
  · rw [if_neg e, decide_eq_false e, Bool.or_false]
theorem ck_bz_off (hd : Int32) {j : Nat} (hj : j < 24) : upd (ck_bz (bt hd)) j 0 = ck_bz (bt (ck_wo hd (nI j))) := by
  funext k
  unfold upd ck_bz
  rw [ck_bt_wo hd hj]
  by_cases e : k = j
  · rw [if_pos e, decide_eq_true e, Bool.not_true, Bool.and_false]; rfl
  · rw [if_neg e, decide_eq_false e, Bool.not_false, Bool.and_true]
def ck_exm (x : Int32) (sent told came : Int64) : Bool := ck_src x && (!decide (sent < 0) && (!decide (came < sent) && (!decide (ck_TIME < came) && (!decide (told < 0) && decide (told ≤ ck_TIME)))))
theorem ck_exkE (x : Int32) (sent told came : Int64) : ck_exk x sent told came = ck_exm x sent told came := by
  unfold ck_exk ck_exm ck_tm
  rw [Bool.eq_iff_iff]
  simp only [Bool.and_eq_true, Bool.not_eq_true', decide_eq_false_iff_not, decide_eq_true_eq, Int64.lt_iff_toInt_lt, Int64.le_iff_toInt_le, ck_i0]
  constructor
  · rintro ⟨h, ⟨a1, a2⟩, ⟨a3, a4⟩, ⟨a5, a6⟩, a7⟩
    exact ⟨h, a1, by omega, a6, a3, by omega⟩
  · rintro ⟨h, a1, a2, a3, a4, a5⟩
    exact ⟨h, ⟨a1, by omega⟩, ⟨a4, by omega⟩, ⟨by omega, a3⟩, by omega⟩
