-- ranks, the median's being there, means, the survivors
theorem ck_cN_rem {P : Nat → Bool} {M : Nat} : ∀ n, M < n → P M = true → ck_cN (fun o => P o && !decide (o = M)) n + 1 = ck_cN P n
  | 0, h, _ => absurd h (Nat.not_lt_zero M)
  | n + 1, h, hp => by
    show (if (P n && !decide (n = M)) then ck_cN (fun o => P o && !decide (o = M)) n + 1 else ck_cN (fun o => P o && !decide (o = M)) n) + 1 = (if P n then ck_cN P n + 1 else ck_cN P n)
    rcases Nat.lt_or_ge M n with q | q
    · have ih := ck_cN_rem n q hp
      rw [decide_eq_false (show ¬ n = M by omega)]
      cases P n <;> simp <;> omega
    · have e : M = n := by omega
      subst e
      rw [hp]
      have := ck_cN_congr (P := fun o => P o && !decide (o = M)) (Q := P) M (fun j hj => by rw [decide_eq_false (show ¬ j = M by omega)]; simp)
      simp
      omega
theorem ck_mx_ex (K : Nat → Int) (P : Nat → Bool) : ∀ n, (∃ j, j < n ∧ P j = true) → ∃ M, M < n ∧ P M = true ∧ ∀ o, o < n → P o = true → K o ≤ K M
  | 0, ⟨j, hj, _⟩ => absurd hj (Nat.not_lt_zero j)
  | n + 1, ⟨j, hj, hp⟩ => by
    by_cases hx : ∃ i, i < n ∧ P i = true
    · obtain ⟨M, h1, h2, h3⟩ := ck_mx_ex K P n hx
      by_cases hn : P n = true ∧ K M < K n
      · refine ⟨n, by omega, hn.1, fun o ho hpo => ?_⟩
        rcases Nat.lt_or_ge o n with q | q
        · have := h3 o q hpo
          omega
        · rw [show o = n by omega]; exact Int.le_refl _
      · refine ⟨M, by omega, h2, fun o ho hpo => ?_⟩
        rcases Nat.lt_or_ge o n with q | q
        · exact h3 o q hpo
        · have e : o = n := by omega
          subst e
          rcases Int.lt_or_le (K M) (K o) with z | z
          · exact absurd ⟨hpo, z⟩ hn
          · exact z
    · have e : j = n := by
        rcases Nat.lt_or_ge j n with q | q
        · exact absurd ⟨j, q, hp⟩ hx
        · omega
      subst e
      refine ⟨j, by omega, hp, fun o ho hpo => ?_⟩
      rcases Nat.lt_or_ge o j with q | q
      · exact absurd ⟨o, q, hpo⟩ hx
      · rw [show o = j by omega]; exact Int.le_refl _
theorem ck_rank_ex (N : Nat) (K : Nat → Int) (hK : ∀ a b, a < N → b < N → K a = K b → a = b) : ∀ n (P : Nat → Bool), ck_cN P N = n → ∀ r, r < n → ∃ j, j < N ∧ P j = true ∧ ck_cN (fun o => P o && decide (K o < K j)) N = r
  | 0, _, _, r, hr => absurd hr (Nat.not_lt_zero r)
  | n + 1, P, hn, r, hr => by
    obtain ⟨M, h1, h2, h3⟩ := ck_mx_ex K P N (ck_cN_ex N (by omega))
    have hrem := ck_cN_rem (P := P) N h1 h2
    rcases Nat.lt_or_ge r n with q | q
    · obtain ⟨j, a, b, c⟩ := ck_rank_ex N K hK n (fun o => P o && !decide (o = M)) (by omega) r q
      simp only [Bool.and_eq_true, Bool.not_eq_true', decide_eq_false_iff_not] at b
      refine ⟨j, a, b.1, ?_⟩
      rw [← c]
      refine ck_cN_congr N (fun o ho => ?_)
      by_cases e : o = M
      · subst e
        have := h3 j a b.1
        rw [decide_eq_false (show ¬ K o < K j by omega)]
        simp
      · simp [e]
    · refine ⟨M, h1, h2, ?_⟩
      have : ck_cN (fun o => P o && decide (K o < K M)) N = ck_cN (fun o => P o && !decide (o = M)) N := ck_cN_congr N (fun o ho => by
        cases hp : P o with
        | false => rfl
        | true =>
          have := h3 o ho hp
          by_cases e : o = M
          · subst e
            simp
          · have hne : ¬ K o = K M := fun z => e (hK o M ho h1 z)
            rw [decide_eq_true (show K o < K M by omega), decide_eq_false e]
            rfl)
      omega
def ck_K (lo hi : Nat → Int64) (a : Nat) : Int := (ck_mid lo hi a).toInt * 32 + a
theorem ck_plP_K (is : Nat → Bool) (lo hi : Nat → Int64) {j o : Nat} (hj : j < 24) (ho : o < 24) : ck_plP is lo hi j o = (is o && decide (ck_K lo hi o < ck_K lo hi j)) := by
  unfold ck_plP
  congr 1
  rw [Bool.eq_iff_iff]
  simp only [Bool.or_eq_true, Bool.and_eq_true, Bool.not_eq_true', decide_eq_true_eq, decide_eq_false_iff_not, nI_leI (show j < 2 ^ 31 by omega) (show o < 2 ^ 31 by omega), Int64.lt_iff_toInt_lt, ← Int64.toInt_inj]
  unfold ck_K
  omega
theorem ck_mdf_none {is : Nat → Bool} {lo hi : Nat → Int64} {w : Int32} : ∀ n, ck_mdf is lo hi w n = none → ∀ j, j < n → is j = true → ¬ ck_pl is lo hi j = w
  | 0, _, j, hj, _ => absurd hj (Nat.not_lt_zero j)
  | n + 1, h, j, hj, hi1 => by
    have e : ck_mdf is lo hi w (n + 1) = match ck_mdf is lo hi w n with
      | some v => some v
      | none => if is n && decide (ck_pl is lo hi n = w) then some (ck_mid lo hi n) else none := rfl
    rw [e] at h
    cases hm : ck_mdf is lo hi w n with
    | some v => rw [hm] at h; cases h
    | none =>
      rw [hm] at h
      rcases Nat.lt_or_ge j n with q | q
      · exact ck_mdf_none n hm j q hi1
      · have ej : j = n := by omega
        subst ej
        intro z
        simp [hi1, z] at h
theorem ck_mdf_some {is : Nat → Bool} {lo hi : Nat → Int64} {w : Int32} {v : Int64} : ∀ n, ck_mdf is lo hi w n = some v → ∃ j, j < n ∧ is j = true ∧ v = ck_mid lo hi j
  | 0, h => by cases h
  | n + 1, h => by
    have e : ck_mdf is lo hi w (n + 1) = match ck_mdf is lo hi w n with
      | some v => some v
      | none => if is n && decide (ck_pl is lo hi n = w) then some (ck_mid lo hi n) else none := rfl
    rw [e] at h
    cases hm : ck_mdf is lo hi w n with
    | some v2 =>
      rw [hm] at h
      cases h
      obtain ⟨j, a, b, c⟩ := ck_mdf_some n hm
      exact ⟨j, by omega, b, c⟩
    | none =>
      rw [hm] at h
      cases hb : (is n && decide (ck_pl is lo hi n = w)) with
      | false => simp [hb] at h
      | true =>
        simp [hb] at h
        simp only [Bool.and_eq_true] at hb
        exact ⟨n, by omega, hb.1, h.symm⟩
theorem ck_md_ex {hd : Int32} {lo hi : Nat → Int64} (inv : ck_inv hd lo hi) (hne : ¬ hd = 0) : ∃ j, j < 24 ∧ bt hd j = true ∧ ck_md hd lo hi = ck_mid lo hi j := by
  have hle := ck_cN_le (bt hd) 24
  have hpos : 0 < ck_cN (bt hd) 24 := by
    rcases Nat.eq_zero_or_pos (ck_cN (bt hd) 24) with q | q
    · exact absurd (ck_hd0 inv.1 (ck_cN_0 24 q)) hne
    · exact q
  obtain ⟨m, hm⟩ : ∃ m, ck_cN (bt hd) 24 = m + 1 := ⟨ck_cN (bt hd) 24 - 1, by omega⟩
  have hw : (ck_ns hd - 1) / 2 = nI (m / 2) := by
    rw [← ck_ns24 inv.1, ck_cn_N, hm, nI_pred]
    exact pk_div (d := 2) (by omega) (by omega) (by omega)
  obtain ⟨j, a, b, c⟩ := ck_rank_ex 24 (ck_K lo hi) (fun a b ha hb e => by unfold ck_K at e; omega) (m + 1) (bt hd) hm (m / 2) (by omega)
  have hpl : ck_pl (bt hd) lo hi j = nI (m / 2) := by
    unfold ck_pl
    rw [ck_cn_N, ck_cN_congr 24 (fun o ho => ck_plP_K (bt hd) lo hi a ho), c]
  unfold ck_md
  rw [hw]
  cases hf : ck_mdf (bt hd) lo hi (nI (m / 2)) 24 with
  | none => exact absurd hpl (ck_mdf_none 24 hf j a b)
  | some v =>
    obtain ⟨i, x, y, z⟩ := ck_mdf_some 24 hf
    exact ⟨i, x, y, by rw [z]; rfl⟩
def ck_nP (hd : Int32) (lo hi : Nat → Int64) (p lim : Int64) (j : Nat) : Bool := bt hd j && !decide (lim < ck_abs (ck_mid lo hi j - p))
def ck_cL (P : Nat → Bool) : Nat → Int64
  | 0 => 0
  | n + 1 => if P n then ck_cL P n + 1 else ck_cL P n
theorem ck_cL_N (P : Nat → Bool) : ∀ n, ck_cL P n = lN (ck_cN P n)
  | 0 => rfl
  | n + 1 => by
    show (if P n then ck_cL P n + 1 else ck_cL P n) = lN (if P n then ck_cN P n + 1 else ck_cN P n)
    rw [ck_cL_N P n]
    split
    · exact lN_1 _
    · rfl
theorem ck_nr_bits (hd : Int32) (lo hi : Nat → Int64) (p lim : Int64) : ∀ n, n ≤ 24 → ∀ k, bt (ck_nr hd lo hi p lim n) k = (bt hd k && !(decide (k < n) && !decide (ck_abs (ck_mid lo hi k - p) ≤ lim)))
  | 0, _, k => by simp [ck_nr]
  | n + 1, h, k => by
    have ih := ck_nr_bits hd lo hi p lim n (by omega) k
    show bt (if (bt hd n && !decide (ck_abs (ck_mid lo hi n - p) ≤ lim)) then ck_wo (ck_nr hd lo hi p lim n) (nI n) else ck_nr hd lo hi p lim n) k = _
    by_cases e : k = n
    · subst e
      cases hb : (bt hd k && !decide (ck_abs (ck_mid lo hi k - p) ≤ lim)) with
      | true =>
        simp only [if_true]
        rw [ck_bt_wo _ (by omega)]
        simp only [Bool.and_eq_true, Bool.not_eq_true', decide_eq_false_iff_not] at hb
        simp [hb.2]
      | false =>
        simp only [Bool.false_eq_true, if_false]
        rw [ih]
        cases hk : bt hd k with
        | false => rfl
        | true =>
          rw [hk] at hb
          simp only [Bool.true_and, Bool.not_eq_false', decide_eq_true_eq] at hb
          simp [hb]
    · have e1 : decide (k < n + 1) = decide (k < n) := by
        rw [decide_eq_decide]
        omega
      rw [e1, ← ih]
      split
      · rw [ck_bt_wo _ (by omega), decide_eq_false e]
        simp
      · rfl
theorem ck_nr_bt {hd : Int32} {lo hi : Nat → Int64} (inv : ck_inv hd lo hi) (p lim : Int64) : bt (ck_nr hd lo hi p lim 24) = ck_nP hd lo hi p lim := by
  funext k
  rw [ck_nr_bits hd lo hi p lim 24 (Nat.le_refl 24) k]
  unfold ck_nP
  rcases Nat.lt_or_ge k 24 with q | q
  · rw [decide_eq_true q]
    congr 1
    rw [Bool.eq_iff_iff]
    simp only [Bool.true_and, Bool.not_not, Bool.not_eq_true', decide_eq_true_eq, decide_eq_false_iff_not, Int64.lt_iff_toInt_lt, Int64.le_iff_toInt_le]
    omega
  · rw [inv.1 k q]
    rfl
theorem ck_mean1 {hd : Int32} {lo hi : Nat → Int64} (inv : ck_inv hd lo hi) (p lim : Int64) : ck_cL (ck_nP hd lo hi p lim) 24 = Int32.toInt64 (ck_ns (ck_nr hd lo hi p lim 24)) := by
  have hz : ∀ j, 24 ≤ j → bt (ck_nr hd lo hi p lim 24) j = false := fun j hj => by
    rw [ck_nr_bt inv]
    unfold ck_nP
    rw [inv.1 j hj]
    rfl
  have hle := ck_cN_le (ck_nP hd lo hi p lim) 24
  rw [ck_cL_N, ← ck_ns24 hz, ck_nr_bt inv, ck_cn_N, nI_l (by omega)]
theorem ck_meanc {hd : Int32} {lo hi : Nat → Int64} (inv : ck_inv hd lo hi) (hne : ¬ hd = 0) {lim : Int64} (hl : ¬ lim < 0) : 0 < ck_cN (ck_nP hd lo hi (ck_md hd lo hi) lim) 24 := by
  obtain ⟨j, a, b, c⟩ := ck_md_ex inv hne
  refine ck_cN_pos a ?_
  unfold ck_nP
  rw [b, c, Int64.sub_self]
  have : ¬ lim < ck_abs 0 := hl
  simp [this]
theorem ck_meanp {hd : Int32} {lo hi : Nat → Int64} (inv : ck_inv hd lo hi) (hne : ¬ hd = 0) {lim : Int64} (hl : ¬ lim < 0) : 0 < ck_cL (ck_nP hd lo hi (ck_md hd lo hi) lim) 24 := by
  have h1 := ck_meanc inv hne hl
  have hle := ck_cN_le (ck_nP hd lo hi (ck_md hd lo hi) lim) 24
  rw [ck_cL_N]
  exact (lN_lt (a := 0) (by omega) (by omega)).mpr h1
theorem ck_mean0 {hd : Int32} {lo hi : Nat → Int64} (inv : ck_inv hd lo hi) (hne : ¬ hd = 0) {lim : Int64} (hl : ¬ lim < 0) : ck_fd (ck_sm (ck_nP hd lo hi (ck_md hd lo hi) lim) lo hi 24) (ck_cL (ck_nP hd lo hi (ck_md hd lo hi) lim) 24) = ck_mm (ck_nr hd lo hi (ck_md hd lo hi) lim 24) lo hi := by
  have hn : ¬ ck_nr hd lo hi (ck_md hd lo hi) lim 24 = 0 := by
    intro q
    obtain ⟨j, a, b⟩ := ck_cN_ex 24 (show ¬ ck_cN (ck_nP hd lo hi (ck_md hd lo hi) lim) 24 = 0 by have := ck_meanc inv hne hl; omega)
    rw [← ck_nr_bt inv, q, b_0] at b
    cases b
  unfold ck_mm
  rw [if_neg hn, ck_nr_bt inv, ck_mean1 inv]
