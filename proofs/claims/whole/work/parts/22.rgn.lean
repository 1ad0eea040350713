-- counts, the region's row, the greatest number
theorem ck_cN_mono {P Q : Nat → Bool} : ∀ n, (∀ j, j < n → P j = true → Q j = true) → ck_cN P n ≤ ck_cN Q n
  | 0, _ => Nat.le_refl 0
  | n + 1, h => by
    have ih := ck_cN_mono n (fun j hj => h j (by omega))
    show (if P n then ck_cN P n + 1 else ck_cN P n) ≤ (if Q n then ck_cN Q n + 1 else ck_cN Q n)
    cases hp : P n with
    | true =>
      rw [h n (by omega) hp]
      simp only [if_true]
      omega
    | false =>
      cases Q n <;> simp <;> omega
theorem ck_cN_lt {P Q : Nat → Bool} : ∀ n, (∀ j, j < n → P j = true → Q j = true) → (∃ j, j < n ∧ Q j = true ∧ P j = false) → ck_cN P n < ck_cN Q n
  | 0, _, ⟨j, hj, _⟩ => absurd hj (Nat.not_lt_zero j)
  | n + 1, h, ⟨j, hj, hq, hp⟩ => by
    have im := ck_cN_mono n (fun j hj => h j (by omega))
    show (if P n then ck_cN P n + 1 else ck_cN P n) < (if Q n then ck_cN Q n + 1 else ck_cN Q n)
    rcases Nat.lt_or_ge j n with q | q
    · have ih := ck_cN_lt n (fun j hj => h j (by omega)) ⟨j, q, hq, hp⟩
      cases hpn : P n with
      | true =>
        rw [h n (by omega) hpn]
        simp only [if_true]
        omega
      | false =>
        cases Q n <;> simp <;> omega
    · have e : j = n := by omega
      subst e
      rw [hp, hq]
      simp
      omega
theorem ck_cN_ex {P : Nat → Bool} : ∀ n, ¬ ck_cN P n = 0 → ∃ j, j < n ∧ P j = true
  | 0, h => absurd rfl h
  | n + 1, h => by
    cases hp : P n with
    | true => exact ⟨n, by omega, hp⟩
    | false =>
      have h1 : ¬ (if P n then ck_cN P n + 1 else ck_cN P n) = 0 := h
      rw [hp] at h1
      obtain ⟨j, hj, hpj⟩ := ck_cN_ex n h1
      exact ⟨j, by omega, hpj⟩
theorem ck_cN_pos {P : Nat → Bool} {n j : Nat} (hj : j < n) (h : P j = true) : 0 < ck_cN P n := by
  have := ck_cN_lt (P := fun _ => false) (Q := P) n (fun _ _ q => by cases q) ⟨j, hj, h, rfl⟩
  omega
theorem ck_cn0 {P : Nat → Bool} {n : Nat} (hn : n < 2 ^ 31) : ck_cn P n = 0 ↔ ck_cN P n = 0 := by
  rw [ck_cn_N]
  have h := ck_cN_le P n
  constructor
  · intro q
    exact (nI_eq (a := ck_cN P n) (b := 0) (by omega) (by omega)).mp q
  · intro q
    rw [q]
    rfl
theorem ck_cov_iff {is : Nat → Bool} {lo hi : Nat → Int64} {p : Int64} {j : Nat} : ck_cov is lo hi p j = true ↔ is j = true ∧ (lo j).toInt ≤ p.toInt ∧ p.toInt ≤ (hi j).toInt := by
  simp only [ck_cov, Bool.and_eq_true, Bool.not_eq_true', decide_eq_false_iff_not, Int64.lt_iff_toInt_lt]
  constructor
  · rintro ⟨a, b, c⟩
    exact ⟨a, by omega, by omega⟩
  · rintro ⟨a, b, c⟩
    exact ⟨a, by omega, by omega⟩
theorem ck_cvs_ex {is : Nat → Bool} {lo hi : Nat → Int64} {p : Int64} (h : ¬ ck_cvs is lo hi p = 0) : ∃ j, j < 24 ∧ is j = true ∧ (lo j).toInt ≤ p.toInt ∧ p.toInt ≤ (hi j).toInt := by
  obtain ⟨j, hj, hc⟩ := ck_cN_ex 24 (fun q => h ((ck_cn0 (by omega)).mpr q))
  exact ⟨j, hj, ck_cov_iff.mp hc⟩
def ck_in8 (lo hi : Nat → Int64) : Prop := ∀ j, ck_NFAR ≤ lo j ∧ lo j ≤ hi j ∧ hi j ≤ ck_FAR
theorem ck_in8T {lo hi : Nat → Int64} (h : ck_in8 lo hi) (j : Nat) : -288230376151711744 ≤ (lo j).toInt ∧ (lo j).toInt ≤ (hi j).toInt ∧ (hi j).toInt ≤ 288230376151711744 := by
  obtain ⟨h1, h2, h3⟩ := h j
  rw [Int64.le_iff_toInt_le, ck_toI_NFAR] at h1
  rw [Int64.le_iff_toInt_le] at h2
  rw [Int64.le_iff_toInt_le, ck_toI_FAR] at h3
  exact ⟨h1, h2, h3⟩
theorem ck_minT (x y : Int64) : (ck_min x y).toInt ≤ x.toInt ∧ (ck_min x y).toInt ≤ y.toInt ∧ (ck_min x y = x ∨ ck_min x y = y) := by
  unfold ck_min
  by_cases q : y < x
  · rw [if_pos q]
    rw [Int64.lt_iff_toInt_lt] at q
    exact ⟨by omega, by omega, Or.inr rfl⟩
  · rw [if_neg q]
    rw [Int64.lt_iff_toInt_lt] at q
    exact ⟨by omega, by omega, Or.inl rfl⟩
theorem ck_fhT (is : Nat → Bool) (lo hi : Nat → Int64) (p : Int64) (hp : p.toInt ≤ 288230376151711744) : ∀ n, (ck_fh is lo hi p n).toInt ≤ 288230376151711744 ∧ p.toInt ≤ (ck_fh is lo hi p n).toInt ∧ (∀ j, j < n → ck_cov is lo hi p j = true → (ck_fh is lo hi p n).toInt ≤ (hi j).toInt) ∧ (ck_fh is lo hi p n = ck_FAR ∨ ∃ j, j < n ∧ ck_cov is lo hi p j = true ∧ ck_fh is lo hi p n = hi j)
  | 0 => ⟨by show ck_FAR.toInt ≤ _; rw [ck_toI_FAR]; omega, by show _ ≤ ck_FAR.toInt; rw [ck_toI_FAR]; exact hp, fun j hj => absurd hj (Nat.not_lt_zero j), Or.inl rfl⟩
  | n + 1 => by
    obtain ⟨h1, h2, h3, h4⟩ := ck_fhT is lo hi p hp n
    have e : ck_fh is lo hi p (n + 1) = if ck_cov is lo hi p n then ck_min (ck_fh is lo hi p n) (hi n) else ck_fh is lo hi p n := rfl
    cases hc : ck_cov is lo hi p n with
    | false =>
      rw [hc] at e
      rw [e]
      simp only [Bool.false_eq_true, if_false]
      refine ⟨h1, h2, fun j hj hcj => ?_, ?_⟩
      · rcases Nat.lt_or_ge j n with q | q
        · exact h3 j q hcj
        · rw [show j = n by omega, hc] at hcj; cases hcj
      · rcases h4 with q | ⟨j, hj, a, b⟩
        · exact Or.inl q
        · exact Or.inr ⟨j, by omega, a, b⟩
    | true =>
      rw [hc] at e
      rw [e]
      simp only [if_true]
      obtain ⟨m1, m2, m3⟩ := ck_minT (ck_fh is lo hi p n) (hi n)
      have hcn := ck_cov_iff.mp hc
      refine ⟨by omega, ?_, fun j hj hcj => ?_, ?_⟩
      · rcases m3 with q | q <;> rw [q] <;> omega
      · rcases Nat.lt_or_ge j n with q | q
        · have := h3 j q hcj
          omega
        · rw [show j = n by omega]; exact m2
      · rcases m3 with q | q
        · rw [q]
          rcases h4 with z | ⟨j, hj, a, b⟩
          · exact Or.inl z
          · exact Or.inr ⟨j, by omega, a, b⟩
        · exact Or.inr ⟨n, by omega, hc, q⟩
theorem ck_add1 {e : Int64} (h : e.toInt ≤ 288230376151711744) : (e + 1).toInt = e.toInt + 1 := by
  have h2 := e.le_toInt
  rw [Int64.toInt_add, ck_i1]
  exact ck_mb (by omega) (by omega)
/-- one step of the row: it reaches another high -/
theorem ck_row {is : Nat → Bool} {lo hi : Nat → Int64} (h8 : ck_in8 lo hi) {e : Int64} (he : e.toInt ≤ 288230376151711744) (h : ¬ ck_cvs is lo hi (e + 1) = 0) : e.toInt < (ck_fh is lo hi (e + 1) 24).toInt ∧ (ck_fh is lo hi (e + 1) 24).toInt ≤ 288230376151711744 ∧ ∃ j, j < 24 ∧ is j = true ∧ hi j = ck_fh is lo hi (e + 1) 24 := by
  obtain ⟨j, hj, hi1, hl, hh⟩ := ck_cvs_ex h
  have hb := ck_in8T h8 j
  have h1 := ck_add1 he
  obtain ⟨a1, a2, a3, a4⟩ := ck_fhT is lo hi (e + 1) (by omega) 24
  refine ⟨by omega, a1, ?_⟩
  rcases a4 with q | ⟨k, hk, hc, q⟩
  · refine ⟨j, hj, hi1, ?_⟩
    have h2 := a3 j hj (ck_cov_iff.mpr ⟨hi1, hl, hh⟩)
    rw [q] at h2 ⊢
    rw [ck_toI_FAR] at h2
    exact Int64.toInt_inj.mp (by rw [ck_toI_FAR]; omega)
  · exact ⟨k, hk, (ck_cov_iff.mp hc).1, q.symm⟩
theorem ck_er_far {is : Nat → Bool} {lo hi : Nat → Int64} (h8 : ck_in8 lo hi) {f : Int64} (hf : f.toInt ≤ 288230376151711744) {most : Int32} (hm : ¬ most = 0) : ∀ k, (ck_er is lo hi f most k).toInt ≤ 288230376151711744
  | 0 => (ck_fhT is lo hi f hf 24).1
  | k + 1 => by
    have ih := ck_er_far h8 hf hm k (is := is)
    show (if ck_cvs is lo hi (ck_er is lo hi f most k + 1) = most then ck_fh is lo hi (ck_er is lo hi f most k + 1) 24 else ck_er is lo hi f most k).toInt ≤ _
    by_cases c : ck_cvs is lo hi (ck_er is lo hi f most k + 1) = most
    · rw [if_pos c]
      exact (ck_row h8 ih (by rw [c]; exact hm)).2.1
    · rw [if_neg c]
      exact ih
theorem ck_er_cnt {is : Nat → Bool} {lo hi : Nat → Int64} (h8 : ck_in8 lo hi) {f : Int64} (hf : f.toInt ≤ 288230376151711744) {most : Int32} (hm : ¬ most = 0) : ∀ k, ck_cvs is lo hi (ck_er is lo hi f most k + 1) = most → ck_cN (fun j => is j && decide (ck_er is lo hi f most k < hi j)) 24 + k ≤ 24
  | 0, _ => by rw [Nat.add_zero]; exact ck_cN_le _ 24
  | k + 1, c => by
    have e : ck_er is lo hi f most (k + 1) = if ck_cvs is lo hi (ck_er is lo hi f most k + 1) = most then ck_fh is lo hi (ck_er is lo hi f most k + 1) 24 else ck_er is lo hi f most k := rfl
    by_cases ck : ck_cvs is lo hi (ck_er is lo hi f most k + 1) = most
    · have ih := ck_er_cnt h8 hf hm k ck
      rw [if_pos ck] at e
      obtain ⟨r1, r2, j, hj, hi1, hi2⟩ := ck_row h8 (ck_er_far h8 hf hm k) (show ¬ ck_cvs is lo hi (ck_er is lo hi f most k + 1) = 0 by rw [ck]; exact hm)
      have hlt := ck_cN_lt (P := fun j => is j && decide (ck_er is lo hi f most (k + 1) < hi j)) (Q := fun j => is j && decide (ck_er is lo hi f most k < hi j)) 24 (fun i _ hp => by
        simp only [Bool.and_eq_true, decide_eq_true_eq, Int64.lt_iff_toInt_lt] at hp ⊢
        rw [e] at hp
        exact ⟨hp.1, by omega⟩) ⟨j, hj, by
          simp only [Bool.and_eq_true, decide_eq_true_eq, Int64.lt_iff_toInt_lt]
          rw [hi2]
          exact ⟨hi1, r1⟩, by
          rw [e, hi2]
          simp⟩
      omega
    · rw [if_neg ck] at e
      rw [e] at c
      exact absurd c ck
theorem ck_er_end {is : Nat → Bool} {lo hi : Nat → Int64} (h8 : ck_in8 lo hi) {f : Int64} (hf : f.toInt ≤ 288230376151711744) {most : Int32} (hm : ¬ most = 0) {k : Nat} (c : ck_cvs is lo hi (ck_er is lo hi f most k + 1) = most) : k < 24 := by
  have h1 := ck_er_cnt h8 hf hm k c
  have hfar := ck_er_far h8 hf hm k (is := is)
  obtain ⟨j, hj, hi1, hl, hh⟩ := ck_cvs_ex (show ¬ ck_cvs is lo hi (ck_er is lo hi f most k + 1) = 0 by rw [c]; exact hm)
  have h2 := ck_add1 hfar
  have := ck_cN_pos (P := fun j => is j && decide (ck_er is lo hi f most k < hi j)) hj (by
    simp only [Bool.and_eq_true, decide_eq_true_eq, Int64.lt_iff_toInt_lt]
    exact ⟨hi1, by omega⟩)
  omega
def ck_rp (is : Nat → Bool) (lo hi : Nat → Int64) (f : Int64) (most : Int32) : Nat → Int64
  | 0 => f
  | k + 1 => if ck_cvs is lo hi (ck_er is lo hi f most k + 1) = most then ck_er is lo hi f most k + 1 else ck_er is lo hi f most k
def ck_rm (is : Nat → Bool) (lo hi : Nat → Int64) (f : Int64) (most : Int32) : Nat → Bool
  | 0 => true
  | k + 1 => decide (ck_cvs is lo hi (ck_er is lo hi f most k + 1) = most)
theorem ck_rp_end {is : Nat → Bool} {lo hi : Nat → Int64} {f : Int64} {most : Int32} {i : Nat} (h : ck_rm is lo hi f most i = false) (hle : i ≤ 25) : ck_rp is lo hi f most i = ck_er is lo hi f most 24 := by
  cases i with
  | zero => cases h
  | succ k =>
    have c : ¬ ck_cvs is lo hi (ck_er is lo hi f most k + 1) = most := of_decide_eq_false h
    show (if _ then _ else _) = _
    rw [if_neg c]
    exact ck_er_stop c (by omega)
theorem ck_rm_lt {is : Nat → Bool} {lo hi : Nat → Int64} (h8 : ck_in8 lo hi) {f : Int64} (hf : f.toInt ≤ 288230376151711744) {most : Int32} (hm : ¬ most = 0) {i : Nat} (h : ck_rm is lo hi f most i = true) (hle : i ≤ 25) : i < 25 := by
  rcases Nat.lt_or_ge i 25 with q | q
  · exact q
  · have e : i = 24 + 1 := by omega
    subst e
    exact absurd (ck_er_end h8 hf hm (of_decide_eq_true h)) (Nat.lt_irrefl 24)
theorem ck_fi_far (is : Nat → Bool) {lo hi : Nat → Int64} (h8 : ck_in8 lo hi) (e : Int32) : ∀ n, (ck_fi is lo hi e n).toInt ≤ 288230376151711744
  | 0 => by show ck_NO.toInt ≤ _; rw [ck_toI_NO]; omega
  | n + 1 => by
    have ih := ck_fi_far is h8 e n
    have hb := ck_in8T h8 n
    show (if _ then lo n else ck_fi is lo hi e n).toInt ≤ _
    split
    · omega
    · exact ih
theorem ck_maxIT (x y : Int32) : x.toInt ≤ (ck_maxI x y).toInt ∧ y.toInt ≤ (ck_maxI x y).toInt := by
  unfold ck_maxI
  by_cases q : x < y
  · rw [if_pos q]
    rw [Int32.lt_iff_toInt_lt] at q
    exact ⟨by omega, by omega⟩
  · rw [if_neg q]
    rw [Int32.lt_iff_toInt_lt] at q
    exact ⟨by omega, by omega⟩
theorem ck_gr_ge (is : Nat → Bool) (lo hi : Nat → Int64) : ∀ n j, j < n → is j = true → (ck_cvs is lo hi (lo j)).toInt ≤ (ck_gr is lo hi n).toInt
  | 0, j, hj, _ => absurd hj (Nat.not_lt_zero j)
  | n + 1, j, hj, h => by
    show _ ≤ (if is n then ck_maxI (ck_gr is lo hi n) (ck_cvs is lo hi (lo n)) else ck_gr is lo hi n).toInt
    have m := ck_maxIT (ck_gr is lo hi n) (ck_cvs is lo hi (lo n))
    rcases Nat.lt_or_ge j n with q | q
    · have ih := ck_gr_ge is lo hi n j q h
      split <;> omega
    · have e : j = n := by omega
      subst e
      rw [h]
      simp only [if_true]
      omega
theorem ck_gr_zero (lo hi : Nat → Int64) : ∀ n, ck_gr (bt 0) lo hi n = 0
  | 0 => rfl
  | n + 1 => by
    show (if bt 0 n then _ else ck_gr (bt 0) lo hi n) = 0
    rw [b_0, ck_gr_zero lo hi n]
    rfl
theorem ck_hd0 {hd : Int32} (h : ∀ j, 24 ≤ j → bt hd j = false) (h2 : ∀ j, j < 24 → bt hd j = false) : hd = 0 := b_ext (fun j _ => by
  rw [b_0]
  rcases Nat.lt_or_ge j 24 with q | q
  · exact h2 j q
  · exact h j q)
theorem ck_gr0 {hd : Int32} {lo hi : Nat → Int64} (inv : ck_inv hd lo hi) : ck_gr (bt hd) lo hi 24 = 0 ↔ hd = 0 := by
  constructor
  · intro q
    refine ck_hd0 inv.1 (fun j hj => ?_)
    cases hb : bt hd j with
    | false => rfl
    | true =>
      have h1 := ck_gr_ge (bt hd) lo hi 24 j hj hb
      rw [q] at h1
      have h2 := ck_cvs_nn (bt hd) lo hi (lo j)
      rw [Int32.le_iff_toInt_le] at h2
      have h3 : ck_cvs (bt hd) lo hi (lo j) = 0 := Int32.toInt_inj.mp (by omega)
      have h4 := ck_cN_0 24 ((ck_cn0 (by omega)).mp h3) j hj
      have h5 := ck_in8T inv.2 j
      have h6 : ck_cov (bt hd) lo hi (lo j) j = true := ck_cov_iff.mpr ⟨hb, by omega, by omega⟩
      rw [h6] at h4
      cases h4
  · intro q
    rw [q]
    exact ck_gr_zero lo hi 24
theorem ck_ns0 {hd : Int32} : ck_ns hd = 0 ↔ hd = 0 := by
  constructor
  · intro q
    have h0 := (ck_cn0 (P := bt hd) (n := 32) (by omega)).mp q
    exact b_ext (fun j hj => by rw [ck_cN_0 32 h0 j hj, b_0])
  · intro q
    rw [q]
    decide +kernel
theorem ck_min_ge {x y : Int64} (h : x ≤ y) : ck_min x y = x := by
  unfold ck_min
  rw [if_neg]
  intro q
  rw [Int64.lt_iff_toInt_lt] at q
  rw [Int64.le_iff_toInt_le] at h
  omega
theorem ck_min_nge {x y : Int64} (h : ¬ x ≤ y) : ck_min x y = y := by
  unfold ck_min
  rw [if_pos]
  rw [Int64.lt_iff_toInt_lt]
  rw [Int64.le_iff_toInt_le] at h
  omega
theorem ck_rp_s (is : Nat → Bool) (lo hi : Nat → Int64) (f : Int64) (most : Int32) (k : Nat) : ck_rp is lo hi f most (k + 1) = if ck_cvs is lo hi (ck_er is lo hi f most k + 1) = most then ck_er is lo hi f most k + 1 else ck_er is lo hi f most k := rfl
theorem ck_rm_s (is : Nat → Bool) (lo hi : Nat → Int64) (f : Int64) (most : Int32) (k : Nat) : ck_rm is lo hi f most (k + 1) = decide (ck_cvs is lo hi (ck_er is lo hi f most k + 1) = most) := rfl
theorem ck_bt_or (set : Int32) {i : Nat} (hi : i < 24) (k : Nat) : bt (set ||| ((1 : Int32) <<< (nI i &&& 31))) k = (bt set k || decide (k = i)) := by
  rcases Nat.lt_or_ge k 32 with h | h
  · rw [b_or, ck_pow (by omega) h]
  · rw [b_big h, b_big h, decide_eq_false (by omega)]
    rfl
theorem ck_bt_wo (set : Int32) {i : Nat} (hi : i < 24) (k : Nat) : bt (ck_wo set (nI i)) k = (bt set k && !decide (k = i)) := by
  unfold ck_wo
  rcases Nat.lt_or_ge k 32 with h | h
  · rw [b_and, b_xor, ck_pow (by omega) h, b_m1 k h]
    cases bt set k <;> cases decide (k = i) <;> rfl
  · rw [b_big h, b_big h]
    rfl
