-- the survivors, round by round
def ck_mk (is : Nat → Bool) : Nat → Int32
  | 0 => 0
  | n + 1 => if is n then ck_mk is n ||| (1 <<< (nI n &&& 31)) else ck_mk is n
theorem ck_mk_bits (is : Nat → Bool) : ∀ n, n ≤ 24 → ∀ k, bt (ck_mk is n) k = (decide (k < n) && is k)
  | 0, _, k => by show bt 0 k = _; rw [b_0]; simp
  | n + 1, h, k => by
    have ih := ck_mk_bits is n (by omega) k
    show bt (if is n then ck_mk is n ||| (1 <<< (nI n &&& 31)) else ck_mk is n) k = _
    by_cases e : k = n
    · subst e
      rw [decide_eq_true (show k < k + 1 by omega), Bool.true_and]
      cases hb : is k with
      | true => simp only [if_true]; rw [ck_bt_or _ (by omega)]; simp
      | false => simp only [Bool.false_eq_true, if_false]; rw [ih]; simp
    · rw [show decide (k < n + 1) = decide (k < n) by rw [decide_eq_decide]; omega, ← ih]
      split
      · rw [ck_bt_or _ (by omega), decide_eq_false e, Bool.or_false]
      · rfl
theorem ck_mkE {hd : Int32} (h : ∀ j, 24 ≤ j → bt hd j = false) : ck_mk (bt hd) 24 = hd := b_ext (fun k _ => by
  rw [ck_mk_bits (bt hd) 24 (Nat.le_refl 24) k]
  rcases Nat.lt_or_ge k 24 with q | q
  · rw [decide_eq_true q, Bool.true_and]
  · rw [h k q, Bool.and_false])
def ck_wi (set : Int32) (lo hi : Nat → Int64) (m : Int64) (u : Nat) : Int32 := if ck_cN (bt set) u = 0 then -1 else (ck_fm set lo hi m u).2
theorem ck_fm_s (set : Int32) (lo hi : Nat → Int64) (m : Int64) (n : Nat) : ck_fm set lo hi m (n + 1) = if bt set n && !decide (ck_abs (ck_mid lo hi n - m) < (ck_fm set lo hi m n).1) then (ck_abs (ck_mid lo hi n - m), nI n) else ck_fm set lo hi m n := rfl
theorem ck_fm_0 {set : Int32} (lo hi : Nat → Int64) (m : Int64) : ∀ n, ck_cN (bt set) n = 0 → ck_fm set lo hi m n = (0, 0)
  | 0, _ => rfl
  | n + 1, h => by
    have hb := ck_cN_0 (n + 1) h n (by omega)
    have h1 : (if bt set n then ck_cN (bt set) n + 1 else ck_cN (bt set) n) = 0 := h
    rw [hb] at h1
    rw [ck_fm_s, hb, ck_fm_0 lo hi m n h1]
    rfl
/-- the farthest one so far is one of the set, and what is kept is its distance -/
theorem ck_fm_in {set : Int32} {lo hi : Nat → Int64} {m : Int64} (hnn : ∀ j, ¬ ck_abs (ck_mid lo hi j - m) < 0) : ∀ n, ¬ ck_cN (bt set) n = 0 → ∃ w, w < n ∧ bt set w = true ∧ (ck_fm set lo hi m n).2 = nI w ∧ (ck_fm set lo hi m n).1 = ck_abs (ck_mid lo hi w - m)
  | 0, h => absurd rfl h
  | n + 1, h => by
    have h1 : ¬ (if bt set n then ck_cN (bt set) n + 1 else ck_cN (bt set) n) = 0 := h
    rw [ck_fm_s]
    cases hb : bt set n with
    | false =>
      rw [hb] at h1
      obtain ⟨w, a, b, c, d⟩ := ck_fm_in hnn n h1
      exact ⟨w, by omega, b, c, d⟩
    | true =>
      by_cases hz : ck_cN (bt set) n = 0
      · rw [ck_fm_0 lo hi m n hz]
        refine ⟨n, by omega, hb, ?_⟩
        simp [hnn n]
      · by_cases hlt : ck_abs (ck_mid lo hi n - m) < (ck_fm set lo hi m n).1
        · obtain ⟨w, a, b, c, d⟩ := ck_fm_in hnn n hz
          refine ⟨w, by omega, b, ?_⟩
          simp only [hlt, decide_true, Bool.not_true, Bool.and_false, Bool.false_eq_true, if_false]
          exact ⟨c, d⟩
        · refine ⟨n, by omega, hb, ?_⟩
          simp [hlt]
theorem ck_nm1 {w : Nat} (h : w < 2 ^ 31) : ¬ nI w = -1 := fun q => by
  have h1 := nI_pos h
  rw [q] at h1
  exact absurd (by decide) h1
theorem ck_wi_skip {set : Int32} {lo hi : Nat → Int64} {m : Int64} {u : Nat} (c : bt set u = false) : ck_wi set lo hi m u = ck_wi set lo hi m (u + 1) := by
  have e : ck_cN (bt set) (u + 1) = ck_cN (bt set) u := by
    show (if bt set u then ck_cN (bt set) u + 1 else ck_cN (bt set) u) = _
    rw [c]
    rfl
  unfold ck_wi
  rw [e, ck_fm_s, c]
  rfl
theorem ck_cN_on {P : Nat → Bool} {u : Nat} (c : P u = true) : ck_cN P (u + 1) = ck_cN P u + 1 := by
  show (if P u then ck_cN P u + 1 else ck_cN P u) = _
  rw [c]
  rfl
theorem ck_wiE {set : Int32} {lo hi : Nat → Int64} {m : Int64} (hnn : ∀ j, ¬ ck_abs (ck_mid lo hi j - m) < 0) {u : Nat} (hu : u ≤ 24) (c : ¬ ck_wi set lo hi m u = -1) : ∃ w, w < 24 ∧ ck_wi set lo hi m u = nI w ∧ ¬ ck_cN (bt set) u = 0 ∧ (ck_fm set lo hi m u).2 = nI w ∧ (ck_fm set lo hi m u).1 = ck_abs (ck_mid lo hi w - m) := by
  by_cases hz : ck_cN (bt set) u = 0
  · exact absurd (by unfold ck_wi; rw [if_pos hz]) c
  · obtain ⟨w, a, b, d, e⟩ := ck_fm_in hnn u hz
    exact ⟨w, by omega, by unfold ck_wi; rw [if_neg hz]; exact d, hz, d, e⟩
theorem ck_wi_first {set : Int32} {lo hi : Nat → Int64} {m : Int64} (hnn : ∀ j, ¬ ck_abs (ck_mid lo hi j - m) < 0) {u : Nat} (hu : u ≤ 24) (c : bt set u = true) (c2 : ck_wi set lo hi m u = -1) : nI u = ck_wi set lo hi m (u + 1) := by
  have hz : ck_cN (bt set) u = 0 := by
    by_cases hz : ck_cN (bt set) u = 0
    · exact hz
    · obtain ⟨w, a, b, d, e⟩ := ck_fm_in hnn u hz
      unfold ck_wi at c2
      rw [if_neg hz, d] at c2
      exact absurd c2 (ck_nm1 (by omega))
  unfold ck_wi
  rw [ck_cN_on c, if_neg (by omega), ck_fm_s, ck_fm_0 lo hi m u hz, c]
  simp [hnn u]
theorem ck_wi_keep {set : Int32} {lo hi : Nat → Int64} {m : Int64} {u w : Nat} (c : bt set u = true) (h1 : (ck_fm set lo hi m u).2 = nI w) (h2 : (ck_fm set lo hi m u).1 = ck_abs (ck_mid lo hi w - m)) (c3 : ck_abs (ck_mid lo hi u - m) < ck_abs (ck_mid lo hi w - m)) : nI w = ck_wi set lo hi m (u + 1) := by
  unfold ck_wi
  rw [ck_cN_on c, if_neg (by omega), ck_fm_s, h2, c]
  simp [c3, h1]
theorem ck_wi_take {set : Int32} {lo hi : Nat → Int64} {m : Int64} {u w : Nat} (c : bt set u = true) (h2 : (ck_fm set lo hi m u).1 = ck_abs (ck_mid lo hi w - m)) (c3 : ¬ ck_abs (ck_mid lo hi u - m) < ck_abs (ck_mid lo hi w - m)) : nI u = ck_wi set lo hi m (u + 1) := by
  unfold ck_wi
  rw [ck_cN_on c, if_neg (by omega), ck_fm_s, h2, c]
  simp [c3]
theorem ck_midT {lo hi : Nat → Int64} (h8 : ck_in8 lo hi) (j : Nat) : -288230376151711744 ≤ (ck_mid lo hi j).toInt ∧ (ck_mid lo hi j).toInt ≤ 288230376151711744 := by
  have hb := ck_in8T h8 j
  unfold ck_mid
  rw [ck_half_spec, Int64.toInt_add, ck_mb (by omega) (by omega)]
  omega
theorem ck_nsT (s : Int32) : (ck_ns s).toInt = ck_cN (bt s) 32 ∧ (Int32.toInt64 (ck_ns s)).toInt = ck_cN (bt s) 32 ∧ ck_cN (bt s) 32 ≤ 32 := by
  have hle := ck_cN_le (bt s) 32
  rw [ck_ns_N, nI_l (by omega)]
  exact ⟨nI_toInt (by omega), lN_toInt (by omega), hle⟩
theorem ck_two {s k : Int32} (hk : ¬ k < 1) (c : ¬ ck_ns s ≤ k) : 2 ≤ ck_cN (bt s) 32 := by
  obtain ⟨h1, h2, h3⟩ := ck_nsT s
  rw [Int32.lt_iff_toInt_lt] at hk
  rw [Int32.le_iff_toInt_le, h1] at c
  have e : (1 : Int32).toInt = 1 := by decide
  omega
theorem ck_posn {s k : Int32} (hk : ¬ k < 1) (c : ¬ ck_ns s ≤ k) : 0 < Int32.toInt64 (ck_ns s) := by
  obtain ⟨h1, h2, h3⟩ := ck_nsT s
  have := ck_two hk c
  rw [Int64.lt_iff_toInt_lt, h2, ck_i0]
  omega
theorem ck_Mnn {lo hi : Nat → Int64} (h8 : ck_in8 lo hi) {s k : Int32} (hk : ¬ k < 1) (c : ¬ ck_ns s ≤ k) (S : Int64) : ∀ j, ¬ ck_abs (ck_mid lo hi j - ck_fd S (Int32.toInt64 (ck_ns s))) < 0 := by
  intro j
  obtain ⟨h1, h2, h3⟩ := ck_nsT s
  have h4 := ck_two hk c
  have hm := ck_midT h8 j
  have hf := ck_fd_spec S (Int32.toInt64 (ck_ns s)) (by rw [h2]; omega)
  rw [h2] at hf
  have hS1 := S.le_toInt
  have hS2 := S.toInt_lt
  have hq1 : -4611686018427387904 ≤ S.toInt / (ck_cN (bt s) 32 : Int) := by
    rw [Int.le_ediv_iff_mul_le (by omega)]
    have := Int.mul_le_mul_of_nonpos_left (a := -4611686018427387904) (by decide) (show (2 : Int) ≤ (ck_cN (bt s) 32 : Int) by omega)
    omega
  have hq2 : S.toInt / (ck_cN (bt s) 32 : Int) < 4611686018427387904 := by
    rw [Int.ediv_lt_iff_lt_mul (by omega)]
    have := Int.mul_le_mul_of_nonneg_left (show (2 : Int) ≤ (ck_cN (bt s) 32 : Int) by omega) (show (0 : Int) ≤ 4611686018427387904 by decide)
    omega
  have hd : (ck_mid lo hi j - ck_fd S (Int32.toInt64 (ck_ns s))).toInt = (ck_mid lo hi j).toInt - S.toInt / (ck_cN (bt s) 32 : Int) := by
    rw [Int64.toInt_sub, hf]
    exact ck_mb (by omega) (by omega)
  generalize ck_mid lo hi j - ck_fd S (Int32.toInt64 (ck_ns s)) = x at hd ⊢
  unfold ck_abs
  rw [Int64.lt_iff_toInt_lt, ck_i0]
  by_cases q : 0 < x
  · rw [if_pos q]
    have := ck_pos q
    omega
  · rw [if_neg q]
    rw [Int64.lt_iff_toInt_lt, ck_i0] at q
    rw [Int64.toInt_neg, ck_mb (by omega) (by omega)]
    omega
def ck_sj (hd : Int32) (lo hi : Nat → Int64) (k : Int32) (r : Nat) : Prop := (∀ j, 24 ≤ j → bt (ck_lf hd lo hi k r) j = false) ∧ ck_cN (bt (ck_lf hd lo hi k r)) 32 + r ≤ 24
theorem ck_c32 {s : Int32} (h : ∀ j, 24 ≤ j → bt s j = false) : ck_cN (bt s) 32 = ck_cN (bt s) 24 := ck_cN_stop h 8
theorem ck_sj0 {hd : Int32} {lo hi : Nat → Int64} (inv : ck_inv hd lo hi) (k : Int32) : ck_sj hd lo hi k 0 := by
  refine ⟨inv.1, ?_⟩
  show ck_cN (bt hd) 32 + 0 ≤ 24
  rw [ck_c32 inv.1]
  exact ck_cN_le _ 24
theorem ck_s0 {s k : Int32} (hk : ¬ k < 1) (c : ¬ ck_ns s ≤ k) : ¬ s = 0 := fun q => by
  have := ck_two hk c
  have h0 := ck_ns0.mpr q
  have := (ck_cn0 (P := bt s) (n := 32) (by omega)).mp h0
  omega
theorem ck_wi24 {lo hi : Nat → Int64} (h8 : ck_in8 lo hi) {s k : Int32} (hz : ∀ j, 24 ≤ j → bt s j = false) (hk : ¬ k < 1) (c : ¬ ck_ns s ≤ k) : ck_wi s lo hi (ck_fd (ck_sm (bt s) lo hi 24) (Int32.toInt64 (ck_ns s))) 24 = ck_far s lo hi ∧ ∃ w, w < 24 ∧ bt s w = true ∧ ck_far s lo hi = nI w := by
  have hmm : ck_mm s lo hi = ck_fd (ck_sm (bt s) lo hi 24) (Int32.toInt64 (ck_ns s)) := by
    unfold ck_mm
    rw [if_neg (ck_s0 hk c)]
  have h2 := ck_two hk c
  rw [ck_c32 hz] at h2
  obtain ⟨w, a, b, d, e⟩ := ck_fm_in (ck_Mnn h8 hk c (ck_sm (bt s) lo hi 24)) 24 (show ¬ ck_cN (bt s) 24 = 0 by omega)
  unfold ck_wi ck_far
  rw [if_neg (by omega), hmm]
  exact ⟨rfl, w, a, b, d⟩
theorem ck_lf_s (hd : Int32) (lo hi : Nat → Int64) (k : Int32) (r : Nat) (c : ¬ ck_ns (ck_lf hd lo hi k r) ≤ k) : ck_lf hd lo hi k (r + 1) = ck_wo (ck_lf hd lo hi k r) (ck_far (ck_lf hd lo hi k r) lo hi) := by
  show (if ck_ns (ck_lf hd lo hi k r) ≤ k then _ else _) = _
  rw [if_neg c]
theorem ck_lf_next {hd : Int32} {lo hi : Nat → Int64} {k : Int32} {r : Nat} (inv : ck_inv hd lo hi) (hj : ck_sj hd lo hi k r) (hk : ¬ k < 1) (c : ¬ ck_ns (ck_lf hd lo hi k r) ≤ k) : (ck_lf hd lo hi k r &&& ((1 <<< (ck_wi (ck_lf hd lo hi k r) lo hi (ck_fd (ck_sm (bt (ck_lf hd lo hi k r)) lo hi 24) (Int32.toInt64 (ck_ns (ck_lf hd lo hi k r)))) 24 &&& 31)) ^^^ (-1))) = ck_lf hd lo hi k (r + 1) := by
  rw [ck_lf_s hd lo hi k r c, (ck_wi24 inv.2 hj.1 hk c).1]
  rfl
theorem ck_lf_cnt {hd : Int32} {lo hi : Nat → Int64} {k : Int32} {r : Nat} (inv : ck_inv hd lo hi) (hj : ck_sj hd lo hi k r) (hk : ¬ k < 1) (c : ¬ ck_ns (ck_lf hd lo hi k r) ≤ k) : (∀ j, 24 ≤ j → bt (ck_lf hd lo hi k (r + 1)) j = false) ∧ ck_cN (bt (ck_lf hd lo hi k (r + 1))) 32 + 1 = ck_cN (bt (ck_lf hd lo hi k r)) 32 := by
  obtain ⟨-, w, a, b, d⟩ := ck_wi24 inv.2 hj.1 hk c
  rw [ck_lf_s hd lo hi k r c, d]
  refine ⟨fun j hj2 => by rw [ck_bt_wo _ a, hj.1 j hj2]; rfl, ?_⟩
  rw [← ck_cN_rem (P := bt (ck_lf hd lo hi k r)) 32 (show w < 32 by omega) b]
  rw [ck_cN_congr 32 (fun o _ => ck_bt_wo (ck_lf hd lo hi k r) a o)]
theorem ck_sj_s {hd : Int32} {lo hi : Nat → Int64} {k : Int32} {r : Nat} (inv : ck_inv hd lo hi) (hj : ck_sj hd lo hi k r) (hk : ¬ k < 1) (c : ¬ ck_ns (ck_lf hd lo hi k r) ≤ k) : ck_sj hd lo hi k (r + 1) := by
  obtain ⟨h1, h2⟩ := ck_lf_cnt inv hj hk c
  have h3 := hj.2
  exact ⟨h1, by omega⟩
theorem ck_ns_next {hd : Int32} {lo hi : Nat → Int64} {k : Int32} {r : Nat} (inv : ck_inv hd lo hi) (hj : ck_sj hd lo hi k r) (hk : ¬ k < 1) (c : ¬ ck_ns (ck_lf hd lo hi k r) ≤ k) : ck_ns (ck_lf hd lo hi k r) + -1 = ck_ns (ck_lf hd lo hi k (r + 1)) := by
  obtain ⟨h1, h2⟩ := ck_lf_cnt inv hj hk c
  rw [ck_ns_N, ck_ns_N, ← h2]
  exact pk_m1 _
theorem ck_lf_lt {hd : Int32} {lo hi : Nat → Int64} {k : Int32} {r : Nat} (hj : ck_sj hd lo hi k r) (hk : ¬ k < 1) (c : ¬ ck_ns (ck_lf hd lo hi k r) ≤ k) : r < 24 := by
  have h1 := ck_two hk c
  have h2 := hj.2
  omega
theorem ck_ctI {k : Int32} (h1 : ¬ k < 1) (h2 : k ≤ 24) : ck_ct k = true := by
  have : ¬ 24 < k := by
    rw [Int32.lt_iff_toInt_lt]
    rw [Int32.le_iff_toInt_le] at h2
    omega
  simp [ck_ct, h1, this]
theorem ck_ctN {k : Int32} (h1 : k < 1) : ck_ct k = false := by simp [ck_ct, h1]
theorem ck_ctB {k : Int32} (h2 : ¬ k ≤ 24) : ck_ct k = false := by
  have : 24 < k := by
    rw [Int32.lt_iff_toInt_lt]
    rw [Int32.le_iff_toInt_le] at h2
    omega
  simp [ck_ct, this]
