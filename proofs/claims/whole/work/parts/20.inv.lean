-- what holds of the state between calls
def ck_inv (hd : Int32) (lo hi : Nat → Int64) : Prop := (∀ j, 24 ≤ j → bt hd j = false) ∧ ∀ j, ck_NFAR ≤ lo j ∧ lo j ≤ hi j ∧ hi j ≤ ck_FAR
theorem ck_shb (x : Int32) {i : Nat} (h : i < 24) : (x >>> (nI i &&& 31)) &&& 1 = ck_b (bt x i) := by
  apply b_ext
  intro k hk
  rw [b_and, b_sshr i (by omega) x hk, ck_1]
  by_cases e : k = 0
  · subst e
    rw [if_pos (by omega)]
    cases hb : bt x (i + 0) with
    | false => decide +kernel
    | true => decide +kernel
  · rw [decide_eq_false e, Bool.and_false]
    cases bt x i with
    | false => exact (b_0 k).symm
    | true => exact ((ck_1 k).trans (decide_eq_false e)).symm
theorem ck_sh1 {x : Int32} {i : Nat} (h : i < 24) (c : (x >>> (nI i &&& 31)) &&& 1 = 1) : bt x i = true := by
  rw [ck_shb x h] at c
  cases hb : bt x i with
  | true => rfl
  | false => rw [hb] at c; exact absurd c (by decide)
theorem ck_sh1n {x : Int32} {i : Nat} (h : i < 24) (c : ¬ (x >>> (nI i &&& 31)) &&& 1 = 1) : bt x i = false := by
  rw [ck_shb x h] at c
  cases hb : bt x i with
  | false => rfl
  | true => rw [hb] at c; exact absurd (by decide) c
theorem ck_sh0 {x : Int32} {i : Nat} (h : i < 24) (c : (x >>> (nI i &&& 31)) &&& 1 = 0) : bt x i = false := by
  rw [ck_shb x h] at c
  exact ck_bf c
theorem ck_sh0n {x : Int32} {i : Nat} (h : i < 24) (c : ¬ (x >>> (nI i &&& 31)) &&& 1 = 0) : bt x i = true := by
  rw [ck_shb x h] at c
  exact ck_bt c
theorem ck_zoN {x : Int32} (h : x < 0) : ck_zo x = false := by
  have h0 : ¬ x = 0 := fun q => by rw [q] at h; exact absurd h (by decide)
  have h1 : ¬ x = 1 := fun q => by rw [q] at h; exact absurd h (by decide)
  simp [ck_zo, h0, h1]
theorem ck_zoB {x : Int32} (h : ¬ x ≤ 1) : ck_zo x = false := by
  have h0 : ¬ x = 0 := fun q => by rw [q] at h; exact absurd (by decide) h
  have h1 : ¬ x = 1 := fun q => by rw [q] at h; exact absurd (by decide) h
  simp [ck_zo, h0, h1]
theorem ck_zoI {x : Int32} (h : ¬ x < 0) (h2 : x ≤ 1) : ck_zo x = true := by
  rw [Int32.lt_iff_toInt_lt] at h
  rw [Int32.le_iff_toInt_le] at h2
  have e0 : (0 : Int32).toInt = 0 := by decide
  have e1 : (1 : Int32).toInt = 1 := by decide
  rw [e0] at h
  rw [e1] at h2
  by_cases q : x = 0
  · simp [ck_zo, q]
  · have : x = 1 := by
      apply Int32.toInt_inj.mp
      have : ¬ x.toInt = 0 := fun z => q (Int32.toInt_inj.mp (z.trans e0.symm))
      omega
    simp [ck_zo, this]
theorem ck_pne {y : Int64} (h : 0 < y) : ¬ y = 0 := fun q => by rw [q] at h; exact absurd h (by decide)
theorem ck_absP {x : Int64} (h : 0 ≤ x) : x = ck_abs x := by
  unfold ck_abs
  by_cases q : 0 < x
  · rw [if_pos q]
  · have : x = 0 := by
      rw [Int64.lt_iff_toInt_lt] at q
      rw [Int64.le_iff_toInt_le] at h
      apply Int64.toInt_inj.mp
      omega
    rw [this]; decide
theorem ck_absN {x : Int64} (h : ¬ 0 ≤ x) : -x = ck_abs x := by
  unfold ck_abs
  rw [if_neg]
  intro q
  rw [Int64.lt_iff_toInt_lt] at q
  rw [Int64.le_iff_toInt_le] at h
  omega
theorem ck_maxI_le {x y : Int32} (h : y ≤ x) : ck_maxI x y = x := by
  unfold ck_maxI
  rw [if_neg]
  intro q
  rw [Int32.lt_iff_toInt_lt] at q
  rw [Int32.le_iff_toInt_le] at h
  omega
theorem ck_maxI_nle {x y : Int32} (h : ¬ y ≤ x) : ck_maxI x y = y := by
  unfold ck_maxI
  rw [if_pos]
  rw [Int32.lt_iff_toInt_lt]
  rw [Int32.le_iff_toInt_le] at h
  omega
theorem ck_max_le {x y : Int64} (h : y ≤ x) : ck_max x y = x := by
  unfold ck_max
  by_cases q : y < x
  · rw [if_pos q]
  · rw [if_neg q]
    rw [Int64.lt_iff_toInt_lt] at q
    rw [Int64.le_iff_toInt_le] at h
    apply Int64.toInt_inj.mp
    omega
theorem ck_max_nle {x y : Int64} (h : ¬ y ≤ x) : ck_max x y = y := by
  unfold ck_max
  rw [if_neg]
  intro q
  rw [Int64.lt_iff_toInt_lt] at q
  rw [Int64.le_iff_toInt_le] at h
  omega
theorem ck_toI_NO : ck_NO.toInt = -4611686018427387904 := by decide +kernel
theorem ck_toI_FAR : ck_FAR.toInt = 288230376151711744 := by decide +kernel
theorem ck_toI_NFAR : ck_NFAR.toInt = -288230376151711744 := by decide +kernel
theorem ck_max_NO {x y : Int64} (h : ck_NFAR ≤ x ∧ x ≤ y ∧ y ≤ ck_FAR) : ck_max ck_NO y = y := by
  unfold ck_max
  rw [if_neg]
  intro q
  obtain ⟨h1, h2, h3⟩ := h
  rw [Int64.lt_iff_toInt_lt, ck_toI_NO] at q
  rw [Int64.le_iff_toInt_le, ck_toI_NFAR] at h1
  rw [Int64.le_iff_toInt_le] at h2
  omega
theorem ck_cvs_nn (is : Nat → Bool) (lo hi : Nat → Int64) (p : Int64) : (0 : Int32) ≤ ck_cvs is lo hi p := by
  unfold ck_cvs
  rw [ck_cn_N]
  exact nI_pos' (by have := ck_cN_le (ck_cov is lo hi p) 24; omega)
theorem ck_gr_nn (is : Nat → Bool) (lo hi : Nat → Int64) : ∀ n, (0 : Int32) ≤ ck_gr is lo hi n
  | 0 => (by decide : (0 : Int32) ≤ 0)
  | n + 1 => by
    show (0 : Int32) ≤ (if is n then ck_maxI (ck_gr is lo hi n) (ck_cvs is lo hi (lo n)) else ck_gr is lo hi n)
    have h1 := ck_gr_nn is lo hi n
    split
    · unfold ck_maxI
      split
      · exact ck_cvs_nn _ _ _ _
      · exact h1
    · exact h1
def ck_plQ (is : Nat → Bool) (lo hi : Nat → Int64) (j o : Nat) : Bool := is j && ck_plP is lo hi j o
theorem ck_plQ_eq {is : Nat → Bool} {lo hi : Nat → Int64} {j : Nat} (h : is j = true) : ck_plQ is lo hi j = ck_plP is lo hi j := by
  funext o
  simp [ck_plQ, h]
