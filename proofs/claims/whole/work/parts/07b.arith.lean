-- arithmetic of the two divisions, halves, the clipped step
theorem ck_mb {a : Int} (h1 : -2 ^ 63 ≤ a) (h2 : a < 2 ^ 63) : a.bmod (2 ^ 64) = a := Int.bmod_eq_of_le (by omega) (by omega)
theorem ck_i0 : (0 : Int64).toInt = 0 := by decide
theorem ck_i1 : (1 : Int64).toInt = 1 := by decide
theorem ck_pos {y : Int64} (h : 0 < y) : 0 < y.toInt := by
  have := Int64.lt_iff_toInt_lt.mp h
  rw [ck_i0] at this
  exact this
theorem ck_xneg (x y : Int64) (h : 0 < y.toInt) : (0 ≤ x ^^^ y) ↔ 0 ≤ x.toInt := by
  have h1 : (x ^^^ y).toBitVec.msb = (x.toBitVec.msb ^^ y.toBitVec.msb) := by rw [Int64.toBitVec_xor, BitVec.msb_xor]
  rw [BitVec.msb_eq_toInt, BitVec.msb_eq_toInt, BitVec.msb_eq_toInt] at h1
  have h3 : decide ((x ^^^ y).toInt < 0) = (decide (x.toInt < 0) ^^ decide (y.toInt < 0)) := h1
  rw [decide_eq_false (show ¬ y.toInt < 0 by omega), Bool.xor_false] at h3
  rw [Int64.le_iff_toInt_le, ck_i0]
  have h4 := decide_eq_decide.mp h3
  omega
/-- the quotient towards 0: what it is, that its product with y stays in range, and the quotient less one -/
theorem ck_div (x y : Int64) (h : 0 < y.toInt) : ∃ q r : Int, (x / y).toInt = q ∧ ((x / y) * y).toInt = q * y.toInt ∧ r + q * y.toInt = x.toInt ∧ (0 ≤ x.toInt → 0 ≤ r ∧ r < y.toInt) ∧ (x.toInt < 0 → r ≤ 0 ∧ -y.toInt < r) ∧ (r < 0 → (x / y - 1).toInt = q - 1) := by
  have hy1 : y ≠ -1 := by
    intro q
    rw [q] at h
    exact absurd h (by decide)
  have hq : (x / y).toInt = x.toInt.tdiv y.toInt := Int64.toInt_div_of_ne_right x y hy1
  have hx1 := x.le_toInt
  have hx2 := x.toInt_lt
  have hy2 := y.toInt_lt
  have hm := Int.tmod_add_tdiv_mul x.toInt y.toInt
  have hb := tmod_bounds (a := x.toInt) h
  have hn : 0 ≤ x.toInt → 0 ≤ x.toInt.tmod y.toInt := fun q => Int.tmod_nonneg y.toInt q
  have hn2 : x.toInt < 0 → x.toInt.tmod y.toInt ≤ 0 := fun q => by
    have h1 := Int.tmod_nonneg y.toInt (show 0 ≤ -x.toInt by omega)
    rw [Int.neg_tmod] at h1
    omega
  have hmul : ((x / y) * y).toInt = x.toInt.tdiv y.toInt * y.toInt := by
    rw [Int64.toInt_mul, hq]
    rcases Int.lt_or_le x.toInt 0 with z | z
    · have := hn2 z
      exact ck_mb (by omega) (by omega)
    · have := hn z
      exact ck_mb (by omega) (by omega)
  refine ⟨x.toInt.tdiv y.toInt, x.toInt.tmod y.toInt, hq, hmul, hm, fun z => ⟨hn z, hb.2⟩, fun z => ⟨hn2 z, hb.1⟩, fun z => ?_⟩
  have hX : x.toInt < 0 := by
    rcases Int.lt_or_le x.toInt 0 with w | w
    · exact w
    · have := hn w
      omega
  have hq0 : x.toInt.tdiv y.toInt ≤ 0 := by
    rcases Int.lt_or_le 0 (x.toInt.tdiv y.toInt) with w | w
    · have := Int.mul_le_mul_of_nonneg_right (show 1 ≤ x.toInt.tdiv y.toInt from w) (Int.le_of_lt h)
      omega
    · exact w
  have hqY : x.toInt.tdiv y.toInt * y.toInt ≤ x.toInt.tdiv y.toInt * 1 := Int.mul_le_mul_of_nonpos_left hq0 (show 1 ≤ y.toInt from h)
  rw [Int64.toInt_sub, hq, ck_i1]
  exact ck_mb (by omega) (by omega)
theorem ck_fd_spec (x y : Int64) (h : 0 < y.toInt) : (ck_fd x y).toInt = x.toInt / y.toInt := by
  obtain ⟨q, r, h1, h2, h3, h4, h5, h6⟩ := ck_div x y h
  symm
  rw [Int.ediv_eq_iff_of_pos h]
  unfold ck_fd
  by_cases hpos : 0 ≤ x ^^^ y
  · rw [if_pos hpos, h1]
    have := h4 ((ck_xneg x y h).mp hpos)
    omega
  · rw [if_neg hpos]
    have hX : x.toInt < 0 := by
      rcases Int.lt_or_le x.toInt 0 with w | w
      · exact w
      · exact absurd ((ck_xneg x y h).mpr w) hpos
    have h7 := h5 hX
    by_cases he : (x / y) * y = x
    · rw [if_pos he, h1]
      rw [he] at h2
      omega
    · rw [if_neg he]
      have hne : ¬ q * y.toInt = x.toInt := fun z => he (Int64.toInt_inj.mp (h2.trans z))
      rw [h6 (by omega), Int.sub_mul, Int.one_mul]
      omega
theorem ck_ovE (x y : Int64) (hy : 0 < y) : (if (x / y) * y ≤ x then x / y else x / y - 1) = ck_fd x y := by
  have h := ck_pos hy
  apply Int64.toInt_inj.mp
  rw [ck_fd_spec x y h]
  obtain ⟨q, r, h1, h2, h3, h4, h5, h6⟩ := ck_div x y h
  symm
  rw [Int.ediv_eq_iff_of_pos h]
  by_cases he : (x / y) * y ≤ x
  · rw [if_pos he, h1]
    rw [Int64.le_iff_toInt_le, h2] at he
    rcases Int.lt_or_le x.toInt 0 with w | w
    · have := h5 w
      omega
    · have := h4 w
      omega
  · rw [if_neg he]
    rw [Int64.le_iff_toInt_le, h2] at he
    rw [h6 (by omega), Int.sub_mul, Int.one_mul]
    rcases Int.lt_or_le x.toInt 0 with w | w
    · have := h5 w
      omega
    · have := h4 w
      omega
theorem ck_half_spec (x : Int64) : (ck_half x).toInt = x.toInt / 2 := by
  unfold ck_half
  show (x.toBitVec.sshiftRight ((Int32.toInt64 1 &&& 63).toBitVec.smod 64).toNat).toInt = _
  rw [show ((Int32.toInt64 1 &&& 63).toBitVec.smod 64).toNat = 1 by decide +kernel, BitVec.toInt_sshiftRight, Int.shiftRight_eq_div_pow]
  rfl
theorem ck_fd2 (x : Int64) : ck_fd x 2 = ck_half x := Int64.toInt_inj.mp (by
  rw [ck_fd_spec x 2 (by decide), ck_half_spec]
  rfl)
theorem ck_stp {ow t : Int64} (how : 0 ≤ ow) (h1 : ¬ t < ow) (h2 : t ≤ ck_TIME) : 0 ≤ (t - ow) / 2000 := by
  have ho : 0 ≤ ow.toInt := by
    have := Int64.le_iff_toInt_le.mp how
    rw [ck_i0] at this
    exact this
  have hle : ow ≤ t := by
    rw [Int64.le_iff_toInt_le]
    rw [Int64.lt_iff_toInt_lt] at h1
    omega
  have hs := Int64.toInt_sub_of_le t ow how hle
  rw [Int64.le_iff_toInt_le] at hle
  rw [Int64.le_iff_toInt_le, lg_ldiv_nonneg (by rw [hs]; omega) (by decide), ck_i0]
  exact Int.ediv_nonneg (by omega) (by decide)
theorem ck_negT {s : Int64} (h : 0 ≤ s) : (-s).toInt = -s.toInt ∧ 0 ≤ s.toInt := by
  have h0 : 0 ≤ s.toInt := by
    have := Int64.le_iff_toInt_le.mp h
    rw [ck_i0] at this
    exact this
  have h2 := s.toInt_lt
  refine ⟨?_, h0⟩
  rw [Int64.toInt_neg]
  exact ck_mb (by omega) (by omega)
theorem ck_clip1 {s w : Int64} (hs : 0 ≤ s) (c : ¬ w ≤ s) : ck_max (-s) (ck_min s w) = s := by
  obtain ⟨h1, h2⟩ := ck_negT hs
  rw [Int64.le_iff_toInt_le] at c
  have e1 : ck_min s w = s := by
    unfold ck_min
    rw [if_neg (by rw [Int64.lt_iff_toInt_lt]; omega)]
  rw [e1]
  unfold ck_max
  rw [if_neg (by rw [Int64.lt_iff_toInt_lt]; omega)]
theorem ck_minE {s w : Int64} (c : w ≤ s) : ck_min s w = w := by
  unfold ck_min
  by_cases q : w < s
  · rw [if_pos q]
  · rw [if_neg q]
    rw [Int64.lt_iff_toInt_lt] at q
    rw [Int64.le_iff_toInt_le] at c
    exact Int64.toInt_inj.mp (by omega)
theorem ck_clip2 {s w : Int64} (_ : 0 ≤ s) (c : w ≤ s) (d : -s ≤ w) : ck_max (-s) (ck_min s w) = w := by
  rw [ck_minE c]
  unfold ck_max
  rw [if_neg]
  intro q
  rw [Int64.lt_iff_toInt_lt] at q
  rw [Int64.le_iff_toInt_le] at d
  omega
theorem ck_clip3 {s w : Int64} (_ : 0 ≤ s) (c : w ≤ s) (d : ¬ -s ≤ w) : ck_max (-s) (ck_min s w) = -s := by
  rw [ck_minE c]
  unfold ck_max
  rw [if_pos]
  rw [Int64.lt_iff_toInt_lt]
  rw [Int64.le_iff_toInt_le] at d
  omega
