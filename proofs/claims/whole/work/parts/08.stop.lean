-- when a bounded loop stops early, its value stays
theorem ck_er_stop {is : Nat → Bool} {lo hi : Nat → Int64} {f : Int64} {most : Int32} {i : Nat} (h : ¬ ck_cvs is lo hi (ck_er is lo hi f most i + 1) = most) (hi24 : i ≤ 24) : ck_er is lo hi f most i = ck_er is lo hi f most 24 := by
  have key : ∀ d, ck_er is lo hi f most (i + d) = ck_er is lo hi f most i := by
    intro d
    induction d with
    | zero => rfl
    | succ d ih =>
      show (if ck_cvs is lo hi (ck_er is lo hi f most (i + d) + 1) = most then ck_fh is lo hi (ck_er is lo hi f most (i + d) + 1) 24 else ck_er is lo hi f most (i + d)) = _
      rw [ih, if_neg h]
  have h2 := key (24 - i)
  rw [show i + (24 - i) = 24 by omega] at h2
  exact h2.symm
theorem ck_lf_stop {hd : Int32} {lo hi : Nat → Int64} {k : Int32} {i : Nat} (h : ck_ns (ck_lf hd lo hi k i) ≤ k) (hi24 : i ≤ 24) : ck_lf hd lo hi k i = ck_lf hd lo hi k 24 := by
  have key : ∀ d, ck_lf hd lo hi k (i + d) = ck_lf hd lo hi k i := by
    intro d
    induction d with
    | zero => rfl
    | succ d ih =>
      show (if ck_ns (ck_lf hd lo hi k (i + d)) ≤ k then ck_lf hd lo hi k (i + d) else ck_wo (ck_lf hd lo hi k (i + d)) (ck_far (ck_lf hd lo hi k (i + d)) lo hi)) = _
      rw [ih, if_pos h]
  have h2 := key (24 - i)
  rw [show i + (24 - i) = 24 by omega] at h2
  exact h2.symm
theorem ck_mdf_stay {is : Nat → Bool} {lo hi : Nat → Int64} {w : Int32} {i : Nat} {v : Int64} (hi24 : i < 24) (h : ck_mdf is lo hi w (i + 1) = some v) : ck_mdf is lo hi w 24 = some v := by
  have key : ∀ d, ck_mdf is lo hi w (i + 1 + d) = some v := by
    intro d
    induction d with
    | zero => exact h
    | succ d ih =>
      show (match ck_mdf is lo hi w (i + 1 + d) with
        | some v => some v
        | none => if is (i + 1 + d) && decide (ck_pl is lo hi (i + 1 + d) = w) then some (ck_mid lo hi (i + 1 + d)) else none) = some v
      rw [ih]
  have h2 := key (24 - (i + 1))
  rw [show i + 1 + (24 - (i + 1)) = 24 by omega] at h2
  exact h2
theorem ck_bc (x : Int32) : ck_s5 (ck_s4 (ck_s3 (ck_s2 (ck_s1 x)))) &&& 63 = ck_ns x := by sorry
theorem ck_fd2 (x : Int64) : ck_fd x 2 = ck_half x := by sorry
theorem ck_nz {set : Int32} (h : ¬ set = 0) : ¬ Int32.toInt64 (ck_ns set) = 0 := by sorry
