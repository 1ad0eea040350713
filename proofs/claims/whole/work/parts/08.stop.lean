-- when a bounded loop stops early, its value stays
theorem ck_er_stop {is : Nat → Bool} {lo hi : Nat → Int64} {f : Int64} {most : Int32} {i : Nat} (h : ¬ ck_cvs is lo hi (ck_er is lo hi f most i + 1) = most) (hi24 : i ≤ 24) : ck_er is lo hi f most i = ck_er is lo hi f most 24 := by
  have key : ∀ d, ck_er is lo hi f most (i + d) = ck_er is lo hi f most i := by
    intro d
    induction d with
    | zero => rfl
    | succ d ih =>
      show (if ck_cvs is lo hi (ck_er is lo hi f most (i + d) + 1) = most then ck_fh is lo hi (ck_er is lo hi f most (i + d) + 1) 24 else ck_er is lo hi f most (i + d)) = _
      rw [ih, if_neg h]
  have h2 := key (24 - i)
  rw [show i + (24 - i) = 24 by omega] at h2
  exact h2.symm
theorem ck_lf_stop {hd : Int32} {lo hi : Nat → Int64} {k : Int32} {i : Nat} (h : ck_ns (ck_lf hd lo hi k i) ≤ k) (hi24 : i ≤ 24) : ck_lf hd lo hi k i = ck_lf hd lo hi k 24 := by
  have key : ∀ d, ck_lf hd lo hi k (i + d) = ck_lf hd lo hi k i := by
    intro d
    induction d with
    | zero => rfl
    | succ d ih =>
      show (if ck_ns (ck_lf hd lo hi k (i + d)) ≤ k then ck_lf hd lo hi k (i + d) else ck_wo (ck_lf hd lo hi k (i + d)) (ck_far (ck_lf hd lo hi k (i + d)) lo hi)) = _
      rw [ih, if_pos h]
  have h2 := key (24 - i)
  rw [show i + (24 - i) = 24 by omega] at h2
  exact h2.symm
theorem ck_mdf_stay {is : Nat → Bool} {lo hi : Nat → Int64} {w : Int32} {i : Nat} {v : Int64} (hi24 : i < 24) (h : ck_mdf is lo hi w (i + 1) = some v) : ck_mdf is lo hi w 24 = some v := by
  have key : ∀ d, ck_mdf is lo hi w (i + 1 + d) = some v := by
    intro d
    induction d with
    | zero => exact h
    | succ d ih =>
      show (match ck_mdf is lo hi w (i + 1 + d) with
        | some v => some v
        | none => if is (i + 1 + d) && decide (ck_pl is lo hi (i + 1 + d) = w) then some (ck_mid lo hi (i + 1 + d)) else none) = some v
      rw [ih]
  have h2 := key (24 - (i + 1))
  rw [show i + 1 + (24 - (i + 1)) = 24 by omega] at h2
  exact h2
/-- the count, as a natural number -/
def ck_cN (P : Nat → Bool) : Nat → Nat
  | 0 => 0
  | n + 1 => if P n then ck_cN P n + 1 else ck_cN P n
theorem ck_cN_le (P : Nat → Bool) : ∀ n, ck_cN P n ≤ n
  | 0 => Nat.le_refl 0
  | n + 1 => by
    have := ck_cN_le P n
    show (if P n then ck_cN P n + 1 else ck_cN P n) ≤ n + 1
    split <;> omega
theorem ck_cn_N (P : Nat → Bool) : ∀ n, ck_cn P n = nI (ck_cN P n)
  | 0 => nI_0.symm
  | n + 1 => by
    show (if P n then ck_cn P n + 1 else ck_cn P n) = nI (if P n then ck_cN P n + 1 else ck_cN P n)
    rw [ck_cn_N P n]
    split
    · exact nI_1 _
    · rfl
theorem ck_cN_stop {P : Nat → Bool} {a : Nat} (h : ∀ j, a ≤ j → P j = false) : ∀ d, ck_cN P (a + d) = ck_cN P a
  | 0 => rfl
  | d + 1 => by
    show (if P (a + d) then ck_cN P (a + d) + 1 else ck_cN P (a + d)) = _
    rw [h (a + d) (by omega)]
    exact ck_cN_stop h d
theorem ck_ns24 {hd : Int32} (h : ∀ j, 24 ≤ j → bt hd j = false) : ck_cn (bt hd) 24 = ck_ns hd := by
  unfold ck_ns
  rw [ck_cn_N, ck_cn_N, show (32 : Nat) = 24 + 8 from rfl, ck_cN_stop h 8]
theorem ck_cN_0 {P : Nat → Bool} : ∀ n, ck_cN P n = 0 → ∀ j, j < n → P j = false
  | 0, _, j, hj => absurd hj (Nat.not_lt_zero j)
  | n + 1, h, j, hj => by
    have h1 : (if P n then ck_cN P n + 1 else ck_cN P n) = 0 := h
    cases hp : P n with
    | true => rw [hp] at h1; exact absurd h1 (by simp)
    | false =>
      rw [hp] at h1
      rcases Nat.lt_or_ge j n with q | q
      · exact ck_cN_0 n h1 j q
      · rw [show j = n by omega]; exact hp
theorem ck_cN_add (P : Nat → Bool) (m : Nat) : ∀ n, ck_cN P (m + n) = ck_cN P m + ck_cN (fun j => P (m + j)) n
  | 0 => rfl
  | n + 1 => by
    show (if P (m + n) then ck_cN P (m + n) + 1 else ck_cN P (m + n)) = _ + (if P (m + n) then ck_cN (fun j => P (m + j)) n + 1 else ck_cN (fun j => P (m + j)) n)
    rw [ck_cN_add P m n]
    split <;> omega
theorem ck_cN_congr {P Q : Nat → Bool} : ∀ n, (∀ j, j < n → P j = Q j) → ck_cN P n = ck_cN Q n
  | 0, _ => rfl
  | n + 1, h => by
    show (if P n then ck_cN P n + 1 else ck_cN P n) = (if Q n then ck_cN Q n + 1 else ck_cN Q n)
    rw [h n (by omega), ck_cN_congr n (fun j hj => h j (by omega))]
theorem ck_ns_N (x : Int32) : ck_ns x = nI (ck_cN (bt x) 32) := ck_cn_N (bt x) 32
theorem ck_nz {set : Int32} (h : ¬ set = 0) : ¬ Int32.toInt64 (ck_ns set) = 0 := by
  intro q
  have hle := ck_cN_le (bt set) 32
  rw [ck_ns_N, nI_l (by omega)] at q
  have h0 := (lN_eq (a := ck_cN (bt set) 32) (b := 0) (by omega) (by omega)).mp q
  exact h (b_ext (fun j hj => by rw [ck_cN_0 32 h0 j hj, b_0]))
/-! ### Integer.bitCount, byte by byte -/
def ck_U (x : Int32) : Nat := x.toBitVec.toNat
def ck_4 (a b c d : Nat) : Nat := ((d * 256 + c) * 256 + b) * 256 + a
theorem ck_Usub {x y : Int32} (h : ck_U y ≤ ck_U x) : ck_U (x - y) = ck_U x - ck_U y := by
  unfold ck_U at *
  rw [Int32.toBitVec_sub]
  exact BitVec.toNat_sub_of_le h
theorem ck_Uadd {x y : Int32} (h : ck_U x + ck_U y < 2 ^ 32) : ck_U (x + y) = ck_U x + ck_U y := by
  unfold ck_U at *
  rw [Int32.toBitVec_add]
  exact BitVec.toNat_add_of_lt h
theorem ck_Uand (x y : Int32) : ck_U (x &&& y) = ck_U x &&& ck_U y := by
  unfold ck_U
  rw [Int32.toBitVec_and, BitVec.toNat_and]
theorem ck_Uu (x s : Int32) (k : Nat) (hs : ((s.toUInt32 &&& Int32.toUInt32 31).toBitVec % 32).toNat = k) : ck_U (ck_u x s) = ck_U x / 2 ^ k := pk_ushr x s k hs
theorem ck_as (a b c d : Nat) (hb : b < 256) (hd : d < 256) : (a * 256 + b) &&& (c * 256 + d) = (a &&& c) * 256 + (b &&& d) := by
  have h1 : ((a * 256 + b) &&& (c * 256 + d)) / 2 ^ 8 = a &&& c := by
    rw [Nat.and_div_two_pow, show (a * 256 + b) / 2 ^ 8 = a by omega, show (c * 256 + d) / 2 ^ 8 = c by omega]
  have h2 : ((a * 256 + b) &&& (c * 256 + d)) % 2 ^ 8 = b &&& d := by
    rw [Nat.and_mod_two_pow, show (a * 256 + b) % 2 ^ 8 = b by omega, show (c * 256 + d) % 2 ^ 8 = d by omega]
  omega
theorem ck_and4 {a b c d m : Nat} (ha : a < 256) (hb : b < 256) (hc : c < 256) (hm : m < 256) : ck_4 a b c d &&& ck_4 m m m m = ck_4 (a &&& m) (b &&& m) (c &&& m) (d &&& m) := by
  unfold ck_4
  rw [ck_as _ _ _ _ ha hm, ck_as _ _ _ _ hb hm, ck_as _ _ _ _ hc hm]
def ck_g1 (a : Nat) : Nat := a - (a / 2 &&& 85)
def ck_g2 (a : Nat) : Nat := (a &&& 51) + (a / 4 &&& 51)
def ck_pc (a : Nat) : Nat := ck_cN (fun j => a.testBit j) 8
theorem ck_t1 : ∀ a, a < 256 → ∀ b, b < 2 → (a / 2 + 128 * b) &&& 85 = a / 2 &&& 85 := by decide +kernel
theorem ck_t2 : ∀ a, a < 256 → ∀ b, b < 4 → (a / 4 + 64 * b) &&& 51 = a / 4 &&& 51 := by decide +kernel
theorem ck_t3 : ∀ a, a < 256 → ck_g1 a < 256 ∧ (a / 2 &&& 85) ≤ a ∧ ck_g2 (ck_g1 a) ≤ 68 ∧ ck_g2 (ck_g1 a) % 16 ≤ 4 ∧ ck_pc a ≤ 8 := by decide +kernel
theorem ck_t4 : ∀ a, a < 256 → ∀ b, b < 5 → (ck_g2 (ck_g1 a) + (ck_g2 (ck_g1 a) / 16 + 16 * b)) &&& 15 = ck_pc a := by decide +kernel
theorem ck_t5 : ∀ a, a < 256 → (a &&& 51) ≤ 51 ∧ (a / 4 &&& 51) ≤ 51 := by decide +kernel
theorem ck_bc4 (x : Int32) {a b c d : Nat} (ha : a < 256) (hb : b < 256) (hc : c < 256) (hd : d < 256) (h : ck_U x = ck_4 a b c d) : ck_U (ck_s5 (ck_s4 (ck_s3 (ck_s2 (ck_s1 x)))) &&& 63) = ck_pc a + ck_pc b + ck_pc c + ck_pc d := by
  obtain ⟨a1, a2, a3, a4, a5⟩ := ck_t3 a ha
  obtain ⟨b1, b2, b3, b4, b5⟩ := ck_t3 b hb
  obtain ⟨c1, c2, c3, c4, c5⟩ := ck_t3 c hc
  obtain ⟨d1, d2, d3, d4, d5⟩ := ck_t3 d hd
  have e1 : ck_U (ck_s1 x) = ck_4 (ck_g1 a) (ck_g1 b) (ck_g1 c) (ck_g1 d) := by
    have hu : ck_U (ck_u x 1 &&& 1431655765) = ck_4 (a / 2 &&& 85) (b / 2 &&& 85) (c / 2 &&& 85) (d / 2 &&& 85) := by
      rw [ck_Uand, ck_Uu x 1 1 (by decide +kernel), h, show ck_U 1431655765 = ck_4 85 85 85 85 by decide +kernel]
      rw [show ck_4 a b c d / 2 ^ 1 = ck_4 (a / 2 + 128 * (b % 2)) (b / 2 + 128 * (c % 2)) (c / 2 + 128 * (d % 2)) (d / 2) by unfold ck_4; omega]
      rw [ck_and4 (by omega) (by omega) (by omega) (by omega), ck_t1 a ha _ (by omega), ck_t1 b hb _ (by omega), ck_t1 c hc _ (by omega)]
    unfold ck_s1
    rw [ck_Usub (by rw [hu, h]; unfold ck_4; omega), hu, h]
    unfold ck_4 ck_g1
    omega
  have e2 : ck_U (ck_s2 (ck_s1 x)) = ck_4 (ck_g2 (ck_g1 a)) (ck_g2 (ck_g1 b)) (ck_g2 (ck_g1 c)) (ck_g2 (ck_g1 d)) := by
    have hu : ck_U (ck_u (ck_s1 x) 2 &&& 858993459) = ck_4 (ck_g1 a / 4 &&& 51) (ck_g1 b / 4 &&& 51) (ck_g1 c / 4 &&& 51) (ck_g1 d / 4 &&& 51) := by
      rw [ck_Uand, ck_Uu _ 2 2 (by decide +kernel), e1, show ck_U 858993459 = ck_4 51 51 51 51 by decide +kernel]
      rw [show ck_4 (ck_g1 a) (ck_g1 b) (ck_g1 c) (ck_g1 d) / 2 ^ 2 = ck_4 (ck_g1 a / 4 + 64 * (ck_g1 b % 4)) (ck_g1 b / 4 + 64 * (ck_g1 c % 4)) (ck_g1 c / 4 + 64 * (ck_g1 d % 4)) (ck_g1 d / 4) by unfold ck_4; omega]
      rw [ck_and4 (by omega) (by omega) (by omega) (by omega), ck_t2 _ a1 _ (by omega), ck_t2 _ b1 _ (by omega), ck_t2 _ c1 _ (by omega)]
    have hv : ck_U (ck_s1 x &&& 858993459) = ck_4 (ck_g1 a &&& 51) (ck_g1 b &&& 51) (ck_g1 c &&& 51) (ck_g1 d &&& 51) := by
      rw [ck_Uand, e1, show ck_U 858993459 = ck_4 51 51 51 51 by decide +kernel, ck_and4 a1 b1 c1 (by omega)]
    have p1 := ck_t5 _ a1
    have p2 := ck_t5 _ b1
    have p3 := ck_t5 _ c1
    have p4 := ck_t5 _ d1
    unfold ck_s2
    rw [ck_Uadd (by rw [hu, hv]; unfold ck_4; omega), hu, hv]
    unfold ck_4 ck_g2
    omega
  have e3 : ck_U (ck_s3 (ck_s2 (ck_s1 x))) = ck_4 (ck_pc a) (ck_pc b) (ck_pc c) (ck_pc d) := by
    have hu : ck_U (ck_u (ck_s2 (ck_s1 x)) 4) = ck_4 (ck_g2 (ck_g1 a) / 16 + 16 * (ck_g2 (ck_g1 b) % 16)) (ck_g2 (ck_g1 b) / 16 + 16 * (ck_g2 (ck_g1 c) % 16)) (ck_g2 (ck_g1 c) / 16 + 16 * (ck_g2 (ck_g1 d) % 16)) (ck_g2 (ck_g1 d) / 16 + 16 * 0) := by
      rw [ck_Uu _ 4 4 (by decide +kernel), e2]
      unfold ck_4
      omega
    unfold ck_s3
    rw [ck_Uand, ck_Uadd (by rw [hu, e2]; unfold ck_4; omega), hu, e2, show ck_U 252645135 = ck_4 15 15 15 15 by decide +kernel]
    rw [show ∀ p q r s p2 q2 r2 s2 : Nat, ck_4 p q r s + ck_4 p2 q2 r2 s2 = ck_4 (p + p2) (q + q2) (r + r2) (s + s2) from fun p q r s p2 q2 r2 s2 => by unfold ck_4; omega]
    rw [ck_and4 (by omega) (by omega) (by omega) (by omega), ck_t4 a ha _ (by omega), ck_t4 b hb _ (by omega), ck_t4 c hc _ (by omega), ck_t4 d hd 0 (by omega)]
  have e4 : ck_U (ck_s4 (ck_s3 (ck_s2 (ck_s1 x)))) = ck_4 (ck_pc a + ck_pc b) (ck_pc b + ck_pc c) (ck_pc c + ck_pc d) (ck_pc d) := by
    have hu : ck_U (ck_u (ck_s3 (ck_s2 (ck_s1 x))) 8) = ck_4 (ck_pc b) (ck_pc c) (ck_pc d) 0 := by
      rw [ck_Uu _ 8 8 (by decide +kernel), e3]
      unfold ck_4
      omega
    unfold ck_s4
    rw [ck_Uadd (by rw [hu, e3]; unfold ck_4; omega), hu, e3]
    unfold ck_4
    omega
  have e5 : ck_U (ck_s5 (ck_s4 (ck_s3 (ck_s2 (ck_s1 x))))) = ck_4 (ck_pc a + ck_pc b + (ck_pc c + ck_pc d)) (ck_pc b + ck_pc c + ck_pc d) (ck_pc c + ck_pc d) (ck_pc d) := by
    have hu : ck_U (ck_u (ck_s4 (ck_s3 (ck_s2 (ck_s1 x)))) 16) = ck_4 (ck_pc c + ck_pc d) (ck_pc d) 0 0 := by
      rw [ck_Uu _ 16 16 (by decide +kernel), e4]
      unfold ck_4
      omega
    unfold ck_s5
    rw [ck_Uadd (by rw [hu, e4]; unfold ck_4; omega), hu, e4]
    unfold ck_4
    omega
  rw [ck_Uand, e5, show ck_U 63 = 2 ^ 6 - 1 by decide +kernel, Nat.and_two_pow_sub_one_eq_mod]
  unfold ck_4
  omega
theorem ck_bt4 (x : Int32) {a b c d : Nat} (ha : a < 256) (hb : b < 256) (hc : c < 256) (h : ck_U x = ck_4 a b c d) : ck_cN (bt x) 32 = ck_pc a + ck_pc b + ck_pc c + ck_pc d := by
  have hbt : ∀ i, bt x i = (ck_4 a b c d).testBit i := fun i => by rw [← h]; rfl
  have h4 : ck_4 a b c d = 2 ^ 8 * (2 ^ 8 * (2 ^ 8 * d + c) + b) + a := by unfold ck_4; omega
  rw [show (32 : Nat) = 8 + (8 + (8 + 8)) from rfl, ck_cN_add, ck_cN_add, ck_cN_add]
  have k0 : ck_cN (bt x) 8 = ck_pc a := ck_cN_congr 8 (fun j hj => by
    rw [hbt, h4, Nat.testBit_two_pow_mul_add _ (show a < 2 ^ 8 from ha), if_pos hj])
  have k1 : ck_cN (fun j => bt x (8 + j)) 8 = ck_pc b := ck_cN_congr 8 (fun j hj => by
    rw [hbt, h4, Nat.testBit_two_pow_mul_add _ (show a < 2 ^ 8 from ha), if_neg (by omega), show 8 + j - 8 = j by omega, Nat.testBit_two_pow_mul_add _ (show b < 2 ^ 8 from hb), if_pos hj])
  have k2 : ck_cN (fun j => bt x (8 + (8 + j))) 8 = ck_pc c := ck_cN_congr 8 (fun j hj => by
    rw [hbt, h4, Nat.testBit_two_pow_mul_add _ (show a < 2 ^ 8 from ha), if_neg (by omega), show 8 + (8 + j) - 8 = 8 + j by omega, Nat.testBit_two_pow_mul_add _ (show b < 2 ^ 8 from hb), if_neg (by omega), show 8 + j - 8 = j by omega, Nat.testBit_two_pow_mul_add _ (show c < 2 ^ 8 from hc), if_pos hj])
  have k3 : ck_cN (fun j => bt x (8 + (8 + (8 + j)))) 8 = ck_pc d := ck_cN_congr 8 (fun j hj => by
    rw [hbt, h4, Nat.testBit_two_pow_mul_add _ (show a < 2 ^ 8 from ha), if_neg (by omega), show 8 + (8 + (8 + j)) - 8 = 8 + (8 + j) by omega, Nat.testBit_two_pow_mul_add _ (show b < 2 ^ 8 from hb), if_neg (by omega), show 8 + (8 + j) - 8 = 8 + j by omega, Nat.testBit_two_pow_mul_add _ (show c < 2 ^ 8 from hc), if_neg (by omega), show 8 + j - 8 = j by omega])
  rw [k0, k1, k2, k3]
  omega
theorem ck_bc (x : Int32) : ck_s5 (ck_s4 (ck_s3 (ck_s2 (ck_s1 x)))) &&& 63 = ck_ns x := by
  have hx : ck_U x < 2 ^ 32 := x.toBitVec.isLt
  have h4 : ck_U x = ck_4 (ck_U x % 256) (ck_U x / 256 % 256) (ck_U x / 65536 % 256) (ck_U x / 16777216) := by unfold ck_4; omega
  have r1 := ck_bc4 x (by omega) (by omega) (by omega) (by omega) h4
  have r2 := ck_bt4 x (by omega) (by omega) (by omega) h4
  rw [ck_ns_N, r2]
  apply Int32.toBitVec_inj.mp
  apply BitVec.eq_of_toNat_eq
  show ck_U _ = _
  rw [r1, pk_tn]
  have l := ck_cN_le (bt x) 32
  omega
