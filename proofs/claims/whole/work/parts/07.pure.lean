/-! ===== Int32 by its bits: bt x i ===== -/
def bt (x : Int32) (i : Nat) : Bool := x.toBitVec.getLsbD i
theorem b_ext {x y : Int32} (h : ∀ i, i < 32 → bt x i = bt y i) : x = y := Int32.toBitVec_inj.mp (BitVec.eq_of_getLsbD_eq (fun i hi => h i hi))
theorem b_or (x y : Int32) (i : Nat) : bt (x ||| y) i = (bt x i || bt y i) := by unfold bt; rw [Int32.toBitVec_or, BitVec.getLsbD_or]
theorem b_and (x y : Int32) (i : Nat) : bt (x &&& y) i = (bt x i && bt y i) := by unfold bt; rw [Int32.toBitVec_and, BitVec.getLsbD_and]
theorem b_xor (x y : Int32) (i : Nat) : bt (x ^^^ y) i = (bt x i ^^ bt y i) := by unfold bt; rw [Int32.toBitVec_xor, BitVec.getLsbD_xor]
theorem b_big {x : Int32} {i : Nat} (h : 32 ≤ i) : bt x i = false := BitVec.getLsbD_of_ge _ _ h
theorem b_255 (i : Nat) : bt 255 i = decide (i < 8) := by
  rcases Nat.lt_or_ge i 32 with h | h
  · exact (by decide +kernel : ∀ i, i < 32 → bt 255 i = decide (i < 8)) i h
  · rw [b_big h, decide_eq_false (by omega)]
theorem b_65535 (i : Nat) : bt 65535 i = decide (i < 16) := by
  rcases Nat.lt_or_ge i 32 with h | h
  · exact (by decide +kernel : ∀ i, i < 32 → bt 65535 i = decide (i < 16)) i h
  · rw [b_big h, decide_eq_false (by omega)]
theorem b_m1 : ∀ i, i < 32 → bt (-1) i = true := by decide +kernel
theorem b_0 (i : Nat) : bt 0 i = false := BitVec.getLsbD_zero
theorem s_l : ∀ n, n < 32 → ((nI n &&& 31).toBitVec.smod 32).toNat = n := by decide +kernel
theorem s_u : ∀ n, n < 32 → (((nI n).toUInt32 &&& Int32.toUInt32 31).toBitVec % 32).toNat = n := by decide +kernel
theorem b_shl (n : Nat) (hn : n < 32) (x : Int32) {i : Nat} (hi : i < 32) : bt (x <<< (nI n &&& 31)) i = (decide (n ≤ i) && bt x (i - n)) := by
  unfold bt
  rw [Int32.toBitVec_shiftLeft]
  show (x.toBitVec <<< ((nI n &&& 31).toBitVec.smod 32).toNat).getLsbD i = _
  rw [s_l n hn, BitVec.getLsbD_shiftLeft]
  rcases Nat.lt_or_ge i n with h | h
  · simp [h, Nat.not_le.mpr h]
  · simp [hi, h, Nat.not_lt.mpr h]
theorem b_ushr (n : Nat) (hn : n < 32) (x : Int32) (i : Nat) : bt ((x.toUInt32 >>> ((nI n).toUInt32 &&& Int32.toUInt32 31)).toInt32) i = bt x (n + i) := by
  show (x.toUInt32 >>> ((nI n).toUInt32 &&& Int32.toUInt32 31)).toBitVec.getLsbD i = x.toUInt32.toBitVec.getLsbD (n + i)
  rw [UInt32.toBitVec_shiftRight]
  show (x.toUInt32.toBitVec >>> (((nI n).toUInt32 &&& Int32.toUInt32 31).toBitVec % 32).toNat).getLsbD i = _
  rw [s_u n hn, BitVec.getLsbD_ushiftRight]
theorem b_sshr (n : Nat) (hn : n < 32) (x : Int32) {i : Nat} (hi : i < 32) : bt (x >>> (nI n &&& 31)) i = if n + i < 32 then bt x (n + i) else bt x 31 := by
  unfold bt
  rw [Int32.toBitVec_shiftRight]
  show (x.toBitVec.sshiftRight ((nI n &&& 31).toBitVec.smod 32).toNat).getLsbD i = _
  rw [s_l n hn, BitVec.getLsbD_sshiftRight, BitVec.msb_eq_getLsbD_last]
  simp [hi]
theorem b_shl8 (x : Int32) {i : Nat} (hi : i < 32) : bt (x <<< ((8 : Int32) &&& 31)) i = (decide (8 ≤ i) && bt x (i - 8)) := b_shl 8 (by omega) x hi
theorem b_shl16 (x : Int32) {i : Nat} (hi : i < 32) : bt (x <<< ((16 : Int32) &&& 31)) i = (decide (16 ≤ i) && bt x (i - 16)) := b_shl 16 (by omega) x hi
theorem b_shl24 (x : Int32) {i : Nat} (hi : i < 32) : bt (x <<< ((24 : Int32) &&& 31)) i = (decide (24 ≤ i) && bt x (i - 24)) := b_shl 24 (by omega) x hi
theorem b_sshr8 (x : Int32) {i : Nat} (hi : i < 32) : bt (x >>> ((8 : Int32) &&& 31)) i = if 8 + i < 32 then bt x (8 + i) else bt x 31 := b_sshr 8 (by omega) x hi
-- pure functions: what the class and the reference both answer
abbrev ck_NO : Int64 := -4611686018427387904
abbrev ck_FAR : Int64 := 288230376151711744
abbrev ck_NFAR : Int64 := -288230376151711744
abbrev ck_TIME : Int64 := 144115188075855872
abbrev ck_REACH : Int64 := 1099511627776
def ck_src (x : Int32) : Bool := !decide (x < 0) && !decide (24 ≤ x)
def ck_tm (t : Int64) : Bool := !decide (t < 0) && !decide (ck_TIME < t)
def ck_ct (k : Int32) : Bool := !decide (k < 1) && !decide (24 < k)
def ck_zo (c : Int32) : Bool := decide (c = 0) || decide (c = 1)
def ck_in (set x : Int32) : Bool := ck_src x && !decide (set &&& (1 <<< (x &&& 31)) = 0)
def ck_wo (set x : Int32) : Int32 := set &&& ((1 <<< (x &&& 31)) ^^^ (-1))
def ck_fd (x y : Int64) : Int64 := if 0 ≤ (x ^^^ y) then x / y else if (x / y) * y = x then x / y else x / y - 1
def ck_half (x : Int64) : Int64 := x >>> (Int32.toInt64 1 &&& 63)
def ck_u (x k : Int32) : Int32 := (x.toUInt32 >>> (k.toUInt32 &&& Int32.toUInt32 31)).toInt32
def ck_s1 (x : Int32) : Int32 := x - (ck_u x 1 &&& 1431655765)
def ck_s2 (x : Int32) : Int32 := (x &&& 858993459) + (ck_u x 2 &&& 858993459)
def ck_s3 (x : Int32) : Int32 := (x + ck_u x 4) &&& 252645135
def ck_s4 (x : Int32) : Int32 := x + ck_u x 8
def ck_s5 (x : Int32) : Int32 := x + ck_u x 16
def ck_cn (P : Nat → Bool) : Nat → Int32
  | 0 => 0
  | n + 1 => if P n then ck_cn P n + 1 else ck_cn P n
def ck_cov (is : Nat → Bool) (lo hi : Nat → Int64) (p : Int64) (j : Nat) : Bool := is j && (!decide (p < lo j) && !decide (hi j < p))
def ck_cvs (is : Nat → Bool) (lo hi : Nat → Int64) (p : Int64) : Int32 := ck_cn (ck_cov is lo hi p) 24
def ck_gr (is : Nat → Bool) (lo hi : Nat → Int64) : Nat → Int32
  | 0 => 0
  | n + 1 => if is n then ck_maxI (ck_gr is lo hi n) (ck_cvs is lo hi (lo n)) else ck_gr is lo hi n
def ck_fi (is : Nat → Bool) (lo hi : Nat → Int64) (e : Int32) : Nat → Int64
  | 0 => ck_NO
  | n + 1 => if is n && (!decide (ck_cvs is lo hi (lo n) < e) && (decide (ck_fi is lo hi e n = ck_NO) || !decide (ck_fi is lo hi e n ≤ lo n))) then lo n else ck_fi is lo hi e n
def ck_la (is : Nat → Bool) (lo hi : Nat → Int64) (e : Int32) : Nat → Int64
  | 0 => ck_NO
  | n + 1 => if is n && !decide (ck_cvs is lo hi (hi n) < e) then ck_max (ck_la is lo hi e n) (hi n) else ck_la is lo hi e n
def ck_fh (is : Nat → Bool) (lo hi : Nat → Int64) (p : Int64) : Nat → Int64
  | 0 => ck_FAR
  | n + 1 => if ck_cov is lo hi p n then ck_min (ck_fh is lo hi p n) (hi n) else ck_fh is lo hi p n
def ck_er (is : Nat → Bool) (lo hi : Nat → Int64) (f : Int64) (most : Int32) : Nat → Int64
  | 0 => ck_fh is lo hi f 24
  | n + 1 => if ck_cvs is lo hi (ck_er is lo hi f most n + 1) = most then ck_fh is lo hi (ck_er is lo hi f most n + 1) 24 else ck_er is lo hi f most n
def ck_rg (hd : Int32) (lo hi : Nat → Int64) (en : Int32) : Int64 :=
  if hd = 0 then ck_NO else if ck_zo en then (if en = 0 then ck_fi (bt hd) lo hi (ck_gr (bt hd) lo hi 24) 24 else ck_er (bt hd) lo hi (ck_fi (bt hd) lo hi (ck_gr (bt hd) lo hi 24) 24) (ck_gr (bt hd) lo hi 24) 24) else ck_NO
def ck_ns (hd : Int32) : Int32 := ck_cn (bt hd) 32
def ck_hl (hd : Int32) (lo hi : Nat → Int64) (f en : Int32) : Int64 :=
  if f < 0 then ck_NO else if ck_ns hd ≤ f then ck_NO else if ck_zo en then (if en = 0 then ck_fi (bt hd) lo hi (ck_ns hd - f) 24 else ck_la (bt hd) lo hi (ck_ns hd - f) 24) else ck_NO
def ck_ch (hd : Int32) (lo hi : Nat → Int64) (x : Int32) : Bool := ck_in hd x && (!decide (ck_rg hd lo hi 0 < lo x.toNatClampNeg) && !decide (hi x.toNatClampNeg < ck_rg hd lo hi 1))
def ck_mid (lo hi : Nat → Int64) (j : Nat) : Int64 := ck_half (lo j + hi j)
def ck_plP (is : Nat → Bool) (lo hi : Nat → Int64) (j : Nat) (o : Nat) : Bool := is o && (decide (ck_mid lo hi o < ck_mid lo hi j) || (decide (ck_mid lo hi o = ck_mid lo hi j) && !decide (nI j ≤ nI o)))
def ck_pl (is : Nat → Bool) (lo hi : Nat → Int64) (j : Nat) : Int32 := ck_cn (ck_plP is lo hi j) 24
def ck_mdf (is : Nat → Bool) (lo hi : Nat → Int64) (w : Int32) : Nat → Option Int64
  | 0 => none
  | n + 1 => match ck_mdf is lo hi w n with
    | some v => some v
    | none => if is n && decide (ck_pl is lo hi n = w) then some (ck_mid lo hi n) else none
def ck_md (hd : Int32) (lo hi : Nat → Int64) : Int64 := (ck_mdf (bt hd) lo hi ((ck_ns hd - 1) / 2) 24).getD ck_NO
def ck_nr (hd : Int32) (lo hi : Nat → Int64) (p lim : Int64) : Nat → Int32
  | 0 => hd
  | n + 1 => if bt hd n && !decide (ck_abs (ck_mid lo hi n - p) ≤ lim) then ck_wo (ck_nr hd lo hi p lim n) (nI n) else ck_nr hd lo hi p lim n
def ck_sm (is : Nat → Bool) (lo hi : Nat → Int64) : Nat → Int64
  | 0 => 0
  | n + 1 => if is n then ck_sm is lo hi n + ck_mid lo hi n else ck_sm is lo hi n
def ck_mm (set : Int32) (lo hi : Nat → Int64) : Int64 := if set = 0 then ck_NO else ck_fd (ck_sm (bt set) lo hi 24) (Int32.toInt64 (ck_ns set))
def ck_mn (hd : Int32) (lo hi : Nat → Int64) (lim : Int64) (part : Int32) : Int64 :=
  if hd = 0 then ck_NO else if lim < 0 then ck_NO else if ck_zo part then (if part = 0 then ck_mm (ck_nr hd lo hi (ck_md hd lo hi) lim 24) lo hi else Int32.toInt64 (ck_ns (ck_nr hd lo hi (ck_md hd lo hi) lim 24))) else ck_NO
def ck_fm (set : Int32) (lo hi : Nat → Int64) (mean : Int64) : Nat → Int64 × Int32
  | 0 => (0, 0)
  | n + 1 => if bt set n && !decide (ck_abs (ck_mid lo hi n - mean) < (ck_fm set lo hi mean n).1) then (ck_abs (ck_mid lo hi n - mean), nI n) else ck_fm set lo hi mean n
def ck_far (set : Int32) (lo hi : Nat → Int64) : Int32 := (ck_fm set lo hi (ck_mm set lo hi) 24).2
def ck_lf (hd : Int32) (lo hi : Nat → Int64) (k : Int32) : Nat → Int32
  | 0 => hd
  | n + 1 => if ck_ns (ck_lf hd lo hi k n) ≤ k then ck_lf hd lo hi k n else ck_wo (ck_lf hd lo hi k n) (ck_far (ck_lf hd lo hi k n) lo hi)
def ck_sv (hd : Int32) (lo hi : Nat → Int64) (k : Int32) : Int32 := if ck_ct k then ck_lf hd lo hi k 24 else -1
def ck_rk (hd : Int32) (lo hi : Nat → Int64) (x k : Int32) : Int32 := if ck_ct k then (if ck_in (ck_lf hd lo hi k 24) x then ck_pl (bt (ck_lf hd lo hi k 24)) lo hi x.toNatClampNeg else -1) else -1
def ck_of (off go : Int64) (w : Int32) : Int64 := if ck_zo w then (if w = 0 then off else go) else ck_NO
def ck_st (off go : Int64) : Int64 := if ck_abs (go - off) ≤ ck_REACH then ck_abs (go - off) * 2000 else ck_NO
abbrev xW (h a1 a2 : Nat) (c1 c2 : ClassId) (lo hi : Nat → Int64) (hd : Int32) (ow off go : Int64) : va_W := [(h, .inr (0, [.ref a1, .ref a2, .int hd, .long ow, .long off, .long go])), (a1, .inl (c1, 24, .inr (.inl lo))), (a2, .inl (c2, 24, .inr (.inl hi)))]
abbrev xT (c1 c2 : ClassId) : List (ClassId × FieldType) := [(c1, .long), (c2, .long)]
abbrev mW (h a0 a1 a2 : Nat) (c0 c1 c2 : ClassId) (lo hi : Nat → Int64) (hd : Int32) (ow off go : Int64) : va_W := [(h, .inr (1, [.ref a0, .ref a1, .ref a2, .long ow, .long off, .long go])), (a0, .inl (c0, 24, .inl (ck_bz (bt hd)))), (a1, .inl (c1, 24, .inr (.inl lo))), (a2, .inl (c2, 24, .inr (.inl hi)))]
abbrev mT (c0 c1 c2 : ClassId) : List (ClassId × FieldType) := [(c0, .boolean), (c1, .long), (c2, .long)]
theorem ck_srcE {x : Int32} (h : ck_src x = true) : ∃ j : Nat, j < 24 ∧ x = nI j := by
  simp only [ck_src, Bool.and_eq_true, Bool.not_eq_true', decide_eq_false_iff_not] at h
  obtain ⟨j, hj, rfl⟩ := nI_of h.1
  refine ⟨j, ?_, rfl⟩
  rcases Nat.lt_or_ge j 24 with q | q
  · exact q
  · exact absurd (show (24 : Int32) ≤ nI j from nI_le q hj) h.2
theorem ck_inE {set x : Int32} (h : ck_in set x = true) : ∃ j : Nat, j < 24 ∧ x = nI j := by
  simp only [ck_in, Bool.and_eq_true] at h
  exact ck_srcE h.1
theorem ck_srcN {j : Nat} (h : j < 24) : ck_src (nI j) = true := by
  have h1 : ¬ nI j < 0 := nI_pos (by omega)
  have h2 : ¬ (24 : Int32) ≤ nI j := nI_ge h (by decide)
  simp [ck_src, h1, h2]
theorem ck_1 (k : Nat) : bt 1 k = decide (k = 0) := by
  rcases Nat.lt_or_ge k 32 with h | h
  · exact (by decide +kernel : ∀ i, i < 32 → bt 1 i = decide (i = 0)) k h
  · rw [b_big h, decide_eq_false (by omega)]
theorem ck_pow {i : Nat} (hi : i < 32) {k : Nat} (hk : k < 32) : bt ((1 : Int32) <<< (nI i &&& 31)) k = decide (k = i) := by
  rw [b_shl i hi 1 hk, ck_1]
  by_cases e : k = i
  · subst e; simp
  · by_cases q : i ≤ k
    · have : ¬ k - i = 0 := by omega
      simp [e, q, this]
    · simp [e, q]
theorem ck_and0 (set : Int32) {i : Nat} (hi : i < 32) : set &&& ((1 : Int32) <<< (nI i &&& 31)) = 0 ↔ bt set i = false := by
  constructor
  · intro h
    have h2 := congrArg (fun z => bt z i) h
    simp only [b_and, ck_pow hi hi, b_0] at h2
    simpa using h2
  · intro h
    apply b_ext
    intro k hk
    rw [b_and, ck_pow hi hk, b_0]
    by_cases e : k = i
    · subst e; simp [h]
    · simp [e]
theorem ck_inN (set : Int32) {j : Nat} (h : j < 24) : ck_in set (nI j) = bt set j := by
  have h1 := ck_and0 set (show j < 32 by omega)
  simp only [ck_in, ck_srcN h, Bool.true_and]
  cases hb : bt set j with
  | false => simp [h1.mpr hb]
  | true =>
    have : ¬ set &&& ((1 : Int32) <<< (nI j &&& 31)) = 0 := fun q => by rw [h1.mp q] at hb; cases hb
    simp [this]
