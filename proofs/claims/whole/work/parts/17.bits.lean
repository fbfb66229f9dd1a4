/-! ===== sets of walls as numbers (fa_, nx_, s_l rows: begun from kit/laws) ===== -/
theorem fa_and (a b : Nat) : nI a &&& nI b = nI (a &&& b) := by
  apply Int32.toBitVec_inj.1
  show BitVec.ofNat 32 a &&& BitVec.ofNat 32 b = BitVec.ofNat 32 (a &&& b)
  apply BitVec.eq_of_getLsbD_eq
  intro i hi
  simp [hi]
theorem fa_or (a b : Nat) : nI a ||| nI b = nI (a ||| b) := by
  apply Int32.toBitVec_inj.1
  show BitVec.ofNat 32 a ||| BitVec.ofNat 32 b = BitVec.ofNat 32 (a ||| b)
  apply BitVec.eq_of_getLsbD_eq
  intro i hi
  simp [hi]
theorem nx_xor (a b : Nat) : nI a ^^^ nI b = nI (a ^^^ b) := by
  apply Int32.toBitVec_inj.1
  show BitVec.ofNat 32 a ^^^ BitVec.ofNat 32 b = BitVec.ofNat 32 (a ^^^ b)
  apply BitVec.eq_of_getLsbD_eq
  intro i hi
  simp [hi]
theorem s_l : ∀ n, n < 32 → ((nI n &&& 31).toBitVec.smod 32).toNat = n := by decide +kernel
theorem oI_n (a : Nat) : Int32.ofInt (a : Int) = nI a := Int32.ofInt_eq_ofNat
theorem bi_n_and {a b : Nat} (ha : a < 2 ^ 31) : bi_and (a : Int) (b : Int) = ((a &&& b : Nat) : Int) := by
  unfold bi_and
  rw [oI_n, oI_n, fa_and, nI_toInt]
  exact Nat.lt_of_le_of_lt Nat.and_le_left ha
theorem bi_n_or {a b : Nat} (ha : a < 2 ^ 31) (hb : b < 2 ^ 31) : bi_or (a : Int) (b : Int) = ((a ||| b : Nat) : Int) := by
  unfold bi_or
  rw [oI_n, oI_n, fa_or, nI_toInt]
  exact Nat.or_lt_two_pow ha hb
theorem bi_n_xor {a b : Nat} (ha : a < 2 ^ 31) (hb : b < 2 ^ 31) : bi_xor (a : Int) (b : Int) = ((a ^^^ b : Nat) : Int) := by
  unfold bi_xor
  rw [oI_n, oI_n, nx_xor, nI_toInt]
  exact Nat.xor_lt_two_pow ha hb
theorem bi_n_shl {a k : Nat} (hk : k < 31) (ha : a * 2 ^ k < 2 ^ 31) : bi_shl (a : Int) (k : Int) = ((a * 2 ^ k : Nat) : Int) := by
  unfold bi_shl
  rw [oI_n, oI_n, pk_shlN (nI k &&& 31) k (s_l k (by omega)) (by omega), nI_toInt ha]
theorem bi_n_shl1 {k : Nat} (hk : k < 31) : bi_shl 1 (k : Int) = ((2 ^ k : Nat) : Int) := by
  have := bi_n_shl (a := 1) hk (by rw [Nat.one_mul]; exact Nat.pow_lt_pow_right (by omega) hk)
  rw [Nat.one_mul] at this
  exact this
theorem bi_n_shr {a k : Nat} (hk : k < 31) (ha : a < 2 ^ 31) : bi_shr (a : Int) (k : Int) = ((a / 2 ^ k : Nat) : Int) := by
  unfold bi_shr
  rw [oI_n, oI_n, pk_shrN ha (nI k &&& 31) k (s_l k (by omega)), nI_toInt]
  exact Nat.lt_of_le_of_lt (Nat.div_le_self _ _) ha
theorem bi_n_bit {a k : Nat} (hk : k < 31) (ha : a < 2 ^ 31) : bi_and (bi_shr (a : Int) (k : Int)) 1 = if a.testBit k then 1 else 0 := by
  rw [bi_n_shr hk ha]
  have := bi_n_and (a := a / 2 ^ k) (b := 1) (Nat.lt_of_le_of_lt (Nat.div_le_self _ _) ha)
  rw [show ((1 : Nat) : Int) = 1 by rfl] at this
  rw [this, Nat.and_one_is_mod, Nat.testBit_eq_decide_div_mod_eq]
  by_cases h : a / 2 ^ k % 2 = 1
  · simp [h]
  · have : a / 2 ^ k % 2 = 0 := by omega
    simp [this]
theorem bi_n_andn {a b : Nat} (ha : a < 2 ^ 31) : bi_and (a : Int) (bi_xor (b : Int) (-1)) = ((a ^^^ (a &&& b) : Nat) : Int) := by
  unfold bi_and bi_xor
  rw [Int32.ofInt_toInt, oI_n, oI_n]
  have e : nI a &&& (nI b ^^^ Int32.ofInt (-1)) = nI a ^^^ (nI a &&& nI b) := by
    apply Int32.toBitVec_inj.1
    show BitVec.ofNat 32 a &&& (BitVec.ofNat 32 b ^^^ BitVec.ofInt 32 (-1)) = BitVec.ofNat 32 a ^^^ (BitVec.ofNat 32 a &&& BitVec.ofNat 32 b)
    have h1 : BitVec.ofInt 32 (-1) = BitVec.allOnes 32 := by decide
    rw [h1]
    apply BitVec.eq_of_getLsbD_eq
    intro i hi
    rw [BitVec.getLsbD_and, BitVec.getLsbD_xor, BitVec.getLsbD_xor, BitVec.getLsbD_and, BitVec.getLsbD_allOnes]
    generalize (BitVec.ofNat 32 a).getLsbD i = u
    generalize (BitVec.ofNat 32 b).getLsbD i = v
    simp only [hi, decide_true]
    cases u <;> cases v <;> rfl
  rw [e, fa_and, nx_xor, nI_toInt]
  exact Nat.xor_lt_two_pow ha (Nat.lt_of_le_of_lt Nat.and_le_left ha)
theorem tb_andn (a b j : Nat) : (a ^^^ (a &&& b)).testBit j = (a.testBit j && !b.testBit j) := by
  rw [Nat.testBit_xor, Nat.testBit_and]
  cases a.testBit j <;> cases b.testBit j <;> rfl
theorem tb_pow (k j : Nat) : (2 ^ k).testBit j = decide (k = j) := Nat.testBit_two_pow
theorem tb_zero_iff (a : Nat) : a = 0 ↔ ∀ j, a.testBit j = false := by
  constructor
  · rintro rfl j; exact Nat.zero_testBit j
  · intro h
    apply Nat.eq_of_testBit_eq
    intro j
    rw [h j, Nat.zero_testBit]
theorem bi_andn0 {a b : Nat} (ha : a < 2 ^ 31) : bi_and (a : Int) (bi_xor (b : Int) (-1)) = 0 ↔ ∀ j, a.testBit j = true → b.testBit j = true := by
  rw [bi_n_andn ha]
  have : (((a ^^^ (a &&& b) : Nat) : Int) = 0) ↔ (a ^^^ (a &&& b)) = 0 := by omega
  rw [this, tb_zero_iff]
  constructor
  · intro h j hj
    have := h j
    rw [tb_andn, hj] at this
    cases hb : b.testBit j
    · rw [hb] at this; cases this
    · rfl
  · intro h j
    rw [tb_andn]
    cases hj : a.testBit j
    · rfl
    · rw [h j hj]; rfl
theorem bi_and0 {a b : Nat} (ha : a < 2 ^ 31) : bi_and (a : Int) (b : Int) = 0 ↔ ∀ j, ¬ (a.testBit j = true ∧ b.testBit j = true) := by
  rw [bi_n_and ha]
  have : (((a &&& b : Nat) : Int) = 0) ↔ (a &&& b) = 0 := by omega
  rw [this, tb_zero_iff]
  constructor
  · intro h j ⟨h1, h2⟩
    have := h j
    rw [Nat.testBit_and, h1, h2] at this
    cases this
  · intro h j
    rw [Nat.testBit_and]
    cases h1 : a.testBit j
    · rfl
    · cases h2 : b.testBit j
      · rfl
      · exact absurd ⟨h1, h2⟩ (h j)
theorem tb_lt {a n j : Nat} (h : a < 2 ^ n) (hj : a.testBit j = true) : j < n := by
  apply Classical.byContradiction
  intro hc
  have := Nat.testBit_lt_two_pow (Nat.lt_of_lt_of_le h (Nat.pow_le_pow_right (by omega) (show n ≤ j by omega)))
  rw [this] at hj
  cases hj
theorem lt_tb {a n : Nat} (h : ∀ j, a.testBit j = true → j < n) : a < 2 ^ n := by
  apply Nat.lt_pow_two_of_testBit
  intro i hi
  cases hb : a.testBit i
  · rfl
  · have := h i hb; omega
/-- how many bits of the first n -/
def popc (a : Nat) : Nat → Nat
  | 0 => 0
  | n + 1 => popc a n + (if a.testBit n then 1 else 0)
