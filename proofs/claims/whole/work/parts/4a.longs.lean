/-! ===== sets as long numbers ===== -/
theorem s_l64 : ∀ n : Nat, n < 64 → ((((Int32.ofInt (n : Int)).toInt64 &&& 63).toBitVec.smod 64)) = BitVec.ofNat 64 n := by decide +kernel
theorem oL_n (a : Nat) : Int64.ofInt (a : Int) = Int64.ofNat a := Int64.ofInt_eq_ofNat
theorem lt_bv (a : Nat) : (Int64.ofNat a).toBitVec = BitVec.ofNat 64 a := rfl
theorem l_and (a b : Nat) : Int64.ofNat a &&& Int64.ofNat b = Int64.ofNat (a &&& b) := by
  apply Int64.toBitVec_inj.1
  show BitVec.ofNat 64 a &&& BitVec.ofNat 64 b = BitVec.ofNat 64 (a &&& b)
  apply BitVec.eq_of_getLsbD_eq
  intro i hi
  simp [hi]
theorem l_or (a b : Nat) : Int64.ofNat a ||| Int64.ofNat b = Int64.ofNat (a ||| b) := by
  apply Int64.toBitVec_inj.1
  show BitVec.ofNat 64 a ||| BitVec.ofNat 64 b = BitVec.ofNat 64 (a ||| b)
  apply BitVec.eq_of_getLsbD_eq
  intro i hi
  simp [hi]
theorem l_xor (a b : Nat) : Int64.ofNat a ^^^ Int64.ofNat b = Int64.ofNat (a ^^^ b) := by
  apply Int64.toBitVec_inj.1
  show BitVec.ofNat 64 a ^^^ BitVec.ofNat 64 b = BitVec.ofNat 64 (a ^^^ b)
  apply BitVec.eq_of_getLsbD_eq
  intro i hi
  simp [hi]
theorem bl_n_and {a b : Nat} (ha : a < 2 ^ 63) : bl_and (a : Int) (b : Int) = ((a &&& b : Nat) : Int) := by
  unfold bl_and
  rw [oL_n, oL_n, l_and, Int64.toInt_ofNat_of_lt]
  exact Nat.lt_of_le_of_lt Nat.and_le_left ha
theorem bl_n_or {a b : Nat} (ha : a < 2 ^ 63) (hb : b < 2 ^ 63) : bl_or (a : Int) (b : Int) = ((a ||| b : Nat) : Int) := by
  unfold bl_or
  rw [oL_n, oL_n, l_or, Int64.toInt_ofNat_of_lt]
  exact Nat.or_lt_two_pow ha hb
theorem bl_n_andn {a b : Nat} (ha : a < 2 ^ 63) : bl_and (a : Int) (bl_xor (b : Int) (-1)) = ((a ^^^ (a &&& b) : Nat) : Int) := by
  unfold bl_and bl_xor
  rw [Int64.ofInt_toInt, oL_n, oL_n]
  have e : Int64.ofNat a &&& (Int64.ofNat b ^^^ Int64.ofInt (-1)) = Int64.ofNat a ^^^ (Int64.ofNat a &&& Int64.ofNat b) := by
    apply Int64.toBitVec_inj.1
    show BitVec.ofNat 64 a &&& (BitVec.ofNat 64 b ^^^ BitVec.ofInt 64 (-1)) = BitVec.ofNat 64 a ^^^ (BitVec.ofNat 64 a &&& BitVec.ofNat 64 b)
    have h1 : BitVec.ofInt 64 (-1) = BitVec.allOnes 64 := by decide
    rw [h1]
    apply BitVec.eq_of_getLsbD_eq
    intro i hi
    rw [BitVec.getLsbD_and, BitVec.getLsbD_xor, BitVec.getLsbD_xor, BitVec.getLsbD_and, BitVec.getLsbD_allOnes]
    generalize (BitVec.ofNat 64 a).getLsbD i = u
    generalize (BitVec.ofNat 64 b).getLsbD i = v
    simp only [hi, decide_true]
    cases u <;> cases v <;> rfl
  rw [e, l_and, l_xor, Int64.toInt_ofNat_of_lt]
  exact Nat.xor_lt_two_pow ha (Nat.lt_of_le_of_lt Nat.and_le_left ha)
theorem bl_n_shl {a k : Nat} (hk : k < 64) (ha : a * 2 ^ k < 2 ^ 63) : bl_shl (a : Int) (k : Int) = ((a * 2 ^ k : Nat) : Int) := by
  unfold bl_shl
  have e : Int64.ofInt (a : Int) <<< ((Int32.ofInt (k : Int)).toInt64 &&& 63) = Int64.ofNat (a * 2 ^ k) := by
    apply Int64.toBitVec_inj.1
    rw [Int64.toBitVec_shiftLeft, s_l64 k hk, oL_n, lt_bv, lt_bv]
    apply BitVec.eq_of_toNat_eq
    rw [BitVec.shiftLeft_eq', BitVec.toNat_shiftLeft, BitVec.toNat_ofNat, BitVec.toNat_ofNat, BitVec.toNat_ofNat, Nat.mod_eq_of_lt (show k < 2 ^ 64 by omega), Nat.shiftLeft_eq, Nat.mul_mod, Nat.mod_mod, ← Nat.mul_mod]
  rw [e, Int64.toInt_ofNat_of_lt ha]
theorem bl_n_shr {a k : Nat} (hk : k < 64) (ha : a < 2 ^ 63) : bl_shr (a : Int) (k : Int) = ((a / 2 ^ k : Nat) : Int) := by
  unfold bl_shr
  have e : Int64.ofInt (a : Int) >>> ((Int32.ofInt (k : Int)).toInt64 &&& 63) = Int64.ofNat (a / 2 ^ k) := by
    apply Int64.toBitVec_inj.1
    rw [Int64.toBitVec_shiftRight, s_l64 k hk, oL_n, lt_bv, lt_bv]
    have hm : (BitVec.ofNat 64 a).msb = false := by
      rw [BitVec.msb_eq_false_iff_two_mul_lt, BitVec.toNat_ofNat]
      omega
    rw [BitVec.sshiftRight_eq', BitVec.sshiftRight_eq_of_msb_false hm]
    apply BitVec.eq_of_toNat_eq
    have hd : a / 2 ^ k ≤ a := Nat.div_le_self _ _
    rw [BitVec.toNat_ushiftRight, BitVec.toNat_ofNat, BitVec.toNat_ofNat, BitVec.toNat_ofNat, Nat.mod_eq_of_lt (show k < 2 ^ 64 by omega), Nat.mod_eq_of_lt (show a < 2 ^ 64 by omega), Nat.mod_eq_of_lt (show a / 2 ^ k < 2 ^ 64 by omega), Nat.shiftRight_eq_div_pow]
  rw [e, Int64.toInt_ofNat_of_lt (Nat.lt_of_le_of_lt (Nat.div_le_self _ _) ha)]
theorem bl_n_bit {a k : Nat} (hk : k < 64) (ha : a < 2 ^ 63) : bl_and (bl_shr (a : Int) (k : Int)) 1 = if a.testBit k then 1 else 0 := by
  rw [bl_n_shr hk ha]
  have := bl_n_and (a := a / 2 ^ k) (b := 1) (Nat.lt_of_le_of_lt (Nat.div_le_self _ _) ha)
  rw [show ((1 : Nat) : Int) = 1 by rfl] at this
  rw [this, Nat.and_one_is_mod, Nat.testBit_eq_decide_div_mod_eq]
  by_cases h : a / 2 ^ k % 2 = 1
  · simp [h]
  · have : a / 2 ^ k % 2 = 0 := by omega
    simp [this]
/-! ===== pairs that are open ===== -/
def nx (n e : Nat) : Nat := if e + 1 < n then e + 1 else 0
def opB (n e c : Nat) : Bool := decide (c < n) && !(decide (c = e)) && !(decide (c = nx n e))
def opN (n e : Nat) : Nat → Nat
  | 0 => 0
  | c + 1 => opN n e c ||| (if opB n e c then 2 ^ c else 0)
def aoN (n : Nat) : Nat → Nat
  | 0 => 0
  | e + 1 => aoN n e ||| opN n e n * 2 ^ (8 * e)
def opV (n e : Nat) : Nat := opN n e n
def aoV (n : Nat) : Nat := aoN n n
theorem op_all : ∀ n, n < 9 → ∀ e, e < n → opV n e < 2 ^ n ∧ opV n e * 2 ^ (8 * e) < 2 ^ 63 ∧ (∀ c, c ≤ n → opN n e c < 256) ∧ ∀ j, j < 8 → (opV n e).testBit j = opB n e j := by decide +kernel
theorem ao_all : ∀ n, n < 9 → ∀ e, e ≤ n → aoN n e < 2 ^ 63 := by decide +kernel
theorem ao_bit : ∀ n, n < 9 → ∀ j, j < 64 → (aoV n).testBit j = (decide (j / 8 < n) && opB n (j / 8) (j % 8)) := by decide +kernel
theorem gp_cr {h : Int} {fx fy : Int → Int} {e c : Int} (hn : ¬ (fx (nxI h e) = fx e ∧ fy (nxI h e) = fy e)) : ((Int.gcd (fx (nxI h e) - fx e) (fy (nxI h e) - fy e) : Int)) * gp h fx fy e c = (fx (nxI h e) - fx e) * (fy c - fy e) - (fy (nxI h e) - fy e) * (fx c - fx e) := by
  have g := gcd_ne (a := fx (nxI h e) - fx e) (b := fy (nxI h e) - fy e) (by omega)
  have d1 : (Int.gcd (fx (nxI h e) - fx e) (fy (nxI h e) - fy e) : Int) ∣ fy (nxI h e) - fy e := Int.gcd_dvd_right ..
  have d2 : (Int.gcd (fx (nxI h e) - fx e) (fy (nxI h e) - fy e) : Int) ∣ -(fx (nxI h e) - fx e) := Int.dvd_neg.mpr (Int.gcd_dvd_left ..)
  have e1 := Int.tdiv_mul_cancel d1
  have e2 := Int.tdiv_mul_cancel d2
  unfold gp wq wP
  rw [if_neg g, if_neg g, if_neg g, if_neg (by decide), if_neg (by decide), if_pos rfl, if_neg (by decide), if_pos rfl]
  generalize (fy (nxI h e) - fy e).tdiv (Int.gcd (fx (nxI h e) - fx e) (fy (nxI h e) - fy e)) = A at e1 ⊢
  generalize (-(fx (nxI h e) - fx e)).tdiv (Int.gcd (fx (nxI h e) - fx e) (fy (nxI h e) - fy e)) = B at e2 ⊢
  generalize (Int.gcd (fx (nxI h e) - fx e) (fy (nxI h e) - fy e) : Int) = G at e1 e2 ⊢
  have k : G * (A * fx e + B * fy e - A * fx c - B * fy c) = (A * G) * (fx e - fx c) + (B * G) * (fy e - fy c) := by grind
  rw [k, e1, e2]
  grind
theorem cr_int (x0 y0 x1 y1 x2 y2 : Int) : cr (P2 x0 y0 1) (P2 x1 y1 1) (P2 x2 y2 1) = (((x1 - x0) * (y2 - y0) - (y1 - y0) * (x2 - x0) : Int) : Rat) := by
  have p : ∀ x y : Int, P2 x y 1 = ((x : Rat), (y : Rat)) := fun x y => by
    unfold P2
    refine Prod.ext ?_ ?_
    · show (x : Rat) / ((1 : Int) : Rat) = x; grind
    · show (y : Rat) / ((1 : Int) : Rat) = y; grind
  rw [p, p, p]
  unfold cr xp sb
  push_cast
  grind
theorem gp_pos {n : Int} {px py : Int → Int} {h : Int} {fx fy : Int → Int} (hG : FG n px py h fx fy) (h3 : 3 ≤ h) {e c : Int} (he : 0 ≤ e ∧ e < h) (hc : 0 ≤ c ∧ c < h) : 0 < gp h fx fy e c ↔ ¬ c = e ∧ ¬ c = nxI h e := by
  have hn := FG_ne hG h3 he.1 he.2
  have k := gp_cr (c := c) hn
  have g := gcd_ne (a := fx (nxI h e) - fx e) (b := fy (nxI h e) - fy e) (by omega)
  have g0 : 0 < (Int.gcd (fx (nxI h e) - fx e) (fy (nxI h e) - fy e) : Int) := by omega
  have key : 0 < gp h fx fy e c ↔ 0 < (fx (nxI h e) - fx e) * (fy c - fy e) - (fy (nxI h e) - fy e) * (fx c - fx e) := by
    rw [← k]
    constructor
    · intro q; exact Int.mul_pos g0 q
    · intro q
      apply Classical.byContradiction
      intro z
      have := Int.mul_le_mul_of_nonneg_left (show gp h fx fy e c ≤ 0 by omega) (show 0 ≤ (Int.gcd (fx (nxI h e) - fx e) (fy (nxI h e) - fy e) : Int) by omega)
      omega
  rw [key]
  constructor
  · intro q
    constructor
    · intro z
      rw [z] at q
      have a1 : fy e - fy e = 0 := by omega
      have a2 : fx e - fx e = 0 := by omega
      rw [a1, a2] at q
      omega
    · intro z
      rw [z] at q
      have := Int.mul_comm (fx (nxI h e) - fx e) (fy (nxI h e) - fy e)
      omega
  · rintro ⟨z1, z2⟩
    have H := hG.2.2.2.2 (by have := hG.2.2.1; omega)
    have nxr := nxI_rng he.1 he.2
    have en := nxI_nxt he.1 he.2
    have st := Hull_strict H (by omega) (i := e.toNat) (j := c.toNat) (by omega) (by omega) (by omega) (by omega)
    have ee : ((e.toNat : Nat) : Int) = e := by omega
    have ec : ((c.toNat : Nat) : Int) = c := by omega
    have en2 : ((nxt h.toNat e.toNat : Nat) : Int) = nxI h e := by omega
    have st2 : 0 < cr (P2 (fx ((e.toNat : Nat) : Int)) (fy ((e.toNat : Nat) : Int)) 1) (P2 (fx ((nxt h.toNat e.toNat : Nat) : Int)) (fy ((nxt h.toNat e.toNat : Nat) : Int)) 1) (P2 (fx ((c.toNat : Nat) : Int)) (fy ((c.toNat : Nat) : Int)) 1) := st
    rw [ee, ec, en2, cr_int] at st2
    exact_mod_cast st2
