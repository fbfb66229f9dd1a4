/-! ===== the reference: isSound ===== -/
theorem duo_bit {set u v : Int} (h : 0 ≤ set ∧ set < 1024) (hu : 0 ≤ u ∧ u < 10) (hv : 0 ≤ v ∧ v < 10) : bi_and (bi_and (bi_shr set u) (bi_shr set v)) 1 = if (set.toNat.testBit u.toNat = true ∧ set.toNat.testBit v.toNat = true) then 1 else 0 := by
  obtain ⟨n, rfl⟩ := bset_of h.1
  obtain ⟨a, rfl⟩ := bset_of hu.1
  obtain ⟨b, rfl⟩ := bset_of hv.1
  have la : n / 2 ^ a ≤ n := Nat.div_le_self _ _
  have lb : n / 2 ^ b ≤ n := Nat.div_le_self _ _
  have l1 : n / 2 ^ a &&& n / 2 ^ b ≤ n / 2 ^ a := Nat.and_le_left
  rw [bi_n_shr (by omega) (by omega), bi_n_shr (by omega) (by omega), bi_n_and (by omega)]
  have e := bi_n_and (a := n / 2 ^ a &&& n / 2 ^ b) (b := 1) (by omega)
  have e1 : ((1 : Nat) : Int) = 1 := rfl
  rw [e1] at e
  rw [e, Nat.and_one_is_mod]
  simp only [Int.toNat_natCast]
  have t : (n / 2 ^ a &&& n / 2 ^ b).testBit 0 = (n.testBit a && n.testBit b) := by
    rw [Nat.testBit_and, Nat.testBit_div_two_pow, Nat.testBit_div_two_pow, Nat.zero_add, Nat.zero_add]
  rw [Nat.testBit_zero] at t
  by_cases q : n.testBit a = true ∧ n.testBit b = true
  · rw [if_pos q]
    rw [q.1, q.2] at t
    have : (n / 2 ^ a &&& n / 2 ^ b) % 2 = 1 := by simpa using t
    omega
  · rw [if_neg q]
    have : ¬ (n / 2 ^ a &&& n / 2 ^ b) % 2 = 1 := fun z => by
      rw [decide_eq_true z] at t
      apply q
      have t2 := t.symm
      rw [Bool.and_eq_true] at t2
      exact t2
    omega
def cX (M : av_M) (u v : Int) : Int := M 52 (4 * u + 1) * M 52 (4 * v + 2) - M 52 (4 * u + 2) * M 52 (4 * v + 1)
def cY (M : av_M) (u v : Int) : Int := M 52 (4 * u + 2) * M 52 (4 * v) - M 52 (4 * u) * M 52 (4 * v + 2)
def cZ (M : av_M) (u v : Int) : Int := M 52 (4 * u) * M 52 (4 * v + 1) - M 52 (4 * u + 1) * M 52 (4 * v)
def GE (M : av_M) (set u v : Int) : Prop := (set.toNat.testBit u.toNat = true ∧ set.toNat.testBit v.toNat = true) ∧ u ≠ v ∧ ¬ (cX M u v = 0 ∧ cY M u v = 0 ∧ cZ M u v = 0) ∧ HnR M set (cX M u v) (cY M u v) (cZ M u v) 0 (M 35 23)
def SPu (M : av_M) (set u v : Int) : Prop := 0 < M 35 26 ∧ ∀ a b, 0 ≤ a → a < M 35 23 → 0 ≤ b → b < M 35 23 → (a < u ∨ (a = u ∧ b < v)) → ¬ GE M set a b
theorem SPu_s {M : av_M} {set u v : Int} (hu : 0 ≤ u ∧ u < M 35 23) (hv : 0 ≤ v ∧ v < M 35 23) : SPu M set u (v + 1) ↔ SPu M set u v ∧ ¬ GE M set u v := by
  constructor
  · intro h
    exact ⟨⟨h.1, fun a b a0 a1 b0 b1 c => h.2 a b a0 a1 b0 b1 (by omega)⟩, h.2 u v hu.1 hu.2 hv.1 hv.2 (by omega)⟩
  · rintro ⟨h, g⟩
    refine ⟨h.1, fun a b a0 a1 b0 b1 c => ?_⟩
    by_cases q : a = u ∧ b = v
    · rw [q.1, q.2]; exact g
    · exact h.2 a b a0 a1 b0 b1 (by omega)
theorem SPu_n {M : av_M} {set u v : Int} (hv : M 35 23 ≤ v) : SPu M set (u + 1) 0 ↔ SPu M set u v := by
  constructor
  · intro h; exact ⟨h.1, fun a b a0 a1 b0 b1 c => h.2 a b a0 a1 b0 b1 (by omega)⟩
  · intro h; exact ⟨h.1, fun a b a0 a1 b0 b1 c => h.2 a b a0 a1 b0 b1 (by omega)⟩
theorem SPu_w {M : av_M} {set u v u' v' : Int} (h : SPu M set u' v') (c : u < u' ∨ (u = u' ∧ v ≤ v')) : SPu M set u v := ⟨h.1, fun a b a0 a1 b0 b1 q => h.2 a b a0 a1 b0 b1 (by omega)⟩
