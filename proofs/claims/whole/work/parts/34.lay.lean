/-! ===== the reference: all vertices laid ===== -/
theorem tri_bit {set u v w : Int} (h : 0 ≤ set ∧ set < 1024) (hu : 0 ≤ u ∧ u < 10) (hv : 0 ≤ v ∧ v < 10) (hw : 0 ≤ w ∧ w < 10) : bi_and (bi_and (bi_and (bi_shr set u) (bi_shr set v)) (bi_shr set w)) 1 = if (set.toNat.testBit u.toNat = true ∧ set.toNat.testBit v.toNat = true ∧ set.toNat.testBit w.toNat = true) then 1 else 0 := by
  obtain ⟨n, rfl⟩ := bset_of h.1
  obtain ⟨a, rfl⟩ := bset_of hu.1
  obtain ⟨b, rfl⟩ := bset_of hv.1
  obtain ⟨c, rfl⟩ := bset_of hw.1
  have la : n / 2 ^ a ≤ n := Nat.div_le_self _ _
  have lb : n / 2 ^ b ≤ n := Nat.div_le_self _ _
  have lc : n / 2 ^ c ≤ n := Nat.div_le_self _ _
  have l1 : n / 2 ^ a &&& n / 2 ^ b ≤ n / 2 ^ a := Nat.and_le_left
  have l2 : (n / 2 ^ a &&& n / 2 ^ b) &&& n / 2 ^ c ≤ n / 2 ^ a &&& n / 2 ^ b := Nat.and_le_left
  rw [bi_n_shr (by omega) (by omega), bi_n_shr (by omega) (by omega), bi_n_shr (by omega) (by omega), bi_n_and (by omega), bi_n_and (by omega)]
  have e := bi_n_and (a := (n / 2 ^ a &&& n / 2 ^ b) &&& n / 2 ^ c) (b := 1) (by omega)
  have e1 : ((1 : Nat) : Int) = 1 := rfl
  rw [e1] at e
  rw [e, Nat.and_one_is_mod]
  simp only [Int.toNat_natCast]
  have t : ((n / 2 ^ a &&& n / 2 ^ b) &&& n / 2 ^ c).testBit 0 = (n.testBit a && n.testBit b && n.testBit c) := by
    rw [Nat.testBit_and, Nat.testBit_and, Nat.testBit_div_two_pow, Nat.testBit_div_two_pow, Nat.testBit_div_two_pow, Nat.zero_add, Nat.zero_add, Nat.zero_add]
  rw [Nat.testBit_zero] at t
  by_cases q : n.testBit a = true ∧ n.testBit b = true ∧ n.testBit c = true
  · rw [if_pos q]
    rw [q.1, q.2.1, q.2.2] at t
    have : ((n / 2 ^ a &&& n / 2 ^ b) &&& n / 2 ^ c) % 2 = 1 := by simpa using t
    omega
  · rw [if_neg q]
    have : ¬ ((n / 2 ^ a &&& n / 2 ^ b) &&& n / 2 ^ c) % 2 = 1 := fun z => by
      rw [decide_eq_true z] at t
      apply q
      have t2 := t.symm
      rw [Bool.and_eq_true, Bool.and_eq_true] at t2
      exact ⟨t2.1.1, t2.1.2, t2.2⟩
    omega
theorem RE_congr {f : Int → p3} {n : Int} {S S' : p3 → Prop} (h : RE f n S) (e : ∀ p, S p ↔ S' p) : RE f n S' := by
  have : S = S' := by funext p; exact propext (e p)
  rw [← this]; exact h
/-- the walls of the reference stay -/
def RK (M M' : av_M) : Prop := (∀ f, f ≠ 26 → M' 35 f = M 35 f) ∧ ∀ k, k ≠ 35 → k ≠ 54 → k ≠ 55 → k ≠ 56 → k ≠ 57 → M' k = M k
theorem RK.tr {M M1 M2 : av_M} (h1 : RK M M1) (h2 : RK M1 M2) : RK M M2 := ⟨fun f hf => by rw [h2.1 f hf, h1.1 f hf], fun k a b c d e => by rw [h2.2 k a b c d e, h1.2 k a b c d e]⟩
theorem RK.w {M M' : av_M} (h : RK M M') : M' 35 23 = M 35 23 ∧ M' 52 = M 52 ∧ M' 53 = M 53 := ⟨h.1 23 (by decide), h.2 52 (by decide) (by decide) (by decide) (by decide) (by decide), h.2 53 (by decide) (by decide) (by decide) (by decide) (by decide)⟩
theorem RWm_congr {M M' : av_M} (h : RWm M) (e : M' 35 23 = M 35 23 ∧ M' 52 = M 52 ∧ M' 53 = M 53) : RWm M' := by
  unfold RWm rA rB rC rD
  rw [e.1, e.2.1, e.2.2]
  exact h
def LI (M M1 : av_M) (set : Int) (cov : Int → Int → Int → Prop) (b : Int) : Prop := RG M1 (M1 35 26) ∧ RE (rv M1) (M1 35 26) (SV3 (rA M) (rB M) (rC M) (rD M) (M 35 23) set cov) ∧ M1 35 26 ≤ b ∧ RK M M1
theorem LI_mono {M M1 : av_M} {set : Int} {cov cov' : Int → Int → Int → Prop} {b b' : Int} (h : LI M M1 set cov b) (hb : b ≤ b') (e : ∀ i j k, 0 ≤ i → i < j → j < k → k < M 35 23 → (cov i j k ↔ cov' i j k)) : LI M M1 set cov' b' := by
  refine ⟨h.1, RE_congr h.2.1 (fun p => ?_), by have := h.2.2.1; omega, h.2.2.2⟩
  constructor
  · rintro ⟨i, j, k, q, ho, r⟩; exact ⟨i, j, k, (e i j k ho.1 ho.2.1 ho.2.2.1 ho.2.2.2).mp q, ho, r⟩
  · rintro ⟨i, j, k, q, ho, r⟩; exact ⟨i, j, k, (e i j k ho.1 ho.2.1 ho.2.2.1 ho.2.2.2).mpr q, ho, r⟩
