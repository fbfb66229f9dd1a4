/-! ===== where walls meet: the lists that the class keeps ===== -/
def WI (A B C D : Int → Int) (s on : Int) : Prop := 0 ≤ s ∧ s ≤ 10 ∧ (∀ j, 0 ≤ j → j < s → (-9 ≤ A j ∧ A j ≤ 9) ∧ (-9 ≤ B j ∧ B j ≤ 9) ∧ (-9 ≤ C j ∧ C j ≤ 9) ∧ (-99 ≤ D j ∧ D j ≤ 99) ∧ ¬ (A j = 0 ∧ B j = 0 ∧ C j = 0)) ∧ 0 ≤ on ∧ on < 1024 ∧ ∀ j : Nat, on.toNat.testBit j = true → (j : Int) < s
def vol (P Q R : Int → Int) (i j k : Int) : Int := P i * (Q j * R k - Q k * R j) - P j * (Q i * R k - Q k * R i) + P k * (Q i * R j - Q j * R i)
def exI (A B C D : Int → Int) (n x y z w : Int) : Int := A n * x + B n * y + C n * z - D n * w
def bset (P : Nat → Prop) (s v : Int) : Prop := 0 ≤ v ∧ v < 1024 ∧ ∀ j : Nat, v.toNat.testBit j = true ↔ ((j : Int) < s ∧ P j)
def MA (A B C D : Int → Int) (s : Int) (X Y Z W MK BR TO : Int → Int) (m i j k : Int) : Prop :=
  (0 ≤ i ∧ i < j ∧ j < k ∧ k < s) ∧ vol A B C i j k ≠ 0 ∧ ((-50000 ≤ X m ∧ X m ≤ 50000) ∧ (-50000 ≤ Y m ∧ Y m ≤ 50000) ∧ (-50000 ≤ Z m ∧ Z m ≤ 50000) ∧ 0 < W m ∧ W m ≤ 5000) ∧
  bset (fun t => (t : Int) = i ∨ (t : Int) = j ∨ (t : Int) = k) 10 (MK m) ∧ (exI A B C D i (X m) (Y m) (Z m) (W m) = 0 ∧ exI A B C D j (X m) (Y m) (Z m) (W m) = 0 ∧ exI A B C D k (X m) (Y m) (Z m) (W m) = 0) ∧
  bset (fun t => 0 < exI A B C D t (X m) (Y m) (Z m) (W m)) s (BR m) ∧ bset (fun t => exI A B C D t (X m) (Y m) (Z m) (W m) = 0) s (TO m)
def MI (A B C D : Int → Int) (s : Int) (X Y Z W MK BR TO : Int → Int) (sz : Int) (cov : Int → Int → Int → Prop) : Prop :=
  0 ≤ sz ∧ (∀ m, 0 ≤ m → m < sz → ∃ i j k, MA A B C D s X Y Z W MK BR TO m i j k) ∧ ∀ i j k, 0 ≤ i → i < j → j < k → k < s → vol A B C i j k ≠ 0 → cov i j k → ∃ m, 0 ≤ m ∧ m < sz ∧ MA A B C D s X Y Z W MK BR TO m i j k
def RA (A B C : Int → Int) (s : Int) (RB : Int → Int) (r i j : Int) : Prop :=
  (0 ≤ i ∧ i < s ∧ 0 ≤ j ∧ j < s) ∧ ¬ (B i * C j - C i * B j = 0 ∧ C i * A j - A i * C j = 0 ∧ A i * B j - B i * A j = 0) ∧
  bset (fun t => 0 < A t * (B i * C j - C i * B j) + B t * (C i * A j - A i * C j) + C t * (A i * B j - B i * A j)) s (RB r)
def RI (A B C : Int → Int) (s : Int) (RB : Int → Int) (rz : Int) (cov : Int → Int → Prop) : Prop :=
  0 ≤ rz ∧ (∀ r, 0 ≤ r → r < rz → ∃ i j, RA A B C s RB r i j) ∧ ∀ i j, 0 ≤ i → i < s → 0 ≤ j → j < s → ¬ (B i * C j - C i * B j = 0 ∧ C i * A j - A i * C j = 0 ∧ A i * B j - B i * A j = 0) → cov i j → ∃ r, 0 ≤ r ∧ r < rz ∧ RA A B C s RB r i j
theorem MA_congr {A B C D : Int → Int} {s : Int} {X Y Z W MK BR TO X' Y' Z' W' MK' BR' TO' : Int → Int} {m i j k : Int} (h : MA A B C D s X Y Z W MK BR TO m i j k) (e : X' m = X m ∧ Y' m = Y m ∧ Z' m = Z m ∧ W' m = W m ∧ MK' m = MK m ∧ BR' m = BR m ∧ TO' m = TO m) : MA A B C D s X' Y' Z' W' MK' BR' TO' m i j k := by
  obtain ⟨e1, e2, e3, e4, e5, e6, e7⟩ := e
  unfold MA
  rw [e1, e2, e3, e4, e5, e6, e7]
  exact h
theorem RA_congr {A B C : Int → Int} {s : Int} {RB RB' : Int → Int} {r i j : Int} (h : RA A B C s RB r i j) (e : RB' r = RB r) : RA A B C s RB' r i j := by
  unfold RA
  rw [e]
  exact h
theorem vol_rng {P Q R : Int → Int} {i j k U V T : Int} (hP : ∀ n, n = i ∨ n = j ∨ n = k → -U ≤ P n ∧ P n ≤ U) (hQ : ∀ n, n = i ∨ n = j ∨ n = k → -V ≤ Q n ∧ Q n ≤ V) (hR : ∀ n, n = i ∨ n = j ∨ n = k → -T ≤ R n ∧ R n ≤ T) : -(6 * (U * (V * T))) ≤ vol P Q R i j k ∧ vol P Q R i j k ≤ 6 * (U * (V * T)) := by
  have a1 := mb3 (hP i (by omega)) (hQ j (by omega)) (hR k (by omega))
  have a2 := mb3 (hP i (by omega)) (hQ k (by omega)) (hR j (by omega))
  have a3 := mb3 (hP j (by omega)) (hQ i (by omega)) (hR k (by omega))
  have a4 := mb3 (hP j (by omega)) (hQ k (by omega)) (hR i (by omega))
  have a5 := mb3 (hP k (by omega)) (hQ i (by omega)) (hR j (by omega))
  have a6 := mb3 (hP k (by omega)) (hQ j (by omega)) (hR i (by omega))
  have e : vol P Q R i j k = P i * (Q j * R k) - P i * (Q k * R j) - P j * (Q i * R k) + P j * (Q k * R i) + P k * (Q i * R j) - P k * (Q j * R i) := by unfold vol; grind
  omega
theorem p1024 : (2 : Nat) ^ 10 = 1024 := by rfl
theorem tb_or1 {a k j : Nat} : (a ||| 2 ^ k).testBit j = (a.testBit j || decide (k = j)) := by
  rw [Nat.testBit_or, tb_pow]
theorem bit_set {on w : Int} (h0 : 0 ≤ on) (h1 : on < 1024) (hw : 0 ≤ w ∧ w < 10) : ∃ r : Int, bi_or on (bi_shl 1 w) = r ∧ 0 ≤ r ∧ r < 1024 ∧ ∀ j : Nat, r.toNat.testBit j = (on.toNat.testBit j || decide ((j : Int) = w)) := by
  obtain ⟨n, rfl⟩ := Int.eq_ofNat_of_zero_le h0
  obtain ⟨k, rfl⟩ := Int.eq_ofNat_of_zero_le hw.1
  have hk : k < 10 := by omega
  have hp : (2 : Nat) ^ k < 2 ^ 10 := Nat.pow_lt_pow_right (by omega) hk
  have h10 := p1024
  rw [bi_n_shl1 (by omega), bi_n_or (by omega) (by omega)]
  have hlt : n ||| 2 ^ k < 2 ^ 10 := Nat.or_lt_two_pow (by omega) hp
  refine ⟨_, rfl, by omega, by omega, fun j => ?_⟩
  rw [Int.toNat_natCast, Int.toNat_natCast, tb_or1]
  congr 1
  by_cases h : k = j
  · simp [h]
  · have : ¬ (j : Int) = (k : Int) := by omega
    simp [h, this]
theorem bit_clr {on w : Int} (h0 : 0 ≤ on) (h1 : on < 1024) (hw : 0 ≤ w ∧ w < 10) : ∃ r : Int, bi_and on (bi_xor (bi_shl 1 w) (-1)) = r ∧ 0 ≤ r ∧ r < 1024 ∧ ∀ j : Nat, r.toNat.testBit j = (on.toNat.testBit j && !decide ((j : Int) = w)) := by
  obtain ⟨n, rfl⟩ := Int.eq_ofNat_of_zero_le h0
  obtain ⟨k, rfl⟩ := Int.eq_ofNat_of_zero_le hw.1
  have hk : k < 10 := by omega
  have hp : (2 : Nat) ^ k < 2 ^ 10 := Nat.pow_lt_pow_right (by omega) hk
  have h10 := p1024
  rw [bi_n_shl1 (by omega), bi_n_andn (by omega)]
  have hle : n &&& 2 ^ k ≤ n := Nat.and_le_left
  have hlt : n ^^^ (n &&& 2 ^ k) < 2 ^ 10 := Nat.xor_lt_two_pow (by omega) (by omega)
  refine ⟨_, rfl, by omega, by omega, fun j => ?_⟩
  rw [Int.toNat_natCast, Int.toNat_natCast, tb_andn, tb_pow]
  congr 2
  by_cases h : k = j
  · simp [h]
  · have : ¬ (j : Int) = (k : Int) := by omega
    simp [h, this]
theorem bit_at {on w : Int} (h0 : 0 ≤ on) (h1 : on < 2147483648) (hw : 0 ≤ w ∧ w < 31) : bi_and (bi_shr on w) 1 = if on.toNat.testBit w.toNat = true then 1 else 0 := by
  obtain ⟨n, rfl⟩ := Int.eq_ofNat_of_zero_le h0
  obtain ⟨k, rfl⟩ := Int.eq_ofNat_of_zero_le hw.1
  rw [bi_n_bit (by omega) (by omega)]
  rw [Int.toNat_natCast, Int.toNat_natCast]
theorem bset_nil {P : Nat → Prop} {s : Int} (h : s ≤ 0) : bset P s 0 := ⟨by omega, by omega, fun j => by
  rw [show (0 : Int).toNat = 0 by rfl, Nat.zero_testBit]
  constructor
  · intro h; cases h
  · intro h; omega⟩
theorem bset_in {P : Nat → Prop} {n v : Int} (h : bset P n v) (hn : 0 ≤ n ∧ n < 10) (hP : P n.toNat) : ∃ r, bi_or v (bi_shl 1 n) = r ∧ bset P (n + 1) r := by
  obtain ⟨r, e, r0, r1, hr⟩ := bit_set h.1 h.2.1 hn
  refine ⟨r, e, r0, r1, fun j => ?_⟩
  rw [hr j, Bool.or_eq_true, h.2.2 j, decide_eq_true_eq]
  constructor
  · rintro (⟨a, b⟩ | a)
    · exact ⟨by omega, b⟩
    · exact ⟨by omega, by rw [show j = n.toNat by omega]; exact hP⟩
  · rintro ⟨a, b⟩
    by_cases hj : (j : Int) = n
    · exact Or.inr hj
    · exact Or.inl ⟨by omega, b⟩
theorem bset_out {P : Nat → Prop} {n v : Int} (h : bset P n v) (hn : 0 ≤ n) (hP : ¬ P n.toNat) : bset P (n + 1) v := by
  refine ⟨h.1, h.2.1, fun j => ?_⟩
  rw [h.2.2 j]
  constructor
  · rintro ⟨a, b⟩; exact ⟨by omega, b⟩
  · rintro ⟨a, b⟩
    by_cases hj : (j : Int) = n
    · exact absurd (by rw [show n.toNat = j by omega]; exact b) hP
    · exact ⟨by omega, b⟩
theorem bset_congr {P P' : Nat → Prop} {s v : Int} (h : bset P s v) (e : ∀ j : Nat, (j : Int) < s → (P j ↔ P' j)) : bset P' s v := by
  refine ⟨h.1, h.2.1, fun j => ?_⟩
  rw [h.2.2 j]
  constructor
  · rintro ⟨a, b⟩; exact ⟨a, (e j a).mp b⟩
  · rintro ⟨a, b⟩; exact ⟨a, (e j a).mpr b⟩
theorem shl1_rng {k : Int} (hk : 0 ≤ k ∧ k < 10) : 0 ≤ bi_shl 1 k ∧ bi_shl 1 k < 1024 ∧ ∀ j : Nat, (bi_shl 1 k).toNat.testBit j = decide ((j : Int) = k) := by
  obtain ⟨n, rfl⟩ := Int.eq_ofNat_of_zero_le hk.1
  have hp : (2 : Nat) ^ n < 2 ^ 10 := Nat.pow_lt_pow_right (by omega) (by omega)
  have h10 := p1024
  rw [bi_n_shl1 (by omega)]
  refine ⟨Int.natCast_nonneg _, Int.ofNat_lt.mpr (show 2 ^ n < 1024 by omega), fun j => ?_⟩
  rw [Int.toNat_natCast, tb_pow]
  by_cases h : n = j
  · simp [h]
  · have : ¬ (j : Int) = (n : Int) := by omega
    simp [h, this]
theorem makers_of {i j k : Int} (h : 0 ≤ i ∧ i < j ∧ j < k ∧ k < 10) : bset (fun t => (t : Int) = i ∨ (t : Int) = j ∨ (t : Int) = k) 10 (bi_or (bi_or (bi_shl 1 i) (bi_shl 1 j)) (bi_shl 1 k)) := by
  obtain ⟨a0, a1, a2⟩ := shl1_rng (k := i) (by omega)
  obtain ⟨r, e1, r0, r1, hr⟩ := bit_set a0 a1 (w := j) (by omega)
  rw [e1]
  obtain ⟨q, e2, q0, q1, hq⟩ := bit_set r0 r1 (w := k) (by omega)
  rw [e2]
  refine ⟨q0, q1, fun t => ?_⟩
  rw [hq t, hr t, a2 t]
  simp only [Bool.or_eq_true, decide_eq_true_eq]
  constructor
  · intro h; omega
  · intro h; omega
theorem MA_mk {A B C D : Int → Int} {s on : Int} (hW : WI A B C D s on) {i j k : Int} (ho : 0 ≤ i ∧ i < j ∧ j < k ∧ k < s) {sg : Int} (hsg : sg = 1 ∨ sg = -1) (hv : 0 < sg * vol A B C i j k) {X Y Z W MK BR TO : Int → Int} {m : Int}
    (hx : X m = sg * vol D B C i j k) (hy : Y m = sg * vol A D C i j k) (hz : Z m = sg * vol A B D i j k) (hw : W m = sg * vol A B C i j k) (hmk : MK m = bi_or (bi_or (bi_shl 1 i) (bi_shl 1 j)) (bi_shl 1 k))
    (hbr : bset (fun t => 0 < exI A B C D t (X m) (Y m) (Z m) (W m)) s (BR m)) (hto : bset (fun t => exI A B C D t (X m) (Y m) (Z m) (W m) = 0) s (TO m)) : MA A B C D s X Y Z W MK BR TO m i j k := by
  obtain ⟨s0, s1, hw9, -⟩ := hW
  have bi := hw9 i (by omega) (by omega)
  have bj := hw9 j (by omega) (by omega)
  have bk := hw9 k (by omega) (by omega)
  have fA : ∀ n, n = i ∨ n = j ∨ n = k → -9 ≤ A n ∧ A n ≤ 9 := fun n hn => by rcases hn with rfl | rfl | rfl <;> omega
  have fB : ∀ n, n = i ∨ n = j ∨ n = k → -9 ≤ B n ∧ B n ≤ 9 := fun n hn => by rcases hn with rfl | rfl | rfl <;> omega
  have fC : ∀ n, n = i ∨ n = j ∨ n = k → -9 ≤ C n ∧ C n ≤ 9 := fun n hn => by rcases hn with rfl | rfl | rfl <;> omega
  have fD : ∀ n, n = i ∨ n = j ∨ n = k → -99 ≤ D n ∧ D n ≤ 99 := fun n hn => by rcases hn with rfl | rfl | rfl <;> omega
  have v0 := vol_rng fA fB fC
  have v1 := vol_rng fD fB fC
  have v2 := vol_rng fA fD fC
  have v3 := vol_rng fA fB fD
  refine ⟨ho, fun q => ?_, ?_, by rw [hmk]; exact makers_of (by omega), ?_, hbr, hto⟩
  · rw [q] at hv; omega
  · rw [hx, hy, hz, hw]
    rcases hsg with rfl | rfl <;> omega
  · rw [hx, hy, hz, hw]
    unfold exI vol
    rcases hsg with rfl | rfl
    · refine ⟨?_, ?_, ?_⟩ <;> grind
    · refine ⟨?_, ?_, ?_⟩ <;> grind
/-- how many threes come before (i, j, k), at most -/
def cj (i : Nat) : Nat → Nat
  | 0 => 0
  | j + 1 => cj i j + (if i < j then 9 - j else 0)
def ci : Nat → Nat
  | 0 => 0
  | i + 1 => ci i + cj i 10
def ri : Nat → Nat
  | 0 => 0
  | i + 1 => ri i + (9 - i)
theorem cnt3 : ∀ i, i < 10 → ∀ j, j < 10 → i < j → ∀ k, k < 10 → j < k → ci i + cj i j + (k - j - 1) < 120 := by decide +kernel
theorem cnt2 : ∀ i, i < 10 → ∀ j, j < 10 → i < j → ri i + (j - i - 1) < 45 := by decide +kernel
theorem cj_mono : ∀ i, i < 10 → ∀ j, j ≤ 10 → cj i j ≤ cj i 10 := by decide +kernel
theorem cj_succ (i j : Nat) (h : i < j) : cj i (j + 1) = cj i j + (9 - j) := by
  show cj i j + (if i < j then 9 - j else 0) = _
  rw [if_pos h]
def covM (i j k : Int) : Int → Int → Int → Prop := fun a b c => a < i ∨ (a = i ∧ (b < j ∨ (b = j ∧ c < k)))
def covR (i j : Int) : Int → Int → Prop := fun a b => (a < b ∧ (a < i ∨ (a = i ∧ b < j))) ∨ (b < a ∧ (b < i ∨ (b = i ∧ a < j)))
