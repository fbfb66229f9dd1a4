/-! ===== threes of walls as the reference takes them ===== -/
section LAY
variable {A B C D : Int → Int} {s : Int}
def tS (A B C : Int → Int) (a b c : Int) : Int := if vol A B C a b c < 0 then -1 else 1
def tX (A B C D : Int → Int) (a b c : Int) : Int := tS A B C a b c * vol D B C a b c
def tY (A B C D : Int → Int) (a b c : Int) : Int := tS A B C a b c * vol A D C a b c
def tZ (A B C D : Int → Int) (a b c : Int) : Int := tS A B C a b c * vol A B D a b c
def tW (A B C : Int → Int) (a b c : Int) : Int := tS A B C a b c * vol A B C a b c
def tP (A B C D : Int → Int) (a b c : Int) : p3 := P3 (tX A B C D a b c) (tY A B C D a b c) (tZ A B C D a b c) (tW A B C a b c)
theorem tS_or (A B C : Int → Int) (a b c : Int) : tS A B C a b c = 1 ∨ tS A B C a b c = -1 := by unfold tS; split <;> omega
theorem tW_pos {a b c : Int} (h : vol A B C a b c ≠ 0) : 0 < tW A B C a b c := by unfold tW tS; split <;> omega
theorem t_zero (a b c : Int) : exI A B C D a (tX A B C D a b c) (tY A B C D a b c) (tZ A B C D a b c) (tW A B C a b c) = 0 ∧ exI A B C D b (tX A B C D a b c) (tY A B C D a b c) (tZ A B C D a b c) (tW A B C a b c) = 0 ∧ exI A B C D c (tX A B C D a b c) (tY A B C D a b c) (tZ A B C D a b c) (tW A B C a b c) = 0 := by
  unfold tX tY tZ tW
  rcases tS_or A B C a b c with e | e
  · rw [e]; unfold exI vol
    refine ⟨?_, ?_, ?_⟩ <;> grind
  · rw [e]; unfold exI vol
    refine ⟨?_, ?_, ?_⟩ <;> grind
theorem t_rng {on : Int} (hW : WI A B C D s on) {i j k : Int} (ho : 0 ≤ i ∧ i < j ∧ j < k ∧ k < s) (hv : vol A B C i j k ≠ 0) : B3 (tX A B C D i j k) (tY A B C D i j k) (tZ A B C D i j k) (tW A B C i j k) := by
  obtain ⟨s0, s1, hw9, -⟩ := hW
  have bi := hw9 i (by omega) (by omega)
  have bj := hw9 j (by omega) (by omega)
  have bk := hw9 k (by omega) (by omega)
  have fA : ∀ n, n = i ∨ n = j ∨ n = k → -9 ≤ A n ∧ A n ≤ 9 := fun n hn => by rcases hn with rfl | rfl | rfl <;> omega
  have fB : ∀ n, n = i ∨ n = j ∨ n = k → -9 ≤ B n ∧ B n ≤ 9 := fun n hn => by rcases hn with rfl | rfl | rfl <;> omega
  have fC : ∀ n, n = i ∨ n = j ∨ n = k → -9 ≤ C n ∧ C n ≤ 9 := fun n hn => by rcases hn with rfl | rfl | rfl <;> omega
  have fD : ∀ n, n = i ∨ n = j ∨ n = k → -99 ≤ D n ∧ D n ≤ 99 := fun n hn => by rcases hn with rfl | rfl | rfl <;> omega
  have v0 := vol_rng fA fB fC
  have v1 := vol_rng fD fB fC
  have v2 := vol_rng fA fD fC
  have v3 := vol_rng fA fB fD
  have p := tW_pos hv
  unfold B3
  unfold tW at p ⊢
  unfold tX tY tZ
  rcases tS_or A B C i j k with e | e <;> rw [e] at p ⊢ <;> omega
def SV3 (A B C D : Int → Int) (s set : Int) (cov : Int → Int → Int → Prop) : p3 → Prop := fun p => ∃ a b c, cov a b c ∧ (0 ≤ a ∧ a < b ∧ b < c ∧ c < s) ∧ (set.toNat.testBit a.toNat = true ∧ set.toNat.testBit b.toNat = true ∧ set.toNat.testBit c.toNat = true) ∧ vol A B C a b c ≠ 0 ∧ (∀ t : Nat, (t : Int) < s → set.toNat.testBit t = true → exI A B C D t (tX A B C D a b c) (tY A B C D a b c) (tZ A B C D a b c) (tW A B C a b c) ≤ 0) ∧ p = tP A B C D a b c
theorem srt3 {i j k : Nat} (hv : vol A B C i j k ≠ 0) : ∃ a b c : Nat, a < b ∧ b < c ∧ vol A B C a b c ≠ 0 ∧ ∀ t : Nat, (t = a ∨ t = b ∨ t = c) → (t = i ∨ t = j ∨ t = k) := by
  have s1 := vol_sw A B C i j k
  have s2 := vol_sw A B C j i k
  have s3 := vol_sw A B C i k j
  have s4 := vol_sw A B C j k i
  have s5 := vol_sw A B C k i j
  have nij : i ≠ j := fun e => by subst e; omega
  have njk : j ≠ k := fun e => by subst e; omega
  have nik : i ≠ k := fun e => by
    subst e
    have : vol A B C (i : Int) j i = 0 := by unfold vol; grind
    exact hv this
  by_cases h1 : i < j
  · by_cases h2 : j < k
    · exact ⟨i, j, k, h1, h2, hv, fun t h => by omega⟩
    · by_cases h3 : i < k
      · exact ⟨i, k, j, h3, by omega, by omega, fun t h => by omega⟩
      · exact ⟨k, i, j, by omega, h1, by omega, fun t h => by omega⟩
  · by_cases h2 : i < k
    · exact ⟨j, i, k, by omega, h2, by omega, fun t h => by omega⟩
    · by_cases h3 : j < k
      · exact ⟨j, k, i, h3, by omega, by omega, fun t h => by omega⟩
      · exact ⟨k, j, i, by omega, by omega, by omega, fun t h => by omega⟩
theorem SV3_VX {set : Int} (hs : ∀ j : Nat, set.toNat.testBit j = true → (j : Int) < s) (p : p3) : SV3 A B C D s set (fun _ _ _ => True) p ↔ VX (WL A B C D) (Sg set) p := by
  constructor
  · rintro ⟨a, b, c, -, ho, ⟨ha, hb, hc⟩, hv, hh, e⟩
    have hw := tW_pos hv
    have z := t_zero (A := A) (B := B) (C := C) (D := D) a b c
    have ea : ((a.toNat : Nat) : Int) = a := by omega
    have eb : ((b.toNat : Nat) : Int) = b := by omega
    have ec : ((c.toNat : Nat) : Int) = c := by omega
    refine ⟨fun t ht => ?_, a.toNat, b.toNat, c.toNat, ha, hb, hc, vol_ne.mpr (by rw [ea, eb, ec]; exact hv), ?_, ?_, ?_⟩
    · rw [e]
      have h1 := hh t (hs t ht) ht
      have h2 : ¬ 0 < exI A B C D t (tX A B C D a b c) (tY A B C D a b c) (tZ A B C D a b c) (tW A B C a b c) := by omega
      rw [ex_pos hw] at h2
      unfold tP
      grind
    · rw [e]; exact (ex_zero hw).mp (by rw [ea]; exact z.1)
    · rw [e]; exact (ex_zero hw).mp (by rw [eb]; exact z.2.1)
    · rw [e]; exact (ex_zero hw).mp (by rw [ec]; exact z.2.2)
  · rintro ⟨hp, i, j, k, hi, hj, hk, hd, t1, t2, t3⟩
    obtain ⟨a, b, c, ab, bc, hv, he⟩ := srt3 (vol_ne.mp hd)
    have hw := tW_pos hv
    have z := t_zero (A := A) (B := B) (C := C) (D := D) a b c
    have tp : ∀ n : Nat, (n = a ∨ n = b ∨ n = c) → Sg set n ∧ TI (WL A B C D) n p := fun n hn => by
      rcases he n hn with e | e | e
      · rw [e]; exact ⟨hi, t1⟩
      · rw [e]; exact ⟨hj, t2⟩
      · rw [e]; exact ⟨hk, t3⟩
    have pa := tp a (Or.inl rfl)
    have pb := tp b (Or.inr (Or.inl rfl))
    have pc := tp c (Or.inr (Or.inr rfl))
    have e : p = tP A B C D a b c := TI_un (vol_ne.mpr hv) ⟨pa.2, pb.2, pc.2⟩ ⟨(ex_zero hw).mp z.1, (ex_zero hw).mp z.2.1, (ex_zero hw).mp z.2.2⟩
    refine ⟨a, b, c, trivial, ⟨by omega, by omega, by omega, hs c pc.1⟩, ⟨pa.1, pb.1, pc.1⟩, hv, fun t ht hb => ?_, e⟩
    have h1 := hp t hb
    rw [e] at h1
    have h2 := ex_pos (A := A) (B := B) (C := C) (D := D) (n := t) (x := tX A B C D a b c) (y := tY A B C D a b c) (z := tZ A B C D a b c) hw
    have h3 : ¬ 0 < exI A B C D t (tX A B C D a b c) (tY A B C D a b c) (tZ A B C D a b c) (tW A B C a b c) := by
      rw [h2]
      unfold tP at h1
      grind
    omega
end LAY
