/-! ===== the fewest walls: pure ===== -/
def lowb (u : Nat) : Nat → Nat
  | 0 => 0
  | n + 1 => if u.testBit 0 then 0 else lowb (u / 2) n + 1
theorem low_all : ∀ u : Nat, u < 1024 → 0 < u → u.testBit (lowb u 10) = true ∧ lowb u 10 < 10 ∧ (∀ j, j < lowb u 10 → u.testBit j = false) ∧ bi_and (u : Int) (-(u : Int)) = ((2 ^ lowb u 10 : Nat) : Int) := by decide +kernel
theorem band_assoc (a b c : Int) : bi_and (bi_and a b) c = bi_and a (bi_and b c) := by
  unfold bi_and
  rw [Int32.ofInt_toInt, Int32.ofInt_toInt, Int32.and_assoc]
theorem xor1024 {a b : Nat} (ha : a < 1024) (hb : b < 1024) : a ^^^ b < 1024 := by
  have := Nat.xor_lt_two_pow (n := 10) ha hb
  exact this
theorem lt_tbit {x y i : Nat} (hx : x.testBit i = false) (hy : y.testBit i = true) (h : ∀ j, i < j → x.testBit j = y.testBit j) : x < y := by
  have e : x / 2 ^ (i + 1) = y / 2 ^ (i + 1) := by
    apply Nat.eq_of_testBit_eq
    intro j
    rw [Nat.testBit_div_two_pow, Nat.testBit_div_two_pow]
    exact h _ (by omega)
  rw [Nat.pow_succ, ← Nat.div_div_eq_div_mul, ← Nat.div_div_eq_div_mul] at e
  have a : (x / 2 ^ i).testBit 0 = false := by rw [Nat.testBit_div_two_pow, Nat.zero_add]; exact hx
  have b : (y / 2 ^ i).testBit 0 = true := by rw [Nat.testBit_div_two_pow, Nat.zero_add]; exact hy
  rw [Nat.testBit_zero] at a b
  have a' := of_decide_eq_false a
  have b' := of_decide_eq_true b
  apply Classical.byContradiction
  intro q
  have := Nat.div_le_div_right (c := 2 ^ i) (show y ≤ x by omega)
  omega
theorem mI_lt {a b : Nat} (ha : a < 1024) (hb : b < 1024) {i : Nat} (hi : i < 10) (ba : a.testBit i = true) (bb : b.testBit i = false) (hl : ∀ j, j < i → a.testBit j = b.testBit j) : mirN b 10 < mirN a 10 := by
  refine lt_tbit (i := 9 - i) ?_ ?_ (fun j hj => ?_)
  · rw [mir_bit b hb (9 - i) (by omega), show 9 - (9 - i) = i by omega]; exact bb
  · rw [mir_bit a ha (9 - i) (by omega), show 9 - (9 - i) = i by omega]; exact ba
  · by_cases q : j < 10
    · rw [mir_bit a ha j q, mir_bit b hb j q, hl (9 - j) (by omega)]
    · have la := (mir_lt a ha).1
      have lb := (mir_lt b hb).1
      have p : 2 ^ 10 ≤ 2 ^ j := Nat.pow_le_pow_right (by decide) (by omega)
      have p10 : (2 : Nat) ^ 10 = 1024 := by rfl
      rw [Nat.testBit_lt_two_pow (by omega), Nat.testBit_lt_two_pow (by omega)]
theorem first_iff {x y : Int} (hx : 0 ≤ x ∧ x < 1024) (hy : 0 ≤ y ∧ y < 1024) : bi_and (bi_and x (bi_xor x y)) (-(bi_xor x y)) ≠ 0 ↔ mI y < mI x := by
  obtain ⟨a, rfl⟩ := bset_of hx.1
  obtain ⟨b, rfl⟩ := bset_of hy.1
  have ha : a < 1024 := by omega
  have hb : b < 1024 := by omega
  have hu := xor1024 ha hb
  rw [bi_n_xor (by omega) (by omega), band_assoc]
  have eA : mI (a : Int) = ((mirN a 10 : Nat) : Int) := rfl
  have eB : mI (b : Int) = ((mirN b 10 : Nat) : Int) := rfl
  rw [eA, eB]
  by_cases z : a ^^^ b = 0
  · have e : a = b := by
      apply Nat.eq_of_testBit_eq
      intro j
      have : (a ^^^ b).testBit j = false := by rw [z]; exact Nat.zero_testBit j
      rw [Nat.testBit_xor] at this
      simpa using this
    rw [z, e]
    have c : bi_and ((0 : Nat) : Int) (-((0 : Nat) : Int)) = 0 := by decide +kernel
    rw [c]
    have c2 : bi_and (b : Int) 0 = 0 := by
      have := bi_n_and (a := b) (b := 0) (by omega)
      rw [Nat.and_zero] at this
      exact this
    rw [c2]
    constructor
    · intro q; exact absurd rfl q
    · intro q; omega
  · obtain ⟨l1, l2, l3, l4⟩ := low_all _ hu (by omega)
    rw [l4, bi_n_and (by omega)]
    have bx : a.testBit (lowb (a ^^^ b) 10) ≠ b.testBit (lowb (a ^^^ b) 10) := by
      intro q
      rw [Nat.testBit_xor, q] at l1
      simp at l1
    have lo : ∀ j, j < lowb (a ^^^ b) 10 → a.testBit j = b.testBit j := fun j hj => by
      have := l3 j hj
      rw [Nat.testBit_xor] at this
      simpa using this
    have key : (a &&& 2 ^ lowb (a ^^^ b) 10) ≠ 0 ↔ a.testBit (lowb (a ^^^ b) 10) = true := by
      constructor
      · intro q
        apply Classical.byContradiction
        intro w
        apply q
        apply Nat.eq_of_testBit_eq
        intro j
        rw [Nat.testBit_and, Nat.testBit_two_pow, Nat.zero_testBit]
        by_cases e : lowb (a ^^^ b) 10 = j
        · rw [← e]
          have : a.testBit (lowb (a ^^^ b) 10) = false := by simpa using w
          rw [this]; rfl
        · rw [decide_eq_false e, Bool.and_false]
      · intro q w
        have : (a &&& 2 ^ lowb (a ^^^ b) 10).testBit (lowb (a ^^^ b) 10) = false := by rw [w]; exact Nat.zero_testBit _
        rw [Nat.testBit_and, Nat.testBit_two_pow, q] at this
        simp at this
    have k2 : ((a &&& 2 ^ lowb (a ^^^ b) 10 : Nat) : Int) ≠ 0 ↔ (a &&& 2 ^ lowb (a ^^^ b) 10) ≠ 0 := by omega
    rw [k2, key]
    constructor
    · intro q
      have bb : b.testBit (lowb (a ^^^ b) 10) = false := by
        rw [q] at bx
        cases h : b.testBit (lowb (a ^^^ b) 10)
        · rfl
        · exact absurd h.symm bx
      have := mI_lt ha hb l2 q bb lo
      omega
    · intro q
      cases h : a.testBit (lowb (a ^^^ b) 10)
      · exfalso
        have bb : b.testBit (lowb (a ^^^ b) 10) = true := by
          rw [h] at bx
          cases h2 : b.testBit (lowb (a ^^^ b) 10)
          · exact absurd h2.symm bx
          · rfl
        have := mI_lt hb ha l2 bb h (fun j hj => (lo j hj).symm)
        omega
      · rfl
theorem Hull_fin {S : pt → Prop} (L : List pt) (hL : ∀ p, S p → p ∈ L) (hne : ∃ p, S p) : ∃ (h : Nat) (c : Nat → pt), Hull S h c := by
  obtain ⟨p0, hp0⟩ := hne
  have key : ∃ L' : List pt, ∀ p, p ∈ L' ↔ S p := by
    have gen : ∀ L : List pt, ∃ L' : List pt, ∀ p, p ∈ L' ↔ (p ∈ L ∧ S p) := by
      intro L
      induction L with
      | nil => exact ⟨[], fun p => ⟨fun h => absurd h List.not_mem_nil, fun h => absurd h.1 List.not_mem_nil⟩⟩
      | cons a r ih =>
        obtain ⟨L', h⟩ := ih
        by_cases q : S a
        · refine ⟨a :: L', fun p => ?_⟩
          rw [List.mem_cons, List.mem_cons, h p]
          constructor
          · rintro (e | ⟨e1, e2⟩)
            · exact ⟨Or.inl e, by rw [e]; exact q⟩
            · exact ⟨Or.inr e1, e2⟩
          · rintro ⟨e | e, e2⟩
            · exact Or.inl e
            · exact Or.inr ⟨e, e2⟩
        · refine ⟨L', fun p => ?_⟩
          rw [List.mem_cons, h p]
          constructor
          · rintro ⟨e1, e2⟩; exact ⟨Or.inr e1, e2⟩
          · rintro ⟨e | e, e2⟩
            · rw [e] at e2; exact absurd e2 q
            · exact ⟨e, e2⟩
    obtain ⟨L', h⟩ := gen L
    exact ⟨L', fun p => (h p).trans ⟨fun q => q.2, fun q => ⟨hL p q, q⟩⟩⟩
  obtain ⟨L', h⟩ := key
  obtain ⟨n, f, hE, _⟩ := Enum_ex SO_lx p0 L'
  have hE2 : Enum lx S n f := ⟨hE.1, fun p => (h p).symm.trans (hE.2 p)⟩
  obtain ⟨i, hi, _⟩ := (hE2.2 p0).mp hp0
  exact Hull_ex hE2 (by omega)
theorem VX_hull {A B C D : Int → Int} {s set : Int} (hs : ∀ j : Nat, set.toNat.testBit j = true → (j : Int) < s) (s10 : s ≤ 10) (hne : ∃ p, VX (WL A B C D) (Sg set) p) : ∃ (h : Nat) (c : Nat → pt), Hull (Shd (VX (WL A B C D) (Sg set))) h c := by
  refine Hull_fin ((List.range 10).flatMap fun a : Nat => (List.range 10).flatMap fun b : Nat => (List.range 10).map fun c : Nat => ((tP A B C D (a : Int) (b : Int) (c : Int)).1, (tP A B C D (a : Int) (b : Int) (c : Int)).2.1)) ?_ ?_
  · rintro p ⟨q, hq, rfl⟩
    obtain ⟨a, b, c, _, ho, _, _, _, e⟩ := (SV3_VX hs q).mpr hq
    rw [List.mem_flatMap]
    refine ⟨a.toNat, List.mem_range.mpr (by omega), ?_⟩
    rw [List.mem_flatMap]
    refine ⟨b.toNat, List.mem_range.mpr (by omega), ?_⟩
    rw [List.mem_map]
    refine ⟨c.toNat, List.mem_range.mpr (by omega), ?_⟩
    rw [show ((a.toNat : Nat) : Int) = a by omega, show ((b.toNat : Nat) : Int) = b by omega, show ((c.toNat : Nat) : Int) = c by omega, e]
  · obtain ⟨p, hp⟩ := hne
    exact ⟨_, p, hp, rfl⟩
theorem SN_Hull {S : pt → Prop} {h H : Nat} {f c : Nat → pt} (hc : Hull S H c) : SN h f H c ↔ 3 ≤ h ∧ Hull S h f := by
  constructor
  · rintro ⟨a, b, e⟩
    subst b
    exact ⟨a, Hull_congr hc e⟩
  · rintro ⟨a, b⟩
    obtain ⟨e1, e2⟩ := Hull_un b hc
    exact ⟨a, e1, e2⟩
def BF2 (P : Int → Prop) (r b : Int) : Prop := (b = -900000009 ∧ ∀ q, 0 < q → q < r → ¬ P q) ∨ (P b ∧ 0 < b ∧ b < 1024 ∧ ∀ q, 0 < q → q < r → P q → pcI b < pcI q ∨ (pcI b = pcI q ∧ mI q ≤ mI b))
theorem BF2_keep {P : Int → Prop} {r b : Int} (h : BF2 P r b) (hn : P r → b ≠ -900000009 ∧ (pcI b < pcI r ∨ (pcI b = pcI r ∧ mI r ≤ mI b))) : BF2 P (r + 1) b := by
  rcases h with ⟨e, h⟩ | ⟨hb, b0, b1, h⟩
  · refine Or.inl ⟨e, fun q q0 q1 hq => ?_⟩
    by_cases z : q = r
    · rw [z] at hq; exact (hn hq).1 e
    · exact h q q0 (by omega) hq
  · refine Or.inr ⟨hb, b0, b1, fun q q0 q1 hq => ?_⟩
    by_cases z : q = r
    · rw [z] at hq ⊢; exact (hn hq).2
    · exact h q q0 (by omega) hq
theorem BF2_take {P : Int → Prop} {r b : Int} (h : BF2 P r b) (hr : 0 < r ∧ r < 1024) (hP : P r) (hb : b = -900000009 ∨ pcI r < pcI b ∨ (pcI r = pcI b ∧ mI b < mI r)) : BF2 P (r + 1) r := by
  rcases h with ⟨e, h⟩ | ⟨hb', b0, b1, h⟩
  · refine Or.inr ⟨hP, hr.1, hr.2, fun q q0 q1 hq => ?_⟩
    by_cases z : q = r
    · rw [z]; omega
    · exact absurd hq (h q q0 (by omega))
  · refine Or.inr ⟨hP, hr.1, hr.2, fun q q0 q1 hq => ?_⟩
    by_cases z : q = r
    · rw [z]; omega
    · have := h q q0 (by omega) hq
      omega
def BFr (P : Int → Prop) (b : Int) : Prop := BF2 P 1024 b
theorem BF2_all {P : Int → Prop} {r b : Int} (h : BF2 P r b) (hr : ∀ q, 0 < q → q < 1024 → P q → q < r) : BFr P b := by
  rcases h with ⟨e, h⟩ | ⟨hb, b0, b1, h⟩
  · exact Or.inl ⟨e, fun q q0 q1 hq => h q q0 (hr q q0 q1 hq) hq⟩
  · exact Or.inr ⟨hb, b0, b1, fun q q0 q1 hq => h q q0 (hr q q0 q1 hq) hq⟩
