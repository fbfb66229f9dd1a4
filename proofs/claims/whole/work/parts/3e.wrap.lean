/-! ===== going round a set of places: pure ===== -/
section GW
variable {S : pt → Prop} {h : Nat} {c : Nat → pt}
theorem Hull_congr {c' : Nat → pt} (H : Hull S h c) (e : ∀ i, i < h → c' i = c i) : Hull S h c' := by
  obtain ⟨h0, h1, h2, h3, h4, h5⟩ := H
  refine ⟨h0, fun i hi => by rw [e i hi]; exact h1 i hi, fun p hp => by rw [e 0 h0]; exact h2 p hp, fun i i0 hi => by rw [e i hi, e 0 h0]; exact h3 i i0 hi, fun q p hp => by rw [e 0 h0]; exact h4 q p hp, fun q i hi => ?_⟩
  rw [e i hi, e _ (nxt_lt h0)]
  exact h5 q i hi
def NIx (f : Int → pt) (a k : Int) (q : pt) (n : Int) : Prop := (∃ j, a ≤ j ∧ j < k ∧ f j = q) → f n = q
def btw (a b c : pt) : Prop := (lx a b ∧ lx b c) ∨ (lx c b ∧ lx b a)
theorem Hull_two (H : Hull S h c) {i : Nat} (hi : i < h) {p : pt} (hp : S p) (hn : p ≠ c i) : 1 < h := by
  obtain ⟨h0, h1, h2, h3, h4, h5⟩ := H
  apply Classical.byContradiction
  intro q
  have e : h = 1 := by omega
  have ei : i = 0 := by omega
  rw [ei] at hn
  exact hn (h4 e p hp)
theorem NI_0 {f : Int → pt} {a : Int} {q : pt} {n : Int} : NIx f a a q n := by
  rintro ⟨j, h1, h2, h3⟩
  omega
theorem NI_same (H : Hull S h c) {i : Nat} (hi : i < h) {f : Int → pt} {a k n : Int} (hn : S (f n)) (e : f k = c i) (N : NIx f a k (c (nxt h i)) n) : NIx f a (k + 1) (c (nxt h i)) n := by
  rintro ⟨j, j0, j1, ej⟩
  by_cases q : j < k
  · exact N ⟨j, j0, q, ej⟩
  · have ejk : j = k := by omega
    rw [ejk] at ej
    by_cases h1 : 1 < h
    · exact absurd (e.symm.trans ej) (H.2.2.2.2.2 h1 i hi).1
    · have e1 : h = 1 := by have := H.1; omega
      have e0 : c (nxt h i) = c 0 := by
        have : nxt h i = 0 := by have := nxt_lt (i := i) H.1; omega
        rw [this]
      rw [e0]
      exact H.2.2.2.2.1 e1 _ hn
theorem NI_first (H : Hull S h c) {i : Nat} (hi : i < h) {f : Int → pt} {a k n : Int} (hk : S (f k)) (ek : f k ≠ c i) (en : f n = c i) (N : NIx f a k (c (nxt h i)) n) : NIx f a (k + 1) (c (nxt h i)) k := by
  rintro ⟨j, j0, j1, ej⟩
  by_cases q : j < k
  · have := N ⟨j, j0, q, ej⟩
    have h1 := Hull_two H hi hk ek
    exact absurd (en.symm.trans this) (H.2.2.2.2.2 h1 i hi).1
  · have ejk : j = k := by omega
    rw [ejk] at ej
    exact ej
theorem NI_move (H : Hull S h c) {i : Nat} (hi : i < h) {f : Int → pt} {a k n : Int} (hk : S (f k)) (ek : f k ≠ c i) (s : cr (c i) (f n) (f k) < 0 ∨ (cr (c i) (f n) (f k) = 0 ∧ btw (c i) (f n) (f k))) (N : NIx f a k (c (nxt h i)) n) : NIx f a (k + 1) (c (nxt h i)) k := by
  rintro ⟨j, j0, j1, ej⟩
  by_cases q : j < k
  · have en := N ⟨j, j0, q, ej⟩
    have h1 := Hull_two H hi hk ek
    have eg0 := (H.2.2.2.2.2 h1 i hi).2 _ hk
    rw [en] at s
    rcases s with s | ⟨s1, s2⟩
    · exact absurd eg0.1 (by grind)
    · rcases eg0.2 s1 with b | b | b | b
      · exact absurd b ek
      · exact b
      · rcases s2 with s2 | s2
        · exact (lx_as s2.2 b.2).elim
        · exact (lx_as s2.2 (lx_tr b.1 b.2)).elim
      · rcases s2 with s2 | s2
        · exact (lx_as s2.1 (lx_tr b.1 b.2)).elim
        · exact (lx_as s2.1 b.1).elim
  · have ejk : j = k := by omega
    rw [ejk] at ej
    exact ej
theorem NI_stay (H : Hull S h c) {i : Nat} (hi : i < h) {f : Int → pt} {a k n : Int} (hk : S (f k)) (hn : S (f n)) (ek : f k ≠ c i) (en : f n ≠ c i) (s : ¬ cr (c i) (f n) (f k) < 0) (s2 : cr (c i) (f n) (f k) = 0 → ¬ btw (c i) (f n) (f k)) (N : NIx f a k (c (nxt h i)) n) : NIx f a (k + 1) (c (nxt h i)) n := by
  rintro ⟨j, j0, j1, ej⟩
  by_cases q : j < k
  · exact N ⟨j, j0, q, ej⟩
  · have ejk : j = k := by omega
    rw [ejk] at ej
    have h1 := Hull_two H hi hk ek
    have eg0 := (H.2.2.2.2.2 h1 i hi).2 _ hn
    have sw := cr_sw (c i) (c (nxt h i)) (f n)
    rw [ej] at s s2
    have z : cr (c i) (c (nxt h i)) (f n) = 0 := by grind
    rcases eg0.2 z with b | b | b | b
    · exact absurd b en
    · exact b
    · exact absurd (Or.inl b) (s2 (by grind))
    · exact absurd (Or.inr b) (s2 (by grind))
theorem Hull_lo (H : Hull S h c) {p : pt} (hp : S p) (hm : ∀ q, S q → ¬ lx q p) : p = c 0 := by
  rcases H.2.2.1 p hp with e | e
  · exact e
  · exact absurd e (hm _ (H.2.1 0 H.1))
theorem Hull_nxt0 (H : Hull S h c) {i : Nat} (hi : i < h) (h0 : i + 1 < h) : c (nxt h i) = c (i + 1) ∧ c (i + 1) ≠ c 0 := by
  have e : nxt h i = i + 1 := by unfold nxt; rw [if_pos h0]
  rw [e]
  exact ⟨rfl, H.2.2.2.1 (i + 1) (by omega) h0⟩
theorem Hull_nxte {i : Nat} (h0 : ¬ i + 1 < h) : c (nxt h i) = c 0 := by
  have e : nxt h i = 0 := by unfold nxt; rw [if_neg h0]
  rw [e]
def RS (f : Int → pt) (a b : Int) : pt → Prop := fun p => ∃ k, a ≤ k ∧ k < b ∧ p = f k
theorem RS_hull {f : Int → pt} {a b : Int} (h : a < b) : ∃ (h : Nat) (c : Nat → pt), Hull (RS f a b) h c ∧ (h : Int) ≤ b - a := by
  obtain ⟨n, g, hE, _⟩ := Enum_ex SO_lx (f a) ((List.range (b - a).toNat).map (fun i : Nat => f (a + i)))
  have hS : ∀ p, p ∈ ((List.range (b - a).toNat).map (fun i : Nat => f (a + i))) ↔ RS f a b p := by
    intro p
    rw [List.mem_map]
    constructor
    · rintro ⟨i, hi, rfl⟩
      rw [List.mem_range] at hi
      exact ⟨a + i, by omega, by omega, rfl⟩
    · rintro ⟨k, k0, k1, rfl⟩
      exact ⟨(k - a).toNat, List.mem_range.mpr (by omega), by congr 1; omega⟩
  have hE2 : Enum lx (RS f a b) n g := ⟨hE.1, fun p => (hS p).symm.trans (hE.2 p)⟩
  have hn : 0 < n := by
    obtain ⟨i, hi, _⟩ := (hE2.2 (f a)).mp ⟨a, by omega, h, rfl⟩
    omega
  obtain ⟨m, c, H⟩ := Hull_ex hE2 hn
  refine ⟨m, c, H, ?_⟩
  have hc : ∀ i, ∃ k : Nat, i < m → (k < (b - a).toNat ∧ c i = f (a + k)) := by
    intro i
    by_cases hi : i < m
    · obtain ⟨k, k0, k1, e⟩ := H.2.1 i hi
      exact ⟨(k - a).toNat, fun _ => ⟨by omega, by rw [e]; congr 1; omega⟩⟩
    · exact ⟨0, fun q => absurd q hi⟩
  have := pigeon (b - a).toNat m (fun i => Classical.choose (hc i)) (fun i hi => (Classical.choose_spec (hc i) hi).1) (fun i j hi hj e => by
    refine Hull_inj H i j hi hj ?_
    rw [(Classical.choose_spec (hc i) hi).2, (Classical.choose_spec (hc j) hj).2]
    have e2 : Classical.choose (hc i) = Classical.choose (hc j) := e
    rw [e2])
  omega
end GW
