/-! ===== lists in an order, each once ===== -/
def Srt {α : Type} (R : α → α → Prop) (n : Nat) (f : Nat → α) : Prop := ∀ i j, i < j → j < n → R (f i) (f j)
def Enum {α : Type} (R : α → α → Prop) (S : α → Prop) (n : Nat) (f : Nat → α) : Prop := Srt R n f ∧ ∀ p, S p ↔ ∃ i, i < n ∧ p = f i
def SO {α : Type} (R : α → α → Prop) : Prop := (∀ a, ¬ R a a) ∧ (∀ a b c, R a b → R b c → R a c) ∧ ∀ a b, R a b ∨ a = b ∨ R b a
section SOR
variable {α : Type} {R : α → α → Prop} {S : α → Prop} {n m : Nat} {f g : Nat → α}
theorem Enum_un (hR : SO R) (h1 : Enum R S n f) (h2 : Enum R S m g) : n = m ∧ ∀ i, i < n → f i = g i := by
  have key : ∀ (n m : Nat) (f g : Nat → α), Enum R S n f → Enum R S m g → ∀ k i, i ≤ k → i < n → i < m ∧ f i = g i := by
    intro n m f g h1 h2 k
    induction k with
    | zero =>
      intro i hi hn
      have e0 : i = 0 := by omega
      subst e0
      obtain ⟨k, hk, e⟩ := (h2.2 (f 0)).mp ((h1.2 _).mpr ⟨0, hn, rfl⟩)
      refine ⟨by omega, ?_⟩
      by_cases hk0 : k = 0
      · rw [e, hk0]
      · have q := h2.1 0 k (by omega) hk
        obtain ⟨l, hl, e'⟩ := (h1.2 (g 0)).mp ((h2.2 _).mpr ⟨0, by omega, rfl⟩)
        rw [← e, e'] at q
        by_cases hl0 : l = 0
        · rw [hl0] at q; exact (hR.1 _ q).elim
        · exact (hR.1 _ (hR.2.1 _ _ _ (h1.1 0 l (by omega) hl) q)).elim
    | succ k ih =>
      intro i hi hn
      by_cases hle : i ≤ k
      · exact ih i hle hn
      · obtain ⟨k', hk', e⟩ := (h2.2 (f i)).mp ((h1.2 _).mpr ⟨i, hn, rfl⟩)
        have low : ∀ j, j < i → j < m ∧ f j = g j := fun j hj => ih j (by omega) (by omega)
        have hki : ¬ k' < i := by
          intro hlt
          have := h1.1 k' i hlt hn
          rw [(low k' hlt).2, ← e] at this
          exact hR.1 _ this
        refine ⟨by omega, ?_⟩
        by_cases hk0 : k' = i
        · rw [e, hk0]
        · have q := h2.1 i k' (by omega) hk'
          obtain ⟨l, hl, e'⟩ := (h1.2 (g i)).mp ((h2.2 _).mpr ⟨i, by omega, rfl⟩)
          rw [← e, e'] at q
          rcases Nat.lt_trichotomy l i with hl0 | hl0 | hl0
          · have := h2.1 l i hl0 (by omega)
            rw [← (low l hl0).2, ← e'] at this
            exact (hR.1 _ this).elim
          · rw [hl0] at q; exact (hR.1 _ q).elim
          · exact (hR.1 _ (hR.2.1 _ _ _ (h1.1 i l hl0 hl) q)).elim
  have a := key n m f g h1 h2
  have b := key m n g f h2 h1
  refine ⟨?_, fun i hi => (a i i (Nat.le_refl _) hi).2⟩
  apply Classical.byContradiction
  intro hne
  rcases Nat.lt_or_gt_of_ne hne with h | h
  · have := (b n n (Nat.le_refl _) h).1; omega
  · have := (a m m (Nat.le_refl _) h).1; omega
theorem Enum_ins (h : Enum R S n f) {p : α} {s : Nat} (hs : s ≤ n) (h1 : ∀ i, i < s → R (f i) p) (h2 : ∀ i, s ≤ i → i < n → R p (f i))
    (g1 : ∀ i, i < s → g i = f i) (g2 : g s = p) (g3 : ∀ i, s ≤ i → i < n → g (i + 1) = f i) : Enum R (fun q => S q ∨ q = p) (n + 1) g := by
  refine ⟨fun i j hij hj => ?_, fun q => ?_⟩
  · rcases Nat.lt_trichotomy i s with hi | hi | hi
    · rw [g1 i hi]
      rcases Nat.lt_trichotomy j s with hj' | hj' | hj'
      · rw [g1 j hj']; exact h.1 i j hij (by omega)
      · rw [hj', g2]; exact h1 i hi
      · have := g3 (j - 1) (by omega) (by omega)
        rw [show j - 1 + 1 = j by omega] at this
        rw [this]; exact h.1 i (j - 1) (by omega) (by omega)
    · have := g3 (j - 1) (by omega) (by omega)
      rw [show j - 1 + 1 = j by omega] at this
      rw [this, hi, g2]; exact h2 (j - 1) (by omega) (by omega)
    · have e1 := g3 (j - 1) (by omega) (by omega)
      rw [show j - 1 + 1 = j by omega] at e1
      have e2 := g3 (i - 1) (by omega) (by omega)
      rw [show i - 1 + 1 = i by omega] at e2
      rw [e1, e2]; exact h.1 (i - 1) (j - 1) (by omega) (by omega)
  · constructor
    · rintro (hq | hq)
      · obtain ⟨i, hi, e⟩ := (h.2 q).mp hq
        by_cases his : i < s
        · exact ⟨i, by omega, by rw [g1 i his]; exact e⟩
        · exact ⟨i + 1, by omega, by rw [g3 i (by omega) hi]; exact e⟩
      · exact ⟨s, by omega, by rw [g2]; exact hq⟩
    · rintro ⟨i, hi, e⟩
      rcases Nat.lt_trichotomy i s with hi' | hi' | hi'
      · exact Or.inl ((h.2 q).mpr ⟨i, by omega, by rw [e, g1 i hi']⟩)
      · exact Or.inr (by rw [e, hi', g2])
      · have := g3 (i - 1) (by omega) (by omega)
        rw [show i - 1 + 1 = i by omega] at this
        exact Or.inl ((h.2 q).mpr ⟨i - 1, by omega, by rw [e, this]⟩)
theorem Enum_spot (hR : SO R) (h : Enum R S n f) (p : α) (hp : ¬ S p) : ∃ s, s ≤ n ∧ (∀ i, i < s → R (f i) p) ∧ ∀ i, s ≤ i → i < n → R p (f i) := by
  have key : ∀ k, k ≤ n → (∃ s, s ≤ k ∧ (∀ i, i < s → R (f i) p) ∧ ∀ i, s ≤ i → i < k → R p (f i)) := by
    intro k
    induction k with
    | zero => intro _; exact ⟨0, by omega, fun i hi => by omega, fun i _ hi => by omega⟩
    | succ k ih =>
      intro hk
      obtain ⟨s, hs, a, b⟩ := ih (by omega)
      rcases hR.2.2 (f k) p with o | o | o
      · refine ⟨k + 1, by omega, fun i hi => ?_, fun i h1 h2 => by omega⟩
        by_cases he : i = k
        · rw [he]; exact o
        · exact hR.2.1 _ _ _ (h.1 i k (by omega) (by omega)) o
      · exact absurd ((h.2 p).mpr ⟨k, by omega, o.symm⟩) hp
      · refine ⟨s, by omega, a, fun i h1 h2 => ?_⟩
        by_cases he : i = k
        · rw [he]; exact o
        · exact b i h1 (by omega)
  exact key n (Nat.le_refl _)
theorem Enum_ex (hR : SO R) (a0 : α) : ∀ l : List α, ∃ (n : Nat) (f : Nat → α), Enum R (fun p => p ∈ l) n f ∧ n ≤ l.length := by
  intro l
  induction l with
  | nil => exact ⟨0, fun _ => a0, ⟨fun i j _ hj => by omega, fun p => ⟨fun h => absurd h List.not_mem_nil, fun ⟨i, hi, _⟩ => absurd hi (Nat.not_lt_zero i)⟩⟩, Nat.le_refl _⟩
  | cons a l ih =>
    obtain ⟨n, f, h, hn⟩ := ih
    by_cases ha : a ∈ l
    · refine ⟨n, f, ⟨h.1, fun p => ?_⟩, by simp; omega⟩
      rw [← h.2 p]
      constructor
      · intro hp
        rcases List.mem_cons.mp hp with rfl | hp
        · exact ha
        · exact hp
      · intro hp; exact List.mem_cons_of_mem _ hp
    · obtain ⟨s, hs, h1, h2⟩ := Enum_spot hR h a ha
      refine ⟨n + 1, fun i => if i < s then f i else if i = s then a else f (i - 1), ?_, by simp; omega⟩
      have := Enum_ins (g := fun i => if i < s then f i else if i = s then a else f (i - 1)) h hs h1 h2 (fun i hi => by simp [hi]) (by simp) (fun i hi hi2 => by
        have a1 : ¬ i + 1 < s := by omega
        have a2 : ¬ i + 1 = s := by omega
        simp [a1, a2])
      refine ⟨this.1, fun p => ?_⟩
      rw [← this.2 p]
      constructor
      · intro hp
        rcases List.mem_cons.mp hp with rfl | hp
        · exact Or.inr rfl
        · exact Or.inl hp
      · rintro (hp | hp)
        · exact List.mem_cons_of_mem _ hp
        · rw [hp]; exact List.mem_cons_self
end SOR
theorem SO_lx : SO lx := ⟨fun _ => lx_ir, fun _ _ _ => lx_tr, lx_tri⟩
/-! hulls are -/
theorem CH_grow {σ : Rat} (hσ : sgn1 σ) {S : pt → Prop} {b : Nat} {p : pt} (hp : ∀ s, S s → lq σ s p) : ∀ (r : Nat) (c : Nat → pt), CH σ S b r c → CD σ S (c (r - 1)) p → ∃ (r' : Nat) (c' : Nat → pt), b < r' ∧ CH σ (fun s => S s ∨ s = p) b (r' + 1) c' ∧ c' r' = p ∧ ∀ i, i ≤ b → c' i = c i := by
  intro r
  induction r with
  | zero => intro c h; have := h.1; omega
  | succ r ih =>
    intro c h hc
    by_cases ht : b + 1 = r + 1 ∨ 0 < cr (c (r + 1 - 2)) (c (r + 1 - 1)) p
    · refine ⟨r + 1, fun i => if i < r + 1 then c i else p, by have := h.1; omega, (CH_push hσ (c' := fun i => if i < r + 1 then c i else p) h hc ht hp (by simp) (fun i hi => by simp [hi])).1, by simp, fun i hi => ?_⟩
      have := h.1
      simp [show i < r + 1 by omega]
    · have h0 := h.1
      have := CH_pop h (by omega) (by grind) hp
      exact ih c this.1 this.2
theorem CH_ex {σ : Rat} (hσ : sgn1 σ) (g : Nat → pt) (b : Nat) (c0 : Nat → pt) : ∀ m, (∀ i j, i < j → j ≤ m → lq σ (g i) (g j)) → ∃ (r : Nat) (c : Nat → pt), b ≤ r ∧ CH σ (fun p => ∃ i, i ≤ m ∧ p = g i) b (r + 1) c ∧ c r = g m ∧ c b = g 0 ∧ (∀ i, i < b → c i = c0 i) ∧ (0 < m → b < r) := by
  intro m
  induction m with
  | zero =>
    intro _
    have e : (fun p => ∃ i, i ≤ 0 ∧ p = g i) = fun p => p = g 0 := by
      funext p
      apply propext
      exact ⟨fun ⟨i, hi, e⟩ => by rw [e, show i = 0 by omega], fun e => ⟨0, Nat.le_refl _, e⟩⟩
    exact ⟨b, fun i => if i < b then c0 i else g 0, Nat.le_refl _, by rw [e]; exact CH_one (by simp), by simp, by simp, fun i hi => by simp [hi], fun h => by omega⟩
  | succ m ih =>
    intro hg
    obtain ⟨r, c, h0, h1, h2, h3, h4, -⟩ := ih (fun i j hij hj => hg i j hij (by omega))
    have hlast : ∀ s, (∃ i, i ≤ m ∧ s = g i) → lq σ s (g (m + 1)) := by
      rintro s ⟨i, hi, rfl⟩
      exact hg i (m + 1) (by omega) (Nat.le_refl _)
    have hcd : CD σ (fun p => ∃ i, i ≤ m ∧ p = g i) (c (r + 1 - 1)) (g (m + 1)) := by
      refine Or.inl ?_
      rintro s ⟨i, hi, rfl⟩
      rw [show r + 1 - 1 = r by omega, h2]
      by_cases he : i = m
      · rw [he]; exact Or.inl rfl
      · exact Or.inr (hg i m (by omega) (by omega))
    obtain ⟨r', c', k0, k1, k2, k3⟩ := CH_grow hσ hlast (r + 1) c h1 hcd
    have e : (fun s => (∃ i, i ≤ m ∧ s = g i) ∨ s = g (m + 1)) = fun p => ∃ i, i ≤ m + 1 ∧ p = g i := by
      funext p
      apply propext
      constructor
      · rintro (⟨i, hi, e⟩ | e)
        · exact ⟨i, by omega, e⟩
        · exact ⟨m + 1, Nat.le_refl _, e⟩
      · rintro ⟨i, hi, e⟩
        by_cases he : i = m + 1
        · exact Or.inr (by rw [e, he])
        · exact Or.inl ⟨i, by omega, e⟩
    rw [e] at k1
    exact ⟨r', c', by omega, k1, k2, by rw [k3 b (Nat.le_refl _), h3], fun i hi => by rw [k3 i (by omega), h4 i hi], fun _ => k0⟩
theorem Hull_ex {S : pt → Prop} {n : Nat} {f : Nat → pt} (hE : Enum lx S n f) (hn : 0 < n) : ∃ (h : Nat) (c : Nat → pt), Hull S h c := by
  by_cases h1 : n = 1
  · refine ⟨1, fun _ => f 0, Hull_one ((hE.2 _).mpr ⟨0, hn, rfl⟩) (fun p hp => ?_)⟩
    obtain ⟨i, hi, e⟩ := (hE.2 p).mp hp
    rw [e, show i = 0 by omega]
  · obtain ⟨k, c1, -, a1, a2, a3, -, a5⟩ := CH_ex (σ := 1) (Or.inl rfl) f 0 f (n - 1) (fun i j hij hj => lq_1.mpr (hE.1 i j hij (by omega)))
    have hk := a5 (by omega)
    obtain ⟨r, c2, -, b1, b2, b3, b4, b5⟩ := CH_ex (σ := -1) (Or.inr rfl) (fun i => f (n - 1 - i)) k c1 (n - 1) (fun i j hij hj => lq_m.mpr (hE.1 _ _ (by omega) (by omega)))
    have e1 : (fun p => ∃ i, i ≤ n - 1 ∧ p = f i) = S := by
      funext p
      apply propext
      rw [hE.2 p]
      exact ⟨fun ⟨i, hi, e⟩ => ⟨i, by omega, e⟩, fun ⟨i, hi, e⟩ => ⟨i, by omega, e⟩⟩
    have e2 : (fun p => ∃ i, i ≤ n - 1 ∧ p = f (n - 1 - i)) = S := by
      funext p
      apply propext
      rw [hE.2 p]
      exact ⟨fun ⟨i, hi, e⟩ => ⟨n - 1 - i, by omega, e⟩, fun ⟨i, hi, e⟩ => ⟨n - 1 - i, by omega, by rw [show n - 1 - (n - 1 - i) = i by omega]; exact e⟩⟩
    rw [e1] at a1
    rw [e2] at b1
    -- the lower chain in c2
    have pre : ∀ i, i ≤ k → c2 i = c1 i := by
      intro i hi
      by_cases he : i = k
      · rw [he, b3, a2]; rfl
      · exact b4 i (by omega)
    have a1' : CH 1 S 0 (k + 1) c2 := by
      obtain ⟨q1, q2, q3, q4, q5⟩ := a1
      refine ⟨q1, fun i hi hi2 => by rw [pre i (by omega)]; exact q2 i hi hi2, fun p hp => by rw [pre 0 (by omega)]; exact q3 p hp, fun i hi hi2 => by rw [pre i (by omega), pre (i + 1) (by omega)]; exact q4 i hi hi2, fun i hi hi2 => by rw [pre i (by omega), pre (i + 1) (by omega), pre (i + 2) (by omega)]; exact q5 i hi hi2⟩
    refine ⟨r, c2, Hull_of a1' b1 ?_ hk⟩
    rw [b2, pre 0 (by omega), a3]
    show f (n - 1 - (n - 1)) = f 0
    rw [Nat.sub_self]
