/-! ===== the plane: turns, the order by x then y, chains, hulls ===== -/
abbrev pt : Type := Rat × Rat
def xp (u v : pt) : Rat := u.1 * v.2 - u.2 * v.1
def sb (a b : pt) : pt := (b.1 - a.1, b.2 - a.2)
def cr (a b c : pt) : Rat := xp (sb a b) (sb a c)
def lx (a b : pt) : Prop := a.1 < b.1 ∨ (a.1 = b.1 ∧ a.2 < b.2)
/-- ahead of the origin by x, then y -/
def hp (u : pt) : Prop := 0 < u.1 ∨ (u.1 = 0 ∧ 0 < u.2)
def ng (u : pt) : pt := (-u.1, -u.2)
theorem r_pos {a b : Rat} (h : 0 < a) (h2 : 0 ≤ a * b) : 0 ≤ b := by
  apply Classical.byContradiction
  intro h3
  have h4 : 0 < -b := by grind
  have := Rat.mul_pos h h4
  grind
theorem r_pos' {a b : Rat} (h : 0 < a) (h2 : 0 < a * b) : 0 < b := by
  apply Classical.byContradiction
  intro h3
  have h4 : 0 ≤ -b := by grind
  have := Rat.mul_nonneg (Rat.le_of_lt h) h4
  grind
theorem r_zero {a b : Rat} (h : a ≠ 0) (h2 : a * b = 0) : b = 0 := by
  rcases Rat.mul_eq_zero.mp h2 with h3 | h3
  · exact absurd h3 h
  · exact h3
theorem r_nn {a b : Rat} (h : 0 ≤ a) (h2 : 0 ≤ b) : 0 ≤ a * b := Rat.mul_nonneg h h2
theorem r_pp {a b : Rat} (h : 0 < a) (h2 : 0 < b) : 0 < a * b := Rat.mul_pos h h2
theorem hp_11 {u v w : pt} (hu : hp u) (hv : hp v) (hw : hp w) (h1 : 0 ≤ xp u v) (h2 : 0 ≤ xp v w) : 0 ≤ xp u w := by
  unfold xp at *
  have e : v.1 * (u.1 * w.2 - u.2 * w.1) = u.1 * (v.1 * w.2 - v.2 * w.1) + w.1 * (u.1 * v.2 - u.2 * v.1) := by grind
  rcases hv with hv | ⟨hv, hv2⟩
  · refine r_pos hv ?_
    rw [e]
    have a1 : 0 ≤ u.1 := by unfold hp at hu; grind
    have a2 : 0 ≤ w.1 := by unfold hp at hw; grind
    have := r_nn a1 h2
    have := r_nn a2 h1
    grind
  · have b1 : 0 ≤ v.2 * (-w.1) := by rw [hv] at h2; grind
    have b2 := r_pos hv2 b1
    have a2 : w.1 = 0 ∧ 0 < w.2 := by unfold hp at hw; grind
    have a1 : 0 ≤ u.1 := by unfold hp at hu; grind
    have := r_nn a1 (Rat.le_of_lt a2.2)
    rw [a2.1]; grind
theorem hp_21 {u v w : pt} (hu : hp u) (hv : hp v) (hw : hp w) (h1 : 0 < xp u v) (h2 : 0 ≤ xp v w) : 0 < xp u w := by
  unfold xp at *
  have e : v.1 * (u.1 * w.2 - u.2 * w.1) = u.1 * (v.1 * w.2 - v.2 * w.1) + w.1 * (u.1 * v.2 - u.2 * v.1) := by grind
  have hu1 : 0 < u.1 := by
    rcases hu with hu | ⟨hu, hu2⟩
    · exact hu
    · exfalso
      have a1 : 0 ≤ v.1 := by unfold hp at hv; grind
      have := r_nn a1 (Rat.le_of_lt hu2)
      rw [hu] at h1; grind
  rcases hv with hv | ⟨hv, hv2⟩
  · refine r_pos' hv ?_
    rw [e]
    rcases hw with hw | ⟨hw, hw2⟩
    · have := r_nn (Rat.le_of_lt hu1) h2
      have := r_pp hw h1
      grind
    · have := r_pp hu1 (r_pp hv hw2)
      rw [hw]; grind
  · have b1 : 0 ≤ v.2 * (-w.1) := by rw [hv] at h2; grind
    have b2 := r_pos hv2 b1
    have a2 : w.1 = 0 ∧ 0 < w.2 := by unfold hp at hw; grind
    have := r_pp hu1 a2.2
    rw [a2.1]; grind
theorem hp_12 {u v w : pt} (hu : hp u) (hv : hp v) (hw : hp w) (h1 : 0 ≤ xp u v) (h2 : 0 < xp v w) : 0 < xp u w := by
  apply Classical.byContradiction
  intro h3
  have h4 : 0 ≤ xp w u := by unfold xp at *; grind
  have h5 := hp_21 hv hw hu h2 h4
  unfold xp at *; grind
/-- the two orders: ahead (σ = 1), behind (σ = -1) -/
def HS (σ : Rat) (u : pt) : Prop := hp (σ * u.1, σ * u.2)
def lq (σ : Rat) (a b : pt) : Prop := HS σ (sb a b)
def sgn1 (σ : Rat) : Prop := σ = 1 ∨ σ = -1
theorem xp_s {σ : Rat} (hσ : sgn1 σ) (u v : pt) : xp (σ * u.1, σ * u.2) (σ * v.1, σ * v.2) = xp u v := by
  unfold xp
  rcases hσ with rfl | rfl <;> grind
theorem hs_11 {σ : Rat} (hσ : sgn1 σ) {u v w : pt} (hu : HS σ u) (hv : HS σ v) (hw : HS σ w) (h1 : 0 ≤ xp u v) (h2 : 0 ≤ xp v w) : 0 ≤ xp u w := by
  have := hp_11 hu hv hw (by rw [xp_s hσ]; exact h1) (by rw [xp_s hσ]; exact h2)
  rwa [xp_s hσ] at this
theorem hs_21 {σ : Rat} (hσ : sgn1 σ) {u v w : pt} (hu : HS σ u) (hv : HS σ v) (hw : HS σ w) (h1 : 0 < xp u v) (h2 : 0 ≤ xp v w) : 0 < xp u w := by
  have := hp_21 hu hv hw (by rw [xp_s hσ]; exact h1) (by rw [xp_s hσ]; exact h2)
  rwa [xp_s hσ] at this
theorem hs_12 {σ : Rat} (hσ : sgn1 σ) {u v w : pt} (hu : HS σ u) (hv : HS σ v) (hw : HS σ w) (h1 : 0 ≤ xp u v) (h2 : 0 < xp v w) : 0 < xp u w := by
  have := hp_12 hu hv hw (by rw [xp_s hσ]; exact h1) (by rw [xp_s hσ]; exact h2)
  rwa [xp_s hσ] at this
theorem lq_1 {a b : pt} : lq 1 a b ↔ lx a b := by
  unfold lq HS hp sb lx; grind
theorem lq_m {a b : pt} : lq (-1) a b ↔ lx b a := by
  unfold lq HS hp sb lx; grind
theorem lq_ir {σ : Rat} {a : pt} : ¬ lq σ a a := by
  unfold lq HS hp sb; grind
theorem lq_tr {σ : Rat} (hσ : sgn1 σ) {a b c : pt} (h1 : lq σ a b) (h2 : lq σ b c) : lq σ a c := by
  rcases hσ with rfl | rfl
  · rw [lq_1] at *; unfold lx at *; grind
  · rw [lq_m] at *; unfold lx at *; grind
theorem lx_ir {a : pt} : ¬ lx a a := by unfold lx; grind
theorem lx_tr {a b c : pt} (h1 : lx a b) (h2 : lx b c) : lx a c := by unfold lx at *; grind
theorem lx_as {a b : pt} (h1 : lx a b) (h2 : lx b a) : False := by unfold lx at *; grind
theorem lx_tri (a b : pt) : lx a b ∨ a = b ∨ lx b a := by
  have : a = b ↔ a.1 = b.1 ∧ a.2 = b.2 := Prod.ext_iff
  rw [this]
  unfold lx; grind
theorem lq_tri {σ : Rat} (hσ : sgn1 σ) (a b : pt) : lq σ a b ∨ a = b ∨ lq σ b a := by
  rcases hσ with rfl | rfl
  · rw [lq_1, lq_1]; exact lx_tri a b
  · rw [lq_m, lq_m]; rcases lx_tri a b with h | h | h
    · exact Or.inr (Or.inr h)
    · exact Or.inr (Or.inl h)
    · exact Or.inl h
/-- on the segment from a to b, told by the order alone -/
def bt (a b p : pt) : Prop := p = a ∨ p = b ∨ (lx a p ∧ lx p b) ∨ (lx b p ∧ lx p a)
def eg (S : pt → Prop) (a b : pt) : Prop := ∀ p, S p → 0 ≤ cr a b p ∧ (cr a b p = 0 → bt a b p)
theorem bt_of {σ : Rat} (hσ : sgn1 σ) {a b p : pt} (h1 : p = a ∨ lq σ a p) (h2 : p = b ∨ lq σ p b) : bt a b p := by
  rcases h1 with h1 | h1
  · exact Or.inl h1
  · rcases h2 with h2 | h2
    · exact Or.inr (Or.inl h2)
    · rcases hσ with rfl | rfl
      · rw [lq_1] at *; exact Or.inr (Or.inr (Or.inl ⟨h1, h2⟩))
      · rw [lq_m] at *; exact Or.inr (Or.inr (Or.inr ⟨h2, h1⟩))
theorem cr_rot (a b c : pt) : cr a b c = cr b c a := by unfold cr xp sb; grind
theorem cr_sw (a b c : pt) : cr a c b = - cr a b c := by unfold cr xp sb; grind
theorem cr_aa (a b : pt) : cr a a b = 0 := by unfold cr xp sb; grind
theorem cr_ab (a b : pt) : cr a b a = 0 := by unfold cr xp sb; grind
theorem cr_bb (a b : pt) : cr a b b = 0 := by unfold cr xp sb; grind
/-- a chain: places b to r - 1 of c, ever ahead, ever to the left, with all of S on the left of each step -/
def CH (σ : Rat) (S : pt → Prop) (b r : Nat) (c : Nat → pt) : Prop :=
  b < r ∧ (∀ i, b ≤ i → i < r → S (c i)) ∧ (∀ p, S p → p = c b ∨ lq σ (c b) p) ∧
  (∀ i, b ≤ i → i + 1 < r → lq σ (c i) (c (i + 1)) ∧ eg S (c i) (c (i + 1))) ∧
  (∀ i, b ≤ i → i + 2 < r → 0 < cr (c i) (c (i + 1)) (c (i + 2)))
def CD (σ : Rat) (S : pt → Prop) (t p : pt) : Prop :=
  (∀ s, S s → s = t ∨ lq σ s t) ∨ ∃ q, eg S t q ∧ lq σ t q ∧ lq σ q p ∧ cr t q p ≤ 0
theorem CH_pop {σ : Rat} {S : pt → Prop} {b r : Nat} {c : Nat → pt} {p : pt} (h : CH σ S b r c) (hr : b + 2 ≤ r) (ht : cr (c (r - 2)) (c (r - 1)) p ≤ 0) (hp : ∀ s, S s → lq σ s p) : CH σ S b (r - 1) c ∧ CD σ S (c (r - 1 - 1)) p := by
  obtain ⟨h1, h2, h3, h4, h5⟩ := h
  refine ⟨⟨by omega, fun i hi hi2 => h2 i hi (by omega), h3, fun i hi hi2 => h4 i hi (by omega), fun i hi hi2 => h5 i hi (by omega)⟩, Or.inr ⟨c (r - 1), ?_, ?_, hp _ (h2 _ (by omega) (by omega)), ?_⟩⟩
  · have := (h4 (r - 2) (by omega) (by omega)).2
    rwa [show r - 2 + 1 = r - 1 by omega] at this
  · have := (h4 (r - 2) (by omega) (by omega)).1
    rwa [show r - 2 + 1 = r - 1 by omega] at this
  · exact ht
theorem cr_chain {σ : Rat} (hσ : sgn1 σ) {a b c p : pt} (h1 : lq σ a b) (h2 : lq σ b c) (h3 : lq σ c p) (t1 : 0 < cr a b c) (t2 : 0 < cr b c p) : 0 < cr a b p := by
  have e1 : cr a b c = xp (sb a b) (sb b c) := by unfold cr xp sb; grind
  have e2 : cr b c p = xp (sb b c) (sb c p) := by unfold cr xp sb; grind
  have e3 : cr a b p = xp (sb a b) (sb b c) + xp (sb a b) (sb c p) := by unfold cr xp sb; grind
  rw [e1] at t1
  rw [e2] at t2
  have := hs_21 hσ h1 h2 h3 t1 (Rat.le_of_lt t2)
  rw [e3]; grind
theorem CH_push {σ : Rat} (hσ : sgn1 σ) {S : pt → Prop} {b r : Nat} {c c' : Nat → pt} {p : pt} (h : CH σ S b r c) (hc : CD σ S (c (r - 1)) p) (ht : b + 1 = r ∨ 0 < cr (c (r - 2)) (c (r - 1)) p) (hp : ∀ s, S s → lq σ s p)
    (hc1 : c' r = p) (hc2 : ∀ i, i < r → c' i = c i) : CH σ (fun s => S s ∨ s = p) b (r + 1) c' ∧ ∀ s, (S s ∨ s = p) → s = c' r ∨ lq σ s (c' r) := by
  obtain ⟨h1, h2, h3, h4, h5⟩ := h
  have hb : S (c b) := h2 b (Nat.le_refl _) h1
  have htop : S (c (r - 1)) := h2 _ (by omega) (by omega)
  have hturn : ∀ k i, i + 2 + k = r → b ≤ i → 0 < cr (c i) (c (i + 1)) p := by
    intro k
    induction k with
    | zero =>
      intro i hi hbi
      rcases ht with ht | ht
      · omega
      · rwa [show r - 2 = i by omega, show r - 1 = i + 1 by omega] at ht
    | succ k ih =>
      intro i hi hbi
      have t2 := ih (i + 1) (by omega) (by omega)
      exact cr_chain hσ (h4 i hbi (by omega)).1 (h4 (i + 1) (by omega) (by omega)).1 (hp _ (h2 _ (by omega) (by omega))) (h5 i hbi (by omega)) t2
  have hnew : eg (fun s => S s ∨ s = p) (c (r - 1)) p := by
    intro s hs
    rcases hs with hs | rfl
    · have hlast : s = p ∨ lq σ s p := Or.inr (hp s hs)
      rcases lq_tri hσ s (c (r - 1)) with h | h | h
      · -- behind the top
        by_cases hbr : b + 1 = r
        · exfalso
          have e : r - 1 = b := by omega
          rw [e] at h
          rcases h3 s hs with h' | h'
          · rw [h'] at h; exact lq_ir h
          · exact lq_ir (lq_tr hσ h' h)
        · have t1 : 0 < cr (c (r - 2)) (c (r - 1)) p := by
            rcases ht with ht | ht
            · omega
            · exact ht
          have hq := h4 (r - 2) (by omega) (by omega)
          rw [show r - 2 + 1 = r - 1 by omega] at hq
          have e1 := (hq.2 s hs).1
          have f1 : cr (c (r - 2)) (c (r - 1)) p = xp (sb (c (r - 2)) (c (r - 1))) (sb (c (r - 1)) p) := by unfold cr xp sb; grind
          have f2 : cr (c (r - 2)) (c (r - 1)) s = xp (sb s (c (r - 1))) (sb (c (r - 2)) (c (r - 1))) := by unfold cr xp sb; grind
          have f3 : cr (c (r - 1)) p s = xp (sb s (c (r - 1))) (sb (c (r - 1)) p) := by unfold cr xp sb; grind
          rw [f1] at t1
          rw [f2] at e1
          have := hs_12 hσ h hq.1 (hp _ htop) e1 t1
          rw [← f3] at this
          exact ⟨Rat.le_of_lt this, fun z => by rw [z] at this; exact absurd this Rat.lt_irrefl⟩
      · rw [h]
        exact ⟨by rw [cr_ab]; exact Rat.le_refl, fun _ => Or.inl rfl⟩
      · rcases hc with hc | ⟨q, q1, q2, q3, q4⟩
        · exfalso
          rcases hc s hs with h' | h'
          · rw [h'] at h; exact lq_ir h
          · exact lq_ir (lq_tr hσ h h')
        · refine ⟨?_, fun _ => bt_of hσ (Or.inr h) hlast⟩
          have e1 := (q1 s hs).1
          have e2 : 0 ≤ xp (sb (c (r - 1)) p) (sb (c (r - 1)) q) := by
            have := cr_sw (c (r - 1)) q p
            unfold cr at this q4; grind
          exact hs_11 hσ (hp _ htop) q2 h e2 e1
    · exact ⟨by rw [cr_bb]; exact Rat.le_refl, fun _ => Or.inr (Or.inl rfl)⟩
  refine ⟨⟨by omega, ?_, ?_, ?_, ?_⟩, ?_⟩
  · intro i hi hi2
    by_cases he : i = r
    · subst he; exact Or.inr hc1
    · rw [hc2 i (by omega)]; exact Or.inl (h2 i hi (by omega))
  · intro s hs
    rw [hc2 b h1]
    rcases hs with hs | rfl
    · exact h3 s hs
    · exact Or.inr (hp _ hb)
  · intro i hi hi2
    by_cases he : i + 1 = r
    · rw [he, hc1, hc2 i (by omega), show i = r - 1 by omega]
      exact ⟨hp _ htop, hnew⟩
    · rw [hc2 i (by omega), hc2 (i + 1) (by omega)]
      have hq := h4 i hi (by omega)
      refine ⟨hq.1, fun s hs => ?_⟩
      rcases hs with hs | rfl
      · exact hq.2 s hs
      · have t := hturn (r - (i + 2)) i (by omega) hi
        exact ⟨Rat.le_of_lt t, fun z => by rw [z] at t; exact absurd t Rat.lt_irrefl⟩
  · intro i hi hi2
    by_cases he : i + 2 = r
    · rw [he, hc1, hc2 i (by omega), hc2 (i + 1) (by omega)]
      exact hturn 0 i (by omega) hi
    · rw [hc2 i (by omega), hc2 (i + 1) (by omega), hc2 (i + 2) (by omega)]
      exact h5 i hi (by omega)
  · intro s hs
    rw [hc1]
    rcases hs with hs | hs
    · exact Or.inr (hp s hs)
    · exact Or.inl hs
theorem CH_one {σ : Rat} {p : pt} {c : Nat → pt} {b : Nat} (h : c b = p) : CH σ (fun s => s = p) b (b + 1) c := by
  refine ⟨by omega, fun i hi hi2 => ?_, fun q hq => Or.inl (hq.trans h.symm), fun i hi hi2 => by omega, fun i hi hi2 => by omega⟩
  rw [show i = b by omega]; exact h
/-! hulls -/
def nxt (h i : Nat) : Nat := if i + 1 < h then i + 1 else 0
def Hull (S : pt → Prop) (h : Nat) (c : Nat → pt) : Prop :=
  0 < h ∧ (∀ i, i < h → S (c i)) ∧ (∀ p, S p → p = c 0 ∨ lx (c 0) p) ∧ (∀ i, 0 < i → i < h → c i ≠ c 0) ∧ (h = 1 → ∀ p, S p → p = c 0) ∧
  (1 < h → ∀ i, i < h → c i ≠ c (nxt h i) ∧ eg S (c i) (c (nxt h i)))
theorem bt_as {a q q' : pt} (h1 : bt a q q') (h2 : bt a q' q) (n1 : q ≠ a) (n2 : q' ≠ a) : q = q' := by
  unfold bt at *
  rcases h1 with h1 | h1 | ⟨h1, h1'⟩ | ⟨h1, h1'⟩
  · exact absurd h1 n2
  · exact h1.symm
  · rcases h2 with h2 | h2 | ⟨h2, h2'⟩ | ⟨h2, h2'⟩
    · exact absurd h2 n1
    · exact h2
    · exact (lx_as h1' h2').elim
    · exact (lx_as (lx_tr h1 h1') h2').elim
  · rcases h2 with h2 | h2 | ⟨h2, h2'⟩ | ⟨h2, h2'⟩
    · exact absurd h2 n1
    · exact h2
    · exact (lx_as (lx_tr h2 h2') h1').elim
    · exact (lx_as h1 h2).elim
theorem eg_un {S : pt → Prop} {a q q' : pt} (h : eg S a q) (h' : eg S a q') (hq : S q) (hq' : S q') (n1 : q ≠ a) (n2 : q' ≠ a) : q = q' := by
  have e1 := h q' hq'
  have e2 := h' q hq
  have e3 := cr_sw a q q'
  have z1 : cr a q q' = 0 := by grind
  have z2 : cr a q' q = 0 := by grind
  exact bt_as (e1.2 z1) (e2.2 z2) n1 n2
theorem nxt_lt {h i : Nat} (h0 : 0 < h) : nxt h i < h := by unfold nxt; split <;> omega
theorem Hull_step {S : pt → Prop} {h h' : Nat} {c c' : Nat → pt} (H : Hull S h c) (H' : Hull S h' c') (i : Nat) (hi : i < h) (hi' : i < h') (e : c i = c' i) : (1 < h ↔ 1 < h') ∧ (1 < h → c (nxt h i) = c' (nxt h' i)) := by
  obtain ⟨a1, a2, a3, a4, a5, a6⟩ := H
  obtain ⟨b1, b2, b3, b4, b5, b6⟩ := H'
  have f1 : 1 < h → 1 < h' := by
    intro h1
    apply Classical.byContradiction
    intro hn
    have e1 : h' = 1 := by omega
    have := b5 e1
    have q := (a6 h1 i hi).1
    have q1 := this _ (a2 _ hi)
    have q2 := this _ (a2 _ (nxt_lt (i := i) a1))
    exact q (q1.trans q2.symm)
  have f2 : 1 < h' → 1 < h := by
    intro h1
    apply Classical.byContradiction
    intro hn
    have e1 : h = 1 := by omega
    have := a5 e1
    have q := (b6 h1 i hi').1
    have q1 := this _ (b2 _ hi')
    have q2 := this _ (b2 _ (nxt_lt (i := i) b1))
    exact q (q1.trans q2.symm)
  refine ⟨⟨f1, f2⟩, fun h1 => ?_⟩
  have g1 := a6 h1 i hi
  have g2 := b6 (f1 h1) i hi'
  rw [← e] at g2
  exact eg_un g1.2 g2.2 (a2 _ (nxt_lt a1)) (b2 _ (nxt_lt b1)) g1.1.symm g2.1.symm
theorem Hull_un {S : pt → Prop} {h h' : Nat} {c c' : Nat → pt} (H : Hull S h c) (H' : Hull S h' c') : h = h' ∧ ∀ i, i < h → c i = c' i := by
  have e0 : c 0 = c' 0 := by
    rcases H.2.2.1 _ (H'.2.1 0 H'.1) with h1 | h1
    · exact h1.symm
    · rcases H'.2.2.1 _ (H.2.1 0 H.1) with h2 | h2
      · exact h2
      · exact (lx_as h1 h2).elim
  have key : ∀ i, i < h → i < h' ∧ c i = c' i := by
    intro i
    induction i with
    | zero => intro _; exact ⟨H'.1, e0⟩
    | succ i ih =>
      intro hi
      obtain ⟨i1, i2⟩ := ih (by omega)
      obtain ⟨s1, s2⟩ := Hull_step H H' i (by omega) i1 i2
      have s3 := s2 (by omega)
      have e1 : nxt h i = i + 1 := by unfold nxt; rw [if_pos hi]
      rw [e1] at s3
      by_cases hl : i + 1 < h'
      · have e2 : nxt h' i = i + 1 := by unfold nxt; rw [if_pos hl]
        rw [e2] at s3
        exact ⟨hl, s3⟩
      · exfalso
        have e2 : nxt h' i = 0 := by unfold nxt; rw [if_neg hl]
        rw [e2, ← e0] at s3
        exact H.2.2.2.1 (i + 1) (by omega) hi s3
  have key' : ∀ i, i < h' → i < h ∧ c' i = c i := by
    intro i
    induction i with
    | zero => intro _; exact ⟨H.1, e0.symm⟩
    | succ i ih =>
      intro hi
      obtain ⟨i1, i2⟩ := ih (by omega)
      obtain ⟨s1, s2⟩ := Hull_step H' H i (by omega) i1 i2
      have s3 := s2 (by omega)
      have e1 : nxt h' i = i + 1 := by unfold nxt; rw [if_pos hi]
      rw [e1] at s3
      by_cases hl : i + 1 < h
      · have e2 : nxt h i = i + 1 := by unfold nxt; rw [if_pos hl]
        rw [e2] at s3
        exact ⟨hl, s3⟩
      · exfalso
        have e2 : nxt h i = 0 := by unfold nxt; rw [if_neg hl]
        rw [e2, e0] at s3
        exact H'.2.2.2.1 (i + 1) (by omega) hi s3
  have h1 := key (h - 1) (by have := H.1; omega)
  have h2 := key' (h' - 1) (by have := H'.1; omega)
  exact ⟨by have := H.1; have := H'.1; omega, fun i hi => (key i hi).2⟩
/-- the lower chain and the upper chain make the hull -/
theorem Hull_of {S : pt → Prop} {k r : Nat} {c : Nat → pt} (h1 : CH 1 S 0 (k + 1) c) (h2 : CH (-1) S k (r + 1) c) (hr : c r = c 0) (hk : 0 < k) : Hull S r c := by
  obtain ⟨a1, a2, a3, a4, a5⟩ := h1
  obtain ⟨b1, b2, b3, b4, b5⟩ := h2
  have hs : sgn1 (1 : Rat) := Or.inl rfl
  have hs' : sgn1 (-1 : Rat) := Or.inr rfl
  have hne : c k ≠ c 0 := by
    have f : ∀ i, i < k → lq 1 (c 0) (c (i + 1)) := by
      intro i
      induction i with
      | zero => intro h; exact (a4 0 (by omega) (by omega)).1
      | succ i ih => intro h; exact lq_tr hs (ih (by omega)) (a4 (i + 1) (by omega) (by omega)).1
    have := f (k - 1) (by omega)
    rw [show k - 1 + 1 = k by omega] at this
    intro e
    rw [e] at this
    exact lq_ir this
  have hkr : k < r := by
    have : k ≠ r := fun e => by rw [e] at hne; exact hne hr
    omega
  refine ⟨by omega, ?_, ?_, ?_, ?_, ?_⟩
  · intro i hi
    by_cases h : i ≤ k
    · exact a2 i (by omega) (by omega)
    · exact b2 i (by omega) (by omega)
  · intro p hp
    rcases a3 p hp with h | h
    · exact Or.inl h
    · exact Or.inr (lq_1.mp h)
  · intro i h0 hi e
    by_cases h : i ≤ k
    · have f : ∀ j, j < i → lq 1 (c 0) (c (j + 1)) := by
        intro j
        induction j with
        | zero => intro h; exact (a4 0 (by omega) (by omega)).1
        | succ j ih => intro h; exact lq_tr hs (ih (by omega)) (a4 (j + 1) (by omega) (by omega)).1
      have := f (i - 1) (by omega)
      rw [show i - 1 + 1 = i by omega, e] at this
      exact lq_ir this
    · have f : ∀ j, i + j < r → lq (-1) (c i) (c (i + j + 1)) := by
        intro j
        induction j with
        | zero => intro h; exact (b4 i (by omega) (by omega)).1
        | succ j ih => intro h; exact lq_tr hs' (ih (by omega)) (b4 (i + j + 1) (by omega) (by omega)).1
      have := f (r - i - 1) (by omega)
      rw [show i + (r - i - 1) + 1 = r by omega, hr, e] at this
      exact lq_ir this
  · intro h; omega
  · intro _ i hi
    by_cases h : i < k
    · have e : nxt r i = i + 1 := by unfold nxt; rw [if_pos (by omega)]
      rw [e]
      have q := a4 i (by omega) (by omega)
      exact ⟨fun z => by rw [z] at q; exact lq_ir q.1, q.2⟩
    · have q := b4 i (by omega) (by omega)
      have e : c (nxt r i) = c (i + 1) := by
        unfold nxt
        split
        · rfl
        · rw [show i + 1 = r by omega, hr]
      rw [e]
      exact ⟨fun z => by rw [z] at q; exact lq_ir q.1, q.2⟩
theorem Hull_one {S : pt → Prop} {c : Nat → pt} (h0 : S (c 0)) (h : ∀ p, S p → p = c 0) : Hull S 1 c := by
  refine ⟨by omega, fun i hi => ?_, fun p hp => Or.inl (h p hp), fun i h1 h2 => by omega, fun _ => h, fun h1 => by omega⟩
  rw [show i = 0 by omega]; exact h0
