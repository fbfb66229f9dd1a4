/-! ===== the plane: polygons ===== -/
theorem pigeon : ∀ (n h : Nat) (f : Nat → Nat), (∀ i, i < h → f i < n) → (∀ i j, i < h → j < h → f i = f j → i = j) → h ≤ n := by
  intro n
  induction n with
  | zero =>
    intro h f hf _
    apply Classical.byContradiction
    intro hc
    have := hf 0 (by omega)
    omega
  | succ n ih =>
    intro h f hf hi
    by_cases h0 : h = 0
    · omega
    · have := ih (h - 1) (fun i => if f i = n then f (h - 1) else f i) (fun i hi' => by
        have a1 := hf i (by omega)
        have a2 := hf (h - 1) (by omega)
        split
        · rename_i e
          have : f (h - 1) ≠ n := fun q => by have := hi i (h - 1) (by omega) (by omega) (e.trans q.symm); omega
          omega
        · omega) (fun i j hi' hj' e => by
        split at e
        · rename_i e1
          split at e
          · rename_i e2
            exact hi i j (by omega) (by omega) (e1.trans e2.symm)
          · have := hi (h - 1) j (by omega) (by omega) e
            omega
        · split at e
          · have := hi i (h - 1) (by omega) (by omega) e
            omega
          · exact hi i j (by omega) (by omega) e)
      omega
def prv (h i : Nat) : Nat := if i = 0 then h - 1 else i - 1
theorem prv_lt {h i : Nat} (hi : i < h) : prv h i < h := by unfold prv; split <;> omega
theorem nxt_prv {h i : Nat} (hi : i < h) : nxt h (prv h i) = i := by unfold nxt prv; split <;> split <;> omega
/-- two ways in one direction -/
theorem hp_par {e g q : pt} (he : hp e) (hg : hp g) (h0 : xp e g = 0) (h : 0 < xp q e) : 0 < xp q g := by
  unfold xp at *
  have i1 : e.1 * (q.1 * g.2 - q.2 * g.1) = g.1 * (q.1 * e.2 - q.2 * e.1) + q.1 * (e.1 * g.2 - e.2 * g.1) := by grind
  have i2 : e.2 * (q.1 * g.2 - q.2 * g.1) = g.2 * (q.1 * e.2 - q.2 * e.1) + q.2 * (e.1 * g.2 - e.2 * g.1) := by grind
  rw [h0] at i1 i2
  rcases he with he | ⟨he, he2⟩
  · refine r_pos' he ?_
    rcases hg with hg | ⟨hg, hg2⟩
    · have := r_pp hg h; grind
    · have := r_pp he hg2
      rw [hg] at h0; grind
  · rw [he] at h0
    have hg1 : g.1 = 0 := r_zero (a := e.2) (by grind) (by grind)
    have hg2 : 0 < g.2 := by unfold hp at hg; grind
    refine r_pos' he2 ?_
    have := r_pp hg2 h; grind
theorem hs_par {σ : Rat} (hσ : sgn1 σ) {e g q : pt} (he : HS σ e) (hg : HS σ g) (h0 : xp e g = 0) (h : 0 < xp q e) : 0 < xp q g := by
  have := hp_par (q := (σ * q.1, σ * q.2)) he hg (by rw [xp_s hσ]; exact h0) (by rw [xp_s hσ]; exact h)
  rwa [xp_s hσ] at this
theorem lq_or {σ : Rat} (hσ : sgn1 σ) {a b p : pt} (h : lq σ a b) : bt a b p → p = a ∨ p = b ∨ (lq σ a p ∧ lq σ p b) := by
  intro h1
  rcases h1 with h1 | h1 | h1 | h1
  · exact Or.inl h1
  · exact Or.inr (Or.inl h1)
  · rcases hσ with rfl | rfl
    · rw [lq_1] at *; rw [lq_1]; exact Or.inr (Or.inr h1)
    · rw [lq_m] at h; exact (lx_as h (lx_tr h1.1 h1.2)).elim
  · rcases hσ with rfl | rfl
    · rw [lq_1] at h; exact (lx_as h (lx_tr h1.1 h1.2)).elim
    · rw [lq_m] at *; rw [lq_m]; exact Or.inr (Or.inr ⟨h1.2, h1.1⟩)
section HL
variable {S : pt → Prop} {h : Nat} {c : Nat → pt}
theorem Hull_inj (H : Hull S h c) : ∀ i j, i < h → j < h → c i = c j → i = j := by
  have key : ∀ k i j, i + k = j → 0 < k → j < h → c i = c j → False := by
    intro k i j hk h0 hj e
    have f : ∀ m, j + m < h → c (i + m) = c (j + m) := by
      intro m
      induction m with
      | zero => intro _; exact e
      | succ m ih =>
        intro hm
        have e1 := ih (by omega)
        have := (Hull_step (H := H) (H' := H) (i + m) (by omega) (by omega) rfl).2 (by omega)
        have g1 := H.2.2.2.2.2 (by omega) (i + m) (by omega)
        have g2 := H.2.2.2.2.2 (by omega) (j + m) (by omega)
        have n1 : nxt h (i + m) = i + m + 1 := by unfold nxt; rw [if_pos (by omega)]
        have n2 : nxt h (j + m) = j + m + 1 := by unfold nxt; rw [if_pos (by omega)]
        rw [n1] at g1
        rw [n2, ← e1] at g2
        exact eg_un g1.2 g2.2 (H.2.1 _ (by omega)) (H.2.1 _ (by omega)) g1.1.symm g2.1.symm
    have e1 := f (h - 1 - j) (by omega)
    rw [show j + (h - 1 - j) = h - 1 by omega] at e1
    have g1 := H.2.2.2.2.2 (by omega) (i + (h - 1 - j)) (by omega)
    have g2 := H.2.2.2.2.2 (by omega) (h - 1) (by omega)
    have n1 : nxt h (i + (h - 1 - j)) = i + (h - 1 - j) + 1 := by unfold nxt; rw [if_pos (by omega)]
    have n2 : nxt h (h - 1) = 0 := by unfold nxt; rw [if_neg (by omega)]
    rw [n1, e1] at g1
    rw [n2] at g2
    have := eg_un g1.2 g2.2 (H.2.1 _ (by omega)) (H.2.1 _ (by omega)) g1.1.symm g2.1.symm
    exact H.2.2.2.1 _ (by omega) (by omega) this
  intro i j hi hj e
  rcases Nat.lt_trichotomy i j with h1 | h1 | h1
  · exact (key (j - i) i j (by omega) (by omega) hj e).elim
  · exact h1
  · exact (key (i - j) j i (by omega) (by omega) hi e.symm).elim
/-- no corner lies on another's edge -/
theorem Hull_strict (H : Hull S h c) (h3 : 3 ≤ h) {i j : Nat} (hi : i < h) (hj : j < h) (n1 : j ≠ i) (n2 : j ≠ nxt h i) : 0 < cr (c i) (c (nxt h i)) (c j) := by
  have hi' := nxt_lt (i := i) H.1
  have ne1 : c j ≠ c i := fun e => n1 (Hull_inj H j i hj hi e)
  have ne2 : c j ≠ c (nxt h i) := fun e => n2 (Hull_inj H j _ hj hi' e)
  have E := H.2.2.2.2.2 (by omega)
  have g := (E i hi).2 (c j) (H.2.1 j hj)
  apply Classical.byContradiction
  intro hc
  have z : cr (c i) (c (nxt h i)) (c j) = 0 := by grind
  have gj := (E j hj)
  have q1 := gj.2 (c i) (H.2.1 i hi)
  have q2 := gj.2 (c (nxt h i)) (H.2.1 _ hi')
  -- the corner stands strictly between
  have main : ∀ σ : Rat, sgn1 σ → lq σ (c i) (c j) → lq σ (c j) (c (nxt h i)) → False := by
    intro σ hσ l1 l2
    have f1 : xp (sb (c i) (c j)) (sb (c j) (c (nxt h i))) = 0 := by
      have : cr (c i) (c (nxt h i)) (c j) = - xp (sb (c i) (c j)) (sb (c j) (c (nxt h i))) := by unfold cr xp sb; grind
      grind
    have f2 : cr (c j) (c (nxt h j)) (c i) = - xp (sb (c j) (c (nxt h j))) (sb (c i) (c j)) := by unfold cr xp sb; grind
    have f3 : cr (c j) (c (nxt h j)) (c (nxt h i)) = xp (sb (c j) (c (nxt h j))) (sb (c j) (c (nxt h i))) := by unfold cr xp sb; grind
    have z3 : cr (c j) (c (nxt h j)) (c (nxt h i)) = 0 := by
      apply Classical.byContradiction
      intro hz
      have p3 : 0 < xp (sb (c j) (c (nxt h j))) (sb (c j) (c (nxt h i))) := by grind
      have f1' : xp (sb (c j) (c (nxt h i))) (sb (c i) (c j)) = 0 := by unfold xp at *; grind
      have := hs_par hσ l2 l1 f1' p3
      grind
    have z2 : cr (c j) (c (nxt h j)) (c i) = 0 := by
      apply Classical.byContradiction
      intro hz
      have p3 : 0 < xp (sb (c (nxt h j)) (c j)) (sb (c i) (c j)) := by unfold xp sb at *; grind
      have := hs_par hσ l1 l2 f1 p3
      have f4 : xp (sb (c (nxt h j)) (c j)) (sb (c j) (c (nxt h i))) = - xp (sb (c j) (c (nxt h j))) (sb (c j) (c (nxt h i))) := by unfold xp sb; grind
      grind
    have b1 := q1.2 z2
    have b2 := q2.2 z3
    rcases lq_tri hσ (c j) (c (nxt h j)) with o | o | o
    · rcases lq_or hσ o b1 with w | w | w
      · exact ne1 w.symm
      · rw [w] at l1; exact lq_ir (lq_tr hσ l1 o)
      · exact lq_ir (lq_tr hσ l1 w.1)
    · exact gj.1 o
    · have b2' : bt (c (nxt h j)) (c j) (c (nxt h i)) := by
        rcases b2 with w | w | w | w
        · exact Or.inr (Or.inl w)
        · exact Or.inl w
        · exact Or.inr (Or.inr (Or.inr w))
        · exact Or.inr (Or.inr (Or.inl w))
      rcases lq_or hσ o b2' with w | w | w
      · rw [w] at l2; exact lq_ir (lq_tr hσ l2 o)
      · exact ne2 w.symm
      · exact lq_ir (lq_tr hσ l2 w.2)
  rcases g.2 z with w | w | w | w
  · exact ne1 w
  · exact ne2 w
  · exact main 1 (Or.inl rfl) (lq_1.mpr w.1) (lq_1.mpr w.2)
  · exact main (-1) (Or.inr rfl) (lq_m.mpr w.2) (lq_m.mpr w.1)
/-- within the polygon or on its rim -/
def Inn (h : Nat) (c : Nat → pt) (p : pt) : Prop := ∀ i, i < h → 0 ≤ cr (c i) (c (nxt h i)) p
theorem Hull_inn (H : Hull S h c) {p : pt} (hp : S p) : Inn h c p := by
  intro i hi
  by_cases h1 : 1 < h
  · exact ((H.2.2.2.2.2 h1 i hi).2 p hp).1
  · have : nxt h i = i := by unfold nxt; have := H.1; rw [if_neg (by omega)]; omega
    rw [this, cr_aa]; exact Rat.le_refl
theorem nxt2 {i : Nat} (h3 : 3 ≤ h) (hi : i < h) : prv h i ≠ i ∧ nxt h i ≠ i ∧ prv h i ≠ nxt h i ∧ nxt h (nxt h i) ≠ i ∧ nxt h (nxt h i) ≠ nxt h i := by
  unfold nxt prv
  refine ⟨?_, ?_, ?_, ?_, ?_⟩ <;> (repeat' split) <;> omega
theorem Inn_ext {σ : Rat} (hσ : sgn1 σ) (H : Hull S h c) (h3 : 3 ≤ h) {k : Nat} (hk : k < h) (hm : ∀ j, j < h → j ≠ k → lq σ (c k) (c j)) {p : pt} (hp : Inn h c p) : p = c k ∨ lq σ (c k) p := by
  obtain ⟨d1, d2, d3, d4, d5⟩ := nxt2 h3 hk
  have kp := prv_lt hk
  have kn := nxt_lt (i := k) H.1
  rcases lq_tri hσ (c k) p with o | o | o
  · exact Or.inr o
  · exact Or.inl o.symm
  · exfalso
    have u := hm _ kn d2
    have w := hm _ kp d1
    have t := Hull_strict H h3 hk kp d1 d3
    have e1 := hp k hk
    have e2 := hp _ kp
    rw [nxt_prv hk] at e2
    have f1 : cr (c k) (c (nxt h k)) p = xp (sb p (c k)) (sb (c k) (c (nxt h k))) := by unfold cr xp sb; grind
    have f2 : cr (c (prv h k)) (c k) p = xp (sb (c k) (c (prv h k))) (sb p (c k)) := by unfold cr xp sb; grind
    have f3 : cr (c k) (c (nxt h k)) (c (prv h k)) = - xp (sb (c k) (c (prv h k))) (sb (c k) (c (nxt h k))) := by unfold cr xp sb; grind
    rw [f1] at e1
    rw [f2] at e2
    have := hs_11 hσ w o u e2 e1
    grind
theorem Inn_min (H : Hull S h c) (h3 : 3 ≤ h) {p : pt} (hp : Inn h c p) : p = c 0 ∨ lx (c 0) p := by
  rcases Inn_ext (σ := 1) (Or.inl rfl) H h3 H.1 (fun j hj hn => by
    rcases H.2.2.1 _ (H.2.1 j hj) with e | e
    · exact absurd e (H.2.2.2.1 j (by omega) hj)
    · exact lq_1.mpr e) hp with e | e
  · exact Or.inl e
  · exact Or.inr (lq_1.mp e)
theorem fin_max {σ : Rat} (hσ : sgn1 σ) (c : Nat → pt) : ∀ h, 0 < h → ∃ k, k < h ∧ ∀ j, j < h → c j = c k ∨ lq σ (c k) (c j) := by
  intro h
  induction h with
  | zero => intro h; omega
  | succ h ih =>
    intro _
    by_cases h0 : h = 0
    · exact ⟨0, by omega, fun j hj => Or.inl (by rw [show j = 0 by omega])⟩
    · obtain ⟨k, hk, hm⟩ := ih (by omega)
      rcases lq_tri hσ (c k) (c h) with o | o | o
      · refine ⟨k, by omega, fun j hj => ?_⟩
        by_cases hj' : j = h
        · subst hj'; exact Or.inr o
        · exact hm j (by omega)
      · refine ⟨k, by omega, fun j hj => ?_⟩
        by_cases hj' : j = h
        · subst hj'; exact Or.inl o.symm
        · exact hm j (by omega)
      · refine ⟨h, by omega, fun j hj => ?_⟩
        by_cases hj' : j = h
        · subst hj'; exact Or.inl rfl
        · rcases hm j (by omega) with e | e
          · rw [e]; exact Or.inr o
          · exact Or.inr (lq_tr hσ o e)
/-- the greatest of the polygon is a corner -/
theorem Inn_max (H : Hull S h c) (h3 : 3 ≤ h) : ∃ k, k < h ∧ ∀ p, Inn h c p → p = c k ∨ lx p (c k) := by
  have hσ : sgn1 (-1 : Rat) := Or.inr rfl
  obtain ⟨k, hk, hm⟩ := fin_max hσ c h H.1
  refine ⟨k, hk, fun p hp => ?_⟩
  rcases Inn_ext hσ H h3 hk (fun j hj hn => by
    rcases hm j hj with e | e
    · exact absurd (Hull_inj H j k hj hk e) hn
    · exact e) hp with e | e
  · exact Or.inl e
  · exact Or.inr (lq_m.mp e)
theorem Inn_edge (H : Hull S h c) (h3 : 3 ≤ h) {p : pt} (hp : Inn h c p) {i : Nat} (hi : i < h) (z : cr (c i) (c (nxt h i)) p = 0) : bt (c i) (c (nxt h i)) p := by
  obtain ⟨d1, d2, d3, d4, d5⟩ := nxt2 h3 hi
  have ip := prv_lt hi
  have hn := nxt_lt (i := i) H.1
  have t1 := Hull_strict H h3 ip hn (by intro e; exact d3 e.symm) (by rw [nxt_prv hi]; exact d2)
  rw [nxt_prv hi] at t1
  have t2 := Hull_strict H h3 hn hi (by intro e; exact d2 e.symm) (by intro e; exact d4 e.symm)
  have e1 := hp _ ip
  rw [nxt_prv hi] at e1
  have e2 := hp _ hn
  have ne : c i ≠ c (nxt h i) := (H.2.2.2.2.2 (by omega) i hi).1
  have main : ∀ σ : Rat, sgn1 σ → lq σ (c i) (c (nxt h i)) → (p = c i ∨ lq σ (c i) p) ∧ (p = c (nxt h i) ∨ lq σ p (c (nxt h i))) := by
    intro σ hσ l
    refine ⟨?_, ?_⟩
    · rcases lq_tri hσ (c i) p with o | o | o
      · exact Or.inr o
      · exact Or.inl o.symm
      · exfalso
        have f0 : xp (sb (c i) (c (nxt h i))) (sb p (c i)) = 0 := by
          have : cr (c i) (c (nxt h i)) p = - xp (sb (c i) (c (nxt h i))) (sb p (c i)) := by unfold cr xp sb; grind
          grind
        have f1 : cr (c (prv h i)) (c i) (c (nxt h i)) = xp (sb (c (prv h i)) (c i)) (sb (c i) (c (nxt h i))) := by unfold cr xp sb; grind
        have f2 : cr (c (prv h i)) (c i) p = - xp (sb (c (prv h i)) (c i)) (sb p (c i)) := by unfold cr xp sb; grind
        rw [f1] at t1
        have := hs_par hσ l o f0 t1
        grind
    · rcases lq_tri hσ p (c (nxt h i)) with o | o | o
      · exact Or.inr o
      · exact Or.inl o
      · exfalso
        have f0 : xp (sb (c i) (c (nxt h i))) (sb (c (nxt h i)) p) = 0 := by
          have : cr (c i) (c (nxt h i)) p = xp (sb (c i) (c (nxt h i))) (sb (c (nxt h i)) p) := by unfold cr xp sb; grind
          grind
        have f1 : cr (c (nxt h i)) (c (nxt h (nxt h i))) (c i) = xp (sb (c (nxt h (nxt h i))) (c (nxt h i))) (sb (c i) (c (nxt h i))) := by unfold cr xp sb; grind
        have f2 : cr (c (nxt h i)) (c (nxt h (nxt h i))) p = - xp (sb (c (nxt h (nxt h i))) (c (nxt h i))) (sb (c (nxt h i)) p) := by unfold cr xp sb; grind
        rw [f1] at t2
        have := hs_par hσ l o f0 t2
        grind
  rcases lx_tri (c i) (c (nxt h i)) with o | o | o
  · have := main 1 (Or.inl rfl) (lq_1.mpr o)
    exact bt_of (σ := 1) (Or.inl rfl) this.1 this.2
  · exact absurd o ne
  · have := main (-1) (Or.inr rfl) (lq_m.mpr o)
    exact bt_of (σ := -1) (Or.inr rfl) this.1 this.2
/-- a set with the same corners in it, all within -/
theorem Hull_same (H : Hull S h c) (h3 : 3 ≤ h) {S' : pt → Prop} (hin : ∀ p, S' p → Inn h c p) (hc : ∀ i, i < h → S' (c i)) : Hull S' h c := by
  refine ⟨H.1, hc, fun p hp => Inn_min H h3 (hin p hp), H.2.2.2.1, fun e => by omega, fun _ i hi => ⟨(H.2.2.2.2.2 (by omega) i hi).1, fun p hp => ⟨hin p hp i hi, fun z => Inn_edge H h3 (hin p hp) hi z⟩⟩⟩
/-- a place within is a mean of three corners -/
theorem Inn_tri (H : Hull S h c) (h3 : 3 ≤ h) {p : pt} (hp : Inn h c p) : ∃ i, 0 < i ∧ i + 1 < h ∧ 0 ≤ cr (c i) (c (i + 1)) p ∧ 0 ≤ cr (c 0) (c i) p ∧ cr (c 0) (c (i + 1)) p ≤ 0 ∧ 0 < cr (c 0) (c i) (c (i + 1)) := by
  have s1 := hp 0 H.1
  have n0 : nxt h 0 = 1 := by unfold nxt; rw [if_pos (by omega)]
  rw [n0] at s1
  have s2 := hp (h - 1) (by omega)
  have n1 : nxt h (h - 1) = 0 := by unfold nxt; rw [if_neg (by omega)]
  rw [n1] at s2
  have s3 : cr (c 0) (c (h - 1)) p ≤ 0 := by
    have : cr (c 0) (c (h - 1)) p = - cr (c (h - 1)) (c 0) p := by unfold cr xp sb; grind
    grind
  have key : ∀ m, 1 + m < h → (∃ i, 0 < i ∧ i < 1 + m ∧ 0 ≤ cr (c 0) (c i) p ∧ cr (c 0) (c (i + 1)) p ≤ 0) ∨ 0 ≤ cr (c 0) (c (1 + m)) p := by
    intro m
    induction m with
    | zero => intro _; exact Or.inr s1
    | succ m ih =>
      intro hm
      rcases ih (by omega) with ⟨i, a, b, c1, d⟩ | g
      · exact Or.inl ⟨i, a, by omega, c1, d⟩
      · by_cases hh : 0 ≤ cr (c 0) (c (1 + (m + 1))) p
        · exact Or.inr hh
        · exact Or.inl ⟨1 + m, by omega, by omega, g, by rw [show 1 + m + 1 = 1 + (m + 1) by omega]; grind⟩
  have fin : ∃ i, 0 < i ∧ i + 1 < h ∧ 0 ≤ cr (c 0) (c i) p ∧ cr (c 0) (c (i + 1)) p ≤ 0 := by
    rcases key (h - 2) (by omega) with ⟨i, a, b, c1, d⟩ | g
    · exact ⟨i, a, by omega, c1, d⟩
    · rcases key (h - 3) (by omega) with ⟨i, a, b, c1, d⟩ | g'
      · exact ⟨i, a, by omega, c1, d⟩
      · refine ⟨h - 2, by omega, by omega, ?_, ?_⟩
        · rwa [show 1 + (h - 3) = h - 2 by omega] at g'
        · rwa [show h - 2 + 1 = h - 1 by omega]
  obtain ⟨i, a, b, c1, d⟩ := fin
  have ni : nxt h i = i + 1 := by unfold nxt; rw [if_pos b]
  have g := hp i (by omega)
  rw [ni] at g
  refine ⟨i, a, b, g, c1, d, ?_⟩
  have := Hull_strict H h3 (i := i) (j := 0) (by omega) H.1 (by omega) (by rw [ni]; omega)
  rw [ni] at this
  have e : cr (c 0) (c i) (c (i + 1)) = cr (c i) (c (i + 1)) (c 0) := by unfold cr xp sb; grind
  rw [e]; exact this
/-- what is not below 0 at all corners is so within -/
theorem Inn_aff (H : Hull S h c) (h3 : 3 ≤ h) (A B C : Rat) (hc : ∀ i, i < h → 0 ≤ A * (c i).1 + B * (c i).2 + C) {p : pt} (hp : Inn h c p) : 0 ≤ A * p.1 + B * p.2 + C := by
  obtain ⟨i, a, b, g1, g2, g3, g4⟩ := Inn_tri H h3 hp
  have e : cr (c 0) (c i) (c (i + 1)) * (A * p.1 + B * p.2 + C) = cr (c i) (c (i + 1)) p * (A * (c 0).1 + B * (c 0).2 + C) + (- cr (c 0) (c (i + 1)) p) * (A * (c i).1 + B * (c i).2 + C) + cr (c 0) (c i) p * (A * (c (i + 1)).1 + B * (c (i + 1)).2 + C) := by unfold cr xp sb; grind
  refine r_pos g4 ?_
  rw [e]
  have k1 := r_nn g1 (hc 0 H.1)
  have k2 := r_nn (show 0 ≤ - cr (c 0) (c (i + 1)) p by grind) (hc i (by omega))
  have k3 := r_nn g2 (hc (i + 1) b)
  grind
theorem cr_aff (a b p : pt) : cr a b p = (a.2 - b.2) * p.1 + (b.1 - a.1) * p.2 + (a.1 * b.2 - a.2 * b.1) := by unfold cr xp sb; grind
/-- two polygons in one another are one -/
theorem Hull_mut {S' : pt → Prop} {h' : Nat} {c' : Nat → pt} (H : Hull S h c) (h3 : 3 ≤ h) (H' : Hull S' h' c') (h3' : 3 ≤ h') (i1 : ∀ j, j < h' → Inn h c (c' j)) (i2 : ∀ i, i < h → Inn h' c' (c i)) : h = h' ∧ ∀ i, i < h → c i = c' i := by
  have hin : ∀ p, S' p → Inn h c p := by
    intro p hp i hi
    rw [cr_aff]
    refine Inn_aff H' h3' _ _ _ (fun j hj => ?_) (Hull_inn H' hp)
    rw [← cr_aff]; exact i1 j hj i hi
  have hcor : ∀ i, i < h → ∃ j, j < h' ∧ c i = c' j := by
    intro i hi
    obtain ⟨d1, d2, d3, d4, d5⟩ := nxt2 h3 hi
    have ip := prv_lt hi
    have hn := nxt_lt (i := i) H.1
    let g : pt → Rat := fun p => cr (c (prv h i)) (c i) p + cr (c i) (c (nxt h i)) p
    have g0 : ∀ p, Inn h c p → 0 ≤ g p := by
      intro p hp
      have e1 := hp _ ip
      rw [nxt_prv hi] at e1
      have e2 := hp i hi
      show 0 ≤ _ + _
      grind
    have gz : ∀ p, Inn h c p → g p = 0 → p = c i := by
      intro p hp hz
      have e1 := hp _ ip
      rw [nxt_prv hi] at e1
      have e2 := hp i hi
      have hz' : cr (c (prv h i)) (c i) p + cr (c i) (c (nxt h i)) p = 0 := hz
      have z1 : cr (c (prv h i)) (c i) p = 0 := by grind
      have z2 : cr (c i) (c (nxt h i)) p = 0 := by grind
      have t := Hull_strict H h3 hi ip d1 d3
      have f1 : cr (c i) (c (nxt h i)) (c (prv h i)) * (p.1 - (c i).1) = ((c (prv h i)).1 - (c i).1) * cr (c i) (c (nxt h i)) p + ((c (nxt h i)).1 - (c i).1) * cr (c (prv h i)) (c i) p := by unfold cr xp sb; grind
      have f2 : cr (c i) (c (nxt h i)) (c (prv h i)) * (p.2 - (c i).2) = ((c (prv h i)).2 - (c i).2) * cr (c i) (c (nxt h i)) p + ((c (nxt h i)).2 - (c i).2) * cr (c (prv h i)) (c i) p := by unfold cr xp sb; grind
      rw [z1, z2] at f1 f2
      have k1 := r_zero (a := cr (c i) (c (nxt h i)) (c (prv h i))) (by grind) (f1.trans (by grind))
      have k2 := r_zero (a := cr (c i) (c (nxt h i)) (c (prv h i))) (by grind) (f2.trans (by grind))
      exact Prod.ext (by grind) (by grind)
    obtain ⟨j, a, b, g1, g2, g3, g4⟩ := Inn_tri H' h3' (i2 i hi)
    have e : cr (c' 0) (c' j) (c' (j + 1)) * g (c i) = cr (c' j) (c' (j + 1)) (c i) * g (c' 0) + (- cr (c' 0) (c' (j + 1)) (c i)) * g (c' j) + cr (c' 0) (c' j) (c i) * g (c' (j + 1)) := by
      show _ * (_ + _) = _ * (_ + _) + _ * (_ + _) + _ * (_ + _)
      unfold cr xp sb; grind
    have e3 : cr (c' 0) (c' j) (c' (j + 1)) = cr (c' j) (c' (j + 1)) (c i) + (- cr (c' 0) (c' (j + 1)) (c i)) + cr (c' 0) (c' j) (c i) := by unfold cr xp sb; grind
    have gi : g (c i) = 0 := by
      show _ + _ = _
      rw [cr_bb, cr_ab]; grind
    rw [gi] at e
    have k0 := g0 _ (i1 0 H'.1)
    have k1 := g0 _ (i1 j (by omega))
    have k2 := g0 _ (i1 (j + 1) b)
    have p0 := r_nn g1 k0
    have p1 := r_nn (show 0 ≤ - cr (c' 0) (c' (j + 1)) (c i) by grind) k1
    have p2 := r_nn g2 k2
    by_cases q0 : cr (c' j) (c' (j + 1)) (c i) = 0
    · by_cases q1 : cr (c' 0) (c' (j + 1)) (c i) = 0
      · have q2 : cr (c' 0) (c' j) (c i) ≠ 0 := by grind
        exact ⟨j + 1, b, (gz _ (i1 _ b) (r_zero q2 (by grind))).symm⟩
      · exact ⟨j, by omega, (gz _ (i1 _ (by omega)) (r_zero (a := - cr (c' 0) (c' (j + 1)) (c i)) (by grind) (by grind))).symm⟩
    · exact ⟨0, H'.1, (gz _ (i1 _ H'.1) (r_zero q0 (by grind))).symm⟩
  exact Hull_un (Hull_same H h3 hin (fun i hi => by
    obtain ⟨j, hj, e⟩ := hcor i hi
    rw [e]; exact H'.2.1 j hj)) H'
/-- places on one line are no corners of a figure that is not flat -/
theorem flat_no (H : Hull S h c) (h3 : 3 ≤ h) {a b : pt} (hab : a ≠ b) (hl : ∀ i, i < h → cr a b (c i) = 0) : False := by
  have t := Hull_strict H h3 (i := 0) (j := 2) H.1 (by omega) (by omega) (by unfold nxt; rw [if_pos (by omega)]; omega)
  have n0 : nxt h 0 = 1 := by unfold nxt; rw [if_pos (by omega)]
  rw [n0] at t
  have z0 := hl 0 H.1
  have z1 := hl 1 (by omega)
  have z2 := hl 2 (by omega)
  have f1 : (b.1 - a.1) * cr (c 0) (c 1) (c 2) = ((c 1).1 - (c 0).1) * (cr a b (c 2) - cr a b (c 0)) - ((c 2).1 - (c 0).1) * (cr a b (c 1) - cr a b (c 0)) := by unfold cr xp sb; grind
  have f2 : (b.2 - a.2) * cr (c 0) (c 1) (c 2) = ((c 1).2 - (c 0).2) * (cr a b (c 2) - cr a b (c 0)) - ((c 2).2 - (c 0).2) * (cr a b (c 1) - cr a b (c 0)) := by unfold cr xp sb; grind
  rw [z0, z1, z2] at f1 f2
  by_cases hx : b.1 - a.1 = 0
  · by_cases hy : b.2 - a.2 = 0
    · exact hab (Prod.ext (by grind) (by grind))
    · have := r_zero hy (f2.trans (by grind))
      grind
  · have := r_zero hx (f1.trans (by grind))
    grind
end HL
/-- an upper chain's inner places are no inner places of the lower chain -/
theorem chain_apart {S : pt → Prop} {q0 q1 q2 a b : pt} (l1 : lx q0 q1) (l2 : lx q1 q2) (t : 0 < cr q0 q1 q2) (e1 : eg S q0 q1) (e2 : eg S q1 q2) (ha : S a) (hb : S b) (m1 : lx q1 a) (m2 : lx b q1) (u : 0 < cr a q1 b) : False := by
  have hs : sgn1 (1 : Rat) := Or.inl rfl
  have k1 := (e1 b hb).1
  have k2 := (e2 a ha).1
  have f0 : cr q0 q1 q2 = xp (sb q0 q1) (sb q1 q2) := by unfold cr xp sb; grind
  have f1 : cr q0 q1 b = xp (sb b q1) (sb q0 q1) := by unfold cr xp sb; grind
  have f2 : cr q1 q2 a = xp (sb q1 q2) (sb q1 a) := by unfold cr xp sb; grind
  have f3 : cr a q1 b = - xp (sb b q1) (sb q1 a) := by unfold cr xp sb; grind
  rw [f0] at t
  rw [f1] at k1
  rw [f2] at k2
  have s1 := hs_12 hs (lq_1.mpr m2) (lq_1.mpr l1) (lq_1.mpr l2) k1 t
  have s2 := hs_21 hs (lq_1.mpr m2) (lq_1.mpr l2) (lq_1.mpr m1) s1 k2
  grind
