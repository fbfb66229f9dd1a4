/-! ===== space: bodies by walls ===== -/
abbrev p3 : Type := Rat × Rat × Rat
abbrev wl : Type := Nat → p3 × Rat
def dt (u v : p3) : Rat := u.1 * v.1 + u.2.1 * v.2.1 + u.2.2 * v.2.2
def xs3 (u v : p3) : p3 := (u.2.1 * v.2.2 - u.2.2 * v.2.1, u.2.2 * v.1 - u.1 * v.2.2, u.1 * v.2.1 - u.2.1 * v.1)
def ad (u v : p3) : p3 := (u.1 + v.1, u.2.1 + v.2.1, u.2.2 + v.2.2)
def sc (t : Rat) (v : p3) : p3 := (t * v.1, t * v.2.1, t * v.2.2)
def z3 : p3 := (0, 0, 0)
def d3 (u v w : p3) : Rat := dt (xs3 u v) w
theorem p3_ext {u v : p3} (h1 : u.1 = v.1) (h2 : u.2.1 = v.2.1) (h3 : u.2.2 = v.2.2) : u = v := Prod.ext h1 (Prod.ext h2 h3)
theorem dt_ad (u v w : p3) : dt u (ad v w) = dt u v + dt u w := by unfold dt ad; grind
theorem dt_sc (u v : p3) (t : Rat) : dt u (sc t v) = t * dt u v := by unfold dt sc; grind
theorem dt_z (u : p3) : dt u z3 = 0 := by unfold dt z3; grind
theorem dt_comm (u v : p3) : dt u v = dt v u := by unfold dt; grind
theorem dt_x1 (u v : p3) : dt u (xs3 u v) = 0 := by unfold dt xs3; grind
theorem dt_x2 (u v : p3) : dt v (xs3 u v) = 0 := by unfold dt xs3; grind
theorem r_sq (a : Rat) : 0 ≤ a * a := by
  by_cases h : 0 ≤ a
  · exact r_nn h h
  · have := r_nn (show 0 ≤ -a by grind) (show 0 ≤ -a by grind)
    grind
theorem r_sq0 {a : Rat} (h : a * a = 0) : a = 0 := by
  rcases Rat.mul_eq_zero.mp h with h | h <;> exact h
theorem dt_pos {u : p3} (h : u ≠ z3) : 0 < dt u u := by
  have a1 := r_sq u.1
  have a2 := r_sq u.2.1
  have a3 := r_sq u.2.2
  apply Classical.byContradiction
  intro hn
  have e : dt u u = u.1 * u.1 + u.2.1 * u.2.1 + u.2.2 * u.2.2 := rfl
  have b1 : u.1 * u.1 = 0 := by grind
  have b2 : u.2.1 * u.2.1 = 0 := by grind
  have b3 : u.2.2 * u.2.2 = 0 := by grind
  exact h (p3_ext (r_sq0 b1) (r_sq0 b2) (r_sq0 b3))
/-- one is so many times the other, if their cross is nought -/
theorem x_par {u v : p3} (hu : u ≠ z3) (h : xs3 u v = z3) : dt u u * v.1 = dt u v * u.1 ∧ dt u u * v.2.1 = dt u v * u.2.1 ∧ dt u u * v.2.2 = dt u v * u.2.2 := by
  have h1 : u.2.1 * v.2.2 - u.2.2 * v.2.1 = 0 := congrArg (fun p => p.1) h
  have h2 : u.2.2 * v.1 - u.1 * v.2.2 = 0 := congrArg (fun p => p.2.1) h
  have h3 : u.1 * v.2.1 - u.2.1 * v.1 = 0 := congrArg (fun p => p.2.2) h
  unfold dt
  refine ⟨?_, ?_, ?_⟩ <;> grind
theorem par_dt {u v n : p3} (hu : u ≠ z3) (h : xs3 u v = z3) (hn : dt u n = 0) : dt v n = 0 := by
  obtain ⟨e1, e2, e3⟩ := x_par hu h
  have p := dt_pos hu
  have : dt u u * dt v n = dt u v * dt u n := by
    have : dt u u * dt v n = (dt u u * v.1) * n.1 + (dt u u * v.2.1) * n.2.1 + (dt u u * v.2.2) * n.2.2 := by unfold dt; grind
    rw [this, e1, e2, e3]; unfold dt; grind
  rw [hn] at this
  exact r_zero (a := dt u u) (by grind) (this.trans (by grind))
/-- a way across two ways is not along them -/
theorem x_ne {u v : p3} (hu : u ≠ z3) (hv : v ≠ z3) (h : dt u v = 0) : xs3 u v ≠ z3 := by
  intro hx
  obtain ⟨e1, e2, e3⟩ := x_par hu hx
  have p := dt_pos hu
  rw [h] at e1 e2 e3
  have q : dt u u ≠ 0 := by grind
  exact hv (p3_ext (r_zero q (e1.trans (by grind))) (r_zero q (e2.trans (by grind))) (r_zero q (e3.trans (by grind))))
theorem some_ort {v : p3} (hv : v ≠ z3) : ∃ u : p3, u ≠ z3 ∧ dt u v = 0 := by
  by_cases h : v.1 = 0 ∧ v.2.1 = 0
  · refine ⟨(1, 0, 0), fun e => ?_, ?_⟩
    · have : (1 : Rat) = 0 := congrArg (fun p => p.1) e
      grind
    · unfold dt; grind
  · refine ⟨(v.2.1, -v.1, 0), fun e => ?_, ?_⟩
    · have e1 : v.2.1 = 0 := congrArg (fun p => p.1) e
      have e2 : -v.1 = 0 := congrArg (fun p => p.2.1) e
      exact h ⟨by grind, e1⟩
    · unfold dt; grind
/-- three ways that span: nothing but nought is across all -/
theorem span0 {a b c v : p3} (hd : d3 a b c ≠ 0) (h1 : dt a v = 0) (h2 : dt b v = 0) (h3 : dt c v = 0) : v = z3 := by
  unfold d3 dt xs3 at *
  refine p3_ext ?_ ?_ ?_
  · refine r_zero hd ?_
    show _ = (0 : Rat)
    have : ((a.2.1 * b.2.2 - a.2.2 * b.2.1) * c.1 + (a.2.2 * b.1 - a.1 * b.2.2) * c.2.1 + (a.1 * b.2.1 - a.2.1 * b.1) * c.2.2) * v.1 = (b.2.1 * c.2.2 - b.2.2 * c.2.1) * (a.1 * v.1 + a.2.1 * v.2.1 + a.2.2 * v.2.2) + (c.2.1 * a.2.2 - c.2.2 * a.2.1) * (b.1 * v.1 + b.2.1 * v.2.1 + b.2.2 * v.2.2) + (a.2.1 * b.2.2 - a.2.2 * b.2.1) * (c.1 * v.1 + c.2.1 * v.2.1 + c.2.2 * v.2.2) := by grind
    rw [this, h1, h2, h3]; grind
  · refine r_zero hd ?_
    have : ((a.2.1 * b.2.2 - a.2.2 * b.2.1) * c.1 + (a.2.2 * b.1 - a.1 * b.2.2) * c.2.1 + (a.1 * b.2.1 - a.2.1 * b.1) * c.2.2) * v.2.1 = (b.2.2 * c.1 - b.1 * c.2.2) * (a.1 * v.1 + a.2.1 * v.2.1 + a.2.2 * v.2.2) + (c.2.2 * a.1 - c.1 * a.2.2) * (b.1 * v.1 + b.2.1 * v.2.1 + b.2.2 * v.2.2) + (a.2.2 * b.1 - a.1 * b.2.2) * (c.1 * v.1 + c.2.1 * v.2.1 + c.2.2 * v.2.2) := by grind
    rw [this, h1, h2, h3]; grind
  · refine r_zero hd ?_
    have : ((a.2.1 * b.2.2 - a.2.2 * b.2.1) * c.1 + (a.2.2 * b.1 - a.1 * b.2.2) * c.2.1 + (a.1 * b.2.1 - a.2.1 * b.1) * c.2.2) * v.2.2 = (b.1 * c.2.1 - b.2.1 * c.1) * (a.1 * v.1 + a.2.1 * v.2.1 + a.2.2 * v.2.2) + (c.1 * a.2.1 - c.2.1 * a.1) * (b.1 * v.1 + b.2.1 * v.2.1 + b.2.2 * v.2.2) + (a.1 * b.2.1 - a.2.1 * b.1) * (c.1 * v.1 + c.2.1 * v.2.1 + c.2.2 * v.2.2) := by grind
    rw [this, h1, h2, h3]; grind
/-! the body of a set of walls -/
section BD
variable {w : wl} {σ : Nat → Prop} {N : Nat}
def PO (w : wl) (σ : Nat → Prop) (p : p3) : Prop := ∀ i, σ i → dt (w i).1 p ≤ (w i).2
def RC (w : wl) (σ : Nat → Prop) (v : p3) : Prop := ∀ i, σ i → dt (w i).1 v ≤ 0
def TI (w : wl) (i : Nat) (p : p3) : Prop := dt (w i).1 p = (w i).2
def T3 (w : wl) (σ : Nat → Prop) (p : p3) : Prop := ∃ i j k, σ i ∧ σ j ∧ σ k ∧ d3 (w i).1 (w j).1 (w k).1 ≠ 0 ∧ TI w i p ∧ TI w j p ∧ TI w k p
def VX (w : wl) (σ : Nat → Prop) (p : p3) : Prop := PO w σ p ∧ T3 w σ p
/-- a least of finitely many -/
theorem fin_min (P : Nat → Prop) (f : Nat → Rat) : ∀ N, (∃ i, i < N ∧ P i) → ∃ k, k < N ∧ P k ∧ ∀ i, i < N → P i → f k ≤ f i := by
  intro N
  induction N with
  | zero => rintro ⟨i, hi, -⟩; omega
  | succ N ih =>
    rintro ⟨i, hi, hP⟩
    by_cases hN : ∃ i, i < N ∧ P i
    · obtain ⟨k, hk, pk, hm⟩ := ih hN
      by_cases hc : P N ∧ f N ≤ f k
      · refine ⟨N, by omega, hc.1, fun j hj pj => ?_⟩
        by_cases e : j = N
        · rw [e]; exact Rat.le_refl
        · exact Rat.le_trans hc.2 (hm j (by omega) pj)
      · refine ⟨k, by omega, pk, fun j hj pj => ?_⟩
        by_cases e : j = N
        · subst e
          have : ¬ f j ≤ f k := fun q => hc ⟨pj, q⟩
          grind
        · exact hm j (by omega) pj
    · have e : i = N := by
        apply Classical.byContradiction
        intro e
        exact hN ⟨i, by omega, hP⟩
      subst e
      refine ⟨i, by omega, hP, fun j hj pj => ?_⟩
      by_cases e : j = i
      · rw [e]; exact Rat.le_refl
      · exact absurd ⟨j, by omega, pj⟩ hN
theorem div_le {a b t : Rat} (hb : 0 < b) (h : t ≤ a / b) : t * b ≤ a := by
  have := Rat.mul_le_mul_of_nonneg_right h (Rat.le_of_lt hb)
  rwa [Rat.div_mul_cancel (by grind)] at this
theorem div_eq {a b t : Rat} (hb : 0 < b) (h : t = a / b) : t * b = a := by rw [h, Rat.div_mul_cancel (by grind)]
theorem div_nn {a b : Rat} (ha : 0 ≤ a) (hb : 0 < b) : 0 ≤ a / b := by
  have : b * (a / b) = a := by rw [Rat.mul_comm, Rat.div_mul_cancel (by grind)]
  exact r_pos hb (by rw [this]; exact ha)
theorem div_p {a b : Rat} (ha : 0 < a) (hb : 0 < b) : 0 < a / b := by
  have : b * (a / b) = a := by rw [Rat.mul_comm, Rat.div_mul_cancel (by grind)]
  exact r_pos' hb (by rw [this]; exact ha)
/-- along a step until a wall stops it -/
theorem PO_go (hN : ∀ i, σ i → i < N) {p u : p3} (hp : PO w σ p) (hs : ∃ i, σ i ∧ 0 < dt (w i).1 u) : ∃ (t : Rat) (k : Nat), 0 ≤ t ∧ σ k ∧ 0 < dt (w k).1 u ∧ PO w σ (ad p (sc t u)) ∧ TI w k (ad p (sc t u)) := by
  obtain ⟨i, hi, hiu⟩ := hs
  obtain ⟨k, hk, ⟨k1, k2⟩, hm⟩ := fin_min (fun i => σ i ∧ 0 < dt (w i).1 u) (fun i => ((w i).2 - dt (w i).1 p) / dt (w i).1 u) N ⟨i, hN i hi, hi, hiu⟩
  refine ⟨((w k).2 - dt (w k).1 p) / dt (w k).1 u, k, div_nn (by have := hp k k1; grind) k2, k1, k2, fun j hj => ?_, ?_⟩
  · rw [dt_ad, dt_sc]
    by_cases hju : 0 < dt (w j).1 u
    · have := div_le hju (hm j (hN j hj) ⟨hj, hju⟩)
      grind
    · have a1 := div_nn (a := (w k).2 - dt (w k).1 p) (by have := hp k k1; grind) k2
      have a2 := r_nn a1 (show 0 ≤ - dt (w j).1 u by grind)
      have := hp j hj
      grind
  · unfold TI
    rw [dt_ad, dt_sc, Rat.div_mul_cancel (by grind)]
    grind
/-- one step of the way to a vertex -/
theorem LP_step (hN : ∀ i, σ i → i < N) (hb : ∀ v, RC w σ v → v = z3) {p u c : p3} (hp : PO w σ p) (hu : u ≠ z3) (ht : ∀ i, σ i → TI w i p → dt (w i).1 u = 0) : ∃ q, PO w σ q ∧ dt c p ≤ dt c q ∧ (∀ i, σ i → TI w i p → TI w i q) ∧ ∃ k, σ k ∧ TI w k q ∧ dt (w k).1 u ≠ 0 := by
  have main : ∀ u : p3, u ≠ z3 → (∀ i, σ i → TI w i p → dt (w i).1 u = 0) → 0 ≤ dt c u → ∃ q, PO w σ q ∧ dt c p ≤ dt c q ∧ (∀ i, σ i → TI w i p → TI w i q) ∧ ∃ k, σ k ∧ TI w k q ∧ dt (w k).1 u ≠ 0 := by
    intro u hu ht hc
    have hs : ∃ i, σ i ∧ 0 < dt (w i).1 u := by
      apply Classical.byContradiction
      intro hn
      exact hu (hb u fun i hi => by
        apply Classical.byContradiction
        intro hc
        exact hn ⟨i, hi, by grind⟩)
    obtain ⟨t, k, h0, h1, h2, h3, h4⟩ := PO_go hN hp hs
    refine ⟨_, h3, ?_, fun i hi hti => ?_, k, h1, h4, by grind⟩
    · rw [dt_ad, dt_sc]
      have := r_nn h0 hc
      grind
    · unfold TI at *
      rw [dt_ad, dt_sc, ht i hi hti, hti]; grind
  by_cases hc : 0 ≤ dt c u
  · exact main u hu ht hc
  · have e : ∀ n : p3, dt n (sc (-1) u) = - dt n u := fun n => by rw [dt_sc]; grind
    obtain ⟨q, a, b, c', k, d, f, g⟩ := main (sc (-1) u) (fun e2 => hu (p3_ext (by have : -1 * u.1 = 0 := congrArg (fun p => p.1) e2; show u.1 = 0; grind) (by have : -1 * u.2.1 = 0 := congrArg (fun p => p.2.1) e2; show u.2.1 = 0; grind) (by have : -1 * u.2.2 = 0 := congrArg (fun p => p.2.2) e2; show u.2.2 = 0; grind))) (fun i hi hti => by rw [e, ht i hi hti]; grind) (by rw [e]; grind)
    exact ⟨q, a, b, c', k, d, f, by rw [e] at g; grind⟩
/-- from any place of a body that has an end, to a vertex that is no worse and keeps what is tight -/
theorem LPv (hN : ∀ i, σ i → i < N) (hz : ∀ i, σ i → (w i).1 ≠ z3) (hb : ∀ v, RC w σ v → v = z3) (c : p3) {p : p3} (hp : PO w σ p) : ∃ q, VX w σ q ∧ dt c p ≤ dt c q ∧ ∀ i, σ i → TI w i p → TI w i q := by
  -- a place where two cross
  have L2 : ∀ p, PO w σ p → ∀ i j, σ i → σ j → TI w i p → TI w j p → xs3 (w i).1 (w j).1 ≠ z3 → ∃ q, VX w σ q ∧ dt c p ≤ dt c q ∧ ∀ i, σ i → TI w i p → TI w i q := by
    intro p hp i j hi hj ti tj hx
    by_cases h3 : T3 w σ p
    · exact ⟨p, ⟨hp, h3⟩, Rat.le_refl, fun _ _ h => h⟩
    · obtain ⟨q, q1, q2, q3, k, k1, k2, k3⟩ := LP_step hN hb (c := c) hp hx (fun k hk tk => by
        apply Classical.byContradiction
        intro hd
        exact h3 ⟨i, j, k, hi, hj, hk, by unfold d3; rw [dt_comm]; exact hd, ti, tj, tk⟩)
      exact ⟨q, ⟨q1, i, j, k, hi, hj, k1, by unfold d3; rw [dt_comm]; exact k3, q3 i hi ti, q3 j hj tj, k2⟩, q2, q3⟩
  have L1 : ∀ p, PO w σ p → ∀ i, σ i → TI w i p → ∃ q, VX w σ q ∧ dt c p ≤ dt c q ∧ ∀ i, σ i → TI w i p → TI w i q := by
    intro p hp i hi ti
    by_cases h2 : ∃ j, σ j ∧ TI w j p ∧ xs3 (w i).1 (w j).1 ≠ z3
    · obtain ⟨j, hj, tj, hx⟩ := h2
      exact L2 p hp i j hi hj ti tj hx
    · obtain ⟨u, hu, hiu⟩ := some_ort (hz i hi)
      rw [dt_comm] at hiu
      obtain ⟨q, q1, q2, q3, k, k1, k2, k3⟩ := LP_step hN hb (c := c) hp hu (fun j hj tj => by
        have : xs3 (w i).1 (w j).1 = z3 := by
          apply Classical.byContradiction
          intro hx
          exact h2 ⟨j, hj, tj, hx⟩
        exact par_dt (hz i hi) this hiu)
      obtain ⟨r, r1, r2, r3⟩ := L2 q q1 i k hi k1 (q3 i hi ti) k2 (fun hx => k3 (par_dt (hz i hi) hx hiu))
      exact ⟨r, r1, Rat.le_trans q2 r2, fun j hj tj => r3 j hj (q3 j hj tj)⟩
  by_cases h1 : ∃ i, σ i ∧ TI w i p
  · obtain ⟨i, hi, ti⟩ := h1
    exact L1 p hp i hi ti
  · have hu : ((1 : Rat), (0 : Rat), (0 : Rat)) ≠ z3 := fun e => by
      have : (1 : Rat) = 0 := congrArg (fun p => p.1) e
      grind
    obtain ⟨q, q1, q2, q3, k, k1, k2, k3⟩ := LP_step hN hb (c := c) hp hu (fun j hj tj => absurd ⟨j, hj, tj⟩ h1)
    obtain ⟨r, r1, r2, r3⟩ := L1 q q1 k k1 k2
    exact ⟨r, r1, Rat.le_trans q2 r2, fun j hj tj => r3 j hj (q3 j hj tj)⟩
/-- a little along a step that no tight wall bars -/
theorem PERT {p u : p3} (hp : PO w σ p) (hu : ∀ i, σ i → TI w i p → dt (w i).1 u ≤ 0) : ∀ N, (∀ i, σ i → i < N) → ∃ e : Rat, 0 < e ∧ PO w σ (ad p (sc e u)) := by
  have key : ∀ N, ∃ e : Rat, 0 < e ∧ ∀ i, i < N → σ i → ∀ t, 0 ≤ t → t ≤ e → dt (w i).1 (ad p (sc t u)) ≤ (w i).2 := by
    intro N
    induction N with
    | zero => exact ⟨1, by grind, fun i hi => by omega⟩
    | succ N ih =>
      obtain ⟨e, he, h⟩ := ih
      by_cases hN : σ N ∧ 0 < dt (w N).1 u
      · have hnt : dt (w N).1 p < (w N).2 := by
          have a := hp N hN.1
          have b : dt (w N).1 p ≠ (w N).2 := fun q => by
            have := hu N hN.1 q
            grind
          grind
        have hd := div_p (a := (w N).2 - dt (w N).1 p) (by grind) hN.2
        refine ⟨min e (((w N).2 - dt (w N).1 p) / dt (w N).1 u), by grind, fun i hi hσ t ht hte => ?_⟩
        by_cases e1 : i = N
        · subst e1
          rw [dt_ad, dt_sc]
          have := div_le (a := (w i).2 - dt (w i).1 p) (t := t) hN.2 (by grind)
          grind
        · exact h i (by omega) hσ t ht (by grind)
      · refine ⟨e, he, fun i hi hσ t ht hte => ?_⟩
        by_cases e1 : i = N
        · subst e1
          rw [dt_ad, dt_sc]
          have a : ¬ 0 < dt (w i).1 u := fun q => hN ⟨hσ, q⟩
          have b := r_nn ht (show 0 ≤ - dt (w i).1 u by grind)
          have := hp i hσ
          grind
        · exact h i (by omega) hσ t ht hte
  intro N hN
  obtain ⟨e, he, h⟩ := key N
  exact ⟨e, he, fun i hi => h i (hN i hi) hi e (Rat.le_of_lt he) Rat.le_refl⟩
/-- a body with three walls that span and a step without end has such a step along two of its walls -/
theorem EXT (hN : ∀ i, σ i → i < N) (hz : ∀ i, σ i → (w i).1 ≠ z3) {a b c : Nat} (ha : σ a) (hb : σ b) (hc : σ c) (hd : d3 (w a).1 (w b).1 (w c).1 ≠ 0) {v : p3} (hv : v ≠ z3) (hr : RC w σ v) : ∃ i j, σ i ∧ σ j ∧ xs3 (w i).1 (w j).1 ≠ z3 ∧ RC w σ (xs3 (w i).1 (w j).1) := by
  -- a step of the cone to a further wall
  have step : ∀ v u : p3, v ≠ z3 → RC w σ v → u ≠ z3 → dt u v = 0 → (∀ i, σ i → dt (w i).1 v = 0 → dt (w i).1 u = 0) → ∃ v', v' ≠ z3 ∧ RC w σ v' ∧ (∀ i, σ i → dt (w i).1 v = 0 → dt (w i).1 v' = 0) ∧ ∃ k, σ k ∧ dt (w k).1 v' = 0 ∧ dt (w k).1 u ≠ 0 := by
    intro v u hv hr hu huv ht
    have e : ∀ n : p3, dt n (sc (-1) u) = - dt n u := fun n => by rw [dt_sc]; grind
    have main : ∀ u : p3, u ≠ z3 → dt u v = 0 → (∀ i, σ i → dt (w i).1 v = 0 → dt (w i).1 u = 0) → (∃ i, σ i ∧ 0 < dt (w i).1 u) → ∃ v', v' ≠ z3 ∧ RC w σ v' ∧ (∀ i, σ i → dt (w i).1 v = 0 → dt (w i).1 v' = 0) ∧ ∃ k, σ k ∧ dt (w k).1 v' = 0 ∧ dt (w k).1 u ≠ 0 := by
      intro u hu huv ht hs
      have hp : PO (fun i => ((w i).1, 0)) σ v := fun i hi => hr i hi
      obtain ⟨t, k, h0, h1, h2, h3, h4⟩ := PO_go (w := fun i => ((w i).1, 0)) hN hp hs
      refine ⟨_, fun hz0 => ?_, fun i hi => h3 i hi, fun i hi h0 => by rw [dt_ad, dt_sc, h0, ht i hi h0]; grind, k, h1, h4, by
        have h2' : 0 < dt (w k).1 u := h2
        grind⟩
      have : dt v (ad v (sc t u)) = dt v v := by rw [dt_ad, dt_sc, dt_comm v u, huv]; grind
      rw [hz0, dt_z] at this
      have := dt_pos hv
      grind
    by_cases hs : ∃ i, σ i ∧ 0 < dt (w i).1 u
    · exact main u hu huv ht hs
    · have hs' : ∃ i, σ i ∧ 0 < dt (w i).1 (sc (-1) u) := by
        apply Classical.byContradiction
        intro hn
        have z : ∀ i, σ i → dt (w i).1 u = 0 := by
          intro i hi
          have a1 : ¬ 0 < dt (w i).1 u := fun q => hs ⟨i, hi, q⟩
          have a2 : ¬ 0 < dt (w i).1 (sc (-1) u) := fun q => hn ⟨i, hi, q⟩
          rw [e] at a2
          grind
        exact hu (span0 hd (z a ha) (z b hb) (z c hc))
      obtain ⟨v', b1, b2, b3, k, b4, b5, b6⟩ := main (sc (-1) u) (fun e2 => hu (p3_ext (by have : -1 * u.1 = 0 := congrArg (fun p => p.1) e2; show u.1 = 0; grind) (by have : -1 * u.2.1 = 0 := congrArg (fun p => p.2.1) e2; show u.2.1 = 0; grind) (by have : -1 * u.2.2 = 0 := congrArg (fun p => p.2.2) e2; show u.2.2 = 0; grind))) (by rw [dt_comm, e, dt_comm, huv]; grind) (fun i hi h => by rw [e, ht i hi h]; grind) hs'
      exact ⟨v', b1, b2, b3, k, b4, b5, by rw [e] at b6; grind⟩
  have L2 : ∀ v, v ≠ z3 → RC w σ v → ∀ i j, σ i → σ j → dt (w i).1 v = 0 → dt (w j).1 v = 0 → xs3 (w i).1 (w j).1 ≠ z3 → ∃ i j, σ i ∧ σ j ∧ xs3 (w i).1 (w j).1 ≠ z3 ∧ RC w σ (xs3 (w i).1 (w j).1) := by
    intro v hv hr i j hi hj ti tj hx
    -- v is so many times the cross
    have hxv : xs3 v (xs3 (w i).1 (w j).1) = z3 := by
      have f1 : xs3 v (xs3 (w i).1 (w j).1) = ad (sc (dt (w j).1 v) (w i).1) (sc (- dt (w i).1 v) (w j).1) := by
        unfold xs3 ad sc dt
        refine p3_ext ?_ ?_ ?_ <;> grind
      rw [f1, ti, tj]
      unfold ad sc z3
      refine p3_ext ?_ ?_ ?_ <;> grind
    obtain ⟨e1, e2, e3⟩ := x_par hv hxv
    have pv := dt_pos hv
    have key : ∀ n : p3, dt v v * dt n (xs3 (w i).1 (w j).1) = dt v (xs3 (w i).1 (w j).1) * dt n v := by
      intro n
      have : dt v v * dt n (xs3 (w i).1 (w j).1) = n.1 * (dt v v * (xs3 (w i).1 (w j).1).1) + n.2.1 * (dt v v * (xs3 (w i).1 (w j).1).2.1) + n.2.2 * (dt v v * (xs3 (w i).1 (w j).1).2.2) := by
        unfold dt; grind
      rw [this, e1, e2, e3]; unfold dt; grind
    by_cases hs : 0 ≤ dt v (xs3 (w i).1 (w j).1)
    · refine ⟨i, j, hi, hj, hx, fun k hk => ?_⟩
      have := key (w k).1
      have a := r_nn hs (show 0 ≤ - dt (w k).1 v by have := hr k hk; grind)
      have := r_pos pv (b := - dt (w k).1 (xs3 (w i).1 (w j).1)) (by grind)
      grind
    · have fl : ∀ n : p3, dt n (xs3 (w j).1 (w i).1) = - dt n (xs3 (w i).1 (w j).1) := fun n => by unfold dt xs3; grind
      refine ⟨j, i, hj, hi, fun hz0 => hx (p3_ext ?_ ?_ ?_), fun k hk => ?_⟩
      · have : (w j).1.2.1 * (w i).1.2.2 - (w j).1.2.2 * (w i).1.2.1 = 0 := congrArg (fun p => p.1) hz0
        show (w i).1.2.1 * (w j).1.2.2 - (w i).1.2.2 * (w j).1.2.1 = 0
        grind
      · have : (w j).1.2.2 * (w i).1.1 - (w j).1.1 * (w i).1.2.2 = 0 := congrArg (fun p => p.2.1) hz0
        show (w i).1.2.2 * (w j).1.1 - (w i).1.1 * (w j).1.2.2 = 0
        grind
      · have : (w j).1.1 * (w i).1.2.1 - (w j).1.2.1 * (w i).1.1 = 0 := congrArg (fun p => p.2.2) hz0
        show (w i).1.1 * (w j).1.2.1 - (w i).1.2.1 * (w j).1.1 = 0
        grind
      · rw [fl]
        have := key (w k).1
        have a := r_nn (show 0 ≤ - dt v (xs3 (w i).1 (w j).1) by grind) (show 0 ≤ - dt (w k).1 v by have := hr k hk; grind)
        have := r_pos pv (b := dt (w k).1 (xs3 (w i).1 (w j).1)) (by grind)
        grind
  have L1 : ∀ v, v ≠ z3 → RC w σ v → ∀ i, σ i → dt (w i).1 v = 0 → ∃ i j, σ i ∧ σ j ∧ xs3 (w i).1 (w j).1 ≠ z3 ∧ RC w σ (xs3 (w i).1 (w j).1) := by
    intro v hv hr i hi ti
    by_cases h2 : ∃ j, σ j ∧ dt (w j).1 v = 0 ∧ xs3 (w i).1 (w j).1 ≠ z3
    · obtain ⟨j, hj, tj, hx⟩ := h2
      exact L2 v hv hr i j hi hj ti tj hx
    · obtain ⟨v', b1, b2, b3, k, b4, b5, b6⟩ := step v (xs3 (w i).1 v) hv hr (x_ne (hz i hi) hv ti) (by rw [dt_comm]; exact dt_x2 _ _) (fun j hj tj => by
        have : xs3 (w i).1 (w j).1 = z3 := by
          apply Classical.byContradiction
          intro hx
          exact h2 ⟨j, hj, tj, hx⟩
        exact par_dt (hz i hi) this (dt_x1 _ _))
      exact L2 v' b1 b2 i k hi b4 (b3 i hi ti) b5 (fun hx => b6 (par_dt (hz i hi) hx (dt_x1 _ _)))
  by_cases h1 : ∃ i, σ i ∧ dt (w i).1 v = 0
  · obtain ⟨i, hi, ti⟩ := h1
    exact L1 v hv hr i hi ti
  · obtain ⟨u, hu, huv⟩ := some_ort hv
    obtain ⟨v', b1, b2, b3, k, b4, b5, b6⟩ := step v u hv hr hu huv (fun j hj tj => absurd ⟨j, hj, tj⟩ h1)
    exact L1 v' b1 b2 k b4 b5
end BD
