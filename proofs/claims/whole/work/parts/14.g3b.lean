/-! ===== space: what the class and the reference ask in other words ===== -/
section BD2
variable {w : wl} {σ : Nat → Prop} {s : Nat}
def cEnd (w : wl) (s : Nat) (σ : Nat → Prop) : Prop := ∃ i j, i < s ∧ j < s ∧ xs3 (w i).1 (w j).1 ≠ z3 ∧ RC w σ (xs3 (w i).1 (w j).1)
def mEnd (w : wl) (σ : Nat → Prop) : Prop := ∃ i j, σ i ∧ σ j ∧ xs3 (w i).1 (w j).1 ≠ z3 ∧ RC w σ (xs3 (w i).1 (w j).1)
def Snd (w : wl) (σ : Nat → Prop) : Prop := (∃ p, VX w σ p) ∧ ¬ mEnd w σ
theorem end_iff (hN : ∀ i, σ i → i < s) (hz : ∀ i, σ i → (w i).1 ≠ z3) (h : ∃ p, VX w σ p) : cEnd w s σ ↔ mEnd w σ := by
  constructor
  · rintro ⟨i, j, hi, hj, hx, hr⟩
    obtain ⟨p, hp, a, b, c, ha, hb, hc, hd, -⟩ := h
    exact EXT hN hz ha hb hc hd hx hr
  · rintro ⟨i, j, hi, hj, hx, hr⟩
    exact ⟨i, j, hN i hi, hN j hj, hx, hr⟩
theorem Snd_iff (hN : ∀ i, σ i → i < s) (hz : ∀ i, σ i → (w i).1 ≠ z3) : Snd w σ ↔ (∃ p, VX w σ p) ∧ ¬ cEnd w s σ := by
  constructor
  · rintro ⟨a, b⟩
    exact ⟨a, fun q => b ((end_iff hN hz a).mp q)⟩
  · rintro ⟨a, b⟩
    exact ⟨a, fun q => b ((end_iff hN hz a).mpr q)⟩
theorem bdd_of (hN : ∀ i, σ i → i < s) (hz : ∀ i, σ i → (w i).1 ≠ z3) {a b c : Nat} (ha : σ a) (hb : σ b) (hc : σ c) (hd : d3 (w a).1 (w b).1 (w c).1 ≠ 0) (he : ¬ mEnd w σ) : ∀ v, RC w σ v → v = z3 := by
  intro v hr
  apply Classical.byContradiction
  intro hv
  exact he (EXT hN hz ha hb hc hd hv hr)
theorem Snd_bdd (hN : ∀ i, σ i → i < s) (hz : ∀ i, σ i → (w i).1 ≠ z3) (h : Snd w σ) : ∀ v, RC w σ v → v = z3 := by
  obtain ⟨⟨p, hp, a, b, c, ha, hb, hc, hd, -⟩, he⟩ := h
  exact bdd_of hN hz ha hb hc hd he
theorem dt_neg (u v : p3) : dt u (sc (-1) v) = - dt u v := by rw [dt_sc]; grind
theorem sc_ne {v : p3} (h : v ≠ z3) : sc (-1) v ≠ z3 := fun e => h (p3_ext (by have : -1 * v.1 = 0 := congrArg (fun p => p.1) e; show v.1 = 0; grind) (by have : -1 * v.2.1 = 0 := congrArg (fun p => p.2.1) e; show v.2.1 = 0; grind) (by have : -1 * v.2.2 = 0 := congrArg (fun p => p.2.2) e; show v.2.2 = 0; grind))
theorem d3_perm (a b c : p3) : d3 a b c = d3 b c a ∧ d3 a b c = d3 c a b := by unfold d3 dt xs3; constructor <;> grind
/-- without the wall k: three that span with k leave two that cross -/
theorem idle_iff (hN : ∀ i, σ i → i < s) (hz : ∀ i, σ i → (w i).1 ≠ z3) (h : Snd w σ) {k : Nat} (hk : σ k) :
    (¬ cEnd w s (fun i => σ i ∧ i ≠ k) ∧ ∀ p, VX w (fun i => σ i ∧ i ≠ k) p → dt (w k).1 p ≤ (w k).2) ↔ (Snd w (fun i => σ i ∧ i ≠ k) ∧ ∀ p, VX w (fun i => σ i ∧ i ≠ k) p ↔ VX w σ p) := by
  have hN' : ∀ i, (σ i ∧ i ≠ k) → i < s := fun i hi => hN i hi.1
  have hz' : ∀ i, (σ i ∧ i ≠ k) → (w i).1 ≠ z3 := fun i hi => hz i hi.1
  constructor
  · rintro ⟨hce, hin⟩
    -- the others span
    have hspan : ∃ a b c, (σ a ∧ a ≠ k) ∧ (σ b ∧ b ≠ k) ∧ (σ c ∧ c ≠ k) ∧ d3 (w a).1 (w b).1 (w c).1 ≠ 0 := by
      apply Classical.byContradiction
      intro hno
      obtain ⟨⟨p, hp, a, b, c, ha, hb, hc, hd, -⟩, -⟩ := h
      have two : ∀ i j, σ i → σ j → i ≠ k → j ≠ k → xs3 (w i).1 (w j).1 ≠ z3 → False := by
        intro i j hi hj ik jk hx
        refine hce ⟨i, j, hN i hi, hN j hj, hx, fun l hl => ?_⟩
        have : d3 (w i).1 (w j).1 (w l).1 = 0 := by
          apply Classical.byContradiction
          intro q
          exact hno ⟨i, j, l, ⟨hi, ik⟩, ⟨hj, jk⟩, hl, q⟩
        unfold d3 at this
        rw [dt_comm] at this
        rw [this]; exact Rat.le_refl
      have nx : ∀ i j l : Nat, d3 (w i).1 (w j).1 (w l).1 ≠ 0 → xs3 (w i).1 (w j).1 ≠ z3 := by
        intro i j l hd hx
        apply hd
        unfold d3; rw [hx]; unfold dt z3; grind
      by_cases ak : a = k
      · by_cases bk : b = k
        · apply hd; rw [ak, bk]; unfold d3 dt xs3; grind
        · by_cases ck : c = k
          · apply hd; rw [ak, ck]; unfold d3 dt xs3; grind
          · exact two b c hb hc bk ck (nx b c a (by rw [← (d3_perm _ _ _).1]; exact hd))
      · by_cases bk : b = k
        · by_cases ck : c = k
          · apply hd; rw [bk, ck]; unfold d3 dt xs3; grind
          · exact two c a hc ha ck ak (nx c a b (by rw [← (d3_perm _ _ _).2]; exact hd))
        · by_cases ck : c = k
          · exact two a b ha hb ak bk (nx a b c hd)
          · exact hno ⟨a, b, c, ⟨ha, ak⟩, ⟨hb, bk⟩, ⟨hc, ck⟩, hd⟩
    obtain ⟨a, b, c, ha, hb, hc, hd⟩ := hspan
    have hme : ¬ mEnd w (fun i => σ i ∧ i ≠ k) := fun ⟨i, j, hi, hj, hx, hr⟩ => hce ⟨i, j, hN' i hi, hN' j hj, hx, hr⟩
    have hbd := bdd_of hN' hz' ha hb hc hd hme
    have hsub : ∀ p, PO w σ p → PO w (fun i => σ i ∧ i ≠ k) p := fun p hp i hi => hp i hi.1
    have hv1 : ∀ p, VX w (fun i => σ i ∧ i ≠ k) p → VX w σ p := by
      rintro p ⟨hp, a, b, c, ha, hb, hc, hd, t1, t2, t3⟩
      refine ⟨fun i hi => ?_, a, b, c, ha.1, hb.1, hc.1, hd, t1, t2, t3⟩
      by_cases e : i = k
      · rw [e]; exact hin p ⟨hp, a, b, c, ha, hb, hc, hd, t1, t2, t3⟩
      · exact hp i ⟨hi, e⟩
    have hv2 : ∀ p, VX w σ p → VX w (fun i => σ i ∧ i ≠ k) p := by
      intro p hp
      apply Classical.byContradiction
      intro hno
      have hno3 : ¬ T3 w (fun i => σ i ∧ i ≠ k) p := fun q => hno ⟨hsub p hp.1, q⟩
      -- two others that cross, tight at p, and k across
      have hcr : ∃ i j, (σ i ∧ i ≠ k) ∧ (σ j ∧ j ≠ k) ∧ TI w i p ∧ TI w j p ∧ TI w k p ∧ d3 (w i).1 (w j).1 (w k).1 ≠ 0 := by
        obtain ⟨-, a, b, c, ha, hb, hc, hd, t1, t2, t3⟩ := hp
        by_cases ak : a = k
        · by_cases bk : b = k
          · exfalso; apply hd; rw [ak, bk]; unfold d3 dt xs3; grind
          · by_cases ck : c = k
            · exfalso; apply hd; rw [ak, ck]; unfold d3 dt xs3; grind
            · exact ⟨b, c, ⟨hb, bk⟩, ⟨hc, ck⟩, t2, t3, ak ▸ t1, by rw [← ak, ← (d3_perm _ _ _).1]; exact hd⟩
        · by_cases bk : b = k
          · by_cases ck : c = k
            · exfalso; apply hd; rw [bk, ck]; unfold d3 dt xs3; grind
            · exact ⟨c, a, ⟨hc, ck⟩, ⟨ha, ak⟩, t3, t1, bk ▸ t2, by rw [← bk, ← (d3_perm _ _ _).2]; exact hd⟩
          · by_cases ck : c = k
            · exact ⟨a, b, ⟨ha, ak⟩, ⟨hb, bk⟩, t1, t2, ck ▸ t3, by rw [← ck]; exact hd⟩
            · exact absurd ⟨a, b, c, ⟨ha, ak⟩, ⟨hb, bk⟩, ⟨hc, ck⟩, hd, t1, t2, t3⟩ hno3
      obtain ⟨i, j, hi, hj, ti, tj, tk, hd⟩ := hcr
      have main : ∀ u : p3, (∀ l, (σ l ∧ l ≠ k) → TI w l p → dt (w l).1 u = 0) → 0 < dt (w k).1 u → False := by
        intro u hu hku
        obtain ⟨e, he, hpe⟩ := PERT (hsub p hp.1) (fun l hl tl => by rw [hu l hl tl]; exact Rat.le_refl) s hN'
        obtain ⟨q, q1, q2, -⟩ := LPv hN' hz' hbd (w k).1 hpe
        rw [dt_ad, dt_sc] at q2
        have a1 := r_pp he hku
        have a2 := hin q q1
        have a3 : dt (w k).1 p = (w k).2 := tk
        grind
      have ort : ∀ l, (σ l ∧ l ≠ k) → TI w l p → dt (w l).1 (xs3 (w i).1 (w j).1) = 0 := by
        intro l hl tl
        apply Classical.byContradiction
        intro q
        exact hno3 ⟨i, j, l, hi, hj, hl, by unfold d3; rw [dt_comm]; exact q, ti, tj, tl⟩
      unfold d3 at hd
      rw [dt_comm] at hd
      by_cases pos : 0 < dt (w k).1 (xs3 (w i).1 (w j).1)
      · exact main _ ort pos
      · exact main (sc (-1) (xs3 (w i).1 (w j).1)) (fun l hl tl => by rw [dt_neg, ort l hl tl]; grind) (by rw [dt_neg]; grind)
    refine ⟨⟨?_, hme⟩, fun p => ⟨hv1 p, hv2 p⟩⟩
    obtain ⟨⟨p, hp⟩, -⟩ := h
    exact ⟨p, hv2 p hp⟩
  · rintro ⟨hs, hv⟩
    refine ⟨fun q => hs.2 ((end_iff hN' hz' hs.1).mp q), fun p hp => ?_⟩
    exact ((hv p).mp hp).1 k hk
def md (p q : p3) : p3 := sc (1 / 2) (ad p q)
theorem dt_md (n p q : p3) : dt n (md p q) = (dt n p + dt n q) / 2 := by unfold md; rw [dt_sc, dt_ad]; grind
theorem md_PO {p q : p3} (hp : PO w σ p) (hq : PO w σ q) : PO w σ (md p q) := by
  intro i hi
  rw [dt_md]
  have := hp i hi
  have := hq i hi
  grind
theorem md_TI {p q : p3} (hp : PO w σ p) (hq : PO w σ q) {i : Nat} (hi : σ i) : TI w i (md p q) ↔ TI w i p ∧ TI w i q := by
  unfold TI
  rw [dt_md]
  have := hp i hi
  have := hq i hi
  constructor
  · intro h; constructor <;> grind
  · rintro ⟨h1, h2⟩; grind
/-- two vertices alone on what is tight at both: two of these walls cross -/
theorem rim_two (hN : ∀ i, σ i → i < s) (hz : ∀ i, σ i → (w i).1 ≠ z3) (h : Snd w σ) {p q : p3} (hp : VX w σ p) (hq : VX w σ q) (hpq : p ≠ q)
    (hal : ∀ r, VX w σ r → r ≠ p → r ≠ q → ¬ ∀ i, σ i → TI w i p → TI w i q → TI w i r) : ∃ i j, σ i ∧ σ j ∧ TI w i p ∧ TI w i q ∧ TI w j p ∧ TI w j q ∧ xs3 (w i).1 (w j).1 ≠ z3 := by
  apply Classical.byContradiction
  intro hno
  have hbd := Snd_bdd hN hz h
  have he : ad q (sc (-1) p) ≠ z3 := fun e => hpq (p3_ext
    (by have : q.1 + -1 * p.1 = 0 := congrArg (fun p => p.1) e; grind)
    (by have : q.2.1 + -1 * p.2.1 = 0 := congrArg (fun p => p.2.1) e; grind)
    (by have : q.2.2 + -1 * p.2.2 = 0 := congrArg (fun p => p.2.2) e; grind))
  have hu : ∃ u : p3, u ≠ z3 ∧ dt u (ad q (sc (-1) p)) = 0 ∧ ∀ i, σ i → TI w i p → TI w i q → dt (w i).1 u = 0 := by
    by_cases hT : ∃ i, σ i ∧ TI w i p ∧ TI w i q
    · obtain ⟨i, hi, tp, tq⟩ := hT
      have h0 : dt (w i).1 (ad q (sc (-1) p)) = 0 := by
        unfold TI at tp tq
        rw [dt_ad, dt_neg, tp, tq]; grind
      refine ⟨xs3 (w i).1 (ad q (sc (-1) p)), x_ne (hz i hi) he h0, by rw [dt_comm]; exact dt_x2 _ _, fun j hj jp jq => ?_⟩
      have hx : xs3 (w i).1 (w j).1 = z3 := by
        apply Classical.byContradiction
        intro hx
        exact hno ⟨i, j, hi, hj, tp, tq, jp, jq, hx⟩
      exact par_dt (hz i hi) hx (dt_x1 _ _)
    · obtain ⟨u, u1, u2⟩ := some_ort he
      exact ⟨u, u1, u2, fun i hi tp tq => absurd ⟨i, hi, tp, tq⟩ hT⟩
  obtain ⟨u, u1, u2, u3⟩ := hu
  have hm := md_PO hp.1 hq.1
  obtain ⟨e, he0, hpe⟩ := PERT hm (u := u) (fun i hi ti => by
    obtain ⟨a, b⟩ := (md_TI hp.1 hq.1 hi).mp ti
    rw [u3 i hi a b]; exact Rat.le_refl) s hN
  obtain ⟨r, r1, r2, r3⟩ := LPv hN hz hbd u hpe
  rw [dt_ad, dt_sc, dt_md] at r2
  rw [dt_ad, dt_neg] at u2
  have a1 := r_pp he0 (dt_pos u1)
  refine hal r r1 (fun e1 => ?_) (fun e1 => ?_) (fun i hi tp tq => ?_)
  · rw [e1] at r2; grind
  · rw [e1] at r2; grind
  · refine r3 i hi ?_
    have := (md_TI hp.1 hq.1 hi).mpr ⟨tp, tq⟩
    unfold TI at *
    rw [dt_ad, dt_sc, u3 i hi tp tq, this]; grind
/-- the wall of a shadow's edge is that of an upright wall, or lies along two that cross -/
theorem edge_two (hN : ∀ i, σ i → i < s) (hz : ∀ i, σ i → (w i).1 ≠ z3) (h : Snd w σ) {p q : p3} (hp : VX w σ p) (hq : VX w σ q) {A B C : Rat} (hAB : ¬ (A = 0 ∧ B = 0))
    (hall : ∀ r, VX w σ r → A * r.1 + B * r.2.1 ≤ C) (ep : A * p.1 + B * p.2.1 = C) (eq : A * q.1 + B * q.2.1 = C) :
    (∃ i, σ i ∧ TI w i p ∧ TI w i q ∧ (w i).1.2.2 = 0) ∨ ∃ i j, σ i ∧ σ j ∧ TI w i p ∧ TI w i q ∧ TI w j p ∧ TI w j q ∧ ¬ ((w j).1.2.2 * (w i).1.1 - (w i).1.2.2 * (w j).1.1 = 0 ∧ (w j).1.2.2 * (w i).1.2.1 - (w i).1.2.2 * (w j).1.2.1 = 0) := by
  have hbd := Snd_bdd hN hz h
  have hm := md_PO hp.1 hq.1
  have cf : ∀ r : p3, dt (A, B, 0) r = A * r.1 + B * r.2.1 := fun r => by unfold dt; grind
  -- no step along the common walls leads out
  have out : ∀ u : p3, (∀ i, σ i → TI w i p → TI w i q → dt (w i).1 u = 0) → 0 < A * u.1 + B * u.2.1 → False := by
    intro u hu hpos
    obtain ⟨e, he0, hpe⟩ := PERT hm (u := u) (fun i hi ti => by
      obtain ⟨a, b⟩ := (md_TI hp.1 hq.1 hi).mp ti
      rw [hu i hi a b]; exact Rat.le_refl) s hN
    obtain ⟨r, r1, r2, -⟩ := LPv hN hz hbd (A, B, 0) hpe
    rw [dt_ad, dt_sc, dt_md, cf, cf, cf, cf, ep, eq] at r2
    have a1 := r_pp he0 hpos
    have a2 := hall r r1
    grind
  have pAB : 0 < A * A + B * B := by
    have a1 := r_sq A
    have a2 := r_sq B
    apply Classical.byContradiction
    intro hn
    exact hAB ⟨r_sq0 (by grind), r_sq0 (by grind)⟩
  by_cases hT : ∃ i, σ i ∧ TI w i p ∧ TI w i q
  · obtain ⟨i, hi, tp, tq⟩ := hT
    by_cases hc : (w i).1.2.2 = 0
    · exact Or.inl ⟨i, hi, tp, tq, hc⟩
    · by_cases h2 : ∃ j, σ j ∧ TI w j p ∧ TI w j q ∧ xs3 (w i).1 (w j).1 ≠ z3
      · obtain ⟨j, hj, jp, jq, hx⟩ := h2
        refine Or.inr ⟨i, j, hi, hj, tp, tq, jp, jq, ?_⟩
        rintro ⟨e1, e2⟩
        refine hx (p3_ext ?_ ?_ ?_)
        · show (w i).1.2.1 * (w j).1.2.2 - (w i).1.2.2 * (w j).1.2.1 = 0
          grind
        · show (w i).1.2.2 * (w j).1.1 - (w i).1.1 * (w j).1.2.2 = 0
          grind
        · show (w i).1.1 * (w j).1.2.1 - (w i).1.2.1 * (w j).1.1 = 0
          refine r_zero hc ?_
          grind
      · exfalso
        refine out (A, B, -(((w i).1.1 * A + (w i).1.2.1 * B) / (w i).1.2.2)) (fun j hj jp jq => ?_) pAB
        have hx : xs3 (w i).1 (w j).1 = z3 := by
          apply Classical.byContradiction
          intro hx
          exact h2 ⟨j, hj, jp, jq, hx⟩
        refine par_dt (hz i hi) hx ?_
        show (w i).1.1 * A + (w i).1.2.1 * B + (w i).1.2.2 * (-(((w i).1.1 * A + (w i).1.2.1 * B) / (w i).1.2.2)) = 0
        have : (w i).1.2.2 * (((w i).1.1 * A + (w i).1.2.1 * B) / (w i).1.2.2) = (w i).1.1 * A + (w i).1.2.1 * B := by
          rw [Rat.mul_comm, Rat.div_mul_cancel hc]
        grind
  · exfalso
    exact out (A, B, 0) (fun i hi tp tq => absurd ⟨i, hi, tp, tq⟩ hT) pAB
end BD2
