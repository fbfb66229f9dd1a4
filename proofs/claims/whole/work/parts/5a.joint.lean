/-! ===== the two objects side by side ===== -/
def XR (M : av_M) : Prop := M 35 0 = M 1 3 ∧ (∀ j, 0 ≤ j → j < M 1 3 → M 36 j = M 2 j ∧ M 37 j = M 3 j) ∧ (M 35 19 = M 9 2 ∧ M 35 20 = M 9 3) ∧ (∀ j, 0 ≤ j → j < 96 → M 50 j = M 10 j ∧ M 51 j = M 11 j) ∧ M 35 23 = M 13 4 ∧ (∀ j, 0 ≤ j → j < M 13 4 → rA M j = M 14 j ∧ rB M j = M 15 j ∧ rC M j = M 16 j ∧ rD M j = M 17 j) ∧ ONm M (M 13 5)
def JR (M : av_M) : Prop := CI M ∧ RPm M ∧ RTm M ∧ RWm M ∧ RCm M ∧ XR M
theorem CHW_35 {M M' : av_M} (e : ∀ k, k < 33 → M' k = M k) (c : Int) : CHW M' c ↔ CHW M c := by
  unfold CHW CHS PS SHW HH cc p2
  rw [e 4 (by decide), e 5 (by decide), e 6 (by decide), e 7 (by decide), e 8 (by decide), e 13 (by decide), e 18 (by decide), e 19 (by decide), e 20 (by decide), e 22 (by decide), e 23 (by decide), e 24 (by decide), e 26 (by decide)]
theorem CI_35 {M M' : av_M} (h : CI M) (e : ∀ k, k < 35 → M' k = M k) : CI M' := by
  refine ⟨PTm_congr h.1 (fun k a b => e k (by omega)), TBm_congr h.2.1 (fun k a b => e k (by omega)), BI_congr h.2.2.1 (fun k a b => e k (by omega)), ?_⟩
  have c := h.2.2.2
  unfold CAm at c ⊢
  rw [e 33 (by decide)]
  rcases c with c | ⟨c, q⟩
  · exact Or.inl c
  · exact Or.inr ⟨c, (CHW_35 (fun k a => e k (by omega)) _).mpr q⟩
theorem XR_k {M M' : av_M} (h : XR M) (e : ∀ k, k < 35 → M' k = M k) (f : ∀ f : Int, f = 0 ∨ f = 19 ∨ f = 20 ∨ f = 23 → M' 35 f = M 35 f) (g : ∀ k, k = 36 ∨ k = 37 ∨ k = 50 ∨ k = 51 ∨ k = 52 ∨ k = 53 → M' k = M k) : XR M' := by
  unfold XR ONm rA rB rC rD at h ⊢
  rw [f 0 (by omega), f 19 (by omega), f 20 (by omega), f 23 (by omega), g 36 (by omega), g 37 (by omega), g 50 (by omega), g 51 (by omega), g 52 (by omega), g 53 (by omega), e 1 (by decide), e 2 (by decide), e 3 (by decide), e 9 (by decide), e 10 (by decide), e 11 (by decide), e 13 (by decide), e 14 (by decide), e 15 (by decide), e 16 (by decide), e 17 (by decide)]
  exact h
theorem JR_c {M M' : av_M} (h : JR M) (q : RQc M M') : JR M' := by
  obtain ⟨h1, h2, h3, h4, h5, h6⟩ := h
  obtain ⟨q1, q2, q3, q4⟩ := q
  refine ⟨CI_35 h1 q1, ?_, ?_, RWm_congr h4 ⟨q2 23 (by omega), q3 52 (by omega), q3 53 (by omega)⟩, q4, XR_k h6 q1 q2 q3⟩
  · unfold RPm
    rw [q2 0 (by omega), q3 36 (by omega), q3 37 (by omega)]
    exact h2
  · unfold RTm
    rw [q2 19 (by omega), q2 20 (by omega), q3 50 (by omega), q3 51 (by omega)]
    exact h3
theorem JR_q {M M' : av_M} (h : JR M) (q : RQ M M') : JR M' := JR_c h (q.c h.2.2.2.2.1)
/-- the class's cells moved to a state as good: same points, tables, walls -/
theorem JR_k {M M' : av_M} (h : JR M) (hC : CI M') (a : KP M M') (b : KT M M') (c : KW M M') (d : KR M M') : JR M' := by
  obtain ⟨h1, h2, h3, h4, h5, h6⟩ := h
  have e35 : M' 35 = M 35 := d 35 (by decide)
  have eg : ∀ k, 35 ≤ k → M' k = M k := fun k q => d k (by omega)
  refine ⟨hC, ?_, ?_, RWm_congr h4 ⟨by rw [e35], eg 52 (by decide), eg 53 (by decide)⟩, ?_, ?_⟩
  · unfold RPm; rw [e35, eg 36 (by decide), eg 37 (by decide)]; exact h2
  · unfold RTm; rw [e35, eg 50 (by decide), eg 51 (by decide)]; exact h3
  · unfold RCm; rw [eg 45 (by decide), eg 46 (by decide)]; exact h5
  · unfold XR ONm rA rB rC rD at h6 ⊢
    rw [e35, eg 36 (by decide), eg 37 (by decide), eg 50 (by decide), eg 51 (by decide), eg 52 (by decide), eg 53 (by decide), a.1, a.2.1, a.2.2, b.1, b.2.1, b.2.2.1, b.2.2.2, c 13 (by decide) (by decide), c 14 (by decide) (by decide), c 15 (by decide) (by decide), c 16 (by decide) (by decide), c 17 (by decide) (by decide)]
    exact h6
def PRq (E : av_E) (m7 m8 : av_mi) (as : List av_V) (M : av_M) (W : av_V → Prop) : Prop := ∃ Q7, av_Mt E 8 m7 (vR 0 :: as) M Q7 ∧ ∀ r M', Q7 r M' → ∃ Q8, av_Mt E 8 m8 (vR 35 :: as) M' Q8 ∧ ∀ r' M'', Q8 r' M'' → r' = r ∧ (∃ v, r = some v ∧ W v) ∧ JR M''
def isI (v : av_V) : Prop := ∃ z, v = vI z
def isL (v : av_V) : Prop := ∃ z, v = vL z
theorem pr_ex {E : av_E} {m7 m8 : av_mi} {as : List av_V} {M : av_M} {R7 R8 : Int} (hJ : JR M) (h7 : av_Mt E 8 m7 (vR 0 :: as) M (av_X (some (vI R7)) M)) (h8 : av_Mt E 8 m8 (vR 35 :: as) M (fun res M' => res = some (vI R8) ∧ RQ M M')) (e : R8 = R7) : PRq E m7 m8 as M isI := by
  refine ⟨_, h7, fun r M' h => ?_⟩
  obtain ⟨rfl, rfl⟩ := h
  refine ⟨_, h8, fun r' M'' g => ?_⟩
  obtain ⟨g1, g2⟩ := g
  exact ⟨by rw [g1, e], ⟨_, rfl, _, rfl⟩, JR_q hJ g2⟩
theorem pr_exc {E : av_E} {m7 m8 : av_mi} {as : List av_V} {M : av_M} {R7 R8 : Int} (hJ : JR M) (h7 : av_Mt E 8 m7 (vR 0 :: as) M (av_X (some (vI R7)) M)) (h8 : av_Mt E 8 m8 (vR 35 :: as) M (fun res M' => res = some (vI R8) ∧ RQc M M')) (e : R8 = R7) : PRq E m7 m8 as M isI := by
  refine ⟨_, h7, fun r M' h => ?_⟩
  obtain ⟨rfl, rfl⟩ := h
  refine ⟨_, h8, fun r' M'' g => ?_⟩
  obtain ⟨g1, g2⟩ := g
  exact ⟨by rw [g1, e], ⟨_, rfl, _, rfl⟩, JR_c hJ g2⟩
theorem pr_exL {E : av_E} {m7 m8 : av_mi} {as : List av_V} {M : av_M} {R7 R8 : Int} (hJ : JR M) (h7 : av_Mt E 8 m7 (vR 0 :: as) M (av_X (some (vL R7)) M)) (h8 : av_Mt E 8 m8 (vR 35 :: as) M (fun res M' => res = some (vL R8) ∧ RQ M M')) (e : R8 = R7) : PRq E m7 m8 as M isL := by
  refine ⟨_, h7, fun r M' h => ?_⟩
  obtain ⟨rfl, rfl⟩ := h
  refine ⟨_, h8, fun r' M'' g => ?_⟩
  obtain ⟨g1, g2⟩ := g
  exact ⟨by rw [g1, e], ⟨_, rfl, _, rfl⟩, JR_q hJ g2⟩
theorem pr_exX {E : av_E} {m7 m8 : av_mi} {as : List av_V} {M : av_M} {R7 R8 : Int} (hJ : JR M) (h7 : av_Mt E 8 m7 (vR 0 :: as) M (av_X (some (vI R7)) M)) (h8 : av_Mt E 8 m8 (vR 35 :: as) M (av_X (some (vI R8)) M)) (e : R8 = R7) : PRq E m7 m8 as M isI := by
  refine ⟨_, h7, fun r M' h => ?_⟩
  obtain ⟨rfl, rfl⟩ := h
  refine ⟨_, h8, fun r' M'' g => ?_⟩
  obtain ⟨g1, g2⟩ := g
  exact ⟨by rw [g1, e], ⟨_, rfl, _, rfl⟩, by rw [g2]; exact hJ⟩
/-- the general case: what the class answers (P7), what the reference answers then (P8) -/
theorem pr_gen {E : av_E} {m7 m8 : av_mi} {as : List av_V} {M : av_M} {W : av_V → Prop} {P7 P8 : Option av_V → Prop} (hJ : JR M) (h7 : av_Mt E 8 m7 (vR 0 :: as) M (fun res M' => P7 res ∧ M' = M)) (h8 : av_Mt E 8 m8 (vR 35 :: as) M (fun res M' => P8 res ∧ RQ M M')) (e : ∀ r r', P7 r → P8 r' → r' = r ∧ ∃ v, r = some v ∧ W v) : PRq E m7 m8 as M W := by
  refine ⟨_, h7, fun r M' h => ?_⟩
  obtain ⟨h1, h2⟩ := h
  rw [h2]
  refine ⟨_, h8, fun r' M'' g => ?_⟩
  obtain ⟨g1, g2⟩ := g
  exact ⟨(e r r' h1 g1).1, (e r r' h1 g1).2, JR_q hJ g2⟩
theorem Hull_card {f : Int → pt} {a b : Int} {m : Nat} {c : Nat → pt} (H : Hull (RS f a b) m c) : (m : Int) ≤ b - a := by
  have h0 : a < b := by
    obtain ⟨k, k0, k1, _⟩ := H.2.1 0 H.1
    omega
  obtain ⟨h, c', H', hle⟩ := RS_hull (f := f) h0
  have := (Hull_un H H').1
  omega
theorem FS_RS (n : Int) (px py : Int → Int) : FS n px py = RS (fun j => P2 (px j) (py j) 1) 0 n := rfl
theorem FGc {M : av_M} (h : JR M) : FG (M 35 0) (M 36) (M 37) (M 4 5) (fun k => M 5 (M 8 k)) (fun k => M 6 (M 8 k)) := by
  obtain ⟨hC, hP, _, _, _, x0, x1, _⟩ := h
  obtain ⟨p1, p2, hF⟩ := hC.1
  have hb := FO_fb hF
  obtain ⟨hO, h12, hW⟩ := hF
  obtain ⟨hE, h0, hz, hR, hH⟩ := hO
  have eS : FS (M 35 0) (M 36) (M 37) = FS (M 1 3) (M 2) (M 3) := by
    rw [x0]
    exact FS_congr (fun j j0 j1 => x1 j j0 j1)
  have hn : 0 < M 1 3 → 0 < M 4 4 := fun q => by
    obtain ⟨i, hi, _⟩ := (hE.2.2.2 (P2 (M 2 0) (M 3 0) 1)).mp ⟨0, by omega, q, rfl⟩
    omega
  have hn2 : M 1 3 = 0 → M 4 4 = 0 := fun q => by
    have e0 := hE.1
    apply Classical.byContradiction
    intro z
    obtain ⟨j, j0, j1, _⟩ := OE_in hE (j := 0) (by omega) (by omega)
    omega
  have HH : 0 < M 1 3 → Hull (FS (M 1 3) (M 2) (M 3)) (M 4 5).toNat (fun i : Nat => P2 (M 5 (M 8 (i : Int))) (M 6 (M 8 (i : Int))) 1) := fun q => by
    refine Hull_congr (hH (hn q)) (fun i hi => ?_)
    obtain ⟨r0, r1⟩ := hR (i : Int) (by omega) (by omega)
    unfold cn
    rw [(hW _ r0 r1).2.2]
  unfold FG
  rw [eS, x0]
  refine ⟨p1.1, h0, ?_, fun q => hz (hn2 q), HH⟩
  by_cases q : 0 < M 1 3
  · have := Hull_card (f := fun j => P2 (M 2 j) (M 3 j) 1) (a := 0) (b := M 1 3) (HH q)
    omega
  · have := hz (hn2 (by omega))
    omega
theorem VX_w {w w' : wl} {σ : Nat → Prop} (e : ∀ i, σ i → w i = w' i) (p : p3) : VX w σ p ↔ VX w' σ p := by
  have key : ∀ {w w' : wl}, (∀ i, σ i → w i = w' i) → VX w σ p → VX w' σ p := by
    rintro w w' e ⟨h1, i, j, k, si, sj, sk, hd, t1, t2, t3⟩
    refine ⟨fun i si => ?_, i, j, k, si, sj, sk, ?_, ?_, ?_, ?_⟩
    · rw [← e i si]; exact h1 i si
    · rw [← e i si, ← e j sj, ← e k sk]; exact hd
    · unfold TI at t1 ⊢; rw [← e i si]; exact t1
    · unfold TI at t2 ⊢; rw [← e j sj]; exact t2
    · unfold TI at t3 ⊢; rw [← e k sk]; exact t3
  exact ⟨key e, key (fun i si => (e i si).symm)⟩
theorem VX_f {w w' : wl} {σ : Nat → Prop} (e : ∀ i, σ i → w i = w' i) : VX w σ = VX w' σ := by
  funext p
  exact propext (VX_w e p)
theorem mEnd_w {w w' : wl} {σ : Nat → Prop} (e : ∀ i, σ i → w i = w' i) : mEnd w σ → mEnd w' σ := by
  rintro ⟨i, j, si, sj, hx, hr⟩
  refine ⟨i, j, si, sj, ?_, fun t st => ?_⟩
  · rw [← e i si, ← e j sj]; exact hx
  · rw [← e i si, ← e j sj, ← e t st]; exact hr t st
theorem Snd_w {w w' : wl} {σ : Nat → Prop} (e : ∀ i, σ i → w i = w' i) : Snd w σ ↔ Snd w' σ := by
  unfold Snd
  rw [VX_f e]
  exact and_congr Iff.rfl (not_congr ⟨mEnd_w e, mEnd_w (fun i si => (e i si).symm)⟩)
theorem WMRW {M : av_M} (h : JR M) {i : Nat} (hi : (i : Int) < M 13 4) : RW M i = WM M i := by
  obtain ⟨_, _, _, _, _, _, _, _, _, _, x, _⟩ := h
  obtain ⟨a, b, c, d⟩ := x (i : Int) (by omega) hi
  unfold RW WM WL
  rw [a, b, c, d]
theorem on_lt {M : av_M} (h : JR M) {i : Nat} (hi : Sg (M 13 5) i) : (i : Int) < M 13 4 := h.1.2.2.1.1.2.2.2.2.2 i hi
theorem sub_w {M : av_M} (h : JR M) {σ : Nat → Prop} (hs : ∀ i, σ i → (i : Int) < M 13 4) : ∀ i, σ i → RW M i = WM M i := fun i si => WMRW h (hs i si)
theorem VXe {M : av_M} (h : JR M) {σ : Nat → Prop} (hs : ∀ i, σ i → (i : Int) < M 13 4) : VX (RW M) σ = VX (WM M) σ := VX_f (sub_w h hs)
theorem Snde {M : av_M} (h : JR M) {σ : Nat → Prop} (hs : ∀ i, σ i → (i : Int) < M 13 4) : Snd (RW M) σ ↔ Snd (WM M) σ := Snd_w (sub_w h hs)
theorem S125 {M : av_M} (h : JR M) : b01 (Snd (RW M) (Sg (M 13 5))) = M 12 5 := by
  rw [h.1.2.2.1.2.2.2.2.1]
  exact b01_iff (Snde h (fun i si => on_lt h si))
theorem REc {M : av_M} (h : JR M) : RE (vp M) (M 12 4) (VX (RW M) (Sg (M 13 5))) := by
  rw [VXe h (fun i si => on_lt h si)]
  have v := h.1.2.2.1.2.2.1
  exact ⟨v.1, v.2.2⟩
theorem HUc {M : av_M} (h : JR M) : Snd (RW M) (Sg (M 13 5)) → 0 ≤ M 28 5 ∧ Hull (Shd (VX (RW M) (Sg (M 13 5)))) (M 28 5).toNat (cn (M 29) (M 30) (M 31) (M 32)) := by
  intro hS
  rw [VXe h (fun i si => on_lt h si)]
  obtain ⟨v1, v2, v3, hO, v5⟩ := h.1.2.2.1.2.2
  obtain ⟨hE, h0, hz, hR, hH⟩ := hO
  refine ⟨h0, hH ?_⟩
  obtain ⟨p, hp⟩ := ((Snde h (fun i si => on_lt h si)).mp hS).1
  obtain ⟨i, hi, _⟩ := (hE.2.2.2 (p.1, p.2.1)).mp ⟨p, hp, rfl⟩
  omega
theorem ONc {M : av_M} (h : JR M) : ONm M (M 13 5) := h.2.2.2.2.2.2.2.2.2.2.2
