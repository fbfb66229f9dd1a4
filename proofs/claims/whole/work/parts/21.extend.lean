/-! ===== outlines: the walk round the places ===== -/
theorem CH_congr {σ : Rat} {S : pt → Prop} {b r : Nat} {c c' : Nat → pt} (h : CH σ S b r c) (e : ∀ i, i < r → c' i = c i) : CH σ S b r c' := by
  obtain ⟨h1, h2, h3, h4, h5⟩ := h
  exact ⟨h1, fun i a q => by rw [e i q]; exact h2 i a q, fun p hp => by rw [e b h1]; exact h3 p hp, fun i a q => by rw [e i (by omega), e (i + 1) q]; exact h4 i a q, fun i a q => by rw [e i (by omega), e (i + 1) (by omega), e (i + 2) q]; exact h5 i a q⟩
theorem mb3 {a b c A B C : Int} (ha : -A ≤ a ∧ a ≤ A) (hb : -B ≤ b ∧ b ≤ B) (hc : -C ≤ c ∧ c ≤ C) : -(A * (B * C)) ≤ a * (b * c) ∧ a * (b * c) ≤ A * (B * C) := mb ha (mb hb hc)
theorem D3_rng {x1 y1 w1 x2 y2 w2 x3 y3 w3 : Int} (h1 : BP x1 y1 w1) (h2 : BP x2 y2 w2) (h3 : BP x3 y3 w3) : -9223372036854775808 ≤ D3 x1 y1 w1 x2 y2 w2 x3 y3 w3 ∧ D3 x1 y1 w1 x2 y2 w2 x3 y3 w3 < 9223372036854775808 := by
  obtain ⟨a1, a2, a3, a4⟩ := h1
  obtain ⟨b1, b2, b3, b4⟩ := h2
  obtain ⟨c1, c2, c3, c4⟩ := h3
  have a5 : -5000 ≤ w1 ∧ w1 ≤ 5000 := by omega
  have b5 : -5000 ≤ w2 ∧ w2 ≤ 5000 := by omega
  have c5 : -5000 ≤ w3 ∧ w3 ≤ 5000 := by omega
  have e : D3 x1 y1 w1 x2 y2 w2 x3 y3 w3 = x1 * (y2 * w3) - x1 * (w2 * y3) - y1 * (x2 * w3) + y1 * (w2 * x3) + w1 * (x2 * y3) - w1 * (y2 * x3) := by unfold D3; grind
  have q1 := mb3 a1 b2 c5
  have q2 := mb3 a1 b5 c2
  have q3 := mb3 a2 b1 c5
  have q4 := mb3 a2 b5 c1
  have q5 := mb3 a5 b1 c2
  have q6 := mb3 a5 b2 c1
  omega
set_option maxRecDepth 100000 in
set_option maxHeartbeats 4000000 in
theorem l_H_ext (E : av_E) (d : Nat) (M : av_M) (σ : Rat) (hσ : sgn1 σ) (S : pt → Prop) (b r0 : Nat) (i n : Int) (hn : n ≤ 12) (hi : 0 ≤ i ∧ i < n) (hcap : ∀ r' : Nat, b < r' → r' ≤ r0 → (b + 1 = r' ∨ 0 < cr ((cn (M 5) (M 6) (M 7) (M 8)) (r' - 2)) ((cn (M 5) (M 6) (M 7) (M 8)) (r' - 1)) (P2 (M 5 i) (M 6 i) (M 7 i))) → (r' : Int) < 14) (hrc : (r0 : Int) ≤ 14) (hBD : BD (M 5) (M 6) (M 7) n) (hp : ∀ s, S s → lq σ s (P2 (M 5 i) (M 6 i) (M 7 i))) (hR : ∀ j, 0 ≤ j → j < (r0 : Int) → 0 ≤ M 8 j ∧ M 8 j < n) :
    ∀ (r : Nat) (M1 : av_M), r ≤ r0 → M1 4 5 = r → (∀ f, f ≠ 5 → M1 4 f = M 4 f) → (∀ k, k ≠ 4 → M1 k = M k) → CH σ S b r (cn (M 5) (M 6) (M 7) (M 8)) → CD σ S ((cn (M 5) (M 6) (M 7) (M 8)) (r - 1)) (P2 (M 5 i) (M 6 i) (M 7 i)) →
    av_S E (d + 1) mX4_extend 0 [(0, vR 4), (1, vI i), (2, vI (b + 2))] [] M1 (fun res M' => res = none ∧ ∃ r' : Nat, b < r' ∧ r' ≤ r0 ∧ M' 4 5 = r' + 1 ∧ M' 8 r' = i ∧ (∀ j, j ≠ (r' : Int) → M' 8 j = M 8 j) ∧ (∀ f, f ≠ 5 → M' 4 f = M 4 f) ∧ (∀ k, k ≠ 4 → k ≠ 8 → M' k = M k) ∧ CH σ (fun s => S s ∨ s = (P2 (M 5 i) (M 6 i) (M 7 i))) b (r' + 1) (cn (M' 5) (M' 6) (M' 7) (M' 8)) ∧ ∀ s, (S s ∨ s = (P2 (M 5 i) (M 6 i) (M 7 i))) → s = (cn (M' 5) (M' 6) (M' 7) (M' 8)) r' ∨ lq σ s ((cn (M' 5) (M' 6) (M' 7) (M' 8)) r')) := by
  intro r
  induction r with
  | zero => intro M1 _ _ _ _ h; have := h.1; omega
  | succ r ih =>
    intro M1 hr0 hr hf hk hCH hCD
    have hb := hCH.1
    have eX := hk 5 (by decide)
    have eY := hk 6 (by decide)
    have eW := hk 7 (by decide)
    have eR := hk 8 (by decide)
    have hBi := hBD i hi.1 hi.2
    obtain ⟨bx, bY, bw0, bw1⟩ := hBi
    have h70 : (b + 1 = r + 1 ∨ 0 < cr ((cn (M 5) (M 6) (M 7) (M 8)) (r + 1 - 2)) ((cn (M 5) (M 6) (M 7) (M 8)) (r + 1 - 1)) (P2 (M 5 i) (M 6 i) (M 7 i))) → av_S E (d + 1) mX4_extend 70 [(0, vR 4), (1, vI i), (2, vI (b + 2))] [] M1 (fun res M' => res = none ∧ ∃ r' : Nat, b < r' ∧ r' ≤ r0 ∧ M' 4 5 = r' + 1 ∧ M' 8 r' = i ∧ (∀ j, j ≠ (r' : Int) → M' 8 j = M 8 j) ∧ (∀ f, f ≠ 5 → M' 4 f = M 4 f) ∧ (∀ k, k ≠ 4 → k ≠ 8 → M' k = M k) ∧ CH σ (fun s => S s ∨ s = (P2 (M 5 i) (M 6 i) (M 7 i))) b (r' + 1) (cn (M' 5) (M' 6) (M' 7) (M' 8)) ∧ ∀ s, (S s ∨ s = (P2 (M 5 i) (M 6 i) (M 7 i))) → s = (cn (M' 5) (M' 6) (M' 7) (M' 8)) r' ∨ lq σ s ((cn (M' 5) (M' 6) (M' 7) (M' 8)) r')) := by
      intro ht
      have hc := hcap (r + 1) hb hr0 ht
      refine ax_aloadn rfl rfl ?_
      refine ax_getI (g := 5) rfl fX4_36 rfl rfl rfl rfl ?_
      refine ax_aloadn rfl rfl ?_
      refine ax_getR rfl fX4_19 rfl rfl ?_
      refine ax_alen rfl rfl (by decide) ?_
      refine ax_icmp_ge rfl (by omega) (by omega) (fun h79 => ?_) (fun h79 => ?_)
      · refine ax_vret rfl rfl ?_
        first
          | omega
          | (have e5 : M99 8 = M91 8 := c99 8 (by decide)
             have eq : ∀ j, j ≠ ((r + 1 : Nat) : Int) → M99 8 j = M 8 j := fun j hj => by rw [e5, b91 j (by omega), eR]
             have er : M99 8 ((r + 1 : Nat) : Int) = i := by rw [e5, ← hr]; exact a91
             have ex : M99 5 = M 5 := by rw [c99 5 (by decide), c91 5 (by decide), eX]
             have ey : M99 6 = M 6 := by rw [c99 6 (by decide), c91 6 (by decide), eY]
             have ew : M99 7 = M 7 := by rw [c99 7 (by decide), c91 7 (by decide), eW]
             have ec : ∀ j : Nat, j < r + 1 → (cn (M99 5) (M99 6) (M99 7) (M99 8)) j = (cn (M 5) (M 6) (M 7) (M 8)) j := fun j hj => by
               unfold cn; rw [eq j (by omega), ex, ey, ew]
             have ec1 : (cn (M99 5) (M99 6) (M99 7) (M99 8)) (r + 1) = (P2 (M 5 i) (M 6 i) (M 7 i)) := by unfold cn; rw [er, ex, ey, ew]
             have hq := CH_push hσ hCH hCD ht hp ec1 ec
             refine ⟨rfl, r + 1, hb, hr0, ?_, er, eq, fun f hf5 => ?_, fun k k0 k1 => ?_, hq.1, hq.2⟩
             · rw [a99, c91 4 (by decide), hr]
             · rw [b99 f hf5, c91 4 (by decide), hf f hf5]
             · rw [c99 k k0, c91 k k1, hk k k0])
      · refine ax_aloadn rfl rfl ?_
        refine ax_getR rfl fX4_19 rfl rfl ?_
        refine ax_aloadn rfl rfl ?_
        refine ax_getI (g := 5) rfl fX4_36 rfl rfl rfl rfl ?_
        refine ax_iloadn rfl rfl ?_
        refine ax_iast' rfl rfl (by omega) (fun M91 a91 b91 c91 => ?_)
        refine ax_aloadn rfl rfl ?_
        refine ax_dup rfl rfl ?_
        refine ax_getI (g := 5) rfl fX4_36 rfl rfl rfl rfl ?_
        refine ax_iconst rfl ?_
        refine ax_iadd rfl ?_
        refine ax_putI' (g := 5) rfl gX4_36 rfl rfl rfl rfl (fun M99 a99 b99 c99 => ?_)
        refine ax_vret rfl rfl ?_
        first
          | omega
          | (have e5 : M99 8 = M91 8 := c99 8 (by decide)
             have eq : ∀ j, j ≠ ((r + 1 : Nat) : Int) → M99 8 j = M 8 j := fun j hj => by rw [e5, b91 j (by omega), eR]
             have er : M99 8 ((r + 1 : Nat) : Int) = i := by rw [e5, ← hr]; exact a91
             have ex : M99 5 = M 5 := by rw [c99 5 (by decide), c91 5 (by decide), eX]
             have ey : M99 6 = M 6 := by rw [c99 6 (by decide), c91 6 (by decide), eY]
             have ew : M99 7 = M 7 := by rw [c99 7 (by decide), c91 7 (by decide), eW]
             have ec : ∀ j : Nat, j < r + 1 → (cn (M99 5) (M99 6) (M99 7) (M99 8)) j = (cn (M 5) (M 6) (M 7) (M 8)) j := fun j hj => by
               unfold cn; rw [eq j (by omega), ex, ey, ew]
             have ec1 : (cn (M99 5) (M99 6) (M99 7) (M99 8)) (r + 1) = (P2 (M 5 i) (M 6 i) (M 7 i)) := by unfold cn; rw [er, ex, ey, ew]
             have hq := CH_push hσ hCH hCD ht hp ec1 ec
             refine ⟨rfl, r + 1, hb, hr0, ?_, er, eq, fun f hf5 => ?_, fun k k0 k1 => ?_, hq.1, hq.2⟩
             · rw [a99, c91 4 (by decide), hr]
             · rw [b99 f hf5, c91 4 (by decide), hf f hf5]
             · rw [c99 k k0, c91 k k1, hk k k0])
    have e1 : M1 4 5 - 1 = ((r + 1 - 1 : Nat) : Int) := by omega
    refine ax_aloadn rfl rfl ?_
    refine ax_getI (g := 5) rfl fX4_36 rfl rfl rfl rfl ?_
    refine ax_iloadn rfl rfl ?_
    refine ax_icmp_lt rfl (by omega) (by omega) (fun h5 => ?_) (fun h5 => ?_)
    · first
        | exact h70 (Or.inl (by omega))
        | (refine h70 (Or.inr ?_)
           have e2 : M1 4 5 - 2 = ((r + 1 - 2 : Nat) : Int) := by omega
           have hd := h53
           rw [e1, e2, eX, eY, eW, eR] at hd
           have q0 := hR ((r + 1 - 2 : Nat) : Int) (by omega) (by omega)
           have q1 := hR ((r + 1 - 1 : Nat) : Int) (by omega) (by omega)
           exact (P2_pos (hBD _ q0.1 q0.2).2.2.1 (hBD _ q1.1 q1.2).2.2.1 bw0).mp hd)
    · refine ax_aloadn rfl rfl ?_
      refine ax_aloadn rfl rfl ?_
      refine ax_getR rfl fX4_19 rfl rfl ?_
      refine ax_aloadn rfl rfl ?_
      refine ax_getI (g := 5) rfl fX4_36 rfl rfl rfl rfl ?_
      refine ax_iconst rfl ?_
      refine ax_isub rfl ?_
      refine ax_iald rfl rfl (by omega) ?_
      refine ax_aloadn rfl rfl ?_
      refine ax_getR rfl fX4_19 rfl rfl ?_
      refine ax_aloadn rfl rfl ?_
      refine ax_getI (g := 5) rfl fX4_36 rfl rfl rfl rfl ?_
      refine ax_iconst rfl ?_
      refine ax_isub rfl ?_
      refine ax_iald rfl rfl (by omega) ?_
      refine ax_aloadn rfl rfl ?_
      refine ax_getR rfl fX4_7 rfl rfl ?_
      refine ax_iloadn rfl rfl ?_
      refine ax_iald rfl rfl (by omega) ?_
      refine ax_aloadn rfl rfl ?_
      refine ax_getR rfl fX4_13 rfl rfl ?_
      refine ax_iloadn rfl rfl ?_
      refine ax_iald rfl rfl (by omega) ?_
      refine ax_aloadn rfl rfl ?_
      refine ax_getR rfl fX4_16 rfl rfl ?_
      refine ax_iloadn rfl rfl ?_
      refine ax_iald rfl rfl (by omega) ?_
      refine ax_callV (as := [_, _, _, _, _]) rfl vX4_43 hX4_turn rfl rfl rfl rfl rfl (c_H_turn E d M1 _ _ _ _ _ (by rw [eR]; have := hR (M1 4 5 - 2) (by omega) (by omega); omega) (by rw [eR]; have := hR (M1 4 5 - 1) (by omega) (by omega); omega) (by rw [eX, eY, eW, eR]; exact hBD _ (hR _ (by omega) (by omega)).1 (hR _ (by omega) (by omega)).2) (by rw [eX, eY, eW, eR]; exact hBD _ (hR _ (by omega) (by omega)).1 (hR _ (by omega) (by omega)).2) (Or.inl (by rw [eX, eY, eW]; exact hBD i hi.1 hi.2))) (av_Xk ?_)
      refine ax_lconst (w := 0) rfl rfl ?_
      refine ax_lif_gt rfl rfl (by
  have q0 := hR (M1 4 5 - 2) (by omega) (by omega)
  have q1 := hR (M1 4 5 - 1) (by omega) (by omega)
  rw [eX, eY, eW, eR]
  exact D3_rng (hBD _ q0.1 q0.2) (hBD _ q1.1 q1.2) (hBD i hi.1 hi.2)) (by omega) (fun h53 => ?_) (fun h53 => ?_)
      · first
          | exact h70 (Or.inl (by omega))
          | (refine h70 (Or.inr ?_)
             have e2 : M1 4 5 - 2 = ((r + 1 - 2 : Nat) : Int) := by omega
             have hd := h53
             rw [e1, e2, eX, eY, eW, eR] at hd
             have q0 := hR ((r + 1 - 2 : Nat) : Int) (by omega) (by omega)
             have q1 := hR ((r + 1 - 1 : Nat) : Int) (by omega) (by omega)
             exact (P2_pos (hBD _ q0.1 q0.2).2.2.1 (hBD _ q1.1 q1.2).2.2.1 bw0).mp hd)
      · refine ax_aloadn rfl rfl ?_
        refine ax_dup rfl rfl ?_
        refine ax_getI (g := 5) rfl fX4_36 rfl rfl rfl rfl ?_
        refine ax_iconst rfl ?_
        refine ax_isub rfl ?_
        refine ax_putI' (g := 5) rfl gX4_36 rfl rfl rfl rfl (fun M64 a64 b64 c64 => ?_)
        refine ax_goto rfl ?_
        have e2 : M1 4 5 - 2 = ((r + 1 - 2 : Nat) : Int) := by omega
        have hd := h53
        rw [e1, e2, eX, eY, eW, eR] at hd
        have q0 := hR ((r + 1 - 2 : Nat) : Int) (by omega) (by omega)
        have q1 := hR ((r + 1 - 1 : Nat) : Int) (by omega) (by omega)
        rw [P2_pos (hBD _ q0.1 q0.2).2.2.1 (hBD _ q1.1 q1.2).2.2.1 bw0] at hd
        have hq := CH_pop hCH (by omega) (show cr ((cn (M 5) (M 6) (M 7) (M 8)) (r + 1 - 2)) ((cn (M 5) (M 6) (M 7) (M 8)) (r + 1 - 1)) (P2 (M 5 i) (M 6 i) (M 7 i)) ≤ 0 by unfold cn; grind) hp
        exact ih M64 (by omega) (by rw [a64]; omega) (fun f hf5 => by rw [b64 f hf5, hf f hf5]) (fun k k0 => by rw [c64 k k0, hk k k0]) hq.1 hq.2
set_option maxRecDepth 100000 in
set_option maxHeartbeats 4000000 in
theorem c_H_ext (E : av_E) (d : Nat) (M : av_M) (σ : Rat) (hσ : sgn1 σ) (S : pt → Prop) (b r0 : Nat) (i n : Int) (hn : n ≤ 12) (hi : 0 ≤ i ∧ i < n) (hcap : ∀ r' : Nat, b < r' → r' ≤ r0 → (b + 1 = r' ∨ 0 < cr ((cn (M 5) (M 6) (M 7) (M 8)) (r' - 2)) ((cn (M 5) (M 6) (M 7) (M 8)) (r' - 1)) (P2 (M 5 i) (M 6 i) (M 7 i))) → (r' : Int) < 14) (hrc : (r0 : Int) ≤ 14) (hBD : BD (M 5) (M 6) (M 7) n) (hp : ∀ s, S s → lq σ s (P2 (M 5 i) (M 6 i) (M 7 i))) (hR : ∀ j, 0 ≤ j → j < (r0 : Int) → 0 ≤ M 8 j ∧ M 8 j < n) (hr : M 4 5 = r0) (hCH : CH σ S b r0 (cn (M 5) (M 6) (M 7) (M 8))) (hCD : CD σ S ((cn (M 5) (M 6) (M 7) (M 8)) (r0 - 1)) (P2 (M 5 i) (M 6 i) (M 7 i))) :
    av_Mt E (d + 1) mX4_extend [vR 4, vI i, vI (b + 2)] M (fun res M' => res = none ∧ ∃ r' : Nat, b < r' ∧ r' ≤ r0 ∧ M' 4 5 = r' + 1 ∧ M' 8 r' = i ∧ (∀ j, j ≠ (r' : Int) → M' 8 j = M 8 j) ∧ (∀ f, f ≠ 5 → M' 4 f = M 4 f) ∧ (∀ k, k ≠ 4 → k ≠ 8 → M' k = M k) ∧ CH σ (fun s => S s ∨ s = (P2 (M 5 i) (M 6 i) (M 7 i))) b (r' + 1) (cn (M' 5) (M' 6) (M' 7) (M' 8)) ∧ ∀ s, (S s ∨ s = (P2 (M 5 i) (M 6 i) (M 7 i))) → s = (cn (M' 5) (M' 6) (M' 7) (M' 8)) r' ∨ lq σ s ((cn (M' 5) (M' 6) (M' 7) (M' 8)) r')) := by
  refine av_enter hX4_extend oX4_extend rfl rfl ?_
  exact l_H_ext E d M σ hσ S b r0 i n hn hi hcap hrc hBD hp hR r0 M (Nat.le_refl _) hr (fun _ _ => rfl) (fun _ _ => rfl) hCH hCD
set_option maxRecDepth 100000 in
set_option maxHeartbeats 4000000 in
theorem c_H_ext0 (E : av_E) (d : Nat) (M : av_M) (i : Int) (hi : 0 ≤ i ∧ i < 1000) (hr : M 4 5 = 0) :
    av_Mt E (d + 1) mX4_extend [vR 4, vI i, vI 2] M (fun res M' => res = none ∧ M' 4 5 = 1 ∧ M' 8 0 = i ∧ (∀ j, j ≠ 0 → M' 8 j = M 8 j) ∧ (∀ f, f ≠ 5 → M' 4 f = M 4 f) ∧ (∀ k, k ≠ 4 → k ≠ 8 → M' k = M k)) := by
  refine av_enter hX4_extend oX4_extend rfl rfl ?_
  refine ax_aloadn rfl rfl ?_
  refine ax_getI (g := 5) rfl fX4_36 rfl rfl rfl rfl ?_
  refine ax_iloadn rfl rfl ?_
  refine ax_icmp_lt rfl (by omega) (by omega) (fun h5 => ?_) (fun h5 => ?_)
  · refine ax_aloadn rfl rfl ?_
    refine ax_getI (g := 5) rfl fX4_36 rfl rfl rfl rfl ?_
    refine ax_aloadn rfl rfl ?_
    refine ax_getR rfl fX4_19 rfl rfl ?_
    refine ax_alen rfl rfl (by decide) ?_
    refine ax_icmp_ge rfl (by omega) (by omega) (fun h79 => ?_) (fun h79 => ?_)
    · refine ax_vret rfl rfl ?_
      first
        | omega
        | (rw [hr] at a91 b91
           exact ⟨rfl, by rw [a99, c91 4 (by decide), hr]; rfl, by rw [c99 8 (by decide)]; exact a91, fun j hj => by rw [c99 8 (by decide)]; exact b91 j hj, fun f hf => by rw [b99 f hf, c91 4 (by decide)], fun k k0 k1 => by rw [c99 k k0, c91 k k1]⟩)
    · refine ax_aloadn rfl rfl ?_
      refine ax_getR rfl fX4_19 rfl rfl ?_
      refine ax_aloadn rfl rfl ?_
      refine ax_getI (g := 5) rfl fX4_36 rfl rfl rfl rfl ?_
      refine ax_iloadn rfl rfl ?_
      refine ax_iast' rfl rfl (by omega) (fun M91 a91 b91 c91 => ?_)
      refine ax_aloadn rfl rfl ?_
      refine ax_dup rfl rfl ?_
      refine ax_getI (g := 5) rfl fX4_36 rfl rfl rfl rfl ?_
      refine ax_iconst rfl ?_
      refine ax_iadd rfl ?_
      refine ax_putI' (g := 5) rfl gX4_36 rfl rfl rfl rfl (fun M99 a99 b99 c99 => ?_)
      refine ax_vret rfl rfl ?_
      first
        | omega
        | (rw [hr] at a91 b91
           exact ⟨rfl, by rw [a99, c91 4 (by decide), hr]; rfl, by rw [c99 8 (by decide)]; exact a91, fun j hj => by rw [c99 8 (by decide)]; exact b91 j hj, fun f hf => by rw [b99 f hf, c91 4 (by decide)], fun k k0 k1 => by rw [c99 k k0, c91 k k1]⟩)
  · omega
set_option maxRecDepth 100000 in
set_option maxHeartbeats 4000000 in
theorem l_O_ext (E : av_E) (d : Nat) (M : av_M) (σ : Rat) (hσ : sgn1 σ) (S : pt → Prop) (b r0 : Nat) (i n : Int) (hn : n ≤ 120) (hi : 0 ≤ i ∧ i < n) (hcap : ∀ r' : Nat, b < r' → r' ≤ r0 → (b + 1 = r' ∨ 0 < cr ((cn (M 29) (M 30) (M 31) (M 32)) (r' - 2)) ((cn (M 29) (M 30) (M 31) (M 32)) (r' - 1)) (P2 (M 29 i) (M 30 i) (M 31 i))) → (r' : Int) < 122) (hrc : (r0 : Int) ≤ 122) (hBD : BD (M 29) (M 30) (M 31) n) (hp : ∀ s, S s → lq σ s (P2 (M 29 i) (M 30 i) (M 31 i))) (hR : ∀ j, 0 ≤ j → j < (r0 : Int) → 0 ≤ M 32 j ∧ M 32 j < n) :
    ∀ (r : Nat) (M1 : av_M), r ≤ r0 → M1 28 5 = r → (∀ f, f ≠ 5 → M1 28 f = M 28 f) → (∀ k, k ≠ 28 → M1 k = M k) → CH σ S b r (cn (M 29) (M 30) (M 31) (M 32)) → CD σ S ((cn (M 29) (M 30) (M 31) (M 32)) (r - 1)) (P2 (M 29 i) (M 30 i) (M 31 i)) →
    av_S E (d + 1) mX4_extend 0 [(0, vR 28), (1, vI i), (2, vI (b + 2))] [] M1 (fun res M' => res = none ∧ ∃ r' : Nat, b < r' ∧ r' ≤ r0 ∧ M' 28 5 = r' + 1 ∧ M' 32 r' = i ∧ (∀ j, j ≠ (r' : Int) → M' 32 j = M 32 j) ∧ (∀ f, f ≠ 5 → M' 28 f = M 28 f) ∧ (∀ k, k ≠ 28 → k ≠ 32 → M' k = M k) ∧ CH σ (fun s => S s ∨ s = (P2 (M 29 i) (M 30 i) (M 31 i))) b (r' + 1) (cn (M' 29) (M' 30) (M' 31) (M' 32)) ∧ ∀ s, (S s ∨ s = (P2 (M 29 i) (M 30 i) (M 31 i))) → s = (cn (M' 29) (M' 30) (M' 31) (M' 32)) r' ∨ lq σ s ((cn (M' 29) (M' 30) (M' 31) (M' 32)) r')) := by
  intro r
  induction r with
  | zero => intro M1 _ _ _ _ h; have := h.1; omega
  | succ r ih =>
    intro M1 hr0 hr hf hk hCH hCD
    have hb := hCH.1
    have eX := hk 29 (by decide)
    have eY := hk 30 (by decide)
    have eW := hk 31 (by decide)
    have eR := hk 32 (by decide)
    have hBi := hBD i hi.1 hi.2
    obtain ⟨bx, bY, bw0, bw1⟩ := hBi
    have h70 : (b + 1 = r + 1 ∨ 0 < cr ((cn (M 29) (M 30) (M 31) (M 32)) (r + 1 - 2)) ((cn (M 29) (M 30) (M 31) (M 32)) (r + 1 - 1)) (P2 (M 29 i) (M 30 i) (M 31 i))) → av_S E (d + 1) mX4_extend 70 [(0, vR 28), (1, vI i), (2, vI (b + 2))] [] M1 (fun res M' => res = none ∧ ∃ r' : Nat, b < r' ∧ r' ≤ r0 ∧ M' 28 5 = r' + 1 ∧ M' 32 r' = i ∧ (∀ j, j ≠ (r' : Int) → M' 32 j = M 32 j) ∧ (∀ f, f ≠ 5 → M' 28 f = M 28 f) ∧ (∀ k, k ≠ 28 → k ≠ 32 → M' k = M k) ∧ CH σ (fun s => S s ∨ s = (P2 (M 29 i) (M 30 i) (M 31 i))) b (r' + 1) (cn (M' 29) (M' 30) (M' 31) (M' 32)) ∧ ∀ s, (S s ∨ s = (P2 (M 29 i) (M 30 i) (M 31 i))) → s = (cn (M' 29) (M' 30) (M' 31) (M' 32)) r' ∨ lq σ s ((cn (M' 29) (M' 30) (M' 31) (M' 32)) r')) := by
      intro ht
      have hc := hcap (r + 1) hb hr0 ht
      refine ax_aloadn rfl rfl ?_
      refine ax_getI (g := 5) rfl fX4_36 rfl rfl rfl rfl ?_
      refine ax_aloadn rfl rfl ?_
      refine ax_getR rfl fX4_19 rfl rfl ?_
      refine ax_alen rfl rfl (by decide) ?_
      refine ax_icmp_ge rfl (by omega) (by omega) (fun h79 => ?_) (fun h79 => ?_)
      · refine ax_vret rfl rfl ?_
        first
          | omega
          | (have e5 : M99 32 = M91 32 := c99 32 (by decide)
             have eq : ∀ j, j ≠ ((r + 1 : Nat) : Int) → M99 32 j = M 32 j := fun j hj => by rw [e5, b91 j (by omega), eR]
             have er : M99 32 ((r + 1 : Nat) : Int) = i := by rw [e5, ← hr]; exact a91
             have ex : M99 29 = M 29 := by rw [c99 29 (by decide), c91 29 (by decide), eX]
             have ey : M99 30 = M 30 := by rw [c99 30 (by decide), c91 30 (by decide), eY]
             have ew : M99 31 = M 31 := by rw [c99 31 (by decide), c91 31 (by decide), eW]
             have ec : ∀ j : Nat, j < r + 1 → (cn (M99 29) (M99 30) (M99 31) (M99 32)) j = (cn (M 29) (M 30) (M 31) (M 32)) j := fun j hj => by
               unfold cn; rw [eq j (by omega), ex, ey, ew]
             have ec1 : (cn (M99 29) (M99 30) (M99 31) (M99 32)) (r + 1) = (P2 (M 29 i) (M 30 i) (M 31 i)) := by unfold cn; rw [er, ex, ey, ew]
             have hq := CH_push hσ hCH hCD ht hp ec1 ec
             refine ⟨rfl, r + 1, hb, hr0, ?_, er, eq, fun f hf5 => ?_, fun k k0 k1 => ?_, hq.1, hq.2⟩
             · rw [a99, c91 28 (by decide), hr]
             · rw [b99 f hf5, c91 28 (by decide), hf f hf5]
             · rw [c99 k k0, c91 k k1, hk k k0])
      · refine ax_aloadn rfl rfl ?_
        refine ax_getR rfl fX4_19 rfl rfl ?_
        refine ax_aloadn rfl rfl ?_
        refine ax_getI (g := 5) rfl fX4_36 rfl rfl rfl rfl ?_
        refine ax_iloadn rfl rfl ?_
        refine ax_iast' rfl rfl (by omega) (fun M91 a91 b91 c91 => ?_)
        refine ax_aloadn rfl rfl ?_
        refine ax_dup rfl rfl ?_
        refine ax_getI (g := 5) rfl fX4_36 rfl rfl rfl rfl ?_
        refine ax_iconst rfl ?_
        refine ax_iadd rfl ?_
        refine ax_putI' (g := 5) rfl gX4_36 rfl rfl rfl rfl (fun M99 a99 b99 c99 => ?_)
        refine ax_vret rfl rfl ?_
        first
          | omega
          | (have e5 : M99 32 = M91 32 := c99 32 (by decide)
             have eq : ∀ j, j ≠ ((r + 1 : Nat) : Int) → M99 32 j = M 32 j := fun j hj => by rw [e5, b91 j (by omega), eR]
             have er : M99 32 ((r + 1 : Nat) : Int) = i := by rw [e5, ← hr]; exact a91
             have ex : M99 29 = M 29 := by rw [c99 29 (by decide), c91 29 (by decide), eX]
             have ey : M99 30 = M 30 := by rw [c99 30 (by decide), c91 30 (by decide), eY]
             have ew : M99 31 = M 31 := by rw [c99 31 (by decide), c91 31 (by decide), eW]
             have ec : ∀ j : Nat, j < r + 1 → (cn (M99 29) (M99 30) (M99 31) (M99 32)) j = (cn (M 29) (M 30) (M 31) (M 32)) j := fun j hj => by
               unfold cn; rw [eq j (by omega), ex, ey, ew]
             have ec1 : (cn (M99 29) (M99 30) (M99 31) (M99 32)) (r + 1) = (P2 (M 29 i) (M 30 i) (M 31 i)) := by unfold cn; rw [er, ex, ey, ew]
             have hq := CH_push hσ hCH hCD ht hp ec1 ec
             refine ⟨rfl, r + 1, hb, hr0, ?_, er, eq, fun f hf5 => ?_, fun k k0 k1 => ?_, hq.1, hq.2⟩
             · rw [a99, c91 28 (by decide), hr]
             · rw [b99 f hf5, c91 28 (by decide), hf f hf5]
             · rw [c99 k k0, c91 k k1, hk k k0])
    have e1 : M1 28 5 - 1 = ((r + 1 - 1 : Nat) : Int) := by omega
    refine ax_aloadn rfl rfl ?_
    refine ax_getI (g := 5) rfl fX4_36 rfl rfl rfl rfl ?_
    refine ax_iloadn rfl rfl ?_
    refine ax_icmp_lt rfl (by omega) (by omega) (fun h5 => ?_) (fun h5 => ?_)
    · first
        | exact h70 (Or.inl (by omega))
        | (refine h70 (Or.inr ?_)
           have e2 : M1 28 5 - 2 = ((r + 1 - 2 : Nat) : Int) := by omega
           have hd := h53
           rw [e1, e2, eX, eY, eW, eR] at hd
           have q0 := hR ((r + 1 - 2 : Nat) : Int) (by omega) (by omega)
           have q1 := hR ((r + 1 - 1 : Nat) : Int) (by omega) (by omega)
           exact (P2_pos (hBD _ q0.1 q0.2).2.2.1 (hBD _ q1.1 q1.2).2.2.1 bw0).mp hd)
    · refine ax_aloadn rfl rfl ?_
      refine ax_aloadn rfl rfl ?_
      refine ax_getR rfl fX4_19 rfl rfl ?_
      refine ax_aloadn rfl rfl ?_
      refine ax_getI (g := 5) rfl fX4_36 rfl rfl rfl rfl ?_
      refine ax_iconst rfl ?_
      refine ax_isub rfl ?_
      refine ax_iald rfl rfl (by omega) ?_
      refine ax_aloadn rfl rfl ?_
      refine ax_getR rfl fX4_19 rfl rfl ?_
      refine ax_aloadn rfl rfl ?_
      refine ax_getI (g := 5) rfl fX4_36 rfl rfl rfl rfl ?_
      refine ax_iconst rfl ?_
      refine ax_isub rfl ?_
      refine ax_iald rfl rfl (by omega) ?_
      refine ax_aloadn rfl rfl ?_
      refine ax_getR rfl fX4_7 rfl rfl ?_
      refine ax_iloadn rfl rfl ?_
      refine ax_iald rfl rfl (by omega) ?_
      refine ax_aloadn rfl rfl ?_
      refine ax_getR rfl fX4_13 rfl rfl ?_
      refine ax_iloadn rfl rfl ?_
      refine ax_iald rfl rfl (by omega) ?_
      refine ax_aloadn rfl rfl ?_
      refine ax_getR rfl fX4_16 rfl rfl ?_
      refine ax_iloadn rfl rfl ?_
      refine ax_iald rfl rfl (by omega) ?_
      refine ax_callV (as := [_, _, _, _, _]) rfl vX4_43 hX4_turn rfl rfl rfl rfl rfl (c_O_turn E d M1 _ _ _ _ _ (by rw [eR]; have := hR (M1 28 5 - 2) (by omega) (by omega); omega) (by rw [eR]; have := hR (M1 28 5 - 1) (by omega) (by omega); omega) (by rw [eX, eY, eW, eR]; exact hBD _ (hR _ (by omega) (by omega)).1 (hR _ (by omega) (by omega)).2) (by rw [eX, eY, eW, eR]; exact hBD _ (hR _ (by omega) (by omega)).1 (hR _ (by omega) (by omega)).2) (Or.inl (by rw [eX, eY, eW]; exact hBD i hi.1 hi.2))) (av_Xk ?_)
      refine ax_lconst (w := 0) rfl rfl ?_
      refine ax_lif_gt rfl rfl (by
  have q0 := hR (M1 28 5 - 2) (by omega) (by omega)
  have q1 := hR (M1 28 5 - 1) (by omega) (by omega)
  rw [eX, eY, eW, eR]
  exact D3_rng (hBD _ q0.1 q0.2) (hBD _ q1.1 q1.2) (hBD i hi.1 hi.2)) (by omega) (fun h53 => ?_) (fun h53 => ?_)
      · first
          | exact h70 (Or.inl (by omega))
          | (refine h70 (Or.inr ?_)
             have e2 : M1 28 5 - 2 = ((r + 1 - 2 : Nat) : Int) := by omega
             have hd := h53
             rw [e1, e2, eX, eY, eW, eR] at hd
             have q0 := hR ((r + 1 - 2 : Nat) : Int) (by omega) (by omega)
             have q1 := hR ((r + 1 - 1 : Nat) : Int) (by omega) (by omega)
             exact (P2_pos (hBD _ q0.1 q0.2).2.2.1 (hBD _ q1.1 q1.2).2.2.1 bw0).mp hd)
      · refine ax_aloadn rfl rfl ?_
        refine ax_dup rfl rfl ?_
        refine ax_getI (g := 5) rfl fX4_36 rfl rfl rfl rfl ?_
        refine ax_iconst rfl ?_
        refine ax_isub rfl ?_
        refine ax_putI' (g := 5) rfl gX4_36 rfl rfl rfl rfl (fun M64 a64 b64 c64 => ?_)
        refine ax_goto rfl ?_
        have e2 : M1 28 5 - 2 = ((r + 1 - 2 : Nat) : Int) := by omega
        have hd := h53
        rw [e1, e2, eX, eY, eW, eR] at hd
        have q0 := hR ((r + 1 - 2 : Nat) : Int) (by omega) (by omega)
        have q1 := hR ((r + 1 - 1 : Nat) : Int) (by omega) (by omega)
        rw [P2_pos (hBD _ q0.1 q0.2).2.2.1 (hBD _ q1.1 q1.2).2.2.1 bw0] at hd
        have hq := CH_pop hCH (by omega) (show cr ((cn (M 29) (M 30) (M 31) (M 32)) (r + 1 - 2)) ((cn (M 29) (M 30) (M 31) (M 32)) (r + 1 - 1)) (P2 (M 29 i) (M 30 i) (M 31 i)) ≤ 0 by unfold cn; grind) hp
        exact ih M64 (by omega) (by rw [a64]; omega) (fun f hf5 => by rw [b64 f hf5, hf f hf5]) (fun k k0 => by rw [c64 k k0, hk k k0]) hq.1 hq.2
set_option maxRecDepth 100000 in
set_option maxHeartbeats 4000000 in
theorem c_O_ext (E : av_E) (d : Nat) (M : av_M) (σ : Rat) (hσ : sgn1 σ) (S : pt → Prop) (b r0 : Nat) (i n : Int) (hn : n ≤ 120) (hi : 0 ≤ i ∧ i < n) (hcap : ∀ r' : Nat, b < r' → r' ≤ r0 → (b + 1 = r' ∨ 0 < cr ((cn (M 29) (M 30) (M 31) (M 32)) (r' - 2)) ((cn (M 29) (M 30) (M 31) (M 32)) (r' - 1)) (P2 (M 29 i) (M 30 i) (M 31 i))) → (r' : Int) < 122) (hrc : (r0 : Int) ≤ 122) (hBD : BD (M 29) (M 30) (M 31) n) (hp : ∀ s, S s → lq σ s (P2 (M 29 i) (M 30 i) (M 31 i))) (hR : ∀ j, 0 ≤ j → j < (r0 : Int) → 0 ≤ M 32 j ∧ M 32 j < n) (hr : M 28 5 = r0) (hCH : CH σ S b r0 (cn (M 29) (M 30) (M 31) (M 32))) (hCD : CD σ S ((cn (M 29) (M 30) (M 31) (M 32)) (r0 - 1)) (P2 (M 29 i) (M 30 i) (M 31 i))) :
    av_Mt E (d + 1) mX4_extend [vR 28, vI i, vI (b + 2)] M (fun res M' => res = none ∧ ∃ r' : Nat, b < r' ∧ r' ≤ r0 ∧ M' 28 5 = r' + 1 ∧ M' 32 r' = i ∧ (∀ j, j ≠ (r' : Int) → M' 32 j = M 32 j) ∧ (∀ f, f ≠ 5 → M' 28 f = M 28 f) ∧ (∀ k, k ≠ 28 → k ≠ 32 → M' k = M k) ∧ CH σ (fun s => S s ∨ s = (P2 (M 29 i) (M 30 i) (M 31 i))) b (r' + 1) (cn (M' 29) (M' 30) (M' 31) (M' 32)) ∧ ∀ s, (S s ∨ s = (P2 (M 29 i) (M 30 i) (M 31 i))) → s = (cn (M' 29) (M' 30) (M' 31) (M' 32)) r' ∨ lq σ s ((cn (M' 29) (M' 30) (M' 31) (M' 32)) r')) := by
  refine av_enter hX4_extend oX4_extend rfl rfl ?_
  exact l_O_ext E d M σ hσ S b r0 i n hn hi hcap hrc hBD hp hR r0 M (Nat.le_refl _) hr (fun _ _ => rfl) (fun _ _ => rfl) hCH hCD
set_option maxRecDepth 100000 in
set_option maxHeartbeats 4000000 in
theorem c_O_ext0 (E : av_E) (d : Nat) (M : av_M) (i : Int) (hi : 0 ≤ i ∧ i < 1000) (hr : M 28 5 = 0) :
    av_Mt E (d + 1) mX4_extend [vR 28, vI i, vI 2] M (fun res M' => res = none ∧ M' 28 5 = 1 ∧ M' 32 0 = i ∧ (∀ j, j ≠ 0 → M' 32 j = M 32 j) ∧ (∀ f, f ≠ 5 → M' 28 f = M 28 f) ∧ (∀ k, k ≠ 28 → k ≠ 32 → M' k = M k)) := by
  refine av_enter hX4_extend oX4_extend rfl rfl ?_
  refine ax_aloadn rfl rfl ?_
  refine ax_getI (g := 5) rfl fX4_36 rfl rfl rfl rfl ?_
  refine ax_iloadn rfl rfl ?_
  refine ax_icmp_lt rfl (by omega) (by omega) (fun h5 => ?_) (fun h5 => ?_)
  · refine ax_aloadn rfl rfl ?_
    refine ax_getI (g := 5) rfl fX4_36 rfl rfl rfl rfl ?_
    refine ax_aloadn rfl rfl ?_
    refine ax_getR rfl fX4_19 rfl rfl ?_
    refine ax_alen rfl rfl (by decide) ?_
    refine ax_icmp_ge rfl (by omega) (by omega) (fun h79 => ?_) (fun h79 => ?_)
    · refine ax_vret rfl rfl ?_
      first
        | omega
        | (rw [hr] at a91 b91
           exact ⟨rfl, by rw [a99, c91 28 (by decide), hr]; rfl, by rw [c99 32 (by decide)]; exact a91, fun j hj => by rw [c99 32 (by decide)]; exact b91 j hj, fun f hf => by rw [b99 f hf, c91 28 (by decide)], fun k k0 k1 => by rw [c99 k k0, c91 k k1]⟩)
    · refine ax_aloadn rfl rfl ?_
      refine ax_getR rfl fX4_19 rfl rfl ?_
      refine ax_aloadn rfl rfl ?_
      refine ax_getI (g := 5) rfl fX4_36 rfl rfl rfl rfl ?_
      refine ax_iloadn rfl rfl ?_
      refine ax_iast' rfl rfl (by omega) (fun M91 a91 b91 c91 => ?_)
      refine ax_aloadn rfl rfl ?_
      refine ax_dup rfl rfl ?_
      refine ax_getI (g := 5) rfl fX4_36 rfl rfl rfl rfl ?_
      refine ax_iconst rfl ?_
      refine ax_iadd rfl ?_
      refine ax_putI' (g := 5) rfl gX4_36 rfl rfl rfl rfl (fun M99 a99 b99 c99 => ?_)
      refine ax_vret rfl rfl ?_
      first
        | omega
        | (rw [hr] at a91 b91
           exact ⟨rfl, by rw [a99, c91 28 (by decide), hr]; rfl, by rw [c99 32 (by decide)]; exact a91, fun j hj => by rw [c99 32 (by decide)]; exact b91 j hj, fun f hf => by rw [b99 f hf, c91 28 (by decide)], fun k k0 k1 => by rw [c99 k k0, c91 k k1]⟩)
  · omega
