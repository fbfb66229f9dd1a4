/-! ===== the reference: the shadow laid ===== -/
def LSI (M M1 : av_M) (i : Int) : Prop := (∀ j, 0 ≤ j → j < i → M1 38 (12 + j) = M 54 j ∧ M1 39 (12 + j) = M 55 j ∧ M1 40 (12 + j) = M 57 j) ∧ ∀ k, k ≠ 38 → k ≠ 39 → k ≠ 40 → M1 k = M k
def LSm (M : av_M) (h : Int) (c : Nat → pt) : Prop := M 35 9 = h ∧ (0 ≤ h ∧ h ≤ 120) ∧ ∀ i, 0 ≤ i → i < h → (12 ≤ M 42 i ∧ M 42 i < 132) ∧ rp M (M 42 i) = c i.toNat ∧ RB M (M 42 i)
def LSk (M M' : av_M) : Prop := (∀ f, f ≠ 9 → f ≠ 26 → M' 35 f = M 35 f) ∧ ∀ k, k ≠ 35 → k ≠ 38 → k ≠ 39 → k ≠ 40 → k ≠ 42 → k ≠ 54 → k ≠ 55 → k ≠ 56 → k ≠ 57 → M' k = M k
theorem LSI_hull {M M2 : av_M} {n h H : Int} {c : Nat → pt} {S : p3 → Prop} (h0 : 0 < n) (hE : RE (rv M) n S) (hL : ∀ j, 0 ≤ j → j < n → M2 38 (12 + j) = M 54 j ∧ M2 39 (12 + j) = M 55 j ∧ M2 40 (12 + j) = M 57 j) (h1 : 0 ≤ H) (hG : Hull (Shd S) H.toNat c) (hU : HU M2 42 12 (12 + n) h) : h = H ∧ ∀ i, 0 ≤ i → i < h → rp M2 (M2 42 i) = c i.toNat := by
  obtain ⟨u0, u1, u2, u3, u4⟩ := hU
  have eP : ∀ j, 0 ≤ j → j < n → rp M2 (12 + j) = ((rv M j).1, (rv M j).2.1) := fun j j0 j1 => by
    obtain ⟨x1, x2, x3⟩ := hL j j0 j1
    unfold rp
    rw [x1, x2, x3]
    rfl
  have eS : RS (rp M2) 12 (12 + n) = Shd S := by
    funext p
    apply propext
    constructor
    · rintro ⟨k, k0, k1, rfl⟩
      refine ⟨rv M (k - 12), RE_in hE (by omega) (by omega), ?_⟩
      rw [← eP (k - 12) (by omega) (by omega), show 12 + (k - 12) = k by omega]
    · rintro ⟨q, hq, rfl⟩
      obtain ⟨i, i1, e⟩ := (hE.2.2 q).mp hq
      refine ⟨12 + i, by omega, by omega, ?_⟩
      rw [eP i (by omega) (by omega), e]
  have uh := u3 (by omega)
  rw [eS] at uh
  obtain ⟨e1, e2⟩ := Hull_un uh hG
  have uh1 := uh.1
  refine ⟨by omega, fun i i0 i1 => ?_⟩
  have e := e2 i.toNat (by omega)
  have ei : ((i.toNat : Nat) : Int) = i := by omega
  have e3 : rp M2 (M2 42 ((i.toNat : Nat) : Int)) = c i.toNat := e
  rw [ei] at e3
  exact e3
set_option maxRecDepth 100000 in
set_option maxHeartbeats 800000 in
theorem l_X8_layShadow (E : av_E) (d : Nat) (M : av_M) (set : Int) (S : p3 → Prop) (hG : RG M (M 35 26)) (hE : RE (rv M) (M 35 26) S) (hn : 0 < M 35 26 ∧ M 35 26 ≤ 120) (H : Int) (c : Nat → pt) (hH : 0 ≤ H ∧ Hull (Shd S) H.toNat c) : ∀ (t : Nat) (i : Int) (M1 : av_M), i + t = M 35 26 → 0 ≤ i → LSI M M1 i → av_S E (d + 5) mX8_layShadow 12 [(0, vR 35), (1, vI set), (2, vI i)] [] M1 (fun res M' => res = some (vI 1) ∧ LSm M' H c ∧ M' 35 26 = M 35 26 ∧ LSk M M') := by
  intro t
  induction t with
  | zero =>
    intro i M1 hi i0 hL
    have ei : i = M 35 26 := by omega
    have e35 : M1 35 = M 35 := hL.2 35 (by decide) (by decide) (by decide)
    have e0 : M1 35 26 = M 35 26 := by rw [e35]
    have hR : ∀ k, 12 ≤ k → k < 12 + M1 35 26 → RB M1 k := fun k k0 k1 => by
      obtain ⟨x1, x2, x3⟩ := hL.1 (k - 12) (by omega) (by omega)
      obtain ⟨y1, y2, y3, y4, y5⟩ := hG (k - 12) (by omega) (by omega)
      rw [show 12 + (k - 12) = k by omega] at x1 x2 x3
      unfold RB BP
      rw [x1, x2, x3]
      exact ⟨y1, y2, y4, y5⟩
    refine ax_iloadn rfl rfl ?_
    refine ax_aloadn rfl rfl ?_
    refine ax_getI (g := 26) rfl fX8_228 rfl rfl rfl rfl ?_
    refine ax_icmp_ge rfl (by omega) (by omega) (fun h17 => ?_) (fun h17 => ?_)
    · refine ax_aloadn rfl rfl ?_
      refine ax_aloadn rfl rfl ?_
      refine ax_bipush rfl rfl ?_
      refine ax_bipush rfl rfl ?_
      refine ax_aloadn rfl rfl ?_
      refine ax_getI (g := 26) rfl fX8_228 rfl rfl rfl rfl ?_
      refine ax_iadd rfl ?_
      refine ax_aloadn rfl rfl ?_
      refine ax_getR rfl fX8_29 rfl rfl ?_
      refine ax_callV (as := [_, _, _]) rfl vX8_127 hX8_hull rfl rfl rfl rfl rfl (c_S_hull E (d + 1) M1 12 (12 + M1 35 26) (by omega) hR (by omega)) (fun r86 M86 hr86 => ?_)
      obtain ⟨⟨h, rfl, hU⟩, hK⟩ := hr86
      refine ax_putI' (g := 9) rfl gX8_287 rfl rfl rfl rfl (fun M89 a89 b89 c89 => ?_)
      refine ax_iconst rfl ?_
      refine ax_zret rfl rfl (by omega) ?_
      have z38 : M89 38 = M86 38 := by rw [c89 38 (by decide)]
      have z39 : M89 39 = M86 39 := by rw [c89 39 (by decide)]
      have z40 : M89 40 = M86 40 := by rw [c89 40 (by decide)]
      have z42 : M89 42 = M86 42 := by rw [c89 42 (by decide)]
      have er : rp M89 = rp M86 := by unfold rp; rw [z38, z39, z40]
      rw [e0] at hU
      obtain ⟨eh, ef⟩ := LSI_hull (M := M) (M2 := M86) hn.1 hE (fun j j0 j1 => by rw [hK 38 (by decide), hK 39 (by decide), hK 40 (by decide)]; exact hL.1 j j0 (by omega)) hH.1 hH.2 hU
      obtain ⟨u0, u1, u2, u3, u4⟩ := hU
      refine ⟨rfl, ⟨by rw [a89]; exact eh, by omega, fun k k0 k1 => ?_⟩, by rw [b89 26 (by decide), hK 35 (by decide), e0], fun f hf hf2 => by rw [b89 f hf, hK 35 (by decide), e35], fun k k0 k1 k2 k3 k4 _ _ _ _ => by rw [c89 k k0, hK k k4]; exact hL.2 k k1 k2 k3⟩
      obtain ⟨r0, r1⟩ := u2 k k0 (by omega)
      have f0 := ef k k0 (by omega)
      rw [z42, er]
      refine ⟨by omega, f0, ?_⟩
      have hb := hR (M86 42 k) r0 (by omega)
      unfold RB at hb ⊢
      rw [z38, z39, z40, hK 38 (by decide), hK 39 (by decide), hK 40 (by decide)]
      exact hb
    · omega
  | succ t ih =>
    intro i M1 hi i0 hL
    have e35 : M1 35 = M 35 := hL.2 35 (by decide) (by decide) (by decide)
    have e0 : M1 35 26 = M 35 26 := by rw [e35]
    have f54 : M1 54 = M 54 := hL.2 54 (by decide) (by decide) (by decide)
    have f55 : M1 55 = M 55 := hL.2 55 (by decide) (by decide) (by decide)
    have f57 : M1 57 = M 57 := hL.2 57 (by decide) (by decide) (by decide)
    refine ax_iloadn rfl rfl ?_
    refine ax_aloadn rfl rfl ?_
    refine ax_getI (g := 26) rfl fX8_228 rfl rfl rfl rfl ?_
    refine ax_icmp_ge rfl (by omega) (by omega) (fun h17 => ?_) (fun h17 => ?_)
    · omega
    · refine ax_aloadn rfl rfl ?_
      refine ax_getR rfl fX8_16 rfl rfl ?_
      refine ax_bipush rfl rfl ?_
      refine ax_iloadn rfl rfl ?_
      refine ax_iadd rfl ?_
      refine ax_aloadn rfl rfl ?_
      refine ax_getR rfl fX8_73 rfl rfl ?_
      refine ax_iloadn rfl rfl ?_
      refine ax_lald rfl rfl (by omega) ?_
      refine ax_last' rfl rfl (by omega) (fun M34 a34 b34 c34 => ?_)
      refine ax_aloadn rfl rfl ?_
      refine ax_getR rfl fX8_20 rfl rfl ?_
      refine ax_bipush rfl rfl ?_
      refine ax_iloadn rfl rfl ?_
      refine ax_iadd rfl ?_
      refine ax_aloadn rfl rfl ?_
      refine ax_getR rfl fX8_76 rfl rfl ?_
      refine ax_iloadn rfl rfl ?_
      refine ax_lald rfl rfl (by omega) ?_
      refine ax_last' rfl rfl (by omega) (fun M49 a49 b49 c49 => ?_)
      refine ax_aloadn rfl rfl ?_
      refine ax_getR rfl fX8_23 rfl rfl ?_
      refine ax_bipush rfl rfl ?_
      refine ax_iloadn rfl rfl ?_
      refine ax_iadd rfl ?_
      refine ax_aloadn rfl rfl ?_
      refine ax_getR rfl fX8_82 rfl rfl ?_
      refine ax_iloadn rfl rfl ?_
      refine ax_lald rfl rfl (by omega) ?_
      refine ax_last' rfl rfl (by omega) (fun M64 a64 b64 c64 => ?_)
      refine ax_iinc (ls' := [(0, _), (1, _), (2, _)]) rfl rfl rfl rfl ?_
      refine ax_goto rfl ?_
      refine ih (i + 1) M64 (by omega) (by omega) ⟨fun j j0 j1 => ?_, fun k k0 k1 k2 => ?_⟩
      · rw [c64 38 (by decide), c49 38 (by decide), c64 39 (by decide)]
        by_cases q : j = i
        · subst q
          rw [a34, a49, a64, f54, c34 55 (by decide), f55, c49 57 (by decide), c34 57 (by decide), f57]
          exact ⟨rfl, rfl, rfl⟩
        · rw [b34 _ (by omega), b49 _ (by omega), b64 _ (by omega), c34 39 (by decide), c49 40 (by decide), c34 40 (by decide)]
          exact hL.1 j j0 (by omega)
      · rw [c64 k k2, c49 k k1, c34 k k0]
        exact hL.2 k k0 k1 k2
set_option maxRecDepth 100000 in
set_option maxHeartbeats 800000 in
theorem c_X8_layShadow (E : av_E) (d : Nat) (M : av_M) (hR : RWm M) (set : Int) (hset : 0 ≤ set ∧ set < 1024) (hon : ∀ j : Nat, set.toNat.testBit j = true → (j : Int) < M 35 23) (H : Int) (c : Nat → pt) (hH : Snd (RW M) (Sg set) → 0 ≤ H ∧ Hull (Shd (VX (RW M) (Sg set))) H.toNat c) : av_Mt E (d + 5) mX8_layShadow [vR 35, vI set] M (fun res M' => res = some (vI (b01 (Snd (RW M) (Sg set)))) ∧ (Snd (RW M) (Sg set) → LSm M' H c) ∧ LSk M M') := by
  have bs := b01_rng (Snd (RW M) (Sg set))
  refine av_enter hX8_layShadow oX8_layShadow rfl rfl ?_
  refine ax_aloadn rfl rfl ?_
  refine ax_iloadn rfl rfl ?_
  refine ax_callV (as := [_]) rfl vX8_258 hX8_isSound rfl rfl rfl rfl rfl (c_X8_isSound E d M hR set hset hon) (fun r2 M2 hr2 => ?_)
  obtain ⟨rfl, v1, v2, v3, v4⟩ := hr2
  refine ax_if_ne rfl (by omega) (fun h5 => ?_) (fun h5 => ?_)
  · refine ax_iconst rfl ?_
    refine ax_istoren (ls' := [(0, _), (1, _), (2, _)]) rfl rfl rfl ?_
    have hS := b01_ne (P := Snd (RW M) (Sg set)) (by omega)
    have hn : 0 < M2 35 26 := by
      obtain ⟨p, hp⟩ := hS.1
      obtain ⟨i, hi, -⟩ := (v2.2.2 p).mp hp
      omega
    refine av_Sw (l_X8_layShadow E d M2 set _ v1 v2 ⟨hn, v3⟩ H c (hH hS) (M2 35 26).toNat 0 M2 (by omega) (by omega) ⟨fun j j0 j1 => by omega, fun k _ _ _ => rfl⟩) ?_
    rintro r M' ⟨q1, q2, q3, q4, q5⟩
    refine ⟨by rw [q1, b01_t hS], fun _ => q2, fun f hf hf2 => by rw [q4 f hf hf2, v4.1 f hf2], fun k k0 k1 k2 k3 k4 k5 k6 k7 k8 => by rw [q5 k k0 k1 k2 k3 k4 k5 k6 k7 k8, v4.2 k k0 k5 k6 k7 k8]⟩
  · refine ax_iconst rfl ?_
    refine ax_zret rfl rfl (by omega) ?_
    refine ⟨by rw [show b01 (Snd (RW M) (Sg set)) = 0 by omega], fun q => absurd q (b01_eq (by omega)), fun f hf hf2 => v4.1 f hf2, fun k k0 k1 k2 k3 k4 k5 k6 k7 k8 => v4.2 k k0 k5 k6 k7 k8⟩
