/-! ===== the body carved anew ===== -/
def SPj (M : av_M) (i : Int) : pt → Prop := fun p => ∃ j, 0 ≤ j ∧ j < i ∧ p = P2 (M 19 (M 27 j)) (M 20 (M 27 j)) (M 22 (M 27 j))
def SVm (M : av_M) (set i : Int) : p3 → Prop := fun p => ∃ m, 0 ≤ m ∧ m < i ∧ IV (M 23) (M 24) m set ∧ p = pm M m
def BV (M : av_M) : p3 → Prop := VX (WM M) (Sg (M 13 5))
theorem SPj_in {M : av_M} {i : Int} (h : 0 ≤ i) : (fun q => SPj M i q ∨ q = P2 (M 19 (M 27 i)) (M 20 (M 27 i)) (M 22 (M 27 i))) = SPj M (i + 1) := by
  funext p
  apply propext
  constructor
  · rintro (⟨j, a, b, e⟩ | e)
    · exact ⟨j, a, by omega, e⟩
    · exact ⟨i, h, by omega, e⟩
  · rintro ⟨j, a, b, e⟩
    by_cases hj : j = i
    · exact Or.inr (by rw [e, hj])
    · exact Or.inl ⟨j, a, by omega, e⟩
theorem SPj_0 (M : av_M) : SPj M 0 = (fun _ => False) := by
  funext p
  apply propext
  exact ⟨fun ⟨j, a, b, _⟩ => by omega, fun h => h.elim⟩
theorem SPj_Shd {M : av_M} {ms : Int} {S : p3 → Prop} (hV : VE (M 27) (pm M) (M 12 4) ms S) : SPj M (M 12 4) = Shd S := by
  funext p
  apply propext
  constructor
  · rintro ⟨j, a, b, e⟩; exact ⟨_, VE_in hV a b, e⟩
  · rintro ⟨q, hq, e⟩
    obtain ⟨j, a, b, e2⟩ := (VE_ex hV).mp hq
    refine ⟨j, a, b, ?_⟩
    rw [e, e2]
    rfl
theorem SVm_all {M : av_M} (hT : MTI M (fun _ _ _ => True)) (hW : WI (M 14) (M 15) (M 16) (M 17) (M 13 4) (M 13 5)) (p : p3) : SVm M (M 13 5) (M 18 8) p ↔ BV M p := by
  have := VX_iff hT (set := M 13 5) hW.2.2.2.2.2 hW.2.1 p
  exact this.symm
theorem Snd_of {M : av_M} (hT : MTI M (fun _ _ _ => True)) (hR : MTR M (fun _ _ => True)) (hW : WI (M 14) (M 15) (M 16) (M 17) (M 13 4) (M 13 5)) : Snd (WM M) (Sg (M 13 5)) ↔ (∃ p, BV M p) ∧ ¬ IE (M 26) (M 18 9) (M 13 5) := by
  rw [← cEnd_iff (A := M 14) (B := M 15) (C := M 16) (D := M 17) hR (set := M 13 5) hW.2.2.2.2.2]
  exact Snd_iff (fun i hi => by have := hW.2.2.2.2.2 i hi; omega) (fun i hi => WI_nz hW i (hW.2.2.2.2.2 i hi))
set_option maxRecDepth 100000 in
set_option maxHeartbeats 800000 in
theorem l2_X0_carve (E : av_E) (d : Nat) (M : av_M) (S : p3 → Prop) (ms : Int) (hms : ms ≤ 120) (hR : MR M ms) (hV : VE (M 27) (pm M) (M 12 4) ms S) (hn : M 12 4 ≤ 120) : ∀ (t : Nat) (i : Int) (M1 : av_M), i + t = M 12 4 → 0 ≤ i → OE (M1 29) (M1 30) (M1 31) (M1 28 4) (SPj M i) → M1 28 4 ≤ i → (∀ k, k ≠ 28 → k ≠ 29 → k ≠ 30 → k ≠ 31 → M1 k = M k) → av_S E (d + 3) mX0_carve 89 [(0, vR 12), (1, vI i)] [] M1 (fun res M' => res = none ∧ OO (M' 29) (M' 30) (M' 31) (M' 32) (M' 28 4) (M' 28 5) (Shd S) ∧ M' 28 4 ≤ 120 ∧ ∀ k, k ≠ 28 → k ≠ 29 → k ≠ 30 → k ≠ 31 → k ≠ 32 → M' k = M k) := by
  intro t
  induction t with
  | zero =>
    intro i M1 hi i0 hE hle hf
    have f12 := hf 12 (by decide) (by decide) (by decide) (by decide)
    have ei : i = M 12 4 := by omega
    subst ei
    rw [SPj_Shd hV] at hE
    refine ax_iloadn rfl rfl ?_
    refine ax_aloadn rfl rfl ?_
    refine ax_getI (g := 4) rfl fX0_38 rfl rfl rfl rfl ?_
    refine ax_icmp_ge rfl (by omega) (by rw [f12]; omega) (fun h94 => ?_) (fun h94 => ?_)
    · refine ax_aloadn rfl rfl ?_
      refine ax_getR rfl fX0_34 rfl rfl ?_
      refine ax_callV (as := []) rfl vX0_98 hX4_wrap rfl rfl rfl rfl rfl (c_O_wrap E d M1 _ hE (by omega)) (fun r145 M145 hr145 => ?_)
      obtain ⟨rfl, g1, g2, g3, g4, g5, g6⟩ := hr145
      refine ax_vret rfl rfl ?_
      exact ⟨rfl, g1, by rw [g5 4 (by decide)]; omega, fun k k0 k1 k2 k3 k4 => by rw [g6 k k0 k4, hf k k0 k1 k2 k3]⟩
    · rw [f12] at h94; omega
  | succ t ih =>
    intro i M1 hi i0 hE hle hf
    have f12 := hf 12 (by decide) (by decide) (by decide) (by decide)
    have f27 := hf 27 (by decide) (by decide) (by decide) (by decide)
    have f19 := hf 19 (by decide) (by decide) (by decide) (by decide)
    have f20 := hf 20 (by decide) (by decide) (by decide) (by decide)
    have f22 := hf 22 (by decide) (by decide) (by decide) (by decide)
    have hv := hV.2.1 i i0 (by omega)
    have hb := hR _ hv.1 hv.2
    have hv1 : 0 ≤ M1 27 i ∧ M1 27 i < 120 := by rw [f27]; omega
    have hBP : BP (M1 19 (M1 27 i)) (M1 20 (M1 27 i)) (M1 22 (M1 27 i)) := by rw [f27, f19, f20, f22]; unfold BP; omega
    refine ax_iloadn rfl rfl ?_
    refine ax_aloadn rfl rfl ?_
    refine ax_getI (g := 4) rfl fX0_38 rfl rfl rfl rfl ?_
    refine ax_icmp_ge rfl (by omega) (by rw [f12]; omega) (fun h94 => ?_) (fun h94 => ?_)
    · rw [f12] at h94; omega
    · refine ax_aloadn rfl rfl ?_
      refine ax_getR rfl fX0_25 rfl rfl ?_
      refine ax_iloadn rfl rfl ?_
      refine ax_iald rfl rfl (by omega) ?_
      refine ax_istoren (ls' := [(0, _), (1, _), (2, _)]) rfl rfl rfl ?_
      refine ax_aloadn rfl rfl ?_
      refine ax_getR rfl fX0_34 rfl rfl ?_
      refine ax_aloadn rfl rfl ?_
      refine ax_getR rfl fX0_21 rfl rfl ?_
      refine ax_iloadn rfl rfl ?_
      refine ax_callV (as := [_]) rfl vX0_85 hX3_xOf rfl rfl rfl rfl rfl (c_X3_xOf E (d + 2) M1 _ hv1) (av_Xk ?_)
      refine ax_aloadn rfl rfl ?_
      refine ax_getR rfl fX0_21 rfl rfl ?_
      refine ax_iloadn rfl rfl ?_
      refine ax_callV (as := [_]) rfl vX0_89 hX3_yOf rfl rfl rfl rfl rfl (c_X3_yOf E (d + 2) M1 _ hv1) (av_Xk ?_)
      refine ax_aloadn rfl rfl ?_
      refine ax_getR rfl fX0_21 rfl rfl ?_
      refine ax_iloadn rfl rfl ?_
      refine ax_callV (as := [_]) rfl vX0_92 hX3_wOf rfl rfl rfl rfl rfl (c_X3_wOf E (d + 2) M1 _ hv1) (av_Xk ?_)
      refine ax_callV (as := [_, _, _]) rfl vX0_95 hX4_add rfl rfl rfl rfl rfl (c_O_add E d M1 _ _ _ _ hBP hE (by omega)) (fun r132 M132 hr132 => ?_)
      obtain ⟨rfl, g1, g2, g3, g4, g5, g6⟩ := hr132
      refine ax_iinc (ls' := [(0, _), (1, _), (2, _)]) rfl rfl rfl rfl ?_
      refine ax_goto rfl ?_
      refine ax_pick [0, 1] rfl ?_
      refine ih _ M132 (by omega) (by omega) ?_ (by omega) (fun k k0 k1 k2 k3 => by rw [g5 k k0 k1 k2 k3, hf k k0 k1 k2 k3])
      rw [f27, f19, f20, f22, SPj_in i0] at g3
      exact g3
set_option maxRecDepth 100000 in
set_option maxHeartbeats 800000 in
theorem s_X0_carve (E : av_E) (d : Nat) (M : av_M) (z : Int) (S : p3 → Prop) (ms : Int) (hms : ms ≤ 120) (hR : MR M ms) (hV : VE (M 27) (pm M) (M 12 4) ms S) (hn : M 12 4 ≤ 120) : av_S E (d + 3) mX0_carve 80 [(0, vR 12), (1, vI z)] [] M (fun res M' => res = none ∧ OO (M' 29) (M' 30) (M' 31) (M' 32) (M' 28 4) (M' 28 5) (Shd S) ∧ M' 28 4 ≤ 120 ∧ ∀ k, k ≠ 28 → k ≠ 29 → k ≠ 30 → k ≠ 31 → k ≠ 32 → M' k = M k) := by
  refine ax_aloadn rfl rfl ?_
  refine ax_getR rfl fX0_34 rfl rfl ?_
  refine ax_callV (as := []) rfl vX0_82 hX4_empty rfl rfl rfl rfl rfl (c_O_empty E (d + 2) M) (fun r84 M84 hr84 => ?_)
  obtain ⟨rfl, e1, e2, e3⟩ := hr84
  refine ax_iconst rfl ?_
  refine ax_istoren (ls' := [(0, _), (1, _)]) rfl rfl rfl ?_
  have h0 := hV.1
  refine l2_X0_carve E d M S ms hms hR hV hn (M 12 4).toNat 0 M84 (by omega) (by omega) ?_ (by omega) (fun k k0 k1 k2 k3 => e3 k k0)
  rw [e1, SPj_0]
  exact OE_nil _ _ _
set_option maxRecDepth 100000 in
set_option maxHeartbeats 800000 in
theorem l1_X0_carve (E : av_E) (d : Nat) (M : av_M) (hW : WI (M 14) (M 15) (M 16) (M 17) (M 13 4) (M 13 5)) (hT : MTI M (fun _ _ _ => True)) (hR : MTR M (fun _ _ => True)) (h8 : M 18 8 ≤ 120) (h9 : M 18 9 ≤ 90) : ∀ (t : Nat) (i : Int) (M1 : av_M), i + t = M 18 8 → 0 ≤ i → VE (M1 27) (pm M) (M1 12 4) (M 18 8) (SVm M (M 13 5) i) → M1 12 4 ≤ i → (∀ k, k ≠ 12 → k ≠ 27 → M1 k = M k) → av_S E (d + 3) mX0_carve 7 [(0, vR 12), (1, vI i)] [] M1 (fun res M' => res = none ∧ VE (M' 27) (pm M) (M' 12 4) (M 18 8) (BV M) ∧ M' 12 4 ≤ 120 ∧ M' 12 5 = b01 (Snd (WM M) (Sg (M 13 5))) ∧ OO (M' 29) (M' 30) (M' 31) (M' 32) (M' 28 4) (M' 28 5) (Shd (BV M)) ∧ M' 28 4 ≤ 120 ∧ ∀ k, k ≠ 12 → k ≠ 27 → k ≠ 28 → k ≠ 29 → k ≠ 30 → k ≠ 31 → k ≠ 32 → M' k = M k) := by
  have hsnd := Snd_of hT hR hW
  intro t
  induction t with
  | zero =>
    intro i M1 hi i0 hV hle hf
    have ei : i = M 18 8 := by omega
    subst ei
    have f18 := hf 18 (by decide) (by decide)
    have f13 := hf 13 (by decide) (by decide)
    have f26 := hf 26 (by decide) (by decide)
    have hV2 : VE (M1 27) (pm M) (M1 12 4) (M 18 8) (BV M) := VE_congr hV (fun _ _ _ => rfl) (SVm_all hT hW)
    have hex : 0 < M1 12 4 → ∃ p, BV M p := fun h => ⟨_, VE_in hV2 (Int.le_refl 0) h⟩
    have hne : (∃ p, BV M p) → 0 < M1 12 4 := fun ⟨p, hp⟩ => by
      obtain ⟨j, j0, j1, _⟩ := (VE_ex hV2).mp hp
      omega
    have hv0 := hV.1
    have b1 := b01_rng (IE (M1 26) (M1 18 9) (M1 13 5))
    have h90 := hR.1
    refine ax_iloadn rfl rfl ?_
    refine ax_aloadn rfl rfl ?_
    refine ax_getR rfl fX0_21 rfl rfl ?_
    refine ax_callV (as := []) rfl vX0_65 hX3_size rfl rfl rfl rfl rfl (c_X3_size E (d + 2) M1) (av_Xk ?_)
    refine ax_icmp_ge rfl (by omega) (by rw [f18]; omega) (fun h15 => ?_) (fun h15 => ?_)
    · refine ax_aloadn rfl rfl ?_
      refine ax_aloadn rfl rfl ?_
      refine ax_getI (g := 4) rfl fX0_38 rfl rfl rfl rfl ?_
      refine ax_if_le rfl (by omega) (fun h52 => ?_) (fun h52 => ?_)
      · refine ax_iconst rfl ?_
        refine ax_putZ' (g := 5) rfl gX0_42 rfl rfl rfl (by omega) rfl (fun M77 a77 b77 c77 => ?_)
        have ew : WM M77 = WM M := by unfold WM; rw [c77 14 (by decide), c77 15 (by decide), c77 16 (by decide), c77 17 (by decide), hf 14 (by decide) (by decide), hf 15 (by decide) (by decide), hf 16 (by decide) (by decide), hf 17 (by decide) (by decide)]
        have ep : pm M77 = pm M := by unfold pm; rw [c77 19 (by decide), c77 20 (by decide), c77 21 (by decide), c77 22 (by decide), hf 19 (by decide) (by decide), hf 20 (by decide) (by decide), hf 21 (by decide) (by decide), hf 22 (by decide) (by decide)]
        have e4 : M77 12 4 = M1 12 4 := b77 4 (by decide)
        have e27 : M77 27 = M1 27 := c77 27 (by decide)
        have hV7 : VE (M77 27) (pm M77) (M77 12 4) (M 18 8) (BV M) := by rw [ep, e4, e27]; exact hV2
        have hR7 : MR M77 (M 18 8) := by
          intro m m0 m1
          rw [c77 19 (by decide), c77 20 (by decide), c77 21 (by decide), c77 22 (by decide), hf 19 (by decide) (by decide), hf 20 (by decide) (by decide), hf 21 (by decide) (by decide), hf 22 (by decide) (by decide)]
          exact MTI_rng hT m m0 m1
        have hs7 : M77 12 5 = b01 (Snd (WM M) (Sg (M 13 5))) := by
          rw [a77]
          first
            | exact (b01_t (hsnd.mpr ⟨(hex (by omega)), fun q => by
                rw [f26, f13, f18] at h69
                rw [b01_t q] at h69; omega⟩)).symm
            | exact (b01_f (fun q => by have := hne (hsnd.mp q).1; omega)).symm
            | exact (b01_f (fun q => by
                rw [f26, f13, f18] at h69
                exact (hsnd.mp q).2 (b01_ne (by omega)))).symm
        refine ax_post (s_X0_carve E d M77 _ (BV M) (M 18 8) h8 hR7 hV7 (by rw [e4]; omega)) ?_
        rintro r M' ⟨rfl, q1, q2, q3⟩
        refine ⟨rfl, ?_, ?_, ?_, q1, q2, fun k k0 k1 k2 k3 k4 k5 k6 => by rw [q3 k k2 k3 k4 k5 k6, c77 k k0, hf k k0 k1]⟩
        · rw [q3 27 (by decide) (by decide) (by decide) (by decide) (by decide), q3 12 (by decide) (by decide) (by decide) (by decide) (by decide), e4, e27]; exact hV2
        · rw [q3 12 (by decide) (by decide) (by decide) (by decide) (by decide), e4]; omega
        · rw [q3 12 (by decide) (by decide) (by decide) (by decide) (by decide)]; exact hs7
      · refine ax_aloadn rfl rfl ?_
        refine ax_getR rfl fX0_21 rfl rfl ?_
        refine ax_aloadn rfl rfl ?_
        refine ax_getR rfl fX0_12 rfl rfl ?_
        refine ax_callV (as := []) rfl vX0_68 hX6_onSet rfl rfl rfl rfl rfl (c_X6_onSet E (d + 2) M1) (av_Xk ?_)
        refine ax_callV (as := [_]) rfl vX0_78 hX3_isEndless rfl rfl rfl rfl rfl (c_X3_isEndless E (d + 2) M1 _ (by rw [f13]; exact ⟨hW.2.2.2.1, hW.2.2.2.2.1⟩) (by rw [f18]; omega) (fun r r0 r1 => by rw [f18] at r1; rw [f26]; exact MTR_bits hR r0 r1)) (av_Xk ?_)
        refine ax_if_ne rfl (by omega) (fun h69 => ?_) (fun h69 => ?_)
        · refine ax_iconst rfl ?_
          refine ax_putZ' (g := 5) rfl gX0_42 rfl rfl rfl (by omega) rfl (fun M77 a77 b77 c77 => ?_)
          have ew : WM M77 = WM M := by unfold WM; rw [c77 14 (by decide), c77 15 (by decide), c77 16 (by decide), c77 17 (by decide), hf 14 (by decide) (by decide), hf 15 (by decide) (by decide), hf 16 (by decide) (by decide), hf 17 (by decide) (by decide)]
          have ep : pm M77 = pm M := by unfold pm; rw [c77 19 (by decide), c77 20 (by decide), c77 21 (by decide), c77 22 (by decide), hf 19 (by decide) (by decide), hf 20 (by decide) (by decide), hf 21 (by decide) (by decide), hf 22 (by decide) (by decide)]
          have e4 : M77 12 4 = M1 12 4 := b77 4 (by decide)
          have e27 : M77 27 = M1 27 := c77 27 (by decide)
          have hV7 : VE (M77 27) (pm M77) (M77 12 4) (M 18 8) (BV M) := by rw [ep, e4, e27]; exact hV2
          have hR7 : MR M77 (M 18 8) := by
            intro m m0 m1
            rw [c77 19 (by decide), c77 20 (by decide), c77 21 (by decide), c77 22 (by decide), hf 19 (by decide) (by decide), hf 20 (by decide) (by decide), hf 21 (by decide) (by decide), hf 22 (by decide) (by decide)]
            exact MTI_rng hT m m0 m1
          have hs7 : M77 12 5 = b01 (Snd (WM M) (Sg (M 13 5))) := by
            rw [a77]
            first
              | exact (b01_t (hsnd.mpr ⟨(hex (by omega)), fun q => by
                  rw [f26, f13, f18] at h69
                  rw [b01_t q] at h69; omega⟩)).symm
              | exact (b01_f (fun q => by have := hne (hsnd.mp q).1; omega)).symm
              | exact (b01_f (fun q => by
                  rw [f26, f13, f18] at h69
                  exact (hsnd.mp q).2 (b01_ne (by omega)))).symm
          refine ax_post (s_X0_carve E d M77 _ (BV M) (M 18 8) h8 hR7 hV7 (by rw [e4]; omega)) ?_
          rintro r M' ⟨rfl, q1, q2, q3⟩
          refine ⟨rfl, ?_, ?_, ?_, q1, q2, fun k k0 k1 k2 k3 k4 k5 k6 => by rw [q3 k k2 k3 k4 k5 k6, c77 k k0, hf k k0 k1]⟩
          · rw [q3 27 (by decide) (by decide) (by decide) (by decide) (by decide), q3 12 (by decide) (by decide) (by decide) (by decide) (by decide), e4, e27]; exact hV2
          · rw [q3 12 (by decide) (by decide) (by decide) (by decide) (by decide), e4]; omega
          · rw [q3 12 (by decide) (by decide) (by decide) (by decide) (by decide)]; exact hs7
        · refine ax_iconst rfl ?_
          refine ax_goto rfl ?_
          refine ax_putZ' (g := 5) rfl gX0_42 rfl rfl rfl (by omega) rfl (fun M77 a77 b77 c77 => ?_)
          have ew : WM M77 = WM M := by unfold WM; rw [c77 14 (by decide), c77 15 (by decide), c77 16 (by decide), c77 17 (by decide), hf 14 (by decide) (by decide), hf 15 (by decide) (by decide), hf 16 (by decide) (by decide), hf 17 (by decide) (by decide)]
          have ep : pm M77 = pm M := by unfold pm; rw [c77 19 (by decide), c77 20 (by decide), c77 21 (by decide), c77 22 (by decide), hf 19 (by decide) (by decide), hf 20 (by decide) (by decide), hf 21 (by decide) (by decide), hf 22 (by decide) (by decide)]
          have e4 : M77 12 4 = M1 12 4 := b77 4 (by decide)
          have e27 : M77 27 = M1 27 := c77 27 (by decide)
          have hV7 : VE (M77 27) (pm M77) (M77 12 4) (M 18 8) (BV M) := by rw [ep, e4, e27]; exact hV2
          have hR7 : MR M77 (M 18 8) := by
            intro m m0 m1
            rw [c77 19 (by decide), c77 20 (by decide), c77 21 (by decide), c77 22 (by decide), hf 19 (by decide) (by decide), hf 20 (by decide) (by decide), hf 21 (by decide) (by decide), hf 22 (by decide) (by decide)]
            exact MTI_rng hT m m0 m1
          have hs7 : M77 12 5 = b01 (Snd (WM M) (Sg (M 13 5))) := by
            rw [a77]
            first
              | exact (b01_t (hsnd.mpr ⟨(hex (by omega)), fun q => by
                  rw [f26, f13, f18] at h69
                  rw [b01_t q] at h69; omega⟩)).symm
              | exact (b01_f (fun q => by have := hne (hsnd.mp q).1; omega)).symm
              | exact (b01_f (fun q => by
                  rw [f26, f13, f18] at h69
                  exact (hsnd.mp q).2 (b01_ne (by omega)))).symm
          refine ax_post (s_X0_carve E d M77 _ (BV M) (M 18 8) h8 hR7 hV7 (by rw [e4]; omega)) ?_
          rintro r M' ⟨rfl, q1, q2, q3⟩
          refine ⟨rfl, ?_, ?_, ?_, q1, q2, fun k k0 k1 k2 k3 k4 k5 k6 => by rw [q3 k k2 k3 k4 k5 k6, c77 k k0, hf k k0 k1]⟩
          · rw [q3 27 (by decide) (by decide) (by decide) (by decide) (by decide), q3 12 (by decide) (by decide) (by decide) (by decide) (by decide), e4, e27]; exact hV2
          · rw [q3 12 (by decide) (by decide) (by decide) (by decide) (by decide), e4]; omega
          · rw [q3 12 (by decide) (by decide) (by decide) (by decide) (by decide)]; exact hs7
    · rw [f18] at h15; omega
  | succ t ih =>
    intro i M1 hi i0 hV hle hf
    have f18 := hf 18 (by decide) (by decide)
    have f13 := hf 13 (by decide) (by decide)
    have f23 := hf 23 (by decide) (by decide)
    have f24 := hf 24 (by decide) (by decide)
    have ep : pm M1 = pm M := by unfold pm; rw [hf 19 (by decide) (by decide), hf 20 (by decide) (by decide), hf 21 (by decide) (by decide), hf 22 (by decide) (by decide)]
    have bb := MTI_bits hT i0 (by omega)
    have hR1 : MR M1 (M 18 8) := by
      intro m m0 m1
      rw [hf 19 (by decide) (by decide), hf 20 (by decide) (by decide), hf 21 (by decide) (by decide), hf 22 (by decide) (by decide)]
      exact MTI_rng hT m m0 m1
    have hV1 : VE (M1 27) (pm M1) (M1 12 4) (M 18 8) (SVm M (M 13 5) i) := by rw [ep]; exact hV
    have b1 := b01_rng (IV (M1 23) (M1 24) i (M1 13 5))
    have iv : IV (M1 23) (M1 24) i (M1 13 5) ↔ IV (M 23) (M 24) i (M 13 5) := by rw [f23, f24, f13]
    refine ax_iloadn rfl rfl ?_
    refine ax_aloadn rfl rfl ?_
    refine ax_getR rfl fX0_21 rfl rfl ?_
    refine ax_callV (as := []) rfl vX0_65 hX3_size rfl rfl rfl rfl rfl (c_X3_size E (d + 2) M1) (av_Xk ?_)
    refine ax_icmp_ge rfl (by omega) (by rw [f18]; omega) (fun h15 => ?_) (fun h15 => ?_)
    · rw [f18] at h15; omega
    · refine ax_aloadn rfl rfl ?_
      refine ax_getR rfl fX0_21 rfl rfl ?_
      refine ax_iloadn rfl rfl ?_
      refine ax_aloadn rfl rfl ?_
      refine ax_getR rfl fX0_12 rfl rfl ?_
      refine ax_callV (as := []) rfl vX0_68 hX6_onSet rfl rfl rfl rfl rfl (c_X6_onSet E (d + 2) M1) (av_Xk ?_)
      refine ax_callV (as := [_, _]) rfl vX0_71 hX3_isVertex rfl rfl rfl rfl rfl (c_X3_isVertex E (d + 1) M1 i _ (by omega) (by rw [f23]; exact bb.1) (by rw [f13]; exact ⟨hW.2.2.2.1, hW.2.2.2.2.1⟩) (by rw [f24]; exact bb.2.1)) (av_Xk ?_)
      refine ax_if_eq rfl (by omega) (fun h33 => ?_) (fun h33 => ?_)
      · refine ax_iinc (ls' := [(0, _), (1, _)]) rfl rfl rfl rfl ?_
        refine ax_goto rfl ?_
        first
          | (refine ih _ M38 (by omega) (by omega) ?_ (by omega) (fun k k0 k1 => by rw [g5 k k0 k1, hf k k0 k1])
             rw [ep] at g3
             refine VE_congr g3 (fun _ _ _ => rfl) (fun p => ?_)
             constructor
             · rintro (⟨m, m0, m1, q, e⟩ | e)
               · exact ⟨m, m0, by omega, q, e⟩
               · exact ⟨i, i0, by omega, iv.mp (b01_ne h33), e⟩
             · rintro ⟨m, m0, m1, q, e⟩
               by_cases hm : m = i
               · exact Or.inr (by rw [e, hm])
               · exact Or.inl ⟨m, m0, by omega, q, e⟩)
          | (refine ih _ M1 (by omega) (by omega) ?_ (by omega) hf
             refine VE_congr hV (fun _ _ _ => rfl) (fun p => ?_)
             constructor
             · rintro ⟨m, m0, m1, q, e⟩
               exact ⟨m, m0, by omega, q, e⟩
             · rintro ⟨m, m0, m1, q, e⟩
               by_cases hm : m = i
               · exact absurd (iv.mpr (by rw [← hm]; exact q)) (b01_eq h33)
               · exact ⟨m, m0, by omega, q, e⟩)
      · refine ax_aloadn rfl rfl ?_
        refine ax_iloadn rfl rfl ?_
        refine ax_callV (as := [_]) rfl vX0_75 hX0_addVertex rfl rfl rfl rfl rfl (c_X0_addVertex E d M1 _ i (M 18 8) h8 hR1 ⟨i0, by omega⟩ hV1 (by omega)) (fun r38 M38 hr38 => ?_)
        obtain ⟨rfl, g1, g2, g3, g4, g5⟩ := hr38
        refine ax_iinc (ls' := [(0, _), (1, _)]) rfl rfl rfl rfl ?_
        refine ax_goto rfl ?_
        first
          | (refine ih _ M38 (by omega) (by omega) ?_ (by omega) (fun k k0 k1 => by rw [g5 k k0 k1, hf k k0 k1])
             rw [ep] at g3
             refine VE_congr g3 (fun _ _ _ => rfl) (fun p => ?_)
             constructor
             · rintro (⟨m, m0, m1, q, e⟩ | e)
               · exact ⟨m, m0, by omega, q, e⟩
               · exact ⟨i, i0, by omega, iv.mp (b01_ne h33), e⟩
             · rintro ⟨m, m0, m1, q, e⟩
               by_cases hm : m = i
               · exact Or.inr (by rw [e, hm])
               · exact Or.inl ⟨m, m0, by omega, q, e⟩)
          | (refine ih _ M1 (by omega) (by omega) ?_ (by omega) hf
             refine VE_congr hV (fun _ _ _ => rfl) (fun p => ?_)
             constructor
             · rintro ⟨m, m0, m1, q, e⟩
               exact ⟨m, m0, by omega, q, e⟩
             · rintro ⟨m, m0, m1, q, e⟩
               by_cases hm : m = i
               · exact absurd (iv.mpr (by rw [← hm]; exact q)) (b01_eq h33)
               · exact ⟨m, m0, by omega, q, e⟩)
set_option maxRecDepth 100000 in
set_option maxHeartbeats 800000 in
theorem c_X0_carve (E : av_E) (d : Nat) (M : av_M) (hW : WI (M 14) (M 15) (M 16) (M 17) (M 13 4) (M 13 5)) (hT : MTI M (fun _ _ _ => True)) (hR : MTR M (fun _ _ => True)) (h8 : M 18 8 ≤ 120) (h9 : M 18 9 ≤ 90) : av_Mt E (d + 3) mX0_carve [vR 12] M (fun res M' => res = none ∧ VE (M' 27) (pm M) (M' 12 4) (M 18 8) (BV M) ∧ M' 12 4 ≤ 120 ∧ M' 12 5 = b01 (Snd (WM M) (Sg (M 13 5))) ∧ OO (M' 29) (M' 30) (M' 31) (M' 32) (M' 28 4) (M' 28 5) (Shd (BV M)) ∧ M' 28 4 ≤ 120 ∧ ∀ k, k ≠ 12 → k ≠ 27 → k ≠ 28 → k ≠ 29 → k ≠ 30 → k ≠ 31 → k ≠ 32 → M' k = M k) := by
  have h80 := hT.1
  refine av_enter hX0_carve oX0_carve rfl rfl ?_
  refine ax_aloadn rfl rfl ?_
  refine ax_iconst rfl ?_
  refine ax_putI' (g := 4) rfl gX0_38 rfl rfl rfl rfl (fun M2 a2 b2 c2 => ?_)
  refine ax_iconst rfl ?_
  refine ax_istoren (ls' := [(0, _), (1, _)]) rfl rfl rfl ?_
  refine l1_X0_carve E d M hW hT hR h8 h9 (M 18 8).toNat 0 M2 (by omega) (by omega) ?_ (by omega) (fun k k0 k1 => c2 k k0)
  rw [a2]
  have e : SVm M (M 13 5) 0 = (fun _ => False) := by
    funext p
    apply propext
    exact ⟨fun ⟨j, a, b, _⟩ => by omega, fun h => h.elim⟩
  rw [e]
  exact VE_nil _ _ _
