/-! ===== a wall put, pushed, turned: the body follows ===== -/
def WIm (M : av_M) : Prop := WI (M 14) (M 15) (M 16) (M 17) (M 13 4) (M 13 5)
def MIm (M : av_M) : Prop := MTI M (fun _ _ _ => True) ∧ MTR M (fun _ _ => True) ∧ M 18 8 ≤ 120 ∧ M 18 9 ≤ 90
def BIm (M : av_M) : Prop := VE (M 27) (pm M) (M 12 4) (M 18 8) (BV M) ∧ M 12 4 ≤ 120 ∧ M 12 5 = b01 (Snd (WM M) (Sg (M 13 5))) ∧ OO (M 29) (M 30) (M 31) (M 32) (M 28 4) (M 28 5) (Shd (BV M)) ∧ M 28 4 ≤ 120
def BI (M : av_M) : Prop := WIm M ∧ MIm M ∧ BIm M
theorem WIm_congr {M M' : av_M} (h : WIm M) (e : ∀ k, 13 ≤ k → k ≤ 17 → M' k = M k) : WIm M' := by
  unfold WIm
  rw [e 13 (by decide) (by decide), e 14 (by decide) (by decide), e 15 (by decide) (by decide), e 16 (by decide) (by decide), e 17 (by decide) (by decide)]
  exact h
theorem MIm_congr {M M' : av_M} (h : MIm M) (e : ∀ k, 14 ≤ k → k ≤ 26 → M' k = M k) (e13 : M' 13 4 = M 13 4) : MIm M' := by
  unfold MIm MTI MTR
  rw [e13, e 14 (by decide) (by decide), e 15 (by decide) (by decide), e 16 (by decide) (by decide), e 17 (by decide) (by decide), e 18 (by decide) (by decide), e 19 (by decide) (by decide), e 20 (by decide) (by decide), e 21 (by decide) (by decide), e 22 (by decide) (by decide), e 23 (by decide) (by decide), e 24 (by decide) (by decide), e 25 (by decide) (by decide), e 26 (by decide) (by decide)]
  exact h
theorem WM_congr {M M' : av_M} (e : ∀ k, 14 ≤ k → k ≤ 17 → M' k = M k) : WM M' = WM M := by
  unfold WM
  rw [e 14 (by decide) (by decide), e 15 (by decide) (by decide), e 16 (by decide) (by decide), e 17 (by decide) (by decide)]
theorem pm_congr {M M' : av_M} (e : ∀ k, 19 ≤ k → k ≤ 22 → M' k = M k) : pm M' = pm M := by
  unfold pm
  rw [e 19 (by decide) (by decide), e 20 (by decide) (by decide), e 21 (by decide) (by decide), e 22 (by decide) (by decide)]
theorem BI_congr {M M' : av_M} (h : BI M) (e : ∀ k, 12 ≤ k → k ≤ 32 → M' k = M k) : BI M' := by
  obtain ⟨h1, h2, h3⟩ := h
  refine ⟨WIm_congr h1 (fun k a b => e k (by omega) (by omega)), MIm_congr h2 (fun k a b => e k (by omega) (by omega)) (by rw [e 13 (by decide) (by decide)]), ?_⟩
  have w := WM_congr (M := M) (M' := M') (fun k a b => e k (by omega) (by omega))
  have p := pm_congr (M := M) (M' := M') (fun k a b => e k (by omega) (by omega))
  unfold BIm BV
  rw [w, p, e 12 (by decide) (by decide), e 13 (by decide) (by decide), e 18 (by decide) (by decide), e 27 (by decide) (by decide), e 28 (by decide) (by decide), e 29 (by decide) (by decide), e 30 (by decide) (by decide), e 31 (by decide) (by decide), e 32 (by decide) (by decide)]
  exact h3
theorem carved {M : av_M} {res : Option av_V} {M' : av_M} (hW : WIm M) (hM : MIm M) (h : VE (M' 27) (pm M) (M' 12 4) (M 18 8) (BV M) ∧ M' 12 4 ≤ 120 ∧ M' 12 5 = b01 (Snd (WM M) (Sg (M 13 5))) ∧ OO (M' 29) (M' 30) (M' 31) (M' 32) (M' 28 4) (M' 28 5) (Shd (BV M)) ∧ M' 28 4 ≤ 120 ∧ ∀ k, k ≠ 12 → k ≠ 27 → k ≠ 28 → k ≠ 29 → k ≠ 30 → k ≠ 31 → k ≠ 32 → M' k = M k) : BI M' ∧ (∀ k, 13 ≤ k → k ≤ 26 → M' k = M k) ∧ ∀ k, k < 12 ∨ 32 < k → M' k = M k := by
  obtain ⟨h1, h2, h3, h4, h5, hf⟩ := h
  have e : ∀ k, 13 ≤ k → k ≤ 26 → M' k = M k := fun k a b => hf k (by omega) (by omega) (by omega) (by omega) (by omega) (by omega) (by omega)
  refine ⟨⟨WIm_congr hW (fun k a b => e k a (by omega)), MIm_congr hM (fun k a b => e k (by omega) b) (by rw [e 13 (by decide) (by decide)]), ?_⟩, e, fun k hk => hf k (by omega) (by omega) (by omega) (by omega) (by omega) (by omega) (by omega)⟩
  have w := WM_congr (M := M) (M' := M') (fun k a b => e k (by omega) (by omega))
  have p := pm_congr (M := M) (M' := M') (fun k a b => e k (by omega) (by omega))
  unfold BIm
  have bv : BV M' = BV M := by unfold BV; rw [w, e 13 (by decide) (by decide)]
  rw [bv, w, p, e 13 (by decide) (by decide), e 18 (by decide) (by decide)]
  exact ⟨h1, h2, h3, h4, h5⟩
/-- what a wall more is -/
def WA (M M' : av_M) (a b c e : Int) : Prop := M' 13 4 = M 13 4 + 1 ∧ (∀ j : Nat, (M' 13 5).toNat.testBit j = if (j : Int) = M 13 4 then true else (M 13 5).toNat.testBit j) ∧ (M' 14 (M 13 4) = a ∧ ∀ j, j ≠ M 13 4 → M' 14 j = M 14 j) ∧ (M' 15 (M 13 4) = b ∧ ∀ j, j ≠ M 13 4 → M' 15 j = M 15 j) ∧ (M' 16 (M 13 4) = c ∧ ∀ j, j ≠ M 13 4 → M' 16 j = M 16 j) ∧ (M' 17 (M 13 4) = e ∧ ∀ j, j ≠ M 13 4 → M' 17 j = M 17 j)
def WP (M M' : av_M) (w v : Int) : Prop := M' 13 = M 13 ∧ M' 14 = M 14 ∧ M' 15 = M 15 ∧ M' 16 = M 16 ∧ M' 17 w = v ∧ ∀ j, j ≠ w → M' 17 j = M 17 j
def WT (M M' : av_M) (w t : Int) : Prop := M' 13 4 = M 13 4 ∧ (∀ j : Nat, (M' 13 5).toNat.testBit j = if (j : Int) = w then decide (t = 1) else (M 13 5).toNat.testBit j) ∧ M' 14 = M 14 ∧ M' 15 = M 15 ∧ M' 16 = M 16 ∧ M' 17 = M 17
set_option maxRecDepth 100000 in
set_option maxHeartbeats 800000 in
theorem c_X0_build (E : av_E) (d : Nat) (M : av_M) (a b c e : Int) (hB : BI M) (hs : M 13 4 < 10) (ha : -9 ≤ a ∧ a ≤ 9) (hb : -9 ≤ b ∧ b ≤ 9) (hc : -9 ≤ c ∧ c ≤ 9) (he : -99 ≤ e ∧ e ≤ 99) (hz : ¬ (a = 0 ∧ b = 0 ∧ c = 0)) : av_Mt E (d + 4) mX0_build [vR 12, vI a, vI b, vI c, vI e] M (fun res M' => res = some (vI (M 13 4)) ∧ BI M' ∧ WA M M' a b c e ∧ ∀ k, k < 12 ∨ 32 < k → M' k = M k) := by
  have hW := hB.1
  refine av_enter hX0_build oX0_build rfl rfl ?_
  refine ax_aloadn rfl rfl ?_
  refine ax_getR rfl fX0_12 rfl rfl ?_
  refine ax_iloadn rfl rfl ?_
  refine ax_iloadn rfl rfl ?_
  refine ax_iloadn rfl rfl ?_
  refine ax_iload rfl rfl ?_
  refine ax_callV (as := [_, _, _, _]) rfl vX0_46 hX6_add rfl rfl rfl rfl rfl (c_X6_add E (d + 1) M a b c e ⟨hW.1, hs⟩ hW.2.2.2.1 hW.2.2.2.2.1) (fun r9 M9 hr9 => ?_)
  obtain ⟨rfl, g1, g2, g3, g4, g5, g6, g7, g8, g9⟩ := hr9
  have hW9 : WIm M9 := by
    refine ⟨by have := hW.1; omega, by omega, fun j j0 j1 => ?_, g2, g3, fun j hj => ?_⟩
    · by_cases hj : j = M 13 4
      · rw [hj, g5.1, g6.1, g7.1, g8.1]; exact ⟨ha, hb, hc, he, hz⟩
      · rw [g5.2 j hj, g6.2 j hj, g7.2 j hj, g8.2 j hj]; exact hW.2.2.1 j j0 (by omega)
    · rw [g4 j] at hj
      by_cases hj2 : (j : Int) = M 13 4
      · omega
      · rw [if_neg hj2] at hj
        have := hW.2.2.2.2.2 j hj
        omega
  refine ax_istore (ls' := [(0, _), (1, _), (2, _), (3, _), (4, _), (5, _)]) rfl rfl rfl ?_
  refine ax_aloadn rfl rfl ?_
  refine ax_getR rfl fX0_21 rfl rfl ?_
  refine ax_aloadn rfl rfl ?_
  refine ax_getR rfl fX0_12 rfl rfl ?_
  refine ax_callV (as := [_]) rfl vX0_50 hX3_find rfl rfl rfl rfl rfl (c_X3_find E d M9 hW9) (fun r22 M22 hr22 => ?_)
  obtain ⟨rfl, p1, p2, p3, p4, p5⟩ := hr22
  have e9 : ∀ k, 13 ≤ k → k ≤ 17 → M22 k = M9 k := fun k k0 k1 => p5 k (by omega) (by omega) (by omega) (by omega) (by omega) (by omega) (by omega) (by omega) (by omega)
  have hW22 := WIm_congr hW9 e9
  have hM22 : MIm M22 := ⟨p1, p2, p3, p4⟩
  refine ax_aloadn rfl rfl ?_
  refine ax_callV (as := []) rfl vX0_54 hX0_carve rfl rfl rfl rfl rfl (c_X0_carve E d M22 hW22 p1 p2 p3 p4) (fun r26 M26 hr26 => ?_)
  obtain ⟨rfl, hq⟩ := hr26
  obtain ⟨q1, q2, q3⟩ := carved (res := none) hW22 hM22 hq
  refine ax_iload rfl rfl ?_
  refine ax_iret rfl rfl ?_
  have e26 : ∀ k, 13 ≤ k → k ≤ 17 → M26 k = M9 k := fun k k0 k1 => by rw [q2 k k0 (by omega), e9 k k0 k1]
  refine ⟨rfl, q1, ?_, fun k hk => by rw [q3 k hk, p5 k (by omega) (by omega) (by omega) (by omega) (by omega) (by omega) (by omega) (by omega) (by omega), g9 k (by omega) (by omega) (by omega) (by omega) (by omega)]⟩
  unfold WA
  rw [e26 13 (by decide) (by decide), e26 14 (by decide) (by decide), e26 15 (by decide) (by decide), e26 16 (by decide) (by decide), e26 17 (by decide) (by decide)]
  exact ⟨g1, g4, g5, g6, g7, g8⟩
set_option maxRecDepth 100000 in
set_option maxHeartbeats 800000 in
theorem c_X0_push (E : av_E) (d : Nat) (M : av_M) (w v : Int) (hB : BI M) (hw : 0 ≤ w ∧ w < M 13 4) (hv : -99 ≤ v ∧ v ≤ 99) : av_Mt E (d + 4) mX0_push [vR 12, vI w, vI v] M (fun res M' => res = some (vI (M 17 w)) ∧ BI M' ∧ WP M M' w v ∧ ∀ k, k < 12 ∨ 32 < k → M' k = M k) := by
  have hW := hB.1
  have hs := hW.2.1
  refine av_enter hX0_push oX0_push rfl rfl ?_
  refine ax_aloadn rfl rfl ?_
  refine ax_getR rfl fX0_12 rfl rfl ?_
  refine ax_iloadn rfl rfl ?_
  refine ax_iloadn rfl rfl ?_
  refine ax_callV (as := [_, _]) rfl vX0_57 hX6_push rfl rfl rfl rfl rfl (c_X6_push E (d + 3) M w v (by omega)) (fun r6 M6 hr6 => ?_)
  obtain ⟨rfl, g1, g2, g3⟩ := hr6
  have hW9 : WIm M6 := by
    unfold WIm
    rw [g3 13 (by decide), g3 14 (by decide), g3 15 (by decide), g3 16 (by decide)]
    refine ⟨hW.1, hs, fun j j0 j1 => ?_, hW.2.2.2.1, hW.2.2.2.2.1, hW.2.2.2.2.2⟩
    have b := hW.2.2.1 j j0 j1
    refine ⟨b.1, b.2.1, b.2.2.1, ?_, b.2.2.2.2⟩
    by_cases hj : j = w
    · rw [hj, g1]; exact hv
    · rw [g2 j hj]; exact b.2.2.2.1
  refine ax_istoren (ls' := [(0, _), (1, _), (2, _), (3, _)]) rfl rfl rfl ?_
  refine ax_aloadn rfl rfl ?_
  refine ax_getR rfl fX0_21 rfl rfl ?_
  refine ax_aloadn rfl rfl ?_
  refine ax_getR rfl fX0_12 rfl rfl ?_
  refine ax_callV (as := [_]) rfl vX0_50 hX3_find rfl rfl rfl rfl rfl (c_X3_find E d M6 hW9) (fun r18 M18 hr18 => ?_)
  obtain ⟨rfl, p1, p2, p3, p4, p5⟩ := hr18
  have e9 : ∀ k, 13 ≤ k → k ≤ 17 → M18 k = M6 k := fun k k0 k1 => p5 k (by omega) (by omega) (by omega) (by omega) (by omega) (by omega) (by omega) (by omega) (by omega)
  have hW22 := WIm_congr hW9 e9
  have hM22 : MIm M18 := ⟨p1, p2, p3, p4⟩
  refine ax_aloadn rfl rfl ?_
  refine ax_callV (as := []) rfl vX0_54 hX0_carve rfl rfl rfl rfl rfl (c_X0_carve E d M18 hW22 p1 p2 p3 p4) (fun r22 M22 hr22 => ?_)
  obtain ⟨rfl, hq⟩ := hr22
  obtain ⟨q1, q2, q3⟩ := carved (res := none) hW22 hM22 hq
  refine ax_iloadn rfl rfl ?_
  refine ax_iret rfl rfl ?_
  have e26 : ∀ k, 13 ≤ k → k ≤ 17 → M22 k = M6 k := fun k k0 k1 => by rw [q2 k k0 (by omega), e9 k k0 k1]
  refine ⟨rfl, q1, ?_, fun k hk => by rw [q3 k hk, p5 k (by omega) (by omega) (by omega) (by omega) (by omega) (by omega) (by omega) (by omega) (by omega), g3 k (by omega)]⟩
  unfold WP
  rw [e26 13 (by decide) (by decide), e26 14 (by decide) (by decide), e26 15 (by decide) (by decide), e26 16 (by decide) (by decide), e26 17 (by decide) (by decide)]
  exact ⟨g3 13 (by decide), g3 14 (by decide), g3 15 (by decide), g3 16 (by decide), g1, g2⟩
set_option maxRecDepth 100000 in
set_option maxHeartbeats 800000 in
theorem c_X0_turn (E : av_E) (d : Nat) (M : av_M) (w t : Int) (hB : BI M) (ht : t = 0 ∨ t = 1) (hw : 0 ≤ w ∧ w < M 13 4) : av_Mt E (d + 4) mX0_turn [vR 12, vI w, vI t] M (fun res M' => res = some (vI (b01 ((M 13 5).toNat.testBit w.toNat = true))) ∧ BI M' ∧ WT M M' w t ∧ ∀ k, k < 12 ∨ 32 < k → M' k = M k) := by
  have hW := hB.1
  have hs := hW.2.1
  refine av_enter hX0_turn oX0_turn rfl rfl ?_
  refine ax_aloadn rfl rfl ?_
  refine ax_getR rfl fX0_12 rfl rfl ?_
  refine ax_iloadn rfl rfl ?_
  refine ax_iloadn rfl rfl ?_
  refine ax_callV (as := [_, _]) rfl vX0_61 hX6_turn rfl rfl rfl rfl rfl (c_X6_turn E (d + 2) M w t ht (by omega) hW.2.2.2.1 hW.2.2.2.2.1) (fun r6 M6 hr6 => ?_)
  obtain ⟨rfl, g1, g2, g3, g4, g5⟩ := hr6
  have hW9 : WIm M6 := by
    unfold WIm
    rw [g5 14 (by decide), g5 15 (by decide), g5 16 (by decide), g5 17 (by decide), g4 4 (by decide)]
    refine ⟨hW.1, hs, hW.2.2.1, g1, g2, fun j hj => ?_⟩
    rw [g3 j] at hj
    by_cases hj2 : (j : Int) = w
    · omega
    · rw [if_neg hj2] at hj
      exact hW.2.2.2.2.2 j hj
  have hM6 : MIm M6 := MIm_congr hB.2.1 (fun k k0 k1 => g5 k (by omega)) (g4 4 (by decide))
  refine ax_istoren (ls' := [(0, _), (1, _), (2, _), (3, _)]) rfl rfl rfl ?_
  refine ax_aloadn rfl rfl ?_
  refine ax_callV (as := []) rfl vX0_54 hX0_carve rfl rfl rfl rfl rfl (c_X0_carve E d M6 hW9 hM6.1 hM6.2.1 hM6.2.2.1 hM6.2.2.2) (fun r11 M11 hr11 => ?_)
  obtain ⟨rfl, hq⟩ := hr11
  obtain ⟨q1, q2, q3⟩ := carved (res := none) hW9 hM6 hq
  refine ax_iloadn rfl rfl ?_
  refine ax_iret rfl rfl ?_
  refine ⟨rfl, q1, ?_, fun k hk => by rw [q3 k hk, g5 k (by omega)]⟩
  unfold WT
  rw [q2 13 (by decide) (by decide), q2 14 (by decide) (by decide), q2 15 (by decide) (by decide), q2 16 (by decide) (by decide), q2 17 (by decide) (by decide)]
  exact ⟨g4 4 (by decide), g3, g5 14 (by decide), g5 15 (by decide), g5 16 (by decide), g5 17 (by decide)⟩
