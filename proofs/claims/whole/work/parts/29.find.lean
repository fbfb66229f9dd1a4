/-! ===== all meets found; what is asked of them ===== -/
theorem cj_le : ∀ i, i < 11 → ∀ j, j < 11 → cj i j ≤ cj i 10 := by decide +kernel
theorem ci_ss (i : Nat) : ci (i + 1) = ci i + cj i 10 := rfl
theorem ri_ss (i : Nat) : ri (i + 1) = ri i + (9 - i) := rfl
theorem ci_le : ∀ i, i < 11 → ci i ≤ 120 := by decide +kernel
theorem ri_le : ∀ i, i < 11 → ri i ≤ 45 := by decide +kernel
def n3 (i j : Int) : Int := ((ci i.toNat + cj i.toNat j.toNat : Nat) : Int)
def n2 (i : Int) : Int := ((ri i.toNat : Nat) : Int)
def n1 (i : Int) : Int := ((ci i.toNat : Nat) : Int)
theorem n3_in {i j k : Int} (h : 0 ≤ i ∧ i < j ∧ j < k ∧ k < 10) : n3 i j + (k - j - 1) < 120 := by
  have := cnt3 i.toNat (by omega) j.toNat (by omega) (by omega) k.toNat (by omega) (by omega)
  unfold n3; omega
theorem n2_in {i j : Int} (h : 0 ≤ i ∧ i < j ∧ j < 10) : n2 i + (j - i - 1) < 45 := by
  have := cnt2 i.toNat (by omega) j.toNat (by omega) (by omega)
  unfold n2; omega
theorem n3_nx {i j s : Int} (h : 0 ≤ i ∧ i < j ∧ j < 10 ∧ s ≤ 10) : n3 i j + (s - j - 1) ≤ n3 i (j + 1) := by
  have e : (j + 1).toNat = j.toNat + 1 := by omega
  have := cj_succ i.toNat j.toNat (by omega)
  unfold n3; rw [e, this]; omega
theorem n3_up {i j : Int} (h : 0 ≤ i ∧ i < 10 ∧ 0 ≤ j ∧ j ≤ 10) : n3 i j ≤ n1 (i + 1) := by
  have e : (i + 1).toNat = i.toNat + 1 := by omega
  have := cj_le i.toNat (by omega) j.toNat (by omega)
  have f := ci_ss i.toNat
  unfold n3 n1; rw [e, f]; omega
theorem n3_st {i j : Int} : n1 i ≤ n3 i j := by unfold n3 n1; omega
theorem n2_up {i s : Int} (h : 0 ≤ i ∧ i < s ∧ s ≤ 10) : n2 i + (s - i - 1) ≤ n2 (i + 1) := by
  have e : (i + 1).toNat = i.toNat + 1 := by omega
  have f := ri_ss i.toNat
  unfold n2; rw [e, f]; omega
theorem n1_le {i : Int} (h : 0 ≤ i ∧ i ≤ 10) : n1 i ≤ 120 := by have := ci_le i.toNat (by omega); unfold n1; omega
theorem n2_le {i : Int} (h : 0 ≤ i ∧ i ≤ 10) : n2 i ≤ 45 := by have := ri_le i.toNat (by omega); unfold n2; omega
def MFr (M M' : av_M) : Prop := (∀ k, k ≠ 18 → k ≠ 19 → k ≠ 20 → k ≠ 21 → k ≠ 22 → k ≠ 23 → k ≠ 24 → k ≠ 25 → k ≠ 26 → M' k = M k)
theorem MFr.tr {M M1 M2 : av_M} (h1 : MFr M M1) (h2 : MFr M1 M2) : MFr M M2 := fun k a b c d e f g h i => by rw [h2 k a b c d e f g h i, h1 k a b c d e f g h i]
theorem MFr.w {M M' : av_M} (h : MFr M M') : M' 13 = M 13 ∧ M' 14 = M 14 ∧ M' 15 = M 15 ∧ M' 16 = M 16 ∧ M' 17 = M 17 := ⟨h 13 (by decide) (by decide) (by decide) (by decide) (by decide) (by decide) (by decide) (by decide) (by decide), h 14 (by decide) (by decide) (by decide) (by decide) (by decide) (by decide) (by decide) (by decide) (by decide), h 15 (by decide) (by decide) (by decide) (by decide) (by decide) (by decide) (by decide) (by decide) (by decide), h 16 (by decide) (by decide) (by decide) (by decide) (by decide) (by decide) (by decide) (by decide) (by decide), h 17 (by decide) (by decide) (by decide) (by decide) (by decide) (by decide) (by decide) (by decide) (by decide)⟩
/-- as far as (i, j, k), the threes before it and the pairs up to (i, j) are in the lists -/
def FI (M : av_M) (i j k : Int) (q : Int) : Prop := MTI M (covM i j k) ∧ MTR M (covR i q) ∧ M 18 8 ≤ n3 i j + (k - j - 1) ∧ 0 ≤ M 18 9 ∧ M 18 9 ≤ 2 * (n2 i + (q - i - 1))
set_option maxRecDepth 100000 in
set_option maxHeartbeats 800000 in
theorem l3_X3_find (E : av_E) (d : Nat) (M : av_M) (hW : WI (M 14) (M 15) (M 16) (M 17) (M 13 4) (M 13 5)) (i j : Int) (hi : 0 ≤ i ∧ i < j ∧ j < M 13 4) (nxt : ∀ M2 : av_M, FI M2 i (j + 1) (j + 2) (j + 1) → MFr M M2 → av_S E (d + 3) mX3_find 24 [(0, vR 18), (1, vR 13), (2, vI i), (3, vI (j + 1))] [] M2 (fun res M' => res = none ∧ MTI M' (fun _ _ _ => True) ∧ MTR M' (fun _ _ => True) ∧ M' 18 8 ≤ 120 ∧ M' 18 9 ≤ 90 ∧ MFr M M')) :
    ∀ (t : Nat) (k : Int) (M1 : av_M), k + t = M 13 4 → j < k → FI M1 i j k (j + 1) → MFr M M1 → av_S E (d + 3) mX3_find 44 [(0, vR 18), (1, vR 13), (2, vI i), (3, vI j), (4, vI k)] [] M1 (fun res M' => res = none ∧ MTI M' (fun _ _ _ => True) ∧ MTR M' (fun _ _ => True) ∧ M' 18 8 ≤ 120 ∧ M' 18 9 ≤ 90 ∧ MFr M M') := by
  have hs := hW.2.1
  intro t
  induction t with
  | zero =>
    intro k M1 hk kj hF hf
    have hw := hf.w
    have hW1 : WI (M1 14) (M1 15) (M1 16) (M1 17) (M1 13 4) (M1 13 5) := by rw [hw.1, hw.2.1, hw.2.2.1, hw.2.2.2.1, hw.2.2.2.2]; exact hW
    have e13 : M1 13 4 = M 13 4 := by rw [hw.1]
    obtain ⟨q1, q2, q3, q4, q5⟩ := hF
    refine ax_iload rfl rfl ?_
    refine ax_aloadn rfl rfl ?_
    refine ax_getI (g := 4) rfl fX3_43 rfl rfl rfl rfl ?_
    refine ax_icmp_ge rfl (by omega) (by omega) (fun h50 => ?_) (fun h50 => ?_)
    · refine ax_iinc (ls' := [(0, _), (1, _), (2, _), (3, _), (4, _)]) rfl rfl rfl rfl ?_
      refine ax_goto rfl ?_
      refine ax_pick [0, 1, 2, 3] rfl ?_
      refine nxt M1 ⟨MI_mono q1 (fun a b c a0 ab bc cs hv q => ?_), q2, ?_, q4, q5⟩ hf
      · unfold covM at q ⊢
        omega
      · have := n3_nx (i := i) (j := j) (s := M 13 4) (by omega)
        omega
    · omega
  | succ t ih =>
    intro k M1 hk kj hF hf
    have hw := hf.w
    have hW1 : WI (M1 14) (M1 15) (M1 16) (M1 17) (M1 13 4) (M1 13 5) := by rw [hw.1, hw.2.1, hw.2.2.1, hw.2.2.2.1, hw.2.2.2.2]; exact hW
    have e13 : M1 13 4 = M 13 4 := by rw [hw.1]
    obtain ⟨q1, q2, q3, q4, q5⟩ := hF
    have hc := n3_in (i := i) (j := j) (k := k) (by omega)
    refine ax_iload rfl rfl ?_
    refine ax_aloadn rfl rfl ?_
    refine ax_getI (g := 4) rfl fX3_43 rfl rfl rfl rfl ?_
    refine ax_icmp_ge rfl (by omega) (by omega) (fun h50 => ?_) (fun h50 => ?_)
    · omega
    · refine ax_aloadn rfl rfl ?_
      refine ax_aloadn rfl rfl ?_
      refine ax_iloadn rfl rfl ?_
      refine ax_iloadn rfl rfl ?_
      refine ax_iload rfl rfl ?_
      refine ax_callV (as := [_, _, _, _]) rfl vX3_50 hX3_addMeet rfl rfl rfl rfl rfl (c_X3_addMeet E d M1 i j k (by omega) ⟨q1.1, by omega⟩ hW1 _ q1) (fun r59 M59 hr59 => ?_)
      obtain ⟨rfl, g1, g2, g3, g4, g5, g6⟩ := hr59
      refine ax_iinc (ls' := [(0, _), (1, _), (2, _), (3, _), (4, _)]) rfl rfl rfl rfl ?_
      refine ax_goto rfl ?_
      have hf2 : MFr M M59 := hf.tr g6
      have hw2 := (show MFr M1 M59 from g6).w
      refine ih _ M59 (by omega) (by omega) ⟨MI_mono g1 (fun a b c a0 ab bc cs hv q => ?_), ?_, by omega, by rw [g4 9 (by decide)]; exact q4, by rw [g4 9 (by decide)]; exact q5⟩ hf2
      · unfold covM at q ⊢
        omega
      · unfold MTR at q2 ⊢
        rw [hw2.1, hw2.2.1, hw2.2.2.1, hw2.2.2.2.1, g5, g4 9 (by decide)]
        exact q2
set_option maxRecDepth 100000 in
set_option maxHeartbeats 800000 in
theorem l2_X3_find (E : av_E) (d : Nat) (M : av_M) (hW : WI (M 14) (M 15) (M 16) (M 17) (M 13 4) (M 13 5)) (i : Int) (hi : 0 ≤ i ∧ i < M 13 4) (nxt : ∀ M2 : av_M, FI M2 (i + 1) (i + 2) (i + 3) (i + 2) → M2 18 8 ≤ n1 (i + 1) → M2 18 9 ≤ 2 * n2 (i + 1) → MFr M M2 → av_S E (d + 3) mX3_find 12 [(0, vR 18), (1, vR 13), (2, vI (i + 1))] [] M2 (fun res M' => res = none ∧ MTI M' (fun _ _ _ => True) ∧ MTR M' (fun _ _ => True) ∧ M' 18 8 ≤ 120 ∧ M' 18 9 ≤ 90 ∧ MFr M M')) :
    ∀ (t : Nat) (j : Int) (M1 : av_M), j + t = M 13 4 → i < j → FI M1 i j (j + 1) j → MFr M M1 → av_S E (d + 3) mX3_find 24 [(0, vR 18), (1, vR 13), (2, vI i), (3, vI j)] [] M1 (fun res M' => res = none ∧ MTI M' (fun _ _ _ => True) ∧ MTR M' (fun _ _ => True) ∧ M' 18 8 ≤ 120 ∧ M' 18 9 ≤ 90 ∧ MFr M M') := by
  have hs := hW.2.1
  intro t
  induction t with
  | zero =>
    intro j M1 hk kj hF hf
    have hw := hf.w
    have hW1 : WI (M1 14) (M1 15) (M1 16) (M1 17) (M1 13 4) (M1 13 5) := by rw [hw.1, hw.2.1, hw.2.2.1, hw.2.2.2.1, hw.2.2.2.2]; exact hW
    have e13 : M1 13 4 = M 13 4 := by rw [hw.1]
    obtain ⟨q1, q2, q3, q4, q5⟩ := hF
    refine ax_iloadn rfl rfl ?_
    refine ax_aloadn rfl rfl ?_
    refine ax_getI (g := 4) rfl fX3_43 rfl rfl rfl rfl ?_
    refine ax_icmp_ge rfl (by omega) (by omega) (fun h29 => ?_) (fun h29 => ?_)
    · refine ax_iinc (ls' := [(0, _), (1, _), (2, _), (3, _)]) rfl rfl rfl rfl ?_
      refine ax_goto rfl ?_
      refine ax_pick [0, 1, 2] rfl ?_
      have u1 := n3_up (i := i) (j := j) (by omega)
      have u2 := n2_up (i := i) (s := j) (by omega)
      have u3 := n3_st (i := i + 1) (j := i + 2)
      refine nxt M1 ⟨MI_mono q1 (fun a b c a0 ab bc cs hv q => ?_), RI_mono q2 (fun a b a0 a1 b0 b1 hv q => ?_), by omega, q4, by omega⟩ (by omega) (by omega) hf
      · unfold covM at q ⊢
        omega
      · unfold covR at q ⊢
        omega
    · omega
  | succ t ih =>
    intro j M1 hk kj hF hf
    have hw := hf.w
    have hW1 : WI (M1 14) (M1 15) (M1 16) (M1 17) (M1 13 4) (M1 13 5) := by rw [hw.1, hw.2.1, hw.2.2.1, hw.2.2.2.1, hw.2.2.2.2]; exact hW
    have e13 : M1 13 4 = M 13 4 := by rw [hw.1]
    obtain ⟨q1, q2, q3, q4, q5⟩ := hF
    have hc := n2_in (i := i) (j := j) (by omega)
    refine ax_iloadn rfl rfl ?_
    refine ax_aloadn rfl rfl ?_
    refine ax_getI (g := 4) rfl fX3_43 rfl rfl rfl rfl ?_
    refine ax_icmp_ge rfl (by omega) (by omega) (fun h29 => ?_) (fun h29 => ?_)
    · omega
    · refine ax_aloadn rfl rfl ?_
      refine ax_aloadn rfl rfl ?_
      refine ax_iloadn rfl rfl ?_
      refine ax_iloadn rfl rfl ?_
      refine ax_callV (as := [_, _, _]) rfl vX3_46 hX3_addRays rfl rfl rfl rfl rfl (c_X3_addRays E (d + 0) M1 i j (by omega) (by omega) (by omega) hW1 _ q2) (fun r36 M36 hr36 => ?_)
      obtain ⟨rfl, g1, g2, g3, g4, g5⟩ := hr36
      refine ax_iloadn rfl rfl ?_
      refine ax_iconst rfl ?_
      refine ax_iadd rfl ?_
      refine ax_istore (ls' := [(0, _), (1, _), (2, _), (3, _), (4, _)]) rfl rfl rfl ?_
      have hf1 : MFr M1 M36 := fun k a b c d e f g h i => g5 k a i
      have hf2 : MFr M M36 := hf.tr hf1
      have hw2 := hf1.w
      refine l3_X3_find E d M hW i j (by omega) (fun M2 hF2 hf2 => ih _ M2 (by omega) (by omega) (by rw [show j + 1 + 1 = j + 2 by omega]; exact hF2) hf2) t (j + 1) M36 (by omega) (by omega) ⟨?_, RI_mono g1 (fun a b a0 a1 b0 b1 hv q => ?_), ?_, by omega, by omega⟩ hf2
      · unfold MTI at q1 ⊢
        rw [hw2.1, hw2.2.1, hw2.2.2.1, hw2.2.2.2.1, hw2.2.2.2.2, g4 8 (by decide), g5 19 (by decide) (by decide), g5 20 (by decide) (by decide), g5 21 (by decide) (by decide), g5 22 (by decide) (by decide), g5 23 (by decide) (by decide), g5 24 (by decide) (by decide), g5 25 (by decide) (by decide)]
        exact q1
      · unfold covR at q ⊢
        omega
      · rw [g4 8 (by decide)]; omega
set_option maxRecDepth 100000 in
set_option maxHeartbeats 800000 in
theorem l1_X3_find (E : av_E) (d : Nat) (M : av_M) (hW : WI (M 14) (M 15) (M 16) (M 17) (M 13 4) (M 13 5)) : ∀ (t : Nat) (i : Int) (M1 : av_M), i + t = M 13 4 → 0 ≤ i → FI M1 i (i + 1) (i + 2) (i + 1) → M1 18 8 ≤ n1 i → M1 18 9 ≤ 2 * n2 i → MFr M M1 → av_S E (d + 3) mX3_find 12 [(0, vR 18), (1, vR 13), (2, vI i)] [] M1 (fun res M' => res = none ∧ MTI M' (fun _ _ _ => True) ∧ MTR M' (fun _ _ => True) ∧ M' 18 8 ≤ 120 ∧ M' 18 9 ≤ 90 ∧ MFr M M') := by
  have hs := hW.2.1
  intro t
  induction t with
  | zero =>
    intro i M1 hk i0 hF b1 b2 hf
    have hw := hf.w
    have hW1 : WI (M1 14) (M1 15) (M1 16) (M1 17) (M1 13 4) (M1 13 5) := by rw [hw.1, hw.2.1, hw.2.2.1, hw.2.2.2.1, hw.2.2.2.2]; exact hW
    have e13 : M1 13 4 = M 13 4 := by rw [hw.1]
    obtain ⟨q1, q2, q3, q4, q5⟩ := hF
    have u1 := n1_le (i := i) (by omega)
    have u2 := n2_le (i := i) (by omega)
    refine ax_iloadn rfl rfl ?_
    refine ax_aloadn rfl rfl ?_
    refine ax_getI (g := 4) rfl fX3_43 rfl rfl rfl rfl ?_
    refine ax_icmp_ge rfl (by omega) (by omega) (fun h17 => ?_) (fun h17 => ?_)
    · refine ax_vret rfl rfl ?_
      refine ⟨rfl, MI_mono q1 (fun a b c a0 ab bc cs hv q => ?_), RI_mono q2 (fun a b a0 a1 b0 b1 hv q => ?_), by omega, by omega, hf⟩
      · unfold covM
        omega
      · unfold covR
        by_cases hab : a = b
        · subst hab
          exact absurd ⟨by grind, by grind, by grind⟩ hv
        · omega
    · omega
  | succ t ih =>
    intro i M1 hk i0 hF b1 b2 hf
    have hw := hf.w
    have hW1 : WI (M1 14) (M1 15) (M1 16) (M1 17) (M1 13 4) (M1 13 5) := by rw [hw.1, hw.2.1, hw.2.2.1, hw.2.2.2.1, hw.2.2.2.2]; exact hW
    have e13 : M1 13 4 = M 13 4 := by rw [hw.1]
    refine ax_iloadn rfl rfl ?_
    refine ax_aloadn rfl rfl ?_
    refine ax_getI (g := 4) rfl fX3_43 rfl rfl rfl rfl ?_
    refine ax_icmp_ge rfl (by omega) (by omega) (fun h17 => ?_) (fun h17 => ?_)
    · omega
    · refine ax_iloadn rfl rfl ?_
      refine ax_iconst rfl ?_
      refine ax_iadd rfl ?_
      refine ax_istoren (ls' := [(0, _), (1, _), (2, _), (3, _)]) rfl rfl rfl ?_
      exact l2_X3_find E d M hW i (by omega) (fun M2 hF2 c1 c2 hf2 => ih _ M2 (by omega) (by omega) (by rw [show i + 1 + 1 = i + 2 by omega, show i + 1 + 2 = i + 3 by omega]; exact hF2) c1 c2 hf2) t (i + 1) M1 (by omega) (by omega) (by rw [show i + 1 + 1 = i + 2 by omega]; exact hF) hf
set_option maxRecDepth 100000 in
set_option maxHeartbeats 800000 in
theorem c_X3_find (E : av_E) (d : Nat) (M : av_M) (hW : WI (M 14) (M 15) (M 16) (M 17) (M 13 4) (M 13 5)) : av_Mt E (d + 3) mX3_find [vR 18, vR 13] M (fun res M' => res = none ∧ MTI M' (fun _ _ _ => True) ∧ MTR M' (fun _ _ => True) ∧ M' 18 8 ≤ 120 ∧ M' 18 9 ≤ 90 ∧ MFr M M') := by
  have hs := hW.2.1
  have hs0 := hW.1
  refine av_enter hX3_find oX3_find rfl rfl ?_
  refine ax_aloadn rfl rfl ?_
  refine ax_iconst rfl ?_
  refine ax_putI' (g := 8) rfl gX3_36 rfl rfl rfl rfl (fun M2 a2 b2 c2 => ?_)
  refine ax_aloadn rfl rfl ?_
  refine ax_iconst rfl ?_
  refine ax_putI' (g := 9) rfl gX3_40 rfl rfl rfl rfl (fun M7 a7 b7 c7 => ?_)
  refine ax_iconst rfl ?_
  refine ax_istoren (ls' := [(0, _), (1, _), (2, _)]) rfl rfl rfl ?_
  have f : M7 18 8 = 0 := by rw [b7 8 (by decide), a2]
  refine l1_X3_find E d M hW (M 13 4).toNat 0 M7 (by omega) (by omega) ⟨⟨by omega, fun m m0 m1 => by omega, fun a b c a0 ab bc cs hv q => by unfold covM at q; omega⟩, ⟨by omega, fun m m0 m1 => by omega, fun a b a0 a1 b0 b1 hv q => by unfold covR at q; omega⟩, ?_, by omega, by rw [a7]; decide⟩ (by rw [f]; decide) (by rw [a7]; decide) (fun k k18 k19 k20 k21 k22 k23 k24 k25 k26 => by rw [c7 k k18, c2 k k18])
  rw [f]
  decide
