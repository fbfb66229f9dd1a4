/-! ===== a vertex put in its place ===== -/
set_option maxRecDepth 100000 in
set_option maxHeartbeats 800000 in
theorem l_X0_addVertex_shift (E : av_E) (d : Nat) (M : av_M) (m s n : Int) (hs : 0 ≤ s ∧ s ≤ n) (hn : n < 120) (Q : Option av_V → av_M → Prop)
    (hx : ∀ M1 : av_M, (∀ j, j ≤ s ∨ n < j → M1 27 j = M 27 j) → (∀ j, s < j → j ≤ n → M1 27 j = M 27 (j - 1)) → (∀ k, k ≠ 27 → M1 k = M k) → av_S E d mX0_addVertex 88 [(0, vR 12), (1, vI m), (2, vI s), (3, vI s)] [] M1 Q) :
    ∀ (t : Nat) (M1 : av_M) (i : Int), i = s + t → i ≤ n → (∀ j, j ≤ i ∨ n < j → M1 27 j = M 27 j) → (∀ j, i < j → j ≤ n → M1 27 j = M 27 (j - 1)) → (∀ k, k ≠ 27 → M1 k = M k) →
      av_S E d mX0_addVertex 63 [(0, vR 12), (1, vI m), (2, vI s), (3, vI i)] [] M1 Q := by
  intro t
  induction t with
  | zero =>
    intro M1 i hi hin h1 h2 h3
    have e : i = s := by omega
    subst e
    refine ax_iloadn rfl rfl ?_
    refine ax_iloadn rfl rfl ?_
    refine ax_icmp_le rfl (by omega) (by omega) (fun h65 => ?_) (fun h65 => ?_)
    · exact hx M1 h1 h2 h3
    · omega
  | succ t ih =>
    intro M1 i hi hin h1 h2 h3
    refine ax_iloadn rfl rfl ?_
    refine ax_iloadn rfl rfl ?_
    refine ax_icmp_le rfl (by omega) (by omega) (fun h65 => ?_) (fun h65 => ?_)
    · omega
    · refine ax_aloadn rfl rfl ?_
      refine ax_getR rfl fX0_25 rfl rfl ?_
      refine ax_iloadn rfl rfl ?_
      refine ax_aloadn rfl rfl ?_
      refine ax_getR rfl fX0_25 rfl rfl ?_
      refine ax_iloadn rfl rfl ?_
      refine ax_iconst rfl ?_
      refine ax_isub rfl ?_
      refine ax_iald rfl rfl (by omega) ?_
      refine ax_iast' rfl rfl (by omega) (fun M81 a81 b81 c81 => ?_)
      refine ax_iinc (ls' := [(0, _), (1, _), (2, _), (3, _)]) rfl rfl rfl rfl ?_
      refine ax_goto rfl ?_
      refine ih _ _ (by omega) (by omega) (fun j hj => ?_) (fun j hj hj2 => ?_) (fun k k1 => ?_)
      · rw [b81 j (by omega)]; exact h1 j (by omega)
      · by_cases hji : j = i
        · subst hji
          rw [a81]; exact h1 (j - 1) (by omega)
        · rw [b81 j hji]; exact h2 j (by omega) hj2
      · rw [c81 k k1]; exact h3 k k1
set_option maxRecDepth 100000 in
set_option maxHeartbeats 800000 in
theorem l_X0_addVertex_58 (E : av_E) (d : Nat) (M : av_M) (S : p3 → Prop) (m ms : Int) (hms : ms ≤ 120) (hR : MR M ms) (hm : 0 ≤ m ∧ m < ms) (hV : VE (M 27) (pm M) (M 12 4) ms S) (hn : M 12 4 < 120) (s : Int) (hs : 0 ≤ s ∧ s ≤ M 12 4)
    (a1 : ∀ j, 0 ≤ j → j < s → lx3 (pm M (M 27 j)) (pm M m)) (a2 : ∀ j, s ≤ j → j < M 12 4 → lx3 (pm M m) (pm M (M 27 j))) :
    av_S E d mX0_addVertex 58 [(0, vR 12), (1, vI m), (2, vI s)] [] M (fun res M' => res = none ∧ M 12 4 ≤ M' 12 4 ∧ M' 12 4 ≤ M 12 4 + 1 ∧ VE (M' 27) (pm M) (M' 12 4) ms (fun q => S q ∨ q = pm M m) ∧ (∀ f, f ≠ 4 → M' 12 f = M 12 f) ∧ ∀ k, k ≠ 12 → k ≠ 27 → M' k = M k) := by
  refine ax_aloadn rfl rfl ?_
  refine ax_getI (g := 4) rfl fX0_38 rfl rfl rfl rfl ?_
  refine ax_istoren (ls' := [(0, _), (1, _), (2, _), (3, _)]) rfl rfl rfl ?_
  refine l_X0_addVertex_shift E d M m s (M 12 4) hs hn _ (fun M1 h1 h2 h3 => ?_) (M 12 4 - s).toNat M _ (by omega) (by omega) (fun j _ => rfl) (fun j hj hj2 => by omega) (fun k _ => rfl)
  refine ax_aloadn rfl rfl ?_
  refine ax_getR rfl fX0_25 rfl rfl ?_
  refine ax_iloadn rfl rfl ?_
  refine ax_iloadn rfl rfl ?_
  refine ax_iast' rfl rfl (by omega) (fun M94 a94 b94 c94 => ?_)
  refine ax_aloadn rfl rfl ?_
  refine ax_dup rfl rfl ?_
  refine ax_getI (g := 4) rfl fX0_38 rfl rfl rfl rfl ?_
  refine ax_iconst rfl ?_
  refine ax_iadd rfl ?_
  refine ax_putI' (g := 4) rfl gX0_38 rfl rfl rfl rfl (fun M102 a102 b102 c102 => ?_)
  refine ax_vret rfl rfl ?_
  have e27 : M102 27 = M94 27 := c102 27 (by decide)
  have e12 : M94 12 = M 12 := by rw [c94 12 (by decide), h3 12 (by decide)]
  rw [e12] at a102 b102
  refine ⟨rfl, by omega, by omega, ?_, b102, fun k k0 k1 => by rw [c102 k k0, c94 k k1, h3 k k1]⟩
  rw [a102, e27]
  refine VE_ins hV hm hs.1 hs.2 a1 a2 (fun j j0 j1 => ?_) a94 (fun j j0 j1 => ?_)
  · rw [b94 j (by omega)]; exact h1 j (by omega)
  · rw [b94 (j + 1) (by omega)]
    have := h2 (j + 1) (by omega) (by omega)
    rwa [show j + 1 - 1 = j by omega] at this
set_option maxRecDepth 100000 in
set_option maxHeartbeats 800000 in
theorem l_X0_addVertex (E : av_E) (d : Nat) (M : av_M) (S : p3 → Prop) (m ms : Int) (hms : ms ≤ 120) (hR : MR M ms) (hm : 0 ≤ m ∧ m < ms) (hV : VE (M 27) (pm M) (M 12 4) ms S) (hn : M 12 4 < 120) :
    ∀ (t : Nat) (s : Int), s = t → s ≤ M 12 4 → (∀ j, s ≤ j → j < M 12 4 → lx3 (pm M m) (pm M (M 27 j))) → av_S E (d + 2) mX0_addVertex 5 [(0, vR 12), (1, vI m), (2, vI s)] [] M (fun res M' => res = none ∧ M 12 4 ≤ M' 12 4 ∧ M' 12 4 ≤ M 12 4 + 1 ∧ VE (M' 27) (pm M) (M' 12 4) ms (fun q => S q ∨ q = pm M m) ∧ (∀ f, f ≠ 4 → M' 12 f = M 12 f) ∧ ∀ k, k ≠ 12 → k ≠ 27 → M' k = M k) := by
  have hVb := hV.2.1
  have hwm : 0 < M 22 m := (hR m hm.1 hm.2).2.2.2.1
  have hw : ∀ j, 0 ≤ j → j < M 12 4 → 0 < M 22 (M 27 j) := fun j h0 h1 => (hR _ (hVb j h0 h1).1 (hVb j h0 h1).2).2.2.2.1
  have hrg : ∀ s : Int, -1 ≤ od (M 19 (M 27 (s - 1))) (M 20 (M 27 (s - 1))) (M 21 (M 27 (s - 1))) (M 22 (M 27 (s - 1))) (M 19 m) (M 20 m) (M 21 m) (M 22 m) ∧ od (M 19 (M 27 (s - 1))) (M 20 (M 27 (s - 1))) (M 21 (M 27 (s - 1))) (M 22 (M 27 (s - 1))) (M 19 m) (M 20 m) (M 21 m) (M 22 m) ≤ 1 := fun s => od_rng _ _ _ _ _ _ _ _
  have h34 : ∀ s : Int, 0 ≤ s → s ≤ M 12 4 → (∀ j, s ≤ j → j < M 12 4 → lx3 (pm M m) (pm M (M 27 j))) → (0 < s → ¬ lx3 (pm M m) (pm M (M 27 (s - 1)))) → av_S E (d + 2) mX0_addVertex 34 [(0, vR 12), (1, vI m), (2, vI s)] [] M (fun res M' => res = none ∧ M 12 4 ≤ M' 12 4 ∧ M' 12 4 ≤ M 12 4 + 1 ∧ VE (M' 27) (pm M) (M' 12 4) ms (fun q => S q ∨ q = pm M m) ∧ (∀ f, f ≠ 4 → M' 12 f = M 12 f) ∧ ∀ k, k ≠ 12 → k ≠ 27 → M' k = M k) := by
    intro s s0 s1 a2 hno
    have hr := hrg s
    have low : (0 < s → lx3 (pm M (M 27 (s - 1))) (pm M m)) → ∀ j, 0 ≤ j → j < s → lx3 (pm M (M 27 j)) (pm M m) := by
      intro hl j j0 j1
      by_cases hj : j = s - 1
      · rw [hj]; exact hl (by omega)
      · exact lx3_tr _ _ _ (VE_lt hV j0 (show j < s - 1 by omega) (by omega)) (hl (by omega))
    refine ax_iloadn rfl rfl ?_
    refine ax_if_le rfl (by omega) (fun h35 => ?_) (fun h35 => ?_)
    · exact l_X0_addVertex_58 E _ M S m ms hms hR hm hV hn s ⟨s0, s1⟩ (low (fun h0 => by
        have hz : ¬ od (M 19 (M 27 (s - 1))) (M 20 (M 27 (s - 1))) (M 21 (M 27 (s - 1))) (M 22 (M 27 (s - 1))) (M 19 m) (M 20 m) (M 21 m) (M 22 m) = 0 := by first | assumption | omega
        have hq := hno h0
        unfold pm at hq ⊢
        rw [← od_pos (hw _ (by omega) (by omega)) hwm] at hq
        rw [← od_neg (hw _ (by omega) (by omega)) hwm]
        omega)) a2
    · refine ax_aloadn rfl rfl ?_
      refine ax_getR rfl fX0_21 rfl rfl ?_
      refine ax_aloadn rfl rfl ?_
      refine ax_getR rfl fX0_25 rfl rfl ?_
      refine ax_iloadn rfl rfl ?_
      refine ax_iconst rfl ?_
      refine ax_isub rfl ?_
      refine ax_iald rfl rfl (by omega) ?_
      refine ax_iloadn rfl rfl ?_
      refine ax_callV (as := [_, _]) rfl vX0_101 hX3_order rfl rfl rfl rfl rfl (c_X3_order E d M _ _ (by have := hVb (s - 1) (by omega) (by omega); omega) (by omega) (hR _ (hVb (s - 1) (by omega) (by omega)).1 (hVb (s - 1) (by omega) (by omega)).2) (hR m hm.1 hm.2)) (av_Xk ?_)
      refine ax_if_ne rfl (by omega) (fun h54 => ?_) (fun h54 => ?_)
      · exact l_X0_addVertex_58 E _ M S m ms hms hR hm hV hn s ⟨s0, s1⟩ (low (fun h0 => by
          have hz : ¬ od (M 19 (M 27 (s - 1))) (M 20 (M 27 (s - 1))) (M 21 (M 27 (s - 1))) (M 22 (M 27 (s - 1))) (M 19 m) (M 20 m) (M 21 m) (M 22 m) = 0 := by first | assumption | omega
          have hq := hno h0
          unfold pm at hq ⊢
          rw [← od_pos (hw _ (by omega) (by omega)) hwm] at hq
          rw [← od_neg (hw _ (by omega) (by omega)) hwm]
          omega)) a2
      · refine ax_vret rfl rfl ?_
        first
          | omega
          | exact ⟨rfl, by omega, by omega, VE_had hV (by
              have hz : od (M 19 (M 27 (s - 1))) (M 20 (M 27 (s - 1))) (M 21 (M 27 (s - 1))) (M 22 (M 27 (s - 1))) (M 19 m) (M 20 m) (M 21 m) (M 22 m) = 0 := by omega
              have e := (od_zero (hw _ (by omega) (by omega)) hwm).mp hz
              have := VE_in hV (show 0 ≤ s - 1 by omega) (by omega)
              unfold pm at this ⊢
              rw [← e]
              exact this), fun f _ => rfl, fun k _ _ => rfl⟩
  intro t
  induction t with
  | zero =>
    intro s hs hsn a2
    subst hs
    refine ax_iloadn rfl rfl ?_
    refine ax_if_le rfl (by omega) (fun h6 => ?_) (fun h6 => ?_)
    · exact h34 _ (by omega) (by omega) a2 (fun h => by omega)
    · omega
  | succ t ih =>
    intro s hs hsn a2
    have hr := hrg s
    refine ax_iloadn rfl rfl ?_
    refine ax_if_le rfl (by omega) (fun h6 => ?_) (fun h6 => ?_)
    · exact h34 _ (by omega) (by omega) a2 (fun h => by first | omega | (unfold pm; rw [← od_pos (hw _ (by omega) (by omega)) hwm]; omega))
    · refine ax_aloadn rfl rfl ?_
      refine ax_getR rfl fX0_21 rfl rfl ?_
      refine ax_aloadn rfl rfl ?_
      refine ax_getR rfl fX0_25 rfl rfl ?_
      refine ax_iloadn rfl rfl ?_
      refine ax_iconst rfl ?_
      refine ax_isub rfl ?_
      refine ax_iald rfl rfl (by omega) ?_
      refine ax_iloadn rfl rfl ?_
      refine ax_callV (as := [_, _]) rfl vX0_101 hX3_order rfl rfl rfl rfl rfl (c_X3_order E d M _ _ (by have := hVb (s - 1) (by omega) (by omega); omega) (by omega) (hR _ (hVb (s - 1) (by omega) (by omega)).1 (hVb (s - 1) (by omega) (by omega)).2) (hR m hm.1 hm.2)) (av_Xk ?_)
      refine ax_if_le rfl (by omega) (fun h25 => ?_) (fun h25 => ?_)
      · exact h34 _ (by omega) (by omega) a2 (fun h => by first | omega | (unfold pm; rw [← od_pos (hw _ (by omega) (by omega)) hwm]; omega))
      · refine ax_iinc (ls' := [(0, _), (1, _), (2, _)]) rfl rfl rfl rfl ?_
        refine ax_goto rfl ?_
        refine ih _ (by omega) (by omega) (fun j j0 j1 => ?_)
        by_cases hj : j = s - 1
        · rw [hj]; unfold pm; rw [← od_pos (hw _ (by omega) (by omega)) hwm]; omega
        · exact a2 j (by omega) j1
set_option maxRecDepth 100000 in
set_option maxHeartbeats 800000 in
theorem c_X0_addVertex (E : av_E) (d : Nat) (M : av_M) (S : p3 → Prop) (m ms : Int) (hms : ms ≤ 120) (hR : MR M ms) (hm : 0 ≤ m ∧ m < ms) (hV : VE (M 27) (pm M) (M 12 4) ms S) (hn : M 12 4 < 120) : av_Mt E (d + 2) mX0_addVertex [vR 12, vI m] M (fun res M' => res = none ∧ M 12 4 ≤ M' 12 4 ∧ M' 12 4 ≤ M 12 4 + 1 ∧ VE (M' 27) (pm M) (M' 12 4) ms (fun q => S q ∨ q = pm M m) ∧ (∀ f, f ≠ 4 → M' 12 f = M 12 f) ∧ ∀ k, k ≠ 12 → k ≠ 27 → M' k = M k) := by
  have h0 := hV.1
  refine av_enter hX0_addVertex oX0_addVertex rfl rfl ?_
  refine ax_aloadn rfl rfl ?_
  refine ax_getI (g := 4) rfl fX0_38 rfl rfl rfl rfl ?_
  refine ax_istoren (ls' := [(0, _), (1, _), (2, _)]) rfl rfl rfl ?_
  exact l_X0_addVertex E d M S m ms hms hR hm hV hn (M 12 4).toNat _ (by omega) (by omega) (fun j j0 j1 => by omega)
