/-! ===== the figure drawn anew; the tables ===== -/
set_option maxRecDepth 100000 in
set_option maxHeartbeats 800000 in
theorem l_X2_draw (E : av_E) (d : Nat) (M : av_M) (hn : 0 ≤ M 1 3 ∧ M 1 3 ≤ 12) (hb : ∀ j, 0 ≤ j → j < M 1 3 → (-50 ≤ M 2 j ∧ M 2 j ≤ 50) ∧ (-50 ≤ M 3 j ∧ M 3 j ≤ 50)) : ∀ (t : Nat) (i : Int) (M1 : av_M), i + t = M 1 3 → 0 ≤ i → (OE (M1 5) (M1 6) (M1 7) (M1 4 4) (FS (i) (M 2) (M 3)) ∧ M1 4 4 ≤ i ∧ (∀ j, 0 ≤ j → j < M1 4 4 → (-50 ≤ M1 5 j ∧ M1 5 j ≤ 50) ∧ (-50 ≤ M1 6 j ∧ M1 6 j ≤ 50) ∧ M1 7 j = 1) ∧ (∀ k, k ≠ 4 → k ≠ 5 → k ≠ 6 → k ≠ 7 → k ≠ 8 → M1 k = M k)) → av_S E (d + 3) mX2_draw 9 [(0, vR 1), (1, vI i)] [] M1 (fun res M' => res = none ∧ FO (M' 5) (M' 6) (M' 7) (M' 8) (M' 4 4) (M' 4 5) (FS (M 1 3) (M 2) (M 3)) ∧ (∀ k, k ≠ 4 → k ≠ 5 → k ≠ 6 → k ≠ 7 → k ≠ 8 → M' k = M k)) := by
  intro t
  induction t with
  | zero =>
    intro i M1 hi i0 hinv
    have ei : i = M 1 3 := by omega
    subst ei
    obtain ⟨hE, hle, hT, hf⟩ := hinv
    have f1 := hf 1 (by decide) (by decide) (by decide) (by decide) (by decide)
    refine ax_iloadn rfl rfl ?_
    refine ax_aloadn rfl rfl ?_
    refine ax_getI (g := 3) rfl fX2_27 rfl rfl rfl rfl ?_
    refine ax_icmp_ge rfl (by omega) (by rw [f1]; omega) (fun h14 => ?_) (fun h14 => ?_)
    · refine ax_aloadn rfl rfl ?_
      refine ax_getR rfl fX2_23 rfl rfl ?_
      refine ax_callV (as := []) rfl vX2_48 hX4_wrap rfl rfl rfl rfl rfl (c_H_wrap E d M1 _ hE (by omega)) (fun r47 M47 hr47 => ?_)
      obtain ⟨rfl, g1, g2, g3, g4, g5, g6⟩ := hr47
      refine ax_vret rfl rfl ?_
      refine ⟨rfl, ⟨g1, by rw [g5 4 (by decide)]; omega, fun j j0 j1 => ?_⟩, fun k k0 k1 k2 k3 k4 => by rw [g6 k k0 k4, hf k k0 k1 k2 k3 k4]⟩
      rw [g2, g3, g4]
      exact hT j j0 (by rw [g5 4 (by decide)] at j1; exact j1)
    · rw [f1] at h14; omega
  | succ t ih =>
    intro i M1 hi i0 hinv
    obtain ⟨hE, hle, hT, hf⟩ := hinv
    have f1 := hf 1 (by decide) (by decide) (by decide) (by decide) (by decide)
    have f2 := hf 2 (by decide) (by decide) (by decide) (by decide) (by decide)
    have f3 := hf 3 (by decide) (by decide) (by decide) (by decide) (by decide)
    have b := hb i i0 (by omega)
    have hBP : BP (M1 2 i) (M1 3 i) 1 := by rw [f2, f3]; unfold BP; omega
    refine ax_iloadn rfl rfl ?_
    refine ax_aloadn rfl rfl ?_
    refine ax_getI (g := 3) rfl fX2_27 rfl rfl rfl rfl ?_
    refine ax_icmp_ge rfl (by omega) (by rw [f1]; omega) (fun h14 => ?_) (fun h14 => ?_)
    · rw [f1] at h14; omega
    · refine ax_aloadn rfl rfl ?_
      refine ax_getR rfl fX2_23 rfl rfl ?_
      refine ax_aloadn rfl rfl ?_
      refine ax_getR rfl fX2_9 rfl rfl ?_
      refine ax_iloadn rfl rfl ?_
      refine ax_iald rfl rfl (by omega) ?_
      refine ax_aloadn rfl rfl ?_
      refine ax_getR rfl fX2_15 rfl rfl ?_
      refine ax_iloadn rfl rfl ?_
      refine ax_iald rfl rfl (by omega) ?_
      refine ax_iconst rfl ?_
      refine ax_callV (as := [_, _, _]) rfl vX2_45 hX4_add rfl rfl rfl rfl rfl (c_H_add E d M1 _ _ _ _ hBP hE (by omega)) (fun r34 M34 hr34 => ?_)
      obtain ⟨rfl, g1, g2, g3, g4, g5, g6⟩ := hr34
      refine ax_iinc (ls' := [(0, _), (1, _)]) rfl rfl rfl rfl ?_
      refine ax_goto rfl ?_
      refine ih _ M34 (by omega) (by omega) ⟨?_, by omega, fun j j0 j1 => ?_, fun k k0 k1 k2 k3 k4 => by rw [g5 k k0 k1 k2 k3, hf k k0 k1 k2 k3 k4]⟩
      · rw [f2, f3, FS_succ i0] at g3; exact g3
      · exact g6 (fun x y w => (-50 ≤ x ∧ x ≤ 50) ∧ (-50 ≤ y ∧ y ≤ 50) ∧ w = 1) hT (by rw [f2, f3]; omega) j j0 j1
set_option maxRecDepth 100000 in
set_option maxHeartbeats 800000 in
theorem c_X2_draw (E : av_E) (d : Nat) (M : av_M) (hn : 0 ≤ M 1 3 ∧ M 1 3 ≤ 12) (hb : ∀ j, 0 ≤ j → j < M 1 3 → (-50 ≤ M 2 j ∧ M 2 j ≤ 50) ∧ (-50 ≤ M 3 j ∧ M 3 j ≤ 50)) : av_Mt E (d + 3) mX2_draw [vR 1] M (fun res M' => res = none ∧ FO (M' 5) (M' 6) (M' 7) (M' 8) (M' 4 4) (M' 4 5) (FS (M 1 3) (M 2) (M 3)) ∧ (∀ k, k ≠ 4 → k ≠ 5 → k ≠ 6 → k ≠ 7 → k ≠ 8 → M' k = M k)) := by
  refine av_enter hX2_draw oX2_draw rfl rfl ?_
  refine ax_aloadn rfl rfl ?_
  refine ax_getR rfl fX2_23 rfl rfl ?_
  refine ax_callV (as := []) rfl vX2_42 hX4_empty rfl rfl rfl rfl rfl (c_H_empty E (d + 2) M) (fun r4 M4 hr4 => ?_)
  obtain ⟨rfl, e1, e2, e3⟩ := hr4
  refine ax_iconst rfl ?_
  refine ax_istoren (ls' := [(0, _), (1, _)]) rfl rfl rfl ?_
  refine l_X2_draw E d M hn hb (M 1 3).toNat 0 M4 (by omega) (by omega) ⟨?_, by omega, fun j j0 j1 => by omega, fun k k0 k1 k2 k3 k4 => e3 k k0⟩
  rw [e1, ← FS_zero]
  exact OE_nil _ _ _
set_option maxRecDepth 100000 in
set_option maxHeartbeats 800000 in
theorem c_X2_put (E : av_E) (d : Nat) (M : av_M) (i x y : Int) (hx : -50 ≤ x ∧ x ≤ 50) (hy : -50 ≤ y ∧ y ≤ 50) (hi : 0 ≤ i ∧ i < 12) (hn : 0 ≤ M 1 3 ∧ M 1 3 ≤ 12) (hb : ∀ j, 0 ≤ j → j < M 1 3 → j ≠ i → (-50 ≤ M 2 j ∧ M 2 j ≤ 50) ∧ (-50 ≤ M 3 j ∧ M 3 j ≤ 50)) : av_Mt E (d + 4) mX2_put [vR 1, vI i, vI x, vI y] M (fun res M' => res = none ∧ M' 2 i = x ∧ (∀ j, j ≠ i → M' 2 j = M 2 j) ∧ M' 3 i = y ∧ (∀ j, j ≠ i → M' 3 j = M 3 j) ∧ FO (M' 5) (M' 6) (M' 7) (M' 8) (M' 4 4) (M' 4 5) (FS (M 1 3) (M' 2) (M' 3)) ∧ (∀ k, k ≠ 2 → k ≠ 3 → k ≠ 4 → k ≠ 5 → k ≠ 6 → k ≠ 7 → k ≠ 8 → M' k = M k)) := by
  refine av_enter hX2_put oX2_put rfl rfl ?_
  refine ax_aloadn rfl rfl ?_
  refine ax_getR rfl fX2_9 rfl rfl ?_
  refine ax_iloadn rfl rfl ?_
  refine ax_iloadn rfl rfl ?_
  refine ax_iast' rfl rfl (by omega) (fun M6 a6 b6 c6 => ?_)
  refine ax_aloadn rfl rfl ?_
  refine ax_getR rfl fX2_15 rfl rfl ?_
  refine ax_iloadn rfl rfl ?_
  refine ax_iloadn rfl rfl ?_
  refine ax_iast' rfl rfl (by omega) (fun M13 a13 b13 c13 => ?_)
  refine ax_aloadn rfl rfl ?_
  refine ax_callV (as := []) rfl vX2_39 hX2_draw rfl rfl rfl rfl rfl (c_X2_draw E d M13 (by rw [c13 1 (by decide), c6 1 (by decide)]; exact hn) (fun j j0 j1 => by
    rw [c13 1 (by decide), c6 1 (by decide)] at j1
    rw [c13 2 (by decide)]
    by_cases hj : j = i
    · rw [hj, a6, a13]; exact ⟨hx, hy⟩
    · rw [b6 j hj, b13 j hj, c6 3 (by decide)]; exact hb j j0 j1 hj)) (fun r15 M15 hr15 => ?_)
  obtain ⟨rfl, g1, g2⟩ := hr15
  refine ax_vret rfl rfl ?_
  have e2 : M15 2 = M6 2 := by rw [g2 2 (by decide) (by decide) (by decide) (by decide) (by decide), c13 2 (by decide)]
  have e3 : M15 3 = M13 3 := g2 3 (by decide) (by decide) (by decide) (by decide) (by decide)
  have e1 : M13 1 = M 1 := by rw [c13 1 (by decide), c6 1 (by decide)]
  refine ⟨rfl, by rw [e2]; exact a6, fun j hj => by rw [e2]; exact b6 j hj, by rw [e3]; exact a13, fun j hj => by rw [e3, b13 j hj, c6 3 (by decide)], ?_, fun k k2 k3 k4 k5 k6 k7 k8 => by rw [g2 k k4 k5 k6 k7 k8, c13 k k3, c6 k k2]⟩
  rw [e2, e3]
  rw [e1, c13 2 (by decide)] at g1
  exact g1
set_option maxRecDepth 100000 in
set_option maxHeartbeats 800000 in
theorem c_X2_add (E : av_E) (d : Nat) (M : av_M) (x y : Int) (hx : -50 ≤ x ∧ x ≤ 50) (hy : -50 ≤ y ∧ y ≤ 50) (hn : 0 ≤ M 1 3 ∧ M 1 3 < 12) (hb : ∀ j, 0 ≤ j → j < M 1 3 → (-50 ≤ M 2 j ∧ M 2 j ≤ 50) ∧ (-50 ≤ M 3 j ∧ M 3 j ≤ 50)) : av_Mt E (d + 5) mX2_add [vR 1, vI x, vI y] M (fun res M' => res = some (vI (M 1 3)) ∧ M' 1 3 = M 1 3 + 1 ∧ M' 2 (M 1 3) = x ∧ (∀ j, j ≠ M 1 3 → M' 2 j = M 2 j) ∧ M' 3 (M 1 3) = y ∧ (∀ j, j ≠ M 1 3 → M' 3 j = M 3 j) ∧ FO (M' 5) (M' 6) (M' 7) (M' 8) (M' 4 4) (M' 4 5) (FS (M' 1 3) (M' 2) (M' 3)) ∧ (∀ k, k ≠ 1 → k ≠ 2 → k ≠ 3 → k ≠ 4 → k ≠ 5 → k ≠ 6 → k ≠ 7 → k ≠ 8 → M' k = M k)) := by
  refine av_enter hX2_add oX2_add rfl rfl ?_
  refine ax_aloadn rfl rfl ?_
  refine ax_getI (g := 3) rfl fX2_27 rfl rfl rfl rfl ?_
  refine ax_istoren (ls' := [(0, _), (1, _), (2, _), (3, _)]) rfl rfl rfl ?_
  refine ax_aloadn rfl rfl ?_
  refine ax_dup rfl rfl ?_
  refine ax_getI (g := 3) rfl fX2_27 rfl rfl rfl rfl ?_
  refine ax_iconst rfl ?_
  refine ax_iadd rfl ?_
  refine ax_putI' (g := 3) rfl gX2_27 rfl rfl rfl rfl (fun M12 a12 b12 c12 => ?_)
  refine ax_aloadn rfl rfl ?_
  refine ax_iloadn rfl rfl ?_
  refine ax_iloadn rfl rfl ?_
  refine ax_iloadn rfl rfl ?_
  refine ax_callV (as := [_, _, _]) rfl vX2_35 hX2_put rfl rfl rfl rfl rfl (c_X2_put E d M12 (M 1 3) x y hx hy (by omega) (by omega) (fun j j0 j1 hj => by rw [c12 2 (by decide), c12 3 (by decide)]; exact hb j j0 (by omega))) (fun r19 M19 hr19 => ?_)
  obtain ⟨rfl, g1, g2, g3, g4, g5, g6⟩ := hr19
  refine ax_iloadn rfl rfl ?_
  refine ax_iret rfl rfl ?_
  have e1 : M19 1 = M12 1 := g6 1 (by decide) (by decide) (by decide) (by decide) (by decide) (by decide) (by decide)
  refine ⟨rfl, by rw [e1]; exact a12, g1, fun j hj => by rw [g2 j hj, c12 2 (by decide)], g3, fun j hj => by rw [g4 j hj, c12 3 (by decide)], by rw [e1]; exact g5, fun k k1 k2 k3 k4 k5 k6 k7 k8 => by rw [g6 k k2 k3 k4 k5 k6 k7 k8, c12 k k1]⟩
set_option maxRecDepth 100000 in
set_option maxHeartbeats 800000 in
theorem c_X2_drop (E : av_E) (d : Nat) (M : av_M) : av_Mt E (d + 4) mX2_drop [vR 1] M (fun res M' => res = some (vI (M 1 3)) ∧ M' 1 3 = 0 ∧ FO (M' 5) (M' 6) (M' 7) (M' 8) (M' 4 4) (M' 4 5) (FS (M' 1 3) (M' 2) (M' 3)) ∧ (∀ k, k ≠ 1 → k ≠ 4 → k ≠ 5 → k ≠ 6 → k ≠ 7 → k ≠ 8 → M' k = M k)) := by
  refine av_enter hX2_drop oX2_drop rfl rfl ?_
  refine ax_aloadn rfl rfl ?_
  refine ax_getI (g := 3) rfl fX2_27 rfl rfl rfl rfl ?_
  refine ax_istoren (ls' := [(0, _), (1, _)]) rfl rfl rfl ?_
  refine ax_aloadn rfl rfl ?_
  refine ax_iconst rfl ?_
  refine ax_putI' (g := 3) rfl gX2_27 rfl rfl rfl rfl (fun M7 a7 b7 c7 => ?_)
  refine ax_aloadn rfl rfl ?_
  refine ax_callV (as := []) rfl vX2_39 hX2_draw rfl rfl rfl rfl rfl (c_X2_draw E d M7 (by omega) (fun j j0 j1 => by omega)) (fun r11 M11 hr11 => ?_)
  obtain ⟨rfl, g1, g2⟩ := hr11
  refine ax_iloadn rfl rfl ?_
  refine ax_iret rfl rfl ?_
  have e1 : M11 1 = M7 1 := g2 1 (by decide) (by decide) (by decide) (by decide) (by decide)
  have e2 : M11 2 = M7 2 := g2 2 (by decide) (by decide) (by decide) (by decide) (by decide)
  have e3 : M11 3 = M7 3 := g2 3 (by decide) (by decide) (by decide) (by decide) (by decide)
  refine ⟨rfl, by rw [e1]; exact a7, by rw [e1, e2, e3]; exact g1, fun k k1 k4 k5 k6 k7 k8 => by rw [g2 k k4 k5 k6 k7 k8, c7 k k1]⟩
set_option maxRecDepth 100000 in
set_option maxHeartbeats 800000 in
theorem c_X5_inner (E : av_E) (d : Nat) (M : av_M)  : av_Mt E (d) mX5_inner [vR 9] M (av_X (some (vI (M 9 2))) M) := by
  refine av_enter hX5_inner oX5_inner rfl rfl ?_
  refine ax_aloadn rfl rfl ?_
  refine ax_getI (g := 2) rfl fX5_18 rfl rfl rfl rfl ?_
  refine ax_iret rfl rfl ?_
  exact av_rI rfl
set_option maxRecDepth 100000 in
set_option maxHeartbeats 800000 in
theorem c_X5_scale (E : av_E) (d : Nat) (M : av_M)  : av_Mt E (d) mX5_scale [vR 9] M (av_X (some (vI (M 9 3))) M) := by
  refine av_enter hX5_scale oX5_scale rfl rfl ?_
  refine ax_aloadn rfl rfl ?_
  refine ax_getI (g := 3) rfl fX5_22 rfl rfl rfl rfl ?_
  refine ax_iret rfl rfl ?_
  exact av_rI rfl
set_option maxRecDepth 100000 in
set_option maxHeartbeats 800000 in
theorem c_X5_resize (E : av_E) (d : Nat) (M : av_M) (r s : Int) : av_Mt E d mX5_resize [vR 9, vI r, vI s] M (fun res M' => res = some (vI (M 9 2)) ∧ M' 9 2 = r ∧ M' 9 3 = s ∧ (∀ k, k ≠ 9 → M' k = M k)) := by
  refine av_enter hX5_resize oX5_resize rfl rfl ?_
  refine ax_aloadn rfl rfl ?_
  refine ax_getI (g := 2) rfl fX5_18 rfl rfl rfl rfl ?_
  refine ax_istoren (ls' := [(0, _), (1, _), (2, _), (3, _)]) rfl rfl rfl ?_
  refine ax_aloadn rfl rfl ?_
  refine ax_iloadn rfl rfl ?_
  refine ax_putI' (g := 2) rfl gX5_18 rfl rfl rfl rfl (fun M7 a7 b7 c7 => ?_)
  refine ax_aloadn rfl rfl ?_
  refine ax_iloadn rfl rfl ?_
  refine ax_putI' (g := 3) rfl gX5_22 rfl rfl rfl rfl (fun M12 a12 b12 c12 => ?_)
  refine ax_iloadn rfl rfl ?_
  refine ax_iret rfl rfl ?_
  exact ⟨rfl, by rw [b12 2 (by decide)]; exact a7, a12, fun k hk => by rw [c12 k hk, c7 k hk]⟩
set_option maxRecDepth 100000 in
set_option maxHeartbeats 800000 in
theorem c_X5_put (E : av_E) (d : Nat) (M : av_M) (l s v : Int) (hl : l = 0 ∨ l = 1) (hs : 0 ≤ s ∧ s < 96) : av_Mt E d mX5_put [vR 9, vI l, vI s, vI v] M (fun res M' => (l = 0 → res = some (vI (M 11 s)) ∧ M' 11 s = v ∧ (∀ j, j ≠ s → M' 11 j = M 11 j) ∧ ∀ k, k ≠ 11 → M' k = M k) ∧ (l = 1 → res = some (vI (M 10 s)) ∧ M' 10 s = v ∧ (∀ j, j ≠ s → M' 10 j = M 10 j) ∧ ∀ k, k ≠ 10 → M' k = M k)) := by
  refine av_enter hX5_put oX5_put rfl rfl ?_
  refine ax_iloadn rfl rfl ?_
  refine ax_if_eq rfl (by omega) (fun h1 => ?_) (fun h1 => ?_)
  · refine ax_aloadn rfl rfl ?_
    refine ax_getR rfl fX5_15 rfl rfl ?_
    refine ax_astore (ls' := [(0, _), (1, _), (2, _), (3, _), (4, _)]) rfl rfl rfl ?_
    refine ax_aload rfl rfl ?_
    refine ax_iloadn rfl rfl ?_
    refine ax_iald rfl rfl (by omega) ?_
    refine ax_istore (ls' := [(0, _), (1, _), (2, _), (3, _), (4, _), (5, _)]) rfl rfl rfl ?_
    refine ax_aload rfl rfl ?_
    refine ax_iloadn rfl rfl ?_
    refine ax_iloadn rfl rfl ?_
    refine ax_iast' rfl rfl (by omega) (fun M27 a27 b27 c27 => ?_)
    refine ax_iload rfl rfl ?_
    refine ax_iret rfl rfl ?_
    exact ⟨fun h => by first | (exfalso; omega) | exact ⟨rfl, a27, b27, c27⟩, fun h => by first | (exfalso; omega) | exact ⟨rfl, a27, b27, c27⟩⟩
  · refine ax_aloadn rfl rfl ?_
    refine ax_getR rfl fX5_9 rfl rfl ?_
    refine ax_goto rfl ?_
    refine ax_astore (ls' := [(0, _), (1, _), (2, _), (3, _), (4, _)]) rfl rfl rfl ?_
    refine ax_aload rfl rfl ?_
    refine ax_iloadn rfl rfl ?_
    refine ax_iald rfl rfl (by omega) ?_
    refine ax_istore (ls' := [(0, _), (1, _), (2, _), (3, _), (4, _), (5, _)]) rfl rfl rfl ?_
    refine ax_aload rfl rfl ?_
    refine ax_iloadn rfl rfl ?_
    refine ax_iloadn rfl rfl ?_
    refine ax_iast' rfl rfl (by omega) (fun M27 a27 b27 c27 => ?_)
    refine ax_iload rfl rfl ?_
    refine ax_iret rfl rfl ?_
    exact ⟨fun h => by first | (exfalso; omega) | exact ⟨rfl, a27, b27, c27⟩, fun h => by first | (exfalso; omega) | exact ⟨rfl, a27, b27, c27⟩⟩
set_option maxRecDepth 100000 in
set_option maxHeartbeats 800000 in
theorem c_X5_product (E : av_E) (d : Nat) (M : av_M) (i c : Int) (ht : (1 ≤ M 9 2 ∧ M 9 2 ≤ 8) ∧ (1 ≤ M 9 3 ∧ M 9 3 ≤ 999) ∧ (∀ j, 0 ≤ j → j < 96 → 0 ≤ M 10 j ∧ M 10 j ≤ 9999) ∧ (∀ j, 0 ≤ j → j < 96 → 0 ≤ M 11 j ∧ M 11 j ≤ 9999)) (hi : 0 ≤ i ∧ i < 12) (hc : 0 ≤ c ∧ c < 12) : av_Mt E d mX5_product [vR 9, vI i, vI c] M (av_X (some (vI (isum (fun k => M 10 (i * 8 + k) * M 11 (k * 12 + c)) (M 9 2).toNat))) M) := by
  have loop : ∀ (t : Nat) (k : Int), k + t = M 9 2 → 0 ≤ k → av_S E d mX5_product 5 [(0, vR 9), (1, vI i), (2, vI c), (3, vI (isum (fun k => M 10 (i * 8 + k) * M 11 (k * 12 + c)) k.toNat)), (4, vI k)] [] M (av_X (some (vI (isum (fun k => M 10 (i * 8 + k) * M 11 (k * 12 + c)) (M 9 2).toNat))) M) := by
    intro t
    induction t with
    | zero =>
      intro k hk k0
      have ek : k = M 9 2 := by omega
      subst ek
      refine ax_iload rfl rfl ?_
      refine ax_aloadn rfl rfl ?_
      refine ax_getI (g := 2) rfl fX5_18 rfl rfl rfl rfl ?_
      refine ax_icmp_ge rfl (by omega) (by omega) (fun h11 => ?_) (fun h11 => ?_)
      · refine ax_iloadn rfl rfl ?_
        refine ax_iret rfl rfl ?_
        exact av_rI rfl
      · omega
    | succ t ih =>
      intro k hk k0
      have ih2 := ih (k + 1) (by omega) (by omega)
      have es : (k + 1).toNat = k.toNat + 1 := by omega
      have eo : isum (fun k => M 10 (i * 8 + k) * M 11 (k * 12 + c)) (k.toNat + 1) = isum (fun k => M 10 (i * 8 + k) * M 11 (k * 12 + c)) k.toNat + M 10 (i * 8 + (k.toNat : Nat)) * M 11 ((k.toNat : Nat) * 12 + c) := rfl
      rw [show ((k.toNat : Nat) : Int) = k by omega] at eo
      rw [es, eo] at ih2
      refine ax_iload rfl rfl ?_
      refine ax_aloadn rfl rfl ?_
      refine ax_getI (g := 2) rfl fX5_18 rfl rfl rfl rfl ?_
      refine ax_icmp_ge rfl (by omega) (by omega) (fun h11 => ?_) (fun h11 => ?_)
      · omega
      · refine ax_iloadn rfl rfl ?_
        refine ax_aloadn rfl rfl ?_
        refine ax_getR rfl fX5_9 rfl rfl ?_
        refine ax_iloadn rfl rfl ?_
        refine ax_bipush rfl rfl ?_
        refine ax_imul rfl ?_
        refine ax_iload rfl rfl ?_
        refine ax_iadd rfl ?_
        refine ax_iald rfl rfl (by omega) ?_
        refine ax_aloadn rfl rfl ?_
        refine ax_getR rfl fX5_15 rfl rfl ?_
        refine ax_iload rfl rfl ?_
        refine ax_bipush rfl rfl ?_
        refine ax_imul rfl ?_
        refine ax_iloadn rfl rfl ?_
        refine ax_iadd rfl ?_
        refine ax_iald rfl rfl (by omega) ?_
        refine ax_imul rfl ?_
        refine ax_iadd rfl ?_
        refine ax_istoren (ls' := [(0, _), (1, _), (2, _), (3, _), (4, _)]) rfl rfl rfl ?_
        refine ax_iinc (ls' := [(0, _), (1, _), (2, _), (3, _), (4, _)]) rfl rfl rfl rfl ?_
        refine ax_goto rfl ?_
        exact ih2
  refine av_enter hX5_product oX5_product rfl rfl ?_
  refine ax_iconst rfl ?_
  refine ax_istoren (ls' := [(0, _), (1, _), (2, _), (3, _)]) rfl rfl rfl ?_
  refine ax_iconst rfl ?_
  refine ax_istore (ls' := [(0, _), (1, _), (2, _), (3, _), (4, _)]) rfl rfl rfl ?_
  exact loop (M 9 2).toNat 0 (by omega) (by omega)
theorem isum_rng {f : Int → Int} {A : Int} : ∀ n : Nat, (∀ k : Nat, k < n → -A ≤ f k ∧ f k ≤ A) → -(A * n) ≤ isum f n ∧ isum f n ≤ A * n := by
  intro n
  induction n with
  | zero => intro _; show -(A * ((0 : Nat) : Int)) ≤ 0 ∧ 0 ≤ A * ((0 : Nat) : Int); rw [show ((0 : Nat) : Int) = 0 by rfl, Int.mul_zero]; omega
  | succ n ih =>
    intro h
    have a := ih (fun k hk => h k (by omega))
    have b := h n (by omega)
    have e : A * ((n + 1 : Nat) : Int) = A * (n : Int) + A := by rw [show ((n + 1 : Nat) : Int) = (n : Int) + 1 by omega, Int.mul_add, Int.mul_one]
    rw [e]
    show -(A * (n : Int) + A) ≤ isum f n + f n ∧ isum f n + f n ≤ A * (n : Int) + A
    omega
set_option maxRecDepth 100000 in
set_option maxHeartbeats 800000 in
theorem c_X5_firstWrong (E : av_E) (d : Nat) (M : av_M) (S : pt → Prop) (ht : (1 ≤ M 9 2 ∧ M 9 2 ≤ 8) ∧ (1 ≤ M 9 3 ∧ M 9 3 ≤ 999) ∧ (∀ j, 0 ≤ j → j < 96 → 0 ≤ M 10 j ∧ M 10 j ≤ 9999) ∧ (∀ j, 0 ≤ j → j < 96 → 0 ≤ M 11 j ∧ M 11 j ≤ 9999)) (hF : FO (M 5) (M 6) (M 7) (M 8) (M 4 4) (M 4 5) S) : av_Mt E (d + 4) mX5_firstWrong [vR 9, vR 1] M (fun res M' => M' = M ∧ ∃ r, res = some (vI r) ∧ FW (fun i c => isum (fun k => M 10 (i * 8 + k) * M 11 (k * 12 + c)) (M 9 2).toNat = M 9 3 * gp (M 4 5) (fun k => M 5 (M 8 k)) (fun k => M 6 (M 8 k)) i c) (M 4 5) r) := by
  have hfb := FO_fb hF
  have h0 := hfb.1
  have h12 := hfb.2.1
  have rngP : ∀ i c : Int, 0 ≤ i ∧ i < 12 → 0 ≤ c ∧ c < 12 → -2147483648 ≤ isum (fun k => M 10 (i * 8 + k) * M 11 (k * 12 + c)) (M 9 2).toNat ∧ isum (fun k => M 10 (i * 8 + k) * M 11 (k * 12 + c)) (M 9 2).toNat < 2147483648 := by
    intro i c hi hc
    have := isum_rng (f := fun k => M 10 (i * 8 + k) * M 11 (k * 12 + c)) (A := 99980001) (M 9 2).toNat (fun k hk => by
      have a := ht.2.2.1 (i * 8 + k) (by omega) (by omega)
      have b := ht.2.2.2 (k * 12 + c) (by omega) (by omega)
      have := mb (x := M 10 (i * 8 + k)) (y := M 11 (k * 12 + c)) (A := 9999) (B := 9999) (by omega) (by omega)
      omega)
    have e : (99980001 : Int) * ((M 9 2).toNat : Int) ≤ 99980001 * 8 := by omega
    omega
  have rngG : ∀ i c : Int, 0 ≤ i ∧ i < (M 4 5) → 0 ≤ c ∧ c < (M 4 5) → -2147483648 ≤ M 9 3 * gp (M 4 5) (fun k => M 5 (M 8 k)) (fun k => M 6 (M 8 k)) i c ∧ M 9 3 * gp (M 4 5) (fun k => M 5 (M 8 k)) (fun k => M 6 (M 8 k)) i c < 2147483648 := by
    intro i c hi hc
    have := mb (x := M 9 3) (A := 999) (by omega) (gp_rng hfb hi hc)
    omega
  have inner : ∀ (i : Int), 0 ≤ i → i < (M 4 5) → (∀ a b, 0 ≤ a → a < i → 0 ≤ b → b < (M 4 5) → (fun i c => isum (fun k => M 10 (i * 8 + k) * M 11 (k * 12 + c)) (M 9 2).toNat = M 9 3 * gp (M 4 5) (fun k => M 5 (M 8 k)) (fun k => M 6 (M 8 k)) i c) a b) → ((∀ b, 0 ≤ b → b < (M 4 5) → (fun i c => isum (fun k => M 10 (i * 8 + k) * M 11 (k * 12 + c)) (M 9 2).toNat = M 9 3 * gp (M 4 5) (fun k => M 5 (M 8 k)) (fun k => M 6 (M 8 k)) i c) i b) → av_S E (d + 4) mX5_firstWrong 60 [(0, vR 9), (1, vR 1), (2, vI (M 4 5)), (3, vI i), (4, vI (M 4 5))] [] M (fun res M' => M' = M ∧ ∃ r, res = some (vI r) ∧ FW (fun i c => isum (fun k => M 10 (i * 8 + k) * M 11 (k * 12 + c)) (M 9 2).toNat = M 9 3 * gp (M 4 5) (fun k => M 5 (M 8 k)) (fun k => M 6 (M 8 k)) i c) (M 4 5) r)) → ∀ (t : Nat) (c : Int), c + t = (M 4 5) → 0 ≤ c → (∀ b, 0 ≤ b → b < c → (fun i c => isum (fun k => M 10 (i * 8 + k) * M 11 (k * 12 + c)) (M 9 2).toNat = M 9 3 * gp (M 4 5) (fun k => M 5 (M 8 k)) (fun k => M 6 (M 8 k)) i c) i b) → av_S E (d + 4) mX5_firstWrong 18 [(0, vR 9), (1, vR 1), (2, vI (M 4 5)), (3, vI i), (4, vI c)] [] M (fun res M' => M' = M ∧ ∃ r, res = some (vI r) ∧ FW (fun i c => isum (fun k => M 10 (i * 8 + k) * M 11 (k * 12 + c)) (M 9 2).toNat = M 9 3 * gp (M 4 5) (fun k => M 5 (M 8 k)) (fun k => M 6 (M 8 k)) i c) (M 4 5) r) := by
    intro i i0 i1 hbef hx t
    induction t with
    | zero =>
      intro c hc c0 hall
      have ec : c = (M 4 5) := by omega
      subst ec
      refine ax_iload rfl rfl ?_
      refine ax_iloadn rfl rfl ?_
      refine ax_icmp_ge rfl (by omega) (by omega) (fun h21 => ?_) (fun h21 => ?_)
      · exact hx hall
      · omega
    | succ t ih =>
      intro c hc c0 hall
      have r1 := rngP i c (by omega) (by omega)
      have r2 := rngG i c (by omega) (by omega)
      refine ax_iload rfl rfl ?_
      refine ax_iloadn rfl rfl ?_
      refine ax_icmp_ge rfl (by omega) (by omega) (fun h21 => ?_) (fun h21 => ?_)
      · omega
      · refine ax_aloadn rfl rfl ?_
        refine ax_iloadn rfl rfl ?_
        refine ax_iload rfl rfl ?_
        refine ax_callV (as := [_, _]) rfl vX5_37 hX5_product rfl rfl rfl rfl rfl (c_X5_product E (d + 3) M i c ht (by omega) (by omega)) (av_Xk ?_)
        refine ax_aloadn rfl rfl ?_
        refine ax_getI (g := 3) rfl fX5_22 rfl rfl rfl rfl ?_
        refine ax_aloadn rfl rfl ?_
        refine ax_iloadn rfl rfl ?_
        refine ax_iload rfl rfl ?_
        refine ax_callV (as := [_, _]) rfl vX5_41 hX2_gap rfl rfl rfl rfl rfl (c_X2_gap E d M S i c hF (by omega) (by omega)) (av_Xk ?_)
        refine ax_imul rfl ?_
        refine ax_icmp_eq rfl (by omega) (by omega) (fun h43 => ?_) (fun h43 => ?_)
        · refine ax_iinc (ls' := [(0, _), (1, _), (2, _), (3, _), (4, _)]) rfl rfl rfl rfl ?_
          refine ax_goto rfl ?_
          refine ih _ (by omega) (by omega) (fun b b0 b1 => ?_)
          by_cases hb : b = c
          · rw [hb]; exact h43
          · exact hall b b0 (by omega)
        · refine ax_bipush rfl rfl ?_
          refine ax_iloadn rfl rfl ?_
          refine ax_imul rfl ?_
          refine ax_iload rfl rfl ?_
          refine ax_iadd rfl ?_
          refine ax_iret rfl rfl ?_
          refine ⟨rfl, _, rfl, Or.inl ⟨i, c, i0, i1, c0, by omega, h43, fun a b a0 a1 b0 b1 hab => ?_, rfl⟩⟩
          rcases hab with hab | hab
          · exact hbef a b a0 hab b0 b1
          · rw [hab.1]; exact hall b b0 hab.2
  have outer : ∀ (t : Nat) (i : Int), i + t = (M 4 5) → 0 ≤ i → (∀ a b, 0 ≤ a → a < i → 0 ≤ b → b < (M 4 5) → (fun i c => isum (fun k => M 10 (i * 8 + k) * M 11 (k * 12 + c)) (M 9 2).toNat = M 9 3 * gp (M 4 5) (fun k => M 5 (M 8 k)) (fun k => M 6 (M 8 k)) i c) a b) → av_S E (d + 4) mX5_firstWrong 10 [(0, vR 9), (1, vR 1), (2, vI (M 4 5)), (3, vI i)] [] M (fun res M' => M' = M ∧ ∃ r, res = some (vI r) ∧ FW (fun i c => isum (fun k => M 10 (i * 8 + k) * M 11 (k * 12 + c)) (M 9 2).toNat = M 9 3 * gp (M 4 5) (fun k => M 5 (M 8 k)) (fun k => M 6 (M 8 k)) i c) (M 4 5) r) := by
    intro t
    induction t with
    | zero =>
      intro i hi i0 hall
      have ei : i = (M 4 5) := by omega
      subst ei
      refine ax_iloadn rfl rfl ?_
      refine ax_iloadn rfl rfl ?_
      refine ax_icmp_ge rfl (by omega) (by omega) (fun h12 => ?_) (fun h12 => ?_)
      · refine ax_ldc (z := (-900000009)) rfl kX5_44 rfl ?_
        refine ax_iret rfl rfl ?_
        exact ⟨rfl, _, rfl, Or.inr ⟨hall, rfl⟩⟩
      · omega
    | succ t ih =>
      intro i hi i0 hall
      refine ax_iloadn rfl rfl ?_
      refine ax_iloadn rfl rfl ?_
      refine ax_icmp_ge rfl (by omega) (by omega) (fun h12 => ?_) (fun h12 => ?_)
      · omega
      · refine ax_iconst rfl ?_
        refine ax_istore (ls' := [(0, _), (1, _), (2, _), (3, _), (4, _)]) rfl rfl rfl ?_
        refine inner i i0 (by omega) hall (fun hrow => ?_) (M 4 5).toNat 0 (by omega) (by omega) (fun b b0 b1 => by omega)
        refine ax_iinc (ls' := [(0, _), (1, _), (2, _), (3, _), (4, _)]) rfl rfl rfl rfl ?_
        refine ax_goto rfl ?_
        refine ax_pick [0, 1, 2, 3] rfl ?_
        refine ih _ (by omega) (by omega) (fun a b a0 a1 b0 b1 => ?_)
        by_cases ha : a = i
        · rw [ha]; exact hrow b b0 b1
        · exact hall a b a0 (by omega) b0 b1
  refine av_enter hX5_firstWrong oX5_firstWrong rfl rfl ?_
  refine ax_aloadn rfl rfl ?_
  refine ax_callV (as := []) rfl vX5_25 hX2_hull rfl rfl rfl rfl rfl (c_X2_hull E (d + 3) M) (av_Xk ?_)
  refine ax_callV (as := []) rfl vX5_31 hX4_size rfl rfl rfl rfl rfl (c_H_size E (d + 3) M) (av_Xk ?_)
  refine ax_istoren (ls' := [(0, _), (1, _), (2, _)]) rfl rfl rfl ?_
  refine ax_iconst rfl ?_
  refine ax_istoren (ls' := [(0, _), (1, _), (2, _), (3, _)]) rfl rfl rfl ?_
  exact outer (M 4 5).toNat 0 (by omega) (by omega) (fun a b a0 a1 b0 b1 => by omega)
