/-! ===== the reference: what changes ===== -/
set_option maxRecDepth 100000 in
set_option maxHeartbeats 800000 in
theorem c_X8_point (E : av_E) (d : Nat) (M : av_M) (hn : 0 ≤ M 35 0 ∧ M 35 0 ≤ 12) (x y : Int) (hix : -2147483648 ≤ x ∧ x < 2147483648) (hiy : -2147483648 ≤ y ∧ y < 2147483648) : av_Mt E (d + 8) mX8_point [vR 35, vI x, vI y] M (fun res M' => (¬ ((-50 ≤ x ∧ x ≤ 50) ∧ (-50 ≤ y ∧ y ≤ 50)) ∧ res = some (vI (-900000002)) ∧ M' = M) ∨ (((-50 ≤ x ∧ x ≤ 50) ∧ (-50 ≤ y ∧ y ≤ 50)) ∧ 12 ≤ M 35 0 ∧ res = some (vI (-900000004)) ∧ M' = M) ∨ (((-50 ≤ x ∧ x ≤ 50) ∧ (-50 ≤ y ∧ y ≤ 50)) ∧ M 35 0 < 12 ∧ res = some (vI (M 35 0)) ∧ (M' 35 0 = M 35 0 + 1 ∧ M' 36 (M 35 0) = x ∧ (∀ j, j ≠ M 35 0 → M' 36 j = M 36 j) ∧ M' 37 (M 35 0) = y ∧ ∀ j, j ≠ M 35 0 → M' 37 j = M 37 j) ∧ (∀ f, f ≠ 0 → M' 35 f = M 35 f) ∧ ∀ k, k ≠ 35 → k ≠ 36 → k ≠ 37 → M' k = M k)) := by
  have hc0 := b01_c (-50 ≤ x ∧ x ≤ 50)
  have hc1 := b01_c (-50 ≤ y ∧ y ≤ 50)
  refine av_enter hX8_point oX8_point rfl rfl ?_
  refine ax_iloadn rfl rfl ?_
  refine ax_i2l rfl (by omega) ?_
  refine ax_ldc2 (z := (-50)) rfl kX8_92 rfl ?_
  refine ax_ldc2 (z := 50) rfl kX8_94 rfl ?_
  refine ax_callS (as := [_, _, _]) rfl sX8_96 hX8_in rfl rfl rfl rfl (c_X8_in E (d + 7) M x (-50) 50 (by omega) (by omega) (by omega)) (av_Xk ?_)
  refine ax_if_eq rfl (by omega) (fun h11 => ?_) (fun h11 => ?_)
  · refine ax_ldc (z := (-900000002)) rfl kX8_100 rfl ?_
    refine ax_iret rfl rfl ?_
    exact Or.inl ⟨by omega, rfl, rfl⟩
  · refine ax_iloadn rfl rfl ?_
    refine ax_i2l rfl (by omega) ?_
    refine ax_ldc2 (z := (-50)) rfl kX8_92 rfl ?_
    refine ax_ldc2 (z := 50) rfl kX8_94 rfl ?_
    refine ax_callS (as := [_, _, _]) rfl sX8_96 hX8_in rfl rfl rfl rfl (c_X8_in E (d + 7) M y (-50) 50 (by omega) (by omega) (by omega)) (av_Xk ?_)
    refine ax_if_ne rfl (by omega) (fun h25 => ?_) (fun h25 => ?_)
    · refine ax_aloadn rfl rfl ?_
      refine ax_getI (g := 0) rfl fX8_101 rfl rfl rfl rfl ?_
      refine ax_bipush rfl rfl ?_
      refine ax_icmp_ne rfl (by omega) (by omega) (fun h37 => ?_) (fun h37 => ?_)
      · refine ax_aloadn rfl rfl ?_
        refine ax_getR rfl fX8_7 rfl rfl ?_
        refine ax_aloadn rfl rfl ?_
        refine ax_getI (g := 0) rfl fX8_101 rfl rfl rfl rfl ?_
        refine ax_iloadn rfl rfl ?_
        refine ax_iast' rfl rfl (by omega) (fun M52 a52 b52 c52 => ?_)
        refine ax_aloadn rfl rfl ?_
        refine ax_getR rfl fX8_13 rfl rfl ?_
        refine ax_aloadn rfl rfl ?_
        refine ax_getI (g := 0) rfl fX8_101 rfl rfl rfl rfl ?_
        refine ax_iloadn rfl rfl ?_
        refine ax_iast' rfl rfl (by rw [c52 35 (by decide)]; omega) (fun M62 a62 b62 c62 => ?_)
        refine ax_aloadn rfl rfl ?_
        refine ax_dup rfl rfl ?_
        refine ax_getI (g := 0) rfl fX8_101 rfl rfl rfl rfl ?_
        refine ax_iconst rfl ?_
        refine ax_iadd rfl ?_
        refine ax_putI' (g := 0) rfl gX8_101 rfl rfl rfl rfl (fun M70 a70 b70 c70 => ?_)
        refine ax_aloadn rfl rfl ?_
        refine ax_getI (g := 0) rfl fX8_101 rfl rfl rfl rfl ?_
        refine ax_iconst rfl ?_
        refine ax_isub rfl ?_
        refine ax_iret rfl rfl ?_
        have q35 : M62 35 = M 35 := by rw [c62 35 (by decide), c52 35 (by decide)]
        have v0 : M70 35 0 = M 35 0 + 1 := by rw [a70, q35]
        refine Or.inr (Or.inr ⟨by omega, by omega, by rw [v0]; congr 2; omega, ⟨v0, ?_, fun j hj => ?_, ?_, fun j hj => ?_⟩, fun f hf => by rw [b70 f hf, q35], fun k k0 k1 k2 => by rw [c70 k k0, c62 k k2, c52 k k1]⟩)
        · rw [c70 36 (by decide), c62 36 (by decide)]; exact a52
        · rw [c70 36 (by decide), c62 36 (by decide)]; exact b52 j hj
        · rw [c70 37 (by decide)]; rw [c52 35 (by decide)] at a62; exact a62
        · rw [c70 37 (by decide)]; rw [c52 35 (by decide)] at b62; rw [b62 j hj, c52 37 (by decide)]
      · refine ax_ldc (z := (-900000004)) rfl kX8_104 rfl ?_
        refine ax_iret rfl rfl ?_
        exact Or.inr (Or.inl ⟨by omega, by omega, rfl, rfl⟩)
    · refine ax_ldc (z := (-900000002)) rfl kX8_100 rfl ?_
      refine ax_iret rfl rfl ?_
      exact Or.inl ⟨by omega, rfl, rfl⟩
set_option maxRecDepth 100000 in
set_option maxHeartbeats 800000 in
theorem c_X8_move (E : av_E) (d : Nat) (M : av_M) (hn : 0 ≤ M 35 0 ∧ M 35 0 ≤ 12) (i x y : Int) (hii : -2147483648 ≤ i ∧ i < 2147483648) (hix : -2147483648 ≤ x ∧ x < 2147483648) (hiy : -2147483648 ≤ y ∧ y < 2147483648) : av_Mt E (d + 8) mX8_move [vR 35, vI i, vI x, vI y] M (fun res M' => (¬ (0 ≤ i ∧ i < M 35 0) ∧ res = some (vI (-900000001)) ∧ M' = M) ∨ ((0 ≤ i ∧ i < M 35 0) ∧ ¬ ((-50 ≤ x ∧ x ≤ 50) ∧ (-50 ≤ y ∧ y ≤ 50)) ∧ res = some (vI (-900000002)) ∧ M' = M) ∨ ((0 ≤ i ∧ i < M 35 0) ∧ ((-50 ≤ x ∧ x ≤ 50) ∧ (-50 ≤ y ∧ y ≤ 50)) ∧ res = some (vI 1) ∧ (M' 36 i = x ∧ (∀ j, j ≠ i → M' 36 j = M 36 j) ∧ M' 37 i = y ∧ ∀ j, j ≠ i → M' 37 j = M 37 j) ∧ ∀ k, k ≠ 36 → k ≠ 37 → M' k = M k)) := by
  have hc0 := b01_c (-50 ≤ x ∧ x ≤ 50)
  have hc1 := b01_c (-50 ≤ y ∧ y ≤ 50)
  have hc2 := b01_c (0 ≤ i ∧ i ≤ M 35 0 - 1)
  refine av_enter hX8_move oX8_move rfl rfl ?_
  refine ax_iloadn rfl rfl ?_
  refine ax_i2l rfl (by omega) ?_
  refine ax_lconst (w := 0) rfl rfl ?_
  refine ax_aloadn rfl rfl ?_
  refine ax_getI (g := 0) rfl fX8_101 rfl rfl rfl rfl ?_
  refine ax_iconst rfl ?_
  refine ax_isub rfl ?_
  refine ax_i2l rfl (by omega) ?_
  refine ax_callS (as := [_, _, _]) rfl sX8_96 hX8_in rfl rfl rfl rfl (c_X8_in E (d + 7) M i 0 (M 35 0 - 1) (by omega) (by omega) (by omega)) (av_Xk ?_)
  refine ax_if_ne rfl (by omega) (fun h13 => ?_) (fun h13 => ?_)
  · refine ax_iloadn rfl rfl ?_
    refine ax_i2l rfl (by omega) ?_
    refine ax_ldc2 (z := (-50)) rfl kX8_92 rfl ?_
    refine ax_ldc2 (z := 50) rfl kX8_94 rfl ?_
    refine ax_callS (as := [_, _, _]) rfl sX8_96 hX8_in rfl rfl rfl rfl (c_X8_in E (d + 7) M x (-50) 50 (by omega) (by omega) (by omega)) (av_Xk ?_)
    refine ax_if_eq rfl (by omega) (fun h30 => ?_) (fun h30 => ?_)
    · refine ax_ldc (z := (-900000002)) rfl kX8_100 rfl ?_
      refine ax_iret rfl rfl ?_
      exact Or.inr (Or.inl ⟨by omega, by omega, rfl, rfl⟩)
    · refine ax_iloadn rfl rfl ?_
      refine ax_i2l rfl (by omega) ?_
      refine ax_ldc2 (z := (-50)) rfl kX8_92 rfl ?_
      refine ax_ldc2 (z := 50) rfl kX8_94 rfl ?_
      refine ax_callS (as := [_, _, _]) rfl sX8_96 hX8_in rfl rfl rfl rfl (c_X8_in E (d + 7) M y (-50) 50 (by omega) (by omega) (by omega)) (av_Xk ?_)
      refine ax_if_ne rfl (by omega) (fun h44 => ?_) (fun h44 => ?_)
      · refine ax_aloadn rfl rfl ?_
        refine ax_getR rfl fX8_7 rfl rfl ?_
        refine ax_iloadn rfl rfl ?_
        refine ax_iloadn rfl rfl ?_
        refine ax_iast' rfl rfl (by omega) (fun M56 a56 b56 c56 => ?_)
        refine ax_aloadn rfl rfl ?_
        refine ax_getR rfl fX8_13 rfl rfl ?_
        refine ax_iloadn rfl rfl ?_
        refine ax_iloadn rfl rfl ?_
        refine ax_iast' rfl rfl (by omega) (fun M63 a63 b63 c63 => ?_)
        refine ax_iconst rfl ?_
        refine ax_iret rfl rfl ?_
        exact Or.inr (Or.inr ⟨by omega, by omega, rfl, ⟨by rw [c63 36 (by decide)]; exact a56, fun j hj => by rw [c63 36 (by decide)]; exact b56 j hj, a63, fun j hj => by rw [b63 j hj, c56 37 (by decide)]⟩, fun k k1 k2 => by rw [c63 k k2, c56 k k1]⟩)
      · refine ax_ldc (z := (-900000002)) rfl kX8_100 rfl ?_
        refine ax_iret rfl rfl ?_
        exact Or.inr (Or.inl ⟨by omega, by omega, rfl, rfl⟩)
  · refine ax_ldc (z := (-900000001)) rfl kX8_105 rfl ?_
    refine ax_iret rfl rfl ?_
    exact Or.inl ⟨by omega, rfl, rfl⟩
set_option maxRecDepth 100000 in
set_option maxHeartbeats 800000 in
theorem c_X8_clear (E : av_E) (d : Nat) (M : av_M) : av_Mt E (d + 8) mX8_clear [vR 35] M (fun res M' => res = some (vI (M 35 0)) ∧ M' 35 0 = 0 ∧ (∀ f, f ≠ 0 → M' 35 f = M 35 f) ∧ ∀ k, k ≠ 35 → M' k = M k) := by
  refine av_enter hX8_clear oX8_clear rfl rfl ?_
  refine ax_aloadn rfl rfl ?_
  refine ax_getI (g := 0) rfl fX8_101 rfl rfl rfl rfl ?_
  refine ax_istoren (ls' := [(0, _), (1, _)]) rfl rfl rfl ?_
  refine ax_aloadn rfl rfl ?_
  refine ax_iconst rfl ?_
  refine ax_putI' (g := 0) rfl gX8_101 rfl rfl rfl rfl (fun M7 a7 b7 c7 => ?_)
  refine ax_iloadn rfl rfl ?_
  refine ax_iret rfl rfl ?_
  exact ⟨rfl, a7, b7, c7⟩
set_option maxRecDepth 100000 in
set_option maxHeartbeats 800000 in
theorem c_X8_factors (E : av_E) (d : Nat) (M : av_M) (r s : Int) (hir : -2147483648 ≤ r ∧ r < 2147483648) (his : -2147483648 ≤ s ∧ s < 2147483648) : av_Mt E (d + 8) mX8_factors [vR 35, vI r, vI s] M (fun res M' => (¬ ((1 ≤ r ∧ r ≤ 8) ∧ (1 ≤ s ∧ s ≤ 999)) ∧ res = some (vI (-900000002)) ∧ M' = M) ∨ (((1 ≤ r ∧ r ≤ 8) ∧ (1 ≤ s ∧ s ≤ 999)) ∧ res = some (vI (M 35 19)) ∧ (M' 35 19 = r ∧ M' 35 20 = s) ∧ (∀ f, f ≠ 19 → f ≠ 20 → M' 35 f = M 35 f) ∧ ∀ k, k ≠ 35 → M' k = M k)) := by
  have hc0 := b01_c (1 ≤ r ∧ r ≤ 8)
  have hc1 := b01_c (1 ≤ s ∧ s ≤ 999)
  refine av_enter hX8_factors oX8_factors rfl rfl ?_
  refine ax_iloadn rfl rfl ?_
  refine ax_i2l rfl (by omega) ?_
  refine ax_lconst (w := 1) rfl rfl ?_
  refine ax_ldc2 (z := 8) rfl kX8_194 rfl ?_
  refine ax_callS (as := [_, _, _]) rfl sX8_96 hX8_in rfl rfl rfl rfl (c_X8_in E (d + 7) M r 1 8 (by omega) (by omega) (by omega)) (av_Xk ?_)
  refine ax_if_eq rfl (by omega) (fun h9 => ?_) (fun h9 => ?_)
  · refine ax_ldc (z := (-900000002)) rfl kX8_100 rfl ?_
    refine ax_iret rfl rfl ?_
    exact Or.inl ⟨by omega, rfl, rfl⟩
  · refine ax_iloadn rfl rfl ?_
    refine ax_i2l rfl (by omega) ?_
    refine ax_lconst (w := 1) rfl rfl ?_
    refine ax_ldc2 (z := 999) rfl kX8_196 rfl ?_
    refine ax_callS (as := [_, _, _]) rfl sX8_96 hX8_in rfl rfl rfl rfl (c_X8_in E (d + 7) M s 1 999 (by omega) (by omega) (by omega)) (av_Xk ?_)
    refine ax_if_ne rfl (by omega) (fun h21 => ?_) (fun h21 => ?_)
    · refine ax_aloadn rfl rfl ?_
      refine ax_getI (g := 19) rfl fX8_53 rfl rfl rfl rfl ?_
      refine ax_istoren (ls' := [(0, _), (1, _), (2, _), (3, _)]) rfl rfl rfl ?_
      refine ax_aloadn rfl rfl ?_
      refine ax_iloadn rfl rfl ?_
      refine ax_putI' (g := 19) rfl gX8_53 rfl rfl rfl rfl (fun M34 a34 b34 c34 => ?_)
      refine ax_aloadn rfl rfl ?_
      refine ax_iloadn rfl rfl ?_
      refine ax_putI' (g := 20) rfl gX8_57 rfl rfl rfl rfl (fun M39 a39 b39 c39 => ?_)
      refine ax_iloadn rfl rfl ?_
      refine ax_iret rfl rfl ?_
      exact Or.inr ⟨by omega, rfl, ⟨by rw [b39 19 (by decide)]; exact a34, a39⟩, fun f f1 f2 => by rw [b39 f f2, b34 f f1], fun k k0 => by rw [c39 k k0, c34 k k0]⟩
    · refine ax_ldc (z := (-900000002)) rfl kX8_100 rfl ?_
      refine ax_iret rfl rfl ?_
      exact Or.inl ⟨by omega, rfl, rfl⟩
set_option maxRecDepth 100000 in
set_option maxHeartbeats 800000 in
theorem c_X8_entry_0 (E : av_E) (d : Nat) (M : av_M) (row col v : Int) (hirow : -2147483648 ≤ row ∧ row < 2147483648) (hicol : -2147483648 ≤ col ∧ col < 2147483648) (hiv : -2147483648 ≤ v ∧ v < 2147483648) : av_Mt E (d + 8) mX8_entry [vR 35, vI 0, vI row, vI col, vI v] M (fun res M' => (¬ ((0 ≤ row ∧ row < 8) ∧ (0 ≤ col ∧ col < 12)) ∧ res = some (vI (-900000001)) ∧ M' = M) ∨ (((0 ≤ row ∧ row < 8) ∧ (0 ≤ col ∧ col < 12)) ∧ ¬ (0 ≤ v ∧ v ≤ 9999) ∧ res = some (vI (-900000002)) ∧ M' = M) ∨ (((0 ≤ row ∧ row < 8) ∧ (0 ≤ col ∧ col < 12)) ∧ (0 ≤ v ∧ v ≤ 9999) ∧ res = some (vI (M 51 (12 * row + col))) ∧ (M' 51 (12 * row + col) = v ∧ ∀ j, j ≠ (12 * row + col) → M' 51 j = M 51 j) ∧ ∀ k, k ≠ 51 → M' k = M k)) := by
  have hc0 := b01_c (0 ≤ row ∧ row ≤ 7)
  have hc1 := b01_c (0 ≤ col ∧ col ≤ 11)
  have hc2 := b01_c (0 ≤ v ∧ v ≤ 9999)
  refine av_enter hX8_entry oX8_entry rfl rfl ?_
  refine ax_iloadn rfl rfl ?_
  refine ax_i2l rfl (by omega) ?_
  refine ax_lconst (w := 0) rfl rfl ?_
  refine ax_iloadn rfl rfl ?_
  refine ax_if_eq rfl (by omega) (fun h4 => ?_) (fun h4 => ?_)
  · refine ax_ldc2 (z := 7) rfl kX8_200 rfl ?_
    refine ax_callS (as := [_, _, _]) rfl sX8_96 hX8_in rfl rfl rfl rfl (c_X8_in E (d + 7) M row 0 7 (by omega) (by omega) (by omega)) (av_Xk ?_)
    refine ax_if_eq rfl (by omega) (fun h19 => ?_) (fun h19 => ?_)
    · refine ax_ldc (z := (-900000001)) rfl kX8_105 rfl ?_
      refine ax_iret rfl rfl ?_
      exact Or.inl ⟨by omega, rfl, rfl⟩
    · refine ax_iloadn rfl rfl ?_
      refine ax_i2l rfl (by omega) ?_
      refine ax_lconst (w := 0) rfl rfl ?_
      refine ax_iloadn rfl rfl ?_
      refine ax_if_eq rfl (by omega) (fun h26 => ?_) (fun h26 => ?_)
      · refine ax_ldc2 (z := 11) rfl kX8_198 rfl ?_
        refine ax_callS (as := [_, _, _]) rfl sX8_96 hX8_in rfl rfl rfl rfl (c_X8_in E (d + 7) M col 0 11 (by omega) (by omega) (by omega)) (av_Xk ?_)
        refine ax_if_ne rfl (by omega) (fun h41 => ?_) (fun h41 => ?_)
        · refine ax_iload rfl rfl ?_
          refine ax_i2l rfl (by omega) ?_
          refine ax_lconst (w := 0) rfl rfl ?_
          refine ax_ldc2 (z := 9999) rfl kX8_202 rfl ?_
          refine ax_callS (as := [_, _, _]) rfl sX8_96 hX8_in rfl rfl rfl rfl (c_X8_in E (d + 7) M v 0 9999 (by omega) (by omega) (by omega)) (av_Xk ?_)
          refine ax_if_ne rfl (by omega) (fun h57 => ?_) (fun h57 => ?_)
          · refine ax_iloadn rfl rfl ?_
            refine ax_if_eq rfl (by omega) (fun h64 => ?_) (fun h64 => ?_)
            · refine ax_aloadn rfl rfl ?_
              refine ax_getR rfl fX8_63 rfl rfl ?_
              refine ax_bipush rfl rfl ?_
              refine ax_iloadn rfl rfl ?_
              refine ax_imul rfl ?_
              refine ax_iloadn rfl rfl ?_
              refine ax_iadd rfl ?_
              refine ax_iald rfl rfl (by omega) ?_
              refine ax_istore (ls' := [(0, _), (1, _), (2, _), (3, _), (4, _), (5, _)]) rfl rfl rfl ?_
              refine ax_aloadn rfl rfl ?_
              refine ax_getR rfl fX8_63 rfl rfl ?_
              refine ax_bipush rfl rfl ?_
              refine ax_iloadn rfl rfl ?_
              refine ax_imul rfl ?_
              refine ax_iloadn rfl rfl ?_
              refine ax_iadd rfl ?_
              refine ax_iload rfl rfl ?_
              refine ax_iast' rfl rfl (by omega) (fun M121 a121 b121 c121 => ?_)
              refine ax_iload rfl rfl ?_
              refine ax_iret rfl rfl ?_
              exact Or.inr (Or.inr ⟨by omega, by omega, rfl, ⟨a121, b121⟩, c121⟩)
            · omega
          · refine ax_ldc (z := (-900000002)) rfl kX8_100 rfl ?_
            refine ax_iret rfl rfl ?_
            exact Or.inr (Or.inl ⟨by omega, by omega, rfl, rfl⟩)
        · refine ax_ldc (z := (-900000001)) rfl kX8_105 rfl ?_
          refine ax_iret rfl rfl ?_
          exact Or.inl ⟨by omega, rfl, rfl⟩
      · omega
  · omega
set_option maxRecDepth 100000 in
set_option maxHeartbeats 800000 in
theorem c_X8_entry_1 (E : av_E) (d : Nat) (M : av_M) (row col v : Int) (hirow : -2147483648 ≤ row ∧ row < 2147483648) (hicol : -2147483648 ≤ col ∧ col < 2147483648) (hiv : -2147483648 ≤ v ∧ v < 2147483648) : av_Mt E (d + 8) mX8_entry [vR 35, vI 1, vI row, vI col, vI v] M (fun res M' => (¬ ((0 ≤ row ∧ row < 12) ∧ (0 ≤ col ∧ col < 8)) ∧ res = some (vI (-900000001)) ∧ M' = M) ∨ (((0 ≤ row ∧ row < 12) ∧ (0 ≤ col ∧ col < 8)) ∧ ¬ (0 ≤ v ∧ v ≤ 9999) ∧ res = some (vI (-900000002)) ∧ M' = M) ∨ (((0 ≤ row ∧ row < 12) ∧ (0 ≤ col ∧ col < 8)) ∧ (0 ≤ v ∧ v ≤ 9999) ∧ res = some (vI (M 50 (8 * row + col))) ∧ (M' 50 (8 * row + col) = v ∧ ∀ j, j ≠ (8 * row + col) → M' 50 j = M 50 j) ∧ ∀ k, k ≠ 50 → M' k = M k)) := by
  have hc0 := b01_c (0 ≤ row ∧ row ≤ 11)
  have hc1 := b01_c (0 ≤ col ∧ col ≤ 7)
  have hc2 := b01_c (0 ≤ v ∧ v ≤ 9999)
  refine av_enter hX8_entry oX8_entry rfl rfl ?_
  refine ax_iloadn rfl rfl ?_
  refine ax_i2l rfl (by omega) ?_
  refine ax_lconst (w := 0) rfl rfl ?_
  refine ax_iloadn rfl rfl ?_
  refine ax_if_eq rfl (by omega) (fun h4 => ?_) (fun h4 => ?_)
  · omega
  · refine ax_ldc2 (z := 11) rfl kX8_198 rfl ?_
    refine ax_goto rfl ?_
    refine ax_callS (as := [_, _, _]) rfl sX8_96 hX8_in rfl rfl rfl rfl (c_X8_in E (d + 7) M row 0 11 (by omega) (by omega) (by omega)) (av_Xk ?_)
    refine ax_if_eq rfl (by omega) (fun h19 => ?_) (fun h19 => ?_)
    · refine ax_ldc (z := (-900000001)) rfl kX8_105 rfl ?_
      refine ax_iret rfl rfl ?_
      exact Or.inl ⟨by omega, rfl, rfl⟩
    · refine ax_iloadn rfl rfl ?_
      refine ax_i2l rfl (by omega) ?_
      refine ax_lconst (w := 0) rfl rfl ?_
      refine ax_iloadn rfl rfl ?_
      refine ax_if_eq rfl (by omega) (fun h26 => ?_) (fun h26 => ?_)
      · omega
      · refine ax_ldc2 (z := 7) rfl kX8_200 rfl ?_
        refine ax_goto rfl ?_
        refine ax_callS (as := [_, _, _]) rfl sX8_96 hX8_in rfl rfl rfl rfl (c_X8_in E (d + 7) M col 0 7 (by omega) (by omega) (by omega)) (av_Xk ?_)
        refine ax_if_ne rfl (by omega) (fun h41 => ?_) (fun h41 => ?_)
        · refine ax_iload rfl rfl ?_
          refine ax_i2l rfl (by omega) ?_
          refine ax_lconst (w := 0) rfl rfl ?_
          refine ax_ldc2 (z := 9999) rfl kX8_202 rfl ?_
          refine ax_callS (as := [_, _, _]) rfl sX8_96 hX8_in rfl rfl rfl rfl (c_X8_in E (d + 7) M v 0 9999 (by omega) (by omega) (by omega)) (av_Xk ?_)
          refine ax_if_ne rfl (by omega) (fun h57 => ?_) (fun h57 => ?_)
          · refine ax_iloadn rfl rfl ?_
            refine ax_if_eq rfl (by omega) (fun h64 => ?_) (fun h64 => ?_)
            · omega
            · refine ax_aloadn rfl rfl ?_
              refine ax_getR rfl fX8_60 rfl rfl ?_
              refine ax_bipush rfl rfl ?_
              refine ax_iloadn rfl rfl ?_
              refine ax_imul rfl ?_
              refine ax_iloadn rfl rfl ?_
              refine ax_iadd rfl ?_
              refine ax_iald rfl rfl (by omega) ?_
              refine ax_istore (ls' := [(0, _), (1, _), (2, _), (3, _), (4, _), (5, _)]) rfl rfl rfl ?_
              refine ax_aloadn rfl rfl ?_
              refine ax_getR rfl fX8_60 rfl rfl ?_
              refine ax_bipush rfl rfl ?_
              refine ax_iloadn rfl rfl ?_
              refine ax_imul rfl ?_
              refine ax_iloadn rfl rfl ?_
              refine ax_iadd rfl ?_
              refine ax_iload rfl rfl ?_
              refine ax_iast' rfl rfl (by omega) (fun M92 a92 b92 c92 => ?_)
              refine ax_iload rfl rfl ?_
              refine ax_iret rfl rfl ?_
              exact Or.inr (Or.inr ⟨by omega, by omega, rfl, ⟨a92, b92⟩, c92⟩)
          · refine ax_ldc (z := (-900000002)) rfl kX8_100 rfl ?_
            refine ax_iret rfl rfl ?_
            exact Or.inr (Or.inl ⟨by omega, by omega, rfl, rfl⟩)
        · refine ax_ldc (z := (-900000001)) rfl kX8_105 rfl ?_
          refine ax_iret rfl rfl ?_
          exact Or.inl ⟨by omega, rfl, rfl⟩
set_option maxRecDepth 100000 in
set_option maxHeartbeats 800000 in
theorem c_X8_isWall (E : av_E) (d : Nat) (M : av_M) (hw : 0 ≤ M 35 23 ∧ M 35 23 ≤ 10) (w : Int) (hiw : -2147483648 ≤ w ∧ w < 2147483648) : av_Mt E (d + 1) mX8_isWall [vR 35, vI w] M (av_X (some (vI (b01 (0 ≤ w ∧ w ≤ M 35 23 - 1)))) M) := by
  refine av_enter hX8_isWall oX8_isWall rfl rfl ?_
  refine ax_iloadn rfl rfl ?_
  refine ax_i2l rfl (by omega) ?_
  refine ax_lconst (w := 0) rfl rfl ?_
  refine ax_aloadn rfl rfl ?_
  refine ax_getI (g := 23) rfl fX8_216 rfl rfl rfl rfl ?_
  refine ax_iconst rfl ?_
  refine ax_isub rfl ?_
  refine ax_i2l rfl (by omega) ?_
  refine ax_callS (as := [_, _, _]) rfl sX8_96 hX8_in rfl rfl rfl rfl (c_X8_in E d M w 0 (M 35 23 - 1) (by omega) (by omega) (by omega)) (av_Xk ?_)
  refine ax_zret rfl rfl (b01_rng _) ?_
  exact av_rI rfl
set_option maxRecDepth 100000 in
set_option maxHeartbeats 800000 in
theorem c_X8_shift (E : av_E) (d : Nat) (M : av_M) (hw : 0 ≤ M 35 23 ∧ M 35 23 ≤ 10) (w v : Int) (hiw : -2147483648 ≤ w ∧ w < 2147483648) (hiv : -2147483648 ≤ v ∧ v < 2147483648) : av_Mt E (d + 8) mX8_shift [vR 35, vI w, vI v] M (fun res M' => (¬ (0 ≤ w ∧ w < M 35 23) ∧ res = some (vI (-900000001)) ∧ M' = M) ∨ ((0 ≤ w ∧ w < M 35 23) ∧ ¬ (-99 ≤ v ∧ v ≤ 99) ∧ res = some (vI (-900000002)) ∧ M' = M) ∨ ((0 ≤ w ∧ w < M 35 23) ∧ (-99 ≤ v ∧ v ≤ 99) ∧ res = some (vI (M 52 (4 * w + 3))) ∧ (M' 52 (4 * w + 3) = v ∧ ∀ j, j ≠ 4 * w + 3 → M' 52 j = M 52 j) ∧ ∀ k, k ≠ 52 → M' k = M k)) := by
  have hc0 := b01_c (0 ≤ w ∧ w ≤ M 35 23 - 1)
  have hc1 := b01_c (-99 ≤ v ∧ v ≤ 99)
  refine av_enter hX8_shift oX8_shift rfl rfl ?_
  refine ax_aloadn rfl rfl ?_
  refine ax_iloadn rfl rfl ?_
  refine ax_callV (as := [_]) rfl vX8_219 hX8_isWall rfl rfl rfl rfl rfl (c_X8_isWall E (d + 6) M hw w (by omega)) (av_Xk ?_)
  refine ax_if_ne rfl (by omega) (fun h5 => ?_) (fun h5 => ?_)
  · refine ax_iloadn rfl rfl ?_
    refine ax_i2l rfl (by omega) ?_
    refine ax_ldc2 (z := (-99)) rfl kX8_212 rfl ?_
    refine ax_ldc2 (z := 99) rfl kX8_214 rfl ?_
    refine ax_callS (as := [_, _, _]) rfl sX8_96 hX8_in rfl rfl rfl rfl (c_X8_in E (d + 7) M v (-99) 99 (by omega) (by omega) (by omega)) (av_Xk ?_)
    refine ax_if_ne rfl (by omega) (fun h22 => ?_) (fun h22 => ?_)
    · refine ax_aloadn rfl rfl ?_
      refine ax_getR rfl fX8_66 rfl rfl ?_
      refine ax_iconst rfl ?_
      refine ax_iloadn rfl rfl ?_
      refine ax_imul rfl ?_
      refine ax_iconst rfl ?_
      refine ax_iadd rfl ?_
      refine ax_iald rfl rfl (by omega) ?_
      refine ax_istoren (ls' := [(0, _), (1, _), (2, _), (3, _)]) rfl rfl rfl ?_
      refine ax_aloadn rfl rfl ?_
      refine ax_getR rfl fX8_66 rfl rfl ?_
      refine ax_iconst rfl ?_
      refine ax_iloadn rfl rfl ?_
      refine ax_imul rfl ?_
      refine ax_iconst rfl ?_
      refine ax_iadd rfl ?_
      refine ax_iloadn rfl rfl ?_
      refine ax_iast' rfl rfl (by omega) (fun M49 a49 b49 c49 => ?_)
      refine ax_iloadn rfl rfl ?_
      refine ax_iret rfl rfl ?_
      exact Or.inr (Or.inr ⟨by omega, by omega, rfl, ⟨a49, b49⟩, c49⟩)
    · refine ax_ldc (z := (-900000002)) rfl kX8_100 rfl ?_
      refine ax_iret rfl rfl ?_
      exact Or.inr (Or.inl ⟨by omega, by omega, rfl, rfl⟩)
  · refine ax_ldc (z := (-900000001)) rfl kX8_105 rfl ?_
    refine ax_iret rfl rfl ?_
    exact Or.inl ⟨by omega, rfl, rfl⟩
set_option maxRecDepth 100000 in
set_option maxHeartbeats 800000 in
theorem c_X8_on (E : av_E) (d : Nat) (M : av_M) (hw : 0 ≤ M 35 23 ∧ M 35 23 ≤ 10) (hon : ∀ j, 0 ≤ j → j < 10 → M 53 j = 0 ∨ M 53 j = 1) (w t : Int) (hiw : -2147483648 ≤ w ∧ w < 2147483648) (ht : t = 0 ∨ t = 1) : av_Mt E (d + 8) mX8_on [vR 35, vI w, vI t] M (fun res M' => (¬ (0 ≤ w ∧ w < M 35 23) ∧ res = some (vI (-900000001)) ∧ M' = M) ∨ ((0 ≤ w ∧ w < M 35 23) ∧ res = some (vI (M 53 w)) ∧ (M' 53 w = t ∧ ∀ j, j ≠ w → M' 53 j = M 53 j) ∧ ∀ k, k ≠ 53 → M' k = M k)) := by
  have hc0 := b01_c (0 ≤ w ∧ w ≤ M 35 23 - 1)
  have ow : 0 ≤ w ∧ w < M 35 23 → M 53 w = 0 ∨ M 53 w = 1 := fun q => hon w q.1 (by omega)
  refine av_enter hX8_on oX8_on rfl rfl ?_
  refine ax_aloadn rfl rfl ?_
  refine ax_iloadn rfl rfl ?_
  refine ax_callV (as := [_]) rfl vX8_219 hX8_isWall rfl rfl rfl rfl rfl (c_X8_isWall E (d + 6) M hw w (by omega)) (av_Xk ?_)
  refine ax_if_ne rfl (by omega) (fun h5 => ?_) (fun h5 => ?_)
  · refine ax_aloadn rfl rfl ?_
    refine ax_getR rfl fX8_69 rfl rfl ?_
    refine ax_iloadn rfl rfl ?_
    refine ax_bald rfl rfl (by omega) ?_
    refine ax_if_eq rfl (by omega) (fun h17 => ?_) (fun h17 => ?_)
    · refine ax_iconst rfl ?_
      refine ax_istoren (ls' := [(0, _), (1, _), (2, _), (3, _)]) rfl rfl rfl ?_
      refine ax_aloadn rfl rfl ?_
      refine ax_getR rfl fX8_69 rfl rfl ?_
      refine ax_iloadn rfl rfl ?_
      refine ax_iloadn rfl rfl ?_
      refine ax_bast' rfl rfl (by omega) (by omega) (fun M32 a32 b32 c32 => ?_)
      refine ax_iloadn rfl rfl ?_
      refine ax_iret rfl rfl ?_
      exact Or.inr ⟨by omega, by congr 2; omega, ⟨a32, b32⟩, c32⟩
    · refine ax_iconst rfl ?_
      refine ax_goto rfl ?_
      refine ax_istoren (ls' := [(0, _), (1, _), (2, _), (3, _)]) rfl rfl rfl ?_
      refine ax_aloadn rfl rfl ?_
      refine ax_getR rfl fX8_69 rfl rfl ?_
      refine ax_iloadn rfl rfl ?_
      refine ax_iloadn rfl rfl ?_
      refine ax_bast' rfl rfl (by omega) (by omega) (fun M32 a32 b32 c32 => ?_)
      refine ax_iloadn rfl rfl ?_
      refine ax_iret rfl rfl ?_
      exact Or.inr ⟨by omega, by congr 2; omega, ⟨a32, b32⟩, c32⟩
  · refine ax_ldc (z := (-900000001)) rfl kX8_105 rfl ?_
    refine ax_iret rfl rfl ?_
    exact Or.inl ⟨by omega, rfl, rfl⟩
set_option maxRecDepth 100000 in
set_option maxHeartbeats 800000 in
theorem c_X8_about (E : av_E) (d : Nat) (M : av_M) (hw : 0 ≤ M 35 23 ∧ M 35 23 ≤ 10) (hon : ∀ j, 0 ≤ j → j < 10 → M 53 j = 0 ∨ M 53 j = 1) (w k : Int) (hiw : -2147483648 ≤ w ∧ w < 2147483648) (hik : -2147483648 ≤ k ∧ k < 2147483648) : av_Mt E (d + 8) mX8_about [vR 35, vI w, vI k] M (av_X (some (vI (if ¬ (0 ≤ w ∧ w < M 35 23) then (-900000001) else if ¬ (0 ≤ k ∧ k ≤ 4) then (-900000002) else if k = 4 then M 53 w else M 52 (4 * w + k)))) M) := by
  have hc0 := b01_c (0 ≤ w ∧ w ≤ M 35 23 - 1)
  have hc1 := b01_c (0 ≤ k ∧ k ≤ 3)
  have ow : 0 ≤ w ∧ w < M 35 23 → M 53 w = 0 ∨ M 53 w = 1 := fun q => hon w q.1 (by omega)
  refine av_enter hX8_about oX8_about rfl rfl ?_
  refine ax_aloadn rfl rfl ?_
  refine ax_iloadn rfl rfl ?_
  refine ax_callV (as := [_]) rfl vX8_219 hX8_isWall rfl rfl rfl rfl rfl (c_X8_isWall E (d + 6) M hw w (by omega)) (av_Xk ?_)
  refine ax_if_ne rfl (by omega) (fun h5 => ?_) (fun h5 => ?_)
  · refine ax_iloadn rfl rfl ?_
    refine ax_i2l rfl (by omega) ?_
    refine ax_lconst (w := 0) rfl rfl ?_
    refine ax_ldc2 (z := 3) rfl kX8_222 rfl ?_
    refine ax_callS (as := [_, _, _]) rfl sX8_96 hX8_in rfl rfl rfl rfl (c_X8_in E (d + 7) M k 0 3 (by omega) (by omega) (by omega)) (av_Xk ?_)
    refine ax_if_eq rfl (by omega) (fun h20 => ?_) (fun h20 => ?_)
    · refine ax_iloadn rfl rfl ?_
      refine ax_iconst rfl ?_
      refine ax_icmp_ne rfl (by omega) (by omega) (fun h38 => ?_) (fun h38 => ?_)
      · refine ax_ldc (z := (-900000002)) rfl kX8_100 rfl ?_
        refine ax_iret rfl rfl ?_
        exact av_rI (by (repeat' split) <;> omega)
      · refine ax_aloadn rfl rfl ?_
        refine ax_getR rfl fX8_69 rfl rfl ?_
        refine ax_iloadn rfl rfl ?_
        refine ax_bald rfl rfl (by omega) ?_
        refine ax_if_eq rfl (by omega) (fun h47 => ?_) (fun h47 => ?_)
        · refine ax_iconst rfl ?_
          refine ax_goto rfl ?_
          refine ax_iret rfl rfl ?_
          exact av_rI (by (repeat' split) <;> omega)
        · refine ax_iconst rfl ?_
          refine ax_goto rfl ?_
          refine ax_iret rfl rfl ?_
          exact av_rI (by (repeat' split) <;> omega)
    · refine ax_aloadn rfl rfl ?_
      refine ax_getR rfl fX8_66 rfl rfl ?_
      refine ax_iconst rfl ?_
      refine ax_iloadn rfl rfl ?_
      refine ax_imul rfl ?_
      refine ax_iloadn rfl rfl ?_
      refine ax_iadd rfl ?_
      refine ax_iald rfl rfl (by omega) ?_
      refine ax_goto rfl ?_
      refine ax_iret rfl rfl ?_
      exact av_rI (by (repeat' split) <;> omega)
  · refine ax_ldc (z := (-900000001)) rfl kX8_105 rfl ?_
    refine ax_iret rfl rfl ?_
    exact av_rI (by (repeat' split) <;> omega)
set_option maxRecDepth 100000 in
set_option maxHeartbeats 800000 in
theorem s_X8_wall (E : av_E) (d : Nat) (M : av_M) (hw : 0 ≤ M 35 23 ∧ M 35 23 ≤ 10) (a b c e : Int) (hok : ((-9 ≤ a ∧ a ≤ 9) ∧ (-9 ≤ b ∧ b ≤ 9) ∧ (-9 ≤ c ∧ c ≤ 9) ∧ (-99 ≤ e ∧ e ≤ 99) ∧ ¬ (a = 0 ∧ b = 0 ∧ c = 0))) (h10 : M 35 23 < 10) : av_S E (d + 8) mX8_wall 84 [(0, vR 35), (1, vI a), (2, vI b), (3, vI c), (4, vI e)] [] M (fun res M' => (¬ ((-9 ≤ a ∧ a ≤ 9) ∧ (-9 ≤ b ∧ b ≤ 9) ∧ (-9 ≤ c ∧ c ≤ 9) ∧ (-99 ≤ e ∧ e ≤ 99) ∧ ¬ (a = 0 ∧ b = 0 ∧ c = 0)) ∧ res = some (vI (-900000002)) ∧ M' = M) ∨ (((-9 ≤ a ∧ a ≤ 9) ∧ (-9 ≤ b ∧ b ≤ 9) ∧ (-9 ≤ c ∧ c ≤ 9) ∧ (-99 ≤ e ∧ e ≤ 99) ∧ ¬ (a = 0 ∧ b = 0 ∧ c = 0)) ∧ 10 ≤ M 35 23 ∧ res = some (vI (-900000004)) ∧ M' = M) ∨ (((-9 ≤ a ∧ a ≤ 9) ∧ (-9 ≤ b ∧ b ≤ 9) ∧ (-9 ≤ c ∧ c ≤ 9) ∧ (-99 ≤ e ∧ e ≤ 99) ∧ ¬ (a = 0 ∧ b = 0 ∧ c = 0)) ∧ M 35 23 < 10 ∧ res = some (vI (M 35 23)) ∧ (M' 35 23 = M 35 23 + 1 ∧ M' 52 (4 * M 35 23) = a ∧ M' 52 (4 * M 35 23 + 1) = b ∧ M' 52 (4 * M 35 23 + 2) = c ∧ M' 52 (4 * M 35 23 + 3) = e ∧ (∀ j, j < 4 * M 35 23 ∨ 4 * M 35 23 + 3 < j → M' 52 j = M 52 j) ∧ M' 53 (M 35 23) = 1 ∧ ∀ j, j ≠ M 35 23 → M' 53 j = M 53 j) ∧ (∀ f, f ≠ 23 → M' 35 f = M 35 f) ∧ ∀ k, k ≠ 35 → k ≠ 52 → k ≠ 53 → M' k = M k)) := by
  refine ax_aloadn rfl rfl ?_
  refine ax_getR rfl fX8_66 rfl rfl ?_
  refine ax_iconst rfl ?_
  refine ax_aloadn rfl rfl ?_
  refine ax_getI (g := 23) rfl fX8_216 rfl rfl rfl rfl ?_
  refine ax_imul rfl ?_
  refine ax_iloadn rfl rfl ?_
  refine ax_iast' rfl rfl (by omega) (fun M95 a95 b95 c95 => ?_)
  refine ax_aloadn rfl rfl ?_
  refine ax_getR rfl fX8_66 rfl rfl ?_
  refine ax_iconst rfl ?_
  refine ax_aloadn rfl rfl ?_
  refine ax_getI (g := 23) rfl fX8_216 rfl rfl rfl rfl ?_
  refine ax_imul rfl ?_
  refine ax_iconst rfl ?_
  refine ax_iadd rfl ?_
  refine ax_iloadn rfl rfl ?_
  refine ax_iast' rfl rfl (by rw [c95 35 (by decide)]; omega) (fun M109 a109 b109 c109 => ?_)
  refine ax_aloadn rfl rfl ?_
  refine ax_getR rfl fX8_66 rfl rfl ?_
  refine ax_iconst rfl ?_
  refine ax_aloadn rfl rfl ?_
  refine ax_getI (g := 23) rfl fX8_216 rfl rfl rfl rfl ?_
  refine ax_imul rfl ?_
  refine ax_iconst rfl ?_
  refine ax_iadd rfl ?_
  refine ax_iloadn rfl rfl ?_
  refine ax_iast' rfl rfl (by rw [c109 35 (by decide), c95 35 (by decide)]; omega) (fun M123 a123 b123 c123 => ?_)
  refine ax_aloadn rfl rfl ?_
  refine ax_getR rfl fX8_66 rfl rfl ?_
  refine ax_iconst rfl ?_
  refine ax_aloadn rfl rfl ?_
  refine ax_getI (g := 23) rfl fX8_216 rfl rfl rfl rfl ?_
  refine ax_imul rfl ?_
  refine ax_iconst rfl ?_
  refine ax_iadd rfl ?_
  refine ax_iload rfl rfl ?_
  refine ax_iast' rfl rfl (by rw [c123 35 (by decide), c109 35 (by decide), c95 35 (by decide)]; omega) (fun M138 a138 b138 c138 => ?_)
  refine ax_aloadn rfl rfl ?_
  refine ax_getR rfl fX8_69 rfl rfl ?_
  refine ax_aloadn rfl rfl ?_
  refine ax_getI (g := 23) rfl fX8_216 rfl rfl rfl rfl ?_
  refine ax_iconst rfl ?_
  refine ax_bast' rfl rfl (by rw [c138 35 (by decide), c123 35 (by decide), c109 35 (by decide), c95 35 (by decide)]; omega) (by omega) (fun M148 a148 b148 c148 => ?_)
  refine ax_aloadn rfl rfl ?_
  refine ax_dup rfl rfl ?_
  refine ax_getI (g := 23) rfl fX8_216 rfl rfl rfl rfl ?_
  refine ax_iconst rfl ?_
  refine ax_iadd rfl ?_
  refine ax_putI' (g := 23) rfl gX8_216 rfl rfl rfl rfl (fun M156 a156 b156 c156 => ?_)
  refine ax_aloadn rfl rfl ?_
  refine ax_getI (g := 23) rfl fX8_216 rfl rfl rfl rfl ?_
  refine ax_iconst rfl ?_
  refine ax_isub rfl ?_
  refine ax_iret rfl rfl ?_
  have q95 : M95 35 = M 35 := c95 35 (by decide)
  have q109 : M109 35 = M 35 := by rw [c109 35 (by decide), q95]
  have q123 : M123 35 = M 35 := by rw [c123 35 (by decide), q109]
  have q138 : M138 35 = M 35 := by rw [c138 35 (by decide), q123]
  have q148 : M148 35 = M 35 := by rw [c148 35 (by decide), q138]
  rw [q95] at a109 b109
  rw [q109] at a123 b123
  rw [q123] at a138 b138
  rw [q138] at a148 b148
  rw [q148] at a156
  have e52 : M156 52 = M138 52 := by rw [c156 52 (by decide), c148 52 (by decide)]
  have e53 : M156 53 = M148 53 := by rw [c156 53 (by decide)]
  have f53 : M138 53 = M 53 := by rw [c138 53 (by decide), c123 53 (by decide), c109 53 (by decide), c95 53 (by decide)]
  refine Or.inr (Or.inr ⟨hok, h10, by rw [a156]; congr 2; omega, ⟨a156, ?_, ?_, ?_, ?_, fun j hj => ?_, by rw [e53]; exact a148, fun j hj => by rw [e53, b148 j hj, f53]⟩, fun f hf => by rw [b156 f hf, q148], fun k k0 k1 k2 => by rw [c156 k k0, c148 k k2, c138 k k1, c123 k k1, c109 k k1, c95 k k1]⟩)
  · rw [e52, b138 _ (by omega), b123 _ (by omega), b109 _ (by omega)]; exact a95
  · rw [e52, b138 _ (by omega), b123 _ (by omega)]; exact a109
  · rw [e52, b138 _ (by omega)]; exact a123
  · rw [e52]; exact a138
  · rw [e52, b138 _ (by omega), b123 _ (by omega), b109 _ (by omega), b95 _ (by omega)]
set_option maxRecDepth 100000 in
set_option maxHeartbeats 800000 in
theorem c_X8_wall (E : av_E) (d : Nat) (M : av_M) (hw : 0 ≤ M 35 23 ∧ M 35 23 ≤ 10) (a b c e : Int) (hia : -2147483648 ≤ a ∧ a < 2147483648) (hib : -2147483648 ≤ b ∧ b < 2147483648) (hic : -2147483648 ≤ c ∧ c < 2147483648) (hie : -2147483648 ≤ e ∧ e < 2147483648) : av_Mt E (d + 8) mX8_wall [vR 35, vI a, vI b, vI c, vI e] M (fun res M' => (¬ ((-9 ≤ a ∧ a ≤ 9) ∧ (-9 ≤ b ∧ b ≤ 9) ∧ (-9 ≤ c ∧ c ≤ 9) ∧ (-99 ≤ e ∧ e ≤ 99) ∧ ¬ (a = 0 ∧ b = 0 ∧ c = 0)) ∧ res = some (vI (-900000002)) ∧ M' = M) ∨ (((-9 ≤ a ∧ a ≤ 9) ∧ (-9 ≤ b ∧ b ≤ 9) ∧ (-9 ≤ c ∧ c ≤ 9) ∧ (-99 ≤ e ∧ e ≤ 99) ∧ ¬ (a = 0 ∧ b = 0 ∧ c = 0)) ∧ 10 ≤ M 35 23 ∧ res = some (vI (-900000004)) ∧ M' = M) ∨ (((-9 ≤ a ∧ a ≤ 9) ∧ (-9 ≤ b ∧ b ≤ 9) ∧ (-9 ≤ c ∧ c ≤ 9) ∧ (-99 ≤ e ∧ e ≤ 99) ∧ ¬ (a = 0 ∧ b = 0 ∧ c = 0)) ∧ M 35 23 < 10 ∧ res = some (vI (M 35 23)) ∧ (M' 35 23 = M 35 23 + 1 ∧ M' 52 (4 * M 35 23) = a ∧ M' 52 (4 * M 35 23 + 1) = b ∧ M' 52 (4 * M 35 23 + 2) = c ∧ M' 52 (4 * M 35 23 + 3) = e ∧ (∀ j, j < 4 * M 35 23 ∨ 4 * M 35 23 + 3 < j → M' 52 j = M 52 j) ∧ M' 53 (M 35 23) = 1 ∧ ∀ j, j ≠ M 35 23 → M' 53 j = M 53 j) ∧ (∀ f, f ≠ 23 → M' 35 f = M 35 f) ∧ ∀ k, k ≠ 35 → k ≠ 52 → k ≠ 53 → M' k = M k)) := by
  have hc0 := b01_c (-9 ≤ a ∧ a ≤ 9)
  have hc1 := b01_c (-9 ≤ b ∧ b ≤ 9)
  have hc2 := b01_c (-9 ≤ c ∧ c ≤ 9)
  have hc3 := b01_c (-99 ≤ e ∧ e ≤ 99)
  refine av_enter hX8_wall oX8_wall rfl rfl ?_
  refine ax_iloadn rfl rfl ?_
  refine ax_i2l rfl (by omega) ?_
  refine ax_ldc2 (z := (-9)) rfl kX8_208 rfl ?_
  refine ax_ldc2 (z := 9) rfl kX8_210 rfl ?_
  refine ax_callS (as := [_, _, _]) rfl sX8_96 hX8_in rfl rfl rfl rfl (c_X8_in E (d + 7) M a (-9) 9 (by omega) (by omega) (by omega)) (av_Xk ?_)
  refine ax_if_eq rfl (by omega) (fun h11 => ?_) (fun h11 => ?_)
  · refine ax_ldc (z := (-900000002)) rfl kX8_100 rfl ?_
    refine ax_iret rfl rfl ?_
    exact Or.inl ⟨by omega, rfl, rfl⟩
  · refine ax_iloadn rfl rfl ?_
    refine ax_i2l rfl (by omega) ?_
    refine ax_ldc2 (z := (-9)) rfl kX8_208 rfl ?_
    refine ax_ldc2 (z := 9) rfl kX8_210 rfl ?_
    refine ax_callS (as := [_, _, _]) rfl sX8_96 hX8_in rfl rfl rfl rfl (c_X8_in E (d + 7) M b (-9) 9 (by omega) (by omega) (by omega)) (av_Xk ?_)
    refine ax_if_eq rfl (by omega) (fun h25 => ?_) (fun h25 => ?_)
    · refine ax_ldc (z := (-900000002)) rfl kX8_100 rfl ?_
      refine ax_iret rfl rfl ?_
      exact Or.inl ⟨by omega, rfl, rfl⟩
    · refine ax_iloadn rfl rfl ?_
      refine ax_i2l rfl (by omega) ?_
      refine ax_ldc2 (z := (-9)) rfl kX8_208 rfl ?_
      refine ax_ldc2 (z := 9) rfl kX8_210 rfl ?_
      refine ax_callS (as := [_, _, _]) rfl sX8_96 hX8_in rfl rfl rfl rfl (c_X8_in E (d + 7) M c (-9) 9 (by omega) (by omega) (by omega)) (av_Xk ?_)
      refine ax_if_eq rfl (by omega) (fun h39 => ?_) (fun h39 => ?_)
      · refine ax_ldc (z := (-900000002)) rfl kX8_100 rfl ?_
        refine ax_iret rfl rfl ?_
        exact Or.inl ⟨by omega, rfl, rfl⟩
      · refine ax_iload rfl rfl ?_
        refine ax_i2l rfl (by omega) ?_
        refine ax_ldc2 (z := (-99)) rfl kX8_212 rfl ?_
        refine ax_ldc2 (z := 99) rfl kX8_214 rfl ?_
        refine ax_callS (as := [_, _, _]) rfl sX8_96 hX8_in rfl rfl rfl rfl (c_X8_in E (d + 7) M e (-99) 99 (by omega) (by omega) (by omega)) (av_Xk ?_)
        refine ax_if_eq rfl (by omega) (fun h54 => ?_) (fun h54 => ?_)
        · refine ax_ldc (z := (-900000002)) rfl kX8_100 rfl ?_
          refine ax_iret rfl rfl ?_
          exact Or.inl ⟨by omega, rfl, rfl⟩
        · refine ax_iloadn rfl rfl ?_
          refine ax_if_ne rfl (by omega) (fun h58 => ?_) (fun h58 => ?_)
          · refine ax_aloadn rfl rfl ?_
            refine ax_getI (g := 23) rfl fX8_216 rfl rfl rfl rfl ?_
            refine ax_bipush rfl rfl ?_
            refine ax_icmp_ne rfl (by omega) (by omega) (fun h78 => ?_) (fun h78 => ?_)
            · exact s_X8_wall E d M hw a b c e (by omega) (by omega)
            · refine ax_ldc (z := (-900000004)) rfl kX8_104 rfl ?_
              refine ax_iret rfl rfl ?_
              exact Or.inr (Or.inl ⟨by omega, by omega, rfl, rfl⟩)
          · refine ax_iloadn rfl rfl ?_
            refine ax_if_ne rfl (by omega) (fun h62 => ?_) (fun h62 => ?_)
            · refine ax_aloadn rfl rfl ?_
              refine ax_getI (g := 23) rfl fX8_216 rfl rfl rfl rfl ?_
              refine ax_bipush rfl rfl ?_
              refine ax_icmp_ne rfl (by omega) (by omega) (fun h78 => ?_) (fun h78 => ?_)
              · exact s_X8_wall E d M hw a b c e (by omega) (by omega)
              · refine ax_ldc (z := (-900000004)) rfl kX8_104 rfl ?_
                refine ax_iret rfl rfl ?_
                exact Or.inr (Or.inl ⟨by omega, by omega, rfl, rfl⟩)
            · refine ax_iloadn rfl rfl ?_
              refine ax_if_ne rfl (by omega) (fun h66 => ?_) (fun h66 => ?_)
              · refine ax_aloadn rfl rfl ?_
                refine ax_getI (g := 23) rfl fX8_216 rfl rfl rfl rfl ?_
                refine ax_bipush rfl rfl ?_
                refine ax_icmp_ne rfl (by omega) (by omega) (fun h78 => ?_) (fun h78 => ?_)
                · exact s_X8_wall E d M hw a b c e (by omega) (by omega)
                · refine ax_ldc (z := (-900000004)) rfl kX8_104 rfl ?_
                  refine ax_iret rfl rfl ?_
                  exact Or.inr (Or.inl ⟨by omega, by omega, rfl, rfl⟩)
              · refine ax_ldc (z := (-900000002)) rfl kX8_100 rfl ?_
                refine ax_iret rfl rfl ?_
                exact Or.inl ⟨by omega, rfl, rfl⟩
theorem bset_ex (P : Nat → Prop) (s : Int) (h : s ≤ 10) : ∃ v, bset P s v := by
  by_cases s0 : s ≤ 0
  · exact ⟨0, bset_nil s0⟩
  · have key : ∀ n : Nat, n ≤ 10 → ∃ v, bset P n v := by
      intro n
      induction n with
      | zero => intro _; exact ⟨0, bset_nil (by omega)⟩
      | succ n ih =>
        intro hn
        obtain ⟨v, hv⟩ := ih (by omega)
        by_cases q : P n
        · obtain ⟨r, _, hr⟩ := bset_in hv (n := (n : Int)) (by omega) (by simpa using q)
          exact ⟨r, by rw [show ((n + 1 : Nat) : Int) = (n : Int) + 1 by omega]; exact hr⟩
        · exact ⟨v, by rw [show ((n + 1 : Nat) : Int) = (n : Int) + 1 by omega]; exact bset_out hv (by omega) (by simpa using q)⟩
    obtain ⟨v, hv⟩ := key s.toNat (by omega)
    exact ⟨v, by rw [show s = ((s.toNat : Nat) : Int) by omega]; exact hv⟩
set_option maxRecDepth 100000 in
set_option maxHeartbeats 800000 in
theorem c_X8_count (E : av_E) (d : Nat) (M : av_M) (hR : RWm M) (k : Int) (hik : -2147483648 ≤ k ∧ k < 2147483648) : av_Mt E (d + 8) mX8_count [vR 35, vI k] M (fun res M' => (∃ v, bset (fun t : Nat => M 53 t = 1) (M 35 23) v ∧ res = some (vI (if k = 0 then M 35 0 else if k = 1 then M 35 23 else if k = 2 then pcI v else if k = 3 then M 35 19 else if k = 4 then M 35 20 else (-900000002)))) ∧ M' = M) := by
  obtain ⟨v0, hv0⟩ : ∃ v, bset (fun t : Nat => M 53 t = 1) (M 35 23) v := bset_ex _ _ (by have := hR.1; omega)
  refine av_enter hX8_count oX8_count rfl rfl ?_
  refine ax_iloadn rfl rfl ?_
  rcases (show k = 0 ∨ k = 1 ∨ k = 2 ∨ k = 3 ∨ k = 4 ∨ (k < 0 ∨ 4 < k) by omega) with hq | hq | hq | hq | hq | hq
  · refine ax_tabIn (off := 35) (t := 36) rfl (by omega) (by omega) (by omega) (by rw [hq]; rfl) (by decide) ?_
    refine ax_aloadn rfl rfl ?_
    refine ax_getI (g := 0) rfl fX8_101 rfl rfl rfl rfl ?_
    refine ax_iret rfl rfl ?_
    exact ⟨⟨v0, hv0, congrArg (fun z => some (vI z)) (by (repeat' split) <;> omega)⟩, rfl⟩
  · refine ax_tabIn (off := 40) (t := 41) rfl (by omega) (by omega) (by omega) (by rw [hq]; rfl) (by decide) ?_
    refine ax_aloadn rfl rfl ?_
    refine ax_getI (g := 23) rfl fX8_216 rfl rfl rfl rfl ?_
    refine ax_iret rfl rfl ?_
    exact ⟨⟨v0, hv0, congrArg (fun z => some (vI z)) (by (repeat' split) <;> omega)⟩, rfl⟩
  · refine ax_tabIn (off := 45) (t := 46) rfl (by omega) (by omega) (by omega) (by rw [hq]; rfl) (by decide) ?_
    refine ax_aloadn rfl rfl ?_
    refine ax_callV (as := []) rfl vX8_255 hX8_setOn rfl rfl rfl rfl rfl (c_X8_setOn E (d + 7) M hR) (fun r47 M47 hr47 => ?_)
    obtain ⟨⟨v, rfl, hv⟩, hMe⟩ := hr47
    have hMs := hMe.symm
    subst hMs
    refine ax_callS (as := [_]) rfl sX8_305 hX8_bits rfl rfl rfl rfl (c_X8_bits E (d + 7) M v ⟨hv.1, hv.2.1⟩) (av_Xk ?_)
    refine ax_iret rfl rfl ?_
    exact ⟨⟨v, hv, by rw [if_neg (by omega), if_neg (by omega), if_pos hq]⟩, rfl⟩
  · refine ax_tabIn (off := 53) (t := 54) rfl (by omega) (by omega) (by omega) (by rw [hq]; rfl) (by decide) ?_
    refine ax_aloadn rfl rfl ?_
    refine ax_getI (g := 19) rfl fX8_53 rfl rfl rfl rfl ?_
    refine ax_iret rfl rfl ?_
    exact ⟨⟨v0, hv0, congrArg (fun z => some (vI z)) (by (repeat' split) <;> omega)⟩, rfl⟩
  · refine ax_tabIn (off := 58) (t := 59) rfl (by omega) (by omega) (by omega) (by rw [hq]; rfl) (by decide) ?_
    refine ax_aloadn rfl rfl ?_
    refine ax_getI (g := 20) rfl fX8_57 rfl rfl rfl rfl ?_
    refine ax_iret rfl rfl ?_
    exact ⟨⟨v0, hv0, congrArg (fun z => some (vI z)) (by (repeat' split) <;> omega)⟩, rfl⟩
  · refine ax_tabOut (t := 64) rfl (by omega) hq (by decide) ?_
    refine ax_ldc (z := (-900000002)) rfl kX8_100 rfl ?_
    refine ax_iret rfl rfl ?_
    exact ⟨⟨v0, hv0, congrArg (fun z => some (vI z)) (by (repeat' split) <;> omega)⟩, rfl⟩
