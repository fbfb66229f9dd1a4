/-! ===== the class's calls: what changes ===== -/
def KP (M M' : av_M) : Prop := M' 1 3 = M 1 3 ∧ M' 2 = M 2 ∧ M' 3 = M 3
def KT (M M' : av_M) : Prop := M' 9 2 = M 9 2 ∧ M' 9 3 = M 9 3 ∧ M' 10 = M 10 ∧ M' 11 = M 11
def KW (M M' : av_M) : Prop := ∀ k, 13 ≤ k → k ≤ 17 → M' k = M k
def KR (M M' : av_M) : Prop := ∀ k, 34 < k → M' k = M k
theorem CI_mk {M M' : av_M} (h : CI M) (hP : PTm M') (e : ∀ k, 9 ≤ k → k ≤ 32 → M' k = M k) (h0 : M' 33 1 = 0) : CI M' ∧ KT M M' ∧ KW M M' :=
  ⟨⟨hP, TBm_congr h.2.1 (fun k a b => e k a (by omega)), BI_congr h.2.2.1 (fun k a b => e k (by omega) b), Or.inl h0⟩, by
    unfold KT
    rw [e 9 (by decide) (by decide), e 10 (by decide) (by decide), e 11 (by decide) (by decide)]
    exact ⟨rfl, rfl, rfl, rfl⟩, fun k a b => e k (by omega) (by omega)⟩
theorem CI_wall {M M' : av_M} (h : CI M) (hB : BI M') (e : ∀ k, k < 12 → M' k = M k) (h0 : M' 33 1 = 0) : CI M' ∧ KP M M' ∧ KT M M' := by
  refine ⟨⟨PTm_congr h.1 (fun k a b => e k (by omega)), TBm_congr h.2.1 (fun k a b => e k (by omega)), hB, Or.inl h0⟩, ?_, ?_⟩
  · unfold KP
    rw [e 1 (by decide), e 2 (by decide), e 3 (by decide)]
    exact ⟨rfl, rfl, rfl⟩
  · unfold KT
    rw [e 9 (by decide), e 10 (by decide), e 11 (by decide)]
    exact ⟨rfl, rfl, rfl, rfl⟩
set_option maxRecDepth 100000 in
set_option maxHeartbeats 800000 in
theorem c_X7_point (E : av_E) (d : Nat) (M : av_M) (hC : CI M) (x y : Int) (hix : -2147483648 ≤ x ∧ x < 2147483648) (hiy : -2147483648 ≤ y ∧ y < 2147483648) : av_Mt E (d + 8) mX7_point [vR 0, vI x, vI y] M (fun res M' => (¬ ((-50 ≤ x ∧ x ≤ 50) ∧ (-50 ≤ y ∧ y ≤ 50)) ∧ res = some (vI (-900000002)) ∧ M' = M) ∨ (((-50 ≤ x ∧ x ≤ 50) ∧ (-50 ≤ y ∧ y ≤ 50)) ∧ 12 ≤ M 1 3 ∧ res = some (vI (-900000004)) ∧ M' = M) ∨ (((-50 ≤ x ∧ x ≤ 50) ∧ (-50 ≤ y ∧ y ≤ 50)) ∧ M 1 3 < 12 ∧ res = some (vI (M 1 3)) ∧ (M' 1 3 = M 1 3 + 1 ∧ M' 2 (M 1 3) = x ∧ (∀ j, j ≠ M 1 3 → M' 2 j = M 2 j) ∧ M' 3 (M 1 3) = y ∧ ∀ j, j ≠ M 1 3 → M' 3 j = M 3 j) ∧ CI M' ∧ KT M M' ∧ KW M M' ∧ KR M M')) := by
  have hb := CI_b hC
  have hc0 := b01_c (((-50 ≤ x ∧ x ≤ 50) ∧ (-50 ≤ y ∧ y ≤ 50)))
  have hn := hC.1.1
  refine av_enter hX7_point oX7_point rfl rfl ?_
  refine ax_iloadn rfl rfl ?_
  refine ax_iloadn rfl rfl ?_
  refine ax_callS (as := [_, _]) rfl sX7_37 hX7_isPlace rfl rfl rfl rfl (c_X7_isPlace E (d + 6) M x y (by omega) (by omega)) (av_Xk ?_)
  refine ax_if_ne rfl (by omega) (fun h5 => ?_) (fun h5 => ?_)
  · refine ax_aloadn rfl rfl ?_
    refine ax_getR rfl fX7_10 rfl rfl ?_
    refine ax_callV (as := []) rfl vX7_42 hX2_size rfl rfl rfl rfl rfl (c_X2_size E (d + 7) M) (av_Xk ?_)
    refine ax_bipush rfl rfl ?_
    refine ax_icmp_lt rfl (by omega) (by omega) (fun h20 => ?_) (fun h20 => ?_)
    · refine ax_aloadn rfl rfl ?_
      refine ax_getR rfl fX7_33 rfl rfl ?_
      refine ax_callV (as := []) rfl vX7_47 hX1_forget rfl rfl rfl rfl rfl (c_X1_forget E (d + 7) M) (fun r30 M30 hr30 => ?_)
      obtain ⟨rfl, e1, e2, e3⟩ := hr30
      refine ax_aloadn rfl rfl ?_
      refine ax_getR rfl fX7_10 rfl rfl ?_
      refine ax_iloadn rfl rfl ?_
      refine ax_iloadn rfl rfl ?_
      refine ax_callV (as := [_, _]) rfl vX7_50 hX2_add rfl rfl rfl rfl rfl (c_X2_add E (d + 2) M30 x y (by omega) (by omega) (by rw [e3 1 (by decide)]; omega) (by rw [e3 1 (by decide), e3 2 (by decide), e3 3 (by decide)]; exact hC.1.2.1)) (fun r39 M39 hr39 => ?_)
      obtain ⟨rfl, g1, g2, g3, g4, g5, g6, g7⟩ := hr39
      refine ax_iret rfl rfl ?_
      rw [e3 1 (by decide)] at g1 g2 g3 g4 g5
      rw [e3 2 (by decide)] at g3
      rw [e3 3 (by decide)] at g5
      have hP : PTm M39 := by
        refine ⟨by omega, fun j j0 j1 => ?_, g6⟩
        by_cases hj : j = M 1 3
        · rw [hj, g2, g4]; omega
        · rw [g3 j hj, g5 j hj]; exact hC.1.2.1 j j0 (by omega)
      have ek : ∀ k, 8 < k → k ≠ 33 → M39 k = M k := fun k a b => by rw [g7 k (by omega) (by omega) (by omega) (by omega) (by omega) (by omega) (by omega) (by omega), e3 k b]
      have h33 : M39 33 1 = 0 := by rw [g7 33 (by decide) (by decide) (by decide) (by decide) (by decide) (by decide) (by decide) (by decide)]; exact e1
      obtain ⟨c1, c2, c3⟩ := CI_mk hC hP (fun k a b => ek k (by omega) (by omega)) h33
      rw [e3 1 (by decide)]
      exact Or.inr (Or.inr ⟨by omega, by omega, rfl, ⟨g1, g2, g3, g4, g5⟩, c1, c2, c3, fun k a => ek k (by omega) (by omega)⟩)
    · refine ax_ldc (z := (-900000004)) rfl kX7_46 rfl ?_
      refine ax_iret rfl rfl ?_
      exact Or.inr (Or.inl ⟨by omega, by omega, rfl, rfl⟩)
  · refine ax_ldc (z := (-900000002)) rfl kX7_41 rfl ?_
    refine ax_iret rfl rfl ?_
    exact Or.inl ⟨by omega, rfl, rfl⟩
set_option maxRecDepth 100000 in
set_option maxHeartbeats 800000 in
theorem c_X7_move (E : av_E) (d : Nat) (M : av_M) (hC : CI M) (i x y : Int) (hii : -2147483648 ≤ i ∧ i < 2147483648) (hix : -2147483648 ≤ x ∧ x < 2147483648) (hiy : -2147483648 ≤ y ∧ y < 2147483648) : av_Mt E (d + 8) mX7_move [vR 0, vI i, vI x, vI y] M (fun res M' => (¬ (0 ≤ i ∧ i < M 1 3) ∧ res = some (vI (-900000001)) ∧ M' = M) ∨ ((0 ≤ i ∧ i < M 1 3) ∧ ¬ ((-50 ≤ x ∧ x ≤ 50) ∧ (-50 ≤ y ∧ y ≤ 50)) ∧ res = some (vI (-900000002)) ∧ M' = M) ∨ ((0 ≤ i ∧ i < M 1 3) ∧ ((-50 ≤ x ∧ x ≤ 50) ∧ (-50 ≤ y ∧ y ≤ 50)) ∧ res = some (vI 1) ∧ (M' 1 3 = M 1 3 ∧ M' 2 i = x ∧ (∀ j, j ≠ i → M' 2 j = M 2 j) ∧ M' 3 i = y ∧ ∀ j, j ≠ i → M' 3 j = M 3 j) ∧ CI M' ∧ KT M M' ∧ KW M M' ∧ KR M M')) := by
  have hb := CI_b hC
  have hc0 := b01_c (((-50 ≤ x ∧ x ≤ 50) ∧ (-50 ≤ y ∧ y ≤ 50)))
  have hn := hC.1.1
  refine av_enter hX7_move oX7_move rfl rfl ?_
  refine ax_iloadn rfl rfl ?_
  refine ax_if_lt rfl (by omega) (fun h1 => ?_) (fun h1 => ?_)
  · refine ax_ldc (z := (-900000001)) rfl kX7_54 rfl ?_
    refine ax_iret rfl rfl ?_
    exact Or.inl ⟨by omega, rfl, rfl⟩
  · refine ax_iloadn rfl rfl ?_
    refine ax_aloadn rfl rfl ?_
    refine ax_getR rfl fX7_10 rfl rfl ?_
    refine ax_callV (as := []) rfl vX7_42 hX2_size rfl rfl rfl rfl rfl (c_X2_size E (d + 7) M) (av_Xk ?_)
    refine ax_icmp_lt rfl (by omega) (by omega) (fun h12 => ?_) (fun h12 => ?_)
    · refine ax_iloadn rfl rfl ?_
      refine ax_iloadn rfl rfl ?_
      refine ax_callS (as := [_, _]) rfl sX7_37 hX7_isPlace rfl rfl rfl rfl (c_X7_isPlace E (d + 6) M x y (by omega) (by omega)) (av_Xk ?_)
      refine ax_if_ne rfl (by omega) (fun h23 => ?_) (fun h23 => ?_)
      · refine ax_aloadn rfl rfl ?_
        refine ax_getR rfl fX7_33 rfl rfl ?_
        refine ax_callV (as := []) rfl vX7_47 hX1_forget rfl rfl rfl rfl rfl (c_X1_forget E (d + 7) M) (fun r33 M33 hr33 => ?_)
        obtain ⟨rfl, e1, e2, e3⟩ := hr33
        refine ax_aloadn rfl rfl ?_
        refine ax_getR rfl fX7_10 rfl rfl ?_
        refine ax_iloadn rfl rfl ?_
        refine ax_iloadn rfl rfl ?_
        refine ax_iloadn rfl rfl ?_
        refine ax_callV (as := [_, _, _]) rfl vX7_55 hX2_put rfl rfl rfl rfl rfl (c_X2_put E (d + 3) M33 i x y (by omega) (by omega) (by omega) (by rw [e3 1 (by decide)]; omega) (fun j j0 j1 _ => by rw [e3 1 (by decide)] at j1; rw [e3 2 (by decide), e3 3 (by decide)]; exact hC.1.2.1 j j0 j1)) (fun r43 M43 hr43 => ?_)
        obtain ⟨rfl, g2, g3, g4, g5, g6, g7⟩ := hr43
        refine ax_iconst rfl ?_
        refine ax_iret rfl rfl ?_
        have f1 : M43 1 = M 1 := by rw [g7 1 (by decide) (by decide) (by decide) (by decide) (by decide) (by decide) (by decide), e3 1 (by decide)]
        rw [e3 1 (by decide)] at g6
        rw [e3 2 (by decide)] at g3
        rw [e3 3 (by decide)] at g5
        have hP : PTm M43 := by
          unfold PTm FIm
          rw [f1]
          refine ⟨hn, fun j j0 j1 => ?_, g6⟩
          by_cases hj : j = i
          · rw [hj, g2, g4]; omega
          · rw [g3 j hj, g5 j hj]; exact hC.1.2.1 j j0 (by omega)
        have ek : ∀ k, 8 < k → k ≠ 33 → M43 k = M k := fun k a b => by rw [g7 k (by omega) (by omega) (by omega) (by omega) (by omega) (by omega) (by omega), e3 k b]
        have h33 : M43 33 1 = 0 := by rw [g7 33 (by decide) (by decide) (by decide) (by decide) (by decide) (by decide) (by decide)]; exact e1
        obtain ⟨c1, c2, c3⟩ := CI_mk hC hP (fun k a b => ek k (by omega) (by omega)) h33
        exact Or.inr (Or.inr ⟨by omega, by omega, rfl, ⟨by rw [f1], g2, g3, g4, g5⟩, c1, c2, c3, fun k a => ek k (by omega) (by omega)⟩)
      · refine ax_ldc (z := (-900000002)) rfl kX7_41 rfl ?_
        refine ax_iret rfl rfl ?_
        exact Or.inr (Or.inl ⟨by omega, by omega, rfl, rfl⟩)
    · refine ax_ldc (z := (-900000001)) rfl kX7_54 rfl ?_
      refine ax_iret rfl rfl ?_
      exact Or.inl ⟨by omega, rfl, rfl⟩
set_option maxRecDepth 100000 in
set_option maxHeartbeats 800000 in
theorem c_X7_clear (E : av_E) (d : Nat) (M : av_M) (hC : CI M) : av_Mt E (d + 8) mX7_clear [vR 0] M (fun res M' => res = some (vI (M 1 3)) ∧ M' 1 3 = 0 ∧ CI M' ∧ KT M M' ∧ KW M M' ∧ KR M M') := by
  refine av_enter hX7_clear oX7_clear rfl rfl ?_
  refine ax_aloadn rfl rfl ?_
  refine ax_getR rfl fX7_33 rfl rfl ?_
  refine ax_callV (as := []) rfl vX7_47 hX1_forget rfl rfl rfl rfl rfl (c_X1_forget E (d + 7) M) (fun r4 M4 hr4 => ?_)
  obtain ⟨rfl, e1, e2, e3⟩ := hr4
  refine ax_aloadn rfl rfl ?_
  refine ax_getR rfl fX7_10 rfl rfl ?_
  refine ax_callV (as := []) rfl vX7_59 hX2_drop rfl rfl rfl rfl rfl (c_X2_drop E (d + 3) M4) (fun r11 M11 hr11 => ?_)
  obtain ⟨rfl, g1, g2, g3⟩ := hr11
  refine ax_iret rfl rfl ?_
  have hP : PTm M11 := ⟨by omega, fun j j0 j1 => by omega, g2⟩
  have ek : ∀ k, 8 < k → k ≠ 33 → M11 k = M k := fun k a b => by rw [g3 k (by omega) (by omega) (by omega) (by omega) (by omega) (by omega), e3 k b]
  have h33 : M11 33 1 = 0 := by rw [g3 33 (by decide) (by decide) (by decide) (by decide) (by decide) (by decide)]; exact e1
  obtain ⟨c1, c2, c3⟩ := CI_mk hC hP (fun k a b => ek k (by omega) (by omega)) h33
  rw [e3 1 (by decide)]
  exact ⟨rfl, g1, c1, c2, c3, fun k a => ek k (by omega) (by omega)⟩
theorem CI_tab {M M' : av_M} (h : CI M) (hT : TBm M') (e : ∀ k, k < 9 ∨ 11 < k → M' k = M k) : CI M' ∧ KP M M' ∧ KW M M' ∧ KR M M' := by
  refine ⟨⟨PTm_congr h.1 (fun k a b => e k (by omega)), hT, BI_congr h.2.2.1 (fun k a b => e k (by omega)), ?_⟩, ?_, fun k a b => e k (by omega), fun k a => e k (by omega)⟩
  · have c := h.2.2.2
    unfold CAm at c ⊢
    rw [e 33 (by decide)]
    rcases c with c | ⟨c, q⟩
    · exact Or.inl c
    · refine Or.inr ⟨c, ?_⟩
      unfold CHW CHS PS SHW HH cc p2 at q ⊢
      rw [e 4 (by decide), e 5 (by decide), e 6 (by decide), e 7 (by decide), e 8 (by decide), e 13 (by decide), e 18 (by decide), e 19 (by decide), e 20 (by decide), e 22 (by decide), e 23 (by decide), e 24 (by decide), e 26 (by decide)]
      exact q
  · unfold KP
    rw [e 1 (by decide), e 2 (by decide), e 3 (by decide)]
    exact ⟨rfl, rfl, rfl⟩
set_option maxRecDepth 100000 in
set_option maxHeartbeats 800000 in
theorem c_X7_factors (E : av_E) (d : Nat) (M : av_M) (hC : CI M) (r s : Int) (hir : -2147483648 ≤ r ∧ r < 2147483648) (his : -2147483648 ≤ s ∧ s < 2147483648) : av_Mt E (d + 8) mX7_factors [vR 0, vI r, vI s] M (fun res M' => (¬ ((1 ≤ r ∧ r ≤ 8) ∧ (1 ≤ s ∧ s ≤ 999)) ∧ res = some (vI (-900000002)) ∧ M' = M) ∨ (((1 ≤ r ∧ r ≤ 8) ∧ (1 ≤ s ∧ s ≤ 999)) ∧ res = some (vI (M 9 2)) ∧ (M' 9 2 = r ∧ M' 9 3 = s ∧ M' 10 = M 10 ∧ M' 11 = M 11) ∧ CI M' ∧ KP M M' ∧ KW M M' ∧ KR M M')) := by
  have hc0 := b01_c (1 ≤ r ∧ r ≤ 8)
  have hc1 := b01_c (1 ≤ s ∧ s ≤ 999)
  refine av_enter hX7_factors oX7_factors rfl rfl ?_
  refine ax_iloadn rfl rfl ?_
  refine ax_iconst rfl ?_
  refine ax_bipush rfl rfl ?_
  refine ax_callS (as := [_, _, _]) rfl sX7_85 hX7_isWithin rfl rfl rfl rfl (c_X7_isWithin E (d + 7) M r 1 8 (by omega) (by omega) (by omega)) (av_Xk ?_)
  refine ax_if_eq rfl (by omega) (fun h7 => ?_) (fun h7 => ?_)
  · refine ax_ldc (z := (-900000002)) rfl kX7_41 rfl ?_
    refine ax_iret rfl rfl ?_
    exact Or.inl ⟨by omega, rfl, rfl⟩
  · refine ax_iloadn rfl rfl ?_
    refine ax_iconst rfl ?_
    refine ax_sipush rfl rfl ?_
    refine ax_callS (as := [_, _, _]) rfl sX7_85 hX7_isWithin rfl rfl rfl rfl (c_X7_isWithin E (d + 7) M s 1 999 (by omega) (by omega) (by omega)) (av_Xk ?_)
    refine ax_if_ne rfl (by omega) (fun h18 => ?_) (fun h18 => ?_)
    · refine ax_aloadn rfl rfl ?_
      refine ax_getR rfl fX7_19 rfl rfl ?_
      refine ax_iloadn rfl rfl ?_
      refine ax_iloadn rfl rfl ?_
      refine ax_callV (as := [_, _]) rfl vX7_139 hX5_resize rfl rfl rfl rfl rfl (c_X5_resize E (d + 7) M r s) (fun r30 M30 hr30 => ?_)
      obtain ⟨rfl, g1, g2, g3⟩ := hr30
      refine ax_iret rfl rfl ?_
      have hT : TBm M30 := by
        unfold TBm
        rw [g1, g2, g3 10 (by decide), g3 11 (by decide)]
        exact ⟨by omega, by omega, hC.2.1.2.2.1, hC.2.1.2.2.2⟩
      obtain ⟨c1, c2, c3, c4⟩ := CI_tab hC hT (fun k hk => g3 k (by omega))
      exact Or.inr ⟨by omega, rfl, ⟨g1, g2, g3 10 (by decide), g3 11 (by decide)⟩, c1, c2, c3, c4⟩
    · refine ax_ldc (z := (-900000002)) rfl kX7_41 rfl ?_
      refine ax_iret rfl rfl ?_
      exact Or.inl ⟨by omega, rfl, rfl⟩
set_option maxRecDepth 100000 in
set_option maxHeartbeats 800000 in
theorem c_X7_entry_0 (E : av_E) (d : Nat) (M : av_M) (hC : CI M) (row col v : Int) (hirow : -2147483648 ≤ row ∧ row < 2147483648) (hicol : -2147483648 ≤ col ∧ col < 2147483648) (hiv : -2147483648 ≤ v ∧ v < 2147483648) : av_Mt E (d + 8) mX7_entry [vR 0, vI 0, vI row, vI col, vI v] M (fun res M' => (¬ ((0 ≤ row ∧ row < 8) ∧ (0 ≤ col ∧ col < 12)) ∧ res = some (vI (-900000001)) ∧ M' = M) ∨ (((0 ≤ row ∧ row < 8) ∧ (0 ≤ col ∧ col < 12)) ∧ ¬ (0 ≤ v ∧ v ≤ 9999) ∧ res = some (vI (-900000002)) ∧ M' = M) ∨ (((0 ≤ row ∧ row < 8) ∧ (0 ≤ col ∧ col < 12)) ∧ (0 ≤ v ∧ v ≤ 9999) ∧ res = some (vI (M 11 (row * 12 + col))) ∧ (M' 11 (row * 12 + col) = v ∧ (∀ j, j ≠ (row * 12 + col) → M' 11 j = M 11 j) ∧ M' 10 = M 10 ∧ M' 9 = M 9) ∧ CI M' ∧ KP M M' ∧ KW M M' ∧ KR M M')) := by
  have hc0 := b01_c (0 ≤ row ∧ row ≤ 8 - 1)
  have hc1 := b01_c (0 ≤ col ∧ col ≤ 12 - 1)
  have hc2 := b01_c (0 ≤ v ∧ v ≤ 9999)
  refine av_enter hX7_entry oX7_entry rfl rfl ?_
  refine ax_iloadn rfl rfl ?_
  refine ax_if_eq rfl (by omega) (fun h1 => ?_) (fun h1 => ?_)
  · refine ax_bipush rfl rfl ?_
    refine ax_istore (ls' := [(0, _), (1, _), (2, _), (3, _), (4, _), (5, _)]) rfl rfl rfl ?_
    refine ax_iloadn rfl rfl ?_
    refine ax_if_eq rfl (by omega) (fun h14 => ?_) (fun h14 => ?_)
    · refine ax_bipush rfl rfl ?_
      refine ax_istore (ls' := [(0, _), (1, _), (2, _), (3, _), (4, _), (5, _), (6, _)]) rfl rfl rfl ?_
      refine ax_iloadn rfl rfl ?_
      refine ax_iconst rfl ?_
      refine ax_iload rfl rfl ?_
      refine ax_iconst rfl ?_
      refine ax_isub rfl ?_
      refine ax_callS (as := [_, _, _]) rfl sX7_85 hX7_isWithin rfl rfl rfl rfl (c_X7_isWithin E (d + 7) M row 0 (8 - 1) (by omega) (by omega) (by omega)) (av_Xk ?_)
      refine ax_if_eq rfl (by omega) (fun h35 => ?_) (fun h35 => ?_)
      · refine ax_ldc (z := (-900000001)) rfl kX7_54 rfl ?_
        refine ax_iret rfl rfl ?_
        exact Or.inl ⟨by omega, rfl, rfl⟩
      · refine ax_iloadn rfl rfl ?_
        refine ax_iconst rfl ?_
        refine ax_iload rfl rfl ?_
        refine ax_iconst rfl ?_
        refine ax_isub rfl ?_
        refine ax_callS (as := [_, _, _]) rfl sX7_85 hX7_isWithin rfl rfl rfl rfl (c_X7_isWithin E (d + 7) M col 0 (12 - 1) (by omega) (by omega) (by omega)) (av_Xk ?_)
        refine ax_if_ne rfl (by omega) (fun h47 => ?_) (fun h47 => ?_)
        · refine ax_iload rfl rfl ?_
          refine ax_iconst rfl ?_
          refine ax_sipush rfl rfl ?_
          refine ax_callS (as := [_, _, _]) rfl sX7_85 hX7_isWithin rfl rfl rfl rfl (c_X7_isWithin E (d + 7) M v 0 9999 (by omega) (by omega) (by omega)) (av_Xk ?_)
          refine ax_if_ne rfl (by omega) (fun h62 => ?_) (fun h62 => ?_)
          · refine ax_aloadn rfl rfl ?_
            refine ax_getR rfl fX7_19 rfl rfl ?_
            refine ax_iloadn rfl rfl ?_
            refine ax_iloadn rfl rfl ?_
            refine ax_iload rfl rfl ?_
            refine ax_imul rfl ?_
            refine ax_iloadn rfl rfl ?_
            refine ax_iadd rfl ?_
            refine ax_iload rfl rfl ?_
            refine ax_callV (as := [_, _, _]) rfl vX7_142 hX5_put rfl rfl rfl rfl rfl (c_X5_put E (d + 7) M 0 (row * 12 + col) v (by omega) (by omega)) (fun r81 M81 hr81 => ?_)
            obtain ⟨rfl, g1, g2, g3⟩ := hr81.1 rfl
            refine ax_iret rfl rfl ?_
            have hT : TBm M81 := by
              unfold TBm
              rw [g3 9 (by decide), g3 10 (by decide)]
              refine ⟨hC.2.1.1, hC.2.1.2.1, hC.2.1.2.2.1, ?_⟩
              intro j j0 j1
              by_cases hj : j = (row * 12 + col)
              · rw [hj, g1]; omega
              · rw [g2 j hj]; exact hC.2.1.2.2.2 j j0 j1
            obtain ⟨c1, c2, c3, c4⟩ := CI_tab hC hT (fun k hk => g3 k (by omega))
            exact Or.inr (Or.inr ⟨by omega, by omega, rfl, ⟨g1, g2, g3 10 (by decide), g3 9 (by decide)⟩, c1, c2, c3, c4⟩)
          · refine ax_ldc (z := (-900000002)) rfl kX7_41 rfl ?_
            refine ax_iret rfl rfl ?_
            exact Or.inr (Or.inl ⟨by omega, by omega, rfl, rfl⟩)
        · refine ax_ldc (z := (-900000001)) rfl kX7_54 rfl ?_
          refine ax_iret rfl rfl ?_
          exact Or.inl ⟨by omega, rfl, rfl⟩
    · omega
  · omega
set_option maxRecDepth 100000 in
set_option maxHeartbeats 800000 in
theorem c_X7_entry_1 (E : av_E) (d : Nat) (M : av_M) (hC : CI M) (row col v : Int) (hirow : -2147483648 ≤ row ∧ row < 2147483648) (hicol : -2147483648 ≤ col ∧ col < 2147483648) (hiv : -2147483648 ≤ v ∧ v < 2147483648) : av_Mt E (d + 8) mX7_entry [vR 0, vI 1, vI row, vI col, vI v] M (fun res M' => (¬ ((0 ≤ row ∧ row < 12) ∧ (0 ≤ col ∧ col < 8)) ∧ res = some (vI (-900000001)) ∧ M' = M) ∨ (((0 ≤ row ∧ row < 12) ∧ (0 ≤ col ∧ col < 8)) ∧ ¬ (0 ≤ v ∧ v ≤ 9999) ∧ res = some (vI (-900000002)) ∧ M' = M) ∨ (((0 ≤ row ∧ row < 12) ∧ (0 ≤ col ∧ col < 8)) ∧ (0 ≤ v ∧ v ≤ 9999) ∧ res = some (vI (M 10 (row * 8 + col))) ∧ (M' 10 (row * 8 + col) = v ∧ (∀ j, j ≠ (row * 8 + col) → M' 10 j = M 10 j) ∧ M' 11 = M 11 ∧ M' 9 = M 9) ∧ CI M' ∧ KP M M' ∧ KW M M' ∧ KR M M')) := by
  have hc0 := b01_c (0 ≤ row ∧ row ≤ 12 - 1)
  have hc1 := b01_c (0 ≤ col ∧ col ≤ 8 - 1)
  have hc2 := b01_c (0 ≤ v ∧ v ≤ 9999)
  refine av_enter hX7_entry oX7_entry rfl rfl ?_
  refine ax_iloadn rfl rfl ?_
  refine ax_if_eq rfl (by omega) (fun h1 => ?_) (fun h1 => ?_)
  · omega
  · refine ax_bipush rfl rfl ?_
    refine ax_goto rfl ?_
    refine ax_istore (ls' := [(0, _), (1, _), (2, _), (3, _), (4, _), (5, _)]) rfl rfl rfl ?_
    refine ax_iloadn rfl rfl ?_
    refine ax_if_eq rfl (by omega) (fun h14 => ?_) (fun h14 => ?_)
    · omega
    · refine ax_bipush rfl rfl ?_
      refine ax_goto rfl ?_
      refine ax_istore (ls' := [(0, _), (1, _), (2, _), (3, _), (4, _), (5, _), (6, _)]) rfl rfl rfl ?_
      refine ax_iloadn rfl rfl ?_
      refine ax_iconst rfl ?_
      refine ax_iload rfl rfl ?_
      refine ax_iconst rfl ?_
      refine ax_isub rfl ?_
      refine ax_callS (as := [_, _, _]) rfl sX7_85 hX7_isWithin rfl rfl rfl rfl (c_X7_isWithin E (d + 7) M row 0 (12 - 1) (by omega) (by omega) (by omega)) (av_Xk ?_)
      refine ax_if_eq rfl (by omega) (fun h35 => ?_) (fun h35 => ?_)
      · refine ax_ldc (z := (-900000001)) rfl kX7_54 rfl ?_
        refine ax_iret rfl rfl ?_
        exact Or.inl ⟨by omega, rfl, rfl⟩
      · refine ax_iloadn rfl rfl ?_
        refine ax_iconst rfl ?_
        refine ax_iload rfl rfl ?_
        refine ax_iconst rfl ?_
        refine ax_isub rfl ?_
        refine ax_callS (as := [_, _, _]) rfl sX7_85 hX7_isWithin rfl rfl rfl rfl (c_X7_isWithin E (d + 7) M col 0 (8 - 1) (by omega) (by omega) (by omega)) (av_Xk ?_)
        refine ax_if_ne rfl (by omega) (fun h47 => ?_) (fun h47 => ?_)
        · refine ax_iload rfl rfl ?_
          refine ax_iconst rfl ?_
          refine ax_sipush rfl rfl ?_
          refine ax_callS (as := [_, _, _]) rfl sX7_85 hX7_isWithin rfl rfl rfl rfl (c_X7_isWithin E (d + 7) M v 0 9999 (by omega) (by omega) (by omega)) (av_Xk ?_)
          refine ax_if_ne rfl (by omega) (fun h62 => ?_) (fun h62 => ?_)
          · refine ax_aloadn rfl rfl ?_
            refine ax_getR rfl fX7_19 rfl rfl ?_
            refine ax_iloadn rfl rfl ?_
            refine ax_iloadn rfl rfl ?_
            refine ax_iload rfl rfl ?_
            refine ax_imul rfl ?_
            refine ax_iloadn rfl rfl ?_
            refine ax_iadd rfl ?_
            refine ax_iload rfl rfl ?_
            refine ax_callV (as := [_, _, _]) rfl vX7_142 hX5_put rfl rfl rfl rfl rfl (c_X5_put E (d + 7) M 1 (row * 8 + col) v (by omega) (by omega)) (fun r81 M81 hr81 => ?_)
            obtain ⟨rfl, g1, g2, g3⟩ := hr81.2 rfl
            refine ax_iret rfl rfl ?_
            have hT : TBm M81 := by
              unfold TBm
              rw [g3 9 (by decide), g3 11 (by decide)]
              refine ⟨hC.2.1.1, hC.2.1.2.1, ?_, hC.2.1.2.2.2⟩
              intro j j0 j1
              by_cases hj : j = (row * 8 + col)
              · rw [hj, g1]; omega
              · rw [g2 j hj]; exact hC.2.1.2.2.1 j j0 j1
            obtain ⟨c1, c2, c3, c4⟩ := CI_tab hC hT (fun k hk => g3 k (by omega))
            exact Or.inr (Or.inr ⟨by omega, by omega, rfl, ⟨g1, g2, g3 11 (by decide), g3 9 (by decide)⟩, c1, c2, c3, c4⟩)
          · refine ax_ldc (z := (-900000002)) rfl kX7_41 rfl ?_
            refine ax_iret rfl rfl ?_
            exact Or.inr (Or.inl ⟨by omega, by omega, rfl, rfl⟩)
        · refine ax_ldc (z := (-900000001)) rfl kX7_54 rfl ?_
          refine ax_iret rfl rfl ?_
          exact Or.inl ⟨by omega, rfl, rfl⟩
