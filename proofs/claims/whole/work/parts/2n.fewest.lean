/-! ===== the class's calls: walls, and the fewest ===== -/
set_option maxRecDepth 100000 in
set_option maxHeartbeats 800000 in
theorem c_X7_wall (E : av_E) (d : Nat) (M : av_M) (hC : CI M) (a b c e : Int) (hia : -2147483648 ≤ a ∧ a < 2147483648) (hib : -2147483648 ≤ b ∧ b < 2147483648) (hic : -2147483648 ≤ c ∧ c < 2147483648) (hie : -2147483648 ≤ e ∧ e < 2147483648) : av_Mt E (d + 8) mX7_wall [vR 0, vI a, vI b, vI c, vI e] M (fun res M' => (¬ ((-9 ≤ a ∧ a ≤ 9) ∧ (-9 ≤ b ∧ b ≤ 9) ∧ (-9 ≤ c ∧ c ≤ 9) ∧ (-99 ≤ e ∧ e ≤ 99) ∧ ¬ (a = 0 ∧ b = 0 ∧ c = 0)) ∧ res = some (vI (-900000002)) ∧ M' = M) ∨ (((-9 ≤ a ∧ a ≤ 9) ∧ (-9 ≤ b ∧ b ≤ 9) ∧ (-9 ≤ c ∧ c ≤ 9) ∧ (-99 ≤ e ∧ e ≤ 99) ∧ ¬ (a = 0 ∧ b = 0 ∧ c = 0)) ∧ 10 ≤ M 13 4 ∧ res = some (vI (-900000004)) ∧ M' = M) ∨ (((-9 ≤ a ∧ a ≤ 9) ∧ (-9 ≤ b ∧ b ≤ 9) ∧ (-9 ≤ c ∧ c ≤ 9) ∧ (-99 ≤ e ∧ e ≤ 99) ∧ ¬ (a = 0 ∧ b = 0 ∧ c = 0)) ∧ M 13 4 < 10 ∧ res = some (vI (M 13 4)) ∧ WA M M' a b c e ∧ CI M' ∧ KP M M' ∧ KT M M' ∧ KR M M')) := by
  have hb := CI_b hC
  have hc0 := b01_c (-9 ≤ a ∧ a ≤ 9)
  have hc1 := b01_c (-9 ≤ b ∧ b ≤ 9)
  have hc2 := b01_c (-9 ≤ c ∧ c ≤ 9)
  have hc3 := b01_c (-99 ≤ e ∧ e ≤ 99)
  refine av_enter hX7_wall oX7_wall rfl rfl ?_
  refine ax_iloadn rfl rfl ?_
  refine ax_callS (as := [_]) rfl sX7_145 hX7_isStep rfl rfl rfl rfl (c_X7_isStep E (d + 6) M a (by omega)) (av_Xk ?_)
  refine ax_if_eq rfl (by omega) (fun h4 => ?_) (fun h4 => ?_)
  · refine ax_iconst rfl ?_
    refine ax_istore (ls' := [(0, _), (1, _), (2, _), (3, _), (4, _), (5, _)]) rfl rfl rfl ?_
    refine ax_iload rfl rfl ?_
    refine ax_if_eq rfl (by omega) (fun h30 => ?_) (fun h30 => ?_)
    · refine ax_ldc (z := (-900000002)) rfl kX7_41 rfl ?_
      refine ax_iret rfl rfl ?_
      exact Or.inl ⟨by omega, rfl, rfl⟩
    · refine ax_iloadn rfl rfl ?_
      refine ax_if_ne rfl (by omega) (fun h34 => ?_) (fun h34 => ?_)
      · refine ax_iload rfl rfl ?_
        refine ax_callS (as := [_]) rfl sX7_148 hX7_isFar rfl rfl rfl rfl (c_X7_isFar E (d + 6) M e (by omega)) (av_Xk ?_)
        refine ax_if_ne rfl (by omega) (fun h50 => ?_) (fun h50 => ?_)
        · refine ax_aloadn rfl rfl ?_
          refine ax_getR rfl fX7_26 rfl rfl ?_
          refine ax_callV (as := []) rfl vX7_151 hX0_walls rfl rfl rfl rfl rfl (c_X0_walls E (d + 7) M) (av_Xk ?_)
          refine ax_callV (as := []) rfl vX7_154 hX6_size rfl rfl rfl rfl rfl (c_X6_size E (d + 7) M) (av_Xk ?_)
          refine ax_bipush rfl rfl ?_
          refine ax_icmp_lt rfl (by omega) (by omega) (fun h68 => ?_) (fun h68 => ?_)
          · refine ax_aloadn rfl rfl ?_
            refine ax_getR rfl fX7_33 rfl rfl ?_
            refine ax_callV (as := []) rfl vX7_47 hX1_forget rfl rfl rfl rfl rfl (c_X1_forget E (d + 7) M) (fun r78 M78 hr78 => ?_)
            obtain ⟨rfl, e1, e2, e3⟩ := hr78
            have hB78 : BI M78 := BI_congr hC.2.2.1 (fun k a b => e3 k (by omega))
            refine ax_aloadn rfl rfl ?_
            refine ax_getR rfl fX7_26 rfl rfl ?_
            refine ax_iloadn rfl rfl ?_
            refine ax_iloadn rfl rfl ?_
            refine ax_iloadn rfl rfl ?_
            refine ax_iload rfl rfl ?_
            refine ax_callV (as := [_, _, _, _]) rfl vX7_157 hX0_build rfl rfl rfl rfl rfl (c_X0_build E (d + 3) M78 a b c e hB78 (by rw [e3 13 (by decide)]; omega) (by omega) (by omega) (by omega) (by omega) (by omega)) (fun r90 M90 hr90 => ?_)
            obtain ⟨rfl, g2, g3, g4⟩ := hr90
            refine ax_iret rfl rfl ?_
            have ek : ∀ k, k < 12 → M90 k = M k := fun k a => by rw [g4 k (Or.inl a), e3 k (by omega)]
            have h33 : M90 33 1 = 0 := by rw [g4 33 (Or.inr (by decide))]; exact e1
            obtain ⟨c1, c2, c3⟩ := CI_wall hC g2 ek h33
            have f13 : M78 13 = M 13 := e3 13 (by decide)
            have f14 : M78 14 = M 14 := e3 14 (by decide)
            have f15 : M78 15 = M 15 := e3 15 (by decide)
            have f16 : M78 16 = M 16 := e3 16 (by decide)
            have f17 : M78 17 = M 17 := e3 17 (by decide)
            unfold WA at g3 ⊢
            rw [f13, f14, f15, f16, f17] at g3
            rw [f13]
            exact Or.inr (Or.inr ⟨by omega, by omega, rfl, g3, c1, c2, c3, fun k a => by rw [g4 k (Or.inr (by omega)), e3 k (by omega)]⟩)
          · refine ax_ldc (z := (-900000004)) rfl kX7_46 rfl ?_
            refine ax_iret rfl rfl ?_
            exact Or.inr (Or.inl ⟨by omega, by omega, rfl, rfl⟩)
        · refine ax_ldc (z := (-900000002)) rfl kX7_41 rfl ?_
          refine ax_iret rfl rfl ?_
          exact Or.inl ⟨by omega, rfl, rfl⟩
      · refine ax_iloadn rfl rfl ?_
        refine ax_if_ne rfl (by omega) (fun h38 => ?_) (fun h38 => ?_)
        · refine ax_iload rfl rfl ?_
          refine ax_callS (as := [_]) rfl sX7_148 hX7_isFar rfl rfl rfl rfl (c_X7_isFar E (d + 6) M e (by omega)) (av_Xk ?_)
          refine ax_if_ne rfl (by omega) (fun h50 => ?_) (fun h50 => ?_)
          · refine ax_aloadn rfl rfl ?_
            refine ax_getR rfl fX7_26 rfl rfl ?_
            refine ax_callV (as := []) rfl vX7_151 hX0_walls rfl rfl rfl rfl rfl (c_X0_walls E (d + 7) M) (av_Xk ?_)
            refine ax_callV (as := []) rfl vX7_154 hX6_size rfl rfl rfl rfl rfl (c_X6_size E (d + 7) M) (av_Xk ?_)
            refine ax_bipush rfl rfl ?_
            refine ax_icmp_lt rfl (by omega) (by omega) (fun h68 => ?_) (fun h68 => ?_)
            · refine ax_aloadn rfl rfl ?_
              refine ax_getR rfl fX7_33 rfl rfl ?_
              refine ax_callV (as := []) rfl vX7_47 hX1_forget rfl rfl rfl rfl rfl (c_X1_forget E (d + 7) M) (fun r78 M78 hr78 => ?_)
              obtain ⟨rfl, e1, e2, e3⟩ := hr78
              have hB78 : BI M78 := BI_congr hC.2.2.1 (fun k a b => e3 k (by omega))
              refine ax_aloadn rfl rfl ?_
              refine ax_getR rfl fX7_26 rfl rfl ?_
              refine ax_iloadn rfl rfl ?_
              refine ax_iloadn rfl rfl ?_
              refine ax_iloadn rfl rfl ?_
              refine ax_iload rfl rfl ?_
              refine ax_callV (as := [_, _, _, _]) rfl vX7_157 hX0_build rfl rfl rfl rfl rfl (c_X0_build E (d + 3) M78 a b c e hB78 (by rw [e3 13 (by decide)]; omega) (by omega) (by omega) (by omega) (by omega) (by omega)) (fun r90 M90 hr90 => ?_)
              obtain ⟨rfl, g2, g3, g4⟩ := hr90
              refine ax_iret rfl rfl ?_
              have ek : ∀ k, k < 12 → M90 k = M k := fun k a => by rw [g4 k (Or.inl a), e3 k (by omega)]
              have h33 : M90 33 1 = 0 := by rw [g4 33 (Or.inr (by decide))]; exact e1
              obtain ⟨c1, c2, c3⟩ := CI_wall hC g2 ek h33
              have f13 : M78 13 = M 13 := e3 13 (by decide)
              have f14 : M78 14 = M 14 := e3 14 (by decide)
              have f15 : M78 15 = M 15 := e3 15 (by decide)
              have f16 : M78 16 = M 16 := e3 16 (by decide)
              have f17 : M78 17 = M 17 := e3 17 (by decide)
              unfold WA at g3 ⊢
              rw [f13, f14, f15, f16, f17] at g3
              rw [f13]
              exact Or.inr (Or.inr ⟨by omega, by omega, rfl, g3, c1, c2, c3, fun k a => by rw [g4 k (Or.inr (by omega)), e3 k (by omega)]⟩)
            · refine ax_ldc (z := (-900000004)) rfl kX7_46 rfl ?_
              refine ax_iret rfl rfl ?_
              exact Or.inr (Or.inl ⟨by omega, by omega, rfl, rfl⟩)
          · refine ax_ldc (z := (-900000002)) rfl kX7_41 rfl ?_
            refine ax_iret rfl rfl ?_
            exact Or.inl ⟨by omega, rfl, rfl⟩
        · refine ax_iloadn rfl rfl ?_
          refine ax_if_eq rfl (by omega) (fun h42 => ?_) (fun h42 => ?_)
          · refine ax_ldc (z := (-900000002)) rfl kX7_41 rfl ?_
            refine ax_iret rfl rfl ?_
            exact Or.inl ⟨by omega, rfl, rfl⟩
          · refine ax_iload rfl rfl ?_
            refine ax_callS (as := [_]) rfl sX7_148 hX7_isFar rfl rfl rfl rfl (c_X7_isFar E (d + 6) M e (by omega)) (av_Xk ?_)
            refine ax_if_ne rfl (by omega) (fun h50 => ?_) (fun h50 => ?_)
            · refine ax_aloadn rfl rfl ?_
              refine ax_getR rfl fX7_26 rfl rfl ?_
              refine ax_callV (as := []) rfl vX7_151 hX0_walls rfl rfl rfl rfl rfl (c_X0_walls E (d + 7) M) (av_Xk ?_)
              refine ax_callV (as := []) rfl vX7_154 hX6_size rfl rfl rfl rfl rfl (c_X6_size E (d + 7) M) (av_Xk ?_)
              refine ax_bipush rfl rfl ?_
              refine ax_icmp_lt rfl (by omega) (by omega) (fun h68 => ?_) (fun h68 => ?_)
              · refine ax_aloadn rfl rfl ?_
                refine ax_getR rfl fX7_33 rfl rfl ?_
                refine ax_callV (as := []) rfl vX7_47 hX1_forget rfl rfl rfl rfl rfl (c_X1_forget E (d + 7) M) (fun r78 M78 hr78 => ?_)
                obtain ⟨rfl, e1, e2, e3⟩ := hr78
                have hB78 : BI M78 := BI_congr hC.2.2.1 (fun k a b => e3 k (by omega))
                refine ax_aloadn rfl rfl ?_
                refine ax_getR rfl fX7_26 rfl rfl ?_
                refine ax_iloadn rfl rfl ?_
                refine ax_iloadn rfl rfl ?_
                refine ax_iloadn rfl rfl ?_
                refine ax_iload rfl rfl ?_
                refine ax_callV (as := [_, _, _, _]) rfl vX7_157 hX0_build rfl rfl rfl rfl rfl (c_X0_build E (d + 3) M78 a b c e hB78 (by rw [e3 13 (by decide)]; omega) (by omega) (by omega) (by omega) (by omega) (by omega)) (fun r90 M90 hr90 => ?_)
                obtain ⟨rfl, g2, g3, g4⟩ := hr90
                refine ax_iret rfl rfl ?_
                have ek : ∀ k, k < 12 → M90 k = M k := fun k a => by rw [g4 k (Or.inl a), e3 k (by omega)]
                have h33 : M90 33 1 = 0 := by rw [g4 33 (Or.inr (by decide))]; exact e1
                obtain ⟨c1, c2, c3⟩ := CI_wall hC g2 ek h33
                have f13 : M78 13 = M 13 := e3 13 (by decide)
                have f14 : M78 14 = M 14 := e3 14 (by decide)
                have f15 : M78 15 = M 15 := e3 15 (by decide)
                have f16 : M78 16 = M 16 := e3 16 (by decide)
                have f17 : M78 17 = M 17 := e3 17 (by decide)
                unfold WA at g3 ⊢
                rw [f13, f14, f15, f16, f17] at g3
                rw [f13]
                exact Or.inr (Or.inr ⟨by omega, by omega, rfl, g3, c1, c2, c3, fun k a => by rw [g4 k (Or.inr (by omega)), e3 k (by omega)]⟩)
              · refine ax_ldc (z := (-900000004)) rfl kX7_46 rfl ?_
                refine ax_iret rfl rfl ?_
                exact Or.inr (Or.inl ⟨by omega, by omega, rfl, rfl⟩)
            · refine ax_ldc (z := (-900000002)) rfl kX7_41 rfl ?_
              refine ax_iret rfl rfl ?_
              exact Or.inl ⟨by omega, rfl, rfl⟩
  · refine ax_iloadn rfl rfl ?_
    refine ax_callS (as := [_]) rfl sX7_145 hX7_isStep rfl rfl rfl rfl (c_X7_isStep E (d + 6) M b (by omega)) (av_Xk ?_)
    refine ax_if_eq rfl (by omega) (fun h11 => ?_) (fun h11 => ?_)
    · refine ax_iconst rfl ?_
      refine ax_istore (ls' := [(0, _), (1, _), (2, _), (3, _), (4, _), (5, _)]) rfl rfl rfl ?_
      refine ax_iload rfl rfl ?_
      refine ax_if_eq rfl (by omega) (fun h30 => ?_) (fun h30 => ?_)
      · refine ax_ldc (z := (-900000002)) rfl kX7_41 rfl ?_
        refine ax_iret rfl rfl ?_
        exact Or.inl ⟨by omega, rfl, rfl⟩
      · refine ax_iloadn rfl rfl ?_
        refine ax_if_ne rfl (by omega) (fun h34 => ?_) (fun h34 => ?_)
        · refine ax_iload rfl rfl ?_
          refine ax_callS (as := [_]) rfl sX7_148 hX7_isFar rfl rfl rfl rfl (c_X7_isFar E (d + 6) M e (by omega)) (av_Xk ?_)
          refine ax_if_ne rfl (by omega) (fun h50 => ?_) (fun h50 => ?_)
          · refine ax_aloadn rfl rfl ?_
            refine ax_getR rfl fX7_26 rfl rfl ?_
            refine ax_callV (as := []) rfl vX7_151 hX0_walls rfl rfl rfl rfl rfl (c_X0_walls E (d + 7) M) (av_Xk ?_)
            refine ax_callV (as := []) rfl vX7_154 hX6_size rfl rfl rfl rfl rfl (c_X6_size E (d + 7) M) (av_Xk ?_)
            refine ax_bipush rfl rfl ?_
            refine ax_icmp_lt rfl (by omega) (by omega) (fun h68 => ?_) (fun h68 => ?_)
            · refine ax_aloadn rfl rfl ?_
              refine ax_getR rfl fX7_33 rfl rfl ?_
              refine ax_callV (as := []) rfl vX7_47 hX1_forget rfl rfl rfl rfl rfl (c_X1_forget E (d + 7) M) (fun r78 M78 hr78 => ?_)
              obtain ⟨rfl, e1, e2, e3⟩ := hr78
              have hB78 : BI M78 := BI_congr hC.2.2.1 (fun k a b => e3 k (by omega))
              refine ax_aloadn rfl rfl ?_
              refine ax_getR rfl fX7_26 rfl rfl ?_
              refine ax_iloadn rfl rfl ?_
              refine ax_iloadn rfl rfl ?_
              refine ax_iloadn rfl rfl ?_
              refine ax_iload rfl rfl ?_
              refine ax_callV (as := [_, _, _, _]) rfl vX7_157 hX0_build rfl rfl rfl rfl rfl (c_X0_build E (d + 3) M78 a b c e hB78 (by rw [e3 13 (by decide)]; omega) (by omega) (by omega) (by omega) (by omega) (by omega)) (fun r90 M90 hr90 => ?_)
              obtain ⟨rfl, g2, g3, g4⟩ := hr90
              refine ax_iret rfl rfl ?_
              have ek : ∀ k, k < 12 → M90 k = M k := fun k a => by rw [g4 k (Or.inl a), e3 k (by omega)]
              have h33 : M90 33 1 = 0 := by rw [g4 33 (Or.inr (by decide))]; exact e1
              obtain ⟨c1, c2, c3⟩ := CI_wall hC g2 ek h33
              have f13 : M78 13 = M 13 := e3 13 (by decide)
              have f14 : M78 14 = M 14 := e3 14 (by decide)
              have f15 : M78 15 = M 15 := e3 15 (by decide)
              have f16 : M78 16 = M 16 := e3 16 (by decide)
              have f17 : M78 17 = M 17 := e3 17 (by decide)
              unfold WA at g3 ⊢
              rw [f13, f14, f15, f16, f17] at g3
              rw [f13]
              exact Or.inr (Or.inr ⟨by omega, by omega, rfl, g3, c1, c2, c3, fun k a => by rw [g4 k (Or.inr (by omega)), e3 k (by omega)]⟩)
            · refine ax_ldc (z := (-900000004)) rfl kX7_46 rfl ?_
              refine ax_iret rfl rfl ?_
              exact Or.inr (Or.inl ⟨by omega, by omega, rfl, rfl⟩)
          · refine ax_ldc (z := (-900000002)) rfl kX7_41 rfl ?_
            refine ax_iret rfl rfl ?_
            exact Or.inl ⟨by omega, rfl, rfl⟩
        · refine ax_iloadn rfl rfl ?_
          refine ax_if_ne rfl (by omega) (fun h38 => ?_) (fun h38 => ?_)
          · refine ax_iload rfl rfl ?_
            refine ax_callS (as := [_]) rfl sX7_148 hX7_isFar rfl rfl rfl rfl (c_X7_isFar E (d + 6) M e (by omega)) (av_Xk ?_)
            refine ax_if_ne rfl (by omega) (fun h50 => ?_) (fun h50 => ?_)
            · refine ax_aloadn rfl rfl ?_
              refine ax_getR rfl fX7_26 rfl rfl ?_
              refine ax_callV (as := []) rfl vX7_151 hX0_walls rfl rfl rfl rfl rfl (c_X0_walls E (d + 7) M) (av_Xk ?_)
              refine ax_callV (as := []) rfl vX7_154 hX6_size rfl rfl rfl rfl rfl (c_X6_size E (d + 7) M) (av_Xk ?_)
              refine ax_bipush rfl rfl ?_
              refine ax_icmp_lt rfl (by omega) (by omega) (fun h68 => ?_) (fun h68 => ?_)
              · refine ax_aloadn rfl rfl ?_
                refine ax_getR rfl fX7_33 rfl rfl ?_
                refine ax_callV (as := []) rfl vX7_47 hX1_forget rfl rfl rfl rfl rfl (c_X1_forget E (d + 7) M) (fun r78 M78 hr78 => ?_)
                obtain ⟨rfl, e1, e2, e3⟩ := hr78
                have hB78 : BI M78 := BI_congr hC.2.2.1 (fun k a b => e3 k (by omega))
                refine ax_aloadn rfl rfl ?_
                refine ax_getR rfl fX7_26 rfl rfl ?_
                refine ax_iloadn rfl rfl ?_
                refine ax_iloadn rfl rfl ?_
                refine ax_iloadn rfl rfl ?_
                refine ax_iload rfl rfl ?_
                refine ax_callV (as := [_, _, _, _]) rfl vX7_157 hX0_build rfl rfl rfl rfl rfl (c_X0_build E (d + 3) M78 a b c e hB78 (by rw [e3 13 (by decide)]; omega) (by omega) (by omega) (by omega) (by omega) (by omega)) (fun r90 M90 hr90 => ?_)
                obtain ⟨rfl, g2, g3, g4⟩ := hr90
                refine ax_iret rfl rfl ?_
                have ek : ∀ k, k < 12 → M90 k = M k := fun k a => by rw [g4 k (Or.inl a), e3 k (by omega)]
                have h33 : M90 33 1 = 0 := by rw [g4 33 (Or.inr (by decide))]; exact e1
                obtain ⟨c1, c2, c3⟩ := CI_wall hC g2 ek h33
                have f13 : M78 13 = M 13 := e3 13 (by decide)
                have f14 : M78 14 = M 14 := e3 14 (by decide)
                have f15 : M78 15 = M 15 := e3 15 (by decide)
                have f16 : M78 16 = M 16 := e3 16 (by decide)
                have f17 : M78 17 = M 17 := e3 17 (by decide)
                unfold WA at g3 ⊢
                rw [f13, f14, f15, f16, f17] at g3
                rw [f13]
                exact Or.inr (Or.inr ⟨by omega, by omega, rfl, g3, c1, c2, c3, fun k a => by rw [g4 k (Or.inr (by omega)), e3 k (by omega)]⟩)
              · refine ax_ldc (z := (-900000004)) rfl kX7_46 rfl ?_
                refine ax_iret rfl rfl ?_
                exact Or.inr (Or.inl ⟨by omega, by omega, rfl, rfl⟩)
            · refine ax_ldc (z := (-900000002)) rfl kX7_41 rfl ?_
              refine ax_iret rfl rfl ?_
              exact Or.inl ⟨by omega, rfl, rfl⟩
          · refine ax_iloadn rfl rfl ?_
            refine ax_if_eq rfl (by omega) (fun h42 => ?_) (fun h42 => ?_)
            · refine ax_ldc (z := (-900000002)) rfl kX7_41 rfl ?_
              refine ax_iret rfl rfl ?_
              exact Or.inl ⟨by omega, rfl, rfl⟩
            · refine ax_iload rfl rfl ?_
              refine ax_callS (as := [_]) rfl sX7_148 hX7_isFar rfl rfl rfl rfl (c_X7_isFar E (d + 6) M e (by omega)) (av_Xk ?_)
              refine ax_if_ne rfl (by omega) (fun h50 => ?_) (fun h50 => ?_)
              · refine ax_aloadn rfl rfl ?_
                refine ax_getR rfl fX7_26 rfl rfl ?_
                refine ax_callV (as := []) rfl vX7_151 hX0_walls rfl rfl rfl rfl rfl (c_X0_walls E (d + 7) M) (av_Xk ?_)
                refine ax_callV (as := []) rfl vX7_154 hX6_size rfl rfl rfl rfl rfl (c_X6_size E (d + 7) M) (av_Xk ?_)
                refine ax_bipush rfl rfl ?_
                refine ax_icmp_lt rfl (by omega) (by omega) (fun h68 => ?_) (fun h68 => ?_)
                · refine ax_aloadn rfl rfl ?_
                  refine ax_getR rfl fX7_33 rfl rfl ?_
                  refine ax_callV (as := []) rfl vX7_47 hX1_forget rfl rfl rfl rfl rfl (c_X1_forget E (d + 7) M) (fun r78 M78 hr78 => ?_)
                  obtain ⟨rfl, e1, e2, e3⟩ := hr78
                  have hB78 : BI M78 := BI_congr hC.2.2.1 (fun k a b => e3 k (by omega))
                  refine ax_aloadn rfl rfl ?_
                  refine ax_getR rfl fX7_26 rfl rfl ?_
                  refine ax_iloadn rfl rfl ?_
                  refine ax_iloadn rfl rfl ?_
                  refine ax_iloadn rfl rfl ?_
                  refine ax_iload rfl rfl ?_
                  refine ax_callV (as := [_, _, _, _]) rfl vX7_157 hX0_build rfl rfl rfl rfl rfl (c_X0_build E (d + 3) M78 a b c e hB78 (by rw [e3 13 (by decide)]; omega) (by omega) (by omega) (by omega) (by omega) (by omega)) (fun r90 M90 hr90 => ?_)
                  obtain ⟨rfl, g2, g3, g4⟩ := hr90
                  refine ax_iret rfl rfl ?_
                  have ek : ∀ k, k < 12 → M90 k = M k := fun k a => by rw [g4 k (Or.inl a), e3 k (by omega)]
                  have h33 : M90 33 1 = 0 := by rw [g4 33 (Or.inr (by decide))]; exact e1
                  obtain ⟨c1, c2, c3⟩ := CI_wall hC g2 ek h33
                  have f13 : M78 13 = M 13 := e3 13 (by decide)
                  have f14 : M78 14 = M 14 := e3 14 (by decide)
                  have f15 : M78 15 = M 15 := e3 15 (by decide)
                  have f16 : M78 16 = M 16 := e3 16 (by decide)
                  have f17 : M78 17 = M 17 := e3 17 (by decide)
                  unfold WA at g3 ⊢
                  rw [f13, f14, f15, f16, f17] at g3
                  rw [f13]
                  exact Or.inr (Or.inr ⟨by omega, by omega, rfl, g3, c1, c2, c3, fun k a => by rw [g4 k (Or.inr (by omega)), e3 k (by omega)]⟩)
                · refine ax_ldc (z := (-900000004)) rfl kX7_46 rfl ?_
                  refine ax_iret rfl rfl ?_
                  exact Or.inr (Or.inl ⟨by omega, by omega, rfl, rfl⟩)
              · refine ax_ldc (z := (-900000002)) rfl kX7_41 rfl ?_
                refine ax_iret rfl rfl ?_
                exact Or.inl ⟨by omega, rfl, rfl⟩
    · refine ax_iloadn rfl rfl ?_
      refine ax_callS (as := [_]) rfl sX7_145 hX7_isStep rfl rfl rfl rfl (c_X7_isStep E (d + 6) M c (by omega)) (av_Xk ?_)
      refine ax_if_eq rfl (by omega) (fun h18 => ?_) (fun h18 => ?_)
      · refine ax_iconst rfl ?_
        refine ax_istore (ls' := [(0, _), (1, _), (2, _), (3, _), (4, _), (5, _)]) rfl rfl rfl ?_
        refine ax_iload rfl rfl ?_
        refine ax_if_eq rfl (by omega) (fun h30 => ?_) (fun h30 => ?_)
        · refine ax_ldc (z := (-900000002)) rfl kX7_41 rfl ?_
          refine ax_iret rfl rfl ?_
          exact Or.inl ⟨by omega, rfl, rfl⟩
        · refine ax_iloadn rfl rfl ?_
          refine ax_if_ne rfl (by omega) (fun h34 => ?_) (fun h34 => ?_)
          · refine ax_iload rfl rfl ?_
            refine ax_callS (as := [_]) rfl sX7_148 hX7_isFar rfl rfl rfl rfl (c_X7_isFar E (d + 6) M e (by omega)) (av_Xk ?_)
            refine ax_if_ne rfl (by omega) (fun h50 => ?_) (fun h50 => ?_)
            · refine ax_aloadn rfl rfl ?_
              refine ax_getR rfl fX7_26 rfl rfl ?_
              refine ax_callV (as := []) rfl vX7_151 hX0_walls rfl rfl rfl rfl rfl (c_X0_walls E (d + 7) M) (av_Xk ?_)
              refine ax_callV (as := []) rfl vX7_154 hX6_size rfl rfl rfl rfl rfl (c_X6_size E (d + 7) M) (av_Xk ?_)
              refine ax_bipush rfl rfl ?_
              refine ax_icmp_lt rfl (by omega) (by omega) (fun h68 => ?_) (fun h68 => ?_)
              · refine ax_aloadn rfl rfl ?_
                refine ax_getR rfl fX7_33 rfl rfl ?_
                refine ax_callV (as := []) rfl vX7_47 hX1_forget rfl rfl rfl rfl rfl (c_X1_forget E (d + 7) M) (fun r78 M78 hr78 => ?_)
                obtain ⟨rfl, e1, e2, e3⟩ := hr78
                have hB78 : BI M78 := BI_congr hC.2.2.1 (fun k a b => e3 k (by omega))
                refine ax_aloadn rfl rfl ?_
                refine ax_getR rfl fX7_26 rfl rfl ?_
                refine ax_iloadn rfl rfl ?_
                refine ax_iloadn rfl rfl ?_
                refine ax_iloadn rfl rfl ?_
                refine ax_iload rfl rfl ?_
                refine ax_callV (as := [_, _, _, _]) rfl vX7_157 hX0_build rfl rfl rfl rfl rfl (c_X0_build E (d + 3) M78 a b c e hB78 (by rw [e3 13 (by decide)]; omega) (by omega) (by omega) (by omega) (by omega) (by omega)) (fun r90 M90 hr90 => ?_)
                obtain ⟨rfl, g2, g3, g4⟩ := hr90
                refine ax_iret rfl rfl ?_
                have ek : ∀ k, k < 12 → M90 k = M k := fun k a => by rw [g4 k (Or.inl a), e3 k (by omega)]
                have h33 : M90 33 1 = 0 := by rw [g4 33 (Or.inr (by decide))]; exact e1
                obtain ⟨c1, c2, c3⟩ := CI_wall hC g2 ek h33
                have f13 : M78 13 = M 13 := e3 13 (by decide)
                have f14 : M78 14 = M 14 := e3 14 (by decide)
                have f15 : M78 15 = M 15 := e3 15 (by decide)
                have f16 : M78 16 = M 16 := e3 16 (by decide)
                have f17 : M78 17 = M 17 := e3 17 (by decide)
                unfold WA at g3 ⊢
                rw [f13, f14, f15, f16, f17] at g3
                rw [f13]
                exact Or.inr (Or.inr ⟨by omega, by omega, rfl, g3, c1, c2, c3, fun k a => by rw [g4 k (Or.inr (by omega)), e3 k (by omega)]⟩)
              · refine ax_ldc (z := (-900000004)) rfl kX7_46 rfl ?_
                refine ax_iret rfl rfl ?_
                exact Or.inr (Or.inl ⟨by omega, by omega, rfl, rfl⟩)
            · refine ax_ldc (z := (-900000002)) rfl kX7_41 rfl ?_
              refine ax_iret rfl rfl ?_
              exact Or.inl ⟨by omega, rfl, rfl⟩
          · refine ax_iloadn rfl rfl ?_
            refine ax_if_ne rfl (by omega) (fun h38 => ?_) (fun h38 => ?_)
            · refine ax_iload rfl rfl ?_
              refine ax_callS (as := [_]) rfl sX7_148 hX7_isFar rfl rfl rfl rfl (c_X7_isFar E (d + 6) M e (by omega)) (av_Xk ?_)
              refine ax_if_ne rfl (by omega) (fun h50 => ?_) (fun h50 => ?_)
              · refine ax_aloadn rfl rfl ?_
                refine ax_getR rfl fX7_26 rfl rfl ?_
                refine ax_callV (as := []) rfl vX7_151 hX0_walls rfl rfl rfl rfl rfl (c_X0_walls E (d + 7) M) (av_Xk ?_)
                refine ax_callV (as := []) rfl vX7_154 hX6_size rfl rfl rfl rfl rfl (c_X6_size E (d + 7) M) (av_Xk ?_)
                refine ax_bipush rfl rfl ?_
                refine ax_icmp_lt rfl (by omega) (by omega) (fun h68 => ?_) (fun h68 => ?_)
                · refine ax_aloadn rfl rfl ?_
                  refine ax_getR rfl fX7_33 rfl rfl ?_
                  refine ax_callV (as := []) rfl vX7_47 hX1_forget rfl rfl rfl rfl rfl (c_X1_forget E (d + 7) M) (fun r78 M78 hr78 => ?_)
                  obtain ⟨rfl, e1, e2, e3⟩ := hr78
                  have hB78 : BI M78 := BI_congr hC.2.2.1 (fun k a b => e3 k (by omega))
                  refine ax_aloadn rfl rfl ?_
                  refine ax_getR rfl fX7_26 rfl rfl ?_
                  refine ax_iloadn rfl rfl ?_
                  refine ax_iloadn rfl rfl ?_
                  refine ax_iloadn rfl rfl ?_
                  refine ax_iload rfl rfl ?_
                  refine ax_callV (as := [_, _, _, _]) rfl vX7_157 hX0_build rfl rfl rfl rfl rfl (c_X0_build E (d + 3) M78 a b c e hB78 (by rw [e3 13 (by decide)]; omega) (by omega) (by omega) (by omega) (by omega) (by omega)) (fun r90 M90 hr90 => ?_)
                  obtain ⟨rfl, g2, g3, g4⟩ := hr90
                  refine ax_iret rfl rfl ?_
                  have ek : ∀ k, k < 12 → M90 k = M k := fun k a => by rw [g4 k (Or.inl a), e3 k (by omega)]
                  have h33 : M90 33 1 = 0 := by rw [g4 33 (Or.inr (by decide))]; exact e1
                  obtain ⟨c1, c2, c3⟩ := CI_wall hC g2 ek h33
                  have f13 : M78 13 = M 13 := e3 13 (by decide)
                  have f14 : M78 14 = M 14 := e3 14 (by decide)
                  have f15 : M78 15 = M 15 := e3 15 (by decide)
                  have f16 : M78 16 = M 16 := e3 16 (by decide)
                  have f17 : M78 17 = M 17 := e3 17 (by decide)
                  unfold WA at g3 ⊢
                  rw [f13, f14, f15, f16, f17] at g3
                  rw [f13]
                  exact Or.inr (Or.inr ⟨by omega, by omega, rfl, g3, c1, c2, c3, fun k a => by rw [g4 k (Or.inr (by omega)), e3 k (by omega)]⟩)
                · refine ax_ldc (z := (-900000004)) rfl kX7_46 rfl ?_
                  refine ax_iret rfl rfl ?_
                  exact Or.inr (Or.inl ⟨by omega, by omega, rfl, rfl⟩)
              · refine ax_ldc (z := (-900000002)) rfl kX7_41 rfl ?_
                refine ax_iret rfl rfl ?_
                exact Or.inl ⟨by omega, rfl, rfl⟩
            · refine ax_iloadn rfl rfl ?_
              refine ax_if_eq rfl (by omega) (fun h42 => ?_) (fun h42 => ?_)
              · refine ax_ldc (z := (-900000002)) rfl kX7_41 rfl ?_
                refine ax_iret rfl rfl ?_
                exact Or.inl ⟨by omega, rfl, rfl⟩
              · refine ax_iload rfl rfl ?_
                refine ax_callS (as := [_]) rfl sX7_148 hX7_isFar rfl rfl rfl rfl (c_X7_isFar E (d + 6) M e (by omega)) (av_Xk ?_)
                refine ax_if_ne rfl (by omega) (fun h50 => ?_) (fun h50 => ?_)
                · refine ax_aloadn rfl rfl ?_
                  refine ax_getR rfl fX7_26 rfl rfl ?_
                  refine ax_callV (as := []) rfl vX7_151 hX0_walls rfl rfl rfl rfl rfl (c_X0_walls E (d + 7) M) (av_Xk ?_)
                  refine ax_callV (as := []) rfl vX7_154 hX6_size rfl rfl rfl rfl rfl (c_X6_size E (d + 7) M) (av_Xk ?_)
                  refine ax_bipush rfl rfl ?_
                  refine ax_icmp_lt rfl (by omega) (by omega) (fun h68 => ?_) (fun h68 => ?_)
                  · refine ax_aloadn rfl rfl ?_
                    refine ax_getR rfl fX7_33 rfl rfl ?_
                    refine ax_callV (as := []) rfl vX7_47 hX1_forget rfl rfl rfl rfl rfl (c_X1_forget E (d + 7) M) (fun r78 M78 hr78 => ?_)
                    obtain ⟨rfl, e1, e2, e3⟩ := hr78
                    have hB78 : BI M78 := BI_congr hC.2.2.1 (fun k a b => e3 k (by omega))
                    refine ax_aloadn rfl rfl ?_
                    refine ax_getR rfl fX7_26 rfl rfl ?_
                    refine ax_iloadn rfl rfl ?_
                    refine ax_iloadn rfl rfl ?_
                    refine ax_iloadn rfl rfl ?_
                    refine ax_iload rfl rfl ?_
                    refine ax_callV (as := [_, _, _, _]) rfl vX7_157 hX0_build rfl rfl rfl rfl rfl (c_X0_build E (d + 3) M78 a b c e hB78 (by rw [e3 13 (by decide)]; omega) (by omega) (by omega) (by omega) (by omega) (by omega)) (fun r90 M90 hr90 => ?_)
                    obtain ⟨rfl, g2, g3, g4⟩ := hr90
                    refine ax_iret rfl rfl ?_
                    have ek : ∀ k, k < 12 → M90 k = M k := fun k a => by rw [g4 k (Or.inl a), e3 k (by omega)]
                    have h33 : M90 33 1 = 0 := by rw [g4 33 (Or.inr (by decide))]; exact e1
                    obtain ⟨c1, c2, c3⟩ := CI_wall hC g2 ek h33
                    have f13 : M78 13 = M 13 := e3 13 (by decide)
                    have f14 : M78 14 = M 14 := e3 14 (by decide)
                    have f15 : M78 15 = M 15 := e3 15 (by decide)
                    have f16 : M78 16 = M 16 := e3 16 (by decide)
                    have f17 : M78 17 = M 17 := e3 17 (by decide)
                    unfold WA at g3 ⊢
                    rw [f13, f14, f15, f16, f17] at g3
                    rw [f13]
                    exact Or.inr (Or.inr ⟨by omega, by omega, rfl, g3, c1, c2, c3, fun k a => by rw [g4 k (Or.inr (by omega)), e3 k (by omega)]⟩)
                  · refine ax_ldc (z := (-900000004)) rfl kX7_46 rfl ?_
                    refine ax_iret rfl rfl ?_
                    exact Or.inr (Or.inl ⟨by omega, by omega, rfl, rfl⟩)
                · refine ax_ldc (z := (-900000002)) rfl kX7_41 rfl ?_
                  refine ax_iret rfl rfl ?_
                  exact Or.inl ⟨by omega, rfl, rfl⟩
      · refine ax_iconst rfl ?_
        refine ax_goto rfl ?_
        refine ax_istore (ls' := [(0, _), (1, _), (2, _), (3, _), (4, _), (5, _)]) rfl rfl rfl ?_
        refine ax_iload rfl rfl ?_
        refine ax_if_eq rfl (by omega) (fun h30 => ?_) (fun h30 => ?_)
        · refine ax_ldc (z := (-900000002)) rfl kX7_41 rfl ?_
          refine ax_iret rfl rfl ?_
          exact Or.inl ⟨by omega, rfl, rfl⟩
        · refine ax_iloadn rfl rfl ?_
          refine ax_if_ne rfl (by omega) (fun h34 => ?_) (fun h34 => ?_)
          · refine ax_iload rfl rfl ?_
            refine ax_callS (as := [_]) rfl sX7_148 hX7_isFar rfl rfl rfl rfl (c_X7_isFar E (d + 6) M e (by omega)) (av_Xk ?_)
            refine ax_if_ne rfl (by omega) (fun h50 => ?_) (fun h50 => ?_)
            · refine ax_aloadn rfl rfl ?_
              refine ax_getR rfl fX7_26 rfl rfl ?_
              refine ax_callV (as := []) rfl vX7_151 hX0_walls rfl rfl rfl rfl rfl (c_X0_walls E (d + 7) M) (av_Xk ?_)
              refine ax_callV (as := []) rfl vX7_154 hX6_size rfl rfl rfl rfl rfl (c_X6_size E (d + 7) M) (av_Xk ?_)
              refine ax_bipush rfl rfl ?_
              refine ax_icmp_lt rfl (by omega) (by omega) (fun h68 => ?_) (fun h68 => ?_)
              · refine ax_aloadn rfl rfl ?_
                refine ax_getR rfl fX7_33 rfl rfl ?_
                refine ax_callV (as := []) rfl vX7_47 hX1_forget rfl rfl rfl rfl rfl (c_X1_forget E (d + 7) M) (fun r78 M78 hr78 => ?_)
                obtain ⟨rfl, e1, e2, e3⟩ := hr78
                have hB78 : BI M78 := BI_congr hC.2.2.1 (fun k a b => e3 k (by omega))
                refine ax_aloadn rfl rfl ?_
                refine ax_getR rfl fX7_26 rfl rfl ?_
                refine ax_iloadn rfl rfl ?_
                refine ax_iloadn rfl rfl ?_
                refine ax_iloadn rfl rfl ?_
                refine ax_iload rfl rfl ?_
                refine ax_callV (as := [_, _, _, _]) rfl vX7_157 hX0_build rfl rfl rfl rfl rfl (c_X0_build E (d + 3) M78 a b c e hB78 (by rw [e3 13 (by decide)]; omega) (by omega) (by omega) (by omega) (by omega) (by omega)) (fun r90 M90 hr90 => ?_)
                obtain ⟨rfl, g2, g3, g4⟩ := hr90
                refine ax_iret rfl rfl ?_
                have ek : ∀ k, k < 12 → M90 k = M k := fun k a => by rw [g4 k (Or.inl a), e3 k (by omega)]
                have h33 : M90 33 1 = 0 := by rw [g4 33 (Or.inr (by decide))]; exact e1
                obtain ⟨c1, c2, c3⟩ := CI_wall hC g2 ek h33
                have f13 : M78 13 = M 13 := e3 13 (by decide)
                have f14 : M78 14 = M 14 := e3 14 (by decide)
                have f15 : M78 15 = M 15 := e3 15 (by decide)
                have f16 : M78 16 = M 16 := e3 16 (by decide)
                have f17 : M78 17 = M 17 := e3 17 (by decide)
                unfold WA at g3 ⊢
                rw [f13, f14, f15, f16, f17] at g3
                rw [f13]
                exact Or.inr (Or.inr ⟨by omega, by omega, rfl, g3, c1, c2, c3, fun k a => by rw [g4 k (Or.inr (by omega)), e3 k (by omega)]⟩)
              · refine ax_ldc (z := (-900000004)) rfl kX7_46 rfl ?_
                refine ax_iret rfl rfl ?_
                exact Or.inr (Or.inl ⟨by omega, by omega, rfl, rfl⟩)
            · refine ax_ldc (z := (-900000002)) rfl kX7_41 rfl ?_
              refine ax_iret rfl rfl ?_
              exact Or.inl ⟨by omega, rfl, rfl⟩
          · refine ax_iloadn rfl rfl ?_
            refine ax_if_ne rfl (by omega) (fun h38 => ?_) (fun h38 => ?_)
            · refine ax_iload rfl rfl ?_
              refine ax_callS (as := [_]) rfl sX7_148 hX7_isFar rfl rfl rfl rfl (c_X7_isFar E (d + 6) M e (by omega)) (av_Xk ?_)
              refine ax_if_ne rfl (by omega) (fun h50 => ?_) (fun h50 => ?_)
              · refine ax_aloadn rfl rfl ?_
                refine ax_getR rfl fX7_26 rfl rfl ?_
                refine ax_callV (as := []) rfl vX7_151 hX0_walls rfl rfl rfl rfl rfl (c_X0_walls E (d + 7) M) (av_Xk ?_)
                refine ax_callV (as := []) rfl vX7_154 hX6_size rfl rfl rfl rfl rfl (c_X6_size E (d + 7) M) (av_Xk ?_)
                refine ax_bipush rfl rfl ?_
                refine ax_icmp_lt rfl (by omega) (by omega) (fun h68 => ?_) (fun h68 => ?_)
                · refine ax_aloadn rfl rfl ?_
                  refine ax_getR rfl fX7_33 rfl rfl ?_
                  refine ax_callV (as := []) rfl vX7_47 hX1_forget rfl rfl rfl rfl rfl (c_X1_forget E (d + 7) M) (fun r78 M78 hr78 => ?_)
                  obtain ⟨rfl, e1, e2, e3⟩ := hr78
                  have hB78 : BI M78 := BI_congr hC.2.2.1 (fun k a b => e3 k (by omega))
                  refine ax_aloadn rfl rfl ?_
                  refine ax_getR rfl fX7_26 rfl rfl ?_
                  refine ax_iloadn rfl rfl ?_
                  refine ax_iloadn rfl rfl ?_
                  refine ax_iloadn rfl rfl ?_
                  refine ax_iload rfl rfl ?_
                  refine ax_callV (as := [_, _, _, _]) rfl vX7_157 hX0_build rfl rfl rfl rfl rfl (c_X0_build E (d + 3) M78 a b c e hB78 (by rw [e3 13 (by decide)]; omega) (by omega) (by omega) (by omega) (by omega) (by omega)) (fun r90 M90 hr90 => ?_)
                  obtain ⟨rfl, g2, g3, g4⟩ := hr90
                  refine ax_iret rfl rfl ?_
                  have ek : ∀ k, k < 12 → M90 k = M k := fun k a => by rw [g4 k (Or.inl a), e3 k (by omega)]
                  have h33 : M90 33 1 = 0 := by rw [g4 33 (Or.inr (by decide))]; exact e1
                  obtain ⟨c1, c2, c3⟩ := CI_wall hC g2 ek h33
                  have f13 : M78 13 = M 13 := e3 13 (by decide)
                  have f14 : M78 14 = M 14 := e3 14 (by decide)
                  have f15 : M78 15 = M 15 := e3 15 (by decide)
                  have f16 : M78 16 = M 16 := e3 16 (by decide)
                  have f17 : M78 17 = M 17 := e3 17 (by decide)
                  unfold WA at g3 ⊢
                  rw [f13, f14, f15, f16, f17] at g3
                  rw [f13]
                  exact Or.inr (Or.inr ⟨by omega, by omega, rfl, g3, c1, c2, c3, fun k a => by rw [g4 k (Or.inr (by omega)), e3 k (by omega)]⟩)
                · refine ax_ldc (z := (-900000004)) rfl kX7_46 rfl ?_
                  refine ax_iret rfl rfl ?_
                  exact Or.inr (Or.inl ⟨by omega, by omega, rfl, rfl⟩)
              · refine ax_ldc (z := (-900000002)) rfl kX7_41 rfl ?_
                refine ax_iret rfl rfl ?_
                exact Or.inl ⟨by omega, rfl, rfl⟩
            · refine ax_iloadn rfl rfl ?_
              refine ax_if_eq rfl (by omega) (fun h42 => ?_) (fun h42 => ?_)
              · refine ax_ldc (z := (-900000002)) rfl kX7_41 rfl ?_
                refine ax_iret rfl rfl ?_
                exact Or.inl ⟨by omega, rfl, rfl⟩
              · refine ax_iload rfl rfl ?_
                refine ax_callS (as := [_]) rfl sX7_148 hX7_isFar rfl rfl rfl rfl (c_X7_isFar E (d + 6) M e (by omega)) (av_Xk ?_)
                refine ax_if_ne rfl (by omega) (fun h50 => ?_) (fun h50 => ?_)
                · refine ax_aloadn rfl rfl ?_
                  refine ax_getR rfl fX7_26 rfl rfl ?_
                  refine ax_callV (as := []) rfl vX7_151 hX0_walls rfl rfl rfl rfl rfl (c_X0_walls E (d + 7) M) (av_Xk ?_)
                  refine ax_callV (as := []) rfl vX7_154 hX6_size rfl rfl rfl rfl rfl (c_X6_size E (d + 7) M) (av_Xk ?_)
                  refine ax_bipush rfl rfl ?_
                  refine ax_icmp_lt rfl (by omega) (by omega) (fun h68 => ?_) (fun h68 => ?_)
                  · refine ax_aloadn rfl rfl ?_
                    refine ax_getR rfl fX7_33 rfl rfl ?_
                    refine ax_callV (as := []) rfl vX7_47 hX1_forget rfl rfl rfl rfl rfl (c_X1_forget E (d + 7) M) (fun r78 M78 hr78 => ?_)
                    obtain ⟨rfl, e1, e2, e3⟩ := hr78
                    have hB78 : BI M78 := BI_congr hC.2.2.1 (fun k a b => e3 k (by omega))
                    refine ax_aloadn rfl rfl ?_
                    refine ax_getR rfl fX7_26 rfl rfl ?_
                    refine ax_iloadn rfl rfl ?_
                    refine ax_iloadn rfl rfl ?_
                    refine ax_iloadn rfl rfl ?_
                    refine ax_iload rfl rfl ?_
                    refine ax_callV (as := [_, _, _, _]) rfl vX7_157 hX0_build rfl rfl rfl rfl rfl (c_X0_build E (d + 3) M78 a b c e hB78 (by rw [e3 13 (by decide)]; omega) (by omega) (by omega) (by omega) (by omega) (by omega)) (fun r90 M90 hr90 => ?_)
                    obtain ⟨rfl, g2, g3, g4⟩ := hr90
                    refine ax_iret rfl rfl ?_
                    have ek : ∀ k, k < 12 → M90 k = M k := fun k a => by rw [g4 k (Or.inl a), e3 k (by omega)]
                    have h33 : M90 33 1 = 0 := by rw [g4 33 (Or.inr (by decide))]; exact e1
                    obtain ⟨c1, c2, c3⟩ := CI_wall hC g2 ek h33
                    have f13 : M78 13 = M 13 := e3 13 (by decide)
                    have f14 : M78 14 = M 14 := e3 14 (by decide)
                    have f15 : M78 15 = M 15 := e3 15 (by decide)
                    have f16 : M78 16 = M 16 := e3 16 (by decide)
                    have f17 : M78 17 = M 17 := e3 17 (by decide)
                    unfold WA at g3 ⊢
                    rw [f13, f14, f15, f16, f17] at g3
                    rw [f13]
                    exact Or.inr (Or.inr ⟨by omega, by omega, rfl, g3, c1, c2, c3, fun k a => by rw [g4 k (Or.inr (by omega)), e3 k (by omega)]⟩)
                  · refine ax_ldc (z := (-900000004)) rfl kX7_46 rfl ?_
                    refine ax_iret rfl rfl ?_
                    exact Or.inr (Or.inl ⟨by omega, by omega, rfl, rfl⟩)
                · refine ax_ldc (z := (-900000002)) rfl kX7_41 rfl ?_
                  refine ax_iret rfl rfl ?_
                  exact Or.inl ⟨by omega, rfl, rfl⟩
set_option maxRecDepth 100000 in
set_option maxHeartbeats 800000 in
theorem c_X7_shift (E : av_E) (d : Nat) (M : av_M) (hC : CI M) (w v : Int) (hiw : -2147483648 ≤ w ∧ w < 2147483648) (hiv : -2147483648 ≤ v ∧ v < 2147483648) : av_Mt E (d + 8) mX7_shift [vR 0, vI w, vI v] M (fun res M' => (¬ (0 ≤ w ∧ w < M 13 4) ∧ res = some (vI (-900000001)) ∧ M' = M) ∨ ((0 ≤ w ∧ w < M 13 4) ∧ ¬ (-99 ≤ v ∧ v ≤ 99) ∧ res = some (vI (-900000002)) ∧ M' = M) ∨ ((0 ≤ w ∧ w < M 13 4) ∧ (-99 ≤ v ∧ v ≤ 99) ∧ res = some (vI (M 17 w)) ∧ WP M M' w v ∧ CI M' ∧ KP M M' ∧ KT M M' ∧ KR M M')) := by
  have hb := CI_b hC
  have hc0 := b01_c (0 ≤ w ∧ w < M 13 4)
  have hc1 := b01_c (-99 ≤ v ∧ v ≤ 99)
  refine av_enter hX7_shift oX7_shift rfl rfl ?_
  refine ax_aloadn rfl rfl ?_
  refine ax_getR rfl fX7_26 rfl rfl ?_
  refine ax_callV (as := []) rfl vX7_151 hX0_walls rfl rfl rfl rfl rfl (c_X0_walls E (d + 7) M) (av_Xk ?_)
  refine ax_iloadn rfl rfl ?_
  refine ax_callV (as := [_]) rfl vX7_161 hX6_has rfl rfl rfl rfl rfl (c_X6_has E (d + 7) M w (by omega) (by omega)) (av_Xk ?_)
  refine ax_if_ne rfl (by omega) (fun h11 => ?_) (fun h11 => ?_)
  · refine ax_iloadn rfl rfl ?_
    refine ax_callS (as := [_]) rfl sX7_148 hX7_isFar rfl rfl rfl rfl (c_X7_isFar E (d + 6) M v (by omega)) (av_Xk ?_)
    refine ax_if_ne rfl (by omega) (fun h21 => ?_) (fun h21 => ?_)
    · refine ax_aloadn rfl rfl ?_
      refine ax_getR rfl fX7_33 rfl rfl ?_
      refine ax_callV (as := []) rfl vX7_47 hX1_forget rfl rfl rfl rfl rfl (c_X1_forget E (d + 7) M) (fun r31 M31 hr31 => ?_)
      obtain ⟨rfl, e1, e2, e3⟩ := hr31
      have hB31 : BI M31 := BI_congr hC.2.2.1 (fun k a b => e3 k (by omega))
      refine ax_aloadn rfl rfl ?_
      refine ax_getR rfl fX7_26 rfl rfl ?_
      refine ax_iloadn rfl rfl ?_
      refine ax_iloadn rfl rfl ?_
      refine ax_callV (as := [_, _]) rfl vX7_162 hX0_push rfl rfl rfl rfl rfl (c_X0_push E (d + 3) M31 w v hB31 (by rw [e3 13 (by decide)]; omega) (by omega)) (fun r40 M40 hr40 => ?_)
      obtain ⟨rfl, g2, g3, g4⟩ := hr40
      refine ax_iret rfl rfl ?_
      have ek : ∀ k, k < 12 → M40 k = M k := fun k a => by rw [g4 k (Or.inl a), e3 k (by omega)]
      have h33 : M40 33 1 = 0 := by rw [g4 33 (Or.inr (by decide))]; exact e1
      obtain ⟨c1, c2, c3⟩ := CI_wall hC g2 ek h33
      have f13 : M31 13 = M 13 := e3 13 (by decide)
      have f14 : M31 14 = M 14 := e3 14 (by decide)
      have f15 : M31 15 = M 15 := e3 15 (by decide)
      have f16 : M31 16 = M 16 := e3 16 (by decide)
      have f17 : M31 17 = M 17 := e3 17 (by decide)
      unfold WP at g3 ⊢
      rw [f13, f14, f15, f16, f17] at g3
      rw [f17]
      exact Or.inr (Or.inr ⟨by omega, by omega, rfl, g3, c1, c2, c3, fun k a => by rw [g4 k (Or.inr (by omega)), e3 k (by omega)]⟩)
    · refine ax_ldc (z := (-900000002)) rfl kX7_41 rfl ?_
      refine ax_iret rfl rfl ?_
      exact Or.inr (Or.inl ⟨by omega, by omega, rfl, rfl⟩)
  · refine ax_ldc (z := (-900000001)) rfl kX7_54 rfl ?_
    refine ax_iret rfl rfl ?_
    exact Or.inl ⟨by omega, rfl, rfl⟩
set_option maxRecDepth 100000 in
set_option maxHeartbeats 800000 in
theorem c_X7_on (E : av_E) (d : Nat) (M : av_M) (hC : CI M) (w t : Int) (hiw : -2147483648 ≤ w ∧ w < 2147483648) (ht : t = 0 ∨ t = 1) : av_Mt E (d + 8) mX7_on [vR 0, vI w, vI t] M (fun res M' => (¬ (0 ≤ w ∧ w < M 13 4) ∧ res = some (vI (-900000001)) ∧ M' = M) ∨ ((0 ≤ w ∧ w < M 13 4) ∧ res = some (vI (b01 ((M 13 5).toNat.testBit w.toNat = true))) ∧ WT M M' w t ∧ CI M' ∧ KP M M' ∧ KT M M' ∧ KR M M')) := by
  have hb := CI_b hC
  have hc0 := b01_c (0 ≤ w ∧ w < M 13 4)
  refine av_enter hX7_on oX7_on rfl rfl ?_
  refine ax_aloadn rfl rfl ?_
  refine ax_getR rfl fX7_26 rfl rfl ?_
  refine ax_callV (as := []) rfl vX7_151 hX0_walls rfl rfl rfl rfl rfl (c_X0_walls E (d + 7) M) (av_Xk ?_)
  refine ax_iloadn rfl rfl ?_
  refine ax_callV (as := [_]) rfl vX7_161 hX6_has rfl rfl rfl rfl rfl (c_X6_has E (d + 7) M w (by omega) (by omega)) (av_Xk ?_)
  refine ax_if_ne rfl (by omega) (fun h11 => ?_) (fun h11 => ?_)
  · refine ax_aloadn rfl rfl ?_
    refine ax_getR rfl fX7_33 rfl rfl ?_
    refine ax_callV (as := []) rfl vX7_47 hX1_forget rfl rfl rfl rfl rfl (c_X1_forget E (d + 7) M) (fun r21 M21 hr21 => ?_)
    obtain ⟨rfl, e1, e2, e3⟩ := hr21
    have hB21 : BI M21 := BI_congr hC.2.2.1 (fun k a b => e3 k (by omega))
    refine ax_aloadn rfl rfl ?_
    refine ax_getR rfl fX7_26 rfl rfl ?_
    refine ax_iloadn rfl rfl ?_
    refine ax_iloadn rfl rfl ?_
    refine ax_callV (as := [_, _]) rfl vX7_165 hX0_turn rfl rfl rfl rfl rfl (c_X0_turn E (d + 3) M21 w t hB21 ht (by rw [e3 13 (by decide)]; omega)) (fun r30 M30 hr30 => ?_)
    obtain ⟨rfl, g2, g3, g4⟩ := hr30
    refine ax_iret rfl rfl ?_
    have ek : ∀ k, k < 12 → M30 k = M k := fun k a => by rw [g4 k (Or.inl a), e3 k (by omega)]
    have h33 : M30 33 1 = 0 := by rw [g4 33 (Or.inr (by decide))]; exact e1
    obtain ⟨c1, c2, c3⟩ := CI_wall hC g2 ek h33
    have f13 : M21 13 = M 13 := e3 13 (by decide)
    have f14 : M21 14 = M 14 := e3 14 (by decide)
    have f15 : M21 15 = M 15 := e3 15 (by decide)
    have f16 : M21 16 = M 16 := e3 16 (by decide)
    have f17 : M21 17 = M 17 := e3 17 (by decide)
    unfold WT at g3 ⊢
    rw [f13, f14, f15, f16, f17] at g3
    rw [f13]
    exact Or.inr ⟨by omega, rfl, g3, c1, c2, c3, fun k a => by rw [g4 k (Or.inr (by omega)), e3 k (by omega)]⟩
  · refine ax_ldc (z := (-900000001)) rfl kX7_54 rfl ?_
    refine ax_iret rfl rfl ?_
    exact Or.inl ⟨by omega, rfl, rfl⟩
theorem CI_cho {M M' : av_M} (h : CI M) {c : Int} (hc : CHW M c) (h1 : M' 33 1 = 1) (h2 : M' 33 2 = c) (e : ∀ k, k ≠ 33 → k ≠ 34 → M' k = M k) : CI M' ∧ KP M M' ∧ KT M M' ∧ KW M M' ∧ KR M M' := by
  refine ⟨⟨PTm_congr h.1 (fun k a b => e k (by omega) (by omega)), TBm_congr h.2.1 (fun k a b => e k (by omega) (by omega)), BI_congr h.2.2.1 (fun k a b => e k (by omega) (by omega)), Or.inr ⟨h1, by rw [h2]; exact (CHW_congr e c).mpr hc⟩⟩, ?_, ?_, fun k a b => e k (by omega) (by omega), fun k a => e k (by omega) (by omega)⟩
  · unfold KP
    rw [e 1 (by decide) (by decide), e 2 (by decide) (by decide), e 3 (by decide) (by decide)]
    exact ⟨rfl, rfl, rfl⟩
  · unfold KT
    rw [e 9 (by decide) (by decide), e 10 (by decide) (by decide), e 11 (by decide) (by decide)]
    exact ⟨rfl, rfl, rfl, rfl⟩
set_option maxRecDepth 100000 in
set_option maxHeartbeats 800000 in
theorem c_X7_fewest (E : av_E) (d : Nat) (M : av_M) (hC : CI M) : av_Mt E (d + 8) mX7_fewest [vR 0] M (fun res M' => (∃ c, CHW M c ∧ res = some (vI (if c = 0 then (-900000009) else pcI c))) ∧ CI M' ∧ KP M M' ∧ KT M M' ∧ KW M M' ∧ KR M M') := by
  refine av_enter hX7_fewest oX7_fewest rfl rfl ?_
  refine ax_aloadn rfl rfl ?_
  refine ax_getR rfl fX7_33 rfl rfl ?_
  refine ax_aloadn rfl rfl ?_
  refine ax_getR rfl fX7_10 rfl rfl ?_
  refine ax_aloadn rfl rfl ?_
  refine ax_getR rfl fX7_26 rfl rfl ?_
  refine ax_callV (as := [_, _]) rfl vX7_130 hX1_walls rfl rfl rfl rfl rfl (c_X1_walls E (d + 1) M hC) (fun r12 M12 hr12 => ?_)
  obtain ⟨⟨c, rfl, hc, h2⟩, h1, hf⟩ := hr12
  have hcr := CHW_rng hc
  have pr := pcI_rng (x := c)
  obtain ⟨k1, k2, k3, k4, k5⟩ := CI_cho hC hc h1 h2 hf
  refine ax_istoren (ls' := [(0, _), (1, _)]) rfl rfl rfl ?_
  refine ax_iloadn rfl rfl ?_
  refine ax_if_ne rfl (by omega) (fun h17 => ?_) (fun h17 => ?_)
  · refine ax_iloadn rfl rfl ?_
    refine ax_callS (as := [_]) rfl sX7_134 hJ6_bitCount_0f7a4 rfl rfl rfl rfl (c_J_bitCount E (d + 7) M12 c hcr) (av_Xk ?_)
    refine ax_iret rfl rfl ?_
    first
      | exact ⟨⟨c, hc, by rw [if_pos (by omega)]⟩, k1, k2, k3, k4, k5⟩
      | exact ⟨⟨c, hc, by rw [if_neg (by omega)]⟩, k1, k2, k3, k4, k5⟩
  · refine ax_ldc (z := (-900000009)) rfl kX7_123 rfl ?_
    refine ax_goto rfl ?_
    refine ax_iret rfl rfl ?_
    first
      | exact ⟨⟨c, hc, by rw [if_pos (by omega)]⟩, k1, k2, k3, k4, k5⟩
      | exact ⟨⟨c, hc, by rw [if_neg (by omega)]⟩, k1, k2, k3, k4, k5⟩
set_option maxRecDepth 100000 in
set_option maxHeartbeats 800000 in
theorem c_X7_high (E : av_E) (d : Nat) (M : av_M) (hC : CI M) : av_Mt E (d + 8) mX7_high [vR 0] M (fun res M' => ((M 4 5 < 3 ∧ res = some (vI (-900000003)) ∧ M' = M) ∨ (¬ M 4 5 < 3 ∧ ∃ r c, FWm M r ∧ CHW M c ∧ res = some (vI (if c = 0 then (if r = -900000009 then min (M 4 5) (M 9 2) else M 4 5) else min (if r = -900000009 then min (M 4 5) (M 9 2) else M 4 5) (pcI c))) ∧ CI M' ∧ KP M M' ∧ KT M M' ∧ KW M M' ∧ KR M M'))) := by
  have hb := CI_b hC
  have hc0 := b01_c (M 4 5 < 3)
  have htb := hC.2.1
  refine av_enter hX7_high oX7_high rfl rfl ?_
  refine ax_aloadn rfl rfl ?_
  refine ax_getR rfl fX7_10 rfl rfl ?_
  refine ax_callV (as := []) rfl vX7_80 hX2_isFlat rfl rfl rfl rfl rfl (c_X2_isFlat E (d + 6) M (by omega)) (av_Xk ?_)
  refine ax_if_eq rfl (by omega) (fun h7 => ?_) (fun h7 => ?_)
  · refine ax_aloadn rfl rfl ?_
    refine ax_getR rfl fX7_10 rfl rfl ?_
    refine ax_callV (as := []) rfl vX7_62 hX2_hull rfl rfl rfl rfl rfl (c_X2_hull E (d + 7) M) (av_Xk ?_)
    refine ax_callV (as := []) rfl vX7_66 hX4_size rfl rfl rfl rfl rfl (c_H_size E (d + 7) M) (av_Xk ?_)
    refine ax_istoren (ls' := [(0, _), (1, _)]) rfl rfl rfl ?_
    refine ax_aloadn rfl rfl ?_
    refine ax_getR rfl fX7_19 rfl rfl ?_
    refine ax_aloadn rfl rfl ?_
    refine ax_getR rfl fX7_10 rfl rfl ?_
    refine ax_callV (as := [_]) rfl vX7_119 hX5_firstWrong rfl rfl rfl rfl rfl (c_X5_firstWrong E (d + 3) M _ hC.2.1 hC.1.2.2) (fun r32 M32 hr32 => ?_)
    obtain ⟨em, r, rfl, hr⟩ := hr32
    obtain rfl := em.symm
    have hrr := FW_rng (by omega) hr
    refine ax_ldc (z := (-900000009)) rfl kX7_123 rfl ?_
    refine ax_icmp_ne rfl (by omega) (by omega) (fun h37 => ?_) (fun h37 => ?_)
    · refine ax_aloadn rfl rfl ?_
      refine ax_getR rfl fX7_33 rfl rfl ?_
      refine ax_aloadn rfl rfl ?_
      refine ax_getR rfl fX7_10 rfl rfl ?_
      refine ax_aloadn rfl rfl ?_
      refine ax_getR rfl fX7_26 rfl rfl ?_
      refine ax_callV (as := [_, _]) rfl vX7_130 hX1_walls rfl rfl rfl rfl rfl (c_X1_walls E (d + 1) M hC) (fun r64 M64 hr64 => ?_)
      obtain ⟨⟨c, rfl, hc, h2⟩, h1, hf⟩ := hr64
      have hcr := CHW_rng hc
      have pr := pcI_rng (x := c)
      obtain ⟨k1, k2, k3, k4, k5⟩ := CI_cho hC hc h1 h2 hf
      refine ax_istoren (ls' := [(0, _), (1, _), (2, _)]) rfl rfl rfl ?_
      refine ax_iloadn rfl rfl ?_
      refine ax_if_ne rfl (by omega) (fun h69 => ?_) (fun h69 => ?_)
      · refine ax_iloadn rfl rfl ?_
        refine ax_iloadn rfl rfl ?_
        refine ax_callS (as := [_]) rfl sX7_134 hJ6_bitCount_0f7a4 rfl rfl rfl rfl (c_J_bitCount E (d + 7) M64 c hcr) (av_Xk ?_)
        refine ax_min rfl (av_in (by decide +kernel) rfl) rfl (by have := htb.1; omega) (by have := htb.1; omega) ?_
        refine ax_iret rfl rfl ?_
        refine Or.inr ⟨by omega, r, c, hr, hc, ?_, k1, k2, k3, k4, k5⟩
        first
          | rw [if_pos (show c = 0 by omega), if_pos (show r = -900000009 by omega)]
          | rw [if_pos (show c = 0 by omega), if_neg (show ¬ r = -900000009 by omega)]
          | rw [if_neg (show ¬ c = 0 by omega), if_pos (show r = -900000009 by omega)]
          | rw [if_neg (show ¬ c = 0 by omega), if_neg (show ¬ r = -900000009 by omega)]
      · refine ax_iloadn rfl rfl ?_
        refine ax_goto rfl ?_
        refine ax_iret rfl rfl ?_
        refine Or.inr ⟨by omega, r, c, hr, hc, ?_, k1, k2, k3, k4, k5⟩
        first
          | rw [if_pos (show c = 0 by omega), if_pos (show r = -900000009 by omega)]
          | rw [if_pos (show c = 0 by omega), if_neg (show ¬ r = -900000009 by omega)]
          | rw [if_neg (show ¬ c = 0 by omega), if_pos (show r = -900000009 by omega)]
          | rw [if_neg (show ¬ c = 0 by omega), if_neg (show ¬ r = -900000009 by omega)]
    · refine ax_iloadn rfl rfl ?_
      refine ax_aloadn rfl rfl ?_
      refine ax_getR rfl fX7_19 rfl rfl ?_
      refine ax_callV (as := []) rfl vX7_124 hX5_inner rfl rfl rfl rfl rfl (c_X5_inner E (d + 7) M) (av_Xk ?_)
      refine ax_min rfl (av_in (by decide +kernel) rfl) rfl (by have := htb.1; omega) (by have := htb.1; omega) ?_
      refine ax_istoren (ls' := [(0, _), (1, _)]) rfl rfl rfl ?_
      refine ax_aloadn rfl rfl ?_
      refine ax_getR rfl fX7_33 rfl rfl ?_
      refine ax_aloadn rfl rfl ?_
      refine ax_getR rfl fX7_10 rfl rfl ?_
      refine ax_aloadn rfl rfl ?_
      refine ax_getR rfl fX7_26 rfl rfl ?_
      refine ax_callV (as := [_, _]) rfl vX7_130 hX1_walls rfl rfl rfl rfl rfl (c_X1_walls E (d + 1) M hC) (fun r64 M64 hr64 => ?_)
      obtain ⟨⟨c, rfl, hc, h2⟩, h1, hf⟩ := hr64
      have hcr := CHW_rng hc
      have pr := pcI_rng (x := c)
      obtain ⟨k1, k2, k3, k4, k5⟩ := CI_cho hC hc h1 h2 hf
      refine ax_istoren (ls' := [(0, _), (1, _), (2, _)]) rfl rfl rfl ?_
      refine ax_iloadn rfl rfl ?_
      refine ax_if_ne rfl (by omega) (fun h69 => ?_) (fun h69 => ?_)
      · refine ax_iloadn rfl rfl ?_
        refine ax_iloadn rfl rfl ?_
        refine ax_callS (as := [_]) rfl sX7_134 hJ6_bitCount_0f7a4 rfl rfl rfl rfl (c_J_bitCount E (d + 7) M64 c hcr) (av_Xk ?_)
        refine ax_min rfl (av_in (by decide +kernel) rfl) rfl (by have := htb.1; omega) (by have := htb.1; omega) ?_
        refine ax_iret rfl rfl ?_
        refine Or.inr ⟨by omega, r, c, hr, hc, ?_, k1, k2, k3, k4, k5⟩
        first
          | rw [if_pos (show c = 0 by omega), if_pos (show r = -900000009 by omega)]
          | rw [if_pos (show c = 0 by omega), if_neg (show ¬ r = -900000009 by omega)]
          | rw [if_neg (show ¬ c = 0 by omega), if_pos (show r = -900000009 by omega)]
          | rw [if_neg (show ¬ c = 0 by omega), if_neg (show ¬ r = -900000009 by omega)]
      · refine ax_iloadn rfl rfl ?_
        refine ax_goto rfl ?_
        refine ax_iret rfl rfl ?_
        refine Or.inr ⟨by omega, r, c, hr, hc, ?_, k1, k2, k3, k4, k5⟩
        first
          | rw [if_pos (show c = 0 by omega), if_pos (show r = -900000009 by omega)]
          | rw [if_pos (show c = 0 by omega), if_neg (show ¬ r = -900000009 by omega)]
          | rw [if_neg (show ¬ c = 0 by omega), if_pos (show r = -900000009 by omega)]
          | rw [if_neg (show ¬ c = 0 by omega), if_neg (show ¬ r = -900000009 by omega)]
  · refine ax_ldc (z := (-900000003)) rfl kX7_84 rfl ?_
    refine ax_iret rfl rfl ?_
    exact Or.inl ⟨by omega, rfl, rfl⟩
/-- the i-th of the bits that are set -/
def NB (c i z : Int) : Prop := (0 ≤ z ∧ z < 10 ∧ c.toNat.testBit z.toNat = true ∧ i = ((popc c.toNat z.toNat : Nat) : Int)) ∨ (z = -900000009 ∧ ∀ j : Nat, j < 10 → c.toNat.testBit j = true → i ≠ ((popc c.toNat j : Nat) : Int))
set_option maxRecDepth 100000 in
set_option maxHeartbeats 800000 in
theorem l_X7_needed (E : av_E) (d : Nat) (M : av_M) (c i : Int) (hc : 0 ≤ c ∧ c < 1024) (hi : -2147483648 ≤ i ∧ i < 2147483648) : ∀ (t w : Nat), w + t = 10 → (∀ j : Nat, j < w → c.toNat.testBit j = true → i ≠ ((popc c.toNat j : Nat) : Int)) → av_S E d mX7_needed 21 [(0, vR 0), (1, vI i), (2, vI c), (3, vI ((popc c.toNat w : Nat) : Int)), (4, vI (w : Int))] [] M (fun res M' => (∃ z, res = some (vI z) ∧ NB c i z) ∧ M' = M) := by
  intro t
  induction t with
  | zero =>
    intro w hw hno
    refine ax_iload rfl rfl ?_
    refine ax_bipush rfl rfl ?_
    refine ax_icmp_ge rfl (by omega) (by omega) (fun h25 => ?_) (fun h25 => ?_)
    · refine ax_ldc (z := (-900000009)) rfl kX7_123 rfl ?_
      refine ax_iret rfl rfl ?_
      exact ⟨⟨_, rfl, Or.inr ⟨rfl, fun j hj => hno j (by omega)⟩⟩, rfl⟩
    · omega
  | succ t ih =>
    intro w hw hno
    have hb := bit_at hc.1 (show c < 2147483648 by omega) (show 0 ≤ (w : Int) ∧ (w : Int) < 31 by omega)
    rw [Int.toNat_natCast] at hb
    have pr : popc c.toNat w ≤ w := by
      have : ∀ a n, popc a n ≤ n := fun a n => by
        induction n with
        | zero => exact Nat.le_refl 0
        | succ n ih =>
          show popc a n + (if a.testBit n then 1 else 0) ≤ n + 1
          split <;> omega
      exact this _ _
    have ps : popc c.toNat (w + 1) = popc c.toNat w + (if c.toNat.testBit w then 1 else 0) := rfl
    have i2 := ih (w + 1) (by omega)
    refine ax_iload rfl rfl ?_
    refine ax_bipush rfl rfl ?_
    refine ax_icmp_ge rfl (by omega) (by omega) (fun h25 => ?_) (fun h25 => ?_)
    · omega
    · refine ax_iloadn rfl rfl ?_
      refine ax_iload rfl rfl ?_
      refine ax_ishr rfl ?_
      refine ax_iconst rfl ?_
      refine ax_iand rfl ?_
      refine ax_iconst rfl ?_
      refine ax_icmp_ne rfl (by rw [hb]; split <;> omega) (by omega) (fun h35 => ?_) (fun h35 => ?_)
      · refine ax_iinc (ls' := [(0, _), (1, _), (2, _), (3, _), (4, _)]) rfl rfl rfl rfl ?_
        refine ax_goto rfl ?_
        rw [hb] at h35
        first
          | (have ht : c.toNat.testBit w = true := by
               apply Classical.byContradiction
               intro q
               rw [if_neg q] at h35
               omega
             rw [if_pos ht] at ps
             rw [ps] at i2
             exact i2 (fun j hj hq => by
               by_cases hjw : j = w
               · subst hjw; omega
               · exact hno j (by omega) hq))
          | (have ht : ¬ c.toNat.testBit w = true := fun q => by
               rw [if_pos q] at h35
               omega
             rw [if_neg ht] at ps
             rw [ps] at i2
             exact i2 (fun j hj hq => by
               by_cases hjw : j = w
               · subst hjw; exact absurd hq ht
               · exact hno j (by omega) hq))
      · refine ax_iloadn rfl rfl ?_
        refine ax_iloadn rfl rfl ?_
        refine ax_icmp_ne rfl (by omega) (by omega) (fun h40 => ?_) (fun h40 => ?_)
        · refine ax_iinc (ls' := [(0, _), (1, _), (2, _), (3, _), (4, _)]) rfl rfl rfl rfl ?_
          refine ax_iinc (ls' := [(0, _), (1, _), (2, _), (3, _), (4, _)]) rfl rfl rfl rfl ?_
          refine ax_goto rfl ?_
          rw [hb] at h35
          first
            | (have ht : c.toNat.testBit w = true := by
                 apply Classical.byContradiction
                 intro q
                 rw [if_neg q] at h35
                 omega
               rw [if_pos ht] at ps
               rw [ps] at i2
               exact i2 (fun j hj hq => by
                 by_cases hjw : j = w
                 · subst hjw; omega
                 · exact hno j (by omega) hq))
            | (have ht : ¬ c.toNat.testBit w = true := fun q => by
                 rw [if_pos q] at h35
                 omega
               rw [if_neg ht] at ps
               rw [ps] at i2
               exact i2 (fun j hj hq => by
                 by_cases hjw : j = w
                 · subst hjw; exact absurd hq ht
                 · exact hno j (by omega) hq))
        · refine ax_iload rfl rfl ?_
          refine ax_iret rfl rfl ?_
          rw [hb] at h35
          have ht : c.toNat.testBit w = true := by
            apply Classical.byContradiction
            intro q
            rw [if_neg q] at h35
            omega
          exact ⟨⟨_, rfl, Or.inl ⟨by omega, by omega, by rw [Int.toNat_natCast]; exact ht, by rw [Int.toNat_natCast]; omega⟩⟩, rfl⟩
set_option maxRecDepth 100000 in
set_option maxHeartbeats 800000 in
theorem c_X7_needed (E : av_E) (d : Nat) (M : av_M) (hC : CI M) (i : Int) (hii : -2147483648 ≤ i ∧ i < 2147483648) : av_Mt E (d + 8) mX7_needed [vR 0, vI i] M (fun res M' => (∃ c z, CHW M c ∧ res = some (vI z) ∧ NB c i z) ∧ CI M' ∧ KP M M' ∧ KT M M' ∧ KW M M' ∧ KR M M') := by
  refine av_enter hX7_needed oX7_needed rfl rfl ?_
  refine ax_aloadn rfl rfl ?_
  refine ax_getR rfl fX7_33 rfl rfl ?_
  refine ax_aloadn rfl rfl ?_
  refine ax_getR rfl fX7_10 rfl rfl ?_
  refine ax_aloadn rfl rfl ?_
  refine ax_getR rfl fX7_26 rfl rfl ?_
  refine ax_callV (as := [_, _]) rfl vX7_130 hX1_walls rfl rfl rfl rfl rfl (c_X1_walls E (d + 1) M hC) (fun r12 M12 hr12 => ?_)
  obtain ⟨⟨c, rfl, hc, h2⟩, h1, hf⟩ := hr12
  have hcr := CHW_rng hc
  have pr := pcI_rng (x := c)
  obtain ⟨k1, k2, k3, k4, k5⟩ := CI_cho hC hc h1 h2 hf
  refine ax_istoren (ls' := [(0, _), (1, _), (2, _)]) rfl rfl rfl ?_
  refine ax_iconst rfl ?_
  refine ax_istoren (ls' := [(0, _), (1, _), (2, _), (3, _)]) rfl rfl rfl ?_
  refine ax_iconst rfl ?_
  refine ax_istore (ls' := [(0, _), (1, _), (2, _), (3, _), (4, _)]) rfl rfl rfl ?_
  refine ax_post (l_X7_needed E (d + 8) M12 c i hcr hii 10 0 (by omega) (fun j hj => by omega)) ?_
  rintro r M' ⟨⟨z, rfl, hz⟩, rfl⟩
  exact ⟨⟨c, z, hc, rfl, hz⟩, k1, k2, k3, k4, k5⟩
