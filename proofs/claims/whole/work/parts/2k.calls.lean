/-! ===== the choice kept; the class's state; its first calls ===== -/
theorem b01_c (P : Prop) : (P ∧ b01 P = 1) ∨ (¬ P ∧ b01 P = 0) := by
  by_cases h : P
  · exact Or.inl ⟨h, b01_t h⟩
  · exact Or.inr ⟨h, b01_f h⟩
def PTm (M : av_M) : Prop := (0 ≤ M 1 3 ∧ M 1 3 ≤ 12) ∧ (∀ j, 0 ≤ j → j < M 1 3 → (-50 ≤ M 2 j ∧ M 2 j ≤ 50) ∧ (-50 ≤ M 3 j ∧ M 3 j ≤ 50)) ∧ FIm M (FS (M 1 3) (M 2) (M 3))
def TBm (M : av_M) : Prop := (1 ≤ M 9 2 ∧ M 9 2 ≤ 8) ∧ (1 ≤ M 9 3 ∧ M 9 3 ≤ 999) ∧ (∀ j, 0 ≤ j → j < 96 → 0 ≤ M 10 j ∧ M 10 j ≤ 9999) ∧ (∀ j, 0 ≤ j → j < 96 → 0 ≤ M 11 j ∧ M 11 j ≤ 9999)
def CHW (M : av_M) (c : Int) : Prop := (M 4 5 < 3 ∧ c = 0) ∨ (3 ≤ M 4 5 ∧ CHS M (M 13 5) c)
def CAm (M : av_M) : Prop := M 33 1 = 0 ∨ (M 33 1 = 1 ∧ CHW M (M 33 2))
def CI (M : av_M) : Prop := PTm M ∧ TBm M ∧ BI M ∧ CAm M
theorem CHW_congr {M M' : av_M} (e : ∀ k, k ≠ 33 → k ≠ 34 → M' k = M k) (c : Int) : CHW M' c ↔ CHW M c := by
  unfold CHW CHS
  rw [e 4 (by decide) (by decide), e 13 (by decide) (by decide), PS_congr e]
theorem CHW_rng {M : av_M} {c : Int} (h : CHW M c) : 0 ≤ c ∧ c < 1024 := by
  rcases h with ⟨-, e⟩ | ⟨-, ⟨e, -⟩ | ⟨-, a, b, -⟩⟩ <;> omega
theorem PTm_congr {M M' : av_M} (h : PTm M) (e : ∀ k, 1 ≤ k → k ≤ 8 → M' k = M k) : PTm M' := by
  unfold PTm FIm
  rw [e 1 (by decide) (by decide), e 2 (by decide) (by decide), e 3 (by decide) (by decide), e 4 (by decide) (by decide), e 5 (by decide) (by decide), e 6 (by decide) (by decide), e 7 (by decide) (by decide), e 8 (by decide) (by decide)]
  exact h
theorem TBm_congr {M M' : av_M} (h : TBm M) (e : ∀ k, 9 ≤ k → k ≤ 11 → M' k = M k) : TBm M' := by
  unfold TBm
  rw [e 9 (by decide) (by decide), e 10 (by decide) (by decide), e 11 (by decide) (by decide)]
  exact h
theorem CI_b {M : av_M} (h : CI M) : (0 ≤ M 4 5 ∧ M 4 5 ≤ 12) ∧ (0 ≤ M 12 4 ∧ M 12 4 ≤ 120) ∧ (0 ≤ M 13 4 ∧ M 13 4 ≤ 10) ∧ (M 12 5 = 0 ∨ M 12 5 = 1) ∧ (0 ≤ M 28 5 ∧ M 28 5 ≤ 120) ∧ (0 ≤ M 13 5 ∧ M 13 5 < 1024) := by
  have a := FIm_h h.1.2.2
  have b := h.2.2.1.2.2.1.1
  have c := h.2.2.1.2.2.2.1
  have d := b01_rng (Snd (WM M) (Sg (M 13 5)))
  have e := h.2.2.1.2.2.2.2.1
  have f := OO_le h.2.2.1.2.2.2.2.2.1
  have g := h.2.2.1.2.2.2.2.2.1.2.1
  have i := h.2.2.1.2.2.2.2.2.2
  have j := h.2.2.1.1
  refine ⟨by omega, ⟨b, c⟩, ⟨j.1, j.2.1⟩, by omega, ⟨g, by omega⟩, ⟨j.2.2.2.1, j.2.2.2.2.1⟩⟩
theorem CI_ring {M : av_M} (h : CI M) {c : Int} (c0 : 0 ≤ c) (c1 : c < M 4 5) : 0 ≤ M 8 c ∧ M 8 c < 12 := by
  have r := h.1.2.2.1.2.2.2.1 c c0 c1
  have a := FIm_h h.1.2.2
  omega
theorem CI_ringO {M : av_M} (h : CI M) {c : Int} (c0 : 0 ≤ c) (c1 : c < M 28 5) : (0 ≤ M 32 c ∧ M 32 c < 120) ∧ BP (M 29 (M 32 c)) (M 30 (M 32 c)) (M 31 (M 32 c)) := by
  have hO := h.2.2.1.2.2.2.2.2.1
  have r := hO.2.2.2.1 c c0 c1
  have i := h.2.2.1.2.2.2.2.2.2
  exact ⟨by omega, hO.1.2.1 _ r.1 r.2⟩
/-- least k with two to the k enough -/
def LGs (T k : Int) : Prop := 0 ≤ k ∧ k ≤ 30 ∧ T ≤ bi_shl 1 k ∧ ∀ j, 0 ≤ j → j < k → bi_shl 1 j < T
theorem LGs_un {T k k' : Int} (h : LGs T k) (h' : LGs T k') : k = k' := by
  rcases Int.lt_trichotomy k k' with c | c | c
  · have a := h'.2.2.2 k h.1 c
    have b := h.2.2.1
    omega
  · exact c
  · have a := h.2.2.2 k' h'.1 c
    have b := h'.2.2.1
    omega
theorem LGs_30 : bi_shl 1 30 = 1073741824 := by decide +kernel
theorem shl_r {k : Int} (h : 0 ≤ k ∧ k < 31) : 0 ≤ bi_shl 1 k ∧ bi_shl 1 k < 2147483648 := by
  obtain ⟨n, rfl⟩ := Int.eq_ofNat_of_zero_le h.1
  have hp : (2 : Nat) ^ n ≤ 2 ^ 30 := Nat.pow_le_pow_right (by omega) (by omega)
  have h12 : (2 : Nat) ^ 30 = 1073741824 := by rfl
  rw [bi_n_shl1 (by omega)]
  exact ⟨Int.natCast_nonneg _, by omega⟩
set_option maxRecDepth 100000 in
set_option maxHeartbeats 800000 in
theorem c_X1_forget (E : av_E) (d : Nat) (M : av_M) : av_Mt E d mX1_forget [vR 33] M (fun res M' => res = none ∧ M' 33 1 = 0 ∧ (∀ f, f ≠ 1 → M' 33 f = M 33 f) ∧ ∀ k, k ≠ 33 → M' k = M k) := by
  refine av_enter hX1_forget oX1_forget rfl rfl ?_
  refine ax_aloadn rfl rfl ?_
  refine ax_iconst rfl ?_
  refine ax_putZ' (g := 1) rfl gX1_15 rfl rfl rfl (by omega) rfl (fun M2 a2 b2 c2 => ?_)
  refine ax_vret rfl rfl ?_
  exact ⟨rfl, a2, b2, c2⟩
set_option maxRecDepth 100000 in
set_option maxHeartbeats 800000 in
theorem c_X1_walls (E : av_E) (d : Nat) (M : av_M) (hC : CI M) : av_Mt E (d + 6) mX1_walls [vR 33, vR 1, vR 12] M (fun res M' => (∃ c, res = some (vI c) ∧ CHW M c ∧ M' 33 2 = c) ∧ M' 33 1 = 1 ∧ ∀ k, k ≠ 33 → k ≠ 34 → M' k = M k) := by
  have hb := CI_b hC
  have hb1 := b01_c (M 4 5 < 3)
  have hk : M 33 1 = 0 ∨ M 33 1 = 1 := by rcases hC.2.2.2 with h | h; exact Or.inl h; exact Or.inr h.1
  refine av_enter hX1_walls oX1_walls rfl rfl ?_
  refine ax_aloadn rfl rfl ?_
  refine ax_getI (g := 1) rfl fX1_15 rfl rfl rfl rfl ?_
  refine ax_if_ne rfl (by omega) (fun h4 => ?_) (fun h4 => ?_)
  · refine ax_aloadn rfl rfl ?_
    refine ax_getI (g := 2) rfl fX1_49 rfl rfl rfl rfl ?_
    refine ax_iret rfl rfl ?_
    first
      | (have e2 : M43 33 2 = M38 33 2 := b43 2 (by decide)
         rw [e2, a38]
         exact ⟨⟨c, rfl, Or.inr ⟨by omega, hc⟩, rfl⟩, a43, fun k k0 k1 => by rw [c43 k k0, c38 k k0, hf k k1]⟩)
      | (have e2 : M43 33 2 = M38 33 2 := b43 2 (by decide)
         rw [e2, a38]
         exact ⟨⟨0, rfl, Or.inl ⟨by omega, rfl⟩, rfl⟩, a43, fun k k0 k1 => by rw [c43 k k0, c38 k k0]⟩)
      | (rcases hC.2.2.2 with h | h
         · omega
         · exact ⟨⟨_, rfl, h.2, rfl⟩, h.1, fun k k0 k1 => rfl⟩)
  · refine ax_aloadn rfl rfl ?_
    refine ax_aloadn rfl rfl ?_
    refine ax_callV (as := []) rfl vX1_19 hX2_isFlat rfl rfl rfl rfl rfl (c_X2_isFlat E (d + 4) M (by omega)) (av_Xk ?_)
    refine ax_if_eq rfl (by omega) (fun h12 => ?_) (fun h12 => ?_)
    · refine ax_aloadn rfl rfl ?_
      refine ax_aloadn rfl rfl ?_
      refine ax_callV (as := []) rfl vX1_25 hX2_hull rfl rfl rfl rfl rfl (c_X2_hull E (d + 5) M) (av_Xk ?_)
      refine ax_aloadn rfl rfl ?_
      refine ax_callV (as := []) rfl vX1_29 hX0_meets rfl rfl rfl rfl rfl (c_X0_meets E (d + 5) M) (av_Xk ?_)
      refine ax_aloadn rfl rfl ?_
      refine ax_callV (as := []) rfl vX1_35 hX0_walls rfl rfl rfl rfl rfl (c_X0_walls E (d + 5) M) (av_Xk ?_)
      refine ax_callV (as := []) rfl vX1_39 hX6_onSet rfl rfl rfl rfl rfl (c_X6_onSet E (d + 5) M) (av_Xk ?_)
      refine ax_callV (as := [_, _, _]) rfl vX1_45 hX1_search rfl rfl rfl rfl rfl (c_X1_search E d M _ hC.1.2.2 hC.2.2.1.2.1 _ hb.2.2.2.2.2) (fun r35 M35 hr35 => ?_)
      obtain ⟨⟨c, rfl, hc⟩, hf⟩ := hr35
      refine ax_putI' (g := 2) rfl gX1_49 rfl rfl rfl rfl (fun M38 a38 b38 c38 => ?_)
      refine ax_aloadn rfl rfl ?_
      refine ax_iconst rfl ?_
      refine ax_putZ' (g := 1) rfl gX1_15 rfl rfl rfl (by omega) rfl (fun M43 a43 b43 c43 => ?_)
      refine ax_aloadn rfl rfl ?_
      refine ax_getI (g := 2) rfl fX1_49 rfl rfl rfl rfl ?_
      refine ax_iret rfl rfl ?_
      first
        | (have e2 : M43 33 2 = M38 33 2 := b43 2 (by decide)
           rw [e2, a38]
           exact ⟨⟨c, rfl, Or.inr ⟨by omega, hc⟩, rfl⟩, a43, fun k k0 k1 => by rw [c43 k k0, c38 k k0, hf k k1]⟩)
        | (have e2 : M43 33 2 = M38 33 2 := b43 2 (by decide)
           rw [e2, a38]
           exact ⟨⟨0, rfl, Or.inl ⟨by omega, rfl⟩, rfl⟩, a43, fun k k0 k1 => by rw [c43 k k0, c38 k k0]⟩)
        | (rcases hC.2.2.2 with h | h
           · omega
           · exact ⟨⟨_, rfl, h.2, rfl⟩, h.1, fun k k0 k1 => rfl⟩)
    · refine ax_iconst rfl ?_
      refine ax_goto rfl ?_
      refine ax_putI' (g := 2) rfl gX1_49 rfl rfl rfl rfl (fun M38 a38 b38 c38 => ?_)
      refine ax_aloadn rfl rfl ?_
      refine ax_iconst rfl ?_
      refine ax_putZ' (g := 1) rfl gX1_15 rfl rfl rfl (by omega) rfl (fun M43 a43 b43 c43 => ?_)
      refine ax_aloadn rfl rfl ?_
      refine ax_getI (g := 2) rfl fX1_49 rfl rfl rfl rfl ?_
      refine ax_iret rfl rfl ?_
      first
        | (have e2 : M43 33 2 = M38 33 2 := b43 2 (by decide)
           rw [e2, a38]
           exact ⟨⟨c, rfl, Or.inr ⟨by omega, hc⟩, rfl⟩, a43, fun k k0 k1 => by rw [c43 k k0, c38 k k0, hf k k1]⟩)
        | (have e2 : M43 33 2 = M38 33 2 := b43 2 (by decide)
           rw [e2, a38]
           exact ⟨⟨0, rfl, Or.inl ⟨by omega, rfl⟩, rfl⟩, a43, fun k k0 k1 => by rw [c43 k k0, c38 k k0]⟩)
        | (rcases hC.2.2.2 with h | h
           · omega
           · exact ⟨⟨_, rfl, h.2, rfl⟩, h.1, fun k k0 k1 => rfl⟩)
set_option maxRecDepth 100000 in
set_option maxHeartbeats 800000 in
theorem c_X7_isWithin (E : av_E) (d : Nat) (M : av_M) (v a b : Int) (hiv : -2147483648 ≤ v ∧ v < 2147483648) (hia : -2147483648 ≤ a ∧ a < 2147483648) (hib : -2147483648 ≤ b ∧ b < 2147483648) : av_Mt E (d) mX7_isWithin [vI v, vI a, vI b] M (av_X (some (vI (b01 (a ≤ v ∧ v ≤ b)))) M) := by
  refine av_enter hX7_isWithin oX7_isWithin rfl rfl ?_
  refine ax_iloadn rfl rfl ?_
  refine ax_iloadn rfl rfl ?_
  refine ax_icmp_lt rfl (by omega) (by omega) (fun h2 => ?_) (fun h2 => ?_)
  · refine ax_iconst rfl ?_
    refine ax_zret rfl rfl (by omega) ?_
    first | exact av_rI (b01_t (by omega)).symm | exact av_rI (b01_f (by omega)).symm
  · refine ax_iloadn rfl rfl ?_
    refine ax_iloadn rfl rfl ?_
    refine ax_icmp_gt rfl (by omega) (by omega) (fun h7 => ?_) (fun h7 => ?_)
    · refine ax_iconst rfl ?_
      refine ax_zret rfl rfl (by omega) ?_
      first | exact av_rI (b01_t (by omega)).symm | exact av_rI (b01_f (by omega)).symm
    · refine ax_iconst rfl ?_
      refine ax_goto rfl ?_
      refine ax_zret rfl rfl (by omega) ?_
      first | exact av_rI (b01_t (by omega)).symm | exact av_rI (b01_f (by omega)).symm
set_option maxRecDepth 100000 in
set_option maxHeartbeats 800000 in
theorem c_X7_isPlace (E : av_E) (d : Nat) (M : av_M) (x y : Int) (hix : -2147483648 ≤ x ∧ x < 2147483648) (hiy : -2147483648 ≤ y ∧ y < 2147483648) : av_Mt E (d + 1) mX7_isPlace [vI x, vI y] M (av_X (some (vI (b01 ((-50 ≤ x ∧ x ≤ 50) ∧ (-50 ≤ y ∧ y ≤ 50))))) M) := by
  have hc0 := b01_c (-50 ≤ x ∧ x ≤ 50)
  have hc1 := b01_c (-50 ≤ y ∧ y ≤ 50)
  refine av_enter hX7_isPlace oX7_isPlace rfl rfl ?_
  refine ax_iloadn rfl rfl ?_
  refine ax_bipush rfl rfl ?_
  refine ax_bipush rfl rfl ?_
  refine ax_callS (as := [_, _, _]) rfl sX7_85 hX7_isWithin rfl rfl rfl rfl (c_X7_isWithin E d M x (-50) 50 (by omega) (by omega) (by omega)) (av_Xk ?_)
  refine ax_if_eq rfl (by omega) (fun h8 => ?_) (fun h8 => ?_)
  · refine ax_iconst rfl ?_
    refine ax_zret rfl rfl (by omega) ?_
    first | exact av_rI (b01_t (by omega)).symm | exact av_rI (b01_f (by omega)).symm
  · refine ax_iloadn rfl rfl ?_
    refine ax_bipush rfl rfl ?_
    refine ax_bipush rfl rfl ?_
    refine ax_callS (as := [_, _, _]) rfl sX7_85 hX7_isWithin rfl rfl rfl rfl (c_X7_isWithin E d M y (-50) 50 (by omega) (by omega) (by omega)) (av_Xk ?_)
    refine ax_if_eq rfl (by omega) (fun h19 => ?_) (fun h19 => ?_)
    · refine ax_iconst rfl ?_
      refine ax_zret rfl rfl (by omega) ?_
      first | exact av_rI (b01_t (by omega)).symm | exact av_rI (b01_f (by omega)).symm
    · refine ax_iconst rfl ?_
      refine ax_goto rfl ?_
      refine ax_zret rfl rfl (by omega) ?_
      first | exact av_rI (b01_t (by omega)).symm | exact av_rI (b01_f (by omega)).symm
set_option maxRecDepth 100000 in
set_option maxHeartbeats 800000 in
theorem c_X7_isStep (E : av_E) (d : Nat) (M : av_M) (x : Int) (hix : -2147483648 ≤ x ∧ x < 2147483648) : av_Mt E (d + 1) mX7_isStep [vI x] M (av_X (some (vI (b01 (-9 ≤ x ∧ x ≤ 9)))) M) := by
  have hc0 := b01_c (-9 ≤ x ∧ x ≤ 9)
  refine av_enter hX7_isStep oX7_isStep rfl rfl ?_
  refine ax_iloadn rfl rfl ?_
  refine ax_bipush rfl rfl ?_
  refine ax_bipush rfl rfl ?_
  refine ax_callS (as := [_, _, _]) rfl sX7_85 hX7_isWithin rfl rfl rfl rfl (c_X7_isWithin E d M x (-9) 9 (by omega) (by omega) (by omega)) (av_Xk ?_)
  refine ax_zret rfl rfl (by omega) ?_
  exact av_rI rfl
set_option maxRecDepth 100000 in
set_option maxHeartbeats 800000 in
theorem c_X7_isFar (E : av_E) (d : Nat) (M : av_M) (x : Int) (hix : -2147483648 ≤ x ∧ x < 2147483648) : av_Mt E (d + 1) mX7_isFar [vI x] M (av_X (some (vI (b01 (-99 ≤ x ∧ x ≤ 99)))) M) := by
  have hc0 := b01_c (-99 ≤ x ∧ x ≤ 99)
  refine av_enter hX7_isFar oX7_isFar rfl rfl ?_
  refine ax_iloadn rfl rfl ?_
  refine ax_bipush rfl rfl ?_
  refine ax_bipush rfl rfl ?_
  refine ax_callS (as := [_, _, _]) rfl sX7_85 hX7_isWithin rfl rfl rfl rfl (c_X7_isWithin E d M x (-99) 99 (by omega) (by omega) (by omega)) (av_Xk ?_)
  refine ax_zret rfl rfl (by omega) ?_
  exact av_rI rfl
set_option maxRecDepth 100000 in
set_option maxHeartbeats 800000 in
theorem c_X7_isAim (E : av_E) (d : Nat) (M : av_M) (x : Int) (hix : -2147483648 ≤ x ∧ x < 2147483648) : av_Mt E (d + 1) mX7_isAim [vI x] M (av_X (some (vI (b01 (-99 ≤ x ∧ x ≤ 99)))) M) := by
  have hc0 := b01_c (-99 ≤ x ∧ x ≤ 99)
  refine av_enter hX7_isAim oX7_isAim rfl rfl ?_
  refine ax_iloadn rfl rfl ?_
  refine ax_bipush rfl rfl ?_
  refine ax_bipush rfl rfl ?_
  refine ax_callS (as := [_, _, _]) rfl sX7_85 hX7_isWithin rfl rfl rfl rfl (c_X7_isWithin E d M x (-99) 99 (by omega) (by omega) (by omega)) (av_Xk ?_)
  refine ax_zret rfl rfl (by omega) ?_
  exact av_rI rfl
set_option maxRecDepth 100000 in
set_option maxHeartbeats 800000 in
theorem c_X7_isBounded (E : av_E) (d : Nat) (M : av_M) (hC : CI M) : av_Mt E (d + 1) mX7_isBounded [vR 0] M (av_X (some (vI (b01 (3 ≤ M 4 5 ∧ M 4 5 ≤ 8)))) M) := by
  have hb := CI_b hC
  have hc0 := b01_c (3 ≤ M 4 5 ∧ M 4 5 ≤ 8)
  refine av_enter hX7_isBounded oX7_isBounded rfl rfl ?_
  refine ax_aloadn rfl rfl ?_
  refine ax_getR rfl fX7_10 rfl rfl ?_
  refine ax_callV (as := []) rfl vX7_62 hX2_hull rfl rfl rfl rfl rfl (c_X2_hull E d M) (av_Xk ?_)
  refine ax_callV (as := []) rfl vX7_66 hX4_size rfl rfl rfl rfl rfl (c_H_size E d M) (av_Xk ?_)
  refine ax_iconst rfl ?_
  refine ax_bipush rfl rfl ?_
  refine ax_callS (as := [_, _, _]) rfl sX7_85 hX7_isWithin rfl rfl rfl rfl (c_X7_isWithin E d M (M 4 5) 3 8 (by omega) (by omega) (by omega)) (av_Xk ?_)
  refine ax_zret rfl rfl (by omega) ?_
  exact av_rI rfl
set_option maxRecDepth 100000 in
set_option maxHeartbeats 800000 in
theorem l_X7_levels (E : av_E) (d : Nat) (M : av_M) (T : Int) (hT : 0 ≤ T ∧ T ≤ 100) : ∀ (t : Nat) (k : Int), k + t = 30 → 0 ≤ k → (∀ j, 0 ≤ j → j < k → bi_shl 1 j < T) → av_S E d mX7_levels 17 [(0, vR 0), (1, vI T), (2, vI k)] [] M (fun res M' => (∃ k, res = some (vI k) ∧ LGs T k) ∧ M' = M) := by
  intro t
  induction t with
  | zero =>
    intro k hk k0 hno
    have e : k = 30 := by omega
    have e30 := LGs_30
    subst e
    refine ax_iloadn rfl rfl ?_
    refine ax_bipush rfl rfl ?_
    refine ax_icmp_ge rfl (by omega) (by omega) (fun h20 => ?_) (fun h20 => ?_)
    · refine ax_iloadn rfl rfl ?_
      refine ax_iret rfl rfl ?_
      exact ⟨⟨_, rfl, ⟨by omega, by omega, by omega, hno⟩⟩, rfl⟩
    · omega
  | succ t ih =>
    intro k hk k0 hno
    have r := shl_r (k := k) (by omega)
    refine ax_iloadn rfl rfl ?_
    refine ax_bipush rfl rfl ?_
    refine ax_icmp_ge rfl (by omega) (by omega) (fun h20 => ?_) (fun h20 => ?_)
    · refine ax_iloadn rfl rfl ?_
      refine ax_iret rfl rfl ?_
      first
        | omega
        | exact ⟨⟨_, rfl, ⟨by omega, by omega, by omega, hno⟩⟩, rfl⟩
    · refine ax_iconst rfl ?_
      refine ax_iloadn rfl rfl ?_
      refine ax_ishl rfl ?_
      refine ax_iloadn rfl rfl ?_
      refine ax_icmp_ge rfl (by omega) (by omega) (fun h27 => ?_) (fun h27 => ?_)
      · refine ax_iloadn rfl rfl ?_
        refine ax_iret rfl rfl ?_
        first
          | omega
          | exact ⟨⟨_, rfl, ⟨by omega, by omega, by omega, hno⟩⟩, rfl⟩
      · refine ax_iinc (ls' := [(0, _), (1, _), (2, _)]) rfl rfl rfl rfl ?_
        refine ax_goto rfl ?_
        refine ih _ (by omega) (by omega) (fun j j0 j1 => ?_)
        by_cases hj : j = k
        · rw [hj]; omega
        · exact hno j j0 (by omega)
set_option maxRecDepth 100000 in
set_option maxHeartbeats 800000 in
theorem c_X7_levels (E : av_E) (d : Nat) (M : av_M) (hC : CI M) : av_Mt E (d + 1) mX7_levels [vR 0] M (fun res M' => (∃ k, res = some (vI k) ∧ LGs (2 * M 4 5 + 2) k) ∧ M' = M) := by
  have hb := CI_b hC
  refine av_enter hX7_levels oX7_levels rfl rfl ?_
  refine ax_iconst rfl ?_
  refine ax_aloadn rfl rfl ?_
  refine ax_getR rfl fX7_10 rfl rfl ?_
  refine ax_callV (as := []) rfl vX7_62 hX2_hull rfl rfl rfl rfl rfl (c_X2_hull E d M) (av_Xk ?_)
  refine ax_callV (as := []) rfl vX7_66 hX4_size rfl rfl rfl rfl rfl (c_H_size E d M) (av_Xk ?_)
  refine ax_imul rfl ?_
  refine ax_iconst rfl ?_
  refine ax_iadd rfl ?_
  refine ax_istoren (ls' := [(0, _), (1, _)]) rfl rfl rfl ?_
  refine ax_iconst rfl ?_
  refine ax_istoren (ls' := [(0, _), (1, _), (2, _)]) rfl rfl rfl ?_
  exact l_X7_levels E _ M _ (by omega) 30 0 (by omega) (by omega) (fun j a b => by omega)
set_option maxRecDepth 100000 in
set_option maxHeartbeats 800000 in
theorem c_X7_corners (E : av_E) (d : Nat) (M : av_M)  : av_Mt E (d + 8) mX7_corners [vR 0] M (av_X (some (vI (M 4 5))) M) := by
  refine av_enter hX7_corners oX7_corners rfl rfl ?_
  refine ax_aloadn rfl rfl ?_
  refine ax_getR rfl fX7_10 rfl rfl ?_
  refine ax_callV (as := []) rfl vX7_62 hX2_hull rfl rfl rfl rfl rfl (c_X2_hull E (d + 7) M) (av_Xk ?_)
  refine ax_callV (as := []) rfl vX7_66 hX4_size rfl rfl rfl rfl rfl (c_H_size E (d + 7) M) (av_Xk ?_)
  refine ax_iret rfl rfl ?_
  exact av_rI rfl
set_option maxRecDepth 100000 in
set_option maxHeartbeats 800000 in
theorem c_X7_corner (E : av_E) (d : Nat) (M : av_M) (hC : CI M) (c y : Int) (hic : -2147483648 ≤ c ∧ c < 2147483648) (hiy : -2147483648 ≤ y ∧ y < 2147483648) : av_Mt E (d + 8) mX7_corner [vR 0, vI c, vI y] M (av_X (some (vI (if ¬ (0 ≤ c ∧ c < M 4 5) then (-900000001) else if y = 0 then M 5 (M 8 c) else M 6 (M 8 c)))) M) := by
  have hb := CI_b hC
  have hc0 := b01_c (0 ≤ c ∧ c < M 4 5)
  refine av_enter hX7_corner oX7_corner rfl rfl ?_
  refine ax_aloadn rfl rfl ?_
  refine ax_getR rfl fX7_10 rfl rfl ?_
  refine ax_callV (as := []) rfl vX7_62 hX2_hull rfl rfl rfl rfl rfl (c_X2_hull E (d + 7) M) (av_Xk ?_)
  refine ax_iloadn rfl rfl ?_
  refine ax_callV (as := [_]) rfl vX7_69 hX4_has rfl rfl rfl rfl rfl (c_H_has E (d + 7) M c (by omega) (by omega)) (av_Xk ?_)
  refine ax_if_ne rfl (by omega) (fun h11 => ?_) (fun h11 => ?_)
  · refine ax_iloadn rfl rfl ?_
    refine ax_if_eq rfl (by omega) (fun h18 => ?_) (fun h18 => ?_)
    · refine ax_aloadn rfl rfl ?_
      refine ax_getR rfl fX7_10 rfl rfl ?_
      refine ax_callV (as := []) rfl vX7_62 hX2_hull rfl rfl rfl rfl rfl (c_X2_hull E (d + 7) M) (av_Xk ?_)
      refine ax_iloadn rfl rfl ?_
      refine ax_callV (as := [_]) rfl vX7_77 hX4_xOf rfl rfl rfl rfl rfl (c_H_xOf E (d + 7) M c (by omega) (CI_ring hC (by omega) (by omega))) (av_Xk ?_)
      refine ax_iret rfl rfl ?_
      exact av_rI (by (repeat' split) <;> omega)
    · refine ax_aloadn rfl rfl ?_
      refine ax_getR rfl fX7_10 rfl rfl ?_
      refine ax_callV (as := []) rfl vX7_62 hX2_hull rfl rfl rfl rfl rfl (c_X2_hull E (d + 7) M) (av_Xk ?_)
      refine ax_iloadn rfl rfl ?_
      refine ax_callV (as := [_]) rfl vX7_73 hX4_yOf rfl rfl rfl rfl rfl (c_H_yOf E (d + 7) M c (by omega) (CI_ring hC (by omega) (by omega))) (av_Xk ?_)
      refine ax_goto rfl ?_
      refine ax_iret rfl rfl ?_
      exact av_rI (by (repeat' split) <;> omega)
  · refine ax_ldc (z := (-900000001)) rfl kX7_54 rfl ?_
    refine ax_iret rfl rfl ?_
    exact av_rI (by (repeat' split) <;> omega)
set_option maxRecDepth 100000 in
set_option maxHeartbeats 800000 in
theorem c_X7_wallOf (E : av_E) (d : Nat) (M : av_M) (hC : CI M) (e w : Int) (hie : -2147483648 ≤ e ∧ e < 2147483648) (hiw : -2147483648 ≤ w ∧ w < 2147483648) : av_Mt E (d + 8) mX7_wallOf [vR 0, vI e, vI w] M (av_X (some (vI (if ¬ (0 ≤ e ∧ e < M 4 5) then (-900000001) else if M 4 5 < 3 then (-900000003) else if ¬ (0 ≤ w ∧ w ≤ 2) then (-900000002) else wq (M 4 5) (fun k => M 5 (M 8 k)) (fun k => M 6 (M 8 k)) e w))) M) := by
  have hb := CI_b hC
  have hc0 := b01_c (0 ≤ e ∧ e < M 4 5)
  have hc1 := b01_c (M 4 5 < 3)
  have hc2 := b01_c (0 ≤ w ∧ w ≤ 2)
  refine av_enter hX7_wallOf oX7_wallOf rfl rfl ?_
  refine ax_aloadn rfl rfl ?_
  refine ax_getR rfl fX7_10 rfl rfl ?_
  refine ax_callV (as := []) rfl vX7_62 hX2_hull rfl rfl rfl rfl rfl (c_X2_hull E (d + 7) M) (av_Xk ?_)
  refine ax_iloadn rfl rfl ?_
  refine ax_callV (as := [_]) rfl vX7_69 hX4_has rfl rfl rfl rfl rfl (c_H_has E (d + 7) M e (by omega) (by omega)) (av_Xk ?_)
  refine ax_if_ne rfl (by omega) (fun h11 => ?_) (fun h11 => ?_)
  · refine ax_aloadn rfl rfl ?_
    refine ax_getR rfl fX7_10 rfl rfl ?_
    refine ax_callV (as := []) rfl vX7_80 hX2_isFlat rfl rfl rfl rfl rfl (c_X2_isFlat E (d + 6) M (by omega)) (av_Xk ?_)
    refine ax_if_eq rfl (by omega) (fun h24 => ?_) (fun h24 => ?_)
    · refine ax_iloadn rfl rfl ?_
      refine ax_iconst rfl ?_
      refine ax_iconst rfl ?_
      refine ax_callS (as := [_, _, _]) rfl sX7_85 hX7_isWithin rfl rfl rfl rfl (c_X7_isWithin E (d + 7) M w 0 2 (by omega) (by omega) (by omega)) (av_Xk ?_)
      refine ax_if_ne rfl (by omega) (fun h36 => ?_) (fun h36 => ?_)
      · refine ax_aloadn rfl rfl ?_
        refine ax_getR rfl fX7_10 rfl rfl ?_
        refine ax_iloadn rfl rfl ?_
        refine ax_iloadn rfl rfl ?_
        refine ax_callV (as := [_, _]) rfl vX7_89 hX2_wallPart rfl rfl rfl rfl rfl (c_X2_wallPart E (d + 5) M _ e w hC.1.2.2 (by omega) (by omega)) (av_Xk ?_)
        refine ax_iret rfl rfl ?_
        exact av_rI (by (repeat' split) <;> omega)
      · refine ax_ldc (z := (-900000002)) rfl kX7_41 rfl ?_
        refine ax_iret rfl rfl ?_
        exact av_rI (by (repeat' split) <;> omega)
    · refine ax_ldc (z := (-900000003)) rfl kX7_84 rfl ?_
      refine ax_iret rfl rfl ?_
      exact av_rI (by (repeat' split) <;> omega)
  · refine ax_ldc (z := (-900000001)) rfl kX7_54 rfl ?_
    refine ax_iret rfl rfl ?_
    exact av_rI (by (repeat' split) <;> omega)
set_option maxRecDepth 100000 in
set_option maxHeartbeats 800000 in
theorem c_X7_slack (E : av_E) (d : Nat) (M : av_M) (hC : CI M) (e c : Int) (hie : -2147483648 ≤ e ∧ e < 2147483648) (hic : -2147483648 ≤ c ∧ c < 2147483648) : av_Mt E (d + 8) mX7_slack [vR 0, vI e, vI c] M (av_X (some (vI (if ¬ ((0 ≤ e ∧ e < M 4 5) ∧ (0 ≤ c ∧ c < M 4 5)) then (-900000001) else if M 4 5 < 3 then (-900000003) else gp (M 4 5) (fun k => M 5 (M 8 k)) (fun k => M 6 (M 8 k)) e c))) M) := by
  have hb := CI_b hC
  have hc0 := b01_c (0 ≤ e ∧ e < M 4 5)
  have hc1 := b01_c (0 ≤ c ∧ c < M 4 5)
  have hc2 := b01_c (M 4 5 < 3)
  refine av_enter hX7_slack oX7_slack rfl rfl ?_
  refine ax_aloadn rfl rfl ?_
  refine ax_getR rfl fX7_10 rfl rfl ?_
  refine ax_callV (as := []) rfl vX7_62 hX2_hull rfl rfl rfl rfl rfl (c_X2_hull E (d + 7) M) (av_Xk ?_)
  refine ax_iloadn rfl rfl ?_
  refine ax_callV (as := [_]) rfl vX7_69 hX4_has rfl rfl rfl rfl rfl (c_H_has E (d + 7) M e (by omega) (by omega)) (av_Xk ?_)
  refine ax_if_eq rfl (by omega) (fun h11 => ?_) (fun h11 => ?_)
  · refine ax_ldc (z := (-900000001)) rfl kX7_54 rfl ?_
    refine ax_iret rfl rfl ?_
    exact av_rI (by (repeat' split) <;> omega)
  · refine ax_aloadn rfl rfl ?_
    refine ax_getR rfl fX7_10 rfl rfl ?_
    refine ax_callV (as := []) rfl vX7_62 hX2_hull rfl rfl rfl rfl rfl (c_X2_hull E (d + 7) M) (av_Xk ?_)
    refine ax_iloadn rfl rfl ?_
    refine ax_callV (as := [_]) rfl vX7_69 hX4_has rfl rfl rfl rfl rfl (c_H_has E (d + 7) M c (by omega) (by omega)) (av_Xk ?_)
    refine ax_if_ne rfl (by omega) (fun h25 => ?_) (fun h25 => ?_)
    · refine ax_aloadn rfl rfl ?_
      refine ax_getR rfl fX7_10 rfl rfl ?_
      refine ax_callV (as := []) rfl vX7_80 hX2_isFlat rfl rfl rfl rfl rfl (c_X2_isFlat E (d + 6) M (by omega)) (av_Xk ?_)
      refine ax_if_eq rfl (by omega) (fun h38 => ?_) (fun h38 => ?_)
      · refine ax_aloadn rfl rfl ?_
        refine ax_getR rfl fX7_10 rfl rfl ?_
        refine ax_iloadn rfl rfl ?_
        refine ax_iloadn rfl rfl ?_
        refine ax_callV (as := [_, _]) rfl vX7_92 hX2_gap rfl rfl rfl rfl rfl (c_X2_gap E (d + 4) M _ e c hC.1.2.2 (by omega) (by omega)) (av_Xk ?_)
        refine ax_iret rfl rfl ?_
        exact av_rI (by (repeat' split) <;> omega)
      · refine ax_ldc (z := (-900000003)) rfl kX7_84 rfl ?_
        refine ax_goto rfl ?_
        refine ax_iret rfl rfl ?_
        exact av_rI (by (repeat' split) <;> omega)
    · refine ax_ldc (z := (-900000001)) rfl kX7_54 rfl ?_
      refine ax_iret rfl rfl ?_
      exact av_rI (by (repeat' split) <;> omega)
set_option maxRecDepth 100000 in
set_option maxHeartbeats 800000 in
theorem c_X7_area (E : av_E) (d : Nat) (M : av_M) (hC : CI M)  : av_Mt E (d + 8) mX7_area [vR 0] M (av_X (some (vI (arS (M 4 5) (fun k => M 5 (M 8 k)) (fun k => M 6 (M 8 k)) (M 4 5).toNat))) M) := by
  refine av_enter hX7_area oX7_area rfl rfl ?_
  refine ax_aloadn rfl rfl ?_
  refine ax_getR rfl fX7_10 rfl rfl ?_
  refine ax_callV (as := []) rfl vX7_95 hX2_twiceArea rfl rfl rfl rfl rfl (c_X2_twiceArea E (d + 6) M _ hC.1.2.2) (av_Xk ?_)
  refine ax_iret rfl rfl ?_
  exact av_rI rfl
set_option maxRecDepth 100000 in
set_option maxHeartbeats 800000 in
theorem c_X7_open (E : av_E) (d : Nat) (M : av_M) (hC : CI M)  : av_Mt E (d + 8) mX7_open [vR 0] M (av_X (some (vI (if M 4 5 < 3 then (-900000003) else isum (fun e => opS (M 4 5) (fun k => M 5 (M 8 k)) (fun k => M 6 (M 8 k)) e (M 4 5).toNat) (M 4 5).toNat))) M) := by
  have hb := CI_b hC
  have hc0 := b01_c (M 4 5 < 3)
  refine av_enter hX7_open oX7_open rfl rfl ?_
  refine ax_aloadn rfl rfl ?_
  refine ax_getR rfl fX7_10 rfl rfl ?_
  refine ax_callV (as := []) rfl vX7_80 hX2_isFlat rfl rfl rfl rfl rfl (c_X2_isFlat E (d + 6) M (by omega)) (av_Xk ?_)
  refine ax_if_eq rfl (by omega) (fun h7 => ?_) (fun h7 => ?_)
  · refine ax_aloadn rfl rfl ?_
    refine ax_getR rfl fX7_10 rfl rfl ?_
    refine ax_callV (as := []) rfl vX7_98 hX2_openPairs rfl rfl rfl rfl rfl (c_X2_openPairs E (d + 3) M _ hC.1.2.2) (av_Xk ?_)
    refine ax_iret rfl rfl ?_
    exact av_rI (by (repeat' split) <;> omega)
  · refine ax_ldc (z := (-900000003)) rfl kX7_84 rfl ?_
    refine ax_goto rfl ?_
    refine ax_iret rfl rfl ?_
    exact av_rI (by (repeat' split) <;> omega)
set_option maxRecDepth 100000 in
set_option maxHeartbeats 800000 in
theorem c_X7_cover (E : av_E) (d : Nat) (M : av_M) (hC : CI M)  : av_Mt E (d + 8) mX7_cover [vR 0] M (av_X (some (vI (if 3 ≤ M 4 5 ∧ M 4 5 ≤ 8 then av_cov (M 4 5) else (-900000003)))) M) := by
  have hb := CI_b hC
  have hc0 := b01_c (3 ≤ M 4 5 ∧ M 4 5 ≤ 8)
  refine av_enter hX7_cover oX7_cover rfl rfl ?_
  refine ax_aloadn rfl rfl ?_
  refine ax_callV (as := []) rfl vX7_101 hX7_isBounded rfl rfl rfl rfl rfl (c_X7_isBounded E (d + 6) M hC) (av_Xk ?_)
  refine ax_if_eq rfl (by omega) (fun h4 => ?_) (fun h4 => ?_)
  · refine ax_ldc (z := (-900000003)) rfl kX7_84 rfl ?_
    refine ax_iret rfl rfl ?_
    exact av_rI (by (repeat' split) <;> omega)
  · refine ax_gets0 rfl rfl ?_
    refine ax_aloadn rfl rfl ?_
    refine ax_getR rfl fX7_10 rfl rfl ?_
    refine ax_callV (as := []) rfl vX7_62 hX2_hull rfl rfl rfl rfl rfl (c_X2_hull E (d + 7) M) (av_Xk ?_)
    refine ax_callV (as := []) rfl vX7_66 hX4_size rfl rfl rfl rfl rfl (c_H_size E (d + 7) M) (av_Xk ?_)
    refine ax_sld0 rfl (by omega) ?_
    refine ax_goto rfl ?_
    refine ax_iret rfl rfl ?_
    exact av_rI (by (repeat' split) <;> omega)
set_option maxRecDepth 100000 in
set_option maxHeartbeats 800000 in
theorem c_X7_fools (E : av_E) (d : Nat) (M : av_M) (hC : CI M)  : av_Mt E (d + 8) mX7_fools [vR 0] M (av_X (some (vI (if 3 ≤ M 4 5 ∧ M 4 5 ≤ 8 then av_foo (M 4 5) else (-900000003)))) M) := by
  have hb := CI_b hC
  have hc0 := b01_c (3 ≤ M 4 5 ∧ M 4 5 ≤ 8)
  refine av_enter hX7_fools oX7_fools rfl rfl ?_
  refine ax_aloadn rfl rfl ?_
  refine ax_callV (as := []) rfl vX7_101 hX7_isBounded rfl rfl rfl rfl rfl (c_X7_isBounded E (d + 6) M hC) (av_Xk ?_)
  refine ax_if_eq rfl (by omega) (fun h4 => ?_) (fun h4 => ?_)
  · refine ax_ldc (z := (-900000003)) rfl kX7_84 rfl ?_
    refine ax_iret rfl rfl ?_
    exact av_rI (by (repeat' split) <;> omega)
  · refine ax_gets1 rfl rfl ?_
    refine ax_aloadn rfl rfl ?_
    refine ax_getR rfl fX7_10 rfl rfl ?_
    refine ax_callV (as := []) rfl vX7_62 hX2_hull rfl rfl rfl rfl rfl (c_X2_hull E (d + 7) M) (av_Xk ?_)
    refine ax_callV (as := []) rfl vX7_66 hX4_size rfl rfl rfl rfl rfl (c_H_size E (d + 7) M) (av_Xk ?_)
    refine ax_sld1 rfl (by omega) ?_
    refine ax_goto rfl ?_
    refine ax_iret rfl rfl ?_
    exact av_rI (by (repeat' split) <;> omega)
set_option maxRecDepth 100000 in
set_option maxHeartbeats 800000 in
theorem c_X7_log (E : av_E) (d : Nat) (M : av_M) (hC : CI M) : av_Mt E (d + 8) mX7_log [vR 0] M (fun res M' => (∃ z, res = some (vI z) ∧ ((¬ (3 ≤ M 4 5 ∧ M 4 5 ≤ 8) ∧ z = (-900000003)) ∨ ((3 ≤ M 4 5 ∧ M 4 5 ≤ 8) ∧ LGs (2 * M 4 5 + 2) z))) ∧ M' = M) := by
  have hb := CI_b hC
  have hc0 := b01_c (3 ≤ M 4 5 ∧ M 4 5 ≤ 8)
  refine av_enter hX7_log oX7_log rfl rfl ?_
  refine ax_aloadn rfl rfl ?_
  refine ax_callV (as := []) rfl vX7_101 hX7_isBounded rfl rfl rfl rfl rfl (c_X7_isBounded E (d + 6) M hC) (av_Xk ?_)
  refine ax_if_eq rfl (by omega) (fun h4 => ?_) (fun h4 => ?_)
  · refine ax_ldc (z := (-900000003)) rfl kX7_84 rfl ?_
    refine ax_iret rfl rfl ?_
    first
      | exact ⟨⟨_, rfl, Or.inr ⟨by omega, hk⟩⟩, rfl⟩
      | exact ⟨⟨_, rfl, Or.inl ⟨by omega, rfl⟩⟩, rfl⟩
  · refine ax_aloadn rfl rfl ?_
    refine ax_callV (as := []) rfl vX7_111 hX7_levels rfl rfl rfl rfl rfl (c_X7_levels E (d + 6) M hC) (fun r8 M8 hr8 => ?_)
    obtain ⟨⟨k, rfl, hk⟩, rfl⟩ := hr8
    refine ax_goto rfl ?_
    refine ax_iret rfl rfl ?_
    first
      | exact ⟨⟨_, rfl, Or.inr ⟨by omega, hk⟩⟩, rfl⟩
      | exact ⟨⟨_, rfl, Or.inl ⟨by omega, rfl⟩⟩, rfl⟩
