/-! ===== the class's calls: what is asked ===== -/
noncomputable def msO (M : av_M) : Int := cntP (fun i : Nat => ¬ (HdM (M 29) (M 30) (M 31) (M 32) (M 28 4) (M 28 5) (cn (M 5) (M 6) (M 7) (M 8) i))) (M 4 5).toNat
noncomputable def msH (M : av_M) : Int := cntP (fun i : Nat => ¬ (HdM (M 5) (M 6) (M 7) (M 8) (M 4 4) (M 4 5) (cn (M 29) (M 30) (M 31) (M 32) i))) (M 28 5).toNat
theorem msO_rng {M : av_M} (h : CI M) : 0 ≤ msO M ∧ msO M ≤ 12 := by
  have b := CI_b h
  have r := cntP_rng (fun i : Nat => ¬ (HdM (M 29) (M 30) (M 31) (M 32) (M 28 4) (M 28 5) (cn (M 5) (M 6) (M 7) (M 8) i))) (M 4 5).toNat
  unfold msO; omega
theorem msH_rng {M : av_M} (h : CI M) : 0 ≤ msH M ∧ msH M ≤ 120 := by
  have b := CI_b h
  have r := cntP_rng (fun i : Nat => ¬ (HdM (M 5) (M 6) (M 7) (M 8) (M 4 4) (M 4 5) (cn (M 29) (M 30) (M 31) (M 32) i))) (M 28 5).toNat
  unfold msH; omega
set_option maxRecDepth 100000 in
set_option maxHeartbeats 800000 in
theorem c_X7_low (E : av_E) (d : Nat) (M : av_M) (hC : CI M) : av_Mt E (d + 8) mX7_low [vR 0] M (fun res M' => (∃ z, res = some (vI z) ∧ ((¬ (3 ≤ M 4 5 ∧ M 4 5 ≤ 8) ∧ z = (-900000003)) ∨ ((3 ≤ M 4 5 ∧ M 4 5 ≤ 8) ∧ ∃ k, LGs (2 * M 4 5 + 2) k ∧ z = max 3 (max (av_cov (M 4 5)) k)))) ∧ M' = M) := by
  have hb := CI_b hC
  have hc0 := b01_c (3 ≤ M 4 5 ∧ M 4 5 ≤ 8)
  have hv : ∀ z : Int, 0 ≤ av_cov z ∧ av_cov z ≤ 6 := fun z => by
    have : ∀ n : Nat, 0 ≤ ([0, 0, 0, 3, 4, 5, 5, 6, 6] : List Int).getD n 0 ∧ ([0, 0, 0, 3, 4, 5, 5, 6, 6] : List Int).getD n 0 ≤ 6 := fun n => by
      match n with
      | 0 => decide
      | 1 => decide
      | 2 => decide
      | 3 => decide
      | 4 => decide
      | 5 => decide
      | 6 => decide
      | 7 => decide
      | 8 => decide
      | n + 9 => show (0 : Int) ≤ 0 ∧ (0 : Int) ≤ 6; decide
    exact this z.toNat
  have hv4 := hv (M 4 5)
  refine av_enter hX7_low oX7_low rfl rfl ?_
  refine ax_aloadn rfl rfl ?_
  refine ax_callV (as := []) rfl vX7_101 hX7_isBounded rfl rfl rfl rfl rfl (c_X7_isBounded E (d + 6) M hC) (av_Xk ?_)
  refine ax_if_ne rfl (by omega) (fun h4 => ?_) (fun h4 => ?_)
  · refine ax_iconst rfl ?_
    refine ax_gets0 rfl rfl ?_
    refine ax_aloadn rfl rfl ?_
    refine ax_getR rfl fX7_10 rfl rfl ?_
    refine ax_callV (as := []) rfl vX7_62 hX2_hull rfl rfl rfl rfl rfl (c_X2_hull E (d + 7) M) (av_Xk ?_)
    refine ax_callV (as := []) rfl vX7_66 hX4_size rfl rfl rfl rfl rfl (c_H_size E (d + 7) M) (av_Xk ?_)
    refine ax_sld0 rfl (by omega) ?_
    refine ax_aloadn rfl rfl ?_
    refine ax_callV (as := []) rfl vX7_111 hX7_levels rfl rfl rfl rfl rfl (c_X7_levels E (d + 6) M hC) (fun r26 M26 hr26 => ?_)
    obtain ⟨⟨k, rfl, hk⟩, rfl⟩ := hr26
    refine ax_max rfl (av_in (by decide +kernel) rfl) rfl (by omega) (by have := hk.1; have := hk.2.1; omega) ?_
    refine ax_max rfl (av_in (by decide +kernel) rfl) rfl (by omega) (by have := hk.1; have := hk.2.1; omega) ?_
    refine ax_iret rfl rfl ?_
    exact ⟨⟨_, rfl, Or.inr ⟨by omega, k, hk, rfl⟩⟩, rfl⟩
  · refine ax_ldc (z := (-900000003)) rfl kX7_84 rfl ?_
    refine ax_iret rfl rfl ?_
    exact ⟨⟨_, rfl, Or.inl ⟨by omega, rfl⟩⟩, rfl⟩
def FWm (M : av_M) (r : Int) : Prop := FW (fun i c => isum (fun k => M 10 (i * 8 + k) * M 11 (k * 12 + c)) (M 9 2).toNat = M 9 3 * gp (M 4 5) (fun k => M 5 (M 8 k)) (fun k => M 6 (M 8 k)) i c) (M 4 5) r
theorem FW_rng {ok : Int → Int → Prop} {h r : Int} (hh : h ≤ 12) (w : FW ok h r) : -2147483648 ≤ r ∧ r < 2147483648 ∧ (r = -900000009 ∨ 0 ≤ r) := by
  rcases w with ⟨i, j, a, b, c, e, -, -, q⟩ | ⟨-, q⟩ <;> omega
set_option maxRecDepth 100000 in
set_option maxHeartbeats 800000 in
theorem c_X7_hold (E : av_E) (d : Nat) (M : av_M) (hC : CI M) : av_Mt E (d + 8) mX7_hold [vR 0] M (fun res M' => (∃ z, res = some (vI z) ∧ ((M 4 5 < 3 ∧ z = (-900000003)) ∨ (¬ M 4 5 < 3 ∧ ∃ r, FWm M r ∧ (z = 1 ∧ r = -900000009 ∨ z = 0 ∧ r ≠ -900000009)))) ∧ M' = M) := by
  have hb := CI_b hC
  have hc0 := b01_c (M 4 5 < 3)
  refine av_enter hX7_hold oX7_hold rfl rfl ?_
  refine ax_aloadn rfl rfl ?_
  refine ax_getR rfl fX7_10 rfl rfl ?_
  refine ax_callV (as := []) rfl vX7_80 hX2_isFlat rfl rfl rfl rfl rfl (c_X2_isFlat E (d + 6) M (by omega)) (av_Xk ?_)
  refine ax_if_eq rfl (by omega) (fun h7 => ?_) (fun h7 => ?_)
  · refine ax_aloadn rfl rfl ?_
    refine ax_getR rfl fX7_19 rfl rfl ?_
    refine ax_aloadn rfl rfl ?_
    refine ax_getR rfl fX7_10 rfl rfl ?_
    refine ax_callV (as := [_]) rfl vX7_119 hX5_firstWrong rfl rfl rfl rfl rfl (c_X5_firstWrong E (d + 3) M _ hC.2.1 hC.1.2.2) (fun r21 M21 hr21 => ?_)
    obtain ⟨rfl, r, rfl, hr⟩ := hr21
    have hrr := FW_rng (by omega) hr
    refine ax_ldc (z := (-900000009)) rfl kX7_123 rfl ?_
    refine ax_icmp_ne rfl (by omega) (by omega) (fun h26 => ?_) (fun h26 => ?_)
    · refine ax_iconst rfl ?_
      refine ax_iret rfl rfl ?_
      first
        | exact ⟨⟨_, rfl, Or.inl ⟨by omega, rfl⟩⟩, rfl⟩
        | exact ⟨⟨_, rfl, Or.inr ⟨by omega, r, hr, by omega⟩⟩, rfl⟩
    · refine ax_iconst rfl ?_
      refine ax_goto rfl ?_
      refine ax_iret rfl rfl ?_
      first
        | exact ⟨⟨_, rfl, Or.inl ⟨by omega, rfl⟩⟩, rfl⟩
        | exact ⟨⟨_, rfl, Or.inr ⟨by omega, r, hr, by omega⟩⟩, rfl⟩
  · refine ax_ldc (z := (-900000003)) rfl kX7_84 rfl ?_
    refine ax_iret rfl rfl ?_
    first
      | exact ⟨⟨_, rfl, Or.inl ⟨by omega, rfl⟩⟩, rfl⟩
      | exact ⟨⟨_, rfl, Or.inr ⟨by omega, r, hr, by omega⟩⟩, rfl⟩
set_option maxRecDepth 100000 in
set_option maxHeartbeats 800000 in
theorem c_X7_wrong (E : av_E) (d : Nat) (M : av_M) (hC : CI M) : av_Mt E (d + 8) mX7_wrong [vR 0] M (fun res M' => (∃ z, res = some (vI z) ∧ ((M 4 5 < 3 ∧ z = (-900000003)) ∨ (¬ M 4 5 < 3 ∧ ∃ r, FWm M r ∧ (z = r)))) ∧ M' = M) := by
  have hb := CI_b hC
  have hc0 := b01_c (M 4 5 < 3)
  refine av_enter hX7_wrong oX7_wrong rfl rfl ?_
  refine ax_aloadn rfl rfl ?_
  refine ax_getR rfl fX7_10 rfl rfl ?_
  refine ax_callV (as := []) rfl vX7_80 hX2_isFlat rfl rfl rfl rfl rfl (c_X2_isFlat E (d + 6) M (by omega)) (av_Xk ?_)
  refine ax_if_eq rfl (by omega) (fun h7 => ?_) (fun h7 => ?_)
  · refine ax_aloadn rfl rfl ?_
    refine ax_getR rfl fX7_19 rfl rfl ?_
    refine ax_aloadn rfl rfl ?_
    refine ax_getR rfl fX7_10 rfl rfl ?_
    refine ax_callV (as := [_]) rfl vX7_119 hX5_firstWrong rfl rfl rfl rfl rfl (c_X5_firstWrong E (d + 3) M _ hC.2.1 hC.1.2.2) (fun r23 M23 hr23 => ?_)
    obtain ⟨rfl, r, rfl, hr⟩ := hr23
    have hrr := FW_rng (by omega) hr
    refine ax_iret rfl rfl ?_
    first
      | exact ⟨⟨_, rfl, Or.inl ⟨by omega, rfl⟩⟩, rfl⟩
      | exact ⟨⟨_, rfl, Or.inr ⟨by omega, r, hr, by omega⟩⟩, rfl⟩
  · refine ax_ldc (z := (-900000003)) rfl kX7_84 rfl ?_
    refine ax_goto rfl ?_
    refine ax_iret rfl rfl ?_
    first
      | exact ⟨⟨_, rfl, Or.inl ⟨by omega, rfl⟩⟩, rfl⟩
      | exact ⟨⟨_, rfl, Or.inr ⟨by omega, r, hr, by omega⟩⟩, rfl⟩
set_option maxRecDepth 100000 in
set_option maxHeartbeats 800000 in
theorem c_X7_about (E : av_E) (d : Nat) (M : av_M) (hC : CI M) (w k : Int) (hiw : -2147483648 ≤ w ∧ w < 2147483648) (hik : -2147483648 ≤ k ∧ k < 2147483648) : av_Mt E (d + 8) mX7_about [vR 0, vI w, vI k] M (av_X (some (vI (if ¬ (0 ≤ w ∧ w < M 13 4) then (-900000001) else if ¬ (0 ≤ k ∧ k ≤ 4) then (-900000002) else if k = 0 then M 14 w else if k = 1 then M 15 w else if k = 2 then M 16 w else if k = 3 then M 17 w else b01 ((M 13 5).toNat.testBit w.toNat = true)))) M) := by
  have hb := CI_b hC
  have hc0 := b01_c (0 ≤ w ∧ w < M 13 4)
  have hc1 := b01_c (0 ≤ k ∧ k ≤ 4)
  refine av_enter hX7_about oX7_about rfl rfl ?_
  refine ax_aloadn rfl rfl ?_
  refine ax_getR rfl fX7_26 rfl rfl ?_
  refine ax_callV (as := []) rfl vX7_151 hX0_walls rfl rfl rfl rfl rfl (c_X0_walls E (d + 7) M) (av_Xk ?_)
  refine ax_iloadn rfl rfl ?_
  refine ax_callV (as := [_]) rfl vX7_161 hX6_has rfl rfl rfl rfl rfl (c_X6_has E (d + 7) M w (by omega) (by omega)) (av_Xk ?_)
  refine ax_if_ne rfl (by omega) (fun h11 => ?_) (fun h11 => ?_)
  · refine ax_iloadn rfl rfl ?_
    refine ax_iconst rfl ?_
    refine ax_iconst rfl ?_
    refine ax_callS (as := [_, _, _]) rfl sX7_85 hX7_isWithin rfl rfl rfl rfl (c_X7_isWithin E (d + 7) M k 0 4 (by omega) (by omega) (by omega)) (av_Xk ?_)
    refine ax_if_eq rfl (by omega) (fun h23 => ?_) (fun h23 => ?_)
    · refine ax_ldc (z := (-900000002)) rfl kX7_41 rfl ?_
      refine ax_iret rfl rfl ?_
      first
        | exact av_rI (by rw [if_neg (show ¬ ¬ (0 ≤ w ∧ w < M 13 4) by omega), if_neg (show ¬ ¬ (0 ≤ k ∧ k ≤ 4) by omega)])
        | exact av_rI (by rw [if_neg (show ¬ ¬ (0 ≤ w ∧ w < M 13 4) by omega), if_pos (show ¬ (0 ≤ k ∧ k ≤ 4) by omega)])
        | exact av_rI (by rw [if_pos (show ¬ (0 ≤ w ∧ w < M 13 4) by omega)])
    · refine ax_aloadn rfl rfl ?_
      refine ax_getR rfl fX7_26 rfl rfl ?_
      refine ax_callV (as := []) rfl vX7_151 hX0_walls rfl rfl rfl rfl rfl (c_X0_walls E (d + 7) M) (av_Xk ?_)
      refine ax_iloadn rfl rfl ?_
      refine ax_iloadn rfl rfl ?_
      refine ax_callV (as := [_, _]) rfl vX7_169 hX6_part rfl rfl rfl rfl rfl (c_X6_part E (d + 6) M w k (by omega) (by omega) (by omega) (by omega)) (av_Xk ?_)
      refine ax_goto rfl ?_
      refine ax_iret rfl rfl ?_
      first
        | exact av_rI (by rw [if_neg (show ¬ ¬ (0 ≤ w ∧ w < M 13 4) by omega), if_neg (show ¬ ¬ (0 ≤ k ∧ k ≤ 4) by omega)])
        | exact av_rI (by rw [if_neg (show ¬ ¬ (0 ≤ w ∧ w < M 13 4) by omega), if_pos (show ¬ (0 ≤ k ∧ k ≤ 4) by omega)])
        | exact av_rI (by rw [if_pos (show ¬ (0 ≤ w ∧ w < M 13 4) by omega)])
  · refine ax_ldc (z := (-900000001)) rfl kX7_54 rfl ?_
    refine ax_iret rfl rfl ?_
    first
      | exact av_rI (by rw [if_neg (show ¬ ¬ (0 ≤ w ∧ w < M 13 4) by omega), if_neg (show ¬ ¬ (0 ≤ k ∧ k ≤ 4) by omega)])
      | exact av_rI (by rw [if_neg (show ¬ ¬ (0 ≤ w ∧ w < M 13 4) by omega), if_pos (show ¬ (0 ≤ k ∧ k ≤ 4) by omega)])
      | exact av_rI (by rw [if_pos (show ¬ (0 ≤ w ∧ w < M 13 4) by omega)])
set_option maxRecDepth 100000 in
set_option maxHeartbeats 800000 in
theorem c_X7_sound (E : av_E) (d : Nat) (M : av_M) (hC : CI M)  : av_Mt E (d + 8) mX7_sound [vR 0] M (av_X (some (vI (M 12 5))) M) := by
  have hb := CI_b hC
  refine av_enter hX7_sound oX7_sound rfl rfl ?_
  refine ax_aloadn rfl rfl ?_
  refine ax_getR rfl fX7_26 rfl rfl ?_
  refine ax_callV (as := []) rfl vX7_172 hX0_isSound rfl rfl rfl rfl rfl (c_X0_isSound E (d + 7) M hb.2.2.2.1) (av_Xk ?_)
  refine ax_if_eq rfl (by omega) (fun h7 => ?_) (fun h7 => ?_)
  · refine ax_iconst rfl ?_
    refine ax_iret rfl rfl ?_
    exact av_rI (by omega)
  · refine ax_iconst rfl ?_
    refine ax_goto rfl ?_
    refine ax_iret rfl rfl ?_
    exact av_rI (by omega)
set_option maxRecDepth 100000 in
set_option maxHeartbeats 800000 in
theorem c_X7_vertices (E : av_E) (d : Nat) (M : av_M)  : av_Mt E (d + 8) mX7_vertices [vR 0] M (av_X (some (vI (M 12 4))) M) := by
  refine av_enter hX7_vertices oX7_vertices rfl rfl ?_
  refine ax_aloadn rfl rfl ?_
  refine ax_getR rfl fX7_26 rfl rfl ?_
  refine ax_callV (as := []) rfl vX7_175 hX0_size rfl rfl rfl rfl rfl (c_X0_size E (d + 7) M) (av_Xk ?_)
  refine ax_iret rfl rfl ?_
  exact av_rI rfl
set_option maxRecDepth 100000 in
set_option maxHeartbeats 800000 in
theorem c_X7_vertex (E : av_E) (d : Nat) (M : av_M) (hC : CI M) (v k u : Int) (hiv : -2147483648 ≤ v ∧ v < 2147483648) (hik : -2147483648 ≤ k ∧ k < 2147483648) (hiu : -2147483648 ≤ u ∧ u < 2147483648) : av_Mt E (d + 8) mX7_vertex [vR 0, vI v, vI k, vI u] M (av_X (some (vL (if ¬ (0 ≤ v ∧ v < M 12 4) then (-900000001) else if ¬ (0 ≤ k ∧ k ≤ 2) then (-900000002) else tl (if k = 0 then (vp M v).1 else if k = 1 then (vp M v).2.1 else (vp M v).2.2) u))) M) := by
  have hb := CI_b hC
  have hc0 := b01_c (0 ≤ v ∧ v < M 12 4)
  have hc1 := b01_c (0 ≤ k ∧ k ≤ 2)
  refine av_enter hX7_vertex oX7_vertex rfl rfl ?_
  refine ax_aloadn rfl rfl ?_
  refine ax_getR rfl fX7_26 rfl rfl ?_
  refine ax_iloadn rfl rfl ?_
  refine ax_callV (as := [_]) rfl vX7_176 hX0_has rfl rfl rfl rfl rfl (c_X0_has E (d + 7) M v (by omega) (by omega)) (av_Xk ?_)
  refine ax_if_ne rfl (by omega) (fun h8 => ?_) (fun h8 => ?_)
  · refine ax_iloadn rfl rfl ?_
    refine ax_iconst rfl ?_
    refine ax_iconst rfl ?_
    refine ax_callS (as := [_, _, _]) rfl sX7_85 hX7_isWithin rfl rfl rfl rfl (c_X7_isWithin E (d + 7) M k 0 2 (by omega) (by omega) (by omega)) (av_Xk ?_)
    refine ax_if_eq rfl (by omega) (fun h21 => ?_) (fun h21 => ?_)
    · refine ax_ldc2 (z := (-900000002)) rfl kX7_183 rfl ?_
      refine ax_lret rfl rfl ?_
      first
        | exact av_rL (by rw [if_neg (show ¬ ¬ (0 ≤ v ∧ v < M 12 4) by omega), if_neg (show ¬ ¬ (0 ≤ k ∧ k ≤ 2) by omega)])
        | exact av_rL (by rw [if_neg (show ¬ ¬ (0 ≤ v ∧ v < M 12 4) by omega), if_pos (show ¬ (0 ≤ k ∧ k ≤ 2) by omega)])
        | exact av_rL (by rw [if_pos (show ¬ (0 ≤ v ∧ v < M 12 4) by omega)])
    · refine ax_aloadn rfl rfl ?_
      refine ax_getR rfl fX7_26 rfl rfl ?_
      refine ax_iloadn rfl rfl ?_
      refine ax_iloadn rfl rfl ?_
      refine ax_iloadn rfl rfl ?_
      refine ax_callV (as := [_, _, _]) rfl vX7_179 hX0_coordinate rfl rfl rfl rfl rfl (c_X0_coordinate E (d + 4) M hC.2.2.1 v k u (by omega) (by omega) (by omega)) (av_Xk ?_)
      refine ax_goto rfl ?_
      refine ax_lret rfl rfl ?_
      first
        | exact av_rL (by rw [if_neg (show ¬ ¬ (0 ≤ v ∧ v < M 12 4) by omega), if_neg (show ¬ ¬ (0 ≤ k ∧ k ≤ 2) by omega)])
        | exact av_rL (by rw [if_neg (show ¬ ¬ (0 ≤ v ∧ v < M 12 4) by omega), if_pos (show ¬ (0 ≤ k ∧ k ≤ 2) by omega)])
        | exact av_rL (by rw [if_pos (show ¬ (0 ≤ v ∧ v < M 12 4) by omega)])
  · refine ax_ldc2 (z := (-900000001)) rfl kX7_177 rfl ?_
    refine ax_lret rfl rfl ?_
    first
      | exact av_rL (by rw [if_neg (show ¬ ¬ (0 ≤ v ∧ v < M 12 4) by omega), if_neg (show ¬ ¬ (0 ≤ k ∧ k ≤ 2) by omega)])
      | exact av_rL (by rw [if_neg (show ¬ ¬ (0 ≤ v ∧ v < M 12 4) by omega), if_pos (show ¬ (0 ≤ k ∧ k ≤ 2) by omega)])
      | exact av_rL (by rw [if_pos (show ¬ (0 ≤ v ∧ v < M 12 4) by omega)])
set_option maxRecDepth 100000 in
set_option maxHeartbeats 800000 in
theorem c_X7_tight (E : av_E) (d : Nat) (M : av_M) (hC : CI M) (v : Int) (hiv : -2147483648 ≤ v ∧ v < 2147483648) : av_Mt E (d + 8) mX7_tight [vR 0, vI v] M (av_X (some (vI (if ¬ (0 ≤ v ∧ v < M 12 4) then (-900000001) else tq M v))) M) := by
  have hb := CI_b hC
  have hc0 := b01_c (0 ≤ v ∧ v < M 12 4)
  refine av_enter hX7_tight oX7_tight rfl rfl ?_
  refine ax_aloadn rfl rfl ?_
  refine ax_getR rfl fX7_26 rfl rfl ?_
  refine ax_iloadn rfl rfl ?_
  refine ax_callV (as := [_]) rfl vX7_176 hX0_has rfl rfl rfl rfl rfl (c_X0_has E (d + 7) M v (by omega) (by omega)) (av_Xk ?_)
  refine ax_if_eq rfl (by omega) (fun h8 => ?_) (fun h8 => ?_)
  · refine ax_ldc (z := (-900000001)) rfl kX7_54 rfl ?_
    refine ax_iret rfl rfl ?_
    exact av_rI (by (repeat' split) <;> omega)
  · refine ax_aloadn rfl rfl ?_
    refine ax_getR rfl fX7_26 rfl rfl ?_
    refine ax_iloadn rfl rfl ?_
    refine ax_callV (as := [_]) rfl vX7_185 hX0_tightAt rfl rfl rfl rfl rfl (c_X0_tightAt E (d + 6) M hC.2.2.1 v (by omega)) (av_Xk ?_)
    refine ax_goto rfl ?_
    refine ax_iret rfl rfl ?_
    exact av_rI (by (repeat' split) <;> omega)
set_option maxRecDepth 100000 in
set_option maxHeartbeats 800000 in
theorem c_X7_rims (E : av_E) (d : Nat) (M : av_M) (hC : CI M)  : av_Mt E (d + 8) mX7_rims [vR 0] M (av_X (some (vI (if M 12 5 = 0 then (-900000003) else isum (rmF M) (M 12 4).toNat))) M) := by
  have hb := CI_b hC
  refine av_enter hX7_rims oX7_rims rfl rfl ?_
  refine ax_aloadn rfl rfl ?_
  refine ax_getR rfl fX7_26 rfl rfl ?_
  refine ax_callV (as := []) rfl vX7_172 hX0_isSound rfl rfl rfl rfl rfl (c_X0_isSound E (d + 7) M hb.2.2.2.1) (av_Xk ?_)
  refine ax_if_eq rfl (by omega) (fun h7 => ?_) (fun h7 => ?_)
  · refine ax_ldc (z := (-900000003)) rfl kX7_84 rfl ?_
    refine ax_iret rfl rfl ?_
    exact av_rI (by (repeat' split) <;> omega)
  · refine ax_aloadn rfl rfl ?_
    refine ax_getR rfl fX7_26 rfl rfl ?_
    refine ax_callV (as := []) rfl vX7_188 hX0_rimCount rfl rfl rfl rfl rfl (c_X0_rimCount E (d + 4) M hC.2.2.1) (av_Xk ?_)
    refine ax_goto rfl ?_
    refine ax_iret rfl rfl ?_
    exact av_rI (by (repeat' split) <;> omega)
set_option maxRecDepth 100000 in
set_option maxHeartbeats 800000 in
theorem c_X7_idle (E : av_E) (d : Nat) (M : av_M) (hC : CI M) (w : Int) (hiw : -2147483648 ≤ w ∧ w < 2147483648) : av_Mt E (d + 8) mX7_idle [vR 0, vI w] M (av_X (some (vI (if ¬ (0 ≤ w ∧ w < M 13 4) then (-900000001) else if M 12 5 = 0 then (-900000003) else b01 (Idl M w)))) M) := by
  have hb := CI_b hC
  have hc0 := b01_c (0 ≤ w ∧ w < M 13 4)
  have hc1 := b01_c (Idl M w)
  refine av_enter hX7_idle oX7_idle rfl rfl ?_
  refine ax_aloadn rfl rfl ?_
  refine ax_getR rfl fX7_26 rfl rfl ?_
  refine ax_callV (as := []) rfl vX7_151 hX0_walls rfl rfl rfl rfl rfl (c_X0_walls E (d + 7) M) (av_Xk ?_)
  refine ax_iloadn rfl rfl ?_
  refine ax_callV (as := [_]) rfl vX7_161 hX6_has rfl rfl rfl rfl rfl (c_X6_has E (d + 7) M w (by omega) (by omega)) (av_Xk ?_)
  refine ax_if_ne rfl (by omega) (fun h11 => ?_) (fun h11 => ?_)
  · refine ax_aloadn rfl rfl ?_
    refine ax_getR rfl fX7_26 rfl rfl ?_
    refine ax_callV (as := []) rfl vX7_172 hX0_isSound rfl rfl rfl rfl rfl (c_X0_isSound E (d + 7) M hb.2.2.2.1) (av_Xk ?_)
    refine ax_if_ne rfl (by omega) (fun h24 => ?_) (fun h24 => ?_)
    · refine ax_aloadn rfl rfl ?_
      refine ax_getR rfl fX7_26 rfl rfl ?_
      refine ax_iloadn rfl rfl ?_
      refine ax_callV (as := [_]) rfl vX7_191 hX0_isIdle rfl rfl rfl rfl rfl (c_X0_isIdle E (d + 5) M hC.2.2.1 w (by omega)) (av_Xk ?_)
      refine ax_if_eq rfl (by omega) (fun h38 => ?_) (fun h38 => ?_)
      · refine ax_iconst rfl ?_
        refine ax_iret rfl rfl ?_
        exact av_rI (by (repeat' split) <;> omega)
      · refine ax_iconst rfl ?_
        refine ax_goto rfl ?_
        refine ax_iret rfl rfl ?_
        exact av_rI (by (repeat' split) <;> omega)
    · refine ax_ldc (z := (-900000003)) rfl kX7_84 rfl ?_
      refine ax_iret rfl rfl ?_
      exact av_rI (by (repeat' split) <;> omega)
  · refine ax_ldc (z := (-900000001)) rfl kX7_54 rfl ?_
    refine ax_iret rfl rfl ?_
    exact av_rI (by (repeat' split) <;> omega)
set_option maxRecDepth 100000 in
set_option maxHeartbeats 800000 in
theorem c_X7_shadow (E : av_E) (d : Nat) (M : av_M) (hC : CI M)  : av_Mt E (d + 8) mX7_shadow [vR 0] M (av_X (some (vI (if M 12 5 = 0 then (-900000003) else M 28 5))) M) := by
  have hb := CI_b hC
  refine av_enter hX7_shadow oX7_shadow rfl rfl ?_
  refine ax_aloadn rfl rfl ?_
  refine ax_getR rfl fX7_26 rfl rfl ?_
  refine ax_callV (as := []) rfl vX7_172 hX0_isSound rfl rfl rfl rfl rfl (c_X0_isSound E (d + 7) M hb.2.2.2.1) (av_Xk ?_)
  refine ax_if_eq rfl (by omega) (fun h7 => ?_) (fun h7 => ?_)
  · refine ax_ldc (z := (-900000003)) rfl kX7_84 rfl ?_
    refine ax_iret rfl rfl ?_
    exact av_rI (by (repeat' split) <;> omega)
  · refine ax_aloadn rfl rfl ?_
    refine ax_getR rfl fX7_26 rfl rfl ?_
    refine ax_callV (as := []) rfl vX7_194 hX0_outline rfl rfl rfl rfl rfl (c_X0_outline E (d + 7) M) (av_Xk ?_)
    refine ax_callV (as := []) rfl vX7_66 hX4_size rfl rfl rfl rfl rfl (c_O_size E (d + 7) M) (av_Xk ?_)
    refine ax_goto rfl ?_
    refine ax_iret rfl rfl ?_
    exact av_rI (by (repeat' split) <;> omega)
set_option maxRecDepth 100000 in
set_option maxHeartbeats 800000 in
theorem c_X7_shadowAt (E : av_E) (d : Nat) (M : av_M) (hC : CI M) (c y u : Int) (hic : -2147483648 ≤ c ∧ c < 2147483648) (hiy : -2147483648 ≤ y ∧ y < 2147483648) (hiu : -2147483648 ≤ u ∧ u < 2147483648) : av_Mt E (d + 8) mX7_shadowAt [vR 0, vI c, vI y, vI u] M (av_X (some (vL (if M 12 5 = 0 then (-900000003) else if ¬ (0 ≤ c ∧ c < M 28 5) then (-900000001) else tl (((if y = 0 then M 29 (M 32 c) else M 30 (M 32 c) : Int) : Rat) / ((M 31 (M 32 c) : Int) : Rat)) u))) M) := by
  have hb := CI_b hC
  have hc0 := b01_c (0 ≤ c ∧ c < M 28 5)
  refine av_enter hX7_shadowAt oX7_shadowAt rfl rfl ?_
  refine ax_aloadn rfl rfl ?_
  refine ax_getR rfl fX7_26 rfl rfl ?_
  refine ax_callV (as := []) rfl vX7_172 hX0_isSound rfl rfl rfl rfl rfl (c_X0_isSound E (d + 7) M hb.2.2.2.1) (av_Xk ?_)
  refine ax_if_ne rfl (by omega) (fun h7 => ?_) (fun h7 => ?_)
  · refine ax_aloadn rfl rfl ?_
    refine ax_getR rfl fX7_26 rfl rfl ?_
    refine ax_callV (as := []) rfl vX7_194 hX0_outline rfl rfl rfl rfl rfl (c_X0_outline E (d + 7) M) (av_Xk ?_)
    refine ax_astore (ls' := [(0, _), (1, _), (2, _), (3, _), (4, _)]) rfl rfl rfl ?_
    refine ax_aload rfl rfl ?_
    refine ax_iloadn rfl rfl ?_
    refine ax_callV (as := [_]) rfl vX7_69 hX4_has rfl rfl rfl rfl rfl (c_O_has E (d + 7) M c (by omega) (by omega)) (av_Xk ?_)
    refine ax_if_ne rfl (by omega) (fun h29 => ?_) (fun h29 => ?_)
    · have hx := CI_ringO hC (c := c) (by omega) (by omega)
      have hx2 := hx.2
      unfold BP at hx2
      refine ax_iloadn rfl rfl ?_
      refine ax_if_eq rfl (by omega) (fun h37 => ?_) (fun h37 => ?_)
      · refine ax_aload rfl rfl ?_
        refine ax_iloadn rfl rfl ?_
        refine ax_callV (as := [_]) rfl vX7_77 hX4_xOf rfl rfl rfl rfl rfl (c_O_xOf E (d + 7) M c (by omega) hx.1) (av_Xk ?_)
        refine ax_i2l rfl (by omega) ?_
        refine ax_aload rfl rfl ?_
        refine ax_iloadn rfl rfl ?_
        refine ax_callV (as := [_]) rfl vX7_199 hX4_wOf rfl rfl rfl rfl rfl (c_O_wOf E (d + 7) M c (by omega) hx.1) (av_Xk ?_)
        refine ax_i2l rfl (by omega) ?_
        refine ax_iloadn rfl rfl ?_
        refine ax_callS (as := [_, _, _]) rfl sX7_202 hX7_told rfl rfl rfl rfl (c_G_told E (d + 5) M _ _ u (by omega) (by omega) (by omega)) (av_Xk ?_)
        refine ax_lret rfl rfl ?_
        first
          | exact av_rL (by rw [if_neg (by omega), if_neg (by omega), if_pos (by omega)])
          | exact av_rL (by rw [if_neg (by omega), if_neg (by omega), if_neg (by omega)])
          | exact av_rL (by rw [if_neg (by omega), if_pos (by omega)])
          | exact av_rL (by rw [if_pos (by omega)])
      · refine ax_aload rfl rfl ?_
        refine ax_iloadn rfl rfl ?_
        refine ax_callV (as := [_]) rfl vX7_73 hX4_yOf rfl rfl rfl rfl rfl (c_O_yOf E (d + 7) M c (by omega) hx.1) (av_Xk ?_)
        refine ax_i2l rfl (by omega) ?_
        refine ax_goto rfl ?_
        refine ax_aload rfl rfl ?_
        refine ax_iloadn rfl rfl ?_
        refine ax_callV (as := [_]) rfl vX7_199 hX4_wOf rfl rfl rfl rfl rfl (c_O_wOf E (d + 7) M c (by omega) hx.1) (av_Xk ?_)
        refine ax_i2l rfl (by omega) ?_
        refine ax_iloadn rfl rfl ?_
        refine ax_callS (as := [_, _, _]) rfl sX7_202 hX7_told rfl rfl rfl rfl (c_G_told E (d + 5) M _ _ u (by omega) (by omega) (by omega)) (av_Xk ?_)
        refine ax_lret rfl rfl ?_
        first
          | exact av_rL (by rw [if_neg (by omega), if_neg (by omega), if_pos (by omega)])
          | exact av_rL (by rw [if_neg (by omega), if_neg (by omega), if_neg (by omega)])
          | exact av_rL (by rw [if_neg (by omega), if_pos (by omega)])
          | exact av_rL (by rw [if_pos (by omega)])
    · refine ax_ldc2 (z := (-900000001)) rfl kX7_177 rfl ?_
      refine ax_lret rfl rfl ?_
      first
        | exact av_rL (by rw [if_neg (by omega), if_neg (by omega), if_pos (by omega)])
        | exact av_rL (by rw [if_neg (by omega), if_neg (by omega), if_neg (by omega)])
        | exact av_rL (by rw [if_neg (by omega), if_pos (by omega)])
        | exact av_rL (by rw [if_pos (by omega)])
  · refine ax_ldc2 (z := (-900000003)) rfl kX7_197 rfl ?_
    refine ax_lret rfl rfl ?_
    first
      | exact av_rL (by rw [if_neg (by omega), if_neg (by omega), if_pos (by omega)])
      | exact av_rL (by rw [if_neg (by omega), if_neg (by omega), if_neg (by omega)])
      | exact av_rL (by rw [if_neg (by omega), if_pos (by omega)])
      | exact av_rL (by rw [if_pos (by omega)])
set_option maxRecDepth 100000 in
set_option maxHeartbeats 800000 in
theorem c_X7_seen (E : av_E) (d : Nat) (M : av_M) (hC : CI M)  : av_Mt E (d + 8) mX7_seen [vR 0] M (av_X (some (vI (if M 12 5 = 0 then (-900000003) else if M 4 5 < 3 then 0 else if msO M = 0 ∧ msH M = 0 then 1 else 0))) M) := by
  have hb := CI_b hC
  have hc0 := b01_c (M 4 5 < 3)
  have h1 := msO_rng hC
  have h2 := msH_rng hC
  have e1 : msO M = cntP _ _ := rfl
  have e2 : msH M = cntP _ _ := rfl
  refine av_enter hX7_seen oX7_seen rfl rfl ?_
  refine ax_aloadn rfl rfl ?_
  refine ax_getR rfl fX7_26 rfl rfl ?_
  refine ax_callV (as := []) rfl vX7_172 hX0_isSound rfl rfl rfl rfl rfl (c_X0_isSound E (d + 7) M hb.2.2.2.1) (av_Xk ?_)
  refine ax_if_ne rfl (by omega) (fun h7 => ?_) (fun h7 => ?_)
  · refine ax_aloadn rfl rfl ?_
    refine ax_getR rfl fX7_10 rfl rfl ?_
    refine ax_callV (as := []) rfl vX7_80 hX2_isFlat rfl rfl rfl rfl rfl (c_X2_isFlat E (d + 6) M (by omega)) (av_Xk ?_)
    refine ax_if_eq rfl (by omega) (fun h20 => ?_) (fun h20 => ?_)
    · refine ax_aloadn rfl rfl ?_
      refine ax_getR rfl fX7_26 rfl rfl ?_
      refine ax_callV (as := []) rfl vX7_194 hX0_outline rfl rfl rfl rfl rfl (c_X0_outline E (d + 7) M) (av_Xk ?_)
      refine ax_aloadn rfl rfl ?_
      refine ax_getR rfl fX7_10 rfl rfl ?_
      refine ax_callV (as := []) rfl vX7_62 hX2_hull rfl rfl rfl rfl rfl (c_X2_hull E (d + 7) M) (av_Xk ?_)
      refine ax_callV (as := [_]) rfl vX7_206 hX4_cornersMissing rfl rfl rfl rfl rfl (c_O_missing E (d + 4) M _ _ hC.2.2.1.2.2.2.2.2.1 hC.2.2.1.2.2.2.2.2.2 (by omega) hC.1.2.2.1 hC.1.2.2.2.1 (by omega)) (av_Xk ?_)
      refine ax_if_ne rfl (by rw [← e1]; omega) (fun h42 => ?_) (fun h42 => ?_)
      · refine ax_iconst rfl ?_
        refine ax_istoren (ls' := [(0, _), (1, _)]) rfl rfl rfl ?_
        refine ax_iloadn rfl rfl ?_
        refine ax_if_eq rfl (by omega) (fun h72 => ?_) (fun h72 => ?_)
        · refine ax_iconst rfl ?_
          refine ax_iret rfl rfl ?_
          try rw [← e1] at h42
          try rw [← e2] at h62
          exact av_rI (by (repeat' split) <;> omega)
        · refine ax_iconst rfl ?_
          refine ax_goto rfl ?_
          refine ax_iret rfl rfl ?_
          try rw [← e1] at h42
          try rw [← e2] at h62
          exact av_rI (by (repeat' split) <;> omega)
      · refine ax_aloadn rfl rfl ?_
        refine ax_getR rfl fX7_10 rfl rfl ?_
        refine ax_callV (as := []) rfl vX7_62 hX2_hull rfl rfl rfl rfl rfl (c_X2_hull E (d + 7) M) (av_Xk ?_)
        refine ax_aloadn rfl rfl ?_
        refine ax_getR rfl fX7_26 rfl rfl ?_
        refine ax_callV (as := []) rfl vX7_194 hX0_outline rfl rfl rfl rfl rfl (c_X0_outline E (d + 7) M) (av_Xk ?_)
        refine ax_callV (as := [_]) rfl vX7_206 hX4_cornersMissing rfl rfl rfl rfl rfl (c_H_missing E (d + 4) M _ _ hC.1.2.2.1 hC.1.2.2.2.1 (by omega) hC.2.2.1.2.2.2.2.2.1 hC.2.2.1.2.2.2.2.2.2 (by omega)) (av_Xk ?_)
        refine ax_if_ne rfl (by rw [← e2]; omega) (fun h62 => ?_) (fun h62 => ?_)
        · refine ax_iconst rfl ?_
          refine ax_istoren (ls' := [(0, _), (1, _)]) rfl rfl rfl ?_
          refine ax_iloadn rfl rfl ?_
          refine ax_if_eq rfl (by omega) (fun h72 => ?_) (fun h72 => ?_)
          · refine ax_iconst rfl ?_
            refine ax_iret rfl rfl ?_
            try rw [← e1] at h42
            try rw [← e2] at h62
            exact av_rI (by (repeat' split) <;> omega)
          · refine ax_iconst rfl ?_
            refine ax_goto rfl ?_
            refine ax_iret rfl rfl ?_
            try rw [← e1] at h42
            try rw [← e2] at h62
            exact av_rI (by (repeat' split) <;> omega)
        · refine ax_iconst rfl ?_
          refine ax_goto rfl ?_
          refine ax_istoren (ls' := [(0, _), (1, _)]) rfl rfl rfl ?_
          refine ax_iloadn rfl rfl ?_
          refine ax_if_eq rfl (by omega) (fun h72 => ?_) (fun h72 => ?_)
          · refine ax_iconst rfl ?_
            refine ax_iret rfl rfl ?_
            try rw [← e1] at h42
            try rw [← e2] at h62
            exact av_rI (by (repeat' split) <;> omega)
          · refine ax_iconst rfl ?_
            refine ax_goto rfl ?_
            refine ax_iret rfl rfl ?_
            try rw [← e1] at h42
            try rw [← e2] at h62
            exact av_rI (by (repeat' split) <;> omega)
    · refine ax_iconst rfl ?_
      refine ax_iret rfl rfl ?_
      try rw [← e1] at h42
      try rw [← e2] at h62
      exact av_rI (by (repeat' split) <;> omega)
  · refine ax_ldc (z := (-900000003)) rfl kX7_84 rfl ?_
    refine ax_iret rfl rfl ?_
    try rw [← e1] at h42
    try rw [← e2] at h62
    exact av_rI (by (repeat' split) <;> omega)
set_option maxRecDepth 100000 in
set_option maxHeartbeats 800000 in
theorem c_X7_missed (E : av_E) (d : Nat) (M : av_M) (hC : CI M)  : av_Mt E (d + 8) mX7_missed [vR 0] M (av_X (some (vI (if M 12 5 = 0 then (-900000003) else msO M))) M) := by
  have hb := CI_b hC
  have e1 : msO M = cntP _ _ := rfl
  refine av_enter hX7_missed oX7_missed rfl rfl ?_
  refine ax_aloadn rfl rfl ?_
  refine ax_getR rfl fX7_26 rfl rfl ?_
  refine ax_callV (as := []) rfl vX7_172 hX0_isSound rfl rfl rfl rfl rfl (c_X0_isSound E (d + 7) M hb.2.2.2.1) (av_Xk ?_)
  refine ax_if_eq rfl (by omega) (fun h7 => ?_) (fun h7 => ?_)
  · refine ax_ldc (z := (-900000003)) rfl kX7_84 rfl ?_
    refine ax_iret rfl rfl ?_
    try rw [← e1]
    exact av_rI (by (repeat' split) <;> omega)
  · refine ax_aloadn rfl rfl ?_
    refine ax_getR rfl fX7_26 rfl rfl ?_
    refine ax_callV (as := []) rfl vX7_194 hX0_outline rfl rfl rfl rfl rfl (c_X0_outline E (d + 7) M) (av_Xk ?_)
    refine ax_aloadn rfl rfl ?_
    refine ax_getR rfl fX7_10 rfl rfl ?_
    refine ax_callV (as := []) rfl vX7_62 hX2_hull rfl rfl rfl rfl rfl (c_X2_hull E (d + 7) M) (av_Xk ?_)
    refine ax_callV (as := [_]) rfl vX7_206 hX4_cornersMissing rfl rfl rfl rfl rfl (c_O_missing E (d + 4) M _ _ hC.2.2.1.2.2.2.2.2.1 hC.2.2.1.2.2.2.2.2.2 (by omega) hC.1.2.2.1 hC.1.2.2.2.1 (by omega)) (av_Xk ?_)
    refine ax_goto rfl ?_
    refine ax_iret rfl rfl ?_
    try rw [← e1]
    exact av_rI (by (repeat' split) <;> omega)
set_option maxRecDepth 100000 in
set_option maxHeartbeats 800000 in
theorem c_X7_beyond (E : av_E) (d : Nat) (M : av_M) (hC : CI M)  : av_Mt E (d + 8) mX7_beyond [vR 0] M (av_X (some (vI (if M 12 5 = 0 ∨ M 1 3 = 0 then (-900000003) else msH M))) M) := by
  have hb := CI_b hC
  have e1 : msH M = cntP _ _ := rfl
  have hn := hC.1.1
  refine av_enter hX7_beyond oX7_beyond rfl rfl ?_
  refine ax_aloadn rfl rfl ?_
  refine ax_getR rfl fX7_26 rfl rfl ?_
  refine ax_callV (as := []) rfl vX7_172 hX0_isSound rfl rfl rfl rfl rfl (c_X0_isSound E (d + 7) M hb.2.2.2.1) (av_Xk ?_)
  refine ax_if_eq rfl (by omega) (fun h7 => ?_) (fun h7 => ?_)
  · refine ax_ldc (z := (-900000003)) rfl kX7_84 rfl ?_
    refine ax_iret rfl rfl ?_
    try rw [← e1]
    exact av_rI (by (repeat' split) <;> omega)
  · refine ax_aloadn rfl rfl ?_
    refine ax_getR rfl fX7_10 rfl rfl ?_
    refine ax_callV (as := []) rfl vX7_42 hX2_size rfl rfl rfl rfl rfl (c_X2_size E (d + 7) M) (av_Xk ?_)
    refine ax_if_ne rfl (by omega) (fun h17 => ?_) (fun h17 => ?_)
    · refine ax_aloadn rfl rfl ?_
      refine ax_getR rfl fX7_10 rfl rfl ?_
      refine ax_callV (as := []) rfl vX7_62 hX2_hull rfl rfl rfl rfl rfl (c_X2_hull E (d + 7) M) (av_Xk ?_)
      refine ax_aloadn rfl rfl ?_
      refine ax_getR rfl fX7_26 rfl rfl ?_
      refine ax_callV (as := []) rfl vX7_194 hX0_outline rfl rfl rfl rfl rfl (c_X0_outline E (d + 7) M) (av_Xk ?_)
      refine ax_callV (as := [_]) rfl vX7_206 hX4_cornersMissing rfl rfl rfl rfl rfl (c_H_missing E (d + 4) M _ _ hC.1.2.2.1 hC.1.2.2.2.1 (by omega) hC.2.2.1.2.2.2.2.2.1 hC.2.2.1.2.2.2.2.2.2 (by omega)) (av_Xk ?_)
      refine ax_iret rfl rfl ?_
      try rw [← e1]
      exact av_rI (by (repeat' split) <;> omega)
    · refine ax_ldc (z := (-900000003)) rfl kX7_84 rfl ?_
      refine ax_iret rfl rfl ?_
      try rw [← e1]
      exact av_rI (by (repeat' split) <;> omega)
set_option maxRecDepth 100000 in
set_option maxHeartbeats 800000 in
theorem c_X7_most (E : av_E) (d : Nat) (M : av_M) (hC : CI M) (p q : Int) (hip : -2147483648 ≤ p ∧ p < 2147483648) (hiq : -2147483648 ≤ q ∧ q < 2147483648) : av_Mt E (d + 8) mX7_most [vR 0, vI p, vI q] M (av_X (some (vI (if ¬ ((-99 ≤ p ∧ p ≤ 99) ∧ (-99 ≤ q ∧ q ≤ 99)) then (-900000002) else if M 1 3 = 0 then (-900000003) else mxI (fun i => p * M 2 i + q * M 3 i) (M 1 3 - 1).toNat))) M) := by
  have hb := CI_b hC
  have hn := hC.1.1
  have hc0 := b01_c (-99 ≤ p ∧ p ≤ 99)
  have hc1 := b01_c (-99 ≤ q ∧ q ≤ 99)
  refine av_enter hX7_most oX7_most rfl rfl ?_
  refine ax_iloadn rfl rfl ?_
  refine ax_callS (as := [_]) rfl sX7_217 hX7_isAim rfl rfl rfl rfl (c_X7_isAim E (d + 6) M p (by omega)) (av_Xk ?_)
  refine ax_if_eq rfl (by omega) (fun h4 => ?_) (fun h4 => ?_)
  · refine ax_ldc (z := (-900000002)) rfl kX7_41 rfl ?_
    refine ax_iret rfl rfl ?_
    exact av_rI (by (repeat' split) <;> omega)
  · refine ax_iloadn rfl rfl ?_
    refine ax_callS (as := [_]) rfl sX7_217 hX7_isAim rfl rfl rfl rfl (c_X7_isAim E (d + 6) M q (by omega)) (av_Xk ?_)
    refine ax_if_ne rfl (by omega) (fun h11 => ?_) (fun h11 => ?_)
    · refine ax_aloadn rfl rfl ?_
      refine ax_getR rfl fX7_10 rfl rfl ?_
      refine ax_callV (as := []) rfl vX7_42 hX2_size rfl rfl rfl rfl rfl (c_X2_size E (d + 7) M) (av_Xk ?_)
      refine ax_if_ne rfl (by omega) (fun h24 => ?_) (fun h24 => ?_)
      · refine ax_aloadn rfl rfl ?_
        refine ax_getR rfl fX7_10 rfl rfl ?_
        refine ax_iloadn rfl rfl ?_
        refine ax_iloadn rfl rfl ?_
        refine ax_callV (as := [_, _]) rfl vX7_220 hX2_greatest rfl rfl rfl rfl rfl (c_X2_greatest E (d + 6) M p q (by omega) (by omega) (by omega) hC.1.2.1) (av_Xk ?_)
        refine ax_iret rfl rfl ?_
        exact av_rI (by (repeat' split) <;> omega)
      · refine ax_ldc (z := (-900000003)) rfl kX7_84 rfl ?_
        refine ax_goto rfl ?_
        refine ax_iret rfl rfl ?_
        exact av_rI (by (repeat' split) <;> omega)
    · refine ax_ldc (z := (-900000002)) rfl kX7_41 rfl ?_
      refine ax_iret rfl rfl ?_
      exact av_rI (by (repeat' split) <;> omega)
set_option maxRecDepth 100000 in
set_option maxHeartbeats 800000 in
theorem c_X7_aimRefusal (E : av_E) (d : Nat) (M : av_M) (hC : CI M) (p q s : Int) (hip : -2147483648 ≤ p ∧ p < 2147483648) (hiq : -2147483648 ≤ q ∧ q < 2147483648) (his : -2147483648 ≤ s ∧ s < 2147483648) : av_Mt E (d + 2) mX7_aimRefusal [vR 0, vI p, vI q, vI s] M (av_X (some (vI (if ¬ ((-99 ≤ p ∧ p ≤ 99) ∧ (-99 ≤ q ∧ q ≤ 99) ∧ (-99 ≤ s ∧ s ≤ 99)) then (-900000002) else if M 12 5 = 0 then (-900000003) else 0))) M) := by
  have hb := CI_b hC
  have hc0 := b01_c (-99 ≤ p ∧ p ≤ 99)
  have hc1 := b01_c (-99 ≤ q ∧ q ≤ 99)
  have hc2 := b01_c (-99 ≤ s ∧ s ≤ 99)
  refine av_enter hX7_aimRefusal oX7_aimRefusal rfl rfl ?_
  refine ax_iloadn rfl rfl ?_
  refine ax_callS (as := [_]) rfl sX7_217 hX7_isAim rfl rfl rfl rfl (c_X7_isAim E d M p (by omega)) (av_Xk ?_)
  refine ax_if_eq rfl (by omega) (fun h4 => ?_) (fun h4 => ?_)
  · refine ax_ldc (z := (-900000002)) rfl kX7_41 rfl ?_
    refine ax_iret rfl rfl ?_
    exact av_rI (by (repeat' split) <;> omega)
  · refine ax_iloadn rfl rfl ?_
    refine ax_callS (as := [_]) rfl sX7_217 hX7_isAim rfl rfl rfl rfl (c_X7_isAim E d M q (by omega)) (av_Xk ?_)
    refine ax_if_eq rfl (by omega) (fun h11 => ?_) (fun h11 => ?_)
    · refine ax_ldc (z := (-900000002)) rfl kX7_41 rfl ?_
      refine ax_iret rfl rfl ?_
      exact av_rI (by (repeat' split) <;> omega)
    · refine ax_iloadn rfl rfl ?_
      refine ax_callS (as := [_]) rfl sX7_217 hX7_isAim rfl rfl rfl rfl (c_X7_isAim E d M s (by omega)) (av_Xk ?_)
      refine ax_if_ne rfl (by omega) (fun h18 => ?_) (fun h18 => ?_)
      · refine ax_aloadn rfl rfl ?_
        refine ax_getR rfl fX7_26 rfl rfl ?_
        refine ax_callV (as := []) rfl vX7_172 hX0_isSound rfl rfl rfl rfl rfl (c_X0_isSound E (d + 1) M hb.2.2.2.1) (av_Xk ?_)
        refine ax_if_eq rfl (by omega) (fun h31 => ?_) (fun h31 => ?_)
        · refine ax_ldc (z := (-900000003)) rfl kX7_84 rfl ?_
          refine ax_iret rfl rfl ?_
          exact av_rI (by (repeat' split) <;> omega)
        · refine ax_iconst rfl ?_
          refine ax_goto rfl ?_
          refine ax_iret rfl rfl ?_
          exact av_rI (by (repeat' split) <;> omega)
      · refine ax_ldc (z := (-900000002)) rfl kX7_41 rfl ?_
        refine ax_iret rfl rfl ?_
        exact av_rI (by (repeat' split) <;> omega)
set_option maxRecDepth 100000 in
set_option maxHeartbeats 800000 in
theorem c_X7_at (E : av_E) (d : Nat) (M : av_M) (hC : CI M) (p q s : Int) (hip : -2147483648 ≤ p ∧ p < 2147483648) (hiq : -2147483648 ≤ q ∧ q < 2147483648) (his : -2147483648 ≤ s ∧ s < 2147483648) : av_Mt E (d + 8) mX7_at [vR 0, vI p, vI q, vI s] M (fun res M' => ((¬ ((-99 ≤ p ∧ p ≤ 99) ∧ (-99 ≤ q ∧ q ≤ 99) ∧ (-99 ≤ s ∧ s ≤ 99)) ∧ res = some (vI (-900000002))) ∨ (((-99 ≤ p ∧ p ≤ 99) ∧ (-99 ≤ q ∧ q ≤ 99) ∧ (-99 ≤ s ∧ s ≤ 99)) ∧ M 12 5 = 0 ∧ res = some (vI (-900000003))) ∨ (((-99 ≤ p ∧ p ≤ 99) ∧ (-99 ≤ q ∧ q ≤ 99) ∧ (-99 ≤ s ∧ s ≤ 99)) ∧ M 12 5 = 1 ∧ ∃ b, BF (M 12 4) (fun j => dt ((p : Rat), (q : Rat), (s : Rat)) (vp M j)) b ∧ res = some (vI b))) ∧ M' = M) := by
  have hb := CI_b hC
  have hra : (if ¬ ((-99 ≤ p ∧ p ≤ 99) ∧ (-99 ≤ q ∧ q ≤ 99) ∧ (-99 ≤ s ∧ s ≤ 99)) then ((-900000002) : Int) else if M 12 5 = 0 then (-900000003) else 0) = 0 ∧ ((-99 ≤ p ∧ p ≤ 99) ∧ (-99 ≤ q ∧ q ≤ 99) ∧ (-99 ≤ s ∧ s ≤ 99)) ∧ M 12 5 = 1 ∨ (if ¬ ((-99 ≤ p ∧ p ≤ 99) ∧ (-99 ≤ q ∧ q ≤ 99) ∧ (-99 ≤ s ∧ s ≤ 99)) then ((-900000002) : Int) else if M 12 5 = 0 then (-900000003) else 0) = (-900000002) ∧ ¬ ((-99 ≤ p ∧ p ≤ 99) ∧ (-99 ≤ q ∧ q ≤ 99) ∧ (-99 ≤ s ∧ s ≤ 99)) ∨ (if ¬ ((-99 ≤ p ∧ p ≤ 99) ∧ (-99 ≤ q ∧ q ≤ 99) ∧ (-99 ≤ s ∧ s ≤ 99)) then ((-900000002) : Int) else if M 12 5 = 0 then (-900000003) else 0) = (-900000003) ∧ ((-99 ≤ p ∧ p ≤ 99) ∧ (-99 ≤ q ∧ q ≤ 99) ∧ (-99 ≤ s ∧ s ≤ 99)) ∧ M 12 5 = 0 := by
    (repeat' split) <;> omega
  generalize hg : (if ¬ ((-99 ≤ p ∧ p ≤ 99) ∧ (-99 ≤ q ∧ q ≤ 99) ∧ (-99 ≤ s ∧ s ≤ 99)) then ((-900000002) : Int) else if M 12 5 = 0 then (-900000003) else 0) = g at hra
  have hpos : M 12 5 = 1 → 0 < M 12 4 := fun h => by
    have h2 := hC.2.2.1.2.2.2.2.1
    rw [h] at h2
    have h3 := b01_ne (P := Snd (WM M) (Sg (M 13 5))) (by omega)
    obtain ⟨v, hv⟩ := h3.1
    obtain ⟨j, j0, j1, -⟩ := (VE_ex hC.2.2.1.2.2.1).mp hv
    omega
  refine av_enter hX7_at oX7_at rfl rfl ?_
  refine ax_aloadn rfl rfl ?_
  refine ax_iloadn rfl rfl ?_
  refine ax_iloadn rfl rfl ?_
  refine ax_iloadn rfl rfl ?_
  refine ax_callV (as := [_, _, _]) rfl vX7_223 hX7_aimRefusal rfl rfl rfl rfl rfl (by have k := c_X7_aimRefusal E (d + 5) M hC p q s (by omega) (by omega) (by omega); rw [hg] at k; exact k) (av_Xk ?_)
  refine ax_istore (ls' := [(0, _), (1, _), (2, _), (3, _), (4, _)]) rfl rfl rfl ?_
  refine ax_iload rfl rfl ?_
  refine ax_if_ne rfl (by omega) (fun h11 => ?_) (fun h11 => ?_)
  · refine ax_iload rfl rfl ?_
    refine ax_iret rfl rfl ?_
    first
      | exact ⟨Or.inr (Or.inr ⟨by omega, by omega, b, hF, rfl⟩), rfl⟩
      | exact ⟨Or.inl ⟨by omega, by rw [show g = -900000002 by omega]⟩, rfl⟩
      | exact ⟨Or.inr (Or.inl ⟨by omega, by omega, by rw [show g = -900000003 by omega]⟩), rfl⟩
      | (rcases hra with h | h | h
         · omega
         · exact ⟨Or.inl ⟨h.2, by rw [h.1]⟩, rfl⟩
         · exact ⟨Or.inr (Or.inl ⟨h.2.1, h.2.2, by rw [h.1]⟩), rfl⟩)
  · refine ax_aloadn rfl rfl ?_
    refine ax_getR rfl fX7_26 rfl rfl ?_
    refine ax_iloadn rfl rfl ?_
    refine ax_iloadn rfl rfl ?_
    refine ax_iloadn rfl rfl ?_
    refine ax_callV (as := [_, _, _]) rfl vX7_227 hX0_firstBest rfl rfl rfl rfl rfl (c_X0_firstBest E (d + 5) M hC.2.2.1 p q s (by omega) (by omega) (by omega) (hpos (by omega))) (fun r21 M21 hr21 => ?_)
    obtain ⟨⟨b, rfl, hF⟩, eM⟩ := hr21
    obtain rfl := eM.symm
    refine ax_goto rfl ?_
    refine ax_iret rfl rfl ?_
    first
      | exact ⟨Or.inr (Or.inr ⟨by omega, by omega, b, hF, rfl⟩), rfl⟩
      | exact ⟨Or.inl ⟨by omega, by rw [show g = -900000002 by omega]⟩, rfl⟩
      | exact ⟨Or.inr (Or.inl ⟨by omega, by omega, by rw [show g = -900000003 by omega]⟩), rfl⟩
      | (rcases hra with h | h | h
         · omega
         · exact ⟨Or.inl ⟨h.2, by rw [h.1]⟩, rfl⟩
         · exact ⟨Or.inr (Or.inl ⟨h.2.1, h.2.2, by rw [h.1]⟩), rfl⟩)
set_option maxRecDepth 100000 in
set_option maxHeartbeats 800000 in
theorem c_X7_mostOf (E : av_E) (d : Nat) (M : av_M) (hC : CI M) (p q s : Int) (hip : -2147483648 ≤ p ∧ p < 2147483648) (hiq : -2147483648 ≤ q ∧ q < 2147483648) (his : -2147483648 ≤ s ∧ s < 2147483648) (u : Int) (hiu : -2147483648 ≤ u ∧ u < 2147483648) : av_Mt E (d + 8) mX7_mostOf [vR 0, vI p, vI q, vI s, vI u] M (fun res M' => ((¬ ((-99 ≤ p ∧ p ≤ 99) ∧ (-99 ≤ q ∧ q ≤ 99) ∧ (-99 ≤ s ∧ s ≤ 99)) ∧ res = some (vL (-900000002))) ∨ (((-99 ≤ p ∧ p ≤ 99) ∧ (-99 ≤ q ∧ q ≤ 99) ∧ (-99 ≤ s ∧ s ≤ 99)) ∧ M 12 5 = 0 ∧ res = some (vL (-900000003))) ∨ (((-99 ≤ p ∧ p ≤ 99) ∧ (-99 ≤ q ∧ q ≤ 99) ∧ (-99 ≤ s ∧ s ≤ 99)) ∧ M 12 5 = 1 ∧ ∃ b, BF (M 12 4) (fun j => dt ((p : Rat), (q : Rat), (s : Rat)) (vp M j)) b ∧ res = some (vL (tl (dt ((p : Rat), (q : Rat), (s : Rat)) (vp M b)) u)))) ∧ M' = M) := by
  have hb := CI_b hC
  have hra : (if ¬ ((-99 ≤ p ∧ p ≤ 99) ∧ (-99 ≤ q ∧ q ≤ 99) ∧ (-99 ≤ s ∧ s ≤ 99)) then ((-900000002) : Int) else if M 12 5 = 0 then (-900000003) else 0) = 0 ∧ ((-99 ≤ p ∧ p ≤ 99) ∧ (-99 ≤ q ∧ q ≤ 99) ∧ (-99 ≤ s ∧ s ≤ 99)) ∧ M 12 5 = 1 ∨ (if ¬ ((-99 ≤ p ∧ p ≤ 99) ∧ (-99 ≤ q ∧ q ≤ 99) ∧ (-99 ≤ s ∧ s ≤ 99)) then ((-900000002) : Int) else if M 12 5 = 0 then (-900000003) else 0) = (-900000002) ∧ ¬ ((-99 ≤ p ∧ p ≤ 99) ∧ (-99 ≤ q ∧ q ≤ 99) ∧ (-99 ≤ s ∧ s ≤ 99)) ∨ (if ¬ ((-99 ≤ p ∧ p ≤ 99) ∧ (-99 ≤ q ∧ q ≤ 99) ∧ (-99 ≤ s ∧ s ≤ 99)) then ((-900000002) : Int) else if M 12 5 = 0 then (-900000003) else 0) = (-900000003) ∧ ((-99 ≤ p ∧ p ≤ 99) ∧ (-99 ≤ q ∧ q ≤ 99) ∧ (-99 ≤ s ∧ s ≤ 99)) ∧ M 12 5 = 0 := by
    (repeat' split) <;> omega
  generalize hg : (if ¬ ((-99 ≤ p ∧ p ≤ 99) ∧ (-99 ≤ q ∧ q ≤ 99) ∧ (-99 ≤ s ∧ s ≤ 99)) then ((-900000002) : Int) else if M 12 5 = 0 then (-900000003) else 0) = g at hra
  have hpos : M 12 5 = 1 → 0 < M 12 4 := fun h => by
    have h2 := hC.2.2.1.2.2.2.2.1
    rw [h] at h2
    have h3 := b01_ne (P := Snd (WM M) (Sg (M 13 5))) (by omega)
    obtain ⟨v, hv⟩ := h3.1
    obtain ⟨j, j0, j1, -⟩ := (VE_ex hC.2.2.1.2.2.1).mp hv
    omega
  refine av_enter hX7_mostOf oX7_mostOf rfl rfl ?_
  refine ax_aloadn rfl rfl ?_
  refine ax_iloadn rfl rfl ?_
  refine ax_iloadn rfl rfl ?_
  refine ax_iloadn rfl rfl ?_
  refine ax_callV (as := [_, _, _]) rfl vX7_223 hX7_aimRefusal rfl rfl rfl rfl rfl (by have k := c_X7_aimRefusal E (d + 5) M hC p q s (by omega) (by omega) (by omega); rw [hg] at k; exact k) (av_Xk ?_)
  refine ax_istore (ls' := [(0, _), (1, _), (2, _), (3, _), (4, _), (5, _)]) rfl rfl rfl ?_
  refine ax_iload rfl rfl ?_
  refine ax_if_ne rfl (by omega) (fun h11 => ?_) (fun h11 => ?_)
  · refine ax_iload rfl rfl ?_
    refine ax_i2l rfl (by omega) ?_
    refine ax_lret rfl rfl ?_
    first
      | exact ⟨Or.inr (Or.inr ⟨by omega, by omega, b, hF, rfl⟩), rfl⟩
      | exact ⟨Or.inl ⟨by omega, by rw [show g = -900000002 by omega]⟩, rfl⟩
      | exact ⟨Or.inr (Or.inl ⟨by omega, by omega, by rw [show g = -900000003 by omega]⟩), rfl⟩
      | (rcases hra with h | h | h
         · omega
         · exact ⟨Or.inl ⟨h.2, by rw [h.1]⟩, rfl⟩
         · exact ⟨Or.inr (Or.inl ⟨h.2.1, h.2.2, by rw [h.1]⟩), rfl⟩)
  · refine ax_aloadn rfl rfl ?_
    refine ax_getR rfl fX7_26 rfl rfl ?_
    refine ax_aloadn rfl rfl ?_
    refine ax_getR rfl fX7_26 rfl rfl ?_
    refine ax_iloadn rfl rfl ?_
    refine ax_iloadn rfl rfl ?_
    refine ax_iloadn rfl rfl ?_
    refine ax_callV (as := [_, _, _]) rfl vX7_227 hX0_firstBest rfl rfl rfl rfl rfl (c_X0_firstBest E (d + 5) M hC.2.2.1 p q s (by omega) (by omega) (by omega) (hpos (by omega))) (fun r25 M25 hr25 => ?_)
    obtain ⟨⟨b, rfl, hF⟩, eM⟩ := hr25
    obtain rfl := eM.symm
    refine ax_iloadn rfl rfl ?_
    refine ax_iloadn rfl rfl ?_
    refine ax_iloadn rfl rfl ?_
    refine ax_iload rfl rfl ?_
    refine ax_callV (as := [_, _, _, _, _]) rfl vX7_230 hX0_valueAt rfl rfl rfl rfl rfl (c_X0_valueAt E (d + 4) M hC.2.2.1 b p q s u ⟨hF.1, hF.2.1⟩ (by omega) (by omega) (by omega) (by omega)) (av_Xk ?_)
    refine ax_goto rfl ?_
    refine ax_lret rfl rfl ?_
    first
      | exact ⟨Or.inr (Or.inr ⟨by omega, by omega, b, hF, rfl⟩), rfl⟩
      | exact ⟨Or.inl ⟨by omega, by rw [show g = -900000002 by omega]⟩, rfl⟩
      | exact ⟨Or.inr (Or.inl ⟨by omega, by omega, by rw [show g = -900000003 by omega]⟩), rfl⟩
      | (rcases hra with h | h | h
         · omega
         · exact ⟨Or.inl ⟨h.2, by rw [h.1]⟩, rfl⟩
         · exact ⟨Or.inr (Or.inl ⟨h.2.1, h.2.2, by rw [h.1]⟩), rfl⟩)
set_option maxRecDepth 100000 in
set_option maxHeartbeats 800000 in
theorem c_X7_count (E : av_E) (d : Nat) (M : av_M) (hC : CI M) (k : Int) (hik : -2147483648 ≤ k ∧ k < 2147483648) : av_Mt E (d + 8) mX7_count [vR 0, vI k] M (av_X (some (vI (if k = 0 then M 1 3 else if k = 1 then M 13 4 else if k = 2 then pcI (M 13 5) else if k = 3 then M 9 2 else if k = 4 then M 9 3 else (-900000002)))) M) := by
  have hb := CI_b hC
  refine av_enter hX7_count oX7_count rfl rfl ?_
  refine ax_iloadn rfl rfl ?_
  rcases (show k = 0 ∨ k = 1 ∨ k = 2 ∨ k = 3 ∨ k = 4 ∨ (k < 0 ∨ 4 < k) by omega) with hq | hq | hq | hq | hq | hq
  · refine ax_tabIn (off := 35) (t := 36) rfl (by omega) (by omega) (by omega) (by rw [hq]; rfl) (by decide) ?_
    refine ax_aloadn rfl rfl ?_
    refine ax_getR rfl fX7_10 rfl rfl ?_
    refine ax_callV (as := []) rfl vX7_42 hX2_size rfl rfl rfl rfl rfl (c_X2_size E (d + 7) M) (av_Xk ?_)
    refine ax_iret rfl rfl ?_
    exact av_rI (by (repeat' split) <;> omega)
  · refine ax_tabIn (off := 43) (t := 44) rfl (by omega) (by omega) (by omega) (by rw [hq]; rfl) (by decide) ?_
    refine ax_aloadn rfl rfl ?_
    refine ax_getR rfl fX7_26 rfl rfl ?_
    refine ax_callV (as := []) rfl vX7_151 hX0_walls rfl rfl rfl rfl rfl (c_X0_walls E (d + 7) M) (av_Xk ?_)
    refine ax_callV (as := []) rfl vX7_154 hX6_size rfl rfl rfl rfl rfl (c_X6_size E (d + 7) M) (av_Xk ?_)
    refine ax_iret rfl rfl ?_
    exact av_rI (by (repeat' split) <;> omega)
  · refine ax_tabIn (off := 54) (t := 55) rfl (by omega) (by omega) (by omega) (by rw [hq]; rfl) (by decide) ?_
    refine ax_aloadn rfl rfl ?_
    refine ax_getR rfl fX7_26 rfl rfl ?_
    refine ax_callV (as := []) rfl vX7_151 hX0_walls rfl rfl rfl rfl rfl (c_X0_walls E (d + 7) M) (av_Xk ?_)
    refine ax_callV (as := []) rfl vX7_234 hX6_onSet rfl rfl rfl rfl rfl (c_X6_onSet E (d + 7) M) (av_Xk ?_)
    refine ax_callS (as := [_]) rfl sX7_134 hJ6_bitCount_0f7a4 rfl rfl rfl rfl (c_J_bitCount E (d + 7) M _ (by omega)) (av_Xk ?_)
    refine ax_iret rfl rfl ?_
    exact av_rI (by (repeat' split) <;> omega)
  · refine ax_tabIn (off := 68) (t := 69) rfl (by omega) (by omega) (by omega) (by rw [hq]; rfl) (by decide) ?_
    refine ax_aloadn rfl rfl ?_
    refine ax_getR rfl fX7_19 rfl rfl ?_
    refine ax_callV (as := []) rfl vX7_124 hX5_inner rfl rfl rfl rfl rfl (c_X5_inner E (d + 7) M) (av_Xk ?_)
    refine ax_iret rfl rfl ?_
    exact av_rI (by (repeat' split) <;> omega)
  · refine ax_tabIn (off := 76) (t := 77) rfl (by omega) (by omega) (by omega) (by rw [hq]; rfl) (by decide) ?_
    refine ax_aloadn rfl rfl ?_
    refine ax_getR rfl fX7_19 rfl rfl ?_
    refine ax_callV (as := []) rfl vX7_237 hX5_scale rfl rfl rfl rfl rfl (c_X5_scale E (d + 7) M) (av_Xk ?_)
    refine ax_iret rfl rfl ?_
    exact av_rI (by (repeat' split) <;> omega)
  · refine ax_tabOut (t := 85) rfl (by omega) hq (by decide) ?_
    refine ax_ldc (z := (-900000002)) rfl kX7_41 rfl ?_
    refine ax_iret rfl rfl ?_
    exact av_rI (by (repeat' split) <;> omega)
