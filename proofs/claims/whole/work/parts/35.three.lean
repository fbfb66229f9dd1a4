/-! ===== the reference: one three of walls ===== -/
theorem RW_WI {M : av_M} (h : RWm M) : WI (rA M) (rB M) (rC M) (rD M) (M 35 23) 0 := ⟨h.1.1, h.1.2, h.2.1, by omega, by omega, fun j q => by
  rw [show (0 : Int).toNat = 0 by rfl, Nat.zero_testBit] at q
  cases q⟩
set_option maxRecDepth 100000 in
set_option maxHeartbeats 800000 in
theorem c_X8_det_w (E : av_E) (d : Nat) (M : av_M) (hR : RWm M) (u v w : Int) (hu : 0 ≤ u ∧ u < 10) (hv : 0 ≤ v ∧ v < 10) (hw : 0 ≤ w ∧ w < 10) : av_Mt E d mX8_determinant [vR 35, vI u, vI v, vI w, vI 0, vI 1, vI 2] M (av_X (some (vL (vol (rA M) (rB M) (rC M) u v w))) M) := by
  have k := c_X8_determinant E d M hR u v w 0 1 2 hu hv hw (by decide) (by decide) (by decide)
  have e : (fun j => M 52 (4 * j + 0)) = rA M := by
    funext j
    rw [Int.add_zero]
    rfl
  try rw [e] at k
  exact k
set_option maxRecDepth 100000 in
set_option maxHeartbeats 800000 in
theorem c_X8_det_x (E : av_E) (d : Nat) (M : av_M) (hR : RWm M) (u v w : Int) (hu : 0 ≤ u ∧ u < 10) (hv : 0 ≤ v ∧ v < 10) (hw : 0 ≤ w ∧ w < 10) : av_Mt E d mX8_determinant [vR 35, vI u, vI v, vI w, vI 3, vI 1, vI 2] M (av_X (some (vL (vol (rD M) (rB M) (rC M) u v w))) M) := by
  have k := c_X8_determinant E d M hR u v w 3 1 2 hu hv hw (by decide) (by decide) (by decide)
  have e : (fun j => M 52 (4 * j + 0)) = rA M := by
    funext j
    rw [Int.add_zero]
    rfl
  try rw [e] at k
  exact k
set_option maxRecDepth 100000 in
set_option maxHeartbeats 800000 in
theorem c_X8_det_y (E : av_E) (d : Nat) (M : av_M) (hR : RWm M) (u v w : Int) (hu : 0 ≤ u ∧ u < 10) (hv : 0 ≤ v ∧ v < 10) (hw : 0 ≤ w ∧ w < 10) : av_Mt E d mX8_determinant [vR 35, vI u, vI v, vI w, vI 0, vI 3, vI 2] M (av_X (some (vL (vol (rA M) (rD M) (rC M) u v w))) M) := by
  have k := c_X8_determinant E d M hR u v w 0 3 2 hu hv hw (by decide) (by decide) (by decide)
  have e : (fun j => M 52 (4 * j + 0)) = rA M := by
    funext j
    rw [Int.add_zero]
    rfl
  try rw [e] at k
  exact k
set_option maxRecDepth 100000 in
set_option maxHeartbeats 800000 in
theorem c_X8_det_z (E : av_E) (d : Nat) (M : av_M) (hR : RWm M) (u v w : Int) (hu : 0 ≤ u ∧ u < 10) (hv : 0 ≤ v ∧ v < 10) (hw : 0 ≤ w ∧ w < 10) : av_Mt E d mX8_determinant [vR 35, vI u, vI v, vI w, vI 0, vI 1, vI 3] M (av_X (some (vL (vol (rA M) (rB M) (rD M) u v w))) M) := by
  have k := c_X8_determinant E d M hR u v w 0 1 3 hu hv hw (by decide) (by decide) (by decide)
  have e : (fun j => M 52 (4 * j + 0)) = rA M := by
    funext j
    rw [Int.add_zero]
    rfl
  try rw [e] at k
  exact k
set_option maxRecDepth 100000 in
set_option maxHeartbeats 800000 in
theorem s2_X8_layVertices (E : av_E) (d : Nat) (M : av_M) (hR : RWm M) (set : Int) (hset : 0 ≤ set ∧ set < 1024) (u v w b : Int) (ho : 0 ≤ u ∧ u < v ∧ v < w ∧ w < M 35 23) (hb : b < 120) (cov : Int → Int → Int → Prop) (M1 : av_M) (hL : LI M M1 set cov b) (Q : Option av_V → av_M → Prop) (nxt : ∀ M2 : av_M, LI M M2 set (fun a b c => cov a b c ∨ (a = u ∧ b = v ∧ c = w)) (b + 1) → av_S E (d + 3) mX8_layVertices 193 [(0, vR 35), (1, vI set), (2, vI u), (3, vI v), (4, vI w)] [] M2 Q) (hbits : set.toNat.testBit u.toNat = true ∧ set.toNat.testBit v.toNat = true ∧ set.toNat.testBit w.toNat = true) (hv0 : vol (rA M) (rB M) (rC M) u v w ≠ 0) : av_S E (d + 3) mX8_layVertices 109 [(0, vR 35), (1, vI set), (2, vI u), (3, vI v), (4, vI w), (5, vI 1), (6, vL (vol (rA M) (rB M) (rC M) u v w))] [vL (tS (rA M) (rB M) (rC M) u v w)] M1 Q := by
  have hs := hR.1
  obtain ⟨q1, q2, q3, hk⟩ := hL
  have hkw := hk.w
  have hR1 : RWm M1 := RWm_congr hR hkw
  have eA : rA M1 = rA M := by unfold rA; rw [hkw.2.1]
  have eB : rB M1 = rB M := by unfold rB; rw [hkw.2.1]
  have eC : rC M1 = rC M := by unfold rC; rw [hkw.2.1]
  have eD : rD M1 = rD M := by unfold rD; rw [hkw.2.1]
  have hB := t_rng (RW_WI hR) ho hv0
  have hB2 := hB
  unfold B3 at hB2
  unfold tX tY tZ tW at hB2
  have b1 := b01_rng (HnR M1 set (tS (rA M) (rB M) (rC M) u v w * vol (rD M) (rB M) (rC M) u v w) (tS (rA M) (rB M) (rC M) u v w * vol (rA M) (rD M) (rC M) u v w) (tS (rA M) (rB M) (rC M) u v w * vol (rA M) (rB M) (rD M) u v w) (tS (rA M) (rB M) (rC M) u v w * vol (rA M) (rB M) (rC M) u v w) (M1 35 23))
  have hiff : HnR M1 set (tS (rA M) (rB M) (rC M) u v w * vol (rD M) (rB M) (rC M) u v w) (tS (rA M) (rB M) (rC M) u v w * vol (rA M) (rD M) (rC M) u v w) (tS (rA M) (rB M) (rC M) u v w * vol (rA M) (rB M) (rD M) u v w) (tS (rA M) (rB M) (rC M) u v w * vol (rA M) (rB M) (rC M) u v w) (M1 35 23) ↔ ∀ t : Nat, (t : Int) < M 35 23 → set.toNat.testBit t = true → exI (rA M) (rB M) (rC M) (rD M) t (tX (rA M) (rB M) (rC M) (rD M) u v w) (tY (rA M) (rB M) (rC M) (rD M) u v w) (tZ (rA M) (rB M) (rC M) (rD M) u v w) (tW (rA M) (rB M) (rC M) u v w) ≤ 0 := by
    unfold HnR
    rw [eA, eB, eC, eD, hkw.1]
    rfl
  refine ax_lstore (ls' := [(0, _), (1, _), (2, _), (3, _), (4, _), (5, _), (6, _), (8, _)]) rfl rfl rfl ?_
  refine ax_lload rfl rfl ?_
  refine ax_aloadn rfl rfl ?_
  refine ax_iloadn rfl rfl ?_
  refine ax_iloadn rfl rfl ?_
  refine ax_iload rfl rfl ?_
  refine ax_iconst rfl ?_
  refine ax_iconst rfl ?_
  refine ax_iconst rfl ?_
  refine ax_callV (as := [_, _, _, _, _, _]) rfl vX8_235 hX8_determinant rfl rfl rfl rfl rfl (by have k := c_X8_det_x E (d + 2) M1 hR1 u v w (by omega) (by omega) (by omega); rw [eD, eB, eC] at k; exact k) (av_Xk ?_)
  refine ax_lmul rfl ?_
  refine ax_lstore (ls' := [(0, _), (1, _), (2, _), (3, _), (4, _), (5, _), (6, _), (8, _), (10, _)]) rfl rfl rfl ?_
  refine ax_lload rfl rfl ?_
  refine ax_aloadn rfl rfl ?_
  refine ax_iloadn rfl rfl ?_
  refine ax_iloadn rfl rfl ?_
  refine ax_iload rfl rfl ?_
  refine ax_iconst rfl ?_
  refine ax_iconst rfl ?_
  refine ax_iconst rfl ?_
  refine ax_callV (as := [_, _, _, _, _, _]) rfl vX8_235 hX8_determinant rfl rfl rfl rfl rfl (by have k := c_X8_det_y E (d + 2) M1 hR1 u v w (by omega) (by omega) (by omega); rw [eA, eD, eC] at k; exact k) (av_Xk ?_)
  refine ax_lmul rfl ?_
  refine ax_lstore (ls' := [(0, _), (1, _), (2, _), (3, _), (4, _), (5, _), (6, _), (8, _), (10, _), (12, _)]) rfl rfl rfl ?_
  refine ax_lload rfl rfl ?_
  refine ax_aloadn rfl rfl ?_
  refine ax_iloadn rfl rfl ?_
  refine ax_iloadn rfl rfl ?_
  refine ax_iload rfl rfl ?_
  refine ax_iconst rfl ?_
  refine ax_iconst rfl ?_
  refine ax_iconst rfl ?_
  refine ax_callV (as := [_, _, _, _, _, _]) rfl vX8_235 hX8_determinant rfl rfl rfl rfl rfl (by have k := c_X8_det_z E (d + 2) M1 hR1 u v w (by omega) (by omega) (by omega); rw [eA, eB, eD] at k; exact k) (av_Xk ?_)
  refine ax_lmul rfl ?_
  refine ax_lstore (ls' := [(0, _), (1, _), (2, _), (3, _), (4, _), (5, _), (6, _), (8, _), (10, _), (12, _), (14, _)]) rfl rfl rfl ?_
  refine ax_aloadn rfl rfl ?_
  refine ax_iloadn rfl rfl ?_
  refine ax_lload rfl rfl ?_
  refine ax_lload rfl rfl ?_
  refine ax_lload rfl rfl ?_
  refine ax_lload rfl rfl ?_
  refine ax_lload rfl rfl ?_
  refine ax_lmul rfl ?_
  refine ax_callV (as := [_, _, _, _, _]) rfl vX8_239 hX8_holdsAll rfl rfl rfl rfl rfl (c_X8_holdsAll E (d + 1) M1 hR1 set _ _ _ _ hset hB2.1 hB2.2.1 hB2.2.2.1 (by omega)) (av_Xk ?_)
  refine ax_if_eq rfl (by omega) (fun h175 => ?_) (fun h175 => ?_)
  · refine ax_pick [0, 1, 2, 3, 4] rfl ?_
    first
      | (refine nxt M190 ⟨g3, RE_congr g4 (fun p => ?_), by omega, hk.tr ⟨g5, g6⟩⟩
         constructor
         · rintro (⟨i, j, k, c, r⟩ | e)
           · exact ⟨i, j, k, Or.inl c, r⟩
           · exact ⟨u, v, w, Or.inr ⟨rfl, rfl, rfl⟩, ho, hbits, hv0, hiff.mp (b01_ne h175), e⟩
         · rintro ⟨i, j, k, c | ⟨rfl, rfl, rfl⟩, r⟩
           · exact Or.inl ⟨i, j, k, c, r⟩
           · exact Or.inr r.2.2.2.2)
      | (refine nxt M1 ⟨q1, RE_congr q2 (fun p => ?_), by omega, hk⟩
         constructor
         · rintro ⟨i, j, k, c, r⟩
           exact ⟨i, j, k, Or.inl c, r⟩
         · rintro ⟨i, j, k, c | ⟨rfl, rfl, rfl⟩, r⟩
           · exact ⟨i, j, k, c, r⟩
           · exact absurd (hiff.mpr r.2.2.2.1) (b01_eq h175))
  · refine ax_aloadn rfl rfl ?_
    refine ax_lload rfl rfl ?_
    refine ax_lload rfl rfl ?_
    refine ax_lload rfl rfl ?_
    refine ax_lload rfl rfl ?_
    refine ax_lload rfl rfl ?_
    refine ax_lmul rfl ?_
    refine ax_callV (as := [_, _, _, _]) rfl vX8_243 hX8_put rfl rfl rfl rfl rfl (c_X8_put E (d + 0) M1 _ _ _ _ _ hB q1 q2 (by omega)) (fun r190 M190 hr190 => ?_)
    obtain ⟨rfl, g1, g2, g3, g4, g5, g6⟩ := hr190
    refine ax_pick [0, 1, 2, 3, 4] rfl ?_
    first
      | (refine nxt M190 ⟨g3, RE_congr g4 (fun p => ?_), by omega, hk.tr ⟨g5, g6⟩⟩
         constructor
         · rintro (⟨i, j, k, c, r⟩ | e)
           · exact ⟨i, j, k, Or.inl c, r⟩
           · exact ⟨u, v, w, Or.inr ⟨rfl, rfl, rfl⟩, ho, hbits, hv0, hiff.mp (b01_ne h175), e⟩
         · rintro ⟨i, j, k, c | ⟨rfl, rfl, rfl⟩, r⟩
           · exact Or.inl ⟨i, j, k, c, r⟩
           · exact Or.inr r.2.2.2.2)
      | (refine nxt M1 ⟨q1, RE_congr q2 (fun p => ?_), by omega, hk⟩
         constructor
         · rintro ⟨i, j, k, c, r⟩
           exact ⟨i, j, k, Or.inl c, r⟩
         · rintro ⟨i, j, k, c | ⟨rfl, rfl, rfl⟩, r⟩
           · exact ⟨i, j, k, c, r⟩
           · exact absurd (hiff.mpr r.2.2.2.1) (b01_eq h175))
