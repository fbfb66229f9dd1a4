/-! ===== the walls ===== -/

set_option maxRecDepth 100000 in
set_option maxHeartbeats 800000 in
theorem c_X6_size (E : av_E) (d : Nat) (M : av_M)  : av_Mt E (d) mX6_size [vR 13] M (av_X (some (vI (M 13 4))) M) := by
  refine av_enter hX6_size oX6_size rfl rfl ?_
  refine ax_aloadn rfl rfl ?_
  refine ax_getI (g := 4) rfl fX6_24 rfl rfl rfl rfl ?_
  refine ax_iret rfl rfl ?_
  exact av_rI rfl
set_option maxRecDepth 100000 in
set_option maxHeartbeats 800000 in
theorem c_X6_onSet (E : av_E) (d : Nat) (M : av_M)  : av_Mt E (d) mX6_onSet [vR 13] M (av_X (some (vI (M 13 5))) M) := by
  refine av_enter hX6_onSet oX6_onSet rfl rfl ?_
  refine ax_aloadn rfl rfl ?_
  refine ax_getI (g := 5) rfl fX6_28 rfl rfl rfl rfl ?_
  refine ax_iret rfl rfl ?_
  exact av_rI rfl
set_option maxRecDepth 100000 in
set_option maxHeartbeats 800000 in
theorem c_X6_has (E : av_E) (d : Nat) (M : av_M) (w : Int) (hw : -2147483648 ≤ w ∧ w < 2147483648) (hs : 0 ≤ M 13 4 ∧ M 13 4 ≤ 10) : av_Mt E (d) mX6_has [vR 13, vI w] M (av_X (some (vI (b01 (0 ≤ w ∧ w < M 13 4)))) M) := by
  refine av_enter hX6_has oX6_has rfl rfl ?_
  refine ax_iloadn rfl rfl ?_
  refine ax_if_lt rfl (by omega) (fun h1 => ?_) (fun h1 => ?_)
  · refine ax_iconst rfl ?_
    refine ax_zret rfl rfl (by omega) ?_
    first | exact av_rI (b01_t (by omega)).symm | exact av_rI (b01_f (by omega)).symm
  · refine ax_iloadn rfl rfl ?_
    refine ax_aloadn rfl rfl ?_
    refine ax_getI (g := 4) rfl fX6_24 rfl rfl rfl rfl ?_
    refine ax_icmp_ge rfl (by omega) (by omega) (fun h9 => ?_) (fun h9 => ?_)
    · refine ax_iconst rfl ?_
      refine ax_zret rfl rfl (by omega) ?_
      first | exact av_rI (b01_t (by omega)).symm | exact av_rI (b01_f (by omega)).symm
    · refine ax_iconst rfl ?_
      refine ax_goto rfl ?_
      refine ax_zret rfl rfl (by omega) ?_
      first | exact av_rI (b01_t (by omega)).symm | exact av_rI (b01_f (by omega)).symm
set_option maxRecDepth 100000 in
set_option maxHeartbeats 800000 in
theorem c_X6_isOn (E : av_E) (d : Nat) (M : av_M) (w : Int) (hw : 0 ≤ w ∧ w < 10) (h0 : 0 ≤ M 13 5) (h1 : M 13 5 < 1024) : av_Mt E (d) mX6_isOn [vR 13, vI w] M (av_X (some (vI (b01 ((M 13 5).toNat.testBit w.toNat = true)))) M) := by
  have hb := bit_at h0 (show M 13 5 < 2147483648 by omega) (show 0 ≤ w ∧ w < 31 by omega)
  refine av_enter hX6_isOn oX6_isOn rfl rfl ?_
  refine ax_aloadn rfl rfl ?_
  refine ax_getI (g := 5) rfl fX6_28 rfl rfl rfl rfl ?_
  refine ax_iloadn rfl rfl ?_
  refine ax_ishr rfl ?_
  refine ax_iconst rfl ?_
  refine ax_iand rfl ?_
  refine ax_iconst rfl ?_
  refine ax_icmp_ne rfl (by rw [hb]; split <;> omega) (by omega) (fun h9 => ?_) (fun h9 => ?_)
  · refine ax_iconst rfl ?_
    refine ax_zret rfl rfl (by omega) ?_
    first
      | (refine av_rI (b01_t ?_).symm; apply Classical.byContradiction; intro hc; rw [if_neg hc] at hb; omega)
      | (refine av_rI (b01_f ?_).symm; intro hc; rw [if_pos hc] at hb; omega)
  · refine ax_iconst rfl ?_
    refine ax_goto rfl ?_
    refine ax_zret rfl rfl (by omega) ?_
    first
      | (refine av_rI (b01_t ?_).symm; apply Classical.byContradiction; intro hc; rw [if_neg hc] at hb; omega)
      | (refine av_rI (b01_f ?_).symm; intro hc; rw [if_pos hc] at hb; omega)
set_option maxRecDepth 100000 in
set_option maxHeartbeats 800000 in
theorem c_X6_part (E : av_E) (d : Nat) (M : av_M) (w k : Int) (hw : 0 ≤ w ∧ w < 10) (hk : 0 ≤ k ∧ k ≤ 4) (h0 : 0 ≤ M 13 5) (h1 : M 13 5 < 1024) : av_Mt E (d + 1) mX6_part [vR 13, vI w, vI k] M (av_X (some (vI (if k = 0 then M 14 w else if k = 1 then M 15 w else if k = 2 then M 16 w else if k = 3 then M 17 w else b01 ((M 13 5).toNat.testBit w.toNat = true)))) M) := by
  have br := b01_rng ((M 13 5).toNat.testBit w.toNat = true)
  refine av_enter hX6_part oX6_part rfl rfl ?_
  refine ax_iloadn rfl rfl ?_
  rcases (show k = 0 ∨ k = 1 ∨ k = 2 ∨ k = 3 ∨ (k < 0 ∨ 3 < k) by omega) with hq | hq | hq | hq | hq
  · refine ax_tabIn (off := 31) (t := 32) rfl (by omega) (by omega) (by omega) (by rw [hq]; rfl) (by decide) ?_
    refine ax_aloadn rfl rfl ?_
    refine ax_getR rfl fX6_9 rfl rfl ?_
    refine ax_iloadn rfl rfl ?_
    refine ax_iald rfl rfl (by omega) ?_
    refine ax_iret rfl rfl ?_
    exact av_rI (by (repeat' split) <;> omega)
  · refine ax_tabIn (off := 38) (t := 39) rfl (by omega) (by omega) (by omega) (by rw [hq]; rfl) (by decide) ?_
    refine ax_aloadn rfl rfl ?_
    refine ax_getR rfl fX6_15 rfl rfl ?_
    refine ax_iloadn rfl rfl ?_
    refine ax_iald rfl rfl (by omega) ?_
    refine ax_iret rfl rfl ?_
    exact av_rI (by (repeat' split) <;> omega)
  · refine ax_tabIn (off := 45) (t := 46) rfl (by omega) (by omega) (by omega) (by rw [hq]; rfl) (by decide) ?_
    refine ax_aloadn rfl rfl ?_
    refine ax_getR rfl fX6_18 rfl rfl ?_
    refine ax_iloadn rfl rfl ?_
    refine ax_iald rfl rfl (by omega) ?_
    refine ax_iret rfl rfl ?_
    exact av_rI (by (repeat' split) <;> omega)
  · refine ax_tabIn (off := 52) (t := 53) rfl (by omega) (by omega) (by omega) (by rw [hq]; rfl) (by decide) ?_
    refine ax_aloadn rfl rfl ?_
    refine ax_getR rfl fX6_21 rfl rfl ?_
    refine ax_iloadn rfl rfl ?_
    refine ax_iald rfl rfl (by omega) ?_
    refine ax_iret rfl rfl ?_
    exact av_rI (by (repeat' split) <;> omega)
  · refine ax_tabOut (t := 60) rfl (by omega) hq (by decide) ?_
    refine ax_aloadn rfl rfl ?_
    refine ax_iloadn rfl rfl ?_
    refine ax_callV (as := [_]) rfl vX6_31 hX6_isOn rfl rfl rfl rfl rfl (c_X6_isOn E d M w hw h0 h1) (av_Xk ?_)
    refine ax_if_eq rfl (by omega) (fun h65 => ?_) (fun h65 => ?_)
    · refine ax_iconst rfl ?_
      refine ax_iret rfl rfl ?_
      exact av_rI (by (repeat' split) <;> omega)
    · refine ax_iconst rfl ?_
      refine ax_goto rfl ?_
      refine ax_iret rfl rfl ?_
      exact av_rI (by (repeat' split) <;> omega)
set_option maxRecDepth 100000 in
set_option maxHeartbeats 800000 in
theorem c_X6_excess (E : av_E) (d : Nat) (M : av_M) (n x y z w : Int) (hn : 0 ≤ n ∧ n < 10) : av_Mt E (d) mX6_excess [vR 13, vI n, vI x, vI y, vI z, vI w] M (av_X (some (vI (M 14 n * x + M 15 n * y + M 16 n * z - M 17 n * w))) M) := by
  refine av_enter hX6_excess oX6_excess rfl rfl ?_
  refine ax_aloadn rfl rfl ?_
  refine ax_getR rfl fX6_9 rfl rfl ?_
  refine ax_iloadn rfl rfl ?_
  refine ax_iald rfl rfl (by omega) ?_
  refine ax_iloadn rfl rfl ?_
  refine ax_imul rfl ?_
  refine ax_aloadn rfl rfl ?_
  refine ax_getR rfl fX6_15 rfl rfl ?_
  refine ax_iloadn rfl rfl ?_
  refine ax_iald rfl rfl (by omega) ?_
  refine ax_iloadn rfl rfl ?_
  refine ax_imul rfl ?_
  refine ax_iadd rfl ?_
  refine ax_aloadn rfl rfl ?_
  refine ax_getR rfl fX6_18 rfl rfl ?_
  refine ax_iloadn rfl rfl ?_
  refine ax_iald rfl rfl (by omega) ?_
  refine ax_iload rfl rfl ?_
  refine ax_imul rfl ?_
  refine ax_iadd rfl ?_
  refine ax_aloadn rfl rfl ?_
  refine ax_getR rfl fX6_21 rfl rfl ?_
  refine ax_iloadn rfl rfl ?_
  refine ax_iald rfl rfl (by omega) ?_
  refine ax_iload rfl rfl ?_
  refine ax_imul rfl ?_
  refine ax_isub rfl ?_
  refine ax_iret rfl rfl ?_
  exact av_rI rfl
set_option maxRecDepth 100000 in
set_option maxHeartbeats 800000 in
theorem c_X6_push (E : av_E) (d : Nat) (M : av_M) (w v : Int) (hw : 0 ≤ w ∧ w < 10) : av_Mt E d mX6_push [vR 13, vI w, vI v] M (fun res M' => res = some (vI (M 17 w)) ∧ M' 17 w = v ∧ (∀ j, j ≠ w → M' 17 j = M 17 j) ∧ ∀ k, k ≠ 17 → M' k = M k) := by
  refine av_enter hX6_push oX6_push rfl rfl ?_
  refine ax_aloadn rfl rfl ?_
  refine ax_getR rfl fX6_21 rfl rfl ?_
  refine ax_iloadn rfl rfl ?_
  refine ax_iald rfl rfl (by omega) ?_
  refine ax_istoren (ls' := [(0, _), (1, _), (2, _), (3, _)]) rfl rfl rfl ?_
  refine ax_aloadn rfl rfl ?_
  refine ax_getR rfl fX6_21 rfl rfl ?_
  refine ax_iloadn rfl rfl ?_
  refine ax_iloadn rfl rfl ?_
  refine ax_iast' rfl rfl (by omega) (fun M13 a13 b13 c13 => ?_)
  refine ax_iloadn rfl rfl ?_
  refine ax_iret rfl rfl ?_
  exact ⟨rfl, a13, b13, c13⟩
set_option maxRecDepth 100000 in
set_option maxHeartbeats 800000 in
theorem c_X6_turn (E : av_E) (d : Nat) (M : av_M) (w t : Int) (ht : t = 0 ∨ t = 1) (hw : 0 ≤ w ∧ w < 10) (h0 : 0 ≤ M 13 5) (h1 : M 13 5 < 1024) : av_Mt E (d + 1) mX6_turn [vR 13, vI w, vI t] M (fun res M' => res = some (vI (b01 ((M 13 5).toNat.testBit w.toNat = true))) ∧ 0 ≤ M' 13 5 ∧ M' 13 5 < 1024 ∧ (∀ j : Nat, (M' 13 5).toNat.testBit j = if (j : Int) = w then decide (t = 1) else (M 13 5).toNat.testBit j) ∧ (∀ f, f ≠ 5 → M' 13 f = M 13 f) ∧ ∀ k, k ≠ 13 → M' k = M k) := by
  have br := b01_rng ((M 13 5).toNat.testBit w.toNat = true)
  obtain ⟨r1, e1, p1, q1, s1⟩ := bit_set h0 h1 hw
  obtain ⟨r2, e2, p2, q2, s2⟩ := bit_clr h0 h1 hw
  refine av_enter hX6_turn oX6_turn rfl rfl ?_
  refine ax_aloadn rfl rfl ?_
  refine ax_iloadn rfl rfl ?_
  refine ax_callV (as := [_]) rfl vX6_31 hX6_isOn rfl rfl rfl rfl rfl (c_X6_isOn E d M w hw h0 h1) (av_Xk ?_)
  refine ax_if_eq rfl (by omega) (fun h5 => ?_) (fun h5 => ?_)
  · refine ax_iconst rfl ?_
    refine ax_istoren (ls' := [(0, _), (1, _), (2, _), (3, _)]) rfl rfl rfl ?_
    refine ax_aloadn rfl rfl ?_
    refine ax_iloadn rfl rfl ?_
    refine ax_if_eq rfl (by omega) (fun h16 => ?_) (fun h16 => ?_)
    · refine ax_aloadn rfl rfl ?_
      refine ax_getI (g := 5) rfl fX6_28 rfl rfl rfl rfl ?_
      refine ax_iconst rfl ?_
      refine ax_iloadn rfl rfl ?_
      refine ax_ishl rfl ?_
      refine ax_iconst rfl ?_
      refine ax_ixor rfl ?_
      refine ax_iand rfl ?_
      refine ax_putI' (g := 5) rfl gX6_28 rfl rfl rfl rfl (fun M40 a40 b40 c40 => ?_)
      refine ax_iloadn rfl rfl ?_
      refine ax_iret rfl rfl ?_
      have eb : ∀ z : Int, (z = 0 ∨ z = 1) → True := fun _ _ => trivial
      first
        | (rw [e1] at a40
           refine ⟨by congr 2; omega, by rw [a40]; exact p1, by rw [a40]; exact q1, fun j => ?_, b40, c40⟩
           rw [a40, s1 j]
           have ht1 : t = 1 := by omega
           by_cases hj : (j : Int) = w
           · rw [if_pos hj, ht1]; simp [hj]
           · rw [if_neg hj]; simp [hj])
        | (rw [e2] at a40
           refine ⟨by congr 2; omega, by rw [a40]; exact p2, by rw [a40]; exact q2, fun j => ?_, b40, c40⟩
           rw [a40, s2 j]
           have ht1 : t = 0 := by omega
           by_cases hj : (j : Int) = w
           · rw [if_pos hj, ht1]; simp [hj]
           · rw [if_neg hj]; simp [hj])
    · refine ax_aloadn rfl rfl ?_
      refine ax_getI (g := 5) rfl fX6_28 rfl rfl rfl rfl ?_
      refine ax_iconst rfl ?_
      refine ax_iloadn rfl rfl ?_
      refine ax_ishl rfl ?_
      refine ax_ior rfl ?_
      refine ax_goto rfl ?_
      refine ax_putI' (g := 5) rfl gX6_28 rfl rfl rfl rfl (fun M40 a40 b40 c40 => ?_)
      refine ax_iloadn rfl rfl ?_
      refine ax_iret rfl rfl ?_
      have eb : ∀ z : Int, (z = 0 ∨ z = 1) → True := fun _ _ => trivial
      first
        | (rw [e1] at a40
           refine ⟨by congr 2; omega, by rw [a40]; exact p1, by rw [a40]; exact q1, fun j => ?_, b40, c40⟩
           rw [a40, s1 j]
           have ht1 : t = 1 := by omega
           by_cases hj : (j : Int) = w
           · rw [if_pos hj, ht1]; simp [hj]
           · rw [if_neg hj]; simp [hj])
        | (rw [e2] at a40
           refine ⟨by congr 2; omega, by rw [a40]; exact p2, by rw [a40]; exact q2, fun j => ?_, b40, c40⟩
           rw [a40, s2 j]
           have ht1 : t = 0 := by omega
           by_cases hj : (j : Int) = w
           · rw [if_pos hj, ht1]; simp [hj]
           · rw [if_neg hj]; simp [hj])
  · refine ax_iconst rfl ?_
    refine ax_goto rfl ?_
    refine ax_istoren (ls' := [(0, _), (1, _), (2, _), (3, _)]) rfl rfl rfl ?_
    refine ax_aloadn rfl rfl ?_
    refine ax_iloadn rfl rfl ?_
    refine ax_if_eq rfl (by omega) (fun h16 => ?_) (fun h16 => ?_)
    · refine ax_aloadn rfl rfl ?_
      refine ax_getI (g := 5) rfl fX6_28 rfl rfl rfl rfl ?_
      refine ax_iconst rfl ?_
      refine ax_iloadn rfl rfl ?_
      refine ax_ishl rfl ?_
      refine ax_iconst rfl ?_
      refine ax_ixor rfl ?_
      refine ax_iand rfl ?_
      refine ax_putI' (g := 5) rfl gX6_28 rfl rfl rfl rfl (fun M40 a40 b40 c40 => ?_)
      refine ax_iloadn rfl rfl ?_
      refine ax_iret rfl rfl ?_
      have eb : ∀ z : Int, (z = 0 ∨ z = 1) → True := fun _ _ => trivial
      first
        | (rw [e1] at a40
           refine ⟨by congr 2; omega, by rw [a40]; exact p1, by rw [a40]; exact q1, fun j => ?_, b40, c40⟩
           rw [a40, s1 j]
           have ht1 : t = 1 := by omega
           by_cases hj : (j : Int) = w
           · rw [if_pos hj, ht1]; simp [hj]
           · rw [if_neg hj]; simp [hj])
        | (rw [e2] at a40
           refine ⟨by congr 2; omega, by rw [a40]; exact p2, by rw [a40]; exact q2, fun j => ?_, b40, c40⟩
           rw [a40, s2 j]
           have ht1 : t = 0 := by omega
           by_cases hj : (j : Int) = w
           · rw [if_pos hj, ht1]; simp [hj]
           · rw [if_neg hj]; simp [hj])
    · refine ax_aloadn rfl rfl ?_
      refine ax_getI (g := 5) rfl fX6_28 rfl rfl rfl rfl ?_
      refine ax_iconst rfl ?_
      refine ax_iloadn rfl rfl ?_
      refine ax_ishl rfl ?_
      refine ax_ior rfl ?_
      refine ax_goto rfl ?_
      refine ax_putI' (g := 5) rfl gX6_28 rfl rfl rfl rfl (fun M40 a40 b40 c40 => ?_)
      refine ax_iloadn rfl rfl ?_
      refine ax_iret rfl rfl ?_
      have eb : ∀ z : Int, (z = 0 ∨ z = 1) → True := fun _ _ => trivial
      first
        | (rw [e1] at a40
           refine ⟨by congr 2; omega, by rw [a40]; exact p1, by rw [a40]; exact q1, fun j => ?_, b40, c40⟩
           rw [a40, s1 j]
           have ht1 : t = 1 := by omega
           by_cases hj : (j : Int) = w
           · rw [if_pos hj, ht1]; simp [hj]
           · rw [if_neg hj]; simp [hj])
        | (rw [e2] at a40
           refine ⟨by congr 2; omega, by rw [a40]; exact p2, by rw [a40]; exact q2, fun j => ?_, b40, c40⟩
           rw [a40, s2 j]
           have ht1 : t = 0 := by omega
           by_cases hj : (j : Int) = w
           · rw [if_pos hj, ht1]; simp [hj]
           · rw [if_neg hj]; simp [hj])
set_option maxRecDepth 100000 in
set_option maxHeartbeats 800000 in
theorem c_X6_add (E : av_E) (d : Nat) (M : av_M) (a b c e : Int) (hs : 0 ≤ M 13 4 ∧ M 13 4 < 10) (h0 : 0 ≤ M 13 5) (h1 : M 13 5 < 1024) : av_Mt E (d + 2) mX6_add [vR 13, vI a, vI b, vI c, vI e] M (fun res M' => res = some (vI (M 13 4)) ∧ M' 13 4 = M 13 4 + 1 ∧ 0 ≤ M' 13 5 ∧ M' 13 5 < 1024 ∧ (∀ j : Nat, (M' 13 5).toNat.testBit j = if (j : Int) = M 13 4 then true else (M 13 5).toNat.testBit j) ∧ (M' 14 (M 13 4) = a ∧ ∀ j, j ≠ M 13 4 → M' 14 j = M 14 j) ∧ (M' 15 (M 13 4) = b ∧ ∀ j, j ≠ M 13 4 → M' 15 j = M 15 j) ∧ (M' 16 (M 13 4) = c ∧ ∀ j, j ≠ M 13 4 → M' 16 j = M 16 j) ∧ (M' 17 (M 13 4) = e ∧ ∀ j, j ≠ M 13 4 → M' 17 j = M 17 j) ∧ ∀ k, k ≠ 13 → k ≠ 14 → k ≠ 15 → k ≠ 16 → k ≠ 17 → M' k = M k) := by
  refine av_enter hX6_add oX6_add rfl rfl ?_
  refine ax_aloadn rfl rfl ?_
  refine ax_getI (g := 4) rfl fX6_24 rfl rfl rfl rfl ?_
  refine ax_istore (ls' := [(0, _), (1, _), (2, _), (3, _), (4, _), (5, _)]) rfl rfl rfl ?_
  refine ax_aloadn rfl rfl ?_
  refine ax_getR rfl fX6_9 rfl rfl ?_
  refine ax_iload rfl rfl ?_
  refine ax_iloadn rfl rfl ?_
  refine ax_iast' rfl rfl (by omega) (fun M13 a13 b13 c13 => ?_)
  refine ax_aloadn rfl rfl ?_
  refine ax_getR rfl fX6_15 rfl rfl ?_
  refine ax_iload rfl rfl ?_
  refine ax_iloadn rfl rfl ?_
  refine ax_iast' rfl rfl (by omega) (fun M21 a21 b21 c21 => ?_)
  refine ax_aloadn rfl rfl ?_
  refine ax_getR rfl fX6_18 rfl rfl ?_
  refine ax_iload rfl rfl ?_
  refine ax_iloadn rfl rfl ?_
  refine ax_iast' rfl rfl (by omega) (fun M29 a29 b29 c29 => ?_)
  refine ax_aloadn rfl rfl ?_
  refine ax_getR rfl fX6_21 rfl rfl ?_
  refine ax_iload rfl rfl ?_
  refine ax_iload rfl rfl ?_
  refine ax_iast' rfl rfl (by omega) (fun M38 a38 b38 c38 => ?_)
  refine ax_aloadn rfl rfl ?_
  refine ax_dup rfl rfl ?_
  refine ax_getI (g := 4) rfl fX6_24 rfl rfl rfl rfl ?_
  refine ax_iconst rfl ?_
  refine ax_iadd rfl ?_
  refine ax_putI' (g := 4) rfl gX6_24 rfl rfl rfl rfl (fun M46 a46 b46 c46 => ?_)
  refine ax_aloadn rfl rfl ?_
  refine ax_iload rfl rfl ?_
  refine ax_iconst rfl ?_
  refine ax_callV (as := [_, _]) rfl vX6_35 hX6_turn rfl rfl rfl rfl rfl (c_X6_turn E d M46 (M 13 4) 1 (Or.inr rfl) hs (by rw [b46 5 (by decide), c38 13 (by decide), c29 13 (by decide), c21 13 (by decide), c13 13 (by decide)]; exact h0) (by rw [b46 5 (by decide), c38 13 (by decide), c29 13 (by decide), c21 13 (by decide), c13 13 (by decide)]; exact h1)) (fun r53 M53 hr53 => ?_)
  obtain ⟨rfl, g1, g2, g3, g4, g5⟩ := hr53
  refine ax_pop rfl rfl ?_
  refine ax_iload rfl rfl ?_
  refine ax_iret rfl rfl ?_
  have e13 : M38 13 = M 13 := by rw [c38 13 (by decide), c29 13 (by decide), c21 13 (by decide), c13 13 (by decide)]
  have f14 : M53 14 = M13 14 := by rw [g5 14 (by decide), c46 14 (by decide), c38 14 (by decide), c29 14 (by decide), c21 14 (by decide)]
  have f15 : M53 15 = M21 15 := by rw [g5 15 (by decide), c46 15 (by decide), c38 15 (by decide), c29 15 (by decide)]
  have f16 : M53 16 = M29 16 := by rw [g5 16 (by decide), c46 16 (by decide), c38 16 (by decide)]
  have f17 : M53 17 = M38 17 := by rw [g5 17 (by decide), c46 17 (by decide)]
  refine ⟨rfl, by rw [g4 4 (by decide), a46, e13], g1, g2, fun j => ?_, ⟨by rw [f14]; exact a13, fun j hj => by rw [f14]; exact b13 j hj⟩, ⟨by rw [f15]; exact a21, fun j hj => by rw [f15, b21 j hj, c13 15 (by decide)]⟩, ⟨by rw [f16]; exact a29, fun j hj => by rw [f16, b29 j hj, c21 16 (by decide), c13 16 (by decide)]⟩, ⟨by rw [f17]; exact a38, fun j hj => by rw [f17, b38 j hj, c29 17 (by decide), c21 17 (by decide), c13 17 (by decide)]⟩, fun k k0 k1 k2 k3 k4 => by rw [g5 k k0, c46 k k0, c38 k k4, c29 k k3, c21 k k2, c13 k k1]⟩
  rw [g3 j, b46 5 (by decide), e13]
  rfl
