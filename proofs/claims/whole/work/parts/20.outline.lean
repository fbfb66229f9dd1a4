/-! ===== Long.compare, and the outlines: their contracts ===== -/
theorem mb {x y A B : Int} (hx : -A ≤ x ∧ x ≤ A) (hy : -B ≤ y ∧ y ≤ B) : -(A * B) ≤ x * y ∧ x * y ≤ A * B := by
  have h1 : (x * y).natAbs ≤ A.natAbs * B.natAbs := by
    rw [Int.natAbs_mul]; exact Nat.mul_le_mul (by omega) (by omega)
  have h2 : (A * B).natAbs = A.natAbs * B.natAbs := Int.natAbs_mul A B
  have h3 : 0 ≤ A * B := Int.mul_nonneg (by omega) (by omega)
  omega
theorem av_rI {M : av_M} {z z' : Int} (h : z = z') : av_X (some (vI z')) M (some (vI z)) M := ⟨by rw [h], rfl⟩
theorem av_rL {M : av_M} {z z' : Int} (h : z = z') : av_X (some (vL z')) M (some (vL z)) M := ⟨by rw [h], rfl⟩
set_option maxRecDepth 100000 in
set_option maxHeartbeats 800000 in
theorem c_J_compare (E : av_E) (d : Nat) (M : av_M) (x y : Int) (hx : -9223372036854775808 ≤ x ∧ x < 9223372036854775808) (hy : -9223372036854775808 ≤ y ∧ y < 9223372036854775808) : av_Mt E d mJ13_compare_74951 [vL x, vL y] M (av_X (some (vI (sg x y))) M) := by
  refine av_enter hJ13_compare_74951 oJ13_compare_74951 rfl rfl ?_
  refine ax_lloadn rfl rfl ?_
  refine ax_lloadn rfl rfl ?_
  refine ax_lif_ge rfl rfl (by omega) (by omega) (fun h2 => ?_) (fun h2 => ?_)
  · refine ax_lloadn rfl rfl ?_
    refine ax_lloadn rfl rfl ?_
    refine ax_lif_ne rfl rfl (by omega) (by omega) (fun h12 => ?_) (fun h12 => ?_)
    · refine ax_iconst rfl ?_
      refine ax_iret rfl rfl ?_
      exact av_rI (by unfold sg; (repeat' split) <;> omega)
    · refine ax_iconst rfl ?_
      refine ax_goto rfl ?_
      refine ax_iret rfl rfl ?_
      exact av_rI (by unfold sg; (repeat' split) <;> omega)
  · refine ax_iconst rfl ?_
    refine ax_goto rfl ?_
    refine ax_iret rfl rfl ?_
    exact av_rI (by unfold sg; (repeat' split) <;> omega)
set_option maxRecDepth 100000 in
set_option maxHeartbeats 800000 in
theorem c_H_side (E : av_E) (d : Nat) (M : av_M) (i px py pw : Int) (hi : 0 ≤ i ∧ i < 12) (hb : BP (M 5 i) (M 6 i) (M 7 i)) (hp : BP px py pw) : av_Mt E (d + 1) mX4_side [vR 4, vI i, vI px, vI py, vI pw] M (av_X (some (vI (sd (M 5 i) (M 6 i) (M 7 i) px py pw))) M) := by
  obtain ⟨x0, y0, w0, w1⟩ := hb
  obtain ⟨px0, py0, pw0, pw1⟩ := hp
  have q1 := mb (A := 50000) (B := 5000) x0 (show -5000 ≤ pw ∧ pw ≤ 5000 by omega)
  have q2 := mb (A := 50000) (B := 5000) px0 (show -5000 ≤ M 7 i ∧ M 7 i ≤ 5000 by omega)
  have q3 := mb (A := 50000) (B := 5000) y0 (show -5000 ≤ pw ∧ pw ≤ 5000 by omega)
  have q4 := mb (A := 50000) (B := 5000) py0 (show -5000 ≤ M 7 i ∧ M 7 i ≤ 5000 by omega)
  have g1 := sg_rng (M 5 i * pw) (px * M 7 i)
  have g2 := sg_rng (M 6 i * pw) (py * M 7 i)
  refine av_enter hX4_side oX4_side rfl rfl ?_
  refine ax_aloadn rfl rfl ?_
  refine ax_getR rfl fX4_7 rfl rfl ?_
  refine ax_iloadn rfl rfl ?_
  refine ax_iald rfl rfl (by omega) ?_
  refine ax_i2l rfl (by omega) ?_
  refine ax_iload rfl rfl ?_
  refine ax_i2l rfl (by omega) ?_
  refine ax_lmul rfl ?_
  refine ax_iloadn rfl rfl ?_
  refine ax_i2l rfl (by omega) ?_
  refine ax_aloadn rfl rfl ?_
  refine ax_getR rfl fX4_16 rfl rfl ?_
  refine ax_iloadn rfl rfl ?_
  refine ax_iald rfl rfl (by omega) ?_
  refine ax_i2l rfl (by omega) ?_
  refine ax_lmul rfl ?_
  refine ax_callS (as := [_, _]) rfl sX4_30 hJ13_compare_74951 rfl rfl rfl rfl (c_J_compare E d M _ _ (by omega) (by omega)) (av_Xk ?_)
  refine ax_istore (ls' := [(0, _), (1, _), (2, _), (3, _), (4, _), (5, _)]) rfl rfl rfl ?_
  refine ax_iload rfl rfl ?_
  refine ax_if_eq rfl (by omega) (fun h28 => ?_) (fun h28 => ?_)
  · refine ax_aloadn rfl rfl ?_
    refine ax_getR rfl fX4_13 rfl rfl ?_
    refine ax_iloadn rfl rfl ?_
    refine ax_iald rfl rfl (by omega) ?_
    refine ax_i2l rfl (by omega) ?_
    refine ax_iload rfl rfl ?_
    refine ax_i2l rfl (by omega) ?_
    refine ax_lmul rfl ?_
    refine ax_iloadn rfl rfl ?_
    refine ax_i2l rfl (by omega) ?_
    refine ax_aloadn rfl rfl ?_
    refine ax_getR rfl fX4_16 rfl rfl ?_
    refine ax_iloadn rfl rfl ?_
    refine ax_iald rfl rfl (by omega) ?_
    refine ax_i2l rfl (by omega) ?_
    refine ax_lmul rfl ?_
    refine ax_callS (as := [_, _]) rfl sX4_30 hJ13_compare_74951 rfl rfl rfl rfl (c_J_compare E d M _ _ (by omega) (by omega)) (av_Xk ?_)
    refine ax_iret rfl rfl ?_
    exact av_rI (by rw [sd_sg]; split <;> omega)
  · refine ax_iload rfl rfl ?_
    refine ax_goto rfl ?_
    refine ax_iret rfl rfl ?_
    exact av_rI (by rw [sd_sg]; split <;> omega)
set_option maxRecDepth 100000 in
set_option maxHeartbeats 800000 in
theorem c_H_turn (E : av_E) (d : Nat) (M : av_M) (i j px py pw : Int) (hi : 0 ≤ i ∧ i < 12) (hj : 0 ≤ j ∧ j < 12) (hb : BP (M 5 i) (M 6 i) (M 7 i)) (hb2 : BP (M 5 j) (M 6 j) (M 7 j)) (hp : BP px py pw ∨ (px = 0 ∧ py = 0 ∧ pw = 1)) : av_Mt E d mX4_turn [vR 4, vI i, vI j, vI px, vI py, vI pw] M (av_X (some (vL (D3 (M 5 i) (M 6 i) (M 7 i) (M 5 j) (M 6 j) (M 7 j) px py pw))) M) := by
  obtain ⟨x0, y0, w0, w1⟩ := hb
  obtain ⟨x2, y2, w2, w3⟩ := hb2
  have hp' : (-50000 ≤ px ∧ px ≤ 50000) ∧ (-50000 ≤ py ∧ py ≤ 50000) ∧ 0 < pw ∧ pw ≤ 5000 := by
    rcases hp with hp | hp
    · exact hp
    · omega
  obtain ⟨px0, py0, pw0, pw1⟩ := hp'
  refine av_enter hX4_turn oX4_turn rfl rfl ?_
  refine ax_aloadn rfl rfl ?_
  refine ax_getR rfl fX4_13 rfl rfl ?_
  refine ax_iloadn rfl rfl ?_
  refine ax_iald rfl rfl (by omega) ?_
  refine ax_i2l rfl (by omega) ?_
  refine ax_iload rfl rfl ?_
  refine ax_i2l rfl (by omega) ?_
  refine ax_lmul rfl ?_
  refine ax_aloadn rfl rfl ?_
  refine ax_getR rfl fX4_16 rfl rfl ?_
  refine ax_iloadn rfl rfl ?_
  refine ax_iald rfl rfl (by omega) ?_
  refine ax_i2l rfl (by omega) ?_
  refine ax_iload rfl rfl ?_
  refine ax_i2l rfl (by omega) ?_
  refine ax_lmul rfl ?_
  refine ax_lsub rfl ?_
  refine ax_lstore (ls' := [(0, _), (1, _), (2, _), (3, _), (4, _), (5, _), (6, _)]) rfl rfl rfl ?_
  refine ax_aloadn rfl rfl ?_
  refine ax_getR rfl fX4_7 rfl rfl ?_
  refine ax_iloadn rfl rfl ?_
  refine ax_iald rfl rfl (by omega) ?_
  refine ax_i2l rfl (by omega) ?_
  refine ax_iload rfl rfl ?_
  refine ax_i2l rfl (by omega) ?_
  refine ax_lmul rfl ?_
  refine ax_aloadn rfl rfl ?_
  refine ax_getR rfl fX4_16 rfl rfl ?_
  refine ax_iloadn rfl rfl ?_
  refine ax_iald rfl rfl (by omega) ?_
  refine ax_i2l rfl (by omega) ?_
  refine ax_iloadn rfl rfl ?_
  refine ax_i2l rfl (by omega) ?_
  refine ax_lmul rfl ?_
  refine ax_lsub rfl ?_
  refine ax_lstore (ls' := [(0, _), (1, _), (2, _), (3, _), (4, _), (5, _), (6, _), (8, _)]) rfl rfl rfl ?_
  refine ax_aloadn rfl rfl ?_
  refine ax_getR rfl fX4_7 rfl rfl ?_
  refine ax_iloadn rfl rfl ?_
  refine ax_iald rfl rfl (by omega) ?_
  refine ax_i2l rfl (by omega) ?_
  refine ax_iload rfl rfl ?_
  refine ax_i2l rfl (by omega) ?_
  refine ax_lmul rfl ?_
  refine ax_aloadn rfl rfl ?_
  refine ax_getR rfl fX4_13 rfl rfl ?_
  refine ax_iloadn rfl rfl ?_
  refine ax_iald rfl rfl (by omega) ?_
  refine ax_i2l rfl (by omega) ?_
  refine ax_iloadn rfl rfl ?_
  refine ax_i2l rfl (by omega) ?_
  refine ax_lmul rfl ?_
  refine ax_lsub rfl ?_
  refine ax_lstore (ls' := [(0, _), (1, _), (2, _), (3, _), (4, _), (5, _), (6, _), (8, _), (10, _)]) rfl rfl rfl ?_
  refine ax_aloadn rfl rfl ?_
  refine ax_getR rfl fX4_7 rfl rfl ?_
  refine ax_iloadn rfl rfl ?_
  refine ax_iald rfl rfl (by omega) ?_
  refine ax_i2l rfl (by omega) ?_
  refine ax_lload rfl rfl ?_
  refine ax_lmul rfl ?_
  refine ax_aloadn rfl rfl ?_
  refine ax_getR rfl fX4_13 rfl rfl ?_
  refine ax_iloadn rfl rfl ?_
  refine ax_iald rfl rfl (by omega) ?_
  refine ax_i2l rfl (by omega) ?_
  refine ax_lload rfl rfl ?_
  refine ax_lmul rfl ?_
  refine ax_lsub rfl ?_
  refine ax_aloadn rfl rfl ?_
  refine ax_getR rfl fX4_16 rfl rfl ?_
  refine ax_iloadn rfl rfl ?_
  refine ax_iald rfl rfl (by omega) ?_
  refine ax_i2l rfl (by omega) ?_
  refine ax_lload rfl rfl ?_
  refine ax_lmul rfl ?_
  refine ax_ladd rfl ?_
  refine ax_lret rfl rfl ?_
  exact av_rL rfl
set_option maxRecDepth 100000 in
set_option maxHeartbeats 800000 in
theorem c_H_size (E : av_E) (d : Nat) (M : av_M) : av_Mt E d mX4_size [vR 4] M (av_X (some (vI (M 4 5))) M) := by
  refine av_enter hX4_size oX4_size rfl rfl ?_
  refine ax_aloadn rfl rfl ?_
  refine ax_getI (g := 5) rfl fX4_36 rfl rfl rfl rfl ?_
  refine ax_iret rfl rfl ?_
  exact av_rI rfl
set_option maxRecDepth 100000 in
set_option maxHeartbeats 800000 in
theorem c_H_has (E : av_E) (d : Nat) (M : av_M) (c : Int) (hc : -2147483648 ≤ c ∧ c < 2147483648) (hr : 0 ≤ M 4 5 ∧ M 4 5 ≤ 1000) : av_Mt E d mX4_has [vR 4, vI c] M (av_X (some (vI (b01 (0 ≤ c ∧ c < M 4 5)))) M) := by
  refine av_enter hX4_has oX4_has rfl rfl ?_
  refine ax_iloadn rfl rfl ?_
  refine ax_if_lt rfl (by omega) (fun h1 => ?_) (fun h1 => ?_)
  · refine ax_iconst rfl ?_
    refine ax_zret rfl rfl (by omega) ?_
    first | exact av_rI (b01_t (by omega)).symm | exact av_rI (b01_f (by omega)).symm
  · refine ax_iloadn rfl rfl ?_
    refine ax_aloadn rfl rfl ?_
    refine ax_getI (g := 5) rfl fX4_36 rfl rfl rfl rfl ?_
    refine ax_icmp_ge rfl (by omega) (by omega) (fun h9 => ?_) (fun h9 => ?_)
    · refine ax_iconst rfl ?_
      refine ax_zret rfl rfl (by omega) ?_
      first | exact av_rI (b01_t (by omega)).symm | exact av_rI (b01_f (by omega)).symm
    · refine ax_iconst rfl ?_
      refine ax_goto rfl ?_
      refine ax_zret rfl rfl (by omega) ?_
      first | exact av_rI (b01_t (by omega)).symm | exact av_rI (b01_f (by omega)).symm
set_option maxRecDepth 100000 in
set_option maxHeartbeats 800000 in
theorem c_H_next (E : av_E) (d : Nat) (M : av_M) (c : Int) (hc : 0 ≤ c ∧ c < 1000) (hr : 0 ≤ M 4 5 ∧ M 4 5 ≤ 1000) : av_Mt E d mX4_next [vR 4, vI c] M (av_X (some (vI (if c + 1 < M 4 5 then c + 1 else 0))) M) := by
  refine av_enter hX4_next oX4_next rfl rfl ?_
  refine ax_iloadn rfl rfl ?_
  refine ax_iconst rfl ?_
  refine ax_iadd rfl ?_
  refine ax_aloadn rfl rfl ?_
  refine ax_getI (g := 5) rfl fX4_36 rfl rfl rfl rfl ?_
  refine ax_icmp_ge rfl (by omega) (by omega) (fun h7 => ?_) (fun h7 => ?_)
  · refine ax_iconst rfl ?_
    refine ax_iret rfl rfl ?_
    exact av_rI (by split <;> omega)
  · refine ax_iloadn rfl rfl ?_
    refine ax_iconst rfl ?_
    refine ax_iadd rfl ?_
    refine ax_goto rfl ?_
    refine ax_iret rfl rfl ?_
    exact av_rI (by split <;> omega)
set_option maxRecDepth 100000 in
set_option maxHeartbeats 800000 in
theorem c_H_xOf (E : av_E) (d : Nat) (M : av_M) (c : Int) (hc : 0 ≤ c ∧ c < 14) (hr : 0 ≤ M 8 c ∧ M 8 c < 12) : av_Mt E d mX4_xOf [vR 4, vI c] M (av_X (some (vI (M 5 (M 8 c)))) M) := by
  refine av_enter hX4_xOf oX4_xOf rfl rfl ?_
  refine ax_aloadn rfl rfl ?_
  refine ax_getR rfl fX4_7 rfl rfl ?_
  refine ax_aloadn rfl rfl ?_
  refine ax_getR rfl fX4_19 rfl rfl ?_
  refine ax_iloadn rfl rfl ?_
  refine ax_iald rfl rfl (by omega) ?_
  refine ax_iald rfl rfl (by omega) ?_
  refine ax_iret rfl rfl ?_
  exact av_rI rfl
set_option maxRecDepth 100000 in
set_option maxHeartbeats 800000 in
theorem c_H_yOf (E : av_E) (d : Nat) (M : av_M) (c : Int) (hc : 0 ≤ c ∧ c < 14) (hr : 0 ≤ M 8 c ∧ M 8 c < 12) : av_Mt E d mX4_yOf [vR 4, vI c] M (av_X (some (vI (M 6 (M 8 c)))) M) := by
  refine av_enter hX4_yOf oX4_yOf rfl rfl ?_
  refine ax_aloadn rfl rfl ?_
  refine ax_getR rfl fX4_13 rfl rfl ?_
  refine ax_aloadn rfl rfl ?_
  refine ax_getR rfl fX4_19 rfl rfl ?_
  refine ax_iloadn rfl rfl ?_
  refine ax_iald rfl rfl (by omega) ?_
  refine ax_iald rfl rfl (by omega) ?_
  refine ax_iret rfl rfl ?_
  exact av_rI rfl
set_option maxRecDepth 100000 in
set_option maxHeartbeats 800000 in
theorem c_H_wOf (E : av_E) (d : Nat) (M : av_M) (c : Int) (hc : 0 ≤ c ∧ c < 14) (hr : 0 ≤ M 8 c ∧ M 8 c < 12) : av_Mt E d mX4_wOf [vR 4, vI c] M (av_X (some (vI (M 7 (M 8 c)))) M) := by
  refine av_enter hX4_wOf oX4_wOf rfl rfl ?_
  refine ax_aloadn rfl rfl ?_
  refine ax_getR rfl fX4_16 rfl rfl ?_
  refine ax_aloadn rfl rfl ?_
  refine ax_getR rfl fX4_19 rfl rfl ?_
  refine ax_iloadn rfl rfl ?_
  refine ax_iald rfl rfl (by omega) ?_
  refine ax_iald rfl rfl (by omega) ?_
  refine ax_iret rfl rfl ?_
  exact av_rI rfl
set_option maxRecDepth 100000 in
set_option maxHeartbeats 800000 in
theorem c_H_empty (E : av_E) (d : Nat) (M : av_M) : av_Mt E d mX4_empty [vR 4] M (fun r M' => r = none ∧ M' 4 4 = 0 ∧ (∀ j, j ≠ 4 → M' 4 j = M 4 j) ∧ ∀ k, k ≠ 4 → M' k = M k) := by
  refine av_enter hX4_empty oX4_empty rfl rfl ?_
  refine ax_aloadn rfl rfl ?_
  refine ax_iconst rfl ?_
  refine ax_putI' (g := 4) rfl gX4_22 rfl rfl rfl rfl (fun M2 a2 b2 c2 => ?_)
  refine ax_vret rfl rfl ?_
  exact ⟨rfl, a2, b2, c2⟩
set_option maxRecDepth 100000 in
set_option maxHeartbeats 800000 in
theorem l_H_shift (E : av_E) (d : Nat) (M : av_M) (px py pw s n : Int) (hs : 0 ≤ s ∧ s ≤ n) (hn : n < 12) (v : Int) (Q : Option av_V → av_M → Prop)
    (hx : ∀ M1 : av_M, (∀ j, j ≤ s ∨ n < j → M1 5 j = M 5 j ∧ M1 6 j = M 6 j ∧ M1 7 j = M 7 j) → (∀ j, s < j → j ≤ n → M1 5 j = M 5 (j - 1) ∧ M1 6 j = M 6 (j - 1) ∧ M1 7 j = M 7 (j - 1)) → (∀ k, k ≠ 5 → k ≠ 6 → k ≠ 7 → M1 k = M k) →
      av_S E d mX4_add 142 [(0, vR 4), (1, vI px), (2, vI py), (3, vI pw), (4, vI s), (5, vI v), (6, vI s)] [] M1 Q) :
    ∀ (t : Nat) (M1 : av_M) (i : Int), i = s + t → i ≤ n → (∀ j, j ≤ i ∨ n < j → M1 5 j = M 5 j ∧ M1 6 j = M 6 j ∧ M1 7 j = M 7 j) → (∀ j, i < j → j ≤ n → M1 5 j = M 5 (j - 1) ∧ M1 6 j = M 6 (j - 1) ∧ M1 7 j = M 7 (j - 1)) → (∀ k, k ≠ 5 → k ≠ 6 → k ≠ 7 → M1 k = M k) →
      av_S E d mX4_add 81 [(0, vR 4), (1, vI px), (2, vI py), (3, vI pw), (4, vI s), (5, vI v), (6, vI i)] [] M1 Q := by
  intro t
  induction t with
  | zero =>
    intro M1 i hi hin h1 h2 h3
    have e : i = s := by omega
    subst e
    refine ax_iload rfl rfl ?_
    refine ax_iload rfl rfl ?_
    refine ax_icmp_le rfl (by omega) (by omega) (fun h85 => ?_) (fun h85 => ?_)
    · exact hx M1 h1 h2 h3
    · omega
  | succ t ih =>
    intro M1 i hi hin h1 h2 h3
    refine ax_iload rfl rfl ?_
    refine ax_iload rfl rfl ?_
    refine ax_icmp_le rfl (by omega) (by omega) (fun h85 => ?_) (fun h85 => ?_)
    · omega
    · refine ax_aloadn rfl rfl ?_
      refine ax_getR rfl fX4_7 rfl rfl ?_
      refine ax_iload rfl rfl ?_
      refine ax_aloadn rfl rfl ?_
      refine ax_getR rfl fX4_7 rfl rfl ?_
      refine ax_iload rfl rfl ?_
      refine ax_iconst rfl ?_
      refine ax_isub rfl ?_
      refine ax_iald rfl rfl (by omega) ?_
      refine ax_iast' rfl rfl (by omega) (fun M103 a103 b103 c103 => ?_)
      refine ax_aloadn rfl rfl ?_
      refine ax_getR rfl fX4_13 rfl rfl ?_
      refine ax_iload rfl rfl ?_
      refine ax_aloadn rfl rfl ?_
      refine ax_getR rfl fX4_13 rfl rfl ?_
      refine ax_iload rfl rfl ?_
      refine ax_iconst rfl ?_
      refine ax_isub rfl ?_
      refine ax_iald rfl rfl (by omega) ?_
      refine ax_iast' rfl rfl (by omega) (fun M119 a119 b119 c119 => ?_)
      refine ax_aloadn rfl rfl ?_
      refine ax_getR rfl fX4_16 rfl rfl ?_
      refine ax_iload rfl rfl ?_
      refine ax_aloadn rfl rfl ?_
      refine ax_getR rfl fX4_16 rfl rfl ?_
      refine ax_iload rfl rfl ?_
      refine ax_iconst rfl ?_
      refine ax_isub rfl ?_
      refine ax_iald rfl rfl (by omega) ?_
      refine ax_iast' rfl rfl (by omega) (fun M135 a135 b135 c135 => ?_)
      refine ax_iinc (ls' := [(0, _), (1, _), (2, _), (3, _), (4, _), (5, _), (6, _)]) rfl rfl rfl rfl ?_
      refine ax_goto rfl ?_
      refine ih _ _ (by omega) (by omega) (fun j hj => ?_) (fun j hj hj2 => ?_) (fun k k1 k2 k3 => ?_)
      · have := h1 j (by omega)
        rw [c135 5 (by decide), c135 6 (by decide), c119 5 (by decide), b103 j (by omega), b119 j (by omega), b135 j (by omega), c103 6 (by decide), c119 7 (by decide), c103 7 (by decide)]
        exact this
      · by_cases hji : j = i
        · subst hji
          have e1 := h1 (j - 1) (by omega)
          refine ⟨?_, ?_, ?_⟩
          · rw [c135 5 (by decide), c119 5 (by decide), a103]; exact e1.1
          · rw [c135 6 (by decide), a119, c103 6 (by decide)]; exact e1.2.1
          · rw [a135, c119 7 (by decide), c103 7 (by decide)]; exact e1.2.2
        · have := h2 j (by omega) hj2
          rw [c135 5 (by decide), c135 6 (by decide), c119 5 (by decide), b103 j hji, b119 j hji, b135 j hji, c103 6 (by decide), c119 7 (by decide), c103 7 (by decide)]
          exact this
      · rw [c135 k k3, c119 k k2, c103 k k1]; exact h3 k k1 k2 k3
set_option maxRecDepth 100000 in
set_option maxHeartbeats 800000 in
theorem l_H_add75 (E : av_E) (d : Nat) (M : av_M) (S : pt → Prop) (px py pw s v : Int) (hp : BP px py pw) (hE : OE (M 5) (M 6) (M 7) (M 4 4) S) (hn : M 4 4 < 12) (hs : 0 ≤ s ∧ s ≤ M 4 4)
    (a1 : ∀ j, 0 ≤ j → j < s → lx (P2 (M 5 j) (M 6 j) (M 7 j)) (P2 px py pw)) (a2 : ∀ j, s ≤ j → j < M 4 4 → lx (P2 px py pw) (P2 (M 5 j) (M 6 j) (M 7 j))) :
    av_S E d mX4_add 75 [(0, vR 4), (1, vI px), (2, vI py), (3, vI pw), (4, vI s), (5, vI v)] [] M (fun r M' => r = none ∧ M 4 4 ≤ M' 4 4 ∧ M' 4 4 ≤ M 4 4 + 1 ∧ OE (M' 5) (M' 6) (M' 7) (M' 4 4) (fun q => S q ∨ q = P2 px py pw) ∧ (∀ j, j ≠ 4 → M' 4 j = M 4 j) ∧ (∀ k, k ≠ 4 → k ≠ 5 → k ≠ 6 → k ≠ 7 → M' k = M k) ∧ ∀ T : Int → Int → Int → Prop, (∀ j, 0 ≤ j → j < M 4 4 → T (M 5 j) (M 6 j) (M 7 j)) → T px py pw → ∀ j, 0 ≤ j → j < M' 4 4 → T (M' 5 j) (M' 6 j) (M' 7 j)) := by
  refine ax_aloadn rfl rfl ?_
  refine ax_getI (g := 4) rfl fX4_22 rfl rfl rfl rfl ?_
  refine ax_istore (ls' := [(0, _), (1, _), (2, _), (3, _), (4, _), (5, _), (6, _)]) rfl rfl rfl ?_
  refine l_H_shift E d M px py pw s (M 4 4) hs hn v _ (fun M1 h1 h2 h3 => ?_) (M 4 4 - s).toNat M _ (by omega) (by omega) (fun j _ => ⟨rfl, rfl, rfl⟩) (fun j hj hj2 => by omega) (fun k _ _ _ => rfl)
  refine ax_aloadn rfl rfl ?_
  refine ax_getR rfl fX4_7 rfl rfl ?_
  refine ax_iload rfl rfl ?_
  refine ax_iloadn rfl rfl ?_
  refine ax_iast' rfl rfl (by omega) (fun M149 a149 b149 c149 => ?_)
  refine ax_aloadn rfl rfl ?_
  refine ax_getR rfl fX4_13 rfl rfl ?_
  refine ax_iload rfl rfl ?_
  refine ax_iloadn rfl rfl ?_
  refine ax_iast' rfl rfl (by omega) (fun M157 a157 b157 c157 => ?_)
  refine ax_aloadn rfl rfl ?_
  refine ax_getR rfl fX4_16 rfl rfl ?_
  refine ax_iload rfl rfl ?_
  refine ax_iloadn rfl rfl ?_
  refine ax_iast' rfl rfl (by omega) (fun M165 a165 b165 c165 => ?_)
  refine ax_aloadn rfl rfl ?_
  refine ax_dup rfl rfl ?_
  refine ax_getI (g := 4) rfl fX4_22 rfl rfl rfl rfl ?_
  refine ax_iconst rfl ?_
  refine ax_iadd rfl ?_
  refine ax_putI' (g := 4) rfl gX4_22 rfl rfl rfl rfl (fun M173 a173 b173 c173 => ?_)
  refine ax_vret rfl rfl ?_
  have eX : ∀ j, M173 5 j = if j = s then px else M1 5 j := fun j => by
    rw [c173 5 (by decide), c165 5 (by decide), c157 5 (by decide)]
    split
    · rename_i e; rw [e]; exact a149
    · rename_i e; exact b149 j e
  have eY : ∀ j, M173 6 j = if j = s then py else M1 6 j := fun j => by
    rw [c173 6 (by decide), c165 6 (by decide)]
    split
    · rename_i e; rw [e]; exact a157
    · rename_i e; rw [b157 j e, c149 6 (by decide)]
  have eW : ∀ j, M173 7 j = if j = s then pw else M1 7 j := fun j => by
    rw [c173 7 (by decide)]
    split
    · rename_i e; rw [e]; exact a165
    · rename_i e; rw [b165 j e, c157 7 (by decide), c149 7 (by decide)]
  have e4 : M173 4 4 = M 4 4 + 1 := by
    rw [a173, c165 4 (by decide), c157 4 (by decide), c149 4 (by decide), h3 4 (by decide) (by decide) (by decide)]
  refine ⟨rfl, by omega, by omega, ?_, fun j hj => ?_, fun k k0 k1 k2 k3 => ?_, fun T hT hTp j j0 j1 => ?_⟩
  · rw [e4]
    refine OE_ins hE hp hs.1 hs.2 a1 a2 (fun j j0 j1 => ?_) ?_ (fun j j0 j1 => ?_)
    · rw [eX, eY, eW, if_neg (by omega), if_neg (by omega), if_neg (by omega)]; exact h1 j (by omega)
    · rw [eX, eY, eW, if_pos rfl, if_pos rfl, if_pos rfl]; exact ⟨rfl, rfl, rfl⟩
    · rw [eX, eY, eW, if_neg (by omega), if_neg (by omega), if_neg (by omega)]
      have := h2 (j + 1) (by omega) (by omega)
      rwa [show j + 1 - 1 = j by omega] at this
  · rw [b173 j hj, c165 4 (by decide), c157 4 (by decide), c149 4 (by decide), h3 4 (by decide) (by decide) (by decide)]
  · rw [c173 k k0, c165 k k3, c157 k k2, c149 k k1]; exact h3 k k1 k2 k3
  · rw [eX, eY, eW]
    rcases Int.lt_trichotomy j s with q | q | q
    · rw [if_neg (by omega), if_neg (by omega), if_neg (by omega)]
      have := h1 j (by omega)
      rw [this.1, this.2.1, this.2.2]; exact hT j j0 (by omega)
    · rw [if_pos q, if_pos q, if_pos q]; exact hTp
    · rw [if_neg (by omega), if_neg (by omega), if_neg (by omega)]
      have := h2 j (by omega) (by omega)
      rw [this.1, this.2.1, this.2.2]; exact hT (j - 1) (by omega) (by omega)
set_option maxRecDepth 100000 in
set_option maxHeartbeats 800000 in
theorem l_H_add6 (E : av_E) (d : Nat) (M : av_M) (S : pt → Prop) (px py pw : Int) (hp : BP px py pw) (hE : OE (M 5) (M 6) (M 7) (M 4 4) S) (hn : M 4 4 < 12) :
    ∀ (t : Nat) (s : Int), s = t → s ≤ M 4 4 → (∀ j, s ≤ j → j < M 4 4 → lx (P2 px py pw) (P2 (M 5 j) (M 6 j) (M 7 j))) →
    av_S E (d + 2) mX4_add 6 [(0, vR 4), (1, vI px), (2, vI py), (3, vI pw), (4, vI s)] [] M (fun r M' => r = none ∧ M 4 4 ≤ M' 4 4 ∧ M' 4 4 ≤ M 4 4 + 1 ∧ OE (M' 5) (M' 6) (M' 7) (M' 4 4) (fun q => S q ∨ q = P2 px py pw) ∧ (∀ j, j ≠ 4 → M' 4 j = M 4 j) ∧ (∀ k, k ≠ 4 → k ≠ 5 → k ≠ 6 → k ≠ 7 → M' k = M k) ∧ ∀ T : Int → Int → Int → Prop, (∀ j, 0 ≤ j → j < M 4 4 → T (M 5 j) (M 6 j) (M 7 j)) → T px py pw → ∀ j, 0 ≤ j → j < M' 4 4 → T (M' 5 j) (M' 6 j) (M' 7 j)) := by
  have hBD := hE.2.1
  have hp0 : 0 < pw := hp.2.2.1
  have hw : ∀ j, 0 ≤ j → j < M 4 4 → 0 < M 7 j := fun j h0 h1 => (hBD j h0 h1).2.2.1
  -- behind the search
  have h31 : ∀ s : Int, 0 ≤ s → s ≤ M 4 4 → (∀ j, s ≤ j → j < M 4 4 → lx (P2 px py pw) (P2 (M 5 j) (M 6 j) (M 7 j))) → (0 < s → ¬ lx (P2 px py pw) (P2 (M 5 (s - 1)) (M 6 (s - 1)) (M 7 (s - 1)))) →
      av_S E (d + 2) mX4_add 31 [(0, vR 4), (1, vI px), (2, vI py), (3, vI pw), (4, vI s)] [] M (fun r M' => r = none ∧ M 4 4 ≤ M' 4 4 ∧ M' 4 4 ≤ M 4 4 + 1 ∧ OE (M' 5) (M' 6) (M' 7) (M' 4 4) (fun q => S q ∨ q = P2 px py pw) ∧ (∀ j, j ≠ 4 → M' 4 j = M 4 j) ∧ (∀ k, k ≠ 4 → k ≠ 5 → k ≠ 6 → k ≠ 7 → M' k = M k) ∧ ∀ T : Int → Int → Int → Prop, (∀ j, 0 ≤ j → j < M 4 4 → T (M 5 j) (M 6 j) (M 7 j)) → T px py pw → ∀ j, 0 ≤ j → j < M' 4 4 → T (M' 5 j) (M' 6 j) (M' 7 j)) := by
    intro s s0 s1 a2 hno
    have low : (0 < s → lx (P2 (M 5 (s - 1)) (M 6 (s - 1)) (M 7 (s - 1))) (P2 px py pw)) → ∀ j, 0 ≤ j → j < s → lx (P2 (M 5 j) (M 6 j) (M 7 j)) (P2 px py pw) := by
      intro hl j j0 j1
      by_cases hj : j = s - 1
      · rw [hj]; exact hl (by omega)
      · exact lx_tr (OE_lt hE j0 (show j < s - 1 by omega) (by omega)) (hl (by omega))
    refine ax_iload rfl rfl ?_
    refine ax_if_le rfl (by omega) (fun h33 => ?_) (fun h33 => ?_)
    · refine ax_iconst rfl ?_
      refine ax_istore (ls' := [(0, _), (1, _), (2, _), (3, _), (4, _), (5, _)]) rfl rfl rfl ?_
      refine ax_iload rfl rfl ?_
      refine ax_if_ne rfl (by omega) (fun h59 => ?_) (fun h59 => ?_)
      · refine ax_vret rfl rfl ?_
        first
          | omega
          | exact ⟨rfl, by omega, by omega, OE_had hE (by
              have hz : sd (M 5 (s - 1)) (M 6 (s - 1)) (M 7 (s - 1)) px py pw = 0 := by omega
              rw [← (sd_zero (hw _ (by omega) (by omega)) hp0).mp hz]
              exact OE_in hE (by omega) (by omega)), fun j _ => rfl, fun k _ _ _ _ => rfl, fun T hT _ => hT⟩
      · refine ax_aloadn rfl rfl ?_
        refine ax_getI (g := 4) rfl fX4_22 rfl rfl rfl rfl ?_
        refine ax_aloadn rfl rfl ?_
        refine ax_getR rfl fX4_7 rfl rfl ?_
        refine ax_alen rfl rfl (by decide) ?_
        refine ax_icmp_lt rfl (by omega) (by omega) (fun h71 => ?_) (fun h71 => ?_)
        · exact l_H_add75 E _ M S px py pw s _ hp hE hn ⟨s0, s1⟩ (low (fun h0 => by
            have hz : ¬ sd (M 5 (s - 1)) (M 6 (s - 1)) (M 7 (s - 1)) px py pw = 0 := by first | assumption | omega
            have hq := hno h0
            rw [← sd_pos (hw _ (by omega) (by omega)) hp0] at hq
            rw [← sd_neg (hw _ (by omega) (by omega)) hp0]
            omega)) a2
        · refine ax_vret rfl rfl ?_
          first
            | omega
            | exact ⟨rfl, by omega, by omega, OE_had hE (by
                have hz : sd (M 5 (s - 1)) (M 6 (s - 1)) (M 7 (s - 1)) px py pw = 0 := by omega
                rw [← (sd_zero (hw _ (by omega) (by omega)) hp0).mp hz]
                exact OE_in hE (by omega) (by omega)), fun j _ => rfl, fun k _ _ _ _ => rfl, fun T hT _ => hT⟩
    · refine ax_aloadn rfl rfl ?_
      refine ax_iload rfl rfl ?_
      refine ax_iconst rfl ?_
      refine ax_isub rfl ?_
      refine ax_iloadn rfl rfl ?_
      refine ax_iloadn rfl rfl ?_
      refine ax_iloadn rfl rfl ?_
      refine ax_callV (as := [_, _, _, _]) rfl vX4_26 hX4_side rfl rfl rfl rfl rfl (c_H_side E d M _ px py pw (by omega) (hBD _ (by omega) (by omega)) hp) (av_Xk ?_)
      refine ax_if_ne rfl (by have := sd_rng (M 5 (s - 1)) (M 6 (s - 1)) (M 7 (s - 1)) px py pw; omega) (fun h47 => ?_) (fun h47 => ?_)
      · refine ax_iconst rfl ?_
        refine ax_istore (ls' := [(0, _), (1, _), (2, _), (3, _), (4, _), (5, _)]) rfl rfl rfl ?_
        refine ax_iload rfl rfl ?_
        refine ax_if_ne rfl (by omega) (fun h59 => ?_) (fun h59 => ?_)
        · refine ax_vret rfl rfl ?_
          first
            | omega
            | exact ⟨rfl, by omega, by omega, OE_had hE (by
                have hz : sd (M 5 (s - 1)) (M 6 (s - 1)) (M 7 (s - 1)) px py pw = 0 := by omega
                rw [← (sd_zero (hw _ (by omega) (by omega)) hp0).mp hz]
                exact OE_in hE (by omega) (by omega)), fun j _ => rfl, fun k _ _ _ _ => rfl, fun T hT _ => hT⟩
        · refine ax_aloadn rfl rfl ?_
          refine ax_getI (g := 4) rfl fX4_22 rfl rfl rfl rfl ?_
          refine ax_aloadn rfl rfl ?_
          refine ax_getR rfl fX4_7 rfl rfl ?_
          refine ax_alen rfl rfl (by decide) ?_
          refine ax_icmp_lt rfl (by omega) (by omega) (fun h71 => ?_) (fun h71 => ?_)
          · exact l_H_add75 E _ M S px py pw s _ hp hE hn ⟨s0, s1⟩ (low (fun h0 => by
              have hz : ¬ sd (M 5 (s - 1)) (M 6 (s - 1)) (M 7 (s - 1)) px py pw = 0 := by first | assumption | omega
              have hq := hno h0
              rw [← sd_pos (hw _ (by omega) (by omega)) hp0] at hq
              rw [← sd_neg (hw _ (by omega) (by omega)) hp0]
              omega)) a2
          · refine ax_vret rfl rfl ?_
            first
              | omega
              | exact ⟨rfl, by omega, by omega, OE_had hE (by
                  have hz : sd (M 5 (s - 1)) (M 6 (s - 1)) (M 7 (s - 1)) px py pw = 0 := by omega
                  rw [← (sd_zero (hw _ (by omega) (by omega)) hp0).mp hz]
                  exact OE_in hE (by omega) (by omega)), fun j _ => rfl, fun k _ _ _ _ => rfl, fun T hT _ => hT⟩
      · refine ax_iconst rfl ?_
        refine ax_goto rfl ?_
        refine ax_istore (ls' := [(0, _), (1, _), (2, _), (3, _), (4, _), (5, _)]) rfl rfl rfl ?_
        refine ax_iload rfl rfl ?_
        refine ax_if_ne rfl (by omega) (fun h59 => ?_) (fun h59 => ?_)
        · refine ax_vret rfl rfl ?_
          first
            | omega
            | exact ⟨rfl, by omega, by omega, OE_had hE (by
                have hz : sd (M 5 (s - 1)) (M 6 (s - 1)) (M 7 (s - 1)) px py pw = 0 := by omega
                rw [← (sd_zero (hw _ (by omega) (by omega)) hp0).mp hz]
                exact OE_in hE (by omega) (by omega)), fun j _ => rfl, fun k _ _ _ _ => rfl, fun T hT _ => hT⟩
        · refine ax_aloadn rfl rfl ?_
          refine ax_getI (g := 4) rfl fX4_22 rfl rfl rfl rfl ?_
          refine ax_aloadn rfl rfl ?_
          refine ax_getR rfl fX4_7 rfl rfl ?_
          refine ax_alen rfl rfl (by decide) ?_
          refine ax_icmp_lt rfl (by omega) (by omega) (fun h71 => ?_) (fun h71 => ?_)
          · exact l_H_add75 E _ M S px py pw s _ hp hE hn ⟨s0, s1⟩ (low (fun h0 => by
              have hz : ¬ sd (M 5 (s - 1)) (M 6 (s - 1)) (M 7 (s - 1)) px py pw = 0 := by first | assumption | omega
              have hq := hno h0
              rw [← sd_pos (hw _ (by omega) (by omega)) hp0] at hq
              rw [← sd_neg (hw _ (by omega) (by omega)) hp0]
              omega)) a2
          · refine ax_vret rfl rfl ?_
            first
              | omega
              | exact ⟨rfl, by omega, by omega, OE_had hE (by
                  have hz : sd (M 5 (s - 1)) (M 6 (s - 1)) (M 7 (s - 1)) px py pw = 0 := by omega
                  rw [← (sd_zero (hw _ (by omega) (by omega)) hp0).mp hz]
                  exact OE_in hE (by omega) (by omega)), fun j _ => rfl, fun k _ _ _ _ => rfl, fun T hT _ => hT⟩
  intro t
  induction t with
  | zero =>
    intro s hs hsn a2
    subst hs
    refine ax_iload rfl rfl ?_
    refine ax_if_le rfl (by omega) (fun h8 => ?_) (fun h8 => ?_)
    · exact h31 _ (by omega) (by omega) a2 (fun h => by omega)
    · omega
  | succ t ih =>
    intro s hs hsn a2
    refine ax_iload rfl rfl ?_
    refine ax_if_le rfl (by omega) (fun h8 => ?_) (fun h8 => ?_)
    · exact h31 _ (by omega) (by omega) a2 (fun h => by first | omega | (rw [← sd_pos (hw _ (by omega) (by omega)) hp0]; omega))
    · refine ax_aloadn rfl rfl ?_
      refine ax_iload rfl rfl ?_
      refine ax_iconst rfl ?_
      refine ax_isub rfl ?_
      refine ax_iloadn rfl rfl ?_
      refine ax_iloadn rfl rfl ?_
      refine ax_iloadn rfl rfl ?_
      refine ax_callV (as := [_, _, _, _]) rfl vX4_26 hX4_side rfl rfl rfl rfl rfl (c_H_side E d M _ px py pw (by omega) (hBD _ (by omega) (by omega)) hp) (av_Xk ?_)
      refine ax_if_le rfl (by have := sd_rng (M 5 (s - 1)) (M 6 (s - 1)) (M 7 (s - 1)) px py pw; omega) (fun h22 => ?_) (fun h22 => ?_)
      · exact h31 _ (by omega) (by omega) a2 (fun h => by first | omega | (rw [← sd_pos (hw _ (by omega) (by omega)) hp0]; omega))
      · refine ax_iinc (ls' := [(0, _), (1, _), (2, _), (3, _), (4, _)]) rfl rfl rfl rfl ?_
        refine ax_goto rfl ?_
        refine ih _ (by omega) (by omega) (fun j j0 j1 => ?_)
        by_cases hj : j = s - 1
        · rw [hj, ← sd_pos (hw _ (by omega) (by omega)) hp0]; omega
        · exact a2 j (by omega) j1
set_option maxRecDepth 100000 in
set_option maxHeartbeats 800000 in
theorem c_H_add (E : av_E) (d : Nat) (M : av_M) (S : pt → Prop) (px py pw : Int) (hp : BP px py pw) (hE : OE (M 5) (M 6) (M 7) (M 4 4) S) (hn : M 4 4 < 12) : av_Mt E (d + 2) mX4_add [vR 4, vI px, vI py, vI pw] M (fun r M' => r = none ∧ M 4 4 ≤ M' 4 4 ∧ M' 4 4 ≤ M 4 4 + 1 ∧ OE (M' 5) (M' 6) (M' 7) (M' 4 4) (fun q => S q ∨ q = P2 px py pw) ∧ (∀ j, j ≠ 4 → M' 4 j = M 4 j) ∧ (∀ k, k ≠ 4 → k ≠ 5 → k ≠ 6 → k ≠ 7 → M' k = M k) ∧ ∀ T : Int → Int → Int → Prop, (∀ j, 0 ≤ j → j < M 4 4 → T (M 5 j) (M 6 j) (M 7 j)) → T px py pw → ∀ j, 0 ≤ j → j < M' 4 4 → T (M' 5 j) (M' 6 j) (M' 7 j)) := by
  have h0 := hE.1
  refine av_enter hX4_add oX4_add rfl rfl ?_
  refine ax_aloadn rfl rfl ?_
  refine ax_getI (g := 4) rfl fX4_22 rfl rfl rfl rfl ?_
  refine ax_istore (ls' := [(0, _), (1, _), (2, _), (3, _), (4, _)]) rfl rfl rfl ?_
  exact l_H_add6 E d M S px py pw hp hE hn (M 4 4).toNat _ (by omega) (by omega) (fun j j0 j1 => by omega)
set_option maxRecDepth 100000 in
set_option maxHeartbeats 800000 in
theorem c_O_side (E : av_E) (d : Nat) (M : av_M) (i px py pw : Int) (hi : 0 ≤ i ∧ i < 120) (hb : BP (M 29 i) (M 30 i) (M 31 i)) (hp : BP px py pw) : av_Mt E (d + 1) mX4_side [vR 28, vI i, vI px, vI py, vI pw] M (av_X (some (vI (sd (M 29 i) (M 30 i) (M 31 i) px py pw))) M) := by
  obtain ⟨x0, y0, w0, w1⟩ := hb
  obtain ⟨px0, py0, pw0, pw1⟩ := hp
  have q1 := mb (A := 50000) (B := 5000) x0 (show -5000 ≤ pw ∧ pw ≤ 5000 by omega)
  have q2 := mb (A := 50000) (B := 5000) px0 (show -5000 ≤ M 31 i ∧ M 31 i ≤ 5000 by omega)
  have q3 := mb (A := 50000) (B := 5000) y0 (show -5000 ≤ pw ∧ pw ≤ 5000 by omega)
  have q4 := mb (A := 50000) (B := 5000) py0 (show -5000 ≤ M 31 i ∧ M 31 i ≤ 5000 by omega)
  have g1 := sg_rng (M 29 i * pw) (px * M 31 i)
  have g2 := sg_rng (M 30 i * pw) (py * M 31 i)
  refine av_enter hX4_side oX4_side rfl rfl ?_
  refine ax_aloadn rfl rfl ?_
  refine ax_getR rfl fX4_7 rfl rfl ?_
  refine ax_iloadn rfl rfl ?_
  refine ax_iald rfl rfl (by omega) ?_
  refine ax_i2l rfl (by omega) ?_
  refine ax_iload rfl rfl ?_
  refine ax_i2l rfl (by omega) ?_
  refine ax_lmul rfl ?_
  refine ax_iloadn rfl rfl ?_
  refine ax_i2l rfl (by omega) ?_
  refine ax_aloadn rfl rfl ?_
  refine ax_getR rfl fX4_16 rfl rfl ?_
  refine ax_iloadn rfl rfl ?_
  refine ax_iald rfl rfl (by omega) ?_
  refine ax_i2l rfl (by omega) ?_
  refine ax_lmul rfl ?_
  refine ax_callS (as := [_, _]) rfl sX4_30 hJ13_compare_74951 rfl rfl rfl rfl (c_J_compare E d M _ _ (by omega) (by omega)) (av_Xk ?_)
  refine ax_istore (ls' := [(0, _), (1, _), (2, _), (3, _), (4, _), (5, _)]) rfl rfl rfl ?_
  refine ax_iload rfl rfl ?_
  refine ax_if_eq rfl (by omega) (fun h28 => ?_) (fun h28 => ?_)
  · refine ax_aloadn rfl rfl ?_
    refine ax_getR rfl fX4_13 rfl rfl ?_
    refine ax_iloadn rfl rfl ?_
    refine ax_iald rfl rfl (by omega) ?_
    refine ax_i2l rfl (by omega) ?_
    refine ax_iload rfl rfl ?_
    refine ax_i2l rfl (by omega) ?_
    refine ax_lmul rfl ?_
    refine ax_iloadn rfl rfl ?_
    refine ax_i2l rfl (by omega) ?_
    refine ax_aloadn rfl rfl ?_
    refine ax_getR rfl fX4_16 rfl rfl ?_
    refine ax_iloadn rfl rfl ?_
    refine ax_iald rfl rfl (by omega) ?_
    refine ax_i2l rfl (by omega) ?_
    refine ax_lmul rfl ?_
    refine ax_callS (as := [_, _]) rfl sX4_30 hJ13_compare_74951 rfl rfl rfl rfl (c_J_compare E d M _ _ (by omega) (by omega)) (av_Xk ?_)
    refine ax_iret rfl rfl ?_
    exact av_rI (by rw [sd_sg]; split <;> omega)
  · refine ax_iload rfl rfl ?_
    refine ax_goto rfl ?_
    refine ax_iret rfl rfl ?_
    exact av_rI (by rw [sd_sg]; split <;> omega)
set_option maxRecDepth 100000 in
set_option maxHeartbeats 800000 in
theorem c_O_turn (E : av_E) (d : Nat) (M : av_M) (i j px py pw : Int) (hi : 0 ≤ i ∧ i < 120) (hj : 0 ≤ j ∧ j < 120) (hb : BP (M 29 i) (M 30 i) (M 31 i)) (hb2 : BP (M 29 j) (M 30 j) (M 31 j)) (hp : BP px py pw ∨ (px = 0 ∧ py = 0 ∧ pw = 1)) : av_Mt E d mX4_turn [vR 28, vI i, vI j, vI px, vI py, vI pw] M (av_X (some (vL (D3 (M 29 i) (M 30 i) (M 31 i) (M 29 j) (M 30 j) (M 31 j) px py pw))) M) := by
  obtain ⟨x0, y0, w0, w1⟩ := hb
  obtain ⟨x2, y2, w2, w3⟩ := hb2
  have hp' : (-50000 ≤ px ∧ px ≤ 50000) ∧ (-50000 ≤ py ∧ py ≤ 50000) ∧ 0 < pw ∧ pw ≤ 5000 := by
    rcases hp with hp | hp
    · exact hp
    · omega
  obtain ⟨px0, py0, pw0, pw1⟩ := hp'
  refine av_enter hX4_turn oX4_turn rfl rfl ?_
  refine ax_aloadn rfl rfl ?_
  refine ax_getR rfl fX4_13 rfl rfl ?_
  refine ax_iloadn rfl rfl ?_
  refine ax_iald rfl rfl (by omega) ?_
  refine ax_i2l rfl (by omega) ?_
  refine ax_iload rfl rfl ?_
  refine ax_i2l rfl (by omega) ?_
  refine ax_lmul rfl ?_
  refine ax_aloadn rfl rfl ?_
  refine ax_getR rfl fX4_16 rfl rfl ?_
  refine ax_iloadn rfl rfl ?_
  refine ax_iald rfl rfl (by omega) ?_
  refine ax_i2l rfl (by omega) ?_
  refine ax_iload rfl rfl ?_
  refine ax_i2l rfl (by omega) ?_
  refine ax_lmul rfl ?_
  refine ax_lsub rfl ?_
  refine ax_lstore (ls' := [(0, _), (1, _), (2, _), (3, _), (4, _), (5, _), (6, _)]) rfl rfl rfl ?_
  refine ax_aloadn rfl rfl ?_
  refine ax_getR rfl fX4_7 rfl rfl ?_
  refine ax_iloadn rfl rfl ?_
  refine ax_iald rfl rfl (by omega) ?_
  refine ax_i2l rfl (by omega) ?_
  refine ax_iload rfl rfl ?_
  refine ax_i2l rfl (by omega) ?_
  refine ax_lmul rfl ?_
  refine ax_aloadn rfl rfl ?_
  refine ax_getR rfl fX4_16 rfl rfl ?_
  refine ax_iloadn rfl rfl ?_
  refine ax_iald rfl rfl (by omega) ?_
  refine ax_i2l rfl (by omega) ?_
  refine ax_iloadn rfl rfl ?_
  refine ax_i2l rfl (by omega) ?_
  refine ax_lmul rfl ?_
  refine ax_lsub rfl ?_
  refine ax_lstore (ls' := [(0, _), (1, _), (2, _), (3, _), (4, _), (5, _), (6, _), (8, _)]) rfl rfl rfl ?_
  refine ax_aloadn rfl rfl ?_
  refine ax_getR rfl fX4_7 rfl rfl ?_
  refine ax_iloadn rfl rfl ?_
  refine ax_iald rfl rfl (by omega) ?_
  refine ax_i2l rfl (by omega) ?_
  refine ax_iload rfl rfl ?_
  refine ax_i2l rfl (by omega) ?_
  refine ax_lmul rfl ?_
  refine ax_aloadn rfl rfl ?_
  refine ax_getR rfl fX4_13 rfl rfl ?_
  refine ax_iloadn rfl rfl ?_
  refine ax_iald rfl rfl (by omega) ?_
  refine ax_i2l rfl (by omega) ?_
  refine ax_iloadn rfl rfl ?_
  refine ax_i2l rfl (by omega) ?_
  refine ax_lmul rfl ?_
  refine ax_lsub rfl ?_
  refine ax_lstore (ls' := [(0, _), (1, _), (2, _), (3, _), (4, _), (5, _), (6, _), (8, _), (10, _)]) rfl rfl rfl ?_
  refine ax_aloadn rfl rfl ?_
  refine ax_getR rfl fX4_7 rfl rfl ?_
  refine ax_iloadn rfl rfl ?_
  refine ax_iald rfl rfl (by omega) ?_
  refine ax_i2l rfl (by omega) ?_
  refine ax_lload rfl rfl ?_
  refine ax_lmul rfl ?_
  refine ax_aloadn rfl rfl ?_
  refine ax_getR rfl fX4_13 rfl rfl ?_
  refine ax_iloadn rfl rfl ?_
  refine ax_iald rfl rfl (by omega) ?_
  refine ax_i2l rfl (by omega) ?_
  refine ax_lload rfl rfl ?_
  refine ax_lmul rfl ?_
  refine ax_lsub rfl ?_
  refine ax_aloadn rfl rfl ?_
  refine ax_getR rfl fX4_16 rfl rfl ?_
  refine ax_iloadn rfl rfl ?_
  refine ax_iald rfl rfl (by omega) ?_
  refine ax_i2l rfl (by omega) ?_
  refine ax_lload rfl rfl ?_
  refine ax_lmul rfl ?_
  refine ax_ladd rfl ?_
  refine ax_lret rfl rfl ?_
  exact av_rL rfl
set_option maxRecDepth 100000 in
set_option maxHeartbeats 800000 in
theorem c_O_size (E : av_E) (d : Nat) (M : av_M) : av_Mt E d mX4_size [vR 28] M (av_X (some (vI (M 28 5))) M) := by
  refine av_enter hX4_size oX4_size rfl rfl ?_
  refine ax_aloadn rfl rfl ?_
  refine ax_getI (g := 5) rfl fX4_36 rfl rfl rfl rfl ?_
  refine ax_iret rfl rfl ?_
  exact av_rI rfl
set_option maxRecDepth 100000 in
set_option maxHeartbeats 800000 in
theorem c_O_has (E : av_E) (d : Nat) (M : av_M) (c : Int) (hc : -2147483648 ≤ c ∧ c < 2147483648) (hr : 0 ≤ M 28 5 ∧ M 28 5 ≤ 1000) : av_Mt E d mX4_has [vR 28, vI c] M (av_X (some (vI (b01 (0 ≤ c ∧ c < M 28 5)))) M) := by
  refine av_enter hX4_has oX4_has rfl rfl ?_
  refine ax_iloadn rfl rfl ?_
  refine ax_if_lt rfl (by omega) (fun h1 => ?_) (fun h1 => ?_)
  · refine ax_iconst rfl ?_
    refine ax_zret rfl rfl (by omega) ?_
    first | exact av_rI (b01_t (by omega)).symm | exact av_rI (b01_f (by omega)).symm
  · refine ax_iloadn rfl rfl ?_
    refine ax_aloadn rfl rfl ?_
    refine ax_getI (g := 5) rfl fX4_36 rfl rfl rfl rfl ?_
    refine ax_icmp_ge rfl (by omega) (by omega) (fun h9 => ?_) (fun h9 => ?_)
    · refine ax_iconst rfl ?_
      refine ax_zret rfl rfl (by omega) ?_
      first | exact av_rI (b01_t (by omega)).symm | exact av_rI (b01_f (by omega)).symm
    · refine ax_iconst rfl ?_
      refine ax_goto rfl ?_
      refine ax_zret rfl rfl (by omega) ?_
      first | exact av_rI (b01_t (by omega)).symm | exact av_rI (b01_f (by omega)).symm
set_option maxRecDepth 100000 in
set_option maxHeartbeats 800000 in
theorem c_O_next (E : av_E) (d : Nat) (M : av_M) (c : Int) (hc : 0 ≤ c ∧ c < 1000) (hr : 0 ≤ M 28 5 ∧ M 28 5 ≤ 1000) : av_Mt E d mX4_next [vR 28, vI c] M (av_X (some (vI (if c + 1 < M 28 5 then c + 1 else 0))) M) := by
  refine av_enter hX4_next oX4_next rfl rfl ?_
  refine ax_iloadn rfl rfl ?_
  refine ax_iconst rfl ?_
  refine ax_iadd rfl ?_
  refine ax_aloadn rfl rfl ?_
  refine ax_getI (g := 5) rfl fX4_36 rfl rfl rfl rfl ?_
  refine ax_icmp_ge rfl (by omega) (by omega) (fun h7 => ?_) (fun h7 => ?_)
  · refine ax_iconst rfl ?_
    refine ax_iret rfl rfl ?_
    exact av_rI (by split <;> omega)
  · refine ax_iloadn rfl rfl ?_
    refine ax_iconst rfl ?_
    refine ax_iadd rfl ?_
    refine ax_goto rfl ?_
    refine ax_iret rfl rfl ?_
    exact av_rI (by split <;> omega)
set_option maxRecDepth 100000 in
set_option maxHeartbeats 800000 in
theorem c_O_xOf (E : av_E) (d : Nat) (M : av_M) (c : Int) (hc : 0 ≤ c ∧ c < 122) (hr : 0 ≤ M 32 c ∧ M 32 c < 120) : av_Mt E d mX4_xOf [vR 28, vI c] M (av_X (some (vI (M 29 (M 32 c)))) M) := by
  refine av_enter hX4_xOf oX4_xOf rfl rfl ?_
  refine ax_aloadn rfl rfl ?_
  refine ax_getR rfl fX4_7 rfl rfl ?_
  refine ax_aloadn rfl rfl ?_
  refine ax_getR rfl fX4_19 rfl rfl ?_
  refine ax_iloadn rfl rfl ?_
  refine ax_iald rfl rfl (by omega) ?_
  refine ax_iald rfl rfl (by omega) ?_
  refine ax_iret rfl rfl ?_
  exact av_rI rfl
set_option maxRecDepth 100000 in
set_option maxHeartbeats 800000 in
theorem c_O_yOf (E : av_E) (d : Nat) (M : av_M) (c : Int) (hc : 0 ≤ c ∧ c < 122) (hr : 0 ≤ M 32 c ∧ M 32 c < 120) : av_Mt E d mX4_yOf [vR 28, vI c] M (av_X (some (vI (M 30 (M 32 c)))) M) := by
  refine av_enter hX4_yOf oX4_yOf rfl rfl ?_
  refine ax_aloadn rfl rfl ?_
  refine ax_getR rfl fX4_13 rfl rfl ?_
  refine ax_aloadn rfl rfl ?_
  refine ax_getR rfl fX4_19 rfl rfl ?_
  refine ax_iloadn rfl rfl ?_
  refine ax_iald rfl rfl (by omega) ?_
  refine ax_iald rfl rfl (by omega) ?_
  refine ax_iret rfl rfl ?_
  exact av_rI rfl
set_option maxRecDepth 100000 in
set_option maxHeartbeats 800000 in
theorem c_O_wOf (E : av_E) (d : Nat) (M : av_M) (c : Int) (hc : 0 ≤ c ∧ c < 122) (hr : 0 ≤ M 32 c ∧ M 32 c < 120) : av_Mt E d mX4_wOf [vR 28, vI c] M (av_X (some (vI (M 31 (M 32 c)))) M) := by
  refine av_enter hX4_wOf oX4_wOf rfl rfl ?_
  refine ax_aloadn rfl rfl ?_
  refine ax_getR rfl fX4_16 rfl rfl ?_
  refine ax_aloadn rfl rfl ?_
  refine ax_getR rfl fX4_19 rfl rfl ?_
  refine ax_iloadn rfl rfl ?_
  refine ax_iald rfl rfl (by omega) ?_
  refine ax_iald rfl rfl (by omega) ?_
  refine ax_iret rfl rfl ?_
  exact av_rI rfl
set_option maxRecDepth 100000 in
set_option maxHeartbeats 800000 in
theorem c_O_empty (E : av_E) (d : Nat) (M : av_M) : av_Mt E d mX4_empty [vR 28] M (fun r M' => r = none ∧ M' 28 4 = 0 ∧ (∀ j, j ≠ 4 → M' 28 j = M 28 j) ∧ ∀ k, k ≠ 28 → M' k = M k) := by
  refine av_enter hX4_empty oX4_empty rfl rfl ?_
  refine ax_aloadn rfl rfl ?_
  refine ax_iconst rfl ?_
  refine ax_putI' (g := 4) rfl gX4_22 rfl rfl rfl rfl (fun M2 a2 b2 c2 => ?_)
  refine ax_vret rfl rfl ?_
  exact ⟨rfl, a2, b2, c2⟩
set_option maxRecDepth 100000 in
set_option maxHeartbeats 800000 in
theorem l_O_shift (E : av_E) (d : Nat) (M : av_M) (px py pw s n : Int) (hs : 0 ≤ s ∧ s ≤ n) (hn : n < 120) (v : Int) (Q : Option av_V → av_M → Prop)
    (hx : ∀ M1 : av_M, (∀ j, j ≤ s ∨ n < j → M1 29 j = M 29 j ∧ M1 30 j = M 30 j ∧ M1 31 j = M 31 j) → (∀ j, s < j → j ≤ n → M1 29 j = M 29 (j - 1) ∧ M1 30 j = M 30 (j - 1) ∧ M1 31 j = M 31 (j - 1)) → (∀ k, k ≠ 29 → k ≠ 30 → k ≠ 31 → M1 k = M k) →
      av_S E d mX4_add 142 [(0, vR 28), (1, vI px), (2, vI py), (3, vI pw), (4, vI s), (5, vI v), (6, vI s)] [] M1 Q) :
    ∀ (t : Nat) (M1 : av_M) (i : Int), i = s + t → i ≤ n → (∀ j, j ≤ i ∨ n < j → M1 29 j = M 29 j ∧ M1 30 j = M 30 j ∧ M1 31 j = M 31 j) → (∀ j, i < j → j ≤ n → M1 29 j = M 29 (j - 1) ∧ M1 30 j = M 30 (j - 1) ∧ M1 31 j = M 31 (j - 1)) → (∀ k, k ≠ 29 → k ≠ 30 → k ≠ 31 → M1 k = M k) →
      av_S E d mX4_add 81 [(0, vR 28), (1, vI px), (2, vI py), (3, vI pw), (4, vI s), (5, vI v), (6, vI i)] [] M1 Q := by
  intro t
  induction t with
  | zero =>
    intro M1 i hi hin h1 h2 h3
    have e : i = s := by omega
    subst e
    refine ax_iload rfl rfl ?_
    refine ax_iload rfl rfl ?_
    refine ax_icmp_le rfl (by omega) (by omega) (fun h85 => ?_) (fun h85 => ?_)
    · exact hx M1 h1 h2 h3
    · omega
  | succ t ih =>
    intro M1 i hi hin h1 h2 h3
    refine ax_iload rfl rfl ?_
    refine ax_iload rfl rfl ?_
    refine ax_icmp_le rfl (by omega) (by omega) (fun h85 => ?_) (fun h85 => ?_)
    · omega
    · refine ax_aloadn rfl rfl ?_
      refine ax_getR rfl fX4_7 rfl rfl ?_
      refine ax_iload rfl rfl ?_
      refine ax_aloadn rfl rfl ?_
      refine ax_getR rfl fX4_7 rfl rfl ?_
      refine ax_iload rfl rfl ?_
      refine ax_iconst rfl ?_
      refine ax_isub rfl ?_
      refine ax_iald rfl rfl (by omega) ?_
      refine ax_iast' rfl rfl (by omega) (fun M103 a103 b103 c103 => ?_)
      refine ax_aloadn rfl rfl ?_
      refine ax_getR rfl fX4_13 rfl rfl ?_
      refine ax_iload rfl rfl ?_
      refine ax_aloadn rfl rfl ?_
      refine ax_getR rfl fX4_13 rfl rfl ?_
      refine ax_iload rfl rfl ?_
      refine ax_iconst rfl ?_
      refine ax_isub rfl ?_
      refine ax_iald rfl rfl (by omega) ?_
      refine ax_iast' rfl rfl (by omega) (fun M119 a119 b119 c119 => ?_)
      refine ax_aloadn rfl rfl ?_
      refine ax_getR rfl fX4_16 rfl rfl ?_
      refine ax_iload rfl rfl ?_
      refine ax_aloadn rfl rfl ?_
      refine ax_getR rfl fX4_16 rfl rfl ?_
      refine ax_iload rfl rfl ?_
      refine ax_iconst rfl ?_
      refine ax_isub rfl ?_
      refine ax_iald rfl rfl (by omega) ?_
      refine ax_iast' rfl rfl (by omega) (fun M135 a135 b135 c135 => ?_)
      refine ax_iinc (ls' := [(0, _), (1, _), (2, _), (3, _), (4, _), (5, _), (6, _)]) rfl rfl rfl rfl ?_
      refine ax_goto rfl ?_
      refine ih _ _ (by omega) (by omega) (fun j hj => ?_) (fun j hj hj2 => ?_) (fun k k1 k2 k3 => ?_)
      · have := h1 j (by omega)
        rw [c135 29 (by decide), c135 30 (by decide), c119 29 (by decide), b103 j (by omega), b119 j (by omega), b135 j (by omega), c103 30 (by decide), c119 31 (by decide), c103 31 (by decide)]
        exact this
      · by_cases hji : j = i
        · subst hji
          have e1 := h1 (j - 1) (by omega)
          refine ⟨?_, ?_, ?_⟩
          · rw [c135 29 (by decide), c119 29 (by decide), a103]; exact e1.1
          · rw [c135 30 (by decide), a119, c103 30 (by decide)]; exact e1.2.1
          · rw [a135, c119 31 (by decide), c103 31 (by decide)]; exact e1.2.2
        · have := h2 j (by omega) hj2
          rw [c135 29 (by decide), c135 30 (by decide), c119 29 (by decide), b103 j hji, b119 j hji, b135 j hji, c103 30 (by decide), c119 31 (by decide), c103 31 (by decide)]
          exact this
      · rw [c135 k k3, c119 k k2, c103 k k1]; exact h3 k k1 k2 k3
set_option maxRecDepth 100000 in
set_option maxHeartbeats 800000 in
theorem l_O_add75 (E : av_E) (d : Nat) (M : av_M) (S : pt → Prop) (px py pw s v : Int) (hp : BP px py pw) (hE : OE (M 29) (M 30) (M 31) (M 28 4) S) (hn : M 28 4 < 120) (hs : 0 ≤ s ∧ s ≤ M 28 4)
    (a1 : ∀ j, 0 ≤ j → j < s → lx (P2 (M 29 j) (M 30 j) (M 31 j)) (P2 px py pw)) (a2 : ∀ j, s ≤ j → j < M 28 4 → lx (P2 px py pw) (P2 (M 29 j) (M 30 j) (M 31 j))) :
    av_S E d mX4_add 75 [(0, vR 28), (1, vI px), (2, vI py), (3, vI pw), (4, vI s), (5, vI v)] [] M (fun r M' => r = none ∧ M 28 4 ≤ M' 28 4 ∧ M' 28 4 ≤ M 28 4 + 1 ∧ OE (M' 29) (M' 30) (M' 31) (M' 28 4) (fun q => S q ∨ q = P2 px py pw) ∧ (∀ j, j ≠ 4 → M' 28 j = M 28 j) ∧ (∀ k, k ≠ 28 → k ≠ 29 → k ≠ 30 → k ≠ 31 → M' k = M k) ∧ ∀ T : Int → Int → Int → Prop, (∀ j, 0 ≤ j → j < M 28 4 → T (M 29 j) (M 30 j) (M 31 j)) → T px py pw → ∀ j, 0 ≤ j → j < M' 28 4 → T (M' 29 j) (M' 30 j) (M' 31 j)) := by
  refine ax_aloadn rfl rfl ?_
  refine ax_getI (g := 4) rfl fX4_22 rfl rfl rfl rfl ?_
  refine ax_istore (ls' := [(0, _), (1, _), (2, _), (3, _), (4, _), (5, _), (6, _)]) rfl rfl rfl ?_
  refine l_O_shift E d M px py pw s (M 28 4) hs hn v _ (fun M1 h1 h2 h3 => ?_) (M 28 4 - s).toNat M _ (by omega) (by omega) (fun j _ => ⟨rfl, rfl, rfl⟩) (fun j hj hj2 => by omega) (fun k _ _ _ => rfl)
  refine ax_aloadn rfl rfl ?_
  refine ax_getR rfl fX4_7 rfl rfl ?_
  refine ax_iload rfl rfl ?_
  refine ax_iloadn rfl rfl ?_
  refine ax_iast' rfl rfl (by omega) (fun M149 a149 b149 c149 => ?_)
  refine ax_aloadn rfl rfl ?_
  refine ax_getR rfl fX4_13 rfl rfl ?_
  refine ax_iload rfl rfl ?_
  refine ax_iloadn rfl rfl ?_
  refine ax_iast' rfl rfl (by omega) (fun M157 a157 b157 c157 => ?_)
  refine ax_aloadn rfl rfl ?_
  refine ax_getR rfl fX4_16 rfl rfl ?_
  refine ax_iload rfl rfl ?_
  refine ax_iloadn rfl rfl ?_
  refine ax_iast' rfl rfl (by omega) (fun M165 a165 b165 c165 => ?_)
  refine ax_aloadn rfl rfl ?_
  refine ax_dup rfl rfl ?_
  refine ax_getI (g := 4) rfl fX4_22 rfl rfl rfl rfl ?_
  refine ax_iconst rfl ?_
  refine ax_iadd rfl ?_
  refine ax_putI' (g := 4) rfl gX4_22 rfl rfl rfl rfl (fun M173 a173 b173 c173 => ?_)
  refine ax_vret rfl rfl ?_
  have eX : ∀ j, M173 29 j = if j = s then px else M1 29 j := fun j => by
    rw [c173 29 (by decide), c165 29 (by decide), c157 29 (by decide)]
    split
    · rename_i e; rw [e]; exact a149
    · rename_i e; exact b149 j e
  have eY : ∀ j, M173 30 j = if j = s then py else M1 30 j := fun j => by
    rw [c173 30 (by decide), c165 30 (by decide)]
    split
    · rename_i e; rw [e]; exact a157
    · rename_i e; rw [b157 j e, c149 30 (by decide)]
  have eW : ∀ j, M173 31 j = if j = s then pw else M1 31 j := fun j => by
    rw [c173 31 (by decide)]
    split
    · rename_i e; rw [e]; exact a165
    · rename_i e; rw [b165 j e, c157 31 (by decide), c149 31 (by decide)]
  have e4 : M173 28 4 = M 28 4 + 1 := by
    rw [a173, c165 28 (by decide), c157 28 (by decide), c149 28 (by decide), h3 28 (by decide) (by decide) (by decide)]
  refine ⟨rfl, by omega, by omega, ?_, fun j hj => ?_, fun k k0 k1 k2 k3 => ?_, fun T hT hTp j j0 j1 => ?_⟩
  · rw [e4]
    refine OE_ins hE hp hs.1 hs.2 a1 a2 (fun j j0 j1 => ?_) ?_ (fun j j0 j1 => ?_)
    · rw [eX, eY, eW, if_neg (by omega), if_neg (by omega), if_neg (by omega)]; exact h1 j (by omega)
    · rw [eX, eY, eW, if_pos rfl, if_pos rfl, if_pos rfl]; exact ⟨rfl, rfl, rfl⟩
    · rw [eX, eY, eW, if_neg (by omega), if_neg (by omega), if_neg (by omega)]
      have := h2 (j + 1) (by omega) (by omega)
      rwa [show j + 1 - 1 = j by omega] at this
  · rw [b173 j hj, c165 28 (by decide), c157 28 (by decide), c149 28 (by decide), h3 28 (by decide) (by decide) (by decide)]
  · rw [c173 k k0, c165 k k3, c157 k k2, c149 k k1]; exact h3 k k1 k2 k3
  · rw [eX, eY, eW]
    rcases Int.lt_trichotomy j s with q | q | q
    · rw [if_neg (by omega), if_neg (by omega), if_neg (by omega)]
      have := h1 j (by omega)
      rw [this.1, this.2.1, this.2.2]; exact hT j j0 (by omega)
    · rw [if_pos q, if_pos q, if_pos q]; exact hTp
    · rw [if_neg (by omega), if_neg (by omega), if_neg (by omega)]
      have := h2 j (by omega) (by omega)
      rw [this.1, this.2.1, this.2.2]; exact hT (j - 1) (by omega) (by omega)
set_option maxRecDepth 100000 in
set_option maxHeartbeats 800000 in
theorem l_O_add6 (E : av_E) (d : Nat) (M : av_M) (S : pt → Prop) (px py pw : Int) (hp : BP px py pw) (hE : OE (M 29) (M 30) (M 31) (M 28 4) S) (hn : M 28 4 < 120) :
    ∀ (t : Nat) (s : Int), s = t → s ≤ M 28 4 → (∀ j, s ≤ j → j < M 28 4 → lx (P2 px py pw) (P2 (M 29 j) (M 30 j) (M 31 j))) →
    av_S E (d + 2) mX4_add 6 [(0, vR 28), (1, vI px), (2, vI py), (3, vI pw), (4, vI s)] [] M (fun r M' => r = none ∧ M 28 4 ≤ M' 28 4 ∧ M' 28 4 ≤ M 28 4 + 1 ∧ OE (M' 29) (M' 30) (M' 31) (M' 28 4) (fun q => S q ∨ q = P2 px py pw) ∧ (∀ j, j ≠ 4 → M' 28 j = M 28 j) ∧ (∀ k, k ≠ 28 → k ≠ 29 → k ≠ 30 → k ≠ 31 → M' k = M k) ∧ ∀ T : Int → Int → Int → Prop, (∀ j, 0 ≤ j → j < M 28 4 → T (M 29 j) (M 30 j) (M 31 j)) → T px py pw → ∀ j, 0 ≤ j → j < M' 28 4 → T (M' 29 j) (M' 30 j) (M' 31 j)) := by
  have hBD := hE.2.1
  have hp0 : 0 < pw := hp.2.2.1
  have hw : ∀ j, 0 ≤ j → j < M 28 4 → 0 < M 31 j := fun j h0 h1 => (hBD j h0 h1).2.2.1
  -- behind the search
  have h31 : ∀ s : Int, 0 ≤ s → s ≤ M 28 4 → (∀ j, s ≤ j → j < M 28 4 → lx (P2 px py pw) (P2 (M 29 j) (M 30 j) (M 31 j))) → (0 < s → ¬ lx (P2 px py pw) (P2 (M 29 (s - 1)) (M 30 (s - 1)) (M 31 (s - 1)))) →
      av_S E (d + 2) mX4_add 31 [(0, vR 28), (1, vI px), (2, vI py), (3, vI pw), (4, vI s)] [] M (fun r M' => r = none ∧ M 28 4 ≤ M' 28 4 ∧ M' 28 4 ≤ M 28 4 + 1 ∧ OE (M' 29) (M' 30) (M' 31) (M' 28 4) (fun q => S q ∨ q = P2 px py pw) ∧ (∀ j, j ≠ 4 → M' 28 j = M 28 j) ∧ (∀ k, k ≠ 28 → k ≠ 29 → k ≠ 30 → k ≠ 31 → M' k = M k) ∧ ∀ T : Int → Int → Int → Prop, (∀ j, 0 ≤ j → j < M 28 4 → T (M 29 j) (M 30 j) (M 31 j)) → T px py pw → ∀ j, 0 ≤ j → j < M' 28 4 → T (M' 29 j) (M' 30 j) (M' 31 j)) := by
    intro s s0 s1 a2 hno
    have low : (0 < s → lx (P2 (M 29 (s - 1)) (M 30 (s - 1)) (M 31 (s - 1))) (P2 px py pw)) → ∀ j, 0 ≤ j → j < s → lx (P2 (M 29 j) (M 30 j) (M 31 j)) (P2 px py pw) := by
      intro hl j j0 j1
      by_cases hj : j = s - 1
      · rw [hj]; exact hl (by omega)
      · exact lx_tr (OE_lt hE j0 (show j < s - 1 by omega) (by omega)) (hl (by omega))
    refine ax_iload rfl rfl ?_
    refine ax_if_le rfl (by omega) (fun h33 => ?_) (fun h33 => ?_)
    · refine ax_iconst rfl ?_
      refine ax_istore (ls' := [(0, _), (1, _), (2, _), (3, _), (4, _), (5, _)]) rfl rfl rfl ?_
      refine ax_iload rfl rfl ?_
      refine ax_if_ne rfl (by omega) (fun h59 => ?_) (fun h59 => ?_)
      · refine ax_vret rfl rfl ?_
        first
          | omega
          | exact ⟨rfl, by omega, by omega, OE_had hE (by
              have hz : sd (M 29 (s - 1)) (M 30 (s - 1)) (M 31 (s - 1)) px py pw = 0 := by omega
              rw [← (sd_zero (hw _ (by omega) (by omega)) hp0).mp hz]
              exact OE_in hE (by omega) (by omega)), fun j _ => rfl, fun k _ _ _ _ => rfl, fun T hT _ => hT⟩
      · refine ax_aloadn rfl rfl ?_
        refine ax_getI (g := 4) rfl fX4_22 rfl rfl rfl rfl ?_
        refine ax_aloadn rfl rfl ?_
        refine ax_getR rfl fX4_7 rfl rfl ?_
        refine ax_alen rfl rfl (by decide) ?_
        refine ax_icmp_lt rfl (by omega) (by omega) (fun h71 => ?_) (fun h71 => ?_)
        · exact l_O_add75 E _ M S px py pw s _ hp hE hn ⟨s0, s1⟩ (low (fun h0 => by
            have hz : ¬ sd (M 29 (s - 1)) (M 30 (s - 1)) (M 31 (s - 1)) px py pw = 0 := by first | assumption | omega
            have hq := hno h0
            rw [← sd_pos (hw _ (by omega) (by omega)) hp0] at hq
            rw [← sd_neg (hw _ (by omega) (by omega)) hp0]
            omega)) a2
        · refine ax_vret rfl rfl ?_
          first
            | omega
            | exact ⟨rfl, by omega, by omega, OE_had hE (by
                have hz : sd (M 29 (s - 1)) (M 30 (s - 1)) (M 31 (s - 1)) px py pw = 0 := by omega
                rw [← (sd_zero (hw _ (by omega) (by omega)) hp0).mp hz]
                exact OE_in hE (by omega) (by omega)), fun j _ => rfl, fun k _ _ _ _ => rfl, fun T hT _ => hT⟩
    · refine ax_aloadn rfl rfl ?_
      refine ax_iload rfl rfl ?_
      refine ax_iconst rfl ?_
      refine ax_isub rfl ?_
      refine ax_iloadn rfl rfl ?_
      refine ax_iloadn rfl rfl ?_
      refine ax_iloadn rfl rfl ?_
      refine ax_callV (as := [_, _, _, _]) rfl vX4_26 hX4_side rfl rfl rfl rfl rfl (c_O_side E d M _ px py pw (by omega) (hBD _ (by omega) (by omega)) hp) (av_Xk ?_)
      refine ax_if_ne rfl (by have := sd_rng (M 29 (s - 1)) (M 30 (s - 1)) (M 31 (s - 1)) px py pw; omega) (fun h47 => ?_) (fun h47 => ?_)
      · refine ax_iconst rfl ?_
        refine ax_istore (ls' := [(0, _), (1, _), (2, _), (3, _), (4, _), (5, _)]) rfl rfl rfl ?_
        refine ax_iload rfl rfl ?_
        refine ax_if_ne rfl (by omega) (fun h59 => ?_) (fun h59 => ?_)
        · refine ax_vret rfl rfl ?_
          first
            | omega
            | exact ⟨rfl, by omega, by omega, OE_had hE (by
                have hz : sd (M 29 (s - 1)) (M 30 (s - 1)) (M 31 (s - 1)) px py pw = 0 := by omega
                rw [← (sd_zero (hw _ (by omega) (by omega)) hp0).mp hz]
                exact OE_in hE (by omega) (by omega)), fun j _ => rfl, fun k _ _ _ _ => rfl, fun T hT _ => hT⟩
        · refine ax_aloadn rfl rfl ?_
          refine ax_getI (g := 4) rfl fX4_22 rfl rfl rfl rfl ?_
          refine ax_aloadn rfl rfl ?_
          refine ax_getR rfl fX4_7 rfl rfl ?_
          refine ax_alen rfl rfl (by decide) ?_
          refine ax_icmp_lt rfl (by omega) (by omega) (fun h71 => ?_) (fun h71 => ?_)
          · exact l_O_add75 E _ M S px py pw s _ hp hE hn ⟨s0, s1⟩ (low (fun h0 => by
              have hz : ¬ sd (M 29 (s - 1)) (M 30 (s - 1)) (M 31 (s - 1)) px py pw = 0 := by first | assumption | omega
              have hq := hno h0
              rw [← sd_pos (hw _ (by omega) (by omega)) hp0] at hq
              rw [← sd_neg (hw _ (by omega) (by omega)) hp0]
              omega)) a2
          · refine ax_vret rfl rfl ?_
            first
              | omega
              | exact ⟨rfl, by omega, by omega, OE_had hE (by
                  have hz : sd (M 29 (s - 1)) (M 30 (s - 1)) (M 31 (s - 1)) px py pw = 0 := by omega
                  rw [← (sd_zero (hw _ (by omega) (by omega)) hp0).mp hz]
                  exact OE_in hE (by omega) (by omega)), fun j _ => rfl, fun k _ _ _ _ => rfl, fun T hT _ => hT⟩
      · refine ax_iconst rfl ?_
        refine ax_goto rfl ?_
        refine ax_istore (ls' := [(0, _), (1, _), (2, _), (3, _), (4, _), (5, _)]) rfl rfl rfl ?_
        refine ax_iload rfl rfl ?_
        refine ax_if_ne rfl (by omega) (fun h59 => ?_) (fun h59 => ?_)
        · refine ax_vret rfl rfl ?_
          first
            | omega
            | exact ⟨rfl, by omega, by omega, OE_had hE (by
                have hz : sd (M 29 (s - 1)) (M 30 (s - 1)) (M 31 (s - 1)) px py pw = 0 := by omega
                rw [← (sd_zero (hw _ (by omega) (by omega)) hp0).mp hz]
                exact OE_in hE (by omega) (by omega)), fun j _ => rfl, fun k _ _ _ _ => rfl, fun T hT _ => hT⟩
        · refine ax_aloadn rfl rfl ?_
          refine ax_getI (g := 4) rfl fX4_22 rfl rfl rfl rfl ?_
          refine ax_aloadn rfl rfl ?_
          refine ax_getR rfl fX4_7 rfl rfl ?_
          refine ax_alen rfl rfl (by decide) ?_
          refine ax_icmp_lt rfl (by omega) (by omega) (fun h71 => ?_) (fun h71 => ?_)
          · exact l_O_add75 E _ M S px py pw s _ hp hE hn ⟨s0, s1⟩ (low (fun h0 => by
              have hz : ¬ sd (M 29 (s - 1)) (M 30 (s - 1)) (M 31 (s - 1)) px py pw = 0 := by first | assumption | omega
              have hq := hno h0
              rw [← sd_pos (hw _ (by omega) (by omega)) hp0] at hq
              rw [← sd_neg (hw _ (by omega) (by omega)) hp0]
              omega)) a2
          · refine ax_vret rfl rfl ?_
            first
              | omega
              | exact ⟨rfl, by omega, by omega, OE_had hE (by
                  have hz : sd (M 29 (s - 1)) (M 30 (s - 1)) (M 31 (s - 1)) px py pw = 0 := by omega
                  rw [← (sd_zero (hw _ (by omega) (by omega)) hp0).mp hz]
                  exact OE_in hE (by omega) (by omega)), fun j _ => rfl, fun k _ _ _ _ => rfl, fun T hT _ => hT⟩
  intro t
  induction t with
  | zero =>
    intro s hs hsn a2
    subst hs
    refine ax_iload rfl rfl ?_
    refine ax_if_le rfl (by omega) (fun h8 => ?_) (fun h8 => ?_)
    · exact h31 _ (by omega) (by omega) a2 (fun h => by omega)
    · omega
  | succ t ih =>
    intro s hs hsn a2
    refine ax_iload rfl rfl ?_
    refine ax_if_le rfl (by omega) (fun h8 => ?_) (fun h8 => ?_)
    · exact h31 _ (by omega) (by omega) a2 (fun h => by first | omega | (rw [← sd_pos (hw _ (by omega) (by omega)) hp0]; omega))
    · refine ax_aloadn rfl rfl ?_
      refine ax_iload rfl rfl ?_
      refine ax_iconst rfl ?_
      refine ax_isub rfl ?_
      refine ax_iloadn rfl rfl ?_
      refine ax_iloadn rfl rfl ?_
      refine ax_iloadn rfl rfl ?_
      refine ax_callV (as := [_, _, _, _]) rfl vX4_26 hX4_side rfl rfl rfl rfl rfl (c_O_side E d M _ px py pw (by omega) (hBD _ (by omega) (by omega)) hp) (av_Xk ?_)
      refine ax_if_le rfl (by have := sd_rng (M 29 (s - 1)) (M 30 (s - 1)) (M 31 (s - 1)) px py pw; omega) (fun h22 => ?_) (fun h22 => ?_)
      · exact h31 _ (by omega) (by omega) a2 (fun h => by first | omega | (rw [← sd_pos (hw _ (by omega) (by omega)) hp0]; omega))
      · refine ax_iinc (ls' := [(0, _), (1, _), (2, _), (3, _), (4, _)]) rfl rfl rfl rfl ?_
        refine ax_goto rfl ?_
        refine ih _ (by omega) (by omega) (fun j j0 j1 => ?_)
        by_cases hj : j = s - 1
        · rw [hj, ← sd_pos (hw _ (by omega) (by omega)) hp0]; omega
        · exact a2 j (by omega) j1
set_option maxRecDepth 100000 in
set_option maxHeartbeats 800000 in
theorem c_O_add (E : av_E) (d : Nat) (M : av_M) (S : pt → Prop) (px py pw : Int) (hp : BP px py pw) (hE : OE (M 29) (M 30) (M 31) (M 28 4) S) (hn : M 28 4 < 120) : av_Mt E (d + 2) mX4_add [vR 28, vI px, vI py, vI pw] M (fun r M' => r = none ∧ M 28 4 ≤ M' 28 4 ∧ M' 28 4 ≤ M 28 4 + 1 ∧ OE (M' 29) (M' 30) (M' 31) (M' 28 4) (fun q => S q ∨ q = P2 px py pw) ∧ (∀ j, j ≠ 4 → M' 28 j = M 28 j) ∧ (∀ k, k ≠ 28 → k ≠ 29 → k ≠ 30 → k ≠ 31 → M' k = M k) ∧ ∀ T : Int → Int → Int → Prop, (∀ j, 0 ≤ j → j < M 28 4 → T (M 29 j) (M 30 j) (M 31 j)) → T px py pw → ∀ j, 0 ≤ j → j < M' 28 4 → T (M' 29 j) (M' 30 j) (M' 31 j)) := by
  have h0 := hE.1
  refine av_enter hX4_add oX4_add rfl rfl ?_
  refine ax_aloadn rfl rfl ?_
  refine ax_getI (g := 4) rfl fX4_22 rfl rfl rfl rfl ?_
  refine ax_istore (ls' := [(0, _), (1, _), (2, _), (3, _), (4, _)]) rfl rfl rfl ?_
  exact l_O_add6 E d M S px py pw hp hE hn (M 28 4).toNat _ (by omega) (by omega) (fun j j0 j1 => by omega)
