/-! ===== the reference: its leaves ===== -/
theorem mb {x y A B : Int} (hx : -A ≤ x ∧ x ≤ A) (hy : -B ≤ y ∧ y ≤ B) : -(A * B) ≤ x * y ∧ x * y ≤ A * B := by
  have h1 : (x * y).natAbs ≤ A.natAbs * B.natAbs := by
    rw [Int.natAbs_mul]; exact Nat.mul_le_mul (by omega) (by omega)
  have h2 : (A * B).natAbs = A.natAbs * B.natAbs := Int.natAbs_mul A B
  have h3 : 0 ≤ A * B := Int.mul_nonneg (by omega) (by omega)
  omega
theorem av_rI {M : av_M} {z z' : Int} (h : z = z') : av_X (some (vI z')) M (some (vI z)) M := ⟨by rw [h], rfl⟩
theorem av_rL {M : av_M} {z z' : Int} (h : z = z') : av_X (some (vL z')) M (some (vL z)) M := ⟨by rw [h], rfl⟩
set_option maxRecDepth 100000 in
set_option maxHeartbeats 4000000 in
theorem c_R_in (E : av_E) (d : Nat) (M : av_M) (v l u : Int) (hv : -9223372036854775808 ≤ v ∧ v < 9223372036854775808) (hl : -9223372036854775808 ≤ l ∧ l < 9223372036854775808) (hu : -9223372036854775808 ≤ u ∧ u < 9223372036854775808) : av_Mt E d mX8_in [vL v, vL l, vL u] M (av_X (some (vI (if l ≤ v ∧ v ≤ u then 1 else 0))) M) := by
  refine av_enter hX8_in oX8_in rfl rfl ?_
  refine ax_lloadn rfl rfl ?_
  refine ax_lloadn rfl rfl ?_
  refine ax_lif_lt rfl rfl (by omega) (by omega) (fun h2 => ?_) (fun h2 => ?_)
  · refine ax_iconst rfl ?_
    refine ax_zret rfl rfl (by omega) ?_
    exact av_rI (by split <;> omega)
  · refine ax_lloadn rfl rfl ?_
    refine ax_lload rfl rfl ?_
    refine ax_lif_gt rfl rfl (by omega) (by omega) (fun h9 => ?_) (fun h9 => ?_)
    · refine ax_iconst rfl ?_
      refine ax_zret rfl rfl (by omega) ?_
      exact av_rI (by split <;> omega)
    · refine ax_iconst rfl ?_
      refine ax_goto rfl ?_
      refine ax_zret rfl rfl (by omega) ?_
      exact av_rI (by split <;> omega)
set_option maxRecDepth 100000 in
set_option maxHeartbeats 4000000 in
theorem c_R_compare (E : av_E) (d : Nat) (M : av_M) (a b c e : Int) : av_Mt E d mX8_compare [vR 35, vL a, vL b, vL c, vL e] M (av_X (some (vL (a * e - c * b))) M) := by
  refine av_enter hX8_compare oX8_compare rfl rfl ?_
  refine ax_lloadn rfl rfl ?_
  refine ax_lload rfl rfl ?_
  refine ax_lmul rfl ?_
  refine ax_lload rfl rfl ?_
  refine ax_lloadn rfl rfl ?_
  refine ax_lmul rfl ?_
  refine ax_lsub rfl ?_
  refine ax_lret rfl rfl ?_
  exact ⟨rfl, rfl⟩
set_option maxRecDepth 100000 in
set_option maxHeartbeats 4000000 in
theorem c_R_side (E : av_E) (d : Nat) (M : av_M) (a b c : Int) (ha : 0 ≤ a ∧ a < 140) (hb : 0 ≤ b ∧ b < 140) (hc : 0 ≤ c ∧ c < 140) : av_Mt E d mX8_side [vR 35, vI a, vI b, vI c] M (av_X (some (vL (M 38 a * (M 39 b * M 40 c - M 39 c * M 40 b) - M 39 a * (M 38 b * M 40 c - M 38 c * M 40 b) + M 40 a * (M 38 b * M 39 c - M 38 c * M 39 b)))) M) := by
  refine av_enter hX8_side oX8_side rfl rfl ?_
  refine ax_aloadn rfl rfl ?_
  refine ax_getR rfl fX8_16 rfl rfl ?_
  refine ax_iloadn rfl rfl ?_
  refine ax_lald rfl rfl (by omega) ?_
  refine ax_aloadn rfl rfl ?_
  refine ax_getR rfl fX8_20 rfl rfl ?_
  refine ax_iloadn rfl rfl ?_
  refine ax_lald rfl rfl (by omega) ?_
  refine ax_aloadn rfl rfl ?_
  refine ax_getR rfl fX8_23 rfl rfl ?_
  refine ax_iloadn rfl rfl ?_
  refine ax_lald rfl rfl (by omega) ?_
  refine ax_lmul rfl ?_
  refine ax_aloadn rfl rfl ?_
  refine ax_getR rfl fX8_20 rfl rfl ?_
  refine ax_iloadn rfl rfl ?_
  refine ax_lald rfl rfl (by omega) ?_
  refine ax_aloadn rfl rfl ?_
  refine ax_getR rfl fX8_23 rfl rfl ?_
  refine ax_iloadn rfl rfl ?_
  refine ax_lald rfl rfl (by omega) ?_
  refine ax_lmul rfl ?_
  refine ax_lsub rfl ?_
  refine ax_lmul rfl ?_
  refine ax_aloadn rfl rfl ?_
  refine ax_getR rfl fX8_20 rfl rfl ?_
  refine ax_iloadn rfl rfl ?_
  refine ax_lald rfl rfl (by omega) ?_
  refine ax_aloadn rfl rfl ?_
  refine ax_getR rfl fX8_16 rfl rfl ?_
  refine ax_iloadn rfl rfl ?_
  refine ax_lald rfl rfl (by omega) ?_
  refine ax_aloadn rfl rfl ?_
  refine ax_getR rfl fX8_23 rfl rfl ?_
  refine ax_iloadn rfl rfl ?_
  refine ax_lald rfl rfl (by omega) ?_
  refine ax_lmul rfl ?_
  refine ax_aloadn rfl rfl ?_
  refine ax_getR rfl fX8_16 rfl rfl ?_
  refine ax_iloadn rfl rfl ?_
  refine ax_lald rfl rfl (by omega) ?_
  refine ax_aloadn rfl rfl ?_
  refine ax_getR rfl fX8_23 rfl rfl ?_
  refine ax_iloadn rfl rfl ?_
  refine ax_lald rfl rfl (by omega) ?_
  refine ax_lmul rfl ?_
  refine ax_lsub rfl ?_
  refine ax_lmul rfl ?_
  refine ax_lsub rfl ?_
  refine ax_aloadn rfl rfl ?_
  refine ax_getR rfl fX8_23 rfl rfl ?_
  refine ax_iloadn rfl rfl ?_
  refine ax_lald rfl rfl (by omega) ?_
  refine ax_aloadn rfl rfl ?_
  refine ax_getR rfl fX8_16 rfl rfl ?_
  refine ax_iloadn rfl rfl ?_
  refine ax_lald rfl rfl (by omega) ?_
  refine ax_aloadn rfl rfl ?_
  refine ax_getR rfl fX8_20 rfl rfl ?_
  refine ax_iloadn rfl rfl ?_
  refine ax_lald rfl rfl (by omega) ?_
  refine ax_lmul rfl ?_
  refine ax_aloadn rfl rfl ?_
  refine ax_getR rfl fX8_16 rfl rfl ?_
  refine ax_iloadn rfl rfl ?_
  refine ax_lald rfl rfl (by omega) ?_
  refine ax_aloadn rfl rfl ?_
  refine ax_getR rfl fX8_20 rfl rfl ?_
  refine ax_iloadn rfl rfl ?_
  refine ax_lald rfl rfl (by omega) ?_
  refine ax_lmul rfl ?_
  refine ax_lsub rfl ?_
  refine ax_lmul rfl ?_
  refine ax_ladd rfl ?_
  refine ax_lret rfl rfl ?_
  exact ⟨rfl, rfl⟩
theorem gcd_step {x y : Int} (hx : 0 ≤ x) (hy : 0 < y) : (Int.gcd y (x.tmod y) : Int) = Int.gcd x y := by
  rw [av_trem, Int.gcd_sub_mul_right_right, Int.gcd_comm]
set_option maxRecDepth 100000 in
set_option maxHeartbeats 4000000 in
theorem l_R_common (E : av_E) (d : Nat) (M : av_M) (a b g : Int) : ∀ (n : Nat) (x y : Int), (0 ≤ x ∧ x < 9223372036854775808) → (0 ≤ y ∧ y < 9223372036854775808) → y < n → (Int.gcd x y : Int) = g → av_S E d mX8_common 28 [(0, vL a), (2, vL b), (4, vL x), (6, vL y)] [] M (av_X (some (vL g)) M) := by
  intro n
  induction n with
  | zero => intro x y hx hy hn; omega
  | succ n ih =>
    intro x y hx hy hn hg
    refine ax_lload rfl rfl ?_
    refine ax_lconst (w := 0) rfl rfl ?_
    refine ax_lif_eq rfl rfl (by omega) (by omega) (fun h31 => ?_) (fun h31 => ?_)
    · refine ax_lload rfl rfl ?_
      refine ax_lret rfl rfl ?_
      refine av_rL ?_
      subst h31
      rw [Int.gcd_zero_right] at hg
      omega
    · have hm1 := Int.tmod_lt_of_pos x (show 0 < y by omega)
      have hm2 := Int.tmod_nonneg y hx.1
      refine ax_lload rfl rfl ?_
      refine ax_lload rfl rfl ?_
      refine ax_lrem rfl (by omega) (by omega) (by omega) ?_
      refine ax_lstore (ls' := [(0, _), (2, _), (4, _), (6, _), (8, _)]) rfl rfl rfl ?_
      refine ax_lload rfl rfl ?_
      refine ax_lstore (ls' := [(0, _), (2, _), (4, _), (6, _), (8, _)]) rfl rfl rfl ?_
      refine ax_lload rfl rfl ?_
      refine ax_lstore (ls' := [(0, _), (2, _), (4, _), (6, _), (8, _)]) rfl rfl rfl ?_
      refine ax_goto rfl ?_
      refine ax_pick [0, 1, 2, 3] rfl ?_
      exact ih _ _ (by omega) (by omega) (by omega) (by rw [← hg]; exact gcd_step hx.1 (by omega))
set_option maxRecDepth 100000 in
set_option maxHeartbeats 4000000 in
theorem c_R_common (E : av_E) (d : Nat) (M : av_M) (a b : Int) (ha : -9223372036854775808 < a ∧ a < 9223372036854775808) (hb : -9223372036854775808 < b ∧ b < 9223372036854775808) : av_Mt E d mX8_common [vL a, vL b] M (av_X (some (vL (Int.gcd a b))) M) := by
  refine av_enter hX8_common oX8_common rfl rfl ?_
  refine ax_lloadn rfl rfl ?_
  refine ax_lconst (w := 0) rfl rfl ?_
  refine ax_lif_ge rfl rfl (by omega) (by omega) (fun h2 => ?_) (fun h2 => ?_)
  · refine ax_lloadn rfl rfl ?_
    refine ax_lstore (ls' := [(0, _), (2, _), (4, _)]) rfl rfl rfl ?_
    refine ax_lloadn rfl rfl ?_
    refine ax_lconst (w := 0) rfl rfl ?_
    refine ax_lif_ge rfl rfl (by omega) (by omega) (fun h16 => ?_) (fun h16 => ?_)
    · refine ax_lloadn rfl rfl ?_
      refine ax_lstore (ls' := [(0, _), (2, _), (4, _), (6, _)]) rfl rfl rfl ?_
      exact l_R_common E d M a b _ (Int.natAbs b + 1) _ _ (by omega) (by omega) (by omega) (by simp [Int.gcd_neg, Int.neg_gcd])
    · refine ax_lloadn rfl rfl ?_
      refine ax_lneg rfl ?_
      refine ax_goto rfl ?_
      refine ax_lstore (ls' := [(0, _), (2, _), (4, _), (6, _)]) rfl rfl rfl ?_
      exact l_R_common E d M a b _ (Int.natAbs b + 1) _ _ (by omega) (by omega) (by omega) (by simp [Int.gcd_neg, Int.neg_gcd])
  · refine ax_lloadn rfl rfl ?_
    refine ax_lneg rfl ?_
    refine ax_goto rfl ?_
    refine ax_lstore (ls' := [(0, _), (2, _), (4, _)]) rfl rfl rfl ?_
    refine ax_lloadn rfl rfl ?_
    refine ax_lconst (w := 0) rfl rfl ?_
    refine ax_lif_ge rfl rfl (by omega) (by omega) (fun h16 => ?_) (fun h16 => ?_)
    · refine ax_lloadn rfl rfl ?_
      refine ax_lstore (ls' := [(0, _), (2, _), (4, _), (6, _)]) rfl rfl rfl ?_
      exact l_R_common E d M a b _ (Int.natAbs b + 1) _ _ (by omega) (by omega) (by omega) (by simp [Int.gcd_neg, Int.neg_gcd])
    · refine ax_lloadn rfl rfl ?_
      refine ax_lneg rfl ?_
      refine ax_goto rfl ?_
      refine ax_lstore (ls' := [(0, _), (2, _), (4, _), (6, _)]) rfl rfl rfl ?_
      exact l_R_common E d M a b _ (Int.natAbs b + 1) _ _ (by omega) (by omega) (by omega) (by simp [Int.gcd_neg, Int.neg_gcd])
