/-! ===== the reference: its leaves ===== -/
theorem gcd_step' {x y : Int} (hx : 0 ≤ x) (hy : 0 < y) : (Int.gcd y (x.tmod y) : Int) = Int.gcd x y := by
  rw [av_trem, Int.gcd_sub_mul_right_right, Int.gcd_comm]
theorem b01_bet (A B C D : Prop) : (b01 ((A ∧ B) ∨ (C ∧ D)) = 1 ∧ ((b01 A = 1 ∧ b01 B = 1) ∨ (b01 C = 1 ∧ b01 D = 1))) ∨ (b01 ((A ∧ B) ∨ (C ∧ D)) = 0 ∧ ¬ ((b01 A = 1 ∧ b01 B = 1) ∨ (b01 C = 1 ∧ b01 D = 1))) := by
  have e : ∀ P : Prop, b01 P = 1 ↔ P := fun P => ⟨fun h => b01_ne (by omega), b01_t⟩
  rw [e A, e B, e C, e D]
  rcases b01_c ((A ∧ B) ∨ (C ∧ D)) with ⟨p, q⟩ | ⟨p, q⟩
  · exact Or.inl ⟨q, p⟩
  · exact Or.inr ⟨q, p⟩
def rp (M : av_M) (i : Int) : pt := P2 (M 38 i) (M 39 i) (M 40 i)
def RB (M : av_M) (i : Int) : Prop := BP (M 38 i) (M 39 i) (M 40 i)
set_option maxRecDepth 100000 in
set_option maxHeartbeats 800000 in
theorem c_X8_in (E : av_E) (d : Nat) (M : av_M) (v a b : Int) (hlv : -9223372036854775808 ≤ v ∧ v < 9223372036854775808) (hla : -9223372036854775808 ≤ a ∧ a < 9223372036854775808) (hlb : -9223372036854775808 ≤ b ∧ b < 9223372036854775808) : av_Mt E (d) mX8_in [vL v, vL a, vL b] M (av_X (some (vI (b01 (a ≤ v ∧ v ≤ b)))) M) := by
  refine av_enter hX8_in oX8_in rfl rfl ?_
  refine ax_lloadn rfl rfl ?_
  refine ax_lloadn rfl rfl ?_
  refine ax_lif_lt rfl rfl (by omega) (by omega) (fun h2 => ?_) (fun h2 => ?_)
  · refine ax_iconst rfl ?_
    refine ax_zret rfl rfl (by omega) ?_
    first | exact av_rI (b01_t (by omega)).symm | exact av_rI (b01_f (by omega)).symm
  · refine ax_lloadn rfl rfl ?_
    refine ax_lload rfl rfl ?_
    refine ax_lif_gt rfl rfl (by omega) (by omega) (fun h9 => ?_) (fun h9 => ?_)
    · refine ax_iconst rfl ?_
      refine ax_zret rfl rfl (by omega) ?_
      first | exact av_rI (b01_t (by omega)).symm | exact av_rI (b01_f (by omega)).symm
    · refine ax_iconst rfl ?_
      refine ax_goto rfl ?_
      refine ax_zret rfl rfl (by omega) ?_
      first | exact av_rI (b01_t (by omega)).symm | exact av_rI (b01_f (by omega)).symm
set_option maxRecDepth 100000 in
set_option maxHeartbeats 800000 in
theorem c_X8_compare (E : av_E) (d : Nat) (M : av_M) (a b c e : Int) : av_Mt E (d) mX8_compare [vR 35, vL a, vL b, vL c, vL e] M (av_X (some (vL (a * e - c * b))) M) := by
  refine av_enter hX8_compare oX8_compare rfl rfl ?_
  refine ax_lloadn rfl rfl ?_
  refine ax_lload rfl rfl ?_
  refine ax_lmul rfl ?_
  refine ax_lload rfl rfl ?_
  refine ax_lloadn rfl rfl ?_
  refine ax_lmul rfl ?_
  refine ax_lsub rfl ?_
  refine ax_lret rfl rfl ?_
  exact av_rL rfl
set_option maxRecDepth 100000 in
set_option maxHeartbeats 800000 in
theorem c_X8_side (E : av_E) (d : Nat) (M : av_M) (a b c : Int) (ha : 0 ≤ a ∧ a < 140) (hb : 0 ≤ b ∧ b < 140) (hc : 0 ≤ c ∧ c < 140) : av_Mt E (d) mX8_side [vR 35, vI a, vI b, vI c] M (av_X (some (vL (D3 (M 38 a) (M 39 a) (M 40 a) (M 38 b) (M 39 b) (M 40 b) (M 38 c) (M 39 c) (M 40 c)))) M) := by
  refine av_enter hX8_side oX8_side rfl rfl ?_
  refine ax_aloadn rfl rfl ?_
  refine ax_getR rfl fX8_16 rfl rfl ?_
  refine ax_iloadn rfl rfl ?_
  refine ax_lald rfl rfl (by omega) ?_
  refine ax_aloadn rfl rfl ?_
  refine ax_getR rfl fX8_20 rfl rfl ?_
  refine ax_iloadn rfl rfl ?_
  refine ax_lald rfl rfl (by omega) ?_
  refine ax_aloadn rfl rfl ?_
  refine ax_getR rfl fX8_23 rfl rfl ?_
  refine ax_iloadn rfl rfl ?_
  refine ax_lald rfl rfl (by omega) ?_
  refine ax_lmul rfl ?_
  refine ax_aloadn rfl rfl ?_
  refine ax_getR rfl fX8_20 rfl rfl ?_
  refine ax_iloadn rfl rfl ?_
  refine ax_lald rfl rfl (by omega) ?_
  refine ax_aloadn rfl rfl ?_
  refine ax_getR rfl fX8_23 rfl rfl ?_
  refine ax_iloadn rfl rfl ?_
  refine ax_lald rfl rfl (by omega) ?_
  refine ax_lmul rfl ?_
  refine ax_lsub rfl ?_
  refine ax_lmul rfl ?_
  refine ax_aloadn rfl rfl ?_
  refine ax_getR rfl fX8_20 rfl rfl ?_
  refine ax_iloadn rfl rfl ?_
  refine ax_lald rfl rfl (by omega) ?_
  refine ax_aloadn rfl rfl ?_
  refine ax_getR rfl fX8_16 rfl rfl ?_
  refine ax_iloadn rfl rfl ?_
  refine ax_lald rfl rfl (by omega) ?_
  refine ax_aloadn rfl rfl ?_
  refine ax_getR rfl fX8_23 rfl rfl ?_
  refine ax_iloadn rfl rfl ?_
  refine ax_lald rfl rfl (by omega) ?_
  refine ax_lmul rfl ?_
  refine ax_aloadn rfl rfl ?_
  refine ax_getR rfl fX8_16 rfl rfl ?_
  refine ax_iloadn rfl rfl ?_
  refine ax_lald rfl rfl (by omega) ?_
  refine ax_aloadn rfl rfl ?_
  refine ax_getR rfl fX8_23 rfl rfl ?_
  refine ax_iloadn rfl rfl ?_
  refine ax_lald rfl rfl (by omega) ?_
  refine ax_lmul rfl ?_
  refine ax_lsub rfl ?_
  refine ax_lmul rfl ?_
  refine ax_lsub rfl ?_
  refine ax_aloadn rfl rfl ?_
  refine ax_getR rfl fX8_23 rfl rfl ?_
  refine ax_iloadn rfl rfl ?_
  refine ax_lald rfl rfl (by omega) ?_
  refine ax_aloadn rfl rfl ?_
  refine ax_getR rfl fX8_16 rfl rfl ?_
  refine ax_iloadn rfl rfl ?_
  refine ax_lald rfl rfl (by omega) ?_
  refine ax_aloadn rfl rfl ?_
  refine ax_getR rfl fX8_20 rfl rfl ?_
  refine ax_iloadn rfl rfl ?_
  refine ax_lald rfl rfl (by omega) ?_
  refine ax_lmul rfl ?_
  refine ax_aloadn rfl rfl ?_
  refine ax_getR rfl fX8_16 rfl rfl ?_
  refine ax_iloadn rfl rfl ?_
  refine ax_lald rfl rfl (by omega) ?_
  refine ax_aloadn rfl rfl ?_
  refine ax_getR rfl fX8_20 rfl rfl ?_
  refine ax_iloadn rfl rfl ?_
  refine ax_lald rfl rfl (by omega) ?_
  refine ax_lmul rfl ?_
  refine ax_lsub rfl ?_
  refine ax_lmul rfl ?_
  refine ax_ladd rfl ?_
  refine ax_lret rfl rfl ?_
  exact av_rL (by unfold D3; grind)
set_option maxRecDepth 100000 in
set_option maxHeartbeats 800000 in
theorem l_R_common (E : av_E) (d : Nat) (M : av_M) (a b g : Int) : ∀ (n : Nat) (x y : Int), (0 ≤ x ∧ x < 9223372036854775808) → (0 ≤ y ∧ y < 9223372036854775808) → y < n → (Int.gcd x y : Int) = g → av_S E d mX8_common 28 [(0, vL a), (2, vL b), (4, vL x), (6, vL y)] [] M (av_X (some (vL g)) M) := by
  intro n
  induction n with
  | zero => intro x y hx hy hn; omega
  | succ n ih =>
    intro x y hx hy hn hg
    refine ax_lload rfl rfl ?_
    refine ax_lconst (w := 0) rfl rfl ?_
    refine ax_lif_eq rfl rfl (by omega) (by omega) (fun h31 => ?_) (fun h31 => ?_)
    · refine ax_lload rfl rfl ?_
      refine ax_lret rfl rfl ?_
      refine av_rL ?_
      subst h31
      rw [Int.gcd_zero_right] at hg
      omega
    · have hm1 := Int.tmod_lt_of_pos x (show 0 < y by omega)
      have hm2 := Int.tmod_nonneg y hx.1
      refine ax_lload rfl rfl ?_
      refine ax_lload rfl rfl ?_
      refine ax_lrem rfl (by omega) (by omega) (by omega) ?_
      refine ax_lstore (ls' := [(0, _), (2, _), (4, _), (6, _), (8, _)]) rfl rfl rfl ?_
      refine ax_lload rfl rfl ?_
      refine ax_lstore (ls' := [(0, _), (2, _), (4, _), (6, _), (8, _)]) rfl rfl rfl ?_
      refine ax_lload rfl rfl ?_
      refine ax_lstore (ls' := [(0, _), (2, _), (4, _), (6, _), (8, _)]) rfl rfl rfl ?_
      refine ax_goto rfl ?_
      refine ax_pick [0, 1, 2, 3] rfl ?_
      exact ih _ _ (by omega) (by omega) (by omega) (by rw [← hg]; exact gcd_step' hx.1 (by omega))
set_option maxRecDepth 100000 in
set_option maxHeartbeats 800000 in
theorem c_R_common (E : av_E) (d : Nat) (M : av_M) (a b : Int) (ha : -9223372036854775808 < a ∧ a < 9223372036854775808) (hb : -9223372036854775808 < b ∧ b < 9223372036854775808) : av_Mt E d mX8_common [vL a, vL b] M (av_X (some (vL (Int.gcd a b))) M) := by
  refine av_enter hX8_common oX8_common rfl rfl ?_
  refine ax_lloadn rfl rfl ?_
  refine ax_lconst (w := 0) rfl rfl ?_
  refine ax_lif_ge rfl rfl (by omega) (by omega) (fun h2 => ?_) (fun h2 => ?_)
  · refine ax_lloadn rfl rfl ?_
    refine ax_lstore (ls' := [(0, _), (2, _), (4, _)]) rfl rfl rfl ?_
    refine ax_lloadn rfl rfl ?_
    refine ax_lconst (w := 0) rfl rfl ?_
    refine ax_lif_ge rfl rfl (by omega) (by omega) (fun h16 => ?_) (fun h16 => ?_)
    · refine ax_lloadn rfl rfl ?_
      refine ax_lstore (ls' := [(0, _), (2, _), (4, _), (6, _)]) rfl rfl rfl ?_
      exact l_R_common E d M a b _ (Int.natAbs b + 1) _ _ (by omega) (by omega) (by omega) (by simp [Int.gcd_neg, Int.neg_gcd])
    · refine ax_lloadn rfl rfl ?_
      refine ax_lneg rfl ?_
      refine ax_goto rfl ?_
      refine ax_lstore (ls' := [(0, _), (2, _), (4, _), (6, _)]) rfl rfl rfl ?_
      exact l_R_common E d M a b _ (Int.natAbs b + 1) _ _ (by omega) (by omega) (by omega) (by simp [Int.gcd_neg, Int.neg_gcd])
  · refine ax_lloadn rfl rfl ?_
    refine ax_lneg rfl ?_
    refine ax_goto rfl ?_
    refine ax_lstore (ls' := [(0, _), (2, _), (4, _)]) rfl rfl rfl ?_
    refine ax_lloadn rfl rfl ?_
    refine ax_lconst (w := 0) rfl rfl ?_
    refine ax_lif_ge rfl rfl (by omega) (by omega) (fun h16 => ?_) (fun h16 => ?_)
    · refine ax_lloadn rfl rfl ?_
      refine ax_lstore (ls' := [(0, _), (2, _), (4, _), (6, _)]) rfl rfl rfl ?_
      exact l_R_common E d M a b _ (Int.natAbs b + 1) _ _ (by omega) (by omega) (by omega) (by simp [Int.gcd_neg, Int.neg_gcd])
    · refine ax_lloadn rfl rfl ?_
      refine ax_lneg rfl ?_
      refine ax_goto rfl ?_
      refine ax_lstore (ls' := [(0, _), (2, _), (4, _), (6, _)]) rfl rfl rfl ?_
      exact l_R_common E d M a b _ (Int.natAbs b + 1) _ _ (by omega) (by omega) (by omega) (by simp [Int.gcd_neg, Int.neg_gcd])
set_option maxRecDepth 100000 in
set_option maxHeartbeats 800000 in
theorem c_R_told (E : av_E) (d : Nat) (M : av_M) (x w u : Int) (hx : -9223372036854775808 < x ∧ x < 9223372036854775808) (hw : 0 < w ∧ w < 9223372036854775808) (hu : -2147483648 ≤ u ∧ u < 2147483648) : av_Mt E (d + 1) mX8_told [vL x, vL w, vI u] M (av_X (some (vL (tl ((x : Rat) / (w : Rat)) u))) M) := by
  have ht := tl_of (x := x) hw.1 u
  have hg0 : 0 < Int.gcd x w := Int.gcd_pos_of_ne_zero_right x (by omega)
  have hgl : Int.gcd x w ≤ w.natAbs := Int.gcd_le_natAbs_right x (by omega)
  refine av_enter hX8_told oX8_told rfl rfl ?_
  refine ax_lloadn rfl rfl ?_
  refine ax_lloadn rfl rfl ?_
  refine ax_callS (as := [_, _]) rfl sX8_88 hX8_common rfl rfl rfl rfl (c_R_common E d M x w hx (by omega)) (av_Xk ?_)
  refine ax_lstore (ls' := [(0, _), (2, _), (4, _), (5, _)]) rfl rfl rfl ?_
  refine ax_iload rfl rfl ?_
  refine ax_if_eq rfl (by omega) (fun h9 => ?_) (fun h9 => ?_)
  · refine ax_lloadn rfl rfl ?_
    refine ax_lload rfl rfl ?_
    refine ax_ldiv rfl (by omega) (by omega) (by omega) ?_
    refine ax_lret rfl rfl ?_
    first
      | (rw [if_pos (by omega)] at ht; exact av_rL ht)
      | (rw [if_neg (by omega)] at ht; exact av_rL ht)
  · refine ax_lloadn rfl rfl ?_
    refine ax_lload rfl rfl ?_
    refine ax_ldiv rfl (by omega) (by omega) (by omega) ?_
    refine ax_goto rfl ?_
    refine ax_lret rfl rfl ?_
    first
      | (rw [if_pos (by omega)] at ht; exact av_rL ht)
      | (rw [if_neg (by omega)] at ht; exact av_rL ht)
set_option maxRecDepth 100000 in
set_option maxHeartbeats 800000 in
theorem c_X8_isAhead (E : av_E) (d : Nat) (M : av_M) (a b : Int) (ha : 0 ≤ a ∧ a < 140) (hb : 0 ≤ b ∧ b < 140) (ra : RB M a) (rb : RB M b) : av_Mt E (d + 1) mX8_isAhead [vR 35, vI a, vI b] M (av_X (some (vI (b01 (lx (rp M a) (rp M b))))) M) := by
  obtain ⟨a1, a2, a3, a4⟩ := ra
  obtain ⟨b1, b2, b3, b4⟩ := rb
  have wa : -5000 ≤ M 40 a ∧ M 40 a ≤ 5000 := by omega
  have wb : -5000 ≤ M 40 b ∧ M 40 b ≤ 5000 := by omega
  have q1 := mb a1 wb
  have q2 := mb b1 wa
  have q3 := mb a2 wb
  have q4 := mb b2 wa
  have hl := P2_lx (x := M 38 a) (y := M 39 a) (x' := M 38 b) (y' := M 39 b) a3 b3
  refine av_enter hX8_isAhead oX8_isAhead rfl rfl ?_
  refine ax_aloadn rfl rfl ?_
  refine ax_aloadn rfl rfl ?_
  refine ax_getR rfl fX8_16 rfl rfl ?_
  refine ax_iloadn rfl rfl ?_
  refine ax_lald rfl rfl (by omega) ?_
  refine ax_aloadn rfl rfl ?_
  refine ax_getR rfl fX8_23 rfl rfl ?_
  refine ax_iloadn rfl rfl ?_
  refine ax_lald rfl rfl (by omega) ?_
  refine ax_aloadn rfl rfl ?_
  refine ax_getR rfl fX8_16 rfl rfl ?_
  refine ax_iloadn rfl rfl ?_
  refine ax_lald rfl rfl (by omega) ?_
  refine ax_aloadn rfl rfl ?_
  refine ax_getR rfl fX8_23 rfl rfl ?_
  refine ax_iloadn rfl rfl ?_
  refine ax_lald rfl rfl (by omega) ?_
  refine ax_callV (as := [_, _, _, _]) rfl vX8_106 hX8_compare rfl rfl rfl rfl rfl (c_X8_compare E d M _ _ _ _) (av_Xk ?_)
  refine ax_lstoren (ls' := [(0, _), (1, _), (2, _), (3, _)]) rfl rfl rfl ?_
  refine ax_lloadn rfl rfl ?_
  refine ax_lconst (w := 0) rfl rfl ?_
  refine ax_lif_lt rfl rfl (by omega) (by omega) (fun h31 => ?_) (fun h31 => ?_)
  · refine ax_iconst rfl ?_
    refine ax_goto rfl ?_
    refine ax_zret rfl rfl (by omega) ?_
    first
      | exact av_rI (b01_t (hl.mpr (by omega))).symm
      | exact av_rI (b01_f (fun q => by have := hl.mp q; omega)).symm
  · refine ax_lloadn rfl rfl ?_
    refine ax_lconst (w := 0) rfl rfl ?_
    refine ax_lif_ne rfl rfl (by omega) (by omega) (fun h37 => ?_) (fun h37 => ?_)
    · refine ax_iconst rfl ?_
      refine ax_zret rfl rfl (by omega) ?_
      first
        | exact av_rI (b01_t (hl.mpr (by omega))).symm
        | exact av_rI (b01_f (fun q => by have := hl.mp q; omega)).symm
    · refine ax_aloadn rfl rfl ?_
      refine ax_aloadn rfl rfl ?_
      refine ax_getR rfl fX8_20 rfl rfl ?_
      refine ax_iloadn rfl rfl ?_
      refine ax_lald rfl rfl (by omega) ?_
      refine ax_aloadn rfl rfl ?_
      refine ax_getR rfl fX8_23 rfl rfl ?_
      refine ax_iloadn rfl rfl ?_
      refine ax_lald rfl rfl (by omega) ?_
      refine ax_aloadn rfl rfl ?_
      refine ax_getR rfl fX8_20 rfl rfl ?_
      refine ax_iloadn rfl rfl ?_
      refine ax_lald rfl rfl (by omega) ?_
      refine ax_aloadn rfl rfl ?_
      refine ax_getR rfl fX8_23 rfl rfl ?_
      refine ax_iloadn rfl rfl ?_
      refine ax_lald rfl rfl (by omega) ?_
      refine ax_callV (as := [_, _, _, _]) rfl vX8_106 hX8_compare rfl rfl rfl rfl rfl (c_X8_compare E d M _ _ _ _) (av_Xk ?_)
      refine ax_lconst (w := 0) rfl rfl ?_
      refine ax_lif_ge rfl rfl (by omega) (by omega) (fun h70 => ?_) (fun h70 => ?_)
      · refine ax_iconst rfl ?_
        refine ax_zret rfl rfl (by omega) ?_
        first
          | exact av_rI (b01_t (hl.mpr (by omega))).symm
          | exact av_rI (b01_f (fun q => by have := hl.mp q; omega)).symm
      · refine ax_iconst rfl ?_
        refine ax_goto rfl ?_
        refine ax_zret rfl rfl (by omega) ?_
        first
          | exact av_rI (b01_t (hl.mpr (by omega))).symm
          | exact av_rI (b01_f (fun q => by have := hl.mp q; omega)).symm
set_option maxRecDepth 100000 in
set_option maxHeartbeats 800000 in
theorem c_X8_isOne (E : av_E) (d : Nat) (M : av_M) (a b : Int) (ha : 0 ≤ a ∧ a < 140) (hb : 0 ≤ b ∧ b < 140) (ra : RB M a) (rb : RB M b) : av_Mt E (d + 1) mX8_isOne [vR 35, vI a, vI b] M (av_X (some (vI (b01 (rp M a = rp M b)))) M) := by
  obtain ⟨a1, a2, a3, a4⟩ := ra
  obtain ⟨b1, b2, b3, b4⟩ := rb
  have wa : -5000 ≤ M 40 a ∧ M 40 a ≤ 5000 := by omega
  have wb : -5000 ≤ M 40 b ∧ M 40 b ≤ 5000 := by omega
  have q1 := mb a1 wb
  have q2 := mb b1 wa
  have q3 := mb a2 wb
  have q4 := mb b2 wa
  have hl := P2_eq (x := M 38 a) (y := M 39 a) (x' := M 38 b) (y' := M 39 b) a3 b3
  refine av_enter hX8_isOne oX8_isOne rfl rfl ?_
  refine ax_aloadn rfl rfl ?_
  refine ax_aloadn rfl rfl ?_
  refine ax_getR rfl fX8_16 rfl rfl ?_
  refine ax_iloadn rfl rfl ?_
  refine ax_lald rfl rfl (by omega) ?_
  refine ax_aloadn rfl rfl ?_
  refine ax_getR rfl fX8_23 rfl rfl ?_
  refine ax_iloadn rfl rfl ?_
  refine ax_lald rfl rfl (by omega) ?_
  refine ax_aloadn rfl rfl ?_
  refine ax_getR rfl fX8_16 rfl rfl ?_
  refine ax_iloadn rfl rfl ?_
  refine ax_lald rfl rfl (by omega) ?_
  refine ax_aloadn rfl rfl ?_
  refine ax_getR rfl fX8_23 rfl rfl ?_
  refine ax_iloadn rfl rfl ?_
  refine ax_lald rfl rfl (by omega) ?_
  refine ax_callV (as := [_, _, _, _]) rfl vX8_106 hX8_compare rfl rfl rfl rfl rfl (c_X8_compare E d M _ _ _ _) (av_Xk ?_)
  refine ax_lconst (w := 0) rfl rfl ?_
  refine ax_lif_ne rfl rfl (by omega) (by omega) (fun h29 => ?_) (fun h29 => ?_)
  · refine ax_iconst rfl ?_
    refine ax_zret rfl rfl (by omega) ?_
    first
      | exact av_rI (b01_t (hl.mpr (by omega))).symm
      | exact av_rI (b01_f (fun q => by have := hl.mp q; omega)).symm
  · refine ax_aloadn rfl rfl ?_
    refine ax_aloadn rfl rfl ?_
    refine ax_getR rfl fX8_20 rfl rfl ?_
    refine ax_iloadn rfl rfl ?_
    refine ax_lald rfl rfl (by omega) ?_
    refine ax_aloadn rfl rfl ?_
    refine ax_getR rfl fX8_23 rfl rfl ?_
    refine ax_iloadn rfl rfl ?_
    refine ax_lald rfl rfl (by omega) ?_
    refine ax_aloadn rfl rfl ?_
    refine ax_getR rfl fX8_20 rfl rfl ?_
    refine ax_iloadn rfl rfl ?_
    refine ax_lald rfl rfl (by omega) ?_
    refine ax_aloadn rfl rfl ?_
    refine ax_getR rfl fX8_23 rfl rfl ?_
    refine ax_iloadn rfl rfl ?_
    refine ax_lald rfl rfl (by omega) ?_
    refine ax_callV (as := [_, _, _, _]) rfl vX8_106 hX8_compare rfl rfl rfl rfl rfl (c_X8_compare E d M _ _ _ _) (av_Xk ?_)
    refine ax_lconst (w := 0) rfl rfl ?_
    refine ax_lif_ne rfl rfl (by omega) (by omega) (fun h62 => ?_) (fun h62 => ?_)
    · refine ax_iconst rfl ?_
      refine ax_zret rfl rfl (by omega) ?_
      first
        | exact av_rI (b01_t (hl.mpr (by omega))).symm
        | exact av_rI (b01_f (fun q => by have := hl.mp q; omega)).symm
    · refine ax_iconst rfl ?_
      refine ax_goto rfl ?_
      refine ax_zret rfl rfl (by omega) ?_
      first
        | exact av_rI (b01_t (hl.mpr (by omega))).symm
        | exact av_rI (b01_f (fun q => by have := hl.mp q; omega)).symm
set_option maxRecDepth 100000 in
set_option maxHeartbeats 800000 in
theorem c_X8_isBetween (E : av_E) (d : Nat) (M : av_M) (a b c : Int) (ha : 0 ≤ a ∧ a < 140) (hb : 0 ≤ b ∧ b < 140) (hc : 0 ≤ c ∧ c < 140) (ra : RB M a) (rb : RB M b) (rc : RB M c) : av_Mt E (d + 2) mX8_isBetween [vR 35, vI a, vI b, vI c] M (av_X (some (vI (b01 ((lx (rp M a) (rp M b) ∧ lx (rp M b) (rp M c)) ∨ (lx (rp M c) (rp M b) ∧ lx (rp M b) (rp M a)))))) M) := by
  have kk := b01_bet (lx (rp M a) (rp M b)) (lx (rp M b) (rp M c)) (lx (rp M c) (rp M b)) (lx (rp M b) (rp M a))
  have k0 := b01_rng (lx (rp M a) (rp M b))
  have k1 := b01_rng (lx (rp M b) (rp M c))
  have k2 := b01_rng (lx (rp M c) (rp M b))
  have k3 := b01_rng (lx (rp M b) (rp M a))
  refine av_enter hX8_isBetween oX8_isBetween rfl rfl ?_
  refine ax_aloadn rfl rfl ?_
  refine ax_iloadn rfl rfl ?_
  refine ax_iloadn rfl rfl ?_
  refine ax_callV (as := [_, _]) rfl vX8_110 hX8_isAhead rfl rfl rfl rfl rfl (c_X8_isAhead E d M a b ha hb ra rb) (av_Xk ?_)
  refine ax_if_eq rfl (by omega) (fun h6 => ?_) (fun h6 => ?_)
  · refine ax_iconst rfl ?_
    refine ax_istore (ls' := [(0, _), (1, _), (2, _), (3, _), (4, _)]) rfl rfl rfl ?_
    refine ax_iload rfl rfl ?_
    refine ax_if_ne rfl (by omega) (fun h27 => ?_) (fun h27 => ?_)
    · refine ax_iconst rfl ?_
      refine ax_goto rfl ?_
      refine ax_zret rfl rfl (by omega) ?_
      exact av_rI (by omega)
    · refine ax_aloadn rfl rfl ?_
      refine ax_iloadn rfl rfl ?_
      refine ax_iloadn rfl rfl ?_
      refine ax_callV (as := [_, _]) rfl vX8_110 hX8_isAhead rfl rfl rfl rfl rfl (c_X8_isAhead E d M c b hc hb rc rb) (av_Xk ?_)
      refine ax_if_eq rfl (by omega) (fun h36 => ?_) (fun h36 => ?_)
      · refine ax_iconst rfl ?_
        refine ax_zret rfl rfl (by omega) ?_
        exact av_rI (by omega)
      · refine ax_aloadn rfl rfl ?_
        refine ax_iloadn rfl rfl ?_
        refine ax_iloadn rfl rfl ?_
        refine ax_callV (as := [_, _]) rfl vX8_110 hX8_isAhead rfl rfl rfl rfl rfl (c_X8_isAhead E d M b a hb ha rb ra) (av_Xk ?_)
        refine ax_if_eq rfl (by omega) (fun h45 => ?_) (fun h45 => ?_)
        · refine ax_iconst rfl ?_
          refine ax_zret rfl rfl (by omega) ?_
          exact av_rI (by omega)
        · refine ax_iconst rfl ?_
          refine ax_goto rfl ?_
          refine ax_zret rfl rfl (by omega) ?_
          exact av_rI (by omega)
  · refine ax_aloadn rfl rfl ?_
    refine ax_iloadn rfl rfl ?_
    refine ax_iloadn rfl rfl ?_
    refine ax_callV (as := [_, _]) rfl vX8_110 hX8_isAhead rfl rfl rfl rfl rfl (c_X8_isAhead E d M b c hb hc rb rc) (av_Xk ?_)
    refine ax_if_eq rfl (by omega) (fun h15 => ?_) (fun h15 => ?_)
    · refine ax_iconst rfl ?_
      refine ax_istore (ls' := [(0, _), (1, _), (2, _), (3, _), (4, _)]) rfl rfl rfl ?_
      refine ax_iload rfl rfl ?_
      refine ax_if_ne rfl (by omega) (fun h27 => ?_) (fun h27 => ?_)
      · refine ax_iconst rfl ?_
        refine ax_goto rfl ?_
        refine ax_zret rfl rfl (by omega) ?_
        exact av_rI (by omega)
      · refine ax_aloadn rfl rfl ?_
        refine ax_iloadn rfl rfl ?_
        refine ax_iloadn rfl rfl ?_
        refine ax_callV (as := [_, _]) rfl vX8_110 hX8_isAhead rfl rfl rfl rfl rfl (c_X8_isAhead E d M c b hc hb rc rb) (av_Xk ?_)
        refine ax_if_eq rfl (by omega) (fun h36 => ?_) (fun h36 => ?_)
        · refine ax_iconst rfl ?_
          refine ax_zret rfl rfl (by omega) ?_
          exact av_rI (by omega)
        · refine ax_aloadn rfl rfl ?_
          refine ax_iloadn rfl rfl ?_
          refine ax_iloadn rfl rfl ?_
          refine ax_callV (as := [_, _]) rfl vX8_110 hX8_isAhead rfl rfl rfl rfl rfl (c_X8_isAhead E d M b a hb ha rb ra) (av_Xk ?_)
          refine ax_if_eq rfl (by omega) (fun h45 => ?_) (fun h45 => ?_)
          · refine ax_iconst rfl ?_
            refine ax_zret rfl rfl (by omega) ?_
            exact av_rI (by omega)
          · refine ax_iconst rfl ?_
            refine ax_goto rfl ?_
            refine ax_zret rfl rfl (by omega) ?_
            exact av_rI (by omega)
    · refine ax_iconst rfl ?_
      refine ax_goto rfl ?_
      refine ax_istore (ls' := [(0, _), (1, _), (2, _), (3, _), (4, _)]) rfl rfl rfl ?_
      refine ax_iload rfl rfl ?_
      refine ax_if_ne rfl (by omega) (fun h27 => ?_) (fun h27 => ?_)
      · refine ax_iconst rfl ?_
        refine ax_goto rfl ?_
        refine ax_zret rfl rfl (by omega) ?_
        exact av_rI (by omega)
      · refine ax_aloadn rfl rfl ?_
        refine ax_iloadn rfl rfl ?_
        refine ax_iloadn rfl rfl ?_
        refine ax_callV (as := [_, _]) rfl vX8_110 hX8_isAhead rfl rfl rfl rfl rfl (c_X8_isAhead E d M c b hc hb rc rb) (av_Xk ?_)
        refine ax_if_eq rfl (by omega) (fun h36 => ?_) (fun h36 => ?_)
        · refine ax_iconst rfl ?_
          refine ax_zret rfl rfl (by omega) ?_
          exact av_rI (by omega)
        · refine ax_aloadn rfl rfl ?_
          refine ax_iloadn rfl rfl ?_
          refine ax_iloadn rfl rfl ?_
          refine ax_callV (as := [_, _]) rfl vX8_110 hX8_isAhead rfl rfl rfl rfl rfl (c_X8_isAhead E d M b a hb ha rb ra) (av_Xk ?_)
          refine ax_if_eq rfl (by omega) (fun h45 => ?_) (fun h45 => ?_)
          · refine ax_iconst rfl ?_
            refine ax_zret rfl rfl (by omega) ?_
            exact av_rI (by omega)
          · refine ax_iconst rfl ?_
            refine ax_goto rfl ?_
            refine ax_zret rfl rfl (by omega) ?_
            exact av_rI (by omega)
