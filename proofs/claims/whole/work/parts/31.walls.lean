/-! ===== the reference: its walls ===== -/
def rA (M : av_M) : Int → Int := fun j => M 52 (4 * j)
def rB (M : av_M) : Int → Int := fun j => M 52 (4 * j + 1)
def rC (M : av_M) : Int → Int := fun j => M 52 (4 * j + 2)
def rD (M : av_M) : Int → Int := fun j => M 52 (4 * j + 3)
def RWm (M : av_M) : Prop := (0 ≤ M 35 23 ∧ M 35 23 ≤ 10) ∧ (∀ j, 0 ≤ j → j < M 35 23 → (-9 ≤ rA M j ∧ rA M j ≤ 9) ∧ (-9 ≤ rB M j ∧ rB M j ≤ 9) ∧ (-9 ≤ rC M j ∧ rC M j ≤ 9) ∧ (-99 ≤ rD M j ∧ rD M j ≤ 99) ∧ ¬ (rA M j = 0 ∧ rB M j = 0 ∧ rC M j = 0)) ∧ (∀ k, 0 ≤ k → k < 40 → -99 ≤ M 52 k ∧ M 52 k ≤ 99) ∧ ∀ j, 0 ≤ j → j < 10 → M 53 j = 0 ∨ M 53 j = 1
theorem bor0 {v : Int} (h : 0 ≤ v ∧ v < 1024) : bi_or v 0 = v := by
  obtain ⟨n, rfl⟩ := bset_of h.1
  have := bi_n_or (a := n) (b := 0) (by omega) (by omega)
  rw [Nat.or_zero] at this
  exact this
def HnR (M : av_M) (set x y z w n : Int) : Prop := ∀ t : Nat, (t : Int) < n → set.toNat.testBit t = true → exI (rA M) (rB M) (rC M) (rD M) t x y z w ≤ 0
theorem HnR_0 (M : av_M) (set x y z w : Int) : HnR M set x y z w 0 := fun t ht => by omega
theorem HnR_s {M : av_M} {set x y z w n : Int} (h0 : 0 ≤ n) : HnR M set x y z w (n + 1) ↔ HnR M set x y z w n ∧ (set.toNat.testBit n.toNat = true → exI (rA M) (rB M) (rC M) (rD M) n x y z w ≤ 0) := by
  constructor
  · intro h
    refine ⟨fun t a b => h t (by omega) b, fun b => ?_⟩
    have := h n.toNat (by omega) b
    rw [Int.toNat_of_nonneg h0] at this
    exact this
  · rintro ⟨h1, h2⟩ t a b
    by_cases ht : (t : Int) = n
    · have e : n.toNat = t := by omega
      rw [ht]
      exact h2 (by rw [e]; exact b)
    · exact h1 t (by omega) b
set_option maxRecDepth 100000 in
set_option maxHeartbeats 800000 in
theorem l_X8_setOn (E : av_E) (d : Nat) (M : av_M) (hR : RWm M) : ∀ (t : Nat) (n v : Int), n + t = M 35 23 → 0 ≤ n → bset (fun t : Nat => M 53 t = 1) n v → av_S E d mX8_setOn 4 [(0, vR 35), (1, vI v), (2, vI n)] [] M (fun res M' => (∃ v, res = some (vI v) ∧ bset (fun t : Nat => M 53 t = 1) (M 35 23) v) ∧ M' = M) := by
  have hs := hR.1
  intro t
  induction t with
  | zero =>
    intro n v hn n0 hb
    have en : n = M 35 23 := by omega
    subst en
    refine ax_iloadn rfl rfl ?_
    refine ax_aloadn rfl rfl ?_
    refine ax_getI (g := 23) rfl fX8_216 rfl rfl rfl rfl ?_
    refine ax_icmp_ge rfl (by omega) (by omega) (fun h9 => ?_) (fun h9 => ?_)
    · refine ax_iloadn rfl rfl ?_
      refine ax_iret rfl rfl ?_
      exact ⟨⟨v, rfl, hb⟩, rfl⟩
    · omega
  | succ t ih =>
    intro n v hn n0 hb
    have h53 := hR.2.2.2 n n0 (by omega)
    have hv : 0 ≤ v ∧ v < 1024 := ⟨hb.1, hb.2.1⟩
    refine ax_iloadn rfl rfl ?_
    refine ax_aloadn rfl rfl ?_
    refine ax_getI (g := 23) rfl fX8_216 rfl rfl rfl rfl ?_
    refine ax_icmp_ge rfl (by omega) (by omega) (fun h9 => ?_) (fun h9 => ?_)
    · omega
    · refine ax_iloadn rfl rfl ?_
      refine ax_aloadn rfl rfl ?_
      refine ax_getR rfl fX8_69 rfl rfl ?_
      refine ax_iloadn rfl rfl ?_
      refine ax_bald rfl rfl (by omega) ?_
      refine ax_if_eq rfl (by omega) (fun h19 => ?_) (fun h19 => ?_)
      · refine ax_iconst rfl ?_
        refine ax_ior rfl ?_
        refine ax_istoren (ls' := [(0, _), (1, _), (2, _)]) rfl rfl rfl ?_
        refine ax_iinc (ls' := [(0, _), (1, _), (2, _)]) rfl rfl rfl rfl ?_
        refine ax_goto rfl ?_
        first
          | (obtain ⟨r, e1, e2⟩ := bset_in hb (by omega) (show M 53 ((n.toNat : Nat) : Int) = 1 by rw [Int.toNat_of_nonneg n0]; omega)
             rw [e1]
             exact ih _ _ (by omega) (by omega) e2)
          | (rw [bor0 hv]
             exact ih _ _ (by omega) (by omega) (bset_out hb n0 (fun q => by
               have q2 : M 53 ((n.toNat : Nat) : Int) = 1 := q
               rw [Int.toNat_of_nonneg n0] at q2
               omega)))
      · refine ax_iconst rfl ?_
        refine ax_iloadn rfl rfl ?_
        refine ax_ishl rfl ?_
        refine ax_goto rfl ?_
        refine ax_ior rfl ?_
        refine ax_istoren (ls' := [(0, _), (1, _), (2, _)]) rfl rfl rfl ?_
        refine ax_iinc (ls' := [(0, _), (1, _), (2, _)]) rfl rfl rfl rfl ?_
        refine ax_goto rfl ?_
        first
          | (obtain ⟨r, e1, e2⟩ := bset_in hb (by omega) (show M 53 ((n.toNat : Nat) : Int) = 1 by rw [Int.toNat_of_nonneg n0]; omega)
             rw [e1]
             exact ih _ _ (by omega) (by omega) e2)
          | (rw [bor0 hv]
             exact ih _ _ (by omega) (by omega) (bset_out hb n0 (fun q => by
               have q2 : M 53 ((n.toNat : Nat) : Int) = 1 := q
               rw [Int.toNat_of_nonneg n0] at q2
               omega)))
set_option maxRecDepth 100000 in
set_option maxHeartbeats 800000 in
theorem c_X8_setOn (E : av_E) (d : Nat) (M : av_M) (hR : RWm M) : av_Mt E d mX8_setOn [vR 35] M (fun res M' => (∃ v, res = some (vI v) ∧ bset (fun t : Nat => M 53 t = 1) (M 35 23) v) ∧ M' = M) := by
  have hs := hR.1
  refine av_enter hX8_setOn oX8_setOn rfl rfl ?_
  refine ax_iconst rfl ?_
  refine ax_istoren (ls' := [(0, _), (1, _)]) rfl rfl rfl ?_
  refine ax_iconst rfl ?_
  refine ax_istoren (ls' := [(0, _), (1, _), (2, _)]) rfl rfl rfl ?_
  exact l_X8_setOn E d M hR (M 35 23).toNat 0 0 (by omega) (by omega) (bset_nil (by omega))
set_option maxRecDepth 100000 in
set_option maxHeartbeats 800000 in
theorem l_X8_bits (E : av_E) (d : Nat) (M : av_M) (c : Int) (hc : 0 ≤ c ∧ c < 1024) : ∀ (t w : Nat), w + t = 10 → av_S E d mX8_bits 4 [(0, vI c), (1, vI ((popc c.toNat w : Nat) : Int)), (2, vI (w : Int))] [] M (av_X (some (vI (pcI c))) M) := by
  intro t
  induction t with
  | zero =>
    intro w hw
    have ew : w = 10 := by omega
    subst ew
    refine ax_iloadn rfl rfl ?_
    refine ax_bipush rfl rfl ?_
    refine ax_icmp_ge rfl (by omega) (by omega) (fun h7 => ?_) (fun h7 => ?_)
    · refine ax_iloadn rfl rfl ?_
      refine ax_iret rfl rfl ?_
      exact av_rI rfl
    · omega
  | succ t ih =>
    intro w hw
    have hb := bit_at hc.1 (show c < 2147483648 by omega) (show 0 ≤ (w : Int) ∧ (w : Int) < 31 by omega)
    rw [Int.toNat_natCast] at hb
    have ps : popc c.toNat (w + 1) = popc c.toNat w + (if c.toNat.testBit w then 1 else 0) := rfl
    have i2 := ih (w + 1) (by omega)
    have e : ((popc c.toNat w : Nat) : Int) + bi_and (bi_shr c (w : Int)) 1 = ((popc c.toNat (w + 1) : Nat) : Int) := by
      rw [hb, ps]
      split <;> omega
    refine ax_iloadn rfl rfl ?_
    refine ax_bipush rfl rfl ?_
    refine ax_icmp_ge rfl (by omega) (by omega) (fun h7 => ?_) (fun h7 => ?_)
    · omega
    · refine ax_iloadn rfl rfl ?_
      refine ax_iloadn rfl rfl ?_
      refine ax_iloadn rfl rfl ?_
      refine ax_ishr rfl ?_
      refine ax_iconst rfl ?_
      refine ax_iand rfl ?_
      refine ax_iadd rfl ?_
      refine ax_istoren (ls' := [(0, _), (1, _), (2, _)]) rfl rfl rfl ?_
      refine ax_iinc (ls' := [(0, _), (1, _), (2, _)]) rfl rfl rfl rfl ?_
      refine ax_goto rfl ?_
      rw [e]
      exact i2
set_option maxRecDepth 100000 in
set_option maxHeartbeats 800000 in
theorem c_X8_bits (E : av_E) (d : Nat) (M : av_M) (c : Int) (hc : 0 ≤ c ∧ c < 1024) : av_Mt E d mX8_bits [vI c] M (av_X (some (vI (pcI c))) M) := by
  refine av_enter hX8_bits oX8_bits rfl rfl ?_
  refine ax_iconst rfl ?_
  refine ax_istoren (ls' := [(0, _), (1, _)]) rfl rfl rfl ?_
  refine ax_iconst rfl ?_
  refine ax_istoren (ls' := [(0, _), (1, _), (2, _)]) rfl rfl rfl ?_
  exact l_X8_bits E d M c hc 10 0 (by omega)
set_option maxRecDepth 100000 in
set_option maxHeartbeats 800000 in
theorem c_X8_determinant (E : av_E) (d : Nat) (M : av_M) (hR : RWm M) (u v w p q r : Int) (hu : 0 ≤ u ∧ u < 10) (hv : 0 ≤ v ∧ v < 10) (hw : 0 ≤ w ∧ w < 10) (hp : 0 ≤ p ∧ p < 4) (hq : 0 ≤ q ∧ q < 4) (hr : 0 ≤ r ∧ r < 4) : av_Mt E (d) mX8_determinant [vR 35, vI u, vI v, vI w, vI p, vI q, vI r] M (av_X (some (vL (vol (fun j => M 52 (4 * j + p)) (fun j => M 52 (4 * j + q)) (fun j => M 52 (4 * j + r)) u v w))) M) := by
  have bup := hR.2.2.1 (4 * u + p) (by omega) (by omega)
  have buq := hR.2.2.1 (4 * u + q) (by omega) (by omega)
  have bur := hR.2.2.1 (4 * u + r) (by omega) (by omega)
  have bvp := hR.2.2.1 (4 * v + p) (by omega) (by omega)
  have bvq := hR.2.2.1 (4 * v + q) (by omega) (by omega)
  have bvr := hR.2.2.1 (4 * v + r) (by omega) (by omega)
  have bwp := hR.2.2.1 (4 * w + p) (by omega) (by omega)
  have bwq := hR.2.2.1 (4 * w + q) (by omega) (by omega)
  have bwr := hR.2.2.1 (4 * w + r) (by omega) (by omega)
  have m0 := mb bvq bwr
  have m1 := mb bvr bwq
  have m2 := mb bvp bwr
  have m3 := mb bvr bwp
  have m4 := mb bvp bwq
  have m5 := mb bvq bwp
  refine av_enter hX8_determinant oX8_determinant rfl rfl ?_
  refine ax_aloadn rfl rfl ?_
  refine ax_getR rfl fX8_66 rfl rfl ?_
  refine ax_iconst rfl ?_
  refine ax_iloadn rfl rfl ?_
  refine ax_imul rfl ?_
  refine ax_iload rfl rfl ?_
  refine ax_iadd rfl ?_
  refine ax_iald rfl rfl (by omega) ?_
  refine ax_i2l rfl (by omega) ?_
  refine ax_lstore (ls' := [(0, _), (1, _), (2, _), (3, _), (4, _), (5, _), (6, _), (7, _)]) rfl rfl rfl ?_
  refine ax_aloadn rfl rfl ?_
  refine ax_getR rfl fX8_66 rfl rfl ?_
  refine ax_iconst rfl ?_
  refine ax_iloadn rfl rfl ?_
  refine ax_imul rfl ?_
  refine ax_iload rfl rfl ?_
  refine ax_iadd rfl ?_
  refine ax_iald rfl rfl (by omega) ?_
  refine ax_i2l rfl (by omega) ?_
  refine ax_lstore (ls' := [(0, _), (1, _), (2, _), (3, _), (4, _), (5, _), (6, _), (7, _), (9, _)]) rfl rfl rfl ?_
  refine ax_aloadn rfl rfl ?_
  refine ax_getR rfl fX8_66 rfl rfl ?_
  refine ax_iconst rfl ?_
  refine ax_iloadn rfl rfl ?_
  refine ax_imul rfl ?_
  refine ax_iload rfl rfl ?_
  refine ax_iadd rfl ?_
  refine ax_iald rfl rfl (by omega) ?_
  refine ax_i2l rfl (by omega) ?_
  refine ax_lstore (ls' := [(0, _), (1, _), (2, _), (3, _), (4, _), (5, _), (6, _), (7, _), (9, _), (11, _)]) rfl rfl rfl ?_
  refine ax_lload rfl rfl ?_
  refine ax_aloadn rfl rfl ?_
  refine ax_getR rfl fX8_66 rfl rfl ?_
  refine ax_iconst rfl ?_
  refine ax_iloadn rfl rfl ?_
  refine ax_imul rfl ?_
  refine ax_iload rfl rfl ?_
  refine ax_iadd rfl ?_
  refine ax_iald rfl rfl (by omega) ?_
  refine ax_aloadn rfl rfl ?_
  refine ax_getR rfl fX8_66 rfl rfl ?_
  refine ax_iconst rfl ?_
  refine ax_iloadn rfl rfl ?_
  refine ax_imul rfl ?_
  refine ax_iload rfl rfl ?_
  refine ax_iadd rfl ?_
  refine ax_iald rfl rfl (by omega) ?_
  refine ax_imul rfl ?_
  refine ax_aloadn rfl rfl ?_
  refine ax_getR rfl fX8_66 rfl rfl ?_
  refine ax_iconst rfl ?_
  refine ax_iloadn rfl rfl ?_
  refine ax_imul rfl ?_
  refine ax_iload rfl rfl ?_
  refine ax_iadd rfl ?_
  refine ax_iald rfl rfl (by omega) ?_
  refine ax_aloadn rfl rfl ?_
  refine ax_getR rfl fX8_66 rfl rfl ?_
  refine ax_iconst rfl ?_
  refine ax_iloadn rfl rfl ?_
  refine ax_imul rfl ?_
  refine ax_iload rfl rfl ?_
  refine ax_iadd rfl ?_
  refine ax_iald rfl rfl (by omega) ?_
  refine ax_imul rfl ?_
  refine ax_isub rfl ?_
  refine ax_i2l rfl (by omega) ?_
  refine ax_lmul rfl ?_
  refine ax_lload rfl rfl ?_
  refine ax_aloadn rfl rfl ?_
  refine ax_getR rfl fX8_66 rfl rfl ?_
  refine ax_iconst rfl ?_
  refine ax_iloadn rfl rfl ?_
  refine ax_imul rfl ?_
  refine ax_iload rfl rfl ?_
  refine ax_iadd rfl ?_
  refine ax_iald rfl rfl (by omega) ?_
  refine ax_aloadn rfl rfl ?_
  refine ax_getR rfl fX8_66 rfl rfl ?_
  refine ax_iconst rfl ?_
  refine ax_iloadn rfl rfl ?_
  refine ax_imul rfl ?_
  refine ax_iload rfl rfl ?_
  refine ax_iadd rfl ?_
  refine ax_iald rfl rfl (by omega) ?_
  refine ax_imul rfl ?_
  refine ax_aloadn rfl rfl ?_
  refine ax_getR rfl fX8_66 rfl rfl ?_
  refine ax_iconst rfl ?_
  refine ax_iloadn rfl rfl ?_
  refine ax_imul rfl ?_
  refine ax_iload rfl rfl ?_
  refine ax_iadd rfl ?_
  refine ax_iald rfl rfl (by omega) ?_
  refine ax_aloadn rfl rfl ?_
  refine ax_getR rfl fX8_66 rfl rfl ?_
  refine ax_iconst rfl ?_
  refine ax_iloadn rfl rfl ?_
  refine ax_imul rfl ?_
  refine ax_iload rfl rfl ?_
  refine ax_iadd rfl ?_
  refine ax_iald rfl rfl (by omega) ?_
  refine ax_imul rfl ?_
  refine ax_isub rfl ?_
  refine ax_i2l rfl (by omega) ?_
  refine ax_lmul rfl ?_
  refine ax_lsub rfl ?_
  refine ax_lload rfl rfl ?_
  refine ax_aloadn rfl rfl ?_
  refine ax_getR rfl fX8_66 rfl rfl ?_
  refine ax_iconst rfl ?_
  refine ax_iloadn rfl rfl ?_
  refine ax_imul rfl ?_
  refine ax_iload rfl rfl ?_
  refine ax_iadd rfl ?_
  refine ax_iald rfl rfl (by omega) ?_
  refine ax_aloadn rfl rfl ?_
  refine ax_getR rfl fX8_66 rfl rfl ?_
  refine ax_iconst rfl ?_
  refine ax_iloadn rfl rfl ?_
  refine ax_imul rfl ?_
  refine ax_iload rfl rfl ?_
  refine ax_iadd rfl ?_
  refine ax_iald rfl rfl (by omega) ?_
  refine ax_imul rfl ?_
  refine ax_aloadn rfl rfl ?_
  refine ax_getR rfl fX8_66 rfl rfl ?_
  refine ax_iconst rfl ?_
  refine ax_iloadn rfl rfl ?_
  refine ax_imul rfl ?_
  refine ax_iload rfl rfl ?_
  refine ax_iadd rfl ?_
  refine ax_iald rfl rfl (by omega) ?_
  refine ax_aloadn rfl rfl ?_
  refine ax_getR rfl fX8_66 rfl rfl ?_
  refine ax_iconst rfl ?_
  refine ax_iloadn rfl rfl ?_
  refine ax_imul rfl ?_
  refine ax_iload rfl rfl ?_
  refine ax_iadd rfl ?_
  refine ax_iald rfl rfl (by omega) ?_
  refine ax_imul rfl ?_
  refine ax_isub rfl ?_
  refine ax_i2l rfl (by omega) ?_
  refine ax_lmul rfl ?_
  refine ax_ladd rfl ?_
  refine ax_lret rfl rfl ?_
  exact av_rL (by unfold vol; grind)
set_option maxRecDepth 100000 in
set_option maxHeartbeats 800000 in
theorem c_X8_leaves (E : av_E) (d : Nat) (M : av_M) (hR : RWm M) (w x y z e : Int) (hw : 0 ≤ w ∧ w < 10) : av_Mt E (d) mX8_leaves [vR 35, vI w, vL x, vL y, vL z, vL e] M (av_X (some (vL (-(exI (rA M) (rB M) (rC M) (rD M) w x y z e)))) M) := by
  have b1 := hR.2.2.1 (4 * w + 1) (by omega) (by omega)
  have b2 := hR.2.2.1 (4 * w + 2) (by omega) (by omega)
  have b3 := hR.2.2.1 (4 * w + 3) (by omega) (by omega)
  have b0 := hR.2.2.1 (4 * w) (by omega) (by omega)
  refine av_enter hX8_leaves oX8_leaves rfl rfl ?_
  refine ax_aloadn rfl rfl ?_
  refine ax_getR rfl fX8_66 rfl rfl ?_
  refine ax_iconst rfl ?_
  refine ax_iloadn rfl rfl ?_
  refine ax_imul rfl ?_
  refine ax_iconst rfl ?_
  refine ax_iadd rfl ?_
  refine ax_iald rfl rfl (by omega) ?_
  refine ax_i2l rfl (by omega) ?_
  refine ax_lload rfl rfl ?_
  refine ax_lmul rfl ?_
  refine ax_aloadn rfl rfl ?_
  refine ax_getR rfl fX8_66 rfl rfl ?_
  refine ax_iconst rfl ?_
  refine ax_iloadn rfl rfl ?_
  refine ax_imul rfl ?_
  refine ax_iald rfl rfl (by omega) ?_
  refine ax_i2l rfl (by omega) ?_
  refine ax_lloadn rfl rfl ?_
  refine ax_lmul rfl ?_
  refine ax_lsub rfl ?_
  refine ax_aloadn rfl rfl ?_
  refine ax_getR rfl fX8_66 rfl rfl ?_
  refine ax_iconst rfl ?_
  refine ax_iloadn rfl rfl ?_
  refine ax_imul rfl ?_
  refine ax_iconst rfl ?_
  refine ax_iadd rfl ?_
  refine ax_iald rfl rfl (by omega) ?_
  refine ax_i2l rfl (by omega) ?_
  refine ax_lload rfl rfl ?_
  refine ax_lmul rfl ?_
  refine ax_lsub rfl ?_
  refine ax_aloadn rfl rfl ?_
  refine ax_getR rfl fX8_66 rfl rfl ?_
  refine ax_iconst rfl ?_
  refine ax_iloadn rfl rfl ?_
  refine ax_imul rfl ?_
  refine ax_iconst rfl ?_
  refine ax_iadd rfl ?_
  refine ax_iald rfl rfl (by omega) ?_
  refine ax_i2l rfl (by omega) ?_
  refine ax_lload rfl rfl ?_
  refine ax_lmul rfl ?_
  refine ax_lsub rfl ?_
  refine ax_lret rfl rfl ?_
  exact av_rL (by unfold exI rA rB rC rD; grind)
set_option maxRecDepth 100000 in
set_option maxHeartbeats 800000 in
theorem l_X8_holdsAll (E : av_E) (d : Nat) (M : av_M) (hR : RWm M) (set x y z w : Int) (hset : 0 ≤ set ∧ set < 1024) (hx : -50000 ≤ x ∧ x ≤ 50000) (hy : -50000 ≤ y ∧ y ≤ 50000) (hz : -50000 ≤ z ∧ z ≤ 50000) (hw : 0 ≤ w ∧ w ≤ 5000) : ∀ (t : Nat) (n : Int), n + t = M 35 23 → 0 ≤ n → av_S E (d + 1) mX8_holdsAll 6 [(0, vR 35), (1, vI set), (2, vL x), (4, vL y), (6, vL z), (8, vL w), (10, vI (b01 (HnR M set x y z w n))), (11, vI n)] [] M (av_X (some (vI (b01 (HnR M set x y z w (M 35 23))))) M) := by
  have hs := hR.1
  intro t
  induction t with
  | zero =>
    intro n hn n0
    have en : n = M 35 23 := by omega
    subst en
    have b := b01_rng (HnR M set x y z w (M 35 23))
    refine ax_iload rfl rfl ?_
    refine ax_aloadn rfl rfl ?_
    refine ax_getI (g := 23) rfl fX8_216 rfl rfl rfl rfl ?_
    refine ax_icmp_ge rfl (by omega) (by omega) (fun h12 => ?_) (fun h12 => ?_)
    · refine ax_iload rfl rfl ?_
      refine ax_zret rfl rfl (by omega) ?_
      exact av_rI rfl
    · omega
  | succ t ih =>
    intro n hn n0
    have i2 := ih (n + 1) (by omega) (by omega)
    have b := b01_rng (HnR M set x y z w n)
    have hb := bit_at hset.1 (show set < 2147483648 by omega) (show 0 ≤ n ∧ n < 31 by omega)
    have wb := hR.2.1 n n0 (by omega)
    have er := exI_rng wb.1 wb.2.1 wb.2.2.1 wb.2.2.2.1 hx hy hz hw
    have st := HnR_s (M := M) (set := set) (x := x) (y := y) (z := z) (w := w) n0
    refine ax_iload rfl rfl ?_
    refine ax_aloadn rfl rfl ?_
    refine ax_getI (g := 23) rfl fX8_216 rfl rfl rfl rfl ?_
    refine ax_icmp_ge rfl (by omega) (by omega) (fun h12 => ?_) (fun h12 => ?_)
    · omega
    · refine ax_iload rfl rfl ?_
      refine ax_if_eq rfl (by omega) (fun h17 => ?_) (fun h17 => ?_)
      · refine ax_iconst rfl ?_
        refine ax_istore (ls' := [(0, _), (1, _), (2, _), (4, _), (6, _), (8, _), (10, _), (11, _)]) rfl rfl rfl ?_
        refine ax_iinc (ls' := [(0, _), (1, _), (2, _), (4, _), (6, _), (8, _), (10, _), (11, _)]) rfl rfl rfl rfl ?_
        refine ax_goto rfl ?_
        first
          | (have e : b01 (HnR M set x y z w (n + 1)) = 0 := b01_f (fun q => b01_eq h17 (st.mp q).1)
             rw [e] at i2
             exact i2)
          | (have e : b01 (HnR M set x y z w (n + 1)) = 1 := b01_t (st.mpr ⟨b01_ne h17, fun q => by rw [hb, if_pos q] at h26; omega⟩)
             rw [e] at i2
             exact i2)
          | (have e : b01 (HnR M set x y z w (n + 1)) = 1 := b01_t (st.mpr ⟨b01_ne h17, fun q => by omega⟩)
             rw [e] at i2
             exact i2)
          | (have e : b01 (HnR M set x y z w (n + 1)) = 0 := b01_f (fun q => by
               have q2 := (st.mp q).2 (by
                 apply Classical.byContradiction
                 intro c
                 rw [hb, if_neg c] at h26
                 omega)
               omega)
             rw [e] at i2
             exact i2)
      · refine ax_iloadn rfl rfl ?_
        refine ax_iload rfl rfl ?_
        refine ax_ishr rfl ?_
        refine ax_iconst rfl ?_
        refine ax_iand rfl ?_
        refine ax_if_eq rfl (by rw [hb]; split <;> omega) (fun h26 => ?_) (fun h26 => ?_)
        · refine ax_iconst rfl ?_
          refine ax_goto rfl ?_
          refine ax_istore (ls' := [(0, _), (1, _), (2, _), (4, _), (6, _), (8, _), (10, _), (11, _)]) rfl rfl rfl ?_
          refine ax_iinc (ls' := [(0, _), (1, _), (2, _), (4, _), (6, _), (8, _), (10, _), (11, _)]) rfl rfl rfl rfl ?_
          refine ax_goto rfl ?_
          first
            | (have e : b01 (HnR M set x y z w (n + 1)) = 0 := b01_f (fun q => b01_eq h17 (st.mp q).1)
               rw [e] at i2
               exact i2)
            | (have e : b01 (HnR M set x y z w (n + 1)) = 1 := b01_t (st.mpr ⟨b01_ne h17, fun q => by rw [hb, if_pos q] at h26; omega⟩)
               rw [e] at i2
               exact i2)
            | (have e : b01 (HnR M set x y z w (n + 1)) = 1 := b01_t (st.mpr ⟨b01_ne h17, fun q => by omega⟩)
               rw [e] at i2
               exact i2)
            | (have e : b01 (HnR M set x y z w (n + 1)) = 0 := b01_f (fun q => by
                 have q2 := (st.mp q).2 (by
                   apply Classical.byContradiction
                   intro c
                   rw [hb, if_neg c] at h26
                   omega)
                 omega)
               rw [e] at i2
               exact i2)
        · refine ax_aloadn rfl rfl ?_
          refine ax_iload rfl rfl ?_
          refine ax_lloadn rfl rfl ?_
          refine ax_lload rfl rfl ?_
          refine ax_lload rfl rfl ?_
          refine ax_lload rfl rfl ?_
          refine ax_callV (as := [_, _, _, _, _]) rfl vX8_224 hX8_leaves rfl rfl rfl rfl rfl (c_X8_leaves E d M hR n x y z w (by omega)) (av_Xk ?_)
          refine ax_lconst (w := 0) rfl rfl ?_
          refine ax_lif_lt rfl rfl (by omega) (by omega) (fun h43 => ?_) (fun h43 => ?_)
          · refine ax_iconst rfl ?_
            refine ax_istore (ls' := [(0, _), (1, _), (2, _), (4, _), (6, _), (8, _), (10, _), (11, _)]) rfl rfl rfl ?_
            refine ax_iinc (ls' := [(0, _), (1, _), (2, _), (4, _), (6, _), (8, _), (10, _), (11, _)]) rfl rfl rfl rfl ?_
            refine ax_goto rfl ?_
            first
              | (have e : b01 (HnR M set x y z w (n + 1)) = 0 := b01_f (fun q => b01_eq h17 (st.mp q).1)
                 rw [e] at i2
                 exact i2)
              | (have e : b01 (HnR M set x y z w (n + 1)) = 1 := b01_t (st.mpr ⟨b01_ne h17, fun q => by rw [hb, if_pos q] at h26; omega⟩)
                 rw [e] at i2
                 exact i2)
              | (have e : b01 (HnR M set x y z w (n + 1)) = 1 := b01_t (st.mpr ⟨b01_ne h17, fun q => by omega⟩)
                 rw [e] at i2
                 exact i2)
              | (have e : b01 (HnR M set x y z w (n + 1)) = 0 := b01_f (fun q => by
                   have q2 := (st.mp q).2 (by
                     apply Classical.byContradiction
                     intro c
                     rw [hb, if_neg c] at h26
                     omega)
                   omega)
                 rw [e] at i2
                 exact i2)
          · refine ax_iconst rfl ?_
            refine ax_goto rfl ?_
            refine ax_istore (ls' := [(0, _), (1, _), (2, _), (4, _), (6, _), (8, _), (10, _), (11, _)]) rfl rfl rfl ?_
            refine ax_iinc (ls' := [(0, _), (1, _), (2, _), (4, _), (6, _), (8, _), (10, _), (11, _)]) rfl rfl rfl rfl ?_
            refine ax_goto rfl ?_
            first
              | (have e : b01 (HnR M set x y z w (n + 1)) = 0 := b01_f (fun q => b01_eq h17 (st.mp q).1)
                 rw [e] at i2
                 exact i2)
              | (have e : b01 (HnR M set x y z w (n + 1)) = 1 := b01_t (st.mpr ⟨b01_ne h17, fun q => by rw [hb, if_pos q] at h26; omega⟩)
                 rw [e] at i2
                 exact i2)
              | (have e : b01 (HnR M set x y z w (n + 1)) = 1 := b01_t (st.mpr ⟨b01_ne h17, fun q => by omega⟩)
                 rw [e] at i2
                 exact i2)
              | (have e : b01 (HnR M set x y z w (n + 1)) = 0 := b01_f (fun q => by
                   have q2 := (st.mp q).2 (by
                     apply Classical.byContradiction
                     intro c
                     rw [hb, if_neg c] at h26
                     omega)
                   omega)
                 rw [e] at i2
                 exact i2)
set_option maxRecDepth 100000 in
set_option maxHeartbeats 800000 in
theorem c_X8_holdsAll (E : av_E) (d : Nat) (M : av_M) (hR : RWm M) (set x y z w : Int) (hset : 0 ≤ set ∧ set < 1024) (hx : -50000 ≤ x ∧ x ≤ 50000) (hy : -50000 ≤ y ∧ y ≤ 50000) (hz : -50000 ≤ z ∧ z ≤ 50000) (hw : 0 ≤ w ∧ w ≤ 5000) : av_Mt E (d + 1) mX8_holdsAll [vR 35, vI set, vL x, vL y, vL z, vL w] M (av_X (some (vI (b01 (HnR M set x y z w (M 35 23))))) M) := by
  have hs := hR.1
  refine av_enter hX8_holdsAll oX8_holdsAll rfl rfl ?_
  refine ax_iconst rfl ?_
  refine ax_istore (ls' := [(0, _), (1, _), (2, _), (4, _), (6, _), (8, _), (10, _)]) rfl rfl rfl ?_
  refine ax_iconst rfl ?_
  refine ax_istore (ls' := [(0, _), (1, _), (2, _), (4, _), (6, _), (8, _), (10, _), (11, _)]) rfl rfl rfl ?_
  have k := l_X8_holdsAll E d M hR set x y z w hset hx hy hz hw (M 35 23).toNat 0 (by omega) (by omega)
  rw [b01_t (HnR_0 M set x y z w)] at k
  exact k
