/-! ===== what is asked of the meets ===== -/
theorem bset_of {v : Int} (h0 : 0 ≤ v) : ∃ n : Nat, v = (n : Int) := ⟨v.toNat, by omega⟩
theorem made0 {a b : Int} (ha : 0 ≤ a ∧ a < 1024) (hb : 0 ≤ b ∧ b < 1024) : bi_and a (bi_xor b (-1)) = 0 ↔ ∀ j : Nat, a.toNat.testBit j = true → b.toNat.testBit j = true := by
  obtain ⟨n, rfl⟩ := bset_of ha.1
  obtain ⟨m, rfl⟩ := bset_of hb.1
  rw [bi_andn0 (by omega)]
  rfl
theorem both0 {a b : Int} (ha : 0 ≤ a ∧ a < 1024) (hb : 0 ≤ b ∧ b < 1024) : bi_and a b = 0 ↔ ∀ j : Nat, ¬ (a.toNat.testBit j = true ∧ b.toNat.testBit j = true) := by
  obtain ⟨n, rfl⟩ := bset_of ha.1
  obtain ⟨m, rfl⟩ := bset_of hb.1
  rw [bi_and0 (by omega)]
  rfl
theorem bi_and_rng' {a b : Int} (ha : 0 ≤ a ∧ a < 1024) (hb : 0 ≤ b ∧ b < 1024) : 0 ≤ bi_and a b ∧ bi_and a b < 1024 ∧ ∀ j : Nat, (bi_and a b).toNat.testBit j = (a.toNat.testBit j && b.toNat.testBit j) := by
  obtain ⟨n, rfl⟩ := bset_of ha.1
  obtain ⟨m, rfl⟩ := bset_of hb.1
  rw [bi_n_and (by omega)]
  have : n &&& m ≤ n := Nat.and_le_left
  refine ⟨Int.natCast_nonneg _, by omega, fun j => ?_⟩
  rw [Int.toNat_natCast, Int.toNat_natCast, Int.toNat_natCast, Nat.testBit_and]
theorem bi_andn_rng {a b : Int} (ha : 0 ≤ a ∧ a < 1024) (hb : 0 ≤ b ∧ b < 1024) : 0 ≤ bi_and a (bi_xor b (-1)) ∧ bi_and a (bi_xor b (-1)) < 1024 := by
  obtain ⟨n, rfl⟩ := bset_of ha.1
  obtain ⟨m, rfl⟩ := bset_of hb.1
  have hlt : n ^^^ (n &&& m) < 2 ^ 10 := by
    have h1 : n &&& m ≤ n := Nat.and_le_left
    have := p1024
    exact Nat.xor_lt_two_pow (by omega) (by omega)
  have := p1024
  rw [bi_n_andn (by omega)]
  omega
set_option maxRecDepth 100000 in
set_option maxHeartbeats 800000 in
theorem c_X3_size (E : av_E) (d : Nat) (M : av_M)  : av_Mt E (d) mX3_size [vR 18] M (av_X (some (vI (M 18 8))) M) := by
  refine av_enter hX3_size oX3_size rfl rfl ?_
  refine ax_aloadn rfl rfl ?_
  refine ax_getI (g := 8) rfl fX3_36 rfl rfl rfl rfl ?_
  refine ax_iret rfl rfl ?_
  exact av_rI rfl
set_option maxRecDepth 100000 in
set_option maxHeartbeats 800000 in
theorem c_X3_xOf (E : av_E) (d : Nat) (M : av_M) (m : Int) (hm : 0 ≤ m ∧ m < 120) : av_Mt E (d) mX3_xOf [vR 18, vI m] M (av_X (some (vI (M 19 m))) M) := by
  refine av_enter hX3_xOf oX3_xOf rfl rfl ?_
  refine ax_aloadn rfl rfl ?_
  refine ax_getR rfl fX3_9 rfl rfl ?_
  refine ax_iloadn rfl rfl ?_
  refine ax_iald rfl rfl (by omega) ?_
  refine ax_iret rfl rfl ?_
  exact av_rI rfl
set_option maxRecDepth 100000 in
set_option maxHeartbeats 800000 in
theorem c_X3_yOf (E : av_E) (d : Nat) (M : av_M) (m : Int) (hm : 0 ≤ m ∧ m < 120) : av_Mt E (d) mX3_yOf [vR 18, vI m] M (av_X (some (vI (M 20 m))) M) := by
  refine av_enter hX3_yOf oX3_yOf rfl rfl ?_
  refine ax_aloadn rfl rfl ?_
  refine ax_getR rfl fX3_15 rfl rfl ?_
  refine ax_iloadn rfl rfl ?_
  refine ax_iald rfl rfl (by omega) ?_
  refine ax_iret rfl rfl ?_
  exact av_rI rfl
set_option maxRecDepth 100000 in
set_option maxHeartbeats 800000 in
theorem c_X3_zOf (E : av_E) (d : Nat) (M : av_M) (m : Int) (hm : 0 ≤ m ∧ m < 120) : av_Mt E (d) mX3_zOf [vR 18, vI m] M (av_X (some (vI (M 21 m))) M) := by
  refine av_enter hX3_zOf oX3_zOf rfl rfl ?_
  refine ax_aloadn rfl rfl ?_
  refine ax_getR rfl fX3_18 rfl rfl ?_
  refine ax_iloadn rfl rfl ?_
  refine ax_iald rfl rfl (by omega) ?_
  refine ax_iret rfl rfl ?_
  exact av_rI rfl
set_option maxRecDepth 100000 in
set_option maxHeartbeats 800000 in
theorem c_X3_wOf (E : av_E) (d : Nat) (M : av_M) (m : Int) (hm : 0 ≤ m ∧ m < 120) : av_Mt E (d) mX3_wOf [vR 18, vI m] M (av_X (some (vI (M 22 m))) M) := by
  refine av_enter hX3_wOf oX3_wOf rfl rfl ?_
  refine ax_aloadn rfl rfl ?_
  refine ax_getR rfl fX3_21 rfl rfl ?_
  refine ax_iloadn rfl rfl ?_
  refine ax_iald rfl rfl (by omega) ?_
  refine ax_iret rfl rfl ?_
  exact av_rI rfl
set_option maxRecDepth 100000 in
set_option maxHeartbeats 800000 in
theorem c_X3_touchersOf (E : av_E) (d : Nat) (M : av_M) (m : Int) (hm : 0 ≤ m ∧ m < 120) : av_Mt E (d) mX3_touchersOf [vR 18, vI m] M (av_X (some (vI (M 25 m))) M) := by
  refine av_enter hX3_touchersOf oX3_touchersOf rfl rfl ?_
  refine ax_aloadn rfl rfl ?_
  refine ax_getR rfl fX3_30 rfl rfl ?_
  refine ax_iloadn rfl rfl ?_
  refine ax_iald rfl rfl (by omega) ?_
  refine ax_iret rfl rfl ?_
  exact av_rI rfl
set_option maxRecDepth 100000 in
set_option maxHeartbeats 800000 in
theorem c_X3_isBroken (E : av_E) (d : Nat) (M : av_M) (m w : Int) (hm : 0 ≤ m ∧ m < 120) (hw : 0 ≤ w ∧ w < 10) (hb : 0 ≤ M 24 m ∧ M 24 m < 1024) : av_Mt E (d) mX3_isBroken [vR 18, vI m, vI w] M (av_X (some (vI (b01 ((M 24 m).toNat.testBit w.toNat = true)))) M) := by
  have hb2 := bit_at hb.1 (show M 24 m < 2147483648 by omega) (show 0 ≤ w ∧ w < 31 by omega)
  refine av_enter hX3_isBroken oX3_isBroken rfl rfl ?_
  refine ax_aloadn rfl rfl ?_
  refine ax_getR rfl fX3_27 rfl rfl ?_
  refine ax_iloadn rfl rfl ?_
  refine ax_iald rfl rfl (by omega) ?_
  refine ax_iloadn rfl rfl ?_
  refine ax_ishr rfl ?_
  refine ax_iconst rfl ?_
  refine ax_iand rfl ?_
  refine ax_iconst rfl ?_
  refine ax_icmp_ne rfl (by rw [hb2]; split <;> omega) (by omega) (fun h11 => ?_) (fun h11 => ?_)
  · refine ax_iconst rfl ?_
    refine ax_zret rfl rfl (by omega) ?_
    first
      | (refine av_rI (b01_t ?_).symm; apply Classical.byContradiction; intro hc; rw [if_neg hc] at hb2; omega)
      | (refine av_rI (b01_f ?_).symm; intro hc; rw [if_pos hc] at hb2; omega)
  · refine ax_iconst rfl ?_
    refine ax_goto rfl ?_
    refine ax_zret rfl rfl (by omega) ?_
    first
      | (refine av_rI (b01_t ?_).symm; apply Classical.byContradiction; intro hc; rw [if_neg hc] at hb2; omega)
      | (refine av_rI (b01_f ?_).symm; intro hc; rw [if_pos hc] at hb2; omega)
set_option maxRecDepth 100000 in
set_option maxHeartbeats 800000 in
theorem c_X3_isMadeBy (E : av_E) (d : Nat) (M : av_M) (m set : Int) (hm : 0 ≤ m ∧ m < 120) (hk : 0 ≤ M 23 m ∧ M 23 m < 1024) (hset : 0 ≤ set ∧ set < 1024) : av_Mt E (d) mX3_isMadeBy [vR 18, vI m, vI set] M (av_X (some (vI (b01 (∀ j : Nat, (M 23 m).toNat.testBit j = true → set.toNat.testBit j = true)))) M) := by
  have h0 := made0 hk hset
  have hr := bi_andn_rng hk hset
  refine av_enter hX3_isMadeBy oX3_isMadeBy rfl rfl ?_
  refine ax_aloadn rfl rfl ?_
  refine ax_getR rfl fX3_24 rfl rfl ?_
  refine ax_iloadn rfl rfl ?_
  refine ax_iald rfl rfl (by omega) ?_
  refine ax_iloadn rfl rfl ?_
  refine ax_iconst rfl ?_
  refine ax_ixor rfl ?_
  refine ax_iand rfl ?_
  refine ax_if_ne rfl (by omega) (fun h10 => ?_) (fun h10 => ?_)
  · refine ax_iconst rfl ?_
    refine ax_zret rfl rfl (by omega) ?_
    first
      | exact av_rI (b01_t (h0.mp (by omega))).symm
      | exact av_rI (b01_f (fun q => by have := h0.mpr q; omega)).symm
  · refine ax_iconst rfl ?_
    refine ax_goto rfl ?_
    refine ax_zret rfl rfl (by omega) ?_
    first
      | exact av_rI (b01_t (h0.mp (by omega))).symm
      | exact av_rI (b01_f (fun q => by have := h0.mpr q; omega)).symm
set_option maxRecDepth 100000 in
set_option maxHeartbeats 800000 in
theorem c_X3_isVertex (E : av_E) (d : Nat) (M : av_M) (m set : Int) (hm : 0 ≤ m ∧ m < 120) (hk : 0 ≤ M 23 m ∧ M 23 m < 1024) (hset : 0 ≤ set ∧ set < 1024) (hb : 0 ≤ M 24 m ∧ M 24 m < 1024) : av_Mt E (d + 1) mX3_isVertex [vR 18, vI m, vI set] M (av_X (some (vI (b01 (IV (M 23) (M 24) m set)))) M) := by
  have h0 := both0 hb hset
  have hr := bi_and_rng' hb hset
  have hb1 := b01_rng (∀ j : Nat, (M 23 m).toNat.testBit j = true → set.toNat.testBit j = true)
  refine av_enter hX3_isVertex oX3_isVertex rfl rfl ?_
  refine ax_aloadn rfl rfl ?_
  refine ax_iloadn rfl rfl ?_
  refine ax_iloadn rfl rfl ?_
  refine ax_callV (as := [_, _]) rfl vX3_81 hX3_isMadeBy rfl rfl rfl rfl rfl (c_X3_isMadeBy E d M m set hm hk hset) (av_Xk ?_)
  refine ax_if_eq rfl (by omega) (fun h6 => ?_) (fun h6 => ?_)
  · refine ax_iconst rfl ?_
    refine ax_zret rfl rfl (by omega) ?_
    first
      | exact av_rI (b01_t ⟨b01_ne h6, h0.mp (by omega)⟩).symm
      | exact av_rI (b01_f (fun q => by have := h0.mpr q.2; omega)).symm
      | exact av_rI (b01_f (fun q => b01_eq (by omega) q.1)).symm
  · refine ax_aloadn rfl rfl ?_
    refine ax_getR rfl fX3_27 rfl rfl ?_
    refine ax_iloadn rfl rfl ?_
    refine ax_iald rfl rfl (by omega) ?_
    refine ax_iloadn rfl rfl ?_
    refine ax_iand rfl ?_
    refine ax_if_ne rfl (by omega) (fun h17 => ?_) (fun h17 => ?_)
    · refine ax_iconst rfl ?_
      refine ax_zret rfl rfl (by omega) ?_
      first
        | exact av_rI (b01_t ⟨b01_ne h6, h0.mp (by omega)⟩).symm
        | exact av_rI (b01_f (fun q => by have := h0.mpr q.2; omega)).symm
        | exact av_rI (b01_f (fun q => b01_eq (by omega) q.1)).symm
    · refine ax_iconst rfl ?_
      refine ax_goto rfl ?_
      refine ax_zret rfl rfl (by omega) ?_
      first
        | exact av_rI (b01_t ⟨b01_ne h6, h0.mp (by omega)⟩).symm
        | exact av_rI (b01_f (fun q => by have := h0.mpr q.2; omega)).symm
        | exact av_rI (b01_f (fun q => b01_eq (by omega) q.1)).symm
set_option maxRecDepth 100000 in
set_option maxHeartbeats 800000 in
theorem c_X3_order (E : av_E) (d : Nat) (M : av_M) (m n : Int) (hm : 0 ≤ m ∧ m < 120) (hn : 0 ≤ n ∧ n < 120) (bm : (-50000 ≤ M 19 m ∧ M 19 m ≤ 50000) ∧ (-50000 ≤ M 20 m ∧ M 20 m ≤ 50000) ∧ (-50000 ≤ M 21 m ∧ M 21 m ≤ 50000) ∧ 0 < M 22 m ∧ M 22 m ≤ 5000) (bn : (-50000 ≤ M 19 n ∧ M 19 n ≤ 50000) ∧ (-50000 ≤ M 20 n ∧ M 20 n ≤ 50000) ∧ (-50000 ≤ M 21 n ∧ M 21 n ≤ 50000) ∧ 0 < M 22 n ∧ M 22 n ≤ 5000) : av_Mt E (d + 1) mX3_order [vR 18, vI m, vI n] M (av_X (some (vI (od (M 19 m) (M 20 m) (M 21 m) (M 22 m) (M 19 n) (M 20 n) (M 21 n) (M 22 n)))) M) := by
  have qxmn := mb bm.1 (show -5000 ≤ M 22 n ∧ M 22 n ≤ 5000 by omega)
  have qxnm := mb bn.1 (show -5000 ≤ M 22 m ∧ M 22 m ≤ 5000 by omega)
  have qymn := mb bm.2.1 (show -5000 ≤ M 22 n ∧ M 22 n ≤ 5000 by omega)
  have qynm := mb bn.2.1 (show -5000 ≤ M 22 m ∧ M 22 m ≤ 5000 by omega)
  have qzmn := mb bm.2.2.1 (show -5000 ≤ M 22 n ∧ M 22 n ≤ 5000 by omega)
  have qznm := mb bn.2.2.1 (show -5000 ≤ M 22 m ∧ M 22 m ≤ 5000 by omega)
  have gx := sg_rng (M 19 m * M 22 n) (M 19 n * M 22 m)
  have gy := sg_rng (M 20 m * M 22 n) (M 20 n * M 22 m)
  have gz := sg_rng (M 21 m * M 22 n) (M 21 n * M 22 m)
  refine av_enter hX3_order oX3_order rfl rfl ?_
  refine ax_aloadn rfl rfl ?_
  refine ax_getR rfl fX3_9 rfl rfl ?_
  refine ax_iloadn rfl rfl ?_
  refine ax_iald rfl rfl (by omega) ?_
  refine ax_i2l rfl (by omega) ?_
  refine ax_aloadn rfl rfl ?_
  refine ax_getR rfl fX3_21 rfl rfl ?_
  refine ax_iloadn rfl rfl ?_
  refine ax_iald rfl rfl (by omega) ?_
  refine ax_i2l rfl (by omega) ?_
  refine ax_lmul rfl ?_
  refine ax_aloadn rfl rfl ?_
  refine ax_getR rfl fX3_9 rfl rfl ?_
  refine ax_iloadn rfl rfl ?_
  refine ax_iald rfl rfl (by omega) ?_
  refine ax_i2l rfl (by omega) ?_
  refine ax_aloadn rfl rfl ?_
  refine ax_getR rfl fX3_21 rfl rfl ?_
  refine ax_iloadn rfl rfl ?_
  refine ax_iald rfl rfl (by omega) ?_
  refine ax_i2l rfl (by omega) ?_
  refine ax_lmul rfl ?_
  refine ax_callS (as := [_, _]) rfl sX3_85 hJ13_compare_74951 rfl rfl rfl rfl (c_J_compare E d M _ _ (by omega) (by omega)) (av_Xk ?_)
  refine ax_istoren (ls' := [(0, _), (1, _), (2, _), (3, _)]) rfl rfl rfl ?_
  refine ax_iloadn rfl rfl ?_
  refine ax_if_eq rfl (by omega) (fun h35 => ?_) (fun h35 => ?_)
  · refine ax_aloadn rfl rfl ?_
    refine ax_getR rfl fX3_15 rfl rfl ?_
    refine ax_iloadn rfl rfl ?_
    refine ax_iald rfl rfl (by omega) ?_
    refine ax_i2l rfl (by omega) ?_
    refine ax_aloadn rfl rfl ?_
    refine ax_getR rfl fX3_21 rfl rfl ?_
    refine ax_iloadn rfl rfl ?_
    refine ax_iald rfl rfl (by omega) ?_
    refine ax_i2l rfl (by omega) ?_
    refine ax_lmul rfl ?_
    refine ax_aloadn rfl rfl ?_
    refine ax_getR rfl fX3_15 rfl rfl ?_
    refine ax_iloadn rfl rfl ?_
    refine ax_iald rfl rfl (by omega) ?_
    refine ax_i2l rfl (by omega) ?_
    refine ax_aloadn rfl rfl ?_
    refine ax_getR rfl fX3_21 rfl rfl ?_
    refine ax_iloadn rfl rfl ?_
    refine ax_iald rfl rfl (by omega) ?_
    refine ax_i2l rfl (by omega) ?_
    refine ax_lmul rfl ?_
    refine ax_callS (as := [_, _]) rfl sX3_85 hJ13_compare_74951 rfl rfl rfl rfl (c_J_compare E d M _ _ (by omega) (by omega)) (av_Xk ?_)
    refine ax_istore (ls' := [(0, _), (1, _), (2, _), (3, _), (4, _)]) rfl rfl rfl ?_
    refine ax_iload rfl rfl ?_
    refine ax_if_eq rfl (by omega) (fun h77 => ?_) (fun h77 => ?_)
    · refine ax_aloadn rfl rfl ?_
      refine ax_getR rfl fX3_18 rfl rfl ?_
      refine ax_iloadn rfl rfl ?_
      refine ax_iald rfl rfl (by omega) ?_
      refine ax_i2l rfl (by omega) ?_
      refine ax_aloadn rfl rfl ?_
      refine ax_getR rfl fX3_21 rfl rfl ?_
      refine ax_iloadn rfl rfl ?_
      refine ax_iald rfl rfl (by omega) ?_
      refine ax_i2l rfl (by omega) ?_
      refine ax_lmul rfl ?_
      refine ax_aloadn rfl rfl ?_
      refine ax_getR rfl fX3_18 rfl rfl ?_
      refine ax_iloadn rfl rfl ?_
      refine ax_iald rfl rfl (by omega) ?_
      refine ax_i2l rfl (by omega) ?_
      refine ax_aloadn rfl rfl ?_
      refine ax_getR rfl fX3_21 rfl rfl ?_
      refine ax_iloadn rfl rfl ?_
      refine ax_iald rfl rfl (by omega) ?_
      refine ax_i2l rfl (by omega) ?_
      refine ax_lmul rfl ?_
      refine ax_callS (as := [_, _]) rfl sX3_85 hJ13_compare_74951 rfl rfl rfl rfl (c_J_compare E d M _ _ (by omega) (by omega)) (av_Xk ?_)
      refine ax_iret rfl rfl ?_
      exact av_rI (by unfold od; (repeat' split) <;> omega)
    · refine ax_iload rfl rfl ?_
      refine ax_goto rfl ?_
      refine ax_iret rfl rfl ?_
      exact av_rI (by unfold od; (repeat' split) <;> omega)
  · refine ax_iloadn rfl rfl ?_
    refine ax_iret rfl rfl ?_
    exact av_rI (by unfold od; (repeat' split) <;> omega)
set_option maxRecDepth 100000 in
set_option maxHeartbeats 800000 in
theorem l_X3_isEndless (E : av_E) (d : Nat) (M : av_M) (set : Int) (hset : 0 ≤ set ∧ set < 1024) (hz : 0 ≤ M 18 9 ∧ M 18 9 ≤ 90) (hb : ∀ r, 0 ≤ r → r < M 18 9 → 0 ≤ M 26 r ∧ M 26 r < 1024) : ∀ (t : Nat) (i : Int), i + t = M 18 9 → 0 ≤ i → (∀ r, 0 ≤ r → r < i → ¬ ∀ j : Nat, ¬ ((M 26 r).toNat.testBit j = true ∧ set.toNat.testBit j = true)) → av_S E d mX3_isEndless 2 [(0, vR 18), (1, vI set), (2, vI i)] [] M (av_X (some (vI (b01 (IE (M 26) (M 18 9) set)))) M) := by
  intro t
  induction t with
  | zero =>
    intro i hi i0 hno
    refine ax_iloadn rfl rfl ?_
    refine ax_aloadn rfl rfl ?_
    refine ax_getI (g := 9) rfl fX3_40 rfl rfl rfl rfl ?_
    refine ax_icmp_ge rfl (by omega) (by omega) (fun h7 => ?_) (fun h7 => ?_)
    · refine ax_iconst rfl ?_
      refine ax_zret rfl rfl (by omega) ?_
      exact av_rI (b01_f (fun ⟨r, r0, r1, q⟩ => hno r r0 (by omega) q)).symm
    · omega
  | succ t ih =>
    intro i hi i0 hno
    have bb := hb i i0 (by omega)
    have h0 := both0 bb hset
    have hr := bi_and_rng' bb hset
    refine ax_iloadn rfl rfl ?_
    refine ax_aloadn rfl rfl ?_
    refine ax_getI (g := 9) rfl fX3_40 rfl rfl rfl rfl ?_
    refine ax_icmp_ge rfl (by omega) (by omega) (fun h7 => ?_) (fun h7 => ?_)
    · omega
    · refine ax_aloadn rfl rfl ?_
      refine ax_getR rfl fX3_33 rfl rfl ?_
      refine ax_iloadn rfl rfl ?_
      refine ax_iald rfl rfl (by omega) ?_
      refine ax_iloadn rfl rfl ?_
      refine ax_iand rfl ?_
      refine ax_if_ne rfl (by omega) (fun h18 => ?_) (fun h18 => ?_)
      · refine ax_iinc (ls' := [(0, _), (1, _), (2, _)]) rfl rfl rfl rfl ?_
        refine ax_goto rfl ?_
        refine ih _ (by omega) (by omega) (fun r r0 r1 q => ?_)
        by_cases hri : r = i
        · subst hri; have := h0.mpr q; omega
        · exact hno r r0 (by omega) q
      · refine ax_iconst rfl ?_
        refine ax_zret rfl rfl (by omega) ?_
        exact av_rI (b01_t ⟨i, i0, by omega, h0.mp (by omega)⟩).symm
set_option maxRecDepth 100000 in
set_option maxHeartbeats 800000 in
theorem c_X3_isEndless (E : av_E) (d : Nat) (M : av_M) (set : Int) (hset : 0 ≤ set ∧ set < 1024) (hz : 0 ≤ M 18 9 ∧ M 18 9 ≤ 90) (hb : ∀ r, 0 ≤ r → r < M 18 9 → 0 ≤ M 26 r ∧ M 26 r < 1024) : av_Mt E d mX3_isEndless [vR 18, vI set] M (av_X (some (vI (b01 (IE (M 26) (M 18 9) set)))) M) := by
  refine av_enter hX3_isEndless oX3_isEndless rfl rfl ?_
  refine ax_iconst rfl ?_
  refine ax_istoren (ls' := [(0, _), (1, _), (2, _)]) rfl rfl rfl ?_
  exact l_X3_isEndless E d M set hset hz hb (M 18 9).toNat 0 (by omega) (by omega) (fun r r0 r1 => by omega)
