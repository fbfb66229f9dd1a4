/-! ===== what is asked of the body ===== -/
theorem div_eq' {a b t : Rat} (hb : 0 < b) (h : a = t * b) : a / b = t := by
  have : a / b * b = t * b := by rw [Rat.div_mul_cancel (by grind)]; exact h
  have h2 : (a / b - t) * b = 0 := by grind
  have h3 : b * (a / b - t) = 0 := by grind
  have := r_zero (by grind) h3
  grind
def vp (M : av_M) (j : Int) : p3 := pm M (M 27 j)
def tq (M : av_M) (j : Int) : Int := bi_and (M 25 (M 27 j)) (M 13 5)
theorem BI_v {M : av_M} (hB : BI M) {j : Int} (h : 0 ≤ j ∧ j < M 12 4) : 0 ≤ M 27 j ∧ M 27 j < M 18 8 ∧ M 18 8 ≤ 120 := ⟨(hB.2.2.1.2.1 j h.1 h.2).1, (hB.2.2.1.2.1 j h.1 h.2).2, hB.2.1.2.2.1⟩
theorem BI_on {M : av_M} (hB : BI M) : 0 ≤ M 13 5 ∧ M 13 5 < 1024 := ⟨hB.1.2.2.2.1, hB.1.2.2.2.2.1⟩
theorem BI_r {M : av_M} (hB : BI M) {j : Int} (h : 0 ≤ j ∧ j < M 12 4) : (-50000 ≤ M 19 (M 27 j) ∧ M 19 (M 27 j) ≤ 50000) ∧ (-50000 ≤ M 20 (M 27 j) ∧ M 20 (M 27 j) ≤ 50000) ∧ (-50000 ≤ M 21 (M 27 j) ∧ M 21 (M 27 j) ≤ 50000) ∧ 0 < M 22 (M 27 j) ∧ M 22 (M 27 j) ≤ 5000 :=
  MTI_rng hB.2.1.1 _ (BI_v hB h).1 (BI_v hB h).2.1
theorem BI_t {M : av_M} (hB : BI M) {j : Int} (h : 0 ≤ j ∧ j < M 12 4) : 0 ≤ M 25 (M 27 j) ∧ M 25 (M 27 j) < 1024 := (MTI_bits hB.2.1.1 (BI_v hB h).1 (BI_v hB h).2.1).2.2
theorem tq_rng {M : av_M} (hB : BI M) {j : Int} (h : 0 ≤ j ∧ j < M 12 4) : 0 ≤ tq M j ∧ tq M j < 1024 := ⟨(bi_and_rng' (BI_t hB h) (BI_on hB)).1, (bi_and_rng' (BI_t hB h) (BI_on hB)).2.1⟩
theorem tq_bit {M : av_M} (hB : BI M) {j : Int} (h : 0 ≤ j ∧ j < M 12 4) (t : Nat) : (tq M j).toNat.testBit t = true ↔ (Sg (M 13 5) t ∧ TI (WM M) t (vp M j)) := by
  have v := BI_v hB h
  obtain ⟨a, b, c, hA⟩ := hB.2.1.1.2.1 _ v.1 v.2.1
  have hw := hA.2.2.1.2.2.2.1
  have hto := hA.2.2.2.2.2.2
  unfold tq
  rw [(bi_and_rng' (BI_t hB h) (BI_on hB)).2.2 t, Bool.and_eq_true, hto.2.2 t]
  have e := ex_zero (A := M 14) (B := M 15) (C := M 16) (D := M 17) (n := t) (x := M 19 (M 27 j)) (y := M 20 (M 27 j)) (z := M 21 (M 27 j)) hw
  constructor
  · rintro ⟨⟨-, q⟩, r⟩; exact ⟨r, e.mp q⟩
  · rintro ⟨r, q⟩; exact ⟨⟨hB.1.2.2.2.2.2 t r, e.mpr q⟩, r⟩
def Rm (M : av_M) (i j : Int) : Prop := ∀ k, 0 ≤ k → k < M 12 4 → k ≠ i → k ≠ j → ¬ ∀ t : Nat, (Sg (M 13 5) t ∧ TI (WM M) t (vp M i) ∧ TI (WM M) t (vp M j)) → TI (WM M) t (vp M k)
theorem com_rng {M : av_M} (hB : BI M) {i j : Int} (hi : 0 ≤ i ∧ i < M 12 4) (hj : 0 ≤ j ∧ j < M 12 4) : (0 ≤ bi_and (tq M i) (tq M j) ∧ bi_and (tq M i) (tq M j) < 1024) ∧ ∀ t : Nat, (bi_and (tq M i) (tq M j)).toNat.testBit t = true ↔ (Sg (M 13 5) t ∧ TI (WM M) t (vp M i) ∧ TI (WM M) t (vp M j)) := by
  have r := bi_and_rng' (tq_rng hB hi) (tq_rng hB hj)
  refine ⟨⟨r.1, r.2.1⟩, fun t => ?_⟩
  rw [r.2.2 t, Bool.and_eq_true, tq_bit hB hi, tq_bit hB hj]
  constructor
  · rintro ⟨⟨a, b⟩, ⟨_, c⟩⟩; exact ⟨a, b, c⟩
  · rintro ⟨a, b, c⟩; exact ⟨⟨a, b⟩, ⟨a, c⟩⟩
theorem rim0 {M : av_M} (hB : BI M) {i j k : Int} (hi : 0 ≤ i ∧ i < M 12 4) (hj : 0 ≤ j ∧ j < M 12 4) (hk : 0 ≤ k ∧ k < M 12 4) : bi_and (bi_and (tq M i) (tq M j)) (bi_xor (tq M k) (-1)) = 0 ↔ ∀ t : Nat, (Sg (M 13 5) t ∧ TI (WM M) t (vp M i) ∧ TI (WM M) t (vp M j)) → TI (WM M) t (vp M k) := by
  have c := com_rng hB hi hj
  rw [made0 c.1 (tq_rng hB hk)]
  constructor
  · intro h t ht; exact ((tq_bit hB hk t).mp (h t ((c.2 t).mpr ht))).2
  · intro h t ht
    have := (c.2 t).mp ht
    exact (tq_bit hB hk t).mpr ⟨this.1, h t this⟩
noncomputable def rmG (M : av_M) (i : Int) : Int → Int := fun q => b01 (Rm M i (i + 1 + q))
noncomputable def rmF (M : av_M) : Int → Int := fun i => isum (rmG M i) (M 12 4 - i - 1).toNat
def oth (M : av_M) (w : Int) : Int := bi_and (M 13 5) (bi_xor (bi_shl 1 w) (-1))
def Idl (M : av_M) (w : Int) : Prop := (M 13 5).toNat.testBit w.toNat = true ∧ ¬ IE (M 26) (M 18 9) (oth M w) ∧ ∀ m, 0 ≤ m → m < M 18 8 → IV (M 23) (M 24) m (oth M w) → ¬ (M 24 m).toNat.testBit w.toNat = true
theorem oth_rng {M : av_M} (hB : BI M) {w : Int} (hw : 0 ≤ w ∧ w < 10) : (0 ≤ oth M w ∧ oth M w < 1024) ∧ ∀ j : Nat, (oth M w).toNat.testBit j = ((M 13 5).toNat.testBit j && !decide ((j : Int) = w)) := by
  obtain ⟨r, e, r0, r1, hr⟩ := bit_clr (BI_on hB).1 (BI_on hB).2 hw
  unfold oth
  rw [e]
  exact ⟨⟨r0, r1⟩, hr⟩
def ov (M : av_M) (v p q s : Int) : Int := p * M 19 (M 27 v) + q * M 20 (M 27 v) + s * M 21 (M 27 v)
theorem ov_rng {M : av_M} (hB : BI M) {v p q s : Int} (hv : 0 ≤ v ∧ v < M 12 4) (hp : -99 ≤ p ∧ p ≤ 99) (hq : -99 ≤ q ∧ q ≤ 99) (hs : -99 ≤ s ∧ s ≤ 99) : -15000000 ≤ ov M v p q s ∧ ov M v p q s ≤ 15000000 := by
  have b := BI_r hB hv
  have m1 := mb hp b.1
  have m2 := mb hq b.2.1
  have m3 := mb hs b.2.2.1
  unfold ov; omega
theorem ov_dt {M : av_M} {v p q s : Int} (hw : 0 < M 22 (M 27 v)) : ((ov M v p q s : Int) : Rat) / ((M 22 (M 27 v) : Int) : Rat) = dt (((p : Int) : Rat), ((q : Int) : Rat), ((s : Int) : Rat)) (vp M v) := by
  have pw := c_pos hw
  have e1 := q_mul (x := M 19 (M 27 v)) hw
  have e2 := q_mul (x := M 20 (M 27 v)) hw
  have e3 := q_mul (x := M 21 (M 27 v)) hw
  unfold ov dt vp pm P3
  show _ = (p : Rat) * ((M 19 (M 27 v) : Rat) / (M 22 (M 27 v) : Rat)) + (q : Rat) * ((M 20 (M 27 v) : Rat) / (M 22 (M 27 v) : Rat)) + (s : Rat) * ((M 21 (M 27 v) : Rat) / (M 22 (M 27 v) : Rat))
  refine div_eq' pw ?_
  generalize (M 19 (M 27 v) : Rat) / (M 22 (M 27 v) : Rat) = x at *
  generalize (M 20 (M 27 v) : Rat) / (M 22 (M 27 v) : Rat) = y at *
  generalize (M 21 (M 27 v) : Rat) / (M 22 (M 27 v) : Rat) = z at *
  push_cast
  rw [← e1, ← e2, ← e3]; grind
/-- the first of the places at which it is most -/
def BF (n : Int) (val : Int → Rat) (b : Int) : Prop := 0 ≤ b ∧ b < n ∧ (∀ j, 0 ≤ j → j < n → val j ≤ val b) ∧ ∀ j, 0 ≤ j → j < b → val j < val b
theorem BF_un {n : Int} {val : Int → Rat} {b b' : Int} (h : BF n val b) (h' : BF n val b') : b = b' := by
  rcases Int.lt_trichotomy b b' with c | c | c
  · have a1 := h'.2.2.2 b h.1 c
    have a2 := h.2.2.1 b' h'.1 h'.2.1
    grind
  · exact c
  · have a1 := h.2.2.2 b' h'.1 c
    have a2 := h'.2.2.1 b h.1 h.2.1
    grind
set_option maxRecDepth 100000 in
set_option maxHeartbeats 800000 in
theorem c_X0_walls (E : av_E) (d : Nat) (M : av_M) : av_Mt E d mX0_walls [vR 12] M (av_X (some (vR 13)) M) := by
  refine av_enter hX0_walls oX0_walls rfl rfl ?_
  refine ax_aloadn rfl rfl ?_
  refine ax_getR rfl fX0_12 rfl rfl ?_
  refine ax_aret rfl rfl ?_
  exact ⟨rfl, rfl⟩
set_option maxRecDepth 100000 in
set_option maxHeartbeats 800000 in
theorem c_X0_meets (E : av_E) (d : Nat) (M : av_M) : av_Mt E d mX0_meets [vR 12] M (av_X (some (vR 18)) M) := by
  refine av_enter hX0_meets oX0_meets rfl rfl ?_
  refine ax_aloadn rfl rfl ?_
  refine ax_getR rfl fX0_21 rfl rfl ?_
  refine ax_aret rfl rfl ?_
  exact ⟨rfl, rfl⟩
set_option maxRecDepth 100000 in
set_option maxHeartbeats 800000 in
theorem c_X0_outline (E : av_E) (d : Nat) (M : av_M) : av_Mt E d mX0_outline [vR 12] M (av_X (some (vR 28)) M) := by
  refine av_enter hX0_outline oX0_outline rfl rfl ?_
  refine ax_aloadn rfl rfl ?_
  refine ax_getR rfl fX0_34 rfl rfl ?_
  refine ax_aret rfl rfl ?_
  exact ⟨rfl, rfl⟩
set_option maxRecDepth 100000 in
set_option maxHeartbeats 800000 in
theorem c_X0_size (E : av_E) (d : Nat) (M : av_M)  : av_Mt E (d) mX0_size [vR 12] M (av_X (some (vI (M 12 4))) M) := by
  refine av_enter hX0_size oX0_size rfl rfl ?_
  refine ax_aloadn rfl rfl ?_
  refine ax_getI (g := 4) rfl fX0_38 rfl rfl rfl rfl ?_
  refine ax_iret rfl rfl ?_
  exact av_rI rfl
set_option maxRecDepth 100000 in
set_option maxHeartbeats 800000 in
theorem c_X0_isSound (E : av_E) (d : Nat) (M : av_M) (h : M 12 5 = 0 ∨ M 12 5 = 1) : av_Mt E (d) mX0_isSound [vR 12] M (av_X (some (vI (M 12 5))) M) := by
  refine av_enter hX0_isSound oX0_isSound rfl rfl ?_
  refine ax_aloadn rfl rfl ?_
  refine ax_getI (g := 5) rfl fX0_42 rfl rfl rfl rfl ?_
  refine ax_zret rfl rfl (by omega) ?_
  exact av_rI rfl
set_option maxRecDepth 100000 in
set_option maxHeartbeats 800000 in
theorem c_X0_has (E : av_E) (d : Nat) (M : av_M) (v : Int) (hv : -2147483648 ≤ v ∧ v < 2147483648) (hs : 0 ≤ M 12 4 ∧ M 12 4 ≤ 120) : av_Mt E (d) mX0_has [vR 12, vI v] M (av_X (some (vI (b01 (0 ≤ v ∧ v < M 12 4)))) M) := by
  refine av_enter hX0_has oX0_has rfl rfl ?_
  refine ax_iloadn rfl rfl ?_
  refine ax_if_lt rfl (by omega) (fun h1 => ?_) (fun h1 => ?_)
  · refine ax_iconst rfl ?_
    refine ax_zret rfl rfl (by omega) ?_
    first | exact av_rI (b01_t (by omega)).symm | exact av_rI (b01_f (by omega)).symm
  · refine ax_iloadn rfl rfl ?_
    refine ax_aloadn rfl rfl ?_
    refine ax_getI (g := 4) rfl fX0_38 rfl rfl rfl rfl ?_
    refine ax_icmp_ge rfl (by omega) (by omega) (fun h9 => ?_) (fun h9 => ?_)
    · refine ax_iconst rfl ?_
      refine ax_zret rfl rfl (by omega) ?_
      first | exact av_rI (b01_t (by omega)).symm | exact av_rI (b01_f (by omega)).symm
    · refine ax_iconst rfl ?_
      refine ax_goto rfl ?_
      refine ax_zret rfl rfl (by omega) ?_
      first | exact av_rI (b01_t (by omega)).symm | exact av_rI (b01_f (by omega)).symm
set_option maxRecDepth 100000 in
set_option maxHeartbeats 800000 in
theorem c_X0_tightAt (E : av_E) (d : Nat) (M : av_M) (hB : BI M) (v : Int) (hv : 0 ≤ v ∧ v < M 12 4) : av_Mt E (d + 1) mX0_tightAt [vR 12, vI v] M (av_X (some (vI (tq M v))) M) := by
  have hb := BI_v hB hv
  have hn := hB.2.2.2.1
  refine av_enter hX0_tightAt oX0_tightAt rfl rfl ?_
  refine ax_aloadn rfl rfl ?_
  refine ax_getR rfl fX0_21 rfl rfl ?_
  refine ax_aloadn rfl rfl ?_
  refine ax_getR rfl fX0_25 rfl rfl ?_
  refine ax_iloadn rfl rfl ?_
  refine ax_iald rfl rfl (by omega) ?_
  refine ax_callV (as := [_]) rfl vX0_111 hX3_touchersOf rfl rfl rfl rfl rfl (c_X3_touchersOf E d M _ (by omega)) (av_Xk ?_)
  refine ax_aloadn rfl rfl ?_
  refine ax_getR rfl fX0_12 rfl rfl ?_
  refine ax_callV (as := []) rfl vX0_68 hX6_onSet rfl rfl rfl rfl rfl (c_X6_onSet E d M) (av_Xk ?_)
  refine ax_iand rfl ?_
  refine ax_iret rfl rfl ?_
  exact av_rI rfl
set_option maxRecDepth 100000 in
set_option maxHeartbeats 800000 in
theorem c_X0_over (E : av_E) (d : Nat) (M : av_M) (hB : BI M) (v p q s : Int) (hv : 0 ≤ v ∧ v < M 12 4) : av_Mt E (d + 1) mX0_over [vR 12, vI v, vI p, vI q, vI s] M (av_X (some (vI (ov M v p q s))) M) := by
  have hb := BI_v hB hv
  have hn := hB.2.2.2.1
  refine av_enter hX0_over oX0_over rfl rfl ?_
  refine ax_aloadn rfl rfl ?_
  refine ax_getR rfl fX0_25 rfl rfl ?_
  refine ax_iloadn rfl rfl ?_
  refine ax_iald rfl rfl (by omega) ?_
  refine ax_istore (ls' := [(0, _), (1, _), (2, _), (3, _), (4, _), (5, _)]) rfl rfl rfl ?_
  refine ax_iloadn rfl rfl ?_
  refine ax_aloadn rfl rfl ?_
  refine ax_getR rfl fX0_21 rfl rfl ?_
  refine ax_iload rfl rfl ?_
  refine ax_callV (as := [_]) rfl vX0_85 hX3_xOf rfl rfl rfl rfl rfl (c_X3_xOf E d M _ (by omega)) (av_Xk ?_)
  refine ax_imul rfl ?_
  refine ax_iloadn rfl rfl ?_
  refine ax_aloadn rfl rfl ?_
  refine ax_getR rfl fX0_21 rfl rfl ?_
  refine ax_iload rfl rfl ?_
  refine ax_callV (as := [_]) rfl vX0_89 hX3_yOf rfl rfl rfl rfl rfl (c_X3_yOf E d M _ (by omega)) (av_Xk ?_)
  refine ax_imul rfl ?_
  refine ax_iadd rfl ?_
  refine ax_iload rfl rfl ?_
  refine ax_aloadn rfl rfl ?_
  refine ax_getR rfl fX0_21 rfl rfl ?_
  refine ax_iload rfl rfl ?_
  refine ax_callV (as := [_]) rfl vX0_104 hX3_zOf rfl rfl rfl rfl rfl (c_X3_zOf E d M _ (by omega)) (av_Xk ?_)
  refine ax_imul rfl ?_
  refine ax_iadd rfl ?_
  refine ax_iret rfl rfl ?_
  exact av_rI rfl
set_option maxRecDepth 100000 in
set_option maxHeartbeats 800000 in
theorem c_X0_valueAt (E : av_E) (d : Nat) (M : av_M) (hB : BI M) (v p q s u : Int) (hv : 0 ≤ v ∧ v < M 12 4) (hp : -99 ≤ p ∧ p ≤ 99) (hq : -99 ≤ q ∧ q ≤ 99) (hs : -99 ≤ s ∧ s ≤ 99) (hu : -2147483648 ≤ u ∧ u < 2147483648) : av_Mt E (d + 3) mX0_valueAt [vR 12, vI v, vI p, vI q, vI s, vI u] M (av_X (some (vL (tl (dt ((p : Rat), (q : Rat), (s : Rat)) (vp M v)) u))) M) := by
  have hb := BI_v hB hv
  have hn := hB.2.2.2.1
  have hr := BI_r hB hv
  have ho := ov_rng hB hv hp hq hs
  refine av_enter hX0_valueAt oX0_valueAt rfl rfl ?_
  refine ax_aloadn rfl rfl ?_
  refine ax_iloadn rfl rfl ?_
  refine ax_iloadn rfl rfl ?_
  refine ax_iloadn rfl rfl ?_
  refine ax_iload rfl rfl ?_
  refine ax_callV (as := [_, _, _, _]) rfl vX0_126 hX0_over rfl rfl rfl rfl rfl (c_X0_over E (d + 1) M hB v p q s hv) (av_Xk ?_)
  refine ax_i2l rfl (by omega) ?_
  refine ax_aloadn rfl rfl ?_
  refine ax_getR rfl fX0_21 rfl rfl ?_
  refine ax_aloadn rfl rfl ?_
  refine ax_getR rfl fX0_25 rfl rfl ?_
  refine ax_iloadn rfl rfl ?_
  refine ax_iald rfl rfl (by omega) ?_
  refine ax_callV (as := [_]) rfl vX0_92 hX3_wOf rfl rfl rfl rfl rfl (c_X3_wOf E (d + 2) M _ (by omega)) (av_Xk ?_)
  refine ax_i2l rfl (by omega) ?_
  refine ax_iload rfl rfl ?_
  refine ax_callS (as := [_, _, _]) rfl sX0_107 hX7_told rfl rfl rfl rfl (c_G_told E d M _ _ u (by omega) (by omega) hu) (av_Xk ?_)
  refine ax_lret rfl rfl ?_
  exact av_rL (by rw [ov_dt hr.2.2.2.1])
set_option maxRecDepth 100000 in
set_option maxHeartbeats 800000 in
theorem c_X0_coordinate (E : av_E) (d : Nat) (M : av_M) (hB : BI M) (v k u : Int) (hv : 0 ≤ v ∧ v < M 12 4) (hk : 0 ≤ k ∧ k ≤ 2) (hu : -2147483648 ≤ u ∧ u < 2147483648) : av_Mt E (d + 3) mX0_coordinate [vR 12, vI v, vI k, vI u] M (av_X (some (vL (tl (if k = 0 then (vp M v).1 else if k = 1 then (vp M v).2.1 else (vp M v).2.2) u))) M) := by
  have hb := BI_v hB hv
  have hn := hB.2.2.2.1
  have hr := BI_r hB hv
  refine av_enter hX0_coordinate oX0_coordinate rfl rfl ?_
  refine ax_aloadn rfl rfl ?_
  refine ax_getR rfl fX0_25 rfl rfl ?_
  refine ax_iloadn rfl rfl ?_
  refine ax_iald rfl rfl (by omega) ?_
  refine ax_istore (ls' := [(0, _), (1, _), (2, _), (3, _), (4, _)]) rfl rfl rfl ?_
  refine ax_iloadn rfl rfl ?_
  refine ax_if_ne rfl (by omega) (fun h9 => ?_) (fun h9 => ?_)
  · refine ax_iloadn rfl rfl ?_
    refine ax_iconst rfl ?_
    refine ax_icmp_ne rfl (by omega) (by omega) (fun h26 => ?_) (fun h26 => ?_)
    · refine ax_aloadn rfl rfl ?_
      refine ax_getR rfl fX0_21 rfl rfl ?_
      refine ax_iload rfl rfl ?_
      refine ax_callV (as := [_]) rfl vX0_104 hX3_zOf rfl rfl rfl rfl rfl (c_X3_zOf E (d + 2) M _ (by omega)) (av_Xk ?_)
      refine ax_istore (ls' := [(0, _), (1, _), (2, _), (3, _), (4, _), (5, _)]) rfl rfl rfl ?_
      refine ax_iload rfl rfl ?_
      refine ax_i2l rfl (by omega) ?_
      refine ax_aloadn rfl rfl ?_
      refine ax_getR rfl fX0_21 rfl rfl ?_
      refine ax_iload rfl rfl ?_
      refine ax_callV (as := [_]) rfl vX0_92 hX3_wOf rfl rfl rfl rfl rfl (c_X3_wOf E (d + 2) M _ (by omega)) (av_Xk ?_)
      refine ax_i2l rfl (by omega) ?_
      refine ax_iloadn rfl rfl ?_
      refine ax_callS (as := [_, _, _]) rfl sX0_107 hX7_told rfl rfl rfl rfl (c_G_told E d M _ _ u (by omega) (by omega) hu) (av_Xk ?_)
      refine ax_lret rfl rfl ?_
      first
        | (refine av_rL ?_; rw [if_pos (by omega)]; rfl)
        | (refine av_rL ?_; rw [if_neg (by omega), if_pos (by omega)]; rfl)
        | (refine av_rL ?_; rw [if_neg (by omega), if_neg (by omega)]; rfl)
    · refine ax_aloadn rfl rfl ?_
      refine ax_getR rfl fX0_21 rfl rfl ?_
      refine ax_iload rfl rfl ?_
      refine ax_callV (as := [_]) rfl vX0_89 hX3_yOf rfl rfl rfl rfl rfl (c_X3_yOf E (d + 2) M _ (by omega)) (av_Xk ?_)
      refine ax_goto rfl ?_
      refine ax_istore (ls' := [(0, _), (1, _), (2, _), (3, _), (4, _), (5, _)]) rfl rfl rfl ?_
      refine ax_iload rfl rfl ?_
      refine ax_i2l rfl (by omega) ?_
      refine ax_aloadn rfl rfl ?_
      refine ax_getR rfl fX0_21 rfl rfl ?_
      refine ax_iload rfl rfl ?_
      refine ax_callV (as := [_]) rfl vX0_92 hX3_wOf rfl rfl rfl rfl rfl (c_X3_wOf E (d + 2) M _ (by omega)) (av_Xk ?_)
      refine ax_i2l rfl (by omega) ?_
      refine ax_iloadn rfl rfl ?_
      refine ax_callS (as := [_, _, _]) rfl sX0_107 hX7_told rfl rfl rfl rfl (c_G_told E d M _ _ u (by omega) (by omega) hu) (av_Xk ?_)
      refine ax_lret rfl rfl ?_
      first
        | (refine av_rL ?_; rw [if_pos (by omega)]; rfl)
        | (refine av_rL ?_; rw [if_neg (by omega), if_pos (by omega)]; rfl)
        | (refine av_rL ?_; rw [if_neg (by omega), if_neg (by omega)]; rfl)
  · refine ax_aloadn rfl rfl ?_
    refine ax_getR rfl fX0_21 rfl rfl ?_
    refine ax_iload rfl rfl ?_
    refine ax_callV (as := [_]) rfl vX0_85 hX3_xOf rfl rfl rfl rfl rfl (c_X3_xOf E (d + 2) M _ (by omega)) (av_Xk ?_)
    refine ax_goto rfl ?_
    refine ax_istore (ls' := [(0, _), (1, _), (2, _), (3, _), (4, _), (5, _)]) rfl rfl rfl ?_
    refine ax_iload rfl rfl ?_
    refine ax_i2l rfl (by omega) ?_
    refine ax_aloadn rfl rfl ?_
    refine ax_getR rfl fX0_21 rfl rfl ?_
    refine ax_iload rfl rfl ?_
    refine ax_callV (as := [_]) rfl vX0_92 hX3_wOf rfl rfl rfl rfl rfl (c_X3_wOf E (d + 2) M _ (by omega)) (av_Xk ?_)
    refine ax_i2l rfl (by omega) ?_
    refine ax_iloadn rfl rfl ?_
    refine ax_callS (as := [_, _, _]) rfl sX0_107 hX7_told rfl rfl rfl rfl (c_G_told E d M _ _ u (by omega) (by omega) hu) (av_Xk ?_)
    refine ax_lret rfl rfl ?_
    first
      | (refine av_rL ?_; rw [if_pos (by omega)]; rfl)
      | (refine av_rL ?_; rw [if_neg (by omega), if_pos (by omega)]; rfl)
      | (refine av_rL ?_; rw [if_neg (by omega), if_neg (by omega)]; rfl)
set_option maxRecDepth 100000 in
set_option maxHeartbeats 800000 in
theorem l_X0_isRim (E : av_E) (d : Nat) (M : av_M) (hB : BI M) (i j : Int) (hi : 0 ≤ i ∧ i < M 12 4) (hj : 0 ≤ j ∧ j < M 12 4) : ∀ (t : Nat) (k : Int), k + t = M 12 4 → 0 ≤ k → (∀ k', 0 ≤ k' → k' < k → k' ≠ i → k' ≠ j → ¬ ∀ t : Nat, (Sg (M 13 5) t ∧ TI (WM M) t (vp M i) ∧ TI (WM M) t (vp M j)) → TI (WM M) t (vp M k')) → av_S E (d + 2) mX0_isRim 15 [(0, vR 12), (1, vI i), (2, vI j), (3, vI (bi_and (tq M i) (tq M j))), (4, vI k)] [] M (av_X (some (vI (b01 (Rm M i j)))) M) := by
  have hn := hB.2.2.2.1
  intro t
  induction t with
  | zero =>
    intro k hk k0 hno
    refine ax_iload rfl rfl ?_
    refine ax_aloadn rfl rfl ?_
    refine ax_getI (g := 4) rfl fX0_38 rfl rfl rfl rfl ?_
    refine ax_icmp_ge rfl (by omega) (by omega) (fun h21 => ?_) (fun h21 => ?_)
    · refine ax_iconst rfl ?_
      refine ax_zret rfl rfl (by omega) ?_
      exact av_rI (b01_t (fun k' a b => hno k' a (by omega))).symm
    · omega
  | succ t ih =>
    intro k hk k0 hno
    have h0 := rim0 hB hi hj (k := k) (by omega)
    have hr := bi_andn_rng (com_rng hB hi hj).1 (tq_rng hB (j := k) (by omega))
    refine ax_iload rfl rfl ?_
    refine ax_aloadn rfl rfl ?_
    refine ax_getI (g := 4) rfl fX0_38 rfl rfl rfl rfl ?_
    refine ax_icmp_ge rfl (by omega) (by omega) (fun h21 => ?_) (fun h21 => ?_)
    · omega
    · refine ax_iload rfl rfl ?_
      refine ax_iloadn rfl rfl ?_
      refine ax_icmp_eq rfl (by omega) (by omega) (fun h27 => ?_) (fun h27 => ?_)
      · refine ax_iinc (ls' := [(0, _), (1, _), (2, _), (3, _), (4, _)]) rfl rfl rfl rfl ?_
        refine ax_goto rfl ?_
        refine ih _ (by omega) (by omega) (fun k' a b c e => ?_)
        by_cases hkk : k' = k
        · subst hkk
          first
            | omega
            | exact fun q => by have := h0.mpr q; omega
        · exact hno k' a (by omega) c e
      · refine ax_iload rfl rfl ?_
        refine ax_iloadn rfl rfl ?_
        refine ax_icmp_eq rfl (by omega) (by omega) (fun h33 => ?_) (fun h33 => ?_)
        · refine ax_iinc (ls' := [(0, _), (1, _), (2, _), (3, _), (4, _)]) rfl rfl rfl rfl ?_
          refine ax_goto rfl ?_
          refine ih _ (by omega) (by omega) (fun k' a b c e => ?_)
          by_cases hkk : k' = k
          · subst hkk
            first
              | omega
              | exact fun q => by have := h0.mpr q; omega
          · exact hno k' a (by omega) c e
        · refine ax_iloadn rfl rfl ?_
          refine ax_aloadn rfl rfl ?_
          refine ax_iload rfl rfl ?_
          refine ax_callV (as := [_]) rfl vX0_117 hX0_tightAt rfl rfl rfl rfl rfl (c_X0_tightAt E d M hB k (by omega)) (av_Xk ?_)
          refine ax_iconst rfl ?_
          refine ax_ixor rfl ?_
          refine ax_iand rfl ?_
          refine ax_if_ne rfl (by omega) (fun h46 => ?_) (fun h46 => ?_)
          · refine ax_iinc (ls' := [(0, _), (1, _), (2, _), (3, _), (4, _)]) rfl rfl rfl rfl ?_
            refine ax_goto rfl ?_
            refine ih _ (by omega) (by omega) (fun k' a b c e => ?_)
            by_cases hkk : k' = k
            · subst hkk
              first
                | omega
                | exact fun q => by have := h0.mpr q; omega
            · exact hno k' a (by omega) c e
          · refine ax_iconst rfl ?_
            refine ax_zret rfl rfl (by omega) ?_
            exact av_rI (b01_f (fun q => q k k0 (by omega) (by omega) (by omega) (h0.mp (by omega)))).symm
set_option maxRecDepth 100000 in
set_option maxHeartbeats 800000 in
theorem c_X0_isRim (E : av_E) (d : Nat) (M : av_M) (hB : BI M) (i j : Int) (hi : 0 ≤ i ∧ i < M 12 4) (hj : 0 ≤ j ∧ j < M 12 4) : av_Mt E (d + 2) mX0_isRim [vR 12, vI i, vI j] M (av_X (some (vI (b01 (Rm M i j)))) M) := by
  refine av_enter hX0_isRim oX0_isRim rfl rfl ?_
  refine ax_aloadn rfl rfl ?_
  refine ax_iloadn rfl rfl ?_
  refine ax_callV (as := [_]) rfl vX0_117 hX0_tightAt rfl rfl rfl rfl rfl (c_X0_tightAt E d M hB i hi) (av_Xk ?_)
  refine ax_aloadn rfl rfl ?_
  refine ax_iloadn rfl rfl ?_
  refine ax_callV (as := [_]) rfl vX0_117 hX0_tightAt rfl rfl rfl rfl rfl (c_X0_tightAt E d M hB j hj) (av_Xk ?_)
  refine ax_iand rfl ?_
  refine ax_istoren (ls' := [(0, _), (1, _), (2, _), (3, _)]) rfl rfl rfl ?_
  refine ax_iconst rfl ?_
  refine ax_istore (ls' := [(0, _), (1, _), (2, _), (3, _), (4, _)]) rfl rfl rfl ?_
  exact l_X0_isRim E d M hB i j hi hj (M 12 4).toNat 0 (by omega) (by omega) (fun k' a b => by omega)
set_option maxRecDepth 100000 in
set_option maxHeartbeats 800000 in
theorem l2_X0_rimCount (E : av_E) (d : Nat) (M : av_M) (hB : BI M) (i : Int) (hi : 0 ≤ i ∧ i < M 12 4) (nxt : av_S E (d + 3) mX0_rimCount 4 [(0, vR 12), (1, vI (isum (rmF M) (i + 1).toNat)), (2, vI (i + 1))] [] M (av_X (some (vI (isum (rmF M) (M 12 4).toNat))) M)) : ∀ (t : Nat) (j : Int), j + t = M 12 4 → i < j → av_S E (d + 3) mX0_rimCount 16 [(0, vR 12), (1, vI (isum (rmF M) i.toNat + isum (rmG M i) (j - i - 1).toNat)), (2, vI i), (3, vI j)] [] M (av_X (some (vI (isum (rmF M) (M 12 4).toNat))) M) := by
  have hn := hB.2.2.2.1
  have ei : ((i.toNat : Nat) : Int) = i := by omega
  intro t
  induction t with
  | zero =>
    intro j hj ij
    have e : isum (rmF M) i.toNat + isum (rmG M i) (j - i - 1).toNat = isum (rmF M) (i + 1).toNat := by
      rw [show (i + 1).toNat = i.toNat + 1 by omega]
      show _ = isum (rmF M) i.toNat + rmF M ((i.toNat : Nat) : Int)
      rw [ei]
      unfold rmF
      rw [show j = M 12 4 by omega]
    rw [e]
    refine ax_iloadn rfl rfl ?_
    refine ax_aloadn rfl rfl ?_
    refine ax_getI (g := 4) rfl fX0_38 rfl rfl rfl rfl ?_
    refine ax_icmp_ge rfl (by omega) (by omega) (fun h21 => ?_) (fun h21 => ?_)
    · refine ax_iinc (ls' := [(0, _), (1, _), (2, _), (3, _)]) rfl rfl rfl rfl ?_
      refine ax_goto rfl ?_
      refine ax_pick [0, 1, 2] rfl ?_
      exact nxt
    · omega
  | succ t ih =>
    intro j hj ij
    have b := b01_rng (Rm M i j)
    have e : isum (rmG M i) (j + 1 - i - 1).toNat = isum (rmG M i) (j - i - 1).toNat + b01 (Rm M i j) := by
      rw [show (j + 1 - i - 1).toNat = (j - i - 1).toNat + 1 by omega]
      show _ + rmG M i (((j - i - 1).toNat : Nat) : Int) = _
      unfold rmG
      rw [show i + 1 + (((j - i - 1).toNat : Nat) : Int) = j by omega]
    refine ax_iloadn rfl rfl ?_
    refine ax_aloadn rfl rfl ?_
    refine ax_getI (g := 4) rfl fX0_38 rfl rfl rfl rfl ?_
    refine ax_icmp_ge rfl (by omega) (by omega) (fun h21 => ?_) (fun h21 => ?_)
    · omega
    · refine ax_aloadn rfl rfl ?_
      refine ax_iloadn rfl rfl ?_
      refine ax_iloadn rfl rfl ?_
      refine ax_callV (as := [_, _]) rfl vX0_114 hX0_isRim rfl rfl rfl rfl rfl (c_X0_isRim E d M hB i j hi (by omega)) (av_Xk ?_)
      refine ax_if_eq rfl (by omega) (fun h30 => ?_) (fun h30 => ?_)
      · refine ax_iinc (ls' := [(0, _), (1, _), (2, _), (3, _)]) rfl rfl rfl rfl ?_
        refine ax_goto rfl ?_
        have ih2 := ih (j + 1) (by omega) (by omega)
        rw [e] at ih2
        first
          | (rw [show b01 (Rm M i j) = 0 by omega, Int.add_zero] at ih2; exact ih2)
          | (rw [show b01 (Rm M i j) = 1 by omega, ← Int.add_assoc] at ih2; exact ih2)
      · refine ax_iinc (ls' := [(0, _), (1, _), (2, _), (3, _)]) rfl rfl rfl rfl ?_
        refine ax_iinc (ls' := [(0, _), (1, _), (2, _), (3, _)]) rfl rfl rfl rfl ?_
        refine ax_goto rfl ?_
        have ih2 := ih (j + 1) (by omega) (by omega)
        rw [e] at ih2
        first
          | (rw [show b01 (Rm M i j) = 0 by omega, Int.add_zero] at ih2; exact ih2)
          | (rw [show b01 (Rm M i j) = 1 by omega, ← Int.add_assoc] at ih2; exact ih2)
set_option maxRecDepth 100000 in
set_option maxHeartbeats 800000 in
theorem l1_X0_rimCount (E : av_E) (d : Nat) (M : av_M) (hB : BI M) : ∀ (t : Nat) (i : Int), i + t = M 12 4 → 0 ≤ i → av_S E (d + 3) mX0_rimCount 4 [(0, vR 12), (1, vI (isum (rmF M) i.toNat)), (2, vI i)] [] M (av_X (some (vI (isum (rmF M) (M 12 4).toNat))) M) := by
  have hn := hB.2.2.2.1
  intro t
  induction t with
  | zero =>
    intro i hi i0
    refine ax_iloadn rfl rfl ?_
    refine ax_aloadn rfl rfl ?_
    refine ax_getI (g := 4) rfl fX0_38 rfl rfl rfl rfl ?_
    refine ax_icmp_ge rfl (by omega) (by omega) (fun h9 => ?_) (fun h9 => ?_)
    · refine ax_iloadn rfl rfl ?_
      refine ax_iret rfl rfl ?_
      exact av_rI (by rw [show i = M 12 4 by omega])
    · omega
  | succ t ih =>
    intro i hi i0
    refine ax_iloadn rfl rfl ?_
    refine ax_aloadn rfl rfl ?_
    refine ax_getI (g := 4) rfl fX0_38 rfl rfl rfl rfl ?_
    refine ax_icmp_ge rfl (by omega) (by omega) (fun h9 => ?_) (fun h9 => ?_)
    · omega
    · refine ax_iloadn rfl rfl ?_
      refine ax_iconst rfl ?_
      refine ax_iadd rfl ?_
      refine ax_istoren (ls' := [(0, _), (1, _), (2, _), (3, _)]) rfl rfl rfl ?_
      have k := l2_X0_rimCount E d M hB i ⟨i0, by omega⟩ (ih _ (by omega) (by omega)) t (i + 1) (by omega) (by omega)
      rw [show i + 1 - i - 1 = 0 by omega] at k
      have z : isum (rmG M i) (0 : Int).toNat = 0 := rfl
      rw [z, Int.add_zero] at k
      exact k
set_option maxRecDepth 100000 in
set_option maxHeartbeats 800000 in
theorem c_X0_rimCount (E : av_E) (d : Nat) (M : av_M) (hB : BI M) : av_Mt E (d + 3) mX0_rimCount [vR 12] M (av_X (some (vI (isum (rmF M) (M 12 4).toNat))) M) := by
  have h0 := hB.2.2.1.1
  refine av_enter hX0_rimCount oX0_rimCount rfl rfl ?_
  refine ax_iconst rfl ?_
  refine ax_istoren (ls' := [(0, _), (1, _)]) rfl rfl rfl ?_
  refine ax_iconst rfl ?_
  refine ax_istoren (ls' := [(0, _), (1, _), (2, _)]) rfl rfl rfl ?_
  exact l1_X0_rimCount E d M hB (M 12 4).toNat 0 (by omega) (by omega)
