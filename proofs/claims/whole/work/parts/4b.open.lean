/-! ===== the reference: open pairs laid; bits of longs ===== -/
def LOk (M M1 : av_M) : Prop := (∀ f, f ≠ 13 → M1 35 f = M 35 f) ∧ ∀ k, k ≠ 35 → k ≠ 44 → M1 k = M k
def OPm (M : av_M) (n : Nat) : Prop := M 35 13 = ((aoV n : Nat) : Int) ∧ ∀ e : Nat, e < n → M 44 (e : Int) = ((opV n e : Nat) : Int)
def LOI (M M1 : av_M) (n e : Nat) : Prop := LOk M M1 ∧ M1 35 13 = ((aoN n e : Nat) : Int) ∧ ∀ e' : Nat, e' < e → M1 44 (e' : Int) = ((opV n e' : Nat) : Int)
theorem LFm_c {M M' : av_M} {h : Int} {fx fy : Int → Int} (hL : LFm M h fx fy) (e7 : M' 35 7 = M 35 7) (e0 : M' 35 0 = M 35 0) (e : ∀ k, 36 ≤ k → k ≤ 41 → M' k = M k) : LFm M' h fx fy := by
  unfold LFm rp RB at hL ⊢
  rw [e7, e0, e 36 (by decide) (by decide), e 37 (by decide) (by decide), e 38 (by decide) (by decide), e 39 (by decide) (by decide), e 40 (by decide) (by decide), e 41 (by decide) (by decide)]
  exact hL
theorem opB_i {n e c : Nat} (he : e < n) (hc : c < n) : opB n e c = true ↔ (¬ (c : Int) = (e : Int) ∧ ¬ (c : Int) = nxI (n : Int) (e : Int)) := by
  unfold opB nx nxI
  rw [Bool.and_eq_true, Bool.and_eq_true, decide_eq_true_eq, Bool.not_eq_true', Bool.not_eq_true', decide_eq_false_iff_not, decide_eq_false_iff_not]
  by_cases q : e + 1 < n
  · rw [if_pos q, if_pos (by omega)]
    omega
  · rw [if_neg q, if_neg (by omega)]
    omega
def fbF (x k : Nat) : Nat → Nat
  | 0 => k
  | t + 1 => if x.testBit k then k else fbF x (k + 1) t
def fb (x : Nat) : Nat := fbF x 0 64
def onN (x : Nat) : Nat → Nat
  | 0 => 0
  | k + 1 => onN x k + (if x.testBit k then 1 else 0)
theorem onN_le (x : Nat) : ∀ k, onN x k ≤ k := by
  intro k
  induction k with
  | zero => exact Nat.le_refl _
  | succ k ih =>
    show onN x k + (if x.testBit k then 1 else 0) ≤ k + 1
    split <;> omega
theorem fbF_sp (x : Nat) : ∀ t k, (∃ j, j < t ∧ x.testBit (k + j) = true) → x.testBit (fbF x k t) = true ∧ fbF x k t < k + t := by
  intro t
  induction t with
  | zero => rintro k ⟨j, hj, _⟩; omega
  | succ t ih =>
    rintro k ⟨j, hj, hb⟩
    unfold fbF
    by_cases q : x.testBit k = true
    · rw [if_pos q]; exact ⟨q, by omega⟩
    · rw [if_neg q]
      have j0 : j ≠ 0 := fun z => by rw [z, Nat.add_zero] at hb; exact q hb
      have := ih (k + 1) ⟨j - 1, by omega, by rw [show k + 1 + (j - 1) = k + j by omega]; exact hb⟩
      exact ⟨this.1, by omega⟩
theorem fb_sp {x : Nat} (hx : x < 2 ^ 63) (h0 : x ≠ 0) : x.testBit (fb x) = true ∧ fb x < 64 := by
  have : ∃ j, x.testBit j = true := by
    apply Classical.byContradiction
    intro q
    apply h0
    rw [tb_zero_iff]
    intro j
    cases h : x.testBit j
    · rfl
    · exact absurd ⟨j, h⟩ q
  obtain ⟨j, hj⟩ := this
  have := tb_lt hx hj
  have k := fbF_sp x 64 0 ⟨j, by omega, by rw [Nat.zero_add]; exact hj⟩
  exact ⟨k.1, by have := k.2; unfold fb; omega⟩
theorem fbF_le (x : Nat) : ∀ t k, fbF x k t ≤ k + t := by
  intro t
  induction t with
  | zero => intro k; exact Nat.le_refl _
  | succ t ih =>
    intro k
    unfold fbF
    split
    · omega
    · have := ih (k + 1); omega
set_option maxRecDepth 100000 in
set_option maxHeartbeats 800000 in
theorem l2_X8_layOpen (E : av_E) (d : Nat) (M : av_M) (h : Int) (fx fy : Int → Int) (hL : LFm M h fx fy) (h0 : M 35 0 ≤ 12) (n : Nat) (hn : h = (n : Int)) (hn8 : n ≤ 8) (hne : ∀ e, 0 ≤ e → e < h → ¬ (fx (nxI h e) = fx e ∧ fy (nxI h e) = fy e)) (hgp : ∀ e c, (0 ≤ e ∧ e < h) → (0 ≤ c ∧ c < h) → (0 < gp h fx fy e c ↔ ¬ c = e ∧ ¬ c = nxI h e)) (e : Nat) (he : e < n) (nxt0 : ∀ M2 : av_M, LOI M M2 n e → M2 44 (e : Int) = ((opV n e : Nat) : Int) → av_S E (d + 3) mX8_layOpen 63 [(0, vR 35), (1, vI (e : Int)), (2, vI h)] [] M2 (fun res M' => res = none ∧ OPm M' n ∧ LOk M M')) : ∀ (t c : Nat) (M1 : av_M), c + t = n → LOI M M1 n e → M1 44 (e : Int) = ((opN n e c : Nat) : Int) → av_S E (d + 3) mX8_layOpen 24 [(0, vR 35), (1, vI (e : Int)), (2, vI (c : Int))] [] M1 (fun res M' => res = none ∧ OPm M' n ∧ LOk M M') := by
  obtain ⟨oa, ob, oc, od0⟩ := op_all n (by omega) e he
  intro t
  induction t with
  | zero =>
    intro c M1 hc hI hv
    have ec : c = n := by omega
    subst ec
    obtain ⟨⟨k1, k2⟩, i2, i3⟩ := hI
    have e7 : M1 35 7 = h := by rw [k1 7 (by decide)]; exact hL.1
    have nx := nxt0 M1 ⟨⟨k1, k2⟩, i2, i3⟩ hv
    rw [hn] at nx
    refine ax_iloadn rfl rfl ?_
    refine ax_aloadn rfl rfl ?_
    refine ax_getI (g := 7) rfl fX8_131 rfl rfl rfl rfl ?_
    refine ax_icmp_ge rfl (by omega) (by omega) (fun h29 => ?_) (fun h29 => ?_)
    · exact nx
    · omega
  | succ t ih =>
    intro c M1 hc hI hv
    obtain ⟨⟨k1, k2⟩, i2, i3⟩ := hI
    have e7 : M1 35 7 = h := by rw [k1 7 (by decide)]; exact hL.1
    have hL1 : LFm M1 h fx fy := LFm_c hL (k1 7 (by decide)) (k1 0 (by decide)) (fun k a b => k2 k (by omega) (by omega))
    have h01 : M1 35 0 ≤ 12 := by rw [k1 0 (by decide)]; exact h0
    have hg := hgp (e : Int) (c : Int) (by omega) (by omega)
    have hb := opB_i (n := n) he (show c < n by omega)
    rw [← hn] at hb
    have hfb : Fb h fx fy := ⟨by omega, by omega, fun k k0 k1' => (hL.2.2 k k0 k1').2.2.2.2.2⟩
    have rg := gp_rng hfb (e := (e : Int)) (c := (c : Int)) (by omega) (by omega)
    have o1 := oc c (by omega)
    have eo : opN n e (c + 1) = opN n e c ||| (if opB n e c then 2 ^ c else 0) := rfl
    have p2 : 2 ^ c ≤ 2 ^ 8 := Nat.pow_le_pow_right (by decide) (by omega)
    have p8 : (2 : Nat) ^ 8 = 256 := by rfl
    refine ax_iloadn rfl rfl ?_
    refine ax_aloadn rfl rfl ?_
    refine ax_getI (g := 7) rfl fX8_131 rfl rfl rfl rfl ?_
    refine ax_icmp_ge rfl (by omega) (by omega) (fun h29 => ?_) (fun h29 => ?_)
    · omega
    · refine ax_aloadn rfl rfl ?_
      refine ax_getR rfl fX8_35 rfl rfl ?_
      refine ax_iloadn rfl rfl ?_
      refine ax_dup2 rfl rfl rfl ?_
      refine ax_iald rfl rfl (by omega) ?_
      refine ax_aloadn rfl rfl ?_
      refine ax_iloadn rfl rfl ?_
      refine ax_iloadn rfl rfl ?_
      refine ax_callV (as := [_, _]) rfl vX8_144 hX8_slackOf rfl rfl rfl rfl rfl (c_X8_slackOf E d M1 h fx fy hL1 h01 (e : Int) (c : Int) (by omega) (by omega) (hne (e : Int) (by omega) (by omega))) (av_Xk ?_)
      refine ax_if_le rfl (by omega) (fun h45 => ?_) (fun h45 => ?_)
      · refine ax_iconst rfl ?_
        refine ax_ior rfl ?_
        refine ax_iast' rfl rfl (by omega) (fun M56 a56 b56 c56 => ?_)
        refine ax_iinc (ls' := [(0, _), (1, _), (2, _)]) rfl rfl rfl rfl ?_
        refine ax_goto rfl ?_
        refine ih (c + 1) M56 (by omega) ⟨⟨fun f hf => by rw [c56 35 (by decide)]; exact k1 f hf, fun k q1 q2 => by rw [c56 k q2]; exact k2 k q1 q2⟩, by rw [c56 35 (by decide)]; exact i2, fun e' he' => by rw [b56 (e' : Int) (by omega)]; exact i3 e' he'⟩ ?_
        rw [a56, hv, eo]
        first
          | (have q : opB n e c = true := hb.mpr (hg.mp (by omega))
             rw [if_pos q, bi_n_shl1 (by omega), bi_n_or (by omega) (by omega)])
          | (have q : ¬ opB n e c = true := fun z => by have := hg.mpr (hb.mp z); omega
             have z := bi_n_or (a := opN n e c) (b := 0) (by omega) (by omega)
             rw [if_neg q]
             exact z)
      · refine ax_iconst rfl ?_
        refine ax_iloadn rfl rfl ?_
        refine ax_ishl rfl ?_
        refine ax_goto rfl ?_
        refine ax_ior rfl ?_
        refine ax_iast' rfl rfl (by omega) (fun M56 a56 b56 c56 => ?_)
        refine ax_iinc (ls' := [(0, _), (1, _), (2, _)]) rfl rfl rfl rfl ?_
        refine ax_goto rfl ?_
        refine ih (c + 1) M56 (by omega) ⟨⟨fun f hf => by rw [c56 35 (by decide)]; exact k1 f hf, fun k q1 q2 => by rw [c56 k q2]; exact k2 k q1 q2⟩, by rw [c56 35 (by decide)]; exact i2, fun e' he' => by rw [b56 (e' : Int) (by omega)]; exact i3 e' he'⟩ ?_
        rw [a56, hv, eo]
        first
          | (have q : opB n e c = true := hb.mpr (hg.mp (by omega))
             rw [if_pos q, bi_n_shl1 (by omega), bi_n_or (by omega) (by omega)])
          | (have q : ¬ opB n e c = true := fun z => by have := hg.mpr (hb.mp z); omega
             have z := bi_n_or (a := opN n e c) (b := 0) (by omega) (by omega)
             rw [if_neg q]
             exact z)
set_option maxRecDepth 100000 in
set_option maxHeartbeats 800000 in
theorem l1_X8_layOpen (E : av_E) (d : Nat) (M : av_M) (h : Int) (fx fy : Int → Int) (hL : LFm M h fx fy) (h0 : M 35 0 ≤ 12) (n : Nat) (hn : h = (n : Int)) (hn8 : n ≤ 8) (hne : ∀ e, 0 ≤ e → e < h → ¬ (fx (nxI h e) = fx e ∧ fy (nxI h e) = fy e)) (hgp : ∀ e c, (0 ≤ e ∧ e < h) → (0 ≤ c ∧ c < h) → (0 < gp h fx fy e c ↔ ¬ c = e ∧ ¬ c = nxI h e)) : ∀ (t e : Nat) (M1 : av_M), e + t = n → LOI M M1 n e → av_S E (d + 3) mX8_layOpen 7 [(0, vR 35), (1, vI (e : Int))] [] M1 (fun res M' => res = none ∧ OPm M' n ∧ LOk M M') := by
  intro t
  induction t with
  | zero =>
    intro e M1 he hI
    have ee : e = n := by omega
    subst ee
    have hI0 := hI
    obtain ⟨⟨k1, k2⟩, i2, i3⟩ := hI
    have e7 : M1 35 7 = h := by rw [k1 7 (by decide)]; exact hL.1
    have h12 := hL.2.1
    refine ax_iloadn rfl rfl ?_
    refine ax_aloadn rfl rfl ?_
    refine ax_getI (g := 7) rfl fX8_131 rfl rfl rfl rfl ?_
    refine ax_icmp_ge rfl (by omega) (by omega) (fun h12 => ?_) (fun h12 => ?_)
    · refine ax_vret rfl rfl ?_
      exact ⟨rfl, ⟨i2, i3⟩, ⟨k1, k2⟩⟩
    · omega
  | succ t ih =>
    intro e M1 he hI
    obtain ⟨⟨k1, k2⟩, i2, i3⟩ := hI
    have e7 : M1 35 7 = h := by rw [k1 7 (by decide)]; exact hL.1
    obtain ⟨oa, ob, oc, od0⟩ := op_all n (by omega) e (by omega)
    have ao1 := ao_all n (by omega) e (by omega)
    have eo : aoN n (e + 1) = aoN n e ||| opV n e * 2 ^ (8 * e) := rfl
    have ov : opV n e < 256 := oc n (Nat.le_refl _)
    refine ax_iloadn rfl rfl ?_
    refine ax_aloadn rfl rfl ?_
    refine ax_getI (g := 7) rfl fX8_131 rfl rfl rfl rfl ?_
    refine ax_icmp_ge rfl (by omega) (by omega) (fun h12 => ?_) (fun h12 => ?_)
    · omega
    · refine ax_aloadn rfl rfl ?_
      refine ax_getR rfl fX8_35 rfl rfl ?_
      refine ax_iloadn rfl rfl ?_
      refine ax_iconst rfl ?_
      refine ax_iast' rfl rfl (by omega) (fun M21 a21 b21 c21 => ?_)
      refine ax_iconst rfl ?_
      refine ax_istoren (ls' := [(0, _), (1, _), (2, _)]) rfl rfl rfl ?_
      refine l2_X8_layOpen E d M h fx fy hL h0 n hn hn8 hne hgp e (by omega) (fun M2 hI2 hv2 => ?nx) n 0 M21 (by omega) ⟨⟨fun f hf => by rw [c21 35 (by decide)]; exact k1 f hf, fun k q1 q2 => by rw [c21 k q2]; exact k2 k q1 q2⟩, by rw [c21 35 (by decide)]; exact i2, fun e' he' => by rw [b21 (e' : Int) (by omega)]; exact i3 e' he'⟩ a21
      case nx =>
        obtain ⟨⟨k3, k4⟩, j2, j3⟩ := hI2
        refine ax_aloadn rfl rfl ?_
        refine ax_dup rfl rfl ?_
        refine ax_getL (g := 13) rfl fX8_151 rfl rfl rfl rfl ?_
        refine ax_aloadn rfl rfl ?_
        refine ax_getR rfl fX8_35 rfl rfl ?_
        refine ax_iloadn rfl rfl ?_
        refine ax_iald rfl rfl (by omega) ?_
        refine ax_i2l rfl (by rw [hv2]; omega) ?_
        refine ax_bipush rfl rfl ?_
        refine ax_iloadn rfl rfl ?_
        refine ax_imul rfl ?_
        refine ax_lshl rfl ?_
        refine ax_lor rfl ?_
        refine ax_putL' (g := 13) rfl gX8_151 rfl rfl rfl rfl (fun M81 a81 b81 c81 => ?_)
        refine ax_iinc (ls' := [(0, _), (1, _), (2, _)]) rfl rfl rfl rfl ?_
        refine ax_goto rfl ?_
        refine ax_pick [0, 1] rfl ?_
        refine ih (e + 1) M81 (by omega) ⟨⟨fun f hf => by rw [b81 f hf]; exact k3 f hf, fun k q1 q2 => by rw [c81 k q1]; exact k4 k q1 q2⟩, ?_, fun e' he' => ?_⟩
        · rw [a81, j2, hv2, eo, show (8 : Int) * (e : Int) = ((8 * e : Nat) : Int) by omega, bl_n_shl (by omega) ob, bl_n_or ao1 ob]
        · rw [c81 44 (by decide)]
          by_cases q : e' = e
          · rw [q]; exact hv2
          · exact j3 e' (by omega)
set_option maxRecDepth 100000 in
set_option maxHeartbeats 800000 in
theorem c_X8_layOpen (E : av_E) (d : Nat) (M : av_M) (h : Int) (fx fy : Int → Int) (hL : LFm M h fx fy) (h0 : M 35 0 ≤ 12) (n : Nat) (hn : h = (n : Int)) (hn8 : n ≤ 8) (hne : ∀ e, 0 ≤ e → e < h → ¬ (fx (nxI h e) = fx e ∧ fy (nxI h e) = fy e)) (hgp : ∀ e c, (0 ≤ e ∧ e < h) → (0 ≤ c ∧ c < h) → (0 < gp h fx fy e c ↔ ¬ c = e ∧ ¬ c = nxI h e)) : av_Mt E (d + 3) mX8_layOpen [vR 35] M (fun res M' => res = none ∧ OPm M' n ∧ LOk M M') := by
  refine av_enter hX8_layOpen oX8_layOpen rfl rfl ?_
  refine ax_aloadn rfl rfl ?_
  refine ax_lconst (w := 0) rfl rfl ?_
  refine ax_putL' (g := 13) rfl gX8_151 rfl rfl rfl rfl (fun M2 a2 b2 c2 => ?_)
  refine ax_iconst rfl ?_
  refine ax_istoren (ls' := [(0, _), (1, _)]) rfl rfl rfl ?_
  exact l1_X8_layOpen E d M h fx fy hL h0 n hn hn8 hne hgp n 0 M2 (by omega) ⟨⟨b2, fun k q1 _ => c2 k q1⟩, a2, fun e he => by omega⟩
set_option maxRecDepth 100000 in
set_option maxHeartbeats 800000 in
theorem l_X8_firstBit (E : av_E) (d : Nat) (M : av_M) (x : Nat) (hx : x < 2 ^ 63) : ∀ (t k : Nat), k + t = 64 → av_S E d mX8_firstBit 2 [(0, vL (x : Int)), (2, vI (k : Int))] [] M (av_X (some (vI ((fbF x k t : Nat) : Int))) M) := by
  intro t
  induction t with
  | zero =>
    intro k hk
    refine ax_iloadn rfl rfl ?_
    refine ax_bipush rfl rfl ?_
    refine ax_icmp_ge rfl (by omega) (by omega) (fun h5 => ?_) (fun h5 => ?_)
    · refine ax_iloadn rfl rfl ?_
      refine ax_iret rfl rfl ?_
      exact av_rI rfl
    · omega
  | succ t ih =>
    intro k hk
    have hb := bl_n_bit (a := x) (k := k) (by omega) hx
    have eo : fbF x k (t + 1) = if x.testBit k then k else fbF x (k + 1) t := rfl
    have i2 := ih (k + 1) (by omega)
    have hb2 : bl_and (bl_shr (x : Int) (k : Int)) 1 = b01 (x.testBit k = true) := by
      rw [hb]
      by_cases q : x.testBit k = true
      · rw [if_pos q, b01_t q]
      · rw [if_neg q, b01_f q]
    have br := b01_rng (x.testBit k = true)
    refine ax_iloadn rfl rfl ?_
    refine ax_bipush rfl rfl ?_
    refine ax_icmp_ge rfl (by omega) (by omega) (fun h5 => ?_) (fun h5 => ?_)
    · refine ax_iloadn rfl rfl ?_
      refine ax_iret rfl rfl ?_
      first
        | omega
        | (have q := b01_ne (P := x.testBit k = true) (by omega)
           rw [eo, if_pos q]
           exact av_rI rfl)
    · refine ax_lloadn rfl rfl ?_
      refine ax_iloadn rfl rfl ?_
      refine ax_lshr rfl ?_
      refine ax_lconst (w := 1) rfl rfl ?_
      refine ax_land rfl ?_
      refine ax_lconst (w := 0) rfl rfl ?_
      refine ax_lif_ne rfl rfl (by omega) (by omega) (fun h14 => ?_) (fun h14 => ?_)
      · refine ax_iloadn rfl rfl ?_
        refine ax_iret rfl rfl ?_
        first
          | omega
          | (have q := b01_ne (P := x.testBit k = true) (by omega)
             rw [eo, if_pos q]
             exact av_rI rfl)
      · refine ax_iinc (ls' := [(0, _), (2, _)]) rfl rfl rfl rfl ?_
        refine ax_goto rfl ?_
        have q := b01_eq (P := x.testBit k = true) (by omega)
        rw [eo, if_neg q]
        exact i2
set_option maxRecDepth 100000 in
set_option maxHeartbeats 800000 in
theorem c_X8_firstBit (E : av_E) (d : Nat) (M : av_M) (x : Nat) (hx : x < 2 ^ 63) : av_Mt E d mX8_firstBit [vL (x : Int)] M (av_X (some (vI ((fb x : Nat) : Int))) M) := by
  refine av_enter hX8_firstBit oX8_firstBit rfl rfl ?_
  refine ax_iconst rfl ?_
  refine ax_istoren (ls' := [(0, _), (2, _)]) rfl rfl rfl ?_
  exact l_X8_firstBit E d M x hx 64 0 (by omega)
set_option maxRecDepth 100000 in
set_option maxHeartbeats 800000 in
theorem l_X8_ones (E : av_E) (d : Nat) (M : av_M) (x : Nat) (hx : x < 2 ^ 63) : ∀ (t k : Nat), k + t = 64 → av_S E d mX8_ones 4 [(0, vL (x : Int)), (2, vI ((onN x k : Nat) : Int)), (3, vI (k : Int))] [] M (av_X (some (vI ((onN x 64 : Nat) : Int))) M) := by
  intro t
  induction t with
  | zero =>
    intro k hk
    have ek : k = 64 := by omega
    subst ek
    refine ax_iloadn rfl rfl ?_
    refine ax_bipush rfl rfl ?_
    refine ax_icmp_ge rfl (by omega) (by omega) (fun h7 => ?_) (fun h7 => ?_)
    · refine ax_iloadn rfl rfl ?_
      refine ax_iret rfl rfl ?_
      exact av_rI rfl
    · omega
  | succ t ih =>
    intro k hk
    have hb := bl_n_bit (a := x) (k := k) (by omega) hx
    have i2 := ih (k + 1) (by omega)
    have e : ((onN x (k + 1) : Nat) : Int) = ((onN x k : Nat) : Int) + bl_and (bl_shr (x : Int) (k : Int)) 1 := by
      rw [hb]
      show ((onN x k + (if x.testBit k then 1 else 0) : Nat) : Int) = _
      split <;> omega
    rw [e] at i2
    refine ax_iloadn rfl rfl ?_
    refine ax_bipush rfl rfl ?_
    refine ax_icmp_ge rfl (by omega) (by omega) (fun h7 => ?_) (fun h7 => ?_)
    · omega
    · refine ax_iloadn rfl rfl ?_
      refine ax_lloadn rfl rfl ?_
      refine ax_iloadn rfl rfl ?_
      refine ax_lshr rfl ?_
      refine ax_lconst (w := 1) rfl rfl ?_
      refine ax_land rfl ?_
      refine ax_l2i rfl ?_
      refine ax_iadd rfl ?_
      refine ax_istoren (ls' := [(0, _), (2, _), (3, _)]) rfl rfl rfl ?_
      refine ax_iinc (ls' := [(0, _), (2, _), (3, _)]) rfl rfl rfl rfl ?_
      refine ax_goto rfl ?_
      exact i2
set_option maxRecDepth 100000 in
set_option maxHeartbeats 800000 in
theorem c_X8_ones (E : av_E) (d : Nat) (M : av_M) (x : Nat) (hx : x < 2 ^ 63) : av_Mt E d mX8_ones [vL (x : Int)] M (av_X (some (vI ((onN x 64 : Nat) : Int))) M) := by
  refine av_enter hX8_ones oX8_ones rfl rfl ?_
  refine ax_iconst rfl ?_
  refine ax_istoren (ls' := [(0, _), (2, _)]) rfl rfl rfl ?_
  refine ax_iconst rfl ?_
  refine ax_istoren (ls' := [(0, _), (2, _), (3, _)]) rfl rfl rfl ?_
  exact l_X8_ones E d M x hx 64 0 (by omega)
set_option maxRecDepth 100000 in
set_option maxHeartbeats 800000 in
theorem c_X8_isOpen (E : av_E) (d : Nat) (M : av_M) (e c v : Nat) (he : e < 8) (hc : c < 8) (hv : v < 256) (ev : M 44 (e : Int) = (v : Int)) : av_Mt E d mX8_isOpen [vR 35, vI (e : Int), vI (c : Int)] M (av_X (some (vI (b01 (v.testBit c = true)))) M) := by
  have hb := bi_n_bit (a := v) (k := c) (by omega) (by omega)
  rw [← ev] at hb
  have hb2 : bi_and (bi_shr (M 44 (e : Int)) (c : Int)) 1 = b01 (v.testBit c = true) := by
    rw [hb]
    by_cases q : v.testBit c = true
    · rw [if_pos q, b01_t q]
    · rw [if_neg q, b01_f q]
  have br := b01_rng (v.testBit c = true)
  refine av_enter hX8_isOpen oX8_isOpen rfl rfl ?_
  refine ax_aloadn rfl rfl ?_
  refine ax_getR rfl fX8_35 rfl rfl ?_
  refine ax_iloadn rfl rfl ?_
  refine ax_iald rfl rfl (by omega) ?_
  refine ax_iloadn rfl rfl ?_
  refine ax_ishr rfl ?_
  refine ax_iconst rfl ?_
  refine ax_iand rfl ?_
  refine ax_iconst rfl ?_
  refine ax_icmp_ne rfl (by omega) (by omega) (fun h11 => ?_) (fun h11 => ?_)
  · refine ax_iconst rfl ?_
    refine ax_zret rfl rfl (by omega) ?_
    exact av_rI (by omega)
  · refine ax_iconst rfl ?_
    refine ax_goto rfl ?_
    refine ax_zret rfl rfl (by omega) ?_
    exact av_rI (by omega)
