/-! ===== the reference: cover, low ===== -/
def RCm (M : av_M) : Prop := ∀ n : Nat, 3 ≤ n → n ≤ 8 → (M 45 (n : Int) = 0 ∨ M 45 (n : Int) = av_cov (n : Int)) ∧ (M 46 (n : Int) = 0 ∨ M 46 (n : Int) = av_foo (n : Int))
def RQc (M M' : av_M) : Prop := (∀ k, k < 35 → M' k = M k) ∧ (∀ f : Int, f = 0 ∨ f = 19 ∨ f = 20 ∨ f = 23 → M' 35 f = M 35 f) ∧ (∀ k, k = 36 ∨ k = 37 ∨ k = 50 ∨ k = 51 ∨ k = 52 ∨ k = 53 → M' k = M k) ∧ RCm M'
theorem RQ.c {M M' : av_M} (h : RQ M M') (hc : RCm M) : RQc M M' := ⟨h.1, h.2.1, fun k q => h.2.2 k (by omega), by unfold RCm; rw [h.2.2 45 (by omega), h.2.2 46 (by omega)]; exact hc⟩
theorem cov_r {n : Nat} (h3 : 3 ≤ n) (h8 : n ≤ 8) : 1 ≤ cvN n ∧ cvN n ≤ 6 := by
  rcases (show n = 3 ∨ n = 4 ∨ n = 5 ∨ n = 6 ∨ n = 7 ∨ n = 8 by omega) with e | e | e | e | e | e <;> (subst e; decide)
set_option maxRecDepth 100000 in
set_option maxHeartbeats 800000 in
theorem l_X8_coverNow (E : av_E) (d : Nat) (M : av_M) (n : Nat) (h3 : 3 ≤ n) (hn8 : n ≤ 8) (e7 : M 35 7 = (n : Int)) (Q : Option av_V → av_M → Prop) (hq : ∀ M2 : av_M, M2 45 (n : Int) = ((cvN n : Nat) : Int) → (∀ j, j ≠ (n : Int) → M2 45 j = M 45 j) → (∀ k, k ≠ 45 → k ≠ 47 → k ≠ 48 → M2 k = M k) → Q (some (vI ((cvN n : Nat) : Int))) M2) : ∀ (t many : Nat) (M1 : av_M), many + t = cvN n → (∀ k, k ≠ 47 → k ≠ 48 → M1 k = M k) → CBm M1 (blL n (2 ^ n)) (aoV n) → av_S E (d + 2) mX8_coverNow 22 [(0, vR 35), (1, vI (many : Int))] [] M1 Q := by
  have cr0 := cov_r h3 hn8
  have hall := (wit_all h3 hn8).2.2.2
  have hL63 : ∀ b, b ∈ blL n (2 ^ n) → b < 2 ^ 63 := fun b hb => by
    have := List.all_eq_true.mp hall b hb
    unfold rcB at this
    rw [Bool.and_eq_true] at this
    exact of_decide_eq_true this.2
  have hLl : (blL n (2 ^ n)).length ≤ 256 := by
    have := bl_len n (2 ^ n - 1)
    have p0 : 0 < 2 ^ n := Nat.pow_pos (by decide)
    have p2 : 2 ^ n ≤ 2 ^ 8 := Nat.pow_le_pow_right (by decide) hn8
    have p8 : (2 : Nat) ^ 8 = 256 := by rfl
    rw [show 2 ^ n - 1 + 1 = 2 ^ n by omega] at this
    omega
  intro t
  induction t with
  | zero =>
    intro many M1 hm hk hC
    have hcv := cov_all h3 hn8 many
    have br := b01_t (hcv.mpr (by omega))
    refine ax_aloadn rfl rfl ?_
    refine ax_iloadn rfl rfl ?_
    refine ax_callV (as := [_]) rfl vX8_168 hX8_covers rfl rfl rfl rfl rfl (c_X8_covers E d M1 (blL n (2 ^ n)) (aoV n) many (ao_all n (by omega) n (Nat.le_refl _)) (by omega) hL63 hLl hC) (fun r24 M24 hr24 => ?_)
    obtain ⟨rfl, hk1⟩ := hr24
    have hk2 : ∀ k, k ≠ 47 → k ≠ 48 → M24 k = M k := fun k q1 q2 => by rw [hk1 k q1 q2, hk k q1 q2]
    refine ax_if_ne rfl (by omega) (fun h27 => ?_) (fun h27 => ?_)
    · refine ax_aloadn rfl rfl ?_
      refine ax_getR rfl fX8_38 rfl rfl ?_
      refine ax_aloadn rfl rfl ?_
      refine ax_getI (g := 7) rfl fX8_131 rfl rfl rfl rfl ?_
      refine ax_iloadn rfl rfl ?_
      refine ax_iast' rfl rfl (by rw [hk2 35 (by decide) (by decide), e7]; omega) (fun M45 a45 b45 c45 => ?_)
      refine ax_aloadn rfl rfl ?_
      refine ax_getR rfl fX8_38 rfl rfl ?_
      refine ax_aloadn rfl rfl ?_
      refine ax_getI (g := 7) rfl fX8_131 rfl rfl rfl rfl ?_
      refine ax_iald rfl rfl (by rw [c45 35 (by decide), hk2 35 (by decide) (by decide), e7]; omega) ?_
      refine ax_iret rfl rfl ?_
      rw [hk2 35 (by decide) (by decide), e7] at a45 b45
      rw [c45 35 (by decide), hk2 35 (by decide) (by decide), e7, a45]
      have em : (many : Int) = ((cvN n : Nat) : Int) := by omega
      rw [em] at a45 ⊢
      exact hq M45 a45 (fun j hj => by rw [b45 j hj, hk2 45 (by decide) (by decide)]) (fun k q0 q1 q2 => by rw [c45 k q0, hk2 k q1 q2])
    · refine ax_iinc (ls' := [(0, _), (1, _)]) rfl rfl rfl rfl ?_
      refine ax_goto rfl ?_
      omega
  | succ t ih =>
    intro many M1 hm hk hC
    have hcv := cov_all h3 hn8 many
    have br := b01_f (fun z => by have := hcv.mp z; omega)
    refine ax_aloadn rfl rfl ?_
    refine ax_iloadn rfl rfl ?_
    refine ax_callV (as := [_]) rfl vX8_168 hX8_covers rfl rfl rfl rfl rfl (c_X8_covers E d M1 (blL n (2 ^ n)) (aoV n) many (ao_all n (by omega) n (Nat.le_refl _)) (by omega) hL63 hLl hC) (fun r24 M24 hr24 => ?_)
    obtain ⟨rfl, hk1⟩ := hr24
    have hk2 : ∀ k, k ≠ 47 → k ≠ 48 → M24 k = M k := fun k q1 q2 => by rw [hk1 k q1 q2, hk k q1 q2]
    refine ax_if_ne rfl (by omega) (fun h27 => ?_) (fun h27 => ?_)
    · omega
    · refine ax_iinc (ls' := [(0, _), (1, _)]) rfl rfl rfl rfl ?_
      refine ax_goto rfl ?_
      have i2 := ih (many + 1) M24 (by omega) hk2 (by unfold CBm BLm at hC ⊢; rw [hk1 35 (by decide) (by decide), hk1 43 (by decide) (by decide)]; exact hC)
      rw [show ((many + 1 : Nat) : Int) = (many : Int) + 1 by omega] at i2
      exact i2
set_option maxRecDepth 100000 in
set_option maxHeartbeats 800000 in
theorem c_X8_coverNow (E : av_E) (d : Nat) (M : av_M) (h : Int) (fx fy : Int → Int) (hL : LFm M h fx fy) (h0 : M 35 0 ≤ 12) (n : Nat) (hn : h = (n : Int)) (h3 : 3 ≤ n) (hn8 : n ≤ 8) (hne : ∀ e, 0 ≤ e → e < h → ¬ (fx (nxI h e) = fx e ∧ fy (nxI h e) = fy e)) (hgp : ∀ e c, (0 ≤ e ∧ e < h) → (0 ≤ c ∧ c < h) → (0 < gp h fx fy e c ↔ ¬ c = e ∧ ¬ c = nxI h e)) (hc : RCm M) : av_Mt E (d + 4) mX8_coverNow [vR 35] M (fun res M' => res = some (vI (av_cov h)) ∧ (LFm M' h fx fy ∧ M' 35 0 ≤ 12 ∧ RQc M M' ∧ M' 35 7 = M 35 7)) := by
  have e7 : M 35 7 = (n : Int) := by rw [hL.1, hn]
  have cr0 := cov_r h3 hn8
  have ecv := cv_cov hn8
  have hcc := (hc n h3 hn8).1
  rw [ecv] at hcc
  have hend : ∀ M2 : av_M, LFm M2 h fx fy → M2 35 0 ≤ 12 → RQc M M2 → M2 35 7 = M 35 7 → (fun res M' => res = some (vI (av_cov h)) ∧ (LFm M' h fx fy ∧ M' 35 0 ≤ 12 ∧ RQc M M' ∧ M' 35 7 = M 35 7)) (some (vI ((cvN n : Nat) : Int))) M2 := fun M2 q1 q2 q3 q4 => ⟨by rw [hn, ecv], q1, q2, q3, q4⟩
  refine av_enter hX8_coverNow oX8_coverNow rfl rfl ?_
  refine ax_aloadn rfl rfl ?_
  refine ax_getR rfl fX8_38 rfl rfl ?_
  refine ax_aloadn rfl rfl ?_
  refine ax_getI (g := 7) rfl fX8_131 rfl rfl rfl rfl ?_
  refine ax_iald rfl rfl (by rw [e7]; omega) ?_
  refine ax_if_ne rfl (by rw [e7]; omega) (fun h9 => ?_) (fun h9 => ?_)
  · refine ax_aloadn rfl rfl ?_
    refine ax_getR rfl fX8_38 rfl rfl ?_
    refine ax_aloadn rfl rfl ?_
    refine ax_getI (g := 7) rfl fX8_131 rfl rfl rfl rfl ?_
    refine ax_iald rfl rfl (by rw [e7]; omega) ?_
    refine ax_iret rfl rfl ?_
    have ev : M 45 (M 35 7) = ((cvN n : Nat) : Int) := by
      rw [e7] at h9 ⊢
      omega
    rw [ev]
    exact hend M hL h0 ((RQ.rf M).c hc) rfl
  · refine ax_aloadn rfl rfl ?_
    refine ax_callV (as := []) rfl vX8_162 hX8_layOpen rfl rfl rfl rfl rfl (c_X8_layOpen E d M h fx fy hL h0 n hn hn8 hne hgp) (fun r13 M13 hr13 => ?_)
    obtain ⟨rfl, p1, p2⟩ := hr13
    refine ax_aloadn rfl rfl ?_
    refine ax_callV (as := []) rfl vX8_165 hX8_layBlocks rfl rfl rfl rfl rfl (c_X8_layBlocks E (d + 3) M13 h (by rw [p2.1 7 (by decide)]; exact hL.1) n hn hn8 p1.2) (fun r17 M17 hr17 => ?_)
    obtain ⟨rfl, p3, p4⟩ := hr17
    have kk : ∀ k, k ≠ 35 → k ≠ 43 → k ≠ 44 → M17 k = M k := fun k q1 q2 q3 => by rw [p4.2 k q1 q2, p2.2 k q1 q3]
    have kf : ∀ f, f ≠ 11 → f ≠ 13 → M17 35 f = M 35 f := fun f q1 q2 => by rw [p4.1 f q1, p2.1 f q2]
    refine ax_iconst rfl ?_
    refine ax_istoren (ls' := [(0, _), (1, _)]) rfl rfl rfl ?_
    refine l_X8_coverNow E (d + 2) M17 n h3 hn8 (by rw [kf 7 (by decide) (by decide)]; exact e7) _ (fun M2 m1 m2 m3 => ?_) (cvN n - 1) 1 M17 (by omega) (fun k _ _ => rfl) ⟨by rw [p4.1 13 (by decide)]; exact p1.1, p3⟩
    have g35 : M2 35 = M17 35 := m3 35 (by decide) (by decide) (by decide)
    refine hend M2 (LFm_c hL (by rw [g35, kf 7 (by decide) (by decide)]) (by rw [g35, kf 0 (by decide) (by decide)]) (fun k a b => by rw [m3 k (by omega) (by omega) (by omega), kk k (by omega) (by omega) (by omega)])) (by rw [g35, kf 0 (by decide) (by decide)]; exact h0) ⟨fun k q => by rw [m3 k (by omega) (by omega) (by omega), kk k (by omega) (by omega) (by omega)], fun f q => by rw [g35, kf f (by omega) (by omega)], fun k q => by rw [m3 k (by omega) (by omega) (by omega), kk k (by omega) (by omega) (by omega)], fun i i3 i8 => ?_⟩ (by rw [g35, kf 7 (by decide) (by decide)])
    rw [m3 46 (by decide) (by decide) (by decide), kk 46 (by decide) (by decide) (by decide)]
    refine ⟨?_, (hc i i3 i8).2⟩
    by_cases q : i = n
    · right
      rw [q, m1, ecv]
    · rw [m2 (i : Int) (by omega), kk 45 (by decide) (by decide) (by decide)]
      exact (hc i i3 i8).1
theorem RQc.tr {M M1 M2 : av_M} (h : RQc M M1) (g : RQc M1 M2) : RQc M M2 := ⟨fun k q => by rw [g.1 k q, h.1 k q], fun f q => by rw [g.2.1 f q, h.2.1 f q], fun k q => by rw [g.2.2.1 k q, h.2.2.1 k q], g.2.2.2⟩
theorem cov_rng {h : Int} (h3 : 3 ≤ h) (h8 : h ≤ 8) : 1 ≤ av_cov h ∧ av_cov h ≤ 6 := by
  have e := cv_cov (n := h.toNat) (by omega)
  rw [show ((h.toNat : Nat) : Int) = h by omega] at e
  have := cov_r (n := h.toNat) (by omega) (by omega)
  omega
set_option maxRecDepth 100000 in
set_option maxHeartbeats 800000 in
theorem c_X8_cover (E : av_E) (d : Nat) (M : av_M) (hP : RPm M) (h : Int) (fx fy : Int → Int) (hG : FG (M 35 0) (M 36) (M 37) h fx fy) (hc : RCm M) : av_Mt E (d + 8) mX8_cover [vR 35] M (fun res M' => res = some (vI (if 3 ≤ h ∧ h ≤ 8 then av_cov h else (-900000003))) ∧ RQc M M') := by
  refine av_enter hX8_cover oX8_cover rfl rfl ?_
  refine ax_aloadn rfl rfl ?_
  refine ax_callV (as := []) rfl vX8_181 hX8_mayBound rfl rfl rfl rfl rfl (c_X8_mayBound E (d + 1) M hP h fx fy hG) (fun r1 M1 hr1 => ?_)
  obtain ⟨rfl, hL, hk⟩ := hr1
  have hq := LFk.q hk
  have hL0 := hL
  obtain ⟨eh, h12, hcc⟩ := hL
  have hn0 := hP.1
  have e0 : M1 35 0 = M 35 0 := hk.1 0 (by decide)
  have bf := b01_c (3 ≤ h ∧ h ≤ 8)
  have hc1 := (hq.c hc).2.2.2
  refine ax_if_eq rfl (by omega) (fun h4 => ?_) (fun h4 => ?_)
  · refine ax_ldc (z := (-900000003)) rfl kX8_137 rfl ?_
    refine ax_iret rfl rfl ?_
    first
      | exact ⟨by rw [if_pos (by omega)], (hq.c hc).tr q3⟩
      | exact ⟨by rw [if_neg (by omega)], hq.c hc⟩
  · refine ax_aloadn rfl rfl ?_
    refine ax_callV (as := []) rfl vX8_184 hX8_coverNow rfl rfl rfl rfl rfl (c_X8_coverNow E (d + 3) M1 h fx fy hL0 (by omega) h.toNat (by omega) (by omega) (by omega) (fun e e0 e1 => FG_ne hG (by omega) e0 e1) (fun e c he hcx => gp_pos hG (by omega) he hcx) hc1) (fun r8 M8 hr8 => ?_)
    obtain ⟨rfl, q1, q2, q3, q4⟩ := hr8
    refine ax_goto rfl ?_
    refine ax_iret rfl rfl ?_
    first
      | exact ⟨by rw [if_pos (by omega)], (hq.c hc).tr q3⟩
      | exact ⟨by rw [if_neg (by omega)], hq.c hc⟩
set_option maxRecDepth 100000 in
set_option maxHeartbeats 800000 in
theorem c_X8_low (E : av_E) (d : Nat) (M : av_M) (hP : RPm M) (h : Int) (fx fy : Int → Int) (hG : FG (M 35 0) (M 36) (M 37) h fx fy) (hc : RCm M) : av_Mt E (d + 8) mX8_low [vR 35] M (fun res M' => (∃ z, res = some (vI z) ∧ ((¬ (3 ≤ h ∧ h ≤ 8) ∧ z = (-900000003)) ∨ ((3 ≤ h ∧ h ≤ 8) ∧ ∃ k, LGs (2 * h + 2) k ∧ z = max 3 (max (av_cov h) k)))) ∧ RQc M M') := by
  refine av_enter hX8_low oX8_low rfl rfl ?_
  refine ax_aloadn rfl rfl ?_
  refine ax_callV (as := []) rfl vX8_181 hX8_mayBound rfl rfl rfl rfl rfl (c_X8_mayBound E (d + 1) M hP h fx fy hG) (fun r1 M1 hr1 => ?_)
  obtain ⟨rfl, hL, hk⟩ := hr1
  have hq := LFk.q hk
  have hL0 := hL
  obtain ⟨eh, h12, hcc⟩ := hL
  have hn0 := hP.1
  have e0 : M1 35 0 = M 35 0 := hk.1 0 (by decide)
  have bf := b01_c (3 ≤ h ∧ h ≤ 8)
  have hc1 := (hq.c hc).2.2.2
  refine ax_if_ne rfl (by omega) (fun h4 => ?_) (fun h4 => ?_)
  · refine ax_aloadn rfl rfl ?_
    refine ax_callV (as := []) rfl vX8_184 hX8_coverNow rfl rfl rfl rfl rfl (c_X8_coverNow E (d + 3) M1 h fx fy hL0 (by omega) h.toNat (by omega) (by omega) (by omega) (fun e e0 e1 => FG_ne hG (by omega) e0 e1) (fun e c he hcx => gp_pos hG (by omega) he hcx) hc1) (fun r11 M11 hr11 => ?_)
    obtain ⟨rfl, q1, q2, q3, q4⟩ := hr11
    have f11 := (hq.c hc).tr q3
    have cr1 := cov_rng (h := h) (by omega) (by omega)
    refine ax_aloadn rfl rfl ?_
    refine ax_callV (as := []) rfl vX8_191 hX8_logNow rfl rfl rfl rfl rfl (c_X8_logNow E (d + 7) M11 (by omega)) (fun r15 M15 hr15 => ?_)
    obtain ⟨⟨k, rfl, hl⟩, hMe⟩ := hr15
    have hMs := hMe.symm
    subst hMs
    rw [q4, eh] at hl
    have lr := hl.1
    have lr2 := hl.2.1
    refine ax_icmp_le rfl (by omega) (by omega) (fun h18 => ?_) (fun h18 => ?_)
    · refine ax_aloadn rfl rfl ?_
      refine ax_callV (as := []) rfl vX8_191 hX8_logNow rfl rfl rfl rfl rfl (c_X8_logNow E (d + 7) M11 (by omega)) (fun r29 M29 hr29 => ?_)
      obtain ⟨⟨k2, rfl, hl2⟩, hMe2⟩ := hr29
      have hMs2 := hMe2.symm
      subst hMs2
      rw [q4, eh] at hl2
      have ek := LGs_un hl hl2
      refine ax_istoren (ls' := [(0, _), (1, _)]) rfl rfl rfl ?_
      refine ax_iloadn rfl rfl ?_
      refine ax_iconst rfl ?_
      refine ax_icmp_le rfl (by omega) (by omega) (fun h35 => ?_) (fun h35 => ?_)
      · refine ax_iconst rfl ?_
        refine ax_iret rfl rfl ?_
        first
          | exact ⟨⟨_, rfl, Or.inr ⟨by omega, k, hl, by omega⟩⟩, f22⟩
          | exact ⟨⟨_, rfl, Or.inr ⟨by omega, k, hl, by omega⟩⟩, f11⟩
      · refine ax_iloadn rfl rfl ?_
        refine ax_goto rfl ?_
        refine ax_iret rfl rfl ?_
        first
          | exact ⟨⟨_, rfl, Or.inr ⟨by omega, k, hl, by omega⟩⟩, f22⟩
          | exact ⟨⟨_, rfl, Or.inr ⟨by omega, k, hl, by omega⟩⟩, f11⟩
    · refine ax_aloadn rfl rfl ?_
      refine ax_callV (as := []) rfl vX8_184 hX8_coverNow rfl rfl rfl rfl rfl (c_X8_coverNow E (d + 3) M11 h fx fy q1 q2 h.toNat (by omega) (by omega) (by omega) (fun e e0 e1 => FG_ne hG (by omega) e0 e1) (fun e c he hcx => gp_pos hG (by omega) he hcx) q3.2.2.2) (fun r22 M22 hr22 => ?_)
      obtain ⟨rfl, p1, p2, p3, p4⟩ := hr22
      have f22 := f11.tr p3
      refine ax_goto rfl ?_
      refine ax_istoren (ls' := [(0, _), (1, _)]) rfl rfl rfl ?_
      refine ax_iloadn rfl rfl ?_
      refine ax_iconst rfl ?_
      refine ax_icmp_le rfl (by omega) (by omega) (fun h35 => ?_) (fun h35 => ?_)
      · refine ax_iconst rfl ?_
        refine ax_iret rfl rfl ?_
        first
          | exact ⟨⟨_, rfl, Or.inr ⟨by omega, k, hl, by omega⟩⟩, f22⟩
          | exact ⟨⟨_, rfl, Or.inr ⟨by omega, k, hl, by omega⟩⟩, f11⟩
      · refine ax_iloadn rfl rfl ?_
        refine ax_goto rfl ?_
        refine ax_iret rfl rfl ?_
        first
          | exact ⟨⟨_, rfl, Or.inr ⟨by omega, k, hl, by omega⟩⟩, f22⟩
          | exact ⟨⟨_, rfl, Or.inr ⟨by omega, k, hl, by omega⟩⟩, f11⟩
  · refine ax_ldc (z := (-900000003)) rfl kX8_137 rfl ?_
    refine ax_iret rfl rfl ?_
    exact ⟨⟨_, rfl, Or.inl ⟨by omega, rfl⟩⟩, hq.c hc⟩
