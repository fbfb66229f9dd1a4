/-! ===== the reference: tables ===== -/
def RTm (M : av_M) : Prop := (1 ≤ M 35 19 ∧ M 35 19 ≤ 8) ∧ (1 ≤ M 35 20 ∧ M 35 20 ≤ 999) ∧ (∀ j, 0 ≤ j → j < 96 → 0 ≤ M 50 j ∧ M 50 j ≤ 9999) ∧ (∀ j, 0 ≤ j → j < 96 → 0 ≤ M 51 j ∧ M 51 j ≤ 9999)
def rfT (M : av_M) (e c : Int) : Int → Int := fun k => M 50 (e * 8 + k) * M 51 (k * 12 + c)
def rOK (M : av_M) (h : Int) (fx fy : Int → Int) : Int → Int → Prop := fun e c => isum (rfT M e c) (M 35 19).toNat = M 35 20 * gp h fx fy e c
theorem rfT_rng {M : av_M} (hT : RTm M) {e c : Int} (he : 0 ≤ e ∧ e < 12) (hc : 0 ≤ c ∧ c < 12) (n : Nat) (hn : n ≤ 8) : -(100000000 * 8) ≤ isum (rfT M e c) n ∧ isum (rfT M e c) n ≤ 100000000 * 8 := by
  have := isum_rng (f := rfT M e c) (A := 100000000) n (fun k hk => by
    have t1 := hT.2.2.1 (e * 8 + k) (by omega) (by omega)
    have t2 := hT.2.2.2 (k * 12 + c) (by omega) (by omega)
    have := mb (A := 9999) (B := 9999) (x := M 50 (e * 8 + k)) (y := M 51 (k * 12 + c)) (by omega) (by omega)
    unfold rfT
    omega)
  have h2 : (100000000 : Int) * n ≤ 100000000 * 8 := by omega
  omega
set_option maxRecDepth 100000 in
set_option maxHeartbeats 800000 in
theorem l3_X8_wrongPair (E : av_E) (d : Nat) (M : av_M) (hT : RTm M) (e c : Int) (he : 0 ≤ e ∧ e < 12) (hc : 0 ≤ c ∧ c < 12) (Q : Option av_V → av_M → Prop) (nxt : av_S E d mX8_wrongPair 70 [(0, vR 35), (1, vI e), (2, vI c), (3, vL (isum (rfT M e c) (M 35 19).toNat)), (5, vI (M 35 19))] [] M Q) : ∀ (t : Nat) (k : Int), k + t = M 35 19 → 0 ≤ k → av_S E d mX8_wrongPair 25 [(0, vR 35), (1, vI e), (2, vI c), (3, vL (isum (rfT M e c) k.toNat)), (5, vI k)] [] M Q := by
  have h19 := hT.1
  intro t
  induction t with
  | zero =>
    intro k hk k0
    have ek : k = M 35 19 := by omega
    subst ek
    refine ax_iload rfl rfl ?_
    refine ax_aloadn rfl rfl ?_
    refine ax_getI (g := 19) rfl fX8_53 rfl rfl rfl rfl ?_
    refine ax_icmp_ge rfl (by omega) (by omega) (fun h31 => ?_) (fun h31 => ?_)
    · exact nxt
    · omega
  | succ t ih =>
    intro k hk k0
    have ih2 := ih (k + 1) (by omega) (by omega)
    have es : (k + 1).toNat = k.toNat + 1 := by omega
    have eo : isum (rfT M e c) (k.toNat + 1) = isum (rfT M e c) k.toNat + M 50 (e * 8 + (k.toNat : Nat)) * M 51 ((k.toNat : Nat) * 12 + c) := rfl
    rw [show ((k.toNat : Nat) : Int) = k by omega, show e * 8 + k = 8 * e + k by omega, show k * 12 + c = 12 * k + c by omega] at eo
    rw [es, eo] at ih2
    have t1 := hT.2.2.1 (8 * e + k) (by omega) (by omega)
    have t2 := hT.2.2.2 (12 * k + c) (by omega) (by omega)
    refine ax_iload rfl rfl ?_
    refine ax_aloadn rfl rfl ?_
    refine ax_getI (g := 19) rfl fX8_53 rfl rfl rfl rfl ?_
    refine ax_icmp_ge rfl (by omega) (by omega) (fun h31 => ?_) (fun h31 => ?_)
    · omega
    · refine ax_lloadn rfl rfl ?_
      refine ax_aloadn rfl rfl ?_
      refine ax_getR rfl fX8_60 rfl rfl ?_
      refine ax_bipush rfl rfl ?_
      refine ax_iloadn rfl rfl ?_
      refine ax_imul rfl ?_
      refine ax_iload rfl rfl ?_
      refine ax_iadd rfl ?_
      refine ax_iald rfl rfl (by omega) ?_
      refine ax_i2l rfl (by omega) ?_
      refine ax_aloadn rfl rfl ?_
      refine ax_getR rfl fX8_63 rfl rfl ?_
      refine ax_bipush rfl rfl ?_
      refine ax_iload rfl rfl ?_
      refine ax_imul rfl ?_
      refine ax_iloadn rfl rfl ?_
      refine ax_iadd rfl ?_
      refine ax_iald rfl rfl (by omega) ?_
      refine ax_i2l rfl (by omega) ?_
      refine ax_lmul rfl ?_
      refine ax_ladd rfl ?_
      refine ax_lstoren (ls' := [(0, _), (1, _), (2, _), (3, _), (5, _)]) rfl rfl rfl ?_
      refine ax_iinc (ls' := [(0, _), (1, _), (2, _), (3, _), (5, _)]) rfl rfl rfl rfl ?_
      refine ax_goto rfl ?_
      exact ih2
set_option maxRecDepth 100000 in
set_option maxHeartbeats 800000 in
theorem l2_X8_wrongPair (E : av_E) (d : Nat) (M : av_M) (h : Int) (fx fy : Int → Int) (hL : LFm M h fx fy) (hP : M 35 0 ≤ 12) (hT : RTm M) (hne : ∀ e, 0 ≤ e → e < h → ¬ (fx (nxI h e) = fx e ∧ fy (nxI h e) = fy e)) (e : Int) (he : 0 ≤ e ∧ e < h) (nxt : (∀ a b, 0 ≤ a → a < h → 0 ≤ b → b < h → (a < (e + 1) ∨ (a = (e + 1) ∧ b < 0)) → rOK M h fx fy a b) → av_S E (d + 3) mX8_wrongPair 2 [(0, vR 35), (1, vI (e + 1))] [] M (fun res M' => (∃ r, res = some (vI r) ∧ FW (rOK M h fx fy) h r) ∧ M' = M)) : ∀ (t : Nat) (c : Int), c + t = h → 0 ≤ c → (∀ a b, 0 ≤ a → a < h → 0 ≤ b → b < h → (a < e ∨ (a = e ∧ b < c)) → rOK M h fx fy a b) → av_S E (d + 3) mX8_wrongPair 12 [(0, vR 35), (1, vI e), (2, vI c)] [] M (fun res M' => (∃ r, res = some (vI r) ∧ FW (rOK M h fx fy) h r) ∧ M' = M) := by
  have hL0 := hL
  obtain ⟨eh, h12, hc⟩ := hL
  have hfb : Fb h fx fy := ⟨by omega, by omega, fun k k0 k1 => (hc k k0 k1).2.2.2.2.2⟩
  have h19 := hT.1
  have h20 := hT.2.1
  intro t
  induction t with
  | zero =>
    intro c hcc c0 hb
    have ec : c = h := by omega
    subst ec
    refine ax_iloadn rfl rfl ?_
    refine ax_aloadn rfl rfl ?_
    refine ax_getI (g := 7) rfl fX8_131 rfl rfl rfl rfl ?_
    refine ax_icmp_ge rfl (by omega) (by omega) (fun h17 => ?_) (fun h17 => ?_)
    · refine ax_iinc (ls' := [(0, _), (1, _), (2, _)]) rfl rfl rfl rfl ?_
      refine ax_goto rfl ?_
      refine ax_pick [0, 1] rfl ?_
      exact nxt (fun a b a0 a1 b0 b1 q => hb a b a0 a1 b0 b1 (by omega))
    · omega
  | succ t ih =>
    intro c hcc c0 hb
    have rg := gp_rng hfb he ⟨c0, show c < h by omega⟩
    have rs := rfT_rng hT (e := e) (c := c) (by omega) (by omega) (M 35 19).toNat (by omega)
    have rm := mb (A := 999) (B := 20000) (x := M 35 20) (y := gp h fx fy e c) (by omega) (by omega)
    have k : av_S E (d + 3) mX8_wrongPair 70 [(0, vR 35), (1, vI e), (2, vI c), (3, vL (isum (rfT M e c) (M 35 19).toNat)), (5, vI (M 35 19))] [] M (fun res M' => (∃ r, res = some (vI r) ∧ FW (rOK M h fx fy) h r) ∧ M' = M) := by
      refine ax_lloadn rfl rfl ?_
      refine ax_aloadn rfl rfl ?_
      refine ax_getI (g := 20) rfl fX8_57 rfl rfl rfl rfl ?_
      refine ax_i2l rfl (by omega) ?_
      refine ax_aloadn rfl rfl ?_
      refine ax_iloadn rfl rfl ?_
      refine ax_iloadn rfl rfl ?_
      refine ax_callV (as := [_, _]) rfl vX8_144 hX8_slackOf rfl rfl rfl rfl rfl (c_X8_slackOf E d M h fx fy hL0 hP e c he ⟨c0, by omega⟩ (hne e he.1 he.2)) (av_Xk ?_)
      refine ax_i2l rfl (by omega) ?_
      refine ax_lmul rfl ?_
      refine ax_lif_eq rfl rfl (by omega) (by omega) (fun h84 => ?_) (fun h84 => ?_)
      · refine ax_iinc (ls' := [(0, _), (1, _), (2, _), (3, _), (5, _)]) rfl rfl rfl rfl ?_
        refine ax_goto rfl ?_
        refine ax_pick [0, 1, 2] rfl ?_
        refine ih (c + 1) (by omega) (by omega) (fun a b a0 a1 b0 b1 q => ?_)
        by_cases z : a = e ∧ b = c
        · rw [z.1, z.2]
          show isum (rfT M e c) (M 35 19).toNat = M 35 20 * gp h fx fy e c
          omega
        · exact hb a b a0 a1 b0 b1 (by omega)
      · refine ax_bipush rfl rfl ?_
        refine ax_iloadn rfl rfl ?_
        refine ax_imul rfl ?_
        refine ax_iloadn rfl rfl ?_
        refine ax_iadd rfl ?_
        refine ax_iret rfl rfl ?_
        refine ⟨⟨_, rfl, Or.inl ⟨e, c, he.1, he.2, c0, by omega, fun q => ?_, hb, rfl⟩⟩, rfl⟩
        have q2 : isum (rfT M e c) (M 35 19).toNat = M 35 20 * gp h fx fy e c := q
        omega
    have k3 := l3_X8_wrongPair E (d + 3) M hT e c (by omega) (by omega) _ k (M 35 19).toNat 0 (by omega) (by omega)
    have z : isum (rfT M e c) (0 : Int).toNat = 0 := rfl
    rw [z] at k3
    refine ax_iloadn rfl rfl ?_
    refine ax_aloadn rfl rfl ?_
    refine ax_getI (g := 7) rfl fX8_131 rfl rfl rfl rfl ?_
    refine ax_icmp_ge rfl (by omega) (by omega) (fun h17 => ?_) (fun h17 => ?_)
    · omega
    · refine ax_lconst (w := 0) rfl rfl ?_
      refine ax_lstoren (ls' := [(0, _), (1, _), (2, _), (3, _)]) rfl rfl rfl ?_
      refine ax_iconst rfl ?_
      refine ax_istore (ls' := [(0, _), (1, _), (2, _), (3, _), (5, _)]) rfl rfl rfl ?_
      exact k3
set_option maxRecDepth 100000 in
set_option maxHeartbeats 800000 in
theorem l1_X8_wrongPair (E : av_E) (d : Nat) (M : av_M) (h : Int) (fx fy : Int → Int) (hL : LFm M h fx fy) (hP : M 35 0 ≤ 12) (hT : RTm M) (hne : ∀ e, 0 ≤ e → e < h → ¬ (fx (nxI h e) = fx e ∧ fy (nxI h e) = fy e)) : ∀ (t : Nat) (e : Int), e + t = h → 0 ≤ e → (∀ a b, 0 ≤ a → a < h → 0 ≤ b → b < h → (a < e ∨ (a = e ∧ b < 0)) → rOK M h fx fy a b) → av_S E (d + 3) mX8_wrongPair 2 [(0, vR 35), (1, vI e)] [] M (fun res M' => (∃ r, res = some (vI r) ∧ FW (rOK M h fx fy) h r) ∧ M' = M) := by
  have hL0 := hL
  obtain ⟨eh, h12, hc⟩ := hL
  intro t
  induction t with
  | zero =>
    intro e he e0 hb
    have ee : e = h := by omega
    subst ee
    refine ax_iloadn rfl rfl ?_
    refine ax_aloadn rfl rfl ?_
    refine ax_getI (g := 7) rfl fX8_131 rfl rfl rfl rfl ?_
    refine ax_icmp_ge rfl (by omega) (by omega) (fun h7 => ?_) (fun h7 => ?_)
    · refine ax_ldc (z := (-900000009)) rfl kX8_204 rfl ?_
      refine ax_iret rfl rfl ?_
      exact ⟨⟨_, rfl, Or.inr ⟨fun a b a0 a1 b0 b1 => hb a b a0 a1 b0 b1 (by omega), rfl⟩⟩, rfl⟩
    · omega
  | succ t ih =>
    intro e he e0 hb
    refine ax_iloadn rfl rfl ?_
    refine ax_aloadn rfl rfl ?_
    refine ax_getI (g := 7) rfl fX8_131 rfl rfl rfl rfl ?_
    refine ax_icmp_ge rfl (by omega) (by omega) (fun h7 => ?_) (fun h7 => ?_)
    · omega
    · refine ax_iconst rfl ?_
      refine ax_istoren (ls' := [(0, _), (1, _), (2, _)]) rfl rfl rfl ?_
      exact l2_X8_wrongPair E d M h fx fy hL0 hP hT hne e (by omega) (fun q => ih (e + 1) (by omega) (by omega) q) h.toNat 0 (by omega) (by omega) hb
set_option maxRecDepth 100000 in
set_option maxHeartbeats 800000 in
theorem c_X8_wrongPair (E : av_E) (d : Nat) (M : av_M) (h : Int) (fx fy : Int → Int) (hL : LFm M h fx fy) (hP : M 35 0 ≤ 12) (hT : RTm M) (hne : ∀ e, 0 ≤ e → e < h → ¬ (fx (nxI h e) = fx e ∧ fy (nxI h e) = fy e)) : av_Mt E (d + 3) mX8_wrongPair [vR 35] M (fun res M' => (∃ r, res = some (vI r) ∧ FW (rOK M h fx fy) h r) ∧ M' = M) := by
  have h12 := hL.2.1
  refine av_enter hX8_wrongPair oX8_wrongPair rfl rfl ?_
  refine ax_iconst rfl ?_
  refine ax_istoren (ls' := [(0, _), (1, _)]) rfl rfl rfl ?_
  exact l1_X8_wrongPair E d M h fx fy hL hP hT hne h.toNat 0 (by omega) (by omega) (fun a b a0 a1 b0 b1 q => by omega)
theorem RTm_k {M M' : av_M} (h : RTm M) (e : RQ M M') : RTm M' := by
  unfold RTm
  rw [e.2.1 19 (by omega), e.2.1 20 (by omega), e.2.2 50 (by omega), e.2.2 51 (by omega)]
  exact h
theorem rOK_k {M M' : av_M} (e : RQ M M') (h : Int) (fx fy : Int → Int) : rOK M' h fx fy = rOK M h fx fy := by
  unfold rOK rfT
  rw [e.2.1 19 (by omega), e.2.1 20 (by omega), e.2.2 50 (by omega), e.2.2 51 (by omega)]
set_option maxRecDepth 100000 in
set_option maxHeartbeats 800000 in
theorem c_X8_hold (E : av_E) (d : Nat) (M : av_M) (hP : RPm M) (h : Int) (fx fy : Int → Int) (hG : FG (M 35 0) (M 36) (M 37) h fx fy) (hT : RTm M) : av_Mt E (d + 8) mX8_hold [vR 35] M (fun res M' => (∃ z, res = some (vI z) ∧ ((h < 3 ∧ z = (-900000003)) ∨ (¬ h < 3 ∧ ∃ r, FW (rOK M h fx fy) h r ∧ (z = 1 ∧ r = -900000009 ∨ z = 0 ∧ r ≠ -900000009)))) ∧ RQ M M') := by
  refine av_enter hX8_hold oX8_hold rfl rfl ?_
  refine ax_aloadn rfl rfl ?_
  refine ax_callV (as := []) rfl vX8_147 hX8_isFlat rfl rfl rfl rfl rfl (c_X8_isFlat2 E (d + 2) M hP h fx fy hG) (fun r1 M1 hr1 => ?_)
  obtain ⟨rfl, hL, hk⟩ := hr1
  have hq := LFk.q hk
  have hL0 := hL
  obtain ⟨eh, h12, hc⟩ := hL
  have e0 : M1 35 0 = M 35 0 := hk.1 0 (by decide)
  have hn := hP.1
  have bf := b01_c (h < 3)
  refine ax_if_eq rfl (by omega) (fun h4 => ?_) (fun h4 => ?_)
  · refine ax_aloadn rfl rfl ?_
    refine ax_callV (as := []) rfl vX8_205 hX8_wrongPair rfl rfl rfl rfl rfl (c_X8_wrongPair E (d + 4) M1 h fx fy hL0 (by omega) (RTm_k hT hq) (fun e e0 e1 => FG_ne hG (by omega) e0 e1)) (fun r13 M13 hr13 => ?_)
    obtain ⟨⟨r, rfl, hw⟩, rfl⟩ := hr13
    rw [rOK_k hq] at hw
    have fr := FW_rng (by omega) hw
    refine ax_ldc (z := (-900000009)) rfl kX8_204 rfl ?_
    refine ax_icmp_ne rfl (by omega) (by omega) (fun h18 => ?_) (fun h18 => ?_)
    · refine ax_iconst rfl ?_
      refine ax_iret rfl rfl ?_
      first
        | exact ⟨⟨_, rfl, Or.inl ⟨by omega, rfl⟩⟩, hq⟩
        | exact ⟨⟨_, rfl, Or.inr ⟨by omega, r, hw, by omega⟩⟩, hq⟩
    · refine ax_iconst rfl ?_
      refine ax_goto rfl ?_
      refine ax_iret rfl rfl ?_
      first
        | exact ⟨⟨_, rfl, Or.inl ⟨by omega, rfl⟩⟩, hq⟩
        | exact ⟨⟨_, rfl, Or.inr ⟨by omega, r, hw, by omega⟩⟩, hq⟩
  · refine ax_ldc (z := (-900000003)) rfl kX8_137 rfl ?_
    refine ax_goto rfl ?_
    refine ax_iret rfl rfl ?_
    first
      | exact ⟨⟨_, rfl, Or.inl ⟨by omega, rfl⟩⟩, hq⟩
      | exact ⟨⟨_, rfl, Or.inr ⟨by omega, r, hw, by omega⟩⟩, hq⟩
set_option maxRecDepth 100000 in
set_option maxHeartbeats 800000 in
theorem c_X8_wrong (E : av_E) (d : Nat) (M : av_M) (hP : RPm M) (h : Int) (fx fy : Int → Int) (hG : FG (M 35 0) (M 36) (M 37) h fx fy) (hT : RTm M) : av_Mt E (d + 8) mX8_wrong [vR 35] M (fun res M' => (∃ z, res = some (vI z) ∧ ((h < 3 ∧ z = (-900000003)) ∨ (¬ h < 3 ∧ ∃ r, FW (rOK M h fx fy) h r ∧ z = r))) ∧ RQ M M') := by
  refine av_enter hX8_wrong oX8_wrong rfl rfl ?_
  refine ax_aloadn rfl rfl ?_
  refine ax_callV (as := []) rfl vX8_147 hX8_isFlat rfl rfl rfl rfl rfl (c_X8_isFlat2 E (d + 2) M hP h fx fy hG) (fun r1 M1 hr1 => ?_)
  obtain ⟨rfl, hL, hk⟩ := hr1
  have hq := LFk.q hk
  have hL0 := hL
  obtain ⟨eh, h12, hc⟩ := hL
  have e0 : M1 35 0 = M 35 0 := hk.1 0 (by decide)
  have hn := hP.1
  have bf := b01_c (h < 3)
  refine ax_if_eq rfl (by omega) (fun h4 => ?_) (fun h4 => ?_)
  · refine ax_aloadn rfl rfl ?_
    refine ax_callV (as := []) rfl vX8_205 hX8_wrongPair rfl rfl rfl rfl rfl (c_X8_wrongPair E (d + 4) M1 h fx fy hL0 (by omega) (RTm_k hT hq) (fun e e0 e1 => FG_ne hG (by omega) e0 e1)) (fun r13 M13 hr13 => ?_)
    obtain ⟨⟨r, rfl, hw⟩, rfl⟩ := hr13
    rw [rOK_k hq] at hw
    have fr := FW_rng (by omega) hw
    refine ax_iret rfl rfl ?_
    first
      | exact ⟨⟨_, rfl, Or.inl ⟨by omega, rfl⟩⟩, hq⟩
      | exact ⟨⟨_, rfl, Or.inr ⟨by omega, r, hw, by omega⟩⟩, hq⟩
  · refine ax_ldc (z := (-900000003)) rfl kX8_137 rfl ?_
    refine ax_goto rfl ?_
    refine ax_iret rfl rfl ?_
    first
      | exact ⟨⟨_, rfl, Or.inl ⟨by omega, rfl⟩⟩, hq⟩
      | exact ⟨⟨_, rfl, Or.inr ⟨by omega, r, hw, by omega⟩⟩, hq⟩
