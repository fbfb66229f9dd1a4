/-! ===== the reference: what is asked of the figure ===== -/
def RQ (M M' : av_M) : Prop := (∀ k, k < 35 → M' k = M k) ∧ (∀ f : Int, f = 0 ∨ f = 19 ∨ f = 20 ∨ f = 23 → M' 35 f = M 35 f) ∧ ∀ k, k = 36 ∨ k = 37 ∨ k = 45 ∨ k = 46 ∨ k = 50 ∨ k = 51 ∨ k = 52 ∨ k = 53 → M' k = M k
theorem RQ.rf (M : av_M) : RQ M M := ⟨fun _ _ => rfl, fun _ _ => rfl, fun _ _ => rfl⟩
theorem RQ.tr {M M1 M2 : av_M} (h : RQ M M1) (g : RQ M1 M2) : RQ M M2 := ⟨fun k q => by rw [g.1 k q, h.1 k q], fun f q => by rw [g.2.1 f q, h.2.1 f q], fun k q => by rw [g.2.2 k q, h.2.2 k q]⟩
theorem LFk.q {M M' : av_M} (h : LFk M M') : RQ M M' := ⟨fun k q => h.2.2 k (by omega) (by omega) (by omega) (by omega) (by omega), fun f q => h.1 f (by omega), fun k q => h.2.2 k (by omega) (by omega) (by omega) (by omega) (by omega)⟩
theorem LSk.q {M M' : av_M} (h : LSk M M') : RQ M M' := ⟨fun k q => h.2 k (by omega) (by omega) (by omega) (by omega) (by omega) (by omega) (by omega) (by omega) (by omega), fun f q => h.1 f (by omega) (by omega), fun k q => h.2 k (by omega) (by omega) (by omega) (by omega) (by omega) (by omega) (by omega) (by omega) (by omega)⟩
theorem RK.q {M M' : av_M} (h : RK M M') : RQ M M' := ⟨fun k q => h.2 k (by omega) (by omega) (by omega) (by omega) (by omega), fun f q => h.1 f (by omega), fun k q => h.2 k (by omega) (by omega) (by omega) (by omega) (by omega)⟩
theorem av_rq {M M' : av_M} {z z' : Int} (e : z = z') (h : RQ M M') : some (vI z) = some (vI z') ∧ RQ M M' := ⟨by rw [e], h⟩
set_option maxRecDepth 100000 in
set_option maxHeartbeats 800000 in
theorem c_X8_corners (E : av_E) (d : Nat) (M : av_M) (hP : RPm M) (h : Int) (fx fy : Int → Int) (hG : FG (M 35 0) (M 36) (M 37) h fx fy)  : av_Mt E (d + 8) mX8_corners [vR 35] M (fun res M' => res = some (vI (h)) ∧ RQ M M') := by
  refine av_enter hX8_corners oX8_corners rfl rfl ?_
  refine ax_aloadn rfl rfl ?_
  refine ax_callV (as := []) rfl vX8_134 hX8_layFigure rfl rfl rfl rfl rfl (c_X8_layFigure E (d + 3) M hP h fx fy hG) (fun r1 M1 hr1 => ?_)
  obtain ⟨rfl, hL, hk⟩ := hr1
  have hq := LFk.q hk
  have hL0 := hL
  obtain ⟨eh, h12, hc⟩ := hL
  have e0 : M1 35 0 = M 35 0 := hk.1 0 (by decide)
  have hn := hP.1
  refine ax_aloadn rfl rfl ?_
  refine ax_getI (g := 7) rfl fX8_131 rfl rfl rfl rfl ?_
  refine ax_iret rfl rfl ?_
  exact av_rq eh hq
set_option maxRecDepth 100000 in
set_option maxHeartbeats 800000 in
theorem c_X8_isFlat (E : av_E) (d : Nat) (M : av_M) (hP : RPm M) (h : Int) (fx fy : Int → Int) (hG : FG (M 35 0) (M 36) (M 37) h fx fy)  : av_Mt E (d + 5) mX8_isFlat [vR 35] M (fun res M' => res = some (vI (b01 (h < 3))) ∧ RQ M M') := by
  refine av_enter hX8_isFlat oX8_isFlat rfl rfl ?_
  refine ax_aloadn rfl rfl ?_
  refine ax_callV (as := []) rfl vX8_134 hX8_layFigure rfl rfl rfl rfl rfl (c_X8_layFigure E d M hP h fx fy hG) (fun r1 M1 hr1 => ?_)
  obtain ⟨rfl, hL, hk⟩ := hr1
  have hq := LFk.q hk
  have hL0 := hL
  obtain ⟨eh, h12, hc⟩ := hL
  have e0 : M1 35 0 = M 35 0 := hk.1 0 (by decide)
  have hn := hP.1
  refine ax_aloadn rfl rfl ?_
  refine ax_getI (g := 7) rfl fX8_131 rfl rfl rfl rfl ?_
  refine ax_iconst rfl ?_
  refine ax_icmp_ge rfl (by omega) (by omega) (fun h9 => ?_) (fun h9 => ?_)
  · refine ax_iconst rfl ?_
    refine ax_zret rfl rfl (by omega) ?_
    first | exact av_rq (b01_t (by omega)).symm hq | exact av_rq (b01_f (by omega)).symm hq
  · refine ax_iconst rfl ?_
    refine ax_goto rfl ?_
    refine ax_zret rfl rfl (by omega) ?_
    first | exact av_rq (b01_t (by omega)).symm hq | exact av_rq (b01_f (by omega)).symm hq
set_option maxRecDepth 100000 in
set_option maxHeartbeats 800000 in
theorem c_X8_corner (E : av_E) (d : Nat) (M : av_M) (hP : RPm M) (h : Int) (fx fy : Int → Int) (hG : FG (M 35 0) (M 36) (M 37) h fx fy) (c y : Int) (hic : -2147483648 ≤ c ∧ c < 2147483648) (hiy : -2147483648 ≤ y ∧ y < 2147483648) : av_Mt E (d + 8) mX8_corner [vR 35, vI c, vI y] M (fun res M' => res = some (vI (if ¬ (0 ≤ c ∧ c < h) then (-900000001) else if y = 0 then fx c else fy c)) ∧ RQ M M') := by
  refine av_enter hX8_corner oX8_corner rfl rfl ?_
  refine ax_aloadn rfl rfl ?_
  refine ax_callV (as := []) rfl vX8_134 hX8_layFigure rfl rfl rfl rfl rfl (c_X8_layFigure E (d + 3) M hP h fx fy hG) (fun r1 M1 hr1 => ?_)
  obtain ⟨rfl, hL, hk⟩ := hr1
  have hq := LFk.q hk
  have hL0 := hL
  obtain ⟨eh, h12, hc⟩ := hL
  have e0 : M1 35 0 = M 35 0 := hk.1 0 (by decide)
  have hn := hP.1
  have bi := b01_c (0 ≤ c ∧ c ≤ M1 35 7 - 1)
  have hx : 0 ≤ c ∧ c < h → (0 ≤ M1 41 c ∧ M1 41 c < 12) ∧ M1 36 (M1 41 c) = fx c ∧ M1 37 (M1 41 c) = fy c := fun q => by
    obtain ⟨p1, p2, p3, _⟩ := hc c q.1 q.2
    omega
  refine ax_iloadn rfl rfl ?_
  refine ax_i2l rfl (by omega) ?_
  refine ax_lconst (w := 0) rfl rfl ?_
  refine ax_aloadn rfl rfl ?_
  refine ax_getI (g := 7) rfl fX8_131 rfl rfl rfl rfl ?_
  refine ax_iconst rfl ?_
  refine ax_isub rfl ?_
  refine ax_i2l rfl (by omega) ?_
  refine ax_callS (as := [_, _, _]) rfl sX8_96 hX8_in rfl rfl rfl rfl (c_X8_in E (d + 7) M1 c 0 (M1 35 7 - 1) (by omega) (by omega) (by omega)) (av_Xk ?_)
  refine ax_if_ne rfl (by omega) (fun h17 => ?_) (fun h17 => ?_)
  · refine ax_iloadn rfl rfl ?_
    refine ax_if_eq rfl (by omega) (fun h26 => ?_) (fun h26 => ?_)
    · refine ax_aloadn rfl rfl ?_
      refine ax_getR rfl fX8_7 rfl rfl ?_
      refine ax_aloadn rfl rfl ?_
      refine ax_getR rfl fX8_26 rfl rfl ?_
      refine ax_iloadn rfl rfl ?_
      refine ax_iald rfl rfl (by omega) ?_
      refine ax_iald rfl rfl (by omega) ?_
      refine ax_iret rfl rfl ?_
      refine av_rq ?_ hq
      (repeat' split) <;> omega
    · refine ax_aloadn rfl rfl ?_
      refine ax_getR rfl fX8_13 rfl rfl ?_
      refine ax_aloadn rfl rfl ?_
      refine ax_getR rfl fX8_26 rfl rfl ?_
      refine ax_iloadn rfl rfl ?_
      refine ax_iald rfl rfl (by omega) ?_
      refine ax_iald rfl rfl (by omega) ?_
      refine ax_goto rfl ?_
      refine ax_iret rfl rfl ?_
      refine av_rq ?_ hq
      (repeat' split) <;> omega
  · refine ax_ldc (z := (-900000001)) rfl kX8_105 rfl ?_
    refine ax_goto rfl ?_
    refine ax_iret rfl rfl ?_
    refine av_rq ?_ hq
    (repeat' split) <;> omega
set_option maxRecDepth 100000 in
set_option maxHeartbeats 800000 in
theorem c_X8_wallOf (E : av_E) (d : Nat) (M : av_M) (hP : RPm M) (h : Int) (fx fy : Int → Int) (hG : FG (M 35 0) (M 36) (M 37) h fx fy) (e w : Int) (hie : -2147483648 ≤ e ∧ e < 2147483648) (hiw : -2147483648 ≤ w ∧ w < 2147483648) : av_Mt E (d + 8) mX8_wallOf [vR 35, vI e, vI w] M (fun res M' => res = some (vI (if ¬ (0 ≤ e ∧ e < h) then (-900000001) else if h < 3 then (-900000003) else if ¬ (0 ≤ w ∧ w ≤ 2) then (-900000002) else wq h fx fy e w)) ∧ RQ M M') := by
  refine av_enter hX8_wallOf oX8_wallOf rfl rfl ?_
  refine ax_aloadn rfl rfl ?_
  refine ax_callV (as := []) rfl vX8_134 hX8_layFigure rfl rfl rfl rfl rfl (c_X8_layFigure E (d + 3) M hP h fx fy hG) (fun r1 M1 hr1 => ?_)
  obtain ⟨rfl, hL, hk⟩ := hr1
  have hq := LFk.q hk
  have hL0 := hL
  obtain ⟨eh, h12, hc⟩ := hL
  have e0 : M1 35 0 = M 35 0 := hk.1 0 (by decide)
  have hn := hP.1
  have bi := b01_c (0 ≤ e ∧ e ≤ M1 35 7 - 1)
  have bw := b01_c (0 ≤ w ∧ w ≤ 2)
  refine ax_iloadn rfl rfl ?_
  refine ax_i2l rfl (by omega) ?_
  refine ax_lconst (w := 0) rfl rfl ?_
  refine ax_aloadn rfl rfl ?_
  refine ax_getI (g := 7) rfl fX8_131 rfl rfl rfl rfl ?_
  refine ax_iconst rfl ?_
  refine ax_isub rfl ?_
  refine ax_i2l rfl (by omega) ?_
  refine ax_callS (as := [_, _, _]) rfl sX8_96 hX8_in rfl rfl rfl rfl (c_X8_in E (d + 7) M1 e 0 (M1 35 7 - 1) (by omega) (by omega) (by omega)) (av_Xk ?_)
  refine ax_if_ne rfl (by omega) (fun h17 => ?_) (fun h17 => ?_)
  · refine ax_aloadn rfl rfl ?_
    refine ax_getI (g := 7) rfl fX8_131 rfl rfl rfl rfl ?_
    refine ax_iconst rfl ?_
    refine ax_icmp_ge rfl (by omega) (by omega) (fun h28 => ?_) (fun h28 => ?_)
    · refine ax_iloadn rfl rfl ?_
      refine ax_i2l rfl (by omega) ?_
      refine ax_lconst (w := 0) rfl rfl ?_
      refine ax_ldc2 (z := 2) rfl kX8_138 rfl ?_
      refine ax_callS (as := [_, _, _]) rfl sX8_96 hX8_in rfl rfl rfl rfl (c_X8_in E (d + 7) M1 w 0 2 (by omega) (by omega) (by omega)) (av_Xk ?_)
      refine ax_if_eq rfl (by omega) (fun h45 => ?_) (fun h45 => ?_)
      · refine ax_ldc (z := (-900000002)) rfl kX8_100 rfl ?_
        refine ax_iret rfl rfl ?_
        refine av_rq ?_ hq
        (repeat' split) <;> omega
      · refine ax_aloadn rfl rfl ?_
        refine ax_iloadn rfl rfl ?_
        refine ax_iloadn rfl rfl ?_
        refine ax_callV (as := [_, _]) rfl vX8_140 hX8_wallPart rfl rfl rfl rfl rfl (c_X8_wallPart E (d + 6) M1 h fx fy hL0 (by omega) e w (by omega) (by omega) (FG_ne hG (by omega) (by omega) (by omega))) (av_Xk ?_)
        refine ax_goto rfl ?_
        refine ax_iret rfl rfl ?_
        refine av_rq ?_ hq
        (repeat' split) <;> omega
    · refine ax_ldc (z := (-900000003)) rfl kX8_137 rfl ?_
      refine ax_goto rfl ?_
      refine ax_iret rfl rfl ?_
      refine av_rq ?_ hq
      (repeat' split) <;> omega
  · refine ax_ldc (z := (-900000001)) rfl kX8_105 rfl ?_
    refine ax_iret rfl rfl ?_
    refine av_rq ?_ hq
    (repeat' split) <;> omega
set_option maxRecDepth 100000 in
set_option maxHeartbeats 800000 in
theorem c_X8_slack (E : av_E) (d : Nat) (M : av_M) (hP : RPm M) (h : Int) (fx fy : Int → Int) (hG : FG (M 35 0) (M 36) (M 37) h fx fy) (e c : Int) (hie : -2147483648 ≤ e ∧ e < 2147483648) (hic : -2147483648 ≤ c ∧ c < 2147483648) : av_Mt E (d + 8) mX8_slack [vR 35, vI e, vI c] M (fun res M' => res = some (vI (if ¬ ((0 ≤ e ∧ e < h) ∧ (0 ≤ c ∧ c < h)) then (-900000001) else if h < 3 then (-900000003) else gp h fx fy e c)) ∧ RQ M M') := by
  refine av_enter hX8_slack oX8_slack rfl rfl ?_
  refine ax_aloadn rfl rfl ?_
  refine ax_callV (as := []) rfl vX8_134 hX8_layFigure rfl rfl rfl rfl rfl (c_X8_layFigure E (d + 3) M hP h fx fy hG) (fun r1 M1 hr1 => ?_)
  obtain ⟨rfl, hL, hk⟩ := hr1
  have hq := LFk.q hk
  have hL0 := hL
  obtain ⟨eh, h12, hc⟩ := hL
  have e0 : M1 35 0 = M 35 0 := hk.1 0 (by decide)
  have hn := hP.1
  have bi := b01_c (0 ≤ e ∧ e ≤ M1 35 7 - 1)
  have bw := b01_c (0 ≤ c ∧ c ≤ M1 35 7 - 1)
  refine ax_iloadn rfl rfl ?_
  refine ax_i2l rfl (by omega) ?_
  refine ax_lconst (w := 0) rfl rfl ?_
  refine ax_aloadn rfl rfl ?_
  refine ax_getI (g := 7) rfl fX8_131 rfl rfl rfl rfl ?_
  refine ax_iconst rfl ?_
  refine ax_isub rfl ?_
  refine ax_i2l rfl (by omega) ?_
  refine ax_callS (as := [_, _, _]) rfl sX8_96 hX8_in rfl rfl rfl rfl (c_X8_in E (d + 7) M1 e 0 (M1 35 7 - 1) (by omega) (by omega) (by omega)) (av_Xk ?_)
  refine ax_if_eq rfl (by omega) (fun h17 => ?_) (fun h17 => ?_)
  · refine ax_ldc (z := (-900000001)) rfl kX8_105 rfl ?_
    refine ax_iret rfl rfl ?_
    refine av_rq ?_ hq
    (repeat' split) <;> omega
  · refine ax_iloadn rfl rfl ?_
    refine ax_i2l rfl (by omega) ?_
    refine ax_lconst (w := 0) rfl rfl ?_
    refine ax_aloadn rfl rfl ?_
    refine ax_getI (g := 7) rfl fX8_131 rfl rfl rfl rfl ?_
    refine ax_iconst rfl ?_
    refine ax_isub rfl ?_
    refine ax_i2l rfl (by omega) ?_
    refine ax_callS (as := [_, _, _]) rfl sX8_96 hX8_in rfl rfl rfl rfl (c_X8_in E (d + 7) M1 c 0 (M1 35 7 - 1) (by omega) (by omega) (by omega)) (av_Xk ?_)
    refine ax_if_ne rfl (by omega) (fun h33 => ?_) (fun h33 => ?_)
    · refine ax_aloadn rfl rfl ?_
      refine ax_getI (g := 7) rfl fX8_131 rfl rfl rfl rfl ?_
      refine ax_iconst rfl ?_
      refine ax_icmp_ge rfl (by omega) (by omega) (fun h44 => ?_) (fun h44 => ?_)
      · refine ax_aloadn rfl rfl ?_
        refine ax_iloadn rfl rfl ?_
        refine ax_iloadn rfl rfl ?_
        refine ax_callV (as := [_, _]) rfl vX8_144 hX8_slackOf rfl rfl rfl rfl rfl (c_X8_slackOf E (d + 5) M1 h fx fy hL0 (by omega) e c (by omega) (by omega) (FG_ne hG (by omega) (by omega) (by omega))) (av_Xk ?_)
        refine ax_iret rfl rfl ?_
        refine av_rq ?_ hq
        (repeat' split) <;> omega
      · refine ax_ldc (z := (-900000003)) rfl kX8_137 rfl ?_
        refine ax_goto rfl ?_
        refine ax_iret rfl rfl ?_
        refine av_rq ?_ hq
        (repeat' split) <;> omega
    · refine ax_ldc (z := (-900000001)) rfl kX8_105 rfl ?_
      refine ax_iret rfl rfl ?_
      refine av_rq ?_ hq
      (repeat' split) <;> omega
set_option maxRecDepth 100000 in
set_option maxHeartbeats 800000 in
theorem l_X8_area (E : av_E) (d : Nat) (M : av_M) (h : Int) (fx fy : Int → Int) (hL : LFm M h fx fy) (hP : M 35 0 ≤ 12) : ∀ (t : Nat) (e : Int), e + t = h → 0 ≤ e → av_S E d mX8_area 8 [(0, vR 35), (1, vI (arS h fx fy e.toNat)), (2, vI e)] [] M (av_X (some (vI (arS h fx fy h.toNat))) M) := by
  obtain ⟨eh, h12, hc⟩ := hL
  subst eh
  intro t
  induction t with
  | zero =>
    intro e he e0
    have ee : e = M 35 7 := by omega
    subst ee
    refine ax_iloadn rfl rfl ?_
    refine ax_aloadn rfl rfl ?_
    refine ax_getI (g := 7) rfl fX8_131 rfl rfl rfl rfl ?_
    refine ax_icmp_ge rfl (by omega) (by omega) (fun h13 => ?_) (fun h13 => ?_)
    · refine ax_iloadn rfl rfl ?_
      refine ax_iret rfl rfl ?_
      exact av_rI rfl
    · omega
  | succ t ih =>
    intro e he e0
    have ih2 := ih (e + 1) (by omega) (by omega)
    have es : (e + 1).toNat = e.toNat + 1 := by omega
    have eo : arS (M 35 7) fx fy (e.toNat + 1) = arS (M 35 7) fx fy e.toNat + (fx (e.toNat : Nat) * fy (nxI (M 35 7) (e.toNat : Nat)) - fy (e.toNat : Nat) * fx (nxI (M 35 7) (e.toNat : Nat))) := rfl
    rw [show ((e.toNat : Nat) : Int) = e by omega] at eo
    rw [es, eo] at ih2
    have enx := tmod_nx e0 (show e < M 35 7 by omega)
    have nx := nxI_rng e0 (show e < M 35 7 by omega)
    obtain ⟨p1, p2, p3, _⟩ := hc e e0 (by omega)
    obtain ⟨q1, q2, q3, _⟩ := hc _ nx.1 nx.2
    rw [← enx] at q1 q2 q3 nx ih2
    rw [← p2, ← p3, ← q2, ← q3, Int.mul_comm (M 37 (M 41 e))] at ih2
    refine ax_iloadn rfl rfl ?_
    refine ax_aloadn rfl rfl ?_
    refine ax_getI (g := 7) rfl fX8_131 rfl rfl rfl rfl ?_
    refine ax_icmp_ge rfl (by omega) (by omega) (fun h13 => ?_) (fun h13 => ?_)
    · omega
    · refine ax_aloadn rfl rfl ?_
      refine ax_getR rfl fX8_26 rfl rfl ?_
      refine ax_iloadn rfl rfl ?_
      refine ax_iald rfl rfl (by omega) ?_
      refine ax_istoren (ls' := [(0, _), (1, _), (2, _), (3, _)]) rfl rfl rfl ?_
      refine ax_aloadn rfl rfl ?_
      refine ax_getR rfl fX8_26 rfl rfl ?_
      refine ax_iloadn rfl rfl ?_
      refine ax_iconst rfl ?_
      refine ax_iadd rfl ?_
      refine ax_aloadn rfl rfl ?_
      refine ax_getI (g := 7) rfl fX8_131 rfl rfl rfl rfl ?_
      refine ax_irem rfl (by omega) (by omega) (by omega) ?_
      refine ax_iald rfl rfl (by omega) ?_
      refine ax_istore (ls' := [(0, _), (1, _), (2, _), (3, _), (4, _)]) rfl rfl rfl ?_
      refine ax_iloadn rfl rfl ?_
      refine ax_aloadn rfl rfl ?_
      refine ax_getR rfl fX8_7 rfl rfl ?_
      refine ax_iloadn rfl rfl ?_
      refine ax_iald rfl rfl (by omega) ?_
      refine ax_aloadn rfl rfl ?_
      refine ax_getR rfl fX8_13 rfl rfl ?_
      refine ax_iload rfl rfl ?_
      refine ax_iald rfl rfl (by omega) ?_
      refine ax_imul rfl ?_
      refine ax_aloadn rfl rfl ?_
      refine ax_getR rfl fX8_7 rfl rfl ?_
      refine ax_iload rfl rfl ?_
      refine ax_iald rfl rfl (by omega) ?_
      refine ax_aloadn rfl rfl ?_
      refine ax_getR rfl fX8_13 rfl rfl ?_
      refine ax_iloadn rfl rfl ?_
      refine ax_iald rfl rfl (by omega) ?_
      refine ax_imul rfl ?_
      refine ax_isub rfl ?_
      refine ax_iadd rfl ?_
      refine ax_istoren (ls' := [(0, _), (1, _), (2, _), (3, _), (4, _)]) rfl rfl rfl ?_
      refine ax_iinc (ls' := [(0, _), (1, _), (2, _), (3, _), (4, _)]) rfl rfl rfl rfl ?_
      refine ax_goto rfl ?_
      refine ax_pick [0, 1, 2] rfl ?_
      exact ih2
set_option maxRecDepth 100000 in
set_option maxHeartbeats 800000 in
theorem c_X8_area (E : av_E) (d : Nat) (M : av_M) (hP : RPm M) (h : Int) (fx fy : Int → Int) (hG : FG (M 35 0) (M 36) (M 37) h fx fy)  : av_Mt E (d + 8) mX8_area [vR 35] M (fun res M' => res = some (vI (arS h fx fy h.toNat)) ∧ RQ M M') := by
  refine av_enter hX8_area oX8_area rfl rfl ?_
  refine ax_aloadn rfl rfl ?_
  refine ax_callV (as := []) rfl vX8_134 hX8_layFigure rfl rfl rfl rfl rfl (c_X8_layFigure E (d + 3) M hP h fx fy hG) (fun r1 M1 hr1 => ?_)
  obtain ⟨rfl, hL, hk⟩ := hr1
  have hq := LFk.q hk
  have hL0 := hL
  obtain ⟨eh, h12, hc⟩ := hL
  have e0 : M1 35 0 = M 35 0 := hk.1 0 (by decide)
  have hn := hP.1
  refine ax_iconst rfl ?_
  refine ax_istoren (ls' := [(0, _), (1, _)]) rfl rfl rfl ?_
  refine ax_iconst rfl ?_
  refine ax_istoren (ls' := [(0, _), (1, _), (2, _)]) rfl rfl rfl ?_
  refine av_Sw (l_X8_area E (d + 8) M1 h fx fy hL0 (by omega) h.toNat 0 (by omega) (by omega)) ?_
  rintro r M' ⟨q1, q2⟩
  exact ⟨q1, by rw [q2]; exact hq⟩
set_option maxRecDepth 100000 in
set_option maxHeartbeats 800000 in
theorem l2_X8_open (E : av_E) (d : Nat) (M : av_M) (h : Int) (fx fy : Int → Int) (hL : LFm M h fx fy) (hP : M 35 0 ≤ 12) (hne : ∀ e, 0 ≤ e → e < h → ¬ (fx (nxI h e) = fx e ∧ fy (nxI h e) = fy e)) (e base : Int) (e0 : 0 ≤ e) (e1 : e < h) (Q : Option av_V → av_M → Prop) (hx : av_S E (d + 3) mX8_open 14 [(0, vR 35), (1, vI (base + opS h fx fy e h.toNat)), (2, vI (e + 1))] [] M Q) : ∀ (t : Nat) (c : Int), c + t = h → 0 ≤ c → av_S E (d + 3) mX8_open 24 [(0, vR 35), (1, vI (base + opS h fx fy e c.toNat)), (2, vI e), (3, vI c)] [] M Q := by
  have hL0 := hL
  obtain ⟨eh, h12, hc⟩ := hL
  have hfb : Fb h fx fy := ⟨by omega, by omega, fun k k0 k1 => (hc k k0 k1).2.2.2.2.2⟩
  intro t
  induction t with
  | zero =>
    intro c hcc c0
    have ec : c = h := by omega
    subst ec
    refine ax_iloadn rfl rfl ?_
    refine ax_aloadn rfl rfl ?_
    refine ax_getI (g := 7) rfl fX8_131 rfl rfl rfl rfl ?_
    refine ax_icmp_ge rfl (by omega) (by omega) (fun h29 => ?_) (fun h29 => ?_)
    · refine ax_iinc (ls' := [(0, _), (1, _), (2, _), (3, _)]) rfl rfl rfl rfl ?_
      refine ax_goto rfl ?_
      refine ax_pick [0, 1, 2] rfl ?_
      exact hx
    · omega
  | succ t ih =>
    intro c hcc c0
    have es : (c + 1).toNat = c.toNat + 1 := by omega
    have eo : opS h fx fy e (c.toNat + 1) = opS h fx fy e c.toNat + (if 0 < gp h fx fy e (c.toNat : Nat) then 1 else 0) := rfl
    rw [show ((c.toNat : Nat) : Int) = c by omega] at eo
    have rg := gp_rng hfb ⟨e0, e1⟩ ⟨c0, show c < h by omega⟩
    have this := ih (c + 1) (by omega) (by omega)
    rw [es, eo, ← Int.add_assoc] at this
    refine ax_iloadn rfl rfl ?_
    refine ax_aloadn rfl rfl ?_
    refine ax_getI (g := 7) rfl fX8_131 rfl rfl rfl rfl ?_
    refine ax_icmp_ge rfl (by omega) (by omega) (fun h29 => ?_) (fun h29 => ?_)
    · omega
    · refine ax_iloadn rfl rfl ?_
      refine ax_aloadn rfl rfl ?_
      refine ax_iloadn rfl rfl ?_
      refine ax_iloadn rfl rfl ?_
      refine ax_callV (as := [_, _]) rfl vX8_144 hX8_slackOf rfl rfl rfl rfl rfl (c_X8_slackOf E d M h fx fy hL0 hP e c ⟨e0, e1⟩ ⟨c0, by omega⟩ (hne e e0 e1)) (av_Xk ?_)
      refine ax_if_le rfl (by omega) (fun h39 => ?_) (fun h39 => ?_)
      · refine ax_iconst rfl ?_
        refine ax_iadd rfl ?_
        refine ax_istoren (ls' := [(0, _), (1, _), (2, _), (3, _)]) rfl rfl rfl ?_
        refine ax_iinc (ls' := [(0, _), (1, _), (2, _), (3, _)]) rfl rfl rfl rfl ?_
        refine ax_goto rfl ?_
        first
          | (rw [if_neg (by omega), Int.add_zero] at this; rw [Int.add_zero]; exact this)
          | (rw [if_pos (by omega)] at this; exact this)
      · refine ax_iconst rfl ?_
        refine ax_goto rfl ?_
        refine ax_iadd rfl ?_
        refine ax_istoren (ls' := [(0, _), (1, _), (2, _), (3, _)]) rfl rfl rfl ?_
        refine ax_iinc (ls' := [(0, _), (1, _), (2, _), (3, _)]) rfl rfl rfl rfl ?_
        refine ax_goto rfl ?_
        first
          | (rw [if_neg (by omega), Int.add_zero] at this; rw [Int.add_zero]; exact this)
          | (rw [if_pos (by omega)] at this; exact this)
set_option maxRecDepth 100000 in
set_option maxHeartbeats 800000 in
theorem l1_X8_open (E : av_E) (d : Nat) (M : av_M) (h : Int) (fx fy : Int → Int) (hL : LFm M h fx fy) (hP : M 35 0 ≤ 12) (hne : ∀ e, 0 ≤ e → e < h → ¬ (fx (nxI h e) = fx e ∧ fy (nxI h e) = fy e)) : ∀ (t : Nat) (e : Int), e + t = h → 0 ≤ e → av_S E (d + 3) mX8_open 14 [(0, vR 35), (1, vI (isum (fun e => opS h fx fy e h.toNat) e.toNat)), (2, vI e)] [] M (av_X (some (vI (isum (fun e => opS h fx fy e h.toNat) h.toNat))) M) := by
  have hL0 := hL
  obtain ⟨eh, h12, hc⟩ := hL
  intro t
  induction t with
  | zero =>
    intro e he e0
    have ee : e = h := by omega
    subst ee
    refine ax_iloadn rfl rfl ?_
    refine ax_aloadn rfl rfl ?_
    refine ax_getI (g := 7) rfl fX8_131 rfl rfl rfl rfl ?_
    refine ax_icmp_ge rfl (by omega) (by omega) (fun h19 => ?_) (fun h19 => ?_)
    · refine ax_iloadn rfl rfl ?_
      refine ax_iret rfl rfl ?_
      exact av_rI rfl
    · omega
  | succ t ih =>
    intro e he e0
    have es : (e + 1).toNat = e.toNat + 1 := by omega
    have eo : isum (fun e => opS h fx fy e h.toNat) (e.toNat + 1) = isum (fun e => opS h fx fy e h.toNat) e.toNat + opS h fx fy (e.toNat : Nat) h.toNat := rfl
    rw [show ((e.toNat : Nat) : Int) = e by omega] at eo
    have ih2 := ih (e + 1) (by omega) (by omega)
    rw [es, eo] at ih2
    have k := l2_X8_open E d M h fx fy hL0 hP hne e (isum (fun e => opS h fx fy e h.toNat) e.toNat) e0 (by omega) _ ih2 h.toNat 0 (by omega) (by omega)
    have z : opS h fx fy e (0 : Int).toNat = 0 := rfl
    rw [z, Int.add_zero] at k
    refine ax_iloadn rfl rfl ?_
    refine ax_aloadn rfl rfl ?_
    refine ax_getI (g := 7) rfl fX8_131 rfl rfl rfl rfl ?_
    refine ax_icmp_ge rfl (by omega) (by omega) (fun h19 => ?_) (fun h19 => ?_)
    · omega
    · refine ax_iconst rfl ?_
      refine ax_istoren (ls' := [(0, _), (1, _), (2, _), (3, _)]) rfl rfl rfl ?_
      exact k
set_option maxRecDepth 100000 in
set_option maxHeartbeats 800000 in
theorem c_X8_isFlat2 (E : av_E) (d : Nat) (M : av_M) (hP : RPm M) (h : Int) (fx fy : Int → Int) (hG : FG (M 35 0) (M 36) (M 37) h fx fy) : av_Mt E (d + 5) mX8_isFlat [vR 35] M (fun res M' => res = some (vI (b01 (h < 3))) ∧ LFm M' h fx fy ∧ LFk M M') := by
  refine av_enter hX8_isFlat oX8_isFlat rfl rfl ?_
  refine ax_aloadn rfl rfl ?_
  refine ax_callV (as := []) rfl vX8_134 hX8_layFigure rfl rfl rfl rfl rfl (c_X8_layFigure E d M hP h fx fy hG) (fun r1 M1 hr1 => ?_)
  obtain ⟨rfl, hL, hk⟩ := hr1
  have hq := LFk.q hk
  have hL0 := hL
  obtain ⟨eh, h12, hc⟩ := hL
  have e0 : M1 35 0 = M 35 0 := hk.1 0 (by decide)
  have hn := hP.1
  refine ax_aloadn rfl rfl ?_
  refine ax_getI (g := 7) rfl fX8_131 rfl rfl rfl rfl ?_
  refine ax_iconst rfl ?_
  refine ax_icmp_ge rfl (by omega) (by omega) (fun h9 => ?_) (fun h9 => ?_)
  · refine ax_iconst rfl ?_
    refine ax_zret rfl rfl (by omega) ?_
    first
      | exact ⟨by rw [b01_t (show h < 3 by omega)], hL0, hk⟩
      | exact ⟨by rw [b01_f (show ¬ h < 3 by omega)], hL0, hk⟩
  · refine ax_iconst rfl ?_
    refine ax_goto rfl ?_
    refine ax_zret rfl rfl (by omega) ?_
    first
      | exact ⟨by rw [b01_t (show h < 3 by omega)], hL0, hk⟩
      | exact ⟨by rw [b01_f (show ¬ h < 3 by omega)], hL0, hk⟩
set_option maxRecDepth 100000 in
set_option maxHeartbeats 800000 in
theorem c_X8_open (E : av_E) (d : Nat) (M : av_M) (hP : RPm M) (h : Int) (fx fy : Int → Int) (hG : FG (M 35 0) (M 36) (M 37) h fx fy)  : av_Mt E (d + 8) mX8_open [vR 35] M (fun res M' => res = some (vI (if h < 3 then (-900000003) else isum (fun e => opS h fx fy e h.toNat) h.toNat)) ∧ RQ M M') := by
  refine av_enter hX8_open oX8_open rfl rfl ?_
  refine ax_aloadn rfl rfl ?_
  refine ax_callV (as := []) rfl vX8_147 hX8_isFlat rfl rfl rfl rfl rfl (c_X8_isFlat2 E (d + 2) M hP h fx fy hG) (fun r1 M1 hr1 => ?_)
  obtain ⟨rfl, hL, hk⟩ := hr1
  have hq := LFk.q hk
  have hL0 := hL
  obtain ⟨eh, h12, hc⟩ := hL
  have e0 : M1 35 0 = M 35 0 := hk.1 0 (by decide)
  have hn := hP.1
  have bf := b01_c (h < 3)
  refine ax_if_eq rfl (by omega) (fun h4 => ?_) (fun h4 => ?_)
  · refine ax_iconst rfl ?_
    refine ax_istoren (ls' := [(0, _), (1, _)]) rfl rfl rfl ?_
    refine ax_iconst rfl ?_
    refine ax_istoren (ls' := [(0, _), (1, _), (2, _)]) rfl rfl rfl ?_
    refine av_Sw (l1_X8_open E (d + 5) M1 h fx fy hL0 (by omega) (fun e e0 e1 => FG_ne hG (by omega) e0 e1) h.toNat 0 (by omega) (by omega)) ?_
    rintro r M' ⟨q1, q2⟩
    exact ⟨by rw [q1, if_neg (by omega)], by rw [q2]; exact hq⟩
  · refine ax_ldc (z := (-900000003)) rfl kX8_137 rfl ?_
    refine ax_iret rfl rfl ?_
    exact av_rq (by rw [if_pos (by omega)]) hq
set_option maxRecDepth 100000 in
set_option maxHeartbeats 800000 in
theorem c_X8_mayBound (E : av_E) (d : Nat) (M : av_M) (hP : RPm M) (h : Int) (fx fy : Int → Int) (hG : FG (M 35 0) (M 36) (M 37) h fx fy) : av_Mt E (d + 6) mX8_mayBound [vR 35] M (fun res M' => res = some (vI (b01 (3 ≤ h ∧ h ≤ 8))) ∧ LFm M' h fx fy ∧ LFk M M') := by
  refine av_enter hX8_mayBound oX8_mayBound rfl rfl ?_
  refine ax_aloadn rfl rfl ?_
  refine ax_callV (as := []) rfl vX8_147 hX8_isFlat rfl rfl rfl rfl rfl (c_X8_isFlat2 E d M hP h fx fy hG) (fun r1 M1 hr1 => ?_)
  obtain ⟨rfl, hL, hk⟩ := hr1
  have hq := LFk.q hk
  have hL0 := hL
  obtain ⟨eh, h12, hc⟩ := hL
  have e0 : M1 35 0 = M 35 0 := hk.1 0 (by decide)
  have hn := hP.1
  have bf := b01_c (h < 3)
  refine ax_if_ne rfl (by omega) (fun h4 => ?_) (fun h4 => ?_)
  · refine ax_iconst rfl ?_
    refine ax_zret rfl rfl (by omega) ?_
    first
      | exact ⟨by rw [b01_t (show 3 ≤ h ∧ h ≤ 8 by omega)], hL0, hk⟩
      | exact ⟨by rw [b01_f (show ¬ (3 ≤ h ∧ h ≤ 8) by omega)], hL0, hk⟩
  · refine ax_aloadn rfl rfl ?_
    refine ax_getI (g := 7) rfl fX8_131 rfl rfl rfl rfl ?_
    refine ax_bipush rfl rfl ?_
    refine ax_icmp_gt rfl (by omega) (by omega) (fun h13 => ?_) (fun h13 => ?_)
    · refine ax_iconst rfl ?_
      refine ax_zret rfl rfl (by omega) ?_
      first
        | exact ⟨by rw [b01_t (show 3 ≤ h ∧ h ≤ 8 by omega)], hL0, hk⟩
        | exact ⟨by rw [b01_f (show ¬ (3 ≤ h ∧ h ≤ 8) by omega)], hL0, hk⟩
    · refine ax_iconst rfl ?_
      refine ax_goto rfl ?_
      refine ax_zret rfl rfl (by omega) ?_
      first
        | exact ⟨by rw [b01_t (show 3 ≤ h ∧ h ≤ 8 by omega)], hL0, hk⟩
        | exact ⟨by rw [b01_f (show ¬ (3 ≤ h ∧ h ≤ 8) by omega)], hL0, hk⟩
set_option maxRecDepth 100000 in
set_option maxHeartbeats 800000 in
theorem l_X8_logNow (E : av_E) (d : Nat) (M : av_M) (hh : 0 ≤ M 35 7 ∧ M 35 7 ≤ 12) : ∀ (t : Nat) (k : Int), k + t = 30 → 0 ≤ k → (∀ j, 0 ≤ j → j < k → bi_shl 1 j < 2 * M 35 7 + 2) → av_S E d mX8_logNow 2 [(0, vR 35), (1, vI k)] [] M (fun res M' => (∃ k, res = some (vI k) ∧ LGs (2 * M 35 7 + 2) k) ∧ M' = M) := by
  intro t
  induction t with
  | zero =>
    intro k hk k0 hj
    have ek : k = 30 := by omega
    subst ek
    have e30 := LGs_30
    refine ax_iconst rfl ?_
    refine ax_iloadn rfl rfl ?_
    refine ax_ishl rfl ?_
    refine ax_iconst rfl ?_
    refine ax_aloadn rfl rfl ?_
    refine ax_getI (g := 7) rfl fX8_131 rfl rfl rfl rfl ?_
    refine ax_imul rfl ?_
    refine ax_iconst rfl ?_
    refine ax_iadd rfl ?_
    refine ax_icmp_ge rfl (by omega) (by omega) (fun h13 => ?_) (fun h13 => ?_)
    · refine ax_iloadn rfl rfl ?_
      refine ax_iret rfl rfl ?_
      exact ⟨⟨_, rfl, by omega, by omega, by omega, hj⟩, rfl⟩
    · refine ax_iinc (ls' := [(0, _), (1, _)]) rfl rfl rfl rfl ?_
      refine ax_goto rfl ?_
      omega
  | succ t ih =>
    intro k hk k0 hj
    have sr := shl_r (k := k) (by omega)
    refine ax_iconst rfl ?_
    refine ax_iloadn rfl rfl ?_
    refine ax_ishl rfl ?_
    refine ax_iconst rfl ?_
    refine ax_aloadn rfl rfl ?_
    refine ax_getI (g := 7) rfl fX8_131 rfl rfl rfl rfl ?_
    refine ax_imul rfl ?_
    refine ax_iconst rfl ?_
    refine ax_iadd rfl ?_
    refine ax_icmp_ge rfl (by omega) (by omega) (fun h13 => ?_) (fun h13 => ?_)
    · refine ax_iloadn rfl rfl ?_
      refine ax_iret rfl rfl ?_
      exact ⟨⟨_, rfl, by omega, by omega, by omega, hj⟩, rfl⟩
    · refine ax_iinc (ls' := [(0, _), (1, _)]) rfl rfl rfl rfl ?_
      refine ax_goto rfl ?_
      refine ih (k + 1) (by omega) (by omega) (fun j j0 j1 => ?_)
      by_cases q : j = k
      · rw [q]; omega
      · exact hj j j0 (by omega)
set_option maxRecDepth 100000 in
set_option maxHeartbeats 800000 in
theorem c_X8_logNow (E : av_E) (d : Nat) (M : av_M) (hh : 0 ≤ M 35 7 ∧ M 35 7 ≤ 12) : av_Mt E d mX8_logNow [vR 35] M (fun res M' => (∃ k, res = some (vI k) ∧ LGs (2 * M 35 7 + 2) k) ∧ M' = M) := by
  refine av_enter hX8_logNow oX8_logNow rfl rfl ?_
  refine ax_iconst rfl ?_
  refine ax_istoren (ls' := [(0, _), (1, _)]) rfl rfl rfl ?_
  exact l_X8_logNow E d M hh 30 0 (by omega) (by omega) (fun j j0 j1 => by omega)
set_option maxRecDepth 100000 in
set_option maxHeartbeats 800000 in
theorem c_X8_log (E : av_E) (d : Nat) (M : av_M) (hP : RPm M) (h : Int) (fx fy : Int → Int) (hG : FG (M 35 0) (M 36) (M 37) h fx fy) : av_Mt E (d + 8) mX8_log [vR 35] M (fun res M' => (∃ z, res = some (vI z) ∧ ((¬ (3 ≤ h ∧ h ≤ 8) ∧ z = (-900000003)) ∨ ((3 ≤ h ∧ h ≤ 8) ∧ LGs (2 * h + 2) z))) ∧ RQ M M') := by
  refine av_enter hX8_log oX8_log rfl rfl ?_
  refine ax_aloadn rfl rfl ?_
  refine ax_callV (as := []) rfl vX8_181 hX8_mayBound rfl rfl rfl rfl rfl (c_X8_mayBound E (d + 1) M hP h fx fy hG) (fun r1 M1 hr1 => ?_)
  obtain ⟨rfl, hL, hk⟩ := hr1
  have hq := LFk.q hk
  obtain ⟨eh, h12, hc⟩ := hL
  have bf := b01_c (3 ≤ h ∧ h ≤ 8)
  refine ax_if_eq rfl (by omega) (fun h4 => ?_) (fun h4 => ?_)
  · refine ax_ldc (z := (-900000003)) rfl kX8_137 rfl ?_
    refine ax_iret rfl rfl ?_
    first
      | exact ⟨⟨_, rfl, Or.inl ⟨by omega, rfl⟩⟩, hq⟩
      | (rw [eh] at hl
         exact ⟨⟨_, rfl, Or.inr ⟨by omega, hl⟩⟩, hq⟩)
  · refine ax_aloadn rfl rfl ?_
    refine ax_callV (as := []) rfl vX8_191 hX8_logNow rfl rfl rfl rfl rfl (c_X8_logNow E (d + 7) M1 (by omega)) (fun r8 M8 hr8 => ?_)
    obtain ⟨⟨k, rfl, hl⟩, rfl⟩ := hr8
    refine ax_goto rfl ?_
    refine ax_iret rfl rfl ?_
    first
      | exact ⟨⟨_, rfl, Or.inl ⟨by omega, rfl⟩⟩, hq⟩
      | (rw [eh] at hl
         exact ⟨⟨_, rfl, Or.inr ⟨by omega, hl⟩⟩, hq⟩)
