/-! ===== the reference: walls of the figure ===== -/
theorem tmod_nx {h e : Int} (h0 : 0 ≤ e) (h1 : e < h) : (e + 1).tmod h = nxI h e := by
  unfold nxI
  by_cases q : e + 1 < h
  · rw [if_pos q]
    exact Int.tmod_eq_of_lt (by omega) q
  · rw [if_neg q]
    have : e + 1 = h := by omega
    rw [this]
    exact Int.tmod_self
theorem FG_ne {n : Int} {px py : Int → Int} {h : Int} {fx fy : Int → Int} (hG : FG n px py h fx fy) (h3 : 3 ≤ h) {e : Int} (e0 : 0 ≤ e) (e1 : e < h) : ¬ (fx (nxI h e) = fx e ∧ fy (nxI h e) = fy e) := by
  rintro ⟨q1, q2⟩
  obtain ⟨g0, g1, g2, g3, g4⟩ := hG
  have H := g4 (by omega)
  have := (H.2.2.2.2.2 (by omega) e.toNat (by omega)).1
  apply this
  have en : ((nxt h.toNat e.toNat : Nat) : Int) = nxI h e := by
    unfold nxt nxI
    by_cases q : e + 1 < h
    · rw [if_pos q, if_pos (by omega)]; omega
    · rw [if_neg q, if_neg (by omega)]; rfl
  have ee : ((e.toNat : Nat) : Int) = e := by omega
  show P2 (fx ((e.toNat : Nat) : Int)) (fy ((e.toNat : Nat) : Int)) 1 = P2 (fx ((nxt h.toNat e.toNat : Nat) : Int)) (fy ((nxt h.toNat e.toNat : Nat) : Int)) 1
  rw [en, ee, q1, q2]
theorem gcd_ne {a b : Int} (h : ¬ (a = 0 ∧ b = 0)) : (Int.gcd a b : Int) ≠ 0 := by
  intro q
  have q2 : Int.gcd a b = 0 := by omega
  have := Int.gcd_eq_zero_iff.mp q2
  exact h this
theorem wP_ref {x0 y0 x1 y1 w : Int} (hn : ¬ (x1 = x0 ∧ y1 = y0)) : wP x0 y0 x1 y1 w = if w = 0 then (y1 - y0).tdiv (Int.gcd (y1 - y0) (x0 - x1)) else if w = 1 then (x0 - x1).tdiv (Int.gcd (y1 - y0) (x0 - x1)) else (y1 - y0).tdiv (Int.gcd (y1 - y0) (x0 - x1)) * x0 + (x0 - x1).tdiv (Int.gcd (y1 - y0) (x0 - x1)) * y0 := by
  have e : Int.gcd (y1 - y0) (x0 - x1) = Int.gcd (x1 - x0) (y1 - y0) := by
    rw [Int.gcd_comm, show x0 - x1 = -(x1 - x0) by omega, Int.neg_gcd]
  have g := gcd_ne (a := x1 - x0) (b := y1 - y0) (by omega)
  unfold wP
  rw [if_neg g, e, show -(x1 - x0) = x0 - x1 by omega]
set_option maxRecDepth 100000 in
set_option maxHeartbeats 800000 in
theorem c_X8_wallPart (E : av_E) (d : Nat) (M : av_M) (h : Int) (fx fy : Int → Int) (hL : LFm M h fx fy) (hP : M 35 0 ≤ 12) (e w : Int) (he : 0 ≤ e ∧ e < h) (hw : 0 ≤ w ∧ w ≤ 2) (hn : ¬ (fx (nxI h e) = fx e ∧ fy (nxI h e) = fy e)) : av_Mt E (d + 1) mX8_wallPart [vR 35, vI e, vI w] M (av_X (some (vI (wq h fx fy e w))) M) := by
  obtain ⟨eh, h12, hc⟩ := hL
  subst eh
  have enx := tmod_nx he.1 he.2
  have nx := nxI_rng he.1 he.2
  obtain ⟨p1, p2, p3, _, _, p4, p5⟩ := hc e he.1 he.2
  obtain ⟨q1, q2, q3, _, _, q4, q5⟩ := hc _ nx.1 nx.2
  rw [← enx] at q1 q2 q3 q4 q5 nx hn
  have pn : 0 ≤ M 35 0 ∧ M 41 e < 12 ∧ M 41 ((e + 1).tmod (M 35 7)) < 12 := by omega
  have hg := gcd_ne (a := M 37 (M 41 ((e + 1).tmod (M 35 7))) - M 37 (M 41 e)) (b := M 36 (M 41 e) - M 36 (M 41 ((e + 1).tmod (M 35 7)))) (by omega)
  have g1 := gcd_le (a := M 37 (M 41 ((e + 1).tmod (M 35 7))) - M 37 (M 41 e)) (b := M 36 (M 41 e) - M 36 (M 41 ((e + 1).tmod (M 35 7)))) (A := 200) (by omega) (by omega)
  refine av_enter hX8_wallPart oX8_wallPart rfl rfl ?_
  refine ax_aloadn rfl rfl ?_
  refine ax_getR rfl fX8_26 rfl rfl ?_
  refine ax_iloadn rfl rfl ?_
  refine ax_iald rfl rfl (by omega) ?_
  refine ax_istoren (ls' := [(0, _), (1, _), (2, _), (3, _)]) rfl rfl rfl ?_
  refine ax_aloadn rfl rfl ?_
  refine ax_getR rfl fX8_26 rfl rfl ?_
  refine ax_iloadn rfl rfl ?_
  refine ax_iconst rfl ?_
  refine ax_iadd rfl ?_
  refine ax_aloadn rfl rfl ?_
  refine ax_getI (g := 7) rfl fX8_131 rfl rfl rfl rfl ?_
  refine ax_irem rfl (by omega) (by omega) (by omega) ?_
  refine ax_iald rfl rfl (by omega) ?_
  refine ax_istore (ls' := [(0, _), (1, _), (2, _), (3, _), (4, _)]) rfl rfl rfl ?_
  refine ax_aloadn rfl rfl ?_
  refine ax_getR rfl fX8_13 rfl rfl ?_
  refine ax_iload rfl rfl ?_
  refine ax_iald rfl rfl (by omega) ?_
  refine ax_aloadn rfl rfl ?_
  refine ax_getR rfl fX8_13 rfl rfl ?_
  refine ax_iloadn rfl rfl ?_
  refine ax_iald rfl rfl (by omega) ?_
  refine ax_isub rfl ?_
  refine ax_istore (ls' := [(0, _), (1, _), (2, _), (3, _), (4, _), (5, _)]) rfl rfl rfl ?_
  refine ax_aloadn rfl rfl ?_
  refine ax_getR rfl fX8_7 rfl rfl ?_
  refine ax_iloadn rfl rfl ?_
  refine ax_iald rfl rfl (by omega) ?_
  refine ax_aloadn rfl rfl ?_
  refine ax_getR rfl fX8_7 rfl rfl ?_
  refine ax_iload rfl rfl ?_
  refine ax_iald rfl rfl (by omega) ?_
  refine ax_isub rfl ?_
  refine ax_istore (ls' := [(0, _), (1, _), (2, _), (3, _), (4, _), (5, _), (6, _)]) rfl rfl rfl ?_
  refine ax_iload rfl rfl ?_
  refine ax_i2l rfl (by omega) ?_
  refine ax_iload rfl rfl ?_
  refine ax_i2l rfl (by omega) ?_
  refine ax_callS (as := [_, _]) rfl sX8_88 hX8_common rfl rfl rfl rfl (c_R_common E d M _ _ (by omega) (by omega)) (av_Xk ?_)
  refine ax_l2i rfl ?_
  refine ax_istore (ls' := [(0, _), (1, _), (2, _), (3, _), (4, _), (5, _), (6, _), (7, _)]) rfl rfl rfl ?_
  refine ax_iload rfl rfl ?_
  refine ax_iload rfl rfl ?_
  refine ax_idiv rfl (by omega) (by omega) (by omega) ?_
  refine ax_istore (ls' := [(0, _), (1, _), (2, _), (3, _), (4, _), (5, _), (6, _), (7, _)]) rfl rfl rfl ?_
  refine ax_iload rfl rfl ?_
  refine ax_iload rfl rfl ?_
  refine ax_idiv rfl (by omega) (by omega) (by omega) ?_
  refine ax_istore (ls' := [(0, _), (1, _), (2, _), (3, _), (4, _), (5, _), (6, _), (7, _)]) rfl rfl rfl ?_
  refine ax_iloadn rfl rfl ?_
  refine ax_if_ne rfl (by omega) (fun h81 => ?_) (fun h81 => ?_)
  · refine ax_iloadn rfl rfl ?_
    refine ax_iconst rfl ?_
    refine ax_icmp_ne rfl (by omega) (by omega) (fun h91 => ?_) (fun h91 => ?_)
    · refine ax_iload rfl rfl ?_
      refine ax_aloadn rfl rfl ?_
      refine ax_getR rfl fX8_7 rfl rfl ?_
      refine ax_iloadn rfl rfl ?_
      refine ax_iald rfl rfl (by omega) ?_
      refine ax_imul rfl ?_
      refine ax_iload rfl rfl ?_
      refine ax_aloadn rfl rfl ?_
      refine ax_getR rfl fX8_13 rfl rfl ?_
      refine ax_iloadn rfl rfl ?_
      refine ax_iald rfl rfl (by omega) ?_
      refine ax_imul rfl ?_
      refine ax_iadd rfl ?_
      refine ax_iret rfl rfl ?_
      refine av_rI ?_
      unfold wq
      rw [← enx, wP_ref hn]
      first
        | (rw [if_pos (by omega), q3, p3, p2, q2])
        | (rw [if_neg (by omega), if_pos (by omega), q3, p3, p2, q2])
        | (rw [if_neg (by omega), if_neg (by omega), q3, p3, p2, q2])
    · refine ax_iload rfl rfl ?_
      refine ax_goto rfl ?_
      refine ax_iret rfl rfl ?_
      refine av_rI ?_
      unfold wq
      rw [← enx, wP_ref hn]
      first
        | (rw [if_pos (by omega), q3, p3, p2, q2])
        | (rw [if_neg (by omega), if_pos (by omega), q3, p3, p2, q2])
        | (rw [if_neg (by omega), if_neg (by omega), q3, p3, p2, q2])
  · refine ax_iload rfl rfl ?_
    refine ax_goto rfl ?_
    refine ax_iret rfl rfl ?_
    refine av_rI ?_
    unfold wq
    rw [← enx, wP_ref hn]
    first
      | (rw [if_pos (by omega), q3, p3, p2, q2])
      | (rw [if_neg (by omega), if_pos (by omega), q3, p3, p2, q2])
      | (rw [if_neg (by omega), if_neg (by omega), q3, p3, p2, q2])
set_option maxRecDepth 100000 in
set_option maxHeartbeats 800000 in
theorem c_X8_slackOf (E : av_E) (d : Nat) (M : av_M) (h : Int) (fx fy : Int → Int) (hL : LFm M h fx fy) (hP : M 35 0 ≤ 12) (e c : Int) (he : 0 ≤ e ∧ e < h) (hcc : 0 ≤ c ∧ c < h) (hn : ¬ (fx (nxI h e) = fx e ∧ fy (nxI h e) = fy e)) : av_Mt E (d + 2) mX8_slackOf [vR 35, vI e, vI c] M (av_X (some (vI (gp h fx fy e c))) M) := by
  obtain ⟨p1, p2, p3, _, _, p4, p5⟩ := hL.2.2 c hcc.1 hcc.2
  have h12 := hL.2.1
  refine av_enter hX8_slackOf oX8_slackOf rfl rfl ?_
  refine ax_aloadn rfl rfl ?_
  refine ax_iloadn rfl rfl ?_
  refine ax_iconst rfl ?_
  refine ax_callV (as := [_, _]) rfl vX8_140 hX8_wallPart rfl rfl rfl rfl rfl (c_X8_wallPart E d M h fx fy hL hP e 2 he (by omega) hn) (av_Xk ?_)
  refine ax_aloadn rfl rfl ?_
  refine ax_iloadn rfl rfl ?_
  refine ax_iconst rfl ?_
  refine ax_callV (as := [_, _]) rfl vX8_140 hX8_wallPart rfl rfl rfl rfl rfl (c_X8_wallPart E d M h fx fy hL hP e 0 he (by omega) hn) (av_Xk ?_)
  refine ax_aloadn rfl rfl ?_
  refine ax_getR rfl fX8_7 rfl rfl ?_
  refine ax_aloadn rfl rfl ?_
  refine ax_getR rfl fX8_26 rfl rfl ?_
  refine ax_iloadn rfl rfl ?_
  refine ax_iald rfl rfl (by omega) ?_
  refine ax_iald rfl rfl (by omega) ?_
  refine ax_imul rfl ?_
  refine ax_isub rfl ?_
  refine ax_aloadn rfl rfl ?_
  refine ax_iloadn rfl rfl ?_
  refine ax_iconst rfl ?_
  refine ax_callV (as := [_, _]) rfl vX8_140 hX8_wallPart rfl rfl rfl rfl rfl (c_X8_wallPart E d M h fx fy hL hP e 1 he (by omega) hn) (av_Xk ?_)
  refine ax_aloadn rfl rfl ?_
  refine ax_getR rfl fX8_13 rfl rfl ?_
  refine ax_aloadn rfl rfl ?_
  refine ax_getR rfl fX8_26 rfl rfl ?_
  refine ax_iloadn rfl rfl ?_
  refine ax_iald rfl rfl (by omega) ?_
  refine ax_iald rfl rfl (by omega) ?_
  refine ax_imul rfl ?_
  refine ax_isub rfl ?_
  refine ax_iret rfl rfl ?_
  refine av_rI ?_
  unfold gp
  rw [p2, p3]
