/-! ===== idle walls; the best vertex ===== -/
set_option maxRecDepth 100000 in
set_option maxHeartbeats 800000 in
theorem l_X0_isIdle (E : av_E) (d : Nat) (M : av_M) (hB : BI M) (w : Int) (hw : 0 ≤ w ∧ w < 10) (hon : (M 13 5).toNat.testBit w.toNat = true) (hie : ¬ IE (M 26) (M 18 9) (oth M w)) : ∀ (t : Nat) (m : Int), m + t = M 18 8 → 0 ≤ m → (∀ m', 0 ≤ m' → m' < m → IV (M 23) (M 24) m' (oth M w) → ¬ (M 24 m').toNat.testBit w.toNat = true) → av_S E (d + 2) mX0_isIdle 42 [(0, vR 12), (1, vI w), (2, vI (oth M w)), (3, vI m)] [] M (av_X (some (vI (b01 (Idl M w)))) M) := by
  have hn := hB.2.1.2.2.1
  have hor := oth_rng hB hw
  intro t
  induction t with
  | zero =>
    intro m hm m0 hno
    refine ax_iloadn rfl rfl ?_
    refine ax_aloadn rfl rfl ?_
    refine ax_getR rfl fX0_21 rfl rfl ?_
    refine ax_callV (as := []) rfl vX0_65 hX3_size rfl rfl rfl rfl rfl (c_X3_size E (d + 1) M) (av_Xk ?_)
    refine ax_icmp_ge rfl (by omega) (by omega) (fun h50 => ?_) (fun h50 => ?_)
    · refine ax_iconst rfl ?_
      refine ax_zret rfl rfl (by omega) ?_
      exact av_rI (b01_t ⟨hon, hie, fun m' a b => hno m' a (by omega)⟩).symm
    · omega
  | succ t ih =>
    intro m hm m0 hno
    have bb := MTI_bits hB.2.1.1 m0 (by omega)
    have b1 := b01_rng (IV (M 23) (M 24) m (oth M w))
    have b2 := b01_rng ((M 24 m).toNat.testBit w.toNat = true)
    refine ax_iloadn rfl rfl ?_
    refine ax_aloadn rfl rfl ?_
    refine ax_getR rfl fX0_21 rfl rfl ?_
    refine ax_callV (as := []) rfl vX0_65 hX3_size rfl rfl rfl rfl rfl (c_X3_size E (d + 1) M) (av_Xk ?_)
    refine ax_icmp_ge rfl (by omega) (by omega) (fun h50 => ?_) (fun h50 => ?_)
    · omega
    · refine ax_aloadn rfl rfl ?_
      refine ax_getR rfl fX0_21 rfl rfl ?_
      refine ax_iloadn rfl rfl ?_
      refine ax_iloadn rfl rfl ?_
      refine ax_callV (as := [_, _]) rfl vX0_71 hX3_isVertex rfl rfl rfl rfl rfl (c_X3_isVertex E d M m _ (by omega) bb.1 hor.1 bb.2.1) (av_Xk ?_)
      refine ax_if_eq rfl (by omega) (fun h62 => ?_) (fun h62 => ?_)
      · refine ax_iinc (ls' := [(0, _), (1, _), (2, _), (3, _)]) rfl rfl rfl rfl ?_
        refine ax_goto rfl ?_
        refine ih _ (by omega) (by omega) (fun m' a b c => ?_)
        by_cases hmm : m' = m
        · subst hmm
          first
            | exact b01_eq h74
            | exact absurd c (b01_eq h62)
        · exact hno m' a (by omega) c
      · refine ax_aloadn rfl rfl ?_
        refine ax_getR rfl fX0_21 rfl rfl ?_
        refine ax_iloadn rfl rfl ?_
        refine ax_iloadn rfl rfl ?_
        refine ax_callV (as := [_, _]) rfl vX0_123 hX3_isBroken rfl rfl rfl rfl rfl (c_X3_isBroken E (d + 1) M m w (by omega) hw bb.2.1) (av_Xk ?_)
        refine ax_if_eq rfl (by omega) (fun h74 => ?_) (fun h74 => ?_)
        · refine ax_iinc (ls' := [(0, _), (1, _), (2, _), (3, _)]) rfl rfl rfl rfl ?_
          refine ax_goto rfl ?_
          refine ih _ (by omega) (by omega) (fun m' a b c => ?_)
          by_cases hmm : m' = m
          · subst hmm
            first
              | exact b01_eq h74
              | exact absurd c (b01_eq h62)
          · exact hno m' a (by omega) c
        · refine ax_iconst rfl ?_
          refine ax_zret rfl rfl (by omega) ?_
          exact av_rI (b01_f (fun q => q.2.2 m m0 (by omega) (b01_ne h62) (b01_ne h74))).symm
set_option maxRecDepth 100000 in
set_option maxHeartbeats 800000 in
theorem c_X0_isIdle (E : av_E) (d : Nat) (M : av_M) (hB : BI M) (w : Int) (hw : 0 ≤ w ∧ w < 10) : av_Mt E (d + 2) mX0_isIdle [vR 12, vI w] M (av_X (some (vI (b01 (Idl M w)))) M) := by
  have hor := oth_rng hB hw
  have hon := BI_on hB
  have h90 := hB.2.1.2.1.1
  have h80 := hB.2.1.1.1
  have b1 := b01_rng ((M 13 5).toNat.testBit w.toNat = true)
  have b2 := b01_rng (IE (M 26) (M 18 9) (oth M w))
  refine av_enter hX0_isIdle oX0_isIdle rfl rfl ?_
  refine ax_aloadn rfl rfl ?_
  refine ax_getR rfl fX0_12 rfl rfl ?_
  refine ax_iloadn rfl rfl ?_
  refine ax_callV (as := [_]) rfl vX0_120 hX6_isOn rfl rfl rfl rfl rfl (c_X6_isOn E (d + 1) M w hw hon.1 hon.2) (av_Xk ?_)
  refine ax_if_ne rfl (by omega) (fun h8 => ?_) (fun h8 => ?_)
  · refine ax_aloadn rfl rfl ?_
    refine ax_getR rfl fX0_12 rfl rfl ?_
    refine ax_callV (as := []) rfl vX0_68 hX6_onSet rfl rfl rfl rfl rfl (c_X6_onSet E (d + 1) M) (av_Xk ?_)
    refine ax_iconst rfl ?_
    refine ax_iloadn rfl rfl ?_
    refine ax_ishl rfl ?_
    refine ax_iconst rfl ?_
    refine ax_ixor rfl ?_
    refine ax_iand rfl ?_
    refine ax_istoren (ls' := [(0, _), (1, _), (2, _)]) rfl rfl rfl ?_
    refine ax_aloadn rfl rfl ?_
    refine ax_getR rfl fX0_21 rfl rfl ?_
    refine ax_iloadn rfl rfl ?_
    refine ax_callV (as := [_]) rfl vX0_78 hX3_isEndless rfl rfl rfl rfl rfl (c_X3_isEndless E (d + 1) M (oth M w) hor.1 ⟨h90, hB.2.1.2.2.2⟩ (fun r r0 r1 => MTR_bits hB.2.1.2.1 r0 r1)) (av_Xk ?_)
    refine ax_if_eq rfl (by omega) (fun h35 => ?_) (fun h35 => ?_)
    · refine ax_iconst rfl ?_
      refine ax_istoren (ls' := [(0, _), (1, _), (2, _), (3, _)]) rfl rfl rfl ?_
      exact l_X0_isIdle E d M hB w hw (b01_ne h8) (b01_eq h35) (M 18 8).toNat 0 (by omega) (by omega) (fun m' a b => by omega)
    · refine ax_iconst rfl ?_
      refine ax_zret rfl rfl (by omega) ?_
      exact av_rI (b01_f (fun q => q.2.1 (b01_ne h35))).symm
  · refine ax_iconst rfl ?_
    refine ax_zret rfl rfl (by omega) ?_
    exact av_rI (b01_f (fun q => b01_eq (by omega) q.1)).symm
theorem q_le_of {x w x' w' : Int} (h : 0 < w) (h' : 0 < w') (hl : x * w' ≤ x' * w) : (x : Rat) / (w : Rat) ≤ (x' : Rat) / (w' : Rat) := by
  have a := q_lt (x := x') (x' := x) h' h
  apply Classical.byContradiction
  intro q
  have := a.mp (by grind)
  omega
set_option maxRecDepth 100000 in
set_option maxHeartbeats 800000 in
theorem l_X0_firstBest (E : av_E) (d : Nat) (M : av_M) (hB : BI M) (p q s : Int) (hp : -99 ≤ p ∧ p ≤ 99) (hq : -99 ≤ q ∧ q ≤ 99) (hs : -99 ≤ s ∧ s ≤ 99) : ∀ (t : Nat) (i b : Int), i + t = M 12 4 → 1 ≤ i → BF i (fun j => dt ((p : Rat), (q : Rat), (s : Rat)) (vp M j)) b → av_S E (d + 2) mX0_firstBest 6 [(0, vR 12), (1, vI p), (2, vI q), (3, vI s), (4, vI b), (5, vI i)] [] M (fun res M' => (∃ b, res = some (vI b) ∧ BF (M 12 4) (fun j => dt ((p : Rat), (q : Rat), (s : Rat)) (vp M j)) b) ∧ M' = M) := by
  have hn := hB.2.2.2.1
  intro t
  induction t with
  | zero =>
    intro i b hi i0 hF
    have ei : i = M 12 4 := by omega
    subst ei
    refine ax_iload rfl rfl ?_
    refine ax_aloadn rfl rfl ?_
    refine ax_getI (g := 4) rfl fX0_38 rfl rfl rfl rfl ?_
    refine ax_icmp_ge rfl (by omega) (by omega) (fun h12 => ?_) (fun h12 => ?_)
    · refine ax_iload rfl rfl ?_
      refine ax_iret rfl rfl ?_
      exact ⟨⟨b, rfl, hF⟩, rfl⟩
    · omega
  | succ t ih =>
    intro i b hi i0 hF
    obtain ⟨f1, f2, f3, f4⟩ := hF
    have vb : 0 ≤ b ∧ b < M 12 4 := by omega
    have vi : 0 ≤ i ∧ i < M 12 4 := by omega
    have hb := BI_v hB vb
    have hi' := BI_v hB vi
    have rb := BI_r hB vb
    have ri := BI_r hB vi
    have ob := ov_rng hB vb hp hq hs
    have oi := ov_rng hB vi hp hq hs
    have m1 := mb oi (show -5000 ≤ M 22 (M 27 b) ∧ M 22 (M 27 b) ≤ 5000 by omega)
    have m2 := mb ob (show -5000 ≤ M 22 (M 27 i) ∧ M 22 (M 27 i) ≤ 5000 by omega)
    have eb := ov_dt (M := M) (v := b) (p := p) (q := q) (s := s) rb.2.2.2.1
    have ei := ov_dt (M := M) (v := i) (p := p) (q := q) (s := s) ri.2.2.2.1
    refine ax_iload rfl rfl ?_
    refine ax_aloadn rfl rfl ?_
    refine ax_getI (g := 4) rfl fX0_38 rfl rfl rfl rfl ?_
    refine ax_icmp_ge rfl (by omega) (by omega) (fun h12 => ?_) (fun h12 => ?_)
    · omega
    · refine ax_aloadn rfl rfl ?_
      refine ax_iload rfl rfl ?_
      refine ax_iloadn rfl rfl ?_
      refine ax_iloadn rfl rfl ?_
      refine ax_iloadn rfl rfl ?_
      refine ax_callV (as := [_, _, _, _]) rfl vX0_126 hX0_over rfl rfl rfl rfl rfl (c_X0_over E d M hB i p q s vi) (av_Xk ?_)
      refine ax_i2l rfl (by omega) ?_
      refine ax_aloadn rfl rfl ?_
      refine ax_getR rfl fX0_21 rfl rfl ?_
      refine ax_aloadn rfl rfl ?_
      refine ax_getR rfl fX0_25 rfl rfl ?_
      refine ax_iload rfl rfl ?_
      refine ax_iald rfl rfl (by omega) ?_
      refine ax_callV (as := [_]) rfl vX0_92 hX3_wOf rfl rfl rfl rfl rfl (c_X3_wOf E (d + 1) M _ (by omega)) (av_Xk ?_)
      refine ax_i2l rfl (by omega) ?_
      refine ax_lmul rfl ?_
      refine ax_lstore (ls' := [(0, _), (1, _), (2, _), (3, _), (4, _), (5, _), (6, _)]) rfl rfl rfl ?_
      refine ax_aloadn rfl rfl ?_
      refine ax_iload rfl rfl ?_
      refine ax_iloadn rfl rfl ?_
      refine ax_iloadn rfl rfl ?_
      refine ax_iloadn rfl rfl ?_
      refine ax_callV (as := [_, _, _, _]) rfl vX0_126 hX0_over rfl rfl rfl rfl rfl (c_X0_over E d M hB b p q s vb) (av_Xk ?_)
      refine ax_i2l rfl (by omega) ?_
      refine ax_aloadn rfl rfl ?_
      refine ax_getR rfl fX0_21 rfl rfl ?_
      refine ax_aloadn rfl rfl ?_
      refine ax_getR rfl fX0_25 rfl rfl ?_
      refine ax_iload rfl rfl ?_
      refine ax_iald rfl rfl (by omega) ?_
      refine ax_callV (as := [_]) rfl vX0_92 hX3_wOf rfl rfl rfl rfl rfl (c_X3_wOf E (d + 1) M _ (by omega)) (av_Xk ?_)
      refine ax_i2l rfl (by omega) ?_
      refine ax_lmul rfl ?_
      refine ax_lstore (ls' := [(0, _), (1, _), (2, _), (3, _), (4, _), (5, _), (6, _), (8, _)]) rfl rfl rfl ?_
      refine ax_lload rfl rfl ?_
      refine ax_lload rfl rfl ?_
      refine ax_lif_le rfl rfl (by omega) (by omega) (fun h75 => ?_) (fun h75 => ?_)
      · refine ax_iinc (ls' := [(0, _), (1, _), (2, _), (3, _), (4, _), (5, _), (6, _), (8, _)]) rfl rfl rfl rfl ?_
        refine ax_goto rfl ?_
        refine ax_pick [0, 1, 2, 3, 4, 5] rfl ?_
        first
          | (have hlt := (q_lt (x := ov M b p q s) (x' := ov M i p q s) rb.2.2.2.1 ri.2.2.2.1).mpr (by omega)
             rw [eb, ei] at hlt
             refine ih _ _ (by omega) (by omega) ⟨by omega, by omega, fun j j0 j1 => ?_, fun j j0 j1 => ?_⟩
             · show dt ((p : Rat), (q : Rat), (s : Rat)) (vp M j) ≤ dt ((p : Rat), (q : Rat), (s : Rat)) (vp M i)
               by_cases hj : j = i
               · rw [hj]; grind
               · have : dt ((p : Rat), (q : Rat), (s : Rat)) (vp M j) ≤ dt ((p : Rat), (q : Rat), (s : Rat)) (vp M b) := f3 j j0 (by omega)
                 grind
             · show dt ((p : Rat), (q : Rat), (s : Rat)) (vp M j) < dt ((p : Rat), (q : Rat), (s : Rat)) (vp M i)
               have : dt ((p : Rat), (q : Rat), (s : Rat)) (vp M j) ≤ dt ((p : Rat), (q : Rat), (s : Rat)) (vp M b) := f3 j j0 (by omega)
               grind)
          | (have hle := q_le_of (x := ov M i p q s) (x' := ov M b p q s) ri.2.2.2.1 rb.2.2.2.1 (by omega)
             rw [eb, ei] at hle
             refine ih _ _ (by omega) (by omega) ⟨by omega, by omega, fun j j0 j1 => ?_, f4⟩
             by_cases hj : j = i
             · rw [hj]; exact hle
             · exact f3 j j0 (by omega))
      · refine ax_iload rfl rfl ?_
        refine ax_istore (ls' := [(0, _), (1, _), (2, _), (3, _), (4, _), (5, _), (6, _), (8, _)]) rfl rfl rfl ?_
        refine ax_iinc (ls' := [(0, _), (1, _), (2, _), (3, _), (4, _), (5, _), (6, _), (8, _)]) rfl rfl rfl rfl ?_
        refine ax_goto rfl ?_
        refine ax_pick [0, 1, 2, 3, 4, 5] rfl ?_
        first
          | (have hlt := (q_lt (x := ov M b p q s) (x' := ov M i p q s) rb.2.2.2.1 ri.2.2.2.1).mpr (by omega)
             rw [eb, ei] at hlt
             refine ih _ _ (by omega) (by omega) ⟨by omega, by omega, fun j j0 j1 => ?_, fun j j0 j1 => ?_⟩
             · show dt ((p : Rat), (q : Rat), (s : Rat)) (vp M j) ≤ dt ((p : Rat), (q : Rat), (s : Rat)) (vp M i)
               by_cases hj : j = i
               · rw [hj]; grind
               · have : dt ((p : Rat), (q : Rat), (s : Rat)) (vp M j) ≤ dt ((p : Rat), (q : Rat), (s : Rat)) (vp M b) := f3 j j0 (by omega)
                 grind
             · show dt ((p : Rat), (q : Rat), (s : Rat)) (vp M j) < dt ((p : Rat), (q : Rat), (s : Rat)) (vp M i)
               have : dt ((p : Rat), (q : Rat), (s : Rat)) (vp M j) ≤ dt ((p : Rat), (q : Rat), (s : Rat)) (vp M b) := f3 j j0 (by omega)
               grind)
          | (have hle := q_le_of (x := ov M i p q s) (x' := ov M b p q s) ri.2.2.2.1 rb.2.2.2.1 (by omega)
             rw [eb, ei] at hle
             refine ih _ _ (by omega) (by omega) ⟨by omega, by omega, fun j j0 j1 => ?_, f4⟩
             by_cases hj : j = i
             · rw [hj]; exact hle
             · exact f3 j j0 (by omega))
set_option maxRecDepth 100000 in
set_option maxHeartbeats 800000 in
theorem c_X0_firstBest (E : av_E) (d : Nat) (M : av_M) (hB : BI M) (p q s : Int) (hp : -99 ≤ p ∧ p ≤ 99) (hq : -99 ≤ q ∧ q ≤ 99) (hs : -99 ≤ s ∧ s ≤ 99) (h1 : 0 < M 12 4) : av_Mt E (d + 2) mX0_firstBest [vR 12, vI p, vI q, vI s] M (fun res M' => (∃ b, res = some (vI b) ∧ BF (M 12 4) (fun j => dt ((p : Rat), (q : Rat), (s : Rat)) (vp M j)) b) ∧ M' = M) := by
  refine av_enter hX0_firstBest oX0_firstBest rfl rfl ?_
  refine ax_iconst rfl ?_
  refine ax_istore (ls' := [(0, _), (1, _), (2, _), (3, _), (4, _)]) rfl rfl rfl ?_
  refine ax_iconst rfl ?_
  refine ax_istore (ls' := [(0, _), (1, _), (2, _), (3, _), (4, _), (5, _)]) rfl rfl rfl ?_
  exact l_X0_firstBest E d M hB p q s hp hq hs (M 12 4 - 1).toNat 1 0 (by omega) (by omega) ⟨by omega, by omega, fun j j0 j1 => by
    have : j = 0 := by omega
    subst this
    exact Rat.le_refl, fun j j0 j1 => by omega⟩
