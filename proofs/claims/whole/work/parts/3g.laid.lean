/-! ===== the reference: the figure laid ===== -/
def RPm (M : av_M) : Prop := (0 ≤ M 35 0 ∧ M 35 0 ≤ 12) ∧ ∀ j, 0 ≤ j → j < M 35 0 → (-50 ≤ M 36 j ∧ M 36 j ≤ 50) ∧ (-50 ≤ M 37 j ∧ M 37 j ≤ 50)
def FG (n : Int) (px py : Int → Int) (h : Int) (fx fy : Int → Int) : Prop := 0 ≤ n ∧ 0 ≤ h ∧ h ≤ n ∧ (n = 0 → h = 0) ∧ (0 < n → Hull (FS n px py) h.toNat (fun i : Nat => P2 (fx i) (fy i) 1))
def LFI (M M1 : av_M) (i : Int) : Prop := (∀ j, 0 ≤ j → j < i → M1 38 j = M 36 j ∧ M1 39 j = M 37 j ∧ M1 40 j = 1) ∧ (∀ j, i ≤ j → M1 38 j = M 38 j ∧ M1 39 j = M 39 j ∧ M1 40 j = M 40 j) ∧ ∀ k, k ≠ 38 → k ≠ 39 → k ≠ 40 → M1 k = M k
def LFm (M : av_M) (h : Int) (fx fy : Int → Int) : Prop := M 35 7 = h ∧ (0 ≤ h ∧ h ≤ 12) ∧ ∀ i, 0 ≤ i → i < h → (0 ≤ M 41 i ∧ M 41 i < M 35 0) ∧ M 36 (M 41 i) = fx i ∧ M 37 (M 41 i) = fy i ∧ rp M (M 41 i) = P2 (fx i) (fy i) 1 ∧ RB M (M 41 i) ∧ (-50 ≤ fx i ∧ fx i ≤ 50) ∧ (-50 ≤ fy i ∧ fy i ≤ 50)
def LFk (M M' : av_M) : Prop := (∀ f, f ≠ 7 → M' 35 f = M 35 f) ∧ (∀ j, 12 ≤ j → M' 38 j = M 38 j ∧ M' 39 j = M 39 j ∧ M' 40 j = M 40 j) ∧ ∀ k, k ≠ 35 → k ≠ 38 → k ≠ 39 → k ≠ 40 → k ≠ 41 → M' k = M k
theorem LFI_hull {M M2 : av_M} {n h : Int} {H : Int} {fx fy : Int → Int} (h0 : 0 ≤ n) (hL : ∀ j, 0 ≤ j → j < n → M2 38 j = M 36 j ∧ M2 39 j = M 37 j ∧ M2 40 j = 1) (hG : FG n (M 36) (M 37) H fx fy) (hU : HU M2 41 0 n h) : h = H ∧ ∀ i, 0 ≤ i → i < h → M 36 (M2 41 i) = fx i ∧ M 37 (M2 41 i) = fy i := by
  obtain ⟨u0, u1, u2, u3, u4⟩ := hU
  obtain ⟨g0, g1, g2, g3, g4⟩ := hG
  by_cases q : n = 0
  · have e1 := u4 q.symm
    have e2 := g3 q
    exact ⟨by omega, fun i i0 i1 => by omega⟩
  · have eS : RS (rp M2) 0 n = FS n (M 36) (M 37) := by
      funext p
      apply propext
      constructor
      · rintro ⟨k, k0, k1, rfl⟩
        refine ⟨k, k0, k1, ?_⟩
        obtain ⟨x1, x2, x3⟩ := hL k k0 k1
        unfold rp
        rw [x1, x2, x3]
      · rintro ⟨k, k0, k1, rfl⟩
        refine ⟨k, k0, k1, ?_⟩
        obtain ⟨x1, x2, x3⟩ := hL k k0 k1
        unfold rp
        rw [x1, x2, x3]
    have uh := u3 (by omega)
    rw [eS] at uh
    obtain ⟨e1, e2⟩ := Hull_un uh (g4 (by omega))
    refine ⟨by omega, fun i i0 i1 => ?_⟩
    have e := e2 i.toNat (by omega)
    have ei : ((i.toNat : Nat) : Int) = i := by omega
    have e' : rp M2 (M2 41 i) = P2 (fx i) (fy i) 1 := by
      have e3 : rp M2 (M2 41 ((i.toNat : Nat) : Int)) = P2 (fx ((i.toNat : Nat) : Int)) (fy ((i.toNat : Nat) : Int)) 1 := e
      rw [ei] at e3
      exact e3
    obtain ⟨b0, b1⟩ := u2 i i0 i1
    obtain ⟨x1, x2, x3⟩ := hL _ b0 b1
    unfold rp at e'
    rw [x1, x2, x3] at e'
    have := (P2_eq (by decide) (by decide)).mp e'
    omega
set_option maxRecDepth 100000 in
set_option maxHeartbeats 800000 in
theorem l_X8_layFigure (E : av_E) (d : Nat) (M : av_M) (hP : RPm M) (H : Int) (fx fy : Int → Int) (hG : FG (M 35 0) (M 36) (M 37) H fx fy) : ∀ (t : Nat) (i : Int) (M1 : av_M), i + t = M 35 0 → 0 ≤ i → LFI M M1 i → av_S E (d + 4) mX8_layFigure 2 [(0, vR 35), (1, vI i)] [] M1 (fun res M' => res = none ∧ LFm M' H fx fy ∧ LFk M M') := by
  have hn := hP.1
  intro t
  induction t with
  | zero =>
    intro i M1 hi i0 hL
    have ei : i = M 35 0 := by omega
    have e35 : M1 35 = M 35 := hL.2.2 35 (by decide) (by decide) (by decide)
    have e36 : M1 36 = M 36 := hL.2.2 36 (by decide) (by decide) (by decide)
    have e37 : M1 37 = M 37 := hL.2.2 37 (by decide) (by decide) (by decide)
    have e0 : M1 35 0 = M 35 0 := by rw [e35]
    have hR : ∀ k, 0 ≤ k → k < M1 35 0 → RB M1 k := fun k k0 k1 => by
      obtain ⟨x1, x2, x3⟩ := hL.1 k k0 (by omega)
      obtain ⟨y1, y2⟩ := hP.2 k k0 (by omega)
      unfold RB BP
      rw [x1, x2, x3]
      omega
    refine ax_iloadn rfl rfl ?_
    refine ax_aloadn rfl rfl ?_
    refine ax_getI (g := 0) rfl fX8_101 rfl rfl rfl rfl ?_
    refine ax_icmp_ge rfl (by omega) (by omega) (fun h7 => ?_) (fun h7 => ?_)
    · refine ax_aloadn rfl rfl ?_
      refine ax_aloadn rfl rfl ?_
      refine ax_iconst rfl ?_
      refine ax_aloadn rfl rfl ?_
      refine ax_getI (g := 0) rfl fX8_101 rfl rfl rfl rfl ?_
      refine ax_aloadn rfl rfl ?_
      refine ax_getR rfl fX8_26 rfl rfl ?_
      refine ax_callV (as := [_, _, _]) rfl vX8_127 hX8_hull rfl rfl rfl rfl rfl (c_F_hull E d M1 0 (M1 35 0) (by omega) hR (by omega)) (fun r60 M60 hr60 => ?_)
      obtain ⟨⟨h, rfl, hU⟩, hK⟩ := hr60
      refine ax_putI' (g := 7) rfl gX8_131 rfl rfl rfl rfl (fun M63 a63 b63 c63 => ?_)
      refine ax_vret rfl rfl ?_
      have z38 : M63 38 = M1 38 := by rw [c63 38 (by decide), hK 38 (by decide)]
      have z39 : M63 39 = M1 39 := by rw [c63 39 (by decide), hK 39 (by decide)]
      have z40 : M63 40 = M1 40 := by rw [c63 40 (by decide), hK 40 (by decide)]
      have z36 : M63 36 = M 36 := by rw [c63 36 (by decide), hK 36 (by decide), e36]
      have z37 : M63 37 = M 37 := by rw [c63 37 (by decide), hK 37 (by decide), e37]
      have z41 : M63 41 = M60 41 := by rw [c63 41 (by decide)]
      have z0 : M63 35 0 = M 35 0 := by rw [b63 0 (by decide), hK 35 (by decide), e0]
      rw [e0] at hU
      obtain ⟨eh, ef⟩ := LFI_hull (M := M) (M2 := M60) hn.1 (fun j j0 j1 => by rw [hK 38 (by decide), hK 39 (by decide), hK 40 (by decide)]; exact hL.1 j j0 (by omega)) hG hU
      obtain ⟨u0, u1, u2, u3, u4⟩ := hU
      refine ⟨rfl, ⟨by rw [a63]; exact eh, by omega, fun k k0 k1 => ?_⟩, fun f hf => by rw [b63 f hf, hK 35 (by decide), e35], fun j j0 => by rw [z38, z39, z40]; exact hL.2.1 j (by omega), fun k k0 k1 k2 k3 k4 => by rw [c63 k k0, hK k k4]; exact hL.2.2 k k1 k2 k3⟩
      obtain ⟨r0, r1⟩ := u2 k k0 (by omega)
      obtain ⟨f0, f1⟩ := ef k k0 (by omega)
      obtain ⟨x1, x2, x3⟩ := hL.1 _ r0 (by omega)
      obtain ⟨y1, y2⟩ := hP.2 _ r0 r1
      have e5 : rp M63 (M60 41 k) = P2 (fx k) (fy k) 1 := by unfold rp; rw [z38, z39, z40, x1, x2, x3, f0, f1]
      have e6 : RB M63 (M60 41 k) := by unfold RB BP; rw [z38, z39, z40, x1, x2, x3]; omega
      rw [z41, z36, z37, z0]
      exact ⟨⟨r0, r1⟩, f0, f1, e5, e6, by omega, by omega⟩
    · omega
  | succ t ih =>
    intro i M1 hi i0 hL
    have e35 : M1 35 = M 35 := hL.2.2 35 (by decide) (by decide) (by decide)
    have e36 : M1 36 = M 36 := hL.2.2 36 (by decide) (by decide) (by decide)
    have e37 : M1 37 = M 37 := hL.2.2 37 (by decide) (by decide) (by decide)
    have e0 : M1 35 0 = M 35 0 := by rw [e35]
    have pb := hP.2 i i0 (by omega)
    refine ax_iloadn rfl rfl ?_
    refine ax_aloadn rfl rfl ?_
    refine ax_getI (g := 0) rfl fX8_101 rfl rfl rfl rfl ?_
    refine ax_icmp_ge rfl (by omega) (by omega) (fun h7 => ?_) (fun h7 => ?_)
    · omega
    · refine ax_aloadn rfl rfl ?_
      refine ax_getR rfl fX8_16 rfl rfl ?_
      refine ax_iloadn rfl rfl ?_
      refine ax_aloadn rfl rfl ?_
      refine ax_getR rfl fX8_7 rfl rfl ?_
      refine ax_iloadn rfl rfl ?_
      refine ax_iald rfl rfl (by omega) ?_
      refine ax_i2l rfl (by rw [e36]; omega) ?_
      refine ax_last' rfl rfl (by omega) (fun M22 a22 b22 c22 => ?_)
      refine ax_aloadn rfl rfl ?_
      refine ax_getR rfl fX8_20 rfl rfl ?_
      refine ax_iloadn rfl rfl ?_
      refine ax_aloadn rfl rfl ?_
      refine ax_getR rfl fX8_13 rfl rfl ?_
      refine ax_iloadn rfl rfl ?_
      refine ax_iald rfl rfl (by omega) ?_
      refine ax_i2l rfl (by rw [c22 37 (by decide), e37]; omega) ?_
      refine ax_last' rfl rfl (by omega) (fun M35 a35 b35 c35 => ?_)
      refine ax_aloadn rfl rfl ?_
      refine ax_getR rfl fX8_23 rfl rfl ?_
      refine ax_iloadn rfl rfl ?_
      refine ax_lconst (w := 1) rfl rfl ?_
      refine ax_last' rfl rfl (by omega) (fun M42 a42 b42 c42 => ?_)
      refine ax_iinc (ls' := [(0, _), (1, _)]) rfl rfl rfl rfl ?_
      refine ax_goto rfl ?_
      refine ih (i + 1) M42 (by omega) (by omega) ⟨fun j j0 j1 => ?_, fun j j0 => ?_, fun k k0 k1 k2 => ?_⟩
      · rw [c42 38 (by decide), c35 38 (by decide), c42 39 (by decide)]
        by_cases q : j = i
        · subst q
          rw [a22, a35, a42, e36, c22 37 (by decide), e37]
          exact ⟨rfl, rfl, rfl⟩
        · rw [b22 j q, b35 j q, b42 j q, c22 39 (by decide), c35 40 (by decide), c22 40 (by decide)]
          exact hL.1 j j0 (by omega)
      · have q : j ≠ i := by omega
        rw [c42 38 (by decide), c35 38 (by decide), c42 39 (by decide), b22 j q, b35 j q, b42 j q, c22 39 (by decide), c35 40 (by decide), c22 40 (by decide)]
        exact hL.2.1 j (by omega)
      · rw [c42 k k2, c35 k k1, c22 k k0]
        exact hL.2.2 k k0 k1 k2
set_option maxRecDepth 100000 in
set_option maxHeartbeats 800000 in
theorem c_X8_layFigure (E : av_E) (d : Nat) (M : av_M) (hP : RPm M) (H : Int) (fx fy : Int → Int) (hG : FG (M 35 0) (M 36) (M 37) H fx fy) : av_Mt E (d + 4) mX8_layFigure [vR 35] M (fun res M' => res = none ∧ LFm M' H fx fy ∧ LFk M M') := by
  have hn := hP.1
  refine av_enter hX8_layFigure oX8_layFigure rfl rfl ?_
  refine ax_iconst rfl ?_
  refine ax_istoren (ls' := [(0, _), (1, _)]) rfl rfl rfl ?_
  exact l_X8_layFigure E d M hP H fx fy hG (M 35 0).toNat 0 M (by omega) (by omega) ⟨fun j j0 j1 => by omega, fun j j0 => ⟨rfl, rfl, rfl⟩, fun k _ _ _ => rfl⟩
