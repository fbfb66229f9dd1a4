/-! ===== the reference: layVertices ===== -/
set_option maxRecDepth 100000 in
set_option maxHeartbeats 800000 in
theorem l3_X8_layVertices (E : av_E) (d : Nat) (M : av_M) (hR : RWm M) (set : Int) (hset : 0 ≤ set ∧ set < 1024) (Q : Option av_V → av_M → Prop) (u v : Int) (hi : 0 ≤ u ∧ u < v ∧ v < M 35 23) (nxt : ∀ M2 : av_M, LI M M2 set (covM u (v + 1) (v + 2)) (n3 u (v + 1)) → av_S E (d + 3) mX8_layVertices 19 [(0, vR 35), (1, vI set), (2, vI u), (3, vI (v + 1))] [] M2 Q) :
    ∀ (t : Nat) (w : Int) (M1 : av_M), w + t = M 35 23 → v < w → LI M M1 set (covM u v w) (n3 u v + (w - v - 1)) → av_S E (d + 3) mX8_layVertices 32 [(0, vR 35), (1, vI set), (2, vI u), (3, vI v), (4, vI w)] [] M1 Q := by
  have hs := hR.1
  intro t
  induction t with
  | zero =>
    intro w M1 hw vw hL
    have hkw := hL.2.2.2.w
    refine ax_iload rfl rfl ?_
    refine ax_aloadn rfl rfl ?_
    refine ax_getI (g := 23) rfl fX8_216 rfl rfl rfl rfl ?_
    refine ax_icmp_ge rfl (by omega) (by rw [hkw.1]; omega) (fun h38 => ?_) (fun h38 => ?_)
    · refine ax_iinc (ls' := [(0, _), (1, _), (2, _), (3, _), (4, _)]) rfl rfl rfl rfl ?_
      refine ax_goto rfl ?_
      refine ax_pick [0, 1, 2, 3] rfl ?_
      refine nxt M1 (LI_mono hL ?_ (fun a b c a0 ab bc cs => ?_))
      · have := n3_nx (i := u) (j := v) (s := M 35 23) (by omega)
        omega
      · unfold covM
        omega
    · rw [hkw.1] at h38; omega
  | succ t ih =>
    intro w M1 hw vw hL
    have hkw := hL.2.2.2.w
    have hc := n3_in (i := u) (j := v) (k := w) (by omega)
    have k := s1_X8_layVertices E d M hR set hset u v w _ (by omega) hc (covM u v w) M1 hL Q (fun M2 hL2 => ?nx)
    case nx =>
      refine ax_iinc (ls' := [(0, _), (1, _), (2, _), (3, _), (4, _)]) rfl rfl rfl rfl ?_
      refine ax_goto rfl ?_
      exact ih _ M2 (by omega) (by omega) (LI_mono hL2 (by omega) (fun a b c a0 ab bc cs => by unfold covM; omega))
    refine ax_iload rfl rfl ?_
    refine ax_aloadn rfl rfl ?_
    refine ax_getI (g := 23) rfl fX8_216 rfl rfl rfl rfl ?_
    refine ax_icmp_ge rfl (by omega) (by rw [hkw.1]; omega) (fun h38 => ?_) (fun h38 => ?_)
    · rw [hkw.1] at h38; omega
    · exact k
set_option maxRecDepth 100000 in
set_option maxHeartbeats 800000 in
theorem l2_X8_layVertices (E : av_E) (d : Nat) (M : av_M) (hR : RWm M) (set : Int) (hset : 0 ≤ set ∧ set < 1024) (Q : Option av_V → av_M → Prop) (u : Int) (hi : 0 ≤ u ∧ u < M 35 23) (nxt : ∀ M2 : av_M, LI M M2 set (covM (u + 1) (u + 2) (u + 3)) (n1 (u + 1)) → av_S E (d + 3) mX8_layVertices 7 [(0, vR 35), (1, vI set), (2, vI (u + 1))] [] M2 Q) :
    ∀ (t : Nat) (v : Int) (M1 : av_M), v + t = M 35 23 → u < v → LI M M1 set (covM u v (v + 1)) (n3 u v) → av_S E (d + 3) mX8_layVertices 19 [(0, vR 35), (1, vI set), (2, vI u), (3, vI v)] [] M1 Q := by
  have hs := hR.1
  intro t
  induction t with
  | zero =>
    intro v M1 hv uv hL
    have hkw := hL.2.2.2.w
    refine ax_iloadn rfl rfl ?_
    refine ax_aloadn rfl rfl ?_
    refine ax_getI (g := 23) rfl fX8_216 rfl rfl rfl rfl ?_
    refine ax_icmp_ge rfl (by omega) (by rw [hkw.1]; omega) (fun h24 => ?_) (fun h24 => ?_)
    · refine ax_iinc (ls' := [(0, _), (1, _), (2, _), (3, _)]) rfl rfl rfl rfl ?_
      refine ax_goto rfl ?_
      refine ax_pick [0, 1, 2] rfl ?_
      refine nxt M1 (LI_mono hL ?_ (fun a b c a0 ab bc cs => ?_))
      · exact n3_up (i := u) (j := v) (by omega)
      · unfold covM
        omega
    · rw [hkw.1] at h24; omega
  | succ t ih =>
    intro v M1 hv uv hL
    have hkw := hL.2.2.2.w
    refine ax_iloadn rfl rfl ?_
    refine ax_aloadn rfl rfl ?_
    refine ax_getI (g := 23) rfl fX8_216 rfl rfl rfl rfl ?_
    refine ax_icmp_ge rfl (by omega) (by rw [hkw.1]; omega) (fun h24 => ?_) (fun h24 => ?_)
    · rw [hkw.1] at h24; omega
    · refine ax_iloadn rfl rfl ?_
      refine ax_iconst rfl ?_
      refine ax_iadd rfl ?_
      refine ax_istore (ls' := [(0, _), (1, _), (2, _), (3, _), (4, _)]) rfl rfl rfl ?_
      exact l3_X8_layVertices E d M hR set hset Q u v (by omega) (fun M2 hL2 => ih _ M2 (by omega) (by omega) (by rw [show v + 1 + 1 = v + 2 by omega]; exact hL2)) t (v + 1) M1 (by omega) (by omega) (LI_mono hL (by omega) (fun a b c a0 ab bc cs => Iff.rfl))
set_option maxRecDepth 100000 in
set_option maxHeartbeats 800000 in
theorem l1_X8_layVertices (E : av_E) (d : Nat) (M : av_M) (hR : RWm M) (set : Int) (hset : 0 ≤ set ∧ set < 1024) (hon : ∀ j : Nat, set.toNat.testBit j = true → (j : Int) < M 35 23) : ∀ (t : Nat) (u : Int) (M1 : av_M), u + t = M 35 23 → 0 ≤ u → LI M M1 set (covM u (u + 1) (u + 2)) (n1 u) → av_S E (d + 3) mX8_layVertices 7 [(0, vR 35), (1, vI set), (2, vI u)] [] M1 (fun res M' => res = none ∧ RG M' (M' 35 26) ∧ RE (rv M') (M' 35 26) (VX (WL (rA M) (rB M) (rC M) (rD M)) (Sg set)) ∧ M' 35 26 ≤ 120 ∧ RK M M') := by
  have hs := hR.1
  intro t
  induction t with
  | zero =>
    intro u M1 hu u0 hL
    have hkw := hL.2.2.2.w
    have u1 := n1_le (i := u) (by omega)
    refine ax_iloadn rfl rfl ?_
    refine ax_aloadn rfl rfl ?_
    refine ax_getI (g := 23) rfl fX8_216 rfl rfl rfl rfl ?_
    refine ax_icmp_ge rfl (by omega) (by rw [hkw.1]; omega) (fun h12 => ?_) (fun h12 => ?_)
    · refine ax_vret rfl rfl ?_
      have hL3 := LI_mono (cov' := fun _ _ _ => True) hL u1 (fun a b c a0 ab bc cs => ⟨fun _ => trivial, fun _ => by unfold covM; omega⟩)
      refine ⟨rfl, hL3.1, RE_congr hL3.2.1 (fun p => SV3_VX (fun j hj => hon j hj) p), hL3.2.2.1, hL3.2.2.2⟩
    · rw [hkw.1] at h12; omega
  | succ t ih =>
    intro u M1 hu u0 hL
    have hkw := hL.2.2.2.w
    refine ax_iloadn rfl rfl ?_
    refine ax_aloadn rfl rfl ?_
    refine ax_getI (g := 23) rfl fX8_216 rfl rfl rfl rfl ?_
    refine ax_icmp_ge rfl (by omega) (by rw [hkw.1]; omega) (fun h12 => ?_) (fun h12 => ?_)
    · rw [hkw.1] at h12; omega
    · refine ax_iloadn rfl rfl ?_
      refine ax_iconst rfl ?_
      refine ax_iadd rfl ?_
      refine ax_istoren (ls' := [(0, _), (1, _), (2, _), (3, _)]) rfl rfl rfl ?_
      exact l2_X8_layVertices E d M hR set hset _ u (by omega) (fun M2 hL2 => ih _ M2 (by omega) (by omega) (by rw [show u + 1 + 1 = u + 2 by omega, show u + 1 + 2 = u + 3 by omega]; exact hL2)) t (u + 1) M1 (by omega) (by omega) (LI_mono hL (n3_st (i := u) (j := u + 1)) (fun a b c a0 ab bc cs => by unfold covM; omega))
set_option maxRecDepth 100000 in
set_option maxHeartbeats 800000 in
theorem c_X8_layVertices (E : av_E) (d : Nat) (M : av_M) (hR : RWm M) (set : Int) (hset : 0 ≤ set ∧ set < 1024) (hon : ∀ j : Nat, set.toNat.testBit j = true → (j : Int) < M 35 23) : av_Mt E (d + 3) mX8_layVertices [vR 35, vI set] M (fun res M' => res = none ∧ RG M' (M' 35 26) ∧ RE (rv M') (M' 35 26) (VX (WL (rA M) (rB M) (rC M) (rD M)) (Sg set)) ∧ M' 35 26 ≤ 120 ∧ RK M M') := by
  have hs := hR.1
  refine av_enter hX8_layVertices oX8_layVertices rfl rfl ?_
  refine ax_aloadn rfl rfl ?_
  refine ax_iconst rfl ?_
  refine ax_putI' (g := 26) rfl gX8_228 rfl rfl rfl rfl (fun M2 a2 b2 c2 => ?_)
  refine ax_iconst rfl ?_
  refine ax_istoren (ls' := [(0, _), (1, _), (2, _)]) rfl rfl rfl ?_
  refine l1_X8_layVertices E d M hR set hset hon (M 35 23).toNat 0 M2 (by omega) (by omega) ⟨?_, ?_, by rw [a2]; decide, b2, fun k k0 _ _ _ _ => c2 k k0⟩
  · rw [a2]; exact fun j j0 j1 => by omega
  · rw [a2]
    refine RE_congr (RE_nil _) (fun p => ⟨fun h => h.elim, ?_⟩)
    rintro ⟨i, j, k, c, ho, _⟩
    unfold covM at c
    omega
