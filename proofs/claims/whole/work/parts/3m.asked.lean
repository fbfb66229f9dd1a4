/-! ===== the reference: what is asked of the body ===== -/
theorem bset_un {P : Nat → Prop} {s v v' : Int} (h : bset P s v) (h' : bset P s v') : v = v' := eq_bits h.1 h'.1 (fun j => (h.2.2 j).trans (h'.2.2 j).symm)
def ONm (M : av_M) (on : Int) : Prop := bset (fun t : Nat => M 53 t = 1) (M 35 23) on
theorem ONm.r {M : av_M} {on : Int} (h : ONm M on) : 0 ≤ on ∧ on < 1024 := ⟨h.1, h.2.1⟩
theorem ONm.t {M : av_M} {on : Int} (h : ONm M on) : ∀ j : Nat, on.toNat.testBit j = true → (j : Int) < M 35 23 := fun j q => ((h.2.2 j).mp q).1
theorem ONm.k {M M' : av_M} {on : Int} (h : ONm M on) (e : RQ M M') : ONm M' on := by
  unfold ONm
  rw [e.2.1 23 (by omega), e.2.2 53 (by omega)]
  exact h
theorem RWm.k {M M' : av_M} (h : RWm M) (e : RQ M M') : RWm M' := RWm_congr h ⟨e.2.1 23 (by omega), e.2.2 52 (by omega), e.2.2 53 (by omega)⟩
def LVm (M : av_M) (N : Int) (g : Int → p3) : Prop := M 35 26 = N ∧ RG M N ∧ ∀ j, 0 ≤ j → j < N → rv M j = g j
theorem LV_of {M : av_M} {S : p3 → Prop} {N : Int} {g : Int → p3} (hG : RG M (M 35 26)) (hE : RE (rv M) (M 35 26) S) (hF : RE g N S) : LVm M N g := by
  obtain ⟨e1, e2⟩ := Enum_un SO_lx3 hE.2 hF.2
  have h1 := hE.1
  have h2 := hF.1
  have e : M 35 26 = N := by omega
  refine ⟨e, by rw [← e]; exact hG, fun j j0 j1 => ?_⟩
  have e3 : rv M ((j.toNat : Nat) : Int) = g ((j.toNat : Nat) : Int) := e2 j.toNat (by omega)
  rw [show ((j.toNat : Nat) : Int) = j by omega] at e3
  exact e3
set_option maxRecDepth 100000 in
set_option maxHeartbeats 800000 in
theorem c_X8_setOn1 (E : av_E) (d : Nat) (M : av_M) (hR : RWm M) (on : Int) (hon : ONm M on) : av_Mt E d mX8_setOn [vR 35] M (av_X (some (vI on)) M) := by
  have hw := hR.1
  refine av_enter hX8_setOn oX8_setOn rfl rfl ?_
  refine ax_iconst rfl ?_
  refine ax_istoren (ls' := [(0, _), (1, _)]) rfl rfl rfl ?_
  refine ax_iconst rfl ?_
  refine ax_istoren (ls' := [(0, _), (1, _), (2, _)]) rfl rfl rfl ?_
  refine av_Sw (l_X8_setOn E d M hR (M 35 23).toNat 0 0 (by omega) (by omega) (bset_nil (by omega))) (fun r M' hq => ?_)
  obtain ⟨⟨v, q1, q2⟩, q3⟩ := hq
  exact ⟨by rw [q1, bset_un q2 hon], q3⟩
set_option maxRecDepth 100000 in
set_option maxHeartbeats 800000 in
theorem c_X8_sound (E : av_E) (d : Nat) (M : av_M) (hR : RWm M) (on : Int) (hon : ONm M on) : av_Mt E (d + 8) mX8_sound [vR 35] M (fun res M' => res = some (vI (b01 (Snd (RW M) (Sg on)))) ∧ RQ M M') := by
  have bs := b01_rng (Snd (RW M) (Sg on))
  refine av_enter hX8_sound oX8_sound rfl rfl ?_
  refine ax_aloadn rfl rfl ?_
  refine ax_aloadn rfl rfl ?_
  refine ax_callV (as := []) rfl vX8_255 hX8_setOn rfl rfl rfl rfl rfl (c_X8_setOn1 E (d + 7) M hR on hon) (av_Xk ?_)
  refine ax_callV (as := [_]) rfl vX8_258 hX8_isSound rfl rfl rfl rfl rfl (c_X8_isSound E (d + 3) M hR on hon.r hon.t) (fun r5 M5 hr5 => ?_)
  obtain ⟨rfl, v1, v2, v3, v4⟩ := hr5
  have hq := RK.q v4
  refine ax_if_eq rfl (by omega) (fun h8 => ?_) (fun h8 => ?_)
  · refine ax_iconst rfl ?_
    refine ax_iret rfl rfl ?_
    exact av_rq (by omega) hq
  · refine ax_iconst rfl ?_
    refine ax_goto rfl ?_
    refine ax_iret rfl rfl ?_
    exact av_rq (by omega) hq
set_option maxRecDepth 100000 in
set_option maxHeartbeats 800000 in
theorem c_X8_vertices (E : av_E) (d : Nat) (M : av_M) (hR : RWm M) (on : Int) (hon : ONm M on) (N : Int) (g : Int → p3) (hE : RE g N (VX (RW M) (Sg on))) : av_Mt E (d + 8) mX8_vertices [vR 35] M (fun res M' => res = some (vI N) ∧ RQ M M') := by
  refine av_enter hX8_vertices oX8_vertices rfl rfl ?_
  refine ax_aloadn rfl rfl ?_
  refine ax_aloadn rfl rfl ?_
  refine ax_callV (as := []) rfl vX8_255 hX8_setOn rfl rfl rfl rfl rfl (c_X8_setOn1 E (d + 7) M hR on hon) (av_Xk ?_)
  refine ax_callV (as := [_]) rfl vX8_247 hX8_layVertices rfl rfl rfl rfl rfl (c_X8_layVertices E (d + 4) M hR on hon.r hon.t) (fun r5 M5 hr5 => ?_)
  obtain ⟨rfl, v1, v2, v3, v4⟩ := hr5
  have hq := RK.q v4
  have hv := LV_of v1 v2 hE
  obtain ⟨ev, hG, hg⟩ := hv
  have N0 := hE.1
  have N1 : N ≤ 120 := by omega
  refine ax_aloadn rfl rfl ?_
  refine ax_getI (g := 26) rfl fX8_228 rfl rfl rfl rfl ?_
  refine ax_iret rfl rfl ?_
  exact av_rq ev hq
set_option maxRecDepth 100000 in
set_option maxHeartbeats 800000 in
theorem c_X8_vertex (E : av_E) (d : Nat) (M : av_M) (hR : RWm M) (on : Int) (hon : ONm M on) (N : Int) (g : Int → p3) (hE : RE g N (VX (RW M) (Sg on))) (v k u : Int) (hiv : -2147483648 ≤ v ∧ v < 2147483648) (hik : -2147483648 ≤ k ∧ k < 2147483648) (hiu : -2147483648 ≤ u ∧ u < 2147483648) : av_Mt E (d + 8) mX8_vertex [vR 35, vI v, vI k, vI u] M (fun res M' => res = some (vL (if ¬ (0 ≤ v ∧ v < N) then (-900000001) else if ¬ (0 ≤ k ∧ k ≤ 2) then (-900000002) else tl (if k = 0 then (g v).1 else if k = 1 then (g v).2.1 else (g v).2.2) u)) ∧ RQ M M') := by
  refine av_enter hX8_vertex oX8_vertex rfl rfl ?_
  refine ax_aloadn rfl rfl ?_
  refine ax_aloadn rfl rfl ?_
  refine ax_callV (as := []) rfl vX8_255 hX8_setOn rfl rfl rfl rfl rfl (c_X8_setOn1 E (d + 7) M hR on hon) (av_Xk ?_)
  refine ax_callV (as := [_]) rfl vX8_247 hX8_layVertices rfl rfl rfl rfl rfl (c_X8_layVertices E (d + 4) M hR on hon.r hon.t) (fun r5 M5 hr5 => ?_)
  obtain ⟨rfl, v1, v2, v3, v4⟩ := hr5
  have hq := RK.q v4
  have hv := LV_of v1 v2 hE
  obtain ⟨ev, hG, hg⟩ := hv
  have N0 := hE.1
  have N1 : N ≤ 120 := by omega
  have bi := b01_c (0 ≤ v ∧ v ≤ M5 35 26 - 1)
  have bw := b01_c (0 ≤ k ∧ k ≤ 2)
  have hx : 0 ≤ v ∧ v < N → B3 (M5 54 v) (M5 55 v) (M5 56 v) (M5 57 v) := fun q => hG v q.1 q.2
  unfold B3 at hx
  refine ax_iloadn rfl rfl ?_
  refine ax_i2l rfl (by omega) ?_
  refine ax_lconst (w := 0) rfl rfl ?_
  refine ax_aloadn rfl rfl ?_
  refine ax_getI (g := 26) rfl fX8_228 rfl rfl rfl rfl ?_
  refine ax_iconst rfl ?_
  refine ax_isub rfl ?_
  refine ax_i2l rfl (by omega) ?_
  refine ax_callS (as := [_, _, _]) rfl sX8_96 hX8_in rfl rfl rfl rfl (c_X8_in E (d + 7) M5 v 0 (M5 35 26 - 1) (by omega) (by omega) (by omega)) (av_Xk ?_)
  refine ax_if_ne rfl (by omega) (fun h21 => ?_) (fun h21 => ?_)
  · refine ax_iloadn rfl rfl ?_
    refine ax_i2l rfl (by omega) ?_
    refine ax_lconst (w := 0) rfl rfl ?_
    refine ax_ldc2 (z := 2) rfl kX8_138 rfl ?_
    refine ax_callS (as := [_, _, _]) rfl sX8_96 hX8_in rfl rfl rfl rfl (c_X8_in E (d + 7) M5 k 0 2 (by omega) (by omega) (by omega)) (av_Xk ?_)
    refine ax_if_ne rfl (by omega) (fun h37 => ?_) (fun h37 => ?_)
    · refine ax_iloadn rfl rfl ?_
      refine ax_if_ne rfl (by omega) (fun h47 => ?_) (fun h47 => ?_)
      · refine ax_iloadn rfl rfl ?_
        refine ax_iconst rfl ?_
        refine ax_icmp_ne rfl (by omega) (by omega) (fun h61 => ?_) (fun h61 => ?_)
        · refine ax_aloadn rfl rfl ?_
          refine ax_getR rfl fX8_79 rfl rfl ?_
          refine ax_iloadn rfl rfl ?_
          refine ax_lald rfl rfl (by omega) ?_
          refine ax_aloadn rfl rfl ?_
          refine ax_getR rfl fX8_82 rfl rfl ?_
          refine ax_iloadn rfl rfl ?_
          refine ax_lald rfl rfl (by omega) ?_
          refine ax_iloadn rfl rfl ?_
          refine ax_callS (as := [_, _, _]) rfl sX8_265 hX8_told rfl rfl rfl rfl (c_R_told E (d + 6) M5 _ (M5 57 v) u (by omega) (by omega) (by omega)) (av_Xk ?_)
          refine ax_lret rfl rfl ?_
          first
            | exact ⟨by rw [if_neg (by omega), if_pos (by omega)], hq⟩
            | (have eg := hg v (by omega) (by omega)
               refine ⟨?_, hq⟩
               rw [if_neg (by omega), if_neg (by omega), ← eg]
               first
                 | (rw [if_pos (by omega)]; rfl)
                 | (rw [if_neg (by omega), if_pos (by omega)]; rfl)
                 | (rw [if_neg (by omega), if_neg (by omega)]; rfl))
        · refine ax_aloadn rfl rfl ?_
          refine ax_getR rfl fX8_76 rfl rfl ?_
          refine ax_iloadn rfl rfl ?_
          refine ax_lald rfl rfl (by omega) ?_
          refine ax_goto rfl ?_
          refine ax_aloadn rfl rfl ?_
          refine ax_getR rfl fX8_82 rfl rfl ?_
          refine ax_iloadn rfl rfl ?_
          refine ax_lald rfl rfl (by omega) ?_
          refine ax_iloadn rfl rfl ?_
          refine ax_callS (as := [_, _, _]) rfl sX8_265 hX8_told rfl rfl rfl rfl (c_R_told E (d + 6) M5 _ (M5 57 v) u (by omega) (by omega) (by omega)) (av_Xk ?_)
          refine ax_lret rfl rfl ?_
          first
            | exact ⟨by rw [if_neg (by omega), if_pos (by omega)], hq⟩
            | (have eg := hg v (by omega) (by omega)
               refine ⟨?_, hq⟩
               rw [if_neg (by omega), if_neg (by omega), ← eg]
               first
                 | (rw [if_pos (by omega)]; rfl)
                 | (rw [if_neg (by omega), if_pos (by omega)]; rfl)
                 | (rw [if_neg (by omega), if_neg (by omega)]; rfl))
      · refine ax_aloadn rfl rfl ?_
        refine ax_getR rfl fX8_73 rfl rfl ?_
        refine ax_iloadn rfl rfl ?_
        refine ax_lald rfl rfl (by omega) ?_
        refine ax_goto rfl ?_
        refine ax_aloadn rfl rfl ?_
        refine ax_getR rfl fX8_82 rfl rfl ?_
        refine ax_iloadn rfl rfl ?_
        refine ax_lald rfl rfl (by omega) ?_
        refine ax_iloadn rfl rfl ?_
        refine ax_callS (as := [_, _, _]) rfl sX8_265 hX8_told rfl rfl rfl rfl (c_R_told E (d + 6) M5 _ (M5 57 v) u (by omega) (by omega) (by omega)) (av_Xk ?_)
        refine ax_lret rfl rfl ?_
        first
          | exact ⟨by rw [if_neg (by omega), if_pos (by omega)], hq⟩
          | (have eg := hg v (by omega) (by omega)
             refine ⟨?_, hq⟩
             rw [if_neg (by omega), if_neg (by omega), ← eg]
             first
               | (rw [if_pos (by omega)]; rfl)
               | (rw [if_neg (by omega), if_pos (by omega)]; rfl)
               | (rw [if_neg (by omega), if_neg (by omega)]; rfl))
    · refine ax_ldc2 (z := (-900000002)) rfl kX8_263 rfl ?_
      refine ax_goto rfl ?_
      refine ax_lret rfl rfl ?_
      first
        | exact ⟨by rw [if_neg (by omega), if_pos (by omega)], hq⟩
        | (have eg := hg v (by omega) (by omega)
           refine ⟨?_, hq⟩
           rw [if_neg (by omega), if_neg (by omega), ← eg]
           first
             | (rw [if_pos (by omega)]; rfl)
             | (rw [if_neg (by omega), if_pos (by omega)]; rfl)
             | (rw [if_neg (by omega), if_neg (by omega)]; rfl))
  · refine ax_ldc2 (z := (-900000001)) rfl kX8_261 rfl ?_
    refine ax_lret rfl rfl ?_
    exact ⟨by rw [if_pos (by omega)], hq⟩
set_option maxRecDepth 100000 in
set_option maxHeartbeats 800000 in
theorem c_X8_tight (E : av_E) (d : Nat) (M : av_M) (hR : RWm M) (on : Int) (hon : ONm M on) (N : Int) (g : Int → p3) (hE : RE g N (VX (RW M) (Sg on))) (v : Int) (hiv : -2147483648 ≤ v ∧ v < 2147483648) : av_Mt E (d + 8) mX8_tight [vR 35, vI v] M (fun res M' => ((¬ (0 ≤ v ∧ v < N) ∧ res = some (vI (-900000001))) ∨ ((0 ≤ v ∧ v < N) ∧ ∃ z, res = some (vI z) ∧ bset (fun t : Nat => Sg on t ∧ TI (RW M) t (g v)) (M 35 23) z)) ∧ RQ M M') := by
  refine av_enter hX8_tight oX8_tight rfl rfl ?_
  refine ax_aloadn rfl rfl ?_
  refine ax_aloadn rfl rfl ?_
  refine ax_callV (as := []) rfl vX8_255 hX8_setOn rfl rfl rfl rfl rfl (c_X8_setOn1 E (d + 7) M hR on hon) (av_Xk ?_)
  refine ax_callV (as := [_]) rfl vX8_247 hX8_layVertices rfl rfl rfl rfl rfl (c_X8_layVertices E (d + 4) M hR on hon.r hon.t) (fun r5 M5 hr5 => ?_)
  obtain ⟨rfl, v1, v2, v3, v4⟩ := hr5
  have hq := RK.q v4
  have hv := LV_of v1 v2 hE
  obtain ⟨ev, hG, hg⟩ := hv
  have N0 := hE.1
  have N1 : N ≤ 120 := by omega
  have bi := b01_c (0 ≤ v ∧ v ≤ M5 35 26 - 1)
  refine ax_iloadn rfl rfl ?_
  refine ax_i2l rfl (by omega) ?_
  refine ax_lconst (w := 0) rfl rfl ?_
  refine ax_aloadn rfl rfl ?_
  refine ax_getI (g := 26) rfl fX8_228 rfl rfl rfl rfl ?_
  refine ax_iconst rfl ?_
  refine ax_isub rfl ?_
  refine ax_i2l rfl (by omega) ?_
  refine ax_callS (as := [_, _, _]) rfl sX8_96 hX8_in rfl rfl rfl rfl (c_X8_in E (d + 7) M5 v 0 (M5 35 26 - 1) (by omega) (by omega) (by omega)) (av_Xk ?_)
  refine ax_if_eq rfl (by omega) (fun h21 => ?_) (fun h21 => ?_)
  · refine ax_ldc (z := (-900000001)) rfl kX8_105 rfl ?_
    refine ax_iret rfl rfl ?_
    first
      | exact ⟨Or.inl ⟨by omega, rfl⟩, hq⟩
      | (refine ⟨Or.inr ⟨by omega, z, rfl, ?_⟩, hq⟩
         rw [hq.2.1 23 (by omega)] at hz
         refine bset_congr hz (fun j hj => and_congr Iff.rfl ?_)
         have eg := hg v (by omega) (by omega)
         have e2 := RW_k (hq.2.2 52 (by omega))
         rw [← eg, ← e2]
         exact ex_zero (hG v (by omega) (by omega)).2.2.2.1)
  · refine ax_aloadn rfl rfl ?_
    refine ax_aloadn rfl rfl ?_
    refine ax_callV (as := []) rfl vX8_255 hX8_setOn rfl rfl rfl rfl rfl (c_X8_setOn1 E (d + 7) M5 (hR.k hq) on (hon.k hq)) (av_Xk ?_)
    refine ax_iloadn rfl rfl ?_
    refine ax_callV (as := [_, _]) rfl vX8_269 hX8_tightAt rfl rfl rfl rfl rfl (c_X8_tightAt E (d + 6) M5 (hR.k hq) on v hon.r (by omega) (hG v (by omega) (by omega))) (fun r30 M30 hr30 => ?_)
    obtain ⟨⟨z, rfl, hz⟩, rfl⟩ := hr30
    refine ax_goto rfl ?_
    refine ax_iret rfl rfl ?_
    first
      | exact ⟨Or.inl ⟨by omega, rfl⟩, hq⟩
      | (refine ⟨Or.inr ⟨by omega, z, rfl, ?_⟩, hq⟩
         rw [hq.2.1 23 (by omega)] at hz
         refine bset_congr hz (fun j hj => and_congr Iff.rfl ?_)
         have eg := hg v (by omega) (by omega)
         have e2 := RW_k (hq.2.2 52 (by omega))
         rw [← eg, ← e2]
         exact ex_zero (hG v (by omega) (by omega)).2.2.2.1)
theorem rv_rng {M : av_M} {N : Int} (hG : RG M N) {j p q s : Int} (hj : 0 ≤ j ∧ j < N) (hp : -99 ≤ p ∧ p ≤ 99) (hq : -99 ≤ q ∧ q ≤ 99) (hs : -99 ≤ s ∧ s ≤ 99) : -15000000 ≤ p * M 54 j + q * M 55 j + s * M 56 j ∧ p * M 54 j + q * M 55 j + s * M 56 j ≤ 15000000 := by
  obtain ⟨b1, b2, b3, _⟩ := hG j hj.1 hj.2
  have m1 := mb hp b1
  have m2 := mb hq b2
  have m3 := mb hs b3
  omega
theorem rv_dt {M : av_M} {j p q s : Int} (hw : 0 < M 57 j) : ((p * M 54 j + q * M 55 j + s * M 56 j : Int) : Rat) / ((M 57 j : Int) : Rat) = dt (((p : Int) : Rat), ((q : Int) : Rat), ((s : Int) : Rat)) (rv M j) := by
  have c := c_pos hw
  refine div_eq' c ?_
  unfold dt rv P3
  have e1 := q_mul (x := M 54 j) hw
  have e2 := q_mul (x := M 55 j) hw
  have e3 := q_mul (x := M 56 j) hw
  push_cast
  grind
set_option maxRecDepth 100000 in
set_option maxHeartbeats 800000 in
theorem l_X8_bestVertex (E : av_E) (d : Nat) (M : av_M) (N : Int) (g : Int → p3) (hV : LVm M N g) (hN : N ≤ 120) (p q s : Int) (hp : -99 ≤ p ∧ p ≤ 99) (hq : -99 ≤ q ∧ q ≤ 99) (hs : -99 ≤ s ∧ s ≤ 99) : ∀ (t : Nat) (i b : Int), i + t = N → 1 ≤ i → BF i (fun j => dt ((p : Rat), (q : Rat), (s : Rat)) (g j)) b → av_S E (d + 1) mX8_bestVertex 6 [(0, vR 35), (1, vI p), (2, vI q), (3, vI s), (4, vI b), (5, vI i)] [] M (fun res M' => (∃ b, res = some (vI b) ∧ BF N (fun j => dt ((p : Rat), (q : Rat), (s : Rat)) (g j)) b) ∧ M' = M) := by
  obtain ⟨ev, hG, hg⟩ := hV
  intro t
  induction t with
  | zero =>
    intro i b hi i0 hF
    have ei : i = N := by omega
    subst ei
    refine ax_iload rfl rfl ?_
    refine ax_aloadn rfl rfl ?_
    refine ax_getI (g := 26) rfl fX8_228 rfl rfl rfl rfl ?_
    refine ax_icmp_ge rfl (by omega) (by omega) (fun h12 => ?_) (fun h12 => ?_)
    · refine ax_iload rfl rfl ?_
      refine ax_iret rfl rfl ?_
      exact ⟨⟨b, rfl, hF⟩, rfl⟩
    · omega
  | succ t ih =>
    intro i b hi i0 hF
    obtain ⟨f1, f2, f3, f4⟩ := hF
    have vb : 0 ≤ b ∧ b < N := by omega
    have vi : 0 ≤ i ∧ i < N := by omega
    obtain ⟨_, _, _, wb, wb2⟩ := hG b vb.1 vb.2
    obtain ⟨_, _, _, wi, wi2⟩ := hG i vi.1 vi.2
    have ob := rv_rng hG vb hp hq hs
    have oi := rv_rng hG vi hp hq hs
    have m1 := mb oi (show -5000 ≤ M 57 b ∧ M 57 b ≤ 5000 by omega)
    have m2 := mb ob (show -5000 ≤ M 57 i ∧ M 57 i ≤ 5000 by omega)
    have eb := rv_dt (M := M) (j := b) (p := p) (q := q) (s := s) wb
    have ei := rv_dt (M := M) (j := i) (p := p) (q := q) (s := s) wi
    rw [hg b vb.1 vb.2] at eb
    rw [hg i vi.1 vi.2] at ei
    refine ax_iload rfl rfl ?_
    refine ax_aloadn rfl rfl ?_
    refine ax_getI (g := 26) rfl fX8_228 rfl rfl rfl rfl ?_
    refine ax_icmp_ge rfl (by omega) (by omega) (fun h12 => ?_) (fun h12 => ?_)
    · omega
    · refine ax_iloadn rfl rfl ?_
      refine ax_i2l rfl (by omega) ?_
      refine ax_aloadn rfl rfl ?_
      refine ax_getR rfl fX8_73 rfl rfl ?_
      refine ax_iload rfl rfl ?_
      refine ax_lald rfl rfl (by omega) ?_
      refine ax_lmul rfl ?_
      refine ax_iloadn rfl rfl ?_
      refine ax_i2l rfl (by omega) ?_
      refine ax_aloadn rfl rfl ?_
      refine ax_getR rfl fX8_76 rfl rfl ?_
      refine ax_iload rfl rfl ?_
      refine ax_lald rfl rfl (by omega) ?_
      refine ax_lmul rfl ?_
      refine ax_ladd rfl ?_
      refine ax_iloadn rfl rfl ?_
      refine ax_i2l rfl (by omega) ?_
      refine ax_aloadn rfl rfl ?_
      refine ax_getR rfl fX8_79 rfl rfl ?_
      refine ax_iload rfl rfl ?_
      refine ax_lald rfl rfl (by omega) ?_
      refine ax_lmul rfl ?_
      refine ax_ladd rfl ?_
      refine ax_lstore (ls' := [(0, _), (1, _), (2, _), (3, _), (4, _), (5, _), (6, _)]) rfl rfl rfl ?_
      refine ax_iloadn rfl rfl ?_
      refine ax_i2l rfl (by omega) ?_
      refine ax_aloadn rfl rfl ?_
      refine ax_getR rfl fX8_73 rfl rfl ?_
      refine ax_iload rfl rfl ?_
      refine ax_lald rfl rfl (by omega) ?_
      refine ax_lmul rfl ?_
      refine ax_iloadn rfl rfl ?_
      refine ax_i2l rfl (by omega) ?_
      refine ax_aloadn rfl rfl ?_
      refine ax_getR rfl fX8_76 rfl rfl ?_
      refine ax_iload rfl rfl ?_
      refine ax_lald rfl rfl (by omega) ?_
      refine ax_lmul rfl ?_
      refine ax_ladd rfl ?_
      refine ax_iloadn rfl rfl ?_
      refine ax_i2l rfl (by omega) ?_
      refine ax_aloadn rfl rfl ?_
      refine ax_getR rfl fX8_79 rfl rfl ?_
      refine ax_iload rfl rfl ?_
      refine ax_lald rfl rfl (by omega) ?_
      refine ax_lmul rfl ?_
      refine ax_ladd rfl ?_
      refine ax_lstore (ls' := [(0, _), (1, _), (2, _), (3, _), (4, _), (5, _), (6, _), (8, _)]) rfl rfl rfl ?_
      refine ax_aloadn rfl rfl ?_
      refine ax_lload rfl rfl ?_
      refine ax_aloadn rfl rfl ?_
      refine ax_getR rfl fX8_82 rfl rfl ?_
      refine ax_iload rfl rfl ?_
      refine ax_lald rfl rfl (by omega) ?_
      refine ax_lload rfl rfl ?_
      refine ax_aloadn rfl rfl ?_
      refine ax_getR rfl fX8_82 rfl rfl ?_
      refine ax_iload rfl rfl ?_
      refine ax_lald rfl rfl (by omega) ?_
      refine ax_callV (as := [_, _, _, _]) rfl vX8_106 hX8_compare rfl rfl rfl rfl rfl (c_X8_compare E d M (p * M 54 i + q * M 55 i + s * M 56 i) (M 57 i) (p * M 54 b + q * M 55 b + s * M 56 b) (M 57 b)) (av_Xk ?_)
      refine ax_lconst (w := 0) rfl rfl ?_
      refine ax_lif_le rfl rfl (by omega) (by omega) (fun h106 => ?_) (fun h106 => ?_)
      · refine ax_iload rfl rfl ?_
        refine ax_istore (ls' := [(0, _), (1, _), (2, _), (3, _), (4, _), (5, _), (6, _), (8, _)]) rfl rfl rfl ?_
        refine ax_iinc (ls' := [(0, _), (1, _), (2, _), (3, _), (4, _), (5, _), (6, _), (8, _)]) rfl rfl rfl rfl ?_
        refine ax_goto rfl ?_
        refine ax_pick [0, 1, 2, 3, 4, 5] rfl ?_
        first
          | (have hlt := (q_lt (x := (p * M 54 b + q * M 55 b + s * M 56 b)) (x' := (p * M 54 i + q * M 55 i + s * M 56 i)) wb wi).mpr (by omega)
             rw [eb, ei] at hlt
             refine ih _ _ (by omega) (by omega) ⟨by omega, by omega, fun j j0 j1 => ?_, fun j j0 j1 => ?_⟩
             · show dt ((p : Rat), (q : Rat), (s : Rat)) (g j) ≤ dt ((p : Rat), (q : Rat), (s : Rat)) (g i)
               by_cases hj : j = i
               · rw [hj]; grind
               · have : dt ((p : Rat), (q : Rat), (s : Rat)) (g j) ≤ dt ((p : Rat), (q : Rat), (s : Rat)) (g b) := f3 j j0 (by omega)
                 grind
             · show dt ((p : Rat), (q : Rat), (s : Rat)) (g j) < dt ((p : Rat), (q : Rat), (s : Rat)) (g i)
               have : dt ((p : Rat), (q : Rat), (s : Rat)) (g j) ≤ dt ((p : Rat), (q : Rat), (s : Rat)) (g b) := f3 j j0 (by omega)
               grind)
          | (have hle := q_le_of (x := (p * M 54 i + q * M 55 i + s * M 56 i)) (x' := (p * M 54 b + q * M 55 b + s * M 56 b)) wi wb (by omega)
             rw [eb, ei] at hle
             refine ih _ _ (by omega) (by omega) ⟨by omega, by omega, fun j j0 j1 => ?_, f4⟩
             by_cases hj : j = i
             · rw [hj]; exact hle
             · exact f3 j j0 (by omega))
      · refine ax_iload rfl rfl ?_
        refine ax_goto rfl ?_
        refine ax_istore (ls' := [(0, _), (1, _), (2, _), (3, _), (4, _), (5, _), (6, _), (8, _)]) rfl rfl rfl ?_
        refine ax_iinc (ls' := [(0, _), (1, _), (2, _), (3, _), (4, _), (5, _), (6, _), (8, _)]) rfl rfl rfl rfl ?_
        refine ax_goto rfl ?_
        refine ax_pick [0, 1, 2, 3, 4, 5] rfl ?_
        first
          | (have hlt := (q_lt (x := (p * M 54 b + q * M 55 b + s * M 56 b)) (x' := (p * M 54 i + q * M 55 i + s * M 56 i)) wb wi).mpr (by omega)
             rw [eb, ei] at hlt
             refine ih _ _ (by omega) (by omega) ⟨by omega, by omega, fun j j0 j1 => ?_, fun j j0 j1 => ?_⟩
             · show dt ((p : Rat), (q : Rat), (s : Rat)) (g j) ≤ dt ((p : Rat), (q : Rat), (s : Rat)) (g i)
               by_cases hj : j = i
               · rw [hj]; grind
               · have : dt ((p : Rat), (q : Rat), (s : Rat)) (g j) ≤ dt ((p : Rat), (q : Rat), (s : Rat)) (g b) := f3 j j0 (by omega)
                 grind
             · show dt ((p : Rat), (q : Rat), (s : Rat)) (g j) < dt ((p : Rat), (q : Rat), (s : Rat)) (g i)
               have : dt ((p : Rat), (q : Rat), (s : Rat)) (g j) ≤ dt ((p : Rat), (q : Rat), (s : Rat)) (g b) := f3 j j0 (by omega)
               grind)
          | (have hle := q_le_of (x := (p * M 54 i + q * M 55 i + s * M 56 i)) (x' := (p * M 54 b + q * M 55 b + s * M 56 b)) wi wb (by omega)
             rw [eb, ei] at hle
             refine ih _ _ (by omega) (by omega) ⟨by omega, by omega, fun j j0 j1 => ?_, f4⟩
             by_cases hj : j = i
             · rw [hj]; exact hle
             · exact f3 j j0 (by omega))
set_option maxRecDepth 100000 in
set_option maxHeartbeats 800000 in
theorem c_X8_bestVertex (E : av_E) (d : Nat) (M : av_M) (N : Int) (g : Int → p3) (hV : LVm M N g) (hN : 0 < N ∧ N ≤ 120) (p q s : Int) (hp : -99 ≤ p ∧ p ≤ 99) (hq : -99 ≤ q ∧ q ≤ 99) (hs : -99 ≤ s ∧ s ≤ 99) : av_Mt E (d + 1) mX8_bestVertex [vR 35, vI p, vI q, vI s] M (fun res M' => (∃ b, res = some (vI b) ∧ BF N (fun j => dt ((p : Rat), (q : Rat), (s : Rat)) (g j)) b) ∧ M' = M) := by
  refine av_enter hX8_bestVertex oX8_bestVertex rfl rfl ?_
  refine ax_iconst rfl ?_
  refine ax_istore (ls' := [(0, _), (1, _), (2, _), (3, _), (4, _)]) rfl rfl rfl ?_
  refine ax_iconst rfl ?_
  refine ax_istore (ls' := [(0, _), (1, _), (2, _), (3, _), (4, _), (5, _)]) rfl rfl rfl ?_
  exact l_X8_bestVertex E d M N g hV hN.2 p q s hp hq hs (N - 1).toNat 1 0 (by omega) (by omega) ⟨by omega, by omega, fun j j0 j1 => by
    have : j = 0 := by omega
    subst this
    exact Rat.le_refl, fun j j0 j1 => by omega⟩
set_option maxRecDepth 100000 in
set_option maxHeartbeats 800000 in
theorem c_X8_mayAsk (E : av_E) (d : Nat) (M : av_M) (hR : RWm M) (on : Int) (hon : ONm M on) (N : Int) (g : Int → p3) (hE : RE g N (VX (RW M) (Sg on))) (p q s : Int) (hip : -2147483648 ≤ p ∧ p < 2147483648) (hiq : -2147483648 ≤ q ∧ q < 2147483648) (his : -2147483648 ≤ s ∧ s < 2147483648) : av_Mt E (d + 5) mX8_mayAsk [vR 35, vI p, vI q, vI s] M (fun res M' => ((¬ ((-99 ≤ p ∧ p ≤ 99) ∧ (-99 ≤ q ∧ q ≤ 99) ∧ (-99 ≤ s ∧ s ≤ 99)) ∧ res = some (vI (-900000002))) ∨ (((-99 ≤ p ∧ p ≤ 99) ∧ (-99 ≤ q ∧ q ≤ 99) ∧ (-99 ≤ s ∧ s ≤ 99)) ∧ ¬ Snd (RW M) (Sg on) ∧ res = some (vI (-900000003))) ∨ (((-99 ≤ p ∧ p ≤ 99) ∧ (-99 ≤ q ∧ q ≤ 99) ∧ (-99 ≤ s ∧ s ≤ 99)) ∧ Snd (RW M) (Sg on) ∧ res = some (vI 0) ∧ LVm M' N g ∧ 0 < N ∧ N ≤ 120)) ∧ RQ M M') := by
  have hc0 := b01_c (-99 ≤ p ∧ p ≤ 99)
  have hc1 := b01_c (-99 ≤ q ∧ q ≤ 99)
  have hc2 := b01_c (-99 ≤ s ∧ s ≤ 99)
  have bs := b01_rng (Snd (RW M) (Sg on))
  refine av_enter hX8_mayAsk oX8_mayAsk rfl rfl ?_
  refine ax_iloadn rfl rfl ?_
  refine ax_i2l rfl (by omega) ?_
  refine ax_ldc2 (z := (-99)) rfl kX8_212 rfl ?_
  refine ax_ldc2 (z := 99) rfl kX8_214 rfl ?_
  refine ax_callS (as := [_, _, _]) rfl sX8_96 hX8_in rfl rfl rfl rfl (c_X8_in E (d + 4) M p (-99) 99 (by omega) (by omega) (by omega)) (av_Xk ?_)
  refine ax_if_eq rfl (by omega) (fun h11 => ?_) (fun h11 => ?_)
  · refine ax_ldc (z := (-900000002)) rfl kX8_100 rfl ?_
    refine ax_iret rfl rfl ?_
    exact ⟨Or.inl ⟨by omega, rfl⟩, RQ.rf M⟩
  · refine ax_iloadn rfl rfl ?_
    refine ax_i2l rfl (by omega) ?_
    refine ax_ldc2 (z := (-99)) rfl kX8_212 rfl ?_
    refine ax_ldc2 (z := 99) rfl kX8_214 rfl ?_
    refine ax_callS (as := [_, _, _]) rfl sX8_96 hX8_in rfl rfl rfl rfl (c_X8_in E (d + 4) M q (-99) 99 (by omega) (by omega) (by omega)) (av_Xk ?_)
    refine ax_if_eq rfl (by omega) (fun h25 => ?_) (fun h25 => ?_)
    · refine ax_ldc (z := (-900000002)) rfl kX8_100 rfl ?_
      refine ax_iret rfl rfl ?_
      exact ⟨Or.inl ⟨by omega, rfl⟩, RQ.rf M⟩
    · refine ax_iloadn rfl rfl ?_
      refine ax_i2l rfl (by omega) ?_
      refine ax_ldc2 (z := (-99)) rfl kX8_212 rfl ?_
      refine ax_ldc2 (z := 99) rfl kX8_214 rfl ?_
      refine ax_callS (as := [_, _, _]) rfl sX8_96 hX8_in rfl rfl rfl rfl (c_X8_in E (d + 4) M s (-99) 99 (by omega) (by omega) (by omega)) (av_Xk ?_)
      refine ax_if_ne rfl (by omega) (fun h39 => ?_) (fun h39 => ?_)
      · refine ax_aloadn rfl rfl ?_
        refine ax_aloadn rfl rfl ?_
        refine ax_callV (as := []) rfl vX8_255 hX8_setOn rfl rfl rfl rfl rfl (c_X8_setOn1 E (d + 4) M hR on hon) (av_Xk ?_)
        refine ax_callV (as := [_]) rfl vX8_258 hX8_isSound rfl rfl rfl rfl rfl (c_X8_isSound E d M hR on hon.r hon.t) (fun r50 M50 hr50 => ?_)
        obtain ⟨rfl, v1, v2, v3, v4⟩ := hr50
        have hq := RK.q v4
        have hv := LV_of v1 v2 hE
        have ev := hv.1
        refine ax_if_eq rfl (by omega) (fun h53 => ?_) (fun h53 => ?_)
        · refine ax_ldc (z := (-900000003)) rfl kX8_137 rfl ?_
          refine ax_iret rfl rfl ?_
          first
            | (have hS := b01_ne (P := Snd (RW M) (Sg on)) (by omega)
               have hn : 0 < N := by
                 obtain ⟨y, hy⟩ := hS.1
                 obtain ⟨i, hi, -⟩ := (hE.2.2 y).mp hy
                 omega
               exact ⟨Or.inr (Or.inr ⟨by omega, hS, rfl, hv, hn, by omega⟩), hq⟩)
            | exact ⟨Or.inr (Or.inl ⟨by omega, b01_eq (by omega), rfl⟩), hq⟩
        · refine ax_iconst rfl ?_
          refine ax_goto rfl ?_
          refine ax_iret rfl rfl ?_
          first
            | (have hS := b01_ne (P := Snd (RW M) (Sg on)) (by omega)
               have hn : 0 < N := by
                 obtain ⟨y, hy⟩ := hS.1
                 obtain ⟨i, hi, -⟩ := (hE.2.2 y).mp hy
                 omega
               exact ⟨Or.inr (Or.inr ⟨by omega, hS, rfl, hv, hn, by omega⟩), hq⟩)
            | exact ⟨Or.inr (Or.inl ⟨by omega, b01_eq (by omega), rfl⟩), hq⟩
      · refine ax_ldc (z := (-900000002)) rfl kX8_100 rfl ?_
        refine ax_iret rfl rfl ?_
        exact ⟨Or.inl ⟨by omega, rfl⟩, RQ.rf M⟩
set_option maxRecDepth 100000 in
set_option maxHeartbeats 800000 in
theorem sa_X8_at (E : av_E) (d : Nat) (M : av_M) (hR : RWm M) (on : Int) (hon : ONm M on) (N : Int) (g : Int → p3) (hE : RE g N (VX (RW M) (Sg on))) (p q s : Int) (hip : -2147483648 ≤ p ∧ p < 2147483648) (hiq : -2147483648 ≤ q ∧ q < 2147483648) (his : -2147483648 ≤ s ∧ s < 2147483648) (M1 : av_M) (hq : RQ M M1) (z1 : ¬ ((-99 ≤ p ∧ p ≤ 99) ∧ (-99 ≤ q ∧ q ≤ 99) ∧ (-99 ≤ s ∧ s ≤ 99))) : av_S E (d + 8) mX8_at 9 [(0, vR 35), (1, vI p), (2, vI q), (3, vI s), (4, vI (-900000002))] [] M1 (fun res M' => ((¬ ((-99 ≤ p ∧ p ≤ 99) ∧ (-99 ≤ q ∧ q ≤ 99) ∧ (-99 ≤ s ∧ s ≤ 99)) ∧ res = some (vI (-900000002))) ∨ (((-99 ≤ p ∧ p ≤ 99) ∧ (-99 ≤ q ∧ q ≤ 99) ∧ (-99 ≤ s ∧ s ≤ 99)) ∧ ¬ Snd (RW M) (Sg on) ∧ res = some (vI (-900000003))) ∨ (((-99 ≤ p ∧ p ≤ 99) ∧ (-99 ≤ q ∧ q ≤ 99) ∧ (-99 ≤ s ∧ s ≤ 99)) ∧ Snd (RW M) (Sg on) ∧ ∃ b, BF N (fun j => dt ((p : Rat), (q : Rat), (s : Rat)) (g j)) b ∧ res = some (vI b))) ∧ RQ M M') := by
  refine ax_iload rfl rfl ?_
  refine ax_if_ge rfl (by omega) (fun h11 => ?_) (fun h11 => ?_)
  · omega
  · refine ax_iload rfl rfl ?_
    refine ax_goto rfl ?_
    refine ax_iret rfl rfl ?_
    exact ⟨Or.inl ⟨z1, rfl⟩, hq⟩
set_option maxRecDepth 100000 in
set_option maxHeartbeats 800000 in
theorem sb_X8_at (E : av_E) (d : Nat) (M : av_M) (hR : RWm M) (on : Int) (hon : ONm M on) (N : Int) (g : Int → p3) (hE : RE g N (VX (RW M) (Sg on))) (p q s : Int) (hip : -2147483648 ≤ p ∧ p < 2147483648) (hiq : -2147483648 ≤ q ∧ q < 2147483648) (his : -2147483648 ≤ s ∧ s < 2147483648) (M1 : av_M) (hq : RQ M M1) (z1 : ((-99 ≤ p ∧ p ≤ 99) ∧ (-99 ≤ q ∧ q ≤ 99) ∧ (-99 ≤ s ∧ s ≤ 99))) (z2 : ¬ Snd (RW M) (Sg on)) : av_S E (d + 8) mX8_at 9 [(0, vR 35), (1, vI p), (2, vI q), (3, vI s), (4, vI (-900000003))] [] M1 (fun res M' => ((¬ ((-99 ≤ p ∧ p ≤ 99) ∧ (-99 ≤ q ∧ q ≤ 99) ∧ (-99 ≤ s ∧ s ≤ 99)) ∧ res = some (vI (-900000002))) ∨ (((-99 ≤ p ∧ p ≤ 99) ∧ (-99 ≤ q ∧ q ≤ 99) ∧ (-99 ≤ s ∧ s ≤ 99)) ∧ ¬ Snd (RW M) (Sg on) ∧ res = some (vI (-900000003))) ∨ (((-99 ≤ p ∧ p ≤ 99) ∧ (-99 ≤ q ∧ q ≤ 99) ∧ (-99 ≤ s ∧ s ≤ 99)) ∧ Snd (RW M) (Sg on) ∧ ∃ b, BF N (fun j => dt ((p : Rat), (q : Rat), (s : Rat)) (g j)) b ∧ res = some (vI b))) ∧ RQ M M') := by
  refine ax_iload rfl rfl ?_
  refine ax_if_ge rfl (by omega) (fun h11 => ?_) (fun h11 => ?_)
  · omega
  · refine ax_iload rfl rfl ?_
    refine ax_goto rfl ?_
    refine ax_iret rfl rfl ?_
    exact ⟨Or.inr (Or.inl ⟨z1, z2, rfl⟩), hq⟩
set_option maxRecDepth 100000 in
set_option maxHeartbeats 800000 in
theorem sc_X8_at (E : av_E) (d : Nat) (M : av_M) (hR : RWm M) (on : Int) (hon : ONm M on) (N : Int) (g : Int → p3) (hE : RE g N (VX (RW M) (Sg on))) (p q s : Int) (hip : -2147483648 ≤ p ∧ p < 2147483648) (hiq : -2147483648 ≤ q ∧ q < 2147483648) (his : -2147483648 ≤ s ∧ s < 2147483648) (M1 : av_M) (hq : RQ M M1) (z1 : ((-99 ≤ p ∧ p ≤ 99) ∧ (-99 ≤ q ∧ q ≤ 99) ∧ (-99 ≤ s ∧ s ≤ 99))) (z2 : Snd (RW M) (Sg on)) (z3 : LVm M1 N g) (z4 : 0 < N ∧ N ≤ 120) : av_S E (d + 8) mX8_at 9 [(0, vR 35), (1, vI p), (2, vI q), (3, vI s), (4, vI 0)] [] M1 (fun res M' => ((¬ ((-99 ≤ p ∧ p ≤ 99) ∧ (-99 ≤ q ∧ q ≤ 99) ∧ (-99 ≤ s ∧ s ≤ 99)) ∧ res = some (vI (-900000002))) ∨ (((-99 ≤ p ∧ p ≤ 99) ∧ (-99 ≤ q ∧ q ≤ 99) ∧ (-99 ≤ s ∧ s ≤ 99)) ∧ ¬ Snd (RW M) (Sg on) ∧ res = some (vI (-900000003))) ∨ (((-99 ≤ p ∧ p ≤ 99) ∧ (-99 ≤ q ∧ q ≤ 99) ∧ (-99 ≤ s ∧ s ≤ 99)) ∧ Snd (RW M) (Sg on) ∧ ∃ b, BF N (fun j => dt ((p : Rat), (q : Rat), (s : Rat)) (g j)) b ∧ res = some (vI b))) ∧ RQ M M') := by
  refine ax_iload rfl rfl ?_
  refine ax_if_ge rfl (by omega) (fun h11 => ?_) (fun h11 => ?_)
  · refine ax_aloadn rfl rfl ?_
    refine ax_iloadn rfl rfl ?_
    refine ax_iloadn rfl rfl ?_
    refine ax_iloadn rfl rfl ?_
    refine ax_callV (as := [_, _, _]) rfl vX8_323 hX8_bestVertex rfl rfl rfl rfl rfl (c_X8_bestVertex E (d + 6) M1 N g z3 z4 p q s (by omega) (by omega) (by omega)) (fun r23 M23 hr23 => ?_)
    obtain ⟨⟨b, rfl, hb⟩, hMe⟩ := hr23
    have hMs := hMe.symm
    subst hMs
    refine ax_iret rfl rfl ?_
    exact ⟨Or.inr (Or.inr ⟨z1, z2, b, hb, rfl⟩), hq⟩
  · omega
set_option maxRecDepth 100000 in
set_option maxHeartbeats 800000 in
theorem c_X8_at (E : av_E) (d : Nat) (M : av_M) (hR : RWm M) (on : Int) (hon : ONm M on) (N : Int) (g : Int → p3) (hE : RE g N (VX (RW M) (Sg on))) (p q s : Int) (hip : -2147483648 ≤ p ∧ p < 2147483648) (hiq : -2147483648 ≤ q ∧ q < 2147483648) (his : -2147483648 ≤ s ∧ s < 2147483648) : av_Mt E (d + 8) mX8_at [vR 35, vI p, vI q, vI s] M (fun res M' => ((¬ ((-99 ≤ p ∧ p ≤ 99) ∧ (-99 ≤ q ∧ q ≤ 99) ∧ (-99 ≤ s ∧ s ≤ 99)) ∧ res = some (vI (-900000002))) ∨ (((-99 ≤ p ∧ p ≤ 99) ∧ (-99 ≤ q ∧ q ≤ 99) ∧ (-99 ≤ s ∧ s ≤ 99)) ∧ ¬ Snd (RW M) (Sg on) ∧ res = some (vI (-900000003))) ∨ (((-99 ≤ p ∧ p ≤ 99) ∧ (-99 ≤ q ∧ q ≤ 99) ∧ (-99 ≤ s ∧ s ≤ 99)) ∧ Snd (RW M) (Sg on) ∧ ∃ b, BF N (fun j => dt ((p : Rat), (q : Rat), (s : Rat)) (g j)) b ∧ res = some (vI b))) ∧ RQ M M') := by
  refine av_enter hX8_at oX8_at rfl rfl ?_
  refine ax_aloadn rfl rfl ?_
  refine ax_iloadn rfl rfl ?_
  refine ax_iloadn rfl rfl ?_
  refine ax_iloadn rfl rfl ?_
  refine ax_callV (as := [_, _, _]) rfl vX8_319 hX8_mayAsk rfl rfl rfl rfl rfl (c_X8_mayAsk E (d + 2) M hR on hon N g hE p q s (by omega) (by omega) (by omega)) (fun r4 M4 hr4 => ?_)
  obtain ⟨hr4, hq⟩ := hr4
  rcases hr4 with ⟨z1, rfl⟩ | ⟨z1, z2, rfl⟩ | ⟨z1, z2, rfl, z3, z4⟩
  · refine ax_istore (ls' := [(0, _), (1, _), (2, _), (3, _), (4, _)]) rfl rfl rfl ?_
    exact sa_X8_at E d M hR on hon N g hE p q s (by omega) (by omega) (by omega) M4 hq z1
  · refine ax_istore (ls' := [(0, _), (1, _), (2, _), (3, _), (4, _)]) rfl rfl rfl ?_
    exact sb_X8_at E d M hR on hon N g hE p q s (by omega) (by omega) (by omega) M4 hq z1 z2
  · refine ax_istore (ls' := [(0, _), (1, _), (2, _), (3, _), (4, _)]) rfl rfl rfl ?_
    exact sc_X8_at E d M hR on hon N g hE p q s (by omega) (by omega) (by omega) M4 hq z1 z2 z3 z4
set_option maxRecDepth 100000 in
set_option maxHeartbeats 800000 in
theorem sa_X8_mostOf (E : av_E) (d : Nat) (M : av_M) (hR : RWm M) (on : Int) (hon : ONm M on) (N : Int) (g : Int → p3) (hE : RE g N (VX (RW M) (Sg on))) (p q s : Int) (hip : -2147483648 ≤ p ∧ p < 2147483648) (hiq : -2147483648 ≤ q ∧ q < 2147483648) (his : -2147483648 ≤ s ∧ s < 2147483648) (u : Int) (hiu : -2147483648 ≤ u ∧ u < 2147483648) (M1 : av_M) (hq : RQ M M1) (z1 : ¬ ((-99 ≤ p ∧ p ≤ 99) ∧ (-99 ≤ q ∧ q ≤ 99) ∧ (-99 ≤ s ∧ s ≤ 99))) : av_S E (d + 8) mX8_mostOf 9 [(0, vR 35), (1, vI p), (2, vI q), (3, vI s), (4, vI u), (5, vI (-900000002))] [] M1 (fun res M' => ((¬ ((-99 ≤ p ∧ p ≤ 99) ∧ (-99 ≤ q ∧ q ≤ 99) ∧ (-99 ≤ s ∧ s ≤ 99)) ∧ res = some (vL (-900000002))) ∨ (((-99 ≤ p ∧ p ≤ 99) ∧ (-99 ≤ q ∧ q ≤ 99) ∧ (-99 ≤ s ∧ s ≤ 99)) ∧ ¬ Snd (RW M) (Sg on) ∧ res = some (vL (-900000003))) ∨ (((-99 ≤ p ∧ p ≤ 99) ∧ (-99 ≤ q ∧ q ≤ 99) ∧ (-99 ≤ s ∧ s ≤ 99)) ∧ Snd (RW M) (Sg on) ∧ ∃ b, BF N (fun j => dt ((p : Rat), (q : Rat), (s : Rat)) (g j)) b ∧ res = some (vL (tl (dt ((p : Rat), (q : Rat), (s : Rat)) (g b)) u)))) ∧ RQ M M') := by
  refine ax_iload rfl rfl ?_
  refine ax_if_ge rfl (by omega) (fun h11 => ?_) (fun h11 => ?_)
  · omega
  · refine ax_iload rfl rfl ?_
    refine ax_i2l rfl (by omega) ?_
    refine ax_lret rfl rfl ?_
    exact ⟨Or.inl ⟨z1, rfl⟩, hq⟩
set_option maxRecDepth 100000 in
set_option maxHeartbeats 800000 in
theorem sb_X8_mostOf (E : av_E) (d : Nat) (M : av_M) (hR : RWm M) (on : Int) (hon : ONm M on) (N : Int) (g : Int → p3) (hE : RE g N (VX (RW M) (Sg on))) (p q s : Int) (hip : -2147483648 ≤ p ∧ p < 2147483648) (hiq : -2147483648 ≤ q ∧ q < 2147483648) (his : -2147483648 ≤ s ∧ s < 2147483648) (u : Int) (hiu : -2147483648 ≤ u ∧ u < 2147483648) (M1 : av_M) (hq : RQ M M1) (z1 : ((-99 ≤ p ∧ p ≤ 99) ∧ (-99 ≤ q ∧ q ≤ 99) ∧ (-99 ≤ s ∧ s ≤ 99))) (z2 : ¬ Snd (RW M) (Sg on)) : av_S E (d + 8) mX8_mostOf 9 [(0, vR 35), (1, vI p), (2, vI q), (3, vI s), (4, vI u), (5, vI (-900000003))] [] M1 (fun res M' => ((¬ ((-99 ≤ p ∧ p ≤ 99) ∧ (-99 ≤ q ∧ q ≤ 99) ∧ (-99 ≤ s ∧ s ≤ 99)) ∧ res = some (vL (-900000002))) ∨ (((-99 ≤ p ∧ p ≤ 99) ∧ (-99 ≤ q ∧ q ≤ 99) ∧ (-99 ≤ s ∧ s ≤ 99)) ∧ ¬ Snd (RW M) (Sg on) ∧ res = some (vL (-900000003))) ∨ (((-99 ≤ p ∧ p ≤ 99) ∧ (-99 ≤ q ∧ q ≤ 99) ∧ (-99 ≤ s ∧ s ≤ 99)) ∧ Snd (RW M) (Sg on) ∧ ∃ b, BF N (fun j => dt ((p : Rat), (q : Rat), (s : Rat)) (g j)) b ∧ res = some (vL (tl (dt ((p : Rat), (q : Rat), (s : Rat)) (g b)) u)))) ∧ RQ M M') := by
  refine ax_iload rfl rfl ?_
  refine ax_if_ge rfl (by omega) (fun h11 => ?_) (fun h11 => ?_)
  · omega
  · refine ax_iload rfl rfl ?_
    refine ax_i2l rfl (by omega) ?_
    refine ax_lret rfl rfl ?_
    exact ⟨Or.inr (Or.inl ⟨z1, z2, rfl⟩), hq⟩
set_option maxRecDepth 100000 in
set_option maxHeartbeats 800000 in
theorem sc_X8_mostOf (E : av_E) (d : Nat) (M : av_M) (hR : RWm M) (on : Int) (hon : ONm M on) (N : Int) (g : Int → p3) (hE : RE g N (VX (RW M) (Sg on))) (p q s : Int) (hip : -2147483648 ≤ p ∧ p < 2147483648) (hiq : -2147483648 ≤ q ∧ q < 2147483648) (his : -2147483648 ≤ s ∧ s < 2147483648) (u : Int) (hiu : -2147483648 ≤ u ∧ u < 2147483648) (M1 : av_M) (hq : RQ M M1) (z1 : ((-99 ≤ p ∧ p ≤ 99) ∧ (-99 ≤ q ∧ q ≤ 99) ∧ (-99 ≤ s ∧ s ≤ 99))) (z2 : Snd (RW M) (Sg on)) (z3 : LVm M1 N g) (z4 : 0 < N ∧ N ≤ 120) : av_S E (d + 8) mX8_mostOf 9 [(0, vR 35), (1, vI p), (2, vI q), (3, vI s), (4, vI u), (5, vI 0)] [] M1 (fun res M' => ((¬ ((-99 ≤ p ∧ p ≤ 99) ∧ (-99 ≤ q ∧ q ≤ 99) ∧ (-99 ≤ s ∧ s ≤ 99)) ∧ res = some (vL (-900000002))) ∨ (((-99 ≤ p ∧ p ≤ 99) ∧ (-99 ≤ q ∧ q ≤ 99) ∧ (-99 ≤ s ∧ s ≤ 99)) ∧ ¬ Snd (RW M) (Sg on) ∧ res = some (vL (-900000003))) ∨ (((-99 ≤ p ∧ p ≤ 99) ∧ (-99 ≤ q ∧ q ≤ 99) ∧ (-99 ≤ s ∧ s ≤ 99)) ∧ Snd (RW M) (Sg on) ∧ ∃ b, BF N (fun j => dt ((p : Rat), (q : Rat), (s : Rat)) (g j)) b ∧ res = some (vL (tl (dt ((p : Rat), (q : Rat), (s : Rat)) (g b)) u)))) ∧ RQ M M') := by
  refine ax_iload rfl rfl ?_
  refine ax_if_ge rfl (by omega) (fun h11 => ?_) (fun h11 => ?_)
  · refine ax_aloadn rfl rfl ?_
    refine ax_iloadn rfl rfl ?_
    refine ax_iloadn rfl rfl ?_
    refine ax_iloadn rfl rfl ?_
    refine ax_callV (as := [_, _, _]) rfl vX8_323 hX8_bestVertex rfl rfl rfl rfl rfl (c_X8_bestVertex E (d + 6) M1 N g z3 z4 p q s (by omega) (by omega) (by omega)) (fun r22 M22 hr22 => ?_)
    obtain ⟨⟨b, rfl, hb⟩, hMe⟩ := hr22
    have hMs := hMe.symm
    subst hMs
    obtain ⟨ev, hG, hg⟩ := z3
    have hG1 := hG b (by have := hb.1; omega) hb.2.1
    obtain ⟨_, _, _, wb, wb2⟩ := hG1
    have ob := rv_rng hG (j := b) ⟨hb.1, hb.2.1⟩ z1.1 z1.2.1 z1.2.2
    have b0 := hb.1
    have b1 := hb.2.1
    refine ax_istore (ls' := [(0, _), (1, _), (2, _), (3, _), (4, _), (5, _), (6, _)]) rfl rfl rfl ?_
    refine ax_iloadn rfl rfl ?_
    refine ax_i2l rfl (by omega) ?_
    refine ax_aloadn rfl rfl ?_
    refine ax_getR rfl fX8_73 rfl rfl ?_
    refine ax_iload rfl rfl ?_
    refine ax_lald rfl rfl (by omega) ?_
    refine ax_lmul rfl ?_
    refine ax_iloadn rfl rfl ?_
    refine ax_i2l rfl (by omega) ?_
    refine ax_aloadn rfl rfl ?_
    refine ax_getR rfl fX8_76 rfl rfl ?_
    refine ax_iload rfl rfl ?_
    refine ax_lald rfl rfl (by omega) ?_
    refine ax_lmul rfl ?_
    refine ax_ladd rfl ?_
    refine ax_iloadn rfl rfl ?_
    refine ax_i2l rfl (by omega) ?_
    refine ax_aloadn rfl rfl ?_
    refine ax_getR rfl fX8_79 rfl rfl ?_
    refine ax_iload rfl rfl ?_
    refine ax_lald rfl rfl (by omega) ?_
    refine ax_lmul rfl ?_
    refine ax_ladd rfl ?_
    refine ax_aloadn rfl rfl ?_
    refine ax_getR rfl fX8_82 rfl rfl ?_
    refine ax_iload rfl rfl ?_
    refine ax_lald rfl rfl (by omega) ?_
    refine ax_iload rfl rfl ?_
    refine ax_callS (as := [_, _, _]) rfl sX8_265 hX8_told rfl rfl rfl rfl (c_R_told E (d + 6) M1 _ (M1 57 b) u (by omega) (by omega) (by omega)) (av_Xk ?_)
    refine ax_lret rfl rfl ?_
    refine ⟨Or.inr (Or.inr ⟨z1, z2, b, hb, ?_⟩), hq⟩
    rw [rv_dt wb, hg b hb.1 hb.2.1]
  · omega
set_option maxRecDepth 100000 in
set_option maxHeartbeats 800000 in
theorem c_X8_mostOf (E : av_E) (d : Nat) (M : av_M) (hR : RWm M) (on : Int) (hon : ONm M on) (N : Int) (g : Int → p3) (hE : RE g N (VX (RW M) (Sg on))) (p q s : Int) (hip : -2147483648 ≤ p ∧ p < 2147483648) (hiq : -2147483648 ≤ q ∧ q < 2147483648) (his : -2147483648 ≤ s ∧ s < 2147483648) (u : Int) (hiu : -2147483648 ≤ u ∧ u < 2147483648) : av_Mt E (d + 8) mX8_mostOf [vR 35, vI p, vI q, vI s, vI u] M (fun res M' => ((¬ ((-99 ≤ p ∧ p ≤ 99) ∧ (-99 ≤ q ∧ q ≤ 99) ∧ (-99 ≤ s ∧ s ≤ 99)) ∧ res = some (vL (-900000002))) ∨ (((-99 ≤ p ∧ p ≤ 99) ∧ (-99 ≤ q ∧ q ≤ 99) ∧ (-99 ≤ s ∧ s ≤ 99)) ∧ ¬ Snd (RW M) (Sg on) ∧ res = some (vL (-900000003))) ∨ (((-99 ≤ p ∧ p ≤ 99) ∧ (-99 ≤ q ∧ q ≤ 99) ∧ (-99 ≤ s ∧ s ≤ 99)) ∧ Snd (RW M) (Sg on) ∧ ∃ b, BF N (fun j => dt ((p : Rat), (q : Rat), (s : Rat)) (g j)) b ∧ res = some (vL (tl (dt ((p : Rat), (q : Rat), (s : Rat)) (g b)) u)))) ∧ RQ M M') := by
  refine av_enter hX8_mostOf oX8_mostOf rfl rfl ?_
  refine ax_aloadn rfl rfl ?_
  refine ax_iloadn rfl rfl ?_
  refine ax_iloadn rfl rfl ?_
  refine ax_iloadn rfl rfl ?_
  refine ax_callV (as := [_, _, _]) rfl vX8_319 hX8_mayAsk rfl rfl rfl rfl rfl (c_X8_mayAsk E (d + 2) M hR on hon N g hE p q s (by omega) (by omega) (by omega)) (fun r4 M4 hr4 => ?_)
  obtain ⟨hr4, hq⟩ := hr4
  rcases hr4 with ⟨z1, rfl⟩ | ⟨z1, z2, rfl⟩ | ⟨z1, z2, rfl, z3, z4⟩
  · refine ax_istore (ls' := [(0, _), (1, _), (2, _), (3, _), (4, _), (5, _)]) rfl rfl rfl ?_
    exact sa_X8_mostOf E d M hR on hon N g hE p q s (by omega) (by omega) (by omega) u (by omega) M4 hq z1
  · refine ax_istore (ls' := [(0, _), (1, _), (2, _), (3, _), (4, _), (5, _)]) rfl rfl rfl ?_
    exact sb_X8_mostOf E d M hR on hon N g hE p q s (by omega) (by omega) (by omega) u (by omega) M4 hq z1 z2
  · refine ax_istore (ls' := [(0, _), (1, _), (2, _), (3, _), (4, _), (5, _)]) rfl rfl rfl ?_
    exact sc_X8_mostOf E d M hR on hon N g hE p q s (by omega) (by omega) (by omega) u (by omega) M4 hq z1 z2 z3 z4
