/-! ===== the reference: what is asked of the shadow ===== -/
def fcn (fx fy : Int → Int) : Nat → pt := fun i => P2 (fx i) (fy i) 1
theorem LS_CP {M : av_M} {H : Int} {c : Nat → pt} (h : LSm M H c) : CP M 42 H c := fun i i0 i1 => by
  obtain ⟨a, b, e⟩ := h.2.2 i i0 i1
  exact ⟨by omega, b, e⟩
theorem LF_CP {M : av_M} {h : Int} {fx fy : Int → Int} (hL : LFm M h fx fy) (h0 : M 35 0 ≤ 12) : CP M 41 h (fcn fx fy) := fun i i0 i1 => by
  obtain ⟨a, _, _, b, e, _⟩ := hL.2.2 i i0 i1
  refine ⟨by omega, ?_, e⟩
  rw [b]
  unfold fcn
  rw [show ((i.toNat : Nat) : Int) = i by omega]
theorem LS_keep {M M' : av_M} {H : Int} {c : Nat → pt} (h : LSm M H c) (k : LFk M M') : LSm M' H c := by
  obtain ⟨a, b, e⟩ := h
  have k42 : M' 42 = M 42 := k.2.2 42 (by decide) (by decide) (by decide) (by decide) (by decide)
  refine ⟨by rw [k.1 9 (by decide)]; exact a, b, fun i i0 i1 => ?_⟩
  obtain ⟨x, y, z⟩ := e i i0 i1
  obtain ⟨u, v, w⟩ := k.2.1 (M 42 i) x.1
  rw [k42]
  refine ⟨x, ?_, ?_⟩
  · rw [← y]; unfold rp; rw [u, v, w]
  · unfold RB at z ⊢; rw [u, v, w]; exact z
theorem RPm_k {M M' : av_M} (h : RPm M) (e : RQ M M') : RPm M' := by
  unfold RPm
  rw [e.2.1 0 (by omega), e.2.2 36 (by omega), e.2.2 37 (by omega)]
  exact h
theorem FG_k {M M' : av_M} {h : Int} {fx fy : Int → Int} (hG : FG (M 35 0) (M 36) (M 37) h fx fy) (e : RQ M M') : FG (M' 35 0) (M' 36) (M' 37) h fx fy := by
  rw [e.2.1 0 (by omega), e.2.2 36 (by omega), e.2.2 37 (by omega)]
  exact hG
def SNb (h H : Int) (f c : Nat → pt) (i : Int) : Prop := (3 ≤ h ∧ h = H) ∧ ∀ k : Nat, (k : Int) < i → f k = c k
theorem SNb_s {h H i : Int} {f c : Nat → pt} (i0 : 0 ≤ i) : SNb h H f c (i + 1) ↔ SNb h H f c i ∧ f i.toNat = c i.toNat := by
  constructor
  · rintro ⟨a, b⟩
    exact ⟨⟨a, fun k hk => b k (by omega)⟩, b i.toNat (by omega)⟩
  · rintro ⟨⟨a, b⟩, e⟩
    refine ⟨a, fun k hk => ?_⟩
    by_cases q : k = i.toNat
    · rw [q]; exact e
    · exact b k (by omega)
theorem SNb_w {h H i i' : Int} {f c : Nat → pt} (s : SNb h H f c i') (q : i ≤ i') : SNb h H f c i := ⟨s.1, fun k hk => s.2 k (by omega)⟩
theorem SNb_SN {h H : Int} {f c : Nat → pt} (h0 : 0 ≤ h) (H0 : 0 ≤ H) : SNb h H f c h ↔ SN h.toNat f H.toNat c := by
  constructor
  · rintro ⟨⟨a, b⟩, e⟩; exact ⟨by omega, by omega, fun k hk => e k (by omega)⟩
  · rintro ⟨a, b, e⟩; exact ⟨⟨by omega, by omega⟩, fun k hk => e k (by omega)⟩
set_option maxRecDepth 100000 in
set_option maxHeartbeats 800000 in
theorem c_X8_shadow (E : av_E) (d : Nat) (M : av_M) (hR : RWm M) (on : Int) (hon : ONm M on) (H : Int) (c : Nat → pt) (hH : Snd (RW M) (Sg on) → 0 ≤ H ∧ Hull (Shd (VX (RW M) (Sg on))) H.toNat c) : av_Mt E (d + 8) mX8_shadow [vR 35] M (fun res M' => res = some (vI (if b01 (Snd (RW M) (Sg on)) = 0 then (-900000003) else H)) ∧ RQ M M') := by
  refine av_enter hX8_shadow oX8_shadow rfl rfl ?_
  refine ax_aloadn rfl rfl ?_
  refine ax_aloadn rfl rfl ?_
  refine ax_callV (as := []) rfl vX8_255 hX8_setOn rfl rfl rfl rfl rfl (c_X8_setOn1 E (d + 7) M hR on hon) (av_Xk ?_)
  refine ax_callV (as := [_]) rfl vX8_290 hX8_layShadow rfl rfl rfl rfl rfl (c_X8_layShadow E (d + 2) M hR on hon.r hon.t H c hH) (fun r5 M5 hr5 => ?_)
  obtain ⟨rfl, hs, hk⟩ := hr5
  have hq := LSk.q hk
  have bs := b01_rng (Snd (RW M) (Sg on))
  refine ax_if_eq rfl (by omega) (fun h8 => ?_) (fun h8 => ?_)
  · refine ax_ldc (z := (-900000003)) rfl kX8_137 rfl ?_
    refine ax_iret rfl rfl ?_
    first
      | exact av_rq (by rw [if_pos (by omega)]) hq
      | exact av_rq (by rw [if_neg (by omega)]; exact (hs (b01_ne (by omega))).1) hq
  · refine ax_aloadn rfl rfl ?_
    refine ax_getI (g := 9) rfl fX8_287 rfl rfl rfl rfl ?_
    refine ax_goto rfl ?_
    refine ax_iret rfl rfl ?_
    first
      | exact av_rq (by rw [if_pos (by omega)]) hq
      | exact av_rq (by rw [if_neg (by omega)]; exact (hs (b01_ne (by omega))).1) hq
set_option maxRecDepth 100000 in
set_option maxHeartbeats 800000 in
theorem c_X8_shadowAt (E : av_E) (d : Nat) (M : av_M) (hR : RWm M) (on : Int) (hon : ONm M on) (H : Int) (c : Nat → pt) (hH : Snd (RW M) (Sg on) → 0 ≤ H ∧ Hull (Shd (VX (RW M) (Sg on))) H.toNat c) (k y u : Int) (hik : -2147483648 ≤ k ∧ k < 2147483648) (hiy : -2147483648 ≤ y ∧ y < 2147483648) (hiu : -2147483648 ≤ u ∧ u < 2147483648) : av_Mt E (d + 8) mX8_shadowAt [vR 35, vI k, vI y, vI u] M (fun res M' => res = some (vL (if b01 (Snd (RW M) (Sg on)) = 0 then (-900000003) else if ¬ (0 ≤ k ∧ k < H) then (-900000001) else tl (if y = 0 then (c k.toNat).1 else (c k.toNat).2) u)) ∧ RQ M M') := by
  refine av_enter hX8_shadowAt oX8_shadowAt rfl rfl ?_
  refine ax_aloadn rfl rfl ?_
  refine ax_aloadn rfl rfl ?_
  refine ax_callV (as := []) rfl vX8_255 hX8_setOn rfl rfl rfl rfl rfl (c_X8_setOn1 E (d + 7) M hR on hon) (av_Xk ?_)
  refine ax_callV (as := [_]) rfl vX8_290 hX8_layShadow rfl rfl rfl rfl rfl (c_X8_layShadow E (d + 2) M hR on hon.r hon.t H c hH) (fun r5 M5 hr5 => ?_)
  obtain ⟨rfl, hs, hk⟩ := hr5
  have hq := LSk.q hk
  have bs := b01_rng (Snd (RW M) (Sg on))
  refine ax_if_ne rfl (by omega) (fun h8 => ?_) (fun h8 => ?_)
  · obtain ⟨s1, s2, s3⟩ := hs (b01_ne (by omega))
    have bi := b01_c (0 ≤ k ∧ k ≤ M5 35 9 - 1)
    refine ax_iloadn rfl rfl ?_
    refine ax_i2l rfl (by omega) ?_
    refine ax_lconst (w := 0) rfl rfl ?_
    refine ax_aloadn rfl rfl ?_
    refine ax_getI (g := 9) rfl fX8_287 rfl rfl rfl rfl ?_
    refine ax_iconst rfl ?_
    refine ax_isub rfl ?_
    refine ax_i2l rfl (by omega) ?_
    refine ax_callS (as := [_, _, _]) rfl sX8_96 hX8_in rfl rfl rfl rfl (c_X8_in E (d + 7) M5 k 0 (M5 35 9 - 1) (by omega) (by omega) (by omega)) (av_Xk ?_)
    refine ax_if_ne rfl (by omega) (fun h28 => ?_) (fun h28 => ?_)
    · obtain ⟨x1, x2, x3⟩ := s3 k (by omega) (by omega)
      unfold RB BP at x3
      refine ax_iloadn rfl rfl ?_
      refine ax_if_eq rfl (by omega) (fun h38 => ?_) (fun h38 => ?_)
      · refine ax_aloadn rfl rfl ?_
        refine ax_getR rfl fX8_16 rfl rfl ?_
        refine ax_aloadn rfl rfl ?_
        refine ax_getR rfl fX8_29 rfl rfl ?_
        refine ax_iloadn rfl rfl ?_
        refine ax_iald rfl rfl (by omega) ?_
        refine ax_lald rfl rfl (by omega) ?_
        refine ax_aloadn rfl rfl ?_
        refine ax_getR rfl fX8_23 rfl rfl ?_
        refine ax_aloadn rfl rfl ?_
        refine ax_getR rfl fX8_29 rfl rfl ?_
        refine ax_iloadn rfl rfl ?_
        refine ax_iald rfl rfl (by omega) ?_
        refine ax_lald rfl rfl (by omega) ?_
        refine ax_iloadn rfl rfl ?_
        refine ax_callS (as := [_, _, _]) rfl sX8_265 hX8_told rfl rfl rfl rfl (c_R_told E (d + 6) M5 _ (M5 40 (M5 42 k)) u (by omega) (by omega) (by omega)) (av_Xk ?_)
        refine ax_lret rfl rfl ?_
        first
          | exact ⟨by rw [if_neg (by omega), if_pos (by omega)], hq⟩
          | (refine ⟨?_, hq⟩
             rw [if_neg (by omega), if_neg (by omega), ← x2]
             first
               | (rw [if_pos (by omega)]; rfl)
               | (rw [if_neg (by omega)]; rfl))
      · refine ax_aloadn rfl rfl ?_
        refine ax_getR rfl fX8_20 rfl rfl ?_
        refine ax_aloadn rfl rfl ?_
        refine ax_getR rfl fX8_29 rfl rfl ?_
        refine ax_iloadn rfl rfl ?_
        refine ax_iald rfl rfl (by omega) ?_
        refine ax_lald rfl rfl (by omega) ?_
        refine ax_goto rfl ?_
        refine ax_aloadn rfl rfl ?_
        refine ax_getR rfl fX8_23 rfl rfl ?_
        refine ax_aloadn rfl rfl ?_
        refine ax_getR rfl fX8_29 rfl rfl ?_
        refine ax_iloadn rfl rfl ?_
        refine ax_iald rfl rfl (by omega) ?_
        refine ax_lald rfl rfl (by omega) ?_
        refine ax_iloadn rfl rfl ?_
        refine ax_callS (as := [_, _, _]) rfl sX8_265 hX8_told rfl rfl rfl rfl (c_R_told E (d + 6) M5 _ (M5 40 (M5 42 k)) u (by omega) (by omega) (by omega)) (av_Xk ?_)
        refine ax_lret rfl rfl ?_
        first
          | exact ⟨by rw [if_neg (by omega), if_pos (by omega)], hq⟩
          | (refine ⟨?_, hq⟩
             rw [if_neg (by omega), if_neg (by omega), ← x2]
             first
               | (rw [if_pos (by omega)]; rfl)
               | (rw [if_neg (by omega)]; rfl))
    · refine ax_ldc2 (z := (-900000001)) rfl kX8_261 rfl ?_
      refine ax_goto rfl ?_
      refine ax_lret rfl rfl ?_
      first
        | exact ⟨by rw [if_neg (by omega), if_pos (by omega)], hq⟩
        | (refine ⟨?_, hq⟩
           rw [if_neg (by omega), if_neg (by omega), ← x2]
           first
             | (rw [if_pos (by omega)]; rfl)
             | (rw [if_neg (by omega)]; rfl))
  · refine ax_ldc2 (z := (-900000003)) rfl kX8_293 rfl ?_
    refine ax_lret rfl rfl ?_
    exact ⟨by rw [if_pos (by omega)], hq⟩
set_option maxRecDepth 100000 in
set_option maxHeartbeats 800000 in
theorem l_X8_isSeen (E : av_E) (d : Nat) (M : av_M) (h : Int) (fx fy : Int → Int) (hL : LFm M h fx fy) (h0 : M 35 0 ≤ 12) (H : Int) (c : Nat → pt) (hs : LSm M H c) : ∀ (t : Nat) (i : Int), i + t = h → 0 ≤ i → av_S E (d + 2) mX8_isSeen 31 [(0, vR 35), (1, vI (b01 (SNb h H (fcn fx fy) c i))), (2, vI i)] [] M (av_X (some (vI (b01 (SNb h H (fcn fx fy) c h)))) M) := by
  have cf := LF_CP hL h0
  have cs := LS_CP hs
  obtain ⟨eh, h12, _⟩ := hL
  intro t
  induction t with
  | zero =>
    intro i hi i0
    have ei : i = h := by omega
    subst ei
    have b := b01_rng (SNb i H (fcn fx fy) c i)
    refine ax_iloadn rfl rfl ?_
    refine ax_aloadn rfl rfl ?_
    refine ax_getI (g := 7) rfl fX8_131 rfl rfl rfl rfl ?_
    refine ax_icmp_ge rfl (by omega) (by omega) (fun h36 => ?_) (fun h36 => ?_)
    · refine ax_iloadn rfl rfl ?_
      refine ax_zret rfl rfl (by omega) ?_
      exact av_rI rfl
    · omega
  | succ t ih =>
    intro i hi i0
    have ih2 := ih (i + 1) (by omega) (by omega)
    have st := SNb_s (h := h) (H := H) (f := fcn fx fy) (c := c) i0
    have b := b01_rng (SNb h H (fcn fx fy) c i)
    obtain ⟨x1, x2, x3⟩ := cf i i0 (by omega)
    have sI := fun q : b01 (SNb h H (fcn fx fy) c i) = 1 => b01_ne (P := SNb h H (fcn fx fy) c i) (by omega)
    have cI := fun q : b01 (SNb h H (fcn fx fy) c i) = 1 => cs i i0 (by have := (sI q).1; omega)
    have e1 : b01 (SNb h H (fcn fx fy) c i) = 1 → b01 (rp M (M 41 i) = rp M (M 42 i)) = b01 (SNb h H (fcn fx fy) c (i + 1)) := fun q => by
      rw [x2, (cI q).2.1]
      exact b01_iff ⟨fun z => st.mpr ⟨sI q, z⟩, fun z => (st.mp z).2⟩
    refine ax_iloadn rfl rfl ?_
    refine ax_aloadn rfl rfl ?_
    refine ax_getI (g := 7) rfl fX8_131 rfl rfl rfl rfl ?_
    refine ax_icmp_ge rfl (by omega) (by omega) (fun h36 => ?_) (fun h36 => ?_)
    · refine ax_iloadn rfl rfl ?_
      refine ax_zret rfl rfl (by omega) ?_
      first
        | omega
        | (have e0 : b01 (SNb h H (fcn fx fy) c i) = 0 := by omega
           exact av_rI (by rw [e0]; exact (b01_f (fun q => b01_eq e0 (SNb_w q (by omega)))).symm))
    · refine ax_iloadn rfl rfl ?_
      refine ax_if_eq rfl (by omega) (fun h40 => ?_) (fun h40 => ?_)
      · refine ax_iloadn rfl rfl ?_
        refine ax_zret rfl rfl (by omega) ?_
        first
          | omega
          | (have e0 : b01 (SNb h H (fcn fx fy) c i) = 0 := by omega
             exact av_rI (by rw [e0]; exact (b01_f (fun q => b01_eq e0 (SNb_w q (by omega)))).symm))
      · have h42 : 0 ≤ i ∧ i < 121 := by omega
        refine ax_aloadn rfl rfl ?_
        refine ax_aloadn rfl rfl ?_
        refine ax_getR rfl fX8_26 rfl rfl ?_
        refine ax_iloadn rfl rfl ?_
        refine ax_iald rfl rfl (by omega) ?_
        refine ax_aloadn rfl rfl ?_
        refine ax_getR rfl fX8_29 rfl rfl ?_
        refine ax_iloadn rfl rfl ?_
        refine ax_iald rfl rfl (by omega) ?_
        refine ax_callV (as := [_, _]) rfl vX8_114 hX8_isOne rfl rfl rfl rfl rfl (c_X8_isOne E d M (M 41 i) (M 42 i) (by omega) (by have := (cI (by omega)).1; omega) x3 (cI (by omega)).2.2) (av_Xk ?_)
        refine ax_istoren (ls' := [(0, _), (1, _), (2, _)]) rfl rfl rfl ?_
        refine ax_iinc (ls' := [(0, _), (1, _), (2, _)]) rfl rfl rfl rfl ?_
        refine ax_goto rfl ?_
        rw [e1 (by omega)]
        exact ih2
set_option maxRecDepth 100000 in
set_option maxHeartbeats 800000 in
theorem c_X8_isSeen (E : av_E) (d : Nat) (M : av_M) (hP : RPm M) (h : Int) (fx fy : Int → Int) (hG : FG (M 35 0) (M 36) (M 37) h fx fy) (H : Int) (c : Nat → pt) (hs : LSm M H c) : av_Mt E (d + 5) mX8_isSeen [vR 35] M (fun res M' => res = some (vI (b01 (SN h.toNat (fcn fx fy) H.toNat c))) ∧ LFk M M') := by
  refine av_enter hX8_isSeen oX8_isSeen rfl rfl ?_
  refine ax_aloadn rfl rfl ?_
  refine ax_callV (as := []) rfl vX8_134 hX8_layFigure rfl rfl rfl rfl rfl (c_X8_layFigure E d M hP h fx fy hG) (fun r1 M1 hr1 => ?_)
  obtain ⟨rfl, hL, hk⟩ := hr1
  have hn := hP.1
  have e0 : M1 35 0 = M 35 0 := hk.1 0 (by decide)
  have hs1 := LS_keep hs hk
  have eh := hL.1
  have eH := hs1.1
  have h12 := hL.2.1
  have H12 := hs1.2.1
  have k := l_X8_isSeen E (d + 3) M1 h fx fy hL (by omega) H c hs1 h.toNat 0 (by omega) (by omega)
  have kk : av_S E (d + 5) mX8_isSeen 31 [(0, vR 35), (1, vI (b01 (SNb h H (fcn fx fy) c 0))), (2, vI 0)] [] M1 (fun res M' => res = some (vI (b01 (SN h.toNat (fcn fx fy) H.toNat c))) ∧ LFk M M') := av_Sw k (fun r M' q => by
    obtain ⟨q1, q2⟩ := q
    exact ⟨by rw [q1, b01_iff (SNb_SN h12.1 H12.1)], by rw [q2]; exact hk⟩)
  refine ax_aloadn rfl rfl ?_
  refine ax_getI (g := 7) rfl fX8_131 rfl rfl rfl rfl ?_
  refine ax_iconst rfl ?_
  refine ax_icmp_lt rfl (by omega) (by omega) (fun h9 => ?_) (fun h9 => ?_)
  · refine ax_iconst rfl ?_
    refine ax_istoren (ls' := [(0, _), (1, _)]) rfl rfl rfl ?_
    refine ax_iconst rfl ?_
    refine ax_istoren (ls' := [(0, _), (1, _), (2, _)]) rfl rfl rfl ?_
    first
      | (have e : b01 (SNb h H (fcn fx fy) c 0) = 1 := b01_t ⟨by omega, fun k hk => by omega⟩
         rw [e] at kk
         exact kk)
      | (have e : b01 (SNb h H (fcn fx fy) c 0) = 0 := b01_f (fun q => by have := q.1; omega)
         rw [e] at kk
         exact kk)
  · refine ax_aloadn rfl rfl ?_
    refine ax_getI (g := 7) rfl fX8_131 rfl rfl rfl rfl ?_
    refine ax_aloadn rfl rfl ?_
    refine ax_getI (g := 9) rfl fX8_287 rfl rfl rfl rfl ?_
    refine ax_icmp_ne rfl (by omega) (by omega) (fun h20 => ?_) (fun h20 => ?_)
    · refine ax_iconst rfl ?_
      refine ax_istoren (ls' := [(0, _), (1, _)]) rfl rfl rfl ?_
      refine ax_iconst rfl ?_
      refine ax_istoren (ls' := [(0, _), (1, _), (2, _)]) rfl rfl rfl ?_
      first
        | (have e : b01 (SNb h H (fcn fx fy) c 0) = 1 := b01_t ⟨by omega, fun k hk => by omega⟩
           rw [e] at kk
           exact kk)
        | (have e : b01 (SNb h H (fcn fx fy) c 0) = 0 := b01_f (fun q => by have := q.1; omega)
           rw [e] at kk
           exact kk)
    · refine ax_iconst rfl ?_
      refine ax_goto rfl ?_
      refine ax_istoren (ls' := [(0, _), (1, _)]) rfl rfl rfl ?_
      refine ax_iconst rfl ?_
      refine ax_istoren (ls' := [(0, _), (1, _), (2, _)]) rfl rfl rfl ?_
      first
        | (have e : b01 (SNb h H (fcn fx fy) c 0) = 1 := b01_t ⟨by omega, fun k hk => by omega⟩
           rw [e] at kk
           exact kk)
        | (have e : b01 (SNb h H (fcn fx fy) c 0) = 0 := b01_f (fun q => by have := q.1; omega)
           rw [e] at kk
           exact kk)
set_option maxRecDepth 100000 in
set_option maxHeartbeats 800000 in
theorem c_X8_seen (E : av_E) (d : Nat) (M : av_M) (hR : RWm M) (on : Int) (hon : ONm M on) (H : Int) (c : Nat → pt) (hH : Snd (RW M) (Sg on) → 0 ≤ H ∧ Hull (Shd (VX (RW M) (Sg on))) H.toNat c) (hP : RPm M) (h : Int) (fx fy : Int → Int) (hG : FG (M 35 0) (M 36) (M 37) h fx fy) : av_Mt E (d + 8) mX8_seen [vR 35] M (fun res M' => res = some (vI (if b01 (Snd (RW M) (Sg on)) = 0 then (-900000003) else b01 (SN h.toNat (fcn fx fy) H.toNat c))) ∧ RQ M M') := by
  have bn := b01_rng (SN h.toNat (fcn fx fy) H.toNat c)
  refine av_enter hX8_seen oX8_seen rfl rfl ?_
  refine ax_aloadn rfl rfl ?_
  refine ax_aloadn rfl rfl ?_
  refine ax_callV (as := []) rfl vX8_255 hX8_setOn rfl rfl rfl rfl rfl (c_X8_setOn1 E (d + 7) M hR on hon) (av_Xk ?_)
  refine ax_callV (as := [_]) rfl vX8_290 hX8_layShadow rfl rfl rfl rfl rfl (c_X8_layShadow E (d + 2) M hR on hon.r hon.t H c hH) (fun r5 M5 hr5 => ?_)
  obtain ⟨rfl, hs, hk⟩ := hr5
  have hq := LSk.q hk
  have bs := b01_rng (Snd (RW M) (Sg on))
  refine ax_if_ne rfl (by omega) (fun h8 => ?_) (fun h8 => ?_)
  · refine ax_aloadn rfl rfl ?_
    refine ax_callV (as := []) rfl vX8_295 hX8_isSeen rfl rfl rfl rfl rfl (c_X8_isSeen E (d + 2) M5 (RPm_k hP hq) h fx fy (FG_k hG hq) H c (hs (b01_ne (by omega)))) (fun r17 M17 hr17 => ?_)
    obtain ⟨rfl, hk2⟩ := hr17
    have hq2 := hq.tr (LFk.q hk2)
    refine ax_if_eq rfl (by omega) (fun h20 => ?_) (fun h20 => ?_)
    · refine ax_iconst rfl ?_
      refine ax_iret rfl rfl ?_
      first
        | exact av_rq (by rw [if_pos (by omega)]) hq
        | exact av_rq (by rw [if_neg (by omega)]; omega) hq2
    · refine ax_iconst rfl ?_
      refine ax_goto rfl ?_
      refine ax_iret rfl rfl ?_
      first
        | exact av_rq (by rw [if_pos (by omega)]) hq
        | exact av_rq (by rw [if_neg (by omega)]; omega) hq2
  · refine ax_ldc (z := (-900000003)) rfl kX8_137 rfl ?_
    refine ax_goto rfl ?_
    refine ax_iret rfl rfl ?_
    first
      | exact av_rq (by rw [if_pos (by omega)]) hq
      | exact av_rq (by rw [if_neg (by omega)]; omega) hq2
set_option maxRecDepth 100000 in
set_option maxHeartbeats 800000 in
theorem l_X8_missed (E : av_E) (d : Nat) (M : av_M) (h : Int) (fx fy : Int → Int) (hL : LFm M h fx fy) (h0 : M 35 0 ≤ 12) (H : Int) (c : Nat → pt) (hs : LSm M H c) : ∀ (t : Nat) (i : Int), i + t = h → 0 ≤ i → av_S E (d + 4) mX8_missed 22 [(0, vR 35), (1, vI (cntP (fun i : Nat => ¬ InO H.toNat c (fcn fx fy i)) i.toNat)), (2, vI i)] [] M (av_X (some (vI (cntP (fun i : Nat => ¬ InO H.toNat c (fcn fx fy i)) h.toNat))) M) := by
  have cf := LF_CP hL h0
  have cs := LS_CP hs
  obtain ⟨eh, h12, _⟩ := hL
  obtain ⟨eH, H12, _⟩ := hs
  intro t
  induction t with
  | zero =>
    intro i hi i0
    have ei : i = h := by omega
    subst ei
    refine ax_iloadn rfl rfl ?_
    refine ax_aloadn rfl rfl ?_
    refine ax_getI (g := 7) rfl fX8_131 rfl rfl rfl rfl ?_
    refine ax_icmp_ge rfl (by omega) (by omega) (fun h27 => ?_) (fun h27 => ?_)
    · refine ax_iloadn rfl rfl ?_
      refine ax_iret rfl rfl ?_
      exact av_rI rfl
    · omega
  | succ t ih =>
    intro i hi i0
    have ih2 := ih (i + 1) (by omega) (by omega)
    have es : (i + 1).toNat = i.toNat + 1 := by omega
    have eo : cntP (fun i : Nat => ¬ InO H.toNat c (fcn fx fy i)) (i.toNat + 1) = cntP (fun i : Nat => ¬ InO H.toNat c (fcn fx fy i)) i.toNat + b01 ((fun i : Nat => ¬ InO H.toNat c (fcn fx fy i)) i.toNat) := rfl
    rw [es, eo] at ih2
    obtain ⟨x1, x2, x3⟩ := cf i i0 (by omega)
    have hb : b01 (¬ InO H.toNat c (rp M (M 41 i))) = b01 ((fun i : Nat => ¬ InO H.toNat c (fcn fx fy i)) i.toNat) := by rw [x2]
    have b := b01_rng ((fun i : Nat => ¬ InO H.toNat c (fcn fx fy i)) i.toNat)
    refine ax_iloadn rfl rfl ?_
    refine ax_aloadn rfl rfl ?_
    refine ax_getI (g := 7) rfl fX8_131 rfl rfl rfl rfl ?_
    refine ax_icmp_ge rfl (by omega) (by omega) (fun h27 => ?_) (fun h27 => ?_)
    · omega
    · refine ax_iloadn rfl rfl ?_
      refine ax_aloadn rfl rfl ?_
      refine ax_aloadn rfl rfl ?_
      refine ax_getR rfl fX8_26 rfl rfl ?_
      refine ax_iloadn rfl rfl ?_
      refine ax_iald rfl rfl (by omega) ?_
      refine ax_aloadn rfl rfl ?_
      refine ax_getI (g := 9) rfl fX8_287 rfl rfl rfl rfl ?_
      refine ax_aloadn rfl rfl ?_
      refine ax_getR rfl fX8_29 rfl rfl ?_
      refine ax_callV (as := [_, _, _]) rfl vX8_298 hX8_isOutside rfl rfl rfl rfl rfl (by have k := c_S_out E d M (M 41 i) (by omega) x3 H c cs (by omega); rw [hb] at k; rw [eH]; exact k) (av_Xk ?_)
      refine ax_if_eq rfl (by omega) (fun h49 => ?_) (fun h49 => ?_)
      · refine ax_iconst rfl ?_
        refine ax_iadd rfl ?_
        refine ax_istoren (ls' := [(0, _), (1, _), (2, _)]) rfl rfl rfl ?_
        refine ax_iinc (ls' := [(0, _), (1, _), (2, _)]) rfl rfl rfl rfl ?_
        refine ax_goto rfl ?_
        first
          | (have e : b01 ((fun i : Nat => ¬ InO H.toNat c (fcn fx fy i)) i.toNat) = 1 := by omega
             rw [e] at ih2
             exact ih2)
          | (have e : b01 ((fun i : Nat => ¬ InO H.toNat c (fcn fx fy i)) i.toNat) = 0 := by omega
             rw [e] at ih2
             exact ih2)
      · refine ax_iconst rfl ?_
        refine ax_goto rfl ?_
        refine ax_iadd rfl ?_
        refine ax_istoren (ls' := [(0, _), (1, _), (2, _)]) rfl rfl rfl ?_
        refine ax_iinc (ls' := [(0, _), (1, _), (2, _)]) rfl rfl rfl rfl ?_
        refine ax_goto rfl ?_
        first
          | (have e : b01 ((fun i : Nat => ¬ InO H.toNat c (fcn fx fy i)) i.toNat) = 1 := by omega
             rw [e] at ih2
             exact ih2)
          | (have e : b01 ((fun i : Nat => ¬ InO H.toNat c (fcn fx fy i)) i.toNat) = 0 := by omega
             rw [e] at ih2
             exact ih2)
set_option maxRecDepth 100000 in
set_option maxHeartbeats 800000 in
theorem c_X8_missed (E : av_E) (d : Nat) (M : av_M) (hR : RWm M) (on : Int) (hon : ONm M on) (H : Int) (c : Nat → pt) (hH : Snd (RW M) (Sg on) → 0 ≤ H ∧ Hull (Shd (VX (RW M) (Sg on))) H.toNat c) (hP : RPm M) (h : Int) (fx fy : Int → Int) (hG : FG (M 35 0) (M 36) (M 37) h fx fy) : av_Mt E (d + 8) mX8_missed [vR 35] M (fun res M' => res = some (vI (if b01 (Snd (RW M) (Sg on)) = 0 then (-900000003) else cntP (fun i : Nat => ¬ InO H.toNat c (fcn fx fy i)) h.toNat)) ∧ RQ M M') := by
  refine av_enter hX8_missed oX8_missed rfl rfl ?_
  refine ax_aloadn rfl rfl ?_
  refine ax_aloadn rfl rfl ?_
  refine ax_callV (as := []) rfl vX8_255 hX8_setOn rfl rfl rfl rfl rfl (c_X8_setOn1 E (d + 7) M hR on hon) (av_Xk ?_)
  refine ax_callV (as := [_]) rfl vX8_290 hX8_layShadow rfl rfl rfl rfl rfl (c_X8_layShadow E (d + 2) M hR on hon.r hon.t H c hH) (fun r5 M5 hr5 => ?_)
  obtain ⟨rfl, hs, hk⟩ := hr5
  have hq := LSk.q hk
  have bs := b01_rng (Snd (RW M) (Sg on))
  refine ax_if_ne rfl (by omega) (fun h8 => ?_) (fun h8 => ?_)
  · refine ax_aloadn rfl rfl ?_
    refine ax_callV (as := []) rfl vX8_134 hX8_layFigure rfl rfl rfl rfl rfl (c_X8_layFigure E (d + 3) M5 (RPm_k hP hq) h fx fy (FG_k hG hq)) (fun r15 M15 hr15 => ?_)
    obtain ⟨rfl, hL, hk2⟩ := hr15
    have hq2 := hq.tr (LFk.q hk2)
    have hn := hP.1
    have e0 : M15 35 0 = M 35 0 := hq2.2.1 0 (by omega)
    have hs1 := LS_keep (hs (b01_ne (by omega))) hk2
    have h12 := hL.2.1
    have H12 := hs1.2.1
    refine ax_iconst rfl ?_
    refine ax_istoren (ls' := [(0, _), (1, _)]) rfl rfl rfl ?_
    refine ax_iconst rfl ?_
    refine ax_istoren (ls' := [(0, _), (1, _), (2, _)]) rfl rfl rfl ?_
    refine av_Sw (l_X8_missed E (d + 4) M15 h fx fy hL (by omega) H c hs1 h.toNat 0 (by omega) (by omega)) (fun r M' q => ?_)
    obtain ⟨q1, q2⟩ := q
    exact ⟨by rw [q1, if_neg (by omega)], by rw [q2]; exact hq2⟩
  · refine ax_ldc (z := (-900000003)) rfl kX8_137 rfl ?_
    refine ax_iret rfl rfl ?_
    exact av_rq (by rw [if_pos (by omega)]) hq
set_option maxRecDepth 100000 in
set_option maxHeartbeats 800000 in
theorem l_X8_beyond (E : av_E) (d : Nat) (M : av_M) (h : Int) (fx fy : Int → Int) (hL : LFm M h fx fy) (h0 : M 35 0 ≤ 12) (H : Int) (c : Nat → pt) (hs : LSm M H c) : ∀ (t : Nat) (i : Int), i + t = H → 0 ≤ i → av_S E (d + 4) mX8_beyond 29 [(0, vR 35), (1, vI (cntP (fun i : Nat => ¬ InO h.toNat (fcn fx fy) (c i)) i.toNat)), (2, vI i)] [] M (av_X (some (vI (cntP (fun i : Nat => ¬ InO h.toNat (fcn fx fy) (c i)) H.toNat))) M) := by
  have cf := LF_CP hL h0
  have cs := LS_CP hs
  obtain ⟨eh, h12, _⟩ := hL
  obtain ⟨eH, H12, _⟩ := hs
  intro t
  induction t with
  | zero =>
    intro i hi i0
    have ei : i = H := by omega
    subst ei
    refine ax_iloadn rfl rfl ?_
    refine ax_aloadn rfl rfl ?_
    refine ax_getI (g := 9) rfl fX8_287 rfl rfl rfl rfl ?_
    refine ax_icmp_ge rfl (by omega) (by omega) (fun h34 => ?_) (fun h34 => ?_)
    · refine ax_iloadn rfl rfl ?_
      refine ax_iret rfl rfl ?_
      exact av_rI rfl
    · omega
  | succ t ih =>
    intro i hi i0
    have ih2 := ih (i + 1) (by omega) (by omega)
    have es : (i + 1).toNat = i.toNat + 1 := by omega
    have eo : cntP (fun i : Nat => ¬ InO h.toNat (fcn fx fy) (c i)) (i.toNat + 1) = cntP (fun i : Nat => ¬ InO h.toNat (fcn fx fy) (c i)) i.toNat + b01 ((fun i : Nat => ¬ InO h.toNat (fcn fx fy) (c i)) i.toNat) := rfl
    rw [es, eo] at ih2
    obtain ⟨x1, x2, x3⟩ := cs i i0 (by omega)
    have hb : b01 (¬ InO h.toNat (fcn fx fy) (rp M (M 42 i))) = b01 ((fun i : Nat => ¬ InO h.toNat (fcn fx fy) (c i)) i.toNat) := by rw [x2]
    have b := b01_rng ((fun i : Nat => ¬ InO h.toNat (fcn fx fy) (c i)) i.toNat)
    refine ax_iloadn rfl rfl ?_
    refine ax_aloadn rfl rfl ?_
    refine ax_getI (g := 9) rfl fX8_287 rfl rfl rfl rfl ?_
    refine ax_icmp_ge rfl (by omega) (by omega) (fun h34 => ?_) (fun h34 => ?_)
    · omega
    · refine ax_iloadn rfl rfl ?_
      refine ax_aloadn rfl rfl ?_
      refine ax_aloadn rfl rfl ?_
      refine ax_getR rfl fX8_29 rfl rfl ?_
      refine ax_iloadn rfl rfl ?_
      refine ax_iald rfl rfl (by omega) ?_
      refine ax_aloadn rfl rfl ?_
      refine ax_getI (g := 7) rfl fX8_131 rfl rfl rfl rfl ?_
      refine ax_aloadn rfl rfl ?_
      refine ax_getR rfl fX8_26 rfl rfl ?_
      refine ax_callV (as := [_, _, _]) rfl vX8_298 hX8_isOutside rfl rfl rfl rfl rfl (by have k := c_F_out E d M (M 42 i) (by omega) x3 h (fcn fx fy) cf (by omega); rw [hb] at k; rw [eh]; exact k) (av_Xk ?_)
      refine ax_if_eq rfl (by omega) (fun h56 => ?_) (fun h56 => ?_)
      · refine ax_iconst rfl ?_
        refine ax_iadd rfl ?_
        refine ax_istoren (ls' := [(0, _), (1, _), (2, _)]) rfl rfl rfl ?_
        refine ax_iinc (ls' := [(0, _), (1, _), (2, _)]) rfl rfl rfl rfl ?_
        refine ax_goto rfl ?_
        first
          | (have e : b01 ((fun i : Nat => ¬ InO h.toNat (fcn fx fy) (c i)) i.toNat) = 1 := by omega
             rw [e] at ih2
             exact ih2)
          | (have e : b01 ((fun i : Nat => ¬ InO h.toNat (fcn fx fy) (c i)) i.toNat) = 0 := by omega
             rw [e] at ih2
             exact ih2)
      · refine ax_iconst rfl ?_
        refine ax_goto rfl ?_
        refine ax_iadd rfl ?_
        refine ax_istoren (ls' := [(0, _), (1, _), (2, _)]) rfl rfl rfl ?_
        refine ax_iinc (ls' := [(0, _), (1, _), (2, _)]) rfl rfl rfl rfl ?_
        refine ax_goto rfl ?_
        first
          | (have e : b01 ((fun i : Nat => ¬ InO h.toNat (fcn fx fy) (c i)) i.toNat) = 1 := by omega
             rw [e] at ih2
             exact ih2)
          | (have e : b01 ((fun i : Nat => ¬ InO h.toNat (fcn fx fy) (c i)) i.toNat) = 0 := by omega
             rw [e] at ih2
             exact ih2)
set_option maxRecDepth 100000 in
set_option maxHeartbeats 800000 in
theorem c_X8_beyond (E : av_E) (d : Nat) (M : av_M) (hR : RWm M) (on : Int) (hon : ONm M on) (H : Int) (c : Nat → pt) (hH : Snd (RW M) (Sg on) → 0 ≤ H ∧ Hull (Shd (VX (RW M) (Sg on))) H.toNat c) (hP : RPm M) (h : Int) (fx fy : Int → Int) (hG : FG (M 35 0) (M 36) (M 37) h fx fy) : av_Mt E (d + 8) mX8_beyond [vR 35] M (fun res M' => res = some (vI (if b01 (Snd (RW M) (Sg on)) = 0 ∨ M 35 0 = 0 then (-900000003) else cntP (fun i : Nat => ¬ InO h.toNat (fcn fx fy) (c i)) H.toNat)) ∧ RQ M M') := by
  refine av_enter hX8_beyond oX8_beyond rfl rfl ?_
  refine ax_aloadn rfl rfl ?_
  refine ax_aloadn rfl rfl ?_
  refine ax_callV (as := []) rfl vX8_255 hX8_setOn rfl rfl rfl rfl rfl (c_X8_setOn1 E (d + 7) M hR on hon) (av_Xk ?_)
  refine ax_callV (as := [_]) rfl vX8_290 hX8_layShadow rfl rfl rfl rfl rfl (c_X8_layShadow E (d + 2) M hR on hon.r hon.t H c hH) (fun r5 M5 hr5 => ?_)
  obtain ⟨rfl, hs, hk⟩ := hr5
  have hq := LSk.q hk
  have bs := b01_rng (Snd (RW M) (Sg on))
  refine ax_if_eq rfl (by omega) (fun h8 => ?_) (fun h8 => ?_)
  · refine ax_ldc (z := (-900000003)) rfl kX8_137 rfl ?_
    refine ax_iret rfl rfl ?_
    exact av_rq (by rw [if_pos (by omega)]) hq
  · have e50 : M5 35 0 = M 35 0 := hq.2.1 0 (by omega)
    have hn0 := hP.1
    refine ax_aloadn rfl rfl ?_
    refine ax_getI (g := 0) rfl fX8_101 rfl rfl rfl rfl ?_
    refine ax_if_ne rfl (by omega) (fun h15 => ?_) (fun h15 => ?_)
    · refine ax_aloadn rfl rfl ?_
      refine ax_callV (as := []) rfl vX8_134 hX8_layFigure rfl rfl rfl rfl rfl (c_X8_layFigure E (d + 3) M5 (RPm_k hP hq) h fx fy (FG_k hG hq)) (fun r22 M22 hr22 => ?_)
      obtain ⟨rfl, hL, hk2⟩ := hr22
      have hq2 := hq.tr (LFk.q hk2)
      have hn := hP.1
      have e0 : M22 35 0 = M 35 0 := hq2.2.1 0 (by omega)
      have hs1 := LS_keep (hs (b01_ne (by omega))) hk2
      have h12 := hL.2.1
      have H12 := hs1.2.1
      refine ax_iconst rfl ?_
      refine ax_istoren (ls' := [(0, _), (1, _)]) rfl rfl rfl ?_
      refine ax_iconst rfl ?_
      refine ax_istoren (ls' := [(0, _), (1, _), (2, _)]) rfl rfl rfl ?_
      refine av_Sw (l_X8_beyond E (d + 4) M22 h fx fy hL (by omega) H c hs1 H.toNat 0 (by omega) (by omega)) (fun r M' q => ?_)
      obtain ⟨q1, q2⟩ := q
      exact ⟨by rw [q1, if_neg (by omega)], by rw [q2]; exact hq2⟩
    · refine ax_ldc (z := (-900000003)) rfl kX8_137 rfl ?_
      refine ax_iret rfl rfl ?_
      exact av_rq (by rw [if_pos (by omega)]) hq
