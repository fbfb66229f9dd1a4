/-! ===== the reference: all vertices ===== -/
set_option maxRecDepth 100000 in
set_option maxHeartbeats 800000 in
theorem s1_X8_layVertices (E : av_E) (d : Nat) (M : av_M) (hR : RWm M) (set : Int) (hset : 0 ≤ set ∧ set < 1024) (u v w b : Int) (ho : 0 ≤ u ∧ u < v ∧ v < w ∧ w < M 35 23) (hb : b < 120) (cov : Int → Int → Int → Prop) (M1 : av_M) (hL : LI M M1 set cov b) (Q : Option av_V → av_M → Prop) (nxt : ∀ M2 : av_M, LI M M2 set (fun a b c => cov a b c ∨ (a = u ∧ b = v ∧ c = w)) (b + 1) → av_S E (d + 3) mX8_layVertices 193 [(0, vR 35), (1, vI set), (2, vI u), (3, vI v), (4, vI w)] [] M2 Q) : av_S E (d + 3) mX8_layVertices 41 [(0, vR 35), (1, vI set), (2, vI u), (3, vI v), (4, vI w)] [] M1 Q := by
  have hs := hR.1
  have hL0 := hL
  obtain ⟨q1, q2, q3, hk⟩ := hL
  have hkw := hk.w
  have hR1 : RWm M1 := RWm_congr hR hkw
  have eA : rA M1 = rA M := by unfold rA; rw [hkw.2.1]
  have eB : rB M1 = rB M := by unfold rB; rw [hkw.2.1]
  have eC : rC M1 = rC M := by unfold rC; rw [hkw.2.1]
  have tri := tri_bit hset (show 0 ≤ u ∧ u < 10 by omega) (show 0 ≤ v ∧ v < 10 by omega) (show 0 ≤ w ∧ w < 10 by omega)
  have rng : vol (rA M) (rB M) (rC M) u v w = 0 ∨ vol (rA M) (rB M) (rC M) u v w ≠ 0 := by omega
  have vb : -10000 ≤ vol (rA M) (rB M) (rC M) u v w ∧ vol (rA M) (rB M) (rC M) u v w ≤ 10000 := by
    have bi := hR.2.1 u (by omega) (by omega)
    have bj := hR.2.1 v (by omega) (by omega)
    have bk := hR.2.1 w (by omega) (by omega)
    have v0 := vol_rng (P := rA M) (Q := rB M) (R := rC M) (i := u) (j := v) (k := w) (U := 9) (V := 9) (T := 9) (fun n hn => by rcases hn with rfl | rfl | rfl <;> omega) (fun n hn => by rcases hn with rfl | rfl | rfl <;> omega) (fun n hn => by rcases hn with rfl | rfl | rfl <;> omega)
    omega
  refine ax_iloadn rfl rfl ?_
  refine ax_iloadn rfl rfl ?_
  refine ax_ishr rfl ?_
  refine ax_iloadn rfl rfl ?_
  refine ax_iloadn rfl rfl ?_
  refine ax_ishr rfl ?_
  refine ax_iand rfl ?_
  refine ax_iloadn rfl rfl ?_
  refine ax_iload rfl rfl ?_
  refine ax_ishr rfl ?_
  refine ax_iand rfl ?_
  refine ax_iconst rfl ?_
  refine ax_iand rfl ?_
  refine ax_iconst rfl ?_
  refine ax_icmp_ne rfl (by rw [tri]; split <;> omega) (by omega) (fun h56 => ?_) (fun h56 => ?_)
  · refine ax_iconst rfl ?_
    refine ax_istore (ls' := [(0, _), (1, _), (2, _), (3, _), (4, _), (5, _)]) rfl rfl rfl ?_
    refine ax_iload rfl rfl ?_
    refine ax_if_eq rfl (by omega) (fun h68 => ?_) (fun h68 => ?_)
    · refine ax_lconst (w := 0) rfl rfl ?_
      refine ax_lstore (ls' := [(0, _), (1, _), (2, _), (3, _), (4, _), (5, _), (6, _)]) rfl rfl rfl ?_
      refine ax_lload rfl rfl ?_
      refine ax_lconst (w := 0) rfl rfl ?_
      refine ax_lif_eq rfl rfl (by omega) (by omega) (fun h91 => ?_) (fun h91 => ?_)
      · rw [tri] at h56
        refine ax_pick [0, 1, 2, 3, 4] rfl ?_
        first
          | omega
          | (have hv0 : vol (rA M) (rB M) (rC M) u v w = 0 := by omega
             refine nxt M1 ⟨q1, RE_congr q2 (fun p => ?_), by omega, hk⟩
             constructor
             · rintro ⟨i, j, k, c, r⟩
               exact ⟨i, j, k, Or.inl c, r⟩
             · rintro ⟨i, j, k, c | ⟨rfl, rfl, rfl⟩, r⟩
               · exact ⟨i, j, k, c, r⟩
               · exact absurd hv0 r.2.2.1)
          | (have hno : ¬ (set.toNat.testBit u.toNat = true ∧ set.toNat.testBit v.toNat = true ∧ set.toNat.testBit w.toNat = true) := fun q => by
               rw [if_pos q] at h56
               omega
             refine nxt M1 ⟨q1, RE_congr q2 (fun p => ?_), by omega, hk⟩
             constructor
             · rintro ⟨i, j, k, c, r⟩
               exact ⟨i, j, k, Or.inl c, r⟩
             · rintro ⟨i, j, k, c | ⟨rfl, rfl, rfl⟩, r⟩
               · exact ⟨i, j, k, c, r⟩
               · exact absurd r.2.1 hno)
      · refine ax_lload rfl rfl ?_
        refine ax_lconst (w := 0) rfl rfl ?_
        refine ax_lif_ge rfl rfl (by omega) (by omega) (fun h98 => ?_) (fun h98 => ?_)
        · refine ax_lconst (w := 1) rfl rfl ?_
          rw [tri] at h56
          first
            | omega
            | (have hbits : (set.toNat.testBit u.toNat = true ∧ set.toNat.testBit v.toNat = true ∧ set.toNat.testBit w.toNat = true) := by
                 apply Classical.byContradiction
                 intro q
                 rw [if_neg q] at h56
                 omega
               have e : tS (rA M) (rB M) (rC M) u v w = -1 := by unfold tS; rw [if_pos (by omega)]
               have k := s2_X8_layVertices E d M hR set hset u v w b ho hb cov M1 hL0 Q nxt hbits (by omega)
               rw [e] at k
               exact k)
            | (have hbits : (set.toNat.testBit u.toNat = true ∧ set.toNat.testBit v.toNat = true ∧ set.toNat.testBit w.toNat = true) := by
                 apply Classical.byContradiction
                 intro q
                 rw [if_neg q] at h56
                 omega
               have e : tS (rA M) (rB M) (rC M) u v w = 1 := by unfold tS; rw [if_neg (by omega)]
               have k := s2_X8_layVertices E d M hR set hset u v w b ho hb cov M1 hL0 Q nxt hbits (by omega)
               rw [e] at k
               exact k)
        · refine ax_ldc2 (z := (-1)) rfl kX8_117 rfl ?_
          refine ax_goto rfl ?_
          rw [tri] at h56
          first
            | omega
            | (have hbits : (set.toNat.testBit u.toNat = true ∧ set.toNat.testBit v.toNat = true ∧ set.toNat.testBit w.toNat = true) := by
                 apply Classical.byContradiction
                 intro q
                 rw [if_neg q] at h56
                 omega
               have e : tS (rA M) (rB M) (rC M) u v w = -1 := by unfold tS; rw [if_pos (by omega)]
               have k := s2_X8_layVertices E d M hR set hset u v w b ho hb cov M1 hL0 Q nxt hbits (by omega)
               rw [e] at k
               exact k)
            | (have hbits : (set.toNat.testBit u.toNat = true ∧ set.toNat.testBit v.toNat = true ∧ set.toNat.testBit w.toNat = true) := by
                 apply Classical.byContradiction
                 intro q
                 rw [if_neg q] at h56
                 omega
               have e : tS (rA M) (rB M) (rC M) u v w = 1 := by unfold tS; rw [if_neg (by omega)]
               have k := s2_X8_layVertices E d M hR set hset u v w b ho hb cov M1 hL0 Q nxt hbits (by omega)
               rw [e] at k
               exact k)
    · refine ax_aloadn rfl rfl ?_
      refine ax_iloadn rfl rfl ?_
      refine ax_iloadn rfl rfl ?_
      refine ax_iload rfl rfl ?_
      refine ax_iconst rfl ?_
      refine ax_iconst rfl ?_
      refine ax_iconst rfl ?_
      refine ax_callV (as := [_, _, _, _, _, _]) rfl vX8_235 hX8_determinant rfl rfl rfl rfl rfl (by have k := c_X8_det_w E (d + 2) M1 hR1 u v w (by omega) (by omega) (by omega); rw [eA, eB, eC] at k; exact k) (av_Xk ?_)
      refine ax_goto rfl ?_
      refine ax_lstore (ls' := [(0, _), (1, _), (2, _), (3, _), (4, _), (5, _), (6, _)]) rfl rfl rfl ?_
      refine ax_lload rfl rfl ?_
      refine ax_lconst (w := 0) rfl rfl ?_
      refine ax_lif_eq rfl rfl (by omega) (by omega) (fun h91 => ?_) (fun h91 => ?_)
      · rw [tri] at h56
        refine ax_pick [0, 1, 2, 3, 4] rfl ?_
        first
          | omega
          | (have hv0 : vol (rA M) (rB M) (rC M) u v w = 0 := by omega
             refine nxt M1 ⟨q1, RE_congr q2 (fun p => ?_), by omega, hk⟩
             constructor
             · rintro ⟨i, j, k, c, r⟩
               exact ⟨i, j, k, Or.inl c, r⟩
             · rintro ⟨i, j, k, c | ⟨rfl, rfl, rfl⟩, r⟩
               · exact ⟨i, j, k, c, r⟩
               · exact absurd hv0 r.2.2.1)
          | (have hno : ¬ (set.toNat.testBit u.toNat = true ∧ set.toNat.testBit v.toNat = true ∧ set.toNat.testBit w.toNat = true) := fun q => by
               rw [if_pos q] at h56
               omega
             refine nxt M1 ⟨q1, RE_congr q2 (fun p => ?_), by omega, hk⟩
             constructor
             · rintro ⟨i, j, k, c, r⟩
               exact ⟨i, j, k, Or.inl c, r⟩
             · rintro ⟨i, j, k, c | ⟨rfl, rfl, rfl⟩, r⟩
               · exact ⟨i, j, k, c, r⟩
               · exact absurd r.2.1 hno)
      · refine ax_lload rfl rfl ?_
        refine ax_lconst (w := 0) rfl rfl ?_
        refine ax_lif_ge rfl rfl (by omega) (by omega) (fun h98 => ?_) (fun h98 => ?_)
        · refine ax_lconst (w := 1) rfl rfl ?_
          rw [tri] at h56
          first
            | omega
            | (have hbits : (set.toNat.testBit u.toNat = true ∧ set.toNat.testBit v.toNat = true ∧ set.toNat.testBit w.toNat = true) := by
                 apply Classical.byContradiction
                 intro q
                 rw [if_neg q] at h56
                 omega
               have e : tS (rA M) (rB M) (rC M) u v w = -1 := by unfold tS; rw [if_pos (by omega)]
               have k := s2_X8_layVertices E d M hR set hset u v w b ho hb cov M1 hL0 Q nxt hbits (by omega)
               rw [e] at k
               exact k)
            | (have hbits : (set.toNat.testBit u.toNat = true ∧ set.toNat.testBit v.toNat = true ∧ set.toNat.testBit w.toNat = true) := by
                 apply Classical.byContradiction
                 intro q
                 rw [if_neg q] at h56
                 omega
               have e : tS (rA M) (rB M) (rC M) u v w = 1 := by unfold tS; rw [if_neg (by omega)]
               have k := s2_X8_layVertices E d M hR set hset u v w b ho hb cov M1 hL0 Q nxt hbits (by omega)
               rw [e] at k
               exact k)
        · refine ax_ldc2 (z := (-1)) rfl kX8_117 rfl ?_
          refine ax_goto rfl ?_
          rw [tri] at h56
          first
            | omega
            | (have hbits : (set.toNat.testBit u.toNat = true ∧ set.toNat.testBit v.toNat = true ∧ set.toNat.testBit w.toNat = true) := by
                 apply Classical.byContradiction
                 intro q
                 rw [if_neg q] at h56
                 omega
               have e : tS (rA M) (rB M) (rC M) u v w = -1 := by unfold tS; rw [if_pos (by omega)]
               have k := s2_X8_layVertices E d M hR set hset u v w b ho hb cov M1 hL0 Q nxt hbits (by omega)
               rw [e] at k
               exact k)
            | (have hbits : (set.toNat.testBit u.toNat = true ∧ set.toNat.testBit v.toNat = true ∧ set.toNat.testBit w.toNat = true) := by
                 apply Classical.byContradiction
                 intro q
                 rw [if_neg q] at h56
                 omega
               have e : tS (rA M) (rB M) (rC M) u v w = 1 := by unfold tS; rw [if_neg (by omega)]
               have k := s2_X8_layVertices E d M hR set hset u v w b ho hb cov M1 hL0 Q nxt hbits (by omega)
               rw [e] at k
               exact k)
  · refine ax_iconst rfl ?_
    refine ax_goto rfl ?_
    refine ax_istore (ls' := [(0, _), (1, _), (2, _), (3, _), (4, _), (5, _)]) rfl rfl rfl ?_
    refine ax_iload rfl rfl ?_
    refine ax_if_eq rfl (by omega) (fun h68 => ?_) (fun h68 => ?_)
    · refine ax_lconst (w := 0) rfl rfl ?_
      refine ax_lstore (ls' := [(0, _), (1, _), (2, _), (3, _), (4, _), (5, _), (6, _)]) rfl rfl rfl ?_
      refine ax_lload rfl rfl ?_
      refine ax_lconst (w := 0) rfl rfl ?_
      refine ax_lif_eq rfl rfl (by omega) (by omega) (fun h91 => ?_) (fun h91 => ?_)
      · rw [tri] at h56
        refine ax_pick [0, 1, 2, 3, 4] rfl ?_
        first
          | omega
          | (have hv0 : vol (rA M) (rB M) (rC M) u v w = 0 := by omega
             refine nxt M1 ⟨q1, RE_congr q2 (fun p => ?_), by omega, hk⟩
             constructor
             · rintro ⟨i, j, k, c, r⟩
               exact ⟨i, j, k, Or.inl c, r⟩
             · rintro ⟨i, j, k, c | ⟨rfl, rfl, rfl⟩, r⟩
               · exact ⟨i, j, k, c, r⟩
               · exact absurd hv0 r.2.2.1)
          | (have hno : ¬ (set.toNat.testBit u.toNat = true ∧ set.toNat.testBit v.toNat = true ∧ set.toNat.testBit w.toNat = true) := fun q => by
               rw [if_pos q] at h56
               omega
             refine nxt M1 ⟨q1, RE_congr q2 (fun p => ?_), by omega, hk⟩
             constructor
             · rintro ⟨i, j, k, c, r⟩
               exact ⟨i, j, k, Or.inl c, r⟩
             · rintro ⟨i, j, k, c | ⟨rfl, rfl, rfl⟩, r⟩
               · exact ⟨i, j, k, c, r⟩
               · exact absurd r.2.1 hno)
      · refine ax_lload rfl rfl ?_
        refine ax_lconst (w := 0) rfl rfl ?_
        refine ax_lif_ge rfl rfl (by omega) (by omega) (fun h98 => ?_) (fun h98 => ?_)
        · refine ax_lconst (w := 1) rfl rfl ?_
          rw [tri] at h56
          first
            | omega
            | (have hbits : (set.toNat.testBit u.toNat = true ∧ set.toNat.testBit v.toNat = true ∧ set.toNat.testBit w.toNat = true) := by
                 apply Classical.byContradiction
                 intro q
                 rw [if_neg q] at h56
                 omega
               have e : tS (rA M) (rB M) (rC M) u v w = -1 := by unfold tS; rw [if_pos (by omega)]
               have k := s2_X8_layVertices E d M hR set hset u v w b ho hb cov M1 hL0 Q nxt hbits (by omega)
               rw [e] at k
               exact k)
            | (have hbits : (set.toNat.testBit u.toNat = true ∧ set.toNat.testBit v.toNat = true ∧ set.toNat.testBit w.toNat = true) := by
                 apply Classical.byContradiction
                 intro q
                 rw [if_neg q] at h56
                 omega
               have e : tS (rA M) (rB M) (rC M) u v w = 1 := by unfold tS; rw [if_neg (by omega)]
               have k := s2_X8_layVertices E d M hR set hset u v w b ho hb cov M1 hL0 Q nxt hbits (by omega)
               rw [e] at k
               exact k)
        · refine ax_ldc2 (z := (-1)) rfl kX8_117 rfl ?_
          refine ax_goto rfl ?_
          rw [tri] at h56
          first
            | omega
            | (have hbits : (set.toNat.testBit u.toNat = true ∧ set.toNat.testBit v.toNat = true ∧ set.toNat.testBit w.toNat = true) := by
                 apply Classical.byContradiction
                 intro q
                 rw [if_neg q] at h56
                 omega
               have e : tS (rA M) (rB M) (rC M) u v w = -1 := by unfold tS; rw [if_pos (by omega)]
               have k := s2_X8_layVertices E d M hR set hset u v w b ho hb cov M1 hL0 Q nxt hbits (by omega)
               rw [e] at k
               exact k)
            | (have hbits : (set.toNat.testBit u.toNat = true ∧ set.toNat.testBit v.toNat = true ∧ set.toNat.testBit w.toNat = true) := by
                 apply Classical.byContradiction
                 intro q
                 rw [if_neg q] at h56
                 omega
               have e : tS (rA M) (rB M) (rC M) u v w = 1 := by unfold tS; rw [if_neg (by omega)]
               have k := s2_X8_layVertices E d M hR set hset u v w b ho hb cov M1 hL0 Q nxt hbits (by omega)
               rw [e] at k
               exact k)
    · refine ax_aloadn rfl rfl ?_
      refine ax_iloadn rfl rfl ?_
      refine ax_iloadn rfl rfl ?_
      refine ax_iload rfl rfl ?_
      refine ax_iconst rfl ?_
      refine ax_iconst rfl ?_
      refine ax_iconst rfl ?_
      refine ax_callV (as := [_, _, _, _, _, _]) rfl vX8_235 hX8_determinant rfl rfl rfl rfl rfl (by have k := c_X8_det_w E (d + 2) M1 hR1 u v w (by omega) (by omega) (by omega); rw [eA, eB, eC] at k; exact k) (av_Xk ?_)
      refine ax_goto rfl ?_
      refine ax_lstore (ls' := [(0, _), (1, _), (2, _), (3, _), (4, _), (5, _), (6, _)]) rfl rfl rfl ?_
      refine ax_lload rfl rfl ?_
      refine ax_lconst (w := 0) rfl rfl ?_
      refine ax_lif_eq rfl rfl (by omega) (by omega) (fun h91 => ?_) (fun h91 => ?_)
      · rw [tri] at h56
        refine ax_pick [0, 1, 2, 3, 4] rfl ?_
        first
          | omega
          | (have hv0 : vol (rA M) (rB M) (rC M) u v w = 0 := by omega
             refine nxt M1 ⟨q1, RE_congr q2 (fun p => ?_), by omega, hk⟩
             constructor
             · rintro ⟨i, j, k, c, r⟩
               exact ⟨i, j, k, Or.inl c, r⟩
             · rintro ⟨i, j, k, c | ⟨rfl, rfl, rfl⟩, r⟩
               · exact ⟨i, j, k, c, r⟩
               · exact absurd hv0 r.2.2.1)
          | (have hno : ¬ (set.toNat.testBit u.toNat = true ∧ set.toNat.testBit v.toNat = true ∧ set.toNat.testBit w.toNat = true) := fun q => by
               rw [if_pos q] at h56
               omega
             refine nxt M1 ⟨q1, RE_congr q2 (fun p => ?_), by omega, hk⟩
             constructor
             · rintro ⟨i, j, k, c, r⟩
               exact ⟨i, j, k, Or.inl c, r⟩
             · rintro ⟨i, j, k, c | ⟨rfl, rfl, rfl⟩, r⟩
               · exact ⟨i, j, k, c, r⟩
               · exact absurd r.2.1 hno)
      · refine ax_lload rfl rfl ?_
        refine ax_lconst (w := 0) rfl rfl ?_
        refine ax_lif_ge rfl rfl (by omega) (by omega) (fun h98 => ?_) (fun h98 => ?_)
        · refine ax_lconst (w := 1) rfl rfl ?_
          rw [tri] at h56
          first
            | omega
            | (have hbits : (set.toNat.testBit u.toNat = true ∧ set.toNat.testBit v.toNat = true ∧ set.toNat.testBit w.toNat = true) := by
                 apply Classical.byContradiction
                 intro q
                 rw [if_neg q] at h56
                 omega
               have e : tS (rA M) (rB M) (rC M) u v w = -1 := by unfold tS; rw [if_pos (by omega)]
               have k := s2_X8_layVertices E d M hR set hset u v w b ho hb cov M1 hL0 Q nxt hbits (by omega)
               rw [e] at k
               exact k)
            | (have hbits : (set.toNat.testBit u.toNat = true ∧ set.toNat.testBit v.toNat = true ∧ set.toNat.testBit w.toNat = true) := by
                 apply Classical.byContradiction
                 intro q
                 rw [if_neg q] at h56
                 omega
               have e : tS (rA M) (rB M) (rC M) u v w = 1 := by unfold tS; rw [if_neg (by omega)]
               have k := s2_X8_layVertices E d M hR set hset u v w b ho hb cov M1 hL0 Q nxt hbits (by omega)
               rw [e] at k
               exact k)
        · refine ax_ldc2 (z := (-1)) rfl kX8_117 rfl ?_
          refine ax_goto rfl ?_
          rw [tri] at h56
          first
            | omega
            | (have hbits : (set.toNat.testBit u.toNat = true ∧ set.toNat.testBit v.toNat = true ∧ set.toNat.testBit w.toNat = true) := by
                 apply Classical.byContradiction
                 intro q
                 rw [if_neg q] at h56
                 omega
               have e : tS (rA M) (rB M) (rC M) u v w = -1 := by unfold tS; rw [if_pos (by omega)]
               have k := s2_X8_layVertices E d M hR set hset u v w b ho hb cov M1 hL0 Q nxt hbits (by omega)
               rw [e] at k
               exact k)
            | (have hbits : (set.toNat.testBit u.toNat = true ∧ set.toNat.testBit v.toNat = true ∧ set.toNat.testBit w.toNat = true) := by
                 apply Classical.byContradiction
                 intro q
                 rw [if_neg q] at h56
                 omega
               have e : tS (rA M) (rB M) (rC M) u v w = 1 := by unfold tS; rw [if_neg (by omega)]
               have k := s2_X8_layVertices E d M hR set hset u v w b ho hb cov M1 hL0 Q nxt hbits (by omega)
               rw [e] at k
               exact k)
