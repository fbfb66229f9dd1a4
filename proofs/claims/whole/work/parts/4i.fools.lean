/-! ===== the reference: fools ===== -/
def RpS (M : av_M) : List Nat → Prop
  | [] => True
  | p :: r => M 47 (r.length : Int) = (p : Int) ∧ p < 2 ^ 63 ∧ RpS M r
theorem RpS_k {M M' : av_M} : ∀ l : List Nat, (∀ j : Int, j < (l.length : Int) → M' 47 j = M 47 j) → RpS M l → RpS M' l := by
  intro l
  induction l with
  | nil => intro _ _; trivial
  | cons p r ih =>
    rintro h ⟨a, b, c⟩
    have hl : ((p :: r).length : Int) = (r.length : Int) + 1 := by rw [List.length_cons]; omega
    exact ⟨by rw [h _ (by omega)]; exact a, b, ih (fun j hj => h j (by omega)) c⟩
theorem fb_0 : fb 0 = 64 := by decide +kernel
theorem foo_r {n : Nat} (h3 : 3 ≤ n) (h8 : n ≤ 8) : 1 ≤ fooN n ∧ fooN n ≤ 6 := by
  rcases (show n = 3 ∨ n = 4 ∨ n = 5 ∨ n = 6 ∨ n = 7 ∨ n = 8 by omega) with e | e | e | e | e | e <;> (subst e; decide)
set_option maxRecDepth 100000 in
set_option maxHeartbeats 800000 in
theorem l_X8_foolsNow (E : av_E) (d : Nat) (n : Nat) (h3 : 3 ≤ n) (hn8 : n ≤ 8) (M : av_M) (hfo : ∀ a : Nat, a < 64 → M 49 (a : Int) = ((foV n a 64 : Nat) : Int)) (Q : Option av_V → av_M → Prop) (R : Nat) (nxt0 : ∀ M2 : av_M, (∀ k, k ≠ 47 → M2 k = M k) → av_S E (d + 2) mX8_foolsNow 133 [(0, vR 35), (1, vI (R : Int))] [] M2 Q) : ∀ (t best : Nat) (st : List Nat) (M1 : av_M), runF n t best st = some R → best ≤ 64 → (∀ k, k ≠ 47 → M1 k = M k) → RpS M1 st → st.length ≤ 62 → av_S E (d + 2) mX8_foolsNow 34 [(0, vR 35), (1, vI (best : Int)), (2, vI ((st.length : Int) + (-1)))] [] M1 Q := by
  intro t
  induction t with
  | zero => intro best st M1 h; cases h
  | succ t ih =>
    intro best st M1 hrun hb64 hk hS hlen
    cases st with
    | nil =>
      have er : best = R := Option.some.inj hrun
      subst er
      have hl0 : ((([] : List Nat).length : Nat) : Int) = 0 := rfl
      rw [hl0]
      refine ax_iloadn rfl rfl ?_
      refine ax_if_lt rfl (by omega) (fun h35 => ?_) (fun h35 => ?_)
      · refine ax_pick [0, 1] rfl ?_
        exact nxt0 M1 hk
      · omega
    | cons p r =>
      obtain ⟨s1, s2, s3⟩ := hS
      have hl1 : ((p :: r).length : Int) + (-1) = (r.length : Int) := by rw [List.length_cons]; omega
      rw [List.length_cons] at hlen
      rw [hl1]
      have hrun' : (if fb p = 64 ∨ r.length + onN p 64 ≤ best then runF n t best r else if 60 ≤ r.length then none else runF n t (max best (r.length + 1)) ((lft p (2 ^ fb p) &&& (foT n).getD (fb p) 0) :: lft p (2 ^ fb p) :: r)) = some R := hrun
      have fle : fb p ≤ 64 := fbF_le p 64 0
      have ole := onN_le p 64
      have hc := c_X8_firstBit E (d + 1) M1 p s2
      have ho := c_X8_ones E (d + 1) M1 p s2
      rw [← s1] at hc ho
      have hgo : ¬ (fb p = 64 ∨ r.length + onN p 64 ≤ best) → r.length < 60 ∧ runF n t (max best (r.length + 1)) ((lft p (2 ^ fb p) &&& (foT n).getD (fb p) 0) :: lft p (2 ^ fb p) :: r) = some R := fun q => by
        rw [if_neg q] at hrun'
        by_cases z : 60 ≤ r.length
        · rw [if_pos z] at hrun'; cases hrun'
        · rw [if_neg z] at hrun'; exact ⟨by omega, hrun'⟩
      have hno : (fb p = 64 ∨ r.length + onN p 64 ≤ best) → av_S E (d + 2) mX8_foolsNow 34 [(0, vR 35), (1, vI (best : Int)), (2, vI ((r.length : Int) + (-1)))] [] M1 Q := fun q => by
        rw [if_pos q] at hrun'
        exact ih best r M1 hrun' hb64 hk s3 (by omega)
      refine ax_iloadn rfl rfl ?_
      refine ax_if_lt rfl (by omega) (fun h35 => ?_) (fun h35 => ?_)
      · omega
      · refine ax_aloadn rfl rfl ?_
        refine ax_getR rfl fX8_44 rfl rfl ?_
        refine ax_iloadn rfl rfl ?_
        refine ax_lald rfl rfl (by omega) ?_
        refine ax_callS (as := [_]) rfl sX8_158 hX8_firstBit rfl rfl rfl rfl hc (av_Xk ?_)
        refine ax_istoren (ls' := [(0, _), (1, _), (2, _), (3, _)]) rfl rfl rfl ?_
        refine ax_iloadn rfl rfl ?_
        refine ax_bipush rfl rfl ?_
        refine ax_icmp_eq rfl (by omega) (by omega) (fun h51 => ?_) (fun h51 => ?_)
        · refine ax_iinc (ls' := [(0, _), (1, _), (2, _), (3, _)]) rfl rfl rfl rfl ?_
          refine ax_goto rfl ?_
          refine ax_goto rfl ?_
          refine ax_pick [0, 1, 2] rfl ?_
          first
            | exact hno (by omega)
            | (have z0 : (r.length : Int) + 1 = (((lft p (2 ^ fb p) &&& (foT n).getD (fb p) 0) :: lft p (2 ^ fb p) :: r).length : Int) + (-1) := by rw [List.length_cons, List.length_cons]; omega
               have zl : (((lft p (2 ^ fb p) &&& (foT n).getD (fb p) 0) :: lft p (2 ^ fb p) :: r).length) ≤ 62 := by rw [List.length_cons, List.length_cons]; omega
               have k126 : ∀ k, k ≠ 47 → M126 k = M k := fun k q => by rw [c126 k q, c90 k q]; exact hk k q
               have l47 : M126 47 (r.length : Int) = ((lft p (2 ^ fb p) : Nat) : Int) := by rw [b126 _ (by omega)]; exact a90
               have l48 : M126 47 ((r.length : Int) + 1) = ((lft p (2 ^ fb p) &&& (foT n).getD (fb p) 0 : Nat) : Int) := by
                 rw [a126, a90, c90 49 (by decide), hk 49 (by decide), hfa]
                 exact bl_n_and la
               have rS : RpS M126 ((lft p (2 ^ fb p) &&& (foT n).getD (fb p) 0) :: lft p (2 ^ fb p) :: r) := by
                 refine ⟨?_, Nat.lt_of_le_of_lt Nat.and_le_left la, l47, la, RpS_k r (fun j hj => ?_) s3⟩
                 · rw [List.length_cons, show ((r.length + 1 : Nat) : Int) = (r.length : Int) + 1 by omega]; exact l48
                 · rw [b126 j (by omega), b90 j (by omega)]
               have i2 := ih (max best (r.length + 1)) _ M126 g2 (by omega) k126 rS zl
               first
                 | (rw [← z0, show ((max best (r.length + 1) : Nat) : Int) = (r.length : Int) + 1 by omega] at i2
                    exact i2)
                 | (rw [← z0, show ((max best (r.length + 1) : Nat) : Int) = (best : Int) by omega] at i2
                    exact i2))
        · refine ax_iloadn rfl rfl ?_
          refine ax_aloadn rfl rfl ?_
          refine ax_getR rfl fX8_44 rfl rfl ?_
          refine ax_iloadn rfl rfl ?_
          refine ax_lald rfl rfl (by omega) ?_
          refine ax_callS (as := [_]) rfl sX8_178 hX8_ones rfl rfl rfl rfl ho (av_Xk ?_)
          refine ax_iadd rfl ?_
          refine ax_iloadn rfl rfl ?_
          refine ax_icmp_gt rfl (by omega) (by omega) (fun h66 => ?_) (fun h66 => ?_)
          · have hq : ¬ (fb p = 64 ∨ r.length + onN p 64 ≤ best) := by omega
            obtain ⟨g1, g2⟩ := hgo hq
            have pn0 : p ≠ 0 := fun z => hq (Or.inl (by rw [z]; exact fb_0))
            obtain ⟨fs1, fs2⟩ := fb_sp s2 pn0
            have f63 := tb_lt s2 fs1
            have p1 : 1 * 2 ^ fb p < 2 ^ 63 := by rw [Nat.one_mul]; exact Nat.pow_lt_pow_right (by decide) f63
            have sh := bl_n_shl (a := 1) (k := fb p) (by omega) p1
            rw [Nat.one_mul] at sh p1
            have sh1 : bl_shl 1 ((fb p : Nat) : Int) = ((2 ^ fb p : Nat) : Int) := sh
            have la := lft_lt (ao := p) (P := 2 ^ fb p) s2
            have an : bl_and (p : Int) (bl_xor ((2 ^ fb p : Nat) : Int) (-1)) = ((lft p (2 ^ fb p) : Nat) : Int) := bl_n_andn s2
            have ft := foT_all n (by omega) h3 (fb p) fs2
            have hfa := hfo (fb p) fs2
            rw [ft] at hfa
            refine ax_aloadn rfl rfl ?_
            refine ax_getR rfl fX8_44 rfl rfl ?_
            refine ax_iloadn rfl rfl ?_
            refine ax_dup2 rfl rfl rfl ?_
            refine ax_lald rfl rfl (by omega) ?_
            refine ax_lconst (w := 1) rfl rfl ?_
            refine ax_iloadn rfl rfl ?_
            refine ax_lshl rfl ?_
            refine ax_ldc2 (z := (-1)) rfl kX8_117 rfl ?_
            refine ax_lxor rfl ?_
            refine ax_land rfl ?_
            refine ax_last' rfl rfl (by omega) (fun M90 a90 b90 c90 => ?_)
            refine ax_iloadn rfl rfl ?_
            refine ax_iconst rfl ?_
            refine ax_iadd rfl ?_
            refine ax_iloadn rfl rfl ?_
            refine ax_icmp_le rfl (by omega) (by omega) (fun h95 => ?_) (fun h95 => ?_)
            · refine ax_iloadn rfl rfl ?_
              refine ax_istoren (ls' := [(0, _), (1, _), (2, _), (3, _)]) rfl rfl rfl ?_
              rw [s1, sh1, an] at a90
              refine ax_aloadn rfl rfl ?_
              refine ax_getR rfl fX8_44 rfl rfl ?_
              refine ax_iloadn rfl rfl ?_
              refine ax_iconst rfl ?_
              refine ax_iadd rfl ?_
              refine ax_aloadn rfl rfl ?_
              refine ax_getR rfl fX8_44 rfl rfl ?_
              refine ax_iloadn rfl rfl ?_
              refine ax_lald rfl rfl (by omega) ?_
              refine ax_aloadn rfl rfl ?_
              refine ax_getR rfl fX8_50 rfl rfl ?_
              refine ax_iloadn rfl rfl ?_
              refine ax_lald rfl rfl (by omega) ?_
              refine ax_land rfl ?_
              refine ax_last' rfl rfl (by omega) (fun M126 a126 b126 c126 => ?_)
              refine ax_iinc (ls' := [(0, _), (1, _), (2, _), (3, _)]) rfl rfl rfl rfl ?_
              refine ax_goto rfl ?_
              refine ax_pick [0, 1, 2] rfl ?_
              first
                | exact hno (by omega)
                | (have z0 : (r.length : Int) + 1 = (((lft p (2 ^ fb p) &&& (foT n).getD (fb p) 0) :: lft p (2 ^ fb p) :: r).length : Int) + (-1) := by rw [List.length_cons, List.length_cons]; omega
                   have zl : (((lft p (2 ^ fb p) &&& (foT n).getD (fb p) 0) :: lft p (2 ^ fb p) :: r).length) ≤ 62 := by rw [List.length_cons, List.length_cons]; omega
                   have k126 : ∀ k, k ≠ 47 → M126 k = M k := fun k q => by rw [c126 k q, c90 k q]; exact hk k q
                   have l47 : M126 47 (r.length : Int) = ((lft p (2 ^ fb p) : Nat) : Int) := by rw [b126 _ (by omega)]; exact a90
                   have l48 : M126 47 ((r.length : Int) + 1) = ((lft p (2 ^ fb p) &&& (foT n).getD (fb p) 0 : Nat) : Int) := by
                     rw [a126, a90, c90 49 (by decide), hk 49 (by decide), hfa]
                     exact bl_n_and la
                   have rS : RpS M126 ((lft p (2 ^ fb p) &&& (foT n).getD (fb p) 0) :: lft p (2 ^ fb p) :: r) := by
                     refine ⟨?_, Nat.lt_of_le_of_lt Nat.and_le_left la, l47, la, RpS_k r (fun j hj => ?_) s3⟩
                     · rw [List.length_cons, show ((r.length + 1 : Nat) : Int) = (r.length : Int) + 1 by omega]; exact l48
                     · rw [b126 j (by omega), b90 j (by omega)]
                   have i2 := ih (max best (r.length + 1)) _ M126 g2 (by omega) k126 rS zl
                   first
                     | (rw [← z0, show ((max best (r.length + 1) : Nat) : Int) = (r.length : Int) + 1 by omega] at i2
                        exact i2)
                     | (rw [← z0, show ((max best (r.length + 1) : Nat) : Int) = (best : Int) by omega] at i2
                        exact i2))
            · refine ax_iloadn rfl rfl ?_
              refine ax_iconst rfl ?_
              refine ax_iadd rfl ?_
              refine ax_goto rfl ?_
              refine ax_istoren (ls' := [(0, _), (1, _), (2, _), (3, _)]) rfl rfl rfl ?_
              rw [s1, sh1, an] at a90
              refine ax_aloadn rfl rfl ?_
              refine ax_getR rfl fX8_44 rfl rfl ?_
              refine ax_iloadn rfl rfl ?_
              refine ax_iconst rfl ?_
              refine ax_iadd rfl ?_
              refine ax_aloadn rfl rfl ?_
              refine ax_getR rfl fX8_44 rfl rfl ?_
              refine ax_iloadn rfl rfl ?_
              refine ax_lald rfl rfl (by omega) ?_
              refine ax_aloadn rfl rfl ?_
              refine ax_getR rfl fX8_50 rfl rfl ?_
              refine ax_iloadn rfl rfl ?_
              refine ax_lald rfl rfl (by omega) ?_
              refine ax_land rfl ?_
              refine ax_last' rfl rfl (by omega) (fun M126 a126 b126 c126 => ?_)
              refine ax_iinc (ls' := [(0, _), (1, _), (2, _), (3, _)]) rfl rfl rfl rfl ?_
              refine ax_goto rfl ?_
              refine ax_pick [0, 1, 2] rfl ?_
              first
                | exact hno (by omega)
                | (have z0 : (r.length : Int) + 1 = (((lft p (2 ^ fb p) &&& (foT n).getD (fb p) 0) :: lft p (2 ^ fb p) :: r).length : Int) + (-1) := by rw [List.length_cons, List.length_cons]; omega
                   have zl : (((lft p (2 ^ fb p) &&& (foT n).getD (fb p) 0) :: lft p (2 ^ fb p) :: r).length) ≤ 62 := by rw [List.length_cons, List.length_cons]; omega
                   have k126 : ∀ k, k ≠ 47 → M126 k = M k := fun k q => by rw [c126 k q, c90 k q]; exact hk k q
                   have l47 : M126 47 (r.length : Int) = ((lft p (2 ^ fb p) : Nat) : Int) := by rw [b126 _ (by omega)]; exact a90
                   have l48 : M126 47 ((r.length : Int) + 1) = ((lft p (2 ^ fb p) &&& (foT n).getD (fb p) 0 : Nat) : Int) := by
                     rw [a126, a90, c90 49 (by decide), hk 49 (by decide), hfa]
                     exact bl_n_and la
                   have rS : RpS M126 ((lft p (2 ^ fb p) &&& (foT n).getD (fb p) 0) :: lft p (2 ^ fb p) :: r) := by
                     refine ⟨?_, Nat.lt_of_le_of_lt Nat.and_le_left la, l47, la, RpS_k r (fun j hj => ?_) s3⟩
                     · rw [List.length_cons, show ((r.length + 1 : Nat) : Int) = (r.length : Int) + 1 by omega]; exact l48
                     · rw [b126 j (by omega), b90 j (by omega)]
                   have i2 := ih (max best (r.length + 1)) _ M126 g2 (by omega) k126 rS zl
                   first
                     | (rw [← z0, show ((max best (r.length + 1) : Nat) : Int) = (r.length : Int) + 1 by omega] at i2
                        exact i2)
                     | (rw [← z0, show ((max best (r.length + 1) : Nat) : Int) = (best : Int) by omega] at i2
                        exact i2))
          · refine ax_iinc (ls' := [(0, _), (1, _), (2, _), (3, _)]) rfl rfl rfl rfl ?_
            refine ax_goto rfl ?_
            refine ax_goto rfl ?_
            refine ax_pick [0, 1, 2] rfl ?_
            first
              | exact hno (by omega)
              | (have z0 : (r.length : Int) + 1 = (((lft p (2 ^ fb p) &&& (foT n).getD (fb p) 0) :: lft p (2 ^ fb p) :: r).length : Int) + (-1) := by rw [List.length_cons, List.length_cons]; omega
                 have zl : (((lft p (2 ^ fb p) &&& (foT n).getD (fb p) 0) :: lft p (2 ^ fb p) :: r).length) ≤ 62 := by rw [List.length_cons, List.length_cons]; omega
                 have k126 : ∀ k, k ≠ 47 → M126 k = M k := fun k q => by rw [c126 k q, c90 k q]; exact hk k q
                 have l47 : M126 47 (r.length : Int) = ((lft p (2 ^ fb p) : Nat) : Int) := by rw [b126 _ (by omega)]; exact a90
                 have l48 : M126 47 ((r.length : Int) + 1) = ((lft p (2 ^ fb p) &&& (foT n).getD (fb p) 0 : Nat) : Int) := by
                   rw [a126, a90, c90 49 (by decide), hk 49 (by decide), hfa]
                   exact bl_n_and la
                 have rS : RpS M126 ((lft p (2 ^ fb p) &&& (foT n).getD (fb p) 0) :: lft p (2 ^ fb p) :: r) := by
                   refine ⟨?_, Nat.lt_of_le_of_lt Nat.and_le_left la, l47, la, RpS_k r (fun j hj => ?_) s3⟩
                   · rw [List.length_cons, show ((r.length + 1 : Nat) : Int) = (r.length : Int) + 1 by omega]; exact l48
                   · rw [b126 j (by omega), b90 j (by omega)]
                 have i2 := ih (max best (r.length + 1)) _ M126 g2 (by omega) k126 rS zl
                 first
                   | (rw [← z0, show ((max best (r.length + 1) : Nat) : Int) = (r.length : Int) + 1 by omega] at i2
                      exact i2)
                   | (rw [← z0, show ((max best (r.length + 1) : Nat) : Int) = (best : Int) by omega] at i2
                      exact i2))
set_option maxRecDepth 100000 in
set_option maxHeartbeats 800000 in
theorem c_X8_foolsNow (E : av_E) (d : Nat) (M : av_M) (h : Int) (fx fy : Int → Int) (hL : LFm M h fx fy) (h0 : M 35 0 ≤ 12) (n : Nat) (hn : h = (n : Int)) (h3 : 3 ≤ n) (hn8 : n ≤ 8) (hne : ∀ e, 0 ≤ e → e < h → ¬ (fx (nxI h e) = fx e ∧ fy (nxI h e) = fy e)) (hgp : ∀ e c, (0 ≤ e ∧ e < h) → (0 ≤ c ∧ c < h) → (0 < gp h fx fy e c ↔ ¬ c = e ∧ ¬ c = nxI h e)) (hc : RCm M) : av_Mt E (d + 4) mX8_foolsNow [vR 35] M (fun res M' => res = some (vI (av_foo h)) ∧ (LFm M' h fx fy ∧ M' 35 0 ≤ 12 ∧ RQc M M' ∧ M' 35 7 = M 35 7)) := by
  have e7 : M 35 7 = (n : Int) := by rw [hL.1, hn]
  have cr0 := foo_r h3 hn8
  have ecv := foo_foo hn8
  have hcc := (hc n h3 hn8).2
  rw [ecv] at hcc
  have hend : ∀ M2 : av_M, LFm M2 h fx fy → M2 35 0 ≤ 12 → RQc M M2 → M2 35 7 = M 35 7 → (fun res M' => res = some (vI (av_foo h)) ∧ (LFm M' h fx fy ∧ M' 35 0 ≤ 12 ∧ RQc M M' ∧ M' 35 7 = M 35 7)) (some (vI ((fooN n : Nat) : Int))) M2 := fun M2 q1 q2 q3 q4 => ⟨by rw [hn, ecv], q1, q2, q3, q4⟩
  obtain ⟨tr, hrun⟩ := run_all h3 hn8
  refine av_enter hX8_foolsNow oX8_foolsNow rfl rfl ?_
  refine ax_aloadn rfl rfl ?_
  refine ax_getR rfl fX8_41 rfl rfl ?_
  refine ax_aloadn rfl rfl ?_
  refine ax_getI (g := 7) rfl fX8_131 rfl rfl rfl rfl ?_
  refine ax_iald rfl rfl (by rw [e7]; omega) ?_
  refine ax_if_ne rfl (by rw [e7]; omega) (fun h9 => ?_) (fun h9 => ?_)
  · refine ax_aloadn rfl rfl ?_
    refine ax_getR rfl fX8_41 rfl rfl ?_
    refine ax_aloadn rfl rfl ?_
    refine ax_getI (g := 7) rfl fX8_131 rfl rfl rfl rfl ?_
    refine ax_iald rfl rfl (by rw [e7]; omega) ?_
    refine ax_iret rfl rfl ?_
    have ev : M 46 (M 35 7) = ((fooN n : Nat) : Int) := by
      rw [e7] at h9 ⊢
      omega
    rw [ev]
    exact hend M hL h0 ((RQ.rf M).c hc) rfl
  · refine ax_aloadn rfl rfl ?_
    refine ax_callV (as := []) rfl vX8_162 hX8_layOpen rfl rfl rfl rfl rfl (c_X8_layOpen E d M h fx fy hL h0 n hn hn8 hne hgp) (fun r13 M13 hr13 => ?_)
    obtain ⟨rfl, p1, p2⟩ := hr13
    refine ax_aloadn rfl rfl ?_
    refine ax_callV (as := []) rfl vX8_175 hX8_layFooling rfl rfl rfl rfl rfl (c_X8_layFooling E (d + 2) M13 n hn8 p1.1 p1.2) (fun r17 M17 hr17 => ?_)
    obtain ⟨rfl, p3, p4⟩ := hr17
    have kk : ∀ k, k ≠ 35 → k ≠ 44 → k ≠ 49 → M17 k = M k := fun k q1 q2 q3 => by rw [p4 k q3, p2.2 k q1 q2]
    have kf : ∀ f, f ≠ 13 → M17 35 f = M 35 f := fun f q2 => by rw [p4 35 (by decide), p2.1 f q2]
    have k13 : M17 35 13 = ((aoV n : Nat) : Int) := by rw [p4 35 (by decide)]; exact p1.1
    refine ax_iconst rfl ?_
    refine ax_istoren (ls' := [(0, _), (1, _)]) rfl rfl rfl ?_
    refine ax_iconst rfl ?_
    refine ax_istoren (ls' := [(0, _), (1, _), (2, _)]) rfl rfl rfl ?_
    refine ax_aloadn rfl rfl ?_
    refine ax_getR rfl fX8_44 rfl rfl ?_
    refine ax_iconst rfl ?_
    refine ax_aloadn rfl rfl ?_
    refine ax_getL (g := 13) rfl fX8_151 rfl rfl rfl rfl ?_
    refine ax_last' rfl rfl (by omega) (fun M33 a33 b33 c33 => ?_)
    refine l_X8_foolsNow E (d + 2) n h3 hn8 M33 (fun a ha => by rw [c33 49 (by decide)]; exact p3 a ha) _ (fooN n) (fun M2 m2 => ?nx) tr 0 [aoV n] M33 hrun (by omega) (fun k _ => rfl) ⟨(show M33 47 0 = ((aoV n : Nat) : Int) from by rw [a33]; exact k13), ao_all n (by omega) n (Nat.le_refl _), trivial⟩ (by show 1 ≤ 62; omega)
    case nx =>
      have g : ∀ k, k ≠ 47 → M2 k = M17 k := fun k q => by rw [m2 k q, c33 k q]
      have g7 : M2 35 7 = (n : Int) := by rw [g 35 (by decide), kf 7 (by decide)]; exact e7
      refine ax_aloadn rfl rfl ?_
      refine ax_getR rfl fX8_41 rfl rfl ?_
      refine ax_aloadn rfl rfl ?_
      refine ax_getI (g := 7) rfl fX8_131 rfl rfl rfl rfl ?_
      refine ax_iloadn rfl rfl ?_
      refine ax_iast' rfl rfl (by rw [g7]; omega) (fun M142 a142 b142 c142 => ?_)
      refine ax_aloadn rfl rfl ?_
      refine ax_getR rfl fX8_41 rfl rfl ?_
      refine ax_aloadn rfl rfl ?_
      refine ax_getI (g := 7) rfl fX8_131 rfl rfl rfl rfl ?_
      refine ax_iald rfl rfl (by rw [c142 35 (by decide), g7]; omega) ?_
      refine ax_iret rfl rfl ?_
      rw [g7] at a142 b142
      have ev : M142 46 (M142 35 7) = ((fooN n : Nat) : Int) := by rw [c142 35 (by decide), g7]; exact a142
      rw [ev]
      have g35 : M142 35 = M17 35 := by rw [c142 35 (by decide), g 35 (by decide)]
      have gg : ∀ k, k ≠ 46 → k ≠ 47 → M142 k = M17 k := fun k q1 q2 => by rw [c142 k q1, g k q2]
      refine hend M142 (LFm_c hL (by rw [g35, kf 7 (by decide)]) (by rw [g35, kf 0 (by decide)]) (fun k a b => by rw [gg k (by omega) (by omega), kk k (by omega) (by omega) (by omega)])) (by rw [g35, kf 0 (by decide)]; exact h0) ⟨fun k q => by rw [gg k (by omega) (by omega), kk k (by omega) (by omega) (by omega)], fun f q => by rw [g35, kf f (by omega)], fun k q => by rw [gg k (by omega) (by omega), kk k (by omega) (by omega) (by omega)], fun i i3 i8 => ?_⟩ (by rw [g35, kf 7 (by decide)])
      rw [gg 45 (by decide) (by decide), kk 45 (by decide) (by decide) (by decide)]
      refine ⟨(hc i i3 i8).1, ?_⟩
      by_cases q : i = n
      · right
        rw [q, a142, ecv]
      · rw [b142 (i : Int) (by omega), g 46 (by decide), kk 46 (by decide) (by decide) (by decide)]
        exact (hc i i3 i8).2
set_option maxRecDepth 100000 in
set_option maxHeartbeats 800000 in
theorem c_X8_fools (E : av_E) (d : Nat) (M : av_M) (hP : RPm M) (h : Int) (fx fy : Int → Int) (hG : FG (M 35 0) (M 36) (M 37) h fx fy) (hc : RCm M) : av_Mt E (d + 8) mX8_fools [vR 35] M (fun res M' => res = some (vI (if 3 ≤ h ∧ h ≤ 8 then av_foo h else (-900000003))) ∧ RQc M M') := by
  refine av_enter hX8_fools oX8_fools rfl rfl ?_
  refine ax_aloadn rfl rfl ?_
  refine ax_callV (as := []) rfl vX8_181 hX8_mayBound rfl rfl rfl rfl rfl (c_X8_mayBound E (d + 1) M hP h fx fy hG) (fun r1 M1 hr1 => ?_)
  obtain ⟨rfl, hL, hk⟩ := hr1
  have hq := LFk.q hk
  have hL0 := hL
  obtain ⟨eh, h12, hcc⟩ := hL
  have hn0 := hP.1
  have e0 : M1 35 0 = M 35 0 := hk.1 0 (by decide)
  have bf := b01_c (3 ≤ h ∧ h ≤ 8)
  have hc1 := (hq.c hc).2.2.2
  refine ax_if_eq rfl (by omega) (fun h4 => ?_) (fun h4 => ?_)
  · refine ax_ldc (z := (-900000003)) rfl kX8_137 rfl ?_
    refine ax_iret rfl rfl ?_
    first
      | exact ⟨by rw [if_pos (by omega)], (hq.c hc).tr q3⟩
      | exact ⟨by rw [if_neg (by omega)], hq.c hc⟩
  · refine ax_aloadn rfl rfl ?_
    refine ax_callV (as := []) rfl vX8_188 hX8_foolsNow rfl rfl rfl rfl rfl (c_X8_foolsNow E (d + 3) M1 h fx fy hL0 (by omega) h.toNat (by omega) (by omega) (by omega) (fun e e0 e1 => FG_ne hG (by omega) e0 e1) (fun e c he hcx => gp_pos hG (by omega) he hcx) hc1) (fun r8 M8 hr8 => ?_)
    obtain ⟨rfl, q1, q2, q3, q4⟩ := hr8
    refine ax_goto rfl ?_
    refine ax_iret rfl rfl ?_
    first
      | exact ⟨by rw [if_pos (by omega)], (hq.c hc).tr q3⟩
      | exact ⟨by rw [if_neg (by omega)], hq.c hc⟩
