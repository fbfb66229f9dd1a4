/-! ===== the reference: tight walls; steps that go on ===== -/
set_option maxRecDepth 100000 in
set_option maxHeartbeats 800000 in
theorem l_X8_tightAt (E : av_E) (d : Nat) (M : av_M) (hR : RWm M) (set k : Int) (hset : 0 ≤ set ∧ set < 1024) (hk : 0 ≤ k ∧ k < 121) (hB : B3 (M 54 k) (M 55 k) (M 56 k) (M 57 k)) : ∀ (t : Nat) (n v : Int), n + t = M 35 23 → 0 ≤ n → bset (fun t : Nat => set.toNat.testBit t = true ∧ exI (rA M) (rB M) (rC M) (rD M) t (M 54 k) (M 55 k) (M 56 k) (M 57 k) = 0) n v → av_S E (d + 1) mX8_tightAt 5 [(0, vR 35), (1, vI set), (2, vI k), (3, vI v), (4, vI n)] [] M (fun res M' => (∃ v, res = some (vI v) ∧ bset (fun t : Nat => set.toNat.testBit t = true ∧ exI (rA M) (rB M) (rC M) (rD M) t (M 54 k) (M 55 k) (M 56 k) (M 57 k) = 0) (M 35 23) v) ∧ M' = M) := by
  have hs := hR.1
  intro t
  induction t with
  | zero =>
    intro n v hn n0 hb
    have en : n = M 35 23 := by omega
    subst en
    refine ax_iload rfl rfl ?_
    refine ax_aloadn rfl rfl ?_
    refine ax_getI (g := 23) rfl fX8_216 rfl rfl rfl rfl ?_
    refine ax_icmp_ge rfl (by omega) (by omega) (fun h11 => ?_) (fun h11 => ?_)
    · refine ax_iloadn rfl rfl ?_
      refine ax_iret rfl rfl ?_
      exact ⟨⟨v, rfl, hb⟩, rfl⟩
    · omega
  | succ t ih =>
    intro n v hn n0 hb
    have hv : 0 ≤ v ∧ v < 1024 := ⟨hb.1, hb.2.1⟩
    have hbit := bit_at hset.1 (show set < 2147483648 by omega) (show 0 ≤ n ∧ n < 31 by omega)
    have wb := hR.2.1 n n0 (by omega)
    have hB2 := hB
    unfold B3 at hB2
    have er := exI_rng wb.1 wb.2.1 wb.2.2.1 wb.2.2.2.1 hB2.1 hB2.2.1 hB2.2.2.1 (show 0 ≤ M 57 k ∧ M 57 k ≤ 5000 by omega)
    refine ax_iload rfl rfl ?_
    refine ax_aloadn rfl rfl ?_
    refine ax_getI (g := 23) rfl fX8_216 rfl rfl rfl rfl ?_
    refine ax_icmp_ge rfl (by omega) (by omega) (fun h11 => ?_) (fun h11 => ?_)
    · omega
    · refine ax_iloadn rfl rfl ?_
      refine ax_iloadn rfl rfl ?_
      refine ax_iload rfl rfl ?_
      refine ax_ishr rfl ?_
      refine ax_iconst rfl ?_
      refine ax_iand rfl ?_
      refine ax_iconst rfl ?_
      refine ax_icmp_ne rfl (by rw [hbit]; split <;> omega) (by omega) (fun h22 => ?_) (fun h22 => ?_)
      · refine ax_iconst rfl ?_
        refine ax_ior rfl ?_
        refine ax_istoren (ls' := [(0, _), (1, _), (2, _), (3, _), (4, _)]) rfl rfl rfl ?_
        refine ax_iinc (ls' := [(0, _), (1, _), (2, _), (3, _), (4, _)]) rfl rfl rfl rfl ?_
        refine ax_goto rfl ?_
        rw [hbit] at h22
        first
          | (have hs1 : set.toNat.testBit n.toNat = true := by
               apply Classical.byContradiction
               intro q
               rw [if_neg q] at h22
               omega
             obtain ⟨r, e1, e2⟩ := bset_in hb (by omega) (by
               show set.toNat.testBit n.toNat = true ∧ exI (rA M) (rB M) (rC M) (rD M) ((n.toNat : Nat) : Int) (M 54 k) (M 55 k) (M 56 k) (M 57 k) = 0
               rw [Int.toNat_of_nonneg n0]
               exact ⟨hs1, by omega⟩)
             rw [e1]
             exact ih _ _ (by omega) (by omega) e2)
          | (rw [bor0 hv]
             refine ih _ _ (by omega) (by omega) (bset_out hb n0 (fun q => ?_))
             have q2 : exI (rA M) (rB M) (rC M) (rD M) ((n.toNat : Nat) : Int) (M 54 k) (M 55 k) (M 56 k) (M 57 k) = 0 := q.2
             rw [Int.toNat_of_nonneg n0] at q2
             have q1 := q.1
             first
               | (rw [if_pos q1] at h22; omega)
               | omega)
      · refine ax_aloadn rfl rfl ?_
        refine ax_iload rfl rfl ?_
        refine ax_aloadn rfl rfl ?_
        refine ax_getR rfl fX8_73 rfl rfl ?_
        refine ax_iloadn rfl rfl ?_
        refine ax_lald rfl rfl (by omega) ?_
        refine ax_aloadn rfl rfl ?_
        refine ax_getR rfl fX8_76 rfl rfl ?_
        refine ax_iloadn rfl rfl ?_
        refine ax_lald rfl rfl (by omega) ?_
        refine ax_aloadn rfl rfl ?_
        refine ax_getR rfl fX8_79 rfl rfl ?_
        refine ax_iloadn rfl rfl ?_
        refine ax_lald rfl rfl (by omega) ?_
        refine ax_aloadn rfl rfl ?_
        refine ax_getR rfl fX8_82 rfl rfl ?_
        refine ax_iloadn rfl rfl ?_
        refine ax_lald rfl rfl (by omega) ?_
        refine ax_callV (as := [_, _, _, _, _]) rfl vX8_224 hX8_leaves rfl rfl rfl rfl rfl (c_X8_leaves E d M hR n _ _ _ _ (by omega)) (av_Xk ?_)
        refine ax_lconst (w := 0) rfl rfl ?_
        refine ax_lif_ne rfl rfl (by omega) (by omega) (fun h56 => ?_) (fun h56 => ?_)
        · refine ax_iconst rfl ?_
          refine ax_ior rfl ?_
          refine ax_istoren (ls' := [(0, _), (1, _), (2, _), (3, _), (4, _)]) rfl rfl rfl ?_
          refine ax_iinc (ls' := [(0, _), (1, _), (2, _), (3, _), (4, _)]) rfl rfl rfl rfl ?_
          refine ax_goto rfl ?_
          rw [hbit] at h22
          first
            | (have hs1 : set.toNat.testBit n.toNat = true := by
                 apply Classical.byContradiction
                 intro q
                 rw [if_neg q] at h22
                 omega
               obtain ⟨r, e1, e2⟩ := bset_in hb (by omega) (by
                 show set.toNat.testBit n.toNat = true ∧ exI (rA M) (rB M) (rC M) (rD M) ((n.toNat : Nat) : Int) (M 54 k) (M 55 k) (M 56 k) (M 57 k) = 0
                 rw [Int.toNat_of_nonneg n0]
                 exact ⟨hs1, by omega⟩)
               rw [e1]
               exact ih _ _ (by omega) (by omega) e2)
            | (rw [bor0 hv]
               refine ih _ _ (by omega) (by omega) (bset_out hb n0 (fun q => ?_))
               have q2 : exI (rA M) (rB M) (rC M) (rD M) ((n.toNat : Nat) : Int) (M 54 k) (M 55 k) (M 56 k) (M 57 k) = 0 := q.2
               rw [Int.toNat_of_nonneg n0] at q2
               have q1 := q.1
               first
                 | (rw [if_pos q1] at h22; omega)
                 | omega)
        · refine ax_iconst rfl ?_
          refine ax_iload rfl rfl ?_
          refine ax_ishl rfl ?_
          refine ax_goto rfl ?_
          refine ax_ior rfl ?_
          refine ax_istoren (ls' := [(0, _), (1, _), (2, _), (3, _), (4, _)]) rfl rfl rfl ?_
          refine ax_iinc (ls' := [(0, _), (1, _), (2, _), (3, _), (4, _)]) rfl rfl rfl rfl ?_
          refine ax_goto rfl ?_
          rw [hbit] at h22
          first
            | (have hs1 : set.toNat.testBit n.toNat = true := by
                 apply Classical.byContradiction
                 intro q
                 rw [if_neg q] at h22
                 omega
               obtain ⟨r, e1, e2⟩ := bset_in hb (by omega) (by
                 show set.toNat.testBit n.toNat = true ∧ exI (rA M) (rB M) (rC M) (rD M) ((n.toNat : Nat) : Int) (M 54 k) (M 55 k) (M 56 k) (M 57 k) = 0
                 rw [Int.toNat_of_nonneg n0]
                 exact ⟨hs1, by omega⟩)
               rw [e1]
               exact ih _ _ (by omega) (by omega) e2)
            | (rw [bor0 hv]
               refine ih _ _ (by omega) (by omega) (bset_out hb n0 (fun q => ?_))
               have q2 : exI (rA M) (rB M) (rC M) (rD M) ((n.toNat : Nat) : Int) (M 54 k) (M 55 k) (M 56 k) (M 57 k) = 0 := q.2
               rw [Int.toNat_of_nonneg n0] at q2
               have q1 := q.1
               first
                 | (rw [if_pos q1] at h22; omega)
                 | omega)
set_option maxRecDepth 100000 in
set_option maxHeartbeats 800000 in
theorem c_X8_tightAt (E : av_E) (d : Nat) (M : av_M) (hR : RWm M) (set k : Int) (hset : 0 ≤ set ∧ set < 1024) (hk : 0 ≤ k ∧ k < 121) (hB : B3 (M 54 k) (M 55 k) (M 56 k) (M 57 k)) : av_Mt E (d + 1) mX8_tightAt [vR 35, vI set, vI k] M (fun res M' => (∃ v, res = some (vI v) ∧ bset (fun t : Nat => set.toNat.testBit t = true ∧ exI (rA M) (rB M) (rC M) (rD M) t (M 54 k) (M 55 k) (M 56 k) (M 57 k) = 0) (M 35 23) v) ∧ M' = M) := by
  have hs := hR.1
  refine av_enter hX8_tightAt oX8_tightAt rfl rfl ?_
  refine ax_iconst rfl ?_
  refine ax_istoren (ls' := [(0, _), (1, _), (2, _), (3, _)]) rfl rfl rfl ?_
  refine ax_iconst rfl ?_
  refine ax_istore (ls' := [(0, _), (1, _), (2, _), (3, _), (4, _)]) rfl rfl rfl ?_
  exact l_X8_tightAt E d M hR set k hset hk hB (M 35 23).toNat 0 0 (by omega) (by omega) (bset_nil (by omega))
