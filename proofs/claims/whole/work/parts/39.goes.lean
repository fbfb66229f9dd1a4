/-! ===== the reference: steps that go on ===== -/
set_option maxRecDepth 100000 in
set_option maxHeartbeats 800000 in
theorem l_X8_goesOn (E : av_E) (d : Nat) (M : av_M) (hR : RWm M) (set x y z : Int) (hset : 0 ≤ set ∧ set < 1024) (hx : -200 ≤ x ∧ x ≤ 200) (hy : -200 ≤ y ∧ y ≤ 200) (hz : -200 ≤ z ∧ z ≤ 200) : ∀ (t : Nat) (n : Int), n + t = M 35 23 → 0 ≤ n → av_S E d mX8_goesOn 30 [(0, vR 35), (1, vI set), (2, vL x), (4, vL y), (6, vL z), (8, vI (b01 (¬ (x = 0 ∧ y = 0 ∧ z = 0) ∧ HnR M set x y z 0 n))), (9, vI n)] [] M (av_X (some (vI (b01 (¬ (x = 0 ∧ y = 0 ∧ z = 0) ∧ HnR M set x y z 0 (M 35 23))))) M) := by
  have hs := hR.1
  intro t
  induction t with
  | zero =>
    intro n hn n0
    have en : n = M 35 23 := by omega
    subst en
    have b := b01_rng (¬ (x = 0 ∧ y = 0 ∧ z = 0) ∧ HnR M set x y z 0 (M 35 23))
    refine ax_iload rfl rfl ?_
    refine ax_aloadn rfl rfl ?_
    refine ax_getI (g := 23) rfl fX8_216 rfl rfl rfl rfl ?_
    refine ax_icmp_ge rfl (by omega) (by omega) (fun h36 => ?_) (fun h36 => ?_)
    · refine ax_iload rfl rfl ?_
      refine ax_zret rfl rfl (by omega) ?_
      exact av_rI rfl
    · omega
  | succ t ih =>
    intro n hn n0
    have i2 := ih (n + 1) (by omega) (by omega)
    have b := b01_rng (¬ (x = 0 ∧ y = 0 ∧ z = 0) ∧ HnR M set x y z 0 n)
    have hb := bit_at hset.1 (show set < 2147483648 by omega) (show 0 ≤ n ∧ n < 31 by omega)
    have wb := hR.2.1 n n0 (by omega)
    have er := exI_rng (x := x) (y := y) (z := z) (w := 0) wb.1 wb.2.1 wb.2.2.1 wb.2.2.2.1 (by omega) (by omega) (by omega) (by omega)
    have ex : M 52 (4 * n) * x + M 52 (4 * n + 1) * y + M 52 (4 * n + 2) * z = exI (rA M) (rB M) (rC M) (rD M) n x y z 0 := by unfold exI rA rB rC; omega
    have b0 := hR.2.2.1 (4 * n) (by omega) (by omega)
    have b1 := hR.2.2.1 (4 * n + 1) (by omega) (by omega)
    have b2 := hR.2.2.1 (4 * n + 2) (by omega) (by omega)
    have st := HnR_s (M := M) (set := set) (x := x) (y := y) (z := z) (w := 0) n0
    refine ax_iload rfl rfl ?_
    refine ax_aloadn rfl rfl ?_
    refine ax_getI (g := 23) rfl fX8_216 rfl rfl rfl rfl ?_
    refine ax_icmp_ge rfl (by omega) (by omega) (fun h36 => ?_) (fun h36 => ?_)
    · omega
    · refine ax_iload rfl rfl ?_
      refine ax_if_eq rfl (by omega) (fun h41 => ?_) (fun h41 => ?_)
      · refine ax_iconst rfl ?_
        refine ax_istore (ls' := [(0, _), (1, _), (2, _), (4, _), (6, _), (8, _), (9, _)]) rfl rfl rfl ?_
        refine ax_iinc (ls' := [(0, _), (1, _), (2, _), (4, _), (6, _), (8, _), (9, _)]) rfl rfl rfl rfl ?_
        refine ax_goto rfl ?_
        first
          | (have e : b01 (¬ (x = 0 ∧ y = 0 ∧ z = 0) ∧ HnR M set x y z 0 (n + 1)) = 0 := b01_f (fun q => b01_eq h41 ⟨q.1, (st.mp q.2).1⟩)
             rw [e] at i2
             exact i2)
          | (have e : b01 (¬ (x = 0 ∧ y = 0 ∧ z = 0) ∧ HnR M set x y z 0 (n + 1)) = 1 := b01_t ⟨(b01_ne h41).1, st.mpr ⟨(b01_ne h41).2, fun q => by rw [hb, if_pos q] at h50; omega⟩⟩
             rw [e] at i2
             exact i2)
          | (have e : b01 (¬ (x = 0 ∧ y = 0 ∧ z = 0) ∧ HnR M set x y z 0 (n + 1)) = 1 := b01_t ⟨(b01_ne h41).1, st.mpr ⟨(b01_ne h41).2, fun q => by omega⟩⟩
             rw [e] at i2
             exact i2)
          | (have e : b01 (¬ (x = 0 ∧ y = 0 ∧ z = 0) ∧ HnR M set x y z 0 (n + 1)) = 0 := b01_f (fun q => by
               have q2 := (st.mp q.2).2 (by
                 apply Classical.byContradiction
                 intro c
                 rw [hb, if_neg c] at h50
                 omega)
               omega)
             rw [e] at i2
             exact i2)
      · refine ax_iloadn rfl rfl ?_
        refine ax_iload rfl rfl ?_
        refine ax_ishr rfl ?_
        refine ax_iconst rfl ?_
        refine ax_iand rfl ?_
        refine ax_if_eq rfl (by rw [hb]; split <;> omega) (fun h50 => ?_) (fun h50 => ?_)
        · refine ax_iconst rfl ?_
          refine ax_goto rfl ?_
          refine ax_istore (ls' := [(0, _), (1, _), (2, _), (4, _), (6, _), (8, _), (9, _)]) rfl rfl rfl ?_
          refine ax_iinc (ls' := [(0, _), (1, _), (2, _), (4, _), (6, _), (8, _), (9, _)]) rfl rfl rfl rfl ?_
          refine ax_goto rfl ?_
          first
            | (have e : b01 (¬ (x = 0 ∧ y = 0 ∧ z = 0) ∧ HnR M set x y z 0 (n + 1)) = 0 := b01_f (fun q => b01_eq h41 ⟨q.1, (st.mp q.2).1⟩)
               rw [e] at i2
               exact i2)
            | (have e : b01 (¬ (x = 0 ∧ y = 0 ∧ z = 0) ∧ HnR M set x y z 0 (n + 1)) = 1 := b01_t ⟨(b01_ne h41).1, st.mpr ⟨(b01_ne h41).2, fun q => by rw [hb, if_pos q] at h50; omega⟩⟩
               rw [e] at i2
               exact i2)
            | (have e : b01 (¬ (x = 0 ∧ y = 0 ∧ z = 0) ∧ HnR M set x y z 0 (n + 1)) = 1 := b01_t ⟨(b01_ne h41).1, st.mpr ⟨(b01_ne h41).2, fun q => by omega⟩⟩
               rw [e] at i2
               exact i2)
            | (have e : b01 (¬ (x = 0 ∧ y = 0 ∧ z = 0) ∧ HnR M set x y z 0 (n + 1)) = 0 := b01_f (fun q => by
                 have q2 := (st.mp q.2).2 (by
                   apply Classical.byContradiction
                   intro c
                   rw [hb, if_neg c] at h50
                   omega)
                 omega)
               rw [e] at i2
               exact i2)
        · refine ax_aloadn rfl rfl ?_
          refine ax_getR rfl fX8_66 rfl rfl ?_
          refine ax_iconst rfl ?_
          refine ax_iload rfl rfl ?_
          refine ax_imul rfl ?_
          refine ax_iald rfl rfl (by omega) ?_
          refine ax_i2l rfl (by omega) ?_
          refine ax_lloadn rfl rfl ?_
          refine ax_lmul rfl ?_
          refine ax_aloadn rfl rfl ?_
          refine ax_getR rfl fX8_66 rfl rfl ?_
          refine ax_iconst rfl ?_
          refine ax_iload rfl rfl ?_
          refine ax_imul rfl ?_
          refine ax_iconst rfl ?_
          refine ax_iadd rfl ?_
          refine ax_iald rfl rfl (by omega) ?_
          refine ax_i2l rfl (by omega) ?_
          refine ax_lload rfl rfl ?_
          refine ax_lmul rfl ?_
          refine ax_ladd rfl ?_
          refine ax_aloadn rfl rfl ?_
          refine ax_getR rfl fX8_66 rfl rfl ?_
          refine ax_iconst rfl ?_
          refine ax_iload rfl rfl ?_
          refine ax_imul rfl ?_
          refine ax_iconst rfl ?_
          refine ax_iadd rfl ?_
          refine ax_iald rfl rfl (by omega) ?_
          refine ax_i2l rfl (by omega) ?_
          refine ax_lload rfl rfl ?_
          refine ax_lmul rfl ?_
          refine ax_ladd rfl ?_
          refine ax_lconst (w := 0) rfl rfl ?_
          refine ax_lif_gt rfl rfl (by omega) (by omega) (fun h98 => ?_) (fun h98 => ?_)
          · refine ax_iconst rfl ?_
            refine ax_istore (ls' := [(0, _), (1, _), (2, _), (4, _), (6, _), (8, _), (9, _)]) rfl rfl rfl ?_
            refine ax_iinc (ls' := [(0, _), (1, _), (2, _), (4, _), (6, _), (8, _), (9, _)]) rfl rfl rfl rfl ?_
            refine ax_goto rfl ?_
            first
              | (have e : b01 (¬ (x = 0 ∧ y = 0 ∧ z = 0) ∧ HnR M set x y z 0 (n + 1)) = 0 := b01_f (fun q => b01_eq h41 ⟨q.1, (st.mp q.2).1⟩)
                 rw [e] at i2
                 exact i2)
              | (have e : b01 (¬ (x = 0 ∧ y = 0 ∧ z = 0) ∧ HnR M set x y z 0 (n + 1)) = 1 := b01_t ⟨(b01_ne h41).1, st.mpr ⟨(b01_ne h41).2, fun q => by rw [hb, if_pos q] at h50; omega⟩⟩
                 rw [e] at i2
                 exact i2)
              | (have e : b01 (¬ (x = 0 ∧ y = 0 ∧ z = 0) ∧ HnR M set x y z 0 (n + 1)) = 1 := b01_t ⟨(b01_ne h41).1, st.mpr ⟨(b01_ne h41).2, fun q => by omega⟩⟩
                 rw [e] at i2
                 exact i2)
              | (have e : b01 (¬ (x = 0 ∧ y = 0 ∧ z = 0) ∧ HnR M set x y z 0 (n + 1)) = 0 := b01_f (fun q => by
                   have q2 := (st.mp q.2).2 (by
                     apply Classical.byContradiction
                     intro c
                     rw [hb, if_neg c] at h50
                     omega)
                   omega)
                 rw [e] at i2
                 exact i2)
          · refine ax_iconst rfl ?_
            refine ax_goto rfl ?_
            refine ax_istore (ls' := [(0, _), (1, _), (2, _), (4, _), (6, _), (8, _), (9, _)]) rfl rfl rfl ?_
            refine ax_iinc (ls' := [(0, _), (1, _), (2, _), (4, _), (6, _), (8, _), (9, _)]) rfl rfl rfl rfl ?_
            refine ax_goto rfl ?_
            first
              | (have e : b01 (¬ (x = 0 ∧ y = 0 ∧ z = 0) ∧ HnR M set x y z 0 (n + 1)) = 0 := b01_f (fun q => b01_eq h41 ⟨q.1, (st.mp q.2).1⟩)
                 rw [e] at i2
                 exact i2)
              | (have e : b01 (¬ (x = 0 ∧ y = 0 ∧ z = 0) ∧ HnR M set x y z 0 (n + 1)) = 1 := b01_t ⟨(b01_ne h41).1, st.mpr ⟨(b01_ne h41).2, fun q => by rw [hb, if_pos q] at h50; omega⟩⟩
                 rw [e] at i2
                 exact i2)
              | (have e : b01 (¬ (x = 0 ∧ y = 0 ∧ z = 0) ∧ HnR M set x y z 0 (n + 1)) = 1 := b01_t ⟨(b01_ne h41).1, st.mpr ⟨(b01_ne h41).2, fun q => by omega⟩⟩
                 rw [e] at i2
                 exact i2)
              | (have e : b01 (¬ (x = 0 ∧ y = 0 ∧ z = 0) ∧ HnR M set x y z 0 (n + 1)) = 0 := b01_f (fun q => by
                   have q2 := (st.mp q.2).2 (by
                     apply Classical.byContradiction
                     intro c
                     rw [hb, if_neg c] at h50
                     omega)
                   omega)
                 rw [e] at i2
                 exact i2)
set_option maxRecDepth 100000 in
set_option maxHeartbeats 800000 in
theorem c_X8_goesOn (E : av_E) (d : Nat) (M : av_M) (hR : RWm M) (set x y z : Int) (hset : 0 ≤ set ∧ set < 1024) (hx : -200 ≤ x ∧ x ≤ 200) (hy : -200 ≤ y ∧ y ≤ 200) (hz : -200 ≤ z ∧ z ≤ 200) : av_Mt E d mX8_goesOn [vR 35, vI set, vL x, vL y, vL z] M (av_X (some (vI (b01 (¬ (x = 0 ∧ y = 0 ∧ z = 0) ∧ HnR M set x y z 0 (M 35 23))))) M) := by
  have hs := hR.1
  have k := l_X8_goesOn E d M hR set x y z hset hx hy hz (M 35 23).toNat 0 (by omega) (by omega)
  refine av_enter hX8_goesOn oX8_goesOn rfl rfl ?_
  refine ax_lloadn rfl rfl ?_
  refine ax_lconst (w := 0) rfl rfl ?_
  refine ax_lif_ne rfl rfl (by omega) (by omega) (fun h2 => ?_) (fun h2 => ?_)
  · refine ax_iconst rfl ?_
    refine ax_goto rfl ?_
    refine ax_istore (ls' := [(0, _), (1, _), (2, _), (4, _), (6, _), (8, _)]) rfl rfl rfl ?_
    refine ax_iconst rfl ?_
    refine ax_istore (ls' := [(0, _), (1, _), (2, _), (4, _), (6, _), (8, _), (9, _)]) rfl rfl rfl ?_
    first
      | (have e : b01 (¬ (x = 0 ∧ y = 0 ∧ z = 0) ∧ HnR M set x y z 0 0) = 1 := b01_t ⟨by omega, HnR_0 M set x y z 0⟩
         rw [e] at k
         exact k)
      | (have e : b01 (¬ (x = 0 ∧ y = 0 ∧ z = 0) ∧ HnR M set x y z 0 0) = 0 := b01_f (fun q => q.1 ⟨by omega, by omega, by omega⟩)
         rw [e] at k
         exact k)
  · refine ax_lload rfl rfl ?_
    refine ax_lconst (w := 0) rfl rfl ?_
    refine ax_lif_ne rfl rfl (by omega) (by omega) (fun h9 => ?_) (fun h9 => ?_)
    · refine ax_iconst rfl ?_
      refine ax_goto rfl ?_
      refine ax_istore (ls' := [(0, _), (1, _), (2, _), (4, _), (6, _), (8, _)]) rfl rfl rfl ?_
      refine ax_iconst rfl ?_
      refine ax_istore (ls' := [(0, _), (1, _), (2, _), (4, _), (6, _), (8, _), (9, _)]) rfl rfl rfl ?_
      first
        | (have e : b01 (¬ (x = 0 ∧ y = 0 ∧ z = 0) ∧ HnR M set x y z 0 0) = 1 := b01_t ⟨by omega, HnR_0 M set x y z 0⟩
           rw [e] at k
           exact k)
        | (have e : b01 (¬ (x = 0 ∧ y = 0 ∧ z = 0) ∧ HnR M set x y z 0 0) = 0 := b01_f (fun q => q.1 ⟨by omega, by omega, by omega⟩)
           rw [e] at k
           exact k)
    · refine ax_lload rfl rfl ?_
      refine ax_lconst (w := 0) rfl rfl ?_
      refine ax_lif_eq rfl rfl (by omega) (by omega) (fun h16 => ?_) (fun h16 => ?_)
      · refine ax_iconst rfl ?_
        refine ax_istore (ls' := [(0, _), (1, _), (2, _), (4, _), (6, _), (8, _)]) rfl rfl rfl ?_
        refine ax_iconst rfl ?_
        refine ax_istore (ls' := [(0, _), (1, _), (2, _), (4, _), (6, _), (8, _), (9, _)]) rfl rfl rfl ?_
        first
          | (have e : b01 (¬ (x = 0 ∧ y = 0 ∧ z = 0) ∧ HnR M set x y z 0 0) = 1 := b01_t ⟨by omega, HnR_0 M set x y z 0⟩
             rw [e] at k
             exact k)
          | (have e : b01 (¬ (x = 0 ∧ y = 0 ∧ z = 0) ∧ HnR M set x y z 0 0) = 0 := b01_f (fun q => q.1 ⟨by omega, by omega, by omega⟩)
             rw [e] at k
             exact k)
      · refine ax_iconst rfl ?_
        refine ax_goto rfl ?_
        refine ax_istore (ls' := [(0, _), (1, _), (2, _), (4, _), (6, _), (8, _)]) rfl rfl rfl ?_
        refine ax_iconst rfl ?_
        refine ax_istore (ls' := [(0, _), (1, _), (2, _), (4, _), (6, _), (8, _), (9, _)]) rfl rfl rfl ?_
        first
          | (have e : b01 (¬ (x = 0 ∧ y = 0 ∧ z = 0) ∧ HnR M set x y z 0 0) = 1 := b01_t ⟨by omega, HnR_0 M set x y z 0⟩
             rw [e] at k
             exact k)
          | (have e : b01 (¬ (x = 0 ∧ y = 0 ∧ z = 0) ∧ HnR M set x y z 0 0) = 0 := b01_f (fun q => q.1 ⟨by omega, by omega, by omega⟩)
             rw [e] at k
             exact k)
