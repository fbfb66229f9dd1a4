/-! ===== the reference: isSound, the loops ===== -/
set_option maxRecDepth 100000 in
set_option maxHeartbeats 800000 in
theorem l2_X8_isSound (E : av_E) (d : Nat) (M : av_M) (hR : RWm M) (set : Int) (hset : 0 ≤ set ∧ set < 1024) (u : Int) (hu : 0 ≤ u ∧ u < M 35 23) (nxt : av_S E (d + 1) mX8_isSound 20 [(0, vR 35), (1, vI set), (2, vI (b01 (SPu M set (u + 1) 0))), (3, vI (u + 1))] [] M (av_X (some (vI (b01 (SPu M set (M 35 23) 0)))) M)) : ∀ (t : Nat) (v : Int), v + t = M 35 23 → 0 ≤ v → av_S E (d + 1) mX8_isSound 35 [(0, vR 35), (1, vI set), (2, vI (b01 (SPu M set u v))), (3, vI u), (4, vI v)] [] M (av_X (some (vI (b01 (SPu M set (M 35 23) 0)))) M) := by
  have hs := hR.1
  intro t
  induction t with
  | zero =>
    intro v hv v0
    have e := b01_iff (SPu_n (M := M) (set := set) (u := u) (v := v) (by omega))
    rw [e] at nxt
    refine ax_iload rfl rfl ?_
    refine ax_aloadn rfl rfl ?_
    refine ax_getI (g := 23) rfl fX8_216 rfl rfl rfl rfl ?_
    refine ax_icmp_ge rfl (by omega) (by omega) (fun h41 => ?_) (fun h41 => ?_)
    · refine ax_iinc (ls' := [(0, _), (1, _), (2, _), (3, _), (4, _)]) rfl rfl rfl rfl ?_
      refine ax_goto rfl ?_
      refine ax_pick [0, 1, 2, 3] rfl ?_
      exact nxt
    · omega
  | succ t ih =>
    intro v hv v0
    have i2 := ih (v + 1) (by omega) (by omega)
    have b := b01_rng (SPu M set u v)
    have st := SPu_s (M := M) (set := set) hu (show 0 ≤ v ∧ v < M 35 23 by omega)
    have duo := duo_bit hset (show 0 ≤ u ∧ u < 10 by omega) (show 0 ≤ v ∧ v < 10 by omega)
    have wu := hR.2.1 u hu.1 hu.2
    have wv := hR.2.1 v v0 (by omega)
    unfold rA rB rC at wu wv
    have m1 := mb wu.2.1 wv.2.2.1
    have m2 := mb wu.2.2.1 wv.2.1
    have m3 := mb wu.2.2.1 wv.1
    have m4 := mb wu.1 wv.2.2.1
    have m5 := mb wu.1 wv.2.1
    have m6 := mb wu.2.1 wv.1
    have eX : M 52 (4 * u + 1) * M 52 (4 * v + 2) - M 52 (4 * u + 2) * M 52 (4 * v + 1) = cX M u v := rfl
    have eY : M 52 (4 * u + 2) * M 52 (4 * v) - M 52 (4 * u) * M 52 (4 * v + 2) = cY M u v := rfl
    have eZ : M 52 (4 * u) * M 52 (4 * v + 1) - M 52 (4 * u + 1) * M 52 (4 * v) = cZ M u v := rfl
    have bg := b01_rng (¬ (cX M u v = 0 ∧ cY M u v = 0 ∧ cZ M u v = 0) ∧ HnR M set (cX M u v) (cY M u v) (cZ M u v) 0 (M 35 23))
    refine ax_iload rfl rfl ?_
    refine ax_aloadn rfl rfl ?_
    refine ax_getI (g := 23) rfl fX8_216 rfl rfl rfl rfl ?_
    refine ax_icmp_ge rfl (by omega) (by omega) (fun h41 => ?_) (fun h41 => ?_)
    · refine ax_iinc (ls' := [(0, _), (1, _), (2, _), (3, _), (4, _)]) rfl rfl rfl rfl ?_
      refine ax_goto rfl ?_
      refine ax_pick [0, 1, 2, 3] rfl ?_
      first
        | omega
        | (have z1 : b01 (SPu M set u v) = 0 := by omega
           have z2 : b01 (SPu M set (u + 1) 0) = 0 := b01_f (fun q => b01_eq z1 (SPu_w q (by omega)))
           rw [z2] at nxt
           rw [z1]
           exact nxt)
    · refine ax_iloadn rfl rfl ?_
      refine ax_if_eq rfl (by omega) (fun h45 => ?_) (fun h45 => ?_)
      · refine ax_iinc (ls' := [(0, _), (1, _), (2, _), (3, _), (4, _)]) rfl rfl rfl rfl ?_
        refine ax_goto rfl ?_
        refine ax_pick [0, 1, 2, 3] rfl ?_
        first
          | omega
          | (have z1 : b01 (SPu M set u v) = 0 := by omega
             have z2 : b01 (SPu M set (u + 1) 0) = 0 := b01_f (fun q => b01_eq z1 (SPu_w q (by omega)))
             rw [z2] at nxt
             rw [z1]
             exact nxt)
      · refine ax_iloadn rfl rfl ?_
        refine ax_iloadn rfl rfl ?_
        refine ax_ishr rfl ?_
        refine ax_iloadn rfl rfl ?_
        refine ax_iload rfl rfl ?_
        refine ax_ishr rfl ?_
        refine ax_iand rfl ?_
        refine ax_iconst rfl ?_
        refine ax_iand rfl ?_
        refine ax_iconst rfl ?_
        refine ax_icmp_ne rfl (by rw [duo]; split <;> omega) (by omega) (fun h59 => ?_) (fun h59 => ?_)
        · refine ax_iinc (ls' := [(0, _), (1, _), (2, _), (3, _), (4, _)]) rfl rfl rfl rfl ?_
          refine ax_goto rfl ?_
          refine ax_pick [0, 1, 2, 3, 4] rfl ?_
          have hon : b01 (SPu M set u v) = 1 := by omega
          have hSP := b01_ne (P := SPu M set u v) (by omega)
          first
            | (have z : b01 (SPu M set u (v + 1)) = 0 := b01_f (fun q => (st.mp q).2 ⟨by
                 apply Classical.byContradiction
                 intro c
                 rw [duo, if_neg c] at h59
                 omega, by omega, b01_ne h215⟩)
               rw [z] at i2
               exact i2)
            | (have z : b01 (SPu M set u (v + 1)) = 1 := b01_t (st.mpr ⟨hSP, fun g => b01_eq (show b01 (¬ (cX M u v = 0 ∧ cY M u v = 0 ∧ cZ M u v = 0) ∧ HnR M set (cX M u v) (cY M u v) (cZ M u v) 0 (M 35 23)) = 0 by omega) g.2.2⟩)
               rw [z] at i2
               exact i2)
            | (have z : b01 (SPu M set u (v + 1)) = 1 := b01_t (st.mpr ⟨hSP, fun g => g.2.1 (by omega)⟩)
               rw [z] at i2
               rw [hon]
               exact i2)
            | (have z : b01 (SPu M set u (v + 1)) = 1 := b01_t (st.mpr ⟨hSP, fun g => by
                 rw [duo, if_pos g.1] at h59
                 omega⟩)
               rw [z] at i2
               rw [hon]
               exact i2)
        · refine ax_iloadn rfl rfl ?_
          refine ax_iload rfl rfl ?_
          refine ax_icmp_eq rfl (by omega) (by omega) (fun h65 => ?_) (fun h65 => ?_)
          · refine ax_iinc (ls' := [(0, _), (1, _), (2, _), (3, _), (4, _)]) rfl rfl rfl rfl ?_
            refine ax_goto rfl ?_
            refine ax_pick [0, 1, 2, 3, 4] rfl ?_
            have hon : b01 (SPu M set u v) = 1 := by omega
            have hSP := b01_ne (P := SPu M set u v) (by omega)
            first
              | (have z : b01 (SPu M set u (v + 1)) = 0 := b01_f (fun q => (st.mp q).2 ⟨by
                   apply Classical.byContradiction
                   intro c
                   rw [duo, if_neg c] at h59
                   omega, by omega, b01_ne h215⟩)
                 rw [z] at i2
                 exact i2)
              | (have z : b01 (SPu M set u (v + 1)) = 1 := b01_t (st.mpr ⟨hSP, fun g => b01_eq (show b01 (¬ (cX M u v = 0 ∧ cY M u v = 0 ∧ cZ M u v = 0) ∧ HnR M set (cX M u v) (cY M u v) (cZ M u v) 0 (M 35 23)) = 0 by omega) g.2.2⟩)
                 rw [z] at i2
                 exact i2)
              | (have z : b01 (SPu M set u (v + 1)) = 1 := b01_t (st.mpr ⟨hSP, fun g => g.2.1 (by omega)⟩)
                 rw [z] at i2
                 rw [hon]
                 exact i2)
              | (have z : b01 (SPu M set u (v + 1)) = 1 := b01_t (st.mpr ⟨hSP, fun g => by
                   rw [duo, if_pos g.1] at h59
                   omega⟩)
                 rw [z] at i2
                 rw [hon]
                 exact i2)
          · refine ax_aloadn rfl rfl ?_
            refine ax_getR rfl fX8_66 rfl rfl ?_
            refine ax_iconst rfl ?_
            refine ax_iloadn rfl rfl ?_
            refine ax_imul rfl ?_
            refine ax_iconst rfl ?_
            refine ax_iadd rfl ?_
            refine ax_iald rfl rfl (by omega) ?_
            refine ax_aloadn rfl rfl ?_
            refine ax_getR rfl fX8_66 rfl rfl ?_
            refine ax_iconst rfl ?_
            refine ax_iload rfl rfl ?_
            refine ax_imul rfl ?_
            refine ax_iconst rfl ?_
            refine ax_iadd rfl ?_
            refine ax_iald rfl rfl (by omega) ?_
            refine ax_imul rfl ?_
            refine ax_aloadn rfl rfl ?_
            refine ax_getR rfl fX8_66 rfl rfl ?_
            refine ax_iconst rfl ?_
            refine ax_iloadn rfl rfl ?_
            refine ax_imul rfl ?_
            refine ax_iconst rfl ?_
            refine ax_iadd rfl ?_
            refine ax_iald rfl rfl (by omega) ?_
            refine ax_aloadn rfl rfl ?_
            refine ax_getR rfl fX8_66 rfl rfl ?_
            refine ax_iconst rfl ?_
            refine ax_iload rfl rfl ?_
            refine ax_imul rfl ?_
            refine ax_iconst rfl ?_
            refine ax_iadd rfl ?_
            refine ax_iald rfl rfl (by omega) ?_
            refine ax_imul rfl ?_
            refine ax_isub rfl ?_
            refine ax_i2l rfl (by omega) ?_
            refine ax_lstore (ls' := [(0, _), (1, _), (2, _), (3, _), (4, _), (5, _)]) rfl rfl rfl ?_
            refine ax_aloadn rfl rfl ?_
            refine ax_getR rfl fX8_66 rfl rfl ?_
            refine ax_iconst rfl ?_
            refine ax_iloadn rfl rfl ?_
            refine ax_imul rfl ?_
            refine ax_iconst rfl ?_
            refine ax_iadd rfl ?_
            refine ax_iald rfl rfl (by omega) ?_
            refine ax_aloadn rfl rfl ?_
            refine ax_getR rfl fX8_66 rfl rfl ?_
            refine ax_iconst rfl ?_
            refine ax_iload rfl rfl ?_
            refine ax_imul rfl ?_
            refine ax_iald rfl rfl (by omega) ?_
            refine ax_imul rfl ?_
            refine ax_aloadn rfl rfl ?_
            refine ax_getR rfl fX8_66 rfl rfl ?_
            refine ax_iconst rfl ?_
            refine ax_iloadn rfl rfl ?_
            refine ax_imul rfl ?_
            refine ax_iald rfl rfl (by omega) ?_
            refine ax_aloadn rfl rfl ?_
            refine ax_getR rfl fX8_66 rfl rfl ?_
            refine ax_iconst rfl ?_
            refine ax_iload rfl rfl ?_
            refine ax_imul rfl ?_
            refine ax_iconst rfl ?_
            refine ax_iadd rfl ?_
            refine ax_iald rfl rfl (by omega) ?_
            refine ax_imul rfl ?_
            refine ax_isub rfl ?_
            refine ax_i2l rfl (by omega) ?_
            refine ax_lstore (ls' := [(0, _), (1, _), (2, _), (3, _), (4, _), (5, _), (7, _)]) rfl rfl rfl ?_
            refine ax_aloadn rfl rfl ?_
            refine ax_getR rfl fX8_66 rfl rfl ?_
            refine ax_iconst rfl ?_
            refine ax_iloadn rfl rfl ?_
            refine ax_imul rfl ?_
            refine ax_iald rfl rfl (by omega) ?_
            refine ax_aloadn rfl rfl ?_
            refine ax_getR rfl fX8_66 rfl rfl ?_
            refine ax_iconst rfl ?_
            refine ax_iload rfl rfl ?_
            refine ax_imul rfl ?_
            refine ax_iconst rfl ?_
            refine ax_iadd rfl ?_
            refine ax_iald rfl rfl (by omega) ?_
            refine ax_imul rfl ?_
            refine ax_aloadn rfl rfl ?_
            refine ax_getR rfl fX8_66 rfl rfl ?_
            refine ax_iconst rfl ?_
            refine ax_iloadn rfl rfl ?_
            refine ax_imul rfl ?_
            refine ax_iconst rfl ?_
            refine ax_iadd rfl ?_
            refine ax_iald rfl rfl (by omega) ?_
            refine ax_aloadn rfl rfl ?_
            refine ax_getR rfl fX8_66 rfl rfl ?_
            refine ax_iconst rfl ?_
            refine ax_iload rfl rfl ?_
            refine ax_imul rfl ?_
            refine ax_iald rfl rfl (by omega) ?_
            refine ax_imul rfl ?_
            refine ax_isub rfl ?_
            refine ax_i2l rfl (by omega) ?_
            refine ax_lstore (ls' := [(0, _), (1, _), (2, _), (3, _), (4, _), (5, _), (7, _), (9, _)]) rfl rfl rfl ?_
            refine ax_aloadn rfl rfl ?_
            refine ax_iloadn rfl rfl ?_
            refine ax_lload rfl rfl ?_
            refine ax_lload rfl rfl ?_
            refine ax_lload rfl rfl ?_
            refine ax_callV (as := [_, _, _, _]) rfl vX8_251 hX8_goesOn rfl rfl rfl rfl rfl (c_X8_goesOn E d M hR set (cX M u v) (cY M u v) (cZ M u v) hset (by omega) (by omega) (by omega)) (av_Xk ?_)
            refine ax_if_ne rfl (by omega) (fun h215 => ?_) (fun h215 => ?_)
            · refine ax_iconst rfl ?_
              refine ax_istoren (ls' := [(0, _), (1, _), (2, _), (3, _), (4, _), (5, _), (7, _), (9, _)]) rfl rfl rfl ?_
              refine ax_iinc (ls' := [(0, _), (1, _), (2, _), (3, _), (4, _), (5, _), (7, _), (9, _)]) rfl rfl rfl rfl ?_
              refine ax_goto rfl ?_
              refine ax_pick [0, 1, 2, 3, 4] rfl ?_
              have hon : b01 (SPu M set u v) = 1 := by omega
              have hSP := b01_ne (P := SPu M set u v) (by omega)
              first
                | (have z : b01 (SPu M set u (v + 1)) = 0 := b01_f (fun q => (st.mp q).2 ⟨by
                     apply Classical.byContradiction
                     intro c
                     rw [duo, if_neg c] at h59
                     omega, by omega, b01_ne h215⟩)
                   rw [z] at i2
                   exact i2)
                | (have z : b01 (SPu M set u (v + 1)) = 1 := b01_t (st.mpr ⟨hSP, fun g => b01_eq (show b01 (¬ (cX M u v = 0 ∧ cY M u v = 0 ∧ cZ M u v = 0) ∧ HnR M set (cX M u v) (cY M u v) (cZ M u v) 0 (M 35 23)) = 0 by omega) g.2.2⟩)
                   rw [z] at i2
                   exact i2)
                | (have z : b01 (SPu M set u (v + 1)) = 1 := b01_t (st.mpr ⟨hSP, fun g => g.2.1 (by omega)⟩)
                   rw [z] at i2
                   rw [hon]
                   exact i2)
                | (have z : b01 (SPu M set u (v + 1)) = 1 := b01_t (st.mpr ⟨hSP, fun g => by
                     rw [duo, if_pos g.1] at h59
                     omega⟩)
                   rw [z] at i2
                   rw [hon]
                   exact i2)
            · refine ax_iconst rfl ?_
              refine ax_goto rfl ?_
              refine ax_istoren (ls' := [(0, _), (1, _), (2, _), (3, _), (4, _), (5, _), (7, _), (9, _)]) rfl rfl rfl ?_
              refine ax_iinc (ls' := [(0, _), (1, _), (2, _), (3, _), (4, _), (5, _), (7, _), (9, _)]) rfl rfl rfl rfl ?_
              refine ax_goto rfl ?_
              refine ax_pick [0, 1, 2, 3, 4] rfl ?_
              have hon : b01 (SPu M set u v) = 1 := by omega
              have hSP := b01_ne (P := SPu M set u v) (by omega)
              first
                | (have z : b01 (SPu M set u (v + 1)) = 0 := b01_f (fun q => (st.mp q).2 ⟨by
                     apply Classical.byContradiction
                     intro c
                     rw [duo, if_neg c] at h59
                     omega, by omega, b01_ne h215⟩)
                   rw [z] at i2
                   exact i2)
                | (have z : b01 (SPu M set u (v + 1)) = 1 := b01_t (st.mpr ⟨hSP, fun g => b01_eq (show b01 (¬ (cX M u v = 0 ∧ cY M u v = 0 ∧ cZ M u v = 0) ∧ HnR M set (cX M u v) (cY M u v) (cZ M u v) 0 (M 35 23)) = 0 by omega) g.2.2⟩)
                   rw [z] at i2
                   exact i2)
                | (have z : b01 (SPu M set u (v + 1)) = 1 := b01_t (st.mpr ⟨hSP, fun g => g.2.1 (by omega)⟩)
                   rw [z] at i2
                   rw [hon]
                   exact i2)
                | (have z : b01 (SPu M set u (v + 1)) = 1 := b01_t (st.mpr ⟨hSP, fun g => by
                     rw [duo, if_pos g.1] at h59
                     omega⟩)
                   rw [z] at i2
                   rw [hon]
                   exact i2)
