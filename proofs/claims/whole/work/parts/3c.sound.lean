/-! ===== the reference: isSound ===== -/
set_option maxRecDepth 100000 in
set_option maxHeartbeats 800000 in
theorem l1_X8_isSound (E : av_E) (d : Nat) (M : av_M) (hR : RWm M) (set : Int) (hset : 0 ≤ set ∧ set < 1024) : ∀ (t : Nat) (u : Int), u + t = M 35 23 → 0 ≤ u → av_S E (d + 1) mX8_isSound 20 [(0, vR 35), (1, vI set), (2, vI (b01 (SPu M set u 0))), (3, vI u)] [] M (av_X (some (vI (b01 (SPu M set (M 35 23) 0)))) M) := by
  have hs := hR.1
  intro t
  induction t with
  | zero =>
    intro u hu u0
    have eu : u = M 35 23 := by omega
    subst eu
    have b := b01_rng (SPu M set (M 35 23) 0)
    refine ax_iloadn rfl rfl ?_
    refine ax_aloadn rfl rfl ?_
    refine ax_getI (g := 23) rfl fX8_216 rfl rfl rfl rfl ?_
    refine ax_icmp_ge rfl (by omega) (by omega) (fun h25 => ?_) (fun h25 => ?_)
    · refine ax_iloadn rfl rfl ?_
      refine ax_zret rfl rfl (by omega) ?_
      exact av_rI rfl
    · omega
  | succ t ih =>
    intro u hu u0
    have b := b01_rng (SPu M set u 0)
    refine ax_iloadn rfl rfl ?_
    refine ax_aloadn rfl rfl ?_
    refine ax_getI (g := 23) rfl fX8_216 rfl rfl rfl rfl ?_
    refine ax_icmp_ge rfl (by omega) (by omega) (fun h25 => ?_) (fun h25 => ?_)
    · refine ax_iloadn rfl rfl ?_
      refine ax_zret rfl rfl (by omega) ?_
      first
        | omega
        | (have z1 : b01 (SPu M set u 0) = 0 := by omega
           exact av_rI (by rw [z1]; exact (b01_f (fun q => b01_eq z1 (SPu_w q (by omega)))).symm))
    · refine ax_iloadn rfl rfl ?_
      refine ax_if_eq rfl (by omega) (fun h29 => ?_) (fun h29 => ?_)
      · refine ax_iloadn rfl rfl ?_
        refine ax_zret rfl rfl (by omega) ?_
        first
          | omega
          | (have z1 : b01 (SPu M set u 0) = 0 := by omega
             exact av_rI (by rw [z1]; exact (b01_f (fun q => b01_eq z1 (SPu_w q (by omega)))).symm))
      · refine ax_iconst rfl ?_
        refine ax_istore (ls' := [(0, _), (1, _), (2, _), (3, _), (4, _)]) rfl rfl rfl ?_
        exact l2_X8_isSound E d M hR set hset u ⟨u0, by omega⟩ (ih (u + 1) (by omega) (by omega)) (M 35 23).toNat 0 (by omega) (by omega)
