/-! ===== the reference: calls on the fewest walls; what is greatest ===== -/
def cz (b : Int) : Int := if b = -900000009 then 0 else b
theorem BFr_r {P : Int → Prop} {b : Int} (h : BFr P b) : b = -900000009 ∨ (P b ∧ 0 < b ∧ b < 1024) := by
  rcases h with ⟨e, _⟩ | ⟨hb, b0, b1, _⟩
  · exact Or.inl e
  · exact Or.inr ⟨hb, b0, b1⟩
set_option maxRecDepth 100000 in
set_option maxHeartbeats 800000 in
theorem c_X8_fewest (E : av_E) (d : Nat) (M : av_M) (hR : RWm M) (on : Int) (hon : ONm M on) (hP : RPm M) (h : Int) (fx fy : Int → Int) (hG : FG (M 35 0) (M 36) (M 37) h fx fy) : av_Mt E (d + 8) mX8_fewest [vR 35] M (fun res M' => (∃ b, BFr (SHr M on h fx fy) b ∧ res = some (vI (if b = -900000009 then -900000009 else pcI b))) ∧ RQ M M') := by
  refine av_enter hX8_fewest oX8_fewest rfl rfl ?_
  refine ax_aloadn rfl rfl ?_
  refine ax_callV (as := []) rfl vX8_312 hX8_layFewest rfl rfl rfl rfl rfl (c_X8_layFewest E (d + 1) M hR on hon hP h fx fy hG) (fun r1 M1 hr1 => ?_)
  obtain ⟨rfl, ⟨b, eb, hb⟩, hq⟩ := hr1
  have br : b = -900000009 ∨ (0 < b ∧ b < 1024) := by
    rcases BFr_r hb with q | q
    · exact Or.inl q
    · exact Or.inr q.2
  have pb := pcI_rng (x := M1 35 33)
  refine ax_aloadn rfl rfl ?_
  refine ax_getI (g := 33) rfl fX8_302 rfl rfl rfl rfl ?_
  refine ax_ldc (z := (-900000009)) rfl kX8_204 rfl ?_
  refine ax_icmp_ne rfl (by omega) (by omega) (fun h10 => ?_) (fun h10 => ?_)
  · refine ax_aloadn rfl rfl ?_
    refine ax_getI (g := 33) rfl fX8_302 rfl rfl rfl rfl ?_
    refine ax_callS (as := [_]) rfl sX8_305 hX8_bits rfl rfl rfl rfl (c_X8_bits E (d + 7) M1 (M1 35 33) (by omega)) (av_Xk ?_)
    refine ax_iret rfl rfl ?_
    first
      | exact ⟨⟨b, hb, by rw [if_pos (by omega)]⟩, hq⟩
      | exact ⟨⟨b, hb, by rw [if_neg (by omega), eb]⟩, hq⟩
  · refine ax_ldc (z := (-900000009)) rfl kX8_204 rfl ?_
    refine ax_goto rfl ?_
    refine ax_iret rfl rfl ?_
    first
      | exact ⟨⟨b, hb, by rw [if_pos (by omega)]⟩, hq⟩
      | exact ⟨⟨b, hb, by rw [if_neg (by omega), eb]⟩, hq⟩
set_option maxRecDepth 100000 in
set_option maxHeartbeats 800000 in
theorem l_X8_needed (E : av_E) (d : Nat) (M : av_M) (hw : 0 ≤ M 35 23 ∧ M 35 23 ≤ 10) (i b : Int) (hi : 0 ≤ i ∧ i < 2147483648) (eb : M 35 33 = b) (hb : 0 < b ∧ b < 1024) (ht : ∀ j : Nat, b.toNat.testBit j = true → (j : Int) < M 35 23) : ∀ (t w : Nat), (w : Int) + t = M 35 23 → (∀ j : Nat, j < w → b.toNat.testBit j = true → i ≠ ((popc b.toNat j : Nat) : Int)) → av_S E d mX8_needed 8 [(0, vR 35), (1, vI i), (2, vI (i - ((popc b.toNat w : Nat) : Int))), (3, vI (w : Int))] [] M (fun res M' => (∃ z, res = some (vI z) ∧ NB b i z) ∧ M' = M) := by
  have pr : ∀ w : Nat, popc b.toNat w ≤ w := by
    intro w
    induction w with
    | zero => exact Nat.le_refl _
    | succ w ih =>
      show popc b.toNat w + (if b.toNat.testBit w then 1 else 0) ≤ w + 1
      split <;> omega
  intro t
  induction t with
  | zero =>
    intro w hwt hl
    have p0 := pr w
    refine ax_iloadn rfl rfl ?_
    refine ax_aloadn rfl rfl ?_
    refine ax_getI (g := 23) rfl fX8_216 rfl rfl rfl rfl ?_
    refine ax_icmp_ge rfl (by omega) (by omega) (fun h13 => ?_) (fun h13 => ?_)
    · refine ax_ldc (z := (-900000009)) rfl kX8_204 rfl ?_
      refine ax_iret rfl rfl ?_
      refine ⟨⟨_, rfl, Or.inr ⟨rfl, fun j _ hj => ?_⟩⟩, rfl⟩
      have := ht j hj
      exact hl j (by omega) hj
    · omega
  | succ t ih =>
    intro w hwt hl
    have p0 := pr w
    have eo : popc b.toNat (w + 1) = popc b.toNat w + (if b.toNat.testBit w then 1 else 0) := rfl
    have hbit := bit_at (on := b) (w := (w : Int)) (by omega) (by omega) (by omega)
    rw [Int.toNat_natCast] at hbit
    have ih2 := ih (w + 1)
    rw [eo] at ih2
    refine ax_iloadn rfl rfl ?_
    refine ax_aloadn rfl rfl ?_
    refine ax_getI (g := 23) rfl fX8_216 rfl rfl rfl rfl ?_
    refine ax_icmp_ge rfl (by omega) (by omega) (fun h13 => ?_) (fun h13 => ?_)
    · omega
    · refine ax_aloadn rfl rfl ?_
      refine ax_getI (g := 33) rfl fX8_302 rfl rfl rfl rfl ?_
      refine ax_ldc (z := (-900000009)) rfl kX8_204 rfl ?_
      refine ax_icmp_eq rfl (by omega) (by omega) (fun h22 => ?_) (fun h22 => ?_)
      · omega
      · refine ax_iloadn rfl rfl ?_
        refine ax_if_lt rfl (by omega) (fun h26 => ?_) (fun h26 => ?_)
        · omega
        · refine ax_aloadn rfl rfl ?_
          refine ax_getI (g := 33) rfl fX8_302 rfl rfl rfl rfl ?_
          refine ax_iloadn rfl rfl ?_
          refine ax_ishr rfl ?_
          refine ax_iconst rfl ?_
          refine ax_iand rfl ?_
          refine ax_iconst rfl ?_
          refine ax_icmp_ne rfl (by rw [eb, hbit]; split <;> omega) (by omega) (fun h38 => ?_) (fun h38 => ?_)
          · refine ax_iinc (ls' := [(0, _), (1, _), (2, _), (3, _)]) rfl rfl rfl rfl ?_
            refine ax_goto rfl ?_
            rw [eb, hbit] at h38
            first
              | (have hs : b.toNat.testBit w = true := by
                   apply Classical.byContradiction
                   intro q
                   rw [if_neg q] at h38
                   omega
                 rw [if_pos hs] at ih2
                 have hne : i ≠ ((popc b.toNat w : Nat) : Int) := by omega
                 have k := ih2 (by omega) (fun j j0 hj => by
                   by_cases q : j = w
                   · rw [q]; exact hne
                   · exact hl j (by omega) hj)
                 have e1 : i - ((popc b.toNat w : Nat) : Int) + (-1) = i - ((popc b.toNat w + 1 : Nat) : Int) := by omega
                 rw [e1]
                 have e2 : (w : Int) + 1 = ((w + 1 : Nat) : Int) := by omega
                 rw [e2]
                 exact k)
              | (have hs : ¬ b.toNat.testBit w = true := by
                   intro q
                   rw [if_pos q] at h38
                   omega
                 rw [if_neg hs] at ih2
                 have k := ih2 (by omega) (fun j j0 hj => by
                   by_cases q : j = w
                   · rw [q] at hj; exact absurd hj hs
                   · exact hl j (by omega) hj)
                 have e2 : (w : Int) + 1 = ((w + 1 : Nat) : Int) := by omega
                 rw [e2]
                 exact k)
          · refine ax_iloadn rfl rfl ?_
            refine ax_if_ne rfl (by omega) (fun h42 => ?_) (fun h42 => ?_)
            · refine ax_iinc (ls' := [(0, _), (1, _), (2, _), (3, _)]) rfl rfl rfl rfl ?_
              refine ax_iinc (ls' := [(0, _), (1, _), (2, _), (3, _)]) rfl rfl rfl rfl ?_
              refine ax_goto rfl ?_
              rw [eb, hbit] at h38
              first
                | (have hs : b.toNat.testBit w = true := by
                     apply Classical.byContradiction
                     intro q
                     rw [if_neg q] at h38
                     omega
                   rw [if_pos hs] at ih2
                   have hne : i ≠ ((popc b.toNat w : Nat) : Int) := by omega
                   have k := ih2 (by omega) (fun j j0 hj => by
                     by_cases q : j = w
                     · rw [q]; exact hne
                     · exact hl j (by omega) hj)
                   have e1 : i - ((popc b.toNat w : Nat) : Int) + (-1) = i - ((popc b.toNat w + 1 : Nat) : Int) := by omega
                   rw [e1]
                   have e2 : (w : Int) + 1 = ((w + 1 : Nat) : Int) := by omega
                   rw [e2]
                   exact k)
                | (have hs : ¬ b.toNat.testBit w = true := by
                     intro q
                     rw [if_pos q] at h38
                     omega
                   rw [if_neg hs] at ih2
                   have k := ih2 (by omega) (fun j j0 hj => by
                     by_cases q : j = w
                     · rw [q] at hj; exact absurd hj hs
                     · exact hl j (by omega) hj)
                   have e2 : (w : Int) + 1 = ((w + 1 : Nat) : Int) := by omega
                   rw [e2]
                   exact k)
            · refine ax_iloadn rfl rfl ?_
              refine ax_iret rfl rfl ?_
              rw [eb, hbit] at h38
              have hs : b.toNat.testBit w = true := by
                apply Classical.byContradiction
                intro q
                rw [if_neg q] at h38
                omega
              exact ⟨⟨_, rfl, Or.inl ⟨by omega, by omega, by rw [Int.toNat_natCast]; exact hs, by rw [Int.toNat_natCast]; omega⟩⟩, rfl⟩
set_option maxRecDepth 100000 in
set_option maxHeartbeats 800000 in
theorem c_X8_needed (E : av_E) (d : Nat) (M : av_M) (hR : RWm M) (on : Int) (hon : ONm M on) (hP : RPm M) (h : Int) (fx fy : Int → Int) (hG : FG (M 35 0) (M 36) (M 37) h fx fy) (i : Int) (hii : -2147483648 ≤ i ∧ i < 2147483648) : av_Mt E (d + 8) mX8_needed [vR 35, vI i] M (fun res M' => (∃ b z, BFr (SHr M on h fx fy) b ∧ res = some (vI z) ∧ NB (cz b) i z) ∧ RQ M M') := by
  have hw := hR.1
  refine av_enter hX8_needed oX8_needed rfl rfl ?_
  refine ax_aloadn rfl rfl ?_
  refine ax_callV (as := []) rfl vX8_312 hX8_layFewest rfl rfl rfl rfl rfl (c_X8_layFewest E (d + 1) M hR on hon hP h fx fy hG) (fun r1 M1 hr1 => ?_)
  obtain ⟨rfl, ⟨b, eb, hb⟩, hq⟩ := hr1
  have br : b = -900000009 ∨ (0 < b ∧ b < 1024) := by
    rcases BFr_r hb with q | q
    · exact Or.inl q
    · exact Or.inr q.2
  have pb := pcI_rng (x := M1 35 33)
  refine ax_iloadn rfl rfl ?_
  refine ax_istoren (ls' := [(0, _), (1, _), (2, _)]) rfl rfl rfl ?_
  refine ax_iconst rfl ?_
  refine ax_istoren (ls' := [(0, _), (1, _), (2, _), (3, _)]) rfl rfl rfl ?_
  have e23 : M1 35 23 = M 35 23 := hq.2.1 23 (by omega)
  by_cases z : b = -900000009
  · have ez : cz b = 0 := by unfold cz; rw [if_pos z]
    have hN : NB (cz b) i (-900000009) := by
      refine Or.inr ⟨rfl, fun j _ hj => ?_⟩
      rw [ez] at hj
      have : (0 : Nat).testBit j = true := hj
      rw [Nat.zero_testBit] at this
      cases this
    refine ax_iloadn rfl rfl ?_
    refine ax_aloadn rfl rfl ?_
    refine ax_getI (g := 23) rfl fX8_216 rfl rfl rfl rfl ?_
    refine ax_icmp_ge rfl (by omega) (by omega) (fun h13 => ?_) (fun h13 => ?_)
    · refine ax_ldc (z := (-900000009)) rfl kX8_204 rfl ?_
      refine ax_iret rfl rfl ?_
      exact ⟨⟨b, _, hb, rfl, hN⟩, hq⟩
    · refine ax_aloadn rfl rfl ?_
      refine ax_getI (g := 33) rfl fX8_302 rfl rfl rfl rfl ?_
      refine ax_ldc (z := (-900000009)) rfl kX8_204 rfl ?_
      refine ax_icmp_eq rfl (by omega) (by omega) (fun h22 => ?_) (fun h22 => ?_)
      · refine ax_ldc (z := (-900000009)) rfl kX8_204 rfl ?_
        refine ax_iret rfl rfl ?_
        exact ⟨⟨b, _, hb, rfl, hN⟩, hq⟩
      · omega
  · have ez : cz b = b := by unfold cz; rw [if_neg z]
    have hb2 : 0 < b ∧ b < 1024 := by omega
    by_cases y : i < 0
    · have hN : NB (cz b) i (-900000009) := Or.inr ⟨rfl, fun j _ hj => by omega⟩
      refine ax_iloadn rfl rfl ?_
      refine ax_aloadn rfl rfl ?_
      refine ax_getI (g := 23) rfl fX8_216 rfl rfl rfl rfl ?_
      refine ax_icmp_ge rfl (by omega) (by omega) (fun h13 => ?_) (fun h13 => ?_)
      · refine ax_ldc (z := (-900000009)) rfl kX8_204 rfl ?_
        refine ax_iret rfl rfl ?_
        exact ⟨⟨b, _, hb, rfl, hN⟩, hq⟩
      · refine ax_aloadn rfl rfl ?_
        refine ax_getI (g := 33) rfl fX8_302 rfl rfl rfl rfl ?_
        refine ax_ldc (z := (-900000009)) rfl kX8_204 rfl ?_
        refine ax_icmp_eq rfl (by omega) (by omega) (fun h22 => ?_) (fun h22 => ?_)
        · refine ax_ldc (z := (-900000009)) rfl kX8_204 rfl ?_
          refine ax_iret rfl rfl ?_
          exact ⟨⟨b, _, hb, rfl, hN⟩, hq⟩
        · refine ax_iloadn rfl rfl ?_
          refine ax_if_lt rfl (by omega) (fun h26 => ?_) (fun h26 => ?_)
          · refine ax_ldc (z := (-900000009)) rfl kX8_204 rfl ?_
            refine ax_iret rfl rfl ?_
            exact ⟨⟨b, _, hb, rfl, hN⟩, hq⟩
          · omega
    · have hP1 : SHr M on h fx fy b := by
        rcases BFr_r hb with q | q
        · exact absurd q z
        · exact q.1
      have k := l_X8_needed E (d + 8) M1 (by omega) i b (by omega) eb hb2 (fun j hj => by have := hon.t j (hP1.1 j hj); omega) (M1 35 23).toNat 0 (by omega) (fun j hj => by omega)
      have e0 : i - ((popc b.toNat 0 : Nat) : Int) = i := by
        show i - ((0 : Nat) : Int) = i
        omega
      rw [e0] at k
      refine av_Sw k (fun r M' q => ?_)
      obtain ⟨⟨y1, y2, y3⟩, y4⟩ := q
      exact ⟨⟨b, y1, hb, y2, by rw [ez]; exact y3⟩, by rw [y4]; exact hq⟩
set_option maxRecDepth 100000 in
set_option maxHeartbeats 800000 in
theorem c_X8_high (E : av_E) (d : Nat) (M : av_M) (hR : RWm M) (on : Int) (hon : ONm M on) (hP : RPm M) (h : Int) (fx fy : Int → Int) (hG : FG (M 35 0) (M 36) (M 37) h fx fy) (hT : RTm M) : av_Mt E (d + 8) mX8_high [vR 35] M (fun res M' => ((h < 3 ∧ res = some (vI (-900000003))) ∨ (¬ h < 3 ∧ ∃ r b, FW (rOK M h fx fy) h r ∧ BFr (SHr M on h fx fy) b ∧ res = some (vI (if cz b = 0 then (if r = -900000009 then min h (M 35 19) else h) else min (if r = -900000009 then min h (M 35 19) else h) (pcI (cz b)))))) ∧ RQ M M') := by
  have hT1 := hT.1
  refine av_enter hX8_high oX8_high rfl rfl ?_
  refine ax_aloadn rfl rfl ?_
  refine ax_callV (as := []) rfl vX8_147 hX8_isFlat rfl rfl rfl rfl rfl (c_X8_isFlat2 E (d + 2) M hP h fx fy hG) (fun r1 M1 hr1 => ?_)
  obtain ⟨rfl, hL, hk⟩ := hr1
  have hq := LFk.q hk
  have hL0 := hL
  obtain ⟨eh, h12, hc⟩ := hL
  have e0 : M1 35 0 = M 35 0 := hk.1 0 (by decide)
  have hn := hP.1
  have bf := b01_c (h < 3)
  refine ax_if_eq rfl (by omega) (fun h4 => ?_) (fun h4 => ?_)
  · refine ax_aloadn rfl rfl ?_
    refine ax_getI (g := 7) rfl fX8_131 rfl rfl rfl rfl ?_
    refine ax_istoren (ls' := [(0, _), (1, _)]) rfl rfl rfl ?_
    refine ax_aloadn rfl rfl ?_
    refine ax_callV (as := []) rfl vX8_205 hX8_wrongPair rfl rfl rfl rfl rfl (c_X8_wrongPair E (d + 4) M1 h fx fy hL0 (by omega) (RTm_k hT hq) (fun e e0 e1 => FG_ne hG (by omega) e0 e1)) (fun r16 M16 hr16 => ?_)
    obtain ⟨⟨r, rfl, hw⟩, hMe⟩ := hr16
    have hMs := hMe.symm
    subst hMs
    rw [rOK_k hq] at hw
    have fr := FW_rng (by omega) hw
    have e19 : M1 35 19 = M 35 19 := hq.2.1 19 (by omega)
    refine ax_ldc (z := (-900000009)) rfl kX8_204 rfl ?_
    refine ax_icmp_ne rfl (by omega) (by omega) (fun h21 => ?_) (fun h21 => ?_)
    · refine ax_iloadn rfl rfl ?_
      refine ax_istoren (ls' := [(0, _), (1, _)]) rfl rfl rfl ?_
      refine ax_aloadn rfl rfl ?_
      refine ax_callV (as := []) rfl vX8_312 hX8_layFewest rfl rfl rfl rfl rfl (c_X8_layFewest E (d + 1) M1 (hR.k hq) on (hon.k hq) (RPm_k hP hq) h fx fy (FG_k hG hq)) (fun r42 M42 hr42 => ?_)
      obtain ⟨rfl, ⟨b, eb, hb⟩, hq2⟩ := hr42
      rw [SHr_k (hq.2.2 52 (by omega))] at hb
      have hq3 := hq.tr hq2
      have br : b = -900000009 ∨ (0 < b ∧ b < 1024) := by
        rcases BFr_r hb with q | q
        · exact Or.inl q
        · exact Or.inr q.2
      have pb := pcI_rng (x := M42 35 33)
      refine ax_aloadn rfl rfl ?_
      refine ax_getI (g := 33) rfl fX8_302 rfl rfl rfl rfl ?_
      refine ax_ldc (z := (-900000009)) rfl kX8_204 rfl ?_
      refine ax_icmp_eq rfl (by omega) (by omega) (fun h51 => ?_) (fun h51 => ?_)
      · refine ax_iloadn rfl rfl ?_
        refine ax_iret rfl rfl ?_
        refine ⟨Or.inr ⟨by omega, r, b, hw, hb, congrArg (fun z => some (vI z)) ?_⟩, hq3⟩
        first
          | (have ez : cz b = 0 := by unfold cz; rw [if_pos (by omega)]
             rw [if_pos ez]
             split <;> omega)
          | (have ez : cz b = b := by unfold cz; rw [if_neg (by omega)]
             rw [ez, if_neg (by omega), ← eb]
             split <;> omega)
      · refine ax_aloadn rfl rfl ?_
        refine ax_getI (g := 33) rfl fX8_302 rfl rfl rfl rfl ?_
        refine ax_callS (as := [_]) rfl sX8_305 hX8_bits rfl rfl rfl rfl (c_X8_bits E (d + 7) M42 (M42 35 33) (by omega)) (av_Xk ?_)
        refine ax_iloadn rfl rfl ?_
        refine ax_icmp_ge rfl (by omega) (by omega) (fun h62 => ?_) (fun h62 => ?_)
        · refine ax_iloadn rfl rfl ?_
          refine ax_iret rfl rfl ?_
          refine ⟨Or.inr ⟨by omega, r, b, hw, hb, congrArg (fun z => some (vI z)) ?_⟩, hq3⟩
          first
            | (have ez : cz b = 0 := by unfold cz; rw [if_pos (by omega)]
               rw [if_pos ez]
               split <;> omega)
            | (have ez : cz b = b := by unfold cz; rw [if_neg (by omega)]
               rw [ez, if_neg (by omega), ← eb]
               split <;> omega)
        · refine ax_aloadn rfl rfl ?_
          refine ax_getI (g := 33) rfl fX8_302 rfl rfl rfl rfl ?_
          refine ax_callS (as := [_]) rfl sX8_305 hX8_bits rfl rfl rfl rfl (c_X8_bits E (d + 7) M42 (M42 35 33) (by omega)) (av_Xk ?_)
          refine ax_goto rfl ?_
          refine ax_iret rfl rfl ?_
          refine ⟨Or.inr ⟨by omega, r, b, hw, hb, congrArg (fun z => some (vI z)) ?_⟩, hq3⟩
          first
            | (have ez : cz b = 0 := by unfold cz; rw [if_pos (by omega)]
               rw [if_pos ez]
               split <;> omega)
            | (have ez : cz b = b := by unfold cz; rw [if_neg (by omega)]
               rw [ez, if_neg (by omega), ← eb]
               split <;> omega)
    · refine ax_aloadn rfl rfl ?_
      refine ax_getI (g := 19) rfl fX8_53 rfl rfl rfl rfl ?_
      refine ax_iloadn rfl rfl ?_
      refine ax_icmp_ge rfl (by omega) (by omega) (fun h29 => ?_) (fun h29 => ?_)
      · refine ax_iloadn rfl rfl ?_
        refine ax_istoren (ls' := [(0, _), (1, _)]) rfl rfl rfl ?_
        refine ax_aloadn rfl rfl ?_
        refine ax_callV (as := []) rfl vX8_312 hX8_layFewest rfl rfl rfl rfl rfl (c_X8_layFewest E (d + 1) M1 (hR.k hq) on (hon.k hq) (RPm_k hP hq) h fx fy (FG_k hG hq)) (fun r42 M42 hr42 => ?_)
        obtain ⟨rfl, ⟨b, eb, hb⟩, hq2⟩ := hr42
        rw [SHr_k (hq.2.2 52 (by omega))] at hb
        have hq3 := hq.tr hq2
        have br : b = -900000009 ∨ (0 < b ∧ b < 1024) := by
          rcases BFr_r hb with q | q
          · exact Or.inl q
          · exact Or.inr q.2
        have pb := pcI_rng (x := M42 35 33)
        refine ax_aloadn rfl rfl ?_
        refine ax_getI (g := 33) rfl fX8_302 rfl rfl rfl rfl ?_
        refine ax_ldc (z := (-900000009)) rfl kX8_204 rfl ?_
        refine ax_icmp_eq rfl (by omega) (by omega) (fun h51 => ?_) (fun h51 => ?_)
        · refine ax_iloadn rfl rfl ?_
          refine ax_iret rfl rfl ?_
          refine ⟨Or.inr ⟨by omega, r, b, hw, hb, congrArg (fun z => some (vI z)) ?_⟩, hq3⟩
          first
            | (have ez : cz b = 0 := by unfold cz; rw [if_pos (by omega)]
               rw [if_pos ez]
               split <;> omega)
            | (have ez : cz b = b := by unfold cz; rw [if_neg (by omega)]
               rw [ez, if_neg (by omega), ← eb]
               split <;> omega)
        · refine ax_aloadn rfl rfl ?_
          refine ax_getI (g := 33) rfl fX8_302 rfl rfl rfl rfl ?_
          refine ax_callS (as := [_]) rfl sX8_305 hX8_bits rfl rfl rfl rfl (c_X8_bits E (d + 7) M42 (M42 35 33) (by omega)) (av_Xk ?_)
          refine ax_iloadn rfl rfl ?_
          refine ax_icmp_ge rfl (by omega) (by omega) (fun h62 => ?_) (fun h62 => ?_)
          · refine ax_iloadn rfl rfl ?_
            refine ax_iret rfl rfl ?_
            refine ⟨Or.inr ⟨by omega, r, b, hw, hb, congrArg (fun z => some (vI z)) ?_⟩, hq3⟩
            first
              | (have ez : cz b = 0 := by unfold cz; rw [if_pos (by omega)]
                 rw [if_pos ez]
                 split <;> omega)
              | (have ez : cz b = b := by unfold cz; rw [if_neg (by omega)]
                 rw [ez, if_neg (by omega), ← eb]
                 split <;> omega)
          · refine ax_aloadn rfl rfl ?_
            refine ax_getI (g := 33) rfl fX8_302 rfl rfl rfl rfl ?_
            refine ax_callS (as := [_]) rfl sX8_305 hX8_bits rfl rfl rfl rfl (c_X8_bits E (d + 7) M42 (M42 35 33) (by omega)) (av_Xk ?_)
            refine ax_goto rfl ?_
            refine ax_iret rfl rfl ?_
            refine ⟨Or.inr ⟨by omega, r, b, hw, hb, congrArg (fun z => some (vI z)) ?_⟩, hq3⟩
            first
              | (have ez : cz b = 0 := by unfold cz; rw [if_pos (by omega)]
                 rw [if_pos ez]
                 split <;> omega)
              | (have ez : cz b = b := by unfold cz; rw [if_neg (by omega)]
                 rw [ez, if_neg (by omega), ← eb]
                 split <;> omega)
      · refine ax_aloadn rfl rfl ?_
        refine ax_getI (g := 19) rfl fX8_53 rfl rfl rfl rfl ?_
        refine ax_goto rfl ?_
        refine ax_istoren (ls' := [(0, _), (1, _)]) rfl rfl rfl ?_
        refine ax_aloadn rfl rfl ?_
        refine ax_callV (as := []) rfl vX8_312 hX8_layFewest rfl rfl rfl rfl rfl (c_X8_layFewest E (d + 1) M1 (hR.k hq) on (hon.k hq) (RPm_k hP hq) h fx fy (FG_k hG hq)) (fun r42 M42 hr42 => ?_)
        obtain ⟨rfl, ⟨b, eb, hb⟩, hq2⟩ := hr42
        rw [SHr_k (hq.2.2 52 (by omega))] at hb
        have hq3 := hq.tr hq2
        have br : b = -900000009 ∨ (0 < b ∧ b < 1024) := by
          rcases BFr_r hb with q | q
          · exact Or.inl q
          · exact Or.inr q.2
        have pb := pcI_rng (x := M42 35 33)
        refine ax_aloadn rfl rfl ?_
        refine ax_getI (g := 33) rfl fX8_302 rfl rfl rfl rfl ?_
        refine ax_ldc (z := (-900000009)) rfl kX8_204 rfl ?_
        refine ax_icmp_eq rfl (by omega) (by omega) (fun h51 => ?_) (fun h51 => ?_)
        · refine ax_iloadn rfl rfl ?_
          refine ax_iret rfl rfl ?_
          refine ⟨Or.inr ⟨by omega, r, b, hw, hb, congrArg (fun z => some (vI z)) ?_⟩, hq3⟩
          first
            | (have ez : cz b = 0 := by unfold cz; rw [if_pos (by omega)]
               rw [if_pos ez]
               split <;> omega)
            | (have ez : cz b = b := by unfold cz; rw [if_neg (by omega)]
               rw [ez, if_neg (by omega), ← eb]
               split <;> omega)
        · refine ax_aloadn rfl rfl ?_
          refine ax_getI (g := 33) rfl fX8_302 rfl rfl rfl rfl ?_
          refine ax_callS (as := [_]) rfl sX8_305 hX8_bits rfl rfl rfl rfl (c_X8_bits E (d + 7) M42 (M42 35 33) (by omega)) (av_Xk ?_)
          refine ax_iloadn rfl rfl ?_
          refine ax_icmp_ge rfl (by omega) (by omega) (fun h62 => ?_) (fun h62 => ?_)
          · refine ax_iloadn rfl rfl ?_
            refine ax_iret rfl rfl ?_
            refine ⟨Or.inr ⟨by omega, r, b, hw, hb, congrArg (fun z => some (vI z)) ?_⟩, hq3⟩
            first
              | (have ez : cz b = 0 := by unfold cz; rw [if_pos (by omega)]
                 rw [if_pos ez]
                 split <;> omega)
              | (have ez : cz b = b := by unfold cz; rw [if_neg (by omega)]
                 rw [ez, if_neg (by omega), ← eb]
                 split <;> omega)
          · refine ax_aloadn rfl rfl ?_
            refine ax_getI (g := 33) rfl fX8_302 rfl rfl rfl rfl ?_
            refine ax_callS (as := [_]) rfl sX8_305 hX8_bits rfl rfl rfl rfl (c_X8_bits E (d + 7) M42 (M42 35 33) (by omega)) (av_Xk ?_)
            refine ax_goto rfl ?_
            refine ax_iret rfl rfl ?_
            refine ⟨Or.inr ⟨by omega, r, b, hw, hb, congrArg (fun z => some (vI z)) ?_⟩, hq3⟩
            first
              | (have ez : cz b = 0 := by unfold cz; rw [if_pos (by omega)]
                 rw [if_pos ez]
                 split <;> omega)
              | (have ez : cz b = b := by unfold cz; rw [if_neg (by omega)]
                 rw [ez, if_neg (by omega), ← eb]
                 split <;> omega)
  · refine ax_ldc (z := (-900000003)) rfl kX8_137 rfl ?_
    refine ax_iret rfl rfl ?_
    exact ⟨Or.inl ⟨by omega, rfl⟩, hq⟩
set_option maxRecDepth 100000 in
set_option maxHeartbeats 800000 in
theorem l_X8_most (E : av_E) (d : Nat) (M : av_M) (hP : RPm M) (p q : Int) (hp : -99 ≤ p ∧ p ≤ 99) (hq : -99 ≤ q ∧ q ≤ 99) : ∀ (t : Nat) (i : Int), i + t = M 35 0 → 1 ≤ i → av_S E d mX8_most 62 [(0, vR 35), (1, vI p), (2, vI q), (3, vI (mxI (fun i => p * M 36 i + q * M 37 i) (i - 1).toNat)), (4, vI i)] [] M (av_X (some (vI (mxI (fun i => p * M 36 i + q * M 37 i) (M 35 0 - 1).toNat))) M) := by
  have hn := hP.1
  have one : ∀ j, 0 ≤ j → j < M 35 0 → -10000 ≤ p * M 36 j + q * M 37 j ∧ p * M 36 j + q * M 37 j ≤ 10000 := by
    intro j j0 j1
    have b := hP.2 j j0 j1
    have m1 := mb hp b.1
    have m2 := mb hq b.2
    omega
  have all : ∀ k : Nat, (k : Int) < M 35 0 → -10000 ≤ mxI (fun i => p * M 36 i + q * M 37 i) k ∧ mxI (fun i => p * M 36 i + q * M 37 i) k ≤ 10000 := by
    intro k
    induction k with
    | zero => intro hk; exact one 0 (by omega) hk
    | succ k ih =>
      intro hk
      have a := ih (by omega)
      have b : -10000 ≤ (fun i => p * M 36 i + q * M 37 i) ((k + 1 : Nat) : Int) ∧ (fun i => p * M 36 i + q * M 37 i) ((k + 1 : Nat) : Int) ≤ 10000 := one _ (by omega) hk
      show -10000 ≤ max (mxI (fun i => p * M 36 i + q * M 37 i) k) ((fun i => p * M 36 i + q * M 37 i) ((k + 1 : Nat) : Int)) ∧ max (mxI (fun i => p * M 36 i + q * M 37 i) k) ((fun i => p * M 36 i + q * M 37 i) ((k + 1 : Nat) : Int)) ≤ 10000
      omega
  intro t
  induction t with
  | zero =>
    intro i hi i0
    have ei : i = M 35 0 := by omega
    subst ei
    refine ax_iload rfl rfl ?_
    refine ax_aloadn rfl rfl ?_
    refine ax_getI (g := 0) rfl fX8_101 rfl rfl rfl rfl ?_
    refine ax_icmp_ge rfl (by omega) (by omega) (fun h68 => ?_) (fun h68 => ?_)
    · refine ax_iloadn rfl rfl ?_
      refine ax_iret rfl rfl ?_
      exact av_rI rfl
    · omega
  | succ t ih =>
    intro i hi i0
    have ih2 := ih (i + 1) (by omega) (by omega)
    have es : (i + 1 - 1).toNat = (i - 1).toNat + 1 := by omega
    have eo : mxI (fun i => p * M 36 i + q * M 37 i) ((i - 1).toNat + 1) = max (mxI (fun i => p * M 36 i + q * M 37 i) (i - 1).toNat) (p * M 36 (((i - 1).toNat + 1 : Nat) : Int) + q * M 37 (((i - 1).toNat + 1 : Nat) : Int)) := rfl
    rw [show (((i - 1).toNat + 1 : Nat) : Int) = i by omega] at eo
    rw [es, eo] at ih2
    have r1 := one i (by omega) (by omega)
    have r2 := all (i - 1).toNat (by omega)
    refine ax_iload rfl rfl ?_
    refine ax_aloadn rfl rfl ?_
    refine ax_getI (g := 0) rfl fX8_101 rfl rfl rfl rfl ?_
    refine ax_icmp_ge rfl (by omega) (by omega) (fun h68 => ?_) (fun h68 => ?_)
    · omega
    · refine ax_iloadn rfl rfl ?_
      refine ax_aloadn rfl rfl ?_
      refine ax_getR rfl fX8_7 rfl rfl ?_
      refine ax_iload rfl rfl ?_
      refine ax_iald rfl rfl (by omega) ?_
      refine ax_imul rfl ?_
      refine ax_iloadn rfl rfl ?_
      refine ax_aloadn rfl rfl ?_
      refine ax_getR rfl fX8_13 rfl rfl ?_
      refine ax_iload rfl rfl ?_
      refine ax_iald rfl rfl (by omega) ?_
      refine ax_imul rfl ?_
      refine ax_iadd rfl ?_
      refine ax_istore (ls' := [(0, _), (1, _), (2, _), (3, _), (4, _), (5, _)]) rfl rfl rfl ?_
      refine ax_iload rfl rfl ?_
      refine ax_iloadn rfl rfl ?_
      refine ax_icmp_le rfl (by omega) (by omega) (fun h95 => ?_) (fun h95 => ?_)
      · refine ax_iloadn rfl rfl ?_
        refine ax_istoren (ls' := [(0, _), (1, _), (2, _), (3, _), (4, _), (5, _)]) rfl rfl rfl ?_
        refine ax_iinc (ls' := [(0, _), (1, _), (2, _), (3, _), (4, _), (5, _)]) rfl rfl rfl rfl ?_
        refine ax_goto rfl ?_
        refine ax_pick [0, 1, 2, 3, 4] rfl ?_
        first
          | (have e : max (mxI (fun i => p * M 36 i + q * M 37 i) (i - 1).toNat) (p * M 36 i + q * M 37 i) = p * M 36 i + q * M 37 i := by omega
             rw [e] at ih2
             exact ih2)
          | (have e : max (mxI (fun i => p * M 36 i + q * M 37 i) (i - 1).toNat) (p * M 36 i + q * M 37 i) = mxI (fun i => p * M 36 i + q * M 37 i) (i - 1).toNat := by omega
             rw [e] at ih2
             exact ih2)
      · refine ax_iload rfl rfl ?_
        refine ax_goto rfl ?_
        refine ax_istoren (ls' := [(0, _), (1, _), (2, _), (3, _), (4, _), (5, _)]) rfl rfl rfl ?_
        refine ax_iinc (ls' := [(0, _), (1, _), (2, _), (3, _), (4, _), (5, _)]) rfl rfl rfl rfl ?_
        refine ax_goto rfl ?_
        refine ax_pick [0, 1, 2, 3, 4] rfl ?_
        first
          | (have e : max (mxI (fun i => p * M 36 i + q * M 37 i) (i - 1).toNat) (p * M 36 i + q * M 37 i) = p * M 36 i + q * M 37 i := by omega
             rw [e] at ih2
             exact ih2)
          | (have e : max (mxI (fun i => p * M 36 i + q * M 37 i) (i - 1).toNat) (p * M 36 i + q * M 37 i) = mxI (fun i => p * M 36 i + q * M 37 i) (i - 1).toNat := by omega
             rw [e] at ih2
             exact ih2)
set_option maxRecDepth 100000 in
set_option maxHeartbeats 800000 in
theorem c_X8_most (E : av_E) (d : Nat) (M : av_M) (hP : RPm M) (p q : Int) (hip : -2147483648 ≤ p ∧ p < 2147483648) (hiq : -2147483648 ≤ q ∧ q < 2147483648) : av_Mt E (d + 8) mX8_most [vR 35, vI p, vI q] M (av_X (some (vI (if ¬ ((-99 ≤ p ∧ p ≤ 99) ∧ (-99 ≤ q ∧ q ≤ 99)) then (-900000002) else if M 35 0 = 0 then (-900000003) else mxI (fun i => p * M 36 i + q * M 37 i) (M 35 0 - 1).toNat))) M) := by
  have hc0 := b01_c (-99 ≤ p ∧ p ≤ 99)
  have hc1 := b01_c (-99 ≤ q ∧ q ≤ 99)
  have hn := hP.1
  refine av_enter hX8_most oX8_most rfl rfl ?_
  refine ax_iloadn rfl rfl ?_
  refine ax_i2l rfl (by omega) ?_
  refine ax_ldc2 (z := (-99)) rfl kX8_212 rfl ?_
  refine ax_ldc2 (z := 99) rfl kX8_214 rfl ?_
  refine ax_callS (as := [_, _, _]) rfl sX8_96 hX8_in rfl rfl rfl rfl (c_X8_in E (d + 7) M p (-99) 99 (by omega) (by omega) (by omega)) (av_Xk ?_)
  refine ax_if_eq rfl (by omega) (fun h11 => ?_) (fun h11 => ?_)
  · refine ax_ldc (z := (-900000002)) rfl kX8_100 rfl ?_
    refine ax_iret rfl rfl ?_
    exact av_rI (by rw [if_pos (by omega)])
  · refine ax_iloadn rfl rfl ?_
    refine ax_i2l rfl (by omega) ?_
    refine ax_ldc2 (z := (-99)) rfl kX8_212 rfl ?_
    refine ax_ldc2 (z := 99) rfl kX8_214 rfl ?_
    refine ax_callS (as := [_, _, _]) rfl sX8_96 hX8_in rfl rfl rfl rfl (c_X8_in E (d + 7) M q (-99) 99 (by omega) (by omega) (by omega)) (av_Xk ?_)
    refine ax_if_ne rfl (by omega) (fun h25 => ?_) (fun h25 => ?_)
    · refine ax_aloadn rfl rfl ?_
      refine ax_getI (g := 0) rfl fX8_101 rfl rfl rfl rfl ?_
      refine ax_if_ne rfl (by omega) (fun h35 => ?_) (fun h35 => ?_)
      · refine ax_iloadn rfl rfl ?_
        refine ax_aloadn rfl rfl ?_
        refine ax_getR rfl fX8_7 rfl rfl ?_
        refine ax_iconst rfl ?_
        refine ax_iald rfl rfl (by omega) ?_
        refine ax_imul rfl ?_
        refine ax_iloadn rfl rfl ?_
        refine ax_aloadn rfl rfl ?_
        refine ax_getR rfl fX8_13 rfl rfl ?_
        refine ax_iconst rfl ?_
        refine ax_iald rfl rfl (by omega) ?_
        refine ax_imul rfl ?_
        refine ax_iadd rfl ?_
        refine ax_istoren (ls' := [(0, _), (1, _), (2, _), (3, _)]) rfl rfl rfl ?_
        refine ax_iconst rfl ?_
        refine ax_istore (ls' := [(0, _), (1, _), (2, _), (3, _), (4, _)]) rfl rfl rfl ?_
        refine av_Sw (l_X8_most E (d + 8) M hP p q (by omega) (by omega) (M 35 0 - 1).toNat 1 (by omega) (by omega)) (fun r M' z => ?_)
        obtain ⟨z1, z2⟩ := z
        exact ⟨by rw [z1, if_neg (by omega), if_neg (by omega)], z2⟩
      · refine ax_ldc (z := (-900000003)) rfl kX8_137 rfl ?_
        refine ax_iret rfl rfl ?_
        exact av_rI (by rw [if_neg (by omega), if_pos (by omega)])
    · refine ax_ldc (z := (-900000002)) rfl kX8_100 rfl ?_
      refine ax_iret rfl rfl ?_
      exact av_rI (by rw [if_pos (by omega)])
