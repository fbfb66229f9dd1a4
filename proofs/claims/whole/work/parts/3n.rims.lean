/-! ===== the reference: rims ===== -/
def ON1 (M : av_M) (u v : Int) : Prop := M 52 (4 * u) * M 52 (4 * v + 1) = M 52 (4 * u + 1) * M 52 (4 * v) ∧ M 52 (4 * u) * M 52 (4 * v + 2) = M 52 (4 * u + 2) * M 52 (4 * v) ∧ M 52 (4 * u + 1) * M 52 (4 * v + 2) = M 52 (4 * u + 2) * M 52 (4 * v + 1)
def HT (M : av_M) (z : Int) : Prop := ∃ u v : Int, 0 ≤ v ∧ v < u ∧ u < M 35 23 ∧ (z.toNat.testBit u.toNat = true ∧ z.toNat.testBit v.toNat = true) ∧ ¬ ON1 M u v
def HTb (M : av_M) (z a b : Int) : Prop := ∀ u v : Int, 0 ≤ v → v < u → u < M 35 23 → (u < a ∨ (u = a ∧ v < b)) → (z.toNat.testBit u.toNat = true ∧ z.toNat.testBit v.toNat = true) → ON1 M u v
set_option maxRecDepth 100000 in
set_option maxHeartbeats 800000 in
theorem l2_X8_hasTwo (E : av_E) (d : Nat) (M : av_M) (hR : RWm M) (z : Int) (hz : 0 ≤ z ∧ z < 1024) (u : Int) (hu : 0 ≤ u ∧ u < M 35 23) (nxt : HTb M z (u + 1) 0 → av_S E d mX8_hasTwo 2 [(0, vR 35), (1, vI z), (2, vI (u + 1))] [] M (av_X (some (vI (b01 (HT M z)))) M)) : ∀ (t : Nat) (v : Int), v + t = u → 0 ≤ v → HTb M z u v → av_S E d mX8_hasTwo 12 [(0, vR 35), (1, vI z), (2, vI u), (3, vI v)] [] M (av_X (some (vI (b01 (HT M z)))) M) := by
  have hs := hR.1
  intro t
  induction t with
  | zero =>
    intro v hv v0 hb
    refine ax_iloadn rfl rfl ?_
    refine ax_iloadn rfl rfl ?_
    refine ax_icmp_ge rfl (by omega) (by omega) (fun h14 => ?_) (fun h14 => ?_)
    · refine ax_iinc (ls' := [(0, _), (1, _), (2, _), (3, _)]) rfl rfl rfl rfl ?_
      refine ax_goto rfl ?_
      refine ax_pick [0, 1, 2] rfl ?_
      exact nxt (fun a b b0 ba aw q => hb a b b0 ba aw (by omega))
    · omega
  | succ t ih =>
    intro v hv v0 hb
    have wu := hR.2.1 u hu.1 hu.2
    have wv := hR.2.1 v v0 (by omega)
    unfold rA rB rC at wu wv
    have m1 := mb wu.1 wv.2.1
    have m2 := mb wu.2.1 wv.1
    have m3 := mb wu.1 wv.2.2.1
    have m4 := mb wu.2.2.1 wv.1
    have m5 := mb wu.2.1 wv.2.2.1
    have m6 := mb wu.2.2.1 wv.2.1
    have duo := duo_bit hz (show 0 ≤ u ∧ u < 10 by omega) (show 0 ≤ v ∧ v < 10 by omega)
    refine ax_iloadn rfl rfl ?_
    refine ax_iloadn rfl rfl ?_
    refine ax_icmp_ge rfl (by omega) (by omega) (fun h14 => ?_) (fun h14 => ?_)
    · omega
    · refine ax_aloadn rfl rfl ?_
      refine ax_getR rfl fX8_66 rfl rfl ?_
      refine ax_iconst rfl ?_
      refine ax_iloadn rfl rfl ?_
      refine ax_imul rfl ?_
      refine ax_iald rfl rfl (by omega) ?_
      refine ax_aloadn rfl rfl ?_
      refine ax_getR rfl fX8_66 rfl rfl ?_
      refine ax_iconst rfl ?_
      refine ax_iloadn rfl rfl ?_
      refine ax_imul rfl ?_
      refine ax_iconst rfl ?_
      refine ax_iadd rfl ?_
      refine ax_iald rfl rfl (by omega) ?_
      refine ax_imul rfl ?_
      refine ax_aloadn rfl rfl ?_
      refine ax_getR rfl fX8_66 rfl rfl ?_
      refine ax_iconst rfl ?_
      refine ax_iloadn rfl rfl ?_
      refine ax_imul rfl ?_
      refine ax_iconst rfl ?_
      refine ax_iadd rfl ?_
      refine ax_iald rfl rfl (by omega) ?_
      refine ax_aloadn rfl rfl ?_
      refine ax_getR rfl fX8_66 rfl rfl ?_
      refine ax_iconst rfl ?_
      refine ax_iloadn rfl rfl ?_
      refine ax_imul rfl ?_
      refine ax_iald rfl rfl (by omega) ?_
      refine ax_imul rfl ?_
      refine ax_icmp_ne rfl (by omega) (by omega) (fun h55 => ?_) (fun h55 => ?_)
      · refine ax_iconst rfl ?_
        refine ax_istore (ls' := [(0, _), (1, _), (2, _), (3, _), (4, _)]) rfl rfl rfl ?_
        refine ax_iloadn rfl rfl ?_
        refine ax_iloadn rfl rfl ?_
        refine ax_ishr rfl ?_
        refine ax_iloadn rfl rfl ?_
        refine ax_iloadn rfl rfl ?_
        refine ax_ishr rfl ?_
        refine ax_iand rfl ?_
        refine ax_iconst rfl ?_
        refine ax_iand rfl ?_
        refine ax_iconst rfl ?_
        refine ax_icmp_ne rfl (by rw [duo]; split <;> omega) (by omega) (fun h161 => ?_) (fun h161 => ?_)
        · refine ax_iinc (ls' := [(0, _), (1, _), (2, _), (3, _), (4, _)]) rfl rfl rfl rfl ?_
          refine ax_goto rfl ?_
          refine ax_pick [0, 1, 2, 3] rfl ?_
          rw [duo] at h161
          refine ih (v + 1) (by omega) (by omega) (fun a b b0 ba aw q hbits => ?_)
          by_cases e : a = u ∧ b = v
          · rw [e.1, e.2] at hbits ⊢
            rw [if_pos hbits] at h161
            first
              | omega
              | (refine ⟨?_, ?_, ?_⟩ <;> omega)
          · exact hb a b b0 ba aw (by omega) hbits
        · refine ax_iload rfl rfl ?_
          refine ax_if_ne rfl (by omega) (fun h166 => ?_) (fun h166 => ?_)
          · refine ax_iinc (ls' := [(0, _), (1, _), (2, _), (3, _), (4, _)]) rfl rfl rfl rfl ?_
            refine ax_goto rfl ?_
            refine ax_pick [0, 1, 2, 3] rfl ?_
            rw [duo] at h161
            refine ih (v + 1) (by omega) (by omega) (fun a b b0 ba aw q hbits => ?_)
            by_cases e : a = u ∧ b = v
            · rw [e.1, e.2] at hbits ⊢
              rw [if_pos hbits] at h161
              first
                | omega
                | (refine ⟨?_, ?_, ?_⟩ <;> omega)
            · exact hb a b b0 ba aw (by omega) hbits
          · refine ax_iconst rfl ?_
            refine ax_zret rfl rfl (by omega) ?_
            rw [duo] at h161
            have hbits : z.toNat.testBit u.toNat = true ∧ z.toNat.testBit v.toNat = true := by
              apply Classical.byContradiction
              intro c
              rw [if_neg c] at h161
              omega
            first
              | omega
              | (refine av_rI (b01_t ⟨u, v, v0, by omega, hu.2, hbits, fun q => ?_⟩).symm
                 obtain ⟨q1, q2, q3⟩ := q
                 omega)
      · refine ax_aloadn rfl rfl ?_
        refine ax_getR rfl fX8_66 rfl rfl ?_
        refine ax_iconst rfl ?_
        refine ax_iloadn rfl rfl ?_
        refine ax_imul rfl ?_
        refine ax_iald rfl rfl (by omega) ?_
        refine ax_aloadn rfl rfl ?_
        refine ax_getR rfl fX8_66 rfl rfl ?_
        refine ax_iconst rfl ?_
        refine ax_iloadn rfl rfl ?_
        refine ax_imul rfl ?_
        refine ax_iconst rfl ?_
        refine ax_iadd rfl ?_
        refine ax_iald rfl rfl (by omega) ?_
        refine ax_imul rfl ?_
        refine ax_aloadn rfl rfl ?_
        refine ax_getR rfl fX8_66 rfl rfl ?_
        refine ax_iconst rfl ?_
        refine ax_iloadn rfl rfl ?_
        refine ax_imul rfl ?_
        refine ax_iconst rfl ?_
        refine ax_iadd rfl ?_
        refine ax_iald rfl rfl (by omega) ?_
        refine ax_aloadn rfl rfl ?_
        refine ax_getR rfl fX8_66 rfl rfl ?_
        refine ax_iconst rfl ?_
        refine ax_iloadn rfl rfl ?_
        refine ax_imul rfl ?_
        refine ax_iald rfl rfl (by omega) ?_
        refine ax_imul rfl ?_
        refine ax_icmp_ne rfl (by omega) (by omega) (fun h96 => ?_) (fun h96 => ?_)
        · refine ax_iconst rfl ?_
          refine ax_istore (ls' := [(0, _), (1, _), (2, _), (3, _), (4, _)]) rfl rfl rfl ?_
          refine ax_iloadn rfl rfl ?_
          refine ax_iloadn rfl rfl ?_
          refine ax_ishr rfl ?_
          refine ax_iloadn rfl rfl ?_
          refine ax_iloadn rfl rfl ?_
          refine ax_ishr rfl ?_
          refine ax_iand rfl ?_
          refine ax_iconst rfl ?_
          refine ax_iand rfl ?_
          refine ax_iconst rfl ?_
          refine ax_icmp_ne rfl (by rw [duo]; split <;> omega) (by omega) (fun h161 => ?_) (fun h161 => ?_)
          · refine ax_iinc (ls' := [(0, _), (1, _), (2, _), (3, _), (4, _)]) rfl rfl rfl rfl ?_
            refine ax_goto rfl ?_
            refine ax_pick [0, 1, 2, 3] rfl ?_
            rw [duo] at h161
            refine ih (v + 1) (by omega) (by omega) (fun a b b0 ba aw q hbits => ?_)
            by_cases e : a = u ∧ b = v
            · rw [e.1, e.2] at hbits ⊢
              rw [if_pos hbits] at h161
              first
                | omega
                | (refine ⟨?_, ?_, ?_⟩ <;> omega)
            · exact hb a b b0 ba aw (by omega) hbits
          · refine ax_iload rfl rfl ?_
            refine ax_if_ne rfl (by omega) (fun h166 => ?_) (fun h166 => ?_)
            · refine ax_iinc (ls' := [(0, _), (1, _), (2, _), (3, _), (4, _)]) rfl rfl rfl rfl ?_
              refine ax_goto rfl ?_
              refine ax_pick [0, 1, 2, 3] rfl ?_
              rw [duo] at h161
              refine ih (v + 1) (by omega) (by omega) (fun a b b0 ba aw q hbits => ?_)
              by_cases e : a = u ∧ b = v
              · rw [e.1, e.2] at hbits ⊢
                rw [if_pos hbits] at h161
                first
                  | omega
                  | (refine ⟨?_, ?_, ?_⟩ <;> omega)
              · exact hb a b b0 ba aw (by omega) hbits
            · refine ax_iconst rfl ?_
              refine ax_zret rfl rfl (by omega) ?_
              rw [duo] at h161
              have hbits : z.toNat.testBit u.toNat = true ∧ z.toNat.testBit v.toNat = true := by
                apply Classical.byContradiction
                intro c
                rw [if_neg c] at h161
                omega
              first
                | omega
                | (refine av_rI (b01_t ⟨u, v, v0, by omega, hu.2, hbits, fun q => ?_⟩).symm
                   obtain ⟨q1, q2, q3⟩ := q
                   omega)
        · refine ax_aloadn rfl rfl ?_
          refine ax_getR rfl fX8_66 rfl rfl ?_
          refine ax_iconst rfl ?_
          refine ax_iloadn rfl rfl ?_
          refine ax_imul rfl ?_
          refine ax_iconst rfl ?_
          refine ax_iadd rfl ?_
          refine ax_iald rfl rfl (by omega) ?_
          refine ax_aloadn rfl rfl ?_
          refine ax_getR rfl fX8_66 rfl rfl ?_
          refine ax_iconst rfl ?_
          refine ax_iloadn rfl rfl ?_
          refine ax_imul rfl ?_
          refine ax_iconst rfl ?_
          refine ax_iadd rfl ?_
          refine ax_iald rfl rfl (by omega) ?_
          refine ax_imul rfl ?_
          refine ax_aloadn rfl rfl ?_
          refine ax_getR rfl fX8_66 rfl rfl ?_
          refine ax_iconst rfl ?_
          refine ax_iloadn rfl rfl ?_
          refine ax_imul rfl ?_
          refine ax_iconst rfl ?_
          refine ax_iadd rfl ?_
          refine ax_iald rfl rfl (by omega) ?_
          refine ax_aloadn rfl rfl ?_
          refine ax_getR rfl fX8_66 rfl rfl ?_
          refine ax_iconst rfl ?_
          refine ax_iloadn rfl rfl ?_
          refine ax_imul rfl ?_
          refine ax_iconst rfl ?_
          refine ax_iadd rfl ?_
          refine ax_iald rfl rfl (by omega) ?_
          refine ax_imul rfl ?_
          refine ax_icmp_ne rfl (by omega) (by omega) (fun h141 => ?_) (fun h141 => ?_)
          · refine ax_iconst rfl ?_
            refine ax_istore (ls' := [(0, _), (1, _), (2, _), (3, _), (4, _)]) rfl rfl rfl ?_
            refine ax_iloadn rfl rfl ?_
            refine ax_iloadn rfl rfl ?_
            refine ax_ishr rfl ?_
            refine ax_iloadn rfl rfl ?_
            refine ax_iloadn rfl rfl ?_
            refine ax_ishr rfl ?_
            refine ax_iand rfl ?_
            refine ax_iconst rfl ?_
            refine ax_iand rfl ?_
            refine ax_iconst rfl ?_
            refine ax_icmp_ne rfl (by rw [duo]; split <;> omega) (by omega) (fun h161 => ?_) (fun h161 => ?_)
            · refine ax_iinc (ls' := [(0, _), (1, _), (2, _), (3, _), (4, _)]) rfl rfl rfl rfl ?_
              refine ax_goto rfl ?_
              refine ax_pick [0, 1, 2, 3] rfl ?_
              rw [duo] at h161
              refine ih (v + 1) (by omega) (by omega) (fun a b b0 ba aw q hbits => ?_)
              by_cases e : a = u ∧ b = v
              · rw [e.1, e.2] at hbits ⊢
                rw [if_pos hbits] at h161
                first
                  | omega
                  | (refine ⟨?_, ?_, ?_⟩ <;> omega)
              · exact hb a b b0 ba aw (by omega) hbits
            · refine ax_iload rfl rfl ?_
              refine ax_if_ne rfl (by omega) (fun h166 => ?_) (fun h166 => ?_)
              · refine ax_iinc (ls' := [(0, _), (1, _), (2, _), (3, _), (4, _)]) rfl rfl rfl rfl ?_
                refine ax_goto rfl ?_
                refine ax_pick [0, 1, 2, 3] rfl ?_
                rw [duo] at h161
                refine ih (v + 1) (by omega) (by omega) (fun a b b0 ba aw q hbits => ?_)
                by_cases e : a = u ∧ b = v
                · rw [e.1, e.2] at hbits ⊢
                  rw [if_pos hbits] at h161
                  first
                    | omega
                    | (refine ⟨?_, ?_, ?_⟩ <;> omega)
                · exact hb a b b0 ba aw (by omega) hbits
              · refine ax_iconst rfl ?_
                refine ax_zret rfl rfl (by omega) ?_
                rw [duo] at h161
                have hbits : z.toNat.testBit u.toNat = true ∧ z.toNat.testBit v.toNat = true := by
                  apply Classical.byContradiction
                  intro c
                  rw [if_neg c] at h161
                  omega
                first
                  | omega
                  | (refine av_rI (b01_t ⟨u, v, v0, by omega, hu.2, hbits, fun q => ?_⟩).symm
                     obtain ⟨q1, q2, q3⟩ := q
                     omega)
          · refine ax_iconst rfl ?_
            refine ax_goto rfl ?_
            refine ax_istore (ls' := [(0, _), (1, _), (2, _), (3, _), (4, _)]) rfl rfl rfl ?_
            refine ax_iloadn rfl rfl ?_
            refine ax_iloadn rfl rfl ?_
            refine ax_ishr rfl ?_
            refine ax_iloadn rfl rfl ?_
            refine ax_iloadn rfl rfl ?_
            refine ax_ishr rfl ?_
            refine ax_iand rfl ?_
            refine ax_iconst rfl ?_
            refine ax_iand rfl ?_
            refine ax_iconst rfl ?_
            refine ax_icmp_ne rfl (by rw [duo]; split <;> omega) (by omega) (fun h161 => ?_) (fun h161 => ?_)
            · refine ax_iinc (ls' := [(0, _), (1, _), (2, _), (3, _), (4, _)]) rfl rfl rfl rfl ?_
              refine ax_goto rfl ?_
              refine ax_pick [0, 1, 2, 3] rfl ?_
              rw [duo] at h161
              refine ih (v + 1) (by omega) (by omega) (fun a b b0 ba aw q hbits => ?_)
              by_cases e : a = u ∧ b = v
              · rw [e.1, e.2] at hbits ⊢
                rw [if_pos hbits] at h161
                first
                  | omega
                  | (refine ⟨?_, ?_, ?_⟩ <;> omega)
              · exact hb a b b0 ba aw (by omega) hbits
            · refine ax_iload rfl rfl ?_
              refine ax_if_ne rfl (by omega) (fun h166 => ?_) (fun h166 => ?_)
              · refine ax_iinc (ls' := [(0, _), (1, _), (2, _), (3, _), (4, _)]) rfl rfl rfl rfl ?_
                refine ax_goto rfl ?_
                refine ax_pick [0, 1, 2, 3] rfl ?_
                rw [duo] at h161
                refine ih (v + 1) (by omega) (by omega) (fun a b b0 ba aw q hbits => ?_)
                by_cases e : a = u ∧ b = v
                · rw [e.1, e.2] at hbits ⊢
                  rw [if_pos hbits] at h161
                  first
                    | omega
                    | (refine ⟨?_, ?_, ?_⟩ <;> omega)
                · exact hb a b b0 ba aw (by omega) hbits
              · refine ax_iconst rfl ?_
                refine ax_zret rfl rfl (by omega) ?_
                rw [duo] at h161
                have hbits : z.toNat.testBit u.toNat = true ∧ z.toNat.testBit v.toNat = true := by
                  apply Classical.byContradiction
                  intro c
                  rw [if_neg c] at h161
                  omega
                first
                  | omega
                  | (refine av_rI (b01_t ⟨u, v, v0, by omega, hu.2, hbits, fun q => ?_⟩).symm
                     obtain ⟨q1, q2, q3⟩ := q
                     omega)
set_option maxRecDepth 100000 in
set_option maxHeartbeats 800000 in
theorem l1_X8_hasTwo (E : av_E) (d : Nat) (M : av_M) (hR : RWm M) (z : Int) (hz : 0 ≤ z ∧ z < 1024) : ∀ (t : Nat) (u : Int), u + t = M 35 23 → 0 ≤ u → HTb M z u 0 → av_S E d mX8_hasTwo 2 [(0, vR 35), (1, vI z), (2, vI u)] [] M (av_X (some (vI (b01 (HT M z)))) M) := by
  have hs := hR.1
  intro t
  induction t with
  | zero =>
    intro u hu u0 hb
    refine ax_iloadn rfl rfl ?_
    refine ax_aloadn rfl rfl ?_
    refine ax_getI (g := 23) rfl fX8_216 rfl rfl rfl rfl ?_
    refine ax_icmp_ge rfl (by omega) (by omega) (fun h7 => ?_) (fun h7 => ?_)
    · refine ax_iconst rfl ?_
      refine ax_zret rfl rfl (by omega) ?_
      refine av_rI (b01_f ?_).symm
      rintro ⟨a, b, b0, ba, aw, hbits, hn⟩
      exact hn (hb a b b0 ba aw (by omega) hbits)
    · omega
  | succ t ih =>
    intro u hu u0 hb
    refine ax_iloadn rfl rfl ?_
    refine ax_aloadn rfl rfl ?_
    refine ax_getI (g := 23) rfl fX8_216 rfl rfl rfl rfl ?_
    refine ax_icmp_ge rfl (by omega) (by omega) (fun h7 => ?_) (fun h7 => ?_)
    · omega
    · refine ax_iconst rfl ?_
      refine ax_istoren (ls' := [(0, _), (1, _), (2, _), (3, _)]) rfl rfl rfl ?_
      exact l2_X8_hasTwo E d M hR z hz u ⟨u0, by omega⟩ (fun q => ih (u + 1) (by omega) (by omega) q) u.toNat 0 (by omega) (by omega) hb
set_option maxRecDepth 100000 in
set_option maxHeartbeats 800000 in
theorem c_X8_hasTwo (E : av_E) (d : Nat) (M : av_M) (hR : RWm M) (z : Int) (hz : 0 ≤ z ∧ z < 1024) : av_Mt E d mX8_hasTwo [vR 35, vI z] M (av_X (some (vI (b01 (HT M z)))) M) := by
  have hs := hR.1
  refine av_enter hX8_hasTwo oX8_hasTwo rfl rfl ?_
  refine ax_iconst rfl ?_
  refine ax_istoren (ls' := [(0, _), (1, _), (2, _)]) rfl rfl rfl ?_
  exact l1_X8_hasTwo E d M hR z hz (M 35 23).toNat 0 (by omega) (by omega) (fun a b b0 ba aw q => by omega)
def TB (M : av_M) (on : Int) (p : p3) (v : Int) : Prop := 0 ≤ v ∧ v < 1024 ∧ ∀ t : Nat, v.toNat.testBit t = true ↔ Sg on t ∧ TI (RW M) t p
theorem and_sub {a b : Int} (ha : 0 ≤ a ∧ a < 1024) (hb : 0 ≤ b ∧ b < 1024) : bi_and a b = b ↔ ∀ t : Nat, b.toNat.testBit t = true → a.toNat.testBit t = true := by
  obtain ⟨r0, r1, r2⟩ := bi_and_rng' ha hb
  constructor
  · intro e t ht
    have := r2 t
    rw [e, ht, Bool.and_true] at this
    exact this.symm
  · intro h
    refine eq_bits r0 hb.1 (fun t => ?_)
    rw [r2 t, Bool.and_eq_true]
    exact ⟨fun q => q.2, fun q => ⟨h t q, q⟩⟩
def RmG (M : av_M) (on N : Int) (g : Int → p3) (i j : Int) : Prop := ∀ k, 0 ≤ k → k < N → k ≠ i → k ≠ j → ¬ ∀ t : Nat, (Sg on t ∧ TI (RW M) t (g i) ∧ TI (RW M) t (g j)) → TI (RW M) t (g k)
def ISc (M : av_M) (on : Int) (g : Int → p3) (z a b c : Int) : Prop := HT M z ∧ ∀ k, 0 ≤ k → k < c → k ≠ a → k ≠ b → ¬ ∀ t : Nat, z.toNat.testBit t = true → Sg on t ∧ TI (RW M) t (g k)
theorem IS_R {M : av_M} {on N : Int} {g : Int → p3} (hR : RWm M) (hon : ONm M on) (hE : RE g N (VX (RW M) (Sg on))) (hS : Snd (RW M) (Sg on)) {z a b : Int} (ha : 0 ≤ a ∧ a < N) (hb : 0 ≤ b ∧ b < a) (hz : ∀ t : Nat, z.toNat.testBit t = true ↔ Sg on t ∧ TI (RW M) t (g a) ∧ TI (RW M) t (g b)) : ISc M on g z a b N ↔ RmG M on N g a b := by
  have key : ∀ k, (∀ t : Nat, z.toNat.testBit t = true → Sg on t ∧ TI (RW M) t (g k)) ↔ ∀ t : Nat, (Sg on t ∧ TI (RW M) t (g a) ∧ TI (RW M) t (g b)) → TI (RW M) t (g k) := by
    intro k
    constructor
    · intro h t ht; exact (h t ((hz t).mpr ht)).2
    · intro h t ht; exact ⟨((hz t).mp ht).1, h t ((hz t).mp ht)⟩
  constructor
  · rintro ⟨_, h⟩ k k0 k1 k2 k3 q
    exact h k k0 k1 k2 k3 ((key k).mpr q)
  · intro h
    refine ⟨?_, fun k k0 k1 k2 k3 q => h k k0 k1 k2 k3 ((key k).mp q)⟩
    have hne : g a ≠ g b := fun e => by
      have := RE_lt hE hb.1 hb.2 ha.2
      rw [e] at this
      exact lx3_ir _ this
    obtain ⟨i, j, si, sj, ti1, ti2, tj1, tj2, hx⟩ := rim_two (s := (M 35 23).toNat) (fun i si => by have := hon.t i si; omega) (fun i si => WI_nz (RW_WI hR) i (hon.t i si)) hS (RE_in hE ha.1 ha.2) (RE_in hE hb.1 (by omega)) hne (fun r hr n1 n2 q => by
      obtain ⟨k, k1, e⟩ := (hE.2.2 r).mp hr
      have e' : r = g (k : Int) := e
      refine h k (by omega) (by omega) (fun c => n1 (by rw [e', c])) (fun c => n2 (by rw [e', c])) (fun t ht => ?_)
      rw [← e']
      exact q t ht.1 ht.2.1 ht.2.2)
    have bi := (hz i).mpr ⟨si, ti1, ti2⟩
    have bj := (hz j).mpr ⟨sj, tj1, tj2⟩
    have wi := hon.t i si
    have wj := hon.t j sj
    have hx2 : ¬ (rB M i * rC M j - rC M i * rB M j = 0 ∧ rC M i * rA M j - rA M i * rC M j = 0 ∧ rA M i * rB M j - rB M i * rA M j = 0) := fun q => hx (xs_z.mpr q)
    unfold rA rB rC at hx2
    rcases Nat.lt_trichotomy i j with q | q | q
    · refine ⟨j, i, by omega, by omega, wj, ⟨by simpa using bj, by simpa using bi⟩, ?_⟩
      rintro ⟨e1, e2, e3⟩
      apply hx2
      have c1 := Int.mul_comm (M 52 (4 * (j : Int))) (M 52 (4 * (i : Int) + 1))
      have c2 := Int.mul_comm (M 52 (4 * (j : Int) + 1)) (M 52 (4 * (i : Int)))
      have c3 := Int.mul_comm (M 52 (4 * (j : Int))) (M 52 (4 * (i : Int) + 2))
      have c4 := Int.mul_comm (M 52 (4 * (j : Int) + 2)) (M 52 (4 * (i : Int)))
      have c5 := Int.mul_comm (M 52 (4 * (j : Int) + 1)) (M 52 (4 * (i : Int) + 2))
      have c6 := Int.mul_comm (M 52 (4 * (j : Int) + 2)) (M 52 (4 * (i : Int) + 1))
      refine ⟨?_, ?_, ?_⟩ <;> omega
    · subst q
      exfalso
      apply hx2
      have c1 := Int.mul_comm (M 52 (4 * (i : Int))) (M 52 (4 * (i : Int) + 1))
      have c3 := Int.mul_comm (M 52 (4 * (i : Int))) (M 52 (4 * (i : Int) + 2))
      have c5 := Int.mul_comm (M 52 (4 * (i : Int) + 1)) (M 52 (4 * (i : Int) + 2))
      refine ⟨?_, ?_, ?_⟩ <;> omega
    · refine ⟨i, j, by omega, by omega, wi, ⟨by simpa using bi, by simpa using bj⟩, ?_⟩
      rintro ⟨e1, e2, e3⟩
      apply hx2
      refine ⟨?_, ?_, ?_⟩ <;> omega
theorem ISc_s {M : av_M} {on : Int} {g : Int → p3} {z a b c : Int} (c0 : 0 ≤ c) : ISc M on g z a b (c + 1) ↔ ISc M on g z a b c ∧ (c ≠ a → c ≠ b → ¬ ∀ t : Nat, z.toNat.testBit t = true → Sg on t ∧ TI (RW M) t (g c)) := by
  constructor
  · rintro ⟨h1, h2⟩
    exact ⟨⟨h1, fun k k0 k1 => h2 k k0 (by omega)⟩, h2 c c0 (by omega)⟩
  · rintro ⟨⟨h1, h2⟩, h3⟩
    refine ⟨h1, fun k k0 k1 => ?_⟩
    by_cases q : k = c
    · rw [q]; exact h3
    · exact h2 k k0 (by omega)
theorem ISc_w {M : av_M} {on : Int} {g : Int → p3} {z a b c c' : Int} (h : ISc M on g z a b c') (q : c ≤ c') : ISc M on g z a b c := ⟨h.1, fun k k0 k1 => h.2 k k0 (by omega)⟩
set_option maxRecDepth 100000 in
set_option maxHeartbeats 800000 in
theorem c_X8_tightAtG (E : av_E) (d : Nat) (M : av_M) (hR : RWm M) (on : Int) (hon : ONm M on) (N : Int) (g : Int → p3) (hV : LVm M N g) (hN : N ≤ 120) (k : Int) (hk : 0 ≤ k ∧ k < N) : av_Mt E (d + 1) mX8_tightAt [vR 35, vI on, vI k] M (fun res M' => (∃ v, res = some (vI v) ∧ TB M on (g k) v) ∧ M' = M) := by
  have hs := hR.1
  obtain ⟨ev, hG, hg⟩ := hV
  have hB := hG k hk.1 hk.2
  refine av_enter hX8_tightAt oX8_tightAt rfl rfl ?_
  refine ax_iconst rfl ?_
  refine ax_istoren (ls' := [(0, _), (1, _), (2, _), (3, _)]) rfl rfl rfl ?_
  refine ax_iconst rfl ?_
  refine ax_istore (ls' := [(0, _), (1, _), (2, _), (3, _), (4, _)]) rfl rfl rfl ?_
  refine av_Sw (l_X8_tightAt E d M hR on k hon.r (by omega) hB (M 35 23).toNat 0 0 (by omega) (by omega) (bset_nil (by omega))) (fun r M' hq => ?_)
  obtain ⟨⟨v, q1, q2⟩, q3⟩ := hq
  refine ⟨⟨v, q1, q2.1, q2.2.1, fun t => (q2.2.2 t).trans ?_⟩, q3⟩
  rw [← hg k hk.1 hk.2]
  constructor
  · rintro ⟨_, a, b⟩
    exact ⟨a, (ex_zero hB.2.2.2.1).mp b⟩
  · rintro ⟨a, b⟩
    exact ⟨hon.t t a, a, (ex_zero hB.2.2.2.1).mpr b⟩
set_option maxRecDepth 100000 in
set_option maxHeartbeats 800000 in
theorem l3_X8_rims (E : av_E) (d : Nat) (M : av_M) (hR : RWm M) (on : Int) (hon : ONm M on) (N : Int) (g : Int → p3) (hV : LVm M N g) (hN : N ≤ 120) (z n a b : Int) (hz : 0 ≤ z ∧ z < 1024) (Q : Option av_V → av_M → Prop) (nxt : av_S E (d + 2) mX8_rims 119 [(0, vR 35), (1, vI on), (2, vI n), (3, vI a), (4, vI b), (5, vI z), (6, vI (b01 (ISc M on g z a b N)))] [] M Q) (hab : (0 ≤ a ∧ a < N) ∧ 0 ≤ b ∧ b < a) : ∀ (t : Nat) (c : Int), c + t = N → 0 ≤ c → av_S E (d + 2) mX8_rims 64 [(0, vR 35), (1, vI on), (2, vI n), (3, vI a), (4, vI b), (5, vI z), (6, vI (b01 (ISc M on g z a b c))), (7, vI c)] [] M Q := by
  have ev := hV.1
  intro t
  induction t with
  | zero =>
    intro c hc c0
    have ec : c = N := by omega
    subst ec
    have b2 := b01_rng (ISc M on g z a b c)
    refine ax_iload rfl rfl ?_
    refine ax_aloadn rfl rfl ?_
    refine ax_getI (g := 26) rfl fX8_228 rfl rfl rfl rfl ?_
    refine ax_icmp_ge rfl (by omega) (by omega) (fun h70 => ?_) (fun h70 => ?_)
    · refine ax_pick [0, 1, 2, 3, 4, 5, 6] rfl ?_
      exact nxt
    · omega
  | succ t ih =>
    intro c hc c0
    have ih2 := ih (c + 1) (by omega) (by omega)
    have b2 := b01_rng (ISc M on g z a b c)
    have st := ISc_s (M := M) (on := on) (g := g) (z := z) (a := a) (b := b) c0
    refine ax_iload rfl rfl ?_
    refine ax_aloadn rfl rfl ?_
    refine ax_getI (g := 26) rfl fX8_228 rfl rfl rfl rfl ?_
    refine ax_icmp_ge rfl (by omega) (by omega) (fun h70 => ?_) (fun h70 => ?_)
    · refine ax_pick [0, 1, 2, 3, 4, 5, 6] rfl ?_
      first
        | omega
        | (have e0 : b01 (ISc M on g z a b c) = 0 := by omega
           have e1 : b01 (ISc M on g z a b N) = 0 := b01_f (fun q => b01_eq e0 (ISc_w q (by omega)))
           rw [e1] at nxt
           rw [e0]
           exact nxt)
    · refine ax_iload rfl rfl ?_
      refine ax_if_eq rfl (by omega) (fun h75 => ?_) (fun h75 => ?_)
      · refine ax_pick [0, 1, 2, 3, 4, 5, 6] rfl ?_
        first
          | omega
          | (have e0 : b01 (ISc M on g z a b c) = 0 := by omega
             have e1 : b01 (ISc M on g z a b N) = 0 := b01_f (fun q => b01_eq e0 (ISc_w q (by omega)))
             rw [e1] at nxt
             rw [e0]
             exact nxt)
      · refine ax_iload rfl rfl ?_
        refine ax_iloadn rfl rfl ?_
        refine ax_icmp_eq rfl (by omega) (by omega) (fun h81 => ?_) (fun h81 => ?_)
        · refine ax_iconst rfl ?_
          refine ax_goto rfl ?_
          refine ax_istore (ls' := [(0, _), (1, _), (2, _), (3, _), (4, _), (5, _), (6, _), (7, _)]) rfl rfl rfl ?_
          refine ax_iinc (ls' := [(0, _), (1, _), (2, _), (3, _), (4, _), (5, _), (6, _), (7, _)]) rfl rfl rfl rfl ?_
          refine ax_goto rfl ?_
          refine ax_pick [0, 1, 2, 3, 4, 5, 6, 7] rfl ?_
          have hI := b01_ne (P := ISc M on g z a b c) (by omega)
          first
            | (have e : b01 (ISc M on g z a b (c + 1)) = 1 := b01_t (st.mpr ⟨hI, fun q1 q2 => by omega⟩)
               rw [e] at ih2
               exact ih2)
            | (have hs := and_sub ⟨hv.1, hv.2.1⟩ hz
               have hn : ¬ bi_and v z = z := by omega
               have e : b01 (ISc M on g z a b (c + 1)) = 1 := b01_t (st.mpr ⟨hI, fun _ _ q => hn (hs.mpr (fun t ht => (hv.2.2 t).mpr (q t ht)))⟩)
               rw [e] at ih2
               exact ih2)
            | (have hs := and_sub ⟨hv.1, hv.2.1⟩ hz
               have hn : bi_and v z = z := by omega
               have e : b01 (ISc M on g z a b (c + 1)) = 0 := b01_f (fun q => (st.mp q).2 (by omega) (by omega) (fun t ht => (hv.2.2 t).mp (hs.mp hn t ht)))
               rw [e] at ih2
               exact ih2)
        · refine ax_iload rfl rfl ?_
          refine ax_iload rfl rfl ?_
          refine ax_icmp_eq rfl (by omega) (by omega) (fun h88 => ?_) (fun h88 => ?_)
          · refine ax_iconst rfl ?_
            refine ax_goto rfl ?_
            refine ax_istore (ls' := [(0, _), (1, _), (2, _), (3, _), (4, _), (5, _), (6, _), (7, _)]) rfl rfl rfl ?_
            refine ax_iinc (ls' := [(0, _), (1, _), (2, _), (3, _), (4, _), (5, _), (6, _), (7, _)]) rfl rfl rfl rfl ?_
            refine ax_goto rfl ?_
            refine ax_pick [0, 1, 2, 3, 4, 5, 6, 7] rfl ?_
            have hI := b01_ne (P := ISc M on g z a b c) (by omega)
            first
              | (have e : b01 (ISc M on g z a b (c + 1)) = 1 := b01_t (st.mpr ⟨hI, fun q1 q2 => by omega⟩)
                 rw [e] at ih2
                 exact ih2)
              | (have hs := and_sub ⟨hv.1, hv.2.1⟩ hz
                 have hn : ¬ bi_and v z = z := by omega
                 have e : b01 (ISc M on g z a b (c + 1)) = 1 := b01_t (st.mpr ⟨hI, fun _ _ q => hn (hs.mpr (fun t ht => (hv.2.2 t).mpr (q t ht)))⟩)
                 rw [e] at ih2
                 exact ih2)
              | (have hs := and_sub ⟨hv.1, hv.2.1⟩ hz
                 have hn : bi_and v z = z := by omega
                 have e : b01 (ISc M on g z a b (c + 1)) = 0 := b01_f (fun q => (st.mp q).2 (by omega) (by omega) (fun t ht => (hv.2.2 t).mp (hs.mp hn t ht)))
                 rw [e] at ih2
                 exact ih2)
          · refine ax_aloadn rfl rfl ?_
            refine ax_iloadn rfl rfl ?_
            refine ax_iload rfl rfl ?_
            refine ax_callV (as := [_, _]) rfl vX8_269 hX8_tightAt rfl rfl rfl rfl rfl (c_X8_tightAtG E d M hR on hon N g hV hN c (by omega)) (fun r95 M95 hr95 => ?_)
            obtain ⟨⟨v, rfl, hv⟩, hM95⟩ := hr95
            have hM95s := hM95.symm
            subst hM95s
            refine ax_iload rfl rfl ?_
            refine ax_iand rfl ?_
            refine ax_iload rfl rfl ?_
            refine ax_icmp_eq rfl (by have := (bi_and_rng' ⟨hv.1, hv.2.1⟩ hz); omega) (by omega) (fun h103 => ?_) (fun h103 => ?_)
            · refine ax_iconst rfl ?_
              refine ax_istore (ls' := [(0, _), (1, _), (2, _), (3, _), (4, _), (5, _), (6, _), (7, _)]) rfl rfl rfl ?_
              refine ax_iinc (ls' := [(0, _), (1, _), (2, _), (3, _), (4, _), (5, _), (6, _), (7, _)]) rfl rfl rfl rfl ?_
              refine ax_goto rfl ?_
              refine ax_pick [0, 1, 2, 3, 4, 5, 6, 7] rfl ?_
              have hI := b01_ne (P := ISc M on g z a b c) (by omega)
              first
                | (have e : b01 (ISc M on g z a b (c + 1)) = 1 := b01_t (st.mpr ⟨hI, fun q1 q2 => by omega⟩)
                   rw [e] at ih2
                   exact ih2)
                | (have hs := and_sub ⟨hv.1, hv.2.1⟩ hz
                   have hn : ¬ bi_and v z = z := by omega
                   have e : b01 (ISc M on g z a b (c + 1)) = 1 := b01_t (st.mpr ⟨hI, fun _ _ q => hn (hs.mpr (fun t ht => (hv.2.2 t).mpr (q t ht)))⟩)
                   rw [e] at ih2
                   exact ih2)
                | (have hs := and_sub ⟨hv.1, hv.2.1⟩ hz
                   have hn : bi_and v z = z := by omega
                   have e : b01 (ISc M on g z a b (c + 1)) = 0 := b01_f (fun q => (st.mp q).2 (by omega) (by omega) (fun t ht => (hv.2.2 t).mp (hs.mp hn t ht)))
                   rw [e] at ih2
                   exact ih2)
            · refine ax_iconst rfl ?_
              refine ax_goto rfl ?_
              refine ax_istore (ls' := [(0, _), (1, _), (2, _), (3, _), (4, _), (5, _), (6, _), (7, _)]) rfl rfl rfl ?_
              refine ax_iinc (ls' := [(0, _), (1, _), (2, _), (3, _), (4, _), (5, _), (6, _), (7, _)]) rfl rfl rfl rfl ?_
              refine ax_goto rfl ?_
              refine ax_pick [0, 1, 2, 3, 4, 5, 6, 7] rfl ?_
              have hI := b01_ne (P := ISc M on g z a b c) (by omega)
              first
                | (have e : b01 (ISc M on g z a b (c + 1)) = 1 := b01_t (st.mpr ⟨hI, fun q1 q2 => by omega⟩)
                   rw [e] at ih2
                   exact ih2)
                | (have hs := and_sub ⟨hv.1, hv.2.1⟩ hz
                   have hn : ¬ bi_and v z = z := by omega
                   have e : b01 (ISc M on g z a b (c + 1)) = 1 := b01_t (st.mpr ⟨hI, fun _ _ q => hn (hs.mpr (fun t ht => (hv.2.2 t).mpr (q t ht)))⟩)
                   rw [e] at ih2
                   exact ih2)
                | (have hs := and_sub ⟨hv.1, hv.2.1⟩ hz
                   have hn : bi_and v z = z := by omega
                   have e : b01 (ISc M on g z a b (c + 1)) = 0 := b01_f (fun q => (st.mp q).2 (by omega) (by omega) (fun t ht => (hv.2.2 t).mp (hs.mp hn t ht)))
                   rw [e] at ih2
                   exact ih2)
set_option maxRecDepth 100000 in
set_option maxHeartbeats 800000 in
theorem l2_X8_rims (E : av_E) (d : Nat) (M : av_M) (hR : RWm M) (on : Int) (hon : ONm M on) (N : Int) (g : Int → p3) (hV : LVm M N g) (hN : N ≤ 120) (hS : Snd (RW M) (Sg on)) (hE : RE g N (VX (RW M) (Sg on))) (a base : Int) (ha : 0 ≤ a ∧ a < N) (Q : Option av_V → av_M → Prop) (nxt : av_S E (d + 2) mX8_rims 20 [(0, vR 35), (1, vI on), (2, vI (base + isum (fun b => b01 (RmG M on N g a b)) a.toNat)), (3, vI (a + 1))] [] M Q) : ∀ (t : Nat) (b : Int), b + t = a → 0 ≤ b → av_S E (d + 2) mX8_rims 31 [(0, vR 35), (1, vI on), (2, vI (base + isum (fun b => b01 (RmG M on N g a b)) b.toNat)), (3, vI a), (4, vI b)] [] M Q := by
  intro t
  induction t with
  | zero =>
    intro b hb b0
    have eb : b = a := by omega
    subst eb
    refine ax_iload rfl rfl ?_
    refine ax_iloadn rfl rfl ?_
    refine ax_icmp_ge rfl (by omega) (by omega) (fun h34 => ?_) (fun h34 => ?_)
    · refine ax_iinc (ls' := [(0, _), (1, _), (2, _), (3, _), (4, _)]) rfl rfl rfl rfl ?_
      refine ax_goto rfl ?_
      refine ax_pick [0, 1, 2, 3] rfl ?_
      exact nxt
    · omega
  | succ t ih =>
    intro b hb b0
    have ih2 := ih (b + 1) (by omega) (by omega)
    have es : (b + 1).toNat = b.toNat + 1 := by omega
    have eo : isum (fun b => b01 (RmG M on N g a b)) (b.toNat + 1) = isum (fun b => b01 (RmG M on N g a b)) b.toNat + b01 (RmG M on N g a (b.toNat : Nat)) := rfl
    rw [show ((b.toNat : Nat) : Int) = b by omega] at eo
    rw [es, eo, ← Int.add_assoc] at ih2
    refine ax_iload rfl rfl ?_
    refine ax_iloadn rfl rfl ?_
    refine ax_icmp_ge rfl (by omega) (by omega) (fun h34 => ?_) (fun h34 => ?_)
    · omega
    · refine ax_aloadn rfl rfl ?_
      refine ax_iloadn rfl rfl ?_
      refine ax_iloadn rfl rfl ?_
      refine ax_callV (as := [_, _]) rfl vX8_269 hX8_tightAt rfl rfl rfl rfl rfl (c_X8_tightAtG E d M hR on hon N g hV hN a (by omega)) (fun r40 M40 hr40 => ?_)
      obtain ⟨⟨va, rfl, hva⟩, hM40⟩ := hr40
      have hM40s := hM40.symm
      subst hM40s
      refine ax_aloadn rfl rfl ?_
      refine ax_iloadn rfl rfl ?_
      refine ax_iload rfl rfl ?_
      refine ax_callV (as := [_, _]) rfl vX8_269 hX8_tightAt rfl rfl rfl rfl rfl (c_X8_tightAtG E d M hR on hon N g hV hN b (by omega)) (fun r47 M47 hr47 => ?_)
      obtain ⟨⟨vb, rfl, hvb⟩, hM47⟩ := hr47
      have hM47s := hM47.symm
      subst hM47s
      refine ax_iand rfl ?_
      refine ax_istore (ls' := [(0, _), (1, _), (2, _), (3, _), (4, _), (5, _)]) rfl rfl rfl ?_
      have rz := bi_and_rng' ⟨hva.1, hva.2.1⟩ ⟨hvb.1, hvb.2.1⟩
      have hzb : ∀ t : Nat, (bi_and va vb).toNat.testBit t = true ↔ Sg on t ∧ TI (RW M) t (g a) ∧ TI (RW M) t (g b) := fun t => by
        rw [rz.2.2 t, Bool.and_eq_true, hva.2.2 t, hvb.2.2 t]
        exact ⟨fun q => ⟨q.1.1, q.1.2, q.2.2⟩, fun q => ⟨⟨q.1, q.2.1⟩, q.1, q.2.2⟩⟩
      have hI0 : b01 (HT M (bi_and va vb)) = b01 (ISc M on g (bi_and va vb) a b 0) := b01_iff ⟨fun q => ⟨q, fun k k0 k1 => by omega⟩, fun q => q.1⟩
      have hIR := b01_iff (IS_R hR hon hE hS ha ⟨b0, show b < a by omega⟩ hzb)
      refine ax_aloadn rfl rfl ?_
      refine ax_iload rfl rfl ?_
      refine ax_callV (as := [_]) rfl vX8_272 hX8_hasTwo rfl rfl rfl rfl rfl (c_X8_hasTwo E (d + 1) M hR (bi_and va vb) ⟨rz.1, rz.2.1⟩) (av_Xk ?_)
      refine ax_istore (ls' := [(0, _), (1, _), (2, _), (3, _), (4, _), (5, _), (6, _)]) rfl rfl rfl ?_
      refine ax_iconst rfl ?_
      refine ax_istore (ls' := [(0, _), (1, _), (2, _), (3, _), (4, _), (5, _), (6, _), (7, _)]) rfl rfl rfl ?_
      rw [hI0]
      refine l3_X8_rims E d M hR on hon N g hV hN _ _ a b ⟨rz.1, rz.2.1⟩ _ ?nx ⟨ha, b0, by omega⟩ N.toNat 0 (by omega) (by omega)
      case nx =>
        rw [hIR]
        have br := b01_rng (RmG M on N g a b)
        refine ax_iloadn rfl rfl ?_
        refine ax_iload rfl rfl ?_
        refine ax_if_eq rfl (by omega) (fun h122 => ?_) (fun h122 => ?_)
        · refine ax_iconst rfl ?_
          refine ax_iadd rfl ?_
          refine ax_istoren (ls' := [(0, _), (1, _), (2, _), (3, _), (4, _), (5, _), (6, _)]) rfl rfl rfl ?_
          refine ax_iinc (ls' := [(0, _), (1, _), (2, _), (3, _), (4, _), (5, _), (6, _)]) rfl rfl rfl rfl ?_
          refine ax_goto rfl ?_
          refine ax_pick [0, 1, 2, 3, 4] rfl ?_
          first
            | (have e : b01 (RmG M on N g a b) = 1 := by omega
               rw [e] at ih2
               exact ih2)
            | (have e : b01 (RmG M on N g a b) = 0 := by omega
               rw [e] at ih2
               exact ih2)
        · refine ax_iconst rfl ?_
          refine ax_goto rfl ?_
          refine ax_iadd rfl ?_
          refine ax_istoren (ls' := [(0, _), (1, _), (2, _), (3, _), (4, _), (5, _), (6, _)]) rfl rfl rfl ?_
          refine ax_iinc (ls' := [(0, _), (1, _), (2, _), (3, _), (4, _), (5, _), (6, _)]) rfl rfl rfl rfl ?_
          refine ax_goto rfl ?_
          refine ax_pick [0, 1, 2, 3, 4] rfl ?_
          first
            | (have e : b01 (RmG M on N g a b) = 1 := by omega
               rw [e] at ih2
               exact ih2)
            | (have e : b01 (RmG M on N g a b) = 0 := by omega
               rw [e] at ih2
               exact ih2)
set_option maxRecDepth 100000 in
set_option maxHeartbeats 800000 in
theorem l1_X8_rims (E : av_E) (d : Nat) (M : av_M) (hR : RWm M) (on : Int) (hon : ONm M on) (N : Int) (g : Int → p3) (hV : LVm M N g) (hN : N ≤ 120) (hS : Snd (RW M) (Sg on)) (hE : RE g N (VX (RW M) (Sg on))) : ∀ (t : Nat) (a : Int), a + t = N → 0 ≤ a → av_S E (d + 2) mX8_rims 20 [(0, vR 35), (1, vI on), (2, vI (isum (fun a => isum (fun b => b01 (RmG M on N g a b)) a.toNat) a.toNat)), (3, vI a)] [] M (av_X (some (vI (isum (fun a => isum (fun b => b01 (RmG M on N g a b)) a.toNat) N.toNat))) M) := by
  have ev := hV.1
  intro t
  induction t with
  | zero =>
    intro a ha a0
    have ea : a = N := by omega
    subst ea
    refine ax_iloadn rfl rfl ?_
    refine ax_aloadn rfl rfl ?_
    refine ax_getI (g := 26) rfl fX8_228 rfl rfl rfl rfl ?_
    refine ax_icmp_ge rfl (by omega) (by omega) (fun h25 => ?_) (fun h25 => ?_)
    · refine ax_iloadn rfl rfl ?_
      refine ax_iret rfl rfl ?_
      exact av_rI rfl
    · omega
  | succ t ih =>
    intro a ha a0
    have ih2 := ih (a + 1) (by omega) (by omega)
    have es : (a + 1).toNat = a.toNat + 1 := by omega
    have eo : isum (fun a => isum (fun b => b01 (RmG M on N g a b)) a.toNat) (a.toNat + 1) = isum (fun a => isum (fun b => b01 (RmG M on N g a b)) a.toNat) a.toNat + isum (fun b => b01 (RmG M on N g (a.toNat : Nat) b)) ((a.toNat : Nat) : Int).toNat := rfl
    rw [show ((a.toNat : Nat) : Int) = a by omega] at eo
    rw [es, eo] at ih2
    have k := l2_X8_rims E d M hR on hon N g hV hN hS hE a (isum (fun a => isum (fun b => b01 (RmG M on N g a b)) a.toNat) a.toNat) ⟨a0, by omega⟩ _ ih2 a.toNat 0 (by omega) (by omega)
    have z : isum (fun b => b01 (RmG M on N g a b)) (0 : Int).toNat = 0 := rfl
    rw [z, Int.add_zero] at k
    refine ax_iloadn rfl rfl ?_
    refine ax_aloadn rfl rfl ?_
    refine ax_getI (g := 26) rfl fX8_228 rfl rfl rfl rfl ?_
    refine ax_icmp_ge rfl (by omega) (by omega) (fun h25 => ?_) (fun h25 => ?_)
    · omega
    · refine ax_iconst rfl ?_
      refine ax_istore (ls' := [(0, _), (1, _), (2, _), (3, _), (4, _)]) rfl rfl rfl ?_
      exact k
theorem RmG_k {M M' : av_M} (e : M' 52 = M 52) (on N : Int) (g : Int → p3) : RmG M' on N g = RmG M on N g := by
  unfold RmG
  rw [RW_k e]
set_option maxRecDepth 100000 in
set_option maxHeartbeats 800000 in
theorem c_X8_rims (E : av_E) (d : Nat) (M : av_M) (hR : RWm M) (on : Int) (hon : ONm M on) (N : Int) (g : Int → p3) (hE : RE g N (VX (RW M) (Sg on))) : av_Mt E (d + 8) mX8_rims [vR 35] M (fun res M' => ((¬ Snd (RW M) (Sg on) ∧ res = some (vI (-900000003))) ∨ (Snd (RW M) (Sg on) ∧ res = some (vI (isum (fun a => isum (fun b => b01 (RmG M on N g a b)) a.toNat) N.toNat)))) ∧ RQ M M') := by
  have bs := b01_rng (Snd (RW M) (Sg on))
  refine av_enter hX8_rims oX8_rims rfl rfl ?_
  refine ax_aloadn rfl rfl ?_
  refine ax_callV (as := []) rfl vX8_255 hX8_setOn rfl rfl rfl rfl rfl (c_X8_setOn1 E (d + 7) M hR on hon) (av_Xk ?_)
  refine ax_istoren (ls' := [(0, _), (1, _)]) rfl rfl rfl ?_
  refine ax_aloadn rfl rfl ?_
  refine ax_iloadn rfl rfl ?_
  refine ax_callV (as := [_]) rfl vX8_258 hX8_isSound rfl rfl rfl rfl rfl (c_X8_isSound E (d + 3) M hR on hon.r hon.t) (fun r7 M7 hr7 => ?_)
  obtain ⟨rfl, v1, v2, v3, v4⟩ := hr7
  have hq := RK.q v4
  have hv := LV_of v1 v2 hE
  have ev := hv.1
  have e52 := hq.2.2 52 (by omega)
  have eW := RW_k e52
  refine ax_if_ne rfl (by omega) (fun h10 => ?_) (fun h10 => ?_)
  · refine ax_iconst rfl ?_
    refine ax_istoren (ls' := [(0, _), (1, _), (2, _)]) rfl rfl rfl ?_
    refine ax_iconst rfl ?_
    refine ax_istoren (ls' := [(0, _), (1, _), (2, _), (3, _)]) rfl rfl rfl ?_
    have hS := b01_ne (P := Snd (RW M) (Sg on)) (by omega)
    refine av_Sw (l1_X8_rims E (d + 6) M7 (hR.k hq) on (hon.k hq) N g hv (by omega) (by rw [eW]; exact hS) (by rw [eW]; exact hE) N.toNat 0 (by have := hE.1; omega) (by omega)) (fun r M' z => ?_)
    obtain ⟨z1, z2⟩ := z
    refine ⟨Or.inr ⟨hS, ?_⟩, by rw [z2]; exact hq⟩
    rw [z1, RmG_k e52]
  · refine ax_ldc (z := (-900000003)) rfl kX8_137 rfl ?_
    refine ax_iret rfl rfl ?_
    exact ⟨Or.inl ⟨b01_eq (by omega), rfl⟩, hq⟩
