/-! ===== the reference: going round its places ===== -/
def HU (M : av_M) (F : Nat) (a b h : Int) : Prop := 0 ≤ h ∧ h ≤ b - a ∧ (∀ j, 0 ≤ j → j < h → a ≤ M F j ∧ M F j < b) ∧ (a < b → Hull (RS (rp M) a b) h.toNat (fun i : Nat => rp M (M F i))) ∧ (a = b → h = 0)
theorem rp_k {M M' : av_M} (e : ∀ k, 38 ≤ k → k ≤ 40 → M' k = M k) : rp M' = rp M := by
  funext i
  unfold rp
  rw [e 38 (by decide) (by decide), e 39 (by decide) (by decide), e 40 (by decide) (by decide)]
theorem RB_k {M M' : av_M} (e : ∀ k, 38 ≤ k → k ≤ 40 → M' k = M k) (i : Int) : RB M' i ↔ RB M i := by
  unfold RB
  rw [e 38 (by decide) (by decide), e 39 (by decide) (by decide), e 40 (by decide) (by decide)]
set_option maxRecDepth 100000 in
set_option maxHeartbeats 800000 in
theorem l2_F_hull (E : av_E) (d : Nat) (M : av_M) (a b : Int) (hab : 0 ≤ a ∧ a ≤ b ∧ b ≤ 140) (hB : ∀ k, a ≤ k → k < b → RB M k) (S : pt → Prop) (h : Nat) (c : Nat → pt) (H : Hull S h c) (hS : ∀ k, a ≤ k → k < b → S (rp M k)) (first n at0 more : Int) (i : Nat) (hi : i < h) (hat : a ≤ at0 ∧ at0 < b) (eat : rp M at0 = c i) (Q : Option av_V → av_M → Prop) (nxt0 : ∀ nx, a ≤ nx → nx < b → NIx (rp M) a b (c (nxt h i)) nx → av_S E (d + 3) mX8_hull 164 [(0, vR 35), (1, vI a), (2, vI b), (3, vR 41), (4, vI first), (5, vI n), (6, vI at0), (7, vI more), (8, vI nx), (9, vI b)] [] M Q) : ∀ (t : Nat) (k nx : Int), k + t = b → a ≤ k → (a ≤ nx ∧ nx < b) → NIx (rp M) a k (c (nxt h i)) nx → av_S E (d + 3) mX8_hull 76 [(0, vR 35), (1, vI a), (2, vI b), (3, vR 41), (4, vI first), (5, vI n), (6, vI at0), (7, vI more), (8, vI nx), (9, vI k)] [] M Q := by
  intro t
  induction t with
  | zero =>
    intro k nx hk k0 hn N
    have ek : k = b := by omega
    subst ek
    refine ax_iload rfl rfl ?_
    refine ax_iloadn rfl rfl ?_
    refine ax_icmp_ge rfl (by omega) (by omega) (fun h79 => ?_) (fun h79 => ?_)
    · exact nxt0 nx (by omega) (by omega) N
    · omega
  | succ t ih =>
    intro k nx hk k0 hn N
    have Sk := hS k k0 (by omega)
    have Sn := hS nx hn.1 hn.2
    have Bk := hB k k0 (by omega)
    have Bn := hB nx hn.1 hn.2
    have Ba := hB at0 hat.1 hat.2
    have wk := Bk.2.2.1
    have wn := Bn.2.2.1
    have wa := Ba.2.2.1
    have dr := D3_rng Ba Bn Bk
    have dn : D3 (M 38 at0) (M 39 at0) (M 40 at0) (M 38 nx) (M 39 nx) (M 40 nx) (M 38 k) (M 39 k) (M 40 k) < 0 ↔ cr (c i) (rp M nx) (rp M k) < 0 := by rw [← eat]; exact P2_neg wa wn wk
    have dz : D3 (M 38 at0) (M 39 at0) (M 40 at0) (M 38 nx) (M 39 nx) (M 40 nx) (M 38 k) (M 39 k) (M 40 k) = 0 ↔ cr (c i) (rp M nx) (rp M k) = 0 := by rw [← eat]; exact P2_zero wa wn wk
    have b1 := b01_rng (rp M k = rp M at0)
    have b2 := b01_rng (rp M nx = rp M at0)
    have b3 := b01_rng ((lx (rp M at0) (rp M nx) ∧ lx (rp M nx) (rp M k)) ∨ (lx (rp M k) (rp M nx) ∧ lx (rp M nx) (rp M at0)))
    have ebt : ((lx (rp M at0) (rp M nx) ∧ lx (rp M nx) (rp M k)) ∨ (lx (rp M k) (rp M nx) ∧ lx (rp M nx) (rp M at0))) = btw (c i) (rp M nx) (rp M k) := by rw [eat]; rfl
    refine ax_iload rfl rfl ?_
    refine ax_iloadn rfl rfl ?_
    refine ax_icmp_ge rfl (by omega) (by omega) (fun h79 => ?_) (fun h79 => ?_)
    · omega
    · refine ax_aloadn rfl rfl ?_
      refine ax_iload rfl rfl ?_
      refine ax_iload rfl rfl ?_
      refine ax_callV (as := [_, _]) rfl vX8_114 hX8_isOne rfl rfl rfl rfl rfl (c_X8_isOne E (d + 1) M k at0 (by omega) (by omega) (hB k (by omega) (by omega)) (hB at0 (by omega) (by omega))) (av_Xk ?_)
      refine ax_if_ne rfl (by omega) (fun h90 => ?_) (fun h90 => ?_)
      · refine ax_iinc (ls' := [(0, _), (1, _), (2, _), (3, _), (4, _), (5, _), (6, _), (7, _), (8, _), (9, _)]) rfl rfl rfl rfl ?_
        refine ax_goto rfl ?_
        refine ax_pick [0, 1, 2, 3, 4, 5, 6, 7, 8, 9] rfl ?_
        first
          | omega
          | (have q := b01_ne (P := rp M k = rp M at0) (by omega)
             rw [eat] at q
             exact ih _ _ (by omega) (by omega) (by omega) (NI_same H hi Sn q N))
          | (have q1 := b01_eq (P := rp M k = rp M at0) (by omega)
             rw [eat] at q1
             first
               | (have q2 := b01_ne (P := rp M nx = rp M at0) (by omega)
                  rw [eat] at q2
                  exact ih _ _ (by omega) (by omega) (by omega) (NI_first H hi Sk q1 q2 N))
               | (have q2 := b01_eq (P := rp M nx = rp M at0) (by omega)
                  rw [eat] at q2
                  first
                    | (have q3 := dn.mp (by omega)
                       exact ih _ _ (by omega) (by omega) (by omega) (NI_move H hi Sk q1 (Or.inl q3) N))
                    | (have q3 : ¬ cr (c i) (rp M nx) (rp M k) = 0 := fun z => by have := dz.mpr z; omega
                       have q4 : ¬ cr (c i) (rp M nx) (rp M k) < 0 := fun z => by have := dn.mpr z; omega
                       exact ih _ _ (by omega) (by omega) (by omega) (NI_stay H hi Sk Sn q1 q2 q4 (fun z => absurd z q3) N))
                    | (have q3 := dz.mp (by omega)
                       have q4 : ¬ cr (c i) (rp M nx) (rp M k) < 0 := fun z => by have := dn.mpr z; omega
                       first
                         | (have q5 := b01_ne (P := (lx (rp M at0) (rp M nx) ∧ lx (rp M nx) (rp M k)) ∨ (lx (rp M k) (rp M nx) ∧ lx (rp M nx) (rp M at0))) (by omega)
                            rw [ebt] at q5
                            exact ih _ _ (by omega) (by omega) (by omega) (NI_move H hi Sk q1 (Or.inr ⟨q3, q5⟩) N))
                         | (have q5 := b01_eq (P := (lx (rp M at0) (rp M nx) ∧ lx (rp M nx) (rp M k)) ∨ (lx (rp M k) (rp M nx) ∧ lx (rp M nx) (rp M at0))) (by omega)
                            rw [ebt] at q5
                            exact ih _ _ (by omega) (by omega) (by omega) (NI_stay H hi Sk Sn q1 q2 q4 (fun _ => q5) N)))))
      · refine ax_aloadn rfl rfl ?_
        refine ax_iload rfl rfl ?_
        refine ax_iload rfl rfl ?_
        refine ax_callV (as := [_, _]) rfl vX8_114 hX8_isOne rfl rfl rfl rfl rfl (c_X8_isOne E (d + 1) M nx at0 (by omega) (by omega) (hB nx (by omega) (by omega)) (hB at0 (by omega) (by omega))) (av_Xk ?_)
        refine ax_if_eq rfl (by omega) (fun h101 => ?_) (fun h101 => ?_)
        · refine ax_aloadn rfl rfl ?_
          refine ax_iload rfl rfl ?_
          refine ax_iload rfl rfl ?_
          refine ax_iload rfl rfl ?_
          refine ax_callV (as := [_, _, _]) rfl vX8_119 hX8_side rfl rfl rfl rfl rfl (c_X8_side E (d + 2) M at0 nx k (by omega) (by omega) (by omega)) (av_Xk ?_)
          refine ax_lstore (ls' := [(0, _), (1, _), (2, _), (3, _), (4, _), (5, _), (6, _), (7, _), (8, _), (9, _), (10, _)]) rfl rfl rfl ?_
          refine ax_lload rfl rfl ?_
          refine ax_lconst (w := 0) rfl rfl ?_
          refine ax_lif_lt rfl rfl (by omega) (by omega) (fun h125 => ?_) (fun h125 => ?_)
          · refine ax_iload rfl rfl ?_
            refine ax_goto rfl ?_
            refine ax_istore (ls' := [(0, _), (1, _), (2, _), (3, _), (4, _), (5, _), (6, _), (7, _), (8, _), (9, _), (10, _)]) rfl rfl rfl ?_
            refine ax_iinc (ls' := [(0, _), (1, _), (2, _), (3, _), (4, _), (5, _), (6, _), (7, _), (8, _), (9, _), (10, _)]) rfl rfl rfl rfl ?_
            refine ax_goto rfl ?_
            refine ax_pick [0, 1, 2, 3, 4, 5, 6, 7, 8, 9] rfl ?_
            first
              | omega
              | (have q := b01_ne (P := rp M k = rp M at0) (by omega)
                 rw [eat] at q
                 exact ih _ _ (by omega) (by omega) (by omega) (NI_same H hi Sn q N))
              | (have q1 := b01_eq (P := rp M k = rp M at0) (by omega)
                 rw [eat] at q1
                 first
                   | (have q2 := b01_ne (P := rp M nx = rp M at0) (by omega)
                      rw [eat] at q2
                      exact ih _ _ (by omega) (by omega) (by omega) (NI_first H hi Sk q1 q2 N))
                   | (have q2 := b01_eq (P := rp M nx = rp M at0) (by omega)
                      rw [eat] at q2
                      first
                        | (have q3 := dn.mp (by omega)
                           exact ih _ _ (by omega) (by omega) (by omega) (NI_move H hi Sk q1 (Or.inl q3) N))
                        | (have q3 : ¬ cr (c i) (rp M nx) (rp M k) = 0 := fun z => by have := dz.mpr z; omega
                           have q4 : ¬ cr (c i) (rp M nx) (rp M k) < 0 := fun z => by have := dn.mpr z; omega
                           exact ih _ _ (by omega) (by omega) (by omega) (NI_stay H hi Sk Sn q1 q2 q4 (fun z => absurd z q3) N))
                        | (have q3 := dz.mp (by omega)
                           have q4 : ¬ cr (c i) (rp M nx) (rp M k) < 0 := fun z => by have := dn.mpr z; omega
                           first
                             | (have q5 := b01_ne (P := (lx (rp M at0) (rp M nx) ∧ lx (rp M nx) (rp M k)) ∨ (lx (rp M k) (rp M nx) ∧ lx (rp M nx) (rp M at0))) (by omega)
                                rw [ebt] at q5
                                exact ih _ _ (by omega) (by omega) (by omega) (NI_move H hi Sk q1 (Or.inr ⟨q3, q5⟩) N))
                             | (have q5 := b01_eq (P := (lx (rp M at0) (rp M nx) ∧ lx (rp M nx) (rp M k)) ∨ (lx (rp M k) (rp M nx) ∧ lx (rp M nx) (rp M at0))) (by omega)
                                rw [ebt] at q5
                                exact ih _ _ (by omega) (by omega) (by omega) (NI_stay H hi Sk Sn q1 q2 q4 (fun _ => q5) N)))))
          · refine ax_lload rfl rfl ?_
            refine ax_lconst (w := 0) rfl rfl ?_
            refine ax_lif_ne rfl rfl (by omega) (by omega) (fun h132 => ?_) (fun h132 => ?_)
            · refine ax_iload rfl rfl ?_
              refine ax_istore (ls' := [(0, _), (1, _), (2, _), (3, _), (4, _), (5, _), (6, _), (7, _), (8, _), (9, _), (10, _)]) rfl rfl rfl ?_
              refine ax_iinc (ls' := [(0, _), (1, _), (2, _), (3, _), (4, _), (5, _), (6, _), (7, _), (8, _), (9, _), (10, _)]) rfl rfl rfl rfl ?_
              refine ax_goto rfl ?_
              refine ax_pick [0, 1, 2, 3, 4, 5, 6, 7, 8, 9] rfl ?_
              first
                | omega
                | (have q := b01_ne (P := rp M k = rp M at0) (by omega)
                   rw [eat] at q
                   exact ih _ _ (by omega) (by omega) (by omega) (NI_same H hi Sn q N))
                | (have q1 := b01_eq (P := rp M k = rp M at0) (by omega)
                   rw [eat] at q1
                   first
                     | (have q2 := b01_ne (P := rp M nx = rp M at0) (by omega)
                        rw [eat] at q2
                        exact ih _ _ (by omega) (by omega) (by omega) (NI_first H hi Sk q1 q2 N))
                     | (have q2 := b01_eq (P := rp M nx = rp M at0) (by omega)
                        rw [eat] at q2
                        first
                          | (have q3 := dn.mp (by omega)
                             exact ih _ _ (by omega) (by omega) (by omega) (NI_move H hi Sk q1 (Or.inl q3) N))
                          | (have q3 : ¬ cr (c i) (rp M nx) (rp M k) = 0 := fun z => by have := dz.mpr z; omega
                             have q4 : ¬ cr (c i) (rp M nx) (rp M k) < 0 := fun z => by have := dn.mpr z; omega
                             exact ih _ _ (by omega) (by omega) (by omega) (NI_stay H hi Sk Sn q1 q2 q4 (fun z => absurd z q3) N))
                          | (have q3 := dz.mp (by omega)
                             have q4 : ¬ cr (c i) (rp M nx) (rp M k) < 0 := fun z => by have := dn.mpr z; omega
                             first
                               | (have q5 := b01_ne (P := (lx (rp M at0) (rp M nx) ∧ lx (rp M nx) (rp M k)) ∨ (lx (rp M k) (rp M nx) ∧ lx (rp M nx) (rp M at0))) (by omega)
                                  rw [ebt] at q5
                                  exact ih _ _ (by omega) (by omega) (by omega) (NI_move H hi Sk q1 (Or.inr ⟨q3, q5⟩) N))
                               | (have q5 := b01_eq (P := (lx (rp M at0) (rp M nx) ∧ lx (rp M nx) (rp M k)) ∨ (lx (rp M k) (rp M nx) ∧ lx (rp M nx) (rp M at0))) (by omega)
                                  rw [ebt] at q5
                                  exact ih _ _ (by omega) (by omega) (by omega) (NI_stay H hi Sk Sn q1 q2 q4 (fun _ => q5) N)))))
            · refine ax_aloadn rfl rfl ?_
              refine ax_iload rfl rfl ?_
              refine ax_iload rfl rfl ?_
              refine ax_iload rfl rfl ?_
              refine ax_callV (as := [_, _, _]) rfl vX8_123 hX8_isBetween rfl rfl rfl rfl rfl (c_X8_isBetween E d M at0 nx k (by omega) (by omega) (by omega) Ba Bn Bk) (av_Xk ?_)
              refine ax_if_eq rfl (by omega) (fun h146 => ?_) (fun h146 => ?_)
              · refine ax_iload rfl rfl ?_
                refine ax_istore (ls' := [(0, _), (1, _), (2, _), (3, _), (4, _), (5, _), (6, _), (7, _), (8, _), (9, _), (10, _)]) rfl rfl rfl ?_
                refine ax_iinc (ls' := [(0, _), (1, _), (2, _), (3, _), (4, _), (5, _), (6, _), (7, _), (8, _), (9, _), (10, _)]) rfl rfl rfl rfl ?_
                refine ax_goto rfl ?_
                refine ax_pick [0, 1, 2, 3, 4, 5, 6, 7, 8, 9] rfl ?_
                first
                  | omega
                  | (have q := b01_ne (P := rp M k = rp M at0) (by omega)
                     rw [eat] at q
                     exact ih _ _ (by omega) (by omega) (by omega) (NI_same H hi Sn q N))
                  | (have q1 := b01_eq (P := rp M k = rp M at0) (by omega)
                     rw [eat] at q1
                     first
                       | (have q2 := b01_ne (P := rp M nx = rp M at0) (by omega)
                          rw [eat] at q2
                          exact ih _ _ (by omega) (by omega) (by omega) (NI_first H hi Sk q1 q2 N))
                       | (have q2 := b01_eq (P := rp M nx = rp M at0) (by omega)
                          rw [eat] at q2
                          first
                            | (have q3 := dn.mp (by omega)
                               exact ih _ _ (by omega) (by omega) (by omega) (NI_move H hi Sk q1 (Or.inl q3) N))
                            | (have q3 : ¬ cr (c i) (rp M nx) (rp M k) = 0 := fun z => by have := dz.mpr z; omega
                               have q4 : ¬ cr (c i) (rp M nx) (rp M k) < 0 := fun z => by have := dn.mpr z; omega
                               exact ih _ _ (by omega) (by omega) (by omega) (NI_stay H hi Sk Sn q1 q2 q4 (fun z => absurd z q3) N))
                            | (have q3 := dz.mp (by omega)
                               have q4 : ¬ cr (c i) (rp M nx) (rp M k) < 0 := fun z => by have := dn.mpr z; omega
                               first
                                 | (have q5 := b01_ne (P := (lx (rp M at0) (rp M nx) ∧ lx (rp M nx) (rp M k)) ∨ (lx (rp M k) (rp M nx) ∧ lx (rp M nx) (rp M at0))) (by omega)
                                    rw [ebt] at q5
                                    exact ih _ _ (by omega) (by omega) (by omega) (NI_move H hi Sk q1 (Or.inr ⟨q3, q5⟩) N))
                                 | (have q5 := b01_eq (P := (lx (rp M at0) (rp M nx) ∧ lx (rp M nx) (rp M k)) ∨ (lx (rp M k) (rp M nx) ∧ lx (rp M nx) (rp M at0))) (by omega)
                                    rw [ebt] at q5
                                    exact ih _ _ (by omega) (by omega) (by omega) (NI_stay H hi Sk Sn q1 q2 q4 (fun _ => q5) N)))))
              · refine ax_iload rfl rfl ?_
                refine ax_goto rfl ?_
                refine ax_istore (ls' := [(0, _), (1, _), (2, _), (3, _), (4, _), (5, _), (6, _), (7, _), (8, _), (9, _), (10, _)]) rfl rfl rfl ?_
                refine ax_iinc (ls' := [(0, _), (1, _), (2, _), (3, _), (4, _), (5, _), (6, _), (7, _), (8, _), (9, _), (10, _)]) rfl rfl rfl rfl ?_
                refine ax_goto rfl ?_
                refine ax_pick [0, 1, 2, 3, 4, 5, 6, 7, 8, 9] rfl ?_
                first
                  | omega
                  | (have q := b01_ne (P := rp M k = rp M at0) (by omega)
                     rw [eat] at q
                     exact ih _ _ (by omega) (by omega) (by omega) (NI_same H hi Sn q N))
                  | (have q1 := b01_eq (P := rp M k = rp M at0) (by omega)
                     rw [eat] at q1
                     first
                       | (have q2 := b01_ne (P := rp M nx = rp M at0) (by omega)
                          rw [eat] at q2
                          exact ih _ _ (by omega) (by omega) (by omega) (NI_first H hi Sk q1 q2 N))
                       | (have q2 := b01_eq (P := rp M nx = rp M at0) (by omega)
                          rw [eat] at q2
                          first
                            | (have q3 := dn.mp (by omega)
                               exact ih _ _ (by omega) (by omega) (by omega) (NI_move H hi Sk q1 (Or.inl q3) N))
                            | (have q3 : ¬ cr (c i) (rp M nx) (rp M k) = 0 := fun z => by have := dz.mpr z; omega
                               have q4 : ¬ cr (c i) (rp M nx) (rp M k) < 0 := fun z => by have := dn.mpr z; omega
                               exact ih _ _ (by omega) (by omega) (by omega) (NI_stay H hi Sk Sn q1 q2 q4 (fun z => absurd z q3) N))
                            | (have q3 := dz.mp (by omega)
                               have q4 : ¬ cr (c i) (rp M nx) (rp M k) < 0 := fun z => by have := dn.mpr z; omega
                               first
                                 | (have q5 := b01_ne (P := (lx (rp M at0) (rp M nx) ∧ lx (rp M nx) (rp M k)) ∨ (lx (rp M k) (rp M nx) ∧ lx (rp M nx) (rp M at0))) (by omega)
                                    rw [ebt] at q5
                                    exact ih _ _ (by omega) (by omega) (by omega) (NI_move H hi Sk q1 (Or.inr ⟨q3, q5⟩) N))
                                 | (have q5 := b01_eq (P := (lx (rp M at0) (rp M nx) ∧ lx (rp M nx) (rp M k)) ∨ (lx (rp M k) (rp M nx) ∧ lx (rp M nx) (rp M at0))) (by omega)
                                    rw [ebt] at q5
                                    exact ih _ _ (by omega) (by omega) (by omega) (NI_stay H hi Sk Sn q1 q2 q4 (fun _ => q5) N)))))
        · refine ax_ldc2 (z := (-1)) rfl kX8_117 rfl ?_
          refine ax_goto rfl ?_
          refine ax_lstore (ls' := [(0, _), (1, _), (2, _), (3, _), (4, _), (5, _), (6, _), (7, _), (8, _), (9, _), (10, _)]) rfl rfl rfl ?_
          refine ax_lload rfl rfl ?_
          refine ax_lconst (w := 0) rfl rfl ?_
          refine ax_lif_lt rfl rfl (by omega) (by omega) (fun h125 => ?_) (fun h125 => ?_)
          · refine ax_iload rfl rfl ?_
            refine ax_goto rfl ?_
            refine ax_istore (ls' := [(0, _), (1, _), (2, _), (3, _), (4, _), (5, _), (6, _), (7, _), (8, _), (9, _), (10, _)]) rfl rfl rfl ?_
            refine ax_iinc (ls' := [(0, _), (1, _), (2, _), (3, _), (4, _), (5, _), (6, _), (7, _), (8, _), (9, _), (10, _)]) rfl rfl rfl rfl ?_
            refine ax_goto rfl ?_
            refine ax_pick [0, 1, 2, 3, 4, 5, 6, 7, 8, 9] rfl ?_
            first
              | omega
              | (have q := b01_ne (P := rp M k = rp M at0) (by omega)
                 rw [eat] at q
                 exact ih _ _ (by omega) (by omega) (by omega) (NI_same H hi Sn q N))
              | (have q1 := b01_eq (P := rp M k = rp M at0) (by omega)
                 rw [eat] at q1
                 first
                   | (have q2 := b01_ne (P := rp M nx = rp M at0) (by omega)
                      rw [eat] at q2
                      exact ih _ _ (by omega) (by omega) (by omega) (NI_first H hi Sk q1 q2 N))
                   | (have q2 := b01_eq (P := rp M nx = rp M at0) (by omega)
                      rw [eat] at q2
                      first
                        | (have q3 := dn.mp (by omega)
                           exact ih _ _ (by omega) (by omega) (by omega) (NI_move H hi Sk q1 (Or.inl q3) N))
                        | (have q3 : ¬ cr (c i) (rp M nx) (rp M k) = 0 := fun z => by have := dz.mpr z; omega
                           have q4 : ¬ cr (c i) (rp M nx) (rp M k) < 0 := fun z => by have := dn.mpr z; omega
                           exact ih _ _ (by omega) (by omega) (by omega) (NI_stay H hi Sk Sn q1 q2 q4 (fun z => absurd z q3) N))
                        | (have q3 := dz.mp (by omega)
                           have q4 : ¬ cr (c i) (rp M nx) (rp M k) < 0 := fun z => by have := dn.mpr z; omega
                           first
                             | (have q5 := b01_ne (P := (lx (rp M at0) (rp M nx) ∧ lx (rp M nx) (rp M k)) ∨ (lx (rp M k) (rp M nx) ∧ lx (rp M nx) (rp M at0))) (by omega)
                                rw [ebt] at q5
                                exact ih _ _ (by omega) (by omega) (by omega) (NI_move H hi Sk q1 (Or.inr ⟨q3, q5⟩) N))
                             | (have q5 := b01_eq (P := (lx (rp M at0) (rp M nx) ∧ lx (rp M nx) (rp M k)) ∨ (lx (rp M k) (rp M nx) ∧ lx (rp M nx) (rp M at0))) (by omega)
                                rw [ebt] at q5
                                exact ih _ _ (by omega) (by omega) (by omega) (NI_stay H hi Sk Sn q1 q2 q4 (fun _ => q5) N)))))
          · refine ax_lload rfl rfl ?_
            refine ax_lconst (w := 0) rfl rfl ?_
            refine ax_lif_ne rfl rfl (by omega) (by omega) (fun h132 => ?_) (fun h132 => ?_)
            · refine ax_iload rfl rfl ?_
              refine ax_istore (ls' := [(0, _), (1, _), (2, _), (3, _), (4, _), (5, _), (6, _), (7, _), (8, _), (9, _), (10, _)]) rfl rfl rfl ?_
              refine ax_iinc (ls' := [(0, _), (1, _), (2, _), (3, _), (4, _), (5, _), (6, _), (7, _), (8, _), (9, _), (10, _)]) rfl rfl rfl rfl ?_
              refine ax_goto rfl ?_
              refine ax_pick [0, 1, 2, 3, 4, 5, 6, 7, 8, 9] rfl ?_
              first
                | omega
                | (have q := b01_ne (P := rp M k = rp M at0) (by omega)
                   rw [eat] at q
                   exact ih _ _ (by omega) (by omega) (by omega) (NI_same H hi Sn q N))
                | (have q1 := b01_eq (P := rp M k = rp M at0) (by omega)
                   rw [eat] at q1
                   first
                     | (have q2 := b01_ne (P := rp M nx = rp M at0) (by omega)
                        rw [eat] at q2
                        exact ih _ _ (by omega) (by omega) (by omega) (NI_first H hi Sk q1 q2 N))
                     | (have q2 := b01_eq (P := rp M nx = rp M at0) (by omega)
                        rw [eat] at q2
                        first
                          | (have q3 := dn.mp (by omega)
                             exact ih _ _ (by omega) (by omega) (by omega) (NI_move H hi Sk q1 (Or.inl q3) N))
                          | (have q3 : ¬ cr (c i) (rp M nx) (rp M k) = 0 := fun z => by have := dz.mpr z; omega
                             have q4 : ¬ cr (c i) (rp M nx) (rp M k) < 0 := fun z => by have := dn.mpr z; omega
                             exact ih _ _ (by omega) (by omega) (by omega) (NI_stay H hi Sk Sn q1 q2 q4 (fun z => absurd z q3) N))
                          | (have q3 := dz.mp (by omega)
                             have q4 : ¬ cr (c i) (rp M nx) (rp M k) < 0 := fun z => by have := dn.mpr z; omega
                             first
                               | (have q5 := b01_ne (P := (lx (rp M at0) (rp M nx) ∧ lx (rp M nx) (rp M k)) ∨ (lx (rp M k) (rp M nx) ∧ lx (rp M nx) (rp M at0))) (by omega)
                                  rw [ebt] at q5
                                  exact ih _ _ (by omega) (by omega) (by omega) (NI_move H hi Sk q1 (Or.inr ⟨q3, q5⟩) N))
                               | (have q5 := b01_eq (P := (lx (rp M at0) (rp M nx) ∧ lx (rp M nx) (rp M k)) ∨ (lx (rp M k) (rp M nx) ∧ lx (rp M nx) (rp M at0))) (by omega)
                                  rw [ebt] at q5
                                  exact ih _ _ (by omega) (by omega) (by omega) (NI_stay H hi Sk Sn q1 q2 q4 (fun _ => q5) N)))))
            · refine ax_aloadn rfl rfl ?_
              refine ax_iload rfl rfl ?_
              refine ax_iload rfl rfl ?_
              refine ax_iload rfl rfl ?_
              refine ax_callV (as := [_, _, _]) rfl vX8_123 hX8_isBetween rfl rfl rfl rfl rfl (c_X8_isBetween E d M at0 nx k (by omega) (by omega) (by omega) Ba Bn Bk) (av_Xk ?_)
              refine ax_if_eq rfl (by omega) (fun h146 => ?_) (fun h146 => ?_)
              · refine ax_iload rfl rfl ?_
                refine ax_istore (ls' := [(0, _), (1, _), (2, _), (3, _), (4, _), (5, _), (6, _), (7, _), (8, _), (9, _), (10, _)]) rfl rfl rfl ?_
                refine ax_iinc (ls' := [(0, _), (1, _), (2, _), (3, _), (4, _), (5, _), (6, _), (7, _), (8, _), (9, _), (10, _)]) rfl rfl rfl rfl ?_
                refine ax_goto rfl ?_
                refine ax_pick [0, 1, 2, 3, 4, 5, 6, 7, 8, 9] rfl ?_
                first
                  | omega
                  | (have q := b01_ne (P := rp M k = rp M at0) (by omega)
                     rw [eat] at q
                     exact ih _ _ (by omega) (by omega) (by omega) (NI_same H hi Sn q N))
                  | (have q1 := b01_eq (P := rp M k = rp M at0) (by omega)
                     rw [eat] at q1
                     first
                       | (have q2 := b01_ne (P := rp M nx = rp M at0) (by omega)
                          rw [eat] at q2
                          exact ih _ _ (by omega) (by omega) (by omega) (NI_first H hi Sk q1 q2 N))
                       | (have q2 := b01_eq (P := rp M nx = rp M at0) (by omega)
                          rw [eat] at q2
                          first
                            | (have q3 := dn.mp (by omega)
                               exact ih _ _ (by omega) (by omega) (by omega) (NI_move H hi Sk q1 (Or.inl q3) N))
                            | (have q3 : ¬ cr (c i) (rp M nx) (rp M k) = 0 := fun z => by have := dz.mpr z; omega
                               have q4 : ¬ cr (c i) (rp M nx) (rp M k) < 0 := fun z => by have := dn.mpr z; omega
                               exact ih _ _ (by omega) (by omega) (by omega) (NI_stay H hi Sk Sn q1 q2 q4 (fun z => absurd z q3) N))
                            | (have q3 := dz.mp (by omega)
                               have q4 : ¬ cr (c i) (rp M nx) (rp M k) < 0 := fun z => by have := dn.mpr z; omega
                               first
                                 | (have q5 := b01_ne (P := (lx (rp M at0) (rp M nx) ∧ lx (rp M nx) (rp M k)) ∨ (lx (rp M k) (rp M nx) ∧ lx (rp M nx) (rp M at0))) (by omega)
                                    rw [ebt] at q5
                                    exact ih _ _ (by omega) (by omega) (by omega) (NI_move H hi Sk q1 (Or.inr ⟨q3, q5⟩) N))
                                 | (have q5 := b01_eq (P := (lx (rp M at0) (rp M nx) ∧ lx (rp M nx) (rp M k)) ∨ (lx (rp M k) (rp M nx) ∧ lx (rp M nx) (rp M at0))) (by omega)
                                    rw [ebt] at q5
                                    exact ih _ _ (by omega) (by omega) (by omega) (NI_stay H hi Sk Sn q1 q2 q4 (fun _ => q5) N)))))
              · refine ax_iload rfl rfl ?_
                refine ax_goto rfl ?_
                refine ax_istore (ls' := [(0, _), (1, _), (2, _), (3, _), (4, _), (5, _), (6, _), (7, _), (8, _), (9, _), (10, _)]) rfl rfl rfl ?_
                refine ax_iinc (ls' := [(0, _), (1, _), (2, _), (3, _), (4, _), (5, _), (6, _), (7, _), (8, _), (9, _), (10, _)]) rfl rfl rfl rfl ?_
                refine ax_goto rfl ?_
                refine ax_pick [0, 1, 2, 3, 4, 5, 6, 7, 8, 9] rfl ?_
                first
                  | omega
                  | (have q := b01_ne (P := rp M k = rp M at0) (by omega)
                     rw [eat] at q
                     exact ih _ _ (by omega) (by omega) (by omega) (NI_same H hi Sn q N))
                  | (have q1 := b01_eq (P := rp M k = rp M at0) (by omega)
                     rw [eat] at q1
                     first
                       | (have q2 := b01_ne (P := rp M nx = rp M at0) (by omega)
                          rw [eat] at q2
                          exact ih _ _ (by omega) (by omega) (by omega) (NI_first H hi Sk q1 q2 N))
                       | (have q2 := b01_eq (P := rp M nx = rp M at0) (by omega)
                          rw [eat] at q2
                          first
                            | (have q3 := dn.mp (by omega)
                               exact ih _ _ (by omega) (by omega) (by omega) (NI_move H hi Sk q1 (Or.inl q3) N))
                            | (have q3 : ¬ cr (c i) (rp M nx) (rp M k) = 0 := fun z => by have := dz.mpr z; omega
                               have q4 : ¬ cr (c i) (rp M nx) (rp M k) < 0 := fun z => by have := dn.mpr z; omega
                               exact ih _ _ (by omega) (by omega) (by omega) (NI_stay H hi Sk Sn q1 q2 q4 (fun z => absurd z q3) N))
                            | (have q3 := dz.mp (by omega)
                               have q4 : ¬ cr (c i) (rp M nx) (rp M k) < 0 := fun z => by have := dn.mpr z; omega
                               first
                                 | (have q5 := b01_ne (P := (lx (rp M at0) (rp M nx) ∧ lx (rp M nx) (rp M k)) ∨ (lx (rp M k) (rp M nx) ∧ lx (rp M nx) (rp M at0))) (by omega)
                                    rw [ebt] at q5
                                    exact ih _ _ (by omega) (by omega) (by omega) (NI_move H hi Sk q1 (Or.inr ⟨q3, q5⟩) N))
                                 | (have q5 := b01_eq (P := (lx (rp M at0) (rp M nx) ∧ lx (rp M nx) (rp M k)) ∨ (lx (rp M k) (rp M nx) ∧ lx (rp M nx) (rp M at0))) (by omega)
                                    rw [ebt] at q5
                                    exact ih _ _ (by omega) (by omega) (by omega) (NI_stay H hi Sk Sn q1 q2 q4 (fun _ => q5) N)))))
set_option maxRecDepth 100000 in
set_option maxHeartbeats 800000 in
theorem le_F_hull (E : av_E) (d : Nat) (M : av_M) (a b first n at0 : Int) (Q : Option av_V → av_M → Prop) (hq : Q (some (vI n)) M) : av_S E (d + 3) mX8_hull 55 [(0, vR 35), (1, vI a), (2, vI b), (3, vR 41), (4, vI first), (5, vI n), (6, vI at0), (7, vI 0)] [] M Q := by
  refine ax_iload rfl rfl ?_
  refine ax_if_eq rfl (by omega) (fun h57 => ?_) (fun h57 => ?_)
  · refine ax_iload rfl rfl ?_
    refine ax_iret rfl rfl ?_
    exact hq
  · omega
set_option maxRecDepth 100000 in
set_option maxHeartbeats 800000 in
theorem l1_F_hull (E : av_E) (d : Nat) (M : av_M) (a b : Int) (hab : 0 ≤ a ∧ a ≤ b ∧ b ≤ 140) (hB : ∀ k, a ≤ k → k < b → RB M k) (S : pt → Prop) (h : Nat) (c : Nat → pt) (H : Hull S h c) (hS : ∀ k, a ≤ k → k < b → S (rp M k)) (hSr : ∀ p, S p → ∃ k, a ≤ k ∧ k < b ∧ p = rp M k) (hc : h ≤ 12) (first : Int) (hf : a ≤ first ∧ first < b) (ef : rp M first = c 0) : ∀ (t i : Nat) (at0 : Int) (M1 : av_M), i + t = h → i < h → (a ≤ at0 ∧ at0 < b) → rp M at0 = c i → (∀ j : Nat, j < i → (a ≤ M1 41 j ∧ M1 41 j < b) ∧ rp M (M1 41 j) = c j) → (∀ k, k ≠ 41 → M1 k = M k) → av_S E (d + 3) mX8_hull 55 [(0, vR 35), (1, vI a), (2, vI b), (3, vR 41), (4, vI first), (5, vI (i : Int)), (6, vI at0), (7, vI 1)] [] M1 (fun res M' => res = some (vI h) ∧ (∀ j : Nat, j < h → (a ≤ M' 41 j ∧ M' 41 j < b) ∧ rp M (M' 41 j) = c j) ∧ ∀ k, k ≠ 41 → M' k = M k) := by
  intro t
  induction t with
  | zero =>
    intro i at0 M1 hit hi
    omega
  | succ t ih =>
    intro i at0 M1 hit hi hat eat hF hK
    refine ax_iload rfl rfl ?_
    refine ax_if_eq rfl (by omega) (fun h57 => ?_) (fun h57 => ?_)
    · omega
    · refine ax_aloadn rfl rfl ?_
      refine ax_iload rfl rfl ?_
      refine ax_iload rfl rfl ?_
      refine ax_iast' rfl rfl (by omega) (fun M65 a65 b65 c65 => ?_)
      refine ax_iinc (ls' := [(0, _), (1, _), (2, _), (3, _), (4, _), (5, _), (6, _), (7, _)]) rfl rfl rfl rfl ?_
      refine ax_iload rfl rfl ?_
      refine ax_istore (ls' := [(0, _), (1, _), (2, _), (3, _), (4, _), (5, _), (6, _), (7, _), (8, _)]) rfl rfl rfl ?_
      refine ax_iloadn rfl rfl ?_
      refine ax_istore (ls' := [(0, _), (1, _), (2, _), (3, _), (4, _), (5, _), (6, _), (7, _), (8, _), (9, _)]) rfl rfl rfl ?_
      have hK2 : ∀ k, k ≠ 41 → M65 k = M k := fun k q => by rw [c65 k q, hK k q]
      have hF2 : ∀ j : Nat, j < i + 1 → (a ≤ M65 41 j ∧ M65 41 j < b) ∧ rp M (M65 41 j) = c j := fun j hj => by
        by_cases q : j = i
        · subst q
          rw [a65]
          exact ⟨hat, eat⟩
        · rw [b65 j (by omega)]
          exact hF j (by omega)
      have er : rp M65 = rp M := rp_k (fun k k0 k1 => hK2 k (by omega))
      have hB2 : ∀ k, a ≤ k → k < b → RB M65 k := fun k k0 k1 => (RB_k (fun k k0 k1 => hK2 k (by omega)) k).mpr (hB k k0 k1)
      refine l2_F_hull E d M65 a b hab hB2 S h c H (by rw [er]; exact hS) first (i + 1) at0 1 i hi hat (by rw [er]; exact eat) _ (fun nx n0 n1 N => ?nx) (b - a).toNat a at0 (by omega) (by omega) hat NI_0
      case nx =>
        rw [er] at N
        obtain ⟨j, j0, j1, ej⟩ := hSr _ (H.2.1 _ (nxt_lt (i := i) H.1))
        have en := N ⟨j, j0, j1, ej.symm⟩
        have bo := b01_rng (rp M65 nx = rp M65 first)
        refine ax_iload rfl rfl ?_
        refine ax_istore (ls' := [(0, _), (1, _), (2, _), (3, _), (4, _), (5, _), (6, _), (7, _), (8, _), (9, _)]) rfl rfl rfl ?_
        refine ax_aloadn rfl rfl ?_
        refine ax_iload rfl rfl ?_
        refine ax_iload rfl rfl ?_
        refine ax_callV (as := [_, _]) rfl vX8_114 hX8_isOne rfl rfl rfl rfl rfl (c_X8_isOne E (d + 1) M65 nx first (by omega) (by omega) (hB2 nx (by omega) (by omega)) (hB2 first (by omega) (by omega))) (av_Xk ?_)
        refine ax_if_ne rfl (by omega) (fun h176 => ?_) (fun h176 => ?_)
        · refine ax_iconst rfl ?_
          refine ax_istore (ls' := [(0, _), (1, _), (2, _), (3, _), (4, _), (5, _), (6, _), (7, _), (8, _), (9, _)]) rfl rfl rfl ?_
          refine ax_goto rfl ?_
          refine ax_pick [0, 1, 2, 3, 4, 5, 6, 7] rfl ?_
          first
            | omega
            | (have q1 := b01_ne (P := rp M65 nx = rp M65 first) (by omega)
               have e9 : i + 1 = h := by
                 apply Classical.byContradiction
                 intro z
                 have := Hull_nxt0 H hi (by omega)
                 rw [er, en, ef, this.1] at q1
                 exact this.2 q1
               subst e9
               exact le_F_hull E d M65 a b first (i + 1) nx _ ⟨by rw [show ((i + 1 : Nat) : Int) = (i : Int) + 1 by omega], hF2, hK2⟩)
            | (have q1 := b01_eq (P := rp M65 nx = rp M65 first) (by omega)
               have e9 : i + 1 < h := by
                 apply Classical.byContradiction
                 intro z
                 have := Hull_nxte (c := c) (h := h) (i := i) z
                 rw [er, en, ef] at q1
                 exact q1 this
               have := Hull_nxt0 H hi e9
               exact ih (i + 1) nx M65 (by omega) e9 ⟨n0, n1⟩ (by rw [en]; exact this.1) hF2 hK2)
        · refine ax_iconst rfl ?_
          refine ax_goto rfl ?_
          refine ax_istore (ls' := [(0, _), (1, _), (2, _), (3, _), (4, _), (5, _), (6, _), (7, _), (8, _), (9, _)]) rfl rfl rfl ?_
          refine ax_goto rfl ?_
          refine ax_pick [0, 1, 2, 3, 4, 5, 6, 7] rfl ?_
          first
            | omega
            | (have q1 := b01_ne (P := rp M65 nx = rp M65 first) (by omega)
               have e9 : i + 1 = h := by
                 apply Classical.byContradiction
                 intro z
                 have := Hull_nxt0 H hi (by omega)
                 rw [er, en, ef, this.1] at q1
                 exact this.2 q1
               subst e9
               exact le_F_hull E d M65 a b first (i + 1) nx _ ⟨by rw [show ((i + 1 : Nat) : Int) = (i : Int) + 1 by omega], hF2, hK2⟩)
            | (have q1 := b01_eq (P := rp M65 nx = rp M65 first) (by omega)
               have e9 : i + 1 < h := by
                 apply Classical.byContradiction
                 intro z
                 have := Hull_nxte (c := c) (h := h) (i := i) z
                 rw [er, en, ef] at q1
                 exact q1 this
               have := Hull_nxt0 H hi e9
               exact ih (i + 1) nx M65 (by omega) e9 ⟨n0, n1⟩ (by rw [en]; exact this.1) hF2 hK2)
set_option maxRecDepth 100000 in
set_option maxHeartbeats 800000 in
theorem l0_F_hull (E : av_E) (d : Nat) (M : av_M) (a b : Int) (hab : 0 ≤ a ∧ a ≤ b ∧ b ≤ 140) (hB : ∀ k, a ≤ k → k < b → RB M k) (hcap : b - a ≤ 12) : ∀ (t : Nat) (k f : Int), k + t = b → a ≤ k → (a < b → a ≤ f ∧ f < b) → (∀ j, a ≤ j → j < k → ¬ lx (rp M j) (rp M f)) → av_S E (d + 3) mX8_hull 6 [(0, vR 35), (1, vI a), (2, vI b), (3, vR 41), (4, vI f), (5, vI k)] [] M (fun res M' => (∃ h, res = some (vI h) ∧ HU M' 41 a b h) ∧ ∀ k, k ≠ 41 → M' k = M k) := by
  intro t
  induction t with
  | zero =>
    intro k f hk k0 hf hm
    have ek : k = b := by omega
    subst ek
    refine ax_iload rfl rfl ?_
    refine ax_iloadn rfl rfl ?_
    refine ax_icmp_ge rfl (by omega) (by omega) (fun h9 => ?_) (fun h9 => ?_)
    · refine ax_iloadn rfl rfl ?_
      refine ax_iloadn rfl rfl ?_
      refine ax_icmp_lt rfl (by omega) (by omega) (fun h40 => ?_) (fun h40 => ?_)
      · refine ax_iconst rfl ?_
        refine ax_istore (ls' := [(0, _), (1, _), (2, _), (3, _), (4, _), (5, _)]) rfl rfl rfl ?_
        refine ax_iload rfl rfl ?_
        refine ax_istore (ls' := [(0, _), (1, _), (2, _), (3, _), (4, _), (5, _), (6, _)]) rfl rfl rfl ?_
        refine ax_iconst rfl ?_
        refine ax_istore (ls' := [(0, _), (1, _), (2, _), (3, _), (4, _), (5, _), (6, _), (7, _)]) rfl rfl rfl ?_
        obtain ⟨h, c, H, hh⟩ := RS_hull (f := rp M) (a := a) (b := k) (by omega)
        have ef : rp M f = c 0 := by
          refine Hull_lo H ⟨f, (hf (by omega)).1, (hf (by omega)).2, rfl⟩ ?_
          rintro q ⟨j, j0, j1, rfl⟩
          exact hm j j0 j1
        refine av_Sw (l1_F_hull E d M a k hab hB _ h c H (fun j j0 j1 => ⟨j, j0, j1, rfl⟩) (fun p hp => hp) (by omega) f (hf (by omega)) ef h 0 f M (by omega) H.1 (hf (by omega)) ef (fun j hj => by omega) (fun k _ => rfl)) ?_
        rintro r M' ⟨q1, q2, q3⟩
        have er : rp M' = rp M := rp_k (fun k k0 k1 => q3 k (by omega))
        refine ⟨⟨h, q1, by omega, by omega, fun j j0 j1 => ?_, fun _ => ?_, fun q => by omega⟩, q3⟩
        · have := (q2 j.toNat (by omega)).1
          rw [show ((j.toNat : Nat) : Int) = j by omega] at this
          exact this
        · rw [er]
          rw [show ((h : Nat) : Int).toNat = h by omega]
          exact Hull_congr H (fun i hi => (q2 i hi).2)
      · refine ax_iconst rfl ?_
        refine ax_iret rfl rfl ?_
        refine ⟨⟨0, rfl, by omega, by omega, fun j j0 j1 => by omega, fun q => by omega, fun _ => rfl⟩, fun k _ => rfl⟩
    · omega
  | succ t ih =>
    intro k f hk k0 hf hm
    have bo := b01_rng (lx (rp M k) (rp M f))
    have hf2 := hf (by omega)
    refine ax_iload rfl rfl ?_
    refine ax_iloadn rfl rfl ?_
    refine ax_icmp_ge rfl (by omega) (by omega) (fun h9 => ?_) (fun h9 => ?_)
    · omega
    · refine ax_aloadn rfl rfl ?_
      refine ax_iload rfl rfl ?_
      refine ax_iload rfl rfl ?_
      refine ax_callV (as := [_, _]) rfl vX8_110 hX8_isAhead rfl rfl rfl rfl rfl (c_X8_isAhead E (d + 1) M k f (by omega) (by omega) (hB k (by omega) (by omega)) (hB f (by omega) (by omega))) (av_Xk ?_)
      refine ax_if_eq rfl (by omega) (fun h20 => ?_) (fun h20 => ?_)
      · refine ax_iload rfl rfl ?_
        refine ax_istore (ls' := [(0, _), (1, _), (2, _), (3, _), (4, _), (5, _)]) rfl rfl rfl ?_
        refine ax_iinc (ls' := [(0, _), (1, _), (2, _), (3, _), (4, _), (5, _)]) rfl rfl rfl rfl ?_
        refine ax_goto rfl ?_
        first
          | (have q1 := b01_ne (P := lx (rp M k) (rp M f)) (by omega)
             exact ih _ _ (by omega) (by omega) (fun _ => ⟨k0, by omega⟩) (fun j j0 j1 => by
               by_cases q : j = k
               · rw [q]; exact lx_ir
               · exact fun z => hm j j0 (by omega) (lx_tr z q1)))
          | (have q1 := b01_eq (P := lx (rp M k) (rp M f)) (by omega)
             exact ih _ _ (by omega) (by omega) hf (fun j j0 j1 => by
               by_cases q : j = k
               · rw [q]; exact q1
               · exact hm j j0 (by omega)))
      · refine ax_iload rfl rfl ?_
        refine ax_goto rfl ?_
        refine ax_istore (ls' := [(0, _), (1, _), (2, _), (3, _), (4, _), (5, _)]) rfl rfl rfl ?_
        refine ax_iinc (ls' := [(0, _), (1, _), (2, _), (3, _), (4, _), (5, _)]) rfl rfl rfl rfl ?_
        refine ax_goto rfl ?_
        first
          | (have q1 := b01_ne (P := lx (rp M k) (rp M f)) (by omega)
             exact ih _ _ (by omega) (by omega) (fun _ => ⟨k0, by omega⟩) (fun j j0 j1 => by
               by_cases q : j = k
               · rw [q]; exact lx_ir
               · exact fun z => hm j j0 (by omega) (lx_tr z q1)))
          | (have q1 := b01_eq (P := lx (rp M k) (rp M f)) (by omega)
             exact ih _ _ (by omega) (by omega) hf (fun j j0 j1 => by
               by_cases q : j = k
               · rw [q]; exact q1
               · exact hm j j0 (by omega)))
set_option maxRecDepth 100000 in
set_option maxHeartbeats 800000 in
theorem c_F_hull (E : av_E) (d : Nat) (M : av_M) (a b : Int) (hab : 0 ≤ a ∧ a ≤ b ∧ b ≤ 140) (hB : ∀ k, a ≤ k → k < b → RB M k) (hcap : b - a ≤ 12) : av_Mt E (d + 3) mX8_hull [vR 35, vI a, vI b, vR 41] M (fun res M' => (∃ h, res = some (vI h) ∧ HU M' 41 a b h) ∧ ∀ k, k ≠ 41 → M' k = M k) := by
  refine av_enter hX8_hull oX8_hull rfl rfl ?_
  refine ax_iloadn rfl rfl ?_
  refine ax_istore (ls' := [(0, _), (1, _), (2, _), (3, _), (4, _)]) rfl rfl rfl ?_
  refine ax_iloadn rfl rfl ?_
  refine ax_istore (ls' := [(0, _), (1, _), (2, _), (3, _), (4, _), (5, _)]) rfl rfl rfl ?_
  exact l0_F_hull E d M a b hab hB hcap (b - a).toNat a a (by omega) (by omega) (fun q => ⟨by omega, q⟩) (fun j j0 j1 => by omega)
set_option maxRecDepth 100000 in
set_option maxHeartbeats 800000 in
theorem l2_S_hull (E : av_E) (d : Nat) (M : av_M) (a b : Int) (hab : 0 ≤ a ∧ a ≤ b ∧ b ≤ 140) (hB : ∀ k, a ≤ k → k < b → RB M k) (S : pt → Prop) (h : Nat) (c : Nat → pt) (H : Hull S h c) (hS : ∀ k, a ≤ k → k < b → S (rp M k)) (first n at0 more : Int) (i : Nat) (hi : i < h) (hat : a ≤ at0 ∧ at0 < b) (eat : rp M at0 = c i) (Q : Option av_V → av_M → Prop) (nxt0 : ∀ nx, a ≤ nx → nx < b → NIx (rp M) a b (c (nxt h i)) nx → av_S E (d + 3) mX8_hull 164 [(0, vR 35), (1, vI a), (2, vI b), (3, vR 42), (4, vI first), (5, vI n), (6, vI at0), (7, vI more), (8, vI nx), (9, vI b)] [] M Q) : ∀ (t : Nat) (k nx : Int), k + t = b → a ≤ k → (a ≤ nx ∧ nx < b) → NIx (rp M) a k (c (nxt h i)) nx → av_S E (d + 3) mX8_hull 76 [(0, vR 35), (1, vI a), (2, vI b), (3, vR 42), (4, vI first), (5, vI n), (6, vI at0), (7, vI more), (8, vI nx), (9, vI k)] [] M Q := by
  intro t
  induction t with
  | zero =>
    intro k nx hk k0 hn N
    have ek : k = b := by omega
    subst ek
    refine ax_iload rfl rfl ?_
    refine ax_iloadn rfl rfl ?_
    refine ax_icmp_ge rfl (by omega) (by omega) (fun h79 => ?_) (fun h79 => ?_)
    · exact nxt0 nx (by omega) (by omega) N
    · omega
  | succ t ih =>
    intro k nx hk k0 hn N
    have Sk := hS k k0 (by omega)
    have Sn := hS nx hn.1 hn.2
    have Bk := hB k k0 (by omega)
    have Bn := hB nx hn.1 hn.2
    have Ba := hB at0 hat.1 hat.2
    have wk := Bk.2.2.1
    have wn := Bn.2.2.1
    have wa := Ba.2.2.1
    have dr := D3_rng Ba Bn Bk
    have dn : D3 (M 38 at0) (M 39 at0) (M 40 at0) (M 38 nx) (M 39 nx) (M 40 nx) (M 38 k) (M 39 k) (M 40 k) < 0 ↔ cr (c i) (rp M nx) (rp M k) < 0 := by rw [← eat]; exact P2_neg wa wn wk
    have dz : D3 (M 38 at0) (M 39 at0) (M 40 at0) (M 38 nx) (M 39 nx) (M 40 nx) (M 38 k) (M 39 k) (M 40 k) = 0 ↔ cr (c i) (rp M nx) (rp M k) = 0 := by rw [← eat]; exact P2_zero wa wn wk
    have b1 := b01_rng (rp M k = rp M at0)
    have b2 := b01_rng (rp M nx = rp M at0)
    have b3 := b01_rng ((lx (rp M at0) (rp M nx) ∧ lx (rp M nx) (rp M k)) ∨ (lx (rp M k) (rp M nx) ∧ lx (rp M nx) (rp M at0)))
    have ebt : ((lx (rp M at0) (rp M nx) ∧ lx (rp M nx) (rp M k)) ∨ (lx (rp M k) (rp M nx) ∧ lx (rp M nx) (rp M at0))) = btw (c i) (rp M nx) (rp M k) := by rw [eat]; rfl
    refine ax_iload rfl rfl ?_
    refine ax_iloadn rfl rfl ?_
    refine ax_icmp_ge rfl (by omega) (by omega) (fun h79 => ?_) (fun h79 => ?_)
    · omega
    · refine ax_aloadn rfl rfl ?_
      refine ax_iload rfl rfl ?_
      refine ax_iload rfl rfl ?_
      refine ax_callV (as := [_, _]) rfl vX8_114 hX8_isOne rfl rfl rfl rfl rfl (c_X8_isOne E (d + 1) M k at0 (by omega) (by omega) (hB k (by omega) (by omega)) (hB at0 (by omega) (by omega))) (av_Xk ?_)
      refine ax_if_ne rfl (by omega) (fun h90 => ?_) (fun h90 => ?_)
      · refine ax_iinc (ls' := [(0, _), (1, _), (2, _), (3, _), (4, _), (5, _), (6, _), (7, _), (8, _), (9, _)]) rfl rfl rfl rfl ?_
        refine ax_goto rfl ?_
        refine ax_pick [0, 1, 2, 3, 4, 5, 6, 7, 8, 9] rfl ?_
        first
          | omega
          | (have q := b01_ne (P := rp M k = rp M at0) (by omega)
             rw [eat] at q
             exact ih _ _ (by omega) (by omega) (by omega) (NI_same H hi Sn q N))
          | (have q1 := b01_eq (P := rp M k = rp M at0) (by omega)
             rw [eat] at q1
             first
               | (have q2 := b01_ne (P := rp M nx = rp M at0) (by omega)
                  rw [eat] at q2
                  exact ih _ _ (by omega) (by omega) (by omega) (NI_first H hi Sk q1 q2 N))
               | (have q2 := b01_eq (P := rp M nx = rp M at0) (by omega)
                  rw [eat] at q2
                  first
                    | (have q3 := dn.mp (by omega)
                       exact ih _ _ (by omega) (by omega) (by omega) (NI_move H hi Sk q1 (Or.inl q3) N))
                    | (have q3 : ¬ cr (c i) (rp M nx) (rp M k) = 0 := fun z => by have := dz.mpr z; omega
                       have q4 : ¬ cr (c i) (rp M nx) (rp M k) < 0 := fun z => by have := dn.mpr z; omega
                       exact ih _ _ (by omega) (by omega) (by omega) (NI_stay H hi Sk Sn q1 q2 q4 (fun z => absurd z q3) N))
                    | (have q3 := dz.mp (by omega)
                       have q4 : ¬ cr (c i) (rp M nx) (rp M k) < 0 := fun z => by have := dn.mpr z; omega
                       first
                         | (have q5 := b01_ne (P := (lx (rp M at0) (rp M nx) ∧ lx (rp M nx) (rp M k)) ∨ (lx (rp M k) (rp M nx) ∧ lx (rp M nx) (rp M at0))) (by omega)
                            rw [ebt] at q5
                            exact ih _ _ (by omega) (by omega) (by omega) (NI_move H hi Sk q1 (Or.inr ⟨q3, q5⟩) N))
                         | (have q5 := b01_eq (P := (lx (rp M at0) (rp M nx) ∧ lx (rp M nx) (rp M k)) ∨ (lx (rp M k) (rp M nx) ∧ lx (rp M nx) (rp M at0))) (by omega)
                            rw [ebt] at q5
                            exact ih _ _ (by omega) (by omega) (by omega) (NI_stay H hi Sk Sn q1 q2 q4 (fun _ => q5) N)))))
      · refine ax_aloadn rfl rfl ?_
        refine ax_iload rfl rfl ?_
        refine ax_iload rfl rfl ?_
        refine ax_callV (as := [_, _]) rfl vX8_114 hX8_isOne rfl rfl rfl rfl rfl (c_X8_isOne E (d + 1) M nx at0 (by omega) (by omega) (hB nx (by omega) (by omega)) (hB at0 (by omega) (by omega))) (av_Xk ?_)
        refine ax_if_eq rfl (by omega) (fun h101 => ?_) (fun h101 => ?_)
        · refine ax_aloadn rfl rfl ?_
          refine ax_iload rfl rfl ?_
          refine ax_iload rfl rfl ?_
          refine ax_iload rfl rfl ?_
          refine ax_callV (as := [_, _, _]) rfl vX8_119 hX8_side rfl rfl rfl rfl rfl (c_X8_side E (d + 2) M at0 nx k (by omega) (by omega) (by omega)) (av_Xk ?_)
          refine ax_lstore (ls' := [(0, _), (1, _), (2, _), (3, _), (4, _), (5, _), (6, _), (7, _), (8, _), (9, _), (10, _)]) rfl rfl rfl ?_
          refine ax_lload rfl rfl ?_
          refine ax_lconst (w := 0) rfl rfl ?_
          refine ax_lif_lt rfl rfl (by omega) (by omega) (fun h125 => ?_) (fun h125 => ?_)
          · refine ax_iload rfl rfl ?_
            refine ax_goto rfl ?_
            refine ax_istore (ls' := [(0, _), (1, _), (2, _), (3, _), (4, _), (5, _), (6, _), (7, _), (8, _), (9, _), (10, _)]) rfl rfl rfl ?_
            refine ax_iinc (ls' := [(0, _), (1, _), (2, _), (3, _), (4, _), (5, _), (6, _), (7, _), (8, _), (9, _), (10, _)]) rfl rfl rfl rfl ?_
            refine ax_goto rfl ?_
            refine ax_pick [0, 1, 2, 3, 4, 5, 6, 7, 8, 9] rfl ?_
            first
              | omega
              | (have q := b01_ne (P := rp M k = rp M at0) (by omega)
                 rw [eat] at q
                 exact ih _ _ (by omega) (by omega) (by omega) (NI_same H hi Sn q N))
              | (have q1 := b01_eq (P := rp M k = rp M at0) (by omega)
                 rw [eat] at q1
                 first
                   | (have q2 := b01_ne (P := rp M nx = rp M at0) (by omega)
                      rw [eat] at q2
                      exact ih _ _ (by omega) (by omega) (by omega) (NI_first H hi Sk q1 q2 N))
                   | (have q2 := b01_eq (P := rp M nx = rp M at0) (by omega)
                      rw [eat] at q2
                      first
                        | (have q3 := dn.mp (by omega)
                           exact ih _ _ (by omega) (by omega) (by omega) (NI_move H hi Sk q1 (Or.inl q3) N))
                        | (have q3 : ¬ cr (c i) (rp M nx) (rp M k) = 0 := fun z => by have := dz.mpr z; omega
                           have q4 : ¬ cr (c i) (rp M nx) (rp M k) < 0 := fun z => by have := dn.mpr z; omega
                           exact ih _ _ (by omega) (by omega) (by omega) (NI_stay H hi Sk Sn q1 q2 q4 (fun z => absurd z q3) N))
                        | (have q3 := dz.mp (by omega)
                           have q4 : ¬ cr (c i) (rp M nx) (rp M k) < 0 := fun z => by have := dn.mpr z; omega
                           first
                             | (have q5 := b01_ne (P := (lx (rp M at0) (rp M nx) ∧ lx (rp M nx) (rp M k)) ∨ (lx (rp M k) (rp M nx) ∧ lx (rp M nx) (rp M at0))) (by omega)
                                rw [ebt] at q5
                                exact ih _ _ (by omega) (by omega) (by omega) (NI_move H hi Sk q1 (Or.inr ⟨q3, q5⟩) N))
                             | (have q5 := b01_eq (P := (lx (rp M at0) (rp M nx) ∧ lx (rp M nx) (rp M k)) ∨ (lx (rp M k) (rp M nx) ∧ lx (rp M nx) (rp M at0))) (by omega)
                                rw [ebt] at q5
                                exact ih _ _ (by omega) (by omega) (by omega) (NI_stay H hi Sk Sn q1 q2 q4 (fun _ => q5) N)))))
          · refine ax_lload rfl rfl ?_
            refine ax_lconst (w := 0) rfl rfl ?_
            refine ax_lif_ne rfl rfl (by omega) (by omega) (fun h132 => ?_) (fun h132 => ?_)
            · refine ax_iload rfl rfl ?_
              refine ax_istore (ls' := [(0, _), (1, _), (2, _), (3, _), (4, _), (5, _), (6, _), (7, _), (8, _), (9, _), (10, _)]) rfl rfl rfl ?_
              refine ax_iinc (ls' := [(0, _), (1, _), (2, _), (3, _), (4, _), (5, _), (6, _), (7, _), (8, _), (9, _), (10, _)]) rfl rfl rfl rfl ?_
              refine ax_goto rfl ?_
              refine ax_pick [0, 1, 2, 3, 4, 5, 6, 7, 8, 9] rfl ?_
              first
                | omega
                | (have q := b01_ne (P := rp M k = rp M at0) (by omega)
                   rw [eat] at q
                   exact ih _ _ (by omega) (by omega) (by omega) (NI_same H hi Sn q N))
                | (have q1 := b01_eq (P := rp M k = rp M at0) (by omega)
                   rw [eat] at q1
                   first
                     | (have q2 := b01_ne (P := rp M nx = rp M at0) (by omega)
                        rw [eat] at q2
                        exact ih _ _ (by omega) (by omega) (by omega) (NI_first H hi Sk q1 q2 N))
                     | (have q2 := b01_eq (P := rp M nx = rp M at0) (by omega)
                        rw [eat] at q2
                        first
                          | (have q3 := dn.mp (by omega)
                             exact ih _ _ (by omega) (by omega) (by omega) (NI_move H hi Sk q1 (Or.inl q3) N))
                          | (have q3 : ¬ cr (c i) (rp M nx) (rp M k) = 0 := fun z => by have := dz.mpr z; omega
                             have q4 : ¬ cr (c i) (rp M nx) (rp M k) < 0 := fun z => by have := dn.mpr z; omega
                             exact ih _ _ (by omega) (by omega) (by omega) (NI_stay H hi Sk Sn q1 q2 q4 (fun z => absurd z q3) N))
                          | (have q3 := dz.mp (by omega)
                             have q4 : ¬ cr (c i) (rp M nx) (rp M k) < 0 := fun z => by have := dn.mpr z; omega
                             first
                               | (have q5 := b01_ne (P := (lx (rp M at0) (rp M nx) ∧ lx (rp M nx) (rp M k)) ∨ (lx (rp M k) (rp M nx) ∧ lx (rp M nx) (rp M at0))) (by omega)
                                  rw [ebt] at q5
                                  exact ih _ _ (by omega) (by omega) (by omega) (NI_move H hi Sk q1 (Or.inr ⟨q3, q5⟩) N))
                               | (have q5 := b01_eq (P := (lx (rp M at0) (rp M nx) ∧ lx (rp M nx) (rp M k)) ∨ (lx (rp M k) (rp M nx) ∧ lx (rp M nx) (rp M at0))) (by omega)
                                  rw [ebt] at q5
                                  exact ih _ _ (by omega) (by omega) (by omega) (NI_stay H hi Sk Sn q1 q2 q4 (fun _ => q5) N)))))
            · refine ax_aloadn rfl rfl ?_
              refine ax_iload rfl rfl ?_
              refine ax_iload rfl rfl ?_
              refine ax_iload rfl rfl ?_
              refine ax_callV (as := [_, _, _]) rfl vX8_123 hX8_isBetween rfl rfl rfl rfl rfl (c_X8_isBetween E d M at0 nx k (by omega) (by omega) (by omega) Ba Bn Bk) (av_Xk ?_)
              refine ax_if_eq rfl (by omega) (fun h146 => ?_) (fun h146 => ?_)
              · refine ax_iload rfl rfl ?_
                refine ax_istore (ls' := [(0, _), (1, _), (2, _), (3, _), (4, _), (5, _), (6, _), (7, _), (8, _), (9, _), (10, _)]) rfl rfl rfl ?_
                refine ax_iinc (ls' := [(0, _), (1, _), (2, _), (3, _), (4, _), (5, _), (6, _), (7, _), (8, _), (9, _), (10, _)]) rfl rfl rfl rfl ?_
                refine ax_goto rfl ?_
                refine ax_pick [0, 1, 2, 3, 4, 5, 6, 7, 8, 9] rfl ?_
                first
                  | omega
                  | (have q := b01_ne (P := rp M k = rp M at0) (by omega)
                     rw [eat] at q
                     exact ih _ _ (by omega) (by omega) (by omega) (NI_same H hi Sn q N))
                  | (have q1 := b01_eq (P := rp M k = rp M at0) (by omega)
                     rw [eat] at q1
                     first
                       | (have q2 := b01_ne (P := rp M nx = rp M at0) (by omega)
                          rw [eat] at q2
                          exact ih _ _ (by omega) (by omega) (by omega) (NI_first H hi Sk q1 q2 N))
                       | (have q2 := b01_eq (P := rp M nx = rp M at0) (by omega)
                          rw [eat] at q2
                          first
                            | (have q3 := dn.mp (by omega)
                               exact ih _ _ (by omega) (by omega) (by omega) (NI_move H hi Sk q1 (Or.inl q3) N))
                            | (have q3 : ¬ cr (c i) (rp M nx) (rp M k) = 0 := fun z => by have := dz.mpr z; omega
                               have q4 : ¬ cr (c i) (rp M nx) (rp M k) < 0 := fun z => by have := dn.mpr z; omega
                               exact ih _ _ (by omega) (by omega) (by omega) (NI_stay H hi Sk Sn q1 q2 q4 (fun z => absurd z q3) N))
                            | (have q3 := dz.mp (by omega)
                               have q4 : ¬ cr (c i) (rp M nx) (rp M k) < 0 := fun z => by have := dn.mpr z; omega
                               first
                                 | (have q5 := b01_ne (P := (lx (rp M at0) (rp M nx) ∧ lx (rp M nx) (rp M k)) ∨ (lx (rp M k) (rp M nx) ∧ lx (rp M nx) (rp M at0))) (by omega)
                                    rw [ebt] at q5
                                    exact ih _ _ (by omega) (by omega) (by omega) (NI_move H hi Sk q1 (Or.inr ⟨q3, q5⟩) N))
                                 | (have q5 := b01_eq (P := (lx (rp M at0) (rp M nx) ∧ lx (rp M nx) (rp M k)) ∨ (lx (rp M k) (rp M nx) ∧ lx (rp M nx) (rp M at0))) (by omega)
                                    rw [ebt] at q5
                                    exact ih _ _ (by omega) (by omega) (by omega) (NI_stay H hi Sk Sn q1 q2 q4 (fun _ => q5) N)))))
              · refine ax_iload rfl rfl ?_
                refine ax_goto rfl ?_
                refine ax_istore (ls' := [(0, _), (1, _), (2, _), (3, _), (4, _), (5, _), (6, _), (7, _), (8, _), (9, _), (10, _)]) rfl rfl rfl ?_
                refine ax_iinc (ls' := [(0, _), (1, _), (2, _), (3, _), (4, _), (5, _), (6, _), (7, _), (8, _), (9, _), (10, _)]) rfl rfl rfl rfl ?_
                refine ax_goto rfl ?_
                refine ax_pick [0, 1, 2, 3, 4, 5, 6, 7, 8, 9] rfl ?_
                first
                  | omega
                  | (have q := b01_ne (P := rp M k = rp M at0) (by omega)
                     rw [eat] at q
                     exact ih _ _ (by omega) (by omega) (by omega) (NI_same H hi Sn q N))
                  | (have q1 := b01_eq (P := rp M k = rp M at0) (by omega)
                     rw [eat] at q1
                     first
                       | (have q2 := b01_ne (P := rp M nx = rp M at0) (by omega)
                          rw [eat] at q2
                          exact ih _ _ (by omega) (by omega) (by omega) (NI_first H hi Sk q1 q2 N))
                       | (have q2 := b01_eq (P := rp M nx = rp M at0) (by omega)
                          rw [eat] at q2
                          first
                            | (have q3 := dn.mp (by omega)
                               exact ih _ _ (by omega) (by omega) (by omega) (NI_move H hi Sk q1 (Or.inl q3) N))
                            | (have q3 : ¬ cr (c i) (rp M nx) (rp M k) = 0 := fun z => by have := dz.mpr z; omega
                               have q4 : ¬ cr (c i) (rp M nx) (rp M k) < 0 := fun z => by have := dn.mpr z; omega
                               exact ih _ _ (by omega) (by omega) (by omega) (NI_stay H hi Sk Sn q1 q2 q4 (fun z => absurd z q3) N))
                            | (have q3 := dz.mp (by omega)
                               have q4 : ¬ cr (c i) (rp M nx) (rp M k) < 0 := fun z => by have := dn.mpr z; omega
                               first
                                 | (have q5 := b01_ne (P := (lx (rp M at0) (rp M nx) ∧ lx (rp M nx) (rp M k)) ∨ (lx (rp M k) (rp M nx) ∧ lx (rp M nx) (rp M at0))) (by omega)
                                    rw [ebt] at q5
                                    exact ih _ _ (by omega) (by omega) (by omega) (NI_move H hi Sk q1 (Or.inr ⟨q3, q5⟩) N))
                                 | (have q5 := b01_eq (P := (lx (rp M at0) (rp M nx) ∧ lx (rp M nx) (rp M k)) ∨ (lx (rp M k) (rp M nx) ∧ lx (rp M nx) (rp M at0))) (by omega)
                                    rw [ebt] at q5
                                    exact ih _ _ (by omega) (by omega) (by omega) (NI_stay H hi Sk Sn q1 q2 q4 (fun _ => q5) N)))))
        · refine ax_ldc2 (z := (-1)) rfl kX8_117 rfl ?_
          refine ax_goto rfl ?_
          refine ax_lstore (ls' := [(0, _), (1, _), (2, _), (3, _), (4, _), (5, _), (6, _), (7, _), (8, _), (9, _), (10, _)]) rfl rfl rfl ?_
          refine ax_lload rfl rfl ?_
          refine ax_lconst (w := 0) rfl rfl ?_
          refine ax_lif_lt rfl rfl (by omega) (by omega) (fun h125 => ?_) (fun h125 => ?_)
          · refine ax_iload rfl rfl ?_
            refine ax_goto rfl ?_
            refine ax_istore (ls' := [(0, _), (1, _), (2, _), (3, _), (4, _), (5, _), (6, _), (7, _), (8, _), (9, _), (10, _)]) rfl rfl rfl ?_
            refine ax_iinc (ls' := [(0, _), (1, _), (2, _), (3, _), (4, _), (5, _), (6, _), (7, _), (8, _), (9, _), (10, _)]) rfl rfl rfl rfl ?_
            refine ax_goto rfl ?_
            refine ax_pick [0, 1, 2, 3, 4, 5, 6, 7, 8, 9] rfl ?_
            first
              | omega
              | (have q := b01_ne (P := rp M k = rp M at0) (by omega)
                 rw [eat] at q
                 exact ih _ _ (by omega) (by omega) (by omega) (NI_same H hi Sn q N))
              | (have q1 := b01_eq (P := rp M k = rp M at0) (by omega)
                 rw [eat] at q1
                 first
                   | (have q2 := b01_ne (P := rp M nx = rp M at0) (by omega)
                      rw [eat] at q2
                      exact ih _ _ (by omega) (by omega) (by omega) (NI_first H hi Sk q1 q2 N))
                   | (have q2 := b01_eq (P := rp M nx = rp M at0) (by omega)
                      rw [eat] at q2
                      first
                        | (have q3 := dn.mp (by omega)
                           exact ih _ _ (by omega) (by omega) (by omega) (NI_move H hi Sk q1 (Or.inl q3) N))
                        | (have q3 : ¬ cr (c i) (rp M nx) (rp M k) = 0 := fun z => by have := dz.mpr z; omega
                           have q4 : ¬ cr (c i) (rp M nx) (rp M k) < 0 := fun z => by have := dn.mpr z; omega
                           exact ih _ _ (by omega) (by omega) (by omega) (NI_stay H hi Sk Sn q1 q2 q4 (fun z => absurd z q3) N))
                        | (have q3 := dz.mp (by omega)
                           have q4 : ¬ cr (c i) (rp M nx) (rp M k) < 0 := fun z => by have := dn.mpr z; omega
                           first
                             | (have q5 := b01_ne (P := (lx (rp M at0) (rp M nx) ∧ lx (rp M nx) (rp M k)) ∨ (lx (rp M k) (rp M nx) ∧ lx (rp M nx) (rp M at0))) (by omega)
                                rw [ebt] at q5
                                exact ih _ _ (by omega) (by omega) (by omega) (NI_move H hi Sk q1 (Or.inr ⟨q3, q5⟩) N))
                             | (have q5 := b01_eq (P := (lx (rp M at0) (rp M nx) ∧ lx (rp M nx) (rp M k)) ∨ (lx (rp M k) (rp M nx) ∧ lx (rp M nx) (rp M at0))) (by omega)
                                rw [ebt] at q5
                                exact ih _ _ (by omega) (by omega) (by omega) (NI_stay H hi Sk Sn q1 q2 q4 (fun _ => q5) N)))))
          · refine ax_lload rfl rfl ?_
            refine ax_lconst (w := 0) rfl rfl ?_
            refine ax_lif_ne rfl rfl (by omega) (by omega) (fun h132 => ?_) (fun h132 => ?_)
            · refine ax_iload rfl rfl ?_
              refine ax_istore (ls' := [(0, _), (1, _), (2, _), (3, _), (4, _), (5, _), (6, _), (7, _), (8, _), (9, _), (10, _)]) rfl rfl rfl ?_
              refine ax_iinc (ls' := [(0, _), (1, _), (2, _), (3, _), (4, _), (5, _), (6, _), (7, _), (8, _), (9, _), (10, _)]) rfl rfl rfl rfl ?_
              refine ax_goto rfl ?_
              refine ax_pick [0, 1, 2, 3, 4, 5, 6, 7, 8, 9] rfl ?_
              first
                | omega
                | (have q := b01_ne (P := rp M k = rp M at0) (by omega)
                   rw [eat] at q
                   exact ih _ _ (by omega) (by omega) (by omega) (NI_same H hi Sn q N))
                | (have q1 := b01_eq (P := rp M k = rp M at0) (by omega)
                   rw [eat] at q1
                   first
                     | (have q2 := b01_ne (P := rp M nx = rp M at0) (by omega)
                        rw [eat] at q2
                        exact ih _ _ (by omega) (by omega) (by omega) (NI_first H hi Sk q1 q2 N))
                     | (have q2 := b01_eq (P := rp M nx = rp M at0) (by omega)
                        rw [eat] at q2
                        first
                          | (have q3 := dn.mp (by omega)
                             exact ih _ _ (by omega) (by omega) (by omega) (NI_move H hi Sk q1 (Or.inl q3) N))
                          | (have q3 : ¬ cr (c i) (rp M nx) (rp M k) = 0 := fun z => by have := dz.mpr z; omega
                             have q4 : ¬ cr (c i) (rp M nx) (rp M k) < 0 := fun z => by have := dn.mpr z; omega
                             exact ih _ _ (by omega) (by omega) (by omega) (NI_stay H hi Sk Sn q1 q2 q4 (fun z => absurd z q3) N))
                          | (have q3 := dz.mp (by omega)
                             have q4 : ¬ cr (c i) (rp M nx) (rp M k) < 0 := fun z => by have := dn.mpr z; omega
                             first
                               | (have q5 := b01_ne (P := (lx (rp M at0) (rp M nx) ∧ lx (rp M nx) (rp M k)) ∨ (lx (rp M k) (rp M nx) ∧ lx (rp M nx) (rp M at0))) (by omega)
                                  rw [ebt] at q5
                                  exact ih _ _ (by omega) (by omega) (by omega) (NI_move H hi Sk q1 (Or.inr ⟨q3, q5⟩) N))
                               | (have q5 := b01_eq (P := (lx (rp M at0) (rp M nx) ∧ lx (rp M nx) (rp M k)) ∨ (lx (rp M k) (rp M nx) ∧ lx (rp M nx) (rp M at0))) (by omega)
                                  rw [ebt] at q5
                                  exact ih _ _ (by omega) (by omega) (by omega) (NI_stay H hi Sk Sn q1 q2 q4 (fun _ => q5) N)))))
            · refine ax_aloadn rfl rfl ?_
              refine ax_iload rfl rfl ?_
              refine ax_iload rfl rfl ?_
              refine ax_iload rfl rfl ?_
              refine ax_callV (as := [_, _, _]) rfl vX8_123 hX8_isBetween rfl rfl rfl rfl rfl (c_X8_isBetween E d M at0 nx k (by omega) (by omega) (by omega) Ba Bn Bk) (av_Xk ?_)
              refine ax_if_eq rfl (by omega) (fun h146 => ?_) (fun h146 => ?_)
              · refine ax_iload rfl rfl ?_
                refine ax_istore (ls' := [(0, _), (1, _), (2, _), (3, _), (4, _), (5, _), (6, _), (7, _), (8, _), (9, _), (10, _)]) rfl rfl rfl ?_
                refine ax_iinc (ls' := [(0, _), (1, _), (2, _), (3, _), (4, _), (5, _), (6, _), (7, _), (8, _), (9, _), (10, _)]) rfl rfl rfl rfl ?_
                refine ax_goto rfl ?_
                refine ax_pick [0, 1, 2, 3, 4, 5, 6, 7, 8, 9] rfl ?_
                first
                  | omega
                  | (have q := b01_ne (P := rp M k = rp M at0) (by omega)
                     rw [eat] at q
                     exact ih _ _ (by omega) (by omega) (by omega) (NI_same H hi Sn q N))
                  | (have q1 := b01_eq (P := rp M k = rp M at0) (by omega)
                     rw [eat] at q1
                     first
                       | (have q2 := b01_ne (P := rp M nx = rp M at0) (by omega)
                          rw [eat] at q2
                          exact ih _ _ (by omega) (by omega) (by omega) (NI_first H hi Sk q1 q2 N))
                       | (have q2 := b01_eq (P := rp M nx = rp M at0) (by omega)
                          rw [eat] at q2
                          first
                            | (have q3 := dn.mp (by omega)
                               exact ih _ _ (by omega) (by omega) (by omega) (NI_move H hi Sk q1 (Or.inl q3) N))
                            | (have q3 : ¬ cr (c i) (rp M nx) (rp M k) = 0 := fun z => by have := dz.mpr z; omega
                               have q4 : ¬ cr (c i) (rp M nx) (rp M k) < 0 := fun z => by have := dn.mpr z; omega
                               exact ih _ _ (by omega) (by omega) (by omega) (NI_stay H hi Sk Sn q1 q2 q4 (fun z => absurd z q3) N))
                            | (have q3 := dz.mp (by omega)
                               have q4 : ¬ cr (c i) (rp M nx) (rp M k) < 0 := fun z => by have := dn.mpr z; omega
                               first
                                 | (have q5 := b01_ne (P := (lx (rp M at0) (rp M nx) ∧ lx (rp M nx) (rp M k)) ∨ (lx (rp M k) (rp M nx) ∧ lx (rp M nx) (rp M at0))) (by omega)
                                    rw [ebt] at q5
                                    exact ih _ _ (by omega) (by omega) (by omega) (NI_move H hi Sk q1 (Or.inr ⟨q3, q5⟩) N))
                                 | (have q5 := b01_eq (P := (lx (rp M at0) (rp M nx) ∧ lx (rp M nx) (rp M k)) ∨ (lx (rp M k) (rp M nx) ∧ lx (rp M nx) (rp M at0))) (by omega)
                                    rw [ebt] at q5
                                    exact ih _ _ (by omega) (by omega) (by omega) (NI_stay H hi Sk Sn q1 q2 q4 (fun _ => q5) N)))))
              · refine ax_iload rfl rfl ?_
                refine ax_goto rfl ?_
                refine ax_istore (ls' := [(0, _), (1, _), (2, _), (3, _), (4, _), (5, _), (6, _), (7, _), (8, _), (9, _), (10, _)]) rfl rfl rfl ?_
                refine ax_iinc (ls' := [(0, _), (1, _), (2, _), (3, _), (4, _), (5, _), (6, _), (7, _), (8, _), (9, _), (10, _)]) rfl rfl rfl rfl ?_
                refine ax_goto rfl ?_
                refine ax_pick [0, 1, 2, 3, 4, 5, 6, 7, 8, 9] rfl ?_
                first
                  | omega
                  | (have q := b01_ne (P := rp M k = rp M at0) (by omega)
                     rw [eat] at q
                     exact ih _ _ (by omega) (by omega) (by omega) (NI_same H hi Sn q N))
                  | (have q1 := b01_eq (P := rp M k = rp M at0) (by omega)
                     rw [eat] at q1
                     first
                       | (have q2 := b01_ne (P := rp M nx = rp M at0) (by omega)
                          rw [eat] at q2
                          exact ih _ _ (by omega) (by omega) (by omega) (NI_first H hi Sk q1 q2 N))
                       | (have q2 := b01_eq (P := rp M nx = rp M at0) (by omega)
                          rw [eat] at q2
                          first
                            | (have q3 := dn.mp (by omega)
                               exact ih _ _ (by omega) (by omega) (by omega) (NI_move H hi Sk q1 (Or.inl q3) N))
                            | (have q3 : ¬ cr (c i) (rp M nx) (rp M k) = 0 := fun z => by have := dz.mpr z; omega
                               have q4 : ¬ cr (c i) (rp M nx) (rp M k) < 0 := fun z => by have := dn.mpr z; omega
                               exact ih _ _ (by omega) (by omega) (by omega) (NI_stay H hi Sk Sn q1 q2 q4 (fun z => absurd z q3) N))
                            | (have q3 := dz.mp (by omega)
                               have q4 : ¬ cr (c i) (rp M nx) (rp M k) < 0 := fun z => by have := dn.mpr z; omega
                               first
                                 | (have q5 := b01_ne (P := (lx (rp M at0) (rp M nx) ∧ lx (rp M nx) (rp M k)) ∨ (lx (rp M k) (rp M nx) ∧ lx (rp M nx) (rp M at0))) (by omega)
                                    rw [ebt] at q5
                                    exact ih _ _ (by omega) (by omega) (by omega) (NI_move H hi Sk q1 (Or.inr ⟨q3, q5⟩) N))
                                 | (have q5 := b01_eq (P := (lx (rp M at0) (rp M nx) ∧ lx (rp M nx) (rp M k)) ∨ (lx (rp M k) (rp M nx) ∧ lx (rp M nx) (rp M at0))) (by omega)
                                    rw [ebt] at q5
                                    exact ih _ _ (by omega) (by omega) (by omega) (NI_stay H hi Sk Sn q1 q2 q4 (fun _ => q5) N)))))
set_option maxRecDepth 100000 in
set_option maxHeartbeats 800000 in
theorem le_S_hull (E : av_E) (d : Nat) (M : av_M) (a b first n at0 : Int) (Q : Option av_V → av_M → Prop) (hq : Q (some (vI n)) M) : av_S E (d + 3) mX8_hull 55 [(0, vR 35), (1, vI a), (2, vI b), (3, vR 42), (4, vI first), (5, vI n), (6, vI at0), (7, vI 0)] [] M Q := by
  refine ax_iload rfl rfl ?_
  refine ax_if_eq rfl (by omega) (fun h57 => ?_) (fun h57 => ?_)
  · refine ax_iload rfl rfl ?_
    refine ax_iret rfl rfl ?_
    exact hq
  · omega
set_option maxRecDepth 100000 in
set_option maxHeartbeats 800000 in
theorem l1_S_hull (E : av_E) (d : Nat) (M : av_M) (a b : Int) (hab : 0 ≤ a ∧ a ≤ b ∧ b ≤ 140) (hB : ∀ k, a ≤ k → k < b → RB M k) (S : pt → Prop) (h : Nat) (c : Nat → pt) (H : Hull S h c) (hS : ∀ k, a ≤ k → k < b → S (rp M k)) (hSr : ∀ p, S p → ∃ k, a ≤ k ∧ k < b ∧ p = rp M k) (hc : h ≤ 121) (first : Int) (hf : a ≤ first ∧ first < b) (ef : rp M first = c 0) : ∀ (t i : Nat) (at0 : Int) (M1 : av_M), i + t = h → i < h → (a ≤ at0 ∧ at0 < b) → rp M at0 = c i → (∀ j : Nat, j < i → (a ≤ M1 42 j ∧ M1 42 j < b) ∧ rp M (M1 42 j) = c j) → (∀ k, k ≠ 42 → M1 k = M k) → av_S E (d + 3) mX8_hull 55 [(0, vR 35), (1, vI a), (2, vI b), (3, vR 42), (4, vI first), (5, vI (i : Int)), (6, vI at0), (7, vI 1)] [] M1 (fun res M' => res = some (vI h) ∧ (∀ j : Nat, j < h → (a ≤ M' 42 j ∧ M' 42 j < b) ∧ rp M (M' 42 j) = c j) ∧ ∀ k, k ≠ 42 → M' k = M k) := by
  intro t
  induction t with
  | zero =>
    intro i at0 M1 hit hi
    omega
  | succ t ih =>
    intro i at0 M1 hit hi hat eat hF hK
    refine ax_iload rfl rfl ?_
    refine ax_if_eq rfl (by omega) (fun h57 => ?_) (fun h57 => ?_)
    · omega
    · refine ax_aloadn rfl rfl ?_
      refine ax_iload rfl rfl ?_
      refine ax_iload rfl rfl ?_
      refine ax_iast' rfl rfl (by omega) (fun M65 a65 b65 c65 => ?_)
      refine ax_iinc (ls' := [(0, _), (1, _), (2, _), (3, _), (4, _), (5, _), (6, _), (7, _)]) rfl rfl rfl rfl ?_
      refine ax_iload rfl rfl ?_
      refine ax_istore (ls' := [(0, _), (1, _), (2, _), (3, _), (4, _), (5, _), (6, _), (7, _), (8, _)]) rfl rfl rfl ?_
      refine ax_iloadn rfl rfl ?_
      refine ax_istore (ls' := [(0, _), (1, _), (2, _), (3, _), (4, _), (5, _), (6, _), (7, _), (8, _), (9, _)]) rfl rfl rfl ?_
      have hK2 : ∀ k, k ≠ 42 → M65 k = M k := fun k q => by rw [c65 k q, hK k q]
      have hF2 : ∀ j : Nat, j < i + 1 → (a ≤ M65 42 j ∧ M65 42 j < b) ∧ rp M (M65 42 j) = c j := fun j hj => by
        by_cases q : j = i
        · subst q
          rw [a65]
          exact ⟨hat, eat⟩
        · rw [b65 j (by omega)]
          exact hF j (by omega)
      have er : rp M65 = rp M := rp_k (fun k k0 k1 => hK2 k (by omega))
      have hB2 : ∀ k, a ≤ k → k < b → RB M65 k := fun k k0 k1 => (RB_k (fun k k0 k1 => hK2 k (by omega)) k).mpr (hB k k0 k1)
      refine l2_S_hull E d M65 a b hab hB2 S h c H (by rw [er]; exact hS) first (i + 1) at0 1 i hi hat (by rw [er]; exact eat) _ (fun nx n0 n1 N => ?nx) (b - a).toNat a at0 (by omega) (by omega) hat NI_0
      case nx =>
        rw [er] at N
        obtain ⟨j, j0, j1, ej⟩ := hSr _ (H.2.1 _ (nxt_lt (i := i) H.1))
        have en := N ⟨j, j0, j1, ej.symm⟩
        have bo := b01_rng (rp M65 nx = rp M65 first)
        refine ax_iload rfl rfl ?_
        refine ax_istore (ls' := [(0, _), (1, _), (2, _), (3, _), (4, _), (5, _), (6, _), (7, _), (8, _), (9, _)]) rfl rfl rfl ?_
        refine ax_aloadn rfl rfl ?_
        refine ax_iload rfl rfl ?_
        refine ax_iload rfl rfl ?_
        refine ax_callV (as := [_, _]) rfl vX8_114 hX8_isOne rfl rfl rfl rfl rfl (c_X8_isOne E (d + 1) M65 nx first (by omega) (by omega) (hB2 nx (by omega) (by omega)) (hB2 first (by omega) (by omega))) (av_Xk ?_)
        refine ax_if_ne rfl (by omega) (fun h176 => ?_) (fun h176 => ?_)
        · refine ax_iconst rfl ?_
          refine ax_istore (ls' := [(0, _), (1, _), (2, _), (3, _), (4, _), (5, _), (6, _), (7, _), (8, _), (9, _)]) rfl rfl rfl ?_
          refine ax_goto rfl ?_
          refine ax_pick [0, 1, 2, 3, 4, 5, 6, 7] rfl ?_
          first
            | omega
            | (have q1 := b01_ne (P := rp M65 nx = rp M65 first) (by omega)
               have e9 : i + 1 = h := by
                 apply Classical.byContradiction
                 intro z
                 have := Hull_nxt0 H hi (by omega)
                 rw [er, en, ef, this.1] at q1
                 exact this.2 q1
               subst e9
               exact le_S_hull E d M65 a b first (i + 1) nx _ ⟨by rw [show ((i + 1 : Nat) : Int) = (i : Int) + 1 by omega], hF2, hK2⟩)
            | (have q1 := b01_eq (P := rp M65 nx = rp M65 first) (by omega)
               have e9 : i + 1 < h := by
                 apply Classical.byContradiction
                 intro z
                 have := Hull_nxte (c := c) (h := h) (i := i) z
                 rw [er, en, ef] at q1
                 exact q1 this
               have := Hull_nxt0 H hi e9
               exact ih (i + 1) nx M65 (by omega) e9 ⟨n0, n1⟩ (by rw [en]; exact this.1) hF2 hK2)
        · refine ax_iconst rfl ?_
          refine ax_goto rfl ?_
          refine ax_istore (ls' := [(0, _), (1, _), (2, _), (3, _), (4, _), (5, _), (6, _), (7, _), (8, _), (9, _)]) rfl rfl rfl ?_
          refine ax_goto rfl ?_
          refine ax_pick [0, 1, 2, 3, 4, 5, 6, 7] rfl ?_
          first
            | omega
            | (have q1 := b01_ne (P := rp M65 nx = rp M65 first) (by omega)
               have e9 : i + 1 = h := by
                 apply Classical.byContradiction
                 intro z
                 have := Hull_nxt0 H hi (by omega)
                 rw [er, en, ef, this.1] at q1
                 exact this.2 q1
               subst e9
               exact le_S_hull E d M65 a b first (i + 1) nx _ ⟨by rw [show ((i + 1 : Nat) : Int) = (i : Int) + 1 by omega], hF2, hK2⟩)
            | (have q1 := b01_eq (P := rp M65 nx = rp M65 first) (by omega)
               have e9 : i + 1 < h := by
                 apply Classical.byContradiction
                 intro z
                 have := Hull_nxte (c := c) (h := h) (i := i) z
                 rw [er, en, ef] at q1
                 exact q1 this
               have := Hull_nxt0 H hi e9
               exact ih (i + 1) nx M65 (by omega) e9 ⟨n0, n1⟩ (by rw [en]; exact this.1) hF2 hK2)
set_option maxRecDepth 100000 in
set_option maxHeartbeats 800000 in
theorem l0_S_hull (E : av_E) (d : Nat) (M : av_M) (a b : Int) (hab : 0 ≤ a ∧ a ≤ b ∧ b ≤ 140) (hB : ∀ k, a ≤ k → k < b → RB M k) (hcap : b - a ≤ 121) : ∀ (t : Nat) (k f : Int), k + t = b → a ≤ k → (a < b → a ≤ f ∧ f < b) → (∀ j, a ≤ j → j < k → ¬ lx (rp M j) (rp M f)) → av_S E (d + 3) mX8_hull 6 [(0, vR 35), (1, vI a), (2, vI b), (3, vR 42), (4, vI f), (5, vI k)] [] M (fun res M' => (∃ h, res = some (vI h) ∧ HU M' 42 a b h) ∧ ∀ k, k ≠ 42 → M' k = M k) := by
  intro t
  induction t with
  | zero =>
    intro k f hk k0 hf hm
    have ek : k = b := by omega
    subst ek
    refine ax_iload rfl rfl ?_
    refine ax_iloadn rfl rfl ?_
    refine ax_icmp_ge rfl (by omega) (by omega) (fun h9 => ?_) (fun h9 => ?_)
    · refine ax_iloadn rfl rfl ?_
      refine ax_iloadn rfl rfl ?_
      refine ax_icmp_lt rfl (by omega) (by omega) (fun h40 => ?_) (fun h40 => ?_)
      · refine ax_iconst rfl ?_
        refine ax_istore (ls' := [(0, _), (1, _), (2, _), (3, _), (4, _), (5, _)]) rfl rfl rfl ?_
        refine ax_iload rfl rfl ?_
        refine ax_istore (ls' := [(0, _), (1, _), (2, _), (3, _), (4, _), (5, _), (6, _)]) rfl rfl rfl ?_
        refine ax_iconst rfl ?_
        refine ax_istore (ls' := [(0, _), (1, _), (2, _), (3, _), (4, _), (5, _), (6, _), (7, _)]) rfl rfl rfl ?_
        obtain ⟨h, c, H, hh⟩ := RS_hull (f := rp M) (a := a) (b := k) (by omega)
        have ef : rp M f = c 0 := by
          refine Hull_lo H ⟨f, (hf (by omega)).1, (hf (by omega)).2, rfl⟩ ?_
          rintro q ⟨j, j0, j1, rfl⟩
          exact hm j j0 j1
        refine av_Sw (l1_S_hull E d M a k hab hB _ h c H (fun j j0 j1 => ⟨j, j0, j1, rfl⟩) (fun p hp => hp) (by omega) f (hf (by omega)) ef h 0 f M (by omega) H.1 (hf (by omega)) ef (fun j hj => by omega) (fun k _ => rfl)) ?_
        rintro r M' ⟨q1, q2, q3⟩
        have er : rp M' = rp M := rp_k (fun k k0 k1 => q3 k (by omega))
        refine ⟨⟨h, q1, by omega, by omega, fun j j0 j1 => ?_, fun _ => ?_, fun q => by omega⟩, q3⟩
        · have := (q2 j.toNat (by omega)).1
          rw [show ((j.toNat : Nat) : Int) = j by omega] at this
          exact this
        · rw [er]
          rw [show ((h : Nat) : Int).toNat = h by omega]
          exact Hull_congr H (fun i hi => (q2 i hi).2)
      · refine ax_iconst rfl ?_
        refine ax_iret rfl rfl ?_
        refine ⟨⟨0, rfl, by omega, by omega, fun j j0 j1 => by omega, fun q => by omega, fun _ => rfl⟩, fun k _ => rfl⟩
    · omega
  | succ t ih =>
    intro k f hk k0 hf hm
    have bo := b01_rng (lx (rp M k) (rp M f))
    have hf2 := hf (by omega)
    refine ax_iload rfl rfl ?_
    refine ax_iloadn rfl rfl ?_
    refine ax_icmp_ge rfl (by omega) (by omega) (fun h9 => ?_) (fun h9 => ?_)
    · omega
    · refine ax_aloadn rfl rfl ?_
      refine ax_iload rfl rfl ?_
      refine ax_iload rfl rfl ?_
      refine ax_callV (as := [_, _]) rfl vX8_110 hX8_isAhead rfl rfl rfl rfl rfl (c_X8_isAhead E (d + 1) M k f (by omega) (by omega) (hB k (by omega) (by omega)) (hB f (by omega) (by omega))) (av_Xk ?_)
      refine ax_if_eq rfl (by omega) (fun h20 => ?_) (fun h20 => ?_)
      · refine ax_iload rfl rfl ?_
        refine ax_istore (ls' := [(0, _), (1, _), (2, _), (3, _), (4, _), (5, _)]) rfl rfl rfl ?_
        refine ax_iinc (ls' := [(0, _), (1, _), (2, _), (3, _), (4, _), (5, _)]) rfl rfl rfl rfl ?_
        refine ax_goto rfl ?_
        first
          | (have q1 := b01_ne (P := lx (rp M k) (rp M f)) (by omega)
             exact ih _ _ (by omega) (by omega) (fun _ => ⟨k0, by omega⟩) (fun j j0 j1 => by
               by_cases q : j = k
               · rw [q]; exact lx_ir
               · exact fun z => hm j j0 (by omega) (lx_tr z q1)))
          | (have q1 := b01_eq (P := lx (rp M k) (rp M f)) (by omega)
             exact ih _ _ (by omega) (by omega) hf (fun j j0 j1 => by
               by_cases q : j = k
               · rw [q]; exact q1
               · exact hm j j0 (by omega)))
      · refine ax_iload rfl rfl ?_
        refine ax_goto rfl ?_
        refine ax_istore (ls' := [(0, _), (1, _), (2, _), (3, _), (4, _), (5, _)]) rfl rfl rfl ?_
        refine ax_iinc (ls' := [(0, _), (1, _), (2, _), (3, _), (4, _), (5, _)]) rfl rfl rfl rfl ?_
        refine ax_goto rfl ?_
        first
          | (have q1 := b01_ne (P := lx (rp M k) (rp M f)) (by omega)
             exact ih _ _ (by omega) (by omega) (fun _ => ⟨k0, by omega⟩) (fun j j0 j1 => by
               by_cases q : j = k
               · rw [q]; exact lx_ir
               · exact fun z => hm j j0 (by omega) (lx_tr z q1)))
          | (have q1 := b01_eq (P := lx (rp M k) (rp M f)) (by omega)
             exact ih _ _ (by omega) (by omega) hf (fun j j0 j1 => by
               by_cases q : j = k
               · rw [q]; exact q1
               · exact hm j j0 (by omega)))
set_option maxRecDepth 100000 in
set_option maxHeartbeats 800000 in
theorem c_S_hull (E : av_E) (d : Nat) (M : av_M) (a b : Int) (hab : 0 ≤ a ∧ a ≤ b ∧ b ≤ 140) (hB : ∀ k, a ≤ k → k < b → RB M k) (hcap : b - a ≤ 121) : av_Mt E (d + 3) mX8_hull [vR 35, vI a, vI b, vR 42] M (fun res M' => (∃ h, res = some (vI h) ∧ HU M' 42 a b h) ∧ ∀ k, k ≠ 42 → M' k = M k) := by
  refine av_enter hX8_hull oX8_hull rfl rfl ?_
  refine ax_iloadn rfl rfl ?_
  refine ax_istore (ls' := [(0, _), (1, _), (2, _), (3, _), (4, _)]) rfl rfl rfl ?_
  refine ax_iloadn rfl rfl ?_
  refine ax_istore (ls' := [(0, _), (1, _), (2, _), (3, _), (4, _), (5, _)]) rfl rfl rfl ?_
  exact l0_S_hull E d M a b hab hB hcap (b - a).toNat a a (by omega) (by omega) (fun q => ⟨by omega, q⟩) (fun j j0 j1 => by omega)
