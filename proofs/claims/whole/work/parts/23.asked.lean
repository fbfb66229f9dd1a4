/-! ===== outlines: what is asked of them ===== -/
def HdM (X Y W R : Int → Int) (n h : Int) (p : pt) : Prop := 0 < n ∧ ¬ lx p (P2 (X 0) (Y 0) (W 0)) ∧ ¬ lx (P2 (X (n - 1)) (Y (n - 1)) (W (n - 1))) p ∧ Inn h.toNat (cn X Y W R) p
noncomputable def cntP (P : Nat → Prop) : Nat → Int
  | 0 => 0
  | n + 1 => cntP P n + b01 (P n)
theorem cntP_rng (P : Nat → Prop) : ∀ n, 0 ≤ cntP P n ∧ cntP P n ≤ n := by
  intro n
  induction n with
  | zero => exact ⟨Int.le_refl _, Int.le_refl _⟩
  | succ n ih =>
    show 0 ≤ cntP P n + b01 (P n) ∧ cntP P n + b01 (P n) ≤ ((n + 1 : Nat) : Int)
    have := b01_rng (P n)
    omega
theorem cn_nxt {X Y W R : Int → Int} {h i : Int} (h0 : 0 ≤ i) (h1 : i < h) : cn X Y W R (nxt h.toNat i.toNat) = P2 (X (R (if i + 1 < h then i + 1 else 0))) (Y (R (if i + 1 < h then i + 1 else 0))) (W (R (if i + 1 < h then i + 1 else 0))) := by
  have e : ((nxt h.toNat i.toNat : Nat) : Int) = if i + 1 < h then i + 1 else 0 := by
    unfold nxt
    split <;> split <;> omega
  unfold cn; rw [e]
theorem cn_at {X Y W R : Int → Int} {i : Int} (h0 : 0 ≤ i) : cn X Y W R i.toNat = P2 (X (R i)) (Y (R i)) (W (R i)) := by
  unfold cn; rw [show ((i.toNat : Nat) : Int) = i by omega]
theorem P2_o : P2 0 0 1 = ((0 : Rat), (0 : Rat)) := by unfold P2; refine Prod.ext ?_ ?_ <;> (show ((0 : Int) : Rat) / ((1 : Int) : Rat) = 0) <;> grind
set_option maxRecDepth 100000 in
set_option maxHeartbeats 400000 in
theorem c_H_holds (E : av_E) (d : Nat) (M : av_M) (S : pt → Prop) (px py pw : Int) (hp : BP px py pw) (hO : OO (M 5) (M 6) (M 7) (M 8) (M 4 4) (M 4 5)  S) (hn : M 4 4 ≤ 12) (hh : M 4 5 ≤ 14) : av_Mt E (d + 2) mX4_holds [vR 4, vI px, vI py, vI pw] M (av_X (some (vI (b01 (HdM (M 5) (M 6) (M 7) (M 8) (M 4 4) (M 4 5) (P2 px py pw))))) M) := by
  obtain ⟨hE, hh0, hz, hR, hH⟩ := hO
  have hn0 := hE.1
  have hB := hE.2.1
  have hp0 := hp.2.2.1
  have loop : 0 < (M 4 4) → ¬ lx (P2 px py pw) (P2 (M 5 0) (M 6 0) (M 7 0)) → ¬ lx (P2 (M 5 ((M 4 4) - 1)) (M 6 ((M 4 4) - 1)) (M 7 ((M 4 4) - 1))) (P2 px py pw) → ∀ (t : Nat) (i : Int), i + t = (M 4 5) → 0 ≤ i → (∀ j : Nat, (j : Int) < i → 0 ≤ cr ((cn (M 5) (M 6) (M 7) (M 8)) j) ((cn (M 5) (M 6) (M 7) (M 8)) (nxt (M 4 5).toNat j)) (P2 px py pw)) → av_S E (d + 2) mX4_holds 39 [(0, vR 4), (1, vI px), (2, vI py), (3, vI pw), (4, vI i)] [] M (av_X (some (vI (b01 (HdM (M 5) (M 6) (M 7) (M 8) (M 4 4) (M 4 5) (P2 px py pw))))) M) := by
    intro k0 k1 k2 t
    induction t with
    | zero =>
      intro i hi i0 hall
      refine ax_iload rfl rfl ?_
      refine ax_aloadn rfl rfl ?_
      refine ax_getI (g := 5) rfl fX4_36 rfl rfl rfl rfl ?_
      refine ax_icmp_ge rfl (by omega) (by omega) (fun h45 => ?_) (fun h45 => ?_)
      · refine ax_iconst rfl ?_
        refine ax_zret rfl rfl (by omega) ?_
        exact av_rI (b01_t ⟨k0, k1, k2, fun j hj => hall j (by omega)⟩).symm
      · omega
    | succ t ih =>
      intro i hi i0 hall
      refine ax_iload rfl rfl ?_
      refine ax_aloadn rfl rfl ?_
      refine ax_getI (g := 5) rfl fX4_36 rfl rfl rfl rfl ?_
      refine ax_icmp_ge rfl (by omega) (by omega) (fun h45 => ?_) (fun h45 => ?_)
      · omega
      · refine ax_aloadn rfl rfl ?_
        refine ax_aloadn rfl rfl ?_
        refine ax_getR rfl fX4_19 rfl rfl ?_
        refine ax_iload rfl rfl ?_
        refine ax_iald rfl rfl (by omega) ?_
        refine ax_aloadn rfl rfl ?_
        refine ax_getR rfl fX4_19 rfl rfl ?_
        refine ax_aloadn rfl rfl ?_
        refine ax_iload rfl rfl ?_
        refine ax_callV (as := [_]) rfl vX4_47 hX4_next rfl rfl rfl rfl rfl (c_H_next E (d + 1) M i (by omega) (by omega)) (av_Xk ?_)
        refine ax_iald rfl rfl (by have := hR (if i + 1 < (M 4 5) then i + 1 else 0) (by split <;> omega) (by split <;> omega); split <;> omega) ?_
        refine ax_iloadn rfl rfl ?_
        refine ax_iloadn rfl rfl ?_
        refine ax_iloadn rfl rfl ?_
        refine ax_callV (as := [_, _, _, _, _]) rfl vX4_43 hX4_turn rfl rfl rfl rfl rfl (c_H_turn E (d + 1) M _ _ _ _ _ (by have := hR i (by omega) (by omega); omega) (by have := hR (if i + 1 < (M 4 5) then i + 1 else 0) (by split <;> omega) (by split <;> omega); omega) (hB _ (hR i (by omega) (by omega)).1 (hR i (by omega) (by omega)).2) (hB _ (hR (if i + 1 < (M 4 5) then i + 1 else 0) (by split <;> omega) (by split <;> omega)).1 (hR (if i + 1 < (M 4 5) then i + 1 else 0) (by split <;> omega) (by split <;> omega)).2) (Or.inl hp)) (av_Xk ?_)
        refine ax_lconst (w := 0) rfl rfl ?_
        refine ax_lif_ge rfl rfl (by
  have q0 := hR i (by omega) (by omega)
  have q1 := hR (if i + 1 < (M 4 5) then i + 1 else 0) (by split <;> omega) (by split <;> omega)
  exact D3_rng (hB _ q0.1 q0.2) (hB _ q1.1 q1.2) (hp)) (by omega) (fun h74 => ?_) (fun h74 => ?_)
        · refine ax_iinc (ls' := [(0, _), (1, _), (2, _), (3, _), (4, _)]) rfl rfl rfl rfl ?_
          refine ax_goto rfl ?_
          refine ih _ (by omega) (by omega) (fun j hj => ?_)
          by_cases hji : (j : Int) = i
          · have q0 := hR i (by omega) (by omega)
            have q1 := hR (if i + 1 < (M 4 5) then i + 1 else 0) (by split <;> omega) (by split <;> omega)
            have w0 := (hB _ q0.1 q0.2).2.2.1
            have w1 := (hB _ q1.1 q1.2).2.2.1
            have e1 := cn_nxt (X := M 5) (Y := M 6) (W := M 7) (R := M 8) (h := (M 4 5)) i0 (by omega)
            have e2 := cn_at (X := M 5) (Y := M 6) (W := M 7) (R := M 8) i0
            rw [show i.toNat = j by omega] at e1 e2
            rw [e1, e2]
            exact (P2_nn w0 w1 hp0).mp (by omega)
          · exact hall j (by omega)
        · refine ax_iconst rfl ?_
          refine ax_zret rfl rfl (by omega) ?_
          refine av_rI (b01_f ?_).symm
          rintro ⟨-, -, -, hin⟩
          have q0 := hR i (by omega) (by omega)
          have q1 := hR (if i + 1 < (M 4 5) then i + 1 else 0) (by split <;> omega) (by split <;> omega)
          have w0 := (hB _ q0.1 q0.2).2.2.1
          have w1 := (hB _ q1.1 q1.2).2.2.1
          have := hin i.toNat (by omega)
          rw [cn_nxt i0 (by omega), cn_at i0] at this
          have := (P2_nn w0 w1 hp0).mpr this
          omega
  refine av_enter hX4_holds oX4_holds rfl rfl ?_
  refine ax_aloadn rfl rfl ?_
  refine ax_getI (g := 4) rfl fX4_22 rfl rfl rfl rfl ?_
  refine ax_if_eq rfl (by omega) (fun h4 => ?_) (fun h4 => ?_)
  · refine ax_iconst rfl ?_
    refine ax_zret rfl rfl (by omega) ?_
    refine av_rI (b01_f ?_).symm
    rintro ⟨k0, k1, k2, -⟩
    first
      | omega
      | (rw [← sd_pos (hB 0 (by omega) (by omega)).2.2.1 hp0] at k1; omega)
      | (rw [← sd_neg (hB ((M 4 4) - 1) (by omega) (by omega)).2.2.1 hp0] at k2; omega)
  · refine ax_aloadn rfl rfl ?_
    refine ax_iconst rfl ?_
    refine ax_iloadn rfl rfl ?_
    refine ax_iloadn rfl rfl ?_
    refine ax_iloadn rfl rfl ?_
    refine ax_callV (as := [_, _, _, _]) rfl vX4_26 hX4_side rfl rfl rfl rfl rfl (c_H_side E d M _ px py pw (by omega) (hB _ (by omega) (by omega)) hp) (av_Xk ?_)
    refine ax_if_gt rfl (by have := sd_rng (M 5 (0)) (M 6 (0)) (M 7 (0)) px py pw; omega) (fun h15 => ?_) (fun h15 => ?_)
    · refine ax_iconst rfl ?_
      refine ax_zret rfl rfl (by omega) ?_
      refine av_rI (b01_f ?_).symm
      rintro ⟨k0, k1, k2, -⟩
      first
        | omega
        | (rw [← sd_pos (hB 0 (by omega) (by omega)).2.2.1 hp0] at k1; omega)
        | (rw [← sd_neg (hB ((M 4 4) - 1) (by omega) (by omega)).2.2.1 hp0] at k2; omega)
    · refine ax_aloadn rfl rfl ?_
      refine ax_aloadn rfl rfl ?_
      refine ax_getI (g := 4) rfl fX4_22 rfl rfl rfl rfl ?_
      refine ax_iconst rfl ?_
      refine ax_isub rfl ?_
      refine ax_iloadn rfl rfl ?_
      refine ax_iloadn rfl rfl ?_
      refine ax_iloadn rfl rfl ?_
      refine ax_callV (as := [_, _, _, _]) rfl vX4_26 hX4_side rfl rfl rfl rfl rfl (c_H_side E d M _ px py pw (by omega) (hB _ (by omega) (by omega)) hp) (av_Xk ?_)
      refine ax_if_ge rfl (by have := sd_rng (M 5 ((M 4 4) - 1)) (M 6 ((M 4 4) - 1)) (M 7 ((M 4 4) - 1)) px py pw; omega) (fun h31 => ?_) (fun h31 => ?_)
      · refine ax_iconst rfl ?_
        refine ax_istore (ls' := [(0, _), (1, _), (2, _), (3, _), (4, _)]) rfl rfl rfl ?_
        refine loop (by omega) ?_ ?_ (M 4 5).toNat 0 (by omega) (by omega) (fun j hj => by omega)
        · rw [← sd_pos (hB 0 (by omega) (by omega)).2.2.1 hp0]; omega
        · rw [← sd_neg (hB ((M 4 4) - 1) (by omega) (by omega)).2.2.1 hp0]; omega
      · refine ax_iconst rfl ?_
        refine ax_zret rfl rfl (by omega) ?_
        refine av_rI (b01_f ?_).symm
        rintro ⟨k0, k1, k2, -⟩
        first
          | omega
          | (rw [← sd_pos (hB 0 (by omega) (by omega)).2.2.1 hp0] at k1; omega)
          | (rw [← sd_neg (hB ((M 4 4) - 1) (by omega) (by omega)).2.2.1 hp0] at k2; omega)
set_option maxRecDepth 100000 in
set_option maxHeartbeats 400000 in
theorem c_H_missing (E : av_E) (d : Nat) (M : av_M) (S S2 : pt → Prop) (hO : OO (M 5) (M 6) (M 7) (M 8) (M 4 4) (M 4 5)  S) (hn : M 4 4 ≤ 12) (hh : M 4 5 ≤ 14) (hO2 : OO (M 29) (M 30) (M 31) (M 32) (M 28 4) (M 28 5)  S2) (hn2 : M 28 4 ≤ 120) (hh2 : M 28 5 ≤ 122) : av_Mt E (d + 3) mX4_cornersMissing [vR 4, vR 28] M (av_X (some (vI (cntP (fun i : Nat => ¬ (HdM (M 5) (M 6) (M 7) (M 8) (M 4 4) (M 4 5) (cn (M 29) (M 30) (M 31) (M 32) i))) (M 28 5).toNat))) M) := by
  obtain ⟨hE2, hh20, hz2, hR2, hH2⟩ := hO2
  have hB2 := hE2.2.1
  have loop : ∀ (t : Nat) (i : Int), i + t = (M 28 5) → 0 ≤ i → av_S E (d + 3) mX4_cornersMissing 4 [(0, vR 4), (1, vR 28), (2, vI (cntP (fun i : Nat => ¬ (HdM (M 5) (M 6) (M 7) (M 8) (M 4 4) (M 4 5) (cn (M 29) (M 30) (M 31) (M 32) i))) i.toNat)), (3, vI i)] [] M (av_X (some (vI (cntP (fun i : Nat => ¬ (HdM (M 5) (M 6) (M 7) (M 8) (M 4 4) (M 4 5) (cn (M 29) (M 30) (M 31) (M 32) i))) (M 28 5).toNat))) M) := by
    intro t
    induction t with
    | zero =>
      intro i hi i0
      have e : i = (M 28 5) := by omega
      subst e
      refine ax_iloadn rfl rfl ?_
      refine ax_aloadn rfl rfl ?_
      refine ax_getI (g := 5) rfl fX4_36 rfl rfl rfl rfl ?_
      refine ax_icmp_ge rfl (by omega) (by omega) (fun h9 => ?_) (fun h9 => ?_)
      · refine ax_iloadn rfl rfl ?_
        refine ax_iret rfl rfl ?_
        exact av_rI rfl
      · omega
    | succ t ih =>
      intro i hi i0
      have q := hR2 i i0 (by omega)
      have hb := hB2 _ q.1 q.2
      have rc := cntP_rng (fun i : Nat => ¬ (HdM (M 5) (M 6) (M 7) (M 8) (M 4 4) (M 4 5) (cn (M 29) (M 30) (M 31) (M 32) i))) i.toNat
      have es : (i + 1).toNat = i.toNat + 1 := by omega
      have ec : cn (M 29) (M 30) (M 31) (M 32) i.toNat = P2 (M 29 (M 32 i)) (M 30 (M 32 i)) (M 31 (M 32 i)) := cn_at i0
      have eh : b01 ((fun i : Nat => ¬ (HdM (M 5) (M 6) (M 7) (M 8) (M 4 4) (M 4 5) (cn (M 29) (M 30) (M 31) (M 32) i))) i.toNat) = b01 (¬ (HdM (M 5) (M 6) (M 7) (M 8) (M 4 4) (M 4 5) (P2 (M 29 (M 32 i)) (M 30 (M 32 i)) (M 31 (M 32 i))))) := by
        show b01 (¬ (HdM (M 5) (M 6) (M 7) (M 8) (M 4 4) (M 4 5) (cn (M 29) (M 30) (M 31) (M 32) i.toNat))) = _
        rw [ec]
      have br := b01_rng (HdM (M 5) (M 6) (M 7) (M 8) (M 4 4) (M 4 5) (P2 (M 29 (M 32 i)) (M 30 (M 32 i)) (M 31 (M 32 i))))
      refine ax_iloadn rfl rfl ?_
      refine ax_aloadn rfl rfl ?_
      refine ax_getI (g := 5) rfl fX4_36 rfl rfl rfl rfl ?_
      refine ax_icmp_ge rfl (by omega) (by omega) (fun h9 => ?_) (fun h9 => ?_)
      · omega
      · refine ax_aloadn rfl rfl ?_
        refine ax_aloadn rfl rfl ?_
        refine ax_iloadn rfl rfl ?_
        refine ax_callV (as := [_]) rfl vX4_51 hX4_xOf rfl rfl rfl rfl rfl (c_O_xOf E (d + 2) M i (by omega) (by omega)) (av_Xk ?_)
        refine ax_aloadn rfl rfl ?_
        refine ax_iloadn rfl rfl ?_
        refine ax_callV (as := [_]) rfl vX4_54 hX4_yOf rfl rfl rfl rfl rfl (c_O_yOf E (d + 2) M i (by omega) (by omega)) (av_Xk ?_)
        refine ax_aloadn rfl rfl ?_
        refine ax_iloadn rfl rfl ?_
        refine ax_callV (as := [_]) rfl vX4_57 hX4_wOf rfl rfl rfl rfl rfl (c_O_wOf E (d + 2) M i (by omega) (by omega)) (av_Xk ?_)
        refine ax_callV (as := [_, _, _]) rfl vX4_60 hX4_holds rfl rfl rfl rfl rfl (c_H_holds E d M S _ _ _ hb hO hn hh) (av_Xk ?_)
        refine ax_if_ne rfl (by omega) (fun h31 => ?_) (fun h31 => ?_)
        · refine ax_iinc (ls' := [(0, _), (1, _), (2, _), (3, _)]) rfl rfl rfl rfl ?_
          refine ax_goto rfl ?_
          have := ih (i + 1) (by omega) (by omega)
          rw [es] at this
          have e2 : cntP (fun i : Nat => ¬ (HdM (M 5) (M 6) (M 7) (M 8) (M 4 4) (M 4 5) (cn (M 29) (M 30) (M 31) (M 32) i))) (i.toNat + 1) = cntP (fun i : Nat => ¬ (HdM (M 5) (M 6) (M 7) (M 8) (M 4 4) (M 4 5) (cn (M 29) (M 30) (M 31) (M 32) i))) i.toNat + b01 ((fun i : Nat => ¬ (HdM (M 5) (M 6) (M 7) (M 8) (M 4 4) (M 4 5) (cn (M 29) (M 30) (M 31) (M 32) i))) i.toNat) := rfl
          rw [e2, eh] at this
          first
            | (rw [b01_f (fun hn => hn (b01_ne h31)), Int.add_zero] at this; exact this)
            | (rw [b01_t (b01_eq (by omega))] at this; exact this)
        · refine ax_iinc (ls' := [(0, _), (1, _), (2, _), (3, _)]) rfl rfl rfl rfl ?_
          refine ax_iinc (ls' := [(0, _), (1, _), (2, _), (3, _)]) rfl rfl rfl rfl ?_
          refine ax_goto rfl ?_
          have := ih (i + 1) (by omega) (by omega)
          rw [es] at this
          have e2 : cntP (fun i : Nat => ¬ (HdM (M 5) (M 6) (M 7) (M 8) (M 4 4) (M 4 5) (cn (M 29) (M 30) (M 31) (M 32) i))) (i.toNat + 1) = cntP (fun i : Nat => ¬ (HdM (M 5) (M 6) (M 7) (M 8) (M 4 4) (M 4 5) (cn (M 29) (M 30) (M 31) (M 32) i))) i.toNat + b01 ((fun i : Nat => ¬ (HdM (M 5) (M 6) (M 7) (M 8) (M 4 4) (M 4 5) (cn (M 29) (M 30) (M 31) (M 32) i))) i.toNat) := rfl
          rw [e2, eh] at this
          first
            | (rw [b01_f (fun hn => hn (b01_ne h31)), Int.add_zero] at this; exact this)
            | (rw [b01_t (b01_eq (by omega))] at this; exact this)
  refine av_enter hX4_cornersMissing oX4_cornersMissing rfl rfl ?_
  refine ax_iconst rfl ?_
  refine ax_istoren (ls' := [(0, _), (1, _), (2, _)]) rfl rfl rfl ?_
  refine ax_iconst rfl ?_
  refine ax_istoren (ls' := [(0, _), (1, _), (2, _), (3, _)]) rfl rfl rfl ?_
  exact loop (M 28 5).toNat 0 (by omega) (by omega)
set_option maxRecDepth 100000 in
set_option maxHeartbeats 400000 in
theorem c_H_cornerAt (E : av_E) (d : Nat) (M : av_M) (S : pt → Prop) (px py pw : Int) (hp : BP px py pw) (hO : OO (M 5) (M 6) (M 7) (M 8) (M 4 4) (M 4 5)  S) (hn : M 4 4 ≤ 12) (hh : M 4 5 ≤ 14) : av_Mt E (d + 2) mX4_cornerAt [vR 4, vI px, vI py, vI pw] M (fun r M' => M' = M ∧ ∃ z : Int, r = some (vI z) ∧ ((0 ≤ z ∧ z < (M 4 5) ∧ (cn (M 5) (M 6) (M 7) (M 8)) z.toNat = P2 px py pw) ∨ (z = -1 ∧ ∀ j : Nat, (j : Int) < (M 4 5) → (cn (M 5) (M 6) (M 7) (M 8)) j ≠ P2 px py pw))) := by
  obtain ⟨hE, hh0, hz, hR, hH⟩ := hO
  have hn0 := hE.1
  have hB := hE.2.1
  have hp0 := hp.2.2.1
  have loop : ∀ (t : Nat) (i : Int), i + t = (M 4 5) → 0 ≤ i → (∀ j : Nat, (j : Int) < i → (cn (M 5) (M 6) (M 7) (M 8)) j ≠ P2 px py pw) → av_S E (d + 2) mX4_cornerAt 3 [(0, vR 4), (1, vI px), (2, vI py), (3, vI pw), (4, vI i)] [] M (fun r M' => M' = M ∧ ∃ z : Int, r = some (vI z) ∧ ((0 ≤ z ∧ z < (M 4 5) ∧ (cn (M 5) (M 6) (M 7) (M 8)) z.toNat = P2 px py pw) ∨ (z = -1 ∧ ∀ j : Nat, (j : Int) < (M 4 5) → (cn (M 5) (M 6) (M 7) (M 8)) j ≠ P2 px py pw))) := by
    intro t
    induction t with
    | zero =>
      intro i hi i0 hall
      refine ax_iload rfl rfl ?_
      refine ax_aloadn rfl rfl ?_
      refine ax_getI (g := 5) rfl fX4_36 rfl rfl rfl rfl ?_
      refine ax_icmp_ge rfl (by omega) (by omega) (fun h9 => ?_) (fun h9 => ?_)
      · refine ax_iconst rfl ?_
        refine ax_iret rfl rfl ?_
        exact ⟨rfl, _, rfl, Or.inr ⟨rfl, fun j hj => hall j (by omega)⟩⟩
      · omega
    | succ t ih =>
      intro i hi i0 hall
      have q := hR i i0 (by omega)
      have hb := hB _ q.1 q.2
      have hw := hb.2.2.1
      have ec : (cn (M 5) (M 6) (M 7) (M 8)) i.toNat = P2 (M 5 (M 8 i)) (M 6 (M 8 i)) (M 7 (M 8 i)) := cn_at i0
      have sr := sd_rng (M 5 (M 8 i)) (M 6 (M 8 i)) (M 7 (M 8 i)) px py pw
      refine ax_iload rfl rfl ?_
      refine ax_aloadn rfl rfl ?_
      refine ax_getI (g := 5) rfl fX4_36 rfl rfl rfl rfl ?_
      refine ax_icmp_ge rfl (by omega) (by omega) (fun h9 => ?_) (fun h9 => ?_)
      · omega
      · refine ax_aloadn rfl rfl ?_
        refine ax_aloadn rfl rfl ?_
        refine ax_getR rfl fX4_19 rfl rfl ?_
        refine ax_iload rfl rfl ?_
        refine ax_iald rfl rfl (by omega) ?_
        refine ax_iloadn rfl rfl ?_
        refine ax_iloadn rfl rfl ?_
        refine ax_iloadn rfl rfl ?_
        refine ax_callV (as := [_, _, _, _]) rfl vX4_26 hX4_side rfl rfl rfl rfl rfl (c_H_side E d M _ px py pw (by omega) hb hp) (av_Xk ?_)
        refine ax_if_ne rfl (by omega) (fun h26 => ?_) (fun h26 => ?_)
        · refine ax_iinc (ls' := [(0, _), (1, _), (2, _), (3, _), (4, _)]) rfl rfl rfl rfl ?_
          refine ax_goto rfl ?_
          refine ih _ (by omega) (by omega) (fun j hj => ?_)
          by_cases hji : (j : Int) = i
          · have ej : i.toNat = j := by omega
            rw [← ej, ec]
            intro e
            rw [← sd_zero hw hp0] at e
            omega
          · exact hall j (by omega)
        · refine ax_iload rfl rfl ?_
          refine ax_iret rfl rfl ?_
          first
            | exact ⟨rfl, i, rfl, Or.inl ⟨i0, by omega, by rw [ec]; exact (sd_zero hw hp0).mp (by omega)⟩⟩
            | omega
  refine av_enter hX4_cornerAt oX4_cornerAt rfl rfl ?_
  refine ax_iconst rfl ?_
  refine ax_istore (ls' := [(0, _), (1, _), (2, _), (3, _), (4, _)]) rfl rfl rfl ?_
  exact loop (M 4 5).toNat 0 (by omega) (by omega) (fun j hj => by omega)
set_option maxRecDepth 100000 in
set_option maxHeartbeats 400000 in
theorem c_O_holds (E : av_E) (d : Nat) (M : av_M) (S : pt → Prop) (px py pw : Int) (hp : BP px py pw) (hO : OO (M 29) (M 30) (M 31) (M 32) (M 28 4) (M 28 5)  S) (hn : M 28 4 ≤ 120) (hh : M 28 5 ≤ 122) : av_Mt E (d + 2) mX4_holds [vR 28, vI px, vI py, vI pw] M (av_X (some (vI (b01 (HdM (M 29) (M 30) (M 31) (M 32) (M 28 4) (M 28 5) (P2 px py pw))))) M) := by
  obtain ⟨hE, hh0, hz, hR, hH⟩ := hO
  have hn0 := hE.1
  have hB := hE.2.1
  have hp0 := hp.2.2.1
  have loop : 0 < (M 28 4) → ¬ lx (P2 px py pw) (P2 (M 29 0) (M 30 0) (M 31 0)) → ¬ lx (P2 (M 29 ((M 28 4) - 1)) (M 30 ((M 28 4) - 1)) (M 31 ((M 28 4) - 1))) (P2 px py pw) → ∀ (t : Nat) (i : Int), i + t = (M 28 5) → 0 ≤ i → (∀ j : Nat, (j : Int) < i → 0 ≤ cr ((cn (M 29) (M 30) (M 31) (M 32)) j) ((cn (M 29) (M 30) (M 31) (M 32)) (nxt (M 28 5).toNat j)) (P2 px py pw)) → av_S E (d + 2) mX4_holds 39 [(0, vR 28), (1, vI px), (2, vI py), (3, vI pw), (4, vI i)] [] M (av_X (some (vI (b01 (HdM (M 29) (M 30) (M 31) (M 32) (M 28 4) (M 28 5) (P2 px py pw))))) M) := by
    intro k0 k1 k2 t
    induction t with
    | zero =>
      intro i hi i0 hall
      refine ax_iload rfl rfl ?_
      refine ax_aloadn rfl rfl ?_
      refine ax_getI (g := 5) rfl fX4_36 rfl rfl rfl rfl ?_
      refine ax_icmp_ge rfl (by omega) (by omega) (fun h45 => ?_) (fun h45 => ?_)
      · refine ax_iconst rfl ?_
        refine ax_zret rfl rfl (by omega) ?_
        exact av_rI (b01_t ⟨k0, k1, k2, fun j hj => hall j (by omega)⟩).symm
      · omega
    | succ t ih =>
      intro i hi i0 hall
      refine ax_iload rfl rfl ?_
      refine ax_aloadn rfl rfl ?_
      refine ax_getI (g := 5) rfl fX4_36 rfl rfl rfl rfl ?_
      refine ax_icmp_ge rfl (by omega) (by omega) (fun h45 => ?_) (fun h45 => ?_)
      · omega
      · refine ax_aloadn rfl rfl ?_
        refine ax_aloadn rfl rfl ?_
        refine ax_getR rfl fX4_19 rfl rfl ?_
        refine ax_iload rfl rfl ?_
        refine ax_iald rfl rfl (by omega) ?_
        refine ax_aloadn rfl rfl ?_
        refine ax_getR rfl fX4_19 rfl rfl ?_
        refine ax_aloadn rfl rfl ?_
        refine ax_iload rfl rfl ?_
        refine ax_callV (as := [_]) rfl vX4_47 hX4_next rfl rfl rfl rfl rfl (c_O_next E (d + 1) M i (by omega) (by omega)) (av_Xk ?_)
        refine ax_iald rfl rfl (by have := hR (if i + 1 < (M 28 5) then i + 1 else 0) (by split <;> omega) (by split <;> omega); split <;> omega) ?_
        refine ax_iloadn rfl rfl ?_
        refine ax_iloadn rfl rfl ?_
        refine ax_iloadn rfl rfl ?_
        refine ax_callV (as := [_, _, _, _, _]) rfl vX4_43 hX4_turn rfl rfl rfl rfl rfl (c_O_turn E (d + 1) M _ _ _ _ _ (by have := hR i (by omega) (by omega); omega) (by have := hR (if i + 1 < (M 28 5) then i + 1 else 0) (by split <;> omega) (by split <;> omega); omega) (hB _ (hR i (by omega) (by omega)).1 (hR i (by omega) (by omega)).2) (hB _ (hR (if i + 1 < (M 28 5) then i + 1 else 0) (by split <;> omega) (by split <;> omega)).1 (hR (if i + 1 < (M 28 5) then i + 1 else 0) (by split <;> omega) (by split <;> omega)).2) (Or.inl hp)) (av_Xk ?_)
        refine ax_lconst (w := 0) rfl rfl ?_
        refine ax_lif_ge rfl rfl (by
  have q0 := hR i (by omega) (by omega)
  have q1 := hR (if i + 1 < (M 28 5) then i + 1 else 0) (by split <;> omega) (by split <;> omega)
  exact D3_rng (hB _ q0.1 q0.2) (hB _ q1.1 q1.2) (hp)) (by omega) (fun h74 => ?_) (fun h74 => ?_)
        · refine ax_iinc (ls' := [(0, _), (1, _), (2, _), (3, _), (4, _)]) rfl rfl rfl rfl ?_
          refine ax_goto rfl ?_
          refine ih _ (by omega) (by omega) (fun j hj => ?_)
          by_cases hji : (j : Int) = i
          · have q0 := hR i (by omega) (by omega)
            have q1 := hR (if i + 1 < (M 28 5) then i + 1 else 0) (by split <;> omega) (by split <;> omega)
            have w0 := (hB _ q0.1 q0.2).2.2.1
            have w1 := (hB _ q1.1 q1.2).2.2.1
            have e1 := cn_nxt (X := M 29) (Y := M 30) (W := M 31) (R := M 32) (h := (M 28 5)) i0 (by omega)
            have e2 := cn_at (X := M 29) (Y := M 30) (W := M 31) (R := M 32) i0
            rw [show i.toNat = j by omega] at e1 e2
            rw [e1, e2]
            exact (P2_nn w0 w1 hp0).mp (by omega)
          · exact hall j (by omega)
        · refine ax_iconst rfl ?_
          refine ax_zret rfl rfl (by omega) ?_
          refine av_rI (b01_f ?_).symm
          rintro ⟨-, -, -, hin⟩
          have q0 := hR i (by omega) (by omega)
          have q1 := hR (if i + 1 < (M 28 5) then i + 1 else 0) (by split <;> omega) (by split <;> omega)
          have w0 := (hB _ q0.1 q0.2).2.2.1
          have w1 := (hB _ q1.1 q1.2).2.2.1
          have := hin i.toNat (by omega)
          rw [cn_nxt i0 (by omega), cn_at i0] at this
          have := (P2_nn w0 w1 hp0).mpr this
          omega
  refine av_enter hX4_holds oX4_holds rfl rfl ?_
  refine ax_aloadn rfl rfl ?_
  refine ax_getI (g := 4) rfl fX4_22 rfl rfl rfl rfl ?_
  refine ax_if_eq rfl (by omega) (fun h4 => ?_) (fun h4 => ?_)
  · refine ax_iconst rfl ?_
    refine ax_zret rfl rfl (by omega) ?_
    refine av_rI (b01_f ?_).symm
    rintro ⟨k0, k1, k2, -⟩
    first
      | omega
      | (rw [← sd_pos (hB 0 (by omega) (by omega)).2.2.1 hp0] at k1; omega)
      | (rw [← sd_neg (hB ((M 28 4) - 1) (by omega) (by omega)).2.2.1 hp0] at k2; omega)
  · refine ax_aloadn rfl rfl ?_
    refine ax_iconst rfl ?_
    refine ax_iloadn rfl rfl ?_
    refine ax_iloadn rfl rfl ?_
    refine ax_iloadn rfl rfl ?_
    refine ax_callV (as := [_, _, _, _]) rfl vX4_26 hX4_side rfl rfl rfl rfl rfl (c_O_side E d M _ px py pw (by omega) (hB _ (by omega) (by omega)) hp) (av_Xk ?_)
    refine ax_if_gt rfl (by have := sd_rng (M 29 (0)) (M 30 (0)) (M 31 (0)) px py pw; omega) (fun h15 => ?_) (fun h15 => ?_)
    · refine ax_iconst rfl ?_
      refine ax_zret rfl rfl (by omega) ?_
      refine av_rI (b01_f ?_).symm
      rintro ⟨k0, k1, k2, -⟩
      first
        | omega
        | (rw [← sd_pos (hB 0 (by omega) (by omega)).2.2.1 hp0] at k1; omega)
        | (rw [← sd_neg (hB ((M 28 4) - 1) (by omega) (by omega)).2.2.1 hp0] at k2; omega)
    · refine ax_aloadn rfl rfl ?_
      refine ax_aloadn rfl rfl ?_
      refine ax_getI (g := 4) rfl fX4_22 rfl rfl rfl rfl ?_
      refine ax_iconst rfl ?_
      refine ax_isub rfl ?_
      refine ax_iloadn rfl rfl ?_
      refine ax_iloadn rfl rfl ?_
      refine ax_iloadn rfl rfl ?_
      refine ax_callV (as := [_, _, _, _]) rfl vX4_26 hX4_side rfl rfl rfl rfl rfl (c_O_side E d M _ px py pw (by omega) (hB _ (by omega) (by omega)) hp) (av_Xk ?_)
      refine ax_if_ge rfl (by have := sd_rng (M 29 ((M 28 4) - 1)) (M 30 ((M 28 4) - 1)) (M 31 ((M 28 4) - 1)) px py pw; omega) (fun h31 => ?_) (fun h31 => ?_)
      · refine ax_iconst rfl ?_
        refine ax_istore (ls' := [(0, _), (1, _), (2, _), (3, _), (4, _)]) rfl rfl rfl ?_
        refine loop (by omega) ?_ ?_ (M 28 5).toNat 0 (by omega) (by omega) (fun j hj => by omega)
        · rw [← sd_pos (hB 0 (by omega) (by omega)).2.2.1 hp0]; omega
        · rw [← sd_neg (hB ((M 28 4) - 1) (by omega) (by omega)).2.2.1 hp0]; omega
      · refine ax_iconst rfl ?_
        refine ax_zret rfl rfl (by omega) ?_
        refine av_rI (b01_f ?_).symm
        rintro ⟨k0, k1, k2, -⟩
        first
          | omega
          | (rw [← sd_pos (hB 0 (by omega) (by omega)).2.2.1 hp0] at k1; omega)
          | (rw [← sd_neg (hB ((M 28 4) - 1) (by omega) (by omega)).2.2.1 hp0] at k2; omega)
set_option maxRecDepth 100000 in
set_option maxHeartbeats 400000 in
theorem c_O_missing (E : av_E) (d : Nat) (M : av_M) (S S2 : pt → Prop) (hO : OO (M 29) (M 30) (M 31) (M 32) (M 28 4) (M 28 5)  S) (hn : M 28 4 ≤ 120) (hh : M 28 5 ≤ 122) (hO2 : OO (M 5) (M 6) (M 7) (M 8) (M 4 4) (M 4 5)  S2) (hn2 : M 4 4 ≤ 12) (hh2 : M 4 5 ≤ 14) : av_Mt E (d + 3) mX4_cornersMissing [vR 28, vR 4] M (av_X (some (vI (cntP (fun i : Nat => ¬ (HdM (M 29) (M 30) (M 31) (M 32) (M 28 4) (M 28 5) (cn (M 5) (M 6) (M 7) (M 8) i))) (M 4 5).toNat))) M) := by
  obtain ⟨hE2, hh20, hz2, hR2, hH2⟩ := hO2
  have hB2 := hE2.2.1
  have loop : ∀ (t : Nat) (i : Int), i + t = (M 4 5) → 0 ≤ i → av_S E (d + 3) mX4_cornersMissing 4 [(0, vR 28), (1, vR 4), (2, vI (cntP (fun i : Nat => ¬ (HdM (M 29) (M 30) (M 31) (M 32) (M 28 4) (M 28 5) (cn (M 5) (M 6) (M 7) (M 8) i))) i.toNat)), (3, vI i)] [] M (av_X (some (vI (cntP (fun i : Nat => ¬ (HdM (M 29) (M 30) (M 31) (M 32) (M 28 4) (M 28 5) (cn (M 5) (M 6) (M 7) (M 8) i))) (M 4 5).toNat))) M) := by
    intro t
    induction t with
    | zero =>
      intro i hi i0
      have e : i = (M 4 5) := by omega
      subst e
      refine ax_iloadn rfl rfl ?_
      refine ax_aloadn rfl rfl ?_
      refine ax_getI (g := 5) rfl fX4_36 rfl rfl rfl rfl ?_
      refine ax_icmp_ge rfl (by omega) (by omega) (fun h9 => ?_) (fun h9 => ?_)
      · refine ax_iloadn rfl rfl ?_
        refine ax_iret rfl rfl ?_
        exact av_rI rfl
      · omega
    | succ t ih =>
      intro i hi i0
      have q := hR2 i i0 (by omega)
      have hb := hB2 _ q.1 q.2
      have rc := cntP_rng (fun i : Nat => ¬ (HdM (M 29) (M 30) (M 31) (M 32) (M 28 4) (M 28 5) (cn (M 5) (M 6) (M 7) (M 8) i))) i.toNat
      have es : (i + 1).toNat = i.toNat + 1 := by omega
      have ec : cn (M 5) (M 6) (M 7) (M 8) i.toNat = P2 (M 5 (M 8 i)) (M 6 (M 8 i)) (M 7 (M 8 i)) := cn_at i0
      have eh : b01 ((fun i : Nat => ¬ (HdM (M 29) (M 30) (M 31) (M 32) (M 28 4) (M 28 5) (cn (M 5) (M 6) (M 7) (M 8) i))) i.toNat) = b01 (¬ (HdM (M 29) (M 30) (M 31) (M 32) (M 28 4) (M 28 5) (P2 (M 5 (M 8 i)) (M 6 (M 8 i)) (M 7 (M 8 i))))) := by
        show b01 (¬ (HdM (M 29) (M 30) (M 31) (M 32) (M 28 4) (M 28 5) (cn (M 5) (M 6) (M 7) (M 8) i.toNat))) = _
        rw [ec]
      have br := b01_rng (HdM (M 29) (M 30) (M 31) (M 32) (M 28 4) (M 28 5) (P2 (M 5 (M 8 i)) (M 6 (M 8 i)) (M 7 (M 8 i))))
      refine ax_iloadn rfl rfl ?_
      refine ax_aloadn rfl rfl ?_
      refine ax_getI (g := 5) rfl fX4_36 rfl rfl rfl rfl ?_
      refine ax_icmp_ge rfl (by omega) (by omega) (fun h9 => ?_) (fun h9 => ?_)
      · omega
      · refine ax_aloadn rfl rfl ?_
        refine ax_aloadn rfl rfl ?_
        refine ax_iloadn rfl rfl ?_
        refine ax_callV (as := [_]) rfl vX4_51 hX4_xOf rfl rfl rfl rfl rfl (c_H_xOf E (d + 2) M i (by omega) (by omega)) (av_Xk ?_)
        refine ax_aloadn rfl rfl ?_
        refine ax_iloadn rfl rfl ?_
        refine ax_callV (as := [_]) rfl vX4_54 hX4_yOf rfl rfl rfl rfl rfl (c_H_yOf E (d + 2) M i (by omega) (by omega)) (av_Xk ?_)
        refine ax_aloadn rfl rfl ?_
        refine ax_iloadn rfl rfl ?_
        refine ax_callV (as := [_]) rfl vX4_57 hX4_wOf rfl rfl rfl rfl rfl (c_H_wOf E (d + 2) M i (by omega) (by omega)) (av_Xk ?_)
        refine ax_callV (as := [_, _, _]) rfl vX4_60 hX4_holds rfl rfl rfl rfl rfl (c_O_holds E d M S _ _ _ hb hO hn hh) (av_Xk ?_)
        refine ax_if_ne rfl (by omega) (fun h31 => ?_) (fun h31 => ?_)
        · refine ax_iinc (ls' := [(0, _), (1, _), (2, _), (3, _)]) rfl rfl rfl rfl ?_
          refine ax_goto rfl ?_
          have := ih (i + 1) (by omega) (by omega)
          rw [es] at this
          have e2 : cntP (fun i : Nat => ¬ (HdM (M 29) (M 30) (M 31) (M 32) (M 28 4) (M 28 5) (cn (M 5) (M 6) (M 7) (M 8) i))) (i.toNat + 1) = cntP (fun i : Nat => ¬ (HdM (M 29) (M 30) (M 31) (M 32) (M 28 4) (M 28 5) (cn (M 5) (M 6) (M 7) (M 8) i))) i.toNat + b01 ((fun i : Nat => ¬ (HdM (M 29) (M 30) (M 31) (M 32) (M 28 4) (M 28 5) (cn (M 5) (M 6) (M 7) (M 8) i))) i.toNat) := rfl
          rw [e2, eh] at this
          first
            | (rw [b01_f (fun hn => hn (b01_ne h31)), Int.add_zero] at this; exact this)
            | (rw [b01_t (b01_eq (by omega))] at this; exact this)
        · refine ax_iinc (ls' := [(0, _), (1, _), (2, _), (3, _)]) rfl rfl rfl rfl ?_
          refine ax_iinc (ls' := [(0, _), (1, _), (2, _), (3, _)]) rfl rfl rfl rfl ?_
          refine ax_goto rfl ?_
          have := ih (i + 1) (by omega) (by omega)
          rw [es] at this
          have e2 : cntP (fun i : Nat => ¬ (HdM (M 29) (M 30) (M 31) (M 32) (M 28 4) (M 28 5) (cn (M 5) (M 6) (M 7) (M 8) i))) (i.toNat + 1) = cntP (fun i : Nat => ¬ (HdM (M 29) (M 30) (M 31) (M 32) (M 28 4) (M 28 5) (cn (M 5) (M 6) (M 7) (M 8) i))) i.toNat + b01 ((fun i : Nat => ¬ (HdM (M 29) (M 30) (M 31) (M 32) (M 28 4) (M 28 5) (cn (M 5) (M 6) (M 7) (M 8) i))) i.toNat) := rfl
          rw [e2, eh] at this
          first
            | (rw [b01_f (fun hn => hn (b01_ne h31)), Int.add_zero] at this; exact this)
            | (rw [b01_t (b01_eq (by omega))] at this; exact this)
  refine av_enter hX4_cornersMissing oX4_cornersMissing rfl rfl ?_
  refine ax_iconst rfl ?_
  refine ax_istoren (ls' := [(0, _), (1, _), (2, _)]) rfl rfl rfl ?_
  refine ax_iconst rfl ?_
  refine ax_istoren (ls' := [(0, _), (1, _), (2, _), (3, _)]) rfl rfl rfl ?_
  exact loop (M 4 5).toNat 0 (by omega) (by omega)
set_option maxRecDepth 100000 in
set_option maxHeartbeats 400000 in
theorem c_O_cornerAt (E : av_E) (d : Nat) (M : av_M) (S : pt → Prop) (px py pw : Int) (hp : BP px py pw) (hO : OO (M 29) (M 30) (M 31) (M 32) (M 28 4) (M 28 5)  S) (hn : M 28 4 ≤ 120) (hh : M 28 5 ≤ 122) : av_Mt E (d + 2) mX4_cornerAt [vR 28, vI px, vI py, vI pw] M (fun r M' => M' = M ∧ ∃ z : Int, r = some (vI z) ∧ ((0 ≤ z ∧ z < (M 28 5) ∧ (cn (M 29) (M 30) (M 31) (M 32)) z.toNat = P2 px py pw) ∨ (z = -1 ∧ ∀ j : Nat, (j : Int) < (M 28 5) → (cn (M 29) (M 30) (M 31) (M 32)) j ≠ P2 px py pw))) := by
  obtain ⟨hE, hh0, hz, hR, hH⟩ := hO
  have hn0 := hE.1
  have hB := hE.2.1
  have hp0 := hp.2.2.1
  have loop : ∀ (t : Nat) (i : Int), i + t = (M 28 5) → 0 ≤ i → (∀ j : Nat, (j : Int) < i → (cn (M 29) (M 30) (M 31) (M 32)) j ≠ P2 px py pw) → av_S E (d + 2) mX4_cornerAt 3 [(0, vR 28), (1, vI px), (2, vI py), (3, vI pw), (4, vI i)] [] M (fun r M' => M' = M ∧ ∃ z : Int, r = some (vI z) ∧ ((0 ≤ z ∧ z < (M 28 5) ∧ (cn (M 29) (M 30) (M 31) (M 32)) z.toNat = P2 px py pw) ∨ (z = -1 ∧ ∀ j : Nat, (j : Int) < (M 28 5) → (cn (M 29) (M 30) (M 31) (M 32)) j ≠ P2 px py pw))) := by
    intro t
    induction t with
    | zero =>
      intro i hi i0 hall
      refine ax_iload rfl rfl ?_
      refine ax_aloadn rfl rfl ?_
      refine ax_getI (g := 5) rfl fX4_36 rfl rfl rfl rfl ?_
      refine ax_icmp_ge rfl (by omega) (by omega) (fun h9 => ?_) (fun h9 => ?_)
      · refine ax_iconst rfl ?_
        refine ax_iret rfl rfl ?_
        exact ⟨rfl, _, rfl, Or.inr ⟨rfl, fun j hj => hall j (by omega)⟩⟩
      · omega
    | succ t ih =>
      intro i hi i0 hall
      have q := hR i i0 (by omega)
      have hb := hB _ q.1 q.2
      have hw := hb.2.2.1
      have ec : (cn (M 29) (M 30) (M 31) (M 32)) i.toNat = P2 (M 29 (M 32 i)) (M 30 (M 32 i)) (M 31 (M 32 i)) := cn_at i0
      have sr := sd_rng (M 29 (M 32 i)) (M 30 (M 32 i)) (M 31 (M 32 i)) px py pw
      refine ax_iload rfl rfl ?_
      refine ax_aloadn rfl rfl ?_
      refine ax_getI (g := 5) rfl fX4_36 rfl rfl rfl rfl ?_
      refine ax_icmp_ge rfl (by omega) (by omega) (fun h9 => ?_) (fun h9 => ?_)
      · omega
      · refine ax_aloadn rfl rfl ?_
        refine ax_aloadn rfl rfl ?_
        refine ax_getR rfl fX4_19 rfl rfl ?_
        refine ax_iload rfl rfl ?_
        refine ax_iald rfl rfl (by omega) ?_
        refine ax_iloadn rfl rfl ?_
        refine ax_iloadn rfl rfl ?_
        refine ax_iloadn rfl rfl ?_
        refine ax_callV (as := [_, _, _, _]) rfl vX4_26 hX4_side rfl rfl rfl rfl rfl (c_O_side E d M _ px py pw (by omega) hb hp) (av_Xk ?_)
        refine ax_if_ne rfl (by omega) (fun h26 => ?_) (fun h26 => ?_)
        · refine ax_iinc (ls' := [(0, _), (1, _), (2, _), (3, _), (4, _)]) rfl rfl rfl rfl ?_
          refine ax_goto rfl ?_
          refine ih _ (by omega) (by omega) (fun j hj => ?_)
          by_cases hji : (j : Int) = i
          · have ej : i.toNat = j := by omega
            rw [← ej, ec]
            intro e
            rw [← sd_zero hw hp0] at e
            omega
          · exact hall j (by omega)
        · refine ax_iload rfl rfl ?_
          refine ax_iret rfl rfl ?_
          first
            | exact ⟨rfl, i, rfl, Or.inl ⟨i0, by omega, by rw [ec]; exact (sd_zero hw hp0).mp (by omega)⟩⟩
            | omega
  refine av_enter hX4_cornerAt oX4_cornerAt rfl rfl ?_
  refine ax_iconst rfl ?_
  refine ax_istore (ls' := [(0, _), (1, _), (2, _), (3, _), (4, _)]) rfl rfl rfl ?_
  exact loop (M 28 5).toNat 0 (by omega) (by omega) (fun j hj => by omega)
set_option maxRecDepth 100000 in
set_option maxHeartbeats 400000 in
theorem c_O_round0 (E : av_E) (d : Nat) (M : av_M) (S : pt → Prop) (hO : OO (M 29) (M 30) (M 31) (M 32) (M 28 4) (M 28 5)  S) (hn : M 28 4 ≤ 120) (hh : M 28 5 ≤ 122) : av_Mt E (d + 2) mX4_isRoundOrigin [vR 28] M (av_X (some (vI (b01 (0 < (M 28 5) ∧ ∀ i : Nat, (i : Int) < (M 28 5) → 0 < cr ((cn (M 29) (M 30) (M 31) (M 32)) i) ((cn (M 29) (M 30) (M 31) (M 32)) (nxt (M 28 5).toNat i)) ((0 : Rat), (0 : Rat)))))) M) := by
  obtain ⟨hE, hh0, hz, hR, hH⟩ := hO
  have hn0 := hE.1
  have hB := hE.2.1
  have loop : ∀ (t : Nat) (i : Int), i + t = (M 28 5) → 0 ≤ i → (∀ j : Nat, (j : Int) < i → 0 < cr ((cn (M 29) (M 30) (M 31) (M 32)) j) ((cn (M 29) (M 30) (M 31) (M 32)) (nxt (M 28 5).toNat j)) ((0 : Rat), (0 : Rat))) → av_S E (d + 2) mX4_isRoundOrigin 2 [(0, vR 28), (1, vI i)] [] M (av_X (some (vI (b01 (0 < (M 28 5) ∧ ∀ i : Nat, (i : Int) < (M 28 5) → 0 < cr ((cn (M 29) (M 30) (M 31) (M 32)) i) ((cn (M 29) (M 30) (M 31) (M 32)) (nxt (M 28 5).toNat i)) ((0 : Rat), (0 : Rat)))))) M) := by
    intro t
    induction t with
    | zero =>
      intro i hi i0 hall
      refine ax_iloadn rfl rfl ?_
      refine ax_aloadn rfl rfl ?_
      refine ax_getI (g := 5) rfl fX4_36 rfl rfl rfl rfl ?_
      refine ax_icmp_ge rfl (by omega) (by omega) (fun h7 => ?_) (fun h7 => ?_)
      · refine ax_aloadn rfl rfl ?_
        refine ax_getI (g := 5) rfl fX4_36 rfl rfl rfl rfl ?_
        refine ax_if_le rfl (by omega) (fun h50 => ?_) (fun h50 => ?_)
        · refine ax_iconst rfl ?_
          refine ax_zret rfl rfl (by omega) ?_
          first
            | exact av_rI (b01_t ⟨by omega, fun j hj => hall j (by omega)⟩).symm
            | (refine av_rI (b01_f ?_).symm; rintro ⟨k, -⟩; omega)
        · refine ax_iconst rfl ?_
          refine ax_goto rfl ?_
          refine ax_zret rfl rfl (by omega) ?_
          first
            | exact av_rI (b01_t ⟨by omega, fun j hj => hall j (by omega)⟩).symm
            | (refine av_rI (b01_f ?_).symm; rintro ⟨k, -⟩; omega)
      · omega
    | succ t ih =>
      intro i hi i0 hall
      refine ax_iloadn rfl rfl ?_
      refine ax_aloadn rfl rfl ?_
      refine ax_getI (g := 5) rfl fX4_36 rfl rfl rfl rfl ?_
      refine ax_icmp_ge rfl (by omega) (by omega) (fun h7 => ?_) (fun h7 => ?_)
      · omega
      · refine ax_aloadn rfl rfl ?_
        refine ax_aloadn rfl rfl ?_
        refine ax_getR rfl fX4_19 rfl rfl ?_
        refine ax_iloadn rfl rfl ?_
        refine ax_iald rfl rfl (by omega) ?_
        refine ax_aloadn rfl rfl ?_
        refine ax_getR rfl fX4_19 rfl rfl ?_
        refine ax_aloadn rfl rfl ?_
        refine ax_iloadn rfl rfl ?_
        refine ax_callV (as := [_]) rfl vX4_47 hX4_next rfl rfl rfl rfl rfl (c_O_next E (d + 1) M i (by omega) (by omega)) (av_Xk ?_)
        refine ax_iald rfl rfl (by have := hR (if i + 1 < (M 28 5) then i + 1 else 0) (by split <;> omega) (by split <;> omega); split <;> omega) ?_
        refine ax_iconst rfl ?_
        refine ax_iconst rfl ?_
        refine ax_iconst rfl ?_
        refine ax_callV (as := [_, _, _, _, _]) rfl vX4_43 hX4_turn rfl rfl rfl rfl rfl (c_O_turn E (d + 1) M _ _ _ _ _ (by have := hR i (by omega) (by omega); omega) (by have := hR (if i + 1 < (M 28 5) then i + 1 else 0) (by split <;> omega) (by split <;> omega); omega) (hB _ (hR i (by omega) (by omega)).1 (hR i (by omega) (by omega)).2) (hB _ (hR (if i + 1 < (M 28 5) then i + 1 else 0) (by split <;> omega) (by split <;> omega)).1 (hR (if i + 1 < (M 28 5) then i + 1 else 0) (by split <;> omega) (by split <;> omega)).2) (Or.inr ⟨rfl, rfl, rfl⟩)) (av_Xk ?_)
        refine ax_lconst (w := 0) rfl rfl ?_
        refine ax_lif_gt rfl rfl (by
  have q0 := hR i (by omega) (by omega)
  have q1 := hR (if i + 1 < (M 28 5) then i + 1 else 0) (by split <;> omega) (by split <;> omega)
  exact D3_rng (hB _ q0.1 q0.2) (hB _ q1.1 q1.2) (by unfold BP; omega)) (by omega) (fun h34 => ?_) (fun h34 => ?_)
        · refine ax_iinc (ls' := [(0, _), (1, _)]) rfl rfl rfl rfl ?_
          refine ax_goto rfl ?_
          refine ih _ (by omega) (by omega) (fun j hj => ?_)
          by_cases hji : (j : Int) = i
          · have q0 := hR i (by omega) (by omega)
            have q1 := hR (if i + 1 < (M 28 5) then i + 1 else 0) (by split <;> omega) (by split <;> omega)
            have w0 := (hB _ q0.1 q0.2).2.2.1
            have w1 := (hB _ q1.1 q1.2).2.2.1
            have e1 := cn_nxt (X := M 29) (Y := M 30) (W := M 31) (R := M 32) (h := (M 28 5)) i0 (by omega)
            have e2 := cn_at (X := M 29) (Y := M 30) (W := M 31) (R := M 32) i0
            rw [show i.toNat = j by omega] at e1 e2
            rw [e1, e2, ← P2_o]
            exact (P2_pos w0 w1 (by omega)).mp (by omega)
          · exact hall j (by omega)
        · refine ax_iconst rfl ?_
          refine ax_zret rfl rfl (by omega) ?_
          refine av_rI (b01_f ?_).symm
          rintro ⟨-, hin⟩
          have q0 := hR i (by omega) (by omega)
          have q1 := hR (if i + 1 < (M 28 5) then i + 1 else 0) (by split <;> omega) (by split <;> omega)
          have w0 := (hB _ q0.1 q0.2).2.2.1
          have w1 := (hB _ q1.1 q1.2).2.2.1
          have := hin i.toNat (by omega)
          rw [cn_nxt i0 (by omega), cn_at i0, ← P2_o] at this
          have := (P2_pos w0 w1 (by omega)).mpr this
          omega
  refine av_enter hX4_isRoundOrigin oX4_isRoundOrigin rfl rfl ?_
  refine ax_iconst rfl ?_
  refine ax_istoren (ls' := [(0, _), (1, _)]) rfl rfl rfl ?_
  exact loop (M 28 5).toNat 0 (by omega) (by omega) (fun j hj => by omega)
