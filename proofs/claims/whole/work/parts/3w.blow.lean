/-! ===== the class: how far it is blown up ===== -/
def oA (M : av_M) (i : Int) : Int := eA (M 29 (M 32 i)) (M 30 (M 32 i)) (M 31 (M 32 i)) (M 29 (M 32 (nxI (M 28 5) i))) (M 30 (M 32 (nxI (M 28 5) i))) (M 31 (M 32 (nxI (M 28 5) i)))
def oB (M : av_M) (i : Int) : Int := eB (M 29 (M 32 i)) (M 30 (M 32 i)) (M 31 (M 32 i)) (M 29 (M 32 (nxI (M 28 5) i))) (M 30 (M 32 (nxI (M 28 5) i))) (M 31 (M 32 (nxI (M 28 5) i)))
def oC (M : av_M) (i : Int) : Int := eC (M 29 (M 32 i)) (M 30 (M 32 i)) (M 31 (M 32 i)) (M 29 (M 32 (nxI (M 28 5) i))) (M 30 (M 32 (nxI (M 28 5) i))) (M 31 (M 32 (nxI (M 28 5) i)))
def oG (M : av_M) (i : Int) : Int := (Int.gcd (Int.gcd (oA M i) (oB M i)) (oC M i) : Int)
def gO (M : av_M) : Nat → Nat → Rat := fun i p => gr (cn (M 29) (M 30) (M 31) (M 32) i) (cn (M 29) (M 30) (M 31) (M 32) (nxt (M 28 5).toNat i)) (fcn (fun k => M 5 (M 8 k)) (fun k => M 6 (M 8 k)) p)
def OBd (M : av_M) (i : Int) : Prop := 0 < oC M i ∧ (-162 ≤ (oA M i).tdiv (oG M i) ∧ (oA M i).tdiv (oG M i) ≤ 162) ∧ (-162 ≤ (oB M i).tdiv (oG M i) ∧ (oB M i).tdiv (oG M i) ≤ 162) ∧ (0 < (oC M i).tdiv (oG M i) ∧ (oC M i).tdiv (oG M i) ≤ 1782)
theorem oG_d (M : av_M) (i : Int) : (oA M i).tdiv (oG M i) * oG M i = oA M i ∧ (oB M i).tdiv (oG M i) * oG M i = oB M i ∧ (oC M i).tdiv (oG M i) * oG M i = oC M i := by
  have d0 : oG M i ∣ (Int.gcd (oA M i) (oB M i) : Int) := Int.gcd_dvd_left ..
  have dc : oG M i ∣ oC M i := Int.gcd_dvd_right ..
  have da : oG M i ∣ oA M i := Int.dvd_trans d0 (Int.gcd_dvd_left ..)
  have db : oG M i ∣ oB M i := Int.dvd_trans d0 (Int.gcd_dvd_right ..)
  exact ⟨Int.tdiv_mul_cancel da, Int.tdiv_mul_cancel db, Int.tdiv_mul_cancel dc⟩
theorem cn_nxI {M : av_M} {i : Int} (h0 : 0 ≤ i) (h1 : i < M 28 5) : cn (M 29) (M 30) (M 31) (M 32) (nxt (M 28 5).toNat i.toNat) = P2 (M 29 (M 32 (nxI (M 28 5) i))) (M 30 (M 32 (nxI (M 28 5) i))) (M 31 (M 32 (nxI (M 28 5) i))) := cn_nxt h0 h1
theorem CI_edge {M : av_M} (hC : CI M) (h1 : M 12 5 = 1) {i : Int} (i0 : 0 ≤ i) (i1 : i < M 28 5) (hr : 0 < oC M i) : OBd M i := by
  obtain ⟨hW, hM, hB⟩ := hC.2.2.1
  obtain ⟨v1, v2, v3, hO, v5⟩ := hB
  have hS : Snd (WM M) (Sg (M 13 5)) := b01_ne (by omega)
  obtain ⟨hE, h0, hz, hR, hH⟩ := hO
  have nx := nxI_rng i0 i1
  have r0 := hR i i0 i1
  have r1 := hR _ nx.1 nx.2
  have b0 := hE.2.1 _ r0.1 r0.2
  have b1 := hE.2.1 _ r1.1 r1.2
  have H := hH (by omega)
  have ec := (eC_pos b0.2.2.1 b1.2.2.1).mp hr
  have e1 := cn_at (X := M 29) (Y := M 30) (W := M 31) (R := M 32) i0
  have e2 := cn_nxI i0 i1
  have hh : 1 < (M 28 5).toNat := by
    apply Classical.byContradiction
    intro q
    have e5 : M 28 5 = 1 := by omega
    have ei : i = 0 := by omega
    have en : nxI (M 28 5) i = i := by rw [e5, ei]; rfl
    rw [en, cr_aa] at ec
    exact absurd ec (by grind)
  obtain ⟨hne, heg⟩ := H.2.2.2.2.2 hh i.toNat (by omega)
  rw [e1, e2] at hne heg
  have Sf := H.2.1 i.toNat (by omega)
  have St := H.2.1 _ (nxt_lt (i := i.toNat) H.1)
  rw [e1] at Sf
  rw [e2] at St
  have hb : WBd (WM M) (Sg (M 13 5)) := fun j sj => by
    have := hW.2.2.1 (j : Int) (by omega) (hW.2.2.2.2.2 j sj)
    exact ⟨_, _, _, _, ⟨this.1, this.2.1, this.2.2.1, this.2.2.2.1⟩, rfl⟩
  obtain ⟨A, B, C, bd, hn, k1, k2⟩ := edge_small (s := (M 13 4).toNat) (fun j sj => by have := hW.2.2.2.2.2 j sj; omega) (fun j sj => WI_nz hW j (hW.2.2.2.2.2 j sj)) hS hb Sf St hne (fun r hr2 => (heg r hr2).1)
  have eb := edge_bounds b0.2.2.1 b1.2.2.1 bd hn k1 k2 (g := oG M i) rfl
  refine ⟨hr, eb.1, eb.2.1, ?_, eb.2.2.2⟩
  have d := (oG_d M i).2.2
  apply Classical.byContradiction
  intro q
  have g0 : 0 ≤ oG M i := by unfold oG; omega
  have := Int.mul_le_mul_of_nonneg_right (show (oC M i).tdiv (oG M i) ≤ 0 by omega) g0
  rw [d] at this
  omega
theorem gO_eq {M : av_M} (hC : CI M) {i j : Int} (i0 : 0 ≤ i) (i1 : i < M 28 5) (j0 : 0 ≤ j) (hb : OBd M i) : gO M i.toNat j.toNat = (((oA M i).tdiv (oG M i) * M 5 (M 8 j) + (oB M i).tdiv (oG M i) * M 6 (M 8 j) : Int) : Rat) / (((oC M i).tdiv (oG M i) : Int) : Rat) := by
  obtain ⟨hW, hM, hB⟩ := hC.2.2.1
  obtain ⟨v1, v2, v3, hO, v5⟩ := hB
  obtain ⟨hE, h0, hz, hR, hH⟩ := hO
  have nx := nxI_rng i0 i1
  have r0 := hR i i0 i1
  have r1 := hR _ nx.1 nx.2
  have b0 := hE.2.1 _ r0.1 r0.2
  have b1 := hE.2.1 _ r1.1 r1.2
  unfold gO fcn
  rw [cn_at i0, cn_nxI i0 i1, show ((j.toNat : Nat) : Int) = j by omega, gr_int b0.2.2.1 b1.2.2.1 hb.1]
  obtain ⟨d1, d2, d3⟩ := oG_d M i
  refine (q_eq hb.1 hb.2.2.2.1).mpr ?_
  show (oA M i * M 5 (M 8 j) + oB M i * M 6 (M 8 j)) * (oC M i).tdiv (oG M i) = ((oA M i).tdiv (oG M i) * M 5 (M 8 j) + (oB M i).tdiv (oG M i) * M 6 (M 8 j)) * oC M i
  generalize (oA M i).tdiv (oG M i) = a at d1 ⊢
  generalize (oB M i).tdiv (oG M i) = b at d2 ⊢
  generalize (oC M i).tdiv (oG M i) = c at d3 ⊢
  rw [← d1, ← d2, ← d3]
  grind
theorem cvB_s (k m h : Nat) (hm : m < h) : ∀ i p, cvB k (m + 1) h i p ↔ cvB k m h i p ∨ (i = k ∧ p = m) := by
  intro i p
  unfold cvB
  omega
theorem cvB_n (k h : Nat) : ∀ i p, cvB k h h i p ↔ cvB (k + 1) 0 h i p := by
  intro i p
  unfold cvB
  omega
theorem oR {M : av_M} (hC : CI M) {i : Int} (i0 : 0 ≤ i) (i1 : i < M 28 5) : ((0 ≤ M 32 i ∧ M 32 i < 120) ∧ (0 ≤ M 32 (nxI (M 28 5) i) ∧ M 32 (nxI (M 28 5) i) < 120)) ∧ (-500000000 ≤ oA M i ∧ oA M i ≤ 500000000) ∧ (-500000000 ≤ oB M i ∧ oB M i ≤ 500000000) ∧ (-5000000000 ≤ oC M i ∧ oC M i ≤ 5000000000) ∧ BP (M 29 (M 32 i)) (M 30 (M 32 i)) (M 31 (M 32 i)) ∧ BP (M 29 (M 32 (nxI (M 28 5) i))) (M 30 (M 32 (nxI (M 28 5) i))) (M 31 (M 32 (nxI (M 28 5) i))) := by
  have nx := nxI_rng i0 i1
  obtain ⟨r0, b0⟩ := CI_ringO hC i0 i1
  obtain ⟨r1, b1⟩ := CI_ringO hC nx.1 nx.2
  have b0' := b0
  have b1' := b1
  obtain ⟨x0, y0, w0, w0'⟩ := b0
  obtain ⟨x1, y1, w1, w1'⟩ := b1
  have m1 := mb (A := 5000) (B := 50000) (x := M 31 (M 32 i)) (y := M 30 (M 32 (nxI (M 28 5) i))) (by omega) y1
  have m2 := mb (A := 50000) (B := 5000) (x := M 30 (M 32 i)) (y := M 31 (M 32 (nxI (M 28 5) i))) y0 (by omega)
  have m3 := mb (A := 50000) (B := 5000) (x := M 29 (M 32 i)) (y := M 31 (M 32 (nxI (M 28 5) i))) x0 (by omega)
  have m4 := mb (A := 5000) (B := 50000) (x := M 31 (M 32 i)) (y := M 29 (M 32 (nxI (M 28 5) i))) (by omega) x1
  have m5 := mb x0 y1
  have m6 := mb y0 x1
  refine ⟨⟨r0, r1⟩, ?_, ?_, ?_, b0', b1'⟩
  · unfold oA eA; omega
  · unfold oB eB; omega
  · unfold oC eC; omega
set_option maxRecDepth 100000 in
set_option maxHeartbeats 800000 in
theorem l2_X4_growth (E : av_E) (d : Nat) (M : av_M) (hC : CI M) (u i : Int) (hi : 0 ≤ i ∧ i < M 28 5) (hb : OBd M i) (Q : Option av_V → av_M → Prop) (nxt0 : ∀ ov be : Int, ((0 ≤ ov ∧ ov ≤ 20000) ∧ (0 < be ∧ be ≤ 1782)) → MXc (cvB (i.toNat + 1) 0 (M 4 5).toNat) (gO M) ((ov : Rat) / (be : Rat)) → av_S E (d + 3) mX4_growth 8 [(0, vR 28), (1, vR 4), (2, vI u), (3, vL ov), (5, vL be), (7, vI (i + 1))] [] M Q) : ∀ (t : Nat) (j ov be : Int), j + t = M 4 5 → 0 ≤ j → ((0 ≤ ov ∧ ov ≤ 20000) ∧ (0 < be ∧ be ≤ 1782)) → MXc (cvB i.toNat j.toNat (M 4 5).toNat) (gO M) ((ov : Rat) / (be : Rat)) → av_S E (d + 3) mX4_growth 191 [(0, vR 28), (1, vR 4), (2, vI u), (3, vL ov), (5, vL be), (7, vI i), (8, vI (M 32 i)), (9, vI (M 32 (nxI (M 28 5) i))), (10, vL (oA M i)), (12, vL (oB M i)), (14, vL (oC M i)), (16, vL (oG M i)), (18, vL ((oC M i).tdiv (oG M i))), (20, vI j)] [] M Q := by
  have hcb := CI_b hC
  intro t
  induction t with
  | zero =>
    intro j ov be hj j0 bd hx
    have ej : j = M 4 5 := by omega
    subst ej
    have hx2 := MXc_congr hx (cvB_n i.toNat (M 4 5).toNat) (fun _ _ _ => rfl)
    refine ax_iload rfl rfl ?_
    refine ax_aloadn rfl rfl ?_
    refine ax_getI (g := 5) rfl fX4_36 rfl rfl rfl rfl ?_
    refine ax_icmp_ge rfl (by omega) (by omega) (fun h197 => ?_) (fun h197 => ?_)
    · refine ax_iinc (ls' := [(0, _), (1, _), (2, _), (3, _), (5, _), (7, _), (8, _), (9, _), (10, _), (12, _), (14, _), (16, _), (18, _), (20, _)]) rfl rfl rfl rfl ?_
      refine ax_goto rfl ?_
      refine ax_pick [0, 1, 2, 3, 4, 5] rfl ?_
      exact nxt0 ov be bd hx2
    · omega
  | succ t ih =>
    intro j ov be hj j0 bd hx
    have rj := CI_ring hC j0 (show j < M 4 5 by omega)
    have fb := FO_fb hC.1.2.2
    have xy := fb.2.2 j j0 (by omega)
    have xb : -50 ≤ M 5 (M 8 j) ∧ M 5 (M 8 j) ≤ 50 := xy.1
    have yb : -50 ≤ M 6 (M 8 j) ∧ M 6 (M 8 j) ≤ 50 := xy.2
    obtain ⟨c0, ba, bb, bc⟩ := hb
    have m1 := mb ba xb
    have m2 := mb bb yb
    have m3 := mb (A := 20000) (B := 1782) (x := ((oA M i).tdiv (oG M i) * M 5 (M 8 j) + (oB M i).tdiv (oG M i) * M 6 (M 8 j))) (y := be) (by omega) (by omega)
    have m4 := mb (A := 20000) (B := 1782) (x := ov) (y := (oC M i).tdiv (oG M i)) (by omega) (by omega)
    have eg0 := gO_eq hC hi.1 hi.2 j0 ⟨c0, ba, bb, bc⟩
    have es : (j + 1).toNat = j.toNat + 1 := by omega
    have st := cvB_s i.toNat j.toNat (M 4 5).toNat (by omega)
    have g0 : 0 < oG M i := by
      have d := (oG_d M i).2.2
      apply Classical.byContradiction
      intro q
      have g1 : 0 ≤ oG M i := by unfold oG; omega
      have : oG M i = 0 := by omega
      rw [this] at d
      omega
    have gr0 : oG M i ≤ oC M i := by
      have d := (oG_d M i).2.2
      have := Int.mul_le_mul_of_nonneg_right (show 1 ≤ (oC M i).tdiv (oG M i) by omega) (show 0 ≤ oG M i by omega)
      omega
    have rA := oR hC hi.1 hi.2
    have ih2 := ih (j + 1)
    rw [es] at ih2
    refine ax_iload rfl rfl ?_
    refine ax_aloadn rfl rfl ?_
    refine ax_getI (g := 5) rfl fX4_36 rfl rfl rfl rfl ?_
    refine ax_icmp_ge rfl (by omega) (by omega) (fun h197 => ?_) (fun h197 => ?_)
    · omega
    · refine ax_lload rfl rfl ?_
      refine ax_lload rfl rfl ?_
      refine ax_ldiv rfl (by omega) (by omega) (by omega) ?_
      refine ax_aloadn rfl rfl ?_
      refine ax_iload rfl rfl ?_
      refine ax_callV (as := [_]) rfl vX4_51 hX4_xOf rfl rfl rfl rfl rfl (c_H_xOf E (d + 2) M j (by omega) (by omega)) (av_Xk ?_)
      refine ax_i2l rfl (by omega) ?_
      refine ax_lmul rfl ?_
      refine ax_lload rfl rfl ?_
      refine ax_lload rfl rfl ?_
      refine ax_ldiv rfl (by omega) (by omega) (by omega) ?_
      refine ax_aloadn rfl rfl ?_
      refine ax_iload rfl rfl ?_
      refine ax_callV (as := [_]) rfl vX4_54 hX4_yOf rfl rfl rfl rfl rfl (c_H_yOf E (d + 2) M j (by omega) (by omega)) (av_Xk ?_)
      refine ax_i2l rfl (by omega) ?_
      refine ax_lmul rfl ?_
      refine ax_ladd rfl ?_
      refine ax_lstore (ls' := [(0, _), (1, _), (2, _), (3, _), (5, _), (7, _), (8, _), (9, _), (10, _), (12, _), (14, _), (16, _), (18, _), (20, _), (21, _)]) rfl rfl rfl ?_
      refine ax_lload rfl rfl ?_
      refine ax_lload rfl rfl ?_
      refine ax_lmul rfl ?_
      refine ax_lloadn rfl rfl ?_
      refine ax_lload rfl rfl ?_
      refine ax_lmul rfl ?_
      refine ax_lif_le rfl rfl (by omega) (by omega) (fun h238 => ?_) (fun h238 => ?_)
      · refine ax_iinc (ls' := [(0, _), (1, _), (2, _), (3, _), (5, _), (7, _), (8, _), (9, _), (10, _), (12, _), (14, _), (16, _), (18, _), (20, _), (21, _)]) rfl rfl rfl rfl ?_
        refine ax_goto rfl ?_
        first
          | (have hlt : ov * (oC M i).tdiv (oG M i) < ((oA M i).tdiv (oG M i) * M 5 (M 8 j) + (oB M i).tdiv (oG M i) * M 6 (M 8 j)) * be := by omega
             have q := (q_lt (x := ov) (w := be) (x' := ((oA M i).tdiv (oG M i) * M 5 (M 8 j) + (oB M i).tdiv (oG M i) * M 6 (M 8 j))) (w' := (oC M i).tdiv (oG M i)) bd.2.1 bc.1).mpr hlt
             rw [← eg0] at q
             have mx := MXc_take hx st q
             rw [eg0] at mx
             refine ax_pick [0, 1, 2, 3, 4, 5, 6, 7, 8, 9, 10, 11, 12, 13] rfl ?_
             refine ih2 _ _ (by omega) (by omega) ⟨⟨?_, by omega⟩, bc⟩ mx
             have : 0 ≤ ov * (oC M i).tdiv (oG M i) := Int.mul_nonneg bd.1.1 (by omega)
             apply Classical.byContradiction
             intro z
             have := Int.mul_le_mul_of_nonneg_right (show ((oA M i).tdiv (oG M i) * M 5 (M 8 j) + (oB M i).tdiv (oG M i) * M 6 (M 8 j)) ≤ 0 by omega) (show 0 ≤ be by omega)
             omega)
          | (have hle : ((oA M i).tdiv (oG M i) * M 5 (M 8 j) + (oB M i).tdiv (oG M i) * M 6 (M 8 j)) * be ≤ ov * (oC M i).tdiv (oG M i) := by omega
             have q := q_le_of (x := ((oA M i).tdiv (oG M i) * M 5 (M 8 j) + (oB M i).tdiv (oG M i) * M 6 (M 8 j))) (w := (oC M i).tdiv (oG M i)) (x' := ov) (w' := be) bc.1 bd.2.1 hle
             rw [← eg0] at q
             refine ax_pick [0, 1, 2, 3, 4, 5, 6, 7, 8, 9, 10, 11, 12, 13] rfl ?_
             exact ih2 _ _ (by omega) (by omega) bd (MXc_keep hx st q))
      · refine ax_lload rfl rfl ?_
        refine ax_lstoren (ls' := [(0, _), (1, _), (2, _), (3, _), (5, _), (7, _), (8, _), (9, _), (10, _), (12, _), (14, _), (16, _), (18, _), (20, _), (21, _)]) rfl rfl rfl ?_
        refine ax_lload rfl rfl ?_
        refine ax_lstore (ls' := [(0, _), (1, _), (2, _), (3, _), (5, _), (7, _), (8, _), (9, _), (10, _), (12, _), (14, _), (16, _), (18, _), (20, _), (21, _)]) rfl rfl rfl ?_
        refine ax_iinc (ls' := [(0, _), (1, _), (2, _), (3, _), (5, _), (7, _), (8, _), (9, _), (10, _), (12, _), (14, _), (16, _), (18, _), (20, _), (21, _)]) rfl rfl rfl rfl ?_
        refine ax_goto rfl ?_
        first
          | (have hlt : ov * (oC M i).tdiv (oG M i) < ((oA M i).tdiv (oG M i) * M 5 (M 8 j) + (oB M i).tdiv (oG M i) * M 6 (M 8 j)) * be := by omega
             have q := (q_lt (x := ov) (w := be) (x' := ((oA M i).tdiv (oG M i) * M 5 (M 8 j) + (oB M i).tdiv (oG M i) * M 6 (M 8 j))) (w' := (oC M i).tdiv (oG M i)) bd.2.1 bc.1).mpr hlt
             rw [← eg0] at q
             have mx := MXc_take hx st q
             rw [eg0] at mx
             refine ax_pick [0, 1, 2, 3, 4, 5, 6, 7, 8, 9, 10, 11, 12, 13] rfl ?_
             refine ih2 _ _ (by omega) (by omega) ⟨⟨?_, by omega⟩, bc⟩ mx
             have : 0 ≤ ov * (oC M i).tdiv (oG M i) := Int.mul_nonneg bd.1.1 (by omega)
             apply Classical.byContradiction
             intro z
             have := Int.mul_le_mul_of_nonneg_right (show ((oA M i).tdiv (oG M i) * M 5 (M 8 j) + (oB M i).tdiv (oG M i) * M 6 (M 8 j)) ≤ 0 by omega) (show 0 ≤ be by omega)
             omega)
          | (have hle : ((oA M i).tdiv (oG M i) * M 5 (M 8 j) + (oB M i).tdiv (oG M i) * M 6 (M 8 j)) * be ≤ ov * (oC M i).tdiv (oG M i) := by omega
             have q := q_le_of (x := ((oA M i).tdiv (oG M i) * M 5 (M 8 j) + (oB M i).tdiv (oG M i) * M 6 (M 8 j))) (w := (oC M i).tdiv (oG M i)) (x' := ov) (w' := be) bc.1 bd.2.1 hle
             rw [← eg0] at q
             refine ax_pick [0, 1, 2, 3, 4, 5, 6, 7, 8, 9, 10, 11, 12, 13] rfl ?_
             exact ih2 _ _ (by omega) (by omega) bd (MXc_keep hx st q))
set_option maxRecDepth 100000 in
set_option maxHeartbeats 800000 in
theorem l1_X4_growth (E : av_E) (d : Nat) (M : av_M) (hC : CI M) (u : Int) (hu : -2147483648 ≤ u ∧ u < 2147483648) (hb : ∀ i, 0 ≤ i → i < M 28 5 → OBd M i) : ∀ (t : Nat) (i ov be : Int), i + t = M 28 5 → 0 ≤ i → ((0 ≤ ov ∧ ov ≤ 20000) ∧ (0 < be ∧ be ≤ 1782)) → MXc (cvB i.toNat 0 (M 4 5).toNat) (gO M) ((ov : Rat) / (be : Rat)) → av_S E (d + 3) mX4_growth 8 [(0, vR 28), (1, vR 4), (2, vI u), (3, vL ov), (5, vL be), (7, vI i)] [] M (fun res M' => (∃ r, res = some (vL (tl r u)) ∧ MXc (cvB (M 28 5).toNat 0 (M 4 5).toNat) (gO M) r) ∧ M' = M) := by
  have hcb := CI_b hC
  intro t
  induction t with
  | zero =>
    intro i ov be hi i0 bd hx
    have ei : i = M 28 5 := by omega
    subst ei
    refine ax_iload rfl rfl ?_
    refine ax_aloadn rfl rfl ?_
    refine ax_getI (g := 5) rfl fX4_36 rfl rfl rfl rfl ?_
    refine ax_icmp_ge rfl (by omega) (by omega) (fun h14 => ?_) (fun h14 => ?_)
    · refine ax_lloadn rfl rfl ?_
      refine ax_lload rfl rfl ?_
      refine ax_iloadn rfl rfl ?_
      refine ax_callS (as := [_, _, _]) rfl sX4_70 hX7_told rfl rfl rfl rfl (c_G_told E d M ov be u (by omega) (by omega) hu) (av_Xk ?_)
      refine ax_lret rfl rfl ?_
      exact ⟨⟨_, rfl, hx⟩, rfl⟩
    · omega
  | succ t ih =>
    intro i ov be hi i0 bd hx
    have hbi := hb i i0 (by omega)
    obtain ⟨⟨r0, r1⟩, rA, rB, rC, b0, b1⟩ := oR hC i0 (show i < M 28 5 by omega)
    have nx := nxI_rng i0 (show i < M 28 5 by omega)
    unfold BP at b0 b1
    obtain ⟨c0, _, _, bc⟩ := hbi
    have g0 : 0 < oG M i := by
      have d := (oG_d M i).2.2
      apply Classical.byContradiction
      intro q
      have g1 : 0 ≤ oG M i := by unfold oG; omega
      have : oG M i = 0 := by omega
      rw [this] at d
      omega
    have gr0 : oG M i ≤ oC M i := by
      have d := (oG_d M i).2.2
      have := Int.mul_le_mul_of_nonneg_right (show 1 ≤ (oC M i).tdiv (oG M i) by omega) (show 0 ≤ oG M i by omega)
      omega
    have gab : 0 ≤ (Int.gcd (oA M i) (oB M i) : Int) ∧ (Int.gcd (oA M i) (oB M i) : Int) ≤ 500000000 := by
      have := gcd_le (a := oA M i) (b := oB M i) (A := 500000000) (by omega) (by omega)
      omega
    have eAA : M 31 (M 32 i) * M 30 (M 32 (nxI (M 28 5) i)) - M 30 (M 32 i) * M 31 (M 32 (nxI (M 28 5) i)) = oA M i := rfl
    have eBB : M 29 (M 32 i) * M 31 (M 32 (nxI (M 28 5) i)) - M 31 (M 32 i) * M 29 (M 32 (nxI (M 28 5) i)) = oB M i := rfl
    have eCC : M 29 (M 32 i) * M 30 (M 32 (nxI (M 28 5) i)) - M 30 (M 32 i) * M 29 (M 32 (nxI (M 28 5) i)) = oC M i := rfl
    have eGG : (Int.gcd (Int.gcd (oA M i) (oB M i)) (oC M i) : Int) = oG M i := rfl
    have k := l2_X4_growth E d M hC u i ⟨i0, by omega⟩ (hb i i0 (by omega)) _ (fun ov' be' bd' hx' => ih (i + 1) ov' be' (by omega) (by omega) bd' (by rw [show (i + 1).toNat = i.toNat + 1 by omega]; exact hx')) (M 4 5).toNat 0 ov be (by omega) (by omega) bd hx
    refine ax_iload rfl rfl ?_
    refine ax_aloadn rfl rfl ?_
    refine ax_getI (g := 5) rfl fX4_36 rfl rfl rfl rfl ?_
    refine ax_icmp_ge rfl (by omega) (by omega) (fun h14 => ?_) (fun h14 => ?_)
    · omega
    · refine ax_aloadn rfl rfl ?_
      refine ax_getR rfl fX4_19 rfl rfl ?_
      refine ax_iload rfl rfl ?_
      refine ax_iald rfl rfl (by omega) ?_
      refine ax_istore (ls' := [(0, _), (1, _), (2, _), (3, _), (5, _), (7, _), (8, _)]) rfl rfl rfl ?_
      refine ax_aloadn rfl rfl ?_
      refine ax_getR rfl fX4_19 rfl rfl ?_
      refine ax_aloadn rfl rfl ?_
      refine ax_iload rfl rfl ?_
      refine ax_callV (as := [_]) rfl vX4_47 hX4_next rfl rfl rfl rfl rfl (c_O_next E (d + 2) M i (by omega) (by omega)) (av_Xk ?_)
      refine (show av_S E (d + 3) mX4_growth 36 _ [vI (nxI (M 28 5) i), vR 32] M _ from ?_)
      refine ax_iald rfl rfl (by omega) ?_
      refine ax_istore (ls' := [(0, _), (1, _), (2, _), (3, _), (5, _), (7, _), (8, _), (9, _)]) rfl rfl rfl ?_
      refine ax_aloadn rfl rfl ?_
      refine ax_getR rfl fX4_16 rfl rfl ?_
      refine ax_iload rfl rfl ?_
      refine ax_iald rfl rfl (by omega) ?_
      refine ax_i2l rfl (by omega) ?_
      refine ax_aloadn rfl rfl ?_
      refine ax_getR rfl fX4_13 rfl rfl ?_
      refine ax_iload rfl rfl ?_
      refine ax_iald rfl rfl (by omega) ?_
      refine ax_i2l rfl (by omega) ?_
      refine ax_lmul rfl ?_
      refine ax_aloadn rfl rfl ?_
      refine ax_getR rfl fX4_13 rfl rfl ?_
      refine ax_iload rfl rfl ?_
      refine ax_iald rfl rfl (by omega) ?_
      refine ax_i2l rfl (by omega) ?_
      refine ax_aloadn rfl rfl ?_
      refine ax_getR rfl fX4_16 rfl rfl ?_
      refine ax_iload rfl rfl ?_
      refine ax_iald rfl rfl (by omega) ?_
      refine ax_i2l rfl (by omega) ?_
      refine ax_lmul rfl ?_
      refine ax_lsub rfl ?_
      refine ax_lstore (ls' := [(0, _), (1, _), (2, _), (3, _), (5, _), (7, _), (8, _), (9, _), (10, _)]) rfl rfl rfl ?_
      refine ax_aloadn rfl rfl ?_
      refine ax_getR rfl fX4_7 rfl rfl ?_
      refine ax_iload rfl rfl ?_
      refine ax_iald rfl rfl (by omega) ?_
      refine ax_i2l rfl (by omega) ?_
      refine ax_aloadn rfl rfl ?_
      refine ax_getR rfl fX4_16 rfl rfl ?_
      refine ax_iload rfl rfl ?_
      refine ax_iald rfl rfl (by omega) ?_
      refine ax_i2l rfl (by omega) ?_
      refine ax_lmul rfl ?_
      refine ax_aloadn rfl rfl ?_
      refine ax_getR rfl fX4_16 rfl rfl ?_
      refine ax_iload rfl rfl ?_
      refine ax_iald rfl rfl (by omega) ?_
      refine ax_i2l rfl (by omega) ?_
      refine ax_aloadn rfl rfl ?_
      refine ax_getR rfl fX4_7 rfl rfl ?_
      refine ax_iload rfl rfl ?_
      refine ax_iald rfl rfl (by omega) ?_
      refine ax_i2l rfl (by omega) ?_
      refine ax_lmul rfl ?_
      refine ax_lsub rfl ?_
      refine ax_lstore (ls' := [(0, _), (1, _), (2, _), (3, _), (5, _), (7, _), (8, _), (9, _), (10, _), (12, _)]) rfl rfl rfl ?_
      refine ax_aloadn rfl rfl ?_
      refine ax_getR rfl fX4_7 rfl rfl ?_
      refine ax_iload rfl rfl ?_
      refine ax_iald rfl rfl (by omega) ?_
      refine ax_i2l rfl (by omega) ?_
      refine ax_aloadn rfl rfl ?_
      refine ax_getR rfl fX4_13 rfl rfl ?_
      refine ax_iload rfl rfl ?_
      refine ax_iald rfl rfl (by omega) ?_
      refine ax_i2l rfl (by omega) ?_
      refine ax_lmul rfl ?_
      refine ax_aloadn rfl rfl ?_
      refine ax_getR rfl fX4_13 rfl rfl ?_
      refine ax_iload rfl rfl ?_
      refine ax_iald rfl rfl (by omega) ?_
      refine ax_i2l rfl (by omega) ?_
      refine ax_aloadn rfl rfl ?_
      refine ax_getR rfl fX4_7 rfl rfl ?_
      refine ax_iload rfl rfl ?_
      refine ax_iald rfl rfl (by omega) ?_
      refine ax_i2l rfl (by omega) ?_
      refine ax_lmul rfl ?_
      refine ax_lsub rfl ?_
      refine ax_lstore (ls' := [(0, _), (1, _), (2, _), (3, _), (5, _), (7, _), (8, _), (9, _), (10, _), (12, _), (14, _)]) rfl rfl rfl ?_
      refine ax_lload rfl rfl ?_
      refine ax_lload rfl rfl ?_
      refine ax_callS (as := [_, _]) rfl sX4_64 hX7_gcd rfl rfl rfl rfl (c_G_gcd E (d + 1) M (oA M i) (oB M i) (by omega) (by omega)) (av_Xk ?_)
      refine ax_lload rfl rfl ?_
      refine ax_callS (as := [_, _]) rfl sX4_64 hX7_gcd rfl rfl rfl rfl (c_G_gcd E (d + 1) M (Int.gcd (oA M i) (oB M i)) (oC M i) (by omega) (by omega)) (av_Xk ?_)
      refine ax_lstore (ls' := [(0, _), (1, _), (2, _), (3, _), (5, _), (7, _), (8, _), (9, _), (10, _), (12, _), (14, _), (16, _)]) rfl rfl rfl ?_
      refine ax_lload rfl rfl ?_
      refine ax_lconst (w := 0) rfl rfl ?_
      refine ax_lif_eq rfl rfl (by omega) (by omega) (fun h167 => ?_) (fun h167 => ?_)
      · omega
      · refine ax_lload rfl rfl ?_
        refine ax_lconst (w := 0) rfl rfl ?_
        refine ax_lif_gt rfl rfl (by omega) (by omega) (fun h174 => ?_) (fun h174 => ?_)
        · refine ax_lload rfl rfl ?_
          refine ax_lload rfl rfl ?_
          refine ax_ldiv rfl (by omega) (by omega) (by omega) ?_
          refine ax_lstore (ls' := [(0, _), (1, _), (2, _), (3, _), (5, _), (7, _), (8, _), (9, _), (10, _), (12, _), (14, _), (16, _), (18, _)]) rfl rfl rfl ?_
          refine ax_iconst rfl ?_
          refine ax_istore (ls' := [(0, _), (1, _), (2, _), (3, _), (5, _), (7, _), (8, _), (9, _), (10, _), (12, _), (14, _), (16, _), (18, _), (20, _)]) rfl rfl rfl ?_
          exact k
        · refine ax_goto rfl ?_
          omega
set_option maxRecDepth 100000 in
set_option maxHeartbeats 800000 in
theorem c_X4_growth (E : av_E) (d : Nat) (M : av_M) (hC : CI M) (u : Int) (hu : -2147483648 ≤ u ∧ u < 2147483648) (hb : ∀ i, 0 ≤ i → i < M 28 5 → OBd M i) : av_Mt E (d + 3) mX4_growth [vR 28, vR 4, vI u] M (fun res M' => (∃ r, res = some (vL (tl r u)) ∧ MXc (cvB (M 28 5).toNat 0 (M 4 5).toNat) (gO M) r) ∧ M' = M) := by
  have hcb := CI_b hC
  refine av_enter hX4_growth oX4_growth rfl rfl ?_
  refine ax_lconst (w := 0) rfl rfl ?_
  refine ax_lstoren (ls' := [(0, _), (1, _), (2, _), (3, _)]) rfl rfl rfl ?_
  refine ax_lconst (w := 1) rfl rfl ?_
  refine ax_lstore (ls' := [(0, _), (1, _), (2, _), (3, _), (5, _)]) rfl rfl rfl ?_
  refine ax_iconst rfl ?_
  refine ax_istore (ls' := [(0, _), (1, _), (2, _), (3, _), (5, _), (7, _)]) rfl rfl rfl ?_
  refine l1_X4_growth E d M hC u hu hb (M 28 5).toNat 0 0 1 (by omega) (by omega) (by omega) ?_
  have e : (((0 : Int) : Rat) / ((1 : Int) : Rat)) = 0 := by grind
  rw [e]
  exact MXc_congr (MXc_0 (gO M)) (fun i p => by unfold cvB; omega) (fun _ _ _ => rfl)
def RNo (M : av_M) : Prop := (0 < M 28 5 ∧ ∀ i : Nat, (i : Int) < M 28 5 → 0 < cr (cn (M 29) (M 30) (M 31) (M 32) i) (cn (M 29) (M 30) (M 31) (M 32) (nxt (M 28 5).toNat i)) ((0 : Rat), (0 : Rat)))
theorem RNo_b {M : av_M} (hC : CI M) (h1 : M 12 5 = 1) (h : RNo M) : ∀ i, 0 ≤ i → i < M 28 5 → OBd M i := by
  intro i i0 i1
  obtain ⟨_, _, _, _, b0, b1⟩ := oR hC i0 i1
  refine CI_edge hC h1 i0 i1 ((eC_pos b0.2.2.1 b1.2.2.1).mpr ?_)
  have k := h.2 i.toNat (by omega)
  rw [cn_at i0, cn_nxI i0 i1] at k
  exact k
set_option maxRecDepth 100000 in
set_option maxHeartbeats 800000 in
theorem c_X7_blow (E : av_E) (d : Nat) (M : av_M) (hC : CI M) (u : Int) (hiu : -2147483648 ≤ u ∧ u < 2147483648) : av_Mt E (d + 8) mX7_blow [vR 0, vI u] M (fun res M' => ((¬ (M 12 5 = 1 ∧ M 1 3 ≠ 0 ∧ RNo M) ∧ res = some (vL (-900000003))) ∨ ((M 12 5 = 1 ∧ M 1 3 ≠ 0 ∧ RNo M) ∧ ∃ r, res = some (vL (tl r u)) ∧ MXc (cvB (M 28 5).toNat 0 (M 4 5).toNat) (gO M) r)) ∧ M' = M) := by
  have hb := CI_b hC
  have br := b01_rng (RNo M)
  have hn := hC.1.1
  refine av_enter hX7_blow oX7_blow rfl rfl ?_
  refine ax_aloadn rfl rfl ?_
  refine ax_getR rfl fX7_26 rfl rfl ?_
  refine ax_callV (as := []) rfl vX7_172 hX0_isSound rfl rfl rfl rfl rfl (c_X0_isSound E (d + 7) M hb.2.2.2.1) (av_Xk ?_)
  refine ax_if_eq rfl (by omega) (fun h7 => ?_) (fun h7 => ?_)
  · refine ax_ldc2 (z := (-900000003)) rfl kX7_197 rfl ?_
    refine ax_lret rfl rfl ?_
    first
      | exact ⟨Or.inl ⟨by omega, rfl⟩, rfl⟩
      | exact ⟨Or.inl ⟨fun q => b01_eq (P := RNo M) (by omega) q.2.2, rfl⟩, rfl⟩
  · refine ax_aloadn rfl rfl ?_
    refine ax_getR rfl fX7_10 rfl rfl ?_
    refine ax_callV (as := []) rfl vX7_42 hX2_size rfl rfl rfl rfl rfl (c_X2_size E (d + 7) M) (av_Xk ?_)
    refine ax_if_eq rfl (by omega) (fun h17 => ?_) (fun h17 => ?_)
    · refine ax_ldc2 (z := (-900000003)) rfl kX7_197 rfl ?_
      refine ax_lret rfl rfl ?_
      first
        | exact ⟨Or.inl ⟨by omega, rfl⟩, rfl⟩
        | exact ⟨Or.inl ⟨fun q => b01_eq (P := RNo M) (by omega) q.2.2, rfl⟩, rfl⟩
    · refine ax_aloadn rfl rfl ?_
      refine ax_getR rfl fX7_26 rfl rfl ?_
      refine ax_callV (as := []) rfl vX7_194 hX0_outline rfl rfl rfl rfl rfl (c_X0_outline E (d + 7) M) (av_Xk ?_)
      refine ax_callV (as := []) rfl vX7_210 hX4_isRoundOrigin rfl rfl rfl rfl rfl (c_O_round0 E (d + 5) M _ hC.2.2.1.2.2.2.2.2.1 hC.2.2.1.2.2.2.2.2.2 (by omega)) (av_Xk ?_)
      refine (show av_S E (d + 8) mX7_blow 30 _ [vI (b01 (RNo M))] M _ from ?_)
      refine ax_if_ne rfl (by omega) (fun h30 => ?_) (fun h30 => ?_)
      · refine ax_aloadn rfl rfl ?_
        refine ax_getR rfl fX7_26 rfl rfl ?_
        refine ax_callV (as := []) rfl vX7_194 hX0_outline rfl rfl rfl rfl rfl (c_X0_outline E (d + 7) M) (av_Xk ?_)
        refine ax_aloadn rfl rfl ?_
        refine ax_getR rfl fX7_10 rfl rfl ?_
        refine ax_callV (as := []) rfl vX7_62 hX2_hull rfl rfl rfl rfl rfl (c_X2_hull E (d + 7) M) (av_Xk ?_)
        refine ax_iloadn rfl rfl ?_
        refine ax_callV (as := [_, _]) rfl vX7_213 hX4_growth rfl rfl rfl rfl rfl (c_X4_growth E (d + 4) M hC u (by omega) (RNo_b hC (by omega) (b01_ne (by show ¬ b01 (RNo M) = 0; omega)))) (fun r52 M52 hr52 => ?_)
        obtain ⟨⟨r, rfl, hx⟩, hMe⟩ := hr52
        have hMs := hMe.symm
        subst hMs
        refine ax_lret rfl rfl ?_
        exact ⟨Or.inr ⟨⟨by omega, by omega, b01_ne (by omega)⟩, r, rfl, hx⟩, rfl⟩
      · refine ax_ldc2 (z := (-900000003)) rfl kX7_197 rfl ?_
        refine ax_lret rfl rfl ?_
        first
          | exact ⟨Or.inl ⟨by omega, rfl⟩, rfl⟩
          | exact ⟨Or.inl ⟨fun q => b01_eq (P := RNo M) (by omega) q.2.2, rfl⟩, rfl⟩
