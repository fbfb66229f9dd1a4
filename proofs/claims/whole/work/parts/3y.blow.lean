/-! ===== the reference: how far it is blown up, all ===== -/
def sA (M : av_M) (k : Int) : Int := M 39 (M 42 ((k + 1).tmod (M 35 9))) * M 40 (M 42 k) - M 39 (M 42 k) * M 40 (M 42 ((k + 1).tmod (M 35 9)))
def sB (M : av_M) (k : Int) : Int := M 38 (M 42 k) * M 40 (M 42 ((k + 1).tmod (M 35 9))) - M 38 (M 42 ((k + 1).tmod (M 35 9))) * M 40 (M 42 k)
def sC (M : av_M) (k : Int) : Int := M 38 (M 42 k) * M 39 (M 42 ((k + 1).tmod (M 35 9))) - M 39 (M 42 k) * M 38 (M 42 ((k + 1).tmod (M 35 9)))
def gR (H : Nat) (c f : Nat → pt) : Nat → Nat → Rat := fun i p => gr (c i) (c (nxt H i)) (f p)
def RNr (H : Int) (c : Nat → pt) : Prop := 0 < H ∧ ∀ i : Nat, (i : Int) < H → 0 < cr (c i) (c (nxt H.toNat i)) ((0 : Rat), (0 : Rat))
theorem s_all {M : av_M} {H : Int} {c : Nat → pt} (hs : LSm M H c) {k : Int} (k0 : 0 ≤ k) (k1 : k < H) : ((0 ≤ M 42 k ∧ M 42 k < 140) ∧ (0 ≤ (M 42 ((k + 1).tmod (M 35 9))) ∧ (M 42 ((k + 1).tmod (M 35 9))) < 140)) ∧ (-500000000 ≤ sA M k ∧ sA M k ≤ 500000000) ∧ (-500000000 ≤ sB M k ∧ sB M k ≤ 500000000) ∧ (-5000000000 ≤ sC M k ∧ sC M k ≤ 5000000000) ∧ (0 < sC M k ↔ 0 < cr (c k.toNat) (c (nxt H.toNat k.toNat)) ((0 : Rat), (0 : Rat))) ∧ (0 < sC M k → ∀ px py : Int, gr (c k.toNat) (c (nxt H.toNat k.toNat)) (P2 px py 1) = ((sA M k * px + sB M k * py : Int) : Rat) / ((sC M k : Int) : Rat)) := by
  have cs := LS_CP hs
  have eH := hs.1
  have enx := tmod_nx k0 k1
  have nx := nxI_rng k0 k1
  obtain ⟨x1, x2, x3⟩ := cs k k0 k1
  obtain ⟨y1, y2, y3⟩ := cs _ nx.1 nx.2
  rw [nxI_nxt k0 k1] at y2
  rw [← enx] at y1 y2 y3
  have e9 : (k + 1).tmod H = (k + 1).tmod (M 35 9) := by rw [eH]
  rw [e9] at y1 y2 y3
  have z3 := x3
  have w3 := y3
  unfold RB BP at x3 y3
  have m1 := mb (A := 50000) (B := 5000) (x := M 39 (M 42 ((k + 1).tmod (M 35 9)))) (y := M 40 (M 42 k)) (by omega) (by omega)
  have m2 := mb (A := 50000) (B := 5000) (x := M 39 (M 42 k)) (y := M 40 (M 42 ((k + 1).tmod (M 35 9)))) (by omega) (by omega)
  have m3 := mb (A := 50000) (B := 5000) (x := M 38 (M 42 k)) (y := M 40 (M 42 ((k + 1).tmod (M 35 9)))) (by omega) (by omega)
  have m4 := mb (A := 50000) (B := 5000) (x := M 38 (M 42 ((k + 1).tmod (M 35 9)))) (y := M 40 (M 42 k)) (by omega) (by omega)
  have m5 := mb (A := 50000) (B := 50000) (x := M 38 (M 42 k)) (y := M 39 (M 42 ((k + 1).tmod (M 35 9)))) (by omega) (by omega)
  have m6 := mb (A := 50000) (B := 50000) (x := M 39 (M 42 k)) (y := M 38 (M 42 ((k + 1).tmod (M 35 9)))) (by omega) (by omega)
  have eA' : sA M k = eA (M 38 (M 42 k)) (M 39 (M 42 k)) (M 40 (M 42 k)) (M 38 (M 42 ((k + 1).tmod (M 35 9)))) (M 39 (M 42 ((k + 1).tmod (M 35 9)))) (M 40 (M 42 ((k + 1).tmod (M 35 9)))) := by unfold sA eA; rw [Int.mul_comm (M 39 (M 42 ((k + 1).tmod (M 35 9))))]
  have eB' : sB M k = eB (M 38 (M 42 k)) (M 39 (M 42 k)) (M 40 (M 42 k)) (M 38 (M 42 ((k + 1).tmod (M 35 9)))) (M 39 (M 42 ((k + 1).tmod (M 35 9)))) (M 40 (M 42 ((k + 1).tmod (M 35 9)))) := by unfold sB eB; rw [Int.mul_comm (M 38 (M 42 ((k + 1).tmod (M 35 9))))]
  have eC' : sC M k = eC (M 38 (M 42 k)) (M 39 (M 42 k)) (M 40 (M 42 k)) (M 38 (M 42 ((k + 1).tmod (M 35 9)))) (M 39 (M 42 ((k + 1).tmod (M 35 9)))) (M 40 (M 42 ((k + 1).tmod (M 35 9)))) := rfl
  have px := eC_pos (x := M 38 (M 42 k)) (y := M 39 (M 42 k)) (x' := M 38 (M 42 ((k + 1).tmod (M 35 9)))) (y' := M 39 (M 42 ((k + 1).tmod (M 35 9)))) z3.2.2.1 w3.2.2.1
  have ex : P2 (M 38 (M 42 k)) (M 39 (M 42 k)) (M 40 (M 42 k)) = c k.toNat := x2
  have ey : P2 (M 38 (M 42 ((k + 1).tmod (M 35 9)))) (M 39 (M 42 ((k + 1).tmod (M 35 9)))) (M 40 (M 42 ((k + 1).tmod (M 35 9)))) = c (nxt H.toNat k.toNat) := y2
  refine ⟨⟨x1, y1⟩, ?_, ?_, ?_, ?_, ?_⟩
  · unfold sA; omega
  · unfold sB; omega
  · unfold sC; omega
  · rw [eC', px, ex, ey]
  · intro hc px' py'
    rw [eC'] at hc
    have := gr_int (px := px') (py := py') z3.2.2.1 w3.2.2.1 hc
    rw [ex, ey] at this
    rw [this, eA', eB', eC']
set_option maxRecDepth 100000 in
set_option maxHeartbeats 800000 in
theorem l2_X8_blow (E : av_E) (d : Nat) (M : av_M) (h : Int) (fx fy : Int → Int) (hL : LFm M h fx fy) (h0 : M 35 0 ≤ 12) (H : Int) (c : Nat → pt) (hs : LSm M H c) (u k : Int) (hk : 0 ≤ k ∧ k < H) (hp : 0 < sC M k) (Q : Option av_V → av_M → Prop) (nxt0 : ∀ ab be : Int, ((0 ≤ ab ∧ ab ≤ 100000000000) ∧ (0 < be ∧ be ≤ 5000000000)) → MXc (cvB (k.toNat + 1) 0 h.toNat) (gR H.toNat c (fcn fx fy)) ((ab : Rat) / (be : Rat)) → av_S E (d + 3) mX8_blow 42 [(0, vR 35), (1, vI u), (2, vL ab), (4, vL be), (6, vI (k + 1))] [] M Q) : ∀ (t : Nat) (p ab be : Int), p + t = h → 0 ≤ p → ((0 ≤ ab ∧ ab ≤ 100000000000) ∧ (0 < be ∧ be ≤ 5000000000)) → MXc (cvB k.toNat p.toNat h.toNat) (gR H.toNat c (fcn fx fy)) ((ab : Rat) / (be : Rat)) → av_S E (d + 3) mX8_blow 189 [(0, vR 35), (1, vI u), (2, vL ab), (4, vL be), (6, vI k), (7, vI (M 42 k)), (8, vI (M 42 ((k + 1).tmod (M 35 9)))), (9, vL (sC M k)), (11, vL (sA M k)), (13, vL (sB M k)), (15, vI p)] [] M Q := by
  obtain ⟨eh, h12, hc⟩ := hL
  obtain ⟨_, rA, rB, rC, _, hg⟩ := s_all hs hk.1 hk.2
  intro t
  induction t with
  | zero =>
    intro p ab be hpt p0 bd hx
    have ep : p = h := by omega
    subst ep
    have hx2 := MXc_congr hx (cvB_n k.toNat p.toNat) (fun _ _ _ => rfl)
    refine ax_iload rfl rfl ?_
    refine ax_aloadn rfl rfl ?_
    refine ax_getI (g := 7) rfl fX8_131 rfl rfl rfl rfl ?_
    refine ax_icmp_ge rfl (by omega) (by omega) (fun h195 => ?_) (fun h195 => ?_)
    · refine ax_iinc (ls' := [(0, _), (1, _), (2, _), (4, _), (6, _), (7, _), (8, _), (9, _), (11, _), (13, _), (15, _)]) rfl rfl rfl rfl ?_
      refine ax_goto rfl ?_
      refine ax_pick [0, 1, 2, 3, 4] rfl ?_
      exact nxt0 ab be bd hx2
    · omega
  | succ t ih =>
    intro p ab be hpt p0 bd hx
    obtain ⟨r1, q1, q2, _, _, b1, b2⟩ := hc p p0 (by omega)
    have m1 := mb rA b1
    have m2 := mb rB b2
    have st := cvB_s k.toNat p.toNat h.toNat (by omega)
    have eg0 : (gR H.toNat c (fcn fx fy)) k.toNat p.toNat = (((sA M k * fx p + sB M k * fy p) : Int) : Rat) / ((sC M k : Int) : Rat) := by
      have := hg hp (fx p) (fy p)
      unfold gR fcn
      rw [show ((p.toNat : Nat) : Int) = p by omega]
      exact this
    have es : (p + 1).toNat = p.toNat + 1 := by omega
    have ih2 := ih (p + 1)
    rw [es] at ih2
    have bl := b01_c (ab * sC M k < (sA M k * fx p + sB M k * fy p) * be)
    have ve : sA M k * M 36 (M 41 p) + sB M k * M 37 (M 41 p) = (sA M k * fx p + sB M k * fy p) := by rw [q1, q2]
    refine ax_iload rfl rfl ?_
    refine ax_aloadn rfl rfl ?_
    refine ax_getI (g := 7) rfl fX8_131 rfl rfl rfl rfl ?_
    refine ax_icmp_ge rfl (by omega) (by omega) (fun h195 => ?_) (fun h195 => ?_)
    · omega
    · refine ax_lload rfl rfl ?_
      refine ax_aloadn rfl rfl ?_
      refine ax_getR rfl fX8_7 rfl rfl ?_
      refine ax_aloadn rfl rfl ?_
      refine ax_getR rfl fX8_26 rfl rfl ?_
      refine ax_iload rfl rfl ?_
      refine ax_iald rfl rfl (by omega) ?_
      refine ax_iald rfl rfl (by omega) ?_
      refine ax_i2l rfl (by omega) ?_
      refine ax_lmul rfl ?_
      refine ax_lload rfl rfl ?_
      refine ax_aloadn rfl rfl ?_
      refine ax_getR rfl fX8_13 rfl rfl ?_
      refine ax_aloadn rfl rfl ?_
      refine ax_getR rfl fX8_26 rfl rfl ?_
      refine ax_iload rfl rfl ?_
      refine ax_iald rfl rfl (by omega) ?_
      refine ax_iald rfl rfl (by omega) ?_
      refine ax_i2l rfl (by omega) ?_
      refine ax_lmul rfl ?_
      refine ax_ladd rfl ?_
      refine ax_lstore (ls' := [(0, _), (1, _), (2, _), (4, _), (6, _), (7, _), (8, _), (9, _), (11, _), (13, _), (15, _), (16, _)]) rfl rfl rfl ?_
      refine ax_lload rfl rfl ?_
      refine ax_lconst (w := 0) rfl rfl ?_
      refine ax_lif_le rfl rfl (by omega) (by omega) (fun h236 => ?_) (fun h236 => ?_)
      · refine ax_iinc (ls' := [(0, _), (1, _), (2, _), (4, _), (6, _), (7, _), (8, _), (9, _), (11, _), (13, _), (15, _), (16, _)]) rfl rfl rfl rfl ?_
        refine ax_goto rfl ?_
        first
          | (have hlt : ab * sC M k < (sA M k * fx p + sB M k * fy p) * be := by omega
             have q := (q_lt (x := ab) (w := be) (x' := (sA M k * fx p + sB M k * fy p)) (w' := sC M k) bd.2.1 hp).mpr hlt
             rw [← eg0] at q
             have mx := MXc_take hx st q
             rw [eg0] at mx
             refine ax_pick [0, 1, 2, 3, 4, 5, 6, 7, 8, 9, 10] rfl ?_
             rw [ve]
             exact ih2 _ _ (by omega) (by omega) ⟨⟨by omega, by omega⟩, by omega⟩ mx)
          | (have hle : (sA M k * fx p + sB M k * fy p) * be ≤ ab * sC M k := by
               first
                 | omega
                 | (have z1 : (sA M k * fx p + sB M k * fy p) ≤ 0 := by omega
                    have z2 := Int.mul_le_mul_of_nonneg_right z1 (show 0 ≤ be by omega)
                    have z3 := Int.mul_nonneg bd.1.1 (show 0 ≤ sC M k by omega)
                    omega)
             have q := q_le_of (x := (sA M k * fx p + sB M k * fy p)) (w := sC M k) (x' := ab) (w' := be) hp bd.2.1 hle
             rw [← eg0] at q
             refine ax_pick [0, 1, 2, 3, 4, 5, 6, 7, 8, 9, 10] rfl ?_
             exact ih2 _ _ (by omega) (by omega) bd (MXc_keep hx st q))
      · refine ax_lload rfl rfl ?_
        refine ax_lload rfl rfl ?_
        refine ax_lloadn rfl rfl ?_
        refine ax_lload rfl rfl ?_
        refine ax_callS (as := [_, _, _, _]) rfl sX8_315 hX8_isAbove rfl rfl rfl rfl (by rw [ve]; exact c_X8_isAbove E (d + 2) M (sA M k * fx p + sB M k * fy p) (sC M k) ab be (by omega) (by omega) (by omega) (by omega)) (av_Xk ?_)
        refine ax_if_eq rfl (by omega) (fun h250 => ?_) (fun h250 => ?_)
        · refine ax_iinc (ls' := [(0, _), (1, _), (2, _), (4, _), (6, _), (7, _), (8, _), (9, _), (11, _), (13, _), (15, _), (16, _)]) rfl rfl rfl rfl ?_
          refine ax_goto rfl ?_
          first
            | (have hlt : ab * sC M k < (sA M k * fx p + sB M k * fy p) * be := by omega
               have q := (q_lt (x := ab) (w := be) (x' := (sA M k * fx p + sB M k * fy p)) (w' := sC M k) bd.2.1 hp).mpr hlt
               rw [← eg0] at q
               have mx := MXc_take hx st q
               rw [eg0] at mx
               refine ax_pick [0, 1, 2, 3, 4, 5, 6, 7, 8, 9, 10] rfl ?_
               rw [ve]
               exact ih2 _ _ (by omega) (by omega) ⟨⟨by omega, by omega⟩, by omega⟩ mx)
            | (have hle : (sA M k * fx p + sB M k * fy p) * be ≤ ab * sC M k := by
                 first
                   | omega
                   | (have z1 : (sA M k * fx p + sB M k * fy p) ≤ 0 := by omega
                      have z2 := Int.mul_le_mul_of_nonneg_right z1 (show 0 ≤ be by omega)
                      have z3 := Int.mul_nonneg bd.1.1 (show 0 ≤ sC M k by omega)
                      omega)
               have q := q_le_of (x := (sA M k * fx p + sB M k * fy p)) (w := sC M k) (x' := ab) (w' := be) hp bd.2.1 hle
               rw [← eg0] at q
               refine ax_pick [0, 1, 2, 3, 4, 5, 6, 7, 8, 9, 10] rfl ?_
               exact ih2 _ _ (by omega) (by omega) bd (MXc_keep hx st q))
        · refine ax_lload rfl rfl ?_
          refine ax_lstoren (ls' := [(0, _), (1, _), (2, _), (4, _), (6, _), (7, _), (8, _), (9, _), (11, _), (13, _), (15, _), (16, _)]) rfl rfl rfl ?_
          refine ax_lload rfl rfl ?_
          refine ax_lstore (ls' := [(0, _), (1, _), (2, _), (4, _), (6, _), (7, _), (8, _), (9, _), (11, _), (13, _), (15, _), (16, _)]) rfl rfl rfl ?_
          refine ax_iinc (ls' := [(0, _), (1, _), (2, _), (4, _), (6, _), (7, _), (8, _), (9, _), (11, _), (13, _), (15, _), (16, _)]) rfl rfl rfl rfl ?_
          refine ax_goto rfl ?_
          first
            | (have hlt : ab * sC M k < (sA M k * fx p + sB M k * fy p) * be := by omega
               have q := (q_lt (x := ab) (w := be) (x' := (sA M k * fx p + sB M k * fy p)) (w' := sC M k) bd.2.1 hp).mpr hlt
               rw [← eg0] at q
               have mx := MXc_take hx st q
               rw [eg0] at mx
               refine ax_pick [0, 1, 2, 3, 4, 5, 6, 7, 8, 9, 10] rfl ?_
               rw [ve]
               exact ih2 _ _ (by omega) (by omega) ⟨⟨by omega, by omega⟩, by omega⟩ mx)
            | (have hle : (sA M k * fx p + sB M k * fy p) * be ≤ ab * sC M k := by
                 first
                   | omega
                   | (have z1 : (sA M k * fx p + sB M k * fy p) ≤ 0 := by omega
                      have z2 := Int.mul_le_mul_of_nonneg_right z1 (show 0 ≤ be by omega)
                      have z3 := Int.mul_nonneg bd.1.1 (show 0 ≤ sC M k by omega)
                      omega)
               have q := q_le_of (x := (sA M k * fx p + sB M k * fy p)) (w := sC M k) (x' := ab) (w' := be) hp bd.2.1 hle
               rw [← eg0] at q
               refine ax_pick [0, 1, 2, 3, 4, 5, 6, 7, 8, 9, 10] rfl ?_
               exact ih2 _ _ (by omega) (by omega) bd (MXc_keep hx st q))
set_option maxRecDepth 100000 in
set_option maxHeartbeats 800000 in
theorem l1_X8_blow (E : av_E) (d : Nat) (M : av_M) (h : Int) (fx fy : Int → Int) (hL : LFm M h fx fy) (h0 : M 35 0 ≤ 12) (H : Int) (c : Nat → pt) (hs : LSm M H c) (u : Int) (hu : -2147483648 ≤ u ∧ u < 2147483648) (H0 : 0 < H) : ∀ (t : Nat) (k ab be : Int), k + t = H → 0 ≤ k → (∀ i, 0 ≤ i → i < k → 0 < sC M i) → ((0 ≤ ab ∧ ab ≤ 100000000000) ∧ (0 < be ∧ be ≤ 5000000000)) → MXc (cvB k.toNat 0 h.toNat) (gR H.toNat c (fcn fx fy)) ((ab : Rat) / (be : Rat)) → av_S E (d + 3) mX8_blow 42 [(0, vR 35), (1, vI u), (2, vL ab), (4, vL be), (6, vI k)] [] M (fun res M' => ((¬ RNr H c ∧ res = some (vL (-900000003))) ∨ (RNr H c ∧ ∃ r, res = some (vL (tl r u)) ∧ MXc (cvB H.toNat 0 h.toNat) (gR H.toNat c (fcn fx fy)) r)) ∧ M' = M) := by
  have eH := hs.1
  have H12 := hs.2.1
  intro t
  induction t with
  | zero =>
    intro k ab be hk k0 hpos bd hx
    have ek : k = H := by omega
    subst ek
    have hR : RNr k c := ⟨H0, fun i hi => by
      have := (s_all hs (k := (i : Int)) (by omega) hi).2.2.2.2.1
      rw [Int.toNat_natCast] at this
      exact this.mp (hpos i (by omega) hi)⟩
    refine ax_iload rfl rfl ?_
    refine ax_aloadn rfl rfl ?_
    refine ax_getI (g := 9) rfl fX8_287 rfl rfl rfl rfl ?_
    refine ax_icmp_ge rfl (by omega) (by omega) (fun h48 => ?_) (fun h48 => ?_)
    · refine ax_lloadn rfl rfl ?_
      refine ax_lload rfl rfl ?_
      refine ax_iloadn rfl rfl ?_
      refine ax_callS (as := [_, _, _]) rfl sX8_265 hX8_told rfl rfl rfl rfl (c_R_told E (d + 1) M ab be u (by omega) (by omega) hu) (av_Xk ?_)
      refine ax_lret rfl rfl ?_
      exact ⟨Or.inr ⟨hR, _, rfl, hx⟩, rfl⟩
    · omega
  | succ t ih =>
    intro k ab be hk k0 hpos bd hx
    obtain ⟨⟨r1, r2⟩, rA, rB, rC, hp, hg⟩ := s_all hs k0 (show k < H by omega)
    have nx := nxI_rng k0 (show k < H by omega)
    rw [← tmod_nx k0 (show k < H by omega), ← eH] at nx
    have eCC : M 38 (M 42 k) * M 39 (M 42 ((k + 1).tmod (M 35 9))) - M 39 (M 42 k) * M 38 (M 42 ((k + 1).tmod (M 35 9))) = sC M k := rfl
    have k2 := fun hpp : 0 < sC M k => l2_X8_blow E d M h fx fy hL h0 H c hs u k ⟨k0, by omega⟩ hpp _ (fun ab' be' bd' hx' => ih (k + 1) ab' be' (by omega) (by omega) (fun i i0 i1 => by
      by_cases q : i = k
      · rw [q]; exact hpp
      · exact hpos i i0 (by omega)) bd' (by rw [show (k + 1).toNat = k.toNat + 1 by omega]; exact hx')) h.toNat 0 ab be (by have := hL.2.1; omega) (by omega) bd hx
    refine ax_iload rfl rfl ?_
    refine ax_aloadn rfl rfl ?_
    refine ax_getI (g := 9) rfl fX8_287 rfl rfl rfl rfl ?_
    refine ax_icmp_ge rfl (by omega) (by omega) (fun h48 => ?_) (fun h48 => ?_)
    · omega
    · refine ax_aloadn rfl rfl ?_
      refine ax_getR rfl fX8_29 rfl rfl ?_
      refine ax_iload rfl rfl ?_
      refine ax_iald rfl rfl (by omega) ?_
      refine ax_istore (ls' := [(0, _), (1, _), (2, _), (4, _), (6, _), (7, _)]) rfl rfl rfl ?_
      refine ax_aloadn rfl rfl ?_
      refine ax_getR rfl fX8_29 rfl rfl ?_
      refine ax_iload rfl rfl ?_
      refine ax_iconst rfl ?_
      refine ax_iadd rfl ?_
      refine ax_aloadn rfl rfl ?_
      refine ax_getI (g := 9) rfl fX8_287 rfl rfl rfl rfl ?_
      refine ax_irem rfl (by omega) (by omega) (by omega) ?_
      refine ax_iald rfl rfl (by omega) ?_
      refine ax_istore (ls' := [(0, _), (1, _), (2, _), (4, _), (6, _), (7, _), (8, _)]) rfl rfl rfl ?_
      refine ax_aloadn rfl rfl ?_
      refine ax_getR rfl fX8_16 rfl rfl ?_
      refine ax_iload rfl rfl ?_
      refine ax_lald rfl rfl (by omega) ?_
      refine ax_aloadn rfl rfl ?_
      refine ax_getR rfl fX8_20 rfl rfl ?_
      refine ax_iload rfl rfl ?_
      refine ax_lald rfl rfl (by omega) ?_
      refine ax_lmul rfl ?_
      refine ax_aloadn rfl rfl ?_
      refine ax_getR rfl fX8_20 rfl rfl ?_
      refine ax_iload rfl rfl ?_
      refine ax_lald rfl rfl (by omega) ?_
      refine ax_aloadn rfl rfl ?_
      refine ax_getR rfl fX8_16 rfl rfl ?_
      refine ax_iload rfl rfl ?_
      refine ax_lald rfl rfl (by omega) ?_
      refine ax_lmul rfl ?_
      refine ax_lsub rfl ?_
      refine ax_lstore (ls' := [(0, _), (1, _), (2, _), (4, _), (6, _), (7, _), (8, _), (9, _)]) rfl rfl rfl ?_
      refine ax_lload rfl rfl ?_
      refine ax_lconst (w := 0) rfl rfl ?_
      refine ax_lif_gt rfl rfl (by omega) (by omega) (fun h112 => ?_) (fun h112 => ?_)
      · refine ax_aloadn rfl rfl ?_
        refine ax_getR rfl fX8_20 rfl rfl ?_
        refine ax_iload rfl rfl ?_
        refine ax_lald rfl rfl (by omega) ?_
        refine ax_aloadn rfl rfl ?_
        refine ax_getR rfl fX8_23 rfl rfl ?_
        refine ax_iload rfl rfl ?_
        refine ax_lald rfl rfl (by omega) ?_
        refine ax_lmul rfl ?_
        refine ax_aloadn rfl rfl ?_
        refine ax_getR rfl fX8_20 rfl rfl ?_
        refine ax_iload rfl rfl ?_
        refine ax_lald rfl rfl (by omega) ?_
        refine ax_aloadn rfl rfl ?_
        refine ax_getR rfl fX8_23 rfl rfl ?_
        refine ax_iload rfl rfl ?_
        refine ax_lald rfl rfl (by omega) ?_
        refine ax_lmul rfl ?_
        refine ax_lsub rfl ?_
        refine ax_lstore (ls' := [(0, _), (1, _), (2, _), (4, _), (6, _), (7, _), (8, _), (9, _), (11, _)]) rfl rfl rfl ?_
        refine ax_aloadn rfl rfl ?_
        refine ax_getR rfl fX8_16 rfl rfl ?_
        refine ax_iload rfl rfl ?_
        refine ax_lald rfl rfl (by omega) ?_
        refine ax_aloadn rfl rfl ?_
        refine ax_getR rfl fX8_23 rfl rfl ?_
        refine ax_iload rfl rfl ?_
        refine ax_lald rfl rfl (by omega) ?_
        refine ax_lmul rfl ?_
        refine ax_aloadn rfl rfl ?_
        refine ax_getR rfl fX8_16 rfl rfl ?_
        refine ax_iload rfl rfl ?_
        refine ax_lald rfl rfl (by omega) ?_
        refine ax_aloadn rfl rfl ?_
        refine ax_getR rfl fX8_23 rfl rfl ?_
        refine ax_iload rfl rfl ?_
        refine ax_lald rfl rfl (by omega) ?_
        refine ax_lmul rfl ?_
        refine ax_lsub rfl ?_
        refine ax_lstore (ls' := [(0, _), (1, _), (2, _), (4, _), (6, _), (7, _), (8, _), (9, _), (11, _), (13, _)]) rfl rfl rfl ?_
        refine ax_iconst rfl ?_
        refine ax_istore (ls' := [(0, _), (1, _), (2, _), (4, _), (6, _), (7, _), (8, _), (9, _), (11, _), (13, _), (15, _)]) rfl rfl rfl ?_
        exact k2 (by omega)
      · refine ax_ldc2 (z := (-900000003)) rfl kX8_293 rfl ?_
        refine ax_lret rfl rfl ?_
        refine ⟨Or.inl ⟨fun q => ?_, rfl⟩, rfl⟩
        have z := q.2 k.toNat (by omega)
        have := hp.mpr z
        omega
theorem RNr_3 {H : Int} {c : Nat → pt} (h : RNr H c) : 3 ≤ H := by
  obtain ⟨a, b⟩ := h
  apply Classical.byContradiction
  intro q
  rcases (show H = 1 ∨ H = 2 by omega) with e | e
  · subst e
    have z := b 0 (by omega)
    have n0 : nxt (1 : Int).toNat 0 = 0 := by decide
    rw [n0, cr_aa] at z
    exact absurd z (by grind)
  · subst e
    have z := b 0 (by omega)
    have y := b 1 (by omega)
    have n0 : nxt (2 : Int).toNat 0 = 1 := by decide
    have n1 : nxt (2 : Int).toNat 1 = 0 := by decide
    rw [n0, cr_o] at z
    rw [n1, cr_o] at y
    grind
set_option maxRecDepth 100000 in
set_option maxHeartbeats 800000 in
theorem c_X8_blow (E : av_E) (d : Nat) (M : av_M) (hR : RWm M) (on : Int) (hon : ONm M on) (H : Int) (c : Nat → pt) (hH : Snd (RW M) (Sg on) → 0 ≤ H ∧ Hull (Shd (VX (RW M) (Sg on))) H.toNat c) (hP : RPm M) (h : Int) (fx fy : Int → Int) (hG : FG (M 35 0) (M 36) (M 37) h fx fy) (u : Int) (hiu : -2147483648 ≤ u ∧ u < 2147483648) : av_Mt E (d + 8) mX8_blow [vR 35, vI u] M (fun res M' => ((¬ (Snd (RW M) (Sg on) ∧ M 35 0 ≠ 0 ∧ RNr H c) ∧ res = some (vL (-900000003))) ∨ ((Snd (RW M) (Sg on) ∧ M 35 0 ≠ 0 ∧ RNr H c) ∧ ∃ r, res = some (vL (tl r u)) ∧ MXc (cvB H.toNat 0 h.toNat) (gR H.toNat c (fcn fx fy)) r)) ∧ RQ M M') := by
  have hn0 := hP.1
  refine av_enter hX8_blow oX8_blow rfl rfl ?_
  refine ax_aloadn rfl rfl ?_
  refine ax_aloadn rfl rfl ?_
  refine ax_callV (as := []) rfl vX8_255 hX8_setOn rfl rfl rfl rfl rfl (c_X8_setOn1 E (d + 7) M hR on hon) (av_Xk ?_)
  refine ax_callV (as := [_]) rfl vX8_290 hX8_layShadow rfl rfl rfl rfl rfl (c_X8_layShadow E (d + 2) M hR on hon.r hon.t H c hH) (fun r5 M5 hr5 => ?_)
  obtain ⟨rfl, hs, hk⟩ := hr5
  have hq := LSk.q hk
  have bs := b01_rng (Snd (RW M) (Sg on))
  refine ax_if_eq rfl (by omega) (fun h8 => ?_) (fun h8 => ?_)
  · refine ax_ldc2 (z := (-900000003)) rfl kX8_293 rfl ?_
    refine ax_lret rfl rfl ?_
    refine ⟨Or.inl ⟨fun w => ?_, rfl⟩, hq⟩
    first
      | exact b01_eq (P := Snd (RW M) (Sg on)) (by omega) w.1
      | (have := w.2.1; omega)
      | (have := RNr_3 w.2.2; omega)
  · have e50 : M5 35 0 = M 35 0 := hq.2.1 0 (by omega)
    have hS := b01_ne (P := Snd (RW M) (Sg on)) (by omega)
    have hs5 := hs hS
    have eH5 := hs5.1
    have H12 := hs5.2.1
    refine ax_aloadn rfl rfl ?_
    refine ax_getI (g := 0) rfl fX8_101 rfl rfl rfl rfl ?_
    refine ax_if_eq rfl (by omega) (fun h15 => ?_) (fun h15 => ?_)
    · refine ax_ldc2 (z := (-900000003)) rfl kX8_293 rfl ?_
      refine ax_lret rfl rfl ?_
      refine ⟨Or.inl ⟨fun w => ?_, rfl⟩, hq⟩
      first
        | exact b01_eq (P := Snd (RW M) (Sg on)) (by omega) w.1
        | (have := w.2.1; omega)
        | (have := RNr_3 w.2.2; omega)
    · refine ax_aloadn rfl rfl ?_
      refine ax_getI (g := 9) rfl fX8_287 rfl rfl rfl rfl ?_
      refine ax_iconst rfl ?_
      refine ax_icmp_ge rfl (by omega) (by omega) (fun h23 => ?_) (fun h23 => ?_)
      · refine ax_aloadn rfl rfl ?_
        refine ax_callV (as := []) rfl vX8_134 hX8_layFigure rfl rfl rfl rfl rfl (c_X8_layFigure E (d + 3) M5 (RPm_k hP hq) h fx fy (FG_k hG hq)) (fun r31 M31 hr31 => ?_)
        obtain ⟨rfl, hL, hk2⟩ := hr31
        have hq2 := hq.tr (LFk.q hk2)
        have e0 : M31 35 0 = M 35 0 := hq2.2.1 0 (by omega)
        have hs1 := LS_keep hs5 hk2
        refine ax_lconst (w := 0) rfl rfl ?_
        refine ax_lstoren (ls' := [(0, _), (1, _), (2, _)]) rfl rfl rfl ?_
        refine ax_lconst (w := 1) rfl rfl ?_
        refine ax_lstore (ls' := [(0, _), (1, _), (2, _), (4, _)]) rfl rfl rfl ?_
        refine ax_iconst rfl ?_
        refine ax_istore (ls' := [(0, _), (1, _), (2, _), (4, _), (6, _)]) rfl rfl rfl ?_
        refine av_Sw (l1_X8_blow E (d + 5) M31 h fx fy hL (by omega) H c hs1 u (by omega) (by omega) H.toNat 0 0 1 (by omega) (by omega) (fun i i0 i1 => by omega) (by omega) ?_) (fun r M' q => ?_)
        · have e : (((0 : Int) : Rat) / ((1 : Int) : Rat)) = 0 := by grind
          rw [e]
          exact MXc_congr (MXc_0 _) (fun i p => by unfold cvB; omega) (fun _ _ _ => rfl)
        · obtain ⟨q1, q2⟩ := q
          refine ⟨?_, by rw [q2]; exact hq2⟩
          rcases q1 with ⟨z1, z2⟩ | ⟨z1, z2⟩
          · exact Or.inl ⟨fun w => z1 w.2.2, z2⟩
          · exact Or.inr ⟨⟨hS, by omega, z1⟩, z2⟩
      · refine ax_ldc2 (z := (-900000003)) rfl kX8_293 rfl ?_
        refine ax_lret rfl rfl ?_
        refine ⟨Or.inl ⟨fun w => ?_, rfl⟩, hq⟩
        first
          | exact b01_eq (P := Snd (RW M) (Sg on)) (by omega) w.1
          | (have := w.2.1; omega)
          | (have := RNr_3 w.2.2; omega)
