/-! ===== the reference: outside of an outline ===== -/
def CP (M : av_M) (F : Nat) (h : Int) (c : Nat → pt) : Prop := ∀ i, 0 ≤ i → i < h → (0 ≤ M F i ∧ M F i < 140) ∧ rp M (M F i) = c i.toNat ∧ RB M (M F i)
def IOb (h : Int) (c : Nat → pt) (q : pt) (i : Int) : Prop := ∀ k : Nat, (k : Int) < i → 0 ≤ cr (c k) (c (nxt h.toNat k)) q
theorem IOb_s {h i : Int} {c : Nat → pt} {q : pt} (i0 : 0 ≤ i) : IOb h c q (i + 1) ↔ IOb h c q i ∧ 0 ≤ cr (c i.toNat) (c (nxt h.toNat i.toNat)) q := by
  constructor
  · intro H
    exact ⟨fun k hk => H k (by omega), H i.toNat (by omega)⟩
  · rintro ⟨H, z⟩ k hk
    by_cases e : k = i.toNat
    · rw [e]; exact z
    · exact H k (by omega)
theorem b01_n {P : Prop} : b01 (¬ P) = 1 - b01 P := by
  by_cases q : P
  · rw [b01_t q, b01_f (fun z => z q)]; rfl
  · rw [b01_f q, b01_t q]; rfl
set_option maxRecDepth 100000 in
set_option maxHeartbeats 800000 in
theorem s1_F_out (E : av_E) (d : Nat) (M : av_M) (p : Int) (hp : 0 ≤ p ∧ p < 140) (bp : RB M p) (h : Int) (c : Nat → pt) (hc : CP M 41 h c) (hh : 0 ≤ h ∧ h ≤ 12) (e : h = 1) : av_S E (d + 3) mX8_isOutside 11 [(0, vR 35), (1, vI p), (2, vI h), (3, vR 41)] [] M (av_X (some (vI (b01 (¬ InO h.toNat c (rp M p))))) M) := by
  obtain ⟨x1, x2, x3⟩ := hc 0 (by omega) (by omega)
  have i1 := InO_1 (c := c) (p := rp M p) (show h.toNat = 1 by omega)
  have x2' : rp M (M 41 0) = c 0 := x2
  rw [← x2'] at i1
  have b := b01_rng (rp M p = rp M (M 41 0))
  rw [b01_n, b01_iff i1]
  refine ax_aloadn rfl rfl ?_
  refine ax_iloadn rfl rfl ?_
  refine ax_aloadn rfl rfl ?_
  refine ax_iconst rfl ?_
  refine ax_iald rfl rfl (by omega) ?_
  refine ax_callV (as := [_, _]) rfl vX8_114 hX8_isOne rfl rfl rfl rfl rfl (c_X8_isOne E (d + 1) M p (M 41 0) (by omega) (by omega) bp x3) (av_Xk ?_)
  refine ax_if_ne rfl (by omega) (fun h19 => ?_) (fun h19 => ?_)
  · refine ax_iconst rfl ?_
    refine ax_zret rfl rfl (by omega) ?_
    exact av_rI (by omega)
  · refine ax_iconst rfl ?_
    refine ax_goto rfl ?_
    refine ax_zret rfl rfl (by omega) ?_
    exact av_rI (by omega)
set_option maxRecDepth 100000 in
set_option maxHeartbeats 800000 in
theorem s2_F_out (E : av_E) (d : Nat) (M : av_M) (p : Int) (hp : 0 ≤ p ∧ p < 140) (bp : RB M p) (h : Int) (c : Nat → pt) (hc : CP M 41 h c) (hh : 0 ≤ h ∧ h ≤ 12) (e : h = 2) : av_S E (d + 3) mX8_isOutside 33 [(0, vR 35), (1, vI p), (2, vI h), (3, vR 41)] [] M (av_X (some (vI (b01 (¬ InO h.toNat c (rp M p))))) M) := by
  obtain ⟨x1, x2, x3⟩ := hc 0 (by omega) (by omega)
  obtain ⟨y1, y2, y3⟩ := hc 1 (by omega) (by omega)
  have i2 := InO_2 (c := c) (p := rp M p) (show h.toNat = 2 by omega)
  have x2' : rp M (M 41 0) = c 0 := x2
  have y2' : rp M (M 41 1) = c 1 := y2
  rw [← x2', ← y2'] at i2
  have dr := D3_rng x3 y3 bp
  have dz : D3 (M 38 (M 41 0)) (M 39 (M 41 0)) (M 40 (M 41 0)) (M 38 (M 41 1)) (M 39 (M 41 1)) (M 40 (M 41 1)) (M 38 p) (M 39 p) (M 40 p) = 0 ↔ cr (rp M (M 41 0)) (rp M (M 41 1)) (rp M p) = 0 := P2_zero x3.2.2.1 y3.2.2.1 bp.2.2.1
  rw [← dz] at i2
  have c1 := b01_c (rp M p = rp M (M 41 0))
  have c2 := b01_c (rp M p = rp M (M 41 1))
  have c3 := b01_c ((lx (rp M (M 41 0)) (rp M p) ∧ lx (rp M p) (rp M (M 41 1))) ∨ (lx (rp M (M 41 1)) (rp M p) ∧ lx (rp M p) (rp M (M 41 0))))
  have i3 : InO h.toNat c (rp M p) ↔ D3 (M 38 (M 41 0)) (M 39 (M 41 0)) (M 40 (M 41 0)) (M 38 (M 41 1)) (M 39 (M 41 1)) (M 40 (M 41 1)) (M 38 p) (M 39 p) (M 40 p) = 0 ∧ (b01 (rp M p = rp M (M 41 0)) = 1 ∨ b01 (rp M p = rp M (M 41 1)) = 1 ∨ b01 ((lx (rp M (M 41 0)) (rp M p) ∧ lx (rp M p) (rp M (M 41 1))) ∨ (lx (rp M (M 41 1)) (rp M p) ∧ lx (rp M p) (rp M (M 41 0)))) = 1) := by
    rw [i2]
    refine and_congr Iff.rfl (or_congr ?_ (or_congr ?_ ?_))
    · exact ⟨fun q => b01_t q, fun q => b01_ne (by omega)⟩
    · exact ⟨fun q => b01_t q, fun q => b01_ne (by omega)⟩
    · exact ⟨fun q => b01_t q, fun q => b01_ne (P := ((lx (rp M (M 41 0)) (rp M p) ∧ lx (rp M p) (rp M (M 41 1))) ∨ (lx (rp M (M 41 1)) (rp M p) ∧ lx (rp M p) (rp M (M 41 0))))) (by omega)⟩
  have c1' : b01 (rp M p = rp M (M 41 0)) = 0 ∨ b01 (rp M p = rp M (M 41 0)) = 1 := b01_rng _
  have c2' : b01 (rp M p = rp M (M 41 1)) = 0 ∨ b01 (rp M p = rp M (M 41 1)) = 1 := b01_rng _
  have c3' : b01 ((lx (rp M (M 41 0)) (rp M p) ∧ lx (rp M p) (rp M (M 41 1))) ∨ (lx (rp M (M 41 1)) (rp M p) ∧ lx (rp M p) (rp M (M 41 0)))) = 0 ∨ b01 ((lx (rp M (M 41 0)) (rp M p) ∧ lx (rp M p) (rp M (M 41 1))) ∨ (lx (rp M (M 41 1)) (rp M p) ∧ lx (rp M p) (rp M (M 41 0)))) = 1 := b01_rng _
  clear c1 c2 c3
  refine ax_aloadn rfl rfl ?_
  refine ax_aloadn rfl rfl ?_
  refine ax_iconst rfl ?_
  refine ax_iald rfl rfl (by omega) ?_
  refine ax_aloadn rfl rfl ?_
  refine ax_iconst rfl ?_
  refine ax_iald rfl rfl (by omega) ?_
  refine ax_iloadn rfl rfl ?_
  refine ax_callV (as := [_, _, _]) rfl vX8_119 hX8_side rfl rfl rfl rfl rfl (c_X8_side E (d + 2) M (M 41 0) (M 41 1) p (by omega) (by omega) (by omega)) (av_Xk ?_)
  refine ax_lconst (w := 0) rfl rfl ?_
  refine ax_lif_ne rfl rfl (by omega) (by omega) (fun h45 => ?_) (fun h45 => ?_)
  · refine ax_iconst rfl ?_
    refine ax_istore (ls' := [(0, _), (1, _), (2, _), (3, _), (4, _)]) rfl rfl rfl ?_
    refine ax_iload rfl rfl ?_
    refine ax_if_ne rfl (by omega) (fun h94 => ?_) (fun h94 => ?_)
    · refine ax_iconst rfl ?_
      refine ax_zret rfl rfl (by omega) ?_
      first
        | omega
        | exact av_rI (b01_t (fun z => by have := i3.mp z; omega)).symm
        | exact av_rI (b01_f (fun z => z (i3.mpr (by omega)))).symm
    · refine ax_iconst rfl ?_
      refine ax_goto rfl ?_
      refine ax_zret rfl rfl (by omega) ?_
      first
        | omega
        | exact av_rI (b01_t (fun z => by have := i3.mp z; omega)).symm
        | exact av_rI (b01_f (fun z => z (i3.mpr (by omega)))).symm
  · refine ax_aloadn rfl rfl ?_
    refine ax_iloadn rfl rfl ?_
    refine ax_aloadn rfl rfl ?_
    refine ax_iconst rfl ?_
    refine ax_iald rfl rfl (by omega) ?_
    refine ax_callV (as := [_, _]) rfl vX8_114 hX8_isOne rfl rfl rfl rfl rfl (c_X8_isOne E (d + 1) M p (M 41 0) (by omega) (by omega) bp x3) (av_Xk ?_)
    refine ax_if_ne rfl (by omega) (fun h57 => ?_) (fun h57 => ?_)
    · refine ax_iconst rfl ?_
      refine ax_goto rfl ?_
      refine ax_istore (ls' := [(0, _), (1, _), (2, _), (3, _), (4, _)]) rfl rfl rfl ?_
      refine ax_iload rfl rfl ?_
      refine ax_if_ne rfl (by omega) (fun h94 => ?_) (fun h94 => ?_)
      · refine ax_iconst rfl ?_
        refine ax_zret rfl rfl (by omega) ?_
        first
          | omega
          | exact av_rI (b01_t (fun z => by have := i3.mp z; omega)).symm
          | exact av_rI (b01_f (fun z => z (i3.mpr (by omega)))).symm
      · refine ax_iconst rfl ?_
        refine ax_goto rfl ?_
        refine ax_zret rfl rfl (by omega) ?_
        first
          | omega
          | exact av_rI (b01_t (fun z => by have := i3.mp z; omega)).symm
          | exact av_rI (b01_f (fun z => z (i3.mpr (by omega)))).symm
    · refine ax_aloadn rfl rfl ?_
      refine ax_iloadn rfl rfl ?_
      refine ax_aloadn rfl rfl ?_
      refine ax_iconst rfl ?_
      refine ax_iald rfl rfl (by omega) ?_
      refine ax_callV (as := [_, _]) rfl vX8_114 hX8_isOne rfl rfl rfl rfl rfl (c_X8_isOne E (d + 1) M p (M 41 1) (by omega) (by omega) bp y3) (av_Xk ?_)
      refine ax_if_ne rfl (by omega) (fun h68 => ?_) (fun h68 => ?_)
      · refine ax_iconst rfl ?_
        refine ax_goto rfl ?_
        refine ax_istore (ls' := [(0, _), (1, _), (2, _), (3, _), (4, _)]) rfl rfl rfl ?_
        refine ax_iload rfl rfl ?_
        refine ax_if_ne rfl (by omega) (fun h94 => ?_) (fun h94 => ?_)
        · refine ax_iconst rfl ?_
          refine ax_zret rfl rfl (by omega) ?_
          first
            | omega
            | exact av_rI (b01_t (fun z => by have := i3.mp z; omega)).symm
            | exact av_rI (b01_f (fun z => z (i3.mpr (by omega)))).symm
        · refine ax_iconst rfl ?_
          refine ax_goto rfl ?_
          refine ax_zret rfl rfl (by omega) ?_
          first
            | omega
            | exact av_rI (b01_t (fun z => by have := i3.mp z; omega)).symm
            | exact av_rI (b01_f (fun z => z (i3.mpr (by omega)))).symm
      · refine ax_aloadn rfl rfl ?_
        refine ax_aloadn rfl rfl ?_
        refine ax_iconst rfl ?_
        refine ax_iald rfl rfl (by omega) ?_
        refine ax_iloadn rfl rfl ?_
        refine ax_aloadn rfl rfl ?_
        refine ax_iconst rfl ?_
        refine ax_iald rfl rfl (by omega) ?_
        refine ax_callV (as := [_, _, _]) rfl vX8_123 hX8_isBetween rfl rfl rfl rfl rfl (c_X8_isBetween E d M (M 41 0) p (M 41 1) (by omega) (by omega) (by omega) x3 bp y3) (av_Xk ?_)
        refine ax_if_eq rfl (by omega) (fun h82 => ?_) (fun h82 => ?_)
        · refine ax_iconst rfl ?_
          refine ax_istore (ls' := [(0, _), (1, _), (2, _), (3, _), (4, _)]) rfl rfl rfl ?_
          refine ax_iload rfl rfl ?_
          refine ax_if_ne rfl (by omega) (fun h94 => ?_) (fun h94 => ?_)
          · refine ax_iconst rfl ?_
            refine ax_zret rfl rfl (by omega) ?_
            first
              | omega
              | exact av_rI (b01_t (fun z => by have := i3.mp z; omega)).symm
              | exact av_rI (b01_f (fun z => z (i3.mpr (by omega)))).symm
          · refine ax_iconst rfl ?_
            refine ax_goto rfl ?_
            refine ax_zret rfl rfl (by omega) ?_
            first
              | omega
              | exact av_rI (b01_t (fun z => by have := i3.mp z; omega)).symm
              | exact av_rI (b01_f (fun z => z (i3.mpr (by omega)))).symm
        · refine ax_iconst rfl ?_
          refine ax_goto rfl ?_
          refine ax_istore (ls' := [(0, _), (1, _), (2, _), (3, _), (4, _)]) rfl rfl rfl ?_
          refine ax_iload rfl rfl ?_
          refine ax_if_ne rfl (by omega) (fun h94 => ?_) (fun h94 => ?_)
          · refine ax_iconst rfl ?_
            refine ax_zret rfl rfl (by omega) ?_
            first
              | omega
              | exact av_rI (b01_t (fun z => by have := i3.mp z; omega)).symm
              | exact av_rI (b01_f (fun z => z (i3.mpr (by omega)))).symm
          · refine ax_iconst rfl ?_
            refine ax_goto rfl ?_
            refine ax_zret rfl rfl (by omega) ?_
            first
              | omega
              | exact av_rI (b01_t (fun z => by have := i3.mp z; omega)).symm
              | exact av_rI (b01_f (fun z => z (i3.mpr (by omega)))).symm
set_option maxRecDepth 100000 in
set_option maxHeartbeats 800000 in
theorem l3_F_out (E : av_E) (d : Nat) (M : av_M) (p : Int) (hp : 0 ≤ p ∧ p < 140) (bp : RB M p) (h : Int) (c : Nat → pt) (hc : CP M 41 h c) (hh : 0 ≤ h ∧ h ≤ 12) (e : 3 ≤ h) : ∀ (t : Nat) (i : Int), i + t = h → 0 ≤ i → av_S E (d + 3) mX8_isOutside 109 [(0, vR 35), (1, vI p), (2, vI h), (3, vR 41), (4, vI (1 - b01 (IOb h c (rp M p) i))), (5, vI i)] [] M (av_X (some (vI (b01 (¬ InO h.toNat c (rp M p))))) M) := by
  have i3 := InO_3 (c := c) (p := rp M p) (show 3 ≤ h.toNat by omega)
  have eI : InO h.toNat c (rp M p) ↔ IOb h c (rp M p) h := by
    rw [i3]
    exact ⟨fun H k hk => H k (by omega), fun H k hk => H k (by omega)⟩
  rw [b01_n, b01_iff eI]
  intro t
  induction t with
  | zero =>
    intro i hi i0
    have ei : i = h := by omega
    subst ei
    have b := b01_rng (IOb i c (rp M p) i)
    refine ax_iload rfl rfl ?_
    refine ax_iloadn rfl rfl ?_
    refine ax_icmp_ge rfl (by omega) (by omega) (fun h112 => ?_) (fun h112 => ?_)
    · refine ax_iload rfl rfl ?_
      refine ax_zret rfl rfl (by omega) ?_
      exact av_rI rfl
    · omega
  | succ t ih =>
    intro i hi i0
    have ih2 := ih (i + 1) (by omega) (by omega)
    have st := IOb_s (h := h) (c := c) (q := rp M p) i0
    have b := b01_rng (IOb h c (rp M p) i)
    have enx := tmod_nx i0 (show i < h by omega)
    have nx := nxI_rng i0 (show i < h by omega)
    obtain ⟨x1, x2, x3⟩ := hc i i0 (by omega)
    obtain ⟨y1, y2, y3⟩ := hc _ nx.1 nx.2
    rw [nxI_nxt i0 (by omega)] at y2
    rw [← enx] at y1 y2 y3 nx
    have dr := D3_rng x3 y3 bp
    have dn : 0 ≤ D3 (M 38 (M 41 i)) (M 39 (M 41 i)) (M 40 (M 41 i)) (M 38 (M 41 ((i + 1).tmod h))) (M 39 (M 41 ((i + 1).tmod h))) (M 40 (M 41 ((i + 1).tmod h))) (M 38 p) (M 39 p) (M 40 p) ↔ 0 ≤ cr (c i.toNat) (c (nxt h.toNat i.toNat)) (rp M p) := by rw [← x2, ← y2]; exact P2_nn x3.2.2.1 y3.2.2.1 bp.2.2.1
    rw [← dn] at st
    refine ax_iload rfl rfl ?_
    refine ax_iloadn rfl rfl ?_
    refine ax_icmp_ge rfl (by omega) (by omega) (fun h112 => ?_) (fun h112 => ?_)
    · omega
    · refine ax_iload rfl rfl ?_
      refine ax_if_ne rfl (by omega) (fun h117 => ?_) (fun h117 => ?_)
      · refine ax_iconst rfl ?_
        refine ax_goto rfl ?_
        refine ax_istore (ls' := [(0, _), (1, _), (2, _), (3, _), (4, _), (5, _)]) rfl rfl rfl ?_
        refine ax_iinc (ls' := [(0, _), (1, _), (2, _), (3, _), (4, _), (5, _)]) rfl rfl rfl rfl ?_
        refine ax_goto rfl ?_
        first
          | omega
          | (have e0 : b01 (IOb h c (rp M p) i) = 0 := by omega
             have e1 : b01 (IOb h c (rp M p) (i + 1)) = 0 := b01_f (fun q => b01_eq e0 (st.mp q).1)
             rw [e1] at ih2
             exact ih2)
          | (have e0 : b01 (IOb h c (rp M p) i) = 1 := by omega
             have e1 : b01 (IOb h c (rp M p) (i + 1)) = 0 := b01_f (fun q => by have := (st.mp q).2; omega)
             rw [e1] at ih2
             exact ih2)
          | (have e0 : b01 (IOb h c (rp M p) i) = 1 := by omega
             have e1 : b01 (IOb h c (rp M p) (i + 1)) = 1 := b01_t (st.mpr ⟨b01_ne (by omega), by omega⟩)
             rw [e1] at ih2
             exact ih2)
      · refine ax_aloadn rfl rfl ?_
        refine ax_aloadn rfl rfl ?_
        refine ax_iload rfl rfl ?_
        refine ax_iald rfl rfl (by omega) ?_
        refine ax_aloadn rfl rfl ?_
        refine ax_iload rfl rfl ?_
        refine ax_iconst rfl ?_
        refine ax_iadd rfl ?_
        refine ax_iloadn rfl rfl ?_
        refine ax_irem rfl (by omega) (by omega) (by omega) ?_
        refine ax_iald rfl rfl (by omega) ?_
        refine ax_iloadn rfl rfl ?_
        refine ax_callV (as := [_, _, _]) rfl vX8_119 hX8_side rfl rfl rfl rfl rfl (c_X8_side E (d + 2) M (M 41 i) (M 41 ((i + 1).tmod h)) p (by omega) (by omega) (by omega)) (av_Xk ?_)
        refine ax_lconst (w := 0) rfl rfl ?_
        refine ax_lif_ge rfl rfl (by omega) (by omega) (fun h138 => ?_) (fun h138 => ?_)
        · refine ax_iconst rfl ?_
          refine ax_istore (ls' := [(0, _), (1, _), (2, _), (3, _), (4, _), (5, _)]) rfl rfl rfl ?_
          refine ax_iinc (ls' := [(0, _), (1, _), (2, _), (3, _), (4, _), (5, _)]) rfl rfl rfl rfl ?_
          refine ax_goto rfl ?_
          first
            | omega
            | (have e0 : b01 (IOb h c (rp M p) i) = 0 := by omega
               have e1 : b01 (IOb h c (rp M p) (i + 1)) = 0 := b01_f (fun q => b01_eq e0 (st.mp q).1)
               rw [e1] at ih2
               exact ih2)
            | (have e0 : b01 (IOb h c (rp M p) i) = 1 := by omega
               have e1 : b01 (IOb h c (rp M p) (i + 1)) = 0 := b01_f (fun q => by have := (st.mp q).2; omega)
               rw [e1] at ih2
               exact ih2)
            | (have e0 : b01 (IOb h c (rp M p) i) = 1 := by omega
               have e1 : b01 (IOb h c (rp M p) (i + 1)) = 1 := b01_t (st.mpr ⟨b01_ne (by omega), by omega⟩)
               rw [e1] at ih2
               exact ih2)
        · refine ax_iconst rfl ?_
          refine ax_goto rfl ?_
          refine ax_istore (ls' := [(0, _), (1, _), (2, _), (3, _), (4, _), (5, _)]) rfl rfl rfl ?_
          refine ax_iinc (ls' := [(0, _), (1, _), (2, _), (3, _), (4, _), (5, _)]) rfl rfl rfl rfl ?_
          refine ax_goto rfl ?_
          first
            | omega
            | (have e0 : b01 (IOb h c (rp M p) i) = 0 := by omega
               have e1 : b01 (IOb h c (rp M p) (i + 1)) = 0 := b01_f (fun q => b01_eq e0 (st.mp q).1)
               rw [e1] at ih2
               exact ih2)
            | (have e0 : b01 (IOb h c (rp M p) i) = 1 := by omega
               have e1 : b01 (IOb h c (rp M p) (i + 1)) = 0 := b01_f (fun q => by have := (st.mp q).2; omega)
               rw [e1] at ih2
               exact ih2)
            | (have e0 : b01 (IOb h c (rp M p) i) = 1 := by omega
               have e1 : b01 (IOb h c (rp M p) (i + 1)) = 1 := b01_t (st.mpr ⟨b01_ne (by omega), by omega⟩)
               rw [e1] at ih2
               exact ih2)
set_option maxRecDepth 100000 in
set_option maxHeartbeats 800000 in
theorem c_F_out (E : av_E) (d : Nat) (M : av_M) (p : Int) (hp : 0 ≤ p ∧ p < 140) (bp : RB M p) (h : Int) (c : Nat → pt) (hc : CP M 41 h c) (hh : 0 ≤ h ∧ h ≤ 12) : av_Mt E (d + 3) mX8_isOutside [vR 35, vI p, vI h, vR 41] M (av_X (some (vI (b01 (¬ InO h.toNat c (rp M p))))) M) := by
  refine av_enter hX8_isOutside oX8_isOutside rfl rfl ?_
  refine ax_iloadn rfl rfl ?_
  refine ax_if_ne rfl (by omega) (fun h1 => ?_) (fun h1 => ?_)
  · refine ax_iloadn rfl rfl ?_
    refine ax_iconst rfl ?_
    refine ax_icmp_ne rfl (by omega) (by omega) (fun h8 => ?_) (fun h8 => ?_)
    · refine ax_iloadn rfl rfl ?_
      refine ax_iconst rfl ?_
      refine ax_icmp_ne rfl (by omega) (by omega) (fun h30 => ?_) (fun h30 => ?_)
      · refine ax_iconst rfl ?_
        refine ax_istore (ls' := [(0, _), (1, _), (2, _), (3, _), (4, _)]) rfl rfl rfl ?_
        refine ax_iconst rfl ?_
        refine ax_istore (ls' := [(0, _), (1, _), (2, _), (3, _), (4, _), (5, _)]) rfl rfl rfl ?_
        have k := l3_F_out E d M p hp bp h c hc hh (by omega) h.toNat 0 (by omega) (by omega)
        have e : b01 (IOb h c (rp M p) 0) = 1 := b01_t (fun k hk => by omega)
        rw [e] at k
        exact k
      · exact s2_F_out E d M p hp bp h c hc hh (by omega)
    · exact s1_F_out E d M p hp bp h c hc hh (by omega)
  · refine ax_iconst rfl ?_
    refine ax_zret rfl rfl (by omega) ?_
    exact av_rI (b01_t (InO_0 (by omega))).symm
set_option maxRecDepth 100000 in
set_option maxHeartbeats 800000 in
theorem s1_S_out (E : av_E) (d : Nat) (M : av_M) (p : Int) (hp : 0 ≤ p ∧ p < 140) (bp : RB M p) (h : Int) (c : Nat → pt) (hc : CP M 42 h c) (hh : 0 ≤ h ∧ h ≤ 121) (e : h = 1) : av_S E (d + 3) mX8_isOutside 11 [(0, vR 35), (1, vI p), (2, vI h), (3, vR 42)] [] M (av_X (some (vI (b01 (¬ InO h.toNat c (rp M p))))) M) := by
  obtain ⟨x1, x2, x3⟩ := hc 0 (by omega) (by omega)
  have i1 := InO_1 (c := c) (p := rp M p) (show h.toNat = 1 by omega)
  have x2' : rp M (M 42 0) = c 0 := x2
  rw [← x2'] at i1
  have b := b01_rng (rp M p = rp M (M 42 0))
  rw [b01_n, b01_iff i1]
  refine ax_aloadn rfl rfl ?_
  refine ax_iloadn rfl rfl ?_
  refine ax_aloadn rfl rfl ?_
  refine ax_iconst rfl ?_
  refine ax_iald rfl rfl (by omega) ?_
  refine ax_callV (as := [_, _]) rfl vX8_114 hX8_isOne rfl rfl rfl rfl rfl (c_X8_isOne E (d + 1) M p (M 42 0) (by omega) (by omega) bp x3) (av_Xk ?_)
  refine ax_if_ne rfl (by omega) (fun h19 => ?_) (fun h19 => ?_)
  · refine ax_iconst rfl ?_
    refine ax_zret rfl rfl (by omega) ?_
    exact av_rI (by omega)
  · refine ax_iconst rfl ?_
    refine ax_goto rfl ?_
    refine ax_zret rfl rfl (by omega) ?_
    exact av_rI (by omega)
set_option maxRecDepth 100000 in
set_option maxHeartbeats 800000 in
theorem s2_S_out (E : av_E) (d : Nat) (M : av_M) (p : Int) (hp : 0 ≤ p ∧ p < 140) (bp : RB M p) (h : Int) (c : Nat → pt) (hc : CP M 42 h c) (hh : 0 ≤ h ∧ h ≤ 121) (e : h = 2) : av_S E (d + 3) mX8_isOutside 33 [(0, vR 35), (1, vI p), (2, vI h), (3, vR 42)] [] M (av_X (some (vI (b01 (¬ InO h.toNat c (rp M p))))) M) := by
  obtain ⟨x1, x2, x3⟩ := hc 0 (by omega) (by omega)
  obtain ⟨y1, y2, y3⟩ := hc 1 (by omega) (by omega)
  have i2 := InO_2 (c := c) (p := rp M p) (show h.toNat = 2 by omega)
  have x2' : rp M (M 42 0) = c 0 := x2
  have y2' : rp M (M 42 1) = c 1 := y2
  rw [← x2', ← y2'] at i2
  have dr := D3_rng x3 y3 bp
  have dz : D3 (M 38 (M 42 0)) (M 39 (M 42 0)) (M 40 (M 42 0)) (M 38 (M 42 1)) (M 39 (M 42 1)) (M 40 (M 42 1)) (M 38 p) (M 39 p) (M 40 p) = 0 ↔ cr (rp M (M 42 0)) (rp M (M 42 1)) (rp M p) = 0 := P2_zero x3.2.2.1 y3.2.2.1 bp.2.2.1
  rw [← dz] at i2
  have c1 := b01_c (rp M p = rp M (M 42 0))
  have c2 := b01_c (rp M p = rp M (M 42 1))
  have c3 := b01_c ((lx (rp M (M 42 0)) (rp M p) ∧ lx (rp M p) (rp M (M 42 1))) ∨ (lx (rp M (M 42 1)) (rp M p) ∧ lx (rp M p) (rp M (M 42 0))))
  have i3 : InO h.toNat c (rp M p) ↔ D3 (M 38 (M 42 0)) (M 39 (M 42 0)) (M 40 (M 42 0)) (M 38 (M 42 1)) (M 39 (M 42 1)) (M 40 (M 42 1)) (M 38 p) (M 39 p) (M 40 p) = 0 ∧ (b01 (rp M p = rp M (M 42 0)) = 1 ∨ b01 (rp M p = rp M (M 42 1)) = 1 ∨ b01 ((lx (rp M (M 42 0)) (rp M p) ∧ lx (rp M p) (rp M (M 42 1))) ∨ (lx (rp M (M 42 1)) (rp M p) ∧ lx (rp M p) (rp M (M 42 0)))) = 1) := by
    rw [i2]
    refine and_congr Iff.rfl (or_congr ?_ (or_congr ?_ ?_))
    · exact ⟨fun q => b01_t q, fun q => b01_ne (by omega)⟩
    · exact ⟨fun q => b01_t q, fun q => b01_ne (by omega)⟩
    · exact ⟨fun q => b01_t q, fun q => b01_ne (P := ((lx (rp M (M 42 0)) (rp M p) ∧ lx (rp M p) (rp M (M 42 1))) ∨ (lx (rp M (M 42 1)) (rp M p) ∧ lx (rp M p) (rp M (M 42 0))))) (by omega)⟩
  have c1' : b01 (rp M p = rp M (M 42 0)) = 0 ∨ b01 (rp M p = rp M (M 42 0)) = 1 := b01_rng _
  have c2' : b01 (rp M p = rp M (M 42 1)) = 0 ∨ b01 (rp M p = rp M (M 42 1)) = 1 := b01_rng _
  have c3' : b01 ((lx (rp M (M 42 0)) (rp M p) ∧ lx (rp M p) (rp M (M 42 1))) ∨ (lx (rp M (M 42 1)) (rp M p) ∧ lx (rp M p) (rp M (M 42 0)))) = 0 ∨ b01 ((lx (rp M (M 42 0)) (rp M p) ∧ lx (rp M p) (rp M (M 42 1))) ∨ (lx (rp M (M 42 1)) (rp M p) ∧ lx (rp M p) (rp M (M 42 0)))) = 1 := b01_rng _
  clear c1 c2 c3
  refine ax_aloadn rfl rfl ?_
  refine ax_aloadn rfl rfl ?_
  refine ax_iconst rfl ?_
  refine ax_iald rfl rfl (by omega) ?_
  refine ax_aloadn rfl rfl ?_
  refine ax_iconst rfl ?_
  refine ax_iald rfl rfl (by omega) ?_
  refine ax_iloadn rfl rfl ?_
  refine ax_callV (as := [_, _, _]) rfl vX8_119 hX8_side rfl rfl rfl rfl rfl (c_X8_side E (d + 2) M (M 42 0) (M 42 1) p (by omega) (by omega) (by omega)) (av_Xk ?_)
  refine ax_lconst (w := 0) rfl rfl ?_
  refine ax_lif_ne rfl rfl (by omega) (by omega) (fun h45 => ?_) (fun h45 => ?_)
  · refine ax_iconst rfl ?_
    refine ax_istore (ls' := [(0, _), (1, _), (2, _), (3, _), (4, _)]) rfl rfl rfl ?_
    refine ax_iload rfl rfl ?_
    refine ax_if_ne rfl (by omega) (fun h94 => ?_) (fun h94 => ?_)
    · refine ax_iconst rfl ?_
      refine ax_zret rfl rfl (by omega) ?_
      first
        | omega
        | exact av_rI (b01_t (fun z => by have := i3.mp z; omega)).symm
        | exact av_rI (b01_f (fun z => z (i3.mpr (by omega)))).symm
    · refine ax_iconst rfl ?_
      refine ax_goto rfl ?_
      refine ax_zret rfl rfl (by omega) ?_
      first
        | omega
        | exact av_rI (b01_t (fun z => by have := i3.mp z; omega)).symm
        | exact av_rI (b01_f (fun z => z (i3.mpr (by omega)))).symm
  · refine ax_aloadn rfl rfl ?_
    refine ax_iloadn rfl rfl ?_
    refine ax_aloadn rfl rfl ?_
    refine ax_iconst rfl ?_
    refine ax_iald rfl rfl (by omega) ?_
    refine ax_callV (as := [_, _]) rfl vX8_114 hX8_isOne rfl rfl rfl rfl rfl (c_X8_isOne E (d + 1) M p (M 42 0) (by omega) (by omega) bp x3) (av_Xk ?_)
    refine ax_if_ne rfl (by omega) (fun h57 => ?_) (fun h57 => ?_)
    · refine ax_iconst rfl ?_
      refine ax_goto rfl ?_
      refine ax_istore (ls' := [(0, _), (1, _), (2, _), (3, _), (4, _)]) rfl rfl rfl ?_
      refine ax_iload rfl rfl ?_
      refine ax_if_ne rfl (by omega) (fun h94 => ?_) (fun h94 => ?_)
      · refine ax_iconst rfl ?_
        refine ax_zret rfl rfl (by omega) ?_
        first
          | omega
          | exact av_rI (b01_t (fun z => by have := i3.mp z; omega)).symm
          | exact av_rI (b01_f (fun z => z (i3.mpr (by omega)))).symm
      · refine ax_iconst rfl ?_
        refine ax_goto rfl ?_
        refine ax_zret rfl rfl (by omega) ?_
        first
          | omega
          | exact av_rI (b01_t (fun z => by have := i3.mp z; omega)).symm
          | exact av_rI (b01_f (fun z => z (i3.mpr (by omega)))).symm
    · refine ax_aloadn rfl rfl ?_
      refine ax_iloadn rfl rfl ?_
      refine ax_aloadn rfl rfl ?_
      refine ax_iconst rfl ?_
      refine ax_iald rfl rfl (by omega) ?_
      refine ax_callV (as := [_, _]) rfl vX8_114 hX8_isOne rfl rfl rfl rfl rfl (c_X8_isOne E (d + 1) M p (M 42 1) (by omega) (by omega) bp y3) (av_Xk ?_)
      refine ax_if_ne rfl (by omega) (fun h68 => ?_) (fun h68 => ?_)
      · refine ax_iconst rfl ?_
        refine ax_goto rfl ?_
        refine ax_istore (ls' := [(0, _), (1, _), (2, _), (3, _), (4, _)]) rfl rfl rfl ?_
        refine ax_iload rfl rfl ?_
        refine ax_if_ne rfl (by omega) (fun h94 => ?_) (fun h94 => ?_)
        · refine ax_iconst rfl ?_
          refine ax_zret rfl rfl (by omega) ?_
          first
            | omega
            | exact av_rI (b01_t (fun z => by have := i3.mp z; omega)).symm
            | exact av_rI (b01_f (fun z => z (i3.mpr (by omega)))).symm
        · refine ax_iconst rfl ?_
          refine ax_goto rfl ?_
          refine ax_zret rfl rfl (by omega) ?_
          first
            | omega
            | exact av_rI (b01_t (fun z => by have := i3.mp z; omega)).symm
            | exact av_rI (b01_f (fun z => z (i3.mpr (by omega)))).symm
      · refine ax_aloadn rfl rfl ?_
        refine ax_aloadn rfl rfl ?_
        refine ax_iconst rfl ?_
        refine ax_iald rfl rfl (by omega) ?_
        refine ax_iloadn rfl rfl ?_
        refine ax_aloadn rfl rfl ?_
        refine ax_iconst rfl ?_
        refine ax_iald rfl rfl (by omega) ?_
        refine ax_callV (as := [_, _, _]) rfl vX8_123 hX8_isBetween rfl rfl rfl rfl rfl (c_X8_isBetween E d M (M 42 0) p (M 42 1) (by omega) (by omega) (by omega) x3 bp y3) (av_Xk ?_)
        refine ax_if_eq rfl (by omega) (fun h82 => ?_) (fun h82 => ?_)
        · refine ax_iconst rfl ?_
          refine ax_istore (ls' := [(0, _), (1, _), (2, _), (3, _), (4, _)]) rfl rfl rfl ?_
          refine ax_iload rfl rfl ?_
          refine ax_if_ne rfl (by omega) (fun h94 => ?_) (fun h94 => ?_)
          · refine ax_iconst rfl ?_
            refine ax_zret rfl rfl (by omega) ?_
            first
              | omega
              | exact av_rI (b01_t (fun z => by have := i3.mp z; omega)).symm
              | exact av_rI (b01_f (fun z => z (i3.mpr (by omega)))).symm
          · refine ax_iconst rfl ?_
            refine ax_goto rfl ?_
            refine ax_zret rfl rfl (by omega) ?_
            first
              | omega
              | exact av_rI (b01_t (fun z => by have := i3.mp z; omega)).symm
              | exact av_rI (b01_f (fun z => z (i3.mpr (by omega)))).symm
        · refine ax_iconst rfl ?_
          refine ax_goto rfl ?_
          refine ax_istore (ls' := [(0, _), (1, _), (2, _), (3, _), (4, _)]) rfl rfl rfl ?_
          refine ax_iload rfl rfl ?_
          refine ax_if_ne rfl (by omega) (fun h94 => ?_) (fun h94 => ?_)
          · refine ax_iconst rfl ?_
            refine ax_zret rfl rfl (by omega) ?_
            first
              | omega
              | exact av_rI (b01_t (fun z => by have := i3.mp z; omega)).symm
              | exact av_rI (b01_f (fun z => z (i3.mpr (by omega)))).symm
          · refine ax_iconst rfl ?_
            refine ax_goto rfl ?_
            refine ax_zret rfl rfl (by omega) ?_
            first
              | omega
              | exact av_rI (b01_t (fun z => by have := i3.mp z; omega)).symm
              | exact av_rI (b01_f (fun z => z (i3.mpr (by omega)))).symm
set_option maxRecDepth 100000 in
set_option maxHeartbeats 800000 in
theorem l3_S_out (E : av_E) (d : Nat) (M : av_M) (p : Int) (hp : 0 ≤ p ∧ p < 140) (bp : RB M p) (h : Int) (c : Nat → pt) (hc : CP M 42 h c) (hh : 0 ≤ h ∧ h ≤ 121) (e : 3 ≤ h) : ∀ (t : Nat) (i : Int), i + t = h → 0 ≤ i → av_S E (d + 3) mX8_isOutside 109 [(0, vR 35), (1, vI p), (2, vI h), (3, vR 42), (4, vI (1 - b01 (IOb h c (rp M p) i))), (5, vI i)] [] M (av_X (some (vI (b01 (¬ InO h.toNat c (rp M p))))) M) := by
  have i3 := InO_3 (c := c) (p := rp M p) (show 3 ≤ h.toNat by omega)
  have eI : InO h.toNat c (rp M p) ↔ IOb h c (rp M p) h := by
    rw [i3]
    exact ⟨fun H k hk => H k (by omega), fun H k hk => H k (by omega)⟩
  rw [b01_n, b01_iff eI]
  intro t
  induction t with
  | zero =>
    intro i hi i0
    have ei : i = h := by omega
    subst ei
    have b := b01_rng (IOb i c (rp M p) i)
    refine ax_iload rfl rfl ?_
    refine ax_iloadn rfl rfl ?_
    refine ax_icmp_ge rfl (by omega) (by omega) (fun h112 => ?_) (fun h112 => ?_)
    · refine ax_iload rfl rfl ?_
      refine ax_zret rfl rfl (by omega) ?_
      exact av_rI rfl
    · omega
  | succ t ih =>
    intro i hi i0
    have ih2 := ih (i + 1) (by omega) (by omega)
    have st := IOb_s (h := h) (c := c) (q := rp M p) i0
    have b := b01_rng (IOb h c (rp M p) i)
    have enx := tmod_nx i0 (show i < h by omega)
    have nx := nxI_rng i0 (show i < h by omega)
    obtain ⟨x1, x2, x3⟩ := hc i i0 (by omega)
    obtain ⟨y1, y2, y3⟩ := hc _ nx.1 nx.2
    rw [nxI_nxt i0 (by omega)] at y2
    rw [← enx] at y1 y2 y3 nx
    have dr := D3_rng x3 y3 bp
    have dn : 0 ≤ D3 (M 38 (M 42 i)) (M 39 (M 42 i)) (M 40 (M 42 i)) (M 38 (M 42 ((i + 1).tmod h))) (M 39 (M 42 ((i + 1).tmod h))) (M 40 (M 42 ((i + 1).tmod h))) (M 38 p) (M 39 p) (M 40 p) ↔ 0 ≤ cr (c i.toNat) (c (nxt h.toNat i.toNat)) (rp M p) := by rw [← x2, ← y2]; exact P2_nn x3.2.2.1 y3.2.2.1 bp.2.2.1
    rw [← dn] at st
    refine ax_iload rfl rfl ?_
    refine ax_iloadn rfl rfl ?_
    refine ax_icmp_ge rfl (by omega) (by omega) (fun h112 => ?_) (fun h112 => ?_)
    · omega
    · refine ax_iload rfl rfl ?_
      refine ax_if_ne rfl (by omega) (fun h117 => ?_) (fun h117 => ?_)
      · refine ax_iconst rfl ?_
        refine ax_goto rfl ?_
        refine ax_istore (ls' := [(0, _), (1, _), (2, _), (3, _), (4, _), (5, _)]) rfl rfl rfl ?_
        refine ax_iinc (ls' := [(0, _), (1, _), (2, _), (3, _), (4, _), (5, _)]) rfl rfl rfl rfl ?_
        refine ax_goto rfl ?_
        first
          | omega
          | (have e0 : b01 (IOb h c (rp M p) i) = 0 := by omega
             have e1 : b01 (IOb h c (rp M p) (i + 1)) = 0 := b01_f (fun q => b01_eq e0 (st.mp q).1)
             rw [e1] at ih2
             exact ih2)
          | (have e0 : b01 (IOb h c (rp M p) i) = 1 := by omega
             have e1 : b01 (IOb h c (rp M p) (i + 1)) = 0 := b01_f (fun q => by have := (st.mp q).2; omega)
             rw [e1] at ih2
             exact ih2)
          | (have e0 : b01 (IOb h c (rp M p) i) = 1 := by omega
             have e1 : b01 (IOb h c (rp M p) (i + 1)) = 1 := b01_t (st.mpr ⟨b01_ne (by omega), by omega⟩)
             rw [e1] at ih2
             exact ih2)
      · refine ax_aloadn rfl rfl ?_
        refine ax_aloadn rfl rfl ?_
        refine ax_iload rfl rfl ?_
        refine ax_iald rfl rfl (by omega) ?_
        refine ax_aloadn rfl rfl ?_
        refine ax_iload rfl rfl ?_
        refine ax_iconst rfl ?_
        refine ax_iadd rfl ?_
        refine ax_iloadn rfl rfl ?_
        refine ax_irem rfl (by omega) (by omega) (by omega) ?_
        refine ax_iald rfl rfl (by omega) ?_
        refine ax_iloadn rfl rfl ?_
        refine ax_callV (as := [_, _, _]) rfl vX8_119 hX8_side rfl rfl rfl rfl rfl (c_X8_side E (d + 2) M (M 42 i) (M 42 ((i + 1).tmod h)) p (by omega) (by omega) (by omega)) (av_Xk ?_)
        refine ax_lconst (w := 0) rfl rfl ?_
        refine ax_lif_ge rfl rfl (by omega) (by omega) (fun h138 => ?_) (fun h138 => ?_)
        · refine ax_iconst rfl ?_
          refine ax_istore (ls' := [(0, _), (1, _), (2, _), (3, _), (4, _), (5, _)]) rfl rfl rfl ?_
          refine ax_iinc (ls' := [(0, _), (1, _), (2, _), (3, _), (4, _), (5, _)]) rfl rfl rfl rfl ?_
          refine ax_goto rfl ?_
          first
            | omega
            | (have e0 : b01 (IOb h c (rp M p) i) = 0 := by omega
               have e1 : b01 (IOb h c (rp M p) (i + 1)) = 0 := b01_f (fun q => b01_eq e0 (st.mp q).1)
               rw [e1] at ih2
               exact ih2)
            | (have e0 : b01 (IOb h c (rp M p) i) = 1 := by omega
               have e1 : b01 (IOb h c (rp M p) (i + 1)) = 0 := b01_f (fun q => by have := (st.mp q).2; omega)
               rw [e1] at ih2
               exact ih2)
            | (have e0 : b01 (IOb h c (rp M p) i) = 1 := by omega
               have e1 : b01 (IOb h c (rp M p) (i + 1)) = 1 := b01_t (st.mpr ⟨b01_ne (by omega), by omega⟩)
               rw [e1] at ih2
               exact ih2)
        · refine ax_iconst rfl ?_
          refine ax_goto rfl ?_
          refine ax_istore (ls' := [(0, _), (1, _), (2, _), (3, _), (4, _), (5, _)]) rfl rfl rfl ?_
          refine ax_iinc (ls' := [(0, _), (1, _), (2, _), (3, _), (4, _), (5, _)]) rfl rfl rfl rfl ?_
          refine ax_goto rfl ?_
          first
            | omega
            | (have e0 : b01 (IOb h c (rp M p) i) = 0 := by omega
               have e1 : b01 (IOb h c (rp M p) (i + 1)) = 0 := b01_f (fun q => b01_eq e0 (st.mp q).1)
               rw [e1] at ih2
               exact ih2)
            | (have e0 : b01 (IOb h c (rp M p) i) = 1 := by omega
               have e1 : b01 (IOb h c (rp M p) (i + 1)) = 0 := b01_f (fun q => by have := (st.mp q).2; omega)
               rw [e1] at ih2
               exact ih2)
            | (have e0 : b01 (IOb h c (rp M p) i) = 1 := by omega
               have e1 : b01 (IOb h c (rp M p) (i + 1)) = 1 := b01_t (st.mpr ⟨b01_ne (by omega), by omega⟩)
               rw [e1] at ih2
               exact ih2)
set_option maxRecDepth 100000 in
set_option maxHeartbeats 800000 in
theorem c_S_out (E : av_E) (d : Nat) (M : av_M) (p : Int) (hp : 0 ≤ p ∧ p < 140) (bp : RB M p) (h : Int) (c : Nat → pt) (hc : CP M 42 h c) (hh : 0 ≤ h ∧ h ≤ 121) : av_Mt E (d + 3) mX8_isOutside [vR 35, vI p, vI h, vR 42] M (av_X (some (vI (b01 (¬ InO h.toNat c (rp M p))))) M) := by
  refine av_enter hX8_isOutside oX8_isOutside rfl rfl ?_
  refine ax_iloadn rfl rfl ?_
  refine ax_if_ne rfl (by omega) (fun h1 => ?_) (fun h1 => ?_)
  · refine ax_iloadn rfl rfl ?_
    refine ax_iconst rfl ?_
    refine ax_icmp_ne rfl (by omega) (by omega) (fun h8 => ?_) (fun h8 => ?_)
    · refine ax_iloadn rfl rfl ?_
      refine ax_iconst rfl ?_
      refine ax_icmp_ne rfl (by omega) (by omega) (fun h30 => ?_) (fun h30 => ?_)
      · refine ax_iconst rfl ?_
        refine ax_istore (ls' := [(0, _), (1, _), (2, _), (3, _), (4, _)]) rfl rfl rfl ?_
        refine ax_iconst rfl ?_
        refine ax_istore (ls' := [(0, _), (1, _), (2, _), (3, _), (4, _), (5, _)]) rfl rfl rfl ?_
        have k := l3_S_out E d M p hp bp h c hc hh (by omega) h.toNat 0 (by omega) (by omega)
        have e : b01 (IOb h c (rp M p) 0) = 1 := b01_t (fun k hk => by omega)
        rw [e] at k
        exact k
      · exact s2_S_out E d M p hp bp h c hc hh (by omega)
    · exact s1_S_out E d M p hp bp h c hc hh (by omega)
  · refine ax_iconst rfl ?_
    refine ax_zret rfl rfl (by omega) ?_
    exact av_rI (b01_t (InO_0 (by omega))).symm
