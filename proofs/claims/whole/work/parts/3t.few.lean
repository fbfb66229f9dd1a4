/-! ===== the reference: the fewest walls ===== -/
def SHr (M : av_M) (on h : Int) (fx fy : Int → Int) (q : Int) : Prop := (∀ j : Nat, q.toNat.testBit j = true → on.toNat.testBit j = true) ∧ Snd (RW M) (Sg q) ∧ 3 ≤ h.toNat ∧ Hull (Shd (VX (RW M) (Sg q))) h.toNat (fcn fx fy)
theorem SHr_k {M M' : av_M} (e : M' 52 = M 52) (on h : Int) (fx fy : Int → Int) : SHr M' on h fx fy = SHr M on h fx fy := by
  unfold SHr
  rw [RW_k e]
theorem shw {s : Int} (h : 0 ≤ s ∧ s ≤ 10) : 1 ≤ bi_shl 1 s ∧ bi_shl 1 s ≤ 1024 ∧ ∀ q : Int, 0 ≤ q → (∀ j : Nat, q.toNat.testBit j = true → (j : Int) < s) → q < bi_shl 1 s := by
  obtain ⟨n, e, en, _⟩ := shl12 (k := s) (by omega)
  have p1 : 1 ≤ 2 ^ s.toNat := Nat.one_le_two_pow
  have p2 : 2 ^ s.toNat ≤ 2 ^ 10 := Nat.pow_le_pow_right (by decide) (by omega)
  have p10 : (2 : Nat) ^ 10 = 1024 := by rfl
  refine ⟨by omega, by omega, fun q q0 hq => ?_⟩
  have := lt_tb (a := q.toNat) (n := s.toNat) (fun j hj => by have := hq j hj; omega)
  omega
set_option maxRecDepth 100000 in
set_option maxHeartbeats 800000 in
theorem c_X8_isFirst (E : av_E) (d : Nat) (M : av_M) (a b : Int) (ha : 0 ≤ a ∧ a < 1024) (hb : 0 ≤ b ∧ b < 1024) : av_Mt E d mX8_isFirst [vI a, vI b] M (av_X (some (vI (b01 (mI b < mI a)))) M) := by
  have hf := first_iff ha hb
  have hx : ∃ r : Int, bi_xor a b = r ∧ 0 ≤ r ∧ r < 1024 := by
    obtain ⟨x, rfl⟩ := bset_of ha.1
    obtain ⟨y, rfl⟩ := bset_of hb.1
    have := xor1024 (a := x) (b := y) (by omega) (by omega)
    exact ⟨_, bi_n_xor (by omega) (by omega), by omega, by omega⟩
  obtain ⟨r, er, r0, r1⟩ := hx
  have rng : -2147483648 ≤ bi_and (bi_and a (bi_xor a b)) (-(bi_xor a b)) ∧ bi_and (bi_and a (bi_xor a b)) (-(bi_xor a b)) < 2147483648 := by
    unfold bi_and
    have l := Int32.le_toInt ((Int32.ofInt ((Int32.ofInt a &&& Int32.ofInt (bi_xor a b)).toInt)) &&& Int32.ofInt (-(bi_xor a b)))
    have u := Int32.toInt_lt ((Int32.ofInt ((Int32.ofInt a &&& Int32.ofInt (bi_xor a b)).toInt)) &&& Int32.ofInt (-(bi_xor a b)))
    constructor
    · omega
    · omega
  refine av_enter hX8_isFirst oX8_isFirst rfl rfl ?_
  refine ax_iloadn rfl rfl ?_
  refine ax_iloadn rfl rfl ?_
  refine ax_ixor rfl ?_
  refine ax_istoren (ls' := [(0, _), (1, _), (2, _)]) rfl rfl rfl ?_
  refine ax_iloadn rfl rfl ?_
  refine ax_iloadn rfl rfl ?_
  refine ax_iand rfl ?_
  refine ax_iloadn rfl rfl ?_
  refine ax_ineg rfl ?_
  refine ax_iand rfl ?_
  refine ax_if_eq rfl (by omega) (fun h10 => ?_) (fun h10 => ?_)
  · refine ax_iconst rfl ?_
    refine ax_zret rfl rfl (by omega) ?_
    first
      | exact av_rI (b01_t (hf.mp (by omega))).symm
      | exact av_rI (b01_f (fun q => hf.mpr q (by omega))).symm
  · refine ax_iconst rfl ?_
    refine ax_goto rfl ?_
    refine ax_zret rfl rfl (by omega) ?_
    first
      | exact av_rI (b01_t (hf.mp (by omega))).symm
      | exact av_rI (b01_f (fun q => hf.mpr q (by omega))).symm
set_option maxRecDepth 100000 in
set_option maxHeartbeats 800000 in
theorem s_X8_layFewest (E : av_E) (d : Nat) (M : av_M) (hR : RWm M) (on : Int) (hon : ONm M on) (hP : RPm M) (h : Int) (fx fy : Int → Int) (hG : FG (M 35 0) (M 36) (M 37) h fx fy) (M1 : av_M) (hq : RQ M M1) (s b : Int) (hs : 0 < s ∧ s < 1024) (eb : M1 35 33 = b) (hsub : ∀ j : Nat, s.toNat.testBit j = true → on.toNat.testBit j = true) (hno : ∀ M2 : av_M, RQ M M2 → M2 35 33 = b → ¬ (SHr M on h fx fy) s → av_S E (d + 6) mX8_layFewest 13 [(0, vR 35), (1, vI on), (2, vI (s + 1))] [] M2 (fun res M' => res = none ∧ (∃ b, M' 35 33 = b ∧ BFr (SHr M on h fx fy) b) ∧ RQ M M')) (hyes : ∀ M2 : av_M, RQ M M2 → M2 35 33 = s → (SHr M on h fx fy) s → av_S E (d + 6) mX8_layFewest 13 [(0, vR 35), (1, vI on), (2, vI (s + 1))] [] M2 (fun res M' => res = none ∧ (∃ b, M' 35 33 = b ∧ BFr (SHr M on h fx fy) b) ∧ RQ M M')) : av_S E (d + 6) mX8_layFewest 89 [(0, vR 35), (1, vI on), (2, vI s), (3, vI 1)] [] M1 (fun res M' => res = none ∧ (∃ b, M' 35 33 = b ∧ BFr (SHr M on h fx fy) b) ∧ RQ M M') := by
  have hw := hR.1
  have e52 : M1 52 = M 52 := hq.2.2 52 (by omega)
  have eW := RW_k e52
  have hon1 := hon.k hq
  have hst : ∀ j : Nat, s.toNat.testBit j = true → (j : Int) < M1 35 23 := fun j hj => hon1.t j (hsub j hj)
  obtain ⟨H, c, hH⟩ : ∃ (H : Nat) (c : Nat → pt), Snd (RW M1) (Sg s) → Hull (Shd (VX (RW M1) (Sg s))) H c := by
    by_cases q : Snd (RW M1) (Sg s)
    · obtain ⟨H, c, k⟩ := VX_hull (A := rA M1) (B := rB M1) (C := rC M1) (D := rD M1) hst (by rw [hq.2.1 23 (by omega)]; omega) q.1
      exact ⟨H, c, fun _ => k⟩
    · exact ⟨0, fun _ => (0, 0), fun z => absurd z q⟩
  have bs := b01_rng (Snd (RW M1) (Sg s))
  have bn := b01_rng (SN h.toNat (fcn fx fy) ((H : Nat) : Int).toNat c)
  refine ax_aloadn rfl rfl ?_
  refine ax_iloadn rfl rfl ?_
  refine ax_callV (as := [_]) rfl vX8_290 hX8_layShadow rfl rfl rfl rfl rfl (c_X8_layShadow E d M1 (hR.k hq) s (by omega) hst (H : Int) c (fun q => ⟨by omega, hH q⟩)) (fun r91 M91 hr91 => ?_)
  obtain ⟨rfl, hs1, hk⟩ := hr91
  have hq1 := hq.tr (LSk.q hk)
  have e33 : M91 35 33 = b := by rw [hk.1 33 (by decide) (by decide)]; exact eb
  refine ax_if_eq rfl (by omega) (fun h94 => ?_) (fun h94 => ?_)
  · refine ax_iinc (ls' := [(0, _), (1, _), (2, _), (3, _)]) rfl rfl rfl rfl ?_
    refine ax_goto rfl ?_
    refine ax_pick [0, 1, 2] rfl ?_
    first
      | (have hS := b01_ne (P := Snd (RW M1) (Sg s)) (by omega)
         have hN := b01_ne (P := SN h.toNat (fcn fx fy) ((H : Nat) : Int).toNat c) (by omega)
         rw [Int.toNat_natCast, SN_Hull (hH hS)] at hN
         refine hyes _ ⟨fun k k0 => ?_, fun f hf => ?_, fun k hk => ?_⟩ a106 ⟨hsub, by rw [← eW]; exact hS, by rw [← eW]; exact hN⟩
         · rw [c106 k (by omega)]; exact hq2.1 k k0
         · rw [b106 f (by omega)]; exact hq2.2.1 f hf
         · rw [c106 k (by omega)]; exact hq2.2.2 k hk)
      | (have hS := b01_ne (P := Snd (RW M1) (Sg s)) (by omega)
         have hN := b01_eq (P := SN h.toNat (fcn fx fy) ((H : Nat) : Int).toNat c) (by omega)
         rw [Int.toNat_natCast, SN_Hull (hH hS)] at hN
         exact hno _ hq2 e34 (fun q => hN (by rw [eW]; exact q.2.2)))
      | (have hS := b01_eq (P := Snd (RW M1) (Sg s)) (by omega)
         exact hno _ hq1 e33 (fun q => hS (by rw [eW]; exact q.2.1)))
  · refine ax_aloadn rfl rfl ?_
    refine ax_callV (as := []) rfl vX8_295 hX8_isSeen rfl rfl rfl rfl rfl (c_X8_isSeen E d M91 (RPm_k hP hq1) h fx fy (FG_k hG hq1) (H : Int) c (hs1 (b01_ne (by omega)))) (fun r98 M98 hr98 => ?_)
    obtain ⟨rfl, hk2⟩ := hr98
    have hq2 := hq1.tr (LFk.q hk2)
    have e34 : M98 35 33 = b := by rw [hk2.1 33 (by decide)]; exact e33
    refine ax_if_eq rfl (by omega) (fun h101 => ?_) (fun h101 => ?_)
    · refine ax_iinc (ls' := [(0, _), (1, _), (2, _), (3, _)]) rfl rfl rfl rfl ?_
      refine ax_goto rfl ?_
      refine ax_pick [0, 1, 2] rfl ?_
      first
        | (have hS := b01_ne (P := Snd (RW M1) (Sg s)) (by omega)
           have hN := b01_ne (P := SN h.toNat (fcn fx fy) ((H : Nat) : Int).toNat c) (by omega)
           rw [Int.toNat_natCast, SN_Hull (hH hS)] at hN
           refine hyes _ ⟨fun k k0 => ?_, fun f hf => ?_, fun k hk => ?_⟩ a106 ⟨hsub, by rw [← eW]; exact hS, by rw [← eW]; exact hN⟩
           · rw [c106 k (by omega)]; exact hq2.1 k k0
           · rw [b106 f (by omega)]; exact hq2.2.1 f hf
           · rw [c106 k (by omega)]; exact hq2.2.2 k hk)
        | (have hS := b01_ne (P := Snd (RW M1) (Sg s)) (by omega)
           have hN := b01_eq (P := SN h.toNat (fcn fx fy) ((H : Nat) : Int).toNat c) (by omega)
           rw [Int.toNat_natCast, SN_Hull (hH hS)] at hN
           exact hno _ hq2 e34 (fun q => hN (by rw [eW]; exact q.2.2)))
        | (have hS := b01_eq (P := Snd (RW M1) (Sg s)) (by omega)
           exact hno _ hq1 e33 (fun q => hS (by rw [eW]; exact q.2.1)))
    · refine ax_aloadn rfl rfl ?_
      refine ax_iloadn rfl rfl ?_
      refine ax_putI' (g := 33) rfl gX8_302 rfl rfl rfl rfl (fun M106 a106 b106 c106 => ?_)
      refine ax_iinc (ls' := [(0, _), (1, _), (2, _), (3, _)]) rfl rfl rfl rfl ?_
      refine ax_goto rfl ?_
      refine ax_pick [0, 1, 2] rfl ?_
      first
        | (have hS := b01_ne (P := Snd (RW M1) (Sg s)) (by omega)
           have hN := b01_ne (P := SN h.toNat (fcn fx fy) ((H : Nat) : Int).toNat c) (by omega)
           rw [Int.toNat_natCast, SN_Hull (hH hS)] at hN
           refine hyes _ ⟨fun k k0 => ?_, fun f hf => ?_, fun k hk => ?_⟩ a106 ⟨hsub, by rw [← eW]; exact hS, by rw [← eW]; exact hN⟩
           · rw [c106 k (by omega)]; exact hq2.1 k k0
           · rw [b106 f (by omega)]; exact hq2.2.1 f hf
           · rw [c106 k (by omega)]; exact hq2.2.2 k hk)
        | (have hS := b01_ne (P := Snd (RW M1) (Sg s)) (by omega)
           have hN := b01_eq (P := SN h.toNat (fcn fx fy) ((H : Nat) : Int).toNat c) (by omega)
           rw [Int.toNat_natCast, SN_Hull (hH hS)] at hN
           exact hno _ hq2 e34 (fun q => hN (by rw [eW]; exact q.2.2)))
        | (have hS := b01_eq (P := Snd (RW M1) (Sg s)) (by omega)
           exact hno _ hq1 e33 (fun q => hS (by rw [eW]; exact q.2.1)))
set_option maxRecDepth 100000 in
set_option maxHeartbeats 800000 in
theorem l_X8_layFewest (E : av_E) (d : Nat) (M : av_M) (hR : RWm M) (on : Int) (hon : ONm M on) (hP : RPm M) (h : Int) (fx fy : Int → Int) (hG : FG (M 35 0) (M 36) (M 37) h fx fy) : ∀ (t : Nat) (s b : Int) (M1 : av_M), s + t = bi_shl 1 (M 35 23) → 0 < s → RQ M M1 → M1 35 33 = b → BF2 (SHr M on h fx fy) s b → av_S E (d + 6) mX8_layFewest 13 [(0, vR 35), (1, vI on), (2, vI s)] [] M1 (fun res M' => res = none ∧ (∃ b, M' 35 33 = b ∧ BFr (SHr M on h fx fy) b) ∧ RQ M M') := by
  have hw := hR.1
  have W := shw hw
  intro t
  induction t with
  | zero =>
    intro s b M1 hs s0 hq eb hb
    have e23 : M1 35 23 = M 35 23 := hq.2.1 23 (by omega)
    rw [← e23] at W hs
    refine ax_iloadn rfl rfl ?_
    refine ax_iconst rfl ?_
    refine ax_aloadn rfl rfl ?_
    refine ax_getI (g := 23) rfl fX8_216 rfl rfl rfl rfl ?_
    refine ax_ishl rfl ?_
    refine ax_icmp_ge rfl (by omega) (by omega) (fun h20 => ?_) (fun h20 => ?_)
    · refine ax_vret rfl rfl ?_
      refine ⟨rfl, ⟨b, eb, BF2_all hb (fun q q0 q1 hP => ?_)⟩, hq⟩
      have := W.2.2 q (by omega) (fun j hj => by have := hon.t j (hP.1 j hj); omega)
      omega
    · omega
  | succ t ih =>
    intro s b M1 hs s0 hq eb hb
    have e23 : M1 35 23 = M 35 23 := hq.2.1 23 (by omega)
    have W1 : 1 ≤ bi_shl 1 (M1 35 23) ∧ bi_shl 1 (M1 35 23) ≤ 1024 := by rw [e23]; exact ⟨W.1, W.2.1⟩
    have hs1 : s + ((t + 1 : Nat) : Int) = bi_shl 1 (M1 35 23) := by rw [e23]; exact hs
    have r0 := hon.r
    have md := made0 (a := s) (b := on) ⟨by omega, by omega⟩ r0
    have mr := bi_andn_rng (a := s) (b := on) ⟨by omega, by omega⟩ r0
    have hb33 : M1 35 33 = -900000009 ∨ (0 ≤ M1 35 33 ∧ M1 35 33 < 1024) := by
      rcases hb with ⟨e, _⟩ | ⟨_, b0, b1, _⟩
      · left; omega
      · right; omega
    have ps := pcI_rng (x := s)
    have pb := pcI_rng (x := M1 35 33)
    have bf := b01_rng (mI (M1 35 33) < mI s)
    have hno : ∀ M2 : av_M, RQ M M2 → M2 35 33 = b → ((SHr M on h fx fy) s → b ≠ -900000009 ∧ (pcI b < pcI s ∨ (pcI b = pcI s ∧ mI s ≤ mI b))) → av_S E (d + 6) mX8_layFewest 13 [(0, vR 35), (1, vI on), (2, vI (s + 1))] [] M2 (fun res M' => res = none ∧ (∃ b, M' 35 33 = b ∧ BFr (SHr M on h fx fy) b) ∧ RQ M M') := fun M2 q2 e2 k => ih (s + 1) b M2 (by omega) (by omega) q2 e2 (BF2_keep hb k)
    have hyes : ∀ M2 : av_M, RQ M M2 → M2 35 33 = s → (SHr M on h fx fy) s → (b = -900000009 ∨ pcI s < pcI b ∨ (pcI s = pcI b ∧ mI b < mI s)) → av_S E (d + 6) mX8_layFewest 13 [(0, vR 35), (1, vI on), (2, vI (s + 1))] [] M2 (fun res M' => res = none ∧ (∃ b, M' 35 33 = b ∧ BFr (SHr M on h fx fy) b) ∧ RQ M M') := fun M2 q2 e2 k k2 => ih (s + 1) s M2 (by omega) (by omega) q2 e2 (BF2_take hb ⟨s0, by omega⟩ k k2)
    refine ax_iloadn rfl rfl ?_
    refine ax_iconst rfl ?_
    refine ax_aloadn rfl rfl ?_
    refine ax_getI (g := 23) rfl fX8_216 rfl rfl rfl rfl ?_
    refine ax_ishl rfl ?_
    refine ax_icmp_ge rfl (by omega) (by omega) (fun h20 => ?_) (fun h20 => ?_)
    · omega
    · refine ax_iloadn rfl rfl ?_
      refine ax_iloadn rfl rfl ?_
      refine ax_iconst rfl ?_
      refine ax_ixor rfl ?_
      refine ax_iand rfl ?_
      refine ax_if_ne rfl (by omega) (fun h28 => ?_) (fun h28 => ?_)
      · refine ax_iconst rfl ?_
        refine ax_istoren (ls' := [(0, _), (1, _), (2, _), (3, _)]) rfl rfl rfl ?_
        refine ax_iloadn rfl rfl ?_
        refine ax_if_eq rfl (by omega) (fun h86 => ?_) (fun h86 => ?_)
        · refine ax_iinc (ls' := [(0, _), (1, _), (2, _), (3, _)]) rfl rfl rfl rfl ?_
          refine ax_goto rfl ?_
          refine ax_pick [0, 1, 2] rfl ?_
          first
            | omega
            | (have hz : ¬ bi_and s (bi_xor on (-1)) = 0 := by omega
               exact hno M1 hq eb (fun q => absurd (md.mpr q.1) hz))
            | (have h1 : M1 35 33 ≠ -900000009 := by omega
               have h2 : pcI (M1 35 33) < pcI s := by omega
               exact hno M1 hq eb (fun _ => ⟨by omega, Or.inl (by rw [← eb]; exact h2)⟩))
            | (have h1 : M1 35 33 ≠ -900000009 := by omega
               have h2 : pcI (M1 35 33) = pcI s := by omega
               have h3 := b01_eq (P := mI (M1 35 33) < mI s) (by omega)
               exact hno M1 hq eb (fun _ => ⟨by omega, Or.inr ⟨by rw [← eb]; exact h2, by rw [← eb]; omega⟩⟩))
        · first
            | omega
            | (have hsub := md.mp (by omega)
               have hbb : b = -900000009 ∨ pcI s < pcI b ∨ (pcI s = pcI b ∧ mI b < mI s) := by
                 rw [← eb]
                 first
                   | exact Or.inl (by omega)
                   | exact Or.inr (Or.inl (by omega))
                   | exact Or.inr (Or.inr ⟨by omega, b01_ne (P := mI (M1 35 33) < mI s) (by omega)⟩)
               exact s_X8_layFewest E d M hR on hon hP h fx fy hG M1 hq s b ⟨s0, by omega⟩ eb hsub (fun M2 q2 e2 k => hno M2 q2 e2 (fun z => absurd z k)) (fun M2 q2 e2 k => hyes M2 q2 e2 k hbb))
      · refine ax_aloadn rfl rfl ?_
        refine ax_getI (g := 33) rfl fX8_302 rfl rfl rfl rfl ?_
        refine ax_ldc (z := (-900000009)) rfl kX8_204 rfl ?_
        refine ax_icmp_eq rfl (by omega) (by omega) (fun h37 => ?_) (fun h37 => ?_)
        · refine ax_iconst rfl ?_
          refine ax_goto rfl ?_
          refine ax_istoren (ls' := [(0, _), (1, _), (2, _), (3, _)]) rfl rfl rfl ?_
          refine ax_iloadn rfl rfl ?_
          refine ax_if_eq rfl (by omega) (fun h86 => ?_) (fun h86 => ?_)
          · refine ax_iinc (ls' := [(0, _), (1, _), (2, _), (3, _)]) rfl rfl rfl rfl ?_
            refine ax_goto rfl ?_
            refine ax_pick [0, 1, 2] rfl ?_
            first
              | omega
              | (have hz : ¬ bi_and s (bi_xor on (-1)) = 0 := by omega
                 exact hno M1 hq eb (fun q => absurd (md.mpr q.1) hz))
              | (have h1 : M1 35 33 ≠ -900000009 := by omega
                 have h2 : pcI (M1 35 33) < pcI s := by omega
                 exact hno M1 hq eb (fun _ => ⟨by omega, Or.inl (by rw [← eb]; exact h2)⟩))
              | (have h1 : M1 35 33 ≠ -900000009 := by omega
                 have h2 : pcI (M1 35 33) = pcI s := by omega
                 have h3 := b01_eq (P := mI (M1 35 33) < mI s) (by omega)
                 exact hno M1 hq eb (fun _ => ⟨by omega, Or.inr ⟨by rw [← eb]; exact h2, by rw [← eb]; omega⟩⟩))
          · first
              | omega
              | (have hsub := md.mp (by omega)
                 have hbb : b = -900000009 ∨ pcI s < pcI b ∨ (pcI s = pcI b ∧ mI b < mI s) := by
                   rw [← eb]
                   first
                     | exact Or.inl (by omega)
                     | exact Or.inr (Or.inl (by omega))
                     | exact Or.inr (Or.inr ⟨by omega, b01_ne (P := mI (M1 35 33) < mI s) (by omega)⟩)
                 exact s_X8_layFewest E d M hR on hon hP h fx fy hG M1 hq s b ⟨s0, by omega⟩ eb hsub (fun M2 q2 e2 k => hno M2 q2 e2 (fun z => absurd z k)) (fun M2 q2 e2 k => hyes M2 q2 e2 k hbb))
        · refine ax_iloadn rfl rfl ?_
          refine ax_callS (as := [_]) rfl sX8_305 hX8_bits rfl rfl rfl rfl (c_X8_bits E (d + 5) M1 s (by omega)) (av_Xk ?_)
          refine ax_aloadn rfl rfl ?_
          refine ax_getI (g := 33) rfl fX8_302 rfl rfl rfl rfl ?_
          refine ax_callS (as := [_]) rfl sX8_305 hX8_bits rfl rfl rfl rfl (c_X8_bits E (d + 5) M1 (M1 35 33) (by omega)) (av_Xk ?_)
          refine ax_icmp_lt rfl (by omega) (by omega) (fun h51 => ?_) (fun h51 => ?_)
          · refine ax_iconst rfl ?_
            refine ax_goto rfl ?_
            refine ax_istoren (ls' := [(0, _), (1, _), (2, _), (3, _)]) rfl rfl rfl ?_
            refine ax_iloadn rfl rfl ?_
            refine ax_if_eq rfl (by omega) (fun h86 => ?_) (fun h86 => ?_)
            · refine ax_iinc (ls' := [(0, _), (1, _), (2, _), (3, _)]) rfl rfl rfl rfl ?_
              refine ax_goto rfl ?_
              refine ax_pick [0, 1, 2] rfl ?_
              first
                | omega
                | (have hz : ¬ bi_and s (bi_xor on (-1)) = 0 := by omega
                   exact hno M1 hq eb (fun q => absurd (md.mpr q.1) hz))
                | (have h1 : M1 35 33 ≠ -900000009 := by omega
                   have h2 : pcI (M1 35 33) < pcI s := by omega
                   exact hno M1 hq eb (fun _ => ⟨by omega, Or.inl (by rw [← eb]; exact h2)⟩))
                | (have h1 : M1 35 33 ≠ -900000009 := by omega
                   have h2 : pcI (M1 35 33) = pcI s := by omega
                   have h3 := b01_eq (P := mI (M1 35 33) < mI s) (by omega)
                   exact hno M1 hq eb (fun _ => ⟨by omega, Or.inr ⟨by rw [← eb]; exact h2, by rw [← eb]; omega⟩⟩))
            · first
                | omega
                | (have hsub := md.mp (by omega)
                   have hbb : b = -900000009 ∨ pcI s < pcI b ∨ (pcI s = pcI b ∧ mI b < mI s) := by
                     rw [← eb]
                     first
                       | exact Or.inl (by omega)
                       | exact Or.inr (Or.inl (by omega))
                       | exact Or.inr (Or.inr ⟨by omega, b01_ne (P := mI (M1 35 33) < mI s) (by omega)⟩)
                   exact s_X8_layFewest E d M hR on hon hP h fx fy hG M1 hq s b ⟨s0, by omega⟩ eb hsub (fun M2 q2 e2 k => hno M2 q2 e2 (fun z => absurd z k)) (fun M2 q2 e2 k => hyes M2 q2 e2 k hbb))
          · refine ax_iloadn rfl rfl ?_
            refine ax_callS (as := [_]) rfl sX8_305 hX8_bits rfl rfl rfl rfl (c_X8_bits E (d + 5) M1 s (by omega)) (av_Xk ?_)
            refine ax_aloadn rfl rfl ?_
            refine ax_getI (g := 33) rfl fX8_302 rfl rfl rfl rfl ?_
            refine ax_callS (as := [_]) rfl sX8_305 hX8_bits rfl rfl rfl rfl (c_X8_bits E (d + 5) M1 (M1 35 33) (by omega)) (av_Xk ?_)
            refine ax_icmp_ne rfl (by omega) (by omega) (fun h65 => ?_) (fun h65 => ?_)
            · refine ax_iconst rfl ?_
              refine ax_istoren (ls' := [(0, _), (1, _), (2, _), (3, _)]) rfl rfl rfl ?_
              refine ax_iloadn rfl rfl ?_
              refine ax_if_eq rfl (by omega) (fun h86 => ?_) (fun h86 => ?_)
              · refine ax_iinc (ls' := [(0, _), (1, _), (2, _), (3, _)]) rfl rfl rfl rfl ?_
                refine ax_goto rfl ?_
                refine ax_pick [0, 1, 2] rfl ?_
                first
                  | omega
                  | (have hz : ¬ bi_and s (bi_xor on (-1)) = 0 := by omega
                     exact hno M1 hq eb (fun q => absurd (md.mpr q.1) hz))
                  | (have h1 : M1 35 33 ≠ -900000009 := by omega
                     have h2 : pcI (M1 35 33) < pcI s := by omega
                     exact hno M1 hq eb (fun _ => ⟨by omega, Or.inl (by rw [← eb]; exact h2)⟩))
                  | (have h1 : M1 35 33 ≠ -900000009 := by omega
                     have h2 : pcI (M1 35 33) = pcI s := by omega
                     have h3 := b01_eq (P := mI (M1 35 33) < mI s) (by omega)
                     exact hno M1 hq eb (fun _ => ⟨by omega, Or.inr ⟨by rw [← eb]; exact h2, by rw [← eb]; omega⟩⟩))
              · first
                  | omega
                  | (have hsub := md.mp (by omega)
                     have hbb : b = -900000009 ∨ pcI s < pcI b ∨ (pcI s = pcI b ∧ mI b < mI s) := by
                       rw [← eb]
                       first
                         | exact Or.inl (by omega)
                         | exact Or.inr (Or.inl (by omega))
                         | exact Or.inr (Or.inr ⟨by omega, b01_ne (P := mI (M1 35 33) < mI s) (by omega)⟩)
                     exact s_X8_layFewest E d M hR on hon hP h fx fy hG M1 hq s b ⟨s0, by omega⟩ eb hsub (fun M2 q2 e2 k => hno M2 q2 e2 (fun z => absurd z k)) (fun M2 q2 e2 k => hyes M2 q2 e2 k hbb))
            · refine ax_iloadn rfl rfl ?_
              refine ax_aloadn rfl rfl ?_
              refine ax_getI (g := 33) rfl fX8_302 rfl rfl rfl rfl ?_
              refine ax_callS (as := [_, _]) rfl sX8_309 hX8_isFirst rfl rfl rfl rfl (c_X8_isFirst E (d + 5) M1 s (M1 35 33) (by omega) (by omega)) (av_Xk ?_)
              refine ax_if_eq rfl (by omega) (fun h76 => ?_) (fun h76 => ?_)
              · refine ax_iconst rfl ?_
                refine ax_istoren (ls' := [(0, _), (1, _), (2, _), (3, _)]) rfl rfl rfl ?_
                refine ax_iloadn rfl rfl ?_
                refine ax_if_eq rfl (by omega) (fun h86 => ?_) (fun h86 => ?_)
                · refine ax_iinc (ls' := [(0, _), (1, _), (2, _), (3, _)]) rfl rfl rfl rfl ?_
                  refine ax_goto rfl ?_
                  refine ax_pick [0, 1, 2] rfl ?_
                  first
                    | omega
                    | (have hz : ¬ bi_and s (bi_xor on (-1)) = 0 := by omega
                       exact hno M1 hq eb (fun q => absurd (md.mpr q.1) hz))
                    | (have h1 : M1 35 33 ≠ -900000009 := by omega
                       have h2 : pcI (M1 35 33) < pcI s := by omega
                       exact hno M1 hq eb (fun _ => ⟨by omega, Or.inl (by rw [← eb]; exact h2)⟩))
                    | (have h1 : M1 35 33 ≠ -900000009 := by omega
                       have h2 : pcI (M1 35 33) = pcI s := by omega
                       have h3 := b01_eq (P := mI (M1 35 33) < mI s) (by omega)
                       exact hno M1 hq eb (fun _ => ⟨by omega, Or.inr ⟨by rw [← eb]; exact h2, by rw [← eb]; omega⟩⟩))
                · first
                    | omega
                    | (have hsub := md.mp (by omega)
                       have hbb : b = -900000009 ∨ pcI s < pcI b ∨ (pcI s = pcI b ∧ mI b < mI s) := by
                         rw [← eb]
                         first
                           | exact Or.inl (by omega)
                           | exact Or.inr (Or.inl (by omega))
                           | exact Or.inr (Or.inr ⟨by omega, b01_ne (P := mI (M1 35 33) < mI s) (by omega)⟩)
                       exact s_X8_layFewest E d M hR on hon hP h fx fy hG M1 hq s b ⟨s0, by omega⟩ eb hsub (fun M2 q2 e2 k => hno M2 q2 e2 (fun z => absurd z k)) (fun M2 q2 e2 k => hyes M2 q2 e2 k hbb))
              · refine ax_iconst rfl ?_
                refine ax_goto rfl ?_
                refine ax_istoren (ls' := [(0, _), (1, _), (2, _), (3, _)]) rfl rfl rfl ?_
                refine ax_iloadn rfl rfl ?_
                refine ax_if_eq rfl (by omega) (fun h86 => ?_) (fun h86 => ?_)
                · refine ax_iinc (ls' := [(0, _), (1, _), (2, _), (3, _)]) rfl rfl rfl rfl ?_
                  refine ax_goto rfl ?_
                  refine ax_pick [0, 1, 2] rfl ?_
                  first
                    | omega
                    | (have hz : ¬ bi_and s (bi_xor on (-1)) = 0 := by omega
                       exact hno M1 hq eb (fun q => absurd (md.mpr q.1) hz))
                    | (have h1 : M1 35 33 ≠ -900000009 := by omega
                       have h2 : pcI (M1 35 33) < pcI s := by omega
                       exact hno M1 hq eb (fun _ => ⟨by omega, Or.inl (by rw [← eb]; exact h2)⟩))
                    | (have h1 : M1 35 33 ≠ -900000009 := by omega
                       have h2 : pcI (M1 35 33) = pcI s := by omega
                       have h3 := b01_eq (P := mI (M1 35 33) < mI s) (by omega)
                       exact hno M1 hq eb (fun _ => ⟨by omega, Or.inr ⟨by rw [← eb]; exact h2, by rw [← eb]; omega⟩⟩))
                · first
                    | omega
                    | (have hsub := md.mp (by omega)
                       have hbb : b = -900000009 ∨ pcI s < pcI b ∨ (pcI s = pcI b ∧ mI b < mI s) := by
                         rw [← eb]
                         first
                           | exact Or.inl (by omega)
                           | exact Or.inr (Or.inl (by omega))
                           | exact Or.inr (Or.inr ⟨by omega, b01_ne (P := mI (M1 35 33) < mI s) (by omega)⟩)
                       exact s_X8_layFewest E d M hR on hon hP h fx fy hG M1 hq s b ⟨s0, by omega⟩ eb hsub (fun M2 q2 e2 k => hno M2 q2 e2 (fun z => absurd z k)) (fun M2 q2 e2 k => hyes M2 q2 e2 k hbb))
set_option maxRecDepth 100000 in
set_option maxHeartbeats 800000 in
theorem c_X8_layFewest (E : av_E) (d : Nat) (M : av_M) (hR : RWm M) (on : Int) (hon : ONm M on) (hP : RPm M) (h : Int) (fx fy : Int → Int) (hG : FG (M 35 0) (M 36) (M 37) h fx fy) : av_Mt E (d + 6) mX8_layFewest [vR 35] M (fun res M' => res = none ∧ (∃ b, M' 35 33 = b ∧ BFr (SHr M on h fx fy) b) ∧ RQ M M') := by
  have hw := hR.1
  have W := shw hw
  refine av_enter hX8_layFewest oX8_layFewest rfl rfl ?_
  refine ax_aloadn rfl rfl ?_
  refine ax_callV (as := []) rfl vX8_255 hX8_setOn rfl rfl rfl rfl rfl (c_X8_setOn1 E (d + 5) M hR on hon) (av_Xk ?_)
  refine ax_istoren (ls' := [(0, _), (1, _)]) rfl rfl rfl ?_
  refine ax_aloadn rfl rfl ?_
  refine ax_ldc (z := (-900000009)) rfl kX8_204 rfl ?_
  refine ax_putI' (g := 33) rfl gX8_302 rfl rfl rfl rfl (fun M8 a8 b8 c8 => ?_)
  refine ax_iconst rfl ?_
  refine ax_istoren (ls' := [(0, _), (1, _), (2, _)]) rfl rfl rfl ?_
  refine l_X8_layFewest E d M hR on hon hP h fx fy hG (bi_shl 1 (M 35 23) - 1).toNat 1 (-900000009) M8 (by omega) (by omega) ⟨fun k k0 => c8 k (by omega), fun f hf => b8 f (by omega), fun k hk => c8 k (by omega)⟩ a8 (Or.inl ⟨rfl, fun q q0 q1 => by omega⟩)
