/-! ===== where the meets fall; whether a set of walls shows the figure ===== -/
def HH (M : av_M) (p : pt) : Prop := HdM (M 5) (M 6) (M 7) (M 8) (M 4 4) (M 4 5) p
def cc (M : av_M) (j : Nat) : pt := cn (M 5) (M 6) (M 7) (M 8) j
def p2 (M : av_M) (m : Int) : pt := P2 (M 19 m) (M 20 m) (M 22 m)
/-- where a place falls, as the class notes it -/
def CB (M : av_M) (p : pt) (z : Int) : Prop := (z = -1 ∧ ¬ HH M p) ∨ (HH M p ∧ 0 ≤ z ∧ z < 4096 ∧ ∀ j : Nat, z.toNat.testBit j = true ↔ ((j : Int) < M 4 5 ∧ cc M j = p))
def FIm (M : av_M) (S : pt → Prop) : Prop := FO (M 5) (M 6) (M 7) (M 8) (M 4 4) (M 4 5) S
theorem FIm_h {M : av_M} {S : pt → Prop} (h : FIm M S) : 0 ≤ M 4 5 ∧ M 4 5 ≤ M 4 4 ∧ M 4 4 ≤ 12 := ⟨h.1.2.1, OO_le h.1, h.2.1⟩
theorem FIm_inj {M : av_M} {S : pt → Prop} (h : FIm M S) {i j : Nat} (hi : (i : Int) < M 4 5) (hj : (j : Int) < M 4 5) (e : cc M i = cc M j) : i = j := by
  have hb := FIm_h h
  exact Hull_inj (h.1.2.2.2.2 (by omega)) i j (by omega) (by omega) e
theorem p4096 : (2 : Nat) ^ 12 = 4096 := by rfl
theorem bor12 {a b : Int} (ha : 0 ≤ a ∧ a < 4096) (hb : 0 ≤ b ∧ b < 4096) : 0 ≤ bi_or a b ∧ bi_or a b < 4096 ∧ ∀ j : Nat, (bi_or a b).toNat.testBit j = true ↔ (a.toNat.testBit j = true ∨ b.toNat.testBit j = true) := by
  obtain ⟨n, rfl⟩ := bset_of ha.1
  obtain ⟨m, rfl⟩ := bset_of hb.1
  rw [bi_n_or (by omega) (by omega)]
  have := p4096
  have hlt : n ||| m < 2 ^ 12 := Nat.or_lt_two_pow (by omega) (by omega)
  refine ⟨Int.natCast_nonneg _, by omega, fun j => ?_⟩
  rw [Int.toNat_natCast, Int.toNat_natCast, Int.toNat_natCast, Nat.testBit_or, Bool.or_eq_true]
theorem shl12 {k : Int} (hk : 0 ≤ k ∧ k < 13) : ∃ n : Nat, bi_shl 1 k = (n : Int) ∧ n = 2 ^ k.toNat ∧ n ≤ 4096 := by
  obtain ⟨n, rfl⟩ := Int.eq_ofNat_of_zero_le hk.1
  have hp : (2 : Nat) ^ n ≤ 2 ^ 12 := Nat.pow_le_pow_right (by omega) (by omega)
  have h12 := p4096
  exact ⟨2 ^ n, bi_n_shl1 (by omega), by rw [Int.toNat_natCast], by omega⟩
theorem all12 {h : Int} (hh : 0 ≤ h ∧ h ≤ 12) : 0 ≤ bi_shl 1 h - 1 ∧ bi_shl 1 h - 1 < 4096 ∧ ∀ j : Nat, (bi_shl 1 h - 1).toNat.testBit j = true ↔ (j : Int) < h := by
  obtain ⟨n, e, e2, hl⟩ := shl12 (k := h) (by omega)
  have hp : 0 < n := by rw [e2]; exact Nat.two_pow_pos _
  rw [e]
  refine ⟨by omega, by omega, fun j => ?_⟩
  rw [show ((n : Int) - 1).toNat = n - 1 by omega, e2, Nat.testBit_two_pow_sub_one, decide_eq_true_eq]
  omega
theorem eq_bits {a b : Int} (ha : 0 ≤ a) (hb : 0 ≤ b) (h : ∀ j : Nat, a.toNat.testBit j = true ↔ b.toNat.testBit j = true) : a = b := by
  have : a.toNat = b.toNat := Nat.eq_of_testBit_eq (fun j => by
    have := h j
    cases h1 : a.toNat.testBit j <;> cases h2 : b.toNat.testBit j <;> simp_all)
  omega
def FL (M : av_M) : Prop := ∀ m, 0 ≤ m → m < M 18 8 → CB M (p2 M m) (M 34 m)
def SHW (M : av_M) (set : Int) : Prop := (∀ m, 0 ≤ m → m < M 18 8 → IV (M 23) (M 24) m set → HH M (p2 M m)) ∧ (∀ j : Nat, (j : Int) < M 4 5 → ∃ m, 0 ≤ m ∧ m < M 18 8 ∧ IV (M 23) (M 24) m set ∧ cc M j = p2 M m) ∧ ¬ IE (M 26) (M 18 9) set
def HB (M : av_M) (P : Int → Prop) (n v : Int) : Prop := 0 ≤ v ∧ v < 4096 ∧ ∀ j : Nat, v.toNat.testBit j = true ↔ ((j : Int) < M 4 5 ∧ ∃ m, 0 ≤ m ∧ m < n ∧ P m ∧ cc M j = p2 M m)
theorem HB_in {M : av_M} {P : Int → Prop} {n v z : Int} (h : HB M P n v) (hn : 0 ≤ n) (hP : P n) (hz : CB M (p2 M n) z) (hne : z ≠ -1) : HB M P (n + 1) (bi_or v z) := by
  rcases hz with ⟨e, -⟩ | ⟨-, z0, z1, hz⟩
  · exact absurd e hne
  · have b := bor12 ⟨h.1, h.2.1⟩ ⟨z0, z1⟩
    refine ⟨b.1, b.2.1, fun j => ?_⟩
    rw [b.2.2 j, h.2.2 j, hz j]
    constructor
    · rintro (⟨a, m, m0, m1, q, e⟩ | ⟨a, e⟩)
      · exact ⟨a, m, m0, by omega, q, e⟩
      · exact ⟨a, n, hn, by omega, hP, e⟩
    · rintro ⟨a, m, m0, m1, q, e⟩
      by_cases hm : m = n
      · exact Or.inr ⟨a, by rw [← hm]; exact e⟩
      · exact Or.inl ⟨a, m, m0, by omega, q, e⟩
theorem HB_out {M : av_M} {P : Int → Prop} {n v : Int} (h : HB M P n v) (hP : ¬ P n) : HB M P (n + 1) v := by
  refine ⟨h.1, h.2.1, fun j => ?_⟩
  rw [h.2.2 j]
  constructor
  · rintro ⟨a, m, m0, m1, q, e⟩; exact ⟨a, m, m0, by omega, q, e⟩
  · rintro ⟨a, m, m0, m1, q, e⟩
    by_cases hm : m = n
    · exact absurd (by rw [← hm]; exact q) hP
    · exact ⟨a, m, m0, by omega, q, e⟩
theorem HB_0 (M : av_M) (P : Int → Prop) : HB M P 0 0 := ⟨by omega, by omega, fun j => by
  rw [show (0 : Int).toNat = 0 by rfl, Nat.zero_testBit]
  constructor
  · intro h; cases h
  · rintro ⟨_, m, m0, m1, _⟩; omega⟩
theorem HB_all {M : av_M} {S : pt → Prop} (hF : FIm M S) {P : Int → Prop} {n v : Int} (h : HB M P n v) : v = bi_shl 1 (M 4 5) - 1 ↔ ∀ j : Nat, (j : Int) < M 4 5 → ∃ m, 0 ≤ m ∧ m < n ∧ P m ∧ cc M j = p2 M m := by
  have b := FIm_h hF
  have a := all12 (h := M 4 5) (by omega)
  constructor
  · intro e j hj
    have := (a.2.2 j).mpr hj
    rw [← e] at this
    exact ((h.2.2 j).mp this).2
  · intro q
    refine eq_bits h.1 a.1 (fun j => ?_)
    rw [h.2.2 j, a.2.2 j]
    exact ⟨fun x => x.1, fun x => ⟨x, q j x⟩⟩
set_option maxRecDepth 100000 in
set_option maxHeartbeats 800000 in
theorem c_X1_cast (E : av_E) (d : Nat) (M : av_M) (S : pt → Prop) (hF : FIm M S) (x y w : Int) (hp : BP x y w) : av_Mt E (d + 3) mX1_cast [vR 4, vI x, vI y, vI w] M (fun res M' => M' = M ∧ ∃ z, res = some (vI z) ∧ CB M (P2 x y w) z) := by
  have hb := FIm_h hF
  have b1 := b01_rng (HdM (M 5) (M 6) (M 7) (M 8) (M 4 4) (M 4 5) (P2 x y w))
  refine av_enter hX1_cast oX1_cast rfl rfl ?_
  refine ax_aloadn rfl rfl ?_
  refine ax_iloadn rfl rfl ?_
  refine ax_iloadn rfl rfl ?_
  refine ax_iloadn rfl rfl ?_
  refine ax_callV (as := [_, _, _]) rfl vX1_94 hX4_holds rfl rfl rfl rfl rfl (c_H_holds E d M S x y w hp hF.1 (by omega) (by omega)) (av_Xk ?_)
  refine ax_if_ne rfl (by omega) (fun h7 => ?_) (fun h7 => ?_)
  · refine ax_aloadn rfl rfl ?_
    refine ax_iloadn rfl rfl ?_
    refine ax_iloadn rfl rfl ?_
    refine ax_iloadn rfl rfl ?_
    refine ax_callV (as := [_, _, _]) rfl vX1_98 hX4_cornerAt rfl rfl rfl rfl rfl (c_H_cornerAt E d M S x y w hp hF.1 (by omega) (by omega)) (fun r16 M16 hr16 => ?_)
    obtain ⟨rfl, z, rfl, hz⟩ := hr16
    refine ax_istore (ls' := [(0, _), (1, _), (2, _), (3, _), (4, _)]) rfl rfl rfl ?_
    refine ax_iload rfl rfl ?_
    refine ax_if_ge rfl (by rcases hz with hz | hz <;> omega) (fun h23 => ?_) (fun h23 => ?_)
    · refine ax_iconst rfl ?_
      refine ax_iload rfl rfl ?_
      refine ax_ishl rfl ?_
      refine ax_iret rfl rfl ?_
      refine ⟨rfl, _, rfl, Or.inr ⟨b01_ne h7, ?_⟩⟩
      rcases hz with ⟨z0, z1, e⟩ | ⟨e, hno⟩
      · first
          | (exfalso; omega)
          | (obtain ⟨n, e1, e2, hl⟩ := shl12 (k := z) (by omega)
             have hlt : n < 4096 := by
               rw [e2, ← p4096]
               exact Nat.pow_lt_pow_right (by omega) (by omega)
             rw [e1]
             refine ⟨Int.natCast_nonneg _, by omega, fun j => ?_⟩
             rw [Int.toNat_natCast, e2, tb_pow, decide_eq_true_eq]
             constructor
             · intro q; rw [← q]; exact ⟨by omega, e⟩
             · rintro ⟨q1, q2⟩
               exact FIm_inj hF (by omega) q1 (e.trans q2.symm))
      · first
          | (exfalso; omega)
          | (refine ⟨by omega, by omega, fun j => ?_⟩
             rw [show (0 : Int).toNat = 0 by rfl, Nat.zero_testBit]
             constructor
             · intro q; cases q
             · rintro ⟨q1, q2⟩; exact absurd q2 (hno j q1))
    · refine ax_iconst rfl ?_
      refine ax_goto rfl ?_
      refine ax_iret rfl rfl ?_
      refine ⟨rfl, _, rfl, Or.inr ⟨b01_ne h7, ?_⟩⟩
      rcases hz with ⟨z0, z1, e⟩ | ⟨e, hno⟩
      · first
          | (exfalso; omega)
          | (obtain ⟨n, e1, e2, hl⟩ := shl12 (k := z) (by omega)
             have hlt : n < 4096 := by
               rw [e2, ← p4096]
               exact Nat.pow_lt_pow_right (by omega) (by omega)
             rw [e1]
             refine ⟨Int.natCast_nonneg _, by omega, fun j => ?_⟩
             rw [Int.toNat_natCast, e2, tb_pow, decide_eq_true_eq]
             constructor
             · intro q; rw [← q]; exact ⟨by omega, e⟩
             · rintro ⟨q1, q2⟩
               exact FIm_inj hF (by omega) q1 (e.trans q2.symm))
      · first
          | (exfalso; omega)
          | (refine ⟨by omega, by omega, fun j => ?_⟩
             rw [show (0 : Int).toNat = 0 by rfl, Nat.zero_testBit]
             constructor
             · intro q; cases q
             · rintro ⟨q1, q2⟩; exact absurd q2 (hno j q1))
  · refine ax_iconst rfl ?_
    refine ax_iret rfl rfl ?_
    have q : b01 (HdM (M 5) (M 6) (M 7) (M 8) (M 4 4) (M 4 5) (P2 x y w)) = 0 := by omega
    exact ⟨rfl, _, rfl, Or.inl ⟨rfl, b01_eq q⟩⟩
set_option maxRecDepth 100000 in
set_option maxHeartbeats 800000 in
theorem l_X1_castAll (E : av_E) (d : Nat) (M : av_M) (S : pt → Prop) (hF : FIm M S) (hM : MIm M) (on : Int) (hon : 0 ≤ on ∧ on < 1024) : ∀ (t : Nat) (m v : Int) (M1 : av_M), m + t = M 18 8 → 0 ≤ m → HB M (fun m => HH M (p2 M m) ∧ ∀ j : Nat, (M 23 m).toNat.testBit j = true → on.toNat.testBit j = true) m v → (∀ m', 0 ≤ m' → m' < m → CB M (p2 M m') (M1 34 m')) → (∀ k, k ≠ 34 → M1 k = M k) → av_S E (d + 4) mX1_castAll 6 [(0, vR 33), (1, vR 4), (2, vR 18), (3, vI on), (4, vI v), (5, vI m)] [] M1 (fun res M' => (∃ v, res = some (vI v) ∧ HB M (fun m => HH M (p2 M m) ∧ ∀ j : Nat, (M 23 m).toNat.testBit j = true → on.toNat.testBit j = true) (M 18 8) v) ∧ (∀ m, 0 ≤ m → m < M 18 8 → CB M (p2 M m) (M' 34 m)) ∧ ∀ k, k ≠ 34 → M' k = M k) := by
  have hs := hM.2.2.1
  intro t
  induction t with
  | zero =>
    intro m v M1 hi m0 hH hC hf
    have em : m = M 18 8 := by omega
    subst em
    have f18 := hf 18 (by decide)
    refine ax_iload rfl rfl ?_
    refine ax_aloadn rfl rfl ?_
    refine ax_callV (as := []) rfl vX1_74 hX3_size rfl rfl rfl rfl rfl (c_X3_size E (d + 3) M1) (av_Xk ?_)
    refine ax_icmp_ge rfl (by omega) (by rw [f18]; omega) (fun h12 => ?_) (fun h12 => ?_)
    · refine ax_iload rfl rfl ?_
      refine ax_iret rfl rfl ?_
      exact ⟨⟨v, rfl, hH⟩, hC, hf⟩
    · rw [f18] at h12; omega
  | succ t ih =>
    intro m v M1 hi m0 hH hC hf
    have f18 := hf 18 (by decide)
    have f19 := hf 19 (by decide)
    have f20 := hf 20 (by decide)
    have f22 := hf 22 (by decide)
    have f23 := hf 23 (by decide)
    have bb := MTI_bits hM.1 m0 (by omega)
    have br := MTI_rng hM.1 m m0 (by omega)
    have hF1 : FIm M1 S := by unfold FIm; rw [hf 4 (by decide), hf 5 (by decide), hf 6 (by decide), hf 7 (by decide), hf 8 (by decide)]; exact hF
    have hBP : BP (M1 19 m) (M1 20 m) (M1 22 m) := by rw [f19, f20, f22]; unfold BP; omega
    have eCB : ∀ p z, CB M1 p z ↔ CB M p z := fun p z => by
      unfold CB HH cc
      rw [hf 4 (by decide), hf 5 (by decide), hf 6 (by decide), hf 7 (by decide), hf 8 (by decide)]
    have ep : P2 (M1 19 m) (M1 20 m) (M1 22 m) = p2 M m := by unfold p2; rw [f19, f20, f22]
    refine ax_iload rfl rfl ?_
    refine ax_aloadn rfl rfl ?_
    refine ax_callV (as := []) rfl vX1_74 hX3_size rfl rfl rfl rfl rfl (c_X3_size E (d + 3) M1) (av_Xk ?_)
    refine ax_icmp_ge rfl (by omega) (by rw [f18]; omega) (fun h12 => ?_) (fun h12 => ?_)
    · rw [f18] at h12; omega
    · refine ax_aloadn rfl rfl ?_
      refine ax_getR rfl fX1_9 rfl rfl ?_
      refine ax_iload rfl rfl ?_
      refine ax_aloadn rfl rfl ?_
      refine ax_aloadn rfl rfl ?_
      refine ax_iload rfl rfl ?_
      refine ax_callV (as := [_]) rfl vX1_77 hX3_xOf rfl rfl rfl rfl rfl (c_X3_xOf E (d + 3) M1 m (by omega)) (av_Xk ?_)
      refine ax_aloadn rfl rfl ?_
      refine ax_iload rfl rfl ?_
      refine ax_callV (as := [_]) rfl vX1_80 hX3_yOf rfl rfl rfl rfl rfl (c_X3_yOf E (d + 3) M1 m (by omega)) (av_Xk ?_)
      refine ax_aloadn rfl rfl ?_
      refine ax_iload rfl rfl ?_
      refine ax_callV (as := [_]) rfl vX1_83 hX3_wOf rfl rfl rfl rfl rfl (c_X3_wOf E (d + 3) M1 m (by omega)) (av_Xk ?_)
      refine ax_callS (as := [_, _, _, _]) rfl sX1_86 hX1_cast rfl rfl rfl rfl (c_X1_cast E d M1 S hF1 _ _ _ hBP) (fun r40 M40 hr40 => ?_)
      obtain ⟨rfl, z, rfl, hz⟩ := hr40
      rw [eCB, ep] at hz
      refine ax_iast' rfl rfl (by omega) (fun M43 a43 b43 c43 => ?_)
      have hz2 : CB M (p2 M m) (M43 34 m) := by rw [a43]; exact hz
      have hzr : -2147483648 ≤ M43 34 m ∧ M43 34 m < 2147483648 := by
        rcases hz2 with ⟨e, -⟩ | ⟨-, e1, e2, -⟩ <;> omega
      have hC2 : ∀ m', 0 ≤ m' → m' < m + 1 → CB M (p2 M m') (M43 34 m') := fun m' a b => by
        by_cases hm : m' = m
        · rw [hm]; exact hz2
        · rw [b43 m' hm]; exact hC m' a (by omega)
      have hf2 : ∀ k, k ≠ 34 → M43 k = M k := fun k hk => by rw [c43 k hk, hf k hk]
      have b01m := b01_rng (∀ j : Nat, (M43 23 m).toNat.testBit j = true → on.toNat.testBit j = true)
      have eqm : (∀ j : Nat, (M43 23 m).toNat.testBit j = true → on.toNat.testBit j = true) ↔ (∀ j : Nat, (M 23 m).toNat.testBit j = true → on.toNat.testBit j = true) := by rw [hf2 23 (by decide)]
      have hneg : M43 34 m = -1 → ¬ HH M (p2 M m) := fun e => by
        rcases hz2 with ⟨_, q⟩ | ⟨_, e1, _⟩
        · exact q
        · omega
      have hpos : M43 34 m ≠ -1 → HH M (p2 M m) := fun e => by
        rcases hz2 with ⟨q, _⟩ | ⟨q, _⟩
        · exact absurd q e
        · exact q
      refine ax_aloadn rfl rfl ?_
      refine ax_getR rfl fX1_9 rfl rfl ?_
      refine ax_iload rfl rfl ?_
      refine ax_iald rfl rfl (by omega) ?_
      refine ax_iconst rfl ?_
      refine ax_icmp_eq rfl (hzr) (by omega) (fun h52 => ?_) (fun h52 => ?_)
      · refine ax_iinc (ls' := [(0, _), (1, _), (2, _), (3, _), (4, _), (5, _)]) rfl rfl rfl rfl ?_
        refine ax_goto rfl ?_
        first
          | exact ih _ _ M43 (by omega) (by omega) (HB_out hH (fun q => hneg h52 q.1)) hC2 hf2
          | exact ih _ _ M43 (by omega) (by omega) (HB_out hH (fun q => (b01_eq h62) (eqm.mpr q.2))) hC2 hf2
          | exact ih _ _ M43 (by omega) (by omega) (HB_in hH m0 ⟨hpos h52, eqm.mp (b01_ne h62)⟩ hz2 h52) hC2 hf2
      · refine ax_aloadn rfl rfl ?_
        refine ax_iload rfl rfl ?_
        refine ax_iloadn rfl rfl ?_
        refine ax_callV (as := [_, _]) rfl vX1_90 hX3_isMadeBy rfl rfl rfl rfl rfl (c_X3_isMadeBy E (d + 3) M43 m on (by omega) (by rw [c43 23 (by decide), f23]; exact bb.1) hon) (av_Xk ?_)
        refine ax_if_eq rfl (by omega) (fun h62 => ?_) (fun h62 => ?_)
        · refine ax_iinc (ls' := [(0, _), (1, _), (2, _), (3, _), (4, _), (5, _)]) rfl rfl rfl rfl ?_
          refine ax_goto rfl ?_
          first
            | exact ih _ _ M43 (by omega) (by omega) (HB_out hH (fun q => hneg h52 q.1)) hC2 hf2
            | exact ih _ _ M43 (by omega) (by omega) (HB_out hH (fun q => (b01_eq h62) (eqm.mpr q.2))) hC2 hf2
            | exact ih _ _ M43 (by omega) (by omega) (HB_in hH m0 ⟨hpos h52, eqm.mp (b01_ne h62)⟩ hz2 h52) hC2 hf2
        · refine ax_iload rfl rfl ?_
          refine ax_aloadn rfl rfl ?_
          refine ax_getR rfl fX1_9 rfl rfl ?_
          refine ax_iload rfl rfl ?_
          refine ax_iald rfl rfl (by omega) ?_
          refine ax_ior rfl ?_
          refine ax_istore (ls' := [(0, _), (1, _), (2, _), (3, _), (4, _), (5, _)]) rfl rfl rfl ?_
          refine ax_iinc (ls' := [(0, _), (1, _), (2, _), (3, _), (4, _), (5, _)]) rfl rfl rfl rfl ?_
          refine ax_goto rfl ?_
          first
            | exact ih _ _ M43 (by omega) (by omega) (HB_out hH (fun q => hneg h52 q.1)) hC2 hf2
            | exact ih _ _ M43 (by omega) (by omega) (HB_out hH (fun q => (b01_eq h62) (eqm.mpr q.2))) hC2 hf2
            | exact ih _ _ M43 (by omega) (by omega) (HB_in hH m0 ⟨hpos h52, eqm.mp (b01_ne h62)⟩ hz2 h52) hC2 hf2
set_option maxRecDepth 100000 in
set_option maxHeartbeats 800000 in
theorem c_X1_castAll (E : av_E) (d : Nat) (M : av_M) (S : pt → Prop) (hF : FIm M S) (hM : MIm M) (on : Int) (hon : 0 ≤ on ∧ on < 1024) : av_Mt E (d + 4) mX1_castAll [vR 33, vR 4, vR 18, vI on] M (fun res M' => (∃ v, res = some (vI v) ∧ HB M (fun m => HH M (p2 M m) ∧ ∀ j : Nat, (M 23 m).toNat.testBit j = true → on.toNat.testBit j = true) (M 18 8) v) ∧ (∀ m, 0 ≤ m → m < M 18 8 → CB M (p2 M m) (M' 34 m)) ∧ ∀ k, k ≠ 34 → M' k = M k) := by
  have h0 := hM.1.1
  refine av_enter hX1_castAll oX1_castAll rfl rfl ?_
  refine ax_iconst rfl ?_
  refine ax_istore (ls' := [(0, _), (1, _), (2, _), (3, _), (4, _)]) rfl rfl rfl ?_
  refine ax_iconst rfl ?_
  refine ax_istore (ls' := [(0, _), (1, _), (2, _), (3, _), (4, _), (5, _)]) rfl rfl rfl ?_
  exact l_X1_castAll E d M S hF hM on hon (M 18 8).toNat 0 0 M (by omega) (by omega) (HB_0 _ _) (fun m a b => by omega) (fun k _ => rfl)
set_option maxRecDepth 100000 in
set_option maxHeartbeats 800000 in
theorem l_X1_shows (E : av_E) (d : Nat) (M : av_M) (S : pt → Prop) (hF : FIm M S) (hM : MIm M) (hL : FL M) (set : Int) (hset : 0 ≤ set ∧ set < 1024) : ∀ (t : Nat) (m v : Int), m + t = M 18 8 → 0 ≤ m → HB M (fun m => IV (M 23) (M 24) m set) m v → (∀ m', 0 ≤ m' → m' < m → IV (M 23) (M 24) m' set → HH M (p2 M m')) → av_S E (d + 2) mX1_shows 6 [(0, vR 33), (1, vR 18), (2, vI set), (3, vI (bi_shl 1 (M 4 5) - 1)), (4, vI v), (5, vI m)] [] M (av_X (some (vI (b01 (SHW M set)))) M) := by
  have hs := hM.2.2.1
  have hb := FIm_h hF
  have ha := all12 (h := M 4 5) (by omega)
  have h90 := hM.2.1.1
  intro t
  induction t with
  | zero =>
    intro m v hi m0 hH hC
    have em : m = M 18 8 := by omega
    subst em
    have hAll := HB_all hF hH
    have hv := hH.1
    have hv1 := hH.2.1
    have b1 := b01_rng (IE (M 26) (M 18 9) set)
    refine ax_iload rfl rfl ?_
    refine ax_aloadn rfl rfl ?_
    refine ax_callV (as := []) rfl vX1_74 hX3_size rfl rfl rfl rfl rfl (c_X3_size E (d + 1) M) (av_Xk ?_)
    refine ax_icmp_ge rfl (by omega) (by omega) (fun h12 => ?_) (fun h12 => ?_)
    · refine ax_iload rfl rfl ?_
      refine ax_iloadn rfl rfl ?_
      refine ax_icmp_ne rfl (by omega) (by omega) (fun h59 => ?_) (fun h59 => ?_)
      · refine ax_iconst rfl ?_
        refine ax_zret rfl rfl (by omega) ?_
        first
          | exact av_rI (b01_t ⟨hC, hAll.mp (by omega), b01_eq (by omega)⟩).symm
          | exact av_rI (b01_f (fun q => by have := hAll.mpr q.2.1; omega)).symm
          | exact av_rI (b01_f (fun q => q.2.2 (b01_ne (by omega)))).symm
      · refine ax_aloadn rfl rfl ?_
        refine ax_iloadn rfl rfl ?_
        refine ax_callV (as := [_]) rfl vX1_105 hX3_isEndless rfl rfl rfl rfl rfl (c_X3_isEndless E (d + 1) M set hset ⟨h90, hM.2.2.2⟩ (fun r r0 r1 => MTR_bits hM.2.1 r0 r1)) (av_Xk ?_)
        refine ax_if_ne rfl (by omega) (fun h67 => ?_) (fun h67 => ?_)
        · refine ax_iconst rfl ?_
          refine ax_zret rfl rfl (by omega) ?_
          first
            | exact av_rI (b01_t ⟨hC, hAll.mp (by omega), b01_eq (by omega)⟩).symm
            | exact av_rI (b01_f (fun q => by have := hAll.mpr q.2.1; omega)).symm
            | exact av_rI (b01_f (fun q => q.2.2 (b01_ne (by omega)))).symm
        · refine ax_iconst rfl ?_
          refine ax_goto rfl ?_
          refine ax_zret rfl rfl (by omega) ?_
          first
            | exact av_rI (b01_t ⟨hC, hAll.mp (by omega), b01_eq (by omega)⟩).symm
            | exact av_rI (b01_f (fun q => by have := hAll.mpr q.2.1; omega)).symm
            | exact av_rI (b01_f (fun q => q.2.2 (b01_ne (by omega)))).symm
    · omega
  | succ t ih =>
    intro m v hi m0 hH hC
    have bb := MTI_bits hM.1 m0 (by omega)
    have hz := hL m m0 (by omega)
    have hzr : -2147483648 ≤ M 34 m ∧ M 34 m < 2147483648 := by
      rcases hz with ⟨e, -⟩ | ⟨-, e1, e2, -⟩ <;> omega
    have b1 := b01_rng (IV (M 23) (M 24) m set)
    have hneg : M 34 m = -1 → ¬ HH M (p2 M m) := fun e => by
      rcases hz with ⟨_, q⟩ | ⟨_, e1, _⟩
      · exact q
      · omega
    have hpos : M 34 m ≠ -1 → HH M (p2 M m) := fun e => by
      rcases hz with ⟨q, _⟩ | ⟨q, _⟩
      · exact absurd q e
      · exact q
    refine ax_iload rfl rfl ?_
    refine ax_aloadn rfl rfl ?_
    refine ax_callV (as := []) rfl vX1_74 hX3_size rfl rfl rfl rfl rfl (c_X3_size E (d + 1) M) (av_Xk ?_)
    refine ax_icmp_ge rfl (by omega) (by omega) (fun h12 => ?_) (fun h12 => ?_)
    · omega
    · refine ax_aloadn rfl rfl ?_
      refine ax_iload rfl rfl ?_
      refine ax_iloadn rfl rfl ?_
      refine ax_callV (as := [_, _]) rfl vX1_102 hX3_isVertex rfl rfl rfl rfl rfl (c_X3_isVertex E d M m set (by omega) bb.1 hset bb.2.1) (av_Xk ?_)
      refine ax_if_eq rfl (by omega) (fun h22 => ?_) (fun h22 => ?_)
      · refine ax_iinc (ls' := [(0, _), (1, _), (2, _), (3, _), (4, _), (5, _)]) rfl rfl rfl rfl ?_
        refine ax_goto rfl ?_
        first
          | exact ih _ _ (by omega) (by omega) (HB_out hH (b01_eq h22)) (fun m' a b q => by
              by_cases hm : m' = m
              · rw [hm] at q; exact absurd q (b01_eq h22)
              · exact hC m' a (by omega) q)
          | exact ih _ _ (by omega) (by omega) (HB_in hH m0 (b01_ne h22) hz h33) (fun m' a b q => by
              by_cases hm : m' = m
              · rw [hm]; exact hpos h33
              · exact hC m' a (by omega) q)
      · refine ax_aloadn rfl rfl ?_
        refine ax_getR rfl fX1_9 rfl rfl ?_
        refine ax_iload rfl rfl ?_
        refine ax_iald rfl rfl (by omega) ?_
        refine ax_iconst rfl ?_
        refine ax_icmp_ne rfl (hzr) (by omega) (fun h33 => ?_) (fun h33 => ?_)
        · refine ax_iload rfl rfl ?_
          refine ax_aloadn rfl rfl ?_
          refine ax_getR rfl fX1_9 rfl rfl ?_
          refine ax_iload rfl rfl ?_
          refine ax_iald rfl rfl (by omega) ?_
          refine ax_ior rfl ?_
          refine ax_istore (ls' := [(0, _), (1, _), (2, _), (3, _), (4, _), (5, _)]) rfl rfl rfl ?_
          refine ax_iinc (ls' := [(0, _), (1, _), (2, _), (3, _), (4, _), (5, _)]) rfl rfl rfl rfl ?_
          refine ax_goto rfl ?_
          first
            | exact ih _ _ (by omega) (by omega) (HB_out hH (b01_eq h22)) (fun m' a b q => by
                by_cases hm : m' = m
                · rw [hm] at q; exact absurd q (b01_eq h22)
                · exact hC m' a (by omega) q)
            | exact ih _ _ (by omega) (by omega) (HB_in hH m0 (b01_ne h22) hz h33) (fun m' a b q => by
                by_cases hm : m' = m
                · rw [hm]; exact hpos h33
                · exact hC m' a (by omega) q)
        · refine ax_iconst rfl ?_
          refine ax_zret rfl rfl (by omega) ?_
          exact av_rI (b01_f (fun q => hneg (by omega) (q.1 m m0 (by omega) (b01_ne h22)))).symm
set_option maxRecDepth 100000 in
set_option maxHeartbeats 800000 in
theorem c_X1_shows (E : av_E) (d : Nat) (M : av_M) (S : pt → Prop) (hF : FIm M S) (hM : MIm M) (hL : FL M) (set : Int) (hset : 0 ≤ set ∧ set < 1024) : av_Mt E (d + 2) mX1_shows [vR 33, vR 18, vI set, vI (bi_shl 1 (M 4 5) - 1)] M (av_X (some (vI (b01 (SHW M set)))) M) := by
  have h0 := hM.1.1
  refine av_enter hX1_shows oX1_shows rfl rfl ?_
  refine ax_iconst rfl ?_
  refine ax_istore (ls' := [(0, _), (1, _), (2, _), (3, _), (4, _)]) rfl rfl rfl ?_
  refine ax_iconst rfl ?_
  refine ax_istore (ls' := [(0, _), (1, _), (2, _), (3, _), (4, _), (5, _)]) rfl rfl rfl ?_
  exact l_X1_shows E d M S hF hM hL set hset (M 18 8).toNat 0 0 (by omega) (by omega) (HB_0 _ _) (fun m a b => by omega)
