/-! ===== bits counted and mirrored; the set of the fewest walls ===== -/
def bc1 (x : Int) : Int := x - bi_and (bi_ushr x 1) 1431655765
def bc2 (x : Int) : Int := bi_and x 858993459 + bi_and (bi_ushr x 2) 858993459
def bc3 (x : Int) : Int := bi_and (x + bi_ushr x 4) 252645135
def bc4 (x : Int) : Int := x + bi_ushr x 8
def bc5 (x : Int) : Int := bi_and (x + bi_ushr x 16) 63
def bcI (x : Int) : Int := bc5 (bc4 (bc3 (bc2 (bc1 x))))
theorem bc_all : ∀ n : Nat, n < 1024 → bcI (n : Int) = ((popc n 10 : Nat) : Int) := by decide +kernel
def pcI (x : Int) : Int := ((popc x.toNat 10 : Nat) : Int)
theorem pcI_rng {x : Int} : 0 ≤ pcI x ∧ pcI x ≤ 10 := by
  have : ∀ a n, popc a n ≤ n := fun a n => by
    induction n with
    | zero => exact Nat.le_refl 0
    | succ n ih =>
      show popc a n + (if a.testBit n then 1 else 0) ≤ n + 1
      split <;> omega
  have := this x.toNat 10
  unfold pcI; omega
def mvI (x : Int) : Nat → Int
  | 0 => 0
  | k + 1 => bi_or (mvI x k) (bi_shl (bi_and (bi_shr x (k : Int)) 1) (9 - (k : Int)))
def mirN (n : Nat) : Nat → Nat
  | 0 => 0
  | k + 1 => mirN n k + (if n.testBit k then 2 ^ (9 - k) else 0)
theorem mv_all : ∀ n : Nat, n < 1024 → mvI (n : Int) 10 = ((mirN n 10 : Nat) : Int) := by decide +kernel
theorem mir_lt : ∀ n : Nat, n < 1024 → mirN n 10 < 1024 ∧ mirN (mirN n 10) 10 = n ∧ popc (mirN n 10) 10 = popc n 10 := by decide +kernel
theorem mir_bit : ∀ n : Nat, n < 1024 → ∀ j, j < 10 → (mirN n 10).testBit j = n.testBit (9 - j) := by decide +kernel
def mI (x : Int) : Int := ((mirN x.toNat 10 : Nat) : Int)
theorem mI_all {x : Int} (h : 0 ≤ x ∧ x < 1024) : (0 ≤ mI x ∧ mI x < 1024) ∧ mI (mI x) = x ∧ pcI (mI x) = pcI x := by
  obtain ⟨n, rfl⟩ := bset_of h.1
  have := mir_lt n (by omega)
  unfold mI pcI
  rw [Int.toNat_natCast, Int.toNat_natCast, this.2.1, this.2.2]
  exact ⟨⟨Int.natCast_nonneg _, by omega⟩, rfl, rfl⟩
theorem mI_0 : mI 0 = 0 := by decide +kernel
def PS (M : av_M) (on set : Int) : Prop := (∀ j : Nat, set.toNat.testBit j = true → on.toNat.testBit j = true) ∧ SHW M set
def BS (P : Int → Prop) (r b : Int) : Prop := (b = 0 ∧ ∀ q, r < q → q < 1024 → ¬ P (mI q)) ∨ (P b ∧ 0 < b ∧ b < 1024 ∧ r < mI b ∧ ∀ q, r < q → q < 1024 → P (mI q) → pcI b < pcI q ∨ (pcI b = pcI q ∧ q ≤ mI b))
theorem BS_keep {P : Int → Prop} {r b : Int} (h : BS P r b) (hr : 0 < r ∧ r < 1024) (hn : P (mI r) → b ≠ 0 ∧ pcI b ≤ pcI r) : BS P (r - 1) b := by
  rcases h with ⟨e, h⟩ | ⟨hp, b0, b1, hm, h⟩
  · refine Or.inl ⟨e, fun q q0 q1 => ?_⟩
    by_cases hq : q = r
    · rw [hq]; intro c; exact (hn c).1 e
    · exact h q (by omega) q1
  · refine Or.inr ⟨hp, b0, b1, by omega, fun q q0 q1 c => ?_⟩
    by_cases hq : q = r
    · rw [hq] at c ⊢
      have := (hn c).2
      omega
    · exact h q (by omega) q1 c
theorem BS_take {P : Int → Prop} {r b : Int} (h : BS P r b) (hr : 0 < r ∧ r < 1024) (hP : P (mI r)) (hb : b = 0 ∨ pcI r < pcI b) : BS P (r - 1) (mI r) := by
  have m := mI_all (x := r) (by omega)
  have hne : mI r ≠ 0 := fun e => by
    have := m.2.1
    rw [e, mI_0] at this
    omega
  refine Or.inr ⟨hP, by omega, m.1.2, by rw [m.2.1]; omega, fun q q0 q1 c => ?_⟩
  rw [m.2.1, m.2.2]
  by_cases hq : q = r
  · rw [hq]; exact Or.inr ⟨rfl, Int.le_refl _⟩
  · rcases h with ⟨e, h⟩ | ⟨hp, b0, b1, hm, h⟩
    · exact absurd c (h q (by omega) q1)
    · rcases hb with hb | hb
      · omega
      · have := h q (by omega) q1 c
        omega
theorem SHW_congr {M M' : av_M} (e : ∀ k, k ≠ 33 → k ≠ 34 → M' k = M k) (set : Int) : SHW M' set ↔ SHW M set := by
  unfold SHW HH cc p2
  rw [e 4 (by decide) (by decide), e 5 (by decide) (by decide), e 6 (by decide) (by decide), e 7 (by decide) (by decide), e 8 (by decide) (by decide), e 18 (by decide) (by decide), e 19 (by decide) (by decide), e 20 (by decide) (by decide), e 22 (by decide) (by decide), e 23 (by decide) (by decide), e 24 (by decide) (by decide), e 26 (by decide) (by decide)]
theorem PS_congr {M M' : av_M} (e : ∀ k, k ≠ 33 → k ≠ 34 → M' k = M k) (on : Int) : PS M' on = PS M on := by
  funext set
  unfold PS
  rw [propext (SHW_congr e set)]
/-- the set that the class chooses -/
def CHS (M : av_M) (on c : Int) : Prop := BS (PS M on) 0 c
set_option maxRecDepth 100000 in
set_option maxHeartbeats 800000 in
theorem c_J_bitCount (E : av_E) (d : Nat) (M : av_M) (x : Int) (hx : 0 ≤ x ∧ x < 1024) : av_Mt E d mJ6_bitCount_0f7a4 [vI x] M (av_X (some (vI (pcI x))) M) := by
  have h : bcI x = pcI x := by
    obtain ⟨n, rfl⟩ := bset_of hx.1
    unfold pcI
    rw [Int.toNat_natCast]
    exact bc_all n (by omega)
  refine av_enter hJ6_bitCount_0f7a4 oJ6_bitCount_0f7a4 rfl rfl ?_
  refine ax_iloadn rfl rfl ?_
  refine ax_iloadn rfl rfl ?_
  refine ax_iconst rfl ?_
  refine ax_iushr rfl ?_
  refine ax_ldcw (z := 1431655765) rfl kJ6_265 rfl ?_
  refine ax_iand rfl ?_
  refine ax_isub rfl ?_
  refine ax_istoren (ls' := [(0, _)]) rfl rfl rfl ?_
  refine ax_iloadn rfl rfl ?_
  refine ax_ldcw (z := 858993459) rfl kJ6_266 rfl ?_
  refine ax_iand rfl ?_
  refine ax_iloadn rfl rfl ?_
  refine ax_iconst rfl ?_
  refine ax_iushr rfl ?_
  refine ax_ldcw (z := 858993459) rfl kJ6_266 rfl ?_
  refine ax_iand rfl ?_
  refine ax_iadd rfl ?_
  refine ax_istoren (ls' := [(0, _)]) rfl rfl rfl ?_
  refine ax_iloadn rfl rfl ?_
  refine ax_iloadn rfl rfl ?_
  refine ax_iconst rfl ?_
  refine ax_iushr rfl ?_
  refine ax_iadd rfl ?_
  refine ax_ldcw (z := 252645135) rfl kJ6_267 rfl ?_
  refine ax_iand rfl ?_
  refine ax_istoren (ls' := [(0, _)]) rfl rfl rfl ?_
  refine ax_iloadn rfl rfl ?_
  refine ax_iloadn rfl rfl ?_
  refine ax_bipush rfl rfl ?_
  refine ax_iushr rfl ?_
  refine ax_iadd rfl ?_
  refine ax_istoren (ls' := [(0, _)]) rfl rfl rfl ?_
  refine ax_iloadn rfl rfl ?_
  refine ax_iloadn rfl rfl ?_
  refine ax_bipush rfl rfl ?_
  refine ax_iushr rfl ?_
  refine ax_iadd rfl ?_
  refine ax_istoren (ls' := [(0, _)]) rfl rfl rfl ?_
  refine ax_iloadn rfl rfl ?_
  refine ax_bipush rfl rfl ?_
  refine ax_iand rfl ?_
  refine ax_iret rfl rfl ?_
  exact av_rI h
set_option maxRecDepth 100000 in
set_option maxHeartbeats 800000 in
theorem l_X1_mirror (E : av_E) (d : Nat) (M : av_M) (x : Int) (hx : 0 ≤ x ∧ x < 1024) : ∀ (t k : Nat), k + t = 10 → av_S E d mX1_mirror 4 [(0, vI x), (1, vI (mvI x k)), (2, vI (k : Int))] [] M (av_X (some (vI (mI x))) M) := by
  intro t
  induction t with
  | zero =>
    intro k hk
    have h : mvI x k = mI x := by
      have e : k = 10 := by omega
      subst e
      obtain ⟨n, rfl⟩ := bset_of hx.1
      unfold mI
      rw [Int.toNat_natCast]
      exact mv_all n (by omega)
    refine ax_iloadn rfl rfl ?_
    refine ax_bipush rfl rfl ?_
    refine ax_icmp_ge rfl (by omega) (by omega) (fun h7 => ?_) (fun h7 => ?_)
    · refine ax_iloadn rfl rfl ?_
      refine ax_iret rfl rfl ?_
      exact av_rI h
    · omega
  | succ t ih =>
    intro k hk
    refine ax_iloadn rfl rfl ?_
    refine ax_bipush rfl rfl ?_
    refine ax_icmp_ge rfl (by omega) (by omega) (fun h7 => ?_) (fun h7 => ?_)
    · omega
    · refine ax_iloadn rfl rfl ?_
      refine ax_iloadn rfl rfl ?_
      refine ax_iloadn rfl rfl ?_
      refine ax_ishr rfl ?_
      refine ax_iconst rfl ?_
      refine ax_iand rfl ?_
      refine ax_bipush rfl rfl ?_
      refine ax_iloadn rfl rfl ?_
      refine ax_isub rfl ?_
      refine ax_ishl rfl ?_
      refine ax_ior rfl ?_
      refine ax_istoren (ls' := [(0, _), (1, _), (2, _)]) rfl rfl rfl ?_
      refine ax_iinc (ls' := [(0, _), (1, _), (2, _)]) rfl rfl rfl rfl ?_
      refine ax_goto rfl ?_
      have ih2 := ih (k + 1) (by omega)
      exact ih2
set_option maxRecDepth 100000 in
set_option maxHeartbeats 800000 in
theorem c_X1_mirror (E : av_E) (d : Nat) (M : av_M) (x : Int) (hx : 0 ≤ x ∧ x < 1024) : av_Mt E d mX1_mirror [vI x] M (av_X (some (vI (mI x))) M) := by
  refine av_enter hX1_mirror oX1_mirror rfl rfl ?_
  refine ax_iconst rfl ?_
  refine ax_istoren (ls' := [(0, _), (1, _)]) rfl rfl rfl ?_
  refine ax_iconst rfl ?_
  refine ax_istoren (ls' := [(0, _), (1, _), (2, _)]) rfl rfl rfl ?_
  exact l_X1_mirror E d M x hx 10 0 (by omega)
set_option maxRecDepth 100000 in
set_option maxHeartbeats 800000 in
theorem l_X1_search (E : av_E) (d : Nat) (M : av_M) (S : pt → Prop) (hF : FIm M S) (hM : MIm M) (on : Int) (hon : 0 ≤ on ∧ on < 1024) (hL : FL M) : ∀ (t : Nat) (r b : Int), r = t → r < 1024 → BS (PS M on) r b → 0 ≤ b → b < 1024 → av_S E (d + 5) mX1_search 32 [(0, vR 33), (1, vR 4), (2, vR 18), (3, vI on), (4, vI (bi_shl 1 (M 4 5) - 1)), (5, vI b), (6, vI r)] [] M (fun res M' => (∃ c, res = some (vI c) ∧ CHS M on c) ∧ M' = M) := by
  intro t
  induction t with
  | zero =>
    intro r b hr r1 hB b0 b1
    have er : r = 0 := by omega
    subst er
    refine ax_iload rfl rfl ?_
    refine ax_if_le rfl (by omega) (fun h34 => ?_) (fun h34 => ?_)
    · refine ax_iload rfl rfl ?_
      refine ax_iret rfl rfl ?_
      exact ⟨⟨b, rfl, hB⟩, rfl⟩
    · omega
  | succ t ih =>
    intro r b hr r1 hB b0 b1
    have m := mI_all (x := r) (by omega)
    have pr := pcI_rng (x := r)
    have pb := pcI_rng (x := b)
    have mk := made0 m.1 hon
    have mr := bi_andn_rng m.1 hon
    have bs := b01_rng (SHW M (mI r))
    refine ax_iload rfl rfl ?_
    refine ax_if_le rfl (by omega) (fun h34 => ?_) (fun h34 => ?_)
    · omega
    · refine ax_iload rfl rfl ?_
      refine ax_if_eq rfl (by omega) (fun h39 => ?_) (fun h39 => ?_)
      · refine ax_iload rfl rfl ?_
        refine ax_callS (as := [_]) rfl sX1_67 hX1_mirror rfl rfl rfl rfl (c_X1_mirror E (d + 4) M r (by omega)) (av_Xk ?_)
        refine ax_istore (ls' := [(0, _), (1, _), (2, _), (3, _), (4, _), (5, _), (6, _), (7, _)]) rfl rfl rfl ?_
        refine ax_iload rfl rfl ?_
        refine ax_iloadn rfl rfl ?_
        refine ax_iconst rfl ?_
        refine ax_ixor rfl ?_
        refine ax_iand rfl ?_
        refine ax_if_ne rfl (by omega) (fun h68 => ?_) (fun h68 => ?_)
        · refine ax_iload rfl rfl ?_
          refine ax_istore (ls' := [(0, _), (1, _), (2, _), (3, _), (4, _), (5, _), (6, _), (7, _)]) rfl rfl rfl ?_
          refine ax_iinc (ls' := [(0, _), (1, _), (2, _), (3, _), (4, _), (5, _), (6, _), (7, _)]) rfl rfl rfl rfl ?_
          refine ax_goto rfl ?_
          try refine ax_pick [0, 1, 2, 3, 4, 5, 6] rfl ?_
          first
            | exact ih _ _ (by omega) (by omega) (BS_take hB (by omega) ⟨mk.mp h68, b01_ne h80⟩ (by omega)) m.1.1 m.1.2
            | exact ih _ _ (by omega) (by omega) (BS_take hB (by omega) ⟨mk.mp (by omega), b01_ne (by omega)⟩ (by omega)) m.1.1 m.1.2
            | exact ih _ _ (by omega) (by omega) (BS_keep hB (by omega) (fun q => absurd q.2 (b01_eq h80))) b0 b1
            | exact ih _ _ (by omega) (by omega) (BS_keep hB (by omega) (fun q => by have := mk.mpr q.1; omega)) b0 b1
            | exact ih _ _ (by omega) (by omega) (BS_keep hB (by omega) (fun q => ⟨by omega, by omega⟩)) b0 b1
        · refine ax_aloadn rfl rfl ?_
          refine ax_aloadn rfl rfl ?_
          refine ax_iload rfl rfl ?_
          refine ax_iload rfl rfl ?_
          refine ax_callV (as := [_, _, _]) rfl vX1_70 hX1_shows rfl rfl rfl rfl rfl (c_X1_shows E (d + 2) M S hF hM hL (mI r) m.1) (av_Xk ?_)
          refine ax_if_eq rfl (by omega) (fun h80 => ?_) (fun h80 => ?_)
          · refine ax_iload rfl rfl ?_
            refine ax_istore (ls' := [(0, _), (1, _), (2, _), (3, _), (4, _), (5, _), (6, _), (7, _)]) rfl rfl rfl ?_
            refine ax_iinc (ls' := [(0, _), (1, _), (2, _), (3, _), (4, _), (5, _), (6, _), (7, _)]) rfl rfl rfl rfl ?_
            refine ax_goto rfl ?_
            try refine ax_pick [0, 1, 2, 3, 4, 5, 6] rfl ?_
            first
              | exact ih _ _ (by omega) (by omega) (BS_take hB (by omega) ⟨mk.mp h68, b01_ne h80⟩ (by omega)) m.1.1 m.1.2
              | exact ih _ _ (by omega) (by omega) (BS_take hB (by omega) ⟨mk.mp (by omega), b01_ne (by omega)⟩ (by omega)) m.1.1 m.1.2
              | exact ih _ _ (by omega) (by omega) (BS_keep hB (by omega) (fun q => absurd q.2 (b01_eq h80))) b0 b1
              | exact ih _ _ (by omega) (by omega) (BS_keep hB (by omega) (fun q => by have := mk.mpr q.1; omega)) b0 b1
              | exact ih _ _ (by omega) (by omega) (BS_keep hB (by omega) (fun q => ⟨by omega, by omega⟩)) b0 b1
          · refine ax_iload rfl rfl ?_
            refine ax_goto rfl ?_
            refine ax_istore (ls' := [(0, _), (1, _), (2, _), (3, _), (4, _), (5, _), (6, _), (7, _)]) rfl rfl rfl ?_
            refine ax_iinc (ls' := [(0, _), (1, _), (2, _), (3, _), (4, _), (5, _), (6, _), (7, _)]) rfl rfl rfl rfl ?_
            refine ax_goto rfl ?_
            try refine ax_pick [0, 1, 2, 3, 4, 5, 6] rfl ?_
            first
              | exact ih _ _ (by omega) (by omega) (BS_take hB (by omega) ⟨mk.mp h68, b01_ne h80⟩ (by omega)) m.1.1 m.1.2
              | exact ih _ _ (by omega) (by omega) (BS_take hB (by omega) ⟨mk.mp (by omega), b01_ne (by omega)⟩ (by omega)) m.1.1 m.1.2
              | exact ih _ _ (by omega) (by omega) (BS_keep hB (by omega) (fun q => absurd q.2 (b01_eq h80))) b0 b1
              | exact ih _ _ (by omega) (by omega) (BS_keep hB (by omega) (fun q => by have := mk.mpr q.1; omega)) b0 b1
              | exact ih _ _ (by omega) (by omega) (BS_keep hB (by omega) (fun q => ⟨by omega, by omega⟩)) b0 b1
      · refine ax_iload rfl rfl ?_
        refine ax_callS (as := [_]) rfl sX1_61 hJ6_bitCount_0f7a4 rfl rfl rfl rfl (c_J_bitCount E (d + 4) M r (by omega)) (av_Xk ?_)
        refine ax_iload rfl rfl ?_
        refine ax_callS (as := [_]) rfl sX1_61 hJ6_bitCount_0f7a4 rfl rfl rfl rfl (c_J_bitCount E (d + 4) M b (by omega)) (av_Xk ?_)
        refine ax_icmp_ge rfl (by omega) (by omega) (fun h52 => ?_) (fun h52 => ?_)
        · refine ax_iinc (ls' := [(0, _), (1, _), (2, _), (3, _), (4, _), (5, _), (6, _)]) rfl rfl rfl rfl ?_
          refine ax_goto rfl ?_
          try refine ax_pick [0, 1, 2, 3, 4, 5, 6] rfl ?_
          first
            | exact ih _ _ (by omega) (by omega) (BS_take hB (by omega) ⟨mk.mp h68, b01_ne h80⟩ (by omega)) m.1.1 m.1.2
            | exact ih _ _ (by omega) (by omega) (BS_take hB (by omega) ⟨mk.mp (by omega), b01_ne (by omega)⟩ (by omega)) m.1.1 m.1.2
            | exact ih _ _ (by omega) (by omega) (BS_keep hB (by omega) (fun q => absurd q.2 (b01_eq h80))) b0 b1
            | exact ih _ _ (by omega) (by omega) (BS_keep hB (by omega) (fun q => by have := mk.mpr q.1; omega)) b0 b1
            | exact ih _ _ (by omega) (by omega) (BS_keep hB (by omega) (fun q => ⟨by omega, by omega⟩)) b0 b1
        · refine ax_iload rfl rfl ?_
          refine ax_callS (as := [_]) rfl sX1_67 hX1_mirror rfl rfl rfl rfl (c_X1_mirror E (d + 4) M r (by omega)) (av_Xk ?_)
          refine ax_istore (ls' := [(0, _), (1, _), (2, _), (3, _), (4, _), (5, _), (6, _), (7, _)]) rfl rfl rfl ?_
          refine ax_iload rfl rfl ?_
          refine ax_iloadn rfl rfl ?_
          refine ax_iconst rfl ?_
          refine ax_ixor rfl ?_
          refine ax_iand rfl ?_
          refine ax_if_ne rfl (by omega) (fun h68 => ?_) (fun h68 => ?_)
          · refine ax_iload rfl rfl ?_
            refine ax_istore (ls' := [(0, _), (1, _), (2, _), (3, _), (4, _), (5, _), (6, _), (7, _)]) rfl rfl rfl ?_
            refine ax_iinc (ls' := [(0, _), (1, _), (2, _), (3, _), (4, _), (5, _), (6, _), (7, _)]) rfl rfl rfl rfl ?_
            refine ax_goto rfl ?_
            try refine ax_pick [0, 1, 2, 3, 4, 5, 6] rfl ?_
            first
              | exact ih _ _ (by omega) (by omega) (BS_take hB (by omega) ⟨mk.mp h68, b01_ne h80⟩ (by omega)) m.1.1 m.1.2
              | exact ih _ _ (by omega) (by omega) (BS_take hB (by omega) ⟨mk.mp (by omega), b01_ne (by omega)⟩ (by omega)) m.1.1 m.1.2
              | exact ih _ _ (by omega) (by omega) (BS_keep hB (by omega) (fun q => absurd q.2 (b01_eq h80))) b0 b1
              | exact ih _ _ (by omega) (by omega) (BS_keep hB (by omega) (fun q => by have := mk.mpr q.1; omega)) b0 b1
              | exact ih _ _ (by omega) (by omega) (BS_keep hB (by omega) (fun q => ⟨by omega, by omega⟩)) b0 b1
          · refine ax_aloadn rfl rfl ?_
            refine ax_aloadn rfl rfl ?_
            refine ax_iload rfl rfl ?_
            refine ax_iload rfl rfl ?_
            refine ax_callV (as := [_, _, _]) rfl vX1_70 hX1_shows rfl rfl rfl rfl rfl (c_X1_shows E (d + 2) M S hF hM hL (mI r) m.1) (av_Xk ?_)
            refine ax_if_eq rfl (by omega) (fun h80 => ?_) (fun h80 => ?_)
            · refine ax_iload rfl rfl ?_
              refine ax_istore (ls' := [(0, _), (1, _), (2, _), (3, _), (4, _), (5, _), (6, _), (7, _)]) rfl rfl rfl ?_
              refine ax_iinc (ls' := [(0, _), (1, _), (2, _), (3, _), (4, _), (5, _), (6, _), (7, _)]) rfl rfl rfl rfl ?_
              refine ax_goto rfl ?_
              try refine ax_pick [0, 1, 2, 3, 4, 5, 6] rfl ?_
              first
                | exact ih _ _ (by omega) (by omega) (BS_take hB (by omega) ⟨mk.mp h68, b01_ne h80⟩ (by omega)) m.1.1 m.1.2
                | exact ih _ _ (by omega) (by omega) (BS_take hB (by omega) ⟨mk.mp (by omega), b01_ne (by omega)⟩ (by omega)) m.1.1 m.1.2
                | exact ih _ _ (by omega) (by omega) (BS_keep hB (by omega) (fun q => absurd q.2 (b01_eq h80))) b0 b1
                | exact ih _ _ (by omega) (by omega) (BS_keep hB (by omega) (fun q => by have := mk.mpr q.1; omega)) b0 b1
                | exact ih _ _ (by omega) (by omega) (BS_keep hB (by omega) (fun q => ⟨by omega, by omega⟩)) b0 b1
            · refine ax_iload rfl rfl ?_
              refine ax_goto rfl ?_
              refine ax_istore (ls' := [(0, _), (1, _), (2, _), (3, _), (4, _), (5, _), (6, _), (7, _)]) rfl rfl rfl ?_
              refine ax_iinc (ls' := [(0, _), (1, _), (2, _), (3, _), (4, _), (5, _), (6, _), (7, _)]) rfl rfl rfl rfl ?_
              refine ax_goto rfl ?_
              try refine ax_pick [0, 1, 2, 3, 4, 5, 6] rfl ?_
              first
                | exact ih _ _ (by omega) (by omega) (BS_take hB (by omega) ⟨mk.mp h68, b01_ne h80⟩ (by omega)) m.1.1 m.1.2
                | exact ih _ _ (by omega) (by omega) (BS_take hB (by omega) ⟨mk.mp (by omega), b01_ne (by omega)⟩ (by omega)) m.1.1 m.1.2
                | exact ih _ _ (by omega) (by omega) (BS_keep hB (by omega) (fun q => absurd q.2 (b01_eq h80))) b0 b1
                | exact ih _ _ (by omega) (by omega) (BS_keep hB (by omega) (fun q => by have := mk.mpr q.1; omega)) b0 b1
                | exact ih _ _ (by omega) (by omega) (BS_keep hB (by omega) (fun q => ⟨by omega, by omega⟩)) b0 b1
set_option maxRecDepth 100000 in
set_option maxHeartbeats 800000 in
theorem c_X1_search (E : av_E) (d : Nat) (M : av_M) (S : pt → Prop) (hF : FIm M S) (hM : MIm M) (on : Int) (hon : 0 ≤ on ∧ on < 1024) : av_Mt E (d + 5) mX1_search [vR 33, vR 4, vR 18, vI on] M (fun res M' => (∃ c, res = some (vI c) ∧ CHS M on c) ∧ ∀ k, k ≠ 34 → M' k = M k) := by
  have hb := FIm_h hF
  have ha := all12 (h := M 4 5) (by omega)
  refine av_enter hX1_search oX1_search rfl rfl ?_
  refine ax_iconst rfl ?_
  refine ax_aloadn rfl rfl ?_
  refine ax_callV (as := []) rfl vX1_53 hX4_size rfl rfl rfl rfl rfl (c_H_size E (d + 4) M) (av_Xk ?_)
  refine ax_ishl rfl ?_
  refine ax_iconst rfl ?_
  refine ax_isub rfl ?_
  refine ax_istore (ls' := [(0, _), (1, _), (2, _), (3, _), (4, _)]) rfl rfl rfl ?_
  refine ax_aloadn rfl rfl ?_
  refine ax_aloadn rfl rfl ?_
  refine ax_aloadn rfl rfl ?_
  refine ax_iloadn rfl rfl ?_
  refine ax_callV (as := [_, _, _]) rfl vX1_58 hX1_castAll rfl rfl rfl rfl rfl (c_X1_castAll E d M S hF hM on hon) (fun r14 M14 hr14 => ?_)
  obtain ⟨⟨v, rfl, hv⟩, hC, hf⟩ := hr14
  have hv0 := hv.1
  have hv1 := hv.2.1
  have hAll := HB_all hF hv
  refine ax_iload rfl rfl ?_
  refine ax_icmp_eq rfl (by omega) (by omega) (fun h19 => ?_) (fun h19 => ?_)
  · refine ax_iconst rfl ?_
    refine ax_istore (ls' := [(0, _), (1, _), (2, _), (3, _), (4, _), (5, _)]) rfl rfl rfl ?_
    refine ax_sipush rfl rfl ?_
    refine ax_istore (ls' := [(0, _), (1, _), (2, _), (3, _), (4, _), (5, _), (6, _)]) rfl rfl rfl ?_
    have hF2 : FIm M14 S := by unfold FIm; rw [hf 4 (by decide), hf 5 (by decide), hf 6 (by decide), hf 7 (by decide), hf 8 (by decide)]; exact hF
    have hM2 : MIm M14 := MIm_congr hM (fun k a b => hf k (by omega)) (by rw [hf 13 (by decide)])
    have hL2 : FL M14 := by
      intro m m0 m1
      rw [hf 18 (by decide)] at m1
      unfold CB HH cc p2
      rw [hf 4 (by decide), hf 5 (by decide), hf 6 (by decide), hf 7 (by decide), hf 8 (by decide), hf 19 (by decide), hf 20 (by decide), hf 22 (by decide)]
      exact hC m m0 m1
    have e := PS_congr (M := M) (M' := M14) (fun k a b => hf k b) on
    have k := l_X1_search E d M14 S hF2 hM2 on hon hL2 1023 1023 0 (by decide) (by decide) (Or.inl ⟨rfl, fun q a b => by omega⟩) (by decide) (by decide)
    rw [hf 4 (by decide)] at k
    refine ax_post k ?_
    rintro r M' ⟨⟨c, rfl, hc⟩, rfl⟩
    refine ⟨⟨c, rfl, ?_⟩, hf⟩
    unfold CHS at hc ⊢
    rw [← e]
    exact hc
  · refine ax_iconst rfl ?_
    refine ax_iret rfl rfl ?_
    refine ⟨⟨0, rfl, Or.inl ⟨rfl, fun q q0 q1 hq => ?_⟩⟩, hf⟩
    have := hAll.mpr (fun j hj => by
      obtain ⟨m, m0, m1, iv, e⟩ := hq.2.2.1 j hj
      exact ⟨m, m0, m1, ⟨hq.2.1 m m0 m1 iv, fun t ht => hq.1 t (iv.1 t ht)⟩, e⟩)
    omega
