/-! ===== the greatest common measure; fractions in least terms ===== -/
theorem gcd_step {x y : Int} : (Int.gcd y (x.tmod y) : Int) = Int.gcd x y := by
  rw [av_trem, Int.gcd_sub_mul_right_right, Int.gcd_comm]
theorem half_mod {x y : Int} (hy : 0 < y) (h : y < x) : 2 * x.tmod y ≤ x ∧ 0 ≤ x.tmod y ∧ x.tmod y < y := by
  have h1 := Int.tmod_lt_of_pos x hy
  have h2 : 0 ≤ x.tmod y := Int.tmod_nonneg y (by omega)
  have h3 := av_trem (x := x) (y := y)
  have h4 : 0 < x.tdiv y := by
    rw [Int.tdiv_eq_ediv_of_nonneg (by omega)]
    have := Int.le_ediv_of_mul_le hy (show 1 * y ≤ x by omega)
    omega
  have h5 : y ≤ x.tdiv y * y := by
    have := Int.mul_le_mul_of_nonneg_right (show (1 : Int) ≤ x.tdiv y by omega) (show 0 ≤ y by omega)
    omega
  omega
set_option maxRecDepth 100000 in
set_option maxHeartbeats 800000 in
theorem l_G_gcd (E : av_E) (d : Nat) (M : av_M) (a b g : Int) : ∀ (k : Nat) (i x y : Int), i + k = 128 → 0 ≤ i → (0 ≤ x ∧ x < 9223372036854775808) → (0 ≤ y ∧ y < 9223372036854775808) → x * y < 2 ^ k → (i = 0 ∨ y < x) → (Int.gcd x y : Int) = g → av_S E d mX7_gcd 15 [(0, vL a), (2, vL b), (4, vL x), (6, vL y), (8, vI i)] [] M (av_X (some (vL g)) M) := by
  intro k
  induction k with
  | zero =>
    intro i x y hi h0 hx hy hxy hor hg
    have hy0 : y = 0 := by
      apply Classical.byContradiction
      intro hne
      have := Int.mul_pos (show 0 < x by omega) (show 0 < y by omega)
      have e : (2 : Int) ^ 0 = 1 := by rfl
      omega
    refine ax_iload rfl rfl ?_
    refine ax_sipush rfl rfl ?_
    refine ax_icmp_ge rfl (by omega) (by omega) (fun h20 => ?_) (fun h20 => ?_)
    · refine ax_lload rfl rfl ?_
      refine ax_lret rfl rfl ?_
      refine av_rL ?_
      subst hy0
      rw [Int.gcd_zero_right] at hg
      omega
    · refine ax_lload rfl rfl ?_
      refine ax_lconst (w := 0) rfl rfl ?_
      refine ax_lif_eq rfl rfl (by omega) (by omega) (fun h26 => ?_) (fun h26 => ?_)
      · refine ax_lload rfl rfl ?_
        refine ax_lret rfl rfl ?_
        refine av_rL ?_
        subst hy0
        rw [Int.gcd_zero_right] at hg
        omega
      · omega
  | succ k ih =>
    intro i x y hi h0 hx hy hxy hor hg
    refine ax_iload rfl rfl ?_
    refine ax_sipush rfl rfl ?_
    refine ax_icmp_ge rfl (by omega) (by omega) (fun h20 => ?_) (fun h20 => ?_)
    · refine ax_lload rfl rfl ?_
      refine ax_lret rfl rfl ?_
      refine av_rL ?_
      first
        | omega
        | (have hy0 : y = 0 := by omega
           subst hy0
           rw [Int.gcd_zero_right] at hg
           omega)
    · refine ax_lload rfl rfl ?_
      refine ax_lconst (w := 0) rfl rfl ?_
      refine ax_lif_eq rfl rfl (by omega) (by omega) (fun h26 => ?_) (fun h26 => ?_)
      · refine ax_lload rfl rfl ?_
        refine ax_lret rfl rfl ?_
        refine av_rL ?_
        first
          | omega
          | (have hy0 : y = 0 := by omega
             subst hy0
             rw [Int.gcd_zero_right] at hg
             omega)
      · have hm1 := Int.tmod_lt_of_pos x (show 0 < y by omega)
        have hm2 := Int.tmod_nonneg y hx.1
        refine ax_lload rfl rfl ?_
        refine ax_lload rfl rfl ?_
        refine ax_lrem rfl (by omega) (by omega) (by omega) ?_
        refine ax_lstore (ls' := [(0, _), (2, _), (4, _), (6, _), (8, _), (9, _)]) rfl rfl rfl ?_
        refine ax_lload rfl rfl ?_
        refine ax_lstore (ls' := [(0, _), (2, _), (4, _), (6, _), (8, _), (9, _)]) rfl rfl rfl ?_
        refine ax_lload rfl rfl ?_
        refine ax_lstore (ls' := [(0, _), (2, _), (4, _), (6, _), (8, _), (9, _)]) rfl rfl rfl ?_
        refine ax_iinc (ls' := [(0, _), (2, _), (4, _), (6, _), (8, _), (9, _)]) rfl rfl rfl rfl ?_
        refine ax_goto rfl ?_
        refine ax_pick [0, 1, 2, 3, 4] rfl ?_
        refine ih _ _ _ (by omega) (by omega) (by omega) (by omega) ?_ (by omega) (by rw [← hg]; exact gcd_step)
        rcases hor with hi0 | hlt
        · have ek : k = 127 := by omega
          subst ek
          have p1 := mb (A := 9223372036854775808) (B := 9223372036854775808) (show -9223372036854775808 ≤ y ∧ y ≤ 9223372036854775808 by omega) (show -9223372036854775808 ≤ x.tmod y ∧ x.tmod y ≤ 9223372036854775808 by omega)
          have e : (2 : Int) ^ 127 = 170141183460469231731687303715884105728 := by rfl
          omega
        · have q := half_mod (show 0 < y by omega) hlt
          have p1 := Int.mul_le_mul_of_nonneg_left q.1 hy.1
          have e1 : y * (2 * x.tmod y) = 2 * (y * x.tmod y) := by grind
          have e2 : y * x = x * y := Int.mul_comm _ _
          have e3 : (2 : Int) ^ (k + 1) = 2 * 2 ^ k := by rw [Int.pow_succ]; omega
          omega
set_option maxRecDepth 100000 in
set_option maxHeartbeats 800000 in
theorem c_G_gcd (E : av_E) (d : Nat) (M : av_M) (a b : Int) (ha : -9223372036854775808 < a ∧ a < 9223372036854775808) (hb : -9223372036854775808 < b ∧ b < 9223372036854775808) : av_Mt E (d + 1) mX7_gcd [vL a, vL b] M (av_X (some (vL (Int.gcd a b))) M) := by
  refine av_enter hX7_gcd oX7_gcd rfl rfl ?_
  refine ax_lloadn rfl rfl ?_
  refine ax_labs rfl (av_in (by decide +kernel) rfl) rfl (by omega) ?_
  refine ax_lstore (ls' := [(0, _), (2, _), (4, _)]) rfl rfl rfl ?_
  refine ax_lloadn rfl rfl ?_
  refine ax_labs rfl (av_in (by decide +kernel) rfl) rfl (by omega) ?_
  refine ax_lstore (ls' := [(0, _), (2, _), (4, _), (6, _)]) rfl rfl rfl ?_
  refine ax_iconst rfl ?_
  refine ax_istore (ls' := [(0, _), (2, _), (4, _), (6, _), (8, _)]) rfl rfl rfl ?_
  have ha2 : 0 ≤ (if 0 < a then a else -a) ∧ (if 0 < a then a else -a) < 9223372036854775808 := by split <;> omega
  have hb2 : 0 ≤ (if 0 < b then b else -b) ∧ (if 0 < b then b else -b) < 9223372036854775808 := by split <;> omega
  have p1 := mb (A := 9223372036854775808) (B := 9223372036854775808) (show -9223372036854775808 ≤ (if 0 < a then a else -a) ∧ (if 0 < a then a else -a) ≤ 9223372036854775808 by omega) (show -9223372036854775808 ≤ (if 0 < b then b else -b) ∧ (if 0 < b then b else -b) ≤ 9223372036854775808 by omega)
  have e : (2 : Int) ^ 128 = 340282366920938463463374607431768211456 := by rfl
  refine l_G_gcd E (d + 1) M a b _ 128 0 _ _ (by omega) (by omega) ha2 hb2 (by omega) (Or.inl rfl) ?_
  split <;> split <;> simp [Int.gcd_neg, Int.neg_gcd]
/-- the upper or the lower number of a fraction -/
def tl (q : Rat) (u : Int) : Int := if u = 0 then (q.den : Int) else q.num
theorem tdiv_nat {x : Int} {g : Nat} (h : (g : Int) ∣ x) : x.tdiv g = x / g := by
  rw [Int.tdiv_eq_ediv_of_dvd h]
theorem tl_of {x w : Int} (h : 0 < w) (u : Int) : (if u = 0 then w else x).tdiv (Int.gcd x w) = tl ((x : Rat) / (w : Rat)) u := by
  obtain ⟨n, rfl⟩ := Int.eq_ofNat_of_zero_le (Int.le_of_lt h)
  have hn : n ≠ 0 := by omega
  have e : (x : Rat) / ((n : Int) : Rat) = mkRat x n := by rw [Rat.mkRat_eq_div]; rfl
  unfold tl
  rw [e, Rat.num_mkRat, Rat.den_mkRat, if_neg hn, if_neg hn]
  have eg : Int.gcd x (n : Int) = n.gcd x.natAbs := by rw [Int.gcd_comm]; rfl
  rw [eg]
  have d1 : ((n.gcd x.natAbs : Nat) : Int) ∣ x := by
    rw [← eg]; exact Int.gcd_dvd_left ..
  have d2 : ((n.gcd x.natAbs : Nat) : Int) ∣ (n : Int) := by
    rw [← eg]; exact Int.gcd_dvd_right ..
  split
  · rw [tdiv_nat d2]; rfl
  · rw [tdiv_nat d1]
set_option maxRecDepth 100000 in
set_option maxHeartbeats 800000 in
theorem c_G_told (E : av_E) (d : Nat) (M : av_M) (x w u : Int) (hx : -9223372036854775808 < x ∧ x < 9223372036854775808) (hw : 0 < w ∧ w < 9223372036854775808) (hu : -2147483648 ≤ u ∧ u < 2147483648) : av_Mt E (d + 2) mX7_told [vL x, vL w, vI u] M (av_X (some (vL (tl ((x : Rat) / (w : Rat)) u))) M) := by
  have hg0 : (Int.gcd x w : Int) ≠ 0 := by
    intro h
    have : Int.gcd x w = 0 := by omega
    rw [Int.gcd_eq_zero_iff] at this
    omega
  have hg1 : (Int.gcd x w : Int) ≤ w := Int.le_of_dvd hw.1 (Int.gcd_dvd_right ..)
  have hg2 : (0 : Int) ≤ Int.gcd x w := by omega
  have ht := tl_of (x := x) hw.1 u
  refine av_enter hX7_told oX7_told rfl rfl ?_
  refine ax_lloadn rfl rfl ?_
  refine ax_lloadn rfl rfl ?_
  refine ax_callS (as := [_, _]) rfl sX7_244 hX7_gcd rfl rfl rfl rfl (c_G_gcd E d M x w (by omega) (by omega)) (av_Xk ?_)
  refine ax_lstore (ls' := [(0, _), (2, _), (4, _), (5, _)]) rfl rfl rfl ?_
  refine ax_lload rfl rfl ?_
  refine ax_lconst (w := 0) rfl rfl ?_
  refine ax_lif_ne rfl rfl (by omega) (by omega) (fun h10 => ?_) (fun h10 => ?_)
  · refine ax_iload rfl rfl ?_
    refine ax_if_eq rfl (by omega) (fun h18 => ?_) (fun h18 => ?_)
    · refine ax_lloadn rfl rfl ?_
      refine ax_lload rfl rfl ?_
      refine ax_ldiv rfl (by omega) (by omega) (by omega) ?_
      refine ax_lret rfl rfl ?_
      first
        | (refine av_rL ?_
           first
             | (rw [if_pos (by omega)] at ht; exact ht)
             | (rw [if_neg (by omega)] at ht; exact ht))
    · refine ax_lloadn rfl rfl ?_
      refine ax_goto rfl ?_
      refine ax_lload rfl rfl ?_
      refine ax_ldiv rfl (by omega) (by omega) (by omega) ?_
      refine ax_lret rfl rfl ?_
      first
        | (refine av_rL ?_
           first
             | (rw [if_pos (by omega)] at ht; exact ht)
             | (rw [if_neg (by omega)] at ht; exact ht))
  · refine ax_lconst (w := 0) rfl rfl ?_
    refine ax_lret rfl rfl ?_
    omega
