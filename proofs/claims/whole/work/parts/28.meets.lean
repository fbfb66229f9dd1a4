/-! ===== the meets' contracts ===== -/
theorem exI_rng {A B C D : Int → Int} {n x y z w : Int} (ha : -9 ≤ A n ∧ A n ≤ 9) (hb : -9 ≤ B n ∧ B n ≤ 9) (hc : -9 ≤ C n ∧ C n ≤ 9) (hd : -99 ≤ D n ∧ D n ≤ 99) (hx : -50000 ≤ x ∧ x ≤ 50000) (hy : -50000 ≤ y ∧ y ≤ 50000) (hz : -50000 ≤ z ∧ z ≤ 50000) (hw : 0 ≤ w ∧ w ≤ 5000) : -2000000 ≤ exI A B C D n x y z w ∧ exI A B C D n x y z w ≤ 2000000 := by
  have a := mb ha hx
  have b := mb hb hy
  have c := mb hc hz
  have d := mb hd (show -5000 ≤ w ∧ w ≤ 5000 by omega)
  unfold exI
  omega
theorem MI_mono {A B C D : Int → Int} {s : Int} {X Y Z W MK BR TO : Int → Int} {sz : Int} {cov cov' : Int → Int → Int → Prop} (h : MI A B C D s X Y Z W MK BR TO sz cov) (hc : ∀ i j k, 0 ≤ i → i < j → j < k → k < s → vol A B C i j k ≠ 0 → cov' i j k → cov i j k) : MI A B C D s X Y Z W MK BR TO sz cov' :=
  ⟨h.1, h.2.1, fun i j k i0 ij jk ks hv hq => h.2.2 i j k i0 ij jk ks hv (hc i j k i0 ij jk ks hv hq)⟩
theorem MI_add {A B C D : Int → Int} {s : Int} {X Y Z W MK BR TO X' Y' Z' W' MK' BR' TO' : Int → Int} {sz : Int} {cov cov' : Int → Int → Int → Prop} {i j k : Int} (h : MI A B C D s X Y Z W MK BR TO sz cov) (e1 : ∀ m, m ≠ sz → X' m = X m) (e2 : ∀ m, m ≠ sz → Y' m = Y m) (e3 : ∀ m, m ≠ sz → Z' m = Z m) (e4 : ∀ m, m ≠ sz → W' m = W m) (e5 : ∀ m, m ≠ sz → MK' m = MK m) (e6 : ∀ m, m ≠ sz → BR' m = BR m) (e7 : ∀ m, m ≠ sz → TO' m = TO m)
    (hm : MA A B C D s X' Y' Z' W' MK' BR' TO' sz i j k) (hc : ∀ a b c, cov' a b c → cov a b c ∨ (a = i ∧ b = j ∧ c = k)) : MI A B C D s X' Y' Z' W' MK' BR' TO' (sz + 1) cov' := by
  obtain ⟨h0, h1, h2⟩ := h
  have tr : ∀ m a b c, m ≠ sz → MA A B C D s X Y Z W MK BR TO m a b c → MA A B C D s X' Y' Z' W' MK' BR' TO' m a b c := fun m a b c hn q => MA_congr q ⟨e1 m hn, e2 m hn, e3 m hn, e4 m hn, e5 m hn, e6 m hn, e7 m hn⟩
  refine ⟨by omega, fun m m0 m1 => ?_, fun a b c a0 ab bc cs hv hq => ?_⟩
  · by_cases he : m = sz
    · rw [he]; exact ⟨i, j, k, hm⟩
    · obtain ⟨a, b, c, q⟩ := h1 m m0 (by omega)
      exact ⟨a, b, c, tr m a b c he q⟩
  · rcases hc a b c hq with q | ⟨rfl, rfl, rfl⟩
    · obtain ⟨m, m0, m1, q⟩ := h2 a b c a0 ab bc cs hv q
      exact ⟨m, m0, by omega, tr m a b c (by omega) q⟩
    · exact ⟨sz, h0, by omega, hm⟩
theorem RI_mono {A B C : Int → Int} {s : Int} {RB : Int → Int} {rz : Int} {cov cov' : Int → Int → Prop} (h : RI A B C s RB rz cov) (hc : ∀ i j, 0 ≤ i → i < s → 0 ≤ j → j < s → ¬ (B i * C j - C i * B j = 0 ∧ C i * A j - A i * C j = 0 ∧ A i * B j - B i * A j = 0) → cov' i j → cov i j) : RI A B C s RB rz cov' :=
  ⟨h.1, h.2.1, fun i j i0 i1 j0 j1 hv hq => h.2.2 i j i0 i1 j0 j1 hv (hc i j i0 i1 j0 j1 hv hq)⟩
theorem RI_add {A B C : Int → Int} {s : Int} {RB RB' : Int → Int} {rz : Int} {cov cov' : Int → Int → Prop} {i j : Int} (h : RI A B C s RB rz cov) (e1 : ∀ m, m ≠ rz → RB' m = RB m) (hm : RA A B C s RB' rz i j) (hc : ∀ a b, cov' a b → cov a b ∨ (a = i ∧ b = j)) : RI A B C s RB' (rz + 1) cov' := by
  obtain ⟨h0, h1, h2⟩ := h
  refine ⟨by omega, fun m m0 m1 => ?_, fun a b a0 a1 b0 b1 hv hq => ?_⟩
  · by_cases he : m = rz
    · rw [he]; exact ⟨i, j, hm⟩
    · obtain ⟨a, b, q⟩ := h1 m m0 (by omega)
      exact ⟨a, b, RA_congr q (e1 m he)⟩
  · rcases hc a b hq with q | ⟨rfl, rfl⟩
    · obtain ⟨m, m0, m1, q⟩ := h2 a b a0 a1 b0 b1 hv q
      exact ⟨m, m0, by omega, RA_congr q (e1 m (by omega))⟩
    · exact ⟨rz, h0, by omega, hm⟩
def PB (M : av_M) (z : Int) : Nat → Prop := fun t => 0 < exI (M 14) (M 15) (M 16) (M 17) t (M 19 z) (M 20 z) (M 21 z) (M 22 z)
def PT (M : av_M) (z : Int) : Nat → Prop := fun t => exI (M 14) (M 15) (M 16) (M 17) t (M 19 z) (M 20 z) (M 21 z) (M 22 z) = 0
def PR (M : av_M) (x y z : Int) : Nat → Prop := fun t => 0 < exI (M 14) (M 15) (M 16) (M 17) t x y z 0
def MTI (M : av_M) (cov : Int → Int → Int → Prop) : Prop := MI (M 14) (M 15) (M 16) (M 17) (M 13 4) (M 19) (M 20) (M 21) (M 22) (M 23) (M 24) (M 25) (M 18 8) cov
def MTR (M : av_M) (cov : Int → Int → Prop) : Prop := RI (M 14) (M 15) (M 16) (M 13 4) (M 26) (M 18 9) cov
set_option maxRecDepth 100000 in
set_option maxHeartbeats 800000 in
theorem c_X3_volume_w (E : av_E) (d : Nat) (M : av_M) (i j k : Int) (hi : 0 ≤ i ∧ i < 10) (hj : 0 ≤ j ∧ j < 10) (hk : 0 ≤ k ∧ k < 10) : av_Mt E d mX3_volume [vR 14, vR 15, vR 16, vI i, vI j, vI k] M (av_X (some (vI (vol (M 14) (M 15) (M 16) i j k))) M) := by
  refine av_enter hX3_volume oX3_volume rfl rfl ?_
  refine ax_aloadn rfl rfl ?_
  refine ax_iloadn rfl rfl ?_
  refine ax_iald rfl rfl (by omega) ?_
  refine ax_aloadn rfl rfl ?_
  refine ax_iload rfl rfl ?_
  refine ax_iald rfl rfl (by omega) ?_
  refine ax_aloadn rfl rfl ?_
  refine ax_iload rfl rfl ?_
  refine ax_iald rfl rfl (by omega) ?_
  refine ax_imul rfl ?_
  refine ax_aloadn rfl rfl ?_
  refine ax_iload rfl rfl ?_
  refine ax_iald rfl rfl (by omega) ?_
  refine ax_aloadn rfl rfl ?_
  refine ax_iload rfl rfl ?_
  refine ax_iald rfl rfl (by omega) ?_
  refine ax_imul rfl ?_
  refine ax_isub rfl ?_
  refine ax_imul rfl ?_
  refine ax_aloadn rfl rfl ?_
  refine ax_iload rfl rfl ?_
  refine ax_iald rfl rfl (by omega) ?_
  refine ax_aloadn rfl rfl ?_
  refine ax_iloadn rfl rfl ?_
  refine ax_iald rfl rfl (by omega) ?_
  refine ax_aloadn rfl rfl ?_
  refine ax_iload rfl rfl ?_
  refine ax_iald rfl rfl (by omega) ?_
  refine ax_imul rfl ?_
  refine ax_aloadn rfl rfl ?_
  refine ax_iload rfl rfl ?_
  refine ax_iald rfl rfl (by omega) ?_
  refine ax_aloadn rfl rfl ?_
  refine ax_iloadn rfl rfl ?_
  refine ax_iald rfl rfl (by omega) ?_
  refine ax_imul rfl ?_
  refine ax_isub rfl ?_
  refine ax_imul rfl ?_
  refine ax_isub rfl ?_
  refine ax_aloadn rfl rfl ?_
  refine ax_iload rfl rfl ?_
  refine ax_iald rfl rfl (by omega) ?_
  refine ax_aloadn rfl rfl ?_
  refine ax_iloadn rfl rfl ?_
  refine ax_iald rfl rfl (by omega) ?_
  refine ax_aloadn rfl rfl ?_
  refine ax_iload rfl rfl ?_
  refine ax_iald rfl rfl (by omega) ?_
  refine ax_imul rfl ?_
  refine ax_aloadn rfl rfl ?_
  refine ax_iload rfl rfl ?_
  refine ax_iald rfl rfl (by omega) ?_
  refine ax_aloadn rfl rfl ?_
  refine ax_iloadn rfl rfl ?_
  refine ax_iald rfl rfl (by omega) ?_
  refine ax_imul rfl ?_
  refine ax_isub rfl ?_
  refine ax_imul rfl ?_
  refine ax_iadd rfl ?_
  refine ax_iret rfl rfl ?_
  exact av_rI rfl
set_option maxRecDepth 100000 in
set_option maxHeartbeats 800000 in
theorem c_X3_volume_x (E : av_E) (d : Nat) (M : av_M) (i j k : Int) (hi : 0 ≤ i ∧ i < 10) (hj : 0 ≤ j ∧ j < 10) (hk : 0 ≤ k ∧ k < 10) : av_Mt E d mX3_volume [vR 17, vR 15, vR 16, vI i, vI j, vI k] M (av_X (some (vI (vol (M 17) (M 15) (M 16) i j k))) M) := by
  refine av_enter hX3_volume oX3_volume rfl rfl ?_
  refine ax_aloadn rfl rfl ?_
  refine ax_iloadn rfl rfl ?_
  refine ax_iald rfl rfl (by omega) ?_
  refine ax_aloadn rfl rfl ?_
  refine ax_iload rfl rfl ?_
  refine ax_iald rfl rfl (by omega) ?_
  refine ax_aloadn rfl rfl ?_
  refine ax_iload rfl rfl ?_
  refine ax_iald rfl rfl (by omega) ?_
  refine ax_imul rfl ?_
  refine ax_aloadn rfl rfl ?_
  refine ax_iload rfl rfl ?_
  refine ax_iald rfl rfl (by omega) ?_
  refine ax_aloadn rfl rfl ?_
  refine ax_iload rfl rfl ?_
  refine ax_iald rfl rfl (by omega) ?_
  refine ax_imul rfl ?_
  refine ax_isub rfl ?_
  refine ax_imul rfl ?_
  refine ax_aloadn rfl rfl ?_
  refine ax_iload rfl rfl ?_
  refine ax_iald rfl rfl (by omega) ?_
  refine ax_aloadn rfl rfl ?_
  refine ax_iloadn rfl rfl ?_
  refine ax_iald rfl rfl (by omega) ?_
  refine ax_aloadn rfl rfl ?_
  refine ax_iload rfl rfl ?_
  refine ax_iald rfl rfl (by omega) ?_
  refine ax_imul rfl ?_
  refine ax_aloadn rfl rfl ?_
  refine ax_iload rfl rfl ?_
  refine ax_iald rfl rfl (by omega) ?_
  refine ax_aloadn rfl rfl ?_
  refine ax_iloadn rfl rfl ?_
  refine ax_iald rfl rfl (by omega) ?_
  refine ax_imul rfl ?_
  refine ax_isub rfl ?_
  refine ax_imul rfl ?_
  refine ax_isub rfl ?_
  refine ax_aloadn rfl rfl ?_
  refine ax_iload rfl rfl ?_
  refine ax_iald rfl rfl (by omega) ?_
  refine ax_aloadn rfl rfl ?_
  refine ax_iloadn rfl rfl ?_
  refine ax_iald rfl rfl (by omega) ?_
  refine ax_aloadn rfl rfl ?_
  refine ax_iload rfl rfl ?_
  refine ax_iald rfl rfl (by omega) ?_
  refine ax_imul rfl ?_
  refine ax_aloadn rfl rfl ?_
  refine ax_iload rfl rfl ?_
  refine ax_iald rfl rfl (by omega) ?_
  refine ax_aloadn rfl rfl ?_
  refine ax_iloadn rfl rfl ?_
  refine ax_iald rfl rfl (by omega) ?_
  refine ax_imul rfl ?_
  refine ax_isub rfl ?_
  refine ax_imul rfl ?_
  refine ax_iadd rfl ?_
  refine ax_iret rfl rfl ?_
  exact av_rI rfl
set_option maxRecDepth 100000 in
set_option maxHeartbeats 800000 in
theorem c_X3_volume_y (E : av_E) (d : Nat) (M : av_M) (i j k : Int) (hi : 0 ≤ i ∧ i < 10) (hj : 0 ≤ j ∧ j < 10) (hk : 0 ≤ k ∧ k < 10) : av_Mt E d mX3_volume [vR 14, vR 17, vR 16, vI i, vI j, vI k] M (av_X (some (vI (vol (M 14) (M 17) (M 16) i j k))) M) := by
  refine av_enter hX3_volume oX3_volume rfl rfl ?_
  refine ax_aloadn rfl rfl ?_
  refine ax_iloadn rfl rfl ?_
  refine ax_iald rfl rfl (by omega) ?_
  refine ax_aloadn rfl rfl ?_
  refine ax_iload rfl rfl ?_
  refine ax_iald rfl rfl (by omega) ?_
  refine ax_aloadn rfl rfl ?_
  refine ax_iload rfl rfl ?_
  refine ax_iald rfl rfl (by omega) ?_
  refine ax_imul rfl ?_
  refine ax_aloadn rfl rfl ?_
  refine ax_iload rfl rfl ?_
  refine ax_iald rfl rfl (by omega) ?_
  refine ax_aloadn rfl rfl ?_
  refine ax_iload rfl rfl ?_
  refine ax_iald rfl rfl (by omega) ?_
  refine ax_imul rfl ?_
  refine ax_isub rfl ?_
  refine ax_imul rfl ?_
  refine ax_aloadn rfl rfl ?_
  refine ax_iload rfl rfl ?_
  refine ax_iald rfl rfl (by omega) ?_
  refine ax_aloadn rfl rfl ?_
  refine ax_iloadn rfl rfl ?_
  refine ax_iald rfl rfl (by omega) ?_
  refine ax_aloadn rfl rfl ?_
  refine ax_iload rfl rfl ?_
  refine ax_iald rfl rfl (by omega) ?_
  refine ax_imul rfl ?_
  refine ax_aloadn rfl rfl ?_
  refine ax_iload rfl rfl ?_
  refine ax_iald rfl rfl (by omega) ?_
  refine ax_aloadn rfl rfl ?_
  refine ax_iloadn rfl rfl ?_
  refine ax_iald rfl rfl (by omega) ?_
  refine ax_imul rfl ?_
  refine ax_isub rfl ?_
  refine ax_imul rfl ?_
  refine ax_isub rfl ?_
  refine ax_aloadn rfl rfl ?_
  refine ax_iload rfl rfl ?_
  refine ax_iald rfl rfl (by omega) ?_
  refine ax_aloadn rfl rfl ?_
  refine ax_iloadn rfl rfl ?_
  refine ax_iald rfl rfl (by omega) ?_
  refine ax_aloadn rfl rfl ?_
  refine ax_iload rfl rfl ?_
  refine ax_iald rfl rfl (by omega) ?_
  refine ax_imul rfl ?_
  refine ax_aloadn rfl rfl ?_
  refine ax_iload rfl rfl ?_
  refine ax_iald rfl rfl (by omega) ?_
  refine ax_aloadn rfl rfl ?_
  refine ax_iloadn rfl rfl ?_
  refine ax_iald rfl rfl (by omega) ?_
  refine ax_imul rfl ?_
  refine ax_isub rfl ?_
  refine ax_imul rfl ?_
  refine ax_iadd rfl ?_
  refine ax_iret rfl rfl ?_
  exact av_rI rfl
set_option maxRecDepth 100000 in
set_option maxHeartbeats 800000 in
theorem c_X3_volume_z (E : av_E) (d : Nat) (M : av_M) (i j k : Int) (hi : 0 ≤ i ∧ i < 10) (hj : 0 ≤ j ∧ j < 10) (hk : 0 ≤ k ∧ k < 10) : av_Mt E d mX3_volume [vR 14, vR 15, vR 17, vI i, vI j, vI k] M (av_X (some (vI (vol (M 14) (M 15) (M 17) i j k))) M) := by
  refine av_enter hX3_volume oX3_volume rfl rfl ?_
  refine ax_aloadn rfl rfl ?_
  refine ax_iloadn rfl rfl ?_
  refine ax_iald rfl rfl (by omega) ?_
  refine ax_aloadn rfl rfl ?_
  refine ax_iload rfl rfl ?_
  refine ax_iald rfl rfl (by omega) ?_
  refine ax_aloadn rfl rfl ?_
  refine ax_iload rfl rfl ?_
  refine ax_iald rfl rfl (by omega) ?_
  refine ax_imul rfl ?_
  refine ax_aloadn rfl rfl ?_
  refine ax_iload rfl rfl ?_
  refine ax_iald rfl rfl (by omega) ?_
  refine ax_aloadn rfl rfl ?_
  refine ax_iload rfl rfl ?_
  refine ax_iald rfl rfl (by omega) ?_
  refine ax_imul rfl ?_
  refine ax_isub rfl ?_
  refine ax_imul rfl ?_
  refine ax_aloadn rfl rfl ?_
  refine ax_iload rfl rfl ?_
  refine ax_iald rfl rfl (by omega) ?_
  refine ax_aloadn rfl rfl ?_
  refine ax_iloadn rfl rfl ?_
  refine ax_iald rfl rfl (by omega) ?_
  refine ax_aloadn rfl rfl ?_
  refine ax_iload rfl rfl ?_
  refine ax_iald rfl rfl (by omega) ?_
  refine ax_imul rfl ?_
  refine ax_aloadn rfl rfl ?_
  refine ax_iload rfl rfl ?_
  refine ax_iald rfl rfl (by omega) ?_
  refine ax_aloadn rfl rfl ?_
  refine ax_iloadn rfl rfl ?_
  refine ax_iald rfl rfl (by omega) ?_
  refine ax_imul rfl ?_
  refine ax_isub rfl ?_
  refine ax_imul rfl ?_
  refine ax_isub rfl ?_
  refine ax_aloadn rfl rfl ?_
  refine ax_iload rfl rfl ?_
  refine ax_iald rfl rfl (by omega) ?_
  refine ax_aloadn rfl rfl ?_
  refine ax_iloadn rfl rfl ?_
  refine ax_iald rfl rfl (by omega) ?_
  refine ax_aloadn rfl rfl ?_
  refine ax_iload rfl rfl ?_
  refine ax_iald rfl rfl (by omega) ?_
  refine ax_imul rfl ?_
  refine ax_aloadn rfl rfl ?_
  refine ax_iload rfl rfl ?_
  refine ax_iald rfl rfl (by omega) ?_
  refine ax_aloadn rfl rfl ?_
  refine ax_iloadn rfl rfl ?_
  refine ax_iald rfl rfl (by omega) ?_
  refine ax_imul rfl ?_
  refine ax_isub rfl ?_
  refine ax_imul rfl ?_
  refine ax_iadd rfl ?_
  refine ax_iret rfl rfl ?_
  exact av_rI rfl
set_option maxRecDepth 100000 in
set_option maxHeartbeats 800000 in
theorem l_X3_mark (E : av_E) (d : Nat) (M : av_M) (z : Int) (hz : M 18 8 = z) (hz0 : 0 ≤ z ∧ z < 120) (hW : WI (M 14) (M 15) (M 16) (M 17) (M 13 4) (M 13 5)) (hx : -50000 ≤ M 19 z ∧ M 19 z ≤ 50000) (hy : -50000 ≤ M 20 z ∧ M 20 z ≤ 50000) (hv : -50000 ≤ M 21 z ∧ M 21 z ≤ 50000) (hw : 0 < M 22 z ∧ M 22 z ≤ 5000) : ∀ (t : Nat) (n : Int) (M1 : av_M), n + t = M 13 4 → 0 ≤ n → (bset (PB M z) (n) (M1 24 z) ∧ bset (PT M z) (n) (M1 25 z) ∧ (∀ j, j ≠ z → M1 24 j = M 24 j) ∧ (∀ j, j ≠ z → M1 25 j = M 25 j) ∧ ∀ k, k ≠ 24 → k ≠ 25 → M1 k = M k) → av_S E (d + 1) mX3_mark 22 [(0, vR 18), (1, vR 13), (2, vI n)] [] M1 (fun res M' => res = none ∧ bset (PB M z) (M 13 4) (M' 24 z) ∧ bset (PT M z) (M 13 4) (M' 25 z) ∧ (∀ j, j ≠ z → M' 24 j = M 24 j) ∧ (∀ j, j ≠ z → M' 25 j = M 25 j) ∧ ∀ k, k ≠ 24 → k ≠ 25 → M' k = M k) := by
  have hs := hW.2.1
  intro t
  induction t with
  | zero =>
    intro n M1 hi n0 hinv
    have en : n = M 13 4 := by omega
    subst en
    obtain ⟨g1, g2, g3, g4, hf⟩ := hinv
    have f13 := hf 13 (by decide) (by decide)
    refine ax_iloadn rfl rfl ?_
    refine ax_aloadn rfl rfl ?_
    refine ax_getI (g := 4) rfl fX3_43 rfl rfl rfl rfl ?_
    refine ax_icmp_ge rfl (by omega) (by rw [f13]; omega) (fun h27 => ?_) (fun h27 => ?_)
    · refine ax_vret rfl rfl ?_
      exact ⟨rfl, g1, g2, g3, g4, hf⟩
    · rw [f13] at h27; omega
  | succ t ih =>
    intro n M1 hi n0 hinv
    obtain ⟨g1, g2, g3, g4, hf⟩ := hinv
    have f13 := hf 13 (by decide) (by decide)
    have f18 := hf 18 (by decide) (by decide)
    have ez : M1 18 8 = z := by rw [f18]; exact hz
    have b := hW.2.2.1 n n0 (by omega)
    have er := exI_rng b.1 b.2.1 b.2.2.1 b.2.2.2.1 hx hy hv (show 0 ≤ M 22 z ∧ M 22 z ≤ 5000 by omega)
    have ex : M1 14 n * M1 19 (M1 18 8) + M1 15 n * M1 20 (M1 18 8) + M1 16 n * M1 21 (M1 18 8) - M1 17 n * M1 22 (M1 18 8) = exI (M 14) (M 15) (M 16) (M 17) n (M 19 z) (M 20 z) (M 21 z) (M 22 z) := by
      rw [ez, hf 14 (by decide) (by decide), hf 15 (by decide) (by decide), hf 16 (by decide) (by decide), hf 17 (by decide) (by decide), hf 19 (by decide) (by decide), hf 20 (by decide) (by decide), hf 21 (by decide) (by decide), hf 22 (by decide) (by decide)]
      rfl
    have hnn : ((n.toNat : Nat) : Int) = n := by omega
    have pB : PB M z n.toNat ↔ 0 < exI (M 14) (M 15) (M 16) (M 17) n (M 19 z) (M 20 z) (M 21 z) (M 22 z) := by unfold PB; rw [hnn]
    have pT : PT M z n.toNat ↔ exI (M 14) (M 15) (M 16) (M 17) n (M 19 z) (M 20 z) (M 21 z) (M 22 z) = 0 := by unfold PT; rw [hnn]
    refine ax_iloadn rfl rfl ?_
    refine ax_aloadn rfl rfl ?_
    refine ax_getI (g := 4) rfl fX3_43 rfl rfl rfl rfl ?_
    refine ax_icmp_ge rfl (by omega) (by rw [f13]; omega) (fun h27 => ?_) (fun h27 => ?_)
    · rw [f13] at h27; omega
    · refine ax_aloadn rfl rfl ?_
      refine ax_iloadn rfl rfl ?_
      refine ax_aloadn rfl rfl ?_
      refine ax_getR rfl fX3_9 rfl rfl ?_
      refine ax_aloadn rfl rfl ?_
      refine ax_getI (g := 8) rfl fX3_36 rfl rfl rfl rfl ?_
      refine ax_iald rfl rfl (by omega) ?_
      refine ax_aloadn rfl rfl ?_
      refine ax_getR rfl fX3_15 rfl rfl ?_
      refine ax_aloadn rfl rfl ?_
      refine ax_getI (g := 8) rfl fX3_36 rfl rfl rfl rfl ?_
      refine ax_iald rfl rfl (by omega) ?_
      refine ax_aloadn rfl rfl ?_
      refine ax_getR rfl fX3_18 rfl rfl ?_
      refine ax_aloadn rfl rfl ?_
      refine ax_getI (g := 8) rfl fX3_36 rfl rfl rfl rfl ?_
      refine ax_iald rfl rfl (by omega) ?_
      refine ax_aloadn rfl rfl ?_
      refine ax_getR rfl fX3_21 rfl rfl ?_
      refine ax_aloadn rfl rfl ?_
      refine ax_getI (g := 8) rfl fX3_36 rfl rfl rfl rfl ?_
      refine ax_iald rfl rfl (by omega) ?_
      refine ax_callV (as := [_, _, _, _, _]) rfl vX3_74 hX6_excess rfl rfl rfl rfl rfl (c_X6_excess E d M1 n _ _ _ _ (by omega)) (av_Xk ?_)
      refine ax_istoren (ls' := [(0, _), (1, _), (2, _), (3, _)]) rfl rfl rfl ?_
      refine ax_iloadn rfl rfl ?_
      refine ax_if_le rfl (by omega) (fun h73 => ?_) (fun h73 => ?_)
      · refine ax_iloadn rfl rfl ?_
        refine ax_if_ne rfl (by omega) (fun h95 => ?_) (fun h95 => ?_)
        · refine ax_iinc (ls' := [(0, _), (1, _), (2, _), (3, _)]) rfl rfl rfl rfl ?_
          refine ax_goto rfl ?_
          refine ax_pick [0, 1, 2] rfl ?_
          first
            | (rw [ez] at a90 b90
               obtain ⟨r, e1, e2⟩ := bset_in g1 (by omega) (pB.mpr (by omega))
               refine ih _ M90 (by omega) (by omega) ⟨by rw [a90, e1]; exact e2, ?_, fun j hj => by rw [b90 j hj, g3 j hj], fun j hj => by rw [c90 25 (by decide), g4 j hj], fun k k0 k1 => by rw [c90 k k0, hf k k0 k1]⟩
               rw [c90 25 (by decide)]
               exact bset_out g2 n0 (fun q => by have := pT.mp q; omega))
            | (rw [ez] at a112 b112
               obtain ⟨r, e1, e2⟩ := bset_in g2 (by omega) (pT.mpr (by omega))
               refine ih _ M112 (by omega) (by omega) ⟨?_, by rw [a112, e1]; exact e2, fun j hj => by rw [c112 24 (by decide), g3 j hj], fun j hj => by rw [b112 j hj, g4 j hj], fun k k0 k1 => by rw [c112 k k1, hf k k0 k1]⟩
               rw [c112 24 (by decide)]
               exact bset_out g1 n0 (fun q => by have := pB.mp q; omega))
            | exact ih _ M1 (by omega) (by omega) ⟨bset_out g1 n0 (fun q => by have := pB.mp q; omega), bset_out g2 n0 (fun q => by have := pT.mp q; omega), g3, g4, hf⟩
        · refine ax_aloadn rfl rfl ?_
          refine ax_getR rfl fX3_30 rfl rfl ?_
          refine ax_aloadn rfl rfl ?_
          refine ax_getI (g := 8) rfl fX3_36 rfl rfl rfl rfl ?_
          refine ax_dup2 rfl rfl rfl ?_
          refine ax_iald rfl rfl (by omega) ?_
          refine ax_iconst rfl ?_
          refine ax_iloadn rfl rfl ?_
          refine ax_ishl rfl ?_
          refine ax_ior rfl ?_
          refine ax_iast' rfl rfl (by omega) (fun M112 a112 b112 c112 => ?_)
          refine ax_iinc (ls' := [(0, _), (1, _), (2, _), (3, _)]) rfl rfl rfl rfl ?_
          refine ax_goto rfl ?_
          refine ax_pick [0, 1, 2] rfl ?_
          first
            | (rw [ez] at a90 b90
               obtain ⟨r, e1, e2⟩ := bset_in g1 (by omega) (pB.mpr (by omega))
               refine ih _ M90 (by omega) (by omega) ⟨by rw [a90, e1]; exact e2, ?_, fun j hj => by rw [b90 j hj, g3 j hj], fun j hj => by rw [c90 25 (by decide), g4 j hj], fun k k0 k1 => by rw [c90 k k0, hf k k0 k1]⟩
               rw [c90 25 (by decide)]
               exact bset_out g2 n0 (fun q => by have := pT.mp q; omega))
            | (rw [ez] at a112 b112
               obtain ⟨r, e1, e2⟩ := bset_in g2 (by omega) (pT.mpr (by omega))
               refine ih _ M112 (by omega) (by omega) ⟨?_, by rw [a112, e1]; exact e2, fun j hj => by rw [c112 24 (by decide), g3 j hj], fun j hj => by rw [b112 j hj, g4 j hj], fun k k0 k1 => by rw [c112 k k1, hf k k0 k1]⟩
               rw [c112 24 (by decide)]
               exact bset_out g1 n0 (fun q => by have := pB.mp q; omega))
            | exact ih _ M1 (by omega) (by omega) ⟨bset_out g1 n0 (fun q => by have := pB.mp q; omega), bset_out g2 n0 (fun q => by have := pT.mp q; omega), g3, g4, hf⟩
      · refine ax_aloadn rfl rfl ?_
        refine ax_getR rfl fX3_27 rfl rfl ?_
        refine ax_aloadn rfl rfl ?_
        refine ax_getI (g := 8) rfl fX3_36 rfl rfl rfl rfl ?_
        refine ax_dup2 rfl rfl rfl ?_
        refine ax_iald rfl rfl (by omega) ?_
        refine ax_iconst rfl ?_
        refine ax_iloadn rfl rfl ?_
        refine ax_ishl rfl ?_
        refine ax_ior rfl ?_
        refine ax_iast' rfl rfl (by omega) (fun M90 a90 b90 c90 => ?_)
        refine ax_goto rfl ?_
        refine ax_iinc (ls' := [(0, _), (1, _), (2, _), (3, _)]) rfl rfl rfl rfl ?_
        refine ax_goto rfl ?_
        refine ax_pick [0, 1, 2] rfl ?_
        first
          | (rw [ez] at a90 b90
             obtain ⟨r, e1, e2⟩ := bset_in g1 (by omega) (pB.mpr (by omega))
             refine ih _ M90 (by omega) (by omega) ⟨by rw [a90, e1]; exact e2, ?_, fun j hj => by rw [b90 j hj, g3 j hj], fun j hj => by rw [c90 25 (by decide), g4 j hj], fun k k0 k1 => by rw [c90 k k0, hf k k0 k1]⟩
             rw [c90 25 (by decide)]
             exact bset_out g2 n0 (fun q => by have := pT.mp q; omega))
          | (rw [ez] at a112 b112
             obtain ⟨r, e1, e2⟩ := bset_in g2 (by omega) (pT.mpr (by omega))
             refine ih _ M112 (by omega) (by omega) ⟨?_, by rw [a112, e1]; exact e2, fun j hj => by rw [c112 24 (by decide), g3 j hj], fun j hj => by rw [b112 j hj, g4 j hj], fun k k0 k1 => by rw [c112 k k1, hf k k0 k1]⟩
             rw [c112 24 (by decide)]
             exact bset_out g1 n0 (fun q => by have := pB.mp q; omega))
          | exact ih _ M1 (by omega) (by omega) ⟨bset_out g1 n0 (fun q => by have := pB.mp q; omega), bset_out g2 n0 (fun q => by have := pT.mp q; omega), g3, g4, hf⟩
set_option maxRecDepth 100000 in
set_option maxHeartbeats 800000 in
theorem c_X3_mark (E : av_E) (d : Nat) (M : av_M) (z : Int) (hz : M 18 8 = z) (hz0 : 0 ≤ z ∧ z < 120) (hW : WI (M 14) (M 15) (M 16) (M 17) (M 13 4) (M 13 5)) (hx : -50000 ≤ M 19 z ∧ M 19 z ≤ 50000) (hy : -50000 ≤ M 20 z ∧ M 20 z ≤ 50000) (hv : -50000 ≤ M 21 z ∧ M 21 z ≤ 50000) (hw : 0 < M 22 z ∧ M 22 z ≤ 5000) : av_Mt E (d + 1) mX3_mark [vR 18, vR 13] M (fun res M' => res = none ∧ bset (PB M z) (M 13 4) (M' 24 z) ∧ bset (PT M z) (M 13 4) (M' 25 z) ∧ (∀ j, j ≠ z → M' 24 j = M 24 j) ∧ (∀ j, j ≠ z → M' 25 j = M 25 j) ∧ ∀ k, k ≠ 24 → k ≠ 25 → M' k = M k) := by
  have hs := hW.2.1
  have hs0 := hW.1
  refine av_enter hX3_mark oX3_mark rfl rfl ?_
  refine ax_aloadn rfl rfl ?_
  refine ax_getR rfl fX3_27 rfl rfl ?_
  refine ax_aloadn rfl rfl ?_
  refine ax_getI (g := 8) rfl fX3_36 rfl rfl rfl rfl ?_
  refine ax_iconst rfl ?_
  refine ax_iast' rfl rfl (by omega) (fun M9 a9 b9 c9 => ?_)
  refine ax_aloadn rfl rfl ?_
  refine ax_getR rfl fX3_30 rfl rfl ?_
  refine ax_aloadn rfl rfl ?_
  refine ax_getI (g := 8) rfl fX3_36 rfl rfl rfl rfl ?_
  refine ax_iconst rfl ?_
  refine ax_iast' rfl rfl (by rw [c9 18 (by decide)]; omega) (fun M19 a19 b19 c19 => ?_)
  refine ax_iconst rfl ?_
  refine ax_istoren (ls' := [(0, _), (1, _), (2, _)]) rfl rfl rfl ?_
  rw [hz] at a9 b9
  rw [c9 18 (by decide), hz] at a19 b19
  refine l_X3_mark E d M z hz hz0 hW hx hy hv hw (M 13 4).toNat 0 M19 (by omega) (by omega) ⟨?_, ?_, fun j hj => by rw [c19 24 (by decide), b9 j hj], fun j hj => by rw [b19 j hj, c9 25 (by decide)], fun k k0 k1 => by rw [c19 k k1, c9 k k0]⟩
  · rw [c19 24 (by decide), a9]; exact bset_nil (by omega)
  · rw [a19]; exact bset_nil (by omega)
set_option maxRecDepth 100000 in
set_option maxHeartbeats 800000 in
theorem l_X3_addRay (E : av_E) (d : Nat) (M : av_M) (x y z : Int) (hr : 0 ≤ M 18 9 ∧ M 18 9 < 90) (hW : WI (M 14) (M 15) (M 16) (M 17) (M 13 4) (M 13 5)) (hx : -200 ≤ x ∧ x ≤ 200) (hy : -200 ≤ y ∧ y ≤ 200) (hz : -200 ≤ z ∧ z ≤ 200) : ∀ (t : Nat) (n v : Int), n + t = M 13 4 → 0 ≤ n → bset (PR M x y z) n v → av_S E (d + 1) mX3_addRay 16 [(0, vR 18), (1, vR 13), (2, vI x), (3, vI y), (4, vI z), (5, vI v), (6, vI n)] [] M (fun res M' => res = none ∧ M' 18 9 = M 18 9 + 1 ∧ (∀ f, f ≠ 9 → M' 18 f = M 18 f) ∧ bset (PR M x y z) (M 13 4) (M' 26 (M 18 9)) ∧ (∀ j, j ≠ M 18 9 → M' 26 j = M 26 j) ∧ ∀ k, k ≠ 18 → k ≠ 26 → M' k = M k) := by
  have hs := hW.2.1
  intro t
  induction t with
  | zero =>
    intro n v hi n0 g1
    have en : n = M 13 4 := by omega
    subst en
    refine ax_iload rfl rfl ?_
    refine ax_aloadn rfl rfl ?_
    refine ax_getI (g := 4) rfl fX3_43 rfl rfl rfl rfl ?_
    refine ax_icmp_ge rfl (by omega) (by omega) (fun h22 => ?_) (fun h22 => ?_)
    · refine ax_aloadn rfl rfl ?_
      refine ax_getR rfl fX3_33 rfl rfl ?_
      refine ax_aloadn rfl rfl ?_
      refine ax_getI (g := 9) rfl fX3_40 rfl rfl rfl rfl ?_
      refine ax_iload rfl rfl ?_
      refine ax_iast' rfl rfl (by omega) (fun M64 a64 b64 c64 => ?_)
      refine ax_aloadn rfl rfl ?_
      refine ax_dup rfl rfl ?_
      refine ax_getI (g := 9) rfl fX3_40 rfl rfl rfl rfl ?_
      refine ax_iconst rfl ?_
      refine ax_iadd rfl ?_
      refine ax_putI' (g := 9) rfl gX3_40 rfl rfl rfl rfl (fun M72 a72 b72 c72 => ?_)
      refine ax_vret rfl rfl ?_
      exact ⟨rfl, by rw [a72, c64 18 (by decide)], fun f hf => by rw [b72 f hf, c64 18 (by decide)], by rw [c72 26 (by decide), a64]; exact g1, fun j hj => by rw [c72 26 (by decide), b64 j hj], fun k k0 k1 => by rw [c72 k k0, c64 k k1]⟩
    · omega
  | succ t ih =>
    intro n v hi n0 g1
    have b := hW.2.2.1 n n0 (by omega)
    have er := exI_rng (x := x) (y := y) (z := z) (w := 0) b.1 b.2.1 b.2.2.1 b.2.2.2.1 (by omega) (by omega) (by omega) (by omega)
    have ex : M 14 n * x + M 15 n * y + M 16 n * z - M 17 n * 0 = exI (M 14) (M 15) (M 16) (M 17) n x y z 0 := rfl
    have hnn : ((n.toNat : Nat) : Int) = n := by omega
    have pB : PR M x y z n.toNat ↔ 0 < exI (M 14) (M 15) (M 16) (M 17) n x y z 0 := by unfold PR; rw [hnn]
    refine ax_iload rfl rfl ?_
    refine ax_aloadn rfl rfl ?_
    refine ax_getI (g := 4) rfl fX3_43 rfl rfl rfl rfl ?_
    refine ax_icmp_ge rfl (by omega) (by omega) (fun h22 => ?_) (fun h22 => ?_)
    · omega
    · refine ax_aloadn rfl rfl ?_
      refine ax_iload rfl rfl ?_
      refine ax_iloadn rfl rfl ?_
      refine ax_iloadn rfl rfl ?_
      refine ax_iload rfl rfl ?_
      refine ax_iconst rfl ?_
      refine ax_callV (as := [_, _, _, _, _]) rfl vX3_74 hX6_excess rfl rfl rfl rfl rfl (c_X6_excess E d M n _ _ _ _ (by omega)) (av_Xk ?_)
      refine ax_if_le rfl (by rw [ex]; omega) (fun h36 => ?_) (fun h36 => ?_)
      · refine ax_iinc (ls' := [(0, _), (1, _), (2, _), (3, _), (4, _), (5, _), (6, _)]) rfl rfl rfl rfl ?_
        refine ax_goto rfl ?_
        rw [ex] at h36
        first
          | (obtain ⟨r, e1, e2⟩ := bset_in g1 (by omega) (pB.mpr (by omega))
             rw [e1]
             exact ih _ _ (by omega) (by omega) e2)
          | exact ih _ _ (by omega) (by omega) (bset_out g1 n0 (fun q => by have := pB.mp q; omega))
      · refine ax_iload rfl rfl ?_
        refine ax_iconst rfl ?_
        refine ax_iload rfl rfl ?_
        refine ax_ishl rfl ?_
        refine ax_ior rfl ?_
        refine ax_istore (ls' := [(0, _), (1, _), (2, _), (3, _), (4, _), (5, _), (6, _)]) rfl rfl rfl ?_
        refine ax_iinc (ls' := [(0, _), (1, _), (2, _), (3, _), (4, _), (5, _), (6, _)]) rfl rfl rfl rfl ?_
        refine ax_goto rfl ?_
        rw [ex] at h36
        first
          | (obtain ⟨r, e1, e2⟩ := bset_in g1 (by omega) (pB.mpr (by omega))
             rw [e1]
             exact ih _ _ (by omega) (by omega) e2)
          | exact ih _ _ (by omega) (by omega) (bset_out g1 n0 (fun q => by have := pB.mp q; omega))
set_option maxRecDepth 100000 in
set_option maxHeartbeats 800000 in
theorem c_X3_addRay (E : av_E) (d : Nat) (M : av_M) (x y z : Int) (hr : 0 ≤ M 18 9 ∧ M 18 9 < 90) (hW : WI (M 14) (M 15) (M 16) (M 17) (M 13 4) (M 13 5)) (hx : -200 ≤ x ∧ x ≤ 200) (hy : -200 ≤ y ∧ y ≤ 200) (hz : -200 ≤ z ∧ z ≤ 200) : av_Mt E (d + 1) mX3_addRay [vR 18, vR 13, vI x, vI y, vI z] M (fun res M' => res = none ∧ M' 18 9 = M 18 9 + 1 ∧ (∀ f, f ≠ 9 → M' 18 f = M 18 f) ∧ bset (PR M x y z) (M 13 4) (M' 26 (M 18 9)) ∧ (∀ j, j ≠ M 18 9 → M' 26 j = M 26 j) ∧ ∀ k, k ≠ 18 → k ≠ 26 → M' k = M k) := by
  have hs0 := hW.1
  refine av_enter hX3_addRay oX3_addRay rfl rfl ?_
  refine ax_aloadn rfl rfl ?_
  refine ax_getI (g := 9) rfl fX3_40 rfl rfl rfl rfl ?_
  refine ax_bipush rfl rfl ?_
  refine ax_icmp_lt rfl (by omega) (by omega) (fun h6 => ?_) (fun h6 => ?_)
  · refine ax_iconst rfl ?_
    refine ax_istore (ls' := [(0, _), (1, _), (2, _), (3, _), (4, _), (5, _)]) rfl rfl rfl ?_
    refine ax_iconst rfl ?_
    refine ax_istore (ls' := [(0, _), (1, _), (2, _), (3, _), (4, _), (5, _), (6, _)]) rfl rfl rfl ?_
    exact l_X3_addRay E d M x y z hr hW hx hy hz (M 13 4).toNat 0 0 (by omega) (by omega) (bset_nil (by omega))
  · omega
set_option maxRecDepth 100000 in
set_option maxHeartbeats 800000 in
theorem c_X3_addRays (E : av_E) (d : Nat) (M : av_M) (i j : Int) (hi : 0 ≤ i ∧ i < M 13 4) (hj : 0 ≤ j ∧ j < M 13 4) (hr : 0 ≤ M 18 9 ∧ M 18 9 + 2 ≤ 90) (hW : WI (M 14) (M 15) (M 16) (M 17) (M 13 4) (M 13 5)) (cov : Int → Int → Prop) (hR : MTR M cov) : av_Mt E (d + 2) mX3_addRays [vR 18, vR 13, vI i, vI j] M (fun res M' => res = none ∧ MTR M' (fun a b => cov a b ∨ (a = i ∧ b = j) ∨ (a = j ∧ b = i)) ∧ M 18 9 ≤ M' 18 9 ∧ M' 18 9 ≤ M 18 9 + 2 ∧ (∀ f, f ≠ 9 → M' 18 f = M 18 f) ∧ ∀ k, k ≠ 18 → k ≠ 26 → M' k = M k) := by
  have hs := hW.2.1
  have bi := hW.2.2.1 i hi.1 hi.2
  have bj := hW.2.2.1 j hj.1 hj.2
  have m1 := mb bi.2.1 bj.2.2.1
  have m2 := mb bi.2.2.1 bj.2.1
  have m3 := mb bi.2.2.1 bj.1
  have m4 := mb bi.1 bj.2.2.1
  have m5 := mb bi.1 bj.2.1
  have m6 := mb bi.2.1 bj.1
  refine av_enter hX3_addRays oX3_addRays rfl rfl ?_
  refine ax_aloadn rfl rfl ?_
  refine ax_getR rfl fX3_57 rfl rfl ?_
  refine ax_iloadn rfl rfl ?_
  refine ax_iald rfl rfl (by omega) ?_
  refine ax_aloadn rfl rfl ?_
  refine ax_getR rfl fX3_60 rfl rfl ?_
  refine ax_iloadn rfl rfl ?_
  refine ax_iald rfl rfl (by omega) ?_
  refine ax_imul rfl ?_
  refine ax_aloadn rfl rfl ?_
  refine ax_getR rfl fX3_60 rfl rfl ?_
  refine ax_iloadn rfl rfl ?_
  refine ax_iald rfl rfl (by omega) ?_
  refine ax_aloadn rfl rfl ?_
  refine ax_getR rfl fX3_57 rfl rfl ?_
  refine ax_iloadn rfl rfl ?_
  refine ax_iald rfl rfl (by omega) ?_
  refine ax_imul rfl ?_
  refine ax_isub rfl ?_
  refine ax_istore (ls' := [(0, _), (1, _), (2, _), (3, _), (4, _)]) rfl rfl rfl ?_
  refine ax_aloadn rfl rfl ?_
  refine ax_getR rfl fX3_60 rfl rfl ?_
  refine ax_iloadn rfl rfl ?_
  refine ax_iald rfl rfl (by omega) ?_
  refine ax_aloadn rfl rfl ?_
  refine ax_getR rfl fX3_54 rfl rfl ?_
  refine ax_iloadn rfl rfl ?_
  refine ax_iald rfl rfl (by omega) ?_
  refine ax_imul rfl ?_
  refine ax_aloadn rfl rfl ?_
  refine ax_getR rfl fX3_54 rfl rfl ?_
  refine ax_iloadn rfl rfl ?_
  refine ax_iald rfl rfl (by omega) ?_
  refine ax_aloadn rfl rfl ?_
  refine ax_getR rfl fX3_60 rfl rfl ?_
  refine ax_iloadn rfl rfl ?_
  refine ax_iald rfl rfl (by omega) ?_
  refine ax_imul rfl ?_
  refine ax_isub rfl ?_
  refine ax_istore (ls' := [(0, _), (1, _), (2, _), (3, _), (4, _), (5, _)]) rfl rfl rfl ?_
  refine ax_aloadn rfl rfl ?_
  refine ax_getR rfl fX3_54 rfl rfl ?_
  refine ax_iloadn rfl rfl ?_
  refine ax_iald rfl rfl (by omega) ?_
  refine ax_aloadn rfl rfl ?_
  refine ax_getR rfl fX3_57 rfl rfl ?_
  refine ax_iloadn rfl rfl ?_
  refine ax_iald rfl rfl (by omega) ?_
  refine ax_imul rfl ?_
  refine ax_aloadn rfl rfl ?_
  refine ax_getR rfl fX3_57 rfl rfl ?_
  refine ax_iloadn rfl rfl ?_
  refine ax_iald rfl rfl (by omega) ?_
  refine ax_aloadn rfl rfl ?_
  refine ax_getR rfl fX3_54 rfl rfl ?_
  refine ax_iloadn rfl rfl ?_
  refine ax_iald rfl rfl (by omega) ?_
  refine ax_imul rfl ?_
  refine ax_isub rfl ?_
  refine ax_istore (ls' := [(0, _), (1, _), (2, _), (3, _), (4, _), (5, _), (6, _)]) rfl rfl rfl ?_
  refine ax_iload rfl rfl ?_
  refine ax_if_ne rfl (by omega) (fun h89 => ?_) (fun h89 => ?_)
  · refine ax_aloadn rfl rfl ?_
    refine ax_aloadn rfl rfl ?_
    refine ax_iload rfl rfl ?_
    refine ax_iload rfl rfl ?_
    refine ax_iload rfl rfl ?_
    refine ax_callV (as := [_, _, _, _]) rfl vX3_78 hX3_addRay rfl rfl rfl rfl rfl (c_X3_addRay E d M _ _ _ (by omega) hW (by omega) (by omega) (by omega)) (fun r111 M111 hr111 => ?_)
    obtain ⟨rfl, p2, p3, p4, p5, p6⟩ := hr111
    refine ax_aloadn rfl rfl ?_
    refine ax_aloadn rfl rfl ?_
    refine ax_iload rfl rfl ?_
    refine ax_ineg rfl ?_
    refine ax_iload rfl rfl ?_
    refine ax_ineg rfl ?_
    refine ax_iload rfl rfl ?_
    refine ax_ineg rfl ?_
    refine ax_callV (as := [_, _, _, _]) rfl vX3_78 hX3_addRay rfl rfl rfl rfl rfl (c_X3_addRay E d M111 _ _ _ (by omega) (by rw [p6 13 (by decide) (by decide), p6 14 (by decide) (by decide), p6 15 (by decide) (by decide), p6 16 (by decide) (by decide), p6 17 (by decide) (by decide)]; exact hW) (by omega) (by omega) (by omega)) (fun r125 M125 hr125 => ?_)
    obtain ⟨rfl, q2, q3, q4, q5, q6⟩ := hr125
    refine ax_vret rfl rfl ?_
    have f13 : M125 13 = M 13 := by rw [q6 13 (by decide) (by decide), p6 13 (by decide) (by decide)]
    have f14 : M125 14 = M 14 := by rw [q6 14 (by decide) (by decide), p6 14 (by decide) (by decide)]
    have f15 : M125 15 = M 15 := by rw [q6 15 (by decide) (by decide), p6 15 (by decide) (by decide)]
    have f16 : M125 16 = M 16 := by rw [q6 16 (by decide) (by decide), p6 16 (by decide) (by decide)]
    refine ⟨rfl, ?_, by omega, by omega, fun f hf => by rw [q3 f hf, p3 f hf], fun k k0 k1 => by rw [q6 k k0 k1, p6 k k0 k1]⟩
    unfold MTR at hR ⊢
    rw [f13, f14, f15, f16, q2]
    rw [p2] at q5 q4 ⊢
    have r1 : RI (M 14) (M 15) (M 16) (M 13 4) (M111 26) (M 18 9 + 1) (fun a b => cov a b ∨ (a = i ∧ b = j)) := RI_add hR p5 ⟨⟨by omega, by omega, by omega, by omega⟩, by omega, bset_congr p4 (fun t ht => by
      unfold PR
      rw [show exI (M 14) (M 15) (M 16) (M 17) (t : Int) (M 15 i * M 16 j - M 16 i * M 15 j) (M 16 i * M 14 j - M 14 i * M 16 j) (M 14 i * M 15 j - M 15 i * M 14 j) 0 = M 14 t * (M 15 i * M 16 j - M 16 i * M 15 j) + M 15 t * (M 16 i * M 14 j - M 14 i * M 16 j) + M 16 t * (M 14 i * M 15 j - M 15 i * M 14 j) by unfold exI; omega])⟩ (fun a b q => q)
    refine RI_add r1 q5 (i := j) (j := i) ⟨⟨by omega, by omega, by omega, by omega⟩, ?_, ?_⟩ (fun a b q => ?_)
    · have e1 : M 15 j * M 16 i - M 16 j * M 15 i = -(M 15 i * M 16 j - M 16 i * M 15 j) := by grind
      have e2 : M 16 j * M 14 i - M 14 j * M 16 i = -(M 16 i * M 14 j - M 14 i * M 16 j) := by grind
      have e3 : M 14 j * M 15 i - M 15 j * M 14 i = -(M 14 i * M 15 j - M 15 i * M 14 j) := by grind
      rw [e1, e2, e3]
      omega
    · have g13 : M111 13 = M 13 := p6 13 (by decide) (by decide)
      have g14 : M111 14 = M 14 := p6 14 (by decide) (by decide)
      have g15 : M111 15 = M 15 := p6 15 (by decide) (by decide)
      have g16 : M111 16 = M 16 := p6 16 (by decide) (by decide)
      have g17 : M111 17 = M 17 := p6 17 (by decide) (by decide)
      rw [g13] at q4
      refine bset_congr q4 (fun t ht => ?_)
      unfold PR
      rw [g14, g15, g16, g17]
      rw [show exI (M 14) (M 15) (M 16) (M 17) (t : Int) (-(M 15 i * M 16 j - M 16 i * M 15 j)) (-(M 16 i * M 14 j - M 14 i * M 16 j)) (-(M 14 i * M 15 j - M 15 i * M 14 j)) 0 = M 14 t * (M 15 j * M 16 i - M 16 j * M 15 i) + M 15 t * (M 16 j * M 14 i - M 14 j * M 16 i) + M 16 t * (M 14 j * M 15 i - M 15 j * M 14 i) by unfold exI; grind]
    · rcases q with q | q | q
      · exact Or.inl (Or.inl q)
      · exact Or.inl (Or.inr q)
      · exact Or.inr q
  · refine ax_iload rfl rfl ?_
    refine ax_if_ne rfl (by omega) (fun h94 => ?_) (fun h94 => ?_)
    · refine ax_aloadn rfl rfl ?_
      refine ax_aloadn rfl rfl ?_
      refine ax_iload rfl rfl ?_
      refine ax_iload rfl rfl ?_
      refine ax_iload rfl rfl ?_
      refine ax_callV (as := [_, _, _, _]) rfl vX3_78 hX3_addRay rfl rfl rfl rfl rfl (c_X3_addRay E d M _ _ _ (by omega) hW (by omega) (by omega) (by omega)) (fun r111 M111 hr111 => ?_)
      obtain ⟨rfl, p2, p3, p4, p5, p6⟩ := hr111
      refine ax_aloadn rfl rfl ?_
      refine ax_aloadn rfl rfl ?_
      refine ax_iload rfl rfl ?_
      refine ax_ineg rfl ?_
      refine ax_iload rfl rfl ?_
      refine ax_ineg rfl ?_
      refine ax_iload rfl rfl ?_
      refine ax_ineg rfl ?_
      refine ax_callV (as := [_, _, _, _]) rfl vX3_78 hX3_addRay rfl rfl rfl rfl rfl (c_X3_addRay E d M111 _ _ _ (by omega) (by rw [p6 13 (by decide) (by decide), p6 14 (by decide) (by decide), p6 15 (by decide) (by decide), p6 16 (by decide) (by decide), p6 17 (by decide) (by decide)]; exact hW) (by omega) (by omega) (by omega)) (fun r125 M125 hr125 => ?_)
      obtain ⟨rfl, q2, q3, q4, q5, q6⟩ := hr125
      refine ax_vret rfl rfl ?_
      have f13 : M125 13 = M 13 := by rw [q6 13 (by decide) (by decide), p6 13 (by decide) (by decide)]
      have f14 : M125 14 = M 14 := by rw [q6 14 (by decide) (by decide), p6 14 (by decide) (by decide)]
      have f15 : M125 15 = M 15 := by rw [q6 15 (by decide) (by decide), p6 15 (by decide) (by decide)]
      have f16 : M125 16 = M 16 := by rw [q6 16 (by decide) (by decide), p6 16 (by decide) (by decide)]
      refine ⟨rfl, ?_, by omega, by omega, fun f hf => by rw [q3 f hf, p3 f hf], fun k k0 k1 => by rw [q6 k k0 k1, p6 k k0 k1]⟩
      unfold MTR at hR ⊢
      rw [f13, f14, f15, f16, q2]
      rw [p2] at q5 q4 ⊢
      have r1 : RI (M 14) (M 15) (M 16) (M 13 4) (M111 26) (M 18 9 + 1) (fun a b => cov a b ∨ (a = i ∧ b = j)) := RI_add hR p5 ⟨⟨by omega, by omega, by omega, by omega⟩, by omega, bset_congr p4 (fun t ht => by
        unfold PR
        rw [show exI (M 14) (M 15) (M 16) (M 17) (t : Int) (M 15 i * M 16 j - M 16 i * M 15 j) (M 16 i * M 14 j - M 14 i * M 16 j) (M 14 i * M 15 j - M 15 i * M 14 j) 0 = M 14 t * (M 15 i * M 16 j - M 16 i * M 15 j) + M 15 t * (M 16 i * M 14 j - M 14 i * M 16 j) + M 16 t * (M 14 i * M 15 j - M 15 i * M 14 j) by unfold exI; omega])⟩ (fun a b q => q)
      refine RI_add r1 q5 (i := j) (j := i) ⟨⟨by omega, by omega, by omega, by omega⟩, ?_, ?_⟩ (fun a b q => ?_)
      · have e1 : M 15 j * M 16 i - M 16 j * M 15 i = -(M 15 i * M 16 j - M 16 i * M 15 j) := by grind
        have e2 : M 16 j * M 14 i - M 14 j * M 16 i = -(M 16 i * M 14 j - M 14 i * M 16 j) := by grind
        have e3 : M 14 j * M 15 i - M 15 j * M 14 i = -(M 14 i * M 15 j - M 15 i * M 14 j) := by grind
        rw [e1, e2, e3]
        omega
      · have g13 : M111 13 = M 13 := p6 13 (by decide) (by decide)
        have g14 : M111 14 = M 14 := p6 14 (by decide) (by decide)
        have g15 : M111 15 = M 15 := p6 15 (by decide) (by decide)
        have g16 : M111 16 = M 16 := p6 16 (by decide) (by decide)
        have g17 : M111 17 = M 17 := p6 17 (by decide) (by decide)
        rw [g13] at q4
        refine bset_congr q4 (fun t ht => ?_)
        unfold PR
        rw [g14, g15, g16, g17]
        rw [show exI (M 14) (M 15) (M 16) (M 17) (t : Int) (-(M 15 i * M 16 j - M 16 i * M 15 j)) (-(M 16 i * M 14 j - M 14 i * M 16 j)) (-(M 14 i * M 15 j - M 15 i * M 14 j)) 0 = M 14 t * (M 15 j * M 16 i - M 16 j * M 15 i) + M 15 t * (M 16 j * M 14 i - M 14 j * M 16 i) + M 16 t * (M 14 j * M 15 i - M 15 j * M 14 i) by unfold exI; grind]
      · rcases q with q | q | q
        · exact Or.inl (Or.inl q)
        · exact Or.inl (Or.inr q)
        · exact Or.inr q
    · refine ax_iload rfl rfl ?_
      refine ax_if_ne rfl (by omega) (fun h99 => ?_) (fun h99 => ?_)
      · refine ax_aloadn rfl rfl ?_
        refine ax_aloadn rfl rfl ?_
        refine ax_iload rfl rfl ?_
        refine ax_iload rfl rfl ?_
        refine ax_iload rfl rfl ?_
        refine ax_callV (as := [_, _, _, _]) rfl vX3_78 hX3_addRay rfl rfl rfl rfl rfl (c_X3_addRay E d M _ _ _ (by omega) hW (by omega) (by omega) (by omega)) (fun r111 M111 hr111 => ?_)
        obtain ⟨rfl, p2, p3, p4, p5, p6⟩ := hr111
        refine ax_aloadn rfl rfl ?_
        refine ax_aloadn rfl rfl ?_
        refine ax_iload rfl rfl ?_
        refine ax_ineg rfl ?_
        refine ax_iload rfl rfl ?_
        refine ax_ineg rfl ?_
        refine ax_iload rfl rfl ?_
        refine ax_ineg rfl ?_
        refine ax_callV (as := [_, _, _, _]) rfl vX3_78 hX3_addRay rfl rfl rfl rfl rfl (c_X3_addRay E d M111 _ _ _ (by omega) (by rw [p6 13 (by decide) (by decide), p6 14 (by decide) (by decide), p6 15 (by decide) (by decide), p6 16 (by decide) (by decide), p6 17 (by decide) (by decide)]; exact hW) (by omega) (by omega) (by omega)) (fun r125 M125 hr125 => ?_)
        obtain ⟨rfl, q2, q3, q4, q5, q6⟩ := hr125
        refine ax_vret rfl rfl ?_
        have f13 : M125 13 = M 13 := by rw [q6 13 (by decide) (by decide), p6 13 (by decide) (by decide)]
        have f14 : M125 14 = M 14 := by rw [q6 14 (by decide) (by decide), p6 14 (by decide) (by decide)]
        have f15 : M125 15 = M 15 := by rw [q6 15 (by decide) (by decide), p6 15 (by decide) (by decide)]
        have f16 : M125 16 = M 16 := by rw [q6 16 (by decide) (by decide), p6 16 (by decide) (by decide)]
        refine ⟨rfl, ?_, by omega, by omega, fun f hf => by rw [q3 f hf, p3 f hf], fun k k0 k1 => by rw [q6 k k0 k1, p6 k k0 k1]⟩
        unfold MTR at hR ⊢
        rw [f13, f14, f15, f16, q2]
        rw [p2] at q5 q4 ⊢
        have r1 : RI (M 14) (M 15) (M 16) (M 13 4) (M111 26) (M 18 9 + 1) (fun a b => cov a b ∨ (a = i ∧ b = j)) := RI_add hR p5 ⟨⟨by omega, by omega, by omega, by omega⟩, by omega, bset_congr p4 (fun t ht => by
          unfold PR
          rw [show exI (M 14) (M 15) (M 16) (M 17) (t : Int) (M 15 i * M 16 j - M 16 i * M 15 j) (M 16 i * M 14 j - M 14 i * M 16 j) (M 14 i * M 15 j - M 15 i * M 14 j) 0 = M 14 t * (M 15 i * M 16 j - M 16 i * M 15 j) + M 15 t * (M 16 i * M 14 j - M 14 i * M 16 j) + M 16 t * (M 14 i * M 15 j - M 15 i * M 14 j) by unfold exI; omega])⟩ (fun a b q => q)
        refine RI_add r1 q5 (i := j) (j := i) ⟨⟨by omega, by omega, by omega, by omega⟩, ?_, ?_⟩ (fun a b q => ?_)
        · have e1 : M 15 j * M 16 i - M 16 j * M 15 i = -(M 15 i * M 16 j - M 16 i * M 15 j) := by grind
          have e2 : M 16 j * M 14 i - M 14 j * M 16 i = -(M 16 i * M 14 j - M 14 i * M 16 j) := by grind
          have e3 : M 14 j * M 15 i - M 15 j * M 14 i = -(M 14 i * M 15 j - M 15 i * M 14 j) := by grind
          rw [e1, e2, e3]
          omega
        · have g13 : M111 13 = M 13 := p6 13 (by decide) (by decide)
          have g14 : M111 14 = M 14 := p6 14 (by decide) (by decide)
          have g15 : M111 15 = M 15 := p6 15 (by decide) (by decide)
          have g16 : M111 16 = M 16 := p6 16 (by decide) (by decide)
          have g17 : M111 17 = M 17 := p6 17 (by decide) (by decide)
          rw [g13] at q4
          refine bset_congr q4 (fun t ht => ?_)
          unfold PR
          rw [g14, g15, g16, g17]
          rw [show exI (M 14) (M 15) (M 16) (M 17) (t : Int) (-(M 15 i * M 16 j - M 16 i * M 15 j)) (-(M 16 i * M 14 j - M 14 i * M 16 j)) (-(M 14 i * M 15 j - M 15 i * M 14 j)) 0 = M 14 t * (M 15 j * M 16 i - M 16 j * M 15 i) + M 15 t * (M 16 j * M 14 i - M 14 j * M 16 i) + M 16 t * (M 14 j * M 15 i - M 15 j * M 14 i) by unfold exI; grind]
        · rcases q with q | q | q
          · exact Or.inl (Or.inl q)
          · exact Or.inl (Or.inr q)
          · exact Or.inr q
      · refine ax_vret rfl rfl ?_
        refine ⟨rfl, RI_mono hR (fun a b a0 a1 b0 b1 hv q => ?_), by omega, by omega, fun f hf => rfl, fun k k0 k1 => rfl⟩
        rcases q with q | ⟨rfl, rfl⟩ | ⟨rfl, rfl⟩
        · exact q
        · exact absurd ⟨by omega, by omega, by omega⟩ hv
        · exact absurd ⟨by grind, by grind, by grind⟩ hv
set_option maxRecDepth 100000 in
set_option maxHeartbeats 800000 in
theorem s_X3_addMeet (E : av_E) (d : Nat) (M : av_M) (i j k : Int) (ho : 0 ≤ i ∧ i < j ∧ j < k ∧ k < M 13 4) (hz : 0 ≤ M 18 8 ∧ M 18 8 < 120) (hW : WI (M 14) (M 15) (M 16) (M 17) (M 13 4) (M 13 5)) (cov : Int → Int → Int → Prop) (hT : MTI M cov) (sg : Int) (hsg : sg = 1 ∨ sg = -1) (hv : 0 < sg * vol (M 14) (M 15) (M 16) i j k) : av_S E (d + 2) mX3_addMeet 48 [(0, vR 18), (1, vR 13), (2, vI i), (3, vI j), (4, vI k), (5, vI (vol (M 14) (M 15) (M 16) i j k)), (6, vI sg)] [] M (fun res M' => res = none ∧ MTI M' (fun a b c => cov a b c ∨ (a = i ∧ b = j ∧ c = k)) ∧ M 18 8 ≤ M' 18 8 ∧ M' 18 8 ≤ M 18 8 + 1 ∧ (∀ f, f ≠ 8 → M' 18 f = M 18 f) ∧ M' 26 = M 26 ∧ (∀ k, k ≠ 18 → k ≠ 19 → k ≠ 20 → k ≠ 21 → k ≠ 22 → k ≠ 23 → k ≠ 24 → k ≠ 25 → k ≠ 26 → M' k = M k)) := by
  have hs := hW.2.1
  have bi := hW.2.2.1 i (by omega) (by omega)
  have bj := hW.2.2.1 j (by omega) (by omega)
  have bk := hW.2.2.1 k (by omega) (by omega)
  have fA : ∀ n, n = i ∨ n = j ∨ n = k → -9 ≤ M 14 n ∧ M 14 n ≤ 9 := fun n hn => by rcases hn with rfl | rfl | rfl <;> omega
  have fB : ∀ n, n = i ∨ n = j ∨ n = k → -9 ≤ M 15 n ∧ M 15 n ≤ 9 := fun n hn => by rcases hn with rfl | rfl | rfl <;> omega
  have fC : ∀ n, n = i ∨ n = j ∨ n = k → -9 ≤ M 16 n ∧ M 16 n ≤ 9 := fun n hn => by rcases hn with rfl | rfl | rfl <;> omega
  have fD : ∀ n, n = i ∨ n = j ∨ n = k → -99 ≤ M 17 n ∧ M 17 n ≤ 99 := fun n hn => by rcases hn with rfl | rfl | rfl <;> omega
  have v0 := vol_rng fA fB fC
  have v1 := vol_rng fD fB fC
  have v2 := vol_rng fA fD fC
  have v3 := vol_rng fA fB fD
  have w1 : -50000 ≤ sg * vol (M 17) (M 15) (M 16) i j k ∧ sg * vol (M 17) (M 15) (M 16) i j k ≤ 50000 := by rcases hsg with rfl | rfl <;> omega
  have w2 : -50000 ≤ sg * vol (M 14) (M 17) (M 16) i j k ∧ sg * vol (M 14) (M 17) (M 16) i j k ≤ 50000 := by rcases hsg with rfl | rfl <;> omega
  have w3 : -50000 ≤ sg * vol (M 14) (M 15) (M 17) i j k ∧ sg * vol (M 14) (M 15) (M 17) i j k ≤ 50000 := by rcases hsg with rfl | rfl <;> omega
  have w0 : sg * vol (M 14) (M 15) (M 16) i j k ≤ 5000 := by rcases hsg with rfl | rfl <;> omega
  refine ax_aloadn rfl rfl ?_
  refine ax_getR rfl fX3_9 rfl rfl ?_
  refine ax_aloadn rfl rfl ?_
  refine ax_getI (g := 8) rfl fX3_36 rfl rfl rfl rfl ?_
  refine ax_iload rfl rfl ?_
  refine ax_aloadn rfl rfl ?_
  refine ax_getR rfl fX3_67 rfl rfl ?_
  refine ax_aloadn rfl rfl ?_
  refine ax_getR rfl fX3_57 rfl rfl ?_
  refine ax_aloadn rfl rfl ?_
  refine ax_getR rfl fX3_60 rfl rfl ?_
  refine ax_iloadn rfl rfl ?_
  refine ax_iloadn rfl rfl ?_
  refine ax_iload rfl rfl ?_
  refine ax_callS (as := [_, _, _, _, _, _]) rfl sX3_63 hX3_volume rfl rfl rfl rfl (c_X3_volume_x E (d + 1) M i j k (by omega) (by omega) (by omega)) (av_Xk ?_)
  refine ax_imul rfl ?_
  refine ax_iast' rfl rfl (by omega) (fun M78 a78 b78 c78 => ?_)
  refine ax_aloadn rfl rfl ?_
  refine ax_getR rfl fX3_15 rfl rfl ?_
  refine ax_aloadn rfl rfl ?_
  refine ax_getI (g := 8) rfl fX3_36 rfl rfl rfl rfl ?_
  refine ax_iload rfl rfl ?_
  refine ax_aloadn rfl rfl ?_
  refine ax_getR rfl fX3_54 rfl rfl ?_
  refine ax_aloadn rfl rfl ?_
  refine ax_getR rfl fX3_67 rfl rfl ?_
  refine ax_aloadn rfl rfl ?_
  refine ax_getR rfl fX3_60 rfl rfl ?_
  refine ax_iloadn rfl rfl ?_
  refine ax_iloadn rfl rfl ?_
  refine ax_iload rfl rfl ?_
  refine ax_callS (as := [_, _, _, _, _, _]) rfl sX3_63 hX3_volume rfl rfl rfl rfl (c_X3_volume_y E (d + 1) M78 i j k (by omega) (by omega) (by omega)) (av_Xk ?_)
  refine ax_imul rfl ?_
  refine ax_iast' rfl rfl (by rw [c78 18 (by decide)]; omega) (fun M109 a109 b109 c109 => ?_)
  refine ax_aloadn rfl rfl ?_
  refine ax_getR rfl fX3_18 rfl rfl ?_
  refine ax_aloadn rfl rfl ?_
  refine ax_getI (g := 8) rfl fX3_36 rfl rfl rfl rfl ?_
  refine ax_iload rfl rfl ?_
  refine ax_aloadn rfl rfl ?_
  refine ax_getR rfl fX3_54 rfl rfl ?_
  refine ax_aloadn rfl rfl ?_
  refine ax_getR rfl fX3_57 rfl rfl ?_
  refine ax_aloadn rfl rfl ?_
  refine ax_getR rfl fX3_67 rfl rfl ?_
  refine ax_iloadn rfl rfl ?_
  refine ax_iloadn rfl rfl ?_
  refine ax_iload rfl rfl ?_
  refine ax_callS (as := [_, _, _, _, _, _]) rfl sX3_63 hX3_volume rfl rfl rfl rfl (c_X3_volume_z E (d + 1) M109 i j k (by omega) (by omega) (by omega)) (av_Xk ?_)
  refine ax_imul rfl ?_
  refine ax_iast' rfl rfl (by rw [c109 18 (by decide), c78 18 (by decide)]; omega) (fun M140 a140 b140 c140 => ?_)
  refine ax_aloadn rfl rfl ?_
  refine ax_getR rfl fX3_21 rfl rfl ?_
  refine ax_aloadn rfl rfl ?_
  refine ax_getI (g := 8) rfl fX3_36 rfl rfl rfl rfl ?_
  refine ax_iload rfl rfl ?_
  refine ax_iload rfl rfl ?_
  refine ax_imul rfl ?_
  refine ax_iast' rfl rfl (by rw [c140 18 (by decide), c109 18 (by decide), c78 18 (by decide)]; omega) (fun M154 a154 b154 c154 => ?_)
  refine ax_aloadn rfl rfl ?_
  refine ax_getR rfl fX3_24 rfl rfl ?_
  refine ax_aloadn rfl rfl ?_
  refine ax_getI (g := 8) rfl fX3_36 rfl rfl rfl rfl ?_
  refine ax_iconst rfl ?_
  refine ax_iloadn rfl rfl ?_
  refine ax_ishl rfl ?_
  refine ax_iconst rfl ?_
  refine ax_iloadn rfl rfl ?_
  refine ax_ishl rfl ?_
  refine ax_ior rfl ?_
  refine ax_iconst rfl ?_
  refine ax_iload rfl rfl ?_
  refine ax_ishl rfl ?_
  refine ax_ior rfl ?_
  refine ax_iast' rfl rfl (by rw [c154 18 (by decide), c140 18 (by decide), c109 18 (by decide), c78 18 (by decide)]; omega) (fun M175 a175 b175 c175 => ?_)
  have e18 : M175 18 = M 18 := by rw [c175 18 (by decide), c154 18 (by decide), c140 18 (by decide), c109 18 (by decide), c78 18 (by decide)]
  have e13 : M175 13 = M 13 := by rw [c175 13 (by decide), c154 13 (by decide), c140 13 (by decide), c109 13 (by decide), c78 13 (by decide)]
  have e14 : M175 14 = M 14 := by rw [c175 14 (by decide), c154 14 (by decide), c140 14 (by decide), c109 14 (by decide), c78 14 (by decide)]
  have e15 : M175 15 = M 15 := by rw [c175 15 (by decide), c154 15 (by decide), c140 15 (by decide), c109 15 (by decide), c78 15 (by decide)]
  have e16 : M175 16 = M 16 := by rw [c175 16 (by decide), c154 16 (by decide), c140 16 (by decide), c109 16 (by decide), c78 16 (by decide)]
  have e17 : M175 17 = M 17 := by rw [c175 17 (by decide), c154 17 (by decide), c140 17 (by decide), c109 17 (by decide), c78 17 (by decide)]
  rw [c78 18 (by decide)] at a109 b109
  rw [c78 14 (by decide), c78 17 (by decide), c78 16 (by decide)] at a109
  rw [c109 18 (by decide), c78 18 (by decide)] at a140 b140
  rw [c109 14 (by decide), c78 14 (by decide), c109 15 (by decide), c78 15 (by decide), c109 17 (by decide), c78 17 (by decide)] at a140
  rw [c140 18 (by decide), c109 18 (by decide), c78 18 (by decide)] at a154 b154
  rw [c154 18 (by decide), c140 18 (by decide), c109 18 (by decide), c78 18 (by decide)] at a175 b175
  have x19 : M175 19 = M78 19 := by rw [c175 19 (by decide), c154 19 (by decide), c140 19 (by decide), c109 19 (by decide)]
  have x20 : M175 20 = M109 20 := by rw [c175 20 (by decide), c154 20 (by decide), c140 20 (by decide)]
  have x21 : M175 21 = M140 21 := by rw [c175 21 (by decide), c154 21 (by decide)]
  have x22 : M175 22 = M154 22 := by rw [c175 22 (by decide)]
  refine ax_aloadn rfl rfl ?_
  refine ax_aloadn rfl rfl ?_
  refine ax_callV (as := [_]) rfl vX3_70 hX3_mark rfl rfl rfl rfl rfl (c_X3_mark E d M175 (M 18 8) (by rw [e18]) hz (by rw [e13, e14, e15, e16, e17]; exact hW) (by rw [x19, a78]; exact w1) (by rw [x20, a109]; exact w2) (by rw [x21, a140]; exact w3) (by rw [x22, a154]; exact ⟨hv, w0⟩)) (fun r178 M178 hr178 => ?_)
  obtain ⟨rfl, g1, g2, g3, g4, g5⟩ := hr178
  refine ax_aloadn rfl rfl ?_
  refine ax_dup rfl rfl ?_
  refine ax_getI (g := 8) rfl fX3_36 rfl rfl rfl rfl ?_
  refine ax_iconst rfl ?_
  refine ax_iadd rfl ?_
  refine ax_putI' (g := 8) rfl gX3_36 rfl rfl rfl rfl (fun M188 a188 b188 c188 => ?_)
  refine ax_vret rfl rfl ?_
  have y13 : M188 13 = M 13 := by rw [c188 13 (by decide), g5 13 (by decide) (by decide), e13]
  have y14 : M188 14 = M 14 := by rw [c188 14 (by decide), g5 14 (by decide) (by decide), e14]
  have y15 : M188 15 = M 15 := by rw [c188 15 (by decide), g5 15 (by decide) (by decide), e15]
  have y16 : M188 16 = M 16 := by rw [c188 16 (by decide), g5 16 (by decide) (by decide), e16]
  have y17 : M188 17 = M 17 := by rw [c188 17 (by decide), g5 17 (by decide) (by decide), e17]
  have y18 : M178 18 = M 18 := by rw [g5 18 (by decide) (by decide), e18]
  have y19 : M188 19 = M78 19 := by rw [c188 19 (by decide), g5 19 (by decide) (by decide), x19]
  have y20 : M188 20 = M109 20 := by rw [c188 20 (by decide), g5 20 (by decide) (by decide), x20]
  have y21 : M188 21 = M140 21 := by rw [c188 21 (by decide), g5 21 (by decide) (by decide), x21]
  have y22 : M188 22 = M154 22 := by rw [c188 22 (by decide), g5 22 (by decide) (by decide), x22]
  have y23 : M188 23 = M175 23 := by rw [c188 23 (by decide), g5 23 (by decide) (by decide)]
  have y24 : M188 24 = M178 24 := c188 24 (by decide)
  have y25 : M188 25 = M178 25 := c188 25 (by decide)
  rw [y18] at a188
  refine ⟨rfl, ?_, by omega, by omega, fun f hf => by rw [b188 f hf, y18], by rw [c188 26 (by decide), g5 26 (by decide) (by decide), c175 26 (by decide), c154 26 (by decide), c140 26 (by decide), c109 26 (by decide), c78 26 (by decide)], fun k k18 k19 k20 k21 k22 k23 k24 k25 k26 => by rw [c188 k k18, g5 k k24 k25, c175 k k23, c154 k k22, c140 k k21, c109 k k20, c78 k k19]⟩
  unfold MTI at hT ⊢
  rw [y13, y14, y15, y16, y17, a188, y24, y25, y23, y19, y20, y21, y22]
  unfold PB at g1
  unfold PT at g2
  rw [e13, e14, e15, e16, e17, x19, x20, x21, x22] at g1 g2
  refine MI_add hT b78 (fun m hm => by rw [b109 m hm, c78 20 (by decide)]) (fun m hm => by rw [b140 m hm, c109 21 (by decide), c78 21 (by decide)]) (fun m hm => by rw [b154 m hm, c140 22 (by decide), c109 22 (by decide), c78 22 (by decide)]) (fun m hm => by rw [b175 m hm, c154 23 (by decide), c140 23 (by decide), c109 23 (by decide), c78 23 (by decide)]) (fun m hm => by rw [g3 m hm, c175 24 (by decide), c154 24 (by decide), c140 24 (by decide), c109 24 (by decide), c78 24 (by decide)]) (fun m hm => by rw [g4 m hm, c175 25 (by decide), c154 25 (by decide), c140 25 (by decide), c109 25 (by decide), c78 25 (by decide)]) (MA_mk hW ho hsg hv a78 a109 a140 a154 a175 g1 g2) (fun a b c q => q)
set_option maxRecDepth 100000 in
set_option maxHeartbeats 800000 in
theorem c_X3_addMeet (E : av_E) (d : Nat) (M : av_M) (i j k : Int) (ho : 0 ≤ i ∧ i < j ∧ j < k ∧ k < M 13 4) (hz : 0 ≤ M 18 8 ∧ M 18 8 < 120) (hW : WI (M 14) (M 15) (M 16) (M 17) (M 13 4) (M 13 5)) (cov : Int → Int → Int → Prop) (hT : MTI M cov) : av_Mt E (d + 2) mX3_addMeet [vR 18, vR 13, vI i, vI j, vI k] M (fun res M' => res = none ∧ MTI M' (fun a b c => cov a b c ∨ (a = i ∧ b = j ∧ c = k)) ∧ M 18 8 ≤ M' 18 8 ∧ M' 18 8 ≤ M 18 8 + 1 ∧ (∀ f, f ≠ 8 → M' 18 f = M 18 f) ∧ M' 26 = M 26 ∧ (∀ k, k ≠ 18 → k ≠ 19 → k ≠ 20 → k ≠ 21 → k ≠ 22 → k ≠ 23 → k ≠ 24 → k ≠ 25 → k ≠ 26 → M' k = M k)) := by
  have hs := hW.2.1
  have bi := hW.2.2.1 i (by omega) (by omega)
  have bj := hW.2.2.1 j (by omega) (by omega)
  have bk := hW.2.2.1 k (by omega) (by omega)
  have fA : ∀ n, n = i ∨ n = j ∨ n = k → -9 ≤ M 14 n ∧ M 14 n ≤ 9 := fun n hn => by rcases hn with rfl | rfl | rfl <;> omega
  have fB : ∀ n, n = i ∨ n = j ∨ n = k → -9 ≤ M 15 n ∧ M 15 n ≤ 9 := fun n hn => by rcases hn with rfl | rfl | rfl <;> omega
  have fC : ∀ n, n = i ∨ n = j ∨ n = k → -9 ≤ M 16 n ∧ M 16 n ≤ 9 := fun n hn => by rcases hn with rfl | rfl | rfl <;> omega
  have v0 := vol_rng fA fB fC
  refine av_enter hX3_addMeet oX3_addMeet rfl rfl ?_
  refine ax_aloadn rfl rfl ?_
  refine ax_getR rfl fX3_54 rfl rfl ?_
  refine ax_aloadn rfl rfl ?_
  refine ax_getR rfl fX3_57 rfl rfl ?_
  refine ax_aloadn rfl rfl ?_
  refine ax_getR rfl fX3_60 rfl rfl ?_
  refine ax_iloadn rfl rfl ?_
  refine ax_iloadn rfl rfl ?_
  refine ax_iload rfl rfl ?_
  refine ax_callS (as := [_, _, _, _, _, _]) rfl sX3_63 hX3_volume rfl rfl rfl rfl (c_X3_volume_w E (d + 1) M i j k (by omega) (by omega) (by omega)) (av_Xk ?_)
  refine ax_istore (ls' := [(0, _), (1, _), (2, _), (3, _), (4, _), (5, _)]) rfl rfl rfl ?_
  refine ax_iload rfl rfl ?_
  refine ax_if_eq rfl (by omega) (fun h23 => ?_) (fun h23 => ?_)
  · refine ax_vret rfl rfl ?_
    first
      | exact ⟨rfl, MI_mono hT (fun a b c a0 ab bc cs hv q => by
          rcases q with q | ⟨rfl, rfl, rfl⟩
          · exact q
          · exact absurd (by omega) hv), by omega, by omega, fun f hf => rfl, rfl, fun k k18 k19 k20 k21 k22 k23 k24 k25 k26 => rfl⟩
      | (exfalso; omega)
  · refine ax_aloadn rfl rfl ?_
    refine ax_getI (g := 8) rfl fX3_36 rfl rfl rfl rfl ?_
    refine ax_bipush rfl rfl ?_
    refine ax_icmp_lt rfl (by omega) (by omega) (fun h32 => ?_) (fun h32 => ?_)
    · refine ax_iload rfl rfl ?_
      refine ax_if_le rfl (by omega) (fun h38 => ?_) (fun h38 => ?_)
      · refine ax_iconst rfl ?_
        refine ax_istore (ls' := [(0, _), (1, _), (2, _), (3, _), (4, _), (5, _), (6, _)]) rfl rfl rfl ?_
        first
          | exact s_X3_addMeet E d M i j k ho hz hW cov hT 1 (Or.inl rfl) (by omega)
          | exact s_X3_addMeet E d M i j k ho hz hW cov hT (-1) (Or.inr rfl) (by omega)
      · refine ax_iconst rfl ?_
        refine ax_goto rfl ?_
        refine ax_istore (ls' := [(0, _), (1, _), (2, _), (3, _), (4, _), (5, _), (6, _)]) rfl rfl rfl ?_
        first
          | exact s_X3_addMeet E d M i j k ho hz hW cov hT 1 (Or.inl rfl) (by omega)
          | exact s_X3_addMeet E d M i j k ho hz hW cov hT (-1) (Or.inr rfl) (by omega)
    · refine ax_vret rfl rfl ?_
      first
        | exact ⟨rfl, MI_mono hT (fun a b c a0 ab bc cs hv q => by
            rcases q with q | ⟨rfl, rfl, rfl⟩
            · exact q
            · exact absurd (by omega) hv), by omega, by omega, fun f hf => rfl, rfl, fun k k18 k19 k20 k21 k22 k23 k24 k25 k26 => rfl⟩
        | (exfalso; omega)
