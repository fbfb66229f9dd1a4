/-! ===== call by call: the same answer (what changes) ===== -/
def XRp (M : av_M) : Prop := M 35 0 = M 1 3 ∧ ∀ j, 0 ≤ j → j < M 1 3 → M 36 j = M 2 j ∧ M 37 j = M 3 j
def XRt (M : av_M) : Prop := (M 35 19 = M 9 2 ∧ M 35 20 = M 9 3) ∧ ∀ j, 0 ≤ j → j < 96 → M 50 j = M 10 j ∧ M 51 j = M 11 j
def XRw (M : av_M) : Prop := M 35 23 = M 13 4 ∧ (∀ j, 0 ≤ j → j < M 13 4 → rA M j = M 14 j ∧ rB M j = M 15 j ∧ rC M j = M 16 j ∧ rD M j = M 17 j) ∧ ONm M (M 13 5)
theorem XR_p {M : av_M} (h : XR M) : XRp M := ⟨h.1, h.2.1⟩
theorem XR_t {M : av_M} (h : XR M) : XRt M := ⟨h.2.2.1, h.2.2.2.1⟩
theorem XR_w {M : av_M} (h : XR M) : XRw M := h.2.2.2.2
theorem XR_m {M : av_M} (a : XRp M) (b : XRt M) (c : XRw M) : XR M := ⟨a.1, a.2, b.1, b.2, c⟩
theorem XRp_k {M N : av_M} (h : XRp M) (e : N 35 0 = M 35 0 ∧ N 36 = M 36 ∧ N 37 = M 37) (k : KP M N) : XRp N := by
  unfold XRp at h ⊢
  rw [e.1, e.2.1, e.2.2, k.1, k.2.1, k.2.2]
  exact h
theorem XRt_k {M N : av_M} (h : XRt M) (e : N 35 19 = M 35 19 ∧ N 35 20 = M 35 20 ∧ N 50 = M 50 ∧ N 51 = M 51) (k : KT M N) : XRt N := by
  unfold XRt at h ⊢
  rw [e.1, e.2.1, e.2.2.1, e.2.2.2, k.1, k.2.1, k.2.2.1, k.2.2.2]
  exact h
theorem XRw_k {M N : av_M} (h : XRw M) (e : N 35 23 = M 35 23 ∧ N 52 = M 52 ∧ N 53 = M 53) (k : KW M N) : XRw N := by
  unfold XRw ONm rA rB rC rD at h ⊢
  rw [e.1, e.2.1, e.2.2, k 13 (by decide) (by decide), k 14 (by decide) (by decide), k 15 (by decide) (by decide), k 16 (by decide) (by decide), k 17 (by decide) (by decide)]
  exact h
theorem KP_k {M M' N : av_M} (k : KP M M') (e : ∀ k, k < 35 → N k = M' k) : KP M N := by
  unfold KP
  rw [e 1 (by decide), e 2 (by decide), e 3 (by decide)]
  exact k
theorem KT_k {M M' N : av_M} (k : KT M M') (e : ∀ k, k < 35 → N k = M' k) : KT M N := by
  unfold KT
  rw [e 9 (by decide), e 10 (by decide), e 11 (by decide)]
  exact k
theorem KW_k {M M' N : av_M} (k : KW M M') (e : ∀ k, k < 35 → N k = M' k) : KW M N := fun i a b => by rw [e i (by omega)]; exact k i a b
theorem RTm_e {M N : av_M} (h : RTm M) (e : N 35 19 = M 35 19 ∧ N 35 20 = M 35 20 ∧ N 50 = M 50 ∧ N 51 = M 51) : RTm N := by
  unfold RTm
  rw [e.1, e.2.1, e.2.2.1, e.2.2.2]
  exact h
theorem RPm_e {M N : av_M} (h : RPm M) (e : N 35 0 = M 35 0 ∧ N 36 = M 36 ∧ N 37 = M 37) : RPm N := by
  unfold RPm
  rw [e.1, e.2.1, e.2.2]
  exact h
theorem RCm_e {M N : av_M} (h : RCm M) (e : N 45 = M 45 ∧ N 46 = M 46) : RCm N := by
  unfold RCm
  rw [e.1, e.2]
  exact h
section PR
variable {E : av_E} {M : av_M}
theorem p_point (h : JR M) (x y : Int) (h1 : -2147483648 ≤ x ∧ x < 2147483648) (h2 : -2147483648 ≤ y ∧ y < 2147483648) : PRq E mX7_point mX8_point [vI x, vI y] M isI := by
  obtain ⟨hC, hP, hT, hR, hc, hX⟩ := h
  have h := (⟨hC, hP, hT, hR, hc, hX⟩ : JR M)
  refine ⟨_, c_X7_point E 0 M hC x y h1 h2, fun r M' a => ?_⟩
  have p13 := hC.1.1
  have x0 := hX.1
  rcases a with ⟨a1, rfl, e⟩ | ⟨a1, a2, rfl, e⟩ | ⟨a1, a2, rfl, ⟨m1, m2, m3, m4, m5⟩, k1, k2, k3, k4⟩
  · rw [e]
    refine ⟨_, c_X8_point E 0 M hP.1 x y h1 h2, fun r' M'' b => ?_⟩
    rcases b with ⟨b1, rfl, f⟩ | ⟨b1, _⟩ | ⟨b1, _⟩
    · exact ⟨rfl, ⟨_, rfl, _, rfl⟩, by rw [f]; exact h⟩
    · exact absurd b1 a1
    · exact absurd b1 a1
  · rw [e]
    refine ⟨_, c_X8_point E 0 M hP.1 x y h1 h2, fun r' M'' b => ?_⟩
    rcases b with ⟨b1, _⟩ | ⟨b1, b2, rfl, f⟩ | ⟨b1, b2, _⟩
    · exact absurd a1 b1
    · exact ⟨rfl, ⟨_, rfl, _, rfl⟩, by rw [f]; exact h⟩
    · omega
  · have e35 : M' 35 = M 35 := k4 35 (by decide)
    have e36 : M' 36 = M 36 := k4 36 (by decide)
    have e37 : M' 37 = M 37 := k4 37 (by decide)
    have hP' : RPm M' := RPm_e hP ⟨by rw [e35], e36, e37⟩
    refine ⟨_, c_X8_point E 0 M' hP'.1 x y h1 h2, fun r' M'' b => ?_⟩
    rw [e35, e36, e37] at b
    rcases b with ⟨b1, _⟩ | ⟨b1, b2, _⟩ | ⟨b1, b2, rfl, ⟨n1, n2, n3, n4, n5⟩, f1, f2⟩
    · exact absurd a1 b1
    · omega
    · have cl : ∀ k, k < 35 → M'' k = M' k := fun k q => f2 k (by omega) (by omega) (by omega)
      refine ⟨by rw [x0], ⟨_, rfl, _, rfl⟩, CI_35 k1 cl, ⟨by omega, fun j j0 j1 => ?_⟩, RTm_e hT ⟨f1 19 (by decide), f1 20 (by decide), by rw [f2 50 (by decide) (by decide) (by decide), k4 50 (by decide)], by rw [f2 51 (by decide) (by decide) (by decide), k4 51 (by decide)]⟩, RWm_congr hR ⟨f1 23 (by decide), by rw [f2 52 (by decide) (by decide) (by decide), k4 52 (by decide)], by rw [f2 53 (by decide) (by decide) (by decide), k4 53 (by decide)]⟩, RCm_e hc ⟨by rw [f2 45 (by decide) (by decide) (by decide), k4 45 (by decide)], by rw [f2 46 (by decide) (by decide) (by decide), k4 46 (by decide)]⟩, XR_m ⟨?_, fun j j0 j1 => ?_⟩ (XRt_k (XR_t hX) ⟨f1 19 (by decide), f1 20 (by decide), by rw [f2 50 (by decide) (by decide) (by decide), k4 50 (by decide)], by rw [f2 51 (by decide) (by decide) (by decide), k4 51 (by decide)]⟩ (KT_k k2 cl)) (XRw_k (XR_w hX) ⟨f1 23 (by decide), by rw [f2 52 (by decide) (by decide) (by decide), k4 52 (by decide)], by rw [f2 53 (by decide) (by decide) (by decide), k4 53 (by decide)]⟩ (KW_k k3 cl))⟩
      · by_cases q : j = M 35 0
        · rw [q, n2, n4]; exact a1
        · rw [n3 j q, n5 j q]; exact hP.2 j j0 (by omega)
      · rw [cl 1 (by decide), n1, m1, x0]
      · rw [cl 1 (by decide), m1] at j1
        rw [cl 2 (by decide), cl 3 (by decide)]
        by_cases q : j = M 1 3
        · rw [q, m2, m4, ← x0, n2, n4]; exact ⟨rfl, rfl⟩
        · rw [m3 j q, m5 j q, n3 j (by omega), n5 j (by omega)]
          exact hX.2.1 j j0 (by omega)
theorem p_move (h : JR M) (i x y : Int) (h0 : -2147483648 ≤ i ∧ i < 2147483648) (h1 : -2147483648 ≤ x ∧ x < 2147483648) (h2 : -2147483648 ≤ y ∧ y < 2147483648) : PRq E mX7_move mX8_move [vI i, vI x, vI y] M isI := by
  obtain ⟨hC, hP, hT, hR, hc, hX⟩ := h
  have h := (⟨hC, hP, hT, hR, hc, hX⟩ : JR M)
  refine ⟨_, c_X7_move E 0 M hC i x y h0 h1 h2, fun r M' a => ?_⟩
  have x0 := hX.1
  rcases a with ⟨a1, rfl, e⟩ | ⟨a1, a2, rfl, e⟩ | ⟨a1, a2, rfl, ⟨m1, m2, m3, m4, m5⟩, k1, k2, k3, k4⟩
  · rw [e]
    refine ⟨_, c_X8_move E 0 M hP.1 i x y h0 h1 h2, fun r' M'' b => ?_⟩
    rcases b with ⟨b1, rfl, f⟩ | ⟨b1, _⟩ | ⟨b1, _⟩
    · exact ⟨rfl, ⟨_, rfl, _, rfl⟩, by rw [f]; exact h⟩
    · omega
    · omega
  · rw [e]
    refine ⟨_, c_X8_move E 0 M hP.1 i x y h0 h1 h2, fun r' M'' b => ?_⟩
    rcases b with ⟨b1, _⟩ | ⟨b1, b2, rfl, f⟩ | ⟨b1, b2, _⟩
    · omega
    · exact ⟨rfl, ⟨_, rfl, _, rfl⟩, by rw [f]; exact h⟩
    · exact absurd b2 a2
  · have e35 : M' 35 = M 35 := k4 35 (by decide)
    have e36 : M' 36 = M 36 := k4 36 (by decide)
    have e37 : M' 37 = M 37 := k4 37 (by decide)
    have hP' : RPm M' := RPm_e hP ⟨by rw [e35], e36, e37⟩
    refine ⟨_, c_X8_move E 0 M' hP'.1 i x y h0 h1 h2, fun r' M'' b => ?_⟩
    rw [e35, e36, e37] at b
    rcases b with ⟨b1, _⟩ | ⟨b1, b2, _⟩ | ⟨b1, b2, rfl, ⟨n2, n3, n4, n5⟩, f2⟩
    · omega
    · exact absurd a2 b2
    · have cl : ∀ k, k < 35 → M'' k = M' k := fun k q => f2 k (by omega) (by omega)
      have g : ∀ k, 34 < k → k ≠ 36 → k ≠ 37 → M'' k = M k := fun k q q1 q2 => by rw [f2 k q1 q2, k4 k q]
      refine ⟨rfl, ⟨_, rfl, _, rfl⟩, CI_35 k1 cl, ⟨by rw [g 35 (by decide) (by decide) (by decide)]; exact hP.1, fun j j0 j1 => ?_⟩, RTm_e hT ⟨by rw [g 35 (by decide) (by decide) (by decide)], by rw [g 35 (by decide) (by decide) (by decide)], g 50 (by decide) (by decide) (by decide), g 51 (by decide) (by decide) (by decide)⟩, RWm_congr hR ⟨by rw [g 35 (by decide) (by decide) (by decide)], g 52 (by decide) (by decide) (by decide), g 53 (by decide) (by decide) (by decide)⟩, RCm_e hc ⟨g 45 (by decide) (by decide) (by decide), g 46 (by decide) (by decide) (by decide)⟩, XR_m ⟨?_, fun j j0 j1 => ?_⟩ (XRt_k (XR_t hX) ⟨by rw [g 35 (by decide) (by decide) (by decide)], by rw [g 35 (by decide) (by decide) (by decide)], g 50 (by decide) (by decide) (by decide), g 51 (by decide) (by decide) (by decide)⟩ (KT_k k2 cl)) (XRw_k (XR_w hX) ⟨by rw [g 35 (by decide) (by decide) (by decide)], g 52 (by decide) (by decide) (by decide), g 53 (by decide) (by decide) (by decide)⟩ (KW_k k3 cl))⟩
      · rw [g 35 (by decide) (by decide) (by decide)] at j1
        by_cases q : j = i
        · rw [q, n2, n4]; exact a2
        · rw [n3 j q, n5 j q]; exact hP.2 j j0 (by omega)
      · rw [cl 1 (by decide), g 35 (by decide) (by decide) (by decide), m1, x0]
      · rw [cl 1 (by decide), m1] at j1
        rw [cl 2 (by decide), cl 3 (by decide)]
        by_cases q : j = i
        · rw [q, m2, m4, n2, n4]; exact ⟨rfl, rfl⟩
        · rw [m3 j q, m5 j q, n3 j q, n5 j q]
          exact hX.2.1 j j0 (by omega)
theorem p_clear (h : JR M) : PRq E mX7_clear mX8_clear [] M isI := by
  obtain ⟨hC, hP, hT, hR, hc, hX⟩ := h
  refine ⟨_, c_X7_clear E 0 M hC, fun r M' a => ?_⟩
  have x0 := hX.1
  obtain ⟨rfl, m1, k1, k2, k3, k4⟩ := a
  refine ⟨_, c_X8_clear E 0 M', fun r' M'' b => ?_⟩
  obtain ⟨rfl, n1, f1, f2⟩ := b
  have e35 : M' 35 = M 35 := k4 35 (by decide)
  have cl : ∀ k, k < 35 → M'' k = M' k := fun k q => f2 k (by omega)
  have g : ∀ k, 35 < k → M'' k = M k := fun k q => by rw [f2 k (by omega), k4 k (by omega)]
  have gf : ∀ f, f ≠ 0 → M'' 35 f = M 35 f := fun f q => by rw [f1 f q, e35]
  refine ⟨by rw [e35, x0], ⟨_, rfl, _, rfl⟩, CI_35 k1 cl, ⟨by omega, fun j j0 j1 => by omega⟩, RTm_e hT ⟨gf 19 (by decide), gf 20 (by decide), g 50 (by decide), g 51 (by decide)⟩, RWm_congr hR ⟨gf 23 (by decide), g 52 (by decide), g 53 (by decide)⟩, RCm_e hc ⟨g 45 (by decide), g 46 (by decide)⟩, XR_m ⟨?_, fun j j0 j1 => ?_⟩ (XRt_k (XR_t hX) ⟨gf 19 (by decide), gf 20 (by decide), g 50 (by decide), g 51 (by decide)⟩ (KT_k k2 cl)) (XRw_k (XR_w hX) ⟨gf 23 (by decide), g 52 (by decide), g 53 (by decide)⟩ (KW_k k3 cl))⟩
  · rw [cl 1 (by decide), n1, m1]
  · rw [cl 1 (by decide), m1] at j1; omega
theorem p_factors (h : JR M) (x y : Int) (h1 : -2147483648 ≤ x ∧ x < 2147483648) (h2 : -2147483648 ≤ y ∧ y < 2147483648) : PRq E mX7_factors mX8_factors [vI x, vI y] M isI := by
  obtain ⟨hC, hP, hT, hR, hc, hX⟩ := h
  have h := (⟨hC, hP, hT, hR, hc, hX⟩ : JR M)
  refine ⟨_, c_X7_factors E 0 M hC x y h1 h2, fun r M' a => ?_⟩
  rcases a with ⟨a1, rfl, e⟩ | ⟨a1, rfl, ⟨m1, m2, m3, m4⟩, k1, k2, k3, k4⟩
  · rw [e]
    refine ⟨_, c_X8_factors E 0 M x y h1 h2, fun r' M'' b => ?_⟩
    rcases b with ⟨b1, rfl, f⟩ | ⟨b1, _⟩
    · exact ⟨rfl, ⟨_, rfl, _, rfl⟩, by rw [f]; exact h⟩
    · exact absurd b1 a1
  · have e35 : M' 35 = M 35 := k4 35 (by decide)
    refine ⟨_, c_X8_factors E 0 M' x y h1 h2, fun r' M'' b => ?_⟩
    rw [e35] at b
    rcases b with ⟨b1, _⟩ | ⟨b1, rfl, ⟨n1, n2⟩, f1, f2⟩
    · exact absurd a1 b1
    · have cl : ∀ k, k < 35 → M'' k = M' k := fun k q => f2 k (by omega)
      have g : ∀ k, 35 < k → M'' k = M k := fun k q => by rw [f2 k (by omega), k4 k (by omega)]
      refine ⟨by rw [hX.2.2.1.1], ⟨_, rfl, _, rfl⟩, CI_35 k1 cl, RPm_e hP ⟨f1 0 (by decide) (by decide), g 36 (by decide), g 37 (by decide)⟩, ⟨by omega, by omega, by rw [g 50 (by decide)]; exact hT.2.2.1, by rw [g 51 (by decide)]; exact hT.2.2.2⟩, RWm_congr hR ⟨f1 23 (by decide) (by decide), g 52 (by decide), g 53 (by decide)⟩, RCm_e hc ⟨g 45 (by decide), g 46 (by decide)⟩, XR_m (XRp_k (XR_p hX) ⟨f1 0 (by decide) (by decide), g 36 (by decide), g 37 (by decide)⟩ (KP_k k2 cl)) ⟨⟨?_, ?_⟩, ?_⟩ (XRw_k (XR_w hX) ⟨f1 23 (by decide) (by decide), g 52 (by decide), g 53 (by decide)⟩ (KW_k k3 cl))⟩
      · rw [cl 9 (by decide), n1, m1]
      · rw [cl 9 (by decide), n2, m2]
      · rw [cl 10 (by decide), cl 11 (by decide), g 50 (by decide), g 51 (by decide), m3, m4]
        exact hX.2.2.2.1
theorem p_entry_0 (h : JR M) (x y v : Int) (h1 : -2147483648 ≤ x ∧ x < 2147483648) (h2 : -2147483648 ≤ y ∧ y < 2147483648) (h3 : -2147483648 ≤ v ∧ v < 2147483648) : PRq E mX7_entry mX8_entry [vI 0, vI x, vI y, vI v] M isI := by
  obtain ⟨hC, hP, hT, hR, hc, hX⟩ := h
  have h := (⟨hC, hP, hT, hR, hc, hX⟩ : JR M)
  refine ⟨_, c_X7_entry_0 E 0 M hC x y v h1 h2 h3, fun r M' a => ?_⟩
  have ei : 12 * x + y = x * 12 + y := by omega
  rcases a with ⟨a1, rfl, e⟩ | ⟨a1, a2, rfl, e⟩ | ⟨a1, a2, rfl, ⟨m1, m2, m3, m4⟩, k1, k2, k3, k4⟩
  · rw [e]
    refine ⟨_, c_X8_entry_0 E 0 M x y v h1 h2 h3, fun r' M'' b => ?_⟩
    rcases b with ⟨b1, rfl, f⟩ | ⟨b1, _⟩ | ⟨b1, _⟩
    · exact ⟨rfl, ⟨_, rfl, _, rfl⟩, by rw [f]; exact h⟩
    · exact absurd b1 a1
    · exact absurd b1 a1
  · rw [e]
    refine ⟨_, c_X8_entry_0 E 0 M x y v h1 h2 h3, fun r' M'' b => ?_⟩
    rcases b with ⟨b1, _⟩ | ⟨b1, b2, rfl, f⟩ | ⟨b1, b2, _⟩
    · exact absurd a1 b1
    · exact ⟨rfl, ⟨_, rfl, _, rfl⟩, by rw [f]; exact h⟩
    · exact absurd b2 a2
  · have e51 : M' 51 = M 51 := k4 51 (by decide)
    refine ⟨_, c_X8_entry_0 E 0 M' x y v h1 h2 h3, fun r' M'' b => ?_⟩
    rw [e51, ei] at b
    rcases b with ⟨b1, _⟩ | ⟨b1, b2, _⟩ | ⟨b1, b2, rfl, ⟨n1, n2⟩, f2⟩
    · exact absurd a1 b1
    · exact absurd a2 b2
    · have cl : ∀ k, k < 35 → M'' k = M' k := fun k q => f2 k (by omega)
      have g : ∀ k, 34 < k → k ≠ 51 → M'' k = M k := fun k q q1 => by rw [f2 k q1, k4 k q]
      have g35 : M'' 35 = M 35 := g 35 (by decide) (by decide)
      have rg : 0 ≤ x * 12 + y ∧ x * 12 + y < 96 := by omega
      refine ⟨by rw [(hX.2.2.2.1 _ rg.1 rg.2).2], ⟨_, rfl, _, rfl⟩, CI_35 k1 cl, RPm_e hP ⟨by rw [g35], g 36 (by decide) (by decide), g 37 (by decide) (by decide)⟩, ⟨by rw [g35]; exact hT.1, by rw [g35]; exact hT.2.1, by rw [g 50 (by decide) (by decide)]; exact hT.2.2.1, fun j j0 j1 => ?_⟩, RWm_congr hR ⟨by rw [g35], g 52 (by decide) (by decide), g 53 (by decide) (by decide)⟩, RCm_e hc ⟨g 45 (by decide) (by decide), g 46 (by decide) (by decide)⟩, XR_m (XRp_k (XR_p hX) ⟨by rw [g35], g 36 (by decide) (by decide), g 37 (by decide) (by decide)⟩ (KP_k k2 cl)) ⟨?_, fun j j0 j1 => ?_⟩ (XRw_k (XR_w hX) ⟨by rw [g35], g 52 (by decide) (by decide), g 53 (by decide) (by decide)⟩ (KW_k k3 cl))⟩
      · by_cases q : j = x * 12 + y
        · rw [q, n1]; exact a2
        · rw [n2 j q]; exact hT.2.2.2 j j0 j1
      · rw [g35, cl 9 (by decide), m4]; exact hX.2.2.1
      · rw [g 50 (by decide) (by decide), cl 10 (by decide), cl 11 (by decide), m3]
        refine ⟨(hX.2.2.2.1 j j0 j1).1, ?_⟩
        by_cases q : j = x * 12 + y
        · rw [q, n1, m1]
        · rw [n2 j q, m2 j q]; exact (hX.2.2.2.1 j j0 j1).2
theorem p_entry_1 (h : JR M) (x y v : Int) (h1 : -2147483648 ≤ x ∧ x < 2147483648) (h2 : -2147483648 ≤ y ∧ y < 2147483648) (h3 : -2147483648 ≤ v ∧ v < 2147483648) : PRq E mX7_entry mX8_entry [vI 1, vI x, vI y, vI v] M isI := by
  obtain ⟨hC, hP, hT, hR, hc, hX⟩ := h
  have h := (⟨hC, hP, hT, hR, hc, hX⟩ : JR M)
  refine ⟨_, c_X7_entry_1 E 0 M hC x y v h1 h2 h3, fun r M' a => ?_⟩
  have ei : 8 * x + y = x * 8 + y := by omega
  rcases a with ⟨a1, rfl, e⟩ | ⟨a1, a2, rfl, e⟩ | ⟨a1, a2, rfl, ⟨m1, m2, m3, m4⟩, k1, k2, k3, k4⟩
  · rw [e]
    refine ⟨_, c_X8_entry_1 E 0 M x y v h1 h2 h3, fun r' M'' b => ?_⟩
    rcases b with ⟨b1, rfl, f⟩ | ⟨b1, _⟩ | ⟨b1, _⟩
    · exact ⟨rfl, ⟨_, rfl, _, rfl⟩, by rw [f]; exact h⟩
    · exact absurd b1 a1
    · exact absurd b1 a1
  · rw [e]
    refine ⟨_, c_X8_entry_1 E 0 M x y v h1 h2 h3, fun r' M'' b => ?_⟩
    rcases b with ⟨b1, _⟩ | ⟨b1, b2, rfl, f⟩ | ⟨b1, b2, _⟩
    · exact absurd a1 b1
    · exact ⟨rfl, ⟨_, rfl, _, rfl⟩, by rw [f]; exact h⟩
    · exact absurd b2 a2
  · have e50 : M' 50 = M 50 := k4 50 (by decide)
    refine ⟨_, c_X8_entry_1 E 0 M' x y v h1 h2 h3, fun r' M'' b => ?_⟩
    rw [e50, ei] at b
    rcases b with ⟨b1, _⟩ | ⟨b1, b2, _⟩ | ⟨b1, b2, rfl, ⟨n1, n2⟩, f2⟩
    · exact absurd a1 b1
    · exact absurd a2 b2
    · have cl : ∀ k, k < 35 → M'' k = M' k := fun k q => f2 k (by omega)
      have g : ∀ k, 34 < k → k ≠ 50 → M'' k = M k := fun k q q1 => by rw [f2 k q1, k4 k q]
      have g35 : M'' 35 = M 35 := g 35 (by decide) (by decide)
      have rg : 0 ≤ x * 8 + y ∧ x * 8 + y < 96 := by omega
      refine ⟨by rw [(hX.2.2.2.1 _ rg.1 rg.2).1], ⟨_, rfl, _, rfl⟩, CI_35 k1 cl, RPm_e hP ⟨by rw [g35], g 36 (by decide) (by decide), g 37 (by decide) (by decide)⟩, ⟨by rw [g35]; exact hT.1, by rw [g35]; exact hT.2.1, fun j j0 j1 => ?_, by rw [g 51 (by decide) (by decide)]; exact hT.2.2.2⟩, RWm_congr hR ⟨by rw [g35], g 52 (by decide) (by decide), g 53 (by decide) (by decide)⟩, RCm_e hc ⟨g 45 (by decide) (by decide), g 46 (by decide) (by decide)⟩, XR_m (XRp_k (XR_p hX) ⟨by rw [g35], g 36 (by decide) (by decide), g 37 (by decide) (by decide)⟩ (KP_k k2 cl)) ⟨?_, fun j j0 j1 => ?_⟩ (XRw_k (XR_w hX) ⟨by rw [g35], g 52 (by decide) (by decide), g 53 (by decide) (by decide)⟩ (KW_k k3 cl))⟩
      · by_cases q : j = x * 8 + y
        · rw [q, n1]; exact a2
        · rw [n2 j q]; exact hT.2.2.1 j j0 j1
      · rw [g35, cl 9 (by decide), m4]; exact hX.2.2.1
      · rw [g 51 (by decide) (by decide), cl 10 (by decide), cl 11 (by decide), m3]
        refine ⟨?_, (hX.2.2.2.1 j j0 j1).2⟩
        by_cases q : j = x * 8 + y
        · rw [q, n1, m1]
        · rw [n2 j q, m2 j q]; exact (hX.2.2.2.1 j j0 j1).1
end PR
