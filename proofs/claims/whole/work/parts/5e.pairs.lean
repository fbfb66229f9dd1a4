/-! ===== call by call: the same answer (walls put, shifted, switched) ===== -/
section PR
variable {E : av_E} {M : av_M}
theorem p_wall (h : JR M) (a b c e : Int) (h1 : -2147483648 ≤ a ∧ a < 2147483648) (h2 : -2147483648 ≤ b ∧ b < 2147483648) (h3 : -2147483648 ≤ c ∧ c < 2147483648) (h4 : -2147483648 ≤ e ∧ e < 2147483648) : PRq E mX7_wall mX8_wall [vI a, vI b, vI c, vI e] M isI := by
  obtain ⟨hC, hP, hT, hR, hc, hX⟩ := h
  have h := (⟨hC, hP, hT, hR, hc, hX⟩ : JR M)
  refine ⟨_, c_X7_wall E 0 M hC a b c e h1 h2 h3 h4, fun r M' q => ?_⟩
  have x0 : M 35 23 = M 13 4 := hX.2.2.2.2.1
  rcases q with ⟨a1, rfl, eq⟩ | ⟨a1, a2, rfl, eq⟩ | ⟨a1, a2, rfl, ⟨m1, m2, ⟨m3, m4⟩, ⟨m5, m6⟩, ⟨m7, m8⟩, m9, m10⟩, k1, k2, k3, k4⟩
  · rw [eq]
    refine ⟨_, c_X8_wall E 0 M hR.1 a b c e h1 h2 h3 h4, fun r' M'' q => ?_⟩
    rcases q with ⟨b1, rfl, f⟩ | ⟨b1, _⟩ | ⟨b1, _⟩
    · exact ⟨rfl, ⟨_, rfl, _, rfl⟩, by rw [f]; exact h⟩
    · exact absurd b1 a1
    · exact absurd b1 a1
  · rw [eq]
    refine ⟨_, c_X8_wall E 0 M hR.1 a b c e h1 h2 h3 h4, fun r' M'' q => ?_⟩
    rcases q with ⟨b1, _⟩ | ⟨b1, b2, rfl, f⟩ | ⟨b1, b2, _⟩
    · exact absurd a1 b1
    · exact ⟨rfl, ⟨_, rfl, _, rfl⟩, by rw [f]; exact h⟩
    · omega
  · have e35 : M' 35 = M 35 := k4 35 (by decide)
    have e52 : M' 52 = M 52 := k4 52 (by decide)
    have e53 : M' 53 = M 53 := k4 53 (by decide)
    have hR' : RWm M' := RWm_congr hR ⟨by rw [e35], e52, e53⟩
    refine ⟨_, c_X8_wall E 0 M' hR'.1 a b c e h1 h2 h3 h4, fun r' M'' q => ?_⟩
    rw [e35, e52, e53] at q
    rcases q with ⟨b1, _⟩ | ⟨b1, b2, _⟩ | ⟨b1, b2, rfl, ⟨n1, n2, n3, n4, n5, n6, n7, n8⟩, f1, f2⟩
    · exact absurd a1 b1
    · omega
    · have hs := hR.1
      have hr := hR.2.1
      have hx := hX.2.2.2.2.2.1
      have hon := hX.2.2.2.2.2.2
      have cl : ∀ k, k < 35 → M'' k = M' k := fun k q => f2 k (by omega) (by omega) (by omega)
      have g : ∀ k, 35 < k → k ≠ 52 → k ≠ 53 → M'' k = M k := fun k q q1 q2 => by rw [f2 k (by omega) q1 q2, k4 k (by omega)]
      have f0 : M'' 35 0 = M 35 0 := f1 0 (by decide)
      have f19 : M'' 35 19 = M 35 19 := f1 19 (by decide)
      have f20 : M'' 35 20 = M 35 20 := f1 20 (by decide)
      have hI : CI M'' := CI_35 k1 cl
      have wi := hI.2.2.1.1
      have c13 : M'' 13 = M' 13 := cl 13 (by decide)
      have vA : ∀ j, 0 ≤ j → j < M 35 23 + 1 → rA M'' j = M'' 14 j ∧ rB M'' j = M'' 15 j ∧ rC M'' j = M'' 16 j ∧ rD M'' j = M'' 17 j := by
        intro j j0 j1
        rw [cl 14 (by decide), cl 15 (by decide), cl 16 (by decide), cl 17 (by decide)]
        unfold rA rB rC rD
        by_cases q : j = M 35 23
        · subst q
          rw [n2, n3, n4, n5, x0, m3, m5, m7, m9]
          exact ⟨rfl, rfl, rfl, rfl⟩
        · rw [n6 (4 * j) (by omega), n6 (4 * j + 1) (by omega), n6 (4 * j + 2) (by omega), n6 (4 * j + 3) (by omega), m4 j (by omega), m6 j (by omega), m8 j (by omega), m10 j (by omega)]
          exact hx j j0 (by omega)
      have hR2 : RWm M'' := by
        refine ⟨by omega, fun j j0 j1 => ?_, fun k u0 u1 => ?_, fun j j0 j1 => ?_⟩
        · obtain ⟨y1, y2, y3, y4⟩ := vA j j0 (by omega)
          rw [y1, y2, y3, y4]
          exact wi.2.2.1 j j0 (by rw [c13, m1]; omega)
        · by_cases q0 : k = 4 * M 35 23
          · rw [q0, n2]; omega
          · by_cases q1 : k = 4 * M 35 23 + 1
            · rw [q1, n3]; omega
            · by_cases q2 : k = 4 * M 35 23 + 2
              · rw [q2, n4]; omega
              · by_cases q3 : k = 4 * M 35 23 + 3
                · rw [q3, n5]; omega
                · rw [n6 k (by omega)]; exact hR.2.2.1 k u0 u1
        · by_cases q : j = M 35 23
          · rw [q, n7]; exact Or.inr rfl
          · rw [n8 j q]; exact hR.2.2.2 j j0 j1
      refine ⟨by rw [x0], ⟨_, rfl, _, rfl⟩, hI, RPm_e hP ⟨f0, g 36 (by decide) (by decide) (by decide), g 37 (by decide) (by decide) (by decide)⟩, RTm_e hT ⟨f19, f20, g 50 (by decide) (by decide) (by decide), g 51 (by decide) (by decide) (by decide)⟩, hR2, RCm_e hc ⟨g 45 (by decide) (by decide) (by decide), g 46 (by decide) (by decide) (by decide)⟩, XR_m (XRp_k (XR_p hX) ⟨f0, g 36 (by decide) (by decide) (by decide), g 37 (by decide) (by decide) (by decide)⟩ (KP_k k2 cl)) (XRt_k (XR_t hX) ⟨f19, f20, g 50 (by decide) (by decide) (by decide), g 51 (by decide) (by decide) (by decide)⟩ (KT_k k3 cl)) ⟨?_, fun j j0 j1 => ?_, ?_⟩⟩
      · rw [n1, c13, m1, x0]
      · exact vA j j0 (by rw [c13, m1] at j1; omega)
      · refine ⟨wi.2.2.2.1, wi.2.2.2.2.1, fun j => ?_⟩
        rw [c13, m2 j, n1]
        show _ ↔ (j : Int) < M 35 23 + 1 ∧ M'' 53 (j : Int) = 1
        by_cases q : (j : Int) = M 13 4
        · rw [if_pos q]
          have q' : (j : Int) = M 35 23 := by omega
          refine ⟨fun _ => ⟨by omega, ?_⟩, fun _ => rfl⟩
          rw [q', n7]
        · rw [if_neg q, n8 (j : Int) (by omega)]
          have o : (M 13 5).toNat.testBit j = true ↔ (j : Int) < M 35 23 ∧ M 53 (j : Int) = 1 := hon.2.2 j
          refine ⟨fun z => ?_, fun z => ?_⟩
          · obtain ⟨z1, z2⟩ := o.mp z
            exact ⟨by omega, z2⟩
          · exact o.mpr ⟨by omega, z.2⟩
theorem p_shift (h : JR M) (w v : Int) (h1 : -2147483648 ≤ w ∧ w < 2147483648) (h2 : -2147483648 ≤ v ∧ v < 2147483648) : PRq E mX7_shift mX8_shift [vI w, vI v] M isI := by
  obtain ⟨hC, hP, hT, hR, hc, hX⟩ := h
  have h := (⟨hC, hP, hT, hR, hc, hX⟩ : JR M)
  refine ⟨_, c_X7_shift E 0 M hC w v h1 h2, fun r M' q => ?_⟩
  have x0 : M 35 23 = M 13 4 := hX.2.2.2.2.1
  rcases q with ⟨a1, rfl, eq⟩ | ⟨a1, a2, rfl, eq⟩ | ⟨a1, a2, rfl, ⟨m1, m2, m3, m4, m5, m6⟩, k1, k2, k3, k4⟩
  · rw [eq]
    refine ⟨_, c_X8_shift E 0 M hR.1 w v h1 h2, fun r' M'' q => ?_⟩
    rcases q with ⟨b1, rfl, f⟩ | ⟨b1, _⟩ | ⟨b1, _⟩
    · exact ⟨rfl, ⟨_, rfl, _, rfl⟩, by rw [f]; exact h⟩
    · omega
    · omega
  · rw [eq]
    refine ⟨_, c_X8_shift E 0 M hR.1 w v h1 h2, fun r' M'' q => ?_⟩
    rcases q with ⟨b1, _⟩ | ⟨b1, b2, rfl, f⟩ | ⟨b1, b2, _⟩
    · omega
    · exact ⟨rfl, ⟨_, rfl, _, rfl⟩, by rw [f]; exact h⟩
    · exact absurd b2 a2
  · have e35 : M' 35 = M 35 := k4 35 (by decide)
    have e52 : M' 52 = M 52 := k4 52 (by decide)
    have hR' : RWm M' := RWm_congr hR ⟨by rw [e35], e52, k4 53 (by decide)⟩
    refine ⟨_, c_X8_shift E 0 M' hR'.1 w v h1 h2, fun r' M'' q => ?_⟩
    rw [e35, e52] at q
    rcases q with ⟨b1, _⟩ | ⟨b1, b2, _⟩ | ⟨b1, b2, rfl, ⟨n1, n2⟩, f2⟩
    · omega
    · exact absurd a2 b2
    · have hs := hR.1
      have hx := hX.2.2.2.2.2.1
      have hon := hX.2.2.2.2.2.2
      have cl : ∀ k, k < 35 → M'' k = M' k := fun k q => f2 k (by omega)
      have g : ∀ k, 34 < k → k ≠ 52 → M'' k = M k := fun k q q1 => by rw [f2 k q1, k4 k q]
      have g35 : M'' 35 = M 35 := g 35 (by decide) (by decide)
      have hI : CI M'' := CI_35 k1 cl
      have wi := hI.2.2.1.1
      have c13 : M'' 13 = M 13 := by rw [cl 13 (by decide), m1]
      have vA : ∀ j, 0 ≤ j → j < M 35 23 → rA M'' j = M'' 14 j ∧ rB M'' j = M'' 15 j ∧ rC M'' j = M'' 16 j ∧ rD M'' j = M'' 17 j := by
        intro j j0 j1
        rw [cl 14 (by decide), cl 15 (by decide), cl 16 (by decide), cl 17 (by decide), m2, m3, m4]
        obtain ⟨y1, y2, y3, y4⟩ := hx j j0 (by omega)
        unfold rA rB rC rD at *
        rw [n2 (4 * j) (by omega), n2 (4 * j + 1) (by omega), n2 (4 * j + 2) (by omega)]
        refine ⟨y1, y2, y3, ?_⟩
        by_cases q : j = w
        · rw [q, n1, m5]
        · rw [n2 (4 * j + 3) (by omega), m6 j q]; exact y4
      have hR2 : RWm M'' := by
        refine ⟨by rw [g35]; exact hs, fun j j0 j1 => ?_, fun k u0 u1 => ?_, by rw [g 53 (by decide) (by decide)]; exact hR.2.2.2⟩
        · rw [g35] at j1
          obtain ⟨y1, y2, y3, y4⟩ := vA j j0 (by omega)
          rw [y1, y2, y3, y4]
          exact wi.2.2.1 j j0 (by rw [c13]; omega)
        · by_cases q0 : k = 4 * w + 3
          · rw [q0, n1]; exact a2
          · rw [n2 k q0]; exact hR.2.2.1 k u0 u1
      refine ⟨?_, ⟨_, rfl, _, rfl⟩, hI, RPm_e hP ⟨by rw [g35], g 36 (by decide) (by decide), g 37 (by decide) (by decide)⟩, RTm_e hT ⟨by rw [g35], by rw [g35], g 50 (by decide) (by decide), g 51 (by decide) (by decide)⟩, hR2, RCm_e hc ⟨g 45 (by decide) (by decide), g 46 (by decide) (by decide)⟩, XR_m (XRp_k (XR_p hX) ⟨by rw [g35], g 36 (by decide) (by decide), g 37 (by decide) (by decide)⟩ (KP_k k2 cl)) (XRt_k (XR_t hX) ⟨by rw [g35], by rw [g35], g 50 (by decide) (by decide), g 51 (by decide) (by decide)⟩ (KT_k k3 cl)) ⟨?_, fun j j0 j1 => ?_, ?_⟩⟩
      · rw [← (hx w a1.1 a1.2).2.2.2]; rfl
      · rw [g35, c13]; exact x0
      · exact vA j j0 (by rw [c13] at j1; omega)
      · unfold ONm
        rw [g35, c13, g 53 (by decide) (by decide)]
        exact hon
theorem p_on (h : JR M) (w t : Int) (h1 : -2147483648 ≤ w ∧ w < 2147483648) (h2 : t = 0 ∨ t = 1) : PRq E mX7_on mX8_on [vI w, vI t] M isI := by
  obtain ⟨hC, hP, hT, hR, hc, hX⟩ := h
  have h := (⟨hC, hP, hT, hR, hc, hX⟩ : JR M)
  refine ⟨_, c_X7_on E 0 M hC w t h1 h2, fun r M' q => ?_⟩
  have x0 : M 35 23 = M 13 4 := hX.2.2.2.2.1
  rcases q with ⟨a1, rfl, eq⟩ | ⟨a1, rfl, ⟨m1, m2, m3, m4, m5, m6⟩, k1, k2, k3, k4⟩
  · rw [eq]
    refine ⟨_, c_X8_on E 0 M hR.1 hR.2.2.2 w t h1 h2, fun r' M'' q => ?_⟩
    rcases q with ⟨b1, rfl, f⟩ | ⟨b1, _⟩
    · exact ⟨rfl, ⟨_, rfl, _, rfl⟩, by rw [f]; exact h⟩
    · omega
  · have e35 : M' 35 = M 35 := k4 35 (by decide)
    have e53 : M' 53 = M 53 := k4 53 (by decide)
    have hR' : RWm M' := RWm_congr hR ⟨by rw [e35], k4 52 (by decide), e53⟩
    refine ⟨_, c_X8_on E 0 M' hR'.1 hR'.2.2.2 w t h1 h2, fun r' M'' q => ?_⟩
    rw [e35, e53] at q
    rcases q with ⟨b1, _⟩ | ⟨b1, rfl, ⟨n1, n2⟩, f2⟩
    · omega
    · have hs := hR.1
      have hx := hX.2.2.2.2.2.1
      have hon := hX.2.2.2.2.2.2
      have cl : ∀ k, k < 35 → M'' k = M' k := fun k q => f2 k (by omega)
      have g : ∀ k, 34 < k → k ≠ 53 → M'' k = M k := fun k q q1 => by rw [f2 k q1, k4 k q]
      have g35 : M'' 35 = M 35 := g 35 (by decide) (by decide)
      have g52 : M'' 52 = M 52 := g 52 (by decide) (by decide)
      have hI : CI M'' := CI_35 k1 cl
      have wi := hI.2.2.1.1
      have c13 : M'' 13 = M' 13 := cl 13 (by decide)
      have vA : ∀ j, 0 ≤ j → j < M 35 23 → rA M'' j = M'' 14 j ∧ rB M'' j = M'' 15 j ∧ rC M'' j = M'' 16 j ∧ rD M'' j = M'' 17 j := by
        intro j j0 j1
        rw [cl 14 (by decide), cl 15 (by decide), cl 16 (by decide), cl 17 (by decide), m3, m4, m5, m6]
        unfold rA rB rC rD at *
        rw [g52]
        exact hx j j0 (by omega)
      have hR2 : RWm M'' := by
        refine ⟨by rw [g35]; exact hs, ?_, by rw [g52]; exact hR.2.2.1, fun j j0 j1 => ?_⟩
        · unfold rA rB rC rD
          rw [g35, g52]
          exact hR.2.1
        · by_cases q : j = w
          · rw [q, n1]; exact h2
          · rw [n2 j q]; exact hR.2.2.2 j j0 j1
      refine ⟨?_, ⟨_, rfl, _, rfl⟩, hI, RPm_e hP ⟨by rw [g35], g 36 (by decide) (by decide), g 37 (by decide) (by decide)⟩, RTm_e hT ⟨by rw [g35], by rw [g35], g 50 (by decide) (by decide), g 51 (by decide) (by decide)⟩, hR2, RCm_e hc ⟨g 45 (by decide) (by decide), g 46 (by decide) (by decide)⟩, XR_m (XRp_k (XR_p hX) ⟨by rw [g35], g 36 (by decide) (by decide), g 37 (by decide) (by decide)⟩ (KP_k k2 cl)) (XRt_k (XR_t hX) ⟨by rw [g35], by rw [g35], g 50 (by decide) (by decide), g 51 (by decide) (by decide)⟩ (KT_k k3 cl)) ⟨?_, fun j j0 j1 => ?_, ?_⟩⟩
      · have o : (M 13 5).toNat.testBit w.toNat = true ↔ ((w.toNat : Nat) : Int) < M 35 23 ∧ M 53 ((w.toNat : Nat) : Int) = 1 := hon.2.2 w.toNat
        have ew : ((w.toNat : Nat) : Int) = w := by omega
        rw [ew] at o
        have z : M 53 w = b01 ((M 13 5).toNat.testBit w.toNat = true) := by
          rcases hR.2.2.2 w a1.1 (by omega) with p | p
          · rw [b01_f (fun y => by have := (o.mp y).2; omega)]; exact p
          · rw [b01_t (o.mpr ⟨by omega, p⟩)]; exact p
        rw [z]
      · rw [g35, c13, m1]; exact x0
      · exact vA j j0 (by rw [c13, m1] at j1; omega)
      · refine ⟨wi.2.2.2.1, wi.2.2.2.2.1, fun j => ?_⟩
        rw [c13, m2 j, g35]
        show _ ↔ (j : Int) < M 35 23 ∧ M'' 53 (j : Int) = 1
        by_cases q : (j : Int) = w
        · rw [if_pos q, q, n1]
          refine ⟨fun z => ⟨by omega, of_decide_eq_true z⟩, fun z => decide_eq_true z.2⟩
        · rw [if_neg q, n2 (j : Int) q]
          exact hon.2.2 j
end PR
