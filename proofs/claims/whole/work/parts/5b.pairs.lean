/-! ===== call by call: the same answer (what is asked) ===== -/
theorem isum_c {f g : Int → Int} : ∀ n : Nat, (∀ k : Nat, k < n → f k = g k) → isum f n = isum g n := by
  intro n
  induction n with
  | zero => intro _; rfl
  | succ n ih =>
    intro h
    show isum f n + f n = isum g n + g n
    rw [ih (fun k hk => h k (by omega)), h n (by omega)]
theorem mxI_c {f g : Int → Int} : ∀ n : Nat, (∀ k : Nat, k ≤ n → f k = g k) → mxI f n = mxI g n := by
  intro n
  induction n with
  | zero => intro h; exact h 0 (by omega)
  | succ n ih =>
    intro h
    show max (mxI f n) (f (n + 1 : Nat)) = max (mxI g n) (g (n + 1 : Nat))
    rw [ih (fun k hk => h k (by omega)), h (n + 1) (by omega)]
section PR
variable {E : av_E} {M : av_M}
theorem p_corners (h : JR M) : PRq E mX7_corners mX8_corners [] M isI :=
  pr_ex h (c_X7_corners E 0 M) (c_X8_corners E 0 M h.2.1 _ _ _ (FGc h)) rfl
theorem p_corner (h : JR M) (c y : Int) (h1 : -2147483648 ≤ c ∧ c < 2147483648) (h2 : -2147483648 ≤ y ∧ y < 2147483648) : PRq E mX7_corner mX8_corner [vI c, vI y] M isI :=
  pr_ex h (c_X7_corner E 0 M h.1 c y h1 h2) (c_X8_corner E 0 M h.2.1 _ _ _ (FGc h) c y h1 h2) rfl
theorem p_wallOf (h : JR M) (c y : Int) (h1 : -2147483648 ≤ c ∧ c < 2147483648) (h2 : -2147483648 ≤ y ∧ y < 2147483648) : PRq E mX7_wallOf mX8_wallOf [vI c, vI y] M isI :=
  pr_ex h (c_X7_wallOf E 0 M h.1 c y h1 h2) (c_X8_wallOf E 0 M h.2.1 _ _ _ (FGc h) c y h1 h2) rfl
theorem p_slack (h : JR M) (c y : Int) (h1 : -2147483648 ≤ c ∧ c < 2147483648) (h2 : -2147483648 ≤ y ∧ y < 2147483648) : PRq E mX7_slack mX8_slack [vI c, vI y] M isI :=
  pr_ex h (c_X7_slack E 0 M h.1 c y h1 h2) (c_X8_slack E 0 M h.2.1 _ _ _ (FGc h) c y h1 h2) rfl
theorem p_area (h : JR M) : PRq E mX7_area mX8_area [] M isI :=
  pr_ex h (c_X7_area E 0 M h.1) (c_X8_area E 0 M h.2.1 _ _ _ (FGc h)) rfl
theorem p_open (h : JR M) : PRq E mX7_open mX8_open [] M isI :=
  pr_ex h (c_X7_open E 0 M h.1) (c_X8_open E 0 M h.2.1 _ _ _ (FGc h)) rfl
theorem p_cover (h : JR M) : PRq E mX7_cover mX8_cover [] M isI :=
  pr_exc h (c_X7_cover E 0 M h.1) (c_X8_cover E 0 M h.2.1 _ _ _ (FGc h) h.2.2.2.2.1) rfl
theorem p_fools (h : JR M) : PRq E mX7_fools mX8_fools [] M isI :=
  pr_exc h (c_X7_fools E 0 M h.1) (c_X8_fools E 0 M h.2.1 _ _ _ (FGc h) h.2.2.2.2.1) rfl
theorem p_log (h : JR M) : PRq E mX7_log mX8_log [] M isI :=
  pr_gen h (c_X7_log E 0 M h.1) (c_X8_log E 0 M h.2.1 _ _ _ (FGc h)) (fun r r' a b => by
    obtain ⟨z, rfl, a⟩ := a
    obtain ⟨z', rfl, b⟩ := b
    refine ⟨?_, _, rfl, _, rfl⟩
    rcases a with ⟨a1, a2⟩ | ⟨a1, a2⟩
    · rcases b with ⟨b1, b2⟩ | ⟨b1, b2⟩
      · rw [a2, b2]
      · exact absurd b1 a1
    · rcases b with ⟨b1, b2⟩ | ⟨b1, b2⟩
      · exact absurd a1 b1
      · rw [LGs_un a2 b2])
theorem p_low (h : JR M) : PRq E mX7_low mX8_low [] M isI := by
  refine ⟨_, c_X7_low E 0 M h.1, fun r M' a => ?_⟩
  obtain ⟨⟨z, rfl, a⟩, rfl⟩ := a
  refine ⟨_, c_X8_low E 0 M' h.2.1 _ _ _ (FGc h) h.2.2.2.2.1, fun r' M'' b => ?_⟩
  obtain ⟨⟨z', rfl, b⟩, q⟩ := b
  refine ⟨?_, ⟨_, rfl, _, rfl⟩, JR_c h q⟩
  rcases a with ⟨a1, a2⟩ | ⟨a1, k, a2, a3⟩
  · rcases b with ⟨b1, b2⟩ | ⟨b1, k', b2, b3⟩
    · rw [a2, b2]
    · exact absurd b1 a1
  · rcases b with ⟨b1, b2⟩ | ⟨b1, k', b2, b3⟩
    · exact absurd a1 b1
    · rw [a3, b3, LGs_un a2 b2]
theorem FWe (h : JR M) {r r' : Int} (a : FWm M r) (b : FW (rOK M (M 4 5) (fun k => M 5 (M 8 k)) (fun k => M 6 (M 8 k))) (M 4 5) r') : r' = r := by
  have hh := (FO_fb h.1.1.2.2).2.1
  have ht := h.1.2.1.1
  obtain ⟨_, _, _, _, _, x0, x1, ⟨x2, x3⟩, x4, _⟩ := h
  refine FW_un b (FW_congr (fun e c e0 e1 c0 c1 => ?_) a)
  unfold rOK rfT
  rw [x2, x3]
  have hs : isum (fun k => M 10 (e * 8 + k) * M 11 (k * 12 + c)) (M 9 2).toNat = isum (fun k => M 50 (e * 8 + k) * M 51 (k * 12 + c)) (M 9 2).toNat := by
    refine isum_c _ (fun k hk => ?_)
    have k8 : (k : Int) < 8 := by omega
    rw [(x4 (e * 8 + k) (by omega) (by omega)).1, (x4 (k * 12 + c) (by omega) (by omega)).2]
  rw [hs]
theorem p_hold (h : JR M) : PRq E mX7_hold mX8_hold [] M isI :=
  pr_gen h (c_X7_hold E 0 M h.1) (c_X8_hold E 0 M h.2.1 _ _ _ (FGc h) h.2.2.1) (fun r r' a b => by
    obtain ⟨z, rfl, a⟩ := a
    obtain ⟨z', rfl, b⟩ := b
    refine ⟨?_, _, rfl, _, rfl⟩
    rcases a with ⟨a1, a2⟩ | ⟨a1, k, a2, a3⟩
    · rcases b with ⟨b1, b2⟩ | ⟨b1, b2⟩
      · rw [a2, b2]
      · exact absurd a1 b1
    · rcases b with ⟨b1, b2⟩ | ⟨b1, k', b2, b3⟩
      · exact absurd b1 a1
      · have e := FWe h a2 b2
        congr 2
        omega)
theorem p_wrong (h : JR M) : PRq E mX7_wrong mX8_wrong [] M isI :=
  pr_gen h (c_X7_wrong E 0 M h.1) (c_X8_wrong E 0 M h.2.1 _ _ _ (FGc h) h.2.2.1) (fun r r' a b => by
    obtain ⟨z, rfl, a⟩ := a
    obtain ⟨z', rfl, b⟩ := b
    refine ⟨?_, _, rfl, _, rfl⟩
    rcases a with ⟨a1, a2⟩ | ⟨a1, k, a2, a3⟩
    · rcases b with ⟨b1, b2⟩ | ⟨b1, b2⟩
      · rw [a2, b2]
      · exact absurd a1 b1
    · rcases b with ⟨b1, b2⟩ | ⟨b1, k', b2, b3⟩
      · exact absurd b1 a1
      · have e := FWe h a2 b2
        congr 2
        omega)
theorem p_sound (h : JR M) : PRq E mX7_sound mX8_sound [] M isI :=
  pr_ex h (c_X7_sound E 0 M h.1) (c_X8_sound E 0 M h.2.2.2.1 _ (ONc h)) (S125 h)
theorem p_vertices (h : JR M) : PRq E mX7_vertices mX8_vertices [] M isI :=
  pr_ex h (c_X7_vertices E 0 M) (c_X8_vertices E 0 M h.2.2.2.1 _ (ONc h) _ _ (REc h)) rfl
theorem p_vertex (h : JR M) (v k u : Int) (h1 : -2147483648 ≤ v ∧ v < 2147483648) (h2 : -2147483648 ≤ k ∧ k < 2147483648) (h3 : -2147483648 ≤ u ∧ u < 2147483648) : PRq E mX7_vertex mX8_vertex [vI v, vI k, vI u] M isL :=
  pr_exL h (c_X7_vertex E 0 M h.1 v k u h1 h2 h3) (c_X8_vertex E 0 M h.2.2.2.1 _ (ONc h) _ _ (REc h) v k u h1 h2 h3) rfl
theorem p_tight (h : JR M) (v : Int) (h1 : -2147483648 ≤ v ∧ v < 2147483648) : PRq E mX7_tight mX8_tight [vI v] M isI :=
  pr_gen (P7 := fun res => res = some (vI (if ¬ (0 ≤ v ∧ v < M 12 4) then (-900000001) else tq M v))) h (c_X7_tight E 0 M h.1 v h1) (c_X8_tight E 0 M h.2.2.2.1 _ (ONc h) _ _ (REc h) v h1) (fun r r' a b => by
    subst a
    refine ⟨?_, _, rfl, _, rfl⟩
    rcases b with ⟨b1, b2⟩ | ⟨b1, z, b2, b3⟩
    · rw [b2, if_pos b1]
    · rw [b2, if_neg (fun w => w b1)]
      have e : z = tq M v := eq_bits b3.1 (tq_rng h.1.2.2.1 b1).1 (fun t => by
        rw [b3.2.2 t, tq_bit h.1.2.2.1 b1 t]
        constructor
        · rintro ⟨_, s1, s2⟩
          refine ⟨s1, ?_⟩
          unfold TI at s2 ⊢
          rw [← WMRW h (on_lt h s1)]
          exact s2
        · rintro ⟨s1, s2⟩
          refine ⟨(ONc h).t t s1, s1, ?_⟩
          unfold TI at s2 ⊢
          rw [WMRW h (on_lt h s1)]
          exact s2)
      rw [e])
theorem isum_add (f g : Int → Int) : ∀ n : Nat, isum (fun k => f k + g k) n = isum f n + isum g n := by
  intro n
  induction n with
  | zero => rfl
  | succ n ih =>
    show isum (fun k => f k + g k) n + (f n + g n) = (isum f n + f n) + (isum g n + g n)
    rw [ih]
    omega
theorem tri_sum (F : Int → Int → Int) (hF : ∀ i j, F i j = F j i) : ∀ n : Nat, isum (fun i => isum (fun q => F i (i + 1 + q)) ((n : Int) - i - 1).toNat) n = isum (fun a => isum (fun b => F a b) a.toNat) n := by
  intro n
  induction n with
  | zero => rfl
  | succ n ih =>
    have e1 : isum (fun i => isum (fun q => F i (i + 1 + q)) (((n + 1 : Nat) : Int) - i - 1).toNat) n = isum (fun i => isum (fun q => F i (i + 1 + q)) ((n : Int) - i - 1).toNat + F i (n : Int)) n := by
      refine isum_c n (fun k hk => ?_)
      show isum (fun q => F (k : Int) ((k : Int) + 1 + q)) (((n + 1 : Nat) : Int) - (k : Int) - 1).toNat = isum (fun q => F (k : Int) ((k : Int) + 1 + q)) ((n : Int) - (k : Int) - 1).toNat + F (k : Int) (n : Int)
      have e : (((n + 1 : Nat) : Int) - (k : Int) - 1).toNat = ((n : Int) - (k : Int) - 1).toNat + 1 := by omega
      rw [e]
      show isum (fun q => F (k : Int) ((k : Int) + 1 + q)) ((n : Int) - (k : Int) - 1).toNat + F (k : Int) ((k : Int) + 1 + ((((n : Int) - (k : Int) - 1).toNat : Nat) : Int)) = _
      rw [show (k : Int) + 1 + ((((n : Int) - (k : Int) - 1).toNat : Nat) : Int) = (n : Int) by omega]
    have e2 : isum (fun q => F ((n : Nat) : Int) (((n : Nat) : Int) + 1 + q)) (((n + 1 : Nat) : Int) - ((n : Nat) : Int) - 1).toNat = 0 := by
      have : (((n + 1 : Nat) : Int) - ((n : Nat) : Int) - 1).toNat = 0 := by omega
      rw [this]
      rfl
    show isum (fun i => isum (fun q => F i (i + 1 + q)) (((n + 1 : Nat) : Int) - i - 1).toNat) n + isum (fun q => F ((n : Nat) : Int) (((n : Nat) : Int) + 1 + q)) (((n + 1 : Nat) : Int) - ((n : Nat) : Int) - 1).toNat = isum (fun a => isum (fun b => F a b) a.toNat) n + isum (fun b => F ((n : Nat) : Int) b) ((n : Nat) : Int).toNat
    rw [e1, e2, isum_add, ih, Int.toNat_natCast, Int.add_zero]
    congr 1
    exact isum_c n (fun k hk => hF _ _)
theorem Rm_sym (i j : Int) : Rm M i j ↔ Rm M j i := by
  unfold Rm
  constructor
  · intro h k k0 k1 k2 k3 q
    exact h k k0 k1 k3 k2 (fun t ht => q t ⟨ht.1, ht.2.2, ht.2.1⟩)
  · intro h k k0 k1 k2 k3 q
    exact h k k0 k1 k3 k2 (fun t ht => q t ⟨ht.1, ht.2.2, ht.2.1⟩)
theorem RmG_Rm (h : JR M) (i j : Int) : RmG M (M 13 5) (M 12 4) (vp M) i j ↔ Rm M i j := by
  unfold RmG Rm
  have ti : ∀ t : Nat, Sg (M 13 5) t → ∀ p, TI (RW M) t p ↔ TI (WM M) t p := fun t st p => by
    unfold TI
    rw [WMRW h (on_lt h st)]
  constructor
  · intro k a a0 a1 a2 a3 q
    exact k a a0 a1 a2 a3 (fun t ht => (ti t ht.1 _).mpr (q t ⟨ht.1, (ti t ht.1 _).mp ht.2.1, (ti t ht.1 _).mp ht.2.2⟩))
  · intro k a a0 a1 a2 a3 q
    exact k a a0 a1 a2 a3 (fun t ht => (ti t ht.1 _).mp (q t ⟨ht.1, (ti t ht.1 _).mpr ht.2.1, (ti t ht.1 _).mpr ht.2.2⟩))
theorem p_rims (h : JR M) : PRq E mX7_rims mX8_rims [] M isI :=
  pr_gen (P7 := fun res => res = some (vI (if M 12 5 = 0 then (-900000003) else isum (rmF M) (M 12 4).toNat))) h (c_X7_rims E 0 M h.1) (c_X8_rims E 0 M h.2.2.2.1 _ (ONc h) _ _ (REc h)) (fun r r' a b => by
    subst a
    refine ⟨?_, _, rfl, _, rfl⟩
    have s := S125 h
    rcases b with ⟨b1, b2⟩ | ⟨b1, b2⟩
    · rw [b01_f b1] at s
      rw [b2, if_pos s.symm]
    · rw [b01_t b1] at s
      rw [b2, if_neg (by omega)]
      have n0 := (CI_b h.1).2.1.1
      have t := tri_sum (fun i j => b01 (Rm M i j)) (fun i j => b01_iff (Rm_sym i j)) (M 12 4).toNat
      rw [show (((M 12 4).toNat : Nat) : Int) = M 12 4 by omega] at t
      have e1 : isum (rmF M) (M 12 4).toNat = isum (fun a => isum (fun b => b01 (Rm M a b)) a.toNat) (M 12 4).toNat := t
      rw [e1]
      have e2 : (fun a => isum (fun b => b01 (RmG M (M 13 5) (M 12 4) (vp M) a b)) a.toNat) = (fun a : Int => isum (fun b => b01 (Rm M a b)) a.toNat) := by
        funext a
        congr 1
        funext b
        exact b01_iff (RmG_Rm h a b)
      rw [e2])
theorem p_shadow (h : JR M) : PRq E mX7_shadow mX8_shadow [] M isI :=
  pr_ex h (c_X7_shadow E 0 M h.1) (c_X8_shadow E 0 M h.2.2.2.1 _ (ONc h) _ _ (HUc h)) (by rw [S125 h])
theorem p_shadowAt (h : JR M) (k y u : Int) (h1 : -2147483648 ≤ k ∧ k < 2147483648) (h2 : -2147483648 ≤ y ∧ y < 2147483648) (h3 : -2147483648 ≤ u ∧ u < 2147483648) : PRq E mX7_shadowAt mX8_shadowAt [vI k, vI y, vI u] M isL :=
  pr_exL h (c_X7_shadowAt E 0 M h.1 k y u h1 h2 h3) (c_X8_shadowAt E 0 M h.2.2.2.1 _ (ONc h) _ _ (HUc h) k y u h1 h2 h3) (by
    rw [S125 h]
    by_cases q : M 12 5 = 0
    · rw [if_pos q, if_pos q]
    · rw [if_neg q, if_neg q]
      by_cases z : ¬ (0 ≤ k ∧ k < M 28 5)
      · rw [if_pos z, if_pos z]
      · rw [if_neg z, if_neg z, cn_at (by omega)]
        by_cases w : y = 0
        · rw [if_pos w, if_pos w]; rfl
        · rw [if_neg w, if_neg w]; rfl)
theorem OOo (h : JR M) : OO (M 29) (M 30) (M 31) (M 32) (M 28 4) (M 28 5) (Shd (BV M)) := h.1.2.2.1.2.2.2.2.2.1
theorem OOh (h : JR M) : OO (M 5) (M 6) (M 7) (M 8) (M 4 4) (M 4 5) (FS (M 1 3) (M 2) (M 3)) := h.1.1.2.2.1
theorem cn_h (h : JR M) {i : Nat} (hi : i < (M 4 5).toNat) : cn (M 5) (M 6) (M 7) (M 8) i = fcn (fun k => M 5 (M 8 k)) (fun k => M 6 (M 8 k)) i := by
  obtain ⟨hO, _, hW⟩ := h.1.1.2.2
  obtain ⟨r0, r1⟩ := hO.2.2.2.1 (i : Int) (by omega) (by omega)
  unfold cn fcn
  rw [(hW _ r0 r1).2.2]
theorem msO_e (h : JR M) : cntP (fun i : Nat => ¬ InO (M 28 5).toNat (cn (M 29) (M 30) (M 31) (M 32)) (fcn (fun k => M 5 (M 8 k)) (fun k => M 6 (M 8 k)) i)) (M 4 5).toNat = msO M := by
  unfold msO
  refine cntP_congr _ (fun i hi => not_congr ?_)
  rw [cn_h h hi]
  exact (InO_HdM (OOo h) _).symm
theorem msH_e (h : JR M) : cntP (fun i : Nat => ¬ InO (M 4 5).toNat (fcn (fun k => M 5 (M 8 k)) (fun k => M 6 (M 8 k))) (cn (M 29) (M 30) (M 31) (M 32) i)) (M 28 5).toNat = msH M := by
  unfold msH
  refine cntP_congr _ (fun i hi => not_congr ?_)
  rw [InO_HdM (OOh h)]
  exact InO_congr (fun j hj => (cn_h h hj).symm) _
theorem p_missed (h : JR M) : PRq E mX7_missed mX8_missed [] M isI :=
  pr_ex h (c_X7_missed E 0 M h.1) (c_X8_missed E 0 M h.2.2.2.1 _ (ONc h) _ _ (HUc h) h.2.1 _ _ _ (FGc h)) (by rw [S125 h, msO_e h])
theorem p_beyond (h : JR M) : PRq E mX7_beyond mX8_beyond [] M isI :=
  pr_ex h (c_X7_beyond E 0 M h.1) (c_X8_beyond E 0 M h.2.2.2.1 _ (ONc h) _ _ (HUc h) h.2.1 _ _ _ (FGc h)) (by rw [S125 h, msH_e h, h.2.2.2.2.2.1])
theorem p_seen (h : JR M) : PRq E mX7_seen mX8_seen [] M isI :=
  pr_ex h (c_X7_seen E 0 M h.1) (c_X8_seen E 0 M h.2.2.2.1 _ (ONc h) _ _ (HUc h) h.2.1 _ _ _ (FGc h)) (by
    have s := S125 h
    rw [s]
    by_cases q : M 12 5 = 0
    · rw [if_pos q, if_pos q]
    · rw [if_neg q, if_neg q]
      have hS : Snd (RW M) (Sg (M 13 5)) := b01_ne (by omega)
      obtain ⟨H0, HH⟩ := HUc h hS
      have FG0 := FGc h
      by_cases z : M 4 5 < 3
      · rw [if_pos z]
        exact b01_f (fun w => by have := w.1; omega)
      · rw [if_neg z]
        have HF := FG0.2.2.2.2 (by have := FG0.2.2.1; omega)
        have k := SN_iff HF HH (by omega)
        have e1 := msO_e h
        have e2 := msH_e h
        have z1 := cntP_0 (P := fun i : Nat => ¬ InO (M 28 5).toNat (cn (M 29) (M 30) (M 31) (M 32)) (fcn (fun k => M 5 (M 8 k)) (fun k => M 6 (M 8 k)) i)) (M 4 5).toNat
        have z2 := cntP_0 (P := fun i : Nat => ¬ InO (M 4 5).toNat (fcn (fun k => M 5 (M 8 k)) (fun k => M 6 (M 8 k))) (cn (M 29) (M 30) (M 31) (M 32) i)) (M 28 5).toNat
        rw [e1] at z1
        rw [e2] at z2
        by_cases y : msO M = 0 ∧ msH M = 0
        · rw [if_pos y]
          exact b01_t (k.mpr ⟨fun j hj => Classical.byContradiction (z2.mp y.2 j hj), fun i hi => Classical.byContradiction (z1.mp y.1 i hi)⟩)
        · rw [if_neg y]
          refine b01_f (fun w => y ?_)
          obtain ⟨w1, w2⟩ := k.mp w
          exact ⟨z1.mpr (fun i hi c => c (w2 i hi)), z2.mpr (fun j hj c => c (w1 j hj))⟩)
theorem p_most (h : JR M) (p q : Int) (h1 : -2147483648 ≤ p ∧ p < 2147483648) (h2 : -2147483648 ≤ q ∧ q < 2147483648) : PRq E mX7_most mX8_most [vI p, vI q] M isI :=
  pr_exX h (c_X7_most E 0 M h.1 p q h1 h2) (c_X8_most E 0 M h.2.1 p q h1 h2) (by
    have x := h.2.2.2.2.2
    rw [x.1]
    by_cases a : ¬ ((-99 ≤ p ∧ p ≤ 99) ∧ (-99 ≤ q ∧ q ≤ 99))
    · rw [if_pos a, if_pos a]
    · rw [if_neg a, if_neg a]
      by_cases b : M 1 3 = 0
      · rw [if_pos b, if_pos b]
      · rw [if_neg b, if_neg b]
        have p0 := h.1.1.1
        refine mxI_c _ (fun k hk => ?_)
        obtain ⟨y1, y2⟩ := x.2.1 (k : Int) (by omega) (by omega)
        show p * M 36 (k : Int) + q * M 37 (k : Int) = p * M 2 (k : Int) + q * M 3 (k : Int)
        rw [y1, y2])
theorem p_at (h : JR M) (p q s : Int) (h1 : -2147483648 ≤ p ∧ p < 2147483648) (h2 : -2147483648 ≤ q ∧ q < 2147483648) (h3 : -2147483648 ≤ s ∧ s < 2147483648) : PRq E mX7_at mX8_at [vI p, vI q, vI s] M isI :=
  pr_gen h (c_X7_at E 0 M h.1 p q s h1 h2 h3) (c_X8_at E 0 M h.2.2.2.1 _ (ONc h) _ _ (REc h) p q s h1 h2 h3) (fun r r' a b => by
    have t := S125 h
    rcases a with ⟨a1, rfl⟩ | ⟨a1, a2, rfl⟩ | ⟨a1, a2, z, a3, rfl⟩
    · rcases b with ⟨b1, rfl⟩ | ⟨b1, b2, rfl⟩ | ⟨b1, b2, z', b3, rfl⟩
      · exact ⟨rfl, _, rfl, _, rfl⟩
      · exact absurd b1 a1
      · exact absurd b1 a1
    · rcases b with ⟨b1, rfl⟩ | ⟨b1, b2, rfl⟩ | ⟨b1, b2, z', b3, rfl⟩
      · exact absurd a1 b1
      · exact ⟨rfl, _, rfl, _, rfl⟩
      · rw [b01_t b2] at t; omega
    · rcases b with ⟨b1, rfl⟩ | ⟨b1, b2, rfl⟩ | ⟨b1, b2, z', b3, rfl⟩
      · exact absurd a1 b1
      · rw [b01_f b2] at t; omega
      · rw [BF_un b3 a3]; exact ⟨rfl, _, rfl, _, rfl⟩)
theorem p_mostOf (h : JR M) (p q s u : Int) (h1 : -2147483648 ≤ p ∧ p < 2147483648) (h2 : -2147483648 ≤ q ∧ q < 2147483648) (h3 : -2147483648 ≤ s ∧ s < 2147483648) (h4 : -2147483648 ≤ u ∧ u < 2147483648) : PRq E mX7_mostOf mX8_mostOf [vI p, vI q, vI s, vI u] M isL :=
  pr_gen h (c_X7_mostOf E 0 M h.1 p q s h1 h2 h3 u h4) (c_X8_mostOf E 0 M h.2.2.2.1 _ (ONc h) _ _ (REc h) p q s h1 h2 h3 u h4) (fun r r' a b => by
    have t := S125 h
    rcases a with ⟨a1, rfl⟩ | ⟨a1, a2, rfl⟩ | ⟨a1, a2, z, a3, rfl⟩
    · rcases b with ⟨b1, rfl⟩ | ⟨b1, b2, rfl⟩ | ⟨b1, b2, z', b3, rfl⟩
      · exact ⟨rfl, _, rfl, _, rfl⟩
      · exact absurd b1 a1
      · exact absurd b1 a1
    · rcases b with ⟨b1, rfl⟩ | ⟨b1, b2, rfl⟩ | ⟨b1, b2, z', b3, rfl⟩
      · exact absurd a1 b1
      · exact ⟨rfl, _, rfl, _, rfl⟩
      · rw [b01_t b2] at t; omega
    · rcases b with ⟨b1, rfl⟩ | ⟨b1, b2, rfl⟩ | ⟨b1, b2, z', b3, rfl⟩
      · exact absurd a1 b1
      · rw [b01_f b2] at t; omega
      · rw [BF_un b3 a3]; exact ⟨rfl, _, rfl, _, rfl⟩)
end PR
