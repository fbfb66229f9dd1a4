/-! ===== outlines: wrap ===== -/
theorem CH_mono {σ : Rat} (hσ : sgn1 σ) {S : pt → Prop} {b r : Nat} {c : Nat → pt} (h : CH σ S b r c) : ∀ i j, b ≤ i → i < j → j < r → lq σ (c i) (c j) := by
  intro i j hbi hij
  have key : ∀ t, i + 1 + t < r → lq σ (c i) (c (i + 1 + t)) := by
    intro t
    induction t with
    | zero => intro ht; exact (h.2.2.2.1 i hbi ht).1
    | succ t ih => intro ht; exact lq_tr hσ (ih (by omega)) (h.2.2.2.1 (i + 1 + t) (by omega) ht).1
  intro hj
  have := key (j - i - 1) (by omega)
  rwa [show i + 1 + (j - i - 1) = j by omega] at this
theorem up_cap {S T : pt → Prop} {n k r r' : Nat} {c : Nat → pt} {R : Nat → Nat} {p : pt} (hl : CH 1 S 0 (k + 1) c) (hu : CH (-1) T k r c) (hTS : ∀ q, T q → S q) (hk : k < r') (hr : r' ≤ r) (ht : k + 1 = r' ∨ 0 < cr (c (r' - 2)) (c (r' - 1)) p) (hpS : S p) (hpl : ∀ s, T s → lq (-1) s p) (hR : ∀ i, i < r' → R i < n) (hinj : ∀ i j, i < r' → j < r' → R i = R j → c i = c j) : r' ≤ n := by
  have s1 : sgn1 (1 : Rat) := Or.inl rfl
  have s2 : sgn1 (-1 : Rat) := Or.inr rfl
  have ne : ∀ i j, i < j → j < r' → c i ≠ c j := by
    intro i j hij hj e
    by_cases hjk : j ≤ k
    · have := CH_mono s1 hl i j (by omega) hij (by omega)
      rw [e] at this; exact lq_ir this
    · by_cases hik : k ≤ i
      · have := CH_mono s2 hu i j hik hij (by omega)
        rw [e] at this; exact lq_ir this
      · have hpj := hpl _ (hu.2.1 j (by omega) (by omega))
        by_cases hi0 : i = 0
        · subst hi0
          rw [lq_m] at hpj
          rcases hl.2.2.1 p hpS with h | h
          · rw [h, ← e] at hpj; exact lx_ir hpj
          · rw [lq_1] at h
            rw [← e] at hpj; exact lx_as h hpj
        · have l1 := hl.2.2.2.1 (i - 1) (by omega) (by omega)
          have l2 := hl.2.2.2.1 i (by omega) (by omega)
          have l3 := hl.2.2.2.2 (i - 1) (by omega) (by omega)
          rw [show i - 1 + 1 = i by omega] at l1 l3
          rw [show i - 1 + 2 = i + 1 by omega] at l3
          have u1 := hu.2.2.2.1 (j - 1) (by omega) (by omega)
          rw [show j - 1 + 1 = j by omega] at u1
          have m1 := lq_m.mp u1.1
          rw [← e] at m1
          have aS := hTS _ (hu.2.1 (j - 1) (by omega) (by omega))
          by_cases hj1 : j + 1 < r'
          · have u2 := hu.2.2.2.1 j (by omega) (by omega)
            have m2 := lq_m.mp u2.1
            have t := hu.2.2.2.2 (j - 1) (by omega) (by omega)
            rw [show j - 1 + 1 = j by omega, show j - 1 + 2 = j + 1 by omega, ← e] at t
            rw [← e] at m2
            exact chain_apart (lq_1.mp l1.1) (lq_1.mp l2.1) l3 l1.2 l2.2 aS (hTS _ (hu.2.1 (j + 1) (by omega) (by omega))) m1 m2 t
          · have t : 0 < cr (c (r' - 2)) (c (r' - 1)) p := by
              rcases ht with ht | ht
              · omega
              · exact ht
            rw [show r' - 2 = j - 1 by omega, show r' - 1 = j by omega, ← e] at t
            have m2 := lq_m.mp hpj
            rw [← e] at m2
            exact chain_apart (lq_1.mp l1.1) (lq_1.mp l2.1) l3 l1.2 l2.2 aS hpS m1 m2 t
  refine pigeon n r' R hR (fun i j hi hj e => ?_)
  rcases Nat.lt_trichotomy i j with h | h | h
  · exact absurd (hinj i j hi hj e) (ne i j h hj)
  · exact h
  · exact absurd (hinj j i hj hi e.symm) (ne j i h hi)
/-- the places below i, those above i -/
def Lo (X Y W : Int → Int) (i : Int) : pt → Prop := fun p => ∃ j : Int, 0 ≤ j ∧ j < i ∧ p = P2 (X j) (Y j) (W j)
def Up (X Y W : Int → Int) (i n : Int) : pt → Prop := fun p => ∃ j : Int, i < j ∧ j < n ∧ p = P2 (X j) (Y j) (W j)
theorem Lo_all {X Y W : Int → Int} {n : Int} {S : pt → Prop} (h : OE X Y W n S) : Lo X Y W n = S := by
  funext p
  apply propext
  constructor
  · rintro ⟨j, h0, h1, rfl⟩; exact OE_in h h0 h1
  · intro hp
    obtain ⟨i, hi, e⟩ := (h.2.2.2 p).mp hp
    exact ⟨i, by omega, by omega, e⟩
theorem Up_all {X Y W : Int → Int} {n : Int} {S : pt → Prop} (h : OE X Y W n S) : Up X Y W (-1) n = S := by
  funext p
  apply propext
  constructor
  · rintro ⟨j, h0, h1, rfl⟩; exact OE_in h (by omega) h1
  · intro hp
    obtain ⟨i, hi, e⟩ := (h.2.2.2 p).mp hp
    exact ⟨i, by omega, by omega, e⟩
theorem Lo_succ {X Y W : Int → Int} {i : Int} (h0 : 0 ≤ i) : (fun s => Lo X Y W i s ∨ s = P2 (X i) (Y i) (W i)) = Lo X Y W (i + 1) := by
  funext p
  apply propext
  constructor
  · rintro (⟨j, a, b, e⟩ | e)
    · exact ⟨j, a, by omega, e⟩
    · exact ⟨i, h0, by omega, e⟩
  · rintro ⟨j, a, b, e⟩
    by_cases hj : j = i
    · exact Or.inr (by rw [e, hj])
    · exact Or.inl ⟨j, a, by omega, e⟩
theorem Up_succ {X Y W : Int → Int} {i n : Int} (h0 : i < n) : (fun s => Up X Y W i n s ∨ s = P2 (X i) (Y i) (W i)) = Up X Y W (i - 1) n := by
  funext p
  apply propext
  constructor
  · rintro (⟨j, a, b, e⟩ | e)
    · exact ⟨j, by omega, b, e⟩
    · exact ⟨i, by omega, h0, e⟩
  · rintro ⟨j, a, b, e⟩
    by_cases hj : j = i
    · exact Or.inr (by rw [e, hj])
    · exact Or.inl ⟨j, by omega, b, e⟩
theorem Lo_one {X Y W : Int → Int} : Lo X Y W 1 = fun p => p = P2 (X 0) (Y 0) (W 0) := by
  funext p
  apply propext
  exact ⟨fun ⟨j, a, b, e⟩ => by rw [e, show j = 0 by omega], fun e => ⟨0, by omega, by omega, e⟩⟩
theorem Up_one {X Y W : Int → Int} {n : Int} : Up X Y W (n - 2) n = fun p => p = P2 (X (n - 1)) (Y (n - 1)) (W (n - 1)) := by
  funext p
  apply propext
  exact ⟨fun ⟨j, a, b, e⟩ => by rw [e, show j = n - 1 by omega], fun e => ⟨n - 1, by omega, by omega, e⟩⟩
set_option maxRecDepth 100000 in
set_option maxHeartbeats 4000000 in
theorem l_H_low (E : av_E) (d : Nat) (M : av_M) (S : pt → Prop) (hE : OE (M 5) (M 6) (M 7) (M 4 4) S) (hn : (M 4 4) ≤ 12) (Q : Option av_V → av_M → Prop)
    (hx : ∀ M1 : av_M, ((∀ f, f ≠ 5 → M1 4 f = M 4 f) ∧ (∀ k, k ≠ 4 → k ≠ 8 → M1 k = M k) ∧ ∃ r : Nat, M1 4 5 = r ∧ (r : Int) ≤ (M 4 4) ∧ (∀ j, 0 ≤ j → j < (r : Int) → 0 ≤ M1 8 j ∧ M1 8 j < (M 4 4)) ∧ ((M 4 4) = 0 → r = 0) ∧ (0 < (M 4 4) → CH 1 (Lo (M 5) (M 6) (M 7) ((M 4 4))) 0 r (cn (M1 5) (M1 6) (M1 7) (M1 8)) ∧ (cn (M1 5) (M1 6) (M1 7) (M1 8)) (r - 1) = (P2 (M 5 ((M 4 4) - 1)) (M 6 ((M 4 4) - 1)) (M 7 ((M 4 4) - 1))))) → av_S E (d + 2) mX4_wrap 27 [(0, vR 4), (1, vI (M 4 4))] [] M1 Q) :
    ∀ (t : Nat) (i : Int) (M1 : av_M), i + t = (M 4 4) → 0 ≤ i → ((∀ f, f ≠ 5 → M1 4 f = M 4 f) ∧ (∀ k, k ≠ 4 → k ≠ 8 → M1 k = M k) ∧ ∃ r : Nat, M1 4 5 = r ∧ (r : Int) ≤ i ∧ (∀ j, 0 ≤ j → j < (r : Int) → 0 ≤ M1 8 j ∧ M1 8 j < (M 4 4)) ∧ (i = 0 → r = 0) ∧ (0 < i → CH 1 (Lo (M 5) (M 6) (M 7) (i)) 0 r (cn (M1 5) (M1 6) (M1 7) (M1 8)) ∧ (cn (M1 5) (M1 6) (M1 7) (M1 8)) (r - 1) = (P2 (M 5 (i - 1)) (M 6 (i - 1)) (M 7 (i - 1))))) → av_S E (d + 2) mX4_wrap 7 [(0, vR 4), (1, vI i)] [] M1 Q := by
  intro t
  induction t with
  | zero =>
    intro i M1 hi h0 hinv
    have e : i = (M 4 4) := by omega
    subst e
    have h4 := hinv.1 4 (by decide)
    refine ax_iloadn rfl rfl ?_
    refine ax_aloadn rfl rfl ?_
    refine ax_getI (g := 4) rfl fX4_22 rfl rfl rfl rfl ?_
    refine ax_icmp_ge rfl (by omega) (by omega) (fun h12 => ?_) (fun h12 => ?_)
    · exact hx M1 hinv
    · omega
  | succ t ih =>
    intro i M1 hi h0 hinv
    obtain ⟨hf, hk, r, hr, hri, hR, hz, hc⟩ := hinv
    have h4 := hf 4 (by decide)
    have eX := hk 5 (by decide) (by decide)
    have eY := hk 6 (by decide) (by decide)
    have eW := hk 7 (by decide) (by decide)
    by_cases hi0 : i = 0
    · subst hi0
      have hr0 := hz rfl
      subst hr0
      refine ax_iloadn rfl rfl ?_
      refine ax_aloadn rfl rfl ?_
      refine ax_getI (g := 4) rfl fX4_22 rfl rfl rfl rfl ?_
      refine ax_icmp_ge rfl (by omega) (by omega) (fun h12 => ?_) (fun h12 => ?_)
      · omega
      · refine ax_aloadn rfl rfl ?_
        refine ax_iloadn rfl rfl ?_
        refine ax_iconst rfl ?_
        refine ax_callV (as := [_, _]) rfl vX4_39 hX4_extend rfl rfl rfl rfl rfl (c_H_ext0 E d M1 0 (by omega) (by rw [hr]; rfl)) (fun r18 M18 hr18 => ?_)
        obtain ⟨rfl, g2, g3, g4, g5, g6⟩ := hr18
        refine ax_iinc (ls' := [(0, _), (1, _)]) rfl rfl rfl rfl ?_
        refine ax_goto rfl ?_
        refine ih _ M18 (by omega) (by omega) ⟨fun f hf5 => by rw [g5 f hf5, hf f hf5], fun k k0 k1 => by rw [g6 k k0 k1, hk k k0 k1], 1, by rw [g2]; rfl, by omega, fun j j0 j1 => by rw [show j = 0 by omega, g3]; omega, fun h => by omega, fun _ => ?_⟩
        have gX := (g6 5 (by decide) (by decide)).trans eX
        have gY := (g6 6 (by decide) (by decide)).trans eY
        have gW := (g6 7 (by decide) (by decide)).trans eW
        have ec : (cn (M18 5) (M18 6) (M18 7) (M18 8)) 0 = (P2 (M 5 (0)) (M 6 (0)) (M 7 (0))) := by unfold cn; rw [show ((0 : Nat) : Int) = 0 by rfl, g3, gX, gY, gW]
        refine ⟨?_, ec⟩
        rw [show (0 : Int) + 1 = 1 by rfl, Lo_one]
        exact CH_one ec
    · obtain ⟨hCH, htop⟩ := hc (by omega)
      have eC : (cn (M1 5) (M1 6) (M1 7) (M1 8)) = cn (M 5) (M 6) (M 7) (M1 8) := by rw [eX, eY, eW]
      have hlow : ∀ s, Lo (M 5) (M 6) (M 7) i s → lq 1 s (P2 (M 5 (i)) (M 6 (i)) (M 7 (i))) := by
        rintro s ⟨j, j0, j1, rfl⟩
        exact lq_1.mpr (OE_lt hE j0 j1 (by omega))
      refine ax_iloadn rfl rfl ?_
      refine ax_aloadn rfl rfl ?_
      refine ax_getI (g := 4) rfl fX4_22 rfl rfl rfl rfl ?_
      refine ax_icmp_ge rfl (by omega) (by omega) (fun h12 => ?_) (fun h12 => ?_)
      · omega
      · refine ax_aloadn rfl rfl ?_
        refine ax_iloadn rfl rfl ?_
        refine ax_iconst rfl ?_
        refine ax_callV (as := [_, _]) rfl vX4_39 hX4_extend rfl rfl rfl rfl rfl (c_H_ext E d M1 1 (Or.inl rfl) (Lo (M 5) (M 6) (M 7) i) 0 r i (M 4 4) hn ⟨h0, by omega⟩ (fun r' a b _ => by omega) (by omega) (by rw [eX, eY, eW]; exact hE.2.1) (by rw [eX, eY, eW]; exact hlow) hR hr hCH (Or.inl (by
        rintro s ⟨j, j0, j1, rfl⟩
        rw [htop]
        by_cases hj : j = i - 1
        · rw [hj]; exact Or.inl rfl
        · exact Or.inr (lq_1.mpr (OE_lt hE j0 (by omega) (by omega)))))) (fun r18 M18 hr18 => ?_)
        obtain ⟨rfl, r', g1, g2, g3, g4, g5, g6, g7, g8, g9⟩ := hr18
        refine ax_iinc (ls' := [(0, _), (1, _)]) rfl rfl rfl rfl ?_
        refine ax_goto rfl ?_
        refine ih _ M18 (by omega) (by omega) ⟨fun f hf5 => by rw [g6 f hf5, hf f hf5], fun k k0 k1 => by rw [g7 k k0 k1, hk k k0 k1], r' + 1, by rw [g3]; rfl, by omega, fun j j0 j1 => ?_, fun h => by omega, fun _ => ?_⟩
        · by_cases hj : j = r'
          · rw [hj, g4]; omega
          · rw [g5 j hj]; exact hR j j0 (by omega)
        · have gX := (g7 5 (by decide) (by decide)).trans eX
          have gY := (g7 6 (by decide) (by decide)).trans eY
          have gW := (g7 7 (by decide) (by decide)).trans eW
          refine ⟨?_, ?_⟩
          · rw [eX, eY, eW, Lo_succ h0] at g8
            exact g8
          · unfold cn
            rw [show ((r' + 1 - 1 : Nat) : Int) = r' by omega, g4, gX, gY, gW, show i + 1 - 1 = i by omega]
set_option maxRecDepth 100000 in
set_option maxHeartbeats 4000000 in
theorem l_H_up (E : av_E) (d : Nat) (M : av_M) (S : pt → Prop) (hE : OE (M 5) (M 6) (M 7) (M 4 4) S) (hn : (M 4 4) ≤ 12) (k : Nat) (Q : Option av_V → av_M → Prop)
    (hx : ∀ M1 : av_M, ((∀ f, f ≠ 5 → M1 4 f = M 4 f) ∧ (∀ k, k ≠ 4 → k ≠ 8 → M1 k = M k) ∧ ∃ r : Nat, M1 4 5 = r ∧ (∀ j, 0 ≤ j → j < (r : Int) → 0 ≤ M1 8 j ∧ M1 8 j < (M 4 4)) ∧ CH (-1) (Up (M 5) (M 6) (M 7) (-1) (M 4 4)) k r (cn (M1 5) (M1 6) (M1 7) (M1 8)) ∧ (cn (M1 5) (M1 6) (M1 7) (M1 8)) (r - 1) = (P2 (M 5 (-1 + 1)) (M 6 (-1 + 1)) (M 7 (-1 + 1))) ∧ CH 1 S 0 (k + 1) (cn (M1 5) (M1 6) (M1 7) (M1 8)) ∧ (r : Int) ≤ (M 4 4) + 1) → av_S E (d + 2) mX4_wrap 57 [(0, vR 4), (1, vI (k + 2)), (2, vI (-1))] [] M1 Q) :
    ∀ (t : Nat) (i : Int) (M1 : av_M), i + 1 = t → i + 1 < (M 4 4) → ((∀ f, f ≠ 5 → M1 4 f = M 4 f) ∧ (∀ k, k ≠ 4 → k ≠ 8 → M1 k = M k) ∧ ∃ r : Nat, M1 4 5 = r ∧ (∀ j, 0 ≤ j → j < (r : Int) → 0 ≤ M1 8 j ∧ M1 8 j < (M 4 4)) ∧ CH (-1) (Up (M 5) (M 6) (M 7) (i) (M 4 4)) k r (cn (M1 5) (M1 6) (M1 7) (M1 8)) ∧ (cn (M1 5) (M1 6) (M1 7) (M1 8)) (r - 1) = (P2 (M 5 (i + 1)) (M 6 (i + 1)) (M 7 (i + 1))) ∧ CH 1 S 0 (k + 1) (cn (M1 5) (M1 6) (M1 7) (M1 8)) ∧ (r : Int) ≤ (M 4 4) + 1) → av_S E (d + 2) mX4_wrap 41 [(0, vR 4), (1, vI (k + 2)), (2, vI i)] [] M1 Q := by
  intro t
  induction t with
  | zero =>
    intro i M1 hi h0 hinv
    have e : i = -1 := by omega
    subst e
    refine ax_iloadn rfl rfl ?_
    refine ax_if_lt rfl (by omega) (fun h42 => ?_) (fun h42 => ?_)
    · exact hx M1 hinv
    · omega
  | succ t ih =>
    intro i M1 hi h0 hinv
    obtain ⟨hf, hk, r, hr, hR, hCH, htop, hlow, hrn⟩ := hinv
    have eX := hk 5 (by decide) (by decide)
    have eY := hk 6 (by decide) (by decide)
    have eW := hk 7 (by decide) (by decide)
    have hkr := hCH.1
    have hup : ∀ s, Up (M 5) (M 6) (M 7) i (M 4 4) s → lq (-1) s (P2 (M 5 (i)) (M 6 (i)) (M 7 (i))) := by
      rintro s ⟨j, j0, j1, rfl⟩
      exact lq_m.mpr (OE_lt hE (by omega) j0 j1)
    have hcap : ∀ r' : Nat, k < r' → r' ≤ r → (k + 1 = r' ∨ 0 < cr ((cn (M1 5) (M1 6) (M1 7) (M1 8)) (r' - 2)) ((cn (M1 5) (M1 6) (M1 7) (M1 8)) (r' - 1)) (P2 (M 5 (i)) (M 6 (i)) (M 7 (i)))) → (r' : Int) ≤ (M 4 4) := by
      intro r' a b c
      have := up_cap (n := (M 4 4).toNat) (R := fun j => (M1 8 j).toNat) hlow hCH (fun q hq => by
        obtain ⟨j, j0, j1, rfl⟩ := hq
        exact OE_in hE (by omega) j1) a b c (OE_in hE (by omega) (by omega)) hup (fun j hj => by have := hR j (by omega) (by omega); omega) (fun j l hj hl e => by
        have q1 := hR j (by omega) (by omega)
        have q2 := hR l (by omega) (by omega)
        have e' : M1 8 j = M1 8 l := by
          have e0 : (M1 8 j).toNat = (M1 8 l).toNat := e
          omega
        unfold cn; rw [e'])
      have := hE.1
      omega
    refine ax_iloadn rfl rfl ?_
    refine ax_if_lt rfl (by omega) (fun h42 => ?_) (fun h42 => ?_)
    · omega
    · refine ax_aloadn rfl rfl ?_
      refine ax_iloadn rfl rfl ?_
      refine ax_iloadn rfl rfl ?_
      refine ax_callV (as := [_, _]) rfl vX4_39 hX4_extend rfl rfl rfl rfl rfl (c_H_ext E d M1 (-1) (Or.inr rfl) (Up (M 5) (M 6) (M 7) i (M 4 4)) k r i (M 4 4) hn ⟨by omega, by omega⟩ (fun r' a b c => by rw [eX, eY, eW] at c; have := hcap r' a b (by rw [eX, eY, eW]; exact c); omega) (by omega) (by rw [eX, eY, eW]; exact hE.2.1) (by rw [eX, eY, eW]; exact hup) hR hr hCH (Or.inl (by
      rintro s ⟨j, j0, j1, rfl⟩
      rw [htop]
      by_cases hj : j = i + 1
      · rw [hj]; exact Or.inl rfl
      · exact Or.inr (lq_m.mpr (OE_lt hE (by omega) (by omega) (by omega)))))) (fun r48 M48 hr48 => ?_)
      obtain ⟨rfl, r', g1, g2, g3, g4, g5, g6, g7, g8, g9⟩ := hr48
      refine ax_iinc (ls' := [(0, _), (1, _), (2, _)]) rfl rfl rfl rfl ?_
      refine ax_goto rfl ?_
      refine ih _ M48 (by omega) (by omega) ⟨fun f hf5 => by rw [g6 f hf5, hf f hf5], fun l k0 k1 => by rw [g7 l k0 k1, hk l k0 k1], r' + 1, by rw [g3]; rfl, fun j j0 j1 => ?_, ?_, ?_, ?_, ?_⟩
      · by_cases hj : j = r'
        · rw [hj, g4]; omega
        · rw [g5 j hj]; exact hR j j0 (by omega)
      · rw [eX, eY, eW, Up_succ (by omega)] at g8
        exact g8
      · unfold cn
        rw [show ((r' + 1 - 1 : Nat) : Int) = r' by omega, g4, g7 5 (by decide) (by decide), g7 6 (by decide) (by decide), g7 7 (by decide) (by decide), eX, eY, eW, show i + -1 + 1 = i by omega]
      · refine CH_congr hlow (fun j hj => ?_)
        unfold cn
        rw [g5 j (by omega), g7 5 (by decide) (by decide), g7 6 (by decide) (by decide), g7 7 (by decide) (by decide)]
      · by_cases hrr : r' = r
        · have hc2 : (k + 1 = r' ∨ 0 < cr ((cn (M1 5) (M1 6) (M1 7) (M1 8)) (r' - 2)) ((cn (M1 5) (M1 6) (M1 7) (M1 8)) (r' - 1)) (P2 (M 5 (i)) (M 6 (i)) (M 7 (i)))) := by
            by_cases hk1 : k + 1 = r'
            · exact Or.inl hk1
            · right
              have q := g8.2.2.2.2 (r' - 2) (by omega) (by omega)
              rw [show r' - 2 + 1 = r' - 1 by omega, show r' - 2 + 2 = r' by omega] at q
              have w1 : (cn (M48 5) (M48 6) (M48 7) (M48 8)) (r' - 2) = (cn (M1 5) (M1 6) (M1 7) (M1 8)) (r' - 2) := by unfold cn; rw [g5 _ (by omega), g7 5 (by decide) (by decide), g7 6 (by decide) (by decide), g7 7 (by decide) (by decide)]
              have w2 : (cn (M48 5) (M48 6) (M48 7) (M48 8)) (r' - 1) = (cn (M1 5) (M1 6) (M1 7) (M1 8)) (r' - 1) := by unfold cn; rw [g5 _ (by omega), g7 5 (by decide) (by decide), g7 6 (by decide) (by decide), g7 7 (by decide) (by decide)]
              have w3 : (cn (M48 5) (M48 6) (M48 7) (M48 8)) r' = (P2 (M 5 (i)) (M 6 (i)) (M 7 (i))) := by unfold cn; rw [g4, g7 5 (by decide) (by decide), g7 6 (by decide) (by decide), g7 7 (by decide) (by decide), eX, eY, eW]
              rw [w1, w2, w3] at q
              exact q
          have := hcap r' g1 g2 hc2
          omega
        · omega
set_option maxRecDepth 100000 in
set_option maxHeartbeats 4000000 in
theorem c_H_wrap (E : av_E) (d : Nat) (M : av_M) (S : pt → Prop) (hE : OE (M 5) (M 6) (M 7) (M 4 4) S) (hn : (M 4 4) ≤ 12) : av_Mt E (d + 2) mX4_wrap [vR 4] M (fun res M' => res = none ∧ OO (M' 5) (M' 6) (M' 7) (M' 8) (M' 4 4) (M' 4 5) S ∧ M' 5 = M 5 ∧ M' 6 = M 6 ∧ M' 7 = M 7 ∧ (∀ f, f ≠ 5 → M' 4 f = M 4 f) ∧ (∀ k, k ≠ 4 → k ≠ 8 → M' k = M k)) := by
  have hn0 := hE.1
  refine av_enter hX4_wrap oX4_wrap rfl rfl ?_
  refine ax_aloadn rfl rfl ?_
  refine ax_iconst rfl ?_
  refine ax_putI' (g := 5) rfl gX4_36 rfl rfl rfl rfl (fun M2 a2 b2 c2 => ?_)
  refine ax_iconst rfl ?_
  refine ax_istoren (ls' := [(0, _), (1, _)]) rfl rfl rfl ?_
  have w4 : M2 4 4 = M 4 4 := b2 4 (by decide)
  refine l_H_low E d M S hE hn _ (fun M1 hinv => ?_) (M 4 4).toNat 0 M2 (by omega) (by omega) ⟨b2, fun k k0 k1 => c2 k k0, 0, by rw [a2]; rfl, by omega, fun j j0 j1 => by omega, fun _ => rfl, fun h => by omega⟩
  obtain ⟨hf, hk, r, hr, hri, hR, hz, hc⟩ := hinv
  have h4 := hf 4 (by decide)
  have eX := hk 5 (by decide) (by decide)
  have eY := hk 6 (by decide) (by decide)
  have eW := hk 7 (by decide) (by decide)
  by_cases hlt : (M 4 4) ≤ 1
  · refine ax_aloadn rfl rfl ?_
    refine ax_getI (g := 5) rfl fX4_36 rfl rfl rfl rfl ?_
    refine ax_iconst rfl ?_
    refine ax_iadd rfl ?_
    refine ax_istoren (ls' := [(0, _), (1, _)]) rfl rfl rfl ?_
    refine ax_aloadn rfl rfl ?_
    refine ax_getI (g := 4) rfl fX4_22 rfl rfl rfl rfl ?_
    refine ax_iconst rfl ?_
    refine ax_isub rfl ?_
    refine ax_istoren (ls' := [(0, _), (1, _), (2, _)]) rfl rfl rfl ?_
    refine ax_iloadn rfl rfl ?_
    refine ax_if_lt rfl (by omega) (fun h42 => ?_) (fun h42 => ?_)
    · refine ax_aloadn rfl rfl ?_
      refine ax_getI (g := 4) rfl fX4_22 rfl rfl rfl rfl ?_
      refine ax_iconst rfl ?_
      refine ax_icmp_le rfl (by omega) (by omega) (fun h62 => ?_) (fun h62 => ?_)
      · refine ax_vret rfl rfl ?_
        first
          | omega
          | (refine ⟨rfl, ?_, eX, eY, eW, hf, hk⟩
             rw [eX, eY, eW, h4, hr]
             refine ⟨hE, by omega, fun h => by have := hz h; omega, hR, fun h => ?_⟩
             have e1 : (M 4 4) = 1 := by omega
             obtain ⟨hCH, htop⟩ := hc h
             have hb := hCH.1
             have er : r = 1 := by omega
             subst er
             have hl := Lo_all hE
             rw [e1] at hCH
             rw [e1] at hl
             rw [hl, eX, eY, eW] at hCH
             have q := hCH.2.1 0 (by omega) (by omega)
             refine Hull_one q (fun p hp => ?_)
             rw [← hl, Lo_one] at hp
             rw [← hl, Lo_one] at q
             exact hp.trans q.symm)
      · refine ax_aloadn rfl rfl ?_
        refine ax_dup rfl rfl ?_
        refine ax_getI (g := 5) rfl fX4_36 rfl rfl rfl rfl ?_
        refine ax_iconst rfl ?_
        refine ax_isub rfl ?_
        refine ax_putI' (g := 5) rfl gX4_36 rfl rfl rfl rfl (fun M72 a72 b72 c72 => ?_)
        refine ax_vret rfl rfl ?_
        first
          | omega
          | (refine ⟨rfl, ?_, eX, eY, eW, hf, hk⟩
             rw [eX, eY, eW, h4, hr]
             refine ⟨hE, by omega, fun h => by have := hz h; omega, hR, fun h => ?_⟩
             have e1 : (M 4 4) = 1 := by omega
             obtain ⟨hCH, htop⟩ := hc h
             have hb := hCH.1
             have er : r = 1 := by omega
             subst er
             have hl := Lo_all hE
             rw [e1] at hCH
             rw [e1] at hl
             rw [hl, eX, eY, eW] at hCH
             have q := hCH.2.1 0 (by omega) (by omega)
             refine Hull_one q (fun p hp => ?_)
             rw [← hl, Lo_one] at hp
             rw [← hl, Lo_one] at q
             exact hp.trans q.symm)
    · omega
  · obtain ⟨hCH, htop⟩ := hc (by omega)
    rw [Lo_all hE] at hCH
    have hb := hCH.1
    have el : (r : Int) + 1 = ((r - 1 : Nat) : Int) + 2 := by omega
    have hk0 : 0 < r - 1 := by
      apply Classical.byContradiction
      intro hno
      have er : r = 1 := by omega
      subst er
      have q := hCH.2.2.1 (P2 (M 5 (0)) (M 6 (0)) (M 7 (0))) (OE_in hE (by omega) (by omega))
      have w : (cn (M1 5) (M1 6) (M1 7) (M1 8)) 0 = (P2 (M 5 ((M 4 4) - 1)) (M 6 ((M 4 4) - 1)) (M 7 ((M 4 4) - 1))) := htop
      rw [w] at q
      have l := OE_lt hE (i := 0) (j := (M 4 4) - 1) (by omega) (by omega) (by omega)
      rcases q with q | q
      · rw [← q] at l; exact lx_ir l
      · exact lx_as l (lq_1.mp q)
    refine ax_aloadn rfl rfl ?_
    refine ax_getI (g := 5) rfl fX4_36 rfl rfl rfl rfl ?_
    refine ax_iconst rfl ?_
    refine ax_iadd rfl ?_
    refine ax_istoren (ls' := [(0, _), (1, _)]) rfl rfl rfl ?_
    refine ax_aloadn rfl rfl ?_
    refine ax_getI (g := 4) rfl fX4_22 rfl rfl rfl rfl ?_
    refine ax_iconst rfl ?_
    refine ax_isub rfl ?_
    refine ax_istoren (ls' := [(0, _), (1, _), (2, _)]) rfl rfl rfl ?_
    rw [hr, h4, el]
    refine l_H_up E d M S hE hn (r - 1) _ (fun M3 hinv => ?_) ((M 4 4) - 1).toNat _ M1 (by omega) (by omega) ⟨hf, hk, r, hr, hR, ?_, ?_, ?_, by omega⟩
    · obtain ⟨hf3, hk3, r3, hr3, hR3, hu, ht3, hl3, hn3⟩ := hinv
      have h43 := hf3 4 (by decide)
      have fX := hk3 5 (by decide) (by decide)
      have fY := hk3 6 (by decide) (by decide)
      have fW := hk3 7 (by decide) (by decide)
      rw [Up_all hE] at hu
      have hb3 := hu.1
      refine ax_aloadn rfl rfl ?_
      refine ax_getI (g := 4) rfl fX4_22 rfl rfl rfl rfl ?_
      refine ax_iconst rfl ?_
      refine ax_icmp_le rfl (by omega) (by omega) (fun h62 => ?_) (fun h62 => ?_)
      · refine ax_vret rfl rfl ?_
        first
          | omega
          | (have kX := (c72 5 (by decide)).trans fX
             have kY := (c72 6 (by decide)).trans fY
             have kW := (c72 7 (by decide)).trans fW
             have kR := c72 8 (by decide)
             refine ⟨rfl, ?_, kX, kY, kW, fun f hf5 => by rw [b72 f hf5, hf3 f hf5], fun l l0 l1 => by rw [c72 l l0, hk3 l l0 l1]⟩
             rw [kX, kY, kW, kR, a72, b72 4 (by decide), h43, hr3]
             refine ⟨hE, by omega, fun h => by omega, fun j j0 j1 => hR3 j j0 (by omega), fun _ => ?_⟩
             rw [fX, fY, fW] at hu hl3 ht3
             rw [show ((r3 : Int) - 1).toNat = r3 - 1 by omega]
             refine Hull_of (k := r - 1) hl3 (by rw [show r3 - 1 + 1 = r3 by omega]; exact hu) ?_ hk0
             rw [ht3]
             rcases hl3.2.2.1 (P2 (M 5 (-1 + 1)) (M 6 (-1 + 1)) (M 7 (-1 + 1))) (OE_in hE (by omega) (by omega)) with q | q
             · exact q
             · exfalso
               rw [lq_1] at q
               have q0 := hl3.2.1 0 (by omega) (by omega)
               rw [← Lo_all hE] at q0
               obtain ⟨j, j0, j1, e⟩ := q0
               rw [e] at q
               by_cases hj : j = 0
               · rw [hj] at q; exact lx_ir q
               · exact lx_as q (OE_lt hE (by omega) (by omega) j1))
      · refine ax_aloadn rfl rfl ?_
        refine ax_dup rfl rfl ?_
        refine ax_getI (g := 5) rfl fX4_36 rfl rfl rfl rfl ?_
        refine ax_iconst rfl ?_
        refine ax_isub rfl ?_
        refine ax_putI' (g := 5) rfl gX4_36 rfl rfl rfl rfl (fun M72 a72 b72 c72 => ?_)
        refine ax_vret rfl rfl ?_
        first
          | omega
          | (have kX := (c72 5 (by decide)).trans fX
             have kY := (c72 6 (by decide)).trans fY
             have kW := (c72 7 (by decide)).trans fW
             have kR := c72 8 (by decide)
             refine ⟨rfl, ?_, kX, kY, kW, fun f hf5 => by rw [b72 f hf5, hf3 f hf5], fun l l0 l1 => by rw [c72 l l0, hk3 l l0 l1]⟩
             rw [kX, kY, kW, kR, a72, b72 4 (by decide), h43, hr3]
             refine ⟨hE, by omega, fun h => by omega, fun j j0 j1 => hR3 j j0 (by omega), fun _ => ?_⟩
             rw [fX, fY, fW] at hu hl3 ht3
             rw [show ((r3 : Int) - 1).toNat = r3 - 1 by omega]
             refine Hull_of (k := r - 1) hl3 (by rw [show r3 - 1 + 1 = r3 by omega]; exact hu) ?_ hk0
             rw [ht3]
             rcases hl3.2.2.1 (P2 (M 5 (-1 + 1)) (M 6 (-1 + 1)) (M 7 (-1 + 1))) (OE_in hE (by omega) (by omega)) with q | q
             · exact q
             · exfalso
               rw [lq_1] at q
               have q0 := hl3.2.1 0 (by omega) (by omega)
               rw [← Lo_all hE] at q0
               obtain ⟨j, j0, j1, e⟩ := q0
               rw [e] at q
               by_cases hj : j = 0
               · rw [hj] at q; exact lx_ir q
               · exact lx_as q (OE_lt hE (by omega) (by omega) j1))
    · rw [Up_one]
      have e5 : r = (r - 1) + 1 := by omega
      have : CH (-1) (fun p => p = (P2 (M 5 ((M 4 4) - 1)) (M 6 ((M 4 4) - 1)) (M 7 ((M 4 4) - 1)))) (r - 1) ((r - 1) + 1) (cn (M1 5) (M1 6) (M1 7) (M1 8)) := CH_one htop
      rw [← e5] at this
      exact this
    · rw [htop, show (M 4 4) - 2 + 1 = (M 4 4) - 1 by omega]
    · rw [show r - 1 + 1 = r by omega]; exact hCH
set_option maxRecDepth 100000 in
set_option maxHeartbeats 4000000 in
theorem l_O_low (E : av_E) (d : Nat) (M : av_M) (S : pt → Prop) (hE : OE (M 29) (M 30) (M 31) (M 28 4) S) (hn : (M 28 4) ≤ 120) (Q : Option av_V → av_M → Prop)
    (hx : ∀ M1 : av_M, ((∀ f, f ≠ 5 → M1 28 f = M 28 f) ∧ (∀ k, k ≠ 28 → k ≠ 32 → M1 k = M k) ∧ ∃ r : Nat, M1 28 5 = r ∧ (r : Int) ≤ (M 28 4) ∧ (∀ j, 0 ≤ j → j < (r : Int) → 0 ≤ M1 32 j ∧ M1 32 j < (M 28 4)) ∧ ((M 28 4) = 0 → r = 0) ∧ (0 < (M 28 4) → CH 1 (Lo (M 29) (M 30) (M 31) ((M 28 4))) 0 r (cn (M1 29) (M1 30) (M1 31) (M1 32)) ∧ (cn (M1 29) (M1 30) (M1 31) (M1 32)) (r - 1) = (P2 (M 29 ((M 28 4) - 1)) (M 30 ((M 28 4) - 1)) (M 31 ((M 28 4) - 1))))) → av_S E (d + 2) mX4_wrap 27 [(0, vR 28), (1, vI (M 28 4))] [] M1 Q) :
    ∀ (t : Nat) (i : Int) (M1 : av_M), i + t = (M 28 4) → 0 ≤ i → ((∀ f, f ≠ 5 → M1 28 f = M 28 f) ∧ (∀ k, k ≠ 28 → k ≠ 32 → M1 k = M k) ∧ ∃ r : Nat, M1 28 5 = r ∧ (r : Int) ≤ i ∧ (∀ j, 0 ≤ j → j < (r : Int) → 0 ≤ M1 32 j ∧ M1 32 j < (M 28 4)) ∧ (i = 0 → r = 0) ∧ (0 < i → CH 1 (Lo (M 29) (M 30) (M 31) (i)) 0 r (cn (M1 29) (M1 30) (M1 31) (M1 32)) ∧ (cn (M1 29) (M1 30) (M1 31) (M1 32)) (r - 1) = (P2 (M 29 (i - 1)) (M 30 (i - 1)) (M 31 (i - 1))))) → av_S E (d + 2) mX4_wrap 7 [(0, vR 28), (1, vI i)] [] M1 Q := by
  intro t
  induction t with
  | zero =>
    intro i M1 hi h0 hinv
    have e : i = (M 28 4) := by omega
    subst e
    have h4 := hinv.1 4 (by decide)
    refine ax_iloadn rfl rfl ?_
    refine ax_aloadn rfl rfl ?_
    refine ax_getI (g := 4) rfl fX4_22 rfl rfl rfl rfl ?_
    refine ax_icmp_ge rfl (by omega) (by omega) (fun h12 => ?_) (fun h12 => ?_)
    · exact hx M1 hinv
    · omega
  | succ t ih =>
    intro i M1 hi h0 hinv
    obtain ⟨hf, hk, r, hr, hri, hR, hz, hc⟩ := hinv
    have h4 := hf 4 (by decide)
    have eX := hk 29 (by decide) (by decide)
    have eY := hk 30 (by decide) (by decide)
    have eW := hk 31 (by decide) (by decide)
    by_cases hi0 : i = 0
    · subst hi0
      have hr0 := hz rfl
      subst hr0
      refine ax_iloadn rfl rfl ?_
      refine ax_aloadn rfl rfl ?_
      refine ax_getI (g := 4) rfl fX4_22 rfl rfl rfl rfl ?_
      refine ax_icmp_ge rfl (by omega) (by omega) (fun h12 => ?_) (fun h12 => ?_)
      · omega
      · refine ax_aloadn rfl rfl ?_
        refine ax_iloadn rfl rfl ?_
        refine ax_iconst rfl ?_
        refine ax_callV (as := [_, _]) rfl vX4_39 hX4_extend rfl rfl rfl rfl rfl (c_O_ext0 E d M1 0 (by omega) (by rw [hr]; rfl)) (fun r18 M18 hr18 => ?_)
        obtain ⟨rfl, g2, g3, g4, g5, g6⟩ := hr18
        refine ax_iinc (ls' := [(0, _), (1, _)]) rfl rfl rfl rfl ?_
        refine ax_goto rfl ?_
        refine ih _ M18 (by omega) (by omega) ⟨fun f hf5 => by rw [g5 f hf5, hf f hf5], fun k k0 k1 => by rw [g6 k k0 k1, hk k k0 k1], 1, by rw [g2]; rfl, by omega, fun j j0 j1 => by rw [show j = 0 by omega, g3]; omega, fun h => by omega, fun _ => ?_⟩
        have gX := (g6 29 (by decide) (by decide)).trans eX
        have gY := (g6 30 (by decide) (by decide)).trans eY
        have gW := (g6 31 (by decide) (by decide)).trans eW
        have ec : (cn (M18 29) (M18 30) (M18 31) (M18 32)) 0 = (P2 (M 29 (0)) (M 30 (0)) (M 31 (0))) := by unfold cn; rw [show ((0 : Nat) : Int) = 0 by rfl, g3, gX, gY, gW]
        refine ⟨?_, ec⟩
        rw [show (0 : Int) + 1 = 1 by rfl, Lo_one]
        exact CH_one ec
    · obtain ⟨hCH, htop⟩ := hc (by omega)
      have eC : (cn (M1 29) (M1 30) (M1 31) (M1 32)) = cn (M 29) (M 30) (M 31) (M1 32) := by rw [eX, eY, eW]
      have hlow : ∀ s, Lo (M 29) (M 30) (M 31) i s → lq 1 s (P2 (M 29 (i)) (M 30 (i)) (M 31 (i))) := by
        rintro s ⟨j, j0, j1, rfl⟩
        exact lq_1.mpr (OE_lt hE j0 j1 (by omega))
      refine ax_iloadn rfl rfl ?_
      refine ax_aloadn rfl rfl ?_
      refine ax_getI (g := 4) rfl fX4_22 rfl rfl rfl rfl ?_
      refine ax_icmp_ge rfl (by omega) (by omega) (fun h12 => ?_) (fun h12 => ?_)
      · omega
      · refine ax_aloadn rfl rfl ?_
        refine ax_iloadn rfl rfl ?_
        refine ax_iconst rfl ?_
        refine ax_callV (as := [_, _]) rfl vX4_39 hX4_extend rfl rfl rfl rfl rfl (c_O_ext E d M1 1 (Or.inl rfl) (Lo (M 29) (M 30) (M 31) i) 0 r i (M 28 4) hn ⟨h0, by omega⟩ (fun r' a b _ => by omega) (by omega) (by rw [eX, eY, eW]; exact hE.2.1) (by rw [eX, eY, eW]; exact hlow) hR hr hCH (Or.inl (by
        rintro s ⟨j, j0, j1, rfl⟩
        rw [htop]
        by_cases hj : j = i - 1
        · rw [hj]; exact Or.inl rfl
        · exact Or.inr (lq_1.mpr (OE_lt hE j0 (by omega) (by omega)))))) (fun r18 M18 hr18 => ?_)
        obtain ⟨rfl, r', g1, g2, g3, g4, g5, g6, g7, g8, g9⟩ := hr18
        refine ax_iinc (ls' := [(0, _), (1, _)]) rfl rfl rfl rfl ?_
        refine ax_goto rfl ?_
        refine ih _ M18 (by omega) (by omega) ⟨fun f hf5 => by rw [g6 f hf5, hf f hf5], fun k k0 k1 => by rw [g7 k k0 k1, hk k k0 k1], r' + 1, by rw [g3]; rfl, by omega, fun j j0 j1 => ?_, fun h => by omega, fun _ => ?_⟩
        · by_cases hj : j = r'
          · rw [hj, g4]; omega
          · rw [g5 j hj]; exact hR j j0 (by omega)
        · have gX := (g7 29 (by decide) (by decide)).trans eX
          have gY := (g7 30 (by decide) (by decide)).trans eY
          have gW := (g7 31 (by decide) (by decide)).trans eW
          refine ⟨?_, ?_⟩
          · rw [eX, eY, eW, Lo_succ h0] at g8
            exact g8
          · unfold cn
            rw [show ((r' + 1 - 1 : Nat) : Int) = r' by omega, g4, gX, gY, gW, show i + 1 - 1 = i by omega]
set_option maxRecDepth 100000 in
set_option maxHeartbeats 4000000 in
theorem l_O_up (E : av_E) (d : Nat) (M : av_M) (S : pt → Prop) (hE : OE (M 29) (M 30) (M 31) (M 28 4) S) (hn : (M 28 4) ≤ 120) (k : Nat) (Q : Option av_V → av_M → Prop)
    (hx : ∀ M1 : av_M, ((∀ f, f ≠ 5 → M1 28 f = M 28 f) ∧ (∀ k, k ≠ 28 → k ≠ 32 → M1 k = M k) ∧ ∃ r : Nat, M1 28 5 = r ∧ (∀ j, 0 ≤ j → j < (r : Int) → 0 ≤ M1 32 j ∧ M1 32 j < (M 28 4)) ∧ CH (-1) (Up (M 29) (M 30) (M 31) (-1) (M 28 4)) k r (cn (M1 29) (M1 30) (M1 31) (M1 32)) ∧ (cn (M1 29) (M1 30) (M1 31) (M1 32)) (r - 1) = (P2 (M 29 (-1 + 1)) (M 30 (-1 + 1)) (M 31 (-1 + 1))) ∧ CH 1 S 0 (k + 1) (cn (M1 29) (M1 30) (M1 31) (M1 32)) ∧ (r : Int) ≤ (M 28 4) + 1) → av_S E (d + 2) mX4_wrap 57 [(0, vR 28), (1, vI (k + 2)), (2, vI (-1))] [] M1 Q) :
    ∀ (t : Nat) (i : Int) (M1 : av_M), i + 1 = t → i + 1 < (M 28 4) → ((∀ f, f ≠ 5 → M1 28 f = M 28 f) ∧ (∀ k, k ≠ 28 → k ≠ 32 → M1 k = M k) ∧ ∃ r : Nat, M1 28 5 = r ∧ (∀ j, 0 ≤ j → j < (r : Int) → 0 ≤ M1 32 j ∧ M1 32 j < (M 28 4)) ∧ CH (-1) (Up (M 29) (M 30) (M 31) (i) (M 28 4)) k r (cn (M1 29) (M1 30) (M1 31) (M1 32)) ∧ (cn (M1 29) (M1 30) (M1 31) (M1 32)) (r - 1) = (P2 (M 29 (i + 1)) (M 30 (i + 1)) (M 31 (i + 1))) ∧ CH 1 S 0 (k + 1) (cn (M1 29) (M1 30) (M1 31) (M1 32)) ∧ (r : Int) ≤ (M 28 4) + 1) → av_S E (d + 2) mX4_wrap 41 [(0, vR 28), (1, vI (k + 2)), (2, vI i)] [] M1 Q := by
  intro t
  induction t with
  | zero =>
    intro i M1 hi h0 hinv
    have e : i = -1 := by omega
    subst e
    refine ax_iloadn rfl rfl ?_
    refine ax_if_lt rfl (by omega) (fun h42 => ?_) (fun h42 => ?_)
    · exact hx M1 hinv
    · omega
  | succ t ih =>
    intro i M1 hi h0 hinv
    obtain ⟨hf, hk, r, hr, hR, hCH, htop, hlow, hrn⟩ := hinv
    have eX := hk 29 (by decide) (by decide)
    have eY := hk 30 (by decide) (by decide)
    have eW := hk 31 (by decide) (by decide)
    have hkr := hCH.1
    have hup : ∀ s, Up (M 29) (M 30) (M 31) i (M 28 4) s → lq (-1) s (P2 (M 29 (i)) (M 30 (i)) (M 31 (i))) := by
      rintro s ⟨j, j0, j1, rfl⟩
      exact lq_m.mpr (OE_lt hE (by omega) j0 j1)
    have hcap : ∀ r' : Nat, k < r' → r' ≤ r → (k + 1 = r' ∨ 0 < cr ((cn (M1 29) (M1 30) (M1 31) (M1 32)) (r' - 2)) ((cn (M1 29) (M1 30) (M1 31) (M1 32)) (r' - 1)) (P2 (M 29 (i)) (M 30 (i)) (M 31 (i)))) → (r' : Int) ≤ (M 28 4) := by
      intro r' a b c
      have := up_cap (n := (M 28 4).toNat) (R := fun j => (M1 32 j).toNat) hlow hCH (fun q hq => by
        obtain ⟨j, j0, j1, rfl⟩ := hq
        exact OE_in hE (by omega) j1) a b c (OE_in hE (by omega) (by omega)) hup (fun j hj => by have := hR j (by omega) (by omega); omega) (fun j l hj hl e => by
        have q1 := hR j (by omega) (by omega)
        have q2 := hR l (by omega) (by omega)
        have e' : M1 32 j = M1 32 l := by
          have e0 : (M1 32 j).toNat = (M1 32 l).toNat := e
          omega
        unfold cn; rw [e'])
      have := hE.1
      omega
    refine ax_iloadn rfl rfl ?_
    refine ax_if_lt rfl (by omega) (fun h42 => ?_) (fun h42 => ?_)
    · omega
    · refine ax_aloadn rfl rfl ?_
      refine ax_iloadn rfl rfl ?_
      refine ax_iloadn rfl rfl ?_
      refine ax_callV (as := [_, _]) rfl vX4_39 hX4_extend rfl rfl rfl rfl rfl (c_O_ext E d M1 (-1) (Or.inr rfl) (Up (M 29) (M 30) (M 31) i (M 28 4)) k r i (M 28 4) hn ⟨by omega, by omega⟩ (fun r' a b c => by rw [eX, eY, eW] at c; have := hcap r' a b (by rw [eX, eY, eW]; exact c); omega) (by omega) (by rw [eX, eY, eW]; exact hE.2.1) (by rw [eX, eY, eW]; exact hup) hR hr hCH (Or.inl (by
      rintro s ⟨j, j0, j1, rfl⟩
      rw [htop]
      by_cases hj : j = i + 1
      · rw [hj]; exact Or.inl rfl
      · exact Or.inr (lq_m.mpr (OE_lt hE (by omega) (by omega) (by omega)))))) (fun r48 M48 hr48 => ?_)
      obtain ⟨rfl, r', g1, g2, g3, g4, g5, g6, g7, g8, g9⟩ := hr48
      refine ax_iinc (ls' := [(0, _), (1, _), (2, _)]) rfl rfl rfl rfl ?_
      refine ax_goto rfl ?_
      refine ih _ M48 (by omega) (by omega) ⟨fun f hf5 => by rw [g6 f hf5, hf f hf5], fun l k0 k1 => by rw [g7 l k0 k1, hk l k0 k1], r' + 1, by rw [g3]; rfl, fun j j0 j1 => ?_, ?_, ?_, ?_, ?_⟩
      · by_cases hj : j = r'
        · rw [hj, g4]; omega
        · rw [g5 j hj]; exact hR j j0 (by omega)
      · rw [eX, eY, eW, Up_succ (by omega)] at g8
        exact g8
      · unfold cn
        rw [show ((r' + 1 - 1 : Nat) : Int) = r' by omega, g4, g7 29 (by decide) (by decide), g7 30 (by decide) (by decide), g7 31 (by decide) (by decide), eX, eY, eW, show i + -1 + 1 = i by omega]
      · refine CH_congr hlow (fun j hj => ?_)
        unfold cn
        rw [g5 j (by omega), g7 29 (by decide) (by decide), g7 30 (by decide) (by decide), g7 31 (by decide) (by decide)]
      · by_cases hrr : r' = r
        · have hc2 : (k + 1 = r' ∨ 0 < cr ((cn (M1 29) (M1 30) (M1 31) (M1 32)) (r' - 2)) ((cn (M1 29) (M1 30) (M1 31) (M1 32)) (r' - 1)) (P2 (M 29 (i)) (M 30 (i)) (M 31 (i)))) := by
            by_cases hk1 : k + 1 = r'
            · exact Or.inl hk1
            · right
              have q := g8.2.2.2.2 (r' - 2) (by omega) (by omega)
              rw [show r' - 2 + 1 = r' - 1 by omega, show r' - 2 + 2 = r' by omega] at q
              have w1 : (cn (M48 29) (M48 30) (M48 31) (M48 32)) (r' - 2) = (cn (M1 29) (M1 30) (M1 31) (M1 32)) (r' - 2) := by unfold cn; rw [g5 _ (by omega), g7 29 (by decide) (by decide), g7 30 (by decide) (by decide), g7 31 (by decide) (by decide)]
              have w2 : (cn (M48 29) (M48 30) (M48 31) (M48 32)) (r' - 1) = (cn (M1 29) (M1 30) (M1 31) (M1 32)) (r' - 1) := by unfold cn; rw [g5 _ (by omega), g7 29 (by decide) (by decide), g7 30 (by decide) (by decide), g7 31 (by decide) (by decide)]
              have w3 : (cn (M48 29) (M48 30) (M48 31) (M48 32)) r' = (P2 (M 29 (i)) (M 30 (i)) (M 31 (i))) := by unfold cn; rw [g4, g7 29 (by decide) (by decide), g7 30 (by decide) (by decide), g7 31 (by decide) (by decide), eX, eY, eW]
              rw [w1, w2, w3] at q
              exact q
          have := hcap r' g1 g2 hc2
          omega
        · omega
set_option maxRecDepth 100000 in
set_option maxHeartbeats 4000000 in
theorem c_O_wrap (E : av_E) (d : Nat) (M : av_M) (S : pt → Prop) (hE : OE (M 29) (M 30) (M 31) (M 28 4) S) (hn : (M 28 4) ≤ 120) : av_Mt E (d + 2) mX4_wrap [vR 28] M (fun res M' => res = none ∧ OO (M' 29) (M' 30) (M' 31) (M' 32) (M' 28 4) (M' 28 5) S ∧ M' 29 = M 29 ∧ M' 30 = M 30 ∧ M' 31 = M 31 ∧ (∀ f, f ≠ 5 → M' 28 f = M 28 f) ∧ (∀ k, k ≠ 28 → k ≠ 32 → M' k = M k)) := by
  have hn0 := hE.1
  refine av_enter hX4_wrap oX4_wrap rfl rfl ?_
  refine ax_aloadn rfl rfl ?_
  refine ax_iconst rfl ?_
  refine ax_putI' (g := 5) rfl gX4_36 rfl rfl rfl rfl (fun M2 a2 b2 c2 => ?_)
  refine ax_iconst rfl ?_
  refine ax_istoren (ls' := [(0, _), (1, _)]) rfl rfl rfl ?_
  have w4 : M2 28 4 = M 28 4 := b2 4 (by decide)
  refine l_O_low E d M S hE hn _ (fun M1 hinv => ?_) (M 28 4).toNat 0 M2 (by omega) (by omega) ⟨b2, fun k k0 k1 => c2 k k0, 0, by rw [a2]; rfl, by omega, fun j j0 j1 => by omega, fun _ => rfl, fun h => by omega⟩
  obtain ⟨hf, hk, r, hr, hri, hR, hz, hc⟩ := hinv
  have h4 := hf 4 (by decide)
  have eX := hk 29 (by decide) (by decide)
  have eY := hk 30 (by decide) (by decide)
  have eW := hk 31 (by decide) (by decide)
  by_cases hlt : (M 28 4) ≤ 1
  · refine ax_aloadn rfl rfl ?_
    refine ax_getI (g := 5) rfl fX4_36 rfl rfl rfl rfl ?_
    refine ax_iconst rfl ?_
    refine ax_iadd rfl ?_
    refine ax_istoren (ls' := [(0, _), (1, _)]) rfl rfl rfl ?_
    refine ax_aloadn rfl rfl ?_
    refine ax_getI (g := 4) rfl fX4_22 rfl rfl rfl rfl ?_
    refine ax_iconst rfl ?_
    refine ax_isub rfl ?_
    refine ax_istoren (ls' := [(0, _), (1, _), (2, _)]) rfl rfl rfl ?_
    refine ax_iloadn rfl rfl ?_
    refine ax_if_lt rfl (by omega) (fun h42 => ?_) (fun h42 => ?_)
    · refine ax_aloadn rfl rfl ?_
      refine ax_getI (g := 4) rfl fX4_22 rfl rfl rfl rfl ?_
      refine ax_iconst rfl ?_
      refine ax_icmp_le rfl (by omega) (by omega) (fun h62 => ?_) (fun h62 => ?_)
      · refine ax_vret rfl rfl ?_
        first
          | omega
          | (refine ⟨rfl, ?_, eX, eY, eW, hf, hk⟩
             rw [eX, eY, eW, h4, hr]
             refine ⟨hE, by omega, fun h => by have := hz h; omega, hR, fun h => ?_⟩
             have e1 : (M 28 4) = 1 := by omega
             obtain ⟨hCH, htop⟩ := hc h
             have hb := hCH.1
             have er : r = 1 := by omega
             subst er
             have hl := Lo_all hE
             rw [e1] at hCH
             rw [e1] at hl
             rw [hl, eX, eY, eW] at hCH
             have q := hCH.2.1 0 (by omega) (by omega)
             refine Hull_one q (fun p hp => ?_)
             rw [← hl, Lo_one] at hp
             rw [← hl, Lo_one] at q
             exact hp.trans q.symm)
      · refine ax_aloadn rfl rfl ?_
        refine ax_dup rfl rfl ?_
        refine ax_getI (g := 5) rfl fX4_36 rfl rfl rfl rfl ?_
        refine ax_iconst rfl ?_
        refine ax_isub rfl ?_
        refine ax_putI' (g := 5) rfl gX4_36 rfl rfl rfl rfl (fun M72 a72 b72 c72 => ?_)
        refine ax_vret rfl rfl ?_
        first
          | omega
          | (refine ⟨rfl, ?_, eX, eY, eW, hf, hk⟩
             rw [eX, eY, eW, h4, hr]
             refine ⟨hE, by omega, fun h => by have := hz h; omega, hR, fun h => ?_⟩
             have e1 : (M 28 4) = 1 := by omega
             obtain ⟨hCH, htop⟩ := hc h
             have hb := hCH.1
             have er : r = 1 := by omega
             subst er
             have hl := Lo_all hE
             rw [e1] at hCH
             rw [e1] at hl
             rw [hl, eX, eY, eW] at hCH
             have q := hCH.2.1 0 (by omega) (by omega)
             refine Hull_one q (fun p hp => ?_)
             rw [← hl, Lo_one] at hp
             rw [← hl, Lo_one] at q
             exact hp.trans q.symm)
    · omega
  · obtain ⟨hCH, htop⟩ := hc (by omega)
    rw [Lo_all hE] at hCH
    have hb := hCH.1
    have el : (r : Int) + 1 = ((r - 1 : Nat) : Int) + 2 := by omega
    have hk0 : 0 < r - 1 := by
      apply Classical.byContradiction
      intro hno
      have er : r = 1 := by omega
      subst er
      have q := hCH.2.2.1 (P2 (M 29 (0)) (M 30 (0)) (M 31 (0))) (OE_in hE (by omega) (by omega))
      have w : (cn (M1 29) (M1 30) (M1 31) (M1 32)) 0 = (P2 (M 29 ((M 28 4) - 1)) (M 30 ((M 28 4) - 1)) (M 31 ((M 28 4) - 1))) := htop
      rw [w] at q
      have l := OE_lt hE (i := 0) (j := (M 28 4) - 1) (by omega) (by omega) (by omega)
      rcases q with q | q
      · rw [← q] at l; exact lx_ir l
      · exact lx_as l (lq_1.mp q)
    refine ax_aloadn rfl rfl ?_
    refine ax_getI (g := 5) rfl fX4_36 rfl rfl rfl rfl ?_
    refine ax_iconst rfl ?_
    refine ax_iadd rfl ?_
    refine ax_istoren (ls' := [(0, _), (1, _)]) rfl rfl rfl ?_
    refine ax_aloadn rfl rfl ?_
    refine ax_getI (g := 4) rfl fX4_22 rfl rfl rfl rfl ?_
    refine ax_iconst rfl ?_
    refine ax_isub rfl ?_
    refine ax_istoren (ls' := [(0, _), (1, _), (2, _)]) rfl rfl rfl ?_
    rw [hr, h4, el]
    refine l_O_up E d M S hE hn (r - 1) _ (fun M3 hinv => ?_) ((M 28 4) - 1).toNat _ M1 (by omega) (by omega) ⟨hf, hk, r, hr, hR, ?_, ?_, ?_, by omega⟩
    · obtain ⟨hf3, hk3, r3, hr3, hR3, hu, ht3, hl3, hn3⟩ := hinv
      have h43 := hf3 4 (by decide)
      have fX := hk3 29 (by decide) (by decide)
      have fY := hk3 30 (by decide) (by decide)
      have fW := hk3 31 (by decide) (by decide)
      rw [Up_all hE] at hu
      have hb3 := hu.1
      refine ax_aloadn rfl rfl ?_
      refine ax_getI (g := 4) rfl fX4_22 rfl rfl rfl rfl ?_
      refine ax_iconst rfl ?_
      refine ax_icmp_le rfl (by omega) (by omega) (fun h62 => ?_) (fun h62 => ?_)
      · refine ax_vret rfl rfl ?_
        first
          | omega
          | (have kX := (c72 29 (by decide)).trans fX
             have kY := (c72 30 (by decide)).trans fY
             have kW := (c72 31 (by decide)).trans fW
             have kR := c72 32 (by decide)
             refine ⟨rfl, ?_, kX, kY, kW, fun f hf5 => by rw [b72 f hf5, hf3 f hf5], fun l l0 l1 => by rw [c72 l l0, hk3 l l0 l1]⟩
             rw [kX, kY, kW, kR, a72, b72 4 (by decide), h43, hr3]
             refine ⟨hE, by omega, fun h => by omega, fun j j0 j1 => hR3 j j0 (by omega), fun _ => ?_⟩
             rw [fX, fY, fW] at hu hl3 ht3
             rw [show ((r3 : Int) - 1).toNat = r3 - 1 by omega]
             refine Hull_of (k := r - 1) hl3 (by rw [show r3 - 1 + 1 = r3 by omega]; exact hu) ?_ hk0
             rw [ht3]
             rcases hl3.2.2.1 (P2 (M 29 (-1 + 1)) (M 30 (-1 + 1)) (M 31 (-1 + 1))) (OE_in hE (by omega) (by omega)) with q | q
             · exact q
             · exfalso
               rw [lq_1] at q
               have q0 := hl3.2.1 0 (by omega) (by omega)
               rw [← Lo_all hE] at q0
               obtain ⟨j, j0, j1, e⟩ := q0
               rw [e] at q
               by_cases hj : j = 0
               · rw [hj] at q; exact lx_ir q
               · exact lx_as q (OE_lt hE (by omega) (by omega) j1))
      · refine ax_aloadn rfl rfl ?_
        refine ax_dup rfl rfl ?_
        refine ax_getI (g := 5) rfl fX4_36 rfl rfl rfl rfl ?_
        refine ax_iconst rfl ?_
        refine ax_isub rfl ?_
        refine ax_putI' (g := 5) rfl gX4_36 rfl rfl rfl rfl (fun M72 a72 b72 c72 => ?_)
        refine ax_vret rfl rfl ?_
        first
          | omega
          | (have kX := (c72 29 (by decide)).trans fX
             have kY := (c72 30 (by decide)).trans fY
             have kW := (c72 31 (by decide)).trans fW
             have kR := c72 32 (by decide)
             refine ⟨rfl, ?_, kX, kY, kW, fun f hf5 => by rw [b72 f hf5, hf3 f hf5], fun l l0 l1 => by rw [c72 l l0, hk3 l l0 l1]⟩
             rw [kX, kY, kW, kR, a72, b72 4 (by decide), h43, hr3]
             refine ⟨hE, by omega, fun h => by omega, fun j j0 j1 => hR3 j j0 (by omega), fun _ => ?_⟩
             rw [fX, fY, fW] at hu hl3 ht3
             rw [show ((r3 : Int) - 1).toNat = r3 - 1 by omega]
             refine Hull_of (k := r - 1) hl3 (by rw [show r3 - 1 + 1 = r3 by omega]; exact hu) ?_ hk0
             rw [ht3]
             rcases hl3.2.2.1 (P2 (M 29 (-1 + 1)) (M 30 (-1 + 1)) (M 31 (-1 + 1))) (OE_in hE (by omega) (by omega)) with q | q
             · exact q
             · exfalso
               rw [lq_1] at q
               have q0 := hl3.2.1 0 (by omega) (by omega)
               rw [← Lo_all hE] at q0
               obtain ⟨j, j0, j1, e⟩ := q0
               rw [e] at q
               by_cases hj : j = 0
               · rw [hj] at q; exact lx_ir q
               · exact lx_as q (OE_lt hE (by omega) (by omega) j1))
    · rw [Up_one]
      have e5 : r = (r - 1) + 1 := by omega
      have : CH (-1) (fun p => p = (P2 (M 29 ((M 28 4) - 1)) (M 30 ((M 28 4) - 1)) (M 31 ((M 28 4) - 1)))) (r - 1) ((r - 1) + 1) (cn (M1 29) (M1 30) (M1 31) (M1 32)) := CH_one htop
      rw [← e5] at this
      exact this
    · rw [htop, show (M 28 4) - 2 + 1 = (M 28 4) - 1 by omega]
    · rw [show r - 1 + 1 = r by omega]; exact hCH
