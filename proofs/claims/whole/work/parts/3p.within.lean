/-! ===== within an outline: pure ===== -/
def InO (h : Nat) (c : Nat → pt) (p : pt) : Prop := (h = 1 ∧ p = c 0) ∨ (h = 2 ∧ cr (c 0) (c 1) p = 0 ∧ (p = c 0 ∨ p = c 1 ∨ btw (c 0) p (c 1))) ∨ (3 ≤ h ∧ Inn h c p)
theorem InO_0 {h : Nat} {c : Nat → pt} {p : pt} (e : h = 0) : ¬ InO h c p := by
  rintro (⟨q, _⟩ | ⟨q, _⟩ | ⟨q, _⟩) <;> omega
theorem InO_1 {h : Nat} {c : Nat → pt} {p : pt} (e : h = 1) : InO h c p ↔ p = c 0 := by
  constructor
  · rintro (⟨q, r⟩ | ⟨q, _⟩ | ⟨q, _⟩)
    · exact r
    · omega
    · omega
  · intro r; exact Or.inl ⟨e, r⟩
theorem InO_2 {h : Nat} {c : Nat → pt} {p : pt} (e : h = 2) : InO h c p ↔ cr (c 0) (c 1) p = 0 ∧ (p = c 0 ∨ p = c 1 ∨ btw (c 0) p (c 1)) := by
  constructor
  · rintro (⟨q, r⟩ | ⟨q, r⟩ | ⟨q, _⟩)
    · omega
    · exact r
    · omega
  · intro r; exact Or.inr (Or.inl ⟨e, r⟩)
theorem InO_3 {h : Nat} {c : Nat → pt} {p : pt} (e : 3 ≤ h) : InO h c p ↔ Inn h c p := by
  constructor
  · rintro (⟨q, r⟩ | ⟨q, r⟩ | ⟨q, r⟩)
    · omega
    · omega
    · exact r
  · intro r; exact Or.inr (Or.inr ⟨e, r⟩)
theorem InO_congr {h : Nat} {c c' : Nat → pt} (e : ∀ i, i < h → c i = c' i) (p : pt) : InO h c p ↔ InO h c' p := by
  have key : Inn h c p ↔ Inn h c' p := by
    constructor
    · intro H i hi; rw [← e i hi, ← e _ (nxt_lt (by omega))]; exact H i hi
    · intro H i hi; rw [e i hi, e _ (nxt_lt (by omega))]; exact H i hi
  rcases Nat.lt_or_ge h 3 with q | q
  · rcases (show h = 0 ∨ h = 1 ∨ h = 2 by omega) with r | r | r
    · exact ⟨fun z => absurd z (InO_0 r), fun z => absurd z (InO_0 r)⟩
    · rw [InO_1 r, InO_1 r, e 0 (by omega)]
    · rw [InO_2 r, InO_2 r, e 0 (by omega), e 1 (by omega)]
  · rw [InO_3 q, InO_3 q, key]
theorem OE_fst {X Y W : Int → Int} {n : Int} {S : pt → Prop} (h : OE X Y W n S) (hn : 0 < n) {q : pt} (hq : S q) : ¬ lx q (P2 (X 0) (Y 0) (W 0)) ∧ ¬ lx (P2 (X (n - 1)) (Y (n - 1)) (W (n - 1))) q := by
  obtain ⟨i, hi, e⟩ := (h.2.2.2 q).mp hq
  have e' : q = P2 (X (i : Int)) (Y (i : Int)) (W (i : Int)) := e
  constructor
  · intro hl
    by_cases z : (i : Int) = 0
    · rw [e', z] at hl; exact lx_ir hl
    · have := OE_lt h (i := 0) (j := (i : Int)) (by omega) (by omega) (by omega)
      rw [e'] at hl
      exact lx_as hl this
  · intro hl
    by_cases z : (i : Int) = n - 1
    · rw [e', z] at hl; exact lx_ir hl
    · have := OE_lt h (i := (i : Int)) (j := n - 1) (by omega) (by omega) (by omega)
      rw [e'] at hl
      exact lx_as hl this
theorem Hull_c1 {S : pt → Prop} {c : Nat → pt} (H : Hull S 2 c) : lx (c 0) (c 1) ∧ ∀ q, S q → cr (c 0) (c 1) q = 0 ∧ bt (c 0) (c 1) q := by
  have h5 := H.2.2.2.2.2 (by omega)
  have e0 := h5 0 (by omega)
  have e1 := h5 1 (by omega)
  have n0 : nxt 2 0 = 1 := by decide
  have n1 : nxt 2 1 = 0 := by decide
  rw [n0] at e0
  rw [n1] at e1
  refine ⟨?_, fun q hq => ?_⟩
  · rcases H.2.2.1 _ (H.2.1 1 (by omega)) with z | z
    · exact absurd z (H.2.2.2.1 1 (by omega) (by omega))
    · exact z
  · have a := e0.2 q hq
    have b := e1.2 q hq
    have r := cr_rot (c 0) (c 1) q
    have s := cr_rot (c 1) q (c 0)
    have t := cr_sw q (c 0) (c 1)
    have u := cr_rot (c 1) (c 0) q
    have v := cr_rot (c 0) q (c 1)
    have w := cr_sw (c 0) q (c 1)
    have x := cr_sw (c 0) (c 1) q
    have z : cr (c 0) (c 1) q = 0 := by grind
    exact ⟨z, a.2 z⟩
theorem InO_HdM {X Y W R : Int → Int} {n h : Int} {S : pt → Prop} (hO : OO X Y W R n h S) (p : pt) : HdM X Y W R n h p ↔ InO h.toNat (cn X Y W R) p := by
  obtain ⟨hE, h0, hz, hR, hH⟩ := hO
  by_cases hn : 0 < n
  · have H := hH hn
    have hp := H.1
    have Sf := OE_in hE (j := 0) (by omega) hn
    have Sl := OE_in hE (j := n - 1) (by omega) (by omega)
    have ef : P2 (X 0) (Y 0) (W 0) = cn X Y W R 0 := Hull_lo H Sf (fun q hq => (OE_fst hE hn hq).1)
    have hlast : ∀ q, S q → ¬ lx (P2 (X (n - 1)) (Y (n - 1)) (W (n - 1))) q := fun q hq => (OE_fst hE hn hq).2
    unfold HdM
    rw [ef]
    rcases (show h.toNat = 1 ∨ h.toNat = 2 ∨ 3 ≤ h.toNat by omega) with r | r | r
    · rw [InO_1 r]
      rw [r] at H ⊢
      have el : P2 (X (n - 1)) (Y (n - 1)) (W (n - 1)) = cn X Y W R 0 := H.2.2.2.2.1 rfl _ Sl
      rw [el]
      constructor
      · rintro ⟨_, a, b, _⟩
        rcases lx_tri p (cn X Y W R 0) with z | z | z
        · exact absurd z a
        · exact z
        · exact absurd z b
      · rintro rfl
        refine ⟨hn, lx_ir, lx_ir, fun i hi => ?_⟩
        have : i = 0 := by omega
        subst this
        have e : nxt 1 0 = 0 := by decide
        rw [e, cr_aa]
        exact Rat.le_refl
    · rw [InO_2 r]
      rw [r] at H ⊢
      obtain ⟨hl, hs⟩ := Hull_c1 H
      have S1 := H.2.1 1 (by omega)
      have el : P2 (X (n - 1)) (Y (n - 1)) (W (n - 1)) = cn X Y W R 1 := by
        rcases (hs _ Sl).2 with z | z | z | z
        · exact absurd (by rw [z]; exact hl) (hlast _ S1)
        · exact z
        · exact absurd z.2 (hlast _ S1)
        · exact (lx_as hl (lx_tr z.1 z.2)).elim
      rw [el]
      have n0 : nxt 2 0 = 1 := by decide
      have n1 : nxt 2 1 = 0 := by decide
      have sw : cr (cn X Y W R 1) (cn X Y W R 0) p = - cr (cn X Y W R 0) (cn X Y W R 1) p := by unfold cr xp sb; grind
      constructor
      · rintro ⟨_, a, b, I⟩
        have i0 := I 0 (by omega)
        have i1 := I 1 (by omega)
        rw [n0] at i0
        rw [n1, sw] at i1
        refine ⟨by grind, ?_⟩
        rcases lx_tri p (cn X Y W R 0) with z | z | z
        · exact absurd z a
        · exact Or.inl z
        · rcases lx_tri p (cn X Y W R 1) with y | y | y
          · exact Or.inr (Or.inr (Or.inl ⟨z, y⟩))
          · exact Or.inr (Or.inl y)
          · exact absurd y b
      · rintro ⟨z, q⟩
        refine ⟨hn, ?_, ?_, fun i hi => ?_⟩
        · intro k
          rcases q with q | q | q | q
          · rw [q] at k; exact lx_ir k
          · rw [q] at k; exact lx_as hl k
          · exact lx_as q.1 k
          · exact lx_as hl (lx_tr q.1 q.2)
        · intro k
          rcases q with q | q | q | q
          · rw [q] at k; exact lx_as hl k
          · rw [q] at k; exact lx_ir k
          · exact lx_as q.2 k
          · exact lx_as hl (lx_tr q.1 q.2)
        · rcases (show i = 0 ∨ i = 1 by omega) with e | e
          · subst e; rw [n0, z]; exact Rat.le_refl
          · subst e; rw [n1, sw, z]; grind
    · rw [InO_3 r]
      constructor
      · rintro ⟨_, _, _, I⟩; exact I
      · intro I
        refine ⟨hn, ?_, ?_, I⟩
        · rcases Inn_min H r I with z | z
          · rw [z]; exact lx_ir
          · exact fun k => lx_as z k
        · obtain ⟨k, hk, hm⟩ := Inn_max H r
          have hkS := hlast _ (H.2.1 k hk)
          rcases hm p I with z | z
          · rw [z]; exact hkS
          · intro y; exact hkS (lx_tr y z)
  · have e : h = 0 := hz (by have := hE.1; omega)
    constructor
    · rintro ⟨q, _⟩; exact absurd q hn
    · intro q; exact absurd q (InO_0 (by omega))
theorem cntP_congr {P Q : Nat → Prop} : ∀ n : Nat, (∀ i, i < n → (P i ↔ Q i)) → cntP P n = cntP Q n := by
  intro n
  induction n with
  | zero => intro _; rfl
  | succ n ih =>
    intro h
    show cntP P n + b01 (P n) = cntP Q n + b01 (Q n)
    rw [ih (fun i hi => h i (by omega)), b01_iff (h n (by omega))]
theorem cntP_0 {P : Nat → Prop} : ∀ n : Nat, cntP P n = 0 ↔ ∀ i, i < n → ¬ P i := by
  intro n
  induction n with
  | zero => exact ⟨fun _ i hi => by omega, fun _ => rfl⟩
  | succ n ih =>
    have r := cntP_rng P n
    have b := b01_rng (P n)
    constructor
    · intro h
      have h' : cntP P n + b01 (P n) = 0 := h
      intro i hi
      by_cases z : i = n
      · rw [z]; exact b01_eq (by omega)
      · exact ih.mp (by omega) i (by omega)
    · intro h
      show cntP P n + b01 (P n) = 0
      rw [ih.mpr (fun i hi => h i (by omega)), b01_f (h n (by omega))]
      rfl
def SN (h : Nat) (c : Nat → pt) (h' : Nat) (c' : Nat → pt) : Prop := 3 ≤ h ∧ h = h' ∧ ∀ k, k < h → c k = c' k
theorem SN_iff {S S' : pt → Prop} {h h' : Nat} {c c' : Nat → pt} (H : Hull S h c) (H' : Hull S' h' c') (h3 : 3 ≤ h) : SN h c h' c' ↔ (∀ j, j < h' → InO h c (c' j)) ∧ ∀ i, i < h → InO h' c' (c i) := by
  constructor
  · rintro ⟨_, e, ec⟩
    subst e
    refine ⟨fun j hj => ?_, fun i hi => ?_⟩
    · rw [InO_3 h3, ← ec j hj]; exact Hull_inn H (H.2.1 j hj)
    · rw [InO_3 h3, ec i hi]; exact Hull_inn H' (H'.2.1 i hi)
  · rintro ⟨i1, i2⟩
    have hp := H'.1
    rcases (show h' = 1 ∨ h' = 2 ∨ 3 ≤ h' by omega) with r | r | r
    · have a := (InO_1 r).mp (i2 0 (by omega))
      have b := (InO_1 r).mp (i2 1 (by omega))
      exact absurd (b.trans a.symm) (H.2.2.2.1 1 (by omega) (by omega))
    · exfalso
      have hne : c' 0 ≠ c' 1 := fun q => H'.2.2.2.1 1 (by omega) (by omega) q.symm
      exact flat_no H h3 hne (fun i hi => ((InO_2 r).mp (i2 i hi)).1)
    · obtain ⟨e, ec⟩ := Hull_mut H h3 H' r (fun j hj => (InO_3 h3).mp (i1 j hj)) (fun i hi => (InO_3 r).mp (i2 i hi))
      exact ⟨h3, e, ec⟩
theorem nxI_nxt {h k : Int} (h0 : 0 ≤ k) (h1 : k < h) : (nxI h k).toNat = nxt h.toNat k.toNat := by
  unfold nxI nxt
  by_cases q : k + 1 < h
  · rw [if_pos q, if_pos (by omega)]; omega
  · rw [if_neg q, if_neg (by omega)]; rfl
