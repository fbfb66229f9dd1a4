/-! ===== from the lists of whole numbers to the body of a set of walls ===== -/
def WL (A B C D : Int → Int) : wl := fun i => (((A (i : Int) : Rat), (B (i : Int) : Rat), (C (i : Int) : Rat)), (D (i : Int) : Rat))
def Sg (set : Int) : Nat → Prop := fun i => set.toNat.testBit i = true
def P3 (x y z w : Int) : p3 := ((x : Rat) / (w : Rat), (y : Rat) / (w : Rat), (z : Rat) / (w : Rat))
def lx3 (a b : p3) : Prop := a.1 < b.1 ∨ (a.1 = b.1 ∧ (a.2.1 < b.2.1 ∨ (a.2.1 = b.2.1 ∧ a.2.2 < b.2.2)))
theorem lx3_ir (a : p3) : ¬ lx3 a a := by unfold lx3; grind
theorem lx3_tr (a b c : p3) (h : lx3 a b) (g : lx3 b c) : lx3 a c := by unfold lx3 at *; grind
theorem lx3_tri (a b : p3) : lx3 a b ∨ a = b ∨ lx3 b a := by
  unfold lx3
  by_cases h1 : a.1 < b.1
  · exact Or.inl (Or.inl h1)
  · by_cases h2 : b.1 < a.1
    · exact Or.inr (Or.inr (Or.inl h2))
    · have e1 : a.1 = b.1 := by grind
      by_cases h3 : a.2.1 < b.2.1
      · exact Or.inl (Or.inr ⟨e1, Or.inl h3⟩)
      · by_cases h4 : b.2.1 < a.2.1
        · exact Or.inr (Or.inr (Or.inr ⟨e1.symm, Or.inl h4⟩))
        · have e2 : a.2.1 = b.2.1 := by grind
          by_cases h5 : a.2.2 < b.2.2
          · exact Or.inl (Or.inr ⟨e1, Or.inr ⟨e2, h5⟩⟩)
          · by_cases h6 : b.2.2 < a.2.2
            · exact Or.inr (Or.inr (Or.inr ⟨e1.symm, Or.inr ⟨e2.symm, h6⟩⟩))
            · exact Or.inr (Or.inl (p3_ext e1 e2 (by grind)))
theorem SO_lx3 : SO lx3 := ⟨lx3_ir, lx3_tr, lx3_tri⟩
theorem P3_lx {x y z w x' y' z' w' : Int} (h : 0 < w) (h' : 0 < w') : lx3 (P3 x y z w) (P3 x' y' z' w') ↔ (x * w' < x' * w ∨ (x * w' = x' * w ∧ (y * w' < y' * w ∨ (y * w' = y' * w ∧ z * w' < z' * w)))) := by
  unfold lx3 P3
  show ((x : Rat) / (w : Rat) < (x' : Rat) / (w' : Rat) ∨ ((x : Rat) / (w : Rat) = (x' : Rat) / (w' : Rat) ∧ ((y : Rat) / (w : Rat) < (y' : Rat) / (w' : Rat) ∨ ((y : Rat) / (w : Rat) = (y' : Rat) / (w' : Rat) ∧ (z : Rat) / (w : Rat) < (z' : Rat) / (w' : Rat))))) ↔ _
  rw [q_lt h h', q_eq h h', q_lt h h', q_eq h h', q_lt h h']
theorem P3_eq {x y z w x' y' z' w' : Int} (h : 0 < w) (h' : 0 < w') : P3 x y z w = P3 x' y' z' w' ↔ (x * w' = x' * w ∧ y * w' = y' * w ∧ z * w' = z' * w) := by
  constructor
  · intro e
    have e1 : (x : Rat) / (w : Rat) = (x' : Rat) / (w' : Rat) := congrArg (fun p => p.1) e
    have e2 : (y : Rat) / (w : Rat) = (y' : Rat) / (w' : Rat) := congrArg (fun p => p.2.1) e
    have e3 : (z : Rat) / (w : Rat) = (z' : Rat) / (w' : Rat) := congrArg (fun p => p.2.2) e
    exact ⟨(q_eq h h').mp e1, (q_eq h h').mp e2, (q_eq h h').mp e3⟩
  · rintro ⟨e1, e2, e3⟩
    exact p3_ext ((q_eq h h').mpr e1) ((q_eq h h').mpr e2) ((q_eq h h').mpr e3)
/-- a place before, at or behind another, as a sign -/
def od (x y z w x' y' z' w' : Int) : Int := if sg (x * w') (x' * w) ≠ 0 then sg (x * w') (x' * w) else if sg (y * w') (y' * w) ≠ 0 then sg (y * w') (y' * w) else sg (z * w') (z' * w)
theorem od_rng (x y z w x' y' z' w' : Int) : -1 ≤ od x y z w x' y' z' w' ∧ od x y z w x' y' z' w' ≤ 1 := by
  have a := sg_rng (x * w') (x' * w)
  have b := sg_rng (y * w') (y' * w)
  have c := sg_rng (z * w') (z' * w)
  unfold od; (repeat' split) <;> omega
theorem od_pos {x y z w x' y' z' w' : Int} (h : 0 < w) (h' : 0 < w') : 0 < od x y z w x' y' z' w' ↔ lx3 (P3 x' y' z' w') (P3 x y z w) := by
  rw [P3_lx h' h]; unfold od sg; (repeat' split) <;> omega
theorem od_zero {x y z w x' y' z' w' : Int} (h : 0 < w) (h' : 0 < w') : od x y z w x' y' z' w' = 0 ↔ P3 x y z w = P3 x' y' z' w' := by
  rw [P3_eq h h']; unfold od sg; (repeat' split) <;> omega
theorem od_neg {x y z w x' y' z' w' : Int} (h : 0 < w) (h' : 0 < w') : od x y z w x' y' z' w' < 0 ↔ lx3 (P3 x y z w) (P3 x' y' z' w') := by
  rw [P3_lx h h']; unfold od sg; (repeat' split) <;> omega
/-- how far a place is beyond a wall -/
theorem ex_dt {A B C D : Int → Int} {n : Nat} {x y z w : Int} (h : 0 < w) : ((exI A B C D n x y z w : Int) : Rat) = (w : Rat) * (dt (WL A B C D n).1 (P3 x y z w) - (WL A B C D n).2) := by
  have e1 := q_mul (x := x) h
  have e2 := q_mul (x := y) h
  have e3 := q_mul (x := z) h
  unfold exI dt WL P3
  show _ = (w : Rat) * (((A n : Int) : Rat) * ((x : Rat) / (w : Rat)) + ((B n : Int) : Rat) * ((y : Rat) / (w : Rat)) + ((C n : Int) : Rat) * ((z : Rat) / (w : Rat)) - ((D n : Int) : Rat))
  generalize (x : Rat) / (w : Rat) = X at *
  generalize (y : Rat) / (w : Rat) = Y at *
  generalize (z : Rat) / (w : Rat) = Z at *
  push_cast
  rw [← e1, ← e2, ← e3]; grind
theorem ex_pos {A B C D : Int → Int} {n : Nat} {x y z w : Int} (h : 0 < w) : 0 < exI A B C D n x y z w ↔ (WL A B C D n).2 < dt (WL A B C D n).1 (P3 x y z w) := by
  have e := ex_dt (A := A) (B := B) (C := C) (D := D) (n := n) (x := x) (y := y) (z := z) h
  have pw := c_pos h
  constructor
  · intro q
    have : (0 : Rat) < ((exI A B C D n x y z w : Int) : Rat) := by exact_mod_cast q
    rw [e] at this
    have := r_pos' pw this
    grind
  · intro q
    have := r_pp pw (show 0 < dt (WL A B C D n).1 (P3 x y z w) - (WL A B C D n).2 by grind)
    rw [← e] at this
    exact_mod_cast this
theorem ex_zero {A B C D : Int → Int} {n : Nat} {x y z w : Int} (h : 0 < w) : exI A B C D n x y z w = 0 ↔ TI (WL A B C D) n (P3 x y z w) := by
  have e := ex_dt (A := A) (B := B) (C := C) (D := D) (n := n) (x := x) (y := y) (z := z) h
  have pw := c_pos h
  unfold TI
  constructor
  · intro q
    rw [q] at e
    have e' : (w : Rat) * (dt (WL A B C D n).1 (P3 x y z w) - (WL A B C D n).2) = 0 := by rw [← e]; rfl
    have := r_zero (by grind) e'
    grind
  · intro q
    rw [q] at e
    have : ((exI A B C D n x y z w : Int) : Rat) = ((0 : Int) : Rat) := by rw [e]; grind
    exact_mod_cast this
theorem vol_d3 {A B C D : Int → Int} {i j k : Nat} : d3 (WL A B C D i).1 (WL A B C D j).1 (WL A B C D k).1 = ((vol A B C i j k : Int) : Rat) := by
  unfold d3 dt xs3 WL vol
  push_cast
  grind
theorem vol_ne {A B C D : Int → Int} {i j k : Nat} : d3 (WL A B C D i).1 (WL A B C D j).1 (WL A B C D k).1 ≠ 0 ↔ vol A B C i j k ≠ 0 := by
  rw [vol_d3]
  constructor
  · intro h e; rw [e] at h; exact h rfl
  · intro h e; apply h; exact_mod_cast e
theorem xs_z {A B C D : Int → Int} {i j : Nat} : xs3 (WL A B C D i).1 (WL A B C D j).1 = z3 ↔ (B i * C j - C i * B j = 0 ∧ C i * A j - A i * C j = 0 ∧ A i * B j - B i * A j = 0) := by
  unfold xs3 WL z3
  constructor
  · intro e
    have e1 : (B i : Rat) * (C j : Rat) - (C i : Rat) * (B j : Rat) = 0 := congrArg (fun p => p.1) e
    have e2 : (C i : Rat) * (A j : Rat) - (A i : Rat) * (C j : Rat) = 0 := congrArg (fun p => p.2.1) e
    have e3 : (A i : Rat) * (B j : Rat) - (B i : Rat) * (A j : Rat) = 0 := congrArg (fun p => p.2.2) e
    exact ⟨by exact_mod_cast e1, by exact_mod_cast e2, by exact_mod_cast e3⟩
  · rintro ⟨e1, e2, e3⟩
    refine p3_ext ?_ ?_ ?_
    · show (B i : Rat) * (C j : Rat) - (C i : Rat) * (B j : Rat) = 0
      exact_mod_cast e1
    · show (C i : Rat) * (A j : Rat) - (A i : Rat) * (C j : Rat) = 0
      exact_mod_cast e2
    · show (A i : Rat) * (B j : Rat) - (B i : Rat) * (A j : Rat) = 0
      exact_mod_cast e3
theorem xs_dt {A B C D : Int → Int} {i j t : Nat} : dt (WL A B C D t).1 (xs3 (WL A B C D i).1 (WL A B C D j).1) = ((A t * (B i * C j - C i * B j) + B t * (C i * A j - A i * C j) + C t * (A i * B j - B i * A j) : Int) : Rat) := by
  unfold dt xs3 WL
  push_cast
  grind
theorem TI_un {w : wl} {i j k : Nat} {p q : p3} (hd : d3 (w i).1 (w j).1 (w k).1 ≠ 0) (hp : TI w i p ∧ TI w j p ∧ TI w k p) (hq : TI w i q ∧ TI w j q ∧ TI w k q) : p = q := by
  have z : ∀ n, TI w n p → TI w n q → dt (w n).1 (ad p (sc (-1) q)) = 0 := fun n a b => by
    unfold TI at a b
    rw [dt_ad, dt_sc, a, b]; grind
  have e := span0 hd (z i hp.1 hq.1) (z j hp.2.1 hq.2.1) (z k hp.2.2 hq.2.2)
  have e1 : p.1 + -1 * q.1 = 0 := congrArg (fun p => p.1) e
  have e2 : p.2.1 + -1 * q.2.1 = 0 := congrArg (fun p => p.2.1) e
  have e3 : p.2.2 + -1 * q.2.2 = 0 := congrArg (fun p => p.2.2) e
  exact p3_ext (by grind) (by grind) (by grind)
/-- whether a meet is a vertex of the body of a set, by its bits -/
def IV (MK BR : Int → Int) (m set : Int) : Prop := (∀ j : Nat, (MK m).toNat.testBit j = true → set.toNat.testBit j = true) ∧ ∀ j : Nat, ¬ ((BR m).toNat.testBit j = true ∧ set.toNat.testBit j = true)
def IE (RB : Int → Int) (rz set : Int) : Prop := ∃ r, 0 ≤ r ∧ r < rz ∧ ∀ j : Nat, ¬ ((RB r).toNat.testBit j = true ∧ set.toNat.testBit j = true)
theorem vol_sw (A B C : Int → Int) (i j k : Int) : vol A B C j i k = - vol A B C i j k ∧ vol A B C i k j = - vol A B C i j k := by unfold vol; constructor <;> grind
section BR
variable {A B C D : Int → Int} {s : Int} {X Y Z W MK BR TO : Int → Int} {sz : Int}
theorem MA_ti {m i j k : Int} (h : MA A B C D s X Y Z W MK BR TO m i j k) : 0 < W m ∧ d3 (WL A B C D i.toNat).1 (WL A B C D j.toNat).1 (WL A B C D k.toNat).1 ≠ 0 ∧ TI (WL A B C D) i.toNat (P3 (X m) (Y m) (Z m) (W m)) ∧ TI (WL A B C D) j.toNat (P3 (X m) (Y m) (Z m) (W m)) ∧ TI (WL A B C D) k.toNat (P3 (X m) (Y m) (Z m) (W m)) := by
  obtain ⟨ho, hv, hr, -, ⟨e1, e2, e3⟩, -, -⟩ := h
  have hw := hr.2.2.2.1
  have ci : ((i.toNat : Nat) : Int) = i := by omega
  have cj' : ((j.toNat : Nat) : Int) = j := by omega
  have ck : ((k.toNat : Nat) : Int) = k := by omega
  refine ⟨hw, vol_ne.mpr (by rw [ci, cj', ck]; exact hv), (ex_zero hw).mp (by rw [ci]; exact e1), (ex_zero hw).mp (by rw [cj']; exact e2), (ex_zero hw).mp (by rw [ck]; exact e3)⟩
theorem MA_srt (hM : MI A B C D s X Y Z W MK BR TO sz (fun _ _ _ => True)) {i j k : Nat} (hi : (i : Int) < s) (hj : (j : Int) < s) (hk : (k : Int) < s) (hv : vol A B C i j k ≠ 0) : ∃ m, 0 ≤ m ∧ m < sz ∧ ∃ a b c, MA A B C D s X Y Z W MK BR TO m a b c ∧ ∀ t : Int, (t = a ∨ t = b ∨ t = c) ↔ (t = i ∨ t = j ∨ t = k) := by
  have key : ∀ a b c : Int, 0 ≤ a → a < s → 0 ≤ b → b < s → 0 ≤ c → c < s → a < b → b < c → vol A B C a b c ≠ 0 → (∀ t : Int, (t = a ∨ t = b ∨ t = c) ↔ (t = i ∨ t = j ∨ t = k)) → ∃ m, 0 ≤ m ∧ m < sz ∧ ∃ a b c, MA A B C D s X Y Z W MK BR TO m a b c ∧ ∀ t : Int, (t = a ∨ t = b ∨ t = c) ↔ (t = i ∨ t = j ∨ t = k) := by
    intro a b c a0 a1 b0 b1 c0 c1 ab bc v e
    obtain ⟨m, m0, m1, q⟩ := hM.2.2 a b c a0 ab bc c1 v trivial
    exact ⟨m, m0, m1, a, b, c, q, e⟩
  have s1 := vol_sw A B C i j k
  have s2 := vol_sw A B C j i k
  have s3 := vol_sw A B C i k j
  have s4 := vol_sw A B C j k i
  have s5 := vol_sw A B C k i j
  have nij : (i : Int) ≠ j := fun e => by
    have : i = j := by omega
    subst this; omega
  have njk : (j : Int) ≠ k := fun e => by
    have : j = k := by omega
    subst this; omega
  have nik : (i : Int) ≠ k := fun e => by
    have : i = k := by omega
    subst this
    have : vol A B C (i : Int) j i = 0 := by unfold vol; grind
    exact hv this
  by_cases h1 : (i : Int) < j
  · by_cases h2 : (j : Int) < k
    · exact key i j k (by omega) (by omega) (by omega) (by omega) (by omega) (by omega) h1 h2 hv (fun t => Iff.rfl)
    · by_cases h3 : (i : Int) < k
      · exact key i k j (by omega) (by omega) (by omega) (by omega) (by omega) (by omega) h3 (by omega) (by omega) (fun t => by omega)
      · exact key k i j (by omega) (by omega) (by omega) (by omega) (by omega) (by omega) (by omega) h1 (by omega) (fun t => by omega)
  · by_cases h2 : (i : Int) < k
    · exact key j i k (by omega) (by omega) (by omega) (by omega) (by omega) (by omega) (by omega) h2 (by omega) (fun t => by omega)
    · by_cases h3 : (j : Int) < k
      · exact key j k i (by omega) (by omega) (by omega) (by omega) (by omega) (by omega) h3 (by omega) (by omega) (fun t => by omega)
      · exact key k j i (by omega) (by omega) (by omega) (by omega) (by omega) (by omega) (by omega) (by omega) (by omega) (fun t => by omega)
theorem VX_iff (hM : MI A B C D s X Y Z W MK BR TO sz (fun _ _ _ => True)) {set : Int} (hs : ∀ j : Nat, set.toNat.testBit j = true → (j : Int) < s) (hs10 : s ≤ 10) (p : p3) : VX (WL A B C D) (Sg set) p ↔ ∃ m, 0 ≤ m ∧ m < sz ∧ IV MK BR m set ∧ p = P3 (X m) (Y m) (Z m) (W m) := by
  constructor
  · rintro ⟨hp, i, j, k, hi, hj, hk, hd, t1, t2, t3⟩
    obtain ⟨m, m0, m1, a, b, c, hA, he⟩ := MA_srt hM (hs i hi) (hs j hj) (hs k hk) (vol_ne.mp hd)
    have hA' := hA
    obtain ⟨hw, hd', u1, u2, u3⟩ := MA_ti hA
    obtain ⟨ho, hv, hr, hmk, -, hbr, hto⟩ := hA'
    have tp : ∀ n : Int, (n = a ∨ n = b ∨ n = c) → Sg set n.toNat ∧ TI (WL A B C D) n.toNat p := fun n hn => by
      rcases (he n).mp hn with e | e | e
      · rw [e, Int.toNat_natCast]; exact ⟨hi, t1⟩
      · rw [e, Int.toNat_natCast]; exact ⟨hj, t2⟩
      · rw [e, Int.toNat_natCast]; exact ⟨hk, t3⟩
    have e : p = P3 (X m) (Y m) (Z m) (W m) := TI_un hd' ⟨(tp a (Or.inl rfl)).2, (tp b (Or.inr (Or.inl rfl))).2, (tp c (Or.inr (Or.inr rfl))).2⟩ ⟨u1, u2, u3⟩
    refine ⟨m, m0, m1, ⟨fun t ht => ?_, fun t ht => ?_⟩, e⟩
    · have := (tp (t : Int) ((hmk.2.2 t).mp ht).2).1
      rw [Int.toNat_natCast] at this
      exact this
    · have h1 := ((hbr.2.2 t).mp ht.1).2
      have h2 := hp t ht.2
      have h3 := (ex_pos hw).mp h1
      rw [e] at h2
      grind
  · rintro ⟨m, m0, m1, ⟨hk, hb⟩, e⟩
    obtain ⟨i, j, k, hA⟩ := hM.2.1 m m0 m1
    obtain ⟨hw, hd', u1, u2, u3⟩ := MA_ti hA
    obtain ⟨ho, hv, hr, hmk, -, hbr, hto⟩ := hA
    have mk : ∀ n : Int, 0 ≤ n → n < 10 → (n = i ∨ n = j ∨ n = k) → Sg set n.toNat := fun n n0 n1 hn => hk n.toNat ((hmk.2.2 n.toNat).mpr ⟨by omega, by show ((n.toNat : Nat) : Int) = i ∨ ((n.toNat : Nat) : Int) = j ∨ ((n.toNat : Nat) : Int) = k; rw [Int.toNat_of_nonneg n0]; exact hn⟩)
    refine ⟨fun t ht => ?_, i.toNat, j.toNat, k.toNat, mk i (by omega) (by omega) (Or.inl rfl), mk j (by omega) (by omega) (Or.inr (Or.inl rfl)), mk k (by omega) (by omega) (Or.inr (Or.inr rfl)), hd', by rw [e]; exact u1, by rw [e]; exact u2, by rw [e]; exact u3⟩
    rw [e]
    have h1 : ¬ 0 < exI A B C D t (X m) (Y m) (Z m) (W m) := fun q => hb t ⟨(hbr.2.2 t).mpr ⟨hs t ht, q⟩, ht⟩
    rw [ex_pos hw] at h1
    grind
theorem cEnd_iff {RB : Int → Int} {rz : Int} (hR : RI A B C s RB rz (fun _ _ => True)) {set : Int} (hs : ∀ j : Nat, set.toNat.testBit j = true → (j : Int) < s) : cEnd (WL A B C D) s.toNat (Sg set) ↔ IE RB rz set := by
  have up : ∀ (r : Int) (i j : Nat), RA A B C s RB r i j → ((∀ t : Nat, ¬ ((RB r).toNat.testBit t = true ∧ set.toNat.testBit t = true)) ↔ RC (WL A B C D) (Sg set) (xs3 (WL A B C D i).1 (WL A B C D j).1)) := by
    intro r i j hA
    obtain ⟨ho, hc, hb⟩ := hA
    constructor
    · intro h t ht
      have h1 : ¬ 0 < A t * (B i * C j - C i * B j) + B t * (C i * A j - A i * C j) + C t * (A i * B j - B i * A j) := fun q => h t ⟨(hb.2.2 t).mpr ⟨hs t ht, q⟩, ht⟩
      rw [xs_dt]
      have h2 : A t * (B i * C j - C i * B j) + B t * (C i * A j - A i * C j) + C t * (A i * B j - B i * A j) ≤ 0 := by omega
      exact_mod_cast h2
    · intro h t ht
      have h1 := ((hb.2.2 t).mp ht.1).2
      have h2 := h t ht.2
      rw [xs_dt] at h2
      have h3 : A t * (B i * C j - C i * B j) + B t * (C i * A j - A i * C j) + C t * (A i * B j - B i * A j) ≤ 0 := by exact_mod_cast h2
      omega
  constructor
  · rintro ⟨i, j, hi, hj, hx, hr⟩
    obtain ⟨r, r0, r1, hA⟩ := hR.2.2 i j (by omega) (by omega) (by omega) (by omega) (fun q => hx (xs_z.mpr q)) trivial
    exact ⟨r, r0, r1, (up r i j hA).mpr hr⟩
  · rintro ⟨r, r0, r1, h⟩
    obtain ⟨i, j, hA⟩ := hR.2.1 r r0 r1
    have ho := hA.1
    have ci : ((i.toNat : Nat) : Int) = i := by omega
    have cj' : ((j.toNat : Nat) : Int) = j := by omega
    have hA2 : RA A B C s RB r (i.toNat : Nat) (j.toNat : Nat) := by rw [ci, cj']; exact hA
    exact ⟨i.toNat, j.toNat, by omega, by omega, fun q => hA2.2.1 (xs_z.mp q), (up r _ _ hA2).mp h⟩
end BR
