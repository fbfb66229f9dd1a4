/-! ===== how far it is blown up: pure ===== -/
def gr (f t q : pt) : Rat := ((t.2 - f.2) * q.1 + (f.1 - t.1) * q.2) / (f.1 * t.2 - f.2 * t.1)
def MXc (cov : Nat → Nat → Prop) (g : Nat → Nat → Rat) (r : Rat) : Prop := 0 ≤ r ∧ (∀ i p, cov i p → g i p ≤ r) ∧ (r = 0 ∨ ∃ i p, cov i p ∧ r = g i p)
theorem MXc_un {cov : Nat → Nat → Prop} {g : Nat → Nat → Rat} {r r' : Rat} (h : MXc cov g r) (h' : MXc cov g r') : r = r' := by
  obtain ⟨a, b, c⟩ := h
  obtain ⟨a', b', c'⟩ := h'
  have l1 : r ≤ r' := by
    rcases c with e | ⟨i, p, k, e⟩
    · rw [e]; exact a'
    · rw [e]; exact b' i p k
  have l2 : r' ≤ r := by
    rcases c' with e | ⟨i, p, k, e⟩
    · rw [e]; exact a
    · rw [e]; exact b i p k
  grind
theorem MXc_keep {cov cov' : Nat → Nat → Prop} {g : Nat → Nat → Rat} {r : Rat} (h : MXc cov g r) {k m : Nat} (e : ∀ i p, cov' i p ↔ cov i p ∨ (i = k ∧ p = m)) (hg : g k m ≤ r) : MXc cov' g r := by
  obtain ⟨a, b, c⟩ := h
  refine ⟨a, fun i p q => ?_, ?_⟩
  · rcases (e i p).mp q with z | ⟨rfl, rfl⟩
    · exact b i p z
    · exact hg
  · rcases c with z | ⟨i, p, z, y⟩
    · exact Or.inl z
    · exact Or.inr ⟨i, p, (e i p).mpr (Or.inl z), y⟩
theorem MXc_take {cov cov' : Nat → Nat → Prop} {g : Nat → Nat → Rat} {r : Rat} (h : MXc cov g r) {k m : Nat} (e : ∀ i p, cov' i p ↔ cov i p ∨ (i = k ∧ p = m)) (hg : r < g k m) : MXc cov' g (g k m) := by
  obtain ⟨a, b, c⟩ := h
  refine ⟨by grind, fun i p q => ?_, Or.inr ⟨k, m, (e k m).mpr (Or.inr ⟨rfl, rfl⟩), rfl⟩⟩
  rcases (e i p).mp q with z | ⟨rfl, rfl⟩
  · have := b i p z; grind
  · exact Rat.le_refl
theorem MXc_congr {cov cov' : Nat → Nat → Prop} {g g' : Nat → Nat → Rat} {r : Rat} (h : MXc cov g r) (e : ∀ i p, cov i p ↔ cov' i p) (eg0 : ∀ i p, cov i p → g i p = g' i p) : MXc cov' g' r := by
  obtain ⟨a, b, c⟩ := h
  refine ⟨a, fun i p q => ?_, ?_⟩
  · have z := (e i p).mpr q
    rw [← eg0 i p z]; exact b i p z
  · rcases c with z | ⟨i, p, z, y⟩
    · exact Or.inl z
    · exact Or.inr ⟨i, p, (e i p).mp z, by rw [y, eg0 i p z]⟩
theorem MXc_0 (g : Nat → Nat → Rat) : MXc (fun i p => i < 0 ∧ p < 0) g 0 := ⟨Rat.le_refl, fun i p q => by omega, Or.inl rfl⟩
def cvB (k m h : Nat) : Nat → Nat → Prop := fun i p => (i < k ∧ p < h) ∨ (i = k ∧ p < m)
theorem cr_o (f t : pt) : cr f t ((0 : Rat), (0 : Rat)) = f.1 * t.2 - f.2 * t.1 := by unfold cr xp sb; grind
def eA (x y w x' y' w' : Int) : Int := w * y' - y * w'
def eB (x y w x' y' w' : Int) : Int := x * w' - w * x'
def eC (x y w x' y' w' : Int) : Int := x * y' - y * x'
theorem eC_pos {x y w x' y' w' : Int} (h : 0 < w) (h' : 0 < w') : 0 < eC x y w x' y' w' ↔ 0 < cr (P2 x y w) (P2 x' y' w') ((0 : Rat), (0 : Rat)) := by
  have := P2_pos (x1 := x) (y1 := y) (w1 := w) (x2 := x') (y2 := y') (w2 := w') (x3 := 0) (y3 := 0) (w3 := 1) h h' (by decide)
  rw [P2_o] at this
  rw [← this]
  unfold D3 eC
  have e : x * (y' * 1 - w' * 0) - y * (x' * 1 - w' * 0) + w * (x' * 0 - y' * 0) = x * y' - y * x' := by grind
  rw [e]
theorem gr_int {x y w x' y' w' px py : Int} (h : 0 < w) (h' : 0 < w') (hc : 0 < eC x y w x' y' w') : gr (P2 x y w) (P2 x' y' w') (P2 px py 1) = ((eA x y w x' y' w' * px + eB x y w x' y' w' * py : Int) : Rat) / ((eC x y w x' y' w' : Int) : Rat) := by
  have c1 := c_pos h
  have c2 := c_pos h'
  have c3 := c_pos hc
  have e1 := q_mul (x := x) h
  have e2 := q_mul (x := y) h
  have e3 := q_mul (x := x') h'
  have e4 := q_mul (x := y') h'
  have p1 : (P2 px py 1).1 = (px : Rat) := by show (px : Rat) / ((1 : Int) : Rat) = px; grind
  have p2 : (P2 px py 1).2 = (py : Rat) := by show (py : Rat) / ((1 : Int) : Rat) = py; grind
  have hY : 0 < (P2 x y w).1 * (P2 x' y' w').2 - (P2 x y w).2 * (P2 x' y' w').1 := by rw [← cr_o]; exact (eC_pos h h').mp hc
  unfold gr
  rw [p1, p2]
  refine div_eq' hY ?_
  have ec : ((eC x y w x' y' w' : Int) : Rat) = (x : Rat) * y' - y * x' := by unfold eC; push_cast; rfl
  have ea : ((eA x y w x' y' w' * px + eB x y w x' y' w' * py : Int) : Rat) = ((w : Rat) * y' - y * w') * px + (x * w' - w * x') * py := by unfold eA eB; push_cast; rfl
  have et := Rat.div_mul_cancel (a := ((eA x y w x' y' w' * px + eB x y w x' y' w' * py : Int) : Rat)) (b := ((eC x y w x' y' w' : Int) : Rat)) (by grind)
  generalize ((eA x y w x' y' w' * px + eB x y w x' y' w' * py : Int) : Rat) / ((eC x y w x' y' w' : Int) : Rat) = T at et ⊢
  rw [ec] at et
  rw [ea] at et
  have k1 : (P2 x y w).1 = (x : Rat) / (w : Rat) := rfl
  have k2 : (P2 x y w).2 = (y : Rat) / (w : Rat) := rfl
  have k3 : (P2 x' y' w').1 = (x' : Rat) / (w' : Rat) := rfl
  have k4 : (P2 x' y' w').2 = (y' : Rat) / (w' : Rat) := rfl
  rw [k1, k2, k3, k4]
  generalize (x : Rat) / (w : Rat) = X at e1 ⊢
  generalize (y : Rat) / (w : Rat) = Y at e2 ⊢
  generalize (x' : Rat) / (w' : Rat) = X' at e3 ⊢
  generalize (y' : Rat) / (w' : Rat) = Y' at e4 ⊢
  rw [← e1, ← e2, ← e3, ← e4] at et
  have hs : (w : Rat) * (w' : Rat) ≠ 0 := by
    have := Rat.mul_pos c1 c2
    grind
  have key : (w : Rat) * (w' : Rat) * ((Y' - Y) * px + (X - X') * py - T * (X * Y' - Y * X')) = 0 := by grind
  have := r_zero hs key
  grind
theorem prim_bound {a b c A B C : Int} (h1 : a * B = b * A) (h2 : a * C = c * A) (hn : ¬ (A = 0 ∧ B = 0 ∧ C = 0)) : (a.tdiv (Int.gcd (Int.gcd a b) c)).natAbs ≤ A.natAbs := by
  rw [Int.natAbs_tdiv]
  have n1 : a.natAbs * B.natAbs = b.natAbs * A.natAbs := by rw [← Int.natAbs_mul, ← Int.natAbs_mul, h1]
  have n2 : a.natAbs * C.natAbs = c.natAbs * A.natAbs := by rw [← Int.natAbs_mul, ← Int.natAbs_mul, h2]
  have eg : ((Int.gcd (Int.gcd a b) c : Nat) : Int).natAbs = Nat.gcd (Nat.gcd a.natAbs b.natAbs) c.natAbs := rfl
  rw [eg]
  show a.natAbs / (Nat.gcd (Nat.gcd a.natAbs b.natAbs) c.natAbs) ≤ A.natAbs
  by_cases z : A = 0
  · have zA : A.natAbs = 0 := by omega
    rw [zA, Nat.mul_zero] at n1 n2
    have a0 : a.natAbs = 0 := by
      rcases Nat.mul_eq_zero.mp n1 with q | q
      · exact q
      · rcases Nat.mul_eq_zero.mp n2 with r | r
        · exact r
        · exact absurd ⟨z, by omega, by omega⟩ hn
    rw [a0, Nat.zero_div]
    exact Nat.zero_le _
  · have d1 : a.natAbs ∣ A.natAbs * a.natAbs := Nat.dvd_mul_left _ _
    have d2 : a.natAbs ∣ A.natAbs * b.natAbs := ⟨B.natAbs, by rw [n1, Nat.mul_comm]⟩
    have d3 : a.natAbs ∣ A.natAbs * c.natAbs := ⟨C.natAbs, by rw [n2, Nat.mul_comm]⟩
    have d := Nat.dvd_gcd (Nat.dvd_gcd d1 d2) d3
    rw [Nat.gcd_mul_left, Nat.gcd_mul_left] at d
    by_cases g0 : Nat.gcd (Nat.gcd a.natAbs b.natAbs) c.natAbs = 0
    · rw [g0, Nat.div_zero]; exact Nat.zero_le _
    · have hp : 0 < A.natAbs * Nat.gcd (Nat.gcd a.natAbs b.natAbs) c.natAbs := Nat.mul_pos (by omega) (by omega)
      have hle := Nat.le_of_dvd hp d
      refine Nat.div_le_of_le_mul ?_
      rw [Nat.mul_comm]
      exact hle
def WBd (w : wl) (σ : Nat → Prop) : Prop := ∀ i, σ i → ∃ A B C D : Int, ((-9 ≤ A ∧ A ≤ 9) ∧ (-9 ≤ B ∧ B ≤ 9) ∧ (-9 ≤ C ∧ C ≤ 9) ∧ (-99 ≤ D ∧ D ≤ 99)) ∧ w i = (((A : Rat), (B : Rat), (C : Rat)), (D : Rat))
theorem edge_small {w : wl} {σ : Nat → Prop} {s : Nat} (hN : ∀ i, σ i → i < s) (hz : ∀ i, σ i → (w i).1 ≠ z3) (h : Snd w σ) (hb : WBd w σ) {f t : pt} (hf : Shd (VX w σ) f) (ht : Shd (VX w σ) t) (hne : f ≠ t) (hall : ∀ r, Shd (VX w σ) r → 0 ≤ cr f t r) : ∃ A B C : Int, ((-162 ≤ A ∧ A ≤ 162) ∧ (-162 ≤ B ∧ B ≤ 162) ∧ (-1782 ≤ C ∧ C ≤ 1782)) ∧ ¬ (A = 0 ∧ B = 0 ∧ C = 0) ∧ (A : Rat) * f.1 + B * f.2 = C ∧ (A : Rat) * t.1 + B * t.2 = C := by
  obtain ⟨p, hp, ep⟩ := hf
  obtain ⟨q, hq, eq0⟩ := ht
  have ep1 : f.1 = p.1 := by rw [ep]
  have ep2 : f.2 = p.2.1 := by rw [ep]
  have eq1 : t.1 = q.1 := by rw [eq0]
  have eq2 : t.2 = q.2.1 := by rw [eq0]
  have hAB : ¬ (t.2 - f.2 = 0 ∧ f.1 - t.1 = 0) := by
    rintro ⟨a, b⟩
    exact hne (Prod.ext (by grind) (by grind))
  have hc : ∀ r : pt, cr f t r = (f.1 * t.2 - f.2 * t.1) - ((t.2 - f.2) * r.1 + (f.1 - t.1) * r.2) := fun r => by unfold cr xp sb; grind
  have k := edge_two hN hz h hp hq (A := t.2 - f.2) (B := f.1 - t.1) (C := f.1 * t.2 - f.2 * t.1) hAB (fun r hr => by
    have z := hall (r.1, r.2.1) ⟨r, hr, rfl⟩
    rw [hc] at z
    have z2 : 0 ≤ f.1 * t.2 - f.2 * t.1 - ((t.2 - f.2) * r.1 + (f.1 - t.1) * r.2.1) := z
    grind) (by rw [← ep1, ← ep2]; grind) (by rw [← eq1, ← eq2]; grind)
  rcases k with ⟨i, si, t1, t2, c0⟩ | ⟨i, j, si, sj, ti1, ti2, tj1, tj2, hn⟩
  · obtain ⟨A, B, C, D, bd, e⟩ := hb i si
    have hzi := hz i si
    unfold TI at t1 t2
    rw [e] at t1 t2 c0 hzi
    have c0' : (C : Rat) = 0 := c0
    have u1 : (A : Rat) * p.1 + B * p.2.1 + C * p.2.2 = D := t1
    have u2 : (A : Rat) * q.1 + B * q.2.1 + C * q.2.2 = D := t2
    refine ⟨A, B, D, by omega, ?_, ?_, ?_⟩
    · rintro ⟨a, b, _⟩
      apply hzi
      show ((A : Rat), (B : Rat), (C : Rat)) = z3
      rw [c0', a, b]
      rfl
    · rw [ep1, ep2]; grind
    · rw [eq1, eq2]; grind
  · obtain ⟨A, B, C, D, bd, e⟩ := hb i si
    obtain ⟨A', B', C', D', bd', e'⟩ := hb j sj
    unfold TI at ti1 ti2 tj1 tj2
    rw [e] at ti1 ti2 hn
    rw [e'] at tj1 tj2 hn
    have u1 : (A : Rat) * p.1 + B * p.2.1 + C * p.2.2 = D := ti1
    have u2 : (A : Rat) * q.1 + B * q.2.1 + C * q.2.2 = D := ti2
    have v1 : (A' : Rat) * p.1 + B' * p.2.1 + C' * p.2.2 = D' := tj1
    have v2 : (A' : Rat) * q.1 + B' * q.2.1 + C' * q.2.2 = D' := tj2
    have hn' : ¬ ((C' : Rat) * A - C * A' = 0 ∧ (C' : Rat) * B - C * B' = 0) := hn
    have m1 := mb bd'.2.2.1 bd.1
    have m2 := mb bd.2.2.1 bd'.1
    have m3 := mb bd'.2.2.1 bd.2.1
    have m4 := mb bd.2.2.1 bd'.2.1
    have m5 := mb bd'.2.2.1 bd.2.2.2
    have m6 := mb bd.2.2.1 bd'.2.2.2
    refine ⟨C' * A - C * A', C' * B - C * B', C' * D - C * D', by omega, ?_, ?_, ?_⟩
    · rintro ⟨a, b, _⟩
      apply hn'
      constructor
      · exact_mod_cast a
      · exact_mod_cast b
    · rw [ep1, ep2]; push_cast; grind
    · rw [eq1, eq2]; push_cast; grind
theorem edge_int {x y w x' y' w' A B C : Int} (h : 0 < w) (h' : 0 < w') (k1 : (A : Rat) * (P2 x y w).1 + B * (P2 x y w).2 = C) (k2 : (A : Rat) * (P2 x' y' w').1 + B * (P2 x' y' w').2 = C) : eA x y w x' y' w' * B = eB x y w x' y' w' * A ∧ eA x y w x' y' w' * C = eC x y w x' y' w' * A ∧ eB x y w x' y' w' * C = eC x y w x' y' w' * B := by
  have up : ∀ {x y w : Int}, 0 < w → (A : Rat) * (P2 x y w).1 + B * (P2 x y w).2 = C → A * x + B * y = C * w := by
    intro x y w h k
    have e1 := q_mul (x := x) h
    have e2 := q_mul (x := y) h
    have k' : (A : Rat) * ((x : Rat) / (w : Rat)) + B * ((y : Rat) / (w : Rat)) = C := k
    have : ((A * x + B * y : Int) : Rat) = ((C * w : Int) : Rat) := by push_cast; grind
    exact_mod_cast this
  have u := up h k1
  have v := up h' k2
  unfold eA eB eC
  refine ⟨?_, ?_, ?_⟩ <;> grind
theorem edge_bounds {x y w x' y' w' A B C : Int} (h : 0 < w) (h' : 0 < w') (bd : (-162 ≤ A ∧ A ≤ 162) ∧ (-162 ≤ B ∧ B ≤ 162) ∧ (-1782 ≤ C ∧ C ≤ 1782)) (hn : ¬ (A = 0 ∧ B = 0 ∧ C = 0)) (k1 : (A : Rat) * (P2 x y w).1 + B * (P2 x y w).2 = C) (k2 : (A : Rat) * (P2 x' y' w').1 + B * (P2 x' y' w').2 = C) {g : Int} (hg : g = (Int.gcd (Int.gcd (eA x y w x' y' w') (eB x y w x' y' w')) (eC x y w x' y' w') : Int)) :
    (-162 ≤ (eA x y w x' y' w').tdiv g ∧ (eA x y w x' y' w').tdiv g ≤ 162) ∧ (-162 ≤ (eB x y w x' y' w').tdiv g ∧ (eB x y w x' y' w').tdiv g ≤ 162) ∧ (-1782 ≤ (eC x y w x' y' w').tdiv g ∧ (eC x y w x' y' w').tdiv g ≤ 1782) := by
  obtain ⟨r1, r2, r3⟩ := edge_int h h' k1 k2
  subst hg
  have b1 := prim_bound r1 r2 hn
  have g2 : Int.gcd (Int.gcd (eB x y w x' y' w') (eA x y w x' y' w')) (eC x y w x' y' w') = Int.gcd (Int.gcd (eA x y w x' y' w') (eB x y w x' y' w')) (eC x y w x' y' w') := by rw [Int.gcd_comm (eB x y w x' y' w')]
  have b2 := prim_bound (a := eB x y w x' y' w') (b := eA x y w x' y' w') (c := eC x y w x' y' w') (A := B) (B := A) (C := C) r1.symm r3 (fun q => hn ⟨q.2.1, q.1, q.2.2⟩)
  rw [g2] at b2
  have g3 : Int.gcd (Int.gcd (eC x y w x' y' w') (eA x y w x' y' w')) (eB x y w x' y' w') = Int.gcd (Int.gcd (eA x y w x' y' w') (eB x y w x' y' w')) (eC x y w x' y' w') := by
    show Nat.gcd (Nat.gcd _ _) _ = Nat.gcd (Nat.gcd _ _) _
    rw [Nat.gcd_assoc, Nat.gcd_comm]
  have b3 := prim_bound (a := eC x y w x' y' w') (b := eA x y w x' y' w') (c := eB x y w x' y' w') (A := C) (B := A) (C := B) r2.symm r3.symm (fun q => hn ⟨q.2.1, q.2.2, q.1⟩)
  rw [g3] at b3
  omega
