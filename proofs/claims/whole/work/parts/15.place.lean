/-! ===== places given by three whole numbers ===== -/
def P2 (x y w : Int) : pt := ((x : Rat) / (w : Rat), (y : Rat) / (w : Rat))
theorem c_pos {w : Int} (h : 0 < w) : (0 : Rat) < (w : Rat) := by exact_mod_cast h
theorem q_mul {x w : Int} (h : 0 < w) : (x : Rat) / (w : Rat) * (w : Rat) = (x : Rat) := Rat.div_mul_cancel (by have := c_pos h; grind)
theorem q_lt {x w x' w' : Int} (h : 0 < w) (h' : 0 < w') : (x : Rat) / (w : Rat) < (x' : Rat) / (w' : Rat) ↔ x * w' < x' * w := by
  have e1 := q_mul (x := x) h
  have e2 := q_mul (x := x') h'
  have p1 := c_pos h
  have p2 := c_pos h'
  generalize (x : Rat) / (w : Rat) = X at *
  generalize (x' : Rat) / (w' : Rat) = X' at *
  have e3 : ((x' * w - x * w' : Int) : Rat) = ((w : Rat) * (w' : Rat)) * (X' - X) := by
    push_cast
    rw [← e1, ← e2]; grind
  have pw := r_pp p1 p2
  constructor
  · intro hl
    have := r_pp pw (show 0 < X' - X by grind)
    rw [← e3] at this
    have : (0 : Int) < x' * w - x * w' := by exact_mod_cast this
    omega
  · intro hl
    have : (0 : Rat) < ((x' * w - x * w' : Int) : Rat) := by exact_mod_cast (show (0 : Int) < x' * w - x * w' by omega)
    rw [e3] at this
    have := r_pos' pw this
    grind
theorem q_eq {x w x' w' : Int} (h : 0 < w) (h' : 0 < w') : (x : Rat) / (w : Rat) = (x' : Rat) / (w' : Rat) ↔ x * w' = x' * w := by
  have a := q_lt (x := x) (x' := x') h h'
  have b := q_lt (x := x') (x' := x) h' h
  constructor
  · intro e
    have a1 : ¬ x * w' < x' * w := fun q => by have := a.mpr q; grind
    have b1 : ¬ x' * w < x * w' := fun q => by have := b.mpr q; grind
    omega
  · intro e
    have a1 : ¬ (x : Rat) / (w : Rat) < (x' : Rat) / (w' : Rat) := fun q => by have := a.mp q; omega
    have b1 : ¬ (x' : Rat) / (w' : Rat) < (x : Rat) / (w : Rat) := fun q => by have := b.mp q; omega
    grind
theorem P2_lx {x y w x' y' w' : Int} (h : 0 < w) (h' : 0 < w') : lx (P2 x y w) (P2 x' y' w') ↔ (x * w' < x' * w ∨ (x * w' = x' * w ∧ y * w' < y' * w)) := by
  unfold lx P2
  rw [q_lt h h', q_eq h h', q_lt h h']
theorem P2_eq {x y w x' y' w' : Int} (h : 0 < w) (h' : 0 < w') : P2 x y w = P2 x' y' w' ↔ (x * w' = x' * w ∧ y * w' = y' * w) := by
  unfold P2
  rw [Prod.ext_iff]
  show (x : Rat) / (w : Rat) = (x' : Rat) / (w' : Rat) ∧ (y : Rat) / (w : Rat) = (y' : Rat) / (w' : Rat) ↔ _
  rw [q_eq h h', q_eq h h']
def D3 (x1 y1 w1 x2 y2 w2 x3 y3 w3 : Int) : Int := x1 * (y2 * w3 - w2 * y3) - y1 * (x2 * w3 - w2 * x3) + w1 * (x2 * y3 - y2 * x3)
theorem P2_D {x1 y1 w1 x2 y2 w2 x3 y3 w3 : Int} (h1 : 0 < w1) (h2 : 0 < w2) (h3 : 0 < w3) : ((D3 x1 y1 w1 x2 y2 w2 x3 y3 w3 : Int) : Rat) = ((w1 : Rat) * (w2 : Rat) * (w3 : Rat)) * cr (P2 x1 y1 w1) (P2 x2 y2 w2) (P2 x3 y3 w3) := by
  unfold D3 P2 cr xp sb
  have a1 := q_mul (x := x1) h1
  have a2 := q_mul (x := y1) h1
  have b1 := q_mul (x := x2) h2
  have b2 := q_mul (x := y2) h2
  have c1 := q_mul (x := x3) h3
  have c2 := q_mul (x := y3) h3
  push_cast
  generalize (x1 : Rat) / (w1 : Rat) = X1 at *
  generalize (y1 : Rat) / (w1 : Rat) = Y1 at *
  generalize (x2 : Rat) / (w2 : Rat) = X2 at *
  generalize (y2 : Rat) / (w2 : Rat) = Y2 at *
  generalize (x3 : Rat) / (w3 : Rat) = X3 at *
  generalize (y3 : Rat) / (w3 : Rat) = Y3 at *
  rw [← a1, ← a2, ← b1, ← b2, ← c1, ← c2]
  grind
theorem P2_pos {x1 y1 w1 x2 y2 w2 x3 y3 w3 : Int} (h1 : 0 < w1) (h2 : 0 < w2) (h3 : 0 < w3) : 0 < D3 x1 y1 w1 x2 y2 w2 x3 y3 w3 ↔ 0 < cr (P2 x1 y1 w1) (P2 x2 y2 w2) (P2 x3 y3 w3) := by
  have e := P2_D (x1 := x1) (y1 := y1) (x2 := x2) (y2 := y2) (x3 := x3) (y3 := y3) h1 h2 h3
  have pw := r_pp (r_pp (c_pos h1) (c_pos h2)) (c_pos h3)
  constructor
  · intro h
    refine r_pos' pw ?_
    rw [← e]; exact_mod_cast h
  · intro h
    have := r_pp pw h
    rw [← e] at this
    exact_mod_cast this
theorem D3_sw (x1 y1 w1 x2 y2 w2 x3 y3 w3 : Int) : D3 x1 y1 w1 x3 y3 w3 x2 y2 w2 = - D3 x1 y1 w1 x2 y2 w2 x3 y3 w3 := by unfold D3; grind
theorem P2_neg {x1 y1 w1 x2 y2 w2 x3 y3 w3 : Int} (h1 : 0 < w1) (h2 : 0 < w2) (h3 : 0 < w3) : D3 x1 y1 w1 x2 y2 w2 x3 y3 w3 < 0 ↔ cr (P2 x1 y1 w1) (P2 x2 y2 w2) (P2 x3 y3 w3) < 0 := by
  have a := P2_pos (x1 := x1) (y1 := y1) (x2 := x3) (y2 := y3) (x3 := x2) (y3 := y2) h1 h3 h2
  rw [D3_sw, cr_sw] at a
  constructor
  · intro h; have := a.mp (by omega); grind
  · intro h; have := a.mpr (by grind); omega
theorem P2_zero {x1 y1 w1 x2 y2 w2 x3 y3 w3 : Int} (h1 : 0 < w1) (h2 : 0 < w2) (h3 : 0 < w3) : D3 x1 y1 w1 x2 y2 w2 x3 y3 w3 = 0 ↔ cr (P2 x1 y1 w1) (P2 x2 y2 w2) (P2 x3 y3 w3) = 0 := by
  have a := P2_pos (x1 := x1) (y1 := y1) (x2 := x2) (y2 := y2) (x3 := x3) (y3 := y3) h1 h2 h3
  have b := P2_neg (x1 := x1) (y1 := y1) (x2 := x2) (y2 := y2) (x3 := x3) (y3 := y3) h1 h2 h3
  constructor
  · intro h
    have a1 : ¬ 0 < cr (P2 x1 y1 w1) (P2 x2 y2 w2) (P2 x3 y3 w3) := fun q => by have := a.mpr q; omega
    have b1 : ¬ cr (P2 x1 y1 w1) (P2 x2 y2 w2) (P2 x3 y3 w3) < 0 := fun q => by have := b.mpr q; omega
    grind
  · intro h
    have a1 : ¬ 0 < D3 x1 y1 w1 x2 y2 w2 x3 y3 w3 := fun q => by have := a.mp q; grind
    have b1 : ¬ D3 x1 y1 w1 x2 y2 w2 x3 y3 w3 < 0 := fun q => by have := b.mp q; grind
    omega
theorem P2_nn {x1 y1 w1 x2 y2 w2 x3 y3 w3 : Int} (h1 : 0 < w1) (h2 : 0 < w2) (h3 : 0 < w3) : 0 ≤ D3 x1 y1 w1 x2 y2 w2 x3 y3 w3 ↔ 0 ≤ cr (P2 x1 y1 w1) (P2 x2 y2 w2) (P2 x3 y3 w3) := by
  have b := P2_neg (x1 := x1) (y1 := y1) (x2 := x2) (y2 := y2) (x3 := x3) (y3 := y3) h1 h2 h3
  constructor
  · intro h
    have : ¬ cr (P2 x1 y1 w1) (P2 x2 y2 w2) (P2 x3 y3 w3) < 0 := fun q => by have := b.mpr q; omega
    grind
  · intro h
    have : ¬ D3 x1 y1 w1 x2 y2 w2 x3 y3 w3 < 0 := fun q => by have := b.mp q; grind
    omega
/-- how one place stands to another: -1 before, 0 at, 1 behind -/
def sd (x y w px py pw : Int) : Int := if x * pw < px * w then -1 else if px * w < x * pw then 1 else if y * pw < py * w then -1 else if py * w < y * pw then 1 else 0
theorem sd_rng (x y w px py pw : Int) : -1 ≤ sd x y w px py pw ∧ sd x y w px py pw ≤ 1 := by
  unfold sd; (repeat' split) <;> omega
theorem sd_neg {x y w px py pw : Int} (h : 0 < w) (h' : 0 < pw) : sd x y w px py pw < 0 ↔ lx (P2 x y w) (P2 px py pw) := by
  rw [P2_lx h h']; unfold sd; (repeat' split) <;> omega
theorem sd_pos {x y w px py pw : Int} (h : 0 < w) (h' : 0 < pw) : 0 < sd x y w px py pw ↔ lx (P2 px py pw) (P2 x y w) := by
  rw [P2_lx h' h]; unfold sd; (repeat' split) <;> omega
theorem sd_zero {x y w px py pw : Int} (h : 0 < w) (h' : 0 < pw) : sd x y w px py pw = 0 ↔ P2 x y w = P2 px py pw := by
  rw [P2_eq h h']; unfold sd; (repeat' split) <;> omega
