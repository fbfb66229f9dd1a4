/-! ===== outlines in the memory ===== -/
def BP (x y w : Int) : Prop := (-50000 ≤ x ∧ x ≤ 50000) ∧ (-50000 ≤ y ∧ y ≤ 50000) ∧ 0 < w ∧ w ≤ 5000
def BD (X Y W : Int → Int) (n : Int) : Prop := ∀ j, 0 ≤ j → j < n → BP (X j) (Y j) (W j)
def pl (X Y W : Int → Int) : Nat → pt := fun i => P2 (X i) (Y i) (W i)
def cn (X Y W R : Int → Int) : Nat → pt := fun i => P2 (X (R i)) (Y (R i)) (W (R i))
def sg (x y : Int) : Int := if x < y then -1 else if x = y then 0 else 1
theorem sg_rng (x y : Int) : -1 ≤ sg x y ∧ sg x y ≤ 1 := by unfold sg; (repeat' split) <;> omega
theorem sd_sg (x y w px py pw : Int) : sd x y w px py pw = if sg (x * pw) (px * w) = 0 then sg (y * pw) (py * w) else sg (x * pw) (px * w) := by
  unfold sd sg; (repeat' split) <;> omega
noncomputable def b01 (P : Prop) : Int := @ite Int P (Classical.propDecidable P) 1 0
theorem b01_t {P : Prop} (h : P) : b01 P = 1 := by unfold b01; exact if_pos h
theorem b01_f {P : Prop} (h : ¬ P) : b01 P = 0 := by unfold b01; exact if_neg h
theorem b01_rng (P : Prop) : b01 P = 0 ∨ b01 P = 1 := by
  by_cases h : P
  · exact Or.inr (b01_t h)
  · exact Or.inl (b01_f h)
theorem b01_iff {P Q : Prop} (h : P ↔ Q) : b01 P = b01 Q := by rw [propext h]
theorem b01_ne {P : Prop} (h : ¬ b01 P = 0) : P := Classical.byContradiction fun q => h (b01_f q)
theorem b01_eq {P : Prop} (h : b01 P = 0) : ¬ P := fun q => by rw [b01_t q] at h; omega
/-- places listed by the order, each once; the corners round them -/
def OE (X Y W : Int → Int) (n : Int) (S : pt → Prop) : Prop := 0 ≤ n ∧ BD X Y W n ∧ Enum lx S n.toNat (pl X Y W)
def OO (X Y W R : Int → Int) (n h : Int) (S : pt → Prop) : Prop := OE X Y W n S ∧ 0 ≤ h ∧ (n = 0 → h = 0) ∧ (∀ i, 0 ≤ i → i < h → 0 ≤ R i ∧ R i < n) ∧ (0 < n → Hull S h.toNat (cn X Y W R))
theorem OE_in {X Y W : Int → Int} {n : Int} {S : pt → Prop} (h : OE X Y W n S) {j : Int} (h0 : 0 ≤ j) (h1 : j < n) : S (P2 (X j) (Y j) (W j)) := by
  refine (h.2.2.2 _).mpr ⟨j.toNat, by omega, ?_⟩
  unfold pl
  rw [show ((j.toNat : Nat) : Int) = j by omega]
theorem OE_lt {X Y W : Int → Int} {n : Int} {S : pt → Prop} (h : OE X Y W n S) {i j : Int} (h0 : 0 ≤ i) (h1 : i < j) (h2 : j < n) : lx (P2 (X i) (Y i) (W i)) (P2 (X j) (Y j) (W j)) := by
  have := h.2.2.1 i.toNat j.toNat (by omega) (by omega)
  unfold pl at this
  rwa [show ((i.toNat : Nat) : Int) = i by omega, show ((j.toNat : Nat) : Int) = j by omega] at this
theorem OE_ins {X Y W X' Y' W' : Int → Int} {n : Int} {S : pt → Prop} (h : OE X Y W n S) {px py pw : Int} (hp : BP px py pw) {s : Int} (s0 : 0 ≤ s) (s1 : s ≤ n)
    (a1 : ∀ j, 0 ≤ j → j < s → lx (P2 (X j) (Y j) (W j)) (P2 px py pw)) (a2 : ∀ j, s ≤ j → j < n → lx (P2 px py pw) (P2 (X j) (Y j) (W j)))
    (b1 : ∀ j, 0 ≤ j → j < s → X' j = X j ∧ Y' j = Y j ∧ W' j = W j) (b2 : X' s = px ∧ Y' s = py ∧ W' s = pw) (b3 : ∀ j, s ≤ j → j < n → X' (j + 1) = X j ∧ Y' (j + 1) = Y j ∧ W' (j + 1) = W j) :
    OE X' Y' W' (n + 1) (fun q => S q ∨ q = P2 px py pw) := by
  obtain ⟨h1, h2, h3⟩ := h
  refine ⟨by omega, fun j hj hj2 => ?_, ?_⟩
  · rcases Int.lt_trichotomy j s with c | c | c
    · obtain ⟨e1, e2, e3⟩ := b1 j hj c
      rw [e1, e2, e3]; exact h2 j hj (by omega)
    · rw [c, b2.1, b2.2.1, b2.2.2]; exact hp
    · obtain ⟨e1, e2, e3⟩ := b3 (j - 1) (by omega) (by omega)
      rw [show j - 1 + 1 = j by omega] at e1 e2 e3
      rw [e1, e2, e3]; exact h2 (j - 1) (by omega) (by omega)
  · rw [show (n + 1).toNat = n.toNat + 1 by omega]
    refine Enum_ins (s := s.toNat) h3 (by omega) (fun i hi => ?_) (fun i hi hi2 => ?_) (fun i hi => ?_) ?_ (fun i hi hi2 => ?_)
    · exact a1 i (by omega) (by omega)
    · exact a2 i (by omega) (by omega)
    · obtain ⟨e1, e2, e3⟩ := b1 i (by omega) (by omega)
      unfold pl; rw [e1, e2, e3]
    · unfold pl; rw [show ((s.toNat : Nat) : Int) = s by omega, b2.1, b2.2.1, b2.2.2]
    · obtain ⟨e1, e2, e3⟩ := b3 i (by omega) (by omega)
      unfold pl
      rw [show (((i + 1 : Nat)) : Int) = (i : Int) + 1 by omega, e1, e2, e3]
theorem OE_had {X Y W : Int → Int} {n : Int} {S : pt → Prop} (h : OE X Y W n S) {p : pt} (hp : S p) : OE X Y W n (fun q => S q ∨ q = p) := by
  have : (fun q => S q ∨ q = p) = S := by
    funext q
    apply propext
    exact ⟨fun hq => by rcases hq with hq | rfl; exact hq; exact hp, Or.inl⟩
  rw [this]; exact h
theorem OE_congr {X Y W X' Y' W' : Int → Int} {n : Int} {S : pt → Prop} (h : OE X Y W n S) (e : ∀ j, 0 ≤ j → j < n → X' j = X j ∧ Y' j = Y j ∧ W' j = W j) : OE X' Y' W' n S := by
  obtain ⟨h1, h2, h3, h4⟩ := h
  have ep : ∀ i : Nat, i < n.toNat → pl X' Y' W' i = pl X Y W i := fun i hi => by
    obtain ⟨e1, e2, e3⟩ := e i (by omega) (by omega)
    unfold pl; rw [e1, e2, e3]
  refine ⟨h1, fun j hj hj2 => ?_, fun i j hij hj => ?_, fun p => ?_⟩
  · obtain ⟨e1, e2, e3⟩ := e j hj hj2
    rw [e1, e2, e3]; exact h2 j hj hj2
  · rw [ep i (by omega), ep j hj]; exact h3 i j hij hj
  · rw [h4 p]
    constructor
    · rintro ⟨i, hi, e⟩; exact ⟨i, hi, by rw [ep i hi]; exact e⟩
    · rintro ⟨i, hi, e⟩; exact ⟨i, hi, by rw [← ep i hi]; exact e⟩
theorem OE_nil (X Y W : Int → Int) : OE X Y W 0 (fun _ => False) :=
  ⟨Int.le_refl _, fun j h0 h1 => by omega, fun i j _ hj => by simp at hj, fun p => ⟨fun h => h.elim, fun ⟨i, hi, _⟩ => by simp at hi⟩⟩
