/-! ===== the list of a body's vertices ===== -/
def VE (V : Int → Int) (f : Int → p3) (n ms : Int) (S : p3 → Prop) : Prop := 0 ≤ n ∧ (∀ j, 0 ≤ j → j < n → 0 ≤ V j ∧ V j < ms) ∧ Enum lx3 S n.toNat (fun i : Nat => f (V i))
theorem VE_ins {V V' : Int → Int} {f : Int → p3} {n ms : Int} {S : p3 → Prop} (h : VE V f n ms S) {m : Int} (hm : 0 ≤ m ∧ m < ms) {s : Int} (s0 : 0 ≤ s) (s1 : s ≤ n)
    (a1 : ∀ j, 0 ≤ j → j < s → lx3 (f (V j)) (f m)) (a2 : ∀ j, s ≤ j → j < n → lx3 (f m) (f (V j)))
    (b1 : ∀ j, 0 ≤ j → j < s → V' j = V j) (b2 : V' s = m) (b3 : ∀ j, s ≤ j → j < n → V' (j + 1) = V j) :
    VE V' f (n + 1) ms (fun q => S q ∨ q = f m) := by
  obtain ⟨h1, h2, h3⟩ := h
  refine ⟨by omega, fun j hj hj2 => ?_, ?_⟩
  · rcases Int.lt_trichotomy j s with c | c | c
    · rw [b1 j hj c]; exact h2 j hj (by omega)
    · rw [c, b2]; exact hm
    · have e := b3 (j - 1) (by omega) (by omega)
      rw [show j - 1 + 1 = j by omega] at e
      rw [e]; exact h2 (j - 1) (by omega) (by omega)
  · rw [show (n + 1).toNat = n.toNat + 1 by omega]
    refine Enum_ins (s := s.toNat) h3 (by omega) (fun i hi => ?_) (fun i hi hi2 => ?_) (fun i hi => ?_) ?_ (fun i hi hi2 => ?_)
    · exact a1 i (by omega) (by omega)
    · exact a2 i (by omega) (by omega)
    · show f (V' (i : Int)) = f (V (i : Int))
      rw [b1 i (by omega) (by omega)]
    · show f (V' ((s.toNat : Nat) : Int)) = f m
      rw [show ((s.toNat : Nat) : Int) = s by omega, b2]
    · show f (V' ((i + 1 : Nat) : Int)) = f (V (i : Int))
      rw [show (((i + 1 : Nat)) : Int) = (i : Int) + 1 by omega, b3 i (by omega) (by omega)]
theorem VE_had {V : Int → Int} {f : Int → p3} {n ms : Int} {S : p3 → Prop} (h : VE V f n ms S) {p : p3} (hp : S p) : VE V f n ms (fun q => S q ∨ q = p) := by
  have : (fun q => S q ∨ q = p) = S := by
    funext q
    apply propext
    exact ⟨fun hq => by rcases hq with hq | rfl; exact hq; exact hp, Or.inl⟩
  rw [this]; exact h
theorem VE_in {V : Int → Int} {f : Int → p3} {n ms : Int} {S : p3 → Prop} (h : VE V f n ms S) {j : Int} (h0 : 0 ≤ j) (h1 : j < n) : S (f (V j)) := by
  refine (h.2.2.2 _).mpr ⟨j.toNat, by omega, ?_⟩
  show f (V j) = f (V ((j.toNat : Nat) : Int))
  rw [show ((j.toNat : Nat) : Int) = j by omega]
theorem VE_lt {V : Int → Int} {f : Int → p3} {n ms : Int} {S : p3 → Prop} (h : VE V f n ms S) {i j : Int} (h0 : 0 ≤ i) (h1 : i < j) (h2 : j < n) : lx3 (f (V i)) (f (V j)) := by
  have : lx3 (f (V ((i.toNat : Nat) : Int))) (f (V ((j.toNat : Nat) : Int))) := h.2.2.1 i.toNat j.toNat (by omega) (by omega)
  rw [show ((i.toNat : Nat) : Int) = i by omega, show ((j.toNat : Nat) : Int) = j by omega] at this
  exact this
theorem VE_ex {V : Int → Int} {f : Int → p3} {n ms : Int} {S : p3 → Prop} (h : VE V f n ms S) {p : p3} : S p ↔ ∃ j, 0 ≤ j ∧ j < n ∧ p = f (V j) := by
  rw [h.2.2.2 p]
  constructor
  · rintro ⟨i, hi, e⟩; exact ⟨i, by omega, by omega, e⟩
  · rintro ⟨j, j0, j1, e⟩
    refine ⟨j.toNat, by omega, ?_⟩
    show p = f (V ((j.toNat : Nat) : Int))
    rw [show ((j.toNat : Nat) : Int) = j by omega]; exact e
theorem VE_nil (V : Int → Int) (f : Int → p3) (ms : Int) : VE V f 0 ms (fun _ => False) :=
  ⟨Int.le_refl _, fun j h0 h1 => by omega, fun i j _ hj => by simp at hj, fun p => ⟨fun h => h.elim, fun ⟨i, hi, _⟩ => by simp at hi⟩⟩
theorem VE_congr {V V' : Int → Int} {f : Int → p3} {n ms : Int} {S S' : p3 → Prop} (h : VE V f n ms S) (e : ∀ j, 0 ≤ j → j < n → V' j = V j) (hS : ∀ p, S p ↔ S' p) : VE V' f n ms S' := by
  have : S = S' := by funext p; exact propext (hS p)
  rw [← this]
  obtain ⟨h1, h2, h3, h4⟩ := h
  refine ⟨h1, fun j j0 j1 => by rw [e j j0 j1]; exact h2 j j0 j1, fun i j hij hj => ?_, fun p => ?_⟩
  · show lx3 (f (V' i)) (f (V' j))
    rw [e i (by omega) (by omega), e j (by omega) (by omega)]; exact h3 i j hij hj
  · rw [h4 p]
    constructor
    · rintro ⟨i, hi, q⟩; exact ⟨i, hi, by show p = f (V' i); rw [e i (by omega) (by omega)]; exact q⟩
    · rintro ⟨i, hi, q⟩; exact ⟨i, hi, by show p = f (V i); rw [← e i (by omega) (by omega)]; exact q⟩
def pm (M : av_M) : Int → p3 := fun m => P3 (M 19 m) (M 20 m) (M 21 m) (M 22 m)
def WM (M : av_M) : wl := WL (M 14) (M 15) (M 16) (M 17)
def MR (M : av_M) (ms : Int) : Prop := ∀ m, 0 ≤ m → m < ms → (-50000 ≤ M 19 m ∧ M 19 m ≤ 50000) ∧ (-50000 ≤ M 20 m ∧ M 20 m ≤ 50000) ∧ (-50000 ≤ M 21 m ∧ M 21 m ≤ 50000) ∧ 0 < M 22 m ∧ M 22 m ≤ 5000
def Shd (S : p3 → Prop) : pt → Prop := fun p => ∃ q, S q ∧ p = (q.1, q.2.1)
theorem MTI_rng {M : av_M} {cov : Int → Int → Int → Prop} (h : MTI M cov) : MR M (M 18 8) := fun m m0 m1 => by
  obtain ⟨i, j, k, hA⟩ := h.2.1 m m0 m1
  exact hA.2.2.1
theorem MTI_bits {M : av_M} {cov : Int → Int → Int → Prop} (h : MTI M cov) {m : Int} (m0 : 0 ≤ m) (m1 : m < M 18 8) : (0 ≤ M 23 m ∧ M 23 m < 1024) ∧ (0 ≤ M 24 m ∧ M 24 m < 1024) ∧ (0 ≤ M 25 m ∧ M 25 m < 1024) := by
  obtain ⟨i, j, k, hA⟩ := h.2.1 m m0 m1
  exact ⟨⟨hA.2.2.2.1.1, hA.2.2.2.1.2.1⟩, ⟨hA.2.2.2.2.2.1.1, hA.2.2.2.2.2.1.2.1⟩, ⟨hA.2.2.2.2.2.2.1, hA.2.2.2.2.2.2.2.1⟩⟩
theorem MTR_bits {M : av_M} {cov : Int → Int → Prop} (h : MTR M cov) {r : Int} (r0 : 0 ≤ r) (r1 : r < M 18 9) : 0 ≤ M 26 r ∧ M 26 r < 1024 := by
  obtain ⟨i, j, hA⟩ := h.2.1 r r0 r1
  exact ⟨hA.2.2.1, hA.2.2.2.1⟩
theorem WI_nz {A B C D : Int → Int} {s on : Int} (h : WI A B C D s on) : ∀ i : Nat, (i : Int) < s → (WL A B C D i).1 ≠ z3 := fun i hi e => by
  have b := (h.2.2.1 i (by omega) hi).2.2.2.2
  apply b
  have e1 : (A (i : Int) : Rat) = 0 := congrArg (fun p => p.1) e
  have e2 : (B (i : Int) : Rat) = 0 := congrArg (fun p => p.2.1) e
  have e3 : (C (i : Int) : Rat) = 0 := congrArg (fun p => p.2.2) e
  exact ⟨by exact_mod_cast e1, by exact_mod_cast e2, by exact_mod_cast e3⟩
