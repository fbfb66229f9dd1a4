/-! ===== the memory of two new objects ===== -/
def M0 : av_M := fun k j => if (k = 9 ∧ (j = 2 ∨ j = 3)) ∨ (k = 35 ∧ (j = 19 ∨ j = 20)) then 1 else 0
theorem M0_z {k : Nat} (h : k ≠ 9) (h' : k ≠ 35) : M0 k = fun _ => 0 := by
  funext j
  unfold M0
  rw [if_neg]
  omega
theorem Enum0 {α : Type} {R : α → α → Prop} {S : α → Prop} {f : Nat → α} (h : ∀ p, ¬ S p) : Enum R S (0 : Int).toNat f := by
  refine ⟨fun i j _ hj => ?_, fun p => ⟨fun q => absurd q (h p), fun ⟨i, hi, _⟩ => ?_⟩⟩
  · exact absurd hj (Nat.not_lt_zero j)
  · exact absurd hi (Nat.not_lt_zero i)
theorem OO0 {X Y W R : Int → Int} {S : pt → Prop} (h : ∀ p, ¬ S p) : OO X Y W R 0 0 S := by
  refine ⟨⟨Int.le_refl 0, fun j a b => ?_, Enum0 h⟩, Int.le_refl 0, fun _ => rfl, fun i a b => ?_, fun q => ?_⟩
  · omega
  · omega
  · omega
theorem Sg0 (i : Nat) : ¬ Sg 0 i := by
  unfold Sg
  simp
theorem VX0 {w : wl} {p : p3} : ¬ VX w (Sg 0) p := by
  rintro ⟨_, i, j, k, h, _⟩
  exact Sg0 i h
theorem JR0 {M : av_M} (z : ∀ k, k ≠ 9 → k ≠ 35 → ∀ j, M k j = 0) (a : M 9 2 = 1 ∧ M 9 3 = 1) (b : M 35 0 = 0 ∧ M 35 19 = 1 ∧ M 35 20 = 1 ∧ M 35 23 = 0) : JR M := by
  have e13 : M 1 3 = 0 := z 1 (by decide) (by decide) 3
  have e44 : M 4 4 = 0 := z 4 (by decide) (by decide) 4
  have e45 : M 4 5 = 0 := z 4 (by decide) (by decide) 5
  have e124 : M 12 4 = 0 := z 12 (by decide) (by decide) 4
  have e125 : M 12 5 = 0 := z 12 (by decide) (by decide) 5
  have e134 : M 13 4 = 0 := z 13 (by decide) (by decide) 4
  have e135 : M 13 5 = 0 := z 13 (by decide) (by decide) 5
  have e188 : M 18 8 = 0 := z 18 (by decide) (by decide) 8
  have e189 : M 18 9 = 0 := z 18 (by decide) (by decide) 9
  have e284 : M 28 4 = 0 := z 28 (by decide) (by decide) 4
  have e285 : M 28 5 = 0 := z 28 (by decide) (by decide) 5
  have e331 : M 33 1 = 0 := z 33 (by decide) (by decide) 1
  have e10 := z 10 (by decide) (by decide)
  have e11 := z 11 (by decide) (by decide)
  have x45 := z 45 (by decide) (by decide)
  have x46 := z 46 (by decide) (by decide)
  have x50 := z 50 (by decide) (by decide)
  have x51 := z 51 (by decide) (by decide)
  have x52 := z 52 (by decide) (by decide)
  have x53 := z 53 (by decide) (by decide)
  have hFS : ∀ p, ¬ FS 0 (M 2) (M 3) p := by
    rintro p ⟨j, j0, j1, _⟩
    omega
  have hBV : ∀ p, ¬ BV M p := by
    intro p h
    unfold BV at h
    rw [e135] at h
    exact VX0 h
  have hSh : ∀ p, ¬ Shd (BV M) p := by
    rintro p ⟨q, hq, _⟩
    exact hBV q hq
  have hC : CI M := by
    refine ⟨⟨by omega, fun j j0 j1 => by omega, ?_⟩, ⟨by omega, by omega, fun j _ _ => by rw [e10]; decide, fun j _ _ => by rw [e11]; decide⟩, ⟨?_, ⟨?_, ?_, by omega, by omega⟩, ?_, by omega, ?_, ?_, by omega⟩, Or.inl e331⟩
    · unfold FIm
      rw [e13, e44, e45]
      refine ⟨OO0 hFS, by decide, fun j j0 j1 => ?_⟩
      omega
    · unfold WIm
      rw [e134, e135]
      refine ⟨Int.le_refl 0, by decide, fun j j0 j1 => ?_, Int.le_refl 0, by decide, fun j hj => absurd hj (Sg0 j)⟩
      omega
    · unfold MTI
      rw [e134, e188]
      refine ⟨Int.le_refl 0, fun m h0 h1 => ?_, fun i j k i0 i1 i2 i3 => ?_⟩
      · omega
      · omega
    · unfold MTR
      rw [e134, e189]
      refine ⟨Int.le_refl 0, fun m h0 h1 => ?_, fun i j i0 i1 => ?_⟩
      · omega
      · omega
    · rw [e124]
      refine ⟨Int.le_refl 0, fun j j0 j1 => ?_, Enum0 hBV⟩
      omega
    · rw [e125]
      refine (b01_f (fun h => ?_)).symm
      obtain ⟨⟨p, hp⟩, _⟩ := h
      rw [e135] at hp
      exact VX0 hp
    · rw [e284, e285]
      exact OO0 hSh
  refine ⟨hC, ⟨by omega, fun j j0 j1 => by omega⟩, ⟨by omega, by omega, fun j _ _ => by rw [x50]; decide, fun j _ _ => by rw [x51]; decide⟩, ⟨by omega, fun j j0 j1 => by omega, fun k _ _ => by rw [x52]; decide, fun j _ _ => Or.inl (x53 j)⟩, fun n _ _ => ⟨Or.inl (x45 _), Or.inl (x46 _)⟩, by omega, fun j j0 j1 => by omega, by omega, fun j _ _ => by rw [x50, x51, e10, e11]; exact ⟨rfl, rfl⟩, by omega, fun j j0 j1 => by omega, ?_⟩
  unfold ONm
  rw [e135, b.2.2.2]
  refine ⟨Int.le_refl 0, by decide, fun j => ⟨fun h => absurd h (Sg0 j), fun h => ?_⟩⟩
  have := h.1
  omega
theorem JR_M0 : JR M0 := JR0 (fun _ h h' j => by rw [M0_z h h']) ⟨by decide, by decide⟩ ⟨by decide, by decide, by decide, by decide⟩
