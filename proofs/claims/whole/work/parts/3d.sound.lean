/-! ===== the reference: isSound, its contract ===== -/
theorem av_Sw {E : av_E} {d : Nat} {mi : av_mi} {pc : Nat} {ls : av_Ls} {st : List av_V} {M : av_M} {Q Q' : Option av_V → av_M → Prop} (k : av_S E d mi pc ls st M Q) (h : ∀ r M', Q r M' → Q' r M') : av_S E d mi pc ls st M Q' := by
  intro p e R s m args below meth c H locs lsA C hP hS hL T hT X
  obtain ⟨t, a, o, b1, b2, b3, b4⟩ := k p e R s m args below meth c H locs lsA C hP hS hL T hT X
  refine ⟨t, a, o, b1, b2, ?_, b4⟩
  obtain ⟨⟨r, M', e1, e2, e3⟩, e4⟩ := b3
  exact ⟨⟨r, M', e1, h r M' e2, e3⟩, e4⟩
def RW (M : av_M) : wl := WL (rA M) (rB M) (rC M) (rD M)
theorem RW_k {M M' : av_M} (h : M' 52 = M 52) : RW M' = RW M := by unfold RW rA rB rC rD; rw [h]
theorem GE_iff {M : av_M} {set : Int} (u v : Nat) : GE M set u v ↔ (Sg set u ∧ Sg set v) ∧ u ≠ v ∧ xs3 (RW M u).1 (RW M v).1 ≠ z3 ∧ ∀ t : Nat, (t : Int) < M 35 23 → Sg set t → dt (RW M t).1 (xs3 (RW M u).1 (RW M v).1) ≤ 0 := by
  unfold GE Sg RW
  rw [show xs3 (WL (rA M) (rB M) (rC M) (rD M) u).1 (WL (rA M) (rB M) (rC M) (rD M) v).1 ≠ z3 ↔ ¬ (cX M u v = 0 ∧ cY M u v = 0 ∧ cZ M u v = 0) from not_congr xs_z]
  have hd : ∀ t : Nat, exI (rA M) (rB M) (rC M) (rD M) t (cX M u v) (cY M u v) (cZ M u v) 0 ≤ 0 ↔ dt (WL (rA M) (rB M) (rC M) (rD M) t).1 (xs3 (WL (rA M) (rB M) (rC M) (rD M) u).1 (WL (rA M) (rB M) (rC M) (rD M) v).1) ≤ 0 := by
    intro t
    rw [xs_dt]
    have e : exI (rA M) (rB M) (rC M) (rD M) t (cX M u v) (cY M u v) (cZ M u v) 0 = rA M t * (rB M u * rC M v - rC M u * rB M v) + rB M t * (rC M u * rA M v - rA M u * rC M v) + rC M t * (rA M u * rB M v - rB M u * rA M v) := by
      unfold exI
      have : rD M t * 0 = 0 := by omega
      rw [this]
      have e2 : ∀ z : Int, z - 0 = z := fun z => by omega
      rw [e2]
      rfl
    rw [e]
    constructor
    · intro h; exact_mod_cast h
    · intro h; exact_mod_cast h
  constructor
  · rintro ⟨h1, h2, h3, h4⟩
    refine ⟨h1, fun q => h2 (by rw [q]), h3, fun t ht hs => (hd t).mp (h4 t ht hs)⟩
  · rintro ⟨h1, h2, h3, h4⟩
    refine ⟨h1, fun q => h2 (by omega), h3, fun t ht hs => (hd t).mpr (h4 t ht hs)⟩
theorem SPu_Snd {M : av_M} {set : Int} (hon : ∀ j : Nat, set.toNat.testBit j = true → (j : Int) < M 35 23) (hE : RE (rv M) (M 35 26) (VX (RW M) (Sg set))) (h0 : 0 ≤ M 35 23) : SPu M set (M 35 23) 0 ↔ Snd (RW M) (Sg set) := by
  have hv : (∃ p, VX (RW M) (Sg set) p) ↔ 0 < M 35 26 := by
    constructor
    · rintro ⟨p, hp⟩
      obtain ⟨i, hi, -⟩ := (hE.2.2 p).mp hp
      omega
    · intro h
      exact ⟨_, RE_in hE (j := 0) (by omega) h⟩
  unfold Snd
  rw [hv]
  constructor
  · rintro ⟨h1, h2⟩
    refine ⟨h1, ?_⟩
    rintro ⟨i, j, si, sj, hx, hr⟩
    refine h2 i j (by omega) (hon i si) (by omega) (hon j sj) (Or.inl (hon i si)) ((GE_iff i j).mpr ⟨⟨si, sj⟩, ?_, hx, fun t _ st => hr t st⟩)
    rintro rfl
    apply hx
    unfold xs3 z3
    refine p3_ext ?_ ?_ ?_ <;> (dsimp only; grind)
  · rintro ⟨h1, h2⟩
    refine ⟨h1, fun a b a0 a1 b0 b1 _ g => h2 ?_⟩
    have ea : ((a.toNat : Nat) : Int) = a := by omega
    have eb : ((b.toNat : Nat) : Int) = b := by omega
    rw [← ea, ← eb] at g
    obtain ⟨⟨sa, sb⟩, _, hx, hr⟩ := (GE_iff _ _).mp g
    exact ⟨_, _, sa, sb, hx, fun t st => hr t (hon t st) st⟩
set_option maxRecDepth 100000 in
set_option maxHeartbeats 800000 in
theorem c_X8_isSound (E : av_E) (d : Nat) (M : av_M) (hR : RWm M) (set : Int) (hset : 0 ≤ set ∧ set < 1024) (hon : ∀ j : Nat, set.toNat.testBit j = true → (j : Int) < M 35 23) : av_Mt E (d + 4) mX8_isSound [vR 35, vI set] M (fun res M' => res = some (vI (b01 (Snd (RW M) (Sg set)))) ∧ RG M' (M' 35 26) ∧ RE (rv M') (M' 35 26) (VX (RW M) (Sg set)) ∧ M' 35 26 ≤ 120 ∧ RK M M') := by
  have hs := hR.1
  refine av_enter hX8_isSound oX8_isSound rfl rfl ?_
  refine ax_aloadn rfl rfl ?_
  refine ax_iloadn rfl rfl ?_
  refine ax_callV (as := [_]) rfl vX8_247 hX8_layVertices rfl rfl rfl rfl rfl (c_X8_layVertices E d M hR set hset hon) (fun r2 M2 hr2 => ?_)
  obtain ⟨rfl, v1, v2, v3, v4⟩ := hr2
  have hkw := v4.w
  have hR2 : RWm M2 := RWm_congr hR hkw
  have eW := RW_k hkw.2.1
  have hE2 : RE (rv M2) (M2 35 26) (VX (RW M2) (Sg set)) := by rw [eW]; exact v2
  have v20 := v2.1
  have hst : ¬ M2 35 26 ≤ 0 → SPu M2 set 0 0 := fun q => ⟨by omega, fun a b a0 a1 b0 b1 c => by omega⟩
  have kk := l1_X8_isSound E (d + 3) M2 hR2 set hset (M2 35 23).toNat 0 (by omega) (by omega)
  have es := SPu_Snd (M := M2) (set := set) (by rw [hkw.1]; exact hon) hE2 (by omega)
  rw [b01_iff es, eW] at kk
  have kq : av_S E (d + 4) mX8_isSound 20 [(0, vR 35), (1, vI set), (2, vI (b01 (SPu M2 set 0 0))), (3, vI 0)] [] M2 (fun res M' => res = some (vI (b01 (Snd (RW M) (Sg set)))) ∧ RG M' (M' 35 26) ∧ RE (rv M') (M' 35 26) (VX (RW M) (Sg set)) ∧ M' 35 26 ≤ 120 ∧ RK M M') := av_Sw kk (fun r M' hq => ⟨hq.1, by rw [hq.2]; exact ⟨v1, v2, v3, v4⟩⟩)
  refine ax_aloadn rfl rfl ?_
  refine ax_getI (g := 26) rfl fX8_228 rfl rfl rfl rfl ?_
  refine ax_if_le rfl (by omega) (fun h9 => ?_) (fun h9 => ?_)
  · refine ax_iconst rfl ?_
    refine ax_istoren (ls' := [(0, _), (1, _), (2, _)]) rfl rfl rfl ?_
    refine ax_iconst rfl ?_
    refine ax_istoren (ls' := [(0, _), (1, _), (2, _), (3, _)]) rfl rfl rfl ?_
    first
      | (have e : b01 (SPu M2 set 0 0) = 1 := b01_t (hst (by omega))
         rw [e] at kq
         exact kq)
      | (have e : b01 (SPu M2 set 0 0) = 0 := b01_f (fun q => by have := q.1; omega)
         rw [e] at kq
         exact kq)
  · refine ax_iconst rfl ?_
    refine ax_goto rfl ?_
    refine ax_istoren (ls' := [(0, _), (1, _), (2, _)]) rfl rfl rfl ?_
    refine ax_iconst rfl ?_
    refine ax_istoren (ls' := [(0, _), (1, _), (2, _), (3, _)]) rfl rfl rfl ?_
    first
      | (have e : b01 (SPu M2 set 0 0) = 1 := b01_t (hst (by omega))
         rw [e] at kq
         exact kq)
      | (have e : b01 (SPu M2 set 0 0) = 0 := b01_f (fun q => by have := q.1; omega)
         rw [e] at kq
         exact kq)
