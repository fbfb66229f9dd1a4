/-! ===== call by call: the same answer (idle walls, the fewest, blow, count, about) ===== -/
section PR
variable {E : av_E} {M : av_M}
theorem p_count (h : JR M) (k : Int) (h1 : -2147483648 ≤ k ∧ k < 2147483648) : PRq E mX7_count mX8_count [vI k] M isI := by
  refine ⟨_, c_X7_count E 0 M h.1 k h1, fun r M' a => ?_⟩
  obtain ⟨rfl, rfl⟩ := a
  refine ⟨_, c_X8_count E 0 M' h.2.2.2.1 k h1, fun r' M'' b => ?_⟩
  obtain ⟨⟨v, hv, rfl⟩, rfl⟩ := b
  refine ⟨?_, ⟨_, rfl, _, rfl⟩, h⟩
  have e : v = M'' 13 5 := bset_un hv (ONc h)
  obtain ⟨x0, _, ⟨x2, x3⟩, _, x5, _⟩ := h.2.2.2.2.2
  rw [e, x0, x2, x3, x5]
theorem p_about (h : JR M) (w k : Int) (h1 : -2147483648 ≤ w ∧ w < 2147483648) (h2 : -2147483648 ≤ k ∧ k < 2147483648) : PRq E mX7_about mX8_about [vI w, vI k] M isI := by
  have hR := h.2.2.2.1
  refine pr_exX h (c_X7_about E 0 M h.1 w k h1 h2) (c_X8_about E 0 M hR.1 hR.2.2.2 w k h1 h2) ?_
  obtain ⟨_, _, _, _, x5, x6, _⟩ := h.2.2.2.2.2
  rw [x5]
  by_cases a : ¬ (0 ≤ w ∧ w < M 13 4)
  · rw [if_pos a, if_pos a]
  · rw [if_neg a, if_neg a]
    by_cases b : ¬ (0 ≤ k ∧ k ≤ 4)
    · rw [if_pos b, if_pos b]
    · rw [if_neg b, if_neg b]
      obtain ⟨y1, y2, y3, y4⟩ := x6 w (by omega) (by omega)
      unfold rA at y1
      unfold rB at y2
      unfold rC at y3
      unfold rD at y4
      by_cases k4 : k = 4
      · rw [if_pos k4, if_neg (by omega), if_neg (by omega), if_neg (by omega), if_neg (by omega)]
        have hb : (M 13 5).toNat.testBit w.toNat = true ↔ w < M 35 23 ∧ M 53 w = 1 := (ONc h).b (w := w) (by omega)
        rcases hR.2.2.2 w (by omega) (by have := hR.1; omega) with z | z
        · rw [z, b01_f (fun q => by have := (hb.mp q).2; omega)]
        · rw [z, b01_t (hb.mpr ⟨by omega, z⟩)]
      · rw [if_neg k4]
        rcases (show k = 0 ∨ k = 1 ∨ k = 2 ∨ k = 3 by omega) with q | q | q | q
        · rw [if_pos q, q, Int.add_zero, y1]
        · rw [if_neg (by omega), if_pos q, q, y2]
        · rw [if_neg (by omega), if_neg (by omega), if_pos q, q, y3]
        · rw [if_neg (by omega), if_neg (by omega), if_neg (by omega), if_pos q, q, y4]
theorem Idl_iff (h : JR M) (hS : Snd (WM M) (Sg (M 13 5))) {w : Int} (hw : 0 ≤ w ∧ w < M 13 4) : Idl M w ↔ IDr M (M 13 5) w := by
  have hB := h.1.2.2.1
  have hB0 := hB
  obtain ⟨hW, hM, _⟩ := hB
  have w10 := hW.2.1
  obtain ⟨⟨o0, o1⟩, ob⟩ := oth_rng hB0 (w := w) (by omega)
  have eS : Sg (oth M w) = fun i => Sg (M 13 5) i ∧ i ≠ w.toNat := by
    funext i
    apply propext
    unfold Sg
    rw [ob i, Bool.and_eq_true, Bool.not_eq_true', decide_eq_false_iff_not]
    refine and_congr Iff.rfl ?_
    constructor
    · intro q z; exact q (by omega)
    · intro q z; exact q (by omega)
  have hot : ∀ j : Nat, (oth M w).toNat.testBit j = true → (j : Int) < M 13 4 := fun j q => by
    rw [ob j, Bool.and_eq_true] at q
    exact on_lt h q.1
  by_cases hb : (M 13 5).toNat.testBit w.toNat = true
  · have ii := idle_iff (w := WM M) (σ := Sg (M 13 5)) (s := (M 13 4).toNat) (fun i si => by have := on_lt h si; omega) (fun i si => WI_nz hW i (on_lt h si)) hS (k := w.toNat) hb
    have c1 := cEnd_iff (A := M 14) (B := M 15) (C := M 16) (D := M 17) hM.2.1 (set := oth M w) hot
    have c2 : (∀ m, 0 ≤ m → m < M 18 8 → IV (M 23) (M 24) m (oth M w) → ¬ (M 24 m).toNat.testBit w.toNat = true) ↔ ∀ p, VX (WM M) (Sg (oth M w)) p → dt (WM M w.toNat).1 p ≤ (WM M w.toNat).2 := by
      have vi := fun p => VX_iff hM.1 (set := oth M w) hot hW.2.1 p
      have bm : ∀ m, 0 ≤ m → m < M 18 8 → ((M 24 m).toNat.testBit w.toNat = true ↔ (WM M w.toNat).2 < dt (WM M w.toNat).1 (pm M m)) := fun m m0 m1 => by
        obtain ⟨i, j, k, a1, a2, a3, a4, a5, a6, a7⟩ := hM.1.2.1 m m0 m1
        rw [a6.2.2 w.toNat]
        have := ex_pos (A := M 14) (B := M 15) (C := M 16) (D := M 17) (n := w.toNat) (x := M 19 m) (y := M 20 m) (z := M 21 m) a3.2.2.2.1
        constructor
        · rintro ⟨_, q⟩; exact this.mp q
        · intro q; exact ⟨by omega, this.mpr q⟩
      constructor
      · intro q p hp
        obtain ⟨m, m0, m1, iv, rfl⟩ := (vi p).mp hp
        have z := q m m0 m1 iv
        rw [bm m m0 m1] at z
        have z' : ¬ (WM M w.toNat).2 < dt (WM M w.toNat).1 (P3 (M 19 m) (M 20 m) (M 21 m) (M 22 m)) := z
        grind
      · intro q m m0 m1 iv
        rw [bm m m0 m1]
        have z := q (pm M m) ((vi _).mpr ⟨m, m0, m1, iv, rfl⟩)
        grind
    have lt' : ∀ i, (Sg (M 13 5) i ∧ i ≠ w.toNat) → (i : Int) < M 13 4 := fun i si => on_lt h si.1
    unfold Idl IDr
    rw [Snde h lt', VXe h lt', VXe h (fun i si => on_lt h si), ← ii, c2, eS]
    have c1' : cEnd (WM M) (M 13 4).toNat (fun i => Sg (M 13 5) i ∧ i ≠ w.toNat) ↔ IE (M 26) (M 18 9) (oth M w) := by rw [← eS]; exact c1
    rw [c1']
    exact Iff.rfl
  · unfold Idl IDr
    constructor
    · rintro ⟨q, _⟩; exact absurd q hb
    · rintro ⟨q, _⟩; exact absurd q hb
theorem p_idle (h : JR M) (w : Int) (h1 : -2147483648 ≤ w ∧ w < 2147483648) : PRq E mX7_idle mX8_idle [vI w] M isI :=
  pr_ex h (c_X7_idle E 0 M h.1 w h1) (c_X8_idle E 0 M h.2.2.2.1 _ (ONc h) w h1) (by
    have x5 := h.2.2.2.2.2.2.2.2.2.1
    rw [x5, S125 h]
    by_cases a : ¬ (0 ≤ w ∧ w < M 13 4)
    · rw [if_pos a, if_pos a]
    · rw [if_neg a, if_neg a]
      by_cases b : M 12 5 = 0
      · rw [if_pos b, if_pos b]
      · rw [if_neg b, if_neg b]
        have s := S125 h
        have hS : Snd (RW M) (Sg (M 13 5)) := b01_ne (by omega)
        exact (b01_iff (Idl_iff h ((Snde h (fun i si => on_lt h si)).mp hS) (w := w) (by omega))).symm)
theorem PS_SHr (h : JR M) (h3 : 3 ≤ M 4 5) (q : Int) : PS M (M 13 5) q ↔ SHr M (M 13 5) (M 4 5) (fun k => M 5 (M 8 k)) (fun k => M 6 (M 8 k)) q := by
  have hB := h.1.2.2.1
  obtain ⟨hW, hM, _⟩ := hB
  have FG0 := FGc h
  have n0 : 0 < M 35 0 := by have := FG0.2.2.1; omega
  have HF := FG0.2.2.2.2 n0
  have HC : Hull (FS (M 35 0) (M 36) (M 37)) (M 4 5).toNat (cn (M 5) (M 6) (M 7) (M 8)) := Hull_congr HF (fun i hi => cn_h h hi)
  unfold PS SHr
  refine and_congr_right (fun hsub => ?_)
  have hlt : ∀ i, Sg q i → (i : Int) < M 13 4 := fun i si => on_lt h (hsub i si)
  have vi := fun p => VX_iff hM.1 (set := q) hlt hW.2.1 p
  have c1 := cEnd_iff (A := M 14) (B := M 15) (C := M 16) (D := M 17) hM.2.1 (set := q) hlt
  have si := Snd_iff (w := WM M) (σ := Sg q) (s := (M 13 4).toNat) (fun i s => by have := hlt i s; omega) (fun i s => WI_nz hW i (hlt i s))
  have c1' : cEnd (WM M) (M 13 4).toNat (Sg q) ↔ IE (M 26) (M 18 9) q := c1
  rw [c1'] at si
  rw [Snde h hlt, VXe h hlt, si]
  have hh : ∀ p, HH M p ↔ Inn (M 4 5).toNat (cn (M 5) (M 6) (M 7) (M 8)) p := fun p => (InO_HdM (OOh h) p).trans (InO_3 (by omega))
  have sh : ∀ p, Shd (VX (WM M) (Sg q)) p ↔ ∃ m, 0 ≤ m ∧ m < M 18 8 ∧ IV (M 23) (M 24) m q ∧ p = p2 M m := fun p => by
    constructor
    · rintro ⟨v, hv, rfl⟩
      obtain ⟨m, m0, m1, iv, rfl⟩ := (vi v).mp hv
      exact ⟨m, m0, m1, iv, rfl⟩
    · rintro ⟨m, m0, m1, iv, rfl⟩
      exact ⟨pm M m, (vi _).mpr ⟨m, m0, m1, iv, rfl⟩, rfl⟩
  unfold SHW
  constructor
  · rintro ⟨a, b, c⟩
    have hex : ∃ p, VX (WM M) (Sg q) p := by
      obtain ⟨m, m0, m1, iv, _⟩ := b 0 (by omega)
      exact ⟨_, (vi _).mpr ⟨m, m0, m1, iv, rfl⟩⟩
    refine ⟨⟨hex, c⟩, by omega, ?_⟩
    have := Hull_same HC (by omega) (S' := Shd (VX (WM M) (Sg q))) (fun p hp => by
      obtain ⟨m, m0, m1, iv, rfl⟩ := (sh p).mp hp
      exact (hh _).mp (a m m0 m1 iv)) (fun i hi => by
      obtain ⟨m, m0, m1, iv, e⟩ := b i (by omega)
      exact (sh _).mpr ⟨m, m0, m1, iv, e⟩)
    exact Hull_congr this (fun i hi => (cn_h h hi).symm)
  · rintro ⟨⟨_, c⟩, _, H⟩
    have H2 : Hull (Shd (VX (WM M) (Sg q))) (M 4 5).toNat (cn (M 5) (M 6) (M 7) (M 8)) := Hull_congr H (fun i hi => cn_h h hi)
    refine ⟨fun m m0 m1 iv => ?_, fun j hj => ?_, c⟩
    · exact (hh _).mpr (Hull_inn H2 ((sh _).mpr ⟨m, m0, m1, iv, rfl⟩))
    · obtain ⟨m, m0, m1, iv, e⟩ := (sh _).mp (H2.2.1 j (by omega))
      exact ⟨m, m0, m1, iv, e⟩
theorem CHW_cz (h : JR M) {c b : Int} (a : CHW M c) (d : BFr (SHr M (M 13 5) (M 4 5) (fun k => M 5 (M 8 k)) (fun k => M 6 (M 8 k))) b) : c = cz b := by
  have czN : b = -900000009 → cz b = 0 := fun q => by unfold cz; rw [if_pos q]
  have czB : 0 < b → cz b = b := fun q => by unfold cz; rw [if_neg (by omega)]
  rcases a with ⟨h3, rfl⟩ | ⟨h3, bs⟩
  · rcases BFr_r d with q | ⟨hP, b0, _⟩
    · exact (czN q).symm
    · exfalso
      have := hP.2.2.1
      omega
  · have pe := PS_SHr h h3
    rcases bs with ⟨rfl, no⟩ | ⟨hc, c0, c1, m0, cmin⟩
    · rcases BFr_r d with q | ⟨hP, b0, b1⟩
      · exact (czN q).symm
      · exfalso
        obtain ⟨⟨z0, z1⟩, z2, _⟩ := mI_all (x := b) ⟨by omega, b1⟩
        refine no (mI b) ?_ z1 (by rw [z2]; exact (pe b).mpr hP)
        rcases (show mI b = 0 ∨ 0 < mI b by omega) with y | y
        · rw [y, mI_0] at z2; omega
        · exact y
    · rcases d with ⟨q, no⟩ | ⟨hP, b0, b1, bmin⟩
      · exact absurd ((pe c).mp hc) (no c c0 c1)
      · obtain ⟨⟨z0, z1⟩, z2, z3⟩ := mI_all (x := b) ⟨by omega, b1⟩
        obtain ⟨⟨y0, y1⟩, y2, y3⟩ := mI_all (x := c) ⟨by omega, c1⟩
        have mb0 : 0 < mI b := by
          rcases (show mI b = 0 ∨ 0 < mI b by omega) with y | y
          · rw [y, mI_0] at z2; omega
          · exact y
        have k1 := cmin (mI b) mb0 z1 (by rw [z2]; exact (pe b).mpr hP)
        have k2 := bmin c c0 c1 ((pe c).mp hc)
        rw [z3] at k1
        have e : mI b = mI c := by omega
        rw [czB b0, ← y2, ← e, z2]
/-- what the reference needs, after the class has only changed what it keeps for itself -/
theorem JR_35 {M' : av_M} (d : KR M M') : M' 35 = M 35 ∧ M' 36 = M 36 ∧ M' 37 = M 37 ∧ M' 52 = M 52 ∧ M' 53 = M 53 ∧ M' 50 = M 50 ∧ M' 51 = M 51 :=
  ⟨d 35 (by decide), d 36 (by decide), d 37 (by decide), d 52 (by decide), d 53 (by decide), d 50 (by decide), d 51 (by decide)⟩
theorem p_fewest (h : JR M) : PRq E mX7_fewest mX8_fewest [] M isI := by
  refine ⟨_, c_X7_fewest E 0 M h.1, fun r M' a => ?_⟩
  obtain ⟨⟨c, hc, rfl⟩, k1, k2, k3, k4, k5⟩ := a
  have hJ := JR_k h k1 k2 k3 k4 k5
  obtain ⟨e35, e36, e37, e52, e53, _, _⟩ := JR_35 k5
  have on' : ONm M' (M 13 5) := by unfold ONm; rw [e35, e53]; exact ONc h
  have fg' : FG (M' 35 0) (M' 36) (M' 37) (M 4 5) (fun k => M 5 (M 8 k)) (fun k => M 6 (M 8 k)) := by rw [e35, e36, e37]; exact FGc h
  refine ⟨_, c_X8_fewest E 0 M' hJ.2.2.2.1 _ on' hJ.2.1 _ _ _ fg', fun r' M'' b => ?_⟩
  obtain ⟨⟨b, hb, rfl⟩, q⟩ := b
  rw [SHr_k e52] at hb
  refine ⟨?_, ⟨_, rfl, _, rfl⟩, JR_q hJ q⟩
  have e := CHW_cz h hc hb
  rcases BFr_r hb with z | ⟨_, b0, _⟩
  · have : cz b = 0 := by unfold cz; rw [if_pos z]
    rw [if_pos z, e, this, if_pos rfl]
  · have : cz b = b := by unfold cz; rw [if_neg (by omega)]
    rw [if_neg (by omega), e, this, if_neg (by omega)]
theorem NB_un {c i z z' : Int} (hc : 0 ≤ c ∧ c < 1024) (a : NB c i z) (b : NB c i z') : z = z' := by
  have mono : ∀ x : Nat, ∀ n m : Nat, n ≤ m → popc x n ≤ popc x m := by
    intro x n m hnm
    induction m with
    | zero => rw [show n = 0 by omega]; exact Nat.le_refl _
    | succ m ih =>
      by_cases q : n = m + 1
      · rw [q]; exact Nat.le_refl _
      · have := ih (by omega)
        show popc x n ≤ popc x m + (if x.testBit m then 1 else 0)
        omega
  have strict : ∀ x : Nat, ∀ n m : Nat, n < m → x.testBit n = true → popc x n < popc x m := by
    intro x n m hnm hb
    have k := mono x (n + 1) m (by omega)
    have e : popc x (n + 1) = popc x n + (if x.testBit n then 1 else 0) := rfl
    rw [if_pos hb] at e
    omega
  rcases a with ⟨a0, a1, a2, a3⟩ | ⟨a1, a2⟩
  · rcases b with ⟨b0, b1, b2, b3⟩ | ⟨b1, b2⟩
    · have ep : popc c.toNat z.toNat = popc c.toNat z'.toNat := by omega
      rcases (show z.toNat < z'.toNat ∨ z.toNat = z'.toNat ∨ z'.toNat < z.toNat by omega) with q | q | q
      · have := strict _ _ _ q a2; omega
      · omega
      · have := strict _ _ _ q b2; omega
    · exact absurd a3 (b2 z.toNat (by omega) a2)
  · rcases b with ⟨b0, b1, b2, b3⟩ | ⟨b1, b2⟩
    · exact absurd b3 (a2 z'.toNat (by omega) b2)
    · omega
theorem p_needed (h : JR M) (i : Int) (h1 : -2147483648 ≤ i ∧ i < 2147483648) : PRq E mX7_needed mX8_needed [vI i] M isI := by
  refine ⟨_, c_X7_needed E 0 M h.1 i h1, fun r M' a => ?_⟩
  obtain ⟨⟨c, z, hc, rfl, hz⟩, k1, k2, k3, k4, k5⟩ := a
  have hJ := JR_k h k1 k2 k3 k4 k5
  obtain ⟨e35, e36, e37, e52, e53, _, _⟩ := JR_35 k5
  have on' : ONm M' (M 13 5) := by unfold ONm; rw [e35, e53]; exact ONc h
  have fg' : FG (M' 35 0) (M' 36) (M' 37) (M 4 5) (fun k => M 5 (M 8 k)) (fun k => M 6 (M 8 k)) := by rw [e35, e36, e37]; exact FGc h
  refine ⟨_, c_X8_needed E 0 M' hJ.2.2.2.1 _ on' hJ.2.1 _ _ _ fg' i h1, fun r' M'' b => ?_⟩
  obtain ⟨⟨b, z', hb, rfl, hz'⟩, q⟩ := b
  rw [SHr_k e52] at hb
  refine ⟨?_, ⟨_, rfl, _, rfl⟩, JR_q hJ q⟩
  have e := CHW_cz h hc hb
  have cr := CHW_rng hc
  rw [← e] at hz'
  rw [NB_un cr hz' hz]
theorem p_high (h : JR M) : PRq E mX7_high mX8_high [] M isI := by
  refine ⟨_, c_X7_high E 0 M h.1, fun r M' a => ?_⟩
  rcases a with ⟨a1, rfl, rfl⟩ | ⟨a1, f, c, hf, hc, rfl, k1, k2, k3, k4, k5⟩
  · refine ⟨_, c_X8_high E 0 M' h.2.2.2.1 _ (ONc h) h.2.1 _ _ _ (FGc h) h.2.2.1, fun r' M'' b => ?_⟩
    obtain ⟨b, q⟩ := b
    rcases b with ⟨b1, rfl⟩ | ⟨b1, _⟩
    · exact ⟨rfl, ⟨_, rfl, _, rfl⟩, JR_q h q⟩
    · exact absurd a1 b1
  · have hJ := JR_k h k1 k2 k3 k4 k5
    obtain ⟨e35, e36, e37, e52, e53, e50, e51⟩ := JR_35 k5
    have on' : ONm M' (M 13 5) := by unfold ONm; rw [e35, e53]; exact ONc h
    have fg' : FG (M' 35 0) (M' 36) (M' 37) (M 4 5) (fun k => M 5 (M 8 k)) (fun k => M 6 (M 8 k)) := by rw [e35, e36, e37]; exact FGc h
    refine ⟨_, c_X8_high E 0 M' hJ.2.2.2.1 _ on' hJ.2.1 _ _ _ fg' hJ.2.2.1, fun r' M'' b => ?_⟩
    obtain ⟨b, q⟩ := b
    rcases b with ⟨b1, _⟩ | ⟨b1, f', b, hf', hb, rfl⟩
    · exact absurd b1 a1
    · rw [SHr_k e52] at hb
      have er : rOK M' (M 4 5) (fun k => M 5 (M 8 k)) (fun k => M 6 (M 8 k)) = rOK M (M 4 5) (fun k => M 5 (M 8 k)) (fun k => M 6 (M 8 k)) := by unfold rOK rfT; rw [e35, e50, e51]
      rw [er] at hf'
      refine ⟨?_, ⟨_, rfl, _, rfl⟩, JR_q hJ q⟩
      have e := CHW_cz h hc hb
      have ef := FWe h hf hf'
      have e19 : M' 35 19 = M 9 2 := by rw [e35]; exact h.2.2.2.2.2.2.2.1.1
      rw [ef, ← e, e19]
theorem p_blow (h : JR M) (u : Int) (h1 : -2147483648 ≤ u ∧ u < 2147483648) : PRq E mX7_blow mX8_blow [vI u] M isL :=
  pr_gen h (c_X7_blow E 0 M h.1 u h1) (c_X8_blow E 0 M h.2.2.2.1 _ (ONc h) _ _ (HUc h) h.2.1 _ _ _ (FGc h) u h1) (fun r r' a b => by
    have s := S125 h
    have ec : (M 12 5 = 1 ∧ M 1 3 ≠ 0 ∧ RNo M) ↔ (Snd (RW M) (Sg (M 13 5)) ∧ M 35 0 ≠ 0 ∧ RNr (M 28 5) (cn (M 29) (M 30) (M 31) (M 32))) := by
      rw [h.2.2.2.2.2.1, ← s]
      constructor
      · rintro ⟨q1, q2, q3⟩; exact ⟨b01_ne (by omega), q2, q3⟩
      · rintro ⟨q1, q2, q3⟩; exact ⟨b01_t q1, q2, q3⟩
    rcases a with ⟨a1, rfl⟩ | ⟨a1, x, rfl, a3⟩
    · rcases b with ⟨b1, rfl⟩ | ⟨b1, y, rfl, b3⟩
      · exact ⟨rfl, _, rfl, _, rfl⟩
      · exact absurd (ec.mpr b1) a1
    · rcases b with ⟨b1, rfl⟩ | ⟨b1, y, rfl, b3⟩
      · exact absurd (ec.mp a1) b1
      · rw [MXc_un b3 a3]
        exact ⟨rfl, _, rfl, _, rfl⟩)
end PR
