/-! ===== the reference: idle walls ===== -/
def kp (M : av_M) : Int → p3 := fun k => P3 (M 58 (4 * k)) (M 58 (4 * k + 1)) (M 58 (4 * k + 2)) (M 58 (4 * k + 3))
def KPm (M M1 : av_M) (n : Int) : Prop := ∀ j, 0 ≤ j → j < n → M1 58 (4 * j) = M 54 j ∧ M1 58 (4 * j + 1) = M 55 j ∧ M1 58 (4 * j + 2) = M 56 j ∧ M1 58 (4 * j + 3) = M 57 j
def KPk (M M1 : av_M) : Prop := (∀ f, f ≠ 31 → M1 35 f = M 35 f) ∧ ∀ k, k ≠ 35 → k ≠ 58 → M1 k = M k
theorem KPk.q {M M' : av_M} (h : KPk M M') : RQ M M' := ⟨fun k q => h.2 k (by omega) (by omega), fun f q => h.1 f (by omega), fun k q => h.2 k (by omega) (by omega)⟩
def AK (M : av_M) (c : Int) : Prop := M 35 31 = M 35 26 ∧ ∀ k, 0 ≤ k → k < c → rv M k = kp M k
theorem AK_s {M : av_M} {c : Int} (c0 : 0 ≤ c) : AK M (c + 1) ↔ AK M c ∧ rv M c = kp M c := by
  constructor
  · rintro ⟨h1, h2⟩
    exact ⟨⟨h1, fun k k0 k1 => h2 k k0 (by omega)⟩, h2 c c0 (by omega)⟩
  · rintro ⟨⟨h1, h2⟩, h3⟩
    refine ⟨h1, fun k k0 k1 => ?_⟩
    by_cases q : k = c
    · rw [q]; exact h3
    · exact h2 k k0 (by omega)
theorem AK_w {M : av_M} {c c' : Int} (h : AK M c') (q : c ≤ c') : AK M c := ⟨h.1, fun k k0 k1 => h.2 k k0 (by omega)⟩
def IDr (M : av_M) (on w : Int) : Prop := Sg on w.toNat ∧ Snd (RW M) (fun i => Sg on i ∧ i ≠ w.toNat) ∧ ∀ p, VX (RW M) (fun i => Sg on i ∧ i ≠ w.toNat) p ↔ VX (RW M) (Sg on) p
theorem ONm.b {M : av_M} {on : Int} (h : ONm M on) {w : Int} (w0 : 0 ≤ w) : Sg on w.toNat ↔ w < M 35 23 ∧ M 53 w = 1 := by
  have k := h.2.2 w.toNat
  have e : ((w.toNat : Nat) : Int) = w := by omega
  constructor
  · intro q
    have z : ((w.toNat : Nat) : Int) < M 35 23 ∧ M 53 ((w.toNat : Nat) : Int) = 1 := k.mp q
    rw [e] at z
    exact z
  · intro q
    refine k.mpr ?_
    show ((w.toNat : Nat) : Int) < M 35 23 ∧ M 53 ((w.toNat : Nat) : Int) = 1
    rw [e]
    exact q
theorem RE_same {f g : Int → p3} {n m : Int} {S T : p3 → Prop} (h : RE f n S) (k : RE g m T) : (n = m ∧ ∀ j, 0 ≤ j → j < n → f j = g j) ↔ ∀ p, S p ↔ T p := by
  have n0 := h.1
  have m0 := k.1
  constructor
  · rintro ⟨e, ef⟩ p
    rw [h.2.2 p, k.2.2 p]
    constructor
    · rintro ⟨i, hi, rfl⟩
      exact ⟨i, by omega, ef i (by omega) (by omega)⟩
    · rintro ⟨i, hi, rfl⟩
      exact ⟨i, by omega, (ef i (by omega) (by omega)).symm⟩
  · intro e
    obtain ⟨e1, e2⟩ := Enum_un SO_lx3 h.2 (RE_congr k (fun p => (e p).symm)).2
    refine ⟨by omega, fun j j0 j1 => ?_⟩
    have e3 : f ((j.toNat : Nat) : Int) = g ((j.toNat : Nat) : Int) := e2 j.toNat (by omega)
    rw [show ((j.toNat : Nat) : Int) = j by omega] at e3
    exact e3
set_option maxRecDepth 100000 in
set_option maxHeartbeats 800000 in
theorem l_X8_keep (E : av_E) (d : Nat) (M : av_M) (hn : 0 ≤ M 35 26 ∧ M 35 26 ≤ 120) : ∀ (t : Nat) (i : Int) (M1 : av_M), i + t = M 35 26 → 0 ≤ i → M1 35 31 = M 35 26 → KPm M M1 i → KPk M M1 → av_S E d mX8_keep 10 [(0, vR 35), (1, vI i)] [] M1 (fun res M' => res = none ∧ M' 35 31 = M 35 26 ∧ KPm M M' (M 35 26) ∧ KPk M M') := by
  intro t
  induction t with
  | zero =>
    intro i M1 hi i0 h31 hK hk
    have ei : i = M 35 26 := by omega
    subst ei
    have e26 := hk.1 26 (by decide)
    refine ax_iloadn rfl rfl ?_
    refine ax_aloadn rfl rfl ?_
    refine ax_getI (g := 26) rfl fX8_228 rfl rfl rfl rfl ?_
    refine ax_icmp_ge rfl (by omega) (by omega) (fun h15 => ?_) (fun h15 => ?_)
    · refine ax_vret rfl rfl ?_
      exact ⟨rfl, h31, hK, hk⟩
    · omega
  | succ t ih =>
    intro i M1 hi i0 h31 hK hk
    have e26 := hk.1 26 (by decide)
    have f54 : M1 54 = M 54 := hk.2 54 (by decide) (by decide)
    have f55 : M1 55 = M 55 := hk.2 55 (by decide) (by decide)
    have f56 : M1 56 = M 56 := hk.2 56 (by decide) (by decide)
    have f57 : M1 57 = M 57 := hk.2 57 (by decide) (by decide)
    refine ax_iloadn rfl rfl ?_
    refine ax_aloadn rfl rfl ?_
    refine ax_getI (g := 26) rfl fX8_228 rfl rfl rfl rfl ?_
    refine ax_icmp_ge rfl (by omega) (by omega) (fun h15 => ?_) (fun h15 => ?_)
    · omega
    · refine ax_aloadn rfl rfl ?_
      refine ax_getR rfl fX8_85 rfl rfl ?_
      refine ax_iconst rfl ?_
      refine ax_iloadn rfl rfl ?_
      refine ax_imul rfl ?_
      refine ax_aloadn rfl rfl ?_
      refine ax_getR rfl fX8_73 rfl rfl ?_
      refine ax_iloadn rfl rfl ?_
      refine ax_lald rfl rfl (by omega) ?_
      refine ax_last' rfl rfl (by omega) (fun M31 a31 b31 c31 => ?_)
      refine ax_aloadn rfl rfl ?_
      refine ax_getR rfl fX8_85 rfl rfl ?_
      refine ax_iconst rfl ?_
      refine ax_iloadn rfl rfl ?_
      refine ax_imul rfl ?_
      refine ax_iconst rfl ?_
      refine ax_iadd rfl ?_
      refine ax_aloadn rfl rfl ?_
      refine ax_getR rfl fX8_76 rfl rfl ?_
      refine ax_iloadn rfl rfl ?_
      refine ax_lald rfl rfl (by omega) ?_
      refine ax_last' rfl rfl (by omega) (fun M47 a47 b47 c47 => ?_)
      refine ax_aloadn rfl rfl ?_
      refine ax_getR rfl fX8_85 rfl rfl ?_
      refine ax_iconst rfl ?_
      refine ax_iloadn rfl rfl ?_
      refine ax_imul rfl ?_
      refine ax_iconst rfl ?_
      refine ax_iadd rfl ?_
      refine ax_aloadn rfl rfl ?_
      refine ax_getR rfl fX8_79 rfl rfl ?_
      refine ax_iloadn rfl rfl ?_
      refine ax_lald rfl rfl (by omega) ?_
      refine ax_last' rfl rfl (by omega) (fun M63 a63 b63 c63 => ?_)
      refine ax_aloadn rfl rfl ?_
      refine ax_getR rfl fX8_85 rfl rfl ?_
      refine ax_iconst rfl ?_
      refine ax_iloadn rfl rfl ?_
      refine ax_imul rfl ?_
      refine ax_iconst rfl ?_
      refine ax_iadd rfl ?_
      refine ax_aloadn rfl rfl ?_
      refine ax_getR rfl fX8_82 rfl rfl ?_
      refine ax_iloadn rfl rfl ?_
      refine ax_lald rfl rfl (by omega) ?_
      refine ax_last' rfl rfl (by omega) (fun M79 a79 b79 c79 => ?_)
      refine ax_iinc (ls' := [(0, _), (1, _)]) rfl rfl rfl rfl ?_
      refine ax_goto rfl ?_
      have c : ∀ k, k ≠ 58 → M79 k = M1 k := fun k q => by rw [c79 k q, c63 k q, c47 k q, c31 k q]
      rw [c63 57 (by decide), c47 57 (by decide), c31 57 (by decide), f57] at a79
      rw [c47 56 (by decide), c31 56 (by decide), f56] at a63
      rw [c31 55 (by decide), f55] at a47
      rw [f54] at a31
      refine ih (i + 1) M79 (by omega) (by omega) (by rw [c 35 (by decide)]; exact h31) (fun j j0 j1 => ?_) ⟨fun f hf => by rw [c 35 (by decide)]; exact hk.1 f hf, fun k k0 k1 => by rw [c k k1]; exact hk.2 k k0 k1⟩
      by_cases q : j = i
      · subst q
        refine ⟨?_, ?_, ?_, a79⟩
        · rw [b79 _ (by omega), b63 _ (by omega), b47 _ (by omega)]; exact a31
        · rw [b79 _ (by omega), b63 _ (by omega)]; exact a47
        · rw [b79 _ (by omega)]; exact a63
      · obtain ⟨x1, x2, x3, x4⟩ := hK j j0 (by omega)
        refine ⟨?_, ?_, ?_, ?_⟩
        · rw [b79 _ (by omega), b63 _ (by omega), b47 _ (by omega), b31 _ (by omega)]; exact x1
        · rw [b79 _ (by omega), b63 _ (by omega), b47 _ (by omega), b31 _ (by omega)]; exact x2
        · rw [b79 _ (by omega), b63 _ (by omega), b47 _ (by omega), b31 _ (by omega)]; exact x3
        · rw [b79 _ (by omega), b63 _ (by omega), b47 _ (by omega), b31 _ (by omega)]; exact x4
set_option maxRecDepth 100000 in
set_option maxHeartbeats 800000 in
theorem c_X8_keep (E : av_E) (d : Nat) (M : av_M) (hn : 0 ≤ M 35 26 ∧ M 35 26 ≤ 120) : av_Mt E d mX8_keep [vR 35] M (fun res M' => res = none ∧ M' 35 31 = M 35 26 ∧ KPm M M' (M 35 26) ∧ KPk M M') := by
  refine av_enter hX8_keep oX8_keep rfl rfl ?_
  refine ax_aloadn rfl rfl ?_
  refine ax_aloadn rfl rfl ?_
  refine ax_getI (g := 26) rfl fX8_228 rfl rfl rfl rfl ?_
  refine ax_putI' (g := 31) rfl gX8_275 rfl rfl rfl rfl (fun M5 a5 b5 c5 => ?_)
  refine ax_iconst rfl ?_
  refine ax_istoren (ls' := [(0, _), (1, _)]) rfl rfl rfl ?_
  exact l_X8_keep E d M hn (M 35 26).toNat 0 M5 (by omega) (by omega) a5 (fun j j0 j1 => by omega) ⟨b5, fun k k0 _ => c5 k k0⟩
set_option maxRecDepth 100000 in
set_option maxHeartbeats 800000 in
theorem l_X8_areKept (E : av_E) (d : Nat) (M : av_M) (hn : 0 ≤ M 35 26 ∧ M 35 26 ≤ 120) (hG : RG M (M 35 26)) (hK : ∀ j, 0 ≤ j → j < M 35 31 → B3 (M 58 (4 * j)) (M 58 (4 * j + 1)) (M 58 (4 * j + 2)) (M 58 (4 * j + 3))) : ∀ (t : Nat) (c : Int), c + t = M 35 26 → 0 ≤ c → av_S E (d + 2) mX8_areKept 19 [(0, vR 35), (1, vI (b01 (AK M c))), (2, vI c)] [] M (av_X (some (vI (b01 (AK M (M 35 26))))) M) := by
  intro t
  induction t with
  | zero =>
    intro c hc c0
    have ec : c = M 35 26 := by omega
    subst ec
    have b := b01_rng (AK M (M 35 26))
    refine ax_iloadn rfl rfl ?_
    refine ax_aloadn rfl rfl ?_
    refine ax_getI (g := 26) rfl fX8_228 rfl rfl rfl rfl ?_
    refine ax_icmp_ge rfl (by omega) (by omega) (fun h24 => ?_) (fun h24 => ?_)
    · refine ax_iloadn rfl rfl ?_
      refine ax_zret rfl rfl (by omega) ?_
      exact av_rI rfl
    · omega
  | succ t ih =>
    intro c hc c0
    have ih2 := ih (c + 1) (by omega) (by omega)
    have b := b01_rng (AK M c)
    have st := AK_s (M := M) c0
    have Gc := hG c c0 (by omega)
    have hA : b01 (AK M c) = 1 → AK M c := fun q => b01_ne (by omega)
    have Kc : b01 (AK M c) = 1 → B3 (M 58 (4 * c)) (M 58 (4 * c + 1)) (M 58 (4 * c + 2)) (M 58 (4 * c + 3)) := fun q => hK c c0 (by have := (hA q).1; omega)
    have oz : b01 (AK M c) = 1 → (od (M 54 c) (M 55 c) (M 56 c) (M 57 c) (M 58 (4 * c)) (M 58 (4 * c + 1)) (M 58 (4 * c + 2)) (M 58 (4 * c + 3)) = 0 ↔ rv M c = kp M c) := fun q => od_zero Gc.2.2.2.1 (Kc q).2.2.2.1
    have orr := od_rng (M 54 c) (M 55 c) (M 56 c) (M 57 c) (M 58 (4 * c)) (M 58 (4 * c + 1)) (M 58 (4 * c + 2)) (M 58 (4 * c + 3))
    refine ax_iloadn rfl rfl ?_
    refine ax_aloadn rfl rfl ?_
    refine ax_getI (g := 26) rfl fX8_228 rfl rfl rfl rfl ?_
    refine ax_icmp_ge rfl (by omega) (by omega) (fun h24 => ?_) (fun h24 => ?_)
    · refine ax_iloadn rfl rfl ?_
      refine ax_zret rfl rfl (by omega) ?_
      first
        | omega
        | (have e0 : b01 (AK M c) = 0 := by omega
           exact av_rI (by rw [e0]; exact (b01_f (fun q => b01_eq e0 (AK_w q (by omega)))).symm))
    · refine ax_iloadn rfl rfl ?_
      refine ax_if_eq rfl (by omega) (fun h28 => ?_) (fun h28 => ?_)
      · refine ax_iloadn rfl rfl ?_
        refine ax_zret rfl rfl (by omega) ?_
        first
          | omega
          | (have e0 : b01 (AK M c) = 0 := by omega
             exact av_rI (by rw [e0]; exact (b01_f (fun q => b01_eq e0 (AK_w q (by omega)))).symm))
      · refine ax_aloadn rfl rfl ?_
        refine ax_iloadn rfl rfl ?_
        refine ax_aloadn rfl rfl ?_
        refine ax_getR rfl fX8_85 rfl rfl ?_
        refine ax_iconst rfl ?_
        refine ax_iloadn rfl rfl ?_
        refine ax_imul rfl ?_
        refine ax_lald rfl rfl (by omega) ?_
        refine ax_aloadn rfl rfl ?_
        refine ax_getR rfl fX8_85 rfl rfl ?_
        refine ax_iconst rfl ?_
        refine ax_iloadn rfl rfl ?_
        refine ax_imul rfl ?_
        refine ax_iconst rfl ?_
        refine ax_iadd rfl ?_
        refine ax_lald rfl rfl (by omega) ?_
        refine ax_aloadn rfl rfl ?_
        refine ax_getR rfl fX8_85 rfl rfl ?_
        refine ax_iconst rfl ?_
        refine ax_iloadn rfl rfl ?_
        refine ax_imul rfl ?_
        refine ax_iconst rfl ?_
        refine ax_iadd rfl ?_
        refine ax_lald rfl rfl (by omega) ?_
        refine ax_aloadn rfl rfl ?_
        refine ax_getR rfl fX8_85 rfl rfl ?_
        refine ax_iconst rfl ?_
        refine ax_iloadn rfl rfl ?_
        refine ax_imul rfl ?_
        refine ax_iconst rfl ?_
        refine ax_iadd rfl ?_
        refine ax_lald rfl rfl (by omega) ?_
        refine ax_callV (as := [_, _, _, _, _]) rfl vX8_231 hX8_order rfl rfl rfl rfl rfl (c_X8_order E d M c _ _ _ _ (by omega) Gc (Kc (by omega))) (av_Xk ?_)
        refine ax_if_ne rfl (by omega) (fun h74 => ?_) (fun h74 => ?_)
        · refine ax_iconst rfl ?_
          refine ax_istoren (ls' := [(0, _), (1, _), (2, _)]) rfl rfl rfl ?_
          refine ax_iinc (ls' := [(0, _), (1, _), (2, _)]) rfl rfl rfl rfl ?_
          refine ax_goto rfl ?_
          first
            | omega
            | (have e : b01 (AK M (c + 1)) = 1 := b01_t (st.mpr ⟨hA (by omega), (oz (by omega)).mp (by omega)⟩)
               rw [e] at ih2
               exact ih2)
            | (have e : b01 (AK M (c + 1)) = 0 := b01_f (fun q => by have := (oz (by omega)).mpr (st.mp q).2; omega)
               rw [e] at ih2
               exact ih2)
        · refine ax_iconst rfl ?_
          refine ax_goto rfl ?_
          refine ax_istoren (ls' := [(0, _), (1, _), (2, _)]) rfl rfl rfl ?_
          refine ax_iinc (ls' := [(0, _), (1, _), (2, _)]) rfl rfl rfl rfl ?_
          refine ax_goto rfl ?_
          first
            | omega
            | (have e : b01 (AK M (c + 1)) = 1 := b01_t (st.mpr ⟨hA (by omega), (oz (by omega)).mp (by omega)⟩)
               rw [e] at ih2
               exact ih2)
            | (have e : b01 (AK M (c + 1)) = 0 := b01_f (fun q => by have := (oz (by omega)).mpr (st.mp q).2; omega)
               rw [e] at ih2
               exact ih2)
set_option maxRecDepth 100000 in
set_option maxHeartbeats 800000 in
theorem c_X8_areKept (E : av_E) (d : Nat) (M : av_M) (hn : 0 ≤ M 35 26 ∧ M 35 26 ≤ 120) (h31 : 0 ≤ M 35 31 ∧ M 35 31 ≤ 120) (hG : RG M (M 35 26)) (hK : ∀ j, 0 ≤ j → j < M 35 31 → B3 (M 58 (4 * j)) (M 58 (4 * j + 1)) (M 58 (4 * j + 2)) (M 58 (4 * j + 3))) : av_Mt E (d + 2) mX8_areKept [vR 35] M (av_X (some (vI (b01 (AK M (M 35 26))))) M) := by
  have k := l_X8_areKept E d M hn hG hK (M 35 26).toNat 0 (by omega) (by omega)
  refine av_enter hX8_areKept oX8_areKept rfl rfl ?_
  refine ax_aloadn rfl rfl ?_
  refine ax_getI (g := 31) rfl fX8_275 rfl rfl rfl rfl ?_
  refine ax_aloadn rfl rfl ?_
  refine ax_getI (g := 26) rfl fX8_228 rfl rfl rfl rfl ?_
  refine ax_icmp_ne rfl (by omega) (by omega) (fun h8 => ?_) (fun h8 => ?_)
  · refine ax_iconst rfl ?_
    refine ax_istoren (ls' := [(0, _), (1, _)]) rfl rfl rfl ?_
    refine ax_iconst rfl ?_
    refine ax_istoren (ls' := [(0, _), (1, _), (2, _)]) rfl rfl rfl ?_
    first
      | (have e : b01 (AK M 0) = 1 := b01_t ⟨by omega, fun k k0 k1 => by omega⟩
         rw [e] at k
         exact k)
      | (have e : b01 (AK M 0) = 0 := b01_f (fun q => by have := q.1; omega)
         rw [e] at k
         exact k)
  · refine ax_iconst rfl ?_
    refine ax_goto rfl ?_
    refine ax_istoren (ls' := [(0, _), (1, _)]) rfl rfl rfl ?_
    refine ax_iconst rfl ?_
    refine ax_istoren (ls' := [(0, _), (1, _), (2, _)]) rfl rfl rfl ?_
    first
      | (have e : b01 (AK M 0) = 1 := b01_t ⟨by omega, fun k k0 k1 => by omega⟩
         rw [e] at k
         exact k)
      | (have e : b01 (AK M 0) = 0 := b01_f (fun q => by have := q.1; omega)
         rw [e] at k
         exact k)
set_option maxRecDepth 100000 in
set_option maxHeartbeats 800000 in
theorem c_X8_isIdle (E : av_E) (d : Nat) (M : av_M) (hR : RWm M) (on : Int) (hon : ONm M on) (w : Int) (hw : 0 ≤ w ∧ w < M 35 23) (hb : Sg on w.toNat) : av_Mt E (d + 5) mX8_isIdle [vR 35, vI w] M (fun res M' => res = some (vI (b01 (IDr M on w))) ∧ RQ M M') := by
  have hw10 := hR.1
  obtain ⟨r, er, r0, r1, rb⟩ := bit_clr hon.r.1 hon.r.2 (show 0 ≤ w ∧ w < 10 by omega)
  have eS : Sg r = fun i => Sg on i ∧ i ≠ w.toNat := by
    funext i
    apply propext
    unfold Sg
    rw [rb i, Bool.and_eq_true]
    refine and_congr Iff.rfl ?_
    rw [Bool.not_eq_true', decide_eq_false_iff_not]
    constructor
    · intro h q; exact h (by omega)
    · intro h q; exact h (by omega)
  have hot : ∀ j : Nat, r.toNat.testBit j = true → (j : Int) < M 35 23 := fun j q => by
    rw [rb j, Bool.and_eq_true] at q
    exact hon.t j q.1
  refine av_enter hX8_isIdle oX8_isIdle rfl rfl ?_
  refine ax_aloadn rfl rfl ?_
  refine ax_callV (as := []) rfl vX8_255 hX8_setOn rfl rfl rfl rfl rfl (c_X8_setOn1 E (d + 4) M hR on hon) (av_Xk ?_)
  refine ax_istoren (ls' := [(0, _), (1, _), (2, _)]) rfl rfl rfl ?_
  refine ax_aloadn rfl rfl ?_
  refine ax_iloadn rfl rfl ?_
  refine ax_callV (as := [_]) rfl vX8_247 hX8_layVertices rfl rfl rfl rfl rfl (c_X8_layVertices E (d + 1) M hR on hon.r hon.t) (fun r7 M7 hr7 => ?_)
  obtain ⟨rfl, v1, v2, v3, v4⟩ := hr7
  have hq7 := RK.q v4
  have v20 := v2.1
  have v2' : RE (rv M7) (M7 35 26) (VX (RW M) (Sg on)) := v2
  refine ax_aloadn rfl rfl ?_
  refine ax_callV (as := []) rfl vX8_278 hX8_keep rfl rfl rfl rfl rfl (c_X8_keep E (d + 4) M7 (by omega)) (fun r11 M11 hr11 => ?_)
  obtain ⟨rfl, k1, k2, k3⟩ := hr11
  have hq11 := hq7.tr k3.q
  have e23 : M11 35 23 = M 35 23 := hq11.2.1 23 (by omega)
  refine ax_aloadn rfl rfl ?_
  refine ax_iloadn rfl rfl ?_
  refine ax_iconst rfl ?_
  refine ax_iloadn rfl rfl ?_
  refine ax_ishl rfl ?_
  refine ax_iconst rfl ?_
  refine ax_ixor rfl ?_
  refine ax_iand rfl ?_
  refine ax_callV (as := [_]) rfl vX8_258 hX8_isSound rfl rfl rfl rfl rfl (by rw [er]; exact c_X8_isSound E d M11 (hR.k hq11) r ⟨r0, r1⟩ (by rw [e23]; exact hot)) (fun r22 M22 hr22 => ?_)
  obtain ⟨rfl, s1, s2, s3, s4⟩ := hr22
  have hq22 := hq11.tr (RK.q s4)
  have eW : RW M11 = RW M := RW_k (hq11.2.2 52 (by omega))
  rw [eW, eS] at s2
  have f31 : M22 35 31 = M7 35 26 := by rw [s4.1 31 (by decide), k1]
  have f58 : M22 58 = M11 58 := s4.2 58 (by decide) (by decide) (by decide) (by decide) (by decide)
  have hK : ∀ j, 0 ≤ j → j < M22 35 31 → B3 (M22 58 (4 * j)) (M22 58 (4 * j + 1)) (M22 58 (4 * j + 2)) (M22 58 (4 * j + 3)) := fun j j0 j1 => by
    obtain ⟨x1, x2, x3, x4⟩ := k2 j j0 (by omega)
    rw [f58, x1, x2, x3, x4]
    exact v1 j j0 (by omega)
  have s20 := s2.1
  have hsame : AK M22 (M22 35 26) ↔ ∀ p, VX (RW M) (fun i => Sg on i ∧ i ≠ w.toNat) p ↔ VX (RW M) (Sg on) p := by
    rw [← RE_same s2 v2']
    unfold AK
    constructor
    · rintro ⟨q1, q2⟩
      refine ⟨by omega, fun j j0 j1 => ?_⟩
      rw [q2 j j0 j1]
      obtain ⟨x1, x2, x3, x4⟩ := k2 j j0 (by omega)
      unfold kp rv
      rw [f58, x1, x2, x3, x4]
    · rintro ⟨q1, q2⟩
      refine ⟨by omega, fun j j0 j1 => ?_⟩
      rw [q2 j j0 j1]
      obtain ⟨x1, x2, x3, x4⟩ := k2 j j0 (by omega)
      unfold kp rv
      rw [f58, x1, x2, x3, x4]
  rw [eW, eS]
  have bs := b01_rng (Snd (RW M) (fun i => Sg on i ∧ i ≠ w.toNat))
  have ba := b01_rng (AK M22 (M22 35 26))
  refine ax_if_eq rfl (by omega) (fun h25 => ?_) (fun h25 => ?_)
  · refine ax_iconst rfl ?_
    refine ax_zret rfl rfl (by omega) ?_
    refine av_rq ?_ hq22
    first
      | exact (b01_t ⟨hb, b01_ne (by omega), hsame.mp (b01_ne (by omega))⟩).symm
      | exact (b01_f (fun q => b01_eq (P := AK M22 (M22 35 26)) (by omega) (hsame.mpr q.2.2))).symm
      | exact (b01_f (fun q => b01_eq (P := Snd (RW M) (fun i => Sg on i ∧ i ≠ w.toNat)) (by omega) q.2.1)).symm
  · refine ax_aloadn rfl rfl ?_
    refine ax_callV (as := []) rfl vX8_281 hX8_areKept rfl rfl rfl rfl rfl (c_X8_areKept E (d + 2) M22 (by omega) (by omega) s1 hK) (av_Xk ?_)
    refine ax_if_eq rfl (by omega) (fun h32 => ?_) (fun h32 => ?_)
    · refine ax_iconst rfl ?_
      refine ax_zret rfl rfl (by omega) ?_
      refine av_rq ?_ hq22
      first
        | exact (b01_t ⟨hb, b01_ne (by omega), hsame.mp (b01_ne (by omega))⟩).symm
        | exact (b01_f (fun q => b01_eq (P := AK M22 (M22 35 26)) (by omega) (hsame.mpr q.2.2))).symm
        | exact (b01_f (fun q => b01_eq (P := Snd (RW M) (fun i => Sg on i ∧ i ≠ w.toNat)) (by omega) q.2.1)).symm
    · refine ax_iconst rfl ?_
      refine ax_goto rfl ?_
      refine ax_zret rfl rfl (by omega) ?_
      refine av_rq ?_ hq22
      first
        | exact (b01_t ⟨hb, b01_ne (by omega), hsame.mp (b01_ne (by omega))⟩).symm
        | exact (b01_f (fun q => b01_eq (P := AK M22 (M22 35 26)) (by omega) (hsame.mpr q.2.2))).symm
        | exact (b01_f (fun q => b01_eq (P := Snd (RW M) (fun i => Sg on i ∧ i ≠ w.toNat)) (by omega) q.2.1)).symm
set_option maxRecDepth 100000 in
set_option maxHeartbeats 800000 in
theorem c_X8_idle (E : av_E) (d : Nat) (M : av_M) (hR : RWm M) (on : Int) (hon : ONm M on) (w : Int) (hiw : -2147483648 ≤ w ∧ w < 2147483648) : av_Mt E (d + 8) mX8_idle [vR 35, vI w] M (fun res M' => res = some (vI (if ¬ (0 ≤ w ∧ w < M 35 23) then (-900000001) else if b01 (Snd (RW M) (Sg on)) = 0 then (-900000003) else b01 (IDr M on w))) ∧ RQ M M') := by
  have hc0 := b01_c (0 ≤ w ∧ w ≤ M 35 23 - 1)
  have hw := hR.1
  have bs := b01_rng (Snd (RW M) (Sg on))
  have bi := b01_rng (IDr M on w)
  have ow : 0 ≤ w ∧ w < M 35 23 → M 53 w = 0 ∨ M 53 w = 1 := fun q => hR.2.2.2 w q.1 (by omega)
  refine av_enter hX8_idle oX8_idle rfl rfl ?_
  refine ax_aloadn rfl rfl ?_
  refine ax_iloadn rfl rfl ?_
  refine ax_callV (as := [_]) rfl vX8_219 hX8_isWall rfl rfl rfl rfl rfl (c_X8_isWall E (d + 6) M hw w (by omega)) (av_Xk ?_)
  refine ax_if_ne rfl (by omega) (fun h5 => ?_) (fun h5 => ?_)
  · refine ax_aloadn rfl rfl ?_
    refine ax_aloadn rfl rfl ?_
    refine ax_callV (as := []) rfl vX8_255 hX8_setOn rfl rfl rfl rfl rfl (c_X8_setOn1 E (d + 7) M hR on hon) (av_Xk ?_)
    refine ax_callV (as := [_]) rfl vX8_258 hX8_isSound rfl rfl rfl rfl rfl (c_X8_isSound E (d + 3) M hR on hon.r hon.t) (fun r16 M16 hr16 => ?_)
    obtain ⟨rfl, v1, v2, v3, v4⟩ := hr16
    have hq := RK.q v4
    have e53 := hq.2.2 53 (by omega)
    refine ax_if_ne rfl (by omega) (fun h19 => ?_) (fun h19 => ?_)
    · rw [← e53] at ow
      refine ax_aloadn rfl rfl ?_
      refine ax_getR rfl fX8_69 rfl rfl ?_
      refine ax_iloadn rfl rfl ?_
      refine ax_bald rfl rfl (by omega) ?_
      refine ax_if_eq rfl (by omega) (fun h31 => ?_) (fun h31 => ?_)
      · refine ax_iconst rfl ?_
        refine ax_iret rfl rfl ?_
        first
          | exact av_rq (by rw [if_neg (by omega), if_neg (by omega)]; omega) (hq.tr hq2)
          | (have e : b01 (IDr M on w) = 0 := b01_f (fun q => by
               have := ((hon.b (by omega)).mp q.1).2
               rw [← e53] at this
               omega)
             exact av_rq (by rw [if_neg (by omega), if_neg (by omega), e]) hq)
      · refine ax_aloadn rfl rfl ?_
        refine ax_iloadn rfl rfl ?_
        refine ax_callV (as := [_]) rfl vX8_284 hX8_isIdle rfl rfl rfl rfl rfl (c_X8_isIdle E (d + 2) M16 (hR.k hq) on (hon.k hq) w (by rw [hq.2.1 23 (by omega)]; omega) ((hon.b (by omega)).mpr ⟨by omega, by rw [← e53]; omega⟩)) (fun r36 M36 hr36 => ?_)
        obtain ⟨rfl, hq2⟩ := hr36
        have eI : IDr M16 on w = IDr M on w := by unfold IDr; rw [RW_k (hq.2.2 52 (by omega))]
        rw [eI]
        refine ax_if_eq rfl (by omega) (fun h39 => ?_) (fun h39 => ?_)
        · refine ax_iconst rfl ?_
          refine ax_iret rfl rfl ?_
          first
            | exact av_rq (by rw [if_neg (by omega), if_neg (by omega)]; omega) (hq.tr hq2)
            | (have e : b01 (IDr M on w) = 0 := b01_f (fun q => by
                 have := ((hon.b (by omega)).mp q.1).2
                 rw [← e53] at this
                 omega)
               exact av_rq (by rw [if_neg (by omega), if_neg (by omega), e]) hq)
        · refine ax_iconst rfl ?_
          refine ax_goto rfl ?_
          refine ax_iret rfl rfl ?_
          first
            | exact av_rq (by rw [if_neg (by omega), if_neg (by omega)]; omega) (hq.tr hq2)
            | (have e : b01 (IDr M on w) = 0 := b01_f (fun q => by
                 have := ((hon.b (by omega)).mp q.1).2
                 rw [← e53] at this
                 omega)
               exact av_rq (by rw [if_neg (by omega), if_neg (by omega), e]) hq)
    · refine ax_ldc (z := (-900000003)) rfl kX8_137 rfl ?_
      refine ax_iret rfl rfl ?_
      exact av_rq (by rw [if_neg (by omega), if_pos (by omega)]) hq
  · refine ax_ldc (z := (-900000001)) rfl kX8_105 rfl ?_
    refine ax_iret rfl rfl ?_
    exact av_rq (by rw [if_pos (by omega)]) (RQ.rf M)
