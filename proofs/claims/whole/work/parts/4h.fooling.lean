/-! ===== the reference: fooling pairs laid ===== -/
theorem bit01 {P : Prop} [Decidable P] : (if P then (1 : Int) else 0) = b01 P := by
  by_cases q : P
  · rw [if_pos q, b01_t q]
  · rw [if_neg q, b01_f q]
theorem d8 (a : Nat) : (a : Int).tdiv 8 = ((a / 8 : Nat) : Int) ∧ (a : Int).tmod 8 = ((a % 8 : Nat) : Int) := by
  constructor
  · rw [Int.tdiv_eq_ediv_of_nonneg (by omega)]; omega
  · rw [Int.tmod_eq_emod_of_nonneg (by omega)]; omega
def FOm (M M1 : av_M) (n a : Nat) : Prop := (∀ k, k ≠ 49 → M1 k = M k) ∧ ∀ a' : Nat, a' < a → M1 49 (a' : Int) = ((foV n a' 64 : Nat) : Int)
theorem RQ.k49 {M M1 : av_M} (h : ∀ k, k ≠ 49 → M1 k = M k) : RQ M M1 := ⟨fun k q => h k (by omega), fun f q => by rw [h 35 (by decide)], fun k q => h k (by omega)⟩
set_option maxRecDepth 100000 in
set_option maxHeartbeats 800000 in
theorem l2_X8_layFooling (E : av_E) (d : Nat) (M : av_M) (n : Nat) (hn8 : n ≤ 8) (h13 : M 35 13 = ((aoV n : Nat) : Int)) (hop : ∀ e : Nat, e < n → M 44 (e : Int) = ((opV n e : Nat) : Int)) (a : Nat) (ha : a < 64) (nxt0 : ∀ M2 : av_M, FOm M M2 n a → M2 49 (a : Int) = ((foV n a 64 : Nat) : Int) → av_S E (d + 1) mX8_layFooling 128 [(0, vR 35), (1, vI (a : Int)), (2, vI 64)] [] M2 (fun res M' => res = none ∧ (∀ a : Nat, a < 64 → M' 49 (a : Int) = ((foV n a 64 : Nat) : Int)) ∧ ∀ k, k ≠ 49 → M' k = M k)) : ∀ (t b : Nat) (M1 : av_M), b + t = 64 → FOm M M1 n a → M1 49 (a : Int) = ((foV n a b : Nat) : Int) → av_S E (d + 1) mX8_layFooling 17 [(0, vR 35), (1, vI (a : Int)), (2, vI (b : Int))] [] M1 (fun res M' => res = none ∧ (∀ a : Nat, a < 64 → M' 49 (a : Int) = ((foV n a 64 : Nat) : Int)) ∧ ∀ k, k ≠ 49 → M' k = M k) := by
  have aol := ao_all n (by omega) n (Nat.le_refl _)
  intro t
  induction t with
  | zero =>
    intro b M1 hb hF hv
    have eb : b = 64 := by omega
    subst eb
    refine ax_iloadn rfl rfl ?_
    refine ax_bipush rfl rfl ?_
    refine ax_icmp_ge rfl (by omega) (by omega) (fun h20 => ?_) (fun h20 => ?_)
    · exact nxt0 M1 hF hv
    · omega
  | succ t ih =>
    intro b M1 hb hF hv
    obtain ⟨f1, f2⟩ := hF
    have e13 : M1 35 13 = ((aoV n : Nat) : Int) := by rw [f1 35 (by decide)]; exact h13
    have ta := bl_n_bit (a := aoV n) (k := a) ha aol
    have tb := bl_n_bit (a := aoV n) (k := b) (by omega) aol
    rw [bit01, ← e13] at ta tb
    have ra := b01_rng ((aoV n).testBit a = true)
    have rb := b01_rng ((aoV n).testBit b = true)
    have Ba := ao_bit n (by omega) a ha
    have Bb := ao_bit n (by omega) b (by omega)
    have qa : b01 ((aoV n).testBit a = true) = 1 → a / 8 < n := fun q => by
      have z := b01_ne (P := (aoV n).testBit a = true) (by omega)
      rw [Ba, Bool.and_eq_true] at z
      exact of_decide_eq_true z.1
    have qb : b01 ((aoV n).testBit b = true) = 1 → b / 8 < n := fun q => by
      have z := b01_ne (P := (aoV n).testBit b = true) (by omega)
      rw [Bb, Bool.and_eq_true] at z
      exact of_decide_eq_true z.1
    have da := d8 a
    have db := d8 b
    have eo : foV n a (b + 1) = foV n a b ||| (if foB n a b then 2 ^ b else 0) := rfl
    have hfo : foB n a b = true ↔ (b01 ((aoV n).testBit a = true) = 1 ∧ b01 ((aoV n).testBit b = true) = 1 ∧ a ≠ b ∧ ¬ (opB n (a / 8) (b % 8) = true ∧ opB n (b / 8) (a % 8) = true)) := by
      unfold foB
      rw [Bool.and_eq_true, Bool.and_eq_true, Bool.and_eq_true, Bool.not_eq_true', Bool.not_eq_true', decide_eq_false_iff_not, ← Bool.not_eq_true, Bool.and_eq_true]
      constructor
      · rintro ⟨⟨⟨x1, x2⟩, x3⟩, x4⟩
        exact ⟨b01_t x1, b01_t x2, x3, x4⟩
      · rintro ⟨x1, x2, x3, x4⟩
        exact ⟨⟨⟨b01_ne (by omega), b01_ne (by omega)⟩, x3⟩, x4⟩
    have r1 := b01_rng ((opV n (a / 8)).testBit (b % 8) = true)
    have r2 := b01_rng ((opV n (b / 8)).testBit (a % 8) = true)
    have l1 := foV_lt hn8 a b
    have bl : b01 ((aoV n).testBit b = true) = 1 → b < 63 := fun q => tb_lt aol (b01_ne (P := (aoV n).testBit b = true) (by omega))
    have hv8 : ∀ e : Nat, e < n → opV n e < 256 := fun e he => (op_all n (by omega) e he).2.2.1 n (Nat.le_refl _)
    have ob : ∀ e : Nat, e < n → ∀ j, j < 8 → (opV n e).testBit j = opB n e j := fun e he j hj => (op_all n (by omega) e he).2.2.2 j hj
    have hop1 : ∀ e : Nat, e < n → M1 44 (e : Int) = ((opV n e : Nat) : Int) := fun e he => by rw [f1 44 (by decide)]; exact hop e he
    refine ax_iloadn rfl rfl ?_
    refine ax_bipush rfl rfl ?_
    refine ax_icmp_ge rfl (by omega) (by omega) (fun h20 => ?_) (fun h20 => ?_)
    · omega
    · refine ax_aloadn rfl rfl ?_
      refine ax_getL (g := 13) rfl fX8_151 rfl rfl rfl rfl ?_
      refine ax_iloadn rfl rfl ?_
      refine ax_lshr rfl ?_
      refine ax_lconst (w := 1) rfl rfl ?_
      refine ax_land rfl ?_
      refine ax_lconst (w := 1) rfl rfl ?_
      refine ax_lif_ne rfl rfl (by rw [ta]; omega) (by omega) (fun h32 => ?_) (fun h32 => ?_)
      · refine ax_iconst rfl ?_
        refine ax_istoren (ls' := [(0, _), (1, _), (2, _), (3, _)]) rfl rfl rfl ?_
        refine ax_iloadn rfl rfl ?_
        refine ax_if_eq rfl (by omega) (fun h61 => ?_) (fun h61 => ?_)
        · refine ax_iconst rfl ?_
          refine ax_istore (ls' := [(0, _), (1, _), (2, _), (3, _), (4, _)]) rfl rfl rfl ?_
          refine ax_aloadn rfl rfl ?_
          refine ax_getR rfl fX8_50 rfl rfl ?_
          refine ax_iloadn rfl rfl ?_
          refine ax_dup2 rfl rfl rfl ?_
          refine ax_lald rfl rfl (by omega) ?_
          refine ax_iload rfl rfl ?_
          refine ax_if_eq rfl (by omega) (fun h110 => ?_) (fun h110 => ?_)
          · refine ax_lconst (w := 0) rfl rfl ?_
            refine ax_lor rfl ?_
            refine ax_last' rfl rfl (by omega) (fun M121 a121 b121 c121 => ?_)
            refine ax_iinc (ls' := [(0, _), (1, _), (2, _), (3, _), (4, _)]) rfl rfl rfl rfl ?_
            refine ax_goto rfl ?_
            refine ax_pick [0, 1, 2] rfl ?_
            refine ih (b + 1) M121 (by omega) ⟨fun k q => by rw [c121 k q]; exact f1 k q, fun a' ha' => by rw [b121 (a' : Int) (by omega)]; exact f2 a' ha'⟩ ?_
            rw [a121, hv, eo]
            first
              | omega
              | (have q : foB n a b = true := hfo.mpr ⟨by omega, by omega, by omega, fun z => by
                   have z1 := b01_t (P := (opV n (a / 8)).testBit (b % 8) = true) (by rw [ob _ (qa (by omega)) _ (by omega)]; exact z.1)
                   have z2 := b01_t (P := (opV n (b / 8)).testBit (a % 8) = true) (by rw [ob _ (qb (by omega)) _ (by omega)]; exact z.2)
                   omega⟩
                 have b63 := bl (by omega)
                 have p1 : 1 * 2 ^ b < 2 ^ 63 := by rw [Nat.one_mul]; exact Nat.pow_lt_pow_right (by decide) b63
                 have sh := bl_n_shl (a := 1) (k := b) (by omega) p1
                 rw [Nat.one_mul] at sh p1
                 rw [if_pos q, show (1 : Int) = ((1 : Nat) : Int) by rfl, sh, bl_n_or l1 p1])
              | (have q : ¬ foB n a b = true := fun w => by
                   have w1 := hfo.mp w
                   have z0 : b01 ((aoV n).testBit a = true) = 1 := w1.1
                   have z00 : b01 ((aoV n).testBit b = true) = 1 := w1.2.1
                   have z3 := w1.2.2.1
                   first
                     | omega
                     | (apply w1.2.2.2
                        have z1 := b01_ne (P := (opV n (a / 8)).testBit (b % 8) = true) (by omega)
                        have z2 := b01_ne (P := (opV n (b / 8)).testBit (a % 8) = true) (by omega)
                        rw [ob _ (qa (by omega)) _ (by omega)] at z1
                        rw [ob _ (qb (by omega)) _ (by omega)] at z2
                        exact ⟨z1, z2⟩)
                 have z := bl_n_or (a := foV n a b) (b := 0) l1 (by decide)
                 rw [if_neg q]
                 exact z)
          · refine ax_lconst (w := 1) rfl rfl ?_
            refine ax_iloadn rfl rfl ?_
            refine ax_lshl rfl ?_
            refine ax_goto rfl ?_
            refine ax_lor rfl ?_
            refine ax_last' rfl rfl (by omega) (fun M121 a121 b121 c121 => ?_)
            refine ax_iinc (ls' := [(0, _), (1, _), (2, _), (3, _), (4, _)]) rfl rfl rfl rfl ?_
            refine ax_goto rfl ?_
            refine ax_pick [0, 1, 2] rfl ?_
            refine ih (b + 1) M121 (by omega) ⟨fun k q => by rw [c121 k q]; exact f1 k q, fun a' ha' => by rw [b121 (a' : Int) (by omega)]; exact f2 a' ha'⟩ ?_
            rw [a121, hv, eo]
            first
              | omega
              | (have q : foB n a b = true := hfo.mpr ⟨by omega, by omega, by omega, fun z => by
                   have z1 := b01_t (P := (opV n (a / 8)).testBit (b % 8) = true) (by rw [ob _ (qa (by omega)) _ (by omega)]; exact z.1)
                   have z2 := b01_t (P := (opV n (b / 8)).testBit (a % 8) = true) (by rw [ob _ (qb (by omega)) _ (by omega)]; exact z.2)
                   omega⟩
                 have b63 := bl (by omega)
                 have p1 : 1 * 2 ^ b < 2 ^ 63 := by rw [Nat.one_mul]; exact Nat.pow_lt_pow_right (by decide) b63
                 have sh := bl_n_shl (a := 1) (k := b) (by omega) p1
                 rw [Nat.one_mul] at sh p1
                 rw [if_pos q, show (1 : Int) = ((1 : Nat) : Int) by rfl, sh, bl_n_or l1 p1])
              | (have q : ¬ foB n a b = true := fun w => by
                   have w1 := hfo.mp w
                   have z0 : b01 ((aoV n).testBit a = true) = 1 := w1.1
                   have z00 : b01 ((aoV n).testBit b = true) = 1 := w1.2.1
                   have z3 := w1.2.2.1
                   first
                     | omega
                     | (apply w1.2.2.2
                        have z1 := b01_ne (P := (opV n (a / 8)).testBit (b % 8) = true) (by omega)
                        have z2 := b01_ne (P := (opV n (b / 8)).testBit (a % 8) = true) (by omega)
                        rw [ob _ (qa (by omega)) _ (by omega)] at z1
                        rw [ob _ (qb (by omega)) _ (by omega)] at z2
                        exact ⟨z1, z2⟩)
                 have z := bl_n_or (a := foV n a b) (b := 0) l1 (by decide)
                 rw [if_neg q]
                 exact z)
        · refine ax_aloadn rfl rfl ?_
          refine ax_iloadn rfl rfl ?_
          refine ax_bipush rfl rfl ?_
          refine ax_idiv rfl (by omega) (by omega) (by omega) ?_
          refine ax_iloadn rfl rfl ?_
          refine ax_bipush rfl rfl ?_
          refine ax_irem rfl (by omega) (by omega) (by omega) ?_
          refine ax_callV (as := [_, _]) rfl vX8_172 hX8_isOpen rfl rfl rfl rfl rfl (by rw [da.1, db.2]; exact c_X8_isOpen E d M1 (a / 8) (b % 8) (opV n (a / 8)) (by omega) (by omega) (hv8 _ (qa (by omega))) (hop1 _ (qa (by omega)))) (av_Xk ?_)
          refine ax_if_eq rfl (by omega) (fun h76 => ?_) (fun h76 => ?_)
          · refine ax_iconst rfl ?_
            refine ax_goto rfl ?_
            refine ax_istore (ls' := [(0, _), (1, _), (2, _), (3, _), (4, _)]) rfl rfl rfl ?_
            refine ax_aloadn rfl rfl ?_
            refine ax_getR rfl fX8_50 rfl rfl ?_
            refine ax_iloadn rfl rfl ?_
            refine ax_dup2 rfl rfl rfl ?_
            refine ax_lald rfl rfl (by omega) ?_
            refine ax_iload rfl rfl ?_
            refine ax_if_eq rfl (by omega) (fun h110 => ?_) (fun h110 => ?_)
            · refine ax_lconst (w := 0) rfl rfl ?_
              refine ax_lor rfl ?_
              refine ax_last' rfl rfl (by omega) (fun M121 a121 b121 c121 => ?_)
              refine ax_iinc (ls' := [(0, _), (1, _), (2, _), (3, _), (4, _)]) rfl rfl rfl rfl ?_
              refine ax_goto rfl ?_
              refine ax_pick [0, 1, 2] rfl ?_
              refine ih (b + 1) M121 (by omega) ⟨fun k q => by rw [c121 k q]; exact f1 k q, fun a' ha' => by rw [b121 (a' : Int) (by omega)]; exact f2 a' ha'⟩ ?_
              rw [a121, hv, eo]
              first
                | omega
                | (have q : foB n a b = true := hfo.mpr ⟨by omega, by omega, by omega, fun z => by
                     have z1 := b01_t (P := (opV n (a / 8)).testBit (b % 8) = true) (by rw [ob _ (qa (by omega)) _ (by omega)]; exact z.1)
                     have z2 := b01_t (P := (opV n (b / 8)).testBit (a % 8) = true) (by rw [ob _ (qb (by omega)) _ (by omega)]; exact z.2)
                     omega⟩
                   have b63 := bl (by omega)
                   have p1 : 1 * 2 ^ b < 2 ^ 63 := by rw [Nat.one_mul]; exact Nat.pow_lt_pow_right (by decide) b63
                   have sh := bl_n_shl (a := 1) (k := b) (by omega) p1
                   rw [Nat.one_mul] at sh p1
                   rw [if_pos q, show (1 : Int) = ((1 : Nat) : Int) by rfl, sh, bl_n_or l1 p1])
                | (have q : ¬ foB n a b = true := fun w => by
                     have w1 := hfo.mp w
                     have z0 : b01 ((aoV n).testBit a = true) = 1 := w1.1
                     have z00 : b01 ((aoV n).testBit b = true) = 1 := w1.2.1
                     have z3 := w1.2.2.1
                     first
                       | omega
                       | (apply w1.2.2.2
                          have z1 := b01_ne (P := (opV n (a / 8)).testBit (b % 8) = true) (by omega)
                          have z2 := b01_ne (P := (opV n (b / 8)).testBit (a % 8) = true) (by omega)
                          rw [ob _ (qa (by omega)) _ (by omega)] at z1
                          rw [ob _ (qb (by omega)) _ (by omega)] at z2
                          exact ⟨z1, z2⟩)
                   have z := bl_n_or (a := foV n a b) (b := 0) l1 (by decide)
                   rw [if_neg q]
                   exact z)
            · refine ax_lconst (w := 1) rfl rfl ?_
              refine ax_iloadn rfl rfl ?_
              refine ax_lshl rfl ?_
              refine ax_goto rfl ?_
              refine ax_lor rfl ?_
              refine ax_last' rfl rfl (by omega) (fun M121 a121 b121 c121 => ?_)
              refine ax_iinc (ls' := [(0, _), (1, _), (2, _), (3, _), (4, _)]) rfl rfl rfl rfl ?_
              refine ax_goto rfl ?_
              refine ax_pick [0, 1, 2] rfl ?_
              refine ih (b + 1) M121 (by omega) ⟨fun k q => by rw [c121 k q]; exact f1 k q, fun a' ha' => by rw [b121 (a' : Int) (by omega)]; exact f2 a' ha'⟩ ?_
              rw [a121, hv, eo]
              first
                | omega
                | (have q : foB n a b = true := hfo.mpr ⟨by omega, by omega, by omega, fun z => by
                     have z1 := b01_t (P := (opV n (a / 8)).testBit (b % 8) = true) (by rw [ob _ (qa (by omega)) _ (by omega)]; exact z.1)
                     have z2 := b01_t (P := (opV n (b / 8)).testBit (a % 8) = true) (by rw [ob _ (qb (by omega)) _ (by omega)]; exact z.2)
                     omega⟩
                   have b63 := bl (by omega)
                   have p1 : 1 * 2 ^ b < 2 ^ 63 := by rw [Nat.one_mul]; exact Nat.pow_lt_pow_right (by decide) b63
                   have sh := bl_n_shl (a := 1) (k := b) (by omega) p1
                   rw [Nat.one_mul] at sh p1
                   rw [if_pos q, show (1 : Int) = ((1 : Nat) : Int) by rfl, sh, bl_n_or l1 p1])
                | (have q : ¬ foB n a b = true := fun w => by
                     have w1 := hfo.mp w
                     have z0 : b01 ((aoV n).testBit a = true) = 1 := w1.1
                     have z00 : b01 ((aoV n).testBit b = true) = 1 := w1.2.1
                     have z3 := w1.2.2.1
                     first
                       | omega
                       | (apply w1.2.2.2
                          have z1 := b01_ne (P := (opV n (a / 8)).testBit (b % 8) = true) (by omega)
                          have z2 := b01_ne (P := (opV n (b / 8)).testBit (a % 8) = true) (by omega)
                          rw [ob _ (qa (by omega)) _ (by omega)] at z1
                          rw [ob _ (qb (by omega)) _ (by omega)] at z2
                          exact ⟨z1, z2⟩)
                   have z := bl_n_or (a := foV n a b) (b := 0) l1 (by decide)
                   rw [if_neg q]
                   exact z)
          · refine ax_aloadn rfl rfl ?_
            refine ax_iloadn rfl rfl ?_
            refine ax_bipush rfl rfl ?_
            refine ax_idiv rfl (by omega) (by omega) (by omega) ?_
            refine ax_iloadn rfl rfl ?_
            refine ax_bipush rfl rfl ?_
            refine ax_irem rfl (by omega) (by omega) (by omega) ?_
            refine ax_callV (as := [_, _]) rfl vX8_172 hX8_isOpen rfl rfl rfl rfl rfl (by rw [da.2, db.1]; exact c_X8_isOpen E d M1 (b / 8) (a % 8) (opV n (b / 8)) (by omega) (by omega) (hv8 _ (qb (by omega))) (hop1 _ (qb (by omega)))) (av_Xk ?_)
            refine ax_if_ne rfl (by omega) (fun h91 => ?_) (fun h91 => ?_)
            · refine ax_iconst rfl ?_
              refine ax_istore (ls' := [(0, _), (1, _), (2, _), (3, _), (4, _)]) rfl rfl rfl ?_
              refine ax_aloadn rfl rfl ?_
              refine ax_getR rfl fX8_50 rfl rfl ?_
              refine ax_iloadn rfl rfl ?_
              refine ax_dup2 rfl rfl rfl ?_
              refine ax_lald rfl rfl (by omega) ?_
              refine ax_iload rfl rfl ?_
              refine ax_if_eq rfl (by omega) (fun h110 => ?_) (fun h110 => ?_)
              · refine ax_lconst (w := 0) rfl rfl ?_
                refine ax_lor rfl ?_
                refine ax_last' rfl rfl (by omega) (fun M121 a121 b121 c121 => ?_)
                refine ax_iinc (ls' := [(0, _), (1, _), (2, _), (3, _), (4, _)]) rfl rfl rfl rfl ?_
                refine ax_goto rfl ?_
                refine ax_pick [0, 1, 2] rfl ?_
                refine ih (b + 1) M121 (by omega) ⟨fun k q => by rw [c121 k q]; exact f1 k q, fun a' ha' => by rw [b121 (a' : Int) (by omega)]; exact f2 a' ha'⟩ ?_
                rw [a121, hv, eo]
                first
                  | omega
                  | (have q : foB n a b = true := hfo.mpr ⟨by omega, by omega, by omega, fun z => by
                       have z1 := b01_t (P := (opV n (a / 8)).testBit (b % 8) = true) (by rw [ob _ (qa (by omega)) _ (by omega)]; exact z.1)
                       have z2 := b01_t (P := (opV n (b / 8)).testBit (a % 8) = true) (by rw [ob _ (qb (by omega)) _ (by omega)]; exact z.2)
                       omega⟩
                     have b63 := bl (by omega)
                     have p1 : 1 * 2 ^ b < 2 ^ 63 := by rw [Nat.one_mul]; exact Nat.pow_lt_pow_right (by decide) b63
                     have sh := bl_n_shl (a := 1) (k := b) (by omega) p1
                     rw [Nat.one_mul] at sh p1
                     rw [if_pos q, show (1 : Int) = ((1 : Nat) : Int) by rfl, sh, bl_n_or l1 p1])
                  | (have q : ¬ foB n a b = true := fun w => by
                       have w1 := hfo.mp w
                       have z0 : b01 ((aoV n).testBit a = true) = 1 := w1.1
                       have z00 : b01 ((aoV n).testBit b = true) = 1 := w1.2.1
                       have z3 := w1.2.2.1
                       first
                         | omega
                         | (apply w1.2.2.2
                            have z1 := b01_ne (P := (opV n (a / 8)).testBit (b % 8) = true) (by omega)
                            have z2 := b01_ne (P := (opV n (b / 8)).testBit (a % 8) = true) (by omega)
                            rw [ob _ (qa (by omega)) _ (by omega)] at z1
                            rw [ob _ (qb (by omega)) _ (by omega)] at z2
                            exact ⟨z1, z2⟩)
                     have z := bl_n_or (a := foV n a b) (b := 0) l1 (by decide)
                     rw [if_neg q]
                     exact z)
              · refine ax_lconst (w := 1) rfl rfl ?_
                refine ax_iloadn rfl rfl ?_
                refine ax_lshl rfl ?_
                refine ax_goto rfl ?_
                refine ax_lor rfl ?_
                refine ax_last' rfl rfl (by omega) (fun M121 a121 b121 c121 => ?_)
                refine ax_iinc (ls' := [(0, _), (1, _), (2, _), (3, _), (4, _)]) rfl rfl rfl rfl ?_
                refine ax_goto rfl ?_
                refine ax_pick [0, 1, 2] rfl ?_
                refine ih (b + 1) M121 (by omega) ⟨fun k q => by rw [c121 k q]; exact f1 k q, fun a' ha' => by rw [b121 (a' : Int) (by omega)]; exact f2 a' ha'⟩ ?_
                rw [a121, hv, eo]
                first
                  | omega
                  | (have q : foB n a b = true := hfo.mpr ⟨by omega, by omega, by omega, fun z => by
                       have z1 := b01_t (P := (opV n (a / 8)).testBit (b % 8) = true) (by rw [ob _ (qa (by omega)) _ (by omega)]; exact z.1)
                       have z2 := b01_t (P := (opV n (b / 8)).testBit (a % 8) = true) (by rw [ob _ (qb (by omega)) _ (by omega)]; exact z.2)
                       omega⟩
                     have b63 := bl (by omega)
                     have p1 : 1 * 2 ^ b < 2 ^ 63 := by rw [Nat.one_mul]; exact Nat.pow_lt_pow_right (by decide) b63
                     have sh := bl_n_shl (a := 1) (k := b) (by omega) p1
                     rw [Nat.one_mul] at sh p1
                     rw [if_pos q, show (1 : Int) = ((1 : Nat) : Int) by rfl, sh, bl_n_or l1 p1])
                  | (have q : ¬ foB n a b = true := fun w => by
                       have w1 := hfo.mp w
                       have z0 : b01 ((aoV n).testBit a = true) = 1 := w1.1
                       have z00 : b01 ((aoV n).testBit b = true) = 1 := w1.2.1
                       have z3 := w1.2.2.1
                       first
                         | omega
                         | (apply w1.2.2.2
                            have z1 := b01_ne (P := (opV n (a / 8)).testBit (b % 8) = true) (by omega)
                            have z2 := b01_ne (P := (opV n (b / 8)).testBit (a % 8) = true) (by omega)
                            rw [ob _ (qa (by omega)) _ (by omega)] at z1
                            rw [ob _ (qb (by omega)) _ (by omega)] at z2
                            exact ⟨z1, z2⟩)
                     have z := bl_n_or (a := foV n a b) (b := 0) l1 (by decide)
                     rw [if_neg q]
                     exact z)
            · refine ax_iconst rfl ?_
              refine ax_goto rfl ?_
              refine ax_istore (ls' := [(0, _), (1, _), (2, _), (3, _), (4, _)]) rfl rfl rfl ?_
              refine ax_aloadn rfl rfl ?_
              refine ax_getR rfl fX8_50 rfl rfl ?_
              refine ax_iloadn rfl rfl ?_
              refine ax_dup2 rfl rfl rfl ?_
              refine ax_lald rfl rfl (by omega) ?_
              refine ax_iload rfl rfl ?_
              refine ax_if_eq rfl (by omega) (fun h110 => ?_) (fun h110 => ?_)
              · refine ax_lconst (w := 0) rfl rfl ?_
                refine ax_lor rfl ?_
                refine ax_last' rfl rfl (by omega) (fun M121 a121 b121 c121 => ?_)
                refine ax_iinc (ls' := [(0, _), (1, _), (2, _), (3, _), (4, _)]) rfl rfl rfl rfl ?_
                refine ax_goto rfl ?_
                refine ax_pick [0, 1, 2] rfl ?_
                refine ih (b + 1) M121 (by omega) ⟨fun k q => by rw [c121 k q]; exact f1 k q, fun a' ha' => by rw [b121 (a' : Int) (by omega)]; exact f2 a' ha'⟩ ?_
                rw [a121, hv, eo]
                first
                  | omega
                  | (have q : foB n a b = true := hfo.mpr ⟨by omega, by omega, by omega, fun z => by
                       have z1 := b01_t (P := (opV n (a / 8)).testBit (b % 8) = true) (by rw [ob _ (qa (by omega)) _ (by omega)]; exact z.1)
                       have z2 := b01_t (P := (opV n (b / 8)).testBit (a % 8) = true) (by rw [ob _ (qb (by omega)) _ (by omega)]; exact z.2)
                       omega⟩
                     have b63 := bl (by omega)
                     have p1 : 1 * 2 ^ b < 2 ^ 63 := by rw [Nat.one_mul]; exact Nat.pow_lt_pow_right (by decide) b63
                     have sh := bl_n_shl (a := 1) (k := b) (by omega) p1
                     rw [Nat.one_mul] at sh p1
                     rw [if_pos q, show (1 : Int) = ((1 : Nat) : Int) by rfl, sh, bl_n_or l1 p1])
                  | (have q : ¬ foB n a b = true := fun w => by
                       have w1 := hfo.mp w
                       have z0 : b01 ((aoV n).testBit a = true) = 1 := w1.1
                       have z00 : b01 ((aoV n).testBit b = true) = 1 := w1.2.1
                       have z3 := w1.2.2.1
                       first
                         | omega
                         | (apply w1.2.2.2
                            have z1 := b01_ne (P := (opV n (a / 8)).testBit (b % 8) = true) (by omega)
                            have z2 := b01_ne (P := (opV n (b / 8)).testBit (a % 8) = true) (by omega)
                            rw [ob _ (qa (by omega)) _ (by omega)] at z1
                            rw [ob _ (qb (by omega)) _ (by omega)] at z2
                            exact ⟨z1, z2⟩)
                     have z := bl_n_or (a := foV n a b) (b := 0) l1 (by decide)
                     rw [if_neg q]
                     exact z)
              · refine ax_lconst (w := 1) rfl rfl ?_
                refine ax_iloadn rfl rfl ?_
                refine ax_lshl rfl ?_
                refine ax_goto rfl ?_
                refine ax_lor rfl ?_
                refine ax_last' rfl rfl (by omega) (fun M121 a121 b121 c121 => ?_)
                refine ax_iinc (ls' := [(0, _), (1, _), (2, _), (3, _), (4, _)]) rfl rfl rfl rfl ?_
                refine ax_goto rfl ?_
                refine ax_pick [0, 1, 2] rfl ?_
                refine ih (b + 1) M121 (by omega) ⟨fun k q => by rw [c121 k q]; exact f1 k q, fun a' ha' => by rw [b121 (a' : Int) (by omega)]; exact f2 a' ha'⟩ ?_
                rw [a121, hv, eo]
                first
                  | omega
                  | (have q : foB n a b = true := hfo.mpr ⟨by omega, by omega, by omega, fun z => by
                       have z1 := b01_t (P := (opV n (a / 8)).testBit (b % 8) = true) (by rw [ob _ (qa (by omega)) _ (by omega)]; exact z.1)
                       have z2 := b01_t (P := (opV n (b / 8)).testBit (a % 8) = true) (by rw [ob _ (qb (by omega)) _ (by omega)]; exact z.2)
                       omega⟩
                     have b63 := bl (by omega)
                     have p1 : 1 * 2 ^ b < 2 ^ 63 := by rw [Nat.one_mul]; exact Nat.pow_lt_pow_right (by decide) b63
                     have sh := bl_n_shl (a := 1) (k := b) (by omega) p1
                     rw [Nat.one_mul] at sh p1
                     rw [if_pos q, show (1 : Int) = ((1 : Nat) : Int) by rfl, sh, bl_n_or l1 p1])
                  | (have q : ¬ foB n a b = true := fun w => by
                       have w1 := hfo.mp w
                       have z0 : b01 ((aoV n).testBit a = true) = 1 := w1.1
                       have z00 : b01 ((aoV n).testBit b = true) = 1 := w1.2.1
                       have z3 := w1.2.2.1
                       first
                         | omega
                         | (apply w1.2.2.2
                            have z1 := b01_ne (P := (opV n (a / 8)).testBit (b % 8) = true) (by omega)
                            have z2 := b01_ne (P := (opV n (b / 8)).testBit (a % 8) = true) (by omega)
                            rw [ob _ (qa (by omega)) _ (by omega)] at z1
                            rw [ob _ (qb (by omega)) _ (by omega)] at z2
                            exact ⟨z1, z2⟩)
                     have z := bl_n_or (a := foV n a b) (b := 0) l1 (by decide)
                     rw [if_neg q]
                     exact z)
      · refine ax_aloadn rfl rfl ?_
        refine ax_getL (g := 13) rfl fX8_151 rfl rfl rfl rfl ?_
        refine ax_iloadn rfl rfl ?_
        refine ax_lshr rfl ?_
        refine ax_lconst (w := 1) rfl rfl ?_
        refine ax_land rfl ?_
        refine ax_lconst (w := 1) rfl rfl ?_
        refine ax_lif_ne rfl rfl (by rw [tb]; omega) (by omega) (fun h45 => ?_) (fun h45 => ?_)
        · refine ax_iconst rfl ?_
          refine ax_istoren (ls' := [(0, _), (1, _), (2, _), (3, _)]) rfl rfl rfl ?_
          refine ax_iloadn rfl rfl ?_
          refine ax_if_eq rfl (by omega) (fun h61 => ?_) (fun h61 => ?_)
          · refine ax_iconst rfl ?_
            refine ax_istore (ls' := [(0, _), (1, _), (2, _), (3, _), (4, _)]) rfl rfl rfl ?_
            refine ax_aloadn rfl rfl ?_
            refine ax_getR rfl fX8_50 rfl rfl ?_
            refine ax_iloadn rfl rfl ?_
            refine ax_dup2 rfl rfl rfl ?_
            refine ax_lald rfl rfl (by omega) ?_
            refine ax_iload rfl rfl ?_
            refine ax_if_eq rfl (by omega) (fun h110 => ?_) (fun h110 => ?_)
            · refine ax_lconst (w := 0) rfl rfl ?_
              refine ax_lor rfl ?_
              refine ax_last' rfl rfl (by omega) (fun M121 a121 b121 c121 => ?_)
              refine ax_iinc (ls' := [(0, _), (1, _), (2, _), (3, _), (4, _)]) rfl rfl rfl rfl ?_
              refine ax_goto rfl ?_
              refine ax_pick [0, 1, 2] rfl ?_
              refine ih (b + 1) M121 (by omega) ⟨fun k q => by rw [c121 k q]; exact f1 k q, fun a' ha' => by rw [b121 (a' : Int) (by omega)]; exact f2 a' ha'⟩ ?_
              rw [a121, hv, eo]
              first
                | omega
                | (have q : foB n a b = true := hfo.mpr ⟨by omega, by omega, by omega, fun z => by
                     have z1 := b01_t (P := (opV n (a / 8)).testBit (b % 8) = true) (by rw [ob _ (qa (by omega)) _ (by omega)]; exact z.1)
                     have z2 := b01_t (P := (opV n (b / 8)).testBit (a % 8) = true) (by rw [ob _ (qb (by omega)) _ (by omega)]; exact z.2)
                     omega⟩
                   have b63 := bl (by omega)
                   have p1 : 1 * 2 ^ b < 2 ^ 63 := by rw [Nat.one_mul]; exact Nat.pow_lt_pow_right (by decide) b63
                   have sh := bl_n_shl (a := 1) (k := b) (by omega) p1
                   rw [Nat.one_mul] at sh p1
                   rw [if_pos q, show (1 : Int) = ((1 : Nat) : Int) by rfl, sh, bl_n_or l1 p1])
                | (have q : ¬ foB n a b = true := fun w => by
                     have w1 := hfo.mp w
                     have z0 : b01 ((aoV n).testBit a = true) = 1 := w1.1
                     have z00 : b01 ((aoV n).testBit b = true) = 1 := w1.2.1
                     have z3 := w1.2.2.1
                     first
                       | omega
                       | (apply w1.2.2.2
                          have z1 := b01_ne (P := (opV n (a / 8)).testBit (b % 8) = true) (by omega)
                          have z2 := b01_ne (P := (opV n (b / 8)).testBit (a % 8) = true) (by omega)
                          rw [ob _ (qa (by omega)) _ (by omega)] at z1
                          rw [ob _ (qb (by omega)) _ (by omega)] at z2
                          exact ⟨z1, z2⟩)
                   have z := bl_n_or (a := foV n a b) (b := 0) l1 (by decide)
                   rw [if_neg q]
                   exact z)
            · refine ax_lconst (w := 1) rfl rfl ?_
              refine ax_iloadn rfl rfl ?_
              refine ax_lshl rfl ?_
              refine ax_goto rfl ?_
              refine ax_lor rfl ?_
              refine ax_last' rfl rfl (by omega) (fun M121 a121 b121 c121 => ?_)
              refine ax_iinc (ls' := [(0, _), (1, _), (2, _), (3, _), (4, _)]) rfl rfl rfl rfl ?_
              refine ax_goto rfl ?_
              refine ax_pick [0, 1, 2] rfl ?_
              refine ih (b + 1) M121 (by omega) ⟨fun k q => by rw [c121 k q]; exact f1 k q, fun a' ha' => by rw [b121 (a' : Int) (by omega)]; exact f2 a' ha'⟩ ?_
              rw [a121, hv, eo]
              first
                | omega
                | (have q : foB n a b = true := hfo.mpr ⟨by omega, by omega, by omega, fun z => by
                     have z1 := b01_t (P := (opV n (a / 8)).testBit (b % 8) = true) (by rw [ob _ (qa (by omega)) _ (by omega)]; exact z.1)
                     have z2 := b01_t (P := (opV n (b / 8)).testBit (a % 8) = true) (by rw [ob _ (qb (by omega)) _ (by omega)]; exact z.2)
                     omega⟩
                   have b63 := bl (by omega)
                   have p1 : 1 * 2 ^ b < 2 ^ 63 := by rw [Nat.one_mul]; exact Nat.pow_lt_pow_right (by decide) b63
                   have sh := bl_n_shl (a := 1) (k := b) (by omega) p1
                   rw [Nat.one_mul] at sh p1
                   rw [if_pos q, show (1 : Int) = ((1 : Nat) : Int) by rfl, sh, bl_n_or l1 p1])
                | (have q : ¬ foB n a b = true := fun w => by
                     have w1 := hfo.mp w
                     have z0 : b01 ((aoV n).testBit a = true) = 1 := w1.1
                     have z00 : b01 ((aoV n).testBit b = true) = 1 := w1.2.1
                     have z3 := w1.2.2.1
                     first
                       | omega
                       | (apply w1.2.2.2
                          have z1 := b01_ne (P := (opV n (a / 8)).testBit (b % 8) = true) (by omega)
                          have z2 := b01_ne (P := (opV n (b / 8)).testBit (a % 8) = true) (by omega)
                          rw [ob _ (qa (by omega)) _ (by omega)] at z1
                          rw [ob _ (qb (by omega)) _ (by omega)] at z2
                          exact ⟨z1, z2⟩)
                   have z := bl_n_or (a := foV n a b) (b := 0) l1 (by decide)
                   rw [if_neg q]
                   exact z)
          · refine ax_aloadn rfl rfl ?_
            refine ax_iloadn rfl rfl ?_
            refine ax_bipush rfl rfl ?_
            refine ax_idiv rfl (by omega) (by omega) (by omega) ?_
            refine ax_iloadn rfl rfl ?_
            refine ax_bipush rfl rfl ?_
            refine ax_irem rfl (by omega) (by omega) (by omega) ?_
            refine ax_callV (as := [_, _]) rfl vX8_172 hX8_isOpen rfl rfl rfl rfl rfl (by rw [da.1, db.2]; exact c_X8_isOpen E d M1 (a / 8) (b % 8) (opV n (a / 8)) (by omega) (by omega) (hv8 _ (qa (by omega))) (hop1 _ (qa (by omega)))) (av_Xk ?_)
            refine ax_if_eq rfl (by omega) (fun h76 => ?_) (fun h76 => ?_)
            · refine ax_iconst rfl ?_
              refine ax_goto rfl ?_
              refine ax_istore (ls' := [(0, _), (1, _), (2, _), (3, _), (4, _)]) rfl rfl rfl ?_
              refine ax_aloadn rfl rfl ?_
              refine ax_getR rfl fX8_50 rfl rfl ?_
              refine ax_iloadn rfl rfl ?_
              refine ax_dup2 rfl rfl rfl ?_
              refine ax_lald rfl rfl (by omega) ?_
              refine ax_iload rfl rfl ?_
              refine ax_if_eq rfl (by omega) (fun h110 => ?_) (fun h110 => ?_)
              · refine ax_lconst (w := 0) rfl rfl ?_
                refine ax_lor rfl ?_
                refine ax_last' rfl rfl (by omega) (fun M121 a121 b121 c121 => ?_)
                refine ax_iinc (ls' := [(0, _), (1, _), (2, _), (3, _), (4, _)]) rfl rfl rfl rfl ?_
                refine ax_goto rfl ?_
                refine ax_pick [0, 1, 2] rfl ?_
                refine ih (b + 1) M121 (by omega) ⟨fun k q => by rw [c121 k q]; exact f1 k q, fun a' ha' => by rw [b121 (a' : Int) (by omega)]; exact f2 a' ha'⟩ ?_
                rw [a121, hv, eo]
                first
                  | omega
                  | (have q : foB n a b = true := hfo.mpr ⟨by omega, by omega, by omega, fun z => by
                       have z1 := b01_t (P := (opV n (a / 8)).testBit (b % 8) = true) (by rw [ob _ (qa (by omega)) _ (by omega)]; exact z.1)
                       have z2 := b01_t (P := (opV n (b / 8)).testBit (a % 8) = true) (by rw [ob _ (qb (by omega)) _ (by omega)]; exact z.2)
                       omega⟩
                     have b63 := bl (by omega)
                     have p1 : 1 * 2 ^ b < 2 ^ 63 := by rw [Nat.one_mul]; exact Nat.pow_lt_pow_right (by decide) b63
                     have sh := bl_n_shl (a := 1) (k := b) (by omega) p1
                     rw [Nat.one_mul] at sh p1
                     rw [if_pos q, show (1 : Int) = ((1 : Nat) : Int) by rfl, sh, bl_n_or l1 p1])
                  | (have q : ¬ foB n a b = true := fun w => by
                       have w1 := hfo.mp w
                       have z0 : b01 ((aoV n).testBit a = true) = 1 := w1.1
                       have z00 : b01 ((aoV n).testBit b = true) = 1 := w1.2.1
                       have z3 := w1.2.2.1
                       first
                         | omega
                         | (apply w1.2.2.2
                            have z1 := b01_ne (P := (opV n (a / 8)).testBit (b % 8) = true) (by omega)
                            have z2 := b01_ne (P := (opV n (b / 8)).testBit (a % 8) = true) (by omega)
                            rw [ob _ (qa (by omega)) _ (by omega)] at z1
                            rw [ob _ (qb (by omega)) _ (by omega)] at z2
                            exact ⟨z1, z2⟩)
                     have z := bl_n_or (a := foV n a b) (b := 0) l1 (by decide)
                     rw [if_neg q]
                     exact z)
              · refine ax_lconst (w := 1) rfl rfl ?_
                refine ax_iloadn rfl rfl ?_
                refine ax_lshl rfl ?_
                refine ax_goto rfl ?_
                refine ax_lor rfl ?_
                refine ax_last' rfl rfl (by omega) (fun M121 a121 b121 c121 => ?_)
                refine ax_iinc (ls' := [(0, _), (1, _), (2, _), (3, _), (4, _)]) rfl rfl rfl rfl ?_
                refine ax_goto rfl ?_
                refine ax_pick [0, 1, 2] rfl ?_
                refine ih (b + 1) M121 (by omega) ⟨fun k q => by rw [c121 k q]; exact f1 k q, fun a' ha' => by rw [b121 (a' : Int) (by omega)]; exact f2 a' ha'⟩ ?_
                rw [a121, hv, eo]
                first
                  | omega
                  | (have q : foB n a b = true := hfo.mpr ⟨by omega, by omega, by omega, fun z => by
                       have z1 := b01_t (P := (opV n (a / 8)).testBit (b % 8) = true) (by rw [ob _ (qa (by omega)) _ (by omega)]; exact z.1)
                       have z2 := b01_t (P := (opV n (b / 8)).testBit (a % 8) = true) (by rw [ob _ (qb (by omega)) _ (by omega)]; exact z.2)
                       omega⟩
                     have b63 := bl (by omega)
                     have p1 : 1 * 2 ^ b < 2 ^ 63 := by rw [Nat.one_mul]; exact Nat.pow_lt_pow_right (by decide) b63
                     have sh := bl_n_shl (a := 1) (k := b) (by omega) p1
                     rw [Nat.one_mul] at sh p1
                     rw [if_pos q, show (1 : Int) = ((1 : Nat) : Int) by rfl, sh, bl_n_or l1 p1])
                  | (have q : ¬ foB n a b = true := fun w => by
                       have w1 := hfo.mp w
                       have z0 : b01 ((aoV n).testBit a = true) = 1 := w1.1
                       have z00 : b01 ((aoV n).testBit b = true) = 1 := w1.2.1
                       have z3 := w1.2.2.1
                       first
                         | omega
                         | (apply w1.2.2.2
                            have z1 := b01_ne (P := (opV n (a / 8)).testBit (b % 8) = true) (by omega)
                            have z2 := b01_ne (P := (opV n (b / 8)).testBit (a % 8) = true) (by omega)
                            rw [ob _ (qa (by omega)) _ (by omega)] at z1
                            rw [ob _ (qb (by omega)) _ (by omega)] at z2
                            exact ⟨z1, z2⟩)
                     have z := bl_n_or (a := foV n a b) (b := 0) l1 (by decide)
                     rw [if_neg q]
                     exact z)
            · refine ax_aloadn rfl rfl ?_
              refine ax_iloadn rfl rfl ?_
              refine ax_bipush rfl rfl ?_
              refine ax_idiv rfl (by omega) (by omega) (by omega) ?_
              refine ax_iloadn rfl rfl ?_
              refine ax_bipush rfl rfl ?_
              refine ax_irem rfl (by omega) (by omega) (by omega) ?_
              refine ax_callV (as := [_, _]) rfl vX8_172 hX8_isOpen rfl rfl rfl rfl rfl (by rw [da.2, db.1]; exact c_X8_isOpen E d M1 (b / 8) (a % 8) (opV n (b / 8)) (by omega) (by omega) (hv8 _ (qb (by omega))) (hop1 _ (qb (by omega)))) (av_Xk ?_)
              refine ax_if_ne rfl (by omega) (fun h91 => ?_) (fun h91 => ?_)
              · refine ax_iconst rfl ?_
                refine ax_istore (ls' := [(0, _), (1, _), (2, _), (3, _), (4, _)]) rfl rfl rfl ?_
                refine ax_aloadn rfl rfl ?_
                refine ax_getR rfl fX8_50 rfl rfl ?_
                refine ax_iloadn rfl rfl ?_
                refine ax_dup2 rfl rfl rfl ?_
                refine ax_lald rfl rfl (by omega) ?_
                refine ax_iload rfl rfl ?_
                refine ax_if_eq rfl (by omega) (fun h110 => ?_) (fun h110 => ?_)
                · refine ax_lconst (w := 0) rfl rfl ?_
                  refine ax_lor rfl ?_
                  refine ax_last' rfl rfl (by omega) (fun M121 a121 b121 c121 => ?_)
                  refine ax_iinc (ls' := [(0, _), (1, _), (2, _), (3, _), (4, _)]) rfl rfl rfl rfl ?_
                  refine ax_goto rfl ?_
                  refine ax_pick [0, 1, 2] rfl ?_
                  refine ih (b + 1) M121 (by omega) ⟨fun k q => by rw [c121 k q]; exact f1 k q, fun a' ha' => by rw [b121 (a' : Int) (by omega)]; exact f2 a' ha'⟩ ?_
                  rw [a121, hv, eo]
                  first
                    | omega
                    | (have q : foB n a b = true := hfo.mpr ⟨by omega, by omega, by omega, fun z => by
                         have z1 := b01_t (P := (opV n (a / 8)).testBit (b % 8) = true) (by rw [ob _ (qa (by omega)) _ (by omega)]; exact z.1)
                         have z2 := b01_t (P := (opV n (b / 8)).testBit (a % 8) = true) (by rw [ob _ (qb (by omega)) _ (by omega)]; exact z.2)
                         omega⟩
                       have b63 := bl (by omega)
                       have p1 : 1 * 2 ^ b < 2 ^ 63 := by rw [Nat.one_mul]; exact Nat.pow_lt_pow_right (by decide) b63
                       have sh := bl_n_shl (a := 1) (k := b) (by omega) p1
                       rw [Nat.one_mul] at sh p1
                       rw [if_pos q, show (1 : Int) = ((1 : Nat) : Int) by rfl, sh, bl_n_or l1 p1])
                    | (have q : ¬ foB n a b = true := fun w => by
                         have w1 := hfo.mp w
                         have z0 : b01 ((aoV n).testBit a = true) = 1 := w1.1
                         have z00 : b01 ((aoV n).testBit b = true) = 1 := w1.2.1
                         have z3 := w1.2.2.1
                         first
                           | omega
                           | (apply w1.2.2.2
                              have z1 := b01_ne (P := (opV n (a / 8)).testBit (b % 8) = true) (by omega)
                              have z2 := b01_ne (P := (opV n (b / 8)).testBit (a % 8) = true) (by omega)
                              rw [ob _ (qa (by omega)) _ (by omega)] at z1
                              rw [ob _ (qb (by omega)) _ (by omega)] at z2
                              exact ⟨z1, z2⟩)
                       have z := bl_n_or (a := foV n a b) (b := 0) l1 (by decide)
                       rw [if_neg q]
                       exact z)
                · refine ax_lconst (w := 1) rfl rfl ?_
                  refine ax_iloadn rfl rfl ?_
                  refine ax_lshl rfl ?_
                  refine ax_goto rfl ?_
                  refine ax_lor rfl ?_
                  refine ax_last' rfl rfl (by omega) (fun M121 a121 b121 c121 => ?_)
                  refine ax_iinc (ls' := [(0, _), (1, _), (2, _), (3, _), (4, _)]) rfl rfl rfl rfl ?_
                  refine ax_goto rfl ?_
                  refine ax_pick [0, 1, 2] rfl ?_
                  refine ih (b + 1) M121 (by omega) ⟨fun k q => by rw [c121 k q]; exact f1 k q, fun a' ha' => by rw [b121 (a' : Int) (by omega)]; exact f2 a' ha'⟩ ?_
                  rw [a121, hv, eo]
                  first
                    | omega
                    | (have q : foB n a b = true := hfo.mpr ⟨by omega, by omega, by omega, fun z => by
                         have z1 := b01_t (P := (opV n (a / 8)).testBit (b % 8) = true) (by rw [ob _ (qa (by omega)) _ (by omega)]; exact z.1)
                         have z2 := b01_t (P := (opV n (b / 8)).testBit (a % 8) = true) (by rw [ob _ (qb (by omega)) _ (by omega)]; exact z.2)
                         omega⟩
                       have b63 := bl (by omega)
                       have p1 : 1 * 2 ^ b < 2 ^ 63 := by rw [Nat.one_mul]; exact Nat.pow_lt_pow_right (by decide) b63
                       have sh := bl_n_shl (a := 1) (k := b) (by omega) p1
                       rw [Nat.one_mul] at sh p1
                       rw [if_pos q, show (1 : Int) = ((1 : Nat) : Int) by rfl, sh, bl_n_or l1 p1])
                    | (have q : ¬ foB n a b = true := fun w => by
                         have w1 := hfo.mp w
                         have z0 : b01 ((aoV n).testBit a = true) = 1 := w1.1
                         have z00 : b01 ((aoV n).testBit b = true) = 1 := w1.2.1
                         have z3 := w1.2.2.1
                         first
                           | omega
                           | (apply w1.2.2.2
                              have z1 := b01_ne (P := (opV n (a / 8)).testBit (b % 8) = true) (by omega)
                              have z2 := b01_ne (P := (opV n (b / 8)).testBit (a % 8) = true) (by omega)
                              rw [ob _ (qa (by omega)) _ (by omega)] at z1
                              rw [ob _ (qb (by omega)) _ (by omega)] at z2
                              exact ⟨z1, z2⟩)
                       have z := bl_n_or (a := foV n a b) (b := 0) l1 (by decide)
                       rw [if_neg q]
                       exact z)
              · refine ax_iconst rfl ?_
                refine ax_goto rfl ?_
                refine ax_istore (ls' := [(0, _), (1, _), (2, _), (3, _), (4, _)]) rfl rfl rfl ?_
                refine ax_aloadn rfl rfl ?_
                refine ax_getR rfl fX8_50 rfl rfl ?_
                refine ax_iloadn rfl rfl ?_
                refine ax_dup2 rfl rfl rfl ?_
                refine ax_lald rfl rfl (by omega) ?_
                refine ax_iload rfl rfl ?_
                refine ax_if_eq rfl (by omega) (fun h110 => ?_) (fun h110 => ?_)
                · refine ax_lconst (w := 0) rfl rfl ?_
                  refine ax_lor rfl ?_
                  refine ax_last' rfl rfl (by omega) (fun M121 a121 b121 c121 => ?_)
                  refine ax_iinc (ls' := [(0, _), (1, _), (2, _), (3, _), (4, _)]) rfl rfl rfl rfl ?_
                  refine ax_goto rfl ?_
                  refine ax_pick [0, 1, 2] rfl ?_
                  refine ih (b + 1) M121 (by omega) ⟨fun k q => by rw [c121 k q]; exact f1 k q, fun a' ha' => by rw [b121 (a' : Int) (by omega)]; exact f2 a' ha'⟩ ?_
                  rw [a121, hv, eo]
                  first
                    | omega
                    | (have q : foB n a b = true := hfo.mpr ⟨by omega, by omega, by omega, fun z => by
                         have z1 := b01_t (P := (opV n (a / 8)).testBit (b % 8) = true) (by rw [ob _ (qa (by omega)) _ (by omega)]; exact z.1)
                         have z2 := b01_t (P := (opV n (b / 8)).testBit (a % 8) = true) (by rw [ob _ (qb (by omega)) _ (by omega)]; exact z.2)
                         omega⟩
                       have b63 := bl (by omega)
                       have p1 : 1 * 2 ^ b < 2 ^ 63 := by rw [Nat.one_mul]; exact Nat.pow_lt_pow_right (by decide) b63
                       have sh := bl_n_shl (a := 1) (k := b) (by omega) p1
                       rw [Nat.one_mul] at sh p1
                       rw [if_pos q, show (1 : Int) = ((1 : Nat) : Int) by rfl, sh, bl_n_or l1 p1])
                    | (have q : ¬ foB n a b = true := fun w => by
                         have w1 := hfo.mp w
                         have z0 : b01 ((aoV n).testBit a = true) = 1 := w1.1
                         have z00 : b01 ((aoV n).testBit b = true) = 1 := w1.2.1
                         have z3 := w1.2.2.1
                         first
                           | omega
                           | (apply w1.2.2.2
                              have z1 := b01_ne (P := (opV n (a / 8)).testBit (b % 8) = true) (by omega)
                              have z2 := b01_ne (P := (opV n (b / 8)).testBit (a % 8) = true) (by omega)
                              rw [ob _ (qa (by omega)) _ (by omega)] at z1
                              rw [ob _ (qb (by omega)) _ (by omega)] at z2
                              exact ⟨z1, z2⟩)
                       have z := bl_n_or (a := foV n a b) (b := 0) l1 (by decide)
                       rw [if_neg q]
                       exact z)
                · refine ax_lconst (w := 1) rfl rfl ?_
                  refine ax_iloadn rfl rfl ?_
                  refine ax_lshl rfl ?_
                  refine ax_goto rfl ?_
                  refine ax_lor rfl ?_
                  refine ax_last' rfl rfl (by omega) (fun M121 a121 b121 c121 => ?_)
                  refine ax_iinc (ls' := [(0, _), (1, _), (2, _), (3, _), (4, _)]) rfl rfl rfl rfl ?_
                  refine ax_goto rfl ?_
                  refine ax_pick [0, 1, 2] rfl ?_
                  refine ih (b + 1) M121 (by omega) ⟨fun k q => by rw [c121 k q]; exact f1 k q, fun a' ha' => by rw [b121 (a' : Int) (by omega)]; exact f2 a' ha'⟩ ?_
                  rw [a121, hv, eo]
                  first
                    | omega
                    | (have q : foB n a b = true := hfo.mpr ⟨by omega, by omega, by omega, fun z => by
                         have z1 := b01_t (P := (opV n (a / 8)).testBit (b % 8) = true) (by rw [ob _ (qa (by omega)) _ (by omega)]; exact z.1)
                         have z2 := b01_t (P := (opV n (b / 8)).testBit (a % 8) = true) (by rw [ob _ (qb (by omega)) _ (by omega)]; exact z.2)
                         omega⟩
                       have b63 := bl (by omega)
                       have p1 : 1 * 2 ^ b < 2 ^ 63 := by rw [Nat.one_mul]; exact Nat.pow_lt_pow_right (by decide) b63
                       have sh := bl_n_shl (a := 1) (k := b) (by omega) p1
                       rw [Nat.one_mul] at sh p1
                       rw [if_pos q, show (1 : Int) = ((1 : Nat) : Int) by rfl, sh, bl_n_or l1 p1])
                    | (have q : ¬ foB n a b = true := fun w => by
                         have w1 := hfo.mp w
                         have z0 : b01 ((aoV n).testBit a = true) = 1 := w1.1
                         have z00 : b01 ((aoV n).testBit b = true) = 1 := w1.2.1
                         have z3 := w1.2.2.1
                         first
                           | omega
                           | (apply w1.2.2.2
                              have z1 := b01_ne (P := (opV n (a / 8)).testBit (b % 8) = true) (by omega)
                              have z2 := b01_ne (P := (opV n (b / 8)).testBit (a % 8) = true) (by omega)
                              rw [ob _ (qa (by omega)) _ (by omega)] at z1
                              rw [ob _ (qb (by omega)) _ (by omega)] at z2
                              exact ⟨z1, z2⟩)
                       have z := bl_n_or (a := foV n a b) (b := 0) l1 (by decide)
                       rw [if_neg q]
                       exact z)
        · refine ax_iloadn rfl rfl ?_
          refine ax_iloadn rfl rfl ?_
          refine ax_icmp_eq rfl (by omega) (by omega) (fun h51 => ?_) (fun h51 => ?_)
          · refine ax_iconst rfl ?_
            refine ax_istoren (ls' := [(0, _), (1, _), (2, _), (3, _)]) rfl rfl rfl ?_
            refine ax_iloadn rfl rfl ?_
            refine ax_if_eq rfl (by omega) (fun h61 => ?_) (fun h61 => ?_)
            · refine ax_iconst rfl ?_
              refine ax_istore (ls' := [(0, _), (1, _), (2, _), (3, _), (4, _)]) rfl rfl rfl ?_
              refine ax_aloadn rfl rfl ?_
              refine ax_getR rfl fX8_50 rfl rfl ?_
              refine ax_iloadn rfl rfl ?_
              refine ax_dup2 rfl rfl rfl ?_
              refine ax_lald rfl rfl (by omega) ?_
              refine ax_iload rfl rfl ?_
              refine ax_if_eq rfl (by omega) (fun h110 => ?_) (fun h110 => ?_)
              · refine ax_lconst (w := 0) rfl rfl ?_
                refine ax_lor rfl ?_
                refine ax_last' rfl rfl (by omega) (fun M121 a121 b121 c121 => ?_)
                refine ax_iinc (ls' := [(0, _), (1, _), (2, _), (3, _), (4, _)]) rfl rfl rfl rfl ?_
                refine ax_goto rfl ?_
                refine ax_pick [0, 1, 2] rfl ?_
                refine ih (b + 1) M121 (by omega) ⟨fun k q => by rw [c121 k q]; exact f1 k q, fun a' ha' => by rw [b121 (a' : Int) (by omega)]; exact f2 a' ha'⟩ ?_
                rw [a121, hv, eo]
                first
                  | omega
                  | (have q : foB n a b = true := hfo.mpr ⟨by omega, by omega, by omega, fun z => by
                       have z1 := b01_t (P := (opV n (a / 8)).testBit (b % 8) = true) (by rw [ob _ (qa (by omega)) _ (by omega)]; exact z.1)
                       have z2 := b01_t (P := (opV n (b / 8)).testBit (a % 8) = true) (by rw [ob _ (qb (by omega)) _ (by omega)]; exact z.2)
                       omega⟩
                     have b63 := bl (by omega)
                     have p1 : 1 * 2 ^ b < 2 ^ 63 := by rw [Nat.one_mul]; exact Nat.pow_lt_pow_right (by decide) b63
                     have sh := bl_n_shl (a := 1) (k := b) (by omega) p1
                     rw [Nat.one_mul] at sh p1
                     rw [if_pos q, show (1 : Int) = ((1 : Nat) : Int) by rfl, sh, bl_n_or l1 p1])
                  | (have q : ¬ foB n a b = true := fun w => by
                       have w1 := hfo.mp w
                       have z0 : b01 ((aoV n).testBit a = true) = 1 := w1.1
                       have z00 : b01 ((aoV n).testBit b = true) = 1 := w1.2.1
                       have z3 := w1.2.2.1
                       first
                         | omega
                         | (apply w1.2.2.2
                            have z1 := b01_ne (P := (opV n (a / 8)).testBit (b % 8) = true) (by omega)
                            have z2 := b01_ne (P := (opV n (b / 8)).testBit (a % 8) = true) (by omega)
                            rw [ob _ (qa (by omega)) _ (by omega)] at z1
                            rw [ob _ (qb (by omega)) _ (by omega)] at z2
                            exact ⟨z1, z2⟩)
                     have z := bl_n_or (a := foV n a b) (b := 0) l1 (by decide)
                     rw [if_neg q]
                     exact z)
              · refine ax_lconst (w := 1) rfl rfl ?_
                refine ax_iloadn rfl rfl ?_
                refine ax_lshl rfl ?_
                refine ax_goto rfl ?_
                refine ax_lor rfl ?_
                refine ax_last' rfl rfl (by omega) (fun M121 a121 b121 c121 => ?_)
                refine ax_iinc (ls' := [(0, _), (1, _), (2, _), (3, _), (4, _)]) rfl rfl rfl rfl ?_
                refine ax_goto rfl ?_
                refine ax_pick [0, 1, 2] rfl ?_
                refine ih (b + 1) M121 (by omega) ⟨fun k q => by rw [c121 k q]; exact f1 k q, fun a' ha' => by rw [b121 (a' : Int) (by omega)]; exact f2 a' ha'⟩ ?_
                rw [a121, hv, eo]
                first
                  | omega
                  | (have q : foB n a b = true := hfo.mpr ⟨by omega, by omega, by omega, fun z => by
                       have z1 := b01_t (P := (opV n (a / 8)).testBit (b % 8) = true) (by rw [ob _ (qa (by omega)) _ (by omega)]; exact z.1)
                       have z2 := b01_t (P := (opV n (b / 8)).testBit (a % 8) = true) (by rw [ob _ (qb (by omega)) _ (by omega)]; exact z.2)
                       omega⟩
                     have b63 := bl (by omega)
                     have p1 : 1 * 2 ^ b < 2 ^ 63 := by rw [Nat.one_mul]; exact Nat.pow_lt_pow_right (by decide) b63
                     have sh := bl_n_shl (a := 1) (k := b) (by omega) p1
                     rw [Nat.one_mul] at sh p1
                     rw [if_pos q, show (1 : Int) = ((1 : Nat) : Int) by rfl, sh, bl_n_or l1 p1])
                  | (have q : ¬ foB n a b = true := fun w => by
                       have w1 := hfo.mp w
                       have z0 : b01 ((aoV n).testBit a = true) = 1 := w1.1
                       have z00 : b01 ((aoV n).testBit b = true) = 1 := w1.2.1
                       have z3 := w1.2.2.1
                       first
                         | omega
                         | (apply w1.2.2.2
                            have z1 := b01_ne (P := (opV n (a / 8)).testBit (b % 8) = true) (by omega)
                            have z2 := b01_ne (P := (opV n (b / 8)).testBit (a % 8) = true) (by omega)
                            rw [ob _ (qa (by omega)) _ (by omega)] at z1
                            rw [ob _ (qb (by omega)) _ (by omega)] at z2
                            exact ⟨z1, z2⟩)
                     have z := bl_n_or (a := foV n a b) (b := 0) l1 (by decide)
                     rw [if_neg q]
                     exact z)
            · refine ax_aloadn rfl rfl ?_
              refine ax_iloadn rfl rfl ?_
              refine ax_bipush rfl rfl ?_
              refine ax_idiv rfl (by omega) (by omega) (by omega) ?_
              refine ax_iloadn rfl rfl ?_
              refine ax_bipush rfl rfl ?_
              refine ax_irem rfl (by omega) (by omega) (by omega) ?_
              refine ax_callV (as := [_, _]) rfl vX8_172 hX8_isOpen rfl rfl rfl rfl rfl (by rw [da.1, db.2]; exact c_X8_isOpen E d M1 (a / 8) (b % 8) (opV n (a / 8)) (by omega) (by omega) (hv8 _ (qa (by omega))) (hop1 _ (qa (by omega)))) (av_Xk ?_)
              refine ax_if_eq rfl (by omega) (fun h76 => ?_) (fun h76 => ?_)
              · refine ax_iconst rfl ?_
                refine ax_goto rfl ?_
                refine ax_istore (ls' := [(0, _), (1, _), (2, _), (3, _), (4, _)]) rfl rfl rfl ?_
                refine ax_aloadn rfl rfl ?_
                refine ax_getR rfl fX8_50 rfl rfl ?_
                refine ax_iloadn rfl rfl ?_
                refine ax_dup2 rfl rfl rfl ?_
                refine ax_lald rfl rfl (by omega) ?_
                refine ax_iload rfl rfl ?_
                refine ax_if_eq rfl (by omega) (fun h110 => ?_) (fun h110 => ?_)
                · refine ax_lconst (w := 0) rfl rfl ?_
                  refine ax_lor rfl ?_
                  refine ax_last' rfl rfl (by omega) (fun M121 a121 b121 c121 => ?_)
                  refine ax_iinc (ls' := [(0, _), (1, _), (2, _), (3, _), (4, _)]) rfl rfl rfl rfl ?_
                  refine ax_goto rfl ?_
                  refine ax_pick [0, 1, 2] rfl ?_
                  refine ih (b + 1) M121 (by omega) ⟨fun k q => by rw [c121 k q]; exact f1 k q, fun a' ha' => by rw [b121 (a' : Int) (by omega)]; exact f2 a' ha'⟩ ?_
                  rw [a121, hv, eo]
                  first
                    | omega
                    | (have q : foB n a b = true := hfo.mpr ⟨by omega, by omega, by omega, fun z => by
                         have z1 := b01_t (P := (opV n (a / 8)).testBit (b % 8) = true) (by rw [ob _ (qa (by omega)) _ (by omega)]; exact z.1)
                         have z2 := b01_t (P := (opV n (b / 8)).testBit (a % 8) = true) (by rw [ob _ (qb (by omega)) _ (by omega)]; exact z.2)
                         omega⟩
                       have b63 := bl (by omega)
                       have p1 : 1 * 2 ^ b < 2 ^ 63 := by rw [Nat.one_mul]; exact Nat.pow_lt_pow_right (by decide) b63
                       have sh := bl_n_shl (a := 1) (k := b) (by omega) p1
                       rw [Nat.one_mul] at sh p1
                       rw [if_pos q, show (1 : Int) = ((1 : Nat) : Int) by rfl, sh, bl_n_or l1 p1])
                    | (have q : ¬ foB n a b = true := fun w => by
                         have w1 := hfo.mp w
                         have z0 : b01 ((aoV n).testBit a = true) = 1 := w1.1
                         have z00 : b01 ((aoV n).testBit b = true) = 1 := w1.2.1
                         have z3 := w1.2.2.1
                         first
                           | omega
                           | (apply w1.2.2.2
                              have z1 := b01_ne (P := (opV n (a / 8)).testBit (b % 8) = true) (by omega)
                              have z2 := b01_ne (P := (opV n (b / 8)).testBit (a % 8) = true) (by omega)
                              rw [ob _ (qa (by omega)) _ (by omega)] at z1
                              rw [ob _ (qb (by omega)) _ (by omega)] at z2
                              exact ⟨z1, z2⟩)
                       have z := bl_n_or (a := foV n a b) (b := 0) l1 (by decide)
                       rw [if_neg q]
                       exact z)
                · refine ax_lconst (w := 1) rfl rfl ?_
                  refine ax_iloadn rfl rfl ?_
                  refine ax_lshl rfl ?_
                  refine ax_goto rfl ?_
                  refine ax_lor rfl ?_
                  refine ax_last' rfl rfl (by omega) (fun M121 a121 b121 c121 => ?_)
                  refine ax_iinc (ls' := [(0, _), (1, _), (2, _), (3, _), (4, _)]) rfl rfl rfl rfl ?_
                  refine ax_goto rfl ?_
                  refine ax_pick [0, 1, 2] rfl ?_
                  refine ih (b + 1) M121 (by omega) ⟨fun k q => by rw [c121 k q]; exact f1 k q, fun a' ha' => by rw [b121 (a' : Int) (by omega)]; exact f2 a' ha'⟩ ?_
                  rw [a121, hv, eo]
                  first
                    | omega
                    | (have q : foB n a b = true := hfo.mpr ⟨by omega, by omega, by omega, fun z => by
                         have z1 := b01_t (P := (opV n (a / 8)).testBit (b % 8) = true) (by rw [ob _ (qa (by omega)) _ (by omega)]; exact z.1)
                         have z2 := b01_t (P := (opV n (b / 8)).testBit (a % 8) = true) (by rw [ob _ (qb (by omega)) _ (by omega)]; exact z.2)
                         omega⟩
                       have b63 := bl (by omega)
                       have p1 : 1 * 2 ^ b < 2 ^ 63 := by rw [Nat.one_mul]; exact Nat.pow_lt_pow_right (by decide) b63
                       have sh := bl_n_shl (a := 1) (k := b) (by omega) p1
                       rw [Nat.one_mul] at sh p1
                       rw [if_pos q, show (1 : Int) = ((1 : Nat) : Int) by rfl, sh, bl_n_or l1 p1])
                    | (have q : ¬ foB n a b = true := fun w => by
                         have w1 := hfo.mp w
                         have z0 : b01 ((aoV n).testBit a = true) = 1 := w1.1
                         have z00 : b01 ((aoV n).testBit b = true) = 1 := w1.2.1
                         have z3 := w1.2.2.1
                         first
                           | omega
                           | (apply w1.2.2.2
                              have z1 := b01_ne (P := (opV n (a / 8)).testBit (b % 8) = true) (by omega)
                              have z2 := b01_ne (P := (opV n (b / 8)).testBit (a % 8) = true) (by omega)
                              rw [ob _ (qa (by omega)) _ (by omega)] at z1
                              rw [ob _ (qb (by omega)) _ (by omega)] at z2
                              exact ⟨z1, z2⟩)
                       have z := bl_n_or (a := foV n a b) (b := 0) l1 (by decide)
                       rw [if_neg q]
                       exact z)
              · refine ax_aloadn rfl rfl ?_
                refine ax_iloadn rfl rfl ?_
                refine ax_bipush rfl rfl ?_
                refine ax_idiv rfl (by omega) (by omega) (by omega) ?_
                refine ax_iloadn rfl rfl ?_
                refine ax_bipush rfl rfl ?_
                refine ax_irem rfl (by omega) (by omega) (by omega) ?_
                refine ax_callV (as := [_, _]) rfl vX8_172 hX8_isOpen rfl rfl rfl rfl rfl (by rw [da.2, db.1]; exact c_X8_isOpen E d M1 (b / 8) (a % 8) (opV n (b / 8)) (by omega) (by omega) (hv8 _ (qb (by omega))) (hop1 _ (qb (by omega)))) (av_Xk ?_)
                refine ax_if_ne rfl (by omega) (fun h91 => ?_) (fun h91 => ?_)
                · refine ax_iconst rfl ?_
                  refine ax_istore (ls' := [(0, _), (1, _), (2, _), (3, _), (4, _)]) rfl rfl rfl ?_
                  refine ax_aloadn rfl rfl ?_
                  refine ax_getR rfl fX8_50 rfl rfl ?_
                  refine ax_iloadn rfl rfl ?_
                  refine ax_dup2 rfl rfl rfl ?_
                  refine ax_lald rfl rfl (by omega) ?_
                  refine ax_iload rfl rfl ?_
                  refine ax_if_eq rfl (by omega) (fun h110 => ?_) (fun h110 => ?_)
                  · refine ax_lconst (w := 0) rfl rfl ?_
                    refine ax_lor rfl ?_
                    refine ax_last' rfl rfl (by omega) (fun M121 a121 b121 c121 => ?_)
                    refine ax_iinc (ls' := [(0, _), (1, _), (2, _), (3, _), (4, _)]) rfl rfl rfl rfl ?_
                    refine ax_goto rfl ?_
                    refine ax_pick [0, 1, 2] rfl ?_
                    refine ih (b + 1) M121 (by omega) ⟨fun k q => by rw [c121 k q]; exact f1 k q, fun a' ha' => by rw [b121 (a' : Int) (by omega)]; exact f2 a' ha'⟩ ?_
                    rw [a121, hv, eo]
                    first
                      | omega
                      | (have q : foB n a b = true := hfo.mpr ⟨by omega, by omega, by omega, fun z => by
                           have z1 := b01_t (P := (opV n (a / 8)).testBit (b % 8) = true) (by rw [ob _ (qa (by omega)) _ (by omega)]; exact z.1)
                           have z2 := b01_t (P := (opV n (b / 8)).testBit (a % 8) = true) (by rw [ob _ (qb (by omega)) _ (by omega)]; exact z.2)
                           omega⟩
                         have b63 := bl (by omega)
                         have p1 : 1 * 2 ^ b < 2 ^ 63 := by rw [Nat.one_mul]; exact Nat.pow_lt_pow_right (by decide) b63
                         have sh := bl_n_shl (a := 1) (k := b) (by omega) p1
                         rw [Nat.one_mul] at sh p1
                         rw [if_pos q, show (1 : Int) = ((1 : Nat) : Int) by rfl, sh, bl_n_or l1 p1])
                      | (have q : ¬ foB n a b = true := fun w => by
                           have w1 := hfo.mp w
                           have z0 : b01 ((aoV n).testBit a = true) = 1 := w1.1
                           have z00 : b01 ((aoV n).testBit b = true) = 1 := w1.2.1
                           have z3 := w1.2.2.1
                           first
                             | omega
                             | (apply w1.2.2.2
                                have z1 := b01_ne (P := (opV n (a / 8)).testBit (b % 8) = true) (by omega)
                                have z2 := b01_ne (P := (opV n (b / 8)).testBit (a % 8) = true) (by omega)
                                rw [ob _ (qa (by omega)) _ (by omega)] at z1
                                rw [ob _ (qb (by omega)) _ (by omega)] at z2
                                exact ⟨z1, z2⟩)
                         have z := bl_n_or (a := foV n a b) (b := 0) l1 (by decide)
                         rw [if_neg q]
                         exact z)
                  · refine ax_lconst (w := 1) rfl rfl ?_
                    refine ax_iloadn rfl rfl ?_
                    refine ax_lshl rfl ?_
                    refine ax_goto rfl ?_
                    refine ax_lor rfl ?_
                    refine ax_last' rfl rfl (by omega) (fun M121 a121 b121 c121 => ?_)
                    refine ax_iinc (ls' := [(0, _), (1, _), (2, _), (3, _), (4, _)]) rfl rfl rfl rfl ?_
                    refine ax_goto rfl ?_
                    refine ax_pick [0, 1, 2] rfl ?_
                    refine ih (b + 1) M121 (by omega) ⟨fun k q => by rw [c121 k q]; exact f1 k q, fun a' ha' => by rw [b121 (a' : Int) (by omega)]; exact f2 a' ha'⟩ ?_
                    rw [a121, hv, eo]
                    first
                      | omega
                      | (have q : foB n a b = true := hfo.mpr ⟨by omega, by omega, by omega, fun z => by
                           have z1 := b01_t (P := (opV n (a / 8)).testBit (b % 8) = true) (by rw [ob _ (qa (by omega)) _ (by omega)]; exact z.1)
                           have z2 := b01_t (P := (opV n (b / 8)).testBit (a % 8) = true) (by rw [ob _ (qb (by omega)) _ (by omega)]; exact z.2)
                           omega⟩
                         have b63 := bl (by omega)
                         have p1 : 1 * 2 ^ b < 2 ^ 63 := by rw [Nat.one_mul]; exact Nat.pow_lt_pow_right (by decide) b63
                         have sh := bl_n_shl (a := 1) (k := b) (by omega) p1
                         rw [Nat.one_mul] at sh p1
                         rw [if_pos q, show (1 : Int) = ((1 : Nat) : Int) by rfl, sh, bl_n_or l1 p1])
                      | (have q : ¬ foB n a b = true := fun w => by
                           have w1 := hfo.mp w
                           have z0 : b01 ((aoV n).testBit a = true) = 1 := w1.1
                           have z00 : b01 ((aoV n).testBit b = true) = 1 := w1.2.1
                           have z3 := w1.2.2.1
                           first
                             | omega
                             | (apply w1.2.2.2
                                have z1 := b01_ne (P := (opV n (a / 8)).testBit (b % 8) = true) (by omega)
                                have z2 := b01_ne (P := (opV n (b / 8)).testBit (a % 8) = true) (by omega)
                                rw [ob _ (qa (by omega)) _ (by omega)] at z1
                                rw [ob _ (qb (by omega)) _ (by omega)] at z2
                                exact ⟨z1, z2⟩)
                         have z := bl_n_or (a := foV n a b) (b := 0) l1 (by decide)
                         rw [if_neg q]
                         exact z)
                · refine ax_iconst rfl ?_
                  refine ax_goto rfl ?_
                  refine ax_istore (ls' := [(0, _), (1, _), (2, _), (3, _), (4, _)]) rfl rfl rfl ?_
                  refine ax_aloadn rfl rfl ?_
                  refine ax_getR rfl fX8_50 rfl rfl ?_
                  refine ax_iloadn rfl rfl ?_
                  refine ax_dup2 rfl rfl rfl ?_
                  refine ax_lald rfl rfl (by omega) ?_
                  refine ax_iload rfl rfl ?_
                  refine ax_if_eq rfl (by omega) (fun h110 => ?_) (fun h110 => ?_)
                  · refine ax_lconst (w := 0) rfl rfl ?_
                    refine ax_lor rfl ?_
                    refine ax_last' rfl rfl (by omega) (fun M121 a121 b121 c121 => ?_)
                    refine ax_iinc (ls' := [(0, _), (1, _), (2, _), (3, _), (4, _)]) rfl rfl rfl rfl ?_
                    refine ax_goto rfl ?_
                    refine ax_pick [0, 1, 2] rfl ?_
                    refine ih (b + 1) M121 (by omega) ⟨fun k q => by rw [c121 k q]; exact f1 k q, fun a' ha' => by rw [b121 (a' : Int) (by omega)]; exact f2 a' ha'⟩ ?_
                    rw [a121, hv, eo]
                    first
                      | omega
                      | (have q : foB n a b = true := hfo.mpr ⟨by omega, by omega, by omega, fun z => by
                           have z1 := b01_t (P := (opV n (a / 8)).testBit (b % 8) = true) (by rw [ob _ (qa (by omega)) _ (by omega)]; exact z.1)
                           have z2 := b01_t (P := (opV n (b / 8)).testBit (a % 8) = true) (by rw [ob _ (qb (by omega)) _ (by omega)]; exact z.2)
                           omega⟩
                         have b63 := bl (by omega)
                         have p1 : 1 * 2 ^ b < 2 ^ 63 := by rw [Nat.one_mul]; exact Nat.pow_lt_pow_right (by decide) b63
                         have sh := bl_n_shl (a := 1) (k := b) (by omega) p1
                         rw [Nat.one_mul] at sh p1
                         rw [if_pos q, show (1 : Int) = ((1 : Nat) : Int) by rfl, sh, bl_n_or l1 p1])
                      | (have q : ¬ foB n a b = true := fun w => by
                           have w1 := hfo.mp w
                           have z0 : b01 ((aoV n).testBit a = true) = 1 := w1.1
                           have z00 : b01 ((aoV n).testBit b = true) = 1 := w1.2.1
                           have z3 := w1.2.2.1
                           first
                             | omega
                             | (apply w1.2.2.2
                                have z1 := b01_ne (P := (opV n (a / 8)).testBit (b % 8) = true) (by omega)
                                have z2 := b01_ne (P := (opV n (b / 8)).testBit (a % 8) = true) (by omega)
                                rw [ob _ (qa (by omega)) _ (by omega)] at z1
                                rw [ob _ (qb (by omega)) _ (by omega)] at z2
                                exact ⟨z1, z2⟩)
                         have z := bl_n_or (a := foV n a b) (b := 0) l1 (by decide)
                         rw [if_neg q]
                         exact z)
                  · refine ax_lconst (w := 1) rfl rfl ?_
                    refine ax_iloadn rfl rfl ?_
                    refine ax_lshl rfl ?_
                    refine ax_goto rfl ?_
                    refine ax_lor rfl ?_
                    refine ax_last' rfl rfl (by omega) (fun M121 a121 b121 c121 => ?_)
                    refine ax_iinc (ls' := [(0, _), (1, _), (2, _), (3, _), (4, _)]) rfl rfl rfl rfl ?_
                    refine ax_goto rfl ?_
                    refine ax_pick [0, 1, 2] rfl ?_
                    refine ih (b + 1) M121 (by omega) ⟨fun k q => by rw [c121 k q]; exact f1 k q, fun a' ha' => by rw [b121 (a' : Int) (by omega)]; exact f2 a' ha'⟩ ?_
                    rw [a121, hv, eo]
                    first
                      | omega
                      | (have q : foB n a b = true := hfo.mpr ⟨by omega, by omega, by omega, fun z => by
                           have z1 := b01_t (P := (opV n (a / 8)).testBit (b % 8) = true) (by rw [ob _ (qa (by omega)) _ (by omega)]; exact z.1)
                           have z2 := b01_t (P := (opV n (b / 8)).testBit (a % 8) = true) (by rw [ob _ (qb (by omega)) _ (by omega)]; exact z.2)
                           omega⟩
                         have b63 := bl (by omega)
                         have p1 : 1 * 2 ^ b < 2 ^ 63 := by rw [Nat.one_mul]; exact Nat.pow_lt_pow_right (by decide) b63
                         have sh := bl_n_shl (a := 1) (k := b) (by omega) p1
                         rw [Nat.one_mul] at sh p1
                         rw [if_pos q, show (1 : Int) = ((1 : Nat) : Int) by rfl, sh, bl_n_or l1 p1])
                      | (have q : ¬ foB n a b = true := fun w => by
                           have w1 := hfo.mp w
                           have z0 : b01 ((aoV n).testBit a = true) = 1 := w1.1
                           have z00 : b01 ((aoV n).testBit b = true) = 1 := w1.2.1
                           have z3 := w1.2.2.1
                           first
                             | omega
                             | (apply w1.2.2.2
                                have z1 := b01_ne (P := (opV n (a / 8)).testBit (b % 8) = true) (by omega)
                                have z2 := b01_ne (P := (opV n (b / 8)).testBit (a % 8) = true) (by omega)
                                rw [ob _ (qa (by omega)) _ (by omega)] at z1
                                rw [ob _ (qb (by omega)) _ (by omega)] at z2
                                exact ⟨z1, z2⟩)
                         have z := bl_n_or (a := foV n a b) (b := 0) l1 (by decide)
                         rw [if_neg q]
                         exact z)
          · refine ax_iconst rfl ?_
            refine ax_goto rfl ?_
            refine ax_istoren (ls' := [(0, _), (1, _), (2, _), (3, _)]) rfl rfl rfl ?_
            refine ax_iloadn rfl rfl ?_
            refine ax_if_eq rfl (by omega) (fun h61 => ?_) (fun h61 => ?_)
            · refine ax_iconst rfl ?_
              refine ax_istore (ls' := [(0, _), (1, _), (2, _), (3, _), (4, _)]) rfl rfl rfl ?_
              refine ax_aloadn rfl rfl ?_
              refine ax_getR rfl fX8_50 rfl rfl ?_
              refine ax_iloadn rfl rfl ?_
              refine ax_dup2 rfl rfl rfl ?_
              refine ax_lald rfl rfl (by omega) ?_
              refine ax_iload rfl rfl ?_
              refine ax_if_eq rfl (by omega) (fun h110 => ?_) (fun h110 => ?_)
              · refine ax_lconst (w := 0) rfl rfl ?_
                refine ax_lor rfl ?_
                refine ax_last' rfl rfl (by omega) (fun M121 a121 b121 c121 => ?_)
                refine ax_iinc (ls' := [(0, _), (1, _), (2, _), (3, _), (4, _)]) rfl rfl rfl rfl ?_
                refine ax_goto rfl ?_
                refine ax_pick [0, 1, 2] rfl ?_
                refine ih (b + 1) M121 (by omega) ⟨fun k q => by rw [c121 k q]; exact f1 k q, fun a' ha' => by rw [b121 (a' : Int) (by omega)]; exact f2 a' ha'⟩ ?_
                rw [a121, hv, eo]
                first
                  | omega
                  | (have q : foB n a b = true := hfo.mpr ⟨by omega, by omega, by omega, fun z => by
                       have z1 := b01_t (P := (opV n (a / 8)).testBit (b % 8) = true) (by rw [ob _ (qa (by omega)) _ (by omega)]; exact z.1)
                       have z2 := b01_t (P := (opV n (b / 8)).testBit (a % 8) = true) (by rw [ob _ (qb (by omega)) _ (by omega)]; exact z.2)
                       omega⟩
                     have b63 := bl (by omega)
                     have p1 : 1 * 2 ^ b < 2 ^ 63 := by rw [Nat.one_mul]; exact Nat.pow_lt_pow_right (by decide) b63
                     have sh := bl_n_shl (a := 1) (k := b) (by omega) p1
                     rw [Nat.one_mul] at sh p1
                     rw [if_pos q, show (1 : Int) = ((1 : Nat) : Int) by rfl, sh, bl_n_or l1 p1])
                  | (have q : ¬ foB n a b = true := fun w => by
                       have w1 := hfo.mp w
                       have z0 : b01 ((aoV n).testBit a = true) = 1 := w1.1
                       have z00 : b01 ((aoV n).testBit b = true) = 1 := w1.2.1
                       have z3 := w1.2.2.1
                       first
                         | omega
                         | (apply w1.2.2.2
                            have z1 := b01_ne (P := (opV n (a / 8)).testBit (b % 8) = true) (by omega)
                            have z2 := b01_ne (P := (opV n (b / 8)).testBit (a % 8) = true) (by omega)
                            rw [ob _ (qa (by omega)) _ (by omega)] at z1
                            rw [ob _ (qb (by omega)) _ (by omega)] at z2
                            exact ⟨z1, z2⟩)
                     have z := bl_n_or (a := foV n a b) (b := 0) l1 (by decide)
                     rw [if_neg q]
                     exact z)
              · refine ax_lconst (w := 1) rfl rfl ?_
                refine ax_iloadn rfl rfl ?_
                refine ax_lshl rfl ?_
                refine ax_goto rfl ?_
                refine ax_lor rfl ?_
                refine ax_last' rfl rfl (by omega) (fun M121 a121 b121 c121 => ?_)
                refine ax_iinc (ls' := [(0, _), (1, _), (2, _), (3, _), (4, _)]) rfl rfl rfl rfl ?_
                refine ax_goto rfl ?_
                refine ax_pick [0, 1, 2] rfl ?_
                refine ih (b + 1) M121 (by omega) ⟨fun k q => by rw [c121 k q]; exact f1 k q, fun a' ha' => by rw [b121 (a' : Int) (by omega)]; exact f2 a' ha'⟩ ?_
                rw [a121, hv, eo]
                first
                  | omega
                  | (have q : foB n a b = true := hfo.mpr ⟨by omega, by omega, by omega, fun z => by
                       have z1 := b01_t (P := (opV n (a / 8)).testBit (b % 8) = true) (by rw [ob _ (qa (by omega)) _ (by omega)]; exact z.1)
                       have z2 := b01_t (P := (opV n (b / 8)).testBit (a % 8) = true) (by rw [ob _ (qb (by omega)) _ (by omega)]; exact z.2)
                       omega⟩
                     have b63 := bl (by omega)
                     have p1 : 1 * 2 ^ b < 2 ^ 63 := by rw [Nat.one_mul]; exact Nat.pow_lt_pow_right (by decide) b63
                     have sh := bl_n_shl (a := 1) (k := b) (by omega) p1
                     rw [Nat.one_mul] at sh p1
                     rw [if_pos q, show (1 : Int) = ((1 : Nat) : Int) by rfl, sh, bl_n_or l1 p1])
                  | (have q : ¬ foB n a b = true := fun w => by
                       have w1 := hfo.mp w
                       have z0 : b01 ((aoV n).testBit a = true) = 1 := w1.1
                       have z00 : b01 ((aoV n).testBit b = true) = 1 := w1.2.1
                       have z3 := w1.2.2.1
                       first
                         | omega
                         | (apply w1.2.2.2
                            have z1 := b01_ne (P := (opV n (a / 8)).testBit (b % 8) = true) (by omega)
                            have z2 := b01_ne (P := (opV n (b / 8)).testBit (a % 8) = true) (by omega)
                            rw [ob _ (qa (by omega)) _ (by omega)] at z1
                            rw [ob _ (qb (by omega)) _ (by omega)] at z2
                            exact ⟨z1, z2⟩)
                     have z := bl_n_or (a := foV n a b) (b := 0) l1 (by decide)
                     rw [if_neg q]
                     exact z)
            · refine ax_aloadn rfl rfl ?_
              refine ax_iloadn rfl rfl ?_
              refine ax_bipush rfl rfl ?_
              refine ax_idiv rfl (by omega) (by omega) (by omega) ?_
              refine ax_iloadn rfl rfl ?_
              refine ax_bipush rfl rfl ?_
              refine ax_irem rfl (by omega) (by omega) (by omega) ?_
              refine ax_callV (as := [_, _]) rfl vX8_172 hX8_isOpen rfl rfl rfl rfl rfl (by rw [da.1, db.2]; exact c_X8_isOpen E d M1 (a / 8) (b % 8) (opV n (a / 8)) (by omega) (by omega) (hv8 _ (qa (by omega))) (hop1 _ (qa (by omega)))) (av_Xk ?_)
              refine ax_if_eq rfl (by omega) (fun h76 => ?_) (fun h76 => ?_)
              · refine ax_iconst rfl ?_
                refine ax_goto rfl ?_
                refine ax_istore (ls' := [(0, _), (1, _), (2, _), (3, _), (4, _)]) rfl rfl rfl ?_
                refine ax_aloadn rfl rfl ?_
                refine ax_getR rfl fX8_50 rfl rfl ?_
                refine ax_iloadn rfl rfl ?_
                refine ax_dup2 rfl rfl rfl ?_
                refine ax_lald rfl rfl (by omega) ?_
                refine ax_iload rfl rfl ?_
                refine ax_if_eq rfl (by omega) (fun h110 => ?_) (fun h110 => ?_)
                · refine ax_lconst (w := 0) rfl rfl ?_
                  refine ax_lor rfl ?_
                  refine ax_last' rfl rfl (by omega) (fun M121 a121 b121 c121 => ?_)
                  refine ax_iinc (ls' := [(0, _), (1, _), (2, _), (3, _), (4, _)]) rfl rfl rfl rfl ?_
                  refine ax_goto rfl ?_
                  refine ax_pick [0, 1, 2] rfl ?_
                  refine ih (b + 1) M121 (by omega) ⟨fun k q => by rw [c121 k q]; exact f1 k q, fun a' ha' => by rw [b121 (a' : Int) (by omega)]; exact f2 a' ha'⟩ ?_
                  rw [a121, hv, eo]
                  first
                    | omega
                    | (have q : foB n a b = true := hfo.mpr ⟨by omega, by omega, by omega, fun z => by
                         have z1 := b01_t (P := (opV n (a / 8)).testBit (b % 8) = true) (by rw [ob _ (qa (by omega)) _ (by omega)]; exact z.1)
                         have z2 := b01_t (P := (opV n (b / 8)).testBit (a % 8) = true) (by rw [ob _ (qb (by omega)) _ (by omega)]; exact z.2)
                         omega⟩
                       have b63 := bl (by omega)
                       have p1 : 1 * 2 ^ b < 2 ^ 63 := by rw [Nat.one_mul]; exact Nat.pow_lt_pow_right (by decide) b63
                       have sh := bl_n_shl (a := 1) (k := b) (by omega) p1
                       rw [Nat.one_mul] at sh p1
                       rw [if_pos q, show (1 : Int) = ((1 : Nat) : Int) by rfl, sh, bl_n_or l1 p1])
                    | (have q : ¬ foB n a b = true := fun w => by
                         have w1 := hfo.mp w
                         have z0 : b01 ((aoV n).testBit a = true) = 1 := w1.1
                         have z00 : b01 ((aoV n).testBit b = true) = 1 := w1.2.1
                         have z3 := w1.2.2.1
                         first
                           | omega
                           | (apply w1.2.2.2
                              have z1 := b01_ne (P := (opV n (a / 8)).testBit (b % 8) = true) (by omega)
                              have z2 := b01_ne (P := (opV n (b / 8)).testBit (a % 8) = true) (by omega)
                              rw [ob _ (qa (by omega)) _ (by omega)] at z1
                              rw [ob _ (qb (by omega)) _ (by omega)] at z2
                              exact ⟨z1, z2⟩)
                       have z := bl_n_or (a := foV n a b) (b := 0) l1 (by decide)
                       rw [if_neg q]
                       exact z)
                · refine ax_lconst (w := 1) rfl rfl ?_
                  refine ax_iloadn rfl rfl ?_
                  refine ax_lshl rfl ?_
                  refine ax_goto rfl ?_
                  refine ax_lor rfl ?_
                  refine ax_last' rfl rfl (by omega) (fun M121 a121 b121 c121 => ?_)
                  refine ax_iinc (ls' := [(0, _), (1, _), (2, _), (3, _), (4, _)]) rfl rfl rfl rfl ?_
                  refine ax_goto rfl ?_
                  refine ax_pick [0, 1, 2] rfl ?_
                  refine ih (b + 1) M121 (by omega) ⟨fun k q => by rw [c121 k q]; exact f1 k q, fun a' ha' => by rw [b121 (a' : Int) (by omega)]; exact f2 a' ha'⟩ ?_
                  rw [a121, hv, eo]
                  first
                    | omega
                    | (have q : foB n a b = true := hfo.mpr ⟨by omega, by omega, by omega, fun z => by
                         have z1 := b01_t (P := (opV n (a / 8)).testBit (b % 8) = true) (by rw [ob _ (qa (by omega)) _ (by omega)]; exact z.1)
                         have z2 := b01_t (P := (opV n (b / 8)).testBit (a % 8) = true) (by rw [ob _ (qb (by omega)) _ (by omega)]; exact z.2)
                         omega⟩
                       have b63 := bl (by omega)
                       have p1 : 1 * 2 ^ b < 2 ^ 63 := by rw [Nat.one_mul]; exact Nat.pow_lt_pow_right (by decide) b63
                       have sh := bl_n_shl (a := 1) (k := b) (by omega) p1
                       rw [Nat.one_mul] at sh p1
                       rw [if_pos q, show (1 : Int) = ((1 : Nat) : Int) by rfl, sh, bl_n_or l1 p1])
                    | (have q : ¬ foB n a b = true := fun w => by
                         have w1 := hfo.mp w
                         have z0 : b01 ((aoV n).testBit a = true) = 1 := w1.1
                         have z00 : b01 ((aoV n).testBit b = true) = 1 := w1.2.1
                         have z3 := w1.2.2.1
                         first
                           | omega
                           | (apply w1.2.2.2
                              have z1 := b01_ne (P := (opV n (a / 8)).testBit (b % 8) = true) (by omega)
                              have z2 := b01_ne (P := (opV n (b / 8)).testBit (a % 8) = true) (by omega)
                              rw [ob _ (qa (by omega)) _ (by omega)] at z1
                              rw [ob _ (qb (by omega)) _ (by omega)] at z2
                              exact ⟨z1, z2⟩)
                       have z := bl_n_or (a := foV n a b) (b := 0) l1 (by decide)
                       rw [if_neg q]
                       exact z)
              · refine ax_aloadn rfl rfl ?_
                refine ax_iloadn rfl rfl ?_
                refine ax_bipush rfl rfl ?_
                refine ax_idiv rfl (by omega) (by omega) (by omega) ?_
                refine ax_iloadn rfl rfl ?_
                refine ax_bipush rfl rfl ?_
                refine ax_irem rfl (by omega) (by omega) (by omega) ?_
                refine ax_callV (as := [_, _]) rfl vX8_172 hX8_isOpen rfl rfl rfl rfl rfl (by rw [da.2, db.1]; exact c_X8_isOpen E d M1 (b / 8) (a % 8) (opV n (b / 8)) (by omega) (by omega) (hv8 _ (qb (by omega))) (hop1 _ (qb (by omega)))) (av_Xk ?_)
                refine ax_if_ne rfl (by omega) (fun h91 => ?_) (fun h91 => ?_)
                · refine ax_iconst rfl ?_
                  refine ax_istore (ls' := [(0, _), (1, _), (2, _), (3, _), (4, _)]) rfl rfl rfl ?_
                  refine ax_aloadn rfl rfl ?_
                  refine ax_getR rfl fX8_50 rfl rfl ?_
                  refine ax_iloadn rfl rfl ?_
                  refine ax_dup2 rfl rfl rfl ?_
                  refine ax_lald rfl rfl (by omega) ?_
                  refine ax_iload rfl rfl ?_
                  refine ax_if_eq rfl (by omega) (fun h110 => ?_) (fun h110 => ?_)
                  · refine ax_lconst (w := 0) rfl rfl ?_
                    refine ax_lor rfl ?_
                    refine ax_last' rfl rfl (by omega) (fun M121 a121 b121 c121 => ?_)
                    refine ax_iinc (ls' := [(0, _), (1, _), (2, _), (3, _), (4, _)]) rfl rfl rfl rfl ?_
                    refine ax_goto rfl ?_
                    refine ax_pick [0, 1, 2] rfl ?_
                    refine ih (b + 1) M121 (by omega) ⟨fun k q => by rw [c121 k q]; exact f1 k q, fun a' ha' => by rw [b121 (a' : Int) (by omega)]; exact f2 a' ha'⟩ ?_
                    rw [a121, hv, eo]
                    first
                      | omega
                      | (have q : foB n a b = true := hfo.mpr ⟨by omega, by omega, by omega, fun z => by
                           have z1 := b01_t (P := (opV n (a / 8)).testBit (b % 8) = true) (by rw [ob _ (qa (by omega)) _ (by omega)]; exact z.1)
                           have z2 := b01_t (P := (opV n (b / 8)).testBit (a % 8) = true) (by rw [ob _ (qb (by omega)) _ (by omega)]; exact z.2)
                           omega⟩
                         have b63 := bl (by omega)
                         have p1 : 1 * 2 ^ b < 2 ^ 63 := by rw [Nat.one_mul]; exact Nat.pow_lt_pow_right (by decide) b63
                         have sh := bl_n_shl (a := 1) (k := b) (by omega) p1
                         rw [Nat.one_mul] at sh p1
                         rw [if_pos q, show (1 : Int) = ((1 : Nat) : Int) by rfl, sh, bl_n_or l1 p1])
                      | (have q : ¬ foB n a b = true := fun w => by
                           have w1 := hfo.mp w
                           have z0 : b01 ((aoV n).testBit a = true) = 1 := w1.1
                           have z00 : b01 ((aoV n).testBit b = true) = 1 := w1.2.1
                           have z3 := w1.2.2.1
                           first
                             | omega
                             | (apply w1.2.2.2
                                have z1 := b01_ne (P := (opV n (a / 8)).testBit (b % 8) = true) (by omega)
                                have z2 := b01_ne (P := (opV n (b / 8)).testBit (a % 8) = true) (by omega)
                                rw [ob _ (qa (by omega)) _ (by omega)] at z1
                                rw [ob _ (qb (by omega)) _ (by omega)] at z2
                                exact ⟨z1, z2⟩)
                         have z := bl_n_or (a := foV n a b) (b := 0) l1 (by decide)
                         rw [if_neg q]
                         exact z)
                  · refine ax_lconst (w := 1) rfl rfl ?_
                    refine ax_iloadn rfl rfl ?_
                    refine ax_lshl rfl ?_
                    refine ax_goto rfl ?_
                    refine ax_lor rfl ?_
                    refine ax_last' rfl rfl (by omega) (fun M121 a121 b121 c121 => ?_)
                    refine ax_iinc (ls' := [(0, _), (1, _), (2, _), (3, _), (4, _)]) rfl rfl rfl rfl ?_
                    refine ax_goto rfl ?_
                    refine ax_pick [0, 1, 2] rfl ?_
                    refine ih (b + 1) M121 (by omega) ⟨fun k q => by rw [c121 k q]; exact f1 k q, fun a' ha' => by rw [b121 (a' : Int) (by omega)]; exact f2 a' ha'⟩ ?_
                    rw [a121, hv, eo]
                    first
                      | omega
                      | (have q : foB n a b = true := hfo.mpr ⟨by omega, by omega, by omega, fun z => by
                           have z1 := b01_t (P := (opV n (a / 8)).testBit (b % 8) = true) (by rw [ob _ (qa (by omega)) _ (by omega)]; exact z.1)
                           have z2 := b01_t (P := (opV n (b / 8)).testBit (a % 8) = true) (by rw [ob _ (qb (by omega)) _ (by omega)]; exact z.2)
                           omega⟩
                         have b63 := bl (by omega)
                         have p1 : 1 * 2 ^ b < 2 ^ 63 := by rw [Nat.one_mul]; exact Nat.pow_lt_pow_right (by decide) b63
                         have sh := bl_n_shl (a := 1) (k := b) (by omega) p1
                         rw [Nat.one_mul] at sh p1
                         rw [if_pos q, show (1 : Int) = ((1 : Nat) : Int) by rfl, sh, bl_n_or l1 p1])
                      | (have q : ¬ foB n a b = true := fun w => by
                           have w1 := hfo.mp w
                           have z0 : b01 ((aoV n).testBit a = true) = 1 := w1.1
                           have z00 : b01 ((aoV n).testBit b = true) = 1 := w1.2.1
                           have z3 := w1.2.2.1
                           first
                             | omega
                             | (apply w1.2.2.2
                                have z1 := b01_ne (P := (opV n (a / 8)).testBit (b % 8) = true) (by omega)
                                have z2 := b01_ne (P := (opV n (b / 8)).testBit (a % 8) = true) (by omega)
                                rw [ob _ (qa (by omega)) _ (by omega)] at z1
                                rw [ob _ (qb (by omega)) _ (by omega)] at z2
                                exact ⟨z1, z2⟩)
                         have z := bl_n_or (a := foV n a b) (b := 0) l1 (by decide)
                         rw [if_neg q]
                         exact z)
                · refine ax_iconst rfl ?_
                  refine ax_goto rfl ?_
                  refine ax_istore (ls' := [(0, _), (1, _), (2, _), (3, _), (4, _)]) rfl rfl rfl ?_
                  refine ax_aloadn rfl rfl ?_
                  refine ax_getR rfl fX8_50 rfl rfl ?_
                  refine ax_iloadn rfl rfl ?_
                  refine ax_dup2 rfl rfl rfl ?_
                  refine ax_lald rfl rfl (by omega) ?_
                  refine ax_iload rfl rfl ?_
                  refine ax_if_eq rfl (by omega) (fun h110 => ?_) (fun h110 => ?_)
                  · refine ax_lconst (w := 0) rfl rfl ?_
                    refine ax_lor rfl ?_
                    refine ax_last' rfl rfl (by omega) (fun M121 a121 b121 c121 => ?_)
                    refine ax_iinc (ls' := [(0, _), (1, _), (2, _), (3, _), (4, _)]) rfl rfl rfl rfl ?_
                    refine ax_goto rfl ?_
                    refine ax_pick [0, 1, 2] rfl ?_
                    refine ih (b + 1) M121 (by omega) ⟨fun k q => by rw [c121 k q]; exact f1 k q, fun a' ha' => by rw [b121 (a' : Int) (by omega)]; exact f2 a' ha'⟩ ?_
                    rw [a121, hv, eo]
                    first
                      | omega
                      | (have q : foB n a b = true := hfo.mpr ⟨by omega, by omega, by omega, fun z => by
                           have z1 := b01_t (P := (opV n (a / 8)).testBit (b % 8) = true) (by rw [ob _ (qa (by omega)) _ (by omega)]; exact z.1)
                           have z2 := b01_t (P := (opV n (b / 8)).testBit (a % 8) = true) (by rw [ob _ (qb (by omega)) _ (by omega)]; exact z.2)
                           omega⟩
                         have b63 := bl (by omega)
                         have p1 : 1 * 2 ^ b < 2 ^ 63 := by rw [Nat.one_mul]; exact Nat.pow_lt_pow_right (by decide) b63
                         have sh := bl_n_shl (a := 1) (k := b) (by omega) p1
                         rw [Nat.one_mul] at sh p1
                         rw [if_pos q, show (1 : Int) = ((1 : Nat) : Int) by rfl, sh, bl_n_or l1 p1])
                      | (have q : ¬ foB n a b = true := fun w => by
                           have w1 := hfo.mp w
                           have z0 : b01 ((aoV n).testBit a = true) = 1 := w1.1
                           have z00 : b01 ((aoV n).testBit b = true) = 1 := w1.2.1
                           have z3 := w1.2.2.1
                           first
                             | omega
                             | (apply w1.2.2.2
                                have z1 := b01_ne (P := (opV n (a / 8)).testBit (b % 8) = true) (by omega)
                                have z2 := b01_ne (P := (opV n (b / 8)).testBit (a % 8) = true) (by omega)
                                rw [ob _ (qa (by omega)) _ (by omega)] at z1
                                rw [ob _ (qb (by omega)) _ (by omega)] at z2
                                exact ⟨z1, z2⟩)
                         have z := bl_n_or (a := foV n a b) (b := 0) l1 (by decide)
                         rw [if_neg q]
                         exact z)
                  · refine ax_lconst (w := 1) rfl rfl ?_
                    refine ax_iloadn rfl rfl ?_
                    refine ax_lshl rfl ?_
                    refine ax_goto rfl ?_
                    refine ax_lor rfl ?_
                    refine ax_last' rfl rfl (by omega) (fun M121 a121 b121 c121 => ?_)
                    refine ax_iinc (ls' := [(0, _), (1, _), (2, _), (3, _), (4, _)]) rfl rfl rfl rfl ?_
                    refine ax_goto rfl ?_
                    refine ax_pick [0, 1, 2] rfl ?_
                    refine ih (b + 1) M121 (by omega) ⟨fun k q => by rw [c121 k q]; exact f1 k q, fun a' ha' => by rw [b121 (a' : Int) (by omega)]; exact f2 a' ha'⟩ ?_
                    rw [a121, hv, eo]
                    first
                      | omega
                      | (have q : foB n a b = true := hfo.mpr ⟨by omega, by omega, by omega, fun z => by
                           have z1 := b01_t (P := (opV n (a / 8)).testBit (b % 8) = true) (by rw [ob _ (qa (by omega)) _ (by omega)]; exact z.1)
                           have z2 := b01_t (P := (opV n (b / 8)).testBit (a % 8) = true) (by rw [ob _ (qb (by omega)) _ (by omega)]; exact z.2)
                           omega⟩
                         have b63 := bl (by omega)
                         have p1 : 1 * 2 ^ b < 2 ^ 63 := by rw [Nat.one_mul]; exact Nat.pow_lt_pow_right (by decide) b63
                         have sh := bl_n_shl (a := 1) (k := b) (by omega) p1
                         rw [Nat.one_mul] at sh p1
                         rw [if_pos q, show (1 : Int) = ((1 : Nat) : Int) by rfl, sh, bl_n_or l1 p1])
                      | (have q : ¬ foB n a b = true := fun w => by
                           have w1 := hfo.mp w
                           have z0 : b01 ((aoV n).testBit a = true) = 1 := w1.1
                           have z00 : b01 ((aoV n).testBit b = true) = 1 := w1.2.1
                           have z3 := w1.2.2.1
                           first
                             | omega
                             | (apply w1.2.2.2
                                have z1 := b01_ne (P := (opV n (a / 8)).testBit (b % 8) = true) (by omega)
                                have z2 := b01_ne (P := (opV n (b / 8)).testBit (a % 8) = true) (by omega)
                                rw [ob _ (qa (by omega)) _ (by omega)] at z1
                                rw [ob _ (qb (by omega)) _ (by omega)] at z2
                                exact ⟨z1, z2⟩)
                         have z := bl_n_or (a := foV n a b) (b := 0) l1 (by decide)
                         rw [if_neg q]
                         exact z)
set_option maxRecDepth 100000 in
set_option maxHeartbeats 800000 in
theorem l1_X8_layFooling (E : av_E) (d : Nat) (M : av_M) (n : Nat) (hn8 : n ≤ 8) (h13 : M 35 13 = ((aoV n : Nat) : Int)) (hop : ∀ e : Nat, e < n → M 44 (e : Int) = ((opV n e : Nat) : Int)) : ∀ (t a : Nat) (M1 : av_M), a + t = 64 → FOm M M1 n a → av_S E (d + 1) mX8_layFooling 2 [(0, vR 35), (1, vI (a : Int))] [] M1 (fun res M' => res = none ∧ (∀ a : Nat, a < 64 → M' 49 (a : Int) = ((foV n a 64 : Nat) : Int)) ∧ ∀ k, k ≠ 49 → M' k = M k) := by
  intro t
  induction t with
  | zero =>
    intro a M1 ha hF
    have ea : a = 64 := by omega
    subst ea
    refine ax_iloadn rfl rfl ?_
    refine ax_bipush rfl rfl ?_
    refine ax_icmp_ge rfl (by omega) (by omega) (fun h5 => ?_) (fun h5 => ?_)
    · refine ax_vret rfl rfl ?_
      exact ⟨rfl, hF.2, hF.1⟩
    · omega
  | succ t ih =>
    intro a M1 ha hF
    obtain ⟨f1, f2⟩ := hF
    refine ax_iloadn rfl rfl ?_
    refine ax_bipush rfl rfl ?_
    refine ax_icmp_ge rfl (by omega) (by omega) (fun h5 => ?_) (fun h5 => ?_)
    · omega
    · refine ax_aloadn rfl rfl ?_
      refine ax_getR rfl fX8_50 rfl rfl ?_
      refine ax_iloadn rfl rfl ?_
      refine ax_lconst (w := 0) rfl rfl ?_
      refine ax_last' rfl rfl (by omega) (fun M14 a14 b14 c14 => ?_)
      refine ax_iconst rfl ?_
      refine ax_istoren (ls' := [(0, _), (1, _), (2, _)]) rfl rfl rfl ?_
      refine l2_X8_layFooling E d M n hn8 h13 hop a (by omega) (fun M2 hF2 hv2 => ?nx) 64 0 M14 (by omega) ⟨fun k q => by rw [c14 k q]; exact f1 k q, fun a' ha' => by rw [b14 (a' : Int) (by omega)]; exact f2 a' ha'⟩ a14
      case nx =>
        refine ax_iinc (ls' := [(0, _), (1, _), (2, _)]) rfl rfl rfl rfl ?_
        refine ax_goto rfl ?_
        refine ax_pick [0, 1] rfl ?_
        have i2 := ih (a + 1) M2 (by omega) ⟨hF2.1, fun a' ha' => by
          by_cases q : a' = a
          · rw [q]; exact hv2
          · exact hF2.2 a' (by omega)⟩
        rw [show ((a + 1 : Nat) : Int) = (a : Int) + 1 by omega] at i2
        exact i2
set_option maxRecDepth 100000 in
set_option maxHeartbeats 800000 in
theorem c_X8_layFooling (E : av_E) (d : Nat) (M : av_M) (n : Nat) (hn8 : n ≤ 8) (h13 : M 35 13 = ((aoV n : Nat) : Int)) (hop : ∀ e : Nat, e < n → M 44 (e : Int) = ((opV n e : Nat) : Int)) : av_Mt E (d + 1) mX8_layFooling [vR 35] M (fun res M' => res = none ∧ (∀ a : Nat, a < 64 → M' 49 (a : Int) = ((foV n a 64 : Nat) : Int)) ∧ ∀ k, k ≠ 49 → M' k = M k) := by
  refine av_enter hX8_layFooling oX8_layFooling rfl rfl ?_
  refine ax_iconst rfl ?_
  refine ax_istoren (ls' := [(0, _), (1, _)]) rfl rfl rfl ?_
  exact l1_X8_layFooling E d M n hn8 h13 hop 64 0 M (by omega) ⟨fun k _ => rfl, fun a ha => by omega⟩
