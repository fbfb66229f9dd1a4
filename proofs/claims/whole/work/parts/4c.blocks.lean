/-! ===== the reference: blocks laid ===== -/
def wiN (n s : Nat) : Nat → Nat
  | 0 => 2 ^ n - 1
  | e + 1 => wiN n s e &&& (if s.testBit e then opV n e else wiN n s e)
def inB (n w e : Nat) : Bool := decide (opV n e &&& w = w)
def clN (n w : Nat) : Nat → Nat
  | 0 => 0
  | e + 1 => clN n w e ||| (if inB n w e then 2 ^ e else 0)
def bkN (n w : Nat) : Nat → Nat
  | 0 => 0
  | e + 1 => bkN n w e ||| (if inB n w e then w * 2 ^ (8 * e) else 0)
def tkB (n s : Nat) : Bool := decide (s ≠ 0) && decide (wiN n s n ≠ 0) && decide (clN n (wiN n s n) n = s)
def blL (n : Nat) : Nat → List Nat
  | 0 => []
  | s + 1 => blL n s ++ (if tkB n s then [bkN n (wiN n s n) n] else [])
theorem wi_lt {n : Nat} (hn : n ≤ 8) (s : Nat) : ∀ e, wiN n s e < 256 := by
  intro e
  induction e with
  | zero =>
    show 2 ^ n - 1 < 256
    have p2 : 2 ^ n ≤ 2 ^ 8 := Nat.pow_le_pow_right (by decide) hn
    have p8 : (2 : Nat) ^ 8 = 256 := by rfl
    have p0 : 0 < 2 ^ n := Nat.pow_pos (by decide)
    omega
  | succ e ih => exact Nat.lt_of_le_of_lt Nat.and_le_left ih
theorem cl_lt {n w : Nat} : ∀ e, e ≤ 8 → clN n w e < 2 ^ 8 := by
  intro e
  induction e with
  | zero => intro _; exact Nat.pow_pos (by decide)
  | succ e ih =>
    intro he
    show clN n w e ||| (if inB n w e then 2 ^ e else 0) < 2 ^ 8
    refine Nat.or_lt_two_pow (ih (by omega)) ?_
    split
    · exact Nat.pow_lt_pow_right (by decide) (by omega)
    · exact Nat.pow_pos (by decide)
theorem bk_at {n w e : Nat} (hn : n ≤ 8) (he : e < n) (h : inB n w e = true) : w * 2 ^ (8 * e) < 2 ^ 63 := by
  obtain ⟨_, b, _⟩ := op_all n (by omega) e he
  have h1 : opV n e &&& w = w := of_decide_eq_true h
  have h2 : w ≤ opV n e := by rw [← h1]; exact Nat.and_le_left
  exact Nat.lt_of_le_of_lt (Nat.mul_le_mul_right _ h2) b
theorem bk_lt {n w : Nat} (hn : n ≤ 8) : ∀ e, e ≤ n → bkN n w e < 2 ^ 63 := by
  intro e
  induction e with
  | zero => intro _; exact Nat.pow_pos (by decide)
  | succ e ih =>
    intro he
    show bkN n w e ||| (if inB n w e then w * 2 ^ (8 * e) else 0) < 2 ^ 63
    refine Nat.or_lt_two_pow (ih (by omega)) ?_
    split
    · rename_i q; exact bk_at hn (by omega) q
    · exact Nat.pow_pos (by decide)
theorem bl_len (n : Nat) : ∀ s, (blL n (s + 1)).length ≤ s := by
  intro s
  induction s with
  | zero =>
    have : tkB n 0 = false := by unfold tkB; simp
    show (blL n 0 ++ (if tkB n 0 then [bkN n (wiN n 0 n) n] else [])).length ≤ 0
    rw [this]
    exact Nat.le_refl _
  | succ s ih =>
    show (blL n (s + 1) ++ (if tkB n (s + 1) then [bkN n (wiN n (s + 1) n) n] else [])).length ≤ s + 1
    rw [List.length_append]
    split
    · simp only [List.length_cons, List.length_nil]; omega
    · simp only [List.length_nil]; omega
def BLk (M M1 : av_M) : Prop := (∀ f, f ≠ 11 → M1 35 f = M 35 f) ∧ ∀ k, k ≠ 35 → k ≠ 43 → M1 k = M k
def BLm (M : av_M) (L : List Nat) : Prop := M 35 11 = ((L.length : Nat) : Int) ∧ ∀ i : Nat, i < L.length → M 43 (i : Int) = ((L.getD i 0 : Nat) : Int)
set_option maxRecDepth 100000 in
set_option maxHeartbeats 800000 in
theorem lw_X8_layBlocks (E : av_E) (d : Nat) (M : av_M) (h : Int) (eh : M 35 7 = h) (n : Nat) (hn : h = (n : Int)) (hn8 : n ≤ 8) (hop : ∀ e : Nat, e < n → M 44 (e : Int) = ((opV n e : Nat) : Int)) (s : Nat) (hs : s < 256) (Q : Option av_V → av_M → Prop) (nxt0 : av_S E d mX8_layBlocks 64 [(0, vR 35), (1, vI (s : Int)), (2, vI ((wiN n s n : Nat) : Int))] [] M Q) : ∀ (t e : Nat), e + t = n → av_S E d mX8_layBlocks 28 [(0, vR 35), (1, vI (s : Int)), (2, vI ((wiN n s e : Nat) : Int)), (3, vI (e : Int))] [] M Q := by
  intro t
  induction t with
  | zero =>
    intro e he
    have ee : e = n := by omega
    subst ee
    refine ax_iloadn rfl rfl ?_
    refine ax_aloadn rfl rfl ?_
    refine ax_getI (g := 7) rfl fX8_131 rfl rfl rfl rfl ?_
    refine ax_icmp_ge rfl (by omega) (by omega) (fun h33 => ?_) (fun h33 => ?_)
    · refine ax_pick [0, 1, 2] rfl ?_
      exact nxt0
    · omega
  | succ t ih =>
    intro e he
    have i2 := ih (e + 1) (by omega)
    have hb := bi_n_bit (a := s) (k := e) (by omega) (by omega)
    have w1 := wi_lt hn8 s e
    have ho := hop e (by omega)
    have eo : wiN n s (e + 1) = wiN n s e &&& (if s.testBit e then opV n e else wiN n s e) := rfl
    have hb2 : bi_and (bi_shr (s : Int) (e : Int)) 1 = b01 (s.testBit e = true) := by
      rw [hb]
      by_cases q : s.testBit e = true
      · rw [if_pos q, b01_t q]
      · rw [if_neg q, b01_f q]
    have br := b01_rng (s.testBit e = true)
    refine ax_iloadn rfl rfl ?_
    refine ax_aloadn rfl rfl ?_
    refine ax_getI (g := 7) rfl fX8_131 rfl rfl rfl rfl ?_
    refine ax_icmp_ge rfl (by omega) (by omega) (fun h33 => ?_) (fun h33 => ?_)
    · omega
    · refine ax_iloadn rfl rfl ?_
      refine ax_iloadn rfl rfl ?_
      refine ax_iloadn rfl rfl ?_
      refine ax_ishr rfl ?_
      refine ax_iconst rfl ?_
      refine ax_iand rfl ?_
      refine ax_iconst rfl ?_
      refine ax_icmp_ne rfl (by omega) (by omega) (fun h43 => ?_) (fun h43 => ?_)
      · refine ax_iloadn rfl rfl ?_
        refine ax_iand rfl ?_
        refine ax_istoren (ls' := [(0, _), (1, _), (2, _), (3, _)]) rfl rfl rfl ?_
        refine ax_iinc (ls' := [(0, _), (1, _), (2, _), (3, _)]) rfl rfl rfl rfl ?_
        refine ax_goto rfl ?_
        first
          | (have q := b01_ne (P := s.testBit e = true) (by omega)
             rw [eo, if_pos q] at i2
             rw [ho, bi_n_and (by omega)]
             exact i2)
          | (have q := b01_eq (P := s.testBit e = true) (by omega)
             rw [eo, if_neg q] at i2
             rw [bi_n_and (by omega)]
             exact i2)
      · refine ax_aloadn rfl rfl ?_
        refine ax_getR rfl fX8_35 rfl rfl ?_
        refine ax_iloadn rfl rfl ?_
        refine ax_iald rfl rfl (by omega) ?_
        refine ax_goto rfl ?_
        refine ax_iand rfl ?_
        refine ax_istoren (ls' := [(0, _), (1, _), (2, _), (3, _)]) rfl rfl rfl ?_
        refine ax_iinc (ls' := [(0, _), (1, _), (2, _), (3, _)]) rfl rfl rfl rfl ?_
        refine ax_goto rfl ?_
        first
          | (have q := b01_ne (P := s.testBit e = true) (by omega)
             rw [eo, if_pos q] at i2
             rw [ho, bi_n_and (by omega)]
             exact i2)
          | (have q := b01_eq (P := s.testBit e = true) (by omega)
             rw [eo, if_neg q] at i2
             rw [bi_n_and (by omega)]
             exact i2)
set_option maxRecDepth 100000 in
set_option maxHeartbeats 800000 in
theorem lc_X8_layBlocks (E : av_E) (d : Nat) (M : av_M) (h : Int) (eh : M 35 7 = h) (n : Nat) (hn : h = (n : Int)) (hn8 : n ≤ 8) (hop : ∀ e : Nat, e < n → M 44 (e : Int) = ((opV n e : Nat) : Int)) (s w : Nat) (hw : w < 256) (Q : Option av_V → av_M → Prop) (nxt0 : av_S E d mX8_layBlocks 145 [(0, vR 35), (1, vI (s : Int)), (2, vI (w : Int)), (3, vI ((clN n w n : Nat) : Int)), (4, vL ((bkN n w n : Nat) : Int))] [] M Q) : ∀ (t e : Nat), e + t = n → av_S E d mX8_layBlocks 72 [(0, vR 35), (1, vI (s : Int)), (2, vI (w : Int)), (3, vI ((clN n w e : Nat) : Int)), (4, vL ((bkN n w e : Nat) : Int)), (6, vI (e : Int))] [] M Q := by
  intro t
  induction t with
  | zero =>
    intro e he
    have ee : e = n := by omega
    subst ee
    refine ax_iload rfl rfl ?_
    refine ax_aloadn rfl rfl ?_
    refine ax_getI (g := 7) rfl fX8_131 rfl rfl rfl rfl ?_
    refine ax_icmp_ge rfl (by omega) (by omega) (fun h78 => ?_) (fun h78 => ?_)
    · refine ax_pick [0, 1, 2, 3, 4] rfl ?_
      exact nxt0
    · omega
  | succ t ih =>
    intro e he
    have i2 := ih (e + 1) (by omega)
    have ho := hop e (by omega)
    obtain ⟨_, _, oc, _⟩ := op_all n (by omega) e (by omega)
    have ov : opV n e < 256 := oc n (Nat.le_refl _)
    have ha := bi_n_and (a := opV n e) (b := w) (by omega)
    have hle : opV n e &&& w ≤ w := Nat.and_le_right
    rw [← ho] at ha
    have hin : inB n w e = true ↔ bi_and (M 44 (e : Int)) (w : Int) = (w : Int) := by
      unfold inB
      rw [decide_eq_true_eq, ha]
      omega
    have c1 := cl_lt (n := n) (w := w) e (by omega)
    have p8 : (2 : Nat) ^ 8 = 256 := by rfl
    have pe : 2 ^ e ≤ 2 ^ 8 := Nat.pow_le_pow_right (by decide) (by omega)
    have b1 := bk_lt (n := n) (w := w) hn8 e (by omega)
    have ec : clN n w (e + 1) = clN n w e ||| (if inB n w e then 2 ^ e else 0) := rfl
    have eb : bkN n w (e + 1) = bkN n w e ||| (if inB n w e then w * 2 ^ (8 * e) else 0) := rfl
    refine ax_iload rfl rfl ?_
    refine ax_aloadn rfl rfl ?_
    refine ax_getI (g := 7) rfl fX8_131 rfl rfl rfl rfl ?_
    refine ax_icmp_ge rfl (by omega) (by omega) (fun h78 => ?_) (fun h78 => ?_)
    · omega
    · refine ax_aloadn rfl rfl ?_
      refine ax_getR rfl fX8_35 rfl rfl ?_
      refine ax_iload rfl rfl ?_
      refine ax_iald rfl rfl (by omega) ?_
      refine ax_iloadn rfl rfl ?_
      refine ax_iand rfl ?_
      refine ax_iloadn rfl rfl ?_
      refine ax_icmp_ne rfl (by omega) (by omega) (fun h91 => ?_) (fun h91 => ?_)
      · refine ax_iconst rfl ?_
        refine ax_istore (ls' := [(0, _), (1, _), (2, _), (3, _), (4, _), (6, _), (7, _)]) rfl rfl rfl ?_
        refine ax_iloadn rfl rfl ?_
        refine ax_iload rfl rfl ?_
        refine ax_if_eq rfl (by omega) (fun h104 => ?_) (fun h104 => ?_)
        · refine ax_iconst rfl ?_
          refine ax_ior rfl ?_
          refine ax_istoren (ls' := [(0, _), (1, _), (2, _), (3, _), (4, _), (6, _), (7, _)]) rfl rfl rfl ?_
          refine ax_lload rfl rfl ?_
          refine ax_iload rfl rfl ?_
          refine ax_if_eq rfl (by omega) (fun h121 => ?_) (fun h121 => ?_)
          · refine ax_lconst (w := 0) rfl rfl ?_
            refine ax_lor rfl ?_
            refine ax_lstore (ls' := [(0, _), (1, _), (2, _), (3, _), (4, _), (6, _), (7, _)]) rfl rfl rfl ?_
            refine ax_iinc (ls' := [(0, _), (1, _), (2, _), (3, _), (4, _), (6, _), (7, _)]) rfl rfl rfl rfl ?_
            refine ax_goto rfl ?_
            refine ax_pick [0, 1, 2, 3, 4, 5] rfl ?_
            first
              | omega
              | (have q : inB n w e = true := hin.mpr (by omega)
                 rw [ec, eb, if_pos q, if_pos q] at i2
                 rw [bi_n_shl1 (by omega), bi_n_or (by omega) (by omega), show (8 : Int) * (e : Int) = ((8 * e : Nat) : Int) by omega, bl_n_shl (by omega) (bk_at hn8 (by omega) q), bl_n_or b1 (bk_at hn8 (by omega) q)]
                 exact i2)
              | (have q : ¬ inB n w e = true := fun z => by have := hin.mp z; omega
                 rw [ec, eb, if_neg q, if_neg q] at i2
                 have z1 := bi_n_or (a := clN n w e) (b := 0) (by omega) (by omega)
                 have z2 := bl_n_or (a := bkN n w e) (b := 0) b1 (by omega)
                 rw [← z1, ← z2] at i2
                 exact i2)
          · refine ax_iloadn rfl rfl ?_
            refine ax_i2l rfl (by omega) ?_
            refine ax_bipush rfl rfl ?_
            refine ax_iload rfl rfl ?_
            refine ax_imul rfl ?_
            refine ax_lshl rfl ?_
            refine ax_goto rfl ?_
            refine ax_lor rfl ?_
            refine ax_lstore (ls' := [(0, _), (1, _), (2, _), (3, _), (4, _), (6, _), (7, _)]) rfl rfl rfl ?_
            refine ax_iinc (ls' := [(0, _), (1, _), (2, _), (3, _), (4, _), (6, _), (7, _)]) rfl rfl rfl rfl ?_
            refine ax_goto rfl ?_
            refine ax_pick [0, 1, 2, 3, 4, 5] rfl ?_
            first
              | omega
              | (have q : inB n w e = true := hin.mpr (by omega)
                 rw [ec, eb, if_pos q, if_pos q] at i2
                 rw [bi_n_shl1 (by omega), bi_n_or (by omega) (by omega), show (8 : Int) * (e : Int) = ((8 * e : Nat) : Int) by omega, bl_n_shl (by omega) (bk_at hn8 (by omega) q), bl_n_or b1 (bk_at hn8 (by omega) q)]
                 exact i2)
              | (have q : ¬ inB n w e = true := fun z => by have := hin.mp z; omega
                 rw [ec, eb, if_neg q, if_neg q] at i2
                 have z1 := bi_n_or (a := clN n w e) (b := 0) (by omega) (by omega)
                 have z2 := bl_n_or (a := bkN n w e) (b := 0) b1 (by omega)
                 rw [← z1, ← z2] at i2
                 exact i2)
        · refine ax_iconst rfl ?_
          refine ax_iload rfl rfl ?_
          refine ax_ishl rfl ?_
          refine ax_goto rfl ?_
          refine ax_ior rfl ?_
          refine ax_istoren (ls' := [(0, _), (1, _), (2, _), (3, _), (4, _), (6, _), (7, _)]) rfl rfl rfl ?_
          refine ax_lload rfl rfl ?_
          refine ax_iload rfl rfl ?_
          refine ax_if_eq rfl (by omega) (fun h121 => ?_) (fun h121 => ?_)
          · refine ax_lconst (w := 0) rfl rfl ?_
            refine ax_lor rfl ?_
            refine ax_lstore (ls' := [(0, _), (1, _), (2, _), (3, _), (4, _), (6, _), (7, _)]) rfl rfl rfl ?_
            refine ax_iinc (ls' := [(0, _), (1, _), (2, _), (3, _), (4, _), (6, _), (7, _)]) rfl rfl rfl rfl ?_
            refine ax_goto rfl ?_
            refine ax_pick [0, 1, 2, 3, 4, 5] rfl ?_
            first
              | omega
              | (have q : inB n w e = true := hin.mpr (by omega)
                 rw [ec, eb, if_pos q, if_pos q] at i2
                 rw [bi_n_shl1 (by omega), bi_n_or (by omega) (by omega), show (8 : Int) * (e : Int) = ((8 * e : Nat) : Int) by omega, bl_n_shl (by omega) (bk_at hn8 (by omega) q), bl_n_or b1 (bk_at hn8 (by omega) q)]
                 exact i2)
              | (have q : ¬ inB n w e = true := fun z => by have := hin.mp z; omega
                 rw [ec, eb, if_neg q, if_neg q] at i2
                 have z1 := bi_n_or (a := clN n w e) (b := 0) (by omega) (by omega)
                 have z2 := bl_n_or (a := bkN n w e) (b := 0) b1 (by omega)
                 rw [← z1, ← z2] at i2
                 exact i2)
          · refine ax_iloadn rfl rfl ?_
            refine ax_i2l rfl (by omega) ?_
            refine ax_bipush rfl rfl ?_
            refine ax_iload rfl rfl ?_
            refine ax_imul rfl ?_
            refine ax_lshl rfl ?_
            refine ax_goto rfl ?_
            refine ax_lor rfl ?_
            refine ax_lstore (ls' := [(0, _), (1, _), (2, _), (3, _), (4, _), (6, _), (7, _)]) rfl rfl rfl ?_
            refine ax_iinc (ls' := [(0, _), (1, _), (2, _), (3, _), (4, _), (6, _), (7, _)]) rfl rfl rfl rfl ?_
            refine ax_goto rfl ?_
            refine ax_pick [0, 1, 2, 3, 4, 5] rfl ?_
            first
              | omega
              | (have q : inB n w e = true := hin.mpr (by omega)
                 rw [ec, eb, if_pos q, if_pos q] at i2
                 rw [bi_n_shl1 (by omega), bi_n_or (by omega) (by omega), show (8 : Int) * (e : Int) = ((8 * e : Nat) : Int) by omega, bl_n_shl (by omega) (bk_at hn8 (by omega) q), bl_n_or b1 (bk_at hn8 (by omega) q)]
                 exact i2)
              | (have q : ¬ inB n w e = true := fun z => by have := hin.mp z; omega
                 rw [ec, eb, if_neg q, if_neg q] at i2
                 have z1 := bi_n_or (a := clN n w e) (b := 0) (by omega) (by omega)
                 have z2 := bl_n_or (a := bkN n w e) (b := 0) b1 (by omega)
                 rw [← z1, ← z2] at i2
                 exact i2)
      · refine ax_iconst rfl ?_
        refine ax_goto rfl ?_
        refine ax_istore (ls' := [(0, _), (1, _), (2, _), (3, _), (4, _), (6, _), (7, _)]) rfl rfl rfl ?_
        refine ax_iloadn rfl rfl ?_
        refine ax_iload rfl rfl ?_
        refine ax_if_eq rfl (by omega) (fun h104 => ?_) (fun h104 => ?_)
        · refine ax_iconst rfl ?_
          refine ax_ior rfl ?_
          refine ax_istoren (ls' := [(0, _), (1, _), (2, _), (3, _), (4, _), (6, _), (7, _)]) rfl rfl rfl ?_
          refine ax_lload rfl rfl ?_
          refine ax_iload rfl rfl ?_
          refine ax_if_eq rfl (by omega) (fun h121 => ?_) (fun h121 => ?_)
          · refine ax_lconst (w := 0) rfl rfl ?_
            refine ax_lor rfl ?_
            refine ax_lstore (ls' := [(0, _), (1, _), (2, _), (3, _), (4, _), (6, _), (7, _)]) rfl rfl rfl ?_
            refine ax_iinc (ls' := [(0, _), (1, _), (2, _), (3, _), (4, _), (6, _), (7, _)]) rfl rfl rfl rfl ?_
            refine ax_goto rfl ?_
            refine ax_pick [0, 1, 2, 3, 4, 5] rfl ?_
            first
              | omega
              | (have q : inB n w e = true := hin.mpr (by omega)
                 rw [ec, eb, if_pos q, if_pos q] at i2
                 rw [bi_n_shl1 (by omega), bi_n_or (by omega) (by omega), show (8 : Int) * (e : Int) = ((8 * e : Nat) : Int) by omega, bl_n_shl (by omega) (bk_at hn8 (by omega) q), bl_n_or b1 (bk_at hn8 (by omega) q)]
                 exact i2)
              | (have q : ¬ inB n w e = true := fun z => by have := hin.mp z; omega
                 rw [ec, eb, if_neg q, if_neg q] at i2
                 have z1 := bi_n_or (a := clN n w e) (b := 0) (by omega) (by omega)
                 have z2 := bl_n_or (a := bkN n w e) (b := 0) b1 (by omega)
                 rw [← z1, ← z2] at i2
                 exact i2)
          · refine ax_iloadn rfl rfl ?_
            refine ax_i2l rfl (by omega) ?_
            refine ax_bipush rfl rfl ?_
            refine ax_iload rfl rfl ?_
            refine ax_imul rfl ?_
            refine ax_lshl rfl ?_
            refine ax_goto rfl ?_
            refine ax_lor rfl ?_
            refine ax_lstore (ls' := [(0, _), (1, _), (2, _), (3, _), (4, _), (6, _), (7, _)]) rfl rfl rfl ?_
            refine ax_iinc (ls' := [(0, _), (1, _), (2, _), (3, _), (4, _), (6, _), (7, _)]) rfl rfl rfl rfl ?_
            refine ax_goto rfl ?_
            refine ax_pick [0, 1, 2, 3, 4, 5] rfl ?_
            first
              | omega
              | (have q : inB n w e = true := hin.mpr (by omega)
                 rw [ec, eb, if_pos q, if_pos q] at i2
                 rw [bi_n_shl1 (by omega), bi_n_or (by omega) (by omega), show (8 : Int) * (e : Int) = ((8 * e : Nat) : Int) by omega, bl_n_shl (by omega) (bk_at hn8 (by omega) q), bl_n_or b1 (bk_at hn8 (by omega) q)]
                 exact i2)
              | (have q : ¬ inB n w e = true := fun z => by have := hin.mp z; omega
                 rw [ec, eb, if_neg q, if_neg q] at i2
                 have z1 := bi_n_or (a := clN n w e) (b := 0) (by omega) (by omega)
                 have z2 := bl_n_or (a := bkN n w e) (b := 0) b1 (by omega)
                 rw [← z1, ← z2] at i2
                 exact i2)
        · refine ax_iconst rfl ?_
          refine ax_iload rfl rfl ?_
          refine ax_ishl rfl ?_
          refine ax_goto rfl ?_
          refine ax_ior rfl ?_
          refine ax_istoren (ls' := [(0, _), (1, _), (2, _), (3, _), (4, _), (6, _), (7, _)]) rfl rfl rfl ?_
          refine ax_lload rfl rfl ?_
          refine ax_iload rfl rfl ?_
          refine ax_if_eq rfl (by omega) (fun h121 => ?_) (fun h121 => ?_)
          · refine ax_lconst (w := 0) rfl rfl ?_
            refine ax_lor rfl ?_
            refine ax_lstore (ls' := [(0, _), (1, _), (2, _), (3, _), (4, _), (6, _), (7, _)]) rfl rfl rfl ?_
            refine ax_iinc (ls' := [(0, _), (1, _), (2, _), (3, _), (4, _), (6, _), (7, _)]) rfl rfl rfl rfl ?_
            refine ax_goto rfl ?_
            refine ax_pick [0, 1, 2, 3, 4, 5] rfl ?_
            first
              | omega
              | (have q : inB n w e = true := hin.mpr (by omega)
                 rw [ec, eb, if_pos q, if_pos q] at i2
                 rw [bi_n_shl1 (by omega), bi_n_or (by omega) (by omega), show (8 : Int) * (e : Int) = ((8 * e : Nat) : Int) by omega, bl_n_shl (by omega) (bk_at hn8 (by omega) q), bl_n_or b1 (bk_at hn8 (by omega) q)]
                 exact i2)
              | (have q : ¬ inB n w e = true := fun z => by have := hin.mp z; omega
                 rw [ec, eb, if_neg q, if_neg q] at i2
                 have z1 := bi_n_or (a := clN n w e) (b := 0) (by omega) (by omega)
                 have z2 := bl_n_or (a := bkN n w e) (b := 0) b1 (by omega)
                 rw [← z1, ← z2] at i2
                 exact i2)
          · refine ax_iloadn rfl rfl ?_
            refine ax_i2l rfl (by omega) ?_
            refine ax_bipush rfl rfl ?_
            refine ax_iload rfl rfl ?_
            refine ax_imul rfl ?_
            refine ax_lshl rfl ?_
            refine ax_goto rfl ?_
            refine ax_lor rfl ?_
            refine ax_lstore (ls' := [(0, _), (1, _), (2, _), (3, _), (4, _), (6, _), (7, _)]) rfl rfl rfl ?_
            refine ax_iinc (ls' := [(0, _), (1, _), (2, _), (3, _), (4, _), (6, _), (7, _)]) rfl rfl rfl rfl ?_
            refine ax_goto rfl ?_
            refine ax_pick [0, 1, 2, 3, 4, 5] rfl ?_
            first
              | omega
              | (have q : inB n w e = true := hin.mpr (by omega)
                 rw [ec, eb, if_pos q, if_pos q] at i2
                 rw [bi_n_shl1 (by omega), bi_n_or (by omega) (by omega), show (8 : Int) * (e : Int) = ((8 * e : Nat) : Int) by omega, bl_n_shl (by omega) (bk_at hn8 (by omega) q), bl_n_or b1 (bk_at hn8 (by omega) q)]
                 exact i2)
              | (have q : ¬ inB n w e = true := fun z => by have := hin.mp z; omega
                 rw [ec, eb, if_neg q, if_neg q] at i2
                 have z1 := bi_n_or (a := clN n w e) (b := 0) (by omega) (by omega)
                 have z2 := bl_n_or (a := bkN n w e) (b := 0) b1 (by omega)
                 rw [← z1, ← z2] at i2
                 exact i2)
set_option maxRecDepth 100000 in
set_option maxHeartbeats 800000 in
theorem l_X8_layBlocks (E : av_E) (d : Nat) (M : av_M) (h : Int) (eh : M 35 7 = h) (n : Nat) (hn : h = (n : Int)) (hn8 : n ≤ 8) (hop : ∀ e : Nat, e < n → M 44 (e : Int) = ((opV n e : Nat) : Int)) : ∀ (t s : Nat) (M1 : av_M), s + t = 2 ^ n → 0 < s → BLm M1 (blL n s) → BLk M M1 → av_S E d mX8_layBlocks 7 [(0, vR 35), (1, vI (s : Int))] [] M1 (fun res M' => res = none ∧ BLm M' (blL n (2 ^ n)) ∧ BLk M M') := by
  have p2 : 2 ^ n ≤ 2 ^ 8 := Nat.pow_le_pow_right (by decide) hn8
  have p8 : (2 : Nat) ^ 8 = 256 := by rfl
  have hsh : bi_shl 1 (M 35 7) = ((2 ^ n : Nat) : Int) := by rw [eh, hn]; exact bi_n_shl1 (by omega)
  intro t
  induction t with
  | zero =>
    intro s M1 hs s0 hB hk
    have es : s = 2 ^ n := by omega
    have e7 : M1 35 7 = M 35 7 := hk.1 7 (by decide)
    have hs1 : bi_shl 1 (M1 35 7) = ((2 ^ n : Nat) : Int) := by rw [e7]; exact hsh
    subst es
    refine ax_iloadn rfl rfl ?_
    refine ax_iconst rfl ?_
    refine ax_aloadn rfl rfl ?_
    refine ax_getI (g := 7) rfl fX8_131 rfl rfl rfl rfl ?_
    refine ax_ishl rfl ?_
    refine ax_icmp_ge rfl (by omega) (by omega) (fun h14 => ?_) (fun h14 => ?_)
    · refine ax_vret rfl rfl ?_
      exact ⟨rfl, hB, hk⟩
    · omega
  | succ t ih =>
    intro s M1 hs s0 hB hk
    have e7 : M1 35 7 = M 35 7 := hk.1 7 (by decide)
    have hs1 : bi_shl 1 (M1 35 7) = ((2 ^ n : Nat) : Int) := by rw [e7]; exact hsh
    have hop1 : ∀ e : Nat, e < n → M1 44 (e : Int) = ((opV n e : Nat) : Int) := fun e he => by rw [hk.2 44 (by decide) (by decide)]; exact hop e he
    have w1 := wi_lt hn8 s n
    have c1 := cl_lt (n := n) (w := wiN n s n) n hn8
    have hlen := bl_len n (s - 1)
    rw [show s - 1 + 1 = s by omega] at hlen
    have eo : blL n (s + 1) = blL n s ++ (if tkB n s then [bkN n (wiN n s n) n] else []) := rfl
    have hno : ∀ M2 : av_M, ¬ tkB n s = true → BLm M2 (blL n s) → BLk M M2 → av_S E d mX8_layBlocks 7 [(0, vR 35), (1, vI ((s : Int) + 1))] [] M2 (fun res M' => res = none ∧ BLm M' (blL n (2 ^ n)) ∧ BLk M M') := fun M2 q b k => by
      have := ih (s + 1) M2 (by omega) (by omega) (by rw [eo, if_neg q, List.append_nil]; exact b) k
      rw [show ((s + 1 : Nat) : Int) = (s : Int) + 1 by omega] at this
      exact this
    have hyes : ∀ M2 : av_M, tkB n s = true → BLm M2 (blL n s ++ [bkN n (wiN n s n) n]) → BLk M M2 → av_S E d mX8_layBlocks 7 [(0, vR 35), (1, vI ((s : Int) + 1))] [] M2 (fun res M' => res = none ∧ BLm M' (blL n (2 ^ n)) ∧ BLk M M') := fun M2 q b k => by
      have := ih (s + 1) M2 (by omega) (by omega) (by rw [eo, if_pos q]; exact b) k
      rw [show ((s + 1 : Nat) : Int) = (s : Int) + 1 by omega] at this
      exact this
    have htk : tkB n s = true ↔ wiN n s n ≠ 0 ∧ clN n (wiN n s n) n = s := by
      unfold tkB
      rw [Bool.and_eq_true, Bool.and_eq_true, decide_eq_true_eq, decide_eq_true_eq, decide_eq_true_eq]
      exact ⟨fun q => ⟨q.1.2, q.2⟩, fun q => ⟨⟨by omega, q.1⟩, q.2⟩⟩
    have hB1 := hB.1
    have k145 : av_S E d mX8_layBlocks 145 [(0, vR 35), (1, vI (s : Int)), (2, vI ((wiN n s n : Nat) : Int)), (3, vI ((clN n (wiN n s n) n : Nat) : Int)), (4, vL ((bkN n (wiN n s n) n : Nat) : Int))] [] M1 (fun res M' => res = none ∧ BLm M' (blL n (2 ^ n)) ∧ BLk M M') := by
      refine ax_iloadn rfl rfl ?_
      refine ax_if_eq rfl (by omega) (fun h146 => ?_) (fun h146 => ?_)
      · refine ax_iinc (ls' := [(0, _), (1, _), (2, _), (3, _), (4, _)]) rfl rfl rfl rfl ?_
        refine ax_goto rfl ?_
        refine ax_pick [0, 1] rfl ?_
        first
          | exact hno M1 (fun q => by have := htk.mp q; omega) hB hk
          | (refine hyes M172 (htk.mpr ⟨by omega, by omega⟩) ⟨?_, fun i hi => ?_⟩ ⟨fun f hf => by rw [b172 f hf, c164 35 (by decide)]; exact hk.1 f hf, fun k q1 q2 => by rw [c172 k q1, c164 k q2]; exact hk.2 k q1 q2⟩
             · rw [a172, c164 35 (by decide), hB1, List.length_append]
               rfl
             · rw [c172 43 (by decide)]
               rw [List.length_append] at hi
               have hi2 : i < (blL n s).length + 1 := hi
               by_cases q : i = (blL n s).length
               · rw [hB1] at a164
                 rw [q, a164, List.getD_eq_getElem?_getD, List.getElem?_append_right (Nat.le_refl _), Nat.sub_self]
                 rfl
               · rw [hB1] at b164
                 rw [b164 (i : Int) (by omega), hB.2 i (by omega), List.getD_eq_getElem?_getD, List.getD_eq_getElem?_getD, List.getElem?_append_left (by omega)])
      · refine ax_iloadn rfl rfl ?_
        refine ax_iloadn rfl rfl ?_
        refine ax_icmp_ne rfl (by omega) (by omega) (fun h151 => ?_) (fun h151 => ?_)
        · refine ax_iinc (ls' := [(0, _), (1, _), (2, _), (3, _), (4, _)]) rfl rfl rfl rfl ?_
          refine ax_goto rfl ?_
          refine ax_pick [0, 1] rfl ?_
          first
            | exact hno M1 (fun q => by have := htk.mp q; omega) hB hk
            | (refine hyes M172 (htk.mpr ⟨by omega, by omega⟩) ⟨?_, fun i hi => ?_⟩ ⟨fun f hf => by rw [b172 f hf, c164 35 (by decide)]; exact hk.1 f hf, fun k q1 q2 => by rw [c172 k q1, c164 k q2]; exact hk.2 k q1 q2⟩
               · rw [a172, c164 35 (by decide), hB1, List.length_append]
                 rfl
               · rw [c172 43 (by decide)]
                 rw [List.length_append] at hi
                 have hi2 : i < (blL n s).length + 1 := hi
                 by_cases q : i = (blL n s).length
                 · rw [hB1] at a164
                   rw [q, a164, List.getD_eq_getElem?_getD, List.getElem?_append_right (Nat.le_refl _), Nat.sub_self]
                   rfl
                 · rw [hB1] at b164
                   rw [b164 (i : Int) (by omega), hB.2 i (by omega), List.getD_eq_getElem?_getD, List.getD_eq_getElem?_getD, List.getElem?_append_left (by omega)])
        · refine ax_aloadn rfl rfl ?_
          refine ax_getR rfl fX8_32 rfl rfl ?_
          refine ax_aloadn rfl rfl ?_
          refine ax_getI (g := 11) rfl fX8_155 rfl rfl rfl rfl ?_
          refine ax_lload rfl rfl ?_
          refine ax_last' rfl rfl (by omega) (fun M164 a164 b164 c164 => ?_)
          refine ax_aloadn rfl rfl ?_
          refine ax_dup rfl rfl ?_
          refine ax_getI (g := 11) rfl fX8_155 rfl rfl rfl rfl ?_
          refine ax_iconst rfl ?_
          refine ax_iadd rfl ?_
          refine ax_putI' (g := 11) rfl gX8_155 rfl rfl rfl rfl (fun M172 a172 b172 c172 => ?_)
          refine ax_iinc (ls' := [(0, _), (1, _), (2, _), (3, _), (4, _)]) rfl rfl rfl rfl ?_
          refine ax_goto rfl ?_
          refine ax_pick [0, 1] rfl ?_
          first
            | exact hno M1 (fun q => by have := htk.mp q; omega) hB hk
            | (refine hyes M172 (htk.mpr ⟨by omega, by omega⟩) ⟨?_, fun i hi => ?_⟩ ⟨fun f hf => by rw [b172 f hf, c164 35 (by decide)]; exact hk.1 f hf, fun k q1 q2 => by rw [c172 k q1, c164 k q2]; exact hk.2 k q1 q2⟩
               · rw [a172, c164 35 (by decide), hB1, List.length_append]
                 rfl
               · rw [c172 43 (by decide)]
                 rw [List.length_append] at hi
                 have hi2 : i < (blL n s).length + 1 := hi
                 by_cases q : i = (blL n s).length
                 · rw [hB1] at a164
                   rw [q, a164, List.getD_eq_getElem?_getD, List.getElem?_append_right (Nat.le_refl _), Nat.sub_self]
                   rfl
                 · rw [hB1] at b164
                   rw [b164 (i : Int) (by omega), hB.2 i (by omega), List.getD_eq_getElem?_getD, List.getD_eq_getElem?_getD, List.getElem?_append_left (by omega)])
    have k64 : av_S E d mX8_layBlocks 64 [(0, vR 35), (1, vI (s : Int)), (2, vI ((wiN n s n : Nat) : Int))] [] M1 (fun res M' => res = none ∧ BLm M' (blL n (2 ^ n)) ∧ BLk M M') := by
      refine ax_iconst rfl ?_
      refine ax_istoren (ls' := [(0, _), (1, _), (2, _), (3, _)]) rfl rfl rfl ?_
      refine ax_lconst (w := 0) rfl rfl ?_
      refine ax_lstore (ls' := [(0, _), (1, _), (2, _), (3, _), (4, _)]) rfl rfl rfl ?_
      refine ax_iconst rfl ?_
      refine ax_istore (ls' := [(0, _), (1, _), (2, _), (3, _), (4, _), (6, _)]) rfl rfl rfl ?_
      exact lc_X8_layBlocks E d M1 h (by rw [e7]; exact eh) n hn hn8 hop1 s (wiN n s n) w1 _ k145 n 0 (by omega)
    have k28 := lw_X8_layBlocks E d M1 h (by rw [e7]; exact eh) n hn hn8 hop1 s (by omega) _ k64 n 0 (by omega)
    have ew : ((wiN n s 0 : Nat) : Int) = bi_shl 1 (M1 35 7) - 1 := by
      have p0 : 0 < 2 ^ n := Nat.pow_pos (by decide)
      show ((2 ^ n - 1 : Nat) : Int) = _
      omega
    rw [ew] at k28
    refine ax_iloadn rfl rfl ?_
    refine ax_iconst rfl ?_
    refine ax_aloadn rfl rfl ?_
    refine ax_getI (g := 7) rfl fX8_131 rfl rfl rfl rfl ?_
    refine ax_ishl rfl ?_
    refine ax_icmp_ge rfl (by omega) (by omega) (fun h14 => ?_) (fun h14 => ?_)
    · omega
    · refine ax_iconst rfl ?_
      refine ax_aloadn rfl rfl ?_
      refine ax_getI (g := 7) rfl fX8_131 rfl rfl rfl rfl ?_
      refine ax_ishl rfl ?_
      refine ax_iconst rfl ?_
      refine ax_isub rfl ?_
      refine ax_istoren (ls' := [(0, _), (1, _), (2, _)]) rfl rfl rfl ?_
      refine ax_iconst rfl ?_
      refine ax_istoren (ls' := [(0, _), (1, _), (2, _), (3, _)]) rfl rfl rfl ?_
      exact k28
set_option maxRecDepth 100000 in
set_option maxHeartbeats 800000 in
theorem c_X8_layBlocks (E : av_E) (d : Nat) (M : av_M) (h : Int) (eh : M 35 7 = h) (n : Nat) (hn : h = (n : Int)) (hn8 : n ≤ 8) (hop : ∀ e : Nat, e < n → M 44 (e : Int) = ((opV n e : Nat) : Int)) : av_Mt E d mX8_layBlocks [vR 35] M (fun res M' => res = none ∧ BLm M' (blL n (2 ^ n)) ∧ BLk M M') := by
  have p0 : 1 ≤ 2 ^ n := Nat.one_le_two_pow
  have e1 : blL n 1 = [] := by
    have : tkB n 0 = false := by unfold tkB; simp
    show blL n 0 ++ (if tkB n 0 then [bkN n (wiN n 0 n) n] else []) = []
    rw [this]
    rfl
  refine av_enter hX8_layBlocks oX8_layBlocks rfl rfl ?_
  refine ax_aloadn rfl rfl ?_
  refine ax_iconst rfl ?_
  refine ax_putI' (g := 11) rfl gX8_155 rfl rfl rfl rfl (fun M2 a2 b2 c2 => ?_)
  refine ax_iconst rfl ?_
  refine ax_istoren (ls' := [(0, _), (1, _)]) rfl rfl rfl ?_
  exact l_X8_layBlocks E d M h eh n hn hn8 hop (2 ^ n - 1) 1 M2 (by omega) (by omega) (by rw [e1]; exact ⟨a2, fun i hi => absurd hi (Nat.not_lt_zero _)⟩) ⟨b2, fun k q1 _ => c2 k q1⟩
