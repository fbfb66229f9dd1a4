/-! ===== the reference: a vertex put in its place ===== -/
def B3 (x y z w : Int) : Prop := (-50000 ≤ x ∧ x ≤ 50000) ∧ (-50000 ≤ y ∧ y ≤ 50000) ∧ (-50000 ≤ z ∧ z ≤ 50000) ∧ 0 < w ∧ w ≤ 5000
def rv (M : av_M) : Int → p3 := fun j => P3 (M 54 j) (M 55 j) (M 56 j) (M 57 j)
def RE (f : Int → p3) (n : Int) (S : p3 → Prop) : Prop := 0 ≤ n ∧ Enum lx3 S n.toNat (fun i : Nat => f i)
def RG (M : av_M) (n : Int) : Prop := ∀ j, 0 ≤ j → j < n → B3 (M 54 j) (M 55 j) (M 56 j) (M 57 j)
theorem RE_ins {f f' : Int → p3} {n : Int} {S : p3 → Prop} (h : RE f n S) {p : p3} {s : Int} (s0 : 0 ≤ s) (s1 : s ≤ n)
    (a1 : ∀ j, 0 ≤ j → j < s → lx3 (f j) p) (a2 : ∀ j, s ≤ j → j < n → lx3 p (f j))
    (b1 : ∀ j, 0 ≤ j → j < s → f' j = f j) (b2 : f' s = p) (b3 : ∀ j, s ≤ j → j < n → f' (j + 1) = f j) : RE f' (n + 1) (fun q => S q ∨ q = p) := by
  obtain ⟨h1, h3⟩ := h
  refine ⟨by omega, ?_⟩
  rw [show (n + 1).toNat = n.toNat + 1 by omega]
  refine Enum_ins (s := s.toNat) h3 (by omega) (fun i hi => ?_) (fun i hi hi2 => ?_) (fun i hi => ?_) ?_ (fun i hi hi2 => ?_)
  · exact a1 i (by omega) (by omega)
  · exact a2 i (by omega) (by omega)
  · show f' (i : Int) = f (i : Int)
    exact b1 i (by omega) (by omega)
  · show f' ((s.toNat : Nat) : Int) = p
    rw [show ((s.toNat : Nat) : Int) = s by omega]; exact b2
  · show f' ((i + 1 : Nat) : Int) = f (i : Int)
    rw [show (((i + 1 : Nat)) : Int) = (i : Int) + 1 by omega]; exact b3 i (by omega) (by omega)
theorem RE_had {f : Int → p3} {n : Int} {S : p3 → Prop} (h : RE f n S) {p : p3} (hp : S p) : RE f n (fun q => S q ∨ q = p) := by
  have : (fun q => S q ∨ q = p) = S := by
    funext q
    apply propext
    exact ⟨fun hq => by rcases hq with hq | rfl; exact hq; exact hp, Or.inl⟩
  rw [this]; exact h
theorem RE_in {f : Int → p3} {n : Int} {S : p3 → Prop} (h : RE f n S) {j : Int} (h0 : 0 ≤ j) (h1 : j < n) : S (f j) := by
  refine (h.2.2 _).mpr ⟨j.toNat, by omega, ?_⟩
  show f j = f ((j.toNat : Nat) : Int)
  rw [show ((j.toNat : Nat) : Int) = j by omega]
theorem RE_lt {f : Int → p3} {n : Int} {S : p3 → Prop} (h : RE f n S) {i j : Int} (h0 : 0 ≤ i) (h1 : i < j) (h2 : j < n) : lx3 (f i) (f j) := by
  have : lx3 (f ((i.toNat : Nat) : Int)) (f ((j.toNat : Nat) : Int)) := h.2.1 i.toNat j.toNat (by omega) (by omega)
  rw [show ((i.toNat : Nat) : Int) = i by omega, show ((j.toNat : Nat) : Int) = j by omega] at this
  exact this
theorem RE_nil (f : Int → p3) : RE f 0 (fun _ => False) :=
  ⟨Int.le_refl _, fun i j _ hj => by simp at hj, fun p => ⟨fun h => h.elim, fun ⟨i, hi, _⟩ => by simp at hi⟩⟩
set_option maxRecDepth 100000 in
set_option maxHeartbeats 800000 in
theorem c_X8_order (E : av_E) (d : Nat) (M : av_M) (k x y z w : Int) (hk : 0 ≤ k ∧ k < 121) (bk : B3 (M 54 k) (M 55 k) (M 56 k) (M 57 k)) (bp : B3 x y z w) : av_Mt E (d + 1) mX8_order [vR 35, vI k, vL x, vL y, vL z, vL w] M (av_X (some (vI (od (M 54 k) (M 55 k) (M 56 k) (M 57 k) x y z w))) M) := by
  obtain ⟨a1, a2, a3, a4, a5⟩ := bk
  obtain ⟨b1, b2, b3, b4, b5⟩ := bp
  have wa : -5000 ≤ M 57 k ∧ M 57 k ≤ 5000 := by omega
  have wb : -5000 ≤ w ∧ w ≤ 5000 := by omega
  have q0 := mb a1 wb
  have q1 := mb b1 wa
  have q2 := mb a2 wb
  have q3 := mb b2 wa
  have q4 := mb a3 wb
  have q5 := mb b3 wa
  refine av_enter hX8_order oX8_order rfl rfl ?_
  refine ax_aloadn rfl rfl ?_
  refine ax_aloadn rfl rfl ?_
  refine ax_getR rfl fX8_73 rfl rfl ?_
  refine ax_iloadn rfl rfl ?_
  refine ax_lald rfl rfl (by omega) ?_
  refine ax_aloadn rfl rfl ?_
  refine ax_getR rfl fX8_82 rfl rfl ?_
  refine ax_iloadn rfl rfl ?_
  refine ax_lald rfl rfl (by omega) ?_
  refine ax_lloadn rfl rfl ?_
  refine ax_lload rfl rfl ?_
  refine ax_callV (as := [_, _, _, _]) rfl vX8_106 hX8_compare rfl rfl rfl rfl rfl (c_X8_compare E d M _ _ _ _) (av_Xk ?_)
  refine ax_lstore (ls' := [(0, _), (1, _), (2, _), (4, _), (6, _), (8, _), (10, _)]) rfl rfl rfl ?_
  refine ax_lload rfl rfl ?_
  refine ax_lconst (w := 0) rfl rfl ?_
  refine ax_lif_eq rfl rfl (by omega) (by omega) (fun h24 => ?_) (fun h24 => ?_)
  · refine ax_aloadn rfl rfl ?_
    refine ax_aloadn rfl rfl ?_
    refine ax_getR rfl fX8_76 rfl rfl ?_
    refine ax_iloadn rfl rfl ?_
    refine ax_lald rfl rfl (by omega) ?_
    refine ax_aloadn rfl rfl ?_
    refine ax_getR rfl fX8_82 rfl rfl ?_
    refine ax_iloadn rfl rfl ?_
    refine ax_lald rfl rfl (by omega) ?_
    refine ax_lload rfl rfl ?_
    refine ax_lload rfl rfl ?_
    refine ax_callV (as := [_, _, _, _]) rfl vX8_106 hX8_compare rfl rfl rfl rfl rfl (c_X8_compare E d M _ _ _ _) (av_Xk ?_)
    refine ax_lstore (ls' := [(0, _), (1, _), (2, _), (4, _), (6, _), (8, _), (10, _)]) rfl rfl rfl ?_
    refine ax_lload rfl rfl ?_
    refine ax_lconst (w := 0) rfl rfl ?_
    refine ax_lif_eq rfl rfl (by omega) (by omega) (fun h58 => ?_) (fun h58 => ?_)
    · refine ax_aloadn rfl rfl ?_
      refine ax_aloadn rfl rfl ?_
      refine ax_getR rfl fX8_79 rfl rfl ?_
      refine ax_iloadn rfl rfl ?_
      refine ax_lald rfl rfl (by omega) ?_
      refine ax_aloadn rfl rfl ?_
      refine ax_getR rfl fX8_82 rfl rfl ?_
      refine ax_iloadn rfl rfl ?_
      refine ax_lald rfl rfl (by omega) ?_
      refine ax_lload rfl rfl ?_
      refine ax_lload rfl rfl ?_
      refine ax_callV (as := [_, _, _, _]) rfl vX8_106 hX8_compare rfl rfl rfl rfl rfl (c_X8_compare E d M _ _ _ _) (av_Xk ?_)
      refine ax_lstore (ls' := [(0, _), (1, _), (2, _), (4, _), (6, _), (8, _), (10, _)]) rfl rfl rfl ?_
      refine ax_lload rfl rfl ?_
      refine ax_lconst (w := 0) rfl rfl ?_
      refine ax_lif_ge rfl rfl (by omega) (by omega) (fun h92 => ?_) (fun h92 => ?_)
      · refine ax_lload rfl rfl ?_
        refine ax_lconst (w := 0) rfl rfl ?_
        refine ax_lif_le rfl rfl (by omega) (by omega) (fun h103 => ?_) (fun h103 => ?_)
        · refine ax_iconst rfl ?_
          refine ax_iret rfl rfl ?_
          exact av_rI (by unfold od sg; (repeat' split) <;> omega)
        · refine ax_iconst rfl ?_
          refine ax_goto rfl ?_
          refine ax_iret rfl rfl ?_
          exact av_rI (by unfold od sg; (repeat' split) <;> omega)
      · refine ax_iconst rfl ?_
        refine ax_goto rfl ?_
        refine ax_iret rfl rfl ?_
        exact av_rI (by unfold od sg; (repeat' split) <;> omega)
    · refine ax_lload rfl rfl ?_
      refine ax_goto rfl ?_
      refine ax_lstore (ls' := [(0, _), (1, _), (2, _), (4, _), (6, _), (8, _), (10, _)]) rfl rfl rfl ?_
      refine ax_lload rfl rfl ?_
      refine ax_lconst (w := 0) rfl rfl ?_
      refine ax_lif_ge rfl rfl (by omega) (by omega) (fun h92 => ?_) (fun h92 => ?_)
      · refine ax_lload rfl rfl ?_
        refine ax_lconst (w := 0) rfl rfl ?_
        refine ax_lif_le rfl rfl (by omega) (by omega) (fun h103 => ?_) (fun h103 => ?_)
        · refine ax_iconst rfl ?_
          refine ax_iret rfl rfl ?_
          exact av_rI (by unfold od sg; (repeat' split) <;> omega)
        · refine ax_iconst rfl ?_
          refine ax_goto rfl ?_
          refine ax_iret rfl rfl ?_
          exact av_rI (by unfold od sg; (repeat' split) <;> omega)
      · refine ax_iconst rfl ?_
        refine ax_goto rfl ?_
        refine ax_iret rfl rfl ?_
        exact av_rI (by unfold od sg; (repeat' split) <;> omega)
  · refine ax_lload rfl rfl ?_
    refine ax_goto rfl ?_
    refine ax_lstore (ls' := [(0, _), (1, _), (2, _), (4, _), (6, _), (8, _), (10, _)]) rfl rfl rfl ?_
    refine ax_lload rfl rfl ?_
    refine ax_lconst (w := 0) rfl rfl ?_
    refine ax_lif_eq rfl rfl (by omega) (by omega) (fun h58 => ?_) (fun h58 => ?_)
    · refine ax_aloadn rfl rfl ?_
      refine ax_aloadn rfl rfl ?_
      refine ax_getR rfl fX8_79 rfl rfl ?_
      refine ax_iloadn rfl rfl ?_
      refine ax_lald rfl rfl (by omega) ?_
      refine ax_aloadn rfl rfl ?_
      refine ax_getR rfl fX8_82 rfl rfl ?_
      refine ax_iloadn rfl rfl ?_
      refine ax_lald rfl rfl (by omega) ?_
      refine ax_lload rfl rfl ?_
      refine ax_lload rfl rfl ?_
      refine ax_callV (as := [_, _, _, _]) rfl vX8_106 hX8_compare rfl rfl rfl rfl rfl (c_X8_compare E d M _ _ _ _) (av_Xk ?_)
      refine ax_lstore (ls' := [(0, _), (1, _), (2, _), (4, _), (6, _), (8, _), (10, _)]) rfl rfl rfl ?_
      refine ax_lload rfl rfl ?_
      refine ax_lconst (w := 0) rfl rfl ?_
      refine ax_lif_ge rfl rfl (by omega) (by omega) (fun h92 => ?_) (fun h92 => ?_)
      · refine ax_lload rfl rfl ?_
        refine ax_lconst (w := 0) rfl rfl ?_
        refine ax_lif_le rfl rfl (by omega) (by omega) (fun h103 => ?_) (fun h103 => ?_)
        · refine ax_iconst rfl ?_
          refine ax_iret rfl rfl ?_
          exact av_rI (by unfold od sg; (repeat' split) <;> omega)
        · refine ax_iconst rfl ?_
          refine ax_goto rfl ?_
          refine ax_iret rfl rfl ?_
          exact av_rI (by unfold od sg; (repeat' split) <;> omega)
      · refine ax_iconst rfl ?_
        refine ax_goto rfl ?_
        refine ax_iret rfl rfl ?_
        exact av_rI (by unfold od sg; (repeat' split) <;> omega)
    · refine ax_lload rfl rfl ?_
      refine ax_goto rfl ?_
      refine ax_lstore (ls' := [(0, _), (1, _), (2, _), (4, _), (6, _), (8, _), (10, _)]) rfl rfl rfl ?_
      refine ax_lload rfl rfl ?_
      refine ax_lconst (w := 0) rfl rfl ?_
      refine ax_lif_ge rfl rfl (by omega) (by omega) (fun h92 => ?_) (fun h92 => ?_)
      · refine ax_lload rfl rfl ?_
        refine ax_lconst (w := 0) rfl rfl ?_
        refine ax_lif_le rfl rfl (by omega) (by omega) (fun h103 => ?_) (fun h103 => ?_)
        · refine ax_iconst rfl ?_
          refine ax_iret rfl rfl ?_
          exact av_rI (by unfold od sg; (repeat' split) <;> omega)
        · refine ax_iconst rfl ?_
          refine ax_goto rfl ?_
          refine ax_iret rfl rfl ?_
          exact av_rI (by unfold od sg; (repeat' split) <;> omega)
      · refine ax_iconst rfl ?_
        refine ax_goto rfl ?_
        refine ax_iret rfl rfl ?_
        exact av_rI (by unfold od sg; (repeat' split) <;> omega)
set_option maxRecDepth 100000 in
set_option maxHeartbeats 800000 in
theorem l_X8_put_shift (E : av_E) (d : Nat) (M : av_M) (x y z w s n : Int) (hs : 0 ≤ s ∧ s ≤ n) (hn : n < 121) (Q : Option av_V → av_M → Prop)
    (hx : ∀ M1 : av_M, (∀ j, j ≤ s ∨ n < j → M1 54 j = M 54 j ∧ M1 55 j = M 55 j ∧ M1 56 j = M 56 j ∧ M1 57 j = M 57 j) → (∀ j, s < j → j ≤ n → M1 54 j = M 54 (j - 1) ∧ M1 55 j = M 55 (j - 1) ∧ M1 56 j = M 56 (j - 1) ∧ M1 57 j = M 57 (j - 1)) → (∀ k, k ≠ 54 → k ≠ 55 → k ≠ 56 → k ≠ 57 → M1 k = M k) → av_S E d mX8_put 140 [(0, vR 35), (1, vL x), (3, vL y), (5, vL z), (7, vL w), (9, vI s), (10, vI s)] [] M1 Q) :
    ∀ (t : Nat) (M1 : av_M) (i : Int), i = s + t → i ≤ n → (∀ j, j ≤ i ∨ n < j → M1 54 j = M 54 j ∧ M1 55 j = M 55 j ∧ M1 56 j = M 56 j ∧ M1 57 j = M 57 j) → (∀ j, i < j → j ≤ n → M1 54 j = M 54 (j - 1) ∧ M1 55 j = M 55 (j - 1) ∧ M1 56 j = M 56 (j - 1) ∧ M1 57 j = M 57 (j - 1)) → (∀ k, k ≠ 54 → k ≠ 55 → k ≠ 56 → k ≠ 57 → M1 k = M k) →
      av_S E d mX8_put 63 [(0, vR 35), (1, vL x), (3, vL y), (5, vL z), (7, vL w), (9, vI s), (10, vI i)] [] M1 Q := by
  intro t
  induction t with
  | zero =>
    intro M1 i hi hin h1 h2 h3
    have e : i = s := by omega
    subst e
    refine ax_iload rfl rfl ?_
    refine ax_iload rfl rfl ?_
    refine ax_icmp_le rfl (by omega) (by omega) (fun h67 => ?_) (fun h67 => ?_)
    · exact hx M1 h1 h2 h3
    · omega
  | succ t ih =>
    intro M1 i hi hin h1 h2 h3
    refine ax_iload rfl rfl ?_
    refine ax_iload rfl rfl ?_
    refine ax_icmp_le rfl (by omega) (by omega) (fun h67 => ?_) (fun h67 => ?_)
    · omega
    · refine ax_aloadn rfl rfl ?_
      refine ax_getR rfl fX8_73 rfl rfl ?_
      refine ax_iload rfl rfl ?_
      refine ax_aloadn rfl rfl ?_
      refine ax_getR rfl fX8_73 rfl rfl ?_
      refine ax_iload rfl rfl ?_
      refine ax_iconst rfl ?_
      refine ax_isub rfl ?_
      refine ax_lald rfl rfl (by omega) ?_
      refine ax_last' rfl rfl (by omega) (fun M85 a85 b85 c85 => ?_)
      refine ax_aloadn rfl rfl ?_
      refine ax_getR rfl fX8_76 rfl rfl ?_
      refine ax_iload rfl rfl ?_
      refine ax_aloadn rfl rfl ?_
      refine ax_getR rfl fX8_76 rfl rfl ?_
      refine ax_iload rfl rfl ?_
      refine ax_iconst rfl ?_
      refine ax_isub rfl ?_
      refine ax_lald rfl rfl (by omega) ?_
      refine ax_last' rfl rfl (by omega) (fun M101 a101 b101 c101 => ?_)
      refine ax_aloadn rfl rfl ?_
      refine ax_getR rfl fX8_79 rfl rfl ?_
      refine ax_iload rfl rfl ?_
      refine ax_aloadn rfl rfl ?_
      refine ax_getR rfl fX8_79 rfl rfl ?_
      refine ax_iload rfl rfl ?_
      refine ax_iconst rfl ?_
      refine ax_isub rfl ?_
      refine ax_lald rfl rfl (by omega) ?_
      refine ax_last' rfl rfl (by omega) (fun M117 a117 b117 c117 => ?_)
      refine ax_aloadn rfl rfl ?_
      refine ax_getR rfl fX8_82 rfl rfl ?_
      refine ax_iload rfl rfl ?_
      refine ax_aloadn rfl rfl ?_
      refine ax_getR rfl fX8_82 rfl rfl ?_
      refine ax_iload rfl rfl ?_
      refine ax_iconst rfl ?_
      refine ax_isub rfl ?_
      refine ax_lald rfl rfl (by omega) ?_
      refine ax_last' rfl rfl (by omega) (fun M133 a133 b133 c133 => ?_)
      refine ax_iinc (ls' := [(0, _), (1, _), (3, _), (5, _), (7, _), (9, _), (10, _)]) rfl rfl rfl rfl ?_
      refine ax_goto rfl ?_
      have z54 : M133 54 = M85 54 := by rw [c133 54 (by decide), c117 54 (by decide), c101 54 (by decide)]
      have z55 : M133 55 = M101 55 := by rw [c133 55 (by decide), c117 55 (by decide)]
      have z56 : M133 56 = M117 56 := c133 56 (by decide)
      have y55 : M85 55 = M1 55 := c85 55 (by decide)
      have y56 : M101 56 = M1 56 := by rw [c101 56 (by decide), c85 56 (by decide)]
      have y57 : M117 57 = M1 57 := by rw [c117 57 (by decide), c101 57 (by decide), c85 57 (by decide)]
      rw [y55] at a101
      rw [y56] at a117
      rw [y57] at a133
      refine ih _ _ (by omega) (by omega) (fun j hj => ?_) (fun j hj hj2 => ?_) (fun k k1 k2 k3 k4 => ?_)
      · have := h1 j (by omega)
        rw [z54, z55, z56, b85 j (by omega), b101 j (by omega), b117 j (by omega), b133 j (by omega), y55, y56, y57]
        exact this
      · by_cases hji : j = i
        · subst hji
          have e1 := h1 (j - 1) (by omega)
          rw [z54, z55, z56, a85, a101, a117, a133]
          exact e1
        · have := h2 j (by omega) hj2
          rw [z54, z55, z56, b85 j hji, b101 j hji, b117 j hji, b133 j hji, y55, y56, y57]
          exact this
      · rw [c133 k k4, c117 k k3, c101 k k2, c85 k k1]; exact h3 k k1 k2 k3 k4
set_option maxRecDepth 100000 in
set_option maxHeartbeats 800000 in
theorem l_X8_put_57 (E : av_E) (d : Nat) (M : av_M) (S : p3 → Prop) (x y z w : Int) (hp : B3 x y z w) (hG : RG M (M 35 26)) (hE : RE (rv M) (M 35 26) S) (hn : M 35 26 < 121) (s : Int) (hs : 0 ≤ s ∧ s ≤ M 35 26)
    (a1 : ∀ j, 0 ≤ j → j < s → lx3 (rv M j) (P3 x y z w)) (a2 : ∀ j, s ≤ j → j < M 35 26 → lx3 (P3 x y z w) (rv M j)) :
    av_S E d mX8_put 57 [(0, vR 35), (1, vL x), (3, vL y), (5, vL z), (7, vL w), (9, vI s)] [] M (fun res M' => res = none ∧ M 35 26 ≤ M' 35 26 ∧ M' 35 26 ≤ M 35 26 + 1 ∧ RG M' (M' 35 26) ∧ RE (rv M') (M' 35 26) (fun q => S q ∨ q = P3 x y z w) ∧ (∀ f, f ≠ 26 → M' 35 f = M 35 f) ∧ ∀ k, k ≠ 35 → k ≠ 54 → k ≠ 55 → k ≠ 56 → k ≠ 57 → M' k = M k) := by
  refine ax_aloadn rfl rfl ?_
  refine ax_getI (g := 26) rfl fX8_228 rfl rfl rfl rfl ?_
  refine ax_istore (ls' := [(0, _), (1, _), (3, _), (5, _), (7, _), (9, _), (10, _)]) rfl rfl rfl ?_
  refine l_X8_put_shift E d M x y z w s (M 35 26) hs hn _ (fun M1 h1 h2 h3 => ?_) (M 35 26 - s).toNat M _ (by omega) (by omega) (fun j _ => ⟨rfl, rfl, rfl, rfl⟩) (fun j hj hj2 => by omega) (fun k _ _ _ _ => rfl)
  refine ax_aloadn rfl rfl ?_
  refine ax_getR rfl fX8_73 rfl rfl ?_
  refine ax_iload rfl rfl ?_
  refine ax_lloadn rfl rfl ?_
  refine ax_last' rfl rfl (by omega) (fun M147 a147 b147 c147 => ?_)
  refine ax_aloadn rfl rfl ?_
  refine ax_getR rfl fX8_76 rfl rfl ?_
  refine ax_iload rfl rfl ?_
  refine ax_lloadn rfl rfl ?_
  refine ax_last' rfl rfl (by omega) (fun M155 a155 b155 c155 => ?_)
  refine ax_aloadn rfl rfl ?_
  refine ax_getR rfl fX8_79 rfl rfl ?_
  refine ax_iload rfl rfl ?_
  refine ax_lload rfl rfl ?_
  refine ax_last' rfl rfl (by omega) (fun M164 a164 b164 c164 => ?_)
  refine ax_aloadn rfl rfl ?_
  refine ax_getR rfl fX8_82 rfl rfl ?_
  refine ax_iload rfl rfl ?_
  refine ax_lload rfl rfl ?_
  refine ax_last' rfl rfl (by omega) (fun M173 a173 b173 c173 => ?_)
  refine ax_aloadn rfl rfl ?_
  refine ax_dup rfl rfl ?_
  refine ax_getI (g := 26) rfl fX8_228 rfl rfl rfl rfl ?_
  refine ax_iconst rfl ?_
  refine ax_iadd rfl ?_
  refine ax_putI' (g := 26) rfl gX8_228 rfl rfl rfl rfl (fun M181 a181 b181 c181 => ?_)
  refine ax_vret rfl rfl ?_
  have eX : ∀ j, M181 54 j = if j = s then x else M1 54 j := fun j => by
    rw [c181 54 (by decide), c173 54 (by decide), c164 54 (by decide), c155 54 (by decide)]
    split
    · rename_i e; rw [e]; exact a147
    · rename_i e; exact b147 j e
  have eY : ∀ j, M181 55 j = if j = s then y else M1 55 j := fun j => by
    rw [c181 55 (by decide), c173 55 (by decide), c164 55 (by decide)]
    split
    · rename_i e; rw [e]; exact a155
    · rename_i e; rw [b155 j e, c147 55 (by decide)]
  have eZ : ∀ j, M181 56 j = if j = s then z else M1 56 j := fun j => by
    rw [c181 56 (by decide), c173 56 (by decide)]
    split
    · rename_i e; rw [e]; exact a164
    · rename_i e; rw [b164 j e, c155 56 (by decide), c147 56 (by decide)]
  have eW : ∀ j, M181 57 j = if j = s then w else M1 57 j := fun j => by
    rw [c181 57 (by decide)]
    split
    · rename_i e; rw [e]; exact a173
    · rename_i e; rw [b173 j e, c164 57 (by decide), c155 57 (by decide), c147 57 (by decide)]
  have e35 : M173 35 = M 35 := by rw [c173 35 (by decide), c164 35 (by decide), c155 35 (by decide), c147 35 (by decide), h3 35 (by decide) (by decide) (by decide) (by decide)]
  rw [e35] at a181 b181
  have ev : ∀ j, rv M181 j = if j = s then P3 x y z w else rv M1 j := fun j => by
    unfold rv
    rw [eX, eY, eZ, eW]
    split <;> rfl
  have er : ∀ j, j ≤ s → rv M1 j = rv M j := fun j hj => by
    unfold rv
    have := h1 j (by omega)
    rw [this.1, this.2.1, this.2.2.1, this.2.2.2]
  have er2 : ∀ j, s ≤ j → j < M 35 26 → rv M1 (j + 1) = rv M j := fun j hj hj2 => by
    unfold rv
    have := h2 (j + 1) (by omega) (by omega)
    rw [show j + 1 - 1 = j by omega] at this
    rw [this.1, this.2.1, this.2.2.1, this.2.2.2]
  refine ⟨rfl, by omega, by omega, fun j j0 j1 => ?_, ?_, b181, fun k k0 k1 k2 k3 k4 => by rw [c181 k k0, c173 k k4, c164 k k3, c155 k k2, c147 k k1]; exact h3 k k1 k2 k3 k4⟩
  · rw [eX, eY, eZ, eW]
    rcases Int.lt_trichotomy j s with q | q | q
    · rw [if_neg (by omega), if_neg (by omega), if_neg (by omega), if_neg (by omega)]
      have := h1 j (by omega)
      rw [this.1, this.2.1, this.2.2.1, this.2.2.2]
      exact hG j j0 (by omega)
    · rw [if_pos q, if_pos q, if_pos q, if_pos q]; exact hp
    · rw [if_neg (by omega), if_neg (by omega), if_neg (by omega), if_neg (by omega)]
      have := h2 j (by omega) (by omega)
      rw [this.1, this.2.1, this.2.2.1, this.2.2.2]
      exact hG (j - 1) (by omega) (by omega)
  · rw [a181]
    refine RE_ins hE hs.1 hs.2 a1 a2 (fun j j0 j1 => ?_) ?_ (fun j j0 j1 => ?_)
    · rw [ev j, if_neg (by omega)]; exact er j (by omega)
    · rw [ev s, if_pos rfl]
    · rw [ev (j + 1), if_neg (by omega)]; exact er2 j j0 j1
set_option maxRecDepth 100000 in
set_option maxHeartbeats 800000 in
theorem l_X8_put (E : av_E) (d : Nat) (M : av_M) (S : p3 → Prop) (x y z w : Int) (hp : B3 x y z w) (hG : RG M (M 35 26)) (hE : RE (rv M) (M 35 26) S) (hn : M 35 26 < 121) :
    ∀ (t : Nat) (s : Int), s = t → s ≤ M 35 26 → (∀ j, s ≤ j → j < M 35 26 → lx3 (P3 x y z w) (rv M j)) → av_S E (d + 2) mX8_put 6 [(0, vR 35), (1, vL x), (3, vL y), (5, vL z), (7, vL w), (9, vI s)] [] M (fun res M' => res = none ∧ M 35 26 ≤ M' 35 26 ∧ M' 35 26 ≤ M 35 26 + 1 ∧ RG M' (M' 35 26) ∧ RE (rv M') (M' 35 26) (fun q => S q ∨ q = P3 x y z w) ∧ (∀ f, f ≠ 26 → M' 35 f = M 35 f) ∧ ∀ k, k ≠ 35 → k ≠ 54 → k ≠ 55 → k ≠ 56 → k ≠ 57 → M' k = M k) := by
  have hwm : 0 < w := hp.2.2.2.1
  have hw : ∀ j, 0 ≤ j → j < M 35 26 → 0 < M 57 j := fun j h0 h1 => (hG j h0 h1).2.2.2.1
  have hrg : ∀ s : Int, -1 ≤ od (M 54 (s - 1)) (M 55 (s - 1)) (M 56 (s - 1)) (M 57 (s - 1)) x y z w ∧ od (M 54 (s - 1)) (M 55 (s - 1)) (M 56 (s - 1)) (M 57 (s - 1)) x y z w ≤ 1 := fun s => od_rng _ _ _ _ _ _ _ _
  have h34 : ∀ s : Int, 0 ≤ s → s ≤ M 35 26 → (∀ j, s ≤ j → j < M 35 26 → lx3 (P3 x y z w) (rv M j)) → (0 < s → ¬ lx3 (P3 x y z w) (rv M (s - 1))) → av_S E (d + 2) mX8_put 34 [(0, vR 35), (1, vL x), (3, vL y), (5, vL z), (7, vL w), (9, vI s)] [] M (fun res M' => res = none ∧ M 35 26 ≤ M' 35 26 ∧ M' 35 26 ≤ M 35 26 + 1 ∧ RG M' (M' 35 26) ∧ RE (rv M') (M' 35 26) (fun q => S q ∨ q = P3 x y z w) ∧ (∀ f, f ≠ 26 → M' 35 f = M 35 f) ∧ ∀ k, k ≠ 35 → k ≠ 54 → k ≠ 55 → k ≠ 56 → k ≠ 57 → M' k = M k) := by
    intro s s0 s1 a2 hno
    have hr := hrg s
    have low : (0 < s → lx3 (rv M (s - 1)) (P3 x y z w)) → ∀ j, 0 ≤ j → j < s → lx3 (rv M j) (P3 x y z w) := by
      intro hl j j0 j1
      by_cases hj : j = s - 1
      · rw [hj]; exact hl (by omega)
      · exact lx3_tr _ _ _ (RE_lt hE j0 (show j < s - 1 by omega) (by omega)) (hl (by omega))
    refine ax_iload rfl rfl ?_
    refine ax_if_le rfl (by omega) (fun h36 => ?_) (fun h36 => ?_)
    · exact l_X8_put_57 E _ M S x y z w hp hG hE hn s ⟨s0, s1⟩ (low (fun h0 => by
        have hz : ¬ od (M 54 (s - 1)) (M 55 (s - 1)) (M 56 (s - 1)) (M 57 (s - 1)) x y z w = 0 := by first | assumption | omega
        have hq := hno h0
        unfold rv at hq ⊢
        rw [← od_pos (hw _ (by omega) (by omega)) hwm] at hq
        rw [← od_neg (hw _ (by omega) (by omega)) hwm]
        omega)) a2
    · refine ax_aloadn rfl rfl ?_
      refine ax_iload rfl rfl ?_
      refine ax_iconst rfl ?_
      refine ax_isub rfl ?_
      refine ax_lloadn rfl rfl ?_
      refine ax_lloadn rfl rfl ?_
      refine ax_lload rfl rfl ?_
      refine ax_lload rfl rfl ?_
      refine ax_callV (as := [_, _, _, _, _]) rfl vX8_231 hX8_order rfl rfl rfl rfl rfl (c_X8_order E (d + 0) M (s - 1) x y z w (by omega) (hG _ (by omega) (by omega)) hp) (av_Xk ?_)
      refine ax_if_ne rfl (by omega) (fun h53 => ?_) (fun h53 => ?_)
      · exact l_X8_put_57 E _ M S x y z w hp hG hE hn s ⟨s0, s1⟩ (low (fun h0 => by
          have hz : ¬ od (M 54 (s - 1)) (M 55 (s - 1)) (M 56 (s - 1)) (M 57 (s - 1)) x y z w = 0 := by first | assumption | omega
          have hq := hno h0
          unfold rv at hq ⊢
          rw [← od_pos (hw _ (by omega) (by omega)) hwm] at hq
          rw [← od_neg (hw _ (by omega) (by omega)) hwm]
          omega)) a2
      · refine ax_vret rfl rfl ?_
        first
          | omega
          | exact ⟨rfl, by omega, by omega, hG, RE_had hE (by
              have hz : od (M 54 (s - 1)) (M 55 (s - 1)) (M 56 (s - 1)) (M 57 (s - 1)) x y z w = 0 := by omega
              have e := (od_zero (hw _ (by omega) (by omega)) hwm).mp hz
              have := RE_in hE (show 0 ≤ s - 1 by omega) (by omega)
              unfold rv at this
              rw [← e]
              exact this), fun f _ => rfl, fun k _ _ _ _ _ => rfl⟩
  intro t
  induction t with
  | zero =>
    intro s hs hsn a2
    subst hs
    refine ax_iload rfl rfl ?_
    refine ax_if_le rfl (by omega) (fun h8 => ?_) (fun h8 => ?_)
    · exact h34 _ (by omega) (by omega) a2 (fun h => by omega)
    · omega
  | succ t ih =>
    intro s hs hsn a2
    have hr := hrg s
    refine ax_iload rfl rfl ?_
    refine ax_if_le rfl (by omega) (fun h8 => ?_) (fun h8 => ?_)
    · exact h34 _ (by omega) (by omega) a2 (fun h => by first | omega | (unfold rv; rw [← od_pos (hw _ (by omega) (by omega)) hwm]; omega))
    · refine ax_aloadn rfl rfl ?_
      refine ax_iload rfl rfl ?_
      refine ax_iconst rfl ?_
      refine ax_isub rfl ?_
      refine ax_lloadn rfl rfl ?_
      refine ax_lloadn rfl rfl ?_
      refine ax_lload rfl rfl ?_
      refine ax_lload rfl rfl ?_
      refine ax_callV (as := [_, _, _, _, _]) rfl vX8_231 hX8_order rfl rfl rfl rfl rfl (c_X8_order E (d + 0) M (s - 1) x y z w (by omega) (hG _ (by omega) (by omega)) hp) (av_Xk ?_)
      refine ax_if_le rfl (by omega) (fun h25 => ?_) (fun h25 => ?_)
      · exact h34 _ (by omega) (by omega) a2 (fun h => by first | omega | (unfold rv; rw [← od_pos (hw _ (by omega) (by omega)) hwm]; omega))
      · refine ax_iinc (ls' := [(0, _), (1, _), (3, _), (5, _), (7, _), (9, _)]) rfl rfl rfl rfl ?_
        refine ax_goto rfl ?_
        refine ih _ (by omega) (by omega) (fun j j0 j1 => ?_)
        by_cases hj : j = s - 1
        · rw [hj]; unfold rv; rw [← od_pos (hw _ (by omega) (by omega)) hwm]; omega
        · exact a2 j (by omega) j1
set_option maxRecDepth 100000 in
set_option maxHeartbeats 800000 in
theorem c_X8_put (E : av_E) (d : Nat) (M : av_M) (S : p3 → Prop) (x y z w : Int) (hp : B3 x y z w) (hG : RG M (M 35 26)) (hE : RE (rv M) (M 35 26) S) (hn : M 35 26 < 121) : av_Mt E (d + 2) mX8_put [vR 35, vL x, vL y, vL z, vL w] M (fun res M' => res = none ∧ M 35 26 ≤ M' 35 26 ∧ M' 35 26 ≤ M 35 26 + 1 ∧ RG M' (M' 35 26) ∧ RE (rv M') (M' 35 26) (fun q => S q ∨ q = P3 x y z w) ∧ (∀ f, f ≠ 26 → M' 35 f = M 35 f) ∧ ∀ k, k ≠ 35 → k ≠ 54 → k ≠ 55 → k ≠ 56 → k ≠ 57 → M' k = M k) := by
  have h0 := hE.1
  refine av_enter hX8_put oX8_put rfl rfl ?_
  refine ax_aloadn rfl rfl ?_
  refine ax_getI (g := 26) rfl fX8_228 rfl rfl rfl rfl ?_
  refine ax_istore (ls' := [(0, _), (1, _), (3, _), (5, _), (7, _), (9, _)]) rfl rfl rfl ?_
  exact l_X8_put E d M S x y z w hp hG hE hn (M 35 26).toNat _ (by omega) (by omega) (fun j j0 j1 => by omega)
