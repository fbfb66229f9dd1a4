/-! ===== the reference: covers ===== -/
def CVr (L : List Nat) (ao r P : Nat) : Prop := ∃ l : List Nat, l.length ≤ r ∧ (∀ b, b ∈ l → b ∈ L) ∧ ∀ j, ao.testBit j = true → P.testBit j = true ∨ ∃ b, b ∈ l ∧ b.testBit j = true
def lft (ao P : Nat) : Nat := ao ^^^ (ao &&& P)
def CVi (L : List Nat) (ao r P i : Nat) : Prop := lft ao P = 0 ∨ ∃ r', r = r' + 1 ∧ ∃ k, i ≤ k ∧ k < L.length ∧ (L.getD k 0).testBit (fb (lft ao P)) = true ∧ CVr L ao r' (P ||| L.getD k 0)
theorem lft_bit (ao P j : Nat) : (lft ao P).testBit j = (ao.testBit j && !P.testBit j) := tb_andn ao P j
theorem lft_lt {ao P : Nat} (h : ao < 2 ^ 63) : lft ao P < 2 ^ 63 := Nat.xor_lt_two_pow h (Nat.lt_of_le_of_lt Nat.and_le_left h)
theorem lft_0 {ao P : Nat} : lft ao P = 0 ↔ ∀ j, ao.testBit j = true → P.testBit j = true := by
  rw [tb_zero_iff]
  constructor
  · intro h j hj
    have := h j
    rw [lft_bit, hj] at this
    cases hp : P.testBit j
    · rw [hp] at this; cases this
    · rfl
  · intro h j
    rw [lft_bit]
    cases hj : ao.testBit j
    · rfl
    · rw [h j hj]; rfl
theorem getD_mem {L : List Nat} {b : Nat} (h : b ∈ L) : ∃ k, k < L.length ∧ L.getD k 0 = b := by
  obtain ⟨k, hk, e⟩ := List.mem_iff_getElem.mp h
  exact ⟨k, hk, by rw [List.getD_eq_getElem?_getD, List.getElem?_eq_getElem hk, e]; rfl⟩
theorem getD_in {L : List Nat} {k : Nat} (h : k < L.length) : L.getD k 0 ∈ L := by
  rw [List.getD_eq_getElem?_getD, List.getElem?_eq_getElem h]
  exact List.getElem_mem h
theorem CV_0 {L : List Nat} {ao r P : Nat} (hao : ao < 2 ^ 63) : CVr L ao r P ↔ CVi L ao r P 0 := by
  constructor
  · rintro ⟨l, h1, h2, h3⟩
    by_cases z : lft ao P = 0
    · exact Or.inl z
    · obtain ⟨f1, f2⟩ := fb_sp (lft_lt hao) z
      have f3 := f1
      rw [lft_bit, Bool.and_eq_true, Bool.not_eq_true'] at f3
      rcases h3 _ f3.1 with q | ⟨b, hb, hbj⟩
      · rw [f3.2] at q; cases q
      · obtain ⟨k, hk, ek⟩ := getD_mem (h2 b hb)
        have hl : 0 < l.length := List.length_pos_of_mem hb
        have he := List.length_erase_of_mem hb
        refine Or.inr ⟨r - 1, by omega, k, Nat.zero_le _, hk, by rw [ek]; exact hbj, l.erase b, by omega, fun c hc => h2 c (List.mem_of_mem_erase hc), fun j hj => ?_⟩
        rw [ek, Nat.testBit_or, Bool.or_eq_true]
        rcases h3 j hj with q | ⟨c, hc, hcj⟩
        · exact Or.inl (Or.inl q)
        · by_cases e : c = b
          · rw [e] at hcj; exact Or.inl (Or.inr hcj)
          · exact Or.inr ⟨c, (List.mem_erase_of_ne e).mpr hc, hcj⟩
  · rintro (z | ⟨r', rfl, k, _, hk, hb, l, h1, h2, h3⟩)
    · exact ⟨[], Nat.zero_le _, fun b hb => absurd hb List.not_mem_nil, fun j hj => Or.inl (lft_0.mp z j hj)⟩
    · refine ⟨L.getD k 0 :: l, by rw [List.length_cons]; omega, fun c hc => ?_, fun j hj => ?_⟩
      · rcases List.mem_cons.mp hc with e | e
        · rw [e]; exact getD_in hk
        · exact h2 c e
      · rcases h3 j hj with q | ⟨c, hc, hcj⟩
        · rw [Nat.testBit_or, Bool.or_eq_true] at q
          rcases q with q | q
          · exact Or.inl q
          · exact Or.inr ⟨_, List.mem_cons_self, q⟩
        · exact Or.inr ⟨c, List.mem_cons_of_mem _ hc, hcj⟩
def FRl (M1 M2 : av_M) (lev : Int) : Prop := (∀ k, k ≠ 47 → k ≠ 48 → M2 k = M1 k) ∧ ∀ j : Int, j < lev → M2 47 j = M1 47 j ∧ M2 48 j = M1 48 j
theorem FRl.rf (M : av_M) (l : Int) : FRl M M l := ⟨fun _ _ _ => rfl, fun _ _ => ⟨rfl, rfl⟩⟩
theorem FRl.tr {M M1 M2 : av_M} {a b c : Int} (h : FRl M M1 a) (g : FRl M1 M2 b) (ca : c ≤ a) (cb : c ≤ b) : FRl M M2 c :=
  ⟨fun k q1 q2 => by rw [g.1 k q1 q2, h.1 k q1 q2], fun j hj => by
    obtain ⟨x1, x2⟩ := h.2 j (by omega)
    obtain ⟨y1, y2⟩ := g.2 j (by omega)
    exact ⟨by rw [y1, x1], by rw [y2, x2]⟩⟩
def CBm (M : av_M) (L : List Nat) (ao : Nat) : Prop := M 35 13 = (ao : Int) ∧ BLm M L
theorem CBm.k {M M' : av_M} {L : List Nat} {ao : Nat} {l : Int} (h : CBm M L ao) (f : FRl M M' l) : CBm M' L ao := by
  unfold CBm BLm at h ⊢
  rw [f.1 35 (by decide) (by decide), f.1 43 (by decide) (by decide)]
  exact h
set_option maxRecDepth 100000 in
set_option maxHeartbeats 800000 in
theorem l_X8_covers (E : av_E) (d : Nat) (L : List Nat) (ao many : Nat) (hao : ao < 2 ^ 63) (hm : many ≤ 60) (hL63 : ∀ b, b ∈ L → b < 2 ^ 63) (hLl : L.length ≤ 256) (Q : Option av_V → av_M → Prop) : ∀ (r t i lev P : Nat) (M1 : av_M), lev + r = many → i + t = L.length → P < 2 ^ 63 → CBm M1 L ao → M1 47 (lev : Int) = (P : Int) → M1 48 (lev : Int) = (i : Int) → (CVi L ao r P i → ∀ M2 : av_M, FRl M1 M2 0 → Q (some (vI 1)) M2) → (¬ CVi L ao r P i → ∀ M2 : av_M, FRl M1 M2 (lev : Int) → av_S E (d + 1) mX8_covers 16 [(0, vR 35), (1, vI (many : Int)), (2, vI ((lev : Int) + (-1)))] [] M2 Q) → av_S E (d + 1) mX8_covers 16 [(0, vR 35), (1, vI (many : Int)), (2, vI (lev : Int))] [] M1 Q := by
  intro r
  induction r with
  | zero =>
    intro t i lev P M1 hlev hit hP hC hp hn hT hF
    obtain ⟨a1, a2, a3⟩ := hC
    have hlft : bl_and (M1 35 13) (bl_xor (M1 47 (lev : Int)) (-1)) = ((lft ao P : Nat) : Int) := by rw [a1, hp]; exact bl_n_andn hao
    have ll := lft_lt (P := P) hao
    refine ax_iloadn rfl rfl ?_
    refine ax_if_lt rfl (by omega) (fun h17 => ?_) (fun h17 => ?_)
    · omega
    · refine ax_aloadn rfl rfl ?_
      refine ax_getL (g := 13) rfl fX8_151 rfl rfl rfl rfl ?_
      refine ax_aloadn rfl rfl ?_
      refine ax_getR rfl fX8_44 rfl rfl ?_
      refine ax_iloadn rfl rfl ?_
      refine ax_lald rfl rfl (by omega) ?_
      refine ax_ldc2 (z := (-1)) rfl kX8_117 rfl ?_
      refine ax_lxor rfl ?_
      refine ax_land rfl ?_
      refine ax_lstoren (ls' := [(0, _), (1, _), (2, _), (3, _)]) rfl rfl rfl ?_
      refine ax_lloadn rfl rfl ?_
      refine ax_lconst (w := 0) rfl rfl ?_
      refine ax_lif_ne rfl rfl (by rw [hlft]; omega) (by omega) (fun h38 => ?_) (fun h38 => ?_)
      · refine ax_lloadn rfl rfl ?_
        refine ax_callS (as := [_]) rfl sX8_158 hX8_firstBit rfl rfl rfl rfl (by rw [hlft]; exact c_X8_firstBit E d M1 (lft ao P) ll) (av_Xk ?_)
        refine ax_istore (ls' := [(0, _), (1, _), (2, _), (3, _), (5, _)]) rfl rfl rfl ?_
        refine ax_iloadn rfl rfl ?_
        refine ax_iloadn rfl rfl ?_
        refine ax_icmp_eq rfl (by omega) (by omega) (fun h52 => ?_) (fun h52 => ?_)
        · refine ax_iinc (ls' := [(0, _), (1, _), (2, _), (3, _), (5, _)]) rfl rfl rfl rfl ?_
          refine ax_goto rfl ?_
          refine ax_goto rfl ?_
          rw [hlft] at h38
          refine ax_pick [0, 1, 2] rfl ?_
          first
            | omega
            | (refine hF (fun z => ?_) M1 (FRl.rf _ _)
               rcases z with z | ⟨r', z, _⟩
               · omega
               · omega)
        · refine ax_aloadn rfl rfl ?_
          refine ax_getR rfl fX8_47 rfl rfl ?_
          refine ax_iloadn rfl rfl ?_
          refine ax_iald rfl rfl (by omega) ?_
          refine ax_aloadn rfl rfl ?_
          refine ax_getI (g := 11) rfl fX8_155 rfl rfl rfl rfl ?_
          refine ax_icmp_ne rfl (by omega) (by omega) (fun h65 => ?_) (fun h65 => ?_)
          · omega
          · refine ax_iinc (ls' := [(0, _), (1, _), (2, _), (3, _), (5, _)]) rfl rfl rfl rfl ?_
            refine ax_goto rfl ?_
            refine ax_goto rfl ?_
            rw [hlft] at h38
            refine ax_pick [0, 1, 2] rfl ?_
            first
              | omega
              | (refine hF (fun z => ?_) M1 (FRl.rf _ _)
                 rcases z with z | ⟨r', z, _⟩
                 · omega
                 · omega)
      · refine ax_iconst rfl ?_
        refine ax_zret rfl rfl (by omega) ?_
        rw [hlft] at h38
        exact hT (Or.inl (by omega)) M1 (FRl.rf _ _)
  | succ r ihr =>
    intro t
    induction t with
    | zero =>
      intro i lev P M1 hlev hit hP hC hp hn hT hF
      obtain ⟨a1, a2, a3⟩ := hC
      have hlft : bl_and (M1 35 13) (bl_xor (M1 47 (lev : Int)) (-1)) = ((lft ao P : Nat) : Int) := by rw [a1, hp]; exact bl_n_andn hao
      have ll := lft_lt (P := P) hao
      refine ax_iloadn rfl rfl ?_
      refine ax_if_lt rfl (by omega) (fun h17 => ?_) (fun h17 => ?_)
      · omega
      · refine ax_aloadn rfl rfl ?_
        refine ax_getL (g := 13) rfl fX8_151 rfl rfl rfl rfl ?_
        refine ax_aloadn rfl rfl ?_
        refine ax_getR rfl fX8_44 rfl rfl ?_
        refine ax_iloadn rfl rfl ?_
        refine ax_lald rfl rfl (by omega) ?_
        refine ax_ldc2 (z := (-1)) rfl kX8_117 rfl ?_
        refine ax_lxor rfl ?_
        refine ax_land rfl ?_
        refine ax_lstoren (ls' := [(0, _), (1, _), (2, _), (3, _)]) rfl rfl rfl ?_
        refine ax_lloadn rfl rfl ?_
        refine ax_lconst (w := 0) rfl rfl ?_
        refine ax_lif_ne rfl rfl (by rw [hlft]; omega) (by omega) (fun h38 => ?_) (fun h38 => ?_)
        · refine ax_lloadn rfl rfl ?_
          refine ax_callS (as := [_]) rfl sX8_158 hX8_firstBit rfl rfl rfl rfl (by rw [hlft]; exact c_X8_firstBit E d M1 (lft ao P) ll) (av_Xk ?_)
          refine ax_istore (ls' := [(0, _), (1, _), (2, _), (3, _), (5, _)]) rfl rfl rfl ?_
          refine ax_iloadn rfl rfl ?_
          refine ax_iloadn rfl rfl ?_
          refine ax_icmp_eq rfl (by omega) (by omega) (fun h52 => ?_) (fun h52 => ?_)
          · refine ax_iinc (ls' := [(0, _), (1, _), (2, _), (3, _), (5, _)]) rfl rfl rfl rfl ?_
            refine ax_goto rfl ?_
            refine ax_goto rfl ?_
            rw [hlft] at h38
            refine ax_pick [0, 1, 2] rfl ?_
            first
              | omega
              | (refine hF (fun z => ?_) M1 (FRl.rf _ _)
                 rcases z with z | ⟨r', _, k, k0, k1, _⟩
                 · omega
                 · omega)
          · refine ax_aloadn rfl rfl ?_
            refine ax_getR rfl fX8_47 rfl rfl ?_
            refine ax_iloadn rfl rfl ?_
            refine ax_iald rfl rfl (by omega) ?_
            refine ax_aloadn rfl rfl ?_
            refine ax_getI (g := 11) rfl fX8_155 rfl rfl rfl rfl ?_
            refine ax_icmp_ne rfl (by omega) (by omega) (fun h65 => ?_) (fun h65 => ?_)
            · omega
            · refine ax_iinc (ls' := [(0, _), (1, _), (2, _), (3, _), (5, _)]) rfl rfl rfl rfl ?_
              refine ax_goto rfl ?_
              refine ax_goto rfl ?_
              rw [hlft] at h38
              refine ax_pick [0, 1, 2] rfl ?_
              first
                | omega
                | (refine hF (fun z => ?_) M1 (FRl.rf _ _)
                   rcases z with z | ⟨r', _, k, k0, k1, _⟩
                   · omega
                   · omega)
        · refine ax_iconst rfl ?_
          refine ax_zret rfl rfl (by omega) ?_
          rw [hlft] at h38
          exact hT (Or.inl (by omega)) M1 (FRl.rf _ _)
    | succ t iht =>
      intro i lev P M1 hlev hit hP hC hp hn hT hF
      have hC0 := hC
      obtain ⟨a1, a2, a3⟩ := hC
      have hlft : bl_and (M1 35 13) (bl_xor (M1 47 (lev : Int)) (-1)) = ((lft ao P : Nat) : Int) := by rw [a1, hp]; exact bl_n_andn hao
      have ll := lft_lt (P := P) hao
      have hi : i < L.length := by omega
      have hbm := a3 i hi
      have hb63 := hL63 _ (getD_in hi)
      generalize eb : L.getD i 0 = b at hbm hb63
      have fbl : fb (lft ao P) ≤ 64 := fbF_le _ 64 0
      have hmono : CVi L ao (r + 1) P (i + 1) → CVi L ao (r + 1) P i := by
        rintro (z | ⟨r', e, k, k0, k1, k2, k3⟩)
        · exact Or.inl z
        · exact Or.inr ⟨r', e, k, by omega, k1, k2, k3⟩
      have hstep : ∀ M2 : av_M, FRl M1 M2 (lev : Int) → M2 47 (lev : Int) = (P : Int) → M2 48 (lev : Int) = ((i + 1 : Nat) : Int) → (CVi L ao (r + 1) P i → CVi L ao (r + 1) P (i + 1)) → av_S E (d + 1) mX8_covers 16 [(0, vR 35), (1, vI (many : Int)), (2, vI (lev : Int))] [] M2 Q := fun M2 f q1 q2 hb => iht (i + 1) lev P M2 hlev (by omega) hP (hC0.k f) q1 q2 (fun z M3 f3 => hT (hmono z) M3 (f.tr f3 (by omega) (by omega))) (fun z M3 f3 => hF (fun y => z (hb y)) M3 (f.tr f3 (by omega) (by omega)))
      refine ax_iloadn rfl rfl ?_
      refine ax_if_lt rfl (by omega) (fun h17 => ?_) (fun h17 => ?_)
      · omega
      · refine ax_aloadn rfl rfl ?_
        refine ax_getL (g := 13) rfl fX8_151 rfl rfl rfl rfl ?_
        refine ax_aloadn rfl rfl ?_
        refine ax_getR rfl fX8_44 rfl rfl ?_
        refine ax_iloadn rfl rfl ?_
        refine ax_lald rfl rfl (by omega) ?_
        refine ax_ldc2 (z := (-1)) rfl kX8_117 rfl ?_
        refine ax_lxor rfl ?_
        refine ax_land rfl ?_
        refine ax_lstoren (ls' := [(0, _), (1, _), (2, _), (3, _)]) rfl rfl rfl ?_
        refine ax_lloadn rfl rfl ?_
        refine ax_lconst (w := 0) rfl rfl ?_
        refine ax_lif_ne rfl rfl (by rw [hlft]; omega) (by omega) (fun h38 => ?_) (fun h38 => ?_)
        · refine ax_lloadn rfl rfl ?_
          refine ax_callS (as := [_]) rfl sX8_158 hX8_firstBit rfl rfl rfl rfl (by rw [hlft]; exact c_X8_firstBit E d M1 (lft ao P) ll) (av_Xk ?_)
          refine ax_istore (ls' := [(0, _), (1, _), (2, _), (3, _), (5, _)]) rfl rfl rfl ?_
          rw [hlft] at h38
          have hnz : lft ao P ≠ 0 := by omega
          obtain ⟨fs1, fs2⟩ := fb_sp ll hnz
          have hbit := bl_n_bit (a := b) (k := fb (lft ao P)) fs2 hb63
          have hbr : -9223372036854775808 ≤ bl_and (bl_shr (b : Int) ((fb (lft ao P) : Nat) : Int)) 1 ∧ bl_and (bl_shr (b : Int) ((fb (lft ao P) : Nat) : Int)) 1 < 9223372036854775808 := by rw [hbit]; split <;> omega
          refine ax_iloadn rfl rfl ?_
          refine ax_iloadn rfl rfl ?_
          refine ax_icmp_eq rfl (by omega) (by omega) (fun h52 => ?_) (fun h52 => ?_)
          · omega
          · refine ax_aloadn rfl rfl ?_
            refine ax_getR rfl fX8_47 rfl rfl ?_
            refine ax_iloadn rfl rfl ?_
            refine ax_iald rfl rfl (by omega) ?_
            refine ax_aloadn rfl rfl ?_
            refine ax_getI (g := 11) rfl fX8_155 rfl rfl rfl rfl ?_
            refine ax_icmp_ne rfl (by omega) (by omega) (fun h65 => ?_) (fun h65 => ?_)
            · refine ax_aloadn rfl rfl ?_
              refine ax_getR rfl fX8_32 rfl rfl ?_
              refine ax_aloadn rfl rfl ?_
              refine ax_getR rfl fX8_47 rfl rfl ?_
              refine ax_iloadn rfl rfl ?_
              refine ax_iald rfl rfl (by omega) ?_
              refine ax_lald rfl rfl (by omega) ?_
              refine ax_lstore (ls' := [(0, _), (1, _), (2, _), (3, _), (5, _), (6, _)]) rfl rfl rfl ?_
              refine ax_aloadn rfl rfl ?_
              refine ax_getR rfl fX8_47 rfl rfl ?_
              refine ax_iloadn rfl rfl ?_
              refine ax_dup2 rfl rfl rfl ?_
              refine ax_iald rfl rfl (by omega) ?_
              refine ax_iconst rfl ?_
              refine ax_iadd rfl ?_
              refine ax_iast' rfl rfl (by omega) (fun M96 a96 b96 c96 => ?_)
              refine ax_lload rfl rfl ?_
              refine ax_iload rfl rfl ?_
              refine ax_lshr rfl ?_
              refine ax_lconst (w := 1) rfl rfl ?_
              refine ax_land rfl ?_
              refine ax_lconst (w := 1) rfl rfl ?_
              refine ax_lif_ne rfl rfl (by rw [hn, hbm]; exact hbr) (by omega) (fun h105 => ?_) (fun h105 => ?_)
              · refine ax_goto rfl ?_
                rw [hn, hbm, hbit] at h105
                refine ax_pick [0, 1, 2] rfl ?_
                first
                  | (have hbt : b.testBit (fb (lft ao P)) = true := by
                       apply Classical.byContradiction
                       intro q
                       rw [if_neg q] at h105
                       omega
                     have f134 : FRl M1 M134 (lev : Int) := ⟨fun k q1 q2 => by rw [c134 k q2, c125 k q1, c96 k q2], fun j hj => ⟨by rw [c134 47 (by decide), b125 j (by omega), c96 47 (by decide)], by rw [b134 j (by omega), c125 48 (by decide), b96 j (by omega)]⟩⟩
                     have z0 : (lev : Int) + 1 = ((lev + 1 : Nat) : Int) := by omega
                     have por : P ||| b < 2 ^ 63 := Nat.or_lt_two_pow hP hb63
                     rw [z0] at a134 a125 ⊢
                     refine ihr L.length 0 (lev + 1) (P ||| b) M134 (by omega) (by omega) por (hC0.k f134) ?_ a134 (fun z M3 f3 => hT ?_ M3 (f134.tr f3 (by omega) (by omega))) (fun z M3 f3 => ?_)
                     · rw [c134 47 (by decide), a125, c96 47 (by decide), hp, hn, hbm, bl_n_or hP hb63]
                     · exact Or.inr ⟨r, rfl, i, Nat.le_refl _, hi, by rw [eb]; exact hbt, by rw [eb]; exact (CV_0 hao).mpr z⟩
                     · have e2 : ((lev + 1 : Nat) : Int) + (-1) = (lev : Int) := by omega
                       rw [e2]
                       obtain ⟨y1, y2⟩ := f3.2 (lev : Int) (by omega)
                       refine hstep M3 (f134.tr f3 (by omega) (by omega)) ?_ ?_ (fun w => ?_)
                       · rw [y1, c134 47 (by decide), b125 _ (by omega), c96 47 (by decide)]; exact hp
                       · rw [y2, b134 _ (by omega), c125 48 (by decide), a96, hn]; omega
                       · rcases w with w | ⟨r', e, k, k0, k1, k2, k3⟩
                         · exact Or.inl w
                         · by_cases q : k = i
                           · have er : r' = r := by omega
                             rw [q, eb, er] at k3
                             exact absurd ((CV_0 hao).mp k3) z
                           · exact Or.inr ⟨r', e, k, by omega, k1, k2, k3⟩)
                  | (have hbt : ¬ b.testBit (fb (lft ao P)) = true := by
                       intro q
                       rw [if_pos q] at h105
                       omega
                     refine hstep M96 ⟨fun k q1 q2 => c96 k q2, fun j hj => ⟨by rw [c96 47 (by decide)], b96 j (by omega)⟩⟩ (by rw [c96 47 (by decide)]; exact hp) (by rw [a96, hn]; omega) (fun w => ?_)
                     rcases w with w | ⟨r', e, k, k0, k1, k2, k3⟩
                     · exact Or.inl w
                     · by_cases q : k = i
                       · rw [q, eb] at k2
                         exact absurd k2 hbt
                       · exact Or.inr ⟨r', e, k, by omega, k1, k2, k3⟩)
              · refine ax_aloadn rfl rfl ?_
                refine ax_getR rfl fX8_44 rfl rfl ?_
                refine ax_iloadn rfl rfl ?_
                refine ax_iconst rfl ?_
                refine ax_iadd rfl ?_
                refine ax_aloadn rfl rfl ?_
                refine ax_getR rfl fX8_44 rfl rfl ?_
                refine ax_iloadn rfl rfl ?_
                refine ax_lald rfl rfl (by omega) ?_
                refine ax_lload rfl rfl ?_
                refine ax_lor rfl ?_
                refine ax_last' rfl rfl (by omega) (fun M125 a125 b125 c125 => ?_)
                refine ax_aloadn rfl rfl ?_
                refine ax_getR rfl fX8_47 rfl rfl ?_
                refine ax_iloadn rfl rfl ?_
                refine ax_iconst rfl ?_
                refine ax_iadd rfl ?_
                refine ax_iconst rfl ?_
                refine ax_iast' rfl rfl (by omega) (fun M134 a134 b134 c134 => ?_)
                refine ax_iinc (ls' := [(0, _), (1, _), (2, _), (3, _), (5, _), (6, _)]) rfl rfl rfl rfl ?_
                refine ax_goto rfl ?_
                rw [hn, hbm, hbit] at h105
                refine ax_pick [0, 1, 2] rfl ?_
                first
                  | (have hbt : b.testBit (fb (lft ao P)) = true := by
                       apply Classical.byContradiction
                       intro q
                       rw [if_neg q] at h105
                       omega
                     have f134 : FRl M1 M134 (lev : Int) := ⟨fun k q1 q2 => by rw [c134 k q2, c125 k q1, c96 k q2], fun j hj => ⟨by rw [c134 47 (by decide), b125 j (by omega), c96 47 (by decide)], by rw [b134 j (by omega), c125 48 (by decide), b96 j (by omega)]⟩⟩
                     have z0 : (lev : Int) + 1 = ((lev + 1 : Nat) : Int) := by omega
                     have por : P ||| b < 2 ^ 63 := Nat.or_lt_two_pow hP hb63
                     rw [z0] at a134 a125 ⊢
                     refine ihr L.length 0 (lev + 1) (P ||| b) M134 (by omega) (by omega) por (hC0.k f134) ?_ a134 (fun z M3 f3 => hT ?_ M3 (f134.tr f3 (by omega) (by omega))) (fun z M3 f3 => ?_)
                     · rw [c134 47 (by decide), a125, c96 47 (by decide), hp, hn, hbm, bl_n_or hP hb63]
                     · exact Or.inr ⟨r, rfl, i, Nat.le_refl _, hi, by rw [eb]; exact hbt, by rw [eb]; exact (CV_0 hao).mpr z⟩
                     · have e2 : ((lev + 1 : Nat) : Int) + (-1) = (lev : Int) := by omega
                       rw [e2]
                       obtain ⟨y1, y2⟩ := f3.2 (lev : Int) (by omega)
                       refine hstep M3 (f134.tr f3 (by omega) (by omega)) ?_ ?_ (fun w => ?_)
                       · rw [y1, c134 47 (by decide), b125 _ (by omega), c96 47 (by decide)]; exact hp
                       · rw [y2, b134 _ (by omega), c125 48 (by decide), a96, hn]; omega
                       · rcases w with w | ⟨r', e, k, k0, k1, k2, k3⟩
                         · exact Or.inl w
                         · by_cases q : k = i
                           · have er : r' = r := by omega
                             rw [q, eb, er] at k3
                             exact absurd ((CV_0 hao).mp k3) z
                           · exact Or.inr ⟨r', e, k, by omega, k1, k2, k3⟩)
                  | (have hbt : ¬ b.testBit (fb (lft ao P)) = true := by
                       intro q
                       rw [if_pos q] at h105
                       omega
                     refine hstep M96 ⟨fun k q1 q2 => c96 k q2, fun j hj => ⟨by rw [c96 47 (by decide)], b96 j (by omega)⟩⟩ (by rw [c96 47 (by decide)]; exact hp) (by rw [a96, hn]; omega) (fun w => ?_)
                     rcases w with w | ⟨r', e, k, k0, k1, k2, k3⟩
                     · exact Or.inl w
                     · by_cases q : k = i
                       · rw [q, eb] at k2
                         exact absurd k2 hbt
                       · exact Or.inr ⟨r', e, k, by omega, k1, k2, k3⟩)
            · omega
        · refine ax_iconst rfl ?_
          refine ax_zret rfl rfl (by omega) ?_
          rw [hlft] at h38
          exact hT (Or.inl (by omega)) M1 (FRl.rf _ _)
set_option maxRecDepth 100000 in
set_option maxHeartbeats 800000 in
theorem c_X8_covers (E : av_E) (d : Nat) (M : av_M) (L : List Nat) (ao many : Nat) (hao : ao < 2 ^ 63) (hm : many ≤ 60) (hL63 : ∀ b, b ∈ L → b < 2 ^ 63) (hLl : L.length ≤ 256) (hC : CBm M L ao) : av_Mt E (d + 1) mX8_covers [vR 35, vI (many : Int)] M (fun res M' => res = some (vI (b01 (CVr L ao many 0))) ∧ ∀ k, k ≠ 47 → k ≠ 48 → M' k = M k) := by
  refine av_enter hX8_covers oX8_covers rfl rfl ?_
  refine ax_iconst rfl ?_
  refine ax_istoren (ls' := [(0, _), (1, _), (2, _)]) rfl rfl rfl ?_
  refine ax_aloadn rfl rfl ?_
  refine ax_getR rfl fX8_44 rfl rfl ?_
  refine ax_iconst rfl ?_
  refine ax_lconst (w := 0) rfl rfl ?_
  refine ax_last' rfl rfl (by omega) (fun M8 a8 b8 c8 => ?_)
  refine ax_aloadn rfl rfl ?_
  refine ax_getR rfl fX8_47 rfl rfl ?_
  refine ax_iconst rfl ?_
  refine ax_iconst rfl ?_
  refine ax_iast' rfl rfl (by omega) (fun M15 a15 b15 c15 => ?_)
  have hf : FRl M M15 0 := ⟨fun k q1 q2 => by rw [c15 k q2, c8 k q1], fun j hj => ⟨by rw [c15 47 (by decide), b8 j (by omega)], by rw [b15 j (by omega), c8 48 (by decide)]⟩⟩
  refine l_X8_covers E d L ao many hao hm hL63 hLl _ many L.length 0 0 0 M15 (by omega) (by omega) (by decide) (hC.k hf) (by rw [c15 47 (by decide)]; exact a8) a15 (fun z M2 f => ⟨by rw [b01_t ((CV_0 hao).mpr z)], (hf.tr (c := 0) f (by omega) (by omega)).1⟩) (fun z M2 f => ?_)
  have fr := (hf.tr (c := 0) f (by omega) (by omega)).1
  refine ax_iloadn rfl rfl ?_
  refine ax_if_lt rfl (by omega) (fun h17 => ?_) (fun h17 => ?_)
  · refine ax_iconst rfl ?_
    refine ax_zret rfl rfl (by omega) ?_
    exact ⟨by rw [b01_f (fun y => z ((CV_0 hao).mp y))], fr⟩
  · omega
