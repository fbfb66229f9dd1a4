/-! ===== the figure and the tables: what is asked, and the class's contracts ===== -/
def nxI (h e : Int) : Int := if e + 1 < h then e + 1 else 0
theorem nxI_rng {h e : Int} (h0 : 0 ≤ e) (h1 : e < h) : 0 ≤ nxI h e ∧ nxI h e < h := by unfold nxI; split <;> omega
def wP (x0 y0 x1 y1 w : Int) : Int :=
  if (Int.gcd (x1 - x0) (y1 - y0) : Int) = 0 then 0
  else if w = 0 then (y1 - y0).tdiv (Int.gcd (x1 - x0) (y1 - y0))
  else if w = 1 then (-(x1 - x0)).tdiv (Int.gcd (x1 - x0) (y1 - y0))
  else (y1 - y0).tdiv (Int.gcd (x1 - x0) (y1 - y0)) * x0 + (-(x1 - x0)).tdiv (Int.gcd (x1 - x0) (y1 - y0)) * y0
def wq (h : Int) (fx fy : Int → Int) (e w : Int) : Int := wP (fx e) (fy e) (fx (nxI h e)) (fy (nxI h e)) w
def gp (h : Int) (fx fy : Int → Int) (e c : Int) : Int := wq h fx fy e 2 - wq h fx fy e 0 * fx c - wq h fx fy e 1 * fy c
def isum (f : Int → Int) : Nat → Int
  | 0 => 0
  | n + 1 => isum f n + f n
def opS (h : Int) (fx fy : Int → Int) (e : Int) : Nat → Int := isum (fun c => if 0 < gp h fx fy e c then 1 else 0)
def arS (h : Int) (fx fy : Int → Int) : Nat → Int := isum (fun e => fx e * fy (nxI h e) - fy e * fx (nxI h e))
def mxI (f : Int → Int) : Nat → Int
  | 0 => f 0
  | n + 1 => max (mxI f n) (f (n + 1 : Nat))
theorem gcd_le {a b : Int} {A : Nat} (ha : a.natAbs ≤ A) (hb : b.natAbs ≤ A) : Int.gcd a b ≤ A := by
  show Nat.gcd a.natAbs b.natAbs ≤ A
  rcases Nat.eq_zero_or_pos a.natAbs with z | z
  · rw [z, Nat.gcd_zero_left]; exact hb
  · exact Nat.le_trans (Nat.gcd_le_left _ z) ha
theorem tdiv_rng {x g A : Int} (h : -A ≤ x ∧ x ≤ A) : -A ≤ x.tdiv g ∧ x.tdiv g ≤ A := by
  have h1 : (x.tdiv g).natAbs ≤ x.natAbs := by rw [Int.natAbs_tdiv]; exact Nat.div_le_self _ _
  omega
theorem wP_rng {x0 y0 x1 y1 w : Int} (h0 : -50 ≤ x0 ∧ x0 ≤ 50) (h1 : -50 ≤ y0 ∧ y0 ≤ 50) (h2 : -50 ≤ x1 ∧ x1 ≤ 50) (h3 : -50 ≤ y1 ∧ y1 ≤ 50) : -10000 ≤ wP x0 y0 x1 y1 w ∧ wP x0 y0 x1 y1 w ≤ 10000 := by
  have a := tdiv_rng (x := y1 - y0) (g := (Int.gcd (x1 - x0) (y1 - y0) : Int)) (A := 100) (by omega)
  have b := tdiv_rng (x := -(x1 - x0)) (g := (Int.gcd (x1 - x0) (y1 - y0) : Int)) (A := 100) (by omega)
  have c := mb a h0
  have e := mb b h1
  unfold wP
  (repeat' split) <;> omega
theorem wP_rng' {x0 y0 x1 y1 w : Int} (hw : w = 0 ∨ w = 1) (h0 : -50 ≤ x0 ∧ x0 ≤ 50) (h1 : -50 ≤ y0 ∧ y0 ≤ 50) (h2 : -50 ≤ x1 ∧ x1 ≤ 50) (h3 : -50 ≤ y1 ∧ y1 ≤ 50) : -100 ≤ wP x0 y0 x1 y1 w ∧ wP x0 y0 x1 y1 w ≤ 100 := by
  have a := tdiv_rng (x := y1 - y0) (g := (Int.gcd (x1 - x0) (y1 - y0) : Int)) (A := 100) (by omega)
  have b := tdiv_rng (x := -(x1 - x0)) (g := (Int.gcd (x1 - x0) (y1 - y0) : Int)) (A := 100) (by omega)
  unfold wP
  rcases hw with rfl | rfl
  · (repeat' split) <;> omega
  · (repeat' split) <;> omega
def Fb (h : Int) (fx fy : Int → Int) : Prop := 0 ≤ h ∧ h ≤ 12 ∧ ∀ k, 0 ≤ k → k < h → (-50 ≤ fx k ∧ fx k ≤ 50) ∧ (-50 ≤ fy k ∧ fy k ≤ 50)
theorem gp_rng {h : Int} {fx fy : Int → Int} (hb : Fb h fx fy) {e c : Int} (h0 : 0 ≤ e ∧ e < h) (h1 : 0 ≤ c ∧ c < h) : -20000 ≤ gp h fx fy e c ∧ gp h fx fy e c ≤ 20000 := by
  have n := nxI_rng h0.1 h0.2
  have b0 := hb.2.2 e h0.1 h0.2
  have b1 := hb.2.2 _ n.1 n.2
  have b2 := hb.2.2 c h1.1 h1.2
  have q2 := wP_rng (w := 2) b0.1 b0.2 b1.1 b1.2
  have q0 := wP_rng' (w := 0) (Or.inl rfl) b0.1 b0.2 b1.1 b1.2
  have q1 := wP_rng' (w := 1) (Or.inr rfl) b0.1 b0.2 b1.1 b1.2
  have m0 := mb q0 b2.1
  have m1 := mb q1 b2.2
  unfold gp wq
  omega
/-- the first pair that is not as it should be -/
def FW (ok : Int → Int → Prop) (h r : Int) : Prop := (∃ i j, 0 ≤ i ∧ i < h ∧ 0 ≤ j ∧ j < h ∧ ¬ ok i j ∧ (∀ a b, 0 ≤ a → a < h → 0 ≤ b → b < h → (a < i ∨ (a = i ∧ b < j)) → ok a b) ∧ r = 100 * i + j) ∨ ((∀ a b, 0 ≤ a → a < h → 0 ≤ b → b < h → ok a b) ∧ r = -900000009)
theorem FW_un {ok : Int → Int → Prop} {h r r' : Int} (h1 : FW ok h r) (h2 : FW ok h r') : r = r' := by
  rcases h1 with ⟨i, j, i0, i1, j0, j1, hn, hl, e⟩ | ⟨ha, e⟩
  · rcases h2 with ⟨i', j', i0', i1', j0', j1', hn', hl', e'⟩ | ⟨ha', e'⟩
    · have a : ¬ (i < i' ∨ (i = i' ∧ j < j')) := fun q => hn (hl' i j i0 i1 j0 j1 q)
      have b : ¬ (i' < i ∨ (i' = i ∧ j' < j)) := fun q => hn' (hl i' j' i0' i1' j0' j1' q)
      omega
    · exact absurd (ha' i j i0 i1 j0 j1) hn
  · rcases h2 with ⟨i', j', i0', i1', j0', j1', hn', hl', e'⟩ | ⟨ha', e'⟩
    · exact absurd (ha i' j' i0' i1' j0' j1') hn'
    · omega
theorem FW_congr {ok ok' : Int → Int → Prop} {h r : Int} (e : ∀ a b, 0 ≤ a → a < h → 0 ≤ b → b < h → (ok a b ↔ ok' a b)) (hw : FW ok h r) : FW ok' h r := by
  rcases hw with ⟨i, j, i0, i1, j0, j1, hn, hl, er⟩ | ⟨ha, er⟩
  · exact Or.inl ⟨i, j, i0, i1, j0, j1, fun q => hn ((e i j i0 i1 j0 j1).mpr q), fun a b a0 a1 b0 b1 c => (e a b a0 a1 b0 b1).mp (hl a b a0 a1 b0 b1 c), er⟩
  · exact Or.inr ⟨fun a b a0 a1 b0 b1 => (e a b a0 a1 b0 b1).mp (ha a b a0 a1 b0 b1), er⟩
/-- the outline of a figure of whole places -/
def FS (n : Int) (px py : Int → Int) : pt → Prop := fun p => ∃ j : Int, 0 ≤ j ∧ j < n ∧ p = P2 (px j) (py j) 1
def FO (X Y W R : Int → Int) (n h : Int) (S : pt → Prop) : Prop := OO X Y W R n h S ∧ n ≤ 12 ∧ ∀ j, 0 ≤ j → j < n → (-50 ≤ X j ∧ X j ≤ 50) ∧ (-50 ≤ Y j ∧ Y j ≤ 50) ∧ W j = 1
theorem OO_le {X Y W R : Int → Int} {n h : Int} {S : pt → Prop} (hO : OO X Y W R n h S) : h ≤ n := by
  obtain ⟨hE, h0, hz, hR, hH⟩ := hO
  by_cases hn : 0 < n
  · have := pigeon n.toNat h.toNat (fun i => (R i).toNat) (fun i hi => by have := hR i (by omega) (by omega); omega) (fun i j hi hj e => by
      refine Hull_inj (hH hn) i j hi hj ?_
      have q1 := hR i (by omega) (by omega)
      have q2 := hR j (by omega) (by omega)
      have e0 : (R i).toNat = (R j).toNat := e
      unfold cn
      rw [show R i = R j by omega])
    omega
  · have h1 := hE.1
    have := hz (by omega)
    omega
theorem FO_fb {X Y W R : Int → Int} {n h : Int} {S : pt → Prop} (hF : FO X Y W R n h S) : Fb h (fun k => X (R k)) (fun k => Y (R k)) := by
  have := OO_le hF.1
  refine ⟨hF.1.2.1, by have := hF.2.1; omega, fun k k0 k1 => ?_⟩
  have q := hF.1.2.2.2.1 k k0 k1
  have r := hF.2.2 _ q.1 q.2
  exact ⟨r.1, r.2.1⟩
theorem FS_succ {i : Int} {px py : Int → Int} (h0 : 0 ≤ i) : (fun q => FS i px py q ∨ q = P2 (px i) (py i) 1) = FS (i + 1) px py := by
  funext p
  apply propext
  constructor
  · rintro (⟨j, a, b, e⟩ | e)
    · exact ⟨j, a, by omega, e⟩
    · exact ⟨i, h0, by omega, e⟩
  · rintro ⟨j, a, b, e⟩
    by_cases hj : j = i
    · exact Or.inr (by rw [e, hj])
    · exact Or.inl ⟨j, a, by omega, e⟩
theorem FS_zero (px py : Int → Int) : (fun _ => False) = FS 0 px py := by
  funext p
  apply propext
  exact ⟨fun h => h.elim, fun ⟨j, a, b, _⟩ => by omega⟩
theorem FS_congr {n : Int} {px py px' py' : Int → Int} (e : ∀ j, 0 ≤ j → j < n → px' j = px j ∧ py' j = py j) : FS n px' py' = FS n px py := by
  funext p
  apply propext
  constructor
  · rintro ⟨j, a, b, c⟩; obtain ⟨e1, e2⟩ := e j a b; exact ⟨j, a, b, by rw [c, e1, e2]⟩
  · rintro ⟨j, a, b, c⟩; obtain ⟨e1, e2⟩ := e j a b; exact ⟨j, a, b, by rw [c, e1, e2]⟩
set_option maxRecDepth 100000 in
set_option maxHeartbeats 800000 in
theorem c_X2_size (E : av_E) (d : Nat) (M : av_M)  : av_Mt E (d) mX2_size [vR 1] M (av_X (some (vI (M 1 3))) M) := by
  refine av_enter hX2_size oX2_size rfl rfl ?_
  refine ax_aloadn rfl rfl ?_
  refine ax_getI (g := 3) rfl fX2_27 rfl rfl rfl rfl ?_
  refine ax_iret rfl rfl ?_
  exact av_rI rfl
set_option maxRecDepth 100000 in
set_option maxHeartbeats 800000 in
theorem c_X2_hull (E : av_E) (d : Nat) (M : av_M) : av_Mt E d mX2_hull [vR 1] M (av_X (some (vR 4)) M) := by
  refine av_enter hX2_hull oX2_hull rfl rfl ?_
  refine ax_aloadn rfl rfl ?_
  refine ax_getR rfl fX2_23 rfl rfl ?_
  refine ax_aret rfl rfl ?_
  exact ⟨rfl, rfl⟩
set_option maxRecDepth 100000 in
set_option maxHeartbeats 800000 in
theorem c_X2_isFlat (E : av_E) (d : Nat) (M : av_M) (hh : 0 ≤ M 4 5 ∧ M 4 5 ≤ 1000) : av_Mt E (d + 1) mX2_isFlat [vR 1] M (av_X (some (vI (b01 (M 4 5 < 3)))) M) := by
  refine av_enter hX2_isFlat oX2_isFlat rfl rfl ?_
  refine ax_aloadn rfl rfl ?_
  refine ax_getR rfl fX2_23 rfl rfl ?_
  refine ax_callV (as := []) rfl vX2_31 hX4_size rfl rfl rfl rfl rfl (c_H_size E d M) (av_Xk ?_)
  refine ax_iconst rfl ?_
  refine ax_icmp_ge rfl (by omega) (by omega) (fun h8 => ?_) (fun h8 => ?_)
  · refine ax_iconst rfl ?_
    refine ax_zret rfl rfl (by omega) ?_
    first | exact av_rI (b01_t (by omega)).symm | exact av_rI (b01_f (by omega)).symm
  · refine ax_iconst rfl ?_
    refine ax_goto rfl ?_
    refine ax_zret rfl rfl (by omega) ?_
    first | exact av_rI (b01_t (by omega)).symm | exact av_rI (b01_f (by omega)).symm
set_option maxRecDepth 100000 in
set_option maxHeartbeats 800000 in
theorem c_X2_wallPart (E : av_E) (d : Nat) (M : av_M) (S : pt → Prop) (e w : Int) (hF : FO (M 5) (M 6) (M 7) (M 8) (M 4 4) (M 4 5) S) (he : 0 ≤ e ∧ e < (M 4 5)) (hw : 0 ≤ w ∧ w ≤ 2) : av_Mt E (d + 2) mX2_wallPart [vR 1, vI e, vI w] M (av_X (some (vI (wq (M 4 5) (fun k => M 5 (M 8 k)) (fun k => M 6 (M 8 k)) e w))) M) := by
  have hfb := FO_fb hF
  have hR := hF.1.2.2.2.1
  have n12 := hF.2.1
  have nx := nxI_rng he.1 he.2
  have q0 := hR e he.1 he.2
  have q1 := hR _ nx.1 nx.2
  have b0 : (-50 ≤ M 5 (M 8 e) ∧ M 5 (M 8 e) ≤ 50) ∧ (-50 ≤ M 6 (M 8 e) ∧ M 6 (M 8 e) ≤ 50) := hfb.2.2 e he.1 he.2
  have b1 : (-50 ≤ M 5 (M 8 (nxI (M 4 5) e)) ∧ M 5 (M 8 (nxI (M 4 5) e)) ≤ 50) ∧ (-50 ≤ M 6 (M 8 (nxI (M 4 5) e)) ∧ M 6 (M 8 (nxI (M 4 5) e)) ≤ 50) := hfb.2.2 _ nx.1 nx.2
  have h12 := hfb.2.1
  have hg : (Int.gcd (M 5 (M 8 (nxI (M 4 5) e)) - M 5 (M 8 e)) (M 6 (M 8 (nxI (M 4 5) e)) - M 6 (M 8 e)) : Int) ≤ 200 := by
    have g1 := gcd_le (a := M 5 (M 8 (nxI (M 4 5) e)) - M 5 (M 8 e)) (b := M 6 (M 8 (nxI (M 4 5) e)) - M 6 (M 8 e)) (A := 200) (by omega) (by omega)
    omega
  refine av_enter hX2_wallPart oX2_wallPart rfl rfl ?_
  refine ax_aloadn rfl rfl ?_
  refine ax_getR rfl fX2_23 rfl rfl ?_
  refine ax_iloadn rfl rfl ?_
  refine ax_callV (as := [_]) rfl vX2_51 hX4_next rfl rfl rfl rfl rfl (c_H_next E (d + 1) M e (by omega) (by omega)) (av_Xk ?_)
  refine (show av_S E (d + 2) mX2_wallPart 8 _ [vI (nxI (M 4 5) e)] M _ from ?_)
  refine ax_istoren (ls' := [(0, _), (1, _), (2, _), (3, _)]) rfl rfl rfl ?_
  refine ax_aloadn rfl rfl ?_
  refine ax_getR rfl fX2_23 rfl rfl ?_
  refine ax_iloadn rfl rfl ?_
  refine ax_callV (as := [_]) rfl vX2_55 hX4_xOf rfl rfl rfl rfl rfl (c_H_xOf E (d + 1) M (nxI (M 4 5) e) (by omega) (by omega)) (av_Xk ?_)
  refine ax_aloadn rfl rfl ?_
  refine ax_getR rfl fX2_23 rfl rfl ?_
  refine ax_iloadn rfl rfl ?_
  refine ax_callV (as := [_]) rfl vX2_55 hX4_xOf rfl rfl rfl rfl rfl (c_H_xOf E (d + 1) M e (by omega) (by omega)) (av_Xk ?_)
  refine ax_isub rfl ?_
  refine ax_istore (ls' := [(0, _), (1, _), (2, _), (3, _), (4, _)]) rfl rfl rfl ?_
  refine ax_aloadn rfl rfl ?_
  refine ax_getR rfl fX2_23 rfl rfl ?_
  refine ax_iloadn rfl rfl ?_
  refine ax_callV (as := [_]) rfl vX2_58 hX4_yOf rfl rfl rfl rfl rfl (c_H_yOf E (d + 1) M (nxI (M 4 5) e) (by omega) (by omega)) (av_Xk ?_)
  refine ax_aloadn rfl rfl ?_
  refine ax_getR rfl fX2_23 rfl rfl ?_
  refine ax_iloadn rfl rfl ?_
  refine ax_callV (as := [_]) rfl vX2_58 hX4_yOf rfl rfl rfl rfl rfl (c_H_yOf E (d + 1) M e (by omega) (by omega)) (av_Xk ?_)
  refine ax_isub rfl ?_
  refine ax_istore (ls' := [(0, _), (1, _), (2, _), (3, _), (4, _), (5, _)]) rfl rfl rfl ?_
  refine ax_iload rfl rfl ?_
  refine ax_i2l rfl (by omega) ?_
  refine ax_iload rfl rfl ?_
  refine ax_i2l rfl (by omega) ?_
  refine ax_callS (as := [_, _]) rfl sX2_61 hX7_gcd rfl rfl rfl rfl (c_G_gcd E d M _ _ (by omega) (by omega)) (av_Xk ?_)
  refine ax_l2i rfl ?_
  refine ax_istore (ls' := [(0, _), (1, _), (2, _), (3, _), (4, _), (5, _), (6, _)]) rfl rfl rfl ?_
  refine ax_iload rfl rfl ?_
  refine ax_if_ne rfl (by omega) (fun h61 => ?_) (fun h61 => ?_)
  · refine ax_iload rfl rfl ?_
    refine ax_iload rfl rfl ?_
    refine ax_idiv rfl (by omega) (by omega) (by omega) ?_
    refine ax_istore (ls' := [(0, _), (1, _), (2, _), (3, _), (4, _), (5, _), (6, _), (7, _)]) rfl rfl rfl ?_
    refine ax_iload rfl rfl ?_
    refine ax_ineg rfl ?_
    refine ax_iload rfl rfl ?_
    refine ax_idiv rfl (by omega) (by omega) (by omega) ?_
    refine ax_istore (ls' := [(0, _), (1, _), (2, _), (3, _), (4, _), (5, _), (6, _), (7, _), (8, _)]) rfl rfl rfl ?_
    refine ax_iloadn rfl rfl ?_
    refine ax_if_ne rfl (by omega) (fun h82 => ?_) (fun h82 => ?_)
    · refine ax_iloadn rfl rfl ?_
      refine ax_iconst rfl ?_
      refine ax_icmp_ne rfl (by omega) (by omega) (fun h90 => ?_) (fun h90 => ?_)
      · refine ax_iload rfl rfl ?_
        refine ax_aloadn rfl rfl ?_
        refine ax_getR rfl fX2_23 rfl rfl ?_
        refine ax_iloadn rfl rfl ?_
        refine ax_callV (as := [_]) rfl vX2_55 hX4_xOf rfl rfl rfl rfl rfl (c_H_xOf E (d + 1) M e (by omega) (by omega)) (av_Xk ?_)
        refine ax_imul rfl ?_
        refine ax_iload rfl rfl ?_
        refine ax_aloadn rfl rfl ?_
        refine ax_getR rfl fX2_23 rfl rfl ?_
        refine ax_iloadn rfl rfl ?_
        refine ax_callV (as := [_]) rfl vX2_58 hX4_yOf rfl rfl rfl rfl rfl (c_H_yOf E (d + 1) M e (by omega) (by omega)) (av_Xk ?_)
        refine ax_imul rfl ?_
        refine ax_iadd rfl ?_
        refine ax_iret rfl rfl ?_
        refine av_rI ?_
        unfold wq wP
        dsimp only
        (repeat' split) <;> first | rfl | omega
      · refine ax_iload rfl rfl ?_
        refine ax_goto rfl ?_
        refine ax_iret rfl rfl ?_
        refine av_rI ?_
        unfold wq wP
        dsimp only
        (repeat' split) <;> first | rfl | omega
    · refine ax_iload rfl rfl ?_
      refine ax_iret rfl rfl ?_
      refine av_rI ?_
      unfold wq wP
      dsimp only
      (repeat' split) <;> first | rfl | omega
  · refine ax_iconst rfl ?_
    refine ax_iret rfl rfl ?_
    refine av_rI ?_
    unfold wq wP
    dsimp only
    (repeat' split) <;> first | rfl | omega
set_option maxRecDepth 100000 in
set_option maxHeartbeats 800000 in
theorem c_X2_gap (E : av_E) (d : Nat) (M : av_M) (S : pt → Prop) (e c : Int) (hF : FO (M 5) (M 6) (M 7) (M 8) (M 4 4) (M 4 5) S) (he : 0 ≤ e ∧ e < (M 4 5)) (hc : 0 ≤ c ∧ c < (M 4 5)) : av_Mt E (d + 3) mX2_gap [vR 1, vI e, vI c] M (av_X (some (vI (gp (M 4 5) (fun k => M 5 (M 8 k)) (fun k => M 6 (M 8 k)) e c))) M) := by
  have hfb := FO_fb hF
  have q0 := hF.1.2.2.2.1 c hc.1 hc.2
  have n12 := hF.2.1
  have h12 := hfb.2.1
  refine av_enter hX2_gap oX2_gap rfl rfl ?_
  refine ax_aloadn rfl rfl ?_
  refine ax_iloadn rfl rfl ?_
  refine ax_iconst rfl ?_
  refine ax_callV (as := [_, _]) rfl vX2_65 hX2_wallPart rfl rfl rfl rfl rfl (c_X2_wallPart E d M S e 2 hF he (by omega)) (av_Xk ?_)
  refine ax_aloadn rfl rfl ?_
  refine ax_iloadn rfl rfl ?_
  refine ax_iconst rfl ?_
  refine ax_callV (as := [_, _]) rfl vX2_65 hX2_wallPart rfl rfl rfl rfl rfl (c_X2_wallPart E d M S e 0 hF he (by omega)) (av_Xk ?_)
  refine ax_aloadn rfl rfl ?_
  refine ax_getR rfl fX2_23 rfl rfl ?_
  refine ax_iloadn rfl rfl ?_
  refine ax_callV (as := [_]) rfl vX2_55 hX4_xOf rfl rfl rfl rfl rfl (c_H_xOf E (d + 2) M c (by omega) (by omega)) (av_Xk ?_)
  refine ax_imul rfl ?_
  refine ax_isub rfl ?_
  refine ax_aloadn rfl rfl ?_
  refine ax_iloadn rfl rfl ?_
  refine ax_iconst rfl ?_
  refine ax_callV (as := [_, _]) rfl vX2_65 hX2_wallPart rfl rfl rfl rfl rfl (c_X2_wallPart E d M S e 1 hF he (by omega)) (av_Xk ?_)
  refine ax_aloadn rfl rfl ?_
  refine ax_getR rfl fX2_23 rfl rfl ?_
  refine ax_iloadn rfl rfl ?_
  refine ax_callV (as := [_]) rfl vX2_58 hX4_yOf rfl rfl rfl rfl rfl (c_H_yOf E (d + 2) M c (by omega) (by omega)) (av_Xk ?_)
  refine ax_imul rfl ?_
  refine ax_isub rfl ?_
  refine ax_iret rfl rfl ?_
  exact av_rI rfl
set_option maxRecDepth 100000 in
set_option maxHeartbeats 800000 in
theorem c_X2_openPairs (E : av_E) (d : Nat) (M : av_M) (S : pt → Prop) (hF : FO (M 5) (M 6) (M 7) (M 8) (M 4 4) (M 4 5) S) : av_Mt E (d + 4) mX2_openPairs [vR 1] M (av_X (some (vI (isum (fun e => opS (M 4 5) (fun k => M 5 (M 8 k)) (fun k => M 6 (M 8 k)) e (M 4 5).toNat) (M 4 5).toNat))) M) := by
  have hfb := FO_fb hF
  have h0 := hfb.1
  have h12 := hfb.2.1
  have inner : ∀ (e : Int) (base : Int) (Q : Option av_V → av_M → Prop), 0 ≤ e → e < (M 4 5) → av_S E (d + 4) mX2_openPairs 46 [(0, vR 1), (1, vI (base + opS (M 4 5) (fun k => M 5 (M 8 k)) (fun k => M 6 (M 8 k)) e (M 4 5).toNat)), (2, vI e), (3, vI (M 4 5))] [] M Q → ∀ (t : Nat) (c : Int), c + t = (M 4 5) → 0 ≤ c → av_S E (d + 4) mX2_openPairs 17 [(0, vR 1), (1, vI (base + opS (M 4 5) (fun k => M 5 (M 8 k)) (fun k => M 6 (M 8 k)) e c.toNat)), (2, vI e), (3, vI c)] [] M Q := by
    intro e base Q e0 e1 hx t
    induction t with
    | zero =>
      intro c hc c0
      have ec : c = (M 4 5) := by omega
      subst ec
      refine ax_iloadn rfl rfl ?_
      refine ax_aloadn rfl rfl ?_
      refine ax_getR rfl fX2_23 rfl rfl ?_
      refine ax_callV (as := []) rfl vX2_31 hX4_size rfl rfl rfl rfl rfl (c_H_size E (d + 3) M) (av_Xk ?_)
      refine ax_icmp_ge rfl (by omega) (by omega) (fun h25 => ?_) (fun h25 => ?_)
      · exact hx
      · omega
    | succ t ih =>
      intro c hc c0
      have es : (c + 1).toNat = c.toNat + 1 := by omega
      have eo : opS (M 4 5) (fun k => M 5 (M 8 k)) (fun k => M 6 (M 8 k)) e (c.toNat + 1) = opS (M 4 5) (fun k => M 5 (M 8 k)) (fun k => M 6 (M 8 k)) e c.toNat + (if 0 < gp (M 4 5) (fun k => M 5 (M 8 k)) (fun k => M 6 (M 8 k)) e (c.toNat : Nat) then 1 else 0) := rfl
      rw [show ((c.toNat : Nat) : Int) = c by omega] at eo
      have rg := gp_rng hfb ⟨e0, e1⟩ ⟨c0, show c < (M 4 5) by omega⟩
      have := ih (c + 1) (by omega) (by omega)
      rw [es, eo, ← Int.add_assoc] at this
      refine ax_iloadn rfl rfl ?_
      refine ax_aloadn rfl rfl ?_
      refine ax_getR rfl fX2_23 rfl rfl ?_
      refine ax_callV (as := []) rfl vX2_31 hX4_size rfl rfl rfl rfl rfl (c_H_size E (d + 3) M) (av_Xk ?_)
      refine ax_icmp_ge rfl (by omega) (by omega) (fun h25 => ?_) (fun h25 => ?_)
      · omega
      · refine ax_aloadn rfl rfl ?_
        refine ax_iloadn rfl rfl ?_
        refine ax_iloadn rfl rfl ?_
        refine ax_callV (as := [_, _]) rfl vX2_69 hX2_gap rfl rfl rfl rfl rfl (c_X2_gap E d M S e c hF ⟨e0, e1⟩ ⟨c0, by omega⟩) (av_Xk ?_)
        refine ax_if_le rfl (by omega) (fun h34 => ?_) (fun h34 => ?_)
        · refine ax_iinc (ls' := [(0, _), (1, _), (2, _), (3, _)]) rfl rfl rfl rfl ?_
          refine ax_goto rfl ?_
          first
            | (rw [if_neg (by omega), Int.add_zero] at this; exact this)
            | (rw [if_pos (by omega)] at this; exact this)
        · refine ax_iinc (ls' := [(0, _), (1, _), (2, _), (3, _)]) rfl rfl rfl rfl ?_
          refine ax_iinc (ls' := [(0, _), (1, _), (2, _), (3, _)]) rfl rfl rfl rfl ?_
          refine ax_goto rfl ?_
          first
            | (rw [if_neg (by omega), Int.add_zero] at this; exact this)
            | (rw [if_pos (by omega)] at this; exact this)
  have outer : ∀ (t : Nat) (e : Int) (_u : Unit), e + t = (M 4 5) → 0 ≤ e → av_S E (d + 4) mX2_openPairs 4 [(0, vR 1), (1, vI (isum (fun e => opS (M 4 5) (fun k => M 5 (M 8 k)) (fun k => M 6 (M 8 k)) e (M 4 5).toNat) e.toNat)), (2, vI e)] [] M (av_X (some (vI (isum (fun e => opS (M 4 5) (fun k => M 5 (M 8 k)) (fun k => M 6 (M 8 k)) e (M 4 5).toNat) (M 4 5).toNat))) M) := by
    intro t
    induction t with
    | zero =>
      intro e _ he e0
      have ee : e = (M 4 5) := by omega
      subst ee
      refine ax_iloadn rfl rfl ?_
      refine ax_aloadn rfl rfl ?_
      refine ax_getR rfl fX2_23 rfl rfl ?_
      refine ax_callV (as := []) rfl vX2_31 hX4_size rfl rfl rfl rfl rfl (c_H_size E (d + 3) M) (av_Xk ?_)
      refine ax_icmp_ge rfl (by omega) (by omega) (fun h12 => ?_) (fun h12 => ?_)
      · refine ax_iloadn rfl rfl ?_
        refine ax_iret rfl rfl ?_
        exact av_rI rfl
      · omega
    | succ t ih =>
      intro e _ he e0
      have es : (e + 1).toNat = e.toNat + 1 := by omega
      have eo : isum (fun e => opS (M 4 5) (fun k => M 5 (M 8 k)) (fun k => M 6 (M 8 k)) e (M 4 5).toNat) (e.toNat + 1) = isum (fun e => opS (M 4 5) (fun k => M 5 (M 8 k)) (fun k => M 6 (M 8 k)) e (M 4 5).toNat) e.toNat + opS (M 4 5) (fun k => M 5 (M 8 k)) (fun k => M 6 (M 8 k)) (e.toNat : Nat) (M 4 5).toNat := rfl
      rw [show ((e.toNat : Nat) : Int) = e by omega] at eo
      have ih2 := ih (e + 1) () (by omega) (by omega)
      rw [es, eo] at ih2
      refine ax_iloadn rfl rfl ?_
      refine ax_aloadn rfl rfl ?_
      refine ax_getR rfl fX2_23 rfl rfl ?_
      refine ax_callV (as := []) rfl vX2_31 hX4_size rfl rfl rfl rfl rfl (c_H_size E (d + 3) M) (av_Xk ?_)
      refine ax_icmp_ge rfl (by omega) (by omega) (fun h12 => ?_) (fun h12 => ?_)
      · omega
      · refine ax_iconst rfl ?_
        refine ax_istoren (ls' := [(0, _), (1, _), (2, _), (3, _)]) rfl rfl rfl ?_
        have := inner e (isum (fun e => opS (M 4 5) (fun k => M 5 (M 8 k)) (fun k => M 6 (M 8 k)) e (M 4 5).toNat) e.toNat) (av_X (some (vI (isum (fun e => opS (M 4 5) (fun k => M 5 (M 8 k)) (fun k => M 6 (M 8 k)) e (M 4 5).toNat) (M 4 5).toNat))) M) e0 (by omega) (by
          refine ax_iinc (ls' := [(0, _), (1, _), (2, _), (3, _)]) rfl rfl rfl rfl ?_
          refine ax_goto rfl ?_
          refine ax_pick [0, 1, 2] rfl ?_
          exact ih2
          ) (M 4 5).toNat 0 (by omega) (by omega)
        simpa [opS, isum] using this
  refine av_enter hX2_openPairs oX2_openPairs rfl rfl ?_
  refine ax_iconst rfl ?_
  refine ax_istoren (ls' := [(0, _), (1, _)]) rfl rfl rfl ?_
  refine ax_iconst rfl ?_
  refine ax_istoren (ls' := [(0, _), (1, _), (2, _)]) rfl rfl rfl ?_
  exact outer (M 4 5).toNat 0 () (by omega) (by omega)
set_option maxRecDepth 100000 in
set_option maxHeartbeats 800000 in
theorem c_X2_twiceArea (E : av_E) (d : Nat) (M : av_M) (S : pt → Prop) (hF : FO (M 5) (M 6) (M 7) (M 8) (M 4 4) (M 4 5) S) : av_Mt E (d + 1) mX2_twiceArea [vR 1] M (av_X (some (vI (arS (M 4 5) (fun k => M 5 (M 8 k)) (fun k => M 6 (M 8 k)) (M 4 5).toNat))) M) := by
  have hfb := FO_fb hF
  have h0 := hfb.1
  have h12 := hfb.2.1
  have n12 := hF.2.1
  have hR := hF.1.2.2.2.1
  have loop : ∀ (t : Nat) (e : Int), e + t = (M 4 5) → 0 ≤ e → av_S E (d + 1) mX2_twiceArea 4 [(0, vR 1), (1, vI (arS (M 4 5) (fun k => M 5 (M 8 k)) (fun k => M 6 (M 8 k)) e.toNat)), (2, vI e)] [] M (av_X (some (vI (arS (M 4 5) (fun k => M 5 (M 8 k)) (fun k => M 6 (M 8 k)) (M 4 5).toNat))) M) := by
    intro t
    induction t with
    | zero =>
      intro e he e0
      have ee : e = (M 4 5) := by omega
      subst ee
      refine ax_iloadn rfl rfl ?_
      refine ax_aloadn rfl rfl ?_
      refine ax_getR rfl fX2_23 rfl rfl ?_
      refine ax_callV (as := []) rfl vX2_31 hX4_size rfl rfl rfl rfl rfl (c_H_size E d M) (av_Xk ?_)
      refine ax_icmp_ge rfl (by omega) (by omega) (fun h12 => ?_) (fun h12 => ?_)
      · refine ax_iloadn rfl rfl ?_
        refine ax_iret rfl rfl ?_
        exact av_rI rfl
      · omega
    | succ t ih =>
      intro e he e0
      have es : (e + 1).toNat = e.toNat + 1 := by omega
      have eo : arS (M 4 5) (fun k => M 5 (M 8 k)) (fun k => M 6 (M 8 k)) (e.toNat + 1) = arS (M 4 5) (fun k => M 5 (M 8 k)) (fun k => M 6 (M 8 k)) e.toNat + (M 5 (M 8 (e.toNat : Nat)) * M 6 (M 8 (nxI (M 4 5) (e.toNat : Nat))) - M 6 (M 8 (e.toNat : Nat)) * M 5 (M 8 (nxI (M 4 5) (e.toNat : Nat)))) := rfl
      rw [show ((e.toNat : Nat) : Int) = e by omega] at eo
      have ih2 := ih (e + 1) (by omega) (by omega)
      rw [es, eo] at ih2
      have nx := nxI_rng e0 (show e < (M 4 5) by omega)
      have q0 := hR e e0 (by omega)
      have q1 := hR _ nx.1 nx.2
      refine ax_iloadn rfl rfl ?_
      refine ax_aloadn rfl rfl ?_
      refine ax_getR rfl fX2_23 rfl rfl ?_
      refine ax_callV (as := []) rfl vX2_31 hX4_size rfl rfl rfl rfl rfl (c_H_size E d M) (av_Xk ?_)
      refine ax_icmp_ge rfl (by omega) (by omega) (fun h12 => ?_) (fun h12 => ?_)
      · omega
      · refine ax_aloadn rfl rfl ?_
        refine ax_getR rfl fX2_23 rfl rfl ?_
        refine ax_iloadn rfl rfl ?_
        refine ax_callV (as := [_]) rfl vX2_51 hX4_next rfl rfl rfl rfl rfl (c_H_next E d M e (by omega) (by omega)) (av_Xk ?_)
        refine (show av_S E (d + 1) mX2_twiceArea 23 _ [vI (nxI (M 4 5) e)] M _ from ?_)
        refine ax_istoren (ls' := [(0, _), (1, _), (2, _), (3, _)]) rfl rfl rfl ?_
        refine ax_iloadn rfl rfl ?_
        refine ax_aloadn rfl rfl ?_
        refine ax_getR rfl fX2_23 rfl rfl ?_
        refine ax_iloadn rfl rfl ?_
        refine ax_callV (as := [_]) rfl vX2_55 hX4_xOf rfl rfl rfl rfl rfl (c_H_xOf E d M e (by omega) (by omega)) (av_Xk ?_)
        refine ax_aloadn rfl rfl ?_
        refine ax_getR rfl fX2_23 rfl rfl ?_
        refine ax_iloadn rfl rfl ?_
        refine ax_callV (as := [_]) rfl vX2_58 hX4_yOf rfl rfl rfl rfl rfl (c_H_yOf E d M (nxI (M 4 5) e) (by omega) (by omega)) (av_Xk ?_)
        refine ax_imul rfl ?_
        refine ax_aloadn rfl rfl ?_
        refine ax_getR rfl fX2_23 rfl rfl ?_
        refine ax_iloadn rfl rfl ?_
        refine ax_callV (as := [_]) rfl vX2_58 hX4_yOf rfl rfl rfl rfl rfl (c_H_yOf E d M e (by omega) (by omega)) (av_Xk ?_)
        refine ax_aloadn rfl rfl ?_
        refine ax_getR rfl fX2_23 rfl rfl ?_
        refine ax_iloadn rfl rfl ?_
        refine ax_callV (as := [_]) rfl vX2_55 hX4_xOf rfl rfl rfl rfl rfl (c_H_xOf E d M (nxI (M 4 5) e) (by omega) (by omega)) (av_Xk ?_)
        refine ax_imul rfl ?_
        refine ax_isub rfl ?_
        refine ax_iadd rfl ?_
        refine ax_istoren (ls' := [(0, _), (1, _), (2, _), (3, _)]) rfl rfl rfl ?_
        refine ax_iinc (ls' := [(0, _), (1, _), (2, _), (3, _)]) rfl rfl rfl rfl ?_
        refine ax_goto rfl ?_
        refine ax_pick [0, 1, 2] rfl ?_
        exact ih2
  refine av_enter hX2_twiceArea oX2_twiceArea rfl rfl ?_
  refine ax_iconst rfl ?_
  refine ax_istoren (ls' := [(0, _), (1, _)]) rfl rfl rfl ?_
  refine ax_iconst rfl ?_
  refine ax_istoren (ls' := [(0, _), (1, _), (2, _)]) rfl rfl rfl ?_
  exact loop (M 4 5).toNat 0 (by omega) (by omega)
set_option maxRecDepth 100000 in
set_option maxHeartbeats 800000 in
theorem c_X2_greatest (E : av_E) (d : Nat) (M : av_M) (p q : Int) (hp : -99 ≤ p ∧ p ≤ 99) (hq : -99 ≤ q ∧ q ≤ 99) (hn : 1 ≤ M 1 3 ∧ M 1 3 ≤ 12) (hb : ∀ j, 0 ≤ j → j < M 1 3 → (-50 ≤ M 2 j ∧ M 2 j ≤ 50) ∧ (-50 ≤ M 3 j ∧ M 3 j ≤ 50)) : av_Mt E (d + 1) mX2_greatest [vR 1, vI p, vI q] M (av_X (some (vI (mxI (fun i => p * M 2 i + q * M 3 i) (M 1 3 - 1).toNat))) M) := by
  have one : ∀ j, 0 ≤ j → j < M 1 3 → -10000 ≤ p * M 2 j + q * M 3 j ∧ p * M 2 j + q * M 3 j ≤ 10000 := by
    intro j j0 j1
    have b := hb j j0 j1
    have m1 := mb hp b.1
    have m2 := mb hq b.2
    omega
  have all : ∀ k : Nat, (k : Int) < M 1 3 → -10000 ≤ mxI (fun i => p * M 2 i + q * M 3 i) k ∧ mxI (fun i => p * M 2 i + q * M 3 i) k ≤ 10000 := by
    intro k
    induction k with
    | zero => intro hk; exact one 0 (by omega) hk
    | succ k ih =>
      intro hk
      have a := ih (by omega)
      have b : -10000 ≤ (fun i => p * M 2 i + q * M 3 i) ((k + 1 : Nat) : Int) ∧ (fun i => p * M 2 i + q * M 3 i) ((k + 1 : Nat) : Int) ≤ 10000 := one _ (by omega) hk
      show -10000 ≤ max (mxI (fun i => p * M 2 i + q * M 3 i) k) ((fun i => p * M 2 i + q * M 3 i) ((k + 1 : Nat) : Int)) ∧ max (mxI (fun i => p * M 2 i + q * M 3 i) k) ((fun i => p * M 2 i + q * M 3 i) ((k + 1 : Nat) : Int)) ≤ 10000
      omega
  have loop : ∀ (t : Nat) (i : Int), i + t = M 1 3 → 1 ≤ i → av_S E (d + 1) mX2_greatest 21 [(0, vR 1), (1, vI p), (2, vI q), (3, vI (mxI (fun i => p * M 2 i + q * M 3 i) (i - 1).toNat)), (4, vI i)] [] M (av_X (some (vI (mxI (fun i => p * M 2 i + q * M 3 i) (M 1 3 - 1).toNat))) M) := by
    intro t
    induction t with
    | zero =>
      intro i hi i0
      have ei : i = M 1 3 := by omega
      subst ei
      refine ax_iload rfl rfl ?_
      refine ax_aloadn rfl rfl ?_
      refine ax_getI (g := 3) rfl fX2_27 rfl rfl rfl rfl ?_
      refine ax_icmp_ge rfl (by omega) (by omega) (fun h27 => ?_) (fun h27 => ?_)
      · refine ax_iloadn rfl rfl ?_
        refine ax_iret rfl rfl ?_
        exact av_rI rfl
      · omega
    | succ t ih =>
      intro i hi i0
      have ih2 := ih (i + 1) (by omega) (by omega)
      have es : (i + 1 - 1).toNat = (i - 1).toNat + 1 := by omega
      have eo : mxI (fun i => p * M 2 i + q * M 3 i) ((i - 1).toNat + 1) = max (mxI (fun i => p * M 2 i + q * M 3 i) (i - 1).toNat) (p * M 2 (((i - 1).toNat + 1 : Nat) : Int) + q * M 3 (((i - 1).toNat + 1 : Nat) : Int)) := rfl
      rw [show (((i - 1).toNat + 1 : Nat) : Int) = i by omega] at eo
      rw [es, eo] at ih2
      have r1 := one i (by omega) (by omega)
      have r2 := all (i - 1).toNat (by omega)
      refine ax_iload rfl rfl ?_
      refine ax_aloadn rfl rfl ?_
      refine ax_getI (g := 3) rfl fX2_27 rfl rfl rfl rfl ?_
      refine ax_icmp_ge rfl (by omega) (by omega) (fun h27 => ?_) (fun h27 => ?_)
      · omega
      · refine ax_iloadn rfl rfl ?_
        refine ax_iloadn rfl rfl ?_
        refine ax_aloadn rfl rfl ?_
        refine ax_getR rfl fX2_9 rfl rfl ?_
        refine ax_iload rfl rfl ?_
        refine ax_iald rfl rfl (by omega) ?_
        refine ax_imul rfl ?_
        refine ax_iloadn rfl rfl ?_
        refine ax_aloadn rfl rfl ?_
        refine ax_getR rfl fX2_15 rfl rfl ?_
        refine ax_iload rfl rfl ?_
        refine ax_iald rfl rfl (by omega) ?_
        refine ax_imul rfl ?_
        refine ax_iadd rfl ?_
        refine ax_max rfl (av_in (by decide +kernel) rfl) rfl (by omega) (by omega) ?_
        refine ax_istoren (ls' := [(0, _), (1, _), (2, _), (3, _), (4, _)]) rfl rfl rfl ?_
        refine ax_iinc (ls' := [(0, _), (1, _), (2, _), (3, _), (4, _)]) rfl rfl rfl rfl ?_
        refine ax_goto rfl ?_
        exact ih2
  refine av_enter hX2_greatest oX2_greatest rfl rfl ?_
  refine ax_iloadn rfl rfl ?_
  refine ax_aloadn rfl rfl ?_
  refine ax_getR rfl fX2_9 rfl rfl ?_
  refine ax_iconst rfl ?_
  refine ax_iald rfl rfl (by omega) ?_
  refine ax_imul rfl ?_
  refine ax_iloadn rfl rfl ?_
  refine ax_aloadn rfl rfl ?_
  refine ax_getR rfl fX2_15 rfl rfl ?_
  refine ax_iconst rfl ?_
  refine ax_iald rfl rfl (by omega) ?_
  refine ax_imul rfl ?_
  refine ax_iadd rfl ?_
  refine ax_istoren (ls' := [(0, _), (1, _), (2, _), (3, _)]) rfl rfl rfl ?_
  refine ax_iconst rfl ?_
  refine ax_istore (ls' := [(0, _), (1, _), (2, _), (3, _), (4, _)]) rfl rfl rfl ?_
  exact loop (M 1 3 - 1).toNat 1 (by omega) (by omega)
