/-! ===== how few blocks cover: by numbers, on ===== -/
def bs : List Nat → Nat → Nat
  | [], _ => 0
  | b :: l, c => 2 * bs l c + (if (wOf b).testBit c then 1 else 0)
theorem bs_lt (c : Nat) : ∀ l : List Nat, bs l c < 2 ^ l.length := by
  intro l
  induction l with
  | nil => exact Nat.pow_pos (by decide)
  | cons b r ih =>
    show 2 * bs r c + (if (wOf b).testBit c then 1 else 0) < 2 ^ (r.length + 1)
    rw [Nat.pow_succ]
    split <;> omega
theorem bs_bit (b : Nat) (l : List Nat) (c : Nat) : (bs (b :: l) c).testBit 0 = (wOf b).testBit c ∧ ∀ j, (bs (b :: l) c).testBit (j + 1) = (bs l c).testBit j := by
  have e : bs (b :: l) c = 2 * bs l c + (if (wOf b).testBit c then 1 else 0) := rfl
  constructor
  · rw [e, Nat.testBit_zero]
    cases h : (wOf b).testBit c
    · simp
    · simp
  · intro j
    rw [e, Nat.testBit_succ]
    congr 1
    split <;> omega
theorem bs_lft {c x y : Nat} : ∀ l : List Nat, (∃ b, b ∈ l ∧ (wOf b).testBit c = true ∧ (wOf b).testBit x = false ∧ (wOf b).testBit y = false) → ∃ j, (bs l c).testBit j = true ∧ (bs l x).testBit j = false ∧ (bs l y).testBit j = false := by
  intro l
  induction l with
  | nil => rintro ⟨b, hb, _⟩; exact absurd hb List.not_mem_nil
  | cons a r ih =>
    rintro ⟨b, hb, h1, h2, h3⟩
    rcases List.mem_cons.mp hb with e | e
    · subst e
      exact ⟨0, by rw [(bs_bit b r c).1]; exact h1, by rw [(bs_bit b r x).1]; exact h2, by rw [(bs_bit b r y).1]; exact h3⟩
    · obtain ⟨j, j1, j2, j3⟩ := ih ⟨b, e, h1, h2, h3⟩
      exact ⟨j + 1, by rw [(bs_bit a r c).2]; exact j1, by rw [(bs_bit a r x).2]; exact j2, by rw [(bs_bit a r y).2]; exact j3⟩
theorem byt_bit {b e c : Nat} (hc : c < 8) : (byt b e).testBit c = b.testBit (8 * e + c) := by
  unfold byt
  have : (256 : Nat) = 2 ^ 8 := by rfl
  rw [this, Nat.testBit_mod_two_pow, Nat.testBit_div_two_pow, decide_eq_true hc, Bool.true_and, Nat.add_comm]
theorem rc_use {n b e c x : Nat} (h : rcB n b = true) (he : e < 8) (hc : c < 8) (hb : b.testBit (8 * e + c) = true) (hx : x < 8) (hno : (aoV n).testBit (8 * e + x) = false) : (wOf b).testBit c = true ∧ (wOf b).testBit x = false := by
  unfold rcB at h
  rw [Bool.and_eq_true, Bool.and_eq_true] at h
  obtain ⟨⟨h1, h2⟩, _⟩ := h
  have h3 := List.all_eq_true.mp h1 e (List.mem_range.mpr he)
  have h4 := lft_0.mp (of_decide_eq_true h2)
  have bc : (byt b e).testBit c = true := by rw [byt_bit hc]; exact hb
  rw [Bool.or_eq_true, decide_eq_true_eq, decide_eq_true_eq] at h3
  have ew : byt b e = wOf b := by
    rcases h3 with q | q
    · rw [q, Nat.zero_testBit] at bc; cases bc
    · exact q
  rw [← ew]
  refine ⟨bc, ?_⟩
  rw [byt_bit hx]
  cases q : b.testBit (8 * e + x)
  · rfl
  · rw [h4 _ q] at hno; cases hno
theorem ao_at {n e c : Nat} (hn : n ≤ 8) (he : e < n) (hc : c < n) : (aoV n).testBit (8 * e + c) = opB n e c := by
  have := ao_bit n (by omega) (8 * e + c) (by omega)
  rw [this, show (8 * e + c) / 8 = e by omega, show (8 * e + c) % 8 = c by omega, decide_eq_true he, Bool.true_and]
def pickB (n : Nat) : Bool := (List.range n).all fun c => (List.range n).all fun c' => decide (c = c') || (List.range n).any (fun e => (decide (c' = e) || decide (c' = nx n e)) && decide (c ≠ e) && decide (c ≠ nx n e))
theorem pick_b : ∀ n, n < 9 → 3 ≤ n → pickB n = true := by decide +kernel
theorem pick_e (n : Nat) (hn : n < 9) (h3 : 3 ≤ n) (c : Nat) (hc : c < n) (c' : Nat) (hc' : c' < n) (hne : c ≠ c') : ∃ e, e < n ∧ (c' = e ∨ c' = nx n e) ∧ c ≠ e ∧ c ≠ nx n e := by
  have h1 := List.all_eq_true.mp (List.all_eq_true.mp (pick_b n hn h3) c (List.mem_range.mpr hc)) c' (List.mem_range.mpr hc')
  rw [Bool.or_eq_true] at h1
  have h2 : (List.range n).any (fun e => (decide (c' = e) || decide (c' = nx n e)) && decide (c ≠ e) && decide (c ≠ nx n e)) = true := by
    rcases h1 with q | q
    · exact absurd (of_decide_eq_true q) hne
    · exact q
  obtain ⟨e, he, hb⟩ := List.any_eq_true.mp h2
  rw [Bool.and_eq_true, Bool.and_eq_true, Bool.or_eq_true, decide_eq_true_eq, decide_eq_true_eq, decide_eq_true_eq, decide_eq_true_eq] at hb
  exact ⟨e, List.mem_range.mp he, hb.1.1, hb.1.2, hb.2⟩
theorem cov_no {n r m : Nat} (h3 : 3 ≤ n) (h8 : n ≤ 8) (hm : m ≤ n) (hs : srch m (List.range (2 ^ r)) [] = true) : ¬ CVr (blL n (2 ^ n)) (aoV n) r 0 := by
  rintro ⟨l, h1, h2, hc⟩
  obtain ⟨_, _, _, w4⟩ := wit_all h3 h8
  have key : ∀ e c, e < n → c < n → c ≠ e → c ≠ nx n e → ∃ j, (bs l c).testBit j = true ∧ (bs l e).testBit j = false ∧ (bs l (nx n e)).testBit j = false := by
    intro e c he hcn z1 z2
    have nxl : nx n e < n := by unfold nx; split <;> omega
    have ho : (aoV n).testBit (8 * e + c) = true := by
      rw [ao_at h8 he hcn]
      unfold opB
      rw [decide_eq_true hcn, decide_eq_false z1, decide_eq_false z2]
      rfl
    rcases hc _ ho with q | ⟨b, hb, hbj⟩
    · rw [Nat.zero_testBit] at q; cases q
    · have rb := List.all_eq_true.mp w4 b (h2 b hb)
      have no1 : (aoV n).testBit (8 * e + e) = false := by
        rw [ao_at h8 he he]
        unfold opB
        rw [decide_eq_true (rfl : e = e)]
        simp
      have no2 : (aoV n).testBit (8 * e + nx n e) = false := by
        rw [ao_at h8 he nxl]
        unfold opB
        rw [decide_eq_true (rfl : nx n e = nx n e)]
        simp
      have r1 := rc_use rb (by omega) (show c < 8 by omega) hbj (show e < 8 by omega) no1
      have r2 := rc_use rb (by omega) (show c < 8 by omega) hbj (show nx n e < 8 by omega) no2
      exact bs_lft l ⟨b, hb, r1.1, r1.2, r2.2⟩
  have lne : ∀ {a b : Nat}, (∃ j, a.testBit j = true ∧ b.testBit j = false) → lft a b ≠ 0 := by
    rintro a b ⟨j, q1, q2⟩ z
    rw [lft_0.mp z j q1] at q2
    cases q2
  have k1 := srch_no (m := m) (g := bs l) (fun i j hi hj hij => by
    obtain ⟨e, he, e1, e2, e3⟩ := pick_e n (by omega) h3 i (by omega) j (by omega) hij
    obtain ⟨t, t1, t2, t3⟩ := key e i he (by omega) e2 e3
    refine lne ⟨t, t1, ?_⟩
    rcases e1 with q | q
    · rw [q]; exact t2
    · rw [q]; exact t3) (fun e he c hcm z1 z2 => by
    have en : nx n e = e + 1 := by unfold nx; rw [if_pos (by omega)]
    obtain ⟨t, t1, t2, t3⟩ := key e c (by omega) (by omega) z1 (by rw [en]; exact z2)
    rw [en] at t3
    refine lne ⟨t, t1, ?_⟩
    rw [Nat.testBit_or, t2, t3]
    rfl) m 0 (List.range (2 ^ r)) (by omega) (fun j _ _ => List.mem_range.mpr (Nat.lt_of_lt_of_le (bs_lt j l) (Nat.pow_le_pow_right (by decide) h1)))
  have k2 : srch m (List.range (2 ^ r)) [] = false := k1
  rw [k2] at hs
  cases hs
theorem CVr_mono {L : List Nat} {ao r r' P : Nat} (h : CVr L ao r P) (q : r ≤ r') : CVr L ao r' P := by
  obtain ⟨l, h1, h2, h3⟩ := h
  exact ⟨l, by omega, h2, h3⟩
theorem cov_all {n : Nat} (h3 : 3 ≤ n) (h8 : n ≤ 8) (r : Nat) : CVr (blL n (2 ^ n)) (aoV n) r 0 ↔ cvN n ≤ r := by
  constructor
  · intro h
    apply Classical.byContradiction
    intro q
    rcases (show n = 3 ∨ n = 4 ∨ n = 5 ∨ n = 6 ∨ n = 7 ∨ n = 8 by omega) with e | e | e | e | e | e
    · subst e
      have c : cvN 3 = 3 := by rfl
      exact cov_no (by decide) (by decide) (by decide) sr3 (CVr_mono (r' := 2) h (by omega))
    · subst e
      have c : cvN 4 = 4 := by rfl
      exact cov_no (by decide) (by decide) (by decide) sr4 (CVr_mono (r' := 3) h (by omega))
    · subst e
      have c : cvN 5 = 5 := by rfl
      exact cov_no (by decide) (by decide) (by decide) sr5 (CVr_mono (r' := 4) h (by omega))
    · subst e
      have c : cvN 6 = 5 := by rfl
      exact cov_no (by decide) (by decide) (m := 5) (by decide) sr5 (CVr_mono (r' := 4) h (by omega))
    · subst e
      have c : cvN 7 = 6 := by rfl
      exact cov_no (by decide) (by decide) (m := 7) (by decide) sr7 (CVr_mono (r' := 5) h (by omega))
    · subst e
      have c : cvN 8 = 6 := by rfl
      exact cov_no (by decide) (by decide) (m := 7) (by decide) sr7 (CVr_mono (r' := 5) h (by omega))
  · intro h
    exact CVr_mono (cov_yes h3 h8) h
theorem cv_cov {n : Nat} (h8 : n ≤ 8) : av_cov (n : Int) = ((cvN n : Nat) : Int) := by
  rcases (show n = 0 ∨ n = 1 ∨ n = 2 ∨ n = 3 ∨ n = 4 ∨ n = 5 ∨ n = 6 ∨ n = 7 ∨ n = 8 by omega) with e | e | e | e | e | e | e | e | e <;> (subst e; rfl)
