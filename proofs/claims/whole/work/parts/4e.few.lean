/-! ===== how few blocks cover: by numbers ===== -/
def cvN (n : Nat) : Nat := [0, 0, 0, 3, 4, 5, 5, 6, 6].getD n 0
def witL (n : Nat) : List Nat := [[], [], [], [4, 131072, 256], [196608, 100663296, 2304, 12], [50528256, 25870467072, 51539607564, 1118464, 6168], [14392, 19791210479616, 555819264, 30182211584, 13245679140876], [288891273216, 13510798885269552, 3956102966280192, 30840, 10133099765563428, 18691698790656], [144600870354944, 8070450532255297648, 858993510600, 2170205055787991040, 9288674787270912, 4899916687777726532]].getD n []
def orL : List Nat → Nat
  | [] => 0
  | b :: l => b ||| orL l
def byt (b e : Nat) : Nat := b / 2 ^ (8 * e) % 256
def wOf (b : Nat) : Nat := byt b 0 ||| byt b 1 ||| byt b 2 ||| byt b 3 ||| byt b 4 ||| byt b 5 ||| byt b 6 ||| byt b 7
def rcB (n b : Nat) : Bool := (List.range 8).all (fun e => decide (byt b e = 0) || decide (byt b e = wOf b)) && decide (lft b (aoV n) = 0) && decide (b < 2 ^ 63)
theorem wit3 : ∀ n, n < 6 → 3 ≤ n → (witL n).length = cvN n ∧ (witL n).all (fun b => (blL n (2 ^ n)).elem b) = true ∧ lft (aoV n) (orL (witL n)) = 0 ∧ (blL n (2 ^ n)).all (rcB n) = true := by decide +kernel
theorem wit6 : (witL 6).length = cvN 6 ∧ (witL 6).all (fun b => (blL 6 (2 ^ 6)).elem b) = true ∧ lft (aoV 6) (orL (witL 6)) = 0 ∧ (blL 6 (2 ^ 6)).all (rcB 6) = true := by decide +kernel
theorem wit7 : (witL 7).length = cvN 7 ∧ (witL 7).all (fun b => (blL 7 (2 ^ 7)).elem b) = true ∧ lft (aoV 7) (orL (witL 7)) = 0 ∧ (blL 7 (2 ^ 7)).all (rcB 7) = true := by decide +kernel
theorem wit8 : (witL 8).length = cvN 8 ∧ (witL 8).all (fun b => (blL 8 (2 ^ 8)).elem b) = true ∧ lft (aoV 8) (orL (witL 8)) = 0 ∧ (blL 8 (2 ^ 8)).all (rcB 8) = true := by decide +kernel
theorem wit_all {n : Nat} (h3 : 3 ≤ n) (h8 : n ≤ 8) : (witL n).length = cvN n ∧ (witL n).all (fun b => (blL n (2 ^ n)).elem b) = true ∧ lft (aoV n) (orL (witL n)) = 0 ∧ (blL n (2 ^ n)).all (rcB n) = true := by
  rcases (show n < 6 ∨ n = 6 ∨ n = 7 ∨ n = 8 by omega) with q | q | q | q
  · exact wit3 n q h3
  · subst q; exact wit6
  · subst q; exact wit7
  · subst q; exact wit8
theorem orL_bit (j : Nat) : ∀ l : List Nat, (orL l).testBit j = true → ∃ b, b ∈ l ∧ b.testBit j = true := by
  intro l
  induction l with
  | nil => intro h; unfold orL at h; rw [Nat.zero_testBit] at h; cases h
  | cons a r ih =>
    intro h
    have h' : (a ||| orL r).testBit j = true := h
    rw [Nat.testBit_or, Bool.or_eq_true] at h'
    rcases h' with q | q
    · exact ⟨a, List.mem_cons_self, q⟩
    · obtain ⟨b, hb, hj⟩ := ih q
      exact ⟨b, List.mem_cons_of_mem _ hb, hj⟩
theorem cov_yes {n : Nat} (h3 : 3 ≤ n) (h8 : n ≤ 8) : CVr (blL n (2 ^ n)) (aoV n) (cvN n) 0 := by
  obtain ⟨w1, w2, w3, _⟩ := wit_all h3 h8
  refine ⟨witL n, by omega, fun b hb => ?_, fun j hj => Or.inr ?_⟩
  · have := List.all_eq_true.mp w2 b hb
    exact List.elem_iff.mp this
  · exact orL_bit j _ (lft_0.mp w3 j hj)
def badv (fs : List Nat) (v : Nat) : Bool := match fs with
  | [] => false
  | p :: r => r.any (fun c => Nat.beq (lft c (p ||| v)) 0)
def keepu (fs : List Nat) (v u : Nat) : Bool := !(Nat.beq (lft u v) 0) && (!(Nat.beq (lft v u) 0) && (match fs with
  | [] => true
  | p :: _ => !(Nat.beq (lft u (p ||| v)) 0)))
def srch : Nat → List Nat → List Nat → Bool
  | 0, _, _ => false
  | d + 1, cs, fs => cs.all (fun v => badv fs v || srch d (cs.filter (fun u => keepu fs v u)) (v :: fs))
def fsL (g : Nat → Nat) : Nat → List Nat
  | 0 => []
  | i + 1 => g i :: fsL g i
theorem fsL_mem (g : Nat → Nat) {c : Nat} : ∀ i, c ∈ fsL g i → ∃ j, j < i ∧ c = g j := by
  intro i
  induction i with
  | zero => intro h; exact absurd h List.not_mem_nil
  | succ i ih =>
    intro h
    rcases List.mem_cons.mp h with e | e
    · exact ⟨i, by omega, e⟩
    · obtain ⟨j, hj, q⟩ := ih e
      exact ⟨j, by omega, q⟩
theorem beq0 {x : Nat} : Nat.beq x 0 = true ↔ x = 0 := ⟨Nat.eq_of_beq_eq_true, fun h => by rw [h]; rfl⟩
theorem beq0f {x : Nat} (h : x ≠ 0) : Nat.beq x 0 = false := by
  cases q : Nat.beq x 0
  · rfl
  · exact absurd (beq0.mp q) h
theorem srch_no {m : Nat} {g : Nat → Nat} (hA : ∀ i j, i < m → j < m → i ≠ j → lft (g i) (g j) ≠ 0) (hB : ∀ e, e + 1 < m → ∀ c, c < m → c ≠ e → c ≠ e + 1 → lft (g c) (g e ||| g (e + 1)) ≠ 0) : ∀ d i cs, i + d = m → (∀ j, i ≤ j → j < m → g j ∈ cs) → srch d cs (fsL g i) = false := by
  intro d
  induction d with
  | zero => intro i cs _ _; rfl
  | succ d ih =>
    intro i cs hi hc
    cases q : srch (d + 1) cs (fsL g i)
    · rfl
    · exfalso
      have q1 : cs.all (fun v => badv (fsL g i) v || srch d (cs.filter (fun u => keepu (fsL g i) v u)) (v :: fsL g i)) = true := q
      have q2 := List.all_eq_true.mp q1 (g i) (hc i (Nat.le_refl _) (by omega))
      have hbad : badv (fsL g i) (g i) = false := by
        cases hi0 : i with
        | zero => rfl
        | succ e =>
          show (fsL g e).any (fun c => Nat.beq (lft c (g e ||| g (e + 1))) 0) = false
          rw [List.any_eq_false]
          intro c hcm
          obtain ⟨j, hj, ec⟩ := fsL_mem g e hcm
          rw [ec]
          have := beq0f (hB e (by omega) j (by omega) (by omega) (by omega))
          rw [this]
          decide
      rw [hbad, Bool.false_or] at q2
      have q3 := ih (i + 1) (cs.filter (fun u => keepu (fsL g i) (g i) u)) (by omega) (fun j j0 j1 => by
        rw [List.mem_filter]
        refine ⟨hc j (by omega) j1, ?_⟩
        have a1 := beq0f (hA j i (by omega) (by omega) (by omega))
        have a2 := beq0f (hA i j (by omega) (by omega) (by omega))
        unfold keepu
        rw [a1, a2]
        cases hi0 : i with
        | zero => rfl
        | succ e =>
          have a3 := beq0f (hB e (by omega) j (by omega) (by omega) (by omega))
          show (!false && (!false && !(Nat.beq (lft (g j) (g e ||| g (e + 1))) 0))) = true
          rw [a3]
          rfl)
      have q4 : srch d (cs.filter (fun u => keepu (fsL g i) (g i) u)) (g i :: fsL g i) = false := q3
      rw [q4] at q2
      cases q2
theorem sr3 : srch 3 (List.range 4) [] = true := by decide +kernel
theorem sr4 : srch 4 (List.range 8) [] = true := by decide +kernel
theorem sr5 : srch 5 (List.range 16) [] = true := by decide +kernel
theorem sr7 : srch 7 (List.range 32) [] = true := by decide +kernel
