/-! ===== the two objects seen as a memory of numbers; a method's run over it, without the machine ===== -/
abbrev av_M : Type := Nat → Int → Int
abbrev av_E : Type := Launch × va_G × (Nat → Nat) × (Nat → ClassId)
abbrev av_Ls : Type := List (Nat × av_V)
def av_c (E : av_E) (v : av_V) : Value := match v with
  | .inl z => .int (Int32.ofInt z)
  | .inr (.inl z) => .long (Int64.ofInt z)
  | .inr (.inr k) => .ref (E.2.2.1 k)
def av_cs (E : av_E) (st : List av_V) : List Value := st.map (av_c E)
def av_cl (E : av_E) (ls : av_Ls) : List (Nat × Value) := ls.map (fun q => (q.1, av_c E q.2))
def av_fv (E : av_E) (M : av_M) (k i : Nat) : Value := match av_rf k i with
  | some r => .ref (E.2.2.1 r)
  | none => bif av_lf k i then .long (Int64.ofInt (M k i)) else .int (Int32.ofInt (M k i))
def av_cell (E : av_E) (M : av_M) (k : Nat) : va_E := match av_ly k with
  | (0, n) => .inl (E.2.2.2 0, n, .inl fun j => Int32.ofInt (M k j))
  | (1, n) => .inl (E.2.2.2 1, n, .inr (.inl fun j => Int64.ofInt (M k j)))
  | (2, n) => .inl (E.2.2.2 2, n, .inl fun j => Int32.ofInt (M k j))
  | (ci + 3, n) => .inr (ci, (List.range n).map (av_fv E M k))
def av_ws (E : av_E) (M : av_M) : va_W := (List.range av_N).map fun k => (E.2.2.1 k, av_cell E M k)
def av_A (E : av_E) : Nat → Prop := fun q => ∃ k, k < av_N ∧ q = E.2.2.1 k
def av_inj (E : av_E) : Prop := ∀ i j, i < av_N → j < av_N → E.2.2.1 i = E.2.2.1 j → i = j
def av_tys (E : av_E) : List (ClassId × FieldType) := [(E.2.2.2 0, .int), (E.2.2.2 1, .long), (E.2.2.2 2, .boolean)]
def av_cov (z : Int) : Int := [0, 0, 0, 3, 4, 5, 5, 6, 6].getD z.toNat 0
def av_foo (z : Int) : Int := [0, 0, 0, 3, 4, 5, 4, 4, 4].getD z.toNat 0
def av_Zs (E : av_E) (U : State) (H : Heap) : Prop :=
  va_Z "GreaterBodies" "COVER_BY_CORNERS" "[I" (.ref (E.2.2.1 59)) (av_A E) U H ∧ va_T .int (E.2.2.1 59) 9 (fun j => .int (Int32.ofInt (av_cov j))) (av_A E) U H ∧
  va_Z "GreaterBodies" "FOOLS_BY_CORNERS" "[I" (.ref (E.2.2.1 60)) (av_A E) U H ∧ va_T .int (E.2.2.1 60) 9 (fun j => .int (Int32.ofInt (av_foo j))) (av_A E) U H
def av_Nw (U : State) : Prop := ∀ w ∈ av_NW, va_Nw w U
def av_U (E : av_E) (M : av_M) (U : State) : Prop := va_P E.2.1 vwCl (av_ws E M) U.heap ∧ va_K E.2.1 vwCl (av_tys E) U ∧ av_inj E ∧ av_Zs E U U.heap ∧ av_Nw U
def av_Cx (E : av_E) (d : Nat) (mi : av_mi) (p : Program) (R : Room) (s : State) (m : MethodId) (args : Array Value) (meth : Method) (c : Code) : Prop :=
  av_OK mi ∧ p.tables.exec = Jvm.exec ∧ c.code = mi.2.1 ∧ c.maxLocals = mi.2.2.1 ∧ meth.sig.returnType = mi.2.2.2.1 ∧ s.vm.findClass mi.1.cls = some m.cls ∧ (∀ w ∈ av_WT, w.before args s = true) ∧ meth.locks = false ∧ d ≤ R.frames ∧ 45 * d ≤ R.locals ∧ va_K E.2.1 vwCl (av_tys E) s ∧ av_inj E ∧ av_Zs E s s.heap ∧ av_Nw s
def av_Q (E : av_E) (Q : Option av_V → av_M → Prop) : Array Value → State → Outcome → State → Prop := fun _ st oc t =>
  (∃ (r : Option av_V) (M : av_M), oc = .returned (r.map (av_c E)) ∧ Q r M ∧ va_P E.2.1 vwCl (av_ws E M) t.heap) ∧ va_F (av_A E) st t
/-- the method mi, at pc with the locals ls and the stack st over the memory M, comes to its end with Q; d calls may stand open above it -/
def av_S (E : av_E) (d : Nat) (mi : av_mi) (pc : Nat) (ls : av_Ls) (st : List av_V) (M : av_M) (Q : Option av_V → av_M → Prop) : Prop :=
  ∀ (p : Program) (e : Env) (R : Room) (s : State) (m : MethodId) (args : Array Value) (below : List Frame) (meth : Method) (c : Code) (H : Heap) (locs : List Loc) (lsA : Array Slot),
    av_Cx E d mi p R s m args meth c → va_P E.2.1 vwCl (av_ws E M) H → va_S (av_A E) s.heap H locs → lv_has lsA mi.2.2.1 (av_cl E ls) →
    W p E.1 e R s m args below meth c H locs 0 0 (MQ below (av_Q E Q) args s 0 0 (av_A E)) (F0 m pc lsA (av_cs E st))
/-- the method's contract -/
def av_Mt (E : av_E) (d : Nat) (mi : av_mi) (as : List av_V) (M : av_M) (Q : Option av_V → av_M → Prop) : Prop :=
  Met E.1 mi.1 (Cond.code mi.1 mi.2.1 mi.2.2.1 mi.2.2.2.1 :: av_WT) { frames := d, cells := 0, slots := 0, locals := 45 * d } (va_Pc (av_cs E as) (av_U E M)) (av_Q E Q) 0 0 (av_A E)
/-- the result is r, the memory M1 -/
def av_X (r0 : Option av_V) (M1 : av_M) : Option av_V → av_M → Prop := fun r M => r = r0 ∧ M = M1
def av_up (M : av_M) (k : Nat) (z v : Int) : av_M := fun k' => if k' = k then (fun j => if j = z then v else M k j) else M k'
theorem av_up_ne {M : av_M} {k k' : Nat} {z v : Int} (h : k' ≠ k) : av_up M k z v k' = M k' := by simp [av_up, h]
theorem av_up_eq {M : av_M} {k : Nat} {z v : Int} : av_up M k z v k = fun j => if j = z then v else M k j := by simp [av_up]
theorem av_up_at {M : av_M} {k : Nat} {z v : Int} : av_up M k z v k z = v := by simp [av_up]
theorem av_up_off {M : av_M} {k : Nat} {z v j : Int} (h : j ≠ z) : av_up M k z v k j = M k j := by simp [av_up, h]
/-! the locals -/
def av_w2 (v : av_V) : Bool := match v with
  | .inr (.inl _) => true
  | _ => false
def av_ld : av_Ls → Nat → Option av_V
  | [], _ => none
  | q :: r, i => bif Nat.beq q.1 i then some q.2 else av_ld r i
def av_ins (i : Nat) (v : av_V) : av_Ls → av_Ls
  | [] => [(i, v)]
  | q :: r => bif Nat.blt q.1 i then q :: av_ins i v r else (i, v) :: q :: r
def av_kp (i : Nat) (v : av_V) (q : Nat × av_V) : Bool := !(Nat.beq q.1 i) && (!(Nat.beq (q.1 + 1) i && av_w2 q.2) && !(Nat.beq q.1 (i + 1) && av_w2 v))
def av_st (i : Nat) (v : av_V) (ls : av_Ls) : av_Ls := av_ins i v (ls.filter (av_kp i v))
def av_wd : List av_V → Nat
  | [] => 0
  | v :: r => (bif av_w2 v then 2 else 1) + av_wd r
def av_as : Nat → List av_V → av_Ls
  | _, [] => []
  | i, v :: vs => (i, v) :: av_as (bif av_w2 v then i + 2 else i + 1) vs
theorem av_cat (E : av_E) (v : av_V) : (av_c E v).category = bif av_w2 v then 2 else 1 := by
  rcases v with z | z | k <;> rfl
theorem av_ld_mem {ls : av_Ls} {i : Nat} {v : av_V} (h : av_ld ls i = some v) : (i, v) ∈ ls := by
  induction ls with
  | nil => cases h
  | cons q r ih =>
    unfold av_ld at h
    cases hb : Nat.beq q.1 i with
    | true =>
      rw [hb] at h
      have e1 : q.1 = i := Nat.eq_of_beq_eq_true hb
      have e2 : q.2 = v := Option.some.inj h
      rw [← e1, ← e2]; exact List.mem_cons_self
    | false => rw [hb] at h; exact List.mem_cons_of_mem _ (ih h)
theorem av_ins_mem {i : Nat} {v : av_V} {ls : av_Ls} {q : Nat × av_V} (h : q ∈ av_ins i v ls) : q = (i, v) ∨ q ∈ ls := by
  induction ls with
  | nil => exact Or.inl (List.mem_singleton.mp h)
  | cons a r ih =>
    unfold av_ins at h
    cases hb : Nat.blt a.1 i with
    | true =>
      rw [hb] at h
      rcases List.mem_cons.mp h with h | h
      · exact Or.inr (by rw [h]; exact List.mem_cons_self)
      · rcases ih h with h | h
        · exact Or.inl h
        · exact Or.inr (List.mem_cons_of_mem _ h)
    | false =>
      rw [hb] at h
      rcases List.mem_cons.mp h with h | h
      · exact Or.inl h
      · exact Or.inr h
theorem av_has_ld {E : av_E} {lsA : Array Slot} {n : Nat} {ls : av_Ls} (hl : lv_has lsA n (av_cl E ls)) {i : Nat} {v : av_V} (h : av_ld ls i = some v) : lsA[i]? = some (.val (av_c E v)) :=
  hl.2.2 (i, av_c E v) (List.mem_map.mpr ⟨(i, v), av_ld_mem h, rfl⟩)
theorem av_has_at {E : av_E} {ls : av_Ls} {i : Nat} {v : av_V} (h : av_ld ls i = some v) : ∃ k : Nat, (av_cl E ls)[k]? = some (i, av_c E v) :=
  List.getElem?_of_mem (List.mem_map.mpr ⟨(i, v), av_ld_mem h, rfl⟩)
theorem av_has_sub {E : av_E} {lsA : Array Slot} {n : Nat} {ls ls' : av_Ls} (hl : lv_has lsA n (av_cl E ls)) (h : ∀ q ∈ ls', q ∈ ls) : lv_has lsA n (av_cl E ls') :=
  ⟨hl.1, hl.2.1, fun q hq => by
    obtain ⟨a, ha, rfl⟩ := List.mem_map.mp hq
    exact hl.2.2 _ (List.mem_map.mpr ⟨a, h a ha, rfl⟩)⟩
theorem av_has_st1 {E : av_E} {lsA : Array Slot} {n i : Nat} {ls ls' : av_Ls} {v : av_V} (he : av_st i v ls = ls') (hv : av_w2 v = false)
    (hl : lv_has lsA n ((i, av_c E v) :: (av_cl E ls).filter (fun q => !(q.1 == i) && !(q.1 + 1 == i && q.2.category == 2)))) : lv_has lsA n (av_cl E ls') := by
  refine ⟨hl.1, hl.2.1, fun q hq => ?_⟩
  obtain ⟨a, ha, rfl⟩ := List.mem_map.mp hq
  rw [← he] at ha
  rcases av_ins_mem ha with h | h
  · rw [h]; exact hl.2.2 _ List.mem_cons_self
  · obtain ⟨h1, h2⟩ := List.mem_filter.mp h
    refine hl.2.2 _ (List.mem_cons_of_mem _ (List.mem_filter.mpr ⟨List.mem_map.mpr ⟨a, h1, rfl⟩, ?_⟩))
    unfold av_kp at h2
    simp only [hv, av_cat, Bool.and_false, Bool.not_false, Bool.and_true, Bool.and_eq_true, Bool.not_eq_true', Bool.and_eq_false_iff] at h2 ⊢
    obtain ⟨h3, h4⟩ := h2
    refine ⟨?_, ?_⟩
    · exact beq_eq_false_iff_ne.mpr (Nat.ne_of_beq_eq_false h3)
    · rcases h4 with h4 | h4
      · exact Or.inl (beq_eq_false_iff_ne.mpr (Nat.ne_of_beq_eq_false h4))
      · exact Or.inr (by rw [h4]; rfl)
theorem av_has_st2 {E : av_E} {lsA : Array Slot} {n i : Nat} {ls ls' : av_Ls} {v : av_V} (he : av_st i v ls = ls') (hv : av_w2 v = true)
    (hl : lv_has lsA n ((i, av_c E v) :: (av_cl E ls).filter (fun q => !(q.1 == i) && (!(q.1 == i + 1) && !(q.1 + 1 == i && q.2.category == 2))))) : lv_has lsA n (av_cl E ls') := by
  refine ⟨hl.1, hl.2.1, fun q hq => ?_⟩
  obtain ⟨a, ha, rfl⟩ := List.mem_map.mp hq
  rw [← he] at ha
  rcases av_ins_mem ha with h | h
  · rw [h]; exact hl.2.2 _ List.mem_cons_self
  · obtain ⟨h1, h2⟩ := List.mem_filter.mp h
    refine hl.2.2 _ (List.mem_cons_of_mem _ (List.mem_filter.mpr ⟨List.mem_map.mpr ⟨a, h1, rfl⟩, ?_⟩))
    unfold av_kp at h2
    simp only [hv, av_cat, Bool.and_true, Bool.and_eq_true, Bool.not_eq_true', Bool.and_eq_false_iff] at h2 ⊢
    obtain ⟨h3, h4, h5⟩ := h2
    refine ⟨?_, ?_, ?_⟩
    · exact beq_eq_false_iff_ne.mpr (Nat.ne_of_beq_eq_false h3)
    · exact beq_eq_false_iff_ne.mpr (Nat.ne_of_beq_eq_false h5)
    · rcases h4 with h4 | h4
      · exact Or.inl (beq_eq_false_iff_ne.mpr (Nat.ne_of_beq_eq_false h4))
      · exact Or.inr (by rw [h4]; rfl)
/-! the code -/
theorem av_lk_mem {T : av_T} {pc : Nat} {q : Instr × Nat × Nat} (h : av_lk T pc = some q) : (pc, q) ∈ T := by
  induction T with
  | nil => cases h
  | cons a r ih =>
    unfold av_lk at h
    cases hb : Nat.beq a.1 pc with
    | true =>
      rw [hb] at h
      have e1 : a.1 = pc := Nat.eq_of_beq_eq_true hb
      have e2 : a.2 = q := Option.some.inj h
      rw [← e1, ← e2]; exact List.mem_cons_self
    | false => rw [hb] at h; exact List.mem_cons_of_mem _ (ih h)
theorem av_at1 {mi : av_mi} {pc nx tg : Nat} {op : Instr} (h : av_OK mi) (hl : av_lk mi.2.2.2.2 pc = some (op, nx, tg)) : decode mi.2.1 pc = .ok (op, nx - pc) ∧ pc < nx ∧ (av_len op = 0 ∨ nx = pc + av_len op) ∧ ∀ o, av_tg op = some o → (pc : Int) + o = (tg : Int) := by
  have h1 := List.all_eq_true.mp h _ (av_lk_mem hl)
  unfold av_ok1 at h1
  simp only [Bool.and_eq_true, Bool.or_eq_true, decide_eq_true_eq] at h1
  obtain ⟨⟨⟨h1, h2⟩, h3⟩, h4⟩ := h1
  refine ⟨h1, Nat.le_of_ble_eq_true h2, ?_, fun o ho => ?_⟩
  · rcases h3 with h3 | h3
    · exact Or.inl (Nat.eq_of_beq_eq_true h3)
    · exact Or.inr (Nat.eq_of_beq_eq_true h3)
  · rw [ho] at h4
    exact of_decide_eq_true h4
theorem av_at {mi : av_mi} {pc nx tg n : Nat} {op : Instr} (h : av_OK mi) (hl : av_lk mi.2.2.2.2 pc = some (op, nx, tg)) (hn : av_len op = n + 1) : decode mi.2.1 pc = .ok (op, n + 1) ∧ nx = pc + (n + 1) := by
  obtain ⟨h1, h2, h3, -⟩ := av_at1 h hl
  rcases h3 with h3 | h3
  · omega
  · rw [hn] at h3
    exact ⟨by rw [h1, h3]; congr 2; omega, h3⟩
/-! the heap -/
theorem av_ws_get {E : av_E} {M : av_M} {k : Nat} (hk : k < av_N) : (av_ws E M)[k]? = some (E.2.2.1 k, av_cell E M k) := by
  simp [av_ws, List.getElem?_map, List.getElem?_range hk]
theorem av_ws_inv {E : av_E} {M : av_M} {k : Nat} {q : Nat × va_E} (h : (av_ws E M)[k]? = some q) : k < av_N ∧ q = (E.2.2.1 k, av_cell E M k) := by
  have hk : k < av_N := by
    have := (List.getElem?_eq_some_iff.mp h).1
    simpa [av_ws] using this
  exact ⟨hk, Option.some.inj (h.symm.trans (av_ws_get hk))⟩
theorem av_D_ws {E : av_E} (h : av_inj E) (M : av_M) : va_D (av_A E) (av_ws E M) := by
  refine ⟨fun i j p q hp hq e => ?_, fun k q hq => ?_⟩
  · obtain ⟨h1, rfl⟩ := av_ws_inv hp
    obtain ⟨h2, rfl⟩ := av_ws_inv hq
    exact h i j h1 h2 e
  · obtain ⟨h1, rfl⟩ := av_ws_inv hq
    exact ⟨k, h1, rfl⟩
theorem av_cell_congr {E : av_E} {M M' : av_M} {k : Nat} (h : M' k = M k) : av_cell E M' k = av_cell E M k := by
  unfold av_cell av_fv
  simp only [h]
theorem av_ws_set {E : av_E} {M M' : av_M} {k : Nat} {x : va_E} (hx : x = av_cell E M' k) (ho : ∀ j, j ≠ k → M' j = M j) : (av_ws E M).set k (E.2.2.1 k, x) = av_ws E M' := by
  apply List.ext_getElem?
  intro i
  rw [List.getElem?_set]
  by_cases hi : k = i
  · subst hi
    simp only [if_true]
    by_cases hk : k < av_N
    · rw [if_pos (by simpa [av_ws] using hk), av_ws_get hk, hx]
    · rw [if_neg (by simpa [av_ws] using hk)]
      symm
      rw [List.getElem?_eq_none_iff]
      simpa [av_ws] using Nat.le_of_not_lt hk
  · rw [if_neg hi]
    by_cases hk : i < av_N
    · rw [av_ws_get hk, av_ws_get hk, av_cell_congr (ho i fun q => hi q.symm)]
    · have e : ∀ M : av_M, (av_ws E M)[i]? = none := fun M => by
        rw [List.getElem?_eq_none_iff]
        simpa [av_ws] using Nat.le_of_not_lt hk
      rw [e, e]
theorem av_ly_all : ∀ k, k < av_N → (av_ly k).2 ≤ 1000 := by decide +kernel
theorem av_ly_len : av_LY.length = av_N := by decide +kernel
theorem av_ly_out {k : Nat} (h : ¬ k < av_N) : av_ly k = (0, 0) := by
  unfold av_ly
  rw [List.getD_eq_getElem?_getD, List.getElem?_eq_none (by rw [av_ly_len]; omega)]
  rfl
theorem av_ly_le (k : Nat) : (av_ly k).2 ≤ 1000 := by
  by_cases h : k < av_N
  · exact av_ly_all k h
  · rw [av_ly_out h]; exact Nat.zero_le _
theorem av_ly_in {k a n : Nat} (h : av_ly k = (a, n)) (h0 : 0 < a ∨ 0 < n) : k < av_N ∧ n ≤ 1000 := by
  refine ⟨?_, by have := av_ly_le k; rw [h] at this; exact this⟩
  apply Classical.byContradiction
  intro hk
  rw [av_ly_out hk] at h
  cases h
  omega
theorem av_to32 {z : Int} (h0 : -2147483648 ≤ z) (h1 : z < 2147483648) : (Int32.ofInt z).toInt = z := Int32.toInt_ofInt_of_le (by omega) (by omega)
theorem av_to64 {z : Int} (h0 : -9223372036854775808 ≤ z) (h1 : z < 9223372036854775808) : (Int64.ofInt z).toInt = z := Int64.toInt_ofInt_of_le (by omega) (by omega)
theorem av_vin {z : Int} {n : Nat} (hz : 0 ≤ z ∧ z < n) (hn : n ≤ 1000) : vp_in (Int32.ofInt z) n ∧ ((Int32.ofInt z).toNatClampNeg : Int) = z := by
  have e := av_to32 (z := z) (by omega) (by omega)
  refine ⟨vp_in_iff.mpr (by rw [e]; exact hz), ?_⟩
  have e2 : (Int32.ofInt z).toNatClampNeg = (Int32.ofInt z).toInt.toNat := rfl
  rw [e2, e]
  omega
theorem av_lt32 {x y : Int} (hx : -2147483648 ≤ x ∧ x < 2147483648) (hy : -2147483648 ≤ y ∧ y < 2147483648) : (Int32.ofInt x < Int32.ofInt y) ↔ x < y := by
  rw [Int32.lt_iff_toInt_lt, av_to32 hx.1 hx.2, av_to32 hy.1 hy.2]
theorem av_le32 {x y : Int} (hx : -2147483648 ≤ x ∧ x < 2147483648) (hy : -2147483648 ≤ y ∧ y < 2147483648) : (Int32.ofInt x ≤ Int32.ofInt y) ↔ x ≤ y := by
  rw [Int32.le_iff_toInt_le, av_to32 hx.1 hx.2, av_to32 hy.1 hy.2]
theorem av_eq32 {x y : Int} (hx : -2147483648 ≤ x ∧ x < 2147483648) (hy : -2147483648 ≤ y ∧ y < 2147483648) : (Int32.ofInt x = Int32.ofInt y) ↔ x = y := by
  rw [← Int32.toInt_inj, av_to32 hx.1 hx.2, av_to32 hy.1 hy.2]
theorem av_lt64 {x y : Int} (hx : -9223372036854775808 ≤ x ∧ x < 9223372036854775808) (hy : -9223372036854775808 ≤ y ∧ y < 9223372036854775808) : (Int64.ofInt x < Int64.ofInt y) ↔ x < y := by
  rw [Int64.lt_iff_toInt_lt, av_to64 hx.1 hx.2, av_to64 hy.1 hy.2]
theorem av_eq64 {x y : Int} (hx : -9223372036854775808 ≤ x ∧ x < 9223372036854775808) (hy : -9223372036854775808 ≤ y ∧ y < 9223372036854775808) : (Int64.ofInt x = Int64.ofInt y) ↔ x = y := by
  rw [← Int64.toInt_inj, av_to64 hx.1 hx.2, av_to64 hy.1 hy.2]
/-! ===== rules: one instruction each ===== -/
section AX
variable {E : av_E} {d : Nat} {mi : av_mi} {pc nx tg : Nat} {ls ls' : av_Ls} {st st' rest : List av_V} {M : av_M} {Q : Option av_V → av_M → Prop}
theorem ax_go {op : Instr} {n : Nat} (hi : av_lk mi.2.2.2.2 pc = some (op, nx, tg)) (hn : av_len op = n + 1)
    (row : ∀ (p : Program) (e : Env) (R : Room) (s : State) (m : MethodId) (args : Array Value) (below : List Frame) (meth : Method) (c : Code) (H : Heap) (locs : List Loc) (lsA : Array Slot) (Qm : State → Prop),
      av_Cx E d mi p R s m args meth c → decode mi.2.1 pc = .ok (op, n + 1) → lv_has lsA mi.2.2.1 (av_cl E ls) → va_P E.2.1 vwCl (av_ws E M) H → va_S (av_A E) s.heap H locs →
      W p E.1 e R s m args below meth c H locs 0 0 Qm (F0 m (pc + (n + 1)) lsA (av_cs E st')) → W p E.1 e R s m args below meth c H locs 0 0 Qm (F0 m pc lsA (av_cs E st)))
    (k : av_S E d mi nx ls st' M Q) : av_S E d mi pc ls st M Q := by
  intro p e R s m args below meth c H locs lsA C hP hS hl
  obtain ⟨hd, rfl⟩ := av_at C.1 hi hn
  exact row p e R s m args below meth c H locs lsA _ C hd hl hP hS (k p e R s m args below meth c H locs lsA C hP hS hl)
theorem av_Wst {p : Program} {l : Launch} {e : Env} {R : Room} {s : State} {m : MethodId} {args : Array Value} {below : List Frame} {meth : Method} {c : Code} {H : Heap} {locs : List Loc} {lsA : Array Slot} {Qm : State → Prop} {pc pc' : Nat} {s1 s2 : List Value} (k : W p l e R s m args below meth c H locs 0 0 Qm (F0 m pc lsA s1)) (h : s1 = s2) (hp : pc = pc') : W p l e R s m args below meth c H locs 0 0 Qm (F0 m pc' lsA s2) := by subst h; subst hp; exact k
theorem ax_iconst {z : Int} (hi : av_lk mi.2.2.2.2 pc = some (.iconst z, nx, tg)) (k : av_S E d mi nx ls (vI z :: st) M Q) : av_S E d mi pc ls st M Q :=
  ax_go (st' := (vI z :: st)) hi rfl (fun _ _ _ _ _ _ _ _ _ _ _ _ _ C hd _ _ _ k => lv_iconst C.2.1 C.2.2.1 hd rfl k) k
theorem ax_bipush {z : Int} (hi : av_lk mi.2.2.2.2 pc = some (.bipush z, nx, tg)) (hz : (Int8.ofInt z).toInt32 = Int32.ofInt z) (k : av_S E d mi nx ls (vI z :: st) M Q) : av_S E d mi pc ls st M Q :=
  ax_go (st' := (vI z :: st)) hi rfl (fun _ _ _ _ _ _ _ _ _ _ _ _ _ C hd _ _ _ k => lv_bipush C.2.1 C.2.2.1 hd hz k) k
theorem ax_sipush {z : Int} (hi : av_lk mi.2.2.2.2 pc = some (.sipush z, nx, tg)) (hz : (Int16.ofInt z).toInt32 = Int32.ofInt z) (k : av_S E d mi nx ls (vI z :: st) M Q) : av_S E d mi pc ls st M Q :=
  ax_go (st' := (vI z :: st)) hi rfl (fun _ _ _ _ _ _ _ _ _ _ _ _ _ C hd _ _ _ k => lv_sipush C.2.1 C.2.2.1 hd hz k) k
theorem ax_lconst {z : Fin 2} {w : Int} (hi : av_lk mi.2.2.2.2 pc = some (.lconst z, nx, tg)) (hz : Int64.ofNat (z : Nat) = Int64.ofInt w) (k : av_S E d mi nx ls (vL w :: st) M Q) : av_S E d mi pc ls st M Q :=
  ax_go (st' := (vL w :: st)) hi rfl (fun _ _ _ _ _ _ _ _ _ _ _ _ _ C hd _ _ _ k => lv_lconst C.2.1 C.2.2.1 hd hz k) k
theorem ax_ldc {ix : Nat} {v : Int32} {z : Int} (hi : av_lk mi.2.2.2.2 pc = some (.ldc ix, nx, tg)) (hc : Cond.constant mi.1.cls ix v ∈ av_WT) (hz : v = Int32.ofInt z) (k : av_S E d mi nx ls (vI z :: st) M Q) : av_S E d mi pc ls st M Q :=
  ax_go (st' := (vI z :: st)) hi rfl (fun _ _ _ _ _ _ _ _ _ _ _ _ _ C hd _ _ _ k => lv_ldc C.2.1 C.2.2.1 C.2.2.2.2.2.1 (C.2.2.2.2.2.2.1 _ hc) hd (by rw [hz]; exact k)) k
theorem ax_ldcw {ix : Nat} {v : Int32} {z : Int} (hi : av_lk mi.2.2.2.2 pc = some (.ldc_w ix, nx, tg)) (hc : Cond.constant mi.1.cls ix v ∈ av_WT) (hz : v = Int32.ofInt z) (k : av_S E d mi nx ls (vI z :: st) M Q) : av_S E d mi pc ls st M Q :=
  ax_go (st' := (vI z :: st)) hi rfl (fun _ _ _ _ _ _ _ _ _ _ _ _ _ C hd _ _ _ k => lv_ldcw C.2.1 C.2.2.1 C.2.2.2.2.2.1 (C.2.2.2.2.2.2.1 _ hc) hd (by rw [hz]; exact k)) k
theorem ax_ldc2 {ix : Nat} {v : Int64} {z : Int} (hi : av_lk mi.2.2.2.2 pc = some (.ldc2_w ix, nx, tg)) (hc : Cond.constantLong mi.1.cls ix v ∈ av_WT) (hz : v = Int64.ofInt z) (k : av_S E d mi nx ls (vL z :: st) M Q) : av_S E d mi pc ls st M Q :=
  ax_go (st' := (vL z :: st)) hi rfl (fun _ _ _ _ _ _ _ _ _ _ _ _ _ C hd _ _ _ k => lv_ldc2 C.2.1 C.2.2.1 C.2.2.2.2.2.1 (C.2.2.2.2.2.2.1 _ hc) hd (by rw [hz]; exact k)) k
-- loads
theorem ax_iloadn {i : Fin 4} {z : Int} (hi : av_lk mi.2.2.2.2 pc = some (.iload_n i, nx, tg)) (hl : av_ld ls (i : Nat) = some (vI z)) (k : av_S E d mi nx ls (vI z :: st) M Q) : av_S E d mi pc ls st M Q :=
  ax_go (st' := (vI z :: st)) hi rfl (fun _ _ _ _ _ _ _ _ _ _ _ _ _ C hd hL _ _ k => lv_iload_n C.2.1 C.2.2.1 hd rfl (av_has_ld hL hl) k) k
theorem ax_iload {i : Nat} {z : Int} (hi : av_lk mi.2.2.2.2 pc = some (.iload i, nx, tg)) (hl : av_ld ls i = some (vI z)) (k : av_S E d mi nx ls (vI z :: st) M Q) : av_S E d mi pc ls st M Q :=
  ax_go (st' := (vI z :: st)) hi rfl (fun _ _ _ _ _ _ _ _ _ _ _ _ _ C hd hL _ _ k => lv_iload C.2.1 C.2.2.1 hd (av_has_ld hL hl) k) k
theorem ax_lloadn {i : Fin 4} {z : Int} (hi : av_lk mi.2.2.2.2 pc = some (.lload_n i, nx, tg)) (hl : av_ld ls (i : Nat) = some (vL z)) (k : av_S E d mi nx ls (vL z :: st) M Q) : av_S E d mi pc ls st M Q :=
  ax_go (st' := (vL z :: st)) hi rfl (fun _ _ _ _ _ _ _ _ _ _ _ _ _ C hd hL _ _ k => lv_lload_n C.2.1 C.2.2.1 hd rfl (av_has_ld hL hl) k) k
theorem ax_lload {i : Nat} {z : Int} (hi : av_lk mi.2.2.2.2 pc = some (.lload i, nx, tg)) (hl : av_ld ls i = some (vL z)) (k : av_S E d mi nx ls (vL z :: st) M Q) : av_S E d mi pc ls st M Q :=
  ax_go (st' := (vL z :: st)) hi rfl (fun _ _ _ _ _ _ _ _ _ _ _ _ _ C hd hL _ _ k => lv_lload C.2.1 C.2.2.1 hd (av_has_ld hL hl) k) k
theorem ax_aloadn {i : Fin 4} {z : Nat} (hi : av_lk mi.2.2.2.2 pc = some (.aload_n i, nx, tg)) (hl : av_ld ls (i : Nat) = some (vR z)) (k : av_S E d mi nx ls (vR z :: st) M Q) : av_S E d mi pc ls st M Q :=
  ax_go (st' := (vR z :: st)) hi rfl (fun _ _ _ _ _ _ _ _ _ _ _ _ _ C hd hL _ _ k => lv_aload_n C.2.1 C.2.2.1 hd rfl (av_has_ld hL hl) k) k
theorem ax_aload {i : Nat} {z : Nat} (hi : av_lk mi.2.2.2.2 pc = some (.aload i, nx, tg)) (hl : av_ld ls i = some (vR z)) (k : av_S E d mi nx ls (vR z :: st) M Q) : av_S E d mi pc ls st M Q :=
  ax_go (st' := (vR z :: st)) hi rfl (fun _ _ _ _ _ _ _ _ _ _ _ _ _ C hd hL _ _ k => lv_aload C.2.1 C.2.2.1 hd (av_has_ld hL hl) k) k
-- stores
theorem ax_istoren {i : Fin 4} {z : Int} (hi : av_lk mi.2.2.2.2 pc = some (.istore_n i, nx, tg)) (hm : Nat.blt i mi.2.2.1 = true) (hl : av_st i (vI z) ls = ls') (k : av_S E d mi nx ls' st M Q) : av_S E d mi pc ls (vI z :: st) M Q := by
  intro p e R s m args below meth c H locs lsA C hP hS hL
  obtain ⟨hd, rfl⟩ := av_at (n := 0) C.1 hi rfl
  exact lv_istore_n C.2.1 C.2.2.1 hd rfl hL (Nat.le_of_ble_eq_true hm) rfl fun lsB hB => k p e R s m args below meth c H locs lsB C hP hS (av_has_st1 hl rfl hB)
theorem ax_istore {i : Nat} {z : Int} (hi : av_lk mi.2.2.2.2 pc = some (.istore i, nx, tg)) (hm : Nat.blt i mi.2.2.1 = true) (hl : av_st i (vI z) ls = ls') (k : av_S E d mi nx ls' st M Q) : av_S E d mi pc ls (vI z :: st) M Q := by
  intro p e R s m args below meth c H locs lsA C hP hS hL
  obtain ⟨hd, rfl⟩ := av_at (n := 1) C.1 hi rfl
  exact lv_istore C.2.1 C.2.2.1 hd hL (Nat.le_of_ble_eq_true hm) rfl fun lsB hB => k p e R s m args below meth c H locs lsB C hP hS (av_has_st1 hl rfl hB)
theorem ax_astore {i : Nat} {z : Nat} (hi : av_lk mi.2.2.2.2 pc = some (.astore i, nx, tg)) (hm : Nat.blt i mi.2.2.1 = true) (hl : av_st i (vR z) ls = ls') (k : av_S E d mi nx ls' st M Q) : av_S E d mi pc ls (vR z :: st) M Q := by
  intro p e R s m args below meth c H locs lsA C hP hS hL
  obtain ⟨hd, rfl⟩ := av_at (n := 1) C.1 hi rfl
  exact lv_astore C.2.1 C.2.2.1 hd hL (Nat.le_of_ble_eq_true hm) rfl fun lsB hB => k p e R s m args below meth c H locs lsB C hP hS (av_has_st1 hl rfl hB)
theorem ax_lstoren {i : Fin 4} {z : Int} (hi : av_lk mi.2.2.2.2 pc = some (.lstore_n i, nx, tg)) (hm : Nat.blt (i + 1) mi.2.2.1 = true) (hl : av_st i (vL z) ls = ls') (k : av_S E d mi nx ls' st M Q) : av_S E d mi pc ls (vL z :: st) M Q := by
  intro p e R s m args below meth c H locs lsA C hP hS hL
  obtain ⟨hd, rfl⟩ := av_at (n := 0) C.1 hi rfl
  exact lv_lstore_n C.2.1 C.2.2.1 hd rfl hL (Nat.le_of_ble_eq_true hm) rfl fun lsB hB => k p e R s m args below meth c H locs lsB C hP hS (av_has_st2 hl rfl hB)
theorem ax_lstore {i : Nat} {z : Int} (hi : av_lk mi.2.2.2.2 pc = some (.lstore i, nx, tg)) (hm : Nat.blt (i + 1) mi.2.2.1 = true) (hl : av_st i (vL z) ls = ls') (k : av_S E d mi nx ls' st M Q) : av_S E d mi pc ls (vL z :: st) M Q := by
  intro p e R s m args below meth c H locs lsA C hP hS hL
  obtain ⟨hd, rfl⟩ := av_at (n := 1) C.1 hi rfl
  exact lv_lstore C.2.1 C.2.2.1 hd hL (Nat.le_of_ble_eq_true hm) rfl fun lsB hB => k p e R s m args below meth c H locs lsB C hP hS (av_has_st2 hl rfl hB)
theorem ax_iinc {i : Nat} {n z : Int} (hi : av_lk mi.2.2.2.2 pc = some (.iinc i n, nx, tg)) (hm : Nat.blt i mi.2.2.1 = true) (h0 : av_ld ls i = some (vI z)) (hl : av_st i (vI (z + n)) ls = ls') (k : av_S E d mi nx ls' st M Q) : av_S E d mi pc ls st M Q := by
  intro p e R s m args below meth c H locs lsA C hP hS hL
  obtain ⟨hd, rfl⟩ := av_at (n := 2) C.1 hi rfl
  obtain ⟨kk, hk⟩ := av_has_at (E := E) h0
  refine lv_iinc (v := Int32.ofInt (z + n)) C.2.1 C.2.2.1 hd hL hk (Int32.ofInt_add z n).symm (Nat.le_of_ble_eq_true hm) rfl fun lsB hB => k p e R s m args below meth c H locs lsB C hP hS (av_has_st1 hl rfl hB)
/-- fewer locals -/
theorem ax_drop (h : ls'.all (fun q => ls.any (fun r => Nat.beq q.1 r.1)) = true → ∀ q ∈ ls', q ∈ ls) (k : (∀ q ∈ ls', q ∈ ls) → av_S E d mi pc ls' st M Q) (h0 : ls'.all (fun q => ls.any (fun r => Nat.beq q.1 r.1)) = true) : av_S E d mi pc ls st M Q := by
  intro p e R s m args below meth c H locs lsA C hP hS hL
  exact k (h h0) p e R s m args below meth c H locs lsA C hP hS (av_has_sub hL (h h0))
/-- fewer locals, by their places -/
theorem ax_pick (ks : List Nat) (h : ks.filterMap (fun i => ls[i]?) = ls') (k : av_S E d mi pc ls' st M Q) : av_S E d mi pc ls st M Q := by
  intro p e R s m args below meth c H locs lsA C hP hS hL
  refine k p e R s m args below meth c H locs lsA C hP hS (av_has_sub hL fun q hq => ?_)
  rw [← h] at hq
  obtain ⟨i, -, hi⟩ := List.mem_filterMap.mp hq
  exact List.mem_of_getElem? hi
-- arithmetic
theorem ax_iadd {x y : Int} (hi : av_lk mi.2.2.2.2 pc = some (.iadd, nx, tg)) (k : av_S E d mi nx ls (vI (x + y) :: st) M Q) : av_S E d mi pc ls (vI y :: vI x :: st) M Q :=
  ax_go (st' := (vI (x + y) :: st)) hi rfl (fun _ _ _ _ _ _ _ _ _ _ _ _ _ C hd _ _ _ k => lv_iadd C.2.1 C.2.2.1 hd (av_Wst k (by simp [av_cs, av_c]) rfl)) k
theorem ax_isub {x y : Int} (hi : av_lk mi.2.2.2.2 pc = some (.isub, nx, tg)) (k : av_S E d mi nx ls (vI (x - y) :: st) M Q) : av_S E d mi pc ls (vI y :: vI x :: st) M Q :=
  ax_go (st' := (vI (x - y) :: st)) hi rfl (fun _ _ _ _ _ _ _ _ _ _ _ _ _ C hd _ _ _ k => lv_isub C.2.1 C.2.2.1 hd (av_Wst k (by simp [av_cs, av_c]) rfl)) k
theorem ax_imul {x y : Int} (hi : av_lk mi.2.2.2.2 pc = some (.imul, nx, tg)) (k : av_S E d mi nx ls (vI (x * y) :: st) M Q) : av_S E d mi pc ls (vI y :: vI x :: st) M Q :=
  ax_go (st' := (vI (x * y) :: st)) hi rfl (fun _ _ _ _ _ _ _ _ _ _ _ _ _ C hd _ _ _ k => lv_imul C.2.1 C.2.2.1 hd (av_Wst k (by simp [av_cs, av_c]) rfl)) k
theorem ax_ineg {x : Int} (hi : av_lk mi.2.2.2.2 pc = some (.ineg, nx, tg)) (k : av_S E d mi nx ls (vI (-x) :: st) M Q) : av_S E d mi pc ls (vI x :: st) M Q :=
  ax_go (st' := (vI (-x) :: st)) hi rfl (fun _ _ _ _ _ _ _ _ _ _ _ _ _ C hd _ _ _ k => lv_ineg C.2.1 C.2.2.1 hd (av_Wst k (by simp [av_cs, av_c]) rfl)) k
theorem ax_ladd {x y : Int} (hi : av_lk mi.2.2.2.2 pc = some (.ladd, nx, tg)) (k : av_S E d mi nx ls (vL (x + y) :: st) M Q) : av_S E d mi pc ls (vL y :: vL x :: st) M Q :=
  ax_go (st' := (vL (x + y) :: st)) hi rfl (fun _ _ _ _ _ _ _ _ _ _ _ _ _ C hd _ _ _ k => lv_ladd C.2.1 C.2.2.1 hd (av_Wst k (by simp [av_cs, av_c]) rfl)) k
theorem ax_lsub {x y : Int} (hi : av_lk mi.2.2.2.2 pc = some (.lsub, nx, tg)) (k : av_S E d mi nx ls (vL (x - y) :: st) M Q) : av_S E d mi pc ls (vL y :: vL x :: st) M Q :=
  ax_go (st' := (vL (x - y) :: st)) hi rfl (fun _ _ _ _ _ _ _ _ _ _ _ _ _ C hd _ _ _ k => lv_lsub C.2.1 C.2.2.1 hd (av_Wst k (by simp [av_cs, av_c]) rfl)) k
theorem ax_lmul {x y : Int} (hi : av_lk mi.2.2.2.2 pc = some (.lmul, nx, tg)) (k : av_S E d mi nx ls (vL (x * y) :: st) M Q) : av_S E d mi pc ls (vL y :: vL x :: st) M Q :=
  ax_go (st' := (vL (x * y) :: st)) hi rfl (fun _ _ _ _ _ _ _ _ _ _ _ _ _ C hd _ _ _ k => lv_lmul C.2.1 C.2.2.1 hd (av_Wst k (by simp [av_cs, av_c]) rfl)) k
theorem ax_lneg {x : Int} (hi : av_lk mi.2.2.2.2 pc = some (.lneg, nx, tg)) (k : av_S E d mi nx ls (vL (-x) :: st) M Q) : av_S E d mi pc ls (vL x :: st) M Q :=
  ax_go (st' := (vL (-x) :: st)) hi rfl (fun _ _ _ _ _ _ _ _ _ _ _ _ _ C hd _ _ _ k => lv_lneg C.2.1 C.2.2.1 hd (av_Wst k (by simp [av_cs, av_c]) rfl)) k
theorem av_tdiv32 {x y : Int} (hx : -2147483648 ≤ x ∧ x < 2147483648) (hy : -2147483648 ≤ y ∧ y < 2147483648) : Int32.ofInt x / Int32.ofInt y = Int32.ofInt (x.tdiv y) := by
  apply Int32.toInt_inj.mp
  rw [Int32.toInt_div, av_to32 hx.1 hx.2, av_to32 hy.1 hy.2, Int32.toInt_ofInt]
theorem av_tdiv64 {x y : Int} (hx : -9223372036854775808 ≤ x ∧ x < 9223372036854775808) (hy : -9223372036854775808 ≤ y ∧ y < 9223372036854775808) : Int64.ofInt x / Int64.ofInt y = Int64.ofInt (x.tdiv y) := by
  apply Int64.toInt_inj.mp
  rw [Int64.toInt_div, av_to64 hx.1 hx.2, av_to64 hy.1 hy.2, Int64.toInt_ofInt]
theorem av_ne32 {y : Int} (hy : -2147483648 ≤ y ∧ y < 2147483648) (h0 : y ≠ 0) : ¬ Int32.ofInt y = 0 := fun h => h0 ((av_eq32 hy (by omega)).mp (h.trans (by rfl : (0 : Int32) = Int32.ofInt 0)))
theorem av_ne64 {y : Int} (hy : -9223372036854775808 ≤ y ∧ y < 9223372036854775808) (h0 : y ≠ 0) : ¬ Int64.ofInt y = 0 := fun h => h0 ((av_eq64 hy (by omega)).mp (h.trans (by rfl : (0 : Int64) = Int64.ofInt 0)))
theorem ax_idiv {x y : Int} (hi : av_lk mi.2.2.2.2 pc = some (.idiv, nx, tg)) (hx : -2147483648 ≤ x ∧ x < 2147483648) (hy : -2147483648 ≤ y ∧ y < 2147483648) (h0 : y ≠ 0) (k : av_S E d mi nx ls (vI (x.tdiv y) :: st) M Q) : av_S E d mi pc ls (vI y :: vI x :: st) M Q :=
  ax_go (st' := (vI (x.tdiv y) :: st)) hi rfl (fun _ _ _ _ _ _ _ _ _ _ _ _ _ C hd _ _ _ k => lv_idiv C.2.1 C.2.2.1 hd (av_ne32 hy h0) (av_Wst k (by simp [av_cs, av_c, av_tdiv32 hx hy]) rfl)) k
theorem ax_ldiv {x y : Int} (hi : av_lk mi.2.2.2.2 pc = some (.ldiv, nx, tg)) (hx : -9223372036854775808 ≤ x ∧ x < 9223372036854775808) (hy : -9223372036854775808 ≤ y ∧ y < 9223372036854775808) (h0 : y ≠ 0) (k : av_S E d mi nx ls (vL (x.tdiv y) :: st) M Q) : av_S E d mi pc ls (vL y :: vL x :: st) M Q :=
  ax_go (st' := (vL (x.tdiv y) :: st)) hi rfl (fun _ _ _ _ _ _ _ _ _ _ _ _ _ C hd _ _ _ k => lv_ldiv C.2.1 C.2.2.1 hd (av_ne64 hy h0) (av_Wst k (by simp [av_cs, av_c, av_tdiv64 hx hy]) rfl)) k
theorem av_trem {x y : Int} : x.tmod y = x - x.tdiv y * y := by
  have := Int.tmod_add_mul_tdiv x y
  rw [Int.mul_comm] at this
  omega
theorem ax_irem {x y : Int} (hi : av_lk mi.2.2.2.2 pc = some (.irem, nx, tg)) (hx : -2147483648 ≤ x ∧ x < 2147483648) (hy : -2147483648 ≤ y ∧ y < 2147483648) (h0 : y ≠ 0) (k : av_S E d mi nx ls (vI (x.tmod y) :: st) M Q) : av_S E d mi pc ls (vI y :: vI x :: st) M Q :=
  ax_go (st' := (vI (x.tmod y) :: st)) hi rfl (fun _ _ _ _ _ _ _ _ _ _ _ _ _ C hd _ _ _ k => lv_irem C.2.1 C.2.2.1 hd (av_ne32 hy h0) (av_Wst k (by simp [av_cs, av_c, av_tdiv32 hx hy, av_trem]) rfl)) k
theorem ax_lrem {x y : Int} (hi : av_lk mi.2.2.2.2 pc = some (.lrem, nx, tg)) (hx : -9223372036854775808 ≤ x ∧ x < 9223372036854775808) (hy : -9223372036854775808 ≤ y ∧ y < 9223372036854775808) (h0 : y ≠ 0) (k : av_S E d mi nx ls (vL (x.tmod y) :: st) M Q) : av_S E d mi pc ls (vL y :: vL x :: st) M Q :=
  ax_go (st' := (vL (x.tmod y) :: st)) hi rfl (fun _ _ _ _ _ _ _ _ _ _ _ _ _ C hd _ _ _ k => lv_lrem C.2.1 C.2.2.1 hd (av_ne64 hy h0) (av_Wst k (by simp [av_cs, av_c, av_tdiv64 hx hy, av_trem]) rfl)) k
-- bits
def bi_and (x y : Int) : Int := (Int32.ofInt x &&& Int32.ofInt y).toInt
def bi_or (x y : Int) : Int := (Int32.ofInt x ||| Int32.ofInt y).toInt
def bi_xor (x y : Int) : Int := (Int32.ofInt x ^^^ Int32.ofInt y).toInt
def bi_shl (x y : Int) : Int := (Int32.ofInt x <<< (Int32.ofInt y &&& 31)).toInt
def bi_shr (x y : Int) : Int := (Int32.ofInt x >>> (Int32.ofInt y &&& 31)).toInt
def bi_ushr (x y : Int) : Int := ((Int32.ofInt x).toUInt32 >>> ((Int32.ofInt y).toUInt32 &&& Int32.toUInt32 31)).toInt32.toInt
def bl_and (x y : Int) : Int := (Int64.ofInt x &&& Int64.ofInt y).toInt
def bl_or (x y : Int) : Int := (Int64.ofInt x ||| Int64.ofInt y).toInt
def bl_xor (x y : Int) : Int := (Int64.ofInt x ^^^ Int64.ofInt y).toInt
def bl_shl (x y : Int) : Int := (Int64.ofInt x <<< ((Int32.ofInt y).toInt64 &&& 63)).toInt
def bl_shr (x y : Int) : Int := (Int64.ofInt x >>> ((Int32.ofInt y).toInt64 &&& 63)).toInt
theorem ax_iand {x y : Int} (hi : av_lk mi.2.2.2.2 pc = some (.iand, nx, tg)) (k : av_S E d mi nx ls (vI (bi_and x y) :: st) M Q) : av_S E d mi pc ls (vI y :: vI x :: st) M Q :=
  ax_go (st' := (vI (bi_and x y) :: st)) hi rfl (fun _ _ _ _ _ _ _ _ _ _ _ _ _ C hd _ _ _ k => lv_iand C.2.1 C.2.2.1 hd (av_Wst k (by simp [av_cs, av_c, bi_and]) rfl)) k
theorem ax_ior {x y : Int} (hi : av_lk mi.2.2.2.2 pc = some (.ior, nx, tg)) (k : av_S E d mi nx ls (vI (bi_or x y) :: st) M Q) : av_S E d mi pc ls (vI y :: vI x :: st) M Q :=
  ax_go (st' := (vI (bi_or x y) :: st)) hi rfl (fun _ _ _ _ _ _ _ _ _ _ _ _ _ C hd _ _ _ k => lv_ior C.2.1 C.2.2.1 hd (av_Wst k (by simp [av_cs, av_c, bi_or]) rfl)) k
theorem ax_ixor {x y : Int} (hi : av_lk mi.2.2.2.2 pc = some (.ixor, nx, tg)) (k : av_S E d mi nx ls (vI (bi_xor x y) :: st) M Q) : av_S E d mi pc ls (vI y :: vI x :: st) M Q :=
  ax_go (st' := (vI (bi_xor x y) :: st)) hi rfl (fun _ _ _ _ _ _ _ _ _ _ _ _ _ C hd _ _ _ k => lv_ixor C.2.1 C.2.2.1 hd (av_Wst k (by simp [av_cs, av_c, bi_xor]) rfl)) k
theorem ax_ishl {x y : Int} (hi : av_lk mi.2.2.2.2 pc = some (.ishl, nx, tg)) (k : av_S E d mi nx ls (vI (bi_shl x y) :: st) M Q) : av_S E d mi pc ls (vI y :: vI x :: st) M Q :=
  ax_go (st' := (vI (bi_shl x y) :: st)) hi rfl (fun _ _ _ _ _ _ _ _ _ _ _ _ _ C hd _ _ _ k => lv_ishl C.2.1 C.2.2.1 hd (av_Wst k (by simp [av_cs, av_c, bi_shl]) rfl)) k
theorem ax_ishr {x y : Int} (hi : av_lk mi.2.2.2.2 pc = some (.ishr, nx, tg)) (k : av_S E d mi nx ls (vI (bi_shr x y) :: st) M Q) : av_S E d mi pc ls (vI y :: vI x :: st) M Q :=
  ax_go (st' := (vI (bi_shr x y) :: st)) hi rfl (fun _ _ _ _ _ _ _ _ _ _ _ _ _ C hd _ _ _ k => lv_ishr C.2.1 C.2.2.1 hd (av_Wst k (by simp [av_cs, av_c, bi_shr]) rfl)) k
theorem ax_iushr {x y : Int} (hi : av_lk mi.2.2.2.2 pc = some (.iushr, nx, tg)) (k : av_S E d mi nx ls (vI (bi_ushr x y) :: st) M Q) : av_S E d mi pc ls (vI y :: vI x :: st) M Q :=
  ax_go (st' := (vI (bi_ushr x y) :: st)) hi rfl (fun _ _ _ _ _ _ _ _ _ _ _ _ _ C hd _ _ _ k => lv_iushr C.2.1 C.2.2.1 hd rfl (av_Wst k (by simp [av_cs, av_c, bi_ushr]) rfl)) k
theorem ax_land {x y : Int} (hi : av_lk mi.2.2.2.2 pc = some (.land, nx, tg)) (k : av_S E d mi nx ls (vL (bl_and x y) :: st) M Q) : av_S E d mi pc ls (vL y :: vL x :: st) M Q :=
  ax_go (st' := (vL (bl_and x y) :: st)) hi rfl (fun _ _ _ _ _ _ _ _ _ _ _ _ _ C hd _ _ _ k => lv_land C.2.1 C.2.2.1 hd (av_Wst k (by simp [av_cs, av_c, bl_and]) rfl)) k
theorem ax_lor {x y : Int} (hi : av_lk mi.2.2.2.2 pc = some (.lor, nx, tg)) (k : av_S E d mi nx ls (vL (bl_or x y) :: st) M Q) : av_S E d mi pc ls (vL y :: vL x :: st) M Q :=
  ax_go (st' := (vL (bl_or x y) :: st)) hi rfl (fun _ _ _ _ _ _ _ _ _ _ _ _ _ C hd _ _ _ k => lv_lor C.2.1 C.2.2.1 hd (av_Wst k (by simp [av_cs, av_c, bl_or]) rfl)) k
theorem ax_lxor {x y : Int} (hi : av_lk mi.2.2.2.2 pc = some (.lxor, nx, tg)) (k : av_S E d mi nx ls (vL (bl_xor x y) :: st) M Q) : av_S E d mi pc ls (vL y :: vL x :: st) M Q :=
  ax_go (st' := (vL (bl_xor x y) :: st)) hi rfl (fun _ _ _ _ _ _ _ _ _ _ _ _ _ C hd _ _ _ k => lv_lxor C.2.1 C.2.2.1 hd (av_Wst k (by simp [av_cs, av_c, bl_xor]) rfl)) k
theorem ax_lshl {x y : Int} (hi : av_lk mi.2.2.2.2 pc = some (.lshl, nx, tg)) (k : av_S E d mi nx ls (vL (bl_shl x y) :: st) M Q) : av_S E d mi pc ls (vI y :: vL x :: st) M Q :=
  ax_go (st' := (vL (bl_shl x y) :: st)) hi rfl (fun _ _ _ _ _ _ _ _ _ _ _ _ _ C hd _ _ _ k => lv_lshl C.2.1 C.2.2.1 hd rfl (av_Wst k (by simp [av_cs, av_c, bl_shl]) rfl)) k
theorem ax_lshr {x y : Int} (hi : av_lk mi.2.2.2.2 pc = some (.lshr, nx, tg)) (k : av_S E d mi nx ls (vL (bl_shr x y) :: st) M Q) : av_S E d mi pc ls (vI y :: vL x :: st) M Q :=
  ax_go (st' := (vL (bl_shr x y) :: st)) hi rfl (fun _ _ _ _ _ _ _ _ _ _ _ _ _ C hd _ _ _ k => lv_lshr C.2.1 C.2.2.1 hd rfl (av_Wst k (by simp [av_cs, av_c, bl_shr]) rfl)) k
theorem ax_i2l {x : Int} (hi : av_lk mi.2.2.2.2 pc = some (.i2l, nx, tg)) (hx : -2147483648 ≤ x ∧ x < 2147483648) (k : av_S E d mi nx ls (vL x :: st) M Q) : av_S E d mi pc ls (vI x :: st) M Q :=
  ax_go (st' := (vL x :: st)) hi rfl (fun _ _ _ _ _ _ _ _ _ _ _ _ _ C hd _ _ _ k => lv_i2l C.2.1 C.2.2.1 hd (by apply Int64.toInt_inj.mp; rw [Int32.toInt_toInt64, av_to32 hx.1 hx.2, av_to64 (by omega) (by omega)]) k) k
theorem ax_l2i {x : Int} (hi : av_lk mi.2.2.2.2 pc = some (.l2i, nx, tg)) (k : av_S E d mi nx ls (vI x :: st) M Q) : av_S E d mi pc ls (vL x :: st) M Q :=
  ax_go (st' := (vI x :: st)) hi rfl (fun _ _ _ _ _ _ _ _ _ _ _ _ _ C hd _ _ _ k => lv_l2i C.2.1 C.2.2.1 hd Int64.toInt32_ofInt k) k
-- the stack
theorem ax_dup {v : av_V} (hi : av_lk mi.2.2.2.2 pc = some (.dup, nx, tg)) (hv : av_w2 v = false) (k : av_S E d mi nx ls (v :: v :: st) M Q) : av_S E d mi pc ls (v :: st) M Q :=
  ax_go (st' := (v :: v :: st)) hi rfl (fun _ _ _ _ _ _ _ _ _ _ _ _ _ C hd _ _ _ k => lv_dup C.2.1 C.2.2.1 hd (by rw [av_cat, hv]; rfl) k) k
theorem ax_dup2 {v w : av_V} (hi : av_lk mi.2.2.2.2 pc = some (.dup2, nx, tg)) (hv : av_w2 v = false) (hw : av_w2 w = false) (k : av_S E d mi nx ls (v :: w :: v :: w :: st) M Q) : av_S E d mi pc ls (v :: w :: st) M Q :=
  ax_go (st' := (v :: w :: v :: w :: st)) hi rfl (fun _ _ _ _ _ _ _ _ _ _ _ _ _ C hd _ _ _ k => lv_dup2_11 C.2.1 C.2.2.1 hd (by rw [av_cat, hv]; rfl) (by rw [av_cat, hw]; rfl) k) k
theorem ax_pop {v : av_V} (hi : av_lk mi.2.2.2.2 pc = some (.pop, nx, tg)) (hv : av_w2 v = false) (k : av_S E d mi nx ls st M Q) : av_S E d mi pc ls (v :: st) M Q :=
  ax_go (st' := st) hi rfl (fun _ _ _ _ _ _ _ _ _ _ _ _ _ C hd _ _ _ k => lv_pop C.2.1 C.2.2.1 hd (by rw [av_cat, hv]; rfl) k) k
-- branches
theorem ax_goto {o : Int} (hi : av_lk mi.2.2.2.2 pc = some (.goto o, nx, tg)) (k : av_S E d mi tg ls st M Q) : av_S E d mi pc ls st M Q := by
  intro p e R s m args below meth c H locs lsA C hP hS hL
  obtain ⟨hd, -⟩ := av_at (n := 2) C.1 hi rfl
  exact lv_goto C.2.1 C.2.2.1 hd ((av_at1 C.1 hi).2.2.2 _ rfl) (k p e R s m args below meth c H locs lsA C hP hS hL)
theorem ax_br {op : Instr} {o : Int} {P : Prop} (hi : av_lk mi.2.2.2.2 pc = some (op, nx, tg)) (hn : av_len op = 2 + 1) (ho : av_tg op = some o)
    (row : ∀ (p : Program) (e : Env) (R : Room) (s : State) (m : MethodId) (args : Array Value) (below : List Frame) (meth : Method) (c : Code) (H : Heap) (locs : List Loc) (lsA : Array Slot) (Qm : State → Prop),
      p.tables.exec = Jvm.exec → c.code = mi.2.1 → decode mi.2.1 pc = .ok (op, 2 + 1) → (pc : Int) + o = (tg : Int) →
      (P → W p E.1 e R s m args below meth c H locs 0 0 Qm (F0 m tg lsA (av_cs E st'))) → (¬ P → W p E.1 e R s m args below meth c H locs 0 0 Qm (F0 m (pc + 3) lsA (av_cs E st'))) → W p E.1 e R s m args below meth c H locs 0 0 Qm (F0 m pc lsA (av_cs E st)))
    (kt : P → av_S E d mi tg ls st' M Q) (kf : ¬ P → av_S E d mi nx ls st' M Q) : av_S E d mi pc ls st M Q := by
  intro p e R s m args below meth c H locs lsA C hP hS hL
  obtain ⟨hd, rfl⟩ := av_at (n := 2) C.1 hi hn
  exact row p e R s m args below meth c H locs lsA _ C.2.1 C.2.2.1 hd ((av_at1 C.1 hi).2.2.2 _ ho) (fun h => kt h p e R s m args below meth c H locs lsA C hP hS hL) (fun h => kf h p e R s m args below meth c H locs lsA C hP hS hL)
theorem ax_icmp_eq {x y : Int} {o : Int} (hi : av_lk mi.2.2.2.2 pc = some (.if_icmp .eq o, nx, tg)) (hx : -2147483648 ≤ x ∧ x < 2147483648) (hy : -2147483648 ≤ y ∧ y < 2147483648) (kt : x = y → av_S E d mi tg ls st M Q) (kf : ¬ (x = y) → av_S E d mi nx ls st M Q) : av_S E d mi pc ls (vI y :: vI x :: st) M Q :=
  ax_br hi rfl rfl (fun _ _ _ _ _ _ _ _ _ _ _ _ _ hx0 hb hd ht a b => lv_icmp_eq hx0 hb hd ht (fun h => a ((av_eq32 hx hy).mp h)) (fun h => b (fun q => h ((av_eq32 hx hy).mpr q)))) kt kf
theorem ax_icmp_ne {x y : Int} {o : Int} (hi : av_lk mi.2.2.2.2 pc = some (.if_icmp .ne o, nx, tg)) (hx : -2147483648 ≤ x ∧ x < 2147483648) (hy : -2147483648 ≤ y ∧ y < 2147483648) (kt : ¬ x = y → av_S E d mi tg ls st M Q) (kf : ¬ (¬ x = y) → av_S E d mi nx ls st M Q) : av_S E d mi pc ls (vI y :: vI x :: st) M Q :=
  ax_br hi rfl rfl (fun _ _ _ _ _ _ _ _ _ _ _ _ _ hx0 hb hd ht a b => lv_icmp_ne hx0 hb hd ht (fun h => a ((not_congr (av_eq32 hx hy)).mp h)) (fun h => b (fun q => q ((av_eq32 hx hy).mp h)))) kt kf
theorem ax_icmp_lt {x y : Int} {o : Int} (hi : av_lk mi.2.2.2.2 pc = some (.if_icmp .lt o, nx, tg)) (hx : -2147483648 ≤ x ∧ x < 2147483648) (hy : -2147483648 ≤ y ∧ y < 2147483648) (kt : x < y → av_S E d mi tg ls st M Q) (kf : ¬ (x < y) → av_S E d mi nx ls st M Q) : av_S E d mi pc ls (vI y :: vI x :: st) M Q :=
  ax_br hi rfl rfl (fun _ _ _ _ _ _ _ _ _ _ _ _ _ hx0 hb hd ht a b => lv_icmp_lt hx0 hb hd ht (fun h => a ((av_lt32 hx hy).mp h)) (fun h => b (fun q => h ((av_lt32 hx hy).mpr q)))) kt kf
theorem ax_icmp_ge {x y : Int} {o : Int} (hi : av_lk mi.2.2.2.2 pc = some (.if_icmp .ge o, nx, tg)) (hx : -2147483648 ≤ x ∧ x < 2147483648) (hy : -2147483648 ≤ y ∧ y < 2147483648) (kt : y ≤ x → av_S E d mi tg ls st M Q) (kf : ¬ (y ≤ x) → av_S E d mi nx ls st M Q) : av_S E d mi pc ls (vI y :: vI x :: st) M Q :=
  ax_br hi rfl rfl (fun _ _ _ _ _ _ _ _ _ _ _ _ _ hx0 hb hd ht a b => lv_icmp_ge hx0 hb hd ht (fun h => a ((av_le32 hy hx).mp h)) (fun h => b (fun q => h ((av_le32 hy hx).mpr q)))) kt kf
theorem ax_icmp_gt {x y : Int} {o : Int} (hi : av_lk mi.2.2.2.2 pc = some (.if_icmp .gt o, nx, tg)) (hx : -2147483648 ≤ x ∧ x < 2147483648) (hy : -2147483648 ≤ y ∧ y < 2147483648) (kt : y < x → av_S E d mi tg ls st M Q) (kf : ¬ (y < x) → av_S E d mi nx ls st M Q) : av_S E d mi pc ls (vI y :: vI x :: st) M Q :=
  ax_br hi rfl rfl (fun _ _ _ _ _ _ _ _ _ _ _ _ _ hx0 hb hd ht a b => lv_icmp_gt hx0 hb hd ht (fun h => a ((av_lt32 hy hx).mp h)) (fun h => b (fun q => h ((av_lt32 hy hx).mpr q)))) kt kf
theorem ax_icmp_le {x y : Int} {o : Int} (hi : av_lk mi.2.2.2.2 pc = some (.if_icmp .le o, nx, tg)) (hx : -2147483648 ≤ x ∧ x < 2147483648) (hy : -2147483648 ≤ y ∧ y < 2147483648) (kt : x ≤ y → av_S E d mi tg ls st M Q) (kf : ¬ (x ≤ y) → av_S E d mi nx ls st M Q) : av_S E d mi pc ls (vI y :: vI x :: st) M Q :=
  ax_br hi rfl rfl (fun _ _ _ _ _ _ _ _ _ _ _ _ _ hx0 hb hd ht a b => lv_icmp_le hx0 hb hd ht (fun h => a ((av_le32 hx hy).mp h)) (fun h => b (fun q => h ((av_le32 hx hy).mpr q)))) kt kf
theorem ax_if_eq {x : Int} {o : Int} (hi : av_lk mi.2.2.2.2 pc = some (.ifCond .eq o, nx, tg)) (hx : -2147483648 ≤ x ∧ x < 2147483648) (kt : x = 0 → av_S E d mi tg ls st M Q) (kf : ¬ (x = 0) → av_S E d mi nx ls st M Q) : av_S E d mi pc ls (vI x :: st) M Q :=
  ax_br hi rfl rfl (fun _ _ _ _ _ _ _ _ _ _ _ _ _ hx0 hb hd ht a b => lv_if_eq hx0 hb hd ht (fun h => a ((av_eq32 hx (show -2147483648 ≤ (0 : Int) ∧ (0 : Int) < 2147483648 by omega)).mp h)) (fun h => b (fun q => h ((av_eq32 hx (show -2147483648 ≤ (0 : Int) ∧ (0 : Int) < 2147483648 by omega)).mpr q)))) kt kf
theorem ax_if_ne {x : Int} {o : Int} (hi : av_lk mi.2.2.2.2 pc = some (.ifCond .ne o, nx, tg)) (hx : -2147483648 ≤ x ∧ x < 2147483648) (kt : ¬ x = 0 → av_S E d mi tg ls st M Q) (kf : ¬ (¬ x = 0) → av_S E d mi nx ls st M Q) : av_S E d mi pc ls (vI x :: st) M Q :=
  ax_br hi rfl rfl (fun _ _ _ _ _ _ _ _ _ _ _ _ _ hx0 hb hd ht a b => lv_if_ne hx0 hb hd ht (fun h => a ((not_congr (av_eq32 hx (show -2147483648 ≤ (0 : Int) ∧ (0 : Int) < 2147483648 by omega))).mp h)) (fun h => b (fun q => q ((av_eq32 hx (show -2147483648 ≤ (0 : Int) ∧ (0 : Int) < 2147483648 by omega)).mp h)))) kt kf
theorem ax_if_lt {x : Int} {o : Int} (hi : av_lk mi.2.2.2.2 pc = some (.ifCond .lt o, nx, tg)) (hx : -2147483648 ≤ x ∧ x < 2147483648) (kt : x < 0 → av_S E d mi tg ls st M Q) (kf : ¬ (x < 0) → av_S E d mi nx ls st M Q) : av_S E d mi pc ls (vI x :: st) M Q :=
  ax_br hi rfl rfl (fun _ _ _ _ _ _ _ _ _ _ _ _ _ hx0 hb hd ht a b => lv_if_lt hx0 hb hd ht (fun h => a ((av_lt32 hx (show -2147483648 ≤ (0 : Int) ∧ (0 : Int) < 2147483648 by omega)).mp h)) (fun h => b (fun q => h ((av_lt32 hx (show -2147483648 ≤ (0 : Int) ∧ (0 : Int) < 2147483648 by omega)).mpr q)))) kt kf
theorem ax_if_ge {x : Int} {o : Int} (hi : av_lk mi.2.2.2.2 pc = some (.ifCond .ge o, nx, tg)) (hx : -2147483648 ≤ x ∧ x < 2147483648) (kt : 0 ≤ x → av_S E d mi tg ls st M Q) (kf : ¬ (0 ≤ x) → av_S E d mi nx ls st M Q) : av_S E d mi pc ls (vI x :: st) M Q :=
  ax_br hi rfl rfl (fun _ _ _ _ _ _ _ _ _ _ _ _ _ hx0 hb hd ht a b => lv_if_ge hx0 hb hd ht (fun h => a ((av_le32 (show -2147483648 ≤ (0 : Int) ∧ (0 : Int) < 2147483648 by omega) hx).mp h)) (fun h => b (fun q => h ((av_le32 (show -2147483648 ≤ (0 : Int) ∧ (0 : Int) < 2147483648 by omega) hx).mpr q)))) kt kf
theorem ax_if_gt {x : Int} {o : Int} (hi : av_lk mi.2.2.2.2 pc = some (.ifCond .gt o, nx, tg)) (hx : -2147483648 ≤ x ∧ x < 2147483648) (kt : 0 < x → av_S E d mi tg ls st M Q) (kf : ¬ (0 < x) → av_S E d mi nx ls st M Q) : av_S E d mi pc ls (vI x :: st) M Q :=
  ax_br hi rfl rfl (fun _ _ _ _ _ _ _ _ _ _ _ _ _ hx0 hb hd ht a b => lv_if_gt hx0 hb hd ht (fun h => a ((av_lt32 (show -2147483648 ≤ (0 : Int) ∧ (0 : Int) < 2147483648 by omega) hx).mp h)) (fun h => b (fun q => h ((av_lt32 (show -2147483648 ≤ (0 : Int) ∧ (0 : Int) < 2147483648 by omega) hx).mpr q)))) kt kf
theorem ax_if_le {x : Int} {o : Int} (hi : av_lk mi.2.2.2.2 pc = some (.ifCond .le o, nx, tg)) (hx : -2147483648 ≤ x ∧ x < 2147483648) (kt : x ≤ 0 → av_S E d mi tg ls st M Q) (kf : ¬ (x ≤ 0) → av_S E d mi nx ls st M Q) : av_S E d mi pc ls (vI x :: st) M Q :=
  ax_br hi rfl rfl (fun _ _ _ _ _ _ _ _ _ _ _ _ _ hx0 hb hd ht a b => lv_if_le hx0 hb hd ht (fun h => a ((av_le32 hx (show -2147483648 ≤ (0 : Int) ∧ (0 : Int) < 2147483648 by omega)).mp h)) (fun h => b (fun q => h ((av_le32 hx (show -2147483648 ≤ (0 : Int) ∧ (0 : Int) < 2147483648 by omega)).mpr q)))) kt kf
theorem av_cmp64 {x y : Int} (hx : -9223372036854775808 ≤ x ∧ x < 9223372036854775808) (hy : -9223372036854775808 ≤ y ∧ y < 9223372036854775808) : lg_cmp (Int64.ofInt x) (Int64.ofInt y) = Int32.ofInt (if y < x then 1 else if x = y then 0 else -1) := by
  unfold lg_cmp
  simp only [gt_iff_lt, av_lt64 hy hx, av_eq64 hx hy]
  split
  · rfl
  · split <;> rfl
theorem ax_lcmp {x y : Int} (hi : av_lk mi.2.2.2.2 pc = some (.lcmp, nx, tg)) (hx : -9223372036854775808 ≤ x ∧ x < 9223372036854775808) (hy : -9223372036854775808 ≤ y ∧ y < 9223372036854775808) (k : av_S E d mi nx ls (vI (if y < x then 1 else if x = y then 0 else -1) :: st) M Q) : av_S E d mi pc ls (vL y :: vL x :: st) M Q :=
  ax_go (st' := vI (if y < x then 1 else if x = y then 0 else -1) :: st) hi rfl (fun _ _ _ _ _ _ _ _ _ _ _ _ _ C hd _ _ _ k => W.lcmp C.2.1 C.2.2.1 hd (av_Wst k (by simp only [av_cs, av_c, List.map_cons, av_cmp64 hx hy]) rfl)) k
theorem ax_lif_eq {x y : Int} {o : Int} {nx1 tg1 : Nat} (hi1 : av_lk mi.2.2.2.2 pc = some (.lcmp, nx1, tg1)) (hi : av_lk mi.2.2.2.2 nx1 = some (.ifCond .eq o, nx, tg)) (hx : -9223372036854775808 ≤ x ∧ x < 9223372036854775808) (hy : -9223372036854775808 ≤ y ∧ y < 9223372036854775808) (kt : x = y → av_S E d mi tg ls st M Q) (kf : ¬ (x = y) → av_S E d mi nx ls st M Q) : av_S E d mi pc ls (vL y :: vL x :: st) M Q := by
  refine ax_lcmp hi1 hx hy (ax_if_eq hi ?_ (fun h => kt ?_) (fun h => kf ?_))
  · split
    · omega
    · split <;> omega
  · revert h; split
    · intro h; omega
    · split <;> (intro h; omega)
  · revert h; split
    · intro h; omega
    · split <;> (intro h; omega)
theorem ax_lif_ne {x y : Int} {o : Int} {nx1 tg1 : Nat} (hi1 : av_lk mi.2.2.2.2 pc = some (.lcmp, nx1, tg1)) (hi : av_lk mi.2.2.2.2 nx1 = some (.ifCond .ne o, nx, tg)) (hx : -9223372036854775808 ≤ x ∧ x < 9223372036854775808) (hy : -9223372036854775808 ≤ y ∧ y < 9223372036854775808) (kt : ¬ x = y → av_S E d mi tg ls st M Q) (kf : ¬ (¬ x = y) → av_S E d mi nx ls st M Q) : av_S E d mi pc ls (vL y :: vL x :: st) M Q := by
  refine ax_lcmp hi1 hx hy (ax_if_ne hi ?_ (fun h => kt ?_) (fun h => kf ?_))
  · split
    · omega
    · split <;> omega
  · revert h; split
    · intro h; omega
    · split <;> (intro h; omega)
  · revert h; split
    · intro h; omega
    · split <;> (intro h; omega)
theorem ax_lif_lt {x y : Int} {o : Int} {nx1 tg1 : Nat} (hi1 : av_lk mi.2.2.2.2 pc = some (.lcmp, nx1, tg1)) (hi : av_lk mi.2.2.2.2 nx1 = some (.ifCond .lt o, nx, tg)) (hx : -9223372036854775808 ≤ x ∧ x < 9223372036854775808) (hy : -9223372036854775808 ≤ y ∧ y < 9223372036854775808) (kt : x < y → av_S E d mi tg ls st M Q) (kf : ¬ (x < y) → av_S E d mi nx ls st M Q) : av_S E d mi pc ls (vL y :: vL x :: st) M Q := by
  refine ax_lcmp hi1 hx hy (ax_if_lt hi ?_ (fun h => kt ?_) (fun h => kf ?_))
  · split
    · omega
    · split <;> omega
  · revert h; split
    · intro h; omega
    · split <;> (intro h; omega)
  · revert h; split
    · intro h; omega
    · split <;> (intro h; omega)
theorem ax_lif_ge {x y : Int} {o : Int} {nx1 tg1 : Nat} (hi1 : av_lk mi.2.2.2.2 pc = some (.lcmp, nx1, tg1)) (hi : av_lk mi.2.2.2.2 nx1 = some (.ifCond .ge o, nx, tg)) (hx : -9223372036854775808 ≤ x ∧ x < 9223372036854775808) (hy : -9223372036854775808 ≤ y ∧ y < 9223372036854775808) (kt : y ≤ x → av_S E d mi tg ls st M Q) (kf : ¬ (y ≤ x) → av_S E d mi nx ls st M Q) : av_S E d mi pc ls (vL y :: vL x :: st) M Q := by
  refine ax_lcmp hi1 hx hy (ax_if_ge hi ?_ (fun h => kt ?_) (fun h => kf ?_))
  · split
    · omega
    · split <;> omega
  · revert h; split
    · intro h; omega
    · split <;> (intro h; omega)
  · revert h; split
    · intro h; omega
    · split <;> (intro h; omega)
theorem ax_lif_gt {x y : Int} {o : Int} {nx1 tg1 : Nat} (hi1 : av_lk mi.2.2.2.2 pc = some (.lcmp, nx1, tg1)) (hi : av_lk mi.2.2.2.2 nx1 = some (.ifCond .gt o, nx, tg)) (hx : -9223372036854775808 ≤ x ∧ x < 9223372036854775808) (hy : -9223372036854775808 ≤ y ∧ y < 9223372036854775808) (kt : y < x → av_S E d mi tg ls st M Q) (kf : ¬ (y < x) → av_S E d mi nx ls st M Q) : av_S E d mi pc ls (vL y :: vL x :: st) M Q := by
  refine ax_lcmp hi1 hx hy (ax_if_gt hi ?_ (fun h => kt ?_) (fun h => kf ?_))
  · split
    · omega
    · split <;> omega
  · revert h; split
    · intro h; omega
    · split <;> (intro h; omega)
  · revert h; split
    · intro h; omega
    · split <;> (intro h; omega)
theorem ax_lif_le {x y : Int} {o : Int} {nx1 tg1 : Nat} (hi1 : av_lk mi.2.2.2.2 pc = some (.lcmp, nx1, tg1)) (hi : av_lk mi.2.2.2.2 nx1 = some (.ifCond .le o, nx, tg)) (hx : -9223372036854775808 ≤ x ∧ x < 9223372036854775808) (hy : -9223372036854775808 ≤ y ∧ y < 9223372036854775808) (kt : x ≤ y → av_S E d mi tg ls st M Q) (kf : ¬ (x ≤ y) → av_S E d mi nx ls st M Q) : av_S E d mi pc ls (vL y :: vL x :: st) M Q := by
  refine ax_lcmp hi1 hx hy (ax_if_le hi ?_ (fun h => kt ?_) (fun h => kf ?_))
  · split
    · omega
    · split <;> omega
  · revert h; split
    · intro h; omega
    · split <;> (intro h; omega)
  · revert h; split
    · intro h; omega
    · split <;> (intro h; omega)
-- fields
theorem av_fld_in {k i n : Nat} (hi : i < n) (E : av_E) (M : av_M) : ((List.range n).map (av_fv E M k))[i]? = some (av_fv E M k i) := by
  simp [List.getElem?_map, List.getElem?_range hi]
theorem av_cell_ob {E : av_E} {M : av_M} {k ci n : Nat} (h : av_ly k = (ci + 3, n)) : av_cell E M k = .inr (ci, (List.range n).map (av_fv E M k)) := by
  unfold av_cell
  rw [h]
theorem av_cl_N : ∀ ci C T N, vwCl[ci]? = some (C, T, N) → ∀ k n, av_ly k = (ci + 3, n) → n = N := by
  intro ci C T N h k n hk
  have hk1 := (av_ly_in hk (Or.inl (by omega))).1
  have h1 : ∀ k, k < av_N → ∀ q, vwCl[(av_ly k).1 - 3]? = some q → 3 ≤ (av_ly k).1 → (av_ly k).2 = q.2.2 := by
    intro k hk q hq h3
    have e : ∀ k, k < av_N → 3 ≤ (av_ly k).1 → (vwCl[(av_ly k).1 - 3]?).map (fun q => q.2.2) = some (av_ly k).2 := by decide +kernel
    have := e k hk h3
    rw [hq] at this
    exact (Option.some.inj this).symm
  have := h1 k hk1 (C, T, N) (by rw [hk]; exact h) (by rw [hk]; exact Nat.le_add_left _ _)
  rw [hk] at this
  exact this
theorem ax_get {ix ci f kk n : Nat} {v : av_V} (hi : av_lk mi.2.2.2.2 pc = some (.getfield ix, nx, tg)) (hf : av_fl mi.1.cls ix ci f) (hly : av_ly kk = (ci + 3, n)) (hv : av_fv E M kk f = av_c E v) (k : av_S E d mi nx ls (v :: st) M Q) : av_S E d mi pc ls (vR kk :: st) M Q := by
  refine ax_go hi rfl (fun p e R s m args below meth c H locs lsA Qm C hd hL hP hS k => ?_) k
  obtain ⟨ho, hx, hb, hml, hr, hown, hts, hlk, hfr, hlo, hK, hinj, hZ, hN⟩ := C
  obtain ⟨Cn, T, N, hc, hfN, hin, hlink⟩ := hf
  have hn := av_cl_N ci Cn T N hc kk n hly
  subst hn
  have hkN := (av_ly_in hly (Or.inl (by omega))).1
  have he : (av_ws E M)[kk]? = some (E.2.2.1 kk, .inr (ci, (List.range n).map (av_fv E M kk))) := by rw [av_ws_get hkN, av_cell_ob hly]
  rcases hlink with h | ⟨host, h⟩
  · exact va_get (D := E.2.1) (v := av_c E v) hx hb hts hin hown hK hP kk he hc f hfN (hts _ h) (fun _ h9 => h9) (by rw [av_fld_in hfN, hv]) hd k
  · exact va_getN (D := E.2.1) (v := av_c E v) (host := host) hx hb hts hin hown hK hP kk he hc f hfN (va_Nw.use rfl (hN _ h)) (fun _ h9 => h9) (by rw [av_fld_in hfN, hv]) hd k
theorem ax_getI {ix ci f kk n : Nat} {g : Int} (hi : av_lk mi.2.2.2.2 pc = some (.getfield ix, nx, tg)) (hf : av_fl mi.1.cls ix ci f) (hly : av_ly kk = (ci + 3, n)) (h1 : av_rf kk f = none) (h2 : av_lf kk f = false) (hg : (f : Int) = g) (k : av_S E d mi nx ls (vI (M kk g) :: st) M Q) : av_S E d mi pc ls (vR kk :: st) M Q :=
  ax_get hi hf hly (by unfold av_fv; rw [h1, h2, hg]; rfl) k
theorem ax_getL {ix ci f kk n : Nat} {g : Int} (hi : av_lk mi.2.2.2.2 pc = some (.getfield ix, nx, tg)) (hf : av_fl mi.1.cls ix ci f) (hly : av_ly kk = (ci + 3, n)) (h1 : av_rf kk f = none) (h2 : av_lf kk f = true) (hg : (f : Int) = g) (k : av_S E d mi nx ls (vL (M kk g) :: st) M Q) : av_S E d mi pc ls (vR kk :: st) M Q :=
  ax_get hi hf hly (by unfold av_fv; rw [h1, h2, hg]; rfl) k
theorem ax_getR {ix ci f kk n r : Nat} (hi : av_lk mi.2.2.2.2 pc = some (.getfield ix, nx, tg)) (hf : av_fl mi.1.cls ix ci f) (hly : av_ly kk = (ci + 3, n)) (h1 : av_rf kk f = some r) (k : av_S E d mi nx ls (vR r :: st) M Q) : av_S E d mi pc ls (vR kk :: st) M Q :=
  ax_get hi hf hly (by unfold av_fv; rw [h1]; rfl) k
theorem av_up_fs {E : av_E} {M : av_M} {kk f n : Nat} {z : Int} {x : Value} (h1 : av_rf kk f = none) (hx : x = bif av_lf kk f then .long (Int64.ofInt z) else .int (Int32.ofInt z)) : ((List.range n).map (av_fv E M kk)).set f x = (List.range n).map (av_fv E (av_up M kk f z) kk) := by
  apply List.ext_getElem?
  intro i
  rw [List.getElem?_set]
  by_cases hi : f = i
  · subst hi
    simp only [if_true]
    by_cases hn : f < n
    · rw [if_pos (by simpa using hn), av_fld_in hn]
      unfold av_fv
      rw [h1, av_up_at, hx]
    · rw [if_neg (by simpa using hn)]
      symm
      rw [List.getElem?_eq_none_iff]
      simpa using hn
  · rw [if_neg hi]
    by_cases hn : i < n
    · rw [av_fld_in hn, av_fld_in hn]
      unfold av_fv
      rw [av_up_off (by omega)]
    · have e : ∀ g : Nat → Value, ((List.range n).map g)[i]? = none := fun g => by
        rw [List.getElem?_eq_none_iff]
        simpa using hn
      rw [e, e]
theorem ax_put {ix ci f kk n : Nat} {v : av_V} {z : Int} {ty : FieldType} (hi : av_lk mi.2.2.2.2 pc = some (.putfield ix, nx, tg)) (hf : av_fp mi.1.cls ix ci f ty) (hly : av_ly kk = (ci + 3, n)) (h1 : av_rf kk f = none) (hv : av_c E v = bif av_lf kk f then .long (Int64.ofInt z) else .int (Int32.ofInt z)) (hn1 : narrow ty (av_c E v) = av_c E v) (hn2 : fits ty (av_c E v) = true)
    (k : av_S E d mi nx ls st (av_up M kk f z) Q) : av_S E d mi pc ls (v :: vR kk :: st) M Q := by
  intro p e R s m args below meth c H locs lsA C hP hS hL
  have C0 := C
  obtain ⟨ho, hx, hb, hml, hr, hown, hts, hlk, hfr, hlo, hK, hinj, hZ, hN⟩ := C
  obtain ⟨hd, rfl⟩ := av_at (n := 2) ho hi rfl
  obtain ⟨Cn, T, N, ty0, hc, hfN, hin, hlink, hty, hnm, hfin, hpty⟩ := hf
  have hn := av_cl_N ci Cn T N hc kk n hly
  subst hn
  have hkN := (av_ly_in hly (Or.inl (by omega))).1
  have he : (av_ws E M)[kk]? = some (E.2.2.1 kk, .inr (ci, (List.range n).map (av_fv E M kk))) := by rw [av_ws_get hkN, av_cell_ob hly]
  refine va_put (D := E.2.1) (v := av_c E v) (ty := ty) hx hb hts hin ty0 hty hnm hown hK hP (av_D_ws hinj M) hS kk he hc f hfN (hts _ hlink) (fun _ h9 => h9) hfin hpty hn1 hn2 (by simpa using hfN) hd (fun H1 locs1 hP1 hD1 hS1 => ?_)
  refine k p e R s m args below meth c H1 locs1 lsA C0 ?_ hS1 hL
  rw [← av_ws_set (M := M) (M' := av_up M kk f z) (k := kk) (x := .inr (ci, ((List.range n).map (av_fv E M kk)).set f (av_c E v))) ?_ (fun j hj => av_up_ne hj)]
  · exact hP1
  · rw [av_cell_ob hly, av_up_fs h1 hv]
theorem ax_putI {ix ci f kk n : Nat} {z : Int} (hi : av_lk mi.2.2.2.2 pc = some (.putfield ix, nx, tg)) (hf : av_fp mi.1.cls ix ci f .int) (hly : av_ly kk = (ci + 3, n)) (h1 : av_rf kk f = none) (h2 : av_lf kk f = false) (k : av_S E d mi nx ls st (av_up M kk f z) Q) : av_S E d mi pc ls (vI z :: vR kk :: st) M Q :=
  ax_put hi hf hly h1 (by rw [h2]; rfl) rfl rfl k
theorem ax_putL {ix ci f kk n : Nat} {z : Int} (hi : av_lk mi.2.2.2.2 pc = some (.putfield ix, nx, tg)) (hf : av_fp mi.1.cls ix ci f .long) (hly : av_ly kk = (ci + 3, n)) (h1 : av_rf kk f = none) (h2 : av_lf kk f = true) (k : av_S E d mi nx ls st (av_up M kk f z) Q) : av_S E d mi pc ls (vL z :: vR kk :: st) M Q :=
  ax_put hi hf hly h1 (by rw [h2]; rfl) rfl rfl k
theorem ax_putZ {ix ci f kk n : Nat} {z : Int} (hi : av_lk mi.2.2.2.2 pc = some (.putfield ix, nx, tg)) (hf : av_fp mi.1.cls ix ci f .boolean) (hly : av_ly kk = (ci + 3, n)) (h1 : av_rf kk f = none) (h2 : av_lf kk f = false) (hz : z = 0 ∨ z = 1) (k : av_S E d mi nx ls st (av_up M kk f z) Q) : av_S E d mi pc ls (vI z :: vR kk :: st) M Q := by
  rcases hz with rfl | rfl
  · exact ax_put hi hf hly h1 (by rw [h2]; rfl) rfl rfl k
  · exact ax_put hi hf hly h1 (by rw [h2]; rfl) rfl rfl k
-- arrays
theorem av_cell_0 {E : av_E} {M : av_M} {k n : Nat} (h : av_ly k = (0, n)) : av_cell E M k = .inl (E.2.2.2 0, n, .inl fun j => Int32.ofInt (M k j)) := by
  unfold av_cell
  rw [h]
theorem av_cell_1 {E : av_E} {M : av_M} {k n : Nat} (h : av_ly k = (1, n)) : av_cell E M k = .inl (E.2.2.2 1, n, .inr (.inl fun j => Int64.ofInt (M k j))) := by
  unfold av_cell
  rw [h]
theorem av_cell_2 {E : av_E} {M : av_M} {k n : Nat} (h : av_ly k = (2, n)) : av_cell E M k = .inl (E.2.2.2 2, n, .inl fun j => Int32.ofInt (M k j)) := by
  unfold av_cell
  rw [h]
theorem ax_iald {kk n : Nat} {z : Int} (hi : av_lk mi.2.2.2.2 pc = some (.iaload, nx, tg)) (hly : av_ly kk = (0, n)) (hz : 0 ≤ z ∧ z < n) (k : av_S E d mi nx ls (vI (M kk z) :: st) M Q) : av_S E d mi pc ls (vI z :: vR kk :: st) M Q := by
  refine ax_go hi rfl (fun p e R s m args below meth c H locs lsA Qm C hd hL hP hS k => ?_) k
  obtain ⟨ho, hx, hb, hml, hr, hown, hts, hlk, hfr, hlo, hK, hinj, hZ, hN⟩ := C
  obtain ⟨hkN, hn⟩ := av_ly_in hly (Or.inr (by omega))
  obtain ⟨h1, h2⟩ := av_vin hz hn
  exact va_iald (D := E.2.1) hx hb hK hP kk 0 (by rw [av_ws_get hkN, av_cell_0 hly]) rfl h1 hd (by rw [h2]; exact k)
theorem ax_lald {kk n : Nat} {z : Int} (hi : av_lk mi.2.2.2.2 pc = some (.laload, nx, tg)) (hly : av_ly kk = (1, n)) (hz : 0 ≤ z ∧ z < n) (k : av_S E d mi nx ls (vL (M kk z) :: st) M Q) : av_S E d mi pc ls (vI z :: vR kk :: st) M Q := by
  refine ax_go hi rfl (fun p e R s m args below meth c H locs lsA Qm C hd hL hP hS k => ?_) k
  obtain ⟨ho, hx, hb, hml, hr, hown, hts, hlk, hfr, hlo, hK, hinj, hZ, hN⟩ := C
  obtain ⟨hkN, hn⟩ := av_ly_in hly (Or.inr (by omega))
  obtain ⟨h1, h2⟩ := av_vin hz hn
  exact va_lald (D := E.2.1) hx hb hK hP kk 1 (by rw [av_ws_get hkN, av_cell_1 hly]) rfl h1 hd (by rw [h2]; exact k)
theorem ax_bald {kk n : Nat} {z : Int} (hi : av_lk mi.2.2.2.2 pc = some (.baload, nx, tg)) (hly : av_ly kk = (2, n)) (hz : 0 ≤ z ∧ z < n) (k : av_S E d mi nx ls (vI (M kk z) :: st) M Q) : av_S E d mi pc ls (vI z :: vR kk :: st) M Q := by
  refine ax_go hi rfl (fun p e R s m args below meth c H locs lsA Qm C hd hL hP hS k => ?_) k
  obtain ⟨ho, hx, hb, hml, hr, hown, hts, hlk, hfr, hlo, hK, hinj, hZ, hN⟩ := C
  obtain ⟨hkN, hn⟩ := av_ly_in hly (Or.inr (by omega))
  obtain ⟨h1, h2⟩ := av_vin hz hn
  exact va_zald (D := E.2.1) hx hb hK hP kk 2 (by rw [av_ws_get hkN, av_cell_2 hly]) rfl h1 hd (by rw [h2]; exact k)
theorem av_upf {M : av_M} {kk : Nat} {z x : Int} {j : Nat} (hj : (j : Int) = z) : (fun i : Nat => Int32.ofInt (av_up M kk z x kk i)) = upd (fun i : Nat => Int32.ofInt (M kk i)) j (Int32.ofInt x) := by
  funext i
  by_cases h : i = j
  · subst h; rw [hj, av_up_at, pk_us]
  · rw [av_up_off (by omega), pk_un h]
theorem av_upfL {M : av_M} {kk : Nat} {z x : Int} {j : Nat} (hj : (j : Int) = z) : (fun i : Nat => Int64.ofInt (av_up M kk z x kk i)) = vp_updL (fun i : Nat => Int64.ofInt (M kk i)) j (Int64.ofInt x) := by
  funext i
  by_cases h : i = j
  · subst h; rw [hj, av_up_at, pk_uLs]
  · rw [av_up_off (by omega), pk_uLn h]
theorem ax_iast {kk n : Nat} {z x : Int} (hi : av_lk mi.2.2.2.2 pc = some (.iastore, nx, tg)) (hly : av_ly kk = (0, n)) (hz : 0 ≤ z ∧ z < n) (k : av_S E d mi nx ls st (av_up M kk z x) Q) : av_S E d mi pc ls (vI x :: vI z :: vR kk :: st) M Q := by
  intro p e R s m args below meth c H locs lsA C hP hS hL
  have C0 := C
  obtain ⟨ho, hx, hb, hml, hr, hown, hts, hlk, hfr, hlo, hK, hinj, hZ, hN⟩ := C
  obtain ⟨hd, rfl⟩ := av_at (n := 0) ho hi rfl
  obtain ⟨hkN, hn⟩ := av_ly_in hly (Or.inr (by omega))
  obtain ⟨h1, h2⟩ := av_vin hz hn
  refine va_iast (D := E.2.1) hx hb hK hP (av_D_ws hinj M) hS kk 0 (by rw [av_ws_get hkN, av_cell_0 hly]) rfl h1 hd (fun H1 locs1 hP1 hD1 hS1 => ?_)
  refine k p e R s m args below meth c H1 locs1 lsA C0 ?_ hS1 hL
  rw [← av_ws_set (M := M) (M' := av_up M kk z x) (k := kk) ?_ (fun j hj => av_up_ne hj)]
  · exact hP1
  · rw [av_cell_0 hly, av_upf h2]
theorem ax_last {kk n : Nat} {z x : Int} (hi : av_lk mi.2.2.2.2 pc = some (.lastore, nx, tg)) (hly : av_ly kk = (1, n)) (hz : 0 ≤ z ∧ z < n) (k : av_S E d mi nx ls st (av_up M kk z x) Q) : av_S E d mi pc ls (vL x :: vI z :: vR kk :: st) M Q := by
  intro p e R s m args below meth c H locs lsA C hP hS hL
  have C0 := C
  obtain ⟨ho, hx, hb, hml, hr, hown, hts, hlk, hfr, hlo, hK, hinj, hZ, hN⟩ := C
  obtain ⟨hd, rfl⟩ := av_at (n := 0) ho hi rfl
  obtain ⟨hkN, hn⟩ := av_ly_in hly (Or.inr (by omega))
  obtain ⟨h1, h2⟩ := av_vin hz hn
  refine va_last (D := E.2.1) hx hb hK hP (av_D_ws hinj M) hS kk 1 (by rw [av_ws_get hkN, av_cell_1 hly]) rfl h1 hd (fun H1 locs1 hP1 hD1 hS1 => ?_)
  refine k p e R s m args below meth c H1 locs1 lsA C0 ?_ hS1 hL
  rw [← av_ws_set (M := M) (M' := av_up M kk z x) (k := kk) ?_ (fun j hj => av_up_ne hj)]
  · exact hP1
  · rw [av_cell_1 hly, av_upfL h2]
theorem ax_bast {kk n : Nat} {z x : Int} (hi : av_lk mi.2.2.2.2 pc = some (.bastore, nx, tg)) (hly : av_ly kk = (2, n)) (hz : 0 ≤ z ∧ z < n) (hb1 : x = 0 ∨ x = 1) (k : av_S E d mi nx ls st (av_up M kk z x) Q) : av_S E d mi pc ls (vI x :: vI z :: vR kk :: st) M Q := by
  intro p e R s m args below meth c H locs lsA C hP hS hL
  have C0 := C
  obtain ⟨ho, hx, hb, hml, hr, hown, hts, hlk, hfr, hlo, hK, hinj, hZ, hN⟩ := C
  obtain ⟨hd, rfl⟩ := av_at (n := 0) ho hi rfl
  obtain ⟨hkN, hn⟩ := av_ly_in hly (Or.inr (by omega))
  obtain ⟨h1, h2⟩ := av_vin hz hn
  refine va_zast (D := E.2.1) hx hb hK hP (av_D_ws hinj M) hS kk 2 (by rw [av_ws_get hkN, av_cell_2 hly]) rfl h1 hd (fun H1 locs1 hP1 hD1 hS1 => ?_)
  refine k p e R s m args below meth c H1 locs1 lsA C0 ?_ hS1 hL
  rw [← av_ws_set (M := M) (M' := av_up M kk z x) (k := kk) ?_ (fun j hj => av_up_ne hj)]
  · exact hP1
  · have e : vp_nar .boolean (Int32.ofInt x) = Int32.ofInt x := by
      rcases hb1 with rfl | rfl <;> rfl
    rw [av_cell_2 hly, av_upf h2, e]
-- the two static tables
theorem ax_gets0 (hi : av_lk mi.2.2.2.2 pc = some (.getstatic 104, nx, tg)) (hc : mi.1.cls = "GreaterBodies") (k : av_S E d mi nx ls (vR 59 :: st) M Q) : av_S E d mi pc ls st M Q := by
  refine ax_go hi rfl (fun p e R s m args below meth c H locs lsA Qm C hd hL hP hS k => ?_) k
  obtain ⟨ho, hx, hb, hml, hr, hown, hts, hlk, hfr, hlo, hK, hinj, hZ, hN⟩ := C
  exact va_gets hx hb hZ.1 hS hown (by rw [hc]; exact hts _ (av_in (by decide +kernel) rfl)) (fun _ h9 => h9) hd k
theorem ax_gets1 (hi : av_lk mi.2.2.2.2 pc = some (.getstatic 108, nx, tg)) (hc : mi.1.cls = "GreaterBodies") (k : av_S E d mi nx ls (vR 60 :: st) M Q) : av_S E d mi pc ls st M Q := by
  refine ax_go hi rfl (fun p e R s m args below meth c H locs lsA Qm C hd hL hP hS k => ?_) k
  obtain ⟨ho, hx, hb, hml, hr, hown, hts, hlk, hfr, hlo, hK, hinj, hZ, hN⟩ := C
  exact va_gets hx hb hZ.2.2.1 hS hown (by rw [hc]; exact hts _ (av_in (by decide +kernel) rfl)) (fun _ h9 => h9) hd k
theorem ax_sld0 {z : Int} (hi : av_lk mi.2.2.2.2 pc = some (.iaload, nx, tg)) (hz : 0 ≤ z ∧ z < 9) (k : av_S E d mi nx ls (vI (av_cov z) :: st) M Q) : av_S E d mi pc ls (vI z :: vR 59 :: st) M Q := by
  refine ax_go hi rfl (fun p e R s m args below meth c H locs lsA Qm C hd hL hP hS k => ?_) k
  obtain ⟨ho, hx, hb, hml, hr, hown, hts, hlk, hfr, hlo, hK, hinj, hZ, hN⟩ := C
  obtain ⟨h1, h2⟩ := av_vin (n := 9) hz (by omega)
  exact va_ti (v := .int (Int32.ofInt (av_cov z))) hx hb hZ.2.1 hS h1 (by rw [h2]) hd k
theorem ax_sld1 {z : Int} (hi : av_lk mi.2.2.2.2 pc = some (.iaload, nx, tg)) (hz : 0 ≤ z ∧ z < 9) (k : av_S E d mi nx ls (vI (av_foo z) :: st) M Q) : av_S E d mi pc ls (vI z :: vR 60 :: st) M Q := by
  refine ax_go hi rfl (fun p e R s m args below meth c H locs lsA Qm C hd hL hP hS k => ?_) k
  obtain ⟨ho, hx, hb, hml, hr, hown, hts, hlk, hfr, hlo, hK, hinj, hZ, hN⟩ := C
  obtain ⟨h1, h2⟩ := av_vin (n := 9) hz (by omega)
  exact va_ti (v := .int (Int32.ofInt (av_foo z))) hx hb hZ.2.2.2 hS h1 (by rw [h2]) hd k
-- returns
theorem av_ret {E : av_E} {Q : Option av_V → av_M → Prop} {r : Option av_V} {M : av_M} {s t : State} {H : Heap} {locs : List Loc} {args : Array Value} (h : Q r M) (hP : va_P E.2.1 vwCl (av_ws E M) H) (hS : va_S (av_A E) s.heap H locs) (ht : t.heap = H) : av_Q E Q args s (.returned (r.map (av_c E))) t :=
  ⟨⟨r, M, rfl, h, by rw [ht]; exact hP⟩, hS.F ht⟩
theorem ax_iret {z : Int} (hi : av_lk mi.2.2.2.2 pc = some (.ireturn, nx, tg)) (hr : mi.2.2.2.1 = some .int) (h : Q (some (vI z)) M) : av_S E d mi pc ls [vI z] M Q := by
  intro p e R s m args below meth c H locs lsA C hP hS hL
  obtain ⟨hd, rfl⟩ := av_at (n := 0) C.1 hi rfl
  exact W.iret C.2.1 C.2.2.1 (C.2.2.2.2.1.trans hr) (fun t ht _ => av_ret h hP hS ht) hS.2.2 hd (hlocks := C.2.2.2.2.2.2.2.1)
theorem ax_zret {z : Int} (hi : av_lk mi.2.2.2.2 pc = some (.ireturn, nx, tg)) (hr : mi.2.2.2.1 = some .boolean) (hz : z = 0 ∨ z = 1) (h : Q (some (vI z)) M) : av_S E d mi pc ls [vI z] M Q := by
  intro p e R s m args below meth c H locs lsA C hP hS hL
  obtain ⟨hd, rfl⟩ := av_at (n := 0) C.1 hi rfl
  exact W.zret C.2.1 C.2.2.1 (C.2.2.2.2.1.trans hr) (by rcases hz with rfl | rfl <;> rfl) (fun t ht _ => av_ret h hP hS ht) hS.2.2 hd (hlocks := C.2.2.2.2.2.2.2.1)
theorem ax_lret {z : Int} (hi : av_lk mi.2.2.2.2 pc = some (.lreturn, nx, tg)) (hr : mi.2.2.2.1 = some .long) (h : Q (some (vL z)) M) : av_S E d mi pc ls [vL z] M Q := by
  intro p e R s m args below meth c H locs lsA C hP hS hL
  obtain ⟨hd, rfl⟩ := av_at (n := 0) C.1 hi rfl
  exact W.lret C.2.1 C.2.2.1 (C.2.2.2.2.1.trans hr) (fun t ht _ => av_ret h hP hS ht) hS.2.2 hd (hlocks := C.2.2.2.2.2.2.2.1)
theorem ax_aret {z : Nat} {n : String} (hi : av_lk mi.2.2.2.2 pc = some (.areturn, nx, tg)) (hr : mi.2.2.2.1 = some (.object n)) (h : Q (some (vR z)) M) : av_S E d mi pc ls [vR z] M Q := by
  intro p e R s m args below meth c H locs lsA C hP hS hL
  obtain ⟨hd, rfl⟩ := av_at (n := 0) C.1 hi rfl
  exact W.aret C.2.1 C.2.2.1 (C.2.2.2.2.1.trans hr) (Or.inl ⟨_, rfl⟩) (Or.inr ⟨_, rfl⟩) (fun t ht _ => av_ret (r := some (vR z)) h hP hS ht) hS.2.2 hd (hlocks := C.2.2.2.2.2.2.2.1)
theorem ax_vret (hi : av_lk mi.2.2.2.2 pc = some (.return_, nx, tg)) (hr : mi.2.2.2.1 = none) (h : Q none M) : av_S E d mi pc ls [] M Q := by
  intro p e R s m args below meth c H locs lsA C hP hS hL
  obtain ⟨hd, rfl⟩ := av_at (n := 0) C.1 hi rfl
  exact W.vret C.2.1 C.2.2.1 (C.2.2.2.2.1.trans hr) (fun t ht _ => av_ret (r := none) h hP hS ht) hS.2.2 hd (hlocks := C.2.2.2.2.2.2.2.1)
/-- another post -/
theorem ax_post {Q' : Option av_V → av_M → Prop} (k : av_S E d mi pc ls st M Q') (h : ∀ r M', Q' r M' → Q r M') : av_S E d mi pc ls st M Q := by
  intro p e R s m args below meth c H locs lsA C hP hS hL T hT X
  obtain ⟨t, h1, o, h2, h3, ⟨⟨r, M', h4, h5, h6⟩, h7⟩, h8⟩ := k p e R s m args below meth c H locs lsA C hP hS hL T hT X
  exact ⟨t, h1, o, h2, h3, ⟨⟨r, M', h4, h _ _ h5, h6⟩, h7⟩, h8⟩
-- calls
theorem av_words {args : Array Value} {s : State} (hts : ∀ w ∈ av_WT, w.before args s = true) {mi' : av_mi} (hme : av_me mi') : ∀ w ∈ (Cond.code mi'.1 mi'.2.1 mi'.2.2.1 mi'.2.2.2.1 :: av_WT), ∀ (a' : Array Value) (U : State), s.WarmedH U.vm → w.before a' U = true := by
  refine pay_in (big := av_WT) hts fun w hw => ?_
  have h : w ∈ av_WT := by
    rcases List.mem_cons.mp hw with rfl | h
    · exact hme.1
    · exact h
  exact ⟨h, good_of_word (List.mem_filter.mp h).2⟩
theorem av_Nw.warm {s U : State} (hW : s.WarmedH U.vm) (h : av_Nw s) : av_Nw U := by
  intro w hw
  have h0 := h w hw
  unfold av_NW at hw
  simp only [List.mem_cons, List.not_mem_nil, or_false] at hw
  rcases hw with rfl | rfl | rfl | rfl | rfl | rfl | rfl | rfl | rfl | rfl | rfl | rfl | rfl | rfl | rfl <;> first | exact va_Nw.warmM hW h0 | exact va_Nw.warmF hW h0
theorem av_Nw.same {s U : State} (hv : s.vm = U.vm) (h : av_Nw s) : av_Nw U := by
  intro w hw
  have h0 := h w hw
  unfold av_NW at hw
  simp only [List.mem_cons, List.not_mem_nil, or_false] at hw
  rcases hw with rfl | rfl | rfl | rfl | rfl | rfl | rfl | rfl | rfl | rfl | rfl | rfl | rfl | rfl | rfl <;> exact va_tabs rfl hv h0
theorem av_Zs.use {E : av_E} {s U : State} {H : Heap} {locs : List Loc} (h : av_Zs E s s.heap) (hal : s.vm.Alike U.vm) (hS : va_S (av_A E) s.heap H locs) (hU : U.heap = H) : av_Zs E U U.heap := by
  obtain ⟨h1, h2, h3, h4⟩ := h
  rw [hU]
  exact ⟨(h1.moved hal).kept hS.2.1, (h2.moved hal).kept hS.2.1, (h3.moved hal).kept hS.2.1, (h4.moved hal).kept hS.2.1⟩
theorem av_U.of {E : av_E} {M : av_M} {s U : State} {H : Heap} {locs : List Loc} (hP : va_P E.2.1 vwCl (av_ws E M) H) (hK : va_K E.2.1 vwCl (av_tys E) s) (hinj : av_inj E) (hZ : av_Zs E s s.heap) (hN : av_Nw s) (hS : va_S (av_A E) s.heap H locs) (hU : U.heap = H) (hW : s.WarmedH U.vm) : av_U E M U :=
  ⟨by rw [hU]; exact hP, va_K.moved hW.alike hK, hinj, hZ.use hW.alike hS hU, hN.warm hW⟩
theorem av_blind {E : av_E} {as : List av_V} {M : av_M} : FrameBlind (va_Pc (av_cs E as) (av_U E M)) := by
  intro a U g mk q
  obtain ⟨q0, q1, q2, q3, ⟨z1, z2, z3, z4⟩, q5⟩ := q
  have hal : U.vm.Alike (U.calling g mk a).vm := Vm.Alike.refl U.vm
  exact ⟨q0, q1, va_K.moved hal q2, q3, ⟨z1.moved hal, z2.moved hal, z3.moved hal, z4.moved hal⟩, av_Nw.same (s := U) (U := U.calling g mk a) rfl q5⟩
theorem av_runs {p : Program} {e : Env} {R : Room} {s : State} {m : MethodId} {args : Array Value} {below : List Frame} {meth : Method} {c : Code} {H : Heap} {locs : List Loc} {lsA : Array Slot} {as rest st0 : List av_V} {b : Bool} {Q' : Option av_V → av_M → Prop}
    (C : av_Cx E (d + 1) mi p R s m args meth c) (hP : va_P E.2.1 vwCl (av_ws E M) H) (hS : va_S (av_A E) s.heap H locs) (hL : lv_has lsA mi.2.2.1 (av_cl E ls)) (hn : nx = pc + 3)
    (hr : va_Run p E.1 e R s m args below meth c H locs 0 0 0 0 (F0 m pc lsA (av_cs E st0)) (av_cs E rest) (av_Q E Q' (av_cs E as).toArray) (av_A E))
    (k : ∀ r M', Q' r M' → av_S E (d + 1) mi nx ls (r.toList ++ rest) M' Q) : W p E.1 e R s m args below meth c H locs 0 0 (MQ below (av_Q E Q) args s 0 0 (av_A E)) (F0 m pc lsA (av_cs E st0)) := by
  intro T hT X
  subst hn
  obtain ⟨v, st₀, t, T', L, h0, X', hLo, e1, e2, ⟨⟨r, M', hv, hp, hb⟩, hz, hk⟩, st⟩ := hr T hT X
  have hv' : v = r.map (av_c E) := Outcome.returned.inj hv
  rw [h0] at hz hk
  have hS' : va_S (av_A E) s.heap T'.heap (locs ++ L) := ⟨Nat.le_trans hS.1 (by rw [e1]; exact hz), fun q h1 h2 => by rw [e1, hk q (Nat.lt_of_lt_of_le h1 hS.1) h2]; exact hS.2.1 q h1 h2, fun q hq => by
    rcases List.mem_append.mp hq with h | h
    · exact hS.2.2 q h
    · exact hLo q h⟩
  obtain ⟨t2, a1, b1⟩ := k r M' hp p e R s m args below meth c T'.heap (locs ++ L) lsA C (by rw [e1]; exact hb) hS' hL T' rfl X'
  refine ⟨t2, st t2 ?_, b1⟩
  have e3 : av_cs E (r.toList ++ rest) = v.toList ++ av_cs E rest := by
    rw [hv']
    cases r <;> rfl
  rw [e3] at a1
  exact a1
theorem av_wd_le {E : av_E} {st : List av_V} : ((av_cs E st).map fun v => v.category).sum = av_wd st := by
  induction st with
  | nil => rfl
  | cons v r ih =>
    unfold av_cs at ih ⊢
    simp only [List.map_cons, List.sum_cons, ih, av_cat]
    rfl
theorem ax_callV {mi' : av_mi} {ix ci n kk nn : Nat} {as : List av_V} {Q' : Option av_V → av_M → Prop} (hi : av_lk mi.2.2.2.2 pc = some (.invokevirtual ix, nx, tg)) (hc : av_cv mi.1.cls ix mi' ci n) (hme : av_me mi') (hmx : Nat.ble mi'.2.2.1 26 = true) (hst : st = as.reverse ++ vR kk :: rest) (hn : as.length = n) (hly : av_ly kk = (ci + 3, nn)) (hw : Nat.ble (av_wd rest) 8 = true)
    (hM : av_Mt E d mi' (vR kk :: as) M Q') (k : ∀ r M', Q' r M' → av_S E (d + 1) mi nx ls (r.toList ++ rest) M' Q) : av_S E (d + 1) mi pc ls st M Q := by
  intro p e R s m args below meth c H locs lsA C hP hS hL
  have C0 := C
  obtain ⟨ho, hx, hb, hml, hr, hown, hts, hlk, hfr, hlo, hK, hinj, hZ, hN⟩ := C
  obtain ⟨hd, rfl⟩ := av_at (n := 2) ho hi rfl
  obtain ⟨hlink, hinst, hsel, ⟨q, hq, hqc⟩, hpar⟩ := hc
  have hkN := (av_ly_in hly (Or.inl (by omega))).1
  have hmx' : mi'.2.2.1 ≤ 26 := Nat.le_of_ble_eq_true hmx
  have hrec := va_recv (D := E.2.1) (q0 := kk) hK hP hq (by rw [av_ws_get hkN, av_cell_ob hly])
  rw [hqc] at hrec
  have cw : CallW R s args mi.1.cls mi'.1.cls ix mi'.1 mi'.2.1 mi'.2.2.1 mi'.2.2.2.1 (Cond.code mi'.1 mi'.2.1 mi'.2.2.1 mi'.2.2.2.1 :: av_WT) { frames := d, cells := 0, slots := 0, locals := 45 * d } 0 0 n :=
    ⟨⟨rfl, rfl, hfr, by show 8 + (mi'.2.2.1 + 11) + 45 * d ≤ R.locals; omega, av_words hts hme, List.mem_cons_self, hts _ hme.1, hts _ hme.2.1, hme.2.2.1, fun sig h => by rw [h] at hpar; exact (Option.some.inj hpar).symm, hts _ hlink⟩, hts _ hinst, hts _ hsel⟩
  have hr := va_runV (p := p) (e := e) (below := below) (meth := meth) (locs := locs) (cells := 0) (slots := 0) (g := F0 m pc lsA (av_cs E st)) (As := av_cs E as) (rest := av_cs E rest) (nL := mi.2.2.1) (cc := mi.2.1) (Ts := av_WT) (H := H) ⟨hx, hb, hml, hown, hts⟩ hM cw
    ⟨av_blind, hrec, fun U hU hW => ⟨rfl, av_U.of hP hK hinj hZ hN hS hU hW⟩⟩ rfl (by rw [← hn]; simp [av_cs]) hL.1 (by show av_cs E st = _; rw [hst]; simp [av_cs, av_c]) (lv_room (by rw [av_wd_le]; exact Nat.le_of_ble_eq_true hw)) hd ⟨Nat.zero_le _, Nat.zero_le _⟩
  exact av_runs (as := vR kk :: as) (b := true) C0 hP hS hL rfl hr k
theorem ax_callS {mi' : av_mi} {ix n : Nat} {as : List av_V} {Q' : Option av_V → av_M → Prop} (hi : av_lk mi.2.2.2.2 pc = some (.invokestatic ix, nx, tg)) (hc : av_cs0 mi.1.cls ix mi' n) (hme : av_me mi') (hmx : Nat.ble mi'.2.2.1 26 = true) (hst : st = as.reverse ++ rest) (hn : as.length = n) (hw : Nat.ble (av_wd rest) 8 = true)
    (hM : av_Mt E d mi' as M Q') (k : ∀ r M', Q' r M' → av_S E (d + 1) mi nx ls (r.toList ++ rest) M' Q) : av_S E (d + 1) mi pc ls st M Q := by
  intro p e R s m args below meth c H locs lsA C hP hS hL
  have C0 := C
  obtain ⟨ho, hx, hb, hml, hr, hown, hts, hlk, hfr, hlo, hK, hinj, hZ, hN⟩ := C
  obtain ⟨hd, rfl⟩ := av_at (n := 2) ho hi rfl
  obtain ⟨hlink, hstt, hpar⟩ := hc
  have hmx' : mi'.2.2.1 ≤ 26 := Nat.le_of_ble_eq_true hmx
  have hsig : ∀ sig, parseMethodDescriptor mi'.1.desc = some sig → n = sig.parameters.length := fun sig h => by rw [h] at hpar; exact (Option.some.inj hpar).symm
  have hpre : PreS s H (va_Pc (av_cs E as) (av_U E M)) (av_cs E as) := ⟨av_blind, fun U hU hW => ⟨rfl, av_U.of hP hK hinj hZ hN hS hU hW⟩⟩
  have hloc : 8 + (mi'.2.2.1 + 11) + 45 * d ≤ R.locals := by omega
  have hlen : (av_cs E as).length = n := by rw [← hn]; simp [av_cs]
  have hstk : av_cs E st = (av_cs E as).reverse ++ av_cs E rest := by rw [hst]; simp [av_cs]
  rcases hlink with hlink | ⟨host, hlink⟩
  · have cw : CallB R s args mi.1.cls ix mi'.1 mi'.2.1 mi'.2.2.1 mi'.2.2.2.1 (Cond.code mi'.1 mi'.2.1 mi'.2.2.1 mi'.2.2.2.1 :: av_WT) { frames := d, cells := 0, slots := 0, locals := 45 * d } 0 0 n :=
      ⟨rfl, rfl, hfr, hloc, av_words hts hme, List.mem_cons_self, hts _ hme.1, hts _ hme.2.1, hme.2.2.1, hsig, hts _ hlink⟩
    have hr := va_runS (p := p) (e := e) (below := below) (meth := meth) (locs := locs) (cells := 0) (slots := 0) (g := F0 m pc lsA (av_cs E st)) (As := av_cs E as) (rest := av_cs E rest) (nL := mi.2.2.1) (cc := mi.2.1) (Ts := av_WT) (H := H) ⟨hx, hb, hml, hown, hts⟩ hM ⟨cw, hts _ hstt⟩
      hpre rfl hlen hL.1 hstk (lv_room (by rw [av_wd_le]; exact Nat.le_of_ble_eq_true hw)) hd ⟨Nat.zero_le _, Nat.zero_le _⟩
    exact av_runs (as := as) (b := true) C0 hP hS hL rfl hr k
  · have cw : va_CN R s args mi.1.cls ix mi'.1 host mi'.2.1 mi'.2.2.1 mi'.2.2.2.1 (Cond.code mi'.1 mi'.2.1 mi'.2.2.1 mi'.2.2.2.1 :: av_WT) { frames := d, cells := 0, slots := 0, locals := 45 * d } 0 0 n :=
      ⟨⟨rfl, rfl, hfr, hloc, av_words hts hme, List.mem_cons_self⟩, hts _ hme.1, hts _ hme.2.1, hme.2.2.1, hsig, va_Nw.use rfl (hN _ hlink)⟩
    have hr := va_runSN (p := p) (e := e) (below := below) (meth := meth) (locs := locs) (cells := 0) (slots := 0) (g := F0 m pc lsA (av_cs E st)) (As := av_cs E as) (rest := av_cs E rest) (nL := mi.2.2.1) (cc := mi.2.1) (Ts := av_WT) (H := H) ⟨hx, hb, hml, hown, hts⟩ hM ⟨cw, hts _ hstt, trivial⟩
      hpre rfl hlen hL.1 hstk (lv_room (by rw [av_wd_le]; exact Nat.le_of_ble_eq_true hw)) hd ⟨Nat.zero_le _, Nat.zero_le _⟩
    exact av_runs (as := as) (b := true) C0 hP hS hL rfl hr k
theorem ax_max {x y : Int} {ix : Nat} (hi : av_lk mi.2.2.2.2 pc = some (.invokestatic ix, nx, tg)) (hc : Cond.methodLink mi.1.cls ix Lib.Math.max.name ∈ av_WT) (hw : Nat.ble (av_wd st) 8 = true) (hx0 : -2147483648 ≤ x ∧ x < 2147483648) (hy0 : -2147483648 ≤ y ∧ y < 2147483648) (k : av_S E (d + 1) mi nx ls (vI (max x y) :: st) M Q) : av_S E (d + 1) mi pc ls (vI y :: vI x :: st) M Q := by
  refine ax_go hi rfl (fun p e R s m args below meth c H locs lsA Qm C hd hL hP hS k => ?_) k
  obtain ⟨ho, hx, hb, hml, hr, hown, hts, hlk, hfr, hlo, hK, hinj, hZ, hN⟩ := C
  have hw' : ((av_cs E st).map fun v => v.category).sum ≤ 8 := by rw [av_wd_le]; exact Nat.le_of_ble_eq_true hw
  refine va_mmax (rest := av_cs E st) hx hb (hml.trans hL.1.symm) hown (hts _ hc) (hts _ (av_in (by decide +kernel) rfl)) (hts _ (av_in (by decide +kernel) rfl)) (hts _ hJ9max) (by omega) (by omega) (Nat.zero_le _) (Nat.zero_le _) hd (av_Wst k ?_ rfl)
  simp only [av_cs, av_c, List.map_cons, av_lt32 hx0 hy0]
  congr 2
  split <;> congr 1 <;> omega
theorem ax_min {x y : Int} {ix : Nat} (hi : av_lk mi.2.2.2.2 pc = some (.invokestatic ix, nx, tg)) (hc : Cond.methodLink mi.1.cls ix Lib.Math.min.name ∈ av_WT) (hw : Nat.ble (av_wd st) 8 = true) (hx0 : -2147483648 ≤ x ∧ x < 2147483648) (hy0 : -2147483648 ≤ y ∧ y < 2147483648) (k : av_S E (d + 1) mi nx ls (vI (min x y) :: st) M Q) : av_S E (d + 1) mi pc ls (vI y :: vI x :: st) M Q := by
  refine ax_go hi rfl (fun p e R s m args below meth c H locs lsA Qm C hd hL hP hS k => ?_) k
  obtain ⟨ho, hx, hb, hml, hr, hown, hts, hlk, hfr, hlo, hK, hinj, hZ, hN⟩ := C
  have hw' : ((av_cs E st).map fun v => v.category).sum ≤ 8 := by rw [av_wd_le]; exact Nat.le_of_ble_eq_true hw
  refine va_mmin (rest := av_cs E st) hx hb (hml.trans hL.1.symm) hown (hts _ hc) (hts _ (av_in (by decide +kernel) rfl)) (hts _ (av_in (by decide +kernel) rfl)) (hts _ hJ9min) (by omega) (by omega) (Nat.zero_le _) (Nat.zero_le _) hd (av_Wst k ?_ rfl)
  simp only [av_cs, av_c, List.map_cons, av_lt32 hx0 hy0, av_lt32 hy0 hx0, av_le32 hx0 hy0, av_le32 hy0 hx0]
  congr 2
  split <;> congr 1 <;> omega
theorem ax_labs {x : Int} {ix : Nat} (hi : av_lk mi.2.2.2.2 pc = some (.invokestatic ix, nx, tg)) (hc : Cond.methodLink mi.1.cls ix Lib.MathLoose.abs_long.x ∈ av_WT) (hw : Nat.ble (av_wd st) 8 = true) (hx0 : -9223372036854775808 ≤ x ∧ x < 9223372036854775808) (k : av_S E (d + 1) mi nx ls (vL (if 0 < x then x else -x) :: st) M Q) : av_S E (d + 1) mi pc ls (vL x :: st) M Q := by
  refine ax_go hi rfl (fun p e R s m args below meth c H locs lsA Qm C hd hL hP hS k => ?_) k
  obtain ⟨ho, hx, hb, hml, hr, hown, hts, hlk, hfr, hlo, hK, hinj, hZ, hN⟩ := C
  have hw' : ((av_cs E st).map fun v => v.category).sum ≤ 8 := by rw [av_wd_le]; exact Nat.le_of_ble_eq_true hw
  refine va_mabs_long (rest := av_cs E st) hx hb (hml.trans hL.1.symm) hown (hts _ hc) (hts _ (av_in (by decide +kernel) rfl)) (hts _ (av_in (by decide +kernel) rfl)) (hts _ hJ9abs) (by omega) (by omega) (Nat.zero_le _) (Nat.zero_le _) hd (av_Wst k ?_ rfl)
  have e : (0 : Int64) < Int64.ofInt x ↔ 0 < x := av_lt64 (x := 0) (by omega) hx0
  simp only [av_cs, av_c, List.map_cons, e]
  congr 2
  split
  · rfl
  · exact Int64.ofInt_neg x
/-! the beginning of a method -/
theorem av_as_map (E : av_E) (as : List av_V) : ∀ i, lv_args i (av_cs E as) = av_cl E (av_as i as) := by
  induction as with
  | nil => intro i; rfl
  | cons v r ih =>
    intro i
    show (i, av_c E v) :: lv_args (if (av_c E v).category = 2 then i + 2 else i + 1) (av_cs E r) = (i, av_c E v) :: av_cl E (av_as (bif av_w2 v then i + 2 else i + 1) r)
    rw [ih, av_cat]
    cases av_w2 v <;> rfl
theorem av_sl_len (E : av_E) (as : List av_V) : (lg_sl (av_cs E as)).length = av_wd as := by
  induction as with
  | nil => rfl
  | cons v r ih =>
    have e : lg_sl (av_cs E (v :: r)) = (if (av_c E v).category = 2 then [.val (av_c E v), .second] else [.val (av_c E v)]) ++ lg_sl (av_cs E r) := by
      simp [lg_sl, av_cs]
    rw [e, List.length_append, ih, av_cat]
    show _ = (bif av_w2 v then 2 else 1) + av_wd r
    cases av_w2 v <;> simp
theorem av_enter {as : List av_V} (hme : av_me mi) (hok : av_OK mi) (hsz : Nat.ble (av_wd as) mi.2.2.1 = true) (h : av_as 0 as = ls) (k : av_S E d mi 0 ls [] M Q) : av_Mt E d mi as M Q := by
  unfold av_Mt
  refine Met.ofW (cc := mi.2.1) (maxL := mi.2.2.1) (ret := mi.2.2.2.1) hme.2.2.2 rfl ?_
  intro p e s m args below meth c s₁ B hml hv
  obtain ⟨rfl, hP, hK, hinj, hZ, hN⟩ := hv
  have hts := atoms_spec (ws := Cond.code mi.1 mi.2.1 mi.2.2.1 mi.2.2.2.1 :: av_WT) B.pre
  have hl := lv_entry (av_cs E as) (n := mi.2.2.1) (by rw [av_sl_len]; exact Nat.le_of_ble_eq_true hsz)
  rw [lg_entry_eq]
  rw [av_as_map, h] at hl
  exact k p e _ s m _ below meth c s.heap [] _ ⟨hok, B.exec, B.bytes, hml, B.returns, findClass_of_methodNamed B.named, fun w hw => hts w (List.mem_cons_of_mem _ hw), B.notSynchronized, Nat.le_refl _, Nat.le_refl _, hK, hinj, hZ, hN⟩ hP va_S.rf hl
theorem av_Xk {E : av_E} {d : Nat} {mi : av_mi} {nx : Nat} {ls : av_Ls} {rest : List av_V} {Q : Option av_V → av_M → Prop} {r0 : Option av_V} {M1 : av_M} (k : av_S E d mi nx ls (r0.toList ++ rest) M1 Q) : ∀ r M', av_X r0 M1 r M' → av_S E d mi nx ls (r.toList ++ rest) M' Q := by
  intro r M' h
  obtain ⟨rfl, rfl⟩ := h
  exact k
end AX
theorem av_upE {M : av_M} {k : Nat} {z v : Int} {P : av_M → Prop} (h : ∀ M' : av_M, M' k z = v → (∀ j, j ≠ z → M' k j = M k j) → (∀ k', k' ≠ k → M' k' = M k') → P M') : P (av_up M k z v) :=
  h _ av_up_at (fun _ hj => av_up_off hj) (fun _ hk => av_up_ne hk)
section AX2
variable {E : av_E} {d : Nat} {mi : av_mi} {pc nx tg : Nat} {ls ls' : av_Ls} {st st' rest : List av_V} {M : av_M} {Q : Option av_V → av_M → Prop}
theorem ax_putI' {ix ci f kk n : Nat} {z g : Int} (hi : av_lk mi.2.2.2.2 pc = some (.putfield ix, nx, tg)) (hf : av_fp mi.1.cls ix ci f .int) (hly : av_ly kk = (ci + 3, n)) (h1 : av_rf kk f = none) (h2 : av_lf kk f = false) (hg : (f : Int) = g) (k : ∀ M' : av_M, M' kk g = z → (∀ j, j ≠ g → M' kk j = M kk j) → (∀ k', k' ≠ kk → M' k' = M k') → av_S E d mi nx ls st M' Q) : av_S E d mi pc ls (vI z :: vR kk :: st) M Q :=
  ax_putI hi hf hly h1 h2 (by rw [hg]; exact av_upE k)
theorem ax_putL' {ix ci f kk n : Nat} {z g : Int} (hi : av_lk mi.2.2.2.2 pc = some (.putfield ix, nx, tg)) (hf : av_fp mi.1.cls ix ci f .long) (hly : av_ly kk = (ci + 3, n)) (h1 : av_rf kk f = none) (h2 : av_lf kk f = true) (hg : (f : Int) = g) (k : ∀ M' : av_M, M' kk g = z → (∀ j, j ≠ g → M' kk j = M kk j) → (∀ k', k' ≠ kk → M' k' = M k') → av_S E d mi nx ls st M' Q) : av_S E d mi pc ls (vL z :: vR kk :: st) M Q :=
  ax_putL hi hf hly h1 h2 (by rw [hg]; exact av_upE k)
theorem ax_putZ' {ix ci f kk n : Nat} {z g : Int} (hi : av_lk mi.2.2.2.2 pc = some (.putfield ix, nx, tg)) (hf : av_fp mi.1.cls ix ci f .boolean) (hly : av_ly kk = (ci + 3, n)) (h1 : av_rf kk f = none) (h2 : av_lf kk f = false) (hz : z = 0 ∨ z = 1) (hg : (f : Int) = g) (k : ∀ M' : av_M, M' kk g = z → (∀ j, j ≠ g → M' kk j = M kk j) → (∀ k', k' ≠ kk → M' k' = M k') → av_S E d mi nx ls st M' Q) : av_S E d mi pc ls (vI z :: vR kk :: st) M Q :=
  ax_putZ hi hf hly h1 h2 hz (by rw [hg]; exact av_upE k)
theorem ax_iast' {kk n : Nat} {z x : Int} (hi : av_lk mi.2.2.2.2 pc = some (.iastore, nx, tg)) (hly : av_ly kk = (0, n)) (hz : 0 ≤ z ∧ z < n) (k : ∀ M' : av_M, M' kk z = x → (∀ j, j ≠ z → M' kk j = M kk j) → (∀ k', k' ≠ kk → M' k' = M k') → av_S E d mi nx ls st M' Q) : av_S E d mi pc ls (vI x :: vI z :: vR kk :: st) M Q :=
  ax_iast hi hly hz (av_upE k)
theorem ax_last' {kk n : Nat} {z x : Int} (hi : av_lk mi.2.2.2.2 pc = some (.lastore, nx, tg)) (hly : av_ly kk = (1, n)) (hz : 0 ≤ z ∧ z < n) (k : ∀ M' : av_M, M' kk z = x → (∀ j, j ≠ z → M' kk j = M kk j) → (∀ k', k' ≠ kk → M' k' = M k') → av_S E d mi nx ls st M' Q) : av_S E d mi pc ls (vL x :: vI z :: vR kk :: st) M Q :=
  ax_last hi hly hz (av_upE k)
theorem ax_bast' {kk n : Nat} {z x : Int} (hi : av_lk mi.2.2.2.2 pc = some (.bastore, nx, tg)) (hly : av_ly kk = (2, n)) (hz : 0 ≤ z ∧ z < n) (hb1 : x = 0 ∨ x = 1) (k : ∀ M' : av_M, M' kk z = x → (∀ j, j ≠ z → M' kk j = M kk j) → (∀ k', k' ≠ kk → M' k' = M k') → av_S E d mi nx ls st M' Q) : av_S E d mi pc ls (vI x :: vI z :: vR kk :: st) M Q :=
  ax_bast hi hly hz hb1 (av_upE k)
theorem ax_alen {kk n : Nat} (hi : av_lk mi.2.2.2.2 pc = some (.arraylength, nx, tg)) (hly : av_ly kk = (0, n)) (hn : 0 < n) (k : av_S E d mi nx ls (vI n :: st) M Q) : av_S E d mi pc ls (vR kk :: st) M Q := by
  refine ax_go hi rfl (fun p e R s m args below meth c H locs lsA Qm C hd hL hP hS k => ?_) k
  obtain ⟨ho, hx, hb, hml, hr, hown, hts, hlk, hfr, hlo, hK, hinj, hZ, hN⟩ := C
  obtain ⟨hkN, hn⟩ := av_ly_in hly (Or.inr hn)
  exact va_alen (D := E.2.1) hx hb hK hP kk 0 (by rw [av_ws_get hkN, av_cell_0 hly]) rfl (by show Int32.ofNat n = Int32.ofInt (n : Int); rw [Int32.ofInt_eq_ofNat]) hd k
theorem ax_tabIn {df lo hi off x : Int} {offs : Array Int} {t : Nat} (hi0 : av_lk mi.2.2.2.2 pc = some (.tableswitch df lo hi offs, nx, tg)) (hx : -2147483648 ≤ x ∧ x < 2147483648) (h1 : lo ≤ x) (h2 : x ≤ hi) (ho : offs[(x - lo).toNat]? = some off) (ht : (pc : Int) + off = (t : Int)) (k : av_S E d mi t ls st M Q) : av_S E d mi pc ls (vI x :: st) M Q := by
  intro p e R s m args below meth c H locs lsA C hP hS hL
  obtain ⟨hd, -⟩ := av_at1 C.1 hi0
  have e1 := av_to32 hx.1 hx.2
  exact lv_tableIn C.2.1 C.2.2.1 hd (by rw [e1]; omega) (by rw [e1]; omega) (by rw [e1]; exact ho) ht (k p e R s m args below meth c H locs lsA C hP hS hL)
theorem ax_tabOut {df lo hi x : Int} {offs : Array Int} {t : Nat} (hi0 : av_lk mi.2.2.2.2 pc = some (.tableswitch df lo hi offs, nx, tg)) (hx : -2147483648 ≤ x ∧ x < 2147483648) (h1 : x < lo ∨ hi < x) (ht : (pc : Int) + df = (t : Int)) (k : av_S E d mi t ls st M Q) : av_S E d mi pc ls (vI x :: st) M Q := by
  intro p e R s m args below meth c H locs lsA C hP hS hL
  obtain ⟨hd, -⟩ := av_at1 C.1 hi0
  have e1 := av_to32 hx.1 hx.2
  exact lv_tableOut C.2.1 C.2.2.1 hd (by rw [e1]; omega) ht (k p e R s m args below meth c H locs lsA C hP hS hL)
end AX2
