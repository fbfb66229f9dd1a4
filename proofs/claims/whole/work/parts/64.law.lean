/-! ===== the law's walk: its steps over the memory of the two objects ===== -/
def lwA (s : State) : Nat → Prop := fun q => s.heap.size ≤ q
def av_ZL (E : av_E) (s : State) : Prop :=
  va_Z "GreaterBodies" "COVER_BY_CORNERS" "[I" (.ref (E.2.2.1 59)) (lwA s) s s.heap ∧ va_T .int (E.2.2.1 59) 9 (fun j => .int (Int32.ofInt (av_cov j))) (lwA s) s s.heap ∧
  va_Z "GreaterBodies" "FOOLS_BY_CORNERS" "[I" (.ref (E.2.2.1 60)) (lwA s) s s.heap ∧ va_T .int (E.2.2.1 60) 9 (fun j => .int (Int32.ofInt (av_foo j))) (lwA s) s s.heap
def lCx (E : av_E) (p : Program) (s : State) (m : MethodId) (meth : Method) (c : Code) (b L : Nat) (xs : Nat → Int32) : Prop :=
  lw_At p s m meth c b L xs ∧ va_K E.2.1 vwCl (av_tys E) s ∧ av_inj E ∧ (∀ q, av_A E q → lwA s q) ∧ E.2.2.1 61 = b ∧ av_ZL E s ∧ av_Nw s ∧ L ≤ 2560
def lwS (E : av_E) (p : Program) (e : Env) (s : State) (m : MethodId) (below : List Frame) (meth : Method) (c : Code) (b pc : Nat) (ls : av_Ls) (st : List av_V) (M : av_M) : Prop :=
  ∀ (H : Heap) (lsA : Array Slot), va_P E.2.1 vwCl (av_ws E M) H → va_S (lwA s) s.heap H [] → lv_has lsA 4 (av_cl E ls) → W p E.1 e room_1 s m #[Value.ref b] below meth c H [] 600000 7302250 (lw_Z below #[Value.ref b] s) (F0 m pc lsA (av_cs E st))
def lwL (i : Int) : av_Ls := [(0, vR 61), (1, vR 0), (2, vR 35), (3, vI i)]
def sx (xs : Nat → Int32) (j : Int) : Int := (xs j.toNat).toInt
theorem sx_r (xs : Nat → Int32) (j : Int) : -2147483648 ≤ sx xs j ∧ sx xs j < 2147483648 := by
  unfold sx
  have h1 := (xs j.toNat).le_toInt
  have h2 := (xs j.toNat).toInt_lt
  omega
def bz (v : Int) : Int := if v = 0 then 0 else 1
theorem bz01 (v : Int) : bz v = 0 ∨ bz v = 1 := by
  unfold bz
  split
  · exact Or.inl rfl
  · exact Or.inr rfl
theorem bz_r (v : Int) : -2147483648 ≤ bz v ∧ bz v < 2147483648 := by
  rcases bz01 v with h | h <;> rw [h] <;> decide
theorem lw_vin {z : Int} {n : Nat} (hz : 0 ≤ z ∧ z < n) (hn : n ≤ 100000) : vp_in (Int32.ofInt z) n ∧ (Int32.ofInt z).toNatClampNeg = z.toNat := by
  have e := av_to32 (z := z) (by omega) (by omega)
  refine ⟨vp_in_iff.mpr (by rw [e]; exact hz), ?_⟩
  have e2 : (Int32.ofInt z).toNatClampNeg = (Int32.ofInt z).toInt.toNat := rfl
  rw [e2, e]
theorem lg_cmp_self (x : Int64) : lg_cmp x x = 0 := by
  unfold lg_cmp
  simp
section LX
variable {E : av_E} {p : Program} {e : Env} {s : State} {m : MethodId} {below : List Frame} {meth : Method} {c : Code} {b L : Nat} {xs : Nat → Int32} {pc : Nat} {st : List av_V} {M : av_M} {i : Int}
theorem lx_al1 (C : lCx E p s m meth c b L xs) (d0 : decode code pc = .ok (.aload_n 1, 1)) (k : lwS E p e s m below meth c b (pc + 1) (lwL i) (vR 0 :: st) M) : lwS E p e s m below meth c b pc (lwL i) st M :=
  fun H lsA hP hS hL => lv_aload_n C.1.1 C.1.2.1 d0 rfl (lv_at hL 1 rfl) (k H lsA hP hS hL)
theorem lx_al2 (C : lCx E p s m meth c b L xs) (d0 : decode code pc = .ok (.aload_n 2, 1)) (k : lwS E p e s m below meth c b (pc + 1) (lwL i) (vR 35 :: st) M) : lwS E p e s m below meth c b pc (lwL i) st M :=
  fun H lsA hP hS hL => lv_aload_n C.1.1 C.1.2.1 d0 rfl (lv_at hL 2 rfl) (k H lsA hP hS hL)
theorem lx_arg (C : lCx E p s m meth c b L xs) (hi : 0 ≤ i ∧ i + 5 ≤ L) {n : Int} (hn : 0 ≤ n ∧ n ≤ 4) (d0 : decode code pc = .ok (.aload_n 0, 1)) (d1 : decode code (pc + 1) = .ok (.iload_n 3, 1)) (d2 : decode code (pc + 2) = .ok (.iconst n, 1)) (d3 : decode code (pc + 3) = .ok (.iadd, 1)) (d4 : decode code (pc + 4) = .ok (.iaload, 1))
    (k : lwS E p e s m below meth c b (pc + 5) (lwL i) (vI (sx xs (i + n)) :: st) M) : lwS E p e s m below meth c b pc (lwL i) st M := by
  intro H lsA hP hS hL
  obtain ⟨⟨hx, hb, hr, hml, hown, hts, hX, hbl, hlk, hgv⟩, hK, hinj, hA, h61, hZ, hN, hL2⟩ := C
  refine lv_aload_n hx hb d0 rfl (lv_at hL 0 rfl) ?_
  refine lv_iload_n hx hb d1 rfl (lv_at hL 3 rfl) ?_
  refine lv_iconst (v := Int32.ofInt n) hx hb d2 rfl ?_
  refine lv_iadd hx hb d3 ?_
  rw [← Int32.ofInt_add, h61]
  obtain ⟨v1, v2⟩ := lw_vin (z := i + n) (n := L) (by omega) (by omega)
  refine va_sld hx hb hX hbl (Nat.not_le.mpr hbl) hS v1 d4 ?_
  rw [v2]
  have e1 : Int32.ofInt (sx xs (i + n)) = xs (i + n).toNat := Int32.ofInt_toInt _
  have kk := k H lsA hP hS hL
  have e2 : av_cs E (vI (sx xs (i + n)) :: st) = .int (xs (i + n).toNat) :: av_cs E st := by
    show Value.int (Int32.ofInt (sx xs (i + n))) :: av_cs E st = _
    rw [e1]
  rw [e2] at kk
  exact kk
theorem lx_bool (C : lCx E p s m meth c b L xs) {v : Int} (hv : -2147483648 ≤ v ∧ v < 2147483648) (d0 : decode code pc = .ok (.ifCond .eq 7, 3)) (d1 : decode code (pc + 3) = .ok (.iconst 1, 1)) (d2 : decode code (pc + 4) = .ok (.goto 4, 3)) (d3 : decode code (pc + 7) = .ok (.iconst 0, 1))
    (k : lwS E p e s m below meth c b (pc + 8) (lwL i) (vI (bz v) :: st) M) : lwS E p e s m below meth c b pc (lwL i) (vI v :: st) M := by
  intro H lsA hP hS hL
  obtain ⟨⟨hx, hb, hr, hml, hown, hts, hX, hbl, hlk, hgv⟩, hK, hinj, hA, h61, hZ, hN, hL2⟩ := C
  have kk := k H lsA hP hS hL
  refine lv_if_eq (tgt := pc + 7) hx hb d0 (by omega) (fun h => ?_) (fun h => ?_)
  · have h0 : v = 0 := (av_eq32 hv (by omega)).mp (h.trans (by rfl : (0 : Int32) = Int32.ofInt 0))
    refine lv_iconst (v := Int32.ofInt 0) hx hb d3 rfl ?_
    have e2 : bz v = 0 := by unfold bz; exact if_pos h0
    rw [e2] at kk
    exact kk
  · have h0 : ¬ v = 0 := fun q => h (by rw [q]; rfl)
    refine lv_iconst (v := Int32.ofInt 1) hx hb d1 rfl ?_
    refine lv_goto (tgt := pc + 8) hx hb d2 (by omega) ?_
    have e2 : bz v = 1 := by unfold bz; exact if_neg h0
    rw [e2] at kk
    exact kk
theorem lx_call {mi' : av_mi} {ix ci n kk nn : Nat} {as rest : List av_V} {Q' : Option av_V → av_M → Prop} (C : lCx E p s m meth c b L xs) (hc : av_cv RL ix mi' ci n) (hme : av_me mi') (hmx : Nat.ble mi'.2.2.1 26 = true) (hd : decode code pc = .ok (.invokevirtual ix, 3)) (hst : st = as.reverse ++ vR kk :: rest) (hn : as.length = n) (hly : av_ly kk = (ci + 3, nn)) (hw : av_wd rest ≤ 8)
    (hM : av_Mt E 8 mi' (vR kk :: as) M Q') (k : ∀ r M', Q' r M' → lwS E p e s m below meth c b (pc + 3) (lwL i) (r.toList ++ rest) M') : lwS E p e s m below meth c b pc (lwL i) st M := by
  intro H lsA hP hS hL
  obtain ⟨⟨hx, hb, hr, hml, hown, hts0, hX, hbl, hlk, hgv⟩, hK, hinj, hA, h61, hZ, hN, hL2⟩ := C
  obtain ⟨hlink, hinst, hsel, ⟨q, hq, hqc⟩, hpar⟩ := hc
  have hts : ∀ w ∈ av_WT, w.before #[Value.ref b] s = true := fun w hw => hts0 w (List.mem_filter.mp hw).1
  have hown' : s.vm.findClass RL = some m.cls := hown
  have hkN := (av_ly_in hly (Or.inl (by omega))).1
  have hmx' : mi'.2.2.1 ≤ 26 := Nat.le_of_ble_eq_true hmx
  have hrec := va_recv (D := E.2.1) (q0 := kk) hK hP hq (by rw [av_ws_get hkN, av_cell_ob hly])
  rw [hqc] at hrec
  have cw : CallW room_1 s #[Value.ref b] RL mi'.1.cls ix mi'.1 mi'.2.1 mi'.2.2.1 mi'.2.2.2.1 (Cond.code mi'.1 mi'.2.1 mi'.2.2.1 mi'.2.2.2.1 :: av_WT) { frames := 8, cells := 0, slots := 0, locals := 45 * 8 } 0 0 n :=
    ⟨⟨rfl, rfl, by decide, by show 8 + (mi'.2.2.1 + 11) + 45 * 8 ≤ 460; omega, av_words hts hme, List.mem_cons_self, hts _ hme.1, hts _ hme.2.1, hme.2.2.1, fun sig h => by rw [h] at hpar; exact (Option.some.inj hpar).symm, hts _ hlink⟩, hts _ hinst, hts _ hsel⟩
  have hU : ∀ U : State, U.heap = H → s.WarmedH U.vm → av_U E M U := by
    intro U hU hW
    obtain ⟨z1, z2, z3, z4⟩ := hZ
    refine ⟨by rw [hU]; exact hP, va_K.moved hW.alike hK, hinj, ?_, hN.warm hW⟩
    rw [hU]
    exact ⟨((z1.moved hW.alike).kept hS.2.1).narrow hA, ((z2.moved hW.alike).kept hS.2.1).narrow hA, ((z3.moved hW.alike).kept hS.2.1).narrow hA, ((z4.moved hW.alike).kept hS.2.1).narrow hA⟩
  have hr := va_runV (p := p) (e := e) (below := below) (meth := meth) (locs := []) (cells := 600000) (slots := 7302250) (g := F0 m pc lsA (av_cs E st)) (As := av_cs E as) (rest := av_cs E rest) (nL := 4) (cc := code) (Ts := av_WT) (H := H) ⟨hx, hb, hml, hown', hts⟩ hM cw
    ⟨av_blind, hrec, fun U h1 h2 => ⟨rfl, hU U h1 h2⟩⟩ rfl (by rw [← hn]; simp [av_cs]) hL.1 (by show av_cs E st = _; rw [hst]; simp [av_cs, av_c]) (lv_room (by rw [av_wd_le]; exact hw)) hd ⟨Nat.le_refl _, Nat.le_refl _⟩
  intro T hT X
  obtain ⟨v, st₀, t, T', Lc, h0, X', hLo, e1, e2, ⟨⟨r, M', hv, hp, hb'⟩, hz, hk⟩, sg⟩ := hr T hT X
  have hv' : v = r.map (av_c E) := Outcome.returned.inj hv
  rw [h0] at hz hk
  have hS' : va_S (lwA s) s.heap T'.heap [] := ⟨Nat.le_trans hS.1 (by rw [e1]; exact hz), fun q h1 h2 => by rw [e1, hk q (Nat.lt_of_lt_of_le h1 hS.1) (fun h3 => h2 (hA q h3))]; exact hS.2.1 q h1 h2, fun q hq => by cases hq⟩
  have hW := va_forget (s := s) (locs := [] ++ Lc) (fun q hq => hA _ (hLo q hq)) (k r M' hp T'.heap lsA (by rw [e1]; exact hb') hS' hL)
  obtain ⟨t2, a1, b1⟩ := hW T' rfl X'
  refine ⟨t2, sg t2 ?_, b1⟩
  have e3 : av_cs E (r.toList ++ rest) = v.toList ++ av_cs E rest := by
    rw [hv']
    cases r <;> rfl
  rw [e3] at a1
  exact a1
theorem lx_eqI (C : lCx E p s m meth c b L xs) {z off : Int} (d0 : decode code pc = .ok (.if_icmp .eq off, 3)) (ht : (pc : Int) + off = 1330) (k : lwS E p e s m below meth c b 1330 (lwL i) [] M) : lwS E p e s m below meth c b pc (lwL i) [vI z, vI z] M :=
  fun H lsA hP hS hL => lv_icmp_eq (tgt := 1330) C.1.1 C.1.2.1 d0 (by omega) (fun _ => k H lsA hP hS hL) (fun h => absurd rfl h)
theorem lx_eqL (C : lCx E p s m meth c b L xs) {z off : Int} (d0 : decode code pc = .ok (.lcmp, 1)) (d1 : decode code (pc + 1) = .ok (.ifCond .eq off, 3)) (ht : (pc : Int) + 1 + off = 1330) (k : lwS E p e s m below meth c b 1330 (lwL i) [] M) : lwS E p e s m below meth c b pc (lwL i) [vL z, vL z] M := by
  intro H lsA hP hS hL
  refine W.lcmp C.1.1 C.1.2.1 d0 ?_
  rw [lg_cmp_self]
  exact lv_if_eq (tgt := 1330) C.1.1 C.1.2.1 d1 (by omega) (fun _ => k H lsA hP hS hL) (fun h => absurd rfl h)
theorem wd_r (r : Option av_V) : av_wd (r.toList ++ []) ≤ 8 := by
  cases r with
  | none => decide
  | some v =>
    show (bif av_w2 v then 2 else 1) + 0 ≤ 8
    cases av_w2 v <;> decide
end LX
