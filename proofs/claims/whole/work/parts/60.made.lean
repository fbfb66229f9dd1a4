/-! ===== objects made: a constructor's contract over the cells that it reaches ===== -/
def bT (cs : Nat → ClassId) : List (ClassId × FieldType) := [(cs 0, .int), (cs 1, .long), (cs 2, .boolean)]
def bPre (D : va_G) (cs : Nat → ClassId) (sz : Nat) (w0 : va_W) (U : State) : Prop := U.heap.size = sz ∧ va_P D vwCl w0 U.heap ∧ va_K D vwCl (bT cs) U ∧ va_D (fun _ => True) w0 ∧ av_Nw U
def bMt (l : Launch) (D : va_G) (cs : Nat → ClassId) (d kc ks : Nat) (mi : av_mi) (As : List Value) (w0 : va_W) (sz : Nat) (P : va_W → Prop) : Prop :=
  Met l mi.1 (Cond.code mi.1 mi.2.1 mi.2.2.1 mi.2.2.2.1 :: av_WT) { frames := d, cells := kc, slots := ks, locals := 45 * d } (va_Pc As (bPre D cs sz w0)) (va_Qv P (fun (w : va_W) (t : State) => va_P D vwCl w t.heap ∧ va_D (va_A w0 sz) w) (va_A w0 sz)) kc ks (va_A w0 sz)
def bCx (D : va_G) (cs : Nat → ClassId) (kc ks : Nat) (own : String) (cc : ByteArray) (nL : Nat) (p : Program) (R : Room) (s : State) (m : MethodId) (args : Array Value) (c : Code) : Prop :=
  p.tables.exec = Jvm.exec ∧ c.code = cc ∧ c.maxLocals = nL ∧ s.vm.findClass own = some m.cls ∧ (∀ w ∈ av_WT, w.before args s = true) ∧ va_K D vwCl (bT cs) s ∧ av_Nw s ∧ kc ≤ R.cells ∧ ks ≤ R.slots
theorem bPre_blind {D : va_G} {cs : Nat → ClassId} {sz : Nat} {w0 : va_W} {As : List Value} : FrameBlind (va_Pc As (bPre D cs sz w0)) := by
  intro a U g mk q
  obtain ⟨q0, q1, q2, q3, q4, q5⟩ := q
  exact ⟨q0, q1, q2, va_K.moved (Vm.Alike.refl U.vm) q3, q4, av_Nw.same (s := U) (U := U.calling g mk a) rfl q5⟩
theorem b_enter {l : Launch} {D : va_G} {cs : Nat → ClassId} {d kc ks : Nat} {mi : av_mi} {As : List Value} {w0 : va_W} {sz : Nat} {P : va_W → Prop} (hme : av_me mi) (hret : mi.2.2.2.1 = none) (hsz : Nat.ble (lg_sl As).length mi.2.2.1 = true) (hnm : mi.1.name = "<init>")
    (k : ∀ (p : Program) (e : Env) (R : Room) (s : State) (m : MethodId) (args : Array Value) (below : List Frame) (meth : Method) (c : Code) (lsA : Array Slot), bCx D cs kc ks mi.1.cls mi.2.1 mi.2.2.1 p R s m args c → meth.sig.returnType = none → meth.locks = false → meth.name = "<init>" → d ≤ R.frames → 45 * d ≤ R.locals → va_P D vwCl w0 s.heap → va_D (va_A w0 s.heap.size) w0 → (∀ q : Nat, s.heap.size ≤ q → va_A w0 s.heap.size q) → lv_has lsA mi.2.2.1 (lv_args 0 As) →
      W p l e R s m args below meth c s.heap [] 0 0 (MQ below (va_Qv P (fun (w : va_W) (t : State) => va_P D vwCl w t.heap ∧ va_D (va_A w0 s.heap.size) w) (va_A w0 s.heap.size)) args s kc ks (va_A w0 s.heap.size)) (F0 m 0 lsA [])) : bMt l D cs d kc ks mi As w0 sz P := by
  unfold bMt
  refine Met.ofW (cc := mi.2.1) (maxL := mi.2.2.1) (ret := mi.2.2.2.1) hme.2.2.2 rfl ?_
  intro p e s m args below meth c s₁ B hml hv
  obtain ⟨rfl, rfl, hP, hK, hD, hN⟩ := hv
  have hts := atoms_spec (ws := Cond.code mi.1 mi.2.1 mi.2.2.1 mi.2.2.2.1 :: av_WT) B.pre
  have hl := lv_entry As (n := mi.2.2.1) (Nat.le_of_ble_eq_true hsz)
  rw [lg_entry_eq]
  have hr := B.returns
  rw [hret] at hr
  exact k p e _ s m _ below meth c _ ⟨B.exec, B.bytes, hml, findClass_of_methodNamed B.named, fun w hw => hts w (List.mem_cons_of_mem _ hw), hK, hN, Nat.le_refl _, Nat.le_refl _⟩ hr B.notSynchronized ((name_of_methodNamed B.named B.method).1.trans hnm) (Nat.le_refl _) (Nat.le_refl _) hP hD.self (fun q h => Or.inr h) hl
section BB
variable {p : Program} {l : Launch} {e : Env} {R : Room} {s : State} {m : MethodId} {args : Array Value} {below : List Frame} {meth : Method} {c : Code} {H : Heap} {locs : List Loc} {cells slots : Nat} {Q : State → Prop}
variable {D : va_G} {cs : Nat → ClassId} {kc ks : Nat} {own : String} {cc : ByteArray} {nL : Nat} {A : Nat → Prop} {ls : Array Slot} {pc : Nat} {ws : va_W} {rest : List Value}
theorem b_newa (C : bCx D cs kc ks own cc nL p R s m args c) {atype : ArrayType} {ty : FieldType} (hty : newarray.typeOf atype = ty) (h3 : ty = .int ∨ ty = .long ∨ ty = .boolean) (t0 : Nat) (ht : (bT cs)[t0]? = some (cs t0, ty)) (hP : va_P D vwCl ws H) (hD : va_D A ws) (hS : va_S A s.heap H locs) (hA : ∀ q : Nat, s.heap.size ≤ q → A q)
    {n : Int32} {N' : Nat} {a0 : vp_A} (ha : ∀ cA : ClassId, vp_cell cA a0 = arrV cA N' (fun _ => defaultValue ty)) (hn : ¬ n < 0) (hN : n.toNatClampNeg = N') (hbytes : N' * componentBytes ty ≤ 536870912) (hc : cells + 1 ≤ kc) (hs : slots + N' ≤ ks) (hdg : decode cc pc = .ok (.newarray atype, 2))
    (kk : ∀ (q : Nat) (H1 : Heap), va_P D vwCl (ws ++ [(q, .inl (cs t0, a0))]) H1 → va_D A (ws ++ [(q, .inl (cs t0, a0))]) → va_S A s.heap H1 locs →
      W p l e R s m args below meth c H1 locs (cells + 1) (slots + N') Q (F0 m (pc + 2) ls (.ref q :: rest))) : W p l e R s m args below meth c H locs cells slots Q (F0 m pc ls (.int n :: rest)) := by
  obtain ⟨hx, hb, hml, hown, hts, hK, hNw, hkc, hks⟩ := C
  have harr : Cond.arrayClass ty ∈ av_WT := by
    rcases h3 with rfl | rfl | rfl <;> exact av_in (by decide +kernel) rfl
  refine va_newa (ty := ty) hx hb (by rw [hty]; exact hts _ harr) hty hK hP hD hS hA ha hn hN hbytes (Nat.le_trans hc hkc) (Nat.le_trans hs hks) hdg (fun q cA H1 hK1 hP1 hD1 hS1 => ?_)
  have e1 := (hK.2 t0 _ ht).2
  have e2 := (hK1.2 (bT cs).length (cA, ty) (by simp)).2
  have e3 : cA = cs t0 := by
    rcases h3 with rfl | rfl | rfl <;> exact (Option.some.inj (e1.symm.trans e2)).symm
  subst e3
  exact kk q H1 hP1 hD1 hS1
theorem b_call (C : bCx D cs kc ks own cc nL p R s m args c) {mi' : av_mi} {ix n d mc ms b : Nat} {As : List Value} {wc wr : va_W} {P : va_W → Prop} (hme : av_me mi') (hret : mi'.2.2.2.1 = none) (hlink : Cond.methodLink own ix mi'.1 ∈ av_WT ∨ ∃ host : String, Cond.methodLinkNest own ix mi'.1 host ∈ av_NW) (hnm : mi'.1.name = "<init>") (hinst : Cond.instanceMethod mi'.1 ∈ av_WT) (hpar : (parseMethodDescriptor mi'.1.desc).map (fun d => d.parameters.length) = some n) (hn : As.length = n)
    (hM : ∀ sz, bMt l D cs d mc ms mi' (.ref b :: As) wc sz P) (hfr : d + 1 ≤ R.frames) (hlo : 8 + (mi'.2.2.1 + 11) + 45 * d ≤ R.locals)
    (hP : va_P D vwCl ws H) (hD : va_D A ws) (hS : va_S A s.heap H locs) (hA : ∀ q : Nat, s.heap.size ≤ q → A q) (isC isR : List Nat) (hC : isC.map (fun i => ws[i]?) = wc.map some) (hC2 : isC.filterMap (fun i => ws[i]?) = wc) (hR : isR.map (fun i => ws[i]?) = wr.map some) (hnd : va_nd isR = true) (hndC : va_nd isC = true) (hdis : ∀ i ∈ isR, i ∉ isC)
    (hls : ls.size = nL) (hrm : (rest.map fun v => v.category).sum ≤ 8) (hdg : decode cc pc = .ok (.invokespecial ix, 3)) (hc : cells + mc ≤ kc) (hs : slots + ms ≤ ks) {st : List Value} (hst : st = As.reverse ++ .ref b :: rest)
    (kk : ∀ (w1 : va_W) (H1 : Heap) (locs1 : List Loc), P w1 → va_P D vwCl (wr ++ w1) H1 → va_D A (wr ++ w1) → va_S A s.heap H1 locs1 → W p l e R s m args below meth c H1 locs1 (cells + mc) (slots + ms) Q (F0 m (pc + 3) ls rest)) : W p l e R s m args below meth c H locs cells slots Q (F0 m pc ls st) := by
  obtain ⟨hx, hb, hml, hown, hts, hK, hNw, hkc, hks⟩ := C
  obtain ⟨y, bytes, maxL, ret, T⟩ := mi'
  dsimp only at hret hlink hnm hinst hpar hlo
  subst hret
  subst hst
  have hsig : ∀ sig, parseMethodDescriptor y.desc = some sig → n = sig.parameters.length := fun sig h => by rw [h] at hpar; exact (Option.some.inj hpar).symm
  have hPc := hP.sub isC hC2
  have hDc := (hD.sub isC hndC hC).weaken (B := fun _ => True) (fun _ _ _ _ => trivial)
  have hFc := va_free (wc := wc) hD hS hA isC hC
  have hpre : PreS s H (va_Pc (.ref b :: As) (bPre D cs H.size wc)) (.ref b :: As) := ⟨bPre_blind, fun U hU hW => ⟨rfl, by rw [hU], by rw [hU]; exact hPc, va_K.moved hW.alike hK, hDc, hNw.warm hW⟩⟩
  have hrun : va_Run p l e R s m args below meth c H locs cells slots mc ms (F0 m pc ls (As.reverse ++ .ref b :: rest)) rest (va_Qv P (fun (w : va_W) (t : State) => va_P D vwCl w t.heap ∧ va_D (va_A wc H.size) w) (va_A wc H.size) (Value.ref b :: As).toArray) (va_A wc H.size) := by
    rcases hlink with hlink | ⟨host, hlink⟩
    · exact va_runI (cc := cc) (nL := nL) (Ts := av_WT) ⟨hx, hb, hml, hown, hts⟩ (hM H.size) ⟨⟨rfl, rfl, hfr, hlo, av_words hts hme, List.mem_cons_self, hts _ hme.1, hts _ hme.2.1, hme.2.2.1, hsig, hts _ hlink⟩, hnm, hts _ hinst⟩ hpre rfl hn hls rfl (lv_room hrm) hdg ⟨Nat.le_trans hc hkc, Nat.le_trans hs hks⟩
    · exact va_runIN (cc := cc) (nL := nL) (Ts := av_WT) ⟨hx, hb, hml, hown, hts⟩ (hM H.size) ⟨⟨⟨rfl, rfl, hfr, hlo, av_words hts hme, List.mem_cons_self⟩, hts _ hme.1, hts _ hme.2.1, hme.2.2.1, hsig, va_Nw.use rfl (hNw _ hlink)⟩, hnm, hts _ hinst⟩ hpre rfl hn hls rfl (lv_room hrm) hdg ⟨Nat.le_trans hc hkc, Nat.le_trans hs hks⟩
  refine va_callv hrun hS (fun q _ h => hFc q h) hFc (fun w1 t H1 locs1 ht hvm hp hB hz1 hk1 hS1 => ?_)
  obtain ⟨hP1, hD1⟩ := hB
  rw [ht] at hP1
  obtain ⟨hP2, hD2⟩ := va_join (wr := wr) (w1 := w1) hP hD isC isR hC hR hnd hdis hk1 hFc hP1 hD1
  exact kk w1 H1 locs1 hp hP2 hD2 hS1
end BB
