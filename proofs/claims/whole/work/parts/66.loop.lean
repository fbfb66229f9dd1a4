/-! ===== the law: its loop ===== -/
theorem lw_loop {E : av_E} {p : Program} {e : Env} {s : State} {m : MethodId} {below : List Frame} {meth : Method} {c : Code} {b L : Nat} {xs : Nat → Int32} (C : lCx E p s m meth c b L xs) : ∀ (n : Nat) (i : Int) (M : av_M), JR M → 0 ≤ i → i ≤ 2560 → (L : Int) + 5 - i ≤ n → lwS E p e s m below meth c b 18 (lwL i) [] M := by
  intro n
  induction n with
  | zero =>
    intro i M hJ h0 h1 h2 H lsA hP hS hL
    obtain ⟨⟨hx, hb, hr, hml, hown, hts, hX, hbl, hlk, hgv⟩, hK, hinj, hA, h61, hZ, hN, hL2⟩ := id C
    refine lv_iload_n hx hb dL_law_18 rfl (lv_at hL 3 rfl) ?_
    refine lv_aload_n hx hb dL_law_19 rfl (lv_at hL 0 rfl) ?_
    rw [h61]
    refine va_slen hx hb hX hbl (Nat.not_le.mpr hbl) hS dL_law_20 ?_
    refine lv_iconst (v := Int32.ofInt 5) hx hb dL_law_21 rfl ?_
    refine lv_isub hx hb dL_law_22 ?_
    rw [← Int32.ofInt_eq_ofNat, ← Int32.ofInt_sub]
    refine lv_icmp_gt (tgt := 1336) hx hb dL_law_23 (by decide) (fun _ => ?_) (fun h => ?_)
    · refine lv_iconst (v := 1) hx hb dL_law_1336 (by decide) ?_
      exact lw_ret hx hb hr hlk dL_law_1337
    · exact absurd ((av_lt32 (x := (L : Int) - 5) (y := i) (by omega) (by omega)).mpr (by omega)) h
  | succ n ih =>
    intro i M hJ h0 h1 h2 H lsA hP hS hL
    obtain ⟨⟨hx, hb, hr, hml, hown, hts, hX, hbl, hlk, hgv⟩, hK, hinj, hA, h61, hZ, hN, hL2⟩ := id C
    refine lv_iload_n hx hb dL_law_18 rfl (lv_at hL 3 rfl) ?_
    refine lv_aload_n hx hb dL_law_19 rfl (lv_at hL 0 rfl) ?_
    rw [h61]
    refine va_slen hx hb hX hbl (Nat.not_le.mpr hbl) hS dL_law_20 ?_
    refine lv_iconst (v := Int32.ofInt 5) hx hb dL_law_21 rfl ?_
    refine lv_isub hx hb dL_law_22 ?_
    rw [← Int32.ofInt_eq_ofNat, ← Int32.ofInt_sub]
    refine lv_icmp_gt (tgt := 1336) hx hb dL_law_23 (by decide) (fun _ => ?_) (fun h => ?_)
    · refine lv_iconst (v := 1) hx hb dL_law_1336 (by decide) ?_
      exact lw_ret hx hb hr hlk dL_law_1337
    · have hi : i ≤ (L : Int) - 5 := by
        apply Classical.byContradiction
        intro q
        exact h ((av_lt32 (x := (L : Int) - 5) (y := i) (by omega) (by omega)).mpr (by omega))
      have cont : ∀ M1, JR M1 → lwS E p e s m below meth c b 1330 (lwL i) [] M1 := by
        intro M1 hJ1 H1 ls1 hP1 hS1 hL1
        refine lv_iinc (k := 3) (v := Int32.ofInt (i + 5)) (lv' := [(3, .int (Int32.ofInt (i + 5))), (0, av_c E (vR 61)), (1, av_c E (vR 0)), (2, av_c E (vR 35))]) hx hb dL_law_1330 hL1 rfl (Int32.ofInt_add i 5).symm (by decide) rfl (fun ls2 hl2 => ?_)
        refine lv_goto (tgt := 18) hx hb dL_law_1333 (by decide) ?_
        exact ih (i + 5) M1 hJ1 (by omega) (by omega) (by omega) H1 ls2 hP1 hS1 (lv_sub hl2 [1, 2, 3, 0] rfl)
      refine lv_aload_n hx hb dL_law_26 rfl (lv_at hL 0 rfl) ?_
      refine lv_iload_n hx hb dL_law_27 rfl (lv_at hL 3 rfl) ?_
      rw [h61]
      obtain ⟨v1, v2⟩ := lw_vin (z := i) (n := L) (by omega) (by omega)
      refine va_sld hx hb hX hbl (Nat.not_le.mpr hbl) hS v1 dL_law_28 ?_
      refine lv_bipush (v := 63) hx hb dL_law_29 (by decide) ?_
      refine lv_iand hx hb dL_law_31 ?_
      refine lv_topi (fun v _ => ?_)
      by_cases hw : v.toInt < 0 ∨ 39 < v.toInt
      · exact lv_tableOut (tgt := 1330) hx hb dL_law_32 hw (by decide) (cont M hJ H lsA hP hS hL)
      rcases (show v.toInt = 0 ∨ v.toInt = 1 ∨ v.toInt = 2 ∨ v.toInt = 3 ∨ v.toInt = 4 ∨ v.toInt = 5 ∨ v.toInt = 6 ∨ v.toInt = 7 ∨ v.toInt = 8 ∨ v.toInt = 9 ∨ v.toInt = 10 ∨ v.toInt = 11 ∨ v.toInt = 12 ∨ v.toInt = 13 ∨ v.toInt = 14 ∨ v.toInt = 15 ∨ v.toInt = 16 ∨ v.toInt = 17 ∨ v.toInt = 18 ∨ v.toInt = 19 ∨ v.toInt = 20 ∨ v.toInt = 21 ∨ v.toInt = 22 ∨ v.toInt = 23 ∨ v.toInt = 24 ∨ v.toInt = 25 ∨ v.toInt = 26 ∨ v.toInt = 27 ∨ v.toInt = 28 ∨ v.toInt = 29 ∨ v.toInt = 30 ∨ v.toInt = 31 ∨ v.toInt = 32 ∨ v.toInt = 33 ∨ v.toInt = 34 ∨ v.toInt = 35 ∨ v.toInt = 36 ∨ v.toInt = 37 ∨ v.toInt = 38 ∨ v.toInt = 39 by omega) with hv | hv | hv | hv | hv | hv | hv | hv | hv | hv | hv | hv | hv | hv | hv | hv | hv | hv | hv | hv | hv | hv | hv | hv | hv | hv | hv | hv | hv | hv | hv | hv | hv | hv | hv | hv | hv | hv | hv | hv
      · exact lv_tableIn (off := 176) (tgt := 208) hx hb dL_law_32 (by omega) (by omega) (by rw [hv]; rfl) (by decide) (lc_0 C hJ (by omega) cont H lsA hP hS hL)
      · exact lv_tableIn (off := 209) (tgt := 241) hx hb dL_law_32 (by omega) (by omega) (by rw [hv]; rfl) (by decide) (lc_1 C hJ (by omega) cont H lsA hP hS hL)
      · exact lv_tableIn (off := 252) (tgt := 284) hx hb dL_law_32 (by omega) (by omega) (by rw [hv]; rfl) (by decide) (lc_2 C hJ (by omega) cont H lsA hP hS hL)
      · exact lv_tableIn (off := 265) (tgt := 297) hx hb dL_law_32 (by omega) (by omega) (by rw [hv]; rfl) (by decide) (lc_3 C hJ (by omega) cont H lsA hP hS hL)
      · exact lv_tableIn (off := 278) (tgt := 310) hx hb dL_law_32 (by omega) (by omega) (by rw [hv]; rfl) (by decide) (lc_4 C hJ (by omega) cont H lsA hP hS hL)
      · exact lv_tableIn (off := 327) (tgt := 359) hx hb dL_law_32 (by omega) (by omega) (by rw [hv]; rfl) (by decide) (lc_5 C hJ (by omega) cont H lsA hP hS hL)
      · exact lv_tableIn (off := 360) (tgt := 392) hx hb dL_law_32 (by omega) (by omega) (by rw [hv]; rfl) (by decide) (lc_6 C hJ (by omega) cont H lsA hP hS hL)
      · exact lv_tableIn (off := 393) (tgt := 425) hx hb dL_law_32 (by omega) (by omega) (by rw [hv]; rfl) (by decide) (lc_7 C hJ (by omega) cont H lsA hP hS hL)
      · exact lv_tableIn (off := 406) (tgt := 438) hx hb dL_law_32 (by omega) (by omega) (by rw [hv]; rfl) (by decide) (lc_8 C hJ (by omega) cont H lsA hP hS hL)
      · exact lv_tableIn (off := 419) (tgt := 451) hx hb dL_law_32 (by omega) (by omega) (by rw [hv]; rfl) (by decide) (lc_9 C hJ (by omega) cont H lsA hP hS hL)
      · exact lv_tableIn (off := 432) (tgt := 464) hx hb dL_law_32 (by omega) (by omega) (by rw [hv]; rfl) (by decide) (lc_10 C hJ (by omega) cont H lsA hP hS hL)
      · exact lv_tableIn (off := 445) (tgt := 477) hx hb dL_law_32 (by omega) (by omega) (by rw [hv]; rfl) (by decide) (lc_11 C hJ (by omega) cont H lsA hP hS hL)
      · exact lv_tableIn (off := 458) (tgt := 490) hx hb dL_law_32 (by omega) (by omega) (by rw [hv]; rfl) (by decide) (lc_12 C hJ (by omega) cont H lsA hP hS hL)
      · exact lv_tableIn (off := 471) (tgt := 503) hx hb dL_law_32 (by omega) (by omega) (by rw [hv]; rfl) (by decide) (lc_13 C hJ (by omega) cont H lsA hP hS hL)
      · exact lv_tableIn (off := 484) (tgt := 516) hx hb dL_law_32 (by omega) (by omega) (by rw [hv]; rfl) (by decide) (lc_14 C hJ (by omega) cont H lsA hP hS hL)
      · exact lv_tableIn (off := 517) (tgt := 549) hx hb dL_law_32 (by omega) (by omega) (by rw [hv]; rfl) (by decide) (lc_15 C hJ (by omega) cont H lsA hP hS hL)
      · exact lv_tableIn (off := 586) (tgt := 618) hx hb dL_law_32 (by omega) (by omega) (by rw [hv]; rfl) (by decide) (lc_16 C hJ (by omega) cont H lsA hP hS hL)
      · exact lv_tableIn (off := 599) (tgt := 631) hx hb dL_law_32 (by omega) (by omega) (by rw [hv]; rfl) (by decide) (lc_17 C hJ (by omega) cont H lsA hP hS hL)
      · exact lv_tableIn (off := 612) (tgt := 644) hx hb dL_law_32 (by omega) (by omega) (by rw [hv]; rfl) (by decide) (lc_18 C hJ (by omega) cont H lsA hP hS hL)
      · exact lv_tableIn (off := 665) (tgt := 697) hx hb dL_law_32 (by omega) (by omega) (by rw [hv]; rfl) (by decide) (lc_19 C hJ (by omega) cont H lsA hP hS hL)
      · exact lv_tableIn (off := 698) (tgt := 730) hx hb dL_law_32 (by omega) (by omega) (by rw [hv]; rfl) (by decide) (lc_20 C hJ (by omega) cont H lsA hP hS hL)
      · exact lv_tableIn (off := 747) (tgt := 779) hx hb dL_law_32 (by omega) (by omega) (by rw [hv]; rfl) (by decide) (lc_21 C hJ (by omega) cont H lsA hP hS hL)
      · exact lv_tableIn (off := 780) (tgt := 812) hx hb dL_law_32 (by omega) (by omega) (by rw [hv]; rfl) (by decide) (lc_22 C hJ (by omega) cont H lsA hP hS hL)
      · exact lv_tableIn (off := 793) (tgt := 825) hx hb dL_law_32 (by omega) (by omega) (by rw [hv]; rfl) (by decide) (lc_23 C hJ (by omega) cont H lsA hP hS hL)
      · exact lv_tableIn (off := 806) (tgt := 838) hx hb dL_law_32 (by omega) (by omega) (by rw [hv]; rfl) (by decide) (lc_24 C hJ (by omega) cont H lsA hP hS hL)
      · exact lv_tableIn (off := 866) (tgt := 898) hx hb dL_law_32 (by omega) (by omega) (by rw [hv]; rfl) (by decide) (lc_25 C hJ (by omega) cont H lsA hP hS hL)
      · exact lv_tableIn (off := 889) (tgt := 921) hx hb dL_law_32 (by omega) (by omega) (by rw [hv]; rfl) (by decide) (lc_26 C hJ (by omega) cont H lsA hP hS hL)
      · exact lv_tableIn (off := 902) (tgt := 934) hx hb dL_law_32 (by omega) (by omega) (by rw [hv]; rfl) (by decide) (lc_27 C hJ (by omega) cont H lsA hP hS hL)
      · exact lv_tableIn (off := 925) (tgt := 957) hx hb dL_law_32 (by omega) (by omega) (by rw [hv]; rfl) (by decide) (lc_28 C hJ (by omega) cont H lsA hP hS hL)
      · exact lv_tableIn (off := 938) (tgt := 970) hx hb dL_law_32 (by omega) (by omega) (by rw [hv]; rfl) (by decide) (lc_29 C hJ (by omega) cont H lsA hP hS hL)
      · exact lv_tableIn (off := 1014) (tgt := 1046) hx hb dL_law_32 (by omega) (by omega) (by rw [hv]; rfl) (by decide) (lc_30 C hJ (by omega) cont H lsA hP hS hL)
      · exact lv_tableIn (off := 1027) (tgt := 1059) hx hb dL_law_32 (by omega) (by omega) (by rw [hv]; rfl) (by decide) (lc_31 C hJ (by omega) cont H lsA hP hS hL)
      · exact lv_tableIn (off := 1040) (tgt := 1072) hx hb dL_law_32 (by omega) (by omega) (by rw [hv]; rfl) (by decide) (lc_32 C hJ (by omega) cont H lsA hP hS hL)
      · exact lv_tableIn (off := 1053) (tgt := 1085) hx hb dL_law_32 (by omega) (by omega) (by rw [hv]; rfl) (by decide) (lc_33 C hJ (by omega) cont H lsA hP hS hL)
      · exact lv_tableIn (off := 1066) (tgt := 1098) hx hb dL_law_32 (by omega) (by omega) (by rw [hv]; rfl) (by decide) (lc_34 C hJ (by omega) cont H lsA hP hS hL)
      · exact lv_tableIn (off := 1089) (tgt := 1121) hx hb dL_law_32 (by omega) (by omega) (by rw [hv]; rfl) (by decide) (lc_35 C hJ (by omega) cont H lsA hP hS hL)
      · exact lv_tableIn (off := 1129) (tgt := 1161) hx hb dL_law_32 (by omega) (by omega) (by rw [hv]; rfl) (by decide) (lc_36 C hJ (by omega) cont H lsA hP hS hL)
      · exact lv_tableIn (off := 1162) (tgt := 1194) hx hb dL_law_32 (by omega) (by omega) (by rw [hv]; rfl) (by decide) (lc_37 C hJ (by omega) cont H lsA hP hS hL)
      · exact lv_tableIn (off := 1232) (tgt := 1264) hx hb dL_law_32 (by omega) (by omega) (by rw [hv]; rfl) (by decide) (lc_38 C hJ (by omega) cont H lsA hP hS hL)
      · exact lv_tableIn (off := 1275) (tgt := 1307) hx hb dL_law_32 (by omega) (by omega) (by rw [hv]; rfl) (by decide) (lc_39 C hJ (by omega) cont H lsA hP hS hL)
