/-! ===== the reference: how far it is blown up ===== -/
theorem fl_lt {x y u v : Int} (hy : 0 < y) (hv : 0 < v) (hx : 0 ≤ x) (hu : 0 ≤ u) (h : u.tdiv v < x.tdiv y) : u * y < x * v := by
  have e1 := av_trem (x := x) (y := y)
  have e2 := av_trem (x := u) (y := v)
  have r1 := Int.tmod_nonneg y hx
  have r2 := Int.tmod_lt_of_pos u hv
  have ex : x = x.tdiv y * y + x.tmod y := by omega
  have eu : u = u.tdiv v * v + u.tmod v := by omega
  generalize x.tdiv y = q at h ex
  generalize u.tdiv v = p at h eu
  generalize x.tmod y = r at r1 ex
  generalize u.tmod v = s at r2 eu
  have k1 : 0 ≤ r * v := Int.mul_nonneg r1 (by omega)
  have k2 : s * y ≤ (v - 1) * y := Int.mul_le_mul_of_nonneg_right (by omega) (by omega)
  have k3 : 0 ≤ (q - p - 1) * (v * y) := Int.mul_nonneg (by omega) (Int.mul_nonneg (by omega) (by omega))
  have e : x * v - u * y = (q - p - 1) * (v * y) + r * v + ((v - 1) * y - s * y) + y := by rw [ex, eu]; grind
  omega
theorem fl_eq {x y u v : Int} (h : u.tdiv v = x.tdiv y) : x * v - u * y = x.tmod y * v - u.tmod v * y := by
  rw [av_trem, av_trem, h]
  grind
set_option maxRecDepth 100000 in
set_option maxHeartbeats 800000 in
theorem l_X8_isAbove (E : av_E) (d : Nat) (M : av_M) (a0 b0 c0 d0 : Int) : ∀ (t : Nat) (x y u v : Int), y < t → (0 ≤ x ∧ x < 9223372036854775807) → (0 < y ∧ y < 9223372036854775807) → (0 ≤ u ∧ u < 9223372036854775807) → (0 < v ∧ v < 9223372036854775807) → ((∀ R : Prop, (R ↔ u * y < x * v) → av_S E d mX8_isAbove 17 [(0, vL a0), (2, vL b0), (4, vL c0), (6, vL d0), (8, vL x), (10, vL y), (12, vL u), (14, vL v), (16, vI 0)] [] M (av_X (some (vI (b01 R))) M)) ∧ (∀ R : Prop, (R ↔ x * v < u * y) → av_S E d mX8_isAbove 17 [(0, vL a0), (2, vL b0), (4, vL c0), (6, vL d0), (8, vL x), (10, vL y), (12, vL u), (14, vL v), (16, vI 1)] [] M (av_X (some (vI (b01 R))) M))) := by
  intro t
  induction t with
  | zero =>
    intro x y u v ht hx hy hu hv
    omega
  | succ t ih =>
    intro x y u v ht hx hy hu hv
    constructor
    · intro R hR
      have hy1 : y ≠ 0 := by omega
      have hv1 : v ≠ 0 := by omega
      have rx0 := Int.tmod_nonneg y hx.1
      have rx1 := Int.tmod_lt_of_pos x hy.1
      have ru0 := Int.tmod_nonneg v hu.1
      have ru1 := Int.tmod_lt_of_pos u hv.1
      have qx0 : 0 ≤ x.tdiv y := Int.tdiv_nonneg hx.1 (by omega)
      have qu0 : 0 ≤ u.tdiv v := Int.tdiv_nonneg hu.1 (by omega)
      have qx1 : x.tdiv y ≤ x := by
        rw [Int.tdiv_eq_ediv_of_nonneg hx.1]
        exact Int.ediv_le_self y hx.1
      have qu1 : u.tdiv v ≤ u := by
        rw [Int.tdiv_eq_ediv_of_nonneg hu.1]
        exact Int.ediv_le_self v hu.1
      have fl1 : u.tdiv v < x.tdiv y → u * y < x * v := fl_lt hy.1 hv.1 hx.1 hu.1
      have fl2 : x.tdiv y < u.tdiv v → x * v < u * y := fl_lt hv.1 hy.1 hu.1 hx.1
      have fe : u.tdiv v = x.tdiv y → x * v - u * y = x.tmod y * v - u.tmod v * y := fl_eq
      have p1 : 0 < x.tmod y → 0 < x.tmod y * v := fun q => Int.mul_pos q hv.1
      have p2 : 0 < u.tmod v → 0 < u.tmod v * y := fun q => Int.mul_pos q hy.1
      have p3 : x.tmod y = 0 → x.tmod y * v = 0 := fun q => by rw [q, Int.zero_mul]
      have p4 : u.tmod v = 0 → u.tmod v * y = 0 := fun q => by rw [q, Int.zero_mul]
      refine ax_lload rfl rfl ?_
      refine ax_lload rfl rfl ?_
      refine ax_ldiv rfl (by omega) (by omega) (by omega) ?_
      refine ax_lload rfl rfl ?_
      refine ax_lload rfl rfl ?_
      refine ax_ldiv rfl (by omega) (by omega) (by omega) ?_
      refine ax_lif_ne rfl rfl (by omega) (by omega) (fun h27 => ?_) (fun h27 => ?_)
      · refine ax_lload rfl rfl ?_
        refine ax_lload rfl rfl ?_
        refine ax_ldiv rfl (by omega) (by omega) (by omega) ?_
        refine ax_lload rfl rfl ?_
        refine ax_lload rfl rfl ?_
        refine ax_ldiv rfl (by omega) (by omega) (by omega) ?_
        refine ax_lif_le rfl rfl (by omega) (by omega) (fun h148 => ?_) (fun h148 => ?_)
        · refine ax_iconst rfl ?_
          refine ax_iload rfl rfl ?_
          refine ax_icmp_eq rfl (by omega) (by omega) (fun h159 => ?_) (fun h159 => ?_)
          · refine ax_iconst rfl ?_
            refine ax_zret rfl rfl (by omega) ?_
            refine av_rI ?_
            rw [b01_iff hR]
            first
              | omega
              | exact (b01_t (by omega)).symm
              | exact (b01_f (by omega)).symm
          · refine ax_iconst rfl ?_
            refine ax_goto rfl ?_
            refine ax_zret rfl rfl (by omega) ?_
            refine av_rI ?_
            rw [b01_iff hR]
            first
              | omega
              | exact (b01_t (by omega)).symm
              | exact (b01_f (by omega)).symm
        · refine ax_iconst rfl ?_
          refine ax_goto rfl ?_
          refine ax_iload rfl rfl ?_
          refine ax_icmp_eq rfl (by omega) (by omega) (fun h159 => ?_) (fun h159 => ?_)
          · refine ax_iconst rfl ?_
            refine ax_zret rfl rfl (by omega) ?_
            refine av_rI ?_
            rw [b01_iff hR]
            first
              | omega
              | exact (b01_t (by omega)).symm
              | exact (b01_f (by omega)).symm
          · refine ax_iconst rfl ?_
            refine ax_goto rfl ?_
            refine ax_zret rfl rfl (by omega) ?_
            refine av_rI ?_
            rw [b01_iff hR]
            first
              | omega
              | exact (b01_t (by omega)).symm
              | exact (b01_f (by omega)).symm
      · refine ax_lload rfl rfl ?_
        refine ax_lload rfl rfl ?_
        refine ax_lrem rfl (by omega) (by omega) (by omega) ?_
        refine ax_lstore (ls' := [(0, _), (2, _), (4, _), (6, _), (8, _), (10, _), (12, _), (14, _), (16, _), (17, _)]) rfl rfl rfl ?_
        refine ax_lload rfl rfl ?_
        refine ax_lload rfl rfl ?_
        refine ax_lrem rfl (by omega) (by omega) (by omega) ?_
        refine ax_lstore (ls' := [(0, _), (2, _), (4, _), (6, _), (8, _), (10, _), (12, _), (14, _), (16, _), (17, _), (19, _)]) rfl rfl rfl ?_
        refine ax_lload rfl rfl ?_
        refine ax_lconst (w := 0) rfl rfl ?_
        refine ax_lif_eq rfl rfl (by omega) (by omega) (fun h48 => ?_) (fun h48 => ?_)
        · refine ax_iload rfl rfl ?_
          refine ax_if_eq rfl (by omega) (fun h61 => ?_) (fun h61 => ?_)
          · refine ax_lload rfl rfl ?_
            refine ax_lconst (w := 0) rfl rfl ?_
            refine ax_lif_ne rfl rfl (by omega) (by omega) (fun h90 => ?_) (fun h90 => ?_)
            · refine ax_iconst rfl ?_
              refine ax_zret rfl rfl (by omega) ?_
              refine av_rI ?_
              rw [b01_iff hR]
              first
                | omega
                | exact (b01_t (by omega)).symm
                | exact (b01_f (by omega)).symm
            · refine ax_lload rfl rfl ?_
              refine ax_lconst (w := 0) rfl rfl ?_
              refine ax_lif_le rfl rfl (by omega) (by omega) (fun h97 => ?_) (fun h97 => ?_)
              · refine ax_iconst rfl ?_
                refine ax_zret rfl rfl (by omega) ?_
                refine av_rI ?_
                rw [b01_iff hR]
                first
                  | omega
                  | exact (b01_t (by omega)).symm
                  | exact (b01_f (by omega)).symm
              · refine ax_iconst rfl ?_
                refine ax_goto rfl ?_
                refine ax_zret rfl rfl (by omega) ?_
                refine av_rI ?_
                rw [b01_iff hR]
                first
                  | omega
                  | exact (b01_t (by omega)).symm
                  | exact (b01_f (by omega)).symm
          · refine ax_lload rfl rfl ?_
            refine ax_lload rfl rfl ?_
            refine ax_lif_ge rfl rfl (by omega) (by omega) (fun h68 => ?_) (fun h68 => ?_)
            · refine ax_iconst rfl ?_
              refine ax_goto rfl ?_
              refine ax_zret rfl rfl (by omega) ?_
              refine av_rI ?_
              rw [b01_iff hR]
              first
                | omega
                | exact (b01_t (by omega)).symm
                | exact (b01_f (by omega)).symm
            · refine ax_lload rfl rfl ?_
              refine ax_lconst (w := 0) rfl rfl ?_
              refine ax_lif_ne rfl rfl (by omega) (by omega) (fun h75 => ?_) (fun h75 => ?_)
              · refine ax_iconst rfl ?_
                refine ax_goto rfl ?_
                refine ax_zret rfl rfl (by omega) ?_
                refine av_rI ?_
                rw [b01_iff hR]
                first
                  | omega
                  | exact (b01_t (by omega)).symm
                  | exact (b01_f (by omega)).symm
              · refine ax_iconst rfl ?_
                refine ax_goto rfl ?_
                refine ax_zret rfl rfl (by omega) ?_
                refine av_rI ?_
                rw [b01_iff hR]
                first
                  | omega
                  | exact (b01_t (by omega)).symm
                  | exact (b01_f (by omega)).symm
        · refine ax_lload rfl rfl ?_
          refine ax_lconst (w := 0) rfl rfl ?_
          refine ax_lif_ne rfl rfl (by omega) (by omega) (fun h55 => ?_) (fun h55 => ?_)
          · refine ax_lload rfl rfl ?_
            refine ax_lstore (ls' := [(0, _), (2, _), (4, _), (6, _), (8, _), (10, _), (12, _), (14, _), (16, _), (17, _), (19, _)]) rfl rfl rfl ?_
            refine ax_lload rfl rfl ?_
            refine ax_lstore (ls' := [(0, _), (2, _), (4, _), (6, _), (8, _), (10, _), (12, _), (14, _), (16, _), (17, _), (19, _)]) rfl rfl rfl ?_
            refine ax_lload rfl rfl ?_
            refine ax_lstore (ls' := [(0, _), (2, _), (4, _), (6, _), (8, _), (10, _), (12, _), (14, _), (16, _), (17, _), (19, _)]) rfl rfl rfl ?_
            refine ax_lload rfl rfl ?_
            refine ax_lstore (ls' := [(0, _), (2, _), (4, _), (6, _), (8, _), (10, _), (12, _), (14, _), (16, _), (17, _), (19, _)]) rfl rfl rfl ?_
            refine ax_iload rfl rfl ?_
            refine ax_if_ne rfl (by omega) (fun h125 => ?_) (fun h125 => ?_)
            · refine ax_iconst rfl ?_
              refine ax_istore (ls' := [(0, _), (2, _), (4, _), (6, _), (8, _), (10, _), (12, _), (14, _), (16, _), (17, _), (19, _)]) rfl rfl rfl ?_
              refine ax_goto rfl ?_
              first
                | omega
                | (have e0 : u.tdiv v = x.tdiv y := by omega
                   have e1 := fe e0
                   have c1 := Int.mul_comm y (u.tmod v)
                   have c2 := Int.mul_comm v (x.tmod y)
                   refine ax_pick [0, 1, 2, 3, 4, 5, 6, 7, 8] rfl ?_
                   exact (ih y (x.tmod y) v (u.tmod v) (by omega) (by omega) (by omega) (by omega) (by omega)).2 R (hR.trans ⟨fun q => by omega, fun q => by omega⟩))
            · refine ax_iconst rfl ?_
              refine ax_goto rfl ?_
              refine ax_istore (ls' := [(0, _), (2, _), (4, _), (6, _), (8, _), (10, _), (12, _), (14, _), (16, _), (17, _), (19, _)]) rfl rfl rfl ?_
              refine ax_goto rfl ?_
              first
                | omega
                | (have e0 : u.tdiv v = x.tdiv y := by omega
                   have e1 := fe e0
                   have c1 := Int.mul_comm y (u.tmod v)
                   have c2 := Int.mul_comm v (x.tmod y)
                   refine ax_pick [0, 1, 2, 3, 4, 5, 6, 7, 8] rfl ?_
                   exact (ih y (x.tmod y) v (u.tmod v) (by omega) (by omega) (by omega) (by omega) (by omega)).2 R (hR.trans ⟨fun q => by omega, fun q => by omega⟩))
          · refine ax_iload rfl rfl ?_
            refine ax_if_eq rfl (by omega) (fun h61 => ?_) (fun h61 => ?_)
            · refine ax_lload rfl rfl ?_
              refine ax_lconst (w := 0) rfl rfl ?_
              refine ax_lif_ne rfl rfl (by omega) (by omega) (fun h90 => ?_) (fun h90 => ?_)
              · refine ax_iconst rfl ?_
                refine ax_zret rfl rfl (by omega) ?_
                refine av_rI ?_
                rw [b01_iff hR]
                first
                  | omega
                  | exact (b01_t (by omega)).symm
                  | exact (b01_f (by omega)).symm
              · refine ax_lload rfl rfl ?_
                refine ax_lconst (w := 0) rfl rfl ?_
                refine ax_lif_le rfl rfl (by omega) (by omega) (fun h97 => ?_) (fun h97 => ?_)
                · refine ax_iconst rfl ?_
                  refine ax_zret rfl rfl (by omega) ?_
                  refine av_rI ?_
                  rw [b01_iff hR]
                  first
                    | omega
                    | exact (b01_t (by omega)).symm
                    | exact (b01_f (by omega)).symm
                · refine ax_iconst rfl ?_
                  refine ax_goto rfl ?_
                  refine ax_zret rfl rfl (by omega) ?_
                  refine av_rI ?_
                  rw [b01_iff hR]
                  first
                    | omega
                    | exact (b01_t (by omega)).symm
                    | exact (b01_f (by omega)).symm
            · refine ax_lload rfl rfl ?_
              refine ax_lload rfl rfl ?_
              refine ax_lif_ge rfl rfl (by omega) (by omega) (fun h68 => ?_) (fun h68 => ?_)
              · refine ax_iconst rfl ?_
                refine ax_goto rfl ?_
                refine ax_zret rfl rfl (by omega) ?_
                refine av_rI ?_
                rw [b01_iff hR]
                first
                  | omega
                  | exact (b01_t (by omega)).symm
                  | exact (b01_f (by omega)).symm
              · refine ax_lload rfl rfl ?_
                refine ax_lconst (w := 0) rfl rfl ?_
                refine ax_lif_ne rfl rfl (by omega) (by omega) (fun h75 => ?_) (fun h75 => ?_)
                · refine ax_iconst rfl ?_
                  refine ax_goto rfl ?_
                  refine ax_zret rfl rfl (by omega) ?_
                  refine av_rI ?_
                  rw [b01_iff hR]
                  first
                    | omega
                    | exact (b01_t (by omega)).symm
                    | exact (b01_f (by omega)).symm
                · refine ax_iconst rfl ?_
                  refine ax_goto rfl ?_
                  refine ax_zret rfl rfl (by omega) ?_
                  refine av_rI ?_
                  rw [b01_iff hR]
                  first
                    | omega
                    | exact (b01_t (by omega)).symm
                    | exact (b01_f (by omega)).symm
    · intro R hR
      have hy1 : y ≠ 0 := by omega
      have hv1 : v ≠ 0 := by omega
      have rx0 := Int.tmod_nonneg y hx.1
      have rx1 := Int.tmod_lt_of_pos x hy.1
      have ru0 := Int.tmod_nonneg v hu.1
      have ru1 := Int.tmod_lt_of_pos u hv.1
      have qx0 : 0 ≤ x.tdiv y := Int.tdiv_nonneg hx.1 (by omega)
      have qu0 : 0 ≤ u.tdiv v := Int.tdiv_nonneg hu.1 (by omega)
      have qx1 : x.tdiv y ≤ x := by
        rw [Int.tdiv_eq_ediv_of_nonneg hx.1]
        exact Int.ediv_le_self y hx.1
      have qu1 : u.tdiv v ≤ u := by
        rw [Int.tdiv_eq_ediv_of_nonneg hu.1]
        exact Int.ediv_le_self v hu.1
      have fl1 : u.tdiv v < x.tdiv y → u * y < x * v := fl_lt hy.1 hv.1 hx.1 hu.1
      have fl2 : x.tdiv y < u.tdiv v → x * v < u * y := fl_lt hv.1 hy.1 hu.1 hx.1
      have fe : u.tdiv v = x.tdiv y → x * v - u * y = x.tmod y * v - u.tmod v * y := fl_eq
      have p1 : 0 < x.tmod y → 0 < x.tmod y * v := fun q => Int.mul_pos q hv.1
      have p2 : 0 < u.tmod v → 0 < u.tmod v * y := fun q => Int.mul_pos q hy.1
      have p3 : x.tmod y = 0 → x.tmod y * v = 0 := fun q => by rw [q, Int.zero_mul]
      have p4 : u.tmod v = 0 → u.tmod v * y = 0 := fun q => by rw [q, Int.zero_mul]
      refine ax_lload rfl rfl ?_
      refine ax_lload rfl rfl ?_
      refine ax_ldiv rfl (by omega) (by omega) (by omega) ?_
      refine ax_lload rfl rfl ?_
      refine ax_lload rfl rfl ?_
      refine ax_ldiv rfl (by omega) (by omega) (by omega) ?_
      refine ax_lif_ne rfl rfl (by omega) (by omega) (fun h27 => ?_) (fun h27 => ?_)
      · refine ax_lload rfl rfl ?_
        refine ax_lload rfl rfl ?_
        refine ax_ldiv rfl (by omega) (by omega) (by omega) ?_
        refine ax_lload rfl rfl ?_
        refine ax_lload rfl rfl ?_
        refine ax_ldiv rfl (by omega) (by omega) (by omega) ?_
        refine ax_lif_le rfl rfl (by omega) (by omega) (fun h148 => ?_) (fun h148 => ?_)
        · refine ax_iconst rfl ?_
          refine ax_iload rfl rfl ?_
          refine ax_icmp_eq rfl (by omega) (by omega) (fun h159 => ?_) (fun h159 => ?_)
          · refine ax_iconst rfl ?_
            refine ax_zret rfl rfl (by omega) ?_
            refine av_rI ?_
            rw [b01_iff hR]
            first
              | omega
              | exact (b01_t (by omega)).symm
              | exact (b01_f (by omega)).symm
          · refine ax_iconst rfl ?_
            refine ax_goto rfl ?_
            refine ax_zret rfl rfl (by omega) ?_
            refine av_rI ?_
            rw [b01_iff hR]
            first
              | omega
              | exact (b01_t (by omega)).symm
              | exact (b01_f (by omega)).symm
        · refine ax_iconst rfl ?_
          refine ax_goto rfl ?_
          refine ax_iload rfl rfl ?_
          refine ax_icmp_eq rfl (by omega) (by omega) (fun h159 => ?_) (fun h159 => ?_)
          · refine ax_iconst rfl ?_
            refine ax_zret rfl rfl (by omega) ?_
            refine av_rI ?_
            rw [b01_iff hR]
            first
              | omega
              | exact (b01_t (by omega)).symm
              | exact (b01_f (by omega)).symm
          · refine ax_iconst rfl ?_
            refine ax_goto rfl ?_
            refine ax_zret rfl rfl (by omega) ?_
            refine av_rI ?_
            rw [b01_iff hR]
            first
              | omega
              | exact (b01_t (by omega)).symm
              | exact (b01_f (by omega)).symm
      · refine ax_lload rfl rfl ?_
        refine ax_lload rfl rfl ?_
        refine ax_lrem rfl (by omega) (by omega) (by omega) ?_
        refine ax_lstore (ls' := [(0, _), (2, _), (4, _), (6, _), (8, _), (10, _), (12, _), (14, _), (16, _), (17, _)]) rfl rfl rfl ?_
        refine ax_lload rfl rfl ?_
        refine ax_lload rfl rfl ?_
        refine ax_lrem rfl (by omega) (by omega) (by omega) ?_
        refine ax_lstore (ls' := [(0, _), (2, _), (4, _), (6, _), (8, _), (10, _), (12, _), (14, _), (16, _), (17, _), (19, _)]) rfl rfl rfl ?_
        refine ax_lload rfl rfl ?_
        refine ax_lconst (w := 0) rfl rfl ?_
        refine ax_lif_eq rfl rfl (by omega) (by omega) (fun h48 => ?_) (fun h48 => ?_)
        · refine ax_iload rfl rfl ?_
          refine ax_if_eq rfl (by omega) (fun h61 => ?_) (fun h61 => ?_)
          · refine ax_lload rfl rfl ?_
            refine ax_lconst (w := 0) rfl rfl ?_
            refine ax_lif_ne rfl rfl (by omega) (by omega) (fun h90 => ?_) (fun h90 => ?_)
            · refine ax_iconst rfl ?_
              refine ax_zret rfl rfl (by omega) ?_
              refine av_rI ?_
              rw [b01_iff hR]
              first
                | omega
                | exact (b01_t (by omega)).symm
                | exact (b01_f (by omega)).symm
            · refine ax_lload rfl rfl ?_
              refine ax_lconst (w := 0) rfl rfl ?_
              refine ax_lif_le rfl rfl (by omega) (by omega) (fun h97 => ?_) (fun h97 => ?_)
              · refine ax_iconst rfl ?_
                refine ax_zret rfl rfl (by omega) ?_
                refine av_rI ?_
                rw [b01_iff hR]
                first
                  | omega
                  | exact (b01_t (by omega)).symm
                  | exact (b01_f (by omega)).symm
              · refine ax_iconst rfl ?_
                refine ax_goto rfl ?_
                refine ax_zret rfl rfl (by omega) ?_
                refine av_rI ?_
                rw [b01_iff hR]
                first
                  | omega
                  | exact (b01_t (by omega)).symm
                  | exact (b01_f (by omega)).symm
          · refine ax_lload rfl rfl ?_
            refine ax_lload rfl rfl ?_
            refine ax_lif_ge rfl rfl (by omega) (by omega) (fun h68 => ?_) (fun h68 => ?_)
            · refine ax_iconst rfl ?_
              refine ax_goto rfl ?_
              refine ax_zret rfl rfl (by omega) ?_
              refine av_rI ?_
              rw [b01_iff hR]
              first
                | omega
                | exact (b01_t (by omega)).symm
                | exact (b01_f (by omega)).symm
            · refine ax_lload rfl rfl ?_
              refine ax_lconst (w := 0) rfl rfl ?_
              refine ax_lif_ne rfl rfl (by omega) (by omega) (fun h75 => ?_) (fun h75 => ?_)
              · refine ax_iconst rfl ?_
                refine ax_goto rfl ?_
                refine ax_zret rfl rfl (by omega) ?_
                refine av_rI ?_
                rw [b01_iff hR]
                first
                  | omega
                  | exact (b01_t (by omega)).symm
                  | exact (b01_f (by omega)).symm
              · refine ax_iconst rfl ?_
                refine ax_goto rfl ?_
                refine ax_zret rfl rfl (by omega) ?_
                refine av_rI ?_
                rw [b01_iff hR]
                first
                  | omega
                  | exact (b01_t (by omega)).symm
                  | exact (b01_f (by omega)).symm
        · refine ax_lload rfl rfl ?_
          refine ax_lconst (w := 0) rfl rfl ?_
          refine ax_lif_ne rfl rfl (by omega) (by omega) (fun h55 => ?_) (fun h55 => ?_)
          · refine ax_lload rfl rfl ?_
            refine ax_lstore (ls' := [(0, _), (2, _), (4, _), (6, _), (8, _), (10, _), (12, _), (14, _), (16, _), (17, _), (19, _)]) rfl rfl rfl ?_
            refine ax_lload rfl rfl ?_
            refine ax_lstore (ls' := [(0, _), (2, _), (4, _), (6, _), (8, _), (10, _), (12, _), (14, _), (16, _), (17, _), (19, _)]) rfl rfl rfl ?_
            refine ax_lload rfl rfl ?_
            refine ax_lstore (ls' := [(0, _), (2, _), (4, _), (6, _), (8, _), (10, _), (12, _), (14, _), (16, _), (17, _), (19, _)]) rfl rfl rfl ?_
            refine ax_lload rfl rfl ?_
            refine ax_lstore (ls' := [(0, _), (2, _), (4, _), (6, _), (8, _), (10, _), (12, _), (14, _), (16, _), (17, _), (19, _)]) rfl rfl rfl ?_
            refine ax_iload rfl rfl ?_
            refine ax_if_ne rfl (by omega) (fun h125 => ?_) (fun h125 => ?_)
            · refine ax_iconst rfl ?_
              refine ax_istore (ls' := [(0, _), (2, _), (4, _), (6, _), (8, _), (10, _), (12, _), (14, _), (16, _), (17, _), (19, _)]) rfl rfl rfl ?_
              refine ax_goto rfl ?_
              first
                | omega
                | (have e0 : u.tdiv v = x.tdiv y := by omega
                   have e1 := fe e0
                   have c1 := Int.mul_comm y (u.tmod v)
                   have c2 := Int.mul_comm v (x.tmod y)
                   refine ax_pick [0, 1, 2, 3, 4, 5, 6, 7, 8] rfl ?_
                   exact (ih y (x.tmod y) v (u.tmod v) (by omega) (by omega) (by omega) (by omega) (by omega)).1 R (hR.trans ⟨fun q => by omega, fun q => by omega⟩))
            · refine ax_iconst rfl ?_
              refine ax_goto rfl ?_
              refine ax_istore (ls' := [(0, _), (2, _), (4, _), (6, _), (8, _), (10, _), (12, _), (14, _), (16, _), (17, _), (19, _)]) rfl rfl rfl ?_
              refine ax_goto rfl ?_
              first
                | omega
                | (have e0 : u.tdiv v = x.tdiv y := by omega
                   have e1 := fe e0
                   have c1 := Int.mul_comm y (u.tmod v)
                   have c2 := Int.mul_comm v (x.tmod y)
                   refine ax_pick [0, 1, 2, 3, 4, 5, 6, 7, 8] rfl ?_
                   exact (ih y (x.tmod y) v (u.tmod v) (by omega) (by omega) (by omega) (by omega) (by omega)).1 R (hR.trans ⟨fun q => by omega, fun q => by omega⟩))
          · refine ax_iload rfl rfl ?_
            refine ax_if_eq rfl (by omega) (fun h61 => ?_) (fun h61 => ?_)
            · refine ax_lload rfl rfl ?_
              refine ax_lconst (w := 0) rfl rfl ?_
              refine ax_lif_ne rfl rfl (by omega) (by omega) (fun h90 => ?_) (fun h90 => ?_)
              · refine ax_iconst rfl ?_
                refine ax_zret rfl rfl (by omega) ?_
                refine av_rI ?_
                rw [b01_iff hR]
                first
                  | omega
                  | exact (b01_t (by omega)).symm
                  | exact (b01_f (by omega)).symm
              · refine ax_lload rfl rfl ?_
                refine ax_lconst (w := 0) rfl rfl ?_
                refine ax_lif_le rfl rfl (by omega) (by omega) (fun h97 => ?_) (fun h97 => ?_)
                · refine ax_iconst rfl ?_
                  refine ax_zret rfl rfl (by omega) ?_
                  refine av_rI ?_
                  rw [b01_iff hR]
                  first
                    | omega
                    | exact (b01_t (by omega)).symm
                    | exact (b01_f (by omega)).symm
                · refine ax_iconst rfl ?_
                  refine ax_goto rfl ?_
                  refine ax_zret rfl rfl (by omega) ?_
                  refine av_rI ?_
                  rw [b01_iff hR]
                  first
                    | omega
                    | exact (b01_t (by omega)).symm
                    | exact (b01_f (by omega)).symm
            · refine ax_lload rfl rfl ?_
              refine ax_lload rfl rfl ?_
              refine ax_lif_ge rfl rfl (by omega) (by omega) (fun h68 => ?_) (fun h68 => ?_)
              · refine ax_iconst rfl ?_
                refine ax_goto rfl ?_
                refine ax_zret rfl rfl (by omega) ?_
                refine av_rI ?_
                rw [b01_iff hR]
                first
                  | omega
                  | exact (b01_t (by omega)).symm
                  | exact (b01_f (by omega)).symm
              · refine ax_lload rfl rfl ?_
                refine ax_lconst (w := 0) rfl rfl ?_
                refine ax_lif_ne rfl rfl (by omega) (by omega) (fun h75 => ?_) (fun h75 => ?_)
                · refine ax_iconst rfl ?_
                  refine ax_goto rfl ?_
                  refine ax_zret rfl rfl (by omega) ?_
                  refine av_rI ?_
                  rw [b01_iff hR]
                  first
                    | omega
                    | exact (b01_t (by omega)).symm
                    | exact (b01_f (by omega)).symm
                · refine ax_iconst rfl ?_
                  refine ax_goto rfl ?_
                  refine ax_zret rfl rfl (by omega) ?_
                  refine av_rI ?_
                  rw [b01_iff hR]
                  first
                    | omega
                    | exact (b01_t (by omega)).symm
                    | exact (b01_f (by omega)).symm
set_option maxRecDepth 100000 in
set_option maxHeartbeats 800000 in
theorem c_X8_isAbove (E : av_E) (d : Nat) (M : av_M) (a0 b0 c0 d0 : Int) (h1 : 0 ≤ a0 ∧ a0 < 9223372036854775807) (h2 : 0 < b0 ∧ b0 < 9223372036854775807) (h3 : 0 ≤ c0 ∧ c0 < 9223372036854775807) (h4 : 0 < d0 ∧ d0 < 9223372036854775807) : av_Mt E d mX8_isAbove [vL a0, vL b0, vL c0, vL d0] M (av_X (some (vI (b01 (c0 * b0 < a0 * d0)))) M) := by
  refine av_enter hX8_isAbove oX8_isAbove rfl rfl ?_
  refine ax_lloadn rfl rfl ?_
  refine ax_lstore (ls' := [(0, _), (2, _), (4, _), (6, _), (8, _)]) rfl rfl rfl ?_
  refine ax_lloadn rfl rfl ?_
  refine ax_lstore (ls' := [(0, _), (2, _), (4, _), (6, _), (8, _), (10, _)]) rfl rfl rfl ?_
  refine ax_lload rfl rfl ?_
  refine ax_lstore (ls' := [(0, _), (2, _), (4, _), (6, _), (8, _), (10, _), (12, _)]) rfl rfl rfl ?_
  refine ax_lload rfl rfl ?_
  refine ax_lstore (ls' := [(0, _), (2, _), (4, _), (6, _), (8, _), (10, _), (12, _), (14, _)]) rfl rfl rfl ?_
  refine ax_iconst rfl ?_
  refine ax_istore (ls' := [(0, _), (2, _), (4, _), (6, _), (8, _), (10, _), (12, _), (14, _), (16, _)]) rfl rfl rfl ?_
  exact (l_X8_isAbove E d M a0 b0 c0 d0 (b0 + 1).toNat a0 b0 c0 d0 (by omega) h1 h2 h3 h4).1 _ Iff.rfl
