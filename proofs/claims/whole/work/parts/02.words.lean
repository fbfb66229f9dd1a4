/-! the words that calls and fields need, by name -/
def av_fl (own : String) (idx ci f : Nat) : Prop := ∃ (C : String) (T : u_T) (N : Nat), vwCl[ci]? = some (C, T, N) ∧ f < N ∧ (∀ w ∈ u_ws C T N, w ∈ av_WT) ∧ (Cond.fieldLink own idx (T f).1 (T f).2.1 (T f).2.2.1 ∈ av_WT ∨ ∃ host : String, Cond.fieldLinkNest own idx (T f).1 (T f).2.1 (T f).2.2.1 host ∈ av_NW)
def av_fp (own : String) (idx ci f : Nat) (ty : FieldType) : Prop := ∃ (C : String) (T : u_T) (N : Nat) (ty0 : Nat → FieldType), vwCl[ci]? = some (C, T, N) ∧ f < N ∧ (∀ w ∈ u_ws C T N, w ∈ av_WT) ∧ Cond.fieldLink own idx (T f).1 (T f).2.1 (T f).2.2.1 ∈ av_WT ∧ (∀ k, k < N → parseFieldDescriptor (T k).2.2.1 = some (ty0 k)) ∧ (∀ a, a < N → ∀ b, b < N → a ≠ b → (T a).2.1 ≠ (T b).2.1) ∧ (T f).2.2.2 = false ∧ parseFieldDescriptor (T f).2.2.1 = some ty
def av_cv (own : String) (idx : Nat) (mi : av_mi) (ci n : Nat) : Prop := Cond.methodLink own idx mi.1 ∈ av_WT ∧ Cond.instanceMethod mi.1 ∈ av_WT ∧ Cond.selects mi.1.cls mi.1 mi.1 ∈ av_WT ∧ (∃ q : vw_C, vwCl[ci]? = some q ∧ q.1 = mi.1.cls) ∧ (parseMethodDescriptor mi.1.desc).map (fun d => d.parameters.length) = some n
def av_cs0 (own : String) (idx : Nat) (mi : av_mi) (n : Nat) : Prop := (Cond.methodLink own idx mi.1 ∈ av_WT ∨ ∃ host : String, Cond.methodLinkNest own idx mi.1 host ∈ av_NW) ∧ Cond.static mi.1 ∈ av_WT ∧ (parseMethodDescriptor mi.1.desc).map (fun d => d.parameters.length) = some n
theorem av_init : Cond.initialized "GreaterBodiesLaw" ∈ av_WT ∧ Cond.initialized "GreaterBodies" ∈ av_WT ∧ Cond.initialized "GreaterBodies$Figure" ∈ av_WT ∧ Cond.initialized "GreaterBodies$Outline" ∈ av_WT ∧ Cond.initialized "GreaterBodies$Tables" ∈ av_WT ∧ Cond.initialized "GreaterBodies$Body" ∈ av_WT ∧ Cond.initialized "GreaterBodies$Walls" ∈ av_WT ∧ Cond.initialized "GreaterBodies$Meets" ∈ av_WT ∧ Cond.initialized "GreaterBodies$Choice" ∈ av_WT ∧ Cond.initialized "GreaterBodiesModel" ∈ av_WT ∧ Cond.initialized "java/lang/Long" ∈ av_WT ∧ Cond.initialized "java/lang/Math" ∈ av_WT ∧ Cond.initialized "java/lang/Integer" ∈ av_WT := by
  refine ⟨?_, ?_, ?_, ?_, ?_, ?_, ?_, ?_, ?_, ?_, ?_, ?_, ?_⟩ <;> exact av_in (by decide +kernel) rfl
set_option maxRecDepth 100000 in
theorem hX0_walls : av_me mX0_walls := ⟨av_in (w := Cond.code yX0_walls prog_2_method_2_code 1 (some (.object "GreaterBodies$Walls"))) (List.mem_append_right _ (List.mem_append_right _ (List.mem_append_left _ (List.mem_of_getElem? (i := 189) rfl)))) rfl, av_init.2.2.2.2.2.1, by decide +kernel, by decide +kernel⟩
set_option maxRecDepth 100000 in
theorem hX0_meets : av_me mX0_meets := ⟨av_in (w := Cond.code yX0_meets prog_2_method_3_code 1 (some (.object "GreaterBodies$Meets"))) (List.mem_append_right _ (List.mem_append_right _ (List.mem_append_left _ (List.mem_of_getElem? (i := 185) rfl)))) rfl, av_init.2.2.2.2.2.1, by decide +kernel, by decide +kernel⟩
set_option maxRecDepth 100000 in
theorem hX0_outline : av_me mX0_outline := ⟨av_in (w := Cond.code yX0_outline prog_2_method_4_code 1 (some (.object "GreaterBodies$Outline"))) (List.mem_append_right _ (List.mem_append_right _ (List.mem_append_right _ (List.mem_append_left _ (List.mem_of_getElem? (i := 239) rfl))))) rfl, av_init.2.2.2.2.2.1, by decide +kernel, by decide +kernel⟩
set_option maxRecDepth 100000 in
theorem hX0_size : av_me mX0_size := ⟨av_in (w := Cond.code yX0_size prog_2_method_5_code 1 (some .int)) (List.mem_append_right _ (List.mem_append_right _ (List.mem_append_right _ (List.mem_append_left _ (List.mem_of_getElem? (i := 171) rfl))))) rfl, av_init.2.2.2.2.2.1, by decide +kernel, by decide +kernel⟩
set_option maxRecDepth 100000 in
theorem hX0_isSound : av_me mX0_isSound := ⟨av_in (w := Cond.code yX0_isSound prog_2_method_6_code 1 (some .boolean)) (List.mem_append_right _ (List.mem_append_right _ (List.mem_append_right _ (List.mem_append_left _ (List.mem_of_getElem? (i := 163) rfl))))) rfl, av_init.2.2.2.2.2.1, by decide +kernel, by decide +kernel⟩
set_option maxRecDepth 100000 in
theorem hX0_has : av_me mX0_has := ⟨av_in (w := Cond.code yX0_has prog_2_method_7_code 2 (some .boolean)) (List.mem_append_right _ (List.mem_append_right _ (List.mem_append_right _ (List.mem_append_left _ (List.mem_of_getElem? (i := 179) rfl))))) rfl, av_init.2.2.2.2.2.1, by decide +kernel, by decide +kernel⟩
set_option maxRecDepth 100000 in
theorem hX0_build : av_me mX0_build := ⟨av_in (w := Cond.code yX0_build prog_2_method_8_code 6 (some .int)) (List.mem_append_right _ (List.mem_append_right _ (List.mem_append_right _ (List.mem_append_left _ (List.mem_of_getElem? (i := 60) rfl))))) rfl, av_init.2.2.2.2.2.1, by decide +kernel, by decide +kernel⟩
set_option maxRecDepth 100000 in
theorem hX0_push : av_me mX0_push := ⟨av_in (w := Cond.code yX0_push prog_2_method_9_code 4 (some .int)) (List.mem_append_right _ (List.mem_append_right _ (List.mem_append_right _ (List.mem_append_left _ (List.mem_of_getElem? (i := 134) rfl))))) rfl, av_init.2.2.2.2.2.1, by decide +kernel, by decide +kernel⟩
set_option maxRecDepth 100000 in
theorem hX0_turn : av_me mX0_turn := ⟨av_in (w := Cond.code yX0_turn prog_2_method_10_code 4 (some .int)) (List.mem_append_right _ (List.mem_append_right _ (List.mem_append_right _ (List.mem_append_left _ (List.mem_of_getElem? (i := 146) rfl))))) rfl, av_init.2.2.2.2.2.1, by decide +kernel, by decide +kernel⟩
set_option maxRecDepth 100000 in
theorem hX0_carve : av_me mX0_carve := ⟨av_in (w := Cond.code yX0_carve prog_2_method_11_code 3 none) (List.mem_append_right _ (List.mem_append_right _ (List.mem_append_right _ (List.mem_append_left _ (List.mem_of_getElem? (i := 103) rfl))))) rfl, av_init.2.2.2.2.2.1, by decide +kernel, by decide +kernel⟩
set_option maxRecDepth 100000 in
theorem hX0_addVertex : av_me mX0_addVertex := ⟨av_in (w := Cond.code yX0_addVertex prog_2_method_12_code 4 none) (List.mem_append_right _ (List.mem_append_right _ (List.mem_append_right _ (List.mem_append_left _ (List.mem_of_getElem? (i := 110) rfl))))) rfl, av_init.2.2.2.2.2.1, by decide +kernel, by decide +kernel⟩
set_option maxRecDepth 100000 in
theorem hX0_coordinate : av_me mX0_coordinate := ⟨av_in (w := Cond.code yX0_coordinate prog_2_method_13_code 6 (some .long)) (List.mem_append_right _ (List.mem_append_right _ (List.mem_append_right _ (List.mem_append_left _ (List.mem_of_getElem? (i := 184) rfl))))) rfl, av_init.2.2.2.2.2.1, by decide +kernel, by decide +kernel⟩
set_option maxRecDepth 100000 in
theorem hX0_tightAt : av_me mX0_tightAt := ⟨av_in (w := Cond.code yX0_tightAt prog_2_method_14_code 2 (some .int)) (List.mem_append_right _ (List.mem_append_right _ (List.mem_append_right _ (List.mem_append_left _ (List.mem_of_getElem? (i := 201) rfl))))) rfl, av_init.2.2.2.2.2.1, by decide +kernel, by decide +kernel⟩
set_option maxRecDepth 100000 in
theorem hX0_rimCount : av_me mX0_rimCount := ⟨av_in (w := Cond.code yX0_rimCount prog_2_method_15_code 4 (some .int)) (List.mem_append_right _ (List.mem_append_right _ (List.mem_append_right _ (List.mem_append_left _ (List.mem_of_getElem? (i := 213) rfl))))) rfl, av_init.2.2.2.2.2.1, by decide +kernel, by decide +kernel⟩
set_option maxRecDepth 100000 in
theorem hX0_isRim : av_me mX0_isRim := ⟨av_in (w := Cond.code yX0_isRim prog_2_method_16_code 5 (some .boolean)) (List.mem_append_right _ (List.mem_append_right _ (List.mem_append_right _ (List.mem_append_left _ (List.mem_of_getElem? (i := 217) rfl))))) rfl, av_init.2.2.2.2.2.1, by decide +kernel, by decide +kernel⟩
set_option maxRecDepth 100000 in
theorem hX0_isIdle : av_me mX0_isIdle := ⟨av_in (w := Cond.code yX0_isIdle prog_2_method_17_code 4 (some .boolean)) (List.mem_append_right _ (List.mem_append_right _ (List.mem_append_right _ (List.mem_append_left _ (List.mem_of_getElem? (i := 226) rfl))))) rfl, av_init.2.2.2.2.2.1, by decide +kernel, by decide +kernel⟩
set_option maxRecDepth 100000 in
theorem hX0_firstBest : av_me mX0_firstBest := ⟨av_in (w := Cond.code yX0_firstBest prog_2_method_18_code 10 (some .int)) (List.mem_append_right _ (List.mem_append_right _ (List.mem_append_right _ (List.mem_append_right _ (List.mem_append_left _ (List.mem_of_getElem? (i := 75) rfl)))))) rfl, av_init.2.2.2.2.2.1, by decide +kernel, by decide +kernel⟩
set_option maxRecDepth 100000 in
theorem hX0_valueAt : av_me mX0_valueAt := ⟨av_in (w := Cond.code yX0_valueAt prog_2_method_19_code 6 (some .long)) (List.mem_append_right _ (List.mem_append_right _ (List.mem_append_right _ (List.mem_append_right _ (List.mem_append_left _ (List.mem_of_getElem? (i := 83) rfl)))))) rfl, av_init.2.2.2.2.2.1, by decide +kernel, by decide +kernel⟩
set_option maxRecDepth 100000 in
theorem hX0_over : av_me mX0_over := ⟨av_in (w := Cond.code yX0_over prog_2_method_20_code 6 (some .int)) (List.mem_append_right _ (List.mem_append_right _ (List.mem_append_right _ (List.mem_append_right _ (List.mem_append_left _ (List.mem_of_getElem? (i := 79) rfl)))))) rfl, av_init.2.2.2.2.2.1, by decide +kernel, by decide +kernel⟩
set_option maxRecDepth 100000 in
theorem hX1_forget : av_me mX1_forget := ⟨av_in (w := Cond.code yX1_forget prog_3_method_2_code 1 none) (List.mem_append_right _ (List.mem_append_left _ (List.mem_of_getElem? (i := 227) rfl))) rfl, av_init.2.2.2.2.2.2.2.2.1, by decide +kernel, by decide +kernel⟩
set_option maxRecDepth 100000 in
theorem hX1_walls : av_me mX1_walls := ⟨av_in (w := Cond.code yX1_walls prog_3_method_3_code 3 (some .int)) (List.mem_append_right _ (List.mem_append_right _ (List.mem_append_left _ (List.mem_of_getElem? (i := 179) rfl)))) rfl, av_init.2.2.2.2.2.2.2.2.1, by decide +kernel, by decide +kernel⟩
set_option maxRecDepth 100000 in
theorem hX1_search : av_me mX1_search := ⟨av_in (w := Cond.code yX1_search prog_3_method_4_code 8 (some .int)) (List.mem_append_right _ (List.mem_append_right _ (List.mem_append_left _ (List.mem_of_getElem? (i := 197) rfl)))) rfl, av_init.2.2.2.2.2.2.2.2.1, by decide +kernel, by decide +kernel⟩
set_option maxRecDepth 100000 in
theorem hX1_mirror : av_me mX1_mirror := ⟨av_in (w := Cond.code yX1_mirror prog_3_method_5_code 3 (some .int)) (List.mem_append_right _ (List.mem_append_right _ (List.mem_append_right _ (List.mem_append_left _ (List.mem_of_getElem? (i := 3) rfl))))) rfl, av_init.2.2.2.2.2.2.2.2.1, by decide +kernel, by decide +kernel⟩
set_option maxRecDepth 100000 in
theorem hX1_castAll : av_me mX1_castAll := ⟨av_in (w := Cond.code yX1_castAll prog_3_method_6_code 6 (some .int)) (List.mem_append_right _ (List.mem_append_right _ (List.mem_append_left _ (List.mem_of_getElem? (i := 202) rfl)))) rfl, av_init.2.2.2.2.2.2.2.2.1, by decide +kernel, by decide +kernel⟩
set_option maxRecDepth 100000 in
theorem hX1_cast : av_me mX1_cast := ⟨av_in (w := Cond.code yX1_cast prog_3_method_7_code 5 (some .int)) (List.mem_append_right _ (List.mem_append_right _ (List.mem_append_left _ (List.mem_of_getElem? (i := 221) rfl)))) rfl, av_init.2.2.2.2.2.2.2.2.1, by decide +kernel, by decide +kernel⟩
set_option maxRecDepth 100000 in
theorem hX1_shows : av_me mX1_shows := ⟨av_in (w := Cond.code yX1_shows prog_3_method_8_code 6 (some .boolean)) (List.mem_append_right _ (List.mem_append_right _ (List.mem_append_right _ (List.mem_append_left _ (List.mem_of_getElem? (i := 7) rfl))))) rfl, av_init.2.2.2.2.2.2.2.2.1, by decide +kernel, by decide +kernel⟩
set_option maxRecDepth 100000 in
theorem hX2_size : av_me mX2_size := ⟨av_in (w := Cond.code yX2_size prog_4_method_2_code 1 (some .int)) (List.mem_append_right _ (List.mem_append_left _ (List.mem_of_getElem? (i := 222) rfl))) rfl, av_init.2.2.1, by decide +kernel, by decide +kernel⟩
set_option maxRecDepth 100000 in
theorem hX2_hull : av_me mX2_hull := ⟨av_in (w := Cond.code yX2_hull prog_4_method_3_code 1 (some (.object "GreaterBodies$Outline"))) (List.mem_append_right _ (List.mem_append_right _ (List.mem_append_left _ (List.mem_of_getElem? (i := 48) rfl)))) rfl, av_init.2.2.1, by decide +kernel, by decide +kernel⟩
set_option maxRecDepth 100000 in
theorem hX2_isFlat : av_me mX2_isFlat := ⟨av_in (w := Cond.code yX2_isFlat prog_4_method_4_code 1 (some .boolean)) (List.mem_append_right _ (List.mem_append_right _ (List.mem_append_left _ (List.mem_of_getElem? (i := 76) rfl)))) rfl, av_init.2.2.1, by decide +kernel, by decide +kernel⟩
set_option maxRecDepth 100000 in
theorem hX2_add : av_me mX2_add := ⟨av_in (w := Cond.code yX2_add prog_4_method_5_code 4 (some .int)) (List.mem_append_right _ (List.mem_append_left _ (List.mem_of_getElem? (i := 231) rfl))) rfl, av_init.2.2.1, by decide +kernel, by decide +kernel⟩
set_option maxRecDepth 100000 in
theorem hX2_put : av_me mX2_put := ⟨av_in (w := Cond.code yX2_put prog_4_method_6_code 4 none) (List.mem_append_right _ (List.mem_append_left _ (List.mem_of_getElem? (i := 235) rfl))) rfl, av_init.2.2.1, by decide +kernel, by decide +kernel⟩
set_option maxRecDepth 100000 in
theorem hX2_drop : av_me mX2_drop := ⟨av_in (w := Cond.code yX2_drop prog_4_method_7_code 2 (some .int)) (List.mem_append_right _ (List.mem_append_right _ (List.mem_append_left _ (List.mem_of_getElem? (i := 40) rfl)))) rfl, av_init.2.2.1, by decide +kernel, by decide +kernel⟩
set_option maxRecDepth 100000 in
theorem hX2_draw : av_me mX2_draw := ⟨av_in (w := Cond.code yX2_draw prog_4_method_8_code 2 none) (List.mem_append_right _ (List.mem_append_left _ (List.mem_of_getElem? (i := 239) rfl))) rfl, av_init.2.2.1, by decide +kernel, by decide +kernel⟩
set_option maxRecDepth 100000 in
theorem hX2_wallPart : av_me mX2_wallPart := ⟨av_in (w := Cond.code yX2_wallPart prog_4_method_9_code 9 (some .int)) (List.mem_append_right _ (List.mem_append_right _ (List.mem_append_left _ (List.mem_of_getElem? (i := 82) rfl)))) rfl, av_init.2.2.1, by decide +kernel, by decide +kernel⟩
set_option maxRecDepth 100000 in
theorem hX2_gap : av_me mX2_gap := ⟨av_in (w := Cond.code yX2_gap prog_4_method_10_code 3 (some .int)) (List.mem_append_right _ (List.mem_append_right _ (List.mem_append_left _ (List.mem_of_getElem? (i := 102) rfl)))) rfl, av_init.2.2.1, by decide +kernel, by decide +kernel⟩
set_option maxRecDepth 100000 in
theorem hX2_openPairs : av_me mX2_openPairs := ⟨av_in (w := Cond.code yX2_openPairs prog_4_method_11_code 4 (some .int)) (List.mem_append_right _ (List.mem_append_right _ (List.mem_append_left _ (List.mem_of_getElem? (i := 119) rfl)))) rfl, av_init.2.2.1, by decide +kernel, by decide +kernel⟩
set_option maxRecDepth 100000 in
theorem hX2_twiceArea : av_me mX2_twiceArea := ⟨av_in (w := Cond.code yX2_twiceArea prog_4_method_12_code 4 (some .int)) (List.mem_append_right _ (List.mem_append_right _ (List.mem_append_left _ (List.mem_of_getElem? (i := 111) rfl)))) rfl, av_init.2.2.1, by decide +kernel, by decide +kernel⟩
set_option maxRecDepth 100000 in
theorem hX2_greatest : av_me mX2_greatest := ⟨av_in (w := Cond.code yX2_greatest prog_4_method_13_code 5 (some .int)) (List.mem_append_right _ (List.mem_append_right _ (List.mem_append_right _ (List.mem_append_right _ (List.mem_append_left _ (List.mem_of_getElem? (i := 62) rfl)))))) rfl, av_init.2.2.1, by decide +kernel, by decide +kernel⟩
set_option maxRecDepth 100000 in
theorem hX3_find : av_me mX3_find := ⟨av_in (w := Cond.code yX3_find prog_5_method_2_code 5 none) (List.mem_append_right _ (List.mem_append_right _ (List.mem_append_right _ (List.mem_append_left _ (List.mem_of_getElem? (i := 76) rfl))))) rfl, av_init.2.2.2.2.2.2.2.1, by decide +kernel, by decide +kernel⟩
set_option maxRecDepth 100000 in
theorem hX3_addMeet : av_me mX3_addMeet := ⟨av_in (w := Cond.code yX3_addMeet prog_5_method_3_code 7 none) (List.mem_append_right _ (List.mem_append_right _ (List.mem_append_right _ (List.mem_append_left _ (List.mem_of_getElem? (i := 92) rfl))))) rfl, av_init.2.2.2.2.2.2.2.1, by decide +kernel, by decide +kernel⟩
set_option maxRecDepth 100000 in
theorem hX3_volume : av_me mX3_volume := ⟨av_in (w := Cond.code yX3_volume prog_5_method_4_code 6 (some .int)) (List.mem_append_right _ (List.mem_append_right _ (List.mem_append_right _ (List.mem_append_left _ (List.mem_of_getElem? (i := 95) rfl))))) rfl, av_init.2.2.2.2.2.2.2.1, by decide +kernel, by decide +kernel⟩
set_option maxRecDepth 100000 in
theorem hX3_mark : av_me mX3_mark := ⟨av_in (w := Cond.code yX3_mark prog_5_method_5_code 4 none) (List.mem_append_right _ (List.mem_append_right _ (List.mem_append_right _ (List.mem_append_left _ (List.mem_of_getElem? (i := 99) rfl))))) rfl, av_init.2.2.2.2.2.2.2.1, by decide +kernel, by decide +kernel⟩
set_option maxRecDepth 100000 in
theorem hX3_addRays : av_me mX3_addRays := ⟨av_in (w := Cond.code yX3_addRays prog_5_method_6_code 7 none) (List.mem_append_right _ (List.mem_append_right _ (List.mem_append_right _ (List.mem_append_left _ (List.mem_of_getElem? (i := 80) rfl))))) rfl, av_init.2.2.2.2.2.2.2.1, by decide +kernel, by decide +kernel⟩
set_option maxRecDepth 100000 in
theorem hX3_addRay : av_me mX3_addRay := ⟨av_in (w := Cond.code yX3_addRay prog_5_method_7_code 7 none) (List.mem_append_right _ (List.mem_append_right _ (List.mem_append_right _ (List.mem_append_left _ (List.mem_of_getElem? (i := 84) rfl))))) rfl, av_init.2.2.2.2.2.2.2.1, by decide +kernel, by decide +kernel⟩
set_option maxRecDepth 100000 in
theorem hX3_size : av_me mX3_size := ⟨av_in (w := Cond.code yX3_size prog_5_method_8_code 1 (some .int)) (List.mem_append_right _ (List.mem_append_right _ (List.mem_append_left _ (List.mem_of_getElem? (i := 206) rfl)))) rfl, av_init.2.2.2.2.2.2.2.1, by decide +kernel, by decide +kernel⟩
set_option maxRecDepth 100000 in
theorem hX3_xOf : av_me mX3_xOf := ⟨av_in (w := Cond.code yX3_xOf prog_5_method_9_code 2 (some .int)) (List.mem_append_right _ (List.mem_append_right _ (List.mem_append_left _ (List.mem_of_getElem? (i := 210) rfl)))) rfl, av_init.2.2.2.2.2.2.2.1, by decide +kernel, by decide +kernel⟩
set_option maxRecDepth 100000 in
theorem hX3_yOf : av_me mX3_yOf := ⟨av_in (w := Cond.code yX3_yOf prog_5_method_10_code 2 (some .int)) (List.mem_append_right _ (List.mem_append_right _ (List.mem_append_left _ (List.mem_of_getElem? (i := 214) rfl)))) rfl, av_init.2.2.2.2.2.2.2.1, by decide +kernel, by decide +kernel⟩
set_option maxRecDepth 100000 in
theorem hX3_zOf : av_me mX3_zOf := ⟨av_in (w := Cond.code yX3_zOf prog_5_method_11_code 2 (some .int)) (List.mem_append_right _ (List.mem_append_right _ (List.mem_append_right _ (List.mem_append_left _ (List.mem_of_getElem? (i := 188) rfl))))) rfl, av_init.2.2.2.2.2.2.2.1, by decide +kernel, by decide +kernel⟩
set_option maxRecDepth 100000 in
theorem hX3_wOf : av_me mX3_wOf := ⟨av_in (w := Cond.code yX3_wOf prog_5_method_12_code 2 (some .int)) (List.mem_append_right _ (List.mem_append_right _ (List.mem_append_left _ (List.mem_of_getElem? (i := 218) rfl)))) rfl, av_init.2.2.2.2.2.2.2.1, by decide +kernel, by decide +kernel⟩
set_option maxRecDepth 100000 in
theorem hX3_touchersOf : av_me mX3_touchersOf := ⟨av_in (w := Cond.code yX3_touchersOf prog_5_method_13_code 2 (some .int)) (List.mem_append_right _ (List.mem_append_right _ (List.mem_append_right _ (List.mem_append_left _ (List.mem_of_getElem? (i := 205) rfl))))) rfl, av_init.2.2.2.2.2.2.2.1, by decide +kernel, by decide +kernel⟩
set_option maxRecDepth 100000 in
theorem hX3_isBroken : av_me mX3_isBroken := ⟨av_in (w := Cond.code yX3_isBroken prog_5_method_14_code 3 (some .boolean)) (List.mem_append_right _ (List.mem_append_right _ (List.mem_append_right _ (List.mem_append_left _ (List.mem_of_getElem? (i := 231) rfl))))) rfl, av_init.2.2.2.2.2.2.2.1, by decide +kernel, by decide +kernel⟩
set_option maxRecDepth 100000 in
theorem hX3_isMadeBy : av_me mX3_isMadeBy := ⟨av_in (w := Cond.code yX3_isMadeBy prog_5_method_15_code 3 (some .boolean)) (List.mem_append_right _ (List.mem_append_right _ (List.mem_append_left _ (List.mem_of_getElem? (i := 234) rfl)))) rfl, av_init.2.2.2.2.2.2.2.1, by decide +kernel, by decide +kernel⟩
set_option maxRecDepth 100000 in
theorem hX3_isVertex : av_me mX3_isVertex := ⟨av_in (w := Cond.code yX3_isVertex prog_5_method_16_code 3 (some .boolean)) (List.mem_append_right _ (List.mem_append_right _ (List.mem_append_right _ (List.mem_append_left _ (List.mem_of_getElem? (i := 11) rfl))))) rfl, av_init.2.2.2.2.2.2.2.1, by decide +kernel, by decide +kernel⟩
set_option maxRecDepth 100000 in
theorem hX3_isEndless : av_me mX3_isEndless := ⟨av_in (w := Cond.code yX3_isEndless prog_5_method_17_code 3 (some .boolean)) (List.mem_append_right _ (List.mem_append_right _ (List.mem_append_right _ (List.mem_append_left _ (List.mem_of_getElem? (i := 16) rfl))))) rfl, av_init.2.2.2.2.2.2.2.1, by decide +kernel, by decide +kernel⟩
set_option maxRecDepth 100000 in
theorem hX3_order : av_me mX3_order := ⟨av_in (w := Cond.code yX3_order prog_5_method_18_code 5 (some .int)) (List.mem_append_right _ (List.mem_append_right _ (List.mem_append_right _ (List.mem_append_left _ (List.mem_of_getElem? (i := 114) rfl))))) rfl, av_init.2.2.2.2.2.2.2.1, by decide +kernel, by decide +kernel⟩
set_option maxRecDepth 100000 in
theorem hX4_empty : av_me mX4_empty := ⟨av_in (w := Cond.code yX4_empty prog_6_method_2_code 1 none) (List.mem_append_right _ (List.mem_append_right _ (List.mem_append_left _ (List.mem_of_getElem? (i := 3) rfl)))) rfl, av_init.2.2.2.1, by decide +kernel, by decide +kernel⟩
set_option maxRecDepth 100000 in
theorem hX4_add : av_me mX4_add := ⟨av_in (w := Cond.code yX4_add prog_6_method_3_code 7 none) (List.mem_append_right _ (List.mem_append_right _ (List.mem_append_left _ (List.mem_of_getElem? (i := 7) rfl)))) rfl, av_init.2.2.2.1, by decide +kernel, by decide +kernel⟩
set_option maxRecDepth 100000 in
theorem hX4_side : av_me mX4_side := ⟨av_in (w := Cond.code yX4_side prog_6_method_4_code 6 (some .int)) (List.mem_append_right _ (List.mem_append_right _ (List.mem_append_left _ (List.mem_of_getElem? (i := 11) rfl)))) rfl, av_init.2.2.2.1, by decide +kernel, by decide +kernel⟩
set_option maxRecDepth 100000 in
theorem hX4_turn : av_me mX4_turn := ⟨av_in (w := Cond.code yX4_turn prog_6_method_5_code 12 (some .long)) (List.mem_append_right _ (List.mem_append_right _ (List.mem_append_left _ (List.mem_of_getElem? (i := 26) rfl)))) rfl, av_init.2.2.2.1, by decide +kernel, by decide +kernel⟩
set_option maxRecDepth 100000 in
theorem hX4_wrap : av_me mX4_wrap := ⟨av_in (w := Cond.code yX4_wrap prog_6_method_6_code 3 none) (List.mem_append_right _ (List.mem_append_right _ (List.mem_append_left _ (List.mem_of_getElem? (i := 18) rfl)))) rfl, av_init.2.2.2.1, by decide +kernel, by decide +kernel⟩
set_option maxRecDepth 100000 in
theorem hX4_extend : av_me mX4_extend := ⟨av_in (w := Cond.code yX4_extend prog_6_method_7_code 3 none) (List.mem_append_right _ (List.mem_append_right _ (List.mem_append_left _ (List.mem_of_getElem? (i := 22) rfl)))) rfl, av_init.2.2.2.1, by decide +kernel, by decide +kernel⟩
set_option maxRecDepth 100000 in
theorem hX4_size : av_me mX4_size := ⟨av_in (w := Cond.code yX4_size prog_6_method_8_code 1 (some .int)) (List.mem_append_right _ (List.mem_append_right _ (List.mem_append_left _ (List.mem_of_getElem? (i := 52) rfl)))) rfl, av_init.2.2.2.1, by decide +kernel, by decide +kernel⟩
set_option maxRecDepth 100000 in
theorem hX4_has : av_me mX4_has := ⟨av_in (w := Cond.code yX4_has prog_6_method_9_code 2 (some .boolean)) (List.mem_append_right _ (List.mem_append_right _ (List.mem_append_left _ (List.mem_of_getElem? (i := 60) rfl)))) rfl, av_init.2.2.2.1, by decide +kernel, by decide +kernel⟩
set_option maxRecDepth 100000 in
theorem hX4_next : av_me mX4_next := ⟨av_in (w := Cond.code yX4_next prog_6_method_10_code 2 (some .int)) (List.mem_append_right _ (List.mem_append_right _ (List.mem_append_left _ (List.mem_of_getElem? (i := 86) rfl)))) rfl, av_init.2.2.2.1, by decide +kernel, by decide +kernel⟩
set_option maxRecDepth 100000 in
theorem hX4_xOf : av_me mX4_xOf := ⟨av_in (w := Cond.code yX4_xOf prog_6_method_11_code 2 (some .int)) (List.mem_append_right _ (List.mem_append_right _ (List.mem_append_left _ (List.mem_of_getElem? (i := 68) rfl)))) rfl, av_init.2.2.2.1, by decide +kernel, by decide +kernel⟩
set_option maxRecDepth 100000 in
theorem hX4_yOf : av_me mX4_yOf := ⟨av_in (w := Cond.code yX4_yOf prog_6_method_12_code 2 (some .int)) (List.mem_append_right _ (List.mem_append_right _ (List.mem_append_left _ (List.mem_of_getElem? (i := 64) rfl)))) rfl, av_init.2.2.2.1, by decide +kernel, by decide +kernel⟩
set_option maxRecDepth 100000 in
theorem hX4_wOf : av_me mX4_wOf := ⟨av_in (w := Cond.code yX4_wOf prog_6_method_13_code 2 (some .int)) (List.mem_append_right _ (List.mem_append_right _ (List.mem_append_right _ (List.mem_append_right _ (List.mem_append_left _ (List.mem_of_getElem? (i := 8) rfl)))))) rfl, av_init.2.2.2.1, by decide +kernel, by decide +kernel⟩
set_option maxRecDepth 100000 in
theorem hX4_cornerAt : av_me mX4_cornerAt := ⟨av_in (w := Cond.code yX4_cornerAt prog_6_method_14_code 5 (some .int)) (List.mem_append_right _ (List.mem_append_right _ (List.mem_append_left _ (List.mem_of_getElem? (i := 230) rfl)))) rfl, av_init.2.2.2.1, by decide +kernel, by decide +kernel⟩
set_option maxRecDepth 100000 in
theorem hX4_holds : av_me mX4_holds := ⟨av_in (w := Cond.code yX4_holds prog_6_method_15_code 5 (some .boolean)) (List.mem_append_right _ (List.mem_append_right _ (List.mem_append_left _ (List.mem_of_getElem? (i := 225) rfl)))) rfl, av_init.2.2.2.1, by decide +kernel, by decide +kernel⟩
set_option maxRecDepth 100000 in
theorem hX4_cornersMissing : av_me mX4_cornersMissing := ⟨av_in (w := Cond.code yX4_cornersMissing prog_6_method_16_code 4 (some .int)) (List.mem_append_right _ (List.mem_append_right _ (List.mem_append_right _ (List.mem_append_right _ (List.mem_append_left _ (List.mem_of_getElem? (i := 17) rfl)))))) rfl, av_init.2.2.2.1, by decide +kernel, by decide +kernel⟩
set_option maxRecDepth 100000 in
theorem hX4_isRoundOrigin : av_me mX4_isRoundOrigin := ⟨av_in (w := Cond.code yX4_isRoundOrigin prog_6_method_17_code 2 (some .boolean)) (List.mem_append_right _ (List.mem_append_right _ (List.mem_append_right _ (List.mem_append_right _ (List.mem_append_left _ (List.mem_of_getElem? (i := 45) rfl)))))) rfl, av_init.2.2.2.1, by decide +kernel, by decide +kernel⟩
set_option maxRecDepth 100000 in
theorem hX4_growth : av_me mX4_growth := ⟨av_in (w := Cond.code yX4_growth prog_6_method_18_code 23 (some .long)) (List.mem_append_right _ (List.mem_append_right _ (List.mem_append_right _ (List.mem_append_right _ (List.mem_append_left _ (List.mem_of_getElem? (i := 49) rfl)))))) rfl, av_init.2.2.2.1, by decide +kernel, by decide +kernel⟩
set_option maxRecDepth 100000 in
theorem hX5_inner : av_me mX5_inner := ⟨av_in (w := Cond.code yX5_inner prog_7_method_2_code 1 (some .int)) (List.mem_append_right _ (List.mem_append_right _ (List.mem_append_left _ (List.mem_of_getElem? (i := 172) rfl)))) rfl, av_init.2.2.2.2.1, by decide +kernel, by decide +kernel⟩
set_option maxRecDepth 100000 in
theorem hX5_scale : av_me mX5_scale := ⟨av_in (w := Cond.code yX5_scale prog_7_method_3_code 1 (some .int)) (List.mem_append_right _ (List.mem_append_right _ (List.mem_append_right _ (List.mem_append_right _ (List.mem_append_left _ (List.mem_of_getElem? (i := 96) rfl)))))) rfl, av_init.2.2.2.2.1, by decide +kernel, by decide +kernel⟩
set_option maxRecDepth 100000 in
theorem hX5_resize : av_me mX5_resize := ⟨av_in (w := Cond.code yX5_resize prog_7_method_4_code 4 (some .int)) (List.mem_append_right _ (List.mem_append_right _ (List.mem_append_right _ (List.mem_append_left _ (List.mem_of_getElem? (i := 25) rfl))))) rfl, av_init.2.2.2.2.1, by decide +kernel, by decide +kernel⟩
set_option maxRecDepth 100000 in
theorem hX5_put : av_me mX5_put := ⟨av_in (w := Cond.code yX5_put prog_7_method_5_code 6 (some .int)) (List.mem_append_right _ (List.mem_append_right _ (List.mem_append_right _ (List.mem_append_left _ (List.mem_of_getElem? (i := 33) rfl))))) rfl, av_init.2.2.2.2.1, by decide +kernel, by decide +kernel⟩
set_option maxRecDepth 100000 in
theorem hX5_firstWrong : av_me mX5_firstWrong := ⟨av_in (w := Cond.code yX5_firstWrong prog_7_method_6_code 5 (some .int)) (List.mem_append_right _ (List.mem_append_right _ (List.mem_append_left _ (List.mem_of_getElem? (i := 159) rfl)))) rfl, av_init.2.2.2.2.1, by decide +kernel, by decide +kernel⟩
set_option maxRecDepth 100000 in
theorem hX5_product : av_me mX5_product := ⟨av_in (w := Cond.code yX5_product prog_7_method_7_code 5 (some .int)) (List.mem_append_right _ (List.mem_append_right _ (List.mem_append_left _ (List.mem_of_getElem? (i := 165) rfl)))) rfl, av_init.2.2.2.2.1, by decide +kernel, by decide +kernel⟩
set_option maxRecDepth 100000 in
theorem hX6_size : av_me mX6_size := ⟨av_in (w := Cond.code yX6_size prog_8_method_2_code 1 (some .int)) (List.mem_append_right _ (List.mem_append_right _ (List.mem_append_right _ (List.mem_append_left _ (List.mem_of_getElem? (i := 56) rfl))))) rfl, av_init.2.2.2.2.2.2.1, by decide +kernel, by decide +kernel⟩
set_option maxRecDepth 100000 in
theorem hX6_onSet : av_me mX6_onSet := ⟨av_in (w := Cond.code yX6_onSet prog_8_method_3_code 1 (some .int)) (List.mem_append_right _ (List.mem_append_right _ (List.mem_append_left _ (List.mem_of_getElem? (i := 193) rfl)))) rfl, av_init.2.2.2.2.2.2.1, by decide +kernel, by decide +kernel⟩
set_option maxRecDepth 100000 in
theorem hX6_has : av_me mX6_has := ⟨av_in (w := Cond.code yX6_has prog_8_method_4_code 2 (some .boolean)) (List.mem_append_right _ (List.mem_append_right _ (List.mem_append_right _ (List.mem_append_left _ (List.mem_of_getElem? (i := 130) rfl))))) rfl, av_init.2.2.2.2.2.2.1, by decide +kernel, by decide +kernel⟩
set_option maxRecDepth 100000 in
theorem hX6_isOn : av_me mX6_isOn := ⟨av_in (w := Cond.code yX6_isOn prog_8_method_5_code 2 (some .boolean)) (List.mem_append_right _ (List.mem_append_right _ (List.mem_append_right _ (List.mem_append_left _ (List.mem_of_getElem? (i := 72) rfl))))) rfl, av_init.2.2.2.2.2.2.1, by decide +kernel, by decide +kernel⟩
set_option maxRecDepth 100000 in
theorem hX6_part : av_me mX6_part := ⟨av_in (w := Cond.code yX6_part prog_8_method_6_code 3 (some .int)) (List.mem_append_right _ (List.mem_append_right _ (List.mem_append_right _ (List.mem_append_left _ (List.mem_of_getElem? (i := 155) rfl))))) rfl, av_init.2.2.2.2.2.2.1, by decide +kernel, by decide +kernel⟩
set_option maxRecDepth 100000 in
theorem hX6_add : av_me mX6_add := ⟨av_in (w := Cond.code yX6_add prog_8_method_7_code 6 (some .int)) (List.mem_append_right _ (List.mem_append_right _ (List.mem_append_right _ (List.mem_append_left _ (List.mem_of_getElem? (i := 64) rfl))))) rfl, av_init.2.2.2.2.2.2.1, by decide +kernel, by decide +kernel⟩
set_option maxRecDepth 100000 in
theorem hX6_push : av_me mX6_push := ⟨av_in (w := Cond.code yX6_push prog_8_method_8_code 4 (some .int)) (List.mem_append_right _ (List.mem_append_right _ (List.mem_append_right _ (List.mem_append_left _ (List.mem_of_getElem? (i := 138) rfl))))) rfl, av_init.2.2.2.2.2.2.1, by decide +kernel, by decide +kernel⟩
set_option maxRecDepth 100000 in
theorem hX6_turn : av_me mX6_turn := ⟨av_in (w := Cond.code yX6_turn prog_8_method_9_code 4 (some .int)) (List.mem_append_right _ (List.mem_append_right _ (List.mem_append_right _ (List.mem_append_left _ (List.mem_of_getElem? (i := 68) rfl))))) rfl, av_init.2.2.2.2.2.2.1, by decide +kernel, by decide +kernel⟩
set_option maxRecDepth 100000 in
theorem hX6_excess : av_me mX6_excess := ⟨av_in (w := Cond.code yX6_excess prog_8_method_10_code 6 (some .int)) (List.mem_append_right _ (List.mem_append_right _ (List.mem_append_right _ (List.mem_append_left _ (List.mem_of_getElem? (i := 88) rfl))))) rfl, av_init.2.2.2.2.2.2.1, by decide +kernel, by decide +kernel⟩
set_option maxRecDepth 100000 in
theorem hX7_point : av_me mX7_point := ⟨av_in (w := Cond.code yX7_point prog_1_method_2_code 3 (some .int)) (List.mem_append_right _ (List.mem_append_left _ (List.mem_of_getElem? (i := 211) rfl))) rfl, av_init.2.1, by decide +kernel, by decide +kernel⟩
set_option maxRecDepth 100000 in
theorem hX7_move : av_me mX7_move := ⟨av_in (w := Cond.code yX7_move prog_1_method_3_code 4 (some .int)) (List.mem_append_right _ (List.mem_append_right _ (List.mem_append_left _ (List.mem_of_getElem? (i := 30) rfl)))) rfl, av_init.2.1, by decide +kernel, by decide +kernel⟩
set_option maxRecDepth 100000 in
theorem hX7_clear : av_me mX7_clear := ⟨av_in (w := Cond.code yX7_clear prog_1_method_4_code 1 (some .int)) (List.mem_append_right _ (List.mem_append_right _ (List.mem_append_left _ (List.mem_of_getElem? (i := 36) rfl)))) rfl, av_init.2.1, by decide +kernel, by decide +kernel⟩
set_option maxRecDepth 100000 in
theorem hX7_corners : av_me mX7_corners := ⟨av_in (w := Cond.code yX7_corners prog_1_method_5_code 1 (some .int)) (List.mem_append_right _ (List.mem_append_right _ (List.mem_append_left _ (List.mem_of_getElem? (i := 44) rfl)))) rfl, av_init.2.1, by decide +kernel, by decide +kernel⟩
set_option maxRecDepth 100000 in
theorem hX7_corner : av_me mX7_corner := ⟨av_in (w := Cond.code yX7_corner prog_1_method_6_code 3 (some .int)) (List.mem_append_right _ (List.mem_append_right _ (List.mem_append_left _ (List.mem_of_getElem? (i := 56) rfl)))) rfl, av_init.2.1, by decide +kernel, by decide +kernel⟩
set_option maxRecDepth 100000 in
theorem hX7_wallOf : av_me mX7_wallOf := ⟨av_in (w := Cond.code yX7_wallOf prog_1_method_7_code 3 (some .int)) (List.mem_append_right _ (List.mem_append_right _ (List.mem_append_left _ (List.mem_of_getElem? (i := 72) rfl)))) rfl, av_init.2.1, by decide +kernel, by decide +kernel⟩
set_option maxRecDepth 100000 in
theorem hX7_slack : av_me mX7_slack := ⟨av_in (w := Cond.code yX7_slack prog_1_method_8_code 3 (some .int)) (List.mem_append_right _ (List.mem_append_right _ (List.mem_append_left _ (List.mem_of_getElem? (i := 98) rfl)))) rfl, av_init.2.1, by decide +kernel, by decide +kernel⟩
set_option maxRecDepth 100000 in
theorem hX7_area : av_me mX7_area := ⟨av_in (w := Cond.code yX7_area prog_1_method_9_code 1 (some .int)) (List.mem_append_right _ (List.mem_append_right _ (List.mem_append_left _ (List.mem_of_getElem? (i := 107) rfl)))) rfl, av_init.2.1, by decide +kernel, by decide +kernel⟩
set_option maxRecDepth 100000 in
theorem hX7_open : av_me mX7_open := ⟨av_in (w := Cond.code yX7_open prog_1_method_10_code 1 (some .int)) (List.mem_append_right _ (List.mem_append_right _ (List.mem_append_left _ (List.mem_of_getElem? (i := 115) rfl)))) rfl, av_init.2.1, by decide +kernel, by decide +kernel⟩
set_option maxRecDepth 100000 in
theorem hX7_cover : av_me mX7_cover := ⟨av_in (w := Cond.code yX7_cover prog_1_method_11_code 1 (some .int)) (List.mem_append_right _ (List.mem_append_right _ (List.mem_append_left _ (List.mem_of_getElem? (i := 124) rfl)))) rfl, av_init.2.1, by decide +kernel, by decide +kernel⟩
set_option maxRecDepth 100000 in
theorem hX7_fools : av_me mX7_fools := ⟨av_in (w := Cond.code yX7_fools prog_1_method_12_code 1 (some .int)) (List.mem_append_right _ (List.mem_append_right _ (List.mem_append_left _ (List.mem_of_getElem? (i := 134) rfl)))) rfl, av_init.2.1, by decide +kernel, by decide +kernel⟩
set_option maxRecDepth 100000 in
theorem hX7_log : av_me mX7_log := ⟨av_in (w := Cond.code yX7_log prog_1_method_13_code 1 (some .int)) (List.mem_append_right _ (List.mem_append_right _ (List.mem_append_left _ (List.mem_of_getElem? (i := 140) rfl)))) rfl, av_init.2.1, by decide +kernel, by decide +kernel⟩
set_option maxRecDepth 100000 in
theorem hX7_low : av_me mX7_low := ⟨av_in (w := Cond.code yX7_low prog_1_method_14_code 1 (some .int)) (List.mem_append_right _ (List.mem_append_right _ (List.mem_append_left _ (List.mem_of_getElem? (i := 148) rfl)))) rfl, av_init.2.1, by decide +kernel, by decide +kernel⟩
set_option maxRecDepth 100000 in
theorem hX7_high : av_me mX7_high := ⟨av_in (w := Cond.code yX7_high prog_1_method_15_code 3 (some .int)) (List.mem_append_right _ (List.mem_append_right _ (List.mem_append_left _ (List.mem_of_getElem? (i := 155) rfl)))) rfl, av_init.2.1, by decide +kernel, by decide +kernel⟩
set_option maxRecDepth 100000 in
theorem hX7_factors : av_me mX7_factors := ⟨av_in (w := Cond.code yX7_factors prog_1_method_16_code 3 (some .int)) (List.mem_append_right _ (List.mem_append_right _ (List.mem_append_right _ (List.mem_append_left _ (List.mem_of_getElem? (i := 21) rfl))))) rfl, av_init.2.1, by decide +kernel, by decide +kernel⟩
set_option maxRecDepth 100000 in
theorem hX7_entry : av_me mX7_entry := ⟨av_in (w := Cond.code yX7_entry prog_1_method_17_code 7 (some .int)) (List.mem_append_right _ (List.mem_append_right _ (List.mem_append_right _ (List.mem_append_left _ (List.mem_of_getElem? (i := 29) rfl))))) rfl, av_init.2.1, by decide +kernel, by decide +kernel⟩
set_option maxRecDepth 100000 in
theorem hX7_hold : av_me mX7_hold := ⟨av_in (w := Cond.code yX7_hold prog_1_method_18_code 1 (some .int)) (List.mem_append_right _ (List.mem_append_right _ (List.mem_append_right _ (List.mem_append_left _ (List.mem_of_getElem? (i := 37) rfl))))) rfl, av_init.2.1, by decide +kernel, by decide +kernel⟩
set_option maxRecDepth 100000 in
theorem hX7_wrong : av_me mX7_wrong := ⟨av_in (w := Cond.code yX7_wrong prog_1_method_19_code 1 (some .int)) (List.mem_append_right _ (List.mem_append_right _ (List.mem_append_right _ (List.mem_append_left _ (List.mem_of_getElem? (i := 41) rfl))))) rfl, av_init.2.1, by decide +kernel, by decide +kernel⟩
set_option maxRecDepth 100000 in
theorem hX7_wall : av_me mX7_wall := ⟨av_in (w := Cond.code yX7_wall prog_1_method_20_code 6 (some .int)) (List.mem_append_right _ (List.mem_append_right _ (List.mem_append_right _ (List.mem_append_left _ (List.mem_of_getElem? (i := 45) rfl))))) rfl, av_init.2.1, by decide +kernel, by decide +kernel⟩
set_option maxRecDepth 100000 in
theorem hX7_shift : av_me mX7_shift := ⟨av_in (w := Cond.code yX7_shift prog_1_method_21_code 3 (some .int)) (List.mem_append_right _ (List.mem_append_right _ (List.mem_append_right _ (List.mem_append_left _ (List.mem_of_getElem? (i := 126) rfl))))) rfl, av_init.2.1, by decide +kernel, by decide +kernel⟩
set_option maxRecDepth 100000 in
theorem hX7_on : av_me mX7_on := ⟨av_in (w := Cond.code yX7_on prog_1_method_22_code 3 (some .int)) (List.mem_append_right _ (List.mem_append_right _ (List.mem_append_right _ (List.mem_append_left _ (List.mem_of_getElem? (i := 142) rfl))))) rfl, av_init.2.1, by decide +kernel, by decide +kernel⟩
set_option maxRecDepth 100000 in
theorem hX7_about : av_me mX7_about := ⟨av_in (w := Cond.code yX7_about prog_1_method_23_code 3 (some .int)) (List.mem_append_right _ (List.mem_append_right _ (List.mem_append_right _ (List.mem_append_left _ (List.mem_of_getElem? (i := 151) rfl))))) rfl, av_init.2.1, by decide +kernel, by decide +kernel⟩
set_option maxRecDepth 100000 in
theorem hX7_sound : av_me mX7_sound := ⟨av_in (w := Cond.code yX7_sound prog_1_method_24_code 1 (some .int)) (List.mem_append_right _ (List.mem_append_right _ (List.mem_append_right _ (List.mem_append_left _ (List.mem_of_getElem? (i := 159) rfl))))) rfl, av_init.2.1, by decide +kernel, by decide +kernel⟩
set_option maxRecDepth 100000 in
theorem hX7_vertices : av_me mX7_vertices := ⟨av_in (w := Cond.code yX7_vertices prog_1_method_25_code 1 (some .int)) (List.mem_append_right _ (List.mem_append_right _ (List.mem_append_right _ (List.mem_append_left _ (List.mem_of_getElem? (i := 167) rfl))))) rfl, av_init.2.1, by decide +kernel, by decide +kernel⟩
set_option maxRecDepth 100000 in
theorem hX7_vertex : av_me mX7_vertex := ⟨av_in (w := Cond.code yX7_vertex prog_1_method_26_code 4 (some .long)) (List.mem_append_right _ (List.mem_append_right _ (List.mem_append_right _ (List.mem_append_left _ (List.mem_of_getElem? (i := 175) rfl))))) rfl, av_init.2.1, by decide +kernel, by decide +kernel⟩
set_option maxRecDepth 100000 in
theorem hX7_tight : av_me mX7_tight := ⟨av_in (w := Cond.code yX7_tight prog_1_method_27_code 2 (some .int)) (List.mem_append_right _ (List.mem_append_right _ (List.mem_append_right _ (List.mem_append_left _ (List.mem_of_getElem? (i := 197) rfl))))) rfl, av_init.2.1, by decide +kernel, by decide +kernel⟩
set_option maxRecDepth 100000 in
theorem hX7_rims : av_me mX7_rims := ⟨av_in (w := Cond.code yX7_rims prog_1_method_28_code 1 (some .int)) (List.mem_append_right _ (List.mem_append_right _ (List.mem_append_right _ (List.mem_append_left _ (List.mem_of_getElem? (i := 209) rfl))))) rfl, av_init.2.1, by decide +kernel, by decide +kernel⟩
set_option maxRecDepth 100000 in
theorem hX7_idle : av_me mX7_idle := ⟨av_in (w := Cond.code yX7_idle prog_1_method_29_code 2 (some .int)) (List.mem_append_right _ (List.mem_append_right _ (List.mem_append_right _ (List.mem_append_left _ (List.mem_of_getElem? (i := 222) rfl))))) rfl, av_init.2.1, by decide +kernel, by decide +kernel⟩
set_option maxRecDepth 100000 in
theorem hX7_shadow : av_me mX7_shadow := ⟨av_in (w := Cond.code yX7_shadow prog_1_method_30_code 1 (some .int)) (List.mem_append_right _ (List.mem_append_right _ (List.mem_append_right _ (List.mem_append_left _ (List.mem_of_getElem? (i := 235) rfl))))) rfl, av_init.2.1, by decide +kernel, by decide +kernel⟩
set_option maxRecDepth 100000 in
theorem hX7_shadowAt : av_me mX7_shadowAt := ⟨av_in (w := Cond.code yX7_shadowAt prog_1_method_31_code 5 (some .long)) (List.mem_append_right _ (List.mem_append_right _ (List.mem_append_right _ (List.mem_append_right _ (List.mem_append_left _ (List.mem_of_getElem? (i := 3) rfl)))))) rfl, av_init.2.1, by decide +kernel, by decide +kernel⟩
set_option maxRecDepth 100000 in
theorem hX7_seen : av_me mX7_seen := ⟨av_in (w := Cond.code yX7_seen prog_1_method_32_code 2 (some .int)) (List.mem_append_right _ (List.mem_append_right _ (List.mem_append_right _ (List.mem_append_right _ (List.mem_append_left _ (List.mem_of_getElem? (i := 13) rfl)))))) rfl, av_init.2.1, by decide +kernel, by decide +kernel⟩
set_option maxRecDepth 100000 in
theorem hX7_missed : av_me mX7_missed := ⟨av_in (w := Cond.code yX7_missed prog_1_method_33_code 1 (some .int)) (List.mem_append_right _ (List.mem_append_right _ (List.mem_append_right _ (List.mem_append_right _ (List.mem_append_left _ (List.mem_of_getElem? (i := 25) rfl)))))) rfl, av_init.2.1, by decide +kernel, by decide +kernel⟩
set_option maxRecDepth 100000 in
theorem hX7_beyond : av_me mX7_beyond := ⟨av_in (w := Cond.code yX7_beyond prog_1_method_34_code 1 (some .int)) (List.mem_append_right _ (List.mem_append_right _ (List.mem_append_right _ (List.mem_append_right _ (List.mem_append_left _ (List.mem_of_getElem? (i := 29) rfl)))))) rfl, av_init.2.1, by decide +kernel, by decide +kernel⟩
set_option maxRecDepth 100000 in
theorem hX7_fewest : av_me mX7_fewest := ⟨av_in (w := Cond.code yX7_fewest prog_1_method_35_code 2 (some .int)) (List.mem_append_right _ (List.mem_append_right _ (List.mem_append_right _ (List.mem_append_right _ (List.mem_append_left _ (List.mem_of_getElem? (i := 33) rfl)))))) rfl, av_init.2.1, by decide +kernel, by decide +kernel⟩
set_option maxRecDepth 100000 in
theorem hX7_needed : av_me mX7_needed := ⟨av_in (w := Cond.code yX7_needed prog_1_method_36_code 5 (some .int)) (List.mem_append_right _ (List.mem_append_right _ (List.mem_append_right _ (List.mem_append_right _ (List.mem_append_left _ (List.mem_of_getElem? (i := 37) rfl)))))) rfl, av_init.2.1, by decide +kernel, by decide +kernel⟩
set_option maxRecDepth 100000 in
theorem hX7_blow : av_me mX7_blow := ⟨av_in (w := Cond.code yX7_blow prog_1_method_37_code 2 (some .long)) (List.mem_append_right _ (List.mem_append_right _ (List.mem_append_right _ (List.mem_append_right _ (List.mem_append_left _ (List.mem_of_getElem? (i := 41) rfl)))))) rfl, av_init.2.1, by decide +kernel, by decide +kernel⟩
set_option maxRecDepth 100000 in
theorem hX7_most : av_me mX7_most := ⟨av_in (w := Cond.code yX7_most prog_1_method_38_code 3 (some .int)) (List.mem_append_right _ (List.mem_append_right _ (List.mem_append_right _ (List.mem_append_right _ (List.mem_append_left _ (List.mem_of_getElem? (i := 55) rfl)))))) rfl, av_init.2.1, by decide +kernel, by decide +kernel⟩
set_option maxRecDepth 100000 in
theorem hX7_mostOf : av_me mX7_mostOf := ⟨av_in (w := Cond.code yX7_mostOf prog_1_method_39_code 6 (some .long)) (List.mem_append_right _ (List.mem_append_right _ (List.mem_append_right _ (List.mem_append_right _ (List.mem_append_left _ (List.mem_of_getElem? (i := 67) rfl)))))) rfl, av_init.2.1, by decide +kernel, by decide +kernel⟩
set_option maxRecDepth 100000 in
theorem hX7_at : av_me mX7_at := ⟨av_in (w := Cond.code yX7_at prog_1_method_40_code 5 (some .int)) (List.mem_append_right _ (List.mem_append_right _ (List.mem_append_right _ (List.mem_append_right _ (List.mem_append_left _ (List.mem_of_getElem? (i := 87) rfl)))))) rfl, av_init.2.1, by decide +kernel, by decide +kernel⟩
set_option maxRecDepth 100000 in
theorem hX7_count : av_me mX7_count := ⟨av_in (w := Cond.code yX7_count prog_1_method_41_code 2 (some .int)) (List.mem_append_right _ (List.mem_append_right _ (List.mem_append_right _ (List.mem_append_right _ (List.mem_append_left _ (List.mem_of_getElem? (i := 91) rfl)))))) rfl, av_init.2.1, by decide +kernel, by decide +kernel⟩
set_option maxRecDepth 100000 in
theorem hX7_isWithin : av_me mX7_isWithin := ⟨av_in (w := Cond.code yX7_isWithin prog_1_method_42_code 3 (some .boolean)) (List.mem_append_right _ (List.mem_append_left _ (List.mem_of_getElem? (i := 217) rfl))) rfl, av_init.2.1, by decide +kernel, by decide +kernel⟩
set_option maxRecDepth 100000 in
theorem hX7_isPlace : av_me mX7_isPlace := ⟨av_in (w := Cond.code yX7_isPlace prog_1_method_43_code 2 (some .boolean)) (List.mem_append_right _ (List.mem_append_left _ (List.mem_of_getElem? (i := 214) rfl))) rfl, av_init.2.1, by decide +kernel, by decide +kernel⟩
set_option maxRecDepth 100000 in
theorem hX7_isStep : av_me mX7_isStep := ⟨av_in (w := Cond.code yX7_isStep prog_1_method_44_code 1 (some .boolean)) (List.mem_append_right _ (List.mem_append_right _ (List.mem_append_right _ (List.mem_append_left _ (List.mem_of_getElem? (i := 48) rfl))))) rfl, av_init.2.1, by decide +kernel, by decide +kernel⟩
set_option maxRecDepth 100000 in
theorem hX7_isFar : av_me mX7_isFar := ⟨av_in (w := Cond.code yX7_isFar prog_1_method_45_code 1 (some .boolean)) (List.mem_append_right _ (List.mem_append_right _ (List.mem_append_right _ (List.mem_append_left _ (List.mem_of_getElem? (i := 51) rfl))))) rfl, av_init.2.1, by decide +kernel, by decide +kernel⟩
set_option maxRecDepth 100000 in
theorem hX7_isAim : av_me mX7_isAim := ⟨av_in (w := Cond.code yX7_isAim prog_1_method_46_code 1 (some .boolean)) (List.mem_append_right _ (List.mem_append_right _ (List.mem_append_right _ (List.mem_append_right _ (List.mem_append_left _ (List.mem_of_getElem? (i := 58) rfl)))))) rfl, av_init.2.1, by decide +kernel, by decide +kernel⟩
set_option maxRecDepth 100000 in
theorem hX7_aimRefusal : av_me mX7_aimRefusal := ⟨av_in (w := Cond.code yX7_aimRefusal prog_1_method_47_code 4 (some .int)) (List.mem_append_right _ (List.mem_append_right _ (List.mem_append_right _ (List.mem_append_right _ (List.mem_append_left _ (List.mem_of_getElem? (i := 71) rfl)))))) rfl, av_init.2.1, by decide +kernel, by decide +kernel⟩
set_option maxRecDepth 100000 in
theorem hX7_isBounded : av_me mX7_isBounded := ⟨av_in (w := Cond.code yX7_isBounded prog_1_method_48_code 1 (some .boolean)) (List.mem_append_right _ (List.mem_append_right _ (List.mem_append_left _ (List.mem_of_getElem? (i := 128) rfl)))) rfl, av_init.2.1, by decide +kernel, by decide +kernel⟩
set_option maxRecDepth 100000 in
theorem hX7_levels : av_me mX7_levels := ⟨av_in (w := Cond.code yX7_levels prog_1_method_49_code 3 (some .int)) (List.mem_append_right _ (List.mem_append_right _ (List.mem_append_left _ (List.mem_of_getElem? (i := 144) rfl)))) rfl, av_init.2.1, by decide +kernel, by decide +kernel⟩
set_option maxRecDepth 100000 in
theorem hX7_gcd : av_me mX7_gcd := ⟨av_in (w := Cond.code yX7_gcd prog_1_method_50_code 11 (some .long)) (List.mem_append_right _ (List.mem_append_right _ (List.mem_append_left _ (List.mem_of_getElem? (i := 91) rfl)))) rfl, av_init.2.1, by decide +kernel, by decide +kernel⟩
set_option maxRecDepth 100000 in
theorem hX7_told : av_me mX7_told := ⟨av_in (w := Cond.code yX7_told prog_1_method_51_code 7 (some .long)) (List.mem_append_right _ (List.mem_append_right _ (List.mem_append_right _ (List.mem_append_left _ (List.mem_of_getElem? (i := 191) rfl))))) rfl, av_init.2.1, by decide +kernel, by decide +kernel⟩
set_option maxRecDepth 100000 in
theorem hX8_in : av_me mX8_in := ⟨av_in (w := Cond.code yX8_in prog_10_method_3_code 6 (some .boolean)) (List.mem_append_right _ (List.mem_append_right _ (List.mem_append_right _ (List.mem_append_right _ (List.mem_append_left _ (List.mem_of_getElem? (i := 216) rfl)))))) rfl, av_init.2.2.2.2.2.2.2.2.2.1, by decide +kernel, by decide +kernel⟩
set_option maxRecDepth 100000 in
theorem hX8_common : av_me mX8_common := ⟨av_in (w := Cond.code yX8_common prog_10_method_4_code 10 (some .long)) (List.mem_append_right _ (List.mem_append_right _ (List.mem_append_right _ (List.mem_append_right _ (List.mem_append_right _ (List.mem_append_left _ (List.mem_of_getElem? (i := 37) rfl))))))) rfl, av_init.2.2.2.2.2.2.2.2.2.1, by decide +kernel, by decide +kernel⟩
set_option maxRecDepth 100000 in
theorem hX8_told : av_me mX8_told := ⟨av_in (w := Cond.code yX8_told prog_10_method_5_code 7 (some .long)) (List.mem_append_right _ (List.mem_append_right _ (List.mem_append_right _ (List.mem_append_right _ (List.mem_append_right _ (List.mem_append_left _ (List.mem_of_getElem? (i := 219) rfl))))))) rfl, av_init.2.2.2.2.2.2.2.2.2.1, by decide +kernel, by decide +kernel⟩
set_option maxRecDepth 100000 in
theorem hX8_point : av_me mX8_point := ⟨av_in (w := Cond.code yX8_point prog_10_method_6_code 3 (some .int)) (List.mem_append_right _ (List.mem_append_right _ (List.mem_append_right _ (List.mem_append_right _ (List.mem_append_left _ (List.mem_of_getElem? (i := 211) rfl)))))) rfl, av_init.2.2.2.2.2.2.2.2.2.1, by decide +kernel, by decide +kernel⟩
set_option maxRecDepth 100000 in
theorem hX8_move : av_me mX8_move := ⟨av_in (w := Cond.code yX8_move prog_10_method_7_code 4 (some .int)) (List.mem_append_right _ (List.mem_append_right _ (List.mem_append_right _ (List.mem_append_right _ (List.mem_append_left _ (List.mem_of_getElem? (i := 222) rfl)))))) rfl, av_init.2.2.2.2.2.2.2.2.2.1, by decide +kernel, by decide +kernel⟩
set_option maxRecDepth 100000 in
theorem hX8_clear : av_me mX8_clear := ⟨av_in (w := Cond.code yX8_clear prog_10_method_8_code 2 (some .int)) (List.mem_append_right _ (List.mem_append_right _ (List.mem_append_right _ (List.mem_append_right _ (List.mem_append_left _ (List.mem_of_getElem? (i := 227) rfl)))))) rfl, av_init.2.2.2.2.2.2.2.2.2.1, by decide +kernel, by decide +kernel⟩
set_option maxRecDepth 100000 in
theorem hX8_side : av_me mX8_side := ⟨av_in (w := Cond.code yX8_side prog_10_method_9_code 4 (some .long)) (List.mem_append_right _ (List.mem_append_right _ (List.mem_append_right _ (List.mem_append_right _ (List.mem_append_right _ (List.mem_append_left _ (List.mem_of_getElem? (i := 16) rfl))))))) rfl, av_init.2.2.2.2.2.2.2.2.2.1, by decide +kernel, by decide +kernel⟩
set_option maxRecDepth 100000 in
theorem hX8_compare : av_me mX8_compare := ⟨av_in (w := Cond.code yX8_compare prog_10_method_10_code 9 (some .long)) (List.mem_append_right _ (List.mem_append_right _ (List.mem_append_right _ (List.mem_append_right _ (List.mem_append_right _ (List.mem_append_left _ (List.mem_of_getElem? (i := 7) rfl))))))) rfl, av_init.2.2.2.2.2.2.2.2.2.1, by decide +kernel, by decide +kernel⟩
set_option maxRecDepth 100000 in
theorem hX8_isAhead : av_me mX8_isAhead := ⟨av_in (w := Cond.code yX8_isAhead prog_10_method_11_code 5 (some .boolean)) (List.mem_append_right _ (List.mem_append_right _ (List.mem_append_right _ (List.mem_append_right _ (List.mem_append_right _ (List.mem_append_left _ (List.mem_of_getElem? (i := 3) rfl))))))) rfl, av_init.2.2.2.2.2.2.2.2.2.1, by decide +kernel, by decide +kernel⟩
set_option maxRecDepth 100000 in
theorem hX8_isOne : av_me mX8_isOne := ⟨av_in (w := Cond.code yX8_isOne prog_10_method_12_code 3 (some .boolean)) (List.mem_append_right _ (List.mem_append_right _ (List.mem_append_right _ (List.mem_append_right _ (List.mem_append_right _ (List.mem_append_left _ (List.mem_of_getElem? (i := 11) rfl))))))) rfl, av_init.2.2.2.2.2.2.2.2.2.1, by decide +kernel, by decide +kernel⟩
set_option maxRecDepth 100000 in
theorem hX8_isBetween : av_me mX8_isBetween := ⟨av_in (w := Cond.code yX8_isBetween prog_10_method_13_code 5 (some .boolean)) (List.mem_append_right _ (List.mem_append_right _ (List.mem_append_right _ (List.mem_append_right _ (List.mem_append_right _ (List.mem_append_left _ (List.mem_of_getElem? (i := 20) rfl))))))) rfl, av_init.2.2.2.2.2.2.2.2.2.1, by decide +kernel, by decide +kernel⟩
set_option maxRecDepth 100000 in
theorem hX8_hull : av_me mX8_hull := ⟨av_in (w := Cond.code yX8_hull prog_10_method_14_code 12 (some .int)) (List.mem_append_right _ (List.mem_append_right _ (List.mem_append_right _ (List.mem_append_right _ (List.mem_append_left _ (List.mem_of_getElem? (i := 239) rfl)))))) rfl, av_init.2.2.2.2.2.2.2.2.2.1, by decide +kernel, by decide +kernel⟩
set_option maxRecDepth 100000 in
theorem hX8_layFigure : av_me mX8_layFigure := ⟨av_in (w := Cond.code yX8_layFigure prog_10_method_15_code 2 none) (List.mem_append_right _ (List.mem_append_right _ (List.mem_append_right _ (List.mem_append_right _ (List.mem_append_left _ (List.mem_of_getElem? (i := 235) rfl)))))) rfl, av_init.2.2.2.2.2.2.2.2.2.1, by decide +kernel, by decide +kernel⟩
set_option maxRecDepth 100000 in
theorem hX8_isFlat : av_me mX8_isFlat := ⟨av_in (w := Cond.code yX8_isFlat prog_10_method_16_code 1 (some .boolean)) (List.mem_append_right _ (List.mem_append_right _ (List.mem_append_right _ (List.mem_append_right _ (List.mem_append_right _ (List.mem_append_left _ (List.mem_of_getElem? (i := 57) rfl))))))) rfl, av_init.2.2.2.2.2.2.2.2.2.1, by decide +kernel, by decide +kernel⟩
set_option maxRecDepth 100000 in
theorem hX8_corners : av_me mX8_corners := ⟨av_in (w := Cond.code yX8_corners prog_10_method_17_code 1 (some .int)) (List.mem_append_right _ (List.mem_append_right _ (List.mem_append_right _ (List.mem_append_right _ (List.mem_append_left _ (List.mem_of_getElem? (i := 231) rfl)))))) rfl, av_init.2.2.2.2.2.2.2.2.2.1, by decide +kernel, by decide +kernel⟩
set_option maxRecDepth 100000 in
theorem hX8_corner : av_me mX8_corner := ⟨av_in (w := Cond.code yX8_corner prog_10_method_18_code 3 (some .int)) (List.mem_append_right _ (List.mem_append_right _ (List.mem_append_right _ (List.mem_append_right _ (List.mem_append_right _ (List.mem_append_left _ (List.mem_of_getElem? (i := 24) rfl))))))) rfl, av_init.2.2.2.2.2.2.2.2.2.1, by decide +kernel, by decide +kernel⟩
set_option maxRecDepth 100000 in
theorem hX8_wallPart : av_me mX8_wallPart := ⟨av_in (w := Cond.code yX8_wallPart prog_10_method_19_code 8 (some .int)) (List.mem_append_right _ (List.mem_append_right _ (List.mem_append_right _ (List.mem_append_right _ (List.mem_append_right _ (List.mem_append_left _ (List.mem_of_getElem? (i := 34) rfl))))))) rfl, av_init.2.2.2.2.2.2.2.2.2.1, by decide +kernel, by decide +kernel⟩
set_option maxRecDepth 100000 in
theorem hX8_wallOf : av_me mX8_wallOf := ⟨av_in (w := Cond.code yX8_wallOf prog_10_method_20_code 3 (some .int)) (List.mem_append_right _ (List.mem_append_right _ (List.mem_append_right _ (List.mem_append_right _ (List.mem_append_right _ (List.mem_append_left _ (List.mem_of_getElem? (i := 28) rfl))))))) rfl, av_init.2.2.2.2.2.2.2.2.2.1, by decide +kernel, by decide +kernel⟩
set_option maxRecDepth 100000 in
theorem hX8_slackOf : av_me mX8_slackOf := ⟨av_in (w := Cond.code yX8_slackOf prog_10_method_21_code 3 (some .int)) (List.mem_append_right _ (List.mem_append_right _ (List.mem_append_right _ (List.mem_append_right _ (List.mem_append_right _ (List.mem_append_left _ (List.mem_of_getElem? (i := 45) rfl))))))) rfl, av_init.2.2.2.2.2.2.2.2.2.1, by decide +kernel, by decide +kernel⟩
set_option maxRecDepth 100000 in
theorem hX8_slack : av_me mX8_slack := ⟨av_in (w := Cond.code yX8_slack prog_10_method_22_code 3 (some .int)) (List.mem_append_right _ (List.mem_append_right _ (List.mem_append_right _ (List.mem_append_right _ (List.mem_append_right _ (List.mem_append_left _ (List.mem_of_getElem? (i := 41) rfl))))))) rfl, av_init.2.2.2.2.2.2.2.2.2.1, by decide +kernel, by decide +kernel⟩
set_option maxRecDepth 100000 in
theorem hX8_area : av_me mX8_area := ⟨av_in (w := Cond.code yX8_area prog_10_method_23_code 5 (some .int)) (List.mem_append_right _ (List.mem_append_right _ (List.mem_append_right _ (List.mem_append_right _ (List.mem_append_right _ (List.mem_append_left _ (List.mem_of_getElem? (i := 49) rfl))))))) rfl, av_init.2.2.2.2.2.2.2.2.2.1, by decide +kernel, by decide +kernel⟩
set_option maxRecDepth 100000 in
theorem hX8_open : av_me mX8_open := ⟨av_in (w := Cond.code yX8_open prog_10_method_24_code 4 (some .int)) (List.mem_append_right _ (List.mem_append_right _ (List.mem_append_right _ (List.mem_append_right _ (List.mem_append_right _ (List.mem_append_left _ (List.mem_of_getElem? (i := 53) rfl))))))) rfl, av_init.2.2.2.2.2.2.2.2.2.1, by decide +kernel, by decide +kernel⟩
set_option maxRecDepth 100000 in
theorem hX8_layOpen : av_me mX8_layOpen := ⟨av_in (w := Cond.code yX8_layOpen prog_10_method_25_code 3 none) (List.mem_append_right _ (List.mem_append_right _ (List.mem_append_right _ (List.mem_append_right _ (List.mem_append_right _ (List.mem_append_left _ (List.mem_of_getElem? (i := 73) rfl))))))) rfl, av_init.2.2.2.2.2.2.2.2.2.1, by decide +kernel, by decide +kernel⟩
set_option maxRecDepth 100000 in
theorem hX8_layBlocks : av_me mX8_layBlocks := ⟨av_in (w := Cond.code yX8_layBlocks prog_10_method_26_code 8 none) (List.mem_append_right _ (List.mem_append_right _ (List.mem_append_right _ (List.mem_append_right _ (List.mem_append_right _ (List.mem_append_left _ (List.mem_of_getElem? (i := 77) rfl))))))) rfl, av_init.2.2.2.2.2.2.2.2.2.1, by decide +kernel, by decide +kernel⟩
set_option maxRecDepth 100000 in
theorem hX8_firstBit : av_me mX8_firstBit := ⟨av_in (w := Cond.code yX8_firstBit prog_10_method_27_code 3 (some .int)) (List.mem_append_right _ (List.mem_append_right _ (List.mem_append_right _ (List.mem_append_right _ (List.mem_append_right _ (List.mem_append_left _ (List.mem_of_getElem? (i := 84) rfl))))))) rfl, av_init.2.2.2.2.2.2.2.2.2.1, by decide +kernel, by decide +kernel⟩
set_option maxRecDepth 100000 in
theorem hX8_ones : av_me mX8_ones := ⟨av_in (w := Cond.code yX8_ones prog_10_method_28_code 4 (some .int)) (List.mem_append_right _ (List.mem_append_right _ (List.mem_append_right _ (List.mem_append_right _ (List.mem_append_right _ (List.mem_append_left _ (List.mem_of_getElem? (i := 103) rfl))))))) rfl, av_init.2.2.2.2.2.2.2.2.2.1, by decide +kernel, by decide +kernel⟩
set_option maxRecDepth 100000 in
theorem hX8_covers : av_me mX8_covers := ⟨av_in (w := Cond.code yX8_covers prog_10_method_29_code 8 (some .boolean)) (List.mem_append_right _ (List.mem_append_right _ (List.mem_append_right _ (List.mem_append_right _ (List.mem_append_right _ (List.mem_append_left _ (List.mem_of_getElem? (i := 81) rfl))))))) rfl, av_init.2.2.2.2.2.2.2.2.2.1, by decide +kernel, by decide +kernel⟩
set_option maxRecDepth 100000 in
theorem hX8_coverNow : av_me mX8_coverNow := ⟨av_in (w := Cond.code yX8_coverNow prog_10_method_30_code 2 (some .int)) (List.mem_append_right _ (List.mem_append_right _ (List.mem_append_right _ (List.mem_append_right _ (List.mem_append_right _ (List.mem_append_left _ (List.mem_of_getElem? (i := 69) rfl))))))) rfl, av_init.2.2.2.2.2.2.2.2.2.1, by decide +kernel, by decide +kernel⟩
set_option maxRecDepth 100000 in
theorem hX8_isOpen : av_me mX8_isOpen := ⟨av_in (w := Cond.code yX8_isOpen prog_10_method_31_code 3 (some .boolean)) (List.mem_append_right _ (List.mem_append_right _ (List.mem_append_right _ (List.mem_append_right _ (List.mem_append_right _ (List.mem_append_left _ (List.mem_of_getElem? (i := 100) rfl))))))) rfl, av_init.2.2.2.2.2.2.2.2.2.1, by decide +kernel, by decide +kernel⟩
set_option maxRecDepth 100000 in
theorem hX8_layFooling : av_me mX8_layFooling := ⟨av_in (w := Cond.code yX8_layFooling prog_10_method_32_code 5 none) (List.mem_append_right _ (List.mem_append_right _ (List.mem_append_right _ (List.mem_append_right _ (List.mem_append_right _ (List.mem_append_left _ (List.mem_of_getElem? (i := 96) rfl))))))) rfl, av_init.2.2.2.2.2.2.2.2.2.1, by decide +kernel, by decide +kernel⟩
set_option maxRecDepth 100000 in
theorem hX8_foolsNow : av_me mX8_foolsNow := ⟨av_in (w := Cond.code yX8_foolsNow prog_10_method_33_code 4 (some .int)) (List.mem_append_right _ (List.mem_append_right _ (List.mem_append_right _ (List.mem_append_right _ (List.mem_append_right _ (List.mem_append_left _ (List.mem_of_getElem? (i := 92) rfl))))))) rfl, av_init.2.2.2.2.2.2.2.2.2.1, by decide +kernel, by decide +kernel⟩
set_option maxRecDepth 100000 in
theorem hX8_mayBound : av_me mX8_mayBound := ⟨av_in (w := Cond.code yX8_mayBound prog_10_method_34_code 1 (some .boolean)) (List.mem_append_right _ (List.mem_append_right _ (List.mem_append_right _ (List.mem_append_right _ (List.mem_append_right _ (List.mem_append_left _ (List.mem_of_getElem? (i := 65) rfl))))))) rfl, av_init.2.2.2.2.2.2.2.2.2.1, by decide +kernel, by decide +kernel⟩
set_option maxRecDepth 100000 in
theorem hX8_logNow : av_me mX8_logNow := ⟨av_in (w := Cond.code yX8_logNow prog_10_method_35_code 2 (some .int)) (List.mem_append_right _ (List.mem_append_right _ (List.mem_append_right _ (List.mem_append_right _ (List.mem_append_right _ (List.mem_append_left _ (List.mem_of_getElem? (i := 111) rfl))))))) rfl, av_init.2.2.2.2.2.2.2.2.2.1, by decide +kernel, by decide +kernel⟩
set_option maxRecDepth 100000 in
theorem hX8_cover : av_me mX8_cover := ⟨av_in (w := Cond.code yX8_cover prog_10_method_36_code 1 (some .int)) (List.mem_append_right _ (List.mem_append_right _ (List.mem_append_right _ (List.mem_append_right _ (List.mem_append_right _ (List.mem_append_left _ (List.mem_of_getElem? (i := 61) rfl))))))) rfl, av_init.2.2.2.2.2.2.2.2.2.1, by decide +kernel, by decide +kernel⟩
set_option maxRecDepth 100000 in
theorem hX8_fools : av_me mX8_fools := ⟨av_in (w := Cond.code yX8_fools prog_10_method_37_code 1 (some .int)) (List.mem_append_right _ (List.mem_append_right _ (List.mem_append_right _ (List.mem_append_right _ (List.mem_append_right _ (List.mem_append_left _ (List.mem_of_getElem? (i := 88) rfl))))))) rfl, av_init.2.2.2.2.2.2.2.2.2.1, by decide +kernel, by decide +kernel⟩
set_option maxRecDepth 100000 in
theorem hX8_log : av_me mX8_log := ⟨av_in (w := Cond.code yX8_log prog_10_method_38_code 1 (some .int)) (List.mem_append_right _ (List.mem_append_right _ (List.mem_append_right _ (List.mem_append_right _ (List.mem_append_right _ (List.mem_append_left _ (List.mem_of_getElem? (i := 107) rfl))))))) rfl, av_init.2.2.2.2.2.2.2.2.2.1, by decide +kernel, by decide +kernel⟩
set_option maxRecDepth 100000 in
theorem hX8_low : av_me mX8_low := ⟨av_in (w := Cond.code yX8_low prog_10_method_39_code 2 (some .int)) (List.mem_append_right _ (List.mem_append_right _ (List.mem_append_right _ (List.mem_append_right _ (List.mem_append_right _ (List.mem_append_left _ (List.mem_of_getElem? (i := 115) rfl))))))) rfl, av_init.2.2.2.2.2.2.2.2.2.1, by decide +kernel, by decide +kernel⟩
set_option maxRecDepth 100000 in
theorem hX8_factors : av_me mX8_factors := ⟨av_in (w := Cond.code yX8_factors prog_10_method_40_code 4 (some .int)) (List.mem_append_right _ (List.mem_append_right _ (List.mem_append_right _ (List.mem_append_right _ (List.mem_append_right _ (List.mem_append_left _ (List.mem_of_getElem? (i := 119) rfl))))))) rfl, av_init.2.2.2.2.2.2.2.2.2.1, by decide +kernel, by decide +kernel⟩
set_option maxRecDepth 100000 in
theorem hX8_entry : av_me mX8_entry := ⟨av_in (w := Cond.code yX8_entry prog_10_method_41_code 6 (some .int)) (List.mem_append_right _ (List.mem_append_right _ (List.mem_append_right _ (List.mem_append_right _ (List.mem_append_right _ (List.mem_append_left _ (List.mem_of_getElem? (i := 125) rfl))))))) rfl, av_init.2.2.2.2.2.2.2.2.2.1, by decide +kernel, by decide +kernel⟩
set_option maxRecDepth 100000 in
theorem hX8_wrongPair : av_me mX8_wrongPair := ⟨av_in (w := Cond.code yX8_wrongPair prog_10_method_42_code 6 (some .int)) (List.mem_append_right _ (List.mem_append_right _ (List.mem_append_right _ (List.mem_append_right _ (List.mem_append_right _ (List.mem_append_left _ (List.mem_of_getElem? (i := 136) rfl))))))) rfl, av_init.2.2.2.2.2.2.2.2.2.1, by decide +kernel, by decide +kernel⟩
set_option maxRecDepth 100000 in
theorem hX8_hold : av_me mX8_hold := ⟨av_in (w := Cond.code yX8_hold prog_10_method_43_code 1 (some .int)) (List.mem_append_right _ (List.mem_append_right _ (List.mem_append_right _ (List.mem_append_right _ (List.mem_append_right _ (List.mem_append_left _ (List.mem_of_getElem? (i := 132) rfl))))))) rfl, av_init.2.2.2.2.2.2.2.2.2.1, by decide +kernel, by decide +kernel⟩
set_option maxRecDepth 100000 in
theorem hX8_wrong : av_me mX8_wrong := ⟨av_in (w := Cond.code yX8_wrong prog_10_method_44_code 1 (some .int)) (List.mem_append_right _ (List.mem_append_right _ (List.mem_append_right _ (List.mem_append_right _ (List.mem_append_right _ (List.mem_append_left _ (List.mem_of_getElem? (i := 141) rfl))))))) rfl, av_init.2.2.2.2.2.2.2.2.2.1, by decide +kernel, by decide +kernel⟩
set_option maxRecDepth 100000 in
theorem hX8_wall : av_me mX8_wall := ⟨av_in (w := Cond.code yX8_wall prog_10_method_45_code 5 (some .int)) (List.mem_append_right _ (List.mem_append_right _ (List.mem_append_right _ (List.mem_append_right _ (List.mem_append_right _ (List.mem_append_left _ (List.mem_of_getElem? (i := 145) rfl))))))) rfl, av_init.2.2.2.2.2.2.2.2.2.1, by decide +kernel, by decide +kernel⟩
set_option maxRecDepth 100000 in
theorem hX8_isWall : av_me mX8_isWall := ⟨av_in (w := Cond.code yX8_isWall prog_10_method_46_code 2 (some .boolean)) (List.mem_append_right _ (List.mem_append_right _ (List.mem_append_right _ (List.mem_append_right _ (List.mem_append_right _ (List.mem_append_left _ (List.mem_of_getElem? (i := 157) rfl))))))) rfl, av_init.2.2.2.2.2.2.2.2.2.1, by decide +kernel, by decide +kernel⟩
set_option maxRecDepth 100000 in
theorem hX8_shift : av_me mX8_shift := ⟨av_in (w := Cond.code yX8_shift prog_10_method_47_code 4 (some .int)) (List.mem_append_right _ (List.mem_append_right _ (List.mem_append_right _ (List.mem_append_right _ (List.mem_append_right _ (List.mem_append_left _ (List.mem_of_getElem? (i := 153) rfl))))))) rfl, av_init.2.2.2.2.2.2.2.2.2.1, by decide +kernel, by decide +kernel⟩
set_option maxRecDepth 100000 in
theorem hX8_on : av_me mX8_on := ⟨av_in (w := Cond.code yX8_on prog_10_method_48_code 4 (some .int)) (List.mem_append_right _ (List.mem_append_right _ (List.mem_append_right _ (List.mem_append_right _ (List.mem_append_right _ (List.mem_append_left _ (List.mem_of_getElem? (i := 161) rfl))))))) rfl, av_init.2.2.2.2.2.2.2.2.2.1, by decide +kernel, by decide +kernel⟩
set_option maxRecDepth 100000 in
theorem hX8_about : av_me mX8_about := ⟨av_in (w := Cond.code yX8_about prog_10_method_49_code 3 (some .int)) (List.mem_append_right _ (List.mem_append_right _ (List.mem_append_right _ (List.mem_append_right _ (List.mem_append_right _ (List.mem_append_left _ (List.mem_of_getElem? (i := 165) rfl))))))) rfl, av_init.2.2.2.2.2.2.2.2.2.1, by decide +kernel, by decide +kernel⟩
set_option maxRecDepth 100000 in
theorem hX8_setOn : av_me mX8_setOn := ⟨av_in (w := Cond.code yX8_setOn prog_10_method_50_code 3 (some .int)) (List.mem_append_right _ (List.mem_append_right _ (List.mem_append_right _ (List.mem_append_right _ (List.mem_append_right _ (List.mem_append_left _ (List.mem_of_getElem? (i := 174) rfl))))))) rfl, av_init.2.2.2.2.2.2.2.2.2.1, by decide +kernel, by decide +kernel⟩
set_option maxRecDepth 100000 in
theorem hX8_determinant : av_me mX8_determinant := ⟨av_in (w := Cond.code yX8_determinant prog_10_method_51_code 13 (some .long)) (List.mem_append_right _ (List.mem_append_right _ (List.mem_append_right _ (List.mem_append_right _ (List.mem_append_right _ (List.mem_append_left _ (List.mem_of_getElem? (i := 186) rfl))))))) rfl, av_init.2.2.2.2.2.2.2.2.2.1, by decide +kernel, by decide +kernel⟩
set_option maxRecDepth 100000 in
theorem hX8_leaves : av_me mX8_leaves := ⟨av_in (w := Cond.code yX8_leaves prog_10_method_52_code 10 (some .long)) (List.mem_append_right _ (List.mem_append_right _ (List.mem_append_right _ (List.mem_append_right _ (List.mem_append_right _ (List.mem_append_left _ (List.mem_of_getElem? (i := 194) rfl))))))) rfl, av_init.2.2.2.2.2.2.2.2.2.1, by decide +kernel, by decide +kernel⟩
set_option maxRecDepth 100000 in
theorem hX8_holdsAll : av_me mX8_holdsAll := ⟨av_in (w := Cond.code yX8_holdsAll prog_10_method_53_code 12 (some .boolean)) (List.mem_append_right _ (List.mem_append_right _ (List.mem_append_right _ (List.mem_append_right _ (List.mem_append_right _ (List.mem_append_left _ (List.mem_of_getElem? (i := 190) rfl))))))) rfl, av_init.2.2.2.2.2.2.2.2.2.1, by decide +kernel, by decide +kernel⟩
set_option maxRecDepth 100000 in
theorem hX8_put : av_me mX8_put := ⟨av_in (w := Cond.code yX8_put prog_10_method_54_code 11 none) (List.mem_append_right _ (List.mem_append_right _ (List.mem_append_right _ (List.mem_append_right _ (List.mem_append_right _ (List.mem_append_left _ (List.mem_of_getElem? (i := 198) rfl))))))) rfl, av_init.2.2.2.2.2.2.2.2.2.1, by decide +kernel, by decide +kernel⟩
set_option maxRecDepth 100000 in
theorem hX8_order : av_me mX8_order := ⟨av_in (w := Cond.code yX8_order prog_10_method_55_code 12 (some .int)) (List.mem_append_right _ (List.mem_append_right _ (List.mem_append_right _ (List.mem_append_right _ (List.mem_append_right _ (List.mem_append_left _ (List.mem_of_getElem? (i := 202) rfl))))))) rfl, av_init.2.2.2.2.2.2.2.2.2.1, by decide +kernel, by decide +kernel⟩
set_option maxRecDepth 100000 in
theorem hX8_layVertices : av_me mX8_layVertices := ⟨av_in (w := Cond.code yX8_layVertices prog_10_method_56_code 16 none) (List.mem_append_right _ (List.mem_append_right _ (List.mem_append_right _ (List.mem_append_right _ (List.mem_append_right _ (List.mem_append_left _ (List.mem_of_getElem? (i := 182) rfl))))))) rfl, av_init.2.2.2.2.2.2.2.2.2.1, by decide +kernel, by decide +kernel⟩
set_option maxRecDepth 100000 in
theorem hX8_goesOn : av_me mX8_goesOn := ⟨av_in (w := Cond.code yX8_goesOn prog_10_method_57_code 10 (some .boolean)) (List.mem_append_right _ (List.mem_append_right _ (List.mem_append_right _ (List.mem_append_right _ (List.mem_append_right _ (List.mem_append_left _ (List.mem_of_getElem? (i := 206) rfl))))))) rfl, av_init.2.2.2.2.2.2.2.2.2.1, by decide +kernel, by decide +kernel⟩
set_option maxRecDepth 100000 in
theorem hX8_isSound : av_me mX8_isSound := ⟨av_in (w := Cond.code yX8_isSound prog_10_method_58_code 11 (some .boolean)) (List.mem_append_right _ (List.mem_append_right _ (List.mem_append_right _ (List.mem_append_right _ (List.mem_append_right _ (List.mem_append_left _ (List.mem_of_getElem? (i := 178) rfl))))))) rfl, av_init.2.2.2.2.2.2.2.2.2.1, by decide +kernel, by decide +kernel⟩
set_option maxRecDepth 100000 in
theorem hX8_sound : av_me mX8_sound := ⟨av_in (w := Cond.code yX8_sound prog_10_method_59_code 1 (some .int)) (List.mem_append_right _ (List.mem_append_right _ (List.mem_append_right _ (List.mem_append_right _ (List.mem_append_right _ (List.mem_append_left _ (List.mem_of_getElem? (i := 170) rfl))))))) rfl, av_init.2.2.2.2.2.2.2.2.2.1, by decide +kernel, by decide +kernel⟩
set_option maxRecDepth 100000 in
theorem hX8_vertices : av_me mX8_vertices := ⟨av_in (w := Cond.code yX8_vertices prog_10_method_60_code 1 (some .int)) (List.mem_append_right _ (List.mem_append_right _ (List.mem_append_right _ (List.mem_append_right _ (List.mem_append_right _ (List.mem_append_left _ (List.mem_of_getElem? (i := 210) rfl))))))) rfl, av_init.2.2.2.2.2.2.2.2.2.1, by decide +kernel, by decide +kernel⟩
set_option maxRecDepth 100000 in
theorem hX8_vertex : av_me mX8_vertex := ⟨av_in (w := Cond.code yX8_vertex prog_10_method_61_code 4 (some .long)) (List.mem_append_right _ (List.mem_append_right _ (List.mem_append_right _ (List.mem_append_right _ (List.mem_append_right _ (List.mem_append_left _ (List.mem_of_getElem? (i := 214) rfl))))))) rfl, av_init.2.2.2.2.2.2.2.2.2.1, by decide +kernel, by decide +kernel⟩
set_option maxRecDepth 100000 in
theorem hX8_tightAt : av_me mX8_tightAt := ⟨av_in (w := Cond.code yX8_tightAt prog_10_method_62_code 5 (some .int)) (List.mem_append_right _ (List.mem_append_right _ (List.mem_append_right _ (List.mem_append_right _ (List.mem_append_right _ (List.mem_append_left _ (List.mem_of_getElem? (i := 227) rfl))))))) rfl, av_init.2.2.2.2.2.2.2.2.2.1, by decide +kernel, by decide +kernel⟩
set_option maxRecDepth 100000 in
theorem hX8_tight : av_me mX8_tight := ⟨av_in (w := Cond.code yX8_tight prog_10_method_63_code 2 (some .int)) (List.mem_append_right _ (List.mem_append_right _ (List.mem_append_right _ (List.mem_append_right _ (List.mem_append_right _ (List.mem_append_left _ (List.mem_of_getElem? (i := 223) rfl))))))) rfl, av_init.2.2.2.2.2.2.2.2.2.1, by decide +kernel, by decide +kernel⟩
set_option maxRecDepth 100000 in
theorem hX8_hasTwo : av_me mX8_hasTwo := ⟨av_in (w := Cond.code yX8_hasTwo prog_10_method_64_code 5 (some .boolean)) (List.mem_append_right _ (List.mem_append_right _ (List.mem_append_right _ (List.mem_append_right _ (List.mem_append_right _ (List.mem_append_left _ (List.mem_of_getElem? (i := 235) rfl))))))) rfl, av_init.2.2.2.2.2.2.2.2.2.1, by decide +kernel, by decide +kernel⟩
set_option maxRecDepth 100000 in
theorem hX8_rims : av_me mX8_rims := ⟨av_in (w := Cond.code yX8_rims prog_10_method_65_code 8 (some .int)) (List.mem_append_right _ (List.mem_append_right _ (List.mem_append_right _ (List.mem_append_right _ (List.mem_append_right _ (List.mem_append_left _ (List.mem_of_getElem? (i := 231) rfl))))))) rfl, av_init.2.2.2.2.2.2.2.2.2.1, by decide +kernel, by decide +kernel⟩
set_option maxRecDepth 100000 in
theorem hX8_keep : av_me mX8_keep := ⟨av_in (w := Cond.code yX8_keep prog_10_method_66_code 2 none) (List.mem_append_right _ (List.mem_append_right _ (List.mem_append_right _ (List.mem_append_right _ (List.mem_append_right _ (List.mem_append_right _ (List.mem_of_getElem? (i := 7) rfl))))))) rfl, av_init.2.2.2.2.2.2.2.2.2.1, by decide +kernel, by decide +kernel⟩
set_option maxRecDepth 100000 in
theorem hX8_areKept : av_me mX8_areKept := ⟨av_in (w := Cond.code yX8_areKept prog_10_method_67_code 3 (some .boolean)) (List.mem_append_right _ (List.mem_append_right _ (List.mem_append_right _ (List.mem_append_right _ (List.mem_append_right _ (List.mem_append_right _ (List.mem_of_getElem? (i := 11) rfl))))))) rfl, av_init.2.2.2.2.2.2.2.2.2.1, by decide +kernel, by decide +kernel⟩
set_option maxRecDepth 100000 in
theorem hX8_isIdle : av_me mX8_isIdle := ⟨av_in (w := Cond.code yX8_isIdle prog_10_method_68_code 3 (some .boolean)) (List.mem_append_right _ (List.mem_append_right _ (List.mem_append_right _ (List.mem_append_right _ (List.mem_append_right _ (List.mem_append_right _ (List.mem_of_getElem? (i := 3) rfl))))))) rfl, av_init.2.2.2.2.2.2.2.2.2.1, by decide +kernel, by decide +kernel⟩
set_option maxRecDepth 100000 in
theorem hX8_idle : av_me mX8_idle := ⟨av_in (w := Cond.code yX8_idle prog_10_method_69_code 2 (some .int)) (List.mem_append_right _ (List.mem_append_right _ (List.mem_append_right _ (List.mem_append_right _ (List.mem_append_right _ (List.mem_append_left _ (List.mem_of_getElem? (i := 239) rfl))))))) rfl, av_init.2.2.2.2.2.2.2.2.2.1, by decide +kernel, by decide +kernel⟩
set_option maxRecDepth 100000 in
theorem hX8_layShadow : av_me mX8_layShadow := ⟨av_in (w := Cond.code yX8_layShadow prog_10_method_70_code 3 (some .boolean)) (List.mem_append_right _ (List.mem_append_right _ (List.mem_append_right _ (List.mem_append_right _ (List.mem_append_right _ (List.mem_append_right _ (List.mem_of_getElem? (i := 19) rfl))))))) rfl, av_init.2.2.2.2.2.2.2.2.2.1, by decide +kernel, by decide +kernel⟩
set_option maxRecDepth 100000 in
theorem hX8_shadow : av_me mX8_shadow := ⟨av_in (w := Cond.code yX8_shadow prog_10_method_71_code 1 (some .int)) (List.mem_append_right _ (List.mem_append_right _ (List.mem_append_right _ (List.mem_append_right _ (List.mem_append_right _ (List.mem_append_right _ (List.mem_of_getElem? (i := 15) rfl))))))) rfl, av_init.2.2.2.2.2.2.2.2.2.1, by decide +kernel, by decide +kernel⟩
set_option maxRecDepth 100000 in
theorem hX8_shadowAt : av_me mX8_shadowAt := ⟨av_in (w := Cond.code yX8_shadowAt prog_10_method_72_code 4 (some .long)) (List.mem_append_right _ (List.mem_append_right _ (List.mem_append_right _ (List.mem_append_right _ (List.mem_append_right _ (List.mem_append_right _ (List.mem_of_getElem? (i := 23) rfl))))))) rfl, av_init.2.2.2.2.2.2.2.2.2.1, by decide +kernel, by decide +kernel⟩
set_option maxRecDepth 100000 in
theorem hX8_isSeen : av_me mX8_isSeen := ⟨av_in (w := Cond.code yX8_isSeen prog_10_method_73_code 3 (some .boolean)) (List.mem_append_right _ (List.mem_append_right _ (List.mem_append_right _ (List.mem_append_right _ (List.mem_append_right _ (List.mem_append_right _ (List.mem_of_getElem? (i := 32) rfl))))))) rfl, av_init.2.2.2.2.2.2.2.2.2.1, by decide +kernel, by decide +kernel⟩
set_option maxRecDepth 100000 in
theorem hX8_seen : av_me mX8_seen := ⟨av_in (w := Cond.code yX8_seen prog_10_method_74_code 1 (some .int)) (List.mem_append_right _ (List.mem_append_right _ (List.mem_append_right _ (List.mem_append_right _ (List.mem_append_right _ (List.mem_append_right _ (List.mem_of_getElem? (i := 28) rfl))))))) rfl, av_init.2.2.2.2.2.2.2.2.2.1, by decide +kernel, by decide +kernel⟩
set_option maxRecDepth 100000 in
theorem hX8_isOutside : av_me mX8_isOutside := ⟨av_in (w := Cond.code yX8_isOutside prog_10_method_75_code 6 (some .boolean)) (List.mem_append_right _ (List.mem_append_right _ (List.mem_append_right _ (List.mem_append_right _ (List.mem_append_right _ (List.mem_append_right _ (List.mem_of_getElem? (i := 40) rfl))))))) rfl, av_init.2.2.2.2.2.2.2.2.2.1, by decide +kernel, by decide +kernel⟩
set_option maxRecDepth 100000 in
theorem hX8_missed : av_me mX8_missed := ⟨av_in (w := Cond.code yX8_missed prog_10_method_76_code 3 (some .int)) (List.mem_append_right _ (List.mem_append_right _ (List.mem_append_right _ (List.mem_append_right _ (List.mem_append_right _ (List.mem_append_right _ (List.mem_of_getElem? (i := 36) rfl))))))) rfl, av_init.2.2.2.2.2.2.2.2.2.1, by decide +kernel, by decide +kernel⟩
set_option maxRecDepth 100000 in
theorem hX8_beyond : av_me mX8_beyond := ⟨av_in (w := Cond.code yX8_beyond prog_10_method_77_code 3 (some .int)) (List.mem_append_right _ (List.mem_append_right _ (List.mem_append_right _ (List.mem_append_right _ (List.mem_append_right _ (List.mem_append_right _ (List.mem_of_getElem? (i := 44) rfl))))))) rfl, av_init.2.2.2.2.2.2.2.2.2.1, by decide +kernel, by decide +kernel⟩
set_option maxRecDepth 100000 in
theorem hX8_bits : av_me mX8_bits := ⟨av_in (w := Cond.code yX8_bits prog_10_method_78_code 3 (some .int)) (List.mem_append_right _ (List.mem_append_right _ (List.mem_append_right _ (List.mem_append_right _ (List.mem_append_right _ (List.mem_append_right _ (List.mem_of_getElem? (i := 55) rfl))))))) rfl, av_init.2.2.2.2.2.2.2.2.2.1, by decide +kernel, by decide +kernel⟩
set_option maxRecDepth 100000 in
theorem hX8_isFirst : av_me mX8_isFirst := ⟨av_in (w := Cond.code yX8_isFirst prog_10_method_79_code 3 (some .boolean)) (List.mem_append_right _ (List.mem_append_right _ (List.mem_append_right _ (List.mem_append_right _ (List.mem_append_right _ (List.mem_append_right _ (List.mem_of_getElem? (i := 58) rfl))))))) rfl, av_init.2.2.2.2.2.2.2.2.2.1, by decide +kernel, by decide +kernel⟩
set_option maxRecDepth 100000 in
theorem hX8_layFewest : av_me mX8_layFewest := ⟨av_in (w := Cond.code yX8_layFewest prog_10_method_80_code 4 none) (List.mem_append_right _ (List.mem_append_right _ (List.mem_append_right _ (List.mem_append_right _ (List.mem_append_right _ (List.mem_append_right _ (List.mem_of_getElem? (i := 52) rfl))))))) rfl, av_init.2.2.2.2.2.2.2.2.2.1, by decide +kernel, by decide +kernel⟩
set_option maxRecDepth 100000 in
theorem hX8_fewest : av_me mX8_fewest := ⟨av_in (w := Cond.code yX8_fewest prog_10_method_81_code 1 (some .int)) (List.mem_append_right _ (List.mem_append_right _ (List.mem_append_right _ (List.mem_append_right _ (List.mem_append_right _ (List.mem_append_right _ (List.mem_of_getElem? (i := 48) rfl))))))) rfl, av_init.2.2.2.2.2.2.2.2.2.1, by decide +kernel, by decide +kernel⟩
set_option maxRecDepth 100000 in
theorem hX8_needed : av_me mX8_needed := ⟨av_in (w := Cond.code yX8_needed prog_10_method_82_code 4 (some .int)) (List.mem_append_right _ (List.mem_append_right _ (List.mem_append_right _ (List.mem_append_right _ (List.mem_append_right _ (List.mem_append_right _ (List.mem_of_getElem? (i := 62) rfl))))))) rfl, av_init.2.2.2.2.2.2.2.2.2.1, by decide +kernel, by decide +kernel⟩
set_option maxRecDepth 100000 in
theorem hX8_high : av_me mX8_high := ⟨av_in (w := Cond.code yX8_high prog_10_method_83_code 2 (some .int)) (List.mem_append_right _ (List.mem_append_right _ (List.mem_append_right _ (List.mem_append_right _ (List.mem_append_right _ (List.mem_append_right _ (List.mem_of_getElem? (i := 66) rfl))))))) rfl, av_init.2.2.2.2.2.2.2.2.2.1, by decide +kernel, by decide +kernel⟩
set_option maxRecDepth 100000 in
theorem hX8_isAbove : av_me mX8_isAbove := ⟨av_in (w := Cond.code yX8_isAbove prog_10_method_84_code 21 (some .boolean)) (List.mem_append_right _ (List.mem_append_right _ (List.mem_append_right _ (List.mem_append_right _ (List.mem_append_right _ (List.mem_append_right _ (List.mem_of_getElem? (i := 73) rfl))))))) rfl, av_init.2.2.2.2.2.2.2.2.2.1, by decide +kernel, by decide +kernel⟩
set_option maxRecDepth 100000 in
theorem hX8_blow : av_me mX8_blow := ⟨av_in (w := Cond.code yX8_blow prog_10_method_85_code 18 (some .long)) (List.mem_append_right _ (List.mem_append_right _ (List.mem_append_right _ (List.mem_append_right _ (List.mem_append_right _ (List.mem_append_right _ (List.mem_of_getElem? (i := 70) rfl))))))) rfl, av_init.2.2.2.2.2.2.2.2.2.1, by decide +kernel, by decide +kernel⟩
set_option maxRecDepth 100000 in
theorem hX8_most : av_me mX8_most := ⟨av_in (w := Cond.code yX8_most prog_10_method_86_code 6 (some .int)) (List.mem_append_right _ (List.mem_append_right _ (List.mem_append_right _ (List.mem_append_right _ (List.mem_append_right _ (List.mem_append_right _ (List.mem_of_getElem? (i := 77) rfl))))))) rfl, av_init.2.2.2.2.2.2.2.2.2.1, by decide +kernel, by decide +kernel⟩
set_option maxRecDepth 100000 in
theorem hX8_mayAsk : av_me mX8_mayAsk := ⟨av_in (w := Cond.code yX8_mayAsk prog_10_method_87_code 4 (some .int)) (List.mem_append_right _ (List.mem_append_right _ (List.mem_append_right _ (List.mem_append_right _ (List.mem_append_right _ (List.mem_append_right _ (List.mem_of_getElem? (i := 85) rfl))))))) rfl, av_init.2.2.2.2.2.2.2.2.2.1, by decide +kernel, by decide +kernel⟩
set_option maxRecDepth 100000 in
theorem hX8_bestVertex : av_me mX8_bestVertex := ⟨av_in (w := Cond.code yX8_bestVertex prog_10_method_88_code 10 (some .int)) (List.mem_append_right _ (List.mem_append_right _ (List.mem_append_right _ (List.mem_append_right _ (List.mem_append_right _ (List.mem_append_right _ (List.mem_of_getElem? (i := 89) rfl))))))) rfl, av_init.2.2.2.2.2.2.2.2.2.1, by decide +kernel, by decide +kernel⟩
set_option maxRecDepth 100000 in
theorem hX8_mostOf : av_me mX8_mostOf := ⟨av_in (w := Cond.code yX8_mostOf prog_10_method_89_code 7 (some .long)) (List.mem_append_right _ (List.mem_append_right _ (List.mem_append_right _ (List.mem_append_right _ (List.mem_append_right _ (List.mem_append_right _ (List.mem_of_getElem? (i := 81) rfl))))))) rfl, av_init.2.2.2.2.2.2.2.2.2.1, by decide +kernel, by decide +kernel⟩
set_option maxRecDepth 100000 in
theorem hX8_at : av_me mX8_at := ⟨av_in (w := Cond.code yX8_at prog_10_method_90_code 5 (some .int)) (List.mem_append_right _ (List.mem_append_right _ (List.mem_append_right _ (List.mem_append_right _ (List.mem_append_right _ (List.mem_append_right _ (List.mem_of_getElem? (i := 93) rfl))))))) rfl, av_init.2.2.2.2.2.2.2.2.2.1, by decide +kernel, by decide +kernel⟩
set_option maxRecDepth 100000 in
theorem hX8_count : av_me mX8_count := ⟨av_in (w := Cond.code yX8_count prog_10_method_91_code 2 (some .int)) (List.mem_append_right _ (List.mem_append_right _ (List.mem_append_right _ (List.mem_append_right _ (List.mem_append_right _ (List.mem_append_right _ (List.mem_of_getElem? (i := 97) rfl))))))) rfl, av_init.2.2.2.2.2.2.2.2.2.1, by decide +kernel, by decide +kernel⟩
set_option maxRecDepth 100000 in
theorem hJ6_bitCount_0f7a4 : av_me mJ6_bitCount_0f7a4 := ⟨av_in (w := Cond.code yJ6_bitCount_0f7a4 prog_11_method_49_code 1 (some .int)) (List.mem_append_right _ (List.mem_append_right _ (List.mem_append_left _ (List.mem_of_getElem? (i := 237) rfl)))) rfl, av_init.2.2.2.2.2.2.2.2.2.2.2.2, by decide +kernel, by decide +kernel⟩
set_option maxRecDepth 100000 in
theorem hJ13_compare_74951 : av_me mJ13_compare_74951 := ⟨av_in (w := Cond.code yJ13_compare_74951 prog_12_method_42_code 4 (some .int)) (List.mem_append_right _ (List.mem_append_right _ (List.mem_append_left _ (List.mem_of_getElem? (i := 14) rfl)))) rfl, av_init.2.2.2.2.2.2.2.2.2.2.1, by decide +kernel, by decide +kernel⟩
set_option maxRecDepth 100000 in
theorem hJ9abs : Cond.code Lib.MathLoose.abs_long.x Lib.MathLoose.abs_long.code 2 (some .long) ∈ av_WT := av_in (List.mem_append_right _ (List.mem_append_right _ (List.mem_append_left _ (List.mem_of_getElem? (i := 94) rfl)))) rfl
set_option maxRecDepth 100000 in
theorem hJ9max : Cond.code Lib.Math.max.name Lib.Math.max.code 2 (some .int) ∈ av_WT := av_in (List.mem_append_right _ (List.mem_append_right _ (List.mem_append_left _ (List.mem_of_getElem? (i := 151) rfl)))) rfl
set_option maxRecDepth 100000 in
theorem hJ9min : Cond.code Lib.Math.min.name Lib.Math.min.code 2 (some .int) ∈ av_WT := av_in (List.mem_append_right _ (List.mem_append_right _ (List.mem_append_left _ (List.mem_of_getElem? (i := 175) rfl)))) rfl
theorem u0_in : ∀ w ∈ u_ws RX0 TX0 6, w ∈ av_WT := by
  intro w hw
  refine av_in ?_ ?_
  · revert w; decide +kernel
  · revert w; decide +kernel
theorem u1_in : ∀ w ∈ u_ws RX1 TX1 3, w ∈ av_WT := by
  intro w hw
  refine av_in ?_ ?_
  · revert w; decide +kernel
  · revert w; decide +kernel
theorem u2_in : ∀ w ∈ u_ws RX2 TX2 4, w ∈ av_WT := by
  intro w hw
  refine av_in ?_ ?_
  · revert w; decide +kernel
  · revert w; decide +kernel
theorem u3_in : ∀ w ∈ u_ws RX3 TX3 10, w ∈ av_WT := by
  intro w hw
  refine av_in ?_ ?_
  · revert w; decide +kernel
  · revert w; decide +kernel
theorem u4_in : ∀ w ∈ u_ws RX4 TX4 6, w ∈ av_WT := by
  intro w hw
  refine av_in ?_ ?_
  · revert w; decide +kernel
  · revert w; decide +kernel
theorem u5_in : ∀ w ∈ u_ws RX5 TX5 4, w ∈ av_WT := by
  intro w hw
  refine av_in ?_ ?_
  · revert w; decide +kernel
  · revert w; decide +kernel
theorem u6_in : ∀ w ∈ u_ws RX6 TX6 6, w ∈ av_WT := by
  intro w hw
  refine av_in ?_ ?_
  · revert w; decide +kernel
  · revert w; decide +kernel
theorem u7_in : ∀ w ∈ u_ws RX7 TX7 4, w ∈ av_WT := by
  intro w hw
  refine av_in ?_ ?_
  · revert w; decide +kernel
  · revert w; decide +kernel
theorem u8_in : ∀ w ∈ u_ws RX8 TX8 34, w ∈ av_WT := by
  intro w hw
  refine av_in ?_ ?_
  · revert w; decide +kernel
  · revert w; decide +kernel
theorem fX4_7 : av_fl RX4 7 4 0 := ⟨RX4, TX4, 6, rfl, by decide, u4_in, Or.inl (av_in (by decide +kernel) rfl)⟩
theorem fX4_13 : av_fl RX4 13 4 1 := ⟨RX4, TX4, 6, rfl, by decide, u4_in, Or.inl (av_in (by decide +kernel) rfl)⟩
theorem fX4_16 : av_fl RX4 16 4 2 := ⟨RX4, TX4, 6, rfl, by decide, u4_in, Or.inl (av_in (by decide +kernel) rfl)⟩
theorem fX4_19 : av_fl RX4 19 4 3 := ⟨RX4, TX4, 6, rfl, by decide, u4_in, Or.inl (av_in (by decide +kernel) rfl)⟩
theorem fX4_22 : av_fl RX4 22 4 4 := ⟨RX4, TX4, 6, rfl, by decide, u4_in, Or.inl (av_in (by decide +kernel) rfl)⟩
theorem gX4_22 : av_fp RX4 22 4 4 .int := ⟨RX4, TX4, 6, tyX4, rfl, by decide, u4_in, av_in (by decide +kernel) rfl, tyX4_ok, nmX4, by decide +kernel, by decide +kernel⟩
theorem fX4_36 : av_fl RX4 36 4 5 := ⟨RX4, TX4, 6, rfl, by decide, u4_in, Or.inl (av_in (by decide +kernel) rfl)⟩
theorem gX4_36 : av_fp RX4 36 4 5 .int := ⟨RX4, TX4, 6, tyX4, rfl, by decide, u4_in, av_in (by decide +kernel) rfl, tyX4_ok, nmX4, by decide +kernel, by decide +kernel⟩
theorem fX2_9 : av_fl RX2 9 2 0 := ⟨RX2, TX2, 4, rfl, by decide, u2_in, Or.inl (av_in (by decide +kernel) rfl)⟩
theorem fX2_15 : av_fl RX2 15 2 1 := ⟨RX2, TX2, 4, rfl, by decide, u2_in, Or.inl (av_in (by decide +kernel) rfl)⟩
theorem fX2_23 : av_fl RX2 23 2 2 := ⟨RX2, TX2, 4, rfl, by decide, u2_in, Or.inl (av_in (by decide +kernel) rfl)⟩
theorem fX2_27 : av_fl RX2 27 2 3 := ⟨RX2, TX2, 4, rfl, by decide, u2_in, Or.inl (av_in (by decide +kernel) rfl)⟩
theorem gX2_27 : av_fp RX2 27 2 3 .int := ⟨RX2, TX2, 4, tyX2, rfl, by decide, u2_in, av_in (by decide +kernel) rfl, tyX2_ok, nmX2, by decide +kernel, by decide +kernel⟩
theorem fX5_9 : av_fl RX5 9 5 0 := ⟨RX5, TX5, 4, rfl, by decide, u5_in, Or.inl (av_in (by decide +kernel) rfl)⟩
theorem fX5_15 : av_fl RX5 15 5 1 := ⟨RX5, TX5, 4, rfl, by decide, u5_in, Or.inl (av_in (by decide +kernel) rfl)⟩
theorem fX5_18 : av_fl RX5 18 5 2 := ⟨RX5, TX5, 4, rfl, by decide, u5_in, Or.inl (av_in (by decide +kernel) rfl)⟩
theorem gX5_18 : av_fp RX5 18 5 2 .int := ⟨RX5, TX5, 4, tyX5, rfl, by decide, u5_in, av_in (by decide +kernel) rfl, tyX5_ok, nmX5, by decide +kernel, by decide +kernel⟩
theorem fX5_22 : av_fl RX5 22 5 3 := ⟨RX5, TX5, 4, rfl, by decide, u5_in, Or.inl (av_in (by decide +kernel) rfl)⟩
theorem gX5_22 : av_fp RX5 22 5 3 .int := ⟨RX5, TX5, 4, tyX5, rfl, by decide, u5_in, av_in (by decide +kernel) rfl, tyX5_ok, nmX5, by decide +kernel, by decide +kernel⟩
theorem fX6_9 : av_fl RX6 9 6 0 := ⟨RX6, TX6, 6, rfl, by decide, u6_in, Or.inl (av_in (by decide +kernel) rfl)⟩
theorem fX3_54 : av_fl RX3 54 6 0 := ⟨RX6, TX6, 6, rfl, by decide, u6_in, Or.inr ⟨"GreaterBodies", by decide +kernel⟩⟩
theorem fX6_15 : av_fl RX6 15 6 1 := ⟨RX6, TX6, 6, rfl, by decide, u6_in, Or.inl (av_in (by decide +kernel) rfl)⟩
theorem fX3_57 : av_fl RX3 57 6 1 := ⟨RX6, TX6, 6, rfl, by decide, u6_in, Or.inr ⟨"GreaterBodies", by decide +kernel⟩⟩
theorem fX6_18 : av_fl RX6 18 6 2 := ⟨RX6, TX6, 6, rfl, by decide, u6_in, Or.inl (av_in (by decide +kernel) rfl)⟩
theorem fX3_60 : av_fl RX3 60 6 2 := ⟨RX6, TX6, 6, rfl, by decide, u6_in, Or.inr ⟨"GreaterBodies", by decide +kernel⟩⟩
theorem fX6_21 : av_fl RX6 21 6 3 := ⟨RX6, TX6, 6, rfl, by decide, u6_in, Or.inl (av_in (by decide +kernel) rfl)⟩
theorem fX3_67 : av_fl RX3 67 6 3 := ⟨RX6, TX6, 6, rfl, by decide, u6_in, Or.inr ⟨"GreaterBodies", by decide +kernel⟩⟩
theorem fX6_24 : av_fl RX6 24 6 4 := ⟨RX6, TX6, 6, rfl, by decide, u6_in, Or.inl (av_in (by decide +kernel) rfl)⟩
theorem gX6_24 : av_fp RX6 24 6 4 .int := ⟨RX6, TX6, 6, tyX6, rfl, by decide, u6_in, av_in (by decide +kernel) rfl, tyX6_ok, nmX6, by decide +kernel, by decide +kernel⟩
theorem fX3_43 : av_fl RX3 43 6 4 := ⟨RX6, TX6, 6, rfl, by decide, u6_in, Or.inr ⟨"GreaterBodies", by decide +kernel⟩⟩
theorem fX6_28 : av_fl RX6 28 6 5 := ⟨RX6, TX6, 6, rfl, by decide, u6_in, Or.inl (av_in (by decide +kernel) rfl)⟩
theorem gX6_28 : av_fp RX6 28 6 5 .int := ⟨RX6, TX6, 6, tyX6, rfl, by decide, u6_in, av_in (by decide +kernel) rfl, tyX6_ok, nmX6, by decide +kernel, by decide +kernel⟩
theorem fX3_9 : av_fl RX3 9 3 0 := ⟨RX3, TX3, 10, rfl, by decide, u3_in, Or.inl (av_in (by decide +kernel) rfl)⟩
theorem fX3_15 : av_fl RX3 15 3 1 := ⟨RX3, TX3, 10, rfl, by decide, u3_in, Or.inl (av_in (by decide +kernel) rfl)⟩
theorem fX3_18 : av_fl RX3 18 3 2 := ⟨RX3, TX3, 10, rfl, by decide, u3_in, Or.inl (av_in (by decide +kernel) rfl)⟩
theorem fX3_21 : av_fl RX3 21 3 3 := ⟨RX3, TX3, 10, rfl, by decide, u3_in, Or.inl (av_in (by decide +kernel) rfl)⟩
theorem fX3_24 : av_fl RX3 24 3 4 := ⟨RX3, TX3, 10, rfl, by decide, u3_in, Or.inl (av_in (by decide +kernel) rfl)⟩
theorem fX3_27 : av_fl RX3 27 3 5 := ⟨RX3, TX3, 10, rfl, by decide, u3_in, Or.inl (av_in (by decide +kernel) rfl)⟩
theorem fX3_30 : av_fl RX3 30 3 6 := ⟨RX3, TX3, 10, rfl, by decide, u3_in, Or.inl (av_in (by decide +kernel) rfl)⟩
theorem fX3_33 : av_fl RX3 33 3 7 := ⟨RX3, TX3, 10, rfl, by decide, u3_in, Or.inl (av_in (by decide +kernel) rfl)⟩
theorem fX3_36 : av_fl RX3 36 3 8 := ⟨RX3, TX3, 10, rfl, by decide, u3_in, Or.inl (av_in (by decide +kernel) rfl)⟩
theorem gX3_36 : av_fp RX3 36 3 8 .int := ⟨RX3, TX3, 10, tyX3, rfl, by decide, u3_in, av_in (by decide +kernel) rfl, tyX3_ok, nmX3, by decide +kernel, by decide +kernel⟩
theorem fX3_40 : av_fl RX3 40 3 9 := ⟨RX3, TX3, 10, rfl, by decide, u3_in, Or.inl (av_in (by decide +kernel) rfl)⟩
theorem gX3_40 : av_fp RX3 40 3 9 .int := ⟨RX3, TX3, 10, tyX3, rfl, by decide, u3_in, av_in (by decide +kernel) rfl, tyX3_ok, nmX3, by decide +kernel, by decide +kernel⟩
theorem fX0_12 : av_fl RX0 12 0 0 := ⟨RX0, TX0, 6, rfl, by decide, u0_in, Or.inl (av_in (by decide +kernel) rfl)⟩
theorem fX0_21 : av_fl RX0 21 0 1 := ⟨RX0, TX0, 6, rfl, by decide, u0_in, Or.inl (av_in (by decide +kernel) rfl)⟩
theorem fX0_25 : av_fl RX0 25 0 2 := ⟨RX0, TX0, 6, rfl, by decide, u0_in, Or.inl (av_in (by decide +kernel) rfl)⟩
theorem fX0_34 : av_fl RX0 34 0 3 := ⟨RX0, TX0, 6, rfl, by decide, u0_in, Or.inl (av_in (by decide +kernel) rfl)⟩
theorem fX0_38 : av_fl RX0 38 0 4 := ⟨RX0, TX0, 6, rfl, by decide, u0_in, Or.inl (av_in (by decide +kernel) rfl)⟩
theorem gX0_38 : av_fp RX0 38 0 4 .int := ⟨RX0, TX0, 6, tyX0, rfl, by decide, u0_in, av_in (by decide +kernel) rfl, tyX0_ok, nmX0, by decide +kernel, by decide +kernel⟩
theorem fX0_42 : av_fl RX0 42 0 5 := ⟨RX0, TX0, 6, rfl, by decide, u0_in, Or.inl (av_in (by decide +kernel) rfl)⟩
theorem gX0_42 : av_fp RX0 42 0 5 .boolean := ⟨RX0, TX0, 6, tyX0, rfl, by decide, u0_in, av_in (by decide +kernel) rfl, tyX0_ok, nmX0, by decide +kernel, by decide +kernel⟩
theorem fX1_9 : av_fl RX1 9 1 0 := ⟨RX1, TX1, 3, rfl, by decide, u1_in, Or.inl (av_in (by decide +kernel) rfl)⟩
theorem fX1_15 : av_fl RX1 15 1 1 := ⟨RX1, TX1, 3, rfl, by decide, u1_in, Or.inl (av_in (by decide +kernel) rfl)⟩
theorem gX1_15 : av_fp RX1 15 1 1 .boolean := ⟨RX1, TX1, 3, tyX1, rfl, by decide, u1_in, av_in (by decide +kernel) rfl, tyX1_ok, nmX1, by decide +kernel, by decide +kernel⟩
theorem fX1_49 : av_fl RX1 49 1 2 := ⟨RX1, TX1, 3, rfl, by decide, u1_in, Or.inl (av_in (by decide +kernel) rfl)⟩
theorem gX1_49 : av_fp RX1 49 1 2 .int := ⟨RX1, TX1, 3, tyX1, rfl, by decide, u1_in, av_in (by decide +kernel) rfl, tyX1_ok, nmX1, by decide +kernel, by decide +kernel⟩
theorem fX7_10 : av_fl RX7 10 7 0 := ⟨RX7, TX7, 4, rfl, by decide, u7_in, Or.inl (av_in (by decide +kernel) rfl)⟩
theorem fX7_19 : av_fl RX7 19 7 1 := ⟨RX7, TX7, 4, rfl, by decide, u7_in, Or.inl (av_in (by decide +kernel) rfl)⟩
theorem fX7_26 : av_fl RX7 26 7 2 := ⟨RX7, TX7, 4, rfl, by decide, u7_in, Or.inl (av_in (by decide +kernel) rfl)⟩
theorem fX7_33 : av_fl RX7 33 7 3 := ⟨RX7, TX7, 4, rfl, by decide, u7_in, Or.inl (av_in (by decide +kernel) rfl)⟩
theorem vL_13 : av_cv RL 13 mX7_point 7 2 := ⟨av_in (by decide +kernel) rfl, av_in (by decide +kernel) rfl, av_in (by decide +kernel) rfl, ⟨_, rfl, rfl⟩, by decide +kernel⟩
theorem sX7_37 : av_cs0 RX7 37 mX7_isPlace 2 := ⟨Or.inl (av_in (by decide +kernel) rfl), av_in (by decide +kernel) rfl, by decide +kernel⟩
theorem sX7_85 : av_cs0 RX7 85 mX7_isWithin 3 := ⟨Or.inl (av_in (by decide +kernel) rfl), av_in (by decide +kernel) rfl, by decide +kernel⟩
theorem kX7_41 : Cond.constant RX7 41 (-900000002) ∈ av_WT := av_in (by decide +kernel) rfl
theorem vX7_42 : av_cv RX7 42 mX2_size 2 0 := ⟨av_in (by decide +kernel) rfl, av_in (by decide +kernel) rfl, av_in (by decide +kernel) rfl, ⟨_, rfl, rfl⟩, by decide +kernel⟩
theorem kX7_46 : Cond.constant RX7 46 (-900000004) ∈ av_WT := av_in (by decide +kernel) rfl
theorem vX7_47 : av_cv RX7 47 mX1_forget 1 0 := ⟨av_in (by decide +kernel) rfl, av_in (by decide +kernel) rfl, av_in (by decide +kernel) rfl, ⟨_, rfl, rfl⟩, by decide +kernel⟩
theorem vX7_50 : av_cv RX7 50 mX2_add 2 2 := ⟨av_in (by decide +kernel) rfl, av_in (by decide +kernel) rfl, av_in (by decide +kernel) rfl, ⟨_, rfl, rfl⟩, by decide +kernel⟩
theorem vX2_35 : av_cv RX2 35 mX2_put 2 3 := ⟨av_in (by decide +kernel) rfl, av_in (by decide +kernel) rfl, av_in (by decide +kernel) rfl, ⟨_, rfl, rfl⟩, by decide +kernel⟩
theorem vX2_39 : av_cv RX2 39 mX2_draw 2 0 := ⟨av_in (by decide +kernel) rfl, av_in (by decide +kernel) rfl, av_in (by decide +kernel) rfl, ⟨_, rfl, rfl⟩, by decide +kernel⟩
theorem vX2_42 : av_cv RX2 42 mX4_empty 4 0 := ⟨av_in (by decide +kernel) rfl, av_in (by decide +kernel) rfl, av_in (by decide +kernel) rfl, ⟨_, rfl, rfl⟩, by decide +kernel⟩
theorem vX2_45 : av_cv RX2 45 mX4_add 4 3 := ⟨av_in (by decide +kernel) rfl, av_in (by decide +kernel) rfl, av_in (by decide +kernel) rfl, ⟨_, rfl, rfl⟩, by decide +kernel⟩
theorem vX4_26 : av_cv RX4 26 mX4_side 4 4 := ⟨av_in (by decide +kernel) rfl, av_in (by decide +kernel) rfl, av_in (by decide +kernel) rfl, ⟨_, rfl, rfl⟩, by decide +kernel⟩
theorem sX4_30 : av_cs0 RX4 30 mJ13_compare_74951 2 := ⟨Or.inl (av_in (by decide +kernel) rfl), av_in (by decide +kernel) rfl, by decide +kernel⟩
theorem vX2_48 : av_cv RX2 48 mX4_wrap 4 0 := ⟨av_in (by decide +kernel) rfl, av_in (by decide +kernel) rfl, av_in (by decide +kernel) rfl, ⟨_, rfl, rfl⟩, by decide +kernel⟩
theorem vX4_39 : av_cv RX4 39 mX4_extend 4 2 := ⟨av_in (by decide +kernel) rfl, av_in (by decide +kernel) rfl, av_in (by decide +kernel) rfl, ⟨_, rfl, rfl⟩, by decide +kernel⟩
theorem vX4_43 : av_cv RX4 43 mX4_turn 4 5 := ⟨av_in (by decide +kernel) rfl, av_in (by decide +kernel) rfl, av_in (by decide +kernel) rfl, ⟨_, rfl, rfl⟩, by decide +kernel⟩
theorem vL_18 : av_cv RL 18 mX7_move 7 3 := ⟨av_in (by decide +kernel) rfl, av_in (by decide +kernel) rfl, av_in (by decide +kernel) rfl, ⟨_, rfl, rfl⟩, by decide +kernel⟩
theorem kX7_54 : Cond.constant RX7 54 (-900000001) ∈ av_WT := av_in (by decide +kernel) rfl
theorem vX7_55 : av_cv RX7 55 mX2_put 2 3 := ⟨av_in (by decide +kernel) rfl, av_in (by decide +kernel) rfl, av_in (by decide +kernel) rfl, ⟨_, rfl, rfl⟩, by decide +kernel⟩
theorem vL_23 : av_cv RL 23 mX7_clear 7 0 := ⟨av_in (by decide +kernel) rfl, av_in (by decide +kernel) rfl, av_in (by decide +kernel) rfl, ⟨_, rfl, rfl⟩, by decide +kernel⟩
theorem vX7_59 : av_cv RX7 59 mX2_drop 2 0 := ⟨av_in (by decide +kernel) rfl, av_in (by decide +kernel) rfl, av_in (by decide +kernel) rfl, ⟨_, rfl, rfl⟩, by decide +kernel⟩
theorem vL_28 : av_cv RL 28 mX7_corners 7 0 := ⟨av_in (by decide +kernel) rfl, av_in (by decide +kernel) rfl, av_in (by decide +kernel) rfl, ⟨_, rfl, rfl⟩, by decide +kernel⟩
theorem vX7_62 : av_cv RX7 62 mX2_hull 2 0 := ⟨av_in (by decide +kernel) rfl, av_in (by decide +kernel) rfl, av_in (by decide +kernel) rfl, ⟨_, rfl, rfl⟩, by decide +kernel⟩
theorem vX7_66 : av_cv RX7 66 mX4_size 4 0 := ⟨av_in (by decide +kernel) rfl, av_in (by decide +kernel) rfl, av_in (by decide +kernel) rfl, ⟨_, rfl, rfl⟩, by decide +kernel⟩
theorem vL_32 : av_cv RL 32 mX7_corner 7 2 := ⟨av_in (by decide +kernel) rfl, av_in (by decide +kernel) rfl, av_in (by decide +kernel) rfl, ⟨_, rfl, rfl⟩, by decide +kernel⟩
theorem vX7_69 : av_cv RX7 69 mX4_has 4 1 := ⟨av_in (by decide +kernel) rfl, av_in (by decide +kernel) rfl, av_in (by decide +kernel) rfl, ⟨_, rfl, rfl⟩, by decide +kernel⟩
theorem vX7_73 : av_cv RX7 73 mX4_yOf 4 1 := ⟨av_in (by decide +kernel) rfl, av_in (by decide +kernel) rfl, av_in (by decide +kernel) rfl, ⟨_, rfl, rfl⟩, by decide +kernel⟩
theorem vX7_77 : av_cv RX7 77 mX4_xOf 4 1 := ⟨av_in (by decide +kernel) rfl, av_in (by decide +kernel) rfl, av_in (by decide +kernel) rfl, ⟨_, rfl, rfl⟩, by decide +kernel⟩
theorem vL_37 : av_cv RL 37 mX7_wallOf 7 2 := ⟨av_in (by decide +kernel) rfl, av_in (by decide +kernel) rfl, av_in (by decide +kernel) rfl, ⟨_, rfl, rfl⟩, by decide +kernel⟩
theorem vX7_80 : av_cv RX7 80 mX2_isFlat 2 0 := ⟨av_in (by decide +kernel) rfl, av_in (by decide +kernel) rfl, av_in (by decide +kernel) rfl, ⟨_, rfl, rfl⟩, by decide +kernel⟩
theorem vX2_31 : av_cv RX2 31 mX4_size 4 0 := ⟨av_in (by decide +kernel) rfl, av_in (by decide +kernel) rfl, av_in (by decide +kernel) rfl, ⟨_, rfl, rfl⟩, by decide +kernel⟩
theorem kX7_84 : Cond.constant RX7 84 (-900000003) ∈ av_WT := av_in (by decide +kernel) rfl
theorem vX7_89 : av_cv RX7 89 mX2_wallPart 2 2 := ⟨av_in (by decide +kernel) rfl, av_in (by decide +kernel) rfl, av_in (by decide +kernel) rfl, ⟨_, rfl, rfl⟩, by decide +kernel⟩
theorem vX2_51 : av_cv RX2 51 mX4_next 4 1 := ⟨av_in (by decide +kernel) rfl, av_in (by decide +kernel) rfl, av_in (by decide +kernel) rfl, ⟨_, rfl, rfl⟩, by decide +kernel⟩
theorem vX2_55 : av_cv RX2 55 mX4_xOf 4 1 := ⟨av_in (by decide +kernel) rfl, av_in (by decide +kernel) rfl, av_in (by decide +kernel) rfl, ⟨_, rfl, rfl⟩, by decide +kernel⟩
theorem vX2_58 : av_cv RX2 58 mX4_yOf 4 1 := ⟨av_in (by decide +kernel) rfl, av_in (by decide +kernel) rfl, av_in (by decide +kernel) rfl, ⟨_, rfl, rfl⟩, by decide +kernel⟩
theorem sX2_61 : av_cs0 RX2 61 mX7_gcd 2 := ⟨Or.inr ⟨"GreaterBodies", by decide +kernel⟩, av_in (by decide +kernel) rfl, by decide +kernel⟩
theorem sX7_240 : av_cs0 RX7 240 mJ9_abs_067f4 1 := ⟨Or.inl (av_in (by decide +kernel) rfl), av_in (by decide +kernel) rfl, by decide +kernel⟩
theorem vL_41 : av_cv RL 41 mX7_slack 7 2 := ⟨av_in (by decide +kernel) rfl, av_in (by decide +kernel) rfl, av_in (by decide +kernel) rfl, ⟨_, rfl, rfl⟩, by decide +kernel⟩
theorem vX7_92 : av_cv RX7 92 mX2_gap 2 2 := ⟨av_in (by decide +kernel) rfl, av_in (by decide +kernel) rfl, av_in (by decide +kernel) rfl, ⟨_, rfl, rfl⟩, by decide +kernel⟩
theorem vX2_65 : av_cv RX2 65 mX2_wallPart 2 2 := ⟨av_in (by decide +kernel) rfl, av_in (by decide +kernel) rfl, av_in (by decide +kernel) rfl, ⟨_, rfl, rfl⟩, by decide +kernel⟩
theorem vL_45 : av_cv RL 45 mX7_area 7 0 := ⟨av_in (by decide +kernel) rfl, av_in (by decide +kernel) rfl, av_in (by decide +kernel) rfl, ⟨_, rfl, rfl⟩, by decide +kernel⟩
theorem vX7_95 : av_cv RX7 95 mX2_twiceArea 2 0 := ⟨av_in (by decide +kernel) rfl, av_in (by decide +kernel) rfl, av_in (by decide +kernel) rfl, ⟨_, rfl, rfl⟩, by decide +kernel⟩
theorem vL_49 : av_cv RL 49 mX7_open 7 0 := ⟨av_in (by decide +kernel) rfl, av_in (by decide +kernel) rfl, av_in (by decide +kernel) rfl, ⟨_, rfl, rfl⟩, by decide +kernel⟩
theorem vX7_98 : av_cv RX7 98 mX2_openPairs 2 0 := ⟨av_in (by decide +kernel) rfl, av_in (by decide +kernel) rfl, av_in (by decide +kernel) rfl, ⟨_, rfl, rfl⟩, by decide +kernel⟩
theorem vX2_69 : av_cv RX2 69 mX2_gap 2 2 := ⟨av_in (by decide +kernel) rfl, av_in (by decide +kernel) rfl, av_in (by decide +kernel) rfl, ⟨_, rfl, rfl⟩, by decide +kernel⟩
theorem vL_53 : av_cv RL 53 mX7_cover 7 0 := ⟨av_in (by decide +kernel) rfl, av_in (by decide +kernel) rfl, av_in (by decide +kernel) rfl, ⟨_, rfl, rfl⟩, by decide +kernel⟩
theorem vX7_101 : av_cv RX7 101 mX7_isBounded 7 0 := ⟨av_in (by decide +kernel) rfl, av_in (by decide +kernel) rfl, av_in (by decide +kernel) rfl, ⟨_, rfl, rfl⟩, by decide +kernel⟩
theorem vL_57 : av_cv RL 57 mX7_fools 7 0 := ⟨av_in (by decide +kernel) rfl, av_in (by decide +kernel) rfl, av_in (by decide +kernel) rfl, ⟨_, rfl, rfl⟩, by decide +kernel⟩
theorem vL_61 : av_cv RL 61 mX7_log 7 0 := ⟨av_in (by decide +kernel) rfl, av_in (by decide +kernel) rfl, av_in (by decide +kernel) rfl, ⟨_, rfl, rfl⟩, by decide +kernel⟩
theorem vX7_111 : av_cv RX7 111 mX7_levels 7 0 := ⟨av_in (by decide +kernel) rfl, av_in (by decide +kernel) rfl, av_in (by decide +kernel) rfl, ⟨_, rfl, rfl⟩, by decide +kernel⟩
theorem vL_65 : av_cv RL 65 mX7_low 7 0 := ⟨av_in (by decide +kernel) rfl, av_in (by decide +kernel) rfl, av_in (by decide +kernel) rfl, ⟨_, rfl, rfl⟩, by decide +kernel⟩
theorem sX7_114 : av_cs0 RX7 114 mJ9_max_7cf53 2 := ⟨Or.inl (av_in (by decide +kernel) rfl), av_in (by decide +kernel) rfl, by decide +kernel⟩
theorem vL_69 : av_cv RL 69 mX7_high 7 0 := ⟨av_in (by decide +kernel) rfl, av_in (by decide +kernel) rfl, av_in (by decide +kernel) rfl, ⟨_, rfl, rfl⟩, by decide +kernel⟩
theorem vX7_119 : av_cv RX7 119 mX5_firstWrong 5 1 := ⟨av_in (by decide +kernel) rfl, av_in (by decide +kernel) rfl, av_in (by decide +kernel) rfl, ⟨_, rfl, rfl⟩, by decide +kernel⟩
theorem vX5_25 : av_cv RX5 25 mX2_hull 2 0 := ⟨av_in (by decide +kernel) rfl, av_in (by decide +kernel) rfl, av_in (by decide +kernel) rfl, ⟨_, rfl, rfl⟩, by decide +kernel⟩
theorem vX5_31 : av_cv RX5 31 mX4_size 4 0 := ⟨av_in (by decide +kernel) rfl, av_in (by decide +kernel) rfl, av_in (by decide +kernel) rfl, ⟨_, rfl, rfl⟩, by decide +kernel⟩
theorem vX5_37 : av_cv RX5 37 mX5_product 5 2 := ⟨av_in (by decide +kernel) rfl, av_in (by decide +kernel) rfl, av_in (by decide +kernel) rfl, ⟨_, rfl, rfl⟩, by decide +kernel⟩
theorem vX5_41 : av_cv RX5 41 mX2_gap 2 2 := ⟨av_in (by decide +kernel) rfl, av_in (by decide +kernel) rfl, av_in (by decide +kernel) rfl, ⟨_, rfl, rfl⟩, by decide +kernel⟩
theorem kX5_44 : Cond.constant RX5 44 (-900000009) ∈ av_WT := av_in (by decide +kernel) rfl
theorem kX7_123 : Cond.constant RX7 123 (-900000009) ∈ av_WT := av_in (by decide +kernel) rfl
theorem vX7_124 : av_cv RX7 124 mX5_inner 5 0 := ⟨av_in (by decide +kernel) rfl, av_in (by decide +kernel) rfl, av_in (by decide +kernel) rfl, ⟨_, rfl, rfl⟩, by decide +kernel⟩
theorem sX7_127 : av_cs0 RX7 127 mJ9_min_7cf53 2 := ⟨Or.inl (av_in (by decide +kernel) rfl), av_in (by decide +kernel) rfl, by decide +kernel⟩
theorem vX7_130 : av_cv RX7 130 mX1_walls 1 2 := ⟨av_in (by decide +kernel) rfl, av_in (by decide +kernel) rfl, av_in (by decide +kernel) rfl, ⟨_, rfl, rfl⟩, by decide +kernel⟩
theorem vX1_19 : av_cv RX1 19 mX2_isFlat 2 0 := ⟨av_in (by decide +kernel) rfl, av_in (by decide +kernel) rfl, av_in (by decide +kernel) rfl, ⟨_, rfl, rfl⟩, by decide +kernel⟩
theorem vX1_25 : av_cv RX1 25 mX2_hull 2 0 := ⟨av_in (by decide +kernel) rfl, av_in (by decide +kernel) rfl, av_in (by decide +kernel) rfl, ⟨_, rfl, rfl⟩, by decide +kernel⟩
theorem vX1_29 : av_cv RX1 29 mX0_meets 0 0 := ⟨av_in (by decide +kernel) rfl, av_in (by decide +kernel) rfl, av_in (by decide +kernel) rfl, ⟨_, rfl, rfl⟩, by decide +kernel⟩
theorem vX1_35 : av_cv RX1 35 mX0_walls 0 0 := ⟨av_in (by decide +kernel) rfl, av_in (by decide +kernel) rfl, av_in (by decide +kernel) rfl, ⟨_, rfl, rfl⟩, by decide +kernel⟩
theorem vX1_39 : av_cv RX1 39 mX6_onSet 6 0 := ⟨av_in (by decide +kernel) rfl, av_in (by decide +kernel) rfl, av_in (by decide +kernel) rfl, ⟨_, rfl, rfl⟩, by decide +kernel⟩
theorem vX1_45 : av_cv RX1 45 mX1_search 1 3 := ⟨av_in (by decide +kernel) rfl, av_in (by decide +kernel) rfl, av_in (by decide +kernel) rfl, ⟨_, rfl, rfl⟩, by decide +kernel⟩
theorem vX1_53 : av_cv RX1 53 mX4_size 4 0 := ⟨av_in (by decide +kernel) rfl, av_in (by decide +kernel) rfl, av_in (by decide +kernel) rfl, ⟨_, rfl, rfl⟩, by decide +kernel⟩
theorem vX1_58 : av_cv RX1 58 mX1_castAll 1 3 := ⟨av_in (by decide +kernel) rfl, av_in (by decide +kernel) rfl, av_in (by decide +kernel) rfl, ⟨_, rfl, rfl⟩, by decide +kernel⟩
theorem vX1_74 : av_cv RX1 74 mX3_size 3 0 := ⟨av_in (by decide +kernel) rfl, av_in (by decide +kernel) rfl, av_in (by decide +kernel) rfl, ⟨_, rfl, rfl⟩, by decide +kernel⟩
theorem vX1_77 : av_cv RX1 77 mX3_xOf 3 1 := ⟨av_in (by decide +kernel) rfl, av_in (by decide +kernel) rfl, av_in (by decide +kernel) rfl, ⟨_, rfl, rfl⟩, by decide +kernel⟩
theorem vX1_80 : av_cv RX1 80 mX3_yOf 3 1 := ⟨av_in (by decide +kernel) rfl, av_in (by decide +kernel) rfl, av_in (by decide +kernel) rfl, ⟨_, rfl, rfl⟩, by decide +kernel⟩
theorem vX1_83 : av_cv RX1 83 mX3_wOf 3 1 := ⟨av_in (by decide +kernel) rfl, av_in (by decide +kernel) rfl, av_in (by decide +kernel) rfl, ⟨_, rfl, rfl⟩, by decide +kernel⟩
theorem sX1_86 : av_cs0 RX1 86 mX1_cast 4 := ⟨Or.inl (av_in (by decide +kernel) rfl), av_in (by decide +kernel) rfl, by decide +kernel⟩
theorem vX1_94 : av_cv RX1 94 mX4_holds 4 3 := ⟨av_in (by decide +kernel) rfl, av_in (by decide +kernel) rfl, av_in (by decide +kernel) rfl, ⟨_, rfl, rfl⟩, by decide +kernel⟩
theorem vX4_47 : av_cv RX4 47 mX4_next 4 1 := ⟨av_in (by decide +kernel) rfl, av_in (by decide +kernel) rfl, av_in (by decide +kernel) rfl, ⟨_, rfl, rfl⟩, by decide +kernel⟩
theorem vX1_98 : av_cv RX1 98 mX4_cornerAt 4 3 := ⟨av_in (by decide +kernel) rfl, av_in (by decide +kernel) rfl, av_in (by decide +kernel) rfl, ⟨_, rfl, rfl⟩, by decide +kernel⟩
theorem vX1_90 : av_cv RX1 90 mX3_isMadeBy 3 2 := ⟨av_in (by decide +kernel) rfl, av_in (by decide +kernel) rfl, av_in (by decide +kernel) rfl, ⟨_, rfl, rfl⟩, by decide +kernel⟩
theorem sX1_61 : av_cs0 RX1 61 mJ6_bitCount_0f7a4 1 := ⟨Or.inl (av_in (by decide +kernel) rfl), av_in (by decide +kernel) rfl, by decide +kernel⟩
theorem kJ6_265 : Cond.constant RJ6 265 (1431655765) ∈ av_WT := av_in (by decide +kernel) rfl
theorem kJ6_266 : Cond.constant RJ6 266 (858993459) ∈ av_WT := av_in (by decide +kernel) rfl
theorem kJ6_267 : Cond.constant RJ6 267 (252645135) ∈ av_WT := av_in (by decide +kernel) rfl
theorem sX1_67 : av_cs0 RX1 67 mX1_mirror 1 := ⟨Or.inl (av_in (by decide +kernel) rfl), av_in (by decide +kernel) rfl, by decide +kernel⟩
theorem vX1_70 : av_cv RX1 70 mX1_shows 1 3 := ⟨av_in (by decide +kernel) rfl, av_in (by decide +kernel) rfl, av_in (by decide +kernel) rfl, ⟨_, rfl, rfl⟩, by decide +kernel⟩
theorem vX1_102 : av_cv RX1 102 mX3_isVertex 3 2 := ⟨av_in (by decide +kernel) rfl, av_in (by decide +kernel) rfl, av_in (by decide +kernel) rfl, ⟨_, rfl, rfl⟩, by decide +kernel⟩
theorem vX3_81 : av_cv RX3 81 mX3_isMadeBy 3 2 := ⟨av_in (by decide +kernel) rfl, av_in (by decide +kernel) rfl, av_in (by decide +kernel) rfl, ⟨_, rfl, rfl⟩, by decide +kernel⟩
theorem vX1_105 : av_cv RX1 105 mX3_isEndless 3 1 := ⟨av_in (by decide +kernel) rfl, av_in (by decide +kernel) rfl, av_in (by decide +kernel) rfl, ⟨_, rfl, rfl⟩, by decide +kernel⟩
theorem sX7_134 : av_cs0 RX7 134 mJ6_bitCount_0f7a4 1 := ⟨Or.inl (av_in (by decide +kernel) rfl), av_in (by decide +kernel) rfl, by decide +kernel⟩
theorem vL_73 : av_cv RL 73 mX7_factors 7 2 := ⟨av_in (by decide +kernel) rfl, av_in (by decide +kernel) rfl, av_in (by decide +kernel) rfl, ⟨_, rfl, rfl⟩, by decide +kernel⟩
theorem vX7_139 : av_cv RX7 139 mX5_resize 5 2 := ⟨av_in (by decide +kernel) rfl, av_in (by decide +kernel) rfl, av_in (by decide +kernel) rfl, ⟨_, rfl, rfl⟩, by decide +kernel⟩
theorem vL_77 : av_cv RL 77 mX7_entry 7 4 := ⟨av_in (by decide +kernel) rfl, av_in (by decide +kernel) rfl, av_in (by decide +kernel) rfl, ⟨_, rfl, rfl⟩, by decide +kernel⟩
theorem vX7_142 : av_cv RX7 142 mX5_put 5 3 := ⟨av_in (by decide +kernel) rfl, av_in (by decide +kernel) rfl, av_in (by decide +kernel) rfl, ⟨_, rfl, rfl⟩, by decide +kernel⟩
theorem vL_82 : av_cv RL 82 mX7_hold 7 0 := ⟨av_in (by decide +kernel) rfl, av_in (by decide +kernel) rfl, av_in (by decide +kernel) rfl, ⟨_, rfl, rfl⟩, by decide +kernel⟩
theorem vL_86 : av_cv RL 86 mX7_wrong 7 0 := ⟨av_in (by decide +kernel) rfl, av_in (by decide +kernel) rfl, av_in (by decide +kernel) rfl, ⟨_, rfl, rfl⟩, by decide +kernel⟩
theorem vL_90 : av_cv RL 90 mX7_wall 7 4 := ⟨av_in (by decide +kernel) rfl, av_in (by decide +kernel) rfl, av_in (by decide +kernel) rfl, ⟨_, rfl, rfl⟩, by decide +kernel⟩
theorem sX7_145 : av_cs0 RX7 145 mX7_isStep 1 := ⟨Or.inl (av_in (by decide +kernel) rfl), av_in (by decide +kernel) rfl, by decide +kernel⟩
theorem sX7_148 : av_cs0 RX7 148 mX7_isFar 1 := ⟨Or.inl (av_in (by decide +kernel) rfl), av_in (by decide +kernel) rfl, by decide +kernel⟩
theorem vX7_151 : av_cv RX7 151 mX0_walls 0 0 := ⟨av_in (by decide +kernel) rfl, av_in (by decide +kernel) rfl, av_in (by decide +kernel) rfl, ⟨_, rfl, rfl⟩, by decide +kernel⟩
theorem vX7_154 : av_cv RX7 154 mX6_size 6 0 := ⟨av_in (by decide +kernel) rfl, av_in (by decide +kernel) rfl, av_in (by decide +kernel) rfl, ⟨_, rfl, rfl⟩, by decide +kernel⟩
theorem vX7_157 : av_cv RX7 157 mX0_build 0 4 := ⟨av_in (by decide +kernel) rfl, av_in (by decide +kernel) rfl, av_in (by decide +kernel) rfl, ⟨_, rfl, rfl⟩, by decide +kernel⟩
theorem vX0_46 : av_cv RX0 46 mX6_add 6 4 := ⟨av_in (by decide +kernel) rfl, av_in (by decide +kernel) rfl, av_in (by decide +kernel) rfl, ⟨_, rfl, rfl⟩, by decide +kernel⟩
theorem vX6_35 : av_cv RX6 35 mX6_turn 6 2 := ⟨av_in (by decide +kernel) rfl, av_in (by decide +kernel) rfl, av_in (by decide +kernel) rfl, ⟨_, rfl, rfl⟩, by decide +kernel⟩
theorem vX6_31 : av_cv RX6 31 mX6_isOn 6 1 := ⟨av_in (by decide +kernel) rfl, av_in (by decide +kernel) rfl, av_in (by decide +kernel) rfl, ⟨_, rfl, rfl⟩, by decide +kernel⟩
theorem vX0_50 : av_cv RX0 50 mX3_find 3 1 := ⟨av_in (by decide +kernel) rfl, av_in (by decide +kernel) rfl, av_in (by decide +kernel) rfl, ⟨_, rfl, rfl⟩, by decide +kernel⟩
theorem vX3_46 : av_cv RX3 46 mX3_addRays 3 3 := ⟨av_in (by decide +kernel) rfl, av_in (by decide +kernel) rfl, av_in (by decide +kernel) rfl, ⟨_, rfl, rfl⟩, by decide +kernel⟩
theorem vX3_78 : av_cv RX3 78 mX3_addRay 3 4 := ⟨av_in (by decide +kernel) rfl, av_in (by decide +kernel) rfl, av_in (by decide +kernel) rfl, ⟨_, rfl, rfl⟩, by decide +kernel⟩
theorem vX3_74 : av_cv RX3 74 mX6_excess 6 5 := ⟨av_in (by decide +kernel) rfl, av_in (by decide +kernel) rfl, av_in (by decide +kernel) rfl, ⟨_, rfl, rfl⟩, by decide +kernel⟩
theorem vX3_50 : av_cv RX3 50 mX3_addMeet 3 4 := ⟨av_in (by decide +kernel) rfl, av_in (by decide +kernel) rfl, av_in (by decide +kernel) rfl, ⟨_, rfl, rfl⟩, by decide +kernel⟩
theorem sX3_63 : av_cs0 RX3 63 mX3_volume 6 := ⟨Or.inl (av_in (by decide +kernel) rfl), av_in (by decide +kernel) rfl, by decide +kernel⟩
theorem vX3_70 : av_cv RX3 70 mX3_mark 3 1 := ⟨av_in (by decide +kernel) rfl, av_in (by decide +kernel) rfl, av_in (by decide +kernel) rfl, ⟨_, rfl, rfl⟩, by decide +kernel⟩
theorem vX0_54 : av_cv RX0 54 mX0_carve 0 0 := ⟨av_in (by decide +kernel) rfl, av_in (by decide +kernel) rfl, av_in (by decide +kernel) rfl, ⟨_, rfl, rfl⟩, by decide +kernel⟩
theorem vX0_65 : av_cv RX0 65 mX3_size 3 0 := ⟨av_in (by decide +kernel) rfl, av_in (by decide +kernel) rfl, av_in (by decide +kernel) rfl, ⟨_, rfl, rfl⟩, by decide +kernel⟩
theorem vX0_68 : av_cv RX0 68 mX6_onSet 6 0 := ⟨av_in (by decide +kernel) rfl, av_in (by decide +kernel) rfl, av_in (by decide +kernel) rfl, ⟨_, rfl, rfl⟩, by decide +kernel⟩
theorem vX0_71 : av_cv RX0 71 mX3_isVertex 3 2 := ⟨av_in (by decide +kernel) rfl, av_in (by decide +kernel) rfl, av_in (by decide +kernel) rfl, ⟨_, rfl, rfl⟩, by decide +kernel⟩
theorem vX0_75 : av_cv RX0 75 mX0_addVertex 0 1 := ⟨av_in (by decide +kernel) rfl, av_in (by decide +kernel) rfl, av_in (by decide +kernel) rfl, ⟨_, rfl, rfl⟩, by decide +kernel⟩
theorem vX0_101 : av_cv RX0 101 mX3_order 3 2 := ⟨av_in (by decide +kernel) rfl, av_in (by decide +kernel) rfl, av_in (by decide +kernel) rfl, ⟨_, rfl, rfl⟩, by decide +kernel⟩
theorem sX3_85 : av_cs0 RX3 85 mJ13_compare_74951 2 := ⟨Or.inl (av_in (by decide +kernel) rfl), av_in (by decide +kernel) rfl, by decide +kernel⟩
theorem vX0_78 : av_cv RX0 78 mX3_isEndless 3 1 := ⟨av_in (by decide +kernel) rfl, av_in (by decide +kernel) rfl, av_in (by decide +kernel) rfl, ⟨_, rfl, rfl⟩, by decide +kernel⟩
theorem vX0_82 : av_cv RX0 82 mX4_empty 4 0 := ⟨av_in (by decide +kernel) rfl, av_in (by decide +kernel) rfl, av_in (by decide +kernel) rfl, ⟨_, rfl, rfl⟩, by decide +kernel⟩
theorem vX0_85 : av_cv RX0 85 mX3_xOf 3 1 := ⟨av_in (by decide +kernel) rfl, av_in (by decide +kernel) rfl, av_in (by decide +kernel) rfl, ⟨_, rfl, rfl⟩, by decide +kernel⟩
theorem vX0_89 : av_cv RX0 89 mX3_yOf 3 1 := ⟨av_in (by decide +kernel) rfl, av_in (by decide +kernel) rfl, av_in (by decide +kernel) rfl, ⟨_, rfl, rfl⟩, by decide +kernel⟩
theorem vX0_92 : av_cv RX0 92 mX3_wOf 3 1 := ⟨av_in (by decide +kernel) rfl, av_in (by decide +kernel) rfl, av_in (by decide +kernel) rfl, ⟨_, rfl, rfl⟩, by decide +kernel⟩
theorem vX0_95 : av_cv RX0 95 mX4_add 4 3 := ⟨av_in (by decide +kernel) rfl, av_in (by decide +kernel) rfl, av_in (by decide +kernel) rfl, ⟨_, rfl, rfl⟩, by decide +kernel⟩
theorem vX0_98 : av_cv RX0 98 mX4_wrap 4 0 := ⟨av_in (by decide +kernel) rfl, av_in (by decide +kernel) rfl, av_in (by decide +kernel) rfl, ⟨_, rfl, rfl⟩, by decide +kernel⟩
theorem vL_95 : av_cv RL 95 mX7_shift 7 2 := ⟨av_in (by decide +kernel) rfl, av_in (by decide +kernel) rfl, av_in (by decide +kernel) rfl, ⟨_, rfl, rfl⟩, by decide +kernel⟩
theorem vX7_161 : av_cv RX7 161 mX6_has 6 1 := ⟨av_in (by decide +kernel) rfl, av_in (by decide +kernel) rfl, av_in (by decide +kernel) rfl, ⟨_, rfl, rfl⟩, by decide +kernel⟩
theorem vX7_162 : av_cv RX7 162 mX0_push 0 2 := ⟨av_in (by decide +kernel) rfl, av_in (by decide +kernel) rfl, av_in (by decide +kernel) rfl, ⟨_, rfl, rfl⟩, by decide +kernel⟩
theorem vX0_57 : av_cv RX0 57 mX6_push 6 2 := ⟨av_in (by decide +kernel) rfl, av_in (by decide +kernel) rfl, av_in (by decide +kernel) rfl, ⟨_, rfl, rfl⟩, by decide +kernel⟩
theorem vL_99 : av_cv RL 99 mX7_on 7 2 := ⟨av_in (by decide +kernel) rfl, av_in (by decide +kernel) rfl, av_in (by decide +kernel) rfl, ⟨_, rfl, rfl⟩, by decide +kernel⟩
theorem vX7_165 : av_cv RX7 165 mX0_turn 0 2 := ⟨av_in (by decide +kernel) rfl, av_in (by decide +kernel) rfl, av_in (by decide +kernel) rfl, ⟨_, rfl, rfl⟩, by decide +kernel⟩
theorem vX0_61 : av_cv RX0 61 mX6_turn 6 2 := ⟨av_in (by decide +kernel) rfl, av_in (by decide +kernel) rfl, av_in (by decide +kernel) rfl, ⟨_, rfl, rfl⟩, by decide +kernel⟩
theorem vL_103 : av_cv RL 103 mX7_about 7 2 := ⟨av_in (by decide +kernel) rfl, av_in (by decide +kernel) rfl, av_in (by decide +kernel) rfl, ⟨_, rfl, rfl⟩, by decide +kernel⟩
theorem vX7_169 : av_cv RX7 169 mX6_part 6 2 := ⟨av_in (by decide +kernel) rfl, av_in (by decide +kernel) rfl, av_in (by decide +kernel) rfl, ⟨_, rfl, rfl⟩, by decide +kernel⟩
theorem vL_107 : av_cv RL 107 mX7_sound 7 0 := ⟨av_in (by decide +kernel) rfl, av_in (by decide +kernel) rfl, av_in (by decide +kernel) rfl, ⟨_, rfl, rfl⟩, by decide +kernel⟩
theorem vX7_172 : av_cv RX7 172 mX0_isSound 0 0 := ⟨av_in (by decide +kernel) rfl, av_in (by decide +kernel) rfl, av_in (by decide +kernel) rfl, ⟨_, rfl, rfl⟩, by decide +kernel⟩
theorem vL_111 : av_cv RL 111 mX7_vertices 7 0 := ⟨av_in (by decide +kernel) rfl, av_in (by decide +kernel) rfl, av_in (by decide +kernel) rfl, ⟨_, rfl, rfl⟩, by decide +kernel⟩
theorem vX7_175 : av_cv RX7 175 mX0_size 0 0 := ⟨av_in (by decide +kernel) rfl, av_in (by decide +kernel) rfl, av_in (by decide +kernel) rfl, ⟨_, rfl, rfl⟩, by decide +kernel⟩
theorem vL_115 : av_cv RL 115 mX7_vertex 7 3 := ⟨av_in (by decide +kernel) rfl, av_in (by decide +kernel) rfl, av_in (by decide +kernel) rfl, ⟨_, rfl, rfl⟩, by decide +kernel⟩
theorem vX7_176 : av_cv RX7 176 mX0_has 0 1 := ⟨av_in (by decide +kernel) rfl, av_in (by decide +kernel) rfl, av_in (by decide +kernel) rfl, ⟨_, rfl, rfl⟩, by decide +kernel⟩
theorem kX7_177 : Cond.constantLong RX7 177 (-900000001) ∈ av_WT := av_in (by decide +kernel) rfl
theorem vX7_179 : av_cv RX7 179 mX0_coordinate 0 3 := ⟨av_in (by decide +kernel) rfl, av_in (by decide +kernel) rfl, av_in (by decide +kernel) rfl, ⟨_, rfl, rfl⟩, by decide +kernel⟩
theorem vX0_104 : av_cv RX0 104 mX3_zOf 3 1 := ⟨av_in (by decide +kernel) rfl, av_in (by decide +kernel) rfl, av_in (by decide +kernel) rfl, ⟨_, rfl, rfl⟩, by decide +kernel⟩
theorem sX0_107 : av_cs0 RX0 107 mX7_told 3 := ⟨Or.inr ⟨"GreaterBodies", by decide +kernel⟩, av_in (by decide +kernel) rfl, by decide +kernel⟩
theorem sX7_244 : av_cs0 RX7 244 mX7_gcd 2 := ⟨Or.inl (av_in (by decide +kernel) rfl), av_in (by decide +kernel) rfl, by decide +kernel⟩
theorem kX7_183 : Cond.constantLong RX7 183 (-900000002) ∈ av_WT := av_in (by decide +kernel) rfl
theorem vL_120 : av_cv RL 120 mX7_tight 7 1 := ⟨av_in (by decide +kernel) rfl, av_in (by decide +kernel) rfl, av_in (by decide +kernel) rfl, ⟨_, rfl, rfl⟩, by decide +kernel⟩
theorem vX7_185 : av_cv RX7 185 mX0_tightAt 0 1 := ⟨av_in (by decide +kernel) rfl, av_in (by decide +kernel) rfl, av_in (by decide +kernel) rfl, ⟨_, rfl, rfl⟩, by decide +kernel⟩
theorem vX0_111 : av_cv RX0 111 mX3_touchersOf 3 1 := ⟨av_in (by decide +kernel) rfl, av_in (by decide +kernel) rfl, av_in (by decide +kernel) rfl, ⟨_, rfl, rfl⟩, by decide +kernel⟩
theorem vL_125 : av_cv RL 125 mX7_rims 7 0 := ⟨av_in (by decide +kernel) rfl, av_in (by decide +kernel) rfl, av_in (by decide +kernel) rfl, ⟨_, rfl, rfl⟩, by decide +kernel⟩
theorem vX7_188 : av_cv RX7 188 mX0_rimCount 0 0 := ⟨av_in (by decide +kernel) rfl, av_in (by decide +kernel) rfl, av_in (by decide +kernel) rfl, ⟨_, rfl, rfl⟩, by decide +kernel⟩
theorem vX0_114 : av_cv RX0 114 mX0_isRim 0 2 := ⟨av_in (by decide +kernel) rfl, av_in (by decide +kernel) rfl, av_in (by decide +kernel) rfl, ⟨_, rfl, rfl⟩, by decide +kernel⟩
theorem vX0_117 : av_cv RX0 117 mX0_tightAt 0 1 := ⟨av_in (by decide +kernel) rfl, av_in (by decide +kernel) rfl, av_in (by decide +kernel) rfl, ⟨_, rfl, rfl⟩, by decide +kernel⟩
theorem vL_129 : av_cv RL 129 mX7_idle 7 1 := ⟨av_in (by decide +kernel) rfl, av_in (by decide +kernel) rfl, av_in (by decide +kernel) rfl, ⟨_, rfl, rfl⟩, by decide +kernel⟩
theorem vX7_191 : av_cv RX7 191 mX0_isIdle 0 1 := ⟨av_in (by decide +kernel) rfl, av_in (by decide +kernel) rfl, av_in (by decide +kernel) rfl, ⟨_, rfl, rfl⟩, by decide +kernel⟩
theorem vX0_120 : av_cv RX0 120 mX6_isOn 6 1 := ⟨av_in (by decide +kernel) rfl, av_in (by decide +kernel) rfl, av_in (by decide +kernel) rfl, ⟨_, rfl, rfl⟩, by decide +kernel⟩
theorem vX0_123 : av_cv RX0 123 mX3_isBroken 3 2 := ⟨av_in (by decide +kernel) rfl, av_in (by decide +kernel) rfl, av_in (by decide +kernel) rfl, ⟨_, rfl, rfl⟩, by decide +kernel⟩
theorem vL_133 : av_cv RL 133 mX7_shadow 7 0 := ⟨av_in (by decide +kernel) rfl, av_in (by decide +kernel) rfl, av_in (by decide +kernel) rfl, ⟨_, rfl, rfl⟩, by decide +kernel⟩
theorem vX7_194 : av_cv RX7 194 mX0_outline 0 0 := ⟨av_in (by decide +kernel) rfl, av_in (by decide +kernel) rfl, av_in (by decide +kernel) rfl, ⟨_, rfl, rfl⟩, by decide +kernel⟩
theorem vL_137 : av_cv RL 137 mX7_shadowAt 7 3 := ⟨av_in (by decide +kernel) rfl, av_in (by decide +kernel) rfl, av_in (by decide +kernel) rfl, ⟨_, rfl, rfl⟩, by decide +kernel⟩
theorem kX7_197 : Cond.constantLong RX7 197 (-900000003) ∈ av_WT := av_in (by decide +kernel) rfl
theorem vX7_199 : av_cv RX7 199 mX4_wOf 4 1 := ⟨av_in (by decide +kernel) rfl, av_in (by decide +kernel) rfl, av_in (by decide +kernel) rfl, ⟨_, rfl, rfl⟩, by decide +kernel⟩
theorem sX7_202 : av_cs0 RX7 202 mX7_told 3 := ⟨Or.inl (av_in (by decide +kernel) rfl), av_in (by decide +kernel) rfl, by decide +kernel⟩
theorem vL_142 : av_cv RL 142 mX7_seen 7 0 := ⟨av_in (by decide +kernel) rfl, av_in (by decide +kernel) rfl, av_in (by decide +kernel) rfl, ⟨_, rfl, rfl⟩, by decide +kernel⟩
theorem vX7_206 : av_cv RX7 206 mX4_cornersMissing 4 1 := ⟨av_in (by decide +kernel) rfl, av_in (by decide +kernel) rfl, av_in (by decide +kernel) rfl, ⟨_, rfl, rfl⟩, by decide +kernel⟩
theorem vX4_51 : av_cv RX4 51 mX4_xOf 4 1 := ⟨av_in (by decide +kernel) rfl, av_in (by decide +kernel) rfl, av_in (by decide +kernel) rfl, ⟨_, rfl, rfl⟩, by decide +kernel⟩
theorem vX4_54 : av_cv RX4 54 mX4_yOf 4 1 := ⟨av_in (by decide +kernel) rfl, av_in (by decide +kernel) rfl, av_in (by decide +kernel) rfl, ⟨_, rfl, rfl⟩, by decide +kernel⟩
theorem vX4_57 : av_cv RX4 57 mX4_wOf 4 1 := ⟨av_in (by decide +kernel) rfl, av_in (by decide +kernel) rfl, av_in (by decide +kernel) rfl, ⟨_, rfl, rfl⟩, by decide +kernel⟩
theorem vX4_60 : av_cv RX4 60 mX4_holds 4 3 := ⟨av_in (by decide +kernel) rfl, av_in (by decide +kernel) rfl, av_in (by decide +kernel) rfl, ⟨_, rfl, rfl⟩, by decide +kernel⟩
theorem vL_146 : av_cv RL 146 mX7_missed 7 0 := ⟨av_in (by decide +kernel) rfl, av_in (by decide +kernel) rfl, av_in (by decide +kernel) rfl, ⟨_, rfl, rfl⟩, by decide +kernel⟩
theorem vL_150 : av_cv RL 150 mX7_beyond 7 0 := ⟨av_in (by decide +kernel) rfl, av_in (by decide +kernel) rfl, av_in (by decide +kernel) rfl, ⟨_, rfl, rfl⟩, by decide +kernel⟩
theorem vL_154 : av_cv RL 154 mX7_fewest 7 0 := ⟨av_in (by decide +kernel) rfl, av_in (by decide +kernel) rfl, av_in (by decide +kernel) rfl, ⟨_, rfl, rfl⟩, by decide +kernel⟩
theorem vL_158 : av_cv RL 158 mX7_needed 7 1 := ⟨av_in (by decide +kernel) rfl, av_in (by decide +kernel) rfl, av_in (by decide +kernel) rfl, ⟨_, rfl, rfl⟩, by decide +kernel⟩
theorem vL_162 : av_cv RL 162 mX7_blow 7 1 := ⟨av_in (by decide +kernel) rfl, av_in (by decide +kernel) rfl, av_in (by decide +kernel) rfl, ⟨_, rfl, rfl⟩, by decide +kernel⟩
theorem vX7_210 : av_cv RX7 210 mX4_isRoundOrigin 4 0 := ⟨av_in (by decide +kernel) rfl, av_in (by decide +kernel) rfl, av_in (by decide +kernel) rfl, ⟨_, rfl, rfl⟩, by decide +kernel⟩
theorem vX7_213 : av_cv RX7 213 mX4_growth 4 2 := ⟨av_in (by decide +kernel) rfl, av_in (by decide +kernel) rfl, av_in (by decide +kernel) rfl, ⟨_, rfl, rfl⟩, by decide +kernel⟩
theorem sX4_64 : av_cs0 RX4 64 mX7_gcd 2 := ⟨Or.inr ⟨"GreaterBodies", by decide +kernel⟩, av_in (by decide +kernel) rfl, by decide +kernel⟩
theorem sX4_70 : av_cs0 RX4 70 mX7_told 3 := ⟨Or.inr ⟨"GreaterBodies", by decide +kernel⟩, av_in (by decide +kernel) rfl, by decide +kernel⟩
theorem vL_167 : av_cv RL 167 mX7_most 7 2 := ⟨av_in (by decide +kernel) rfl, av_in (by decide +kernel) rfl, av_in (by decide +kernel) rfl, ⟨_, rfl, rfl⟩, by decide +kernel⟩
theorem sX7_217 : av_cs0 RX7 217 mX7_isAim 1 := ⟨Or.inl (av_in (by decide +kernel) rfl), av_in (by decide +kernel) rfl, by decide +kernel⟩
theorem vX7_220 : av_cv RX7 220 mX2_greatest 2 2 := ⟨av_in (by decide +kernel) rfl, av_in (by decide +kernel) rfl, av_in (by decide +kernel) rfl, ⟨_, rfl, rfl⟩, by decide +kernel⟩
theorem sX2_72 : av_cs0 RX2 72 mJ9_max_7cf53 2 := ⟨Or.inl (av_in (by decide +kernel) rfl), av_in (by decide +kernel) rfl, by decide +kernel⟩
theorem vL_171 : av_cv RL 171 mX7_mostOf 7 4 := ⟨av_in (by decide +kernel) rfl, av_in (by decide +kernel) rfl, av_in (by decide +kernel) rfl, ⟨_, rfl, rfl⟩, by decide +kernel⟩
theorem vX7_223 : av_cv RX7 223 mX7_aimRefusal 7 3 := ⟨av_in (by decide +kernel) rfl, av_in (by decide +kernel) rfl, av_in (by decide +kernel) rfl, ⟨_, rfl, rfl⟩, by decide +kernel⟩
theorem vX7_227 : av_cv RX7 227 mX0_firstBest 0 3 := ⟨av_in (by decide +kernel) rfl, av_in (by decide +kernel) rfl, av_in (by decide +kernel) rfl, ⟨_, rfl, rfl⟩, by decide +kernel⟩
theorem vX0_126 : av_cv RX0 126 mX0_over 0 4 := ⟨av_in (by decide +kernel) rfl, av_in (by decide +kernel) rfl, av_in (by decide +kernel) rfl, ⟨_, rfl, rfl⟩, by decide +kernel⟩
theorem vX7_230 : av_cv RX7 230 mX0_valueAt 0 5 := ⟨av_in (by decide +kernel) rfl, av_in (by decide +kernel) rfl, av_in (by decide +kernel) rfl, ⟨_, rfl, rfl⟩, by decide +kernel⟩
theorem vL_176 : av_cv RL 176 mX7_at 7 3 := ⟨av_in (by decide +kernel) rfl, av_in (by decide +kernel) rfl, av_in (by decide +kernel) rfl, ⟨_, rfl, rfl⟩, by decide +kernel⟩
theorem vL_180 : av_cv RL 180 mX7_count 7 1 := ⟨av_in (by decide +kernel) rfl, av_in (by decide +kernel) rfl, av_in (by decide +kernel) rfl, ⟨_, rfl, rfl⟩, by decide +kernel⟩
theorem vX7_234 : av_cv RX7 234 mX6_onSet 6 0 := ⟨av_in (by decide +kernel) rfl, av_in (by decide +kernel) rfl, av_in (by decide +kernel) rfl, ⟨_, rfl, rfl⟩, by decide +kernel⟩
theorem vX7_237 : av_cv RX7 237 mX5_scale 5 0 := ⟨av_in (by decide +kernel) rfl, av_in (by decide +kernel) rfl, av_in (by decide +kernel) rfl, ⟨_, rfl, rfl⟩, by decide +kernel⟩
theorem fX8_101 : av_fl RX8 101 8 0 := ⟨RX8, TX8, 34, rfl, by decide, u8_in, Or.inl (av_in (by decide +kernel) rfl)⟩
theorem gX8_101 : av_fp RX8 101 8 0 .int := ⟨RX8, TX8, 34, tyX8, rfl, by decide, u8_in, av_in (by decide +kernel) rfl, tyX8_ok, nmX8, by decide +kernel, by decide +kernel⟩
theorem fX8_7 : av_fl RX8 7 8 1 := ⟨RX8, TX8, 34, rfl, by decide, u8_in, Or.inl (av_in (by decide +kernel) rfl)⟩
theorem fX8_13 : av_fl RX8 13 8 2 := ⟨RX8, TX8, 34, rfl, by decide, u8_in, Or.inl (av_in (by decide +kernel) rfl)⟩
theorem fX8_16 : av_fl RX8 16 8 3 := ⟨RX8, TX8, 34, rfl, by decide, u8_in, Or.inl (av_in (by decide +kernel) rfl)⟩
theorem fX8_20 : av_fl RX8 20 8 4 := ⟨RX8, TX8, 34, rfl, by decide, u8_in, Or.inl (av_in (by decide +kernel) rfl)⟩
theorem fX8_23 : av_fl RX8 23 8 5 := ⟨RX8, TX8, 34, rfl, by decide, u8_in, Or.inl (av_in (by decide +kernel) rfl)⟩
theorem fX8_26 : av_fl RX8 26 8 6 := ⟨RX8, TX8, 34, rfl, by decide, u8_in, Or.inl (av_in (by decide +kernel) rfl)⟩
theorem fX8_131 : av_fl RX8 131 8 7 := ⟨RX8, TX8, 34, rfl, by decide, u8_in, Or.inl (av_in (by decide +kernel) rfl)⟩
theorem gX8_131 : av_fp RX8 131 8 7 .int := ⟨RX8, TX8, 34, tyX8, rfl, by decide, u8_in, av_in (by decide +kernel) rfl, tyX8_ok, nmX8, by decide +kernel, by decide +kernel⟩
theorem fX8_29 : av_fl RX8 29 8 8 := ⟨RX8, TX8, 34, rfl, by decide, u8_in, Or.inl (av_in (by decide +kernel) rfl)⟩
theorem fX8_287 : av_fl RX8 287 8 9 := ⟨RX8, TX8, 34, rfl, by decide, u8_in, Or.inl (av_in (by decide +kernel) rfl)⟩
theorem gX8_287 : av_fp RX8 287 8 9 .int := ⟨RX8, TX8, 34, tyX8, rfl, by decide, u8_in, av_in (by decide +kernel) rfl, tyX8_ok, nmX8, by decide +kernel, by decide +kernel⟩
theorem fX8_32 : av_fl RX8 32 8 10 := ⟨RX8, TX8, 34, rfl, by decide, u8_in, Or.inl (av_in (by decide +kernel) rfl)⟩
theorem fX8_155 : av_fl RX8 155 8 11 := ⟨RX8, TX8, 34, rfl, by decide, u8_in, Or.inl (av_in (by decide +kernel) rfl)⟩
theorem gX8_155 : av_fp RX8 155 8 11 .int := ⟨RX8, TX8, 34, tyX8, rfl, by decide, u8_in, av_in (by decide +kernel) rfl, tyX8_ok, nmX8, by decide +kernel, by decide +kernel⟩
theorem fX8_35 : av_fl RX8 35 8 12 := ⟨RX8, TX8, 34, rfl, by decide, u8_in, Or.inl (av_in (by decide +kernel) rfl)⟩
theorem fX8_151 : av_fl RX8 151 8 13 := ⟨RX8, TX8, 34, rfl, by decide, u8_in, Or.inl (av_in (by decide +kernel) rfl)⟩
theorem gX8_151 : av_fp RX8 151 8 13 .long := ⟨RX8, TX8, 34, tyX8, rfl, by decide, u8_in, av_in (by decide +kernel) rfl, tyX8_ok, nmX8, by decide +kernel, by decide +kernel⟩
theorem fX8_38 : av_fl RX8 38 8 14 := ⟨RX8, TX8, 34, rfl, by decide, u8_in, Or.inl (av_in (by decide +kernel) rfl)⟩
theorem fX8_41 : av_fl RX8 41 8 15 := ⟨RX8, TX8, 34, rfl, by decide, u8_in, Or.inl (av_in (by decide +kernel) rfl)⟩
theorem fX8_44 : av_fl RX8 44 8 16 := ⟨RX8, TX8, 34, rfl, by decide, u8_in, Or.inl (av_in (by decide +kernel) rfl)⟩
theorem fX8_47 : av_fl RX8 47 8 17 := ⟨RX8, TX8, 34, rfl, by decide, u8_in, Or.inl (av_in (by decide +kernel) rfl)⟩
theorem fX8_50 : av_fl RX8 50 8 18 := ⟨RX8, TX8, 34, rfl, by decide, u8_in, Or.inl (av_in (by decide +kernel) rfl)⟩
theorem fX8_53 : av_fl RX8 53 8 19 := ⟨RX8, TX8, 34, rfl, by decide, u8_in, Or.inl (av_in (by decide +kernel) rfl)⟩
theorem gX8_53 : av_fp RX8 53 8 19 .int := ⟨RX8, TX8, 34, tyX8, rfl, by decide, u8_in, av_in (by decide +kernel) rfl, tyX8_ok, nmX8, by decide +kernel, by decide +kernel⟩
theorem fX8_57 : av_fl RX8 57 8 20 := ⟨RX8, TX8, 34, rfl, by decide, u8_in, Or.inl (av_in (by decide +kernel) rfl)⟩
theorem gX8_57 : av_fp RX8 57 8 20 .int := ⟨RX8, TX8, 34, tyX8, rfl, by decide, u8_in, av_in (by decide +kernel) rfl, tyX8_ok, nmX8, by decide +kernel, by decide +kernel⟩
theorem fX8_60 : av_fl RX8 60 8 21 := ⟨RX8, TX8, 34, rfl, by decide, u8_in, Or.inl (av_in (by decide +kernel) rfl)⟩
theorem fX8_63 : av_fl RX8 63 8 22 := ⟨RX8, TX8, 34, rfl, by decide, u8_in, Or.inl (av_in (by decide +kernel) rfl)⟩
theorem fX8_216 : av_fl RX8 216 8 23 := ⟨RX8, TX8, 34, rfl, by decide, u8_in, Or.inl (av_in (by decide +kernel) rfl)⟩
theorem gX8_216 : av_fp RX8 216 8 23 .int := ⟨RX8, TX8, 34, tyX8, rfl, by decide, u8_in, av_in (by decide +kernel) rfl, tyX8_ok, nmX8, by decide +kernel, by decide +kernel⟩
theorem fX8_66 : av_fl RX8 66 8 24 := ⟨RX8, TX8, 34, rfl, by decide, u8_in, Or.inl (av_in (by decide +kernel) rfl)⟩
theorem fX8_69 : av_fl RX8 69 8 25 := ⟨RX8, TX8, 34, rfl, by decide, u8_in, Or.inl (av_in (by decide +kernel) rfl)⟩
theorem fX8_228 : av_fl RX8 228 8 26 := ⟨RX8, TX8, 34, rfl, by decide, u8_in, Or.inl (av_in (by decide +kernel) rfl)⟩
theorem gX8_228 : av_fp RX8 228 8 26 .int := ⟨RX8, TX8, 34, tyX8, rfl, by decide, u8_in, av_in (by decide +kernel) rfl, tyX8_ok, nmX8, by decide +kernel, by decide +kernel⟩
theorem fX8_73 : av_fl RX8 73 8 27 := ⟨RX8, TX8, 34, rfl, by decide, u8_in, Or.inl (av_in (by decide +kernel) rfl)⟩
theorem fX8_76 : av_fl RX8 76 8 28 := ⟨RX8, TX8, 34, rfl, by decide, u8_in, Or.inl (av_in (by decide +kernel) rfl)⟩
theorem fX8_79 : av_fl RX8 79 8 29 := ⟨RX8, TX8, 34, rfl, by decide, u8_in, Or.inl (av_in (by decide +kernel) rfl)⟩
theorem fX8_82 : av_fl RX8 82 8 30 := ⟨RX8, TX8, 34, rfl, by decide, u8_in, Or.inl (av_in (by decide +kernel) rfl)⟩
theorem fX8_275 : av_fl RX8 275 8 31 := ⟨RX8, TX8, 34, rfl, by decide, u8_in, Or.inl (av_in (by decide +kernel) rfl)⟩
theorem gX8_275 : av_fp RX8 275 8 31 .int := ⟨RX8, TX8, 34, tyX8, rfl, by decide, u8_in, av_in (by decide +kernel) rfl, tyX8_ok, nmX8, by decide +kernel, by decide +kernel⟩
theorem fX8_85 : av_fl RX8 85 8 32 := ⟨RX8, TX8, 34, rfl, by decide, u8_in, Or.inl (av_in (by decide +kernel) rfl)⟩
theorem fX8_302 : av_fl RX8 302 8 33 := ⟨RX8, TX8, 34, rfl, by decide, u8_in, Or.inl (av_in (by decide +kernel) rfl)⟩
theorem gX8_302 : av_fp RX8 302 8 33 .int := ⟨RX8, TX8, 34, tyX8, rfl, by decide, u8_in, av_in (by decide +kernel) rfl, tyX8_ok, nmX8, by decide +kernel, by decide +kernel⟩
theorem vL_17 : av_cv RL 17 mX8_point 8 2 := ⟨av_in (by decide +kernel) rfl, av_in (by decide +kernel) rfl, av_in (by decide +kernel) rfl, ⟨_, rfl, rfl⟩, by decide +kernel⟩
theorem kX8_92 : Cond.constantLong RX8 92 (-50) ∈ av_WT := av_in (by decide +kernel) rfl
theorem kX8_94 : Cond.constantLong RX8 94 (50) ∈ av_WT := av_in (by decide +kernel) rfl
theorem sX8_96 : av_cs0 RX8 96 mX8_in 3 := ⟨Or.inl (av_in (by decide +kernel) rfl), av_in (by decide +kernel) rfl, by decide +kernel⟩
theorem kX8_100 : Cond.constant RX8 100 (-900000002) ∈ av_WT := av_in (by decide +kernel) rfl
theorem kX8_104 : Cond.constant RX8 104 (-900000004) ∈ av_WT := av_in (by decide +kernel) rfl
theorem vL_22 : av_cv RL 22 mX8_move 8 3 := ⟨av_in (by decide +kernel) rfl, av_in (by decide +kernel) rfl, av_in (by decide +kernel) rfl, ⟨_, rfl, rfl⟩, by decide +kernel⟩
theorem kX8_105 : Cond.constant RX8 105 (-900000001) ∈ av_WT := av_in (by decide +kernel) rfl
theorem vL_27 : av_cv RL 27 mX8_clear 8 0 := ⟨av_in (by decide +kernel) rfl, av_in (by decide +kernel) rfl, av_in (by decide +kernel) rfl, ⟨_, rfl, rfl⟩, by decide +kernel⟩
theorem vL_31 : av_cv RL 31 mX8_corners 8 0 := ⟨av_in (by decide +kernel) rfl, av_in (by decide +kernel) rfl, av_in (by decide +kernel) rfl, ⟨_, rfl, rfl⟩, by decide +kernel⟩
theorem vX8_134 : av_cv RX8 134 mX8_layFigure 8 0 := ⟨av_in (by decide +kernel) rfl, av_in (by decide +kernel) rfl, av_in (by decide +kernel) rfl, ⟨_, rfl, rfl⟩, by decide +kernel⟩
theorem vX8_127 : av_cv RX8 127 mX8_hull 8 3 := ⟨av_in (by decide +kernel) rfl, av_in (by decide +kernel) rfl, av_in (by decide +kernel) rfl, ⟨_, rfl, rfl⟩, by decide +kernel⟩
theorem vX8_110 : av_cv RX8 110 mX8_isAhead 8 2 := ⟨av_in (by decide +kernel) rfl, av_in (by decide +kernel) rfl, av_in (by decide +kernel) rfl, ⟨_, rfl, rfl⟩, by decide +kernel⟩
theorem vX8_106 : av_cv RX8 106 mX8_compare 8 4 := ⟨av_in (by decide +kernel) rfl, av_in (by decide +kernel) rfl, av_in (by decide +kernel) rfl, ⟨_, rfl, rfl⟩, by decide +kernel⟩
theorem vX8_114 : av_cv RX8 114 mX8_isOne 8 2 := ⟨av_in (by decide +kernel) rfl, av_in (by decide +kernel) rfl, av_in (by decide +kernel) rfl, ⟨_, rfl, rfl⟩, by decide +kernel⟩
theorem kX8_117 : Cond.constantLong RX8 117 (-1) ∈ av_WT := av_in (by decide +kernel) rfl
theorem vX8_119 : av_cv RX8 119 mX8_side 8 3 := ⟨av_in (by decide +kernel) rfl, av_in (by decide +kernel) rfl, av_in (by decide +kernel) rfl, ⟨_, rfl, rfl⟩, by decide +kernel⟩
theorem vX8_123 : av_cv RX8 123 mX8_isBetween 8 3 := ⟨av_in (by decide +kernel) rfl, av_in (by decide +kernel) rfl, av_in (by decide +kernel) rfl, ⟨_, rfl, rfl⟩, by decide +kernel⟩
theorem vL_36 : av_cv RL 36 mX8_corner 8 2 := ⟨av_in (by decide +kernel) rfl, av_in (by decide +kernel) rfl, av_in (by decide +kernel) rfl, ⟨_, rfl, rfl⟩, by decide +kernel⟩
theorem vL_40 : av_cv RL 40 mX8_wallOf 8 2 := ⟨av_in (by decide +kernel) rfl, av_in (by decide +kernel) rfl, av_in (by decide +kernel) rfl, ⟨_, rfl, rfl⟩, by decide +kernel⟩
theorem kX8_137 : Cond.constant RX8 137 (-900000003) ∈ av_WT := av_in (by decide +kernel) rfl
theorem kX8_138 : Cond.constantLong RX8 138 (2) ∈ av_WT := av_in (by decide +kernel) rfl
theorem vX8_140 : av_cv RX8 140 mX8_wallPart 8 2 := ⟨av_in (by decide +kernel) rfl, av_in (by decide +kernel) rfl, av_in (by decide +kernel) rfl, ⟨_, rfl, rfl⟩, by decide +kernel⟩
theorem sX8_88 : av_cs0 RX8 88 mX8_common 2 := ⟨Or.inl (av_in (by decide +kernel) rfl), av_in (by decide +kernel) rfl, by decide +kernel⟩
theorem vL_44 : av_cv RL 44 mX8_slack 8 2 := ⟨av_in (by decide +kernel) rfl, av_in (by decide +kernel) rfl, av_in (by decide +kernel) rfl, ⟨_, rfl, rfl⟩, by decide +kernel⟩
theorem vX8_144 : av_cv RX8 144 mX8_slackOf 8 2 := ⟨av_in (by decide +kernel) rfl, av_in (by decide +kernel) rfl, av_in (by decide +kernel) rfl, ⟨_, rfl, rfl⟩, by decide +kernel⟩
theorem vL_48 : av_cv RL 48 mX8_area 8 0 := ⟨av_in (by decide +kernel) rfl, av_in (by decide +kernel) rfl, av_in (by decide +kernel) rfl, ⟨_, rfl, rfl⟩, by decide +kernel⟩
theorem vL_52 : av_cv RL 52 mX8_open 8 0 := ⟨av_in (by decide +kernel) rfl, av_in (by decide +kernel) rfl, av_in (by decide +kernel) rfl, ⟨_, rfl, rfl⟩, by decide +kernel⟩
theorem vX8_147 : av_cv RX8 147 mX8_isFlat 8 0 := ⟨av_in (by decide +kernel) rfl, av_in (by decide +kernel) rfl, av_in (by decide +kernel) rfl, ⟨_, rfl, rfl⟩, by decide +kernel⟩
theorem vL_56 : av_cv RL 56 mX8_cover 8 0 := ⟨av_in (by decide +kernel) rfl, av_in (by decide +kernel) rfl, av_in (by decide +kernel) rfl, ⟨_, rfl, rfl⟩, by decide +kernel⟩
theorem vX8_181 : av_cv RX8 181 mX8_mayBound 8 0 := ⟨av_in (by decide +kernel) rfl, av_in (by decide +kernel) rfl, av_in (by decide +kernel) rfl, ⟨_, rfl, rfl⟩, by decide +kernel⟩
theorem vX8_184 : av_cv RX8 184 mX8_coverNow 8 0 := ⟨av_in (by decide +kernel) rfl, av_in (by decide +kernel) rfl, av_in (by decide +kernel) rfl, ⟨_, rfl, rfl⟩, by decide +kernel⟩
theorem vX8_162 : av_cv RX8 162 mX8_layOpen 8 0 := ⟨av_in (by decide +kernel) rfl, av_in (by decide +kernel) rfl, av_in (by decide +kernel) rfl, ⟨_, rfl, rfl⟩, by decide +kernel⟩
theorem vX8_165 : av_cv RX8 165 mX8_layBlocks 8 0 := ⟨av_in (by decide +kernel) rfl, av_in (by decide +kernel) rfl, av_in (by decide +kernel) rfl, ⟨_, rfl, rfl⟩, by decide +kernel⟩
theorem vX8_168 : av_cv RX8 168 mX8_covers 8 1 := ⟨av_in (by decide +kernel) rfl, av_in (by decide +kernel) rfl, av_in (by decide +kernel) rfl, ⟨_, rfl, rfl⟩, by decide +kernel⟩
theorem sX8_158 : av_cs0 RX8 158 mX8_firstBit 1 := ⟨Or.inl (av_in (by decide +kernel) rfl), av_in (by decide +kernel) rfl, by decide +kernel⟩
theorem vL_60 : av_cv RL 60 mX8_fools 8 0 := ⟨av_in (by decide +kernel) rfl, av_in (by decide +kernel) rfl, av_in (by decide +kernel) rfl, ⟨_, rfl, rfl⟩, by decide +kernel⟩
theorem vX8_188 : av_cv RX8 188 mX8_foolsNow 8 0 := ⟨av_in (by decide +kernel) rfl, av_in (by decide +kernel) rfl, av_in (by decide +kernel) rfl, ⟨_, rfl, rfl⟩, by decide +kernel⟩
theorem vX8_175 : av_cv RX8 175 mX8_layFooling 8 0 := ⟨av_in (by decide +kernel) rfl, av_in (by decide +kernel) rfl, av_in (by decide +kernel) rfl, ⟨_, rfl, rfl⟩, by decide +kernel⟩
theorem vX8_172 : av_cv RX8 172 mX8_isOpen 8 2 := ⟨av_in (by decide +kernel) rfl, av_in (by decide +kernel) rfl, av_in (by decide +kernel) rfl, ⟨_, rfl, rfl⟩, by decide +kernel⟩
theorem sX8_178 : av_cs0 RX8 178 mX8_ones 1 := ⟨Or.inl (av_in (by decide +kernel) rfl), av_in (by decide +kernel) rfl, by decide +kernel⟩
theorem vL_64 : av_cv RL 64 mX8_log 8 0 := ⟨av_in (by decide +kernel) rfl, av_in (by decide +kernel) rfl, av_in (by decide +kernel) rfl, ⟨_, rfl, rfl⟩, by decide +kernel⟩
theorem vX8_191 : av_cv RX8 191 mX8_logNow 8 0 := ⟨av_in (by decide +kernel) rfl, av_in (by decide +kernel) rfl, av_in (by decide +kernel) rfl, ⟨_, rfl, rfl⟩, by decide +kernel⟩
theorem vL_68 : av_cv RL 68 mX8_low 8 0 := ⟨av_in (by decide +kernel) rfl, av_in (by decide +kernel) rfl, av_in (by decide +kernel) rfl, ⟨_, rfl, rfl⟩, by decide +kernel⟩
theorem vL_76 : av_cv RL 76 mX8_factors 8 2 := ⟨av_in (by decide +kernel) rfl, av_in (by decide +kernel) rfl, av_in (by decide +kernel) rfl, ⟨_, rfl, rfl⟩, by decide +kernel⟩
theorem kX8_194 : Cond.constantLong RX8 194 (8) ∈ av_WT := av_in (by decide +kernel) rfl
theorem kX8_196 : Cond.constantLong RX8 196 (999) ∈ av_WT := av_in (by decide +kernel) rfl
theorem vL_81 : av_cv RL 81 mX8_entry 8 4 := ⟨av_in (by decide +kernel) rfl, av_in (by decide +kernel) rfl, av_in (by decide +kernel) rfl, ⟨_, rfl, rfl⟩, by decide +kernel⟩
theorem kX8_198 : Cond.constantLong RX8 198 (11) ∈ av_WT := av_in (by decide +kernel) rfl
theorem kX8_200 : Cond.constantLong RX8 200 (7) ∈ av_WT := av_in (by decide +kernel) rfl
theorem kX8_202 : Cond.constantLong RX8 202 (9999) ∈ av_WT := av_in (by decide +kernel) rfl
theorem vL_85 : av_cv RL 85 mX8_hold 8 0 := ⟨av_in (by decide +kernel) rfl, av_in (by decide +kernel) rfl, av_in (by decide +kernel) rfl, ⟨_, rfl, rfl⟩, by decide +kernel⟩
theorem vX8_205 : av_cv RX8 205 mX8_wrongPair 8 0 := ⟨av_in (by decide +kernel) rfl, av_in (by decide +kernel) rfl, av_in (by decide +kernel) rfl, ⟨_, rfl, rfl⟩, by decide +kernel⟩
theorem kX8_204 : Cond.constant RX8 204 (-900000009) ∈ av_WT := av_in (by decide +kernel) rfl
theorem vL_89 : av_cv RL 89 mX8_wrong 8 0 := ⟨av_in (by decide +kernel) rfl, av_in (by decide +kernel) rfl, av_in (by decide +kernel) rfl, ⟨_, rfl, rfl⟩, by decide +kernel⟩
theorem vL_94 : av_cv RL 94 mX8_wall 8 4 := ⟨av_in (by decide +kernel) rfl, av_in (by decide +kernel) rfl, av_in (by decide +kernel) rfl, ⟨_, rfl, rfl⟩, by decide +kernel⟩
theorem kX8_208 : Cond.constantLong RX8 208 (-9) ∈ av_WT := av_in (by decide +kernel) rfl
theorem kX8_210 : Cond.constantLong RX8 210 (9) ∈ av_WT := av_in (by decide +kernel) rfl
theorem kX8_212 : Cond.constantLong RX8 212 (-99) ∈ av_WT := av_in (by decide +kernel) rfl
theorem kX8_214 : Cond.constantLong RX8 214 (99) ∈ av_WT := av_in (by decide +kernel) rfl
theorem vL_98 : av_cv RL 98 mX8_shift 8 2 := ⟨av_in (by decide +kernel) rfl, av_in (by decide +kernel) rfl, av_in (by decide +kernel) rfl, ⟨_, rfl, rfl⟩, by decide +kernel⟩
theorem vX8_219 : av_cv RX8 219 mX8_isWall 8 1 := ⟨av_in (by decide +kernel) rfl, av_in (by decide +kernel) rfl, av_in (by decide +kernel) rfl, ⟨_, rfl, rfl⟩, by decide +kernel⟩
theorem vL_102 : av_cv RL 102 mX8_on 8 2 := ⟨av_in (by decide +kernel) rfl, av_in (by decide +kernel) rfl, av_in (by decide +kernel) rfl, ⟨_, rfl, rfl⟩, by decide +kernel⟩
theorem vL_106 : av_cv RL 106 mX8_about 8 2 := ⟨av_in (by decide +kernel) rfl, av_in (by decide +kernel) rfl, av_in (by decide +kernel) rfl, ⟨_, rfl, rfl⟩, by decide +kernel⟩
theorem kX8_222 : Cond.constantLong RX8 222 (3) ∈ av_WT := av_in (by decide +kernel) rfl
theorem vL_110 : av_cv RL 110 mX8_sound 8 0 := ⟨av_in (by decide +kernel) rfl, av_in (by decide +kernel) rfl, av_in (by decide +kernel) rfl, ⟨_, rfl, rfl⟩, by decide +kernel⟩
theorem vX8_255 : av_cv RX8 255 mX8_setOn 8 0 := ⟨av_in (by decide +kernel) rfl, av_in (by decide +kernel) rfl, av_in (by decide +kernel) rfl, ⟨_, rfl, rfl⟩, by decide +kernel⟩
theorem vX8_258 : av_cv RX8 258 mX8_isSound 8 1 := ⟨av_in (by decide +kernel) rfl, av_in (by decide +kernel) rfl, av_in (by decide +kernel) rfl, ⟨_, rfl, rfl⟩, by decide +kernel⟩
theorem vX8_247 : av_cv RX8 247 mX8_layVertices 8 1 := ⟨av_in (by decide +kernel) rfl, av_in (by decide +kernel) rfl, av_in (by decide +kernel) rfl, ⟨_, rfl, rfl⟩, by decide +kernel⟩
theorem vX8_235 : av_cv RX8 235 mX8_determinant 8 6 := ⟨av_in (by decide +kernel) rfl, av_in (by decide +kernel) rfl, av_in (by decide +kernel) rfl, ⟨_, rfl, rfl⟩, by decide +kernel⟩
theorem vX8_239 : av_cv RX8 239 mX8_holdsAll 8 5 := ⟨av_in (by decide +kernel) rfl, av_in (by decide +kernel) rfl, av_in (by decide +kernel) rfl, ⟨_, rfl, rfl⟩, by decide +kernel⟩
theorem vX8_224 : av_cv RX8 224 mX8_leaves 8 5 := ⟨av_in (by decide +kernel) rfl, av_in (by decide +kernel) rfl, av_in (by decide +kernel) rfl, ⟨_, rfl, rfl⟩, by decide +kernel⟩
theorem vX8_243 : av_cv RX8 243 mX8_put 8 4 := ⟨av_in (by decide +kernel) rfl, av_in (by decide +kernel) rfl, av_in (by decide +kernel) rfl, ⟨_, rfl, rfl⟩, by decide +kernel⟩
theorem vX8_231 : av_cv RX8 231 mX8_order 8 5 := ⟨av_in (by decide +kernel) rfl, av_in (by decide +kernel) rfl, av_in (by decide +kernel) rfl, ⟨_, rfl, rfl⟩, by decide +kernel⟩
theorem vX8_251 : av_cv RX8 251 mX8_goesOn 8 4 := ⟨av_in (by decide +kernel) rfl, av_in (by decide +kernel) rfl, av_in (by decide +kernel) rfl, ⟨_, rfl, rfl⟩, by decide +kernel⟩
theorem vL_114 : av_cv RL 114 mX8_vertices 8 0 := ⟨av_in (by decide +kernel) rfl, av_in (by decide +kernel) rfl, av_in (by decide +kernel) rfl, ⟨_, rfl, rfl⟩, by decide +kernel⟩
theorem vL_119 : av_cv RL 119 mX8_vertex 8 3 := ⟨av_in (by decide +kernel) rfl, av_in (by decide +kernel) rfl, av_in (by decide +kernel) rfl, ⟨_, rfl, rfl⟩, by decide +kernel⟩
theorem kX8_261 : Cond.constantLong RX8 261 (-900000001) ∈ av_WT := av_in (by decide +kernel) rfl
theorem kX8_263 : Cond.constantLong RX8 263 (-900000002) ∈ av_WT := av_in (by decide +kernel) rfl
theorem sX8_265 : av_cs0 RX8 265 mX8_told 3 := ⟨Or.inl (av_in (by decide +kernel) rfl), av_in (by decide +kernel) rfl, by decide +kernel⟩
theorem vL_124 : av_cv RL 124 mX8_tight 8 1 := ⟨av_in (by decide +kernel) rfl, av_in (by decide +kernel) rfl, av_in (by decide +kernel) rfl, ⟨_, rfl, rfl⟩, by decide +kernel⟩
theorem vX8_269 : av_cv RX8 269 mX8_tightAt 8 2 := ⟨av_in (by decide +kernel) rfl, av_in (by decide +kernel) rfl, av_in (by decide +kernel) rfl, ⟨_, rfl, rfl⟩, by decide +kernel⟩
theorem vL_128 : av_cv RL 128 mX8_rims 8 0 := ⟨av_in (by decide +kernel) rfl, av_in (by decide +kernel) rfl, av_in (by decide +kernel) rfl, ⟨_, rfl, rfl⟩, by decide +kernel⟩
theorem vX8_272 : av_cv RX8 272 mX8_hasTwo 8 1 := ⟨av_in (by decide +kernel) rfl, av_in (by decide +kernel) rfl, av_in (by decide +kernel) rfl, ⟨_, rfl, rfl⟩, by decide +kernel⟩
theorem vL_132 : av_cv RL 132 mX8_idle 8 1 := ⟨av_in (by decide +kernel) rfl, av_in (by decide +kernel) rfl, av_in (by decide +kernel) rfl, ⟨_, rfl, rfl⟩, by decide +kernel⟩
theorem vX8_284 : av_cv RX8 284 mX8_isIdle 8 1 := ⟨av_in (by decide +kernel) rfl, av_in (by decide +kernel) rfl, av_in (by decide +kernel) rfl, ⟨_, rfl, rfl⟩, by decide +kernel⟩
theorem vX8_278 : av_cv RX8 278 mX8_keep 8 0 := ⟨av_in (by decide +kernel) rfl, av_in (by decide +kernel) rfl, av_in (by decide +kernel) rfl, ⟨_, rfl, rfl⟩, by decide +kernel⟩
theorem vX8_281 : av_cv RX8 281 mX8_areKept 8 0 := ⟨av_in (by decide +kernel) rfl, av_in (by decide +kernel) rfl, av_in (by decide +kernel) rfl, ⟨_, rfl, rfl⟩, by decide +kernel⟩
theorem vL_136 : av_cv RL 136 mX8_shadow 8 0 := ⟨av_in (by decide +kernel) rfl, av_in (by decide +kernel) rfl, av_in (by decide +kernel) rfl, ⟨_, rfl, rfl⟩, by decide +kernel⟩
theorem vX8_290 : av_cv RX8 290 mX8_layShadow 8 1 := ⟨av_in (by decide +kernel) rfl, av_in (by decide +kernel) rfl, av_in (by decide +kernel) rfl, ⟨_, rfl, rfl⟩, by decide +kernel⟩
theorem vL_141 : av_cv RL 141 mX8_shadowAt 8 3 := ⟨av_in (by decide +kernel) rfl, av_in (by decide +kernel) rfl, av_in (by decide +kernel) rfl, ⟨_, rfl, rfl⟩, by decide +kernel⟩
theorem kX8_293 : Cond.constantLong RX8 293 (-900000003) ∈ av_WT := av_in (by decide +kernel) rfl
theorem vL_145 : av_cv RL 145 mX8_seen 8 0 := ⟨av_in (by decide +kernel) rfl, av_in (by decide +kernel) rfl, av_in (by decide +kernel) rfl, ⟨_, rfl, rfl⟩, by decide +kernel⟩
theorem vX8_295 : av_cv RX8 295 mX8_isSeen 8 0 := ⟨av_in (by decide +kernel) rfl, av_in (by decide +kernel) rfl, av_in (by decide +kernel) rfl, ⟨_, rfl, rfl⟩, by decide +kernel⟩
theorem vL_149 : av_cv RL 149 mX8_missed 8 0 := ⟨av_in (by decide +kernel) rfl, av_in (by decide +kernel) rfl, av_in (by decide +kernel) rfl, ⟨_, rfl, rfl⟩, by decide +kernel⟩
theorem vX8_298 : av_cv RX8 298 mX8_isOutside 8 3 := ⟨av_in (by decide +kernel) rfl, av_in (by decide +kernel) rfl, av_in (by decide +kernel) rfl, ⟨_, rfl, rfl⟩, by decide +kernel⟩
theorem vL_153 : av_cv RL 153 mX8_beyond 8 0 := ⟨av_in (by decide +kernel) rfl, av_in (by decide +kernel) rfl, av_in (by decide +kernel) rfl, ⟨_, rfl, rfl⟩, by decide +kernel⟩
theorem vL_157 : av_cv RL 157 mX8_fewest 8 0 := ⟨av_in (by decide +kernel) rfl, av_in (by decide +kernel) rfl, av_in (by decide +kernel) rfl, ⟨_, rfl, rfl⟩, by decide +kernel⟩
theorem vX8_312 : av_cv RX8 312 mX8_layFewest 8 0 := ⟨av_in (by decide +kernel) rfl, av_in (by decide +kernel) rfl, av_in (by decide +kernel) rfl, ⟨_, rfl, rfl⟩, by decide +kernel⟩
theorem sX8_305 : av_cs0 RX8 305 mX8_bits 1 := ⟨Or.inl (av_in (by decide +kernel) rfl), av_in (by decide +kernel) rfl, by decide +kernel⟩
theorem sX8_309 : av_cs0 RX8 309 mX8_isFirst 2 := ⟨Or.inl (av_in (by decide +kernel) rfl), av_in (by decide +kernel) rfl, by decide +kernel⟩
theorem vL_161 : av_cv RL 161 mX8_needed 8 1 := ⟨av_in (by decide +kernel) rfl, av_in (by decide +kernel) rfl, av_in (by decide +kernel) rfl, ⟨_, rfl, rfl⟩, by decide +kernel⟩
theorem vL_72 : av_cv RL 72 mX8_high 8 0 := ⟨av_in (by decide +kernel) rfl, av_in (by decide +kernel) rfl, av_in (by decide +kernel) rfl, ⟨_, rfl, rfl⟩, by decide +kernel⟩
theorem vL_166 : av_cv RL 166 mX8_blow 8 1 := ⟨av_in (by decide +kernel) rfl, av_in (by decide +kernel) rfl, av_in (by decide +kernel) rfl, ⟨_, rfl, rfl⟩, by decide +kernel⟩
theorem sX8_315 : av_cs0 RX8 315 mX8_isAbove 4 := ⟨Or.inl (av_in (by decide +kernel) rfl), av_in (by decide +kernel) rfl, by decide +kernel⟩
theorem vL_170 : av_cv RL 170 mX8_most 8 2 := ⟨av_in (by decide +kernel) rfl, av_in (by decide +kernel) rfl, av_in (by decide +kernel) rfl, ⟨_, rfl, rfl⟩, by decide +kernel⟩
theorem vL_175 : av_cv RL 175 mX8_mostOf 8 4 := ⟨av_in (by decide +kernel) rfl, av_in (by decide +kernel) rfl, av_in (by decide +kernel) rfl, ⟨_, rfl, rfl⟩, by decide +kernel⟩
theorem vX8_319 : av_cv RX8 319 mX8_mayAsk 8 3 := ⟨av_in (by decide +kernel) rfl, av_in (by decide +kernel) rfl, av_in (by decide +kernel) rfl, ⟨_, rfl, rfl⟩, by decide +kernel⟩
theorem vX8_323 : av_cv RX8 323 mX8_bestVertex 8 3 := ⟨av_in (by decide +kernel) rfl, av_in (by decide +kernel) rfl, av_in (by decide +kernel) rfl, ⟨_, rfl, rfl⟩, by decide +kernel⟩
theorem vL_179 : av_cv RL 179 mX8_at 8 3 := ⟨av_in (by decide +kernel) rfl, av_in (by decide +kernel) rfl, av_in (by decide +kernel) rfl, ⟨_, rfl, rfl⟩, by decide +kernel⟩
theorem vL_183 : av_cv RL 183 mX8_count 8 1 := ⟨av_in (by decide +kernel) rfl, av_in (by decide +kernel) rfl, av_in (by decide +kernel) rfl, ⟨_, rfl, rfl⟩, by decide +kernel⟩
/-! the cells of the two objects, by number -/
def av_N : Nat := 59
def av_LY : List (Nat × Nat) := [(10, 4), (5, 4), (0, 12), (0, 12), (7, 6), (0, 12), (0, 12), (0, 12), (0, 14), (8, 4), (0, 96), (0, 96), (3, 6), (9, 6), (0, 10), (0, 10), (0, 10), (0, 10), (6, 10), (0, 120), (0, 120), (0, 120), (0, 120), (0, 120), (0, 120), (0, 120), (0, 90), (0, 120), (7, 6), (0, 120), (0, 120), (0, 120), (0, 122), (4, 3), (0, 120), (11, 34), (0, 12), (0, 12), (1, 140), (1, 140), (1, 140), (0, 12), (0, 121), (1, 256), (0, 8), (0, 9), (0, 9), (1, 66), (0, 66), (1, 64), (0, 96), (0, 96), (0, 40), (2, 10), (1, 121), (1, 121), (1, 121), (1, 121), (1, 484)]
def av_ly (k : Nat) : Nat × Nat := av_LY.getD k (0, 0)
def av_RF : List (Nat × Nat × Nat) := [(0, 0, 1), (0, 1, 9), (0, 2, 12), (0, 3, 33), (1, 0, 2), (1, 1, 3), (1, 2, 4), (4, 0, 5), (4, 1, 6), (4, 2, 7), (4, 3, 8), (9, 0, 10), (9, 1, 11), (12, 0, 13), (12, 1, 18), (12, 2, 27), (12, 3, 28), (13, 0, 14), (13, 1, 15), (13, 2, 16), (13, 3, 17), (18, 0, 19), (18, 1, 20), (18, 2, 21), (18, 3, 22), (18, 4, 23), (18, 5, 24), (18, 6, 25), (18, 7, 26), (28, 0, 29), (28, 1, 30), (28, 2, 31), (28, 3, 32), (33, 0, 34), (35, 1, 36), (35, 2, 37), (35, 3, 38), (35, 4, 39), (35, 5, 40), (35, 6, 41), (35, 8, 42), (35, 10, 43), (35, 12, 44), (35, 14, 45), (35, 15, 46), (35, 16, 47), (35, 17, 48), (35, 18, 49), (35, 21, 50), (35, 22, 51), (35, 24, 52), (35, 25, 53), (35, 27, 54), (35, 28, 55), (35, 29, 56), (35, 30, 57), (35, 32, 58)]
def av_rfl : List (Nat × Nat × Nat) → Nat → Nat → Option Nat
  | [], _, _ => none
  | (a, b, c) :: r, k, i => bif Nat.beq a k && Nat.beq b i then some c else av_rfl r k i
def av_rf (k i : Nat) : Option Nat := av_rfl av_RF k i
def av_lf (k i : Nat) : Bool := Nat.beq k 35 && Nat.beq i 13
