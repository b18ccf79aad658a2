/-! ===== the two catching helpers: meet, pivot ===== -/
def mL_meet : zM := (cL_meet, 5, some .int, RL, wsL_meet, "meet")
def mL_pivot : zM := (cL_pivot, 6, some .int, RL, wsL_pivot, "pivot")
abbrev rmL_meet : Room := { frames := 7, cells := 1, slots := 6, locals := 156 }
abbrev rmL_pivot : Room := { frames := 7, cells := 1, slots := 6, locals := 106 }
theorem okk_X6_sign : zOk yX6_sign 1 := by unfold zOk; decide +kernel
theorem okk_X7_sign : zOk yX7_sign 1 := by unfold zOk; decide +kernel
theorem okk_X6_read : zOk yX6_read 0 := by unfold zOk; decide +kernel
theorem okk_X7_read : zOk yX7_read 0 := by unfold zOk; decide +kernel
theorem okk_X6_count : zOk yX6_count 1 := by unfold zOk; decide +kernel
theorem okk_X7_count : zOk yX7_count 1 := by unfold zOk; decide +kernel
theorem okk_X6_line : zOk yX6_line 3 := by unfold zOk; decide +kernel
theorem okk_X7_line : zOk yX7_line 3 := by unfold zOk; decide +kernel
theorem okk_X6_bar : zOk yX6_bar 3 := by unfold zOk; decide +kernel
theorem okk_X7_bar : zOk yX7_bar 3 := by unfold zOk; decide +kernel
theorem okk_X6_orient : zOk yX6_orient 4 := by unfold zOk; decide +kernel
theorem okk_X7_orient : zOk yX7_orient 4 := by unfold zOk; decide +kernel
theorem okk_X6_realise : zOk yX6_realise 2 := by unfold zOk; decide +kernel
theorem okk_X7_realise : zOk yX7_realise 2 := by unfold zOk; decide +kernel
theorem okk_X6_coordinate : zOk yX6_coordinate 2 := by unfold zOk; decide +kernel
theorem okk_X7_coordinate : zOk yX7_coordinate 2 := by unfold zOk; decide +kernel
theorem okk_X6_check : zOk yX6_check 0 := by unfold zOk; decide +kernel
theorem okk_X7_check : zOk yX7_check 0 := by unfold zOk; decide +kernel
theorem okk_X6_meet : zOk yX6_meet 2 := by unfold zOk; decide +kernel
theorem okk_X6_meets : zOk yX6_meets 2 := by unfold zOk; decide +kernel
theorem okk_X7_meets : zOk yX7_meets 2 := by unfold zOk; decide +kernel
theorem okk_X6_pivot : zOk yX6_pivot 3 := by unfold zOk; decide +kernel
theorem okk_X7_pivot : zOk yX7_pivot 3 := by unfold zOk; decide +kernel
theorem okk_X6_deduce : zOk yX6_deduce 0 := by unfold zOk; decide +kernel
theorem okk_X7_deduce : zOk yX7_deduce 0 := by unfold zOk; decide +kernel
theorem okk_X6_row : zOk yX6_row 2 := by unfold zOk; decide +kernel
theorem okk_X7_row : zOk yX7_row 2 := by unfold zOk; decide +kernel
theorem okk_X6_plant : zOk yX6_plant 2 := by unfold zOk; decide +kernel
theorem okk_X7_plant : zOk yX7_plant 2 := by unfold zOk; decide +kernel
theorem okk_X6_proof : zOk yX6_proof 0 := by unfold zOk; decide +kernel
theorem okk_X7_proof : zOk yX7_proof 0 := by unfold zOk; decide +kernel
theorem okk_X6_known : zOk yX6_known 3 := by unfold zOk; decide +kernel
theorem okk_X7_known : zOk yX7_known 3 := by unfold zOk; decide +kernel
theorem okk_X6_certificate : zOk yX6_certificate 2 := by unfold zOk; decide +kernel
theorem okk_X7_certificate : zOk yX7_certificate 2 := by unfold zOk; decide +kernel
theorem okk_X6_kinds : zOk yX6_kinds 2 := by unfold zOk; decide +kernel
theorem okk_X7_kinds : zOk yX7_kinds 2 := by unfold zOk; decide +kernel
theorem okk_X6_canonical : zOk yX6_canonical 1 := by unfold zOk; decide +kernel
theorem okk_X7_canonical : zOk yX7_canonical 1 := by unfold zOk; decide +kernel
theorem okk_X6_orbit : zOk yX6_orbit 1 := by unfold zOk; decide +kernel
theorem okk_X7_orbit : zOk yX7_orbit 1 := by unfold zOk; decide +kernel
theorem okk_X7_thrown : zOk yX7_thrown 0 := by unfold zOk; decide +kernel
theorem okk_L_meet : zOk yL_meet 4 := by unfold zOk; decide +kernel
theorem okk_L_pivot : zOk yL_pivot 5 := by unfold zOk; decide +kernel
theorem okk_X6_init : zOk yX6_init 0 := by unfold zOk; decide +kernel
theorem okk_X7_init : zOk yX7_init 0 := by unfold zOk; decide +kernel
theorem meL_meet_k : Cond.classLink (zown mL_meet) 13 zAE ∈ zws mL_meet := by decide +kernel
theorem meL_pivot_k : Cond.classLink (zown mL_pivot) 13 zAE ∈ zws mL_pivot := by decide +kernel
theorem c_L_meet (G : zG) (g g1 : Nat → va_E) (J : Nat → Int64) (a b v : Int32) {fs : List Value} (h0 : g 0 = zO 6 fs) (hC : zC G yX6_meet wsX6_meet (zrm 6 133) false [.ref (zB G + 0), .int a, .int b] (zN, g) (fun r h => r = some (.int v) ∧ h = (zN, g1))) (h112 : g1 112 = zJ G 1 J) : zC G yL_meet wsL_meet rmL_meet false [.ref (zB G + 0), .int a, .int b, .ref (zB G + 112)] (zN, g) (fun r h => r = some (.int (nI 0)) ∧ h = (zN, zu g1 112 (zJ G 1 (vp_updL J (nI 0).toNatClampNeg v.toInt64)))) := by
  refine zC_ofH (lv := [some (.ref (zB G + 0)), some (.int a), some (.int b), some (.ref (zB G + 112)), none]) mL_meet rfl rfl (by decide) (by intro v hv; simp at hv; rcases hv with rfl | rfl | rfl | rfl <;> rfl) (Nat.le_of_ble_eq_true rfl) rfl ?_
  refine zh_aload_n dL_meet_0 rfl rfl ?_
  refine zh_iconst (v := nI 0) dL_meet_1 rfl (by decide) ?_
  refine zh_aload_n dL_meet_2 rfl rfl ?_
  refine zh_iload_n dL_meet_3 rfl rfl ?_
  refine zh_iload_n dL_meet_4 rfl rfl ?_
  refine zh_callVi hC gL_meet_X6_meet rfl dL_meet_5 rfl rfl rfl okk_X6_meet (Nat.le_of_ble_eq_true rfl) h0 rfl ⟨Nat.le_of_ble_eq_true rfl, Nat.le_of_ble_eq_true rfl⟩ ⟨Nat.le_of_ble_eq_true rfl, Nat.le_of_ble_eq_true rfl⟩ (Nat.le_of_ble_eq_true rfl) ?_
  refine zh_i2l dL_meet_8 rfl ?_
  refine zh_last dL_meet_9 rfl (Nat.le_of_ble_eq_true rfl) h112 (vp_in_nI (by decide) (by decide)) ?_
  refine zh_goto (tgt := 17) dL_meet_10 (by decide) ?_
  refine zh_iconst (v := nI 0) dL_meet_17 rfl (by decide) ?_
  exact zh_ireturn dL_meet_18 rfl rfl (Nat.le_of_ble_eq_true rfl) (Nat.le_of_ble_eq_true rfl) ⟨rfl, rfl⟩
theorem c_L_meetX (G : zG) (g g1 : Nat → va_E) (a b : Int32) {fs : List Value} (h0 : g 0 = zO 6 fs) (hC : zCX G yX6_meet wsX6_meet { frames := 6, cells := 1, slots := 6, locals := 133 } [.ref (zB G + 0), .int a, .int b] (zN, g) (zN, g1)) : zC G yL_meet wsL_meet rmL_meet false [.ref (zB G + 0), .int a, .int b, .ref (zB G + 112)] (zN, g) (fun r h => r = some (.int (nI 1)) ∧ h = (zN, g1)) := by
  refine zC_ofH (lv := [some (.ref (zB G + 0)), some (.int a), some (.int b), some (.ref (zB G + 112)), none]) mL_meet rfl rfl (by decide) (by intro v hv; simp at hv; rcases hv with rfl | rfl | rfl | rfl <;> rfl) (Nat.le_of_ble_eq_true rfl) rfl ?_
  refine zh_aload_n dL_meet_0 rfl rfl ?_
  refine zh_iconst (v := nI 0) dL_meet_1 rfl (by decide) ?_
  refine zh_aload_n dL_meet_2 rfl rfl ?_
  refine zh_iload_n dL_meet_3 rfl rfl ?_
  refine zh_iload_n dL_meet_4 rfl rfl ?_
  refine zh_callVX hC gL_meet_X6_meet rfl dL_meet_5 rfl rfl okk_X6_meet (Nat.le_of_ble_eq_true rfl) h0 rfl ⟨Nat.le_of_ble_eq_true rfl, Nat.le_of_ble_eq_true rfl⟩ ⟨Nat.le_of_ble_eq_true rfl, Nat.le_of_ble_eq_true rfl⟩ (Nat.le_of_ble_eq_true rfl) rfl (by decide) (by decide) meL_meet_k rfl (fun q => ?_)
  refine zh_astore_4 dL_meet_13 rfl ?_
  refine zh_iconst (v := nI 1) dL_meet_15 rfl (by decide) ?_
  exact zh_ireturn dL_meet_16 rfl rfl (Nat.le_of_ble_eq_true rfl) (Nat.le_of_ble_eq_true rfl) ⟨rfl, rfl⟩
theorem c_L_pivot (G : zG) (g g1 : Nat → va_E) (J : Nat → Int64) (a b d v : Int32) {fs : List Value} (h0 : g 0 = zO 6 fs) (hC : zC G yX6_pivot wsX6_pivot (zrm 2 47) false [.ref (zB G + 0), .int a, .int b, .int d] (zN, g) (fun r h => r = some (.int v) ∧ h = (zN, g1))) (h112 : g1 112 = zJ G 1 J) : zC G yL_pivot wsL_pivot rmL_pivot false [.ref (zB G + 0), .int a, .int b, .int d, .ref (zB G + 112)] (zN, g) (fun r h => r = some (.int (nI 0)) ∧ h = (zN, zu g1 112 (zJ G 1 (vp_updL J (nI 0).toNatClampNeg v.toInt64)))) := by
  refine zC_ofH (lv := [some (.ref (zB G + 0)), some (.int a), some (.int b), some (.int d), some (.ref (zB G + 112)), none]) mL_pivot rfl rfl (by decide) (by intro v hv; simp at hv; rcases hv with rfl | rfl | rfl | rfl | rfl <;> rfl) (Nat.le_of_ble_eq_true rfl) rfl ?_
  refine zh_aload dL_pivot_0 rfl rfl ?_
  refine zh_iconst (v := nI 0) dL_pivot_2 rfl (by decide) ?_
  refine zh_aload_n dL_pivot_3 rfl rfl ?_
  refine zh_iload_n dL_pivot_4 rfl rfl ?_
  refine zh_iload_n dL_pivot_5 rfl rfl ?_
  refine zh_iload_n dL_pivot_6 rfl rfl ?_
  refine zh_callVi hC gL_pivot_X6_pivot rfl dL_pivot_7 rfl rfl rfl okk_X6_pivot (Nat.le_of_ble_eq_true rfl) h0 rfl ⟨Nat.le_of_ble_eq_true rfl, Nat.le_of_ble_eq_true rfl⟩ ⟨Nat.le_of_ble_eq_true rfl, Nat.le_of_ble_eq_true rfl⟩ (Nat.le_of_ble_eq_true rfl) ?_
  refine zh_i2l dL_pivot_10 rfl ?_
  refine zh_last dL_pivot_11 rfl (Nat.le_of_ble_eq_true rfl) h112 (vp_in_nI (by decide) (by decide)) ?_
  refine zh_goto (tgt := 19) dL_pivot_12 (by decide) ?_
  refine zh_iconst (v := nI 0) dL_pivot_19 rfl (by decide) ?_
  exact zh_ireturn dL_pivot_20 rfl rfl (Nat.le_of_ble_eq_true rfl) (Nat.le_of_ble_eq_true rfl) ⟨rfl, rfl⟩
theorem c_L_pivotX (G : zG) (g g1 : Nat → va_E) (a b d : Int32) {fs : List Value} (h0 : g 0 = zO 6 fs) (hC : zCX G yX6_pivot wsX6_pivot { frames := 6, cells := 1, slots := 6, locals := 82 } [.ref (zB G + 0), .int a, .int b, .int d] (zN, g) (zN, g1)) : zC G yL_pivot wsL_pivot rmL_pivot false [.ref (zB G + 0), .int a, .int b, .int d, .ref (zB G + 112)] (zN, g) (fun r h => r = some (.int (nI 1)) ∧ h = (zN, g1)) := by
  refine zC_ofH (lv := [some (.ref (zB G + 0)), some (.int a), some (.int b), some (.int d), some (.ref (zB G + 112)), none]) mL_pivot rfl rfl (by decide) (by intro v hv; simp at hv; rcases hv with rfl | rfl | rfl | rfl | rfl <;> rfl) (Nat.le_of_ble_eq_true rfl) rfl ?_
  refine zh_aload dL_pivot_0 rfl rfl ?_
  refine zh_iconst (v := nI 0) dL_pivot_2 rfl (by decide) ?_
  refine zh_aload_n dL_pivot_3 rfl rfl ?_
  refine zh_iload_n dL_pivot_4 rfl rfl ?_
  refine zh_iload_n dL_pivot_5 rfl rfl ?_
  refine zh_iload_n dL_pivot_6 rfl rfl ?_
  refine zh_callVX hC gL_pivot_X6_pivot rfl dL_pivot_7 rfl rfl okk_X6_pivot (Nat.le_of_ble_eq_true rfl) h0 rfl ⟨Nat.le_of_ble_eq_true rfl, Nat.le_of_ble_eq_true rfl⟩ ⟨Nat.le_of_ble_eq_true rfl, Nat.le_of_ble_eq_true rfl⟩ (Nat.le_of_ble_eq_true rfl) rfl (by decide) (by decide) meL_pivot_k rfl (fun q => ?_)
  refine zh_astore_5 dL_pivot_15 rfl ?_
  refine zh_iconst (v := nI 1) dL_pivot_17 rfl (by decide) ?_
  exact zh_ireturn dL_pivot_18 rfl rfl (Nat.le_of_ble_eq_true rfl) (Nat.le_of_ble_eq_true rfl) ⟨rfl, rfl⟩
