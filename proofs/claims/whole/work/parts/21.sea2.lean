theorem ch_lt {fd y z : Nat} (h : fd ≤ 13) (hy : y < fd) (hz : z < fd) : fd + 1 + y * fd + z < 183 := by
  have h1 : (y + 1) * fd ≤ fd * fd := Nat.mul_le_mul_right fd hy
  have h2 : fd * fd ≤ 13 * fd := Nat.mul_le_mul_right fd h
  rw [Nat.add_mul] at h1
  omega
abbrev mX2_placeAt : zM := (cX2_placeAt, 2, (some .int), RX2, wsX2_placeAt, "placeAt")
theorem hiX2_placeAt_X2 : ∀ w ∈ wsX20, w ∈ wsX2_placeAt := fun w h => List.mem_cons_of_mem _ (List.mem_append_right _ h)
theorem lkX2_placeAt_9 : Cond.fieldLink RX2 9 "ConfigSearch$Plane" "field" "I" ∈ wsX2_placeAt := by decide +kernel
theorem okk_X2_quotient : zOk yX2_quotient 3 := by unfold zOk; decide +kernel
def X2_placeAt_v (fd : Nat) (pv : Nat → Int32) : Int32 := if (pv 0) = 0 then (if (pv 1) = 0 then (if (pv 2) = 0 then (-4) else (nI 0)) else ((nI 1) + (X2_quotient_v fd (pv 2) (pv 1)))) else ((((nI fd) + (nI 1)) + ((X2_quotient_v fd (pv 1) (pv 0)) * (nI fd))) + (X2_quotient_v fd (pv 2) (pv 0)))
set_option maxRecDepth 100000 in
set_option maxHeartbeats 4000000 in
theorem c_X2_placeAt (G : zG) (ex : Bool) (g : Nat → va_E) (fd psz : Nat) (pv : Nat → Int32) (hp1 : 1 ≤ fd) (hp : fd ≤ 13) (h41 : g 41 = (oPln G (nI fd) (nI psz))) (h55 : g 55 = (zI G 3 pv)) : zC G yX2_placeAt wsX2_placeAt (zrm 2 47) ex [.ref (zB G + 41), .ref (zB G + 55)] (zN, g) (fun r h => r = some (.int (X2_placeAt_v fd pv)) ∧ h = (zN, g)) := by
  refine zC_of mX2_placeAt (lv := [some (.ref (zB G + 41)), some (.ref (zB G + 55))]) rfl rfl (by decide) (by intro v hv; simp at hv; rcases hv with rfl | rfl <;> rfl) (Nat.le_of_ble_eq_true rfl) rfl ?_
  refine z_0 ?_
  refine z_aload_n dX2_placeAt_0 rfl rfl ?_
  refine z_iconst (v := nI 0) dX2_placeAt_1 rfl (by decide) ?_
  refine z_ialdN (j := 0) dX2_placeAt_2 rfl (Nat.le_of_ble_eq_true rfl) h55 (rfl) (by omega) (by decide) ?_
  refine z_if_eq (tgt := 46) dX2_placeAt_3 rfl (by decide) (fun c3 => ?_) (fun c3 => ?_)
  · refine z_aload_n dX2_placeAt_46 rfl rfl ?_
    refine z_iconst (v := nI 1) dX2_placeAt_47 rfl (by decide) ?_
    refine z_ialdN (j := 1) dX2_placeAt_48 rfl (Nat.le_of_ble_eq_true rfl) h55 (rfl) (by omega) (by decide) ?_
    refine z_if_eq (tgt := 68) dX2_placeAt_49 rfl (by decide) (fun c49 => ?_) (fun c49 => ?_)
    · refine z_aload_n dX2_placeAt_68 rfl rfl ?_
      refine z_iconst (v := nI 2) dX2_placeAt_69 rfl (by decide) ?_
      refine z_ialdN (j := 2) dX2_placeAt_70 rfl (Nat.le_of_ble_eq_true rfl) h55 (rfl) (by omega) (by decide) ?_
      refine z_if_eq (tgt := 78) dX2_placeAt_71 rfl (by decide) (fun c71 => ?_) (fun c71 => ?_)
      · refine z_bipush (v := (-4)) dX2_placeAt_78 rfl (by decide) ?_
        exact z_ireturn dX2_placeAt_80 rfl rfl (Nat.le_refl _) (Nat.le_refl _) (fun _ => rfl) ⟨by simp only [X2_placeAt_v, if_pos c3, if_pos c49, if_pos c71], rfl⟩
      · refine z_iconst (v := nI 0) dX2_placeAt_74 rfl (by decide) ?_
        refine z_goto (tgt := 80) dX2_placeAt_75 (by decide) ?_
        exact z_ireturn dX2_placeAt_80 rfl rfl (Nat.le_refl _) (Nat.le_refl _) (fun _ => rfl) ⟨by simp only [X2_placeAt_v, if_pos c3, if_pos c49, if_neg c71], rfl⟩
    · refine z_iconst (v := nI 1) dX2_placeAt_52 rfl (by decide) ?_
      refine z_aload_n dX2_placeAt_53 rfl rfl ?_
      refine z_get dX2_placeAt_54 rfl hiX2_placeAt_X2 0 lkX2_placeAt_9 (Nat.le_of_ble_eq_true rfl) h41 rfl (by decide) rfl ?_
      refine z_aload_n dX2_placeAt_57 rfl rfl ?_
      refine z_iconst (v := nI 2) dX2_placeAt_58 rfl (by decide) ?_
      refine z_ialdN (j := 2) dX2_placeAt_59 rfl (Nat.le_of_ble_eq_true rfl) h55 (rfl) (by omega) (by decide) ?_
      refine z_aload_n dX2_placeAt_60 rfl rfl ?_
      refine z_iconst (v := nI 1) dX2_placeAt_61 rfl (by decide) ?_
      refine z_ialdN (j := 1) dX2_placeAt_62 rfl (Nat.le_of_ble_eq_true rfl) h55 (rfl) (by omega) (by decide) ?_
      refine z_callSi (c_X2_quotient G ex _ fd (pv 2) (pv 1) (by omega) (by omega)) gX2_placeAt_X2_quotient rfl dX2_placeAt_63 rfl rfl okk_X2_quotient ⟨Nat.le_of_ble_eq_true rfl, Nat.le_of_ble_eq_true rfl⟩ ⟨Nat.le_of_ble_eq_true rfl, Nat.le_of_ble_eq_true rfl⟩ (Nat.le_of_ble_eq_true rfl) ?_
      refine z_iadd dX2_placeAt_66 rfl ?_
      exact z_ireturn dX2_placeAt_67 rfl rfl (Nat.le_refl _) (Nat.le_refl _) (fun _ => rfl) ⟨by simp only [X2_placeAt_v, if_pos c3, if_neg c49], rfl⟩
  · refine z_aload_n dX2_placeAt_6 rfl rfl ?_
    refine z_get dX2_placeAt_7 rfl hiX2_placeAt_X2 0 lkX2_placeAt_9 (Nat.le_of_ble_eq_true rfl) h41 rfl (by decide) rfl ?_
    refine z_iconst (v := nI 1) dX2_placeAt_10 rfl (by decide) ?_
    refine z_iadd dX2_placeAt_11 rfl ?_
    refine z_aload_n dX2_placeAt_12 rfl rfl ?_
    refine z_get dX2_placeAt_13 rfl hiX2_placeAt_X2 0 lkX2_placeAt_9 (Nat.le_of_ble_eq_true rfl) h41 rfl (by decide) rfl ?_
    refine z_aload_n dX2_placeAt_16 rfl rfl ?_
    refine z_iconst (v := nI 1) dX2_placeAt_17 rfl (by decide) ?_
    refine z_ialdN (j := 1) dX2_placeAt_18 rfl (Nat.le_of_ble_eq_true rfl) h55 (rfl) (by omega) (by decide) ?_
    refine z_aload_n dX2_placeAt_19 rfl rfl ?_
    refine z_iconst (v := nI 0) dX2_placeAt_20 rfl (by decide) ?_
    refine z_ialdN (j := 0) dX2_placeAt_21 rfl (Nat.le_of_ble_eq_true rfl) h55 (rfl) (by omega) (by decide) ?_
    refine z_callSi (c_X2_quotient G ex _ fd (pv 1) (pv 0) (by omega) (by omega)) gX2_placeAt_X2_quotient rfl dX2_placeAt_22 rfl rfl okk_X2_quotient ⟨Nat.le_of_ble_eq_true rfl, Nat.le_of_ble_eq_true rfl⟩ ⟨Nat.le_of_ble_eq_true rfl, Nat.le_of_ble_eq_true rfl⟩ (Nat.le_of_ble_eq_true rfl) ?_
    refine z_aload_n dX2_placeAt_25 rfl rfl ?_
    refine z_get dX2_placeAt_26 rfl hiX2_placeAt_X2 0 lkX2_placeAt_9 (Nat.le_of_ble_eq_true rfl) h41 rfl (by decide) rfl ?_
    refine z_imul dX2_placeAt_29 rfl ?_
    refine z_iadd dX2_placeAt_30 rfl ?_
    refine z_aload_n dX2_placeAt_31 rfl rfl ?_
    refine z_get dX2_placeAt_32 rfl hiX2_placeAt_X2 0 lkX2_placeAt_9 (Nat.le_of_ble_eq_true rfl) h41 rfl (by decide) rfl ?_
    refine z_aload_n dX2_placeAt_35 rfl rfl ?_
    refine z_iconst (v := nI 2) dX2_placeAt_36 rfl (by decide) ?_
    refine z_ialdN (j := 2) dX2_placeAt_37 rfl (Nat.le_of_ble_eq_true rfl) h55 (rfl) (by omega) (by decide) ?_
    refine z_aload_n dX2_placeAt_38 rfl rfl ?_
    refine z_iconst (v := nI 0) dX2_placeAt_39 rfl (by decide) ?_
    refine z_ialdN (j := 0) dX2_placeAt_40 rfl (Nat.le_of_ble_eq_true rfl) h55 (rfl) (by omega) (by decide) ?_
    refine z_callSi (c_X2_quotient G ex _ fd (pv 2) (pv 0) (by omega) (by omega)) gX2_placeAt_X2_quotient rfl dX2_placeAt_41 rfl rfl okk_X2_quotient ⟨Nat.le_of_ble_eq_true rfl, Nat.le_of_ble_eq_true rfl⟩ ⟨Nat.le_of_ble_eq_true rfl, Nat.le_of_ble_eq_true rfl⟩ (Nat.le_of_ble_eq_true rfl) ?_
    refine z_iadd dX2_placeAt_44 rfl ?_
    exact z_ireturn dX2_placeAt_45 rfl rfl (Nat.le_refl _) (Nat.le_refl _) (fun _ => rfl) ⟨by simp only [X2_placeAt_v, if_neg c3], rfl⟩
abbrev mX2_choose : zM := (cX2_choose, 5, none, RX2, wsX2_choose, "choose")
theorem hiX2_choose_X2 : ∀ w ∈ wsX20, w ∈ wsX2_choose := fun w h => List.mem_cons_of_mem _ (List.mem_append_right _ h)
theorem lkX2_choose_9 : Cond.fieldLink RX2 9 "ConfigSearch$Plane" "field" "I" ∈ wsX2_choose := by decide +kernel
theorem lkX2_choose_15 : Cond.fieldLink RX2 15 "ConfigSearch$Plane" "size" "I" ∈ wsX2_choose := by decide +kernel
theorem okk_X2_add : zOk yX2_add 3 := by unfold zOk; decide +kernel
def X2_choose_L73_F (y : Nat) (z : Nat) (a9 : (Nat) × (Nat → Int32) × (Nat → Int32) × (Nat → Int32)) : (Nat) × (Nat → Int32) × (Nat → Int32) × (Nat → Int32) := (a9.1 + 1, upd a9.2.1 a9.1 (nI 1), upd a9.2.2.1 a9.1 (nI y), upd a9.2.2.2 a9.1 (nI z))
def X2_choose_L65_F (y : Nat) (a9 : (Nat) × (Nat → Int32) × (Nat → Int32) × (Nat → Int32)) : (Nat) × (Nat → Int32) × (Nat → Int32) × (Nat → Int32) := ((zfold (X2_choose_L73_F y) 5 0 (a9.1, a9.2.1, a9.2.2.1, a9.2.2.2)).1, (zfold (X2_choose_L73_F y) 5 0 (a9.1, a9.2.1, a9.2.2.1, a9.2.2.2)).2.1, (zfold (X2_choose_L73_F y) 5 0 (a9.1, a9.2.1, a9.2.2.1, a9.2.2.2)).2.2.1, (zfold (X2_choose_L73_F y) 5 0 (a9.1, a9.2.1, a9.2.2.1, a9.2.2.2)).2.2.2)
def X2_choose_L26_F (z : Nat) (a9 : (Nat) × (Nat → Int32) × (Nat → Int32) × (Nat → Int32)) : (Nat) × (Nat → Int32) × (Nat → Int32) × (Nat → Int32) := (a9.1 + 1, upd a9.2.1 a9.1 (nI 0), upd a9.2.2.1 a9.1 (nI 1), upd a9.2.2.2 a9.1 (nI z))
def X2_choose_L73v2_F (y : Nat) (z : Nat) (a9 : (Nat) × (Nat → Int32) × (Nat → Int32) × (Nat → Int32)) : (Nat) × (Nat → Int32) × (Nat → Int32) × (Nat → Int32) := (a9.1 + 1, upd a9.2.1 a9.1 (nI 1), upd a9.2.2.1 a9.1 (nI y), upd a9.2.2.2 a9.1 (nI z))
def X2_choose_L65v2_F (f : Nat) (y : Nat) (a9 : (Nat) × (Nat → Int32) × (Nat → Int32) × (Nat → Int32)) : (Nat) × (Nat → Int32) × (Nat → Int32) × (Nat → Int32) := ((zfold (X2_choose_L73v2_F y) f 0 (a9.1, a9.2.1, a9.2.2.1, a9.2.2.2)).1, (zfold (X2_choose_L73v2_F y) f 0 (a9.1, a9.2.1, a9.2.2.1, a9.2.2.2)).2.1, (zfold (X2_choose_L73v2_F y) f 0 (a9.1, a9.2.1, a9.2.2.1, a9.2.2.2)).2.2.1, (zfold (X2_choose_L73v2_F y) f 0 (a9.1, a9.2.1, a9.2.2.1, a9.2.2.2)).2.2.2)
def X2_choose_p41_0 (n0 n1 n2 : Nat → Int32) (f : Nat) : Nat := if (nI f) = 0 then f else (zlet (zfold (X2_choose_L26_F) f 0 (0 + 1, upd n0 0 (nI 0), upd n1 0 (nI 0), upd n2 0 (nI 1))) (fun rr26 => f))
def X2_choose_p41_1 (n0 n1 n2 : Nat → Int32) (f : Nat) : Nat := if (nI f) = 0 then ((zfold (X2_choose_L65_F) 5 0 (0, n0, n1, n2)).1) else (zlet (zfold (X2_choose_L26_F) f 0 (0 + 1, upd n0 0 (nI 0), upd n1 0 (nI 0), upd n2 0 (nI 1))) (fun rr26 => (zfold (X2_choose_L65v2_F f) f 0 (rr26.1, rr26.2.1, rr26.2.2.1, rr26.2.2.2)).1))
def X2_choose_c43 (n0 n1 n2 : Nat → Int32) (f : Nat) : Nat → Int32 := if (nI f) = 0 then ((zfold (X2_choose_L65_F) 5 0 (0, n0, n1, n2)).2.1) else (zlet (zfold (X2_choose_L26_F) f 0 (0 + 1, upd n0 0 (nI 0), upd n1 0 (nI 0), upd n2 0 (nI 1))) (fun rr26 => (zfold (X2_choose_L65v2_F f) f 0 (rr26.1, rr26.2.1, rr26.2.2.1, rr26.2.2.2)).2.1))
def X2_choose_c44 (n0 n1 n2 : Nat → Int32) (f : Nat) : Nat → Int32 := if (nI f) = 0 then ((zfold (X2_choose_L65_F) 5 0 (0, n0, n1, n2)).2.2.1) else (zlet (zfold (X2_choose_L26_F) f 0 (0 + 1, upd n0 0 (nI 0), upd n1 0 (nI 0), upd n2 0 (nI 1))) (fun rr26 => (zfold (X2_choose_L65v2_F f) f 0 (rr26.1, rr26.2.1, rr26.2.2.1, rr26.2.2.2)).2.2.1))
def X2_choose_c45 (n0 n1 n2 : Nat → Int32) (f : Nat) : Nat → Int32 := if (nI f) = 0 then ((zfold (X2_choose_L65_F) 5 0 (0, n0, n1, n2)).2.2.2) else (zlet (zfold (X2_choose_L26_F) f 0 (0 + 1, upd n0 0 (nI 0), upd n1 0 (nI 0), upd n2 0 (nI 1))) (fun rr26 => (zfold (X2_choose_L65v2_F f) f 0 (rr26.1, rr26.2.1, rr26.2.2.1, rr26.2.2.2)).2.2.2))
set_option maxRecDepth 100000 in
set_option maxHeartbeats 4000000 in
theorem c_X2_choose (G : zG) (ex : Bool) (g : Nat → va_E) (fd psz : Nat) (n0 n1 n2 : Nat → Int32) (f : Nat) (hf : f ≤ 13) (h41 : g 41 = (oPln G (nI fd) (nI psz))) (h42 : g 42 = (zR G 3 (zrw G 3 43))) (h43 : g 43 = (zI G 183 n0)) (h44 : g 44 = (zI G 183 n1)) (h45 : g 45 = (zI G 183 n2)) : zC G yX2_choose wsX2_choose (zrm 1 23) ex [.ref (zB G + 41), .int (nI f)] (zN, g) (fun r h => r = none ∧ h = (zN, zus g [(41, (oPln G (nI (X2_choose_p41_0 n0 n1 n2 f)) (nI (X2_choose_p41_1 n0 n1 n2 f)))), (43, zI G 183 (X2_choose_c43 n0 n1 n2 f)), (44, zI G 183 (X2_choose_c44 n0 n1 n2 f)), (45, zI G 183 (X2_choose_c45 n0 n1 n2 f))])) := by
  refine zC_of mX2_choose (lv := [some (.ref (zB G + 41)), some (.int (nI f)), none, none, none]) rfl rfl (by decide) (by intro v hv; simp at hv; rcases hv with rfl | rfl <;> rfl) (Nat.le_of_ble_eq_true rfl) rfl ?_
  refine z_0 ?_
  refine z_heap (g' := zu (zus g []) 41 (oPln G (nI fd) (nI psz))) (zu_self (zus g []) 41 _ h41).symm ?_
  refine z_n (L' := [(41, (oPln G (nI fd) (nI psz)))]) rfl ?_
  refine z_heap (g' := zu (zus g [(41, (oPln G (nI fd) (nI psz)))]) 43 (zI G 183 n0)) (zu_self (zus g [(41, (oPln G (nI fd) (nI psz)))]) 43 _ h43).symm ?_
  refine z_n (L' := [(41, (oPln G (nI fd) (nI psz))), (43, (zI G 183 n0))]) rfl ?_
  refine z_heap (g' := zu (zus g [(41, (oPln G (nI fd) (nI psz))), (43, (zI G 183 n0))]) 44 (zI G 183 n1)) (zu_self (zus g [(41, (oPln G (nI fd) (nI psz))), (43, (zI G 183 n0))]) 44 _ h44).symm ?_
  refine z_n (L' := [(41, (oPln G (nI fd) (nI psz))), (43, (zI G 183 n0)), (44, (zI G 183 n1))]) rfl ?_
  refine z_heap (g' := zu (zus g [(41, (oPln G (nI fd) (nI psz))), (43, (zI G 183 n0)), (44, (zI G 183 n1))]) 45 (zI G 183 n2)) (zu_self (zus g [(41, (oPln G (nI fd) (nI psz))), (43, (zI G 183 n0)), (44, (zI G 183 n1))]) 45 _ h45).symm ?_
  refine z_n (L' := [(41, (oPln G (nI fd) (nI psz))), (43, (zI G 183 n0)), (44, (zI G 183 n1)), (45, (zI G 183 n2))]) rfl ?_
  refine z_aload_n dX2_choose_0 rfl rfl ?_
  refine z_iload_n dX2_choose_1 rfl rfl ?_
  refine z_putN (e9 := (oPln G (nI f) (nI psz))) tyX2 tyX2_ok nmX2 dX2_choose_2 rfl hiX2_choose_X2 0 lkX2_choose_9 rfl (by decide +kernel) (Nat.le_of_ble_eq_true rfl) rfl rfl (by decide) (Nat.le_of_ble_eq_true rfl) rfl rfl rfl ?_
  refine z_n (L' := [(41, (oPln G (nI f) (nI psz))), (43, (zI G 183 n0)), (44, (zI G 183 n1)), (45, (zI G 183 n2))]) rfl ?_
  refine z_aload_n dX2_choose_5 rfl rfl ?_
  refine z_iconst (v := nI 0) dX2_choose_6 rfl (by decide) ?_
  refine z_putN (e9 := (oPln G (nI f) (nI 0))) tyX2 tyX2_ok nmX2 dX2_choose_7 rfl hiX2_choose_X2 1 lkX2_choose_15 rfl (by decide +kernel) (Nat.le_of_ble_eq_true rfl) rfl rfl (by decide) (Nat.le_of_ble_eq_true rfl) rfl rfl rfl ?_
  refine z_n (L' := [(41, (oPln G (nI f) (nI 0))), (43, (zI G 183 n0)), (44, (zI G 183 n1)), (45, (zI G 183 n2))]) rfl ?_
  refine z_aload_n dX2_choose_10 rfl rfl ?_
  refine z_get dX2_choose_11 rfl hiX2_choose_X2 0 lkX2_choose_9 (Nat.le_of_ble_eq_true rfl) rfl rfl (by decide) rfl ?_
  refine z_if_eq (tgt := 47) dX2_choose_14 rfl (by decide) (fun c14 => ?_) (fun c14 => ?_)
  · refine z_aload_n dX2_choose_47 rfl rfl ?_
    refine z_get dX2_choose_48 rfl hiX2_choose_X2 0 lkX2_choose_9 (Nat.le_of_ble_eq_true rfl) rfl rfl (by decide) rfl ?_
    refine z_if_ne (tgt := 58) dX2_choose_51 rfl (by decide) (fun c51 => ?_) (fun c51 => ?_)
    · exact absurd c14 c51
    · refine z_iconst (v := nI 5) dX2_choose_54 rfl (by decide) ?_
      refine z_goto (tgt := 62) dX2_choose_55 (by decide) ?_
      refine z_istore_2 dX2_choose_62 rfl ?_
      refine z_iconst (v := nI 0) dX2_choose_63 rfl (by decide) ?_
      refine z_istore_3 dX2_choose_64 rfl ?_
      refine z_forI (head := fun y (st9 : (Nat) × (Nat → Int32) × (Nat → Int32) × (Nat → Int32)) => ∀ y4 : Option Value, Z G mX2_choose (zrm 1 23) ex _ 65 [some (.ref (zB G + 41)), some (.int (nI f)), some (.int (nI 5)), some (.int (nI y)), y4] [] (zN, zus g [(41, (oPln G (nI f) (nI st9.1))), (43, (zI G 183 st9.2.1)), (44, (zI G 183 st9.2.2.1)), (45, (zI G 183 st9.2.2.2))]) 0 0) (F := (X2_choose_L65_F)) (n := 5) (fun y a => a.1 = 5 * y) (fun y a hi h => by
            have e := zfold_I (n := 5) (fun z (b : Nat × (Nat → Int32) × (Nat → Int32) × (Nat → Int32)) => b.1 = 5 * y + z) (F := X2_choose_L73_F y) (fun z b _ hb => by show b.1 + 1 = 5 * y + (z + 1); rw [hb]; omega) 5 0 a rfl h
            show (zfold (X2_choose_L73_F y) 5 0 (a.1, a.2.1, a.2.2.1, a.2.2.2)).1 = 5 * (y + 1)
            rw [show (zfold (X2_choose_L73_F y) 5 0 (a.1, a.2.1, a.2.2.1, a.2.2.2)).1 = 5 * y + 5 from e]; omega) ?_ 5 0 (0, n0, n1, n2) (by omega) rfl ?_ _
      · intro y a9 hi hI K
        obtain ⟨ps2, m02, m12, m22⟩ := a9
        intro y4
        have hy : y < 5 := hi
        have hps : ps2 = 5 * y := hI
        refine z_iload_n dX2_choose_65 rfl rfl ?_
        refine z_iload_n dX2_choose_66 rfl rfl ?_
        refine z_icmp_ge (tgt := 99) dX2_choose_67 rfl (by decide) (fun c67 => ?_) (fun c67 => ?_)
        · exact absurd c67 (nI_ge hi (by omega))
        · refine z_iconst (v := nI 0) dX2_choose_70 rfl (by decide) ?_
          refine z_istore_4 dX2_choose_71 rfl ?_
          refine z_forI (head := fun z (st9 : (Nat) × (Nat → Int32) × (Nat → Int32) × (Nat → Int32)) => Z G mX2_choose (zrm 1 23) ex _ 73 [some (.ref (zB G + 41)), some (.int (nI f)), some (.int (nI 5)), some (.int (nI y)), some (.int (nI z))] [] (zN, zus g [(41, (oPln G (nI f) (nI st9.1))), (43, (zI G 183 st9.2.1)), (44, (zI G 183 st9.2.2.1)), (45, (zI G 183 st9.2.2.2))]) 0 0) (F := (X2_choose_L73_F y)) (n := 5) (fun z a => a.1 = 5 * y + z) (fun z a hi h => by
                show a.1 + 1 = 5 * y + (z + 1)
                rw [show a.1 = 5 * y + z from h]; omega) ?_ 5 0 (ps2, m02, m12, m22) (by omega) hI ?_
          · intro z a9 hi hI K
            obtain ⟨ps3, m03, m13, m23⟩ := a9
            have hz : z < 5 := hi
            have hps9 : ps3 = 5 * y + z := hI
            refine z_iload dX2_choose_73 rfl rfl ?_
            refine z_iload_n dX2_choose_75 rfl rfl ?_
            refine z_icmp_ge (tgt := 93) dX2_choose_76 rfl (by decide) (fun c76 => ?_) (fun c76 => ?_)
            · exact absurd c76 (nI_ge hi (by omega))
            · refine z_aload_n dX2_choose_79 rfl rfl ?_
              refine z_iconst (v := nI 1) dX2_choose_80 rfl (by decide) ?_
              refine z_iload_n dX2_choose_81 rfl rfl ?_
              refine z_iload dX2_choose_82 rfl rfl ?_
              refine z_callVv (c_X2_add G ex _ (nI f) ps3 m03 m13 m23 (nI 1) (nI y) (nI z) (by first | omega | (rw [hps9]; exact ch_lt hf hy hz)) rfl h42 rfl rfl rfl) gX2_choose_X2_add rfl dX2_choose_84 rfl rfl rfl okk_X2_add (Nat.le_of_ble_eq_true rfl) rfl rfl ⟨Nat.le_of_ble_eq_true rfl, Nat.le_of_ble_eq_true rfl⟩ ⟨Nat.le_of_ble_eq_true rfl, Nat.le_of_ble_eq_true rfl⟩ (Nat.le_of_ble_eq_true rfl) ?_
              refine z_nn (L' := [(41, (oPln G (nI f) (nI (ps3 + 1)))), (43, (zI G 183 (upd m03 ps3 (nI 1)))), (44, (zI G 183 (upd m13 ps3 (nI y)))), (45, (zI G 183 (upd m23 ps3 (nI z))))]) rfl ?_
              refine z_iinc_4 (v := nI (z + 1)) dX2_choose_87 rfl (zinc _) ?_
              refine z_goto (tgt := 73) dX2_choose_90 (by decide) ?_
              exact K
          · intro hI
            refine z_iload dX2_choose_73 rfl rfl ?_
            refine z_iload_n dX2_choose_75 rfl rfl ?_
            refine z_icmp_ge (tgt := 93) dX2_choose_76 rfl (by decide) (fun c76 => ?_) (fun c76 => ?_)
            · refine z_iinc_3 (v := nI (y + 1)) dX2_choose_93 rfl (zinc _) ?_
              refine z_goto (tgt := 65) dX2_choose_96 (by decide) ?_
              exact K _
            · exact absurd (nI_le (Nat.le_refl _) (by omega)) c76
      · intro hI y4
        refine z_iload_n dX2_choose_65 rfl rfl ?_
        refine z_iload_n dX2_choose_66 rfl rfl ?_
        refine z_icmp_ge (tgt := 99) dX2_choose_67 rfl (by decide) (fun c67 => ?_) (fun c67 => ?_)
        · exact z_return dX2_choose_99 rfl (Nat.le_refl _) (Nat.le_refl _) (fun _ => rfl) ⟨rfl, by simp only [X2_choose_p41_0, X2_choose_p41_1, X2_choose_c43, X2_choose_c44, X2_choose_c45, if_pos c14]⟩
        · exact absurd (nI_le (Nat.le_refl _) (by omega)) c67
  · refine z_aload_n dX2_choose_17 rfl rfl ?_
    refine z_iconst (v := nI 0) dX2_choose_18 rfl (by decide) ?_
    refine z_iconst (v := nI 0) dX2_choose_19 rfl (by decide) ?_
    refine z_iconst (v := nI 1) dX2_choose_20 rfl (by decide) ?_
    refine z_callVv (c_X2_add G ex _ (nI f) 0 n0 n1 n2 (nI 0) (nI 0) (nI 1) (by omega) rfl h42 rfl rfl rfl) gX2_choose_X2_add rfl dX2_choose_21 rfl rfl rfl okk_X2_add (Nat.le_of_ble_eq_true rfl) rfl rfl ⟨Nat.le_of_ble_eq_true rfl, Nat.le_of_ble_eq_true rfl⟩ ⟨Nat.le_of_ble_eq_true rfl, Nat.le_of_ble_eq_true rfl⟩ (Nat.le_of_ble_eq_true rfl) ?_
    refine z_nn (L' := [(41, (oPln G (nI f) (nI (0 + 1)))), (43, (zI G 183 (upd n0 0 (nI 0)))), (44, (zI G 183 (upd n1 0 (nI 0)))), (45, (zI G 183 (upd n2 0 (nI 1))))]) rfl ?_
    refine z_iconst (v := nI 0) dX2_choose_24 rfl (by decide) ?_
    refine z_istore_2 dX2_choose_25 rfl ?_
    refine z_forI (head := fun z (st9 : (Nat) × (Nat → Int32) × (Nat → Int32) × (Nat → Int32)) => Z G mX2_choose (zrm 1 23) ex _ 26 [some (.ref (zB G + 41)), some (.int (nI f)), some (.int (nI z)), none, none] [] (zN, zus g [(41, (oPln G (nI f) (nI st9.1))), (43, (zI G 183 st9.2.1)), (44, (zI G 183 st9.2.2.1)), (45, (zI G 183 st9.2.2.2))]) 0 0) (F := (X2_choose_L26_F)) (n := f) (fun z a => a.1 = 1 + z) (fun z a hi h => by
          show a.1 + 1 = 1 + (z + 1)
          rw [show a.1 = 1 + z from h]; omega) ?_ f 0 (0 + 1, upd n0 0 (nI 0), upd n1 0 (nI 0), upd n2 0 (nI 1)) (by omega) rfl ?_
    · intro z a9 hi hI K
      obtain ⟨ps1, m01, m11, m21⟩ := a9
      have hps : ps1 = 1 + z := hI
      have hz : z < f := hi
      refine z_iload_n dX2_choose_26 rfl rfl ?_
      refine z_aload_n dX2_choose_27 rfl rfl ?_
      refine z_get dX2_choose_28 rfl hiX2_choose_X2 0 lkX2_choose_9 (Nat.le_of_ble_eq_true rfl) rfl rfl (by decide) rfl ?_
      refine z_icmp_ge (tgt := 47) dX2_choose_31 rfl (by decide) (fun c31 => ?_) (fun c31 => ?_)
      · exact absurd c31 (nI_ge hi (by omega))
      · refine z_aload_n dX2_choose_34 rfl rfl ?_
        refine z_iconst (v := nI 0) dX2_choose_35 rfl (by decide) ?_
        refine z_iconst (v := nI 1) dX2_choose_36 rfl (by decide) ?_
        refine z_iload_n dX2_choose_37 rfl rfl ?_
        refine z_callVv (c_X2_add G ex _ (nI f) ps1 m01 m11 m21 (nI 0) (nI 1) (nI z) (by omega) rfl h42 rfl rfl rfl) gX2_choose_X2_add rfl dX2_choose_38 rfl rfl rfl okk_X2_add (Nat.le_of_ble_eq_true rfl) rfl rfl ⟨Nat.le_of_ble_eq_true rfl, Nat.le_of_ble_eq_true rfl⟩ ⟨Nat.le_of_ble_eq_true rfl, Nat.le_of_ble_eq_true rfl⟩ (Nat.le_of_ble_eq_true rfl) ?_
        refine z_nn (L' := [(41, (oPln G (nI f) (nI (ps1 + 1)))), (43, (zI G 183 (upd m01 ps1 (nI 0)))), (44, (zI G 183 (upd m11 ps1 (nI 1)))), (45, (zI G 183 (upd m21 ps1 (nI z))))]) rfl ?_
        refine z_iinc_2 (v := nI (z + 1)) dX2_choose_41 rfl (zinc _) ?_
        refine z_goto (tgt := 26) dX2_choose_44 (by decide) ?_
        exact K
    · generalize hR26 : zfold (X2_choose_L26_F) f 0 (0 + 1, upd n0 0 (nI 0), upd n1 0 (nI 0), upd n2 0 (nI 1)) = r9
      obtain ⟨ps1o, m01o, m11o, m21o⟩ := r9
      intro hI
      have hps0 : ps1o = 1 + f := hI
      refine z_iload_n dX2_choose_26 rfl rfl ?_
      refine z_aload_n dX2_choose_27 rfl rfl ?_
      refine z_get dX2_choose_28 rfl hiX2_choose_X2 0 lkX2_choose_9 (Nat.le_of_ble_eq_true rfl) rfl rfl (by decide) rfl ?_
      refine z_icmp_ge (tgt := 47) dX2_choose_31 rfl (by decide) (fun c31 => ?_) (fun c31 => ?_)
      · refine z_aload_n dX2_choose_47 rfl rfl ?_
        refine z_get dX2_choose_48 rfl hiX2_choose_X2 0 lkX2_choose_9 (Nat.le_of_ble_eq_true rfl) rfl rfl (by decide) rfl ?_
        refine z_if_ne (tgt := 58) dX2_choose_51 rfl (by decide) (fun c51 => ?_) (fun c51 => ?_)
        · refine z_aload_n dX2_choose_58 rfl rfl ?_
          refine z_get dX2_choose_59 rfl hiX2_choose_X2 0 lkX2_choose_9 (Nat.le_of_ble_eq_true rfl) rfl rfl (by decide) rfl ?_
          refine z_istore_2 dX2_choose_62 rfl ?_
          refine z_iconst (v := nI 0) dX2_choose_63 rfl (by decide) ?_
          refine z_istore_3 dX2_choose_64 rfl ?_
          refine z_forI (head := fun y (st9 : (Nat) × (Nat → Int32) × (Nat → Int32) × (Nat → Int32)) => ∀ y4 : Option Value, Z G mX2_choose (zrm 1 23) ex _ 65 [some (.ref (zB G + 41)), some (.int (nI f)), some (.int (nI f)), some (.int (nI y)), y4] [] (zN, zus g [(41, (oPln G (nI f) (nI st9.1))), (43, (zI G 183 st9.2.1)), (44, (zI G 183 st9.2.2.1)), (45, (zI G 183 st9.2.2.2))]) 0 0) (F := (X2_choose_L65v2_F f)) (n := f) (fun y a => a.1 = f + 1 + y * f) (fun y a hi h => by
                have e := zfold_I (n := f) (fun z (b : Nat × (Nat → Int32) × (Nat → Int32) × (Nat → Int32)) => b.1 = f + 1 + y * f + z) (F := X2_choose_L73v2_F y) (fun z b _ hb => by show b.1 + 1 = f + 1 + y * f + (z + 1); rw [hb]; omega) f 0 a (by omega) h
                show (zfold (X2_choose_L73v2_F y) f 0 (a.1, a.2.1, a.2.2.1, a.2.2.2)).1 = f + 1 + (y + 1) * f
                rw [show (zfold (X2_choose_L73v2_F y) f 0 (a.1, a.2.1, a.2.2.1, a.2.2.2)).1 = f + 1 + y * f + f from e, Nat.add_mul]; omega) ?_ f 0 (ps1o, m01o, m11o, m21o) (by omega) (by show ps1o = f + 1 + 0 * f; omega) ?_ _
          · intro y a9 hi hI K
            obtain ⟨ps4, m04, m14, m24⟩ := a9
            intro y4
            have hy : y < f := hi
            have hps : ps4 = f + 1 + y * f := hI
            refine z_iload_n dX2_choose_65 rfl rfl ?_
            refine z_iload_n dX2_choose_66 rfl rfl ?_
            refine z_icmp_ge (tgt := 99) dX2_choose_67 rfl (by decide) (fun c67 => ?_) (fun c67 => ?_)
            · exact absurd c67 (nI_ge hi (by omega))
            · refine z_iconst (v := nI 0) dX2_choose_70 rfl (by decide) ?_
              refine z_istore_4 dX2_choose_71 rfl ?_
              refine z_forI (head := fun z (st9 : (Nat) × (Nat → Int32) × (Nat → Int32) × (Nat → Int32)) => Z G mX2_choose (zrm 1 23) ex _ 73 [some (.ref (zB G + 41)), some (.int (nI f)), some (.int (nI f)), some (.int (nI y)), some (.int (nI z))] [] (zN, zus g [(41, (oPln G (nI f) (nI st9.1))), (43, (zI G 183 st9.2.1)), (44, (zI G 183 st9.2.2.1)), (45, (zI G 183 st9.2.2.2))]) 0 0) (F := (X2_choose_L73v2_F y)) (n := f) (fun z a => a.1 = f + 1 + y * f + z) (fun z a hi h => by
                    show a.1 + 1 = f + 1 + y * f + (z + 1)
                    rw [show a.1 = f + 1 + y * f + z from h]; omega) ?_ f 0 (ps4, m04, m14, m24) (by omega) hI ?_
              · intro z a9 hi hI K
                obtain ⟨ps5, m05, m15, m25⟩ := a9
                have hz : z < f := hi
                have hps9 : ps5 = f + 1 + y * f + z := hI
                refine z_iload dX2_choose_73 rfl rfl ?_
                refine z_iload_n dX2_choose_75 rfl rfl ?_
                refine z_icmp_ge (tgt := 93) dX2_choose_76 rfl (by decide) (fun c76 => ?_) (fun c76 => ?_)
                · exact absurd c76 (nI_ge hi (by omega))
                · refine z_aload_n dX2_choose_79 rfl rfl ?_
                  refine z_iconst (v := nI 1) dX2_choose_80 rfl (by decide) ?_
                  refine z_iload_n dX2_choose_81 rfl rfl ?_
                  refine z_iload dX2_choose_82 rfl rfl ?_
                  refine z_callVv (c_X2_add G ex _ (nI f) ps5 m05 m15 m25 (nI 1) (nI y) (nI z) (by first | omega | (rw [hps9]; exact ch_lt hf hy hz)) rfl h42 rfl rfl rfl) gX2_choose_X2_add rfl dX2_choose_84 rfl rfl rfl okk_X2_add (Nat.le_of_ble_eq_true rfl) rfl rfl ⟨Nat.le_of_ble_eq_true rfl, Nat.le_of_ble_eq_true rfl⟩ ⟨Nat.le_of_ble_eq_true rfl, Nat.le_of_ble_eq_true rfl⟩ (Nat.le_of_ble_eq_true rfl) ?_
                  refine z_nn (L' := [(41, (oPln G (nI f) (nI (ps5 + 1)))), (43, (zI G 183 (upd m05 ps5 (nI 1)))), (44, (zI G 183 (upd m15 ps5 (nI y)))), (45, (zI G 183 (upd m25 ps5 (nI z))))]) rfl ?_
                  refine z_iinc_4 (v := nI (z + 1)) dX2_choose_87 rfl (zinc _) ?_
                  refine z_goto (tgt := 73) dX2_choose_90 (by decide) ?_
                  exact K
              · intro hI
                refine z_iload dX2_choose_73 rfl rfl ?_
                refine z_iload_n dX2_choose_75 rfl rfl ?_
                refine z_icmp_ge (tgt := 93) dX2_choose_76 rfl (by decide) (fun c76 => ?_) (fun c76 => ?_)
                · refine z_iinc_3 (v := nI (y + 1)) dX2_choose_93 rfl (zinc _) ?_
                  refine z_goto (tgt := 65) dX2_choose_96 (by decide) ?_
                  exact K _
                · exact absurd (nI_le (Nat.le_refl _) (by omega)) c76
          · intro hI y4
            refine z_iload_n dX2_choose_65 rfl rfl ?_
            refine z_iload_n dX2_choose_66 rfl rfl ?_
            refine z_icmp_ge (tgt := 99) dX2_choose_67 rfl (by decide) (fun c67 => ?_) (fun c67 => ?_)
            · exact z_return dX2_choose_99 rfl (Nat.le_refl _) (Nat.le_refl _) (fun _ => rfl) ⟨rfl, by simp only [X2_choose_p41_0, X2_choose_p41_1, X2_choose_c43, X2_choose_c44, X2_choose_c45, if_neg c14, hR26, zlet_e]⟩
            · exact absurd (nI_le (Nat.le_refl _) (by omega)) c67
        · exact absurd c51 c14
      · exact absurd (nI_le (Nat.le_refl _) (by omega)) c31
